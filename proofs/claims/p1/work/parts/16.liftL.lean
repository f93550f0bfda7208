abbrev Y_L_setPath : z_Y := (yL_setPath, cL_setPath, 7, (some .int), 8, 138)
theorem z_dc_L_setPath : Y_L_setPath.1.cls ≠ "java/lang/invoke/MethodHandle" ∧ Y_L_setPath.1.cls ≠ "java/lang/invoke/VarHandle" ∧ (parseMethodDescriptor Y_L_setPath.1.desc).map (fun d => d.parameters.length) = some 6 := by decide +kernel
abbrev Y_L_setUp : z_Y := (yL_setUp, cL_setUp, 5, (some .int), 8, 134)
theorem z_dc_L_setUp : Y_L_setUp.1.cls ≠ "java/lang/invoke/MethodHandle" ∧ Y_L_setUp.1.cls ≠ "java/lang/invoke/VarHandle" ∧ (parseMethodDescriptor Y_L_setUp.1.desc).map (fun d => d.parameters.length) = some 4 := by decide +kernel
abbrev Y_L_lose : z_Y := (yL_lose, cL_lose, 5, (some .int), 8, 136)
theorem z_dc_L_lose : Y_L_lose.1.cls ≠ "java/lang/invoke/MethodHandle" ∧ Y_L_lose.1.cls ≠ "java/lang/invoke/VarHandle" ∧ (parseMethodDescriptor Y_L_lose.1.desc).map (fun d => d.parameters.length) = some 4 := by decide +kernel
abbrev Y_L_late : z_Y := (yL_late, cL_late, 5, (some .int), 8, 136)
theorem z_dc_L_late : Y_L_late.1.cls ≠ "java/lang/invoke/MethodHandle" ∧ Y_L_late.1.cls ≠ "java/lang/invoke/VarHandle" ∧ (parseMethodDescriptor Y_L_late.1.desc).map (fun d => d.parameters.length) = some 4 := by decide +kernel
abbrev Y_L_foreign : z_Y := (yL_foreign, cL_foreign, 5, (some .int), 8, 134)
theorem z_dc_L_foreign : Y_L_foreign.1.cls ≠ "java/lang/invoke/MethodHandle" ∧ Y_L_foreign.1.cls ≠ "java/lang/invoke/VarHandle" ∧ (parseMethodDescriptor Y_L_foreign.1.desc).map (fun d => d.parameters.length) = some 4 := by decide +kernel
abbrev Y_L_read : z_Y := (yL_read, cL_read, 5, (some .int), 8, 134)
theorem z_dc_L_read : Y_L_read.1.cls ≠ "java/lang/invoke/MethodHandle" ∧ Y_L_read.1.cls ≠ "java/lang/invoke/VarHandle" ∧ (parseMethodDescriptor Y_L_read.1.desc).map (fun d => d.parameters.length) = some 4 := by decide +kernel
abbrev Y_L_connect : z_Y := (yL_connect, cL_connect, 3, (some .int), 8, 133)
theorem z_dc_L_connect : Y_L_connect.1.cls ≠ "java/lang/invoke/MethodHandle" ∧ Y_L_connect.1.cls ≠ "java/lang/invoke/VarHandle" ∧ (parseMethodDescriptor Y_L_connect.1.desc).map (fun d => d.parameters.length) = some 2 := by decide +kernel
abbrev Y_L_write : z_Y := (yL_write, cL_write, 5, (some .int), 8, 135)
theorem z_dc_L_write : Y_L_write.1.cls ≠ "java/lang/invoke/MethodHandle" ∧ Y_L_write.1.cls ≠ "java/lang/invoke/VarHandle" ∧ (parseMethodDescriptor Y_L_write.1.desc).map (fun d => d.parameters.length) = some 4 := by decide +kernel
abbrev Y_L_setWay : z_Y := (yL_setWay, cL_setWay, 5, (some .int), 8, 136)
theorem z_dc_L_setWay : Y_L_setWay.1.cls ≠ "java/lang/invoke/MethodHandle" ∧ Y_L_setWay.1.cls ≠ "java/lang/invoke/VarHandle" ∧ (parseMethodDescriptor Y_L_setWay.1.desc).map (fun d => d.parameters.length) = some 4 := by decide +kernel
abbrev Y_L_check : z_Y := (yL_check, cL_check, 3, (some .int), 8, 131)
theorem z_dc_L_check : Y_L_check.1.cls ≠ "java/lang/invoke/MethodHandle" ∧ Y_L_check.1.cls ≠ "java/lang/invoke/VarHandle" ∧ (parseMethodDescriptor Y_L_check.1.desc).map (fun d => d.parameters.length) = some 2 := by decide +kernel
abbrev Y_L_use : z_Y := (yL_use, cL_use, 4, (some .int), 8, 134)
theorem z_dc_L_use : Y_L_use.1.cls ≠ "java/lang/invoke/MethodHandle" ∧ Y_L_use.1.cls ≠ "java/lang/invoke/VarHandle" ∧ (parseMethodDescriptor Y_L_use.1.desc).map (fun d => d.parameters.length) = some 3 := by decide +kernel
abbrev Y_L_changeKey : z_Y := (yL_changeKey, cL_changeKey, 3, (some .int), 8, 130)
theorem z_dc_L_changeKey : Y_L_changeKey.1.cls ≠ "java/lang/invoke/MethodHandle" ∧ Y_L_changeKey.1.cls ≠ "java/lang/invoke/VarHandle" ∧ (parseMethodDescriptor Y_L_changeKey.1.desc).map (fun d => d.parameters.length) = some 2 := by decide +kernel
abbrev Y_L_close : z_Y := (yL_close, cL_close, 2, (some .int), 8, 130)
theorem z_dc_L_close : Y_L_close.1.cls ≠ "java/lang/invoke/MethodHandle" ∧ Y_L_close.1.cls ≠ "java/lang/invoke/VarHandle" ∧ (parseMethodDescriptor Y_L_close.1.desc).map (fun d => d.parameters.length) = some 1 := by decide +kernel
abbrev Y_L_tick : z_Y := (yL_tick, cL_tick, 4, (some .int), 9, 199)
theorem z_dc_L_tick : Y_L_tick.1.cls ≠ "java/lang/invoke/MethodHandle" ∧ Y_L_tick.1.cls ≠ "java/lang/invoke/VarHandle" ∧ (parseMethodDescriptor Y_L_tick.1.desc).map (fun d => d.parameters.length) = some 3 := by decide +kernel
abbrev Y_L_state : z_Y := (yL_state, cL_state, 4, (some .int), 8, 133)
theorem z_dc_L_state : Y_L_state.1.cls ≠ "java/lang/invoke/MethodHandle" ∧ Y_L_state.1.cls ≠ "java/lang/invoke/VarHandle" ∧ (parseMethodDescriptor Y_L_state.1.desc).map (fun d => d.parameters.length) = some 3 := by decide +kernel
abbrev Y_L_path : z_Y := (yL_path, cL_path, 5, (some .int), 8, 135)
theorem z_dc_L_path : Y_L_path.1.cls ≠ "java/lang/invoke/MethodHandle" ∧ Y_L_path.1.cls ≠ "java/lang/invoke/VarHandle" ∧ (parseMethodDescriptor Y_L_path.1.desc).map (fun d => d.parameters.length) = some 4 := by decide +kernel
abbrev Y_L_stream : z_Y := (yL_stream, cL_stream, 5, (some .int), 8, 135)
theorem z_dc_L_stream : Y_L_stream.1.cls ≠ "java/lang/invoke/MethodHandle" ∧ Y_L_stream.1.cls ≠ "java/lang/invoke/VarHandle" ∧ (parseMethodDescriptor Y_L_stream.1.desc).map (fun d => d.parameters.length) = some 4 := by decide +kernel
abbrev Y_L_packet : z_Y := (yL_packet, cL_packet, 5, (some .int), 8, 135)
theorem z_dc_L_packet : Y_L_packet.1.cls ≠ "java/lang/invoke/MethodHandle" ∧ Y_L_packet.1.cls ≠ "java/lang/invoke/VarHandle" ∧ (parseMethodDescriptor Y_L_packet.1.desc).map (fun d => d.parameters.length) = some 4 := by decide +kernel
abbrev Y_L_count : z_Y := (yL_count, cL_count, 4, (some .int), 8, 135)
theorem z_dc_L_count : Y_L_count.1.cls ≠ "java/lang/invoke/MethodHandle" ∧ Y_L_count.1.cls ≠ "java/lang/invoke/VarHandle" ∧ (parseMethodDescriptor Y_L_count.1.desc).map (fun d => d.parameters.length) = some 3 := by decide +kernel
abbrev Y_L_inFlightAnew : z_Y := (yL_inFlightAnew, cL_inFlightAnew, 4, (some .int), 8, 134)
theorem z_dc_L_inFlightAnew : Y_L_inFlightAnew.1.cls ≠ "java/lang/invoke/MethodHandle" ∧ Y_L_inFlightAnew.1.cls ≠ "java/lang/invoke/VarHandle" ∧ (parseMethodDescriptor Y_L_inFlightAnew.1.desc).map (fun d => d.parameters.length) = some 3 := by decide +kernel
abbrev Y_L_gotAnew : z_Y := (yL_gotAnew, cL_gotAnew, 4, (some .int), 8, 133)
theorem z_dc_L_gotAnew : Y_L_gotAnew.1.cls ≠ "java/lang/invoke/MethodHandle" ∧ Y_L_gotAnew.1.cls ≠ "java/lang/invoke/VarHandle" ∧ (parseMethodDescriptor Y_L_gotAnew.1.desc).map (fun d => d.parameters.length) = some 3 := by decide +kernel
abbrev Y_L_law : z_Y := (x, code, 7, ret, 10, 222)
theorem z_dc_L_law : Y_L_law.1.cls ≠ "java/lang/invoke/MethodHandle" ∧ Y_L_law.1.cls ≠ "java/lang/invoke/VarHandle" ∧ (parseMethodDescriptor Y_L_law.1.desc).map (fun d => d.parameters.length) = some 1 := by decide +kernel
def hh_L_setPath : z_hp := [(0, 11, 14, 13), (0, 11, 18, 15)] 
theorem zh_L_setPath : Cond.codeWith Y_L_setPath.1 Y_L_setPath.2.1 Y_L_setPath.2.2.1 Y_L_setPath.2.2.2.1 hh_L_setPath ∈ z_ws := z_mem zx_534 rfl
theorem z_hok_L_setPath : z_hok Y_L_setPath.1.cls hh_L_setPath := by
  intro h hh
  rcases List.mem_cons.mp hh with rfl | hh
  · exact ⟨by decide, zw_535, List.mem_of_getElem? (i := 0) rfl⟩
  rcases List.mem_cons.mp hh with rfl | hh
  · exact ⟨by decide, zw_536, List.mem_of_getElem? (i := 1) rfl⟩
  cases hh
def hh_L_setUp : z_hp := [(0, 17, 20, 13)] 
theorem zh_L_setUp : Cond.codeWith Y_L_setUp.1 Y_L_setUp.2.1 Y_L_setUp.2.2.1 Y_L_setUp.2.2.2.1 hh_L_setUp ∈ z_ws := z_mem zx_637 rfl
theorem z_hok_L_setUp : z_hok Y_L_setUp.1.cls hh_L_setUp := by
  intro h hh
  rcases List.mem_cons.mp hh with rfl | hh
  · exact ⟨by decide, zw_535, List.mem_of_getElem? (i := 0) rfl⟩
  cases hh
def hh_L_lose : z_hp := [(0, 7, 10, 13), (0, 7, 14, 15)] 
theorem zh_L_lose : Cond.codeWith Y_L_lose.1 Y_L_lose.2.1 Y_L_lose.2.2.1 Y_L_lose.2.2.2.1 hh_L_lose ∈ z_ws := z_mem zx_644 rfl
theorem z_hok_L_lose : z_hok Y_L_lose.1.cls hh_L_lose := by
  intro h hh
  rcases List.mem_cons.mp hh with rfl | hh
  · exact ⟨by decide, zw_535, List.mem_of_getElem? (i := 0) rfl⟩
  rcases List.mem_cons.mp hh with rfl | hh
  · exact ⟨by decide, zw_536, List.mem_of_getElem? (i := 1) rfl⟩
  cases hh
def hh_L_late : z_hp := [(0, 7, 10, 13), (0, 7, 14, 15)] 
theorem zh_L_late : Cond.codeWith Y_L_late.1 Y_L_late.2.1 Y_L_late.2.2.1 Y_L_late.2.2.2.1 hh_L_late ∈ z_ws := z_mem zx_651 rfl
theorem z_hok_L_late : z_hok Y_L_late.1.cls hh_L_late := by
  intro h hh
  rcases List.mem_cons.mp hh with rfl | hh
  · exact ⟨by decide, zw_535, List.mem_of_getElem? (i := 0) rfl⟩
  rcases List.mem_cons.mp hh with rfl | hh
  · exact ⟨by decide, zw_536, List.mem_of_getElem? (i := 1) rfl⟩
  cases hh
def hh_L_foreign : z_hp := [(0, 10, 13, 13), (0, 10, 17, 15)] 
theorem zh_L_foreign : Cond.codeWith Y_L_foreign.1 Y_L_foreign.2.1 Y_L_foreign.2.2.1 Y_L_foreign.2.2.2.1 hh_L_foreign ∈ z_ws := z_mem zx_658 rfl
theorem z_hok_L_foreign : z_hok Y_L_foreign.1.cls hh_L_foreign := by
  intro h hh
  rcases List.mem_cons.mp hh with rfl | hh
  · exact ⟨by decide, zw_535, List.mem_of_getElem? (i := 0) rfl⟩
  rcases List.mem_cons.mp hh with rfl | hh
  · exact ⟨by decide, zw_536, List.mem_of_getElem? (i := 1) rfl⟩
  cases hh
def hh_L_read : z_hp := [(0, 10, 13, 13), (0, 10, 17, 15)] 
theorem zh_L_read : Cond.codeWith Y_L_read.1 Y_L_read.2.1 Y_L_read.2.2.1 Y_L_read.2.2.2.1 hh_L_read ∈ z_ws := z_mem zx_678 rfl
theorem z_hok_L_read : z_hok Y_L_read.1.cls hh_L_read := by
  intro h hh
  rcases List.mem_cons.mp hh with rfl | hh
  · exact ⟨by decide, zw_535, List.mem_of_getElem? (i := 0) rfl⟩
  rcases List.mem_cons.mp hh with rfl | hh
  · exact ⟨by decide, zw_536, List.mem_of_getElem? (i := 1) rfl⟩
  cases hh
def hh_L_connect : z_hp := [(0, 5, 8, 15), (0, 5, 11, 40)] 
theorem zh_L_connect : Cond.codeWith Y_L_connect.1 Y_L_connect.2.1 Y_L_connect.2.2.1 Y_L_connect.2.2.2.1 hh_L_connect ∈ z_ws := z_mem zx_759 rfl
theorem z_hok_L_connect : z_hok Y_L_connect.1.cls hh_L_connect := by
  intro h hh
  rcases List.mem_cons.mp hh with rfl | hh
  · exact ⟨by decide, zw_536, List.mem_of_getElem? (i := 1) rfl⟩
  rcases List.mem_cons.mp hh with rfl | hh
  · exact ⟨by decide, zw_760, List.mem_of_getElem? (i := 2) rfl⟩
  cases hh
def hh_L_write : z_hp := [(0, 10, 13, 13), (0, 10, 17, 15), (0, 10, 21, 40)] 
theorem zh_L_write : Cond.codeWith Y_L_write.1 Y_L_write.2.1 Y_L_write.2.2.1 Y_L_write.2.2.2.1 hh_L_write ∈ z_ws := z_mem zx_805 rfl
theorem z_hok_L_write : z_hok Y_L_write.1.cls hh_L_write := by
  intro h hh
  rcases List.mem_cons.mp hh with rfl | hh
  · exact ⟨by decide, zw_535, List.mem_of_getElem? (i := 0) rfl⟩
  rcases List.mem_cons.mp hh with rfl | hh
  · exact ⟨by decide, zw_536, List.mem_of_getElem? (i := 1) rfl⟩
  rcases List.mem_cons.mp hh with rfl | hh
  · exact ⟨by decide, zw_760, List.mem_of_getElem? (i := 2) rfl⟩
  cases hh
def hh_L_setWay : z_hp := [(0, 10, 13, 13), (0, 10, 17, 15)] 
theorem zh_L_setWay : Cond.codeWith Y_L_setWay.1 Y_L_setWay.2.1 Y_L_setWay.2.2.1 Y_L_setWay.2.2.2.1 hh_L_setWay ∈ z_ws := z_mem zx_812 rfl
theorem z_hok_L_setWay : z_hok Y_L_setWay.1.cls hh_L_setWay := by
  intro h hh
  rcases List.mem_cons.mp hh with rfl | hh
  · exact ⟨by decide, zw_535, List.mem_of_getElem? (i := 0) rfl⟩
  rcases List.mem_cons.mp hh with rfl | hh
  · exact ⟨by decide, zw_536, List.mem_of_getElem? (i := 1) rfl⟩
  cases hh
def hh_L_check : z_hp := [(0, 5, 8, 13), (0, 5, 11, 40)] 
theorem zh_L_check : Cond.codeWith Y_L_check.1 Y_L_check.2.1 Y_L_check.2.2.1 Y_L_check.2.2.2.1 hh_L_check ∈ z_ws := z_mem zx_823 rfl
theorem z_hok_L_check : z_hok Y_L_check.1.cls hh_L_check := by
  intro h hh
  rcases List.mem_cons.mp hh with rfl | hh
  · exact ⟨by decide, zw_535, List.mem_of_getElem? (i := 0) rfl⟩
  rcases List.mem_cons.mp hh with rfl | hh
  · exact ⟨by decide, zw_760, List.mem_of_getElem? (i := 2) rfl⟩
  cases hh
def hh_L_use : z_hp := [(0, 9, 12, 15), (0, 9, 15, 40)] 
theorem zh_L_use : Cond.codeWith Y_L_use.1 Y_L_use.2.1 Y_L_use.2.2.1 Y_L_use.2.2.2.1 hh_L_use ∈ z_ws := z_mem zx_833 rfl
theorem z_hok_L_use : z_hok Y_L_use.1.cls hh_L_use := by
  intro h hh
  rcases List.mem_cons.mp hh with rfl | hh
  · exact ⟨by decide, zw_536, List.mem_of_getElem? (i := 1) rfl⟩
  rcases List.mem_cons.mp hh with rfl | hh
  · exact ⟨by decide, zw_760, List.mem_of_getElem? (i := 2) rfl⟩
  cases hh
def hh_L_changeKey : z_hp := [(0, 8, 11, 40)] 
theorem zh_L_changeKey : Cond.codeWith Y_L_changeKey.1 Y_L_changeKey.2.1 Y_L_changeKey.2.2.1 Y_L_changeKey.2.2.2.1 hh_L_changeKey ∈ z_ws := z_mem zx_840 rfl
theorem z_hok_L_changeKey : z_hok Y_L_changeKey.1.cls hh_L_changeKey := by
  intro h hh
  rcases List.mem_cons.mp hh with rfl | hh
  · exact ⟨by decide, zw_760, List.mem_of_getElem? (i := 2) rfl⟩
  cases hh
def hh_L_close : z_hp := [(0, 4, 7, 40)] 
theorem zh_L_close : Cond.codeWith Y_L_close.1 Y_L_close.2.1 Y_L_close.2.2.1 Y_L_close.2.2.2.1 hh_L_close ∈ z_ws := z_mem zx_858 rfl
theorem z_hok_L_close : z_hok Y_L_close.1.cls hh_L_close := by
  intro h hh
  rcases List.mem_cons.mp hh with rfl | hh
  · exact ⟨by decide, zw_760, List.mem_of_getElem? (i := 2) rfl⟩
  cases hh
def hh_L_tick : z_hp := [(0, 9, 12, 15), (0, 9, 15, 40)] 
theorem zh_L_tick : Cond.codeWith Y_L_tick.1 Y_L_tick.2.1 Y_L_tick.2.2.1 Y_L_tick.2.2.2.1 hh_L_tick ∈ z_ws := z_mem zx_869 rfl
theorem z_hok_L_tick : z_hok Y_L_tick.1.cls hh_L_tick := by
  intro h hh
  rcases List.mem_cons.mp hh with rfl | hh
  · exact ⟨by decide, zw_536, List.mem_of_getElem? (i := 1) rfl⟩
  rcases List.mem_cons.mp hh with rfl | hh
  · exact ⟨by decide, zw_760, List.mem_of_getElem? (i := 2) rfl⟩
  cases hh
def hh_L_state : z_hp := [(0, 9, 12, 15)] 
theorem zh_L_state : Cond.codeWith Y_L_state.1 Y_L_state.2.1 Y_L_state.2.2.1 Y_L_state.2.2.2.1 hh_L_state ∈ z_ws := z_mem zx_1188 rfl
theorem z_hok_L_state : z_hok Y_L_state.1.cls hh_L_state := by
  intro h hh
  rcases List.mem_cons.mp hh with rfl | hh
  · exact ⟨by decide, zw_536, List.mem_of_getElem? (i := 1) rfl⟩
  cases hh
def hh_L_path : z_hp := [(0, 10, 13, 13), (0, 10, 17, 15)] 
theorem zh_L_path : Cond.codeWith Y_L_path.1 Y_L_path.2.1 Y_L_path.2.2.1 Y_L_path.2.2.2.1 hh_L_path ∈ z_ws := z_mem zx_1195 rfl
theorem z_hok_L_path : z_hok Y_L_path.1.cls hh_L_path := by
  intro h hh
  rcases List.mem_cons.mp hh with rfl | hh
  · exact ⟨by decide, zw_535, List.mem_of_getElem? (i := 0) rfl⟩
  rcases List.mem_cons.mp hh with rfl | hh
  · exact ⟨by decide, zw_536, List.mem_of_getElem? (i := 1) rfl⟩
  cases hh
def hh_L_stream : z_hp := [(0, 10, 13, 13), (0, 10, 17, 15)] 
theorem zh_L_stream : Cond.codeWith Y_L_stream.1 Y_L_stream.2.1 Y_L_stream.2.2.1 Y_L_stream.2.2.2.1 hh_L_stream ∈ z_ws := z_mem zx_1205 rfl
theorem z_hok_L_stream : z_hok Y_L_stream.1.cls hh_L_stream := by
  intro h hh
  rcases List.mem_cons.mp hh with rfl | hh
  · exact ⟨by decide, zw_535, List.mem_of_getElem? (i := 0) rfl⟩
  rcases List.mem_cons.mp hh with rfl | hh
  · exact ⟨by decide, zw_536, List.mem_of_getElem? (i := 1) rfl⟩
  cases hh
def hh_L_packet : z_hp := [(0, 10, 13, 13), (0, 10, 17, 15)] 
theorem zh_L_packet : Cond.codeWith Y_L_packet.1 Y_L_packet.2.1 Y_L_packet.2.2.1 Y_L_packet.2.2.2.1 hh_L_packet ∈ z_ws := z_mem zx_1212 rfl
theorem z_hok_L_packet : z_hok Y_L_packet.1.cls hh_L_packet := by
  intro h hh
  rcases List.mem_cons.mp hh with rfl | hh
  · exact ⟨by decide, zw_535, List.mem_of_getElem? (i := 0) rfl⟩
  rcases List.mem_cons.mp hh with rfl | hh
  · exact ⟨by decide, zw_536, List.mem_of_getElem? (i := 1) rfl⟩
  cases hh
def hh_L_count : z_hp := [(0, 9, 12, 15)] 
theorem zh_L_count : Cond.codeWith Y_L_count.1 Y_L_count.2.1 Y_L_count.2.2.1 Y_L_count.2.2.2.1 hh_L_count ∈ z_ws := z_mem zx_1225 rfl
theorem z_hok_L_count : z_hok Y_L_count.1.cls hh_L_count := by
  intro h hh
  rcases List.mem_cons.mp hh with rfl | hh
  · exact ⟨by decide, zw_536, List.mem_of_getElem? (i := 1) rfl⟩
  cases hh
def hh_L_inFlightAnew : z_hp := [(0, 9, 12, 13)] 
theorem zh_L_inFlightAnew : Cond.codeWith Y_L_inFlightAnew.1 Y_L_inFlightAnew.2.1 Y_L_inFlightAnew.2.2.1 Y_L_inFlightAnew.2.2.2.1 hh_L_inFlightAnew ∈ z_ws := z_mem zx_1232 rfl
theorem z_hok_L_inFlightAnew : z_hok Y_L_inFlightAnew.1.cls hh_L_inFlightAnew := by
  intro h hh
  rcases List.mem_cons.mp hh with rfl | hh
  · exact ⟨by decide, zw_535, List.mem_of_getElem? (i := 0) rfl⟩
  cases hh
def hh_L_gotAnew : z_hp := [(0, 9, 12, 13)] 
theorem zh_L_gotAnew : Cond.codeWith Y_L_gotAnew.1 Y_L_gotAnew.2.1 Y_L_gotAnew.2.2.1 Y_L_gotAnew.2.2.2.1 hh_L_gotAnew ∈ z_ws := z_mem zx_1239 rfl
theorem z_hok_L_gotAnew : z_hok Y_L_gotAnew.1.cls hh_L_gotAnew := by
  intro h hh
  rcases List.mem_cons.mp hh with rfl | hh
  · exact ⟨by decide, zw_535, List.mem_of_getElem? (i := 0) rfl⟩
  cases hh
set_option maxRecDepth 100000 in
def P_L_setPath (p1 : Option Nat) (p2 : Int32) (p3 : Int32) (p4 : Int32) (p5 : Int32) (p6 : Int32) (M : z_Mem) (Post : Int32 → z_Mem → Prop) : Prop := z_nn p1 fun a2 => (P_X11_setPath a2 p2 p3 p4 p5 p6 M (fun M_1 => Post 0 M_1) (fun E M_1 => (E = "java/lang/IndexOutOfBoundsException" ∧ Post 1 M_1) ∨ (E = "java/lang/IllegalArgumentException" ∧ Post 2 M_1)))
set_option maxRecDepth 100000 in
set_option maxHeartbeats 4000000 in
theorem s_L_setPath {G : z_G} {M : z_Mem} {p1 : Option Nat} {p2 : Int32} {p3 : Int32} {p4 : Int32} {p5 : Int32} {p6 : Int32} {Post : Int32 → z_Mem → Prop} (hl9 : G.1.stackTraces = false) (f_p1 : z_tr M p1 12) (hP : P_L_setPath p1 p2 p3 p4 p5 p6 M Post) : z_MtH G Y_L_setPath hh_L_setPath M [z_O p1, z_I p2, z_I p3, z_I p4, z_I p5, z_I p6] (z_PI Post) := by
  refine z_ofVH (by decide) (Nat.le_of_ble_eq_true rfl) ?_
  unfold P_L_setPath at hP
  refine z_sub (lv' := [(0, z_O p1), (1, z_I p2), (2, z_I p3), (3, z_I p4), (4, z_I p5), (5, z_I p6)]) [0, 1, 2, 3, 4, 5] rfl ?_
  refine z_aload_n dL_setPath_0 rfl 0 rfl ?_
  refine z_iload_n dL_setPath_1 rfl 1 rfl ?_
  refine z_iload_n dL_setPath_2 rfl 2 rfl ?_
  refine z_iload_n dL_setPath_3 rfl 3 rfl ?_
  refine z_iload dL_setPath_4 4 rfl ?_
  refine z_iload dL_setPath_6 5 rfl ?_
  refine z_pc (pc' := 8) rfl ?_
  obtain ⟨a2, e2, hP⟩ := hP
  have k2 := f_p1 a2 e2
  refine z_wts (fun hT1 _ => ?_)
  refine z_hV (hh := hh_L_setPath) (c := 11) (n := 5) (Y1 := Y_X11_setPath) (st := []) e2 k2 z_cb11 (Nat.le_of_ble_eq_true rfl) rfl (s_X11_setPath hl9 k2 hP) rfl ⟨z_dc_X11_setPath, ⟨(Nat.le_of_ble_eq_true rfl), (Nat.le_of_ble_eq_true rfl)⟩, (Nat.le_of_ble_eq_true rfl)⟩ rfl zw_537 zw_538 zw_539 zw_1 zw_540 dL_setPath_8 z_hok_L_setPath (fun E M_1 hE9 hP _ x1 => ?_) (fun r_1 M_1 hP _ x1 => ?_)
  · rcases hP with ⟨rfl, hP⟩ | ⟨rfl, hP⟩
    · refine ⟨14, by decide, fun q_1 => ?_⟩
      refine z_astore (lv' := [(6, z_O _), (0, z_O _), (1, z_I _), (2, z_I _), (3, z_I _), (4, z_I _), (5, z_I _)]) dL_setPath_14 (Nat.le_of_ble_eq_true rfl) rfl ?_
      refine z_iconst (v := 1) dL_setPath_16 (by decide) ?_
      exact z_reti rfl dL_setPath_17 hP
    · refine ⟨18, by decide, fun q_1 => ?_⟩
      refine z_astore (lv' := [(6, z_O _), (0, z_O _), (1, z_I _), (2, z_I _), (3, z_I _), (4, z_I _), (5, z_I _)]) dL_setPath_18 (Nat.le_of_ble_eq_true rfl) rfl ?_
      refine z_iconst (v := 2) dL_setPath_20 (by decide) ?_
      exact z_reti rfl dL_setPath_21 hP
  · obtain ⟨rfl, hP⟩ := hP
    refine z_stk (st' := []) rfl ?_
    have k2 := x1.k (k := 11) hT1 k2
    refine z_goto (tgt := 22) dL_setPath_11 (by decide) ?_
    refine z_iconst (v := 0) dL_setPath_22 (by decide) ?_
    exact z_reti rfl dL_setPath_23 hP
set_option maxRecDepth 100000 in
def P_L_setUp (p1 : Option Nat) (p2 : Int32) (p3 : Int32) (p4 : Option Nat) (M : z_Mem) (Post : Int32 → z_Mem → Prop) : Prop := z_nn p1 fun a2 => (P_X11_setUp a2 p2 p3 M (fun x_1 M_1 => ((x_1 = 0 → z_nn p4 fun a4 => (vp_in 0 (z_ln M_1 a4) ∧ (∀ M_6 : z_Mem, M_6 = z_sal M_1 a4 ((0 : Int32).toNatClampNeg) 0 → (Post 0 M_6)))) ∧ (¬ x_1 = 0 → z_nn p4 fun a7 => (vp_in 0 (z_ln M_1 a7) ∧ (∀ M_9 : z_Mem, M_9 = z_sal M_1 a7 ((0 : Int32).toNatClampNeg) 1 → (Post 0 M_9)))))) (fun E M_1 => (E = "java/lang/IndexOutOfBoundsException" ∧ Post 1 M_1)))
set_option maxRecDepth 100000 in
set_option maxHeartbeats 4000000 in
theorem s_L_setUp {G : z_G} {M : z_Mem} {p1 : Option Nat} {p2 : Int32} {p3 : Int32} {p4 : Option Nat} {Post : Int32 → z_Mem → Prop} (hl9 : G.1.stackTraces = false) (f_p1 : z_tr M p1 12) (f_p3 : p3 = 0 ∨ p3 = 1) (f_p4 : z_tr M p4 25) (hP : P_L_setUp p1 p2 p3 p4 M Post) : z_MtH G Y_L_setUp hh_L_setUp M [z_O p1, z_I p2, z_I p3, z_O p4] (z_PI Post) := by
  refine z_ofVH (by decide) (Nat.le_of_ble_eq_true rfl) ?_
  unfold P_L_setUp at hP
  refine z_sub (lv' := [(0, z_O p1), (1, z_I p2), (2, z_I p3), (3, z_O p4)]) [0, 1, 2, 3] rfl ?_
  refine z_aload_n dL_setUp_0 rfl 3 rfl ?_
  refine z_iconst (v := 0) dL_setUp_1 (by decide) ?_
  refine z_aload_n dL_setUp_2 rfl 0 rfl ?_
  refine z_iload_n dL_setUp_3 rfl 1 rfl ?_
  refine z_iload_n dL_setUp_4 rfl 2 rfl ?_
  obtain ⟨a2, e2, hP⟩ := hP
  have k2 := f_p1 a2 e2
  refine z_wts (fun hT1 _ => ?_)
  refine z_hV (hh := hh_L_setUp) (c := 11) (n := 2) (Y1 := Y_X11_setUp) (st := [z_I _, z_O _]) e2 k2 z_cb11 (Nat.le_of_ble_eq_true rfl) rfl (s_X11_setUp hl9 k2 f_p3 hP) rfl ⟨z_dc_X11_setUp, ⟨(Nat.le_of_ble_eq_true rfl), (Nat.le_of_ble_eq_true rfl)⟩, (Nat.le_of_ble_eq_true rfl)⟩ rfl zw_638 zw_639 zw_640 zw_1 zw_641 dL_setUp_5 z_hok_L_setUp (fun E M_1 hE9 hP _ x1 => ?_) (fun r_1 M_1 hP _ x1 => ?_)
  · obtain ⟨rfl, hP⟩ := hP
    · refine ⟨20, by decide, fun q_1 => ?_⟩
      refine z_astore (lv' := [(4, z_O _), (0, z_O _), (1, z_I _), (2, z_I _), (3, z_O _)]) dL_setUp_20 (Nat.le_of_ble_eq_true rfl) rfl ?_
      refine z_pc (pc' := 22) rfl ?_
      refine z_iconst (v := 1) dL_setUp_22 (by decide) ?_
      exact z_reti rfl dL_setUp_23 hP
  · obtain ⟨x_1, rfl, b1, hP⟩ := hP
    refine z_stk (st' := [z_I _, z_I _, z_O _]) rfl ?_
    have k2 := x1.k (k := 11) hT1 k2
    have f_p4 := x1.t (k := 24) hT1 f_p4
    refine z_if_eq (tgt := 15) dL_setUp_8 (by decide) (fun h3 => ?_) (fun h3 => ?_)
    · replace hP := hP.1 h3
      refine z_lconst (v := 0) dL_setUp_15 (by decide) ?_
      refine z_pc (pc' := 16) rfl ?_
      obtain ⟨a4, e4, hP⟩ := hP
      have k4 := f_p4 a4 e4
      obtain ⟨i5, hP⟩ := hP
      refine z_last e4 k4 i5 dL_setUp_16 ?_
      refine z_nm (fun M_6 g_6 => ?_)
      replace hP := hP M_6 g_6
      have q_6 := z_k5 g_6
      have k2 := z_kk q_6 k2
      have k4 := z_kk q_6 k4
      refine z_goto (tgt := 24) dL_setUp_17 (by decide) ?_
      refine z_iconst (v := 0) dL_setUp_24 (by decide) ?_
      exact z_reti rfl dL_setUp_25 hP
    · replace hP := hP.2 h3
      refine z_lconst (v := 1) dL_setUp_11 (by decide) ?_
      refine z_pc (pc' := 12) rfl ?_
      refine z_goto (tgt := 16) dL_setUp_12 (by decide) ?_
      obtain ⟨a7, e7, hP⟩ := hP
      have k7 := f_p4 a7 e7
      obtain ⟨i8, hP⟩ := hP
      refine z_last e7 k7 i8 dL_setUp_16 ?_
      refine z_nm (fun M_9 g_9 => ?_)
      replace hP := hP M_9 g_9
      have q_9 := z_k5 g_9
      have k2 := z_kk q_9 k2
      have k7 := z_kk q_9 k7
      refine z_goto (tgt := 24) dL_setUp_17 (by decide) ?_
      refine z_iconst (v := 0) dL_setUp_24 (by decide) ?_
      exact z_reti rfl dL_setUp_25 hP
set_option maxRecDepth 100000 in
def P_L_lose (p1 : Option Nat) (p2 : Int32) (p3 : Int32) (p4 : Int32) (M : z_Mem) (Post : Int32 → z_Mem → Prop) : Prop := z_nn p1 fun a2 => (P_X11_lose a2 p2 p3 p4 M (fun M_1 => Post 0 M_1) (fun E M_1 => (E = "java/lang/IndexOutOfBoundsException" ∧ Post 1 M_1) ∨ (E = "java/lang/IllegalArgumentException" ∧ Post 2 M_1)))
set_option maxRecDepth 100000 in
set_option maxHeartbeats 4000000 in
theorem s_L_lose {G : z_G} {M : z_Mem} {p1 : Option Nat} {p2 : Int32} {p3 : Int32} {p4 : Int32} {Post : Int32 → z_Mem → Prop} (hl9 : G.1.stackTraces = false) (f_p1 : z_tr M p1 12) (f_p3 : p3 = 0 ∨ p3 = 1) (hP : P_L_lose p1 p2 p3 p4 M Post) : z_MtH G Y_L_lose hh_L_lose M [z_O p1, z_I p2, z_I p3, z_I p4] (z_PI Post) := by
  refine z_ofVH (by decide) (Nat.le_of_ble_eq_true rfl) ?_
  unfold P_L_lose at hP
  refine z_sub (lv' := [(0, z_O p1), (1, z_I p2), (2, z_I p3), (3, z_I p4)]) [0, 1, 2, 3] rfl ?_
  refine z_aload_n dL_lose_0 rfl 0 rfl ?_
  refine z_iload_n dL_lose_1 rfl 1 rfl ?_
  refine z_iload_n dL_lose_2 rfl 2 rfl ?_
  refine z_iload_n dL_lose_3 rfl 3 rfl ?_
  obtain ⟨a2, e2, hP⟩ := hP
  have k2 := f_p1 a2 e2
  refine z_wts (fun hT1 _ => ?_)
  refine z_hV (hh := hh_L_lose) (c := 11) (n := 3) (Y1 := Y_X11_lose) (st := []) e2 k2 z_cb11 (Nat.le_of_ble_eq_true rfl) rfl (s_X11_lose hl9 k2 f_p3 hP) rfl ⟨z_dc_X11_lose, ⟨(Nat.le_of_ble_eq_true rfl), (Nat.le_of_ble_eq_true rfl)⟩, (Nat.le_of_ble_eq_true rfl)⟩ rfl zw_645 zw_646 zw_647 zw_1 zw_648 dL_lose_4 z_hok_L_lose (fun E M_1 hE9 hP _ x1 => ?_) (fun r_1 M_1 hP _ x1 => ?_)
  · rcases hP with ⟨rfl, hP⟩ | ⟨rfl, hP⟩
    · refine ⟨10, by decide, fun q_1 => ?_⟩
      refine z_astore (lv' := [(4, z_O _), (0, z_O _), (1, z_I _), (2, z_I _), (3, z_I _)]) dL_lose_10 (Nat.le_of_ble_eq_true rfl) rfl ?_
      refine z_iconst (v := 1) dL_lose_12 (by decide) ?_
      refine z_pc (pc' := 13) rfl ?_
      exact z_reti rfl dL_lose_13 hP
    · refine ⟨14, by decide, fun q_1 => ?_⟩
      refine z_astore (lv' := [(4, z_O _), (0, z_O _), (1, z_I _), (2, z_I _), (3, z_I _)]) dL_lose_14 (Nat.le_of_ble_eq_true rfl) rfl ?_
      refine z_iconst (v := 2) dL_lose_16 (by decide) ?_
      refine z_pc (pc' := 17) rfl ?_
      exact z_reti rfl dL_lose_17 hP
  · obtain ⟨rfl, hP⟩ := hP
    refine z_stk (st' := []) rfl ?_
    have k2 := x1.k (k := 11) hT1 k2
    refine z_goto (tgt := 18) dL_lose_7 (by decide) ?_
    refine z_iconst (v := 0) dL_lose_18 (by decide) ?_
    exact z_reti rfl dL_lose_19 hP
set_option maxRecDepth 100000 in
def P_L_late (p1 : Option Nat) (p2 : Int32) (p3 : Int32) (p4 : Int32) (M : z_Mem) (Post : Int32 → z_Mem → Prop) : Prop := z_nn p1 fun a2 => (P_X11_late a2 p2 p3 p4 M (fun M_1 => Post 0 M_1) (fun E M_1 => (E = "java/lang/IndexOutOfBoundsException" ∧ Post 1 M_1) ∨ (E = "java/lang/IllegalArgumentException" ∧ Post 2 M_1)))
set_option maxRecDepth 100000 in
set_option maxHeartbeats 4000000 in
theorem s_L_late {G : z_G} {M : z_Mem} {p1 : Option Nat} {p2 : Int32} {p3 : Int32} {p4 : Int32} {Post : Int32 → z_Mem → Prop} (hl9 : G.1.stackTraces = false) (f_p1 : z_tr M p1 12) (hP : P_L_late p1 p2 p3 p4 M Post) : z_MtH G Y_L_late hh_L_late M [z_O p1, z_I p2, z_I p3, z_I p4] (z_PI Post) := by
  refine z_ofVH (by decide) (Nat.le_of_ble_eq_true rfl) ?_
  unfold P_L_late at hP
  refine z_sub (lv' := [(0, z_O p1), (1, z_I p2), (2, z_I p3), (3, z_I p4)]) [0, 1, 2, 3] rfl ?_
  refine z_aload_n dL_late_0 rfl 0 rfl ?_
  refine z_iload_n dL_late_1 rfl 1 rfl ?_
  refine z_iload_n dL_late_2 rfl 2 rfl ?_
  refine z_iload_n dL_late_3 rfl 3 rfl ?_
  obtain ⟨a2, e2, hP⟩ := hP
  have k2 := f_p1 a2 e2
  refine z_wts (fun hT1 _ => ?_)
  refine z_hV (hh := hh_L_late) (c := 11) (n := 3) (Y1 := Y_X11_late) (st := []) e2 k2 z_cb11 (Nat.le_of_ble_eq_true rfl) rfl (s_X11_late hl9 k2 hP) rfl ⟨z_dc_X11_late, ⟨(Nat.le_of_ble_eq_true rfl), (Nat.le_of_ble_eq_true rfl)⟩, (Nat.le_of_ble_eq_true rfl)⟩ rfl zw_652 zw_653 zw_654 zw_1 zw_655 dL_late_4 z_hok_L_late (fun E M_1 hE9 hP _ x1 => ?_) (fun r_1 M_1 hP _ x1 => ?_)
  · rcases hP with ⟨rfl, hP⟩ | ⟨rfl, hP⟩
    · refine ⟨10, by decide, fun q_1 => ?_⟩
      refine z_astore (lv' := [(4, z_O _), (0, z_O _), (1, z_I _), (2, z_I _), (3, z_I _)]) dL_late_10 (Nat.le_of_ble_eq_true rfl) rfl ?_
      refine z_iconst (v := 1) dL_late_12 (by decide) ?_
      refine z_pc (pc' := 13) rfl ?_
      exact z_reti rfl dL_late_13 hP
    · refine ⟨14, by decide, fun q_1 => ?_⟩
      refine z_astore (lv' := [(4, z_O _), (0, z_O _), (1, z_I _), (2, z_I _), (3, z_I _)]) dL_late_14 (Nat.le_of_ble_eq_true rfl) rfl ?_
      refine z_iconst (v := 2) dL_late_16 (by decide) ?_
      refine z_pc (pc' := 17) rfl ?_
      exact z_reti rfl dL_late_17 hP
  · obtain ⟨rfl, hP⟩ := hP
    refine z_stk (st' := []) rfl ?_
    have k2 := x1.k (k := 11) hT1 k2
    refine z_goto (tgt := 18) dL_late_7 (by decide) ?_
    refine z_iconst (v := 0) dL_late_18 (by decide) ?_
    exact z_reti rfl dL_late_19 hP
set_option maxRecDepth 100000 in
def P_L_foreign (p1 : Option Nat) (p2 : Int32) (p3 : Int32) (p4 : Option Nat) (M : z_Mem) (Post : Int32 → z_Mem → Prop) : Prop := z_nn p1 fun a2 => (P_X11_foreign a2 p2 p3 M (fun x_1 M_1 => z_nn p4 fun a3 => (vp_in 0 (z_ln M_1 a3) ∧ (∀ M_5 : z_Mem, M_5 = z_sal M_1 a3 ((0 : Int32).toNatClampNeg) ((x_1 : Int32).toInt64) → (Post 0 M_5)))) (fun E M_1 => (E = "java/lang/IndexOutOfBoundsException" ∧ Post 1 M_1) ∨ (E = "java/lang/IllegalArgumentException" ∧ Post 2 M_1)))
set_option maxRecDepth 100000 in
set_option maxHeartbeats 4000000 in
theorem s_L_foreign {G : z_G} {M : z_Mem} {p1 : Option Nat} {p2 : Int32} {p3 : Int32} {p4 : Option Nat} {Post : Int32 → z_Mem → Prop} (hl9 : G.1.stackTraces = false) (f_p1 : z_tr M p1 12) (f_p4 : z_tr M p4 25) (hP : P_L_foreign p1 p2 p3 p4 M Post) : z_MtH G Y_L_foreign hh_L_foreign M [z_O p1, z_I p2, z_I p3, z_O p4] (z_PI Post) := by
  refine z_ofVH (by decide) (Nat.le_of_ble_eq_true rfl) ?_
  unfold P_L_foreign at hP
  refine z_sub (lv' := [(0, z_O p1), (1, z_I p2), (2, z_I p3), (3, z_O p4)]) [0, 1, 2, 3] rfl ?_
  refine z_aload_n dL_foreign_0 rfl 3 rfl ?_
  refine z_iconst (v := 0) dL_foreign_1 (by decide) ?_
  refine z_aload_n dL_foreign_2 rfl 0 rfl ?_
  refine z_iload_n dL_foreign_3 rfl 1 rfl ?_
  refine z_iload_n dL_foreign_4 rfl 2 rfl ?_
  obtain ⟨a2, e2, hP⟩ := hP
  have k2 := f_p1 a2 e2
  refine z_wts (fun hT1 _ => ?_)
  refine z_hV (hh := hh_L_foreign) (c := 11) (n := 2) (Y1 := Y_X11_foreign) (st := [z_I _, z_O _]) e2 k2 z_cb11 (Nat.le_of_ble_eq_true rfl) rfl (s_X11_foreign hl9 k2 hP) rfl ⟨z_dc_X11_foreign, ⟨(Nat.le_of_ble_eq_true rfl), (Nat.le_of_ble_eq_true rfl)⟩, (Nat.le_of_ble_eq_true rfl)⟩ rfl zw_659 zw_660 zw_661 zw_1 zw_662 dL_foreign_5 z_hok_L_foreign (fun E M_1 hE9 hP _ x1 => ?_) (fun r_1 M_1 hP _ x1 => ?_)
  · rcases hP with ⟨rfl, hP⟩ | ⟨rfl, hP⟩
    · refine ⟨13, by decide, fun q_1 => ?_⟩
      refine z_astore (lv' := [(4, z_O _), (0, z_O _), (1, z_I _), (2, z_I _), (3, z_O _)]) dL_foreign_13 (Nat.le_of_ble_eq_true rfl) rfl ?_
      refine z_pc (pc' := 15) rfl ?_
      refine z_iconst (v := 1) dL_foreign_15 (by decide) ?_
      exact z_reti rfl dL_foreign_16 hP
    · refine ⟨17, by decide, fun q_1 => ?_⟩
      refine z_astore (lv' := [(4, z_O _), (0, z_O _), (1, z_I _), (2, z_I _), (3, z_O _)]) dL_foreign_17 (Nat.le_of_ble_eq_true rfl) rfl ?_
      refine z_pc (pc' := 19) rfl ?_
      refine z_iconst (v := 2) dL_foreign_19 (by decide) ?_
      exact z_reti rfl dL_foreign_20 hP
  · obtain ⟨x_1, rfl, hP⟩ := hP
    refine z_stk (st' := [z_I _, z_I _, z_O _]) rfl ?_
    have k2 := x1.k (k := 11) hT1 k2
    have f_p4 := x1.t (k := 24) hT1 f_p4
    refine z_i2l dL_foreign_8 ?_
    refine z_pc (pc' := 9) rfl ?_
    obtain ⟨a3, e3, hP⟩ := hP
    have k3 := f_p4 a3 e3
    obtain ⟨i4, hP⟩ := hP
    refine z_last e3 k3 i4 dL_foreign_9 ?_
    refine z_nm (fun M_5 g_5 => ?_)
    replace hP := hP M_5 g_5
    have q_5 := z_k5 g_5
    have k2 := z_kk q_5 k2
    have k3 := z_kk q_5 k3
    refine z_goto (tgt := 21) dL_foreign_10 (by decide) ?_
    refine z_iconst (v := 0) dL_foreign_21 (by decide) ?_
    exact z_reti rfl dL_foreign_22 hP
set_option maxRecDepth 100000 in
def P_L_read (p1 : Option Nat) (p2 : Int32) (p3 : Int32) (p4 : Option Nat) (M : z_Mem) (Post : Int32 → z_Mem → Prop) : Prop := z_nn p1 fun a2 => (P_X11_read a2 p2 p3 M (fun x_1 M_1 => z_nn p4 fun a3 => (vp_in 0 (z_ln M_1 a3) ∧ (∀ M_5 : z_Mem, M_5 = z_sal M_1 a3 ((0 : Int32).toNatClampNeg) ((x_1 : Int32).toInt64) → (Post 0 M_5)))) (fun E M_1 => (E = "java/lang/IndexOutOfBoundsException" ∧ Post 1 M_1) ∨ (E = "java/lang/IllegalArgumentException" ∧ Post 2 M_1)))
set_option maxRecDepth 100000 in
set_option maxHeartbeats 4000000 in
theorem s_L_read {G : z_G} {M : z_Mem} {p1 : Option Nat} {p2 : Int32} {p3 : Int32} {p4 : Option Nat} {Post : Int32 → z_Mem → Prop} (hl9 : G.1.stackTraces = false) (f_p1 : z_tr M p1 12) (f_p4 : z_tr M p4 25) (hP : P_L_read p1 p2 p3 p4 M Post) : z_MtH G Y_L_read hh_L_read M [z_O p1, z_I p2, z_I p3, z_O p4] (z_PI Post) := by
  refine z_ofVH (by decide) (Nat.le_of_ble_eq_true rfl) ?_
  unfold P_L_read at hP
  refine z_sub (lv' := [(0, z_O p1), (1, z_I p2), (2, z_I p3), (3, z_O p4)]) [0, 1, 2, 3] rfl ?_
  refine z_aload_n dL_read_0 rfl 3 rfl ?_
  refine z_iconst (v := 0) dL_read_1 (by decide) ?_
  refine z_aload_n dL_read_2 rfl 0 rfl ?_
  refine z_iload_n dL_read_3 rfl 1 rfl ?_
  refine z_iload_n dL_read_4 rfl 2 rfl ?_
  obtain ⟨a2, e2, hP⟩ := hP
  have k2 := f_p1 a2 e2
  refine z_wts (fun hT1 _ => ?_)
  refine z_hV (hh := hh_L_read) (c := 11) (n := 2) (Y1 := Y_X11_read) (st := [z_I _, z_O _]) e2 k2 z_cb11 (Nat.le_of_ble_eq_true rfl) rfl (s_X11_read hl9 k2 hP) rfl ⟨z_dc_X11_read, ⟨(Nat.le_of_ble_eq_true rfl), (Nat.le_of_ble_eq_true rfl)⟩, (Nat.le_of_ble_eq_true rfl)⟩ rfl zw_679 zw_680 zw_681 zw_1 zw_682 dL_read_5 z_hok_L_read (fun E M_1 hE9 hP _ x1 => ?_) (fun r_1 M_1 hP _ x1 => ?_)
  · rcases hP with ⟨rfl, hP⟩ | ⟨rfl, hP⟩
    · refine ⟨13, by decide, fun q_1 => ?_⟩
      refine z_astore (lv' := [(4, z_O _), (0, z_O _), (1, z_I _), (2, z_I _), (3, z_O _)]) dL_read_13 (Nat.le_of_ble_eq_true rfl) rfl ?_
      refine z_pc (pc' := 15) rfl ?_
      refine z_iconst (v := 1) dL_read_15 (by decide) ?_
      exact z_reti rfl dL_read_16 hP
    · refine ⟨17, by decide, fun q_1 => ?_⟩
      refine z_astore (lv' := [(4, z_O _), (0, z_O _), (1, z_I _), (2, z_I _), (3, z_O _)]) dL_read_17 (Nat.le_of_ble_eq_true rfl) rfl ?_
      refine z_pc (pc' := 19) rfl ?_
      refine z_iconst (v := 2) dL_read_19 (by decide) ?_
      exact z_reti rfl dL_read_20 hP
  · obtain ⟨x_1, rfl, hP⟩ := hP
    refine z_stk (st' := [z_I _, z_I _, z_O _]) rfl ?_
    have k2 := x1.k (k := 11) hT1 k2
    have f_p4 := x1.t (k := 24) hT1 f_p4
    refine z_i2l dL_read_8 ?_
    refine z_pc (pc' := 9) rfl ?_
    obtain ⟨a3, e3, hP⟩ := hP
    have k3 := f_p4 a3 e3
    obtain ⟨i4, hP⟩ := hP
    refine z_last e3 k3 i4 dL_read_9 ?_
    refine z_nm (fun M_5 g_5 => ?_)
    replace hP := hP M_5 g_5
    have q_5 := z_k5 g_5
    have k2 := z_kk q_5 k2
    have k3 := z_kk q_5 k3
    refine z_goto (tgt := 21) dL_read_10 (by decide) ?_
    refine z_iconst (v := 0) dL_read_21 (by decide) ?_
    exact z_reti rfl dL_read_22 hP
set_option maxRecDepth 100000 in
def P_L_connect (p1 : Option Nat) (p2 : Int32) (M : z_Mem) (Post : Int32 → z_Mem → Prop) : Prop := z_nn p1 fun a2 => (P_X11_connect a2 p2 M (fun M_1 => Post 0 M_1) (fun E M_1 => (E = "java/lang/IllegalArgumentException" ∧ Post 1 M_1) ∨ (E = "java/lang/IllegalStateException" ∧ Post 2 M_1)))
set_option maxRecDepth 100000 in
set_option maxHeartbeats 4000000 in
theorem s_L_connect {G : z_G} {M : z_Mem} {p1 : Option Nat} {p2 : Int32} {Post : Int32 → z_Mem → Prop} (hl9 : G.1.stackTraces = false) (f_p1 : z_tr M p1 12) (hP : P_L_connect p1 p2 M Post) : z_MtH G Y_L_connect hh_L_connect M [z_O p1, z_I p2] (z_PI Post) := by
  refine z_ofVH (by decide) (Nat.le_of_ble_eq_true rfl) ?_
  unfold P_L_connect at hP
  refine z_sub (lv' := [(0, z_O p1), (1, z_I p2)]) [0, 1] rfl ?_
  refine z_aload_n dL_connect_0 rfl 0 rfl ?_
  refine z_iload_n dL_connect_1 rfl 1 rfl ?_
  obtain ⟨a2, e2, hP⟩ := hP
  have k2 := f_p1 a2 e2
  refine z_wts (fun hT1 _ => ?_)
  refine z_hV (hh := hh_L_connect) (c := 11) (n := 1) (Y1 := Y_X11_connect) (st := []) e2 k2 z_cb11 (Nat.le_of_ble_eq_true rfl) rfl (s_X11_connect hl9 k2 hP) rfl ⟨z_dc_X11_connect, ⟨(Nat.le_of_ble_eq_true rfl), (Nat.le_of_ble_eq_true rfl)⟩, (Nat.le_of_ble_eq_true rfl)⟩ rfl zw_761 zw_762 zw_763 zw_1 zw_764 dL_connect_2 z_hok_L_connect (fun E M_1 hE9 hP _ x1 => ?_) (fun r_1 M_1 hP _ x1 => ?_)
  · rcases hP with ⟨rfl, hP⟩ | ⟨rfl, hP⟩
    · refine ⟨8, by decide, fun q_1 => ?_⟩
      refine z_astore_n (lv' := [(2, z_O _), (0, z_O _), (1, z_I _)]) dL_connect_8 rfl (Nat.le_of_ble_eq_true rfl) rfl ?_
      refine z_iconst (v := 1) dL_connect_9 (by decide) ?_
      exact z_reti rfl dL_connect_10 hP
    · refine ⟨11, by decide, fun q_1 => ?_⟩
      refine z_astore_n (lv' := [(2, z_O _), (0, z_O _), (1, z_I _)]) dL_connect_11 rfl (Nat.le_of_ble_eq_true rfl) rfl ?_
      refine z_iconst (v := 2) dL_connect_12 (by decide) ?_
      exact z_reti rfl dL_connect_13 hP
  · obtain ⟨rfl, hP⟩ := hP
    refine z_stk (st' := []) rfl ?_
    have k2 := x1.k (k := 11) hT1 k2
    refine z_goto (tgt := 14) dL_connect_5 (by decide) ?_
    refine z_iconst (v := 0) dL_connect_14 (by decide) ?_
    exact z_reti rfl dL_connect_15 hP
set_option maxRecDepth 100000 in
def P_L_write (p1 : Option Nat) (p2 : Int32) (p3 : Int32) (p4 : Option Nat) (M : z_Mem) (Post : Int32 → z_Mem → Prop) : Prop := z_nn p1 fun a2 => (P_X11_write a2 p2 p3 M (fun x_1 M_1 => z_nn p4 fun a3 => (vp_in 0 (z_ln M_1 a3) ∧ (∀ M_5 : z_Mem, M_5 = z_sal M_1 a3 ((0 : Int32).toNatClampNeg) ((x_1 : Int32).toInt64) → (Post 0 M_5)))) (fun E M_1 => (E = "java/lang/IndexOutOfBoundsException" ∧ Post 1 M_1) ∨ (E = "java/lang/IllegalArgumentException" ∧ Post 2 M_1) ∨ (E = "java/lang/IllegalStateException" ∧ Post 3 M_1)))
set_option maxRecDepth 100000 in
set_option maxHeartbeats 4000000 in
theorem s_L_write {G : z_G} {M : z_Mem} {p1 : Option Nat} {p2 : Int32} {p3 : Int32} {p4 : Option Nat} {Post : Int32 → z_Mem → Prop} (hl9 : G.1.stackTraces = false) (f_p1 : z_tr M p1 12) (f_p4 : z_tr M p4 25) (hP : P_L_write p1 p2 p3 p4 M Post) : z_MtH G Y_L_write hh_L_write M [z_O p1, z_I p2, z_I p3, z_O p4] (z_PI Post) := by
  refine z_ofVH (by decide) (Nat.le_of_ble_eq_true rfl) ?_
  unfold P_L_write at hP
  refine z_sub (lv' := [(0, z_O p1), (1, z_I p2), (2, z_I p3), (3, z_O p4)]) [0, 1, 2, 3] rfl ?_
  refine z_aload_n dL_write_0 rfl 3 rfl ?_
  refine z_iconst (v := 0) dL_write_1 (by decide) ?_
  refine z_aload_n dL_write_2 rfl 0 rfl ?_
  refine z_iload_n dL_write_3 rfl 1 rfl ?_
  refine z_iload_n dL_write_4 rfl 2 rfl ?_
  obtain ⟨a2, e2, hP⟩ := hP
  have k2 := f_p1 a2 e2
  refine z_wts (fun hT1 _ => ?_)
  refine z_hV (hh := hh_L_write) (c := 11) (n := 2) (Y1 := Y_X11_write) (st := [z_I _, z_O _]) e2 k2 z_cb11 (Nat.le_of_ble_eq_true rfl) rfl (s_X11_write hl9 k2 hP) rfl ⟨z_dc_X11_write, ⟨(Nat.le_of_ble_eq_true rfl), (Nat.le_of_ble_eq_true rfl)⟩, (Nat.le_of_ble_eq_true rfl)⟩ rfl zw_806 zw_807 zw_808 zw_1 zw_809 dL_write_5 z_hok_L_write (fun E M_1 hE9 hP _ x1 => ?_) (fun r_1 M_1 hP _ x1 => ?_)
  · rcases hP with ⟨rfl, hP⟩ | ⟨rfl, hP⟩ | ⟨rfl, hP⟩
    · refine ⟨13, by decide, fun q_1 => ?_⟩
      refine z_astore (lv' := [(4, z_O _), (0, z_O _), (1, z_I _), (2, z_I _), (3, z_O _)]) dL_write_13 (Nat.le_of_ble_eq_true rfl) rfl ?_
      refine z_pc (pc' := 15) rfl ?_
      refine z_iconst (v := 1) dL_write_15 (by decide) ?_
      exact z_reti rfl dL_write_16 hP
    · refine ⟨17, by decide, fun q_1 => ?_⟩
      refine z_astore (lv' := [(4, z_O _), (0, z_O _), (1, z_I _), (2, z_I _), (3, z_O _)]) dL_write_17 (Nat.le_of_ble_eq_true rfl) rfl ?_
      refine z_pc (pc' := 19) rfl ?_
      refine z_iconst (v := 2) dL_write_19 (by decide) ?_
      exact z_reti rfl dL_write_20 hP
    · refine ⟨21, by decide, fun q_1 => ?_⟩
      refine z_astore (lv' := [(4, z_O _), (0, z_O _), (1, z_I _), (2, z_I _), (3, z_O _)]) dL_write_21 (Nat.le_of_ble_eq_true rfl) rfl ?_
      refine z_pc (pc' := 23) rfl ?_
      refine z_iconst (v := 3) dL_write_23 (by decide) ?_
      exact z_reti rfl dL_write_24 hP
  · obtain ⟨x_1, rfl, hP⟩ := hP
    refine z_stk (st' := [z_I _, z_I _, z_O _]) rfl ?_
    have k2 := x1.k (k := 11) hT1 k2
    have f_p4 := x1.t (k := 24) hT1 f_p4
    refine z_i2l dL_write_8 ?_
    refine z_pc (pc' := 9) rfl ?_
    obtain ⟨a3, e3, hP⟩ := hP
    have k3 := f_p4 a3 e3
    obtain ⟨i4, hP⟩ := hP
    refine z_last e3 k3 i4 dL_write_9 ?_
    refine z_nm (fun M_5 g_5 => ?_)
    replace hP := hP M_5 g_5
    have q_5 := z_k5 g_5
    have k2 := z_kk q_5 k2
    have k3 := z_kk q_5 k3
    refine z_goto (tgt := 25) dL_write_10 (by decide) ?_
    refine z_iconst (v := 0) dL_write_25 (by decide) ?_
    exact z_reti rfl dL_write_26 hP
set_option maxRecDepth 100000 in
def P_L_setWay (p1 : Option Nat) (p2 : Int32) (p3 : Int32) (p4 : Option Nat) (M : z_Mem) (Post : Int32 → z_Mem → Prop) : Prop := z_nn p1 fun a2 => (P_X11_setWay a2 p2 p3 M (fun x_1 M_1 => z_nn p4 fun a3 => (vp_in 0 (z_ln M_1 a3) ∧ (∀ M_5 : z_Mem, M_5 = z_sal M_1 a3 ((0 : Int32).toNatClampNeg) ((x_1 : Int32).toInt64) → (Post 0 M_5)))) (fun E M_1 => (E = "java/lang/IndexOutOfBoundsException" ∧ Post 1 M_1) ∨ (E = "java/lang/IllegalArgumentException" ∧ Post 2 M_1)))
set_option maxRecDepth 100000 in
set_option maxHeartbeats 4000000 in
theorem s_L_setWay {G : z_G} {M : z_Mem} {p1 : Option Nat} {p2 : Int32} {p3 : Int32} {p4 : Option Nat} {Post : Int32 → z_Mem → Prop} (hl9 : G.1.stackTraces = false) (f_p1 : z_tr M p1 12) (f_p4 : z_tr M p4 25) (hP : P_L_setWay p1 p2 p3 p4 M Post) : z_MtH G Y_L_setWay hh_L_setWay M [z_O p1, z_I p2, z_I p3, z_O p4] (z_PI Post) := by
  refine z_ofVH (by decide) (Nat.le_of_ble_eq_true rfl) ?_
  unfold P_L_setWay at hP
  refine z_sub (lv' := [(0, z_O p1), (1, z_I p2), (2, z_I p3), (3, z_O p4)]) [0, 1, 2, 3] rfl ?_
  refine z_aload_n dL_setWay_0 rfl 3 rfl ?_
  refine z_iconst (v := 0) dL_setWay_1 (by decide) ?_
  refine z_aload_n dL_setWay_2 rfl 0 rfl ?_
  refine z_iload_n dL_setWay_3 rfl 1 rfl ?_
  refine z_iload_n dL_setWay_4 rfl 2 rfl ?_
  obtain ⟨a2, e2, hP⟩ := hP
  have k2 := f_p1 a2 e2
  refine z_wts (fun hT1 _ => ?_)
  refine z_hV (hh := hh_L_setWay) (c := 11) (n := 2) (Y1 := Y_X11_setWay) (st := [z_I _, z_O _]) e2 k2 z_cb11 (Nat.le_of_ble_eq_true rfl) rfl (s_X11_setWay hl9 k2 hP) rfl ⟨z_dc_X11_setWay, ⟨(Nat.le_of_ble_eq_true rfl), (Nat.le_of_ble_eq_true rfl)⟩, (Nat.le_of_ble_eq_true rfl)⟩ rfl zw_813 zw_814 zw_815 zw_1 zw_816 dL_setWay_5 z_hok_L_setWay (fun E M_1 hE9 hP _ x1 => ?_) (fun r_1 M_1 hP _ x1 => ?_)
  · rcases hP with ⟨rfl, hP⟩ | ⟨rfl, hP⟩
    · refine ⟨13, by decide, fun q_1 => ?_⟩
      refine z_astore (lv' := [(4, z_O _), (0, z_O _), (1, z_I _), (2, z_I _), (3, z_O _)]) dL_setWay_13 (Nat.le_of_ble_eq_true rfl) rfl ?_
      refine z_pc (pc' := 15) rfl ?_
      refine z_iconst (v := 1) dL_setWay_15 (by decide) ?_
      exact z_reti rfl dL_setWay_16 hP
    · refine ⟨17, by decide, fun q_1 => ?_⟩
      refine z_astore (lv' := [(4, z_O _), (0, z_O _), (1, z_I _), (2, z_I _), (3, z_O _)]) dL_setWay_17 (Nat.le_of_ble_eq_true rfl) rfl ?_
      refine z_pc (pc' := 19) rfl ?_
      refine z_iconst (v := 2) dL_setWay_19 (by decide) ?_
      exact z_reti rfl dL_setWay_20 hP
  · obtain ⟨x_1, rfl, hP⟩ := hP
    refine z_stk (st' := [z_I _, z_I _, z_O _]) rfl ?_
    have k2 := x1.k (k := 11) hT1 k2
    have f_p4 := x1.t (k := 24) hT1 f_p4
    refine z_i2l dL_setWay_8 ?_
    refine z_pc (pc' := 9) rfl ?_
    obtain ⟨a3, e3, hP⟩ := hP
    have k3 := f_p4 a3 e3
    obtain ⟨i4, hP⟩ := hP
    refine z_last e3 k3 i4 dL_setWay_9 ?_
    refine z_nm (fun M_5 g_5 => ?_)
    replace hP := hP M_5 g_5
    have q_5 := z_k5 g_5
    have k2 := z_kk q_5 k2
    have k3 := z_kk q_5 k3
    refine z_goto (tgt := 21) dL_setWay_10 (by decide) ?_
    refine z_iconst (v := 0) dL_setWay_21 (by decide) ?_
    exact z_reti rfl dL_setWay_22 hP
set_option maxRecDepth 100000 in
def P_L_check (p1 : Option Nat) (p2 : Int32) (M : z_Mem) (Post : Int32 → z_Mem → Prop) : Prop := z_nn p1 fun a2 => (P_X11_check a2 p2 M (fun M_1 => Post 0 M_1) (fun E M_1 => (E = "java/lang/IndexOutOfBoundsException" ∧ Post 1 M_1) ∨ (E = "java/lang/IllegalStateException" ∧ Post 2 M_1)))
set_option maxRecDepth 100000 in
set_option maxHeartbeats 4000000 in
theorem s_L_check {G : z_G} {M : z_Mem} {p1 : Option Nat} {p2 : Int32} {Post : Int32 → z_Mem → Prop} (hl9 : G.1.stackTraces = false) (f_p1 : z_tr M p1 12) (hP : P_L_check p1 p2 M Post) : z_MtH G Y_L_check hh_L_check M [z_O p1, z_I p2] (z_PI Post) := by
  refine z_ofVH (by decide) (Nat.le_of_ble_eq_true rfl) ?_
  unfold P_L_check at hP
  refine z_sub (lv' := [(0, z_O p1), (1, z_I p2)]) [0, 1] rfl ?_
  refine z_aload_n dL_check_0 rfl 0 rfl ?_
  refine z_iload_n dL_check_1 rfl 1 rfl ?_
  obtain ⟨a2, e2, hP⟩ := hP
  have k2 := f_p1 a2 e2
  refine z_wts (fun hT1 _ => ?_)
  refine z_hV (hh := hh_L_check) (c := 11) (n := 1) (Y1 := Y_X11_check) (st := []) e2 k2 z_cb11 (Nat.le_of_ble_eq_true rfl) rfl (s_X11_check hl9 k2 hP) rfl ⟨z_dc_X11_check, ⟨(Nat.le_of_ble_eq_true rfl), (Nat.le_of_ble_eq_true rfl)⟩, (Nat.le_of_ble_eq_true rfl)⟩ rfl zw_824 zw_825 zw_826 zw_1 zw_827 dL_check_2 z_hok_L_check (fun E M_1 hE9 hP _ x1 => ?_) (fun r_1 M_1 hP _ x1 => ?_)
  · rcases hP with ⟨rfl, hP⟩ | ⟨rfl, hP⟩
    · refine ⟨8, by decide, fun q_1 => ?_⟩
      refine z_astore_n (lv' := [(2, z_O _), (0, z_O _), (1, z_I _)]) dL_check_8 rfl (Nat.le_of_ble_eq_true rfl) rfl ?_
      refine z_iconst (v := 1) dL_check_9 (by decide) ?_
      exact z_reti rfl dL_check_10 hP
    · refine ⟨11, by decide, fun q_1 => ?_⟩
      refine z_astore_n (lv' := [(2, z_O _), (0, z_O _), (1, z_I _)]) dL_check_11 rfl (Nat.le_of_ble_eq_true rfl) rfl ?_
      refine z_iconst (v := 2) dL_check_12 (by decide) ?_
      exact z_reti rfl dL_check_13 hP
  · obtain ⟨rfl, hP⟩ := hP
    refine z_stk (st' := []) rfl ?_
    have k2 := x1.k (k := 11) hT1 k2
    refine z_goto (tgt := 14) dL_check_5 (by decide) ?_
    refine z_iconst (v := 0) dL_check_14 (by decide) ?_
    exact z_reti rfl dL_check_15 hP
set_option maxRecDepth 100000 in
def P_L_use (p1 : Option Nat) (p2 : Int32) (p3 : Option Nat) (M : z_Mem) (Post : Int32 → z_Mem → Prop) : Prop := z_nn p1 fun a2 => (P_X11_use a2 p2 M (fun x_1 M_1 => z_nn p3 fun a3 => (vp_in 0 (z_ln M_1 a3) ∧ (∀ M_5 : z_Mem, M_5 = z_sal M_1 a3 ((0 : Int32).toNatClampNeg) ((x_1 : Int32).toInt64) → (Post 0 M_5)))) (fun E M_1 => (E = "java/lang/IllegalArgumentException" ∧ Post 1 M_1) ∨ (E = "java/lang/IllegalStateException" ∧ Post 2 M_1)))
set_option maxRecDepth 100000 in
set_option maxHeartbeats 4000000 in
theorem s_L_use {G : z_G} {M : z_Mem} {p1 : Option Nat} {p2 : Int32} {p3 : Option Nat} {Post : Int32 → z_Mem → Prop} (hl9 : G.1.stackTraces = false) (f_p1 : z_tr M p1 12) (f_p3 : z_tr M p3 25) (hP : P_L_use p1 p2 p3 M Post) : z_MtH G Y_L_use hh_L_use M [z_O p1, z_I p2, z_O p3] (z_PI Post) := by
  refine z_ofVH (by decide) (Nat.le_of_ble_eq_true rfl) ?_
  unfold P_L_use at hP
  refine z_sub (lv' := [(0, z_O p1), (1, z_I p2), (2, z_O p3)]) [0, 1, 2] rfl ?_
  refine z_aload_n dL_use_0 rfl 2 rfl ?_
  refine z_iconst (v := 0) dL_use_1 (by decide) ?_
  refine z_aload_n dL_use_2 rfl 0 rfl ?_
  refine z_iload_n dL_use_3 rfl 1 rfl ?_
  obtain ⟨a2, e2, hP⟩ := hP
  have k2 := f_p1 a2 e2
  refine z_wts (fun hT1 _ => ?_)
  refine z_hV (hh := hh_L_use) (c := 11) (n := 1) (Y1 := Y_X11_use) (st := [z_I _, z_O _]) e2 k2 z_cb11 (Nat.le_of_ble_eq_true rfl) rfl (s_X11_use hl9 k2 hP) rfl ⟨z_dc_X11_use, ⟨(Nat.le_of_ble_eq_true rfl), (Nat.le_of_ble_eq_true rfl)⟩, (Nat.le_of_ble_eq_true rfl)⟩ rfl zw_834 zw_835 zw_836 zw_1 zw_837 dL_use_4 z_hok_L_use (fun E M_1 hE9 hP _ x1 => ?_) (fun r_1 M_1 hP _ x1 => ?_)
  · rcases hP with ⟨rfl, hP⟩ | ⟨rfl, hP⟩
    · refine ⟨12, by decide, fun q_1 => ?_⟩
      refine z_astore_n (lv' := [(3, z_O _), (0, z_O _), (1, z_I _), (2, z_O _)]) dL_use_12 rfl (Nat.le_of_ble_eq_true rfl) rfl ?_
      refine z_iconst (v := 1) dL_use_13 (by decide) ?_
      refine z_pc (pc' := 14) rfl ?_
      exact z_reti rfl dL_use_14 hP
    · refine ⟨15, by decide, fun q_1 => ?_⟩
      refine z_astore_n (lv' := [(3, z_O _), (0, z_O _), (1, z_I _), (2, z_O _)]) dL_use_15 rfl (Nat.le_of_ble_eq_true rfl) rfl ?_
      refine z_iconst (v := 2) dL_use_16 (by decide) ?_
      refine z_pc (pc' := 17) rfl ?_
      exact z_reti rfl dL_use_17 hP
  · obtain ⟨x_1, rfl, hP⟩ := hP
    refine z_stk (st' := [z_I _, z_I _, z_O _]) rfl ?_
    have k2 := x1.k (k := 11) hT1 k2
    have f_p3 := x1.t (k := 24) hT1 f_p3
    refine z_i2l dL_use_7 ?_
    obtain ⟨a3, e3, hP⟩ := hP
    have k3 := f_p3 a3 e3
    obtain ⟨i4, hP⟩ := hP
    refine z_last e3 k3 i4 dL_use_8 ?_
    refine z_nm (fun M_5 g_5 => ?_)
    replace hP := hP M_5 g_5
    have q_5 := z_k5 g_5
    have k2 := z_kk q_5 k2
    have k3 := z_kk q_5 k3
    refine z_pc (pc' := 9) rfl ?_
    refine z_goto (tgt := 18) dL_use_9 (by decide) ?_
    refine z_iconst (v := 0) dL_use_18 (by decide) ?_
    exact z_reti rfl dL_use_19 hP
set_option maxRecDepth 100000 in
def P_L_changeKey (p1 : Option Nat) (p2 : Option Nat) (M : z_Mem) (Post : Int32 → z_Mem → Prop) : Prop := z_nn p1 fun a2 => (P_X11_changeKey a2 M (fun x_1 M_1 => z_nn p2 fun a3 => (vp_in 0 (z_ln M_1 a3) ∧ (∀ M_5 : z_Mem, M_5 = z_sal M_1 a3 ((0 : Int32).toNatClampNeg) ((x_1 : Int32).toInt64) → (Post 0 M_5)))) (fun E M_1 => (E = "java/lang/IllegalStateException" ∧ Post 1 M_1)))
set_option maxRecDepth 100000 in
set_option maxHeartbeats 4000000 in
theorem s_L_changeKey {G : z_G} {M : z_Mem} {p1 : Option Nat} {p2 : Option Nat} {Post : Int32 → z_Mem → Prop} (hl9 : G.1.stackTraces = false) (f_p1 : z_tr M p1 12) (f_p2 : z_tr M p2 25) (hP : P_L_changeKey p1 p2 M Post) : z_MtH G Y_L_changeKey hh_L_changeKey M [z_O p1, z_O p2] (z_PI Post) := by
  refine z_ofVH (by decide) (Nat.le_of_ble_eq_true rfl) ?_
  unfold P_L_changeKey at hP
  refine z_sub (lv' := [(0, z_O p1), (1, z_O p2)]) [0, 1] rfl ?_
  refine z_aload_n dL_changeKey_0 rfl 1 rfl ?_
  refine z_iconst (v := 0) dL_changeKey_1 (by decide) ?_
  refine z_aload_n dL_changeKey_2 rfl 0 rfl ?_
  obtain ⟨a2, e2, hP⟩ := hP
  have k2 := f_p1 a2 e2
  refine z_wts (fun hT1 _ => ?_)
  refine z_hV (hh := hh_L_changeKey) (c := 11) (n := 0) (Y1 := Y_X11_changeKey) (st := [z_I _, z_O _]) e2 k2 z_cb11 (Nat.le_of_ble_eq_true rfl) rfl (s_X11_changeKey hl9 k2 hP) rfl ⟨z_dc_X11_changeKey, ⟨(Nat.le_of_ble_eq_true rfl), (Nat.le_of_ble_eq_true rfl)⟩, (Nat.le_of_ble_eq_true rfl)⟩ rfl zw_841 zw_842 zw_843 zw_1 zw_844 dL_changeKey_3 z_hok_L_changeKey (fun E M_1 hE9 hP _ x1 => ?_) (fun r_1 M_1 hP _ x1 => ?_)
  · obtain ⟨rfl, hP⟩ := hP
    · refine ⟨11, by decide, fun q_1 => ?_⟩
      refine z_astore_n (lv' := [(2, z_O _), (0, z_O _), (1, z_O _)]) dL_changeKey_11 rfl (Nat.le_of_ble_eq_true rfl) rfl ?_
      refine z_iconst (v := 1) dL_changeKey_12 (by decide) ?_
      exact z_reti rfl dL_changeKey_13 hP
  · obtain ⟨x_1, rfl, hP⟩ := hP
    refine z_stk (st' := [z_I _, z_I _, z_O _]) rfl ?_
    have k2 := x1.k (k := 11) hT1 k2
    have f_p2 := x1.t (k := 24) hT1 f_p2
    refine z_i2l dL_changeKey_6 ?_
    obtain ⟨a3, e3, hP⟩ := hP
    have k3 := f_p2 a3 e3
    obtain ⟨i4, hP⟩ := hP
    refine z_last e3 k3 i4 dL_changeKey_7 ?_
    refine z_nm (fun M_5 g_5 => ?_)
    replace hP := hP M_5 g_5
    have q_5 := z_k5 g_5
    have k2 := z_kk q_5 k2
    have k3 := z_kk q_5 k3
    refine z_goto (tgt := 14) dL_changeKey_8 (by decide) ?_
    refine z_iconst (v := 0) dL_changeKey_14 (by decide) ?_
    refine z_pc (pc' := 15) rfl ?_
    exact z_reti rfl dL_changeKey_15 hP
set_option maxRecDepth 100000 in
def P_L_close (p1 : Option Nat) (M : z_Mem) (Post : Int32 → z_Mem → Prop) : Prop := z_nn p1 fun a2 => (P_X11_close a2 M (fun M_1 => Post 0 M_1) (fun E M_1 => (E = "java/lang/IllegalStateException" ∧ Post 1 M_1)))
set_option maxRecDepth 100000 in
set_option maxHeartbeats 4000000 in
theorem s_L_close {G : z_G} {M : z_Mem} {p1 : Option Nat} {Post : Int32 → z_Mem → Prop} (hl9 : G.1.stackTraces = false) (f_p1 : z_tr M p1 12) (hP : P_L_close p1 M Post) : z_MtH G Y_L_close hh_L_close M [z_O p1] (z_PI Post) := by
  refine z_ofVH (by decide) (Nat.le_of_ble_eq_true rfl) ?_
  unfold P_L_close at hP
  refine z_sub (lv' := [(0, z_O p1)]) [0] rfl ?_
  refine z_aload_n dL_close_0 rfl 0 rfl ?_
  obtain ⟨a2, e2, hP⟩ := hP
  have k2 := f_p1 a2 e2
  refine z_wts (fun hT1 _ => ?_)
  refine z_hV (hh := hh_L_close) (c := 11) (n := 0) (Y1 := Y_X11_close) (st := []) e2 k2 z_cb11 (Nat.le_of_ble_eq_true rfl) rfl (s_X11_close hl9 k2 hP) rfl ⟨z_dc_X11_close, ⟨(Nat.le_of_ble_eq_true rfl), (Nat.le_of_ble_eq_true rfl)⟩, (Nat.le_of_ble_eq_true rfl)⟩ rfl zw_859 zw_860 zw_861 zw_1 zw_862 dL_close_1 z_hok_L_close (fun E M_1 hE9 hP _ x1 => ?_) (fun r_1 M_1 hP _ x1 => ?_)
  · obtain ⟨rfl, hP⟩ := hP
    · refine ⟨7, by decide, fun q_1 => ?_⟩
      refine z_astore_n (lv' := [(1, z_O _), (0, z_O _)]) dL_close_7 rfl (Nat.le_of_ble_eq_true rfl) rfl ?_
      refine z_iconst (v := 1) dL_close_8 (by decide) ?_
      exact z_reti rfl dL_close_9 hP
  · obtain ⟨rfl, hP⟩ := hP
    refine z_stk (st' := []) rfl ?_
    have k2 := x1.k (k := 11) hT1 k2
    refine z_goto (tgt := 10) dL_close_4 (by decide) ?_
    refine z_iconst (v := 0) dL_close_10 (by decide) ?_
    exact z_reti rfl dL_close_11 hP
set_option maxRecDepth 100000 in
def P_L_tick (p1 : Option Nat) (p2 : Int32) (p3 : Option Nat) (M : z_Mem) (Post : Int32 → z_Mem → Prop) : Prop := z_nn p1 fun a2 => (P_X11_tick a2 p2 M (fun x_1 M_1 => z_nn p3 fun a3 => (vp_in 0 (z_ln M_1 a3) ∧ (∀ M_5 : z_Mem, M_5 = z_sal M_1 a3 ((0 : Int32).toNatClampNeg) ((x_1 : Int32).toInt64) → (Post 0 M_5)))) (fun E M_1 => (E = "java/lang/IllegalArgumentException" ∧ Post 1 M_1) ∨ (E = "java/lang/IllegalStateException" ∧ Post 2 M_1)))
set_option maxRecDepth 100000 in
set_option maxHeartbeats 4000000 in
theorem s_L_tick {G : z_G} {M : z_Mem} {p1 : Option Nat} {p2 : Int32} {p3 : Option Nat} {Post : Int32 → z_Mem → Prop} (hl9 : G.1.stackTraces = false) (f_p1 : z_tr M p1 12) (f_p3 : z_tr M p3 25) (hP : P_L_tick p1 p2 p3 M Post) : z_MtH G Y_L_tick hh_L_tick M [z_O p1, z_I p2, z_O p3] (z_PI Post) := by
  refine z_ofVH (by decide) (Nat.le_of_ble_eq_true rfl) ?_
  unfold P_L_tick at hP
  refine z_sub (lv' := [(0, z_O p1), (1, z_I p2), (2, z_O p3)]) [0, 1, 2] rfl ?_
  refine z_aload_n dL_tick_0 rfl 2 rfl ?_
  refine z_iconst (v := 0) dL_tick_1 (by decide) ?_
  refine z_aload_n dL_tick_2 rfl 0 rfl ?_
  refine z_iload_n dL_tick_3 rfl 1 rfl ?_
  obtain ⟨a2, e2, hP⟩ := hP
  have k2 := f_p1 a2 e2
  refine z_wts (fun hT1 _ => ?_)
  refine z_hV (hh := hh_L_tick) (c := 11) (n := 1) (Y1 := Y_X11_tick) (st := [z_I _, z_O _]) e2 k2 z_cb11 (Nat.le_of_ble_eq_true rfl) rfl (s_X11_tick hl9 k2 hP) rfl ⟨z_dc_X11_tick, ⟨(Nat.le_of_ble_eq_true rfl), (Nat.le_of_ble_eq_true rfl)⟩, (Nat.le_of_ble_eq_true rfl)⟩ rfl zw_870 zw_871 zw_872 zw_1 zw_873 dL_tick_4 z_hok_L_tick (fun E M_1 hE9 hP _ x1 => ?_) (fun r_1 M_1 hP _ x1 => ?_)
  · rcases hP with ⟨rfl, hP⟩ | ⟨rfl, hP⟩
    · refine ⟨12, by decide, fun q_1 => ?_⟩
      refine z_astore_n (lv' := [(3, z_O _), (0, z_O _), (1, z_I _), (2, z_O _)]) dL_tick_12 rfl (Nat.le_of_ble_eq_true rfl) rfl ?_
      refine z_iconst (v := 1) dL_tick_13 (by decide) ?_
      refine z_pc (pc' := 14) rfl ?_
      exact z_reti rfl dL_tick_14 hP
    · refine ⟨15, by decide, fun q_1 => ?_⟩
      refine z_astore_n (lv' := [(3, z_O _), (0, z_O _), (1, z_I _), (2, z_O _)]) dL_tick_15 rfl (Nat.le_of_ble_eq_true rfl) rfl ?_
      refine z_iconst (v := 2) dL_tick_16 (by decide) ?_
      refine z_pc (pc' := 17) rfl ?_
      exact z_reti rfl dL_tick_17 hP
  · obtain ⟨x_1, rfl, hP⟩ := hP
    refine z_stk (st' := [z_I _, z_I _, z_O _]) rfl ?_
    have k2 := x1.k (k := 11) hT1 k2
    have f_p3 := x1.t (k := 24) hT1 f_p3
    refine z_i2l dL_tick_7 ?_
    obtain ⟨a3, e3, hP⟩ := hP
    have k3 := f_p3 a3 e3
    obtain ⟨i4, hP⟩ := hP
    refine z_last e3 k3 i4 dL_tick_8 ?_
    refine z_nm (fun M_5 g_5 => ?_)
    replace hP := hP M_5 g_5
    have q_5 := z_k5 g_5
    have k2 := z_kk q_5 k2
    have k3 := z_kk q_5 k3
    refine z_pc (pc' := 9) rfl ?_
    refine z_goto (tgt := 18) dL_tick_9 (by decide) ?_
    refine z_iconst (v := 0) dL_tick_18 (by decide) ?_
    exact z_reti rfl dL_tick_19 hP
set_option maxRecDepth 100000 in
def P_L_state (p1 : Option Nat) (p2 : Int32) (p3 : Option Nat) (M : z_Mem) (Post : Int32 → z_Mem → Prop) : Prop := z_nn p1 fun a2 => (P_X11_state a2 p2 M (fun x_1 M_1 => z_nn p3 fun a3 => (vp_in 0 (z_ln M_1 a3) ∧ (∀ M_5 : z_Mem, M_5 = z_sal M_1 a3 ((0 : Int32).toNatClampNeg) ((x_1 : Int32).toInt64) → (Post 0 M_5)))) (fun E M_1 => (E = "java/lang/IllegalArgumentException" ∧ Post 1 M_1)))
set_option maxRecDepth 100000 in
set_option maxHeartbeats 4000000 in
theorem s_L_state {G : z_G} {M : z_Mem} {p1 : Option Nat} {p2 : Int32} {p3 : Option Nat} {Post : Int32 → z_Mem → Prop} (hl9 : G.1.stackTraces = false) (f_p1 : z_tr M p1 12) (f_p3 : z_tr M p3 25) (hP : P_L_state p1 p2 p3 M Post) : z_MtH G Y_L_state hh_L_state M [z_O p1, z_I p2, z_O p3] (z_PI Post) := by
  refine z_ofVH (by decide) (Nat.le_of_ble_eq_true rfl) ?_
  unfold P_L_state at hP
  refine z_sub (lv' := [(0, z_O p1), (1, z_I p2), (2, z_O p3)]) [0, 1, 2] rfl ?_
  refine z_aload_n dL_state_0 rfl 2 rfl ?_
  refine z_iconst (v := 0) dL_state_1 (by decide) ?_
  refine z_aload_n dL_state_2 rfl 0 rfl ?_
  refine z_iload_n dL_state_3 rfl 1 rfl ?_
  obtain ⟨a2, e2, hP⟩ := hP
  have k2 := f_p1 a2 e2
  refine z_wts (fun hT1 _ => ?_)
  refine z_hV (hh := hh_L_state) (c := 11) (n := 1) (Y1 := Y_X11_state) (st := [z_I _, z_O _]) e2 k2 z_cb11 (Nat.le_of_ble_eq_true rfl) rfl (s_X11_state hl9 k2 hP) rfl ⟨z_dc_X11_state, ⟨(Nat.le_of_ble_eq_true rfl), (Nat.le_of_ble_eq_true rfl)⟩, (Nat.le_of_ble_eq_true rfl)⟩ rfl zw_1189 zw_1190 zw_1191 zw_1 zw_1192 dL_state_4 z_hok_L_state (fun E M_1 hE9 hP _ x1 => ?_) (fun r_1 M_1 hP _ x1 => ?_)
  · obtain ⟨rfl, hP⟩ := hP
    · refine ⟨12, by decide, fun q_1 => ?_⟩
      refine z_astore_n (lv' := [(3, z_O _), (0, z_O _), (1, z_I _), (2, z_O _)]) dL_state_12 rfl (Nat.le_of_ble_eq_true rfl) rfl ?_
      refine z_iconst (v := 1) dL_state_13 (by decide) ?_
      refine z_pc (pc' := 14) rfl ?_
      exact z_reti rfl dL_state_14 hP
  · obtain ⟨x_1, rfl, hP⟩ := hP
    refine z_stk (st' := [z_I _, z_I _, z_O _]) rfl ?_
    have k2 := x1.k (k := 11) hT1 k2
    have f_p3 := x1.t (k := 24) hT1 f_p3
    refine z_i2l dL_state_7 ?_
    obtain ⟨a3, e3, hP⟩ := hP
    have k3 := f_p3 a3 e3
    obtain ⟨i4, hP⟩ := hP
    refine z_last e3 k3 i4 dL_state_8 ?_
    refine z_nm (fun M_5 g_5 => ?_)
    replace hP := hP M_5 g_5
    have q_5 := z_k5 g_5
    have k2 := z_kk q_5 k2
    have k3 := z_kk q_5 k3
    refine z_pc (pc' := 9) rfl ?_
    refine z_goto (tgt := 15) dL_state_9 (by decide) ?_
    refine z_iconst (v := 0) dL_state_15 (by decide) ?_
    exact z_reti rfl dL_state_16 hP
set_option maxRecDepth 100000 in
def P_L_path (p1 : Option Nat) (p2 : Int32) (p3 : Int32) (p4 : Option Nat) (M : z_Mem) (Post : Int32 → z_Mem → Prop) : Prop := z_nn p1 fun a2 => (P_X11_path a2 p2 p3 M (fun x_1 M_1 => z_nn p4 fun a3 => (vp_in 0 (z_ln M_1 a3) ∧ (∀ M_5 : z_Mem, M_5 = z_sal M_1 a3 ((0 : Int32).toNatClampNeg) ((x_1 : Int32).toInt64) → (Post 0 M_5)))) (fun E M_1 => (E = "java/lang/IndexOutOfBoundsException" ∧ Post 1 M_1) ∨ (E = "java/lang/IllegalArgumentException" ∧ Post 2 M_1)))
set_option maxRecDepth 100000 in
set_option maxHeartbeats 4000000 in
theorem s_L_path {G : z_G} {M : z_Mem} {p1 : Option Nat} {p2 : Int32} {p3 : Int32} {p4 : Option Nat} {Post : Int32 → z_Mem → Prop} (hl9 : G.1.stackTraces = false) (f_p1 : z_tr M p1 12) (f_p4 : z_tr M p4 25) (hP : P_L_path p1 p2 p3 p4 M Post) : z_MtH G Y_L_path hh_L_path M [z_O p1, z_I p2, z_I p3, z_O p4] (z_PI Post) := by
  refine z_ofVH (by decide) (Nat.le_of_ble_eq_true rfl) ?_
  unfold P_L_path at hP
  refine z_sub (lv' := [(0, z_O p1), (1, z_I p2), (2, z_I p3), (3, z_O p4)]) [0, 1, 2, 3] rfl ?_
  refine z_aload_n dL_path_0 rfl 3 rfl ?_
  refine z_iconst (v := 0) dL_path_1 (by decide) ?_
  refine z_aload_n dL_path_2 rfl 0 rfl ?_
  refine z_iload_n dL_path_3 rfl 1 rfl ?_
  refine z_iload_n dL_path_4 rfl 2 rfl ?_
  obtain ⟨a2, e2, hP⟩ := hP
  have k2 := f_p1 a2 e2
  refine z_wts (fun hT1 _ => ?_)
  refine z_hV (hh := hh_L_path) (c := 11) (n := 2) (Y1 := Y_X11_path) (st := [z_I _, z_O _]) e2 k2 z_cb11 (Nat.le_of_ble_eq_true rfl) rfl (s_X11_path hl9 k2 hP) rfl ⟨z_dc_X11_path, ⟨(Nat.le_of_ble_eq_true rfl), (Nat.le_of_ble_eq_true rfl)⟩, (Nat.le_of_ble_eq_true rfl)⟩ rfl zw_1196 zw_1197 zw_1198 zw_1 zw_1199 dL_path_5 z_hok_L_path (fun E M_1 hE9 hP _ x1 => ?_) (fun r_1 M_1 hP _ x1 => ?_)
  · rcases hP with ⟨rfl, hP⟩ | ⟨rfl, hP⟩
    · refine ⟨13, by decide, fun q_1 => ?_⟩
      refine z_astore (lv' := [(4, z_O _), (0, z_O _), (1, z_I _), (2, z_I _), (3, z_O _)]) dL_path_13 (Nat.le_of_ble_eq_true rfl) rfl ?_
      refine z_pc (pc' := 15) rfl ?_
      refine z_iconst (v := 1) dL_path_15 (by decide) ?_
      exact z_reti rfl dL_path_16 hP
    · refine ⟨17, by decide, fun q_1 => ?_⟩
      refine z_astore (lv' := [(4, z_O _), (0, z_O _), (1, z_I _), (2, z_I _), (3, z_O _)]) dL_path_17 (Nat.le_of_ble_eq_true rfl) rfl ?_
      refine z_pc (pc' := 19) rfl ?_
      refine z_iconst (v := 2) dL_path_19 (by decide) ?_
      exact z_reti rfl dL_path_20 hP
  · obtain ⟨x_1, rfl, hP⟩ := hP
    refine z_stk (st' := [z_I _, z_I _, z_O _]) rfl ?_
    have k2 := x1.k (k := 11) hT1 k2
    have f_p4 := x1.t (k := 24) hT1 f_p4
    refine z_i2l dL_path_8 ?_
    refine z_pc (pc' := 9) rfl ?_
    obtain ⟨a3, e3, hP⟩ := hP
    have k3 := f_p4 a3 e3
    obtain ⟨i4, hP⟩ := hP
    refine z_last e3 k3 i4 dL_path_9 ?_
    refine z_nm (fun M_5 g_5 => ?_)
    replace hP := hP M_5 g_5
    have q_5 := z_k5 g_5
    have k2 := z_kk q_5 k2
    have k3 := z_kk q_5 k3
    refine z_goto (tgt := 21) dL_path_10 (by decide) ?_
    refine z_iconst (v := 0) dL_path_21 (by decide) ?_
    exact z_reti rfl dL_path_22 hP
set_option maxRecDepth 100000 in
def P_L_stream (p1 : Option Nat) (p2 : Int32) (p3 : Int32) (p4 : Option Nat) (M : z_Mem) (Post : Int32 → z_Mem → Prop) : Prop := z_nn p1 fun a2 => (P_X11_stream a2 p2 p3 M (fun x_1 M_1 => z_nn p4 fun a3 => (vp_in 0 (z_ln M_1 a3) ∧ (∀ M_5 : z_Mem, M_5 = z_sal M_1 a3 ((0 : Int32).toNatClampNeg) ((x_1 : Int32).toInt64) → (Post 0 M_5)))) (fun E M_1 => (E = "java/lang/IndexOutOfBoundsException" ∧ Post 1 M_1) ∨ (E = "java/lang/IllegalArgumentException" ∧ Post 2 M_1)))
set_option maxRecDepth 100000 in
set_option maxHeartbeats 4000000 in
theorem s_L_stream {G : z_G} {M : z_Mem} {p1 : Option Nat} {p2 : Int32} {p3 : Int32} {p4 : Option Nat} {Post : Int32 → z_Mem → Prop} (hl9 : G.1.stackTraces = false) (f_p1 : z_tr M p1 12) (f_p4 : z_tr M p4 25) (hP : P_L_stream p1 p2 p3 p4 M Post) : z_MtH G Y_L_stream hh_L_stream M [z_O p1, z_I p2, z_I p3, z_O p4] (z_PI Post) := by
  refine z_ofVH (by decide) (Nat.le_of_ble_eq_true rfl) ?_
  unfold P_L_stream at hP
  refine z_sub (lv' := [(0, z_O p1), (1, z_I p2), (2, z_I p3), (3, z_O p4)]) [0, 1, 2, 3] rfl ?_
  refine z_aload_n dL_stream_0 rfl 3 rfl ?_
  refine z_iconst (v := 0) dL_stream_1 (by decide) ?_
  refine z_aload_n dL_stream_2 rfl 0 rfl ?_
  refine z_iload_n dL_stream_3 rfl 1 rfl ?_
  refine z_iload_n dL_stream_4 rfl 2 rfl ?_
  obtain ⟨a2, e2, hP⟩ := hP
  have k2 := f_p1 a2 e2
  refine z_wts (fun hT1 _ => ?_)
  refine z_hV (hh := hh_L_stream) (c := 11) (n := 2) (Y1 := Y_X11_stream) (st := [z_I _, z_O _]) e2 k2 z_cb11 (Nat.le_of_ble_eq_true rfl) rfl (s_X11_stream hl9 k2 hP) rfl ⟨z_dc_X11_stream, ⟨(Nat.le_of_ble_eq_true rfl), (Nat.le_of_ble_eq_true rfl)⟩, (Nat.le_of_ble_eq_true rfl)⟩ rfl zw_1206 zw_1207 zw_1208 zw_1 zw_1209 dL_stream_5 z_hok_L_stream (fun E M_1 hE9 hP _ x1 => ?_) (fun r_1 M_1 hP _ x1 => ?_)
  · rcases hP with ⟨rfl, hP⟩ | ⟨rfl, hP⟩
    · refine ⟨13, by decide, fun q_1 => ?_⟩
      refine z_astore (lv' := [(4, z_O _), (0, z_O _), (1, z_I _), (2, z_I _), (3, z_O _)]) dL_stream_13 (Nat.le_of_ble_eq_true rfl) rfl ?_
      refine z_pc (pc' := 15) rfl ?_
      refine z_iconst (v := 1) dL_stream_15 (by decide) ?_
      exact z_reti rfl dL_stream_16 hP
    · refine ⟨17, by decide, fun q_1 => ?_⟩
      refine z_astore (lv' := [(4, z_O _), (0, z_O _), (1, z_I _), (2, z_I _), (3, z_O _)]) dL_stream_17 (Nat.le_of_ble_eq_true rfl) rfl ?_
      refine z_pc (pc' := 19) rfl ?_
      refine z_iconst (v := 2) dL_stream_19 (by decide) ?_
      exact z_reti rfl dL_stream_20 hP
  · obtain ⟨x_1, rfl, hP⟩ := hP
    refine z_stk (st' := [z_I _, z_I _, z_O _]) rfl ?_
    have k2 := x1.k (k := 11) hT1 k2
    have f_p4 := x1.t (k := 24) hT1 f_p4
    refine z_i2l dL_stream_8 ?_
    refine z_pc (pc' := 9) rfl ?_
    obtain ⟨a3, e3, hP⟩ := hP
    have k3 := f_p4 a3 e3
    obtain ⟨i4, hP⟩ := hP
    refine z_last e3 k3 i4 dL_stream_9 ?_
    refine z_nm (fun M_5 g_5 => ?_)
    replace hP := hP M_5 g_5
    have q_5 := z_k5 g_5
    have k2 := z_kk q_5 k2
    have k3 := z_kk q_5 k3
    refine z_goto (tgt := 21) dL_stream_10 (by decide) ?_
    refine z_iconst (v := 0) dL_stream_21 (by decide) ?_
    exact z_reti rfl dL_stream_22 hP
set_option maxRecDepth 100000 in
def P_L_packet (p1 : Option Nat) (p2 : Int32) (p3 : Int32) (p4 : Option Nat) (M : z_Mem) (Post : Int32 → z_Mem → Prop) : Prop := z_nn p1 fun a2 => (P_X11_packet a2 p2 p3 M (fun x_1 M_1 => z_nn p4 fun a3 => (vp_in 0 (z_ln M_1 a3) ∧ (∀ M_5 : z_Mem, M_5 = z_sal M_1 a3 ((0 : Int32).toNatClampNeg) ((x_1 : Int32).toInt64) → (Post 0 M_5)))) (fun E M_1 => (E = "java/lang/IndexOutOfBoundsException" ∧ Post 1 M_1) ∨ (E = "java/lang/IllegalArgumentException" ∧ Post 2 M_1)))
set_option maxRecDepth 100000 in
set_option maxHeartbeats 4000000 in
theorem s_L_packet {G : z_G} {M : z_Mem} {p1 : Option Nat} {p2 : Int32} {p3 : Int32} {p4 : Option Nat} {Post : Int32 → z_Mem → Prop} (hl9 : G.1.stackTraces = false) (f_p1 : z_tr M p1 12) (f_p4 : z_tr M p4 25) (hP : P_L_packet p1 p2 p3 p4 M Post) : z_MtH G Y_L_packet hh_L_packet M [z_O p1, z_I p2, z_I p3, z_O p4] (z_PI Post) := by
  refine z_ofVH (by decide) (Nat.le_of_ble_eq_true rfl) ?_
  unfold P_L_packet at hP
  refine z_sub (lv' := [(0, z_O p1), (1, z_I p2), (2, z_I p3), (3, z_O p4)]) [0, 1, 2, 3] rfl ?_
  refine z_aload_n dL_packet_0 rfl 3 rfl ?_
  refine z_iconst (v := 0) dL_packet_1 (by decide) ?_
  refine z_aload_n dL_packet_2 rfl 0 rfl ?_
  refine z_iload_n dL_packet_3 rfl 1 rfl ?_
  refine z_iload_n dL_packet_4 rfl 2 rfl ?_
  obtain ⟨a2, e2, hP⟩ := hP
  have k2 := f_p1 a2 e2
  refine z_wts (fun hT1 _ => ?_)
  refine z_hV (hh := hh_L_packet) (c := 11) (n := 2) (Y1 := Y_X11_packet) (st := [z_I _, z_O _]) e2 k2 z_cb11 (Nat.le_of_ble_eq_true rfl) rfl (s_X11_packet hl9 k2 hP) rfl ⟨z_dc_X11_packet, ⟨(Nat.le_of_ble_eq_true rfl), (Nat.le_of_ble_eq_true rfl)⟩, (Nat.le_of_ble_eq_true rfl)⟩ rfl zw_1213 zw_1214 zw_1215 zw_1 zw_1216 dL_packet_5 z_hok_L_packet (fun E M_1 hE9 hP _ x1 => ?_) (fun r_1 M_1 hP _ x1 => ?_)
  · rcases hP with ⟨rfl, hP⟩ | ⟨rfl, hP⟩
    · refine ⟨13, by decide, fun q_1 => ?_⟩
      refine z_astore (lv' := [(4, z_O _), (0, z_O _), (1, z_I _), (2, z_I _), (3, z_O _)]) dL_packet_13 (Nat.le_of_ble_eq_true rfl) rfl ?_
      refine z_pc (pc' := 15) rfl ?_
      refine z_iconst (v := 1) dL_packet_15 (by decide) ?_
      exact z_reti rfl dL_packet_16 hP
    · refine ⟨17, by decide, fun q_1 => ?_⟩
      refine z_astore (lv' := [(4, z_O _), (0, z_O _), (1, z_I _), (2, z_I _), (3, z_O _)]) dL_packet_17 (Nat.le_of_ble_eq_true rfl) rfl ?_
      refine z_pc (pc' := 19) rfl ?_
      refine z_iconst (v := 2) dL_packet_19 (by decide) ?_
      exact z_reti rfl dL_packet_20 hP
  · obtain ⟨x_1, rfl, hP⟩ := hP
    refine z_stk (st' := [z_I _, z_I _, z_O _]) rfl ?_
    have k2 := x1.k (k := 11) hT1 k2
    have f_p4 := x1.t (k := 24) hT1 f_p4
    refine z_i2l dL_packet_8 ?_
    refine z_pc (pc' := 9) rfl ?_
    obtain ⟨a3, e3, hP⟩ := hP
    have k3 := f_p4 a3 e3
    obtain ⟨i4, hP⟩ := hP
    refine z_last e3 k3 i4 dL_packet_9 ?_
    refine z_nm (fun M_5 g_5 => ?_)
    replace hP := hP M_5 g_5
    have q_5 := z_k5 g_5
    have k2 := z_kk q_5 k2
    have k3 := z_kk q_5 k3
    refine z_goto (tgt := 21) dL_packet_10 (by decide) ?_
    refine z_iconst (v := 0) dL_packet_21 (by decide) ?_
    exact z_reti rfl dL_packet_22 hP
set_option maxRecDepth 100000 in
def P_L_count (p1 : Option Nat) (p2 : Int32) (p3 : Option Nat) (M : z_Mem) (Post : Int32 → z_Mem → Prop) : Prop := z_nn p1 fun a2 => (P_X11_count a2 p2 M (fun x_1 M_1 => z_nn p3 fun a3 => (vp_in 0 (z_ln M_1 a3) ∧ (∀ M_5 : z_Mem, M_5 = z_sal M_1 a3 ((0 : Int32).toNatClampNeg) ((x_1 : Int32).toInt64) → (Post 0 M_5)))) (fun E M_1 => (E = "java/lang/IllegalArgumentException" ∧ Post 1 M_1)))
set_option maxRecDepth 100000 in
set_option maxHeartbeats 4000000 in
theorem s_L_count {G : z_G} {M : z_Mem} {p1 : Option Nat} {p2 : Int32} {p3 : Option Nat} {Post : Int32 → z_Mem → Prop} (hl9 : G.1.stackTraces = false) (f_p1 : z_tr M p1 12) (f_p3 : z_tr M p3 25) (hP : P_L_count p1 p2 p3 M Post) : z_MtH G Y_L_count hh_L_count M [z_O p1, z_I p2, z_O p3] (z_PI Post) := by
  refine z_ofVH (by decide) (Nat.le_of_ble_eq_true rfl) ?_
  unfold P_L_count at hP
  refine z_sub (lv' := [(0, z_O p1), (1, z_I p2), (2, z_O p3)]) [0, 1, 2] rfl ?_
  refine z_aload_n dL_count_0 rfl 2 rfl ?_
  refine z_iconst (v := 0) dL_count_1 (by decide) ?_
  refine z_aload_n dL_count_2 rfl 0 rfl ?_
  refine z_iload_n dL_count_3 rfl 1 rfl ?_
  obtain ⟨a2, e2, hP⟩ := hP
  have k2 := f_p1 a2 e2
  refine z_wts (fun hT1 _ => ?_)
  refine z_hV (hh := hh_L_count) (c := 11) (n := 1) (Y1 := Y_X11_count) (st := [z_I _, z_O _]) e2 k2 z_cb11 (Nat.le_of_ble_eq_true rfl) rfl (s_X11_count hl9 k2 hP) rfl ⟨z_dc_X11_count, ⟨(Nat.le_of_ble_eq_true rfl), (Nat.le_of_ble_eq_true rfl)⟩, (Nat.le_of_ble_eq_true rfl)⟩ rfl zw_1226 zw_1227 zw_1228 zw_1 zw_1229 dL_count_4 z_hok_L_count (fun E M_1 hE9 hP _ x1 => ?_) (fun r_1 M_1 hP _ x1 => ?_)
  · obtain ⟨rfl, hP⟩ := hP
    · refine ⟨12, by decide, fun q_1 => ?_⟩
      refine z_astore_n (lv' := [(3, z_O _), (0, z_O _), (1, z_I _), (2, z_O _)]) dL_count_12 rfl (Nat.le_of_ble_eq_true rfl) rfl ?_
      refine z_iconst (v := 1) dL_count_13 (by decide) ?_
      refine z_pc (pc' := 14) rfl ?_
      exact z_reti rfl dL_count_14 hP
  · obtain ⟨x_1, rfl, hP⟩ := hP
    refine z_stk (st' := [z_I _, z_I _, z_O _]) rfl ?_
    have k2 := x1.k (k := 11) hT1 k2
    have f_p3 := x1.t (k := 24) hT1 f_p3
    refine z_i2l dL_count_7 ?_
    obtain ⟨a3, e3, hP⟩ := hP
    have k3 := f_p3 a3 e3
    obtain ⟨i4, hP⟩ := hP
    refine z_last e3 k3 i4 dL_count_8 ?_
    refine z_nm (fun M_5 g_5 => ?_)
    replace hP := hP M_5 g_5
    have q_5 := z_k5 g_5
    have k2 := z_kk q_5 k2
    have k3 := z_kk q_5 k3
    refine z_pc (pc' := 9) rfl ?_
    refine z_goto (tgt := 15) dL_count_9 (by decide) ?_
    refine z_iconst (v := 0) dL_count_15 (by decide) ?_
    exact z_reti rfl dL_count_16 hP
set_option maxRecDepth 100000 in
def P_L_inFlightAnew (p1 : Option Nat) (p2 : Int32) (p3 : Option Nat) (M : z_Mem) (Post : Int32 → z_Mem → Prop) : Prop := z_nn p1 fun a2 => (P_X11_inFlightAnew a2 p2 M (fun x_1 M_1 => z_nn p3 fun a3 => (vp_in 0 (z_ln M_1 a3) ∧ (∀ M_5 : z_Mem, M_5 = z_sal M_1 a3 ((0 : Int32).toNatClampNeg) ((x_1 : Int32).toInt64) → (Post 0 M_5)))) (fun E M_1 => (E = "java/lang/IndexOutOfBoundsException" ∧ Post 1 M_1)))
set_option maxRecDepth 100000 in
set_option maxHeartbeats 4000000 in
theorem s_L_inFlightAnew {G : z_G} {M : z_Mem} {p1 : Option Nat} {p2 : Int32} {p3 : Option Nat} {Post : Int32 → z_Mem → Prop} (hl9 : G.1.stackTraces = false) (f_p1 : z_tr M p1 12) (f_p3 : z_tr M p3 25) (hP : P_L_inFlightAnew p1 p2 p3 M Post) : z_MtH G Y_L_inFlightAnew hh_L_inFlightAnew M [z_O p1, z_I p2, z_O p3] (z_PI Post) := by
  refine z_ofVH (by decide) (Nat.le_of_ble_eq_true rfl) ?_
  unfold P_L_inFlightAnew at hP
  refine z_sub (lv' := [(0, z_O p1), (1, z_I p2), (2, z_O p3)]) [0, 1, 2] rfl ?_
  refine z_aload_n dL_inFlightAnew_0 rfl 2 rfl ?_
  refine z_iconst (v := 0) dL_inFlightAnew_1 (by decide) ?_
  refine z_aload_n dL_inFlightAnew_2 rfl 0 rfl ?_
  refine z_iload_n dL_inFlightAnew_3 rfl 1 rfl ?_
  obtain ⟨a2, e2, hP⟩ := hP
  have k2 := f_p1 a2 e2
  refine z_wts (fun hT1 _ => ?_)
  refine z_hV (hh := hh_L_inFlightAnew) (c := 11) (n := 1) (Y1 := Y_X11_inFlightAnew) (st := [z_I _, z_O _]) e2 k2 z_cb11 (Nat.le_of_ble_eq_true rfl) rfl (s_X11_inFlightAnew hl9 k2 hP) rfl ⟨z_dc_X11_inFlightAnew, ⟨(Nat.le_of_ble_eq_true rfl), (Nat.le_of_ble_eq_true rfl)⟩, (Nat.le_of_ble_eq_true rfl)⟩ rfl zw_1233 zw_1234 zw_1235 zw_1 zw_1236 dL_inFlightAnew_4 z_hok_L_inFlightAnew (fun E M_1 hE9 hP _ x1 => ?_) (fun r_1 M_1 hP _ x1 => ?_)
  · obtain ⟨rfl, hP⟩ := hP
    · refine ⟨12, by decide, fun q_1 => ?_⟩
      refine z_astore_n (lv' := [(3, z_O _), (0, z_O _), (1, z_I _), (2, z_O _)]) dL_inFlightAnew_12 rfl (Nat.le_of_ble_eq_true rfl) rfl ?_
      refine z_iconst (v := 1) dL_inFlightAnew_13 (by decide) ?_
      refine z_pc (pc' := 14) rfl ?_
      exact z_reti rfl dL_inFlightAnew_14 hP
  · obtain ⟨x_1, rfl, hP⟩ := hP
    refine z_stk (st' := [z_I _, z_I _, z_O _]) rfl ?_
    have k2 := x1.k (k := 11) hT1 k2
    have f_p3 := x1.t (k := 24) hT1 f_p3
    refine z_i2l dL_inFlightAnew_7 ?_
    obtain ⟨a3, e3, hP⟩ := hP
    have k3 := f_p3 a3 e3
    obtain ⟨i4, hP⟩ := hP
    refine z_last e3 k3 i4 dL_inFlightAnew_8 ?_
    refine z_nm (fun M_5 g_5 => ?_)
    replace hP := hP M_5 g_5
    have q_5 := z_k5 g_5
    have k2 := z_kk q_5 k2
    have k3 := z_kk q_5 k3
    refine z_pc (pc' := 9) rfl ?_
    refine z_goto (tgt := 15) dL_inFlightAnew_9 (by decide) ?_
    refine z_iconst (v := 0) dL_inFlightAnew_15 (by decide) ?_
    exact z_reti rfl dL_inFlightAnew_16 hP
set_option maxRecDepth 100000 in
def P_L_gotAnew (p1 : Option Nat) (p2 : Int32) (p3 : Option Nat) (M : z_Mem) (Post : Int32 → z_Mem → Prop) : Prop := z_nn p1 fun a2 => (P_X11_gotAnew a2 p2 M (fun x_1 M_1 => z_nn p3 fun a3 => (vp_in 0 (z_ln M_1 a3) ∧ (∀ M_5 : z_Mem, M_5 = z_sal M_1 a3 ((0 : Int32).toNatClampNeg) ((x_1 : Int32).toInt64) → (Post 0 M_5)))) (fun E M_1 => (E = "java/lang/IndexOutOfBoundsException" ∧ Post 1 M_1)))
set_option maxRecDepth 100000 in
set_option maxHeartbeats 4000000 in
theorem s_L_gotAnew {G : z_G} {M : z_Mem} {p1 : Option Nat} {p2 : Int32} {p3 : Option Nat} {Post : Int32 → z_Mem → Prop} (hl9 : G.1.stackTraces = false) (f_p1 : z_tr M p1 12) (f_p3 : z_tr M p3 25) (hP : P_L_gotAnew p1 p2 p3 M Post) : z_MtH G Y_L_gotAnew hh_L_gotAnew M [z_O p1, z_I p2, z_O p3] (z_PI Post) := by
  refine z_ofVH (by decide) (Nat.le_of_ble_eq_true rfl) ?_
  unfold P_L_gotAnew at hP
  refine z_sub (lv' := [(0, z_O p1), (1, z_I p2), (2, z_O p3)]) [0, 1, 2] rfl ?_
  refine z_aload_n dL_gotAnew_0 rfl 2 rfl ?_
  refine z_iconst (v := 0) dL_gotAnew_1 (by decide) ?_
  refine z_aload_n dL_gotAnew_2 rfl 0 rfl ?_
  refine z_iload_n dL_gotAnew_3 rfl 1 rfl ?_
  obtain ⟨a2, e2, hP⟩ := hP
  have k2 := f_p1 a2 e2
  refine z_wts (fun hT1 _ => ?_)
  refine z_hV (hh := hh_L_gotAnew) (c := 11) (n := 1) (Y1 := Y_X11_gotAnew) (st := [z_I _, z_O _]) e2 k2 z_cb11 (Nat.le_of_ble_eq_true rfl) rfl (s_X11_gotAnew hl9 k2 hP) rfl ⟨z_dc_X11_gotAnew, ⟨(Nat.le_of_ble_eq_true rfl), (Nat.le_of_ble_eq_true rfl)⟩, (Nat.le_of_ble_eq_true rfl)⟩ rfl zw_1240 zw_1241 zw_1242 zw_1 zw_1243 dL_gotAnew_4 z_hok_L_gotAnew (fun E M_1 hE9 hP _ x1 => ?_) (fun r_1 M_1 hP _ x1 => ?_)
  · obtain ⟨rfl, hP⟩ := hP
    · refine ⟨12, by decide, fun q_1 => ?_⟩
      refine z_astore_n (lv' := [(3, z_O _), (0, z_O _), (1, z_I _), (2, z_O _)]) dL_gotAnew_12 rfl (Nat.le_of_ble_eq_true rfl) rfl ?_
      refine z_iconst (v := 1) dL_gotAnew_13 (by decide) ?_
      refine z_pc (pc' := 14) rfl ?_
      exact z_reti rfl dL_gotAnew_14 hP
  · obtain ⟨x_1, rfl, hP⟩ := hP
    refine z_stk (st' := [z_I _, z_I _, z_O _]) rfl ?_
    have k2 := x1.k (k := 11) hT1 k2
    have f_p3 := x1.t (k := 24) hT1 f_p3
    refine z_i2l dL_gotAnew_7 ?_
    obtain ⟨a3, e3, hP⟩ := hP
    have k3 := f_p3 a3 e3
    obtain ⟨i4, hP⟩ := hP
    refine z_last e3 k3 i4 dL_gotAnew_8 ?_
    refine z_nm (fun M_5 g_5 => ?_)
    replace hP := hP M_5 g_5
    have q_5 := z_k5 g_5
    have k2 := z_kk q_5 k2
    have k3 := z_kk q_5 k3
    refine z_pc (pc' := 9) rfl ?_
    refine z_goto (tgt := 15) dL_gotAnew_9 (by decide) ?_
    refine z_iconst (v := 0) dL_gotAnew_15 (by decide) ?_
    exact z_reti rfl dL_gotAnew_16 hP
def P_L_law_1514 (L : Nat) (xs : Nat → Int32) (Post : Int32 → z_Mem → Prop) (J23 : Option Nat → Option Nat → Option Nat → Int32 → z_Mem → Prop) (x1 : Option Nat) (x2 : Option Nat) (x3 : Option Nat) (x4 : Int32) (M : z_Mem) : Prop := ∀ x_1 : Int32, x_1 = x4 + 6 → (J23 x1 x2 x3 x_1 M)
def P_L_law_332 (L : Nat) (xs : Nat → Int32) (Post : Int32 → z_Mem → Prop) (J23 : Option Nat → Option Nat → Option Nat → Int32 → z_Mem → Prop) (x1 : Option Nat) (x2 : Option Nat) (x3 : Option Nat) (x4 : Int32) (M : z_Mem) : Prop := P_L_law_1514 L xs Post J23 x1 x2 x3 x4 M
def P_L_law_326 (L : Nat) (xs : Nat → Int32) (Post : Int32 → z_Mem → Prop) (J23 : Option Nat → Option Nat → Option Nat → Int32 → z_Mem → Prop) (x1 : Option Nat) (x2 : Option Nat) (x3 : Option Nat) (x4 : Int32) (t0 : Int64) (t1 : Int64) (M : z_Mem) : Prop := (((lg_cmp t0 t1) = 0 → P_L_law_332 L xs Post J23 x1 x2 x3 x4 M) ∧ (¬ (lg_cmp t0 t1) = 0 → Post 0 M))
def P_L_law_292 (L : Nat) (xs : Nat → Int32) (Post : Int32 → z_Mem → Prop) (J23 : Option Nat → Option Nat → Option Nat → Int32 → z_Mem → Prop) (x1 : Option Nat) (x2 : Option Nat) (x3 : Option Nat) (x4 : Int32) (x5 : Int32) (t0 : Option Nat) (t1 : Int32) (t2 : Int32) (M : z_Mem) : Prop := z_nn t0 fun a4 => (P_X12_setUp a4 t1 t2 M fun x_3 M_3 => (z_nn x2 fun a6 => (P_X12_thrown a6 M_3 fun x_5 M_5 => (((x_5 = x5 → ((x5 = 0 → z_nn x3 fun a9 => (vp_in 0 (z_ln M_5 a9) ∧ (((x_3 = 0 → P_L_law_326 L xs Post J23 x1 x2 x3 x4 (z_al M_5 a9 ((0 : Int32).toNatClampNeg)) 0 M_5) ∧ (¬ x_3 = 0 → P_L_law_326 L xs Post J23 x1 x2 x3 x4 (z_al M_5 a9 ((0 : Int32).toNatClampNeg)) 1 M_5))))) ∧ (¬ x5 = 0 → P_L_law_332 L xs Post J23 x1 x2 x3 x4 M_5))) ∧ (¬ x_5 = x5 → Post 0 M_5))))))
def P_L_law_265 (L : Nat) (xs : Nat → Int32) (Post : Int32 → z_Mem → Prop) (J23 : Option Nat → Option Nat → Option Nat → Int32 → z_Mem → Prop) (x1 : Option Nat) (x2 : Option Nat) (x3 : Option Nat) (x4 : Int32) (t0 : Option Nat) (t1 : Int32) (t2 : Int32) (M : z_Mem) : Prop := P_L_setUp t0 t1 t2 x3 M fun x_12 M_12 => (vp_in (x4 + 1) L ∧ (vp_in (x4 + 2) L ∧ ((((xs ((x4 + 2) : Int32).toNatClampNeg) = 0 → P_L_law_292 L xs Post J23 x1 x2 x3 x4 x_12 x2 (xs ((x4 + 1) : Int32).toNatClampNeg) 0 M_12) ∧ (¬ (xs ((x4 + 2) : Int32).toNatClampNeg) = 0 → P_L_law_292 L xs Post J23 x1 x2 x3 x4 x_12 x2 (xs ((x4 + 1) : Int32).toNatClampNeg) 1 M_12)))))
def P_L_law_388 (L : Nat) (xs : Nat → Int32) (Post : Int32 → z_Mem → Prop) (J23 : Option Nat → Option Nat → Option Nat → Int32 → z_Mem → Prop) (x1 : Option Nat) (x2 : Option Nat) (x3 : Option Nat) (x4 : Int32) (x5 : Int32) (t0 : Option Nat) (t1 : Int32) (t2 : Int32) (M : z_Mem) : Prop := vp_in (x4 + 3) L ∧ (z_nn t0 fun a18 => (P_X12_lose a18 t1 t2 (xs ((x4 + 3) : Int32).toNatClampNeg) M fun M_17 => (z_nn x2 fun a20 => (P_X12_thrown a20 M_17 fun x_19 M_19 => (((x_19 = x5 → P_L_law_1514 L xs Post J23 x1 x2 x3 x4 M_19) ∧ (¬ x_19 = x5 → Post 0 M_19)))))))
def P_L_law_356 (L : Nat) (xs : Nat → Int32) (Post : Int32 → z_Mem → Prop) (J23 : Option Nat → Option Nat → Option Nat → Int32 → z_Mem → Prop) (x1 : Option Nat) (x2 : Option Nat) (x3 : Option Nat) (x4 : Int32) (t0 : Option Nat) (t1 : Int32) (t2 : Int32) (M : z_Mem) : Prop := vp_in (x4 + 3) L ∧ (P_L_lose t0 t1 t2 (xs ((x4 + 3) : Int32).toNatClampNeg) M fun x_23 M_23 => (vp_in (x4 + 1) L ∧ (vp_in (x4 + 2) L ∧ ((((xs ((x4 + 2) : Int32).toNatClampNeg) = 0 → P_L_law_388 L xs Post J23 x1 x2 x3 x4 x_23 x2 (xs ((x4 + 1) : Int32).toNatClampNeg) 0 M_23) ∧ (¬ (xs ((x4 + 2) : Int32).toNatClampNeg) = 0 → P_L_law_388 L xs Post J23 x1 x2 x3 x4 x_23 x2 (xs ((x4 + 1) : Int32).toNatClampNeg) 1 M_23))))))
def P_L_law_536 (L : Nat) (xs : Nat → Int32) (Post : Int32 → z_Mem → Prop) (J23 : Option Nat → Option Nat → Option Nat → Int32 → z_Mem → Prop) (x1 : Option Nat) (x2 : Option Nat) (x3 : Option Nat) (x4 : Int32) (M : z_Mem) : Prop := P_L_law_1514 L xs Post J23 x1 x2 x3 x4 M
def P_L_law_572 (L : Nat) (xs : Nat → Int32) (Post : Int32 → z_Mem → Prop) (J23 : Option Nat → Option Nat → Option Nat → Int32 → z_Mem → Prop) (x1 : Option Nat) (x2 : Option Nat) (x3 : Option Nat) (x4 : Int32) (t0 : Int32) (t1 : Option Nat) (t2 : Int32) (M : z_Mem) : Prop := z_nn t1 fun a28 => (P_X12_setCookies a28 t2 M fun x_27 M_27 => (((t0 = x_27 → P_L_law_1514 L xs Post J23 x1 x2 x3 x4 M_27) ∧ (¬ t0 = x_27 → Post 0 M_27))))
def P_L_law_554 (L : Nat) (xs : Nat → Int32) (Post : Int32 → z_Mem → Prop) (J23 : Option Nat → Option Nat → Option Nat → Int32 → z_Mem → Prop) (x1 : Option Nat) (x2 : Option Nat) (x3 : Option Nat) (x4 : Int32) (t0 : Option Nat) (t1 : Int32) (M : z_Mem) : Prop := z_nn t0 fun a31 => (P_X11_setCookies a31 t1 M fun x_30 M_30 => (vp_in (x4 + 1) L ∧ ((((xs ((x4 + 1) : Int32).toNatClampNeg) = 0 → P_L_law_572 L xs Post J23 x1 x2 x3 x4 x_30 x2 0 M_30) ∧ (¬ (xs ((x4 + 1) : Int32).toNatClampNeg) = 0 → P_L_law_572 L xs Post J23 x1 x2 x3 x4 x_30 x2 1 M_30)))))
def P_L_law_645 (L : Nat) (xs : Nat → Int32) (Post : Int32 → z_Mem → Prop) (J23 : Option Nat → Option Nat → Option Nat → Int32 → z_Mem → Prop) (x1 : Option Nat) (x2 : Option Nat) (x3 : Option Nat) (x4 : Int32) (M : z_Mem) : Prop := P_L_law_1514 L xs Post J23 x1 x2 x3 x4 M
def P_L_law_760 (L : Nat) (xs : Nat → Int32) (Post : Int32 → z_Mem → Prop) (J23 : Option Nat → Option Nat → Option Nat → Int32 → z_Mem → Prop) (x1 : Option Nat) (x2 : Option Nat) (x3 : Option Nat) (x4 : Int32) (M : z_Mem) : Prop := P_L_law_1514 L xs Post J23 x1 x2 x3 x4 M
def P_L_law_828 (L : Nat) (xs : Nat → Int32) (Post : Int32 → z_Mem → Prop) (J23 : Option Nat → Option Nat → Option Nat → Int32 → z_Mem → Prop) (x1 : Option Nat) (x2 : Option Nat) (x3 : Option Nat) (x4 : Int32) (M : z_Mem) : Prop := P_L_law_1514 L xs Post J23 x1 x2 x3 x4 M
def P_L_law_920 (L : Nat) (xs : Nat → Int32) (Post : Int32 → z_Mem → Prop) (J23 : Option Nat → Option Nat → Option Nat → Int32 → z_Mem → Prop) (x1 : Option Nat) (x2 : Option Nat) (x3 : Option Nat) (x4 : Int32) (M : z_Mem) : Prop := P_L_law_1514 L xs Post J23 x1 x2 x3 x4 M
def P_L_law_964 (L : Nat) (xs : Nat → Int32) (Post : Int32 → z_Mem → Prop) (J23 : Option Nat → Option Nat → Option Nat → Int32 → z_Mem → Prop) (x1 : Option Nat) (x2 : Option Nat) (x3 : Option Nat) (x4 : Int32) (M : z_Mem) : Prop := P_L_law_1514 L xs Post J23 x1 x2 x3 x4 M
def P_L_law_1044 (L : Nat) (xs : Nat → Int32) (Post : Int32 → z_Mem → Prop) (J23 : Option Nat → Option Nat → Option Nat → Int32 → z_Mem → Prop) (x1 : Option Nat) (x2 : Option Nat) (x3 : Option Nat) (x4 : Int32) (M : z_Mem) : Prop := P_L_law_1514 L xs Post J23 x1 x2 x3 x4 M
def P_L_law_1113 (L : Nat) (xs : Nat → Int32) (Post : Int32 → z_Mem → Prop) (J23 : Option Nat → Option Nat → Option Nat → Int32 → z_Mem → Prop) (x1 : Option Nat) (x2 : Option Nat) (x3 : Option Nat) (x4 : Int32) (M : z_Mem) : Prop := P_L_law_1514 L xs Post J23 x1 x2 x3 x4 M
def P_L_law_1181 (L : Nat) (xs : Nat → Int32) (Post : Int32 → z_Mem → Prop) (J23 : Option Nat → Option Nat → Option Nat → Int32 → z_Mem → Prop) (x1 : Option Nat) (x2 : Option Nat) (x3 : Option Nat) (x4 : Int32) (M : z_Mem) : Prop := P_L_law_1514 L xs Post J23 x1 x2 x3 x4 M
def P_L_law_1249 (L : Nat) (xs : Nat → Int32) (Post : Int32 → z_Mem → Prop) (J23 : Option Nat → Option Nat → Option Nat → Int32 → z_Mem → Prop) (x1 : Option Nat) (x2 : Option Nat) (x3 : Option Nat) (x4 : Int32) (M : z_Mem) : Prop := P_L_law_1514 L xs Post J23 x1 x2 x3 x4 M
def P_L_law_1343 (L : Nat) (xs : Nat → Int32) (Post : Int32 → z_Mem → Prop) (J23 : Option Nat → Option Nat → Option Nat → Int32 → z_Mem → Prop) (x1 : Option Nat) (x2 : Option Nat) (x3 : Option Nat) (x4 : Int32) (M : z_Mem) : Prop := P_L_law_1514 L xs Post J23 x1 x2 x3 x4 M
def P_L_law_1399 (L : Nat) (xs : Nat → Int32) (Post : Int32 → z_Mem → Prop) (J23 : Option Nat → Option Nat → Option Nat → Int32 → z_Mem → Prop) (x1 : Option Nat) (x2 : Option Nat) (x3 : Option Nat) (x4 : Int32) (M : z_Mem) : Prop := P_L_law_1514 L xs Post J23 x1 x2 x3 x4 M
def P_L_law_1455 (L : Nat) (xs : Nat → Int32) (Post : Int32 → z_Mem → Prop) (J23 : Option Nat → Option Nat → Option Nat → Int32 → z_Mem → Prop) (x1 : Option Nat) (x2 : Option Nat) (x3 : Option Nat) (x4 : Int32) (M : z_Mem) : Prop := P_L_law_1514 L xs Post J23 x1 x2 x3 x4 M
def P_L_law_1511 (L : Nat) (xs : Nat → Int32) (Post : Int32 → z_Mem → Prop) (J23 : Option Nat → Option Nat → Option Nat → Int32 → z_Mem → Prop) (x1 : Option Nat) (x2 : Option Nat) (x3 : Option Nat) (x4 : Int32) (M : z_Mem) : Prop := P_L_law_1514 L xs Post J23 x1 x2 x3 x4 M
set_option maxRecDepth 100000 in
def P_L_law_23 (L : Nat) (xs : Nat → Int32) (Post : Int32 → z_Mem → Prop)  : Nat → Option Nat → Option Nat → Option Nat → Int32 → z_Mem → Prop
  | 0, _, _, _, _, _ => False
  | n + 1, x1, x2, x3, x4, M => ((((nI L) - 6) < x4 → Post 1 M) ∧ (¬ ((nI L) - 6) < x4 → vp_in x4 L ∧ (((((xs (x4 : Int32).toNatClampNeg) &&& 31) = nI 0 → vp_in (x4 + 1) L ∧ (vp_in (x4 + 2) L ∧ (vp_in (x4 + 3) L ∧ (vp_in (x4 + 4) L ∧ (vp_in (x4 + 5) L ∧ (P_L_setPath x1 (xs ((x4 + 1) : Int32).toNatClampNeg) (xs ((x4 + 2) : Int32).toNatClampNeg) (xs ((x4 + 3) : Int32).toNatClampNeg) (xs ((x4 + 4) : Int32).toNatClampNeg) (xs ((x4 + 5) : Int32).toNatClampNeg) M fun x_42 M_42 => (vp_in (x4 + 1) L ∧ (vp_in (x4 + 2) L ∧ (vp_in (x4 + 3) L ∧ (vp_in (x4 + 4) L ∧ (vp_in (x4 + 5) L ∧ (z_nn x2 fun a49 => (P_X12_setPath a49 (xs ((x4 + 1) : Int32).toNatClampNeg) (xs ((x4 + 2) : Int32).toNatClampNeg) (xs ((x4 + 3) : Int32).toNatClampNeg) (xs ((x4 + 4) : Int32).toNatClampNeg) (xs ((x4 + 5) : Int32).toNatClampNeg) M_42 fun M_48 => (P_X12_thrown a49 M_48 fun x_50 M_50 => (((x_50 = x_42 → P_L_law_1514 L xs Post (fun q0 q1 q2 q3 qM => P_L_law_23 L xs Post n q0 q1 q2 q3 qM) x1 x2 x3 x4 M_50) ∧ (¬ x_50 = x_42 → Post 0 M_50))))))))))))))))) ∧ (((xs (x4 : Int32).toNatClampNeg) &&& 31) = nI 1 → vp_in (x4 + 1) L ∧ (vp_in (x4 + 2) L ∧ ((((xs ((x4 + 2) : Int32).toNatClampNeg) = 0 → P_L_law_265 L xs Post (fun q0 q1 q2 q3 qM => P_L_law_23 L xs Post n q0 q1 q2 q3 qM) x1 x2 x3 x4 x1 (xs ((x4 + 1) : Int32).toNatClampNeg) 0 M) ∧ (¬ (xs ((x4 + 2) : Int32).toNatClampNeg) = 0 → P_L_law_265 L xs Post (fun q0 q1 q2 q3 qM => P_L_law_23 L xs Post n q0 q1 q2 q3 qM) x1 x2 x3 x4 x1 (xs ((x4 + 1) : Int32).toNatClampNeg) 1 M))))) ∧ (((xs (x4 : Int32).toNatClampNeg) &&& 31) = nI 2 → vp_in (x4 + 1) L ∧ (vp_in (x4 + 2) L ∧ ((((xs ((x4 + 2) : Int32).toNatClampNeg) = 0 → P_L_law_356 L xs Post (fun q0 q1 q2 q3 qM => P_L_law_23 L xs Post n q0 q1 q2 q3 qM) x1 x2 x3 x4 x1 (xs ((x4 + 1) : Int32).toNatClampNeg) 0 M) ∧ (¬ (xs ((x4 + 2) : Int32).toNatClampNeg) = 0 → P_L_law_356 L xs Post (fun q0 q1 q2 q3 qM => P_L_law_23 L xs Post n q0 q1 q2 q3 qM) x1 x2 x3 x4 x1 (xs ((x4 + 1) : Int32).toNatClampNeg) 1 M))))) ∧ (((xs (x4 : Int32).toNatClampNeg) &&& 31) = nI 3 → vp_in (x4 + 1) L ∧ (vp_in (x4 + 2) L ∧ (vp_in (x4 + 3) L ∧ (P_L_late x1 (xs ((x4 + 1) : Int32).toNatClampNeg) (xs ((x4 + 2) : Int32).toNatClampNeg) (xs ((x4 + 3) : Int32).toNatClampNeg) M fun x_61 M_61 => (vp_in (x4 + 1) L ∧ (vp_in (x4 + 2) L ∧ (vp_in (x4 + 3) L ∧ (z_nn x2 fun a66 => (P_X12_late a66 (xs ((x4 + 1) : Int32).toNatClampNeg) (xs ((x4 + 2) : Int32).toNatClampNeg) (xs ((x4 + 3) : Int32).toNatClampNeg) M_61 fun M_65 => (P_X12_thrown a66 M_65 fun x_67 M_67 => (((x_67 = x_61 → P_L_law_1514 L xs Post (fun q0 q1 q2 q3 qM => P_L_law_23 L xs Post n q0 q1 q2 q3 qM) x1 x2 x3 x4 M_67) ∧ (¬ x_67 = x_61 → Post 0 M_67))))))))))))) ∧ (((xs (x4 : Int32).toNatClampNeg) &&& 31) = nI 4 → vp_in (x4 + 1) L ∧ (vp_in (x4 + 2) L ∧ (P_L_foreign x1 (xs ((x4 + 1) : Int32).toNatClampNeg) (xs ((x4 + 2) : Int32).toNatClampNeg) x3 M fun x_71 M_71 => (vp_in (x4 + 1) L ∧ (vp_in (x4 + 2) L ∧ (z_nn x2 fun a75 => (P_X12_foreign a75 (xs ((x4 + 1) : Int32).toNatClampNeg) (xs ((x4 + 2) : Int32).toNatClampNeg) M_71 fun x_74 M_74 => (P_X12_thrown a75 M_74 fun x_76 M_76 => (((x_76 = x_71 → ((x_71 = 0 → z_nn x3 fun a79 => (vp_in 0 (z_ln M_76 a79) ∧ ((((lg_cmp (z_al M_76 a79 ((0 : Int32).toNatClampNeg)) ((x_74 : Int32).toInt64)) = 0 → P_L_law_536 L xs Post (fun q0 q1 q2 q3 qM => P_L_law_23 L xs Post n q0 q1 q2 q3 qM) x1 x2 x3 x4 M_76) ∧ (¬ (lg_cmp (z_al M_76 a79 ((0 : Int32).toNatClampNeg)) ((x_74 : Int32).toInt64)) = 0 → Post 0 M_76))))) ∧ (¬ x_71 = 0 → P_L_law_536 L xs Post (fun q0 q1 q2 q3 qM => P_L_law_23 L xs Post n q0 q1 q2 q3 qM) x1 x2 x3 x4 M_76))) ∧ (¬ x_76 = x_71 → Post 0 M_76))))))))))) ∧ (((xs (x4 : Int32).toNatClampNeg) &&& 31) = nI 5 → vp_in (x4 + 1) L ∧ ((((xs ((x4 + 1) : Int32).toNatClampNeg) = 0 → P_L_law_554 L xs Post (fun q0 q1 q2 q3 qM => P_L_law_23 L xs Post n q0 q1 q2 q3 qM) x1 x2 x3 x4 x1 0 M) ∧ (¬ (xs ((x4 + 1) : Int32).toNatClampNeg) = 0 → P_L_law_554 L xs Post (fun q0 q1 q2 q3 qM => P_L_law_23 L xs Post n q0 q1 q2 q3 qM) x1 x2 x3 x4 x1 1 M)))) ∧ (((xs (x4 : Int32).toNatClampNeg) &&& 31) = nI 6 → vp_in (x4 + 1) L ∧ (vp_in (x4 + 2) L ∧ (P_L_read x1 (xs ((x4 + 1) : Int32).toNatClampNeg) (xs ((x4 + 2) : Int32).toNatClampNeg) x3 M fun x_86 M_86 => (vp_in (x4 + 1) L ∧ (vp_in (x4 + 2) L ∧ (z_nn x2 fun a90 => (P_X12_read a90 (xs ((x4 + 1) : Int32).toNatClampNeg) (xs ((x4 + 2) : Int32).toNatClampNeg) M_86 fun x_89 M_89 => (P_X12_thrown a90 M_89 fun x_91 M_91 => (((x_91 = x_86 → ((x_86 = 0 → z_nn x3 fun a94 => (vp_in 0 (z_ln M_91 a94) ∧ ((((lg_cmp (z_al M_91 a94 ((0 : Int32).toNatClampNeg)) ((x_89 : Int32).toInt64)) = 0 → P_L_law_645 L xs Post (fun q0 q1 q2 q3 qM => P_L_law_23 L xs Post n q0 q1 q2 q3 qM) x1 x2 x3 x4 M_91) ∧ (¬ (lg_cmp (z_al M_91 a94 ((0 : Int32).toNatClampNeg)) ((x_89 : Int32).toInt64)) = 0 → Post 0 M_91))))) ∧ (¬ x_86 = 0 → P_L_law_645 L xs Post (fun q0 q1 q2 q3 qM => P_L_law_23 L xs Post n q0 q1 q2 q3 qM) x1 x2 x3 x4 M_91))) ∧ (¬ x_91 = x_86 → Post 0 M_91))))))))))) ∧ (((xs (x4 : Int32).toNatClampNeg) &&& 31) = nI 7 → z_nn x1 fun a98 => (P_X11_loseState a98 M fun M_97 => (z_nn x2 fun a100 => (P_X12_loseState a100 M_97 fun M_99 => (P_L_law_1514 L xs Post (fun q0 q1 q2 q3 qM => P_L_law_23 L xs Post n q0 q1 q2 q3 qM) x1 x2 x3 x4 M_99))))) ∧ (((xs (x4 : Int32).toNatClampNeg) &&& 31) = nI 8 → vp_in (x4 + 1) L ∧ (P_L_connect x1 (xs ((x4 + 1) : Int32).toNatClampNeg) M fun x_102 M_102 => (vp_in (x4 + 1) L ∧ (z_nn x2 fun a105 => (P_X12_connect a105 (xs ((x4 + 1) : Int32).toNatClampNeg) M_102 fun M_104 => (P_X12_thrown a105 M_104 fun x_106 M_106 => (((x_106 = x_102 → P_L_law_1514 L xs Post (fun q0 q1 q2 q3 qM => P_L_law_23 L xs Post n q0 q1 q2 q3 qM) x1 x2 x3 x4 M_106) ∧ (¬ x_106 = x_102 → Post 0 M_106))))))))) ∧ (((xs (x4 : Int32).toNatClampNeg) &&& 31) = nI 9 → vp_in (x4 + 1) L ∧ (vp_in (x4 + 2) L ∧ (P_L_write x1 (xs ((x4 + 1) : Int32).toNatClampNeg) (xs ((x4 + 2) : Int32).toNatClampNeg) x3 M fun x_110 M_110 => (vp_in (x4 + 1) L ∧ (vp_in (x4 + 2) L ∧ (z_nn x2 fun a114 => (P_X12_write a114 (xs ((x4 + 1) : Int32).toNatClampNeg) (xs ((x4 + 2) : Int32).toNatClampNeg) M_110 fun x_113 M_113 => (P_X12_thrown a114 M_113 fun x_115 M_115 => (((x_115 = x_110 → ((x_110 = 0 → z_nn x3 fun a118 => (vp_in 0 (z_ln M_115 a118) ∧ ((((lg_cmp (z_al M_115 a118 ((0 : Int32).toNatClampNeg)) ((x_113 : Int32).toInt64)) = 0 → P_L_law_760 L xs Post (fun q0 q1 q2 q3 qM => P_L_law_23 L xs Post n q0 q1 q2 q3 qM) x1 x2 x3 x4 M_115) ∧ (¬ (lg_cmp (z_al M_115 a118 ((0 : Int32).toNatClampNeg)) ((x_113 : Int32).toInt64)) = 0 → Post 0 M_115))))) ∧ (¬ x_110 = 0 → P_L_law_760 L xs Post (fun q0 q1 q2 q3 qM => P_L_law_23 L xs Post n q0 q1 q2 q3 qM) x1 x2 x3 x4 M_115))) ∧ (¬ x_115 = x_110 → Post 0 M_115))))))))))) ∧ (((xs (x4 : Int32).toNatClampNeg) &&& 31) = nI 10 → vp_in (x4 + 1) L ∧ (vp_in (x4 + 2) L ∧ (P_L_setWay x1 (xs ((x4 + 1) : Int32).toNatClampNeg) (xs ((x4 + 2) : Int32).toNatClampNeg) x3 M fun x_123 M_123 => (vp_in (x4 + 1) L ∧ (vp_in (x4 + 2) L ∧ (z_nn x2 fun a127 => (P_X12_setWay a127 (xs ((x4 + 1) : Int32).toNatClampNeg) (xs ((x4 + 2) : Int32).toNatClampNeg) M_123 fun x_126 M_126 => (P_X12_thrown a127 M_126 fun x_128 M_128 => (((x_128 = x_123 → ((x_123 = 0 → z_nn x3 fun a131 => (vp_in 0 (z_ln M_128 a131) ∧ ((((lg_cmp (z_al M_128 a131 ((0 : Int32).toNatClampNeg)) ((x_126 : Int32).toInt64)) = 0 → P_L_law_828 L xs Post (fun q0 q1 q2 q3 qM => P_L_law_23 L xs Post n q0 q1 q2 q3 qM) x1 x2 x3 x4 M_128) ∧ (¬ (lg_cmp (z_al M_128 a131 ((0 : Int32).toNatClampNeg)) ((x_126 : Int32).toInt64)) = 0 → Post 0 M_128))))) ∧ (¬ x_123 = 0 → P_L_law_828 L xs Post (fun q0 q1 q2 q3 qM => P_L_law_23 L xs Post n q0 q1 q2 q3 qM) x1 x2 x3 x4 M_128))) ∧ (¬ x_128 = x_123 → Post 0 M_128))))))))))) ∧ (((xs (x4 : Int32).toNatClampNeg) &&& 31) = nI 11 → vp_in (x4 + 1) L ∧ (P_L_check x1 (xs ((x4 + 1) : Int32).toNatClampNeg) M fun x_135 M_135 => (vp_in (x4 + 1) L ∧ (z_nn x2 fun a138 => (P_X12_check a138 (xs ((x4 + 1) : Int32).toNatClampNeg) M_135 fun M_137 => (P_X12_thrown a138 M_137 fun x_139 M_139 => (((x_139 = x_135 → P_L_law_1514 L xs Post (fun q0 q1 q2 q3 qM => P_L_law_23 L xs Post n q0 q1 q2 q3 qM) x1 x2 x3 x4 M_139) ∧ (¬ x_139 = x_135 → Post 0 M_139))))))))) ∧ (((xs (x4 : Int32).toNatClampNeg) &&& 31) = nI 12 → vp_in (x4 + 1) L ∧ (P_L_use x1 (xs ((x4 + 1) : Int32).toNatClampNeg) x3 M fun x_142 M_142 => (vp_in (x4 + 1) L ∧ (z_nn x2 fun a145 => (P_X12_use a145 (xs ((x4 + 1) : Int32).toNatClampNeg) M_142 fun x_144 M_144 => (P_X12_thrown a145 M_144 fun x_146 M_146 => (((x_146 = x_142 → ((x_142 = 0 → z_nn x3 fun a149 => (vp_in 0 (z_ln M_146 a149) ∧ ((((lg_cmp (z_al M_146 a149 ((0 : Int32).toNatClampNeg)) ((x_144 : Int32).toInt64)) = 0 → P_L_law_920 L xs Post (fun q0 q1 q2 q3 qM => P_L_law_23 L xs Post n q0 q1 q2 q3 qM) x1 x2 x3 x4 M_146) ∧ (¬ (lg_cmp (z_al M_146 a149 ((0 : Int32).toNatClampNeg)) ((x_144 : Int32).toInt64)) = 0 → Post 0 M_146))))) ∧ (¬ x_142 = 0 → P_L_law_920 L xs Post (fun q0 q1 q2 q3 qM => P_L_law_23 L xs Post n q0 q1 q2 q3 qM) x1 x2 x3 x4 M_146))) ∧ (¬ x_146 = x_142 → Post 0 M_146))))))))) ∧ (((xs (x4 : Int32).toNatClampNeg) &&& 31) = nI 13 → P_L_changeKey x1 x3 M fun x_152 M_152 => (z_nn x2 fun a154 => (P_X12_changeKey a154 M_152 fun x_153 M_153 => (P_X12_thrown a154 M_153 fun x_155 M_155 => (((x_155 = x_152 → ((x_152 = 0 → z_nn x3 fun a158 => (vp_in 0 (z_ln M_155 a158) ∧ ((((lg_cmp (z_al M_155 a158 ((0 : Int32).toNatClampNeg)) ((x_153 : Int32).toInt64)) = 0 → P_L_law_964 L xs Post (fun q0 q1 q2 q3 qM => P_L_law_23 L xs Post n q0 q1 q2 q3 qM) x1 x2 x3 x4 M_155) ∧ (¬ (lg_cmp (z_al M_155 a158 ((0 : Int32).toNatClampNeg)) ((x_153 : Int32).toInt64)) = 0 → Post 0 M_155))))) ∧ (¬ x_152 = 0 → P_L_law_964 L xs Post (fun q0 q1 q2 q3 qM => P_L_law_23 L xs Post n q0 q1 q2 q3 qM) x1 x2 x3 x4 M_155))) ∧ (¬ x_155 = x_152 → Post 0 M_155))))))) ∧ (((xs (x4 : Int32).toNatClampNeg) &&& 31) = nI 14 → P_L_close x1 M fun x_161 M_161 => (z_nn x2 fun a163 => (P_X12_close a163 M_161 fun M_162 => (P_X12_thrown a163 M_162 fun x_164 M_164 => (((x_164 = x_161 → P_L_law_1514 L xs Post (fun q0 q1 q2 q3 qM => P_L_law_23 L xs Post n q0 q1 q2 q3 qM) x1 x2 x3 x4 M_164) ∧ (¬ x_164 = x_161 → Post 0 M_164))))))) ∧ (((xs (x4 : Int32).toNatClampNeg) &&& 31) = nI 15 → vp_in (x4 + 1) L ∧ (P_L_tick x1 (xs ((x4 + 1) : Int32).toNatClampNeg) x3 M fun x_167 M_167 => (vp_in (x4 + 1) L ∧ (z_nn x2 fun a170 => (P_X12_tick a170 (xs ((x4 + 1) : Int32).toNatClampNeg) M_167 fun x_169 M_169 => (P_X12_thrown a170 M_169 fun x_171 M_171 => (((x_171 = x_167 → ((x_167 = 0 → z_nn x3 fun a174 => (vp_in 0 (z_ln M_171 a174) ∧ ((((lg_cmp (z_al M_171 a174 ((0 : Int32).toNatClampNeg)) ((x_169 : Int32).toInt64)) = 0 → P_L_law_1044 L xs Post (fun q0 q1 q2 q3 qM => P_L_law_23 L xs Post n q0 q1 q2 q3 qM) x1 x2 x3 x4 M_171) ∧ (¬ (lg_cmp (z_al M_171 a174 ((0 : Int32).toNatClampNeg)) ((x_169 : Int32).toInt64)) = 0 → Post 0 M_171))))) ∧ (¬ x_167 = 0 → P_L_law_1044 L xs Post (fun q0 q1 q2 q3 qM => P_L_law_23 L xs Post n q0 q1 q2 q3 qM) x1 x2 x3 x4 M_171))) ∧ (¬ x_171 = x_167 → Post 0 M_171))))))))) ∧ (((xs (x4 : Int32).toNatClampNeg) &&& 31) = nI 16 → z_nn x1 fun a178 => (P_X11_now a178 M fun x_177 M_177 => (z_nn x2 fun a180 => (P_X12_now a180 M_177 fun x_179 M_179 => (((x_177 = x_179 → P_L_law_1514 L xs Post (fun q0 q1 q2 q3 qM => P_L_law_23 L xs Post n q0 q1 q2 q3 qM) x1 x2 x3 x4 M_179) ∧ (¬ x_177 = x_179 → Post 0 M_179))))))) ∧ (((xs (x4 : Int32).toNatClampNeg) &&& 31) = nI 17 → vp_in (x4 + 1) L ∧ (P_L_state x1 (xs ((x4 + 1) : Int32).toNatClampNeg) x3 M fun x_183 M_183 => (vp_in (x4 + 1) L ∧ (z_nn x2 fun a186 => (P_X12_state a186 (xs ((x4 + 1) : Int32).toNatClampNeg) M_183 fun x_185 M_185 => (P_X12_thrown a186 M_185 fun x_187 M_187 => (((x_187 = x_183 → ((x_183 = 0 → z_nn x3 fun a190 => (vp_in 0 (z_ln M_187 a190) ∧ ((((lg_cmp (z_al M_187 a190 ((0 : Int32).toNatClampNeg)) ((x_185 : Int32).toInt64)) = 0 → P_L_law_1113 L xs Post (fun q0 q1 q2 q3 qM => P_L_law_23 L xs Post n q0 q1 q2 q3 qM) x1 x2 x3 x4 M_187) ∧ (¬ (lg_cmp (z_al M_187 a190 ((0 : Int32).toNatClampNeg)) ((x_185 : Int32).toInt64)) = 0 → Post 0 M_187))))) ∧ (¬ x_183 = 0 → P_L_law_1113 L xs Post (fun q0 q1 q2 q3 qM => P_L_law_23 L xs Post n q0 q1 q2 q3 qM) x1 x2 x3 x4 M_187))) ∧ (¬ x_187 = x_183 → Post 0 M_187))))))))) ∧ (((xs (x4 : Int32).toNatClampNeg) &&& 31) = nI 18 → vp_in (x4 + 1) L ∧ (vp_in (x4 + 2) L ∧ (P_L_path x1 (xs ((x4 + 1) : Int32).toNatClampNeg) (xs ((x4 + 2) : Int32).toNatClampNeg) x3 M fun x_195 M_195 => (vp_in (x4 + 1) L ∧ (vp_in (x4 + 2) L ∧ (z_nn x2 fun a199 => (P_X12_path a199 (xs ((x4 + 1) : Int32).toNatClampNeg) (xs ((x4 + 2) : Int32).toNatClampNeg) M_195 fun x_198 M_198 => (P_X12_thrown a199 M_198 fun x_200 M_200 => (((x_200 = x_195 → ((x_195 = 0 → z_nn x3 fun a203 => (vp_in 0 (z_ln M_200 a203) ∧ ((((lg_cmp (z_al M_200 a203 ((0 : Int32).toNatClampNeg)) ((x_198 : Int32).toInt64)) = 0 → P_L_law_1181 L xs Post (fun q0 q1 q2 q3 qM => P_L_law_23 L xs Post n q0 q1 q2 q3 qM) x1 x2 x3 x4 M_200) ∧ (¬ (lg_cmp (z_al M_200 a203 ((0 : Int32).toNatClampNeg)) ((x_198 : Int32).toInt64)) = 0 → Post 0 M_200))))) ∧ (¬ x_195 = 0 → P_L_law_1181 L xs Post (fun q0 q1 q2 q3 qM => P_L_law_23 L xs Post n q0 q1 q2 q3 qM) x1 x2 x3 x4 M_200))) ∧ (¬ x_200 = x_195 → Post 0 M_200))))))))))) ∧ (((xs (x4 : Int32).toNatClampNeg) &&& 31) = nI 19 → vp_in (x4 + 1) L ∧ (vp_in (x4 + 2) L ∧ (P_L_stream x1 (xs ((x4 + 1) : Int32).toNatClampNeg) (xs ((x4 + 2) : Int32).toNatClampNeg) x3 M fun x_208 M_208 => (vp_in (x4 + 1) L ∧ (vp_in (x4 + 2) L ∧ (z_nn x2 fun a212 => (P_X12_stream a212 (xs ((x4 + 1) : Int32).toNatClampNeg) (xs ((x4 + 2) : Int32).toNatClampNeg) M_208 fun x_211 M_211 => (P_X12_thrown a212 M_211 fun x_213 M_213 => (((x_213 = x_208 → ((x_208 = 0 → z_nn x3 fun a216 => (vp_in 0 (z_ln M_213 a216) ∧ ((((lg_cmp (z_al M_213 a216 ((0 : Int32).toNatClampNeg)) ((x_211 : Int32).toInt64)) = 0 → P_L_law_1249 L xs Post (fun q0 q1 q2 q3 qM => P_L_law_23 L xs Post n q0 q1 q2 q3 qM) x1 x2 x3 x4 M_213) ∧ (¬ (lg_cmp (z_al M_213 a216 ((0 : Int32).toNatClampNeg)) ((x_211 : Int32).toInt64)) = 0 → Post 0 M_213))))) ∧ (¬ x_208 = 0 → P_L_law_1249 L xs Post (fun q0 q1 q2 q3 qM => P_L_law_23 L xs Post n q0 q1 q2 q3 qM) x1 x2 x3 x4 M_213))) ∧ (¬ x_213 = x_208 → Post 0 M_213))))))))))) ∧ (((xs (x4 : Int32).toNatClampNeg) &&& 31) = nI 20 → z_nn x1 fun a220 => (P_X11_credit a220 M fun x_219 M_219 => (z_nn x2 fun a222 => (P_X12_credit a222 M_219 fun x_221 M_221 => (((x_219 = x_221 → P_L_law_1514 L xs Post (fun q0 q1 q2 q3 qM => P_L_law_23 L xs Post n q0 q1 q2 q3 qM) x1 x2 x3 x4 M_221) ∧ (¬ x_219 = x_221 → Post 0 M_221))))))) ∧ (((xs (x4 : Int32).toNatClampNeg) &&& 31) = nI 21 → z_nn x1 fun a225 => (P_X11_packets a225 M fun x_224 M_224 => (z_nn x2 fun a227 => (P_X12_packets a227 M_224 fun x_226 M_226 => (((x_224 = x_226 → P_L_law_1514 L xs Post (fun q0 q1 q2 q3 qM => P_L_law_23 L xs Post n q0 q1 q2 q3 qM) x1 x2 x3 x4 M_226) ∧ (¬ x_224 = x_226 → Post 0 M_226))))))) ∧ (((xs (x4 : Int32).toNatClampNeg) &&& 31) = nI 22 → vp_in (x4 + 1) L ∧ (vp_in (x4 + 2) L ∧ (P_L_packet x1 (xs ((x4 + 1) : Int32).toNatClampNeg) (xs ((x4 + 2) : Int32).toNatClampNeg) x3 M fun x_231 M_231 => (vp_in (x4 + 1) L ∧ (vp_in (x4 + 2) L ∧ (z_nn x2 fun a235 => (P_X12_packet a235 (xs ((x4 + 1) : Int32).toNatClampNeg) (xs ((x4 + 2) : Int32).toNatClampNeg) M_231 fun x_234 M_234 => (P_X12_thrown a235 M_234 fun x_236 M_236 => (((x_236 = x_231 → ((x_231 = 0 → z_nn x3 fun a239 => (vp_in 0 (z_ln M_236 a239) ∧ ((((lg_cmp (z_al M_236 a239 ((0 : Int32).toNatClampNeg)) ((x_234 : Int32).toInt64)) = 0 → P_L_law_1343 L xs Post (fun q0 q1 q2 q3 qM => P_L_law_23 L xs Post n q0 q1 q2 q3 qM) x1 x2 x3 x4 M_236) ∧ (¬ (lg_cmp (z_al M_236 a239 ((0 : Int32).toNatClampNeg)) ((x_234 : Int32).toInt64)) = 0 → Post 0 M_236))))) ∧ (¬ x_231 = 0 → P_L_law_1343 L xs Post (fun q0 q1 q2 q3 qM => P_L_law_23 L xs Post n q0 q1 q2 q3 qM) x1 x2 x3 x4 M_236))) ∧ (¬ x_236 = x_231 → Post 0 M_236))))))))))) ∧ (((xs (x4 : Int32).toNatClampNeg) &&& 31) = nI 23 → vp_in (x4 + 1) L ∧ (P_L_count x1 (xs ((x4 + 1) : Int32).toNatClampNeg) x3 M fun x_243 M_243 => (vp_in (x4 + 1) L ∧ (z_nn x2 fun a246 => (P_X12_count a246 (xs ((x4 + 1) : Int32).toNatClampNeg) M_243 fun x_245 M_245 => (P_X12_thrown a246 M_245 fun x_247 M_247 => (((x_247 = x_243 → ((x_243 = 0 → z_nn x3 fun a250 => (vp_in 0 (z_ln M_247 a250) ∧ ((((lg_cmp (z_al M_247 a250 ((0 : Int32).toNatClampNeg)) ((x_245 : Int32).toInt64)) = 0 → P_L_law_1399 L xs Post (fun q0 q1 q2 q3 qM => P_L_law_23 L xs Post n q0 q1 q2 q3 qM) x1 x2 x3 x4 M_247) ∧ (¬ (lg_cmp (z_al M_247 a250 ((0 : Int32).toNatClampNeg)) ((x_245 : Int32).toInt64)) = 0 → Post 0 M_247))))) ∧ (¬ x_243 = 0 → P_L_law_1399 L xs Post (fun q0 q1 q2 q3 qM => P_L_law_23 L xs Post n q0 q1 q2 q3 qM) x1 x2 x3 x4 M_247))) ∧ (¬ x_247 = x_243 → Post 0 M_247))))))))) ∧ (((xs (x4 : Int32).toNatClampNeg) &&& 31) = nI 24 → vp_in (x4 + 1) L ∧ (P_L_inFlightAnew x1 (xs ((x4 + 1) : Int32).toNatClampNeg) x3 M fun x_254 M_254 => (vp_in (x4 + 1) L ∧ (z_nn x2 fun a257 => (P_X12_inFlightAnew a257 (xs ((x4 + 1) : Int32).toNatClampNeg) M_254 fun x_256 M_256 => (P_X12_thrown a257 M_256 fun x_258 M_258 => (((x_258 = x_254 → ((x_254 = 0 → z_nn x3 fun a261 => (vp_in 0 (z_ln M_258 a261) ∧ ((((lg_cmp (z_al M_258 a261 ((0 : Int32).toNatClampNeg)) ((x_256 : Int32).toInt64)) = 0 → P_L_law_1455 L xs Post (fun q0 q1 q2 q3 qM => P_L_law_23 L xs Post n q0 q1 q2 q3 qM) x1 x2 x3 x4 M_258) ∧ (¬ (lg_cmp (z_al M_258 a261 ((0 : Int32).toNatClampNeg)) ((x_256 : Int32).toInt64)) = 0 → Post 0 M_258))))) ∧ (¬ x_254 = 0 → P_L_law_1455 L xs Post (fun q0 q1 q2 q3 qM => P_L_law_23 L xs Post n q0 q1 q2 q3 qM) x1 x2 x3 x4 M_258))) ∧ (¬ x_258 = x_254 → Post 0 M_258))))))))) ∧ (((xs (x4 : Int32).toNatClampNeg) &&& 31) = nI 25 → vp_in (x4 + 1) L ∧ (P_L_gotAnew x1 (xs ((x4 + 1) : Int32).toNatClampNeg) x3 M fun x_265 M_265 => (vp_in (x4 + 1) L ∧ (z_nn x2 fun a268 => (P_X12_gotAnew a268 (xs ((x4 + 1) : Int32).toNatClampNeg) M_265 fun x_267 M_267 => (P_X12_thrown a268 M_267 fun x_269 M_269 => (((x_269 = x_265 → ((x_265 = 0 → z_nn x3 fun a272 => (vp_in 0 (z_ln M_269 a272) ∧ ((((lg_cmp (z_al M_269 a272 ((0 : Int32).toNatClampNeg)) ((x_267 : Int32).toInt64)) = 0 → P_L_law_1511 L xs Post (fun q0 q1 q2 q3 qM => P_L_law_23 L xs Post n q0 q1 q2 q3 qM) x1 x2 x3 x4 M_269) ∧ (¬ (lg_cmp (z_al M_269 a272 ((0 : Int32).toNatClampNeg)) ((x_267 : Int32).toInt64)) = 0 → Post 0 M_269))))) ∧ (¬ x_265 = 0 → P_L_law_1511 L xs Post (fun q0 q1 q2 q3 qM => P_L_law_23 L xs Post n q0 q1 q2 q3 qM) x1 x2 x3 x4 M_269))) ∧ (¬ x_269 = x_265 → Post 0 M_269))))))))) ∧ (((xs (x4 : Int32).toNatClampNeg) &&& 31) < 0 ∨ nI 25 < ((xs (x4 : Int32).toNatClampNeg) &&& 31) → P_L_law_1514 L xs Post (fun q0 q1 q2 q3 qM => P_L_law_23 L xs Post n q0 q1 q2 q3 qM) x1 x2 x3 x4 M)))))
set_option maxRecDepth 100000 in
def P_L_law (L : Nat) (xs : Nat → Int32) (M : z_Mem) (Post : Int32 → z_Mem → Prop) : Prop := z_room M 5 ∧ (∀ M_276 : z_Mem, M_276 = z_new M 12 5 → (P_X11_init (z_sz M) M_276 fun M_277 => (z_room M_277 95 ∧ (∀ M_279 : z_Mem, M_279 = z_new M_277 13 95 → (P_X12_init (z_sz M_277) M_279 fun M_280 => (z_room M_280 1 ∧ (∀ M_282 : z_Mem, M_282 = z_nwa M_280 25 1 → ((∃ n283 : Nat, P_L_law_23 L xs Post n283 (some (z_sz M)) (some (z_sz M_277)) (some (z_sz M_280)) 0 M_282)))))))))
set_option maxRecDepth 100000 in
set_option maxHeartbeats 4000000 in
theorem v_L_law_1514 {G : z_G} {M0 : z_Mem} {a L : Nat} {xs : Nat → Int32} {Post : Int32 → z_Mem → Prop} (hl9 : G.1.stackTraces = false) (hkb : z_ki M0 a = 0) {J23 : Option Nat → Option Nat → Option Nat → Int32 → z_Mem → Prop} (hJ23 : ∀ (x1 : Option Nat) (x2 : Option Nat) (x3 : Option Nat) (x4 : Int32) (M : z_Mem), (z_tr M x1 12) → (z_tr M x2 13) → (z_tr M x3 25) → J23 x1 x2 x3 x4 M → z_V G Y_L_law (z_XL a L xs) M0 (z_QM G M0 (z_PB Post)) M 23 [(0, z_O (some a)), (1, z_O x1), (2, z_O x2), (3, z_O x3), (4, z_I x4)] []) {x1 : Option Nat} {x2 : Option Nat} {x3 : Option Nat} {x4 : Int32} {M : z_Mem} (f_x1 : z_tr M x1 12) (f_x2 : z_tr M x2 13) (f_x3 : z_tr M x3 25) (hP : P_L_law_1514 L xs Post J23 x1 x2 x3 x4 M) : z_V G Y_L_law (z_XL a L xs) M0 (z_QM G M0 (z_PB Post)) M 1514 [(0, z_O (some a)), (1, z_O x1), (2, z_O x2), (3, z_O x3), (4, z_I x4)] [] := by
  unfold P_L_law_1514 at hP
  refine z_iincN (j := 4) (m := 6) (lv' := fun v => [(4, z_I v), (0, z_O _), (1, z_O _), (2, z_O _), (3, z_O _)]) dL_law_1514 rfl (by decide) (Nat.le_of_ble_eq_true rfl) (fun _ => rfl) (fun x_1 y_1 => ?_)
  replace hP := hP x_1 y_1
  refine z_goto (tgt := 23) dL_law_1517 (by decide) ?_
  refine z_sub (lv' := [(0, z_O _), (1, z_O _), (2, z_O _), (3, z_O _), (4, z_I _)]) [1, 2, 3, 4, 0] rfl ?_
  exact hJ23 _ _ _ _ _ f_x1 f_x2 f_x3 hP
set_option maxRecDepth 100000 in
set_option maxHeartbeats 4000000 in
theorem v_L_law_332 {G : z_G} {M0 : z_Mem} {a L : Nat} {xs : Nat → Int32} {Post : Int32 → z_Mem → Prop} (hl9 : G.1.stackTraces = false) (hkb : z_ki M0 a = 0) {J23 : Option Nat → Option Nat → Option Nat → Int32 → z_Mem → Prop} (hJ23 : ∀ (x1 : Option Nat) (x2 : Option Nat) (x3 : Option Nat) (x4 : Int32) (M : z_Mem), (z_tr M x1 12) → (z_tr M x2 13) → (z_tr M x3 25) → J23 x1 x2 x3 x4 M → z_V G Y_L_law (z_XL a L xs) M0 (z_QM G M0 (z_PB Post)) M 23 [(0, z_O (some a)), (1, z_O x1), (2, z_O x2), (3, z_O x3), (4, z_I x4)] []) {x1 : Option Nat} {x2 : Option Nat} {x3 : Option Nat} {x4 : Int32} {M : z_Mem} (f_x1 : z_tr M x1 12) (f_x2 : z_tr M x2 13) (f_x3 : z_tr M x3 25) (hP : P_L_law_332 L xs Post J23 x1 x2 x3 x4 M) : z_V G Y_L_law (z_XL a L xs) M0 (z_QM G M0 (z_PB Post)) M 332 [(0, z_O (some a)), (1, z_O x1), (2, z_O x2), (3, z_O x3), (4, z_I x4)] [] := by
  unfold P_L_law_332 at hP
  refine z_goto (tgt := 1514) dL_law_332 (by decide) ?_
  refine z_sub (lv' := [(0, z_O _), (1, z_O _), (2, z_O _), (3, z_O _), (4, z_I _)]) [0, 1, 2, 3, 4] rfl ?_
  exact v_L_law_1514 hl9 hkb hJ23 f_x1 f_x2 f_x3 hP
set_option maxRecDepth 100000 in
set_option maxHeartbeats 4000000 in
theorem v_L_law_326 {G : z_G} {M0 : z_Mem} {a L : Nat} {xs : Nat → Int32} {Post : Int32 → z_Mem → Prop} (hl9 : G.1.stackTraces = false) (hkb : z_ki M0 a = 0) {J23 : Option Nat → Option Nat → Option Nat → Int32 → z_Mem → Prop} (hJ23 : ∀ (x1 : Option Nat) (x2 : Option Nat) (x3 : Option Nat) (x4 : Int32) (M : z_Mem), (z_tr M x1 12) → (z_tr M x2 13) → (z_tr M x3 25) → J23 x1 x2 x3 x4 M → z_V G Y_L_law (z_XL a L xs) M0 (z_QM G M0 (z_PB Post)) M 23 [(0, z_O (some a)), (1, z_O x1), (2, z_O x2), (3, z_O x3), (4, z_I x4)] []) {x1 : Option Nat} {x2 : Option Nat} {x3 : Option Nat} {x4 : Int32} {t0 : Int64} {t1 : Int64} {M : z_Mem} (f_x1 : z_tr M x1 12) (f_x2 : z_tr M x2 13) (f_x3 : z_tr M x3 25) (hP : P_L_law_326 L xs Post J23 x1 x2 x3 x4 t0 t1 M) : z_V G Y_L_law (z_XL a L xs) M0 (z_QM G M0 (z_PB Post)) M 326 [(0, z_O (some a)), (1, z_O x1), (2, z_O x2), (3, z_O x3), (4, z_I x4)] [z_J t1, z_J t0] := by
  unfold P_L_law_326 at hP
  refine z_lcmp dL_law_326 ?_
  refine z_if_eq (tgt := 332) dL_law_327 (by decide) (fun h2 => ?_) (fun h2 => ?_)
  · replace hP := hP.1 h2
    refine z_sub (lv' := [(0, z_O _), (1, z_O _), (2, z_O _), (3, z_O _), (4, z_I _)]) [0, 1, 2, 3, 4] rfl ?_
    exact v_L_law_332 hl9 hkb hJ23 f_x1 f_x2 f_x3 hP
  · replace hP := hP.2 h2
    refine z_iconst (v := 0) dL_law_330 (by decide) ?_
    exact z_retb rfl (Or.inl rfl) dL_law_331 hP
set_option maxRecDepth 100000 in
set_option maxHeartbeats 4000000 in
theorem v_L_law_292 {G : z_G} {M0 : z_Mem} {a L : Nat} {xs : Nat → Int32} {Post : Int32 → z_Mem → Prop} (hl9 : G.1.stackTraces = false) (hkb : z_ki M0 a = 0) {J23 : Option Nat → Option Nat → Option Nat → Int32 → z_Mem → Prop} (hJ23 : ∀ (x1 : Option Nat) (x2 : Option Nat) (x3 : Option Nat) (x4 : Int32) (M : z_Mem), (z_tr M x1 12) → (z_tr M x2 13) → (z_tr M x3 25) → J23 x1 x2 x3 x4 M → z_V G Y_L_law (z_XL a L xs) M0 (z_QM G M0 (z_PB Post)) M 23 [(0, z_O (some a)), (1, z_O x1), (2, z_O x2), (3, z_O x3), (4, z_I x4)] []) {x1 : Option Nat} {x2 : Option Nat} {x3 : Option Nat} {x4 : Int32} {x5 : Int32} {t0 : Option Nat} {t1 : Int32} {t2 : Int32} {M : z_Mem} (f_x1 : z_tr M x1 12) (f_x2 : z_tr M x2 13) (f_x3 : z_tr M x3 25) (f_t0 : z_tr M t0 13) (f_t2 : t2 = 0 ∨ t2 = 1) (hP : P_L_law_292 L xs Post J23 x1 x2 x3 x4 x5 t0 t1 t2 M) : z_V G Y_L_law (z_XL a L xs) M0 (z_QM G M0 (z_PB Post)) M 292 [(0, z_O (some a)), (1, z_O x1), (2, z_O x2), (3, z_O x3), (4, z_I x4), (5, z_I x5)] [z_I t2, z_I t1, z_O t0] := by
  unfold P_L_law_292 at hP
  obtain ⟨a4, e4, hP⟩ := hP
  have k4 := f_t0 a4 e4
  refine z_wts (fun hT3 _ => ?_)
  refine z_cVb (c := 12) (n := 2) (Y1 := Y_X12_setUp) (st := []) e4 k4 z_cb12 (Nat.le_of_ble_eq_true rfl) rfl (s_X12_setUp k4 f_t2 hP) rfl ⟨z_dc_X12_setUp, ⟨(Nat.le_of_ble_eq_true rfl), (Nat.le_of_ble_eq_true rfl)⟩, (Nat.le_of_ble_eq_true rfl)⟩ rfl zw_1559 zw_1560 zw_1561 zw_12 zw_1562 dL_law_292 (fun x_3 M_3 b3 hP _ x3 => ?_)
  have f_x1 := x3.t (k := 11) hT3 f_x1
  have f_x2 := x3.t (k := 12) hT3 f_x2
  have f_x3 := x3.t (k := 24) hT3 f_x3
  refine z_istore (lv' := [(6, z_I _), (0, z_O _), (1, z_O _), (2, z_O _), (3, z_O _), (4, z_I _), (5, z_I _)]) dL_law_295 (Nat.le_of_ble_eq_true rfl) rfl ?_
  refine z_aload_n dL_law_297 rfl 3 rfl ?_
  obtain ⟨a6, e6, hP⟩ := hP
  have k6 := f_x2 a6 e6
  refine z_wts (fun hT5 _ => ?_)
  refine z_cVi (c := 12) (n := 0) (Y1 := Y_X12_thrown) (st := []) e6 k6 z_cb12 (Nat.le_of_ble_eq_true rfl) rfl (s_X12_thrown k6 hP) rfl ⟨z_dc_X12_thrown, ⟨(Nat.le_of_ble_eq_true rfl), (Nat.le_of_ble_eq_true rfl)⟩, (Nat.le_of_ble_eq_true rfl)⟩ rfl zw_1541 zw_1542 zw_1543 zw_12 zw_1544 dL_law_298 (fun x_5 M_5 hP _ x5 => ?_)
  have f_x1 := x5.t (k := 11) hT5 f_x1
  have k6 := x5.k (k := 12) hT5 k6
  have f_x3 := x5.t (k := 24) hT5 f_x3
  refine z_iload dL_law_301 6 rfl ?_
  refine z_icmp_eq (tgt := 308) dL_law_303 (by decide) (fun h7 => ?_) (fun h7 => ?_)
  · replace hP := hP.1 h7
    refine z_iload dL_law_308 6 rfl ?_
    refine z_pc (pc' := 310) rfl ?_
    refine z_if_ne (tgt := 332) dL_law_310 (by decide) (fun h8 => ?_) (fun h8 => ?_)
    · replace hP := hP.2 h8
      refine z_sub (lv' := [(0, z_O _), (1, z_O _), (2, z_O _), (3, z_O _), (4, z_I _)]) [1, 2, 3, 4, 5] rfl ?_
      exact v_L_law_332 hl9 hkb hJ23 f_x1 (z_trn e6 k6) f_x3 hP
    · replace hP := hP.1 h8
      refine z_aload_n dL_law_313 rfl 4 rfl ?_
      refine z_iconst (v := 0) dL_law_314 (by decide) ?_
      obtain ⟨a9, e9, hP⟩ := hP
      have k9 := f_x3 a9 e9
      obtain ⟨i10, hP⟩ := hP
      refine z_lald e9 k9 i10 dL_law_315 ?_
      refine z_iload dL_law_316 0 rfl ?_
      refine z_if_eq (tgt := 325) dL_law_318 (by decide) (fun h11 => ?_) (fun h11 => ?_)
      · replace hP := hP.1 h11
        refine z_lconst (v := 0) dL_law_325 (by decide) ?_
        refine z_sub (lv' := [(0, z_O _), (1, z_O _), (2, z_O _), (3, z_O _), (4, z_I _)]) [1, 2, 3, 4, 5] rfl ?_
        exact v_L_law_326 hl9 hkb hJ23 f_x1 (z_trn e6 k6) (z_trn e9 k9) hP
      · replace hP := hP.2 h11
        refine z_lconst (v := 1) dL_law_321 (by decide) ?_
        refine z_goto (tgt := 326) dL_law_322 (by decide) ?_
        refine z_sub (lv' := [(0, z_O _), (1, z_O _), (2, z_O _), (3, z_O _), (4, z_I _)]) [1, 2, 3, 4, 5] rfl ?_
        exact v_L_law_326 hl9 hkb hJ23 f_x1 (z_trn e6 k6) (z_trn e9 k9) hP
  · replace hP := hP.2 h7
    refine z_iconst (v := 0) dL_law_306 (by decide) ?_
    refine z_pc (pc' := 307) rfl ?_
    exact z_retb rfl (Or.inl rfl) dL_law_307 hP
set_option maxRecDepth 100000 in
set_option maxHeartbeats 4000000 in
theorem v_L_law_265 {G : z_G} {M0 : z_Mem} {a L : Nat} {xs : Nat → Int32} {Post : Int32 → z_Mem → Prop} (hl9 : G.1.stackTraces = false) (hkb : z_ki M0 a = 0) {J23 : Option Nat → Option Nat → Option Nat → Int32 → z_Mem → Prop} (hJ23 : ∀ (x1 : Option Nat) (x2 : Option Nat) (x3 : Option Nat) (x4 : Int32) (M : z_Mem), (z_tr M x1 12) → (z_tr M x2 13) → (z_tr M x3 25) → J23 x1 x2 x3 x4 M → z_V G Y_L_law (z_XL a L xs) M0 (z_QM G M0 (z_PB Post)) M 23 [(0, z_O (some a)), (1, z_O x1), (2, z_O x2), (3, z_O x3), (4, z_I x4)] []) {x1 : Option Nat} {x2 : Option Nat} {x3 : Option Nat} {x4 : Int32} {t0 : Option Nat} {t1 : Int32} {t2 : Int32} {M : z_Mem} (f_x1 : z_tr M x1 12) (f_x2 : z_tr M x2 13) (f_x3 : z_tr M x3 25) (f_t0 : z_tr M t0 12) (f_t2 : t2 = 0 ∨ t2 = 1) (hP : P_L_law_265 L xs Post J23 x1 x2 x3 x4 t0 t1 t2 M) : z_V G Y_L_law (z_XL a L xs) M0 (z_QM G M0 (z_PB Post)) M 265 [(0, z_O (some a)), (1, z_O x1), (2, z_O x2), (3, z_O x3), (4, z_I x4)] [z_I t2, z_I t1, z_O t0] := by
  unfold P_L_law_265 at hP
  refine z_aload_n dL_law_265 rfl 3 rfl ?_
  refine z_wts (fun hT12 _ => ?_)
  refine z_cSHi (hh := hh_L_setUp) (n := 4) (Y1 := Y_L_setUp) (st := []) rfl (s_L_setUp hl9 f_t0 f_t2 f_x3 hP) rfl ⟨z_dc_L_setUp, ⟨(Nat.le_of_ble_eq_true rfl), (Nat.le_of_ble_eq_true rfl)⟩, (Nat.le_of_ble_eq_true rfl)⟩ rfl zw_635 zw_636 zw_0 zh_L_setUp dL_law_266 (fun x_12 M_12 hP _ x12 => ?_)
  have f_x1 := x12.t (k := 11) hT12 f_x1
  have f_x2 := x12.t (k := 12) hT12 f_x2
  have f_x3 := x12.t (k := 24) hT12 f_x3
  refine z_istore (lv' := [(5, z_I _), (0, z_O _), (1, z_O _), (2, z_O _), (3, z_O _), (4, z_I _)]) dL_law_269 (Nat.le_of_ble_eq_true rfl) rfl ?_
  refine z_aload_n dL_law_271 rfl 3 rfl ?_
  refine z_aload_n dL_law_272 rfl 1 rfl ?_
  refine z_iload dL_law_273 5 rfl ?_
  refine z_pc (pc' := 275) rfl ?_
  refine z_iconst (v := 1) dL_law_275 (by decide) ?_
  refine z_iadd dL_law_276 ?_
  obtain ⟨i13, hP⟩ := hP
  refine z_sld hkb i13 dL_law_277 ?_
  refine z_aload_n dL_law_278 rfl 1 rfl ?_
  refine z_iload dL_law_279 5 rfl ?_
  refine z_iconst (v := 2) dL_law_281 (by decide) ?_
  refine z_pc (pc' := 282) rfl ?_
  refine z_iadd dL_law_282 ?_
  obtain ⟨i14, hP⟩ := hP
  refine z_sld hkb i14 dL_law_283 ?_
  refine z_if_eq (tgt := 291) dL_law_284 (by decide) (fun h15 => ?_) (fun h15 => ?_)
  · replace hP := hP.1 h15
    refine z_iconst (v := 0) dL_law_291 (by decide) ?_
    refine z_sub (lv' := [(0, z_O _), (1, z_O _), (2, z_O _), (3, z_O _), (4, z_I _), (5, z_I _)]) [1, 2, 3, 4, 5, 0] rfl ?_
    exact v_L_law_292 hl9 hkb hJ23 f_x1 f_x2 f_x3 f_x2 (Or.inl rfl) hP
  · replace hP := hP.2 h15
    refine z_iconst (v := 1) dL_law_287 (by decide) ?_
    refine z_goto (tgt := 292) dL_law_288 (by decide) ?_
    refine z_sub (lv' := [(0, z_O _), (1, z_O _), (2, z_O _), (3, z_O _), (4, z_I _), (5, z_I _)]) [1, 2, 3, 4, 5, 0] rfl ?_
    exact v_L_law_292 hl9 hkb hJ23 f_x1 f_x2 f_x3 f_x2 (Or.inr rfl) hP
set_option maxRecDepth 100000 in
set_option maxHeartbeats 4000000 in
theorem v_L_law_388 {G : z_G} {M0 : z_Mem} {a L : Nat} {xs : Nat → Int32} {Post : Int32 → z_Mem → Prop} (hl9 : G.1.stackTraces = false) (hkb : z_ki M0 a = 0) {J23 : Option Nat → Option Nat → Option Nat → Int32 → z_Mem → Prop} (hJ23 : ∀ (x1 : Option Nat) (x2 : Option Nat) (x3 : Option Nat) (x4 : Int32) (M : z_Mem), (z_tr M x1 12) → (z_tr M x2 13) → (z_tr M x3 25) → J23 x1 x2 x3 x4 M → z_V G Y_L_law (z_XL a L xs) M0 (z_QM G M0 (z_PB Post)) M 23 [(0, z_O (some a)), (1, z_O x1), (2, z_O x2), (3, z_O x3), (4, z_I x4)] []) {x1 : Option Nat} {x2 : Option Nat} {x3 : Option Nat} {x4 : Int32} {x5 : Int32} {t0 : Option Nat} {t1 : Int32} {t2 : Int32} {M : z_Mem} (f_x1 : z_tr M x1 12) (f_x2 : z_tr M x2 13) (f_x3 : z_tr M x3 25) (f_t0 : z_tr M t0 13) (f_t2 : t2 = 0 ∨ t2 = 1) (hP : P_L_law_388 L xs Post J23 x1 x2 x3 x4 x5 t0 t1 t2 M) : z_V G Y_L_law (z_XL a L xs) M0 (z_QM G M0 (z_PB Post)) M 388 [(0, z_O (some a)), (1, z_O x1), (2, z_O x2), (3, z_O x3), (4, z_I x4), (5, z_I x5)] [z_I t2, z_I t1, z_O t0] := by
  unfold P_L_law_388 at hP
  refine z_aload_n dL_law_388 rfl 0 rfl ?_
  refine z_iload dL_law_389 4 rfl ?_
  refine z_iconst (v := 3) dL_law_391 (by decide) ?_
  refine z_iadd dL_law_392 ?_
  obtain ⟨i16, hP⟩ := hP
  refine z_sld hkb i16 dL_law_393 ?_
  obtain ⟨a18, e18, hP⟩ := hP
  have k18 := f_t0 a18 e18
  refine z_wts (fun hT17 _ => ?_)
  refine z_cVv (c := 12) (n := 3) (Y1 := Y_X12_lose) (st := []) e18 k18 z_cb12 (Nat.le_of_ble_eq_true rfl) rfl (s_X12_lose k18 f_t2 hP) rfl ⟨z_dc_X12_lose, ⟨(Nat.le_of_ble_eq_true rfl), (Nat.le_of_ble_eq_true rfl)⟩, (Nat.le_of_ble_eq_true rfl)⟩ rfl zw_1563 zw_1564 zw_1565 zw_12 zw_1566 dL_law_394 (fun M_17 hP _ x17 => ?_)
  have f_x1 := x17.t (k := 11) hT17 f_x1
  have f_x2 := x17.t (k := 12) hT17 f_x2
  have f_x3 := x17.t (k := 24) hT17 f_x3
  refine z_pc (pc' := 397) rfl ?_
  refine z_aload_n dL_law_397 rfl 2 rfl ?_
  obtain ⟨a20, e20, hP⟩ := hP
  have k20 := f_x2 a20 e20
  refine z_wts (fun hT19 _ => ?_)
  refine z_cVi (c := 12) (n := 0) (Y1 := Y_X12_thrown) (st := []) e20 k20 z_cb12 (Nat.le_of_ble_eq_true rfl) rfl (s_X12_thrown k20 hP) rfl ⟨z_dc_X12_thrown, ⟨(Nat.le_of_ble_eq_true rfl), (Nat.le_of_ble_eq_true rfl)⟩, (Nat.le_of_ble_eq_true rfl)⟩ rfl zw_1541 zw_1542 zw_1543 zw_12 zw_1544 dL_law_398 (fun x_19 M_19 hP _ x19 => ?_)
  have f_x1 := x19.t (k := 11) hT19 f_x1
  have k20 := x19.k (k := 12) hT19 k20
  have f_x3 := x19.t (k := 24) hT19 f_x3
  refine z_iload dL_law_401 5 rfl ?_
  refine z_icmp_eq (tgt := 408) dL_law_403 (by decide) (fun h21 => ?_) (fun h21 => ?_)
  · replace hP := hP.1 h21
    refine z_goto (tgt := 1514) dL_law_408 (by decide) ?_
    refine z_sub (lv' := [(0, z_O _), (1, z_O _), (2, z_O _), (3, z_O _), (4, z_I _)]) [0, 1, 2, 3, 4] rfl ?_
    exact v_L_law_1514 hl9 hkb hJ23 f_x1 (z_trn e20 k20) f_x3 hP
  · replace hP := hP.2 h21
    refine z_iconst (v := 0) dL_law_406 (by decide) ?_
    exact z_retb rfl (Or.inl rfl) dL_law_407 hP
set_option maxRecDepth 100000 in
set_option maxHeartbeats 4000000 in
theorem v_L_law_356 {G : z_G} {M0 : z_Mem} {a L : Nat} {xs : Nat → Int32} {Post : Int32 → z_Mem → Prop} (hl9 : G.1.stackTraces = false) (hkb : z_ki M0 a = 0) {J23 : Option Nat → Option Nat → Option Nat → Int32 → z_Mem → Prop} (hJ23 : ∀ (x1 : Option Nat) (x2 : Option Nat) (x3 : Option Nat) (x4 : Int32) (M : z_Mem), (z_tr M x1 12) → (z_tr M x2 13) → (z_tr M x3 25) → J23 x1 x2 x3 x4 M → z_V G Y_L_law (z_XL a L xs) M0 (z_QM G M0 (z_PB Post)) M 23 [(0, z_O (some a)), (1, z_O x1), (2, z_O x2), (3, z_O x3), (4, z_I x4)] []) {x1 : Option Nat} {x2 : Option Nat} {x3 : Option Nat} {x4 : Int32} {t0 : Option Nat} {t1 : Int32} {t2 : Int32} {M : z_Mem} (f_x1 : z_tr M x1 12) (f_x2 : z_tr M x2 13) (f_x3 : z_tr M x3 25) (f_t0 : z_tr M t0 12) (f_t2 : t2 = 0 ∨ t2 = 1) (hP : P_L_law_356 L xs Post J23 x1 x2 x3 x4 t0 t1 t2 M) : z_V G Y_L_law (z_XL a L xs) M0 (z_QM G M0 (z_PB Post)) M 356 [(0, z_O (some a)), (1, z_O x1), (2, z_O x2), (3, z_O x3), (4, z_I x4)] [z_I t2, z_I t1, z_O t0] := by
  unfold P_L_law_356 at hP
  refine z_aload_n dL_law_356 rfl 0 rfl ?_
  refine z_iload dL_law_357 4 rfl ?_
  refine z_iconst (v := 3) dL_law_359 (by decide) ?_
  refine z_iadd dL_law_360 ?_
  obtain ⟨i22, hP⟩ := hP
  refine z_sld hkb i22 dL_law_361 ?_
  refine z_wts (fun hT23 _ => ?_)
  refine z_cSHi (hh := hh_L_lose) (n := 4) (Y1 := Y_L_lose) (st := []) rfl (s_L_lose hl9 f_t0 f_t2 hP) rfl ⟨z_dc_L_lose, ⟨(Nat.le_of_ble_eq_true rfl), (Nat.le_of_ble_eq_true rfl)⟩, (Nat.le_of_ble_eq_true rfl)⟩ rfl zw_642 zw_643 zw_0 zh_L_lose dL_law_362 (fun x_23 M_23 hP _ x23 => ?_)
  have f_x1 := x23.t (k := 11) hT23 f_x1
  have f_x2 := x23.t (k := 12) hT23 f_x2
  have f_x3 := x23.t (k := 24) hT23 f_x3
  refine z_pc (pc' := 365) rfl ?_
  refine z_istore (lv' := [(5, z_I _), (0, z_O _), (1, z_O _), (2, z_O _), (3, z_O _), (4, z_I _)]) dL_law_365 (Nat.le_of_ble_eq_true rfl) rfl ?_
  refine z_aload_n dL_law_367 rfl 3 rfl ?_
  refine z_aload_n dL_law_368 rfl 1 rfl ?_
  refine z_iload dL_law_369 5 rfl ?_
  refine z_iconst (v := 1) dL_law_371 (by decide) ?_
  refine z_iadd dL_law_372 ?_
  refine z_pc (pc' := 373) rfl ?_
  obtain ⟨i24, hP⟩ := hP
  refine z_sld hkb i24 dL_law_373 ?_
  refine z_aload_n dL_law_374 rfl 1 rfl ?_
  refine z_iload dL_law_375 5 rfl ?_
  refine z_iconst (v := 2) dL_law_377 (by decide) ?_
  refine z_iadd dL_law_378 ?_
  obtain ⟨i25, hP⟩ := hP
  refine z_sld hkb i25 dL_law_379 ?_
  refine z_pc (pc' := 380) rfl ?_
  refine z_if_eq (tgt := 387) dL_law_380 (by decide) (fun h26 => ?_) (fun h26 => ?_)
  · replace hP := hP.1 h26
    refine z_iconst (v := 0) dL_law_387 (by decide) ?_
    refine z_sub (lv' := [(0, z_O _), (1, z_O _), (2, z_O _), (3, z_O _), (4, z_I _), (5, z_I _)]) [1, 2, 3, 4, 5, 0] rfl ?_
    exact v_L_law_388 hl9 hkb hJ23 f_x1 f_x2 f_x3 f_x2 (Or.inl rfl) hP
  · replace hP := hP.2 h26
    refine z_iconst (v := 1) dL_law_383 (by decide) ?_
    refine z_goto (tgt := 388) dL_law_384 (by decide) ?_
    refine z_sub (lv' := [(0, z_O _), (1, z_O _), (2, z_O _), (3, z_O _), (4, z_I _), (5, z_I _)]) [1, 2, 3, 4, 5, 0] rfl ?_
    exact v_L_law_388 hl9 hkb hJ23 f_x1 f_x2 f_x3 f_x2 (Or.inr rfl) hP
set_option maxRecDepth 100000 in
set_option maxHeartbeats 4000000 in
theorem v_L_law_536 {G : z_G} {M0 : z_Mem} {a L : Nat} {xs : Nat → Int32} {Post : Int32 → z_Mem → Prop} (hl9 : G.1.stackTraces = false) (hkb : z_ki M0 a = 0) {J23 : Option Nat → Option Nat → Option Nat → Int32 → z_Mem → Prop} (hJ23 : ∀ (x1 : Option Nat) (x2 : Option Nat) (x3 : Option Nat) (x4 : Int32) (M : z_Mem), (z_tr M x1 12) → (z_tr M x2 13) → (z_tr M x3 25) → J23 x1 x2 x3 x4 M → z_V G Y_L_law (z_XL a L xs) M0 (z_QM G M0 (z_PB Post)) M 23 [(0, z_O (some a)), (1, z_O x1), (2, z_O x2), (3, z_O x3), (4, z_I x4)] []) {x1 : Option Nat} {x2 : Option Nat} {x3 : Option Nat} {x4 : Int32} {M : z_Mem} (f_x1 : z_tr M x1 12) (f_x2 : z_tr M x2 13) (f_x3 : z_tr M x3 25) (hP : P_L_law_536 L xs Post J23 x1 x2 x3 x4 M) : z_V G Y_L_law (z_XL a L xs) M0 (z_QM G M0 (z_PB Post)) M 536 [(0, z_O (some a)), (1, z_O x1), (2, z_O x2), (3, z_O x3), (4, z_I x4)] [] := by
  unfold P_L_law_536 at hP
  refine z_goto (tgt := 1514) dL_law_536 (by decide) ?_
  refine z_sub (lv' := [(0, z_O _), (1, z_O _), (2, z_O _), (3, z_O _), (4, z_I _)]) [0, 1, 2, 3, 4] rfl ?_
  exact v_L_law_1514 hl9 hkb hJ23 f_x1 f_x2 f_x3 hP
set_option maxRecDepth 100000 in
set_option maxHeartbeats 4000000 in
theorem v_L_law_572 {G : z_G} {M0 : z_Mem} {a L : Nat} {xs : Nat → Int32} {Post : Int32 → z_Mem → Prop} (hl9 : G.1.stackTraces = false) (hkb : z_ki M0 a = 0) {J23 : Option Nat → Option Nat → Option Nat → Int32 → z_Mem → Prop} (hJ23 : ∀ (x1 : Option Nat) (x2 : Option Nat) (x3 : Option Nat) (x4 : Int32) (M : z_Mem), (z_tr M x1 12) → (z_tr M x2 13) → (z_tr M x3 25) → J23 x1 x2 x3 x4 M → z_V G Y_L_law (z_XL a L xs) M0 (z_QM G M0 (z_PB Post)) M 23 [(0, z_O (some a)), (1, z_O x1), (2, z_O x2), (3, z_O x3), (4, z_I x4)] []) {x1 : Option Nat} {x2 : Option Nat} {x3 : Option Nat} {x4 : Int32} {t0 : Int32} {t1 : Option Nat} {t2 : Int32} {M : z_Mem} (f_x1 : z_tr M x1 12) (f_x2 : z_tr M x2 13) (f_x3 : z_tr M x3 25) (f_t0 : t0 = 0 ∨ t0 = 1) (f_t1 : z_tr M t1 13) (f_t2 : t2 = 0 ∨ t2 = 1) (hP : P_L_law_572 L xs Post J23 x1 x2 x3 x4 t0 t1 t2 M) : z_V G Y_L_law (z_XL a L xs) M0 (z_QM G M0 (z_PB Post)) M 572 [(0, z_O (some a)), (1, z_O x1), (2, z_O x2), (3, z_O x3), (4, z_I x4)] [z_I t2, z_O t1, z_I t0] := by
  unfold P_L_law_572 at hP
  obtain ⟨a28, e28, hP⟩ := hP
  have k28 := f_t1 a28 e28
  refine z_wts (fun hT27 _ => ?_)
  refine z_cVb (c := 12) (n := 1) (Y1 := Y_X12_setCookies) (st := [z_I _]) e28 k28 z_cb12 (Nat.le_of_ble_eq_true rfl) rfl (s_X12_setCookies k28 f_t2 hP) rfl ⟨z_dc_X12_setCookies, ⟨(Nat.le_of_ble_eq_true rfl), (Nat.le_of_ble_eq_true rfl)⟩, (Nat.le_of_ble_eq_true rfl)⟩ rfl zw_1575 zw_1576 zw_1577 zw_12 zw_1578 dL_law_572 (fun x_27 M_27 b27 hP _ x27 => ?_)
  have f_x1 := x27.t (k := 11) hT27 f_x1
  have f_x2 := x27.t (k := 12) hT27 f_x2
  have f_x3 := x27.t (k := 24) hT27 f_x3
  refine z_icmp_eq (tgt := 1514) dL_law_575 (by decide) (fun h29 => ?_) (fun h29 => ?_)
  · replace hP := hP.1 h29
    refine z_sub (lv' := [(0, z_O _), (1, z_O _), (2, z_O _), (3, z_O _), (4, z_I _)]) [0, 1, 2, 3, 4] rfl ?_
    exact v_L_law_1514 hl9 hkb hJ23 f_x1 f_x2 f_x3 hP
  · replace hP := hP.2 h29
    refine z_iconst (v := 0) dL_law_578 (by decide) ?_
    exact z_retb rfl (Or.inl rfl) dL_law_579 hP
set_option maxRecDepth 100000 in
set_option maxHeartbeats 4000000 in
theorem v_L_law_554 {G : z_G} {M0 : z_Mem} {a L : Nat} {xs : Nat → Int32} {Post : Int32 → z_Mem → Prop} (hl9 : G.1.stackTraces = false) (hkb : z_ki M0 a = 0) {J23 : Option Nat → Option Nat → Option Nat → Int32 → z_Mem → Prop} (hJ23 : ∀ (x1 : Option Nat) (x2 : Option Nat) (x3 : Option Nat) (x4 : Int32) (M : z_Mem), (z_tr M x1 12) → (z_tr M x2 13) → (z_tr M x3 25) → J23 x1 x2 x3 x4 M → z_V G Y_L_law (z_XL a L xs) M0 (z_QM G M0 (z_PB Post)) M 23 [(0, z_O (some a)), (1, z_O x1), (2, z_O x2), (3, z_O x3), (4, z_I x4)] []) {x1 : Option Nat} {x2 : Option Nat} {x3 : Option Nat} {x4 : Int32} {t0 : Option Nat} {t1 : Int32} {M : z_Mem} (f_x1 : z_tr M x1 12) (f_x2 : z_tr M x2 13) (f_x3 : z_tr M x3 25) (f_t0 : z_tr M t0 12) (f_t1 : t1 = 0 ∨ t1 = 1) (hP : P_L_law_554 L xs Post J23 x1 x2 x3 x4 t0 t1 M) : z_V G Y_L_law (z_XL a L xs) M0 (z_QM G M0 (z_PB Post)) M 554 [(0, z_O (some a)), (1, z_O x1), (2, z_O x2), (3, z_O x3), (4, z_I x4)] [z_I t1, z_O t0] := by
  unfold P_L_law_554 at hP
  obtain ⟨a31, e31, hP⟩ := hP
  have k31 := f_t0 a31 e31
  refine z_wts (fun hT30 _ => ?_)
  refine z_cVb (c := 11) (n := 1) (Y1 := Y_X11_setCookies) (st := []) e31 k31 z_cb11 (Nat.le_of_ble_eq_true rfl) rfl (s_X11_setCookies k31 f_t1 hP) rfl ⟨z_dc_X11_setCookies, ⟨(Nat.le_of_ble_eq_true rfl), (Nat.le_of_ble_eq_true rfl)⟩, (Nat.le_of_ble_eq_true rfl)⟩ rfl zw_505 zw_506 zw_507 zw_1 zw_508 dL_law_554 (fun x_30 M_30 b30 hP _ x30 => ?_)
  have f_x1 := x30.t (k := 11) hT30 f_x1
  have f_x2 := x30.t (k := 12) hT30 f_x2
  have f_x3 := x30.t (k := 24) hT30 f_x3
  refine z_aload_n dL_law_557 rfl 2 rfl ?_
  refine z_aload_n dL_law_558 rfl 0 rfl ?_
  refine z_iload dL_law_559 4 rfl ?_
  refine z_iconst (v := 1) dL_law_561 (by decide) ?_
  refine z_iadd dL_law_562 ?_
  refine z_pc (pc' := 563) rfl ?_
  obtain ⟨i32, hP⟩ := hP
  refine z_sld hkb i32 dL_law_563 ?_
  refine z_if_eq (tgt := 571) dL_law_564 (by decide) (fun h33 => ?_) (fun h33 => ?_)
  · replace hP := hP.1 h33
    refine z_iconst (v := 0) dL_law_571 (by decide) ?_
    refine z_sub (lv' := [(0, z_O _), (1, z_O _), (2, z_O _), (3, z_O _), (4, z_I _)]) [0, 1, 2, 3, 4] rfl ?_
    exact v_L_law_572 hl9 hkb hJ23 f_x1 f_x2 f_x3 b30 f_x2 (Or.inl rfl) hP
  · replace hP := hP.2 h33
    refine z_iconst (v := 1) dL_law_567 (by decide) ?_
    refine z_goto (tgt := 572) dL_law_568 (by decide) ?_
    refine z_sub (lv' := [(0, z_O _), (1, z_O _), (2, z_O _), (3, z_O _), (4, z_I _)]) [0, 1, 2, 3, 4] rfl ?_
    exact v_L_law_572 hl9 hkb hJ23 f_x1 f_x2 f_x3 b30 f_x2 (Or.inr rfl) hP
set_option maxRecDepth 100000 in
set_option maxHeartbeats 4000000 in
theorem v_L_law_645 {G : z_G} {M0 : z_Mem} {a L : Nat} {xs : Nat → Int32} {Post : Int32 → z_Mem → Prop} (hl9 : G.1.stackTraces = false) (hkb : z_ki M0 a = 0) {J23 : Option Nat → Option Nat → Option Nat → Int32 → z_Mem → Prop} (hJ23 : ∀ (x1 : Option Nat) (x2 : Option Nat) (x3 : Option Nat) (x4 : Int32) (M : z_Mem), (z_tr M x1 12) → (z_tr M x2 13) → (z_tr M x3 25) → J23 x1 x2 x3 x4 M → z_V G Y_L_law (z_XL a L xs) M0 (z_QM G M0 (z_PB Post)) M 23 [(0, z_O (some a)), (1, z_O x1), (2, z_O x2), (3, z_O x3), (4, z_I x4)] []) {x1 : Option Nat} {x2 : Option Nat} {x3 : Option Nat} {x4 : Int32} {M : z_Mem} (f_x1 : z_tr M x1 12) (f_x2 : z_tr M x2 13) (f_x3 : z_tr M x3 25) (hP : P_L_law_645 L xs Post J23 x1 x2 x3 x4 M) : z_V G Y_L_law (z_XL a L xs) M0 (z_QM G M0 (z_PB Post)) M 645 [(0, z_O (some a)), (1, z_O x1), (2, z_O x2), (3, z_O x3), (4, z_I x4)] [] := by
  unfold P_L_law_645 at hP
  refine z_goto (tgt := 1514) dL_law_645 (by decide) ?_
  refine z_sub (lv' := [(0, z_O _), (1, z_O _), (2, z_O _), (3, z_O _), (4, z_I _)]) [0, 1, 2, 3, 4] rfl ?_
  exact v_L_law_1514 hl9 hkb hJ23 f_x1 f_x2 f_x3 hP
set_option maxRecDepth 100000 in
set_option maxHeartbeats 4000000 in
theorem v_L_law_760 {G : z_G} {M0 : z_Mem} {a L : Nat} {xs : Nat → Int32} {Post : Int32 → z_Mem → Prop} (hl9 : G.1.stackTraces = false) (hkb : z_ki M0 a = 0) {J23 : Option Nat → Option Nat → Option Nat → Int32 → z_Mem → Prop} (hJ23 : ∀ (x1 : Option Nat) (x2 : Option Nat) (x3 : Option Nat) (x4 : Int32) (M : z_Mem), (z_tr M x1 12) → (z_tr M x2 13) → (z_tr M x3 25) → J23 x1 x2 x3 x4 M → z_V G Y_L_law (z_XL a L xs) M0 (z_QM G M0 (z_PB Post)) M 23 [(0, z_O (some a)), (1, z_O x1), (2, z_O x2), (3, z_O x3), (4, z_I x4)] []) {x1 : Option Nat} {x2 : Option Nat} {x3 : Option Nat} {x4 : Int32} {M : z_Mem} (f_x1 : z_tr M x1 12) (f_x2 : z_tr M x2 13) (f_x3 : z_tr M x3 25) (hP : P_L_law_760 L xs Post J23 x1 x2 x3 x4 M) : z_V G Y_L_law (z_XL a L xs) M0 (z_QM G M0 (z_PB Post)) M 760 [(0, z_O (some a)), (1, z_O x1), (2, z_O x2), (3, z_O x3), (4, z_I x4)] [] := by
  unfold P_L_law_760 at hP
  refine z_goto (tgt := 1514) dL_law_760 (by decide) ?_
  refine z_sub (lv' := [(0, z_O _), (1, z_O _), (2, z_O _), (3, z_O _), (4, z_I _)]) [0, 1, 2, 3, 4] rfl ?_
  exact v_L_law_1514 hl9 hkb hJ23 f_x1 f_x2 f_x3 hP
set_option maxRecDepth 100000 in
set_option maxHeartbeats 4000000 in
theorem v_L_law_828 {G : z_G} {M0 : z_Mem} {a L : Nat} {xs : Nat → Int32} {Post : Int32 → z_Mem → Prop} (hl9 : G.1.stackTraces = false) (hkb : z_ki M0 a = 0) {J23 : Option Nat → Option Nat → Option Nat → Int32 → z_Mem → Prop} (hJ23 : ∀ (x1 : Option Nat) (x2 : Option Nat) (x3 : Option Nat) (x4 : Int32) (M : z_Mem), (z_tr M x1 12) → (z_tr M x2 13) → (z_tr M x3 25) → J23 x1 x2 x3 x4 M → z_V G Y_L_law (z_XL a L xs) M0 (z_QM G M0 (z_PB Post)) M 23 [(0, z_O (some a)), (1, z_O x1), (2, z_O x2), (3, z_O x3), (4, z_I x4)] []) {x1 : Option Nat} {x2 : Option Nat} {x3 : Option Nat} {x4 : Int32} {M : z_Mem} (f_x1 : z_tr M x1 12) (f_x2 : z_tr M x2 13) (f_x3 : z_tr M x3 25) (hP : P_L_law_828 L xs Post J23 x1 x2 x3 x4 M) : z_V G Y_L_law (z_XL a L xs) M0 (z_QM G M0 (z_PB Post)) M 828 [(0, z_O (some a)), (1, z_O x1), (2, z_O x2), (3, z_O x3), (4, z_I x4)] [] := by
  unfold P_L_law_828 at hP
  refine z_goto (tgt := 1514) dL_law_828 (by decide) ?_
  refine z_sub (lv' := [(0, z_O _), (1, z_O _), (2, z_O _), (3, z_O _), (4, z_I _)]) [0, 1, 2, 3, 4] rfl ?_
  exact v_L_law_1514 hl9 hkb hJ23 f_x1 f_x2 f_x3 hP
set_option maxRecDepth 100000 in
set_option maxHeartbeats 4000000 in
theorem v_L_law_920 {G : z_G} {M0 : z_Mem} {a L : Nat} {xs : Nat → Int32} {Post : Int32 → z_Mem → Prop} (hl9 : G.1.stackTraces = false) (hkb : z_ki M0 a = 0) {J23 : Option Nat → Option Nat → Option Nat → Int32 → z_Mem → Prop} (hJ23 : ∀ (x1 : Option Nat) (x2 : Option Nat) (x3 : Option Nat) (x4 : Int32) (M : z_Mem), (z_tr M x1 12) → (z_tr M x2 13) → (z_tr M x3 25) → J23 x1 x2 x3 x4 M → z_V G Y_L_law (z_XL a L xs) M0 (z_QM G M0 (z_PB Post)) M 23 [(0, z_O (some a)), (1, z_O x1), (2, z_O x2), (3, z_O x3), (4, z_I x4)] []) {x1 : Option Nat} {x2 : Option Nat} {x3 : Option Nat} {x4 : Int32} {M : z_Mem} (f_x1 : z_tr M x1 12) (f_x2 : z_tr M x2 13) (f_x3 : z_tr M x3 25) (hP : P_L_law_920 L xs Post J23 x1 x2 x3 x4 M) : z_V G Y_L_law (z_XL a L xs) M0 (z_QM G M0 (z_PB Post)) M 920 [(0, z_O (some a)), (1, z_O x1), (2, z_O x2), (3, z_O x3), (4, z_I x4)] [] := by
  unfold P_L_law_920 at hP
  refine z_goto (tgt := 1514) dL_law_920 (by decide) ?_
  refine z_sub (lv' := [(0, z_O _), (1, z_O _), (2, z_O _), (3, z_O _), (4, z_I _)]) [0, 1, 2, 3, 4] rfl ?_
  exact v_L_law_1514 hl9 hkb hJ23 f_x1 f_x2 f_x3 hP
set_option maxRecDepth 100000 in
set_option maxHeartbeats 4000000 in
theorem v_L_law_964 {G : z_G} {M0 : z_Mem} {a L : Nat} {xs : Nat → Int32} {Post : Int32 → z_Mem → Prop} (hl9 : G.1.stackTraces = false) (hkb : z_ki M0 a = 0) {J23 : Option Nat → Option Nat → Option Nat → Int32 → z_Mem → Prop} (hJ23 : ∀ (x1 : Option Nat) (x2 : Option Nat) (x3 : Option Nat) (x4 : Int32) (M : z_Mem), (z_tr M x1 12) → (z_tr M x2 13) → (z_tr M x3 25) → J23 x1 x2 x3 x4 M → z_V G Y_L_law (z_XL a L xs) M0 (z_QM G M0 (z_PB Post)) M 23 [(0, z_O (some a)), (1, z_O x1), (2, z_O x2), (3, z_O x3), (4, z_I x4)] []) {x1 : Option Nat} {x2 : Option Nat} {x3 : Option Nat} {x4 : Int32} {M : z_Mem} (f_x1 : z_tr M x1 12) (f_x2 : z_tr M x2 13) (f_x3 : z_tr M x3 25) (hP : P_L_law_964 L xs Post J23 x1 x2 x3 x4 M) : z_V G Y_L_law (z_XL a L xs) M0 (z_QM G M0 (z_PB Post)) M 964 [(0, z_O (some a)), (1, z_O x1), (2, z_O x2), (3, z_O x3), (4, z_I x4)] [] := by
  unfold P_L_law_964 at hP
  refine z_goto (tgt := 1514) dL_law_964 (by decide) ?_
  refine z_sub (lv' := [(0, z_O _), (1, z_O _), (2, z_O _), (3, z_O _), (4, z_I _)]) [0, 1, 2, 3, 4] rfl ?_
  exact v_L_law_1514 hl9 hkb hJ23 f_x1 f_x2 f_x3 hP
set_option maxRecDepth 100000 in
set_option maxHeartbeats 4000000 in
theorem v_L_law_1044 {G : z_G} {M0 : z_Mem} {a L : Nat} {xs : Nat → Int32} {Post : Int32 → z_Mem → Prop} (hl9 : G.1.stackTraces = false) (hkb : z_ki M0 a = 0) {J23 : Option Nat → Option Nat → Option Nat → Int32 → z_Mem → Prop} (hJ23 : ∀ (x1 : Option Nat) (x2 : Option Nat) (x3 : Option Nat) (x4 : Int32) (M : z_Mem), (z_tr M x1 12) → (z_tr M x2 13) → (z_tr M x3 25) → J23 x1 x2 x3 x4 M → z_V G Y_L_law (z_XL a L xs) M0 (z_QM G M0 (z_PB Post)) M 23 [(0, z_O (some a)), (1, z_O x1), (2, z_O x2), (3, z_O x3), (4, z_I x4)] []) {x1 : Option Nat} {x2 : Option Nat} {x3 : Option Nat} {x4 : Int32} {M : z_Mem} (f_x1 : z_tr M x1 12) (f_x2 : z_tr M x2 13) (f_x3 : z_tr M x3 25) (hP : P_L_law_1044 L xs Post J23 x1 x2 x3 x4 M) : z_V G Y_L_law (z_XL a L xs) M0 (z_QM G M0 (z_PB Post)) M 1044 [(0, z_O (some a)), (1, z_O x1), (2, z_O x2), (3, z_O x3), (4, z_I x4)] [] := by
  unfold P_L_law_1044 at hP
  refine z_goto (tgt := 1514) dL_law_1044 (by decide) ?_
  refine z_sub (lv' := [(0, z_O _), (1, z_O _), (2, z_O _), (3, z_O _), (4, z_I _)]) [0, 1, 2, 3, 4] rfl ?_
  exact v_L_law_1514 hl9 hkb hJ23 f_x1 f_x2 f_x3 hP
set_option maxRecDepth 100000 in
set_option maxHeartbeats 4000000 in
theorem v_L_law_1113 {G : z_G} {M0 : z_Mem} {a L : Nat} {xs : Nat → Int32} {Post : Int32 → z_Mem → Prop} (hl9 : G.1.stackTraces = false) (hkb : z_ki M0 a = 0) {J23 : Option Nat → Option Nat → Option Nat → Int32 → z_Mem → Prop} (hJ23 : ∀ (x1 : Option Nat) (x2 : Option Nat) (x3 : Option Nat) (x4 : Int32) (M : z_Mem), (z_tr M x1 12) → (z_tr M x2 13) → (z_tr M x3 25) → J23 x1 x2 x3 x4 M → z_V G Y_L_law (z_XL a L xs) M0 (z_QM G M0 (z_PB Post)) M 23 [(0, z_O (some a)), (1, z_O x1), (2, z_O x2), (3, z_O x3), (4, z_I x4)] []) {x1 : Option Nat} {x2 : Option Nat} {x3 : Option Nat} {x4 : Int32} {M : z_Mem} (f_x1 : z_tr M x1 12) (f_x2 : z_tr M x2 13) (f_x3 : z_tr M x3 25) (hP : P_L_law_1113 L xs Post J23 x1 x2 x3 x4 M) : z_V G Y_L_law (z_XL a L xs) M0 (z_QM G M0 (z_PB Post)) M 1113 [(0, z_O (some a)), (1, z_O x1), (2, z_O x2), (3, z_O x3), (4, z_I x4)] [] := by
  unfold P_L_law_1113 at hP
  refine z_goto (tgt := 1514) dL_law_1113 (by decide) ?_
  refine z_sub (lv' := [(0, z_O _), (1, z_O _), (2, z_O _), (3, z_O _), (4, z_I _)]) [0, 1, 2, 3, 4] rfl ?_
  exact v_L_law_1514 hl9 hkb hJ23 f_x1 f_x2 f_x3 hP
set_option maxRecDepth 100000 in
set_option maxHeartbeats 4000000 in
theorem v_L_law_1181 {G : z_G} {M0 : z_Mem} {a L : Nat} {xs : Nat → Int32} {Post : Int32 → z_Mem → Prop} (hl9 : G.1.stackTraces = false) (hkb : z_ki M0 a = 0) {J23 : Option Nat → Option Nat → Option Nat → Int32 → z_Mem → Prop} (hJ23 : ∀ (x1 : Option Nat) (x2 : Option Nat) (x3 : Option Nat) (x4 : Int32) (M : z_Mem), (z_tr M x1 12) → (z_tr M x2 13) → (z_tr M x3 25) → J23 x1 x2 x3 x4 M → z_V G Y_L_law (z_XL a L xs) M0 (z_QM G M0 (z_PB Post)) M 23 [(0, z_O (some a)), (1, z_O x1), (2, z_O x2), (3, z_O x3), (4, z_I x4)] []) {x1 : Option Nat} {x2 : Option Nat} {x3 : Option Nat} {x4 : Int32} {M : z_Mem} (f_x1 : z_tr M x1 12) (f_x2 : z_tr M x2 13) (f_x3 : z_tr M x3 25) (hP : P_L_law_1181 L xs Post J23 x1 x2 x3 x4 M) : z_V G Y_L_law (z_XL a L xs) M0 (z_QM G M0 (z_PB Post)) M 1181 [(0, z_O (some a)), (1, z_O x1), (2, z_O x2), (3, z_O x3), (4, z_I x4)] [] := by
  unfold P_L_law_1181 at hP
  refine z_goto (tgt := 1514) dL_law_1181 (by decide) ?_
  refine z_sub (lv' := [(0, z_O _), (1, z_O _), (2, z_O _), (3, z_O _), (4, z_I _)]) [0, 1, 2, 3, 4] rfl ?_
  exact v_L_law_1514 hl9 hkb hJ23 f_x1 f_x2 f_x3 hP
set_option maxRecDepth 100000 in
set_option maxHeartbeats 4000000 in
theorem v_L_law_1249 {G : z_G} {M0 : z_Mem} {a L : Nat} {xs : Nat → Int32} {Post : Int32 → z_Mem → Prop} (hl9 : G.1.stackTraces = false) (hkb : z_ki M0 a = 0) {J23 : Option Nat → Option Nat → Option Nat → Int32 → z_Mem → Prop} (hJ23 : ∀ (x1 : Option Nat) (x2 : Option Nat) (x3 : Option Nat) (x4 : Int32) (M : z_Mem), (z_tr M x1 12) → (z_tr M x2 13) → (z_tr M x3 25) → J23 x1 x2 x3 x4 M → z_V G Y_L_law (z_XL a L xs) M0 (z_QM G M0 (z_PB Post)) M 23 [(0, z_O (some a)), (1, z_O x1), (2, z_O x2), (3, z_O x3), (4, z_I x4)] []) {x1 : Option Nat} {x2 : Option Nat} {x3 : Option Nat} {x4 : Int32} {M : z_Mem} (f_x1 : z_tr M x1 12) (f_x2 : z_tr M x2 13) (f_x3 : z_tr M x3 25) (hP : P_L_law_1249 L xs Post J23 x1 x2 x3 x4 M) : z_V G Y_L_law (z_XL a L xs) M0 (z_QM G M0 (z_PB Post)) M 1249 [(0, z_O (some a)), (1, z_O x1), (2, z_O x2), (3, z_O x3), (4, z_I x4)] [] := by
  unfold P_L_law_1249 at hP
  refine z_goto (tgt := 1514) dL_law_1249 (by decide) ?_
  refine z_sub (lv' := [(0, z_O _), (1, z_O _), (2, z_O _), (3, z_O _), (4, z_I _)]) [0, 1, 2, 3, 4] rfl ?_
  exact v_L_law_1514 hl9 hkb hJ23 f_x1 f_x2 f_x3 hP
set_option maxRecDepth 100000 in
set_option maxHeartbeats 4000000 in
theorem v_L_law_1343 {G : z_G} {M0 : z_Mem} {a L : Nat} {xs : Nat → Int32} {Post : Int32 → z_Mem → Prop} (hl9 : G.1.stackTraces = false) (hkb : z_ki M0 a = 0) {J23 : Option Nat → Option Nat → Option Nat → Int32 → z_Mem → Prop} (hJ23 : ∀ (x1 : Option Nat) (x2 : Option Nat) (x3 : Option Nat) (x4 : Int32) (M : z_Mem), (z_tr M x1 12) → (z_tr M x2 13) → (z_tr M x3 25) → J23 x1 x2 x3 x4 M → z_V G Y_L_law (z_XL a L xs) M0 (z_QM G M0 (z_PB Post)) M 23 [(0, z_O (some a)), (1, z_O x1), (2, z_O x2), (3, z_O x3), (4, z_I x4)] []) {x1 : Option Nat} {x2 : Option Nat} {x3 : Option Nat} {x4 : Int32} {M : z_Mem} (f_x1 : z_tr M x1 12) (f_x2 : z_tr M x2 13) (f_x3 : z_tr M x3 25) (hP : P_L_law_1343 L xs Post J23 x1 x2 x3 x4 M) : z_V G Y_L_law (z_XL a L xs) M0 (z_QM G M0 (z_PB Post)) M 1343 [(0, z_O (some a)), (1, z_O x1), (2, z_O x2), (3, z_O x3), (4, z_I x4)] [] := by
  unfold P_L_law_1343 at hP
  refine z_goto (tgt := 1514) dL_law_1343 (by decide) ?_
  refine z_sub (lv' := [(0, z_O _), (1, z_O _), (2, z_O _), (3, z_O _), (4, z_I _)]) [0, 1, 2, 3, 4] rfl ?_
  exact v_L_law_1514 hl9 hkb hJ23 f_x1 f_x2 f_x3 hP
set_option maxRecDepth 100000 in
set_option maxHeartbeats 4000000 in
theorem v_L_law_1399 {G : z_G} {M0 : z_Mem} {a L : Nat} {xs : Nat → Int32} {Post : Int32 → z_Mem → Prop} (hl9 : G.1.stackTraces = false) (hkb : z_ki M0 a = 0) {J23 : Option Nat → Option Nat → Option Nat → Int32 → z_Mem → Prop} (hJ23 : ∀ (x1 : Option Nat) (x2 : Option Nat) (x3 : Option Nat) (x4 : Int32) (M : z_Mem), (z_tr M x1 12) → (z_tr M x2 13) → (z_tr M x3 25) → J23 x1 x2 x3 x4 M → z_V G Y_L_law (z_XL a L xs) M0 (z_QM G M0 (z_PB Post)) M 23 [(0, z_O (some a)), (1, z_O x1), (2, z_O x2), (3, z_O x3), (4, z_I x4)] []) {x1 : Option Nat} {x2 : Option Nat} {x3 : Option Nat} {x4 : Int32} {M : z_Mem} (f_x1 : z_tr M x1 12) (f_x2 : z_tr M x2 13) (f_x3 : z_tr M x3 25) (hP : P_L_law_1399 L xs Post J23 x1 x2 x3 x4 M) : z_V G Y_L_law (z_XL a L xs) M0 (z_QM G M0 (z_PB Post)) M 1399 [(0, z_O (some a)), (1, z_O x1), (2, z_O x2), (3, z_O x3), (4, z_I x4)] [] := by
  unfold P_L_law_1399 at hP
  refine z_goto (tgt := 1514) dL_law_1399 (by decide) ?_
  refine z_sub (lv' := [(0, z_O _), (1, z_O _), (2, z_O _), (3, z_O _), (4, z_I _)]) [0, 1, 2, 3, 4] rfl ?_
  exact v_L_law_1514 hl9 hkb hJ23 f_x1 f_x2 f_x3 hP
set_option maxRecDepth 100000 in
set_option maxHeartbeats 4000000 in
theorem v_L_law_1455 {G : z_G} {M0 : z_Mem} {a L : Nat} {xs : Nat → Int32} {Post : Int32 → z_Mem → Prop} (hl9 : G.1.stackTraces = false) (hkb : z_ki M0 a = 0) {J23 : Option Nat → Option Nat → Option Nat → Int32 → z_Mem → Prop} (hJ23 : ∀ (x1 : Option Nat) (x2 : Option Nat) (x3 : Option Nat) (x4 : Int32) (M : z_Mem), (z_tr M x1 12) → (z_tr M x2 13) → (z_tr M x3 25) → J23 x1 x2 x3 x4 M → z_V G Y_L_law (z_XL a L xs) M0 (z_QM G M0 (z_PB Post)) M 23 [(0, z_O (some a)), (1, z_O x1), (2, z_O x2), (3, z_O x3), (4, z_I x4)] []) {x1 : Option Nat} {x2 : Option Nat} {x3 : Option Nat} {x4 : Int32} {M : z_Mem} (f_x1 : z_tr M x1 12) (f_x2 : z_tr M x2 13) (f_x3 : z_tr M x3 25) (hP : P_L_law_1455 L xs Post J23 x1 x2 x3 x4 M) : z_V G Y_L_law (z_XL a L xs) M0 (z_QM G M0 (z_PB Post)) M 1455 [(0, z_O (some a)), (1, z_O x1), (2, z_O x2), (3, z_O x3), (4, z_I x4)] [] := by
  unfold P_L_law_1455 at hP
  refine z_goto (tgt := 1514) dL_law_1455 (by decide) ?_
  refine z_sub (lv' := [(0, z_O _), (1, z_O _), (2, z_O _), (3, z_O _), (4, z_I _)]) [0, 1, 2, 3, 4] rfl ?_
  exact v_L_law_1514 hl9 hkb hJ23 f_x1 f_x2 f_x3 hP
set_option maxRecDepth 100000 in
set_option maxHeartbeats 4000000 in
theorem v_L_law_1511 {G : z_G} {M0 : z_Mem} {a L : Nat} {xs : Nat → Int32} {Post : Int32 → z_Mem → Prop} (hl9 : G.1.stackTraces = false) (hkb : z_ki M0 a = 0) {J23 : Option Nat → Option Nat → Option Nat → Int32 → z_Mem → Prop} (hJ23 : ∀ (x1 : Option Nat) (x2 : Option Nat) (x3 : Option Nat) (x4 : Int32) (M : z_Mem), (z_tr M x1 12) → (z_tr M x2 13) → (z_tr M x3 25) → J23 x1 x2 x3 x4 M → z_V G Y_L_law (z_XL a L xs) M0 (z_QM G M0 (z_PB Post)) M 23 [(0, z_O (some a)), (1, z_O x1), (2, z_O x2), (3, z_O x3), (4, z_I x4)] []) {x1 : Option Nat} {x2 : Option Nat} {x3 : Option Nat} {x4 : Int32} {M : z_Mem} (f_x1 : z_tr M x1 12) (f_x2 : z_tr M x2 13) (f_x3 : z_tr M x3 25) (hP : P_L_law_1511 L xs Post J23 x1 x2 x3 x4 M) : z_V G Y_L_law (z_XL a L xs) M0 (z_QM G M0 (z_PB Post)) M 1511 [(0, z_O (some a)), (1, z_O x1), (2, z_O x2), (3, z_O x3), (4, z_I x4)] [] := by
  unfold P_L_law_1511 at hP
  refine z_goto (tgt := 1514) dL_law_1511 (by decide) ?_
  refine z_sub (lv' := [(0, z_O _), (1, z_O _), (2, z_O _), (3, z_O _), (4, z_I _)]) [0, 1, 2, 3, 4] rfl ?_
  exact v_L_law_1514 hl9 hkb hJ23 f_x1 f_x2 f_x3 hP
set_option maxRecDepth 100000 in
set_option maxHeartbeats 4000000 in
theorem v_L_law_23 {G : z_G} {M0 : z_Mem} {a L : Nat} {xs : Nat → Int32} {Post : Int32 → z_Mem → Prop} (hl9 : G.1.stackTraces = false) (hkb : z_ki M0 a = 0)   : ∀ (n : Nat) {x1 : Option Nat} {x2 : Option Nat} {x3 : Option Nat} {x4 : Int32} {M : z_Mem}, (z_tr M x1 12) → (z_tr M x2 13) → (z_tr M x3 25) → P_L_law_23 L xs Post n x1 x2 x3 x4 M → z_V G Y_L_law (z_XL a L xs) M0 (z_QM G M0 (z_PB Post)) M 23 [(0, z_O (some a)), (1, z_O x1), (2, z_O x2), (3, z_O x3), (4, z_I x4)] [] := by
  intro n
  induction n with
  | zero => intro x1 x2 x3 x4 M f_x1 f_x2 f_x3 hP; exact False.elim hP
  | succ n ih =>
    intro x1 x2 x3 x4 M f_x1 f_x2 f_x3 hP
    unfold P_L_law_23 at hP
    refine z_iload dL_law_23 4 rfl ?_
    refine z_aload_n dL_law_25 rfl 0 rfl ?_
    refine z_slen hkb dL_law_26 ?_
    refine z_bipush (v := 6) dL_law_27 (by decide) ?_
    refine z_isub dL_law_29 ?_
    refine z_icmp_gt (tgt := 1520) dL_law_30 (by decide) (fun h34 => ?_) (fun h34 => ?_)
    · replace hP := hP.1 h34
      refine z_iconst (v := 1) dL_law_1520 (by decide) ?_
      refine z_pc (pc' := 1521) rfl ?_
      exact z_retb rfl (Or.inr rfl) dL_law_1521 hP
    · replace hP := hP.2 h34
      refine z_aload_n dL_law_33 rfl 0 rfl ?_
      refine z_pc (pc' := 34) rfl ?_
      refine z_iload dL_law_34 4 rfl ?_
      obtain ⟨i35, hP⟩ := hP
      refine z_sld hkb i35 dL_law_36 ?_
      refine z_bipush (v := 31) dL_law_37 (by decide) ?_
      refine z_iand dL_law_39 ?_
      refine z_sw (tD := 1514) 26 [160, 244, 335, 411, 471, 539, 580, 648, 659, 695, 763, 831, 867, 923, 967, 991, 1047, 1060, 1116, 1184, 1252, 1265, 1278, 1346, 1402, 1458] (by decide) (by decide) (by decide) dL_law_40 (fun k hk tg htg h36 => ?_) (fun h36 => ?_)
      · rcases (show k = 0 ∨ k = 1 ∨ k = 2 ∨ k = 3 ∨ k = 4 ∨ k = 5 ∨ k = 6 ∨ k = 7 ∨ k = 8 ∨ k = 9 ∨ k = 10 ∨ k = 11 ∨ k = 12 ∨ k = 13 ∨ k = 14 ∨ k = 15 ∨ k = 16 ∨ k = 17 ∨ k = 18 ∨ k = 19 ∨ k = 20 ∨ k = 21 ∨ k = 22 ∨ k = 23 ∨ k = 24 ∨ k = 25 by omega) with rfl | rfl | rfl | rfl | rfl | rfl | rfl | rfl | rfl | rfl | rfl | rfl | rfl | rfl | rfl | rfl | rfl | rfl | rfl | rfl | rfl | rfl | rfl | rfl | rfl | rfl
        · cases htg
          replace hP := hP.1 h36
          refine z_aload_n dL_law_160 rfl 1 rfl ?_
          refine z_aload_n dL_law_161 rfl 0 rfl ?_
          refine z_pc (pc' := 162) rfl ?_
          refine z_iload dL_law_162 4 rfl ?_
          refine z_iconst (v := 1) dL_law_164 (by decide) ?_
          refine z_iadd dL_law_165 ?_
          obtain ⟨i37, hP⟩ := hP
          refine z_sld hkb i37 dL_law_166 ?_
          refine z_aload_n dL_law_167 rfl 0 rfl ?_
          refine z_iload dL_law_168 4 rfl ?_
          refine z_pc (pc' := 170) rfl ?_
          refine z_iconst (v := 2) dL_law_170 (by decide) ?_
          refine z_iadd dL_law_171 ?_
          obtain ⟨i38, hP⟩ := hP
          refine z_sld hkb i38 dL_law_172 ?_
          refine z_aload_n dL_law_173 rfl 0 rfl ?_
          refine z_iload dL_law_174 4 rfl ?_
          refine z_iconst (v := 3) dL_law_176 (by decide) ?_
          refine z_pc (pc' := 177) rfl ?_
          refine z_iadd dL_law_177 ?_
          obtain ⟨i39, hP⟩ := hP
          refine z_sld hkb i39 dL_law_178 ?_
          refine z_aload_n dL_law_179 rfl 0 rfl ?_
          refine z_iload dL_law_180 4 rfl ?_
          refine z_iconst (v := 4) dL_law_182 (by decide) ?_
          refine z_iadd dL_law_183 ?_
          refine z_pc (pc' := 184) rfl ?_
          obtain ⟨i40, hP⟩ := hP
          refine z_sld hkb i40 dL_law_184 ?_
          refine z_aload_n dL_law_185 rfl 0 rfl ?_
          refine z_iload dL_law_186 4 rfl ?_
          refine z_iconst (v := 5) dL_law_188 (by decide) ?_
          refine z_iadd dL_law_189 ?_
          obtain ⟨i41, hP⟩ := hP
          refine z_sld hkb i41 dL_law_190 ?_
          refine z_pc (pc' := 191) rfl ?_
          refine z_wts (fun hT42 _ => ?_)
          refine z_cSHi (hh := hh_L_setPath) (n := 6) (Y1 := Y_L_setPath) (st := []) rfl (s_L_setPath hl9 f_x1 hP) rfl ⟨z_dc_L_setPath, ⟨(Nat.le_of_ble_eq_true rfl), (Nat.le_of_ble_eq_true rfl)⟩, (Nat.le_of_ble_eq_true rfl)⟩ rfl zw_532 zw_533 zw_0 zh_L_setPath dL_law_191 (fun x_42 M_42 hP _ x42 => ?_)
          have f_x1 := x42.t (k := 11) hT42 f_x1
          have f_x2 := x42.t (k := 12) hT42 f_x2
          have f_x3 := x42.t (k := 24) hT42 f_x3
          refine z_istore (lv' := [(5, z_I _), (0, z_O _), (1, z_O _), (2, z_O _), (3, z_O _), (4, z_I _)]) dL_law_194 (Nat.le_of_ble_eq_true rfl) rfl ?_
          refine z_aload_n dL_law_196 rfl 3 rfl ?_
          refine z_aload_n dL_law_197 rfl 1 rfl ?_
          refine z_iload dL_law_198 5 rfl ?_
          refine z_iconst (v := 1) dL_law_200 (by decide) ?_
          refine z_pc (pc' := 201) rfl ?_
          refine z_iadd dL_law_201 ?_
          obtain ⟨i43, hP⟩ := hP
          refine z_sld hkb i43 dL_law_202 ?_
          refine z_aload_n dL_law_203 rfl 1 rfl ?_
          refine z_iload dL_law_204 5 rfl ?_
          refine z_iconst (v := 2) dL_law_206 (by decide) ?_
          refine z_iadd dL_law_207 ?_
          refine z_pc (pc' := 208) rfl ?_
          obtain ⟨i44, hP⟩ := hP
          refine z_sld hkb i44 dL_law_208 ?_
          refine z_aload_n dL_law_209 rfl 1 rfl ?_
          refine z_iload dL_law_210 5 rfl ?_
          refine z_iconst (v := 3) dL_law_212 (by decide) ?_
          refine z_iadd dL_law_213 ?_
          obtain ⟨i45, hP⟩ := hP
          refine z_sld hkb i45 dL_law_214 ?_
          refine z_pc (pc' := 215) rfl ?_
          refine z_aload_n dL_law_215 rfl 1 rfl ?_
          refine z_iload dL_law_216 5 rfl ?_
          refine z_iconst (v := 4) dL_law_218 (by decide) ?_
          refine z_iadd dL_law_219 ?_
          obtain ⟨i46, hP⟩ := hP
          refine z_sld hkb i46 dL_law_220 ?_
          refine z_aload_n dL_law_221 rfl 1 rfl ?_
          refine z_pc (pc' := 222) rfl ?_
          refine z_iload dL_law_222 5 rfl ?_
          refine z_iconst (v := 5) dL_law_224 (by decide) ?_
          refine z_iadd dL_law_225 ?_
          obtain ⟨i47, hP⟩ := hP
          refine z_sld hkb i47 dL_law_226 ?_
          obtain ⟨a49, e49, hP⟩ := hP
          have k49 := f_x2 a49 e49
          refine z_wts (fun hT48 _ => ?_)
          refine z_cVv (c := 12) (n := 5) (Y1 := Y_X12_setPath) (st := []) e49 k49 z_cb12 (Nat.le_of_ble_eq_true rfl) rfl (s_X12_setPath k49 hP) rfl ⟨z_dc_X12_setPath, ⟨(Nat.le_of_ble_eq_true rfl), (Nat.le_of_ble_eq_true rfl)⟩, (Nat.le_of_ble_eq_true rfl)⟩ rfl zw_1545 zw_1546 zw_1547 zw_12 zw_1548 dL_law_227 (fun M_48 hP _ x48 => ?_)
          have f_x1 := x48.t (k := 11) hT48 f_x1
          have k49 := x48.k (k := 12) hT48 k49
          have f_x3 := x48.t (k := 24) hT48 f_x3
          refine z_aload_n dL_law_230 rfl 3 rfl ?_
          refine z_pc (pc' := 231) rfl ?_
          refine z_wts (fun hT50 _ => ?_)
          refine z_cVi (c := 12) (n := 0) (Y1 := Y_X12_thrown) (st := []) e49 k49 z_cb12 (Nat.le_of_ble_eq_true rfl) rfl (s_X12_thrown k49 hP) rfl ⟨z_dc_X12_thrown, ⟨(Nat.le_of_ble_eq_true rfl), (Nat.le_of_ble_eq_true rfl)⟩, (Nat.le_of_ble_eq_true rfl)⟩ rfl zw_1541 zw_1542 zw_1543 zw_12 zw_1544 dL_law_231 (fun x_50 M_50 hP _ x50 => ?_)
          have f_x1 := x50.t (k := 11) hT50 f_x1
          have k49 := x50.k (k := 12) hT50 k49
          have f_x3 := x50.t (k := 24) hT50 f_x3
          refine z_iload dL_law_234 0 rfl ?_
          refine z_icmp_eq (tgt := 241) dL_law_236 (by decide) (fun h51 => ?_) (fun h51 => ?_)
          · replace hP := hP.1 h51
            refine z_goto (tgt := 1514) dL_law_241 (by decide) ?_
            refine z_sub (lv' := [(0, z_O _), (1, z_O _), (2, z_O _), (3, z_O _), (4, z_I _)]) [1, 2, 3, 4, 5] rfl ?_
            exact v_L_law_1514 hl9 hkb (fun _ _ _ _ _ w0 w1 w2 hP => ih w0 w1 w2 hP) f_x1 (z_trn e49 k49) f_x3 hP
          · replace hP := hP.2 h51
            refine z_iconst (v := 0) dL_law_239 (by decide) ?_
            exact z_retb rfl (Or.inl rfl) dL_law_240 hP
        · cases htg
          replace hP := hP.2.1 h36
          refine z_aload_n dL_law_244 rfl 1 rfl ?_
          refine z_aload_n dL_law_245 rfl 0 rfl ?_
          refine z_pc (pc' := 246) rfl ?_
          refine z_iload dL_law_246 4 rfl ?_
          refine z_iconst (v := 1) dL_law_248 (by decide) ?_
          refine z_iadd dL_law_249 ?_
          obtain ⟨i52, hP⟩ := hP
          refine z_sld hkb i52 dL_law_250 ?_
          refine z_aload_n dL_law_251 rfl 0 rfl ?_
          refine z_iload dL_law_252 4 rfl ?_
          refine z_pc (pc' := 254) rfl ?_
          refine z_iconst (v := 2) dL_law_254 (by decide) ?_
          refine z_iadd dL_law_255 ?_
          obtain ⟨i53, hP⟩ := hP
          refine z_sld hkb i53 dL_law_256 ?_
          refine z_if_eq (tgt := 264) dL_law_257 (by decide) (fun h54 => ?_) (fun h54 => ?_)
          · replace hP := hP.1 h54
            refine z_iconst (v := 0) dL_law_264 (by decide) ?_
            refine z_sub (lv' := [(0, z_O _), (1, z_O _), (2, z_O _), (3, z_O _), (4, z_I _)]) [0, 1, 2, 3, 4] rfl ?_
            exact v_L_law_265 hl9 hkb (fun _ _ _ _ _ w0 w1 w2 hP => ih w0 w1 w2 hP) f_x1 f_x2 f_x3 f_x1 (Or.inl rfl) hP
          · replace hP := hP.2 h54
            refine z_iconst (v := 1) dL_law_260 (by decide) ?_
            refine z_goto (tgt := 265) dL_law_261 (by decide) ?_
            refine z_sub (lv' := [(0, z_O _), (1, z_O _), (2, z_O _), (3, z_O _), (4, z_I _)]) [0, 1, 2, 3, 4] rfl ?_
            exact v_L_law_265 hl9 hkb (fun _ _ _ _ _ w0 w1 w2 hP => ih w0 w1 w2 hP) f_x1 f_x2 f_x3 f_x1 (Or.inr rfl) hP
        · cases htg
          replace hP := hP.2.2.1 h36
          refine z_aload_n dL_law_335 rfl 1 rfl ?_
          refine z_aload_n dL_law_336 rfl 0 rfl ?_
          refine z_pc (pc' := 337) rfl ?_
          refine z_iload dL_law_337 4 rfl ?_
          refine z_iconst (v := 1) dL_law_339 (by decide) ?_
          refine z_iadd dL_law_340 ?_
          obtain ⟨i55, hP⟩ := hP
          refine z_sld hkb i55 dL_law_341 ?_
          refine z_aload_n dL_law_342 rfl 0 rfl ?_
          refine z_iload dL_law_343 4 rfl ?_
          refine z_pc (pc' := 345) rfl ?_
          refine z_iconst (v := 2) dL_law_345 (by decide) ?_
          refine z_iadd dL_law_346 ?_
          obtain ⟨i56, hP⟩ := hP
          refine z_sld hkb i56 dL_law_347 ?_
          refine z_if_eq (tgt := 355) dL_law_348 (by decide) (fun h57 => ?_) (fun h57 => ?_)
          · replace hP := hP.1 h57
            refine z_iconst (v := 0) dL_law_355 (by decide) ?_
            refine z_sub (lv' := [(0, z_O _), (1, z_O _), (2, z_O _), (3, z_O _), (4, z_I _)]) [0, 1, 2, 3, 4] rfl ?_
            exact v_L_law_356 hl9 hkb (fun _ _ _ _ _ w0 w1 w2 hP => ih w0 w1 w2 hP) f_x1 f_x2 f_x3 f_x1 (Or.inl rfl) hP
          · replace hP := hP.2 h57
            refine z_iconst (v := 1) dL_law_351 (by decide) ?_
            refine z_goto (tgt := 356) dL_law_352 (by decide) ?_
            refine z_sub (lv' := [(0, z_O _), (1, z_O _), (2, z_O _), (3, z_O _), (4, z_I _)]) [0, 1, 2, 3, 4] rfl ?_
            exact v_L_law_356 hl9 hkb (fun _ _ _ _ _ w0 w1 w2 hP => ih w0 w1 w2 hP) f_x1 f_x2 f_x3 f_x1 (Or.inr rfl) hP
        · cases htg
          replace hP := hP.2.2.2.1 h36
          refine z_aload_n dL_law_411 rfl 1 rfl ?_
          refine z_aload_n dL_law_412 rfl 0 rfl ?_
          refine z_pc (pc' := 413) rfl ?_
          refine z_iload dL_law_413 4 rfl ?_
          refine z_iconst (v := 1) dL_law_415 (by decide) ?_
          refine z_iadd dL_law_416 ?_
          obtain ⟨i58, hP⟩ := hP
          refine z_sld hkb i58 dL_law_417 ?_
          refine z_aload_n dL_law_418 rfl 0 rfl ?_
          refine z_iload dL_law_419 4 rfl ?_
          refine z_pc (pc' := 421) rfl ?_
          refine z_iconst (v := 2) dL_law_421 (by decide) ?_
          refine z_iadd dL_law_422 ?_
          obtain ⟨i59, hP⟩ := hP
          refine z_sld hkb i59 dL_law_423 ?_
          refine z_aload_n dL_law_424 rfl 0 rfl ?_
          refine z_iload dL_law_425 4 rfl ?_
          refine z_iconst (v := 3) dL_law_427 (by decide) ?_
          refine z_pc (pc' := 428) rfl ?_
          refine z_iadd dL_law_428 ?_
          obtain ⟨i60, hP⟩ := hP
          refine z_sld hkb i60 dL_law_429 ?_
          refine z_wts (fun hT61 _ => ?_)
          refine z_cSHi (hh := hh_L_late) (n := 4) (Y1 := Y_L_late) (st := []) rfl (s_L_late hl9 f_x1 hP) rfl ⟨z_dc_L_late, ⟨(Nat.le_of_ble_eq_true rfl), (Nat.le_of_ble_eq_true rfl)⟩, (Nat.le_of_ble_eq_true rfl)⟩ rfl zw_649 zw_650 zw_0 zh_L_late dL_law_430 (fun x_61 M_61 hP _ x61 => ?_)
          have f_x1 := x61.t (k := 11) hT61 f_x1
          have f_x2 := x61.t (k := 12) hT61 f_x2
          have f_x3 := x61.t (k := 24) hT61 f_x3
          refine z_istore (lv' := [(5, z_I _), (0, z_O _), (1, z_O _), (2, z_O _), (3, z_O _), (4, z_I _)]) dL_law_433 (Nat.le_of_ble_eq_true rfl) rfl ?_
          refine z_aload_n dL_law_435 rfl 3 rfl ?_
          refine z_aload_n dL_law_436 rfl 1 rfl ?_
          refine z_pc (pc' := 437) rfl ?_
          refine z_iload dL_law_437 5 rfl ?_
          refine z_iconst (v := 1) dL_law_439 (by decide) ?_
          refine z_iadd dL_law_440 ?_
          obtain ⟨i62, hP⟩ := hP
          refine z_sld hkb i62 dL_law_441 ?_
          refine z_aload_n dL_law_442 rfl 1 rfl ?_
          refine z_iload dL_law_443 5 rfl ?_
          refine z_pc (pc' := 445) rfl ?_
          refine z_iconst (v := 2) dL_law_445 (by decide) ?_
          refine z_iadd dL_law_446 ?_
          obtain ⟨i63, hP⟩ := hP
          refine z_sld hkb i63 dL_law_447 ?_
          refine z_aload_n dL_law_448 rfl 1 rfl ?_
          refine z_iload dL_law_449 5 rfl ?_
          refine z_iconst (v := 3) dL_law_451 (by decide) ?_
          refine z_pc (pc' := 452) rfl ?_
          refine z_iadd dL_law_452 ?_
          obtain ⟨i64, hP⟩ := hP
          refine z_sld hkb i64 dL_law_453 ?_
          obtain ⟨a66, e66, hP⟩ := hP
          have k66 := f_x2 a66 e66
          refine z_wts (fun hT65 _ => ?_)
          refine z_cVv (c := 12) (n := 3) (Y1 := Y_X12_late) (st := []) e66 k66 z_cb12 (Nat.le_of_ble_eq_true rfl) rfl (s_X12_late k66 hP) rfl ⟨z_dc_X12_late, ⟨(Nat.le_of_ble_eq_true rfl), (Nat.le_of_ble_eq_true rfl)⟩, (Nat.le_of_ble_eq_true rfl)⟩ rfl zw_1567 zw_1568 zw_1569 zw_12 zw_1570 dL_law_454 (fun M_65 hP _ x65 => ?_)
          have f_x1 := x65.t (k := 11) hT65 f_x1
          have k66 := x65.k (k := 12) hT65 k66
          have f_x3 := x65.t (k := 24) hT65 f_x3
          refine z_aload_n dL_law_457 rfl 3 rfl ?_
          refine z_wts (fun hT67 _ => ?_)
          refine z_cVi (c := 12) (n := 0) (Y1 := Y_X12_thrown) (st := []) e66 k66 z_cb12 (Nat.le_of_ble_eq_true rfl) rfl (s_X12_thrown k66 hP) rfl ⟨z_dc_X12_thrown, ⟨(Nat.le_of_ble_eq_true rfl), (Nat.le_of_ble_eq_true rfl)⟩, (Nat.le_of_ble_eq_true rfl)⟩ rfl zw_1541 zw_1542 zw_1543 zw_12 zw_1544 dL_law_458 (fun x_67 M_67 hP _ x67 => ?_)
          have f_x1 := x67.t (k := 11) hT67 f_x1
          have k66 := x67.k (k := 12) hT67 k66
          have f_x3 := x67.t (k := 24) hT67 f_x3
          refine z_iload dL_law_461 0 rfl ?_
          refine z_pc (pc' := 463) rfl ?_
          refine z_icmp_eq (tgt := 468) dL_law_463 (by decide) (fun h68 => ?_) (fun h68 => ?_)
          · replace hP := hP.1 h68
            refine z_goto (tgt := 1514) dL_law_468 (by decide) ?_
            refine z_sub (lv' := [(0, z_O _), (1, z_O _), (2, z_O _), (3, z_O _), (4, z_I _)]) [1, 2, 3, 4, 5] rfl ?_
            exact v_L_law_1514 hl9 hkb (fun _ _ _ _ _ w0 w1 w2 hP => ih w0 w1 w2 hP) f_x1 (z_trn e66 k66) f_x3 hP
          · replace hP := hP.2 h68
            refine z_iconst (v := 0) dL_law_466 (by decide) ?_
            exact z_retb rfl (Or.inl rfl) dL_law_467 hP
        · cases htg
          replace hP := hP.2.2.2.2.1 h36
          refine z_aload_n dL_law_471 rfl 1 rfl ?_
          refine z_aload_n dL_law_472 rfl 0 rfl ?_
          refine z_pc (pc' := 473) rfl ?_
          refine z_iload dL_law_473 4 rfl ?_
          refine z_iconst (v := 1) dL_law_475 (by decide) ?_
          refine z_iadd dL_law_476 ?_
          obtain ⟨i69, hP⟩ := hP
          refine z_sld hkb i69 dL_law_477 ?_
          refine z_aload_n dL_law_478 rfl 0 rfl ?_
          refine z_iload dL_law_479 4 rfl ?_
          refine z_pc (pc' := 481) rfl ?_
          refine z_iconst (v := 2) dL_law_481 (by decide) ?_
          refine z_iadd dL_law_482 ?_
          obtain ⟨i70, hP⟩ := hP
          refine z_sld hkb i70 dL_law_483 ?_
          refine z_aload_n dL_law_484 rfl 3 rfl ?_
          refine z_wts (fun hT71 _ => ?_)
          refine z_cSHi (hh := hh_L_foreign) (n := 4) (Y1 := Y_L_foreign) (st := []) rfl (s_L_foreign hl9 f_x1 f_x3 hP) rfl ⟨z_dc_L_foreign, ⟨(Nat.le_of_ble_eq_true rfl), (Nat.le_of_ble_eq_true rfl)⟩, (Nat.le_of_ble_eq_true rfl)⟩ rfl zw_656 zw_657 zw_0 zh_L_foreign dL_law_485 (fun x_71 M_71 hP _ x71 => ?_)
          have f_x1 := x71.t (k := 11) hT71 f_x1
          have f_x2 := x71.t (k := 12) hT71 f_x2
          have f_x3 := x71.t (k := 24) hT71 f_x3
          refine z_istore (lv' := [(5, z_I _), (0, z_O _), (1, z_O _), (2, z_O _), (3, z_O _), (4, z_I _)]) dL_law_488 (Nat.le_of_ble_eq_true rfl) rfl ?_
          refine z_pc (pc' := 490) rfl ?_
          refine z_aload_n dL_law_490 rfl 3 rfl ?_
          refine z_aload_n dL_law_491 rfl 1 rfl ?_
          refine z_iload dL_law_492 5 rfl ?_
          refine z_iconst (v := 1) dL_law_494 (by decide) ?_
          refine z_iadd dL_law_495 ?_
          obtain ⟨i72, hP⟩ := hP
          refine z_sld hkb i72 dL_law_496 ?_
          refine z_pc (pc' := 497) rfl ?_
          refine z_aload_n dL_law_497 rfl 1 rfl ?_
          refine z_iload dL_law_498 5 rfl ?_
          refine z_iconst (v := 2) dL_law_500 (by decide) ?_
          refine z_iadd dL_law_501 ?_
          obtain ⟨i73, hP⟩ := hP
          refine z_sld hkb i73 dL_law_502 ?_
          obtain ⟨a75, e75, hP⟩ := hP
          have k75 := f_x2 a75 e75
          refine z_wts (fun hT74 _ => ?_)
          refine z_cVi (c := 12) (n := 2) (Y1 := Y_X12_foreign) (st := []) e75 k75 z_cb12 (Nat.le_of_ble_eq_true rfl) rfl (s_X12_foreign k75 hP) rfl ⟨z_dc_X12_foreign, ⟨(Nat.le_of_ble_eq_true rfl), (Nat.le_of_ble_eq_true rfl)⟩, (Nat.le_of_ble_eq_true rfl)⟩ rfl zw_1571 zw_1572 zw_1573 zw_12 zw_1574 dL_law_503 (fun x_74 M_74 hP _ x74 => ?_)
          have f_x1 := x74.t (k := 11) hT74 f_x1
          have k75 := x74.k (k := 12) hT74 k75
          have f_x3 := x74.t (k := 24) hT74 f_x3
          refine z_pc (pc' := 506) rfl ?_
          refine z_istore (lv' := [(6, z_I _), (5, z_I _), (0, z_O _), (1, z_O _), (2, z_O _), (3, z_O _), (4, z_I _)]) dL_law_506 (Nat.le_of_ble_eq_true rfl) rfl ?_
          refine z_aload_n dL_law_508 rfl 4 rfl ?_
          refine z_wts (fun hT76 _ => ?_)
          refine z_cVi (c := 12) (n := 0) (Y1 := Y_X12_thrown) (st := []) e75 k75 z_cb12 (Nat.le_of_ble_eq_true rfl) rfl (s_X12_thrown k75 hP) rfl ⟨z_dc_X12_thrown, ⟨(Nat.le_of_ble_eq_true rfl), (Nat.le_of_ble_eq_true rfl)⟩, (Nat.le_of_ble_eq_true rfl)⟩ rfl zw_1541 zw_1542 zw_1543 zw_12 zw_1544 dL_law_509 (fun x_76 M_76 hP _ x76 => ?_)
          have f_x1 := x76.t (k := 11) hT76 f_x1
          have k75 := x76.k (k := 12) hT76 k75
          have f_x3 := x76.t (k := 24) hT76 f_x3
          refine z_iload dL_law_512 1 rfl ?_
          refine z_icmp_eq (tgt := 519) dL_law_514 (by decide) (fun h77 => ?_) (fun h77 => ?_)
          · replace hP := hP.1 h77
            refine z_iload dL_law_519 1 rfl ?_
            refine z_if_ne (tgt := 536) dL_law_521 (by decide) (fun h78 => ?_) (fun h78 => ?_)
            · replace hP := hP.2 h78
              refine z_sub (lv' := [(0, z_O _), (1, z_O _), (2, z_O _), (3, z_O _), (4, z_I _)]) [2, 3, 4, 5, 6] rfl ?_
              exact v_L_law_536 hl9 hkb (fun _ _ _ _ _ w0 w1 w2 hP => ih w0 w1 w2 hP) f_x1 (z_trn e75 k75) f_x3 hP
            · replace hP := hP.1 h78
              refine z_aload_n dL_law_524 rfl 5 rfl ?_
              refine z_pc (pc' := 525) rfl ?_
              refine z_iconst (v := 0) dL_law_525 (by decide) ?_
              obtain ⟨a79, e79, hP⟩ := hP
              have k79 := f_x3 a79 e79
              obtain ⟨i80, hP⟩ := hP
              refine z_lald e79 k79 i80 dL_law_526 ?_
              refine z_iload dL_law_527 0 rfl ?_
              refine z_i2l dL_law_529 ?_
              refine z_lcmp dL_law_530 ?_
              refine z_if_eq (tgt := 536) dL_law_531 (by decide) (fun h81 => ?_) (fun h81 => ?_)
              · replace hP := hP.1 h81
                refine z_sub (lv' := [(0, z_O _), (1, z_O _), (2, z_O _), (3, z_O _), (4, z_I _)]) [2, 3, 4, 5, 6] rfl ?_
                exact v_L_law_536 hl9 hkb (fun _ _ _ _ _ w0 w1 w2 hP => ih w0 w1 w2 hP) f_x1 (z_trn e75 k75) (z_trn e79 k79) hP
              · replace hP := hP.2 h81
                refine z_iconst (v := 0) dL_law_534 (by decide) ?_
                refine z_pc (pc' := 535) rfl ?_
                exact z_retb rfl (Or.inl rfl) dL_law_535 hP
          · replace hP := hP.2 h77
            refine z_iconst (v := 0) dL_law_517 (by decide) ?_
            exact z_retb rfl (Or.inl rfl) dL_law_518 hP
        · cases htg
          replace hP := hP.2.2.2.2.2.1 h36
          refine z_aload_n dL_law_539 rfl 1 rfl ?_
          refine z_aload_n dL_law_540 rfl 0 rfl ?_
          refine z_pc (pc' := 541) rfl ?_
          refine z_iload dL_law_541 4 rfl ?_
          refine z_iconst (v := 1) dL_law_543 (by decide) ?_
          refine z_iadd dL_law_544 ?_
          obtain ⟨i82, hP⟩ := hP
          refine z_sld hkb i82 dL_law_545 ?_
          refine z_if_eq (tgt := 553) dL_law_546 (by decide) (fun h83 => ?_) (fun h83 => ?_)
          · replace hP := hP.1 h83
            refine z_iconst (v := 0) dL_law_553 (by decide) ?_
            refine z_sub (lv' := [(0, z_O _), (1, z_O _), (2, z_O _), (3, z_O _), (4, z_I _)]) [0, 1, 2, 3, 4] rfl ?_
            exact v_L_law_554 hl9 hkb (fun _ _ _ _ _ w0 w1 w2 hP => ih w0 w1 w2 hP) f_x1 f_x2 f_x3 f_x1 (Or.inl rfl) hP
          · replace hP := hP.2 h83
            refine z_iconst (v := 1) dL_law_549 (by decide) ?_
            refine z_goto (tgt := 554) dL_law_550 (by decide) ?_
            refine z_sub (lv' := [(0, z_O _), (1, z_O _), (2, z_O _), (3, z_O _), (4, z_I _)]) [0, 1, 2, 3, 4] rfl ?_
            exact v_L_law_554 hl9 hkb (fun _ _ _ _ _ w0 w1 w2 hP => ih w0 w1 w2 hP) f_x1 f_x2 f_x3 f_x1 (Or.inr rfl) hP
        · cases htg
          replace hP := hP.2.2.2.2.2.2.1 h36
          refine z_aload_n dL_law_580 rfl 1 rfl ?_
          refine z_aload_n dL_law_581 rfl 0 rfl ?_
          refine z_pc (pc' := 582) rfl ?_
          refine z_iload dL_law_582 4 rfl ?_
          refine z_iconst (v := 1) dL_law_584 (by decide) ?_
          refine z_iadd dL_law_585 ?_
          obtain ⟨i84, hP⟩ := hP
          refine z_sld hkb i84 dL_law_586 ?_
          refine z_aload_n dL_law_587 rfl 0 rfl ?_
          refine z_iload dL_law_588 4 rfl ?_
          refine z_pc (pc' := 590) rfl ?_
          refine z_iconst (v := 2) dL_law_590 (by decide) ?_
          refine z_iadd dL_law_591 ?_
          obtain ⟨i85, hP⟩ := hP
          refine z_sld hkb i85 dL_law_592 ?_
          refine z_aload_n dL_law_593 rfl 3 rfl ?_
          refine z_wts (fun hT86 _ => ?_)
          refine z_cSHi (hh := hh_L_read) (n := 4) (Y1 := Y_L_read) (st := []) rfl (s_L_read hl9 f_x1 f_x3 hP) rfl ⟨z_dc_L_read, ⟨(Nat.le_of_ble_eq_true rfl), (Nat.le_of_ble_eq_true rfl)⟩, (Nat.le_of_ble_eq_true rfl)⟩ rfl zw_676 zw_677 zw_0 zh_L_read dL_law_594 (fun x_86 M_86 hP _ x86 => ?_)
          have f_x1 := x86.t (k := 11) hT86 f_x1
          have f_x2 := x86.t (k := 12) hT86 f_x2
          have f_x3 := x86.t (k := 24) hT86 f_x3
          refine z_istore (lv' := [(5, z_I _), (0, z_O _), (1, z_O _), (2, z_O _), (3, z_O _), (4, z_I _)]) dL_law_597 (Nat.le_of_ble_eq_true rfl) rfl ?_
          refine z_pc (pc' := 599) rfl ?_
          refine z_aload_n dL_law_599 rfl 3 rfl ?_
          refine z_aload_n dL_law_600 rfl 1 rfl ?_
          refine z_iload dL_law_601 5 rfl ?_
          refine z_iconst (v := 1) dL_law_603 (by decide) ?_
          refine z_iadd dL_law_604 ?_
          obtain ⟨i87, hP⟩ := hP
          refine z_sld hkb i87 dL_law_605 ?_
          refine z_pc (pc' := 606) rfl ?_
          refine z_aload_n dL_law_606 rfl 1 rfl ?_
          refine z_iload dL_law_607 5 rfl ?_
          refine z_iconst (v := 2) dL_law_609 (by decide) ?_
          refine z_iadd dL_law_610 ?_
          obtain ⟨i88, hP⟩ := hP
          refine z_sld hkb i88 dL_law_611 ?_
          obtain ⟨a90, e90, hP⟩ := hP
          have k90 := f_x2 a90 e90
          refine z_wts (fun hT89 _ => ?_)
          refine z_cVi (c := 12) (n := 2) (Y1 := Y_X12_read) (st := []) e90 k90 z_cb12 (Nat.le_of_ble_eq_true rfl) rfl (s_X12_read k90 hP) rfl ⟨z_dc_X12_read, ⟨(Nat.le_of_ble_eq_true rfl), (Nat.le_of_ble_eq_true rfl)⟩, (Nat.le_of_ble_eq_true rfl)⟩ rfl zw_1579 zw_1580 zw_1581 zw_12 zw_1582 dL_law_612 (fun x_89 M_89 hP _ x89 => ?_)
          have f_x1 := x89.t (k := 11) hT89 f_x1
          have k90 := x89.k (k := 12) hT89 k90
          have f_x3 := x89.t (k := 24) hT89 f_x3
          refine z_pc (pc' := 615) rfl ?_
          refine z_istore (lv' := [(6, z_I _), (5, z_I _), (0, z_O _), (1, z_O _), (2, z_O _), (3, z_O _), (4, z_I _)]) dL_law_615 (Nat.le_of_ble_eq_true rfl) rfl ?_
          refine z_aload_n dL_law_617 rfl 4 rfl ?_
          refine z_wts (fun hT91 _ => ?_)
          refine z_cVi (c := 12) (n := 0) (Y1 := Y_X12_thrown) (st := []) e90 k90 z_cb12 (Nat.le_of_ble_eq_true rfl) rfl (s_X12_thrown k90 hP) rfl ⟨z_dc_X12_thrown, ⟨(Nat.le_of_ble_eq_true rfl), (Nat.le_of_ble_eq_true rfl)⟩, (Nat.le_of_ble_eq_true rfl)⟩ rfl zw_1541 zw_1542 zw_1543 zw_12 zw_1544 dL_law_618 (fun x_91 M_91 hP _ x91 => ?_)
          have f_x1 := x91.t (k := 11) hT91 f_x1
          have k90 := x91.k (k := 12) hT91 k90
          have f_x3 := x91.t (k := 24) hT91 f_x3
          refine z_iload dL_law_621 1 rfl ?_
          refine z_icmp_eq (tgt := 628) dL_law_623 (by decide) (fun h92 => ?_) (fun h92 => ?_)
          · replace hP := hP.1 h92
            refine z_iload dL_law_628 1 rfl ?_
            refine z_if_ne (tgt := 645) dL_law_630 (by decide) (fun h93 => ?_) (fun h93 => ?_)
            · replace hP := hP.2 h93
              refine z_sub (lv' := [(0, z_O _), (1, z_O _), (2, z_O _), (3, z_O _), (4, z_I _)]) [2, 3, 4, 5, 6] rfl ?_
              exact v_L_law_645 hl9 hkb (fun _ _ _ _ _ w0 w1 w2 hP => ih w0 w1 w2 hP) f_x1 (z_trn e90 k90) f_x3 hP
            · replace hP := hP.1 h93
              refine z_aload_n dL_law_633 rfl 5 rfl ?_
              refine z_pc (pc' := 634) rfl ?_
              refine z_iconst (v := 0) dL_law_634 (by decide) ?_
              obtain ⟨a94, e94, hP⟩ := hP
              have k94 := f_x3 a94 e94
              obtain ⟨i95, hP⟩ := hP
              refine z_lald e94 k94 i95 dL_law_635 ?_
              refine z_iload dL_law_636 0 rfl ?_
              refine z_i2l dL_law_638 ?_
              refine z_lcmp dL_law_639 ?_
              refine z_if_eq (tgt := 645) dL_law_640 (by decide) (fun h96 => ?_) (fun h96 => ?_)
              · replace hP := hP.1 h96
                refine z_sub (lv' := [(0, z_O _), (1, z_O _), (2, z_O _), (3, z_O _), (4, z_I _)]) [2, 3, 4, 5, 6] rfl ?_
                exact v_L_law_645 hl9 hkb (fun _ _ _ _ _ w0 w1 w2 hP => ih w0 w1 w2 hP) f_x1 (z_trn e90 k90) (z_trn e94 k94) hP
              · replace hP := hP.2 h96
                refine z_iconst (v := 0) dL_law_643 (by decide) ?_
                refine z_pc (pc' := 644) rfl ?_
                exact z_retb rfl (Or.inl rfl) dL_law_644 hP
          · replace hP := hP.2 h92
            refine z_iconst (v := 0) dL_law_626 (by decide) ?_
            exact z_retb rfl (Or.inl rfl) dL_law_627 hP
        · cases htg
          replace hP := hP.2.2.2.2.2.2.2.1 h36
          refine z_aload_n dL_law_648 rfl 1 rfl ?_
          obtain ⟨a98, e98, hP⟩ := hP
          have k98 := f_x1 a98 e98
          refine z_wts (fun hT97 _ => ?_)
          refine z_cVv (c := 11) (n := 0) (Y1 := Y_X11_loseState) (st := []) e98 k98 z_cb11 (Nat.le_of_ble_eq_true rfl) rfl (s_X11_loseState k98 hP) rfl ⟨z_dc_X11_loseState, ⟨(Nat.le_of_ble_eq_true rfl), (Nat.le_of_ble_eq_true rfl)⟩, (Nat.le_of_ble_eq_true rfl)⟩ rfl zw_509 zw_510 zw_511 zw_1 zw_512 dL_law_649 (fun M_97 hP _ x97 => ?_)
          have k98 := x97.k (k := 11) hT97 k98
          have f_x2 := x97.t (k := 12) hT97 f_x2
          have f_x3 := x97.t (k := 24) hT97 f_x3
          refine z_pc (pc' := 652) rfl ?_
          refine z_aload_n dL_law_652 rfl 2 rfl ?_
          obtain ⟨a100, e100, hP⟩ := hP
          have k100 := f_x2 a100 e100
          refine z_wts (fun hT99 _ => ?_)
          refine z_cVv (c := 12) (n := 0) (Y1 := Y_X12_loseState) (st := []) e100 k100 z_cb12 (Nat.le_of_ble_eq_true rfl) rfl (s_X12_loseState k100 hP) rfl ⟨z_dc_X12_loseState, ⟨(Nat.le_of_ble_eq_true rfl), (Nat.le_of_ble_eq_true rfl)⟩, (Nat.le_of_ble_eq_true rfl)⟩ rfl zw_1598 zw_1599 zw_1600 zw_12 zw_1601 dL_law_653 (fun M_99 hP _ x99 => ?_)
          have k98 := x99.k (k := 11) hT99 k98
          have k100 := x99.k (k := 12) hT99 k100
          have f_x3 := x99.t (k := 24) hT99 f_x3
          refine z_goto (tgt := 1514) dL_law_656 (by decide) ?_
          refine z_sub (lv' := [(0, z_O _), (1, z_O _), (2, z_O _), (3, z_O _), (4, z_I _)]) [0, 1, 2, 3, 4] rfl ?_
          exact v_L_law_1514 hl9 hkb (fun _ _ _ _ _ w0 w1 w2 hP => ih w0 w1 w2 hP) (z_trn e98 k98) (z_trn e100 k100) f_x3 hP
        · cases htg
          replace hP := hP.2.2.2.2.2.2.2.2.1 h36
          refine z_aload_n dL_law_659 rfl 1 rfl ?_
          refine z_aload_n dL_law_660 rfl 0 rfl ?_
          refine z_pc (pc' := 661) rfl ?_
          refine z_iload dL_law_661 4 rfl ?_
          refine z_iconst (v := 1) dL_law_663 (by decide) ?_
          refine z_iadd dL_law_664 ?_
          obtain ⟨i101, hP⟩ := hP
          refine z_sld hkb i101 dL_law_665 ?_
          refine z_wts (fun hT102 _ => ?_)
          refine z_cSHi (hh := hh_L_connect) (n := 2) (Y1 := Y_L_connect) (st := []) rfl (s_L_connect hl9 f_x1 hP) rfl ⟨z_dc_L_connect, ⟨(Nat.le_of_ble_eq_true rfl), (Nat.le_of_ble_eq_true rfl)⟩, (Nat.le_of_ble_eq_true rfl)⟩ rfl zw_757 zw_758 zw_0 zh_L_connect dL_law_666 (fun x_102 M_102 hP _ x102 => ?_)
          have f_x1 := x102.t (k := 11) hT102 f_x1
          have f_x2 := x102.t (k := 12) hT102 f_x2
          have f_x3 := x102.t (k := 24) hT102 f_x3
          refine z_istore (lv' := [(5, z_I _), (0, z_O _), (1, z_O _), (2, z_O _), (3, z_O _), (4, z_I _)]) dL_law_669 (Nat.le_of_ble_eq_true rfl) rfl ?_
          refine z_pc (pc' := 671) rfl ?_
          refine z_aload_n dL_law_671 rfl 3 rfl ?_
          refine z_aload_n dL_law_672 rfl 1 rfl ?_
          refine z_iload dL_law_673 5 rfl ?_
          refine z_iconst (v := 1) dL_law_675 (by decide) ?_
          refine z_iadd dL_law_676 ?_
          obtain ⟨i103, hP⟩ := hP
          refine z_sld hkb i103 dL_law_677 ?_
          refine z_pc (pc' := 678) rfl ?_
          obtain ⟨a105, e105, hP⟩ := hP
          have k105 := f_x2 a105 e105
          refine z_wts (fun hT104 _ => ?_)
          refine z_cVv (c := 12) (n := 1) (Y1 := Y_X12_connect) (st := []) e105 k105 z_cb12 (Nat.le_of_ble_eq_true rfl) rfl (s_X12_connect k105 hP) rfl ⟨z_dc_X12_connect, ⟨(Nat.le_of_ble_eq_true rfl), (Nat.le_of_ble_eq_true rfl)⟩, (Nat.le_of_ble_eq_true rfl)⟩ rfl zw_1602 zw_1603 zw_1604 zw_12 zw_1605 dL_law_678 (fun M_104 hP _ x104 => ?_)
          have f_x1 := x104.t (k := 11) hT104 f_x1
          have k105 := x104.k (k := 12) hT104 k105
          have f_x3 := x104.t (k := 24) hT104 f_x3
          refine z_aload_n dL_law_681 rfl 3 rfl ?_
          refine z_wts (fun hT106 _ => ?_)
          refine z_cVi (c := 12) (n := 0) (Y1 := Y_X12_thrown) (st := []) e105 k105 z_cb12 (Nat.le_of_ble_eq_true rfl) rfl (s_X12_thrown k105 hP) rfl ⟨z_dc_X12_thrown, ⟨(Nat.le_of_ble_eq_true rfl), (Nat.le_of_ble_eq_true rfl)⟩, (Nat.le_of_ble_eq_true rfl)⟩ rfl zw_1541 zw_1542 zw_1543 zw_12 zw_1544 dL_law_682 (fun x_106 M_106 hP _ x106 => ?_)
          have f_x1 := x106.t (k := 11) hT106 f_x1
          have k105 := x106.k (k := 12) hT106 k105
          have f_x3 := x106.t (k := 24) hT106 f_x3
          refine z_iload dL_law_685 0 rfl ?_
          refine z_icmp_eq (tgt := 692) dL_law_687 (by decide) (fun h107 => ?_) (fun h107 => ?_)
          · replace hP := hP.1 h107
            refine z_goto (tgt := 1514) dL_law_692 (by decide) ?_
            refine z_sub (lv' := [(0, z_O _), (1, z_O _), (2, z_O _), (3, z_O _), (4, z_I _)]) [1, 2, 3, 4, 5] rfl ?_
            exact v_L_law_1514 hl9 hkb (fun _ _ _ _ _ w0 w1 w2 hP => ih w0 w1 w2 hP) f_x1 (z_trn e105 k105) f_x3 hP
          · replace hP := hP.2 h107
            refine z_iconst (v := 0) dL_law_690 (by decide) ?_
            exact z_retb rfl (Or.inl rfl) dL_law_691 hP
        · cases htg
          replace hP := hP.2.2.2.2.2.2.2.2.2.1 h36
          refine z_aload_n dL_law_695 rfl 1 rfl ?_
          refine z_aload_n dL_law_696 rfl 0 rfl ?_
          refine z_pc (pc' := 697) rfl ?_
          refine z_iload dL_law_697 4 rfl ?_
          refine z_iconst (v := 1) dL_law_699 (by decide) ?_
          refine z_iadd dL_law_700 ?_
          obtain ⟨i108, hP⟩ := hP
          refine z_sld hkb i108 dL_law_701 ?_
          refine z_aload_n dL_law_702 rfl 0 rfl ?_
          refine z_iload dL_law_703 4 rfl ?_
          refine z_pc (pc' := 705) rfl ?_
          refine z_iconst (v := 2) dL_law_705 (by decide) ?_
          refine z_iadd dL_law_706 ?_
          obtain ⟨i109, hP⟩ := hP
          refine z_sld hkb i109 dL_law_707 ?_
          refine z_aload_n dL_law_708 rfl 3 rfl ?_
          refine z_wts (fun hT110 _ => ?_)
          refine z_cSHi (hh := hh_L_write) (n := 4) (Y1 := Y_L_write) (st := []) rfl (s_L_write hl9 f_x1 f_x3 hP) rfl ⟨z_dc_L_write, ⟨(Nat.le_of_ble_eq_true rfl), (Nat.le_of_ble_eq_true rfl)⟩, (Nat.le_of_ble_eq_true rfl)⟩ rfl zw_803 zw_804 zw_0 zh_L_write dL_law_709 (fun x_110 M_110 hP _ x110 => ?_)
          have f_x1 := x110.t (k := 11) hT110 f_x1
          have f_x2 := x110.t (k := 12) hT110 f_x2
          have f_x3 := x110.t (k := 24) hT110 f_x3
          refine z_istore (lv' := [(5, z_I _), (0, z_O _), (1, z_O _), (2, z_O _), (3, z_O _), (4, z_I _)]) dL_law_712 (Nat.le_of_ble_eq_true rfl) rfl ?_
          refine z_pc (pc' := 714) rfl ?_
          refine z_aload_n dL_law_714 rfl 3 rfl ?_
          refine z_aload_n dL_law_715 rfl 1 rfl ?_
          refine z_iload dL_law_716 5 rfl ?_
          refine z_iconst (v := 1) dL_law_718 (by decide) ?_
          refine z_iadd dL_law_719 ?_
          obtain ⟨i111, hP⟩ := hP
          refine z_sld hkb i111 dL_law_720 ?_
          refine z_pc (pc' := 721) rfl ?_
          refine z_aload_n dL_law_721 rfl 1 rfl ?_
          refine z_iload dL_law_722 5 rfl ?_
          refine z_iconst (v := 2) dL_law_724 (by decide) ?_
          refine z_iadd dL_law_725 ?_
          obtain ⟨i112, hP⟩ := hP
          refine z_sld hkb i112 dL_law_726 ?_
          obtain ⟨a114, e114, hP⟩ := hP
          have k114 := f_x2 a114 e114
          refine z_wts (fun hT113 _ => ?_)
          refine z_cVi (c := 12) (n := 2) (Y1 := Y_X12_write) (st := []) e114 k114 z_cb12 (Nat.le_of_ble_eq_true rfl) rfl (s_X12_write k114 hP) rfl ⟨z_dc_X12_write, ⟨(Nat.le_of_ble_eq_true rfl), (Nat.le_of_ble_eq_true rfl)⟩, (Nat.le_of_ble_eq_true rfl)⟩ rfl zw_1614 zw_1615 zw_1616 zw_12 zw_1617 dL_law_727 (fun x_113 M_113 hP _ x113 => ?_)
          have f_x1 := x113.t (k := 11) hT113 f_x1
          have k114 := x113.k (k := 12) hT113 k114
          have f_x3 := x113.t (k := 24) hT113 f_x3
          refine z_pc (pc' := 730) rfl ?_
          refine z_istore (lv' := [(6, z_I _), (5, z_I _), (0, z_O _), (1, z_O _), (2, z_O _), (3, z_O _), (4, z_I _)]) dL_law_730 (Nat.le_of_ble_eq_true rfl) rfl ?_
          refine z_aload_n dL_law_732 rfl 4 rfl ?_
          refine z_wts (fun hT115 _ => ?_)
          refine z_cVi (c := 12) (n := 0) (Y1 := Y_X12_thrown) (st := []) e114 k114 z_cb12 (Nat.le_of_ble_eq_true rfl) rfl (s_X12_thrown k114 hP) rfl ⟨z_dc_X12_thrown, ⟨(Nat.le_of_ble_eq_true rfl), (Nat.le_of_ble_eq_true rfl)⟩, (Nat.le_of_ble_eq_true rfl)⟩ rfl zw_1541 zw_1542 zw_1543 zw_12 zw_1544 dL_law_733 (fun x_115 M_115 hP _ x115 => ?_)
          have f_x1 := x115.t (k := 11) hT115 f_x1
          have k114 := x115.k (k := 12) hT115 k114
          have f_x3 := x115.t (k := 24) hT115 f_x3
          refine z_iload dL_law_736 1 rfl ?_
          refine z_icmp_eq (tgt := 743) dL_law_738 (by decide) (fun h116 => ?_) (fun h116 => ?_)
          · replace hP := hP.1 h116
            refine z_iload dL_law_743 1 rfl ?_
            refine z_if_ne (tgt := 760) dL_law_745 (by decide) (fun h117 => ?_) (fun h117 => ?_)
            · replace hP := hP.2 h117
              refine z_sub (lv' := [(0, z_O _), (1, z_O _), (2, z_O _), (3, z_O _), (4, z_I _)]) [2, 3, 4, 5, 6] rfl ?_
              exact v_L_law_760 hl9 hkb (fun _ _ _ _ _ w0 w1 w2 hP => ih w0 w1 w2 hP) f_x1 (z_trn e114 k114) f_x3 hP
            · replace hP := hP.1 h117
              refine z_aload_n dL_law_748 rfl 5 rfl ?_
              refine z_pc (pc' := 749) rfl ?_
              refine z_iconst (v := 0) dL_law_749 (by decide) ?_
              obtain ⟨a118, e118, hP⟩ := hP
              have k118 := f_x3 a118 e118
              obtain ⟨i119, hP⟩ := hP
              refine z_lald e118 k118 i119 dL_law_750 ?_
              refine z_iload dL_law_751 0 rfl ?_
              refine z_i2l dL_law_753 ?_
              refine z_lcmp dL_law_754 ?_
              refine z_if_eq (tgt := 760) dL_law_755 (by decide) (fun h120 => ?_) (fun h120 => ?_)
              · replace hP := hP.1 h120
                refine z_sub (lv' := [(0, z_O _), (1, z_O _), (2, z_O _), (3, z_O _), (4, z_I _)]) [2, 3, 4, 5, 6] rfl ?_
                exact v_L_law_760 hl9 hkb (fun _ _ _ _ _ w0 w1 w2 hP => ih w0 w1 w2 hP) f_x1 (z_trn e114 k114) (z_trn e118 k118) hP
              · replace hP := hP.2 h120
                refine z_iconst (v := 0) dL_law_758 (by decide) ?_
                refine z_pc (pc' := 759) rfl ?_
                exact z_retb rfl (Or.inl rfl) dL_law_759 hP
          · replace hP := hP.2 h116
            refine z_iconst (v := 0) dL_law_741 (by decide) ?_
            exact z_retb rfl (Or.inl rfl) dL_law_742 hP
        · cases htg
          replace hP := hP.2.2.2.2.2.2.2.2.2.2.1 h36
          refine z_aload_n dL_law_763 rfl 1 rfl ?_
          refine z_aload_n dL_law_764 rfl 0 rfl ?_
          refine z_pc (pc' := 765) rfl ?_
          refine z_iload dL_law_765 4 rfl ?_
          refine z_iconst (v := 1) dL_law_767 (by decide) ?_
          refine z_iadd dL_law_768 ?_
          obtain ⟨i121, hP⟩ := hP
          refine z_sld hkb i121 dL_law_769 ?_
          refine z_aload_n dL_law_770 rfl 0 rfl ?_
          refine z_iload dL_law_771 4 rfl ?_
          refine z_pc (pc' := 773) rfl ?_
          refine z_iconst (v := 2) dL_law_773 (by decide) ?_
          refine z_iadd dL_law_774 ?_
          obtain ⟨i122, hP⟩ := hP
          refine z_sld hkb i122 dL_law_775 ?_
          refine z_aload_n dL_law_776 rfl 3 rfl ?_
          refine z_wts (fun hT123 _ => ?_)
          refine z_cSHi (hh := hh_L_setWay) (n := 4) (Y1 := Y_L_setWay) (st := []) rfl (s_L_setWay hl9 f_x1 f_x3 hP) rfl ⟨z_dc_L_setWay, ⟨(Nat.le_of_ble_eq_true rfl), (Nat.le_of_ble_eq_true rfl)⟩, (Nat.le_of_ble_eq_true rfl)⟩ rfl zw_810 zw_811 zw_0 zh_L_setWay dL_law_777 (fun x_123 M_123 hP _ x123 => ?_)
          have f_x1 := x123.t (k := 11) hT123 f_x1
          have f_x2 := x123.t (k := 12) hT123 f_x2
          have f_x3 := x123.t (k := 24) hT123 f_x3
          refine z_istore (lv' := [(5, z_I _), (0, z_O _), (1, z_O _), (2, z_O _), (3, z_O _), (4, z_I _)]) dL_law_780 (Nat.le_of_ble_eq_true rfl) rfl ?_
          refine z_pc (pc' := 782) rfl ?_
          refine z_aload_n dL_law_782 rfl 3 rfl ?_
          refine z_aload_n dL_law_783 rfl 1 rfl ?_
          refine z_iload dL_law_784 5 rfl ?_
          refine z_iconst (v := 1) dL_law_786 (by decide) ?_
          refine z_iadd dL_law_787 ?_
          obtain ⟨i124, hP⟩ := hP
          refine z_sld hkb i124 dL_law_788 ?_
          refine z_pc (pc' := 789) rfl ?_
          refine z_aload_n dL_law_789 rfl 1 rfl ?_
          refine z_iload dL_law_790 5 rfl ?_
          refine z_iconst (v := 2) dL_law_792 (by decide) ?_
          refine z_iadd dL_law_793 ?_
          obtain ⟨i125, hP⟩ := hP
          refine z_sld hkb i125 dL_law_794 ?_
          obtain ⟨a127, e127, hP⟩ := hP
          have k127 := f_x2 a127 e127
          refine z_wts (fun hT126 _ => ?_)
          refine z_cVi (c := 12) (n := 2) (Y1 := Y_X12_setWay) (st := []) e127 k127 z_cb12 (Nat.le_of_ble_eq_true rfl) rfl (s_X12_setWay k127 hP) rfl ⟨z_dc_X12_setWay, ⟨(Nat.le_of_ble_eq_true rfl), (Nat.le_of_ble_eq_true rfl)⟩, (Nat.le_of_ble_eq_true rfl)⟩ rfl zw_1618 zw_1619 zw_1620 zw_12 zw_1621 dL_law_795 (fun x_126 M_126 hP _ x126 => ?_)
          have f_x1 := x126.t (k := 11) hT126 f_x1
          have k127 := x126.k (k := 12) hT126 k127
          have f_x3 := x126.t (k := 24) hT126 f_x3
          refine z_pc (pc' := 798) rfl ?_
          refine z_istore (lv' := [(6, z_I _), (5, z_I _), (0, z_O _), (1, z_O _), (2, z_O _), (3, z_O _), (4, z_I _)]) dL_law_798 (Nat.le_of_ble_eq_true rfl) rfl ?_
          refine z_aload_n dL_law_800 rfl 4 rfl ?_
          refine z_wts (fun hT128 _ => ?_)
          refine z_cVi (c := 12) (n := 0) (Y1 := Y_X12_thrown) (st := []) e127 k127 z_cb12 (Nat.le_of_ble_eq_true rfl) rfl (s_X12_thrown k127 hP) rfl ⟨z_dc_X12_thrown, ⟨(Nat.le_of_ble_eq_true rfl), (Nat.le_of_ble_eq_true rfl)⟩, (Nat.le_of_ble_eq_true rfl)⟩ rfl zw_1541 zw_1542 zw_1543 zw_12 zw_1544 dL_law_801 (fun x_128 M_128 hP _ x128 => ?_)
          have f_x1 := x128.t (k := 11) hT128 f_x1
          have k127 := x128.k (k := 12) hT128 k127
          have f_x3 := x128.t (k := 24) hT128 f_x3
          refine z_iload dL_law_804 1 rfl ?_
          refine z_icmp_eq (tgt := 811) dL_law_806 (by decide) (fun h129 => ?_) (fun h129 => ?_)
          · replace hP := hP.1 h129
            refine z_iload dL_law_811 1 rfl ?_
            refine z_if_ne (tgt := 828) dL_law_813 (by decide) (fun h130 => ?_) (fun h130 => ?_)
            · replace hP := hP.2 h130
              refine z_sub (lv' := [(0, z_O _), (1, z_O _), (2, z_O _), (3, z_O _), (4, z_I _)]) [2, 3, 4, 5, 6] rfl ?_
              exact v_L_law_828 hl9 hkb (fun _ _ _ _ _ w0 w1 w2 hP => ih w0 w1 w2 hP) f_x1 (z_trn e127 k127) f_x3 hP
            · replace hP := hP.1 h130
              refine z_aload_n dL_law_816 rfl 5 rfl ?_
              refine z_pc (pc' := 817) rfl ?_
              refine z_iconst (v := 0) dL_law_817 (by decide) ?_
              obtain ⟨a131, e131, hP⟩ := hP
              have k131 := f_x3 a131 e131
              obtain ⟨i132, hP⟩ := hP
              refine z_lald e131 k131 i132 dL_law_818 ?_
              refine z_iload dL_law_819 0 rfl ?_
              refine z_i2l dL_law_821 ?_
              refine z_lcmp dL_law_822 ?_
              refine z_if_eq (tgt := 828) dL_law_823 (by decide) (fun h133 => ?_) (fun h133 => ?_)
              · replace hP := hP.1 h133
                refine z_sub (lv' := [(0, z_O _), (1, z_O _), (2, z_O _), (3, z_O _), (4, z_I _)]) [2, 3, 4, 5, 6] rfl ?_
                exact v_L_law_828 hl9 hkb (fun _ _ _ _ _ w0 w1 w2 hP => ih w0 w1 w2 hP) f_x1 (z_trn e127 k127) (z_trn e131 k131) hP
              · replace hP := hP.2 h133
                refine z_iconst (v := 0) dL_law_826 (by decide) ?_
                refine z_pc (pc' := 827) rfl ?_
                exact z_retb rfl (Or.inl rfl) dL_law_827 hP
          · replace hP := hP.2 h129
            refine z_iconst (v := 0) dL_law_809 (by decide) ?_
            exact z_retb rfl (Or.inl rfl) dL_law_810 hP
        · cases htg
          replace hP := hP.2.2.2.2.2.2.2.2.2.2.2.1 h36
          refine z_aload_n dL_law_831 rfl 1 rfl ?_
          refine z_aload_n dL_law_832 rfl 0 rfl ?_
          refine z_pc (pc' := 833) rfl ?_
          refine z_iload dL_law_833 4 rfl ?_
          refine z_iconst (v := 1) dL_law_835 (by decide) ?_
          refine z_iadd dL_law_836 ?_
          obtain ⟨i134, hP⟩ := hP
          refine z_sld hkb i134 dL_law_837 ?_
          refine z_wts (fun hT135 _ => ?_)
          refine z_cSHi (hh := hh_L_check) (n := 2) (Y1 := Y_L_check) (st := []) rfl (s_L_check hl9 f_x1 hP) rfl ⟨z_dc_L_check, ⟨(Nat.le_of_ble_eq_true rfl), (Nat.le_of_ble_eq_true rfl)⟩, (Nat.le_of_ble_eq_true rfl)⟩ rfl zw_821 zw_822 zw_0 zh_L_check dL_law_838 (fun x_135 M_135 hP _ x135 => ?_)
          have f_x1 := x135.t (k := 11) hT135 f_x1
          have f_x2 := x135.t (k := 12) hT135 f_x2
          have f_x3 := x135.t (k := 24) hT135 f_x3
          refine z_istore (lv' := [(5, z_I _), (0, z_O _), (1, z_O _), (2, z_O _), (3, z_O _), (4, z_I _)]) dL_law_841 (Nat.le_of_ble_eq_true rfl) rfl ?_
          refine z_pc (pc' := 843) rfl ?_
          refine z_aload_n dL_law_843 rfl 3 rfl ?_
          refine z_aload_n dL_law_844 rfl 1 rfl ?_
          refine z_iload dL_law_845 5 rfl ?_
          refine z_iconst (v := 1) dL_law_847 (by decide) ?_
          refine z_iadd dL_law_848 ?_
          obtain ⟨i136, hP⟩ := hP
          refine z_sld hkb i136 dL_law_849 ?_
          refine z_pc (pc' := 850) rfl ?_
          obtain ⟨a138, e138, hP⟩ := hP
          have k138 := f_x2 a138 e138
          refine z_wts (fun hT137 _ => ?_)
          refine z_cVv (c := 12) (n := 1) (Y1 := Y_X12_check) (st := []) e138 k138 z_cb12 (Nat.le_of_ble_eq_true rfl) rfl (s_X12_check k138 hP) rfl ⟨z_dc_X12_check, ⟨(Nat.le_of_ble_eq_true rfl), (Nat.le_of_ble_eq_true rfl)⟩, (Nat.le_of_ble_eq_true rfl)⟩ rfl zw_1622 zw_1623 zw_1624 zw_12 zw_1625 dL_law_850 (fun M_137 hP _ x137 => ?_)
          have f_x1 := x137.t (k := 11) hT137 f_x1
          have k138 := x137.k (k := 12) hT137 k138
          have f_x3 := x137.t (k := 24) hT137 f_x3
          refine z_aload_n dL_law_853 rfl 3 rfl ?_
          refine z_wts (fun hT139 _ => ?_)
          refine z_cVi (c := 12) (n := 0) (Y1 := Y_X12_thrown) (st := []) e138 k138 z_cb12 (Nat.le_of_ble_eq_true rfl) rfl (s_X12_thrown k138 hP) rfl ⟨z_dc_X12_thrown, ⟨(Nat.le_of_ble_eq_true rfl), (Nat.le_of_ble_eq_true rfl)⟩, (Nat.le_of_ble_eq_true rfl)⟩ rfl zw_1541 zw_1542 zw_1543 zw_12 zw_1544 dL_law_854 (fun x_139 M_139 hP _ x139 => ?_)
          have f_x1 := x139.t (k := 11) hT139 f_x1
          have k138 := x139.k (k := 12) hT139 k138
          have f_x3 := x139.t (k := 24) hT139 f_x3
          refine z_iload dL_law_857 0 rfl ?_
          refine z_icmp_eq (tgt := 864) dL_law_859 (by decide) (fun h140 => ?_) (fun h140 => ?_)
          · replace hP := hP.1 h140
            refine z_goto (tgt := 1514) dL_law_864 (by decide) ?_
            refine z_sub (lv' := [(0, z_O _), (1, z_O _), (2, z_O _), (3, z_O _), (4, z_I _)]) [1, 2, 3, 4, 5] rfl ?_
            exact v_L_law_1514 hl9 hkb (fun _ _ _ _ _ w0 w1 w2 hP => ih w0 w1 w2 hP) f_x1 (z_trn e138 k138) f_x3 hP
          · replace hP := hP.2 h140
            refine z_iconst (v := 0) dL_law_862 (by decide) ?_
            exact z_retb rfl (Or.inl rfl) dL_law_863 hP
        · cases htg
          replace hP := hP.2.2.2.2.2.2.2.2.2.2.2.2.1 h36
          refine z_aload_n dL_law_867 rfl 1 rfl ?_
          refine z_aload_n dL_law_868 rfl 0 rfl ?_
          refine z_pc (pc' := 869) rfl ?_
          refine z_iload dL_law_869 4 rfl ?_
          refine z_iconst (v := 1) dL_law_871 (by decide) ?_
          refine z_iadd dL_law_872 ?_
          obtain ⟨i141, hP⟩ := hP
          refine z_sld hkb i141 dL_law_873 ?_
          refine z_aload_n dL_law_874 rfl 3 rfl ?_
          refine z_wts (fun hT142 _ => ?_)
          refine z_cSHi (hh := hh_L_use) (n := 3) (Y1 := Y_L_use) (st := []) rfl (s_L_use hl9 f_x1 f_x3 hP) rfl ⟨z_dc_L_use, ⟨(Nat.le_of_ble_eq_true rfl), (Nat.le_of_ble_eq_true rfl)⟩, (Nat.le_of_ble_eq_true rfl)⟩ rfl zw_831 zw_832 zw_0 zh_L_use dL_law_875 (fun x_142 M_142 hP _ x142 => ?_)
          have f_x1 := x142.t (k := 11) hT142 f_x1
          have f_x2 := x142.t (k := 12) hT142 f_x2
          have f_x3 := x142.t (k := 24) hT142 f_x3
          refine z_pc (pc' := 878) rfl ?_
          refine z_istore (lv' := [(5, z_I _), (0, z_O _), (1, z_O _), (2, z_O _), (3, z_O _), (4, z_I _)]) dL_law_878 (Nat.le_of_ble_eq_true rfl) rfl ?_
          refine z_aload_n dL_law_880 rfl 3 rfl ?_
          refine z_aload_n dL_law_881 rfl 1 rfl ?_
          refine z_iload dL_law_882 5 rfl ?_
          refine z_iconst (v := 1) dL_law_884 (by decide) ?_
          refine z_iadd dL_law_885 ?_
          refine z_pc (pc' := 886) rfl ?_
          obtain ⟨i143, hP⟩ := hP
          refine z_sld hkb i143 dL_law_886 ?_
          obtain ⟨a145, e145, hP⟩ := hP
          have k145 := f_x2 a145 e145
          refine z_wts (fun hT144 _ => ?_)
          refine z_cVi (c := 12) (n := 1) (Y1 := Y_X12_use) (st := []) e145 k145 z_cb12 (Nat.le_of_ble_eq_true rfl) rfl (s_X12_use k145 hP) rfl ⟨z_dc_X12_use, ⟨(Nat.le_of_ble_eq_true rfl), (Nat.le_of_ble_eq_true rfl)⟩, (Nat.le_of_ble_eq_true rfl)⟩ rfl zw_1626 zw_1627 zw_1628 zw_12 zw_1629 dL_law_887 (fun x_144 M_144 hP _ x144 => ?_)
          have f_x1 := x144.t (k := 11) hT144 f_x1
          have k145 := x144.k (k := 12) hT144 k145
          have f_x3 := x144.t (k := 24) hT144 f_x3
          refine z_istore (lv' := [(6, z_I _), (5, z_I _), (0, z_O _), (1, z_O _), (2, z_O _), (3, z_O _), (4, z_I _)]) dL_law_890 (Nat.le_of_ble_eq_true rfl) rfl ?_
          refine z_aload_n dL_law_892 rfl 4 rfl ?_
          refine z_wts (fun hT146 _ => ?_)
          refine z_cVi (c := 12) (n := 0) (Y1 := Y_X12_thrown) (st := []) e145 k145 z_cb12 (Nat.le_of_ble_eq_true rfl) rfl (s_X12_thrown k145 hP) rfl ⟨z_dc_X12_thrown, ⟨(Nat.le_of_ble_eq_true rfl), (Nat.le_of_ble_eq_true rfl)⟩, (Nat.le_of_ble_eq_true rfl)⟩ rfl zw_1541 zw_1542 zw_1543 zw_12 zw_1544 dL_law_893 (fun x_146 M_146 hP _ x146 => ?_)
          have f_x1 := x146.t (k := 11) hT146 f_x1
          have k145 := x146.k (k := 12) hT146 k145
          have f_x3 := x146.t (k := 24) hT146 f_x3
          refine z_iload dL_law_896 1 rfl ?_
          refine z_pc (pc' := 898) rfl ?_
          refine z_icmp_eq (tgt := 903) dL_law_898 (by decide) (fun h147 => ?_) (fun h147 => ?_)
          · replace hP := hP.1 h147
            refine z_iload dL_law_903 1 rfl ?_
            refine z_if_ne (tgt := 920) dL_law_905 (by decide) (fun h148 => ?_) (fun h148 => ?_)
            · replace hP := hP.2 h148
              refine z_sub (lv' := [(0, z_O _), (1, z_O _), (2, z_O _), (3, z_O _), (4, z_I _)]) [2, 3, 4, 5, 6] rfl ?_
              exact v_L_law_920 hl9 hkb (fun _ _ _ _ _ w0 w1 w2 hP => ih w0 w1 w2 hP) f_x1 (z_trn e145 k145) f_x3 hP
            · replace hP := hP.1 h148
              refine z_aload_n dL_law_908 rfl 5 rfl ?_
              refine z_iconst (v := 0) dL_law_909 (by decide) ?_
              obtain ⟨a149, e149, hP⟩ := hP
              have k149 := f_x3 a149 e149
              obtain ⟨i150, hP⟩ := hP
              refine z_lald e149 k149 i150 dL_law_910 ?_
              refine z_iload dL_law_911 0 rfl ?_
              refine z_i2l dL_law_913 ?_
              refine z_pc (pc' := 914) rfl ?_
              refine z_lcmp dL_law_914 ?_
              refine z_if_eq (tgt := 920) dL_law_915 (by decide) (fun h151 => ?_) (fun h151 => ?_)
              · replace hP := hP.1 h151
                refine z_sub (lv' := [(0, z_O _), (1, z_O _), (2, z_O _), (3, z_O _), (4, z_I _)]) [2, 3, 4, 5, 6] rfl ?_
                exact v_L_law_920 hl9 hkb (fun _ _ _ _ _ w0 w1 w2 hP => ih w0 w1 w2 hP) f_x1 (z_trn e145 k145) (z_trn e149 k149) hP
              · replace hP := hP.2 h151
                refine z_iconst (v := 0) dL_law_918 (by decide) ?_
                exact z_retb rfl (Or.inl rfl) dL_law_919 hP
          · replace hP := hP.2 h147
            refine z_iconst (v := 0) dL_law_901 (by decide) ?_
            exact z_retb rfl (Or.inl rfl) dL_law_902 hP
        · cases htg
          replace hP := hP.2.2.2.2.2.2.2.2.2.2.2.2.2.1 h36
          refine z_aload_n dL_law_923 rfl 1 rfl ?_
          refine z_aload_n dL_law_924 rfl 3 rfl ?_
          refine z_pc (pc' := 925) rfl ?_
          refine z_wts (fun hT152 _ => ?_)
          refine z_cSHi (hh := hh_L_changeKey) (n := 2) (Y1 := Y_L_changeKey) (st := []) rfl (s_L_changeKey hl9 f_x1 f_x3 hP) rfl ⟨z_dc_L_changeKey, ⟨(Nat.le_of_ble_eq_true rfl), (Nat.le_of_ble_eq_true rfl)⟩, (Nat.le_of_ble_eq_true rfl)⟩ rfl zw_838 zw_839 zw_0 zh_L_changeKey dL_law_925 (fun x_152 M_152 hP _ x152 => ?_)
          have f_x1 := x152.t (k := 11) hT152 f_x1
          have f_x2 := x152.t (k := 12) hT152 f_x2
          have f_x3 := x152.t (k := 24) hT152 f_x3
          refine z_istore (lv' := [(5, z_I _), (0, z_O _), (1, z_O _), (2, z_O _), (3, z_O _), (4, z_I _)]) dL_law_928 (Nat.le_of_ble_eq_true rfl) rfl ?_
          refine z_aload_n dL_law_930 rfl 3 rfl ?_
          obtain ⟨a154, e154, hP⟩ := hP
          have k154 := f_x2 a154 e154
          refine z_wts (fun hT153 _ => ?_)
          refine z_cVi (c := 12) (n := 0) (Y1 := Y_X12_changeKey) (st := []) e154 k154 z_cb12 (Nat.le_of_ble_eq_true rfl) rfl (s_X12_changeKey k154 hP) rfl ⟨z_dc_X12_changeKey, ⟨(Nat.le_of_ble_eq_true rfl), (Nat.le_of_ble_eq_true rfl)⟩, (Nat.le_of_ble_eq_true rfl)⟩ rfl zw_1630 zw_1631 zw_1632 zw_12 zw_1633 dL_law_931 (fun x_153 M_153 hP _ x153 => ?_)
          have f_x1 := x153.t (k := 11) hT153 f_x1
          have k154 := x153.k (k := 12) hT153 k154
          have f_x3 := x153.t (k := 24) hT153 f_x3
          refine z_istore (lv' := [(6, z_I _), (5, z_I _), (0, z_O _), (1, z_O _), (2, z_O _), (3, z_O _), (4, z_I _)]) dL_law_934 (Nat.le_of_ble_eq_true rfl) rfl ?_
          refine z_aload_n dL_law_936 rfl 4 rfl ?_
          refine z_pc (pc' := 937) rfl ?_
          refine z_wts (fun hT155 _ => ?_)
          refine z_cVi (c := 12) (n := 0) (Y1 := Y_X12_thrown) (st := []) e154 k154 z_cb12 (Nat.le_of_ble_eq_true rfl) rfl (s_X12_thrown k154 hP) rfl ⟨z_dc_X12_thrown, ⟨(Nat.le_of_ble_eq_true rfl), (Nat.le_of_ble_eq_true rfl)⟩, (Nat.le_of_ble_eq_true rfl)⟩ rfl zw_1541 zw_1542 zw_1543 zw_12 zw_1544 dL_law_937 (fun x_155 M_155 hP _ x155 => ?_)
          have f_x1 := x155.t (k := 11) hT155 f_x1
          have k154 := x155.k (k := 12) hT155 k154
          have f_x3 := x155.t (k := 24) hT155 f_x3
          refine z_iload dL_law_940 1 rfl ?_
          refine z_icmp_eq (tgt := 947) dL_law_942 (by decide) (fun h156 => ?_) (fun h156 => ?_)
          · replace hP := hP.1 h156
            refine z_iload dL_law_947 1 rfl ?_
            refine z_if_ne (tgt := 964) dL_law_949 (by decide) (fun h157 => ?_) (fun h157 => ?_)
            · replace hP := hP.2 h157
              refine z_sub (lv' := [(0, z_O _), (1, z_O _), (2, z_O _), (3, z_O _), (4, z_I _)]) [2, 3, 4, 5, 6] rfl ?_
              exact v_L_law_964 hl9 hkb (fun _ _ _ _ _ w0 w1 w2 hP => ih w0 w1 w2 hP) f_x1 (z_trn e154 k154) f_x3 hP
            · replace hP := hP.1 h157
              refine z_aload_n dL_law_952 rfl 5 rfl ?_
              refine z_iconst (v := 0) dL_law_953 (by decide) ?_
              obtain ⟨a158, e158, hP⟩ := hP
              have k158 := f_x3 a158 e158
              obtain ⟨i159, hP⟩ := hP
              refine z_lald e158 k158 i159 dL_law_954 ?_
              refine z_pc (pc' := 955) rfl ?_
              refine z_iload dL_law_955 0 rfl ?_
              refine z_i2l dL_law_957 ?_
              refine z_lcmp dL_law_958 ?_
              refine z_if_eq (tgt := 964) dL_law_959 (by decide) (fun h160 => ?_) (fun h160 => ?_)
              · replace hP := hP.1 h160
                refine z_sub (lv' := [(0, z_O _), (1, z_O _), (2, z_O _), (3, z_O _), (4, z_I _)]) [2, 3, 4, 5, 6] rfl ?_
                exact v_L_law_964 hl9 hkb (fun _ _ _ _ _ w0 w1 w2 hP => ih w0 w1 w2 hP) f_x1 (z_trn e154 k154) (z_trn e158 k158) hP
              · replace hP := hP.2 h160
                refine z_iconst (v := 0) dL_law_962 (by decide) ?_
                exact z_retb rfl (Or.inl rfl) dL_law_963 hP
          · replace hP := hP.2 h156
            refine z_iconst (v := 0) dL_law_945 (by decide) ?_
            exact z_retb rfl (Or.inl rfl) dL_law_946 hP
        · cases htg
          replace hP := hP.2.2.2.2.2.2.2.2.2.2.2.2.2.2.1 h36
          refine z_aload_n dL_law_967 rfl 1 rfl ?_
          refine z_wts (fun hT161 _ => ?_)
          refine z_cSHi (hh := hh_L_close) (n := 1) (Y1 := Y_L_close) (st := []) rfl (s_L_close hl9 f_x1 hP) rfl ⟨z_dc_L_close, ⟨(Nat.le_of_ble_eq_true rfl), (Nat.le_of_ble_eq_true rfl)⟩, (Nat.le_of_ble_eq_true rfl)⟩ rfl zw_856 zw_857 zw_0 zh_L_close dL_law_968 (fun x_161 M_161 hP _ x161 => ?_)
          have f_x1 := x161.t (k := 11) hT161 f_x1
          have f_x2 := x161.t (k := 12) hT161 f_x2
          have f_x3 := x161.t (k := 24) hT161 f_x3
          refine z_pc (pc' := 971) rfl ?_
          refine z_istore (lv' := [(5, z_I _), (0, z_O _), (1, z_O _), (2, z_O _), (3, z_O _), (4, z_I _)]) dL_law_971 (Nat.le_of_ble_eq_true rfl) rfl ?_
          refine z_aload_n dL_law_973 rfl 3 rfl ?_
          obtain ⟨a163, e163, hP⟩ := hP
          have k163 := f_x2 a163 e163
          refine z_wts (fun hT162 _ => ?_)
          refine z_cVv (c := 12) (n := 0) (Y1 := Y_X12_close) (st := []) e163 k163 z_cb12 (Nat.le_of_ble_eq_true rfl) rfl (s_X12_close k163 hP) rfl ⟨z_dc_X12_close, ⟨(Nat.le_of_ble_eq_true rfl), (Nat.le_of_ble_eq_true rfl)⟩, (Nat.le_of_ble_eq_true rfl)⟩ rfl zw_1634 zw_1635 zw_1636 zw_12 zw_1637 dL_law_974 (fun M_162 hP _ x162 => ?_)
          have f_x1 := x162.t (k := 11) hT162 f_x1
          have k163 := x162.k (k := 12) hT162 k163
          have f_x3 := x162.t (k := 24) hT162 f_x3
          refine z_aload_n dL_law_977 rfl 3 rfl ?_
          refine z_wts (fun hT164 _ => ?_)
          refine z_cVi (c := 12) (n := 0) (Y1 := Y_X12_thrown) (st := []) e163 k163 z_cb12 (Nat.le_of_ble_eq_true rfl) rfl (s_X12_thrown k163 hP) rfl ⟨z_dc_X12_thrown, ⟨(Nat.le_of_ble_eq_true rfl), (Nat.le_of_ble_eq_true rfl)⟩, (Nat.le_of_ble_eq_true rfl)⟩ rfl zw_1541 zw_1542 zw_1543 zw_12 zw_1544 dL_law_978 (fun x_164 M_164 hP _ x164 => ?_)
          have f_x1 := x164.t (k := 11) hT164 f_x1
          have k163 := x164.k (k := 12) hT164 k163
          have f_x3 := x164.t (k := 24) hT164 f_x3
          refine z_iload dL_law_981 0 rfl ?_
          refine z_pc (pc' := 983) rfl ?_
          refine z_icmp_eq (tgt := 988) dL_law_983 (by decide) (fun h165 => ?_) (fun h165 => ?_)
          · replace hP := hP.1 h165
            refine z_goto (tgt := 1514) dL_law_988 (by decide) ?_
            refine z_sub (lv' := [(0, z_O _), (1, z_O _), (2, z_O _), (3, z_O _), (4, z_I _)]) [1, 2, 3, 4, 5] rfl ?_
            exact v_L_law_1514 hl9 hkb (fun _ _ _ _ _ w0 w1 w2 hP => ih w0 w1 w2 hP) f_x1 (z_trn e163 k163) f_x3 hP
          · replace hP := hP.2 h165
            refine z_iconst (v := 0) dL_law_986 (by decide) ?_
            exact z_retb rfl (Or.inl rfl) dL_law_987 hP
        · cases htg
          replace hP := hP.2.2.2.2.2.2.2.2.2.2.2.2.2.2.2.1 h36
          refine z_aload_n dL_law_991 rfl 1 rfl ?_
          refine z_aload_n dL_law_992 rfl 0 rfl ?_
          refine z_pc (pc' := 993) rfl ?_
          refine z_iload dL_law_993 4 rfl ?_
          refine z_iconst (v := 1) dL_law_995 (by decide) ?_
          refine z_iadd dL_law_996 ?_
          obtain ⟨i166, hP⟩ := hP
          refine z_sld hkb i166 dL_law_997 ?_
          refine z_aload_n dL_law_998 rfl 3 rfl ?_
          refine z_wts (fun hT167 _ => ?_)
          refine z_cSHi (hh := hh_L_tick) (n := 3) (Y1 := Y_L_tick) (st := []) rfl (s_L_tick hl9 f_x1 f_x3 hP) rfl ⟨z_dc_L_tick, ⟨(Nat.le_of_ble_eq_true rfl), (Nat.le_of_ble_eq_true rfl)⟩, (Nat.le_of_ble_eq_true rfl)⟩ rfl zw_867 zw_868 zw_0 zh_L_tick dL_law_999 (fun x_167 M_167 hP _ x167 => ?_)
          have f_x1 := x167.t (k := 11) hT167 f_x1
          have f_x2 := x167.t (k := 12) hT167 f_x2
          have f_x3 := x167.t (k := 24) hT167 f_x3
          refine z_pc (pc' := 1002) rfl ?_
          refine z_istore (lv' := [(5, z_I _), (0, z_O _), (1, z_O _), (2, z_O _), (3, z_O _), (4, z_I _)]) dL_law_1002 (Nat.le_of_ble_eq_true rfl) rfl ?_
          refine z_aload_n dL_law_1004 rfl 3 rfl ?_
          refine z_aload_n dL_law_1005 rfl 1 rfl ?_
          refine z_iload dL_law_1006 5 rfl ?_
          refine z_iconst (v := 1) dL_law_1008 (by decide) ?_
          refine z_iadd dL_law_1009 ?_
          refine z_pc (pc' := 1010) rfl ?_
          obtain ⟨i168, hP⟩ := hP
          refine z_sld hkb i168 dL_law_1010 ?_
          obtain ⟨a170, e170, hP⟩ := hP
          have k170 := f_x2 a170 e170
          refine z_wts (fun hT169 _ => ?_)
          refine z_cVi (c := 12) (n := 1) (Y1 := Y_X12_tick) (st := []) e170 k170 z_cb12 (Nat.le_of_ble_eq_true rfl) rfl (s_X12_tick k170 hP) rfl ⟨z_dc_X12_tick, ⟨(Nat.le_of_ble_eq_true rfl), (Nat.le_of_ble_eq_true rfl)⟩, (Nat.le_of_ble_eq_true rfl)⟩ rfl zw_1638 zw_1639 zw_1640 zw_12 zw_1641 dL_law_1011 (fun x_169 M_169 hP _ x169 => ?_)
          have f_x1 := x169.t (k := 11) hT169 f_x1
          have k170 := x169.k (k := 12) hT169 k170
          have f_x3 := x169.t (k := 24) hT169 f_x3
          refine z_istore (lv' := [(6, z_I _), (5, z_I _), (0, z_O _), (1, z_O _), (2, z_O _), (3, z_O _), (4, z_I _)]) dL_law_1014 (Nat.le_of_ble_eq_true rfl) rfl ?_
          refine z_aload_n dL_law_1016 rfl 4 rfl ?_
          refine z_wts (fun hT171 _ => ?_)
          refine z_cVi (c := 12) (n := 0) (Y1 := Y_X12_thrown) (st := []) e170 k170 z_cb12 (Nat.le_of_ble_eq_true rfl) rfl (s_X12_thrown k170 hP) rfl ⟨z_dc_X12_thrown, ⟨(Nat.le_of_ble_eq_true rfl), (Nat.le_of_ble_eq_true rfl)⟩, (Nat.le_of_ble_eq_true rfl)⟩ rfl zw_1541 zw_1542 zw_1543 zw_12 zw_1544 dL_law_1017 (fun x_171 M_171 hP _ x171 => ?_)
          have f_x1 := x171.t (k := 11) hT171 f_x1
          have k170 := x171.k (k := 12) hT171 k170
          have f_x3 := x171.t (k := 24) hT171 f_x3
          refine z_iload dL_law_1020 1 rfl ?_
          refine z_pc (pc' := 1022) rfl ?_
          refine z_icmp_eq (tgt := 1027) dL_law_1022 (by decide) (fun h172 => ?_) (fun h172 => ?_)
          · replace hP := hP.1 h172
            refine z_iload dL_law_1027 1 rfl ?_
            refine z_if_ne (tgt := 1044) dL_law_1029 (by decide) (fun h173 => ?_) (fun h173 => ?_)
            · replace hP := hP.2 h173
              refine z_sub (lv' := [(0, z_O _), (1, z_O _), (2, z_O _), (3, z_O _), (4, z_I _)]) [2, 3, 4, 5, 6] rfl ?_
              exact v_L_law_1044 hl9 hkb (fun _ _ _ _ _ w0 w1 w2 hP => ih w0 w1 w2 hP) f_x1 (z_trn e170 k170) f_x3 hP
            · replace hP := hP.1 h173
              refine z_aload_n dL_law_1032 rfl 5 rfl ?_
              refine z_iconst (v := 0) dL_law_1033 (by decide) ?_
              obtain ⟨a174, e174, hP⟩ := hP
              have k174 := f_x3 a174 e174
              obtain ⟨i175, hP⟩ := hP
              refine z_lald e174 k174 i175 dL_law_1034 ?_
              refine z_iload dL_law_1035 0 rfl ?_
              refine z_i2l dL_law_1037 ?_
              refine z_pc (pc' := 1038) rfl ?_
              refine z_lcmp dL_law_1038 ?_
              refine z_if_eq (tgt := 1044) dL_law_1039 (by decide) (fun h176 => ?_) (fun h176 => ?_)
              · replace hP := hP.1 h176
                refine z_sub (lv' := [(0, z_O _), (1, z_O _), (2, z_O _), (3, z_O _), (4, z_I _)]) [2, 3, 4, 5, 6] rfl ?_
                exact v_L_law_1044 hl9 hkb (fun _ _ _ _ _ w0 w1 w2 hP => ih w0 w1 w2 hP) f_x1 (z_trn e170 k170) (z_trn e174 k174) hP
              · replace hP := hP.2 h176
                refine z_iconst (v := 0) dL_law_1042 (by decide) ?_
                exact z_retb rfl (Or.inl rfl) dL_law_1043 hP
          · replace hP := hP.2 h172
            refine z_iconst (v := 0) dL_law_1025 (by decide) ?_
            exact z_retb rfl (Or.inl rfl) dL_law_1026 hP
        · cases htg
          replace hP := hP.2.2.2.2.2.2.2.2.2.2.2.2.2.2.2.2.1 h36
          refine z_aload_n dL_law_1047 rfl 1 rfl ?_
          obtain ⟨a178, e178, hP⟩ := hP
          have k178 := f_x1 a178 e178
          refine z_wts (fun hT177 _ => ?_)
          refine z_cVi (c := 11) (n := 0) (Y1 := Y_X11_now) (st := []) e178 k178 z_cb11 (Nat.le_of_ble_eq_true rfl) rfl (s_X11_now k178 hP) rfl ⟨z_dc_X11_now, ⟨(Nat.le_of_ble_eq_true rfl), (Nat.le_of_ble_eq_true rfl)⟩, (Nat.le_of_ble_eq_true rfl)⟩ rfl zw_520 zw_521 zw_522 zw_1 zw_523 dL_law_1048 (fun x_177 M_177 hP _ x177 => ?_)
          have k178 := x177.k (k := 11) hT177 k178
          have f_x2 := x177.t (k := 12) hT177 f_x2
          have f_x3 := x177.t (k := 24) hT177 f_x3
          refine z_pc (pc' := 1051) rfl ?_
          refine z_aload_n dL_law_1051 rfl 2 rfl ?_
          obtain ⟨a180, e180, hP⟩ := hP
          have k180 := f_x2 a180 e180
          refine z_wts (fun hT179 _ => ?_)
          refine z_cVi (c := 12) (n := 0) (Y1 := Y_X12_now) (st := [z_I _]) e180 k180 z_cb12 (Nat.le_of_ble_eq_true rfl) rfl (s_X12_now k180 hP) rfl ⟨z_dc_X12_now, ⟨(Nat.le_of_ble_eq_true rfl), (Nat.le_of_ble_eq_true rfl)⟩, (Nat.le_of_ble_eq_true rfl)⟩ rfl zw_1766 zw_1767 zw_1768 zw_12 zw_1769 dL_law_1052 (fun x_179 M_179 hP _ x179 => ?_)
          have k178 := x179.k (k := 11) hT179 k178
          have k180 := x179.k (k := 12) hT179 k180
          have f_x3 := x179.t (k := 24) hT179 f_x3
          refine z_icmp_eq (tgt := 1514) dL_law_1055 (by decide) (fun h181 => ?_) (fun h181 => ?_)
          · replace hP := hP.1 h181
            refine z_sub (lv' := [(0, z_O _), (1, z_O _), (2, z_O _), (3, z_O _), (4, z_I _)]) [0, 1, 2, 3, 4] rfl ?_
            exact v_L_law_1514 hl9 hkb (fun _ _ _ _ _ w0 w1 w2 hP => ih w0 w1 w2 hP) (z_trn e178 k178) (z_trn e180 k180) f_x3 hP
          · replace hP := hP.2 h181
            refine z_iconst (v := 0) dL_law_1058 (by decide) ?_
            exact z_retb rfl (Or.inl rfl) dL_law_1059 hP
        · cases htg
          replace hP := hP.2.2.2.2.2.2.2.2.2.2.2.2.2.2.2.2.2.1 h36
          refine z_aload_n dL_law_1060 rfl 1 rfl ?_
          refine z_aload_n dL_law_1061 rfl 0 rfl ?_
          refine z_pc (pc' := 1062) rfl ?_
          refine z_iload dL_law_1062 4 rfl ?_
          refine z_iconst (v := 1) dL_law_1064 (by decide) ?_
          refine z_iadd dL_law_1065 ?_
          obtain ⟨i182, hP⟩ := hP
          refine z_sld hkb i182 dL_law_1066 ?_
          refine z_aload_n dL_law_1067 rfl 3 rfl ?_
          refine z_wts (fun hT183 _ => ?_)
          refine z_cSHi (hh := hh_L_state) (n := 3) (Y1 := Y_L_state) (st := []) rfl (s_L_state hl9 f_x1 f_x3 hP) rfl ⟨z_dc_L_state, ⟨(Nat.le_of_ble_eq_true rfl), (Nat.le_of_ble_eq_true rfl)⟩, (Nat.le_of_ble_eq_true rfl)⟩ rfl zw_1186 zw_1187 zw_0 zh_L_state dL_law_1068 (fun x_183 M_183 hP _ x183 => ?_)
          have f_x1 := x183.t (k := 11) hT183 f_x1
          have f_x2 := x183.t (k := 12) hT183 f_x2
          have f_x3 := x183.t (k := 24) hT183 f_x3
          refine z_pc (pc' := 1071) rfl ?_
          refine z_istore (lv' := [(5, z_I _), (0, z_O _), (1, z_O _), (2, z_O _), (3, z_O _), (4, z_I _)]) dL_law_1071 (Nat.le_of_ble_eq_true rfl) rfl ?_
          refine z_aload_n dL_law_1073 rfl 3 rfl ?_
          refine z_aload_n dL_law_1074 rfl 1 rfl ?_
          refine z_iload dL_law_1075 5 rfl ?_
          refine z_iconst (v := 1) dL_law_1077 (by decide) ?_
          refine z_iadd dL_law_1078 ?_
          refine z_pc (pc' := 1079) rfl ?_
          obtain ⟨i184, hP⟩ := hP
          refine z_sld hkb i184 dL_law_1079 ?_
          obtain ⟨a186, e186, hP⟩ := hP
          have k186 := f_x2 a186 e186
          refine z_wts (fun hT185 _ => ?_)
          refine z_cVi (c := 12) (n := 1) (Y1 := Y_X12_state) (st := []) e186 k186 z_cb12 (Nat.le_of_ble_eq_true rfl) rfl (s_X12_state k186 hP) rfl ⟨z_dc_X12_state, ⟨(Nat.le_of_ble_eq_true rfl), (Nat.le_of_ble_eq_true rfl)⟩, (Nat.le_of_ble_eq_true rfl)⟩ rfl zw_1770 zw_1771 zw_1772 zw_12 zw_1773 dL_law_1080 (fun x_185 M_185 hP _ x185 => ?_)
          have f_x1 := x185.t (k := 11) hT185 f_x1
          have k186 := x185.k (k := 12) hT185 k186
          have f_x3 := x185.t (k := 24) hT185 f_x3
          refine z_istore (lv' := [(6, z_I _), (5, z_I _), (0, z_O _), (1, z_O _), (2, z_O _), (3, z_O _), (4, z_I _)]) dL_law_1083 (Nat.le_of_ble_eq_true rfl) rfl ?_
          refine z_aload_n dL_law_1085 rfl 4 rfl ?_
          refine z_wts (fun hT187 _ => ?_)
          refine z_cVi (c := 12) (n := 0) (Y1 := Y_X12_thrown) (st := []) e186 k186 z_cb12 (Nat.le_of_ble_eq_true rfl) rfl (s_X12_thrown k186 hP) rfl ⟨z_dc_X12_thrown, ⟨(Nat.le_of_ble_eq_true rfl), (Nat.le_of_ble_eq_true rfl)⟩, (Nat.le_of_ble_eq_true rfl)⟩ rfl zw_1541 zw_1542 zw_1543 zw_12 zw_1544 dL_law_1086 (fun x_187 M_187 hP _ x187 => ?_)
          have f_x1 := x187.t (k := 11) hT187 f_x1
          have k186 := x187.k (k := 12) hT187 k186
          have f_x3 := x187.t (k := 24) hT187 f_x3
          refine z_iload dL_law_1089 1 rfl ?_
          refine z_pc (pc' := 1091) rfl ?_
          refine z_icmp_eq (tgt := 1096) dL_law_1091 (by decide) (fun h188 => ?_) (fun h188 => ?_)
          · replace hP := hP.1 h188
            refine z_iload dL_law_1096 1 rfl ?_
            refine z_if_ne (tgt := 1113) dL_law_1098 (by decide) (fun h189 => ?_) (fun h189 => ?_)
            · replace hP := hP.2 h189
              refine z_sub (lv' := [(0, z_O _), (1, z_O _), (2, z_O _), (3, z_O _), (4, z_I _)]) [2, 3, 4, 5, 6] rfl ?_
              exact v_L_law_1113 hl9 hkb (fun _ _ _ _ _ w0 w1 w2 hP => ih w0 w1 w2 hP) f_x1 (z_trn e186 k186) f_x3 hP
            · replace hP := hP.1 h189
              refine z_aload_n dL_law_1101 rfl 5 rfl ?_
              refine z_iconst (v := 0) dL_law_1102 (by decide) ?_
              obtain ⟨a190, e190, hP⟩ := hP
              have k190 := f_x3 a190 e190
              obtain ⟨i191, hP⟩ := hP
              refine z_lald e190 k190 i191 dL_law_1103 ?_
              refine z_iload dL_law_1104 0 rfl ?_
              refine z_i2l dL_law_1106 ?_
              refine z_pc (pc' := 1107) rfl ?_
              refine z_lcmp dL_law_1107 ?_
              refine z_if_eq (tgt := 1113) dL_law_1108 (by decide) (fun h192 => ?_) (fun h192 => ?_)
              · replace hP := hP.1 h192
                refine z_sub (lv' := [(0, z_O _), (1, z_O _), (2, z_O _), (3, z_O _), (4, z_I _)]) [2, 3, 4, 5, 6] rfl ?_
                exact v_L_law_1113 hl9 hkb (fun _ _ _ _ _ w0 w1 w2 hP => ih w0 w1 w2 hP) f_x1 (z_trn e186 k186) (z_trn e190 k190) hP
              · replace hP := hP.2 h192
                refine z_iconst (v := 0) dL_law_1111 (by decide) ?_
                exact z_retb rfl (Or.inl rfl) dL_law_1112 hP
          · replace hP := hP.2 h188
            refine z_iconst (v := 0) dL_law_1094 (by decide) ?_
            exact z_retb rfl (Or.inl rfl) dL_law_1095 hP
        · cases htg
          replace hP := hP.2.2.2.2.2.2.2.2.2.2.2.2.2.2.2.2.2.2.1 h36
          refine z_aload_n dL_law_1116 rfl 1 rfl ?_
          refine z_aload_n dL_law_1117 rfl 0 rfl ?_
          refine z_pc (pc' := 1118) rfl ?_
          refine z_iload dL_law_1118 4 rfl ?_
          refine z_iconst (v := 1) dL_law_1120 (by decide) ?_
          refine z_iadd dL_law_1121 ?_
          obtain ⟨i193, hP⟩ := hP
          refine z_sld hkb i193 dL_law_1122 ?_
          refine z_aload_n dL_law_1123 rfl 0 rfl ?_
          refine z_iload dL_law_1124 4 rfl ?_
          refine z_pc (pc' := 1126) rfl ?_
          refine z_iconst (v := 2) dL_law_1126 (by decide) ?_
          refine z_iadd dL_law_1127 ?_
          obtain ⟨i194, hP⟩ := hP
          refine z_sld hkb i194 dL_law_1128 ?_
          refine z_aload_n dL_law_1129 rfl 3 rfl ?_
          refine z_wts (fun hT195 _ => ?_)
          refine z_cSHi (hh := hh_L_path) (n := 4) (Y1 := Y_L_path) (st := []) rfl (s_L_path hl9 f_x1 f_x3 hP) rfl ⟨z_dc_L_path, ⟨(Nat.le_of_ble_eq_true rfl), (Nat.le_of_ble_eq_true rfl)⟩, (Nat.le_of_ble_eq_true rfl)⟩ rfl zw_1193 zw_1194 zw_0 zh_L_path dL_law_1130 (fun x_195 M_195 hP _ x195 => ?_)
          have f_x1 := x195.t (k := 11) hT195 f_x1
          have f_x2 := x195.t (k := 12) hT195 f_x2
          have f_x3 := x195.t (k := 24) hT195 f_x3
          refine z_istore (lv' := [(5, z_I _), (0, z_O _), (1, z_O _), (2, z_O _), (3, z_O _), (4, z_I _)]) dL_law_1133 (Nat.le_of_ble_eq_true rfl) rfl ?_
          refine z_pc (pc' := 1135) rfl ?_
          refine z_aload_n dL_law_1135 rfl 3 rfl ?_
          refine z_aload_n dL_law_1136 rfl 1 rfl ?_
          refine z_iload dL_law_1137 5 rfl ?_
          refine z_iconst (v := 1) dL_law_1139 (by decide) ?_
          refine z_iadd dL_law_1140 ?_
          obtain ⟨i196, hP⟩ := hP
          refine z_sld hkb i196 dL_law_1141 ?_
          refine z_pc (pc' := 1142) rfl ?_
          refine z_aload_n dL_law_1142 rfl 1 rfl ?_
          refine z_iload dL_law_1143 5 rfl ?_
          refine z_iconst (v := 2) dL_law_1145 (by decide) ?_
          refine z_iadd dL_law_1146 ?_
          obtain ⟨i197, hP⟩ := hP
          refine z_sld hkb i197 dL_law_1147 ?_
          obtain ⟨a199, e199, hP⟩ := hP
          have k199 := f_x2 a199 e199
          refine z_wts (fun hT198 _ => ?_)
          refine z_cVi (c := 12) (n := 2) (Y1 := Y_X12_path) (st := []) e199 k199 z_cb12 (Nat.le_of_ble_eq_true rfl) rfl (s_X12_path k199 hP) rfl ⟨z_dc_X12_path, ⟨(Nat.le_of_ble_eq_true rfl), (Nat.le_of_ble_eq_true rfl)⟩, (Nat.le_of_ble_eq_true rfl)⟩ rfl zw_1774 zw_1775 zw_1776 zw_12 zw_1777 dL_law_1148 (fun x_198 M_198 hP _ x198 => ?_)
          have f_x1 := x198.t (k := 11) hT198 f_x1
          have k199 := x198.k (k := 12) hT198 k199
          have f_x3 := x198.t (k := 24) hT198 f_x3
          refine z_pc (pc' := 1151) rfl ?_
          refine z_istore (lv' := [(6, z_I _), (5, z_I _), (0, z_O _), (1, z_O _), (2, z_O _), (3, z_O _), (4, z_I _)]) dL_law_1151 (Nat.le_of_ble_eq_true rfl) rfl ?_
          refine z_aload_n dL_law_1153 rfl 4 rfl ?_
          refine z_wts (fun hT200 _ => ?_)
          refine z_cVi (c := 12) (n := 0) (Y1 := Y_X12_thrown) (st := []) e199 k199 z_cb12 (Nat.le_of_ble_eq_true rfl) rfl (s_X12_thrown k199 hP) rfl ⟨z_dc_X12_thrown, ⟨(Nat.le_of_ble_eq_true rfl), (Nat.le_of_ble_eq_true rfl)⟩, (Nat.le_of_ble_eq_true rfl)⟩ rfl zw_1541 zw_1542 zw_1543 zw_12 zw_1544 dL_law_1154 (fun x_200 M_200 hP _ x200 => ?_)
          have f_x1 := x200.t (k := 11) hT200 f_x1
          have k199 := x200.k (k := 12) hT200 k199
          have f_x3 := x200.t (k := 24) hT200 f_x3
          refine z_iload dL_law_1157 1 rfl ?_
          refine z_icmp_eq (tgt := 1164) dL_law_1159 (by decide) (fun h201 => ?_) (fun h201 => ?_)
          · replace hP := hP.1 h201
            refine z_iload dL_law_1164 1 rfl ?_
            refine z_if_ne (tgt := 1181) dL_law_1166 (by decide) (fun h202 => ?_) (fun h202 => ?_)
            · replace hP := hP.2 h202
              refine z_sub (lv' := [(0, z_O _), (1, z_O _), (2, z_O _), (3, z_O _), (4, z_I _)]) [2, 3, 4, 5, 6] rfl ?_
              exact v_L_law_1181 hl9 hkb (fun _ _ _ _ _ w0 w1 w2 hP => ih w0 w1 w2 hP) f_x1 (z_trn e199 k199) f_x3 hP
            · replace hP := hP.1 h202
              refine z_aload_n dL_law_1169 rfl 5 rfl ?_
              refine z_pc (pc' := 1170) rfl ?_
              refine z_iconst (v := 0) dL_law_1170 (by decide) ?_
              obtain ⟨a203, e203, hP⟩ := hP
              have k203 := f_x3 a203 e203
              obtain ⟨i204, hP⟩ := hP
              refine z_lald e203 k203 i204 dL_law_1171 ?_
              refine z_iload dL_law_1172 0 rfl ?_
              refine z_i2l dL_law_1174 ?_
              refine z_lcmp dL_law_1175 ?_
              refine z_if_eq (tgt := 1181) dL_law_1176 (by decide) (fun h205 => ?_) (fun h205 => ?_)
              · replace hP := hP.1 h205
                refine z_sub (lv' := [(0, z_O _), (1, z_O _), (2, z_O _), (3, z_O _), (4, z_I _)]) [2, 3, 4, 5, 6] rfl ?_
                exact v_L_law_1181 hl9 hkb (fun _ _ _ _ _ w0 w1 w2 hP => ih w0 w1 w2 hP) f_x1 (z_trn e199 k199) (z_trn e203 k203) hP
              · replace hP := hP.2 h205
                refine z_iconst (v := 0) dL_law_1179 (by decide) ?_
                refine z_pc (pc' := 1180) rfl ?_
                exact z_retb rfl (Or.inl rfl) dL_law_1180 hP
          · replace hP := hP.2 h201
            refine z_iconst (v := 0) dL_law_1162 (by decide) ?_
            exact z_retb rfl (Or.inl rfl) dL_law_1163 hP
        · cases htg
          replace hP := hP.2.2.2.2.2.2.2.2.2.2.2.2.2.2.2.2.2.2.2.1 h36
          refine z_aload_n dL_law_1184 rfl 1 rfl ?_
          refine z_aload_n dL_law_1185 rfl 0 rfl ?_
          refine z_pc (pc' := 1186) rfl ?_
          refine z_iload dL_law_1186 4 rfl ?_
          refine z_iconst (v := 1) dL_law_1188 (by decide) ?_
          refine z_iadd dL_law_1189 ?_
          obtain ⟨i206, hP⟩ := hP
          refine z_sld hkb i206 dL_law_1190 ?_
          refine z_aload_n dL_law_1191 rfl 0 rfl ?_
          refine z_iload dL_law_1192 4 rfl ?_
          refine z_pc (pc' := 1194) rfl ?_
          refine z_iconst (v := 2) dL_law_1194 (by decide) ?_
          refine z_iadd dL_law_1195 ?_
          obtain ⟨i207, hP⟩ := hP
          refine z_sld hkb i207 dL_law_1196 ?_
          refine z_aload_n dL_law_1197 rfl 3 rfl ?_
          refine z_wts (fun hT208 _ => ?_)
          refine z_cSHi (hh := hh_L_stream) (n := 4) (Y1 := Y_L_stream) (st := []) rfl (s_L_stream hl9 f_x1 f_x3 hP) rfl ⟨z_dc_L_stream, ⟨(Nat.le_of_ble_eq_true rfl), (Nat.le_of_ble_eq_true rfl)⟩, (Nat.le_of_ble_eq_true rfl)⟩ rfl zw_1203 zw_1204 zw_0 zh_L_stream dL_law_1198 (fun x_208 M_208 hP _ x208 => ?_)
          have f_x1 := x208.t (k := 11) hT208 f_x1
          have f_x2 := x208.t (k := 12) hT208 f_x2
          have f_x3 := x208.t (k := 24) hT208 f_x3
          refine z_istore (lv' := [(5, z_I _), (0, z_O _), (1, z_O _), (2, z_O _), (3, z_O _), (4, z_I _)]) dL_law_1201 (Nat.le_of_ble_eq_true rfl) rfl ?_
          refine z_pc (pc' := 1203) rfl ?_
          refine z_aload_n dL_law_1203 rfl 3 rfl ?_
          refine z_aload_n dL_law_1204 rfl 1 rfl ?_
          refine z_iload dL_law_1205 5 rfl ?_
          refine z_iconst (v := 1) dL_law_1207 (by decide) ?_
          refine z_iadd dL_law_1208 ?_
          obtain ⟨i209, hP⟩ := hP
          refine z_sld hkb i209 dL_law_1209 ?_
          refine z_pc (pc' := 1210) rfl ?_
          refine z_aload_n dL_law_1210 rfl 1 rfl ?_
          refine z_iload dL_law_1211 5 rfl ?_
          refine z_iconst (v := 2) dL_law_1213 (by decide) ?_
          refine z_iadd dL_law_1214 ?_
          obtain ⟨i210, hP⟩ := hP
          refine z_sld hkb i210 dL_law_1215 ?_
          obtain ⟨a212, e212, hP⟩ := hP
          have k212 := f_x2 a212 e212
          refine z_wts (fun hT211 _ => ?_)
          refine z_cVi (c := 12) (n := 2) (Y1 := Y_X12_stream) (st := []) e212 k212 z_cb12 (Nat.le_of_ble_eq_true rfl) rfl (s_X12_stream k212 hP) rfl ⟨z_dc_X12_stream, ⟨(Nat.le_of_ble_eq_true rfl), (Nat.le_of_ble_eq_true rfl)⟩, (Nat.le_of_ble_eq_true rfl)⟩ rfl zw_1778 zw_1779 zw_1780 zw_12 zw_1781 dL_law_1216 (fun x_211 M_211 hP _ x211 => ?_)
          have f_x1 := x211.t (k := 11) hT211 f_x1
          have k212 := x211.k (k := 12) hT211 k212
          have f_x3 := x211.t (k := 24) hT211 f_x3
          refine z_pc (pc' := 1219) rfl ?_
          refine z_istore (lv' := [(6, z_I _), (5, z_I _), (0, z_O _), (1, z_O _), (2, z_O _), (3, z_O _), (4, z_I _)]) dL_law_1219 (Nat.le_of_ble_eq_true rfl) rfl ?_
          refine z_aload_n dL_law_1221 rfl 4 rfl ?_
          refine z_wts (fun hT213 _ => ?_)
          refine z_cVi (c := 12) (n := 0) (Y1 := Y_X12_thrown) (st := []) e212 k212 z_cb12 (Nat.le_of_ble_eq_true rfl) rfl (s_X12_thrown k212 hP) rfl ⟨z_dc_X12_thrown, ⟨(Nat.le_of_ble_eq_true rfl), (Nat.le_of_ble_eq_true rfl)⟩, (Nat.le_of_ble_eq_true rfl)⟩ rfl zw_1541 zw_1542 zw_1543 zw_12 zw_1544 dL_law_1222 (fun x_213 M_213 hP _ x213 => ?_)
          have f_x1 := x213.t (k := 11) hT213 f_x1
          have k212 := x213.k (k := 12) hT213 k212
          have f_x3 := x213.t (k := 24) hT213 f_x3
          refine z_iload dL_law_1225 1 rfl ?_
          refine z_icmp_eq (tgt := 1232) dL_law_1227 (by decide) (fun h214 => ?_) (fun h214 => ?_)
          · replace hP := hP.1 h214
            refine z_iload dL_law_1232 1 rfl ?_
            refine z_if_ne (tgt := 1249) dL_law_1234 (by decide) (fun h215 => ?_) (fun h215 => ?_)
            · replace hP := hP.2 h215
              refine z_sub (lv' := [(0, z_O _), (1, z_O _), (2, z_O _), (3, z_O _), (4, z_I _)]) [2, 3, 4, 5, 6] rfl ?_
              exact v_L_law_1249 hl9 hkb (fun _ _ _ _ _ w0 w1 w2 hP => ih w0 w1 w2 hP) f_x1 (z_trn e212 k212) f_x3 hP
            · replace hP := hP.1 h215
              refine z_aload_n dL_law_1237 rfl 5 rfl ?_
              refine z_pc (pc' := 1238) rfl ?_
              refine z_iconst (v := 0) dL_law_1238 (by decide) ?_
              obtain ⟨a216, e216, hP⟩ := hP
              have k216 := f_x3 a216 e216
              obtain ⟨i217, hP⟩ := hP
              refine z_lald e216 k216 i217 dL_law_1239 ?_
              refine z_iload dL_law_1240 0 rfl ?_
              refine z_i2l dL_law_1242 ?_
              refine z_lcmp dL_law_1243 ?_
              refine z_if_eq (tgt := 1249) dL_law_1244 (by decide) (fun h218 => ?_) (fun h218 => ?_)
              · replace hP := hP.1 h218
                refine z_sub (lv' := [(0, z_O _), (1, z_O _), (2, z_O _), (3, z_O _), (4, z_I _)]) [2, 3, 4, 5, 6] rfl ?_
                exact v_L_law_1249 hl9 hkb (fun _ _ _ _ _ w0 w1 w2 hP => ih w0 w1 w2 hP) f_x1 (z_trn e212 k212) (z_trn e216 k216) hP
              · replace hP := hP.2 h218
                refine z_iconst (v := 0) dL_law_1247 (by decide) ?_
                refine z_pc (pc' := 1248) rfl ?_
                exact z_retb rfl (Or.inl rfl) dL_law_1248 hP
          · replace hP := hP.2 h214
            refine z_iconst (v := 0) dL_law_1230 (by decide) ?_
            exact z_retb rfl (Or.inl rfl) dL_law_1231 hP
        · cases htg
          replace hP := hP.2.2.2.2.2.2.2.2.2.2.2.2.2.2.2.2.2.2.2.2.1 h36
          refine z_aload_n dL_law_1252 rfl 1 rfl ?_
          obtain ⟨a220, e220, hP⟩ := hP
          have k220 := f_x1 a220 e220
          refine z_wts (fun hT219 _ => ?_)
          refine z_cVi (c := 11) (n := 0) (Y1 := Y_X11_credit) (st := []) e220 k220 z_cb11 (Nat.le_of_ble_eq_true rfl) rfl (s_X11_credit k220 hP) rfl ⟨z_dc_X11_credit, ⟨(Nat.le_of_ble_eq_true rfl), (Nat.le_of_ble_eq_true rfl)⟩, (Nat.le_of_ble_eq_true rfl)⟩ rfl zw_524 zw_525 zw_526 zw_1 zw_527 dL_law_1253 (fun x_219 M_219 hP _ x219 => ?_)
          have k220 := x219.k (k := 11) hT219 k220
          have f_x2 := x219.t (k := 12) hT219 f_x2
          have f_x3 := x219.t (k := 24) hT219 f_x3
          refine z_pc (pc' := 1256) rfl ?_
          refine z_aload_n dL_law_1256 rfl 2 rfl ?_
          obtain ⟨a222, e222, hP⟩ := hP
          have k222 := f_x2 a222 e222
          refine z_wts (fun hT221 _ => ?_)
          refine z_cVi (c := 12) (n := 0) (Y1 := Y_X12_credit) (st := [z_I _]) e222 k222 z_cb12 (Nat.le_of_ble_eq_true rfl) rfl (s_X12_credit k222 hP) rfl ⟨z_dc_X12_credit, ⟨(Nat.le_of_ble_eq_true rfl), (Nat.le_of_ble_eq_true rfl)⟩, (Nat.le_of_ble_eq_true rfl)⟩ rfl zw_1782 zw_1783 zw_1784 zw_12 zw_1785 dL_law_1257 (fun x_221 M_221 hP _ x221 => ?_)
          have k220 := x221.k (k := 11) hT221 k220
          have k222 := x221.k (k := 12) hT221 k222
          have f_x3 := x221.t (k := 24) hT221 f_x3
          refine z_icmp_eq (tgt := 1514) dL_law_1260 (by decide) (fun h223 => ?_) (fun h223 => ?_)
          · replace hP := hP.1 h223
            refine z_sub (lv' := [(0, z_O _), (1, z_O _), (2, z_O _), (3, z_O _), (4, z_I _)]) [0, 1, 2, 3, 4] rfl ?_
            exact v_L_law_1514 hl9 hkb (fun _ _ _ _ _ w0 w1 w2 hP => ih w0 w1 w2 hP) (z_trn e220 k220) (z_trn e222 k222) f_x3 hP
          · replace hP := hP.2 h223
            refine z_iconst (v := 0) dL_law_1263 (by decide) ?_
            exact z_retb rfl (Or.inl rfl) dL_law_1264 hP
        · cases htg
          replace hP := hP.2.2.2.2.2.2.2.2.2.2.2.2.2.2.2.2.2.2.2.2.2.1 h36
          refine z_aload_n dL_law_1265 rfl 1 rfl ?_
          obtain ⟨a225, e225, hP⟩ := hP
          have k225 := f_x1 a225 e225
          refine z_wts (fun hT224 _ => ?_)
          refine z_cVi (c := 11) (n := 0) (Y1 := Y_X11_packets) (st := []) e225 k225 z_cb11 (Nat.le_of_ble_eq_true rfl) rfl (s_X11_packets k225 hP) rfl ⟨z_dc_X11_packets, ⟨(Nat.le_of_ble_eq_true rfl), (Nat.le_of_ble_eq_true rfl)⟩, (Nat.le_of_ble_eq_true rfl)⟩ rfl zw_528 zw_529 zw_530 zw_1 zw_531 dL_law_1266 (fun x_224 M_224 hP _ x224 => ?_)
          have k225 := x224.k (k := 11) hT224 k225
          have f_x2 := x224.t (k := 12) hT224 f_x2
          have f_x3 := x224.t (k := 24) hT224 f_x3
          refine z_pc (pc' := 1269) rfl ?_
          refine z_aload_n dL_law_1269 rfl 2 rfl ?_
          obtain ⟨a227, e227, hP⟩ := hP
          have k227 := f_x2 a227 e227
          refine z_wts (fun hT226 _ => ?_)
          refine z_cVi (c := 12) (n := 0) (Y1 := Y_X12_packets) (st := [z_I _]) e227 k227 z_cb12 (Nat.le_of_ble_eq_true rfl) rfl (s_X12_packets k227 hP) rfl ⟨z_dc_X12_packets, ⟨(Nat.le_of_ble_eq_true rfl), (Nat.le_of_ble_eq_true rfl)⟩, (Nat.le_of_ble_eq_true rfl)⟩ rfl zw_1786 zw_1787 zw_1788 zw_12 zw_1789 dL_law_1270 (fun x_226 M_226 hP _ x226 => ?_)
          have k225 := x226.k (k := 11) hT226 k225
          have k227 := x226.k (k := 12) hT226 k227
          have f_x3 := x226.t (k := 24) hT226 f_x3
          refine z_icmp_eq (tgt := 1514) dL_law_1273 (by decide) (fun h228 => ?_) (fun h228 => ?_)
          · replace hP := hP.1 h228
            refine z_sub (lv' := [(0, z_O _), (1, z_O _), (2, z_O _), (3, z_O _), (4, z_I _)]) [0, 1, 2, 3, 4] rfl ?_
            exact v_L_law_1514 hl9 hkb (fun _ _ _ _ _ w0 w1 w2 hP => ih w0 w1 w2 hP) (z_trn e225 k225) (z_trn e227 k227) f_x3 hP
          · replace hP := hP.2 h228
            refine z_iconst (v := 0) dL_law_1276 (by decide) ?_
            exact z_retb rfl (Or.inl rfl) dL_law_1277 hP
        · cases htg
          replace hP := hP.2.2.2.2.2.2.2.2.2.2.2.2.2.2.2.2.2.2.2.2.2.2.1 h36
          refine z_aload_n dL_law_1278 rfl 1 rfl ?_
          refine z_aload_n dL_law_1279 rfl 0 rfl ?_
          refine z_pc (pc' := 1280) rfl ?_
          refine z_iload dL_law_1280 4 rfl ?_
          refine z_iconst (v := 1) dL_law_1282 (by decide) ?_
          refine z_iadd dL_law_1283 ?_
          obtain ⟨i229, hP⟩ := hP
          refine z_sld hkb i229 dL_law_1284 ?_
          refine z_aload_n dL_law_1285 rfl 0 rfl ?_
          refine z_iload dL_law_1286 4 rfl ?_
          refine z_pc (pc' := 1288) rfl ?_
          refine z_iconst (v := 2) dL_law_1288 (by decide) ?_
          refine z_iadd dL_law_1289 ?_
          obtain ⟨i230, hP⟩ := hP
          refine z_sld hkb i230 dL_law_1290 ?_
          refine z_aload_n dL_law_1291 rfl 3 rfl ?_
          refine z_wts (fun hT231 _ => ?_)
          refine z_cSHi (hh := hh_L_packet) (n := 4) (Y1 := Y_L_packet) (st := []) rfl (s_L_packet hl9 f_x1 f_x3 hP) rfl ⟨z_dc_L_packet, ⟨(Nat.le_of_ble_eq_true rfl), (Nat.le_of_ble_eq_true rfl)⟩, (Nat.le_of_ble_eq_true rfl)⟩ rfl zw_1210 zw_1211 zw_0 zh_L_packet dL_law_1292 (fun x_231 M_231 hP _ x231 => ?_)
          have f_x1 := x231.t (k := 11) hT231 f_x1
          have f_x2 := x231.t (k := 12) hT231 f_x2
          have f_x3 := x231.t (k := 24) hT231 f_x3
          refine z_istore (lv' := [(5, z_I _), (0, z_O _), (1, z_O _), (2, z_O _), (3, z_O _), (4, z_I _)]) dL_law_1295 (Nat.le_of_ble_eq_true rfl) rfl ?_
          refine z_pc (pc' := 1297) rfl ?_
          refine z_aload_n dL_law_1297 rfl 3 rfl ?_
          refine z_aload_n dL_law_1298 rfl 1 rfl ?_
          refine z_iload dL_law_1299 5 rfl ?_
          refine z_iconst (v := 1) dL_law_1301 (by decide) ?_
          refine z_iadd dL_law_1302 ?_
          obtain ⟨i232, hP⟩ := hP
          refine z_sld hkb i232 dL_law_1303 ?_
          refine z_pc (pc' := 1304) rfl ?_
          refine z_aload_n dL_law_1304 rfl 1 rfl ?_
          refine z_iload dL_law_1305 5 rfl ?_
          refine z_iconst (v := 2) dL_law_1307 (by decide) ?_
          refine z_iadd dL_law_1308 ?_
          obtain ⟨i233, hP⟩ := hP
          refine z_sld hkb i233 dL_law_1309 ?_
          obtain ⟨a235, e235, hP⟩ := hP
          have k235 := f_x2 a235 e235
          refine z_wts (fun hT234 _ => ?_)
          refine z_cVi (c := 12) (n := 2) (Y1 := Y_X12_packet) (st := []) e235 k235 z_cb12 (Nat.le_of_ble_eq_true rfl) rfl (s_X12_packet k235 hP) rfl ⟨z_dc_X12_packet, ⟨(Nat.le_of_ble_eq_true rfl), (Nat.le_of_ble_eq_true rfl)⟩, (Nat.le_of_ble_eq_true rfl)⟩ rfl zw_1790 zw_1791 zw_1792 zw_12 zw_1793 dL_law_1310 (fun x_234 M_234 hP _ x234 => ?_)
          have f_x1 := x234.t (k := 11) hT234 f_x1
          have k235 := x234.k (k := 12) hT234 k235
          have f_x3 := x234.t (k := 24) hT234 f_x3
          refine z_pc (pc' := 1313) rfl ?_
          refine z_istore (lv' := [(6, z_I _), (5, z_I _), (0, z_O _), (1, z_O _), (2, z_O _), (3, z_O _), (4, z_I _)]) dL_law_1313 (Nat.le_of_ble_eq_true rfl) rfl ?_
          refine z_aload_n dL_law_1315 rfl 4 rfl ?_
          refine z_wts (fun hT236 _ => ?_)
          refine z_cVi (c := 12) (n := 0) (Y1 := Y_X12_thrown) (st := []) e235 k235 z_cb12 (Nat.le_of_ble_eq_true rfl) rfl (s_X12_thrown k235 hP) rfl ⟨z_dc_X12_thrown, ⟨(Nat.le_of_ble_eq_true rfl), (Nat.le_of_ble_eq_true rfl)⟩, (Nat.le_of_ble_eq_true rfl)⟩ rfl zw_1541 zw_1542 zw_1543 zw_12 zw_1544 dL_law_1316 (fun x_236 M_236 hP _ x236 => ?_)
          have f_x1 := x236.t (k := 11) hT236 f_x1
          have k235 := x236.k (k := 12) hT236 k235
          have f_x3 := x236.t (k := 24) hT236 f_x3
          refine z_iload dL_law_1319 1 rfl ?_
          refine z_icmp_eq (tgt := 1326) dL_law_1321 (by decide) (fun h237 => ?_) (fun h237 => ?_)
          · replace hP := hP.1 h237
            refine z_iload dL_law_1326 1 rfl ?_
            refine z_if_ne (tgt := 1343) dL_law_1328 (by decide) (fun h238 => ?_) (fun h238 => ?_)
            · replace hP := hP.2 h238
              refine z_sub (lv' := [(0, z_O _), (1, z_O _), (2, z_O _), (3, z_O _), (4, z_I _)]) [2, 3, 4, 5, 6] rfl ?_
              exact v_L_law_1343 hl9 hkb (fun _ _ _ _ _ w0 w1 w2 hP => ih w0 w1 w2 hP) f_x1 (z_trn e235 k235) f_x3 hP
            · replace hP := hP.1 h238
              refine z_aload_n dL_law_1331 rfl 5 rfl ?_
              refine z_pc (pc' := 1332) rfl ?_
              refine z_iconst (v := 0) dL_law_1332 (by decide) ?_
              obtain ⟨a239, e239, hP⟩ := hP
              have k239 := f_x3 a239 e239
              obtain ⟨i240, hP⟩ := hP
              refine z_lald e239 k239 i240 dL_law_1333 ?_
              refine z_iload dL_law_1334 0 rfl ?_
              refine z_i2l dL_law_1336 ?_
              refine z_lcmp dL_law_1337 ?_
              refine z_if_eq (tgt := 1343) dL_law_1338 (by decide) (fun h241 => ?_) (fun h241 => ?_)
              · replace hP := hP.1 h241
                refine z_sub (lv' := [(0, z_O _), (1, z_O _), (2, z_O _), (3, z_O _), (4, z_I _)]) [2, 3, 4, 5, 6] rfl ?_
                exact v_L_law_1343 hl9 hkb (fun _ _ _ _ _ w0 w1 w2 hP => ih w0 w1 w2 hP) f_x1 (z_trn e235 k235) (z_trn e239 k239) hP
              · replace hP := hP.2 h241
                refine z_iconst (v := 0) dL_law_1341 (by decide) ?_
                refine z_pc (pc' := 1342) rfl ?_
                exact z_retb rfl (Or.inl rfl) dL_law_1342 hP
          · replace hP := hP.2 h237
            refine z_iconst (v := 0) dL_law_1324 (by decide) ?_
            exact z_retb rfl (Or.inl rfl) dL_law_1325 hP
        · cases htg
          replace hP := hP.2.2.2.2.2.2.2.2.2.2.2.2.2.2.2.2.2.2.2.2.2.2.2.1 h36
          refine z_aload_n dL_law_1346 rfl 1 rfl ?_
          refine z_aload_n dL_law_1347 rfl 0 rfl ?_
          refine z_pc (pc' := 1348) rfl ?_
          refine z_iload dL_law_1348 4 rfl ?_
          refine z_iconst (v := 1) dL_law_1350 (by decide) ?_
          refine z_iadd dL_law_1351 ?_
          obtain ⟨i242, hP⟩ := hP
          refine z_sld hkb i242 dL_law_1352 ?_
          refine z_aload_n dL_law_1353 rfl 3 rfl ?_
          refine z_wts (fun hT243 _ => ?_)
          refine z_cSHi (hh := hh_L_count) (n := 3) (Y1 := Y_L_count) (st := []) rfl (s_L_count hl9 f_x1 f_x3 hP) rfl ⟨z_dc_L_count, ⟨(Nat.le_of_ble_eq_true rfl), (Nat.le_of_ble_eq_true rfl)⟩, (Nat.le_of_ble_eq_true rfl)⟩ rfl zw_1223 zw_1224 zw_0 zh_L_count dL_law_1354 (fun x_243 M_243 hP _ x243 => ?_)
          have f_x1 := x243.t (k := 11) hT243 f_x1
          have f_x2 := x243.t (k := 12) hT243 f_x2
          have f_x3 := x243.t (k := 24) hT243 f_x3
          refine z_pc (pc' := 1357) rfl ?_
          refine z_istore (lv' := [(5, z_I _), (0, z_O _), (1, z_O _), (2, z_O _), (3, z_O _), (4, z_I _)]) dL_law_1357 (Nat.le_of_ble_eq_true rfl) rfl ?_
          refine z_aload_n dL_law_1359 rfl 3 rfl ?_
          refine z_aload_n dL_law_1360 rfl 1 rfl ?_
          refine z_iload dL_law_1361 5 rfl ?_
          refine z_iconst (v := 1) dL_law_1363 (by decide) ?_
          refine z_iadd dL_law_1364 ?_
          refine z_pc (pc' := 1365) rfl ?_
          obtain ⟨i244, hP⟩ := hP
          refine z_sld hkb i244 dL_law_1365 ?_
          obtain ⟨a246, e246, hP⟩ := hP
          have k246 := f_x2 a246 e246
          refine z_wts (fun hT245 _ => ?_)
          refine z_cVi (c := 12) (n := 1) (Y1 := Y_X12_count) (st := []) e246 k246 z_cb12 (Nat.le_of_ble_eq_true rfl) rfl (s_X12_count k246 hP) rfl ⟨z_dc_X12_count, ⟨(Nat.le_of_ble_eq_true rfl), (Nat.le_of_ble_eq_true rfl)⟩, (Nat.le_of_ble_eq_true rfl)⟩ rfl zw_1794 zw_1795 zw_1796 zw_12 zw_1797 dL_law_1366 (fun x_245 M_245 hP _ x245 => ?_)
          have f_x1 := x245.t (k := 11) hT245 f_x1
          have k246 := x245.k (k := 12) hT245 k246
          have f_x3 := x245.t (k := 24) hT245 f_x3
          refine z_istore (lv' := [(6, z_I _), (5, z_I _), (0, z_O _), (1, z_O _), (2, z_O _), (3, z_O _), (4, z_I _)]) dL_law_1369 (Nat.le_of_ble_eq_true rfl) rfl ?_
          refine z_aload_n dL_law_1371 rfl 4 rfl ?_
          refine z_wts (fun hT247 _ => ?_)
          refine z_cVi (c := 12) (n := 0) (Y1 := Y_X12_thrown) (st := []) e246 k246 z_cb12 (Nat.le_of_ble_eq_true rfl) rfl (s_X12_thrown k246 hP) rfl ⟨z_dc_X12_thrown, ⟨(Nat.le_of_ble_eq_true rfl), (Nat.le_of_ble_eq_true rfl)⟩, (Nat.le_of_ble_eq_true rfl)⟩ rfl zw_1541 zw_1542 zw_1543 zw_12 zw_1544 dL_law_1372 (fun x_247 M_247 hP _ x247 => ?_)
          have f_x1 := x247.t (k := 11) hT247 f_x1
          have k246 := x247.k (k := 12) hT247 k246
          have f_x3 := x247.t (k := 24) hT247 f_x3
          refine z_iload dL_law_1375 1 rfl ?_
          refine z_pc (pc' := 1377) rfl ?_
          refine z_icmp_eq (tgt := 1382) dL_law_1377 (by decide) (fun h248 => ?_) (fun h248 => ?_)
          · replace hP := hP.1 h248
            refine z_iload dL_law_1382 1 rfl ?_
            refine z_if_ne (tgt := 1399) dL_law_1384 (by decide) (fun h249 => ?_) (fun h249 => ?_)
            · replace hP := hP.2 h249
              refine z_sub (lv' := [(0, z_O _), (1, z_O _), (2, z_O _), (3, z_O _), (4, z_I _)]) [2, 3, 4, 5, 6] rfl ?_
              exact v_L_law_1399 hl9 hkb (fun _ _ _ _ _ w0 w1 w2 hP => ih w0 w1 w2 hP) f_x1 (z_trn e246 k246) f_x3 hP
            · replace hP := hP.1 h249
              refine z_aload_n dL_law_1387 rfl 5 rfl ?_
              refine z_iconst (v := 0) dL_law_1388 (by decide) ?_
              obtain ⟨a250, e250, hP⟩ := hP
              have k250 := f_x3 a250 e250
              obtain ⟨i251, hP⟩ := hP
              refine z_lald e250 k250 i251 dL_law_1389 ?_
              refine z_iload dL_law_1390 0 rfl ?_
              refine z_i2l dL_law_1392 ?_
              refine z_pc (pc' := 1393) rfl ?_
              refine z_lcmp dL_law_1393 ?_
              refine z_if_eq (tgt := 1399) dL_law_1394 (by decide) (fun h252 => ?_) (fun h252 => ?_)
              · replace hP := hP.1 h252
                refine z_sub (lv' := [(0, z_O _), (1, z_O _), (2, z_O _), (3, z_O _), (4, z_I _)]) [2, 3, 4, 5, 6] rfl ?_
                exact v_L_law_1399 hl9 hkb (fun _ _ _ _ _ w0 w1 w2 hP => ih w0 w1 w2 hP) f_x1 (z_trn e246 k246) (z_trn e250 k250) hP
              · replace hP := hP.2 h252
                refine z_iconst (v := 0) dL_law_1397 (by decide) ?_
                exact z_retb rfl (Or.inl rfl) dL_law_1398 hP
          · replace hP := hP.2 h248
            refine z_iconst (v := 0) dL_law_1380 (by decide) ?_
            exact z_retb rfl (Or.inl rfl) dL_law_1381 hP
        · cases htg
          replace hP := hP.2.2.2.2.2.2.2.2.2.2.2.2.2.2.2.2.2.2.2.2.2.2.2.2.1 h36
          refine z_aload_n dL_law_1402 rfl 1 rfl ?_
          refine z_aload_n dL_law_1403 rfl 0 rfl ?_
          refine z_pc (pc' := 1404) rfl ?_
          refine z_iload dL_law_1404 4 rfl ?_
          refine z_iconst (v := 1) dL_law_1406 (by decide) ?_
          refine z_iadd dL_law_1407 ?_
          obtain ⟨i253, hP⟩ := hP
          refine z_sld hkb i253 dL_law_1408 ?_
          refine z_aload_n dL_law_1409 rfl 3 rfl ?_
          refine z_wts (fun hT254 _ => ?_)
          refine z_cSHi (hh := hh_L_inFlightAnew) (n := 3) (Y1 := Y_L_inFlightAnew) (st := []) rfl (s_L_inFlightAnew hl9 f_x1 f_x3 hP) rfl ⟨z_dc_L_inFlightAnew, ⟨(Nat.le_of_ble_eq_true rfl), (Nat.le_of_ble_eq_true rfl)⟩, (Nat.le_of_ble_eq_true rfl)⟩ rfl zw_1230 zw_1231 zw_0 zh_L_inFlightAnew dL_law_1410 (fun x_254 M_254 hP _ x254 => ?_)
          have f_x1 := x254.t (k := 11) hT254 f_x1
          have f_x2 := x254.t (k := 12) hT254 f_x2
          have f_x3 := x254.t (k := 24) hT254 f_x3
          refine z_pc (pc' := 1413) rfl ?_
          refine z_istore (lv' := [(5, z_I _), (0, z_O _), (1, z_O _), (2, z_O _), (3, z_O _), (4, z_I _)]) dL_law_1413 (Nat.le_of_ble_eq_true rfl) rfl ?_
          refine z_aload_n dL_law_1415 rfl 3 rfl ?_
          refine z_aload_n dL_law_1416 rfl 1 rfl ?_
          refine z_iload dL_law_1417 5 rfl ?_
          refine z_iconst (v := 1) dL_law_1419 (by decide) ?_
          refine z_iadd dL_law_1420 ?_
          refine z_pc (pc' := 1421) rfl ?_
          obtain ⟨i255, hP⟩ := hP
          refine z_sld hkb i255 dL_law_1421 ?_
          obtain ⟨a257, e257, hP⟩ := hP
          have k257 := f_x2 a257 e257
          refine z_wts (fun hT256 _ => ?_)
          refine z_cVi (c := 12) (n := 1) (Y1 := Y_X12_inFlightAnew) (st := []) e257 k257 z_cb12 (Nat.le_of_ble_eq_true rfl) rfl (s_X12_inFlightAnew k257 hP) rfl ⟨z_dc_X12_inFlightAnew, ⟨(Nat.le_of_ble_eq_true rfl), (Nat.le_of_ble_eq_true rfl)⟩, (Nat.le_of_ble_eq_true rfl)⟩ rfl zw_1798 zw_1799 zw_1800 zw_12 zw_1801 dL_law_1422 (fun x_256 M_256 hP _ x256 => ?_)
          have f_x1 := x256.t (k := 11) hT256 f_x1
          have k257 := x256.k (k := 12) hT256 k257
          have f_x3 := x256.t (k := 24) hT256 f_x3
          refine z_istore (lv' := [(6, z_I _), (5, z_I _), (0, z_O _), (1, z_O _), (2, z_O _), (3, z_O _), (4, z_I _)]) dL_law_1425 (Nat.le_of_ble_eq_true rfl) rfl ?_
          refine z_aload_n dL_law_1427 rfl 4 rfl ?_
          refine z_wts (fun hT258 _ => ?_)
          refine z_cVi (c := 12) (n := 0) (Y1 := Y_X12_thrown) (st := []) e257 k257 z_cb12 (Nat.le_of_ble_eq_true rfl) rfl (s_X12_thrown k257 hP) rfl ⟨z_dc_X12_thrown, ⟨(Nat.le_of_ble_eq_true rfl), (Nat.le_of_ble_eq_true rfl)⟩, (Nat.le_of_ble_eq_true rfl)⟩ rfl zw_1541 zw_1542 zw_1543 zw_12 zw_1544 dL_law_1428 (fun x_258 M_258 hP _ x258 => ?_)
          have f_x1 := x258.t (k := 11) hT258 f_x1
          have k257 := x258.k (k := 12) hT258 k257
          have f_x3 := x258.t (k := 24) hT258 f_x3
          refine z_iload dL_law_1431 1 rfl ?_
          refine z_pc (pc' := 1433) rfl ?_
          refine z_icmp_eq (tgt := 1438) dL_law_1433 (by decide) (fun h259 => ?_) (fun h259 => ?_)
          · replace hP := hP.1 h259
            refine z_iload dL_law_1438 1 rfl ?_
            refine z_if_ne (tgt := 1455) dL_law_1440 (by decide) (fun h260 => ?_) (fun h260 => ?_)
            · replace hP := hP.2 h260
              refine z_sub (lv' := [(0, z_O _), (1, z_O _), (2, z_O _), (3, z_O _), (4, z_I _)]) [2, 3, 4, 5, 6] rfl ?_
              exact v_L_law_1455 hl9 hkb (fun _ _ _ _ _ w0 w1 w2 hP => ih w0 w1 w2 hP) f_x1 (z_trn e257 k257) f_x3 hP
            · replace hP := hP.1 h260
              refine z_aload_n dL_law_1443 rfl 5 rfl ?_
              refine z_iconst (v := 0) dL_law_1444 (by decide) ?_
              obtain ⟨a261, e261, hP⟩ := hP
              have k261 := f_x3 a261 e261
              obtain ⟨i262, hP⟩ := hP
              refine z_lald e261 k261 i262 dL_law_1445 ?_
              refine z_iload dL_law_1446 0 rfl ?_
              refine z_i2l dL_law_1448 ?_
              refine z_pc (pc' := 1449) rfl ?_
              refine z_lcmp dL_law_1449 ?_
              refine z_if_eq (tgt := 1455) dL_law_1450 (by decide) (fun h263 => ?_) (fun h263 => ?_)
              · replace hP := hP.1 h263
                refine z_sub (lv' := [(0, z_O _), (1, z_O _), (2, z_O _), (3, z_O _), (4, z_I _)]) [2, 3, 4, 5, 6] rfl ?_
                exact v_L_law_1455 hl9 hkb (fun _ _ _ _ _ w0 w1 w2 hP => ih w0 w1 w2 hP) f_x1 (z_trn e257 k257) (z_trn e261 k261) hP
              · replace hP := hP.2 h263
                refine z_iconst (v := 0) dL_law_1453 (by decide) ?_
                exact z_retb rfl (Or.inl rfl) dL_law_1454 hP
          · replace hP := hP.2 h259
            refine z_iconst (v := 0) dL_law_1436 (by decide) ?_
            exact z_retb rfl (Or.inl rfl) dL_law_1437 hP
        · cases htg
          replace hP := hP.2.2.2.2.2.2.2.2.2.2.2.2.2.2.2.2.2.2.2.2.2.2.2.2.2.1 h36
          refine z_aload_n dL_law_1458 rfl 1 rfl ?_
          refine z_aload_n dL_law_1459 rfl 0 rfl ?_
          refine z_pc (pc' := 1460) rfl ?_
          refine z_iload dL_law_1460 4 rfl ?_
          refine z_iconst (v := 1) dL_law_1462 (by decide) ?_
          refine z_iadd dL_law_1463 ?_
          obtain ⟨i264, hP⟩ := hP
          refine z_sld hkb i264 dL_law_1464 ?_
          refine z_aload_n dL_law_1465 rfl 3 rfl ?_
          refine z_wts (fun hT265 _ => ?_)
          refine z_cSHi (hh := hh_L_gotAnew) (n := 3) (Y1 := Y_L_gotAnew) (st := []) rfl (s_L_gotAnew hl9 f_x1 f_x3 hP) rfl ⟨z_dc_L_gotAnew, ⟨(Nat.le_of_ble_eq_true rfl), (Nat.le_of_ble_eq_true rfl)⟩, (Nat.le_of_ble_eq_true rfl)⟩ rfl zw_1237 zw_1238 zw_0 zh_L_gotAnew dL_law_1466 (fun x_265 M_265 hP _ x265 => ?_)
          have f_x1 := x265.t (k := 11) hT265 f_x1
          have f_x2 := x265.t (k := 12) hT265 f_x2
          have f_x3 := x265.t (k := 24) hT265 f_x3
          refine z_pc (pc' := 1469) rfl ?_
          refine z_istore (lv' := [(5, z_I _), (0, z_O _), (1, z_O _), (2, z_O _), (3, z_O _), (4, z_I _)]) dL_law_1469 (Nat.le_of_ble_eq_true rfl) rfl ?_
          refine z_aload_n dL_law_1471 rfl 3 rfl ?_
          refine z_aload_n dL_law_1472 rfl 1 rfl ?_
          refine z_iload dL_law_1473 5 rfl ?_
          refine z_iconst (v := 1) dL_law_1475 (by decide) ?_
          refine z_iadd dL_law_1476 ?_
          refine z_pc (pc' := 1477) rfl ?_
          obtain ⟨i266, hP⟩ := hP
          refine z_sld hkb i266 dL_law_1477 ?_
          obtain ⟨a268, e268, hP⟩ := hP
          have k268 := f_x2 a268 e268
          refine z_wts (fun hT267 _ => ?_)
          refine z_cVi (c := 12) (n := 1) (Y1 := Y_X12_gotAnew) (st := []) e268 k268 z_cb12 (Nat.le_of_ble_eq_true rfl) rfl (s_X12_gotAnew k268 hP) rfl ⟨z_dc_X12_gotAnew, ⟨(Nat.le_of_ble_eq_true rfl), (Nat.le_of_ble_eq_true rfl)⟩, (Nat.le_of_ble_eq_true rfl)⟩ rfl zw_1802 zw_1803 zw_1804 zw_12 zw_1805 dL_law_1478 (fun x_267 M_267 hP _ x267 => ?_)
          have f_x1 := x267.t (k := 11) hT267 f_x1
          have k268 := x267.k (k := 12) hT267 k268
          have f_x3 := x267.t (k := 24) hT267 f_x3
          refine z_istore (lv' := [(6, z_I _), (5, z_I _), (0, z_O _), (1, z_O _), (2, z_O _), (3, z_O _), (4, z_I _)]) dL_law_1481 (Nat.le_of_ble_eq_true rfl) rfl ?_
          refine z_aload_n dL_law_1483 rfl 4 rfl ?_
          refine z_wts (fun hT269 _ => ?_)
          refine z_cVi (c := 12) (n := 0) (Y1 := Y_X12_thrown) (st := []) e268 k268 z_cb12 (Nat.le_of_ble_eq_true rfl) rfl (s_X12_thrown k268 hP) rfl ⟨z_dc_X12_thrown, ⟨(Nat.le_of_ble_eq_true rfl), (Nat.le_of_ble_eq_true rfl)⟩, (Nat.le_of_ble_eq_true rfl)⟩ rfl zw_1541 zw_1542 zw_1543 zw_12 zw_1544 dL_law_1484 (fun x_269 M_269 hP _ x269 => ?_)
          have f_x1 := x269.t (k := 11) hT269 f_x1
          have k268 := x269.k (k := 12) hT269 k268
          have f_x3 := x269.t (k := 24) hT269 f_x3
          refine z_iload dL_law_1487 1 rfl ?_
          refine z_pc (pc' := 1489) rfl ?_
          refine z_icmp_eq (tgt := 1494) dL_law_1489 (by decide) (fun h270 => ?_) (fun h270 => ?_)
          · replace hP := hP.1 h270
            refine z_iload dL_law_1494 1 rfl ?_
            refine z_if_ne (tgt := 1511) dL_law_1496 (by decide) (fun h271 => ?_) (fun h271 => ?_)
            · replace hP := hP.2 h271
              refine z_sub (lv' := [(0, z_O _), (1, z_O _), (2, z_O _), (3, z_O _), (4, z_I _)]) [2, 3, 4, 5, 6] rfl ?_
              exact v_L_law_1511 hl9 hkb (fun _ _ _ _ _ w0 w1 w2 hP => ih w0 w1 w2 hP) f_x1 (z_trn e268 k268) f_x3 hP
            · replace hP := hP.1 h271
              refine z_aload_n dL_law_1499 rfl 5 rfl ?_
              refine z_iconst (v := 0) dL_law_1500 (by decide) ?_
              obtain ⟨a272, e272, hP⟩ := hP
              have k272 := f_x3 a272 e272
              obtain ⟨i273, hP⟩ := hP
              refine z_lald e272 k272 i273 dL_law_1501 ?_
              refine z_iload dL_law_1502 0 rfl ?_
              refine z_i2l dL_law_1504 ?_
              refine z_pc (pc' := 1505) rfl ?_
              refine z_lcmp dL_law_1505 ?_
              refine z_if_eq (tgt := 1511) dL_law_1506 (by decide) (fun h274 => ?_) (fun h274 => ?_)
              · replace hP := hP.1 h274
                refine z_sub (lv' := [(0, z_O _), (1, z_O _), (2, z_O _), (3, z_O _), (4, z_I _)]) [2, 3, 4, 5, 6] rfl ?_
                exact v_L_law_1511 hl9 hkb (fun _ _ _ _ _ w0 w1 w2 hP => ih w0 w1 w2 hP) f_x1 (z_trn e268 k268) (z_trn e272 k272) hP
              · replace hP := hP.2 h274
                refine z_iconst (v := 0) dL_law_1509 (by decide) ?_
                exact z_retb rfl (Or.inl rfl) dL_law_1510 hP
          · replace hP := hP.2 h270
            refine z_iconst (v := 0) dL_law_1492 (by decide) ?_
            exact z_retb rfl (Or.inl rfl) dL_law_1493 hP
      · replace hP := hP.2.2.2.2.2.2.2.2.2.2.2.2.2.2.2.2.2.2.2.2.2.2.2.2.2.2 h36
        refine z_sub (lv' := [(0, z_O _), (1, z_O _), (2, z_O _), (3, z_O _), (4, z_I _)]) [0, 1, 2, 3, 4] rfl ?_
        exact v_L_law_1514 hl9 hkb (fun _ _ _ _ _ w0 w1 w2 hP => ih w0 w1 w2 hP) f_x1 f_x2 f_x3 hP
set_option maxRecDepth 100000 in
set_option maxHeartbeats 4000000 in
theorem s_L_law {G : z_G} {M : z_Mem} {a L : Nat} {xs : Nat → Int32} {Post : Int32 → z_Mem → Prop} (hl9 : G.1.stackTraces = false) (hkb : z_ki M a = 0) (hP : P_L_law L xs M Post) : z_V G Y_L_law (z_XL a L xs) M (z_QM G M (z_PB Post)) M 0 [(0, z_O (some a))] [] := by
  unfold P_L_law at hP
  obtain ⟨r275, hP⟩ := hP
  refine z_wts (fun hT275 _ => ?_)
  refine z_newo (c := 11) z_cb11 (Nat.le_of_ble_eq_true rfl) rfl z_df11 zw_22 zw_23 zw_1 r275 dL_law_0 (fun x275 k275 => ?_)
  refine z_nm (fun M_276 g_276 => ?_)
  replace hP := hP M_276 g_276
  have x275 := z_xe g_276 x275
  have k275 := z_xk g_276 k275
  refine z_dup dL_law_3 rfl ?_
  refine z_wts (fun hT277 _ => ?_)
  refine z_cIv (n := 0) (Y1 := Y_X11_init) (st := [z_O _]) rfl (s_X11_init k275 hP) rfl rfl rfl ⟨z_dc_X11_init, ⟨(Nat.le_of_ble_eq_true rfl), (Nat.le_of_ble_eq_true rfl)⟩, (Nat.le_of_ble_eq_true rfl)⟩ rfl zw_24 zw_25 zw_1 zw_26 dL_law_4 (fun M_277 hP _ x277 => ?_)
  have k275 := x277.k (k := 11) hT277 k275
  refine z_astore_n (lv' := [(1, z_O _), (0, z_O _)]) dL_law_7 rfl (Nat.le_of_ble_eq_true rfl) rfl ?_
  obtain ⟨r278, hP⟩ := hP
  refine z_wts (fun hT278 _ => ?_)
  refine z_newo (c := 12) z_cb12 (Nat.le_of_ble_eq_true rfl) rfl z_df12 zw_1247 zw_1248 zw_12 r278 dL_law_8 (fun x278 k278 => ?_)
  refine z_nm (fun M_279 g_279 => ?_)
  replace hP := hP M_279 g_279
  have x278 := z_xe g_279 x278
  have k278 := z_xk g_279 k278
  have k275 := x278.k (k := 11) hT278 k275
  refine z_dup dL_law_11 rfl ?_
  refine z_pc (pc' := 12) rfl ?_
  refine z_wts (fun hT280 _ => ?_)
  refine z_cIv (n := 0) (Y1 := Y_X12_init) (st := [z_O _]) rfl (s_X12_init k278 hP) rfl rfl rfl ⟨z_dc_X12_init, ⟨(Nat.le_of_ble_eq_true rfl), (Nat.le_of_ble_eq_true rfl)⟩, (Nat.le_of_ble_eq_true rfl)⟩ rfl zw_1249 zw_1250 zw_12 zw_1251 dL_law_12 (fun M_280 hP _ x280 => ?_)
  have k275 := x280.k (k := 11) hT280 k275
  have k278 := x280.k (k := 12) hT280 k278
  refine z_astore_n (lv' := [(2, z_O _), (1, z_O _), (0, z_O _)]) dL_law_15 rfl (Nat.le_of_ble_eq_true rfl) rfl ?_
  refine z_iconst (v := 1) dL_law_16 (by decide) ?_
  obtain ⟨r281, hP⟩ := hP
  refine z_wts (fun hT281 _ => ?_)
  refine z_newa (t := 25) (N := 1) (Or.inr (Or.inr ⟨rfl, rfl⟩)) zw_1806 rfl (Nat.le_of_ble_eq_true rfl) r281 dL_law_17 (fun x281 k281 => ?_)
  refine z_nm (fun M_282 g_282 => ?_)
  replace hP := hP M_282 g_282
  have x281 := z_xe g_282 x281
  have k281 := z_xk g_282 k281
  have k278 := x281.k (k := 12) hT281 k278
  have k275 := x281.k (k := 11) hT281 k275
  refine z_astore_n (lv' := [(3, z_O _), (2, z_O _), (1, z_O _), (0, z_O _)]) dL_law_19 rfl (Nat.le_of_ble_eq_true rfl) rfl ?_
  refine z_iconst (v := 0) dL_law_20 (by decide) ?_
  refine z_pc (pc' := 21) rfl ?_
  refine z_istore (lv' := [(4, z_I _), (3, z_O _), (2, z_O _), (1, z_O _), (0, z_O _)]) dL_law_21 (Nat.le_of_ble_eq_true rfl) rfl ?_
  obtain ⟨n283, hP⟩ := hP
  refine z_sub (lv' := [(0, z_O _), (1, z_O _), (2, z_O _), (3, z_O _), (4, z_I _)]) [4, 3, 2, 1, 0] rfl ?_
  exact v_L_law_23 hl9 hkb  n283 (z_trn rfl k275) (z_trn rfl k278) (z_trn rfl k281) hP
