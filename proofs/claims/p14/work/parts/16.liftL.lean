abbrev Y_L_setPath : z_Y := (yL_setPath, cL_setPath, 7, (some .int), 8, 138)
theorem z_dc_L_setPath : Y_L_setPath.1.cls ≠ "java/lang/invoke/MethodHandle" ∧ Y_L_setPath.1.cls ≠ "java/lang/invoke/VarHandle" ∧ (parseMethodDescriptor Y_L_setPath.1.desc).map (fun d => d.parameters.length) = some 6 := by decide +kernel
abbrev Y_L_setUp : z_Y := (yL_setUp, cL_setUp, 5, (some .int), 8, 134)
theorem z_dc_L_setUp : Y_L_setUp.1.cls ≠ "java/lang/invoke/MethodHandle" ∧ Y_L_setUp.1.cls ≠ "java/lang/invoke/VarHandle" ∧ (parseMethodDescriptor Y_L_setUp.1.desc).map (fun d => d.parameters.length) = some 4 := by decide +kernel
abbrev Y_L_lose : z_Y := (yL_lose, cL_lose, 5, (some .int), 8, 136)
theorem z_dc_L_lose : Y_L_lose.1.cls ≠ "java/lang/invoke/MethodHandle" ∧ Y_L_lose.1.cls ≠ "java/lang/invoke/VarHandle" ∧ (parseMethodDescriptor Y_L_lose.1.desc).map (fun d => d.parameters.length) = some 4 := by decide +kernel
abbrev Y_L_late : z_Y := (yL_late, cL_late, 5, (some .int), 8, 136)
theorem z_dc_L_late : Y_L_late.1.cls ≠ "java/lang/invoke/MethodHandle" ∧ Y_L_late.1.cls ≠ "java/lang/invoke/VarHandle" ∧ (parseMethodDescriptor Y_L_late.1.desc).map (fun d => d.parameters.length) = some 4 := by decide +kernel
abbrev Y_L_foreign : z_Y := (yL_foreign, cL_foreign, 5, (some .int), 8, 134)
theorem z_dc_L_foreign : Y_L_foreign.1.cls ≠ "java/lang/invoke/MethodHandle" ∧ Y_L_foreign.1.cls ≠ "java/lang/invoke/VarHandle" ∧ (parseMethodDescriptor Y_L_foreign.1.desc).map (fun d => d.parameters.length) = some 4 := by decide +kernel
abbrev Y_L_read : z_Y := (yL_read, cL_read, 5, (some .int), 8, 134)
theorem z_dc_L_read : Y_L_read.1.cls ≠ "java/lang/invoke/MethodHandle" ∧ Y_L_read.1.cls ≠ "java/lang/invoke/VarHandle" ∧ (parseMethodDescriptor Y_L_read.1.desc).map (fun d => d.parameters.length) = some 4 := by decide +kernel
abbrev Y_L_connect : z_Y := (yL_connect, cL_connect, 3, (some .int), 8, 133)
theorem z_dc_L_connect : Y_L_connect.1.cls ≠ "java/lang/invoke/MethodHandle" ∧ Y_L_connect.1.cls ≠ "java/lang/invoke/VarHandle" ∧ (parseMethodDescriptor Y_L_connect.1.desc).map (fun d => d.parameters.length) = some 2 := by decide +kernel
abbrev Y_L_write : z_Y := (yL_write, cL_write, 5, (some .int), 8, 135)
theorem z_dc_L_write : Y_L_write.1.cls ≠ "java/lang/invoke/MethodHandle" ∧ Y_L_write.1.cls ≠ "java/lang/invoke/VarHandle" ∧ (parseMethodDescriptor Y_L_write.1.desc).map (fun d => d.parameters.length) = some 4 := by decide +kernel
abbrev Y_L_setWay : z_Y := (yL_setWay, cL_setWay, 5, (some .int), 8, 136)
theorem z_dc_L_setWay : Y_L_setWay.1.cls ≠ "java/lang/invoke/MethodHandle" ∧ Y_L_setWay.1.cls ≠ "java/lang/invoke/VarHandle" ∧ (parseMethodDescriptor Y_L_setWay.1.desc).map (fun d => d.parameters.length) = some 4 := by decide +kernel
abbrev Y_L_check : z_Y := (yL_check, cL_check, 3, (some .int), 8, 131)
theorem z_dc_L_check : Y_L_check.1.cls ≠ "java/lang/invoke/MethodHandle" ∧ Y_L_check.1.cls ≠ "java/lang/invoke/VarHandle" ∧ (parseMethodDescriptor Y_L_check.1.desc).map (fun d => d.parameters.length) = some 2 := by decide +kernel
abbrev Y_L_use : z_Y := (yL_use, cL_use, 4, (some .int), 8, 134)
theorem z_dc_L_use : Y_L_use.1.cls ≠ "java/lang/invoke/MethodHandle" ∧ Y_L_use.1.cls ≠ "java/lang/invoke/VarHandle" ∧ (parseMethodDescriptor Y_L_use.1.desc).map (fun d => d.parameters.length) = some 3 := by decide +kernel
abbrev Y_L_changeKey : z_Y := (yL_changeKey, cL_changeKey, 3, (some .int), 8, 130)
theorem z_dc_L_changeKey : Y_L_changeKey.1.cls ≠ "java/lang/invoke/MethodHandle" ∧ Y_L_changeKey.1.cls ≠ "java/lang/invoke/VarHandle" ∧ (parseMethodDescriptor Y_L_changeKey.1.desc).map (fun d => d.parameters.length) = some 2 := by decide +kernel
abbrev Y_L_close : z_Y := (yL_close, cL_close, 2, (some .int), 8, 130)
theorem z_dc_L_close : Y_L_close.1.cls ≠ "java/lang/invoke/MethodHandle" ∧ Y_L_close.1.cls ≠ "java/lang/invoke/VarHandle" ∧ (parseMethodDescriptor Y_L_close.1.desc).map (fun d => d.parameters.length) = some 1 := by decide +kernel
abbrev Y_L_tick : z_Y := (yL_tick, cL_tick, 4, (some .int), 9, 199)
theorem z_dc_L_tick : Y_L_tick.1.cls ≠ "java/lang/invoke/MethodHandle" ∧ Y_L_tick.1.cls ≠ "java/lang/invoke/VarHandle" ∧ (parseMethodDescriptor Y_L_tick.1.desc).map (fun d => d.parameters.length) = some 3 := by decide +kernel
abbrev Y_L_state : z_Y := (yL_state, cL_state, 4, (some .int), 8, 133)
theorem z_dc_L_state : Y_L_state.1.cls ≠ "java/lang/invoke/MethodHandle" ∧ Y_L_state.1.cls ≠ "java/lang/invoke/VarHandle" ∧ (parseMethodDescriptor Y_L_state.1.desc).map (fun d => d.parameters.length) = some 3 := by decide +kernel
abbrev Y_L_path : z_Y := (yL_path, cL_path, 5, (some .int), 8, 135)
theorem z_dc_L_path : Y_L_path.1.cls ≠ "java/lang/invoke/MethodHandle" ∧ Y_L_path.1.cls ≠ "java/lang/invoke/VarHandle" ∧ (parseMethodDescriptor Y_L_path.1.desc).map (fun d => d.parameters.length) = some 4 := by decide +kernel
abbrev Y_L_stream : z_Y := (yL_stream, cL_stream, 5, (some .int), 8, 135)
theorem z_dc_L_stream : Y_L_stream.1.cls ≠ "java/lang/invoke/MethodHandle" ∧ Y_L_stream.1.cls ≠ "java/lang/invoke/VarHandle" ∧ (parseMethodDescriptor Y_L_stream.1.desc).map (fun d => d.parameters.length) = some 4 := by decide +kernel
abbrev Y_L_packet : z_Y := (yL_packet, cL_packet, 5, (some .int), 8, 135)
theorem z_dc_L_packet : Y_L_packet.1.cls ≠ "java/lang/invoke/MethodHandle" ∧ Y_L_packet.1.cls ≠ "java/lang/invoke/VarHandle" ∧ (parseMethodDescriptor Y_L_packet.1.desc).map (fun d => d.parameters.length) = some 4 := by decide +kernel
abbrev Y_L_count : z_Y := (yL_count, cL_count, 4, (some .int), 8, 135)
theorem z_dc_L_count : Y_L_count.1.cls ≠ "java/lang/invoke/MethodHandle" ∧ Y_L_count.1.cls ≠ "java/lang/invoke/VarHandle" ∧ (parseMethodDescriptor Y_L_count.1.desc).map (fun d => d.parameters.length) = some 3 := by decide +kernel
abbrev Y_L_inFlightAnew : z_Y := (yL_inFlightAnew, cL_inFlightAnew, 4, (some .int), 8, 134)
theorem z_dc_L_inFlightAnew : Y_L_inFlightAnew.1.cls ≠ "java/lang/invoke/MethodHandle" ∧ Y_L_inFlightAnew.1.cls ≠ "java/lang/invoke/VarHandle" ∧ (parseMethodDescriptor Y_L_inFlightAnew.1.desc).map (fun d => d.parameters.length) = some 3 := by decide +kernel
abbrev Y_L_gotAnew : z_Y := (yL_gotAnew, cL_gotAnew, 4, (some .int), 8, 133)
theorem z_dc_L_gotAnew : Y_L_gotAnew.1.cls ≠ "java/lang/invoke/MethodHandle" ∧ Y_L_gotAnew.1.cls ≠ "java/lang/invoke/VarHandle" ∧ (parseMethodDescriptor Y_L_gotAnew.1.desc).map (fun d => d.parameters.length) = some 3 := by decide +kernel
abbrev Y_L_law : z_Y := (x, code, 7, ret, 10, 222)
theorem z_dc_L_law : Y_L_law.1.cls ≠ "java/lang/invoke/MethodHandle" ∧ Y_L_law.1.cls ≠ "java/lang/invoke/VarHandle" ∧ (parseMethodDescriptor Y_L_law.1.desc).map (fun d => d.parameters.length) = some 1 := by decide +kernel
def hh_L_setPath : z_hp := [(0, 11, 14, 13), (0, 11, 18, 15)] 
theorem zh_L_setPath : Cond.codeWith Y_L_setPath.1 Y_L_setPath.2.1 Y_L_setPath.2.2.1 Y_L_setPath.2.2.2.1 hh_L_setPath ∈ z_ws := z_mem zx_534 rfl
theorem z_hok_L_setPath : z_hok Y_L_setPath.1.cls hh_L_setPath := by
  intro h hh
  rcases List.mem_cons.mp hh with rfl | hh
  · exact ⟨by decide, zw_535, List.mem_of_getElem? (i := 0) rfl⟩
  rcases List.mem_cons.mp hh with rfl | hh
  · exact ⟨by decide, zw_536, List.mem_of_getElem? (i := 1) rfl⟩
  cases hh
def hh_L_setUp : z_hp := [(0, 17, 20, 13)] 
theorem zh_L_setUp : Cond.codeWith Y_L_setUp.1 Y_L_setUp.2.1 Y_L_setUp.2.2.1 Y_L_setUp.2.2.2.1 hh_L_setUp ∈ z_ws := z_mem zx_637 rfl
theorem z_hok_L_setUp : z_hok Y_L_setUp.1.cls hh_L_setUp := by
  intro h hh
  rcases List.mem_cons.mp hh with rfl | hh
  · exact ⟨by decide, zw_535, List.mem_of_getElem? (i := 0) rfl⟩
  cases hh
def hh_L_lose : z_hp := [(0, 7, 10, 13), (0, 7, 14, 15)] 
theorem zh_L_lose : Cond.codeWith Y_L_lose.1 Y_L_lose.2.1 Y_L_lose.2.2.1 Y_L_lose.2.2.2.1 hh_L_lose ∈ z_ws := z_mem zx_644 rfl
theorem z_hok_L_lose : z_hok Y_L_lose.1.cls hh_L_lose := by
  intro h hh
  rcases List.mem_cons.mp hh with rfl | hh
  · exact ⟨by decide, zw_535, List.mem_of_getElem? (i := 0) rfl⟩
  rcases List.mem_cons.mp hh with rfl | hh
  · exact ⟨by decide, zw_536, List.mem_of_getElem? (i := 1) rfl⟩
  cases hh
def hh_L_late : z_hp := [(0, 7, 10, 13), (0, 7, 14, 15)] 
theorem zh_L_late : Cond.codeWith Y_L_late.1 Y_L_late.2.1 Y_L_late.2.2.1 Y_L_late.2.2.2.1 hh_L_late ∈ z_ws := z_mem zx_651 rfl
theorem z_hok_L_late : z_hok Y_L_late.1.cls hh_L_late := by
  intro h hh
  rcases List.mem_cons.mp hh with rfl | hh
  · exact ⟨by decide, zw_535, List.mem_of_getElem? (i := 0) rfl⟩
  rcases List.mem_cons.mp hh with rfl | hh
  · exact ⟨by decide, zw_536, List.mem_of_getElem? (i := 1) rfl⟩
  cases hh
def hh_L_foreign : z_hp := [(0, 10, 13, 13), (0, 10, 17, 15)] 
theorem zh_L_foreign : Cond.codeWith Y_L_foreign.1 Y_L_foreign.2.1 Y_L_foreign.2.2.1 Y_L_foreign.2.2.2.1 hh_L_foreign ∈ z_ws := z_mem zx_658 rfl
theorem z_hok_L_foreign : z_hok Y_L_foreign.1.cls hh_L_foreign := by
  intro h hh
  rcases List.mem_cons.mp hh with rfl | hh
  · exact ⟨by decide, zw_535, List.mem_of_getElem? (i := 0) rfl⟩
  rcases List.mem_cons.mp hh with rfl | hh
  · exact ⟨by decide, zw_536, List.mem_of_getElem? (i := 1) rfl⟩
  cases hh
def hh_L_read : z_hp := [(0, 10, 13, 13), (0, 10, 17, 15)] 
theorem zh_L_read : Cond.codeWith Y_L_read.1 Y_L_read.2.1 Y_L_read.2.2.1 Y_L_read.2.2.2.1 hh_L_read ∈ z_ws := z_mem zx_678 rfl
theorem z_hok_L_read : z_hok Y_L_read.1.cls hh_L_read := by
  intro h hh
  rcases List.mem_cons.mp hh with rfl | hh
  · exact ⟨by decide, zw_535, List.mem_of_getElem? (i := 0) rfl⟩
  rcases List.mem_cons.mp hh with rfl | hh
  · exact ⟨by decide, zw_536, List.mem_of_getElem? (i := 1) rfl⟩
  cases hh
def hh_L_connect : z_hp := [(0, 5, 8, 15), (0, 5, 11, 40)] 
theorem zh_L_connect : Cond.codeWith Y_L_connect.1 Y_L_connect.2.1 Y_L_connect.2.2.1 Y_L_connect.2.2.2.1 hh_L_connect ∈ z_ws := z_mem zx_759 rfl
theorem z_hok_L_connect : z_hok Y_L_connect.1.cls hh_L_connect := by
  intro h hh
  rcases List.mem_cons.mp hh with rfl | hh
  · exact ⟨by decide, zw_536, List.mem_of_getElem? (i := 1) rfl⟩
  rcases List.mem_cons.mp hh with rfl | hh
  · exact ⟨by decide, zw_760, List.mem_of_getElem? (i := 2) rfl⟩
  cases hh
def hh_L_write : z_hp := [(0, 10, 13, 13), (0, 10, 17, 15), (0, 10, 21, 40)] 
theorem zh_L_write : Cond.codeWith Y_L_write.1 Y_L_write.2.1 Y_L_write.2.2.1 Y_L_write.2.2.2.1 hh_L_write ∈ z_ws := z_mem zx_805 rfl
theorem z_hok_L_write : z_hok Y_L_write.1.cls hh_L_write := by
  intro h hh
  rcases List.mem_cons.mp hh with rfl | hh
  · exact ⟨by decide, zw_535, List.mem_of_getElem? (i := 0) rfl⟩
  rcases List.mem_cons.mp hh with rfl | hh
  · exact ⟨by decide, zw_536, List.mem_of_getElem? (i := 1) rfl⟩
  rcases List.mem_cons.mp hh with rfl | hh
  · exact ⟨by decide, zw_760, List.mem_of_getElem? (i := 2) rfl⟩
  cases hh
def hh_L_setWay : z_hp := [(0, 10, 13, 13), (0, 10, 17, 15)] 
theorem zh_L_setWay : Cond.codeWith Y_L_setWay.1 Y_L_setWay.2.1 Y_L_setWay.2.2.1 Y_L_setWay.2.2.2.1 hh_L_setWay ∈ z_ws := z_mem zx_812 rfl
theorem z_hok_L_setWay : z_hok Y_L_setWay.1.cls hh_L_setWay := by
  intro h hh
  rcases List.mem_cons.mp hh with rfl | hh
  · exact ⟨by decide, zw_535, List.mem_of_getElem? (i := 0) rfl⟩
  rcases List.mem_cons.mp hh with rfl | hh
  · exact ⟨by decide, zw_536, List.mem_of_getElem? (i := 1) rfl⟩
  cases hh
def hh_L_check : z_hp := [(0, 5, 8, 13), (0, 5, 11, 40)] 
theorem zh_L_check : Cond.codeWith Y_L_check.1 Y_L_check.2.1 Y_L_check.2.2.1 Y_L_check.2.2.2.1 hh_L_check ∈ z_ws := z_mem zx_823 rfl
theorem z_hok_L_check : z_hok Y_L_check.1.cls hh_L_check := by
  intro h hh
  rcases List.mem_cons.mp hh with rfl | hh
  · exact ⟨by decide, zw_535, List.mem_of_getElem? (i := 0) rfl⟩
  rcases List.mem_cons.mp hh with rfl | hh
  · exact ⟨by decide, zw_760, List.mem_of_getElem? (i := 2) rfl⟩
  cases hh
def hh_L_use : z_hp := [(0, 9, 12, 15), (0, 9, 15, 40)] 
theorem zh_L_use : Cond.codeWith Y_L_use.1 Y_L_use.2.1 Y_L_use.2.2.1 Y_L_use.2.2.2.1 hh_L_use ∈ z_ws := z_mem zx_833 rfl
theorem z_hok_L_use : z_hok Y_L_use.1.cls hh_L_use := by
  intro h hh
  rcases List.mem_cons.mp hh with rfl | hh
  · exact ⟨by decide, zw_536, List.mem_of_getElem? (i := 1) rfl⟩
  rcases List.mem_cons.mp hh with rfl | hh
  · exact ⟨by decide, zw_760, List.mem_of_getElem? (i := 2) rfl⟩
  cases hh
def hh_L_changeKey : z_hp := [(0, 8, 11, 40)] 
theorem zh_L_changeKey : Cond.codeWith Y_L_changeKey.1 Y_L_changeKey.2.1 Y_L_changeKey.2.2.1 Y_L_changeKey.2.2.2.1 hh_L_changeKey ∈ z_ws := z_mem zx_840 rfl
theorem z_hok_L_changeKey : z_hok Y_L_changeKey.1.cls hh_L_changeKey := by
  intro h hh
  rcases List.mem_cons.mp hh with rfl | hh
  · exact ⟨by decide, zw_760, List.mem_of_getElem? (i := 2) rfl⟩
  cases hh
def hh_L_close : z_hp := [(0, 4, 7, 40)] 
theorem zh_L_close : Cond.codeWith Y_L_close.1 Y_L_close.2.1 Y_L_close.2.2.1 Y_L_close.2.2.2.1 hh_L_close ∈ z_ws := z_mem zx_858 rfl
theorem z_hok_L_close : z_hok Y_L_close.1.cls hh_L_close := by
  intro h hh
  rcases List.mem_cons.mp hh with rfl | hh
  · exact ⟨by decide, zw_760, List.mem_of_getElem? (i := 2) rfl⟩
  cases hh
def hh_L_tick : z_hp := [(0, 9, 12, 15), (0, 9, 15, 40)] 
theorem zh_L_tick : Cond.codeWith Y_L_tick.1 Y_L_tick.2.1 Y_L_tick.2.2.1 Y_L_tick.2.2.2.1 hh_L_tick ∈ z_ws := z_mem zx_869 rfl
theorem z_hok_L_tick : z_hok Y_L_tick.1.cls hh_L_tick := by
  intro h hh
  rcases List.mem_cons.mp hh with rfl | hh
  · exact ⟨by decide, zw_536, List.mem_of_getElem? (i := 1) rfl⟩
  rcases List.mem_cons.mp hh with rfl | hh
  · exact ⟨by decide, zw_760, List.mem_of_getElem? (i := 2) rfl⟩
  cases hh
def hh_L_state : z_hp := [(0, 9, 12, 15)] 
theorem zh_L_state : Cond.codeWith Y_L_state.1 Y_L_state.2.1 Y_L_state.2.2.1 Y_L_state.2.2.2.1 hh_L_state ∈ z_ws := z_mem zx_1188 rfl
theorem z_hok_L_state : z_hok Y_L_state.1.cls hh_L_state := by
  intro h hh
  rcases List.mem_cons.mp hh with rfl | hh
  · exact ⟨by decide, zw_536, List.mem_of_getElem? (i := 1) rfl⟩
  cases hh
def hh_L_path : z_hp := [(0, 10, 13, 13), (0, 10, 17, 15)] 
theorem zh_L_path : Cond.codeWith Y_L_path.1 Y_L_path.2.1 Y_L_path.2.2.1 Y_L_path.2.2.2.1 hh_L_path ∈ z_ws := z_mem zx_1195 rfl
theorem z_hok_L_path : z_hok Y_L_path.1.cls hh_L_path := by
  intro h hh
  rcases List.mem_cons.mp hh with rfl | hh
  · exact ⟨by decide, zw_535, List.mem_of_getElem? (i := 0) rfl⟩
  rcases List.mem_cons.mp hh with rfl | hh
  · exact ⟨by decide, zw_536, List.mem_of_getElem? (i := 1) rfl⟩
  cases hh
def hh_L_stream : z_hp := [(0, 10, 13, 13), (0, 10, 17, 15)] 
theorem zh_L_stream : Cond.codeWith Y_L_stream.1 Y_L_stream.2.1 Y_L_stream.2.2.1 Y_L_stream.2.2.2.1 hh_L_stream ∈ z_ws := z_mem zx_1205 rfl
theorem z_hok_L_stream : z_hok Y_L_stream.1.cls hh_L_stream := by
  intro h hh
  rcases List.mem_cons.mp hh with rfl | hh
  · exact ⟨by decide, zw_535, List.mem_of_getElem? (i := 0) rfl⟩
  rcases List.mem_cons.mp hh with rfl | hh
  · exact ⟨by decide, zw_536, List.mem_of_getElem? (i := 1) rfl⟩
  cases hh
def hh_L_packet : z_hp := [(0, 10, 13, 13), (0, 10, 17, 15)] 
theorem zh_L_packet : Cond.codeWith Y_L_packet.1 Y_L_packet.2.1 Y_L_packet.2.2.1 Y_L_packet.2.2.2.1 hh_L_packet ∈ z_ws := z_mem zx_1212 rfl
theorem z_hok_L_packet : z_hok Y_L_packet.1.cls hh_L_packet := by
  intro h hh
  rcases List.mem_cons.mp hh with rfl | hh
  · exact ⟨by decide, zw_535, List.mem_of_getElem? (i := 0) rfl⟩
  rcases List.mem_cons.mp hh with rfl | hh
  · exact ⟨by decide, zw_536, List.mem_of_getElem? (i := 1) rfl⟩
  cases hh
def hh_L_count : z_hp := [(0, 9, 12, 15)] 
theorem zh_L_count : Cond.codeWith Y_L_count.1 Y_L_count.2.1 Y_L_count.2.2.1 Y_L_count.2.2.2.1 hh_L_count ∈ z_ws := z_mem zx_1225 rfl
theorem z_hok_L_count : z_hok Y_L_count.1.cls hh_L_count := by
  intro h hh
  rcases List.mem_cons.mp hh with rfl | hh
  · exact ⟨by decide, zw_536, List.mem_of_getElem? (i := 1) rfl⟩
  cases hh
def hh_L_inFlightAnew : z_hp := [(0, 9, 12, 13)] 
theorem zh_L_inFlightAnew : Cond.codeWith Y_L_inFlightAnew.1 Y_L_inFlightAnew.2.1 Y_L_inFlightAnew.2.2.1 Y_L_inFlightAnew.2.2.2.1 hh_L_inFlightAnew ∈ z_ws := z_mem zx_1232 rfl
theorem z_hok_L_inFlightAnew : z_hok Y_L_inFlightAnew.1.cls hh_L_inFlightAnew := by
  intro h hh
  rcases List.mem_cons.mp hh with rfl | hh
  · exact ⟨by decide, zw_535, List.mem_of_getElem? (i := 0) rfl⟩
  cases hh
def hh_L_gotAnew : z_hp := [(0, 9, 12, 13)] 
theorem zh_L_gotAnew : Cond.codeWith Y_L_gotAnew.1 Y_L_gotAnew.2.1 Y_L_gotAnew.2.2.1 Y_L_gotAnew.2.2.2.1 hh_L_gotAnew ∈ z_ws := z_mem zx_1239 rfl
theorem z_hok_L_gotAnew : z_hok Y_L_gotAnew.1.cls hh_L_gotAnew := by
  intro h hh
  rcases List.mem_cons.mp hh with rfl | hh
  · exact ⟨by decide, zw_535, List.mem_of_getElem? (i := 0) rfl⟩
  cases hh
set_option maxRecDepth 100000 in
def P_L_setPath (p1 : Option Nat) (p2 : Int32) (p3 : Int32) (p4 : Int32) (p5 : Int32) (p6 : Int32) (M : z_Mem) (Post : Int32 → z_Mem → Prop) : Prop := z_nn p1 fun a2 => (P_X11_setPath a2 p2 p3 p4 p5 p6 M (fun M_1 => Post 0 M_1) (fun E M_1 => (E = "java/lang/IndexOutOfBoundsException" ∧ Post 1 M_1) ∨ (E = "java/lang/IllegalArgumentException" ∧ Post 2 M_1)))
set_option maxRecDepth 100000 in
set_option maxHeartbeats 4000000 in
theorem s_L_setPath {G : z_G} {M : z_Mem} {p1 : Option Nat} {p2 : Int32} {p3 : Int32} {p4 : Int32} {p5 : Int32} {p6 : Int32} {Post : Int32 → z_Mem → Prop} (hl9 : G.1.stackTraces = false) (f_p1 : z_tr M p1 12) (hP : P_L_setPath p1 p2 p3 p4 p5 p6 M Post) : z_MtH G Y_L_setPath hh_L_setPath M [z_O p1, z_I p2, z_I p3, z_I p4, z_I p5, z_I p6] (z_PI Post) := by
  refine z_ofVH (by decide) (Nat.le_of_ble_eq_true rfl) ?_
  unfold P_L_setPath at hP
  refine z_sub (lv' := [(0, z_O p1), (1, z_I p2), (2, z_I p3), (3, z_I p4), (4, z_I p5), (5, z_I p6)]) [0, 1, 2, 3, 4, 5] rfl ?_
  refine z_aload_n dL_setPath_0 rfl 0 rfl ?_
  refine z_iload_n dL_setPath_1 rfl 1 rfl ?_
  refine z_iload_n dL_setPath_2 rfl 2 rfl ?_
  refine z_iload_n dL_setPath_3 rfl 3 rfl ?_
  refine z_iload dL_setPath_4 4 rfl ?_
  refine z_iload dL_setPath_6 5 rfl ?_
  refine z_pc (pc' := 8) rfl ?_
  obtain ⟨a2, e2, hP⟩ := hP
  have k2 := f_p1 a2 e2
  refine z_wts (fun hT1 _ => ?_)
  refine z_hV (hh := hh_L_setPath) (c := 11) (n := 5) (Y1 := Y_X11_setPath) (st := []) e2 k2 z_cb11 (Nat.le_of_ble_eq_true rfl) rfl (s_X11_setPath hl9 k2 hP) rfl ⟨z_dc_X11_setPath, ⟨(Nat.le_of_ble_eq_true rfl), (Nat.le_of_ble_eq_true rfl)⟩, (Nat.le_of_ble_eq_true rfl)⟩ rfl zw_537 zw_538 zw_539 zw_1 zw_540 dL_setPath_8 z_hok_L_setPath (fun E M_1 hE9 hP _ x1 => ?_) (fun r_1 M_1 hP _ x1 => ?_)
  · rcases hP with ⟨rfl, hP⟩ | ⟨rfl, hP⟩
    · refine ⟨14, by decide, fun q_1 => ?_⟩
      refine z_astore (lv' := [(6, z_O _), (0, z_O _), (1, z_I _), (2, z_I _), (3, z_I _), (4, z_I _), (5, z_I _)]) dL_setPath_14 (Nat.le_of_ble_eq_true rfl) rfl ?_
      refine z_iconst (v := 1) dL_setPath_16 (by decide) ?_
      exact z_reti rfl dL_setPath_17 hP
    · refine ⟨18, by decide, fun q_1 => ?_⟩
      refine z_astore (lv' := [(6, z_O _), (0, z_O _), (1, z_I _), (2, z_I _), (3, z_I _), (4, z_I _), (5, z_I _)]) dL_setPath_18 (Nat.le_of_ble_eq_true rfl) rfl ?_
      refine z_iconst (v := 2) dL_setPath_20 (by decide) ?_
      exact z_reti rfl dL_setPath_21 hP
  · obtain ⟨rfl, hP⟩ := hP
    refine z_stk (st' := []) rfl ?_
    have k2 := x1.k (k := 11) hT1 k2
    refine z_goto (tgt := 22) dL_setPath_11 (by decide) ?_
    refine z_iconst (v := 0) dL_setPath_22 (by decide) ?_
    exact z_reti rfl dL_setPath_23 hP
set_option maxRecDepth 100000 in
def P_L_setUp (p1 : Option Nat) (p2 : Int32) (p3 : Int32) (p4 : Option Nat) (M : z_Mem) (Post : Int32 → z_Mem → Prop) : Prop := z_nn p1 fun a2 => (P_X11_setUp a2 p2 p3 M (fun x_1 M_1 => ((x_1 = 0 → z_nn p4 fun a4 => (vp_in 0 (z_ln M_1 a4) ∧ (∀ M_6 : z_Mem, M_6 = z_sal M_1 a4 ((0 : Int32).toNatClampNeg) 0 → (Post 0 M_6)))) ∧ (¬ x_1 = 0 → z_nn p4 fun a7 => (vp_in 0 (z_ln M_1 a7) ∧ (∀ M_9 : z_Mem, M_9 = z_sal M_1 a7 ((0 : Int32).toNatClampNeg) 1 → (Post 0 M_9)))))) (fun E M_1 => (E = "java/lang/IndexOutOfBoundsException" ∧ Post 1 M_1)))
set_option maxRecDepth 100000 in
set_option maxHeartbeats 4000000 in
theorem s_L_setUp {G : z_G} {M : z_Mem} {p1 : Option Nat} {p2 : Int32} {p3 : Int32} {p4 : Option Nat} {Post : Int32 → z_Mem → Prop} (hl9 : G.1.stackTraces = false) (f_p1 : z_tr M p1 12) (f_p3 : p3 = 0 ∨ p3 = 1) (f_p4 : z_tr M p4 25) (hP : P_L_setUp p1 p2 p3 p4 M Post) : z_MtH G Y_L_setUp hh_L_setUp M [z_O p1, z_I p2, z_I p3, z_O p4] (z_PI Post) := by
  refine z_ofVH (by decide) (Nat.le_of_ble_eq_true rfl) ?_
  unfold P_L_setUp at hP
  refine z_sub (lv' := [(0, z_O p1), (1, z_I p2), (2, z_I p3), (3, z_O p4)]) [0, 1, 2, 3] rfl ?_
  refine z_aload_n dL_setUp_0 rfl 3 rfl ?_
  refine z_iconst (v := 0) dL_setUp_1 (by decide) ?_
  refine z_aload_n dL_setUp_2 rfl 0 rfl ?_
  refine z_iload_n dL_setUp_3 rfl 1 rfl ?_
  refine z_iload_n dL_setUp_4 rfl 2 rfl ?_
  obtain ⟨a2, e2, hP⟩ := hP
  have k2 := f_p1 a2 e2
  refine z_wts (fun hT1 _ => ?_)
  refine z_hV (hh := hh_L_setUp) (c := 11) (n := 2) (Y1 := Y_X11_setUp) (st := [z_I _, z_O _]) e2 k2 z_cb11 (Nat.le_of_ble_eq_true rfl) rfl (s_X11_setUp hl9 k2 f_p3 hP) rfl ⟨z_dc_X11_setUp, ⟨(Nat.le_of_ble_eq_true rfl), (Nat.le_of_ble_eq_true rfl)⟩, (Nat.le_of_ble_eq_true rfl)⟩ rfl zw_638 zw_639 zw_640 zw_1 zw_641 dL_setUp_5 z_hok_L_setUp (fun E M_1 hE9 hP _ x1 => ?_) (fun r_1 M_1 hP _ x1 => ?_)
  · obtain ⟨rfl, hP⟩ := hP
    · refine ⟨20, by decide, fun q_1 => ?_⟩
      refine z_astore (lv' := [(4, z_O _), (0, z_O _), (1, z_I _), (2, z_I _), (3, z_O _)]) dL_setUp_20 (Nat.le_of_ble_eq_true rfl) rfl ?_
      refine z_pc (pc' := 22) rfl ?_
      refine z_iconst (v := 1) dL_setUp_22 (by decide) ?_
      exact z_reti rfl dL_setUp_23 hP
  · obtain ⟨x_1, rfl, b1, hP⟩ := hP
    refine z_stk (st' := [z_I _, z_I _, z_O _]) rfl ?_
    have k2 := x1.k (k := 11) hT1 k2
    have f_p4 := x1.t (k := 24) hT1 f_p4
    refine z_if_eq (tgt := 15) dL_setUp_8 (by decide) (fun h3 => ?_) (fun h3 => ?_)
    · replace hP := hP.1 h3
      refine z_lconst (v := 0) dL_setUp_15 (by decide) ?_
      refine z_pc (pc' := 16) rfl ?_
      obtain ⟨a4, e4, hP⟩ := hP
      have k4 := f_p4 a4 e4
      obtain ⟨i5, hP⟩ := hP
      refine z_last e4 k4 i5 dL_setUp_16 ?_
      refine z_nm (fun M_6 g_6 => ?_)
      replace hP := hP M_6 g_6
      have q_6 := z_k5 g_6
      have k2 := z_kk q_6 k2
      have k4 := z_kk q_6 k4
      refine z_goto (tgt := 24) dL_setUp_17 (by decide) ?_
      refine z_iconst (v := 0) dL_setUp_24 (by decide) ?_
      exact z_reti rfl dL_setUp_25 hP
    · replace hP := hP.2 h3
      refine z_lconst (v := 1) dL_setUp_11 (by decide) ?_
      refine z_pc (pc' := 12) rfl ?_
      refine z_goto (tgt := 16) dL_setUp_12 (by decide) ?_
      obtain ⟨a7, e7, hP⟩ := hP
      have k7 := f_p4 a7 e7
      obtain ⟨i8, hP⟩ := hP
      refine z_last e7 k7 i8 dL_setUp_16 ?_
      refine z_nm (fun M_9 g_9 => ?_)
      replace hP := hP M_9 g_9
      have q_9 := z_k5 g_9
      have k2 := z_kk q_9 k2
      have k7 := z_kk q_9 k7
      refine z_goto (tgt := 24) dL_setUp_17 (by decide) ?_
      refine z_iconst (v := 0) dL_setUp_24 (by decide) ?_
      exact z_reti rfl dL_setUp_25 hP
set_option maxRecDepth 100000 in
def P_L_lose (p1 : Option Nat) (p2 : Int32) (p3 : Int32) (p4 : Int32) (M : z_Mem) (Post : Int32 → z_Mem → Prop) : Prop := z_nn p1 fun a2 => (P_X11_lose a2 p2 p3 p4 M (fun M_1 => Post 0 M_1) (fun E M_1 => (E = "java/lang/IndexOutOfBoundsException" ∧ Post 1 M_1) ∨ (E = "java/lang/IllegalArgumentException" ∧ Post 2 M_1)))
set_option maxRecDepth 100000 in
set_option maxHeartbeats 4000000 in
theorem s_L_lose {G : z_G} {M : z_Mem} {p1 : Option Nat} {p2 : Int32} {p3 : Int32} {p4 : Int32} {Post : Int32 → z_Mem → Prop} (hl9 : G.1.stackTraces = false) (f_p1 : z_tr M p1 12) (f_p3 : p3 = 0 ∨ p3 = 1) (hP : P_L_lose p1 p2 p3 p4 M Post) : z_MtH G Y_L_lose hh_L_lose M [z_O p1, z_I p2, z_I p3, z_I p4] (z_PI Post) := by
  refine z_ofVH (by decide) (Nat.le_of_ble_eq_true rfl) ?_
  unfold P_L_lose at hP
  refine z_sub (lv' := [(0, z_O p1), (1, z_I p2), (2, z_I p3), (3, z_I p4)]) [0, 1, 2, 3] rfl ?_
  refine z_aload_n dL_lose_0 rfl 0 rfl ?_
  refine z_iload_n dL_lose_1 rfl 1 rfl ?_
  refine z_iload_n dL_lose_2 rfl 2 rfl ?_
  refine z_iload_n dL_lose_3 rfl 3 rfl ?_
  obtain ⟨a2, e2, hP⟩ := hP
  have k2 := f_p1 a2 e2
  refine z_wts (fun hT1 _ => ?_)
  refine z_hV (hh := hh_L_lose) (c := 11) (n := 3) (Y1 := Y_X11_lose) (st := []) e2 k2 z_cb11 (Nat.le_of_ble_eq_true rfl) rfl (s_X11_lose hl9 k2 f_p3 hP) rfl ⟨z_dc_X11_lose, ⟨(Nat.le_of_ble_eq_true rfl), (Nat.le_of_ble_eq_true rfl)⟩, (Nat.le_of_ble_eq_true rfl)⟩ rfl zw_645 zw_646 zw_647 zw_1 zw_648 dL_lose_4 z_hok_L_lose (fun E M_1 hE9 hP _ x1 => ?_) (fun r_1 M_1 hP _ x1 => ?_)
  · rcases hP with ⟨rfl, hP⟩ | ⟨rfl, hP⟩
    · refine ⟨10, by decide, fun q_1 => ?_⟩
      refine z_astore (lv' := [(4, z_O _), (0, z_O _), (1, z_I _), (2, z_I _), (3, z_I _)]) dL_lose_10 (Nat.le_of_ble_eq_true rfl) rfl ?_
      refine z_iconst (v := 1) dL_lose_12 (by decide) ?_
      refine z_pc (pc' := 13) rfl ?_
      exact z_reti rfl dL_lose_13 hP
    · refine ⟨14, by decide, fun q_1 => ?_⟩
      refine z_astore (lv' := [(4, z_O _), (0, z_O _), (1, z_I _), (2, z_I _), (3, z_I _)]) dL_lose_14 (Nat.le_of_ble_eq_true rfl) rfl ?_
      refine z_iconst (v := 2) dL_lose_16 (by decide) ?_
      refine z_pc (pc' := 17) rfl ?_
      exact z_reti rfl dL_lose_17 hP
  · obtain ⟨rfl, hP⟩ := hP
    refine z_stk (st' := []) rfl ?_
    have k2 := x1.k (k := 11) hT1 k2
    refine z_goto (tgt := 18) dL_lose_7 (by decide) ?_
    refine z_iconst (v := 0) dL_lose_18 (by decide) ?_
    exact z_reti rfl dL_lose_19 hP
set_option maxRecDepth 100000 in
def P_L_late (p1 : Option Nat) (p2 : Int32) (p3 : Int32) (p4 : Int32) (M : z_Mem) (Post : Int32 → z_Mem → Prop) : Prop := z_nn p1 fun a2 => (P_X11_late a2 p2 p3 p4 M (fun M_1 => Post 0 M_1) (fun E M_1 => (E = "java/lang/IndexOutOfBoundsException" ∧ Post 1 M_1) ∨ (E = "java/lang/IllegalArgumentException" ∧ Post 2 M_1)))
set_option maxRecDepth 100000 in
set_option maxHeartbeats 4000000 in
theorem s_L_late {G : z_G} {M : z_Mem} {p1 : Option Nat} {p2 : Int32} {p3 : Int32} {p4 : Int32} {Post : Int32 → z_Mem → Prop} (hl9 : G.1.stackTraces = false) (f_p1 : z_tr M p1 12) (hP : P_L_late p1 p2 p3 p4 M Post) : z_MtH G Y_L_late hh_L_late M [z_O p1, z_I p2, z_I p3, z_I p4] (z_PI Post) := by
  refine z_ofVH (by decide) (Nat.le_of_ble_eq_true rfl) ?_
  unfold P_L_late at hP
  refine z_sub (lv' := [(0, z_O p1), (1, z_I p2), (2, z_I p3), (3, z_I p4)]) [0, 1, 2, 3] rfl ?_
  refine z_aload_n dL_late_0 rfl 0 rfl ?_
  refine z_iload_n dL_late_1 rfl 1 rfl ?_
  refine z_iload_n dL_late_2 rfl 2 rfl ?_
  refine z_iload_n dL_late_3 rfl 3 rfl ?_
  obtain ⟨a2, e2, hP⟩ := hP
  have k2 := f_p1 a2 e2
  refine z_wts (fun hT1 _ => ?_)
  refine z_hV (hh := hh_L_late) (c := 11) (n := 3) (Y1 := Y_X11_late) (st := []) e2 k2 z_cb11 (Nat.le_of_ble_eq_true rfl) rfl (s_X11_late hl9 k2 hP) rfl ⟨z_dc_X11_late, ⟨(Nat.le_of_ble_eq_true rfl), (Nat.le_of_ble_eq_true rfl)⟩, (Nat.le_of_ble_eq_true rfl)⟩ rfl zw_652 zw_653 zw_654 zw_1 zw_655 dL_late_4 z_hok_L_late (fun E M_1 hE9 hP _ x1 => ?_) (fun r_1 M_1 hP _ x1 => ?_)
  · rcases hP with ⟨rfl, hP⟩ | ⟨rfl, hP⟩
    · refine ⟨10, by decide, fun q_1 => ?_⟩
      refine z_astore (lv' := [(4, z_O _), (0, z_O _), (1, z_I _), (2, z_I _), (3, z_I _)]) dL_late_10 (Nat.le_of_ble_eq_true rfl) rfl ?_
      refine z_iconst (v := 1) dL_late_12 (by decide) ?_
      refine z_pc (pc' := 13) rfl ?_
      exact z_reti rfl dL_late_13 hP
    · refine ⟨14, by decide, fun q_1 => ?_⟩
      refine z_astore (lv' := [(4, z_O _), (0, z_O _), (1, z_I _), (2, z_I _), (3, z_I _)]) dL_late_14 (Nat.le_of_ble_eq_true rfl) rfl ?_
      refine z_iconst (v := 2) dL_late_16 (by decide) ?_
      refine z_pc (pc' := 17) rfl ?_
      exact z_reti rfl dL_late_17 hP
  · obtain ⟨rfl, hP⟩ := hP
    refine z_stk (st' := []) rfl ?_
    have k2 := x1.k (k := 11) hT1 k2
    refine z_goto (tgt := 18) dL_late_7 (by decide) ?_
    refine z_iconst (v := 0) dL_late_18 (by decide) ?_
    exact z_reti rfl dL_late_19 hP
set_option maxRecDepth 100000 in
def P_L_foreign (p1 : Option Nat) (p2 : Int32) (p3 : Int32) (p4 : Option Nat) (M : z_Mem) (Post : Int32 → z_Mem → Prop) : Prop := z_nn p1 fun a2 => (P_X11_foreign a2 p2 p3 M (fun x_1 M_1 => z_nn p4 fun a3 => (vp_in 0 (z_ln M_1 a3) ∧ (∀ M_5 : z_Mem, M_5 = z_sal M_1 a3 ((0 : Int32).toNatClampNeg) ((x_1 : Int32).toInt64) → (Post 0 M_5)))) (fun E M_1 => (E = "java/lang/IndexOutOfBoundsException" ∧ Post 1 M_1) ∨ (E = "java/lang/IllegalArgumentException" ∧ Post 2 M_1)))
set_option maxRecDepth 100000 in
set_option maxHeartbeats 4000000 in
theorem s_L_foreign {G : z_G} {M : z_Mem} {p1 : Option Nat} {p2 : Int32} {p3 : Int32} {p4 : Option Nat} {Post : Int32 → z_Mem → Prop} (hl9 : G.1.stackTraces = false) (f_p1 : z_tr M p1 12) (f_p4 : z_tr M p4 25) (hP : P_L_foreign p1 p2 p3 p4 M Post) : z_MtH G Y_L_foreign hh_L_foreign M [z_O p1, z_I p2, z_I p3, z_O p4] (z_PI Post) := by
  refine z_ofVH (by decide) (Nat.le_of_ble_eq_true rfl) ?_
  unfold P_L_foreign at hP
  refine z_sub (lv' := [(0, z_O p1), (1, z_I p2), (2, z_I p3), (3, z_O p4)]) [0, 1, 2, 3] rfl ?_
  refine z_aload_n dL_foreign_0 rfl 3 rfl ?_
  refine z_iconst (v := 0) dL_foreign_1 (by decide) ?_
  refine z_aload_n dL_foreign_2 rfl 0 rfl ?_
  refine z_iload_n dL_foreign_3 rfl 1 rfl ?_
  refine z_iload_n dL_foreign_4 rfl 2 rfl ?_
  obtain ⟨a2, e2, hP⟩ := hP
  have k2 := f_p1 a2 e2
  refine z_wts (fun hT1 _ => ?_)
  refine z_hV (hh := hh_L_foreign) (c := 11) (n := 2) (Y1 := Y_X11_foreign) (st := [z_I _, z_O _]) e2 k2 z_cb11 (Nat.le_of_ble_eq_true rfl) rfl (s_X11_foreign hl9 k2 hP) rfl ⟨z_dc_X11_foreign, ⟨(Nat.le_of_ble_eq_true rfl), (Nat.le_of_ble_eq_true rfl)⟩, (Nat.le_of_ble_eq_true rfl)⟩ rfl zw_659 zw_660 zw_661 zw_1 zw_662 dL_foreign_5 z_hok_L_foreign (fun E M_1 hE9 hP _ x1 => ?_) (fun r_1 M_1 hP _ x1 => ?_)
  · rcases hP with ⟨rfl, hP⟩ | ⟨rfl, hP⟩
    · refine ⟨13, by decide, fun q_1 => ?_⟩
      refine z_astore (lv' := [(4, z_O _), (0, z_O _), (1, z_I _), (2, z_I _), (3, z_O _)]) dL_foreign_13 (Nat.le_of_ble_eq_true rfl) rfl ?_
      refine z_pc (pc' := 15) rfl ?_
      refine z_iconst (v := 1) dL_foreign_15 (by decide) ?_
      exact z_reti rfl dL_foreign_16 hP
    · refine ⟨17, by decide, fun q_1 => ?_⟩
      refine z_astore (lv' := [(4, z_O _), (0, z_O _), (1, z_I _), (2, z_I _), (3, z_O _)]) dL_foreign_17 (Nat.le_of_ble_eq_true rfl) rfl ?_
      refine z_pc (pc' := 19) rfl ?_
      refine z_iconst (v := 2) dL_foreign_19 (by decide) ?_
      exact z_reti rfl dL_foreign_20 hP
  · obtain ⟨x_1, rfl, hP⟩ := hP
    refine z_stk (st' := [z_I _, z_I _, z_O _]) rfl ?_
    have k2 := x1.k (k := 11) hT1 k2
    have f_p4 := x1.t (k := 24) hT1 f_p4
    refine z_i2l dL_foreign_8 ?_
    refine z_pc (pc' := 9) rfl ?_
    obtain ⟨a3, e3, hP⟩ := hP
    have k3 := f_p4 a3 e3
    obtain ⟨i4, hP⟩ := hP
    refine z_last e3 k3 i4 dL_foreign_9 ?_
    refine z_nm (fun M_5 g_5 => ?_)
    replace hP := hP M_5 g_5
    have q_5 := z_k5 g_5
    have k2 := z_kk q_5 k2
    have k3 := z_kk q_5 k3
    refine z_goto (tgt := 21) dL_foreign_10 (by decide) ?_
    refine z_iconst (v := 0) dL_foreign_21 (by decide) ?_
    exact z_reti rfl dL_foreign_22 hP
set_option maxRecDepth 100000 in
def P_L_read (p1 : Option Nat) (p2 : Int32) (p3 : Int32) (p4 : Option Nat) (M : z_Mem) (Post : Int32 → z_Mem → Prop) : Prop := z_nn p1 fun a2 => (P_X11_read a2 p2 p3 M (fun x_1 M_1 => z_nn p4 fun a3 => (vp_in 0 (z_ln M_1 a3) ∧ (∀ M_5 : z_Mem, M_5 = z_sal M_1 a3 ((0 : Int32).toNatClampNeg) ((x_1 : Int32).toInt64) → (Post 0 M_5)))) (fun E M_1 => (E = "java/lang/IndexOutOfBoundsException" ∧ Post 1 M_1) ∨ (E = "java/lang/IllegalArgumentException" ∧ Post 2 M_1)))
set_option maxRecDepth 100000 in
set_option maxHeartbeats 4000000 in
theorem s_L_read {G : z_G} {M : z_Mem} {p1 : Option Nat} {p2 : Int32} {p3 : Int32} {p4 : Option Nat} {Post : Int32 → z_Mem → Prop} (hl9 : G.1.stackTraces = false) (f_p1 : z_tr M p1 12) (f_p4 : z_tr M p4 25) (hP : P_L_read p1 p2 p3 p4 M Post) : z_MtH G Y_L_read hh_L_read M [z_O p1, z_I p2, z_I p3, z_O p4] (z_PI Post) := by
  refine z_ofVH (by decide) (Nat.le_of_ble_eq_true rfl) ?_
  unfold P_L_read at hP
  refine z_sub (lv' := [(0, z_O p1), (1, z_I p2), (2, z_I p3), (3, z_O p4)]) [0, 1, 2, 3] rfl ?_
  refine z_aload_n dL_read_0 rfl 3 rfl ?_
  refine z_iconst (v := 0) dL_read_1 (by decide) ?_
  refine z_aload_n dL_read_2 rfl 0 rfl ?_
  refine z_iload_n dL_read_3 rfl 1 rfl ?_
  refine z_iload_n dL_read_4 rfl 2 rfl ?_
  obtain ⟨a2, e2, hP⟩ := hP
  have k2 := f_p1 a2 e2
  refine z_wts (fun hT1 _ => ?_)
  refine z_hV (hh := hh_L_read) (c := 11) (n := 2) (Y1 := Y_X11_read) (st := [z_I _, z_O _]) e2 k2 z_cb11 (Nat.le_of_ble_eq_true rfl) rfl (s_X11_read hl9 k2 hP) rfl ⟨z_dc_X11_read, ⟨(Nat.le_of_ble_eq_true rfl), (Nat.le_of_ble_eq_true rfl)⟩, (Nat.le_of_ble_eq_true rfl)⟩ rfl zw_679 zw_680 zw_681 zw_1 zw_682 dL_read_5 z_hok_L_read (fun E M_1 hE9 hP _ x1 => ?_) (fun r_1 M_1 hP _ x1 => ?_)
  · rcases hP with ⟨rfl, hP⟩ | ⟨rfl, hP⟩
    · refine ⟨13, by decide, fun q_1 => ?_⟩
      refine z_astore (lv' := [(4, z_O _), (0, z_O _), (1, z_I _), (2, z_I _), (3, z_O _)]) dL_read_13 (Nat.le_of_ble_eq_true rfl) rfl ?_
      refine z_pc (pc' := 15) rfl ?_
      refine z_iconst (v := 1) dL_read_15 (by decide) ?_
      exact z_reti rfl dL_read_16 hP
    · refine ⟨17, by decide, fun q_1 => ?_⟩
      refine z_astore (lv' := [(4, z_O _), (0, z_O _), (1, z_I _), (2, z_I _), (3, z_O _)]) dL_read_17 (Nat.le_of_ble_eq_true rfl) rfl ?_
      refine z_pc (pc' := 19) rfl ?_
      refine z_iconst (v := 2) dL_read_19 (by decide) ?_
      exact z_reti rfl dL_read_20 hP
  · obtain ⟨x_1, rfl, hP⟩ := hP
    refine z_stk (st' := [z_I _, z_I _, z_O _]) rfl ?_
    have k2 := x1.k (k := 11) hT1 k2
    have f_p4 := x1.t (k := 24) hT1 f_p4
    refine z_i2l dL_read_8 ?_
    refine z_pc (pc' := 9) rfl ?_
    obtain ⟨a3, e3, hP⟩ := hP
    have k3 := f_p4 a3 e3
    obtain ⟨i4, hP⟩ := hP
    refine z_last e3 k3 i4 dL_read_9 ?_
    refine z_nm (fun M_5 g_5 => ?_)
    replace hP := hP M_5 g_5
    have q_5 := z_k5 g_5
    have k2 := z_kk q_5 k2
    have k3 := z_kk q_5 k3
    refine z_goto (tgt := 21) dL_read_10 (by decide) ?_
    refine z_iconst (v := 0) dL_read_21 (by decide) ?_
    exact z_reti rfl dL_read_22 hP
set_option maxRecDepth 100000 in
def P_L_connect (p1 : Option Nat) (p2 : Int32) (M : z_Mem) (Post : Int32 → z_Mem → Prop) : Prop := z_nn p1 fun a2 => (P_X11_connect a2 p2 M (fun M_1 => Post 0 M_1) (fun E M_1 => (E = "java/lang/IllegalArgumentException" ∧ Post 1 M_1) ∨ (E = "java/lang/IllegalStateException" ∧ Post 2 M_1)))
set_option maxRecDepth 100000 in
set_option maxHeartbeats 4000000 in
theorem s_L_connect {G : z_G} {M : z_Mem} {p1 : Option Nat} {p2 : Int32} {Post : Int32 → z_Mem → Prop} (hl9 : G.1.stackTraces = false) (f_p1 : z_tr M p1 12) (hP : P_L_connect p1 p2 M Post) : z_MtH G Y_L_connect hh_L_connect M [z_O p1, z_I p2] (z_PI Post) := by
  refine z_ofVH (by decide) (Nat.le_of_ble_eq_true rfl) ?_
  unfold P_L_connect at hP
  refine z_sub (lv' := [(0, z_O p1), (1, z_I p2)]) [0, 1] rfl ?_
  refine z_aload_n dL_connect_0 rfl 0 rfl ?_
  refine z_iload_n dL_connect_1 rfl 1 rfl ?_
  obtain ⟨a2, e2, hP⟩ := hP
  have k2 := f_p1 a2 e2
  refine z_wts (fun hT1 _ => ?_)
  refine z_hV (hh := hh_L_connect) (c := 11) (n := 1) (Y1 := Y_X11_connect) (st := []) e2 k2 z_cb11 (Nat.le_of_ble_eq_true rfl) rfl (s_X11_connect hl9 k2 hP) rfl ⟨z_dc_X11_connect, ⟨(Nat.le_of_ble_eq_true rfl), (Nat.le_of_ble_eq_true rfl)⟩, (Nat.le_of_ble_eq_true rfl)⟩ rfl zw_761 zw_762 zw_763 zw_1 zw_764 dL_connect_2 z_hok_L_connect (fun E M_1 hE9 hP _ x1 => ?_) (fun r_1 M_1 hP _ x1 => ?_)
  · rcases hP with ⟨rfl, hP⟩ | ⟨rfl, hP⟩
    · refine ⟨8, by decide, fun q_1 => ?_⟩
      refine z_astore_n (lv' := [(2, z_O _), (0, z_O _), (1, z_I _)]) dL_connect_8 rfl (Nat.le_of_ble_eq_true rfl) rfl ?_
      refine z_iconst (v := 1) dL_connect_9 (by decide) ?_
      exact z_reti rfl dL_connect_10 hP
    · refine ⟨11, by decide, fun q_1 => ?_⟩
      refine z_astore_n (lv' := [(2, z_O _), (0, z_O _), (1, z_I _)]) dL_connect_11 rfl (Nat.le_of_ble_eq_true rfl) rfl ?_
      refine z_iconst (v := 2) dL_connect_12 (by decide) ?_
      exact z_reti rfl dL_connect_13 hP
  · obtain ⟨rfl, hP⟩ := hP
    refine z_stk (st' := []) rfl ?_
    have k2 := x1.k (k := 11) hT1 k2
    refine z_goto (tgt := 14) dL_connect_5 (by decide) ?_
    refine z_iconst (v := 0) dL_connect_14 (by decide) ?_
    exact z_reti rfl dL_connect_15 hP
set_option maxRecDepth 100000 in
def P_L_write (p1 : Option Nat) (p2 : Int32) (p3 : Int32) (p4 : Option Nat) (M : z_Mem) (Post : Int32 → z_Mem → Prop) : Prop := z_nn p1 fun a2 => (P_X11_write a2 p2 p3 M (fun x_1 M_1 => z_nn p4 fun a3 => (vp_in 0 (z_ln M_1 a3) ∧ (∀ M_5 : z_Mem, M_5 = z_sal M_1 a3 ((0 : Int32).toNatClampNeg) ((x_1 : Int32).toInt64) → (Post 0 M_5)))) (fun E M_1 => (E = "java/lang/IndexOutOfBoundsException" ∧ Post 1 M_1) ∨ (E = "java/lang/IllegalArgumentException" ∧ Post 2 M_1) ∨ (E = "java/lang/IllegalStateException" ∧ Post 3 M_1)))
set_option maxRecDepth 100000 in
set_option maxHeartbeats 4000000 in
theorem s_L_write {G : z_G} {M : z_Mem} {p1 : Option Nat} {p2 : Int32} {p3 : Int32} {p4 : Option Nat} {Post : Int32 → z_Mem → Prop} (hl9 : G.1.stackTraces = false) (f_p1 : z_tr M p1 12) (f_p4 : z_tr M p4 25) (hP : P_L_write p1 p2 p3 p4 M Post) : z_MtH G Y_L_write hh_L_write M [z_O p1, z_I p2, z_I p3, z_O p4] (z_PI Post) := by
  refine z_ofVH (by decide) (Nat.le_of_ble_eq_true rfl) ?_
  unfold P_L_write at hP
  refine z_sub (lv' := [(0, z_O p1), (1, z_I p2), (2, z_I p3), (3, z_O p4)]) [0, 1, 2, 3] rfl ?_
  refine z_aload_n dL_write_0 rfl 3 rfl ?_
  refine z_iconst (v := 0) dL_write_1 (by decide) ?_
  refine z_aload_n dL_write_2 rfl 0 rfl ?_
  refine z_iload_n dL_write_3 rfl 1 rfl ?_
  refine z_iload_n dL_write_4 rfl 2 rfl ?_
  obtain ⟨a2, e2, hP⟩ := hP
  have k2 := f_p1 a2 e2
  refine z_wts (fun hT1 _ => ?_)
  refine z_hV (hh := hh_L_write) (c := 11) (n := 2) (Y1 := Y_X11_write) (st := [z_I _, z_O _]) e2 k2 z_cb11 (Nat.le_of_ble_eq_true rfl) rfl (s_X11_write hl9 k2 hP) rfl ⟨z_dc_X11_write, ⟨(Nat.le_of_ble_eq_true rfl), (Nat.le_of_ble_eq_true rfl)⟩, (Nat.le_of_ble_eq_true rfl)⟩ rfl zw_806 zw_807 zw_808 zw_1 zw_809 dL_write_5 z_hok_L_write (fun E M_1 hE9 hP _ x1 => ?_) (fun r_1 M_1 hP _ x1 => ?_)
  · rcases hP with ⟨rfl, hP⟩ | ⟨rfl, hP⟩ | ⟨rfl, hP⟩
    · refine ⟨13, by decide, fun q_1 => ?_⟩
      refine z_astore (lv' := [(4, z_O _), (0, z_O _), (1, z_I _), (2, z_I _), (3, z_O _)]) dL_write_13 (Nat.le_of_ble_eq_true rfl) rfl ?_
      refine z_pc (pc' := 15) rfl ?_
      refine z_iconst (v := 1) dL_write_15 (by decide) ?_
      exact z_reti rfl dL_write_16 hP
    · refine ⟨17, by decide, fun q_1 => ?_⟩
      refine z_astore (lv' := [(4, z_O _), (0, z_O _), (1, z_I _), (2, z_I _), (3, z_O _)]) dL_write_17 (Nat.le_of_ble_eq_true rfl) rfl ?_
      refine z_pc (pc' := 19) rfl ?_
      refine z_iconst (v := 2) dL_write_19 (by decide) ?_
      exact z_reti rfl dL_write_20 hP
    · refine ⟨21, by decide, fun q_1 => ?_⟩
      refine z_astore (lv' := [(4, z_O _), (0, z_O _), (1, z_I _), (2, z_I _), (3, z_O _)]) dL_write_21 (Nat.le_of_ble_eq_true rfl) rfl ?_
      refine z_pc (pc' := 23) rfl ?_
      refine z_iconst (v := 3) dL_write_23 (by decide) ?_
      exact z_reti rfl dL_write_24 hP
  · obtain ⟨x_1, rfl, hP⟩ := hP
    refine z_stk (st' := [z_I _, z_I _, z_O _]) rfl ?_
    have k2 := x1.k (k := 11) hT1 k2
    have f_p4 := x1.t (k := 24) hT1 f_p4
    refine z_i2l dL_write_8 ?_
    refine z_pc (pc' := 9) rfl ?_
    obtain ⟨a3, e3, hP⟩ := hP
    have k3 := f_p4 a3 e3
    obtain ⟨i4, hP⟩ := hP
    refine z_last e3 k3 i4 dL_write_9 ?_
    refine z_nm (fun M_5 g_5 => ?_)
    replace hP := hP M_5 g_5
    have q_5 := z_k5 g_5
    have k2 := z_kk q_5 k2
    have k3 := z_kk q_5 k3
    refine z_goto (tgt := 25) dL_write_10 (by decide) ?_
    refine z_iconst (v := 0) dL_write_25 (by decide) ?_
    exact z_reti rfl dL_write_26 hP
set_option maxRecDepth 100000 in
def P_L_setWay (p1 : Option Nat) (p2 : Int32) (p3 : Int32) (p4 : Option Nat) (M : z_Mem) (Post : Int32 → z_Mem → Prop) : Prop := z_nn p1 fun a2 => (P_X11_setWay a2 p2 p3 M (fun x_1 M_1 => z_nn p4 fun a3 => (vp_in 0 (z_ln M_1 a3) ∧ (∀ M_5 : z_Mem, M_5 = z_sal M_1 a3 ((0 : Int32).toNatClampNeg) ((x_1 : Int32).toInt64) → (Post 0 M_5)))) (fun E M_1 => (E = "java/lang/IndexOutOfBoundsException" ∧ Post 1 M_1) ∨ (E = "java/lang/IllegalArgumentException" ∧ Post 2 M_1)))
set_option maxRecDepth 100000 in
set_option maxHeartbeats 4000000 in
theorem s_L_setWay {G : z_G} {M : z_Mem} {p1 : Option Nat} {p2 : Int32} {p3 : Int32} {p4 : Option Nat} {Post : Int32 → z_Mem → Prop} (hl9 : G.1.stackTraces = false) (f_p1 : z_tr M p1 12) (f_p4 : z_tr M p4 25) (hP : P_L_setWay p1 p2 p3 p4 M Post) : z_MtH G Y_L_setWay hh_L_setWay M [z_O p1, z_I p2, z_I p3, z_O p4] (z_PI Post) := by
  refine z_ofVH (by decide) (Nat.le_of_ble_eq_true rfl) ?_
  unfold P_L_setWay at hP
  refine z_sub (lv' := [(0, z_O p1), (1, z_I p2), (2, z_I p3), (3, z_O p4)]) [0, 1, 2, 3] rfl ?_
  refine z_aload_n dL_setWay_0 rfl 3 rfl ?_
  refine z_iconst (v := 0) dL_setWay_1 (by decide) ?_
  refine z_aload_n dL_setWay_2 rfl 0 rfl ?_
  refine z_iload_n dL_setWay_3 rfl 1 rfl ?_
  refine z_iload_n dL_setWay_4 rfl 2 rfl ?_
  obtain ⟨a2, e2, hP⟩ := hP
  have k2 := f_p1 a2 e2
  refine z_wts (fun hT1 _ => ?_)
  refine z_hV (hh := hh_L_setWay) (c := 11) (n := 2) (Y1 := Y_X11_setWay) (st := [z_I _, z_O _]) e2 k2 z_cb11 (Nat.le_of_ble_eq_true rfl) rfl (s_X11_setWay hl9 k2 hP) rfl ⟨z_dc_X11_setWay, ⟨(Nat.le_of_ble_eq_true rfl), (Nat.le_of_ble_eq_true rfl)⟩, (Nat.le_of_ble_eq_true rfl)⟩ rfl zw_813 zw_814 zw_815 zw_1 zw_816 dL_setWay_5 z_hok_L_setWay (fun E M_1 hE9 hP _ x1 => ?_) (fun r_1 M_1 hP _ x1 => ?_)
  · rcases hP with ⟨rfl, hP⟩ | ⟨rfl, hP⟩
    · refine ⟨13, by decide, fun q_1 => ?_⟩
      refine z_astore (lv' := [(4, z_O _), (0, z_O _), (1, z_I _), (2, z_I _), (3, z_O _)]) dL_setWay_13 (Nat.le_of_ble_eq_true rfl) rfl ?_
      refine z_pc (pc' := 15) rfl ?_
      refine z_iconst (v := 1) dL_setWay_15 (by decide) ?_
      exact z_reti rfl dL_setWay_16 hP
    · refine ⟨17, by decide, fun q_1 => ?_⟩
      refine z_astore (lv' := [(4, z_O _), (0, z_O _), (1, z_I _), (2, z_I _), (3, z_O _)]) dL_setWay_17 (Nat.le_of_ble_eq_true rfl) rfl ?_
      refine z_pc (pc' := 19) rfl ?_
      refine z_iconst (v := 2) dL_setWay_19 (by decide) ?_
      exact z_reti rfl dL_setWay_20 hP
  · obtain ⟨x_1, rfl, hP⟩ := hP
    refine z_stk (st' := [z_I _, z_I _, z_O _]) rfl ?_
    have k2 := x1.k (k := 11) hT1 k2
    have f_p4 := x1.t (k := 24) hT1 f_p4
    refine z_i2l dL_setWay_8 ?_
    refine z_pc (pc' := 9) rfl ?_
    obtain ⟨a3, e3, hP⟩ := hP
    have k3 := f_p4 a3 e3
    obtain ⟨i4, hP⟩ := hP
    refine z_last e3 k3 i4 dL_setWay_9 ?_
    refine z_nm (fun M_5 g_5 => ?_)
    replace hP := hP M_5 g_5
    have q_5 := z_k5 g_5
    have k2 := z_kk q_5 k2
    have k3 := z_kk q_5 k3
    refine z_goto (tgt := 21) dL_setWay_10 (by decide) ?_
    refine z_iconst (v := 0) dL_setWay_21 (by decide) ?_
    exact z_reti rfl dL_setWay_22 hP
set_option maxRecDepth 100000 in
def P_L_check (p1 : Option Nat) (p2 : Int32) (M : z_Mem) (Post : Int32 → z_Mem → Prop) : Prop := z_nn p1 fun a2 => (P_X11_check a2 p2 M (fun M_1 => Post 0 M_1) (fun E M_1 => (E = "java/lang/IndexOutOfBoundsException" ∧ Post 1 M_1) ∨ (E = "java/lang/IllegalStateException" ∧ Post 2 M_1)))
set_option maxRecDepth 100000 in
set_option maxHeartbeats 4000000 in
theorem s_L_check {G : z_G} {M : z_Mem} {p1 : Option Nat} {p2 : Int32} {Post : Int32 → z_Mem → Prop} (hl9 : G.1.stackTraces = false) (f_p1 : z_tr M p1 12) (hP : P_L_check p1 p2 M Post) : z_MtH G Y_L_check hh_L_check M [z_O p1, z_I p2] (z_PI Post) := by
  refine z_ofVH (by decide) (Nat.le_of_ble_eq_true rfl) ?_
  unfold P_L_check at hP
  refine z_sub (lv' := [(0, z_O p1), (1, z_I p2)]) [0, 1] rfl ?_
  refine z_aload_n dL_check_0 rfl 0 rfl ?_
  refine z_iload_n dL_check_1 rfl 1 rfl ?_
  obtain ⟨a2, e2, hP⟩ := hP
  have k2 := f_p1 a2 e2
  refine z_wts (fun hT1 _ => ?_)
  refine z_hV (hh := hh_L_check) (c := 11) (n := 1) (Y1 := Y_X11_check) (st := []) e2 k2 z_cb11 (Nat.le_of_ble_eq_true rfl) rfl (s_X11_check hl9 k2 hP) rfl ⟨z_dc_X11_check, ⟨(Nat.le_of_ble_eq_true rfl), (Nat.le_of_ble_eq_true rfl)⟩, (Nat.le_of_ble_eq_true rfl)⟩ rfl zw_824 zw_825 zw_826 zw_1 zw_827 dL_check_2 z_hok_L_check (fun E M_1 hE9 hP _ x1 => ?_) (fun r_1 M_1 hP _ x1 => ?_)
  · rcases hP with ⟨rfl, hP⟩ | ⟨rfl, hP⟩
    · refine ⟨8, by decide, fun q_1 => ?_⟩
      refine z_astore_n (lv' := [(2, z_O _), (0, z_O _), (1, z_I _)]) dL_check_8 rfl (Nat.le_of_ble_eq_true rfl) rfl ?_
      refine z_iconst (v := 1) dL_check_9 (by decide) ?_
      exact z_reti rfl dL_check_10 hP
    · refine ⟨11, by decide, fun q_1 => ?_⟩
      refine z_astore_n (lv' := [(2, z_O _), (0, z_O _), (1, z_I _)]) dL_check_11 rfl (Nat.le_of_ble_eq_true rfl) rfl ?_
      refine z_iconst (v := 2) dL_check_12 (by decide) ?_
      exact z_reti rfl dL_check_13 hP
  · obtain ⟨rfl, hP⟩ := hP
    refine z_stk (st' := []) rfl ?_
    have k2 := x1.k (k := 11) hT1 k2
    refine z_goto (tgt := 14) dL_check_5 (by decide) ?_
    refine z_iconst (v := 0) dL_check_14 (by decide) ?_
    exact z_reti rfl dL_check_15 hP
set_option maxRecDepth 100000 in
def P_L_use (p1 : Option Nat) (p2 : Int32) (p3 : Option Nat) (M : z_Mem) (Post : Int32 → z_Mem → Prop) : Prop := z_nn p1 fun a2 => (P_X11_use a2 p2 M (fun x_1 M_1 => z_nn p3 fun a3 => (vp_in 0 (z_ln M_1 a3) ∧ (∀ M_5 : z_Mem, M_5 = z_sal M_1 a3 ((0 : Int32).toNatClampNeg) ((x_1 : Int32).toInt64) → (Post 0 M_5)))) (fun E M_1 => (E = "java/lang/IllegalArgumentException" ∧ Post 1 M_1) ∨ (E = "java/lang/IllegalStateException" ∧ Post 2 M_1)))
set_option maxRecDepth 100000 in
set_option maxHeartbeats 4000000 in
theorem s_L_use {G : z_G} {M : z_Mem} {p1 : Option Nat} {p2 : Int32} {p3 : Option Nat} {Post : Int32 → z_Mem → Prop} (hl9 : G.1.stackTraces = false) (f_p1 : z_tr M p1 12) (f_p3 : z_tr M p3 25) (hP : P_L_use p1 p2 p3 M Post) : z_MtH G Y_L_use hh_L_use M [z_O p1, z_I p2, z_O p3] (z_PI Post) := by
  refine z_ofVH (by decide) (Nat.le_of_ble_eq_true rfl) ?_
  unfold P_L_use at hP
  refine z_sub (lv' := [(0, z_O p1), (1, z_I p2), (2, z_O p3)]) [0, 1, 2] rfl ?_
  refine z_aload_n dL_use_0 rfl 2 rfl ?_
  refine z_iconst (v := 0) dL_use_1 (by decide) ?_
  refine z_aload_n dL_use_2 rfl 0 rfl ?_
  refine z_iload_n dL_use_3 rfl 1 rfl ?_
  obtain ⟨a2, e2, hP⟩ := hP
  have k2 := f_p1 a2 e2
  refine z_wts (fun hT1 _ => ?_)
  refine z_hV (hh := hh_L_use) (c := 11) (n := 1) (Y1 := Y_X11_use) (st := [z_I _, z_O _]) e2 k2 z_cb11 (Nat.le_of_ble_eq_true rfl) rfl (s_X11_use hl9 k2 hP) rfl ⟨z_dc_X11_use, ⟨(Nat.le_of_ble_eq_true rfl), (Nat.le_of_ble_eq_true rfl)⟩, (Nat.le_of_ble_eq_true rfl)⟩ rfl zw_834 zw_835 zw_836 zw_1 zw_837 dL_use_4 z_hok_L_use (fun E M_1 hE9 hP _ x1 => ?_) (fun r_1 M_1 hP _ x1 => ?_)
  · rcases hP with ⟨rfl, hP⟩ | ⟨rfl, hP⟩
    · refine ⟨12, by decide, fun q_1 => ?_⟩
      refine z_astore_n (lv' := [(3, z_O _), (0, z_O _), (1, z_I _), (2, z_O _)]) dL_use_12 rfl (Nat.le_of_ble_eq_true rfl) rfl ?_
      refine z_iconst (v := 1) dL_use_13 (by decide) ?_
      refine z_pc (pc' := 14) rfl ?_
      exact z_reti rfl dL_use_14 hP
    · refine ⟨15, by decide, fun q_1 => ?_⟩
      refine z_astore_n (lv' := [(3, z_O _), (0, z_O _), (1, z_I _), (2, z_O _)]) dL_use_15 rfl (Nat.le_of_ble_eq_true rfl) rfl ?_
      refine z_iconst (v := 2) dL_use_16 (by decide) ?_
      refine z_pc (pc' := 17) rfl ?_
      exact z_reti rfl dL_use_17 hP
  · obtain ⟨x_1, rfl, hP⟩ := hP
    refine z_stk (st' := [z_I _, z_I _, z_O _]) rfl ?_
    have k2 := x1.k (k := 11) hT1 k2
    have f_p3 := x1.t (k := 24) hT1 f_p3
    refine z_i2l dL_use_7 ?_
    obtain ⟨a3, e3, hP⟩ := hP
    have k3 := f_p3 a3 e3
    obtain ⟨i4, hP⟩ := hP
    refine z_last e3 k3 i4 dL_use_8 ?_
    refine z_nm (fun M_5 g_5 => ?_)
    replace hP := hP M_5 g_5
    have q_5 := z_k5 g_5
    have k2 := z_kk q_5 k2
    have k3 := z_kk q_5 k3
    refine z_pc (pc' := 9) rfl ?_
    refine z_goto (tgt := 18) dL_use_9 (by decide) ?_
    refine z_iconst (v := 0) dL_use_18 (by decide) ?_
    exact z_reti rfl dL_use_19 hP
set_option maxRecDepth 100000 in
def P_L_changeKey (p1 : Option Nat) (p2 : Option Nat) (M : z_Mem) (Post : Int32 → z_Mem → Prop) : Prop := z_nn p1 fun a2 => (P_X11_changeKey a2 M (fun x_1 M_1 => z_nn p2 fun a3 => (vp_in 0 (z_ln M_1 a3) ∧ (∀ M_5 : z_Mem, M_5 = z_sal M_1 a3 ((0 : Int32).toNatClampNeg) ((x_1 : Int32).toInt64) → (Post 0 M_5)))) (fun E M_1 => (E = "java/lang/IllegalStateException" ∧ Post 1 M_1)))
set_option maxRecDepth 100000 in
set_option maxHeartbeats 4000000 in
theorem s_L_changeKey {G : z_G} {M : z_Mem} {p1 : Option Nat} {p2 : Option Nat} {Post : Int32 → z_Mem → Prop} (hl9 : G.1.stackTraces = false) (f_p1 : z_tr M p1 12) (f_p2 : z_tr M p2 25) (hP : P_L_changeKey p1 p2 M Post) : z_MtH G Y_L_changeKey hh_L_changeKey M [z_O p1, z_O p2] (z_PI Post) := by
  refine z_ofVH (by decide) (Nat.le_of_ble_eq_true rfl) ?_
  unfold P_L_changeKey at hP
  refine z_sub (lv' := [(0, z_O p1), (1, z_O p2)]) [0, 1] rfl ?_
  refine z_aload_n dL_changeKey_0 rfl 1 rfl ?_
  refine z_iconst (v := 0) dL_changeKey_1 (by decide) ?_
  refine z_aload_n dL_changeKey_2 rfl 0 rfl ?_
  obtain ⟨a2, e2, hP⟩ := hP
  have k2 := f_p1 a2 e2
  refine z_wts (fun hT1 _ => ?_)
  refine z_hV (hh := hh_L_changeKey) (c := 11) (n := 0) (Y1 := Y_X11_changeKey) (st := [z_I _, z_O _]) e2 k2 z_cb11 (Nat.le_of_ble_eq_true rfl) rfl (s_X11_changeKey hl9 k2 hP) rfl ⟨z_dc_X11_changeKey, ⟨(Nat.le_of_ble_eq_true rfl), (Nat.le_of_ble_eq_true rfl)⟩, (Nat.le_of_ble_eq_true rfl)⟩ rfl zw_841 zw_842 zw_843 zw_1 zw_844 dL_changeKey_3 z_hok_L_changeKey (fun E M_1 hE9 hP _ x1 => ?_) (fun r_1 M_1 hP _ x1 => ?_)
  · obtain ⟨rfl, hP⟩ := hP
    · refine ⟨11, by decide, fun q_1 => ?_⟩
      refine z_astore_n (lv' := [(2, z_O _), (0, z_O _), (1, z_O _)]) dL_changeKey_11 rfl (Nat.le_of_ble_eq_true rfl) rfl ?_
      refine z_iconst (v := 1) dL_changeKey_12 (by decide) ?_
      exact z_reti rfl dL_changeKey_13 hP
  · obtain ⟨x_1, rfl, hP⟩ := hP
    refine z_stk (st' := [z_I _, z_I _, z_O _]) rfl ?_
    have k2 := x1.k (k := 11) hT1 k2
    have f_p2 := x1.t (k := 24) hT1 f_p2
    refine z_i2l dL_changeKey_6 ?_
    obtain ⟨a3, e3, hP⟩ := hP
    have k3 := f_p2 a3 e3
    obtain ⟨i4, hP⟩ := hP
    refine z_last e3 k3 i4 dL_changeKey_7 ?_
    refine z_nm (fun M_5 g_5 => ?_)
    replace hP := hP M_5 g_5
    have q_5 := z_k5 g_5
    have k2 := z_kk q_5 k2
    have k3 := z_kk q_5 k3
    refine z_goto (tgt := 14) dL_changeKey_8 (by decide) ?_
    refine z_iconst (v := 0) dL_changeKey_14 (by decide) ?_
    refine z_pc (pc' := 15) rfl ?_
    exact z_reti rfl dL_changeKey_15 hP
set_option maxRecDepth 100000 in
def P_L_close (p1 : Option Nat) (M : z_Mem) (Post : Int32 → z_Mem → Prop) : Prop := z_nn p1 fun a2 => (P_X11_close a2 M (fun M_1 => Post 0 M_1) (fun E M_1 => (E = "java/lang/IllegalStateException" ∧ Post 1 M_1)))
set_option maxRecDepth 100000 in
set_option maxHeartbeats 4000000 in
theorem s_L_close {G : z_G} {M : z_Mem} {p1 : Option Nat} {Post : Int32 → z_Mem → Prop} (hl9 : G.1.stackTraces = false) (f_p1 : z_tr M p1 12) (hP : P_L_close p1 M Post) : z_MtH G Y_L_close hh_L_close M [z_O p1] (z_PI Post) := by
  refine z_ofVH (by decide) (Nat.le_of_ble_eq_true rfl) ?_
  unfold P_L_close at hP
  refine z_sub (lv' := [(0, z_O p1)]) [0] rfl ?_
  refine z_aload_n dL_close_0 rfl 0 rfl ?_
  obtain ⟨a2, e2, hP⟩ := hP
  have k2 := f_p1 a2 e2
  refine z_wts (fun hT1 _ => ?_)
  refine z_hV (hh := hh_L_close) (c := 11) (n := 0) (Y1 := Y_X11_close) (st := []) e2 k2 z_cb11 (Nat.le_of_ble_eq_true rfl) rfl (s_X11_close hl9 k2 hP) rfl ⟨z_dc_X11_close, ⟨(Nat.le_of_ble_eq_true rfl), (Nat.le_of_ble_eq_true rfl)⟩, (Nat.le_of_ble_eq_true rfl)⟩ rfl zw_859 zw_860 zw_861 zw_1 zw_862 dL_close_1 z_hok_L_close (fun E M_1 hE9 hP _ x1 => ?_) (fun r_1 M_1 hP _ x1 => ?_)
  · obtain ⟨rfl, hP⟩ := hP
    · refine ⟨7, by decide, fun q_1 => ?_⟩
      refine z_astore_n (lv' := [(1, z_O _), (0, z_O _)]) dL_close_7 rfl (Nat.le_of_ble_eq_true rfl) rfl ?_
      refine z_iconst (v := 1) dL_close_8 (by decide) ?_
      exact z_reti rfl dL_close_9 hP
  · obtain ⟨rfl, hP⟩ := hP
    refine z_stk (st' := []) rfl ?_
    have k2 := x1.k (k := 11) hT1 k2
    refine z_goto (tgt := 10) dL_close_4 (by decide) ?_
    refine z_iconst (v := 0) dL_close_10 (by decide) ?_
    exact z_reti rfl dL_close_11 hP
set_option maxRecDepth 100000 in
def P_L_tick (p1 : Option Nat) (p2 : Int32) (p3 : Option Nat) (M : z_Mem) (Post : Int32 → z_Mem → Prop) : Prop := z_nn p1 fun a2 => (P_X11_tick a2 p2 M (fun x_1 M_1 => z_nn p3 fun a3 => (vp_in 0 (z_ln M_1 a3) ∧ (∀ M_5 : z_Mem, M_5 = z_sal M_1 a3 ((0 : Int32).toNatClampNeg) ((x_1 : Int32).toInt64) → (Post 0 M_5)))) (fun E M_1 => (E = "java/lang/IllegalArgumentException" ∧ Post 1 M_1) ∨ (E = "java/lang/IllegalStateException" ∧ Post 2 M_1)))
set_option maxRecDepth 100000 in
set_option maxHeartbeats 4000000 in
theorem s_L_tick {G : z_G} {M : z_Mem} {p1 : Option Nat} {p2 : Int32} {p3 : Option Nat} {Post : Int32 → z_Mem → Prop} (hl9 : G.1.stackTraces = false) (f_p1 : z_tr M p1 12) (f_p3 : z_tr M p3 25) (hP : P_L_tick p1 p2 p3 M Post) : z_MtH G Y_L_tick hh_L_tick M [z_O p1, z_I p2, z_O p3] (z_PI Post) := by
  refine z_ofVH (by decide) (Nat.le_of_ble_eq_true rfl) ?_
  unfold P_L_tick at hP
  refine z_sub (lv' := [(0, z_O p1), (1, z_I p2), (2, z_O p3)]) [0, 1, 2] rfl ?_
  refine z_aload_n dL_tick_0 rfl 2 rfl ?_
  refine z_iconst (v := 0) dL_tick_1 (by decide) ?_
  refine z_aload_n dL_tick_2 rfl 0 rfl ?_
  refine z_iload_n dL_tick_3 rfl 1 rfl ?_
  obtain ⟨a2, e2, hP⟩ := hP
  have k2 := f_p1 a2 e2
  refine z_wts (fun hT1 _ => ?_)
  refine z_hV (hh := hh_L_tick) (c := 11) (n := 1) (Y1 := Y_X11_tick) (st := [z_I _, z_O _]) e2 k2 z_cb11 (Nat.le_of_ble_eq_true rfl) rfl (s_X11_tick hl9 k2 hP) rfl ⟨z_dc_X11_tick, ⟨(Nat.le_of_ble_eq_true rfl), (Nat.le_of_ble_eq_true rfl)⟩, (Nat.le_of_ble_eq_true rfl)⟩ rfl zw_870 zw_871 zw_872 zw_1 zw_873 dL_tick_4 z_hok_L_tick (fun E M_1 hE9 hP _ x1 => ?_) (fun r_1 M_1 hP _ x1 => ?_)
  · rcases hP with ⟨rfl, hP⟩ | ⟨rfl, hP⟩
    · refine ⟨12, by decide, fun q_1 => ?_⟩
      refine z_astore_n (lv' := [(3, z_O _), (0, z_O _), (1, z_I _), (2, z_O _)]) dL_tick_12 rfl (Nat.le_of_ble_eq_true rfl) rfl ?_
      refine z_iconst (v := 1) dL_tick_13 (by decide) ?_
      refine z_pc (pc' := 14) rfl ?_
      exact z_reti rfl dL_tick_14 hP
    · refine ⟨15, by decide, fun q_1 => ?_⟩
      refine z_astore_n (lv' := [(3, z_O _), (0, z_O _), (1, z_I _), (2, z_O _)]) dL_tick_15 rfl (Nat.le_of_ble_eq_true rfl) rfl ?_
      refine z_iconst (v := 2) dL_tick_16 (by decide) ?_
      refine z_pc (pc' := 17) rfl ?_
      exact z_reti rfl dL_tick_17 hP
  · obtain ⟨x_1, rfl, hP⟩ := hP
    refine z_stk (st' := [z_I _, z_I _, z_O _]) rfl ?_
    have k2 := x1.k (k := 11) hT1 k2
    have f_p3 := x1.t (k := 24) hT1 f_p3
    refine z_i2l dL_tick_7 ?_
    obtain ⟨a3, e3, hP⟩ := hP
    have k3 := f_p3 a3 e3
    obtain ⟨i4, hP⟩ := hP
    refine z_last e3 k3 i4 dL_tick_8 ?_
    refine z_nm (fun M_5 g_5 => ?_)
    replace hP := hP M_5 g_5
    have q_5 := z_k5 g_5
    have k2 := z_kk q_5 k2
    have k3 := z_kk q_5 k3
    refine z_pc (pc' := 9) rfl ?_
    refine z_goto (tgt := 18) dL_tick_9 (by decide) ?_
    refine z_iconst (v := 0) dL_tick_18 (by decide) ?_
    exact z_reti rfl dL_tick_19 hP
set_option maxRecDepth 100000 in
def P_L_state (p1 : Option Nat) (p2 : Int32) (p3 : Option Nat) (M : z_Mem) (Post : Int32 → z_Mem → Prop) : Prop := z_nn p1 fun a2 => (P_X11_state a2 p2 M (fun x_1 M_1 => z_nn p3 fun a3 => (vp_in 0 (z_ln M_1 a3) ∧ (∀ M_5 : z_Mem, M_5 = z_sal M_1 a3 ((0 : Int32).toNatClampNeg) ((x_1 : Int32).toInt64) → (Post 0 M_5)))) (fun E M_1 => (E = "java/lang/IllegalArgumentException" ∧ Post 1 M_1)))
set_option maxRecDepth 100000 in
set_option maxHeartbeats 4000000 in
theorem s_L_state {G : z_G} {M : z_Mem} {p1 : Option Nat} {p2 : Int32} {p3 : Option Nat} {Post : Int32 → z_Mem → Prop} (hl9 : G.1.stackTraces = false) (f_p1 : z_tr M p1 12) (f_p3 : z_tr M p3 25) (hP : P_L_state p1 p2 p3 M Post) : z_MtH G Y_L_state hh_L_state M [z_O p1, z_I p2, z_O p3] (z_PI Post) := by
  refine z_ofVH (by decide) (Nat.le_of_ble_eq_true rfl) ?_
  unfold P_L_state at hP
  refine z_sub (lv' := [(0, z_O p1), (1, z_I p2), (2, z_O p3)]) [0, 1, 2] rfl ?_
  refine z_aload_n dL_state_0 rfl 2 rfl ?_
  refine z_iconst (v := 0) dL_state_1 (by decide) ?_
  refine z_aload_n dL_state_2 rfl 0 rfl ?_
  refine z_iload_n dL_state_3 rfl 1 rfl ?_
  obtain ⟨a2, e2, hP⟩ := hP
  have k2 := f_p1 a2 e2
  refine z_wts (fun hT1 _ => ?_)
  refine z_hV (hh := hh_L_state) (c := 11) (n := 1) (Y1 := Y_X11_state) (st := [z_I _, z_O _]) e2 k2 z_cb11 (Nat.le_of_ble_eq_true rfl) rfl (s_X11_state hl9 k2 hP) rfl ⟨z_dc_X11_state, ⟨(Nat.le_of_ble_eq_true rfl), (Nat.le_of_ble_eq_true rfl)⟩, (Nat.le_of_ble_eq_true rfl)⟩ rfl zw_1189 zw_1190 zw_1191 zw_1 zw_1192 dL_state_4 z_hok_L_state (fun E M_1 hE9 hP _ x1 => ?_) (fun r_1 M_1 hP _ x1 => ?_)
  · obtain ⟨rfl, hP⟩ := hP
    · refine ⟨12, by decide, fun q_1 => ?_⟩
      refine z_astore_n (lv' := [(3, z_O _), (0, z_O _), (1, z_I _), (2, z_O _)]) dL_state_12 rfl (Nat.le_of_ble_eq_true rfl) rfl ?_
      refine z_iconst (v := 1) dL_state_13 (by decide) ?_
      refine z_pc (pc' := 14) rfl ?_
      exact z_reti rfl dL_state_14 hP
  · obtain ⟨x_1, rfl, hP⟩ := hP
    refine z_stk (st' := [z_I _, z_I _, z_O _]) rfl ?_
    have k2 := x1.k (k := 11) hT1 k2
    have f_p3 := x1.t (k := 24) hT1 f_p3
    refine z_i2l dL_state_7 ?_
    obtain ⟨a3, e3, hP⟩ := hP
    have k3 := f_p3 a3 e3
    obtain ⟨i4, hP⟩ := hP
    refine z_last e3 k3 i4 dL_state_8 ?_
    refine z_nm (fun M_5 g_5 => ?_)
    replace hP := hP M_5 g_5
    have q_5 := z_k5 g_5
    have k2 := z_kk q_5 k2
    have k3 := z_kk q_5 k3
    refine z_pc (pc' := 9) rfl ?_
    refine z_goto (tgt := 15) dL_state_9 (by decide) ?_
    refine z_iconst (v := 0) dL_state_15 (by decide) ?_
    exact z_reti rfl dL_state_16 hP
set_option maxRecDepth 100000 in
def P_L_path (p1 : Option Nat) (p2 : Int32) (p3 : Int32) (p4 : Option Nat) (M : z_Mem) (Post : Int32 → z_Mem → Prop) : Prop := z_nn p1 fun a2 => (P_X11_path a2 p2 p3 M (fun x_1 M_1 => z_nn p4 fun a3 => (vp_in 0 (z_ln M_1 a3) ∧ (∀ M_5 : z_Mem, M_5 = z_sal M_1 a3 ((0 : Int32).toNatClampNeg) ((x_1 : Int32).toInt64) → (Post 0 M_5)))) (fun E M_1 => (E = "java/lang/IndexOutOfBoundsException" ∧ Post 1 M_1) ∨ (E = "java/lang/IllegalArgumentException" ∧ Post 2 M_1)))
set_option maxRecDepth 100000 in
set_option maxHeartbeats 4000000 in
theorem s_L_path {G : z_G} {M : z_Mem} {p1 : Option Nat} {p2 : Int32} {p3 : Int32} {p4 : Option Nat} {Post : Int32 → z_Mem → Prop} (hl9 : G.1.stackTraces = false) (f_p1 : z_tr M p1 12) (f_p4 : z_tr M p4 25) (hP : P_L_path p1 p2 p3 p4 M Post) : z_MtH G Y_L_path hh_L_path M [z_O p1, z_I p2, z_I p3, z_O p4] (z_PI Post) := by
  refine z_ofVH (by decide) (Nat.le_of_ble_eq_true rfl) ?_
  unfold P_L_path at hP
  refine z_sub (lv' := [(0, z_O p1), (1, z_I p2), (2, z_I p3), (3, z_O p4)]) [0, 1, 2, 3] rfl ?_
  refine z_aload_n dL_path_0 rfl 3 rfl ?_
  refine z_iconst (v := 0) dL_path_1 (by decide) ?_
  refine z_aload_n dL_path_2 rfl 0 rfl ?_
  refine z_iload_n dL_path_3 rfl 1 rfl ?_
  refine z_iload_n dL_path_4 rfl 2 rfl ?_
  obtain ⟨a2, e2, hP⟩ := hP
  have k2 := f_p1 a2 e2
  refine z_wts (fun hT1 _ => ?_)
  refine z_hV (hh := hh_L_path) (c := 11) (n := 2) (Y1 := Y_X11_path) (st := [z_I _, z_O _]) e2 k2 z_cb11 (Nat.le_of_ble_eq_true rfl) rfl (s_X11_path hl9 k2 hP) rfl ⟨z_dc_X11_path, ⟨(Nat.le_of_ble_eq_true rfl), (Nat.le_of_ble_eq_true rfl)⟩, (Nat.le_of_ble_eq_true rfl)⟩ rfl zw_1196 zw_1197 zw_1198 zw_1 zw_1199 dL_path_5 z_hok_L_path (fun E M_1 hE9 hP _ x1 => ?_) (fun r_1 M_1 hP _ x1 => ?_)
  · rcases hP with ⟨rfl, hP⟩ | ⟨rfl, hP⟩
    · refine ⟨13, by decide, fun q_1 => ?_⟩
      refine z_astore (lv' := [(4, z_O _), (0, z_O _), (1, z_I _), (2, z_I _), (3, z_O _)]) dL_path_13 (Nat.le_of_ble_eq_true rfl) rfl ?_
      refine z_pc (pc' := 15) rfl ?_
      refine z_iconst (v := 1) dL_path_15 (by decide) ?_
      exact z_reti rfl dL_path_16 hP
    · refine ⟨17, by decide, fun q_1 => ?_⟩
      refine z_astore (lv' := [(4, z_O _), (0, z_O _), (1, z_I _), (2, z_I _), (3, z_O _)]) dL_path_17 (Nat.le_of_ble_eq_true rfl) rfl ?_
      refine z_pc (pc' := 19) rfl ?_
      refine z_iconst (v := 2) dL_path_19 (by decide) ?_
      exact z_reti rfl dL_path_20 hP
  · obtain ⟨x_1, rfl, hP⟩ := hP
    refine z_stk (st' := [z_I _, z_I _, z_O _]) rfl ?_
    have k2 := x1.k (k := 11) hT1 k2
    have f_p4 := x1.t (k := 24) hT1 f_p4
    refine z_i2l dL_path_8 ?_
    refine z_pc (pc' := 9) rfl ?_
    obtain ⟨a3, e3, hP⟩ := hP
    have k3 := f_p4 a3 e3
    obtain ⟨i4, hP⟩ := hP
    refine z_last e3 k3 i4 dL_path_9 ?_
    refine z_nm (fun M_5 g_5 => ?_)
    replace hP := hP M_5 g_5
    have q_5 := z_k5 g_5
    have k2 := z_kk q_5 k2
    have k3 := z_kk q_5 k3
    refine z_goto (tgt := 21) dL_path_10 (by decide) ?_
    refine z_iconst (v := 0) dL_path_21 (by decide) ?_
    exact z_reti rfl dL_path_22 hP
set_option maxRecDepth 100000 in
def P_L_stream (p1 : Option Nat) (p2 : Int32) (p3 : Int32) (p4 : Option Nat) (M : z_Mem) (Post : Int32 → z_Mem → Prop) : Prop := z_nn p1 fun a2 => (P_X11_stream a2 p2 p3 M (fun x_1 M_1 => z_nn p4 fun a3 => (vp_in 0 (z_ln M_1 a3) ∧ (∀ M_5 : z_Mem, M_5 = z_sal M_1 a3 ((0 : Int32).toNatClampNeg) ((x_1 : Int32).toInt64) → (Post 0 M_5)))) (fun E M_1 => (E = "java/lang/IndexOutOfBoundsException" ∧ Post 1 M_1) ∨ (E = "java/lang/IllegalArgumentException" ∧ Post 2 M_1)))
set_option maxRecDepth 100000 in
set_option maxHeartbeats 4000000 in
theorem s_L_stream {G : z_G} {M : z_Mem} {p1 : Option Nat} {p2 : Int32} {p3 : Int32} {p4 : Option Nat} {Post : Int32 → z_Mem → Prop} (hl9 : G.1.stackTraces = false) (f_p1 : z_tr M p1 12) (f_p4 : z_tr M p4 25) (hP : P_L_stream p1 p2 p3 p4 M Post) : z_MtH G Y_L_stream hh_L_stream M [z_O p1, z_I p2, z_I p3, z_O p4] (z_PI Post) := by
  refine z_ofVH (by decide) (Nat.le_of_ble_eq_true rfl) ?_
  unfold P_L_stream at hP
  refine z_sub (lv' := [(0, z_O p1), (1, z_I p2), (2, z_I p3), (3, z_O p4)]) [0, 1, 2, 3] rfl ?_
  refine z_aload_n dL_stream_0 rfl 3 rfl ?_
  refine z_iconst (v := 0) dL_stream_1 (by decide) ?_
  refine z_aload_n dL_stream_2 rfl 0 rfl ?_
  refine z_iload_n dL_stream_3 rfl 1 rfl ?_
  refine z_iload_n dL_stream_4 rfl 2 rfl ?_
  obtain ⟨a2, e2, hP⟩ := hP
  have k2 := f_p1 a2 e2
  refine z_wts (fun hT1 _ => ?_)
  refine z_hV (hh := hh_L_stream) (c := 11) (n := 2) (Y1 := Y_X11_stream) (st := [z_I _, z_O _]) e2 k2 z_cb11 (Nat.le_of_ble_eq_true rfl) rfl (s_X11_stream hl9 k2 hP) rfl ⟨z_dc_X11_stream, ⟨(Nat.le_of_ble_eq_true rfl), (Nat.le_of_ble_eq_true rfl)⟩, (Nat.le_of_ble_eq_true rfl)⟩ rfl zw_1206 zw_1207 zw_1208 zw_1 zw_1209 dL_stream_5 z_hok_L_stream (fun E M_1 hE9 hP _ x1 => ?_) (fun r_1 M_1 hP _ x1 => ?_)
  · rcases hP with ⟨rfl, hP⟩ | ⟨rfl, hP⟩
    · refine ⟨13, by decide, fun q_1 => ?_⟩
      refine z_astore (lv' := [(4, z_O _), (0, z_O _), (1, z_I _), (2, z_I _), (3, z_O _)]) dL_stream_13 (Nat.le_of_ble_eq_true rfl) rfl ?_
      refine z_pc (pc' := 15) rfl ?_
      refine z_iconst (v := 1) dL_stream_15 (by decide) ?_
      exact z_reti rfl dL_stream_16 hP
    · refine ⟨17, by decide, fun q_1 => ?_⟩
      refine z_astore (lv' := [(4, z_O _), (0, z_O _), (1, z_I _), (2, z_I _), (3, z_O _)]) dL_stream_17 (Nat.le_of_ble_eq_true rfl) rfl ?_
      refine z_pc (pc' := 19) rfl ?_
      refine z_iconst (v := 2) dL_stream_19 (by decide) ?_
      exact z_reti rfl dL_stream_20 hP
  · obtain ⟨x_1, rfl, hP⟩ := hP
    refine z_stk (st' := [z_I _, z_I _, z_O _]) rfl ?_
    have k2 := x1.k (k := 11) hT1 k2
    have f_p4 := x1.t (k := 24) hT1 f_p4
    refine z_i2l dL_stream_8 ?_
    refine z_pc (pc' := 9) rfl ?_
    obtain ⟨a3, e3, hP⟩ := hP
    have k3 := f_p4 a3 e3
    obtain ⟨i4, hP⟩ := hP
    refine z_last e3 k3 i4 dL_stream_9 ?_
    refine z_nm (fun M_5 g_5 => ?_)
    replace hP := hP M_5 g_5
    have q_5 := z_k5 g_5
    have k2 := z_kk q_5 k2
    have k3 := z_kk q_5 k3
    refine z_goto (tgt := 21) dL_stream_10 (by decide) ?_
    refine z_iconst (v := 0) dL_stream_21 (by decide) ?_
    exact z_reti rfl dL_stream_22 hP
set_option maxRecDepth 100000 in
def P_L_packet (p1 : Option Nat) (p2 : Int32) (p3 : Int32) (p4 : Option Nat) (M : z_Mem) (Post : Int32 → z_Mem → Prop) : Prop := z_nn p1 fun a2 => (P_X11_packet a2 p2 p3 M (fun x_1 M_1 => z_nn p4 fun a3 => (vp_in 0 (z_ln M_1 a3) ∧ (∀ M_5 : z_Mem, M_5 = z_sal M_1 a3 ((0 : Int32).toNatClampNeg) ((x_1 : Int32).toInt64) → (Post 0 M_5)))) (fun E M_1 => (E = "java/lang/IndexOutOfBoundsException" ∧ Post 1 M_1) ∨ (E = "java/lang/IllegalArgumentException" ∧ Post 2 M_1)))
set_option maxRecDepth 100000 in
set_option maxHeartbeats 4000000 in
theorem s_L_packet {G : z_G} {M : z_Mem} {p1 : Option Nat} {p2 : Int32} {p3 : Int32} {p4 : Option Nat} {Post : Int32 → z_Mem → Prop} (hl9 : G.1.stackTraces = false) (f_p1 : z_tr M p1 12) (f_p4 : z_tr M p4 25) (hP : P_L_packet p1 p2 p3 p4 M Post) : z_MtH G Y_L_packet hh_L_packet M [z_O p1, z_I p2, z_I p3, z_O p4] (z_PI Post) := by
  refine z_ofVH (by decide) (Nat.le_of_ble_eq_true rfl) ?_
  unfold P_L_packet at hP
  refine z_sub (lv' := [(0, z_O p1), (1, z_I p2), (2, z_I p3), (3, z_O p4)]) [0, 1, 2, 3] rfl ?_
  refine z_aload_n dL_packet_0 rfl 3 rfl ?_
  refine z_iconst (v := 0) dL_packet_1 (by decide) ?_
  refine z_aload_n dL_packet_2 rfl 0 rfl ?_
  refine z_iload_n dL_packet_3 rfl 1 rfl ?_
  refine z_iload_n dL_packet_4 rfl 2 rfl ?_
  obtain ⟨a2, e2, hP⟩ := hP
  have k2 := f_p1 a2 e2
  refine z_wts (fun hT1 _ => ?_)
  refine z_hV (hh := hh_L_packet) (c := 11) (n := 2) (Y1 := Y_X11_packet) (st := [z_I _, z_O _]) e2 k2 z_cb11 (Nat.le_of_ble_eq_true rfl) rfl (s_X11_packet hl9 k2 hP) rfl ⟨z_dc_X11_packet, ⟨(Nat.le_of_ble_eq_true rfl), (Nat.le_of_ble_eq_true rfl)⟩, (Nat.le_of_ble_eq_true rfl)⟩ rfl zw_1213 zw_1214 zw_1215 zw_1 zw_1216 dL_packet_5 z_hok_L_packet (fun E M_1 hE9 hP _ x1 => ?_) (fun r_1 M_1 hP _ x1 => ?_)
  · rcases hP with ⟨rfl, hP⟩ | ⟨rfl, hP⟩
    · refine ⟨13, by decide, fun q_1 => ?_⟩
      refine z_astore (lv' := [(4, z_O _), (0, z_O _), (1, z_I _), (2, z_I _), (3, z_O _)]) dL_packet_13 (Nat.le_of_ble_eq_true rfl) rfl ?_
      refine z_pc (pc' := 15) rfl ?_
      refine z_iconst (v := 1) dL_packet_15 (by decide) ?_
      exact z_reti rfl dL_packet_16 hP
    · refine ⟨17, by decide, fun q_1 => ?_⟩
      refine z_astore (lv' := [(4, z_O _), (0, z_O _), (1, z_I _), (2, z_I _), (3, z_O _)]) dL_packet_17 (Nat.le_of_ble_eq_true rfl) rfl ?_
      refine z_pc (pc' := 19) rfl ?_
      refine z_iconst (v := 2) dL_packet_19 (by decide) ?_
      exact z_reti rfl dL_packet_20 hP
  · obtain ⟨x_1, rfl, hP⟩ := hP
    refine z_stk (st' := [z_I _, z_I _, z_O _]) rfl ?_
    have k2 := x1.k (k := 11) hT1 k2
    have f_p4 := x1.t (k := 24) hT1 f_p4
    refine z_i2l dL_packet_8 ?_
    refine z_pc (pc' := 9) rfl ?_
    obtain ⟨a3, e3, hP⟩ := hP
    have k3 := f_p4 a3 e3
    obtain ⟨i4, hP⟩ := hP
    refine z_last e3 k3 i4 dL_packet_9 ?_
    refine z_nm (fun M_5 g_5 => ?_)
    replace hP := hP M_5 g_5
    have q_5 := z_k5 g_5
    have k2 := z_kk q_5 k2
    have k3 := z_kk q_5 k3
    refine z_goto (tgt := 21) dL_packet_10 (by decide) ?_
    refine z_iconst (v := 0) dL_packet_21 (by decide) ?_
    exact z_reti rfl dL_packet_22 hP
set_option maxRecDepth 100000 in
def P_L_count (p1 : Option Nat) (p2 : Int32) (p3 : Option Nat) (M : z_Mem) (Post : Int32 → z_Mem → Prop) : Prop := z_nn p1 fun a2 => (P_X11_count a2 p2 M (fun x_1 M_1 => z_nn p3 fun a3 => (vp_in 0 (z_ln M_1 a3) ∧ (∀ M_5 : z_Mem, M_5 = z_sal M_1 a3 ((0 : Int32).toNatClampNeg) ((x_1 : Int32).toInt64) → (Post 0 M_5)))) (fun E M_1 => (E = "java/lang/IllegalArgumentException" ∧ Post 1 M_1)))
set_option maxRecDepth 100000 in
set_option maxHeartbeats 4000000 in
theorem s_L_count {G : z_G} {M : z_Mem} {p1 : Option Nat} {p2 : Int32} {p3 : Option Nat} {Post : Int32 → z_Mem → Prop} (hl9 : G.1.stackTraces = false) (f_p1 : z_tr M p1 12) (f_p3 : z_tr M p3 25) (hP : P_L_count p1 p2 p3 M Post) : z_MtH G Y_L_count hh_L_count M [z_O p1, z_I p2, z_O p3] (z_PI Post) := by
  refine z_ofVH (by decide) (Nat.le_of_ble_eq_true rfl) ?_
  unfold P_L_count at hP
  refine z_sub (lv' := [(0, z_O p1), (1, z_I p2), (2, z_O p3)]) [0, 1, 2] rfl ?_
  refine z_aload_n dL_count_0 rfl 2 rfl ?_
  refine z_iconst (v := 0) dL_count_1 (by decide) ?_
  refine z_aload_n dL_count_2 rfl 0 rfl ?_
  refine z_iload_n dL_count_3 rfl 1 rfl ?_
  obtain ⟨a2, e2, hP⟩ := hP
  have k2 := f_p1 a2 e2
  refine z_wts (fun hT1 _ => ?_)
  refine z_hV (hh := hh_L_count) (c := 11) (n := 1) (Y1 := Y_X11_count) (st := [z_I _, z_O _]) e2 k2 z_cb11 (Nat.le_of_ble_eq_true rfl) rfl (s_X11_count hl9 k2 hP) rfl ⟨z_dc_X11_count, ⟨(Nat.le_of_ble_eq_true rfl), (Nat.le_of_ble_eq_true rfl)⟩, (Nat.le_of_ble_eq_true rfl)⟩ rfl zw_1226 zw_1227 zw_1228 zw_1 zw_1229 dL_count_4 z_hok_L_count (fun E M_1 hE9 hP _ x1 => ?_) (fun r_1 M_1 hP _ x1 => ?_)
  · obtain ⟨rfl, hP⟩ := hP
    · refine ⟨12, by decide, fun q_1 => ?_⟩
      refine z_astore_n (lv' := [(3, z_O _), (0, z_O _), (1, z_I _), (2, z_O _)]) dL_count_12 rfl (Nat.le_of_ble_eq_true rfl) rfl ?_
      refine z_iconst (v := 1) dL_count_13 (by decide) ?_
      refine z_pc (pc' := 14) rfl ?_
      exact z_reti rfl dL_count_14 hP
  · obtain ⟨x_1, rfl, hP⟩ := hP
    refine z_stk (st' := [z_I _, z_I _, z_O _]) rfl ?_
    have k2 := x1.k (k := 11) hT1 k2
    have f_p3 := x1.t (k := 24) hT1 f_p3
    refine z_i2l dL_count_7 ?_
    obtain ⟨a3, e3, hP⟩ := hP
    have k3 := f_p3 a3 e3
    obtain ⟨i4, hP⟩ := hP
    refine z_last e3 k3 i4 dL_count_8 ?_
    refine z_nm (fun M_5 g_5 => ?_)
    replace hP := hP M_5 g_5
    have q_5 := z_k5 g_5
    have k2 := z_kk q_5 k2
    have k3 := z_kk q_5 k3
    refine z_pc (pc' := 9) rfl ?_
    refine z_goto (tgt := 15) dL_count_9 (by decide) ?_
    refine z_iconst (v := 0) dL_count_15 (by decide) ?_
    exact z_reti rfl dL_count_16 hP
set_option maxRecDepth 100000 in
def P_L_inFlightAnew (p1 : Option Nat) (p2 : Int32) (p3 : Option Nat) (M : z_Mem) (Post : Int32 → z_Mem → Prop) : Prop := z_nn p1 fun a2 => (P_X11_inFlightAnew a2 p2 M (fun x_1 M_1 => z_nn p3 fun a3 => (vp_in 0 (z_ln M_1 a3) ∧ (∀ M_5 : z_Mem, M_5 = z_sal M_1 a3 ((0 : Int32).toNatClampNeg) ((x_1 : Int32).toInt64) → (Post 0 M_5)))) (fun E M_1 => (E = "java/lang/IndexOutOfBoundsException" ∧ Post 1 M_1)))
set_option maxRecDepth 100000 in
set_option maxHeartbeats 4000000 in
theorem s_L_inFlightAnew {G : z_G} {M : z_Mem} {p1 : Option Nat} {p2 : Int32} {p3 : Option Nat} {Post : Int32 → z_Mem → Prop} (hl9 : G.1.stackTraces = false) (f_p1 : z_tr M p1 12) (f_p3 : z_tr M p3 25) (hP : P_L_inFlightAnew p1 p2 p3 M Post) : z_MtH G Y_L_inFlightAnew hh_L_inFlightAnew M [z_O p1, z_I p2, z_O p3] (z_PI Post) := by
  refine z_ofVH (by decide) (Nat.le_of_ble_eq_true rfl) ?_
  unfold P_L_inFlightAnew at hP
  refine z_sub (lv' := [(0, z_O p1), (1, z_I p2), (2, z_O p3)]) [0, 1, 2] rfl ?_
  refine z_aload_n dL_inFlightAnew_0 rfl 2 rfl ?_
  refine z_iconst (v := 0) dL_inFlightAnew_1 (by decide) ?_
  refine z_aload_n dL_inFlightAnew_2 rfl 0 rfl ?_
  refine z_iload_n dL_inFlightAnew_3 rfl 1 rfl ?_
  obtain ⟨a2, e2, hP⟩ := hP
  have k2 := f_p1 a2 e2
  refine z_wts (fun hT1 _ => ?_)
  refine z_hV (hh := hh_L_inFlightAnew) (c := 11) (n := 1) (Y1 := Y_X11_inFlightAnew) (st := [z_I _, z_O _]) e2 k2 z_cb11 (Nat.le_of_ble_eq_true rfl) rfl (s_X11_inFlightAnew hl9 k2 hP) rfl ⟨z_dc_X11_inFlightAnew, ⟨(Nat.le_of_ble_eq_true rfl), (Nat.le_of_ble_eq_true rfl)⟩, (Nat.le_of_ble_eq_true rfl)⟩ rfl zw_1233 zw_1234 zw_1235 zw_1 zw_1236 dL_inFlightAnew_4 z_hok_L_inFlightAnew (fun E M_1 hE9 hP _ x1 => ?_) (fun r_1 M_1 hP _ x1 => ?_)
  · obtain ⟨rfl, hP⟩ := hP
    · refine ⟨12, by decide, fun q_1 => ?_⟩
      refine z_astore_n (lv' := [(3, z_O _), (0, z_O _), (1, z_I _), (2, z_O _)]) dL_inFlightAnew_12 rfl (Nat.le_of_ble_eq_true rfl) rfl ?_
      refine z_iconst (v := 1) dL_inFlightAnew_13 (by decide) ?_
      refine z_pc (pc' := 14) rfl ?_
      exact z_reti rfl dL_inFlightAnew_14 hP
  · obtain ⟨x_1, rfl, hP⟩ := hP
    refine z_stk (st' := [z_I _, z_I _, z_O _]) rfl ?_
    have k2 := x1.k (k := 11) hT1 k2
    have f_p3 := x1.t (k := 24) hT1 f_p3
    refine z_i2l dL_inFlightAnew_7 ?_
    obtain ⟨a3, e3, hP⟩ := hP
    have k3 := f_p3 a3 e3
    obtain ⟨i4, hP⟩ := hP
    refine z_last e3 k3 i4 dL_inFlightAnew_8 ?_
    refine z_nm (fun M_5 g_5 => ?_)
    replace hP := hP M_5 g_5
    have q_5 := z_k5 g_5
    have k2 := z_kk q_5 k2
    have k3 := z_kk q_5 k3
    refine z_pc (pc' := 9) rfl ?_
    refine z_goto (tgt := 15) dL_inFlightAnew_9 (by decide) ?_
    refine z_iconst (v := 0) dL_inFlightAnew_15 (by decide) ?_
    exact z_reti rfl dL_inFlightAnew_16 hP
set_option maxRecDepth 100000 in
def P_L_gotAnew (p1 : Option Nat) (p2 : Int32) (p3 : Option Nat) (M : z_Mem) (Post : Int32 → z_Mem → Prop) : Prop := z_nn p1 fun a2 => (P_X11_gotAnew a2 p2 M (fun x_1 M_1 => z_nn p3 fun a3 => (vp_in 0 (z_ln M_1 a3) ∧ (∀ M_5 : z_Mem, M_5 = z_sal M_1 a3 ((0 : Int32).toNatClampNeg) ((x_1 : Int32).toInt64) → (Post 0 M_5)))) (fun E M_1 => (E = "java/lang/IndexOutOfBoundsException" ∧ Post 1 M_1)))
set_option maxRecDepth 100000 in
set_option maxHeartbeats 4000000 in
theorem s_L_gotAnew {G : z_G} {M : z_Mem} {p1 : Option Nat} {p2 : Int32} {p3 : Option Nat} {Post : Int32 → z_Mem → Prop} (hl9 : G.1.stackTraces = false) (f_p1 : z_tr M p1 12) (f_p3 : z_tr M p3 25) (hP : P_L_gotAnew p1 p2 p3 M Post) : z_MtH G Y_L_gotAnew hh_L_gotAnew M [z_O p1, z_I p2, z_O p3] (z_PI Post) := by
  refine z_ofVH (by decide) (Nat.le_of_ble_eq_true rfl) ?_
  unfold P_L_gotAnew at hP
  refine z_sub (lv' := [(0, z_O p1), (1, z_I p2), (2, z_O p3)]) [0, 1, 2] rfl ?_
  refine z_aload_n dL_gotAnew_0 rfl 2 rfl ?_
  refine z_iconst (v := 0) dL_gotAnew_1 (by decide) ?_
  refine z_aload_n dL_gotAnew_2 rfl 0 rfl ?_
  refine z_iload_n dL_gotAnew_3 rfl 1 rfl ?_
  obtain ⟨a2, e2, hP⟩ := hP
  have k2 := f_p1 a2 e2
  refine z_wts (fun hT1 _ => ?_)
  refine z_hV (hh := hh_L_gotAnew) (c := 11) (n := 1) (Y1 := Y_X11_gotAnew) (st := [z_I _, z_O _]) e2 k2 z_cb11 (Nat.le_of_ble_eq_true rfl) rfl (s_X11_gotAnew hl9 k2 hP) rfl ⟨z_dc_X11_gotAnew, ⟨(Nat.le_of_ble_eq_true rfl), (Nat.le_of_ble_eq_true rfl)⟩, (Nat.le_of_ble_eq_true rfl)⟩ rfl zw_1240 zw_1241 zw_1242 zw_1 zw_1243 dL_gotAnew_4 z_hok_L_gotAnew (fun E M_1 hE9 hP _ x1 => ?_) (fun r_1 M_1 hP _ x1 => ?_)
  · obtain ⟨rfl, hP⟩ := hP
    · refine ⟨12, by decide, fun q_1 => ?_⟩
      refine z_astore_n (lv' := [(3, z_O _), (0, z_O _), (1, z_I _), (2, z_O _)]) dL_gotAnew_12 rfl (Nat.le_of_ble_eq_true rfl) rfl ?_
      refine z_iconst (v := 1) dL_gotAnew_13 (by decide) ?_
      refine z_pc (pc' := 14) rfl ?_
      exact z_reti rfl dL_gotAnew_14 hP
  · obtain ⟨x_1, rfl, hP⟩ := hP
    refine z_stk (st' := [z_I _, z_I _, z_O _]) rfl ?_
    have k2 := x1.k (k := 11) hT1 k2
    have f_p3 := x1.t (k := 24) hT1 f_p3
    refine z_i2l dL_gotAnew_7 ?_
    obtain ⟨a3, e3, hP⟩ := hP
    have k3 := f_p3 a3 e3
    obtain ⟨i4, hP⟩ := hP
    refine z_last e3 k3 i4 dL_gotAnew_8 ?_
    refine z_nm (fun M_5 g_5 => ?_)
    replace hP := hP M_5 g_5
    have q_5 := z_k5 g_5
    have k2 := z_kk q_5 k2
    have k3 := z_kk q_5 k3
    refine z_pc (pc' := 9) rfl ?_
    refine z_goto (tgt := 15) dL_gotAnew_9 (by decide) ?_
    refine z_iconst (v := 0) dL_gotAnew_15 (by decide) ?_
    exact z_reti rfl dL_gotAnew_16 hP
def P_L_law_1049 (L : Nat) (xs : Nat → Int32) (Post : Int32 → z_Mem → Prop) (J23 : Option Nat → Option Nat → Option Nat → Int32 → z_Mem → Prop) (x1 : Option Nat) (x2 : Option Nat) (x3 : Option Nat) (x4 : Int32) (M : z_Mem) : Prop := ∀ x_1 : Int32, x_1 = x4 + 6 → (J23 x1 x2 x3 x_1 M)
def P_L_law_281 (L : Nat) (xs : Nat → Int32) (Post : Int32 → z_Mem → Prop) (J23 : Option Nat → Option Nat → Option Nat → Int32 → z_Mem → Prop) (x1 : Option Nat) (x2 : Option Nat) (x3 : Option Nat) (x4 : Int32) (t0 : Option Nat) (t1 : Int32) (t2 : Int32) (M : z_Mem) : Prop := z_nn t0 fun a3 => (P_X12_setUp a3 t1 t2 M fun x_2 M_2 => (P_L_law_1049 L xs Post J23 x1 x2 x3 x4 M_2))
def P_L_law_254 (L : Nat) (xs : Nat → Int32) (Post : Int32 → z_Mem → Prop) (J23 : Option Nat → Option Nat → Option Nat → Int32 → z_Mem → Prop) (x1 : Option Nat) (x2 : Option Nat) (x3 : Option Nat) (x4 : Int32) (t0 : Option Nat) (t1 : Int32) (t2 : Int32) (M : z_Mem) : Prop := P_L_setUp t0 t1 t2 x3 M fun x_4 M_4 => (vp_in (x4 + 1) L ∧ (vp_in (x4 + 2) L ∧ ((((xs ((x4 + 2) : Int32).toNatClampNeg) = 0 → P_L_law_281 L xs Post J23 x1 x2 x3 x4 x2 (xs ((x4 + 1) : Int32).toNatClampNeg) 0 M_4) ∧ (¬ (xs ((x4 + 2) : Int32).toNatClampNeg) = 0 → P_L_law_281 L xs Post J23 x1 x2 x3 x4 x2 (xs ((x4 + 1) : Int32).toNatClampNeg) 1 M_4)))))
def P_L_law_342 (L : Nat) (xs : Nat → Int32) (Post : Int32 → z_Mem → Prop) (J23 : Option Nat → Option Nat → Option Nat → Int32 → z_Mem → Prop) (x1 : Option Nat) (x2 : Option Nat) (x3 : Option Nat) (x4 : Int32) (t0 : Option Nat) (t1 : Int32) (t2 : Int32) (M : z_Mem) : Prop := vp_in (x4 + 3) L ∧ (z_nn t0 fun a10 => (P_X12_lose a10 t1 t2 (xs ((x4 + 3) : Int32).toNatClampNeg) M fun M_9 => (P_L_law_1049 L xs Post J23 x1 x2 x3 x4 M_9)))
def P_L_law_310 (L : Nat) (xs : Nat → Int32) (Post : Int32 → z_Mem → Prop) (J23 : Option Nat → Option Nat → Option Nat → Int32 → z_Mem → Prop) (x1 : Option Nat) (x2 : Option Nat) (x3 : Option Nat) (x4 : Int32) (t0 : Option Nat) (t1 : Int32) (t2 : Int32) (M : z_Mem) : Prop := vp_in (x4 + 3) L ∧ (P_L_lose t0 t1 t2 (xs ((x4 + 3) : Int32).toNatClampNeg) M fun x_12 M_12 => (vp_in (x4 + 1) L ∧ (vp_in (x4 + 2) L ∧ ((((xs ((x4 + 2) : Int32).toNatClampNeg) = 0 → P_L_law_342 L xs Post J23 x1 x2 x3 x4 x2 (xs ((x4 + 1) : Int32).toNatClampNeg) 0 M_12) ∧ (¬ (xs ((x4 + 2) : Int32).toNatClampNeg) = 0 → P_L_law_342 L xs Post J23 x1 x2 x3 x4 x2 (xs ((x4 + 1) : Int32).toNatClampNeg) 1 M_12))))))
def P_L_law_477 (L : Nat) (xs : Nat → Int32) (Post : Int32 → z_Mem → Prop) (J23 : Option Nat → Option Nat → Option Nat → Int32 → z_Mem → Prop) (x1 : Option Nat) (x2 : Option Nat) (x3 : Option Nat) (x4 : Int32) (t0 : Option Nat) (t1 : Int32) (M : z_Mem) : Prop := z_nn t0 fun a17 => (P_X12_setCookies a17 t1 M fun x_16 M_16 => (P_L_law_1049 L xs Post J23 x1 x2 x3 x4 M_16))
def P_L_law_458 (L : Nat) (xs : Nat → Int32) (Post : Int32 → z_Mem → Prop) (J23 : Option Nat → Option Nat → Option Nat → Int32 → z_Mem → Prop) (x1 : Option Nat) (x2 : Option Nat) (x3 : Option Nat) (x4 : Int32) (t0 : Option Nat) (t1 : Int32) (M : z_Mem) : Prop := z_nn t0 fun a19 => (P_X11_setCookies a19 t1 M fun x_18 M_18 => (vp_in (x4 + 1) L ∧ ((((xs ((x4 + 1) : Int32).toNatClampNeg) = 0 → P_L_law_477 L xs Post J23 x1 x2 x3 x4 x2 0 M_18) ∧ (¬ (xs ((x4 + 1) : Int32).toNatClampNeg) = 0 → P_L_law_477 L xs Post J23 x1 x2 x3 x4 x2 1 M_18)))))
def P_L_law_718 (L : Nat) (xs : Nat → Int32) (Post : Int32 → z_Mem → Prop) (J23 : Option Nat → Option Nat → Option Nat → Int32 → z_Mem → Prop) (x1 : Option Nat) (x2 : Option Nat) (x3 : Option Nat) (x4 : Int32) (M : z_Mem) : Prop := P_L_law_1049 L xs Post J23 x1 x2 x3 x4 M
set_option maxRecDepth 100000 in
def P_L_law_23 (L : Nat) (xs : Nat → Int32) (Post : Int32 → z_Mem → Prop)  : Nat → Option Nat → Option Nat → Option Nat → Int32 → z_Mem → Prop
  | 0, _, _, _, _, _ => False
  | n + 1, x1, x2, x3, x4, M => ((((nI L) - 6) < x4 → Post 1 M) ∧ (¬ ((nI L) - 6) < x4 → vp_in x4 L ∧ (((((xs (x4 : Int32).toNatClampNeg) &&& 31) = nI 0 → vp_in (x4 + 1) L ∧ (vp_in (x4 + 2) L ∧ (vp_in (x4 + 3) L ∧ (vp_in (x4 + 4) L ∧ (vp_in (x4 + 5) L ∧ (P_L_setPath x1 (xs ((x4 + 1) : Int32).toNatClampNeg) (xs ((x4 + 2) : Int32).toNatClampNeg) (xs ((x4 + 3) : Int32).toNatClampNeg) (xs ((x4 + 4) : Int32).toNatClampNeg) (xs ((x4 + 5) : Int32).toNatClampNeg) M fun x_30 M_30 => (vp_in (x4 + 1) L ∧ (vp_in (x4 + 2) L ∧ (vp_in (x4 + 3) L ∧ (vp_in (x4 + 4) L ∧ (vp_in (x4 + 5) L ∧ (z_nn x2 fun a37 => (P_X12_setPath a37 (xs ((x4 + 1) : Int32).toNatClampNeg) (xs ((x4 + 2) : Int32).toNatClampNeg) (xs ((x4 + 3) : Int32).toNatClampNeg) (xs ((x4 + 4) : Int32).toNatClampNeg) (xs ((x4 + 5) : Int32).toNatClampNeg) M_30 fun M_36 => (P_L_law_1049 L xs Post (fun q0 q1 q2 q3 qM => P_L_law_23 L xs Post n q0 q1 q2 q3 qM) x1 x2 x3 x4 M_36)))))))))))))) ∧ (((xs (x4 : Int32).toNatClampNeg) &&& 31) = nI 1 → vp_in (x4 + 1) L ∧ (vp_in (x4 + 2) L ∧ ((((xs ((x4 + 2) : Int32).toNatClampNeg) = 0 → P_L_law_254 L xs Post (fun q0 q1 q2 q3 qM => P_L_law_23 L xs Post n q0 q1 q2 q3 qM) x1 x2 x3 x4 x1 (xs ((x4 + 1) : Int32).toNatClampNeg) 0 M) ∧ (¬ (xs ((x4 + 2) : Int32).toNatClampNeg) = 0 → P_L_law_254 L xs Post (fun q0 q1 q2 q3 qM => P_L_law_23 L xs Post n q0 q1 q2 q3 qM) x1 x2 x3 x4 x1 (xs ((x4 + 1) : Int32).toNatClampNeg) 1 M))))) ∧ (((xs (x4 : Int32).toNatClampNeg) &&& 31) = nI 2 → vp_in (x4 + 1) L ∧ (vp_in (x4 + 2) L ∧ ((((xs ((x4 + 2) : Int32).toNatClampNeg) = 0 → P_L_law_310 L xs Post (fun q0 q1 q2 q3 qM => P_L_law_23 L xs Post n q0 q1 q2 q3 qM) x1 x2 x3 x4 x1 (xs ((x4 + 1) : Int32).toNatClampNeg) 0 M) ∧ (¬ (xs ((x4 + 2) : Int32).toNatClampNeg) = 0 → P_L_law_310 L xs Post (fun q0 q1 q2 q3 qM => P_L_law_23 L xs Post n q0 q1 q2 q3 qM) x1 x2 x3 x4 x1 (xs ((x4 + 1) : Int32).toNatClampNeg) 1 M))))) ∧ (((xs (x4 : Int32).toNatClampNeg) &&& 31) = nI 3 → vp_in (x4 + 1) L ∧ (vp_in (x4 + 2) L ∧ (vp_in (x4 + 3) L ∧ (P_L_late x1 (xs ((x4 + 1) : Int32).toNatClampNeg) (xs ((x4 + 2) : Int32).toNatClampNeg) (xs ((x4 + 3) : Int32).toNatClampNeg) M fun x_47 M_47 => (vp_in (x4 + 1) L ∧ (vp_in (x4 + 2) L ∧ (vp_in (x4 + 3) L ∧ (z_nn x2 fun a52 => (P_X12_late a52 (xs ((x4 + 1) : Int32).toNatClampNeg) (xs ((x4 + 2) : Int32).toNatClampNeg) (xs ((x4 + 3) : Int32).toNatClampNeg) M_47 fun M_51 => (P_L_law_1049 L xs Post (fun q0 q1 q2 q3 qM => P_L_law_23 L xs Post n q0 q1 q2 q3 qM) x1 x2 x3 x4 M_51)))))))))) ∧ (((xs (x4 : Int32).toNatClampNeg) &&& 31) = nI 4 → vp_in (x4 + 1) L ∧ (vp_in (x4 + 2) L ∧ (P_L_foreign x1 (xs ((x4 + 1) : Int32).toNatClampNeg) (xs ((x4 + 2) : Int32).toNatClampNeg) x3 M fun x_55 M_55 => (vp_in (x4 + 1) L ∧ (vp_in (x4 + 2) L ∧ (z_nn x2 fun a59 => (P_X12_foreign a59 (xs ((x4 + 1) : Int32).toNatClampNeg) (xs ((x4 + 2) : Int32).toNatClampNeg) M_55 fun x_58 M_58 => (P_L_law_1049 L xs Post (fun q0 q1 q2 q3 qM => P_L_law_23 L xs Post n q0 q1 q2 q3 qM) x1 x2 x3 x4 M_58)))))))) ∧ (((xs (x4 : Int32).toNatClampNeg) &&& 31) = nI 5 → vp_in (x4 + 1) L ∧ ((((xs ((x4 + 1) : Int32).toNatClampNeg) = 0 → P_L_law_458 L xs Post (fun q0 q1 q2 q3 qM => P_L_law_23 L xs Post n q0 q1 q2 q3 qM) x1 x2 x3 x4 x1 0 M) ∧ (¬ (xs ((x4 + 1) : Int32).toNatClampNeg) = 0 → P_L_law_458 L xs Post (fun q0 q1 q2 q3 qM => P_L_law_23 L xs Post n q0 q1 q2 q3 qM) x1 x2 x3 x4 x1 1 M)))) ∧ (((xs (x4 : Int32).toNatClampNeg) &&& 31) = nI 6 → vp_in (x4 + 1) L ∧ (vp_in (x4 + 2) L ∧ (P_L_read x1 (xs ((x4 + 1) : Int32).toNatClampNeg) (xs ((x4 + 2) : Int32).toNatClampNeg) x3 M fun x_64 M_64 => (vp_in (x4 + 1) L ∧ (vp_in (x4 + 2) L ∧ (z_nn x2 fun a68 => (P_X12_read a68 (xs ((x4 + 1) : Int32).toNatClampNeg) (xs ((x4 + 2) : Int32).toNatClampNeg) M_64 fun x_67 M_67 => (P_L_law_1049 L xs Post (fun q0 q1 q2 q3 qM => P_L_law_23 L xs Post n q0 q1 q2 q3 qM) x1 x2 x3 x4 M_67)))))))) ∧ (((xs (x4 : Int32).toNatClampNeg) &&& 31) = nI 7 → z_nn x1 fun a70 => (P_X11_loseState a70 M fun M_69 => (z_nn x2 fun a72 => (P_X12_loseState a72 M_69 fun M_71 => (P_L_law_1049 L xs Post (fun q0 q1 q2 q3 qM => P_L_law_23 L xs Post n q0 q1 q2 q3 qM) x1 x2 x3 x4 M_71))))) ∧ (((xs (x4 : Int32).toNatClampNeg) &&& 31) = nI 8 → vp_in (x4 + 1) L ∧ (P_L_connect x1 (xs ((x4 + 1) : Int32).toNatClampNeg) M fun x_74 M_74 => (vp_in (x4 + 1) L ∧ (z_nn x2 fun a77 => (P_X12_connect a77 (xs ((x4 + 1) : Int32).toNatClampNeg) M_74 fun M_76 => (P_L_law_1049 L xs Post (fun q0 q1 q2 q3 qM => P_L_law_23 L xs Post n q0 q1 q2 q3 qM) x1 x2 x3 x4 M_76)))))) ∧ (((xs (x4 : Int32).toNatClampNeg) &&& 31) = nI 9 → vp_in (x4 + 1) L ∧ (vp_in (x4 + 2) L ∧ (P_L_write x1 (xs ((x4 + 1) : Int32).toNatClampNeg) (xs ((x4 + 2) : Int32).toNatClampNeg) x3 M fun x_80 M_80 => (vp_in (x4 + 1) L ∧ (vp_in (x4 + 2) L ∧ (z_nn x2 fun a84 => (P_X12_write a84 (xs ((x4 + 1) : Int32).toNatClampNeg) (xs ((x4 + 2) : Int32).toNatClampNeg) M_80 fun x_83 M_83 => (P_L_law_1049 L xs Post (fun q0 q1 q2 q3 qM => P_L_law_23 L xs Post n q0 q1 q2 q3 qM) x1 x2 x3 x4 M_83)))))))) ∧ (((xs (x4 : Int32).toNatClampNeg) &&& 31) = nI 10 → vp_in (x4 + 1) L ∧ (vp_in (x4 + 2) L ∧ (P_L_setWay x1 (xs ((x4 + 1) : Int32).toNatClampNeg) (xs ((x4 + 2) : Int32).toNatClampNeg) x3 M fun x_87 M_87 => (vp_in (x4 + 1) L ∧ (vp_in (x4 + 2) L ∧ (z_nn x2 fun a91 => (P_X12_setWay a91 (xs ((x4 + 1) : Int32).toNatClampNeg) (xs ((x4 + 2) : Int32).toNatClampNeg) M_87 fun x_90 M_90 => (P_L_law_1049 L xs Post (fun q0 q1 q2 q3 qM => P_L_law_23 L xs Post n q0 q1 q2 q3 qM) x1 x2 x3 x4 M_90)))))))) ∧ (((xs (x4 : Int32).toNatClampNeg) &&& 31) = nI 11 → vp_in (x4 + 1) L ∧ (P_L_check x1 (xs ((x4 + 1) : Int32).toNatClampNeg) M fun x_93 M_93 => (vp_in (x4 + 1) L ∧ (z_nn x2 fun a96 => (P_X12_check a96 (xs ((x4 + 1) : Int32).toNatClampNeg) M_93 fun M_95 => (P_L_law_1049 L xs Post (fun q0 q1 q2 q3 qM => P_L_law_23 L xs Post n q0 q1 q2 q3 qM) x1 x2 x3 x4 M_95)))))) ∧ (((xs (x4 : Int32).toNatClampNeg) &&& 31) = nI 12 → vp_in (x4 + 1) L ∧ (P_L_use x1 (xs ((x4 + 1) : Int32).toNatClampNeg) x3 M fun x_98 M_98 => (vp_in (x4 + 1) L ∧ (z_nn x2 fun a101 => (P_X12_use a101 (xs ((x4 + 1) : Int32).toNatClampNeg) M_98 fun x_100 M_100 => (P_X12_thrown a101 M_100 fun x_102 M_102 => (((x_102 = x_98 → ((x_98 = 0 → z_nn x3 fun a105 => (vp_in 0 (z_ln M_102 a105) ∧ ((((lg_cmp (z_al M_102 a105 ((0 : Int32).toNatClampNeg)) ((x_100 : Int32).toInt64)) = 0 → P_L_law_718 L xs Post (fun q0 q1 q2 q3 qM => P_L_law_23 L xs Post n q0 q1 q2 q3 qM) x1 x2 x3 x4 M_102) ∧ (¬ (lg_cmp (z_al M_102 a105 ((0 : Int32).toNatClampNeg)) ((x_100 : Int32).toInt64)) = 0 → Post 0 M_102))))) ∧ (¬ x_98 = 0 → P_L_law_718 L xs Post (fun q0 q1 q2 q3 qM => P_L_law_23 L xs Post n q0 q1 q2 q3 qM) x1 x2 x3 x4 M_102))) ∧ (¬ x_102 = x_98 → Post 0 M_102))))))))) ∧ (((xs (x4 : Int32).toNatClampNeg) &&& 31) = nI 13 → P_L_changeKey x1 x3 M fun x_108 M_108 => (z_nn x2 fun a110 => (P_X12_changeKey a110 M_108 fun x_109 M_109 => (P_L_law_1049 L xs Post (fun q0 q1 q2 q3 qM => P_L_law_23 L xs Post n q0 q1 q2 q3 qM) x1 x2 x3 x4 M_109)))) ∧ (((xs (x4 : Int32).toNatClampNeg) &&& 31) = nI 14 → P_L_close x1 M fun x_111 M_111 => (z_nn x2 fun a113 => (P_X12_close a113 M_111 fun M_112 => (P_L_law_1049 L xs Post (fun q0 q1 q2 q3 qM => P_L_law_23 L xs Post n q0 q1 q2 q3 qM) x1 x2 x3 x4 M_112)))) ∧ (((xs (x4 : Int32).toNatClampNeg) &&& 31) = nI 15 → vp_in (x4 + 1) L ∧ (P_L_tick x1 (xs ((x4 + 1) : Int32).toNatClampNeg) x3 M fun x_115 M_115 => (vp_in (x4 + 1) L ∧ (z_nn x2 fun a118 => (P_X12_tick a118 (xs ((x4 + 1) : Int32).toNatClampNeg) M_115 fun x_117 M_117 => (P_L_law_1049 L xs Post (fun q0 q1 q2 q3 qM => P_L_law_23 L xs Post n q0 q1 q2 q3 qM) x1 x2 x3 x4 M_117)))))) ∧ (((xs (x4 : Int32).toNatClampNeg) &&& 31) = nI 16 → z_nn x1 fun a120 => (P_X11_now a120 M fun x_119 M_119 => (z_nn x2 fun a122 => (P_X12_now a122 M_119 fun x_121 M_121 => (P_L_law_1049 L xs Post (fun q0 q1 q2 q3 qM => P_L_law_23 L xs Post n q0 q1 q2 q3 qM) x1 x2 x3 x4 M_121))))) ∧ (((xs (x4 : Int32).toNatClampNeg) &&& 31) = nI 17 → vp_in (x4 + 1) L ∧ (P_L_state x1 (xs ((x4 + 1) : Int32).toNatClampNeg) x3 M fun x_124 M_124 => (vp_in (x4 + 1) L ∧ (z_nn x2 fun a127 => (P_X12_state a127 (xs ((x4 + 1) : Int32).toNatClampNeg) M_124 fun x_126 M_126 => (P_L_law_1049 L xs Post (fun q0 q1 q2 q3 qM => P_L_law_23 L xs Post n q0 q1 q2 q3 qM) x1 x2 x3 x4 M_126)))))) ∧ (((xs (x4 : Int32).toNatClampNeg) &&& 31) = nI 18 → vp_in (x4 + 1) L ∧ (vp_in (x4 + 2) L ∧ (P_L_path x1 (xs ((x4 + 1) : Int32).toNatClampNeg) (xs ((x4 + 2) : Int32).toNatClampNeg) x3 M fun x_130 M_130 => (vp_in (x4 + 1) L ∧ (vp_in (x4 + 2) L ∧ (z_nn x2 fun a134 => (P_X12_path a134 (xs ((x4 + 1) : Int32).toNatClampNeg) (xs ((x4 + 2) : Int32).toNatClampNeg) M_130 fun x_133 M_133 => (P_L_law_1049 L xs Post (fun q0 q1 q2 q3 qM => P_L_law_23 L xs Post n q0 q1 q2 q3 qM) x1 x2 x3 x4 M_133)))))))) ∧ (((xs (x4 : Int32).toNatClampNeg) &&& 31) = nI 19 → vp_in (x4 + 1) L ∧ (vp_in (x4 + 2) L ∧ (P_L_stream x1 (xs ((x4 + 1) : Int32).toNatClampNeg) (xs ((x4 + 2) : Int32).toNatClampNeg) x3 M fun x_137 M_137 => (vp_in (x4 + 1) L ∧ (vp_in (x4 + 2) L ∧ (z_nn x2 fun a141 => (P_X12_stream a141 (xs ((x4 + 1) : Int32).toNatClampNeg) (xs ((x4 + 2) : Int32).toNatClampNeg) M_137 fun x_140 M_140 => (P_L_law_1049 L xs Post (fun q0 q1 q2 q3 qM => P_L_law_23 L xs Post n q0 q1 q2 q3 qM) x1 x2 x3 x4 M_140)))))))) ∧ (((xs (x4 : Int32).toNatClampNeg) &&& 31) = nI 20 → z_nn x1 fun a143 => (P_X11_credit a143 M fun x_142 M_142 => (z_nn x2 fun a145 => (P_X12_credit a145 M_142 fun x_144 M_144 => (P_L_law_1049 L xs Post (fun q0 q1 q2 q3 qM => P_L_law_23 L xs Post n q0 q1 q2 q3 qM) x1 x2 x3 x4 M_144))))) ∧ (((xs (x4 : Int32).toNatClampNeg) &&& 31) = nI 21 → z_nn x1 fun a147 => (P_X11_packets a147 M fun x_146 M_146 => (z_nn x2 fun a149 => (P_X12_packets a149 M_146 fun x_148 M_148 => (P_L_law_1049 L xs Post (fun q0 q1 q2 q3 qM => P_L_law_23 L xs Post n q0 q1 q2 q3 qM) x1 x2 x3 x4 M_148))))) ∧ (((xs (x4 : Int32).toNatClampNeg) &&& 31) = nI 22 → vp_in (x4 + 1) L ∧ (vp_in (x4 + 2) L ∧ (P_L_packet x1 (xs ((x4 + 1) : Int32).toNatClampNeg) (xs ((x4 + 2) : Int32).toNatClampNeg) x3 M fun x_152 M_152 => (vp_in (x4 + 1) L ∧ (vp_in (x4 + 2) L ∧ (z_nn x2 fun a156 => (P_X12_packet a156 (xs ((x4 + 1) : Int32).toNatClampNeg) (xs ((x4 + 2) : Int32).toNatClampNeg) M_152 fun x_155 M_155 => (P_L_law_1049 L xs Post (fun q0 q1 q2 q3 qM => P_L_law_23 L xs Post n q0 q1 q2 q3 qM) x1 x2 x3 x4 M_155)))))))) ∧ (((xs (x4 : Int32).toNatClampNeg) &&& 31) = nI 23 → vp_in (x4 + 1) L ∧ (P_L_count x1 (xs ((x4 + 1) : Int32).toNatClampNeg) x3 M fun x_158 M_158 => (vp_in (x4 + 1) L ∧ (z_nn x2 fun a161 => (P_X12_count a161 (xs ((x4 + 1) : Int32).toNatClampNeg) M_158 fun x_160 M_160 => (P_L_law_1049 L xs Post (fun q0 q1 q2 q3 qM => P_L_law_23 L xs Post n q0 q1 q2 q3 qM) x1 x2 x3 x4 M_160)))))) ∧ (((xs (x4 : Int32).toNatClampNeg) &&& 31) = nI 24 → vp_in (x4 + 1) L ∧ (P_L_inFlightAnew x1 (xs ((x4 + 1) : Int32).toNatClampNeg) x3 M fun x_163 M_163 => (vp_in (x4 + 1) L ∧ (z_nn x2 fun a166 => (P_X12_inFlightAnew a166 (xs ((x4 + 1) : Int32).toNatClampNeg) M_163 fun x_165 M_165 => (P_L_law_1049 L xs Post (fun q0 q1 q2 q3 qM => P_L_law_23 L xs Post n q0 q1 q2 q3 qM) x1 x2 x3 x4 M_165)))))) ∧ (((xs (x4 : Int32).toNatClampNeg) &&& 31) = nI 25 → vp_in (x4 + 1) L ∧ (P_L_gotAnew x1 (xs ((x4 + 1) : Int32).toNatClampNeg) x3 M fun x_168 M_168 => (vp_in (x4 + 1) L ∧ (z_nn x2 fun a171 => (P_X12_gotAnew a171 (xs ((x4 + 1) : Int32).toNatClampNeg) M_168 fun x_170 M_170 => (P_L_law_1049 L xs Post (fun q0 q1 q2 q3 qM => P_L_law_23 L xs Post n q0 q1 q2 q3 qM) x1 x2 x3 x4 M_170)))))) ∧ (((xs (x4 : Int32).toNatClampNeg) &&& 31) < 0 ∨ nI 25 < ((xs (x4 : Int32).toNatClampNeg) &&& 31) → P_L_law_1049 L xs Post (fun q0 q1 q2 q3 qM => P_L_law_23 L xs Post n q0 q1 q2 q3 qM) x1 x2 x3 x4 M)))))
set_option maxRecDepth 100000 in
def P_L_law (L : Nat) (xs : Nat → Int32) (M : z_Mem) (Post : Int32 → z_Mem → Prop) : Prop := z_room M 5 ∧ (∀ M_173 : z_Mem, M_173 = z_new M 12 5 → (P_X11_init (z_sz M) M_173 fun M_174 => (z_room M_174 95 ∧ (∀ M_176 : z_Mem, M_176 = z_new M_174 13 95 → (P_X12_init (z_sz M_174) M_176 fun M_177 => (z_room M_177 1 ∧ (∀ M_179 : z_Mem, M_179 = z_nwa M_177 25 1 → ((∃ n180 : Nat, P_L_law_23 L xs Post n180 (some (z_sz M)) (some (z_sz M_174)) (some (z_sz M_177)) 0 M_179)))))))))
set_option maxRecDepth 100000 in
set_option maxHeartbeats 4000000 in
theorem v_L_law_1049 {G : z_G} {M0 : z_Mem} {a L : Nat} {xs : Nat → Int32} {Post : Int32 → z_Mem → Prop} (hl9 : G.1.stackTraces = false) (hkb : z_ki M0 a = 0) {J23 : Option Nat → Option Nat → Option Nat → Int32 → z_Mem → Prop} (hJ23 : ∀ (x1 : Option Nat) (x2 : Option Nat) (x3 : Option Nat) (x4 : Int32) (M : z_Mem), (z_tr M x1 12) → (z_tr M x2 13) → (z_tr M x3 25) → J23 x1 x2 x3 x4 M → z_V G Y_L_law (z_XL a L xs) M0 (z_QM G M0 (z_PB Post)) M 23 [(0, z_O (some a)), (1, z_O x1), (2, z_O x2), (3, z_O x3), (4, z_I x4)] []) {x1 : Option Nat} {x2 : Option Nat} {x3 : Option Nat} {x4 : Int32} {M : z_Mem} (f_x1 : z_tr M x1 12) (f_x2 : z_tr M x2 13) (f_x3 : z_tr M x3 25) (hP : P_L_law_1049 L xs Post J23 x1 x2 x3 x4 M) : z_V G Y_L_law (z_XL a L xs) M0 (z_QM G M0 (z_PB Post)) M 1049 [(0, z_O (some a)), (1, z_O x1), (2, z_O x2), (3, z_O x3), (4, z_I x4)] [] := by
  unfold P_L_law_1049 at hP
  refine z_iincN (j := 4) (m := 6) (lv' := fun v => [(4, z_I v), (0, z_O _), (1, z_O _), (2, z_O _), (3, z_O _)]) dL_law_1049 rfl (by decide) (Nat.le_of_ble_eq_true rfl) (fun _ => rfl) (fun x_1 y_1 => ?_)
  replace hP := hP x_1 y_1
  refine z_goto (tgt := 23) dL_law_1052 (by decide) ?_
  refine z_sub (lv' := [(0, z_O _), (1, z_O _), (2, z_O _), (3, z_O _), (4, z_I _)]) [1, 2, 3, 4, 0] rfl ?_
  exact hJ23 _ _ _ _ _ f_x1 f_x2 f_x3 hP
set_option maxRecDepth 100000 in
set_option maxHeartbeats 4000000 in
theorem v_L_law_281 {G : z_G} {M0 : z_Mem} {a L : Nat} {xs : Nat → Int32} {Post : Int32 → z_Mem → Prop} (hl9 : G.1.stackTraces = false) (hkb : z_ki M0 a = 0) {J23 : Option Nat → Option Nat → Option Nat → Int32 → z_Mem → Prop} (hJ23 : ∀ (x1 : Option Nat) (x2 : Option Nat) (x3 : Option Nat) (x4 : Int32) (M : z_Mem), (z_tr M x1 12) → (z_tr M x2 13) → (z_tr M x3 25) → J23 x1 x2 x3 x4 M → z_V G Y_L_law (z_XL a L xs) M0 (z_QM G M0 (z_PB Post)) M 23 [(0, z_O (some a)), (1, z_O x1), (2, z_O x2), (3, z_O x3), (4, z_I x4)] []) {x1 : Option Nat} {x2 : Option Nat} {x3 : Option Nat} {x4 : Int32} {t0 : Option Nat} {t1 : Int32} {t2 : Int32} {M : z_Mem} (f_x1 : z_tr M x1 12) (f_x2 : z_tr M x2 13) (f_x3 : z_tr M x3 25) (f_t0 : z_tr M t0 13) (f_t2 : t2 = 0 ∨ t2 = 1) (hP : P_L_law_281 L xs Post J23 x1 x2 x3 x4 t0 t1 t2 M) : z_V G Y_L_law (z_XL a L xs) M0 (z_QM G M0 (z_PB Post)) M 281 [(0, z_O (some a)), (1, z_O x1), (2, z_O x2), (3, z_O x3), (4, z_I x4)] [z_I t2, z_I t1, z_O t0] := by
  unfold P_L_law_281 at hP
  obtain ⟨a3, e3, hP⟩ := hP
  have k3 := f_t0 a3 e3
  refine z_wts (fun hT2 _ => ?_)
  refine z_cVb (c := 12) (n := 2) (Y1 := Y_X12_setUp) (st := []) e3 k3 z_cb12 (Nat.le_of_ble_eq_true rfl) rfl (s_X12_setUp k3 f_t2 hP) rfl ⟨z_dc_X12_setUp, ⟨(Nat.le_of_ble_eq_true rfl), (Nat.le_of_ble_eq_true rfl)⟩, (Nat.le_of_ble_eq_true rfl)⟩ rfl zw_1559 zw_1560 zw_1561 zw_12 zw_1562 dL_law_281 (fun x_2 M_2 b2 hP _ x2 => ?_)
  have f_x1 := x2.t (k := 11) hT2 f_x1
  have f_x2 := x2.t (k := 12) hT2 f_x2
  have f_x3 := x2.t (k := 24) hT2 f_x3
  refine z_istore (lv' := [(6, z_I _), (0, z_O _), (1, z_O _), (2, z_O _), (3, z_O _), (4, z_I _)]) dL_law_284 (Nat.le_of_ble_eq_true rfl) rfl ?_
  refine z_goto (tgt := 1049) dL_law_286 (by decide) ?_
  refine z_sub (lv' := [(0, z_O _), (1, z_O _), (2, z_O _), (3, z_O _), (4, z_I _)]) [1, 2, 3, 4, 5] rfl ?_
  exact v_L_law_1049 hl9 hkb hJ23 f_x1 f_x2 f_x3 hP
set_option maxRecDepth 100000 in
set_option maxHeartbeats 4000000 in
theorem v_L_law_254 {G : z_G} {M0 : z_Mem} {a L : Nat} {xs : Nat → Int32} {Post : Int32 → z_Mem → Prop} (hl9 : G.1.stackTraces = false) (hkb : z_ki M0 a = 0) {J23 : Option Nat → Option Nat → Option Nat → Int32 → z_Mem → Prop} (hJ23 : ∀ (x1 : Option Nat) (x2 : Option Nat) (x3 : Option Nat) (x4 : Int32) (M : z_Mem), (z_tr M x1 12) → (z_tr M x2 13) → (z_tr M x3 25) → J23 x1 x2 x3 x4 M → z_V G Y_L_law (z_XL a L xs) M0 (z_QM G M0 (z_PB Post)) M 23 [(0, z_O (some a)), (1, z_O x1), (2, z_O x2), (3, z_O x3), (4, z_I x4)] []) {x1 : Option Nat} {x2 : Option Nat} {x3 : Option Nat} {x4 : Int32} {t0 : Option Nat} {t1 : Int32} {t2 : Int32} {M : z_Mem} (f_x1 : z_tr M x1 12) (f_x2 : z_tr M x2 13) (f_x3 : z_tr M x3 25) (f_t0 : z_tr M t0 12) (f_t2 : t2 = 0 ∨ t2 = 1) (hP : P_L_law_254 L xs Post J23 x1 x2 x3 x4 t0 t1 t2 M) : z_V G Y_L_law (z_XL a L xs) M0 (z_QM G M0 (z_PB Post)) M 254 [(0, z_O (some a)), (1, z_O x1), (2, z_O x2), (3, z_O x3), (4, z_I x4)] [z_I t2, z_I t1, z_O t0] := by
  unfold P_L_law_254 at hP
  refine z_aload_n dL_law_254 rfl 3 rfl ?_
  refine z_wts (fun hT4 _ => ?_)
  refine z_cSHi (hh := hh_L_setUp) (n := 4) (Y1 := Y_L_setUp) (st := []) rfl (s_L_setUp hl9 f_t0 f_t2 f_x3 hP) rfl ⟨z_dc_L_setUp, ⟨(Nat.le_of_ble_eq_true rfl), (Nat.le_of_ble_eq_true rfl)⟩, (Nat.le_of_ble_eq_true rfl)⟩ rfl zw_635 zw_636 zw_0 zh_L_setUp dL_law_255 (fun x_4 M_4 hP _ x4 => ?_)
  have f_x1 := x4.t (k := 11) hT4 f_x1
  have f_x2 := x4.t (k := 12) hT4 f_x2
  have f_x3 := x4.t (k := 24) hT4 f_x3
  refine z_istore (lv' := [(5, z_I _), (0, z_O _), (1, z_O _), (2, z_O _), (3, z_O _), (4, z_I _)]) dL_law_258 (Nat.le_of_ble_eq_true rfl) rfl ?_
  refine z_aload_n dL_law_260 rfl 3 rfl ?_
  refine z_aload_n dL_law_261 rfl 1 rfl ?_
  refine z_iload dL_law_262 5 rfl ?_
  refine z_pc (pc' := 264) rfl ?_
  refine z_iconst (v := 1) dL_law_264 (by decide) ?_
  refine z_iadd dL_law_265 ?_
  obtain ⟨i5, hP⟩ := hP
  refine z_sld hkb i5 dL_law_266 ?_
  refine z_aload_n dL_law_267 rfl 1 rfl ?_
  refine z_iload dL_law_268 5 rfl ?_
  refine z_iconst (v := 2) dL_law_270 (by decide) ?_
  refine z_pc (pc' := 271) rfl ?_
  refine z_iadd dL_law_271 ?_
  obtain ⟨i6, hP⟩ := hP
  refine z_sld hkb i6 dL_law_272 ?_
  refine z_if_eq (tgt := 280) dL_law_273 (by decide) (fun h7 => ?_) (fun h7 => ?_)
  · replace hP := hP.1 h7
    refine z_iconst (v := 0) dL_law_280 (by decide) ?_
    refine z_sub (lv' := [(0, z_O _), (1, z_O _), (2, z_O _), (3, z_O _), (4, z_I _)]) [1, 2, 3, 4, 5] rfl ?_
    exact v_L_law_281 hl9 hkb hJ23 f_x1 f_x2 f_x3 f_x2 (Or.inl rfl) hP
  · replace hP := hP.2 h7
    refine z_iconst (v := 1) dL_law_276 (by decide) ?_
    refine z_goto (tgt := 281) dL_law_277 (by decide) ?_
    refine z_sub (lv' := [(0, z_O _), (1, z_O _), (2, z_O _), (3, z_O _), (4, z_I _)]) [1, 2, 3, 4, 5] rfl ?_
    exact v_L_law_281 hl9 hkb hJ23 f_x1 f_x2 f_x3 f_x2 (Or.inr rfl) hP
set_option maxRecDepth 100000 in
set_option maxHeartbeats 4000000 in
theorem v_L_law_342 {G : z_G} {M0 : z_Mem} {a L : Nat} {xs : Nat → Int32} {Post : Int32 → z_Mem → Prop} (hl9 : G.1.stackTraces = false) (hkb : z_ki M0 a = 0) {J23 : Option Nat → Option Nat → Option Nat → Int32 → z_Mem → Prop} (hJ23 : ∀ (x1 : Option Nat) (x2 : Option Nat) (x3 : Option Nat) (x4 : Int32) (M : z_Mem), (z_tr M x1 12) → (z_tr M x2 13) → (z_tr M x3 25) → J23 x1 x2 x3 x4 M → z_V G Y_L_law (z_XL a L xs) M0 (z_QM G M0 (z_PB Post)) M 23 [(0, z_O (some a)), (1, z_O x1), (2, z_O x2), (3, z_O x3), (4, z_I x4)] []) {x1 : Option Nat} {x2 : Option Nat} {x3 : Option Nat} {x4 : Int32} {t0 : Option Nat} {t1 : Int32} {t2 : Int32} {M : z_Mem} (f_x1 : z_tr M x1 12) (f_x2 : z_tr M x2 13) (f_x3 : z_tr M x3 25) (f_t0 : z_tr M t0 13) (f_t2 : t2 = 0 ∨ t2 = 1) (hP : P_L_law_342 L xs Post J23 x1 x2 x3 x4 t0 t1 t2 M) : z_V G Y_L_law (z_XL a L xs) M0 (z_QM G M0 (z_PB Post)) M 342 [(0, z_O (some a)), (1, z_O x1), (2, z_O x2), (3, z_O x3), (4, z_I x4)] [z_I t2, z_I t1, z_O t0] := by
  unfold P_L_law_342 at hP
  refine z_aload_n dL_law_342 rfl 0 rfl ?_
  refine z_iload dL_law_343 4 rfl ?_
  refine z_iconst (v := 3) dL_law_345 (by decide) ?_
  refine z_iadd dL_law_346 ?_
  obtain ⟨i8, hP⟩ := hP
  refine z_sld hkb i8 dL_law_347 ?_
  obtain ⟨a10, e10, hP⟩ := hP
  have k10 := f_t0 a10 e10
  refine z_wts (fun hT9 _ => ?_)
  refine z_cVv (c := 12) (n := 3) (Y1 := Y_X12_lose) (st := []) e10 k10 z_cb12 (Nat.le_of_ble_eq_true rfl) rfl (s_X12_lose k10 f_t2 hP) rfl ⟨z_dc_X12_lose, ⟨(Nat.le_of_ble_eq_true rfl), (Nat.le_of_ble_eq_true rfl)⟩, (Nat.le_of_ble_eq_true rfl)⟩ rfl zw_1563 zw_1564 zw_1565 zw_12 zw_1566 dL_law_348 (fun M_9 hP _ x9 => ?_)
  have f_x1 := x9.t (k := 11) hT9 f_x1
  have f_x2 := x9.t (k := 12) hT9 f_x2
  have f_x3 := x9.t (k := 24) hT9 f_x3
  refine z_pc (pc' := 351) rfl ?_
  refine z_goto (tgt := 1049) dL_law_351 (by decide) ?_
  refine z_sub (lv' := [(0, z_O _), (1, z_O _), (2, z_O _), (3, z_O _), (4, z_I _)]) [0, 1, 2, 3, 4] rfl ?_
  exact v_L_law_1049 hl9 hkb hJ23 f_x1 f_x2 f_x3 hP
set_option maxRecDepth 100000 in
set_option maxHeartbeats 4000000 in
theorem v_L_law_310 {G : z_G} {M0 : z_Mem} {a L : Nat} {xs : Nat → Int32} {Post : Int32 → z_Mem → Prop} (hl9 : G.1.stackTraces = false) (hkb : z_ki M0 a = 0) {J23 : Option Nat → Option Nat → Option Nat → Int32 → z_Mem → Prop} (hJ23 : ∀ (x1 : Option Nat) (x2 : Option Nat) (x3 : Option Nat) (x4 : Int32) (M : z_Mem), (z_tr M x1 12) → (z_tr M x2 13) → (z_tr M x3 25) → J23 x1 x2 x3 x4 M → z_V G Y_L_law (z_XL a L xs) M0 (z_QM G M0 (z_PB Post)) M 23 [(0, z_O (some a)), (1, z_O x1), (2, z_O x2), (3, z_O x3), (4, z_I x4)] []) {x1 : Option Nat} {x2 : Option Nat} {x3 : Option Nat} {x4 : Int32} {t0 : Option Nat} {t1 : Int32} {t2 : Int32} {M : z_Mem} (f_x1 : z_tr M x1 12) (f_x2 : z_tr M x2 13) (f_x3 : z_tr M x3 25) (f_t0 : z_tr M t0 12) (f_t2 : t2 = 0 ∨ t2 = 1) (hP : P_L_law_310 L xs Post J23 x1 x2 x3 x4 t0 t1 t2 M) : z_V G Y_L_law (z_XL a L xs) M0 (z_QM G M0 (z_PB Post)) M 310 [(0, z_O (some a)), (1, z_O x1), (2, z_O x2), (3, z_O x3), (4, z_I x4)] [z_I t2, z_I t1, z_O t0] := by
  unfold P_L_law_310 at hP
  refine z_aload_n dL_law_310 rfl 0 rfl ?_
  refine z_iload dL_law_311 4 rfl ?_
  refine z_iconst (v := 3) dL_law_313 (by decide) ?_
  refine z_iadd dL_law_314 ?_
  obtain ⟨i11, hP⟩ := hP
  refine z_sld hkb i11 dL_law_315 ?_
  refine z_wts (fun hT12 _ => ?_)
  refine z_cSHi (hh := hh_L_lose) (n := 4) (Y1 := Y_L_lose) (st := []) rfl (s_L_lose hl9 f_t0 f_t2 hP) rfl ⟨z_dc_L_lose, ⟨(Nat.le_of_ble_eq_true rfl), (Nat.le_of_ble_eq_true rfl)⟩, (Nat.le_of_ble_eq_true rfl)⟩ rfl zw_642 zw_643 zw_0 zh_L_lose dL_law_316 (fun x_12 M_12 hP _ x12 => ?_)
  have f_x1 := x12.t (k := 11) hT12 f_x1
  have f_x2 := x12.t (k := 12) hT12 f_x2
  have f_x3 := x12.t (k := 24) hT12 f_x3
  refine z_pc (pc' := 319) rfl ?_
  refine z_istore (lv' := [(5, z_I _), (0, z_O _), (1, z_O _), (2, z_O _), (3, z_O _), (4, z_I _)]) dL_law_319 (Nat.le_of_ble_eq_true rfl) rfl ?_
  refine z_aload_n dL_law_321 rfl 3 rfl ?_
  refine z_aload_n dL_law_322 rfl 1 rfl ?_
  refine z_iload dL_law_323 5 rfl ?_
  refine z_iconst (v := 1) dL_law_325 (by decide) ?_
  refine z_iadd dL_law_326 ?_
  refine z_pc (pc' := 327) rfl ?_
  obtain ⟨i13, hP⟩ := hP
  refine z_sld hkb i13 dL_law_327 ?_
  refine z_aload_n dL_law_328 rfl 1 rfl ?_
  refine z_iload dL_law_329 5 rfl ?_
  refine z_iconst (v := 2) dL_law_331 (by decide) ?_
  refine z_iadd dL_law_332 ?_
  obtain ⟨i14, hP⟩ := hP
  refine z_sld hkb i14 dL_law_333 ?_
  refine z_pc (pc' := 334) rfl ?_
  refine z_if_eq (tgt := 341) dL_law_334 (by decide) (fun h15 => ?_) (fun h15 => ?_)
  · replace hP := hP.1 h15
    refine z_iconst (v := 0) dL_law_341 (by decide) ?_
    refine z_sub (lv' := [(0, z_O _), (1, z_O _), (2, z_O _), (3, z_O _), (4, z_I _)]) [1, 2, 3, 4, 5] rfl ?_
    exact v_L_law_342 hl9 hkb hJ23 f_x1 f_x2 f_x3 f_x2 (Or.inl rfl) hP
  · replace hP := hP.2 h15
    refine z_iconst (v := 1) dL_law_337 (by decide) ?_
    refine z_goto (tgt := 342) dL_law_338 (by decide) ?_
    refine z_sub (lv' := [(0, z_O _), (1, z_O _), (2, z_O _), (3, z_O _), (4, z_I _)]) [1, 2, 3, 4, 5] rfl ?_
    exact v_L_law_342 hl9 hkb hJ23 f_x1 f_x2 f_x3 f_x2 (Or.inr rfl) hP
set_option maxRecDepth 100000 in
set_option maxHeartbeats 4000000 in
theorem v_L_law_477 {G : z_G} {M0 : z_Mem} {a L : Nat} {xs : Nat → Int32} {Post : Int32 → z_Mem → Prop} (hl9 : G.1.stackTraces = false) (hkb : z_ki M0 a = 0) {J23 : Option Nat → Option Nat → Option Nat → Int32 → z_Mem → Prop} (hJ23 : ∀ (x1 : Option Nat) (x2 : Option Nat) (x3 : Option Nat) (x4 : Int32) (M : z_Mem), (z_tr M x1 12) → (z_tr M x2 13) → (z_tr M x3 25) → J23 x1 x2 x3 x4 M → z_V G Y_L_law (z_XL a L xs) M0 (z_QM G M0 (z_PB Post)) M 23 [(0, z_O (some a)), (1, z_O x1), (2, z_O x2), (3, z_O x3), (4, z_I x4)] []) {x1 : Option Nat} {x2 : Option Nat} {x3 : Option Nat} {x4 : Int32} {t0 : Option Nat} {t1 : Int32} {M : z_Mem} (f_x1 : z_tr M x1 12) (f_x2 : z_tr M x2 13) (f_x3 : z_tr M x3 25) (f_t0 : z_tr M t0 13) (f_t1 : t1 = 0 ∨ t1 = 1) (hP : P_L_law_477 L xs Post J23 x1 x2 x3 x4 t0 t1 M) : z_V G Y_L_law (z_XL a L xs) M0 (z_QM G M0 (z_PB Post)) M 477 [(0, z_O (some a)), (1, z_O x1), (2, z_O x2), (3, z_O x3), (4, z_I x4)] [z_I t1, z_O t0] := by
  unfold P_L_law_477 at hP
  obtain ⟨a17, e17, hP⟩ := hP
  have k17 := f_t0 a17 e17
  refine z_wts (fun hT16 _ => ?_)
  refine z_cVb (c := 12) (n := 1) (Y1 := Y_X12_setCookies) (st := []) e17 k17 z_cb12 (Nat.le_of_ble_eq_true rfl) rfl (s_X12_setCookies k17 f_t1 hP) rfl ⟨z_dc_X12_setCookies, ⟨(Nat.le_of_ble_eq_true rfl), (Nat.le_of_ble_eq_true rfl)⟩, (Nat.le_of_ble_eq_true rfl)⟩ rfl zw_1575 zw_1576 zw_1577 zw_12 zw_1578 dL_law_477 (fun x_16 M_16 b16 hP _ x16 => ?_)
  have f_x1 := x16.t (k := 11) hT16 f_x1
  have f_x2 := x16.t (k := 12) hT16 f_x2
  have f_x3 := x16.t (k := 24) hT16 f_x3
  refine z_pop dL_law_480 rfl ?_
  refine z_goto (tgt := 1049) dL_law_481 (by decide) ?_
  refine z_sub (lv' := [(0, z_O _), (1, z_O _), (2, z_O _), (3, z_O _), (4, z_I _)]) [0, 1, 2, 3, 4] rfl ?_
  exact v_L_law_1049 hl9 hkb hJ23 f_x1 f_x2 f_x3 hP
set_option maxRecDepth 100000 in
set_option maxHeartbeats 4000000 in
theorem v_L_law_458 {G : z_G} {M0 : z_Mem} {a L : Nat} {xs : Nat → Int32} {Post : Int32 → z_Mem → Prop} (hl9 : G.1.stackTraces = false) (hkb : z_ki M0 a = 0) {J23 : Option Nat → Option Nat → Option Nat → Int32 → z_Mem → Prop} (hJ23 : ∀ (x1 : Option Nat) (x2 : Option Nat) (x3 : Option Nat) (x4 : Int32) (M : z_Mem), (z_tr M x1 12) → (z_tr M x2 13) → (z_tr M x3 25) → J23 x1 x2 x3 x4 M → z_V G Y_L_law (z_XL a L xs) M0 (z_QM G M0 (z_PB Post)) M 23 [(0, z_O (some a)), (1, z_O x1), (2, z_O x2), (3, z_O x3), (4, z_I x4)] []) {x1 : Option Nat} {x2 : Option Nat} {x3 : Option Nat} {x4 : Int32} {t0 : Option Nat} {t1 : Int32} {M : z_Mem} (f_x1 : z_tr M x1 12) (f_x2 : z_tr M x2 13) (f_x3 : z_tr M x3 25) (f_t0 : z_tr M t0 12) (f_t1 : t1 = 0 ∨ t1 = 1) (hP : P_L_law_458 L xs Post J23 x1 x2 x3 x4 t0 t1 M) : z_V G Y_L_law (z_XL a L xs) M0 (z_QM G M0 (z_PB Post)) M 458 [(0, z_O (some a)), (1, z_O x1), (2, z_O x2), (3, z_O x3), (4, z_I x4)] [z_I t1, z_O t0] := by
  unfold P_L_law_458 at hP
  obtain ⟨a19, e19, hP⟩ := hP
  have k19 := f_t0 a19 e19
  refine z_wts (fun hT18 _ => ?_)
  refine z_cVb (c := 11) (n := 1) (Y1 := Y_X11_setCookies) (st := []) e19 k19 z_cb11 (Nat.le_of_ble_eq_true rfl) rfl (s_X11_setCookies k19 f_t1 hP) rfl ⟨z_dc_X11_setCookies, ⟨(Nat.le_of_ble_eq_true rfl), (Nat.le_of_ble_eq_true rfl)⟩, (Nat.le_of_ble_eq_true rfl)⟩ rfl zw_505 zw_506 zw_507 zw_1 zw_508 dL_law_458 (fun x_18 M_18 b18 hP _ x18 => ?_)
  have f_x1 := x18.t (k := 11) hT18 f_x1
  have f_x2 := x18.t (k := 12) hT18 f_x2
  have f_x3 := x18.t (k := 24) hT18 f_x3
  refine z_pop dL_law_461 rfl ?_
  refine z_aload_n dL_law_462 rfl 2 rfl ?_
  refine z_aload_n dL_law_463 rfl 0 rfl ?_
  refine z_iload dL_law_464 4 rfl ?_
  refine z_iconst (v := 1) dL_law_466 (by decide) ?_
  refine z_pc (pc' := 467) rfl ?_
  refine z_iadd dL_law_467 ?_
  obtain ⟨i20, hP⟩ := hP
  refine z_sld hkb i20 dL_law_468 ?_
  refine z_if_eq (tgt := 476) dL_law_469 (by decide) (fun h21 => ?_) (fun h21 => ?_)
  · replace hP := hP.1 h21
    refine z_iconst (v := 0) dL_law_476 (by decide) ?_
    refine z_sub (lv' := [(0, z_O _), (1, z_O _), (2, z_O _), (3, z_O _), (4, z_I _)]) [0, 1, 2, 3, 4] rfl ?_
    exact v_L_law_477 hl9 hkb hJ23 f_x1 f_x2 f_x3 f_x2 (Or.inl rfl) hP
  · replace hP := hP.2 h21
    refine z_iconst (v := 1) dL_law_472 (by decide) ?_
    refine z_goto (tgt := 477) dL_law_473 (by decide) ?_
    refine z_sub (lv' := [(0, z_O _), (1, z_O _), (2, z_O _), (3, z_O _), (4, z_I _)]) [0, 1, 2, 3, 4] rfl ?_
    exact v_L_law_477 hl9 hkb hJ23 f_x1 f_x2 f_x3 f_x2 (Or.inr rfl) hP
set_option maxRecDepth 100000 in
set_option maxHeartbeats 4000000 in
theorem v_L_law_718 {G : z_G} {M0 : z_Mem} {a L : Nat} {xs : Nat → Int32} {Post : Int32 → z_Mem → Prop} (hl9 : G.1.stackTraces = false) (hkb : z_ki M0 a = 0) {J23 : Option Nat → Option Nat → Option Nat → Int32 → z_Mem → Prop} (hJ23 : ∀ (x1 : Option Nat) (x2 : Option Nat) (x3 : Option Nat) (x4 : Int32) (M : z_Mem), (z_tr M x1 12) → (z_tr M x2 13) → (z_tr M x3 25) → J23 x1 x2 x3 x4 M → z_V G Y_L_law (z_XL a L xs) M0 (z_QM G M0 (z_PB Post)) M 23 [(0, z_O (some a)), (1, z_O x1), (2, z_O x2), (3, z_O x3), (4, z_I x4)] []) {x1 : Option Nat} {x2 : Option Nat} {x3 : Option Nat} {x4 : Int32} {M : z_Mem} (f_x1 : z_tr M x1 12) (f_x2 : z_tr M x2 13) (f_x3 : z_tr M x3 25) (hP : P_L_law_718 L xs Post J23 x1 x2 x3 x4 M) : z_V G Y_L_law (z_XL a L xs) M0 (z_QM G M0 (z_PB Post)) M 718 [(0, z_O (some a)), (1, z_O x1), (2, z_O x2), (3, z_O x3), (4, z_I x4)] [] := by
  unfold P_L_law_718 at hP
  refine z_goto (tgt := 1049) dL_law_718 (by decide) ?_
  refine z_sub (lv' := [(0, z_O _), (1, z_O _), (2, z_O _), (3, z_O _), (4, z_I _)]) [0, 1, 2, 3, 4] rfl ?_
  exact v_L_law_1049 hl9 hkb hJ23 f_x1 f_x2 f_x3 hP
set_option maxRecDepth 100000 in
set_option maxHeartbeats 4000000 in
theorem v_L_law_23 {G : z_G} {M0 : z_Mem} {a L : Nat} {xs : Nat → Int32} {Post : Int32 → z_Mem → Prop} (hl9 : G.1.stackTraces = false) (hkb : z_ki M0 a = 0)   : ∀ (n : Nat) {x1 : Option Nat} {x2 : Option Nat} {x3 : Option Nat} {x4 : Int32} {M : z_Mem}, (z_tr M x1 12) → (z_tr M x2 13) → (z_tr M x3 25) → P_L_law_23 L xs Post n x1 x2 x3 x4 M → z_V G Y_L_law (z_XL a L xs) M0 (z_QM G M0 (z_PB Post)) M 23 [(0, z_O (some a)), (1, z_O x1), (2, z_O x2), (3, z_O x3), (4, z_I x4)] [] := by
  intro n
  induction n with
  | zero => intro x1 x2 x3 x4 M f_x1 f_x2 f_x3 hP; exact False.elim hP
  | succ n ih =>
    intro x1 x2 x3 x4 M f_x1 f_x2 f_x3 hP
    unfold P_L_law_23 at hP
    refine z_iload dL_law_23 4 rfl ?_
    refine z_aload_n dL_law_25 rfl 0 rfl ?_
    refine z_slen hkb dL_law_26 ?_
    refine z_bipush (v := 6) dL_law_27 (by decide) ?_
    refine z_isub dL_law_29 ?_
    refine z_icmp_gt (tgt := 1055) dL_law_30 (by decide) (fun h22 => ?_) (fun h22 => ?_)
    · replace hP := hP.1 h22
      refine z_iconst (v := 1) dL_law_1055 (by decide) ?_
      refine z_pc (pc' := 1056) rfl ?_
      exact z_retb rfl (Or.inr rfl) dL_law_1056 hP
    · replace hP := hP.2 h22
      refine z_aload_n dL_law_33 rfl 0 rfl ?_
      refine z_pc (pc' := 34) rfl ?_
      refine z_iload dL_law_34 4 rfl ?_
      obtain ⟨i23, hP⟩ := hP
      refine z_sld hkb i23 dL_law_36 ?_
      refine z_bipush (v := 31) dL_law_37 (by decide) ?_
      refine z_iand dL_law_39 ?_
      refine z_sw (tD := 1049) 26 [160, 233, 289, 354, 403, 443, 484, 524, 535, 560, 600, 640, 665, 721, 737, 750, 778, 791, 819, 859, 899, 912, 925, 965, 993, 1021] (by decide) (by decide) (by decide) dL_law_40 (fun k hk tg htg h24 => ?_) (fun h24 => ?_)
      · rcases (show k = 0 ∨ k = 1 ∨ k = 2 ∨ k = 3 ∨ k = 4 ∨ k = 5 ∨ k = 6 ∨ k = 7 ∨ k = 8 ∨ k = 9 ∨ k = 10 ∨ k = 11 ∨ k = 12 ∨ k = 13 ∨ k = 14 ∨ k = 15 ∨ k = 16 ∨ k = 17 ∨ k = 18 ∨ k = 19 ∨ k = 20 ∨ k = 21 ∨ k = 22 ∨ k = 23 ∨ k = 24 ∨ k = 25 by omega) with rfl | rfl | rfl | rfl | rfl | rfl | rfl | rfl | rfl | rfl | rfl | rfl | rfl | rfl | rfl | rfl | rfl | rfl | rfl | rfl | rfl | rfl | rfl | rfl | rfl | rfl
        · cases htg
          replace hP := hP.1 h24
          refine z_aload_n dL_law_160 rfl 1 rfl ?_
          refine z_aload_n dL_law_161 rfl 0 rfl ?_
          refine z_pc (pc' := 162) rfl ?_
          refine z_iload dL_law_162 4 rfl ?_
          refine z_iconst (v := 1) dL_law_164 (by decide) ?_
          refine z_iadd dL_law_165 ?_
          obtain ⟨i25, hP⟩ := hP
          refine z_sld hkb i25 dL_law_166 ?_
          refine z_aload_n dL_law_167 rfl 0 rfl ?_
          refine z_iload dL_law_168 4 rfl ?_
          refine z_pc (pc' := 170) rfl ?_
          refine z_iconst (v := 2) dL_law_170 (by decide) ?_
          refine z_iadd dL_law_171 ?_
          obtain ⟨i26, hP⟩ := hP
          refine z_sld hkb i26 dL_law_172 ?_
          refine z_aload_n dL_law_173 rfl 0 rfl ?_
          refine z_iload dL_law_174 4 rfl ?_
          refine z_iconst (v := 3) dL_law_176 (by decide) ?_
          refine z_pc (pc' := 177) rfl ?_
          refine z_iadd dL_law_177 ?_
          obtain ⟨i27, hP⟩ := hP
          refine z_sld hkb i27 dL_law_178 ?_
          refine z_aload_n dL_law_179 rfl 0 rfl ?_
          refine z_iload dL_law_180 4 rfl ?_
          refine z_iconst (v := 4) dL_law_182 (by decide) ?_
          refine z_iadd dL_law_183 ?_
          refine z_pc (pc' := 184) rfl ?_
          obtain ⟨i28, hP⟩ := hP
          refine z_sld hkb i28 dL_law_184 ?_
          refine z_aload_n dL_law_185 rfl 0 rfl ?_
          refine z_iload dL_law_186 4 rfl ?_
          refine z_iconst (v := 5) dL_law_188 (by decide) ?_
          refine z_iadd dL_law_189 ?_
          obtain ⟨i29, hP⟩ := hP
          refine z_sld hkb i29 dL_law_190 ?_
          refine z_pc (pc' := 191) rfl ?_
          refine z_wts (fun hT30 _ => ?_)
          refine z_cSHi (hh := hh_L_setPath) (n := 6) (Y1 := Y_L_setPath) (st := []) rfl (s_L_setPath hl9 f_x1 hP) rfl ⟨z_dc_L_setPath, ⟨(Nat.le_of_ble_eq_true rfl), (Nat.le_of_ble_eq_true rfl)⟩, (Nat.le_of_ble_eq_true rfl)⟩ rfl zw_532 zw_533 zw_0 zh_L_setPath dL_law_191 (fun x_30 M_30 hP _ x30 => ?_)
          have f_x1 := x30.t (k := 11) hT30 f_x1
          have f_x2 := x30.t (k := 12) hT30 f_x2
          have f_x3 := x30.t (k := 24) hT30 f_x3
          refine z_istore (lv' := [(5, z_I _), (0, z_O _), (1, z_O _), (2, z_O _), (3, z_O _), (4, z_I _)]) dL_law_194 (Nat.le_of_ble_eq_true rfl) rfl ?_
          refine z_aload_n dL_law_196 rfl 3 rfl ?_
          refine z_aload_n dL_law_197 rfl 1 rfl ?_
          refine z_iload dL_law_198 5 rfl ?_
          refine z_iconst (v := 1) dL_law_200 (by decide) ?_
          refine z_pc (pc' := 201) rfl ?_
          refine z_iadd dL_law_201 ?_
          obtain ⟨i31, hP⟩ := hP
          refine z_sld hkb i31 dL_law_202 ?_
          refine z_aload_n dL_law_203 rfl 1 rfl ?_
          refine z_iload dL_law_204 5 rfl ?_
          refine z_iconst (v := 2) dL_law_206 (by decide) ?_
          refine z_iadd dL_law_207 ?_
          refine z_pc (pc' := 208) rfl ?_
          obtain ⟨i32, hP⟩ := hP
          refine z_sld hkb i32 dL_law_208 ?_
          refine z_aload_n dL_law_209 rfl 1 rfl ?_
          refine z_iload dL_law_210 5 rfl ?_
          refine z_iconst (v := 3) dL_law_212 (by decide) ?_
          refine z_iadd dL_law_213 ?_
          obtain ⟨i33, hP⟩ := hP
          refine z_sld hkb i33 dL_law_214 ?_
          refine z_pc (pc' := 215) rfl ?_
          refine z_aload_n dL_law_215 rfl 1 rfl ?_
          refine z_iload dL_law_216 5 rfl ?_
          refine z_iconst (v := 4) dL_law_218 (by decide) ?_
          refine z_iadd dL_law_219 ?_
          obtain ⟨i34, hP⟩ := hP
          refine z_sld hkb i34 dL_law_220 ?_
          refine z_aload_n dL_law_221 rfl 1 rfl ?_
          refine z_pc (pc' := 222) rfl ?_
          refine z_iload dL_law_222 5 rfl ?_
          refine z_iconst (v := 5) dL_law_224 (by decide) ?_
          refine z_iadd dL_law_225 ?_
          obtain ⟨i35, hP⟩ := hP
          refine z_sld hkb i35 dL_law_226 ?_
          obtain ⟨a37, e37, hP⟩ := hP
          have k37 := f_x2 a37 e37
          refine z_wts (fun hT36 _ => ?_)
          refine z_cVv (c := 12) (n := 5) (Y1 := Y_X12_setPath) (st := []) e37 k37 z_cb12 (Nat.le_of_ble_eq_true rfl) rfl (s_X12_setPath k37 hP) rfl ⟨z_dc_X12_setPath, ⟨(Nat.le_of_ble_eq_true rfl), (Nat.le_of_ble_eq_true rfl)⟩, (Nat.le_of_ble_eq_true rfl)⟩ rfl zw_1545 zw_1546 zw_1547 zw_12 zw_1548 dL_law_227 (fun M_36 hP _ x36 => ?_)
          have f_x1 := x36.t (k := 11) hT36 f_x1
          have k37 := x36.k (k := 12) hT36 k37
          have f_x3 := x36.t (k := 24) hT36 f_x3
          refine z_goto (tgt := 1049) dL_law_230 (by decide) ?_
          refine z_sub (lv' := [(0, z_O _), (1, z_O _), (2, z_O _), (3, z_O _), (4, z_I _)]) [1, 2, 3, 4, 5] rfl ?_
          exact v_L_law_1049 hl9 hkb (fun _ _ _ _ _ w0 w1 w2 hP => ih w0 w1 w2 hP) f_x1 (z_trn e37 k37) f_x3 hP
        · cases htg
          replace hP := hP.2.1 h24
          refine z_aload_n dL_law_233 rfl 1 rfl ?_
          refine z_aload_n dL_law_234 rfl 0 rfl ?_
          refine z_pc (pc' := 235) rfl ?_
          refine z_iload dL_law_235 4 rfl ?_
          refine z_iconst (v := 1) dL_law_237 (by decide) ?_
          refine z_iadd dL_law_238 ?_
          obtain ⟨i38, hP⟩ := hP
          refine z_sld hkb i38 dL_law_239 ?_
          refine z_aload_n dL_law_240 rfl 0 rfl ?_
          refine z_iload dL_law_241 4 rfl ?_
          refine z_pc (pc' := 243) rfl ?_
          refine z_iconst (v := 2) dL_law_243 (by decide) ?_
          refine z_iadd dL_law_244 ?_
          obtain ⟨i39, hP⟩ := hP
          refine z_sld hkb i39 dL_law_245 ?_
          refine z_if_eq (tgt := 253) dL_law_246 (by decide) (fun h40 => ?_) (fun h40 => ?_)
          · replace hP := hP.1 h40
            refine z_iconst (v := 0) dL_law_253 (by decide) ?_
            refine z_sub (lv' := [(0, z_O _), (1, z_O _), (2, z_O _), (3, z_O _), (4, z_I _)]) [0, 1, 2, 3, 4] rfl ?_
            exact v_L_law_254 hl9 hkb (fun _ _ _ _ _ w0 w1 w2 hP => ih w0 w1 w2 hP) f_x1 f_x2 f_x3 f_x1 (Or.inl rfl) hP
          · replace hP := hP.2 h40
            refine z_iconst (v := 1) dL_law_249 (by decide) ?_
            refine z_goto (tgt := 254) dL_law_250 (by decide) ?_
            refine z_sub (lv' := [(0, z_O _), (1, z_O _), (2, z_O _), (3, z_O _), (4, z_I _)]) [0, 1, 2, 3, 4] rfl ?_
            exact v_L_law_254 hl9 hkb (fun _ _ _ _ _ w0 w1 w2 hP => ih w0 w1 w2 hP) f_x1 f_x2 f_x3 f_x1 (Or.inr rfl) hP
        · cases htg
          replace hP := hP.2.2.1 h24
          refine z_aload_n dL_law_289 rfl 1 rfl ?_
          refine z_aload_n dL_law_290 rfl 0 rfl ?_
          refine z_pc (pc' := 291) rfl ?_
          refine z_iload dL_law_291 4 rfl ?_
          refine z_iconst (v := 1) dL_law_293 (by decide) ?_
          refine z_iadd dL_law_294 ?_
          obtain ⟨i41, hP⟩ := hP
          refine z_sld hkb i41 dL_law_295 ?_
          refine z_aload_n dL_law_296 rfl 0 rfl ?_
          refine z_iload dL_law_297 4 rfl ?_
          refine z_pc (pc' := 299) rfl ?_
          refine z_iconst (v := 2) dL_law_299 (by decide) ?_
          refine z_iadd dL_law_300 ?_
          obtain ⟨i42, hP⟩ := hP
          refine z_sld hkb i42 dL_law_301 ?_
          refine z_if_eq (tgt := 309) dL_law_302 (by decide) (fun h43 => ?_) (fun h43 => ?_)
          · replace hP := hP.1 h43
            refine z_iconst (v := 0) dL_law_309 (by decide) ?_
            refine z_sub (lv' := [(0, z_O _), (1, z_O _), (2, z_O _), (3, z_O _), (4, z_I _)]) [0, 1, 2, 3, 4] rfl ?_
            exact v_L_law_310 hl9 hkb (fun _ _ _ _ _ w0 w1 w2 hP => ih w0 w1 w2 hP) f_x1 f_x2 f_x3 f_x1 (Or.inl rfl) hP
          · replace hP := hP.2 h43
            refine z_iconst (v := 1) dL_law_305 (by decide) ?_
            refine z_goto (tgt := 310) dL_law_306 (by decide) ?_
            refine z_sub (lv' := [(0, z_O _), (1, z_O _), (2, z_O _), (3, z_O _), (4, z_I _)]) [0, 1, 2, 3, 4] rfl ?_
            exact v_L_law_310 hl9 hkb (fun _ _ _ _ _ w0 w1 w2 hP => ih w0 w1 w2 hP) f_x1 f_x2 f_x3 f_x1 (Or.inr rfl) hP
        · cases htg
          replace hP := hP.2.2.2.1 h24
          refine z_aload_n dL_law_354 rfl 1 rfl ?_
          refine z_aload_n dL_law_355 rfl 0 rfl ?_
          refine z_pc (pc' := 356) rfl ?_
          refine z_iload dL_law_356 4 rfl ?_
          refine z_iconst (v := 1) dL_law_358 (by decide) ?_
          refine z_iadd dL_law_359 ?_
          obtain ⟨i44, hP⟩ := hP
          refine z_sld hkb i44 dL_law_360 ?_
          refine z_aload_n dL_law_361 rfl 0 rfl ?_
          refine z_iload dL_law_362 4 rfl ?_
          refine z_pc (pc' := 364) rfl ?_
          refine z_iconst (v := 2) dL_law_364 (by decide) ?_
          refine z_iadd dL_law_365 ?_
          obtain ⟨i45, hP⟩ := hP
          refine z_sld hkb i45 dL_law_366 ?_
          refine z_aload_n dL_law_367 rfl 0 rfl ?_
          refine z_iload dL_law_368 4 rfl ?_
          refine z_iconst (v := 3) dL_law_370 (by decide) ?_
          refine z_pc (pc' := 371) rfl ?_
          refine z_iadd dL_law_371 ?_
          obtain ⟨i46, hP⟩ := hP
          refine z_sld hkb i46 dL_law_372 ?_
          refine z_wts (fun hT47 _ => ?_)
          refine z_cSHi (hh := hh_L_late) (n := 4) (Y1 := Y_L_late) (st := []) rfl (s_L_late hl9 f_x1 hP) rfl ⟨z_dc_L_late, ⟨(Nat.le_of_ble_eq_true rfl), (Nat.le_of_ble_eq_true rfl)⟩, (Nat.le_of_ble_eq_true rfl)⟩ rfl zw_649 zw_650 zw_0 zh_L_late dL_law_373 (fun x_47 M_47 hP _ x47 => ?_)
          have f_x1 := x47.t (k := 11) hT47 f_x1
          have f_x2 := x47.t (k := 12) hT47 f_x2
          have f_x3 := x47.t (k := 24) hT47 f_x3
          refine z_istore (lv' := [(5, z_I _), (0, z_O _), (1, z_O _), (2, z_O _), (3, z_O _), (4, z_I _)]) dL_law_376 (Nat.le_of_ble_eq_true rfl) rfl ?_
          refine z_aload_n dL_law_378 rfl 3 rfl ?_
          refine z_aload_n dL_law_379 rfl 1 rfl ?_
          refine z_pc (pc' := 380) rfl ?_
          refine z_iload dL_law_380 5 rfl ?_
          refine z_iconst (v := 1) dL_law_382 (by decide) ?_
          refine z_iadd dL_law_383 ?_
          obtain ⟨i48, hP⟩ := hP
          refine z_sld hkb i48 dL_law_384 ?_
          refine z_aload_n dL_law_385 rfl 1 rfl ?_
          refine z_iload dL_law_386 5 rfl ?_
          refine z_pc (pc' := 388) rfl ?_
          refine z_iconst (v := 2) dL_law_388 (by decide) ?_
          refine z_iadd dL_law_389 ?_
          obtain ⟨i49, hP⟩ := hP
          refine z_sld hkb i49 dL_law_390 ?_
          refine z_aload_n dL_law_391 rfl 1 rfl ?_
          refine z_iload dL_law_392 5 rfl ?_
          refine z_iconst (v := 3) dL_law_394 (by decide) ?_
          refine z_pc (pc' := 395) rfl ?_
          refine z_iadd dL_law_395 ?_
          obtain ⟨i50, hP⟩ := hP
          refine z_sld hkb i50 dL_law_396 ?_
          obtain ⟨a52, e52, hP⟩ := hP
          have k52 := f_x2 a52 e52
          refine z_wts (fun hT51 _ => ?_)
          refine z_cVv (c := 12) (n := 3) (Y1 := Y_X12_late) (st := []) e52 k52 z_cb12 (Nat.le_of_ble_eq_true rfl) rfl (s_X12_late k52 hP) rfl ⟨z_dc_X12_late, ⟨(Nat.le_of_ble_eq_true rfl), (Nat.le_of_ble_eq_true rfl)⟩, (Nat.le_of_ble_eq_true rfl)⟩ rfl zw_1567 zw_1568 zw_1569 zw_12 zw_1570 dL_law_397 (fun M_51 hP _ x51 => ?_)
          have f_x1 := x51.t (k := 11) hT51 f_x1
          have k52 := x51.k (k := 12) hT51 k52
          have f_x3 := x51.t (k := 24) hT51 f_x3
          refine z_goto (tgt := 1049) dL_law_400 (by decide) ?_
          refine z_sub (lv' := [(0, z_O _), (1, z_O _), (2, z_O _), (3, z_O _), (4, z_I _)]) [1, 2, 3, 4, 5] rfl ?_
          exact v_L_law_1049 hl9 hkb (fun _ _ _ _ _ w0 w1 w2 hP => ih w0 w1 w2 hP) f_x1 (z_trn e52 k52) f_x3 hP
        · cases htg
          replace hP := hP.2.2.2.2.1 h24
          refine z_aload_n dL_law_403 rfl 1 rfl ?_
          refine z_aload_n dL_law_404 rfl 0 rfl ?_
          refine z_pc (pc' := 405) rfl ?_
          refine z_iload dL_law_405 4 rfl ?_
          refine z_iconst (v := 1) dL_law_407 (by decide) ?_
          refine z_iadd dL_law_408 ?_
          obtain ⟨i53, hP⟩ := hP
          refine z_sld hkb i53 dL_law_409 ?_
          refine z_aload_n dL_law_410 rfl 0 rfl ?_
          refine z_iload dL_law_411 4 rfl ?_
          refine z_pc (pc' := 413) rfl ?_
          refine z_iconst (v := 2) dL_law_413 (by decide) ?_
          refine z_iadd dL_law_414 ?_
          obtain ⟨i54, hP⟩ := hP
          refine z_sld hkb i54 dL_law_415 ?_
          refine z_aload_n dL_law_416 rfl 3 rfl ?_
          refine z_wts (fun hT55 _ => ?_)
          refine z_cSHi (hh := hh_L_foreign) (n := 4) (Y1 := Y_L_foreign) (st := []) rfl (s_L_foreign hl9 f_x1 f_x3 hP) rfl ⟨z_dc_L_foreign, ⟨(Nat.le_of_ble_eq_true rfl), (Nat.le_of_ble_eq_true rfl)⟩, (Nat.le_of_ble_eq_true rfl)⟩ rfl zw_656 zw_657 zw_0 zh_L_foreign dL_law_417 (fun x_55 M_55 hP _ x55 => ?_)
          have f_x1 := x55.t (k := 11) hT55 f_x1
          have f_x2 := x55.t (k := 12) hT55 f_x2
          have f_x3 := x55.t (k := 24) hT55 f_x3
          refine z_istore (lv' := [(5, z_I _), (0, z_O _), (1, z_O _), (2, z_O _), (3, z_O _), (4, z_I _)]) dL_law_420 (Nat.le_of_ble_eq_true rfl) rfl ?_
          refine z_pc (pc' := 422) rfl ?_
          refine z_aload_n dL_law_422 rfl 3 rfl ?_
          refine z_aload_n dL_law_423 rfl 1 rfl ?_
          refine z_iload dL_law_424 5 rfl ?_
          refine z_iconst (v := 1) dL_law_426 (by decide) ?_
          refine z_iadd dL_law_427 ?_
          obtain ⟨i56, hP⟩ := hP
          refine z_sld hkb i56 dL_law_428 ?_
          refine z_pc (pc' := 429) rfl ?_
          refine z_aload_n dL_law_429 rfl 1 rfl ?_
          refine z_iload dL_law_430 5 rfl ?_
          refine z_iconst (v := 2) dL_law_432 (by decide) ?_
          refine z_iadd dL_law_433 ?_
          obtain ⟨i57, hP⟩ := hP
          refine z_sld hkb i57 dL_law_434 ?_
          obtain ⟨a59, e59, hP⟩ := hP
          have k59 := f_x2 a59 e59
          refine z_wts (fun hT58 _ => ?_)
          refine z_cVi (c := 12) (n := 2) (Y1 := Y_X12_foreign) (st := []) e59 k59 z_cb12 (Nat.le_of_ble_eq_true rfl) rfl (s_X12_foreign k59 hP) rfl ⟨z_dc_X12_foreign, ⟨(Nat.le_of_ble_eq_true rfl), (Nat.le_of_ble_eq_true rfl)⟩, (Nat.le_of_ble_eq_true rfl)⟩ rfl zw_1571 zw_1572 zw_1573 zw_12 zw_1574 dL_law_435 (fun x_58 M_58 hP _ x58 => ?_)
          have f_x1 := x58.t (k := 11) hT58 f_x1
          have k59 := x58.k (k := 12) hT58 k59
          have f_x3 := x58.t (k := 24) hT58 f_x3
          refine z_pc (pc' := 438) rfl ?_
          refine z_istore (lv' := [(6, z_I _), (5, z_I _), (0, z_O _), (1, z_O _), (2, z_O _), (3, z_O _), (4, z_I _)]) dL_law_438 (Nat.le_of_ble_eq_true rfl) rfl ?_
          refine z_goto (tgt := 1049) dL_law_440 (by decide) ?_
          refine z_sub (lv' := [(0, z_O _), (1, z_O _), (2, z_O _), (3, z_O _), (4, z_I _)]) [2, 3, 4, 5, 6] rfl ?_
          exact v_L_law_1049 hl9 hkb (fun _ _ _ _ _ w0 w1 w2 hP => ih w0 w1 w2 hP) f_x1 (z_trn e59 k59) f_x3 hP
        · cases htg
          replace hP := hP.2.2.2.2.2.1 h24
          refine z_aload_n dL_law_443 rfl 1 rfl ?_
          refine z_aload_n dL_law_444 rfl 0 rfl ?_
          refine z_pc (pc' := 445) rfl ?_
          refine z_iload dL_law_445 4 rfl ?_
          refine z_iconst (v := 1) dL_law_447 (by decide) ?_
          refine z_iadd dL_law_448 ?_
          obtain ⟨i60, hP⟩ := hP
          refine z_sld hkb i60 dL_law_449 ?_
          refine z_if_eq (tgt := 457) dL_law_450 (by decide) (fun h61 => ?_) (fun h61 => ?_)
          · replace hP := hP.1 h61
            refine z_iconst (v := 0) dL_law_457 (by decide) ?_
            refine z_sub (lv' := [(0, z_O _), (1, z_O _), (2, z_O _), (3, z_O _), (4, z_I _)]) [0, 1, 2, 3, 4] rfl ?_
            exact v_L_law_458 hl9 hkb (fun _ _ _ _ _ w0 w1 w2 hP => ih w0 w1 w2 hP) f_x1 f_x2 f_x3 f_x1 (Or.inl rfl) hP
          · replace hP := hP.2 h61
            refine z_iconst (v := 1) dL_law_453 (by decide) ?_
            refine z_goto (tgt := 458) dL_law_454 (by decide) ?_
            refine z_sub (lv' := [(0, z_O _), (1, z_O _), (2, z_O _), (3, z_O _), (4, z_I _)]) [0, 1, 2, 3, 4] rfl ?_
            exact v_L_law_458 hl9 hkb (fun _ _ _ _ _ w0 w1 w2 hP => ih w0 w1 w2 hP) f_x1 f_x2 f_x3 f_x1 (Or.inr rfl) hP
        · cases htg
          replace hP := hP.2.2.2.2.2.2.1 h24
          refine z_aload_n dL_law_484 rfl 1 rfl ?_
          refine z_aload_n dL_law_485 rfl 0 rfl ?_
          refine z_pc (pc' := 486) rfl ?_
          refine z_iload dL_law_486 4 rfl ?_
          refine z_iconst (v := 1) dL_law_488 (by decide) ?_
          refine z_iadd dL_law_489 ?_
          obtain ⟨i62, hP⟩ := hP
          refine z_sld hkb i62 dL_law_490 ?_
          refine z_aload_n dL_law_491 rfl 0 rfl ?_
          refine z_iload dL_law_492 4 rfl ?_
          refine z_pc (pc' := 494) rfl ?_
          refine z_iconst (v := 2) dL_law_494 (by decide) ?_
          refine z_iadd dL_law_495 ?_
          obtain ⟨i63, hP⟩ := hP
          refine z_sld hkb i63 dL_law_496 ?_
          refine z_aload_n dL_law_497 rfl 3 rfl ?_
          refine z_wts (fun hT64 _ => ?_)
          refine z_cSHi (hh := hh_L_read) (n := 4) (Y1 := Y_L_read) (st := []) rfl (s_L_read hl9 f_x1 f_x3 hP) rfl ⟨z_dc_L_read, ⟨(Nat.le_of_ble_eq_true rfl), (Nat.le_of_ble_eq_true rfl)⟩, (Nat.le_of_ble_eq_true rfl)⟩ rfl zw_676 zw_677 zw_0 zh_L_read dL_law_498 (fun x_64 M_64 hP _ x64 => ?_)
          have f_x1 := x64.t (k := 11) hT64 f_x1
          have f_x2 := x64.t (k := 12) hT64 f_x2
          have f_x3 := x64.t (k := 24) hT64 f_x3
          refine z_istore (lv' := [(5, z_I _), (0, z_O _), (1, z_O _), (2, z_O _), (3, z_O _), (4, z_I _)]) dL_law_501 (Nat.le_of_ble_eq_true rfl) rfl ?_
          refine z_pc (pc' := 503) rfl ?_
          refine z_aload_n dL_law_503 rfl 3 rfl ?_
          refine z_aload_n dL_law_504 rfl 1 rfl ?_
          refine z_iload dL_law_505 5 rfl ?_
          refine z_iconst (v := 1) dL_law_507 (by decide) ?_
          refine z_iadd dL_law_508 ?_
          obtain ⟨i65, hP⟩ := hP
          refine z_sld hkb i65 dL_law_509 ?_
          refine z_pc (pc' := 510) rfl ?_
          refine z_aload_n dL_law_510 rfl 1 rfl ?_
          refine z_iload dL_law_511 5 rfl ?_
          refine z_iconst (v := 2) dL_law_513 (by decide) ?_
          refine z_iadd dL_law_514 ?_
          obtain ⟨i66, hP⟩ := hP
          refine z_sld hkb i66 dL_law_515 ?_
          obtain ⟨a68, e68, hP⟩ := hP
          have k68 := f_x2 a68 e68
          refine z_wts (fun hT67 _ => ?_)
          refine z_cVi (c := 12) (n := 2) (Y1 := Y_X12_read) (st := []) e68 k68 z_cb12 (Nat.le_of_ble_eq_true rfl) rfl (s_X12_read k68 hP) rfl ⟨z_dc_X12_read, ⟨(Nat.le_of_ble_eq_true rfl), (Nat.le_of_ble_eq_true rfl)⟩, (Nat.le_of_ble_eq_true rfl)⟩ rfl zw_1579 zw_1580 zw_1581 zw_12 zw_1582 dL_law_516 (fun x_67 M_67 hP _ x67 => ?_)
          have f_x1 := x67.t (k := 11) hT67 f_x1
          have k68 := x67.k (k := 12) hT67 k68
          have f_x3 := x67.t (k := 24) hT67 f_x3
          refine z_pc (pc' := 519) rfl ?_
          refine z_istore (lv' := [(6, z_I _), (5, z_I _), (0, z_O _), (1, z_O _), (2, z_O _), (3, z_O _), (4, z_I _)]) dL_law_519 (Nat.le_of_ble_eq_true rfl) rfl ?_
          refine z_goto (tgt := 1049) dL_law_521 (by decide) ?_
          refine z_sub (lv' := [(0, z_O _), (1, z_O _), (2, z_O _), (3, z_O _), (4, z_I _)]) [2, 3, 4, 5, 6] rfl ?_
          exact v_L_law_1049 hl9 hkb (fun _ _ _ _ _ w0 w1 w2 hP => ih w0 w1 w2 hP) f_x1 (z_trn e68 k68) f_x3 hP
        · cases htg
          replace hP := hP.2.2.2.2.2.2.2.1 h24
          refine z_aload_n dL_law_524 rfl 1 rfl ?_
          obtain ⟨a70, e70, hP⟩ := hP
          have k70 := f_x1 a70 e70
          refine z_wts (fun hT69 _ => ?_)
          refine z_cVv (c := 11) (n := 0) (Y1 := Y_X11_loseState) (st := []) e70 k70 z_cb11 (Nat.le_of_ble_eq_true rfl) rfl (s_X11_loseState k70 hP) rfl ⟨z_dc_X11_loseState, ⟨(Nat.le_of_ble_eq_true rfl), (Nat.le_of_ble_eq_true rfl)⟩, (Nat.le_of_ble_eq_true rfl)⟩ rfl zw_509 zw_510 zw_511 zw_1 zw_512 dL_law_525 (fun M_69 hP _ x69 => ?_)
          have k70 := x69.k (k := 11) hT69 k70
          have f_x2 := x69.t (k := 12) hT69 f_x2
          have f_x3 := x69.t (k := 24) hT69 f_x3
          refine z_pc (pc' := 528) rfl ?_
          refine z_aload_n dL_law_528 rfl 2 rfl ?_
          obtain ⟨a72, e72, hP⟩ := hP
          have k72 := f_x2 a72 e72
          refine z_wts (fun hT71 _ => ?_)
          refine z_cVv (c := 12) (n := 0) (Y1 := Y_X12_loseState) (st := []) e72 k72 z_cb12 (Nat.le_of_ble_eq_true rfl) rfl (s_X12_loseState k72 hP) rfl ⟨z_dc_X12_loseState, ⟨(Nat.le_of_ble_eq_true rfl), (Nat.le_of_ble_eq_true rfl)⟩, (Nat.le_of_ble_eq_true rfl)⟩ rfl zw_1598 zw_1599 zw_1600 zw_12 zw_1601 dL_law_529 (fun M_71 hP _ x71 => ?_)
          have k70 := x71.k (k := 11) hT71 k70
          have k72 := x71.k (k := 12) hT71 k72
          have f_x3 := x71.t (k := 24) hT71 f_x3
          refine z_goto (tgt := 1049) dL_law_532 (by decide) ?_
          refine z_sub (lv' := [(0, z_O _), (1, z_O _), (2, z_O _), (3, z_O _), (4, z_I _)]) [0, 1, 2, 3, 4] rfl ?_
          exact v_L_law_1049 hl9 hkb (fun _ _ _ _ _ w0 w1 w2 hP => ih w0 w1 w2 hP) (z_trn e70 k70) (z_trn e72 k72) f_x3 hP
        · cases htg
          replace hP := hP.2.2.2.2.2.2.2.2.1 h24
          refine z_aload_n dL_law_535 rfl 1 rfl ?_
          refine z_aload_n dL_law_536 rfl 0 rfl ?_
          refine z_pc (pc' := 537) rfl ?_
          refine z_iload dL_law_537 4 rfl ?_
          refine z_iconst (v := 1) dL_law_539 (by decide) ?_
          refine z_iadd dL_law_540 ?_
          obtain ⟨i73, hP⟩ := hP
          refine z_sld hkb i73 dL_law_541 ?_
          refine z_wts (fun hT74 _ => ?_)
          refine z_cSHi (hh := hh_L_connect) (n := 2) (Y1 := Y_L_connect) (st := []) rfl (s_L_connect hl9 f_x1 hP) rfl ⟨z_dc_L_connect, ⟨(Nat.le_of_ble_eq_true rfl), (Nat.le_of_ble_eq_true rfl)⟩, (Nat.le_of_ble_eq_true rfl)⟩ rfl zw_757 zw_758 zw_0 zh_L_connect dL_law_542 (fun x_74 M_74 hP _ x74 => ?_)
          have f_x1 := x74.t (k := 11) hT74 f_x1
          have f_x2 := x74.t (k := 12) hT74 f_x2
          have f_x3 := x74.t (k := 24) hT74 f_x3
          refine z_istore (lv' := [(5, z_I _), (0, z_O _), (1, z_O _), (2, z_O _), (3, z_O _), (4, z_I _)]) dL_law_545 (Nat.le_of_ble_eq_true rfl) rfl ?_
          refine z_pc (pc' := 547) rfl ?_
          refine z_aload_n dL_law_547 rfl 3 rfl ?_
          refine z_aload_n dL_law_548 rfl 1 rfl ?_
          refine z_iload dL_law_549 5 rfl ?_
          refine z_iconst (v := 1) dL_law_551 (by decide) ?_
          refine z_iadd dL_law_552 ?_
          obtain ⟨i75, hP⟩ := hP
          refine z_sld hkb i75 dL_law_553 ?_
          refine z_pc (pc' := 554) rfl ?_
          obtain ⟨a77, e77, hP⟩ := hP
          have k77 := f_x2 a77 e77
          refine z_wts (fun hT76 _ => ?_)
          refine z_cVv (c := 12) (n := 1) (Y1 := Y_X12_connect) (st := []) e77 k77 z_cb12 (Nat.le_of_ble_eq_true rfl) rfl (s_X12_connect k77 hP) rfl ⟨z_dc_X12_connect, ⟨(Nat.le_of_ble_eq_true rfl), (Nat.le_of_ble_eq_true rfl)⟩, (Nat.le_of_ble_eq_true rfl)⟩ rfl zw_1602 zw_1603 zw_1604 zw_12 zw_1605 dL_law_554 (fun M_76 hP _ x76 => ?_)
          have f_x1 := x76.t (k := 11) hT76 f_x1
          have k77 := x76.k (k := 12) hT76 k77
          have f_x3 := x76.t (k := 24) hT76 f_x3
          refine z_goto (tgt := 1049) dL_law_557 (by decide) ?_
          refine z_sub (lv' := [(0, z_O _), (1, z_O _), (2, z_O _), (3, z_O _), (4, z_I _)]) [1, 2, 3, 4, 5] rfl ?_
          exact v_L_law_1049 hl9 hkb (fun _ _ _ _ _ w0 w1 w2 hP => ih w0 w1 w2 hP) f_x1 (z_trn e77 k77) f_x3 hP
        · cases htg
          replace hP := hP.2.2.2.2.2.2.2.2.2.1 h24
          refine z_aload_n dL_law_560 rfl 1 rfl ?_
          refine z_aload_n dL_law_561 rfl 0 rfl ?_
          refine z_pc (pc' := 562) rfl ?_
          refine z_iload dL_law_562 4 rfl ?_
          refine z_iconst (v := 1) dL_law_564 (by decide) ?_
          refine z_iadd dL_law_565 ?_
          obtain ⟨i78, hP⟩ := hP
          refine z_sld hkb i78 dL_law_566 ?_
          refine z_aload_n dL_law_567 rfl 0 rfl ?_
          refine z_iload dL_law_568 4 rfl ?_
          refine z_pc (pc' := 570) rfl ?_
          refine z_iconst (v := 2) dL_law_570 (by decide) ?_
          refine z_iadd dL_law_571 ?_
          obtain ⟨i79, hP⟩ := hP
          refine z_sld hkb i79 dL_law_572 ?_
          refine z_aload_n dL_law_573 rfl 3 rfl ?_
          refine z_wts (fun hT80 _ => ?_)
          refine z_cSHi (hh := hh_L_write) (n := 4) (Y1 := Y_L_write) (st := []) rfl (s_L_write hl9 f_x1 f_x3 hP) rfl ⟨z_dc_L_write, ⟨(Nat.le_of_ble_eq_true rfl), (Nat.le_of_ble_eq_true rfl)⟩, (Nat.le_of_ble_eq_true rfl)⟩ rfl zw_803 zw_804 zw_0 zh_L_write dL_law_574 (fun x_80 M_80 hP _ x80 => ?_)
          have f_x1 := x80.t (k := 11) hT80 f_x1
          have f_x2 := x80.t (k := 12) hT80 f_x2
          have f_x3 := x80.t (k := 24) hT80 f_x3
          refine z_istore (lv' := [(5, z_I _), (0, z_O _), (1, z_O _), (2, z_O _), (3, z_O _), (4, z_I _)]) dL_law_577 (Nat.le_of_ble_eq_true rfl) rfl ?_
          refine z_pc (pc' := 579) rfl ?_
          refine z_aload_n dL_law_579 rfl 3 rfl ?_
          refine z_aload_n dL_law_580 rfl 1 rfl ?_
          refine z_iload dL_law_581 5 rfl ?_
          refine z_iconst (v := 1) dL_law_583 (by decide) ?_
          refine z_iadd dL_law_584 ?_
          obtain ⟨i81, hP⟩ := hP
          refine z_sld hkb i81 dL_law_585 ?_
          refine z_pc (pc' := 586) rfl ?_
          refine z_aload_n dL_law_586 rfl 1 rfl ?_
          refine z_iload dL_law_587 5 rfl ?_
          refine z_iconst (v := 2) dL_law_589 (by decide) ?_
          refine z_iadd dL_law_590 ?_
          obtain ⟨i82, hP⟩ := hP
          refine z_sld hkb i82 dL_law_591 ?_
          obtain ⟨a84, e84, hP⟩ := hP
          have k84 := f_x2 a84 e84
          refine z_wts (fun hT83 _ => ?_)
          refine z_cVi (c := 12) (n := 2) (Y1 := Y_X12_write) (st := []) e84 k84 z_cb12 (Nat.le_of_ble_eq_true rfl) rfl (s_X12_write k84 hP) rfl ⟨z_dc_X12_write, ⟨(Nat.le_of_ble_eq_true rfl), (Nat.le_of_ble_eq_true rfl)⟩, (Nat.le_of_ble_eq_true rfl)⟩ rfl zw_1614 zw_1615 zw_1616 zw_12 zw_1617 dL_law_592 (fun x_83 M_83 hP _ x83 => ?_)
          have f_x1 := x83.t (k := 11) hT83 f_x1
          have k84 := x83.k (k := 12) hT83 k84
          have f_x3 := x83.t (k := 24) hT83 f_x3
          refine z_pc (pc' := 595) rfl ?_
          refine z_istore (lv' := [(6, z_I _), (5, z_I _), (0, z_O _), (1, z_O _), (2, z_O _), (3, z_O _), (4, z_I _)]) dL_law_595 (Nat.le_of_ble_eq_true rfl) rfl ?_
          refine z_goto (tgt := 1049) dL_law_597 (by decide) ?_
          refine z_sub (lv' := [(0, z_O _), (1, z_O _), (2, z_O _), (3, z_O _), (4, z_I _)]) [2, 3, 4, 5, 6] rfl ?_
          exact v_L_law_1049 hl9 hkb (fun _ _ _ _ _ w0 w1 w2 hP => ih w0 w1 w2 hP) f_x1 (z_trn e84 k84) f_x3 hP
        · cases htg
          replace hP := hP.2.2.2.2.2.2.2.2.2.2.1 h24
          refine z_aload_n dL_law_600 rfl 1 rfl ?_
          refine z_aload_n dL_law_601 rfl 0 rfl ?_
          refine z_pc (pc' := 602) rfl ?_
          refine z_iload dL_law_602 4 rfl ?_
          refine z_iconst (v := 1) dL_law_604 (by decide) ?_
          refine z_iadd dL_law_605 ?_
          obtain ⟨i85, hP⟩ := hP
          refine z_sld hkb i85 dL_law_606 ?_
          refine z_aload_n dL_law_607 rfl 0 rfl ?_
          refine z_iload dL_law_608 4 rfl ?_
          refine z_pc (pc' := 610) rfl ?_
          refine z_iconst (v := 2) dL_law_610 (by decide) ?_
          refine z_iadd dL_law_611 ?_
          obtain ⟨i86, hP⟩ := hP
          refine z_sld hkb i86 dL_law_612 ?_
          refine z_aload_n dL_law_613 rfl 3 rfl ?_
          refine z_wts (fun hT87 _ => ?_)
          refine z_cSHi (hh := hh_L_setWay) (n := 4) (Y1 := Y_L_setWay) (st := []) rfl (s_L_setWay hl9 f_x1 f_x3 hP) rfl ⟨z_dc_L_setWay, ⟨(Nat.le_of_ble_eq_true rfl), (Nat.le_of_ble_eq_true rfl)⟩, (Nat.le_of_ble_eq_true rfl)⟩ rfl zw_810 zw_811 zw_0 zh_L_setWay dL_law_614 (fun x_87 M_87 hP _ x87 => ?_)
          have f_x1 := x87.t (k := 11) hT87 f_x1
          have f_x2 := x87.t (k := 12) hT87 f_x2
          have f_x3 := x87.t (k := 24) hT87 f_x3
          refine z_istore (lv' := [(5, z_I _), (0, z_O _), (1, z_O _), (2, z_O _), (3, z_O _), (4, z_I _)]) dL_law_617 (Nat.le_of_ble_eq_true rfl) rfl ?_
          refine z_pc (pc' := 619) rfl ?_
          refine z_aload_n dL_law_619 rfl 3 rfl ?_
          refine z_aload_n dL_law_620 rfl 1 rfl ?_
          refine z_iload dL_law_621 5 rfl ?_
          refine z_iconst (v := 1) dL_law_623 (by decide) ?_
          refine z_iadd dL_law_624 ?_
          obtain ⟨i88, hP⟩ := hP
          refine z_sld hkb i88 dL_law_625 ?_
          refine z_pc (pc' := 626) rfl ?_
          refine z_aload_n dL_law_626 rfl 1 rfl ?_
          refine z_iload dL_law_627 5 rfl ?_
          refine z_iconst (v := 2) dL_law_629 (by decide) ?_
          refine z_iadd dL_law_630 ?_
          obtain ⟨i89, hP⟩ := hP
          refine z_sld hkb i89 dL_law_631 ?_
          obtain ⟨a91, e91, hP⟩ := hP
          have k91 := f_x2 a91 e91
          refine z_wts (fun hT90 _ => ?_)
          refine z_cVi (c := 12) (n := 2) (Y1 := Y_X12_setWay) (st := []) e91 k91 z_cb12 (Nat.le_of_ble_eq_true rfl) rfl (s_X12_setWay k91 hP) rfl ⟨z_dc_X12_setWay, ⟨(Nat.le_of_ble_eq_true rfl), (Nat.le_of_ble_eq_true rfl)⟩, (Nat.le_of_ble_eq_true rfl)⟩ rfl zw_1618 zw_1619 zw_1620 zw_12 zw_1621 dL_law_632 (fun x_90 M_90 hP _ x90 => ?_)
          have f_x1 := x90.t (k := 11) hT90 f_x1
          have k91 := x90.k (k := 12) hT90 k91
          have f_x3 := x90.t (k := 24) hT90 f_x3
          refine z_pc (pc' := 635) rfl ?_
          refine z_istore (lv' := [(6, z_I _), (5, z_I _), (0, z_O _), (1, z_O _), (2, z_O _), (3, z_O _), (4, z_I _)]) dL_law_635 (Nat.le_of_ble_eq_true rfl) rfl ?_
          refine z_goto (tgt := 1049) dL_law_637 (by decide) ?_
          refine z_sub (lv' := [(0, z_O _), (1, z_O _), (2, z_O _), (3, z_O _), (4, z_I _)]) [2, 3, 4, 5, 6] rfl ?_
          exact v_L_law_1049 hl9 hkb (fun _ _ _ _ _ w0 w1 w2 hP => ih w0 w1 w2 hP) f_x1 (z_trn e91 k91) f_x3 hP
        · cases htg
          replace hP := hP.2.2.2.2.2.2.2.2.2.2.2.1 h24
          refine z_aload_n dL_law_640 rfl 1 rfl ?_
          refine z_aload_n dL_law_641 rfl 0 rfl ?_
          refine z_pc (pc' := 642) rfl ?_
          refine z_iload dL_law_642 4 rfl ?_
          refine z_iconst (v := 1) dL_law_644 (by decide) ?_
          refine z_iadd dL_law_645 ?_
          obtain ⟨i92, hP⟩ := hP
          refine z_sld hkb i92 dL_law_646 ?_
          refine z_wts (fun hT93 _ => ?_)
          refine z_cSHi (hh := hh_L_check) (n := 2) (Y1 := Y_L_check) (st := []) rfl (s_L_check hl9 f_x1 hP) rfl ⟨z_dc_L_check, ⟨(Nat.le_of_ble_eq_true rfl), (Nat.le_of_ble_eq_true rfl)⟩, (Nat.le_of_ble_eq_true rfl)⟩ rfl zw_821 zw_822 zw_0 zh_L_check dL_law_647 (fun x_93 M_93 hP _ x93 => ?_)
          have f_x1 := x93.t (k := 11) hT93 f_x1
          have f_x2 := x93.t (k := 12) hT93 f_x2
          have f_x3 := x93.t (k := 24) hT93 f_x3
          refine z_istore (lv' := [(5, z_I _), (0, z_O _), (1, z_O _), (2, z_O _), (3, z_O _), (4, z_I _)]) dL_law_650 (Nat.le_of_ble_eq_true rfl) rfl ?_
          refine z_pc (pc' := 652) rfl ?_
          refine z_aload_n dL_law_652 rfl 3 rfl ?_
          refine z_aload_n dL_law_653 rfl 1 rfl ?_
          refine z_iload dL_law_654 5 rfl ?_
          refine z_iconst (v := 1) dL_law_656 (by decide) ?_
          refine z_iadd dL_law_657 ?_
          obtain ⟨i94, hP⟩ := hP
          refine z_sld hkb i94 dL_law_658 ?_
          refine z_pc (pc' := 659) rfl ?_
          obtain ⟨a96, e96, hP⟩ := hP
          have k96 := f_x2 a96 e96
          refine z_wts (fun hT95 _ => ?_)
          refine z_cVv (c := 12) (n := 1) (Y1 := Y_X12_check) (st := []) e96 k96 z_cb12 (Nat.le_of_ble_eq_true rfl) rfl (s_X12_check k96 hP) rfl ⟨z_dc_X12_check, ⟨(Nat.le_of_ble_eq_true rfl), (Nat.le_of_ble_eq_true rfl)⟩, (Nat.le_of_ble_eq_true rfl)⟩ rfl zw_1622 zw_1623 zw_1624 zw_12 zw_1625 dL_law_659 (fun M_95 hP _ x95 => ?_)
          have f_x1 := x95.t (k := 11) hT95 f_x1
          have k96 := x95.k (k := 12) hT95 k96
          have f_x3 := x95.t (k := 24) hT95 f_x3
          refine z_goto (tgt := 1049) dL_law_662 (by decide) ?_
          refine z_sub (lv' := [(0, z_O _), (1, z_O _), (2, z_O _), (3, z_O _), (4, z_I _)]) [1, 2, 3, 4, 5] rfl ?_
          exact v_L_law_1049 hl9 hkb (fun _ _ _ _ _ w0 w1 w2 hP => ih w0 w1 w2 hP) f_x1 (z_trn e96 k96) f_x3 hP
        · cases htg
          replace hP := hP.2.2.2.2.2.2.2.2.2.2.2.2.1 h24
          refine z_aload_n dL_law_665 rfl 1 rfl ?_
          refine z_aload_n dL_law_666 rfl 0 rfl ?_
          refine z_pc (pc' := 667) rfl ?_
          refine z_iload dL_law_667 4 rfl ?_
          refine z_iconst (v := 1) dL_law_669 (by decide) ?_
          refine z_iadd dL_law_670 ?_
          obtain ⟨i97, hP⟩ := hP
          refine z_sld hkb i97 dL_law_671 ?_
          refine z_aload_n dL_law_672 rfl 3 rfl ?_
          refine z_wts (fun hT98 _ => ?_)
          refine z_cSHi (hh := hh_L_use) (n := 3) (Y1 := Y_L_use) (st := []) rfl (s_L_use hl9 f_x1 f_x3 hP) rfl ⟨z_dc_L_use, ⟨(Nat.le_of_ble_eq_true rfl), (Nat.le_of_ble_eq_true rfl)⟩, (Nat.le_of_ble_eq_true rfl)⟩ rfl zw_831 zw_832 zw_0 zh_L_use dL_law_673 (fun x_98 M_98 hP _ x98 => ?_)
          have f_x1 := x98.t (k := 11) hT98 f_x1
          have f_x2 := x98.t (k := 12) hT98 f_x2
          have f_x3 := x98.t (k := 24) hT98 f_x3
          refine z_pc (pc' := 676) rfl ?_
          refine z_istore (lv' := [(5, z_I _), (0, z_O _), (1, z_O _), (2, z_O _), (3, z_O _), (4, z_I _)]) dL_law_676 (Nat.le_of_ble_eq_true rfl) rfl ?_
          refine z_aload_n dL_law_678 rfl 3 rfl ?_
          refine z_aload_n dL_law_679 rfl 1 rfl ?_
          refine z_iload dL_law_680 5 rfl ?_
          refine z_iconst (v := 1) dL_law_682 (by decide) ?_
          refine z_iadd dL_law_683 ?_
          refine z_pc (pc' := 684) rfl ?_
          obtain ⟨i99, hP⟩ := hP
          refine z_sld hkb i99 dL_law_684 ?_
          obtain ⟨a101, e101, hP⟩ := hP
          have k101 := f_x2 a101 e101
          refine z_wts (fun hT100 _ => ?_)
          refine z_cVi (c := 12) (n := 1) (Y1 := Y_X12_use) (st := []) e101 k101 z_cb12 (Nat.le_of_ble_eq_true rfl) rfl (s_X12_use k101 hP) rfl ⟨z_dc_X12_use, ⟨(Nat.le_of_ble_eq_true rfl), (Nat.le_of_ble_eq_true rfl)⟩, (Nat.le_of_ble_eq_true rfl)⟩ rfl zw_1626 zw_1627 zw_1628 zw_12 zw_1629 dL_law_685 (fun x_100 M_100 hP _ x100 => ?_)
          have f_x1 := x100.t (k := 11) hT100 f_x1
          have k101 := x100.k (k := 12) hT100 k101
          have f_x3 := x100.t (k := 24) hT100 f_x3
          refine z_istore (lv' := [(6, z_I _), (5, z_I _), (0, z_O _), (1, z_O _), (2, z_O _), (3, z_O _), (4, z_I _)]) dL_law_688 (Nat.le_of_ble_eq_true rfl) rfl ?_
          refine z_aload_n dL_law_690 rfl 4 rfl ?_
          refine z_wts (fun hT102 _ => ?_)
          refine z_cVi (c := 12) (n := 0) (Y1 := Y_X12_thrown) (st := []) e101 k101 z_cb12 (Nat.le_of_ble_eq_true rfl) rfl (s_X12_thrown k101 hP) rfl ⟨z_dc_X12_thrown, ⟨(Nat.le_of_ble_eq_true rfl), (Nat.le_of_ble_eq_true rfl)⟩, (Nat.le_of_ble_eq_true rfl)⟩ rfl zw_1541 zw_1542 zw_1543 zw_12 zw_1544 dL_law_691 (fun x_102 M_102 hP _ x102 => ?_)
          have f_x1 := x102.t (k := 11) hT102 f_x1
          have k101 := x102.k (k := 12) hT102 k101
          have f_x3 := x102.t (k := 24) hT102 f_x3
          refine z_iload dL_law_694 1 rfl ?_
          refine z_pc (pc' := 696) rfl ?_
          refine z_icmp_eq (tgt := 701) dL_law_696 (by decide) (fun h103 => ?_) (fun h103 => ?_)
          · replace hP := hP.1 h103
            refine z_iload dL_law_701 1 rfl ?_
            refine z_if_ne (tgt := 718) dL_law_703 (by decide) (fun h104 => ?_) (fun h104 => ?_)
            · replace hP := hP.2 h104
              refine z_sub (lv' := [(0, z_O _), (1, z_O _), (2, z_O _), (3, z_O _), (4, z_I _)]) [2, 3, 4, 5, 6] rfl ?_
              exact v_L_law_718 hl9 hkb (fun _ _ _ _ _ w0 w1 w2 hP => ih w0 w1 w2 hP) f_x1 (z_trn e101 k101) f_x3 hP
            · replace hP := hP.1 h104
              refine z_aload_n dL_law_706 rfl 5 rfl ?_
              refine z_iconst (v := 0) dL_law_707 (by decide) ?_
              obtain ⟨a105, e105, hP⟩ := hP
              have k105 := f_x3 a105 e105
              obtain ⟨i106, hP⟩ := hP
              refine z_lald e105 k105 i106 dL_law_708 ?_
              refine z_iload dL_law_709 0 rfl ?_
              refine z_i2l dL_law_711 ?_
              refine z_pc (pc' := 712) rfl ?_
              refine z_lcmp dL_law_712 ?_
              refine z_if_eq (tgt := 718) dL_law_713 (by decide) (fun h107 => ?_) (fun h107 => ?_)
              · replace hP := hP.1 h107
                refine z_sub (lv' := [(0, z_O _), (1, z_O _), (2, z_O _), (3, z_O _), (4, z_I _)]) [2, 3, 4, 5, 6] rfl ?_
                exact v_L_law_718 hl9 hkb (fun _ _ _ _ _ w0 w1 w2 hP => ih w0 w1 w2 hP) f_x1 (z_trn e101 k101) (z_trn e105 k105) hP
              · replace hP := hP.2 h107
                refine z_iconst (v := 0) dL_law_716 (by decide) ?_
                exact z_retb rfl (Or.inl rfl) dL_law_717 hP
          · replace hP := hP.2 h103
            refine z_iconst (v := 0) dL_law_699 (by decide) ?_
            exact z_retb rfl (Or.inl rfl) dL_law_700 hP
        · cases htg
          replace hP := hP.2.2.2.2.2.2.2.2.2.2.2.2.2.1 h24
          refine z_aload_n dL_law_721 rfl 1 rfl ?_
          refine z_aload_n dL_law_722 rfl 3 rfl ?_
          refine z_pc (pc' := 723) rfl ?_
          refine z_wts (fun hT108 _ => ?_)
          refine z_cSHi (hh := hh_L_changeKey) (n := 2) (Y1 := Y_L_changeKey) (st := []) rfl (s_L_changeKey hl9 f_x1 f_x3 hP) rfl ⟨z_dc_L_changeKey, ⟨(Nat.le_of_ble_eq_true rfl), (Nat.le_of_ble_eq_true rfl)⟩, (Nat.le_of_ble_eq_true rfl)⟩ rfl zw_838 zw_839 zw_0 zh_L_changeKey dL_law_723 (fun x_108 M_108 hP _ x108 => ?_)
          have f_x1 := x108.t (k := 11) hT108 f_x1
          have f_x2 := x108.t (k := 12) hT108 f_x2
          have f_x3 := x108.t (k := 24) hT108 f_x3
          refine z_istore (lv' := [(5, z_I _), (0, z_O _), (1, z_O _), (2, z_O _), (3, z_O _), (4, z_I _)]) dL_law_726 (Nat.le_of_ble_eq_true rfl) rfl ?_
          refine z_aload_n dL_law_728 rfl 3 rfl ?_
          obtain ⟨a110, e110, hP⟩ := hP
          have k110 := f_x2 a110 e110
          refine z_wts (fun hT109 _ => ?_)
          refine z_cVi (c := 12) (n := 0) (Y1 := Y_X12_changeKey) (st := []) e110 k110 z_cb12 (Nat.le_of_ble_eq_true rfl) rfl (s_X12_changeKey k110 hP) rfl ⟨z_dc_X12_changeKey, ⟨(Nat.le_of_ble_eq_true rfl), (Nat.le_of_ble_eq_true rfl)⟩, (Nat.le_of_ble_eq_true rfl)⟩ rfl zw_1630 zw_1631 zw_1632 zw_12 zw_1633 dL_law_729 (fun x_109 M_109 hP _ x109 => ?_)
          have f_x1 := x109.t (k := 11) hT109 f_x1
          have k110 := x109.k (k := 12) hT109 k110
          have f_x3 := x109.t (k := 24) hT109 f_x3
          refine z_istore (lv' := [(6, z_I _), (5, z_I _), (0, z_O _), (1, z_O _), (2, z_O _), (3, z_O _), (4, z_I _)]) dL_law_732 (Nat.le_of_ble_eq_true rfl) rfl ?_
          refine z_goto (tgt := 1049) dL_law_734 (by decide) ?_
          refine z_sub (lv' := [(0, z_O _), (1, z_O _), (2, z_O _), (3, z_O _), (4, z_I _)]) [2, 3, 4, 5, 6] rfl ?_
          exact v_L_law_1049 hl9 hkb (fun _ _ _ _ _ w0 w1 w2 hP => ih w0 w1 w2 hP) f_x1 (z_trn e110 k110) f_x3 hP
        · cases htg
          replace hP := hP.2.2.2.2.2.2.2.2.2.2.2.2.2.2.1 h24
          refine z_aload_n dL_law_737 rfl 1 rfl ?_
          refine z_wts (fun hT111 _ => ?_)
          refine z_cSHi (hh := hh_L_close) (n := 1) (Y1 := Y_L_close) (st := []) rfl (s_L_close hl9 f_x1 hP) rfl ⟨z_dc_L_close, ⟨(Nat.le_of_ble_eq_true rfl), (Nat.le_of_ble_eq_true rfl)⟩, (Nat.le_of_ble_eq_true rfl)⟩ rfl zw_856 zw_857 zw_0 zh_L_close dL_law_738 (fun x_111 M_111 hP _ x111 => ?_)
          have f_x1 := x111.t (k := 11) hT111 f_x1
          have f_x2 := x111.t (k := 12) hT111 f_x2
          have f_x3 := x111.t (k := 24) hT111 f_x3
          refine z_pc (pc' := 741) rfl ?_
          refine z_istore (lv' := [(5, z_I _), (0, z_O _), (1, z_O _), (2, z_O _), (3, z_O _), (4, z_I _)]) dL_law_741 (Nat.le_of_ble_eq_true rfl) rfl ?_
          refine z_aload_n dL_law_743 rfl 3 rfl ?_
          obtain ⟨a113, e113, hP⟩ := hP
          have k113 := f_x2 a113 e113
          refine z_wts (fun hT112 _ => ?_)
          refine z_cVv (c := 12) (n := 0) (Y1 := Y_X12_close) (st := []) e113 k113 z_cb12 (Nat.le_of_ble_eq_true rfl) rfl (s_X12_close k113 hP) rfl ⟨z_dc_X12_close, ⟨(Nat.le_of_ble_eq_true rfl), (Nat.le_of_ble_eq_true rfl)⟩, (Nat.le_of_ble_eq_true rfl)⟩ rfl zw_1634 zw_1635 zw_1636 zw_12 zw_1637 dL_law_744 (fun M_112 hP _ x112 => ?_)
          have f_x1 := x112.t (k := 11) hT112 f_x1
          have k113 := x112.k (k := 12) hT112 k113
          have f_x3 := x112.t (k := 24) hT112 f_x3
          refine z_goto (tgt := 1049) dL_law_747 (by decide) ?_
          refine z_sub (lv' := [(0, z_O _), (1, z_O _), (2, z_O _), (3, z_O _), (4, z_I _)]) [1, 2, 3, 4, 5] rfl ?_
          exact v_L_law_1049 hl9 hkb (fun _ _ _ _ _ w0 w1 w2 hP => ih w0 w1 w2 hP) f_x1 (z_trn e113 k113) f_x3 hP
        · cases htg
          replace hP := hP.2.2.2.2.2.2.2.2.2.2.2.2.2.2.2.1 h24
          refine z_aload_n dL_law_750 rfl 1 rfl ?_
          refine z_aload_n dL_law_751 rfl 0 rfl ?_
          refine z_pc (pc' := 752) rfl ?_
          refine z_iload dL_law_752 4 rfl ?_
          refine z_iconst (v := 1) dL_law_754 (by decide) ?_
          refine z_iadd dL_law_755 ?_
          obtain ⟨i114, hP⟩ := hP
          refine z_sld hkb i114 dL_law_756 ?_
          refine z_aload_n dL_law_757 rfl 3 rfl ?_
          refine z_wts (fun hT115 _ => ?_)
          refine z_cSHi (hh := hh_L_tick) (n := 3) (Y1 := Y_L_tick) (st := []) rfl (s_L_tick hl9 f_x1 f_x3 hP) rfl ⟨z_dc_L_tick, ⟨(Nat.le_of_ble_eq_true rfl), (Nat.le_of_ble_eq_true rfl)⟩, (Nat.le_of_ble_eq_true rfl)⟩ rfl zw_867 zw_868 zw_0 zh_L_tick dL_law_758 (fun x_115 M_115 hP _ x115 => ?_)
          have f_x1 := x115.t (k := 11) hT115 f_x1
          have f_x2 := x115.t (k := 12) hT115 f_x2
          have f_x3 := x115.t (k := 24) hT115 f_x3
          refine z_pc (pc' := 761) rfl ?_
          refine z_istore (lv' := [(5, z_I _), (0, z_O _), (1, z_O _), (2, z_O _), (3, z_O _), (4, z_I _)]) dL_law_761 (Nat.le_of_ble_eq_true rfl) rfl ?_
          refine z_aload_n dL_law_763 rfl 3 rfl ?_
          refine z_aload_n dL_law_764 rfl 1 rfl ?_
          refine z_iload dL_law_765 5 rfl ?_
          refine z_iconst (v := 1) dL_law_767 (by decide) ?_
          refine z_iadd dL_law_768 ?_
          refine z_pc (pc' := 769) rfl ?_
          obtain ⟨i116, hP⟩ := hP
          refine z_sld hkb i116 dL_law_769 ?_
          obtain ⟨a118, e118, hP⟩ := hP
          have k118 := f_x2 a118 e118
          refine z_wts (fun hT117 _ => ?_)
          refine z_cVi (c := 12) (n := 1) (Y1 := Y_X12_tick) (st := []) e118 k118 z_cb12 (Nat.le_of_ble_eq_true rfl) rfl (s_X12_tick k118 hP) rfl ⟨z_dc_X12_tick, ⟨(Nat.le_of_ble_eq_true rfl), (Nat.le_of_ble_eq_true rfl)⟩, (Nat.le_of_ble_eq_true rfl)⟩ rfl zw_1638 zw_1639 zw_1640 zw_12 zw_1641 dL_law_770 (fun x_117 M_117 hP _ x117 => ?_)
          have f_x1 := x117.t (k := 11) hT117 f_x1
          have k118 := x117.k (k := 12) hT117 k118
          have f_x3 := x117.t (k := 24) hT117 f_x3
          refine z_istore (lv' := [(6, z_I _), (5, z_I _), (0, z_O _), (1, z_O _), (2, z_O _), (3, z_O _), (4, z_I _)]) dL_law_773 (Nat.le_of_ble_eq_true rfl) rfl ?_
          refine z_goto (tgt := 1049) dL_law_775 (by decide) ?_
          refine z_sub (lv' := [(0, z_O _), (1, z_O _), (2, z_O _), (3, z_O _), (4, z_I _)]) [2, 3, 4, 5, 6] rfl ?_
          exact v_L_law_1049 hl9 hkb (fun _ _ _ _ _ w0 w1 w2 hP => ih w0 w1 w2 hP) f_x1 (z_trn e118 k118) f_x3 hP
        · cases htg
          replace hP := hP.2.2.2.2.2.2.2.2.2.2.2.2.2.2.2.2.1 h24
          refine z_aload_n dL_law_778 rfl 1 rfl ?_
          obtain ⟨a120, e120, hP⟩ := hP
          have k120 := f_x1 a120 e120
          refine z_wts (fun hT119 _ => ?_)
          refine z_cVi (c := 11) (n := 0) (Y1 := Y_X11_now) (st := []) e120 k120 z_cb11 (Nat.le_of_ble_eq_true rfl) rfl (s_X11_now k120 hP) rfl ⟨z_dc_X11_now, ⟨(Nat.le_of_ble_eq_true rfl), (Nat.le_of_ble_eq_true rfl)⟩, (Nat.le_of_ble_eq_true rfl)⟩ rfl zw_520 zw_521 zw_522 zw_1 zw_523 dL_law_779 (fun x_119 M_119 hP _ x119 => ?_)
          have k120 := x119.k (k := 11) hT119 k120
          have f_x2 := x119.t (k := 12) hT119 f_x2
          have f_x3 := x119.t (k := 24) hT119 f_x3
          refine z_pc (pc' := 782) rfl ?_
          refine z_pop dL_law_782 rfl ?_
          refine z_aload_n dL_law_783 rfl 2 rfl ?_
          obtain ⟨a122, e122, hP⟩ := hP
          have k122 := f_x2 a122 e122
          refine z_wts (fun hT121 _ => ?_)
          refine z_cVi (c := 12) (n := 0) (Y1 := Y_X12_now) (st := []) e122 k122 z_cb12 (Nat.le_of_ble_eq_true rfl) rfl (s_X12_now k122 hP) rfl ⟨z_dc_X12_now, ⟨(Nat.le_of_ble_eq_true rfl), (Nat.le_of_ble_eq_true rfl)⟩, (Nat.le_of_ble_eq_true rfl)⟩ rfl zw_1766 zw_1767 zw_1768 zw_12 zw_1769 dL_law_784 (fun x_121 M_121 hP _ x121 => ?_)
          have k120 := x121.k (k := 11) hT121 k120
          have k122 := x121.k (k := 12) hT121 k122
          have f_x3 := x121.t (k := 24) hT121 f_x3
          refine z_pop dL_law_787 rfl ?_
          refine z_goto (tgt := 1049) dL_law_788 (by decide) ?_
          refine z_sub (lv' := [(0, z_O _), (1, z_O _), (2, z_O _), (3, z_O _), (4, z_I _)]) [0, 1, 2, 3, 4] rfl ?_
          exact v_L_law_1049 hl9 hkb (fun _ _ _ _ _ w0 w1 w2 hP => ih w0 w1 w2 hP) (z_trn e120 k120) (z_trn e122 k122) f_x3 hP
        · cases htg
          replace hP := hP.2.2.2.2.2.2.2.2.2.2.2.2.2.2.2.2.2.1 h24
          refine z_aload_n dL_law_791 rfl 1 rfl ?_
          refine z_aload_n dL_law_792 rfl 0 rfl ?_
          refine z_pc (pc' := 793) rfl ?_
          refine z_iload dL_law_793 4 rfl ?_
          refine z_iconst (v := 1) dL_law_795 (by decide) ?_
          refine z_iadd dL_law_796 ?_
          obtain ⟨i123, hP⟩ := hP
          refine z_sld hkb i123 dL_law_797 ?_
          refine z_aload_n dL_law_798 rfl 3 rfl ?_
          refine z_wts (fun hT124 _ => ?_)
          refine z_cSHi (hh := hh_L_state) (n := 3) (Y1 := Y_L_state) (st := []) rfl (s_L_state hl9 f_x1 f_x3 hP) rfl ⟨z_dc_L_state, ⟨(Nat.le_of_ble_eq_true rfl), (Nat.le_of_ble_eq_true rfl)⟩, (Nat.le_of_ble_eq_true rfl)⟩ rfl zw_1186 zw_1187 zw_0 zh_L_state dL_law_799 (fun x_124 M_124 hP _ x124 => ?_)
          have f_x1 := x124.t (k := 11) hT124 f_x1
          have f_x2 := x124.t (k := 12) hT124 f_x2
          have f_x3 := x124.t (k := 24) hT124 f_x3
          refine z_pc (pc' := 802) rfl ?_
          refine z_istore (lv' := [(5, z_I _), (0, z_O _), (1, z_O _), (2, z_O _), (3, z_O _), (4, z_I _)]) dL_law_802 (Nat.le_of_ble_eq_true rfl) rfl ?_
          refine z_aload_n dL_law_804 rfl 3 rfl ?_
          refine z_aload_n dL_law_805 rfl 1 rfl ?_
          refine z_iload dL_law_806 5 rfl ?_
          refine z_iconst (v := 1) dL_law_808 (by decide) ?_
          refine z_iadd dL_law_809 ?_
          refine z_pc (pc' := 810) rfl ?_
          obtain ⟨i125, hP⟩ := hP
          refine z_sld hkb i125 dL_law_810 ?_
          obtain ⟨a127, e127, hP⟩ := hP
          have k127 := f_x2 a127 e127
          refine z_wts (fun hT126 _ => ?_)
          refine z_cVi (c := 12) (n := 1) (Y1 := Y_X12_state) (st := []) e127 k127 z_cb12 (Nat.le_of_ble_eq_true rfl) rfl (s_X12_state k127 hP) rfl ⟨z_dc_X12_state, ⟨(Nat.le_of_ble_eq_true rfl), (Nat.le_of_ble_eq_true rfl)⟩, (Nat.le_of_ble_eq_true rfl)⟩ rfl zw_1770 zw_1771 zw_1772 zw_12 zw_1773 dL_law_811 (fun x_126 M_126 hP _ x126 => ?_)
          have f_x1 := x126.t (k := 11) hT126 f_x1
          have k127 := x126.k (k := 12) hT126 k127
          have f_x3 := x126.t (k := 24) hT126 f_x3
          refine z_istore (lv' := [(6, z_I _), (5, z_I _), (0, z_O _), (1, z_O _), (2, z_O _), (3, z_O _), (4, z_I _)]) dL_law_814 (Nat.le_of_ble_eq_true rfl) rfl ?_
          refine z_goto (tgt := 1049) dL_law_816 (by decide) ?_
          refine z_sub (lv' := [(0, z_O _), (1, z_O _), (2, z_O _), (3, z_O _), (4, z_I _)]) [2, 3, 4, 5, 6] rfl ?_
          exact v_L_law_1049 hl9 hkb (fun _ _ _ _ _ w0 w1 w2 hP => ih w0 w1 w2 hP) f_x1 (z_trn e127 k127) f_x3 hP
        · cases htg
          replace hP := hP.2.2.2.2.2.2.2.2.2.2.2.2.2.2.2.2.2.2.1 h24
          refine z_aload_n dL_law_819 rfl 1 rfl ?_
          refine z_aload_n dL_law_820 rfl 0 rfl ?_
          refine z_pc (pc' := 821) rfl ?_
          refine z_iload dL_law_821 4 rfl ?_
          refine z_iconst (v := 1) dL_law_823 (by decide) ?_
          refine z_iadd dL_law_824 ?_
          obtain ⟨i128, hP⟩ := hP
          refine z_sld hkb i128 dL_law_825 ?_
          refine z_aload_n dL_law_826 rfl 0 rfl ?_
          refine z_iload dL_law_827 4 rfl ?_
          refine z_pc (pc' := 829) rfl ?_
          refine z_iconst (v := 2) dL_law_829 (by decide) ?_
          refine z_iadd dL_law_830 ?_
          obtain ⟨i129, hP⟩ := hP
          refine z_sld hkb i129 dL_law_831 ?_
          refine z_aload_n dL_law_832 rfl 3 rfl ?_
          refine z_wts (fun hT130 _ => ?_)
          refine z_cSHi (hh := hh_L_path) (n := 4) (Y1 := Y_L_path) (st := []) rfl (s_L_path hl9 f_x1 f_x3 hP) rfl ⟨z_dc_L_path, ⟨(Nat.le_of_ble_eq_true rfl), (Nat.le_of_ble_eq_true rfl)⟩, (Nat.le_of_ble_eq_true rfl)⟩ rfl zw_1193 zw_1194 zw_0 zh_L_path dL_law_833 (fun x_130 M_130 hP _ x130 => ?_)
          have f_x1 := x130.t (k := 11) hT130 f_x1
          have f_x2 := x130.t (k := 12) hT130 f_x2
          have f_x3 := x130.t (k := 24) hT130 f_x3
          refine z_istore (lv' := [(5, z_I _), (0, z_O _), (1, z_O _), (2, z_O _), (3, z_O _), (4, z_I _)]) dL_law_836 (Nat.le_of_ble_eq_true rfl) rfl ?_
          refine z_pc (pc' := 838) rfl ?_
          refine z_aload_n dL_law_838 rfl 3 rfl ?_
          refine z_aload_n dL_law_839 rfl 1 rfl ?_
          refine z_iload dL_law_840 5 rfl ?_
          refine z_iconst (v := 1) dL_law_842 (by decide) ?_
          refine z_iadd dL_law_843 ?_
          obtain ⟨i131, hP⟩ := hP
          refine z_sld hkb i131 dL_law_844 ?_
          refine z_pc (pc' := 845) rfl ?_
          refine z_aload_n dL_law_845 rfl 1 rfl ?_
          refine z_iload dL_law_846 5 rfl ?_
          refine z_iconst (v := 2) dL_law_848 (by decide) ?_
          refine z_iadd dL_law_849 ?_
          obtain ⟨i132, hP⟩ := hP
          refine z_sld hkb i132 dL_law_850 ?_
          obtain ⟨a134, e134, hP⟩ := hP
          have k134 := f_x2 a134 e134
          refine z_wts (fun hT133 _ => ?_)
          refine z_cVi (c := 12) (n := 2) (Y1 := Y_X12_path) (st := []) e134 k134 z_cb12 (Nat.le_of_ble_eq_true rfl) rfl (s_X12_path k134 hP) rfl ⟨z_dc_X12_path, ⟨(Nat.le_of_ble_eq_true rfl), (Nat.le_of_ble_eq_true rfl)⟩, (Nat.le_of_ble_eq_true rfl)⟩ rfl zw_1774 zw_1775 zw_1776 zw_12 zw_1777 dL_law_851 (fun x_133 M_133 hP _ x133 => ?_)
          have f_x1 := x133.t (k := 11) hT133 f_x1
          have k134 := x133.k (k := 12) hT133 k134
          have f_x3 := x133.t (k := 24) hT133 f_x3
          refine z_pc (pc' := 854) rfl ?_
          refine z_istore (lv' := [(6, z_I _), (5, z_I _), (0, z_O _), (1, z_O _), (2, z_O _), (3, z_O _), (4, z_I _)]) dL_law_854 (Nat.le_of_ble_eq_true rfl) rfl ?_
          refine z_goto (tgt := 1049) dL_law_856 (by decide) ?_
          refine z_sub (lv' := [(0, z_O _), (1, z_O _), (2, z_O _), (3, z_O _), (4, z_I _)]) [2, 3, 4, 5, 6] rfl ?_
          exact v_L_law_1049 hl9 hkb (fun _ _ _ _ _ w0 w1 w2 hP => ih w0 w1 w2 hP) f_x1 (z_trn e134 k134) f_x3 hP
        · cases htg
          replace hP := hP.2.2.2.2.2.2.2.2.2.2.2.2.2.2.2.2.2.2.2.1 h24
          refine z_aload_n dL_law_859 rfl 1 rfl ?_
          refine z_aload_n dL_law_860 rfl 0 rfl ?_
          refine z_pc (pc' := 861) rfl ?_
          refine z_iload dL_law_861 4 rfl ?_
          refine z_iconst (v := 1) dL_law_863 (by decide) ?_
          refine z_iadd dL_law_864 ?_
          obtain ⟨i135, hP⟩ := hP
          refine z_sld hkb i135 dL_law_865 ?_
          refine z_aload_n dL_law_866 rfl 0 rfl ?_
          refine z_iload dL_law_867 4 rfl ?_
          refine z_pc (pc' := 869) rfl ?_
          refine z_iconst (v := 2) dL_law_869 (by decide) ?_
          refine z_iadd dL_law_870 ?_
          obtain ⟨i136, hP⟩ := hP
          refine z_sld hkb i136 dL_law_871 ?_
          refine z_aload_n dL_law_872 rfl 3 rfl ?_
          refine z_wts (fun hT137 _ => ?_)
          refine z_cSHi (hh := hh_L_stream) (n := 4) (Y1 := Y_L_stream) (st := []) rfl (s_L_stream hl9 f_x1 f_x3 hP) rfl ⟨z_dc_L_stream, ⟨(Nat.le_of_ble_eq_true rfl), (Nat.le_of_ble_eq_true rfl)⟩, (Nat.le_of_ble_eq_true rfl)⟩ rfl zw_1203 zw_1204 zw_0 zh_L_stream dL_law_873 (fun x_137 M_137 hP _ x137 => ?_)
          have f_x1 := x137.t (k := 11) hT137 f_x1
          have f_x2 := x137.t (k := 12) hT137 f_x2
          have f_x3 := x137.t (k := 24) hT137 f_x3
          refine z_istore (lv' := [(5, z_I _), (0, z_O _), (1, z_O _), (2, z_O _), (3, z_O _), (4, z_I _)]) dL_law_876 (Nat.le_of_ble_eq_true rfl) rfl ?_
          refine z_pc (pc' := 878) rfl ?_
          refine z_aload_n dL_law_878 rfl 3 rfl ?_
          refine z_aload_n dL_law_879 rfl 1 rfl ?_
          refine z_iload dL_law_880 5 rfl ?_
          refine z_iconst (v := 1) dL_law_882 (by decide) ?_
          refine z_iadd dL_law_883 ?_
          obtain ⟨i138, hP⟩ := hP
          refine z_sld hkb i138 dL_law_884 ?_
          refine z_pc (pc' := 885) rfl ?_
          refine z_aload_n dL_law_885 rfl 1 rfl ?_
          refine z_iload dL_law_886 5 rfl ?_
          refine z_iconst (v := 2) dL_law_888 (by decide) ?_
          refine z_iadd dL_law_889 ?_
          obtain ⟨i139, hP⟩ := hP
          refine z_sld hkb i139 dL_law_890 ?_
          obtain ⟨a141, e141, hP⟩ := hP
          have k141 := f_x2 a141 e141
          refine z_wts (fun hT140 _ => ?_)
          refine z_cVi (c := 12) (n := 2) (Y1 := Y_X12_stream) (st := []) e141 k141 z_cb12 (Nat.le_of_ble_eq_true rfl) rfl (s_X12_stream k141 hP) rfl ⟨z_dc_X12_stream, ⟨(Nat.le_of_ble_eq_true rfl), (Nat.le_of_ble_eq_true rfl)⟩, (Nat.le_of_ble_eq_true rfl)⟩ rfl zw_1778 zw_1779 zw_1780 zw_12 zw_1781 dL_law_891 (fun x_140 M_140 hP _ x140 => ?_)
          have f_x1 := x140.t (k := 11) hT140 f_x1
          have k141 := x140.k (k := 12) hT140 k141
          have f_x3 := x140.t (k := 24) hT140 f_x3
          refine z_pc (pc' := 894) rfl ?_
          refine z_istore (lv' := [(6, z_I _), (5, z_I _), (0, z_O _), (1, z_O _), (2, z_O _), (3, z_O _), (4, z_I _)]) dL_law_894 (Nat.le_of_ble_eq_true rfl) rfl ?_
          refine z_goto (tgt := 1049) dL_law_896 (by decide) ?_
          refine z_sub (lv' := [(0, z_O _), (1, z_O _), (2, z_O _), (3, z_O _), (4, z_I _)]) [2, 3, 4, 5, 6] rfl ?_
          exact v_L_law_1049 hl9 hkb (fun _ _ _ _ _ w0 w1 w2 hP => ih w0 w1 w2 hP) f_x1 (z_trn e141 k141) f_x3 hP
        · cases htg
          replace hP := hP.2.2.2.2.2.2.2.2.2.2.2.2.2.2.2.2.2.2.2.2.1 h24
          refine z_aload_n dL_law_899 rfl 1 rfl ?_
          obtain ⟨a143, e143, hP⟩ := hP
          have k143 := f_x1 a143 e143
          refine z_wts (fun hT142 _ => ?_)
          refine z_cVi (c := 11) (n := 0) (Y1 := Y_X11_credit) (st := []) e143 k143 z_cb11 (Nat.le_of_ble_eq_true rfl) rfl (s_X11_credit k143 hP) rfl ⟨z_dc_X11_credit, ⟨(Nat.le_of_ble_eq_true rfl), (Nat.le_of_ble_eq_true rfl)⟩, (Nat.le_of_ble_eq_true rfl)⟩ rfl zw_524 zw_525 zw_526 zw_1 zw_527 dL_law_900 (fun x_142 M_142 hP _ x142 => ?_)
          have k143 := x142.k (k := 11) hT142 k143
          have f_x2 := x142.t (k := 12) hT142 f_x2
          have f_x3 := x142.t (k := 24) hT142 f_x3
          refine z_pc (pc' := 903) rfl ?_
          refine z_pop dL_law_903 rfl ?_
          refine z_aload_n dL_law_904 rfl 2 rfl ?_
          obtain ⟨a145, e145, hP⟩ := hP
          have k145 := f_x2 a145 e145
          refine z_wts (fun hT144 _ => ?_)
          refine z_cVi (c := 12) (n := 0) (Y1 := Y_X12_credit) (st := []) e145 k145 z_cb12 (Nat.le_of_ble_eq_true rfl) rfl (s_X12_credit k145 hP) rfl ⟨z_dc_X12_credit, ⟨(Nat.le_of_ble_eq_true rfl), (Nat.le_of_ble_eq_true rfl)⟩, (Nat.le_of_ble_eq_true rfl)⟩ rfl zw_1782 zw_1783 zw_1784 zw_12 zw_1785 dL_law_905 (fun x_144 M_144 hP _ x144 => ?_)
          have k143 := x144.k (k := 11) hT144 k143
          have k145 := x144.k (k := 12) hT144 k145
          have f_x3 := x144.t (k := 24) hT144 f_x3
          refine z_pop dL_law_908 rfl ?_
          refine z_goto (tgt := 1049) dL_law_909 (by decide) ?_
          refine z_sub (lv' := [(0, z_O _), (1, z_O _), (2, z_O _), (3, z_O _), (4, z_I _)]) [0, 1, 2, 3, 4] rfl ?_
          exact v_L_law_1049 hl9 hkb (fun _ _ _ _ _ w0 w1 w2 hP => ih w0 w1 w2 hP) (z_trn e143 k143) (z_trn e145 k145) f_x3 hP
        · cases htg
          replace hP := hP.2.2.2.2.2.2.2.2.2.2.2.2.2.2.2.2.2.2.2.2.2.1 h24
          refine z_aload_n dL_law_912 rfl 1 rfl ?_
          obtain ⟨a147, e147, hP⟩ := hP
          have k147 := f_x1 a147 e147
          refine z_wts (fun hT146 _ => ?_)
          refine z_cVi (c := 11) (n := 0) (Y1 := Y_X11_packets) (st := []) e147 k147 z_cb11 (Nat.le_of_ble_eq_true rfl) rfl (s_X11_packets k147 hP) rfl ⟨z_dc_X11_packets, ⟨(Nat.le_of_ble_eq_true rfl), (Nat.le_of_ble_eq_true rfl)⟩, (Nat.le_of_ble_eq_true rfl)⟩ rfl zw_528 zw_529 zw_530 zw_1 zw_531 dL_law_913 (fun x_146 M_146 hP _ x146 => ?_)
          have k147 := x146.k (k := 11) hT146 k147
          have f_x2 := x146.t (k := 12) hT146 f_x2
          have f_x3 := x146.t (k := 24) hT146 f_x3
          refine z_pc (pc' := 916) rfl ?_
          refine z_pop dL_law_916 rfl ?_
          refine z_aload_n dL_law_917 rfl 2 rfl ?_
          obtain ⟨a149, e149, hP⟩ := hP
          have k149 := f_x2 a149 e149
          refine z_wts (fun hT148 _ => ?_)
          refine z_cVi (c := 12) (n := 0) (Y1 := Y_X12_packets) (st := []) e149 k149 z_cb12 (Nat.le_of_ble_eq_true rfl) rfl (s_X12_packets k149 hP) rfl ⟨z_dc_X12_packets, ⟨(Nat.le_of_ble_eq_true rfl), (Nat.le_of_ble_eq_true rfl)⟩, (Nat.le_of_ble_eq_true rfl)⟩ rfl zw_1786 zw_1787 zw_1788 zw_12 zw_1789 dL_law_918 (fun x_148 M_148 hP _ x148 => ?_)
          have k147 := x148.k (k := 11) hT148 k147
          have k149 := x148.k (k := 12) hT148 k149
          have f_x3 := x148.t (k := 24) hT148 f_x3
          refine z_pop dL_law_921 rfl ?_
          refine z_goto (tgt := 1049) dL_law_922 (by decide) ?_
          refine z_sub (lv' := [(0, z_O _), (1, z_O _), (2, z_O _), (3, z_O _), (4, z_I _)]) [0, 1, 2, 3, 4] rfl ?_
          exact v_L_law_1049 hl9 hkb (fun _ _ _ _ _ w0 w1 w2 hP => ih w0 w1 w2 hP) (z_trn e147 k147) (z_trn e149 k149) f_x3 hP
        · cases htg
          replace hP := hP.2.2.2.2.2.2.2.2.2.2.2.2.2.2.2.2.2.2.2.2.2.2.1 h24
          refine z_aload_n dL_law_925 rfl 1 rfl ?_
          refine z_aload_n dL_law_926 rfl 0 rfl ?_
          refine z_pc (pc' := 927) rfl ?_
          refine z_iload dL_law_927 4 rfl ?_
          refine z_iconst (v := 1) dL_law_929 (by decide) ?_
          refine z_iadd dL_law_930 ?_
          obtain ⟨i150, hP⟩ := hP
          refine z_sld hkb i150 dL_law_931 ?_
          refine z_aload_n dL_law_932 rfl 0 rfl ?_
          refine z_iload dL_law_933 4 rfl ?_
          refine z_pc (pc' := 935) rfl ?_
          refine z_iconst (v := 2) dL_law_935 (by decide) ?_
          refine z_iadd dL_law_936 ?_
          obtain ⟨i151, hP⟩ := hP
          refine z_sld hkb i151 dL_law_937 ?_
          refine z_aload_n dL_law_938 rfl 3 rfl ?_
          refine z_wts (fun hT152 _ => ?_)
          refine z_cSHi (hh := hh_L_packet) (n := 4) (Y1 := Y_L_packet) (st := []) rfl (s_L_packet hl9 f_x1 f_x3 hP) rfl ⟨z_dc_L_packet, ⟨(Nat.le_of_ble_eq_true rfl), (Nat.le_of_ble_eq_true rfl)⟩, (Nat.le_of_ble_eq_true rfl)⟩ rfl zw_1210 zw_1211 zw_0 zh_L_packet dL_law_939 (fun x_152 M_152 hP _ x152 => ?_)
          have f_x1 := x152.t (k := 11) hT152 f_x1
          have f_x2 := x152.t (k := 12) hT152 f_x2
          have f_x3 := x152.t (k := 24) hT152 f_x3
          refine z_istore (lv' := [(5, z_I _), (0, z_O _), (1, z_O _), (2, z_O _), (3, z_O _), (4, z_I _)]) dL_law_942 (Nat.le_of_ble_eq_true rfl) rfl ?_
          refine z_pc (pc' := 944) rfl ?_
          refine z_aload_n dL_law_944 rfl 3 rfl ?_
          refine z_aload_n dL_law_945 rfl 1 rfl ?_
          refine z_iload dL_law_946 5 rfl ?_
          refine z_iconst (v := 1) dL_law_948 (by decide) ?_
          refine z_iadd dL_law_949 ?_
          obtain ⟨i153, hP⟩ := hP
          refine z_sld hkb i153 dL_law_950 ?_
          refine z_pc (pc' := 951) rfl ?_
          refine z_aload_n dL_law_951 rfl 1 rfl ?_
          refine z_iload dL_law_952 5 rfl ?_
          refine z_iconst (v := 2) dL_law_954 (by decide) ?_
          refine z_iadd dL_law_955 ?_
          obtain ⟨i154, hP⟩ := hP
          refine z_sld hkb i154 dL_law_956 ?_
          obtain ⟨a156, e156, hP⟩ := hP
          have k156 := f_x2 a156 e156
          refine z_wts (fun hT155 _ => ?_)
          refine z_cVi (c := 12) (n := 2) (Y1 := Y_X12_packet) (st := []) e156 k156 z_cb12 (Nat.le_of_ble_eq_true rfl) rfl (s_X12_packet k156 hP) rfl ⟨z_dc_X12_packet, ⟨(Nat.le_of_ble_eq_true rfl), (Nat.le_of_ble_eq_true rfl)⟩, (Nat.le_of_ble_eq_true rfl)⟩ rfl zw_1790 zw_1791 zw_1792 zw_12 zw_1793 dL_law_957 (fun x_155 M_155 hP _ x155 => ?_)
          have f_x1 := x155.t (k := 11) hT155 f_x1
          have k156 := x155.k (k := 12) hT155 k156
          have f_x3 := x155.t (k := 24) hT155 f_x3
          refine z_pc (pc' := 960) rfl ?_
          refine z_istore (lv' := [(6, z_I _), (5, z_I _), (0, z_O _), (1, z_O _), (2, z_O _), (3, z_O _), (4, z_I _)]) dL_law_960 (Nat.le_of_ble_eq_true rfl) rfl ?_
          refine z_goto (tgt := 1049) dL_law_962 (by decide) ?_
          refine z_sub (lv' := [(0, z_O _), (1, z_O _), (2, z_O _), (3, z_O _), (4, z_I _)]) [2, 3, 4, 5, 6] rfl ?_
          exact v_L_law_1049 hl9 hkb (fun _ _ _ _ _ w0 w1 w2 hP => ih w0 w1 w2 hP) f_x1 (z_trn e156 k156) f_x3 hP
        · cases htg
          replace hP := hP.2.2.2.2.2.2.2.2.2.2.2.2.2.2.2.2.2.2.2.2.2.2.2.1 h24
          refine z_aload_n dL_law_965 rfl 1 rfl ?_
          refine z_aload_n dL_law_966 rfl 0 rfl ?_
          refine z_pc (pc' := 967) rfl ?_
          refine z_iload dL_law_967 4 rfl ?_
          refine z_iconst (v := 1) dL_law_969 (by decide) ?_
          refine z_iadd dL_law_970 ?_
          obtain ⟨i157, hP⟩ := hP
          refine z_sld hkb i157 dL_law_971 ?_
          refine z_aload_n dL_law_972 rfl 3 rfl ?_
          refine z_wts (fun hT158 _ => ?_)
          refine z_cSHi (hh := hh_L_count) (n := 3) (Y1 := Y_L_count) (st := []) rfl (s_L_count hl9 f_x1 f_x3 hP) rfl ⟨z_dc_L_count, ⟨(Nat.le_of_ble_eq_true rfl), (Nat.le_of_ble_eq_true rfl)⟩, (Nat.le_of_ble_eq_true rfl)⟩ rfl zw_1223 zw_1224 zw_0 zh_L_count dL_law_973 (fun x_158 M_158 hP _ x158 => ?_)
          have f_x1 := x158.t (k := 11) hT158 f_x1
          have f_x2 := x158.t (k := 12) hT158 f_x2
          have f_x3 := x158.t (k := 24) hT158 f_x3
          refine z_pc (pc' := 976) rfl ?_
          refine z_istore (lv' := [(5, z_I _), (0, z_O _), (1, z_O _), (2, z_O _), (3, z_O _), (4, z_I _)]) dL_law_976 (Nat.le_of_ble_eq_true rfl) rfl ?_
          refine z_aload_n dL_law_978 rfl 3 rfl ?_
          refine z_aload_n dL_law_979 rfl 1 rfl ?_
          refine z_iload dL_law_980 5 rfl ?_
          refine z_iconst (v := 1) dL_law_982 (by decide) ?_
          refine z_iadd dL_law_983 ?_
          refine z_pc (pc' := 984) rfl ?_
          obtain ⟨i159, hP⟩ := hP
          refine z_sld hkb i159 dL_law_984 ?_
          obtain ⟨a161, e161, hP⟩ := hP
          have k161 := f_x2 a161 e161
          refine z_wts (fun hT160 _ => ?_)
          refine z_cVi (c := 12) (n := 1) (Y1 := Y_X12_count) (st := []) e161 k161 z_cb12 (Nat.le_of_ble_eq_true rfl) rfl (s_X12_count k161 hP) rfl ⟨z_dc_X12_count, ⟨(Nat.le_of_ble_eq_true rfl), (Nat.le_of_ble_eq_true rfl)⟩, (Nat.le_of_ble_eq_true rfl)⟩ rfl zw_1794 zw_1795 zw_1796 zw_12 zw_1797 dL_law_985 (fun x_160 M_160 hP _ x160 => ?_)
          have f_x1 := x160.t (k := 11) hT160 f_x1
          have k161 := x160.k (k := 12) hT160 k161
          have f_x3 := x160.t (k := 24) hT160 f_x3
          refine z_istore (lv' := [(6, z_I _), (5, z_I _), (0, z_O _), (1, z_O _), (2, z_O _), (3, z_O _), (4, z_I _)]) dL_law_988 (Nat.le_of_ble_eq_true rfl) rfl ?_
          refine z_goto (tgt := 1049) dL_law_990 (by decide) ?_
          refine z_sub (lv' := [(0, z_O _), (1, z_O _), (2, z_O _), (3, z_O _), (4, z_I _)]) [2, 3, 4, 5, 6] rfl ?_
          exact v_L_law_1049 hl9 hkb (fun _ _ _ _ _ w0 w1 w2 hP => ih w0 w1 w2 hP) f_x1 (z_trn e161 k161) f_x3 hP
        · cases htg
          replace hP := hP.2.2.2.2.2.2.2.2.2.2.2.2.2.2.2.2.2.2.2.2.2.2.2.2.1 h24
          refine z_aload_n dL_law_993 rfl 1 rfl ?_
          refine z_aload_n dL_law_994 rfl 0 rfl ?_
          refine z_pc (pc' := 995) rfl ?_
          refine z_iload dL_law_995 4 rfl ?_
          refine z_iconst (v := 1) dL_law_997 (by decide) ?_
          refine z_iadd dL_law_998 ?_
          obtain ⟨i162, hP⟩ := hP
          refine z_sld hkb i162 dL_law_999 ?_
          refine z_aload_n dL_law_1000 rfl 3 rfl ?_
          refine z_wts (fun hT163 _ => ?_)
          refine z_cSHi (hh := hh_L_inFlightAnew) (n := 3) (Y1 := Y_L_inFlightAnew) (st := []) rfl (s_L_inFlightAnew hl9 f_x1 f_x3 hP) rfl ⟨z_dc_L_inFlightAnew, ⟨(Nat.le_of_ble_eq_true rfl), (Nat.le_of_ble_eq_true rfl)⟩, (Nat.le_of_ble_eq_true rfl)⟩ rfl zw_1230 zw_1231 zw_0 zh_L_inFlightAnew dL_law_1001 (fun x_163 M_163 hP _ x163 => ?_)
          have f_x1 := x163.t (k := 11) hT163 f_x1
          have f_x2 := x163.t (k := 12) hT163 f_x2
          have f_x3 := x163.t (k := 24) hT163 f_x3
          refine z_pc (pc' := 1004) rfl ?_
          refine z_istore (lv' := [(5, z_I _), (0, z_O _), (1, z_O _), (2, z_O _), (3, z_O _), (4, z_I _)]) dL_law_1004 (Nat.le_of_ble_eq_true rfl) rfl ?_
          refine z_aload_n dL_law_1006 rfl 3 rfl ?_
          refine z_aload_n dL_law_1007 rfl 1 rfl ?_
          refine z_iload dL_law_1008 5 rfl ?_
          refine z_iconst (v := 1) dL_law_1010 (by decide) ?_
          refine z_iadd dL_law_1011 ?_
          refine z_pc (pc' := 1012) rfl ?_
          obtain ⟨i164, hP⟩ := hP
          refine z_sld hkb i164 dL_law_1012 ?_
          obtain ⟨a166, e166, hP⟩ := hP
          have k166 := f_x2 a166 e166
          refine z_wts (fun hT165 _ => ?_)
          refine z_cVi (c := 12) (n := 1) (Y1 := Y_X12_inFlightAnew) (st := []) e166 k166 z_cb12 (Nat.le_of_ble_eq_true rfl) rfl (s_X12_inFlightAnew k166 hP) rfl ⟨z_dc_X12_inFlightAnew, ⟨(Nat.le_of_ble_eq_true rfl), (Nat.le_of_ble_eq_true rfl)⟩, (Nat.le_of_ble_eq_true rfl)⟩ rfl zw_1798 zw_1799 zw_1800 zw_12 zw_1801 dL_law_1013 (fun x_165 M_165 hP _ x165 => ?_)
          have f_x1 := x165.t (k := 11) hT165 f_x1
          have k166 := x165.k (k := 12) hT165 k166
          have f_x3 := x165.t (k := 24) hT165 f_x3
          refine z_istore (lv' := [(6, z_I _), (5, z_I _), (0, z_O _), (1, z_O _), (2, z_O _), (3, z_O _), (4, z_I _)]) dL_law_1016 (Nat.le_of_ble_eq_true rfl) rfl ?_
          refine z_goto (tgt := 1049) dL_law_1018 (by decide) ?_
          refine z_sub (lv' := [(0, z_O _), (1, z_O _), (2, z_O _), (3, z_O _), (4, z_I _)]) [2, 3, 4, 5, 6] rfl ?_
          exact v_L_law_1049 hl9 hkb (fun _ _ _ _ _ w0 w1 w2 hP => ih w0 w1 w2 hP) f_x1 (z_trn e166 k166) f_x3 hP
        · cases htg
          replace hP := hP.2.2.2.2.2.2.2.2.2.2.2.2.2.2.2.2.2.2.2.2.2.2.2.2.2.1 h24
          refine z_aload_n dL_law_1021 rfl 1 rfl ?_
          refine z_aload_n dL_law_1022 rfl 0 rfl ?_
          refine z_pc (pc' := 1023) rfl ?_
          refine z_iload dL_law_1023 4 rfl ?_
          refine z_iconst (v := 1) dL_law_1025 (by decide) ?_
          refine z_iadd dL_law_1026 ?_
          obtain ⟨i167, hP⟩ := hP
          refine z_sld hkb i167 dL_law_1027 ?_
          refine z_aload_n dL_law_1028 rfl 3 rfl ?_
          refine z_wts (fun hT168 _ => ?_)
          refine z_cSHi (hh := hh_L_gotAnew) (n := 3) (Y1 := Y_L_gotAnew) (st := []) rfl (s_L_gotAnew hl9 f_x1 f_x3 hP) rfl ⟨z_dc_L_gotAnew, ⟨(Nat.le_of_ble_eq_true rfl), (Nat.le_of_ble_eq_true rfl)⟩, (Nat.le_of_ble_eq_true rfl)⟩ rfl zw_1237 zw_1238 zw_0 zh_L_gotAnew dL_law_1029 (fun x_168 M_168 hP _ x168 => ?_)
          have f_x1 := x168.t (k := 11) hT168 f_x1
          have f_x2 := x168.t (k := 12) hT168 f_x2
          have f_x3 := x168.t (k := 24) hT168 f_x3
          refine z_pc (pc' := 1032) rfl ?_
          refine z_istore (lv' := [(5, z_I _), (0, z_O _), (1, z_O _), (2, z_O _), (3, z_O _), (4, z_I _)]) dL_law_1032 (Nat.le_of_ble_eq_true rfl) rfl ?_
          refine z_aload_n dL_law_1034 rfl 3 rfl ?_
          refine z_aload_n dL_law_1035 rfl 1 rfl ?_
          refine z_iload dL_law_1036 5 rfl ?_
          refine z_iconst (v := 1) dL_law_1038 (by decide) ?_
          refine z_iadd dL_law_1039 ?_
          refine z_pc (pc' := 1040) rfl ?_
          obtain ⟨i169, hP⟩ := hP
          refine z_sld hkb i169 dL_law_1040 ?_
          obtain ⟨a171, e171, hP⟩ := hP
          have k171 := f_x2 a171 e171
          refine z_wts (fun hT170 _ => ?_)
          refine z_cVi (c := 12) (n := 1) (Y1 := Y_X12_gotAnew) (st := []) e171 k171 z_cb12 (Nat.le_of_ble_eq_true rfl) rfl (s_X12_gotAnew k171 hP) rfl ⟨z_dc_X12_gotAnew, ⟨(Nat.le_of_ble_eq_true rfl), (Nat.le_of_ble_eq_true rfl)⟩, (Nat.le_of_ble_eq_true rfl)⟩ rfl zw_1802 zw_1803 zw_1804 zw_12 zw_1805 dL_law_1041 (fun x_170 M_170 hP _ x170 => ?_)
          have f_x1 := x170.t (k := 11) hT170 f_x1
          have k171 := x170.k (k := 12) hT170 k171
          have f_x3 := x170.t (k := 24) hT170 f_x3
          refine z_istore (lv' := [(6, z_I _), (5, z_I _), (0, z_O _), (1, z_O _), (2, z_O _), (3, z_O _), (4, z_I _)]) dL_law_1044 (Nat.le_of_ble_eq_true rfl) rfl ?_
          refine z_goto (tgt := 1049) dL_law_1046 (by decide) ?_
          refine z_sub (lv' := [(0, z_O _), (1, z_O _), (2, z_O _), (3, z_O _), (4, z_I _)]) [2, 3, 4, 5, 6] rfl ?_
          exact v_L_law_1049 hl9 hkb (fun _ _ _ _ _ w0 w1 w2 hP => ih w0 w1 w2 hP) f_x1 (z_trn e171 k171) f_x3 hP
      · replace hP := hP.2.2.2.2.2.2.2.2.2.2.2.2.2.2.2.2.2.2.2.2.2.2.2.2.2.2 h24
        refine z_sub (lv' := [(0, z_O _), (1, z_O _), (2, z_O _), (3, z_O _), (4, z_I _)]) [0, 1, 2, 3, 4] rfl ?_
        exact v_L_law_1049 hl9 hkb (fun _ _ _ _ _ w0 w1 w2 hP => ih w0 w1 w2 hP) f_x1 f_x2 f_x3 hP
set_option maxRecDepth 100000 in
set_option maxHeartbeats 4000000 in
theorem s_L_law {G : z_G} {M : z_Mem} {a L : Nat} {xs : Nat → Int32} {Post : Int32 → z_Mem → Prop} (hl9 : G.1.stackTraces = false) (hkb : z_ki M a = 0) (hP : P_L_law L xs M Post) : z_V G Y_L_law (z_XL a L xs) M (z_QM G M (z_PB Post)) M 0 [(0, z_O (some a))] [] := by
  unfold P_L_law at hP
  obtain ⟨r172, hP⟩ := hP
  refine z_wts (fun hT172 _ => ?_)
  refine z_newo (c := 11) z_cb11 (Nat.le_of_ble_eq_true rfl) rfl z_df11 zw_22 zw_23 zw_1 r172 dL_law_0 (fun x172 k172 => ?_)
  refine z_nm (fun M_173 g_173 => ?_)
  replace hP := hP M_173 g_173
  have x172 := z_xe g_173 x172
  have k172 := z_xk g_173 k172
  refine z_dup dL_law_3 rfl ?_
  refine z_wts (fun hT174 _ => ?_)
  refine z_cIv (n := 0) (Y1 := Y_X11_init) (st := [z_O _]) rfl (s_X11_init k172 hP) rfl rfl rfl ⟨z_dc_X11_init, ⟨(Nat.le_of_ble_eq_true rfl), (Nat.le_of_ble_eq_true rfl)⟩, (Nat.le_of_ble_eq_true rfl)⟩ rfl zw_24 zw_25 zw_1 zw_26 dL_law_4 (fun M_174 hP _ x174 => ?_)
  have k172 := x174.k (k := 11) hT174 k172
  refine z_astore_n (lv' := [(1, z_O _), (0, z_O _)]) dL_law_7 rfl (Nat.le_of_ble_eq_true rfl) rfl ?_
  obtain ⟨r175, hP⟩ := hP
  refine z_wts (fun hT175 _ => ?_)
  refine z_newo (c := 12) z_cb12 (Nat.le_of_ble_eq_true rfl) rfl z_df12 zw_1247 zw_1248 zw_12 r175 dL_law_8 (fun x175 k175 => ?_)
  refine z_nm (fun M_176 g_176 => ?_)
  replace hP := hP M_176 g_176
  have x175 := z_xe g_176 x175
  have k175 := z_xk g_176 k175
  have k172 := x175.k (k := 11) hT175 k172
  refine z_dup dL_law_11 rfl ?_
  refine z_pc (pc' := 12) rfl ?_
  refine z_wts (fun hT177 _ => ?_)
  refine z_cIv (n := 0) (Y1 := Y_X12_init) (st := [z_O _]) rfl (s_X12_init k175 hP) rfl rfl rfl ⟨z_dc_X12_init, ⟨(Nat.le_of_ble_eq_true rfl), (Nat.le_of_ble_eq_true rfl)⟩, (Nat.le_of_ble_eq_true rfl)⟩ rfl zw_1249 zw_1250 zw_12 zw_1251 dL_law_12 (fun M_177 hP _ x177 => ?_)
  have k172 := x177.k (k := 11) hT177 k172
  have k175 := x177.k (k := 12) hT177 k175
  refine z_astore_n (lv' := [(2, z_O _), (1, z_O _), (0, z_O _)]) dL_law_15 rfl (Nat.le_of_ble_eq_true rfl) rfl ?_
  refine z_iconst (v := 1) dL_law_16 (by decide) ?_
  obtain ⟨r178, hP⟩ := hP
  refine z_wts (fun hT178 _ => ?_)
  refine z_newa (t := 25) (N := 1) (Or.inr (Or.inr ⟨rfl, rfl⟩)) zw_1806 rfl (Nat.le_of_ble_eq_true rfl) r178 dL_law_17 (fun x178 k178 => ?_)
  refine z_nm (fun M_179 g_179 => ?_)
  replace hP := hP M_179 g_179
  have x178 := z_xe g_179 x178
  have k178 := z_xk g_179 k178
  have k175 := x178.k (k := 12) hT178 k175
  have k172 := x178.k (k := 11) hT178 k172
  refine z_astore_n (lv' := [(3, z_O _), (2, z_O _), (1, z_O _), (0, z_O _)]) dL_law_19 rfl (Nat.le_of_ble_eq_true rfl) rfl ?_
  refine z_iconst (v := 0) dL_law_20 (by decide) ?_
  refine z_pc (pc' := 21) rfl ?_
  refine z_istore (lv' := [(4, z_I _), (3, z_O _), (2, z_O _), (1, z_O _), (0, z_O _)]) dL_law_21 (Nat.le_of_ble_eq_true rfl) rfl ?_
  obtain ⟨n180, hP⟩ := hP
  refine z_sub (lv' := [(0, z_O _), (1, z_O _), (2, z_O _), (3, z_O _), (4, z_I _)]) [4, 3, 2, 1, 0] rfl ?_
  exact v_L_law_23 hl9 hkb  n180 (z_trn rfl k172) (z_trn rfl k175) (z_trn rfl k178) hP
