abbrev Y_L_setPath : z_Y := (yL_setPath, cL_setPath, 7, (some .int), 8, 138)
theorem z_dc_L_setPath : Y_L_setPath.1.cls ≠ "java/lang/invoke/MethodHandle" ∧ Y_L_setPath.1.cls ≠ "java/lang/invoke/VarHandle" ∧ (parseMethodDescriptor Y_L_setPath.1.desc).map (fun d => d.parameters.length) = some 6 := by decide +kernel
abbrev Y_L_setUp : z_Y := (yL_setUp, cL_setUp, 5, (some .int), 8, 134)
theorem z_dc_L_setUp : Y_L_setUp.1.cls ≠ "java/lang/invoke/MethodHandle" ∧ Y_L_setUp.1.cls ≠ "java/lang/invoke/VarHandle" ∧ (parseMethodDescriptor Y_L_setUp.1.desc).map (fun d => d.parameters.length) = some 4 := by decide +kernel
abbrev Y_L_lose : z_Y := (yL_lose, cL_lose, 5, (some .int), 8, 136)
theorem z_dc_L_lose : Y_L_lose.1.cls ≠ "java/lang/invoke/MethodHandle" ∧ Y_L_lose.1.cls ≠ "java/lang/invoke/VarHandle" ∧ (parseMethodDescriptor Y_L_lose.1.desc).map (fun d => d.parameters.length) = some 4 := by decide +kernel
abbrev Y_L_late : z_Y := (yL_late, cL_late, 5, (some .int), 8, 136)
theorem z_dc_L_late : Y_L_late.1.cls ≠ "java/lang/invoke/MethodHandle" ∧ Y_L_late.1.cls ≠ "java/lang/invoke/VarHandle" ∧ (parseMethodDescriptor Y_L_late.1.desc).map (fun d => d.parameters.length) = some 4 := by decide +kernel
abbrev Y_L_foreign : z_Y := (yL_foreign, cL_foreign, 5, (some .int), 8, 134)
theorem z_dc_L_foreign : Y_L_foreign.1.cls ≠ "java/lang/invoke/MethodHandle" ∧ Y_L_foreign.1.cls ≠ "java/lang/invoke/VarHandle" ∧ (parseMethodDescriptor Y_L_foreign.1.desc).map (fun d => d.parameters.length) = some 4 := by decide +kernel
abbrev Y_L_read : z_Y := (yL_read, cL_read, 5, (some .int), 8, 134)
theorem z_dc_L_read : Y_L_read.1.cls ≠ "java/lang/invoke/MethodHandle" ∧ Y_L_read.1.cls ≠ "java/lang/invoke/VarHandle" ∧ (parseMethodDescriptor Y_L_read.1.desc).map (fun d => d.parameters.length) = some 4 := by decide +kernel
abbrev Y_L_connect : z_Y := (yL_connect, cL_connect, 3, (some .int), 8, 133)
theorem z_dc_L_connect : Y_L_connect.1.cls ≠ "java/lang/invoke/MethodHandle" ∧ Y_L_connect.1.cls ≠ "java/lang/invoke/VarHandle" ∧ (parseMethodDescriptor Y_L_connect.1.desc).map (fun d => d.parameters.length) = some 2 := by decide +kernel
abbrev Y_L_write : z_Y := (yL_write, cL_write, 5, (some .int), 8, 135)
theorem z_dc_L_write : Y_L_write.1.cls ≠ "java/lang/invoke/MethodHandle" ∧ Y_L_write.1.cls ≠ "java/lang/invoke/VarHandle" ∧ (parseMethodDescriptor Y_L_write.1.desc).map (fun d => d.parameters.length) = some 4 := by decide +kernel
abbrev Y_L_setWay : z_Y := (yL_setWay, cL_setWay, 5, (some .int), 8, 136)
theorem z_dc_L_setWay : Y_L_setWay.1.cls ≠ "java/lang/invoke/MethodHandle" ∧ Y_L_setWay.1.cls ≠ "java/lang/invoke/VarHandle" ∧ (parseMethodDescriptor Y_L_setWay.1.desc).map (fun d => d.parameters.length) = some 4 := by decide +kernel
abbrev Y_L_check : z_Y := (yL_check, cL_check, 3, (some .int), 8, 131)
theorem z_dc_L_check : Y_L_check.1.cls ≠ "java/lang/invoke/MethodHandle" ∧ Y_L_check.1.cls ≠ "java/lang/invoke/VarHandle" ∧ (parseMethodDescriptor Y_L_check.1.desc).map (fun d => d.parameters.length) = some 2 := by decide +kernel
abbrev Y_L_use : z_Y := (yL_use, cL_use, 4, (some .int), 8, 134)
theorem z_dc_L_use : Y_L_use.1.cls ≠ "java/lang/invoke/MethodHandle" ∧ Y_L_use.1.cls ≠ "java/lang/invoke/VarHandle" ∧ (parseMethodDescriptor Y_L_use.1.desc).map (fun d => d.parameters.length) = some 3 := by decide +kernel
abbrev Y_L_changeKey : z_Y := (yL_changeKey, cL_changeKey, 3, (some .int), 8, 130)
theorem z_dc_L_changeKey : Y_L_changeKey.1.cls ≠ "java/lang/invoke/MethodHandle" ∧ Y_L_changeKey.1.cls ≠ "java/lang/invoke/VarHandle" ∧ (parseMethodDescriptor Y_L_changeKey.1.desc).map (fun d => d.parameters.length) = some 2 := by decide +kernel
abbrev Y_L_close : z_Y := (yL_close, cL_close, 2, (some .int), 8, 130)
theorem z_dc_L_close : Y_L_close.1.cls ≠ "java/lang/invoke/MethodHandle" ∧ Y_L_close.1.cls ≠ "java/lang/invoke/VarHandle" ∧ (parseMethodDescriptor Y_L_close.1.desc).map (fun d => d.parameters.length) = some 1 := by decide +kernel
abbrev Y_L_tick : z_Y := (yL_tick, cL_tick, 4, (some .int), 9, 199)
theorem z_dc_L_tick : Y_L_tick.1.cls ≠ "java/lang/invoke/MethodHandle" ∧ Y_L_tick.1.cls ≠ "java/lang/invoke/VarHandle" ∧ (parseMethodDescriptor Y_L_tick.1.desc).map (fun d => d.parameters.length) = some 3 := by decide +kernel
abbrev Y_L_state : z_Y := (yL_state, cL_state, 4, (some .int), 8, 133)
theorem z_dc_L_state : Y_L_state.1.cls ≠ "java/lang/invoke/MethodHandle" ∧ Y_L_state.1.cls ≠ "java/lang/invoke/VarHandle" ∧ (parseMethodDescriptor Y_L_state.1.desc).map (fun d => d.parameters.length) = some 3 := by decide +kernel
abbrev Y_L_path : z_Y := (yL_path, cL_path, 5, (some .int), 8, 135)
theorem z_dc_L_path : Y_L_path.1.cls ≠ "java/lang/invoke/MethodHandle" ∧ Y_L_path.1.cls ≠ "java/lang/invoke/VarHandle" ∧ (parseMethodDescriptor Y_L_path.1.desc).map (fun d => d.parameters.length) = some 4 := by decide +kernel
abbrev Y_L_stream : z_Y := (yL_stream, cL_stream, 5, (some .int), 8, 135)
theorem z_dc_L_stream : Y_L_stream.1.cls ≠ "java/lang/invoke/MethodHandle" ∧ Y_L_stream.1.cls ≠ "java/lang/invoke/VarHandle" ∧ (parseMethodDescriptor Y_L_stream.1.desc).map (fun d => d.parameters.length) = some 4 := by decide +kernel
abbrev Y_L_packet : z_Y := (yL_packet, cL_packet, 5, (some .int), 8, 135)
theorem z_dc_L_packet : Y_L_packet.1.cls ≠ "java/lang/invoke/MethodHandle" ∧ Y_L_packet.1.cls ≠ "java/lang/invoke/VarHandle" ∧ (parseMethodDescriptor Y_L_packet.1.desc).map (fun d => d.parameters.length) = some 4 := by decide +kernel
abbrev Y_L_count : z_Y := (yL_count, cL_count, 4, (some .int), 8, 135)
theorem z_dc_L_count : Y_L_count.1.cls ≠ "java/lang/invoke/MethodHandle" ∧ Y_L_count.1.cls ≠ "java/lang/invoke/VarHandle" ∧ (parseMethodDescriptor Y_L_count.1.desc).map (fun d => d.parameters.length) = some 3 := by decide +kernel
abbrev Y_L_inFlightAnew : z_Y := (yL_inFlightAnew, cL_inFlightAnew, 4, (some .int), 8, 134)
theorem z_dc_L_inFlightAnew : Y_L_inFlightAnew.1.cls ≠ "java/lang/invoke/MethodHandle" ∧ Y_L_inFlightAnew.1.cls ≠ "java/lang/invoke/VarHandle" ∧ (parseMethodDescriptor Y_L_inFlightAnew.1.desc).map (fun d => d.parameters.length) = some 3 := by decide +kernel
abbrev Y_L_gotAnew : z_Y := (yL_gotAnew, cL_gotAnew, 4, (some .int), 8, 133)
theorem z_dc_L_gotAnew : Y_L_gotAnew.1.cls ≠ "java/lang/invoke/MethodHandle" ∧ Y_L_gotAnew.1.cls ≠ "java/lang/invoke/VarHandle" ∧ (parseMethodDescriptor Y_L_gotAnew.1.desc).map (fun d => d.parameters.length) = some 3 := by decide +kernel
abbrev Y_L_law : z_Y := (x, code, 7, ret, 10, 222)
theorem z_dc_L_law : Y_L_law.1.cls ≠ "java/lang/invoke/MethodHandle" ∧ Y_L_law.1.cls ≠ "java/lang/invoke/VarHandle" ∧ (parseMethodDescriptor Y_L_law.1.desc).map (fun d => d.parameters.length) = some 1 := by decide +kernel
def hh_L_setPath : z_hp := [(0, 11, 14, 13), (0, 11, 18, 15)] 
theorem zh_L_setPath : Cond.codeWith Y_L_setPath.1 Y_L_setPath.2.1 Y_L_setPath.2.2.1 Y_L_setPath.2.2.2.1 hh_L_setPath ∈ z_ws := z_mem zx_534 rfl
theorem z_hok_L_setPath : z_hok Y_L_setPath.1.cls hh_L_setPath := by
  intro h hh
  rcases List.mem_cons.mp hh with rfl | hh
  · exact ⟨by decide, zw_535, List.mem_of_getElem? (i := 0) rfl⟩
  rcases List.mem_cons.mp hh with rfl | hh
  · exact ⟨by decide, zw_536, List.mem_of_getElem? (i := 1) rfl⟩
  cases hh
def hh_L_setUp : z_hp := [(0, 17, 20, 13)] 
theorem zh_L_setUp : Cond.codeWith Y_L_setUp.1 Y_L_setUp.2.1 Y_L_setUp.2.2.1 Y_L_setUp.2.2.2.1 hh_L_setUp ∈ z_ws := z_mem zx_637 rfl
theorem z_hok_L_setUp : z_hok Y_L_setUp.1.cls hh_L_setUp := by
  intro h hh
  rcases List.mem_cons.mp hh with rfl | hh
  · exact ⟨by decide, zw_535, List.mem_of_getElem? (i := 0) rfl⟩
  cases hh
def hh_L_lose : z_hp := [(0, 7, 10, 13), (0, 7, 14, 15)] 
theorem zh_L_lose : Cond.codeWith Y_L_lose.1 Y_L_lose.2.1 Y_L_lose.2.2.1 Y_L_lose.2.2.2.1 hh_L_lose ∈ z_ws := z_mem zx_644 rfl
theorem z_hok_L_lose : z_hok Y_L_lose.1.cls hh_L_lose := by
  intro h hh
  rcases List.mem_cons.mp hh with rfl | hh
  · exact ⟨by decide, zw_535, List.mem_of_getElem? (i := 0) rfl⟩
  rcases List.mem_cons.mp hh with rfl | hh
  · exact ⟨by decide, zw_536, List.mem_of_getElem? (i := 1) rfl⟩
  cases hh
def hh_L_late : z_hp := [(0, 7, 10, 13), (0, 7, 14, 15)] 
theorem zh_L_late : Cond.codeWith Y_L_late.1 Y_L_late.2.1 Y_L_late.2.2.1 Y_L_late.2.2.2.1 hh_L_late ∈ z_ws := z_mem zx_651 rfl
theorem z_hok_L_late : z_hok Y_L_late.1.cls hh_L_late := by
  intro h hh
  rcases List.mem_cons.mp hh with rfl | hh
  · exact ⟨by decide, zw_535, List.mem_of_getElem? (i := 0) rfl⟩
  rcases List.mem_cons.mp hh with rfl | hh
  · exact ⟨by decide, zw_536, List.mem_of_getElem? (i := 1) rfl⟩
  cases hh
def hh_L_foreign : z_hp := [(0, 10, 13, 13), (0, 10, 17, 15)] 
theorem zh_L_foreign : Cond.codeWith Y_L_foreign.1 Y_L_foreign.2.1 Y_L_foreign.2.2.1 Y_L_foreign.2.2.2.1 hh_L_foreign ∈ z_ws := z_mem zx_658 rfl
theorem z_hok_L_foreign : z_hok Y_L_foreign.1.cls hh_L_foreign := by
  intro h hh
  rcases List.mem_cons.mp hh with rfl | hh
  · exact ⟨by decide, zw_535, List.mem_of_getElem? (i := 0) rfl⟩
  rcases List.mem_cons.mp hh with rfl | hh
  · exact ⟨by decide, zw_536, List.mem_of_getElem? (i := 1) rfl⟩
  cases hh
def hh_L_read : z_hp := [(0, 10, 13, 13), (0, 10, 17, 15)] 
theorem zh_L_read : Cond.codeWith Y_L_read.1 Y_L_read.2.1 Y_L_read.2.2.1 Y_L_read.2.2.2.1 hh_L_read ∈ z_ws := z_mem zx_678 rfl
theorem z_hok_L_read : z_hok Y_L_read.1.cls hh_L_read := by
  intro h hh
  rcases List.mem_cons.mp hh with rfl | hh
  · exact ⟨by decide, zw_535, List.mem_of_getElem? (i := 0) rfl⟩
  rcases List.mem_cons.mp hh with rfl | hh
  · exact ⟨by decide, zw_536, List.mem_of_getElem? (i := 1) rfl⟩
  cases hh
def hh_L_connect : z_hp := [(0, 5, 8, 15), (0, 5, 11, 40)] 
theorem zh_L_connect : Cond.codeWith Y_L_connect.1 Y_L_connect.2.1 Y_L_connect.2.2.1 Y_L_connect.2.2.2.1 hh_L_connect ∈ z_ws := z_mem zx_759 rfl
theorem z_hok_L_connect : z_hok Y_L_connect.1.cls hh_L_connect := by
  intro h hh
  rcases List.mem_cons.mp hh with rfl | hh
  · exact ⟨by decide, zw_536, List.mem_of_getElem? (i := 1) rfl⟩
  rcases List.mem_cons.mp hh with rfl | hh
  · exact ⟨by decide, zw_760, List.mem_of_getElem? (i := 2) rfl⟩
  cases hh
def hh_L_write : z_hp := [(0, 10, 13, 13), (0, 10, 17, 15), (0, 10, 21, 40)] 
theorem zh_L_write : Cond.codeWith Y_L_write.1 Y_L_write.2.1 Y_L_write.2.2.1 Y_L_write.2.2.2.1 hh_L_write ∈ z_ws := z_mem zx_805 rfl
theorem z_hok_L_write : z_hok Y_L_write.1.cls hh_L_write := by
  intro h hh
  rcases List.mem_cons.mp hh with rfl | hh
  · exact ⟨by decide, zw_535, List.mem_of_getElem? (i := 0) rfl⟩
  rcases List.mem_cons.mp hh with rfl | hh
  · exact ⟨by decide, zw_536, List.mem_of_getElem? (i := 1) rfl⟩
  rcases List.mem_cons.mp hh with rfl | hh
  · exact ⟨by decide, zw_760, List.mem_of_getElem? (i := 2) rfl⟩
  cases hh
def hh_L_setWay : z_hp := [(0, 10, 13, 13), (0, 10, 17, 15)] 
theorem zh_L_setWay : Cond.codeWith Y_L_setWay.1 Y_L_setWay.2.1 Y_L_setWay.2.2.1 Y_L_setWay.2.2.2.1 hh_L_setWay ∈ z_ws := z_mem zx_812 rfl
theorem z_hok_L_setWay : z_hok Y_L_setWay.1.cls hh_L_setWay := by
  intro h hh
  rcases List.mem_cons.mp hh with rfl | hh
  · exact ⟨by decide, zw_535, List.mem_of_getElem? (i := 0) rfl⟩
  rcases List.mem_cons.mp hh with rfl | hh
  · exact ⟨by decide, zw_536, List.mem_of_getElem? (i := 1) rfl⟩
  cases hh
def hh_L_check : z_hp := [(0, 5, 8, 13), (0, 5, 11, 40)] 
theorem zh_L_check : Cond.codeWith Y_L_check.1 Y_L_check.2.1 Y_L_check.2.2.1 Y_L_check.2.2.2.1 hh_L_check ∈ z_ws := z_mem zx_823 rfl
theorem z_hok_L_check : z_hok Y_L_check.1.cls hh_L_check := by
  intro h hh
  rcases List.mem_cons.mp hh with rfl | hh
  · exact ⟨by decide, zw_535, List.mem_of_getElem? (i := 0) rfl⟩
  rcases List.mem_cons.mp hh with rfl | hh
  · exact ⟨by decide, zw_760, List.mem_of_getElem? (i := 2) rfl⟩
  cases hh
def hh_L_use : z_hp := [(0, 9, 12, 15), (0, 9, 15, 40)] 
theorem zh_L_use : Cond.codeWith Y_L_use.1 Y_L_use.2.1 Y_L_use.2.2.1 Y_L_use.2.2.2.1 hh_L_use ∈ z_ws := z_mem zx_833 rfl
theorem z_hok_L_use : z_hok Y_L_use.1.cls hh_L_use := by
  intro h hh
  rcases List.mem_cons.mp hh with rfl | hh
  · exact ⟨by decide, zw_536, List.mem_of_getElem? (i := 1) rfl⟩
  rcases List.mem_cons.mp hh with rfl | hh
  · exact ⟨by decide, zw_760, List.mem_of_getElem? (i := 2) rfl⟩
  cases hh
def hh_L_changeKey : z_hp := [(0, 8, 11, 40)] 
theorem zh_L_changeKey : Cond.codeWith Y_L_changeKey.1 Y_L_changeKey.2.1 Y_L_changeKey.2.2.1 Y_L_changeKey.2.2.2.1 hh_L_changeKey ∈ z_ws := z_mem zx_840 rfl
theorem z_hok_L_changeKey : z_hok Y_L_changeKey.1.cls hh_L_changeKey := by
  intro h hh
  rcases List.mem_cons.mp hh with rfl | hh
  · exact ⟨by decide, zw_760, List.mem_of_getElem? (i := 2) rfl⟩
  cases hh
def hh_L_close : z_hp := [(0, 4, 7, 40)] 
theorem zh_L_close : Cond.codeWith Y_L_close.1 Y_L_close.2.1 Y_L_close.2.2.1 Y_L_close.2.2.2.1 hh_L_close ∈ z_ws := z_mem zx_858 rfl
theorem z_hok_L_close : z_hok Y_L_close.1.cls hh_L_close := by
  intro h hh
  rcases List.mem_cons.mp hh with rfl | hh
  · exact ⟨by decide, zw_760, List.mem_of_getElem? (i := 2) rfl⟩
  cases hh
def hh_L_tick : z_hp := [(0, 9, 12, 15), (0, 9, 15, 40)] 
theorem zh_L_tick : Cond.codeWith Y_L_tick.1 Y_L_tick.2.1 Y_L_tick.2.2.1 Y_L_tick.2.2.2.1 hh_L_tick ∈ z_ws := z_mem zx_869 rfl
theorem z_hok_L_tick : z_hok Y_L_tick.1.cls hh_L_tick := by
  intro h hh
  rcases List.mem_cons.mp hh with rfl | hh
  · exact ⟨by decide, zw_536, List.mem_of_getElem? (i := 1) rfl⟩
  rcases List.mem_cons.mp hh with rfl | hh
  · exact ⟨by decide, zw_760, List.mem_of_getElem? (i := 2) rfl⟩
  cases hh
def hh_L_state : z_hp := [(0, 9, 12, 15)] 
theorem zh_L_state : Cond.codeWith Y_L_state.1 Y_L_state.2.1 Y_L_state.2.2.1 Y_L_state.2.2.2.1 hh_L_state ∈ z_ws := z_mem zx_1188 rfl
theorem z_hok_L_state : z_hok Y_L_state.1.cls hh_L_state := by
  intro h hh
  rcases List.mem_cons.mp hh with rfl | hh
  · exact ⟨by decide, zw_536, List.mem_of_getElem? (i := 1) rfl⟩
  cases hh
def hh_L_path : z_hp := [(0, 10, 13, 13), (0, 10, 17, 15)] 
theorem zh_L_path : Cond.codeWith Y_L_path.1 Y_L_path.2.1 Y_L_path.2.2.1 Y_L_path.2.2.2.1 hh_L_path ∈ z_ws := z_mem zx_1195 rfl
theorem z_hok_L_path : z_hok Y_L_path.1.cls hh_L_path := by
  intro h hh
  rcases List.mem_cons.mp hh with rfl | hh
  · exact ⟨by decide, zw_535, List.mem_of_getElem? (i := 0) rfl⟩
  rcases List.mem_cons.mp hh with rfl | hh
  · exact ⟨by decide, zw_536, List.mem_of_getElem? (i := 1) rfl⟩
  cases hh
def hh_L_stream : z_hp := [(0, 10, 13, 13), (0, 10, 17, 15)] 
theorem zh_L_stream : Cond.codeWith Y_L_stream.1 Y_L_stream.2.1 Y_L_stream.2.2.1 Y_L_stream.2.2.2.1 hh_L_stream ∈ z_ws := z_mem zx_1205 rfl
theorem z_hok_L_stream : z_hok Y_L_stream.1.cls hh_L_stream := by
  intro h hh
  rcases List.mem_cons.mp hh with rfl | hh
  · exact ⟨by decide, zw_535, List.mem_of_getElem? (i := 0) rfl⟩
  rcases List.mem_cons.mp hh with rfl | hh
  · exact ⟨by decide, zw_536, List.mem_of_getElem? (i := 1) rfl⟩
  cases hh
def hh_L_packet : z_hp := [(0, 10, 13, 13), (0, 10, 17, 15)] 
theorem zh_L_packet : Cond.codeWith Y_L_packet.1 Y_L_packet.2.1 Y_L_packet.2.2.1 Y_L_packet.2.2.2.1 hh_L_packet ∈ z_ws := z_mem zx_1212 rfl
theorem z_hok_L_packet : z_hok Y_L_packet.1.cls hh_L_packet := by
  intro h hh
  rcases List.mem_cons.mp hh with rfl | hh
  · exact ⟨by decide, zw_535, List.mem_of_getElem? (i := 0) rfl⟩
  rcases List.mem_cons.mp hh with rfl | hh
  · exact ⟨by decide, zw_536, List.mem_of_getElem? (i := 1) rfl⟩
  cases hh
def hh_L_count : z_hp := [(0, 9, 12, 15)] 
theorem zh_L_count : Cond.codeWith Y_L_count.1 Y_L_count.2.1 Y_L_count.2.2.1 Y_L_count.2.2.2.1 hh_L_count ∈ z_ws := z_mem zx_1225 rfl
theorem z_hok_L_count : z_hok Y_L_count.1.cls hh_L_count := by
  intro h hh
  rcases List.mem_cons.mp hh with rfl | hh
  · exact ⟨by decide, zw_536, List.mem_of_getElem? (i := 1) rfl⟩
  cases hh
def hh_L_inFlightAnew : z_hp := [(0, 9, 12, 13)] 
theorem zh_L_inFlightAnew : Cond.codeWith Y_L_inFlightAnew.1 Y_L_inFlightAnew.2.1 Y_L_inFlightAnew.2.2.1 Y_L_inFlightAnew.2.2.2.1 hh_L_inFlightAnew ∈ z_ws := z_mem zx_1232 rfl
theorem z_hok_L_inFlightAnew : z_hok Y_L_inFlightAnew.1.cls hh_L_inFlightAnew := by
  intro h hh
  rcases List.mem_cons.mp hh with rfl | hh
  · exact ⟨by decide, zw_535, List.mem_of_getElem? (i := 0) rfl⟩
  cases hh
def hh_L_gotAnew : z_hp := [(0, 9, 12, 13)] 
theorem zh_L_gotAnew : Cond.codeWith Y_L_gotAnew.1 Y_L_gotAnew.2.1 Y_L_gotAnew.2.2.1 Y_L_gotAnew.2.2.2.1 hh_L_gotAnew ∈ z_ws := z_mem zx_1239 rfl
theorem z_hok_L_gotAnew : z_hok Y_L_gotAnew.1.cls hh_L_gotAnew := by
  intro h hh
  rcases List.mem_cons.mp hh with rfl | hh
  · exact ⟨by decide, zw_535, List.mem_of_getElem? (i := 0) rfl⟩
  cases hh
set_option maxRecDepth 100000 in
def P_L_setPath (p1 : Option Nat) (p2 : Int32) (p3 : Int32) (p4 : Int32) (p5 : Int32) (p6 : Int32) (M : z_Mem) (Post : Int32 → z_Mem → Prop) : Prop := z_nn p1 fun a2 => (P_X11_setPath a2 p2 p3 p4 p5 p6 M (fun M_1 => Post 0 M_1) (fun E M_1 => (E = "java/lang/IndexOutOfBoundsException" ∧ Post 1 M_1) ∨ (E = "java/lang/IllegalArgumentException" ∧ Post 2 M_1)))
set_option maxRecDepth 100000 in
set_option maxHeartbeats 4000000 in
theorem s_L_setPath {G : z_G} {M : z_Mem} {p1 : Option Nat} {p2 : Int32} {p3 : Int32} {p4 : Int32} {p5 : Int32} {p6 : Int32} {Post : Int32 → z_Mem → Prop} (hl9 : G.1.stackTraces = false) (f_p1 : z_tr M p1 12) (hP : P_L_setPath p1 p2 p3 p4 p5 p6 M Post) : z_MtH G Y_L_setPath hh_L_setPath M [z_O p1, z_I p2, z_I p3, z_I p4, z_I p5, z_I p6] (z_PI Post) := by
  refine z_ofVH (by decide) (Nat.le_of_ble_eq_true rfl) ?_
  unfold P_L_setPath at hP
  refine z_sub (lv' := [(0, z_O p1), (1, z_I p2), (2, z_I p3), (3, z_I p4), (4, z_I p5), (5, z_I p6)]) [0, 1, 2, 3, 4, 5] rfl ?_
  refine z_aload_n dL_setPath_0 rfl 0 rfl ?_
  refine z_iload_n dL_setPath_1 rfl 1 rfl ?_
  refine z_iload_n dL_setPath_2 rfl 2 rfl ?_
  refine z_iload_n dL_setPath_3 rfl 3 rfl ?_
  refine z_iload dL_setPath_4 4 rfl ?_
  refine z_iload dL_setPath_6 5 rfl ?_
  refine z_pc (pc' := 8) rfl ?_
  obtain ⟨a2, e2, hP⟩ := hP
  have k2 := f_p1 a2 e2
  refine z_wts (fun hT1 _ => ?_)
  refine z_hV (hh := hh_L_setPath) (c := 11) (n := 5) (Y1 := Y_X11_setPath) (st := []) e2 k2 z_cb11 (Nat.le_of_ble_eq_true rfl) rfl (s_X11_setPath hl9 k2 hP) rfl ⟨z_dc_X11_setPath, ⟨(Nat.le_of_ble_eq_true rfl), (Nat.le_of_ble_eq_true rfl)⟩, (Nat.le_of_ble_eq_true rfl)⟩ rfl zw_537 zw_538 zw_539 zw_1 zw_540 dL_setPath_8 z_hok_L_setPath (fun E M_1 hE9 hP _ x1 => ?_) (fun r_1 M_1 hP _ x1 => ?_)
  · rcases hP with ⟨rfl, hP⟩ | ⟨rfl, hP⟩
    · refine ⟨14, by decide, fun q_1 => ?_⟩
      refine z_astore (lv' := [(6, z_O _), (0, z_O _), (1, z_I _), (2, z_I _), (3, z_I _), (4, z_I _), (5, z_I _)]) dL_setPath_14 (Nat.le_of_ble_eq_true rfl) rfl ?_
      refine z_iconst (v := 1) dL_setPath_16 (by decide) ?_
      exact z_reti rfl dL_setPath_17 hP
    · refine ⟨18, by decide, fun q_1 => ?_⟩
      refine z_astore (lv' := [(6, z_O _), (0, z_O _), (1, z_I _), (2, z_I _), (3, z_I _), (4, z_I _), (5, z_I _)]) dL_setPath_18 (Nat.le_of_ble_eq_true rfl) rfl ?_
      refine z_iconst (v := 2) dL_setPath_20 (by decide) ?_
      exact z_reti rfl dL_setPath_21 hP
  · obtain ⟨rfl, hP⟩ := hP
    refine z_stk (st' := []) rfl ?_
    have k2 := x1.k (k := 11) hT1 k2
    refine z_goto (tgt := 22) dL_setPath_11 (by decide) ?_
    refine z_iconst (v := 0) dL_setPath_22 (by decide) ?_
    exact z_reti rfl dL_setPath_23 hP
set_option maxRecDepth 100000 in
def P_L_setUp (p1 : Option Nat) (p2 : Int32) (p3 : Int32) (p4 : Option Nat) (M : z_Mem) (Post : Int32 → z_Mem → Prop) : Prop := z_nn p1 fun a2 => (P_X11_setUp a2 p2 p3 M (fun x_1 M_1 => ((x_1 = 0 → z_nn p4 fun a4 => (vp_in 0 (z_ln M_1 a4) ∧ (∀ M_6 : z_Mem, M_6 = z_sal M_1 a4 ((0 : Int32).toNatClampNeg) 0 → (Post 0 M_6)))) ∧ (¬ x_1 = 0 → z_nn p4 fun a7 => (vp_in 0 (z_ln M_1 a7) ∧ (∀ M_9 : z_Mem, M_9 = z_sal M_1 a7 ((0 : Int32).toNatClampNeg) 1 → (Post 0 M_9)))))) (fun E M_1 => (E = "java/lang/IndexOutOfBoundsException" ∧ Post 1 M_1)))
set_option maxRecDepth 100000 in
set_option maxHeartbeats 4000000 in
theorem s_L_setUp {G : z_G} {M : z_Mem} {p1 : Option Nat} {p2 : Int32} {p3 : Int32} {p4 : Option Nat} {Post : Int32 → z_Mem → Prop} (hl9 : G.1.stackTraces = false) (f_p1 : z_tr M p1 12) (f_p3 : p3 = 0 ∨ p3 = 1) (f_p4 : z_tr M p4 25) (hP : P_L_setUp p1 p2 p3 p4 M Post) : z_MtH G Y_L_setUp hh_L_setUp M [z_O p1, z_I p2, z_I p3, z_O p4] (z_PI Post) := by
  refine z_ofVH (by decide) (Nat.le_of_ble_eq_true rfl) ?_
  unfold P_L_setUp at hP
  refine z_sub (lv' := [(0, z_O p1), (1, z_I p2), (2, z_I p3), (3, z_O p4)]) [0, 1, 2, 3] rfl ?_
  refine z_aload_n dL_setUp_0 rfl 3 rfl ?_
  refine z_iconst (v := 0) dL_setUp_1 (by decide) ?_
  refine z_aload_n dL_setUp_2 rfl 0 rfl ?_
  refine z_iload_n dL_setUp_3 rfl 1 rfl ?_
  refine z_iload_n dL_setUp_4 rfl 2 rfl ?_
  obtain ⟨a2, e2, hP⟩ := hP
  have k2 := f_p1 a2 e2
  refine z_wts (fun hT1 _ => ?_)
  refine z_hV (hh := hh_L_setUp) (c := 11) (n := 2) (Y1 := Y_X11_setUp) (st := [z_I _, z_O _]) e2 k2 z_cb11 (Nat.le_of_ble_eq_true rfl) rfl (s_X11_setUp hl9 k2 f_p3 hP) rfl ⟨z_dc_X11_setUp, ⟨(Nat.le_of_ble_eq_true rfl), (Nat.le_of_ble_eq_true rfl)⟩, (Nat.le_of_ble_eq_true rfl)⟩ rfl zw_638 zw_639 zw_640 zw_1 zw_641 dL_setUp_5 z_hok_L_setUp (fun E M_1 hE9 hP _ x1 => ?_) (fun r_1 M_1 hP _ x1 => ?_)
  · obtain ⟨rfl, hP⟩ := hP
    · refine ⟨20, by decide, fun q_1 => ?_⟩
      refine z_astore (lv' := [(4, z_O _), (0, z_O _), (1, z_I _), (2, z_I _), (3, z_O _)]) dL_setUp_20 (Nat.le_of_ble_eq_true rfl) rfl ?_
      refine z_pc (pc' := 22) rfl ?_
      refine z_iconst (v := 1) dL_setUp_22 (by decide) ?_
      exact z_reti rfl dL_setUp_23 hP
  · obtain ⟨x_1, rfl, b1, hP⟩ := hP
    refine z_stk (st' := [z_I _, z_I _, z_O _]) rfl ?_
    have k2 := x1.k (k := 11) hT1 k2
    have f_p4 := x1.t (k := 24) hT1 f_p4
    refine z_if_eq (tgt := 15) dL_setUp_8 (by decide) (fun h3 => ?_) (fun h3 => ?_)
    · replace hP := hP.1 h3
      refine z_lconst (v := 0) dL_setUp_15 (by decide) ?_
      refine z_pc (pc' := 16) rfl ?_
      obtain ⟨a4, e4, hP⟩ := hP
      have k4 := f_p4 a4 e4
      obtain ⟨i5, hP⟩ := hP
      refine z_last e4 k4 i5 dL_setUp_16 ?_
      refine z_nm (fun M_6 g_6 => ?_)
      replace hP := hP M_6 g_6
      have q_6 := z_k5 g_6
      have k2 := z_kk q_6 k2
      have k4 := z_kk q_6 k4
      refine z_goto (tgt := 24) dL_setUp_17 (by decide) ?_
      refine z_iconst (v := 0) dL_setUp_24 (by decide) ?_
      exact z_reti rfl dL_setUp_25 hP
    · replace hP := hP.2 h3
      refine z_lconst (v := 1) dL_setUp_11 (by decide) ?_
      refine z_pc (pc' := 12) rfl ?_
      refine z_goto (tgt := 16) dL_setUp_12 (by decide) ?_
      obtain ⟨a7, e7, hP⟩ := hP
      have k7 := f_p4 a7 e7
      obtain ⟨i8, hP⟩ := hP
      refine z_last e7 k7 i8 dL_setUp_16 ?_
      refine z_nm (fun M_9 g_9 => ?_)
      replace hP := hP M_9 g_9
      have q_9 := z_k5 g_9
      have k2 := z_kk q_9 k2
      have k7 := z_kk q_9 k7
      refine z_goto (tgt := 24) dL_setUp_17 (by decide) ?_
      refine z_iconst (v := 0) dL_setUp_24 (by decide) ?_
      exact z_reti rfl dL_setUp_25 hP
set_option maxRecDepth 100000 in
def P_L_lose (p1 : Option Nat) (p2 : Int32) (p3 : Int32) (p4 : Int32) (M : z_Mem) (Post : Int32 → z_Mem → Prop) : Prop := z_nn p1 fun a2 => (P_X11_lose a2 p2 p3 p4 M (fun M_1 => Post 0 M_1) (fun E M_1 => (E = "java/lang/IndexOutOfBoundsException" ∧ Post 1 M_1) ∨ (E = "java/lang/IllegalArgumentException" ∧ Post 2 M_1)))
set_option maxRecDepth 100000 in
set_option maxHeartbeats 4000000 in
theorem s_L_lose {G : z_G} {M : z_Mem} {p1 : Option Nat} {p2 : Int32} {p3 : Int32} {p4 : Int32} {Post : Int32 → z_Mem → Prop} (hl9 : G.1.stackTraces = false) (f_p1 : z_tr M p1 12) (f_p3 : p3 = 0 ∨ p3 = 1) (hP : P_L_lose p1 p2 p3 p4 M Post) : z_MtH G Y_L_lose hh_L_lose M [z_O p1, z_I p2, z_I p3, z_I p4] (z_PI Post) := by
  refine z_ofVH (by decide) (Nat.le_of_ble_eq_true rfl) ?_
  unfold P_L_lose at hP
  refine z_sub (lv' := [(0, z_O p1), (1, z_I p2), (2, z_I p3), (3, z_I p4)]) [0, 1, 2, 3] rfl ?_
  refine z_aload_n dL_lose_0 rfl 0 rfl ?_
  refine z_iload_n dL_lose_1 rfl 1 rfl ?_
  refine z_iload_n dL_lose_2 rfl 2 rfl ?_
  refine z_iload_n dL_lose_3 rfl 3 rfl ?_
  obtain ⟨a2, e2, hP⟩ := hP
  have k2 := f_p1 a2 e2
  refine z_wts (fun hT1 _ => ?_)
  refine z_hV (hh := hh_L_lose) (c := 11) (n := 3) (Y1 := Y_X11_lose) (st := []) e2 k2 z_cb11 (Nat.le_of_ble_eq_true rfl) rfl (s_X11_lose hl9 k2 f_p3 hP) rfl ⟨z_dc_X11_lose, ⟨(Nat.le_of_ble_eq_true rfl), (Nat.le_of_ble_eq_true rfl)⟩, (Nat.le_of_ble_eq_true rfl)⟩ rfl zw_645 zw_646 zw_647 zw_1 zw_648 dL_lose_4 z_hok_L_lose (fun E M_1 hE9 hP _ x1 => ?_) (fun r_1 M_1 hP _ x1 => ?_)
  · rcases hP with ⟨rfl, hP⟩ | ⟨rfl, hP⟩
    · refine ⟨10, by decide, fun q_1 => ?_⟩
      refine z_astore (lv' := [(4, z_O _), (0, z_O _), (1, z_I _), (2, z_I _), (3, z_I _)]) dL_lose_10 (Nat.le_of_ble_eq_true rfl) rfl ?_
      refine z_iconst (v := 1) dL_lose_12 (by decide) ?_
      refine z_pc (pc' := 13) rfl ?_
      exact z_reti rfl dL_lose_13 hP
    · refine ⟨14, by decide, fun q_1 => ?_⟩
      refine z_astore (lv' := [(4, z_O _), (0, z_O _), (1, z_I _), (2, z_I _), (3, z_I _)]) dL_lose_14 (Nat.le_of_ble_eq_true rfl) rfl ?_
      refine z_iconst (v := 2) dL_lose_16 (by decide) ?_
      refine z_pc (pc' := 17) rfl ?_
      exact z_reti rfl dL_lose_17 hP
  · obtain ⟨rfl, hP⟩ := hP
    refine z_stk (st' := []) rfl ?_
    have k2 := x1.k (k := 11) hT1 k2
    refine z_goto (tgt := 18) dL_lose_7 (by decide) ?_
    refine z_iconst (v := 0) dL_lose_18 (by decide) ?_
    exact z_reti rfl dL_lose_19 hP
set_option maxRecDepth 100000 in
def P_L_late (p1 : Option Nat) (p2 : Int32) (p3 : Int32) (p4 : Int32) (M : z_Mem) (Post : Int32 → z_Mem → Prop) : Prop := z_nn p1 fun a2 => (P_X11_late a2 p2 p3 p4 M (fun M_1 => Post 0 M_1) (fun E M_1 => (E = "java/lang/IndexOutOfBoundsException" ∧ Post 1 M_1) ∨ (E = "java/lang/IllegalArgumentException" ∧ Post 2 M_1)))
set_option maxRecDepth 100000 in
set_option maxHeartbeats 4000000 in
theorem s_L_late {G : z_G} {M : z_Mem} {p1 : Option Nat} {p2 : Int32} {p3 : Int32} {p4 : Int32} {Post : Int32 → z_Mem → Prop} (hl9 : G.1.stackTraces = false) (f_p1 : z_tr M p1 12) (hP : P_L_late p1 p2 p3 p4 M Post) : z_MtH G Y_L_late hh_L_late M [z_O p1, z_I p2, z_I p3, z_I p4] (z_PI Post) := by
  refine z_ofVH (by decide) (Nat.le_of_ble_eq_true rfl) ?_
  unfold P_L_late at hP
  refine z_sub (lv' := [(0, z_O p1), (1, z_I p2), (2, z_I p3), (3, z_I p4)]) [0, 1, 2, 3] rfl ?_
  refine z_aload_n dL_late_0 rfl 0 rfl ?_
  refine z_iload_n dL_late_1 rfl 1 rfl ?_
  refine z_iload_n dL_late_2 rfl 2 rfl ?_
  refine z_iload_n dL_late_3 rfl 3 rfl ?_
  obtain ⟨a2, e2, hP⟩ := hP
  have k2 := f_p1 a2 e2
  refine z_wts (fun hT1 _ => ?_)
  refine z_hV (hh := hh_L_late) (c := 11) (n := 3) (Y1 := Y_X11_late) (st := []) e2 k2 z_cb11 (Nat.le_of_ble_eq_true rfl) rfl (s_X11_late hl9 k2 hP) rfl ⟨z_dc_X11_late, ⟨(Nat.le_of_ble_eq_true rfl), (Nat.le_of_ble_eq_true rfl)⟩, (Nat.le_of_ble_eq_true rfl)⟩ rfl zw_652 zw_653 zw_654 zw_1 zw_655 dL_late_4 z_hok_L_late (fun E M_1 hE9 hP _ x1 => ?_) (fun r_1 M_1 hP _ x1 => ?_)
  · rcases hP with ⟨rfl, hP⟩ | ⟨rfl, hP⟩
    · refine ⟨10, by decide, fun q_1 => ?_⟩
      refine z_astore (lv' := [(4, z_O _), (0, z_O _), (1, z_I _), (2, z_I _), (3, z_I _)]) dL_late_10 (Nat.le_of_ble_eq_true rfl) rfl ?_
      refine z_iconst (v := 1) dL_late_12 (by decide) ?_
      refine z_pc (pc' := 13) rfl ?_
      exact z_reti rfl dL_late_13 hP
    · refine ⟨14, by decide, fun q_1 => ?_⟩
      refine z_astore (lv' := [(4, z_O _), (0, z_O _), (1, z_I _), (2, z_I _), (3, z_I _)]) dL_late_14 (Nat.le_of_ble_eq_true rfl) rfl ?_
      refine z_iconst (v := 2) dL_late_16 (by decide) ?_
      refine z_pc (pc' := 17) rfl ?_
      exact z_reti rfl dL_late_17 hP
  · obtain ⟨rfl, hP⟩ := hP
    refine z_stk (st' := []) rfl ?_
    have k2 := x1.k (k := 11) hT1 k2
    refine z_goto (tgt := 18) dL_late_7 (by decide) ?_
    refine z_iconst (v := 0) dL_late_18 (by decide) ?_
    exact z_reti rfl dL_late_19 hP
set_option maxRecDepth 100000 in
def P_L_foreign (p1 : Option Nat) (p2 : Int32) (p3 : Int32) (p4 : Option Nat) (M : z_Mem) (Post : Int32 → z_Mem → Prop) : Prop := z_nn p1 fun a2 => (P_X11_foreign a2 p2 p3 M (fun x_1 M_1 => z_nn p4 fun a3 => (vp_in 0 (z_ln M_1 a3) ∧ (∀ M_5 : z_Mem, M_5 = z_sal M_1 a3 ((0 : Int32).toNatClampNeg) ((x_1 : Int32).toInt64) → (Post 0 M_5)))) (fun E M_1 => (E = "java/lang/IndexOutOfBoundsException" ∧ Post 1 M_1) ∨ (E = "java/lang/IllegalArgumentException" ∧ Post 2 M_1)))
set_option maxRecDepth 100000 in
set_option maxHeartbeats 4000000 in
theorem s_L_foreign {G : z_G} {M : z_Mem} {p1 : Option Nat} {p2 : Int32} {p3 : Int32} {p4 : Option Nat} {Post : Int32 → z_Mem → Prop} (hl9 : G.1.stackTraces = false) (f_p1 : z_tr M p1 12) (f_p4 : z_tr M p4 25) (hP : P_L_foreign p1 p2 p3 p4 M Post) : z_MtH G Y_L_foreign hh_L_foreign M [z_O p1, z_I p2, z_I p3, z_O p4] (z_PI Post) := by
  refine z_ofVH (by decide) (Nat.le_of_ble_eq_true rfl) ?_
  unfold P_L_foreign at hP
  refine z_sub (lv' := [(0, z_O p1), (1, z_I p2), (2, z_I p3), (3, z_O p4)]) [0, 1, 2, 3] rfl ?_
  refine z_aload_n dL_foreign_0 rfl 3 rfl ?_
  refine z_iconst (v := 0) dL_foreign_1 (by decide) ?_
  refine z_aload_n dL_foreign_2 rfl 0 rfl ?_
  refine z_iload_n dL_foreign_3 rfl 1 rfl ?_
  refine z_iload_n dL_foreign_4 rfl 2 rfl ?_
  obtain ⟨a2, e2, hP⟩ := hP
  have k2 := f_p1 a2 e2
  refine z_wts (fun hT1 _ => ?_)
  refine z_hV (hh := hh_L_foreign) (c := 11) (n := 2) (Y1 := Y_X11_foreign) (st := [z_I _, z_O _]) e2 k2 z_cb11 (Nat.le_of_ble_eq_true rfl) rfl (s_X11_foreign hl9 k2 hP) rfl ⟨z_dc_X11_foreign, ⟨(Nat.le_of_ble_eq_true rfl), (Nat.le_of_ble_eq_true rfl)⟩, (Nat.le_of_ble_eq_true rfl)⟩ rfl zw_659 zw_660 zw_661 zw_1 zw_662 dL_foreign_5 z_hok_L_foreign (fun E M_1 hE9 hP _ x1 => ?_) (fun r_1 M_1 hP _ x1 => ?_)
  · rcases hP with ⟨rfl, hP⟩ | ⟨rfl, hP⟩
    · refine ⟨13, by decide, fun q_1 => ?_⟩
      refine z_astore (lv' := [(4, z_O _), (0, z_O _), (1, z_I _), (2, z_I _), (3, z_O _)]) dL_foreign_13 (Nat.le_of_ble_eq_true rfl) rfl ?_
      refine z_pc (pc' := 15) rfl ?_
      refine z_iconst (v := 1) dL_foreign_15 (by decide) ?_
      exact z_reti rfl dL_foreign_16 hP
    · refine ⟨17, by decide, fun q_1 => ?_⟩
      refine z_astore (lv' := [(4, z_O _), (0, z_O _), (1, z_I _), (2, z_I _), (3, z_O _)]) dL_foreign_17 (Nat.le_of_ble_eq_true rfl) rfl ?_
      refine z_pc (pc' := 19) rfl ?_
      refine z_iconst (v := 2) dL_foreign_19 (by decide) ?_
      exact z_reti rfl dL_foreign_20 hP
  · obtain ⟨x_1, rfl, hP⟩ := hP
    refine z_stk (st' := [z_I _, z_I _, z_O _]) rfl ?_
    have k2 := x1.k (k := 11) hT1 k2
    have f_p4 := x1.t (k := 24) hT1 f_p4
    refine z_i2l dL_foreign_8 ?_
    refine z_pc (pc' := 9) rfl ?_
    obtain ⟨a3, e3, hP⟩ := hP
    have k3 := f_p4 a3 e3
    obtain ⟨i4, hP⟩ := hP
    refine z_last e3 k3 i4 dL_foreign_9 ?_
    refine z_nm (fun M_5 g_5 => ?_)
    replace hP := hP M_5 g_5
    have q_5 := z_k5 g_5
    have k2 := z_kk q_5 k2
    have k3 := z_kk q_5 k3
    refine z_goto (tgt := 21) dL_foreign_10 (by decide) ?_
    refine z_iconst (v := 0) dL_foreign_21 (by decide) ?_
    exact z_reti rfl dL_foreign_22 hP
set_option maxRecDepth 100000 in
def P_L_read (p1 : Option Nat) (p2 : Int32) (p3 : Int32) (p4 : Option Nat) (M : z_Mem) (Post : Int32 → z_Mem → Prop) : Prop := z_nn p1 fun a2 => (P_X11_read a2 p2 p3 M (fun x_1 M_1 => z_nn p4 fun a3 => (vp_in 0 (z_ln M_1 a3) ∧ (∀ M_5 : z_Mem, M_5 = z_sal M_1 a3 ((0 : Int32).toNatClampNeg) ((x_1 : Int32).toInt64) → (Post 0 M_5)))) (fun E M_1 => (E = "java/lang/IndexOutOfBoundsException" ∧ Post 1 M_1) ∨ (E = "java/lang/IllegalArgumentException" ∧ Post 2 M_1)))
set_option maxRecDepth 100000 in
set_option maxHeartbeats 4000000 in
theorem s_L_read {G : z_G} {M : z_Mem} {p1 : Option Nat} {p2 : Int32} {p3 : Int32} {p4 : Option Nat} {Post : Int32 → z_Mem → Prop} (hl9 : G.1.stackTraces = false) (f_p1 : z_tr M p1 12) (f_p4 : z_tr M p4 25) (hP : P_L_read p1 p2 p3 p4 M Post) : z_MtH G Y_L_read hh_L_read M [z_O p1, z_I p2, z_I p3, z_O p4] (z_PI Post) := by
  refine z_ofVH (by decide) (Nat.le_of_ble_eq_true rfl) ?_
  unfold P_L_read at hP
  refine z_sub (lv' := [(0, z_O p1), (1, z_I p2), (2, z_I p3), (3, z_O p4)]) [0, 1, 2, 3] rfl ?_
  refine z_aload_n dL_read_0 rfl 3 rfl ?_
  refine z_iconst (v := 0) dL_read_1 (by decide) ?_
  refine z_aload_n dL_read_2 rfl 0 rfl ?_
  refine z_iload_n dL_read_3 rfl 1 rfl ?_
  refine z_iload_n dL_read_4 rfl 2 rfl ?_
  obtain ⟨a2, e2, hP⟩ := hP
  have k2 := f_p1 a2 e2
  refine z_wts (fun hT1 _ => ?_)
  refine z_hV (hh := hh_L_read) (c := 11) (n := 2) (Y1 := Y_X11_read) (st := [z_I _, z_O _]) e2 k2 z_cb11 (Nat.le_of_ble_eq_true rfl) rfl (s_X11_read hl9 k2 hP) rfl ⟨z_dc_X11_read, ⟨(Nat.le_of_ble_eq_true rfl), (Nat.le_of_ble_eq_true rfl)⟩, (Nat.le_of_ble_eq_true rfl)⟩ rfl zw_679 zw_680 zw_681 zw_1 zw_682 dL_read_5 z_hok_L_read (fun E M_1 hE9 hP _ x1 => ?_) (fun r_1 M_1 hP _ x1 => ?_)
  · rcases hP with ⟨rfl, hP⟩ | ⟨rfl, hP⟩
    · refine ⟨13, by decide, fun q_1 => ?_⟩
      refine z_astore (lv' := [(4, z_O _), (0, z_O _), (1, z_I _), (2, z_I _), (3, z_O _)]) dL_read_13 (Nat.le_of_ble_eq_true rfl) rfl ?_
      refine z_pc (pc' := 15) rfl ?_
      refine z_iconst (v := 1) dL_read_15 (by decide) ?_
      exact z_reti rfl dL_read_16 hP
    · refine ⟨17, by decide, fun q_1 => ?_⟩
      refine z_astore (lv' := [(4, z_O _), (0, z_O _), (1, z_I _), (2, z_I _), (3, z_O _)]) dL_read_17 (Nat.le_of_ble_eq_true rfl) rfl ?_
      refine z_pc (pc' := 19) rfl ?_
      refine z_iconst (v := 2) dL_read_19 (by decide) ?_
      exact z_reti rfl dL_read_20 hP
  · obtain ⟨x_1, rfl, hP⟩ := hP
    refine z_stk (st' := [z_I _, z_I _, z_O _]) rfl ?_
    have k2 := x1.k (k := 11) hT1 k2
    have f_p4 := x1.t (k := 24) hT1 f_p4
    refine z_i2l dL_read_8 ?_
    refine z_pc (pc' := 9) rfl ?_
    obtain ⟨a3, e3, hP⟩ := hP
    have k3 := f_p4 a3 e3
    obtain ⟨i4, hP⟩ := hP
    refine z_last e3 k3 i4 dL_read_9 ?_
    refine z_nm (fun M_5 g_5 => ?_)
    replace hP := hP M_5 g_5
    have q_5 := z_k5 g_5
    have k2 := z_kk q_5 k2
    have k3 := z_kk q_5 k3
    refine z_goto (tgt := 21) dL_read_10 (by decide) ?_
    refine z_iconst (v := 0) dL_read_21 (by decide) ?_
    exact z_reti rfl dL_read_22 hP
set_option maxRecDepth 100000 in
def P_L_connect (p1 : Option Nat) (p2 : Int32) (M : z_Mem) (Post : Int32 → z_Mem → Prop) : Prop := z_nn p1 fun a2 => (P_X11_connect a2 p2 M (fun M_1 => Post 0 M_1) (fun E M_1 => (E = "java/lang/IllegalArgumentException" ∧ Post 1 M_1) ∨ (E = "java/lang/IllegalStateException" ∧ Post 2 M_1)))
set_option maxRecDepth 100000 in
set_option maxHeartbeats 4000000 in
theorem s_L_connect {G : z_G} {M : z_Mem} {p1 : Option Nat} {p2 : Int32} {Post : Int32 → z_Mem → Prop} (hl9 : G.1.stackTraces = false) (f_p1 : z_tr M p1 12) (hP : P_L_connect p1 p2 M Post) : z_MtH G Y_L_connect hh_L_connect M [z_O p1, z_I p2] (z_PI Post) := by
  refine z_ofVH (by decide) (Nat.le_of_ble_eq_true rfl) ?_
  unfold P_L_connect at hP
  refine z_sub (lv' := [(0, z_O p1), (1, z_I p2)]) [0, 1] rfl ?_
  refine z_aload_n dL_connect_0 rfl 0 rfl ?_
  refine z_iload_n dL_connect_1 rfl 1 rfl ?_
  obtain ⟨a2, e2, hP⟩ := hP
  have k2 := f_p1 a2 e2
  refine z_wts (fun hT1 _ => ?_)
  refine z_hV (hh := hh_L_connect) (c := 11) (n := 1) (Y1 := Y_X11_connect) (st := []) e2 k2 z_cb11 (Nat.le_of_ble_eq_true rfl) rfl (s_X11_connect hl9 k2 hP) rfl ⟨z_dc_X11_connect, ⟨(Nat.le_of_ble_eq_true rfl), (Nat.le_of_ble_eq_true rfl)⟩, (Nat.le_of_ble_eq_true rfl)⟩ rfl zw_761 zw_762 zw_763 zw_1 zw_764 dL_connect_2 z_hok_L_connect (fun E M_1 hE9 hP _ x1 => ?_) (fun r_1 M_1 hP _ x1 => ?_)
  · rcases hP with ⟨rfl, hP⟩ | ⟨rfl, hP⟩
    · refine ⟨8, by decide, fun q_1 => ?_⟩
      refine z_astore_n (lv' := [(2, z_O _), (0, z_O _), (1, z_I _)]) dL_connect_8 rfl (Nat.le_of_ble_eq_true rfl) rfl ?_
      refine z_iconst (v := 1) dL_connect_9 (by decide) ?_
      exact z_reti rfl dL_connect_10 hP
    · refine ⟨11, by decide, fun q_1 => ?_⟩
      refine z_astore_n (lv' := [(2, z_O _), (0, z_O _), (1, z_I _)]) dL_connect_11 rfl (Nat.le_of_ble_eq_true rfl) rfl ?_
      refine z_iconst (v := 2) dL_connect_12 (by decide) ?_
      exact z_reti rfl dL_connect_13 hP
  · obtain ⟨rfl, hP⟩ := hP
    refine z_stk (st' := []) rfl ?_
    have k2 := x1.k (k := 11) hT1 k2
    refine z_goto (tgt := 14) dL_connect_5 (by decide) ?_
    refine z_iconst (v := 0) dL_connect_14 (by decide) ?_
    exact z_reti rfl dL_connect_15 hP
set_option maxRecDepth 100000 in
def P_L_write (p1 : Option Nat) (p2 : Int32) (p3 : Int32) (p4 : Option Nat) (M : z_Mem) (Post : Int32 → z_Mem → Prop) : Prop := z_nn p1 fun a2 => (P_X11_write a2 p2 p3 M (fun x_1 M_1 => z_nn p4 fun a3 => (vp_in 0 (z_ln M_1 a3) ∧ (∀ M_5 : z_Mem, M_5 = z_sal M_1 a3 ((0 : Int32).toNatClampNeg) ((x_1 : Int32).toInt64) → (Post 0 M_5)))) (fun E M_1 => (E = "java/lang/IndexOutOfBoundsException" ∧ Post 1 M_1) ∨ (E = "java/lang/IllegalArgumentException" ∧ Post 2 M_1) ∨ (E = "java/lang/IllegalStateException" ∧ Post 3 M_1)))
set_option maxRecDepth 100000 in
set_option maxHeartbeats 4000000 in
theorem s_L_write {G : z_G} {M : z_Mem} {p1 : Option Nat} {p2 : Int32} {p3 : Int32} {p4 : Option Nat} {Post : Int32 → z_Mem → Prop} (hl9 : G.1.stackTraces = false) (f_p1 : z_tr M p1 12) (f_p4 : z_tr M p4 25) (hP : P_L_write p1 p2 p3 p4 M Post) : z_MtH G Y_L_write hh_L_write M [z_O p1, z_I p2, z_I p3, z_O p4] (z_PI Post) := by
  refine z_ofVH (by decide) (Nat.le_of_ble_eq_true rfl) ?_
  unfold P_L_write at hP
  refine z_sub (lv' := [(0, z_O p1), (1, z_I p2), (2, z_I p3), (3, z_O p4)]) [0, 1, 2, 3] rfl ?_
  refine z_aload_n dL_write_0 rfl 3 rfl ?_
  refine z_iconst (v := 0) dL_write_1 (by decide) ?_
  refine z_aload_n dL_write_2 rfl 0 rfl ?_
  refine z_iload_n dL_write_3 rfl 1 rfl ?_
  refine z_iload_n dL_write_4 rfl 2 rfl ?_
  obtain ⟨a2, e2, hP⟩ := hP
  have k2 := f_p1 a2 e2
  refine z_wts (fun hT1 _ => ?_)
  refine z_hV (hh := hh_L_write) (c := 11) (n := 2) (Y1 := Y_X11_write) (st := [z_I _, z_O _]) e2 k2 z_cb11 (Nat.le_of_ble_eq_true rfl) rfl (s_X11_write hl9 k2 hP) rfl ⟨z_dc_X11_write, ⟨(Nat.le_of_ble_eq_true rfl), (Nat.le_of_ble_eq_true rfl)⟩, (Nat.le_of_ble_eq_true rfl)⟩ rfl zw_806 zw_807 zw_808 zw_1 zw_809 dL_write_5 z_hok_L_write (fun E M_1 hE9 hP _ x1 => ?_) (fun r_1 M_1 hP _ x1 => ?_)
  · rcases hP with ⟨rfl, hP⟩ | ⟨rfl, hP⟩ | ⟨rfl, hP⟩
    · refine ⟨13, by decide, fun q_1 => ?_⟩
      refine z_astore (lv' := [(4, z_O _), (0, z_O _), (1, z_I _), (2, z_I _), (3, z_O _)]) dL_write_13 (Nat.le_of_ble_eq_true rfl) rfl ?_
      refine z_pc (pc' := 15) rfl ?_
      refine z_iconst (v := 1) dL_write_15 (by decide) ?_
      exact z_reti rfl dL_write_16 hP
    · refine ⟨17, by decide, fun q_1 => ?_⟩
      refine z_astore (lv' := [(4, z_O _), (0, z_O _), (1, z_I _), (2, z_I _), (3, z_O _)]) dL_write_17 (Nat.le_of_ble_eq_true rfl) rfl ?_
      refine z_pc (pc' := 19) rfl ?_
      refine z_iconst (v := 2) dL_write_19 (by decide) ?_
      exact z_reti rfl dL_write_20 hP
    · refine ⟨21, by decide, fun q_1 => ?_⟩
      refine z_astore (lv' := [(4, z_O _), (0, z_O _), (1, z_I _), (2, z_I _), (3, z_O _)]) dL_write_21 (Nat.le_of_ble_eq_true rfl) rfl ?_
      refine z_pc (pc' := 23) rfl ?_
      refine z_iconst (v := 3) dL_write_23 (by decide) ?_
      exact z_reti rfl dL_write_24 hP
  · obtain ⟨x_1, rfl, hP⟩ := hP
    refine z_stk (st' := [z_I _, z_I _, z_O _]) rfl ?_
    have k2 := x1.k (k := 11) hT1 k2
    have f_p4 := x1.t (k := 24) hT1 f_p4
    refine z_i2l dL_write_8 ?_
    refine z_pc (pc' := 9) rfl ?_
    obtain ⟨a3, e3, hP⟩ := hP
    have k3 := f_p4 a3 e3
    obtain ⟨i4, hP⟩ := hP
    refine z_last e3 k3 i4 dL_write_9 ?_
    refine z_nm (fun M_5 g_5 => ?_)
    replace hP := hP M_5 g_5
    have q_5 := z_k5 g_5
    have k2 := z_kk q_5 k2
    have k3 := z_kk q_5 k3
    refine z_goto (tgt := 25) dL_write_10 (by decide) ?_
    refine z_iconst (v := 0) dL_write_25 (by decide) ?_
    exact z_reti rfl dL_write_26 hP
set_option maxRecDepth 100000 in
def P_L_setWay (p1 : Option Nat) (p2 : Int32) (p3 : Int32) (p4 : Option Nat) (M : z_Mem) (Post : Int32 → z_Mem → Prop) : Prop := z_nn p1 fun a2 => (P_X11_setWay a2 p2 p3 M (fun x_1 M_1 => z_nn p4 fun a3 => (vp_in 0 (z_ln M_1 a3) ∧ (∀ M_5 : z_Mem, M_5 = z_sal M_1 a3 ((0 : Int32).toNatClampNeg) ((x_1 : Int32).toInt64) → (Post 0 M_5)))) (fun E M_1 => (E = "java/lang/IndexOutOfBoundsException" ∧ Post 1 M_1) ∨ (E = "java/lang/IllegalArgumentException" ∧ Post 2 M_1)))
set_option maxRecDepth 100000 in
set_option maxHeartbeats 4000000 in
theorem s_L_setWay {G : z_G} {M : z_Mem} {p1 : Option Nat} {p2 : Int32} {p3 : Int32} {p4 : Option Nat} {Post : Int32 → z_Mem → Prop} (hl9 : G.1.stackTraces = false) (f_p1 : z_tr M p1 12) (f_p4 : z_tr M p4 25) (hP : P_L_setWay p1 p2 p3 p4 M Post) : z_MtH G Y_L_setWay hh_L_setWay M [z_O p1, z_I p2, z_I p3, z_O p4] (z_PI Post) := by
  refine z_ofVH (by decide) (Nat.le_of_ble_eq_true rfl) ?_
  unfold P_L_setWay at hP
  refine z_sub (lv' := [(0, z_O p1), (1, z_I p2), (2, z_I p3), (3, z_O p4)]) [0, 1, 2, 3] rfl ?_
  refine z_aload_n dL_setWay_0 rfl 3 rfl ?_
  refine z_iconst (v := 0) dL_setWay_1 (by decide) ?_
  refine z_aload_n dL_setWay_2 rfl 0 rfl ?_
  refine z_iload_n dL_setWay_3 rfl 1 rfl ?_
  refine z_iload_n dL_setWay_4 rfl 2 rfl ?_
  obtain ⟨a2, e2, hP⟩ := hP
  have k2 := f_p1 a2 e2
  refine z_wts (fun hT1 _ => ?_)
  refine z_hV (hh := hh_L_setWay) (c := 11) (n := 2) (Y1 := Y_X11_setWay) (st := [z_I _, z_O _]) e2 k2 z_cb11 (Nat.le_of_ble_eq_true rfl) rfl (s_X11_setWay hl9 k2 hP) rfl ⟨z_dc_X11_setWay, ⟨(Nat.le_of_ble_eq_true rfl), (Nat.le_of_ble_eq_true rfl)⟩, (Nat.le_of_ble_eq_true rfl)⟩ rfl zw_813 zw_814 zw_815 zw_1 zw_816 dL_setWay_5 z_hok_L_setWay (fun E M_1 hE9 hP _ x1 => ?_) (fun r_1 M_1 hP _ x1 => ?_)
  · rcases hP with ⟨rfl, hP⟩ | ⟨rfl, hP⟩
    · refine ⟨13, by decide, fun q_1 => ?_⟩
      refine z_astore (lv' := [(4, z_O _), (0, z_O _), (1, z_I _), (2, z_I _), (3, z_O _)]) dL_setWay_13 (Nat.le_of_ble_eq_true rfl) rfl ?_
      refine z_pc (pc' := 15) rfl ?_
      refine z_iconst (v := 1) dL_setWay_15 (by decide) ?_
      exact z_reti rfl dL_setWay_16 hP
    · refine ⟨17, by decide, fun q_1 => ?_⟩
      refine z_astore (lv' := [(4, z_O _), (0, z_O _), (1, z_I _), (2, z_I _), (3, z_O _)]) dL_setWay_17 (Nat.le_of_ble_eq_true rfl) rfl ?_
      refine z_pc (pc' := 19) rfl ?_
      refine z_iconst (v := 2) dL_setWay_19 (by decide) ?_
      exact z_reti rfl dL_setWay_20 hP
  · obtain ⟨x_1, rfl, hP⟩ := hP
    refine z_stk (st' := [z_I _, z_I _, z_O _]) rfl ?_
    have k2 := x1.k (k := 11) hT1 k2
    have f_p4 := x1.t (k := 24) hT1 f_p4
    refine z_i2l dL_setWay_8 ?_
    refine z_pc (pc' := 9) rfl ?_
    obtain ⟨a3, e3, hP⟩ := hP
    have k3 := f_p4 a3 e3
    obtain ⟨i4, hP⟩ := hP
    refine z_last e3 k3 i4 dL_setWay_9 ?_
    refine z_nm (fun M_5 g_5 => ?_)
    replace hP := hP M_5 g_5
    have q_5 := z_k5 g_5
    have k2 := z_kk q_5 k2
    have k3 := z_kk q_5 k3
    refine z_goto (tgt := 21) dL_setWay_10 (by decide) ?_
    refine z_iconst (v := 0) dL_setWay_21 (by decide) ?_
    exact z_reti rfl dL_setWay_22 hP
set_option maxRecDepth 100000 in
def P_L_check (p1 : Option Nat) (p2 : Int32) (M : z_Mem) (Post : Int32 → z_Mem → Prop) : Prop := z_nn p1 fun a2 => (P_X11_check a2 p2 M (fun M_1 => Post 0 M_1) (fun E M_1 => (E = "java/lang/IndexOutOfBoundsException" ∧ Post 1 M_1) ∨ (E = "java/lang/IllegalStateException" ∧ Post 2 M_1)))
set_option maxRecDepth 100000 in
set_option maxHeartbeats 4000000 in
theorem s_L_check {G : z_G} {M : z_Mem} {p1 : Option Nat} {p2 : Int32} {Post : Int32 → z_Mem → Prop} (hl9 : G.1.stackTraces = false) (f_p1 : z_tr M p1 12) (hP : P_L_check p1 p2 M Post) : z_MtH G Y_L_check hh_L_check M [z_O p1, z_I p2] (z_PI Post) := by
  refine z_ofVH (by decide) (Nat.le_of_ble_eq_true rfl) ?_
  unfold P_L_check at hP
  refine z_sub (lv' := [(0, z_O p1), (1, z_I p2)]) [0, 1] rfl ?_
  refine z_aload_n dL_check_0 rfl 0 rfl ?_
  refine z_iload_n dL_check_1 rfl 1 rfl ?_
  obtain ⟨a2, e2, hP⟩ := hP
  have k2 := f_p1 a2 e2
  refine z_wts (fun hT1 _ => ?_)
  refine z_hV (hh := hh_L_check) (c := 11) (n := 1) (Y1 := Y_X11_check) (st := []) e2 k2 z_cb11 (Nat.le_of_ble_eq_true rfl) rfl (s_X11_check hl9 k2 hP) rfl ⟨z_dc_X11_check, ⟨(Nat.le_of_ble_eq_true rfl), (Nat.le_of_ble_eq_true rfl)⟩, (Nat.le_of_ble_eq_true rfl)⟩ rfl zw_824 zw_825 zw_826 zw_1 zw_827 dL_check_2 z_hok_L_check (fun E M_1 hE9 hP _ x1 => ?_) (fun r_1 M_1 hP _ x1 => ?_)
  · rcases hP with ⟨rfl, hP⟩ | ⟨rfl, hP⟩
    · refine ⟨8, by decide, fun q_1 => ?_⟩
      refine z_astore_n (lv' := [(2, z_O _), (0, z_O _), (1, z_I _)]) dL_check_8 rfl (Nat.le_of_ble_eq_true rfl) rfl ?_
      refine z_iconst (v := 1) dL_check_9 (by decide) ?_
      exact z_reti rfl dL_check_10 hP
    · refine ⟨11, by decide, fun q_1 => ?_⟩
      refine z_astore_n (lv' := [(2, z_O _), (0, z_O _), (1, z_I _)]) dL_check_11 rfl (Nat.le_of_ble_eq_true rfl) rfl ?_
      refine z_iconst (v := 2) dL_check_12 (by decide) ?_
      exact z_reti rfl dL_check_13 hP
  · obtain ⟨rfl, hP⟩ := hP
    refine z_stk (st' := []) rfl ?_
    have k2 := x1.k (k := 11) hT1 k2
    refine z_goto (tgt := 14) dL_check_5 (by decide) ?_
    refine z_iconst (v := 0) dL_check_14 (by decide) ?_
    exact z_reti rfl dL_check_15 hP
set_option maxRecDepth 100000 in
def P_L_use (p1 : Option Nat) (p2 : Int32) (p3 : Option Nat) (M : z_Mem) (Post : Int32 → z_Mem → Prop) : Prop := z_nn p1 fun a2 => (P_X11_use a2 p2 M (fun x_1 M_1 => z_nn p3 fun a3 => (vp_in 0 (z_ln M_1 a3) ∧ (∀ M_5 : z_Mem, M_5 = z_sal M_1 a3 ((0 : Int32).toNatClampNeg) ((x_1 : Int32).toInt64) → (Post 0 M_5)))) (fun E M_1 => (E = "java/lang/IllegalArgumentException" ∧ Post 1 M_1) ∨ (E = "java/lang/IllegalStateException" ∧ Post 2 M_1)))
set_option maxRecDepth 100000 in
set_option maxHeartbeats 4000000 in
theorem s_L_use {G : z_G} {M : z_Mem} {p1 : Option Nat} {p2 : Int32} {p3 : Option Nat} {Post : Int32 → z_Mem → Prop} (hl9 : G.1.stackTraces = false) (f_p1 : z_tr M p1 12) (f_p3 : z_tr M p3 25) (hP : P_L_use p1 p2 p3 M Post) : z_MtH G Y_L_use hh_L_use M [z_O p1, z_I p2, z_O p3] (z_PI Post) := by
  refine z_ofVH (by decide) (Nat.le_of_ble_eq_true rfl) ?_
  unfold P_L_use at hP
  refine z_sub (lv' := [(0, z_O p1), (1, z_I p2), (2, z_O p3)]) [0, 1, 2] rfl ?_
  refine z_aload_n dL_use_0 rfl 2 rfl ?_
  refine z_iconst (v := 0) dL_use_1 (by decide) ?_
  refine z_aload_n dL_use_2 rfl 0 rfl ?_
  refine z_iload_n dL_use_3 rfl 1 rfl ?_
  obtain ⟨a2, e2, hP⟩ := hP
  have k2 := f_p1 a2 e2
  refine z_wts (fun hT1 _ => ?_)
  refine z_hV (hh := hh_L_use) (c := 11) (n := 1) (Y1 := Y_X11_use) (st := [z_I _, z_O _]) e2 k2 z_cb11 (Nat.le_of_ble_eq_true rfl) rfl (s_X11_use hl9 k2 hP) rfl ⟨z_dc_X11_use, ⟨(Nat.le_of_ble_eq_true rfl), (Nat.le_of_ble_eq_true rfl)⟩, (Nat.le_of_ble_eq_true rfl)⟩ rfl zw_834 zw_835 zw_836 zw_1 zw_837 dL_use_4 z_hok_L_use (fun E M_1 hE9 hP _ x1 => ?_) (fun r_1 M_1 hP _ x1 => ?_)
  · rcases hP with ⟨rfl, hP⟩ | ⟨rfl, hP⟩
    · refine ⟨12, by decide, fun q_1 => ?_⟩
      refine z_astore_n (lv' := [(3, z_O _), (0, z_O _), (1, z_I _), (2, z_O _)]) dL_use_12 rfl (Nat.le_of_ble_eq_true rfl) rfl ?_
      refine z_iconst (v := 1) dL_use_13 (by decide) ?_
      refine z_pc (pc' := 14) rfl ?_
      exact z_reti rfl dL_use_14 hP
    · refine ⟨15, by decide, fun q_1 => ?_⟩
      refine z_astore_n (lv' := [(3, z_O _), (0, z_O _), (1, z_I _), (2, z_O _)]) dL_use_15 rfl (Nat.le_of_ble_eq_true rfl) rfl ?_
      refine z_iconst (v := 2) dL_use_16 (by decide) ?_
      refine z_pc (pc' := 17) rfl ?_
      exact z_reti rfl dL_use_17 hP
  · obtain ⟨x_1, rfl, hP⟩ := hP
    refine z_stk (st' := [z_I _, z_I _, z_O _]) rfl ?_
    have k2 := x1.k (k := 11) hT1 k2
    have f_p3 := x1.t (k := 24) hT1 f_p3
    refine z_i2l dL_use_7 ?_
    obtain ⟨a3, e3, hP⟩ := hP
    have k3 := f_p3 a3 e3
    obtain ⟨i4, hP⟩ := hP
    refine z_last e3 k3 i4 dL_use_8 ?_
    refine z_nm (fun M_5 g_5 => ?_)
    replace hP := hP M_5 g_5
    have q_5 := z_k5 g_5
    have k2 := z_kk q_5 k2
    have k3 := z_kk q_5 k3
    refine z_pc (pc' := 9) rfl ?_
    refine z_goto (tgt := 18) dL_use_9 (by decide) ?_
    refine z_iconst (v := 0) dL_use_18 (by decide) ?_
    exact z_reti rfl dL_use_19 hP
set_option maxRecDepth 100000 in
def P_L_changeKey (p1 : Option Nat) (p2 : Option Nat) (M : z_Mem) (Post : Int32 → z_Mem → Prop) : Prop := z_nn p1 fun a2 => (P_X11_changeKey a2 M (fun x_1 M_1 => z_nn p2 fun a3 => (vp_in 0 (z_ln M_1 a3) ∧ (∀ M_5 : z_Mem, M_5 = z_sal M_1 a3 ((0 : Int32).toNatClampNeg) ((x_1 : Int32).toInt64) → (Post 0 M_5)))) (fun E M_1 => (E = "java/lang/IllegalStateException" ∧ Post 1 M_1)))
set_option maxRecDepth 100000 in
set_option maxHeartbeats 4000000 in
theorem s_L_changeKey {G : z_G} {M : z_Mem} {p1 : Option Nat} {p2 : Option Nat} {Post : Int32 → z_Mem → Prop} (hl9 : G.1.stackTraces = false) (f_p1 : z_tr M p1 12) (f_p2 : z_tr M p2 25) (hP : P_L_changeKey p1 p2 M Post) : z_MtH G Y_L_changeKey hh_L_changeKey M [z_O p1, z_O p2] (z_PI Post) := by
  refine z_ofVH (by decide) (Nat.le_of_ble_eq_true rfl) ?_
  unfold P_L_changeKey at hP
  refine z_sub (lv' := [(0, z_O p1), (1, z_O p2)]) [0, 1] rfl ?_
  refine z_aload_n dL_changeKey_0 rfl 1 rfl ?_
  refine z_iconst (v := 0) dL_changeKey_1 (by decide) ?_
  refine z_aload_n dL_changeKey_2 rfl 0 rfl ?_
  obtain ⟨a2, e2, hP⟩ := hP
  have k2 := f_p1 a2 e2
  refine z_wts (fun hT1 _ => ?_)
  refine z_hV (hh := hh_L_changeKey) (c := 11) (n := 0) (Y1 := Y_X11_changeKey) (st := [z_I _, z_O _]) e2 k2 z_cb11 (Nat.le_of_ble_eq_true rfl) rfl (s_X11_changeKey hl9 k2 hP) rfl ⟨z_dc_X11_changeKey, ⟨(Nat.le_of_ble_eq_true rfl), (Nat.le_of_ble_eq_true rfl)⟩, (Nat.le_of_ble_eq_true rfl)⟩ rfl zw_841 zw_842 zw_843 zw_1 zw_844 dL_changeKey_3 z_hok_L_changeKey (fun E M_1 hE9 hP _ x1 => ?_) (fun r_1 M_1 hP _ x1 => ?_)
  · obtain ⟨rfl, hP⟩ := hP
    · refine ⟨11, by decide, fun q_1 => ?_⟩
      refine z_astore_n (lv' := [(2, z_O _), (0, z_O _), (1, z_O _)]) dL_changeKey_11 rfl (Nat.le_of_ble_eq_true rfl) rfl ?_
      refine z_iconst (v := 1) dL_changeKey_12 (by decide) ?_
      exact z_reti rfl dL_changeKey_13 hP
  · obtain ⟨x_1, rfl, hP⟩ := hP
    refine z_stk (st' := [z_I _, z_I _, z_O _]) rfl ?_
    have k2 := x1.k (k := 11) hT1 k2
    have f_p2 := x1.t (k := 24) hT1 f_p2
    refine z_i2l dL_changeKey_6 ?_
    obtain ⟨a3, e3, hP⟩ := hP
    have k3 := f_p2 a3 e3
    obtain ⟨i4, hP⟩ := hP
    refine z_last e3 k3 i4 dL_changeKey_7 ?_
    refine z_nm (fun M_5 g_5 => ?_)
    replace hP := hP M_5 g_5
    have q_5 := z_k5 g_5
    have k2 := z_kk q_5 k2
    have k3 := z_kk q_5 k3
    refine z_goto (tgt := 14) dL_changeKey_8 (by decide) ?_
    refine z_iconst (v := 0) dL_changeKey_14 (by decide) ?_
    refine z_pc (pc' := 15) rfl ?_
    exact z_reti rfl dL_changeKey_15 hP
set_option maxRecDepth 100000 in
def P_L_close (p1 : Option Nat) (M : z_Mem) (Post : Int32 → z_Mem → Prop) : Prop := z_nn p1 fun a2 => (P_X11_close a2 M (fun M_1 => Post 0 M_1) (fun E M_1 => (E = "java/lang/IllegalStateException" ∧ Post 1 M_1)))
set_option maxRecDepth 100000 in
set_option maxHeartbeats 4000000 in
theorem s_L_close {G : z_G} {M : z_Mem} {p1 : Option Nat} {Post : Int32 → z_Mem → Prop} (hl9 : G.1.stackTraces = false) (f_p1 : z_tr M p1 12) (hP : P_L_close p1 M Post) : z_MtH G Y_L_close hh_L_close M [z_O p1] (z_PI Post) := by
  refine z_ofVH (by decide) (Nat.le_of_ble_eq_true rfl) ?_
  unfold P_L_close at hP
  refine z_sub (lv' := [(0, z_O p1)]) [0] rfl ?_
  refine z_aload_n dL_close_0 rfl 0 rfl ?_
  obtain ⟨a2, e2, hP⟩ := hP
  have k2 := f_p1 a2 e2
  refine z_wts (fun hT1 _ => ?_)
  refine z_hV (hh := hh_L_close) (c := 11) (n := 0) (Y1 := Y_X11_close) (st := []) e2 k2 z_cb11 (Nat.le_of_ble_eq_true rfl) rfl (s_X11_close hl9 k2 hP) rfl ⟨z_dc_X11_close, ⟨(Nat.le_of_ble_eq_true rfl), (Nat.le_of_ble_eq_true rfl)⟩, (Nat.le_of_ble_eq_true rfl)⟩ rfl zw_859 zw_860 zw_861 zw_1 zw_862 dL_close_1 z_hok_L_close (fun E M_1 hE9 hP _ x1 => ?_) (fun r_1 M_1 hP _ x1 => ?_)
  · obtain ⟨rfl, hP⟩ := hP
    · refine ⟨7, by decide, fun q_1 => ?_⟩
      refine z_astore_n (lv' := [(1, z_O _), (0, z_O _)]) dL_close_7 rfl (Nat.le_of_ble_eq_true rfl) rfl ?_
      refine z_iconst (v := 1) dL_close_8 (by decide) ?_
      exact z_reti rfl dL_close_9 hP
  · obtain ⟨rfl, hP⟩ := hP
    refine z_stk (st' := []) rfl ?_
    have k2 := x1.k (k := 11) hT1 k2
    refine z_goto (tgt := 10) dL_close_4 (by decide) ?_
    refine z_iconst (v := 0) dL_close_10 (by decide) ?_
    exact z_reti rfl dL_close_11 hP
set_option maxRecDepth 100000 in
def P_L_tick (p1 : Option Nat) (p2 : Int32) (p3 : Option Nat) (M : z_Mem) (Post : Int32 → z_Mem → Prop) : Prop := z_nn p1 fun a2 => (P_X11_tick a2 p2 M (fun x_1 M_1 => z_nn p3 fun a3 => (vp_in 0 (z_ln M_1 a3) ∧ (∀ M_5 : z_Mem, M_5 = z_sal M_1 a3 ((0 : Int32).toNatClampNeg) ((x_1 : Int32).toInt64) → (Post 0 M_5)))) (fun E M_1 => (E = "java/lang/IllegalArgumentException" ∧ Post 1 M_1) ∨ (E = "java/lang/IllegalStateException" ∧ Post 2 M_1)))
set_option maxRecDepth 100000 in
set_option maxHeartbeats 4000000 in
theorem s_L_tick {G : z_G} {M : z_Mem} {p1 : Option Nat} {p2 : Int32} {p3 : Option Nat} {Post : Int32 → z_Mem → Prop} (hl9 : G.1.stackTraces = false) (f_p1 : z_tr M p1 12) (f_p3 : z_tr M p3 25) (hP : P_L_tick p1 p2 p3 M Post) : z_MtH G Y_L_tick hh_L_tick M [z_O p1, z_I p2, z_O p3] (z_PI Post) := by
  refine z_ofVH (by decide) (Nat.le_of_ble_eq_true rfl) ?_
  unfold P_L_tick at hP
  refine z_sub (lv' := [(0, z_O p1), (1, z_I p2), (2, z_O p3)]) [0, 1, 2] rfl ?_
  refine z_aload_n dL_tick_0 rfl 2 rfl ?_
  refine z_iconst (v := 0) dL_tick_1 (by decide) ?_
  refine z_aload_n dL_tick_2 rfl 0 rfl ?_
  refine z_iload_n dL_tick_3 rfl 1 rfl ?_
  obtain ⟨a2, e2, hP⟩ := hP
  have k2 := f_p1 a2 e2
  refine z_wts (fun hT1 _ => ?_)
  refine z_hV (hh := hh_L_tick) (c := 11) (n := 1) (Y1 := Y_X11_tick) (st := [z_I _, z_O _]) e2 k2 z_cb11 (Nat.le_of_ble_eq_true rfl) rfl (s_X11_tick hl9 k2 hP) rfl ⟨z_dc_X11_tick, ⟨(Nat.le_of_ble_eq_true rfl), (Nat.le_of_ble_eq_true rfl)⟩, (Nat.le_of_ble_eq_true rfl)⟩ rfl zw_870 zw_871 zw_872 zw_1 zw_873 dL_tick_4 z_hok_L_tick (fun E M_1 hE9 hP _ x1 => ?_) (fun r_1 M_1 hP _ x1 => ?_)
  · rcases hP with ⟨rfl, hP⟩ | ⟨rfl, hP⟩
    · refine ⟨12, by decide, fun q_1 => ?_⟩
      refine z_astore_n (lv' := [(3, z_O _), (0, z_O _), (1, z_I _), (2, z_O _)]) dL_tick_12 rfl (Nat.le_of_ble_eq_true rfl) rfl ?_
      refine z_iconst (v := 1) dL_tick_13 (by decide) ?_
      refine z_pc (pc' := 14) rfl ?_
      exact z_reti rfl dL_tick_14 hP
    · refine ⟨15, by decide, fun q_1 => ?_⟩
      refine z_astore_n (lv' := [(3, z_O _), (0, z_O _), (1, z_I _), (2, z_O _)]) dL_tick_15 rfl (Nat.le_of_ble_eq_true rfl) rfl ?_
      refine z_iconst (v := 2) dL_tick_16 (by decide) ?_
      refine z_pc (pc' := 17) rfl ?_
      exact z_reti rfl dL_tick_17 hP
  · obtain ⟨x_1, rfl, hP⟩ := hP
    refine z_stk (st' := [z_I _, z_I _, z_O _]) rfl ?_
    have k2 := x1.k (k := 11) hT1 k2
    have f_p3 := x1.t (k := 24) hT1 f_p3
    refine z_i2l dL_tick_7 ?_
    obtain ⟨a3, e3, hP⟩ := hP
    have k3 := f_p3 a3 e3
    obtain ⟨i4, hP⟩ := hP
    refine z_last e3 k3 i4 dL_tick_8 ?_
    refine z_nm (fun M_5 g_5 => ?_)
    replace hP := hP M_5 g_5
    have q_5 := z_k5 g_5
    have k2 := z_kk q_5 k2
    have k3 := z_kk q_5 k3
    refine z_pc (pc' := 9) rfl ?_
    refine z_goto (tgt := 18) dL_tick_9 (by decide) ?_
    refine z_iconst (v := 0) dL_tick_18 (by decide) ?_
    exact z_reti rfl dL_tick_19 hP
set_option maxRecDepth 100000 in
def P_L_state (p1 : Option Nat) (p2 : Int32) (p3 : Option Nat) (M : z_Mem) (Post : Int32 → z_Mem → Prop) : Prop := z_nn p1 fun a2 => (P_X11_state a2 p2 M (fun x_1 M_1 => z_nn p3 fun a3 => (vp_in 0 (z_ln M_1 a3) ∧ (∀ M_5 : z_Mem, M_5 = z_sal M_1 a3 ((0 : Int32).toNatClampNeg) ((x_1 : Int32).toInt64) → (Post 0 M_5)))) (fun E M_1 => (E = "java/lang/IllegalArgumentException" ∧ Post 1 M_1)))
set_option maxRecDepth 100000 in
set_option maxHeartbeats 4000000 in
theorem s_L_state {G : z_G} {M : z_Mem} {p1 : Option Nat} {p2 : Int32} {p3 : Option Nat} {Post : Int32 → z_Mem → Prop} (hl9 : G.1.stackTraces = false) (f_p1 : z_tr M p1 12) (f_p3 : z_tr M p3 25) (hP : P_L_state p1 p2 p3 M Post) : z_MtH G Y_L_state hh_L_state M [z_O p1, z_I p2, z_O p3] (z_PI Post) := by
  refine z_ofVH (by decide) (Nat.le_of_ble_eq_true rfl) ?_
  unfold P_L_state at hP
  refine z_sub (lv' := [(0, z_O p1), (1, z_I p2), (2, z_O p3)]) [0, 1, 2] rfl ?_
  refine z_aload_n dL_state_0 rfl 2 rfl ?_
  refine z_iconst (v := 0) dL_state_1 (by decide) ?_
  refine z_aload_n dL_state_2 rfl 0 rfl ?_
  refine z_iload_n dL_state_3 rfl 1 rfl ?_
  obtain ⟨a2, e2, hP⟩ := hP
  have k2 := f_p1 a2 e2
  refine z_wts (fun hT1 _ => ?_)
  refine z_hV (hh := hh_L_state) (c := 11) (n := 1) (Y1 := Y_X11_state) (st := [z_I _, z_O _]) e2 k2 z_cb11 (Nat.le_of_ble_eq_true rfl) rfl (s_X11_state hl9 k2 hP) rfl ⟨z_dc_X11_state, ⟨(Nat.le_of_ble_eq_true rfl), (Nat.le_of_ble_eq_true rfl)⟩, (Nat.le_of_ble_eq_true rfl)⟩ rfl zw_1189 zw_1190 zw_1191 zw_1 zw_1192 dL_state_4 z_hok_L_state (fun E M_1 hE9 hP _ x1 => ?_) (fun r_1 M_1 hP _ x1 => ?_)
  · obtain ⟨rfl, hP⟩ := hP
    · refine ⟨12, by decide, fun q_1 => ?_⟩
      refine z_astore_n (lv' := [(3, z_O _), (0, z_O _), (1, z_I _), (2, z_O _)]) dL_state_12 rfl (Nat.le_of_ble_eq_true rfl) rfl ?_
      refine z_iconst (v := 1) dL_state_13 (by decide) ?_
      refine z_pc (pc' := 14) rfl ?_
      exact z_reti rfl dL_state_14 hP
  · obtain ⟨x_1, rfl, hP⟩ := hP
    refine z_stk (st' := [z_I _, z_I _, z_O _]) rfl ?_
    have k2 := x1.k (k := 11) hT1 k2
    have f_p3 := x1.t (k := 24) hT1 f_p3
    refine z_i2l dL_state_7 ?_
    obtain ⟨a3, e3, hP⟩ := hP
    have k3 := f_p3 a3 e3
    obtain ⟨i4, hP⟩ := hP
    refine z_last e3 k3 i4 dL_state_8 ?_
    refine z_nm (fun M_5 g_5 => ?_)
    replace hP := hP M_5 g_5
    have q_5 := z_k5 g_5
    have k2 := z_kk q_5 k2
    have k3 := z_kk q_5 k3
    refine z_pc (pc' := 9) rfl ?_
    refine z_goto (tgt := 15) dL_state_9 (by decide) ?_
    refine z_iconst (v := 0) dL_state_15 (by decide) ?_
    exact z_reti rfl dL_state_16 hP
set_option maxRecDepth 100000 in
def P_L_path (p1 : Option Nat) (p2 : Int32) (p3 : Int32) (p4 : Option Nat) (M : z_Mem) (Post : Int32 → z_Mem → Prop) : Prop := z_nn p1 fun a2 => (P_X11_path a2 p2 p3 M (fun x_1 M_1 => z_nn p4 fun a3 => (vp_in 0 (z_ln M_1 a3) ∧ (∀ M_5 : z_Mem, M_5 = z_sal M_1 a3 ((0 : Int32).toNatClampNeg) ((x_1 : Int32).toInt64) → (Post 0 M_5)))) (fun E M_1 => (E = "java/lang/IndexOutOfBoundsException" ∧ Post 1 M_1) ∨ (E = "java/lang/IllegalArgumentException" ∧ Post 2 M_1)))
set_option maxRecDepth 100000 in
set_option maxHeartbeats 4000000 in
theorem s_L_path {G : z_G} {M : z_Mem} {p1 : Option Nat} {p2 : Int32} {p3 : Int32} {p4 : Option Nat} {Post : Int32 → z_Mem → Prop} (hl9 : G.1.stackTraces = false) (f_p1 : z_tr M p1 12) (f_p4 : z_tr M p4 25) (hP : P_L_path p1 p2 p3 p4 M Post) : z_MtH G Y_L_path hh_L_path M [z_O p1, z_I p2, z_I p3, z_O p4] (z_PI Post) := by
  refine z_ofVH (by decide) (Nat.le_of_ble_eq_true rfl) ?_
  unfold P_L_path at hP
  refine z_sub (lv' := [(0, z_O p1), (1, z_I p2), (2, z_I p3), (3, z_O p4)]) [0, 1, 2, 3] rfl ?_
  refine z_aload_n dL_path_0 rfl 3 rfl ?_
  refine z_iconst (v := 0) dL_path_1 (by decide) ?_
  refine z_aload_n dL_path_2 rfl 0 rfl ?_
  refine z_iload_n dL_path_3 rfl 1 rfl ?_
  refine z_iload_n dL_path_4 rfl 2 rfl ?_
  obtain ⟨a2, e2, hP⟩ := hP
  have k2 := f_p1 a2 e2
  refine z_wts (fun hT1 _ => ?_)
  refine z_hV (hh := hh_L_path) (c := 11) (n := 2) (Y1 := Y_X11_path) (st := [z_I _, z_O _]) e2 k2 z_cb11 (Nat.le_of_ble_eq_true rfl) rfl (s_X11_path hl9 k2 hP) rfl ⟨z_dc_X11_path, ⟨(Nat.le_of_ble_eq_true rfl), (Nat.le_of_ble_eq_true rfl)⟩, (Nat.le_of_ble_eq_true rfl)⟩ rfl zw_1196 zw_1197 zw_1198 zw_1 zw_1199 dL_path_5 z_hok_L_path (fun E M_1 hE9 hP _ x1 => ?_) (fun r_1 M_1 hP _ x1 => ?_)
  · rcases hP with ⟨rfl, hP⟩ | ⟨rfl, hP⟩
    · refine ⟨13, by decide, fun q_1 => ?_⟩
      refine z_astore (lv' := [(4, z_O _), (0, z_O _), (1, z_I _), (2, z_I _), (3, z_O _)]) dL_path_13 (Nat.le_of_ble_eq_true rfl) rfl ?_
      refine z_pc (pc' := 15) rfl ?_
      refine z_iconst (v := 1) dL_path_15 (by decide) ?_
      exact z_reti rfl dL_path_16 hP
    · refine ⟨17, by decide, fun q_1 => ?_⟩
      refine z_astore (lv' := [(4, z_O _), (0, z_O _), (1, z_I _), (2, z_I _), (3, z_O _)]) dL_path_17 (Nat.le_of_ble_eq_true rfl) rfl ?_
      refine z_pc (pc' := 19) rfl ?_
      refine z_iconst (v := 2) dL_path_19 (by decide) ?_
      exact z_reti rfl dL_path_20 hP
  · obtain ⟨x_1, rfl, hP⟩ := hP
    refine z_stk (st' := [z_I _, z_I _, z_O _]) rfl ?_
    have k2 := x1.k (k := 11) hT1 k2
    have f_p4 := x1.t (k := 24) hT1 f_p4
    refine z_i2l dL_path_8 ?_
    refine z_pc (pc' := 9) rfl ?_
    obtain ⟨a3, e3, hP⟩ := hP
    have k3 := f_p4 a3 e3
    obtain ⟨i4, hP⟩ := hP
    refine z_last e3 k3 i4 dL_path_9 ?_
    refine z_nm (fun M_5 g_5 => ?_)
    replace hP := hP M_5 g_5
    have q_5 := z_k5 g_5
    have k2 := z_kk q_5 k2
    have k3 := z_kk q_5 k3
    refine z_goto (tgt := 21) dL_path_10 (by decide) ?_
    refine z_iconst (v := 0) dL_path_21 (by decide) ?_
    exact z_reti rfl dL_path_22 hP
set_option maxRecDepth 100000 in
def P_L_stream (p1 : Option Nat) (p2 : Int32) (p3 : Int32) (p4 : Option Nat) (M : z_Mem) (Post : Int32 → z_Mem → Prop) : Prop := z_nn p1 fun a2 => (P_X11_stream a2 p2 p3 M (fun x_1 M_1 => z_nn p4 fun a3 => (vp_in 0 (z_ln M_1 a3) ∧ (∀ M_5 : z_Mem, M_5 = z_sal M_1 a3 ((0 : Int32).toNatClampNeg) ((x_1 : Int32).toInt64) → (Post 0 M_5)))) (fun E M_1 => (E = "java/lang/IndexOutOfBoundsException" ∧ Post 1 M_1) ∨ (E = "java/lang/IllegalArgumentException" ∧ Post 2 M_1)))
set_option maxRecDepth 100000 in
set_option maxHeartbeats 4000000 in
theorem s_L_stream {G : z_G} {M : z_Mem} {p1 : Option Nat} {p2 : Int32} {p3 : Int32} {p4 : Option Nat} {Post : Int32 → z_Mem → Prop} (hl9 : G.1.stackTraces = false) (f_p1 : z_tr M p1 12) (f_p4 : z_tr M p4 25) (hP : P_L_stream p1 p2 p3 p4 M Post) : z_MtH G Y_L_stream hh_L_stream M [z_O p1, z_I p2, z_I p3, z_O p4] (z_PI Post) := by
  refine z_ofVH (by decide) (Nat.le_of_ble_eq_true rfl) ?_
  unfold P_L_stream at hP
  refine z_sub (lv' := [(0, z_O p1), (1, z_I p2), (2, z_I p3), (3, z_O p4)]) [0, 1, 2, 3] rfl ?_
  refine z_aload_n dL_stream_0 rfl 3 rfl ?_
  refine z_iconst (v := 0) dL_stream_1 (by decide) ?_
  refine z_aload_n dL_stream_2 rfl 0 rfl ?_
  refine z_iload_n dL_stream_3 rfl 1 rfl ?_
  refine z_iload_n dL_stream_4 rfl 2 rfl ?_
  obtain ⟨a2, e2, hP⟩ := hP
  have k2 := f_p1 a2 e2
  refine z_wts (fun hT1 _ => ?_)
  refine z_hV (hh := hh_L_stream) (c := 11) (n := 2) (Y1 := Y_X11_stream) (st := [z_I _, z_O _]) e2 k2 z_cb11 (Nat.le_of_ble_eq_true rfl) rfl (s_X11_stream hl9 k2 hP) rfl ⟨z_dc_X11_stream, ⟨(Nat.le_of_ble_eq_true rfl), (Nat.le_of_ble_eq_true rfl)⟩, (Nat.le_of_ble_eq_true rfl)⟩ rfl zw_1206 zw_1207 zw_1208 zw_1 zw_1209 dL_stream_5 z_hok_L_stream (fun E M_1 hE9 hP _ x1 => ?_) (fun r_1 M_1 hP _ x1 => ?_)
  · rcases hP with ⟨rfl, hP⟩ | ⟨rfl, hP⟩
    · refine ⟨13, by decide, fun q_1 => ?_⟩
      refine z_astore (lv' := [(4, z_O _), (0, z_O _), (1, z_I _), (2, z_I _), (3, z_O _)]) dL_stream_13 (Nat.le_of_ble_eq_true rfl) rfl ?_
      refine z_pc (pc' := 15) rfl ?_
      refine z_iconst (v := 1) dL_stream_15 (by decide) ?_
      exact z_reti rfl dL_stream_16 hP
    · refine ⟨17, by decide, fun q_1 => ?_⟩
      refine z_astore (lv' := [(4, z_O _), (0, z_O _), (1, z_I _), (2, z_I _), (3, z_O _)]) dL_stream_17 (Nat.le_of_ble_eq_true rfl) rfl ?_
      refine z_pc (pc' := 19) rfl ?_
      refine z_iconst (v := 2) dL_stream_19 (by decide) ?_
      exact z_reti rfl dL_stream_20 hP
  · obtain ⟨x_1, rfl, hP⟩ := hP
    refine z_stk (st' := [z_I _, z_I _, z_O _]) rfl ?_
    have k2 := x1.k (k := 11) hT1 k2
    have f_p4 := x1.t (k := 24) hT1 f_p4
    refine z_i2l dL_stream_8 ?_
    refine z_pc (pc' := 9) rfl ?_
    obtain ⟨a3, e3, hP⟩ := hP
    have k3 := f_p4 a3 e3
    obtain ⟨i4, hP⟩ := hP
    refine z_last e3 k3 i4 dL_stream_9 ?_
    refine z_nm (fun M_5 g_5 => ?_)
    replace hP := hP M_5 g_5
    have q_5 := z_k5 g_5
    have k2 := z_kk q_5 k2
    have k3 := z_kk q_5 k3
    refine z_goto (tgt := 21) dL_stream_10 (by decide) ?_
    refine z_iconst (v := 0) dL_stream_21 (by decide) ?_
    exact z_reti rfl dL_stream_22 hP
set_option maxRecDepth 100000 in
def P_L_packet (p1 : Option Nat) (p2 : Int32) (p3 : Int32) (p4 : Option Nat) (M : z_Mem) (Post : Int32 → z_Mem → Prop) : Prop := z_nn p1 fun a2 => (P_X11_packet a2 p2 p3 M (fun x_1 M_1 => z_nn p4 fun a3 => (vp_in 0 (z_ln M_1 a3) ∧ (∀ M_5 : z_Mem, M_5 = z_sal M_1 a3 ((0 : Int32).toNatClampNeg) ((x_1 : Int32).toInt64) → (Post 0 M_5)))) (fun E M_1 => (E = "java/lang/IndexOutOfBoundsException" ∧ Post 1 M_1) ∨ (E = "java/lang/IllegalArgumentException" ∧ Post 2 M_1)))
set_option maxRecDepth 100000 in
set_option maxHeartbeats 4000000 in
theorem s_L_packet {G : z_G} {M : z_Mem} {p1 : Option Nat} {p2 : Int32} {p3 : Int32} {p4 : Option Nat} {Post : Int32 → z_Mem → Prop} (hl9 : G.1.stackTraces = false) (f_p1 : z_tr M p1 12) (f_p4 : z_tr M p4 25) (hP : P_L_packet p1 p2 p3 p4 M Post) : z_MtH G Y_L_packet hh_L_packet M [z_O p1, z_I p2, z_I p3, z_O p4] (z_PI Post) := by
  refine z_ofVH (by decide) (Nat.le_of_ble_eq_true rfl) ?_
  unfold P_L_packet at hP
  refine z_sub (lv' := [(0, z_O p1), (1, z_I p2), (2, z_I p3), (3, z_O p4)]) [0, 1, 2, 3] rfl ?_
  refine z_aload_n dL_packet_0 rfl 3 rfl ?_
  refine z_iconst (v := 0) dL_packet_1 (by decide) ?_
  refine z_aload_n dL_packet_2 rfl 0 rfl ?_
  refine z_iload_n dL_packet_3 rfl 1 rfl ?_
  refine z_iload_n dL_packet_4 rfl 2 rfl ?_
  obtain ⟨a2, e2, hP⟩ := hP
  have k2 := f_p1 a2 e2
  refine z_wts (fun hT1 _ => ?_)
  refine z_hV (hh := hh_L_packet) (c := 11) (n := 2) (Y1 := Y_X11_packet) (st := [z_I _, z_O _]) e2 k2 z_cb11 (Nat.le_of_ble_eq_true rfl) rfl (s_X11_packet hl9 k2 hP) rfl ⟨z_dc_X11_packet, ⟨(Nat.le_of_ble_eq_true rfl), (Nat.le_of_ble_eq_true rfl)⟩, (Nat.le_of_ble_eq_true rfl)⟩ rfl zw_1213 zw_1214 zw_1215 zw_1 zw_1216 dL_packet_5 z_hok_L_packet (fun E M_1 hE9 hP _ x1 => ?_) (fun r_1 M_1 hP _ x1 => ?_)
  · rcases hP with ⟨rfl, hP⟩ | ⟨rfl, hP⟩
    · refine ⟨13, by decide, fun q_1 => ?_⟩
      refine z_astore (lv' := [(4, z_O _), (0, z_O _), (1, z_I _), (2, z_I _), (3, z_O _)]) dL_packet_13 (Nat.le_of_ble_eq_true rfl) rfl ?_
      refine z_pc (pc' := 15) rfl ?_
      refine z_iconst (v := 1) dL_packet_15 (by decide) ?_
      exact z_reti rfl dL_packet_16 hP
    · refine ⟨17, by decide, fun q_1 => ?_⟩
      refine z_astore (lv' := [(4, z_O _), (0, z_O _), (1, z_I _), (2, z_I _), (3, z_O _)]) dL_packet_17 (Nat.le_of_ble_eq_true rfl) rfl ?_
      refine z_pc (pc' := 19) rfl ?_
      refine z_iconst (v := 2) dL_packet_19 (by decide) ?_
      exact z_reti rfl dL_packet_20 hP
  · obtain ⟨x_1, rfl, hP⟩ := hP
    refine z_stk (st' := [z_I _, z_I _, z_O _]) rfl ?_
    have k2 := x1.k (k := 11) hT1 k2
    have f_p4 := x1.t (k := 24) hT1 f_p4
    refine z_i2l dL_packet_8 ?_
    refine z_pc (pc' := 9) rfl ?_
    obtain ⟨a3, e3, hP⟩ := hP
    have k3 := f_p4 a3 e3
    obtain ⟨i4, hP⟩ := hP
    refine z_last e3 k3 i4 dL_packet_9 ?_
    refine z_nm (fun M_5 g_5 => ?_)
    replace hP := hP M_5 g_5
    have q_5 := z_k5 g_5
    have k2 := z_kk q_5 k2
    have k3 := z_kk q_5 k3
    refine z_goto (tgt := 21) dL_packet_10 (by decide) ?_
    refine z_iconst (v := 0) dL_packet_21 (by decide) ?_
    exact z_reti rfl dL_packet_22 hP
set_option maxRecDepth 100000 in
def P_L_count (p1 : Option Nat) (p2 : Int32) (p3 : Option Nat) (M : z_Mem) (Post : Int32 → z_Mem → Prop) : Prop := z_nn p1 fun a2 => (P_X11_count a2 p2 M (fun x_1 M_1 => z_nn p3 fun a3 => (vp_in 0 (z_ln M_1 a3) ∧ (∀ M_5 : z_Mem, M_5 = z_sal M_1 a3 ((0 : Int32).toNatClampNeg) ((x_1 : Int32).toInt64) → (Post 0 M_5)))) (fun E M_1 => (E = "java/lang/IllegalArgumentException" ∧ Post 1 M_1)))
set_option maxRecDepth 100000 in
set_option maxHeartbeats 4000000 in
theorem s_L_count {G : z_G} {M : z_Mem} {p1 : Option Nat} {p2 : Int32} {p3 : Option Nat} {Post : Int32 → z_Mem → Prop} (hl9 : G.1.stackTraces = false) (f_p1 : z_tr M p1 12) (f_p3 : z_tr M p3 25) (hP : P_L_count p1 p2 p3 M Post) : z_MtH G Y_L_count hh_L_count M [z_O p1, z_I p2, z_O p3] (z_PI Post) := by
  refine z_ofVH (by decide) (Nat.le_of_ble_eq_true rfl) ?_
  unfold P_L_count at hP
  refine z_sub (lv' := [(0, z_O p1), (1, z_I p2), (2, z_O p3)]) [0, 1, 2] rfl ?_
  refine z_aload_n dL_count_0 rfl 2 rfl ?_
  refine z_iconst (v := 0) dL_count_1 (by decide) ?_
  refine z_aload_n dL_count_2 rfl 0 rfl ?_
  refine z_iload_n dL_count_3 rfl 1 rfl ?_
  obtain ⟨a2, e2, hP⟩ := hP
  have k2 := f_p1 a2 e2
  refine z_wts (fun hT1 _ => ?_)
  refine z_hV (hh := hh_L_count) (c := 11) (n := 1) (Y1 := Y_X11_count) (st := [z_I _, z_O _]) e2 k2 z_cb11 (Nat.le_of_ble_eq_true rfl) rfl (s_X11_count hl9 k2 hP) rfl ⟨z_dc_X11_count, ⟨(Nat.le_of_ble_eq_true rfl), (Nat.le_of_ble_eq_true rfl)⟩, (Nat.le_of_ble_eq_true rfl)⟩ rfl zw_1226 zw_1227 zw_1228 zw_1 zw_1229 dL_count_4 z_hok_L_count (fun E M_1 hE9 hP _ x1 => ?_) (fun r_1 M_1 hP _ x1 => ?_)
  · obtain ⟨rfl, hP⟩ := hP
    · refine ⟨12, by decide, fun q_1 => ?_⟩
      refine z_astore_n (lv' := [(3, z_O _), (0, z_O _), (1, z_I _), (2, z_O _)]) dL_count_12 rfl (Nat.le_of_ble_eq_true rfl) rfl ?_
      refine z_iconst (v := 1) dL_count_13 (by decide) ?_
      refine z_pc (pc' := 14) rfl ?_
      exact z_reti rfl dL_count_14 hP
  · obtain ⟨x_1, rfl, hP⟩ := hP
    refine z_stk (st' := [z_I _, z_I _, z_O _]) rfl ?_
    have k2 := x1.k (k := 11) hT1 k2
    have f_p3 := x1.t (k := 24) hT1 f_p3
    refine z_i2l dL_count_7 ?_
    obtain ⟨a3, e3, hP⟩ := hP
    have k3 := f_p3 a3 e3
    obtain ⟨i4, hP⟩ := hP
    refine z_last e3 k3 i4 dL_count_8 ?_
    refine z_nm (fun M_5 g_5 => ?_)
    replace hP := hP M_5 g_5
    have q_5 := z_k5 g_5
    have k2 := z_kk q_5 k2
    have k3 := z_kk q_5 k3
    refine z_pc (pc' := 9) rfl ?_
    refine z_goto (tgt := 15) dL_count_9 (by decide) ?_
    refine z_iconst (v := 0) dL_count_15 (by decide) ?_
    exact z_reti rfl dL_count_16 hP
set_option maxRecDepth 100000 in
def P_L_inFlightAnew (p1 : Option Nat) (p2 : Int32) (p3 : Option Nat) (M : z_Mem) (Post : Int32 → z_Mem → Prop) : Prop := z_nn p1 fun a2 => (P_X11_inFlightAnew a2 p2 M (fun x_1 M_1 => z_nn p3 fun a3 => (vp_in 0 (z_ln M_1 a3) ∧ (∀ M_5 : z_Mem, M_5 = z_sal M_1 a3 ((0 : Int32).toNatClampNeg) ((x_1 : Int32).toInt64) → (Post 0 M_5)))) (fun E M_1 => (E = "java/lang/IndexOutOfBoundsException" ∧ Post 1 M_1)))
set_option maxRecDepth 100000 in
set_option maxHeartbeats 4000000 in
theorem s_L_inFlightAnew {G : z_G} {M : z_Mem} {p1 : Option Nat} {p2 : Int32} {p3 : Option Nat} {Post : Int32 → z_Mem → Prop} (hl9 : G.1.stackTraces = false) (f_p1 : z_tr M p1 12) (f_p3 : z_tr M p3 25) (hP : P_L_inFlightAnew p1 p2 p3 M Post) : z_MtH G Y_L_inFlightAnew hh_L_inFlightAnew M [z_O p1, z_I p2, z_O p3] (z_PI Post) := by
  refine z_ofVH (by decide) (Nat.le_of_ble_eq_true rfl) ?_
  unfold P_L_inFlightAnew at hP
  refine z_sub (lv' := [(0, z_O p1), (1, z_I p2), (2, z_O p3)]) [0, 1, 2] rfl ?_
  refine z_aload_n dL_inFlightAnew_0 rfl 2 rfl ?_
  refine z_iconst (v := 0) dL_inFlightAnew_1 (by decide) ?_
  refine z_aload_n dL_inFlightAnew_2 rfl 0 rfl ?_
  refine z_iload_n dL_inFlightAnew_3 rfl 1 rfl ?_
  obtain ⟨a2, e2, hP⟩ := hP
  have k2 := f_p1 a2 e2
  refine z_wts (fun hT1 _ => ?_)
  refine z_hV (hh := hh_L_inFlightAnew) (c := 11) (n := 1) (Y1 := Y_X11_inFlightAnew) (st := [z_I _, z_O _]) e2 k2 z_cb11 (Nat.le_of_ble_eq_true rfl) rfl (s_X11_inFlightAnew hl9 k2 hP) rfl ⟨z_dc_X11_inFlightAnew, ⟨(Nat.le_of_ble_eq_true rfl), (Nat.le_of_ble_eq_true rfl)⟩, (Nat.le_of_ble_eq_true rfl)⟩ rfl zw_1233 zw_1234 zw_1235 zw_1 zw_1236 dL_inFlightAnew_4 z_hok_L_inFlightAnew (fun E M_1 hE9 hP _ x1 => ?_) (fun r_1 M_1 hP _ x1 => ?_)
  · obtain ⟨rfl, hP⟩ := hP
    · refine ⟨12, by decide, fun q_1 => ?_⟩
      refine z_astore_n (lv' := [(3, z_O _), (0, z_O _), (1, z_I _), (2, z_O _)]) dL_inFlightAnew_12 rfl (Nat.le_of_ble_eq_true rfl) rfl ?_
      refine z_iconst (v := 1) dL_inFlightAnew_13 (by decide) ?_
      refine z_pc (pc' := 14) rfl ?_
      exact z_reti rfl dL_inFlightAnew_14 hP
  · obtain ⟨x_1, rfl, hP⟩ := hP
    refine z_stk (st' := [z_I _, z_I _, z_O _]) rfl ?_
    have k2 := x1.k (k := 11) hT1 k2
    have f_p3 := x1.t (k := 24) hT1 f_p3
    refine z_i2l dL_inFlightAnew_7 ?_
    obtain ⟨a3, e3, hP⟩ := hP
    have k3 := f_p3 a3 e3
    obtain ⟨i4, hP⟩ := hP
    refine z_last e3 k3 i4 dL_inFlightAnew_8 ?_
    refine z_nm (fun M_5 g_5 => ?_)
    replace hP := hP M_5 g_5
    have q_5 := z_k5 g_5
    have k2 := z_kk q_5 k2
    have k3 := z_kk q_5 k3
    refine z_pc (pc' := 9) rfl ?_
    refine z_goto (tgt := 15) dL_inFlightAnew_9 (by decide) ?_
    refine z_iconst (v := 0) dL_inFlightAnew_15 (by decide) ?_
    exact z_reti rfl dL_inFlightAnew_16 hP
set_option maxRecDepth 100000 in
def P_L_gotAnew (p1 : Option Nat) (p2 : Int32) (p3 : Option Nat) (M : z_Mem) (Post : Int32 → z_Mem → Prop) : Prop := z_nn p1 fun a2 => (P_X11_gotAnew a2 p2 M (fun x_1 M_1 => z_nn p3 fun a3 => (vp_in 0 (z_ln M_1 a3) ∧ (∀ M_5 : z_Mem, M_5 = z_sal M_1 a3 ((0 : Int32).toNatClampNeg) ((x_1 : Int32).toInt64) → (Post 0 M_5)))) (fun E M_1 => (E = "java/lang/IndexOutOfBoundsException" ∧ Post 1 M_1)))
set_option maxRecDepth 100000 in
set_option maxHeartbeats 4000000 in
theorem s_L_gotAnew {G : z_G} {M : z_Mem} {p1 : Option Nat} {p2 : Int32} {p3 : Option Nat} {Post : Int32 → z_Mem → Prop} (hl9 : G.1.stackTraces = false) (f_p1 : z_tr M p1 12) (f_p3 : z_tr M p3 25) (hP : P_L_gotAnew p1 p2 p3 M Post) : z_MtH G Y_L_gotAnew hh_L_gotAnew M [z_O p1, z_I p2, z_O p3] (z_PI Post) := by
  refine z_ofVH (by decide) (Nat.le_of_ble_eq_true rfl) ?_
  unfold P_L_gotAnew at hP
  refine z_sub (lv' := [(0, z_O p1), (1, z_I p2), (2, z_O p3)]) [0, 1, 2] rfl ?_
  refine z_aload_n dL_gotAnew_0 rfl 2 rfl ?_
  refine z_iconst (v := 0) dL_gotAnew_1 (by decide) ?_
  refine z_aload_n dL_gotAnew_2 rfl 0 rfl ?_
  refine z_iload_n dL_gotAnew_3 rfl 1 rfl ?_
  obtain ⟨a2, e2, hP⟩ := hP
  have k2 := f_p1 a2 e2
  refine z_wts (fun hT1 _ => ?_)
  refine z_hV (hh := hh_L_gotAnew) (c := 11) (n := 1) (Y1 := Y_X11_gotAnew) (st := [z_I _, z_O _]) e2 k2 z_cb11 (Nat.le_of_ble_eq_true rfl) rfl (s_X11_gotAnew hl9 k2 hP) rfl ⟨z_dc_X11_gotAnew, ⟨(Nat.le_of_ble_eq_true rfl), (Nat.le_of_ble_eq_true rfl)⟩, (Nat.le_of_ble_eq_true rfl)⟩ rfl zw_1240 zw_1241 zw_1242 zw_1 zw_1243 dL_gotAnew_4 z_hok_L_gotAnew (fun E M_1 hE9 hP _ x1 => ?_) (fun r_1 M_1 hP _ x1 => ?_)
  · obtain ⟨rfl, hP⟩ := hP
    · refine ⟨12, by decide, fun q_1 => ?_⟩
      refine z_astore_n (lv' := [(3, z_O _), (0, z_O _), (1, z_I _), (2, z_O _)]) dL_gotAnew_12 rfl (Nat.le_of_ble_eq_true rfl) rfl ?_
      refine z_iconst (v := 1) dL_gotAnew_13 (by decide) ?_
      refine z_pc (pc' := 14) rfl ?_
      exact z_reti rfl dL_gotAnew_14 hP
  · obtain ⟨x_1, rfl, hP⟩ := hP
    refine z_stk (st' := [z_I _, z_I _, z_O _]) rfl ?_
    have k2 := x1.k (k := 11) hT1 k2
    have f_p3 := x1.t (k := 24) hT1 f_p3
    refine z_i2l dL_gotAnew_7 ?_
    obtain ⟨a3, e3, hP⟩ := hP
    have k3 := f_p3 a3 e3
    obtain ⟨i4, hP⟩ := hP
    refine z_last e3 k3 i4 dL_gotAnew_8 ?_
    refine z_nm (fun M_5 g_5 => ?_)
    replace hP := hP M_5 g_5
    have q_5 := z_k5 g_5
    have k2 := z_kk q_5 k2
    have k3 := z_kk q_5 k3
    refine z_pc (pc' := 9) rfl ?_
    refine z_goto (tgt := 15) dL_gotAnew_9 (by decide) ?_
    refine z_iconst (v := 0) dL_gotAnew_15 (by decide) ?_
    exact z_reti rfl dL_gotAnew_16 hP
def P_L_law_1056 (L : Nat) (xs : Nat → Int32) (Post : Int32 → z_Mem → Prop) (J23 : Option Nat → Option Nat → Option Nat → Int32 → z_Mem → Prop) (x1 : Option Nat) (x2 : Option Nat) (x3 : Option Nat) (x4 : Int32) (M : z_Mem) : Prop := ∀ x_1 : Int32, x_1 = x4 + 6 → (J23 x1 x2 x3 x_1 M)
def P_L_law_321 (L : Nat) (xs : Nat → Int32) (Post : Int32 → z_Mem → Prop) (J23 : Option Nat → Option Nat → Option Nat → Int32 → z_Mem → Prop) (x1 : Option Nat) (x2 : Option Nat) (x3 : Option Nat) (x4 : Int32) (M : z_Mem) : Prop := P_L_law_1056 L xs Post J23 x1 x2 x3 x4 M
def P_L_law_315 (L : Nat) (xs : Nat → Int32) (Post : Int32 → z_Mem → Prop) (J23 : Option Nat → Option Nat → Option Nat → Int32 → z_Mem → Prop) (x1 : Option Nat) (x2 : Option Nat) (x3 : Option Nat) (x4 : Int32) (t0 : Int64) (t1 : Int64) (M : z_Mem) : Prop := (((lg_cmp t0 t1) = 0 → P_L_law_321 L xs Post J23 x1 x2 x3 x4 M) ∧ (¬ (lg_cmp t0 t1) = 0 → Post 0 M))
def P_L_law_281 (L : Nat) (xs : Nat → Int32) (Post : Int32 → z_Mem → Prop) (J23 : Option Nat → Option Nat → Option Nat → Int32 → z_Mem → Prop) (x1 : Option Nat) (x2 : Option Nat) (x3 : Option Nat) (x4 : Int32) (x5 : Int32) (t0 : Option Nat) (t1 : Int32) (t2 : Int32) (M : z_Mem) : Prop := z_nn t0 fun a4 => (P_X12_setUp a4 t1 t2 M fun x_3 M_3 => (z_nn x2 fun a6 => (P_X12_thrown a6 M_3 fun x_5 M_5 => (((x_5 = x5 → ((x5 = 0 → z_nn x3 fun a9 => (vp_in 0 (z_ln M_5 a9) ∧ (((x_3 = 0 → P_L_law_315 L xs Post J23 x1 x2 x3 x4 (z_al M_5 a9 ((0 : Int32).toNatClampNeg)) 0 M_5) ∧ (¬ x_3 = 0 → P_L_law_315 L xs Post J23 x1 x2 x3 x4 (z_al M_5 a9 ((0 : Int32).toNatClampNeg)) 1 M_5))))) ∧ (¬ x5 = 0 → P_L_law_321 L xs Post J23 x1 x2 x3 x4 M_5))) ∧ (¬ x_5 = x5 → Post 0 M_5))))))
def P_L_law_254 (L : Nat) (xs : Nat → Int32) (Post : Int32 → z_Mem → Prop) (J23 : Option Nat → Option Nat → Option Nat → Int32 → z_Mem → Prop) (x1 : Option Nat) (x2 : Option Nat) (x3 : Option Nat) (x4 : Int32) (t0 : Option Nat) (t1 : Int32) (t2 : Int32) (M : z_Mem) : Prop := P_L_setUp t0 t1 t2 x3 M fun x_12 M_12 => (vp_in (x4 + 1) L ∧ (vp_in (x4 + 2) L ∧ ((((xs ((x4 + 2) : Int32).toNatClampNeg) = 0 → P_L_law_281 L xs Post J23 x1 x2 x3 x4 x_12 x2 (xs ((x4 + 1) : Int32).toNatClampNeg) 0 M_12) ∧ (¬ (xs ((x4 + 2) : Int32).toNatClampNeg) = 0 → P_L_law_281 L xs Post J23 x1 x2 x3 x4 x_12 x2 (xs ((x4 + 1) : Int32).toNatClampNeg) 1 M_12)))))
def P_L_law_377 (L : Nat) (xs : Nat → Int32) (Post : Int32 → z_Mem → Prop) (J23 : Option Nat → Option Nat → Option Nat → Int32 → z_Mem → Prop) (x1 : Option Nat) (x2 : Option Nat) (x3 : Option Nat) (x4 : Int32) (t0 : Option Nat) (t1 : Int32) (t2 : Int32) (M : z_Mem) : Prop := vp_in (x4 + 3) L ∧ (z_nn t0 fun a18 => (P_X12_lose a18 t1 t2 (xs ((x4 + 3) : Int32).toNatClampNeg) M fun M_17 => (P_L_law_1056 L xs Post J23 x1 x2 x3 x4 M_17)))
def P_L_law_345 (L : Nat) (xs : Nat → Int32) (Post : Int32 → z_Mem → Prop) (J23 : Option Nat → Option Nat → Option Nat → Int32 → z_Mem → Prop) (x1 : Option Nat) (x2 : Option Nat) (x3 : Option Nat) (x4 : Int32) (t0 : Option Nat) (t1 : Int32) (t2 : Int32) (M : z_Mem) : Prop := vp_in (x4 + 3) L ∧ (P_L_lose t0 t1 t2 (xs ((x4 + 3) : Int32).toNatClampNeg) M fun x_20 M_20 => (vp_in (x4 + 1) L ∧ (vp_in (x4 + 2) L ∧ ((((xs ((x4 + 2) : Int32).toNatClampNeg) = 0 → P_L_law_377 L xs Post J23 x1 x2 x3 x4 x2 (xs ((x4 + 1) : Int32).toNatClampNeg) 0 M_20) ∧ (¬ (xs ((x4 + 2) : Int32).toNatClampNeg) = 0 → P_L_law_377 L xs Post J23 x1 x2 x3 x4 x2 (xs ((x4 + 1) : Int32).toNatClampNeg) 1 M_20))))))
def P_L_law_512 (L : Nat) (xs : Nat → Int32) (Post : Int32 → z_Mem → Prop) (J23 : Option Nat → Option Nat → Option Nat → Int32 → z_Mem → Prop) (x1 : Option Nat) (x2 : Option Nat) (x3 : Option Nat) (x4 : Int32) (t0 : Option Nat) (t1 : Int32) (M : z_Mem) : Prop := z_nn t0 fun a25 => (P_X12_setCookies a25 t1 M fun x_24 M_24 => (P_L_law_1056 L xs Post J23 x1 x2 x3 x4 M_24))
def P_L_law_493 (L : Nat) (xs : Nat → Int32) (Post : Int32 → z_Mem → Prop) (J23 : Option Nat → Option Nat → Option Nat → Int32 → z_Mem → Prop) (x1 : Option Nat) (x2 : Option Nat) (x3 : Option Nat) (x4 : Int32) (t0 : Option Nat) (t1 : Int32) (M : z_Mem) : Prop := z_nn t0 fun a27 => (P_X11_setCookies a27 t1 M fun x_26 M_26 => (vp_in (x4 + 1) L ∧ ((((xs ((x4 + 1) : Int32).toNatClampNeg) = 0 → P_L_law_512 L xs Post J23 x1 x2 x3 x4 x2 0 M_26) ∧ (¬ (xs ((x4 + 1) : Int32).toNatClampNeg) = 0 → P_L_law_512 L xs Post J23 x1 x2 x3 x4 x2 1 M_26)))))
set_option maxRecDepth 100000 in
def P_L_law_23 (L : Nat) (xs : Nat → Int32) (Post : Int32 → z_Mem → Prop)  : Nat → Option Nat → Option Nat → Option Nat → Int32 → z_Mem → Prop
  | 0, _, _, _, _, _ => False
  | n + 1, x1, x2, x3, x4, M => ((((nI L) - 6) < x4 → Post 1 M) ∧ (¬ ((nI L) - 6) < x4 → vp_in x4 L ∧ (((((xs (x4 : Int32).toNatClampNeg) &&& 31) = nI 0 → vp_in (x4 + 1) L ∧ (vp_in (x4 + 2) L ∧ (vp_in (x4 + 3) L ∧ (vp_in (x4 + 4) L ∧ (vp_in (x4 + 5) L ∧ (P_L_setPath x1 (xs ((x4 + 1) : Int32).toNatClampNeg) (xs ((x4 + 2) : Int32).toNatClampNeg) (xs ((x4 + 3) : Int32).toNatClampNeg) (xs ((x4 + 4) : Int32).toNatClampNeg) (xs ((x4 + 5) : Int32).toNatClampNeg) M fun x_38 M_38 => (vp_in (x4 + 1) L ∧ (vp_in (x4 + 2) L ∧ (vp_in (x4 + 3) L ∧ (vp_in (x4 + 4) L ∧ (vp_in (x4 + 5) L ∧ (z_nn x2 fun a45 => (P_X12_setPath a45 (xs ((x4 + 1) : Int32).toNatClampNeg) (xs ((x4 + 2) : Int32).toNatClampNeg) (xs ((x4 + 3) : Int32).toNatClampNeg) (xs ((x4 + 4) : Int32).toNatClampNeg) (xs ((x4 + 5) : Int32).toNatClampNeg) M_38 fun M_44 => (P_L_law_1056 L xs Post (fun q0 q1 q2 q3 qM => P_L_law_23 L xs Post n q0 q1 q2 q3 qM) x1 x2 x3 x4 M_44)))))))))))))) ∧ (((xs (x4 : Int32).toNatClampNeg) &&& 31) = nI 1 → vp_in (x4 + 1) L ∧ (vp_in (x4 + 2) L ∧ ((((xs ((x4 + 2) : Int32).toNatClampNeg) = 0 → P_L_law_254 L xs Post (fun q0 q1 q2 q3 qM => P_L_law_23 L xs Post n q0 q1 q2 q3 qM) x1 x2 x3 x4 x1 (xs ((x4 + 1) : Int32).toNatClampNeg) 0 M) ∧ (¬ (xs ((x4 + 2) : Int32).toNatClampNeg) = 0 → P_L_law_254 L xs Post (fun q0 q1 q2 q3 qM => P_L_law_23 L xs Post n q0 q1 q2 q3 qM) x1 x2 x3 x4 x1 (xs ((x4 + 1) : Int32).toNatClampNeg) 1 M))))) ∧ (((xs (x4 : Int32).toNatClampNeg) &&& 31) = nI 2 → vp_in (x4 + 1) L ∧ (vp_in (x4 + 2) L ∧ ((((xs ((x4 + 2) : Int32).toNatClampNeg) = 0 → P_L_law_345 L xs Post (fun q0 q1 q2 q3 qM => P_L_law_23 L xs Post n q0 q1 q2 q3 qM) x1 x2 x3 x4 x1 (xs ((x4 + 1) : Int32).toNatClampNeg) 0 M) ∧ (¬ (xs ((x4 + 2) : Int32).toNatClampNeg) = 0 → P_L_law_345 L xs Post (fun q0 q1 q2 q3 qM => P_L_law_23 L xs Post n q0 q1 q2 q3 qM) x1 x2 x3 x4 x1 (xs ((x4 + 1) : Int32).toNatClampNeg) 1 M))))) ∧ (((xs (x4 : Int32).toNatClampNeg) &&& 31) = nI 3 → vp_in (x4 + 1) L ∧ (vp_in (x4 + 2) L ∧ (vp_in (x4 + 3) L ∧ (P_L_late x1 (xs ((x4 + 1) : Int32).toNatClampNeg) (xs ((x4 + 2) : Int32).toNatClampNeg) (xs ((x4 + 3) : Int32).toNatClampNeg) M fun x_55 M_55 => (vp_in (x4 + 1) L ∧ (vp_in (x4 + 2) L ∧ (vp_in (x4 + 3) L ∧ (z_nn x2 fun a60 => (P_X12_late a60 (xs ((x4 + 1) : Int32).toNatClampNeg) (xs ((x4 + 2) : Int32).toNatClampNeg) (xs ((x4 + 3) : Int32).toNatClampNeg) M_55 fun M_59 => (P_L_law_1056 L xs Post (fun q0 q1 q2 q3 qM => P_L_law_23 L xs Post n q0 q1 q2 q3 qM) x1 x2 x3 x4 M_59)))))))))) ∧ (((xs (x4 : Int32).toNatClampNeg) &&& 31) = nI 4 → vp_in (x4 + 1) L ∧ (vp_in (x4 + 2) L ∧ (P_L_foreign x1 (xs ((x4 + 1) : Int32).toNatClampNeg) (xs ((x4 + 2) : Int32).toNatClampNeg) x3 M fun x_63 M_63 => (vp_in (x4 + 1) L ∧ (vp_in (x4 + 2) L ∧ (z_nn x2 fun a67 => (P_X12_foreign a67 (xs ((x4 + 1) : Int32).toNatClampNeg) (xs ((x4 + 2) : Int32).toNatClampNeg) M_63 fun x_66 M_66 => (P_L_law_1056 L xs Post (fun q0 q1 q2 q3 qM => P_L_law_23 L xs Post n q0 q1 q2 q3 qM) x1 x2 x3 x4 M_66)))))))) ∧ (((xs (x4 : Int32).toNatClampNeg) &&& 31) = nI 5 → vp_in (x4 + 1) L ∧ ((((xs ((x4 + 1) : Int32).toNatClampNeg) = 0 → P_L_law_493 L xs Post (fun q0 q1 q2 q3 qM => P_L_law_23 L xs Post n q0 q1 q2 q3 qM) x1 x2 x3 x4 x1 0 M) ∧ (¬ (xs ((x4 + 1) : Int32).toNatClampNeg) = 0 → P_L_law_493 L xs Post (fun q0 q1 q2 q3 qM => P_L_law_23 L xs Post n q0 q1 q2 q3 qM) x1 x2 x3 x4 x1 1 M)))) ∧ (((xs (x4 : Int32).toNatClampNeg) &&& 31) = nI 6 → vp_in (x4 + 1) L ∧ (vp_in (x4 + 2) L ∧ (P_L_read x1 (xs ((x4 + 1) : Int32).toNatClampNeg) (xs ((x4 + 2) : Int32).toNatClampNeg) x3 M fun x_72 M_72 => (vp_in (x4 + 1) L ∧ (vp_in (x4 + 2) L ∧ (z_nn x2 fun a76 => (P_X12_read a76 (xs ((x4 + 1) : Int32).toNatClampNeg) (xs ((x4 + 2) : Int32).toNatClampNeg) M_72 fun x_75 M_75 => (P_L_law_1056 L xs Post (fun q0 q1 q2 q3 qM => P_L_law_23 L xs Post n q0 q1 q2 q3 qM) x1 x2 x3 x4 M_75)))))))) ∧ (((xs (x4 : Int32).toNatClampNeg) &&& 31) = nI 7 → z_nn x1 fun a78 => (P_X11_loseState a78 M fun M_77 => (z_nn x2 fun a80 => (P_X12_loseState a80 M_77 fun M_79 => (P_L_law_1056 L xs Post (fun q0 q1 q2 q3 qM => P_L_law_23 L xs Post n q0 q1 q2 q3 qM) x1 x2 x3 x4 M_79))))) ∧ (((xs (x4 : Int32).toNatClampNeg) &&& 31) = nI 8 → vp_in (x4 + 1) L ∧ (P_L_connect x1 (xs ((x4 + 1) : Int32).toNatClampNeg) M fun x_82 M_82 => (vp_in (x4 + 1) L ∧ (z_nn x2 fun a85 => (P_X12_connect a85 (xs ((x4 + 1) : Int32).toNatClampNeg) M_82 fun M_84 => (P_L_law_1056 L xs Post (fun q0 q1 q2 q3 qM => P_L_law_23 L xs Post n q0 q1 q2 q3 qM) x1 x2 x3 x4 M_84)))))) ∧ (((xs (x4 : Int32).toNatClampNeg) &&& 31) = nI 9 → vp_in (x4 + 1) L ∧ (vp_in (x4 + 2) L ∧ (P_L_write x1 (xs ((x4 + 1) : Int32).toNatClampNeg) (xs ((x4 + 2) : Int32).toNatClampNeg) x3 M fun x_88 M_88 => (vp_in (x4 + 1) L ∧ (vp_in (x4 + 2) L ∧ (z_nn x2 fun a92 => (P_X12_write a92 (xs ((x4 + 1) : Int32).toNatClampNeg) (xs ((x4 + 2) : Int32).toNatClampNeg) M_88 fun x_91 M_91 => (P_L_law_1056 L xs Post (fun q0 q1 q2 q3 qM => P_L_law_23 L xs Post n q0 q1 q2 q3 qM) x1 x2 x3 x4 M_91)))))))) ∧ (((xs (x4 : Int32).toNatClampNeg) &&& 31) = nI 10 → vp_in (x4 + 1) L ∧ (vp_in (x4 + 2) L ∧ (P_L_setWay x1 (xs ((x4 + 1) : Int32).toNatClampNeg) (xs ((x4 + 2) : Int32).toNatClampNeg) x3 M fun x_95 M_95 => (vp_in (x4 + 1) L ∧ (vp_in (x4 + 2) L ∧ (z_nn x2 fun a99 => (P_X12_setWay a99 (xs ((x4 + 1) : Int32).toNatClampNeg) (xs ((x4 + 2) : Int32).toNatClampNeg) M_95 fun x_98 M_98 => (P_L_law_1056 L xs Post (fun q0 q1 q2 q3 qM => P_L_law_23 L xs Post n q0 q1 q2 q3 qM) x1 x2 x3 x4 M_98)))))))) ∧ (((xs (x4 : Int32).toNatClampNeg) &&& 31) = nI 11 → vp_in (x4 + 1) L ∧ (P_L_check x1 (xs ((x4 + 1) : Int32).toNatClampNeg) M fun x_101 M_101 => (vp_in (x4 + 1) L ∧ (z_nn x2 fun a104 => (P_X12_check a104 (xs ((x4 + 1) : Int32).toNatClampNeg) M_101 fun M_103 => (P_L_law_1056 L xs Post (fun q0 q1 q2 q3 qM => P_L_law_23 L xs Post n q0 q1 q2 q3 qM) x1 x2 x3 x4 M_103)))))) ∧ (((xs (x4 : Int32).toNatClampNeg) &&& 31) = nI 12 → vp_in (x4 + 1) L ∧ (P_L_use x1 (xs ((x4 + 1) : Int32).toNatClampNeg) x3 M fun x_106 M_106 => (vp_in (x4 + 1) L ∧ (z_nn x2 fun a109 => (P_X12_use a109 (xs ((x4 + 1) : Int32).toNatClampNeg) M_106 fun x_108 M_108 => (P_L_law_1056 L xs Post (fun q0 q1 q2 q3 qM => P_L_law_23 L xs Post n q0 q1 q2 q3 qM) x1 x2 x3 x4 M_108)))))) ∧ (((xs (x4 : Int32).toNatClampNeg) &&& 31) = nI 13 → P_L_changeKey x1 x3 M fun x_110 M_110 => (z_nn x2 fun a112 => (P_X12_changeKey a112 M_110 fun x_111 M_111 => (P_L_law_1056 L xs Post (fun q0 q1 q2 q3 qM => P_L_law_23 L xs Post n q0 q1 q2 q3 qM) x1 x2 x3 x4 M_111)))) ∧ (((xs (x4 : Int32).toNatClampNeg) &&& 31) = nI 14 → P_L_close x1 M fun x_113 M_113 => (z_nn x2 fun a115 => (P_X12_close a115 M_113 fun M_114 => (P_L_law_1056 L xs Post (fun q0 q1 q2 q3 qM => P_L_law_23 L xs Post n q0 q1 q2 q3 qM) x1 x2 x3 x4 M_114)))) ∧ (((xs (x4 : Int32).toNatClampNeg) &&& 31) = nI 15 → vp_in (x4 + 1) L ∧ (P_L_tick x1 (xs ((x4 + 1) : Int32).toNatClampNeg) x3 M fun x_117 M_117 => (vp_in (x4 + 1) L ∧ (z_nn x2 fun a120 => (P_X12_tick a120 (xs ((x4 + 1) : Int32).toNatClampNeg) M_117 fun x_119 M_119 => (P_L_law_1056 L xs Post (fun q0 q1 q2 q3 qM => P_L_law_23 L xs Post n q0 q1 q2 q3 qM) x1 x2 x3 x4 M_119)))))) ∧ (((xs (x4 : Int32).toNatClampNeg) &&& 31) = nI 16 → z_nn x1 fun a122 => (P_X11_now a122 M fun x_121 M_121 => (z_nn x2 fun a124 => (P_X12_now a124 M_121 fun x_123 M_123 => (P_L_law_1056 L xs Post (fun q0 q1 q2 q3 qM => P_L_law_23 L xs Post n q0 q1 q2 q3 qM) x1 x2 x3 x4 M_123))))) ∧ (((xs (x4 : Int32).toNatClampNeg) &&& 31) = nI 17 → vp_in (x4 + 1) L ∧ (P_L_state x1 (xs ((x4 + 1) : Int32).toNatClampNeg) x3 M fun x_126 M_126 => (vp_in (x4 + 1) L ∧ (z_nn x2 fun a129 => (P_X12_state a129 (xs ((x4 + 1) : Int32).toNatClampNeg) M_126 fun x_128 M_128 => (P_L_law_1056 L xs Post (fun q0 q1 q2 q3 qM => P_L_law_23 L xs Post n q0 q1 q2 q3 qM) x1 x2 x3 x4 M_128)))))) ∧ (((xs (x4 : Int32).toNatClampNeg) &&& 31) = nI 18 → vp_in (x4 + 1) L ∧ (vp_in (x4 + 2) L ∧ (P_L_path x1 (xs ((x4 + 1) : Int32).toNatClampNeg) (xs ((x4 + 2) : Int32).toNatClampNeg) x3 M fun x_132 M_132 => (vp_in (x4 + 1) L ∧ (vp_in (x4 + 2) L ∧ (z_nn x2 fun a136 => (P_X12_path a136 (xs ((x4 + 1) : Int32).toNatClampNeg) (xs ((x4 + 2) : Int32).toNatClampNeg) M_132 fun x_135 M_135 => (P_L_law_1056 L xs Post (fun q0 q1 q2 q3 qM => P_L_law_23 L xs Post n q0 q1 q2 q3 qM) x1 x2 x3 x4 M_135)))))))) ∧ (((xs (x4 : Int32).toNatClampNeg) &&& 31) = nI 19 → vp_in (x4 + 1) L ∧ (vp_in (x4 + 2) L ∧ (P_L_stream x1 (xs ((x4 + 1) : Int32).toNatClampNeg) (xs ((x4 + 2) : Int32).toNatClampNeg) x3 M fun x_139 M_139 => (vp_in (x4 + 1) L ∧ (vp_in (x4 + 2) L ∧ (z_nn x2 fun a143 => (P_X12_stream a143 (xs ((x4 + 1) : Int32).toNatClampNeg) (xs ((x4 + 2) : Int32).toNatClampNeg) M_139 fun x_142 M_142 => (P_L_law_1056 L xs Post (fun q0 q1 q2 q3 qM => P_L_law_23 L xs Post n q0 q1 q2 q3 qM) x1 x2 x3 x4 M_142)))))))) ∧ (((xs (x4 : Int32).toNatClampNeg) &&& 31) = nI 20 → z_nn x1 fun a145 => (P_X11_credit a145 M fun x_144 M_144 => (z_nn x2 fun a147 => (P_X12_credit a147 M_144 fun x_146 M_146 => (P_L_law_1056 L xs Post (fun q0 q1 q2 q3 qM => P_L_law_23 L xs Post n q0 q1 q2 q3 qM) x1 x2 x3 x4 M_146))))) ∧ (((xs (x4 : Int32).toNatClampNeg) &&& 31) = nI 21 → z_nn x1 fun a149 => (P_X11_packets a149 M fun x_148 M_148 => (z_nn x2 fun a151 => (P_X12_packets a151 M_148 fun x_150 M_150 => (P_L_law_1056 L xs Post (fun q0 q1 q2 q3 qM => P_L_law_23 L xs Post n q0 q1 q2 q3 qM) x1 x2 x3 x4 M_150))))) ∧ (((xs (x4 : Int32).toNatClampNeg) &&& 31) = nI 22 → vp_in (x4 + 1) L ∧ (vp_in (x4 + 2) L ∧ (P_L_packet x1 (xs ((x4 + 1) : Int32).toNatClampNeg) (xs ((x4 + 2) : Int32).toNatClampNeg) x3 M fun x_154 M_154 => (vp_in (x4 + 1) L ∧ (vp_in (x4 + 2) L ∧ (z_nn x2 fun a158 => (P_X12_packet a158 (xs ((x4 + 1) : Int32).toNatClampNeg) (xs ((x4 + 2) : Int32).toNatClampNeg) M_154 fun x_157 M_157 => (P_L_law_1056 L xs Post (fun q0 q1 q2 q3 qM => P_L_law_23 L xs Post n q0 q1 q2 q3 qM) x1 x2 x3 x4 M_157)))))))) ∧ (((xs (x4 : Int32).toNatClampNeg) &&& 31) = nI 23 → vp_in (x4 + 1) L ∧ (P_L_count x1 (xs ((x4 + 1) : Int32).toNatClampNeg) x3 M fun x_160 M_160 => (vp_in (x4 + 1) L ∧ (z_nn x2 fun a163 => (P_X12_count a163 (xs ((x4 + 1) : Int32).toNatClampNeg) M_160 fun x_162 M_162 => (P_L_law_1056 L xs Post (fun q0 q1 q2 q3 qM => P_L_law_23 L xs Post n q0 q1 q2 q3 qM) x1 x2 x3 x4 M_162)))))) ∧ (((xs (x4 : Int32).toNatClampNeg) &&& 31) = nI 24 → vp_in (x4 + 1) L ∧ (P_L_inFlightAnew x1 (xs ((x4 + 1) : Int32).toNatClampNeg) x3 M fun x_165 M_165 => (vp_in (x4 + 1) L ∧ (z_nn x2 fun a168 => (P_X12_inFlightAnew a168 (xs ((x4 + 1) : Int32).toNatClampNeg) M_165 fun x_167 M_167 => (P_L_law_1056 L xs Post (fun q0 q1 q2 q3 qM => P_L_law_23 L xs Post n q0 q1 q2 q3 qM) x1 x2 x3 x4 M_167)))))) ∧ (((xs (x4 : Int32).toNatClampNeg) &&& 31) = nI 25 → vp_in (x4 + 1) L ∧ (P_L_gotAnew x1 (xs ((x4 + 1) : Int32).toNatClampNeg) x3 M fun x_170 M_170 => (vp_in (x4 + 1) L ∧ (z_nn x2 fun a173 => (P_X12_gotAnew a173 (xs ((x4 + 1) : Int32).toNatClampNeg) M_170 fun x_172 M_172 => (P_L_law_1056 L xs Post (fun q0 q1 q2 q3 qM => P_L_law_23 L xs Post n q0 q1 q2 q3 qM) x1 x2 x3 x4 M_172)))))) ∧ (((xs (x4 : Int32).toNatClampNeg) &&& 31) < 0 ∨ nI 25 < ((xs (x4 : Int32).toNatClampNeg) &&& 31) → P_L_law_1056 L xs Post (fun q0 q1 q2 q3 qM => P_L_law_23 L xs Post n q0 q1 q2 q3 qM) x1 x2 x3 x4 M)))))
set_option maxRecDepth 100000 in
def P_L_law (L : Nat) (xs : Nat → Int32) (M : z_Mem) (Post : Int32 → z_Mem → Prop) : Prop := z_room M 5 ∧ (∀ M_175 : z_Mem, M_175 = z_new M 12 5 → (P_X11_init (z_sz M) M_175 fun M_176 => (z_room M_176 95 ∧ (∀ M_178 : z_Mem, M_178 = z_new M_176 13 95 → (P_X12_init (z_sz M_176) M_178 fun M_179 => (z_room M_179 1 ∧ (∀ M_181 : z_Mem, M_181 = z_nwa M_179 25 1 → ((∃ n182 : Nat, P_L_law_23 L xs Post n182 (some (z_sz M)) (some (z_sz M_176)) (some (z_sz M_179)) 0 M_181)))))))))
set_option maxRecDepth 100000 in
set_option maxHeartbeats 4000000 in
theorem v_L_law_1056 {G : z_G} {M0 : z_Mem} {a L : Nat} {xs : Nat → Int32} {Post : Int32 → z_Mem → Prop} (hl9 : G.1.stackTraces = false) (hkb : z_ki M0 a = 0) {J23 : Option Nat → Option Nat → Option Nat → Int32 → z_Mem → Prop} (hJ23 : ∀ (x1 : Option Nat) (x2 : Option Nat) (x3 : Option Nat) (x4 : Int32) (M : z_Mem), (z_tr M x1 12) → (z_tr M x2 13) → (z_tr M x3 25) → J23 x1 x2 x3 x4 M → z_V G Y_L_law (z_XL a L xs) M0 (z_QM G M0 (z_PB Post)) M 23 [(0, z_O (some a)), (1, z_O x1), (2, z_O x2), (3, z_O x3), (4, z_I x4)] []) {x1 : Option Nat} {x2 : Option Nat} {x3 : Option Nat} {x4 : Int32} {M : z_Mem} (f_x1 : z_tr M x1 12) (f_x2 : z_tr M x2 13) (f_x3 : z_tr M x3 25) (hP : P_L_law_1056 L xs Post J23 x1 x2 x3 x4 M) : z_V G Y_L_law (z_XL a L xs) M0 (z_QM G M0 (z_PB Post)) M 1056 [(0, z_O (some a)), (1, z_O x1), (2, z_O x2), (3, z_O x3), (4, z_I x4)] [] := by
  unfold P_L_law_1056 at hP
  refine z_iincN (j := 4) (m := 6) (lv' := fun v => [(4, z_I v), (0, z_O _), (1, z_O _), (2, z_O _), (3, z_O _)]) dL_law_1056 rfl (by decide) (Nat.le_of_ble_eq_true rfl) (fun _ => rfl) (fun x_1 y_1 => ?_)
  replace hP := hP x_1 y_1
  refine z_goto (tgt := 23) dL_law_1059 (by decide) ?_
  refine z_sub (lv' := [(0, z_O _), (1, z_O _), (2, z_O _), (3, z_O _), (4, z_I _)]) [1, 2, 3, 4, 0] rfl ?_
  exact hJ23 _ _ _ _ _ f_x1 f_x2 f_x3 hP
set_option maxRecDepth 100000 in
set_option maxHeartbeats 4000000 in
theorem v_L_law_321 {G : z_G} {M0 : z_Mem} {a L : Nat} {xs : Nat → Int32} {Post : Int32 → z_Mem → Prop} (hl9 : G.1.stackTraces = false) (hkb : z_ki M0 a = 0) {J23 : Option Nat → Option Nat → Option Nat → Int32 → z_Mem → Prop} (hJ23 : ∀ (x1 : Option Nat) (x2 : Option Nat) (x3 : Option Nat) (x4 : Int32) (M : z_Mem), (z_tr M x1 12) → (z_tr M x2 13) → (z_tr M x3 25) → J23 x1 x2 x3 x4 M → z_V G Y_L_law (z_XL a L xs) M0 (z_QM G M0 (z_PB Post)) M 23 [(0, z_O (some a)), (1, z_O x1), (2, z_O x2), (3, z_O x3), (4, z_I x4)] []) {x1 : Option Nat} {x2 : Option Nat} {x3 : Option Nat} {x4 : Int32} {M : z_Mem} (f_x1 : z_tr M x1 12) (f_x2 : z_tr M x2 13) (f_x3 : z_tr M x3 25) (hP : P_L_law_321 L xs Post J23 x1 x2 x3 x4 M) : z_V G Y_L_law (z_XL a L xs) M0 (z_QM G M0 (z_PB Post)) M 321 [(0, z_O (some a)), (1, z_O x1), (2, z_O x2), (3, z_O x3), (4, z_I x4)] [] := by
  unfold P_L_law_321 at hP
  refine z_goto (tgt := 1056) dL_law_321 (by decide) ?_
  refine z_sub (lv' := [(0, z_O _), (1, z_O _), (2, z_O _), (3, z_O _), (4, z_I _)]) [0, 1, 2, 3, 4] rfl ?_
  exact v_L_law_1056 hl9 hkb hJ23 f_x1 f_x2 f_x3 hP
set_option maxRecDepth 100000 in
set_option maxHeartbeats 4000000 in
theorem v_L_law_315 {G : z_G} {M0 : z_Mem} {a L : Nat} {xs : Nat → Int32} {Post : Int32 → z_Mem → Prop} (hl9 : G.1.stackTraces = false) (hkb : z_ki M0 a = 0) {J23 : Option Nat → Option Nat → Option Nat → Int32 → z_Mem → Prop} (hJ23 : ∀ (x1 : Option Nat) (x2 : Option Nat) (x3 : Option Nat) (x4 : Int32) (M : z_Mem), (z_tr M x1 12) → (z_tr M x2 13) → (z_tr M x3 25) → J23 x1 x2 x3 x4 M → z_V G Y_L_law (z_XL a L xs) M0 (z_QM G M0 (z_PB Post)) M 23 [(0, z_O (some a)), (1, z_O x1), (2, z_O x2), (3, z_O x3), (4, z_I x4)] []) {x1 : Option Nat} {x2 : Option Nat} {x3 : Option Nat} {x4 : Int32} {t0 : Int64} {t1 : Int64} {M : z_Mem} (f_x1 : z_tr M x1 12) (f_x2 : z_tr M x2 13) (f_x3 : z_tr M x3 25) (hP : P_L_law_315 L xs Post J23 x1 x2 x3 x4 t0 t1 M) : z_V G Y_L_law (z_XL a L xs) M0 (z_QM G M0 (z_PB Post)) M 315 [(0, z_O (some a)), (1, z_O x1), (2, z_O x2), (3, z_O x3), (4, z_I x4)] [z_J t1, z_J t0] := by
  unfold P_L_law_315 at hP
  refine z_lcmp dL_law_315 ?_
  refine z_if_eq (tgt := 321) dL_law_316 (by decide) (fun h2 => ?_) (fun h2 => ?_)
  · replace hP := hP.1 h2
    refine z_sub (lv' := [(0, z_O _), (1, z_O _), (2, z_O _), (3, z_O _), (4, z_I _)]) [0, 1, 2, 3, 4] rfl ?_
    exact v_L_law_321 hl9 hkb hJ23 f_x1 f_x2 f_x3 hP
  · replace hP := hP.2 h2
    refine z_iconst (v := 0) dL_law_319 (by decide) ?_
    exact z_retb rfl (Or.inl rfl) dL_law_320 hP
set_option maxRecDepth 100000 in
set_option maxHeartbeats 4000000 in
theorem v_L_law_281 {G : z_G} {M0 : z_Mem} {a L : Nat} {xs : Nat → Int32} {Post : Int32 → z_Mem → Prop} (hl9 : G.1.stackTraces = false) (hkb : z_ki M0 a = 0) {J23 : Option Nat → Option Nat → Option Nat → Int32 → z_Mem → Prop} (hJ23 : ∀ (x1 : Option Nat) (x2 : Option Nat) (x3 : Option Nat) (x4 : Int32) (M : z_Mem), (z_tr M x1 12) → (z_tr M x2 13) → (z_tr M x3 25) → J23 x1 x2 x3 x4 M → z_V G Y_L_law (z_XL a L xs) M0 (z_QM G M0 (z_PB Post)) M 23 [(0, z_O (some a)), (1, z_O x1), (2, z_O x2), (3, z_O x3), (4, z_I x4)] []) {x1 : Option Nat} {x2 : Option Nat} {x3 : Option Nat} {x4 : Int32} {x5 : Int32} {t0 : Option Nat} {t1 : Int32} {t2 : Int32} {M : z_Mem} (f_x1 : z_tr M x1 12) (f_x2 : z_tr M x2 13) (f_x3 : z_tr M x3 25) (f_t0 : z_tr M t0 13) (f_t2 : t2 = 0 ∨ t2 = 1) (hP : P_L_law_281 L xs Post J23 x1 x2 x3 x4 x5 t0 t1 t2 M) : z_V G Y_L_law (z_XL a L xs) M0 (z_QM G M0 (z_PB Post)) M 281 [(0, z_O (some a)), (1, z_O x1), (2, z_O x2), (3, z_O x3), (4, z_I x4), (5, z_I x5)] [z_I t2, z_I t1, z_O t0] := by
  unfold P_L_law_281 at hP
  obtain ⟨a4, e4, hP⟩ := hP
  have k4 := f_t0 a4 e4
  refine z_wts (fun hT3 _ => ?_)
  refine z_cVb (c := 12) (n := 2) (Y1 := Y_X12_setUp) (st := []) e4 k4 z_cb12 (Nat.le_of_ble_eq_true rfl) rfl (s_X12_setUp k4 f_t2 hP) rfl ⟨z_dc_X12_setUp, ⟨(Nat.le_of_ble_eq_true rfl), (Nat.le_of_ble_eq_true rfl)⟩, (Nat.le_of_ble_eq_true rfl)⟩ rfl zw_1559 zw_1560 zw_1561 zw_12 zw_1562 dL_law_281 (fun x_3 M_3 b3 hP _ x3 => ?_)
  have f_x1 := x3.t (k := 11) hT3 f_x1
  have f_x2 := x3.t (k := 12) hT3 f_x2
  have f_x3 := x3.t (k := 24) hT3 f_x3
  refine z_istore (lv' := [(6, z_I _), (0, z_O _), (1, z_O _), (2, z_O _), (3, z_O _), (4, z_I _), (5, z_I _)]) dL_law_284 (Nat.le_of_ble_eq_true rfl) rfl ?_
  refine z_aload_n dL_law_286 rfl 3 rfl ?_
  obtain ⟨a6, e6, hP⟩ := hP
  have k6 := f_x2 a6 e6
  refine z_wts (fun hT5 _ => ?_)
  refine z_cVi (c := 12) (n := 0) (Y1 := Y_X12_thrown) (st := []) e6 k6 z_cb12 (Nat.le_of_ble_eq_true rfl) rfl (s_X12_thrown k6 hP) rfl ⟨z_dc_X12_thrown, ⟨(Nat.le_of_ble_eq_true rfl), (Nat.le_of_ble_eq_true rfl)⟩, (Nat.le_of_ble_eq_true rfl)⟩ rfl zw_1541 zw_1542 zw_1543 zw_12 zw_1544 dL_law_287 (fun x_5 M_5 hP _ x5 => ?_)
  have f_x1 := x5.t (k := 11) hT5 f_x1
  have k6 := x5.k (k := 12) hT5 k6
  have f_x3 := x5.t (k := 24) hT5 f_x3
  refine z_iload dL_law_290 6 rfl ?_
  refine z_icmp_eq (tgt := 297) dL_law_292 (by decide) (fun h7 => ?_) (fun h7 => ?_)
  · replace hP := hP.1 h7
    refine z_iload dL_law_297 6 rfl ?_
    refine z_pc (pc' := 299) rfl ?_
    refine z_if_ne (tgt := 321) dL_law_299 (by decide) (fun h8 => ?_) (fun h8 => ?_)
    · replace hP := hP.2 h8
      refine z_sub (lv' := [(0, z_O _), (1, z_O _), (2, z_O _), (3, z_O _), (4, z_I _)]) [1, 2, 3, 4, 5] rfl ?_
      exact v_L_law_321 hl9 hkb hJ23 f_x1 (z_trn e6 k6) f_x3 hP
    · replace hP := hP.1 h8
      refine z_aload_n dL_law_302 rfl 4 rfl ?_
      refine z_iconst (v := 0) dL_law_303 (by decide) ?_
      obtain ⟨a9, e9, hP⟩ := hP
      have k9 := f_x3 a9 e9
      obtain ⟨i10, hP⟩ := hP
      refine z_lald e9 k9 i10 dL_law_304 ?_
      refine z_iload dL_law_305 0 rfl ?_
      refine z_if_eq (tgt := 314) dL_law_307 (by decide) (fun h11 => ?_) (fun h11 => ?_)
      · replace hP := hP.1 h11
        refine z_lconst (v := 0) dL_law_314 (by decide) ?_
        refine z_sub (lv' := [(0, z_O _), (1, z_O _), (2, z_O _), (3, z_O _), (4, z_I _)]) [1, 2, 3, 4, 5] rfl ?_
        exact v_L_law_315 hl9 hkb hJ23 f_x1 (z_trn e6 k6) (z_trn e9 k9) hP
      · replace hP := hP.2 h11
        refine z_lconst (v := 1) dL_law_310 (by decide) ?_
        refine z_goto (tgt := 315) dL_law_311 (by decide) ?_
        refine z_sub (lv' := [(0, z_O _), (1, z_O _), (2, z_O _), (3, z_O _), (4, z_I _)]) [1, 2, 3, 4, 5] rfl ?_
        exact v_L_law_315 hl9 hkb hJ23 f_x1 (z_trn e6 k6) (z_trn e9 k9) hP
  · replace hP := hP.2 h7
    refine z_iconst (v := 0) dL_law_295 (by decide) ?_
    refine z_pc (pc' := 296) rfl ?_
    exact z_retb rfl (Or.inl rfl) dL_law_296 hP
set_option maxRecDepth 100000 in
set_option maxHeartbeats 4000000 in
theorem v_L_law_254 {G : z_G} {M0 : z_Mem} {a L : Nat} {xs : Nat → Int32} {Post : Int32 → z_Mem → Prop} (hl9 : G.1.stackTraces = false) (hkb : z_ki M0 a = 0) {J23 : Option Nat → Option Nat → Option Nat → Int32 → z_Mem → Prop} (hJ23 : ∀ (x1 : Option Nat) (x2 : Option Nat) (x3 : Option Nat) (x4 : Int32) (M : z_Mem), (z_tr M x1 12) → (z_tr M x2 13) → (z_tr M x3 25) → J23 x1 x2 x3 x4 M → z_V G Y_L_law (z_XL a L xs) M0 (z_QM G M0 (z_PB Post)) M 23 [(0, z_O (some a)), (1, z_O x1), (2, z_O x2), (3, z_O x3), (4, z_I x4)] []) {x1 : Option Nat} {x2 : Option Nat} {x3 : Option Nat} {x4 : Int32} {t0 : Option Nat} {t1 : Int32} {t2 : Int32} {M : z_Mem} (f_x1 : z_tr M x1 12) (f_x2 : z_tr M x2 13) (f_x3 : z_tr M x3 25) (f_t0 : z_tr M t0 12) (f_t2 : t2 = 0 ∨ t2 = 1) (hP : P_L_law_254 L xs Post J23 x1 x2 x3 x4 t0 t1 t2 M) : z_V G Y_L_law (z_XL a L xs) M0 (z_QM G M0 (z_PB Post)) M 254 [(0, z_O (some a)), (1, z_O x1), (2, z_O x2), (3, z_O x3), (4, z_I x4)] [z_I t2, z_I t1, z_O t0] := by
  unfold P_L_law_254 at hP
  refine z_aload_n dL_law_254 rfl 3 rfl ?_
  refine z_wts (fun hT12 _ => ?_)
  refine z_cSHi (hh := hh_L_setUp) (n := 4) (Y1 := Y_L_setUp) (st := []) rfl (s_L_setUp hl9 f_t0 f_t2 f_x3 hP) rfl ⟨z_dc_L_setUp, ⟨(Nat.le_of_ble_eq_true rfl), (Nat.le_of_ble_eq_true rfl)⟩, (Nat.le_of_ble_eq_true rfl)⟩ rfl zw_635 zw_636 zw_0 zh_L_setUp dL_law_255 (fun x_12 M_12 hP _ x12 => ?_)
  have f_x1 := x12.t (k := 11) hT12 f_x1
  have f_x2 := x12.t (k := 12) hT12 f_x2
  have f_x3 := x12.t (k := 24) hT12 f_x3
  refine z_istore (lv' := [(5, z_I _), (0, z_O _), (1, z_O _), (2, z_O _), (3, z_O _), (4, z_I _)]) dL_law_258 (Nat.le_of_ble_eq_true rfl) rfl ?_
  refine z_aload_n dL_law_260 rfl 3 rfl ?_
  refine z_aload_n dL_law_261 rfl 1 rfl ?_
  refine z_iload dL_law_262 5 rfl ?_
  refine z_pc (pc' := 264) rfl ?_
  refine z_iconst (v := 1) dL_law_264 (by decide) ?_
  refine z_iadd dL_law_265 ?_
  obtain ⟨i13, hP⟩ := hP
  refine z_sld hkb i13 dL_law_266 ?_
  refine z_aload_n dL_law_267 rfl 1 rfl ?_
  refine z_iload dL_law_268 5 rfl ?_
  refine z_iconst (v := 2) dL_law_270 (by decide) ?_
  refine z_pc (pc' := 271) rfl ?_
  refine z_iadd dL_law_271 ?_
  obtain ⟨i14, hP⟩ := hP
  refine z_sld hkb i14 dL_law_272 ?_
  refine z_if_eq (tgt := 280) dL_law_273 (by decide) (fun h15 => ?_) (fun h15 => ?_)
  · replace hP := hP.1 h15
    refine z_iconst (v := 0) dL_law_280 (by decide) ?_
    refine z_sub (lv' := [(0, z_O _), (1, z_O _), (2, z_O _), (3, z_O _), (4, z_I _), (5, z_I _)]) [1, 2, 3, 4, 5, 0] rfl ?_
    exact v_L_law_281 hl9 hkb hJ23 f_x1 f_x2 f_x3 f_x2 (Or.inl rfl) hP
  · replace hP := hP.2 h15
    refine z_iconst (v := 1) dL_law_276 (by decide) ?_
    refine z_goto (tgt := 281) dL_law_277 (by decide) ?_
    refine z_sub (lv' := [(0, z_O _), (1, z_O _), (2, z_O _), (3, z_O _), (4, z_I _), (5, z_I _)]) [1, 2, 3, 4, 5, 0] rfl ?_
    exact v_L_law_281 hl9 hkb hJ23 f_x1 f_x2 f_x3 f_x2 (Or.inr rfl) hP
set_option maxRecDepth 100000 in
set_option maxHeartbeats 4000000 in
theorem v_L_law_377 {G : z_G} {M0 : z_Mem} {a L : Nat} {xs : Nat → Int32} {Post : Int32 → z_Mem → Prop} (hl9 : G.1.stackTraces = false) (hkb : z_ki M0 a = 0) {J23 : Option Nat → Option Nat → Option Nat → Int32 → z_Mem → Prop} (hJ23 : ∀ (x1 : Option Nat) (x2 : Option Nat) (x3 : Option Nat) (x4 : Int32) (M : z_Mem), (z_tr M x1 12) → (z_tr M x2 13) → (z_tr M x3 25) → J23 x1 x2 x3 x4 M → z_V G Y_L_law (z_XL a L xs) M0 (z_QM G M0 (z_PB Post)) M 23 [(0, z_O (some a)), (1, z_O x1), (2, z_O x2), (3, z_O x3), (4, z_I x4)] []) {x1 : Option Nat} {x2 : Option Nat} {x3 : Option Nat} {x4 : Int32} {t0 : Option Nat} {t1 : Int32} {t2 : Int32} {M : z_Mem} (f_x1 : z_tr M x1 12) (f_x2 : z_tr M x2 13) (f_x3 : z_tr M x3 25) (f_t0 : z_tr M t0 13) (f_t2 : t2 = 0 ∨ t2 = 1) (hP : P_L_law_377 L xs Post J23 x1 x2 x3 x4 t0 t1 t2 M) : z_V G Y_L_law (z_XL a L xs) M0 (z_QM G M0 (z_PB Post)) M 377 [(0, z_O (some a)), (1, z_O x1), (2, z_O x2), (3, z_O x3), (4, z_I x4)] [z_I t2, z_I t1, z_O t0] := by
  unfold P_L_law_377 at hP
  refine z_aload_n dL_law_377 rfl 0 rfl ?_
  refine z_iload dL_law_378 4 rfl ?_
  refine z_iconst (v := 3) dL_law_380 (by decide) ?_
  refine z_iadd dL_law_381 ?_
  obtain ⟨i16, hP⟩ := hP
  refine z_sld hkb i16 dL_law_382 ?_
  obtain ⟨a18, e18, hP⟩ := hP
  have k18 := f_t0 a18 e18
  refine z_wts (fun hT17 _ => ?_)
  refine z_cVv (c := 12) (n := 3) (Y1 := Y_X12_lose) (st := []) e18 k18 z_cb12 (Nat.le_of_ble_eq_true rfl) rfl (s_X12_lose k18 f_t2 hP) rfl ⟨z_dc_X12_lose, ⟨(Nat.le_of_ble_eq_true rfl), (Nat.le_of_ble_eq_true rfl)⟩, (Nat.le_of_ble_eq_true rfl)⟩ rfl zw_1563 zw_1564 zw_1565 zw_12 zw_1566 dL_law_383 (fun M_17 hP _ x17 => ?_)
  have f_x1 := x17.t (k := 11) hT17 f_x1
  have f_x2 := x17.t (k := 12) hT17 f_x2
  have f_x3 := x17.t (k := 24) hT17 f_x3
  refine z_pc (pc' := 386) rfl ?_
  refine z_goto (tgt := 1056) dL_law_386 (by decide) ?_
  refine z_sub (lv' := [(0, z_O _), (1, z_O _), (2, z_O _), (3, z_O _), (4, z_I _)]) [0, 1, 2, 3, 4] rfl ?_
  exact v_L_law_1056 hl9 hkb hJ23 f_x1 f_x2 f_x3 hP
set_option maxRecDepth 100000 in
set_option maxHeartbeats 4000000 in
theorem v_L_law_345 {G : z_G} {M0 : z_Mem} {a L : Nat} {xs : Nat → Int32} {Post : Int32 → z_Mem → Prop} (hl9 : G.1.stackTraces = false) (hkb : z_ki M0 a = 0) {J23 : Option Nat → Option Nat → Option Nat → Int32 → z_Mem → Prop} (hJ23 : ∀ (x1 : Option Nat) (x2 : Option Nat) (x3 : Option Nat) (x4 : Int32) (M : z_Mem), (z_tr M x1 12) → (z_tr M x2 13) → (z_tr M x3 25) → J23 x1 x2 x3 x4 M → z_V G Y_L_law (z_XL a L xs) M0 (z_QM G M0 (z_PB Post)) M 23 [(0, z_O (some a)), (1, z_O x1), (2, z_O x2), (3, z_O x3), (4, z_I x4)] []) {x1 : Option Nat} {x2 : Option Nat} {x3 : Option Nat} {x4 : Int32} {t0 : Option Nat} {t1 : Int32} {t2 : Int32} {M : z_Mem} (f_x1 : z_tr M x1 12) (f_x2 : z_tr M x2 13) (f_x3 : z_tr M x3 25) (f_t0 : z_tr M t0 12) (f_t2 : t2 = 0 ∨ t2 = 1) (hP : P_L_law_345 L xs Post J23 x1 x2 x3 x4 t0 t1 t2 M) : z_V G Y_L_law (z_XL a L xs) M0 (z_QM G M0 (z_PB Post)) M 345 [(0, z_O (some a)), (1, z_O x1), (2, z_O x2), (3, z_O x3), (4, z_I x4)] [z_I t2, z_I t1, z_O t0] := by
  unfold P_L_law_345 at hP
  refine z_aload_n dL_law_345 rfl 0 rfl ?_
  refine z_iload dL_law_346 4 rfl ?_
  refine z_iconst (v := 3) dL_law_348 (by decide) ?_
  refine z_iadd dL_law_349 ?_
  obtain ⟨i19, hP⟩ := hP
  refine z_sld hkb i19 dL_law_350 ?_
  refine z_wts (fun hT20 _ => ?_)
  refine z_cSHi (hh := hh_L_lose) (n := 4) (Y1 := Y_L_lose) (st := []) rfl (s_L_lose hl9 f_t0 f_t2 hP) rfl ⟨z_dc_L_lose, ⟨(Nat.le_of_ble_eq_true rfl), (Nat.le_of_ble_eq_true rfl)⟩, (Nat.le_of_ble_eq_true rfl)⟩ rfl zw_642 zw_643 zw_0 zh_L_lose dL_law_351 (fun x_20 M_20 hP _ x20 => ?_)
  have f_x1 := x20.t (k := 11) hT20 f_x1
  have f_x2 := x20.t (k := 12) hT20 f_x2
  have f_x3 := x20.t (k := 24) hT20 f_x3
  refine z_pc (pc' := 354) rfl ?_
  refine z_istore (lv' := [(5, z_I _), (0, z_O _), (1, z_O _), (2, z_O _), (3, z_O _), (4, z_I _)]) dL_law_354 (Nat.le_of_ble_eq_true rfl) rfl ?_
  refine z_aload_n dL_law_356 rfl 3 rfl ?_
  refine z_aload_n dL_law_357 rfl 1 rfl ?_
  refine z_iload dL_law_358 5 rfl ?_
  refine z_iconst (v := 1) dL_law_360 (by decide) ?_
  refine z_iadd dL_law_361 ?_
  refine z_pc (pc' := 362) rfl ?_
  obtain ⟨i21, hP⟩ := hP
  refine z_sld hkb i21 dL_law_362 ?_
  refine z_aload_n dL_law_363 rfl 1 rfl ?_
  refine z_iload dL_law_364 5 rfl ?_
  refine z_iconst (v := 2) dL_law_366 (by decide) ?_
  refine z_iadd dL_law_367 ?_
  obtain ⟨i22, hP⟩ := hP
  refine z_sld hkb i22 dL_law_368 ?_
  refine z_pc (pc' := 369) rfl ?_
  refine z_if_eq (tgt := 376) dL_law_369 (by decide) (fun h23 => ?_) (fun h23 => ?_)
  · replace hP := hP.1 h23
    refine z_iconst (v := 0) dL_law_376 (by decide) ?_
    refine z_sub (lv' := [(0, z_O _), (1, z_O _), (2, z_O _), (3, z_O _), (4, z_I _)]) [1, 2, 3, 4, 5] rfl ?_
    exact v_L_law_377 hl9 hkb hJ23 f_x1 f_x2 f_x3 f_x2 (Or.inl rfl) hP
  · replace hP := hP.2 h23
    refine z_iconst (v := 1) dL_law_372 (by decide) ?_
    refine z_goto (tgt := 377) dL_law_373 (by decide) ?_
    refine z_sub (lv' := [(0, z_O _), (1, z_O _), (2, z_O _), (3, z_O _), (4, z_I _)]) [1, 2, 3, 4, 5] rfl ?_
    exact v_L_law_377 hl9 hkb hJ23 f_x1 f_x2 f_x3 f_x2 (Or.inr rfl) hP
set_option maxRecDepth 100000 in
set_option maxHeartbeats 4000000 in
theorem v_L_law_512 {G : z_G} {M0 : z_Mem} {a L : Nat} {xs : Nat → Int32} {Post : Int32 → z_Mem → Prop} (hl9 : G.1.stackTraces = false) (hkb : z_ki M0 a = 0) {J23 : Option Nat → Option Nat → Option Nat → Int32 → z_Mem → Prop} (hJ23 : ∀ (x1 : Option Nat) (x2 : Option Nat) (x3 : Option Nat) (x4 : Int32) (M : z_Mem), (z_tr M x1 12) → (z_tr M x2 13) → (z_tr M x3 25) → J23 x1 x2 x3 x4 M → z_V G Y_L_law (z_XL a L xs) M0 (z_QM G M0 (z_PB Post)) M 23 [(0, z_O (some a)), (1, z_O x1), (2, z_O x2), (3, z_O x3), (4, z_I x4)] []) {x1 : Option Nat} {x2 : Option Nat} {x3 : Option Nat} {x4 : Int32} {t0 : Option Nat} {t1 : Int32} {M : z_Mem} (f_x1 : z_tr M x1 12) (f_x2 : z_tr M x2 13) (f_x3 : z_tr M x3 25) (f_t0 : z_tr M t0 13) (f_t1 : t1 = 0 ∨ t1 = 1) (hP : P_L_law_512 L xs Post J23 x1 x2 x3 x4 t0 t1 M) : z_V G Y_L_law (z_XL a L xs) M0 (z_QM G M0 (z_PB Post)) M 512 [(0, z_O (some a)), (1, z_O x1), (2, z_O x2), (3, z_O x3), (4, z_I x4)] [z_I t1, z_O t0] := by
  unfold P_L_law_512 at hP
  obtain ⟨a25, e25, hP⟩ := hP
  have k25 := f_t0 a25 e25
  refine z_wts (fun hT24 _ => ?_)
  refine z_cVb (c := 12) (n := 1) (Y1 := Y_X12_setCookies) (st := []) e25 k25 z_cb12 (Nat.le_of_ble_eq_true rfl) rfl (s_X12_setCookies k25 f_t1 hP) rfl ⟨z_dc_X12_setCookies, ⟨(Nat.le_of_ble_eq_true rfl), (Nat.le_of_ble_eq_true rfl)⟩, (Nat.le_of_ble_eq_true rfl)⟩ rfl zw_1575 zw_1576 zw_1577 zw_12 zw_1578 dL_law_512 (fun x_24 M_24 b24 hP _ x24 => ?_)
  have f_x1 := x24.t (k := 11) hT24 f_x1
  have f_x2 := x24.t (k := 12) hT24 f_x2
  have f_x3 := x24.t (k := 24) hT24 f_x3
  refine z_pop dL_law_515 rfl ?_
  refine z_goto (tgt := 1056) dL_law_516 (by decide) ?_
  refine z_sub (lv' := [(0, z_O _), (1, z_O _), (2, z_O _), (3, z_O _), (4, z_I _)]) [0, 1, 2, 3, 4] rfl ?_
  exact v_L_law_1056 hl9 hkb hJ23 f_x1 f_x2 f_x3 hP
set_option maxRecDepth 100000 in
set_option maxHeartbeats 4000000 in
theorem v_L_law_493 {G : z_G} {M0 : z_Mem} {a L : Nat} {xs : Nat → Int32} {Post : Int32 → z_Mem → Prop} (hl9 : G.1.stackTraces = false) (hkb : z_ki M0 a = 0) {J23 : Option Nat → Option Nat → Option Nat → Int32 → z_Mem → Prop} (hJ23 : ∀ (x1 : Option Nat) (x2 : Option Nat) (x3 : Option Nat) (x4 : Int32) (M : z_Mem), (z_tr M x1 12) → (z_tr M x2 13) → (z_tr M x3 25) → J23 x1 x2 x3 x4 M → z_V G Y_L_law (z_XL a L xs) M0 (z_QM G M0 (z_PB Post)) M 23 [(0, z_O (some a)), (1, z_O x1), (2, z_O x2), (3, z_O x3), (4, z_I x4)] []) {x1 : Option Nat} {x2 : Option Nat} {x3 : Option Nat} {x4 : Int32} {t0 : Option Nat} {t1 : Int32} {M : z_Mem} (f_x1 : z_tr M x1 12) (f_x2 : z_tr M x2 13) (f_x3 : z_tr M x3 25) (f_t0 : z_tr M t0 12) (f_t1 : t1 = 0 ∨ t1 = 1) (hP : P_L_law_493 L xs Post J23 x1 x2 x3 x4 t0 t1 M) : z_V G Y_L_law (z_XL a L xs) M0 (z_QM G M0 (z_PB Post)) M 493 [(0, z_O (some a)), (1, z_O x1), (2, z_O x2), (3, z_O x3), (4, z_I x4)] [z_I t1, z_O t0] := by
  unfold P_L_law_493 at hP
  obtain ⟨a27, e27, hP⟩ := hP
  have k27 := f_t0 a27 e27
  refine z_wts (fun hT26 _ => ?_)
  refine z_cVb (c := 11) (n := 1) (Y1 := Y_X11_setCookies) (st := []) e27 k27 z_cb11 (Nat.le_of_ble_eq_true rfl) rfl (s_X11_setCookies k27 f_t1 hP) rfl ⟨z_dc_X11_setCookies, ⟨(Nat.le_of_ble_eq_true rfl), (Nat.le_of_ble_eq_true rfl)⟩, (Nat.le_of_ble_eq_true rfl)⟩ rfl zw_505 zw_506 zw_507 zw_1 zw_508 dL_law_493 (fun x_26 M_26 b26 hP _ x26 => ?_)
  have f_x1 := x26.t (k := 11) hT26 f_x1
  have f_x2 := x26.t (k := 12) hT26 f_x2
  have f_x3 := x26.t (k := 24) hT26 f_x3
  refine z_pop dL_law_496 rfl ?_
  refine z_aload_n dL_law_497 rfl 2 rfl ?_
  refine z_aload_n dL_law_498 rfl 0 rfl ?_
  refine z_iload dL_law_499 4 rfl ?_
  refine z_iconst (v := 1) dL_law_501 (by decide) ?_
  refine z_pc (pc' := 502) rfl ?_
  refine z_iadd dL_law_502 ?_
  obtain ⟨i28, hP⟩ := hP
  refine z_sld hkb i28 dL_law_503 ?_
  refine z_if_eq (tgt := 511) dL_law_504 (by decide) (fun h29 => ?_) (fun h29 => ?_)
  · replace hP := hP.1 h29
    refine z_iconst (v := 0) dL_law_511 (by decide) ?_
    refine z_sub (lv' := [(0, z_O _), (1, z_O _), (2, z_O _), (3, z_O _), (4, z_I _)]) [0, 1, 2, 3, 4] rfl ?_
    exact v_L_law_512 hl9 hkb hJ23 f_x1 f_x2 f_x3 f_x2 (Or.inl rfl) hP
  · replace hP := hP.2 h29
    refine z_iconst (v := 1) dL_law_507 (by decide) ?_
    refine z_goto (tgt := 512) dL_law_508 (by decide) ?_
    refine z_sub (lv' := [(0, z_O _), (1, z_O _), (2, z_O _), (3, z_O _), (4, z_I _)]) [0, 1, 2, 3, 4] rfl ?_
    exact v_L_law_512 hl9 hkb hJ23 f_x1 f_x2 f_x3 f_x2 (Or.inr rfl) hP
set_option maxRecDepth 100000 in
set_option maxHeartbeats 4000000 in
theorem v_L_law_23 {G : z_G} {M0 : z_Mem} {a L : Nat} {xs : Nat → Int32} {Post : Int32 → z_Mem → Prop} (hl9 : G.1.stackTraces = false) (hkb : z_ki M0 a = 0)   : ∀ (n : Nat) {x1 : Option Nat} {x2 : Option Nat} {x3 : Option Nat} {x4 : Int32} {M : z_Mem}, (z_tr M x1 12) → (z_tr M x2 13) → (z_tr M x3 25) → P_L_law_23 L xs Post n x1 x2 x3 x4 M → z_V G Y_L_law (z_XL a L xs) M0 (z_QM G M0 (z_PB Post)) M 23 [(0, z_O (some a)), (1, z_O x1), (2, z_O x2), (3, z_O x3), (4, z_I x4)] [] := by
  intro n
  induction n with
  | zero => intro x1 x2 x3 x4 M f_x1 f_x2 f_x3 hP; exact False.elim hP
  | succ n ih =>
    intro x1 x2 x3 x4 M f_x1 f_x2 f_x3 hP
    unfold P_L_law_23 at hP
    refine z_iload dL_law_23 4 rfl ?_
    refine z_aload_n dL_law_25 rfl 0 rfl ?_
    refine z_slen hkb dL_law_26 ?_
    refine z_bipush (v := 6) dL_law_27 (by decide) ?_
    refine z_isub dL_law_29 ?_
    refine z_icmp_gt (tgt := 1062) dL_law_30 (by decide) (fun h30 => ?_) (fun h30 => ?_)
    · replace hP := hP.1 h30
      refine z_iconst (v := 1) dL_law_1062 (by decide) ?_
      refine z_pc (pc' := 1063) rfl ?_
      exact z_retb rfl (Or.inr rfl) dL_law_1063 hP
    · replace hP := hP.2 h30
      refine z_aload_n dL_law_33 rfl 0 rfl ?_
      refine z_pc (pc' := 34) rfl ?_
      refine z_iload dL_law_34 4 rfl ?_
      obtain ⟨i31, hP⟩ := hP
      refine z_sld hkb i31 dL_law_36 ?_
      refine z_bipush (v := 31) dL_law_37 (by decide) ?_
      refine z_iand dL_law_39 ?_
      refine z_sw (tD := 1056) 26 [160, 233, 324, 389, 438, 478, 519, 559, 570, 595, 635, 675, 700, 728, 744, 757, 785, 798, 826, 866, 906, 919, 932, 972, 1000, 1028] (by decide) (by decide) (by decide) dL_law_40 (fun k hk tg htg h32 => ?_) (fun h32 => ?_)
      · rcases (show k = 0 ∨ k = 1 ∨ k = 2 ∨ k = 3 ∨ k = 4 ∨ k = 5 ∨ k = 6 ∨ k = 7 ∨ k = 8 ∨ k = 9 ∨ k = 10 ∨ k = 11 ∨ k = 12 ∨ k = 13 ∨ k = 14 ∨ k = 15 ∨ k = 16 ∨ k = 17 ∨ k = 18 ∨ k = 19 ∨ k = 20 ∨ k = 21 ∨ k = 22 ∨ k = 23 ∨ k = 24 ∨ k = 25 by omega) with rfl | rfl | rfl | rfl | rfl | rfl | rfl | rfl | rfl | rfl | rfl | rfl | rfl | rfl | rfl | rfl | rfl | rfl | rfl | rfl | rfl | rfl | rfl | rfl | rfl | rfl
        · cases htg
          replace hP := hP.1 h32
          refine z_aload_n dL_law_160 rfl 1 rfl ?_
          refine z_aload_n dL_law_161 rfl 0 rfl ?_
          refine z_pc (pc' := 162) rfl ?_
          refine z_iload dL_law_162 4 rfl ?_
          refine z_iconst (v := 1) dL_law_164 (by decide) ?_
          refine z_iadd dL_law_165 ?_
          obtain ⟨i33, hP⟩ := hP
          refine z_sld hkb i33 dL_law_166 ?_
          refine z_aload_n dL_law_167 rfl 0 rfl ?_
          refine z_iload dL_law_168 4 rfl ?_
          refine z_pc (pc' := 170) rfl ?_
          refine z_iconst (v := 2) dL_law_170 (by decide) ?_
          refine z_iadd dL_law_171 ?_
          obtain ⟨i34, hP⟩ := hP
          refine z_sld hkb i34 dL_law_172 ?_
          refine z_aload_n dL_law_173 rfl 0 rfl ?_
          refine z_iload dL_law_174 4 rfl ?_
          refine z_iconst (v := 3) dL_law_176 (by decide) ?_
          refine z_pc (pc' := 177) rfl ?_
          refine z_iadd dL_law_177 ?_
          obtain ⟨i35, hP⟩ := hP
          refine z_sld hkb i35 dL_law_178 ?_
          refine z_aload_n dL_law_179 rfl 0 rfl ?_
          refine z_iload dL_law_180 4 rfl ?_
          refine z_iconst (v := 4) dL_law_182 (by decide) ?_
          refine z_iadd dL_law_183 ?_
          refine z_pc (pc' := 184) rfl ?_
          obtain ⟨i36, hP⟩ := hP
          refine z_sld hkb i36 dL_law_184 ?_
          refine z_aload_n dL_law_185 rfl 0 rfl ?_
          refine z_iload dL_law_186 4 rfl ?_
          refine z_iconst (v := 5) dL_law_188 (by decide) ?_
          refine z_iadd dL_law_189 ?_
          obtain ⟨i37, hP⟩ := hP
          refine z_sld hkb i37 dL_law_190 ?_
          refine z_pc (pc' := 191) rfl ?_
          refine z_wts (fun hT38 _ => ?_)
          refine z_cSHi (hh := hh_L_setPath) (n := 6) (Y1 := Y_L_setPath) (st := []) rfl (s_L_setPath hl9 f_x1 hP) rfl ⟨z_dc_L_setPath, ⟨(Nat.le_of_ble_eq_true rfl), (Nat.le_of_ble_eq_true rfl)⟩, (Nat.le_of_ble_eq_true rfl)⟩ rfl zw_532 zw_533 zw_0 zh_L_setPath dL_law_191 (fun x_38 M_38 hP _ x38 => ?_)
          have f_x1 := x38.t (k := 11) hT38 f_x1
          have f_x2 := x38.t (k := 12) hT38 f_x2
          have f_x3 := x38.t (k := 24) hT38 f_x3
          refine z_istore (lv' := [(5, z_I _), (0, z_O _), (1, z_O _), (2, z_O _), (3, z_O _), (4, z_I _)]) dL_law_194 (Nat.le_of_ble_eq_true rfl) rfl ?_
          refine z_aload_n dL_law_196 rfl 3 rfl ?_
          refine z_aload_n dL_law_197 rfl 1 rfl ?_
          refine z_iload dL_law_198 5 rfl ?_
          refine z_iconst (v := 1) dL_law_200 (by decide) ?_
          refine z_pc (pc' := 201) rfl ?_
          refine z_iadd dL_law_201 ?_
          obtain ⟨i39, hP⟩ := hP
          refine z_sld hkb i39 dL_law_202 ?_
          refine z_aload_n dL_law_203 rfl 1 rfl ?_
          refine z_iload dL_law_204 5 rfl ?_
          refine z_iconst (v := 2) dL_law_206 (by decide) ?_
          refine z_iadd dL_law_207 ?_
          refine z_pc (pc' := 208) rfl ?_
          obtain ⟨i40, hP⟩ := hP
          refine z_sld hkb i40 dL_law_208 ?_
          refine z_aload_n dL_law_209 rfl 1 rfl ?_
          refine z_iload dL_law_210 5 rfl ?_
          refine z_iconst (v := 3) dL_law_212 (by decide) ?_
          refine z_iadd dL_law_213 ?_
          obtain ⟨i41, hP⟩ := hP
          refine z_sld hkb i41 dL_law_214 ?_
          refine z_pc (pc' := 215) rfl ?_
          refine z_aload_n dL_law_215 rfl 1 rfl ?_
          refine z_iload dL_law_216 5 rfl ?_
          refine z_iconst (v := 4) dL_law_218 (by decide) ?_
          refine z_iadd dL_law_219 ?_
          obtain ⟨i42, hP⟩ := hP
          refine z_sld hkb i42 dL_law_220 ?_
          refine z_aload_n dL_law_221 rfl 1 rfl ?_
          refine z_pc (pc' := 222) rfl ?_
          refine z_iload dL_law_222 5 rfl ?_
          refine z_iconst (v := 5) dL_law_224 (by decide) ?_
          refine z_iadd dL_law_225 ?_
          obtain ⟨i43, hP⟩ := hP
          refine z_sld hkb i43 dL_law_226 ?_
          obtain ⟨a45, e45, hP⟩ := hP
          have k45 := f_x2 a45 e45
          refine z_wts (fun hT44 _ => ?_)
          refine z_cVv (c := 12) (n := 5) (Y1 := Y_X12_setPath) (st := []) e45 k45 z_cb12 (Nat.le_of_ble_eq_true rfl) rfl (s_X12_setPath k45 hP) rfl ⟨z_dc_X12_setPath, ⟨(Nat.le_of_ble_eq_true rfl), (Nat.le_of_ble_eq_true rfl)⟩, (Nat.le_of_ble_eq_true rfl)⟩ rfl zw_1545 zw_1546 zw_1547 zw_12 zw_1548 dL_law_227 (fun M_44 hP _ x44 => ?_)
          have f_x1 := x44.t (k := 11) hT44 f_x1
          have k45 := x44.k (k := 12) hT44 k45
          have f_x3 := x44.t (k := 24) hT44 f_x3
          refine z_goto (tgt := 1056) dL_law_230 (by decide) ?_
          refine z_sub (lv' := [(0, z_O _), (1, z_O _), (2, z_O _), (3, z_O _), (4, z_I _)]) [1, 2, 3, 4, 5] rfl ?_
          exact v_L_law_1056 hl9 hkb (fun _ _ _ _ _ w0 w1 w2 hP => ih w0 w1 w2 hP) f_x1 (z_trn e45 k45) f_x3 hP
        · cases htg
          replace hP := hP.2.1 h32
          refine z_aload_n dL_law_233 rfl 1 rfl ?_
          refine z_aload_n dL_law_234 rfl 0 rfl ?_
          refine z_pc (pc' := 235) rfl ?_
          refine z_iload dL_law_235 4 rfl ?_
          refine z_iconst (v := 1) dL_law_237 (by decide) ?_
          refine z_iadd dL_law_238 ?_
          obtain ⟨i46, hP⟩ := hP
          refine z_sld hkb i46 dL_law_239 ?_
          refine z_aload_n dL_law_240 rfl 0 rfl ?_
          refine z_iload dL_law_241 4 rfl ?_
          refine z_pc (pc' := 243) rfl ?_
          refine z_iconst (v := 2) dL_law_243 (by decide) ?_
          refine z_iadd dL_law_244 ?_
          obtain ⟨i47, hP⟩ := hP
          refine z_sld hkb i47 dL_law_245 ?_
          refine z_if_eq (tgt := 253) dL_law_246 (by decide) (fun h48 => ?_) (fun h48 => ?_)
          · replace hP := hP.1 h48
            refine z_iconst (v := 0) dL_law_253 (by decide) ?_
            refine z_sub (lv' := [(0, z_O _), (1, z_O _), (2, z_O _), (3, z_O _), (4, z_I _)]) [0, 1, 2, 3, 4] rfl ?_
            exact v_L_law_254 hl9 hkb (fun _ _ _ _ _ w0 w1 w2 hP => ih w0 w1 w2 hP) f_x1 f_x2 f_x3 f_x1 (Or.inl rfl) hP
          · replace hP := hP.2 h48
            refine z_iconst (v := 1) dL_law_249 (by decide) ?_
            refine z_goto (tgt := 254) dL_law_250 (by decide) ?_
            refine z_sub (lv' := [(0, z_O _), (1, z_O _), (2, z_O _), (3, z_O _), (4, z_I _)]) [0, 1, 2, 3, 4] rfl ?_
            exact v_L_law_254 hl9 hkb (fun _ _ _ _ _ w0 w1 w2 hP => ih w0 w1 w2 hP) f_x1 f_x2 f_x3 f_x1 (Or.inr rfl) hP
        · cases htg
          replace hP := hP.2.2.1 h32
          refine z_aload_n dL_law_324 rfl 1 rfl ?_
          refine z_aload_n dL_law_325 rfl 0 rfl ?_
          refine z_pc (pc' := 326) rfl ?_
          refine z_iload dL_law_326 4 rfl ?_
          refine z_iconst (v := 1) dL_law_328 (by decide) ?_
          refine z_iadd dL_law_329 ?_
          obtain ⟨i49, hP⟩ := hP
          refine z_sld hkb i49 dL_law_330 ?_
          refine z_aload_n dL_law_331 rfl 0 rfl ?_
          refine z_iload dL_law_332 4 rfl ?_
          refine z_pc (pc' := 334) rfl ?_
          refine z_iconst (v := 2) dL_law_334 (by decide) ?_
          refine z_iadd dL_law_335 ?_
          obtain ⟨i50, hP⟩ := hP
          refine z_sld hkb i50 dL_law_336 ?_
          refine z_if_eq (tgt := 344) dL_law_337 (by decide) (fun h51 => ?_) (fun h51 => ?_)
          · replace hP := hP.1 h51
            refine z_iconst (v := 0) dL_law_344 (by decide) ?_
            refine z_sub (lv' := [(0, z_O _), (1, z_O _), (2, z_O _), (3, z_O _), (4, z_I _)]) [0, 1, 2, 3, 4] rfl ?_
            exact v_L_law_345 hl9 hkb (fun _ _ _ _ _ w0 w1 w2 hP => ih w0 w1 w2 hP) f_x1 f_x2 f_x3 f_x1 (Or.inl rfl) hP
          · replace hP := hP.2 h51
            refine z_iconst (v := 1) dL_law_340 (by decide) ?_
            refine z_goto (tgt := 345) dL_law_341 (by decide) ?_
            refine z_sub (lv' := [(0, z_O _), (1, z_O _), (2, z_O _), (3, z_O _), (4, z_I _)]) [0, 1, 2, 3, 4] rfl ?_
            exact v_L_law_345 hl9 hkb (fun _ _ _ _ _ w0 w1 w2 hP => ih w0 w1 w2 hP) f_x1 f_x2 f_x3 f_x1 (Or.inr rfl) hP
        · cases htg
          replace hP := hP.2.2.2.1 h32
          refine z_aload_n dL_law_389 rfl 1 rfl ?_
          refine z_aload_n dL_law_390 rfl 0 rfl ?_
          refine z_pc (pc' := 391) rfl ?_
          refine z_iload dL_law_391 4 rfl ?_
          refine z_iconst (v := 1) dL_law_393 (by decide) ?_
          refine z_iadd dL_law_394 ?_
          obtain ⟨i52, hP⟩ := hP
          refine z_sld hkb i52 dL_law_395 ?_
          refine z_aload_n dL_law_396 rfl 0 rfl ?_
          refine z_iload dL_law_397 4 rfl ?_
          refine z_pc (pc' := 399) rfl ?_
          refine z_iconst (v := 2) dL_law_399 (by decide) ?_
          refine z_iadd dL_law_400 ?_
          obtain ⟨i53, hP⟩ := hP
          refine z_sld hkb i53 dL_law_401 ?_
          refine z_aload_n dL_law_402 rfl 0 rfl ?_
          refine z_iload dL_law_403 4 rfl ?_
          refine z_iconst (v := 3) dL_law_405 (by decide) ?_
          refine z_pc (pc' := 406) rfl ?_
          refine z_iadd dL_law_406 ?_
          obtain ⟨i54, hP⟩ := hP
          refine z_sld hkb i54 dL_law_407 ?_
          refine z_wts (fun hT55 _ => ?_)
          refine z_cSHi (hh := hh_L_late) (n := 4) (Y1 := Y_L_late) (st := []) rfl (s_L_late hl9 f_x1 hP) rfl ⟨z_dc_L_late, ⟨(Nat.le_of_ble_eq_true rfl), (Nat.le_of_ble_eq_true rfl)⟩, (Nat.le_of_ble_eq_true rfl)⟩ rfl zw_649 zw_650 zw_0 zh_L_late dL_law_408 (fun x_55 M_55 hP _ x55 => ?_)
          have f_x1 := x55.t (k := 11) hT55 f_x1
          have f_x2 := x55.t (k := 12) hT55 f_x2
          have f_x3 := x55.t (k := 24) hT55 f_x3
          refine z_istore (lv' := [(5, z_I _), (0, z_O _), (1, z_O _), (2, z_O _), (3, z_O _), (4, z_I _)]) dL_law_411 (Nat.le_of_ble_eq_true rfl) rfl ?_
          refine z_aload_n dL_law_413 rfl 3 rfl ?_
          refine z_aload_n dL_law_414 rfl 1 rfl ?_
          refine z_pc (pc' := 415) rfl ?_
          refine z_iload dL_law_415 5 rfl ?_
          refine z_iconst (v := 1) dL_law_417 (by decide) ?_
          refine z_iadd dL_law_418 ?_
          obtain ⟨i56, hP⟩ := hP
          refine z_sld hkb i56 dL_law_419 ?_
          refine z_aload_n dL_law_420 rfl 1 rfl ?_
          refine z_iload dL_law_421 5 rfl ?_
          refine z_pc (pc' := 423) rfl ?_
          refine z_iconst (v := 2) dL_law_423 (by decide) ?_
          refine z_iadd dL_law_424 ?_
          obtain ⟨i57, hP⟩ := hP
          refine z_sld hkb i57 dL_law_425 ?_
          refine z_aload_n dL_law_426 rfl 1 rfl ?_
          refine z_iload dL_law_427 5 rfl ?_
          refine z_iconst (v := 3) dL_law_429 (by decide) ?_
          refine z_pc (pc' := 430) rfl ?_
          refine z_iadd dL_law_430 ?_
          obtain ⟨i58, hP⟩ := hP
          refine z_sld hkb i58 dL_law_431 ?_
          obtain ⟨a60, e60, hP⟩ := hP
          have k60 := f_x2 a60 e60
          refine z_wts (fun hT59 _ => ?_)
          refine z_cVv (c := 12) (n := 3) (Y1 := Y_X12_late) (st := []) e60 k60 z_cb12 (Nat.le_of_ble_eq_true rfl) rfl (s_X12_late k60 hP) rfl ⟨z_dc_X12_late, ⟨(Nat.le_of_ble_eq_true rfl), (Nat.le_of_ble_eq_true rfl)⟩, (Nat.le_of_ble_eq_true rfl)⟩ rfl zw_1567 zw_1568 zw_1569 zw_12 zw_1570 dL_law_432 (fun M_59 hP _ x59 => ?_)
          have f_x1 := x59.t (k := 11) hT59 f_x1
          have k60 := x59.k (k := 12) hT59 k60
          have f_x3 := x59.t (k := 24) hT59 f_x3
          refine z_goto (tgt := 1056) dL_law_435 (by decide) ?_
          refine z_sub (lv' := [(0, z_O _), (1, z_O _), (2, z_O _), (3, z_O _), (4, z_I _)]) [1, 2, 3, 4, 5] rfl ?_
          exact v_L_law_1056 hl9 hkb (fun _ _ _ _ _ w0 w1 w2 hP => ih w0 w1 w2 hP) f_x1 (z_trn e60 k60) f_x3 hP
        · cases htg
          replace hP := hP.2.2.2.2.1 h32
          refine z_aload_n dL_law_438 rfl 1 rfl ?_
          refine z_aload_n dL_law_439 rfl 0 rfl ?_
          refine z_pc (pc' := 440) rfl ?_
          refine z_iload dL_law_440 4 rfl ?_
          refine z_iconst (v := 1) dL_law_442 (by decide) ?_
          refine z_iadd dL_law_443 ?_
          obtain ⟨i61, hP⟩ := hP
          refine z_sld hkb i61 dL_law_444 ?_
          refine z_aload_n dL_law_445 rfl 0 rfl ?_
          refine z_iload dL_law_446 4 rfl ?_
          refine z_pc (pc' := 448) rfl ?_
          refine z_iconst (v := 2) dL_law_448 (by decide) ?_
          refine z_iadd dL_law_449 ?_
          obtain ⟨i62, hP⟩ := hP
          refine z_sld hkb i62 dL_law_450 ?_
          refine z_aload_n dL_law_451 rfl 3 rfl ?_
          refine z_wts (fun hT63 _ => ?_)
          refine z_cSHi (hh := hh_L_foreign) (n := 4) (Y1 := Y_L_foreign) (st := []) rfl (s_L_foreign hl9 f_x1 f_x3 hP) rfl ⟨z_dc_L_foreign, ⟨(Nat.le_of_ble_eq_true rfl), (Nat.le_of_ble_eq_true rfl)⟩, (Nat.le_of_ble_eq_true rfl)⟩ rfl zw_656 zw_657 zw_0 zh_L_foreign dL_law_452 (fun x_63 M_63 hP _ x63 => ?_)
          have f_x1 := x63.t (k := 11) hT63 f_x1
          have f_x2 := x63.t (k := 12) hT63 f_x2
          have f_x3 := x63.t (k := 24) hT63 f_x3
          refine z_istore (lv' := [(5, z_I _), (0, z_O _), (1, z_O _), (2, z_O _), (3, z_O _), (4, z_I _)]) dL_law_455 (Nat.le_of_ble_eq_true rfl) rfl ?_
          refine z_pc (pc' := 457) rfl ?_
          refine z_aload_n dL_law_457 rfl 3 rfl ?_
          refine z_aload_n dL_law_458 rfl 1 rfl ?_
          refine z_iload dL_law_459 5 rfl ?_
          refine z_iconst (v := 1) dL_law_461 (by decide) ?_
          refine z_iadd dL_law_462 ?_
          obtain ⟨i64, hP⟩ := hP
          refine z_sld hkb i64 dL_law_463 ?_
          refine z_pc (pc' := 464) rfl ?_
          refine z_aload_n dL_law_464 rfl 1 rfl ?_
          refine z_iload dL_law_465 5 rfl ?_
          refine z_iconst (v := 2) dL_law_467 (by decide) ?_
          refine z_iadd dL_law_468 ?_
          obtain ⟨i65, hP⟩ := hP
          refine z_sld hkb i65 dL_law_469 ?_
          obtain ⟨a67, e67, hP⟩ := hP
          have k67 := f_x2 a67 e67
          refine z_wts (fun hT66 _ => ?_)
          refine z_cVi (c := 12) (n := 2) (Y1 := Y_X12_foreign) (st := []) e67 k67 z_cb12 (Nat.le_of_ble_eq_true rfl) rfl (s_X12_foreign k67 hP) rfl ⟨z_dc_X12_foreign, ⟨(Nat.le_of_ble_eq_true rfl), (Nat.le_of_ble_eq_true rfl)⟩, (Nat.le_of_ble_eq_true rfl)⟩ rfl zw_1571 zw_1572 zw_1573 zw_12 zw_1574 dL_law_470 (fun x_66 M_66 hP _ x66 => ?_)
          have f_x1 := x66.t (k := 11) hT66 f_x1
          have k67 := x66.k (k := 12) hT66 k67
          have f_x3 := x66.t (k := 24) hT66 f_x3
          refine z_pc (pc' := 473) rfl ?_
          refine z_istore (lv' := [(6, z_I _), (5, z_I _), (0, z_O _), (1, z_O _), (2, z_O _), (3, z_O _), (4, z_I _)]) dL_law_473 (Nat.le_of_ble_eq_true rfl) rfl ?_
          refine z_goto (tgt := 1056) dL_law_475 (by decide) ?_
          refine z_sub (lv' := [(0, z_O _), (1, z_O _), (2, z_O _), (3, z_O _), (4, z_I _)]) [2, 3, 4, 5, 6] rfl ?_
          exact v_L_law_1056 hl9 hkb (fun _ _ _ _ _ w0 w1 w2 hP => ih w0 w1 w2 hP) f_x1 (z_trn e67 k67) f_x3 hP
        · cases htg
          replace hP := hP.2.2.2.2.2.1 h32
          refine z_aload_n dL_law_478 rfl 1 rfl ?_
          refine z_aload_n dL_law_479 rfl 0 rfl ?_
          refine z_pc (pc' := 480) rfl ?_
          refine z_iload dL_law_480 4 rfl ?_
          refine z_iconst (v := 1) dL_law_482 (by decide) ?_
          refine z_iadd dL_law_483 ?_
          obtain ⟨i68, hP⟩ := hP
          refine z_sld hkb i68 dL_law_484 ?_
          refine z_if_eq (tgt := 492) dL_law_485 (by decide) (fun h69 => ?_) (fun h69 => ?_)
          · replace hP := hP.1 h69
            refine z_iconst (v := 0) dL_law_492 (by decide) ?_
            refine z_sub (lv' := [(0, z_O _), (1, z_O _), (2, z_O _), (3, z_O _), (4, z_I _)]) [0, 1, 2, 3, 4] rfl ?_
            exact v_L_law_493 hl9 hkb (fun _ _ _ _ _ w0 w1 w2 hP => ih w0 w1 w2 hP) f_x1 f_x2 f_x3 f_x1 (Or.inl rfl) hP
          · replace hP := hP.2 h69
            refine z_iconst (v := 1) dL_law_488 (by decide) ?_
            refine z_goto (tgt := 493) dL_law_489 (by decide) ?_
            refine z_sub (lv' := [(0, z_O _), (1, z_O _), (2, z_O _), (3, z_O _), (4, z_I _)]) [0, 1, 2, 3, 4] rfl ?_
            exact v_L_law_493 hl9 hkb (fun _ _ _ _ _ w0 w1 w2 hP => ih w0 w1 w2 hP) f_x1 f_x2 f_x3 f_x1 (Or.inr rfl) hP
        · cases htg
          replace hP := hP.2.2.2.2.2.2.1 h32
          refine z_aload_n dL_law_519 rfl 1 rfl ?_
          refine z_aload_n dL_law_520 rfl 0 rfl ?_
          refine z_pc (pc' := 521) rfl ?_
          refine z_iload dL_law_521 4 rfl ?_
          refine z_iconst (v := 1) dL_law_523 (by decide) ?_
          refine z_iadd dL_law_524 ?_
          obtain ⟨i70, hP⟩ := hP
          refine z_sld hkb i70 dL_law_525 ?_
          refine z_aload_n dL_law_526 rfl 0 rfl ?_
          refine z_iload dL_law_527 4 rfl ?_
          refine z_pc (pc' := 529) rfl ?_
          refine z_iconst (v := 2) dL_law_529 (by decide) ?_
          refine z_iadd dL_law_530 ?_
          obtain ⟨i71, hP⟩ := hP
          refine z_sld hkb i71 dL_law_531 ?_
          refine z_aload_n dL_law_532 rfl 3 rfl ?_
          refine z_wts (fun hT72 _ => ?_)
          refine z_cSHi (hh := hh_L_read) (n := 4) (Y1 := Y_L_read) (st := []) rfl (s_L_read hl9 f_x1 f_x3 hP) rfl ⟨z_dc_L_read, ⟨(Nat.le_of_ble_eq_true rfl), (Nat.le_of_ble_eq_true rfl)⟩, (Nat.le_of_ble_eq_true rfl)⟩ rfl zw_676 zw_677 zw_0 zh_L_read dL_law_533 (fun x_72 M_72 hP _ x72 => ?_)
          have f_x1 := x72.t (k := 11) hT72 f_x1
          have f_x2 := x72.t (k := 12) hT72 f_x2
          have f_x3 := x72.t (k := 24) hT72 f_x3
          refine z_istore (lv' := [(5, z_I _), (0, z_O _), (1, z_O _), (2, z_O _), (3, z_O _), (4, z_I _)]) dL_law_536 (Nat.le_of_ble_eq_true rfl) rfl ?_
          refine z_pc (pc' := 538) rfl ?_
          refine z_aload_n dL_law_538 rfl 3 rfl ?_
          refine z_aload_n dL_law_539 rfl 1 rfl ?_
          refine z_iload dL_law_540 5 rfl ?_
          refine z_iconst (v := 1) dL_law_542 (by decide) ?_
          refine z_iadd dL_law_543 ?_
          obtain ⟨i73, hP⟩ := hP
          refine z_sld hkb i73 dL_law_544 ?_
          refine z_pc (pc' := 545) rfl ?_
          refine z_aload_n dL_law_545 rfl 1 rfl ?_
          refine z_iload dL_law_546 5 rfl ?_
          refine z_iconst (v := 2) dL_law_548 (by decide) ?_
          refine z_iadd dL_law_549 ?_
          obtain ⟨i74, hP⟩ := hP
          refine z_sld hkb i74 dL_law_550 ?_
          obtain ⟨a76, e76, hP⟩ := hP
          have k76 := f_x2 a76 e76
          refine z_wts (fun hT75 _ => ?_)
          refine z_cVi (c := 12) (n := 2) (Y1 := Y_X12_read) (st := []) e76 k76 z_cb12 (Nat.le_of_ble_eq_true rfl) rfl (s_X12_read k76 hP) rfl ⟨z_dc_X12_read, ⟨(Nat.le_of_ble_eq_true rfl), (Nat.le_of_ble_eq_true rfl)⟩, (Nat.le_of_ble_eq_true rfl)⟩ rfl zw_1579 zw_1580 zw_1581 zw_12 zw_1582 dL_law_551 (fun x_75 M_75 hP _ x75 => ?_)
          have f_x1 := x75.t (k := 11) hT75 f_x1
          have k76 := x75.k (k := 12) hT75 k76
          have f_x3 := x75.t (k := 24) hT75 f_x3
          refine z_pc (pc' := 554) rfl ?_
          refine z_istore (lv' := [(6, z_I _), (5, z_I _), (0, z_O _), (1, z_O _), (2, z_O _), (3, z_O _), (4, z_I _)]) dL_law_554 (Nat.le_of_ble_eq_true rfl) rfl ?_
          refine z_goto (tgt := 1056) dL_law_556 (by decide) ?_
          refine z_sub (lv' := [(0, z_O _), (1, z_O _), (2, z_O _), (3, z_O _), (4, z_I _)]) [2, 3, 4, 5, 6] rfl ?_
          exact v_L_law_1056 hl9 hkb (fun _ _ _ _ _ w0 w1 w2 hP => ih w0 w1 w2 hP) f_x1 (z_trn e76 k76) f_x3 hP
        · cases htg
          replace hP := hP.2.2.2.2.2.2.2.1 h32
          refine z_aload_n dL_law_559 rfl 1 rfl ?_
          obtain ⟨a78, e78, hP⟩ := hP
          have k78 := f_x1 a78 e78
          refine z_wts (fun hT77 _ => ?_)
          refine z_cVv (c := 11) (n := 0) (Y1 := Y_X11_loseState) (st := []) e78 k78 z_cb11 (Nat.le_of_ble_eq_true rfl) rfl (s_X11_loseState k78 hP) rfl ⟨z_dc_X11_loseState, ⟨(Nat.le_of_ble_eq_true rfl), (Nat.le_of_ble_eq_true rfl)⟩, (Nat.le_of_ble_eq_true rfl)⟩ rfl zw_509 zw_510 zw_511 zw_1 zw_512 dL_law_560 (fun M_77 hP _ x77 => ?_)
          have k78 := x77.k (k := 11) hT77 k78
          have f_x2 := x77.t (k := 12) hT77 f_x2
          have f_x3 := x77.t (k := 24) hT77 f_x3
          refine z_pc (pc' := 563) rfl ?_
          refine z_aload_n dL_law_563 rfl 2 rfl ?_
          obtain ⟨a80, e80, hP⟩ := hP
          have k80 := f_x2 a80 e80
          refine z_wts (fun hT79 _ => ?_)
          refine z_cVv (c := 12) (n := 0) (Y1 := Y_X12_loseState) (st := []) e80 k80 z_cb12 (Nat.le_of_ble_eq_true rfl) rfl (s_X12_loseState k80 hP) rfl ⟨z_dc_X12_loseState, ⟨(Nat.le_of_ble_eq_true rfl), (Nat.le_of_ble_eq_true rfl)⟩, (Nat.le_of_ble_eq_true rfl)⟩ rfl zw_1598 zw_1599 zw_1600 zw_12 zw_1601 dL_law_564 (fun M_79 hP _ x79 => ?_)
          have k78 := x79.k (k := 11) hT79 k78
          have k80 := x79.k (k := 12) hT79 k80
          have f_x3 := x79.t (k := 24) hT79 f_x3
          refine z_goto (tgt := 1056) dL_law_567 (by decide) ?_
          refine z_sub (lv' := [(0, z_O _), (1, z_O _), (2, z_O _), (3, z_O _), (4, z_I _)]) [0, 1, 2, 3, 4] rfl ?_
          exact v_L_law_1056 hl9 hkb (fun _ _ _ _ _ w0 w1 w2 hP => ih w0 w1 w2 hP) (z_trn e78 k78) (z_trn e80 k80) f_x3 hP
        · cases htg
          replace hP := hP.2.2.2.2.2.2.2.2.1 h32
          refine z_aload_n dL_law_570 rfl 1 rfl ?_
          refine z_aload_n dL_law_571 rfl 0 rfl ?_
          refine z_pc (pc' := 572) rfl ?_
          refine z_iload dL_law_572 4 rfl ?_
          refine z_iconst (v := 1) dL_law_574 (by decide) ?_
          refine z_iadd dL_law_575 ?_
          obtain ⟨i81, hP⟩ := hP
          refine z_sld hkb i81 dL_law_576 ?_
          refine z_wts (fun hT82 _ => ?_)
          refine z_cSHi (hh := hh_L_connect) (n := 2) (Y1 := Y_L_connect) (st := []) rfl (s_L_connect hl9 f_x1 hP) rfl ⟨z_dc_L_connect, ⟨(Nat.le_of_ble_eq_true rfl), (Nat.le_of_ble_eq_true rfl)⟩, (Nat.le_of_ble_eq_true rfl)⟩ rfl zw_757 zw_758 zw_0 zh_L_connect dL_law_577 (fun x_82 M_82 hP _ x82 => ?_)
          have f_x1 := x82.t (k := 11) hT82 f_x1
          have f_x2 := x82.t (k := 12) hT82 f_x2
          have f_x3 := x82.t (k := 24) hT82 f_x3
          refine z_istore (lv' := [(5, z_I _), (0, z_O _), (1, z_O _), (2, z_O _), (3, z_O _), (4, z_I _)]) dL_law_580 (Nat.le_of_ble_eq_true rfl) rfl ?_
          refine z_pc (pc' := 582) rfl ?_
          refine z_aload_n dL_law_582 rfl 3 rfl ?_
          refine z_aload_n dL_law_583 rfl 1 rfl ?_
          refine z_iload dL_law_584 5 rfl ?_
          refine z_iconst (v := 1) dL_law_586 (by decide) ?_
          refine z_iadd dL_law_587 ?_
          obtain ⟨i83, hP⟩ := hP
          refine z_sld hkb i83 dL_law_588 ?_
          refine z_pc (pc' := 589) rfl ?_
          obtain ⟨a85, e85, hP⟩ := hP
          have k85 := f_x2 a85 e85
          refine z_wts (fun hT84 _ => ?_)
          refine z_cVv (c := 12) (n := 1) (Y1 := Y_X12_connect) (st := []) e85 k85 z_cb12 (Nat.le_of_ble_eq_true rfl) rfl (s_X12_connect k85 hP) rfl ⟨z_dc_X12_connect, ⟨(Nat.le_of_ble_eq_true rfl), (Nat.le_of_ble_eq_true rfl)⟩, (Nat.le_of_ble_eq_true rfl)⟩ rfl zw_1602 zw_1603 zw_1604 zw_12 zw_1605 dL_law_589 (fun M_84 hP _ x84 => ?_)
          have f_x1 := x84.t (k := 11) hT84 f_x1
          have k85 := x84.k (k := 12) hT84 k85
          have f_x3 := x84.t (k := 24) hT84 f_x3
          refine z_goto (tgt := 1056) dL_law_592 (by decide) ?_
          refine z_sub (lv' := [(0, z_O _), (1, z_O _), (2, z_O _), (3, z_O _), (4, z_I _)]) [1, 2, 3, 4, 5] rfl ?_
          exact v_L_law_1056 hl9 hkb (fun _ _ _ _ _ w0 w1 w2 hP => ih w0 w1 w2 hP) f_x1 (z_trn e85 k85) f_x3 hP
        · cases htg
          replace hP := hP.2.2.2.2.2.2.2.2.2.1 h32
          refine z_aload_n dL_law_595 rfl 1 rfl ?_
          refine z_aload_n dL_law_596 rfl 0 rfl ?_
          refine z_pc (pc' := 597) rfl ?_
          refine z_iload dL_law_597 4 rfl ?_
          refine z_iconst (v := 1) dL_law_599 (by decide) ?_
          refine z_iadd dL_law_600 ?_
          obtain ⟨i86, hP⟩ := hP
          refine z_sld hkb i86 dL_law_601 ?_
          refine z_aload_n dL_law_602 rfl 0 rfl ?_
          refine z_iload dL_law_603 4 rfl ?_
          refine z_pc (pc' := 605) rfl ?_
          refine z_iconst (v := 2) dL_law_605 (by decide) ?_
          refine z_iadd dL_law_606 ?_
          obtain ⟨i87, hP⟩ := hP
          refine z_sld hkb i87 dL_law_607 ?_
          refine z_aload_n dL_law_608 rfl 3 rfl ?_
          refine z_wts (fun hT88 _ => ?_)
          refine z_cSHi (hh := hh_L_write) (n := 4) (Y1 := Y_L_write) (st := []) rfl (s_L_write hl9 f_x1 f_x3 hP) rfl ⟨z_dc_L_write, ⟨(Nat.le_of_ble_eq_true rfl), (Nat.le_of_ble_eq_true rfl)⟩, (Nat.le_of_ble_eq_true rfl)⟩ rfl zw_803 zw_804 zw_0 zh_L_write dL_law_609 (fun x_88 M_88 hP _ x88 => ?_)
          have f_x1 := x88.t (k := 11) hT88 f_x1
          have f_x2 := x88.t (k := 12) hT88 f_x2
          have f_x3 := x88.t (k := 24) hT88 f_x3
          refine z_istore (lv' := [(5, z_I _), (0, z_O _), (1, z_O _), (2, z_O _), (3, z_O _), (4, z_I _)]) dL_law_612 (Nat.le_of_ble_eq_true rfl) rfl ?_
          refine z_pc (pc' := 614) rfl ?_
          refine z_aload_n dL_law_614 rfl 3 rfl ?_
          refine z_aload_n dL_law_615 rfl 1 rfl ?_
          refine z_iload dL_law_616 5 rfl ?_
          refine z_iconst (v := 1) dL_law_618 (by decide) ?_
          refine z_iadd dL_law_619 ?_
          obtain ⟨i89, hP⟩ := hP
          refine z_sld hkb i89 dL_law_620 ?_
          refine z_pc (pc' := 621) rfl ?_
          refine z_aload_n dL_law_621 rfl 1 rfl ?_
          refine z_iload dL_law_622 5 rfl ?_
          refine z_iconst (v := 2) dL_law_624 (by decide) ?_
          refine z_iadd dL_law_625 ?_
          obtain ⟨i90, hP⟩ := hP
          refine z_sld hkb i90 dL_law_626 ?_
          obtain ⟨a92, e92, hP⟩ := hP
          have k92 := f_x2 a92 e92
          refine z_wts (fun hT91 _ => ?_)
          refine z_cVi (c := 12) (n := 2) (Y1 := Y_X12_write) (st := []) e92 k92 z_cb12 (Nat.le_of_ble_eq_true rfl) rfl (s_X12_write k92 hP) rfl ⟨z_dc_X12_write, ⟨(Nat.le_of_ble_eq_true rfl), (Nat.le_of_ble_eq_true rfl)⟩, (Nat.le_of_ble_eq_true rfl)⟩ rfl zw_1614 zw_1615 zw_1616 zw_12 zw_1617 dL_law_627 (fun x_91 M_91 hP _ x91 => ?_)
          have f_x1 := x91.t (k := 11) hT91 f_x1
          have k92 := x91.k (k := 12) hT91 k92
          have f_x3 := x91.t (k := 24) hT91 f_x3
          refine z_pc (pc' := 630) rfl ?_
          refine z_istore (lv' := [(6, z_I _), (5, z_I _), (0, z_O _), (1, z_O _), (2, z_O _), (3, z_O _), (4, z_I _)]) dL_law_630 (Nat.le_of_ble_eq_true rfl) rfl ?_
          refine z_goto (tgt := 1056) dL_law_632 (by decide) ?_
          refine z_sub (lv' := [(0, z_O _), (1, z_O _), (2, z_O _), (3, z_O _), (4, z_I _)]) [2, 3, 4, 5, 6] rfl ?_
          exact v_L_law_1056 hl9 hkb (fun _ _ _ _ _ w0 w1 w2 hP => ih w0 w1 w2 hP) f_x1 (z_trn e92 k92) f_x3 hP
        · cases htg
          replace hP := hP.2.2.2.2.2.2.2.2.2.2.1 h32
          refine z_aload_n dL_law_635 rfl 1 rfl ?_
          refine z_aload_n dL_law_636 rfl 0 rfl ?_
          refine z_pc (pc' := 637) rfl ?_
          refine z_iload dL_law_637 4 rfl ?_
          refine z_iconst (v := 1) dL_law_639 (by decide) ?_
          refine z_iadd dL_law_640 ?_
          obtain ⟨i93, hP⟩ := hP
          refine z_sld hkb i93 dL_law_641 ?_
          refine z_aload_n dL_law_642 rfl 0 rfl ?_
          refine z_iload dL_law_643 4 rfl ?_
          refine z_pc (pc' := 645) rfl ?_
          refine z_iconst (v := 2) dL_law_645 (by decide) ?_
          refine z_iadd dL_law_646 ?_
          obtain ⟨i94, hP⟩ := hP
          refine z_sld hkb i94 dL_law_647 ?_
          refine z_aload_n dL_law_648 rfl 3 rfl ?_
          refine z_wts (fun hT95 _ => ?_)
          refine z_cSHi (hh := hh_L_setWay) (n := 4) (Y1 := Y_L_setWay) (st := []) rfl (s_L_setWay hl9 f_x1 f_x3 hP) rfl ⟨z_dc_L_setWay, ⟨(Nat.le_of_ble_eq_true rfl), (Nat.le_of_ble_eq_true rfl)⟩, (Nat.le_of_ble_eq_true rfl)⟩ rfl zw_810 zw_811 zw_0 zh_L_setWay dL_law_649 (fun x_95 M_95 hP _ x95 => ?_)
          have f_x1 := x95.t (k := 11) hT95 f_x1
          have f_x2 := x95.t (k := 12) hT95 f_x2
          have f_x3 := x95.t (k := 24) hT95 f_x3
          refine z_istore (lv' := [(5, z_I _), (0, z_O _), (1, z_O _), (2, z_O _), (3, z_O _), (4, z_I _)]) dL_law_652 (Nat.le_of_ble_eq_true rfl) rfl ?_
          refine z_pc (pc' := 654) rfl ?_
          refine z_aload_n dL_law_654 rfl 3 rfl ?_
          refine z_aload_n dL_law_655 rfl 1 rfl ?_
          refine z_iload dL_law_656 5 rfl ?_
          refine z_iconst (v := 1) dL_law_658 (by decide) ?_
          refine z_iadd dL_law_659 ?_
          obtain ⟨i96, hP⟩ := hP
          refine z_sld hkb i96 dL_law_660 ?_
          refine z_pc (pc' := 661) rfl ?_
          refine z_aload_n dL_law_661 rfl 1 rfl ?_
          refine z_iload dL_law_662 5 rfl ?_
          refine z_iconst (v := 2) dL_law_664 (by decide) ?_
          refine z_iadd dL_law_665 ?_
          obtain ⟨i97, hP⟩ := hP
          refine z_sld hkb i97 dL_law_666 ?_
          obtain ⟨a99, e99, hP⟩ := hP
          have k99 := f_x2 a99 e99
          refine z_wts (fun hT98 _ => ?_)
          refine z_cVi (c := 12) (n := 2) (Y1 := Y_X12_setWay) (st := []) e99 k99 z_cb12 (Nat.le_of_ble_eq_true rfl) rfl (s_X12_setWay k99 hP) rfl ⟨z_dc_X12_setWay, ⟨(Nat.le_of_ble_eq_true rfl), (Nat.le_of_ble_eq_true rfl)⟩, (Nat.le_of_ble_eq_true rfl)⟩ rfl zw_1618 zw_1619 zw_1620 zw_12 zw_1621 dL_law_667 (fun x_98 M_98 hP _ x98 => ?_)
          have f_x1 := x98.t (k := 11) hT98 f_x1
          have k99 := x98.k (k := 12) hT98 k99
          have f_x3 := x98.t (k := 24) hT98 f_x3
          refine z_pc (pc' := 670) rfl ?_
          refine z_istore (lv' := [(6, z_I _), (5, z_I _), (0, z_O _), (1, z_O _), (2, z_O _), (3, z_O _), (4, z_I _)]) dL_law_670 (Nat.le_of_ble_eq_true rfl) rfl ?_
          refine z_goto (tgt := 1056) dL_law_672 (by decide) ?_
          refine z_sub (lv' := [(0, z_O _), (1, z_O _), (2, z_O _), (3, z_O _), (4, z_I _)]) [2, 3, 4, 5, 6] rfl ?_
          exact v_L_law_1056 hl9 hkb (fun _ _ _ _ _ w0 w1 w2 hP => ih w0 w1 w2 hP) f_x1 (z_trn e99 k99) f_x3 hP
        · cases htg
          replace hP := hP.2.2.2.2.2.2.2.2.2.2.2.1 h32
          refine z_aload_n dL_law_675 rfl 1 rfl ?_
          refine z_aload_n dL_law_676 rfl 0 rfl ?_
          refine z_pc (pc' := 677) rfl ?_
          refine z_iload dL_law_677 4 rfl ?_
          refine z_iconst (v := 1) dL_law_679 (by decide) ?_
          refine z_iadd dL_law_680 ?_
          obtain ⟨i100, hP⟩ := hP
          refine z_sld hkb i100 dL_law_681 ?_
          refine z_wts (fun hT101 _ => ?_)
          refine z_cSHi (hh := hh_L_check) (n := 2) (Y1 := Y_L_check) (st := []) rfl (s_L_check hl9 f_x1 hP) rfl ⟨z_dc_L_check, ⟨(Nat.le_of_ble_eq_true rfl), (Nat.le_of_ble_eq_true rfl)⟩, (Nat.le_of_ble_eq_true rfl)⟩ rfl zw_821 zw_822 zw_0 zh_L_check dL_law_682 (fun x_101 M_101 hP _ x101 => ?_)
          have f_x1 := x101.t (k := 11) hT101 f_x1
          have f_x2 := x101.t (k := 12) hT101 f_x2
          have f_x3 := x101.t (k := 24) hT101 f_x3
          refine z_istore (lv' := [(5, z_I _), (0, z_O _), (1, z_O _), (2, z_O _), (3, z_O _), (4, z_I _)]) dL_law_685 (Nat.le_of_ble_eq_true rfl) rfl ?_
          refine z_pc (pc' := 687) rfl ?_
          refine z_aload_n dL_law_687 rfl 3 rfl ?_
          refine z_aload_n dL_law_688 rfl 1 rfl ?_
          refine z_iload dL_law_689 5 rfl ?_
          refine z_iconst (v := 1) dL_law_691 (by decide) ?_
          refine z_iadd dL_law_692 ?_
          obtain ⟨i102, hP⟩ := hP
          refine z_sld hkb i102 dL_law_693 ?_
          refine z_pc (pc' := 694) rfl ?_
          obtain ⟨a104, e104, hP⟩ := hP
          have k104 := f_x2 a104 e104
          refine z_wts (fun hT103 _ => ?_)
          refine z_cVv (c := 12) (n := 1) (Y1 := Y_X12_check) (st := []) e104 k104 z_cb12 (Nat.le_of_ble_eq_true rfl) rfl (s_X12_check k104 hP) rfl ⟨z_dc_X12_check, ⟨(Nat.le_of_ble_eq_true rfl), (Nat.le_of_ble_eq_true rfl)⟩, (Nat.le_of_ble_eq_true rfl)⟩ rfl zw_1622 zw_1623 zw_1624 zw_12 zw_1625 dL_law_694 (fun M_103 hP _ x103 => ?_)
          have f_x1 := x103.t (k := 11) hT103 f_x1
          have k104 := x103.k (k := 12) hT103 k104
          have f_x3 := x103.t (k := 24) hT103 f_x3
          refine z_goto (tgt := 1056) dL_law_697 (by decide) ?_
          refine z_sub (lv' := [(0, z_O _), (1, z_O _), (2, z_O _), (3, z_O _), (4, z_I _)]) [1, 2, 3, 4, 5] rfl ?_
          exact v_L_law_1056 hl9 hkb (fun _ _ _ _ _ w0 w1 w2 hP => ih w0 w1 w2 hP) f_x1 (z_trn e104 k104) f_x3 hP
        · cases htg
          replace hP := hP.2.2.2.2.2.2.2.2.2.2.2.2.1 h32
          refine z_aload_n dL_law_700 rfl 1 rfl ?_
          refine z_aload_n dL_law_701 rfl 0 rfl ?_
          refine z_pc (pc' := 702) rfl ?_
          refine z_iload dL_law_702 4 rfl ?_
          refine z_iconst (v := 1) dL_law_704 (by decide) ?_
          refine z_iadd dL_law_705 ?_
          obtain ⟨i105, hP⟩ := hP
          refine z_sld hkb i105 dL_law_706 ?_
          refine z_aload_n dL_law_707 rfl 3 rfl ?_
          refine z_wts (fun hT106 _ => ?_)
          refine z_cSHi (hh := hh_L_use) (n := 3) (Y1 := Y_L_use) (st := []) rfl (s_L_use hl9 f_x1 f_x3 hP) rfl ⟨z_dc_L_use, ⟨(Nat.le_of_ble_eq_true rfl), (Nat.le_of_ble_eq_true rfl)⟩, (Nat.le_of_ble_eq_true rfl)⟩ rfl zw_831 zw_832 zw_0 zh_L_use dL_law_708 (fun x_106 M_106 hP _ x106 => ?_)
          have f_x1 := x106.t (k := 11) hT106 f_x1
          have f_x2 := x106.t (k := 12) hT106 f_x2
          have f_x3 := x106.t (k := 24) hT106 f_x3
          refine z_pc (pc' := 711) rfl ?_
          refine z_istore (lv' := [(5, z_I _), (0, z_O _), (1, z_O _), (2, z_O _), (3, z_O _), (4, z_I _)]) dL_law_711 (Nat.le_of_ble_eq_true rfl) rfl ?_
          refine z_aload_n dL_law_713 rfl 3 rfl ?_
          refine z_aload_n dL_law_714 rfl 1 rfl ?_
          refine z_iload dL_law_715 5 rfl ?_
          refine z_iconst (v := 1) dL_law_717 (by decide) ?_
          refine z_iadd dL_law_718 ?_
          refine z_pc (pc' := 719) rfl ?_
          obtain ⟨i107, hP⟩ := hP
          refine z_sld hkb i107 dL_law_719 ?_
          obtain ⟨a109, e109, hP⟩ := hP
          have k109 := f_x2 a109 e109
          refine z_wts (fun hT108 _ => ?_)
          refine z_cVi (c := 12) (n := 1) (Y1 := Y_X12_use) (st := []) e109 k109 z_cb12 (Nat.le_of_ble_eq_true rfl) rfl (s_X12_use k109 hP) rfl ⟨z_dc_X12_use, ⟨(Nat.le_of_ble_eq_true rfl), (Nat.le_of_ble_eq_true rfl)⟩, (Nat.le_of_ble_eq_true rfl)⟩ rfl zw_1626 zw_1627 zw_1628 zw_12 zw_1629 dL_law_720 (fun x_108 M_108 hP _ x108 => ?_)
          have f_x1 := x108.t (k := 11) hT108 f_x1
          have k109 := x108.k (k := 12) hT108 k109
          have f_x3 := x108.t (k := 24) hT108 f_x3
          refine z_istore (lv' := [(6, z_I _), (5, z_I _), (0, z_O _), (1, z_O _), (2, z_O _), (3, z_O _), (4, z_I _)]) dL_law_723 (Nat.le_of_ble_eq_true rfl) rfl ?_
          refine z_goto (tgt := 1056) dL_law_725 (by decide) ?_
          refine z_sub (lv' := [(0, z_O _), (1, z_O _), (2, z_O _), (3, z_O _), (4, z_I _)]) [2, 3, 4, 5, 6] rfl ?_
          exact v_L_law_1056 hl9 hkb (fun _ _ _ _ _ w0 w1 w2 hP => ih w0 w1 w2 hP) f_x1 (z_trn e109 k109) f_x3 hP
        · cases htg
          replace hP := hP.2.2.2.2.2.2.2.2.2.2.2.2.2.1 h32
          refine z_aload_n dL_law_728 rfl 1 rfl ?_
          refine z_aload_n dL_law_729 rfl 3 rfl ?_
          refine z_pc (pc' := 730) rfl ?_
          refine z_wts (fun hT110 _ => ?_)
          refine z_cSHi (hh := hh_L_changeKey) (n := 2) (Y1 := Y_L_changeKey) (st := []) rfl (s_L_changeKey hl9 f_x1 f_x3 hP) rfl ⟨z_dc_L_changeKey, ⟨(Nat.le_of_ble_eq_true rfl), (Nat.le_of_ble_eq_true rfl)⟩, (Nat.le_of_ble_eq_true rfl)⟩ rfl zw_838 zw_839 zw_0 zh_L_changeKey dL_law_730 (fun x_110 M_110 hP _ x110 => ?_)
          have f_x1 := x110.t (k := 11) hT110 f_x1
          have f_x2 := x110.t (k := 12) hT110 f_x2
          have f_x3 := x110.t (k := 24) hT110 f_x3
          refine z_istore (lv' := [(5, z_I _), (0, z_O _), (1, z_O _), (2, z_O _), (3, z_O _), (4, z_I _)]) dL_law_733 (Nat.le_of_ble_eq_true rfl) rfl ?_
          refine z_aload_n dL_law_735 rfl 3 rfl ?_
          obtain ⟨a112, e112, hP⟩ := hP
          have k112 := f_x2 a112 e112
          refine z_wts (fun hT111 _ => ?_)
          refine z_cVi (c := 12) (n := 0) (Y1 := Y_X12_changeKey) (st := []) e112 k112 z_cb12 (Nat.le_of_ble_eq_true rfl) rfl (s_X12_changeKey k112 hP) rfl ⟨z_dc_X12_changeKey, ⟨(Nat.le_of_ble_eq_true rfl), (Nat.le_of_ble_eq_true rfl)⟩, (Nat.le_of_ble_eq_true rfl)⟩ rfl zw_1630 zw_1631 zw_1632 zw_12 zw_1633 dL_law_736 (fun x_111 M_111 hP _ x111 => ?_)
          have f_x1 := x111.t (k := 11) hT111 f_x1
          have k112 := x111.k (k := 12) hT111 k112
          have f_x3 := x111.t (k := 24) hT111 f_x3
          refine z_istore (lv' := [(6, z_I _), (5, z_I _), (0, z_O _), (1, z_O _), (2, z_O _), (3, z_O _), (4, z_I _)]) dL_law_739 (Nat.le_of_ble_eq_true rfl) rfl ?_
          refine z_goto (tgt := 1056) dL_law_741 (by decide) ?_
          refine z_sub (lv' := [(0, z_O _), (1, z_O _), (2, z_O _), (3, z_O _), (4, z_I _)]) [2, 3, 4, 5, 6] rfl ?_
          exact v_L_law_1056 hl9 hkb (fun _ _ _ _ _ w0 w1 w2 hP => ih w0 w1 w2 hP) f_x1 (z_trn e112 k112) f_x3 hP
        · cases htg
          replace hP := hP.2.2.2.2.2.2.2.2.2.2.2.2.2.2.1 h32
          refine z_aload_n dL_law_744 rfl 1 rfl ?_
          refine z_wts (fun hT113 _ => ?_)
          refine z_cSHi (hh := hh_L_close) (n := 1) (Y1 := Y_L_close) (st := []) rfl (s_L_close hl9 f_x1 hP) rfl ⟨z_dc_L_close, ⟨(Nat.le_of_ble_eq_true rfl), (Nat.le_of_ble_eq_true rfl)⟩, (Nat.le_of_ble_eq_true rfl)⟩ rfl zw_856 zw_857 zw_0 zh_L_close dL_law_745 (fun x_113 M_113 hP _ x113 => ?_)
          have f_x1 := x113.t (k := 11) hT113 f_x1
          have f_x2 := x113.t (k := 12) hT113 f_x2
          have f_x3 := x113.t (k := 24) hT113 f_x3
          refine z_pc (pc' := 748) rfl ?_
          refine z_istore (lv' := [(5, z_I _), (0, z_O _), (1, z_O _), (2, z_O _), (3, z_O _), (4, z_I _)]) dL_law_748 (Nat.le_of_ble_eq_true rfl) rfl ?_
          refine z_aload_n dL_law_750 rfl 3 rfl ?_
          obtain ⟨a115, e115, hP⟩ := hP
          have k115 := f_x2 a115 e115
          refine z_wts (fun hT114 _ => ?_)
          refine z_cVv (c := 12) (n := 0) (Y1 := Y_X12_close) (st := []) e115 k115 z_cb12 (Nat.le_of_ble_eq_true rfl) rfl (s_X12_close k115 hP) rfl ⟨z_dc_X12_close, ⟨(Nat.le_of_ble_eq_true rfl), (Nat.le_of_ble_eq_true rfl)⟩, (Nat.le_of_ble_eq_true rfl)⟩ rfl zw_1634 zw_1635 zw_1636 zw_12 zw_1637 dL_law_751 (fun M_114 hP _ x114 => ?_)
          have f_x1 := x114.t (k := 11) hT114 f_x1
          have k115 := x114.k (k := 12) hT114 k115
          have f_x3 := x114.t (k := 24) hT114 f_x3
          refine z_goto (tgt := 1056) dL_law_754 (by decide) ?_
          refine z_sub (lv' := [(0, z_O _), (1, z_O _), (2, z_O _), (3, z_O _), (4, z_I _)]) [1, 2, 3, 4, 5] rfl ?_
          exact v_L_law_1056 hl9 hkb (fun _ _ _ _ _ w0 w1 w2 hP => ih w0 w1 w2 hP) f_x1 (z_trn e115 k115) f_x3 hP
        · cases htg
          replace hP := hP.2.2.2.2.2.2.2.2.2.2.2.2.2.2.2.1 h32
          refine z_aload_n dL_law_757 rfl 1 rfl ?_
          refine z_aload_n dL_law_758 rfl 0 rfl ?_
          refine z_pc (pc' := 759) rfl ?_
          refine z_iload dL_law_759 4 rfl ?_
          refine z_iconst (v := 1) dL_law_761 (by decide) ?_
          refine z_iadd dL_law_762 ?_
          obtain ⟨i116, hP⟩ := hP
          refine z_sld hkb i116 dL_law_763 ?_
          refine z_aload_n dL_law_764 rfl 3 rfl ?_
          refine z_wts (fun hT117 _ => ?_)
          refine z_cSHi (hh := hh_L_tick) (n := 3) (Y1 := Y_L_tick) (st := []) rfl (s_L_tick hl9 f_x1 f_x3 hP) rfl ⟨z_dc_L_tick, ⟨(Nat.le_of_ble_eq_true rfl), (Nat.le_of_ble_eq_true rfl)⟩, (Nat.le_of_ble_eq_true rfl)⟩ rfl zw_867 zw_868 zw_0 zh_L_tick dL_law_765 (fun x_117 M_117 hP _ x117 => ?_)
          have f_x1 := x117.t (k := 11) hT117 f_x1
          have f_x2 := x117.t (k := 12) hT117 f_x2
          have f_x3 := x117.t (k := 24) hT117 f_x3
          refine z_pc (pc' := 768) rfl ?_
          refine z_istore (lv' := [(5, z_I _), (0, z_O _), (1, z_O _), (2, z_O _), (3, z_O _), (4, z_I _)]) dL_law_768 (Nat.le_of_ble_eq_true rfl) rfl ?_
          refine z_aload_n dL_law_770 rfl 3 rfl ?_
          refine z_aload_n dL_law_771 rfl 1 rfl ?_
          refine z_iload dL_law_772 5 rfl ?_
          refine z_iconst (v := 1) dL_law_774 (by decide) ?_
          refine z_iadd dL_law_775 ?_
          refine z_pc (pc' := 776) rfl ?_
          obtain ⟨i118, hP⟩ := hP
          refine z_sld hkb i118 dL_law_776 ?_
          obtain ⟨a120, e120, hP⟩ := hP
          have k120 := f_x2 a120 e120
          refine z_wts (fun hT119 _ => ?_)
          refine z_cVi (c := 12) (n := 1) (Y1 := Y_X12_tick) (st := []) e120 k120 z_cb12 (Nat.le_of_ble_eq_true rfl) rfl (s_X12_tick k120 hP) rfl ⟨z_dc_X12_tick, ⟨(Nat.le_of_ble_eq_true rfl), (Nat.le_of_ble_eq_true rfl)⟩, (Nat.le_of_ble_eq_true rfl)⟩ rfl zw_1638 zw_1639 zw_1640 zw_12 zw_1641 dL_law_777 (fun x_119 M_119 hP _ x119 => ?_)
          have f_x1 := x119.t (k := 11) hT119 f_x1
          have k120 := x119.k (k := 12) hT119 k120
          have f_x3 := x119.t (k := 24) hT119 f_x3
          refine z_istore (lv' := [(6, z_I _), (5, z_I _), (0, z_O _), (1, z_O _), (2, z_O _), (3, z_O _), (4, z_I _)]) dL_law_780 (Nat.le_of_ble_eq_true rfl) rfl ?_
          refine z_goto (tgt := 1056) dL_law_782 (by decide) ?_
          refine z_sub (lv' := [(0, z_O _), (1, z_O _), (2, z_O _), (3, z_O _), (4, z_I _)]) [2, 3, 4, 5, 6] rfl ?_
          exact v_L_law_1056 hl9 hkb (fun _ _ _ _ _ w0 w1 w2 hP => ih w0 w1 w2 hP) f_x1 (z_trn e120 k120) f_x3 hP
        · cases htg
          replace hP := hP.2.2.2.2.2.2.2.2.2.2.2.2.2.2.2.2.1 h32
          refine z_aload_n dL_law_785 rfl 1 rfl ?_
          obtain ⟨a122, e122, hP⟩ := hP
          have k122 := f_x1 a122 e122
          refine z_wts (fun hT121 _ => ?_)
          refine z_cVi (c := 11) (n := 0) (Y1 := Y_X11_now) (st := []) e122 k122 z_cb11 (Nat.le_of_ble_eq_true rfl) rfl (s_X11_now k122 hP) rfl ⟨z_dc_X11_now, ⟨(Nat.le_of_ble_eq_true rfl), (Nat.le_of_ble_eq_true rfl)⟩, (Nat.le_of_ble_eq_true rfl)⟩ rfl zw_520 zw_521 zw_522 zw_1 zw_523 dL_law_786 (fun x_121 M_121 hP _ x121 => ?_)
          have k122 := x121.k (k := 11) hT121 k122
          have f_x2 := x121.t (k := 12) hT121 f_x2
          have f_x3 := x121.t (k := 24) hT121 f_x3
          refine z_pc (pc' := 789) rfl ?_
          refine z_pop dL_law_789 rfl ?_
          refine z_aload_n dL_law_790 rfl 2 rfl ?_
          obtain ⟨a124, e124, hP⟩ := hP
          have k124 := f_x2 a124 e124
          refine z_wts (fun hT123 _ => ?_)
          refine z_cVi (c := 12) (n := 0) (Y1 := Y_X12_now) (st := []) e124 k124 z_cb12 (Nat.le_of_ble_eq_true rfl) rfl (s_X12_now k124 hP) rfl ⟨z_dc_X12_now, ⟨(Nat.le_of_ble_eq_true rfl), (Nat.le_of_ble_eq_true rfl)⟩, (Nat.le_of_ble_eq_true rfl)⟩ rfl zw_1766 zw_1767 zw_1768 zw_12 zw_1769 dL_law_791 (fun x_123 M_123 hP _ x123 => ?_)
          have k122 := x123.k (k := 11) hT123 k122
          have k124 := x123.k (k := 12) hT123 k124
          have f_x3 := x123.t (k := 24) hT123 f_x3
          refine z_pop dL_law_794 rfl ?_
          refine z_goto (tgt := 1056) dL_law_795 (by decide) ?_
          refine z_sub (lv' := [(0, z_O _), (1, z_O _), (2, z_O _), (3, z_O _), (4, z_I _)]) [0, 1, 2, 3, 4] rfl ?_
          exact v_L_law_1056 hl9 hkb (fun _ _ _ _ _ w0 w1 w2 hP => ih w0 w1 w2 hP) (z_trn e122 k122) (z_trn e124 k124) f_x3 hP
        · cases htg
          replace hP := hP.2.2.2.2.2.2.2.2.2.2.2.2.2.2.2.2.2.1 h32
          refine z_aload_n dL_law_798 rfl 1 rfl ?_
          refine z_aload_n dL_law_799 rfl 0 rfl ?_
          refine z_pc (pc' := 800) rfl ?_
          refine z_iload dL_law_800 4 rfl ?_
          refine z_iconst (v := 1) dL_law_802 (by decide) ?_
          refine z_iadd dL_law_803 ?_
          obtain ⟨i125, hP⟩ := hP
          refine z_sld hkb i125 dL_law_804 ?_
          refine z_aload_n dL_law_805 rfl 3 rfl ?_
          refine z_wts (fun hT126 _ => ?_)
          refine z_cSHi (hh := hh_L_state) (n := 3) (Y1 := Y_L_state) (st := []) rfl (s_L_state hl9 f_x1 f_x3 hP) rfl ⟨z_dc_L_state, ⟨(Nat.le_of_ble_eq_true rfl), (Nat.le_of_ble_eq_true rfl)⟩, (Nat.le_of_ble_eq_true rfl)⟩ rfl zw_1186 zw_1187 zw_0 zh_L_state dL_law_806 (fun x_126 M_126 hP _ x126 => ?_)
          have f_x1 := x126.t (k := 11) hT126 f_x1
          have f_x2 := x126.t (k := 12) hT126 f_x2
          have f_x3 := x126.t (k := 24) hT126 f_x3
          refine z_pc (pc' := 809) rfl ?_
          refine z_istore (lv' := [(5, z_I _), (0, z_O _), (1, z_O _), (2, z_O _), (3, z_O _), (4, z_I _)]) dL_law_809 (Nat.le_of_ble_eq_true rfl) rfl ?_
          refine z_aload_n dL_law_811 rfl 3 rfl ?_
          refine z_aload_n dL_law_812 rfl 1 rfl ?_
          refine z_iload dL_law_813 5 rfl ?_
          refine z_iconst (v := 1) dL_law_815 (by decide) ?_
          refine z_iadd dL_law_816 ?_
          refine z_pc (pc' := 817) rfl ?_
          obtain ⟨i127, hP⟩ := hP
          refine z_sld hkb i127 dL_law_817 ?_
          obtain ⟨a129, e129, hP⟩ := hP
          have k129 := f_x2 a129 e129
          refine z_wts (fun hT128 _ => ?_)
          refine z_cVi (c := 12) (n := 1) (Y1 := Y_X12_state) (st := []) e129 k129 z_cb12 (Nat.le_of_ble_eq_true rfl) rfl (s_X12_state k129 hP) rfl ⟨z_dc_X12_state, ⟨(Nat.le_of_ble_eq_true rfl), (Nat.le_of_ble_eq_true rfl)⟩, (Nat.le_of_ble_eq_true rfl)⟩ rfl zw_1770 zw_1771 zw_1772 zw_12 zw_1773 dL_law_818 (fun x_128 M_128 hP _ x128 => ?_)
          have f_x1 := x128.t (k := 11) hT128 f_x1
          have k129 := x128.k (k := 12) hT128 k129
          have f_x3 := x128.t (k := 24) hT128 f_x3
          refine z_istore (lv' := [(6, z_I _), (5, z_I _), (0, z_O _), (1, z_O _), (2, z_O _), (3, z_O _), (4, z_I _)]) dL_law_821 (Nat.le_of_ble_eq_true rfl) rfl ?_
          refine z_goto (tgt := 1056) dL_law_823 (by decide) ?_
          refine z_sub (lv' := [(0, z_O _), (1, z_O _), (2, z_O _), (3, z_O _), (4, z_I _)]) [2, 3, 4, 5, 6] rfl ?_
          exact v_L_law_1056 hl9 hkb (fun _ _ _ _ _ w0 w1 w2 hP => ih w0 w1 w2 hP) f_x1 (z_trn e129 k129) f_x3 hP
        · cases htg
          replace hP := hP.2.2.2.2.2.2.2.2.2.2.2.2.2.2.2.2.2.2.1 h32
          refine z_aload_n dL_law_826 rfl 1 rfl ?_
          refine z_aload_n dL_law_827 rfl 0 rfl ?_
          refine z_pc (pc' := 828) rfl ?_
          refine z_iload dL_law_828 4 rfl ?_
          refine z_iconst (v := 1) dL_law_830 (by decide) ?_
          refine z_iadd dL_law_831 ?_
          obtain ⟨i130, hP⟩ := hP
          refine z_sld hkb i130 dL_law_832 ?_
          refine z_aload_n dL_law_833 rfl 0 rfl ?_
          refine z_iload dL_law_834 4 rfl ?_
          refine z_pc (pc' := 836) rfl ?_
          refine z_iconst (v := 2) dL_law_836 (by decide) ?_
          refine z_iadd dL_law_837 ?_
          obtain ⟨i131, hP⟩ := hP
          refine z_sld hkb i131 dL_law_838 ?_
          refine z_aload_n dL_law_839 rfl 3 rfl ?_
          refine z_wts (fun hT132 _ => ?_)
          refine z_cSHi (hh := hh_L_path) (n := 4) (Y1 := Y_L_path) (st := []) rfl (s_L_path hl9 f_x1 f_x3 hP) rfl ⟨z_dc_L_path, ⟨(Nat.le_of_ble_eq_true rfl), (Nat.le_of_ble_eq_true rfl)⟩, (Nat.le_of_ble_eq_true rfl)⟩ rfl zw_1193 zw_1194 zw_0 zh_L_path dL_law_840 (fun x_132 M_132 hP _ x132 => ?_)
          have f_x1 := x132.t (k := 11) hT132 f_x1
          have f_x2 := x132.t (k := 12) hT132 f_x2
          have f_x3 := x132.t (k := 24) hT132 f_x3
          refine z_istore (lv' := [(5, z_I _), (0, z_O _), (1, z_O _), (2, z_O _), (3, z_O _), (4, z_I _)]) dL_law_843 (Nat.le_of_ble_eq_true rfl) rfl ?_
          refine z_pc (pc' := 845) rfl ?_
          refine z_aload_n dL_law_845 rfl 3 rfl ?_
          refine z_aload_n dL_law_846 rfl 1 rfl ?_
          refine z_iload dL_law_847 5 rfl ?_
          refine z_iconst (v := 1) dL_law_849 (by decide) ?_
          refine z_iadd dL_law_850 ?_
          obtain ⟨i133, hP⟩ := hP
          refine z_sld hkb i133 dL_law_851 ?_
          refine z_pc (pc' := 852) rfl ?_
          refine z_aload_n dL_law_852 rfl 1 rfl ?_
          refine z_iload dL_law_853 5 rfl ?_
          refine z_iconst (v := 2) dL_law_855 (by decide) ?_
          refine z_iadd dL_law_856 ?_
          obtain ⟨i134, hP⟩ := hP
          refine z_sld hkb i134 dL_law_857 ?_
          obtain ⟨a136, e136, hP⟩ := hP
          have k136 := f_x2 a136 e136
          refine z_wts (fun hT135 _ => ?_)
          refine z_cVi (c := 12) (n := 2) (Y1 := Y_X12_path) (st := []) e136 k136 z_cb12 (Nat.le_of_ble_eq_true rfl) rfl (s_X12_path k136 hP) rfl ⟨z_dc_X12_path, ⟨(Nat.le_of_ble_eq_true rfl), (Nat.le_of_ble_eq_true rfl)⟩, (Nat.le_of_ble_eq_true rfl)⟩ rfl zw_1774 zw_1775 zw_1776 zw_12 zw_1777 dL_law_858 (fun x_135 M_135 hP _ x135 => ?_)
          have f_x1 := x135.t (k := 11) hT135 f_x1
          have k136 := x135.k (k := 12) hT135 k136
          have f_x3 := x135.t (k := 24) hT135 f_x3
          refine z_pc (pc' := 861) rfl ?_
          refine z_istore (lv' := [(6, z_I _), (5, z_I _), (0, z_O _), (1, z_O _), (2, z_O _), (3, z_O _), (4, z_I _)]) dL_law_861 (Nat.le_of_ble_eq_true rfl) rfl ?_
          refine z_goto (tgt := 1056) dL_law_863 (by decide) ?_
          refine z_sub (lv' := [(0, z_O _), (1, z_O _), (2, z_O _), (3, z_O _), (4, z_I _)]) [2, 3, 4, 5, 6] rfl ?_
          exact v_L_law_1056 hl9 hkb (fun _ _ _ _ _ w0 w1 w2 hP => ih w0 w1 w2 hP) f_x1 (z_trn e136 k136) f_x3 hP
        · cases htg
          replace hP := hP.2.2.2.2.2.2.2.2.2.2.2.2.2.2.2.2.2.2.2.1 h32
          refine z_aload_n dL_law_866 rfl 1 rfl ?_
          refine z_aload_n dL_law_867 rfl 0 rfl ?_
          refine z_pc (pc' := 868) rfl ?_
          refine z_iload dL_law_868 4 rfl ?_
          refine z_iconst (v := 1) dL_law_870 (by decide) ?_
          refine z_iadd dL_law_871 ?_
          obtain ⟨i137, hP⟩ := hP
          refine z_sld hkb i137 dL_law_872 ?_
          refine z_aload_n dL_law_873 rfl 0 rfl ?_
          refine z_iload dL_law_874 4 rfl ?_
          refine z_pc (pc' := 876) rfl ?_
          refine z_iconst (v := 2) dL_law_876 (by decide) ?_
          refine z_iadd dL_law_877 ?_
          obtain ⟨i138, hP⟩ := hP
          refine z_sld hkb i138 dL_law_878 ?_
          refine z_aload_n dL_law_879 rfl 3 rfl ?_
          refine z_wts (fun hT139 _ => ?_)
          refine z_cSHi (hh := hh_L_stream) (n := 4) (Y1 := Y_L_stream) (st := []) rfl (s_L_stream hl9 f_x1 f_x3 hP) rfl ⟨z_dc_L_stream, ⟨(Nat.le_of_ble_eq_true rfl), (Nat.le_of_ble_eq_true rfl)⟩, (Nat.le_of_ble_eq_true rfl)⟩ rfl zw_1203 zw_1204 zw_0 zh_L_stream dL_law_880 (fun x_139 M_139 hP _ x139 => ?_)
          have f_x1 := x139.t (k := 11) hT139 f_x1
          have f_x2 := x139.t (k := 12) hT139 f_x2
          have f_x3 := x139.t (k := 24) hT139 f_x3
          refine z_istore (lv' := [(5, z_I _), (0, z_O _), (1, z_O _), (2, z_O _), (3, z_O _), (4, z_I _)]) dL_law_883 (Nat.le_of_ble_eq_true rfl) rfl ?_
          refine z_pc (pc' := 885) rfl ?_
          refine z_aload_n dL_law_885 rfl 3 rfl ?_
          refine z_aload_n dL_law_886 rfl 1 rfl ?_
          refine z_iload dL_law_887 5 rfl ?_
          refine z_iconst (v := 1) dL_law_889 (by decide) ?_
          refine z_iadd dL_law_890 ?_
          obtain ⟨i140, hP⟩ := hP
          refine z_sld hkb i140 dL_law_891 ?_
          refine z_pc (pc' := 892) rfl ?_
          refine z_aload_n dL_law_892 rfl 1 rfl ?_
          refine z_iload dL_law_893 5 rfl ?_
          refine z_iconst (v := 2) dL_law_895 (by decide) ?_
          refine z_iadd dL_law_896 ?_
          obtain ⟨i141, hP⟩ := hP
          refine z_sld hkb i141 dL_law_897 ?_
          obtain ⟨a143, e143, hP⟩ := hP
          have k143 := f_x2 a143 e143
          refine z_wts (fun hT142 _ => ?_)
          refine z_cVi (c := 12) (n := 2) (Y1 := Y_X12_stream) (st := []) e143 k143 z_cb12 (Nat.le_of_ble_eq_true rfl) rfl (s_X12_stream k143 hP) rfl ⟨z_dc_X12_stream, ⟨(Nat.le_of_ble_eq_true rfl), (Nat.le_of_ble_eq_true rfl)⟩, (Nat.le_of_ble_eq_true rfl)⟩ rfl zw_1778 zw_1779 zw_1780 zw_12 zw_1781 dL_law_898 (fun x_142 M_142 hP _ x142 => ?_)
          have f_x1 := x142.t (k := 11) hT142 f_x1
          have k143 := x142.k (k := 12) hT142 k143
          have f_x3 := x142.t (k := 24) hT142 f_x3
          refine z_pc (pc' := 901) rfl ?_
          refine z_istore (lv' := [(6, z_I _), (5, z_I _), (0, z_O _), (1, z_O _), (2, z_O _), (3, z_O _), (4, z_I _)]) dL_law_901 (Nat.le_of_ble_eq_true rfl) rfl ?_
          refine z_goto (tgt := 1056) dL_law_903 (by decide) ?_
          refine z_sub (lv' := [(0, z_O _), (1, z_O _), (2, z_O _), (3, z_O _), (4, z_I _)]) [2, 3, 4, 5, 6] rfl ?_
          exact v_L_law_1056 hl9 hkb (fun _ _ _ _ _ w0 w1 w2 hP => ih w0 w1 w2 hP) f_x1 (z_trn e143 k143) f_x3 hP
        · cases htg
          replace hP := hP.2.2.2.2.2.2.2.2.2.2.2.2.2.2.2.2.2.2.2.2.1 h32
          refine z_aload_n dL_law_906 rfl 1 rfl ?_
          obtain ⟨a145, e145, hP⟩ := hP
          have k145 := f_x1 a145 e145
          refine z_wts (fun hT144 _ => ?_)
          refine z_cVi (c := 11) (n := 0) (Y1 := Y_X11_credit) (st := []) e145 k145 z_cb11 (Nat.le_of_ble_eq_true rfl) rfl (s_X11_credit k145 hP) rfl ⟨z_dc_X11_credit, ⟨(Nat.le_of_ble_eq_true rfl), (Nat.le_of_ble_eq_true rfl)⟩, (Nat.le_of_ble_eq_true rfl)⟩ rfl zw_524 zw_525 zw_526 zw_1 zw_527 dL_law_907 (fun x_144 M_144 hP _ x144 => ?_)
          have k145 := x144.k (k := 11) hT144 k145
          have f_x2 := x144.t (k := 12) hT144 f_x2
          have f_x3 := x144.t (k := 24) hT144 f_x3
          refine z_pc (pc' := 910) rfl ?_
          refine z_pop dL_law_910 rfl ?_
          refine z_aload_n dL_law_911 rfl 2 rfl ?_
          obtain ⟨a147, e147, hP⟩ := hP
          have k147 := f_x2 a147 e147
          refine z_wts (fun hT146 _ => ?_)
          refine z_cVi (c := 12) (n := 0) (Y1 := Y_X12_credit) (st := []) e147 k147 z_cb12 (Nat.le_of_ble_eq_true rfl) rfl (s_X12_credit k147 hP) rfl ⟨z_dc_X12_credit, ⟨(Nat.le_of_ble_eq_true rfl), (Nat.le_of_ble_eq_true rfl)⟩, (Nat.le_of_ble_eq_true rfl)⟩ rfl zw_1782 zw_1783 zw_1784 zw_12 zw_1785 dL_law_912 (fun x_146 M_146 hP _ x146 => ?_)
          have k145 := x146.k (k := 11) hT146 k145
          have k147 := x146.k (k := 12) hT146 k147
          have f_x3 := x146.t (k := 24) hT146 f_x3
          refine z_pop dL_law_915 rfl ?_
          refine z_goto (tgt := 1056) dL_law_916 (by decide) ?_
          refine z_sub (lv' := [(0, z_O _), (1, z_O _), (2, z_O _), (3, z_O _), (4, z_I _)]) [0, 1, 2, 3, 4] rfl ?_
          exact v_L_law_1056 hl9 hkb (fun _ _ _ _ _ w0 w1 w2 hP => ih w0 w1 w2 hP) (z_trn e145 k145) (z_trn e147 k147) f_x3 hP
        · cases htg
          replace hP := hP.2.2.2.2.2.2.2.2.2.2.2.2.2.2.2.2.2.2.2.2.2.1 h32
          refine z_aload_n dL_law_919 rfl 1 rfl ?_
          obtain ⟨a149, e149, hP⟩ := hP
          have k149 := f_x1 a149 e149
          refine z_wts (fun hT148 _ => ?_)
          refine z_cVi (c := 11) (n := 0) (Y1 := Y_X11_packets) (st := []) e149 k149 z_cb11 (Nat.le_of_ble_eq_true rfl) rfl (s_X11_packets k149 hP) rfl ⟨z_dc_X11_packets, ⟨(Nat.le_of_ble_eq_true rfl), (Nat.le_of_ble_eq_true rfl)⟩, (Nat.le_of_ble_eq_true rfl)⟩ rfl zw_528 zw_529 zw_530 zw_1 zw_531 dL_law_920 (fun x_148 M_148 hP _ x148 => ?_)
          have k149 := x148.k (k := 11) hT148 k149
          have f_x2 := x148.t (k := 12) hT148 f_x2
          have f_x3 := x148.t (k := 24) hT148 f_x3
          refine z_pc (pc' := 923) rfl ?_
          refine z_pop dL_law_923 rfl ?_
          refine z_aload_n dL_law_924 rfl 2 rfl ?_
          obtain ⟨a151, e151, hP⟩ := hP
          have k151 := f_x2 a151 e151
          refine z_wts (fun hT150 _ => ?_)
          refine z_cVi (c := 12) (n := 0) (Y1 := Y_X12_packets) (st := []) e151 k151 z_cb12 (Nat.le_of_ble_eq_true rfl) rfl (s_X12_packets k151 hP) rfl ⟨z_dc_X12_packets, ⟨(Nat.le_of_ble_eq_true rfl), (Nat.le_of_ble_eq_true rfl)⟩, (Nat.le_of_ble_eq_true rfl)⟩ rfl zw_1786 zw_1787 zw_1788 zw_12 zw_1789 dL_law_925 (fun x_150 M_150 hP _ x150 => ?_)
          have k149 := x150.k (k := 11) hT150 k149
          have k151 := x150.k (k := 12) hT150 k151
          have f_x3 := x150.t (k := 24) hT150 f_x3
          refine z_pop dL_law_928 rfl ?_
          refine z_goto (tgt := 1056) dL_law_929 (by decide) ?_
          refine z_sub (lv' := [(0, z_O _), (1, z_O _), (2, z_O _), (3, z_O _), (4, z_I _)]) [0, 1, 2, 3, 4] rfl ?_
          exact v_L_law_1056 hl9 hkb (fun _ _ _ _ _ w0 w1 w2 hP => ih w0 w1 w2 hP) (z_trn e149 k149) (z_trn e151 k151) f_x3 hP
        · cases htg
          replace hP := hP.2.2.2.2.2.2.2.2.2.2.2.2.2.2.2.2.2.2.2.2.2.2.1 h32
          refine z_aload_n dL_law_932 rfl 1 rfl ?_
          refine z_aload_n dL_law_933 rfl 0 rfl ?_
          refine z_pc (pc' := 934) rfl ?_
          refine z_iload dL_law_934 4 rfl ?_
          refine z_iconst (v := 1) dL_law_936 (by decide) ?_
          refine z_iadd dL_law_937 ?_
          obtain ⟨i152, hP⟩ := hP
          refine z_sld hkb i152 dL_law_938 ?_
          refine z_aload_n dL_law_939 rfl 0 rfl ?_
          refine z_iload dL_law_940 4 rfl ?_
          refine z_pc (pc' := 942) rfl ?_
          refine z_iconst (v := 2) dL_law_942 (by decide) ?_
          refine z_iadd dL_law_943 ?_
          obtain ⟨i153, hP⟩ := hP
          refine z_sld hkb i153 dL_law_944 ?_
          refine z_aload_n dL_law_945 rfl 3 rfl ?_
          refine z_wts (fun hT154 _ => ?_)
          refine z_cSHi (hh := hh_L_packet) (n := 4) (Y1 := Y_L_packet) (st := []) rfl (s_L_packet hl9 f_x1 f_x3 hP) rfl ⟨z_dc_L_packet, ⟨(Nat.le_of_ble_eq_true rfl), (Nat.le_of_ble_eq_true rfl)⟩, (Nat.le_of_ble_eq_true rfl)⟩ rfl zw_1210 zw_1211 zw_0 zh_L_packet dL_law_946 (fun x_154 M_154 hP _ x154 => ?_)
          have f_x1 := x154.t (k := 11) hT154 f_x1
          have f_x2 := x154.t (k := 12) hT154 f_x2
          have f_x3 := x154.t (k := 24) hT154 f_x3
          refine z_istore (lv' := [(5, z_I _), (0, z_O _), (1, z_O _), (2, z_O _), (3, z_O _), (4, z_I _)]) dL_law_949 (Nat.le_of_ble_eq_true rfl) rfl ?_
          refine z_pc (pc' := 951) rfl ?_
          refine z_aload_n dL_law_951 rfl 3 rfl ?_
          refine z_aload_n dL_law_952 rfl 1 rfl ?_
          refine z_iload dL_law_953 5 rfl ?_
          refine z_iconst (v := 1) dL_law_955 (by decide) ?_
          refine z_iadd dL_law_956 ?_
          obtain ⟨i155, hP⟩ := hP
          refine z_sld hkb i155 dL_law_957 ?_
          refine z_pc (pc' := 958) rfl ?_
          refine z_aload_n dL_law_958 rfl 1 rfl ?_
          refine z_iload dL_law_959 5 rfl ?_
          refine z_iconst (v := 2) dL_law_961 (by decide) ?_
          refine z_iadd dL_law_962 ?_
          obtain ⟨i156, hP⟩ := hP
          refine z_sld hkb i156 dL_law_963 ?_
          obtain ⟨a158, e158, hP⟩ := hP
          have k158 := f_x2 a158 e158
          refine z_wts (fun hT157 _ => ?_)
          refine z_cVi (c := 12) (n := 2) (Y1 := Y_X12_packet) (st := []) e158 k158 z_cb12 (Nat.le_of_ble_eq_true rfl) rfl (s_X12_packet k158 hP) rfl ⟨z_dc_X12_packet, ⟨(Nat.le_of_ble_eq_true rfl), (Nat.le_of_ble_eq_true rfl)⟩, (Nat.le_of_ble_eq_true rfl)⟩ rfl zw_1790 zw_1791 zw_1792 zw_12 zw_1793 dL_law_964 (fun x_157 M_157 hP _ x157 => ?_)
          have f_x1 := x157.t (k := 11) hT157 f_x1
          have k158 := x157.k (k := 12) hT157 k158
          have f_x3 := x157.t (k := 24) hT157 f_x3
          refine z_pc (pc' := 967) rfl ?_
          refine z_istore (lv' := [(6, z_I _), (5, z_I _), (0, z_O _), (1, z_O _), (2, z_O _), (3, z_O _), (4, z_I _)]) dL_law_967 (Nat.le_of_ble_eq_true rfl) rfl ?_
          refine z_goto (tgt := 1056) dL_law_969 (by decide) ?_
          refine z_sub (lv' := [(0, z_O _), (1, z_O _), (2, z_O _), (3, z_O _), (4, z_I _)]) [2, 3, 4, 5, 6] rfl ?_
          exact v_L_law_1056 hl9 hkb (fun _ _ _ _ _ w0 w1 w2 hP => ih w0 w1 w2 hP) f_x1 (z_trn e158 k158) f_x3 hP
        · cases htg
          replace hP := hP.2.2.2.2.2.2.2.2.2.2.2.2.2.2.2.2.2.2.2.2.2.2.2.1 h32
          refine z_aload_n dL_law_972 rfl 1 rfl ?_
          refine z_aload_n dL_law_973 rfl 0 rfl ?_
          refine z_pc (pc' := 974) rfl ?_
          refine z_iload dL_law_974 4 rfl ?_
          refine z_iconst (v := 1) dL_law_976 (by decide) ?_
          refine z_iadd dL_law_977 ?_
          obtain ⟨i159, hP⟩ := hP
          refine z_sld hkb i159 dL_law_978 ?_
          refine z_aload_n dL_law_979 rfl 3 rfl ?_
          refine z_wts (fun hT160 _ => ?_)
          refine z_cSHi (hh := hh_L_count) (n := 3) (Y1 := Y_L_count) (st := []) rfl (s_L_count hl9 f_x1 f_x3 hP) rfl ⟨z_dc_L_count, ⟨(Nat.le_of_ble_eq_true rfl), (Nat.le_of_ble_eq_true rfl)⟩, (Nat.le_of_ble_eq_true rfl)⟩ rfl zw_1223 zw_1224 zw_0 zh_L_count dL_law_980 (fun x_160 M_160 hP _ x160 => ?_)
          have f_x1 := x160.t (k := 11) hT160 f_x1
          have f_x2 := x160.t (k := 12) hT160 f_x2
          have f_x3 := x160.t (k := 24) hT160 f_x3
          refine z_pc (pc' := 983) rfl ?_
          refine z_istore (lv' := [(5, z_I _), (0, z_O _), (1, z_O _), (2, z_O _), (3, z_O _), (4, z_I _)]) dL_law_983 (Nat.le_of_ble_eq_true rfl) rfl ?_
          refine z_aload_n dL_law_985 rfl 3 rfl ?_
          refine z_aload_n dL_law_986 rfl 1 rfl ?_
          refine z_iload dL_law_987 5 rfl ?_
          refine z_iconst (v := 1) dL_law_989 (by decide) ?_
          refine z_iadd dL_law_990 ?_
          refine z_pc (pc' := 991) rfl ?_
          obtain ⟨i161, hP⟩ := hP
          refine z_sld hkb i161 dL_law_991 ?_
          obtain ⟨a163, e163, hP⟩ := hP
          have k163 := f_x2 a163 e163
          refine z_wts (fun hT162 _ => ?_)
          refine z_cVi (c := 12) (n := 1) (Y1 := Y_X12_count) (st := []) e163 k163 z_cb12 (Nat.le_of_ble_eq_true rfl) rfl (s_X12_count k163 hP) rfl ⟨z_dc_X12_count, ⟨(Nat.le_of_ble_eq_true rfl), (Nat.le_of_ble_eq_true rfl)⟩, (Nat.le_of_ble_eq_true rfl)⟩ rfl zw_1794 zw_1795 zw_1796 zw_12 zw_1797 dL_law_992 (fun x_162 M_162 hP _ x162 => ?_)
          have f_x1 := x162.t (k := 11) hT162 f_x1
          have k163 := x162.k (k := 12) hT162 k163
          have f_x3 := x162.t (k := 24) hT162 f_x3
          refine z_istore (lv' := [(6, z_I _), (5, z_I _), (0, z_O _), (1, z_O _), (2, z_O _), (3, z_O _), (4, z_I _)]) dL_law_995 (Nat.le_of_ble_eq_true rfl) rfl ?_
          refine z_goto (tgt := 1056) dL_law_997 (by decide) ?_
          refine z_sub (lv' := [(0, z_O _), (1, z_O _), (2, z_O _), (3, z_O _), (4, z_I _)]) [2, 3, 4, 5, 6] rfl ?_
          exact v_L_law_1056 hl9 hkb (fun _ _ _ _ _ w0 w1 w2 hP => ih w0 w1 w2 hP) f_x1 (z_trn e163 k163) f_x3 hP
        · cases htg
          replace hP := hP.2.2.2.2.2.2.2.2.2.2.2.2.2.2.2.2.2.2.2.2.2.2.2.2.1 h32
          refine z_aload_n dL_law_1000 rfl 1 rfl ?_
          refine z_aload_n dL_law_1001 rfl 0 rfl ?_
          refine z_pc (pc' := 1002) rfl ?_
          refine z_iload dL_law_1002 4 rfl ?_
          refine z_iconst (v := 1) dL_law_1004 (by decide) ?_
          refine z_iadd dL_law_1005 ?_
          obtain ⟨i164, hP⟩ := hP
          refine z_sld hkb i164 dL_law_1006 ?_
          refine z_aload_n dL_law_1007 rfl 3 rfl ?_
          refine z_wts (fun hT165 _ => ?_)
          refine z_cSHi (hh := hh_L_inFlightAnew) (n := 3) (Y1 := Y_L_inFlightAnew) (st := []) rfl (s_L_inFlightAnew hl9 f_x1 f_x3 hP) rfl ⟨z_dc_L_inFlightAnew, ⟨(Nat.le_of_ble_eq_true rfl), (Nat.le_of_ble_eq_true rfl)⟩, (Nat.le_of_ble_eq_true rfl)⟩ rfl zw_1230 zw_1231 zw_0 zh_L_inFlightAnew dL_law_1008 (fun x_165 M_165 hP _ x165 => ?_)
          have f_x1 := x165.t (k := 11) hT165 f_x1
          have f_x2 := x165.t (k := 12) hT165 f_x2
          have f_x3 := x165.t (k := 24) hT165 f_x3
          refine z_pc (pc' := 1011) rfl ?_
          refine z_istore (lv' := [(5, z_I _), (0, z_O _), (1, z_O _), (2, z_O _), (3, z_O _), (4, z_I _)]) dL_law_1011 (Nat.le_of_ble_eq_true rfl) rfl ?_
          refine z_aload_n dL_law_1013 rfl 3 rfl ?_
          refine z_aload_n dL_law_1014 rfl 1 rfl ?_
          refine z_iload dL_law_1015 5 rfl ?_
          refine z_iconst (v := 1) dL_law_1017 (by decide) ?_
          refine z_iadd dL_law_1018 ?_
          refine z_pc (pc' := 1019) rfl ?_
          obtain ⟨i166, hP⟩ := hP
          refine z_sld hkb i166 dL_law_1019 ?_
          obtain ⟨a168, e168, hP⟩ := hP
          have k168 := f_x2 a168 e168
          refine z_wts (fun hT167 _ => ?_)
          refine z_cVi (c := 12) (n := 1) (Y1 := Y_X12_inFlightAnew) (st := []) e168 k168 z_cb12 (Nat.le_of_ble_eq_true rfl) rfl (s_X12_inFlightAnew k168 hP) rfl ⟨z_dc_X12_inFlightAnew, ⟨(Nat.le_of_ble_eq_true rfl), (Nat.le_of_ble_eq_true rfl)⟩, (Nat.le_of_ble_eq_true rfl)⟩ rfl zw_1798 zw_1799 zw_1800 zw_12 zw_1801 dL_law_1020 (fun x_167 M_167 hP _ x167 => ?_)
          have f_x1 := x167.t (k := 11) hT167 f_x1
          have k168 := x167.k (k := 12) hT167 k168
          have f_x3 := x167.t (k := 24) hT167 f_x3
          refine z_istore (lv' := [(6, z_I _), (5, z_I _), (0, z_O _), (1, z_O _), (2, z_O _), (3, z_O _), (4, z_I _)]) dL_law_1023 (Nat.le_of_ble_eq_true rfl) rfl ?_
          refine z_goto (tgt := 1056) dL_law_1025 (by decide) ?_
          refine z_sub (lv' := [(0, z_O _), (1, z_O _), (2, z_O _), (3, z_O _), (4, z_I _)]) [2, 3, 4, 5, 6] rfl ?_
          exact v_L_law_1056 hl9 hkb (fun _ _ _ _ _ w0 w1 w2 hP => ih w0 w1 w2 hP) f_x1 (z_trn e168 k168) f_x3 hP
        · cases htg
          replace hP := hP.2.2.2.2.2.2.2.2.2.2.2.2.2.2.2.2.2.2.2.2.2.2.2.2.2.1 h32
          refine z_aload_n dL_law_1028 rfl 1 rfl ?_
          refine z_aload_n dL_law_1029 rfl 0 rfl ?_
          refine z_pc (pc' := 1030) rfl ?_
          refine z_iload dL_law_1030 4 rfl ?_
          refine z_iconst (v := 1) dL_law_1032 (by decide) ?_
          refine z_iadd dL_law_1033 ?_
          obtain ⟨i169, hP⟩ := hP
          refine z_sld hkb i169 dL_law_1034 ?_
          refine z_aload_n dL_law_1035 rfl 3 rfl ?_
          refine z_wts (fun hT170 _ => ?_)
          refine z_cSHi (hh := hh_L_gotAnew) (n := 3) (Y1 := Y_L_gotAnew) (st := []) rfl (s_L_gotAnew hl9 f_x1 f_x3 hP) rfl ⟨z_dc_L_gotAnew, ⟨(Nat.le_of_ble_eq_true rfl), (Nat.le_of_ble_eq_true rfl)⟩, (Nat.le_of_ble_eq_true rfl)⟩ rfl zw_1237 zw_1238 zw_0 zh_L_gotAnew dL_law_1036 (fun x_170 M_170 hP _ x170 => ?_)
          have f_x1 := x170.t (k := 11) hT170 f_x1
          have f_x2 := x170.t (k := 12) hT170 f_x2
          have f_x3 := x170.t (k := 24) hT170 f_x3
          refine z_pc (pc' := 1039) rfl ?_
          refine z_istore (lv' := [(5, z_I _), (0, z_O _), (1, z_O _), (2, z_O _), (3, z_O _), (4, z_I _)]) dL_law_1039 (Nat.le_of_ble_eq_true rfl) rfl ?_
          refine z_aload_n dL_law_1041 rfl 3 rfl ?_
          refine z_aload_n dL_law_1042 rfl 1 rfl ?_
          refine z_iload dL_law_1043 5 rfl ?_
          refine z_iconst (v := 1) dL_law_1045 (by decide) ?_
          refine z_iadd dL_law_1046 ?_
          refine z_pc (pc' := 1047) rfl ?_
          obtain ⟨i171, hP⟩ := hP
          refine z_sld hkb i171 dL_law_1047 ?_
          obtain ⟨a173, e173, hP⟩ := hP
          have k173 := f_x2 a173 e173
          refine z_wts (fun hT172 _ => ?_)
          refine z_cVi (c := 12) (n := 1) (Y1 := Y_X12_gotAnew) (st := []) e173 k173 z_cb12 (Nat.le_of_ble_eq_true rfl) rfl (s_X12_gotAnew k173 hP) rfl ⟨z_dc_X12_gotAnew, ⟨(Nat.le_of_ble_eq_true rfl), (Nat.le_of_ble_eq_true rfl)⟩, (Nat.le_of_ble_eq_true rfl)⟩ rfl zw_1802 zw_1803 zw_1804 zw_12 zw_1805 dL_law_1048 (fun x_172 M_172 hP _ x172 => ?_)
          have f_x1 := x172.t (k := 11) hT172 f_x1
          have k173 := x172.k (k := 12) hT172 k173
          have f_x3 := x172.t (k := 24) hT172 f_x3
          refine z_istore (lv' := [(6, z_I _), (5, z_I _), (0, z_O _), (1, z_O _), (2, z_O _), (3, z_O _), (4, z_I _)]) dL_law_1051 (Nat.le_of_ble_eq_true rfl) rfl ?_
          refine z_goto (tgt := 1056) dL_law_1053 (by decide) ?_
          refine z_sub (lv' := [(0, z_O _), (1, z_O _), (2, z_O _), (3, z_O _), (4, z_I _)]) [2, 3, 4, 5, 6] rfl ?_
          exact v_L_law_1056 hl9 hkb (fun _ _ _ _ _ w0 w1 w2 hP => ih w0 w1 w2 hP) f_x1 (z_trn e173 k173) f_x3 hP
      · replace hP := hP.2.2.2.2.2.2.2.2.2.2.2.2.2.2.2.2.2.2.2.2.2.2.2.2.2.2 h32
        refine z_sub (lv' := [(0, z_O _), (1, z_O _), (2, z_O _), (3, z_O _), (4, z_I _)]) [0, 1, 2, 3, 4] rfl ?_
        exact v_L_law_1056 hl9 hkb (fun _ _ _ _ _ w0 w1 w2 hP => ih w0 w1 w2 hP) f_x1 f_x2 f_x3 hP
set_option maxRecDepth 100000 in
set_option maxHeartbeats 4000000 in
theorem s_L_law {G : z_G} {M : z_Mem} {a L : Nat} {xs : Nat → Int32} {Post : Int32 → z_Mem → Prop} (hl9 : G.1.stackTraces = false) (hkb : z_ki M a = 0) (hP : P_L_law L xs M Post) : z_V G Y_L_law (z_XL a L xs) M (z_QM G M (z_PB Post)) M 0 [(0, z_O (some a))] [] := by
  unfold P_L_law at hP
  obtain ⟨r174, hP⟩ := hP
  refine z_wts (fun hT174 _ => ?_)
  refine z_newo (c := 11) z_cb11 (Nat.le_of_ble_eq_true rfl) rfl z_df11 zw_22 zw_23 zw_1 r174 dL_law_0 (fun x174 k174 => ?_)
  refine z_nm (fun M_175 g_175 => ?_)
  replace hP := hP M_175 g_175
  have x174 := z_xe g_175 x174
  have k174 := z_xk g_175 k174
  refine z_dup dL_law_3 rfl ?_
  refine z_wts (fun hT176 _ => ?_)
  refine z_cIv (n := 0) (Y1 := Y_X11_init) (st := [z_O _]) rfl (s_X11_init k174 hP) rfl rfl rfl ⟨z_dc_X11_init, ⟨(Nat.le_of_ble_eq_true rfl), (Nat.le_of_ble_eq_true rfl)⟩, (Nat.le_of_ble_eq_true rfl)⟩ rfl zw_24 zw_25 zw_1 zw_26 dL_law_4 (fun M_176 hP _ x176 => ?_)
  have k174 := x176.k (k := 11) hT176 k174
  refine z_astore_n (lv' := [(1, z_O _), (0, z_O _)]) dL_law_7 rfl (Nat.le_of_ble_eq_true rfl) rfl ?_
  obtain ⟨r177, hP⟩ := hP
  refine z_wts (fun hT177 _ => ?_)
  refine z_newo (c := 12) z_cb12 (Nat.le_of_ble_eq_true rfl) rfl z_df12 zw_1247 zw_1248 zw_12 r177 dL_law_8 (fun x177 k177 => ?_)
  refine z_nm (fun M_178 g_178 => ?_)
  replace hP := hP M_178 g_178
  have x177 := z_xe g_178 x177
  have k177 := z_xk g_178 k177
  have k174 := x177.k (k := 11) hT177 k174
  refine z_dup dL_law_11 rfl ?_
  refine z_pc (pc' := 12) rfl ?_
  refine z_wts (fun hT179 _ => ?_)
  refine z_cIv (n := 0) (Y1 := Y_X12_init) (st := [z_O _]) rfl (s_X12_init k177 hP) rfl rfl rfl ⟨z_dc_X12_init, ⟨(Nat.le_of_ble_eq_true rfl), (Nat.le_of_ble_eq_true rfl)⟩, (Nat.le_of_ble_eq_true rfl)⟩ rfl zw_1249 zw_1250 zw_12 zw_1251 dL_law_12 (fun M_179 hP _ x179 => ?_)
  have k174 := x179.k (k := 11) hT179 k174
  have k177 := x179.k (k := 12) hT179 k177
  refine z_astore_n (lv' := [(2, z_O _), (1, z_O _), (0, z_O _)]) dL_law_15 rfl (Nat.le_of_ble_eq_true rfl) rfl ?_
  refine z_iconst (v := 1) dL_law_16 (by decide) ?_
  obtain ⟨r180, hP⟩ := hP
  refine z_wts (fun hT180 _ => ?_)
  refine z_newa (t := 25) (N := 1) (Or.inr (Or.inr ⟨rfl, rfl⟩)) zw_1806 rfl (Nat.le_of_ble_eq_true rfl) r180 dL_law_17 (fun x180 k180 => ?_)
  refine z_nm (fun M_181 g_181 => ?_)
  replace hP := hP M_181 g_181
  have x180 := z_xe g_181 x180
  have k180 := z_xk g_181 k180
  have k177 := x180.k (k := 12) hT180 k177
  have k174 := x180.k (k := 11) hT180 k174
  refine z_astore_n (lv' := [(3, z_O _), (2, z_O _), (1, z_O _), (0, z_O _)]) dL_law_19 rfl (Nat.le_of_ble_eq_true rfl) rfl ?_
  refine z_iconst (v := 0) dL_law_20 (by decide) ?_
  refine z_pc (pc' := 21) rfl ?_
  refine z_istore (lv' := [(4, z_I _), (3, z_O _), (2, z_O _), (1, z_O _), (0, z_O _)]) dL_law_21 (Nat.le_of_ble_eq_true rfl) rfl ?_
  obtain ⟨n182, hP⟩ := hP
  refine z_sub (lv' := [(0, z_O _), (1, z_O _), (2, z_O _), (3, z_O _), (4, z_I _)]) [4, 3, 2, 1, 0] rfl ?_
  exact v_L_law_23 hl9 hkb  n182 (z_trn rfl k174) (z_trn rfl k177) (z_trn rfl k180) hP
