abbrev Y_L_setPath : z_Y := (yL_setPath, cL_setPath, 7, (some .int), 8, 138)
theorem z_dc_L_setPath : Y_L_setPath.1.cls ≠ "java/lang/invoke/MethodHandle" ∧ Y_L_setPath.1.cls ≠ "java/lang/invoke/VarHandle" ∧ (parseMethodDescriptor Y_L_setPath.1.desc).map (fun d => d.parameters.length) = some 6 := by decide +kernel
abbrev Y_L_setUp : z_Y := (yL_setUp, cL_setUp, 5, (some .int), 8, 134)
theorem z_dc_L_setUp : Y_L_setUp.1.cls ≠ "java/lang/invoke/MethodHandle" ∧ Y_L_setUp.1.cls ≠ "java/lang/invoke/VarHandle" ∧ (parseMethodDescriptor Y_L_setUp.1.desc).map (fun d => d.parameters.length) = some 4 := by decide +kernel
abbrev Y_L_lose : z_Y := (yL_lose, cL_lose, 5, (some .int), 8, 136)
theorem z_dc_L_lose : Y_L_lose.1.cls ≠ "java/lang/invoke/MethodHandle" ∧ Y_L_lose.1.cls ≠ "java/lang/invoke/VarHandle" ∧ (parseMethodDescriptor Y_L_lose.1.desc).map (fun d => d.parameters.length) = some 4 := by decide +kernel
abbrev Y_L_late : z_Y := (yL_late, cL_late, 5, (some .int), 8, 136)
theorem z_dc_L_late : Y_L_late.1.cls ≠ "java/lang/invoke/MethodHandle" ∧ Y_L_late.1.cls ≠ "java/lang/invoke/VarHandle" ∧ (parseMethodDescriptor Y_L_late.1.desc).map (fun d => d.parameters.length) = some 4 := by decide +kernel
abbrev Y_L_foreign : z_Y := (yL_foreign, cL_foreign, 5, (some .int), 8, 134)
theorem z_dc_L_foreign : Y_L_foreign.1.cls ≠ "java/lang/invoke/MethodHandle" ∧ Y_L_foreign.1.cls ≠ "java/lang/invoke/VarHandle" ∧ (parseMethodDescriptor Y_L_foreign.1.desc).map (fun d => d.parameters.length) = some 4 := by decide +kernel
abbrev Y_L_read : z_Y := (yL_read, cL_read, 5, (some .int), 8, 134)
theorem z_dc_L_read : Y_L_read.1.cls ≠ "java/lang/invoke/MethodHandle" ∧ Y_L_read.1.cls ≠ "java/lang/invoke/VarHandle" ∧ (parseMethodDescriptor Y_L_read.1.desc).map (fun d => d.parameters.length) = some 4 := by decide +kernel
abbrev Y_L_connect : z_Y := (yL_connect, cL_connect, 3, (some .int), 8, 133)
theorem z_dc_L_connect : Y_L_connect.1.cls ≠ "java/lang/invoke/MethodHandle" ∧ Y_L_connect.1.cls ≠ "java/lang/invoke/VarHandle" ∧ (parseMethodDescriptor Y_L_connect.1.desc).map (fun d => d.parameters.length) = some 2 := by decide +kernel
abbrev Y_L_write : z_Y := (yL_write, cL_write, 5, (some .int), 8, 135)
theorem z_dc_L_write : Y_L_write.1.cls ≠ "java/lang/invoke/MethodHandle" ∧ Y_L_write.1.cls ≠ "java/lang/invoke/VarHandle" ∧ (parseMethodDescriptor Y_L_write.1.desc).map (fun d => d.parameters.length) = some 4 := by decide +kernel
abbrev Y_L_setWay : z_Y := (yL_setWay, cL_setWay, 5, (some .int), 8, 136)
theorem z_dc_L_setWay : Y_L_setWay.1.cls ≠ "java/lang/invoke/MethodHandle" ∧ Y_L_setWay.1.cls ≠ "java/lang/invoke/VarHandle" ∧ (parseMethodDescriptor Y_L_setWay.1.desc).map (fun d => d.parameters.length) = some 4 := by decide +kernel
abbrev Y_L_check : z_Y := (yL_check, cL_check, 3, (some .int), 8, 131)
theorem z_dc_L_check : Y_L_check.1.cls ≠ "java/lang/invoke/MethodHandle" ∧ Y_L_check.1.cls ≠ "java/lang/invoke/VarHandle" ∧ (parseMethodDescriptor Y_L_check.1.desc).map (fun d => d.parameters.length) = some 2 := by decide +kernel
abbrev Y_L_use : z_Y := (yL_use, cL_use, 4, (some .int), 8, 134)
theorem z_dc_L_use : Y_L_use.1.cls ≠ "java/lang/invoke/MethodHandle" ∧ Y_L_use.1.cls ≠ "java/lang/invoke/VarHandle" ∧ (parseMethodDescriptor Y_L_use.1.desc).map (fun d => d.parameters.length) = some 3 := by decide +kernel
abbrev Y_L_changeKey : z_Y := (yL_changeKey, cL_changeKey, 3, (some .int), 8, 130)
theorem z_dc_L_changeKey : Y_L_changeKey.1.cls ≠ "java/lang/invoke/MethodHandle" ∧ Y_L_changeKey.1.cls ≠ "java/lang/invoke/VarHandle" ∧ (parseMethodDescriptor Y_L_changeKey.1.desc).map (fun d => d.parameters.length) = some 2 := by decide +kernel
abbrev Y_L_close : z_Y := (yL_close, cL_close, 2, (some .int), 8, 130)
theorem z_dc_L_close : Y_L_close.1.cls ≠ "java/lang/invoke/MethodHandle" ∧ Y_L_close.1.cls ≠ "java/lang/invoke/VarHandle" ∧ (parseMethodDescriptor Y_L_close.1.desc).map (fun d => d.parameters.length) = some 1 := by decide +kernel
abbrev Y_L_tick : z_Y := (yL_tick, cL_tick, 4, (some .int), 9, 199)
theorem z_dc_L_tick : Y_L_tick.1.cls ≠ "java/lang/invoke/MethodHandle" ∧ Y_L_tick.1.cls ≠ "java/lang/invoke/VarHandle" ∧ (parseMethodDescriptor Y_L_tick.1.desc).map (fun d => d.parameters.length) = some 3 := by decide +kernel
abbrev Y_L_state : z_Y := (yL_state, cL_state, 4, (some .int), 8, 133)
theorem z_dc_L_state : Y_L_state.1.cls ≠ "java/lang/invoke/MethodHandle" ∧ Y_L_state.1.cls ≠ "java/lang/invoke/VarHandle" ∧ (parseMethodDescriptor Y_L_state.1.desc).map (fun d => d.parameters.length) = some 3 := by decide +kernel
abbrev Y_L_path : z_Y := (yL_path, cL_path, 5, (some .int), 8, 135)
theorem z_dc_L_path : Y_L_path.1.cls ≠ "java/lang/invoke/MethodHandle" ∧ Y_L_path.1.cls ≠ "java/lang/invoke/VarHandle" ∧ (parseMethodDescriptor Y_L_path.1.desc).map (fun d => d.parameters.length) = some 4 := by decide +kernel
abbrev Y_L_stream : z_Y := (yL_stream, cL_stream, 5, (some .int), 8, 135)
theorem z_dc_L_stream : Y_L_stream.1.cls ≠ "java/lang/invoke/MethodHandle" ∧ Y_L_stream.1.cls ≠ "java/lang/invoke/VarHandle" ∧ (parseMethodDescriptor Y_L_stream.1.desc).map (fun d => d.parameters.length) = some 4 := by decide +kernel
abbrev Y_L_packet : z_Y := (yL_packet, cL_packet, 5, (some .int), 8, 135)
theorem z_dc_L_packet : Y_L_packet.1.cls ≠ "java/lang/invoke/MethodHandle" ∧ Y_L_packet.1.cls ≠ "java/lang/invoke/VarHandle" ∧ (parseMethodDescriptor Y_L_packet.1.desc).map (fun d => d.parameters.length) = some 4 := by decide +kernel
abbrev Y_L_count : z_Y := (yL_count, cL_count, 4, (some .int), 8, 135)
theorem z_dc_L_count : Y_L_count.1.cls ≠ "java/lang/invoke/MethodHandle" ∧ Y_L_count.1.cls ≠ "java/lang/invoke/VarHandle" ∧ (parseMethodDescriptor Y_L_count.1.desc).map (fun d => d.parameters.length) = some 3 := by decide +kernel
abbrev Y_L_inFlightAnew : z_Y := (yL_inFlightAnew, cL_inFlightAnew, 4, (some .int), 8, 134)
theorem z_dc_L_inFlightAnew : Y_L_inFlightAnew.1.cls ≠ "java/lang/invoke/MethodHandle" ∧ Y_L_inFlightAnew.1.cls ≠ "java/lang/invoke/VarHandle" ∧ (parseMethodDescriptor Y_L_inFlightAnew.1.desc).map (fun d => d.parameters.length) = some 3 := by decide +kernel
abbrev Y_L_gotAnew : z_Y := (yL_gotAnew, cL_gotAnew, 4, (some .int), 8, 133)
theorem z_dc_L_gotAnew : Y_L_gotAnew.1.cls ≠ "java/lang/invoke/MethodHandle" ∧ Y_L_gotAnew.1.cls ≠ "java/lang/invoke/VarHandle" ∧ (parseMethodDescriptor Y_L_gotAnew.1.desc).map (fun d => d.parameters.length) = some 3 := by decide +kernel
abbrev Y_L_law : z_Y := (x, code, 7, ret, 10, 222)
theorem z_dc_L_law : Y_L_law.1.cls ≠ "java/lang/invoke/MethodHandle" ∧ Y_L_law.1.cls ≠ "java/lang/invoke/VarHandle" ∧ (parseMethodDescriptor Y_L_law.1.desc).map (fun d => d.parameters.length) = some 1 := by decide +kernel
def hh_L_setPath : z_hp := [(0, 11, 14, 13), (0, 11, 18, 15)] 
theorem zh_L_setPath : Cond.codeWith Y_L_setPath.1 Y_L_setPath.2.1 Y_L_setPath.2.2.1 Y_L_setPath.2.2.2.1 hh_L_setPath ∈ z_ws := z_mem zx_534 rfl
theorem z_hok_L_setPath : z_hok Y_L_setPath.1.cls hh_L_setPath := by
  intro h hh
  rcases List.mem_cons.mp hh with rfl | hh
  · exact ⟨by decide, zw_535, List.mem_of_getElem? (i := 0) rfl⟩
  rcases List.mem_cons.mp hh with rfl | hh
  · exact ⟨by decide, zw_536, List.mem_of_getElem? (i := 1) rfl⟩
  cases hh
def hh_L_setUp : z_hp := [(0, 17, 20, 13)] 
theorem zh_L_setUp : Cond.codeWith Y_L_setUp.1 Y_L_setUp.2.1 Y_L_setUp.2.2.1 Y_L_setUp.2.2.2.1 hh_L_setUp ∈ z_ws := z_mem zx_637 rfl
theorem z_hok_L_setUp : z_hok Y_L_setUp.1.cls hh_L_setUp := by
  intro h hh
  rcases List.mem_cons.mp hh with rfl | hh
  · exact ⟨by decide, zw_535, List.mem_of_getElem? (i := 0) rfl⟩
  cases hh
def hh_L_lose : z_hp := [(0, 7, 10, 13), (0, 7, 14, 15)] 
theorem zh_L_lose : Cond.codeWith Y_L_lose.1 Y_L_lose.2.1 Y_L_lose.2.2.1 Y_L_lose.2.2.2.1 hh_L_lose ∈ z_ws := z_mem zx_644 rfl
theorem z_hok_L_lose : z_hok Y_L_lose.1.cls hh_L_lose := by
  intro h hh
  rcases List.mem_cons.mp hh with rfl | hh
  · exact ⟨by decide, zw_535, List.mem_of_getElem? (i := 0) rfl⟩
  rcases List.mem_cons.mp hh with rfl | hh
  · exact ⟨by decide, zw_536, List.mem_of_getElem? (i := 1) rfl⟩
  cases hh
def hh_L_late : z_hp := [(0, 7, 10, 13), (0, 7, 14, 15)] 
theorem zh_L_late : Cond.codeWith Y_L_late.1 Y_L_late.2.1 Y_L_late.2.2.1 Y_L_late.2.2.2.1 hh_L_late ∈ z_ws := z_mem zx_651 rfl
theorem z_hok_L_late : z_hok Y_L_late.1.cls hh_L_late := by
  intro h hh
  rcases List.mem_cons.mp hh with rfl | hh
  · exact ⟨by decide, zw_535, List.mem_of_getElem? (i := 0) rfl⟩
  rcases List.mem_cons.mp hh with rfl | hh
  · exact ⟨by decide, zw_536, List.mem_of_getElem? (i := 1) rfl⟩
  cases hh
def hh_L_foreign : z_hp := [(0, 10, 13, 13), (0, 10, 17, 15)] 
theorem zh_L_foreign : Cond.codeWith Y_L_foreign.1 Y_L_foreign.2.1 Y_L_foreign.2.2.1 Y_L_foreign.2.2.2.1 hh_L_foreign ∈ z_ws := z_mem zx_658 rfl
theorem z_hok_L_foreign : z_hok Y_L_foreign.1.cls hh_L_foreign := by
  intro h hh
  rcases List.mem_cons.mp hh with rfl | hh
  · exact ⟨by decide, zw_535, List.mem_of_getElem? (i := 0) rfl⟩
  rcases List.mem_cons.mp hh with rfl | hh
  · exact ⟨by decide, zw_536, List.mem_of_getElem? (i := 1) rfl⟩
  cases hh
def hh_L_read : z_hp := [(0, 10, 13, 13), (0, 10, 17, 15)] 
theorem zh_L_read : Cond.codeWith Y_L_read.1 Y_L_read.2.1 Y_L_read.2.2.1 Y_L_read.2.2.2.1 hh_L_read ∈ z_ws := z_mem zx_678 rfl
theorem z_hok_L_read : z_hok Y_L_read.1.cls hh_L_read := by
  intro h hh
  rcases List.mem_cons.mp hh with rfl | hh
  · exact ⟨by decide, zw_535, List.mem_of_getElem? (i := 0) rfl⟩
  rcases List.mem_cons.mp hh with rfl | hh
  · exact ⟨by decide, zw_536, List.mem_of_getElem? (i := 1) rfl⟩
  cases hh
def hh_L_connect : z_hp := [(0, 5, 8, 15), (0, 5, 11, 40)] 
theorem zh_L_connect : Cond.codeWith Y_L_connect.1 Y_L_connect.2.1 Y_L_connect.2.2.1 Y_L_connect.2.2.2.1 hh_L_connect ∈ z_ws := z_mem zx_759 rfl
theorem z_hok_L_connect : z_hok Y_L_connect.1.cls hh_L_connect := by
  intro h hh
  rcases List.mem_cons.mp hh with rfl | hh
  · exact ⟨by decide, zw_536, List.mem_of_getElem? (i := 1) rfl⟩
  rcases List.mem_cons.mp hh with rfl | hh
  · exact ⟨by decide, zw_760, List.mem_of_getElem? (i := 2) rfl⟩
  cases hh
def hh_L_write : z_hp := [(0, 10, 13, 13), (0, 10, 17, 15), (0, 10, 21, 40)] 
theorem zh_L_write : Cond.codeWith Y_L_write.1 Y_L_write.2.1 Y_L_write.2.2.1 Y_L_write.2.2.2.1 hh_L_write ∈ z_ws := z_mem zx_805 rfl
theorem z_hok_L_write : z_hok Y_L_write.1.cls hh_L_write := by
  intro h hh
  rcases List.mem_cons.mp hh with rfl | hh
  · exact ⟨by decide, zw_535, List.mem_of_getElem? (i := 0) rfl⟩
  rcases List.mem_cons.mp hh with rfl | hh
  · exact ⟨by decide, zw_536, List.mem_of_getElem? (i := 1) rfl⟩
  rcases List.mem_cons.mp hh with rfl | hh
  · exact ⟨by decide, zw_760, List.mem_of_getElem? (i := 2) rfl⟩
  cases hh
def hh_L_setWay : z_hp := [(0, 10, 13, 13), (0, 10, 17, 15)] 
theorem zh_L_setWay : Cond.codeWith Y_L_setWay.1 Y_L_setWay.2.1 Y_L_setWay.2.2.1 Y_L_setWay.2.2.2.1 hh_L_setWay ∈ z_ws := z_mem zx_812 rfl
theorem z_hok_L_setWay : z_hok Y_L_setWay.1.cls hh_L_setWay := by
  intro h hh
  rcases List.mem_cons.mp hh with rfl | hh
  · exact ⟨by decide, zw_535, List.mem_of_getElem? (i := 0) rfl⟩
  rcases List.mem_cons.mp hh with rfl | hh
  · exact ⟨by decide, zw_536, List.mem_of_getElem? (i := 1) rfl⟩
  cases hh
def hh_L_check : z_hp := [(0, 5, 8, 13), (0, 5, 11, 40)] 
theorem zh_L_check : Cond.codeWith Y_L_check.1 Y_L_check.2.1 Y_L_check.2.2.1 Y_L_check.2.2.2.1 hh_L_check ∈ z_ws := z_mem zx_823 rfl
theorem z_hok_L_check : z_hok Y_L_check.1.cls hh_L_check := by
  intro h hh
  rcases List.mem_cons.mp hh with rfl | hh
  · exact ⟨by decide, zw_535, List.mem_of_getElem? (i := 0) rfl⟩
  rcases List.mem_cons.mp hh with rfl | hh
  · exact ⟨by decide, zw_760, List.mem_of_getElem? (i := 2) rfl⟩
  cases hh
def hh_L_use : z_hp := [(0, 9, 12, 15), (0, 9, 15, 40)] 
theorem zh_L_use : Cond.codeWith Y_L_use.1 Y_L_use.2.1 Y_L_use.2.2.1 Y_L_use.2.2.2.1 hh_L_use ∈ z_ws := z_mem zx_833 rfl
theorem z_hok_L_use : z_hok Y_L_use.1.cls hh_L_use := by
  intro h hh
  rcases List.mem_cons.mp hh with rfl | hh
  · exact ⟨by decide, zw_536, List.mem_of_getElem? (i := 1) rfl⟩
  rcases List.mem_cons.mp hh with rfl | hh
  · exact ⟨by decide, zw_760, List.mem_of_getElem? (i := 2) rfl⟩
  cases hh
def hh_L_changeKey : z_hp := [(0, 8, 11, 40)] 
theorem zh_L_changeKey : Cond.codeWith Y_L_changeKey.1 Y_L_changeKey.2.1 Y_L_changeKey.2.2.1 Y_L_changeKey.2.2.2.1 hh_L_changeKey ∈ z_ws := z_mem zx_840 rfl
theorem z_hok_L_changeKey : z_hok Y_L_changeKey.1.cls hh_L_changeKey := by
  intro h hh
  rcases List.mem_cons.mp hh with rfl | hh
  · exact ⟨by decide, zw_760, List.mem_of_getElem? (i := 2) rfl⟩
  cases hh
def hh_L_close : z_hp := [(0, 4, 7, 40)] 
theorem zh_L_close : Cond.codeWith Y_L_close.1 Y_L_close.2.1 Y_L_close.2.2.1 Y_L_close.2.2.2.1 hh_L_close ∈ z_ws := z_mem zx_858 rfl
theorem z_hok_L_close : z_hok Y_L_close.1.cls hh_L_close := by
  intro h hh
  rcases List.mem_cons.mp hh with rfl | hh
  · exact ⟨by decide, zw_760, List.mem_of_getElem? (i := 2) rfl⟩
  cases hh
def hh_L_tick : z_hp := [(0, 9, 12, 15), (0, 9, 15, 40)] 
theorem zh_L_tick : Cond.codeWith Y_L_tick.1 Y_L_tick.2.1 Y_L_tick.2.2.1 Y_L_tick.2.2.2.1 hh_L_tick ∈ z_ws := z_mem zx_869 rfl
theorem z_hok_L_tick : z_hok Y_L_tick.1.cls hh_L_tick := by
  intro h hh
  rcases List.mem_cons.mp hh with rfl | hh
  · exact ⟨by decide, zw_536, List.mem_of_getElem? (i := 1) rfl⟩
  rcases List.mem_cons.mp hh with rfl | hh
  · exact ⟨by decide, zw_760, List.mem_of_getElem? (i := 2) rfl⟩
  cases hh
def hh_L_state : z_hp := [(0, 9, 12, 15)] 
theorem zh_L_state : Cond.codeWith Y_L_state.1 Y_L_state.2.1 Y_L_state.2.2.1 Y_L_state.2.2.2.1 hh_L_state ∈ z_ws := z_mem zx_1188 rfl
theorem z_hok_L_state : z_hok Y_L_state.1.cls hh_L_state := by
  intro h hh
  rcases List.mem_cons.mp hh with rfl | hh
  · exact ⟨by decide, zw_536, List.mem_of_getElem? (i := 1) rfl⟩
  cases hh
def hh_L_path : z_hp := [(0, 10, 13, 13), (0, 10, 17, 15)] 
theorem zh_L_path : Cond.codeWith Y_L_path.1 Y_L_path.2.1 Y_L_path.2.2.1 Y_L_path.2.2.2.1 hh_L_path ∈ z_ws := z_mem zx_1195 rfl
theorem z_hok_L_path : z_hok Y_L_path.1.cls hh_L_path := by
  intro h hh
  rcases List.mem_cons.mp hh with rfl | hh
  · exact ⟨by decide, zw_535, List.mem_of_getElem? (i := 0) rfl⟩
  rcases List.mem_cons.mp hh with rfl | hh
  · exact ⟨by decide, zw_536, List.mem_of_getElem? (i := 1) rfl⟩
  cases hh
def hh_L_stream : z_hp := [(0, 10, 13, 13), (0, 10, 17, 15)] 
theorem zh_L_stream : Cond.codeWith Y_L_stream.1 Y_L_stream.2.1 Y_L_stream.2.2.1 Y_L_stream.2.2.2.1 hh_L_stream ∈ z_ws := z_mem zx_1205 rfl
theorem z_hok_L_stream : z_hok Y_L_stream.1.cls hh_L_stream := by
  intro h hh
  rcases List.mem_cons.mp hh with rfl | hh
  · exact ⟨by decide, zw_535, List.mem_of_getElem? (i := 0) rfl⟩
  rcases List.mem_cons.mp hh with rfl | hh
  · exact ⟨by decide, zw_536, List.mem_of_getElem? (i := 1) rfl⟩
  cases hh
def hh_L_packet : z_hp := [(0, 10, 13, 13), (0, 10, 17, 15)] 
theorem zh_L_packet : Cond.codeWith Y_L_packet.1 Y_L_packet.2.1 Y_L_packet.2.2.1 Y_L_packet.2.2.2.1 hh_L_packet ∈ z_ws := z_mem zx_1212 rfl
theorem z_hok_L_packet : z_hok Y_L_packet.1.cls hh_L_packet := by
  intro h hh
  rcases List.mem_cons.mp hh with rfl | hh
  · exact ⟨by decide, zw_535, List.mem_of_getElem? (i := 0) rfl⟩
  rcases List.mem_cons.mp hh with rfl | hh
  · exact ⟨by decide, zw_536, List.mem_of_getElem? (i := 1) rfl⟩
  cases hh
def hh_L_count : z_hp := [(0, 9, 12, 15)] 
theorem zh_L_count : Cond.codeWith Y_L_count.1 Y_L_count.2.1 Y_L_count.2.2.1 Y_L_count.2.2.2.1 hh_L_count ∈ z_ws := z_mem zx_1225 rfl
theorem z_hok_L_count : z_hok Y_L_count.1.cls hh_L_count := by
  intro h hh
  rcases List.mem_cons.mp hh with rfl | hh
  · exact ⟨by decide, zw_536, List.mem_of_getElem? (i := 1) rfl⟩
  cases hh
def hh_L_inFlightAnew : z_hp := [(0, 9, 12, 13)] 
theorem zh_L_inFlightAnew : Cond.codeWith Y_L_inFlightAnew.1 Y_L_inFlightAnew.2.1 Y_L_inFlightAnew.2.2.1 Y_L_inFlightAnew.2.2.2.1 hh_L_inFlightAnew ∈ z_ws := z_mem zx_1232 rfl
theorem z_hok_L_inFlightAnew : z_hok Y_L_inFlightAnew.1.cls hh_L_inFlightAnew := by
  intro h hh
  rcases List.mem_cons.mp hh with rfl | hh
  · exact ⟨by decide, zw_535, List.mem_of_getElem? (i := 0) rfl⟩
  cases hh
def hh_L_gotAnew : z_hp := [(0, 9, 12, 13)] 
theorem zh_L_gotAnew : Cond.codeWith Y_L_gotAnew.1 Y_L_gotAnew.2.1 Y_L_gotAnew.2.2.1 Y_L_gotAnew.2.2.2.1 hh_L_gotAnew ∈ z_ws := z_mem zx_1239 rfl
theorem z_hok_L_gotAnew : z_hok Y_L_gotAnew.1.cls hh_L_gotAnew := by
  intro h hh
  rcases List.mem_cons.mp hh with rfl | hh
  · exact ⟨by decide, zw_535, List.mem_of_getElem? (i := 0) rfl⟩
  cases hh
set_option maxRecDepth 100000 in
def P_L_setPath (p1 : Option Nat) (p2 : Int32) (p3 : Int32) (p4 : Int32) (p5 : Int32) (p6 : Int32) (M : z_Mem) (Post : Int32 → z_Mem → Prop) : Prop := z_nn p1 fun a2 => (P_X11_setPath a2 p2 p3 p4 p5 p6 M (fun M_1 => Post 0 M_1) (fun E M_1 => (E = "java/lang/IndexOutOfBoundsException" ∧ Post 1 M_1) ∨ (E = "java/lang/IllegalArgumentException" ∧ Post 2 M_1)))
set_option maxRecDepth 100000 in
set_option maxHeartbeats 4000000 in
theorem s_L_setPath {G : z_G} {M : z_Mem} {p1 : Option Nat} {p2 : Int32} {p3 : Int32} {p4 : Int32} {p5 : Int32} {p6 : Int32} {Post : Int32 → z_Mem → Prop} (hl9 : G.1.stackTraces = false) (f_p1 : z_tr M p1 12) (hP : P_L_setPath p1 p2 p3 p4 p5 p6 M Post) : z_MtH G Y_L_setPath hh_L_setPath M [z_O p1, z_I p2, z_I p3, z_I p4, z_I p5, z_I p6] (z_PI Post) := by
  refine z_ofVH (by decide) (Nat.le_of_ble_eq_true rfl) ?_
  unfold P_L_setPath at hP
  refine z_sub (lv' := [(0, z_O p1), (1, z_I p2), (2, z_I p3), (3, z_I p4), (4, z_I p5), (5, z_I p6)]) [0, 1, 2, 3, 4, 5] rfl ?_
  refine z_aload_n dL_setPath_0 rfl 0 rfl ?_
  refine z_iload_n dL_setPath_1 rfl 1 rfl ?_
  refine z_iload_n dL_setPath_2 rfl 2 rfl ?_
  refine z_iload_n dL_setPath_3 rfl 3 rfl ?_
  refine z_iload dL_setPath_4 4 rfl ?_
  refine z_iload dL_setPath_6 5 rfl ?_
  refine z_pc (pc' := 8) rfl ?_
  obtain ⟨a2, e2, hP⟩ := hP
  have k2 := f_p1 a2 e2
  refine z_wts (fun hT1 _ => ?_)
  refine z_hV (hh := hh_L_setPath) (c := 11) (n := 5) (Y1 := Y_X11_setPath) (st := []) e2 k2 z_cb11 (Nat.le_of_ble_eq_true rfl) rfl (s_X11_setPath hl9 k2 hP) rfl ⟨z_dc_X11_setPath, ⟨(Nat.le_of_ble_eq_true rfl), (Nat.le_of_ble_eq_true rfl)⟩, (Nat.le_of_ble_eq_true rfl)⟩ rfl zw_537 zw_538 zw_539 zw_1 zw_540 dL_setPath_8 z_hok_L_setPath (fun E M_1 hE9 hP _ x1 => ?_) (fun r_1 M_1 hP _ x1 => ?_)
  · rcases hP with ⟨rfl, hP⟩ | ⟨rfl, hP⟩
    · refine ⟨14, by decide, fun q_1 => ?_⟩
      refine z_astore (lv' := [(6, z_O _), (0, z_O _), (1, z_I _), (2, z_I _), (3, z_I _), (4, z_I _), (5, z_I _)]) dL_setPath_14 (Nat.le_of_ble_eq_true rfl) rfl ?_
      refine z_iconst (v := 1) dL_setPath_16 (by decide) ?_
      exact z_reti rfl dL_setPath_17 hP
    · refine ⟨18, by decide, fun q_1 => ?_⟩
      refine z_astore (lv' := [(6, z_O _), (0, z_O _), (1, z_I _), (2, z_I _), (3, z_I _), (4, z_I _), (5, z_I _)]) dL_setPath_18 (Nat.le_of_ble_eq_true rfl) rfl ?_
      refine z_iconst (v := 2) dL_setPath_20 (by decide) ?_
      exact z_reti rfl dL_setPath_21 hP
  · obtain ⟨rfl, hP⟩ := hP
    refine z_stk (st' := []) rfl ?_
    have k2 := x1.k (k := 11) hT1 k2
    refine z_goto (tgt := 22) dL_setPath_11 (by decide) ?_
    refine z_iconst (v := 0) dL_setPath_22 (by decide) ?_
    exact z_reti rfl dL_setPath_23 hP
set_option maxRecDepth 100000 in
def P_L_setUp (p1 : Option Nat) (p2 : Int32) (p3 : Int32) (p4 : Option Nat) (M : z_Mem) (Post : Int32 → z_Mem → Prop) : Prop := z_nn p1 fun a2 => (P_X11_setUp a2 p2 p3 M (fun x_1 M_1 => ((x_1 = 0 → z_nn p4 fun a4 => (vp_in 0 (z_ln M_1 a4) ∧ (∀ M_6 : z_Mem, M_6 = z_sal M_1 a4 ((0 : Int32).toNatClampNeg) 0 → (Post 0 M_6)))) ∧ (¬ x_1 = 0 → z_nn p4 fun a7 => (vp_in 0 (z_ln M_1 a7) ∧ (∀ M_9 : z_Mem, M_9 = z_sal M_1 a7 ((0 : Int32).toNatClampNeg) 1 → (Post 0 M_9)))))) (fun E M_1 => (E = "java/lang/IndexOutOfBoundsException" ∧ Post 1 M_1)))
set_option maxRecDepth 100000 in
set_option maxHeartbeats 4000000 in
theorem s_L_setUp {G : z_G} {M : z_Mem} {p1 : Option Nat} {p2 : Int32} {p3 : Int32} {p4 : Option Nat} {Post : Int32 → z_Mem → Prop} (hl9 : G.1.stackTraces = false) (f_p1 : z_tr M p1 12) (f_p3 : p3 = 0 ∨ p3 = 1) (f_p4 : z_tr M p4 25) (hP : P_L_setUp p1 p2 p3 p4 M Post) : z_MtH G Y_L_setUp hh_L_setUp M [z_O p1, z_I p2, z_I p3, z_O p4] (z_PI Post) := by
  refine z_ofVH (by decide) (Nat.le_of_ble_eq_true rfl) ?_
  unfold P_L_setUp at hP
  refine z_sub (lv' := [(0, z_O p1), (1, z_I p2), (2, z_I p3), (3, z_O p4)]) [0, 1, 2, 3] rfl ?_
  refine z_aload_n dL_setUp_0 rfl 3 rfl ?_
  refine z_iconst (v := 0) dL_setUp_1 (by decide) ?_
  refine z_aload_n dL_setUp_2 rfl 0 rfl ?_
  refine z_iload_n dL_setUp_3 rfl 1 rfl ?_
  refine z_iload_n dL_setUp_4 rfl 2 rfl ?_
  obtain ⟨a2, e2, hP⟩ := hP
  have k2 := f_p1 a2 e2
  refine z_wts (fun hT1 _ => ?_)
  refine z_hV (hh := hh_L_setUp) (c := 11) (n := 2) (Y1 := Y_X11_setUp) (st := [z_I _, z_O _]) e2 k2 z_cb11 (Nat.le_of_ble_eq_true rfl) rfl (s_X11_setUp hl9 k2 f_p3 hP) rfl ⟨z_dc_X11_setUp, ⟨(Nat.le_of_ble_eq_true rfl), (Nat.le_of_ble_eq_true rfl)⟩, (Nat.le_of_ble_eq_true rfl)⟩ rfl zw_638 zw_639 zw_640 zw_1 zw_641 dL_setUp_5 z_hok_L_setUp (fun E M_1 hE9 hP _ x1 => ?_) (fun r_1 M_1 hP _ x1 => ?_)
  · obtain ⟨rfl, hP⟩ := hP
    · refine ⟨20, by decide, fun q_1 => ?_⟩
      refine z_astore (lv' := [(4, z_O _), (0, z_O _), (1, z_I _), (2, z_I _), (3, z_O _)]) dL_setUp_20 (Nat.le_of_ble_eq_true rfl) rfl ?_
      refine z_pc (pc' := 22) rfl ?_
      refine z_iconst (v := 1) dL_setUp_22 (by decide) ?_
      exact z_reti rfl dL_setUp_23 hP
  · obtain ⟨x_1, rfl, b1, hP⟩ := hP
    refine z_stk (st' := [z_I _, z_I _, z_O _]) rfl ?_
    have k2 := x1.k (k := 11) hT1 k2
    have f_p4 := x1.t (k := 24) hT1 f_p4
    refine z_if_eq (tgt := 15) dL_setUp_8 (by decide) (fun h3 => ?_) (fun h3 => ?_)
    · replace hP := hP.1 h3
      refine z_lconst (v := 0) dL_setUp_15 (by decide) ?_
      refine z_pc (pc' := 16) rfl ?_
      obtain ⟨a4, e4, hP⟩ := hP
      have k4 := f_p4 a4 e4
      obtain ⟨i5, hP⟩ := hP
      refine z_last e4 k4 i5 dL_setUp_16 ?_
      refine z_nm (fun M_6 g_6 => ?_)
      replace hP := hP M_6 g_6
      have q_6 := z_k5 g_6
      have k2 := z_kk q_6 k2
      have k4 := z_kk q_6 k4
      refine z_goto (tgt := 24) dL_setUp_17 (by decide) ?_
      refine z_iconst (v := 0) dL_setUp_24 (by decide) ?_
      exact z_reti rfl dL_setUp_25 hP
    · replace hP := hP.2 h3
      refine z_lconst (v := 1) dL_setUp_11 (by decide) ?_
      refine z_pc (pc' := 12) rfl ?_
      refine z_goto (tgt := 16) dL_setUp_12 (by decide) ?_
      obtain ⟨a7, e7, hP⟩ := hP
      have k7 := f_p4 a7 e7
      obtain ⟨i8, hP⟩ := hP
      refine z_last e7 k7 i8 dL_setUp_16 ?_
      refine z_nm (fun M_9 g_9 => ?_)
      replace hP := hP M_9 g_9
      have q_9 := z_k5 g_9
      have k2 := z_kk q_9 k2
      have k7 := z_kk q_9 k7
      refine z_goto (tgt := 24) dL_setUp_17 (by decide) ?_
      refine z_iconst (v := 0) dL_setUp_24 (by decide) ?_
      exact z_reti rfl dL_setUp_25 hP
set_option maxRecDepth 100000 in
def P_L_lose (p1 : Option Nat) (p2 : Int32) (p3 : Int32) (p4 : Int32) (M : z_Mem) (Post : Int32 → z_Mem → Prop) : Prop := z_nn p1 fun a2 => (P_X11_lose a2 p2 p3 p4 M (fun M_1 => Post 0 M_1) (fun E M_1 => (E = "java/lang/IndexOutOfBoundsException" ∧ Post 1 M_1) ∨ (E = "java/lang/IllegalArgumentException" ∧ Post 2 M_1)))
set_option maxRecDepth 100000 in
set_option maxHeartbeats 4000000 in
theorem s_L_lose {G : z_G} {M : z_Mem} {p1 : Option Nat} {p2 : Int32} {p3 : Int32} {p4 : Int32} {Post : Int32 → z_Mem → Prop} (hl9 : G.1.stackTraces = false) (f_p1 : z_tr M p1 12) (f_p3 : p3 = 0 ∨ p3 = 1) (hP : P_L_lose p1 p2 p3 p4 M Post) : z_MtH G Y_L_lose hh_L_lose M [z_O p1, z_I p2, z_I p3, z_I p4] (z_PI Post) := by
  refine z_ofVH (by decide) (Nat.le_of_ble_eq_true rfl) ?_
  unfold P_L_lose at hP
  refine z_sub (lv' := [(0, z_O p1), (1, z_I p2), (2, z_I p3), (3, z_I p4)]) [0, 1, 2, 3] rfl ?_
  refine z_aload_n dL_lose_0 rfl 0 rfl ?_
  refine z_iload_n dL_lose_1 rfl 1 rfl ?_
  refine z_iload_n dL_lose_2 rfl 2 rfl ?_
  refine z_iload_n dL_lose_3 rfl 3 rfl ?_
  obtain ⟨a2, e2, hP⟩ := hP
  have k2 := f_p1 a2 e2
  refine z_wts (fun hT1 _ => ?_)
  refine z_hV (hh := hh_L_lose) (c := 11) (n := 3) (Y1 := Y_X11_lose) (st := []) e2 k2 z_cb11 (Nat.le_of_ble_eq_true rfl) rfl (s_X11_lose hl9 k2 f_p3 hP) rfl ⟨z_dc_X11_lose, ⟨(Nat.le_of_ble_eq_true rfl), (Nat.le_of_ble_eq_true rfl)⟩, (Nat.le_of_ble_eq_true rfl)⟩ rfl zw_645 zw_646 zw_647 zw_1 zw_648 dL_lose_4 z_hok_L_lose (fun E M_1 hE9 hP _ x1 => ?_) (fun r_1 M_1 hP _ x1 => ?_)
  · rcases hP with ⟨rfl, hP⟩ | ⟨rfl, hP⟩
    · refine ⟨10, by decide, fun q_1 => ?_⟩
      refine z_astore (lv' := [(4, z_O _), (0, z_O _), (1, z_I _), (2, z_I _), (3, z_I _)]) dL_lose_10 (Nat.le_of_ble_eq_true rfl) rfl ?_
      refine z_iconst (v := 1) dL_lose_12 (by decide) ?_
      refine z_pc (pc' := 13) rfl ?_
      exact z_reti rfl dL_lose_13 hP
    · refine ⟨14, by decide, fun q_1 => ?_⟩
      refine z_astore (lv' := [(4, z_O _), (0, z_O _), (1, z_I _), (2, z_I _), (3, z_I _)]) dL_lose_14 (Nat.le_of_ble_eq_true rfl) rfl ?_
      refine z_iconst (v := 2) dL_lose_16 (by decide) ?_
      refine z_pc (pc' := 17) rfl ?_
      exact z_reti rfl dL_lose_17 hP
  · obtain ⟨rfl, hP⟩ := hP
    refine z_stk (st' := []) rfl ?_
    have k2 := x1.k (k := 11) hT1 k2
    refine z_goto (tgt := 18) dL_lose_7 (by decide) ?_
    refine z_iconst (v := 0) dL_lose_18 (by decide) ?_
    exact z_reti rfl dL_lose_19 hP
set_option maxRecDepth 100000 in
def P_L_late (p1 : Option Nat) (p2 : Int32) (p3 : Int32) (p4 : Int32) (M : z_Mem) (Post : Int32 → z_Mem → Prop) : Prop := z_nn p1 fun a2 => (P_X11_late a2 p2 p3 p4 M (fun M_1 => Post 0 M_1) (fun E M_1 => (E = "java/lang/IndexOutOfBoundsException" ∧ Post 1 M_1) ∨ (E = "java/lang/IllegalArgumentException" ∧ Post 2 M_1)))
set_option maxRecDepth 100000 in
set_option maxHeartbeats 4000000 in
theorem s_L_late {G : z_G} {M : z_Mem} {p1 : Option Nat} {p2 : Int32} {p3 : Int32} {p4 : Int32} {Post : Int32 → z_Mem → Prop} (hl9 : G.1.stackTraces = false) (f_p1 : z_tr M p1 12) (hP : P_L_late p1 p2 p3 p4 M Post) : z_MtH G Y_L_late hh_L_late M [z_O p1, z_I p2, z_I p3, z_I p4] (z_PI Post) := by
  refine z_ofVH (by decide) (Nat.le_of_ble_eq_true rfl) ?_
  unfold P_L_late at hP
  refine z_sub (lv' := [(0, z_O p1), (1, z_I p2), (2, z_I p3), (3, z_I p4)]) [0, 1, 2, 3] rfl ?_
  refine z_aload_n dL_late_0 rfl 0 rfl ?_
  refine z_iload_n dL_late_1 rfl 1 rfl ?_
  refine z_iload_n dL_late_2 rfl 2 rfl ?_
  refine z_iload_n dL_late_3 rfl 3 rfl ?_
  obtain ⟨a2, e2, hP⟩ := hP
  have k2 := f_p1 a2 e2
  refine z_wts (fun hT1 _ => ?_)
  refine z_hV (hh := hh_L_late) (c := 11) (n := 3) (Y1 := Y_X11_late) (st := []) e2 k2 z_cb11 (Nat.le_of_ble_eq_true rfl) rfl (s_X11_late hl9 k2 hP) rfl ⟨z_dc_X11_late, ⟨(Nat.le_of_ble_eq_true rfl), (Nat.le_of_ble_eq_true rfl)⟩, (Nat.le_of_ble_eq_true rfl)⟩ rfl zw_652 zw_653 zw_654 zw_1 zw_655 dL_late_4 z_hok_L_late (fun E M_1 hE9 hP _ x1 => ?_) (fun r_1 M_1 hP _ x1 => ?_)
  · rcases hP with ⟨rfl, hP⟩ | ⟨rfl, hP⟩
    · refine ⟨10, by decide, fun q_1 => ?_⟩
      refine z_astore (lv' := [(4, z_O _), (0, z_O _), (1, z_I _), (2, z_I _), (3, z_I _)]) dL_late_10 (Nat.le_of_ble_eq_true rfl) rfl ?_
      refine z_iconst (v := 1) dL_late_12 (by decide) ?_
      refine z_pc (pc' := 13) rfl ?_
      exact z_reti rfl dL_late_13 hP
    · refine ⟨14, by decide, fun q_1 => ?_⟩
      refine z_astore (lv' := [(4, z_O _), (0, z_O _), (1, z_I _), (2, z_I _), (3, z_I _)]) dL_late_14 (Nat.le_of_ble_eq_true rfl) rfl ?_
      refine z_iconst (v := 2) dL_late_16 (by decide) ?_
      refine z_pc (pc' := 17) rfl ?_
      exact z_reti rfl dL_late_17 hP
  · obtain ⟨rfl, hP⟩ := hP
    refine z_stk (st' := []) rfl ?_
    have k2 := x1.k (k := 11) hT1 k2
    refine z_goto (tgt := 18) dL_late_7 (by decide) ?_
    refine z_iconst (v := 0) dL_late_18 (by decide) ?_
    exact z_reti rfl dL_late_19 hP
set_option maxRecDepth 100000 in
def P_L_foreign (p1 : Option Nat) (p2 : Int32) (p3 : Int32) (p4 : Option Nat) (M : z_Mem) (Post : Int32 → z_Mem → Prop) : Prop := z_nn p1 fun a2 => (P_X11_foreign a2 p2 p3 M (fun x_1 M_1 => z_nn p4 fun a3 => (vp_in 0 (z_ln M_1 a3) ∧ (∀ M_5 : z_Mem, M_5 = z_sal M_1 a3 ((0 : Int32).toNatClampNeg) ((x_1 : Int32).toInt64) → (Post 0 M_5)))) (fun E M_1 => (E = "java/lang/IndexOutOfBoundsException" ∧ Post 1 M_1) ∨ (E = "java/lang/IllegalArgumentException" ∧ Post 2 M_1)))
set_option maxRecDepth 100000 in
set_option maxHeartbeats 4000000 in
theorem s_L_foreign {G : z_G} {M : z_Mem} {p1 : Option Nat} {p2 : Int32} {p3 : Int32} {p4 : Option Nat} {Post : Int32 → z_Mem → Prop} (hl9 : G.1.stackTraces = false) (f_p1 : z_tr M p1 12) (f_p4 : z_tr M p4 25) (hP : P_L_foreign p1 p2 p3 p4 M Post) : z_MtH G Y_L_foreign hh_L_foreign M [z_O p1, z_I p2, z_I p3, z_O p4] (z_PI Post) := by
  refine z_ofVH (by decide) (Nat.le_of_ble_eq_true rfl) ?_
  unfold P_L_foreign at hP
  refine z_sub (lv' := [(0, z_O p1), (1, z_I p2), (2, z_I p3), (3, z_O p4)]) [0, 1, 2, 3] rfl ?_
  refine z_aload_n dL_foreign_0 rfl 3 rfl ?_
  refine z_iconst (v := 0) dL_foreign_1 (by decide) ?_
  refine z_aload_n dL_foreign_2 rfl 0 rfl ?_
  refine z_iload_n dL_foreign_3 rfl 1 rfl ?_
  refine z_iload_n dL_foreign_4 rfl 2 rfl ?_
  obtain ⟨a2, e2, hP⟩ := hP
  have k2 := f_p1 a2 e2
  refine z_wts (fun hT1 _ => ?_)
  refine z_hV (hh := hh_L_foreign) (c := 11) (n := 2) (Y1 := Y_X11_foreign) (st := [z_I _, z_O _]) e2 k2 z_cb11 (Nat.le_of_ble_eq_true rfl) rfl (s_X11_foreign hl9 k2 hP) rfl ⟨z_dc_X11_foreign, ⟨(Nat.le_of_ble_eq_true rfl), (Nat.le_of_ble_eq_true rfl)⟩, (Nat.le_of_ble_eq_true rfl)⟩ rfl zw_659 zw_660 zw_661 zw_1 zw_662 dL_foreign_5 z_hok_L_foreign (fun E M_1 hE9 hP _ x1 => ?_) (fun r_1 M_1 hP _ x1 => ?_)
  · rcases hP with ⟨rfl, hP⟩ | ⟨rfl, hP⟩
    · refine ⟨13, by decide, fun q_1 => ?_⟩
      refine z_astore (lv' := [(4, z_O _), (0, z_O _), (1, z_I _), (2, z_I _), (3, z_O _)]) dL_foreign_13 (Nat.le_of_ble_eq_true rfl) rfl ?_
      refine z_pc (pc' := 15) rfl ?_
      refine z_iconst (v := 1) dL_foreign_15 (by decide) ?_
      exact z_reti rfl dL_foreign_16 hP
    · refine ⟨17, by decide, fun q_1 => ?_⟩
      refine z_astore (lv' := [(4, z_O _), (0, z_O _), (1, z_I _), (2, z_I _), (3, z_O _)]) dL_foreign_17 (Nat.le_of_ble_eq_true rfl) rfl ?_
      refine z_pc (pc' := 19) rfl ?_
      refine z_iconst (v := 2) dL_foreign_19 (by decide) ?_
      exact z_reti rfl dL_foreign_20 hP
  · obtain ⟨x_1, rfl, hP⟩ := hP
    refine z_stk (st' := [z_I _, z_I _, z_O _]) rfl ?_
    have k2 := x1.k (k := 11) hT1 k2
    have f_p4 := x1.t (k := 24) hT1 f_p4
    refine z_i2l dL_foreign_8 ?_
    refine z_pc (pc' := 9) rfl ?_
    obtain ⟨a3, e3, hP⟩ := hP
    have k3 := f_p4 a3 e3
    obtain ⟨i4, hP⟩ := hP
    refine z_last e3 k3 i4 dL_foreign_9 ?_
    refine z_nm (fun M_5 g_5 => ?_)
    replace hP := hP M_5 g_5
    have q_5 := z_k5 g_5
    have k2 := z_kk q_5 k2
    have k3 := z_kk q_5 k3
    refine z_goto (tgt := 21) dL_foreign_10 (by decide) ?_
    refine z_iconst (v := 0) dL_foreign_21 (by decide) ?_
    exact z_reti rfl dL_foreign_22 hP
set_option maxRecDepth 100000 in
def P_L_read (p1 : Option Nat) (p2 : Int32) (p3 : Int32) (p4 : Option Nat) (M : z_Mem) (Post : Int32 → z_Mem → Prop) : Prop := z_nn p1 fun a2 => (P_X11_read a2 p2 p3 M (fun x_1 M_1 => z_nn p4 fun a3 => (vp_in 0 (z_ln M_1 a3) ∧ (∀ M_5 : z_Mem, M_5 = z_sal M_1 a3 ((0 : Int32).toNatClampNeg) ((x_1 : Int32).toInt64) → (Post 0 M_5)))) (fun E M_1 => (E = "java/lang/IndexOutOfBoundsException" ∧ Post 1 M_1) ∨ (E = "java/lang/IllegalArgumentException" ∧ Post 2 M_1)))
set_option maxRecDepth 100000 in
set_option maxHeartbeats 4000000 in
theorem s_L_read {G : z_G} {M : z_Mem} {p1 : Option Nat} {p2 : Int32} {p3 : Int32} {p4 : Option Nat} {Post : Int32 → z_Mem → Prop} (hl9 : G.1.stackTraces = false) (f_p1 : z_tr M p1 12) (f_p4 : z_tr M p4 25) (hP : P_L_read p1 p2 p3 p4 M Post) : z_MtH G Y_L_read hh_L_read M [z_O p1, z_I p2, z_I p3, z_O p4] (z_PI Post) := by
  refine z_ofVH (by decide) (Nat.le_of_ble_eq_true rfl) ?_
  unfold P_L_read at hP
  refine z_sub (lv' := [(0, z_O p1), (1, z_I p2), (2, z_I p3), (3, z_O p4)]) [0, 1, 2, 3] rfl ?_
  refine z_aload_n dL_read_0 rfl 3 rfl ?_
  refine z_iconst (v := 0) dL_read_1 (by decide) ?_
  refine z_aload_n dL_read_2 rfl 0 rfl ?_
  refine z_iload_n dL_read_3 rfl 1 rfl ?_
  refine z_iload_n dL_read_4 rfl 2 rfl ?_
  obtain ⟨a2, e2, hP⟩ := hP
  have k2 := f_p1 a2 e2
  refine z_wts (fun hT1 _ => ?_)
  refine z_hV (hh := hh_L_read) (c := 11) (n := 2) (Y1 := Y_X11_read) (st := [z_I _, z_O _]) e2 k2 z_cb11 (Nat.le_of_ble_eq_true rfl) rfl (s_X11_read hl9 k2 hP) rfl ⟨z_dc_X11_read, ⟨(Nat.le_of_ble_eq_true rfl), (Nat.le_of_ble_eq_true rfl)⟩, (Nat.le_of_ble_eq_true rfl)⟩ rfl zw_679 zw_680 zw_681 zw_1 zw_682 dL_read_5 z_hok_L_read (fun E M_1 hE9 hP _ x1 => ?_) (fun r_1 M_1 hP _ x1 => ?_)
  · rcases hP with ⟨rfl, hP⟩ | ⟨rfl, hP⟩
    · refine ⟨13, by decide, fun q_1 => ?_⟩
      refine z_astore (lv' := [(4, z_O _), (0, z_O _), (1, z_I _), (2, z_I _), (3, z_O _)]) dL_read_13 (Nat.le_of_ble_eq_true rfl) rfl ?_
      refine z_pc (pc' := 15) rfl ?_
      refine z_iconst (v := 1) dL_read_15 (by decide) ?_
      exact z_reti rfl dL_read_16 hP
    · refine ⟨17, by decide, fun q_1 => ?_⟩
      refine z_astore (lv' := [(4, z_O _), (0, z_O _), (1, z_I _), (2, z_I _), (3, z_O _)]) dL_read_17 (Nat.le_of_ble_eq_true rfl) rfl ?_
      refine z_pc (pc' := 19) rfl ?_
      refine z_iconst (v := 2) dL_read_19 (by decide) ?_
      exact z_reti rfl dL_read_20 hP
  · obtain ⟨x_1, rfl, hP⟩ := hP
    refine z_stk (st' := [z_I _, z_I _, z_O _]) rfl ?_
    have k2 := x1.k (k := 11) hT1 k2
    have f_p4 := x1.t (k := 24) hT1 f_p4
    refine z_i2l dL_read_8 ?_
    refine z_pc (pc' := 9) rfl ?_
    obtain ⟨a3, e3, hP⟩ := hP
    have k3 := f_p4 a3 e3
    obtain ⟨i4, hP⟩ := hP
    refine z_last e3 k3 i4 dL_read_9 ?_
    refine z_nm (fun M_5 g_5 => ?_)
    replace hP := hP M_5 g_5
    have q_5 := z_k5 g_5
    have k2 := z_kk q_5 k2
    have k3 := z_kk q_5 k3
    refine z_goto (tgt := 21) dL_read_10 (by decide) ?_
    refine z_iconst (v := 0) dL_read_21 (by decide) ?_
    exact z_reti rfl dL_read_22 hP
set_option maxRecDepth 100000 in
def P_L_connect (p1 : Option Nat) (p2 : Int32) (M : z_Mem) (Post : Int32 → z_Mem → Prop) : Prop := z_nn p1 fun a2 => (P_X11_connect a2 p2 M (fun M_1 => Post 0 M_1) (fun E M_1 => (E = "java/lang/IllegalArgumentException" ∧ Post 1 M_1) ∨ (E = "java/lang/IllegalStateException" ∧ Post 2 M_1)))
set_option maxRecDepth 100000 in
set_option maxHeartbeats 4000000 in
theorem s_L_connect {G : z_G} {M : z_Mem} {p1 : Option Nat} {p2 : Int32} {Post : Int32 → z_Mem → Prop} (hl9 : G.1.stackTraces = false) (f_p1 : z_tr M p1 12) (hP : P_L_connect p1 p2 M Post) : z_MtH G Y_L_connect hh_L_connect M [z_O p1, z_I p2] (z_PI Post) := by
  refine z_ofVH (by decide) (Nat.le_of_ble_eq_true rfl) ?_
  unfold P_L_connect at hP
  refine z_sub (lv' := [(0, z_O p1), (1, z_I p2)]) [0, 1] rfl ?_
  refine z_aload_n dL_connect_0 rfl 0 rfl ?_
  refine z_iload_n dL_connect_1 rfl 1 rfl ?_
  obtain ⟨a2, e2, hP⟩ := hP
  have k2 := f_p1 a2 e2
  refine z_wts (fun hT1 _ => ?_)
  refine z_hV (hh := hh_L_connect) (c := 11) (n := 1) (Y1 := Y_X11_connect) (st := []) e2 k2 z_cb11 (Nat.le_of_ble_eq_true rfl) rfl (s_X11_connect hl9 k2 hP) rfl ⟨z_dc_X11_connect, ⟨(Nat.le_of_ble_eq_true rfl), (Nat.le_of_ble_eq_true rfl)⟩, (Nat.le_of_ble_eq_true rfl)⟩ rfl zw_761 zw_762 zw_763 zw_1 zw_764 dL_connect_2 z_hok_L_connect (fun E M_1 hE9 hP _ x1 => ?_) (fun r_1 M_1 hP _ x1 => ?_)
  · rcases hP with ⟨rfl, hP⟩ | ⟨rfl, hP⟩
    · refine ⟨8, by decide, fun q_1 => ?_⟩
      refine z_astore_n (lv' := [(2, z_O _), (0, z_O _), (1, z_I _)]) dL_connect_8 rfl (Nat.le_of_ble_eq_true rfl) rfl ?_
      refine z_iconst (v := 1) dL_connect_9 (by decide) ?_
      exact z_reti rfl dL_connect_10 hP
    · refine ⟨11, by decide, fun q_1 => ?_⟩
      refine z_astore_n (lv' := [(2, z_O _), (0, z_O _), (1, z_I _)]) dL_connect_11 rfl (Nat.le_of_ble_eq_true rfl) rfl ?_
      refine z_iconst (v := 2) dL_connect_12 (by decide) ?_
      exact z_reti rfl dL_connect_13 hP
  · obtain ⟨rfl, hP⟩ := hP
    refine z_stk (st' := []) rfl ?_
    have k2 := x1.k (k := 11) hT1 k2
    refine z_goto (tgt := 14) dL_connect_5 (by decide) ?_
    refine z_iconst (v := 0) dL_connect_14 (by decide) ?_
    exact z_reti rfl dL_connect_15 hP
set_option maxRecDepth 100000 in
def P_L_write (p1 : Option Nat) (p2 : Int32) (p3 : Int32) (p4 : Option Nat) (M : z_Mem) (Post : Int32 → z_Mem → Prop) : Prop := z_nn p1 fun a2 => (P_X11_write a2 p2 p3 M (fun x_1 M_1 => z_nn p4 fun a3 => (vp_in 0 (z_ln M_1 a3) ∧ (∀ M_5 : z_Mem, M_5 = z_sal M_1 a3 ((0 : Int32).toNatClampNeg) ((x_1 : Int32).toInt64) → (Post 0 M_5)))) (fun E M_1 => (E = "java/lang/IndexOutOfBoundsException" ∧ Post 1 M_1) ∨ (E = "java/lang/IllegalArgumentException" ∧ Post 2 M_1) ∨ (E = "java/lang/IllegalStateException" ∧ Post 3 M_1)))
set_option maxRecDepth 100000 in
set_option maxHeartbeats 4000000 in
theorem s_L_write {G : z_G} {M : z_Mem} {p1 : Option Nat} {p2 : Int32} {p3 : Int32} {p4 : Option Nat} {Post : Int32 → z_Mem → Prop} (hl9 : G.1.stackTraces = false) (f_p1 : z_tr M p1 12) (f_p4 : z_tr M p4 25) (hP : P_L_write p1 p2 p3 p4 M Post) : z_MtH G Y_L_write hh_L_write M [z_O p1, z_I p2, z_I p3, z_O p4] (z_PI Post) := by
  refine z_ofVH (by decide) (Nat.le_of_ble_eq_true rfl) ?_
  unfold P_L_write at hP
  refine z_sub (lv' := [(0, z_O p1), (1, z_I p2), (2, z_I p3), (3, z_O p4)]) [0, 1, 2, 3] rfl ?_
  refine z_aload_n dL_write_0 rfl 3 rfl ?_
  refine z_iconst (v := 0) dL_write_1 (by decide) ?_
  refine z_aload_n dL_write_2 rfl 0 rfl ?_
  refine z_iload_n dL_write_3 rfl 1 rfl ?_
  refine z_iload_n dL_write_4 rfl 2 rfl ?_
  obtain ⟨a2, e2, hP⟩ := hP
  have k2 := f_p1 a2 e2
  refine z_wts (fun hT1 _ => ?_)
  refine z_hV (hh := hh_L_write) (c := 11) (n := 2) (Y1 := Y_X11_write) (st := [z_I _, z_O _]) e2 k2 z_cb11 (Nat.le_of_ble_eq_true rfl) rfl (s_X11_write hl9 k2 hP) rfl ⟨z_dc_X11_write, ⟨(Nat.le_of_ble_eq_true rfl), (Nat.le_of_ble_eq_true rfl)⟩, (Nat.le_of_ble_eq_true rfl)⟩ rfl zw_806 zw_807 zw_808 zw_1 zw_809 dL_write_5 z_hok_L_write (fun E M_1 hE9 hP _ x1 => ?_) (fun r_1 M_1 hP _ x1 => ?_)
  · rcases hP with ⟨rfl, hP⟩ | ⟨rfl, hP⟩ | ⟨rfl, hP⟩
    · refine ⟨13, by decide, fun q_1 => ?_⟩
      refine z_astore (lv' := [(4, z_O _), (0, z_O _), (1, z_I _), (2, z_I _), (3, z_O _)]) dL_write_13 (Nat.le_of_ble_eq_true rfl) rfl ?_
      refine z_pc (pc' := 15) rfl ?_
      refine z_iconst (v := 1) dL_write_15 (by decide) ?_
      exact z_reti rfl dL_write_16 hP
    · refine ⟨17, by decide, fun q_1 => ?_⟩
      refine z_astore (lv' := [(4, z_O _), (0, z_O _), (1, z_I _), (2, z_I _), (3, z_O _)]) dL_write_17 (Nat.le_of_ble_eq_true rfl) rfl ?_
      refine z_pc (pc' := 19) rfl ?_
      refine z_iconst (v := 2) dL_write_19 (by decide) ?_
      exact z_reti rfl dL_write_20 hP
    · refine ⟨21, by decide, fun q_1 => ?_⟩
      refine z_astore (lv' := [(4, z_O _), (0, z_O _), (1, z_I _), (2, z_I _), (3, z_O _)]) dL_write_21 (Nat.le_of_ble_eq_true rfl) rfl ?_
      refine z_pc (pc' := 23) rfl ?_
      refine z_iconst (v := 3) dL_write_23 (by decide) ?_
      exact z_reti rfl dL_write_24 hP
  · obtain ⟨x_1, rfl, hP⟩ := hP
    refine z_stk (st' := [z_I _, z_I _, z_O _]) rfl ?_
    have k2 := x1.k (k := 11) hT1 k2
    have f_p4 := x1.t (k := 24) hT1 f_p4
    refine z_i2l dL_write_8 ?_
    refine z_pc (pc' := 9) rfl ?_
    obtain ⟨a3, e3, hP⟩ := hP
    have k3 := f_p4 a3 e3
    obtain ⟨i4, hP⟩ := hP
    refine z_last e3 k3 i4 dL_write_9 ?_
    refine z_nm (fun M_5 g_5 => ?_)
    replace hP := hP M_5 g_5
    have q_5 := z_k5 g_5
    have k2 := z_kk q_5 k2
    have k3 := z_kk q_5 k3
    refine z_goto (tgt := 25) dL_write_10 (by decide) ?_
    refine z_iconst (v := 0) dL_write_25 (by decide) ?_
    exact z_reti rfl dL_write_26 hP
set_option maxRecDepth 100000 in
def P_L_setWay (p1 : Option Nat) (p2 : Int32) (p3 : Int32) (p4 : Option Nat) (M : z_Mem) (Post : Int32 → z_Mem → Prop) : Prop := z_nn p1 fun a2 => (P_X11_setWay a2 p2 p3 M (fun x_1 M_1 => z_nn p4 fun a3 => (vp_in 0 (z_ln M_1 a3) ∧ (∀ M_5 : z_Mem, M_5 = z_sal M_1 a3 ((0 : Int32).toNatClampNeg) ((x_1 : Int32).toInt64) → (Post 0 M_5)))) (fun E M_1 => (E = "java/lang/IndexOutOfBoundsException" ∧ Post 1 M_1) ∨ (E = "java/lang/IllegalArgumentException" ∧ Post 2 M_1)))
set_option maxRecDepth 100000 in
set_option maxHeartbeats 4000000 in
theorem s_L_setWay {G : z_G} {M : z_Mem} {p1 : Option Nat} {p2 : Int32} {p3 : Int32} {p4 : Option Nat} {Post : Int32 → z_Mem → Prop} (hl9 : G.1.stackTraces = false) (f_p1 : z_tr M p1 12) (f_p4 : z_tr M p4 25) (hP : P_L_setWay p1 p2 p3 p4 M Post) : z_MtH G Y_L_setWay hh_L_setWay M [z_O p1, z_I p2, z_I p3, z_O p4] (z_PI Post) := by
  refine z_ofVH (by decide) (Nat.le_of_ble_eq_true rfl) ?_
  unfold P_L_setWay at hP
  refine z_sub (lv' := [(0, z_O p1), (1, z_I p2), (2, z_I p3), (3, z_O p4)]) [0, 1, 2, 3] rfl ?_
  refine z_aload_n dL_setWay_0 rfl 3 rfl ?_
  refine z_iconst (v := 0) dL_setWay_1 (by decide) ?_
  refine z_aload_n dL_setWay_2 rfl 0 rfl ?_
  refine z_iload_n dL_setWay_3 rfl 1 rfl ?_
  refine z_iload_n dL_setWay_4 rfl 2 rfl ?_
  obtain ⟨a2, e2, hP⟩ := hP
  have k2 := f_p1 a2 e2
  refine z_wts (fun hT1 _ => ?_)
  refine z_hV (hh := hh_L_setWay) (c := 11) (n := 2) (Y1 := Y_X11_setWay) (st := [z_I _, z_O _]) e2 k2 z_cb11 (Nat.le_of_ble_eq_true rfl) rfl (s_X11_setWay hl9 k2 hP) rfl ⟨z_dc_X11_setWay, ⟨(Nat.le_of_ble_eq_true rfl), (Nat.le_of_ble_eq_true rfl)⟩, (Nat.le_of_ble_eq_true rfl)⟩ rfl zw_813 zw_814 zw_815 zw_1 zw_816 dL_setWay_5 z_hok_L_setWay (fun E M_1 hE9 hP _ x1 => ?_) (fun r_1 M_1 hP _ x1 => ?_)
  · rcases hP with ⟨rfl, hP⟩ | ⟨rfl, hP⟩
    · refine ⟨13, by decide, fun q_1 => ?_⟩
      refine z_astore (lv' := [(4, z_O _), (0, z_O _), (1, z_I _), (2, z_I _), (3, z_O _)]) dL_setWay_13 (Nat.le_of_ble_eq_true rfl) rfl ?_
      refine z_pc (pc' := 15) rfl ?_
      refine z_iconst (v := 1) dL_setWay_15 (by decide) ?_
      exact z_reti rfl dL_setWay_16 hP
    · refine ⟨17, by decide, fun q_1 => ?_⟩
      refine z_astore (lv' := [(4, z_O _), (0, z_O _), (1, z_I _), (2, z_I _), (3, z_O _)]) dL_setWay_17 (Nat.le_of_ble_eq_true rfl) rfl ?_
      refine z_pc (pc' := 19) rfl ?_
      refine z_iconst (v := 2) dL_setWay_19 (by decide) ?_
      exact z_reti rfl dL_setWay_20 hP
  · obtain ⟨x_1, rfl, hP⟩ := hP
    refine z_stk (st' := [z_I _, z_I _, z_O _]) rfl ?_
    have k2 := x1.k (k := 11) hT1 k2
    have f_p4 := x1.t (k := 24) hT1 f_p4
    refine z_i2l dL_setWay_8 ?_
    refine z_pc (pc' := 9) rfl ?_
    obtain ⟨a3, e3, hP⟩ := hP
    have k3 := f_p4 a3 e3
    obtain ⟨i4, hP⟩ := hP
    refine z_last e3 k3 i4 dL_setWay_9 ?_
    refine z_nm (fun M_5 g_5 => ?_)
    replace hP := hP M_5 g_5
    have q_5 := z_k5 g_5
    have k2 := z_kk q_5 k2
    have k3 := z_kk q_5 k3
    refine z_goto (tgt := 21) dL_setWay_10 (by decide) ?_
    refine z_iconst (v := 0) dL_setWay_21 (by decide) ?_
    exact z_reti rfl dL_setWay_22 hP
set_option maxRecDepth 100000 in
def P_L_check (p1 : Option Nat) (p2 : Int32) (M : z_Mem) (Post : Int32 → z_Mem → Prop) : Prop := z_nn p1 fun a2 => (P_X11_check a2 p2 M (fun M_1 => Post 0 M_1) (fun E M_1 => (E = "java/lang/IndexOutOfBoundsException" ∧ Post 1 M_1) ∨ (E = "java/lang/IllegalStateException" ∧ Post 2 M_1)))
set_option maxRecDepth 100000 in
set_option maxHeartbeats 4000000 in
theorem s_L_check {G : z_G} {M : z_Mem} {p1 : Option Nat} {p2 : Int32} {Post : Int32 → z_Mem → Prop} (hl9 : G.1.stackTraces = false) (f_p1 : z_tr M p1 12) (hP : P_L_check p1 p2 M Post) : z_MtH G Y_L_check hh_L_check M [z_O p1, z_I p2] (z_PI Post) := by
  refine z_ofVH (by decide) (Nat.le_of_ble_eq_true rfl) ?_
  unfold P_L_check at hP
  refine z_sub (lv' := [(0, z_O p1), (1, z_I p2)]) [0, 1] rfl ?_
  refine z_aload_n dL_check_0 rfl 0 rfl ?_
  refine z_iload_n dL_check_1 rfl 1 rfl ?_
  obtain ⟨a2, e2, hP⟩ := hP
  have k2 := f_p1 a2 e2
  refine z_wts (fun hT1 _ => ?_)
  refine z_hV (hh := hh_L_check) (c := 11) (n := 1) (Y1 := Y_X11_check) (st := []) e2 k2 z_cb11 (Nat.le_of_ble_eq_true rfl) rfl (s_X11_check hl9 k2 hP) rfl ⟨z_dc_X11_check, ⟨(Nat.le_of_ble_eq_true rfl), (Nat.le_of_ble_eq_true rfl)⟩, (Nat.le_of_ble_eq_true rfl)⟩ rfl zw_824 zw_825 zw_826 zw_1 zw_827 dL_check_2 z_hok_L_check (fun E M_1 hE9 hP _ x1 => ?_) (fun r_1 M_1 hP _ x1 => ?_)
  · rcases hP with ⟨rfl, hP⟩ | ⟨rfl, hP⟩
    · refine ⟨8, by decide, fun q_1 => ?_⟩
      refine z_astore_n (lv' := [(2, z_O _), (0, z_O _), (1, z_I _)]) dL_check_8 rfl (Nat.le_of_ble_eq_true rfl) rfl ?_
      refine z_iconst (v := 1) dL_check_9 (by decide) ?_
      exact z_reti rfl dL_check_10 hP
    · refine ⟨11, by decide, fun q_1 => ?_⟩
      refine z_astore_n (lv' := [(2, z_O _), (0, z_O _), (1, z_I _)]) dL_check_11 rfl (Nat.le_of_ble_eq_true rfl) rfl ?_
      refine z_iconst (v := 2) dL_check_12 (by decide) ?_
      exact z_reti rfl dL_check_13 hP
  · obtain ⟨rfl, hP⟩ := hP
    refine z_stk (st' := []) rfl ?_
    have k2 := x1.k (k := 11) hT1 k2
    refine z_goto (tgt := 14) dL_check_5 (by decide) ?_
    refine z_iconst (v := 0) dL_check_14 (by decide) ?_
    exact z_reti rfl dL_check_15 hP
set_option maxRecDepth 100000 in
def P_L_use (p1 : Option Nat) (p2 : Int32) (p3 : Option Nat) (M : z_Mem) (Post : Int32 → z_Mem → Prop) : Prop := z_nn p1 fun a2 => (P_X11_use a2 p2 M (fun x_1 M_1 => z_nn p3 fun a3 => (vp_in 0 (z_ln M_1 a3) ∧ (∀ M_5 : z_Mem, M_5 = z_sal M_1 a3 ((0 : Int32).toNatClampNeg) ((x_1 : Int32).toInt64) → (Post 0 M_5)))) (fun E M_1 => (E = "java/lang/IllegalArgumentException" ∧ Post 1 M_1) ∨ (E = "java/lang/IllegalStateException" ∧ Post 2 M_1)))
set_option maxRecDepth 100000 in
set_option maxHeartbeats 4000000 in
theorem s_L_use {G : z_G} {M : z_Mem} {p1 : Option Nat} {p2 : Int32} {p3 : Option Nat} {Post : Int32 → z_Mem → Prop} (hl9 : G.1.stackTraces = false) (f_p1 : z_tr M p1 12) (f_p3 : z_tr M p3 25) (hP : P_L_use p1 p2 p3 M Post) : z_MtH G Y_L_use hh_L_use M [z_O p1, z_I p2, z_O p3] (z_PI Post) := by
  refine z_ofVH (by decide) (Nat.le_of_ble_eq_true rfl) ?_
  unfold P_L_use at hP
  refine z_sub (lv' := [(0, z_O p1), (1, z_I p2), (2, z_O p3)]) [0, 1, 2] rfl ?_
  refine z_aload_n dL_use_0 rfl 2 rfl ?_
  refine z_iconst (v := 0) dL_use_1 (by decide) ?_
  refine z_aload_n dL_use_2 rfl 0 rfl ?_
  refine z_iload_n dL_use_3 rfl 1 rfl ?_
  obtain ⟨a2, e2, hP⟩ := hP
  have k2 := f_p1 a2 e2
  refine z_wts (fun hT1 _ => ?_)
  refine z_hV (hh := hh_L_use) (c := 11) (n := 1) (Y1 := Y_X11_use) (st := [z_I _, z_O _]) e2 k2 z_cb11 (Nat.le_of_ble_eq_true rfl) rfl (s_X11_use hl9 k2 hP) rfl ⟨z_dc_X11_use, ⟨(Nat.le_of_ble_eq_true rfl), (Nat.le_of_ble_eq_true rfl)⟩, (Nat.le_of_ble_eq_true rfl)⟩ rfl zw_834 zw_835 zw_836 zw_1 zw_837 dL_use_4 z_hok_L_use (fun E M_1 hE9 hP _ x1 => ?_) (fun r_1 M_1 hP _ x1 => ?_)
  · rcases hP with ⟨rfl, hP⟩ | ⟨rfl, hP⟩
    · refine ⟨12, by decide, fun q_1 => ?_⟩
      refine z_astore_n (lv' := [(3, z_O _), (0, z_O _), (1, z_I _), (2, z_O _)]) dL_use_12 rfl (Nat.le_of_ble_eq_true rfl) rfl ?_
      refine z_iconst (v := 1) dL_use_13 (by decide) ?_
      refine z_pc (pc' := 14) rfl ?_
      exact z_reti rfl dL_use_14 hP
    · refine ⟨15, by decide, fun q_1 => ?_⟩
      refine z_astore_n (lv' := [(3, z_O _), (0, z_O _), (1, z_I _), (2, z_O _)]) dL_use_15 rfl (Nat.le_of_ble_eq_true rfl) rfl ?_
      refine z_iconst (v := 2) dL_use_16 (by decide) ?_
      refine z_pc (pc' := 17) rfl ?_
      exact z_reti rfl dL_use_17 hP
  · obtain ⟨x_1, rfl, hP⟩ := hP
    refine z_stk (st' := [z_I _, z_I _, z_O _]) rfl ?_
    have k2 := x1.k (k := 11) hT1 k2
    have f_p3 := x1.t (k := 24) hT1 f_p3
    refine z_i2l dL_use_7 ?_
    obtain ⟨a3, e3, hP⟩ := hP
    have k3 := f_p3 a3 e3
    obtain ⟨i4, hP⟩ := hP
    refine z_last e3 k3 i4 dL_use_8 ?_
    refine z_nm (fun M_5 g_5 => ?_)
    replace hP := hP M_5 g_5
    have q_5 := z_k5 g_5
    have k2 := z_kk q_5 k2
    have k3 := z_kk q_5 k3
    refine z_pc (pc' := 9) rfl ?_
    refine z_goto (tgt := 18) dL_use_9 (by decide) ?_
    refine z_iconst (v := 0) dL_use_18 (by decide) ?_
    exact z_reti rfl dL_use_19 hP
set_option maxRecDepth 100000 in
def P_L_changeKey (p1 : Option Nat) (p2 : Option Nat) (M : z_Mem) (Post : Int32 → z_Mem → Prop) : Prop := z_nn p1 fun a2 => (P_X11_changeKey a2 M (fun x_1 M_1 => z_nn p2 fun a3 => (vp_in 0 (z_ln M_1 a3) ∧ (∀ M_5 : z_Mem, M_5 = z_sal M_1 a3 ((0 : Int32).toNatClampNeg) ((x_1 : Int32).toInt64) → (Post 0 M_5)))) (fun E M_1 => (E = "java/lang/IllegalStateException" ∧ Post 1 M_1)))
set_option maxRecDepth 100000 in
set_option maxHeartbeats 4000000 in
theorem s_L_changeKey {G : z_G} {M : z_Mem} {p1 : Option Nat} {p2 : Option Nat} {Post : Int32 → z_Mem → Prop} (hl9 : G.1.stackTraces = false) (f_p1 : z_tr M p1 12) (f_p2 : z_tr M p2 25) (hP : P_L_changeKey p1 p2 M Post) : z_MtH G Y_L_changeKey hh_L_changeKey M [z_O p1, z_O p2] (z_PI Post) := by
  refine z_ofVH (by decide) (Nat.le_of_ble_eq_true rfl) ?_
  unfold P_L_changeKey at hP
  refine z_sub (lv' := [(0, z_O p1), (1, z_O p2)]) [0, 1] rfl ?_
  refine z_aload_n dL_changeKey_0 rfl 1 rfl ?_
  refine z_iconst (v := 0) dL_changeKey_1 (by decide) ?_
  refine z_aload_n dL_changeKey_2 rfl 0 rfl ?_
  obtain ⟨a2, e2, hP⟩ := hP
  have k2 := f_p1 a2 e2
  refine z_wts (fun hT1 _ => ?_)
  refine z_hV (hh := hh_L_changeKey) (c := 11) (n := 0) (Y1 := Y_X11_changeKey) (st := [z_I _, z_O _]) e2 k2 z_cb11 (Nat.le_of_ble_eq_true rfl) rfl (s_X11_changeKey hl9 k2 hP) rfl ⟨z_dc_X11_changeKey, ⟨(Nat.le_of_ble_eq_true rfl), (Nat.le_of_ble_eq_true rfl)⟩, (Nat.le_of_ble_eq_true rfl)⟩ rfl zw_841 zw_842 zw_843 zw_1 zw_844 dL_changeKey_3 z_hok_L_changeKey (fun E M_1 hE9 hP _ x1 => ?_) (fun r_1 M_1 hP _ x1 => ?_)
  · obtain ⟨rfl, hP⟩ := hP
    · refine ⟨11, by decide, fun q_1 => ?_⟩
      refine z_astore_n (lv' := [(2, z_O _), (0, z_O _), (1, z_O _)]) dL_changeKey_11 rfl (Nat.le_of_ble_eq_true rfl) rfl ?_
      refine z_iconst (v := 1) dL_changeKey_12 (by decide) ?_
      exact z_reti rfl dL_changeKey_13 hP
  · obtain ⟨x_1, rfl, hP⟩ := hP
    refine z_stk (st' := [z_I _, z_I _, z_O _]) rfl ?_
    have k2 := x1.k (k := 11) hT1 k2
    have f_p2 := x1.t (k := 24) hT1 f_p2
    refine z_i2l dL_changeKey_6 ?_
    obtain ⟨a3, e3, hP⟩ := hP
    have k3 := f_p2 a3 e3
    obtain ⟨i4, hP⟩ := hP
    refine z_last e3 k3 i4 dL_changeKey_7 ?_
    refine z_nm (fun M_5 g_5 => ?_)
    replace hP := hP M_5 g_5
    have q_5 := z_k5 g_5
    have k2 := z_kk q_5 k2
    have k3 := z_kk q_5 k3
    refine z_goto (tgt := 14) dL_changeKey_8 (by decide) ?_
    refine z_iconst (v := 0) dL_changeKey_14 (by decide) ?_
    refine z_pc (pc' := 15) rfl ?_
    exact z_reti rfl dL_changeKey_15 hP
set_option maxRecDepth 100000 in
def P_L_close (p1 : Option Nat) (M : z_Mem) (Post : Int32 → z_Mem → Prop) : Prop := z_nn p1 fun a2 => (P_X11_close a2 M (fun M_1 => Post 0 M_1) (fun E M_1 => (E = "java/lang/IllegalStateException" ∧ Post 1 M_1)))
set_option maxRecDepth 100000 in
set_option maxHeartbeats 4000000 in
theorem s_L_close {G : z_G} {M : z_Mem} {p1 : Option Nat} {Post : Int32 → z_Mem → Prop} (hl9 : G.1.stackTraces = false) (f_p1 : z_tr M p1 12) (hP : P_L_close p1 M Post) : z_MtH G Y_L_close hh_L_close M [z_O p1] (z_PI Post) := by
  refine z_ofVH (by decide) (Nat.le_of_ble_eq_true rfl) ?_
  unfold P_L_close at hP
  refine z_sub (lv' := [(0, z_O p1)]) [0] rfl ?_
  refine z_aload_n dL_close_0 rfl 0 rfl ?_
  obtain ⟨a2, e2, hP⟩ := hP
  have k2 := f_p1 a2 e2
  refine z_wts (fun hT1 _ => ?_)
  refine z_hV (hh := hh_L_close) (c := 11) (n := 0) (Y1 := Y_X11_close) (st := []) e2 k2 z_cb11 (Nat.le_of_ble_eq_true rfl) rfl (s_X11_close hl9 k2 hP) rfl ⟨z_dc_X11_close, ⟨(Nat.le_of_ble_eq_true rfl), (Nat.le_of_ble_eq_true rfl)⟩, (Nat.le_of_ble_eq_true rfl)⟩ rfl zw_859 zw_860 zw_861 zw_1 zw_862 dL_close_1 z_hok_L_close (fun E M_1 hE9 hP _ x1 => ?_) (fun r_1 M_1 hP _ x1 => ?_)
  · obtain ⟨rfl, hP⟩ := hP
    · refine ⟨7, by decide, fun q_1 => ?_⟩
      refine z_astore_n (lv' := [(1, z_O _), (0, z_O _)]) dL_close_7 rfl (Nat.le_of_ble_eq_true rfl) rfl ?_
      refine z_iconst (v := 1) dL_close_8 (by decide) ?_
      exact z_reti rfl dL_close_9 hP
  · obtain ⟨rfl, hP⟩ := hP
    refine z_stk (st' := []) rfl ?_
    have k2 := x1.k (k := 11) hT1 k2
    refine z_goto (tgt := 10) dL_close_4 (by decide) ?_
    refine z_iconst (v := 0) dL_close_10 (by decide) ?_
    exact z_reti rfl dL_close_11 hP
set_option maxRecDepth 100000 in
def P_L_tick (p1 : Option Nat) (p2 : Int32) (p3 : Option Nat) (M : z_Mem) (Post : Int32 → z_Mem → Prop) : Prop := z_nn p1 fun a2 => (P_X11_tick a2 p2 M (fun x_1 M_1 => z_nn p3 fun a3 => (vp_in 0 (z_ln M_1 a3) ∧ (∀ M_5 : z_Mem, M_5 = z_sal M_1 a3 ((0 : Int32).toNatClampNeg) ((x_1 : Int32).toInt64) → (Post 0 M_5)))) (fun E M_1 => (E = "java/lang/IllegalArgumentException" ∧ Post 1 M_1) ∨ (E = "java/lang/IllegalStateException" ∧ Post 2 M_1)))
set_option maxRecDepth 100000 in
set_option maxHeartbeats 4000000 in
theorem s_L_tick {G : z_G} {M : z_Mem} {p1 : Option Nat} {p2 : Int32} {p3 : Option Nat} {Post : Int32 → z_Mem → Prop} (hl9 : G.1.stackTraces = false) (f_p1 : z_tr M p1 12) (f_p3 : z_tr M p3 25) (hP : P_L_tick p1 p2 p3 M Post) : z_MtH G Y_L_tick hh_L_tick M [z_O p1, z_I p2, z_O p3] (z_PI Post) := by
  refine z_ofVH (by decide) (Nat.le_of_ble_eq_true rfl) ?_
  unfold P_L_tick at hP
  refine z_sub (lv' := [(0, z_O p1), (1, z_I p2), (2, z_O p3)]) [0, 1, 2] rfl ?_
  refine z_aload_n dL_tick_0 rfl 2 rfl ?_
  refine z_iconst (v := 0) dL_tick_1 (by decide) ?_
  refine z_aload_n dL_tick_2 rfl 0 rfl ?_
  refine z_iload_n dL_tick_3 rfl 1 rfl ?_
  obtain ⟨a2, e2, hP⟩ := hP
  have k2 := f_p1 a2 e2
  refine z_wts (fun hT1 _ => ?_)
  refine z_hV (hh := hh_L_tick) (c := 11) (n := 1) (Y1 := Y_X11_tick) (st := [z_I _, z_O _]) e2 k2 z_cb11 (Nat.le_of_ble_eq_true rfl) rfl (s_X11_tick hl9 k2 hP) rfl ⟨z_dc_X11_tick, ⟨(Nat.le_of_ble_eq_true rfl), (Nat.le_of_ble_eq_true rfl)⟩, (Nat.le_of_ble_eq_true rfl)⟩ rfl zw_870 zw_871 zw_872 zw_1 zw_873 dL_tick_4 z_hok_L_tick (fun E M_1 hE9 hP _ x1 => ?_) (fun r_1 M_1 hP _ x1 => ?_)
  · rcases hP with ⟨rfl, hP⟩ | ⟨rfl, hP⟩
    · refine ⟨12, by decide, fun q_1 => ?_⟩
      refine z_astore_n (lv' := [(3, z_O _), (0, z_O _), (1, z_I _), (2, z_O _)]) dL_tick_12 rfl (Nat.le_of_ble_eq_true rfl) rfl ?_
      refine z_iconst (v := 1) dL_tick_13 (by decide) ?_
      refine z_pc (pc' := 14) rfl ?_
      exact z_reti rfl dL_tick_14 hP
    · refine ⟨15, by decide, fun q_1 => ?_⟩
      refine z_astore_n (lv' := [(3, z_O _), (0, z_O _), (1, z_I _), (2, z_O _)]) dL_tick_15 rfl (Nat.le_of_ble_eq_true rfl) rfl ?_
      refine z_iconst (v := 2) dL_tick_16 (by decide) ?_
      refine z_pc (pc' := 17) rfl ?_
      exact z_reti rfl dL_tick_17 hP
  · obtain ⟨x_1, rfl, hP⟩ := hP
    refine z_stk (st' := [z_I _, z_I _, z_O _]) rfl ?_
    have k2 := x1.k (k := 11) hT1 k2
    have f_p3 := x1.t (k := 24) hT1 f_p3
    refine z_i2l dL_tick_7 ?_
    obtain ⟨a3, e3, hP⟩ := hP
    have k3 := f_p3 a3 e3
    obtain ⟨i4, hP⟩ := hP
    refine z_last e3 k3 i4 dL_tick_8 ?_
    refine z_nm (fun M_5 g_5 => ?_)
    replace hP := hP M_5 g_5
    have q_5 := z_k5 g_5
    have k2 := z_kk q_5 k2
    have k3 := z_kk q_5 k3
    refine z_pc (pc' := 9) rfl ?_
    refine z_goto (tgt := 18) dL_tick_9 (by decide) ?_
    refine z_iconst (v := 0) dL_tick_18 (by decide) ?_
    exact z_reti rfl dL_tick_19 hP
set_option maxRecDepth 100000 in
def P_L_state (p1 : Option Nat) (p2 : Int32) (p3 : Option Nat) (M : z_Mem) (Post : Int32 → z_Mem → Prop) : Prop := z_nn p1 fun a2 => (P_X11_state a2 p2 M (fun x_1 M_1 => z_nn p3 fun a3 => (vp_in 0 (z_ln M_1 a3) ∧ (∀ M_5 : z_Mem, M_5 = z_sal M_1 a3 ((0 : Int32).toNatClampNeg) ((x_1 : Int32).toInt64) → (Post 0 M_5)))) (fun E M_1 => (E = "java/lang/IllegalArgumentException" ∧ Post 1 M_1)))
set_option maxRecDepth 100000 in
set_option maxHeartbeats 4000000 in
theorem s_L_state {G : z_G} {M : z_Mem} {p1 : Option Nat} {p2 : Int32} {p3 : Option Nat} {Post : Int32 → z_Mem → Prop} (hl9 : G.1.stackTraces = false) (f_p1 : z_tr M p1 12) (f_p3 : z_tr M p3 25) (hP : P_L_state p1 p2 p3 M Post) : z_MtH G Y_L_state hh_L_state M [z_O p1, z_I p2, z_O p3] (z_PI Post) := by
  refine z_ofVH (by decide) (Nat.le_of_ble_eq_true rfl) ?_
  unfold P_L_state at hP
  refine z_sub (lv' := [(0, z_O p1), (1, z_I p2), (2, z_O p3)]) [0, 1, 2] rfl ?_
  refine z_aload_n dL_state_0 rfl 2 rfl ?_
  refine z_iconst (v := 0) dL_state_1 (by decide) ?_
  refine z_aload_n dL_state_2 rfl 0 rfl ?_
  refine z_iload_n dL_state_3 rfl 1 rfl ?_
  obtain ⟨a2, e2, hP⟩ := hP
  have k2 := f_p1 a2 e2
  refine z_wts (fun hT1 _ => ?_)
  refine z_hV (hh := hh_L_state) (c := 11) (n := 1) (Y1 := Y_X11_state) (st := [z_I _, z_O _]) e2 k2 z_cb11 (Nat.le_of_ble_eq_true rfl) rfl (s_X11_state hl9 k2 hP) rfl ⟨z_dc_X11_state, ⟨(Nat.le_of_ble_eq_true rfl), (Nat.le_of_ble_eq_true rfl)⟩, (Nat.le_of_ble_eq_true rfl)⟩ rfl zw_1189 zw_1190 zw_1191 zw_1 zw_1192 dL_state_4 z_hok_L_state (fun E M_1 hE9 hP _ x1 => ?_) (fun r_1 M_1 hP _ x1 => ?_)
  · obtain ⟨rfl, hP⟩ := hP
    · refine ⟨12, by decide, fun q_1 => ?_⟩
      refine z_astore_n (lv' := [(3, z_O _), (0, z_O _), (1, z_I _), (2, z_O _)]) dL_state_12 rfl (Nat.le_of_ble_eq_true rfl) rfl ?_
      refine z_iconst (v := 1) dL_state_13 (by decide) ?_
      refine z_pc (pc' := 14) rfl ?_
      exact z_reti rfl dL_state_14 hP
  · obtain ⟨x_1, rfl, hP⟩ := hP
    refine z_stk (st' := [z_I _, z_I _, z_O _]) rfl ?_
    have k2 := x1.k (k := 11) hT1 k2
    have f_p3 := x1.t (k := 24) hT1 f_p3
    refine z_i2l dL_state_7 ?_
    obtain ⟨a3, e3, hP⟩ := hP
    have k3 := f_p3 a3 e3
    obtain ⟨i4, hP⟩ := hP
    refine z_last e3 k3 i4 dL_state_8 ?_
    refine z_nm (fun M_5 g_5 => ?_)
    replace hP := hP M_5 g_5
    have q_5 := z_k5 g_5
    have k2 := z_kk q_5 k2
    have k3 := z_kk q_5 k3
    refine z_pc (pc' := 9) rfl ?_
    refine z_goto (tgt := 15) dL_state_9 (by decide) ?_
    refine z_iconst (v := 0) dL_state_15 (by decide) ?_
    exact z_reti rfl dL_state_16 hP
set_option maxRecDepth 100000 in
def P_L_path (p1 : Option Nat) (p2 : Int32) (p3 : Int32) (p4 : Option Nat) (M : z_Mem) (Post : Int32 → z_Mem → Prop) : Prop := z_nn p1 fun a2 => (P_X11_path a2 p2 p3 M (fun x_1 M_1 => z_nn p4 fun a3 => (vp_in 0 (z_ln M_1 a3) ∧ (∀ M_5 : z_Mem, M_5 = z_sal M_1 a3 ((0 : Int32).toNatClampNeg) ((x_1 : Int32).toInt64) → (Post 0 M_5)))) (fun E M_1 => (E = "java/lang/IndexOutOfBoundsException" ∧ Post 1 M_1) ∨ (E = "java/lang/IllegalArgumentException" ∧ Post 2 M_1)))
set_option maxRecDepth 100000 in
set_option maxHeartbeats 4000000 in
theorem s_L_path {G : z_G} {M : z_Mem} {p1 : Option Nat} {p2 : Int32} {p3 : Int32} {p4 : Option Nat} {Post : Int32 → z_Mem → Prop} (hl9 : G.1.stackTraces = false) (f_p1 : z_tr M p1 12) (f_p4 : z_tr M p4 25) (hP : P_L_path p1 p2 p3 p4 M Post) : z_MtH G Y_L_path hh_L_path M [z_O p1, z_I p2, z_I p3, z_O p4] (z_PI Post) := by
  refine z_ofVH (by decide) (Nat.le_of_ble_eq_true rfl) ?_
  unfold P_L_path at hP
  refine z_sub (lv' := [(0, z_O p1), (1, z_I p2), (2, z_I p3), (3, z_O p4)]) [0, 1, 2, 3] rfl ?_
  refine z_aload_n dL_path_0 rfl 3 rfl ?_
  refine z_iconst (v := 0) dL_path_1 (by decide) ?_
  refine z_aload_n dL_path_2 rfl 0 rfl ?_
  refine z_iload_n dL_path_3 rfl 1 rfl ?_
  refine z_iload_n dL_path_4 rfl 2 rfl ?_
  obtain ⟨a2, e2, hP⟩ := hP
  have k2 := f_p1 a2 e2
  refine z_wts (fun hT1 _ => ?_)
  refine z_hV (hh := hh_L_path) (c := 11) (n := 2) (Y1 := Y_X11_path) (st := [z_I _, z_O _]) e2 k2 z_cb11 (Nat.le_of_ble_eq_true rfl) rfl (s_X11_path hl9 k2 hP) rfl ⟨z_dc_X11_path, ⟨(Nat.le_of_ble_eq_true rfl), (Nat.le_of_ble_eq_true rfl)⟩, (Nat.le_of_ble_eq_true rfl)⟩ rfl zw_1196 zw_1197 zw_1198 zw_1 zw_1199 dL_path_5 z_hok_L_path (fun E M_1 hE9 hP _ x1 => ?_) (fun r_1 M_1 hP _ x1 => ?_)
  · rcases hP with ⟨rfl, hP⟩ | ⟨rfl, hP⟩
    · refine ⟨13, by decide, fun q_1 => ?_⟩
      refine z_astore (lv' := [(4, z_O _), (0, z_O _), (1, z_I _), (2, z_I _), (3, z_O _)]) dL_path_13 (Nat.le_of_ble_eq_true rfl) rfl ?_
      refine z_pc (pc' := 15) rfl ?_
      refine z_iconst (v := 1) dL_path_15 (by decide) ?_
      exact z_reti rfl dL_path_16 hP
    · refine ⟨17, by decide, fun q_1 => ?_⟩
      refine z_astore (lv' := [(4, z_O _), (0, z_O _), (1, z_I _), (2, z_I _), (3, z_O _)]) dL_path_17 (Nat.le_of_ble_eq_true rfl) rfl ?_
      refine z_pc (pc' := 19) rfl ?_
      refine z_iconst (v := 2) dL_path_19 (by decide) ?_
      exact z_reti rfl dL_path_20 hP
  · obtain ⟨x_1, rfl, hP⟩ := hP
    refine z_stk (st' := [z_I _, z_I _, z_O _]) rfl ?_
    have k2 := x1.k (k := 11) hT1 k2
    have f_p4 := x1.t (k := 24) hT1 f_p4
    refine z_i2l dL_path_8 ?_
    refine z_pc (pc' := 9) rfl ?_
    obtain ⟨a3, e3, hP⟩ := hP
    have k3 := f_p4 a3 e3
    obtain ⟨i4, hP⟩ := hP
    refine z_last e3 k3 i4 dL_path_9 ?_
    refine z_nm (fun M_5 g_5 => ?_)
    replace hP := hP M_5 g_5
    have q_5 := z_k5 g_5
    have k2 := z_kk q_5 k2
    have k3 := z_kk q_5 k3
    refine z_goto (tgt := 21) dL_path_10 (by decide) ?_
    refine z_iconst (v := 0) dL_path_21 (by decide) ?_
    exact z_reti rfl dL_path_22 hP
set_option maxRecDepth 100000 in
def P_L_stream (p1 : Option Nat) (p2 : Int32) (p3 : Int32) (p4 : Option Nat) (M : z_Mem) (Post : Int32 → z_Mem → Prop) : Prop := z_nn p1 fun a2 => (P_X11_stream a2 p2 p3 M (fun x_1 M_1 => z_nn p4 fun a3 => (vp_in 0 (z_ln M_1 a3) ∧ (∀ M_5 : z_Mem, M_5 = z_sal M_1 a3 ((0 : Int32).toNatClampNeg) ((x_1 : Int32).toInt64) → (Post 0 M_5)))) (fun E M_1 => (E = "java/lang/IndexOutOfBoundsException" ∧ Post 1 M_1) ∨ (E = "java/lang/IllegalArgumentException" ∧ Post 2 M_1)))
set_option maxRecDepth 100000 in
set_option maxHeartbeats 4000000 in
theorem s_L_stream {G : z_G} {M : z_Mem} {p1 : Option Nat} {p2 : Int32} {p3 : Int32} {p4 : Option Nat} {Post : Int32 → z_Mem → Prop} (hl9 : G.1.stackTraces = false) (f_p1 : z_tr M p1 12) (f_p4 : z_tr M p4 25) (hP : P_L_stream p1 p2 p3 p4 M Post) : z_MtH G Y_L_stream hh_L_stream M [z_O p1, z_I p2, z_I p3, z_O p4] (z_PI Post) := by
  refine z_ofVH (by decide) (Nat.le_of_ble_eq_true rfl) ?_
  unfold P_L_stream at hP
  refine z_sub (lv' := [(0, z_O p1), (1, z_I p2), (2, z_I p3), (3, z_O p4)]) [0, 1, 2, 3] rfl ?_
  refine z_aload_n dL_stream_0 rfl 3 rfl ?_
  refine z_iconst (v := 0) dL_stream_1 (by decide) ?_
  refine z_aload_n dL_stream_2 rfl 0 rfl ?_
  refine z_iload_n dL_stream_3 rfl 1 rfl ?_
  refine z_iload_n dL_stream_4 rfl 2 rfl ?_
  obtain ⟨a2, e2, hP⟩ := hP
  have k2 := f_p1 a2 e2
  refine z_wts (fun hT1 _ => ?_)
  refine z_hV (hh := hh_L_stream) (c := 11) (n := 2) (Y1 := Y_X11_stream) (st := [z_I _, z_O _]) e2 k2 z_cb11 (Nat.le_of_ble_eq_true rfl) rfl (s_X11_stream hl9 k2 hP) rfl ⟨z_dc_X11_stream, ⟨(Nat.le_of_ble_eq_true rfl), (Nat.le_of_ble_eq_true rfl)⟩, (Nat.le_of_ble_eq_true rfl)⟩ rfl zw_1206 zw_1207 zw_1208 zw_1 zw_1209 dL_stream_5 z_hok_L_stream (fun E M_1 hE9 hP _ x1 => ?_) (fun r_1 M_1 hP _ x1 => ?_)
  · rcases hP with ⟨rfl, hP⟩ | ⟨rfl, hP⟩
    · refine ⟨13, by decide, fun q_1 => ?_⟩
      refine z_astore (lv' := [(4, z_O _), (0, z_O _), (1, z_I _), (2, z_I _), (3, z_O _)]) dL_stream_13 (Nat.le_of_ble_eq_true rfl) rfl ?_
      refine z_pc (pc' := 15) rfl ?_
      refine z_iconst (v := 1) dL_stream_15 (by decide) ?_
      exact z_reti rfl dL_stream_16 hP
    · refine ⟨17, by decide, fun q_1 => ?_⟩
      refine z_astore (lv' := [(4, z_O _), (0, z_O _), (1, z_I _), (2, z_I _), (3, z_O _)]) dL_stream_17 (Nat.le_of_ble_eq_true rfl) rfl ?_
      refine z_pc (pc' := 19) rfl ?_
      refine z_iconst (v := 2) dL_stream_19 (by decide) ?_
      exact z_reti rfl dL_stream_20 hP
  · obtain ⟨x_1, rfl, hP⟩ := hP
    refine z_stk (st' := [z_I _, z_I _, z_O _]) rfl ?_
    have k2 := x1.k (k := 11) hT1 k2
    have f_p4 := x1.t (k := 24) hT1 f_p4
    refine z_i2l dL_stream_8 ?_
    refine z_pc (pc' := 9) rfl ?_
    obtain ⟨a3, e3, hP⟩ := hP
    have k3 := f_p4 a3 e3
    obtain ⟨i4, hP⟩ := hP
    refine z_last e3 k3 i4 dL_stream_9 ?_
    refine z_nm (fun M_5 g_5 => ?_)
    replace hP := hP M_5 g_5
    have q_5 := z_k5 g_5
    have k2 := z_kk q_5 k2
    have k3 := z_kk q_5 k3
    refine z_goto (tgt := 21) dL_stream_10 (by decide) ?_
    refine z_iconst (v := 0) dL_stream_21 (by decide) ?_
    exact z_reti rfl dL_stream_22 hP
set_option maxRecDepth 100000 in
def P_L_packet (p1 : Option Nat) (p2 : Int32) (p3 : Int32) (p4 : Option Nat) (M : z_Mem) (Post : Int32 → z_Mem → Prop) : Prop := z_nn p1 fun a2 => (P_X11_packet a2 p2 p3 M (fun x_1 M_1 => z_nn p4 fun a3 => (vp_in 0 (z_ln M_1 a3) ∧ (∀ M_5 : z_Mem, M_5 = z_sal M_1 a3 ((0 : Int32).toNatClampNeg) ((x_1 : Int32).toInt64) → (Post 0 M_5)))) (fun E M_1 => (E = "java/lang/IndexOutOfBoundsException" ∧ Post 1 M_1) ∨ (E = "java/lang/IllegalArgumentException" ∧ Post 2 M_1)))
set_option maxRecDepth 100000 in
set_option maxHeartbeats 4000000 in
theorem s_L_packet {G : z_G} {M : z_Mem} {p1 : Option Nat} {p2 : Int32} {p3 : Int32} {p4 : Option Nat} {Post : Int32 → z_Mem → Prop} (hl9 : G.1.stackTraces = false) (f_p1 : z_tr M p1 12) (f_p4 : z_tr M p4 25) (hP : P_L_packet p1 p2 p3 p4 M Post) : z_MtH G Y_L_packet hh_L_packet M [z_O p1, z_I p2, z_I p3, z_O p4] (z_PI Post) := by
  refine z_ofVH (by decide) (Nat.le_of_ble_eq_true rfl) ?_
  unfold P_L_packet at hP
  refine z_sub (lv' := [(0, z_O p1), (1, z_I p2), (2, z_I p3), (3, z_O p4)]) [0, 1, 2, 3] rfl ?_
  refine z_aload_n dL_packet_0 rfl 3 rfl ?_
  refine z_iconst (v := 0) dL_packet_1 (by decide) ?_
  refine z_aload_n dL_packet_2 rfl 0 rfl ?_
  refine z_iload_n dL_packet_3 rfl 1 rfl ?_
  refine z_iload_n dL_packet_4 rfl 2 rfl ?_
  obtain ⟨a2, e2, hP⟩ := hP
  have k2 := f_p1 a2 e2
  refine z_wts (fun hT1 _ => ?_)
  refine z_hV (hh := hh_L_packet) (c := 11) (n := 2) (Y1 := Y_X11_packet) (st := [z_I _, z_O _]) e2 k2 z_cb11 (Nat.le_of_ble_eq_true rfl) rfl (s_X11_packet hl9 k2 hP) rfl ⟨z_dc_X11_packet, ⟨(Nat.le_of_ble_eq_true rfl), (Nat.le_of_ble_eq_true rfl)⟩, (Nat.le_of_ble_eq_true rfl)⟩ rfl zw_1213 zw_1214 zw_1215 zw_1 zw_1216 dL_packet_5 z_hok_L_packet (fun E M_1 hE9 hP _ x1 => ?_) (fun r_1 M_1 hP _ x1 => ?_)
  · rcases hP with ⟨rfl, hP⟩ | ⟨rfl, hP⟩
    · refine ⟨13, by decide, fun q_1 => ?_⟩
      refine z_astore (lv' := [(4, z_O _), (0, z_O _), (1, z_I _), (2, z_I _), (3, z_O _)]) dL_packet_13 (Nat.le_of_ble_eq_true rfl) rfl ?_
      refine z_pc (pc' := 15) rfl ?_
      refine z_iconst (v := 1) dL_packet_15 (by decide) ?_
      exact z_reti rfl dL_packet_16 hP
    · refine ⟨17, by decide, fun q_1 => ?_⟩
      refine z_astore (lv' := [(4, z_O _), (0, z_O _), (1, z_I _), (2, z_I _), (3, z_O _)]) dL_packet_17 (Nat.le_of_ble_eq_true rfl) rfl ?_
      refine z_pc (pc' := 19) rfl ?_
      refine z_iconst (v := 2) dL_packet_19 (by decide) ?_
      exact z_reti rfl dL_packet_20 hP
  · obtain ⟨x_1, rfl, hP⟩ := hP
    refine z_stk (st' := [z_I _, z_I _, z_O _]) rfl ?_
    have k2 := x1.k (k := 11) hT1 k2
    have f_p4 := x1.t (k := 24) hT1 f_p4
    refine z_i2l dL_packet_8 ?_
    refine z_pc (pc' := 9) rfl ?_
    obtain ⟨a3, e3, hP⟩ := hP
    have k3 := f_p4 a3 e3
    obtain ⟨i4, hP⟩ := hP
    refine z_last e3 k3 i4 dL_packet_9 ?_
    refine z_nm (fun M_5 g_5 => ?_)
    replace hP := hP M_5 g_5
    have q_5 := z_k5 g_5
    have k2 := z_kk q_5 k2
    have k3 := z_kk q_5 k3
    refine z_goto (tgt := 21) dL_packet_10 (by decide) ?_
    refine z_iconst (v := 0) dL_packet_21 (by decide) ?_
    exact z_reti rfl dL_packet_22 hP
set_option maxRecDepth 100000 in
def P_L_count (p1 : Option Nat) (p2 : Int32) (p3 : Option Nat) (M : z_Mem) (Post : Int32 → z_Mem → Prop) : Prop := z_nn p1 fun a2 => (P_X11_count a2 p2 M (fun x_1 M_1 => z_nn p3 fun a3 => (vp_in 0 (z_ln M_1 a3) ∧ (∀ M_5 : z_Mem, M_5 = z_sal M_1 a3 ((0 : Int32).toNatClampNeg) ((x_1 : Int32).toInt64) → (Post 0 M_5)))) (fun E M_1 => (E = "java/lang/IllegalArgumentException" ∧ Post 1 M_1)))
set_option maxRecDepth 100000 in
set_option maxHeartbeats 4000000 in
theorem s_L_count {G : z_G} {M : z_Mem} {p1 : Option Nat} {p2 : Int32} {p3 : Option Nat} {Post : Int32 → z_Mem → Prop} (hl9 : G.1.stackTraces = false) (f_p1 : z_tr M p1 12) (f_p3 : z_tr M p3 25) (hP : P_L_count p1 p2 p3 M Post) : z_MtH G Y_L_count hh_L_count M [z_O p1, z_I p2, z_O p3] (z_PI Post) := by
  refine z_ofVH (by decide) (Nat.le_of_ble_eq_true rfl) ?_
  unfold P_L_count at hP
  refine z_sub (lv' := [(0, z_O p1), (1, z_I p2), (2, z_O p3)]) [0, 1, 2] rfl ?_
  refine z_aload_n dL_count_0 rfl 2 rfl ?_
  refine z_iconst (v := 0) dL_count_1 (by decide) ?_
  refine z_aload_n dL_count_2 rfl 0 rfl ?_
  refine z_iload_n dL_count_3 rfl 1 rfl ?_
  obtain ⟨a2, e2, hP⟩ := hP
  have k2 := f_p1 a2 e2
  refine z_wts (fun hT1 _ => ?_)
  refine z_hV (hh := hh_L_count) (c := 11) (n := 1) (Y1 := Y_X11_count) (st := [z_I _, z_O _]) e2 k2 z_cb11 (Nat.le_of_ble_eq_true rfl) rfl (s_X11_count hl9 k2 hP) rfl ⟨z_dc_X11_count, ⟨(Nat.le_of_ble_eq_true rfl), (Nat.le_of_ble_eq_true rfl)⟩, (Nat.le_of_ble_eq_true rfl)⟩ rfl zw_1226 zw_1227 zw_1228 zw_1 zw_1229 dL_count_4 z_hok_L_count (fun E M_1 hE9 hP _ x1 => ?_) (fun r_1 M_1 hP _ x1 => ?_)
  · obtain ⟨rfl, hP⟩ := hP
    · refine ⟨12, by decide, fun q_1 => ?_⟩
      refine z_astore_n (lv' := [(3, z_O _), (0, z_O _), (1, z_I _), (2, z_O _)]) dL_count_12 rfl (Nat.le_of_ble_eq_true rfl) rfl ?_
      refine z_iconst (v := 1) dL_count_13 (by decide) ?_
      refine z_pc (pc' := 14) rfl ?_
      exact z_reti rfl dL_count_14 hP
  · obtain ⟨x_1, rfl, hP⟩ := hP
    refine z_stk (st' := [z_I _, z_I _, z_O _]) rfl ?_
    have k2 := x1.k (k := 11) hT1 k2
    have f_p3 := x1.t (k := 24) hT1 f_p3
    refine z_i2l dL_count_7 ?_
    obtain ⟨a3, e3, hP⟩ := hP
    have k3 := f_p3 a3 e3
    obtain ⟨i4, hP⟩ := hP
    refine z_last e3 k3 i4 dL_count_8 ?_
    refine z_nm (fun M_5 g_5 => ?_)
    replace hP := hP M_5 g_5
    have q_5 := z_k5 g_5
    have k2 := z_kk q_5 k2
    have k3 := z_kk q_5 k3
    refine z_pc (pc' := 9) rfl ?_
    refine z_goto (tgt := 15) dL_count_9 (by decide) ?_
    refine z_iconst (v := 0) dL_count_15 (by decide) ?_
    exact z_reti rfl dL_count_16 hP
set_option maxRecDepth 100000 in
def P_L_inFlightAnew (p1 : Option Nat) (p2 : Int32) (p3 : Option Nat) (M : z_Mem) (Post : Int32 → z_Mem → Prop) : Prop := z_nn p1 fun a2 => (P_X11_inFlightAnew a2 p2 M (fun x_1 M_1 => z_nn p3 fun a3 => (vp_in 0 (z_ln M_1 a3) ∧ (∀ M_5 : z_Mem, M_5 = z_sal M_1 a3 ((0 : Int32).toNatClampNeg) ((x_1 : Int32).toInt64) → (Post 0 M_5)))) (fun E M_1 => (E = "java/lang/IndexOutOfBoundsException" ∧ Post 1 M_1)))
set_option maxRecDepth 100000 in
set_option maxHeartbeats 4000000 in
theorem s_L_inFlightAnew {G : z_G} {M : z_Mem} {p1 : Option Nat} {p2 : Int32} {p3 : Option Nat} {Post : Int32 → z_Mem → Prop} (hl9 : G.1.stackTraces = false) (f_p1 : z_tr M p1 12) (f_p3 : z_tr M p3 25) (hP : P_L_inFlightAnew p1 p2 p3 M Post) : z_MtH G Y_L_inFlightAnew hh_L_inFlightAnew M [z_O p1, z_I p2, z_O p3] (z_PI Post) := by
  refine z_ofVH (by decide) (Nat.le_of_ble_eq_true rfl) ?_
  unfold P_L_inFlightAnew at hP
  refine z_sub (lv' := [(0, z_O p1), (1, z_I p2), (2, z_O p3)]) [0, 1, 2] rfl ?_
  refine z_aload_n dL_inFlightAnew_0 rfl 2 rfl ?_
  refine z_iconst (v := 0) dL_inFlightAnew_1 (by decide) ?_
  refine z_aload_n dL_inFlightAnew_2 rfl 0 rfl ?_
  refine z_iload_n dL_inFlightAnew_3 rfl 1 rfl ?_
  obtain ⟨a2, e2, hP⟩ := hP
  have k2 := f_p1 a2 e2
  refine z_wts (fun hT1 _ => ?_)
  refine z_hV (hh := hh_L_inFlightAnew) (c := 11) (n := 1) (Y1 := Y_X11_inFlightAnew) (st := [z_I _, z_O _]) e2 k2 z_cb11 (Nat.le_of_ble_eq_true rfl) rfl (s_X11_inFlightAnew hl9 k2 hP) rfl ⟨z_dc_X11_inFlightAnew, ⟨(Nat.le_of_ble_eq_true rfl), (Nat.le_of_ble_eq_true rfl)⟩, (Nat.le_of_ble_eq_true rfl)⟩ rfl zw_1233 zw_1234 zw_1235 zw_1 zw_1236 dL_inFlightAnew_4 z_hok_L_inFlightAnew (fun E M_1 hE9 hP _ x1 => ?_) (fun r_1 M_1 hP _ x1 => ?_)
  · obtain ⟨rfl, hP⟩ := hP
    · refine ⟨12, by decide, fun q_1 => ?_⟩
      refine z_astore_n (lv' := [(3, z_O _), (0, z_O _), (1, z_I _), (2, z_O _)]) dL_inFlightAnew_12 rfl (Nat.le_of_ble_eq_true rfl) rfl ?_
      refine z_iconst (v := 1) dL_inFlightAnew_13 (by decide) ?_
      refine z_pc (pc' := 14) rfl ?_
      exact z_reti rfl dL_inFlightAnew_14 hP
  · obtain ⟨x_1, rfl, hP⟩ := hP
    refine z_stk (st' := [z_I _, z_I _, z_O _]) rfl ?_
    have k2 := x1.k (k := 11) hT1 k2
    have f_p3 := x1.t (k := 24) hT1 f_p3
    refine z_i2l dL_inFlightAnew_7 ?_
    obtain ⟨a3, e3, hP⟩ := hP
    have k3 := f_p3 a3 e3
    obtain ⟨i4, hP⟩ := hP
    refine z_last e3 k3 i4 dL_inFlightAnew_8 ?_
    refine z_nm (fun M_5 g_5 => ?_)
    replace hP := hP M_5 g_5
    have q_5 := z_k5 g_5
    have k2 := z_kk q_5 k2
    have k3 := z_kk q_5 k3
    refine z_pc (pc' := 9) rfl ?_
    refine z_goto (tgt := 15) dL_inFlightAnew_9 (by decide) ?_
    refine z_iconst (v := 0) dL_inFlightAnew_15 (by decide) ?_
    exact z_reti rfl dL_inFlightAnew_16 hP
set_option maxRecDepth 100000 in
def P_L_gotAnew (p1 : Option Nat) (p2 : Int32) (p3 : Option Nat) (M : z_Mem) (Post : Int32 → z_Mem → Prop) : Prop := z_nn p1 fun a2 => (P_X11_gotAnew a2 p2 M (fun x_1 M_1 => z_nn p3 fun a3 => (vp_in 0 (z_ln M_1 a3) ∧ (∀ M_5 : z_Mem, M_5 = z_sal M_1 a3 ((0 : Int32).toNatClampNeg) ((x_1 : Int32).toInt64) → (Post 0 M_5)))) (fun E M_1 => (E = "java/lang/IndexOutOfBoundsException" ∧ Post 1 M_1)))
set_option maxRecDepth 100000 in
set_option maxHeartbeats 4000000 in
theorem s_L_gotAnew {G : z_G} {M : z_Mem} {p1 : Option Nat} {p2 : Int32} {p3 : Option Nat} {Post : Int32 → z_Mem → Prop} (hl9 : G.1.stackTraces = false) (f_p1 : z_tr M p1 12) (f_p3 : z_tr M p3 25) (hP : P_L_gotAnew p1 p2 p3 M Post) : z_MtH G Y_L_gotAnew hh_L_gotAnew M [z_O p1, z_I p2, z_O p3] (z_PI Post) := by
  refine z_ofVH (by decide) (Nat.le_of_ble_eq_true rfl) ?_
  unfold P_L_gotAnew at hP
  refine z_sub (lv' := [(0, z_O p1), (1, z_I p2), (2, z_O p3)]) [0, 1, 2] rfl ?_
  refine z_aload_n dL_gotAnew_0 rfl 2 rfl ?_
  refine z_iconst (v := 0) dL_gotAnew_1 (by decide) ?_
  refine z_aload_n dL_gotAnew_2 rfl 0 rfl ?_
  refine z_iload_n dL_gotAnew_3 rfl 1 rfl ?_
  obtain ⟨a2, e2, hP⟩ := hP
  have k2 := f_p1 a2 e2
  refine z_wts (fun hT1 _ => ?_)
  refine z_hV (hh := hh_L_gotAnew) (c := 11) (n := 1) (Y1 := Y_X11_gotAnew) (st := [z_I _, z_O _]) e2 k2 z_cb11 (Nat.le_of_ble_eq_true rfl) rfl (s_X11_gotAnew hl9 k2 hP) rfl ⟨z_dc_X11_gotAnew, ⟨(Nat.le_of_ble_eq_true rfl), (Nat.le_of_ble_eq_true rfl)⟩, (Nat.le_of_ble_eq_true rfl)⟩ rfl zw_1240 zw_1241 zw_1242 zw_1 zw_1243 dL_gotAnew_4 z_hok_L_gotAnew (fun E M_1 hE9 hP _ x1 => ?_) (fun r_1 M_1 hP _ x1 => ?_)
  · obtain ⟨rfl, hP⟩ := hP
    · refine ⟨12, by decide, fun q_1 => ?_⟩
      refine z_astore_n (lv' := [(3, z_O _), (0, z_O _), (1, z_I _), (2, z_O _)]) dL_gotAnew_12 rfl (Nat.le_of_ble_eq_true rfl) rfl ?_
      refine z_iconst (v := 1) dL_gotAnew_13 (by decide) ?_
      refine z_pc (pc' := 14) rfl ?_
      exact z_reti rfl dL_gotAnew_14 hP
  · obtain ⟨x_1, rfl, hP⟩ := hP
    refine z_stk (st' := [z_I _, z_I _, z_O _]) rfl ?_
    have k2 := x1.k (k := 11) hT1 k2
    have f_p3 := x1.t (k := 24) hT1 f_p3
    refine z_i2l dL_gotAnew_7 ?_
    obtain ⟨a3, e3, hP⟩ := hP
    have k3 := f_p3 a3 e3
    obtain ⟨i4, hP⟩ := hP
    refine z_last e3 k3 i4 dL_gotAnew_8 ?_
    refine z_nm (fun M_5 g_5 => ?_)
    replace hP := hP M_5 g_5
    have q_5 := z_k5 g_5
    have k2 := z_kk q_5 k2
    have k3 := z_kk q_5 k3
    refine z_pc (pc' := 9) rfl ?_
    refine z_goto (tgt := 15) dL_gotAnew_9 (by decide) ?_
    refine z_iconst (v := 0) dL_gotAnew_15 (by decide) ?_
    exact z_reti rfl dL_gotAnew_16 hP
def P_L_law_1032 (L : Nat) (xs : Nat → Int32) (Post : Int32 → z_Mem → Prop) (J23 : Option Nat → Option Nat → Option Nat → Int32 → z_Mem → Prop) (x1 : Option Nat) (x2 : Option Nat) (x3 : Option Nat) (x4 : Int32) (M : z_Mem) : Prop := ∀ x_1 : Int32, x_1 = x4 + 6 → (J23 x1 x2 x3 x_1 M)
def P_L_law_281 (L : Nat) (xs : Nat → Int32) (Post : Int32 → z_Mem → Prop) (J23 : Option Nat → Option Nat → Option Nat → Int32 → z_Mem → Prop) (x1 : Option Nat) (x2 : Option Nat) (x3 : Option Nat) (x4 : Int32) (t0 : Option Nat) (t1 : Int32) (t2 : Int32) (M : z_Mem) : Prop := z_nn t0 fun a3 => (P_X12_setUp a3 t1 t2 M fun x_2 M_2 => (P_L_law_1032 L xs Post J23 x1 x2 x3 x4 M_2))
def P_L_law_254 (L : Nat) (xs : Nat → Int32) (Post : Int32 → z_Mem → Prop) (J23 : Option Nat → Option Nat → Option Nat → Int32 → z_Mem → Prop) (x1 : Option Nat) (x2 : Option Nat) (x3 : Option Nat) (x4 : Int32) (t0 : Option Nat) (t1 : Int32) (t2 : Int32) (M : z_Mem) : Prop := P_L_setUp t0 t1 t2 x3 M fun x_4 M_4 => (vp_in (x4 + 1) L ∧ (vp_in (x4 + 2) L ∧ ((((xs ((x4 + 2) : Int32).toNatClampNeg) = 0 → P_L_law_281 L xs Post J23 x1 x2 x3 x4 x2 (xs ((x4 + 1) : Int32).toNatClampNeg) 0 M_4) ∧ (¬ (xs ((x4 + 2) : Int32).toNatClampNeg) = 0 → P_L_law_281 L xs Post J23 x1 x2 x3 x4 x2 (xs ((x4 + 1) : Int32).toNatClampNeg) 1 M_4)))))
def P_L_law_342 (L : Nat) (xs : Nat → Int32) (Post : Int32 → z_Mem → Prop) (J23 : Option Nat → Option Nat → Option Nat → Int32 → z_Mem → Prop) (x1 : Option Nat) (x2 : Option Nat) (x3 : Option Nat) (x4 : Int32) (x5 : Int32) (t0 : Option Nat) (t1 : Int32) (t2 : Int32) (M : z_Mem) : Prop := vp_in (x4 + 3) L ∧ (z_nn t0 fun a10 => (P_X12_lose a10 t1 t2 (xs ((x4 + 3) : Int32).toNatClampNeg) M fun M_9 => (z_nn x2 fun a12 => (P_X12_thrown a12 M_9 fun x_11 M_11 => (((x_11 = x5 → P_L_law_1032 L xs Post J23 x1 x2 x3 x4 M_11) ∧ (¬ x_11 = x5 → Post 0 M_11)))))))
def P_L_law_310 (L : Nat) (xs : Nat → Int32) (Post : Int32 → z_Mem → Prop) (J23 : Option Nat → Option Nat → Option Nat → Int32 → z_Mem → Prop) (x1 : Option Nat) (x2 : Option Nat) (x3 : Option Nat) (x4 : Int32) (t0 : Option Nat) (t1 : Int32) (t2 : Int32) (M : z_Mem) : Prop := vp_in (x4 + 3) L ∧ (P_L_lose t0 t1 t2 (xs ((x4 + 3) : Int32).toNatClampNeg) M fun x_15 M_15 => (vp_in (x4 + 1) L ∧ (vp_in (x4 + 2) L ∧ ((((xs ((x4 + 2) : Int32).toNatClampNeg) = 0 → P_L_law_342 L xs Post J23 x1 x2 x3 x4 x_15 x2 (xs ((x4 + 1) : Int32).toNatClampNeg) 0 M_15) ∧ (¬ (xs ((x4 + 2) : Int32).toNatClampNeg) = 0 → P_L_law_342 L xs Post J23 x1 x2 x3 x4 x_15 x2 (xs ((x4 + 1) : Int32).toNatClampNeg) 1 M_15))))))
def P_L_law_488 (L : Nat) (xs : Nat → Int32) (Post : Int32 → z_Mem → Prop) (J23 : Option Nat → Option Nat → Option Nat → Int32 → z_Mem → Prop) (x1 : Option Nat) (x2 : Option Nat) (x3 : Option Nat) (x4 : Int32) (t0 : Option Nat) (t1 : Int32) (M : z_Mem) : Prop := z_nn t0 fun a20 => (P_X12_setCookies a20 t1 M fun x_19 M_19 => (P_L_law_1032 L xs Post J23 x1 x2 x3 x4 M_19))
def P_L_law_469 (L : Nat) (xs : Nat → Int32) (Post : Int32 → z_Mem → Prop) (J23 : Option Nat → Option Nat → Option Nat → Int32 → z_Mem → Prop) (x1 : Option Nat) (x2 : Option Nat) (x3 : Option Nat) (x4 : Int32) (t0 : Option Nat) (t1 : Int32) (M : z_Mem) : Prop := z_nn t0 fun a22 => (P_X11_setCookies a22 t1 M fun x_21 M_21 => (vp_in (x4 + 1) L ∧ ((((xs ((x4 + 1) : Int32).toNatClampNeg) = 0 → P_L_law_488 L xs Post J23 x1 x2 x3 x4 x2 0 M_21) ∧ (¬ (xs ((x4 + 1) : Int32).toNatClampNeg) = 0 → P_L_law_488 L xs Post J23 x1 x2 x3 x4 x2 1 M_21)))))
set_option maxRecDepth 100000 in
def P_L_law_23 (L : Nat) (xs : Nat → Int32) (Post : Int32 → z_Mem → Prop)  : Nat → Option Nat → Option Nat → Option Nat → Int32 → z_Mem → Prop
  | 0, _, _, _, _, _ => False
  | n + 1, x1, x2, x3, x4, M => ((((nI L) - 6) < x4 → Post 1 M) ∧ (¬ ((nI L) - 6) < x4 → vp_in x4 L ∧ (((((xs (x4 : Int32).toNatClampNeg) &&& 31) = nI 0 → vp_in (x4 + 1) L ∧ (vp_in (x4 + 2) L ∧ (vp_in (x4 + 3) L ∧ (vp_in (x4 + 4) L ∧ (vp_in (x4 + 5) L ∧ (P_L_setPath x1 (xs ((x4 + 1) : Int32).toNatClampNeg) (xs ((x4 + 2) : Int32).toNatClampNeg) (xs ((x4 + 3) : Int32).toNatClampNeg) (xs ((x4 + 4) : Int32).toNatClampNeg) (xs ((x4 + 5) : Int32).toNatClampNeg) M fun x_33 M_33 => (vp_in (x4 + 1) L ∧ (vp_in (x4 + 2) L ∧ (vp_in (x4 + 3) L ∧ (vp_in (x4 + 4) L ∧ (vp_in (x4 + 5) L ∧ (z_nn x2 fun a40 => (P_X12_setPath a40 (xs ((x4 + 1) : Int32).toNatClampNeg) (xs ((x4 + 2) : Int32).toNatClampNeg) (xs ((x4 + 3) : Int32).toNatClampNeg) (xs ((x4 + 4) : Int32).toNatClampNeg) (xs ((x4 + 5) : Int32).toNatClampNeg) M_33 fun M_39 => (P_L_law_1032 L xs Post (fun q0 q1 q2 q3 qM => P_L_law_23 L xs Post n q0 q1 q2 q3 qM) x1 x2 x3 x4 M_39)))))))))))))) ∧ (((xs (x4 : Int32).toNatClampNeg) &&& 31) = nI 1 → vp_in (x4 + 1) L ∧ (vp_in (x4 + 2) L ∧ ((((xs ((x4 + 2) : Int32).toNatClampNeg) = 0 → P_L_law_254 L xs Post (fun q0 q1 q2 q3 qM => P_L_law_23 L xs Post n q0 q1 q2 q3 qM) x1 x2 x3 x4 x1 (xs ((x4 + 1) : Int32).toNatClampNeg) 0 M) ∧ (¬ (xs ((x4 + 2) : Int32).toNatClampNeg) = 0 → P_L_law_254 L xs Post (fun q0 q1 q2 q3 qM => P_L_law_23 L xs Post n q0 q1 q2 q3 qM) x1 x2 x3 x4 x1 (xs ((x4 + 1) : Int32).toNatClampNeg) 1 M))))) ∧ (((xs (x4 : Int32).toNatClampNeg) &&& 31) = nI 2 → vp_in (x4 + 1) L ∧ (vp_in (x4 + 2) L ∧ ((((xs ((x4 + 2) : Int32).toNatClampNeg) = 0 → P_L_law_310 L xs Post (fun q0 q1 q2 q3 qM => P_L_law_23 L xs Post n q0 q1 q2 q3 qM) x1 x2 x3 x4 x1 (xs ((x4 + 1) : Int32).toNatClampNeg) 0 M) ∧ (¬ (xs ((x4 + 2) : Int32).toNatClampNeg) = 0 → P_L_law_310 L xs Post (fun q0 q1 q2 q3 qM => P_L_law_23 L xs Post n q0 q1 q2 q3 qM) x1 x2 x3 x4 x1 (xs ((x4 + 1) : Int32).toNatClampNeg) 1 M))))) ∧ (((xs (x4 : Int32).toNatClampNeg) &&& 31) = nI 3 → vp_in (x4 + 1) L ∧ (vp_in (x4 + 2) L ∧ (vp_in (x4 + 3) L ∧ (P_L_late x1 (xs ((x4 + 1) : Int32).toNatClampNeg) (xs ((x4 + 2) : Int32).toNatClampNeg) (xs ((x4 + 3) : Int32).toNatClampNeg) M fun x_50 M_50 => (vp_in (x4 + 1) L ∧ (vp_in (x4 + 2) L ∧ (vp_in (x4 + 3) L ∧ (z_nn x2 fun a55 => (P_X12_late a55 (xs ((x4 + 1) : Int32).toNatClampNeg) (xs ((x4 + 2) : Int32).toNatClampNeg) (xs ((x4 + 3) : Int32).toNatClampNeg) M_50 fun M_54 => (P_L_law_1032 L xs Post (fun q0 q1 q2 q3 qM => P_L_law_23 L xs Post n q0 q1 q2 q3 qM) x1 x2 x3 x4 M_54)))))))))) ∧ (((xs (x4 : Int32).toNatClampNeg) &&& 31) = nI 4 → vp_in (x4 + 1) L ∧ (vp_in (x4 + 2) L ∧ (P_L_foreign x1 (xs ((x4 + 1) : Int32).toNatClampNeg) (xs ((x4 + 2) : Int32).toNatClampNeg) x3 M fun x_58 M_58 => (vp_in (x4 + 1) L ∧ (vp_in (x4 + 2) L ∧ (z_nn x2 fun a62 => (P_X12_foreign a62 (xs ((x4 + 1) : Int32).toNatClampNeg) (xs ((x4 + 2) : Int32).toNatClampNeg) M_58 fun x_61 M_61 => (P_L_law_1032 L xs Post (fun q0 q1 q2 q3 qM => P_L_law_23 L xs Post n q0 q1 q2 q3 qM) x1 x2 x3 x4 M_61)))))))) ∧ (((xs (x4 : Int32).toNatClampNeg) &&& 31) = nI 5 → vp_in (x4 + 1) L ∧ ((((xs ((x4 + 1) : Int32).toNatClampNeg) = 0 → P_L_law_469 L xs Post (fun q0 q1 q2 q3 qM => P_L_law_23 L xs Post n q0 q1 q2 q3 qM) x1 x2 x3 x4 x1 0 M) ∧ (¬ (xs ((x4 + 1) : Int32).toNatClampNeg) = 0 → P_L_law_469 L xs Post (fun q0 q1 q2 q3 qM => P_L_law_23 L xs Post n q0 q1 q2 q3 qM) x1 x2 x3 x4 x1 1 M)))) ∧ (((xs (x4 : Int32).toNatClampNeg) &&& 31) = nI 6 → vp_in (x4 + 1) L ∧ (vp_in (x4 + 2) L ∧ (P_L_read x1 (xs ((x4 + 1) : Int32).toNatClampNeg) (xs ((x4 + 2) : Int32).toNatClampNeg) x3 M fun x_67 M_67 => (vp_in (x4 + 1) L ∧ (vp_in (x4 + 2) L ∧ (z_nn x2 fun a71 => (P_X12_read a71 (xs ((x4 + 1) : Int32).toNatClampNeg) (xs ((x4 + 2) : Int32).toNatClampNeg) M_67 fun x_70 M_70 => (P_L_law_1032 L xs Post (fun q0 q1 q2 q3 qM => P_L_law_23 L xs Post n q0 q1 q2 q3 qM) x1 x2 x3 x4 M_70)))))))) ∧ (((xs (x4 : Int32).toNatClampNeg) &&& 31) = nI 7 → z_nn x1 fun a73 => (P_X11_loseState a73 M fun M_72 => (z_nn x2 fun a75 => (P_X12_loseState a75 M_72 fun M_74 => (P_L_law_1032 L xs Post (fun q0 q1 q2 q3 qM => P_L_law_23 L xs Post n q0 q1 q2 q3 qM) x1 x2 x3 x4 M_74))))) ∧ (((xs (x4 : Int32).toNatClampNeg) &&& 31) = nI 8 → vp_in (x4 + 1) L ∧ (P_L_connect x1 (xs ((x4 + 1) : Int32).toNatClampNeg) M fun x_77 M_77 => (vp_in (x4 + 1) L ∧ (z_nn x2 fun a80 => (P_X12_connect a80 (xs ((x4 + 1) : Int32).toNatClampNeg) M_77 fun M_79 => (P_L_law_1032 L xs Post (fun q0 q1 q2 q3 qM => P_L_law_23 L xs Post n q0 q1 q2 q3 qM) x1 x2 x3 x4 M_79)))))) ∧ (((xs (x4 : Int32).toNatClampNeg) &&& 31) = nI 9 → vp_in (x4 + 1) L ∧ (vp_in (x4 + 2) L ∧ (P_L_write x1 (xs ((x4 + 1) : Int32).toNatClampNeg) (xs ((x4 + 2) : Int32).toNatClampNeg) x3 M fun x_83 M_83 => (vp_in (x4 + 1) L ∧ (vp_in (x4 + 2) L ∧ (z_nn x2 fun a87 => (P_X12_write a87 (xs ((x4 + 1) : Int32).toNatClampNeg) (xs ((x4 + 2) : Int32).toNatClampNeg) M_83 fun x_86 M_86 => (P_L_law_1032 L xs Post (fun q0 q1 q2 q3 qM => P_L_law_23 L xs Post n q0 q1 q2 q3 qM) x1 x2 x3 x4 M_86)))))))) ∧ (((xs (x4 : Int32).toNatClampNeg) &&& 31) = nI 10 → vp_in (x4 + 1) L ∧ (vp_in (x4 + 2) L ∧ (P_L_setWay x1 (xs ((x4 + 1) : Int32).toNatClampNeg) (xs ((x4 + 2) : Int32).toNatClampNeg) x3 M fun x_90 M_90 => (vp_in (x4 + 1) L ∧ (vp_in (x4 + 2) L ∧ (z_nn x2 fun a94 => (P_X12_setWay a94 (xs ((x4 + 1) : Int32).toNatClampNeg) (xs ((x4 + 2) : Int32).toNatClampNeg) M_90 fun x_93 M_93 => (P_L_law_1032 L xs Post (fun q0 q1 q2 q3 qM => P_L_law_23 L xs Post n q0 q1 q2 q3 qM) x1 x2 x3 x4 M_93)))))))) ∧ (((xs (x4 : Int32).toNatClampNeg) &&& 31) = nI 11 → vp_in (x4 + 1) L ∧ (P_L_check x1 (xs ((x4 + 1) : Int32).toNatClampNeg) M fun x_96 M_96 => (vp_in (x4 + 1) L ∧ (z_nn x2 fun a99 => (P_X12_check a99 (xs ((x4 + 1) : Int32).toNatClampNeg) M_96 fun M_98 => (P_L_law_1032 L xs Post (fun q0 q1 q2 q3 qM => P_L_law_23 L xs Post n q0 q1 q2 q3 qM) x1 x2 x3 x4 M_98)))))) ∧ (((xs (x4 : Int32).toNatClampNeg) &&& 31) = nI 12 → vp_in (x4 + 1) L ∧ (P_L_use x1 (xs ((x4 + 1) : Int32).toNatClampNeg) x3 M fun x_101 M_101 => (vp_in (x4 + 1) L ∧ (z_nn x2 fun a104 => (P_X12_use a104 (xs ((x4 + 1) : Int32).toNatClampNeg) M_101 fun x_103 M_103 => (P_L_law_1032 L xs Post (fun q0 q1 q2 q3 qM => P_L_law_23 L xs Post n q0 q1 q2 q3 qM) x1 x2 x3 x4 M_103)))))) ∧ (((xs (x4 : Int32).toNatClampNeg) &&& 31) = nI 13 → P_L_changeKey x1 x3 M fun x_105 M_105 => (z_nn x2 fun a107 => (P_X12_changeKey a107 M_105 fun x_106 M_106 => (P_L_law_1032 L xs Post (fun q0 q1 q2 q3 qM => P_L_law_23 L xs Post n q0 q1 q2 q3 qM) x1 x2 x3 x4 M_106)))) ∧ (((xs (x4 : Int32).toNatClampNeg) &&& 31) = nI 14 → P_L_close x1 M fun x_108 M_108 => (z_nn x2 fun a110 => (P_X12_close a110 M_108 fun M_109 => (P_L_law_1032 L xs Post (fun q0 q1 q2 q3 qM => P_L_law_23 L xs Post n q0 q1 q2 q3 qM) x1 x2 x3 x4 M_109)))) ∧ (((xs (x4 : Int32).toNatClampNeg) &&& 31) = nI 15 → vp_in (x4 + 1) L ∧ (P_L_tick x1 (xs ((x4 + 1) : Int32).toNatClampNeg) x3 M fun x_112 M_112 => (vp_in (x4 + 1) L ∧ (z_nn x2 fun a115 => (P_X12_tick a115 (xs ((x4 + 1) : Int32).toNatClampNeg) M_112 fun x_114 M_114 => (P_L_law_1032 L xs Post (fun q0 q1 q2 q3 qM => P_L_law_23 L xs Post n q0 q1 q2 q3 qM) x1 x2 x3 x4 M_114)))))) ∧ (((xs (x4 : Int32).toNatClampNeg) &&& 31) = nI 16 → z_nn x1 fun a117 => (P_X11_now a117 M fun x_116 M_116 => (z_nn x2 fun a119 => (P_X12_now a119 M_116 fun x_118 M_118 => (P_L_law_1032 L xs Post (fun q0 q1 q2 q3 qM => P_L_law_23 L xs Post n q0 q1 q2 q3 qM) x1 x2 x3 x4 M_118))))) ∧ (((xs (x4 : Int32).toNatClampNeg) &&& 31) = nI 17 → vp_in (x4 + 1) L ∧ (P_L_state x1 (xs ((x4 + 1) : Int32).toNatClampNeg) x3 M fun x_121 M_121 => (vp_in (x4 + 1) L ∧ (z_nn x2 fun a124 => (P_X12_state a124 (xs ((x4 + 1) : Int32).toNatClampNeg) M_121 fun x_123 M_123 => (P_L_law_1032 L xs Post (fun q0 q1 q2 q3 qM => P_L_law_23 L xs Post n q0 q1 q2 q3 qM) x1 x2 x3 x4 M_123)))))) ∧ (((xs (x4 : Int32).toNatClampNeg) &&& 31) = nI 18 → vp_in (x4 + 1) L ∧ (vp_in (x4 + 2) L ∧ (P_L_path x1 (xs ((x4 + 1) : Int32).toNatClampNeg) (xs ((x4 + 2) : Int32).toNatClampNeg) x3 M fun x_127 M_127 => (vp_in (x4 + 1) L ∧ (vp_in (x4 + 2) L ∧ (z_nn x2 fun a131 => (P_X12_path a131 (xs ((x4 + 1) : Int32).toNatClampNeg) (xs ((x4 + 2) : Int32).toNatClampNeg) M_127 fun x_130 M_130 => (P_L_law_1032 L xs Post (fun q0 q1 q2 q3 qM => P_L_law_23 L xs Post n q0 q1 q2 q3 qM) x1 x2 x3 x4 M_130)))))))) ∧ (((xs (x4 : Int32).toNatClampNeg) &&& 31) = nI 19 → vp_in (x4 + 1) L ∧ (vp_in (x4 + 2) L ∧ (P_L_stream x1 (xs ((x4 + 1) : Int32).toNatClampNeg) (xs ((x4 + 2) : Int32).toNatClampNeg) x3 M fun x_134 M_134 => (vp_in (x4 + 1) L ∧ (vp_in (x4 + 2) L ∧ (z_nn x2 fun a138 => (P_X12_stream a138 (xs ((x4 + 1) : Int32).toNatClampNeg) (xs ((x4 + 2) : Int32).toNatClampNeg) M_134 fun x_137 M_137 => (P_L_law_1032 L xs Post (fun q0 q1 q2 q3 qM => P_L_law_23 L xs Post n q0 q1 q2 q3 qM) x1 x2 x3 x4 M_137)))))))) ∧ (((xs (x4 : Int32).toNatClampNeg) &&& 31) = nI 20 → z_nn x1 fun a140 => (P_X11_credit a140 M fun x_139 M_139 => (z_nn x2 fun a142 => (P_X12_credit a142 M_139 fun x_141 M_141 => (P_L_law_1032 L xs Post (fun q0 q1 q2 q3 qM => P_L_law_23 L xs Post n q0 q1 q2 q3 qM) x1 x2 x3 x4 M_141))))) ∧ (((xs (x4 : Int32).toNatClampNeg) &&& 31) = nI 21 → z_nn x1 fun a144 => (P_X11_packets a144 M fun x_143 M_143 => (z_nn x2 fun a146 => (P_X12_packets a146 M_143 fun x_145 M_145 => (P_L_law_1032 L xs Post (fun q0 q1 q2 q3 qM => P_L_law_23 L xs Post n q0 q1 q2 q3 qM) x1 x2 x3 x4 M_145))))) ∧ (((xs (x4 : Int32).toNatClampNeg) &&& 31) = nI 22 → vp_in (x4 + 1) L ∧ (vp_in (x4 + 2) L ∧ (P_L_packet x1 (xs ((x4 + 1) : Int32).toNatClampNeg) (xs ((x4 + 2) : Int32).toNatClampNeg) x3 M fun x_149 M_149 => (vp_in (x4 + 1) L ∧ (vp_in (x4 + 2) L ∧ (z_nn x2 fun a153 => (P_X12_packet a153 (xs ((x4 + 1) : Int32).toNatClampNeg) (xs ((x4 + 2) : Int32).toNatClampNeg) M_149 fun x_152 M_152 => (P_L_law_1032 L xs Post (fun q0 q1 q2 q3 qM => P_L_law_23 L xs Post n q0 q1 q2 q3 qM) x1 x2 x3 x4 M_152)))))))) ∧ (((xs (x4 : Int32).toNatClampNeg) &&& 31) = nI 23 → vp_in (x4 + 1) L ∧ (P_L_count x1 (xs ((x4 + 1) : Int32).toNatClampNeg) x3 M fun x_155 M_155 => (vp_in (x4 + 1) L ∧ (z_nn x2 fun a158 => (P_X12_count a158 (xs ((x4 + 1) : Int32).toNatClampNeg) M_155 fun x_157 M_157 => (P_L_law_1032 L xs Post (fun q0 q1 q2 q3 qM => P_L_law_23 L xs Post n q0 q1 q2 q3 qM) x1 x2 x3 x4 M_157)))))) ∧ (((xs (x4 : Int32).toNatClampNeg) &&& 31) = nI 24 → vp_in (x4 + 1) L ∧ (P_L_inFlightAnew x1 (xs ((x4 + 1) : Int32).toNatClampNeg) x3 M fun x_160 M_160 => (vp_in (x4 + 1) L ∧ (z_nn x2 fun a163 => (P_X12_inFlightAnew a163 (xs ((x4 + 1) : Int32).toNatClampNeg) M_160 fun x_162 M_162 => (P_L_law_1032 L xs Post (fun q0 q1 q2 q3 qM => P_L_law_23 L xs Post n q0 q1 q2 q3 qM) x1 x2 x3 x4 M_162)))))) ∧ (((xs (x4 : Int32).toNatClampNeg) &&& 31) = nI 25 → vp_in (x4 + 1) L ∧ (P_L_gotAnew x1 (xs ((x4 + 1) : Int32).toNatClampNeg) x3 M fun x_165 M_165 => (vp_in (x4 + 1) L ∧ (z_nn x2 fun a168 => (P_X12_gotAnew a168 (xs ((x4 + 1) : Int32).toNatClampNeg) M_165 fun x_167 M_167 => (P_L_law_1032 L xs Post (fun q0 q1 q2 q3 qM => P_L_law_23 L xs Post n q0 q1 q2 q3 qM) x1 x2 x3 x4 M_167)))))) ∧ (((xs (x4 : Int32).toNatClampNeg) &&& 31) < 0 ∨ nI 25 < ((xs (x4 : Int32).toNatClampNeg) &&& 31) → P_L_law_1032 L xs Post (fun q0 q1 q2 q3 qM => P_L_law_23 L xs Post n q0 q1 q2 q3 qM) x1 x2 x3 x4 M)))))
set_option maxRecDepth 100000 in
def P_L_law (L : Nat) (xs : Nat → Int32) (M : z_Mem) (Post : Int32 → z_Mem → Prop) : Prop := z_room M 5 ∧ (∀ M_170 : z_Mem, M_170 = z_new M 12 5 → (P_X11_init (z_sz M) M_170 fun M_171 => (z_room M_171 95 ∧ (∀ M_173 : z_Mem, M_173 = z_new M_171 13 95 → (P_X12_init (z_sz M_171) M_173 fun M_174 => (z_room M_174 1 ∧ (∀ M_176 : z_Mem, M_176 = z_nwa M_174 25 1 → ((∃ n177 : Nat, P_L_law_23 L xs Post n177 (some (z_sz M)) (some (z_sz M_171)) (some (z_sz M_174)) 0 M_176)))))))))
set_option maxRecDepth 100000 in
set_option maxHeartbeats 4000000 in
theorem v_L_law_1032 {G : z_G} {M0 : z_Mem} {a L : Nat} {xs : Nat → Int32} {Post : Int32 → z_Mem → Prop} (hl9 : G.1.stackTraces = false) (hkb : z_ki M0 a = 0) {J23 : Option Nat → Option Nat → Option Nat → Int32 → z_Mem → Prop} (hJ23 : ∀ (x1 : Option Nat) (x2 : Option Nat) (x3 : Option Nat) (x4 : Int32) (M : z_Mem), (z_tr M x1 12) → (z_tr M x2 13) → (z_tr M x3 25) → J23 x1 x2 x3 x4 M → z_V G Y_L_law (z_XL a L xs) M0 (z_QM G M0 (z_PB Post)) M 23 [(0, z_O (some a)), (1, z_O x1), (2, z_O x2), (3, z_O x3), (4, z_I x4)] []) {x1 : Option Nat} {x2 : Option Nat} {x3 : Option Nat} {x4 : Int32} {M : z_Mem} (f_x1 : z_tr M x1 12) (f_x2 : z_tr M x2 13) (f_x3 : z_tr M x3 25) (hP : P_L_law_1032 L xs Post J23 x1 x2 x3 x4 M) : z_V G Y_L_law (z_XL a L xs) M0 (z_QM G M0 (z_PB Post)) M 1032 [(0, z_O (some a)), (1, z_O x1), (2, z_O x2), (3, z_O x3), (4, z_I x4)] [] := by
  unfold P_L_law_1032 at hP
  refine z_iincN (j := 4) (m := 6) (lv' := fun v => [(4, z_I v), (0, z_O _), (1, z_O _), (2, z_O _), (3, z_O _)]) dL_law_1032 rfl (by decide) (Nat.le_of_ble_eq_true rfl) (fun _ => rfl) (fun x_1 y_1 => ?_)
  replace hP := hP x_1 y_1
  refine z_goto (tgt := 23) dL_law_1035 (by decide) ?_
  refine z_sub (lv' := [(0, z_O _), (1, z_O _), (2, z_O _), (3, z_O _), (4, z_I _)]) [1, 2, 3, 4, 0] rfl ?_
  exact hJ23 _ _ _ _ _ f_x1 f_x2 f_x3 hP
set_option maxRecDepth 100000 in
set_option maxHeartbeats 4000000 in
theorem v_L_law_281 {G : z_G} {M0 : z_Mem} {a L : Nat} {xs : Nat → Int32} {Post : Int32 → z_Mem → Prop} (hl9 : G.1.stackTraces = false) (hkb : z_ki M0 a = 0) {J23 : Option Nat → Option Nat → Option Nat → Int32 → z_Mem → Prop} (hJ23 : ∀ (x1 : Option Nat) (x2 : Option Nat) (x3 : Option Nat) (x4 : Int32) (M : z_Mem), (z_tr M x1 12) → (z_tr M x2 13) → (z_tr M x3 25) → J23 x1 x2 x3 x4 M → z_V G Y_L_law (z_XL a L xs) M0 (z_QM G M0 (z_PB Post)) M 23 [(0, z_O (some a)), (1, z_O x1), (2, z_O x2), (3, z_O x3), (4, z_I x4)] []) {x1 : Option Nat} {x2 : Option Nat} {x3 : Option Nat} {x4 : Int32} {t0 : Option Nat} {t1 : Int32} {t2 : Int32} {M : z_Mem} (f_x1 : z_tr M x1 12) (f_x2 : z_tr M x2 13) (f_x3 : z_tr M x3 25) (f_t0 : z_tr M t0 13) (f_t2 : t2 = 0 ∨ t2 = 1) (hP : P_L_law_281 L xs Post J23 x1 x2 x3 x4 t0 t1 t2 M) : z_V G Y_L_law (z_XL a L xs) M0 (z_QM G M0 (z_PB Post)) M 281 [(0, z_O (some a)), (1, z_O x1), (2, z_O x2), (3, z_O x3), (4, z_I x4)] [z_I t2, z_I t1, z_O t0] := by
  unfold P_L_law_281 at hP
  obtain ⟨a3, e3, hP⟩ := hP
  have k3 := f_t0 a3 e3
  refine z_wts (fun hT2 _ => ?_)
  refine z_cVb (c := 12) (n := 2) (Y1 := Y_X12_setUp) (st := []) e3 k3 z_cb12 (Nat.le_of_ble_eq_true rfl) rfl (s_X12_setUp k3 f_t2 hP) rfl ⟨z_dc_X12_setUp, ⟨(Nat.le_of_ble_eq_true rfl), (Nat.le_of_ble_eq_true rfl)⟩, (Nat.le_of_ble_eq_true rfl)⟩ rfl zw_1559 zw_1560 zw_1561 zw_12 zw_1562 dL_law_281 (fun x_2 M_2 b2 hP _ x2 => ?_)
  have f_x1 := x2.t (k := 11) hT2 f_x1
  have f_x2 := x2.t (k := 12) hT2 f_x2
  have f_x3 := x2.t (k := 24) hT2 f_x3
  refine z_istore (lv' := [(6, z_I _), (0, z_O _), (1, z_O _), (2, z_O _), (3, z_O _), (4, z_I _)]) dL_law_284 (Nat.le_of_ble_eq_true rfl) rfl ?_
  refine z_goto (tgt := 1032) dL_law_286 (by decide) ?_
  refine z_sub (lv' := [(0, z_O _), (1, z_O _), (2, z_O _), (3, z_O _), (4, z_I _)]) [1, 2, 3, 4, 5] rfl ?_
  exact v_L_law_1032 hl9 hkb hJ23 f_x1 f_x2 f_x3 hP
set_option maxRecDepth 100000 in
set_option maxHeartbeats 4000000 in
theorem v_L_law_254 {G : z_G} {M0 : z_Mem} {a L : Nat} {xs : Nat → Int32} {Post : Int32 → z_Mem → Prop} (hl9 : G.1.stackTraces = false) (hkb : z_ki M0 a = 0) {J23 : Option Nat → Option Nat → Option Nat → Int32 → z_Mem → Prop} (hJ23 : ∀ (x1 : Option Nat) (x2 : Option Nat) (x3 : Option Nat) (x4 : Int32) (M : z_Mem), (z_tr M x1 12) → (z_tr M x2 13) → (z_tr M x3 25) → J23 x1 x2 x3 x4 M → z_V G Y_L_law (z_XL a L xs) M0 (z_QM G M0 (z_PB Post)) M 23 [(0, z_O (some a)), (1, z_O x1), (2, z_O x2), (3, z_O x3), (4, z_I x4)] []) {x1 : Option Nat} {x2 : Option Nat} {x3 : Option Nat} {x4 : Int32} {t0 : Option Nat} {t1 : Int32} {t2 : Int32} {M : z_Mem} (f_x1 : z_tr M x1 12) (f_x2 : z_tr M x2 13) (f_x3 : z_tr M x3 25) (f_t0 : z_tr M t0 12) (f_t2 : t2 = 0 ∨ t2 = 1) (hP : P_L_law_254 L xs Post J23 x1 x2 x3 x4 t0 t1 t2 M) : z_V G Y_L_law (z_XL a L xs) M0 (z_QM G M0 (z_PB Post)) M 254 [(0, z_O (some a)), (1, z_O x1), (2, z_O x2), (3, z_O x3), (4, z_I x4)] [z_I t2, z_I t1, z_O t0] := by
  unfold P_L_law_254 at hP
  refine z_aload_n dL_law_254 rfl 3 rfl ?_
  refine z_wts (fun hT4 _ => ?_)
  refine z_cSHi (hh := hh_L_setUp) (n := 4) (Y1 := Y_L_setUp) (st := []) rfl (s_L_setUp hl9 f_t0 f_t2 f_x3 hP) rfl ⟨z_dc_L_setUp, ⟨(Nat.le_of_ble_eq_true rfl), (Nat.le_of_ble_eq_true rfl)⟩, (Nat.le_of_ble_eq_true rfl)⟩ rfl zw_635 zw_636 zw_0 zh_L_setUp dL_law_255 (fun x_4 M_4 hP _ x4 => ?_)
  have f_x1 := x4.t (k := 11) hT4 f_x1
  have f_x2 := x4.t (k := 12) hT4 f_x2
  have f_x3 := x4.t (k := 24) hT4 f_x3
  refine z_istore (lv' := [(5, z_I _), (0, z_O _), (1, z_O _), (2, z_O _), (3, z_O _), (4, z_I _)]) dL_law_258 (Nat.le_of_ble_eq_true rfl) rfl ?_
  refine z_aload_n dL_law_260 rfl 3 rfl ?_
  refine z_aload_n dL_law_261 rfl 1 rfl ?_
  refine z_iload dL_law_262 5 rfl ?_
  refine z_pc (pc' := 264) rfl ?_
  refine z_iconst (v := 1) dL_law_264 (by decide) ?_
  refine z_iadd dL_law_265 ?_
  obtain ⟨i5, hP⟩ := hP
  refine z_sld hkb i5 dL_law_266 ?_
  refine z_aload_n dL_law_267 rfl 1 rfl ?_
  refine z_iload dL_law_268 5 rfl ?_
  refine z_iconst (v := 2) dL_law_270 (by decide) ?_
  refine z_pc (pc' := 271) rfl ?_
  refine z_iadd dL_law_271 ?_
  obtain ⟨i6, hP⟩ := hP
  refine z_sld hkb i6 dL_law_272 ?_
  refine z_if_eq (tgt := 280) dL_law_273 (by decide) (fun h7 => ?_) (fun h7 => ?_)
  · replace hP := hP.1 h7
    refine z_iconst (v := 0) dL_law_280 (by decide) ?_
    refine z_sub (lv' := [(0, z_O _), (1, z_O _), (2, z_O _), (3, z_O _), (4, z_I _)]) [1, 2, 3, 4, 5] rfl ?_
    exact v_L_law_281 hl9 hkb hJ23 f_x1 f_x2 f_x3 f_x2 (Or.inl rfl) hP
  · replace hP := hP.2 h7
    refine z_iconst (v := 1) dL_law_276 (by decide) ?_
    refine z_goto (tgt := 281) dL_law_277 (by decide) ?_
    refine z_sub (lv' := [(0, z_O _), (1, z_O _), (2, z_O _), (3, z_O _), (4, z_I _)]) [1, 2, 3, 4, 5] rfl ?_
    exact v_L_law_281 hl9 hkb hJ23 f_x1 f_x2 f_x3 f_x2 (Or.inr rfl) hP
set_option maxRecDepth 100000 in
set_option maxHeartbeats 4000000 in
theorem v_L_law_342 {G : z_G} {M0 : z_Mem} {a L : Nat} {xs : Nat → Int32} {Post : Int32 → z_Mem → Prop} (hl9 : G.1.stackTraces = false) (hkb : z_ki M0 a = 0) {J23 : Option Nat → Option Nat → Option Nat → Int32 → z_Mem → Prop} (hJ23 : ∀ (x1 : Option Nat) (x2 : Option Nat) (x3 : Option Nat) (x4 : Int32) (M : z_Mem), (z_tr M x1 12) → (z_tr M x2 13) → (z_tr M x3 25) → J23 x1 x2 x3 x4 M → z_V G Y_L_law (z_XL a L xs) M0 (z_QM G M0 (z_PB Post)) M 23 [(0, z_O (some a)), (1, z_O x1), (2, z_O x2), (3, z_O x3), (4, z_I x4)] []) {x1 : Option Nat} {x2 : Option Nat} {x3 : Option Nat} {x4 : Int32} {x5 : Int32} {t0 : Option Nat} {t1 : Int32} {t2 : Int32} {M : z_Mem} (f_x1 : z_tr M x1 12) (f_x2 : z_tr M x2 13) (f_x3 : z_tr M x3 25) (f_t0 : z_tr M t0 13) (f_t2 : t2 = 0 ∨ t2 = 1) (hP : P_L_law_342 L xs Post J23 x1 x2 x3 x4 x5 t0 t1 t2 M) : z_V G Y_L_law (z_XL a L xs) M0 (z_QM G M0 (z_PB Post)) M 342 [(0, z_O (some a)), (1, z_O x1), (2, z_O x2), (3, z_O x3), (4, z_I x4), (5, z_I x5)] [z_I t2, z_I t1, z_O t0] := by
  unfold P_L_law_342 at hP
  refine z_aload_n dL_law_342 rfl 0 rfl ?_
  refine z_iload dL_law_343 4 rfl ?_
  refine z_iconst (v := 3) dL_law_345 (by decide) ?_
  refine z_iadd dL_law_346 ?_
  obtain ⟨i8, hP⟩ := hP
  refine z_sld hkb i8 dL_law_347 ?_
  obtain ⟨a10, e10, hP⟩ := hP
  have k10 := f_t0 a10 e10
  refine z_wts (fun hT9 _ => ?_)
  refine z_cVv (c := 12) (n := 3) (Y1 := Y_X12_lose) (st := []) e10 k10 z_cb12 (Nat.le_of_ble_eq_true rfl) rfl (s_X12_lose k10 f_t2 hP) rfl ⟨z_dc_X12_lose, ⟨(Nat.le_of_ble_eq_true rfl), (Nat.le_of_ble_eq_true rfl)⟩, (Nat.le_of_ble_eq_true rfl)⟩ rfl zw_1563 zw_1564 zw_1565 zw_12 zw_1566 dL_law_348 (fun M_9 hP _ x9 => ?_)
  have f_x1 := x9.t (k := 11) hT9 f_x1
  have f_x2 := x9.t (k := 12) hT9 f_x2
  have f_x3 := x9.t (k := 24) hT9 f_x3
  refine z_pc (pc' := 351) rfl ?_
  refine z_aload_n dL_law_351 rfl 2 rfl ?_
  obtain ⟨a12, e12, hP⟩ := hP
  have k12 := f_x2 a12 e12
  refine z_wts (fun hT11 _ => ?_)
  refine z_cVi (c := 12) (n := 0) (Y1 := Y_X12_thrown) (st := []) e12 k12 z_cb12 (Nat.le_of_ble_eq_true rfl) rfl (s_X12_thrown k12 hP) rfl ⟨z_dc_X12_thrown, ⟨(Nat.le_of_ble_eq_true rfl), (Nat.le_of_ble_eq_true rfl)⟩, (Nat.le_of_ble_eq_true rfl)⟩ rfl zw_1541 zw_1542 zw_1543 zw_12 zw_1544 dL_law_352 (fun x_11 M_11 hP _ x11 => ?_)
  have f_x1 := x11.t (k := 11) hT11 f_x1
  have k12 := x11.k (k := 12) hT11 k12
  have f_x3 := x11.t (k := 24) hT11 f_x3
  refine z_iload dL_law_355 5 rfl ?_
  refine z_icmp_eq (tgt := 362) dL_law_357 (by decide) (fun h13 => ?_) (fun h13 => ?_)
  · replace hP := hP.1 h13
    refine z_goto (tgt := 1032) dL_law_362 (by decide) ?_
    refine z_sub (lv' := [(0, z_O _), (1, z_O _), (2, z_O _), (3, z_O _), (4, z_I _)]) [0, 1, 2, 3, 4] rfl ?_
    exact v_L_law_1032 hl9 hkb hJ23 f_x1 (z_trn e12 k12) f_x3 hP
  · replace hP := hP.2 h13
    refine z_iconst (v := 0) dL_law_360 (by decide) ?_
    exact z_retb rfl (Or.inl rfl) dL_law_361 hP
set_option maxRecDepth 100000 in
set_option maxHeartbeats 4000000 in
theorem v_L_law_310 {G : z_G} {M0 : z_Mem} {a L : Nat} {xs : Nat → Int32} {Post : Int32 → z_Mem → Prop} (hl9 : G.1.stackTraces = false) (hkb : z_ki M0 a = 0) {J23 : Option Nat → Option Nat → Option Nat → Int32 → z_Mem → Prop} (hJ23 : ∀ (x1 : Option Nat) (x2 : Option Nat) (x3 : Option Nat) (x4 : Int32) (M : z_Mem), (z_tr M x1 12) → (z_tr M x2 13) → (z_tr M x3 25) → J23 x1 x2 x3 x4 M → z_V G Y_L_law (z_XL a L xs) M0 (z_QM G M0 (z_PB Post)) M 23 [(0, z_O (some a)), (1, z_O x1), (2, z_O x2), (3, z_O x3), (4, z_I x4)] []) {x1 : Option Nat} {x2 : Option Nat} {x3 : Option Nat} {x4 : Int32} {t0 : Option Nat} {t1 : Int32} {t2 : Int32} {M : z_Mem} (f_x1 : z_tr M x1 12) (f_x2 : z_tr M x2 13) (f_x3 : z_tr M x3 25) (f_t0 : z_tr M t0 12) (f_t2 : t2 = 0 ∨ t2 = 1) (hP : P_L_law_310 L xs Post J23 x1 x2 x3 x4 t0 t1 t2 M) : z_V G Y_L_law (z_XL a L xs) M0 (z_QM G M0 (z_PB Post)) M 310 [(0, z_O (some a)), (1, z_O x1), (2, z_O x2), (3, z_O x3), (4, z_I x4)] [z_I t2, z_I t1, z_O t0] := by
  unfold P_L_law_310 at hP
  refine z_aload_n dL_law_310 rfl 0 rfl ?_
  refine z_iload dL_law_311 4 rfl ?_
  refine z_iconst (v := 3) dL_law_313 (by decide) ?_
  refine z_iadd dL_law_314 ?_
  obtain ⟨i14, hP⟩ := hP
  refine z_sld hkb i14 dL_law_315 ?_
  refine z_wts (fun hT15 _ => ?_)
  refine z_cSHi (hh := hh_L_lose) (n := 4) (Y1 := Y_L_lose) (st := []) rfl (s_L_lose hl9 f_t0 f_t2 hP) rfl ⟨z_dc_L_lose, ⟨(Nat.le_of_ble_eq_true rfl), (Nat.le_of_ble_eq_true rfl)⟩, (Nat.le_of_ble_eq_true rfl)⟩ rfl zw_642 zw_643 zw_0 zh_L_lose dL_law_316 (fun x_15 M_15 hP _ x15 => ?_)
  have f_x1 := x15.t (k := 11) hT15 f_x1
  have f_x2 := x15.t (k := 12) hT15 f_x2
  have f_x3 := x15.t (k := 24) hT15 f_x3
  refine z_pc (pc' := 319) rfl ?_
  refine z_istore (lv' := [(5, z_I _), (0, z_O _), (1, z_O _), (2, z_O _), (3, z_O _), (4, z_I _)]) dL_law_319 (Nat.le_of_ble_eq_true rfl) rfl ?_
  refine z_aload_n dL_law_321 rfl 3 rfl ?_
  refine z_aload_n dL_law_322 rfl 1 rfl ?_
  refine z_iload dL_law_323 5 rfl ?_
  refine z_iconst (v := 1) dL_law_325 (by decide) ?_
  refine z_iadd dL_law_326 ?_
  refine z_pc (pc' := 327) rfl ?_
  obtain ⟨i16, hP⟩ := hP
  refine z_sld hkb i16 dL_law_327 ?_
  refine z_aload_n dL_law_328 rfl 1 rfl ?_
  refine z_iload dL_law_329 5 rfl ?_
  refine z_iconst (v := 2) dL_law_331 (by decide) ?_
  refine z_iadd dL_law_332 ?_
  obtain ⟨i17, hP⟩ := hP
  refine z_sld hkb i17 dL_law_333 ?_
  refine z_pc (pc' := 334) rfl ?_
  refine z_if_eq (tgt := 341) dL_law_334 (by decide) (fun h18 => ?_) (fun h18 => ?_)
  · replace hP := hP.1 h18
    refine z_iconst (v := 0) dL_law_341 (by decide) ?_
    refine z_sub (lv' := [(0, z_O _), (1, z_O _), (2, z_O _), (3, z_O _), (4, z_I _), (5, z_I _)]) [1, 2, 3, 4, 5, 0] rfl ?_
    exact v_L_law_342 hl9 hkb hJ23 f_x1 f_x2 f_x3 f_x2 (Or.inl rfl) hP
  · replace hP := hP.2 h18
    refine z_iconst (v := 1) dL_law_337 (by decide) ?_
    refine z_goto (tgt := 342) dL_law_338 (by decide) ?_
    refine z_sub (lv' := [(0, z_O _), (1, z_O _), (2, z_O _), (3, z_O _), (4, z_I _), (5, z_I _)]) [1, 2, 3, 4, 5, 0] rfl ?_
    exact v_L_law_342 hl9 hkb hJ23 f_x1 f_x2 f_x3 f_x2 (Or.inr rfl) hP
set_option maxRecDepth 100000 in
set_option maxHeartbeats 4000000 in
theorem v_L_law_488 {G : z_G} {M0 : z_Mem} {a L : Nat} {xs : Nat → Int32} {Post : Int32 → z_Mem → Prop} (hl9 : G.1.stackTraces = false) (hkb : z_ki M0 a = 0) {J23 : Option Nat → Option Nat → Option Nat → Int32 → z_Mem → Prop} (hJ23 : ∀ (x1 : Option Nat) (x2 : Option Nat) (x3 : Option Nat) (x4 : Int32) (M : z_Mem), (z_tr M x1 12) → (z_tr M x2 13) → (z_tr M x3 25) → J23 x1 x2 x3 x4 M → z_V G Y_L_law (z_XL a L xs) M0 (z_QM G M0 (z_PB Post)) M 23 [(0, z_O (some a)), (1, z_O x1), (2, z_O x2), (3, z_O x3), (4, z_I x4)] []) {x1 : Option Nat} {x2 : Option Nat} {x3 : Option Nat} {x4 : Int32} {t0 : Option Nat} {t1 : Int32} {M : z_Mem} (f_x1 : z_tr M x1 12) (f_x2 : z_tr M x2 13) (f_x3 : z_tr M x3 25) (f_t0 : z_tr M t0 13) (f_t1 : t1 = 0 ∨ t1 = 1) (hP : P_L_law_488 L xs Post J23 x1 x2 x3 x4 t0 t1 M) : z_V G Y_L_law (z_XL a L xs) M0 (z_QM G M0 (z_PB Post)) M 488 [(0, z_O (some a)), (1, z_O x1), (2, z_O x2), (3, z_O x3), (4, z_I x4)] [z_I t1, z_O t0] := by
  unfold P_L_law_488 at hP
  obtain ⟨a20, e20, hP⟩ := hP
  have k20 := f_t0 a20 e20
  refine z_wts (fun hT19 _ => ?_)
  refine z_cVb (c := 12) (n := 1) (Y1 := Y_X12_setCookies) (st := []) e20 k20 z_cb12 (Nat.le_of_ble_eq_true rfl) rfl (s_X12_setCookies k20 f_t1 hP) rfl ⟨z_dc_X12_setCookies, ⟨(Nat.le_of_ble_eq_true rfl), (Nat.le_of_ble_eq_true rfl)⟩, (Nat.le_of_ble_eq_true rfl)⟩ rfl zw_1575 zw_1576 zw_1577 zw_12 zw_1578 dL_law_488 (fun x_19 M_19 b19 hP _ x19 => ?_)
  have f_x1 := x19.t (k := 11) hT19 f_x1
  have f_x2 := x19.t (k := 12) hT19 f_x2
  have f_x3 := x19.t (k := 24) hT19 f_x3
  refine z_pop dL_law_491 rfl ?_
  refine z_goto (tgt := 1032) dL_law_492 (by decide) ?_
  refine z_sub (lv' := [(0, z_O _), (1, z_O _), (2, z_O _), (3, z_O _), (4, z_I _)]) [0, 1, 2, 3, 4] rfl ?_
  exact v_L_law_1032 hl9 hkb hJ23 f_x1 f_x2 f_x3 hP
set_option maxRecDepth 100000 in
set_option maxHeartbeats 4000000 in
theorem v_L_law_469 {G : z_G} {M0 : z_Mem} {a L : Nat} {xs : Nat → Int32} {Post : Int32 → z_Mem → Prop} (hl9 : G.1.stackTraces = false) (hkb : z_ki M0 a = 0) {J23 : Option Nat → Option Nat → Option Nat → Int32 → z_Mem → Prop} (hJ23 : ∀ (x1 : Option Nat) (x2 : Option Nat) (x3 : Option Nat) (x4 : Int32) (M : z_Mem), (z_tr M x1 12) → (z_tr M x2 13) → (z_tr M x3 25) → J23 x1 x2 x3 x4 M → z_V G Y_L_law (z_XL a L xs) M0 (z_QM G M0 (z_PB Post)) M 23 [(0, z_O (some a)), (1, z_O x1), (2, z_O x2), (3, z_O x3), (4, z_I x4)] []) {x1 : Option Nat} {x2 : Option Nat} {x3 : Option Nat} {x4 : Int32} {t0 : Option Nat} {t1 : Int32} {M : z_Mem} (f_x1 : z_tr M x1 12) (f_x2 : z_tr M x2 13) (f_x3 : z_tr M x3 25) (f_t0 : z_tr M t0 12) (f_t1 : t1 = 0 ∨ t1 = 1) (hP : P_L_law_469 L xs Post J23 x1 x2 x3 x4 t0 t1 M) : z_V G Y_L_law (z_XL a L xs) M0 (z_QM G M0 (z_PB Post)) M 469 [(0, z_O (some a)), (1, z_O x1), (2, z_O x2), (3, z_O x3), (4, z_I x4)] [z_I t1, z_O t0] := by
  unfold P_L_law_469 at hP
  obtain ⟨a22, e22, hP⟩ := hP
  have k22 := f_t0 a22 e22
  refine z_wts (fun hT21 _ => ?_)
  refine z_cVb (c := 11) (n := 1) (Y1 := Y_X11_setCookies) (st := []) e22 k22 z_cb11 (Nat.le_of_ble_eq_true rfl) rfl (s_X11_setCookies k22 f_t1 hP) rfl ⟨z_dc_X11_setCookies, ⟨(Nat.le_of_ble_eq_true rfl), (Nat.le_of_ble_eq_true rfl)⟩, (Nat.le_of_ble_eq_true rfl)⟩ rfl zw_505 zw_506 zw_507 zw_1 zw_508 dL_law_469 (fun x_21 M_21 b21 hP _ x21 => ?_)
  have f_x1 := x21.t (k := 11) hT21 f_x1
  have f_x2 := x21.t (k := 12) hT21 f_x2
  have f_x3 := x21.t (k := 24) hT21 f_x3
  refine z_pop dL_law_472 rfl ?_
  refine z_aload_n dL_law_473 rfl 2 rfl ?_
  refine z_aload_n dL_law_474 rfl 0 rfl ?_
  refine z_iload dL_law_475 4 rfl ?_
  refine z_iconst (v := 1) dL_law_477 (by decide) ?_
  refine z_pc (pc' := 478) rfl ?_
  refine z_iadd dL_law_478 ?_
  obtain ⟨i23, hP⟩ := hP
  refine z_sld hkb i23 dL_law_479 ?_
  refine z_if_eq (tgt := 487) dL_law_480 (by decide) (fun h24 => ?_) (fun h24 => ?_)
  · replace hP := hP.1 h24
    refine z_iconst (v := 0) dL_law_487 (by decide) ?_
    refine z_sub (lv' := [(0, z_O _), (1, z_O _), (2, z_O _), (3, z_O _), (4, z_I _)]) [0, 1, 2, 3, 4] rfl ?_
    exact v_L_law_488 hl9 hkb hJ23 f_x1 f_x2 f_x3 f_x2 (Or.inl rfl) hP
  · replace hP := hP.2 h24
    refine z_iconst (v := 1) dL_law_483 (by decide) ?_
    refine z_goto (tgt := 488) dL_law_484 (by decide) ?_
    refine z_sub (lv' := [(0, z_O _), (1, z_O _), (2, z_O _), (3, z_O _), (4, z_I _)]) [0, 1, 2, 3, 4] rfl ?_
    exact v_L_law_488 hl9 hkb hJ23 f_x1 f_x2 f_x3 f_x2 (Or.inr rfl) hP
set_option maxRecDepth 100000 in
set_option maxHeartbeats 4000000 in
theorem v_L_law_23 {G : z_G} {M0 : z_Mem} {a L : Nat} {xs : Nat → Int32} {Post : Int32 → z_Mem → Prop} (hl9 : G.1.stackTraces = false) (hkb : z_ki M0 a = 0)   : ∀ (n : Nat) {x1 : Option Nat} {x2 : Option Nat} {x3 : Option Nat} {x4 : Int32} {M : z_Mem}, (z_tr M x1 12) → (z_tr M x2 13) → (z_tr M x3 25) → P_L_law_23 L xs Post n x1 x2 x3 x4 M → z_V G Y_L_law (z_XL a L xs) M0 (z_QM G M0 (z_PB Post)) M 23 [(0, z_O (some a)), (1, z_O x1), (2, z_O x2), (3, z_O x3), (4, z_I x4)] [] := by
  intro n
  induction n with
  | zero => intro x1 x2 x3 x4 M f_x1 f_x2 f_x3 hP; exact False.elim hP
  | succ n ih =>
    intro x1 x2 x3 x4 M f_x1 f_x2 f_x3 hP
    unfold P_L_law_23 at hP
    refine z_iload dL_law_23 4 rfl ?_
    refine z_aload_n dL_law_25 rfl 0 rfl ?_
    refine z_slen hkb dL_law_26 ?_
    refine z_bipush (v := 6) dL_law_27 (by decide) ?_
    refine z_isub dL_law_29 ?_
    refine z_icmp_gt (tgt := 1038) dL_law_30 (by decide) (fun h25 => ?_) (fun h25 => ?_)
    · replace hP := hP.1 h25
      refine z_iconst (v := 1) dL_law_1038 (by decide) ?_
      refine z_pc (pc' := 1039) rfl ?_
      exact z_retb rfl (Or.inr rfl) dL_law_1039 hP
    · replace hP := hP.2 h25
      refine z_aload_n dL_law_33 rfl 0 rfl ?_
      refine z_pc (pc' := 34) rfl ?_
      refine z_iload dL_law_34 4 rfl ?_
      obtain ⟨i26, hP⟩ := hP
      refine z_sld hkb i26 dL_law_36 ?_
      refine z_bipush (v := 31) dL_law_37 (by decide) ?_
      refine z_iand dL_law_39 ?_
      refine z_sw (tD := 1032) 26 [160, 233, 289, 365, 414, 454, 495, 535, 546, 571, 611, 651, 676, 704, 720, 733, 761, 774, 802, 842, 882, 895, 908, 948, 976, 1004] (by decide) (by decide) (by decide) dL_law_40 (fun k hk tg htg h27 => ?_) (fun h27 => ?_)
      · rcases (show k = 0 ∨ k = 1 ∨ k = 2 ∨ k = 3 ∨ k = 4 ∨ k = 5 ∨ k = 6 ∨ k = 7 ∨ k = 8 ∨ k = 9 ∨ k = 10 ∨ k = 11 ∨ k = 12 ∨ k = 13 ∨ k = 14 ∨ k = 15 ∨ k = 16 ∨ k = 17 ∨ k = 18 ∨ k = 19 ∨ k = 20 ∨ k = 21 ∨ k = 22 ∨ k = 23 ∨ k = 24 ∨ k = 25 by omega) with rfl | rfl | rfl | rfl | rfl | rfl | rfl | rfl | rfl | rfl | rfl | rfl | rfl | rfl | rfl | rfl | rfl | rfl | rfl | rfl | rfl | rfl | rfl | rfl | rfl | rfl
        · cases htg
          replace hP := hP.1 h27
          refine z_aload_n dL_law_160 rfl 1 rfl ?_
          refine z_aload_n dL_law_161 rfl 0 rfl ?_
          refine z_pc (pc' := 162) rfl ?_
          refine z_iload dL_law_162 4 rfl ?_
          refine z_iconst (v := 1) dL_law_164 (by decide) ?_
          refine z_iadd dL_law_165 ?_
          obtain ⟨i28, hP⟩ := hP
          refine z_sld hkb i28 dL_law_166 ?_
          refine z_aload_n dL_law_167 rfl 0 rfl ?_
          refine z_iload dL_law_168 4 rfl ?_
          refine z_pc (pc' := 170) rfl ?_
          refine z_iconst (v := 2) dL_law_170 (by decide) ?_
          refine z_iadd dL_law_171 ?_
          obtain ⟨i29, hP⟩ := hP
          refine z_sld hkb i29 dL_law_172 ?_
          refine z_aload_n dL_law_173 rfl 0 rfl ?_
          refine z_iload dL_law_174 4 rfl ?_
          refine z_iconst (v := 3) dL_law_176 (by decide) ?_
          refine z_pc (pc' := 177) rfl ?_
          refine z_iadd dL_law_177 ?_
          obtain ⟨i30, hP⟩ := hP
          refine z_sld hkb i30 dL_law_178 ?_
          refine z_aload_n dL_law_179 rfl 0 rfl ?_
          refine z_iload dL_law_180 4 rfl ?_
          refine z_iconst (v := 4) dL_law_182 (by decide) ?_
          refine z_iadd dL_law_183 ?_
          refine z_pc (pc' := 184) rfl ?_
          obtain ⟨i31, hP⟩ := hP
          refine z_sld hkb i31 dL_law_184 ?_
          refine z_aload_n dL_law_185 rfl 0 rfl ?_
          refine z_iload dL_law_186 4 rfl ?_
          refine z_iconst (v := 5) dL_law_188 (by decide) ?_
          refine z_iadd dL_law_189 ?_
          obtain ⟨i32, hP⟩ := hP
          refine z_sld hkb i32 dL_law_190 ?_
          refine z_pc (pc' := 191) rfl ?_
          refine z_wts (fun hT33 _ => ?_)
          refine z_cSHi (hh := hh_L_setPath) (n := 6) (Y1 := Y_L_setPath) (st := []) rfl (s_L_setPath hl9 f_x1 hP) rfl ⟨z_dc_L_setPath, ⟨(Nat.le_of_ble_eq_true rfl), (Nat.le_of_ble_eq_true rfl)⟩, (Nat.le_of_ble_eq_true rfl)⟩ rfl zw_532 zw_533 zw_0 zh_L_setPath dL_law_191 (fun x_33 M_33 hP _ x33 => ?_)
          have f_x1 := x33.t (k := 11) hT33 f_x1
          have f_x2 := x33.t (k := 12) hT33 f_x2
          have f_x3 := x33.t (k := 24) hT33 f_x3
          refine z_istore (lv' := [(5, z_I _), (0, z_O _), (1, z_O _), (2, z_O _), (3, z_O _), (4, z_I _)]) dL_law_194 (Nat.le_of_ble_eq_true rfl) rfl ?_
          refine z_aload_n dL_law_196 rfl 3 rfl ?_
          refine z_aload_n dL_law_197 rfl 1 rfl ?_
          refine z_iload dL_law_198 5 rfl ?_
          refine z_iconst (v := 1) dL_law_200 (by decide) ?_
          refine z_pc (pc' := 201) rfl ?_
          refine z_iadd dL_law_201 ?_
          obtain ⟨i34, hP⟩ := hP
          refine z_sld hkb i34 dL_law_202 ?_
          refine z_aload_n dL_law_203 rfl 1 rfl ?_
          refine z_iload dL_law_204 5 rfl ?_
          refine z_iconst (v := 2) dL_law_206 (by decide) ?_
          refine z_iadd dL_law_207 ?_
          refine z_pc (pc' := 208) rfl ?_
          obtain ⟨i35, hP⟩ := hP
          refine z_sld hkb i35 dL_law_208 ?_
          refine z_aload_n dL_law_209 rfl 1 rfl ?_
          refine z_iload dL_law_210 5 rfl ?_
          refine z_iconst (v := 3) dL_law_212 (by decide) ?_
          refine z_iadd dL_law_213 ?_
          obtain ⟨i36, hP⟩ := hP
          refine z_sld hkb i36 dL_law_214 ?_
          refine z_pc (pc' := 215) rfl ?_
          refine z_aload_n dL_law_215 rfl 1 rfl ?_
          refine z_iload dL_law_216 5 rfl ?_
          refine z_iconst (v := 4) dL_law_218 (by decide) ?_
          refine z_iadd dL_law_219 ?_
          obtain ⟨i37, hP⟩ := hP
          refine z_sld hkb i37 dL_law_220 ?_
          refine z_aload_n dL_law_221 rfl 1 rfl ?_
          refine z_pc (pc' := 222) rfl ?_
          refine z_iload dL_law_222 5 rfl ?_
          refine z_iconst (v := 5) dL_law_224 (by decide) ?_
          refine z_iadd dL_law_225 ?_
          obtain ⟨i38, hP⟩ := hP
          refine z_sld hkb i38 dL_law_226 ?_
          obtain ⟨a40, e40, hP⟩ := hP
          have k40 := f_x2 a40 e40
          refine z_wts (fun hT39 _ => ?_)
          refine z_cVv (c := 12) (n := 5) (Y1 := Y_X12_setPath) (st := []) e40 k40 z_cb12 (Nat.le_of_ble_eq_true rfl) rfl (s_X12_setPath k40 hP) rfl ⟨z_dc_X12_setPath, ⟨(Nat.le_of_ble_eq_true rfl), (Nat.le_of_ble_eq_true rfl)⟩, (Nat.le_of_ble_eq_true rfl)⟩ rfl zw_1545 zw_1546 zw_1547 zw_12 zw_1548 dL_law_227 (fun M_39 hP _ x39 => ?_)
          have f_x1 := x39.t (k := 11) hT39 f_x1
          have k40 := x39.k (k := 12) hT39 k40
          have f_x3 := x39.t (k := 24) hT39 f_x3
          refine z_goto (tgt := 1032) dL_law_230 (by decide) ?_
          refine z_sub (lv' := [(0, z_O _), (1, z_O _), (2, z_O _), (3, z_O _), (4, z_I _)]) [1, 2, 3, 4, 5] rfl ?_
          exact v_L_law_1032 hl9 hkb (fun _ _ _ _ _ w0 w1 w2 hP => ih w0 w1 w2 hP) f_x1 (z_trn e40 k40) f_x3 hP
        · cases htg
          replace hP := hP.2.1 h27
          refine z_aload_n dL_law_233 rfl 1 rfl ?_
          refine z_aload_n dL_law_234 rfl 0 rfl ?_
          refine z_pc (pc' := 235) rfl ?_
          refine z_iload dL_law_235 4 rfl ?_
          refine z_iconst (v := 1) dL_law_237 (by decide) ?_
          refine z_iadd dL_law_238 ?_
          obtain ⟨i41, hP⟩ := hP
          refine z_sld hkb i41 dL_law_239 ?_
          refine z_aload_n dL_law_240 rfl 0 rfl ?_
          refine z_iload dL_law_241 4 rfl ?_
          refine z_pc (pc' := 243) rfl ?_
          refine z_iconst (v := 2) dL_law_243 (by decide) ?_
          refine z_iadd dL_law_244 ?_
          obtain ⟨i42, hP⟩ := hP
          refine z_sld hkb i42 dL_law_245 ?_
          refine z_if_eq (tgt := 253) dL_law_246 (by decide) (fun h43 => ?_) (fun h43 => ?_)
          · replace hP := hP.1 h43
            refine z_iconst (v := 0) dL_law_253 (by decide) ?_
            refine z_sub (lv' := [(0, z_O _), (1, z_O _), (2, z_O _), (3, z_O _), (4, z_I _)]) [0, 1, 2, 3, 4] rfl ?_
            exact v_L_law_254 hl9 hkb (fun _ _ _ _ _ w0 w1 w2 hP => ih w0 w1 w2 hP) f_x1 f_x2 f_x3 f_x1 (Or.inl rfl) hP
          · replace hP := hP.2 h43
            refine z_iconst (v := 1) dL_law_249 (by decide) ?_
            refine z_goto (tgt := 254) dL_law_250 (by decide) ?_
            refine z_sub (lv' := [(0, z_O _), (1, z_O _), (2, z_O _), (3, z_O _), (4, z_I _)]) [0, 1, 2, 3, 4] rfl ?_
            exact v_L_law_254 hl9 hkb (fun _ _ _ _ _ w0 w1 w2 hP => ih w0 w1 w2 hP) f_x1 f_x2 f_x3 f_x1 (Or.inr rfl) hP
        · cases htg
          replace hP := hP.2.2.1 h27
          refine z_aload_n dL_law_289 rfl 1 rfl ?_
          refine z_aload_n dL_law_290 rfl 0 rfl ?_
          refine z_pc (pc' := 291) rfl ?_
          refine z_iload dL_law_291 4 rfl ?_
          refine z_iconst (v := 1) dL_law_293 (by decide) ?_
          refine z_iadd dL_law_294 ?_
          obtain ⟨i44, hP⟩ := hP
          refine z_sld hkb i44 dL_law_295 ?_
          refine z_aload_n dL_law_296 rfl 0 rfl ?_
          refine z_iload dL_law_297 4 rfl ?_
          refine z_pc (pc' := 299) rfl ?_
          refine z_iconst (v := 2) dL_law_299 (by decide) ?_
          refine z_iadd dL_law_300 ?_
          obtain ⟨i45, hP⟩ := hP
          refine z_sld hkb i45 dL_law_301 ?_
          refine z_if_eq (tgt := 309) dL_law_302 (by decide) (fun h46 => ?_) (fun h46 => ?_)
          · replace hP := hP.1 h46
            refine z_iconst (v := 0) dL_law_309 (by decide) ?_
            refine z_sub (lv' := [(0, z_O _), (1, z_O _), (2, z_O _), (3, z_O _), (4, z_I _)]) [0, 1, 2, 3, 4] rfl ?_
            exact v_L_law_310 hl9 hkb (fun _ _ _ _ _ w0 w1 w2 hP => ih w0 w1 w2 hP) f_x1 f_x2 f_x3 f_x1 (Or.inl rfl) hP
          · replace hP := hP.2 h46
            refine z_iconst (v := 1) dL_law_305 (by decide) ?_
            refine z_goto (tgt := 310) dL_law_306 (by decide) ?_
            refine z_sub (lv' := [(0, z_O _), (1, z_O _), (2, z_O _), (3, z_O _), (4, z_I _)]) [0, 1, 2, 3, 4] rfl ?_
            exact v_L_law_310 hl9 hkb (fun _ _ _ _ _ w0 w1 w2 hP => ih w0 w1 w2 hP) f_x1 f_x2 f_x3 f_x1 (Or.inr rfl) hP
        · cases htg
          replace hP := hP.2.2.2.1 h27
          refine z_aload_n dL_law_365 rfl 1 rfl ?_
          refine z_aload_n dL_law_366 rfl 0 rfl ?_
          refine z_pc (pc' := 367) rfl ?_
          refine z_iload dL_law_367 4 rfl ?_
          refine z_iconst (v := 1) dL_law_369 (by decide) ?_
          refine z_iadd dL_law_370 ?_
          obtain ⟨i47, hP⟩ := hP
          refine z_sld hkb i47 dL_law_371 ?_
          refine z_aload_n dL_law_372 rfl 0 rfl ?_
          refine z_iload dL_law_373 4 rfl ?_
          refine z_pc (pc' := 375) rfl ?_
          refine z_iconst (v := 2) dL_law_375 (by decide) ?_
          refine z_iadd dL_law_376 ?_
          obtain ⟨i48, hP⟩ := hP
          refine z_sld hkb i48 dL_law_377 ?_
          refine z_aload_n dL_law_378 rfl 0 rfl ?_
          refine z_iload dL_law_379 4 rfl ?_
          refine z_iconst (v := 3) dL_law_381 (by decide) ?_
          refine z_pc (pc' := 382) rfl ?_
          refine z_iadd dL_law_382 ?_
          obtain ⟨i49, hP⟩ := hP
          refine z_sld hkb i49 dL_law_383 ?_
          refine z_wts (fun hT50 _ => ?_)
          refine z_cSHi (hh := hh_L_late) (n := 4) (Y1 := Y_L_late) (st := []) rfl (s_L_late hl9 f_x1 hP) rfl ⟨z_dc_L_late, ⟨(Nat.le_of_ble_eq_true rfl), (Nat.le_of_ble_eq_true rfl)⟩, (Nat.le_of_ble_eq_true rfl)⟩ rfl zw_649 zw_650 zw_0 zh_L_late dL_law_384 (fun x_50 M_50 hP _ x50 => ?_)
          have f_x1 := x50.t (k := 11) hT50 f_x1
          have f_x2 := x50.t (k := 12) hT50 f_x2
          have f_x3 := x50.t (k := 24) hT50 f_x3
          refine z_istore (lv' := [(5, z_I _), (0, z_O _), (1, z_O _), (2, z_O _), (3, z_O _), (4, z_I _)]) dL_law_387 (Nat.le_of_ble_eq_true rfl) rfl ?_
          refine z_aload_n dL_law_389 rfl 3 rfl ?_
          refine z_aload_n dL_law_390 rfl 1 rfl ?_
          refine z_pc (pc' := 391) rfl ?_
          refine z_iload dL_law_391 5 rfl ?_
          refine z_iconst (v := 1) dL_law_393 (by decide) ?_
          refine z_iadd dL_law_394 ?_
          obtain ⟨i51, hP⟩ := hP
          refine z_sld hkb i51 dL_law_395 ?_
          refine z_aload_n dL_law_396 rfl 1 rfl ?_
          refine z_iload dL_law_397 5 rfl ?_
          refine z_pc (pc' := 399) rfl ?_
          refine z_iconst (v := 2) dL_law_399 (by decide) ?_
          refine z_iadd dL_law_400 ?_
          obtain ⟨i52, hP⟩ := hP
          refine z_sld hkb i52 dL_law_401 ?_
          refine z_aload_n dL_law_402 rfl 1 rfl ?_
          refine z_iload dL_law_403 5 rfl ?_
          refine z_iconst (v := 3) dL_law_405 (by decide) ?_
          refine z_pc (pc' := 406) rfl ?_
          refine z_iadd dL_law_406 ?_
          obtain ⟨i53, hP⟩ := hP
          refine z_sld hkb i53 dL_law_407 ?_
          obtain ⟨a55, e55, hP⟩ := hP
          have k55 := f_x2 a55 e55
          refine z_wts (fun hT54 _ => ?_)
          refine z_cVv (c := 12) (n := 3) (Y1 := Y_X12_late) (st := []) e55 k55 z_cb12 (Nat.le_of_ble_eq_true rfl) rfl (s_X12_late k55 hP) rfl ⟨z_dc_X12_late, ⟨(Nat.le_of_ble_eq_true rfl), (Nat.le_of_ble_eq_true rfl)⟩, (Nat.le_of_ble_eq_true rfl)⟩ rfl zw_1567 zw_1568 zw_1569 zw_12 zw_1570 dL_law_408 (fun M_54 hP _ x54 => ?_)
          have f_x1 := x54.t (k := 11) hT54 f_x1
          have k55 := x54.k (k := 12) hT54 k55
          have f_x3 := x54.t (k := 24) hT54 f_x3
          refine z_goto (tgt := 1032) dL_law_411 (by decide) ?_
          refine z_sub (lv' := [(0, z_O _), (1, z_O _), (2, z_O _), (3, z_O _), (4, z_I _)]) [1, 2, 3, 4, 5] rfl ?_
          exact v_L_law_1032 hl9 hkb (fun _ _ _ _ _ w0 w1 w2 hP => ih w0 w1 w2 hP) f_x1 (z_trn e55 k55) f_x3 hP
        · cases htg
          replace hP := hP.2.2.2.2.1 h27
          refine z_aload_n dL_law_414 rfl 1 rfl ?_
          refine z_aload_n dL_law_415 rfl 0 rfl ?_
          refine z_pc (pc' := 416) rfl ?_
          refine z_iload dL_law_416 4 rfl ?_
          refine z_iconst (v := 1) dL_law_418 (by decide) ?_
          refine z_iadd dL_law_419 ?_
          obtain ⟨i56, hP⟩ := hP
          refine z_sld hkb i56 dL_law_420 ?_
          refine z_aload_n dL_law_421 rfl 0 rfl ?_
          refine z_iload dL_law_422 4 rfl ?_
          refine z_pc (pc' := 424) rfl ?_
          refine z_iconst (v := 2) dL_law_424 (by decide) ?_
          refine z_iadd dL_law_425 ?_
          obtain ⟨i57, hP⟩ := hP
          refine z_sld hkb i57 dL_law_426 ?_
          refine z_aload_n dL_law_427 rfl 3 rfl ?_
          refine z_wts (fun hT58 _ => ?_)
          refine z_cSHi (hh := hh_L_foreign) (n := 4) (Y1 := Y_L_foreign) (st := []) rfl (s_L_foreign hl9 f_x1 f_x3 hP) rfl ⟨z_dc_L_foreign, ⟨(Nat.le_of_ble_eq_true rfl), (Nat.le_of_ble_eq_true rfl)⟩, (Nat.le_of_ble_eq_true rfl)⟩ rfl zw_656 zw_657 zw_0 zh_L_foreign dL_law_428 (fun x_58 M_58 hP _ x58 => ?_)
          have f_x1 := x58.t (k := 11) hT58 f_x1
          have f_x2 := x58.t (k := 12) hT58 f_x2
          have f_x3 := x58.t (k := 24) hT58 f_x3
          refine z_istore (lv' := [(5, z_I _), (0, z_O _), (1, z_O _), (2, z_O _), (3, z_O _), (4, z_I _)]) dL_law_431 (Nat.le_of_ble_eq_true rfl) rfl ?_
          refine z_pc (pc' := 433) rfl ?_
          refine z_aload_n dL_law_433 rfl 3 rfl ?_
          refine z_aload_n dL_law_434 rfl 1 rfl ?_
          refine z_iload dL_law_435 5 rfl ?_
          refine z_iconst (v := 1) dL_law_437 (by decide) ?_
          refine z_iadd dL_law_438 ?_
          obtain ⟨i59, hP⟩ := hP
          refine z_sld hkb i59 dL_law_439 ?_
          refine z_pc (pc' := 440) rfl ?_
          refine z_aload_n dL_law_440 rfl 1 rfl ?_
          refine z_iload dL_law_441 5 rfl ?_
          refine z_iconst (v := 2) dL_law_443 (by decide) ?_
          refine z_iadd dL_law_444 ?_
          obtain ⟨i60, hP⟩ := hP
          refine z_sld hkb i60 dL_law_445 ?_
          obtain ⟨a62, e62, hP⟩ := hP
          have k62 := f_x2 a62 e62
          refine z_wts (fun hT61 _ => ?_)
          refine z_cVi (c := 12) (n := 2) (Y1 := Y_X12_foreign) (st := []) e62 k62 z_cb12 (Nat.le_of_ble_eq_true rfl) rfl (s_X12_foreign k62 hP) rfl ⟨z_dc_X12_foreign, ⟨(Nat.le_of_ble_eq_true rfl), (Nat.le_of_ble_eq_true rfl)⟩, (Nat.le_of_ble_eq_true rfl)⟩ rfl zw_1571 zw_1572 zw_1573 zw_12 zw_1574 dL_law_446 (fun x_61 M_61 hP _ x61 => ?_)
          have f_x1 := x61.t (k := 11) hT61 f_x1
          have k62 := x61.k (k := 12) hT61 k62
          have f_x3 := x61.t (k := 24) hT61 f_x3
          refine z_pc (pc' := 449) rfl ?_
          refine z_istore (lv' := [(6, z_I _), (5, z_I _), (0, z_O _), (1, z_O _), (2, z_O _), (3, z_O _), (4, z_I _)]) dL_law_449 (Nat.le_of_ble_eq_true rfl) rfl ?_
          refine z_goto (tgt := 1032) dL_law_451 (by decide) ?_
          refine z_sub (lv' := [(0, z_O _), (1, z_O _), (2, z_O _), (3, z_O _), (4, z_I _)]) [2, 3, 4, 5, 6] rfl ?_
          exact v_L_law_1032 hl9 hkb (fun _ _ _ _ _ w0 w1 w2 hP => ih w0 w1 w2 hP) f_x1 (z_trn e62 k62) f_x3 hP
        · cases htg
          replace hP := hP.2.2.2.2.2.1 h27
          refine z_aload_n dL_law_454 rfl 1 rfl ?_
          refine z_aload_n dL_law_455 rfl 0 rfl ?_
          refine z_pc (pc' := 456) rfl ?_
          refine z_iload dL_law_456 4 rfl ?_
          refine z_iconst (v := 1) dL_law_458 (by decide) ?_
          refine z_iadd dL_law_459 ?_
          obtain ⟨i63, hP⟩ := hP
          refine z_sld hkb i63 dL_law_460 ?_
          refine z_if_eq (tgt := 468) dL_law_461 (by decide) (fun h64 => ?_) (fun h64 => ?_)
          · replace hP := hP.1 h64
            refine z_iconst (v := 0) dL_law_468 (by decide) ?_
            refine z_sub (lv' := [(0, z_O _), (1, z_O _), (2, z_O _), (3, z_O _), (4, z_I _)]) [0, 1, 2, 3, 4] rfl ?_
            exact v_L_law_469 hl9 hkb (fun _ _ _ _ _ w0 w1 w2 hP => ih w0 w1 w2 hP) f_x1 f_x2 f_x3 f_x1 (Or.inl rfl) hP
          · replace hP := hP.2 h64
            refine z_iconst (v := 1) dL_law_464 (by decide) ?_
            refine z_goto (tgt := 469) dL_law_465 (by decide) ?_
            refine z_sub (lv' := [(0, z_O _), (1, z_O _), (2, z_O _), (3, z_O _), (4, z_I _)]) [0, 1, 2, 3, 4] rfl ?_
            exact v_L_law_469 hl9 hkb (fun _ _ _ _ _ w0 w1 w2 hP => ih w0 w1 w2 hP) f_x1 f_x2 f_x3 f_x1 (Or.inr rfl) hP
        · cases htg
          replace hP := hP.2.2.2.2.2.2.1 h27
          refine z_aload_n dL_law_495 rfl 1 rfl ?_
          refine z_aload_n dL_law_496 rfl 0 rfl ?_
          refine z_pc (pc' := 497) rfl ?_
          refine z_iload dL_law_497 4 rfl ?_
          refine z_iconst (v := 1) dL_law_499 (by decide) ?_
          refine z_iadd dL_law_500 ?_
          obtain ⟨i65, hP⟩ := hP
          refine z_sld hkb i65 dL_law_501 ?_
          refine z_aload_n dL_law_502 rfl 0 rfl ?_
          refine z_iload dL_law_503 4 rfl ?_
          refine z_pc (pc' := 505) rfl ?_
          refine z_iconst (v := 2) dL_law_505 (by decide) ?_
          refine z_iadd dL_law_506 ?_
          obtain ⟨i66, hP⟩ := hP
          refine z_sld hkb i66 dL_law_507 ?_
          refine z_aload_n dL_law_508 rfl 3 rfl ?_
          refine z_wts (fun hT67 _ => ?_)
          refine z_cSHi (hh := hh_L_read) (n := 4) (Y1 := Y_L_read) (st := []) rfl (s_L_read hl9 f_x1 f_x3 hP) rfl ⟨z_dc_L_read, ⟨(Nat.le_of_ble_eq_true rfl), (Nat.le_of_ble_eq_true rfl)⟩, (Nat.le_of_ble_eq_true rfl)⟩ rfl zw_676 zw_677 zw_0 zh_L_read dL_law_509 (fun x_67 M_67 hP _ x67 => ?_)
          have f_x1 := x67.t (k := 11) hT67 f_x1
          have f_x2 := x67.t (k := 12) hT67 f_x2
          have f_x3 := x67.t (k := 24) hT67 f_x3
          refine z_istore (lv' := [(5, z_I _), (0, z_O _), (1, z_O _), (2, z_O _), (3, z_O _), (4, z_I _)]) dL_law_512 (Nat.le_of_ble_eq_true rfl) rfl ?_
          refine z_pc (pc' := 514) rfl ?_
          refine z_aload_n dL_law_514 rfl 3 rfl ?_
          refine z_aload_n dL_law_515 rfl 1 rfl ?_
          refine z_iload dL_law_516 5 rfl ?_
          refine z_iconst (v := 1) dL_law_518 (by decide) ?_
          refine z_iadd dL_law_519 ?_
          obtain ⟨i68, hP⟩ := hP
          refine z_sld hkb i68 dL_law_520 ?_
          refine z_pc (pc' := 521) rfl ?_
          refine z_aload_n dL_law_521 rfl 1 rfl ?_
          refine z_iload dL_law_522 5 rfl ?_
          refine z_iconst (v := 2) dL_law_524 (by decide) ?_
          refine z_iadd dL_law_525 ?_
          obtain ⟨i69, hP⟩ := hP
          refine z_sld hkb i69 dL_law_526 ?_
          obtain ⟨a71, e71, hP⟩ := hP
          have k71 := f_x2 a71 e71
          refine z_wts (fun hT70 _ => ?_)
          refine z_cVi (c := 12) (n := 2) (Y1 := Y_X12_read) (st := []) e71 k71 z_cb12 (Nat.le_of_ble_eq_true rfl) rfl (s_X12_read k71 hP) rfl ⟨z_dc_X12_read, ⟨(Nat.le_of_ble_eq_true rfl), (Nat.le_of_ble_eq_true rfl)⟩, (Nat.le_of_ble_eq_true rfl)⟩ rfl zw_1579 zw_1580 zw_1581 zw_12 zw_1582 dL_law_527 (fun x_70 M_70 hP _ x70 => ?_)
          have f_x1 := x70.t (k := 11) hT70 f_x1
          have k71 := x70.k (k := 12) hT70 k71
          have f_x3 := x70.t (k := 24) hT70 f_x3
          refine z_pc (pc' := 530) rfl ?_
          refine z_istore (lv' := [(6, z_I _), (5, z_I _), (0, z_O _), (1, z_O _), (2, z_O _), (3, z_O _), (4, z_I _)]) dL_law_530 (Nat.le_of_ble_eq_true rfl) rfl ?_
          refine z_goto (tgt := 1032) dL_law_532 (by decide) ?_
          refine z_sub (lv' := [(0, z_O _), (1, z_O _), (2, z_O _), (3, z_O _), (4, z_I _)]) [2, 3, 4, 5, 6] rfl ?_
          exact v_L_law_1032 hl9 hkb (fun _ _ _ _ _ w0 w1 w2 hP => ih w0 w1 w2 hP) f_x1 (z_trn e71 k71) f_x3 hP
        · cases htg
          replace hP := hP.2.2.2.2.2.2.2.1 h27
          refine z_aload_n dL_law_535 rfl 1 rfl ?_
          obtain ⟨a73, e73, hP⟩ := hP
          have k73 := f_x1 a73 e73
          refine z_wts (fun hT72 _ => ?_)
          refine z_cVv (c := 11) (n := 0) (Y1 := Y_X11_loseState) (st := []) e73 k73 z_cb11 (Nat.le_of_ble_eq_true rfl) rfl (s_X11_loseState k73 hP) rfl ⟨z_dc_X11_loseState, ⟨(Nat.le_of_ble_eq_true rfl), (Nat.le_of_ble_eq_true rfl)⟩, (Nat.le_of_ble_eq_true rfl)⟩ rfl zw_509 zw_510 zw_511 zw_1 zw_512 dL_law_536 (fun M_72 hP _ x72 => ?_)
          have k73 := x72.k (k := 11) hT72 k73
          have f_x2 := x72.t (k := 12) hT72 f_x2
          have f_x3 := x72.t (k := 24) hT72 f_x3
          refine z_pc (pc' := 539) rfl ?_
          refine z_aload_n dL_law_539 rfl 2 rfl ?_
          obtain ⟨a75, e75, hP⟩ := hP
          have k75 := f_x2 a75 e75
          refine z_wts (fun hT74 _ => ?_)
          refine z_cVv (c := 12) (n := 0) (Y1 := Y_X12_loseState) (st := []) e75 k75 z_cb12 (Nat.le_of_ble_eq_true rfl) rfl (s_X12_loseState k75 hP) rfl ⟨z_dc_X12_loseState, ⟨(Nat.le_of_ble_eq_true rfl), (Nat.le_of_ble_eq_true rfl)⟩, (Nat.le_of_ble_eq_true rfl)⟩ rfl zw_1598 zw_1599 zw_1600 zw_12 zw_1601 dL_law_540 (fun M_74 hP _ x74 => ?_)
          have k73 := x74.k (k := 11) hT74 k73
          have k75 := x74.k (k := 12) hT74 k75
          have f_x3 := x74.t (k := 24) hT74 f_x3
          refine z_goto (tgt := 1032) dL_law_543 (by decide) ?_
          refine z_sub (lv' := [(0, z_O _), (1, z_O _), (2, z_O _), (3, z_O _), (4, z_I _)]) [0, 1, 2, 3, 4] rfl ?_
          exact v_L_law_1032 hl9 hkb (fun _ _ _ _ _ w0 w1 w2 hP => ih w0 w1 w2 hP) (z_trn e73 k73) (z_trn e75 k75) f_x3 hP
        · cases htg
          replace hP := hP.2.2.2.2.2.2.2.2.1 h27
          refine z_aload_n dL_law_546 rfl 1 rfl ?_
          refine z_aload_n dL_law_547 rfl 0 rfl ?_
          refine z_pc (pc' := 548) rfl ?_
          refine z_iload dL_law_548 4 rfl ?_
          refine z_iconst (v := 1) dL_law_550 (by decide) ?_
          refine z_iadd dL_law_551 ?_
          obtain ⟨i76, hP⟩ := hP
          refine z_sld hkb i76 dL_law_552 ?_
          refine z_wts (fun hT77 _ => ?_)
          refine z_cSHi (hh := hh_L_connect) (n := 2) (Y1 := Y_L_connect) (st := []) rfl (s_L_connect hl9 f_x1 hP) rfl ⟨z_dc_L_connect, ⟨(Nat.le_of_ble_eq_true rfl), (Nat.le_of_ble_eq_true rfl)⟩, (Nat.le_of_ble_eq_true rfl)⟩ rfl zw_757 zw_758 zw_0 zh_L_connect dL_law_553 (fun x_77 M_77 hP _ x77 => ?_)
          have f_x1 := x77.t (k := 11) hT77 f_x1
          have f_x2 := x77.t (k := 12) hT77 f_x2
          have f_x3 := x77.t (k := 24) hT77 f_x3
          refine z_istore (lv' := [(5, z_I _), (0, z_O _), (1, z_O _), (2, z_O _), (3, z_O _), (4, z_I _)]) dL_law_556 (Nat.le_of_ble_eq_true rfl) rfl ?_
          refine z_pc (pc' := 558) rfl ?_
          refine z_aload_n dL_law_558 rfl 3 rfl ?_
          refine z_aload_n dL_law_559 rfl 1 rfl ?_
          refine z_iload dL_law_560 5 rfl ?_
          refine z_iconst (v := 1) dL_law_562 (by decide) ?_
          refine z_iadd dL_law_563 ?_
          obtain ⟨i78, hP⟩ := hP
          refine z_sld hkb i78 dL_law_564 ?_
          refine z_pc (pc' := 565) rfl ?_
          obtain ⟨a80, e80, hP⟩ := hP
          have k80 := f_x2 a80 e80
          refine z_wts (fun hT79 _ => ?_)
          refine z_cVv (c := 12) (n := 1) (Y1 := Y_X12_connect) (st := []) e80 k80 z_cb12 (Nat.le_of_ble_eq_true rfl) rfl (s_X12_connect k80 hP) rfl ⟨z_dc_X12_connect, ⟨(Nat.le_of_ble_eq_true rfl), (Nat.le_of_ble_eq_true rfl)⟩, (Nat.le_of_ble_eq_true rfl)⟩ rfl zw_1602 zw_1603 zw_1604 zw_12 zw_1605 dL_law_565 (fun M_79 hP _ x79 => ?_)
          have f_x1 := x79.t (k := 11) hT79 f_x1
          have k80 := x79.k (k := 12) hT79 k80
          have f_x3 := x79.t (k := 24) hT79 f_x3
          refine z_goto (tgt := 1032) dL_law_568 (by decide) ?_
          refine z_sub (lv' := [(0, z_O _), (1, z_O _), (2, z_O _), (3, z_O _), (4, z_I _)]) [1, 2, 3, 4, 5] rfl ?_
          exact v_L_law_1032 hl9 hkb (fun _ _ _ _ _ w0 w1 w2 hP => ih w0 w1 w2 hP) f_x1 (z_trn e80 k80) f_x3 hP
        · cases htg
          replace hP := hP.2.2.2.2.2.2.2.2.2.1 h27
          refine z_aload_n dL_law_571 rfl 1 rfl ?_
          refine z_aload_n dL_law_572 rfl 0 rfl ?_
          refine z_pc (pc' := 573) rfl ?_
          refine z_iload dL_law_573 4 rfl ?_
          refine z_iconst (v := 1) dL_law_575 (by decide) ?_
          refine z_iadd dL_law_576 ?_
          obtain ⟨i81, hP⟩ := hP
          refine z_sld hkb i81 dL_law_577 ?_
          refine z_aload_n dL_law_578 rfl 0 rfl ?_
          refine z_iload dL_law_579 4 rfl ?_
          refine z_pc (pc' := 581) rfl ?_
          refine z_iconst (v := 2) dL_law_581 (by decide) ?_
          refine z_iadd dL_law_582 ?_
          obtain ⟨i82, hP⟩ := hP
          refine z_sld hkb i82 dL_law_583 ?_
          refine z_aload_n dL_law_584 rfl 3 rfl ?_
          refine z_wts (fun hT83 _ => ?_)
          refine z_cSHi (hh := hh_L_write) (n := 4) (Y1 := Y_L_write) (st := []) rfl (s_L_write hl9 f_x1 f_x3 hP) rfl ⟨z_dc_L_write, ⟨(Nat.le_of_ble_eq_true rfl), (Nat.le_of_ble_eq_true rfl)⟩, (Nat.le_of_ble_eq_true rfl)⟩ rfl zw_803 zw_804 zw_0 zh_L_write dL_law_585 (fun x_83 M_83 hP _ x83 => ?_)
          have f_x1 := x83.t (k := 11) hT83 f_x1
          have f_x2 := x83.t (k := 12) hT83 f_x2
          have f_x3 := x83.t (k := 24) hT83 f_x3
          refine z_istore (lv' := [(5, z_I _), (0, z_O _), (1, z_O _), (2, z_O _), (3, z_O _), (4, z_I _)]) dL_law_588 (Nat.le_of_ble_eq_true rfl) rfl ?_
          refine z_pc (pc' := 590) rfl ?_
          refine z_aload_n dL_law_590 rfl 3 rfl ?_
          refine z_aload_n dL_law_591 rfl 1 rfl ?_
          refine z_iload dL_law_592 5 rfl ?_
          refine z_iconst (v := 1) dL_law_594 (by decide) ?_
          refine z_iadd dL_law_595 ?_
          obtain ⟨i84, hP⟩ := hP
          refine z_sld hkb i84 dL_law_596 ?_
          refine z_pc (pc' := 597) rfl ?_
          refine z_aload_n dL_law_597 rfl 1 rfl ?_
          refine z_iload dL_law_598 5 rfl ?_
          refine z_iconst (v := 2) dL_law_600 (by decide) ?_
          refine z_iadd dL_law_601 ?_
          obtain ⟨i85, hP⟩ := hP
          refine z_sld hkb i85 dL_law_602 ?_
          obtain ⟨a87, e87, hP⟩ := hP
          have k87 := f_x2 a87 e87
          refine z_wts (fun hT86 _ => ?_)
          refine z_cVi (c := 12) (n := 2) (Y1 := Y_X12_write) (st := []) e87 k87 z_cb12 (Nat.le_of_ble_eq_true rfl) rfl (s_X12_write k87 hP) rfl ⟨z_dc_X12_write, ⟨(Nat.le_of_ble_eq_true rfl), (Nat.le_of_ble_eq_true rfl)⟩, (Nat.le_of_ble_eq_true rfl)⟩ rfl zw_1614 zw_1615 zw_1616 zw_12 zw_1617 dL_law_603 (fun x_86 M_86 hP _ x86 => ?_)
          have f_x1 := x86.t (k := 11) hT86 f_x1
          have k87 := x86.k (k := 12) hT86 k87
          have f_x3 := x86.t (k := 24) hT86 f_x3
          refine z_pc (pc' := 606) rfl ?_
          refine z_istore (lv' := [(6, z_I _), (5, z_I _), (0, z_O _), (1, z_O _), (2, z_O _), (3, z_O _), (4, z_I _)]) dL_law_606 (Nat.le_of_ble_eq_true rfl) rfl ?_
          refine z_goto (tgt := 1032) dL_law_608 (by decide) ?_
          refine z_sub (lv' := [(0, z_O _), (1, z_O _), (2, z_O _), (3, z_O _), (4, z_I _)]) [2, 3, 4, 5, 6] rfl ?_
          exact v_L_law_1032 hl9 hkb (fun _ _ _ _ _ w0 w1 w2 hP => ih w0 w1 w2 hP) f_x1 (z_trn e87 k87) f_x3 hP
        · cases htg
          replace hP := hP.2.2.2.2.2.2.2.2.2.2.1 h27
          refine z_aload_n dL_law_611 rfl 1 rfl ?_
          refine z_aload_n dL_law_612 rfl 0 rfl ?_
          refine z_pc (pc' := 613) rfl ?_
          refine z_iload dL_law_613 4 rfl ?_
          refine z_iconst (v := 1) dL_law_615 (by decide) ?_
          refine z_iadd dL_law_616 ?_
          obtain ⟨i88, hP⟩ := hP
          refine z_sld hkb i88 dL_law_617 ?_
          refine z_aload_n dL_law_618 rfl 0 rfl ?_
          refine z_iload dL_law_619 4 rfl ?_
          refine z_pc (pc' := 621) rfl ?_
          refine z_iconst (v := 2) dL_law_621 (by decide) ?_
          refine z_iadd dL_law_622 ?_
          obtain ⟨i89, hP⟩ := hP
          refine z_sld hkb i89 dL_law_623 ?_
          refine z_aload_n dL_law_624 rfl 3 rfl ?_
          refine z_wts (fun hT90 _ => ?_)
          refine z_cSHi (hh := hh_L_setWay) (n := 4) (Y1 := Y_L_setWay) (st := []) rfl (s_L_setWay hl9 f_x1 f_x3 hP) rfl ⟨z_dc_L_setWay, ⟨(Nat.le_of_ble_eq_true rfl), (Nat.le_of_ble_eq_true rfl)⟩, (Nat.le_of_ble_eq_true rfl)⟩ rfl zw_810 zw_811 zw_0 zh_L_setWay dL_law_625 (fun x_90 M_90 hP _ x90 => ?_)
          have f_x1 := x90.t (k := 11) hT90 f_x1
          have f_x2 := x90.t (k := 12) hT90 f_x2
          have f_x3 := x90.t (k := 24) hT90 f_x3
          refine z_istore (lv' := [(5, z_I _), (0, z_O _), (1, z_O _), (2, z_O _), (3, z_O _), (4, z_I _)]) dL_law_628 (Nat.le_of_ble_eq_true rfl) rfl ?_
          refine z_pc (pc' := 630) rfl ?_
          refine z_aload_n dL_law_630 rfl 3 rfl ?_
          refine z_aload_n dL_law_631 rfl 1 rfl ?_
          refine z_iload dL_law_632 5 rfl ?_
          refine z_iconst (v := 1) dL_law_634 (by decide) ?_
          refine z_iadd dL_law_635 ?_
          obtain ⟨i91, hP⟩ := hP
          refine z_sld hkb i91 dL_law_636 ?_
          refine z_pc (pc' := 637) rfl ?_
          refine z_aload_n dL_law_637 rfl 1 rfl ?_
          refine z_iload dL_law_638 5 rfl ?_
          refine z_iconst (v := 2) dL_law_640 (by decide) ?_
          refine z_iadd dL_law_641 ?_
          obtain ⟨i92, hP⟩ := hP
          refine z_sld hkb i92 dL_law_642 ?_
          obtain ⟨a94, e94, hP⟩ := hP
          have k94 := f_x2 a94 e94
          refine z_wts (fun hT93 _ => ?_)
          refine z_cVi (c := 12) (n := 2) (Y1 := Y_X12_setWay) (st := []) e94 k94 z_cb12 (Nat.le_of_ble_eq_true rfl) rfl (s_X12_setWay k94 hP) rfl ⟨z_dc_X12_setWay, ⟨(Nat.le_of_ble_eq_true rfl), (Nat.le_of_ble_eq_true rfl)⟩, (Nat.le_of_ble_eq_true rfl)⟩ rfl zw_1618 zw_1619 zw_1620 zw_12 zw_1621 dL_law_643 (fun x_93 M_93 hP _ x93 => ?_)
          have f_x1 := x93.t (k := 11) hT93 f_x1
          have k94 := x93.k (k := 12) hT93 k94
          have f_x3 := x93.t (k := 24) hT93 f_x3
          refine z_pc (pc' := 646) rfl ?_
          refine z_istore (lv' := [(6, z_I _), (5, z_I _), (0, z_O _), (1, z_O _), (2, z_O _), (3, z_O _), (4, z_I _)]) dL_law_646 (Nat.le_of_ble_eq_true rfl) rfl ?_
          refine z_goto (tgt := 1032) dL_law_648 (by decide) ?_
          refine z_sub (lv' := [(0, z_O _), (1, z_O _), (2, z_O _), (3, z_O _), (4, z_I _)]) [2, 3, 4, 5, 6] rfl ?_
          exact v_L_law_1032 hl9 hkb (fun _ _ _ _ _ w0 w1 w2 hP => ih w0 w1 w2 hP) f_x1 (z_trn e94 k94) f_x3 hP
        · cases htg
          replace hP := hP.2.2.2.2.2.2.2.2.2.2.2.1 h27
          refine z_aload_n dL_law_651 rfl 1 rfl ?_
          refine z_aload_n dL_law_652 rfl 0 rfl ?_
          refine z_pc (pc' := 653) rfl ?_
          refine z_iload dL_law_653 4 rfl ?_
          refine z_iconst (v := 1) dL_law_655 (by decide) ?_
          refine z_iadd dL_law_656 ?_
          obtain ⟨i95, hP⟩ := hP
          refine z_sld hkb i95 dL_law_657 ?_
          refine z_wts (fun hT96 _ => ?_)
          refine z_cSHi (hh := hh_L_check) (n := 2) (Y1 := Y_L_check) (st := []) rfl (s_L_check hl9 f_x1 hP) rfl ⟨z_dc_L_check, ⟨(Nat.le_of_ble_eq_true rfl), (Nat.le_of_ble_eq_true rfl)⟩, (Nat.le_of_ble_eq_true rfl)⟩ rfl zw_821 zw_822 zw_0 zh_L_check dL_law_658 (fun x_96 M_96 hP _ x96 => ?_)
          have f_x1 := x96.t (k := 11) hT96 f_x1
          have f_x2 := x96.t (k := 12) hT96 f_x2
          have f_x3 := x96.t (k := 24) hT96 f_x3
          refine z_istore (lv' := [(5, z_I _), (0, z_O _), (1, z_O _), (2, z_O _), (3, z_O _), (4, z_I _)]) dL_law_661 (Nat.le_of_ble_eq_true rfl) rfl ?_
          refine z_pc (pc' := 663) rfl ?_
          refine z_aload_n dL_law_663 rfl 3 rfl ?_
          refine z_aload_n dL_law_664 rfl 1 rfl ?_
          refine z_iload dL_law_665 5 rfl ?_
          refine z_iconst (v := 1) dL_law_667 (by decide) ?_
          refine z_iadd dL_law_668 ?_
          obtain ⟨i97, hP⟩ := hP
          refine z_sld hkb i97 dL_law_669 ?_
          refine z_pc (pc' := 670) rfl ?_
          obtain ⟨a99, e99, hP⟩ := hP
          have k99 := f_x2 a99 e99
          refine z_wts (fun hT98 _ => ?_)
          refine z_cVv (c := 12) (n := 1) (Y1 := Y_X12_check) (st := []) e99 k99 z_cb12 (Nat.le_of_ble_eq_true rfl) rfl (s_X12_check k99 hP) rfl ⟨z_dc_X12_check, ⟨(Nat.le_of_ble_eq_true rfl), (Nat.le_of_ble_eq_true rfl)⟩, (Nat.le_of_ble_eq_true rfl)⟩ rfl zw_1622 zw_1623 zw_1624 zw_12 zw_1625 dL_law_670 (fun M_98 hP _ x98 => ?_)
          have f_x1 := x98.t (k := 11) hT98 f_x1
          have k99 := x98.k (k := 12) hT98 k99
          have f_x3 := x98.t (k := 24) hT98 f_x3
          refine z_goto (tgt := 1032) dL_law_673 (by decide) ?_
          refine z_sub (lv' := [(0, z_O _), (1, z_O _), (2, z_O _), (3, z_O _), (4, z_I _)]) [1, 2, 3, 4, 5] rfl ?_
          exact v_L_law_1032 hl9 hkb (fun _ _ _ _ _ w0 w1 w2 hP => ih w0 w1 w2 hP) f_x1 (z_trn e99 k99) f_x3 hP
        · cases htg
          replace hP := hP.2.2.2.2.2.2.2.2.2.2.2.2.1 h27
          refine z_aload_n dL_law_676 rfl 1 rfl ?_
          refine z_aload_n dL_law_677 rfl 0 rfl ?_
          refine z_pc (pc' := 678) rfl ?_
          refine z_iload dL_law_678 4 rfl ?_
          refine z_iconst (v := 1) dL_law_680 (by decide) ?_
          refine z_iadd dL_law_681 ?_
          obtain ⟨i100, hP⟩ := hP
          refine z_sld hkb i100 dL_law_682 ?_
          refine z_aload_n dL_law_683 rfl 3 rfl ?_
          refine z_wts (fun hT101 _ => ?_)
          refine z_cSHi (hh := hh_L_use) (n := 3) (Y1 := Y_L_use) (st := []) rfl (s_L_use hl9 f_x1 f_x3 hP) rfl ⟨z_dc_L_use, ⟨(Nat.le_of_ble_eq_true rfl), (Nat.le_of_ble_eq_true rfl)⟩, (Nat.le_of_ble_eq_true rfl)⟩ rfl zw_831 zw_832 zw_0 zh_L_use dL_law_684 (fun x_101 M_101 hP _ x101 => ?_)
          have f_x1 := x101.t (k := 11) hT101 f_x1
          have f_x2 := x101.t (k := 12) hT101 f_x2
          have f_x3 := x101.t (k := 24) hT101 f_x3
          refine z_pc (pc' := 687) rfl ?_
          refine z_istore (lv' := [(5, z_I _), (0, z_O _), (1, z_O _), (2, z_O _), (3, z_O _), (4, z_I _)]) dL_law_687 (Nat.le_of_ble_eq_true rfl) rfl ?_
          refine z_aload_n dL_law_689 rfl 3 rfl ?_
          refine z_aload_n dL_law_690 rfl 1 rfl ?_
          refine z_iload dL_law_691 5 rfl ?_
          refine z_iconst (v := 1) dL_law_693 (by decide) ?_
          refine z_iadd dL_law_694 ?_
          refine z_pc (pc' := 695) rfl ?_
          obtain ⟨i102, hP⟩ := hP
          refine z_sld hkb i102 dL_law_695 ?_
          obtain ⟨a104, e104, hP⟩ := hP
          have k104 := f_x2 a104 e104
          refine z_wts (fun hT103 _ => ?_)
          refine z_cVi (c := 12) (n := 1) (Y1 := Y_X12_use) (st := []) e104 k104 z_cb12 (Nat.le_of_ble_eq_true rfl) rfl (s_X12_use k104 hP) rfl ⟨z_dc_X12_use, ⟨(Nat.le_of_ble_eq_true rfl), (Nat.le_of_ble_eq_true rfl)⟩, (Nat.le_of_ble_eq_true rfl)⟩ rfl zw_1626 zw_1627 zw_1628 zw_12 zw_1629 dL_law_696 (fun x_103 M_103 hP _ x103 => ?_)
          have f_x1 := x103.t (k := 11) hT103 f_x1
          have k104 := x103.k (k := 12) hT103 k104
          have f_x3 := x103.t (k := 24) hT103 f_x3
          refine z_istore (lv' := [(6, z_I _), (5, z_I _), (0, z_O _), (1, z_O _), (2, z_O _), (3, z_O _), (4, z_I _)]) dL_law_699 (Nat.le_of_ble_eq_true rfl) rfl ?_
          refine z_goto (tgt := 1032) dL_law_701 (by decide) ?_
          refine z_sub (lv' := [(0, z_O _), (1, z_O _), (2, z_O _), (3, z_O _), (4, z_I _)]) [2, 3, 4, 5, 6] rfl ?_
          exact v_L_law_1032 hl9 hkb (fun _ _ _ _ _ w0 w1 w2 hP => ih w0 w1 w2 hP) f_x1 (z_trn e104 k104) f_x3 hP
        · cases htg
          replace hP := hP.2.2.2.2.2.2.2.2.2.2.2.2.2.1 h27
          refine z_aload_n dL_law_704 rfl 1 rfl ?_
          refine z_aload_n dL_law_705 rfl 3 rfl ?_
          refine z_pc (pc' := 706) rfl ?_
          refine z_wts (fun hT105 _ => ?_)
          refine z_cSHi (hh := hh_L_changeKey) (n := 2) (Y1 := Y_L_changeKey) (st := []) rfl (s_L_changeKey hl9 f_x1 f_x3 hP) rfl ⟨z_dc_L_changeKey, ⟨(Nat.le_of_ble_eq_true rfl), (Nat.le_of_ble_eq_true rfl)⟩, (Nat.le_of_ble_eq_true rfl)⟩ rfl zw_838 zw_839 zw_0 zh_L_changeKey dL_law_706 (fun x_105 M_105 hP _ x105 => ?_)
          have f_x1 := x105.t (k := 11) hT105 f_x1
          have f_x2 := x105.t (k := 12) hT105 f_x2
          have f_x3 := x105.t (k := 24) hT105 f_x3
          refine z_istore (lv' := [(5, z_I _), (0, z_O _), (1, z_O _), (2, z_O _), (3, z_O _), (4, z_I _)]) dL_law_709 (Nat.le_of_ble_eq_true rfl) rfl ?_
          refine z_aload_n dL_law_711 rfl 3 rfl ?_
          obtain ⟨a107, e107, hP⟩ := hP
          have k107 := f_x2 a107 e107
          refine z_wts (fun hT106 _ => ?_)
          refine z_cVi (c := 12) (n := 0) (Y1 := Y_X12_changeKey) (st := []) e107 k107 z_cb12 (Nat.le_of_ble_eq_true rfl) rfl (s_X12_changeKey k107 hP) rfl ⟨z_dc_X12_changeKey, ⟨(Nat.le_of_ble_eq_true rfl), (Nat.le_of_ble_eq_true rfl)⟩, (Nat.le_of_ble_eq_true rfl)⟩ rfl zw_1630 zw_1631 zw_1632 zw_12 zw_1633 dL_law_712 (fun x_106 M_106 hP _ x106 => ?_)
          have f_x1 := x106.t (k := 11) hT106 f_x1
          have k107 := x106.k (k := 12) hT106 k107
          have f_x3 := x106.t (k := 24) hT106 f_x3
          refine z_istore (lv' := [(6, z_I _), (5, z_I _), (0, z_O _), (1, z_O _), (2, z_O _), (3, z_O _), (4, z_I _)]) dL_law_715 (Nat.le_of_ble_eq_true rfl) rfl ?_
          refine z_goto (tgt := 1032) dL_law_717 (by decide) ?_
          refine z_sub (lv' := [(0, z_O _), (1, z_O _), (2, z_O _), (3, z_O _), (4, z_I _)]) [2, 3, 4, 5, 6] rfl ?_
          exact v_L_law_1032 hl9 hkb (fun _ _ _ _ _ w0 w1 w2 hP => ih w0 w1 w2 hP) f_x1 (z_trn e107 k107) f_x3 hP
        · cases htg
          replace hP := hP.2.2.2.2.2.2.2.2.2.2.2.2.2.2.1 h27
          refine z_aload_n dL_law_720 rfl 1 rfl ?_
          refine z_wts (fun hT108 _ => ?_)
          refine z_cSHi (hh := hh_L_close) (n := 1) (Y1 := Y_L_close) (st := []) rfl (s_L_close hl9 f_x1 hP) rfl ⟨z_dc_L_close, ⟨(Nat.le_of_ble_eq_true rfl), (Nat.le_of_ble_eq_true rfl)⟩, (Nat.le_of_ble_eq_true rfl)⟩ rfl zw_856 zw_857 zw_0 zh_L_close dL_law_721 (fun x_108 M_108 hP _ x108 => ?_)
          have f_x1 := x108.t (k := 11) hT108 f_x1
          have f_x2 := x108.t (k := 12) hT108 f_x2
          have f_x3 := x108.t (k := 24) hT108 f_x3
          refine z_pc (pc' := 724) rfl ?_
          refine z_istore (lv' := [(5, z_I _), (0, z_O _), (1, z_O _), (2, z_O _), (3, z_O _), (4, z_I _)]) dL_law_724 (Nat.le_of_ble_eq_true rfl) rfl ?_
          refine z_aload_n dL_law_726 rfl 3 rfl ?_
          obtain ⟨a110, e110, hP⟩ := hP
          have k110 := f_x2 a110 e110
          refine z_wts (fun hT109 _ => ?_)
          refine z_cVv (c := 12) (n := 0) (Y1 := Y_X12_close) (st := []) e110 k110 z_cb12 (Nat.le_of_ble_eq_true rfl) rfl (s_X12_close k110 hP) rfl ⟨z_dc_X12_close, ⟨(Nat.le_of_ble_eq_true rfl), (Nat.le_of_ble_eq_true rfl)⟩, (Nat.le_of_ble_eq_true rfl)⟩ rfl zw_1634 zw_1635 zw_1636 zw_12 zw_1637 dL_law_727 (fun M_109 hP _ x109 => ?_)
          have f_x1 := x109.t (k := 11) hT109 f_x1
          have k110 := x109.k (k := 12) hT109 k110
          have f_x3 := x109.t (k := 24) hT109 f_x3
          refine z_goto (tgt := 1032) dL_law_730 (by decide) ?_
          refine z_sub (lv' := [(0, z_O _), (1, z_O _), (2, z_O _), (3, z_O _), (4, z_I _)]) [1, 2, 3, 4, 5] rfl ?_
          exact v_L_law_1032 hl9 hkb (fun _ _ _ _ _ w0 w1 w2 hP => ih w0 w1 w2 hP) f_x1 (z_trn e110 k110) f_x3 hP
        · cases htg
          replace hP := hP.2.2.2.2.2.2.2.2.2.2.2.2.2.2.2.1 h27
          refine z_aload_n dL_law_733 rfl 1 rfl ?_
          refine z_aload_n dL_law_734 rfl 0 rfl ?_
          refine z_pc (pc' := 735) rfl ?_
          refine z_iload dL_law_735 4 rfl ?_
          refine z_iconst (v := 1) dL_law_737 (by decide) ?_
          refine z_iadd dL_law_738 ?_
          obtain ⟨i111, hP⟩ := hP
          refine z_sld hkb i111 dL_law_739 ?_
          refine z_aload_n dL_law_740 rfl 3 rfl ?_
          refine z_wts (fun hT112 _ => ?_)
          refine z_cSHi (hh := hh_L_tick) (n := 3) (Y1 := Y_L_tick) (st := []) rfl (s_L_tick hl9 f_x1 f_x3 hP) rfl ⟨z_dc_L_tick, ⟨(Nat.le_of_ble_eq_true rfl), (Nat.le_of_ble_eq_true rfl)⟩, (Nat.le_of_ble_eq_true rfl)⟩ rfl zw_867 zw_868 zw_0 zh_L_tick dL_law_741 (fun x_112 M_112 hP _ x112 => ?_)
          have f_x1 := x112.t (k := 11) hT112 f_x1
          have f_x2 := x112.t (k := 12) hT112 f_x2
          have f_x3 := x112.t (k := 24) hT112 f_x3
          refine z_pc (pc' := 744) rfl ?_
          refine z_istore (lv' := [(5, z_I _), (0, z_O _), (1, z_O _), (2, z_O _), (3, z_O _), (4, z_I _)]) dL_law_744 (Nat.le_of_ble_eq_true rfl) rfl ?_
          refine z_aload_n dL_law_746 rfl 3 rfl ?_
          refine z_aload_n dL_law_747 rfl 1 rfl ?_
          refine z_iload dL_law_748 5 rfl ?_
          refine z_iconst (v := 1) dL_law_750 (by decide) ?_
          refine z_iadd dL_law_751 ?_
          refine z_pc (pc' := 752) rfl ?_
          obtain ⟨i113, hP⟩ := hP
          refine z_sld hkb i113 dL_law_752 ?_
          obtain ⟨a115, e115, hP⟩ := hP
          have k115 := f_x2 a115 e115
          refine z_wts (fun hT114 _ => ?_)
          refine z_cVi (c := 12) (n := 1) (Y1 := Y_X12_tick) (st := []) e115 k115 z_cb12 (Nat.le_of_ble_eq_true rfl) rfl (s_X12_tick k115 hP) rfl ⟨z_dc_X12_tick, ⟨(Nat.le_of_ble_eq_true rfl), (Nat.le_of_ble_eq_true rfl)⟩, (Nat.le_of_ble_eq_true rfl)⟩ rfl zw_1638 zw_1639 zw_1640 zw_12 zw_1641 dL_law_753 (fun x_114 M_114 hP _ x114 => ?_)
          have f_x1 := x114.t (k := 11) hT114 f_x1
          have k115 := x114.k (k := 12) hT114 k115
          have f_x3 := x114.t (k := 24) hT114 f_x3
          refine z_istore (lv' := [(6, z_I _), (5, z_I _), (0, z_O _), (1, z_O _), (2, z_O _), (3, z_O _), (4, z_I _)]) dL_law_756 (Nat.le_of_ble_eq_true rfl) rfl ?_
          refine z_goto (tgt := 1032) dL_law_758 (by decide) ?_
          refine z_sub (lv' := [(0, z_O _), (1, z_O _), (2, z_O _), (3, z_O _), (4, z_I _)]) [2, 3, 4, 5, 6] rfl ?_
          exact v_L_law_1032 hl9 hkb (fun _ _ _ _ _ w0 w1 w2 hP => ih w0 w1 w2 hP) f_x1 (z_trn e115 k115) f_x3 hP
        · cases htg
          replace hP := hP.2.2.2.2.2.2.2.2.2.2.2.2.2.2.2.2.1 h27
          refine z_aload_n dL_law_761 rfl 1 rfl ?_
          obtain ⟨a117, e117, hP⟩ := hP
          have k117 := f_x1 a117 e117
          refine z_wts (fun hT116 _ => ?_)
          refine z_cVi (c := 11) (n := 0) (Y1 := Y_X11_now) (st := []) e117 k117 z_cb11 (Nat.le_of_ble_eq_true rfl) rfl (s_X11_now k117 hP) rfl ⟨z_dc_X11_now, ⟨(Nat.le_of_ble_eq_true rfl), (Nat.le_of_ble_eq_true rfl)⟩, (Nat.le_of_ble_eq_true rfl)⟩ rfl zw_520 zw_521 zw_522 zw_1 zw_523 dL_law_762 (fun x_116 M_116 hP _ x116 => ?_)
          have k117 := x116.k (k := 11) hT116 k117
          have f_x2 := x116.t (k := 12) hT116 f_x2
          have f_x3 := x116.t (k := 24) hT116 f_x3
          refine z_pc (pc' := 765) rfl ?_
          refine z_pop dL_law_765 rfl ?_
          refine z_aload_n dL_law_766 rfl 2 rfl ?_
          obtain ⟨a119, e119, hP⟩ := hP
          have k119 := f_x2 a119 e119
          refine z_wts (fun hT118 _ => ?_)
          refine z_cVi (c := 12) (n := 0) (Y1 := Y_X12_now) (st := []) e119 k119 z_cb12 (Nat.le_of_ble_eq_true rfl) rfl (s_X12_now k119 hP) rfl ⟨z_dc_X12_now, ⟨(Nat.le_of_ble_eq_true rfl), (Nat.le_of_ble_eq_true rfl)⟩, (Nat.le_of_ble_eq_true rfl)⟩ rfl zw_1766 zw_1767 zw_1768 zw_12 zw_1769 dL_law_767 (fun x_118 M_118 hP _ x118 => ?_)
          have k117 := x118.k (k := 11) hT118 k117
          have k119 := x118.k (k := 12) hT118 k119
          have f_x3 := x118.t (k := 24) hT118 f_x3
          refine z_pop dL_law_770 rfl ?_
          refine z_goto (tgt := 1032) dL_law_771 (by decide) ?_
          refine z_sub (lv' := [(0, z_O _), (1, z_O _), (2, z_O _), (3, z_O _), (4, z_I _)]) [0, 1, 2, 3, 4] rfl ?_
          exact v_L_law_1032 hl9 hkb (fun _ _ _ _ _ w0 w1 w2 hP => ih w0 w1 w2 hP) (z_trn e117 k117) (z_trn e119 k119) f_x3 hP
        · cases htg
          replace hP := hP.2.2.2.2.2.2.2.2.2.2.2.2.2.2.2.2.2.1 h27
          refine z_aload_n dL_law_774 rfl 1 rfl ?_
          refine z_aload_n dL_law_775 rfl 0 rfl ?_
          refine z_pc (pc' := 776) rfl ?_
          refine z_iload dL_law_776 4 rfl ?_
          refine z_iconst (v := 1) dL_law_778 (by decide) ?_
          refine z_iadd dL_law_779 ?_
          obtain ⟨i120, hP⟩ := hP
          refine z_sld hkb i120 dL_law_780 ?_
          refine z_aload_n dL_law_781 rfl 3 rfl ?_
          refine z_wts (fun hT121 _ => ?_)
          refine z_cSHi (hh := hh_L_state) (n := 3) (Y1 := Y_L_state) (st := []) rfl (s_L_state hl9 f_x1 f_x3 hP) rfl ⟨z_dc_L_state, ⟨(Nat.le_of_ble_eq_true rfl), (Nat.le_of_ble_eq_true rfl)⟩, (Nat.le_of_ble_eq_true rfl)⟩ rfl zw_1186 zw_1187 zw_0 zh_L_state dL_law_782 (fun x_121 M_121 hP _ x121 => ?_)
          have f_x1 := x121.t (k := 11) hT121 f_x1
          have f_x2 := x121.t (k := 12) hT121 f_x2
          have f_x3 := x121.t (k := 24) hT121 f_x3
          refine z_pc (pc' := 785) rfl ?_
          refine z_istore (lv' := [(5, z_I _), (0, z_O _), (1, z_O _), (2, z_O _), (3, z_O _), (4, z_I _)]) dL_law_785 (Nat.le_of_ble_eq_true rfl) rfl ?_
          refine z_aload_n dL_law_787 rfl 3 rfl ?_
          refine z_aload_n dL_law_788 rfl 1 rfl ?_
          refine z_iload dL_law_789 5 rfl ?_
          refine z_iconst (v := 1) dL_law_791 (by decide) ?_
          refine z_iadd dL_law_792 ?_
          refine z_pc (pc' := 793) rfl ?_
          obtain ⟨i122, hP⟩ := hP
          refine z_sld hkb i122 dL_law_793 ?_
          obtain ⟨a124, e124, hP⟩ := hP
          have k124 := f_x2 a124 e124
          refine z_wts (fun hT123 _ => ?_)
          refine z_cVi (c := 12) (n := 1) (Y1 := Y_X12_state) (st := []) e124 k124 z_cb12 (Nat.le_of_ble_eq_true rfl) rfl (s_X12_state k124 hP) rfl ⟨z_dc_X12_state, ⟨(Nat.le_of_ble_eq_true rfl), (Nat.le_of_ble_eq_true rfl)⟩, (Nat.le_of_ble_eq_true rfl)⟩ rfl zw_1770 zw_1771 zw_1772 zw_12 zw_1773 dL_law_794 (fun x_123 M_123 hP _ x123 => ?_)
          have f_x1 := x123.t (k := 11) hT123 f_x1
          have k124 := x123.k (k := 12) hT123 k124
          have f_x3 := x123.t (k := 24) hT123 f_x3
          refine z_istore (lv' := [(6, z_I _), (5, z_I _), (0, z_O _), (1, z_O _), (2, z_O _), (3, z_O _), (4, z_I _)]) dL_law_797 (Nat.le_of_ble_eq_true rfl) rfl ?_
          refine z_goto (tgt := 1032) dL_law_799 (by decide) ?_
          refine z_sub (lv' := [(0, z_O _), (1, z_O _), (2, z_O _), (3, z_O _), (4, z_I _)]) [2, 3, 4, 5, 6] rfl ?_
          exact v_L_law_1032 hl9 hkb (fun _ _ _ _ _ w0 w1 w2 hP => ih w0 w1 w2 hP) f_x1 (z_trn e124 k124) f_x3 hP
        · cases htg
          replace hP := hP.2.2.2.2.2.2.2.2.2.2.2.2.2.2.2.2.2.2.1 h27
          refine z_aload_n dL_law_802 rfl 1 rfl ?_
          refine z_aload_n dL_law_803 rfl 0 rfl ?_
          refine z_pc (pc' := 804) rfl ?_
          refine z_iload dL_law_804 4 rfl ?_
          refine z_iconst (v := 1) dL_law_806 (by decide) ?_
          refine z_iadd dL_law_807 ?_
          obtain ⟨i125, hP⟩ := hP
          refine z_sld hkb i125 dL_law_808 ?_
          refine z_aload_n dL_law_809 rfl 0 rfl ?_
          refine z_iload dL_law_810 4 rfl ?_
          refine z_pc (pc' := 812) rfl ?_
          refine z_iconst (v := 2) dL_law_812 (by decide) ?_
          refine z_iadd dL_law_813 ?_
          obtain ⟨i126, hP⟩ := hP
          refine z_sld hkb i126 dL_law_814 ?_
          refine z_aload_n dL_law_815 rfl 3 rfl ?_
          refine z_wts (fun hT127 _ => ?_)
          refine z_cSHi (hh := hh_L_path) (n := 4) (Y1 := Y_L_path) (st := []) rfl (s_L_path hl9 f_x1 f_x3 hP) rfl ⟨z_dc_L_path, ⟨(Nat.le_of_ble_eq_true rfl), (Nat.le_of_ble_eq_true rfl)⟩, (Nat.le_of_ble_eq_true rfl)⟩ rfl zw_1193 zw_1194 zw_0 zh_L_path dL_law_816 (fun x_127 M_127 hP _ x127 => ?_)
          have f_x1 := x127.t (k := 11) hT127 f_x1
          have f_x2 := x127.t (k := 12) hT127 f_x2
          have f_x3 := x127.t (k := 24) hT127 f_x3
          refine z_istore (lv' := [(5, z_I _), (0, z_O _), (1, z_O _), (2, z_O _), (3, z_O _), (4, z_I _)]) dL_law_819 (Nat.le_of_ble_eq_true rfl) rfl ?_
          refine z_pc (pc' := 821) rfl ?_
          refine z_aload_n dL_law_821 rfl 3 rfl ?_
          refine z_aload_n dL_law_822 rfl 1 rfl ?_
          refine z_iload dL_law_823 5 rfl ?_
          refine z_iconst (v := 1) dL_law_825 (by decide) ?_
          refine z_iadd dL_law_826 ?_
          obtain ⟨i128, hP⟩ := hP
          refine z_sld hkb i128 dL_law_827 ?_
          refine z_pc (pc' := 828) rfl ?_
          refine z_aload_n dL_law_828 rfl 1 rfl ?_
          refine z_iload dL_law_829 5 rfl ?_
          refine z_iconst (v := 2) dL_law_831 (by decide) ?_
          refine z_iadd dL_law_832 ?_
          obtain ⟨i129, hP⟩ := hP
          refine z_sld hkb i129 dL_law_833 ?_
          obtain ⟨a131, e131, hP⟩ := hP
          have k131 := f_x2 a131 e131
          refine z_wts (fun hT130 _ => ?_)
          refine z_cVi (c := 12) (n := 2) (Y1 := Y_X12_path) (st := []) e131 k131 z_cb12 (Nat.le_of_ble_eq_true rfl) rfl (s_X12_path k131 hP) rfl ⟨z_dc_X12_path, ⟨(Nat.le_of_ble_eq_true rfl), (Nat.le_of_ble_eq_true rfl)⟩, (Nat.le_of_ble_eq_true rfl)⟩ rfl zw_1774 zw_1775 zw_1776 zw_12 zw_1777 dL_law_834 (fun x_130 M_130 hP _ x130 => ?_)
          have f_x1 := x130.t (k := 11) hT130 f_x1
          have k131 := x130.k (k := 12) hT130 k131
          have f_x3 := x130.t (k := 24) hT130 f_x3
          refine z_pc (pc' := 837) rfl ?_
          refine z_istore (lv' := [(6, z_I _), (5, z_I _), (0, z_O _), (1, z_O _), (2, z_O _), (3, z_O _), (4, z_I _)]) dL_law_837 (Nat.le_of_ble_eq_true rfl) rfl ?_
          refine z_goto (tgt := 1032) dL_law_839 (by decide) ?_
          refine z_sub (lv' := [(0, z_O _), (1, z_O _), (2, z_O _), (3, z_O _), (4, z_I _)]) [2, 3, 4, 5, 6] rfl ?_
          exact v_L_law_1032 hl9 hkb (fun _ _ _ _ _ w0 w1 w2 hP => ih w0 w1 w2 hP) f_x1 (z_trn e131 k131) f_x3 hP
        · cases htg
          replace hP := hP.2.2.2.2.2.2.2.2.2.2.2.2.2.2.2.2.2.2.2.1 h27
          refine z_aload_n dL_law_842 rfl 1 rfl ?_
          refine z_aload_n dL_law_843 rfl 0 rfl ?_
          refine z_pc (pc' := 844) rfl ?_
          refine z_iload dL_law_844 4 rfl ?_
          refine z_iconst (v := 1) dL_law_846 (by decide) ?_
          refine z_iadd dL_law_847 ?_
          obtain ⟨i132, hP⟩ := hP
          refine z_sld hkb i132 dL_law_848 ?_
          refine z_aload_n dL_law_849 rfl 0 rfl ?_
          refine z_iload dL_law_850 4 rfl ?_
          refine z_pc (pc' := 852) rfl ?_
          refine z_iconst (v := 2) dL_law_852 (by decide) ?_
          refine z_iadd dL_law_853 ?_
          obtain ⟨i133, hP⟩ := hP
          refine z_sld hkb i133 dL_law_854 ?_
          refine z_aload_n dL_law_855 rfl 3 rfl ?_
          refine z_wts (fun hT134 _ => ?_)
          refine z_cSHi (hh := hh_L_stream) (n := 4) (Y1 := Y_L_stream) (st := []) rfl (s_L_stream hl9 f_x1 f_x3 hP) rfl ⟨z_dc_L_stream, ⟨(Nat.le_of_ble_eq_true rfl), (Nat.le_of_ble_eq_true rfl)⟩, (Nat.le_of_ble_eq_true rfl)⟩ rfl zw_1203 zw_1204 zw_0 zh_L_stream dL_law_856 (fun x_134 M_134 hP _ x134 => ?_)
          have f_x1 := x134.t (k := 11) hT134 f_x1
          have f_x2 := x134.t (k := 12) hT134 f_x2
          have f_x3 := x134.t (k := 24) hT134 f_x3
          refine z_istore (lv' := [(5, z_I _), (0, z_O _), (1, z_O _), (2, z_O _), (3, z_O _), (4, z_I _)]) dL_law_859 (Nat.le_of_ble_eq_true rfl) rfl ?_
          refine z_pc (pc' := 861) rfl ?_
          refine z_aload_n dL_law_861 rfl 3 rfl ?_
          refine z_aload_n dL_law_862 rfl 1 rfl ?_
          refine z_iload dL_law_863 5 rfl ?_
          refine z_iconst (v := 1) dL_law_865 (by decide) ?_
          refine z_iadd dL_law_866 ?_
          obtain ⟨i135, hP⟩ := hP
          refine z_sld hkb i135 dL_law_867 ?_
          refine z_pc (pc' := 868) rfl ?_
          refine z_aload_n dL_law_868 rfl 1 rfl ?_
          refine z_iload dL_law_869 5 rfl ?_
          refine z_iconst (v := 2) dL_law_871 (by decide) ?_
          refine z_iadd dL_law_872 ?_
          obtain ⟨i136, hP⟩ := hP
          refine z_sld hkb i136 dL_law_873 ?_
          obtain ⟨a138, e138, hP⟩ := hP
          have k138 := f_x2 a138 e138
          refine z_wts (fun hT137 _ => ?_)
          refine z_cVi (c := 12) (n := 2) (Y1 := Y_X12_stream) (st := []) e138 k138 z_cb12 (Nat.le_of_ble_eq_true rfl) rfl (s_X12_stream k138 hP) rfl ⟨z_dc_X12_stream, ⟨(Nat.le_of_ble_eq_true rfl), (Nat.le_of_ble_eq_true rfl)⟩, (Nat.le_of_ble_eq_true rfl)⟩ rfl zw_1778 zw_1779 zw_1780 zw_12 zw_1781 dL_law_874 (fun x_137 M_137 hP _ x137 => ?_)
          have f_x1 := x137.t (k := 11) hT137 f_x1
          have k138 := x137.k (k := 12) hT137 k138
          have f_x3 := x137.t (k := 24) hT137 f_x3
          refine z_pc (pc' := 877) rfl ?_
          refine z_istore (lv' := [(6, z_I _), (5, z_I _), (0, z_O _), (1, z_O _), (2, z_O _), (3, z_O _), (4, z_I _)]) dL_law_877 (Nat.le_of_ble_eq_true rfl) rfl ?_
          refine z_goto (tgt := 1032) dL_law_879 (by decide) ?_
          refine z_sub (lv' := [(0, z_O _), (1, z_O _), (2, z_O _), (3, z_O _), (4, z_I _)]) [2, 3, 4, 5, 6] rfl ?_
          exact v_L_law_1032 hl9 hkb (fun _ _ _ _ _ w0 w1 w2 hP => ih w0 w1 w2 hP) f_x1 (z_trn e138 k138) f_x3 hP
        · cases htg
          replace hP := hP.2.2.2.2.2.2.2.2.2.2.2.2.2.2.2.2.2.2.2.2.1 h27
          refine z_aload_n dL_law_882 rfl 1 rfl ?_
          obtain ⟨a140, e140, hP⟩ := hP
          have k140 := f_x1 a140 e140
          refine z_wts (fun hT139 _ => ?_)
          refine z_cVi (c := 11) (n := 0) (Y1 := Y_X11_credit) (st := []) e140 k140 z_cb11 (Nat.le_of_ble_eq_true rfl) rfl (s_X11_credit k140 hP) rfl ⟨z_dc_X11_credit, ⟨(Nat.le_of_ble_eq_true rfl), (Nat.le_of_ble_eq_true rfl)⟩, (Nat.le_of_ble_eq_true rfl)⟩ rfl zw_524 zw_525 zw_526 zw_1 zw_527 dL_law_883 (fun x_139 M_139 hP _ x139 => ?_)
          have k140 := x139.k (k := 11) hT139 k140
          have f_x2 := x139.t (k := 12) hT139 f_x2
          have f_x3 := x139.t (k := 24) hT139 f_x3
          refine z_pc (pc' := 886) rfl ?_
          refine z_pop dL_law_886 rfl ?_
          refine z_aload_n dL_law_887 rfl 2 rfl ?_
          obtain ⟨a142, e142, hP⟩ := hP
          have k142 := f_x2 a142 e142
          refine z_wts (fun hT141 _ => ?_)
          refine z_cVi (c := 12) (n := 0) (Y1 := Y_X12_credit) (st := []) e142 k142 z_cb12 (Nat.le_of_ble_eq_true rfl) rfl (s_X12_credit k142 hP) rfl ⟨z_dc_X12_credit, ⟨(Nat.le_of_ble_eq_true rfl), (Nat.le_of_ble_eq_true rfl)⟩, (Nat.le_of_ble_eq_true rfl)⟩ rfl zw_1782 zw_1783 zw_1784 zw_12 zw_1785 dL_law_888 (fun x_141 M_141 hP _ x141 => ?_)
          have k140 := x141.k (k := 11) hT141 k140
          have k142 := x141.k (k := 12) hT141 k142
          have f_x3 := x141.t (k := 24) hT141 f_x3
          refine z_pop dL_law_891 rfl ?_
          refine z_goto (tgt := 1032) dL_law_892 (by decide) ?_
          refine z_sub (lv' := [(0, z_O _), (1, z_O _), (2, z_O _), (3, z_O _), (4, z_I _)]) [0, 1, 2, 3, 4] rfl ?_
          exact v_L_law_1032 hl9 hkb (fun _ _ _ _ _ w0 w1 w2 hP => ih w0 w1 w2 hP) (z_trn e140 k140) (z_trn e142 k142) f_x3 hP
        · cases htg
          replace hP := hP.2.2.2.2.2.2.2.2.2.2.2.2.2.2.2.2.2.2.2.2.2.1 h27
          refine z_aload_n dL_law_895 rfl 1 rfl ?_
          obtain ⟨a144, e144, hP⟩ := hP
          have k144 := f_x1 a144 e144
          refine z_wts (fun hT143 _ => ?_)
          refine z_cVi (c := 11) (n := 0) (Y1 := Y_X11_packets) (st := []) e144 k144 z_cb11 (Nat.le_of_ble_eq_true rfl) rfl (s_X11_packets k144 hP) rfl ⟨z_dc_X11_packets, ⟨(Nat.le_of_ble_eq_true rfl), (Nat.le_of_ble_eq_true rfl)⟩, (Nat.le_of_ble_eq_true rfl)⟩ rfl zw_528 zw_529 zw_530 zw_1 zw_531 dL_law_896 (fun x_143 M_143 hP _ x143 => ?_)
          have k144 := x143.k (k := 11) hT143 k144
          have f_x2 := x143.t (k := 12) hT143 f_x2
          have f_x3 := x143.t (k := 24) hT143 f_x3
          refine z_pc (pc' := 899) rfl ?_
          refine z_pop dL_law_899 rfl ?_
          refine z_aload_n dL_law_900 rfl 2 rfl ?_
          obtain ⟨a146, e146, hP⟩ := hP
          have k146 := f_x2 a146 e146
          refine z_wts (fun hT145 _ => ?_)
          refine z_cVi (c := 12) (n := 0) (Y1 := Y_X12_packets) (st := []) e146 k146 z_cb12 (Nat.le_of_ble_eq_true rfl) rfl (s_X12_packets k146 hP) rfl ⟨z_dc_X12_packets, ⟨(Nat.le_of_ble_eq_true rfl), (Nat.le_of_ble_eq_true rfl)⟩, (Nat.le_of_ble_eq_true rfl)⟩ rfl zw_1786 zw_1787 zw_1788 zw_12 zw_1789 dL_law_901 (fun x_145 M_145 hP _ x145 => ?_)
          have k144 := x145.k (k := 11) hT145 k144
          have k146 := x145.k (k := 12) hT145 k146
          have f_x3 := x145.t (k := 24) hT145 f_x3
          refine z_pop dL_law_904 rfl ?_
          refine z_goto (tgt := 1032) dL_law_905 (by decide) ?_
          refine z_sub (lv' := [(0, z_O _), (1, z_O _), (2, z_O _), (3, z_O _), (4, z_I _)]) [0, 1, 2, 3, 4] rfl ?_
          exact v_L_law_1032 hl9 hkb (fun _ _ _ _ _ w0 w1 w2 hP => ih w0 w1 w2 hP) (z_trn e144 k144) (z_trn e146 k146) f_x3 hP
        · cases htg
          replace hP := hP.2.2.2.2.2.2.2.2.2.2.2.2.2.2.2.2.2.2.2.2.2.2.1 h27
          refine z_aload_n dL_law_908 rfl 1 rfl ?_
          refine z_aload_n dL_law_909 rfl 0 rfl ?_
          refine z_pc (pc' := 910) rfl ?_
          refine z_iload dL_law_910 4 rfl ?_
          refine z_iconst (v := 1) dL_law_912 (by decide) ?_
          refine z_iadd dL_law_913 ?_
          obtain ⟨i147, hP⟩ := hP
          refine z_sld hkb i147 dL_law_914 ?_
          refine z_aload_n dL_law_915 rfl 0 rfl ?_
          refine z_iload dL_law_916 4 rfl ?_
          refine z_pc (pc' := 918) rfl ?_
          refine z_iconst (v := 2) dL_law_918 (by decide) ?_
          refine z_iadd dL_law_919 ?_
          obtain ⟨i148, hP⟩ := hP
          refine z_sld hkb i148 dL_law_920 ?_
          refine z_aload_n dL_law_921 rfl 3 rfl ?_
          refine z_wts (fun hT149 _ => ?_)
          refine z_cSHi (hh := hh_L_packet) (n := 4) (Y1 := Y_L_packet) (st := []) rfl (s_L_packet hl9 f_x1 f_x3 hP) rfl ⟨z_dc_L_packet, ⟨(Nat.le_of_ble_eq_true rfl), (Nat.le_of_ble_eq_true rfl)⟩, (Nat.le_of_ble_eq_true rfl)⟩ rfl zw_1210 zw_1211 zw_0 zh_L_packet dL_law_922 (fun x_149 M_149 hP _ x149 => ?_)
          have f_x1 := x149.t (k := 11) hT149 f_x1
          have f_x2 := x149.t (k := 12) hT149 f_x2
          have f_x3 := x149.t (k := 24) hT149 f_x3
          refine z_istore (lv' := [(5, z_I _), (0, z_O _), (1, z_O _), (2, z_O _), (3, z_O _), (4, z_I _)]) dL_law_925 (Nat.le_of_ble_eq_true rfl) rfl ?_
          refine z_pc (pc' := 927) rfl ?_
          refine z_aload_n dL_law_927 rfl 3 rfl ?_
          refine z_aload_n dL_law_928 rfl 1 rfl ?_
          refine z_iload dL_law_929 5 rfl ?_
          refine z_iconst (v := 1) dL_law_931 (by decide) ?_
          refine z_iadd dL_law_932 ?_
          obtain ⟨i150, hP⟩ := hP
          refine z_sld hkb i150 dL_law_933 ?_
          refine z_pc (pc' := 934) rfl ?_
          refine z_aload_n dL_law_934 rfl 1 rfl ?_
          refine z_iload dL_law_935 5 rfl ?_
          refine z_iconst (v := 2) dL_law_937 (by decide) ?_
          refine z_iadd dL_law_938 ?_
          obtain ⟨i151, hP⟩ := hP
          refine z_sld hkb i151 dL_law_939 ?_
          obtain ⟨a153, e153, hP⟩ := hP
          have k153 := f_x2 a153 e153
          refine z_wts (fun hT152 _ => ?_)
          refine z_cVi (c := 12) (n := 2) (Y1 := Y_X12_packet) (st := []) e153 k153 z_cb12 (Nat.le_of_ble_eq_true rfl) rfl (s_X12_packet k153 hP) rfl ⟨z_dc_X12_packet, ⟨(Nat.le_of_ble_eq_true rfl), (Nat.le_of_ble_eq_true rfl)⟩, (Nat.le_of_ble_eq_true rfl)⟩ rfl zw_1790 zw_1791 zw_1792 zw_12 zw_1793 dL_law_940 (fun x_152 M_152 hP _ x152 => ?_)
          have f_x1 := x152.t (k := 11) hT152 f_x1
          have k153 := x152.k (k := 12) hT152 k153
          have f_x3 := x152.t (k := 24) hT152 f_x3
          refine z_pc (pc' := 943) rfl ?_
          refine z_istore (lv' := [(6, z_I _), (5, z_I _), (0, z_O _), (1, z_O _), (2, z_O _), (3, z_O _), (4, z_I _)]) dL_law_943 (Nat.le_of_ble_eq_true rfl) rfl ?_
          refine z_goto (tgt := 1032) dL_law_945 (by decide) ?_
          refine z_sub (lv' := [(0, z_O _), (1, z_O _), (2, z_O _), (3, z_O _), (4, z_I _)]) [2, 3, 4, 5, 6] rfl ?_
          exact v_L_law_1032 hl9 hkb (fun _ _ _ _ _ w0 w1 w2 hP => ih w0 w1 w2 hP) f_x1 (z_trn e153 k153) f_x3 hP
        · cases htg
          replace hP := hP.2.2.2.2.2.2.2.2.2.2.2.2.2.2.2.2.2.2.2.2.2.2.2.1 h27
          refine z_aload_n dL_law_948 rfl 1 rfl ?_
          refine z_aload_n dL_law_949 rfl 0 rfl ?_
          refine z_pc (pc' := 950) rfl ?_
          refine z_iload dL_law_950 4 rfl ?_
          refine z_iconst (v := 1) dL_law_952 (by decide) ?_
          refine z_iadd dL_law_953 ?_
          obtain ⟨i154, hP⟩ := hP
          refine z_sld hkb i154 dL_law_954 ?_
          refine z_aload_n dL_law_955 rfl 3 rfl ?_
          refine z_wts (fun hT155 _ => ?_)
          refine z_cSHi (hh := hh_L_count) (n := 3) (Y1 := Y_L_count) (st := []) rfl (s_L_count hl9 f_x1 f_x3 hP) rfl ⟨z_dc_L_count, ⟨(Nat.le_of_ble_eq_true rfl), (Nat.le_of_ble_eq_true rfl)⟩, (Nat.le_of_ble_eq_true rfl)⟩ rfl zw_1223 zw_1224 zw_0 zh_L_count dL_law_956 (fun x_155 M_155 hP _ x155 => ?_)
          have f_x1 := x155.t (k := 11) hT155 f_x1
          have f_x2 := x155.t (k := 12) hT155 f_x2
          have f_x3 := x155.t (k := 24) hT155 f_x3
          refine z_pc (pc' := 959) rfl ?_
          refine z_istore (lv' := [(5, z_I _), (0, z_O _), (1, z_O _), (2, z_O _), (3, z_O _), (4, z_I _)]) dL_law_959 (Nat.le_of_ble_eq_true rfl) rfl ?_
          refine z_aload_n dL_law_961 rfl 3 rfl ?_
          refine z_aload_n dL_law_962 rfl 1 rfl ?_
          refine z_iload dL_law_963 5 rfl ?_
          refine z_iconst (v := 1) dL_law_965 (by decide) ?_
          refine z_iadd dL_law_966 ?_
          refine z_pc (pc' := 967) rfl ?_
          obtain ⟨i156, hP⟩ := hP
          refine z_sld hkb i156 dL_law_967 ?_
          obtain ⟨a158, e158, hP⟩ := hP
          have k158 := f_x2 a158 e158
          refine z_wts (fun hT157 _ => ?_)
          refine z_cVi (c := 12) (n := 1) (Y1 := Y_X12_count) (st := []) e158 k158 z_cb12 (Nat.le_of_ble_eq_true rfl) rfl (s_X12_count k158 hP) rfl ⟨z_dc_X12_count, ⟨(Nat.le_of_ble_eq_true rfl), (Nat.le_of_ble_eq_true rfl)⟩, (Nat.le_of_ble_eq_true rfl)⟩ rfl zw_1794 zw_1795 zw_1796 zw_12 zw_1797 dL_law_968 (fun x_157 M_157 hP _ x157 => ?_)
          have f_x1 := x157.t (k := 11) hT157 f_x1
          have k158 := x157.k (k := 12) hT157 k158
          have f_x3 := x157.t (k := 24) hT157 f_x3
          refine z_istore (lv' := [(6, z_I _), (5, z_I _), (0, z_O _), (1, z_O _), (2, z_O _), (3, z_O _), (4, z_I _)]) dL_law_971 (Nat.le_of_ble_eq_true rfl) rfl ?_
          refine z_goto (tgt := 1032) dL_law_973 (by decide) ?_
          refine z_sub (lv' := [(0, z_O _), (1, z_O _), (2, z_O _), (3, z_O _), (4, z_I _)]) [2, 3, 4, 5, 6] rfl ?_
          exact v_L_law_1032 hl9 hkb (fun _ _ _ _ _ w0 w1 w2 hP => ih w0 w1 w2 hP) f_x1 (z_trn e158 k158) f_x3 hP
        · cases htg
          replace hP := hP.2.2.2.2.2.2.2.2.2.2.2.2.2.2.2.2.2.2.2.2.2.2.2.2.1 h27
          refine z_aload_n dL_law_976 rfl 1 rfl ?_
          refine z_aload_n dL_law_977 rfl 0 rfl ?_
          refine z_pc (pc' := 978) rfl ?_
          refine z_iload dL_law_978 4 rfl ?_
          refine z_iconst (v := 1) dL_law_980 (by decide) ?_
          refine z_iadd dL_law_981 ?_
          obtain ⟨i159, hP⟩ := hP
          refine z_sld hkb i159 dL_law_982 ?_
          refine z_aload_n dL_law_983 rfl 3 rfl ?_
          refine z_wts (fun hT160 _ => ?_)
          refine z_cSHi (hh := hh_L_inFlightAnew) (n := 3) (Y1 := Y_L_inFlightAnew) (st := []) rfl (s_L_inFlightAnew hl9 f_x1 f_x3 hP) rfl ⟨z_dc_L_inFlightAnew, ⟨(Nat.le_of_ble_eq_true rfl), (Nat.le_of_ble_eq_true rfl)⟩, (Nat.le_of_ble_eq_true rfl)⟩ rfl zw_1230 zw_1231 zw_0 zh_L_inFlightAnew dL_law_984 (fun x_160 M_160 hP _ x160 => ?_)
          have f_x1 := x160.t (k := 11) hT160 f_x1
          have f_x2 := x160.t (k := 12) hT160 f_x2
          have f_x3 := x160.t (k := 24) hT160 f_x3
          refine z_pc (pc' := 987) rfl ?_
          refine z_istore (lv' := [(5, z_I _), (0, z_O _), (1, z_O _), (2, z_O _), (3, z_O _), (4, z_I _)]) dL_law_987 (Nat.le_of_ble_eq_true rfl) rfl ?_
          refine z_aload_n dL_law_989 rfl 3 rfl ?_
          refine z_aload_n dL_law_990 rfl 1 rfl ?_
          refine z_iload dL_law_991 5 rfl ?_
          refine z_iconst (v := 1) dL_law_993 (by decide) ?_
          refine z_iadd dL_law_994 ?_
          refine z_pc (pc' := 995) rfl ?_
          obtain ⟨i161, hP⟩ := hP
          refine z_sld hkb i161 dL_law_995 ?_
          obtain ⟨a163, e163, hP⟩ := hP
          have k163 := f_x2 a163 e163
          refine z_wts (fun hT162 _ => ?_)
          refine z_cVi (c := 12) (n := 1) (Y1 := Y_X12_inFlightAnew) (st := []) e163 k163 z_cb12 (Nat.le_of_ble_eq_true rfl) rfl (s_X12_inFlightAnew k163 hP) rfl ⟨z_dc_X12_inFlightAnew, ⟨(Nat.le_of_ble_eq_true rfl), (Nat.le_of_ble_eq_true rfl)⟩, (Nat.le_of_ble_eq_true rfl)⟩ rfl zw_1798 zw_1799 zw_1800 zw_12 zw_1801 dL_law_996 (fun x_162 M_162 hP _ x162 => ?_)
          have f_x1 := x162.t (k := 11) hT162 f_x1
          have k163 := x162.k (k := 12) hT162 k163
          have f_x3 := x162.t (k := 24) hT162 f_x3
          refine z_istore (lv' := [(6, z_I _), (5, z_I _), (0, z_O _), (1, z_O _), (2, z_O _), (3, z_O _), (4, z_I _)]) dL_law_999 (Nat.le_of_ble_eq_true rfl) rfl ?_
          refine z_goto (tgt := 1032) dL_law_1001 (by decide) ?_
          refine z_sub (lv' := [(0, z_O _), (1, z_O _), (2, z_O _), (3, z_O _), (4, z_I _)]) [2, 3, 4, 5, 6] rfl ?_
          exact v_L_law_1032 hl9 hkb (fun _ _ _ _ _ w0 w1 w2 hP => ih w0 w1 w2 hP) f_x1 (z_trn e163 k163) f_x3 hP
        · cases htg
          replace hP := hP.2.2.2.2.2.2.2.2.2.2.2.2.2.2.2.2.2.2.2.2.2.2.2.2.2.1 h27
          refine z_aload_n dL_law_1004 rfl 1 rfl ?_
          refine z_aload_n dL_law_1005 rfl 0 rfl ?_
          refine z_pc (pc' := 1006) rfl ?_
          refine z_iload dL_law_1006 4 rfl ?_
          refine z_iconst (v := 1) dL_law_1008 (by decide) ?_
          refine z_iadd dL_law_1009 ?_
          obtain ⟨i164, hP⟩ := hP
          refine z_sld hkb i164 dL_law_1010 ?_
          refine z_aload_n dL_law_1011 rfl 3 rfl ?_
          refine z_wts (fun hT165 _ => ?_)
          refine z_cSHi (hh := hh_L_gotAnew) (n := 3) (Y1 := Y_L_gotAnew) (st := []) rfl (s_L_gotAnew hl9 f_x1 f_x3 hP) rfl ⟨z_dc_L_gotAnew, ⟨(Nat.le_of_ble_eq_true rfl), (Nat.le_of_ble_eq_true rfl)⟩, (Nat.le_of_ble_eq_true rfl)⟩ rfl zw_1237 zw_1238 zw_0 zh_L_gotAnew dL_law_1012 (fun x_165 M_165 hP _ x165 => ?_)
          have f_x1 := x165.t (k := 11) hT165 f_x1
          have f_x2 := x165.t (k := 12) hT165 f_x2
          have f_x3 := x165.t (k := 24) hT165 f_x3
          refine z_pc (pc' := 1015) rfl ?_
          refine z_istore (lv' := [(5, z_I _), (0, z_O _), (1, z_O _), (2, z_O _), (3, z_O _), (4, z_I _)]) dL_law_1015 (Nat.le_of_ble_eq_true rfl) rfl ?_
          refine z_aload_n dL_law_1017 rfl 3 rfl ?_
          refine z_aload_n dL_law_1018 rfl 1 rfl ?_
          refine z_iload dL_law_1019 5 rfl ?_
          refine z_iconst (v := 1) dL_law_1021 (by decide) ?_
          refine z_iadd dL_law_1022 ?_
          refine z_pc (pc' := 1023) rfl ?_
          obtain ⟨i166, hP⟩ := hP
          refine z_sld hkb i166 dL_law_1023 ?_
          obtain ⟨a168, e168, hP⟩ := hP
          have k168 := f_x2 a168 e168
          refine z_wts (fun hT167 _ => ?_)
          refine z_cVi (c := 12) (n := 1) (Y1 := Y_X12_gotAnew) (st := []) e168 k168 z_cb12 (Nat.le_of_ble_eq_true rfl) rfl (s_X12_gotAnew k168 hP) rfl ⟨z_dc_X12_gotAnew, ⟨(Nat.le_of_ble_eq_true rfl), (Nat.le_of_ble_eq_true rfl)⟩, (Nat.le_of_ble_eq_true rfl)⟩ rfl zw_1802 zw_1803 zw_1804 zw_12 zw_1805 dL_law_1024 (fun x_167 M_167 hP _ x167 => ?_)
          have f_x1 := x167.t (k := 11) hT167 f_x1
          have k168 := x167.k (k := 12) hT167 k168
          have f_x3 := x167.t (k := 24) hT167 f_x3
          refine z_istore (lv' := [(6, z_I _), (5, z_I _), (0, z_O _), (1, z_O _), (2, z_O _), (3, z_O _), (4, z_I _)]) dL_law_1027 (Nat.le_of_ble_eq_true rfl) rfl ?_
          refine z_goto (tgt := 1032) dL_law_1029 (by decide) ?_
          refine z_sub (lv' := [(0, z_O _), (1, z_O _), (2, z_O _), (3, z_O _), (4, z_I _)]) [2, 3, 4, 5, 6] rfl ?_
          exact v_L_law_1032 hl9 hkb (fun _ _ _ _ _ w0 w1 w2 hP => ih w0 w1 w2 hP) f_x1 (z_trn e168 k168) f_x3 hP
      · replace hP := hP.2.2.2.2.2.2.2.2.2.2.2.2.2.2.2.2.2.2.2.2.2.2.2.2.2.2 h27
        refine z_sub (lv' := [(0, z_O _), (1, z_O _), (2, z_O _), (3, z_O _), (4, z_I _)]) [0, 1, 2, 3, 4] rfl ?_
        exact v_L_law_1032 hl9 hkb (fun _ _ _ _ _ w0 w1 w2 hP => ih w0 w1 w2 hP) f_x1 f_x2 f_x3 hP
set_option maxRecDepth 100000 in
set_option maxHeartbeats 4000000 in
theorem s_L_law {G : z_G} {M : z_Mem} {a L : Nat} {xs : Nat → Int32} {Post : Int32 → z_Mem → Prop} (hl9 : G.1.stackTraces = false) (hkb : z_ki M a = 0) (hP : P_L_law L xs M Post) : z_V G Y_L_law (z_XL a L xs) M (z_QM G M (z_PB Post)) M 0 [(0, z_O (some a))] [] := by
  unfold P_L_law at hP
  obtain ⟨r169, hP⟩ := hP
  refine z_wts (fun hT169 _ => ?_)
  refine z_newo (c := 11) z_cb11 (Nat.le_of_ble_eq_true rfl) rfl z_df11 zw_22 zw_23 zw_1 r169 dL_law_0 (fun x169 k169 => ?_)
  refine z_nm (fun M_170 g_170 => ?_)
  replace hP := hP M_170 g_170
  have x169 := z_xe g_170 x169
  have k169 := z_xk g_170 k169
  refine z_dup dL_law_3 rfl ?_
  refine z_wts (fun hT171 _ => ?_)
  refine z_cIv (n := 0) (Y1 := Y_X11_init) (st := [z_O _]) rfl (s_X11_init k169 hP) rfl rfl rfl ⟨z_dc_X11_init, ⟨(Nat.le_of_ble_eq_true rfl), (Nat.le_of_ble_eq_true rfl)⟩, (Nat.le_of_ble_eq_true rfl)⟩ rfl zw_24 zw_25 zw_1 zw_26 dL_law_4 (fun M_171 hP _ x171 => ?_)
  have k169 := x171.k (k := 11) hT171 k169
  refine z_astore_n (lv' := [(1, z_O _), (0, z_O _)]) dL_law_7 rfl (Nat.le_of_ble_eq_true rfl) rfl ?_
  obtain ⟨r172, hP⟩ := hP
  refine z_wts (fun hT172 _ => ?_)
  refine z_newo (c := 12) z_cb12 (Nat.le_of_ble_eq_true rfl) rfl z_df12 zw_1247 zw_1248 zw_12 r172 dL_law_8 (fun x172 k172 => ?_)
  refine z_nm (fun M_173 g_173 => ?_)
  replace hP := hP M_173 g_173
  have x172 := z_xe g_173 x172
  have k172 := z_xk g_173 k172
  have k169 := x172.k (k := 11) hT172 k169
  refine z_dup dL_law_11 rfl ?_
  refine z_pc (pc' := 12) rfl ?_
  refine z_wts (fun hT174 _ => ?_)
  refine z_cIv (n := 0) (Y1 := Y_X12_init) (st := [z_O _]) rfl (s_X12_init k172 hP) rfl rfl rfl ⟨z_dc_X12_init, ⟨(Nat.le_of_ble_eq_true rfl), (Nat.le_of_ble_eq_true rfl)⟩, (Nat.le_of_ble_eq_true rfl)⟩ rfl zw_1249 zw_1250 zw_12 zw_1251 dL_law_12 (fun M_174 hP _ x174 => ?_)
  have k169 := x174.k (k := 11) hT174 k169
  have k172 := x174.k (k := 12) hT174 k172
  refine z_astore_n (lv' := [(2, z_O _), (1, z_O _), (0, z_O _)]) dL_law_15 rfl (Nat.le_of_ble_eq_true rfl) rfl ?_
  refine z_iconst (v := 1) dL_law_16 (by decide) ?_
  obtain ⟨r175, hP⟩ := hP
  refine z_wts (fun hT175 _ => ?_)
  refine z_newa (t := 25) (N := 1) (Or.inr (Or.inr ⟨rfl, rfl⟩)) zw_1806 rfl (Nat.le_of_ble_eq_true rfl) r175 dL_law_17 (fun x175 k175 => ?_)
  refine z_nm (fun M_176 g_176 => ?_)
  replace hP := hP M_176 g_176
  have x175 := z_xe g_176 x175
  have k175 := z_xk g_176 k175
  have k172 := x175.k (k := 12) hT175 k172
  have k169 := x175.k (k := 11) hT175 k169
  refine z_astore_n (lv' := [(3, z_O _), (2, z_O _), (1, z_O _), (0, z_O _)]) dL_law_19 rfl (Nat.le_of_ble_eq_true rfl) rfl ?_
  refine z_iconst (v := 0) dL_law_20 (by decide) ?_
  refine z_pc (pc' := 21) rfl ?_
  refine z_istore (lv' := [(4, z_I _), (3, z_O _), (2, z_O _), (1, z_O _), (0, z_O _)]) dL_law_21 (Nat.le_of_ble_eq_true rfl) rfl ?_
  obtain ⟨n177, hP⟩ := hP
  refine z_sub (lv' := [(0, z_O _), (1, z_O _), (2, z_O _), (3, z_O _), (4, z_I _)]) [4, 3, 2, 1, 0] rfl ?_
  exact v_L_law_23 hl9 hkb  n177 (z_trn rfl k169) (z_trn rfl k172) (z_trn rfl k175) hP
