/-! ===== ROWS of calls and of ends ===== -/
theorem z_goodL {ws : List Cond} (h : ∀ w ∈ ws, w ∈ z_ws) : GoodIn z_ws ws := fun w hw => z_goods w (h w hw)
theorem z_wyL {Y : z_Y} (h : Cond.code Y.1 Y.2.1 Y.2.2.1 Y.2.2.2.1 ∈ z_ws) : ∀ w ∈ z_wy Y, w ∈ z_ws := fun w hw => (List.mem_cons.mp hw).elim (fun e => by rw [e]; exact h) id
theorem z_wy0 {Y : z_Y} (h : Y.2.2.2.1 = none) : z_wy Y = Cond.code Y.1 Y.2.1 Y.2.2.1 none :: z_ws := by
  show Cond.code Y.1 Y.2.1 Y.2.2.1 Y.2.2.2.1 :: z_ws = _
  rw [h]
theorem z_blind {G : z_G} {M : z_Mem} {av : List z_L} : FrameBlind (z_Pc G M av) := fun a U g mk h => by
  obtain ⟨h1, h2, h3, h4⟩ := h
  exact ⟨h1, h2, va_K.moved (u := U) (U := U.calling g mk a) (Vm.Alike.refl U.vm) h3, h4.moved (s := U) (U := U.calling g mk a) (State.WarmedH.refl U) (fun _ _ _ => rfl) (fun _ h => h)⟩
/-- kinds of ends -/
abbrev z_PV (P : z_Mem → Prop) : Option z_L → z_Mem → Prop := fun r M1 => r = none ∧ P M1
abbrev z_PI (P : Int32 → z_Mem → Prop) : Option z_L → z_Mem → Prop := fun r M1 => ∃ x, r = some (z_I x) ∧ P x M1
abbrev z_PB (P : Int32 → z_Mem → Prop) : Option z_L → z_Mem → Prop := fun r M1 => ∃ x, r = some (z_I x) ∧ (x = 0 ∨ x = 1) ∧ P x M1
abbrev z_PO (k : Nat) (P : Option Nat → z_Mem → Prop) : Option z_L → z_Mem → Prop := fun r M1 => ∃ x, r = some (z_O x) ∧ z_tr M1 x k ∧ P x M1
section ZC
variable {G : z_G} {Y Y1 : z_Y} {X : z_X} {M0 M : z_Mem} {Q : z_Q} {pc : Nat} {lv : List (Nat × z_L)} {st : List z_L}
theorem z_callW {p : Program} {e : Env} {R : Room} {s : State} {m : MethodId} {args : Array Value} {below : List Frame} {meth : Method} {c9 : Code} {H : Heap} {locs : List Loc} {ls : Array Slot} {st0 : List Value} {a : Array Value} {Post : Option z_L → z_Mem → Prop} (C : z_Cx G Y X M0 p R s m args meth c9) (hR : z_Rep G M H) (hE : z_Ext M0 M) (hS : va_S (z_A M0) s.heap H locs) (hl : z_lh ls Y.2.2.1 lv)
    (hr : va_Run p G.1 e R s m args below meth c9 H locs (z_cl M0 - z_cl M) (z_sl M0 - z_sl M) (z_cl M) (z_sl M) (F0 m pc ls st0) (st.map z_v) (z_Qc G M Post a) (z_A M))
    (kk : ∀ (r : Option z_L) (M1 : z_Mem), Post r M1 → z_WT M1 → z_Ext M M1 → z_V G Y X M0 Q M1 (pc + 3) lv (r.toList ++ st)) :
    W p G.1 e R s m args below meth c9 H locs (z_cl M0 - z_cl M) (z_sl M0 - z_sl M) (Q below args s) (F0 m pc ls st0) := by
  intro T hT9 X9
  obtain ⟨v, st₀, t, T', L, h0, X', hL, e1, e2, ⟨⟨r, M1, hv, hp, hT1, hE1, hR1⟩, hz, hk⟩, st9⟩ := hr T hT9 X9
  have hv : v = r.map z_v := by injection hv
  subst hv
  obtain ⟨g1, g2, g3, g4⟩ := hR
  obtain ⟨q1, q2, q3, q4⟩ := hR1
  obtain ⟨w1, w2, w3, w4⟩ := C.2.2.2.2.2.2.2.2.2.1
  have hE2 := hE.trans hE1
  have b2 := hE2.2.1
  have b3 := hE2.2.2.1
  have X2 := z_tight X' (k := z_cl M0 - z_cl M1) (n := z_sl M0 - z_sl M1) (by rw [e1]; omega) (by rw [e1]; omega)
  rw [h0] at hz hk
  have hS1 : va_S (z_A M0) s.heap T'.heap (locs ++ L) := ⟨Nat.le_trans hS.1 (by rw [e1]; exact hz), fun q h1 h2 => by
      rw [e1, hk q (Nat.lt_of_lt_of_le h1 hS.1) (fun z => h2 (hE.sub q z))]; exact hS.2.1 q h1 h2, fun q hq => by
      rcases List.mem_append.mp hq with h | h
      · exact hS.2.2 q h
      · exact hE.sub _ (hL q h)⟩
  obtain ⟨t2, a1, b1⟩ := kk r M1 hp hT1 hE1 p e R s m args below meth c9 C T'.heap (locs ++ L) ls (by rw [e1]; exact ⟨q1, q2, q3, q4⟩) hT1 hE2 hS1 hl T' rfl X2
  refine ⟨t2, st9 t2 ?_, b1⟩
  have e9 : (r.map z_v).toList ++ st.map z_v = (r.toList ++ st).map z_v := by cases r <;> rfl
  rw [e9]
  exact a1
theorem z_pre {p : Program} {R : Room} {s : State} {m : MethodId} {args : Array Value} {meth : Method} {c9 : Code} {H : Heap} {locs : List Loc} {av : List z_L} (C : z_Cx G Y X M0 p R s m args meth c9) (hR : z_Rep G M H) (hE : z_Ext M0 M) (hS : va_S (z_A M0) s.heap H locs) : ∀ U : State, U.heap = H → s.WarmedH U.vm → z_Pc G M av (av.map z_v).toArray U := by
  intro U hU hW
  exact ⟨rfl, by rw [hU]; exact hR, va_K.moved hW.alike C.2.2.2.2.2.2.2.2.1, by rw [hU]; exact C.2.2.2.2.2.2.2.2.2.2.1.moved hW (fun a h1 h2 => hS.2.1 a h1 h2) hE.sub⟩
theorem z_rev (As : List z_L) (x : z_L) : ((As.reverse ++ x :: st).map z_v) = (As.map z_v).reverse ++ z_v x :: st.map z_v := by
  rw [List.map_append, List.map_reverse]; rfl
theorem z_rev0 (As : List z_L) : ((As.reverse ++ st).map z_v) = (As.map z_v).reverse ++ st.map z_v := by
  rw [List.map_append, List.map_reverse]
/-- what a call asks of the two methods' numbers -/
def z_fit (Y Y1 : z_Y) (n : Nat) (st : List z_L) : Prop := (Y1.1.cls ≠ "java/lang/invoke/MethodHandle" ∧ Y1.1.cls ≠ "java/lang/invoke/VarHandle" ∧ (parseMethodDescriptor Y1.1.desc).map (fun d => d.parameters.length) = some n) ∧ (Y1.2.2.2.2.1 + 1 ≤ Y.2.2.2.2.1 ∧ 8 + (Y1.2.2.1 + 11) + Y1.2.2.2.2.2 ≤ Y.2.2.2.2.2) ∧ z_cs st ≤ 8
theorem z_cV0 {c n i b : Nat} {r9 : Option Nat} {As : List z_L} {sk : List z_L} {Post : Option z_L → z_Mem → Prop} (hb : r9 = some b) (hki : z_ki M b = c + 1) (B : z_CB c) (hc : c < 13) (hcl : Y1.1.cls = z_R c) (hM : z_Mt G Y1 M (z_O (some b) :: As) Post) (hn : As.length = n) (hf : z_fit Y Y1 n st) (hsk : As.reverse ++ z_O r9 :: st = sk)
    (w1 : Cond.methodLink Y.1.cls i Y1.1 ∈ z_ws) (w2 : Cond.instanceMethod Y1.1 ∈ z_ws) (w3 : Cond.selects (z_R c) Y1.1 Y1.1 ∈ z_ws) (w4 : Cond.initialized (z_R c) ∈ z_ws) (w5 : Cond.code Y1.1 Y1.2.1 Y1.2.2.1 Y1.2.2.2.1 ∈ z_ws) (d : decode Y.2.1 pc = .ok (.invokevirtual i, 3))
    (kk : ∀ (r : Option z_L) (M1 : z_Mem), Post r M1 → z_WT M1 → z_Ext M M1 → z_V G Y X M0 Q M1 (pc + 3) lv (r.toList ++ st)) : z_V G Y X M0 Q M pc lv sk := by
  subst hsk hb
  intro p e R s m args below meth c9 C H locs ls hR hT hE hS hl
  obtain ⟨⟨f1, f2, f3⟩, ⟨f4, f5⟩, f6⟩ := hf
  obtain ⟨C1, C2, C3, C4, C5, C6, C7, C8, C9, C10, C11, C12, C13, C14, C15, -⟩ := id C
  rw [z_rev]
  refine z_callW C hR hE hS hl (va_runV (As := As.map z_v) (rest := st.map z_v) (b := b) (C := z_R c) (bytes := Y1.2.1) (maxL := Y1.2.2.1) (ret := Y1.2.2.2.1) ⟨C1, C2, C4, C5, C6⟩ (hM hT) (cwV n C6 (z_goodL (fun w hw => ?_)) rfl rfl rfl ⟨hcl, f1, f2, f3⟩ ⟨Nat.le_trans f4 C12, Nat.le_trans f5 C13⟩) ⟨z_blind, ?_, z_pre C hR hE hS⟩ rfl (by rw [List.length_map]; exact hn) hl.1 rfl (lv_room (by rw [z_cs_eq]; exact f6)) d ?_) kk
  · unfold wsV at hw
    rcases List.mem_append.mp hw with h | h
    · rcases List.mem_cons.mp h with rfl | h
      · exact w1
      rcases List.mem_cons.mp h with rfl | h
      · exact w2
      rcases List.mem_cons.mp h with rfl | h
      · exact w3
      rcases List.mem_cons.mp h with rfl | h
      · exact w4
      cases h
    · exact z_wyL w5 w h
  · exact va_recv C9 (z_P1 ((hR.2.2.2 b).1 c hki hc)) B.1 (ci := c) (q0 := 0) rfl
  · have := hE.2.1
    have := hE.2.2.1
    omega
theorem z_cS0 {n i : Nat} {As : List z_L} {sk : List z_L} {Post : Option z_L → z_Mem → Prop} (hcl : Y1.1.cls = Y.1.cls) (hM : z_Mt G Y1 M As Post) (hn : As.length = n) (hf : z_fit Y Y1 n st) (hsk : As.reverse ++ st = sk)
    (w1 : Cond.methodLink Y.1.cls i Y1.1 ∈ z_ws) (w2 : Cond.static Y1.1 ∈ z_ws) (w4 : Cond.initialized Y.1.cls ∈ z_ws) (w5 : Cond.code Y1.1 Y1.2.1 Y1.2.2.1 Y1.2.2.2.1 ∈ z_ws) (d : decode Y.2.1 pc = .ok (.invokestatic i, 3))
    (kk : ∀ (r : Option z_L) (M1 : z_Mem), Post r M1 → z_WT M1 → z_Ext M M1 → z_V G Y X M0 Q M1 (pc + 3) lv (r.toList ++ st)) : z_V G Y X M0 Q M pc lv sk := by
  subst hsk
  intro p e R s m args below meth c9 C H locs ls hR hT hE hS hl
  obtain ⟨⟨f1, f2, f3⟩, ⟨f4, f5⟩, f6⟩ := hf
  obtain ⟨C1, C2, C3, C4, C5, C6, C7, C8, C9, C10, C11, C12, C13, C14, C15, -⟩ := id C
  rw [z_rev0]
  refine z_callW C hR hE hS hl (va_runS (As := As.map z_v) (rest := st.map z_v) (bytes := Y1.2.1) (maxL := Y1.2.2.1) (ret := Y1.2.2.2.1) ⟨C1, C2, C4, C5, C6⟩ (hM hT) (cwS n C6 (z_goodL (fun w hw => ?_)) rfl rfl rfl ⟨hcl, f1, f2, f3⟩ ⟨Nat.le_trans f4 C12, Nat.le_trans f5 C13⟩) ⟨z_blind, z_pre C hR hE hS⟩ rfl (by rw [List.length_map]; exact hn) hl.1 rfl (lv_room (by rw [z_cs_eq]; exact f6)) d ?_) kk
  · unfold wsS at hw
    rcases List.mem_append.mp hw with h | h
    · rcases List.mem_cons.mp h with rfl | h
      · exact w1
      rcases List.mem_cons.mp h with rfl | h
      · exact w2
      rcases List.mem_cons.mp h with rfl | h
      · exact w4
      cases h
    · exact z_wyL w5 w h
  · have := hE.2.1
    have := hE.2.2.1
    omega
theorem z_cI0 {n i b : Nat} {r9 : Option Nat} {As : List z_L} {sk : List z_L} {Post : Option z_L → z_Mem → Prop} (hb : r9 = some b) (hM : z_Mt G Y1 M (z_O (some b) :: As) Post) (hret : Y1.2.2.2.1 = none) (hin : Y1.1.name = "<init>") (hn : As.length = n) (hf : z_fit Y Y1 n st) (hsk : As.reverse ++ z_O r9 :: st = sk)
    (w1 : Cond.methodLink Y.1.cls i Y1.1 ∈ z_ws) (w2 : Cond.instanceMethod Y1.1 ∈ z_ws) (w4 : Cond.initialized Y1.1.cls ∈ z_ws) (w5 : Cond.code Y1.1 Y1.2.1 Y1.2.2.1 Y1.2.2.2.1 ∈ z_ws) (d : decode Y.2.1 pc = .ok (.invokespecial i, 3))
    (kk : ∀ (r : Option z_L) (M1 : z_Mem), Post r M1 → z_WT M1 → z_Ext M M1 → z_V G Y X M0 Q M1 (pc + 3) lv (r.toList ++ st)) : z_V G Y X M0 Q M pc lv sk := by
  subst hsk hb
  intro p e R s m args below meth c9 C H locs ls hR hT hE hS hl
  obtain ⟨⟨f1, f2, f3⟩, ⟨f4, f5⟩, f6⟩ := hf
  obtain ⟨C1, C2, C3, C4, C5, C6, C7, C8, C9, C10, C11, C12, C13, C14, C15, -⟩ := id C
  rw [z_rev]
  refine z_callW C hR hE hS hl (va_runI (As := As.map z_v) (rest := st.map z_v) (b := b) (bytes := Y1.2.1) (maxL := Y1.2.2.1) ⟨C1, C2, C4, C5, C6⟩ (hM hT) (cwI n C6 (z_goodL (z_wyL w5)) (z_wy0 hret) rfl rfl (C6 _ w4) (C6 _ w1) (C6 _ w2) hin ⟨f1, f2, f3⟩ ⟨Nat.le_trans f4 C12, Nat.le_trans f5 C13⟩) ⟨z_blind, z_pre C hR hE hS⟩ rfl (by rw [List.length_map]; exact hn) hl.1 rfl (lv_room (by rw [z_cs_eq]; exact f6)) d ?_) kk
  have := hE.2.1
  have := hE.2.2.1
  omega
theorem z_cIN0 {n i b : Nat} {r9 : Option Nat} {host : String} {As : List z_L} {sk : List z_L} {Post : Option z_L → z_Mem → Prop} (hb : r9 = some b) (hM : z_Mt G Y1 M (z_O (some b) :: As) Post) (hret : Y1.2.2.2.1 = none) (hin : Y1.1.name = "<init>") (hn : As.length = n) (hf : z_fit Y Y1 n st) (hsk : As.reverse ++ z_O r9 :: st = sk)
    (w1 : (Y.1.cls, i, Y1.1, host) ∈ z_nest) (w2 : Cond.instanceMethod Y1.1 ∈ z_ws) (w4 : Cond.initialized Y1.1.cls ∈ z_ws) (w5 : Cond.code Y1.1 Y1.2.1 Y1.2.2.1 Y1.2.2.2.1 ∈ z_ws) (d : decode Y.2.1 pc = .ok (.invokespecial i, 3))
    (kk : ∀ (r : Option z_L) (M1 : z_Mem), Post r M1 → z_WT M1 → z_Ext M M1 → z_V G Y X M0 Q M1 (pc + 3) lv (r.toList ++ st)) : z_V G Y X M0 Q M pc lv sk := by
  subst hsk hb
  intro p e R s m args below meth c9 C H locs ls hR hT hE hS hl
  obtain ⟨⟨f1, f2, f3⟩, ⟨f4, f5⟩, f6⟩ := hf
  obtain ⟨C1, C2, C3, C4, C5, C6, C7, C8, C9, C10, C11, C12, C13, C14, C15, -⟩ := id C
  rw [z_rev]
  refine z_callW C hR hE hS hl (va_runIN (As := As.map z_v) (rest := st.map z_v) (b := b) (bytes := Y1.2.1) (maxL := Y1.2.2.1) ⟨C1, C2, C4, C5, C6⟩ (hM hT) ⟨va_cnB n C6 (z_goodL (z_wyL w5)) (z_wy0 hret) rfl rfl (C11.nest w1) (C6 _ w4) ⟨f1, f2, f3⟩ ⟨Nat.le_trans f4 C12, Nat.le_trans f5 C13⟩, hin, C6 _ w2⟩ ⟨z_blind, z_pre C hR hE hS⟩ rfl (by rw [List.length_map]; exact hn) hl.1 rfl (lv_room (by rw [z_cs_eq]; exact f6)) d ?_) kk
  have := hE.2.1
  have := hE.2.2.1
  omega
theorem z_cSN0 {n i : Nat} {host : String} {As : List z_L} {sk : List z_L} {Post : Option z_L → z_Mem → Prop} (hM : z_Mt G Y1 M As Post) (hn : As.length = n) (hf : z_fit Y Y1 n st) (hsk : As.reverse ++ st = sk)
    (w1 : (Y.1.cls, i, Y1.1, host) ∈ z_nest) (w2 : Cond.static Y1.1 ∈ z_ws) (w4 : Cond.initialized Y1.1.cls ∈ z_ws) (w5 : Cond.code Y1.1 Y1.2.1 Y1.2.2.1 Y1.2.2.2.1 ∈ z_ws) (d : decode Y.2.1 pc = .ok (.invokestatic i, 3))
    (kk : ∀ (r : Option z_L) (M1 : z_Mem), Post r M1 → z_WT M1 → z_Ext M M1 → z_V G Y X M0 Q M1 (pc + 3) lv (r.toList ++ st)) : z_V G Y X M0 Q M pc lv sk := by
  subst hsk
  intro p e R s m args below meth c9 C H locs ls hR hT hE hS hl
  obtain ⟨⟨f1, f2, f3⟩, ⟨f4, f5⟩, f6⟩ := hf
  obtain ⟨C1, C2, C3, C4, C5, C6, C7, C8, C9, C10, C11, C12, C13, C14, C15, -⟩ := id C
  rw [z_rev0]
  refine z_callW C hR hE hS hl (va_runSN (As := As.map z_v) (rest := st.map z_v) (bytes := Y1.2.1) (maxL := Y1.2.2.1) (ret := Y1.2.2.2.1) ⟨C1, C2, C4, C5, C6⟩ (hM hT) ⟨va_cnB n C6 (z_goodL (z_wyL w5)) rfl rfl rfl (C11.nest w1) (C6 _ w4) ⟨f1, f2, f3⟩ ⟨Nat.le_trans f4 C12, Nat.le_trans f5 C13⟩, C6 _ w2, trivial⟩ ⟨z_blind, z_pre C hR hE hS⟩ rfl (by rw [List.length_map]; exact hn) hl.1 rfl (lv_room (by rw [z_cs_eq]; exact f6)) d ?_) kk
  have := hE.2.1
  have := hE.2.2.1
  omega
theorem z_cVv {P : z_Mem → Prop} {c n i b : Nat} {r9 : Option Nat} {As : List z_L} {sk : List z_L} (hb : r9 = some b) (hki : z_ki M b = c + 1) (B : z_CB c) (hc : c < 13) (hcl : Y1.1.cls = z_R c) (hM : z_Mt G Y1 M (z_O (some b) :: As) (z_PV P)) (hn : As.length = n) (hf : z_fit Y Y1 n st) (hsk : As.reverse ++ z_O r9 :: st = sk) (w1 : Cond.methodLink Y.1.cls i Y1.1 ∈ z_ws) (w2 : Cond.instanceMethod Y1.1 ∈ z_ws) (w3 : Cond.selects (z_R c) Y1.1 Y1.1 ∈ z_ws) (w4 : Cond.initialized (z_R c) ∈ z_ws) (w5 : Cond.code Y1.1 Y1.2.1 Y1.2.2.1 Y1.2.2.2.1 ∈ z_ws) (d : decode Y.2.1 pc = .ok (.invokevirtual i, 3))
    (kk : ∀ (M1 : z_Mem), P M1 → z_WT M1 → z_Ext M M1 → z_V G Y X M0 Q M1 (pc + 3) lv st) : z_V G Y X M0 Q M pc lv sk :=
  z_cV0 hb hki B hc hcl hM hn hf hsk w1 w2 w3 w4 w5 d (fun r M1 hp hT hE => by obtain ⟨rfl, hp⟩ := hp; exact kk M1 hp hT hE)
theorem z_cVi {P : Int32 → z_Mem → Prop} {c n i b : Nat} {r9 : Option Nat} {As : List z_L} {sk : List z_L} (hb : r9 = some b) (hki : z_ki M b = c + 1) (B : z_CB c) (hc : c < 13) (hcl : Y1.1.cls = z_R c) (hM : z_Mt G Y1 M (z_O (some b) :: As) (z_PI P)) (hn : As.length = n) (hf : z_fit Y Y1 n st) (hsk : As.reverse ++ z_O r9 :: st = sk) (w1 : Cond.methodLink Y.1.cls i Y1.1 ∈ z_ws) (w2 : Cond.instanceMethod Y1.1 ∈ z_ws) (w3 : Cond.selects (z_R c) Y1.1 Y1.1 ∈ z_ws) (w4 : Cond.initialized (z_R c) ∈ z_ws) (w5 : Cond.code Y1.1 Y1.2.1 Y1.2.2.1 Y1.2.2.2.1 ∈ z_ws) (d : decode Y.2.1 pc = .ok (.invokevirtual i, 3))
    (kk : ∀ (x : Int32) (M1 : z_Mem), P x M1 → z_WT M1 → z_Ext M M1 → z_V G Y X M0 Q M1 (pc + 3) lv (z_I x :: st)) : z_V G Y X M0 Q M pc lv sk :=
  z_cV0 hb hki B hc hcl hM hn hf hsk w1 w2 w3 w4 w5 d (fun r M1 hp hT hE => by obtain ⟨x, rfl, hp⟩ := hp; exact kk x M1 hp hT hE)
theorem z_cVb {P : Int32 → z_Mem → Prop} {c n i b : Nat} {r9 : Option Nat} {As : List z_L} {sk : List z_L} (hb : r9 = some b) (hki : z_ki M b = c + 1) (B : z_CB c) (hc : c < 13) (hcl : Y1.1.cls = z_R c) (hM : z_Mt G Y1 M (z_O (some b) :: As) (z_PB P)) (hn : As.length = n) (hf : z_fit Y Y1 n st) (hsk : As.reverse ++ z_O r9 :: st = sk) (w1 : Cond.methodLink Y.1.cls i Y1.1 ∈ z_ws) (w2 : Cond.instanceMethod Y1.1 ∈ z_ws) (w3 : Cond.selects (z_R c) Y1.1 Y1.1 ∈ z_ws) (w4 : Cond.initialized (z_R c) ∈ z_ws) (w5 : Cond.code Y1.1 Y1.2.1 Y1.2.2.1 Y1.2.2.2.1 ∈ z_ws) (d : decode Y.2.1 pc = .ok (.invokevirtual i, 3))
    (kk : ∀ (x : Int32) (M1 : z_Mem), (x = 0 ∨ x = 1) → P x M1 → z_WT M1 → z_Ext M M1 → z_V G Y X M0 Q M1 (pc + 3) lv (z_I x :: st)) : z_V G Y X M0 Q M pc lv sk :=
  z_cV0 hb hki B hc hcl hM hn hf hsk w1 w2 w3 w4 w5 d (fun r M1 hp hT hE => by obtain ⟨x, rfl, hx, hp⟩ := hp; exact kk x M1 hx hp hT hE)
theorem z_cVo {k : Nat} {P : Option Nat → z_Mem → Prop} {c n i b : Nat} {r9 : Option Nat} {As : List z_L} {sk : List z_L} (hb : r9 = some b) (hki : z_ki M b = c + 1) (B : z_CB c) (hc : c < 13) (hcl : Y1.1.cls = z_R c) (hM : z_Mt G Y1 M (z_O (some b) :: As) (z_PO k P)) (hn : As.length = n) (hf : z_fit Y Y1 n st) (hsk : As.reverse ++ z_O r9 :: st = sk) (w1 : Cond.methodLink Y.1.cls i Y1.1 ∈ z_ws) (w2 : Cond.instanceMethod Y1.1 ∈ z_ws) (w3 : Cond.selects (z_R c) Y1.1 Y1.1 ∈ z_ws) (w4 : Cond.initialized (z_R c) ∈ z_ws) (w5 : Cond.code Y1.1 Y1.2.1 Y1.2.2.1 Y1.2.2.2.1 ∈ z_ws) (d : decode Y.2.1 pc = .ok (.invokevirtual i, 3))
    (kk : ∀ (x : Option Nat) (M1 : z_Mem), z_tr M1 x k → P x M1 → z_WT M1 → z_Ext M M1 → z_V G Y X M0 Q M1 (pc + 3) lv (z_O x :: st)) : z_V G Y X M0 Q M pc lv sk :=
  z_cV0 hb hki B hc hcl hM hn hf hsk w1 w2 w3 w4 w5 d (fun r M1 hp hT hE => by obtain ⟨x, rfl, hx, hp⟩ := hp; exact kk x M1 hx hp hT hE)
theorem z_cSv {P : z_Mem → Prop} {n i : Nat} {As : List z_L} {sk : List z_L} (hcl : Y1.1.cls = Y.1.cls) (hM : z_Mt G Y1 M As (z_PV P)) (hn : As.length = n) (hf : z_fit Y Y1 n st) (hsk : As.reverse ++ st = sk) (w1 : Cond.methodLink Y.1.cls i Y1.1 ∈ z_ws) (w2 : Cond.static Y1.1 ∈ z_ws) (w4 : Cond.initialized Y.1.cls ∈ z_ws) (w5 : Cond.code Y1.1 Y1.2.1 Y1.2.2.1 Y1.2.2.2.1 ∈ z_ws) (d : decode Y.2.1 pc = .ok (.invokestatic i, 3))
    (kk : ∀ (M1 : z_Mem), P M1 → z_WT M1 → z_Ext M M1 → z_V G Y X M0 Q M1 (pc + 3) lv st) : z_V G Y X M0 Q M pc lv sk :=
  z_cS0 hcl hM hn hf hsk w1 w2 w4 w5 d (fun r M1 hp hT hE => by obtain ⟨rfl, hp⟩ := hp; exact kk M1 hp hT hE)
theorem z_cSi {P : Int32 → z_Mem → Prop} {n i : Nat} {As : List z_L} {sk : List z_L} (hcl : Y1.1.cls = Y.1.cls) (hM : z_Mt G Y1 M As (z_PI P)) (hn : As.length = n) (hf : z_fit Y Y1 n st) (hsk : As.reverse ++ st = sk) (w1 : Cond.methodLink Y.1.cls i Y1.1 ∈ z_ws) (w2 : Cond.static Y1.1 ∈ z_ws) (w4 : Cond.initialized Y.1.cls ∈ z_ws) (w5 : Cond.code Y1.1 Y1.2.1 Y1.2.2.1 Y1.2.2.2.1 ∈ z_ws) (d : decode Y.2.1 pc = .ok (.invokestatic i, 3))
    (kk : ∀ (x : Int32) (M1 : z_Mem), P x M1 → z_WT M1 → z_Ext M M1 → z_V G Y X M0 Q M1 (pc + 3) lv (z_I x :: st)) : z_V G Y X M0 Q M pc lv sk :=
  z_cS0 hcl hM hn hf hsk w1 w2 w4 w5 d (fun r M1 hp hT hE => by obtain ⟨x, rfl, hp⟩ := hp; exact kk x M1 hp hT hE)
theorem z_cSb {P : Int32 → z_Mem → Prop} {n i : Nat} {As : List z_L} {sk : List z_L} (hcl : Y1.1.cls = Y.1.cls) (hM : z_Mt G Y1 M As (z_PB P)) (hn : As.length = n) (hf : z_fit Y Y1 n st) (hsk : As.reverse ++ st = sk) (w1 : Cond.methodLink Y.1.cls i Y1.1 ∈ z_ws) (w2 : Cond.static Y1.1 ∈ z_ws) (w4 : Cond.initialized Y.1.cls ∈ z_ws) (w5 : Cond.code Y1.1 Y1.2.1 Y1.2.2.1 Y1.2.2.2.1 ∈ z_ws) (d : decode Y.2.1 pc = .ok (.invokestatic i, 3))
    (kk : ∀ (x : Int32) (M1 : z_Mem), (x = 0 ∨ x = 1) → P x M1 → z_WT M1 → z_Ext M M1 → z_V G Y X M0 Q M1 (pc + 3) lv (z_I x :: st)) : z_V G Y X M0 Q M pc lv sk :=
  z_cS0 hcl hM hn hf hsk w1 w2 w4 w5 d (fun r M1 hp hT hE => by obtain ⟨x, rfl, hx, hp⟩ := hp; exact kk x M1 hx hp hT hE)
theorem z_cSo {k : Nat} {P : Option Nat → z_Mem → Prop} {n i : Nat} {As : List z_L} {sk : List z_L} (hcl : Y1.1.cls = Y.1.cls) (hM : z_Mt G Y1 M As (z_PO k P)) (hn : As.length = n) (hf : z_fit Y Y1 n st) (hsk : As.reverse ++ st = sk) (w1 : Cond.methodLink Y.1.cls i Y1.1 ∈ z_ws) (w2 : Cond.static Y1.1 ∈ z_ws) (w4 : Cond.initialized Y.1.cls ∈ z_ws) (w5 : Cond.code Y1.1 Y1.2.1 Y1.2.2.1 Y1.2.2.2.1 ∈ z_ws) (d : decode Y.2.1 pc = .ok (.invokestatic i, 3))
    (kk : ∀ (x : Option Nat) (M1 : z_Mem), z_tr M1 x k → P x M1 → z_WT M1 → z_Ext M M1 → z_V G Y X M0 Q M1 (pc + 3) lv (z_O x :: st)) : z_V G Y X M0 Q M pc lv sk :=
  z_cS0 hcl hM hn hf hsk w1 w2 w4 w5 d (fun r M1 hp hT hE => by obtain ⟨x, rfl, hx, hp⟩ := hp; exact kk x M1 hx hp hT hE)
theorem z_cIv {P : z_Mem → Prop} {n i b : Nat} {r9 : Option Nat} {As : List z_L} {sk : List z_L} (hb : r9 = some b) (hM : z_Mt G Y1 M (z_O (some b) :: As) (z_PV P)) (hret : Y1.2.2.2.1 = none) (hin : Y1.1.name = "<init>") (hn : As.length = n) (hf : z_fit Y Y1 n st) (hsk : As.reverse ++ z_O r9 :: st = sk) (w1 : Cond.methodLink Y.1.cls i Y1.1 ∈ z_ws) (w2 : Cond.instanceMethod Y1.1 ∈ z_ws) (w4 : Cond.initialized Y1.1.cls ∈ z_ws) (w5 : Cond.code Y1.1 Y1.2.1 Y1.2.2.1 Y1.2.2.2.1 ∈ z_ws) (d : decode Y.2.1 pc = .ok (.invokespecial i, 3))
    (kk : ∀ (M1 : z_Mem), P M1 → z_WT M1 → z_Ext M M1 → z_V G Y X M0 Q M1 (pc + 3) lv st) : z_V G Y X M0 Q M pc lv sk :=
  z_cI0 hb hM hret hin hn hf hsk w1 w2 w4 w5 d (fun r M1 hp hT hE => by obtain ⟨rfl, hp⟩ := hp; exact kk M1 hp hT hE)
theorem z_cINv {P : z_Mem → Prop} {n i b : Nat} {r9 : Option Nat} {host : String} {As : List z_L} {sk : List z_L} (hb : r9 = some b) (hM : z_Mt G Y1 M (z_O (some b) :: As) (z_PV P)) (hret : Y1.2.2.2.1 = none) (hin : Y1.1.name = "<init>") (hn : As.length = n) (hf : z_fit Y Y1 n st) (hsk : As.reverse ++ z_O r9 :: st = sk) (w1 : (Y.1.cls, i, Y1.1, host) ∈ z_nest) (w2 : Cond.instanceMethod Y1.1 ∈ z_ws) (w4 : Cond.initialized Y1.1.cls ∈ z_ws) (w5 : Cond.code Y1.1 Y1.2.1 Y1.2.2.1 Y1.2.2.2.1 ∈ z_ws) (d : decode Y.2.1 pc = .ok (.invokespecial i, 3))
    (kk : ∀ (M1 : z_Mem), P M1 → z_WT M1 → z_Ext M M1 → z_V G Y X M0 Q M1 (pc + 3) lv st) : z_V G Y X M0 Q M pc lv sk :=
  z_cIN0 hb hM hret hin hn hf hsk w1 w2 w4 w5 d (fun r M1 hp hT hE => by obtain ⟨rfl, hp⟩ := hp; exact kk M1 hp hT hE)
theorem z_cSNv {P : z_Mem → Prop} {n i : Nat} {host : String} {As : List z_L} {sk : List z_L} (hM : z_Mt G Y1 M As (z_PV P)) (hn : As.length = n) (hf : z_fit Y Y1 n st) (hsk : As.reverse ++ st = sk) (w1 : (Y.1.cls, i, Y1.1, host) ∈ z_nest) (w2 : Cond.static Y1.1 ∈ z_ws) (w4 : Cond.initialized Y1.1.cls ∈ z_ws) (w5 : Cond.code Y1.1 Y1.2.1 Y1.2.2.1 Y1.2.2.2.1 ∈ z_ws) (d : decode Y.2.1 pc = .ok (.invokestatic i, 3))
    (kk : ∀ (M1 : z_Mem), P M1 → z_WT M1 → z_Ext M M1 → z_V G Y X M0 Q M1 (pc + 3) lv st) : z_V G Y X M0 Q M pc lv sk :=
  z_cSN0 hM hn hf hsk w1 w2 w4 w5 d (fun r M1 hp hT hE => by obtain ⟨rfl, hp⟩ := hp; exact kk M1 hp hT hE)
theorem z_cSNi {P : Int32 → z_Mem → Prop} {n i : Nat} {host : String} {As : List z_L} {sk : List z_L} (hM : z_Mt G Y1 M As (z_PI P)) (hn : As.length = n) (hf : z_fit Y Y1 n st) (hsk : As.reverse ++ st = sk) (w1 : (Y.1.cls, i, Y1.1, host) ∈ z_nest) (w2 : Cond.static Y1.1 ∈ z_ws) (w4 : Cond.initialized Y1.1.cls ∈ z_ws) (w5 : Cond.code Y1.1 Y1.2.1 Y1.2.2.1 Y1.2.2.2.1 ∈ z_ws) (d : decode Y.2.1 pc = .ok (.invokestatic i, 3))
    (kk : ∀ (x : Int32) (M1 : z_Mem), P x M1 → z_WT M1 → z_Ext M M1 → z_V G Y X M0 Q M1 (pc + 3) lv (z_I x :: st)) : z_V G Y X M0 Q M pc lv sk :=
  z_cSN0 hM hn hf hsk w1 w2 w4 w5 d (fun r M1 hp hT hE => by obtain ⟨x, rfl, hp⟩ := hp; exact kk x M1 hp hT hE)
theorem z_cSNb {P : Int32 → z_Mem → Prop} {n i : Nat} {host : String} {As : List z_L} {sk : List z_L} (hM : z_Mt G Y1 M As (z_PB P)) (hn : As.length = n) (hf : z_fit Y Y1 n st) (hsk : As.reverse ++ st = sk) (w1 : (Y.1.cls, i, Y1.1, host) ∈ z_nest) (w2 : Cond.static Y1.1 ∈ z_ws) (w4 : Cond.initialized Y1.1.cls ∈ z_ws) (w5 : Cond.code Y1.1 Y1.2.1 Y1.2.2.1 Y1.2.2.2.1 ∈ z_ws) (d : decode Y.2.1 pc = .ok (.invokestatic i, 3))
    (kk : ∀ (x : Int32) (M1 : z_Mem), (x = 0 ∨ x = 1) → P x M1 → z_WT M1 → z_Ext M M1 → z_V G Y X M0 Q M1 (pc + 3) lv (z_I x :: st)) : z_V G Y X M0 Q M pc lv sk :=
  z_cSN0 hM hn hf hsk w1 w2 w4 w5 d (fun r M1 hp hT hE => by obtain ⟨x, rfl, hx, hp⟩ := hp; exact kk x M1 hx hp hT hE)
theorem z_cSNo {k : Nat} {P : Option Nat → z_Mem → Prop} {n i : Nat} {host : String} {As : List z_L} {sk : List z_L} (hM : z_Mt G Y1 M As (z_PO k P)) (hn : As.length = n) (hf : z_fit Y Y1 n st) (hsk : As.reverse ++ st = sk) (w1 : (Y.1.cls, i, Y1.1, host) ∈ z_nest) (w2 : Cond.static Y1.1 ∈ z_ws) (w4 : Cond.initialized Y1.1.cls ∈ z_ws) (w5 : Cond.code Y1.1 Y1.2.1 Y1.2.2.1 Y1.2.2.2.1 ∈ z_ws) (d : decode Y.2.1 pc = .ok (.invokestatic i, 3))
    (kk : ∀ (x : Option Nat) (M1 : z_Mem), z_tr M1 x k → P x M1 → z_WT M1 → z_Ext M M1 → z_V G Y X M0 Q M1 (pc + 3) lv (z_O x :: st)) : z_V G Y X M0 Q M pc lv sk :=
  z_cSN0 hM hn hf hsk w1 w2 w4 w5 d (fun r M1 hp hT hE => by obtain ⟨x, rfl, hx, hp⟩ := hp; exact kk x M1 hx hp hT hE)
theorem z_retv {P : z_Mem → Prop} (hret : Y.2.2.2.1 = none) (d : decode Y.2.1 pc = .ok (.return_, 1)) (h : P M) : z_V G Y X M0 (z_QM G M0 (z_PV P)) M pc lv [] := by
  intro p e R s m args below meth c9 C H locs ls hR hT hE hS hl
  obtain ⟨C1, C2, C3, C4, C5, C6, C7, C8, C9, C10, C11, C12, C13, C14, C15, -⟩ := id C
  refine W.widen (k := z_cl M0) (n := z_sl M0) (Nat.sub_le _ _) (Nat.sub_le _ _) ?_
  exact W.vret C1 C2 (C3.trans hret) (fun t ht hW => ⟨⟨none, M, rfl, ⟨rfl, h⟩, hT, hE, by rw [ht]; exact hR⟩, hS.F ht⟩) hS.2.2 d C7
theorem z_reti {P : Int32 → z_Mem → Prop} {x : Int32} (hret : Y.2.2.2.1 = some .int) (d : decode Y.2.1 pc = .ok (.ireturn, 1)) (h : P x M) : z_V G Y X M0 (z_QM G M0 (z_PI P)) M pc lv [z_I x] := by
  intro p e R s m args below meth c9 C H locs ls hR hT hE hS hl
  obtain ⟨C1, C2, C3, C4, C5, C6, C7, C8, C9, C10, C11, C12, C13, C14, C15, -⟩ := id C
  refine W.widen (k := z_cl M0) (n := z_sl M0) (Nat.sub_le _ _) (Nat.sub_le _ _) ?_
  exact W.zret (ty := .int) C1 C2 (C3.trans hret) rfl (fun t ht hW => ⟨⟨some (z_I x), M, rfl, ⟨x, rfl, h⟩, hT, hE, by rw [ht]; exact hR⟩, hS.F ht⟩) hS.2.2 d C7
theorem z_retb {P : Int32 → z_Mem → Prop} {x : Int32} (hret : Y.2.2.2.1 = some .boolean) (hx : x = 0 ∨ x = 1) (d : decode Y.2.1 pc = .ok (.ireturn, 1)) (h : P x M) : z_V G Y X M0 (z_QM G M0 (z_PB P)) M pc lv [z_I x] := by
  intro p e R s m args below meth c9 C H locs ls hR hT hE hS hl
  obtain ⟨C1, C2, C3, C4, C5, C6, C7, C8, C9, C10, C11, C12, C13, C14, C15, -⟩ := id C
  refine W.widen (k := z_cl M0) (n := z_sl M0) (Nat.sub_le _ _) (Nat.sub_le _ _) ?_
  exact W.zret (ty := .boolean) C1 C2 (C3.trans hret) (by rcases hx with rfl | rfl <;> rfl) (fun t ht hW => ⟨⟨some (z_I x), M, rfl, ⟨x, rfl, hx, h⟩, hT, hE, by rw [ht]; exact hR⟩, hS.F ht⟩) hS.2.2 d C7
theorem z_reto {k : Nat} {P : Option Nat → z_Mem → Prop} {x : Option Nat} {C0 : String} (hret : Y.2.2.2.1 = some (.object C0)) (hx : z_tr M x k) (d : decode Y.2.1 pc = .ok (.areturn, 1)) (h : P x M) : z_V G Y X M0 (z_QM G M0 (z_PO k P)) M pc lv [z_O x] := by
  intro p e R s m args below meth c9 C H locs ls hR hT hE hS hl
  obtain ⟨C1, C2, C3, C4, C5, C6, C7, C8, C9, C10, C11, C12, C13, C14, C15, -⟩ := id C
  refine W.widen (k := z_cl M0) (n := z_sl M0) (Nat.sub_le _ _) (Nat.sub_le _ _) ?_
  exact W.aret (v := va_rf x) C1 C2 (C3.trans hret) (Or.inl ⟨_, rfl⟩) (by cases x <;> simp [va_rf]) (fun t ht hW => ⟨⟨some (z_O x), M, rfl, ⟨x, rfl, hx, h⟩, hT, hE, by rw [ht]; exact hR⟩, hS.F ht⟩) hS.2.2 d C7
/-- the library's own -/
theorem z_objInit {i a : Nat} {r : Option Nat} (ha : r = some a) (w1 : Cond.methodLink Y.1.cls i Lib.objectInit ∈ z_ws) (w2 : Cond.instanceMethod Lib.objectInit ∈ z_ws) (w3 : Cond.code Lib.objectInit ⟨#[0xb1]⟩ 1 none ∈ z_ws) (d : decode Y.2.1 pc = .ok (.invokespecial i, 3)) (hf : 1 ≤ Y.2.2.2.2.1) (hlo : z_cs st + 12 ≤ Y.2.2.2.2.2)
    (k : z_V G Y X M0 Q M (pc + 3) lv st) : z_V G Y X M0 Q M pc lv (z_O r :: st) := by
  subst ha
  intro p e R s m args below meth c9 C H locs ls hR hT hE hS hl
  have h := k p e R s m args below meth c9 C H locs ls hR hT hE hS hl
  obtain ⟨C1, C2, C3, C4, C5, C6, C7, C8, C9, C10, C11, C12, C13, C14, C15, -⟩ := id C
  refine W.objInit C1 C2 C5 (C6 _ w1) (C6 _ w2) (C6 _ w3) (a := a) (rest := st.map z_v) rfl (by rw [C4]; exact hl.1) rfl d (Nat.le_trans hf C12) (by rw [z_cs_eq]; show 2 * 0 + _ + _ ≤ _; omega) h
theorem z_mmax {x y : Int32} {i : Nat} (w1 : Cond.methodLink Y.1.cls i Lib.Math.max.name ∈ z_ws) (w2 : Cond.static Lib.Math.max.name ∈ z_ws) (w3 : Cond.initialized "java/lang/Math" ∈ z_ws) (w4 : Cond.code Lib.Math.max.name Lib.Math.max.code 2 (some .int) ∈ z_ws) (d : decode Y.2.1 pc = .ok (.invokestatic i, 3)) (hf : 1 ≤ Y.2.2.2.2.1) (hlo : z_cs st + 13 ≤ Y.2.2.2.2.2)
    (k : z_V G Y X M0 Q M (pc + 3) lv (z_I (if x < y then y else x) :: st)) : z_V G Y X M0 Q M pc lv (z_I y :: z_I x :: st) := by
  intro p e R s m args below meth c9 C H locs ls hR hT hE hS hl
  have h := k p e R s m args below meth c9 C H locs ls hR hT hE hS hl
  obtain ⟨C1, C2, C3, C4, C5, C6, C7, C8, C9, C10, C11, C12, C13, C14, C15, -⟩ := id C
  exact va_mmax C1 C2 (by rw [C4]; exact hl.1.symm) C5 (C6 _ w1) (C6 _ w2) (C6 _ w3) (C6 _ w4) (Nat.le_trans hf C12) (by rw [z_cs_eq]; omega) (by omega) (by omega) d h
theorem z_mmin {x y : Int32} {i : Nat} (w1 : Cond.methodLink Y.1.cls i Lib.Math.min.name ∈ z_ws) (w2 : Cond.static Lib.Math.min.name ∈ z_ws) (w3 : Cond.initialized "java/lang/Math" ∈ z_ws) (w4 : Cond.code Lib.Math.min.name Lib.Math.min.code 2 (some .int) ∈ z_ws) (d : decode Y.2.1 pc = .ok (.invokestatic i, 3)) (hf : 1 ≤ Y.2.2.2.2.1) (hlo : z_cs st + 13 ≤ Y.2.2.2.2.2)
    (k : z_V G Y X M0 Q M (pc + 3) lv (z_I (if y < x then y else x) :: st)) : z_V G Y X M0 Q M pc lv (z_I y :: z_I x :: st) := by
  intro p e R s m args below meth c9 C H locs ls hR hT hE hS hl
  have h := k p e R s m args below meth c9 C H locs ls hR hT hE hS hl
  obtain ⟨C1, C2, C3, C4, C5, C6, C7, C8, C9, C10, C11, C12, C13, C14, C15, -⟩ := id C
  exact va_mmin C1 C2 (by rw [C4]; exact hl.1.symm) C5 (C6 _ w1) (C6 _ w2) (C6 _ w3) (C6 _ w4) (Nat.le_trans hf C12) (by rw [z_cs_eq]; omega) (by omega) (by omega) d h
theorem z_mabs {x : Int32} {i : Nat} (w1 : Cond.methodLink Y.1.cls i Lib.Math.abs.name ∈ z_ws) (w2 : Cond.static Lib.Math.abs.name ∈ z_ws) (w3 : Cond.initialized "java/lang/Math" ∈ z_ws) (w4 : Cond.code Lib.Math.abs.name Lib.Math.abs.code 1 (some .int) ∈ z_ws) (d : decode Y.2.1 pc = .ok (.invokestatic i, 3)) (hf : 1 ≤ Y.2.2.2.2.1) (hlo : z_cs st + 13 ≤ Y.2.2.2.2.2)
    (k : z_V G Y X M0 Q M (pc + 3) lv (z_I (if 0 ≤ x then x else 0 - x) :: st)) : z_V G Y X M0 Q M pc lv (z_I x :: st) := by
  intro p e R s m args below meth c9 C H locs ls hR hT hE hS hl
  have h := k p e R s m args below meth c9 C H locs ls hR hT hE hS hl
  obtain ⟨C1, C2, C3, C4, C5, C6, C7, C8, C9, C10, C11, C12, C13, C14, C15, -⟩ := id C
  exact va_mabs C1 C2 (by rw [C4]; exact hl.1.symm) C5 (C6 _ w1) (C6 _ w2) (C6 _ w3) (C6 _ w4) (Nat.le_trans hf C12) (by rw [z_cs_eq]; omega) (by omega) (by omega) d h
theorem z_mmaxl {x y : Int64} {i : Nat} (w1 : Cond.methodLink Y.1.cls i Lib.MathLoose.max_long.x ∈ z_ws) (w2 : Cond.static Lib.MathLoose.max_long.x ∈ z_ws) (w3 : Cond.initialized "java/lang/Math" ∈ z_ws) (w4 : Cond.code Lib.MathLoose.max_long.x Lib.MathLoose.max_long.code 4 (some .long) ∈ z_ws) (d : decode Y.2.1 pc = .ok (.invokestatic i, 3)) (hf : 1 ≤ Y.2.2.2.2.1) (hlo : z_cs st + 15 ≤ Y.2.2.2.2.2)
    (k : z_V G Y X M0 Q M (pc + 3) lv (z_J (if y < x then x else y) :: st)) : z_V G Y X M0 Q M pc lv (z_J y :: z_J x :: st) := by
  intro p e R s m args below meth c9 C H locs ls hR hT hE hS hl
  have h := k p e R s m args below meth c9 C H locs ls hR hT hE hS hl
  obtain ⟨C1, C2, C3, C4, C5, C6, C7, C8, C9, C10, C11, C12, C13, C14, C15, -⟩ := id C
  exact va_mmax_long C1 C2 (by rw [C4]; exact hl.1.symm) C5 (C6 _ w1) (C6 _ w2) (C6 _ w3) (C6 _ w4) (Nat.le_trans hf C12) (by rw [z_cs_eq]; omega) (by omega) (by omega) d h
end ZC
