/-! ===== methods that throw ===== -/
def z_XC (G : z_G) (M0 : z_Mem) (PX : String → z_Mem → Prop) : String → State → State → Prop := fun E st t => (∃ M1, E ∈ z_exs ∧ PX E M1 ∧ z_WT M1 ∧ z_Ext M0 M1 ∧ z_Rep G M1 t.heap) ∧ va_F (z_A M0) st t
def z_Mx (G : z_G) (Y : z_Y) (M0 : z_Mem) (av : List z_L) (Post : Option z_L → z_Mem → Prop) (PX : String → z_Mem → Prop) : Prop :=
  z_WT M0 → vx_Met G.1 Y.1 (z_wy Y) (z_rm Y M0) (z_Pc G M0 av) (z_Qc G M0 Post) (z_XC G M0 PX) (z_cl M0) (z_sl M0) (z_A M0)
def z_QX (G : z_G) (M0 : z_Mem) (Post : Option z_L → z_Mem → Prop) (PX : String → z_Mem → Prop) : z_Q := fun below args s => vx_MQ below (z_Qc G M0 Post) (z_XC G M0 PX) args s (z_cl M0) (z_sl M0) (z_A M0)
/-- no handlers -/
abbrev z_XT : z_X := fun _ _ c => ∀ x ∈ c.exceptionTable.toList, False
theorem z_ofX {G : z_G} {Y : z_Y} {M0 : z_Mem} {av : List z_L} {Post : Option z_L → z_Mem → Prop} {PX : String → z_Mem → Prop} (hy : plainName Y.1.cls = true) (hn : z_cs av ≤ Y.2.2.1) (k : z_V G Y z_XT M0 (z_QX G M0 Post PX) M0 0 (z_ent 0 av) []) : z_Mx G Y M0 av Post PX := by
  intro hT
  refine vx_ofW (cc := Y.2.1) (maxL := Y.2.2.1) (ret := Y.2.2.2.1) hy rfl ?_
  intro p e s m args below meth c s₁ B hml ht hv
  obtain ⟨rfl, hR, hK, hS⟩ := hv
  have hts := atoms_spec (ws := z_wy Y) B.pre
  have hl := lv_entry (av.map z_v) (n := Y.2.2.1) (by rw [z_len]; exact hn)
  rw [lg_entry_eq]
  generalize (lg_sl (av.map z_v) ++ List.replicate (Y.2.2.1 - (lg_sl (av.map z_v)).length) Slot.unset).toArray = ls at hl ⊢
  rw [z_ent_eq] at hl
  have h := k p e (z_rm Y M0) s m (av.map z_v).toArray below meth c ⟨B.exec, B.bytes, B.returns, hml, findClass_of_methodNamed B.named, fun w hw => hts w (List.mem_cons_of_mem _ hw), B.notSynchronized, fun _ => (name_of_methodNamed B.named B.method).1, hK, hR, hS, Nat.le_refl _, Nat.le_refl _, rfl, rfl, ht⟩ s.heap [] ls hR hT (z_Ext.rf _) va_S.rf hl
  rw [Nat.sub_self, Nat.sub_self] at h
  exact h
section ZX
variable {G : z_G} {Y Y1 : z_Y} {X : z_X} {M0 M : z_Mem} {Q : z_Q} {pc : Nat} {lv : List (Nat × z_L)} {st : List z_L}
theorem z_toX {Post : Option z_L → z_Mem → Prop} {PX : String → z_Mem → Prop} (k : z_V G Y X M0 (z_QM G M0 Post) M pc lv st) : z_V G Y X M0 (z_QX G M0 Post PX) M pc lv st :=
  fun p e R s m args below meth c C H locs ls hR hT hE hS hl => vx_ret (k p e R s m args below meth c C H locs ls hR hT hE hS hl)
theorem z_mono {p : Program} {l : Launch} {e : Env} {R : Room} {s : State} {m : MethodId} {args : Array Value} {below : List Frame} {meth : Method} {c : Code} {H : Heap} {locs : List Loc} {cells slots : Nat} {Q1 Q2 : State → Prop} {g : JFrame} (h : ∀ t, Q1 t → Q2 t) (k : W p l e R s m args below meth c H locs cells slots Q1 g) : W p l e R s m args below meth c H locs cells slots Q2 g := by
  intro T hT9 X9
  obtain ⟨t, a, b⟩ := k T hT9 X9
  exact ⟨t, a, h t b⟩
theorem z_at.lt {a : Nat} {H : Heap} (h : z_at G M a H) (hk : z_ki M a ≠ 0) (hk2 : z_ki M a < 26) (hk3 : z_ki M a < 14 ∨ 20 ≤ z_ki M a) : a < H.size := by
  obtain ⟨h1, h2, h3, h4⟩ := h
  rcases hk3 with hk3 | hk3
  · obtain ⟨r, g1, cell, g2, -⟩ := h1 (z_ki M a - 1) (by omega) (by omega)
    exact (Array.getElem?_eq_some_iff.mp g2).1
  · rcases (show z_ki M a = 20 ∨ z_ki M a = 21 ∨ (22 ≤ z_ki M a ∧ z_ki M a ≤ 24) ∨ z_ki M a = 25 by omega) with h | h | h | h
    · exact (Array.getElem?_eq_some_iff.mp (h2 (Or.inl h))).1
    · exact (Array.getElem?_eq_some_iff.mp (h2 (Or.inr h))).1
    · exact (Array.getElem?_eq_some_iff.mp (h3 h.1 h.2)).1
    · exact (Array.getElem?_eq_some_iff.mp (h4 h)).1
theorem z_WT_exc {k n : Nat} (h : z_WT M) : z_WT (z_exc M k n) := by
  obtain ⟨h1, h2⟩ := h
  exact ⟨fun a ha => Nat.lt_of_lt_of_le (h1 a ha) (Nat.le_add_right _ _), h2⟩
/-- some cells that are nobody's came behind -/
theorem z_Rep_exc {H H1 : Heap} {kk nn : Nat} (hR : z_Rep G M H) (hT : z_WT M) (h1 : H.size ≤ H1.size) (h2 : ∀ q : Nat, q < H.size → H1[q]? = H[q]?) (h3 : H1.size ≤ H.size + kk) (h4 : z_wg H1 ≤ z_wg H + nn) (hr1 : kk ≤ z_cl M) (hr2 : nn ≤ z_sl M) :
    ∃ k n, k ≤ kk ∧ n ≤ nn ∧ z_Rep G (z_exc M k n) H1 := by
  obtain ⟨g1, g2, g3, g4⟩ := hR
  have hw := z_wg_drop h1 (fun a c hc => ⟨c, by rw [h2 a (Array.getElem?_eq_some_iff.mp hc).1]; exact hc, rfl⟩)
  refine ⟨H1.size - H.size, z_wg H1 - z_wg H, by omega, by omega, ?_, ?_, ?_, fun a => ?_⟩
  · show H1.size = z_sz M + (H1.size - H.size); omega
  · show z_sz M + (H1.size - H.size) + (z_cl M - (H1.size - H.size)) = _; omega
  · show z_wg H1 + (z_sl M - (z_wg H1 - z_wg H)) = _; omega
  · have hs : z_same M (z_exc M (H1.size - H.size) (z_wg H1 - z_wg H)) a := ⟨rfl, rfl, fun _ => rfl, fun _ => rfl, fun _ => rfl, fun _ => rfl, fun _ => rfl⟩
    by_cases hk : z_ki M a = 0
    · refine ⟨fun c hc _ => ?_, fun hk' => ?_, fun ha' _ => ?_, fun hk' => ?_⟩
      · have : z_ki M a = c + 1 := hc; omega
      · have : z_ki M a = 20 ∨ z_ki M a = 21 := hk'; omega
      · have : 22 ≤ z_ki M a := ha'; omega
      · have : z_ki M a = 25 := hk'; omega
    · exact (g4 a).congr hs (h2 a (by have := hT.1 a hk; omega))
theorem z_throw {Post : Option z_L → z_Mem → Prop} {PX : String → z_Mem → Prop} {cls text : String} {ik is ic : Nat} (hl9 : G.1.stackTraces = false) (hcls : Bundle.fit cls = true) (hE9 : cls ∈ z_exs) (hk : Cond.classLink Y.1.cls ik cls ∈ z_ws) (hini : Cond.initialized cls ∈ z_ws)
    (hstr : ∀ (A : Nat → Prop) (U : State) (H : Heap), z_St A U H → ∃ sa, vk_R Y.1.cls is text sa U)
    (hat1 : ∀ w ∈ (vx_atS Y.1.cls ic cls ["java/lang/RuntimeException", "java/lang/Exception"]).filter goodWord, w ∈ z_ws) (hat2 : ∀ w ∈ (vx_atS Y.1.cls ic cls ["java/lang/RuntimeException", "java/lang/Exception"]).filter (fun w => !goodWord w), w ∈ Cond.castable cls cls :: z_dec.map Cond.declares)
    (hgood : ∀ w ∈ Cond.classLink Y.1.cls ik cls :: Cond.initialized cls :: vx_atS Y.1.cls ic cls ["java/lang/RuntimeException", "java/lang/Exception"], vx_ot w = true)
    (d0 : decode Y.2.1 pc = .ok (.new ik, 3)) (d3 : decode Y.2.1 (pc + 3) = .ok (.dup, 1)) (d4 : decode Y.2.1 (pc + 4) = .ok (.ldc_w is, 3)) (d7 : decode Y.2.1 (pc + 7) = .ok (.invokespecial ic, 3)) (d10 : decode Y.2.1 (pc + 10) = .ok (.athrow, 1))
    (hf : 6 ≤ Y.2.2.2.2.1) (hlo : 90 ≤ Y.2.2.2.2.2) (hr : z_room M 6) (h : ∀ k n, k ≤ 1 → n ≤ 6 → PX cls (z_exc M k n)) : z_V G Y z_XT M0 (z_QX G M0 Post PX) M pc lv [] := by
  intro p e R s m args below meth c9 C H locs ls hR hT hE hS hl
  obtain ⟨C1, C2, C3, C4, C5, C6, C7, C8, C9, C10, C11, C12, C13, C14, C15, C16⟩ := id C
  obtain ⟨hr1, hr2⟩ := hr
  obtain ⟨e1, e2, e3, e4⟩ := id hE
  obtain ⟨sa, hstr⟩ := hstr _ _ _ C11
  have hSt := C11
  obtain ⟨hU, hN, f, -, -, -, -, -, -, -, -, -, hcas, hdec, -⟩ := C11
  have hat : ∀ w ∈ vx_atS Y.1.cls ic cls ["java/lang/RuntimeException", "java/lang/Exception"], w.before args s = true := by
    refine vx_hat (fun w hw => C6 w (hat1 w hw)) hat2 (fun w hw => ?_)
    rcases List.mem_cons.mp hw with rfl | hw
    · exact va_Nw.use rfl (hcas _ hE9)
    · obtain ⟨y, hy, rfl⟩ := List.mem_map.mp hw
      exact va_Nw.use rfl (hdec y hy)
  refine z_mono (Q1 := vx_MQ below (fun _ _ _ _ => False) (fun E st t => E = cls ∧ st.vm.Alike t.vm ∧ H.size ≤ t.heap.size ∧ ∀ q : Nat, q < H.size → t.heap[q]? = H[q]?) args s (z_cl M0 - z_cl M + 1) (z_sl M0 - z_sl M + 6) (z_A M0)) ?_
    (vx_throwSW C1 C2 hl9 C5 hcls (by decide) (C6 _ hk) (C6 _ hini) hstr hat hgood hU hN hS (by rw [C4]; exact hl.1) d0 d3 d4 d7 d10 (fun x hx => (C16 x hx).elim) (by show 5 < R.frames; omega) (by show 0 + (13 * 3 + 43) ≤ R.locals; omega) (by omega) (by omega) C7
      (fun t h1 h2 h3 => ⟨rfl, h1, h2, h3⟩) hS.2.2 (Nat.le_refl _) (Nat.le_refl _))
  intro t ⟨o, o1, o2, o3⟩
  refine ⟨o, o1, o2, Or.inr ?_⟩
  rcases o3 with ⟨o3, -⟩ | ⟨q, o3, E, ce, L, ⟨rfl, x1, x2, x3⟩, y1, y2, y3, y4, y5, y6⟩
  · exact o3.elim
  · obtain ⟨s1, s2, s3, s4, s5, s6⟩ := id y5
    obtain ⟨b1, b2, b3, b4⟩ := C10
    obtain ⟨g1, g2, g3, g4⟩ := id hR
    have hh : ({ t with vm := s.vm } : State).heap = t.heap := rfl
    rw [hh] at s2 s3 s5
    have hw := z_wg_drop (H0 := s.heap) (H := t.heap) s2 (fun a c hc => by
      obtain ⟨c', r1, -, r3, -⟩ := s6 a c hc
      exact ⟨c', r1, r3⟩)
    have e9 : ((t.heap.toList.drop s.heap.size).map (fun c => c.slots.size)).sum = ((t.heap.toList.drop s.heap.size).map (·.slots.size)).sum := rfl
    obtain ⟨k, n, hk1, hn1, hR1⟩ := z_Rep_exc (kk := 1) (nn := 6) hR hT x2 x3 (by omega) (by omega) hr1 hr2
    refine ⟨q, o3, E, ce, L, ⟨⟨z_exc M k n, hE9, h k n hk1 hn1, z_WT_exc hT, hE.trans z_Ext_exc, hR1⟩, ?_⟩, y1, y2, y3, y4, y5.mono (by omega) (by omega), y6⟩
    exact ⟨s2, fun q h1 h2 => by rw [x3 q (Nat.lt_of_lt_of_le h1 hS.1)]; exact hS.2.1 q h1 h2⟩
/-- a call that may throw, where nothing catches it -/
theorem z_callX {p : Program} {e : Env} {R : Room} {s : State} {m : MethodId} {args : Array Value} {below : List Frame} {meth : Method} {c9 : Code} {H : Heap} {locs : List Loc} {ls : Array Slot} {st0 : List Value} {a : Array Value} {Post : Option z_L → z_Mem → Prop} {PX : String → z_Mem → Prop} {Q2 : State → Prop} (C : z_Cx G Y X M0 p R s m args meth c9) (hR : z_Rep G M H) (hE : z_Ext M0 M) (hS : va_S (z_A M0) s.heap H locs) (hl : z_lh ls Y.2.2.1 lv)
    (hr : vx_Run p G.1 e R s m args below meth c9 H locs (z_cl M0 - z_cl M) (z_sl M0 - z_sl M) (z_cl M) (z_sl M) (F0 m pc ls st0) (st.map z_v) (z_Qc G M Post a) (z_XC G M PX) (z_A M))
    (kk : ∀ (r : Option z_L) (M1 : z_Mem) (H1 : Heap) (locs1 : List Loc), Post r M1 → z_WT M1 → z_Ext M M1 → z_Rep G M1 H1 → va_S (z_A M0) s.heap H1 locs1 → W p G.1 e R s m args below meth c9 H1 locs1 (z_cl M0 - z_cl M1) (z_sl M0 - z_sl M1) Q2 (F0 m (pc + 3) ls ((r.toList ++ st).map z_v)))
    (kx : ∀ (q : Nat) (E : String) (ce : Cell) (M1 : z_Mem) (H1 : Heap) (locs1 : List Loc), E ∈ z_exs → PX E M1 → z_WT M1 → z_Ext M M1 → z_Rep G M1 H1 → va_S (z_A M0) s.heap H1 locs1 → H1[q]? = some ce → ce.vm = .none → s.vm.findClass E = some ce.cls → vx_W p G.1 e R s m args below meth c9 H1 locs1 (z_cl M0 - z_cl M1) (z_sl M0 - z_sl M1) Q2 (F0 m pc ls (st.map z_v)) q) :
    W p G.1 e R s m args below meth c9 H locs (z_cl M0 - z_cl M) (z_sl M0 - z_sl M) Q2 (F0 m pc ls st0) := by
  intro T hT9 X9
  obtain ⟨w1, w2, w3, w4⟩ := C.2.2.2.2.2.2.2.2.2.1
  obtain ⟨g1, g2, g3, g4⟩ := hR
  have com : ∀ (M1 : z_Mem) (st₀ t T' : State) (L : List Loc), st₀.heap = H → T'.heap = t.heap → Stand p G.1 e R s m args below meth c9 T' (locs ++ L) (z_cl M0 - z_cl M + z_cl M) (z_sl M0 - z_sl M + z_sl M) → (∀ q ∈ L, z_A M q.base) → z_Ext M M1 → z_Rep G M1 t.heap → va_F (z_A M) st₀ t → Stand p G.1 e R s m args below meth c9 T' (locs ++ L) (z_cl M0 - z_cl M1) (z_sl M0 - z_sl M1) ∧ va_S (z_A M0) s.heap T'.heap (locs ++ L) := by
    intro M1 st₀ t T' L h0 e1 X' hL hE1 hR1 hF
    obtain ⟨q1, q2, q3, q4⟩ := hR1
    have hE2 := hE.trans hE1
    have b2 := hE2.2.1
    have b3 := hE2.2.2.1
    obtain ⟨hz, hk⟩ := hF
    rw [h0] at hz hk
    exact ⟨z_tight X' (by rw [e1]; omega) (by rw [e1]; omega), Nat.le_trans hS.1 (by rw [e1]; exact hz), fun q h1 h2 => by
      rw [e1, hk q (Nat.lt_of_lt_of_le h1 hS.1) (fun z => h2 (hE.sub q z))]; exact hS.2.1 q h1 h2, fun q hq => by
      rcases List.mem_append.mp hq with h | h
      · exact hS.2.2 q h
      · exact hE.sub _ (hL q h)⟩
  rcases hr T hT9 X9 with ⟨v, st₀, t, T', L, h0, X', hL, e1, e2, ⟨⟨r, M1, hv, hp, hT1, hE1, hR1⟩, hF⟩, st9⟩ | ⟨q, st₀, t, T', L, E, ce, h0, X', hL, e1, e2, ⟨⟨M1, hE9, hp, hT1, hE1, hR1⟩, hF⟩, y1, y2, y3, st9⟩
  · have hv : v = r.map z_v := by injection hv
    subst hv
    obtain ⟨X2, hS1⟩ := com M1 st₀ t T' L h0 e1 X' hL hE1 hR1 hF
    obtain ⟨t2, a1, b1⟩ := kk r M1 T'.heap (locs ++ L) hp hT1 hE1 (by rw [e1]; exact hR1) hS1 T' rfl X2
    refine ⟨t2, st9 t2 ?_, b1⟩
    have e9 : (r.map z_v).toList ++ st.map z_v = (r.toList ++ st).map z_v := by cases r <;> rfl
    rw [e9]
    exact a1
  · obtain ⟨X2, hS1⟩ := com M1 st₀ t T' L h0 e1 X' hL hE1 hR1 hF
    obtain ⟨t2, a1, b1⟩ := kx q E ce M1 T'.heap (locs ++ L) hE9 hp hT1 hE1 (by rw [e1]; exact hR1) hS1 (by rw [e1]; exact y1) y2 y3 T' rfl X2
    exact ⟨t2, st9.trans a1, b1⟩
/-- nothing catches it: it goes to the caller -/
theorem z_outX {p : Program} {e : Env} {R : Room} {s : State} {m : MethodId} {args : Array Value} {below : List Frame} {meth : Method} {c9 : Code} {ls : Array Slot} {Post : Option z_L → z_Mem → Prop} {PX : String → z_Mem → Prop} (C : z_Cx G Y z_XT M0 p R s m args meth c9) (hE : z_Ext M0 M)
    (q : Nat) (E : String) (ce : Cell) (M1 : z_Mem) (H1 : Heap) (locs1 : List Loc) (hE9 : E ∈ z_exs) (hp : PX E M1) (hT1 : z_WT M1) (hE1 : z_Ext M M1) (hR1 : z_Rep G M1 H1) (hS1 : va_S (z_A M0) s.heap H1 locs1) (y1 : H1[q]? = some ce) (y2 : ce.vm = .none) (y3 : s.vm.findClass E = some ce.cls) :
    vx_W p G.1 e R s m args below meth c9 H1 locs1 (z_cl M0 - z_cl M1) (z_sl M0 - z_sl M1) (z_QX G M0 Post PX below args s) (F0 m pc ls (st.map z_v)) q := by
  have C16 := C.2.2.2.2.2.2.2.2.2.2.2.2.2.2.2
  have C7 := C.2.2.2.2.2.2.1
  exact vx_out (fun x hx => (C16 x hx).elim) C7 y1 y2 y3 (fun t ht _ => ⟨⟨M1, hE9, hp, hT1, hE.trans hE1, by rw [ht]; exact hR1⟩, hS1.F ht⟩) hS1.2.2 (Nat.sub_le _ _) (Nat.sub_le _ _)
theorem z_xV {c n i b : Nat} {r9 : Option Nat} {As : List z_L} {sk : List z_L} {Post Post0 : Option z_L → z_Mem → Prop} {PX PX0 : String → z_Mem → Prop} (hb : r9 = some b) (hki : z_ki M b = c + 1) (B : z_CB c) (hc : c < 13) (hcl : Y1.1.cls = z_R c) (hM : z_Mx G Y1 M (z_O (some b) :: As) Post PX) (hn : As.length = n) (hf : z_fit Y Y1 n st) (hsk : As.reverse ++ z_O r9 :: st = sk)
    (w1 : Cond.methodLink Y.1.cls i Y1.1 ∈ z_ws) (w2 : Cond.instanceMethod Y1.1 ∈ z_ws) (w3 : Cond.selects (z_R c) Y1.1 Y1.1 ∈ z_ws) (w4 : Cond.initialized (z_R c) ∈ z_ws) (w5 : Cond.code Y1.1 Y1.2.1 Y1.2.2.1 Y1.2.2.2.1 ∈ z_ws) (d : decode Y.2.1 pc = .ok (.invokevirtual i, 3))
    (hx : ∀ E M1, PX E M1 → PX0 E M1) (kk : ∀ (r : Option z_L) (M1 : z_Mem), Post r M1 → z_WT M1 → z_Ext M M1 → z_V G Y z_XT M0 (z_QX G M0 Post0 PX0) M1 (pc + 3) lv (r.toList ++ st)) : z_V G Y z_XT M0 (z_QX G M0 Post0 PX0) M pc lv sk := by
  subst hsk hb
  intro p e R s m args below meth c9 C H locs ls hR hT hE hS hl
  obtain ⟨⟨f1, f2, f3⟩, ⟨f4, f5⟩, f6⟩ := hf
  obtain ⟨C1, C2, C3, C4, C5, C6, C7, C8, C9, C10, C11, C12, C13, C14, C15, C16⟩ := id C
  rw [z_rev]
  refine z_callX C hR hE hS hl (vx_runV (As := As.map z_v) (rest := st.map z_v) (b := b) (C := z_R c) (bytes := Y1.2.1) (maxL := Y1.2.2.1) (ret := Y1.2.2.2.1) ⟨C1, C2, C4, C5, C6⟩ (hM hT) (cwV n C6 (z_goodL (fun w hw => ?_)) rfl rfl rfl ⟨hcl, f1, f2, f3⟩ ⟨Nat.le_trans f4 C12, Nat.le_trans f5 C13⟩) ⟨z_blind, ?_, z_pre C hR hE hS⟩ rfl (by rw [List.length_map]; exact hn) hl.1 rfl (lv_room (by rw [z_cs_eq]; exact f6)) d ?_)
    (fun r M1 H1 locs1 hp hT1 hE1 hR1 hS1 => kk r M1 hp hT1 hE1 p e R s m args below meth c9 C H1 locs1 ls hR1 hT1 (hE.trans hE1) hS1 hl)
    (fun q E ce M1 H1 locs1 hE9 hp hT1 hE1 hR1 hS1 y1 y2 y3 => z_outX C hE q E ce M1 H1 locs1 hE9 (hx E M1 hp) hT1 hE1 hR1 hS1 y1 y2 y3)
  · unfold wsV at hw
    rcases List.mem_append.mp hw with h | h
    · rcases List.mem_cons.mp h with rfl | h
      · exact w1
      rcases List.mem_cons.mp h with rfl | h
      · exact w2
      rcases List.mem_cons.mp h with rfl | h
      · exact w3
      rcases List.mem_cons.mp h with rfl | h
      · exact w4
      cases h
    · exact z_wyL w5 w h
  · exact va_recv C9 (z_P1 ((hR.2.2.2 b).1 c hki hc)) B.1 (ci := c) (q0 := 0) rfl
  · have := hE.2.1
    have := hE.2.2.1
    omega
theorem z_xS {n i : Nat} {As : List z_L} {sk : List z_L} {Post Post0 : Option z_L → z_Mem → Prop} {PX PX0 : String → z_Mem → Prop} (hcl : Y1.1.cls = Y.1.cls) (hM : z_Mx G Y1 M As Post PX) (hn : As.length = n) (hf : z_fit Y Y1 n st) (hsk : As.reverse ++ st = sk)
    (w1 : Cond.methodLink Y.1.cls i Y1.1 ∈ z_ws) (w2 : Cond.static Y1.1 ∈ z_ws) (w4 : Cond.initialized Y.1.cls ∈ z_ws) (w5 : Cond.code Y1.1 Y1.2.1 Y1.2.2.1 Y1.2.2.2.1 ∈ z_ws) (d : decode Y.2.1 pc = .ok (.invokestatic i, 3))
    (hx : ∀ E M1, PX E M1 → PX0 E M1) (kk : ∀ (r : Option z_L) (M1 : z_Mem), Post r M1 → z_WT M1 → z_Ext M M1 → z_V G Y z_XT M0 (z_QX G M0 Post0 PX0) M1 (pc + 3) lv (r.toList ++ st)) : z_V G Y z_XT M0 (z_QX G M0 Post0 PX0) M pc lv sk := by
  subst hsk
  intro p e R s m args below meth c9 C H locs ls hR hT hE hS hl
  obtain ⟨⟨f1, f2, f3⟩, ⟨f4, f5⟩, f6⟩ := hf
  obtain ⟨C1, C2, C3, C4, C5, C6, C7, C8, C9, C10, C11, C12, C13, C14, C15, C16⟩ := id C
  rw [z_rev0]
  refine z_callX C hR hE hS hl (vx_runS (As := As.map z_v) (rest := st.map z_v) (bytes := Y1.2.1) (maxL := Y1.2.2.1) (ret := Y1.2.2.2.1) ⟨C1, C2, C4, C5, C6⟩ (hM hT) (cwS n C6 (z_goodL (fun w hw => ?_)) rfl rfl rfl ⟨hcl, f1, f2, f3⟩ ⟨Nat.le_trans f4 C12, Nat.le_trans f5 C13⟩) ⟨z_blind, z_pre C hR hE hS⟩ rfl (by rw [List.length_map]; exact hn) hl.1 rfl (lv_room (by rw [z_cs_eq]; exact f6)) d ?_)
    (fun r M1 H1 locs1 hp hT1 hE1 hR1 hS1 => kk r M1 hp hT1 hE1 p e R s m args below meth c9 C H1 locs1 ls hR1 hT1 (hE.trans hE1) hS1 hl)
    (fun q E ce M1 H1 locs1 hE9 hp hT1 hE1 hR1 hS1 y1 y2 y3 => z_outX C hE q E ce M1 H1 locs1 hE9 (hx E M1 hp) hT1 hE1 hR1 hS1 y1 y2 y3)
  · unfold wsS at hw
    rcases List.mem_append.mp hw with h | h
    · rcases List.mem_cons.mp h with rfl | h
      · exact w1
      rcases List.mem_cons.mp h with rfl | h
      · exact w2
      rcases List.mem_cons.mp h with rfl | h
      · exact w4
      cases h
    · exact z_wyL w5 w h
  · have := hE.2.1
    have := hE.2.2.1
    omega
end ZX
theorem z_stk {G : z_G} {Y : z_Y} {X : z_X} {M0 M : z_Mem} {Q : z_Q} {pc : Nat} {lv : List (Nat × z_L)} {st st' : List z_L} (h : st = st') (k : z_V G Y X M0 Q M pc lv st') : z_V G Y X M0 Q M pc lv st := by rw [h]; exact k
