/-! ===== ROWS of the law: a long's store, handlers, the script ===== -/
theorem z_WT_sal {M : z_Mem} {a j : Nat} {v : Int64} (h : z_WT M) : z_WT (z_sal M a j v) := h
/-- the classes that the helpers' tables name -/
def z_hn : Nat → String
  | 13 => "java/lang/IndexOutOfBoundsException"
  | 15 => "java/lang/IllegalArgumentException"
  | _ => "java/lang/IllegalStateException"
/-- the handler that takes it -/
def z_hand (pc : Nat) (E : String) : List (Nat × Nat × Nat × Nat) → Option Nat
  | [] => none
  | h :: t => if (h.1 ≤ pc ∧ pc < h.2.1) ∧ z_hn h.2.2.2 = E then some h.2.2.1 else z_hand pc E t
theorem z_hand_spec {pc : Nat} {E : String} {tgt : Nat} : ∀ {hh : List (Nat × Nat × Nat × Nat)}, z_hand pc E hh = some tgt →
    ∃ pre h suf, hh = pre ++ h :: suf ∧ (h.1 ≤ pc ∧ pc < h.2.1) ∧ z_hn h.2.2.2 = E ∧ h.2.2.1 = tgt ∧ ∀ z ∈ pre, ¬ (z.1 ≤ pc ∧ pc < z.2.1) ∨ E ≠ z_hn z.2.2.2 := by
  intro hh
  induction hh with
  | nil => intro h; cases h
  | cons x t ih =>
    intro h
    unfold z_hand at h
    by_cases c : (x.1 ≤ pc ∧ pc < x.2.1) ∧ z_hn x.2.2.2 = E
    · rw [if_pos c] at h
      exact ⟨[], x, t, rfl, c.1, c.2, Option.some.inj h, fun z hz => nomatch hz⟩
    · rw [if_neg c] at h
      obtain ⟨pre, h9, suf, rfl, k1, k2, k3, k4⟩ := ih h
      refine ⟨x :: pre, h9, suf, rfl, k1, k2, k3, fun z hz => ?_⟩
      rcases List.mem_cons.mp hz with rfl | hz
      · by_cases c1 : z.1 ≤ pc ∧ pc < z.2.1
        · exact Or.inr (fun e => c ⟨c1, e.symm⟩)
        · exact Or.inl c1
      · exact k4 z hz
abbrev z_hp : Type := List (Nat × Nat × Nat × Nat)
abbrev z_XH (hh : z_hp) : z_X := fun _ _ c => c.exceptionTable.toList = tableOf hh
/-- what is asked of a table -/
def z_hok (own : String) (hh : z_hp) : Prop := ∀ h ∈ hh, h.2.2.2 ≠ 0 ∧ Cond.classLink own h.2.2.2 (z_hn h.2.2.2) ∈ z_ws ∧ z_hn h.2.2.2 ∈ z_exs
abbrev z_wyH (Y : z_Y) (hh : z_hp) : List Cond := Cond.codeWith Y.1 Y.2.1 Y.2.2.1 Y.2.2.2.1 hh :: z_ws
def z_MtH (G : z_G) (Y : z_Y) (hh : z_hp) (M0 : z_Mem) (av : List z_L) (Post : Option z_L → z_Mem → Prop) : Prop :=
  z_WT M0 → Met G.1 Y.1 (z_wyH Y hh) (z_rm Y M0) (z_Pc G M0 av) (z_Qc G M0 Post) (z_cl M0) (z_sl M0) (z_A M0)
theorem z_ofMH {l : Launch} {y : MethodName} {ws ws' : List Cond} {rm : Room} {Pc : Array Value → State → Prop} {Qc : Array Value → State → Outcome → State → Prop} {mc ms : Nat} {free : Addr → Prop} {cc : ByteArray} {maxL : Nat} {ret : Option FieldType} {hh : z_hp}
    (hy : plainName y.cls = true) (hw : ws = Cond.codeWith y cc maxL ret hh :: ws')
    (body : ∀ p e s m args below meth c s₁, BodyLoose p l y (headSpec ws rm) cc maxL ret e s m args below meth c s₁ → c.maxLocals = maxL → Pc args s →
      W p l e (headSpec ws rm).room s m args below meth c s.heap [] 0 0 (MQ below Qc args s mc ms free) (entryFrame m args maxL)) : Met l y ws rm Pc Qc mc ms free := by
  refine MetFree.of_bodyS (code := cc) (maxLocals := maxL) (ret := ret) hy ?_ ?_
  · intro args s m h hn
    obtain ⟨m9, meth, c, hn9, h1, h2, h3, h4, -, h5, h6, -⟩ := Cond.codeWith_spec (atoms_spec (ws := ws) h _ (by rw [hw]; exact List.mem_cons_self))
    cases hn.symm.trans hn9
    exact ⟨meth, c, h1, h2, h3, h4, h5, h6⟩
  · intro p e s m args below meth c s₁ B hml hP _
    have hh0 : s₁.heap = s.heap := by rw [B.state]; rfl
    obtain ⟨t, a1, o, b1, b2, b3⟩ := body p e s m args below meth c s₁ B hml hP s₁ hh0 (Stand.of_body B)
    exact ⟨t, o, a1, b1, b2, b3⟩
theorem z_ofVH {G : z_G} {Y : z_Y} {hh : z_hp} {M0 : z_Mem} {av : List z_L} {Post : Option z_L → z_Mem → Prop} (hy : plainName Y.1.cls = true) (hn : z_cs av ≤ Y.2.2.1) (k : z_V G Y (z_XH hh) M0 (z_QM G M0 Post) M0 0 (z_ent 0 av) []) : z_MtH G Y hh M0 av Post := by
  intro hT
  refine z_ofMH (cc := Y.2.1) (maxL := Y.2.2.1) (ret := Y.2.2.2.1) (hh := hh) hy rfl ?_
  intro p e s m args below meth c s₁ B hml hv
  obtain ⟨rfl, hR, hK, hS⟩ := hv
  have hts := atoms_spec (ws := z_wyH Y hh) B.pre
  have htab := vx_table (x := Y.1) B (hts _ List.mem_cons_self)
  have hl := lv_entry (av.map z_v) (n := Y.2.2.1) (by rw [z_len]; exact hn)
  rw [lg_entry_eq]
  generalize (lg_sl (av.map z_v) ++ List.replicate (Y.2.2.1 - (lg_sl (av.map z_v)).length) Slot.unset).toArray = ls at hl ⊢
  rw [z_ent_eq] at hl
  have h := k p e (z_rm Y M0) s m (av.map z_v).toArray below meth c ⟨B.exec, B.bytes, B.returns, hml, findClass_of_methodNamed B.named, fun w hw => hts w (List.mem_cons_of_mem _ hw), B.notSynchronized, fun _ => (name_of_methodNamed B.named B.method).1, hK, hR, hS, Nat.le_refl _, Nat.le_refl _, rfl, rfl, htab⟩ s.heap [] ls hR hT (z_Ext.rf _) va_S.rf hl
  rw [Nat.sub_self, Nat.sub_self] at h
  exact h
section ZH
variable {G : z_G} {Y Y1 : z_Y} {X : z_X} {M0 M : z_Mem} {Q : z_Q} {pc : Nat} {lv : List (Nat × z_L)} {st : List z_L}
theorem z_last {a : Nat} {r : Option Nat} {i : Int32} {x : Int64} (ha : r = some a) (hki : z_ki M a = 25) (hin : vp_in i (z_ln M a)) (d : decode Y.2.1 pc = .ok (.lastore, 1))
    (kk : z_V G Y X M0 Q (z_sal M a i.toNatClampNeg x) (pc + 1) lv st) : z_V G Y X M0 Q M pc lv (z_J x :: z_I i :: z_O r :: st) := by
  subst ha
  intro p e R s m args below meth c9 C H locs ls hR hT hE hS hl
  have hc := (hR.2.2.2 a).2.2.2 hki
  rw [hki] at hc
  refine W.last C.1 C.2.1 hc ((z_tysI C.2.2.2.2.2.2.2.2.1).2.2 _ _) (fun q => by cases q) (by rw [arrV_size]; exact hin) rfl rfl d fun H1 e1 z oq => ?_
  have e2 := e1
  rw [arrV_store, z_upV (z_al M) Value.long] at e2
  obtain ⟨r1, r2, r3⟩ := z_stored (M1 := z_sal M a i.toNatClampNeg x) (i := i.toNatClampNeg) hR hE hS hc e1 (z_setSize _ _ _) z oq (by omega) (fun b hb => z_same_sal hb) ⟨rfl, rfl, rfl, rfl, rfl⟩ (z_atJ hki (by rw [show z_ki (z_sal M a i.toNatClampNeg x) a = 25 from hki]; exact e2))
  exact kk p e R s m args below meth c9 C H1 _ ls r1 (z_WT_sal hT) r2 r3 hl
/-- a call that may throw, under a table -/
theorem z_hV {hh : z_hp} {c n i b : Nat} {r9 : Option Nat} {As : List z_L} {sk : List z_L} {Post : Option z_L → z_Mem → Prop} {PX : String → z_Mem → Prop} (hb : r9 = some b) (hki : z_ki M b = c + 1) (B : z_CB c) (hc : c < 13) (hcl : Y1.1.cls = z_R c) (hM : z_Mx G Y1 M (z_O (some b) :: As) Post PX) (hn : As.length = n) (hf : z_fit Y Y1 n st) (hsk : As.reverse ++ z_O r9 :: st = sk)
    (w1 : Cond.methodLink Y.1.cls i Y1.1 ∈ z_ws) (w2 : Cond.instanceMethod Y1.1 ∈ z_ws) (w3 : Cond.selects (z_R c) Y1.1 Y1.1 ∈ z_ws) (w4 : Cond.initialized (z_R c) ∈ z_ws) (w5 : Cond.code Y1.1 Y1.2.1 Y1.2.2.1 Y1.2.2.2.1 ∈ z_ws) (d : decode Y.2.1 pc = .ok (.invokevirtual i, 3)) (hok : z_hok Y.1.cls hh)
    (kx : ∀ E M1, E ∈ z_exs → PX E M1 → z_WT M1 → z_Ext M M1 → ∃ tgt, z_hand pc E hh = some tgt ∧ ∀ q, z_V G Y (z_XH hh) M0 Q M1 tgt lv [z_O (some q)])
    (kk : ∀ (r : Option z_L) (M1 : z_Mem), Post r M1 → z_WT M1 → z_Ext M M1 → z_V G Y (z_XH hh) M0 Q M1 (pc + 3) lv (r.toList ++ st)) : z_V G Y (z_XH hh) M0 Q M pc lv sk := by
  subst hsk hb
  intro p e R s m args below meth c9 C H locs ls hR hT hE hS hl
  obtain ⟨⟨f1, f2, f3⟩, ⟨f4, f5⟩, f6⟩ := hf
  obtain ⟨C1, C2, C3, C4, C5, C6, C7, C8, C9, C10, C11, C12, C13, C14, C15, C16⟩ := id C
  rw [z_rev]
  refine z_callX C hR hE hS hl (vx_runV (As := As.map z_v) (rest := st.map z_v) (b := b) (C := z_R c) (bytes := Y1.2.1) (maxL := Y1.2.2.1) (ret := Y1.2.2.2.1) ⟨C1, C2, C4, C5, C6⟩ (hM hT) (cwV n C6 (z_goodL (fun w hw => ?_)) rfl rfl rfl ⟨hcl, f1, f2, f3⟩ ⟨Nat.le_trans f4 C12, Nat.le_trans f5 C13⟩) ⟨z_blind, ?_, z_pre C hR hE hS⟩ rfl (by rw [List.length_map]; exact hn) hl.1 rfl (lv_room (by rw [z_cs_eq]; exact f6)) d ?_)
    (fun r M1 H1 locs1 hp hT1 hE1 hR1 hS1 => kk r M1 hp hT1 hE1 p e R s m args below meth c9 C H1 locs1 ls hR1 hT1 (hE.trans hE1) hS1 hl)
    (fun q E ce M1 H1 locs1 hE9 hp hT1 hE1 hR1 hS1 y1 y2 y3 => ?_)
  · unfold wsV at hw
    rcases List.mem_append.mp hw with h | h
    · rcases List.mem_cons.mp h with rfl | h
      · exact w1
      rcases List.mem_cons.mp h with rfl | h
      · exact w2
      rcases List.mem_cons.mp h with rfl | h
      · exact w3
      rcases List.mem_cons.mp h with rfl | h
      · exact w4
      cases h
    · exact z_wyL w5 w h
  · exact va_recv C9 (z_P1 ((hR.2.2.2 b).1 c hki hc)) B.1 (ci := c) (q0 := 0) rfl
  · have := hE.2.1
    have := hE.2.2.1
    omega
  · obtain ⟨tgt, h1, h2⟩ := kx E M1 hE9 hp hT1 hE1
    obtain ⟨pre, h, suf, h3, h4, h5, h6, h7⟩ := z_hand_spec h1
    obtain ⟨-, -, f, -, -, -, -, -, -, -, -, -, hcas, -, hnc⟩ := C11
    have hin : h ∈ hh := by rw [h3]; exact List.mem_append_right _ List.mem_cons_self
    have C16 : c9.exceptionTable.toList = tableOf hh := C16
    refine vx_catch (own := Y.1.cls) (name := z_hn h.2.2.2) (E := E) (ce := ce) C5 (tableOf pre) ⟨h.1, h.2.1, h.2.2.1, h.2.2.2⟩ (tableOf suf) (by rw [C16, h3]; unfold tableOf; rw [List.map_append, List.map_cons]) (fun z hz => ?_) ?_ (hok h hin).1 (C6 _ (hok h hin).2.1) (by rw [h5]; exact va_Nw.use rfl (hcas _ hE9)) y1 y2 y3 ?_
    · obtain ⟨z9, hz9, rfl⟩ := List.mem_map.mp hz
      have hin9 : z9 ∈ hh := by rw [h3]; exact List.mem_append_left _ hz9
      rcases h7 z9 hz9 with c0 | c0
      · left
        unfold covers
        simpa using c0
      · exact Or.inr ⟨(hok z9 hin9).1, z_hn z9.2.2.2, C6 _ (hok z9 hin9).2.1, hnc E hE9 _ (hok z9 hin9).2.2 c0⟩
    · unfold covers
      simpa using h4
    · show W p G.1 e R s m args below meth c9 H1 locs1 _ _ _ (F0 m h.2.2.1 ls [.ref q])
      rw [h6]
      exact h2 q p e R s m args below meth c9 C H1 locs1 ls hR1 hT1 (hE.trans hE1) hS1 hl
/-- a call of a method with a table that throws nothing -/
theorem z_cSH0 {hh : z_hp} {n i : Nat} {As : List z_L} {sk : List z_L} {Post : Option z_L → z_Mem → Prop} (hcl : Y1.1.cls = Y.1.cls) (hM : z_MtH G Y1 hh M As Post) (hn : As.length = n) (hf : z_fit Y Y1 n st) (hsk : As.reverse ++ st = sk)
    (w1 : Cond.methodLink Y.1.cls i Y1.1 ∈ z_ws) (w2 : Cond.static Y1.1 ∈ z_ws) (w4 : Cond.initialized Y.1.cls ∈ z_ws) (w5 : Cond.codeWith Y1.1 Y1.2.1 Y1.2.2.1 Y1.2.2.2.1 hh ∈ z_ws) (d : decode Y.2.1 pc = .ok (.invokestatic i, 3))
    (kk : ∀ (r : Option z_L) (M1 : z_Mem), Post r M1 → z_WT M1 → z_Ext M M1 → z_V G Y X M0 Q M1 (pc + 3) lv (r.toList ++ st)) : z_V G Y X M0 Q M pc lv sk := by
  subst hsk
  intro p e R s m args below meth c9 C H locs ls hR hT hE hS hl
  obtain ⟨⟨f1, f2, f3⟩, ⟨f4, f5⟩, f6⟩ := hf
  obtain ⟨C1, C2, C3, C4, C5, C6, C7, C8, C9, C10, C11, C12, C13, C14, C15, -⟩ := id C
  rw [z_rev0]
  refine z_callW C hR hE hS hl (vx_runSW (hh := hh) (As := As.map z_v) (rest := st.map z_v) (bytes := Y1.2.1) (maxL := Y1.2.2.1) (ret := Y1.2.2.2.1) ⟨C1, C2, C4, C5, C6⟩ (hM hT) (vx_cwSW n C6 (z_goodL (fun w hw => ?_)) rfl rfl rfl ⟨f1, f2, f3⟩ ⟨Nat.le_trans f4 C12, Nat.le_trans f5 C13⟩) ⟨z_blind, z_pre C hR hE hS⟩ rfl (by rw [List.length_map]; exact hn) hl.1 rfl (lv_room (by rw [z_cs_eq]; exact f6)) d ?_) kk
  · unfold va_wsS at hw
    rcases List.mem_append.mp hw with h | h
    · rcases List.mem_cons.mp h with rfl | h
      · exact w1
      rcases List.mem_cons.mp h with rfl | h
      · exact w2
      rcases List.mem_cons.mp h with rfl | h
      · rw [hcl]; exact w4
      cases h
    · rcases List.mem_cons.mp h with rfl | h
      · exact w5
      · exact h
  · have := hE.2.1
    have := hE.2.2.1
    omega
theorem z_cSHi {hh : z_hp} {P : Int32 → z_Mem → Prop} {n i : Nat} {As : List z_L} {sk : List z_L} (hcl : Y1.1.cls = Y.1.cls) (hM : z_MtH G Y1 hh M As (z_PI P)) (hn : As.length = n) (hf : z_fit Y Y1 n st) (hsk : As.reverse ++ st = sk)
    (w1 : Cond.methodLink Y.1.cls i Y1.1 ∈ z_ws) (w2 : Cond.static Y1.1 ∈ z_ws) (w4 : Cond.initialized Y.1.cls ∈ z_ws) (w5 : Cond.codeWith Y1.1 Y1.2.1 Y1.2.2.1 Y1.2.2.2.1 hh ∈ z_ws) (d : decode Y.2.1 pc = .ok (.invokestatic i, 3))
    (kk : ∀ (x : Int32) (M1 : z_Mem), P x M1 → z_WT M1 → z_Ext M M1 → z_V G Y X M0 Q M1 (pc + 3) lv (z_I x :: st)) : z_V G Y X M0 Q M pc lv sk :=
  z_cSH0 hcl hM hn hf hsk w1 w2 w4 w5 d (fun r M1 hp hT hE => by obtain ⟨x, rfl, hp⟩ := hp; exact kk x M1 hp hT hE)
/-! the script -/
abbrev z_XL (b L : Nat) (xs : Nat → Int32) : z_X := fun _ s _ => va_X b L xs s s.heap ∧ b < s.heap.size
theorem z_notA {H : Heap} {b : Nat} (hR : z_Rep G M0 H) (hk : z_ki M0 b = 0) (hb : b < H.size) : ¬ z_A M0 b := by
  intro h
  rcases h with h | h
  · exact h hk
  · have := hR.1; omega
theorem z_sld {b L : Nat} {xs : Nat → Int32} {i : Int32} (hk : z_ki M0 b = 0) (hin : vp_in i L) (d : decode Y.2.1 pc = .ok (.iaload, 1))
    (kk : z_V G Y (z_XL b L xs) M0 Q M (pc + 1) lv (z_I (xs i.toNatClampNeg) :: st)) : z_V G Y (z_XL b L xs) M0 Q M pc lv (z_I i :: z_O (some b) :: st) := by
  intro p e R s m args below meth c9 C H locs ls hR hT hE hS hl
  have h := kk p e R s m args below meth c9 C H locs ls hR hT hE hS hl
  have hx : va_X b L xs s s.heap ∧ b < s.heap.size := C.2.2.2.2.2.2.2.2.2.2.2.2.2.2.2
  exact va_sld C.1 C.2.1 hx.1 hx.2 (z_notA C.2.2.2.2.2.2.2.2.2.1 hk hx.2) hS hin d h
theorem z_slen {b L : Nat} {xs : Nat → Int32} (hk : z_ki M0 b = 0) (d : decode Y.2.1 pc = .ok (.arraylength, 1))
    (kk : z_V G Y (z_XL b L xs) M0 Q M (pc + 1) lv (z_I (nI L) :: st)) : z_V G Y (z_XL b L xs) M0 Q M pc lv (z_O (some b) :: st) := by
  intro p e R s m args below meth c9 C H locs ls hR hT hE hS hl
  have h := kk p e R s m args below meth c9 C H locs ls hR hT hE hS hl
  have hx : va_X b L xs s s.heap ∧ b < s.heap.size := C.2.2.2.2.2.2.2.2.2.2.2.2.2.2.2
  exact va_slen C.1 C.2.1 hx.1 hx.2 (z_notA C.2.2.2.2.2.2.2.2.2.1 hk hx.2) hS d h
end ZH
