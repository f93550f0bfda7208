/-! ===== THE LIKENESS: an ACK is heard, its ranges ===== -/
section JHB
variable {n : Nat} {M M0 M1 M2 : z_Mem} {r r1 r2 : q_R} {TL CL : List Nat} {t s q z : Nat}
theorem hA_op {o : Option Nat} {x : z_Mem} {f : Nat → z_Mem} {a : Nat} (h : o = some a) (k : hA n M (f a)) : hA n M (q_op o x f) := by rw [h]; exact k
theorem c_ackPA (J : JJ n M r TL CL) (I : rf_I t s q z r.1 r.2) {i pk : Nat} (hi : i < jN (r.1 1606)) (e : z_ar M (n + 38) i = some pk) (h71 : r.2 71 i = 0) : hA n M (cF_X1_acknowledge (n + 31) (some pk) M) := by
  obtain ⟨sN, a, m, hs, ham, e3, e4, e5⟩ := ri_by I i
  obtain ⟨pk0, a1, a2, a3, a4, a5⟩ := J.pkt hi
  rw [e] at a1
  cases a1
  have hb := ri_pk I
  rw [cE_X1_acknowledge]
  refine hA_op rfl ?_
  have hr : cF_X1_routeOf (n + 31) (z_fi M 769 pk) M = (some (n + 32), M) := by
    rw [cE_X1_routeOf, (jp_769 a5).trans h71, if_pos rfl, s_130_31 J.1]
  refine hA_s2 hr ?_
  by_cases c0 : z_fi M 778 pk = 0
  · rw [if_pos c0]
    refine hA_s (fun M36 e36 => hA_s (fun a37 e37 => hA_s (fun M39 e39 => hA_s (fun x42 _ => hA_s (fun a45 _ => hA_s (fun a48 _ => hA_s (fun a53 e53 => hA_s (fun M52 e52 => hA_s (fun M56 e56 => ?_)))))))))
    have ea : a37 = n + 32 := e37
    have H36 : hA n M M36 := by rw [e36]; exact c_leaveA J I hi e h71
    have H39 : hA n M M39 := by rw [e39]; exact hA_f H36 (by decide)
    have eb : a53 = n + 33 := by rw [e53, ea, s_897_32 H39.1]; rfl
    have H52 : hA n M M52 := by rw [e52, eb]; exact c_growA H39
    rw [e56]
    exact hA_f H52 (by decide)
  · rw [if_neg c0]
    by_cases c2 : z_fi M 778 pk = 2
    · rw [if_pos c2]
      refine hA_s (fun M8 e8 => hA_s (fun a9 e9 => hA_s (fun M11 e11 => ?_)))
      have H8 : hA n M M8 := by rw [e8]; exact hA_f (hA_r J.1) (by decide)
      have H11 : hA n M M11 := by rw [e11]; exact hA_f H8 (by decide)
      have p11 : ∀ k, k ≠ 778 → k ≠ 912 → z_fi M11 k pk = z_fi M k pk := fun k h1 h2 => by rw [e11, zq_fi_sfi, if_neg h2, e8, zq_fi_sfi, if_neg h1]
      have h3 : z_fi M11 771 pk = nI sN := (p11 771 (by decide) (by decide)).trans ((jp_771 a5).trans e3)
      have h4 : z_fi M11 772 pk = nI a := (p11 772 (by decide) (by decide)).trans ((jp_772 a5).trans e4)
      have h5 : z_fi M11 773 pk = nI m := (p11 773 (by decide) (by decide)).trans ((jp_773 a5).trans e5)
      rw [h3, h4, h5, if_neg (jI_nlt0 (by omega)), if_neg (jI_n4 hs)]
      refine hA_s (fun a26 e26 => hA_s (fun a31 e31 => hA_s (fun M30 e30 => hA_s (fun a35 e35 => hA_s (fun M34 e34 => ?_)))))
      have x1 : a26 = n + 11 := by rw [e26, s_129_31 H11.1]; rfl
      have x2 : a31 = n + (12 + 4 * sN) := by rw [e31, x1, jI_N (by omega), s_str H11.1 hs]; rfl
      have H30 : hA n M M30 := by rw [e30, x2]; exact c_ackA hs ham H11
      rw [e34]
      exact c_tbA H30
    · rw [if_neg c2]
      exact hA_r J.1
theorem j_ack.cA {b t' : Nat} (h : j_ack n M r b t') (H : hA n M M1) (e : r1.2 61 = r.2 61) : j_ack n M1 r1 b t' := by
  obtain ⟨h1, h2, l, hh, ee, g1, g2, g3, g4, g5, g6, k1, k2, k3, k4, k5⟩ := h
  obtain ⟨x1, x2, x3, x4, x5, -⟩ := H
  refine ⟨h1, by rw [x2]; exact h2, l, hh, ee, by rw [x4]; exact g1, by rw [x4]; exact g2, by rw [x4]; exact g3, by rw [x2]; exact g4, by rw [x2]; exact g5, by rw [x2]; exact g6, ?_, ?_, ?_, ?_, ?_⟩
  · rw [x3 3 b (by decide), e]; exact k1
  · intro i hi
    rw [e] at hi
    rw [x5 l i g4.1, x5 hh i g5.1, e]; exact k2 i hi
  · rw [x3 4 b (by decide), e]; exact k3
  · intro s' hs'
    rw [x5 ee s' g6.1, e]; exact k4 s' hs'
  · rw [x3 5 b (by decide), e]; exact k5
/-- a told row speaks of packets that are old enough -/
def kTld (r : q_R) (t' : Nat) : Prop := ∀ i, i < jN (r.2 61 (15 * t')) → (r.2 61 (15 * t' + 2 + 2 * i)).toInt < (r.1 1606).toInt ∧ ∀ k : Nat, (k : Int) ≤ (r.2 61 (15 * t' + 2 + 2 * i)).toInt → (r.2 72 k).toInt + 2 ≤ (r.1 1536).toInt
/-- what news of packets leaves alone -/
def kH (r r1 : q_R) : Prop := q_fr [] [69, 70, 76, 84, 85, 94, 97, 98, 99, 102, 106] r r1
theorem kTld_c {t' : Nat} (h : kTld r t') (F : kH r r1) : kTld r1 t' := by
  unfold kTld at h ⊢
  rw [F.2 61 (by decide), F.2 72 (by decide), F.1 1606 (by decide), F.1 1536 (by decide)]
  exact h
theorem kI_hearsOf (S : y_S n M) (h : kI t s q z r) {i : Nat} (hi : i < jN (r.1 1606)) (hage : (r.2 72 i).toInt + 2 ≤ (r.1 1536).toInt) : kI t s q z (qF_hearsOf (nI i) r) ∧ kH r (qF_hearsOf (nI i) r) := by
  have hb := ri_pk h.1
  exact ⟨⟨(rI_hearsOf S h.1 (by rw [jI_t (by omega)]; omega)).1, kP_hearsOf h.2 h.1 hi hage⟩, q_hearsOfF h.2 h.1 hi⟩
theorem q_61 {t' i : Nat} (ht : t' < 3600) (hi : i < 4) : ((nI (15 * t') + 2) + (2 * nI i) : Int32).toNatClampNeg = 15 * t' + 2 + 2 * i := by
  have e1 : (nI (15 * t') + 2 : Int32).toInt = (15 * t' : Nat) + 2 := i_addE (jI_t (by omega)) (show (2 : Int32).toInt = 2 from rfl) (by omega) (by omega)
  have e2 : (2 * nI i : Int32).toInt = 2 * (i : Int) := i_mulE (show (2 : Int32).toInt = 2 from rfl) (jI_t (by omega)) (by omega) (by omega)
  exact jN_of (by rw [i_addE e1 e2 (by omega) (by omega)]; omega)
theorem q_61b {t' i : Nat} (ht : t' < 3600) (hi : i < 4) : ((nI (15 * t') + 1) + (2 * nI i) : Int32).toNatClampNeg = 15 * t' + 1 + 2 * i := by
  have e1 : (nI (15 * t') + 1 : Int32).toInt = (15 * t' : Nat) + 1 := i_addE (jI_t (by omega)) (show (1 : Int32).toInt = 1 from rfl) (by omega) (by omega)
  have e2 : (2 * nI i : Int32).toInt = 2 * (i : Int) := i_mulE (show (2 : Int32).toInt = 2 from rfl) (jI_t (by omega)) (by omega) (by omega)
  exact jN_of (by rw [i_addE e1 e2 (by omega) (by omega)]; omega)
theorem q_m15 {t' i : Nat} (hi : i < 4) : 1 ≤ (15 * t' + 1 + 2 * i) % 15 ∧ (15 * t' + 1 + 2 * i) % 15 ≤ 8 := by
  have h : i = 0 ∨ i = 1 ∨ i = 2 ∨ i = 3 := by omega
  rcases h with rfl | rfl | rfl | rfl <;> omega
/-- a range -/
theorem j_ha52 {b t' i : Nat} {x2 : Option Nat} {x3 y3 y4 : Int32} (ht : t' < 3600) (hi : i < 4) : ∀ (m k : Nat) (M : z_Mem) (r : q_R), JJ n M r TL CL → kI t s q z r → j_ack n M r b t' → kTld r t' → i < jN (r.2 61 (15 * t')) → k < 1000 → (r.2 61 (15 * t' + 2 + 2 * i)).toInt < (k : Int) + m → ∃ M' r', JJ n M' r' TL CL ∧ kI t s q z r' ∧ kH r r' ∧ hA n M M' ∧ cF_X1_hearAck_52 (n + 31) (some b) x2 x3 (nI i) (nI k) M = .inl (some b, x2, x3, nI i + (-1), M') ∧ qF_hearsAck_78 (nI (15 * t')) y3 y4 (nI i) (nI k) r = .inl (nI (15 * t'), y3, y4, nI i + (-1), r') := by
  intro m
  induction m with
  | zero =>
    intro k M r J h A T hr hk hm
    obtain ⟨h1, h2, l, hh, ee, g1, g2, g3, g4, g5, g6, k1, k2, k3, k4, k5⟩ := A
    have hB := cE_X1_hearAck_52 (n + 31) (some b) x2 x3 (nI i) (nI k) M
    replace hB := hB.trans (q_ste (b := b) rfl)
    replace hB := hB.trans (q_ste (b := hh) (by rw [g2]; rfl))
    rw [jI_N (by omega : i < 2147483648), (k2 i hr).2] at hB
    have cc : r.2 61 (15 * t' + 2 + 2 * i) < nI k := by rw [Int32.lt_iff_toInt_lt, jI_t (by omega)]; omega
    rw [if_pos cc] at hB
    have hQ := qE_hearsAck_78 (nI (15 * t')) y3 y4 (nI i) (nI k) r
    rw [q_61 ht hi, if_pos cc] at hQ
    replace hQ := hQ.trans (q_ste rfl)
    have hD := cE_X1_hearAck_89 (n + 31) (some b) x2 x3 (nI i) M
    exact ⟨M, r, J, h, q_fr0, hA_r J.1, (cUr_X1_hearAck_52 hB).trans (hD.trans (q_ste rfl)), qUr_hearsAck_78 hQ⟩
  | succ m ih =>
    intro k M r J h A T hr hk hm
    have A0 := A
    have hb := ri_pk h.1
    have hP := ri_P h.1
    have hPN := jN_toInt hP.1
    obtain ⟨h1, h2, l, hh, ee, g1, g2, g3, g4, g5, g6, k1, k2, k3, k4, k5⟩ := A
    have hB := cE_X1_hearAck_52 (n + 31) (some b) x2 x3 (nI i) (nI k) M
    replace hB := hB.trans (q_ste (b := b) rfl)
    replace hB := hB.trans (q_ste (b := hh) (by rw [g2]; rfl))
    rw [jI_N (by omega : i < 2147483648), (k2 i hr).2] at hB
    have hQ := qE_hearsAck_78 (nI (15 * t')) y3 y4 (nI i) (nI k) r
    rw [q_61 ht hi] at hQ
    by_cases cc : r.2 61 (15 * t' + 2 + 2 * i) < nI k
    · rw [if_pos cc] at hB hQ
      replace hQ := hQ.trans (q_ste rfl)
      have hD := cE_X1_hearAck_89 (n + 31) (some b) x2 x3 (nI i) M
      exact ⟨M, r, J, h, q_fr0, hA_r J.1, (cUr_X1_hearAck_52 hB).trans (hD.trans (q_ste rfl)), qUr_hearsAck_78 hQ⟩
    · rw [if_neg cc] at hB hQ
      rw [Int32.lt_iff_toInt_lt, jI_t (by omega)] at cc
      obtain ⟨T1, T2⟩ := T i hr
      have hkP : k < jN (r.1 1606) := by omega
      rw [js_133_31 J, if_neg (by rw [Int32.le_iff_toInt_le, jI_t (by omega)]; omega)] at hB
      obtain ⟨pk, a1, -, -, -, -⟩ := J.pkt hkP
      replace hB := hB.trans (q_ste2 (j_patS J h.1 hkP))
      rw [a1] at hB
      have e1 : nI (k + 1) = nI k + 1 := by rw [jI_1, jI_add (by omega)]
      have J1 := j_ackK J h.1 h.2 hkP a1
      have H1 := c_ackPA J h.1 hkP a1 (h.2.1.2.2.1 k hkP).1
      obtain ⟨h1', F1⟩ := kI_hearsOf J.1 h hkP (T2 k (by omega))
      generalize cF_X1_acknowledge (n + 31) (some pk) M = W at hB J1 H1
      replace hB := hB.trans (q_ste (b := W) rfl)
      replace hB := hB.trans (q_ste (b := nI (k + 1)) e1)
      generalize qF_hearsOf (nI k) r = R at hQ J1 h1' F1
      replace hQ := hQ.trans (q_ste (b := R) rfl)
      replace hQ := hQ.trans (q_ste (b := nI (k + 1)) e1)
      have e61 := F1.2 61 (by decide)
      obtain ⟨M', r', z1, z2, z3, z4, z5, z6⟩ := ih (k + 1) W R J1 h1' (A0.cA H1 e61) (kTld_c T F1) (by rw [e61]; exact hr) (by omega) (by rw [e61]; omega)
      exact ⟨M', r', z1, z2, q_frt F1 z3, hA_t H1 z4, (cUl_X1_hearAck_52 hB).trans z5, (qUl_hearsAck_78 hQ).trans z6⟩
/-- all ranges -/
theorem j_ha38 {b t' c : Nat} {x2 : Option Nat} {x3 y3 y4 : Int32} (ht : t' < 3600) (hc : c ≤ 4) : ∀ (j : Nat) (M : z_Mem) (r : q_R), j ≤ c → JJ n M r TL CL → kI t s q z r → j_ack n M r b t' → kTld r t' → jN (r.2 61 (15 * t')) = c → ∃ M' r', JJ n M' r' TL CL ∧ kI t s q z r' ∧ kH r r' ∧ hA n M M' ∧ cF_X1_hearAck_38 (n + 31) (some b) x2 x3 (nI j + (-1)) M = cF_X1_hearAck_38 (n + 31) (some b) x2 x3 (nI 0 + (-1)) M' ∧ qF_hearsAck_58 (nI (15 * t')) y3 y4 (nI j + (-1)) r = qF_hearsAck_58 (nI (15 * t')) y3 y4 (nI 0 + (-1)) r' := by
  intro j
  induction j with
  | zero => intro M r _ J h A T _; exact ⟨M, r, J, h, q_fr0, hA_r J.1, rfl, rfl⟩
  | succ i ih =>
    intro M r hj J h A T hr
    have A0 := A
    obtain ⟨h1, h2, l, hh, ee, g1, g2, g3, g4, g5, g6, k1, k2, k3, k4, k5⟩ := A
    have hir : i < jN (r.2 61 (15 * t')) := by omega
    have hB := cE_X1_hearAck_38 (n + 31) (some b) x2 x3 (nI i) M
    rw [if_neg (jI_nlt0 (by omega))] at hB
    replace hB := hB.trans (q_ste (b := b) rfl)
    replace hB := hB.trans (q_ste (b := l) (by rw [g1]; rfl))
    rw [jI_N (by omega : i < 2147483648), (k2 i hir).1] at hB
    have hQ := qE_hearsAck_58 (nI (15 * t')) y3 y4 (nI i) r
    rw [if_neg (jI_nlt0 (by omega)), q_61b ht (by omega)] at hQ
    have hlo : 0 ≤ (r.2 61 (15 * t' + 1 + 2 * i)).toInt ∧ (r.2 61 (15 * t' + 1 + 2 * i)).toInt ≤ 399 := (h.1.2.2.2.2.2.2.1.1 (15 * t' + 1 + 2 * i)).2 (q_m15 (by omega))
    have hlN := jN_toInt hlo.1
    have elo := jI_jN hlo.1
    generalize hkk : jN (r.2 61 (15 * t' + 1 + 2 * i)) = k at hlN elo
    rw [← elo] at hB hQ
    replace hB := hB.trans (q_ste (b := nI k) rfl)
    replace hQ := hQ.trans (q_ste (b := nI k) rfl)
    obtain ⟨T1, T2⟩ := T i hir
    have hP := ri_P h.1
    obtain ⟨M', r', z1, z2, z3, z4, z5, z6⟩ := j_ha52 (b := b) (t' := t') (i := i) (x2 := x2) (x3 := x3) (y3 := y3) (y4 := y4) ht (by omega) 1000 k M r J h A0 T hir (by omega) (by omega)
    have e61 := z3.2 61 (by decide)
    obtain ⟨M'', r'', w1, w2, w3, w4, w5, w6⟩ := ih M' r' (by omega) z1 z2 (A0.cA z4 e61) (kTld_c T z3) (by rw [e61]; exact hr)
    have e0 : nI (i + 1) + (-1) = nI i := j_p1 (by omega)
    rw [e0]
    exact ⟨M'', r'', w1, w2, q_frt z3 w3, hA_t z4 w4, (cUl_X1_hearAck_38 (hB.trans z5)).trans w5, (qUl_hearsAck_58 (hQ.trans z6)).trans w6⟩
end JHB
