/-! ===== THE LIKENESS: all that arrives at the client ===== -/
section JCA
variable {n : Nat} {M M0 M1 M2 M3 : z_Mem} {r r1 r2 : q_R} {TL CL A B : List Nat} {t s q z k c w : Nat} {d D : Int}
def q_BF : List Nat := [1551, 1577, 1579, 1580, 1581, 1585, 1589]
def q_BR : List Nat := [46, 50, 51, 52, 53, 54, 106, 92, 68, 69, 70, 76, 84, 85, 87, 88, 89, 90, 91, 94, 96, 97, 98, 99, 100, 101, 102, 103, 104]
theorem q_arcF (J : JJ n M r TL CL) (hk : kI t s q z r) (h : nP D c w r) {m k : Nat} (hk3 : k < 3600) (hm : j_mC n M r m k) (hA : r.2 57 k = 6 → r.1 1577 = 1 → r.2 91 0 = 0 → (r.1 1536).toInt - (r.1 1580).toInt ≤ 140) (hT : r.2 57 k = 7 → jN (r.2 58 k) < 3600 ∧ kTld r (jN (r.2 58 k))) : q_fr q_BF q_BR r (qF_arrivesAtClient (nI k) r) := by
  have hM := h.2.2.2.1.2.2.2.2.1
  have b58 := ri_A hk.1 (x := 58) (lo := 0) (hi := 3599) (by decide) k
  have i58 := jI_jN b58.1
  obtain ⟨m0, m1, m3, m4, mk⟩ := hm
  rcases mk with ⟨k1, k2, k3⟩ | ⟨k1, k2, k3, k4⟩ | ⟨k1, k2, k3, b, k4, k5⟩ | ⟨k1, k2, k3⟩ | ⟨k1, k2, k3⟩
  · rw [q_arr5 hk3 k1]
    split
    · rw [q_hello _ (Or.inr rfl)]
      exact q_frt (q_frua (by decide) (q_fruf (by decide) (q_fruf (by decide) (q_fruf (by decide) q_fr0)))) (q_frw (q_putsF (by decide)) (by decide) (by decide))
    · exact q_fr0
  · rw [q_arr6 hk3 k1]
    by_cases c1 : r.1 1577 = 1
    · rw [if_pos c1]
      obtain ⟨-, -, F, -, -⟩ := j_hearAccept (x := z_fi M 519 m) (y := if r.2 58 k = 1 then 1 else 0) J (by rw [c1]; decide) hk (by
        rw [k4]
        by_cases c : r.2 58 k = 1
        · rw [if_pos c]; exact ⟨fun hh => absurd c hh, fun hh => absurd hh (by decide)⟩
        · rw [if_neg c]; exact ⟨fun _ => rfl, fun _ => c⟩) (fun hz => hA k1 c1 hz)
      exact q_frw F (by decide) (by decide)
    · rw [if_neg c1]; exact q_fr0
  · rw [q_arr7 hk3 k1]
    by_cases c1 : r.1 1577 = 2 ∨ r.1 1577 = 3
    · rw [if_pos c1]
      obtain ⟨T1, T2⟩ := hT k1
      rw [← i58]
      obtain ⟨-, -, F, -⟩ := j_hearAck T1 J hk k5 T2 (hM c1)
      exact q_frw F (by decide) (by decide)
    · rw [if_neg c1]; exact q_fr0
  · rw [q_arr8 hk3 k1]
    split
    · exact q_fr0
    · exact q_frua (by decide) q_fr0
  · rw [q_arr9 hk3 k1]
    split
    · exact q_fr0
    · exact q_fruf (by decide) q_fr0
theorem j_cliAll {δ : Int} (hD : 0 ≤ D) {L : Nat} {v : Int32} {f g : Nat → Int32} {v4 : Int32} (hL : L ≤ 3600) : ∀ m k (M : z_Mem) (r : q_R), k + m = L → jN (r.1 1559) = L → r.1 1536 = v → r.2 60 = f → r.2 56 = g → r.1 1554 = v4 → JJ n M r TL (dl f v k L) → kI t s q z r → nP D c w r → nA δ r → ∃ r', JJ n (cF_X1_hearAll_11 (n + 31) (nI (dl f v k L).length) M) r' TL (dl f v L L) ∧ kI t s q z r' ∧ nP D c w r' ∧ nA δ r' ∧ r'.1 1536 = v ∧ r'.2 60 = f ∧ r'.2 56 = g ∧ r'.1 1554 = v4 ∧ jN (r'.1 1559) = L ∧ qF_passes_56 (nI L) (nI k) r = qF_passes_56 (nI L) (nI L) r' := by
  intro m
  induction m with
  | zero =>
    intro k M r hk h59 hv hf hg h4 J K N NA
    have ek : k = L := by omega
    subst ek
    have hnd : ∀ i, i ∈ dl f v k k → ¬ r.2 60 i = v := by rw [hf]; exact (dl_end (Nat.le_refl _)).2
    have hM : cF_X1_hearAll_11 (n + 31) (nI (dl f v k k).length) M = M := by
      have hB := cE_X1_hearAll_11 (n + 31) (nI (dl f v k k).length) M
      by_cases c0 : nI (dl f v k k).length ≤ 0
      · rw [if_pos c0] at hB
        exact cUr_X1_hearAll_11 hB
      · rw [if_neg c0, s_128_31 J.1] at hB
        replace hB := hB.trans (q_ste (b := n + 1) rfl)
        replace hB := hB.trans (q_ste (b := n + 1) rfl)
        rw [s_643_1 J.1] at hB
        replace hB := hB.trans (q_ste (b := n + 8) rfl)
        rw [js_645_1 J, hv, (j_takeC J v).1 hnd] at hB
        replace hB := hB.trans (q_ste2 rfl)
        replace hB := hB.trans (q_opn rfl)
        exact cUr_X1_hearAll_11 hB
    exact ⟨r, by rw [hM]; exact J, K, N, NA, hv, hf, hg, h4, h59, rfl⟩
  | succ m ih =>
    intro k M r hk h59 hv hf hg h4 J K N NA
    have I := K.1
    have ek : (nI k).toNatClampNeg = k := jI_N (by omega)
    have hB := qE_passes_56 (nI L) (nI k) r
    rw [if_neg (fun h => absurd ((jI_le (by omega) (by omega)).mp h) (by omega)), ek, hv, hf] at hB
    have e1 : nI k + 1 = nI (k + 1) := by rw [jI_1, jI_add (by show k + 1 < _; omega)]
    by_cases c2 : f k = v
    · rw [if_pos c2] at hB
      obtain ⟨A, B, x1, x2, x3⟩ := dl_split (L := L) (k := k) (by omega) c2
      have TK := (j_takeC J v).2 A k B x1 (by rw [hf]; exact x3) (by rw [hf]; exact c2)
      rw [x1] at J ⊢
      obtain ⟨mm, g1, g2, J2⟩ := J.takeC
      rw [g1] at TK
      have hk59 : k < jN (r.1 1559) := by omega
      have t60 : r.2 60 k = r.1 1536 := by rw [hf, c2, hv]
      have hH4 := N.2.1.2.2.2 k hk59
      have hd5 := N.2.2.1.2.2.2.2.1 k hk59
      rw [t60] at hH4 hd5
      have b61 := ri_F I (g := 1561) (lo := 0) (hi := 3600) (by decide)
      have n61 := jN_toInt b61.1
      have hA : r.2 57 k = 6 → r.1 1577 = 1 → r.2 91 0 = 0 → (r.1 1536).toInt - (r.1 1580).toInt ≤ 140 := fun e _ _ => by have := hH4 e; omega
      have hT : r.2 57 k = 7 → jN (r.2 58 k) < 3600 ∧ kTld r (jN (r.2 58 k)) := fun e => by
        obtain ⟨y1, y2⟩ := hd5 e
        exact ⟨by omega, y2⟩
      have hC := cE_X1_hearAll_11 (n + 31) (nI (A ++ k :: B).length) M
      have ln : (A ++ k :: B).length < 2147483648 := by have := J.2.2.2.2.2.2.2.2.1; omega
      have c0 : ¬ nI (A ++ k :: B).length ≤ 0 := jI_nle0 (by rw [dl_len]; omega) ln
      rw [if_neg c0, s_128_31 J.1] at hC
      replace hC := hC.trans (q_ste (b := n + 1) rfl)
      replace hC := hC.trans (q_ste (b := n + 1) rfl)
      rw [s_643_1 J.1] at hC
      replace hC := hC.trans (q_ste (b := n + 8) rfl)
      rw [js_645_1 J, hv, TK] at hC
      replace hC := hC.trans (q_ste2 rfl)
      replace hC := hC.trans (q_ops rfl)
      rw [js_135_31 J2] at hC
      have el : nI (A ++ k :: B).length + (-1) = nI (A ++ B).length := by rw [dl_len (A := A) (B := B) (k := k)]; exact j_p1 (by rw [dl_len] at ln; omega)
      have c69 : ∀ M', cF_X1_hearAll_69 (n + 31) (nI (A ++ k :: B).length) M' = .inl (nI (A ++ B).length, M') := fun M' => by
        rw [cE_X1_hearAll_69, el]; rfl
      replace hB := hB.trans (q_ste rfl)
      rw [qE_passes_79, e1] at hB
      replace hB := hB.trans (q_ste rfl)
      rw [qUl_passes_56 hB]
      have h0 : ¬ r.1 1577 = 0 := fun e => by
        have := (N.2.2.2.1.2.2.2.1 e).2.1
        omega
      have s2 := N.2.2.2.1.2.1
      have FC := q_arcF J2 K N (by omega) g2 hA hT
      have IC := rI_arrivesAtClient (t := t) (s := s) (q := q) (z := z) J.1 I (x := nI k) (by rw [jI_t (by omega)]; omega)
      by_cases c45 : r.1 1577 = 4 ∨ r.1 1577 = 5
      · have hs5 : r.2 57 k = 5 ∨ r.2 57 k = 6 ∨ r.2 57 k = 7 ∨ r.2 57 k = 8 ∨ r.2 57 k = 9 := by
          rcases g2.2.2.2.2 with h | h | h | h | h
          · exact Or.inl h.1
          · exact Or.inr (Or.inl h.1)
          · exact Or.inr (Or.inr (Or.inl h.1))
          · exact Or.inr (Or.inr (Or.inr (Or.inl h.1)))
          · exact Or.inr (Or.inr (Or.inr (Or.inr h.1)))
        rw [q_arrN (by omega) hs5 c45]
        have n1 : ¬ r.1 1577 = 1 := fun e => by rcases c45 with h | h <;> rw [h] at e <;> exact absurd e (by decide)
        have n2 : ¬ r.1 1577 = 2 := fun e => by rcases c45 with h | h <;> rw [h] at e <;> exact absurd e (by decide)
        have n3 : ¬ r.1 1577 = 3 := fun e => by rcases c45 with h | h <;> rw [h] at e <;> exact absurd e (by decide)
        rw [if_neg n1, if_neg n2, if_neg n3, c69] at hC
        rw [cUl_X1_hearAll_11 hC]
        rw [← x2] at J2 ⊢
        exact ih (k + 1) _ r (by omega) h59 hv hf hg h4 J2 K N NA
      · have c123 : r.1 1577 = 1 ∨ r.1 1577 = 2 ∨ r.1 1577 = 3 := by
          rcases s2 with h | h | h | h | h | h
          · exact absurd h h0
          · exact Or.inl h
          · exact Or.inr (Or.inl h)
          · exact Or.inr (Or.inr h)
          · exact absurd (Or.inl h) c45
          · exact absurd (Or.inr h) c45
        obtain ⟨J3, K3⟩ := j_hearC J2 K (by omega) g2 c123 hA hT N.2.2.2.1.2.2.2.2.1
        have N3 := nP_arrC hD J2 K N (by omega) g2 hk59 c123 hA hT
        have c64 : cF_X1_hearAll_64 (n + 31) (nI (A ++ k :: B).length) (some mm) (j_tk M (n + 8) (n + 9) (A ++ k :: B).length A.length) = .inl (nI (A ++ B).length, cF_X1_hear (n + 31) (some mm) (j_tk M (n + 8) (n + 9) (A ++ k :: B).length A.length)) := by
          rw [cE_X1_hearAll_64]
          refine (q_ste rfl).trans ?_
          exact c69 _
        have hC2 : cB_X1_hearAll_11 (n + 31) (nI (A ++ k :: B).length) M = .inl (nI (A ++ B).length, cF_X1_hear (n + 31) (some mm) (j_tk M (n + 8) (n + 9) (A ++ k :: B).length A.length)) := by
          rw [← c64]
          refine hC.trans ?_
          rcases c123 with h | h | h
          · rw [if_pos h]
          · rw [if_neg (by rw [h]; decide), if_pos h]
          · rw [if_neg (by rw [h]; decide), if_neg (by rw [h]; decide), if_pos h]
        rw [cUl_X1_hearAll_11 hC2]
        rw [← x2] at J3 ⊢
        generalize qF_arrivesAtClient (nI k) r = r' at J3 K3 N3 FC IC
        exact ih (k + 1) _ r' (by omega) (by rw [FC.1 1559 (by decide)]; exact h59) ((FC.1 1536 (by decide)).trans hv) ((FC.2 60 (by decide)).trans hf) ((FC.2 56 (by decide)).trans hg) ((FC.1 1554 (by decide)).trans h4) J3 K3 N3 (nA_fr FC (by decide) NA)
    · rw [← dl_skip c2] at J ⊢
      rw [if_neg c2, qE_passes_79, e1] at hB
      replace hB := hB.trans (q_ste rfl)
      rw [qUl_passes_56 hB]
      exact ih (k + 1) M r (by omega) h59 hv hf hg h4 J K N NA
end JCA
