/-! ===== WHEN AN ACKNOWLEDGEMENT IS DUE; the time goes on ===== -/
section NAA
variable {n : Nat} {M M0 M1 M2 M3 : z_Mem} {r r1 r2 : q_R} {TL CL : List Nat} {t s q z c w w0 : Nat} {D : Int} {δ : Int}
/-- when an acknowledgement is due -/
def nG (r : q_R) : Prop := ∀ s', s' < 4 → 0 ≤ (r.2 65 s').toInt ∧ (r.2 65 s').toInt ≤ 200 ∧ ∀ j, j < jN (r.2 65 s') → ¬ r.2 64 (200 * s' + j) = 0
def nA (δ : Int) (r : q_R) : Prop := (r.1 1562 = 1 → r.1 1574 = -1 ∨ (r.1 1536).toInt + δ ≤ (r.1 1574).toInt) ∧ (r.1 1575 = -1 → r.1 1574 = -1) ∧ (r.1 1562 = 0 ∨ r.1 1562 = 3 → r.1 1574 = -1) ∧ nG r
theorem nG_c (e64 : r1.2 64 = r.2 64) (e65 : r1.2 65 = r.2 65) (h : nG r) : nG r1 := by
  unfold nG at h ⊢
  rw [e64, e65]; exact h
theorem nA_c (hF : ∀ g, g ∈ [1562, 1574, 1575, 1536] → r1.1 g = r.1 g) (e64 : r1.2 64 = r.2 64) (e65 : r1.2 65 = r.2 65) (h : nA δ r) : nA δ r1 := by
  obtain ⟨h1, h2, h3, h4⟩ := h
  refine ⟨?_, ?_, ?_, nG_c e64 e65 h4⟩
  · rw [hF 1562 (by decide), hF 1574 (by decide), hF 1536 (by decide)]; exact h1
  · rw [hF 1574 (by decide), hF 1575 (by decide)]; exact h2
  · rw [hF 1562 (by decide), hF 1574 (by decide)]; exact h3
theorem nA_fr {Fs Rs : List Nat} (H : q_fr Fs Rs r r1) (h1 : ∀ g, g ∈ [1562, 1574, 1575, 1536] → g ∉ Fs) (h : nA δ r) (h2 : ∀ x, x ∈ [64, 65] → x ∉ Rs := by decide) : nA δ r1 := nA_c (fun g hg => H.1 g (h1 g hg)) (H.2 64 (h2 64 (by decide))) (H.2 65 (h2 65 (by decide))) h
theorem nA_1562 (h : nA δ r) {v : Int32} (hv : v = 1 ∨ v = 2) (h0 : v = 1 → ¬ r.1 1562 = 2) : nA δ (uf r 1562 v) ∨ ¬ (r.1 1562 = 0 ∨ r.1 1562 = 1 ∨ r.1 1562 = 2 ∨ r.1 1562 = 3) := by
  by_cases hs : r.1 1562 = 0 ∨ r.1 1562 = 1 ∨ r.1 1562 = 2 ∨ r.1 1562 = 3
  · refine Or.inl ?_
    obtain ⟨h1, h2, h3, h4⟩ := h
    refine ⟨fun e => ?_, h2, fun e => ?_, h4⟩
    · rw [uf_e] at e
      rcases hs with a | a | a | a
      · exact Or.inl (h3 (Or.inl a))
      · exact h1 a
      · exact absurd a (h0 e)
      · exact Or.inl (h3 (Or.inr a))
    · rw [uf_e] at e
      rcases hv with a | a <;> rw [a] at e <;> rcases e with e | e <;> exact absurd e (by decide)
  · exact Or.inr hs
theorem nA_hears (h : nA δ r) (hs : r.1 1562 = 0 ∨ r.1 1562 = 1 ∨ r.1 1562 = 2 ∨ r.1 1562 = 3) {p x : Int32} : nA δ (qF_hears p x r) := by
  have ha : ∀ a b i, nA δ a → nA δ (qF_answers p b i a) := fun a b i k => nA_fr q_ansF (by decide) k
  have h124 : ∀ a, nA δ a → nA δ (qF_hears_124 p a) := fun a k => by
    rw [qE_hears_124]
    split
    · exact ha _ _ _ k
    · exact ha _ _ _ k
  have h106 : ∀ x4 t1 a, nA δ a → nA δ (qF_hears_106 p x4 t1 a) := fun x4 t1 a k => by
    rw [qE_hears_106]
    show nA δ (if (uf a 1564 t1).1 1564 = 0 then qF_hears_124 p (uf a 1564 t1) else qF_hears_124 p (ua (uf a 1564 t1) 62 x4.toNatClampNeg 1))
    split
    · exact h124 _ k
    · exact h124 _ k
  have h80 : ¬ r.1 1562 = 2 → ∀ x4, nA δ (qF_hears_80 p x4 r) := fun hne x4 => by
    have h0 : nA δ (uf r 1562 1) := by
      rcases nA_1562 h (v := 1) (Or.inl rfl) (fun _ => hne) with k | k
      · exact k
      · exact absurd hs k
    rw [qE_hears_80]
    show nA δ (if x4 < 0 then qF_hears_105 p x4 (uf r 1562 1) else if (uf r 1562 1).2 62 x4.toNatClampNeg = 0 then qF_hears_106 p x4 1 (uf r 1562 1) else qF_hears_105 p x4 (uf r 1562 1))
    rw [qE_hears_105]
    split
    · exact h106 _ _ _ h0
    · split
      · exact h106 _ _ _ h0
      · exact h106 _ _ _ h0
  have h12 : ∀ t0, nA δ (qF_hears_12 p x t0 r) := fun t0 => by
    rw [qE_hears_12]
    show nA δ (if r.1 1562 = 2 then r else if r.1 1562 = 1 then (if r.1 1564 = 0 then qF_answers p 6 0 r else qF_answers p 6 1 r) else if r.1 1563 = 0 then qF_hears_80 p (x / 2 - 1) r else if t0 = 0 then qF_answers p 5 0 r else qF_hears_80 p (x / 2 - 1) r)
    split
    · exact h
    · rename_i hne
      split
      · split
        · exact ha _ _ _ h
        · exact ha _ _ _ h
      · split
        · exact h80 hne _
        · split
          · exact ha _ _ _ h
          · exact h80 hne _
  rw [qE_hears]
  split
  · exact h12 1
  · exact h12 0
theorem nA_a46 (h : nA δ r) (hs : r.1 1562 = 0 ∨ r.1 1562 = 1 ∨ r.1 1562 = 2 ∨ r.1 1562 = 3) {x p : Int32} : nA δ (qF_arrivesAtServer_46 x p r) := by
  have ha : ∀ a, nA δ (qF_answers p a 0 r) := fun a => nA_fr q_ansF (by decide) h
  have hc : nA δ (uf r 1562 2) := by
    rcases nA_1562 h (v := 2) (Or.inr rfl) (fun e => absurd e (by decide)) with k | k
    · exact k
    · exact absurd hs k
  rw [q_a46]
  split
  · exact ha 9
  · split
    · split
      · exact ha 8
      · split
        · exact hc
        · exact h
    · split
      · exact hc
      · exact h
theorem q_ack74 (h0 : 0 ≤ (r.1 1561).toInt) (h1 : (r.1 1561).toInt < 3600) : (qF_acknowledges r).1 1574 = -1 := by
  rw [q_ackF r h0 h1, q_ansF.1 1574 (by decide)]
  unfold q_ackR
  exact uf_e
theorem q_t194v {x t0 : Int32} (h0 : 0 ≤ (r.1 1561).toInt) (h1 : (r.1 1561).toInt < 3600) : (qF_takes_194 x t0 r).1 1574 = -1 ∨ (qF_takes_194 x t0 r).1 1574 = r.1 1536 + 3 := by
  obtain ⟨mx, eM⟩ : ∃ mx, ∀ rr : q_R, qF_max (r.1 1572) x rr = (mx, rr) := ⟨(if r.1 1572 ≤ x then x else r.1 1572), fun rr => by rw [qE_max]; split <;> rfl⟩
  rw [qE_takes_194, q_ste2 (eM r)]
  have ha : (qF_acknowledges (uf (uf r 1572 mx) 1573 (r.1 1573 + 1))).1 1574 = -1 := q_ack74 h0 h1
  show (if (uf (uf r 1572 mx) 1573 (r.1 1573 + 1)).2 79 x.toNatClampNeg = 0 then (if t0 = 0 then qF_acknowledges (uf (uf r 1572 mx) 1573 (r.1 1573 + 1)) else if (uf (uf r 1572 mx) 1573 (r.1 1573 + 1)).1 1573 = 2 then qF_acknowledges (uf (uf r 1572 mx) 1573 (r.1 1573 + 1)) else uf (uf (uf r 1572 mx) 1573 (r.1 1573 + 1)) 1574 ((uf (uf r 1572 mx) 1573 (r.1 1573 + 1)).1 1536 + 3)) else qF_acknowledges (uf (uf r 1572 mx) 1573 (r.1 1573 + 1))).1 1574 = -1 ∨ (if (uf (uf r 1572 mx) 1573 (r.1 1573 + 1)).2 79 x.toNatClampNeg = 0 then (if t0 = 0 then qF_acknowledges (uf (uf r 1572 mx) 1573 (r.1 1573 + 1)) else if (uf (uf r 1572 mx) 1573 (r.1 1573 + 1)).1 1573 = 2 then qF_acknowledges (uf (uf r 1572 mx) 1573 (r.1 1573 + 1)) else uf (uf (uf r 1572 mx) 1573 (r.1 1573 + 1)) 1574 ((uf (uf r 1572 mx) 1573 (r.1 1573 + 1)).1 1536 + 3)) else qF_acknowledges (uf (uf r 1572 mx) 1573 (r.1 1573 + 1))).1 1574 = r.1 1536 + 3
  split
  · split
    · exact Or.inl ha
    · split
      · exact Or.inl ha
      · exact Or.inr uf_e
  · exact Or.inl ha
theorem q_t99v {i : Nat} (I : rf_I t s q z r.1 r.2) (hi : i < 400) (h0 : 0 ≤ (r.1 1561).toInt) (h1 : (r.1 1561).toInt < 3600) : (qF_takes_99 (nI i) r).1 1574 = -1 ∨ (qF_takes_99 (nI i) r).1 1574 = r.1 1536 + 3 := by
  have e3 := ri_A I (x := 73) (lo := 0) (hi := 3) (by decide) i
  have e4 := ri_A I (x := 74) (lo := 0) (hi := 200) (by decide) i
  have e5 := ri_A I (x := 75) (lo := 0) (hi := 200) (by decide) i
  have c5 := I.2.2.2.2.1 i
  have n3 := jN_toInt e3.1
  have n4 := jN_toInt e4.1
  have n5 := jN_toInt e5.1
  rw [q_t99 (jI_jN e5.1).symm (jI_jN e4.1).symm (jI_jN e3.1).symm hi (by omega) (by omega)]
  split
  · exact q_t194v h0 h1
  · exact q_t194v h0 h1
theorem q_t43v {i : Nat} (I : rf_I t s q z r.1 r.2) (hi : i < 400) (h0 : 0 ≤ (r.1 1561).toInt) (h1 : (r.1 1561).toInt < 3600) : (qF_takes_43 (nI i) r).1 1574 = r.1 1574 ∨ (qF_takes_43 (nI i) r).1 1574 = -1 ∨ (qF_takes_43 (nI i) r).1 1574 = r.1 1536 + 3 := by
  have ei : (nI i).toNatClampNeg = i := jI_N (by omega)
  rw [qE_takes_43, ei]
  split
  · have : qF_isByKey (r.2 78 i) r = (0, r) ∨ qF_isByKey (r.2 78 i) r = (1, r) := by
      rw [qE_isByKey]
      split
      · exact Or.inr rfl
      · split
        · split
          · exact Or.inl rfl
          · exact Or.inr rfl
        · exact Or.inl rfl
    rcases this with h | h
    · rw [q_ste2 h, if_pos rfl]; exact Or.inl rfl
    · rw [q_ste2 h, if_neg (by decide)]; exact Or.inr (q_t99v I hi h0 h1)
  · exact Or.inr (q_t99v (r := uf (uf (uf r 1567 (r.1 1566)) 1566 (r.2 78 i)) 1568 (r.1 1536)) (rI_f (rI_f (rI_f I (by decide)) (by decide)) (by decide)) hi h0 h1)
theorem q_t99g {i : Nat} (I : rf_I t s q z r.1 r.2) (hi : i < 400) (h0 : 0 ≤ (r.1 1561).toInt) (h1 : (r.1 1561).toInt < 3600) (j : Nat) : (qF_takes_99 (nI i) r).2 64 j = r.2 64 j ∨ (qF_takes_99 (nI i) r).2 64 j = 1 := by
  have e3 := ri_A I (x := 73) (lo := 0) (hi := 3) (by decide) i
  have e4 := ri_A I (x := 74) (lo := 0) (hi := 200) (by decide) i
  have e5 := ri_A I (x := 75) (lo := 0) (hi := 200) (by decide) i
  have c5 := I.2.2.2.2.1 i
  have n3 := jN_toInt e3.1
  have n4 := jN_toInt e4.1
  have n5 := jN_toInt e5.1
  rw [q_t99 (jI_jN e5.1).symm (jI_jN e4.1).symm (jI_jN e3.1).symm hi (by omega) (by omega)]
  have key : ∀ (v x t0 : Int32) (lo m : Nat), (qF_takes_194 x t0 (uA (uf (ua (ua r 77 i 1) 63 i 1) 1576 v) 64 (rS (r.2 64) lo m 1))).2 64 j = r.2 64 j ∨ (qF_takes_194 x t0 (uA (uf (ua (ua r 77 i 1) 63 i 1) 1576 v) 64 (rS (r.2 64) lo m 1))).2 64 j = 1 := fun v x t0 lo m => by
    rw [(q_t194F (r := uA (uf (ua (ua r 77 i 1) 63 i 1) 1576 v) 64 (rS (r.2 64) lo m 1)) h0 h1).2 64 (by decide), uA_e]
    unfold rS
    by_cases c : lo ≤ j ∧ j < lo + m
    · rw [if_pos c]; exact Or.inr rfl
    · rw [if_neg c]; exact Or.inl rfl
  split
  · exact key _ _ _ _ _
  · exact key _ _ _ _ _
theorem q_t43g {i : Nat} (I : rf_I t s q z r.1 r.2) (hi : i < 400) (h0 : 0 ≤ (r.1 1561).toInt) (h1 : (r.1 1561).toInt < 3600) (j : Nat) : (qF_takes_43 (nI i) r).2 64 j = r.2 64 j ∨ (qF_takes_43 (nI i) r).2 64 j = 1 := by
  have ei : (nI i).toNatClampNeg = i := jI_N (by omega)
  rw [qE_takes_43, ei]
  split
  · have : qF_isByKey (r.2 78 i) r = (0, r) ∨ qF_isByKey (r.2 78 i) r = (1, r) := by
      rw [qE_isByKey]
      split
      · exact Or.inr rfl
      · split
        · split
          · exact Or.inl rfl
          · exact Or.inr rfl
        · exact Or.inl rfl
    rcases this with h | h
    · rw [q_ste2 h, if_pos rfl]; exact Or.inl rfl
    · rw [q_ste2 h, if_neg (by decide)]; exact q_t99g I hi h0 h1 j
  · exact q_t99g (r := uf (uf (uf r 1567 (r.1 1566)) 1566 (r.2 78 i)) 1568 (r.1 1536)) (rI_f (rI_f (rI_f I (by decide)) (by decide)) (by decide)) hi h0 h1 j
theorem nG_m (e65 : r1.2 65 = r.2 65) (h64 : ∀ j, r1.2 64 j = r.2 64 j ∨ r1.2 64 j = 1) (h : nG r) : nG r1 := by
  intro s' hs
  obtain ⟨h1, h2, h3⟩ := h s' hs
  rw [e65]
  refine ⟨h1, h2, fun j hj => ?_⟩
  rcases h64 (200 * s' + j) with e | e
  · rw [e]; exact h3 j hj
  · rw [e]; decide
theorem nA_takes (h : nA δ r) (hδ : δ ≤ 3) (I : rf_I t s q z r.1 r.2) {i : Nat} (hi : i < 400) (h1 : (r.1 1561).toInt < 3600) {p : Nat} (hp : p < 2) (h71 : r.2 71 i = nI p) : nA δ (qF_takes (nI i) r) := by
  have b61 := ri_F I (g := 1561) (lo := 0) (hi := 3600) (by decide)
  have bn := ri_now I
  rw [(q_takesF I hi b61.1 h1).1]
  by_cases e : r.1 1562 = 1
  · rw [if_pos e]
    have np : ¬ r.2 71 i = -1 := by rw [h71]; exact nI_ne_m1 (by omega)
    have h2 : nA δ (uf (ua r 77 i 2) 1575 (r.2 71 i)) := by
      refine ⟨h.1, fun e2 => ?_, h.2.2⟩
      rw [uf_e] at e2
      exact absurd e2 np
    have I2 : rf_I t s q z (uf (ua r 77 i 2) 1575 (r.2 71 i)).1 (uf (ua r 77 i 2) 1575 (r.2 71 i)).2 := by
      rw [h71]
      exact rI_1575 (r := ua r 77 i 2) (rI_a I (by decide)) (by rw [jI_t (by omega)]; omega) (by rw [jI_t (by omega)]; omega)
    have h3 : nA δ (qF_takes_43 (nI i) (uf (ua r 77 i 2) 1575 (r.2 71 i))) := by
      have F := q_t43F I2 hi b61.1 h1
      have V := q_t43v I2 hi b61.1 h1
      have G := q_t43g I2 hi b61.1 h1
      generalize qF_takes_43 (nI i) (uf (ua r 77 i 2) 1575 (r.2 71 i)) = R at F V G
      have e62 : R.1 1562 = 1 := (F.1 1562 (by decide)).trans e
      have e75 : R.1 1575 = r.2 71 i := (F.1 1575 (by decide)).trans uf_e
      have e36 : R.1 1536 = r.1 1536 := F.1 1536 (by decide)
      refine ⟨fun _ => ?_, fun e2 => ?_, fun e2 => ?_, nG_m (r := uf (ua r 77 i 2) 1575 (r.2 71 i)) (F.2 65 (by decide)) G h2.2.2.2⟩
      · rw [e36]
        rcases V with v | v | v
        · rw [v]; exact h2.1 e
        · exact Or.inl v
        · refine Or.inr ?_
          rw [v]
          show (r.1 1536).toInt + δ ≤ (r.1 1536 + 3).toInt
          rw [i_addE rfl (show (3 : Int32).toInt = 3 from rfl) (by omega) (by omega)]; omega
      · rw [e75] at e2; exact absurd e2 np
      · rw [e62] at e2
        rcases e2 with e2 | e2 <;> exact absurd e2 (by decide)
    unfold q_D
    split
    · exact h3
    · split
      · exact h2
      · exact h3
  · rw [if_neg e]; exact h
theorem nA_arr (h : nA δ r) (hδ : δ ≤ 3) (I : rf_I t s q z r.1 r.2) (h61 : (r.1 1561).toInt < 3600) (hs : r.1 1562 = 0 ∨ r.1 1562 = 1 ∨ r.1 1562 = 2 ∨ r.1 1562 = 3) {th : Nat} (hth2 : th < 1300) {p : Nat} (hp : p < 2) (hD : r.2 52 th = 2 → r.2 71 (jN (r.2 53 th)) = nI p) : nA δ (qF_arrivesAtServer (nI th) r) := by
  have et : (nI th).toNatClampNeg = th := jI_N (by omega)
  have b61 := ri_F I (g := 1561) (lo := 0) (hi := 3600) (by decide)
  have e53 := ri_A I (x := 53) (lo := 0) (hi := 399) (by decide) th
  have n53 := jN_toInt e53.1
  have i53 := jI_jN e53.1
  have eA : qF_arrivesAtServer (nI th) r = (if r.2 52 th = 1 then qF_hears (r.2 54 th) (r.2 53 th) r else if r.2 52 th = 2 then qF_arrivesAtServer_46 (r.2 52 th) (r.2 54 th) (qF_takes (r.2 53 th) r) else qF_arrivesAtServer_46 (r.2 52 th) (r.2 54 th) r) := by
    rw [qE_arrivesAtServer, et]; rfl
  rw [eA]
  by_cases e1 : r.2 52 th = 1
  · rw [if_pos e1]; exact nA_hears h hs
  · rw [if_neg e1]
    by_cases e2 : r.2 52 th = 2
    · rw [if_pos e2, ← i53]
      refine nA_a46 (nA_takes h hδ I (by omega) h61 hp (hD e2)) ?_
      rw [(q_takesF (i := jN (r.2 53 th)) I (by omega) b61.1 h61).2.1 1562 (by decide)]; exact hs
    · rw [if_neg e2]; exact nA_a46 h hs
/-- now is 1 more -/
theorem rI_now (S : y_S n M) (I : rf_I t s q z r.1 r.2) (h1 : (r.1 1536).toInt < 2000) : rf_I t (s + 1 + rf_c (fun k => decide (r.2 56 k = r.1 1536 + 1)) (jN (r.1 1554))) (q + 1 + rf_c (fun k => decide (r.2 56 k = r.1 1536 + 1)) (jN (r.1 1554))) z (uf r 1536 (r.1 1536 + 1)).1 (uf r 1536 (r.1 1536 + 1)).2 := by
  have bn := ri_now I
  have e1 : (r.1 1536 + 1).toInt = (r.1 1536).toInt + 1 := i_addE rfl (show (1 : Int32).toInt = 1 from rfl) (by omega) (by omega)
  have R := q_mkR (n := n) (M := M) (r := r)
  have J := w_1536 (v := r.1 1536 + 1) (rI_J S I) rfl (by rw [R.1 1536 (by decide)]; exact e1) (by omega)
  have e56 : ∀ k, z_ai (q_mk n M r) (n + 56) k = r.2 56 k := fun k => R.2 56 k (by decide) (by decide)
  have e54 : z_fi (q_mk n M r) 1554 (n + 40) = r.1 1554 := R.1 1554 (by decide)
  have ec : (fun k => decide (z_ai (q_mk n M r) (n + 56) k = r.1 1536 + 1)) = (fun k => decide (r.2 56 k = r.1 1536 + 1)) := funext fun k => by rw [e56 k]
  rw [ec, e54] at J
  have RR : q_rep n (z_sfi (q_mk n M r) 1536 (n + 40) (r.1 1536 + 1)) (uf r 1536 (r.1 1536 + 1)) := by
    refine ⟨fun g hg => ?_, fun x j h0 h1 => R.2 x j h0 h1⟩
    by_cases e : g = 1536
    · rw [e, rf_ef, uf_e]
    · rw [rf_nf e, uf_n e]; exact R.1 g hg
  exact rI_of RR J
/-- the class acknowledges nothing -/
theorem c_ack0 (J : JJ n M r TL CL) (h : ¬ (r.1 1562 = 1 ∧ ¬ r.1 1575 = -1)) : cF_X8_acknowledge (n + 28) M = M := by
  rw [cE_X8_acknowledge, js_1026_28 J, js_1038_28 J]
  by_cases c1 : r.1 1562 = 1
  · rw [if_pos c1]
    by_cases c2 : r.1 1575 = -1
    · rw [if_pos c2]
    · exact absurd ⟨c1, c2⟩ h
  · rw [if_neg c1]
end NAA
