/-! ===== THE LIKENESS: what the client keeps to, behind news of a packet and a loss ===== -/
section KPH
variable {n : Nat} {M M0 M1 M2 : z_Mem} {r r1 r2 : q_R} {TL CL : List Nat} {t s q z : Nat} {f g : Nat → Int32}
theorem kP_69 (h : kP r) (hf : ∀ i, f i = 0 ∨ f i = 1) : kP (uA r 69 f) := by
  obtain ⟨a, ⟨b1, b2, b3, b4⟩, c, d⟩ := h
  have hn : ∀ x, x ≠ 69 → (uA r 69 f).2 x = r.2 x := fun x hx => uA_n hx
  refine ⟨kA_c (r := r) (fun _ _ => rfl) (fun x hx => hn x (by revert hx; revert x; decide)) a, ⟨?_, ?_, ?_, ?_⟩, kC_c (r := r) (fun _ _ => rfl) (fun x hx => hn x (by revert hx; revert x; decide)) c, kD_c (r := r) (fun x hx => hn x (by revert hx; revert x; decide)) d⟩
  · rw [hn 76 (by decide), hn 94 (by decide)]; exact b1
  · rw [hn 102 (by decide), hn 100 (by decide)]; exact b2
  · rw [hn 86 (by decide)]; exact b3
  · rw [uA_e]; exact hf
theorem kP_68 {s' : Nat} {x : Int32} (h : kP r) (hx : (r.2 68 s').toInt ≤ x.toInt) : kP (ua r 68 s' x) := by
  obtain ⟨a, b, c, ⟨d1, d2, d3, d4, d5⟩⟩ := h
  have hn : ∀ k, k ≠ 68 → (ua r 68 s' x).2 k = r.2 k := fun k hk => ua_n hk
  refine ⟨kA_c (r := r) (fun _ _ => rfl) (fun k hk => hn k (by revert hk; revert k; decide)) a, kB_c (r := r) (fun _ _ => rfl) (fun k hk => hn k (by revert hk; revert k; decide)) b, kC_c (r := r) (fun _ _ => rfl) (fun k hk => hn k (by revert hk; revert k; decide)) c, ⟨?_, ?_, ?_, ?_, fun s hs => ?_⟩⟩
  · rw [hn 100 (by decide), hn 85 (by decide), hn 84 (by decide), hn 97 (by decide)]; exact d1
  · rw [hn 98 (by decide)]; exact d2
  · rw [hn 89 (by decide)]; exact d3
  · rw [hn 103 (by decide)]; exact d4
  · have h5 := d5 s hs
    by_cases c : s = s'
    · rw [c, ua_e]
      rw [c] at h5
      omega
    · rw [ua_i c]; exact h5
theorem kP_94 {x : Int32} (h : kP r) (hx : (r.2 94 0).toInt ≤ x.toInt) : kP (ua r 94 0 x) := by
  obtain ⟨a, ⟨b1, b2, b3, b4⟩, c, d⟩ := h
  have hn : ∀ k, k ≠ 94 → (ua r 94 0 x).2 k = r.2 k := fun k hk => ua_n hk
  refine ⟨kA_c (r := r) (fun _ _ => rfl) (fun k hk => hn k (by revert hk; revert k; decide)) a, ⟨?_, ?_, ?_, ?_⟩, kC_c (r := r) (fun _ _ => rfl) (fun k hk => hn k (by revert hk; revert k; decide)) c, kD_c (r := r) (fun k hk => hn k (by revert hk; revert k; decide)) d⟩
  · intro i hi e
    rw [hn 76 (by decide)] at e
    have := b1 i hi e
    rw [ua_e]; omega
  · rw [hn 102 (by decide), hn 100 (by decide)]; exact b2
  · rw [hn 86 (by decide)]; exact b3
  · rw [hn 69 (by decide)]; exact b4
theorem kP_known {i : Nat} {v : Int32} (h : kP r) (hi : i < jN (r.1 1606)) (h76 : ¬ r.2 76 i = 0) (hv : ¬ v = 0) (hv2 : ¬ v = 2) : kP (ua r 76 i v) := by
  obtain ⟨⟨a1, a2, a3, a4, a5, a6⟩, ⟨b1, b2, b3, b4⟩, ⟨c1, c2, c3⟩, d⟩ := h
  have hn : ∀ k, k ≠ 76 → (ua r 76 i v).2 k = r.2 k := fun k hk => ua_n hk
  have ek : kcv (ua r 76 i v) = kcv r := by
    funext s' j k
    unfold kcv
    rw [hn 73 (by decide), hn 74 (by decide), hn 75 (by decide)]
    by_cases c : k = i
    · rw [c, ua_e, decide_eq_false (fun h => hv h.1), decide_eq_false (fun h => h76 h.1)]
    · rw [ua_i c]
  refine ⟨⟨a1, ?_, ?_, ?_, ?_, ?_⟩, ⟨?_, ?_, ?_, ?_⟩, ⟨?_, ?_, ?_⟩, kD_c (r := r) (fun k hk => hn k (by revert hk; revert k; decide)) d⟩
  · rw [hn 93 (by decide)]; exact a2
  · rw [hn 71 (by decide), hn 82 (by decide)]; exact a3
  · intro i' hi'
    have hi'' : jN (r.1 1606) ≤ i' := hi'
    rw [hn 81 (by decide), ua_i (by omega)]; exact a4 i' hi'
  · rw [hn 72 (by decide)]; exact a5
  · rw [hn 120 (by decide)]; exact a6
  · intro i' hi' e
    rw [hn 94 (by decide)]
    by_cases c : i' = i
    · rw [c, ua_e] at e; exact absurd e hv2
    · rw [ua_i c] at e; exact b1 i' hi' e
  · rw [hn 102 (by decide), hn 100 (by decide)]; exact b2
  · rw [hn 86 (by decide)]; exact b3
  · rw [hn 69 (by decide)]; exact b4
  · rw [ek, hn 70 (by decide)]; exact c1
  · rw [hn 70 (by decide)]; exact c2
  · rw [hn 73 (by decide), hn 74 (by decide), hn 75 (by decide), hn 67 (by decide)]; exact c3
theorem rf_c_pos {p : Nat → Bool} {i k : Nat} (h : p i = true) (hi : i < k) : 1 ≤ rf_c p k := by
  have := rf_c_off (p := p) (p1 := fun j => if j = i then false else p j) h (if_pos rfl) k hi (fun j _ hj => if_neg hj)
  omega
/-- numbers of the weak invariant -/
theorem ri_97 (I : rf_I t s q z r.1 r.2) {i : Nat} (hi : i < 400) (h76 : r.2 76 i = 0) : 0 ≤ (r.2 97 0).toInt ∧ (r.2 97 0).toInt < 400 := by
  have h := (I.2.2.2.2.2.1 0 (by decide)).2.2.2.2.2.1
  have h0 := ri_A I (x := 97) (lo := 0) (hi := 400) (by decide) 0
  have hp := rf_c_pos (p := fun k => decide (r.2 76 k = 0)) (i := i) (k := 400) (decide_eq_true h76) hi
  omega
theorem ri_84 (I : rf_I t s q z r.1 r.2) : 32 ≤ (r.2 84 0).toInt := (I.2.2.2.2.2.1 0 (by decide)).1
theorem ri_now (I : rf_I t s q z r.1 r.2) : 0 ≤ (r.1 1536).toInt ∧ (r.1 1536).toInt ≤ 2000 := ri_F I (by decide)
theorem ri_P (I : rf_I t s q z r.1 r.2) : 0 ≤ (r.1 1606).toInt ∧ (r.1 1606).toInt ≤ 400 := ri_F I (by decide)
theorem ri_72 (I : rf_I t s q z r.1 r.2) (i : Nat) : 0 ≤ (r.2 72 i).toInt ∧ (r.2 72 i).toInt ≤ (r.1 1536).toInt := I.2.2.2.1 i
theorem ri_103 (I : rf_I t s q z r.1 r.2) : (r.2 103 0).toInt ≤ 400000000 := by
  obtain ⟨-, -, h1, h2, h3, -, -⟩ := I.2.2.2.2.2.1 0 (by decide)
  have h0 := ri_A I (x := 97) (lo := 0) (hi := 400) (by decide) 0
  have hn := ri_now I
  have hc := rf_cb h1 (show (r.2 101 0).toInt ≤ 2000 by omega)
  omega
/-- a lost packet is acknowledged: cells -/
theorem q_hears2 {i sN a m : Nat} (hi : i < 400) (hs : sN < 4) (ham : a + m ≤ 200) (e3 : r.2 73 i = nI sN) (e4 : r.2 74 i = nI a) (e5 : r.2 75 i = nI m) (h71 : r.2 71 i = 0) (h76 : r.2 76 i = 2) (hg : ¬ r.2 94 0 < r.2 82 i) : qF_hearsOf (nI i) r = q_tb (nI i) (ua (ua (uA r 69 (rS (r.2 69) (200 * sN + a) m 1)) 76 i 3) 106 1 ((uA r 69 (rS (r.2 69) (200 * sN + a) m 1)).2 106 1 + 1)) := by
  have e0 : (0 : Int32).toNatClampNeg = 0 := rfl
  have hQ := qE_hearsOf (nI i) r
  rw [jI_N (by omega : i < 2147483648), h71] at hQ
  replace hQ := hQ.trans (q_ste (b := 0) rfl)
  rw [if_neg (by rw [h76]; decide), if_pos h76] at hQ
  have hD := qE_hearsOf_27 (nI i) 0 r
  rw [jI_N (by omega : i < 2147483648), e0, q_maxe, if_neg hg] at hD
  replace hD := hD.trans (q_ste2 (a := r.2 94 0) (b := r) rfl)
  replace hD := hD.trans (q_ste (b := r) (ua_id rfl).symm)
  have k1 := q_h50 (x2 := 0) hi hs ham m 0 r (by omega) e5 e4 e3
  rw [Nat.add_zero] at k1
  replace hQ := (hQ.trans hD).trans k1
  have h76' : ¬ (uA r 69 (rS (r.2 69) (200 * sN + a) m 1)).2 76 i = 0 := by rw [uA_n (by decide), h76]; decide
  rw [q_h50e hi (by rw [uA_n (by decide)]; exact e5) h76'] at hQ
  exact hQ
theorem q_hearsO {i : Nat} (hi : i < 400) (h0 : ¬ r.2 76 i = 0) (h2 : ¬ r.2 76 i = 2) : qF_hearsOf (nI i) r = r := by
  have hQ := qE_hearsOf (nI i) r
  rw [jI_N (by omega : i < 2147483648)] at hQ
  replace hQ := hQ.trans (q_ste rfl)
  rw [if_neg h0, if_neg h2] at hQ
  exact hQ
theorem rS_01 {lo m : Nat} (h : ∀ i, f i = 0 ∨ f i = 1) : ∀ i, rS f lo m 1 i = 0 ∨ rS f lo m 1 i = 1 := fun i => by
  unfold rS
  by_cases c : lo ≤ i ∧ i < lo + m
  · rw [if_pos c]; exact Or.inr rfl
  · rw [if_neg c]; exact h i
theorem kP_hg (h : kP r) (I : rf_I t s q z r.1 r.2) {i : Nat} (hi : i < jN (r.1 1606)) (h76 : r.2 76 i = 2) : ¬ r.2 94 0 < r.2 82 i := by
  have hb := ri_pk I
  have h1 := h.2.1.1 i hi h76
  rw [(h.1.2.2.1 i hi).2, Int32.lt_iff_toInt_lt, jI_t (by omega)]
  omega
theorem nI_m1 {i : Nat} (h : i < 400) : ¬ nI i = -1 := fun e => by
  have := congrArg Int32.toInt e
  rw [jI_t (by omega), show (-1 : Int32).toInt = -1 from rfl] at this
  omega
theorem kP_hearsOf (h : kP r) (I : rf_I t s q z r.1 r.2) {i : Nat} (hi : i < jN (r.1 1606)) (hage : (r.2 72 i).toInt + 2 ≤ (r.1 1536).toInt) : kP (qF_hearsOf (nI i) r) := by
  have hb := ri_pk I
  obtain ⟨sN, a, m, hs, ham, e3, e4, e5⟩ := ri_by I i
  have h71 := (h.1.2.2.1 i hi).1
  by_cases c0 : r.2 76 i = 0
  · have h103 := h.2.2.2.2.2.2.1
    have h103b := ri_103 I
    rw [q_hearsA (by omega) hs ham e3 e4 e5 h71 c0 h103 h103b]
    have K1 := kP_69 h (f := rS (r.2 69) (200 * sN + a) m 1) (rS_01 h.2.1.2.2.2)
    have l3 : (uA r 69 (rS (r.2 69) (200 * sN + a) m 1)).2 73 i = nI sN := by rw [uA_n (by decide)]; exact e3
    have l4 : (uA r 69 (rS (r.2 69) (200 * sN + a) m 1)).2 74 i = nI a := by rw [uA_n (by decide)]; exact e4
    have l5 : (uA r 69 (rS (r.2 69) (200 * sN + a) m 1)).2 75 i = nI m := by rw [uA_n (by decide)]; exact e5
    have l6 : (uA r 69 (rS (r.2 69) (200 * sN + a) m 1)).2 76 i = 0 := by rw [uA_n (by decide)]; exact c0
    have K2 := kP_lands K1 hb (v := 1) hi hs ham l3 l4 l5 l6 (by decide) (fun e => absurd e (by decide))
    rw [← q_lands sN a m (by omega) hs ham l3 l4 l5] at K2
    have qn : ∀ k, k ≠ 69 → k ≠ 70 → k ≠ 76 → (qF_lands (nI i) 1 (uA r 69 (rS (r.2 69) (200 * sN + a) m 1))).2 k = r.2 k := fun k c1 c2 c3 => by
      rw [q_lands sN a m (by omega) hs ham l3 l4 l5, uA_n c2, ua_n c3, uA_n c1]
    have q1 : (qF_lands (nI i) 1 (uA r 69 (rS (r.2 69) (200 * sN + a) m 1))).1 = r.1 := by rw [q_lands sN a m (by omega) hs ham l3 l4 l5]; rfl
    generalize qF_lands (nI i) 1 (uA r 69 (rS (r.2 69) (200 * sN + a) m 1)) = R at K2 qn q1
    have b97 := ri_97 I (show i < 400 by omega) c0
    have b83 := ri_A I (x := 83) (lo := 0) (hi := 400) (by decide) i
    have b89 := ri_A I (x := 89) (lo := 0) (hi := 2000) (by decide) 0
    have b84 := ri_84 I
    have bn := ri_now I
    have b72 := ri_72 I i
    have R71 : R.2 71 i = 0 := by rw [qn 71 (by decide) (by decide) (by decide)]; exact h71
    have R103 : R.2 103 0 = r.2 103 0 := by rw [qn 103 (by decide) (by decide) (by decide)]
    have K3 := kP_grows (i := i) K2 (by omega) R71 (by rw [qn 97 (by decide) (by decide) (by decide)]; exact b97.1) (by rw [qn 97 (by decide) (by decide) (by decide)]; exact b97.2) (by rw [qn 83 (by decide) (by decide) (by decide)]; exact b83.1) (by rw [qn 83 (by decide) (by decide) (by decide)]; exact b83.2) (by rw [qn 89 (by decide) (by decide) (by decide)]; exact b89.1) (by rw [qn 84 (by decide) (by decide) (by decide)]; omega) (by rw [qn 72 (by decide) (by decide) (by decide), q1]; exact ⟨b72.1, hage⟩) (by rw [q1]; exact bn.2) (by rw [R103]; exact h103) (by rw [R103]; exact h103b)
    have G := q_growsF (i := i) (r := R) (by omega) R71 (by rw [R103]; exact h103) (by rw [R103]; exact h103b)
    refine kP_94 K3 ?_
    rw [G.2 94 (by decide), qn 94 (by decide) (by decide) (by decide)]
    by_cases cx : r.2 94 0 < r.2 82 i
    · rw [if_pos cx]
      rw [Int32.lt_iff_toInt_lt] at cx
      omega
    · rw [if_neg cx]; omega
  · by_cases c2 : r.2 76 i = 2
    · rw [q_hears2 (by omega) hs ham e3 e4 e5 h71 c2 (kP_hg h I hi c2)]
      have K1 := kP_69 h (f := rS (r.2 69) (200 * sN + a) m 1) (rS_01 h.2.1.2.2.2)
      have K2 := kP_known (v := 3) K1 hi (by rw [uA_n (by decide), c2]; decide) (by decide) (by decide)
      exact kP_tb (kP_ua K2 (by decide)) (nI_m1 (by omega))
    · rw [q_hearsO (by omega) c0 c2]; exact h
/-- what news of a packet leaves alone -/
theorem q_hearsOfF (h : kP r) (I : rf_I t s q z r.1 r.2) {i : Nat} (hi : i < jN (r.1 1606)) : q_fr [] [69, 70, 76, 84, 85, 94, 97, 98, 99, 102, 106] r (qF_hearsOf (nI i) r) := by
  have hb := ri_pk I
  obtain ⟨sN, a, m, hs, ham, e3, e4, e5⟩ := ri_by I i
  have h71 := (h.1.2.2.1 i hi).1
  by_cases c0 : r.2 76 i = 0
  · have h103 := h.2.2.2.2.2.2.1
    have h103b := ri_103 I
    rw [q_hearsA (by omega) hs ham e3 e4 e5 h71 c0 h103 h103b]
    have l3 : (uA r 69 (rS (r.2 69) (200 * sN + a) m 1)).2 73 i = nI sN := by rw [uA_n (by decide)]; exact e3
    have l4 : (uA r 69 (rS (r.2 69) (200 * sN + a) m 1)).2 74 i = nI a := by rw [uA_n (by decide)]; exact e4
    have l5 : (uA r 69 (rS (r.2 69) (200 * sN + a) m 1)).2 75 i = nI m := by rw [uA_n (by decide)]; exact e5
    have qf : q_fr [] [69, 70, 76, 84, 85, 94, 97, 98, 99, 102, 106] r (qF_lands (nI i) 1 (uA r 69 (rS (r.2 69) (200 * sN + a) m 1))) := by
      rw [q_lands sN a m (by omega) hs ham l3 l4 l5]
      exact q_fruA (by decide) (q_frua (by decide) (q_fruA (by decide) q_fr0))
    generalize qF_lands (nI i) 1 (uA r 69 (rS (r.2 69) (200 * sN + a) m 1)) = R at qf
    have R71 : R.2 71 i = 0 := by rw [qf.2 71 (by decide)]; exact h71
    have R103 : R.2 103 0 = r.2 103 0 := by rw [qf.2 103 (by decide)]
    have G := q_growsF (i := i) (r := R) (by omega) R71 (by rw [R103]; exact h103) (by rw [R103]; exact h103b)
    exact q_frua (by decide) (q_frt qf (q_frw G (by decide) (by decide)))
  · by_cases c2 : r.2 76 i = 2
    · rw [q_hears2 (by omega) hs ham e3 e4 e5 h71 c2 (kP_hg h I hi c2)]
      exact q_frt (q_frua (by decide) (q_frua (by decide) (q_fruA (by decide) q_fr0))) (q_frw q_tbF (by decide) (by decide))
    · rw [q_hearsO (by omega) c0 c2]; exact q_fr0
/-- a packet is lost: cells -/
theorem q_losesE {i sN a m : Nat} (hi : i < 400) (hs : sN < 4) (ham : a + m ≤ 200) (e3 : r.2 73 i = nI sN) (e4 : r.2 74 i = nI a) (e5 : r.2 75 i = nI m) (h71 : r.2 71 i = 0) : qF_loses (nI i) r = qF_harms 0 (nI i) 1 (ua (uA (ua r 76 i 2) 70 (rO (r.2 70) (200 * sN + a) m (-1))) 106 0 (r.2 106 0 + 1)) := by
  have e0 : (0 : Int32).toNatClampNeg = 0 := rfl
  have hQ := qE_loses (nI i) r
  rw [q_lands sN a m hi hs ham e3 e4 e5, jI_N (by omega : i < 2147483648), e0] at hQ
  replace hQ := hQ.trans (q_ste (b := uA (ua r 76 i 2) 70 (rO (r.2 70) (200 * sN + a) m (-1))) rfl)
  replace hQ := hQ.trans (q_ste (b := ua (uA (ua r 76 i 2) 70 (rO (r.2 70) (200 * sN + a) m (-1))) 106 0 (r.2 106 0 + 1)) (by rw [uA_n (show 106 ≠ 70 by decide), ua_n (show 106 ≠ 76 by decide)]))
  rw [ua_n (show 71 ≠ 106 by decide), uA_n (show 71 ≠ 70 by decide), ua_n (show 71 ≠ 76 by decide), h71] at hQ
  exact hQ.trans (q_ste rfl)
theorem kP_loses (h : kP r) (I : rf_I t s q z r.1 r.2) {i : Nat} (hi : i < jN (r.1 1606)) (h76 : r.2 76 i = 0) (hl : (i : Int) < (r.2 94 0).toInt) : kP (qF_loses (nI i) r) := by
  have hb := ri_pk I
  obtain ⟨sN, a, m, hs, ham, e3, e4, e5⟩ := ri_by I i
  have h71 := (h.1.2.2.1 i hi).1
  rw [q_losesE (by omega) hs ham e3 e4 e5 h71]
  have K1 := kP_lands h hb (v := 2) hi hs ham e3 e4 e5 h76 (by decide) (fun _ => hl)
  have K2 := kP_ua (x := 106) (j := 0) (v := r.2 106 0 + 1) K1 (by decide)
  refine kP_harms K2 (fun e => ?_) ?_
  · have e' : r.1 1606 = 0 := e
    rw [e'] at hi
    exact absurd hi (Nat.not_lt_zero _)
  · rw [ua_n (by decide), uA_n (by decide), ua_n (by decide)]
    have := ri_84 I
    omega
theorem q_losesF (h : kP r) (I : rf_I t s q z r.1 r.2) {i : Nat} (hi : i < jN (r.1 1606)) : q_fr [] [70, 76, 84, 85, 100, 101, 102, 103, 104, 106] r (qF_loses (nI i) r) ∧ (qF_loses (nI i) r).2 76 = (ua r 76 i 2).2 76 := by
  have hb := ri_pk I
  obtain ⟨sN, a, m, hs, ham, e3, e4, e5⟩ := ri_by I i
  have h71 := (h.1.2.2.1 i hi).1
  rw [q_losesE (by omega) hs ham e3 e4 e5 h71]
  have H := (q_harmsF (r := ua (uA (ua r 76 i 2) 70 (rO (r.2 70) (200 * sN + a) m (-1))) 106 0 (r.2 106 0 + 1)) (num := nI i) (p3 := 1)).1
  refine ⟨q_frt (q_frua (by decide) (q_fruA (by decide) (q_frua (by decide) q_fr0))) (q_frw H (by decide) (by decide)), ?_⟩
  rw [H.2 76 (by decide), ua_n (by decide), uA_n (by decide)]
/-- the likeness, with what the client keeps to -/
theorem j_ackK (J : JJ n M r TL CL) (I : rf_I t s q z r.1 r.2) (K : kP r) {i pk : Nat} (hi : i < jN (r.1 1606)) (e : z_ar M (n + 38) i = some pk) : JJ n (cF_X1_acknowledge (n + 31) (some pk) M) (qF_hearsOf (nI i) r) TL CL := by
  have hb := ri_pk I
  refine j_ackP J I hi e (K.1.2.2.1 i hi).1 K.2.1.2.2.2 (K.2.1.2.2.1 0 (by decide)) (fun _ h2 hz => ?_) K.2.2.2.2.2.2.1 (ri_103 I) (fun h => kP_hg K I hi h) (fun h => K.2.1.2.1 (by rw [h]; exact nI_m1 (by omega)))
  obtain ⟨x1, x2⟩ := K.2.2.2.1 hz
  have h97 := ri_A I (x := 97) (lo := 0) (hi := 400) (by decide) 0
  rw [x1, Int32.le_iff_toInt_le, show (999999 : Int32).toInt = 999999 from rfl] at h2
  omega
theorem kP_cov (K : kP r) (I : rf_I t s q z r.1 r.2) {i : Nat} (hi : i < jN (r.1 1606)) (h76 : r.2 76 i = 0) : ∀ sN j : Nat, sN < 4 → r.2 73 i = nI sN → (r.2 74 i).toInt ≤ j → (j : Int) < (r.2 74 i).toInt + (r.2 75 i).toInt → ¬ r.2 70 (200 * sN + j) = 0 := fun sN j cs h3 h4 h5 hz => by
  have hb := ri_pk I
  have b5 : (r.2 74 i).toInt + (r.2 75 i).toInt ≤ 200 := I.2.2.2.2.1 i
  have c := K.2.2.1.1 sN j cs (by omega)
  have k1 : kcv r sN j i = true := decide_eq_true ⟨h76, h3, h4, h5⟩
  have k2 := rf_c_pos k1 hi
  have k3 := rf_c_le (p := kcv r sN j) (jN (r.1 1606))
  rw [hz, jI_0] at c
  have := jI_inj (by omega) (by omega) c
  omega
theorem j_losesK (J : JJ n M r TL CL) (I : rf_I t s q z r.1 r.2) (K : kP r) {i pk : Nat} (hi : i < jN (r.1 1606)) (e : z_ar M (n + 38) i = some pk) (h76 : r.2 76 i = 0) : JJ n (cF_X2_harm (n + 33) (nI i) (nI i) (r.1 1606) (r.1 1536) (z_sfi (cF_X1_leaveFlight (n + 31) (some pk) 2 M) 911 (n + 32) (z_fi (cF_X1_leaveFlight (n + 31) (some pk) 2 M) 911 (n + 32) + 1))) (qF_loses (nI i) r) TL CL := j_loses J I hi e (K.1.2.2.1 i hi).1 h76 (K.2.1.2.2.1 0 (by decide)) (kP_cov K I hi h76)
end KPH
