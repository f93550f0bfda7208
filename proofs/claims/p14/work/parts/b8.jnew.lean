/-! ===== THE LIKENESS: new bytes are sent ===== -/
section JNW
variable {n : Nat} {M M0 M1 M2 M3 : z_Mem} {r r1 r2 : q_R} {TL CL : List Nat} {t s q z : Nat}
theorem k_mod4 {l k : Nat} (h : l + k < 1000) : (nI l + nI k) - (nI l + nI k) / 4 * 4 = nI ((l + k) % 4) := by
  rw [jI_add (by omega)]
  exact Int32.toInt_inj.mp (by rw [i_modE4 (jI_t (show l + k < 2147483648 by omega)) (by omega), jI_t (by omega)]; omega)
theorem i_subadd {a b c : Int32} : a - (b + c) = a - b - c := by
  have h : a = (a - b - c) + (b + c) := by
    rw [Int32.add_comm b c, ← Int32.add_assoc, Int32.sub_add_cancel, Int32.sub_add_cancel]
  have h2 := congrArg (fun x => x - (b + c)) h
  exact h2.trans (Int32.add_sub_cancel _ _)
/-- how many new ones: both sides -/
theorem k_new {w u c x : Int32} (hu : 0 ≤ u.toInt) (huw : u.toInt ≤ w.toInt) (hw : w.toInt ≤ 200) (hc : 0 ≤ c.toInt) : ∃ v : Int32, (∀ a : q_R, (if c - u ≤ w - u then qF_newOf_49 x (c - u) a else qF_newOf_49 x (w - u) a) = (v, a)) ∧ (if 0 < (if 10 < (if x < (if c < w then c else w) - u then x else (if c < w then c else w) - u) then 10 else (if x < (if c < w then c else w) - u then x else (if c < w then c else w) - u) : Int32) then (if 10 < (if x < (if c < w then c else w) - u then x else (if c < w then c else w) - u) then 10 else (if x < (if c < w then c else w) - u then x else (if c < w then c else w) - u) : Int32) else 0 : Int32) = (if 0 < v then v else 0) ∧ v.toInt ≤ 10 ∧ v.toInt ≤ w.toInt - u.toInt := by
  have hcl := Int32.toInt_lt c
  have ew : (w - u).toInt = w.toInt - u.toInt := i_subE rfl rfl (by omega) (by omega)
  have ec : (c - u).toInt = c.toInt - u.toInt := i_subE rfl rfl (by omega) (by omega)
  have em : (if c < w then c else w : Int32) - u = (if c - u ≤ w - u then c - u else w - u) := by
    by_cases h : c < w
    · rw [if_pos h]
      rw [Int32.lt_iff_toInt_lt] at h
      rw [if_pos (by rw [Int32.le_iff_toInt_le]; omega)]
    · rw [if_neg h]
      rw [Int32.lt_iff_toInt_lt] at h
      by_cases h2 : c - u ≤ w - u
      · rw [if_pos h2]
        rw [Int32.le_iff_toInt_le] at h2
        exact Int32.toInt_inj.mp (by omega)
      · rw [if_neg h2]
  rw [em]
  have hm : (if c - u ≤ w - u then c - u else w - u : Int32).toInt ≤ w.toInt - u.toInt := by
    by_cases h2 : c - u ≤ w - u
    · rw [if_pos h2]
      rw [Int32.le_iff_toInt_le] at h2
      omega
    · rw [if_neg h2]; omega
  have hf : ∀ a : q_R, (if c - u ≤ w - u then qF_newOf_49 x (c - u) a else qF_newOf_49 x (w - u) a) = qF_newOf_49 x (if c - u ≤ w - u then c - u else w - u) a := fun a => by split <;> rfl
  generalize (if c - u ≤ w - u then c - u else w - u : Int32) = m at hm hf
  have hg : ∀ a : q_R, qF_newOf_49 x m a = ((if 10 < (if x < m then x else m) then 10 else (if x < m then x else m) : Int32), a) := fun a => by
    rw [qE_newOf_49]
    have e10 : ∀ y : Int32, (if y ≤ 10 then (y, a) else ((10 : Int32), a)) = ((if 10 < y then 10 else y : Int32), a) := fun y => by
      by_cases h : y ≤ 10
      · rw [if_pos h]
        rw [Int32.le_iff_toInt_le, show (10 : Int32).toInt = 10 from rfl] at h
        rw [if_neg (by rw [Int32.lt_iff_toInt_lt, show (10 : Int32).toInt = 10 from rfl]; omega)]
      · rw [if_neg h]
        rw [Int32.le_iff_toInt_le, show (10 : Int32).toInt = 10 from rfl] at h
        rw [if_pos (by rw [Int32.lt_iff_toInt_lt, show (10 : Int32).toInt = 10 from rfl]; omega)]
    rw [e10, e10]
    by_cases h : x ≤ m
    · rw [if_pos h]
      by_cases h2 : x < m
      · rw [if_pos h2]
      · rw [if_neg h2]
        rw [Int32.le_iff_toInt_le] at h
        rw [Int32.lt_iff_toInt_lt] at h2
        rw [Int32.toInt_inj.mp (show x.toInt = m.toInt by omega)]
    · rw [if_neg h]
      rw [Int32.le_iff_toInt_le] at h
      rw [if_neg (show ¬ x < m by rw [Int32.lt_iff_toInt_lt]; omega)]
  have hx : (if x < m then x else m : Int32).toInt ≤ m.toInt := by
    by_cases h : x < m
    · rw [if_pos h]
      rw [Int32.lt_iff_toInt_lt] at h
      omega
    · rw [if_neg h]; exact Int.le_refl _
  generalize (if x < m then x else m : Int32) = y at hg hx
  refine ⟨_, fun a => (hf a).trans (hg a), rfl, ?_, ?_⟩
  · by_cases h : 10 < y
    · rw [if_pos h]; decide
    · rw [if_neg h]
      rw [Int32.lt_iff_toInt_lt, show (10 : Int32).toInt = 10 from rfl] at h
      omega
  · by_cases h : 10 < y
    · rw [if_pos h]
      rw [Int32.lt_iff_toInt_lt, show (10 : Int32).toInt = 10 from rfl] at h
      rw [show (10 : Int32).toInt = 10 from rfl]
      omega
    · rw [if_neg h]; omega
theorem rI_1590 (I : rf_I t s q z r.1 r.2) {v : Int32} (h0 : 0 ≤ v.toInt) (h1 : v.toInt ≤ 3) : rf_I t s q z (uf r 1590 v).1 (uf r 1590 v).2 := by
  obtain ⟨c1, c2, c3, c4, c5, c6, c7, c8, c9, c10, c11, c12⟩ := I
  have w : ∀ k, k ≠ 1590 → (uf r 1590 v).1 k = r.1 k := fun k hk => uf_n hk
  refine ⟨c1, fun tr htr => ?_, c3, c4.congr (fun _ _ => rfl) (fun y hy => w y (by revert hy; revert y; decide)), c5, c6.congr (fun _ _ => rfl) (fun y hy => w y (by revert hy; revert y; decide)), c7, c8.congr (fun _ _ => rfl) (fun y hy => w y (by revert hy; revert y; decide)), c9.congr (fun y hy => w y (by revert hy; revert y; decide)), c10, c11.congr (fun _ _ => rfl) (fun y hy => w y (by revert hy; revert y; decide)), c12.congr (fun _ _ => rfl) (fun y hy => w y (by revert hy; revert y; decide))⟩
  have hC := c2 tr htr
  by_cases hc : tr.1 = 1590
  · have : tr = (1590, 0, 3) := (show ∀ tr, tr ∈ rf_RF → tr.1 = 1590 → tr = (1590, 0, 3) from by decide) tr htr hc
    subst this
    show 0 ≤ ((uf r 1590 v).1 1590).toInt ∧ ((uf r 1590 v).1 1590).toInt ≤ 3
    rw [uf_e]; exact ⟨h0, h1⟩
  · rw [w _ hc]; exact hC
theorem rI_67 (I : rf_I t s q z r.1 r.2) {j : Nat} {v : Int32} (h0 : 0 ≤ v.toInt) (h1 : v.toInt ≤ (r.2 66 j).toInt) : rf_I t s q z (ua r 67 j v).1 (ua r 67 j v).2 := by
  have b66 := ri_A I (x := 66) (lo := 0) (hi := 200) (by decide) j
  obtain ⟨c1, c2, c3, c4, c5, c6, c7, c8, c9, c10, c11, c12⟩ := I
  have w : ∀ k, k ≠ 67 → (ua r 67 j v).2 k = r.2 k := fun k hk => ua_n hk
  refine ⟨fun tr htr i => ?_, c2, fun i hi => ?_, c4.congr (fun y hy => w y (by revert hy; revert y; decide)) (fun _ _ => rfl), c5.congr (fun y hy => w y (by revert hy; revert y; decide)), c6.congr (fun y hy => w y (by revert hy; revert y; decide)) (fun _ _ => rfl), c7.congr (fun y hy => w y (by revert hy; revert y; decide)), c8.congr (fun y hy => w y (by revert hy; revert y; decide)) (fun _ _ => rfl), c9, c10.congr (fun y hy => w y (by revert hy; revert y; decide)), c11.congr (fun y hy => w y (by revert hy; revert y; decide)) (fun _ _ => rfl), c12.congr (fun y hy => w y (by revert hy; revert y; decide)) (fun _ _ => rfl)⟩
  · have hC := c1 tr htr i
    by_cases hc : tr.1 = 67
    · have : tr = (67, 0, 200) := (show ∀ tr, tr ∈ rf_RA → tr.1 = 67 → tr = (67, 0, 200) from by decide) tr htr hc
      subst this
      show 0 ≤ ((ua r 67 j v).2 67 i).toInt ∧ ((ua r 67 j v).2 67 i).toInt ≤ 200
      by_cases ci : i = j
      · rw [ci, ua_e]; omega
      · rw [ua_i ci]; exact hC
    · rw [w _ hc]; exact hC
  · have h3 := c3 i hi
    rw [w 66 (by decide)]
    by_cases ci : i = j
    · rw [ci, ua_e]; exact h1
    · rw [ua_i ci]; exact h3
theorem kP_67 (h : kP r) {j : Nat} {v : Int32} (hv : (r.2 67 j).toInt ≤ v.toInt) : kP (ua r 67 j v) := by
  obtain ⟨a, b, ⟨c1, c2, c3⟩, d⟩ := h
  have w : ∀ k, k ≠ 67 → (ua r 67 j v).2 k = r.2 k := fun k hk => ua_n hk
  have ek : kcv (ua r 67 j v) = kcv r := kcv_c (w 73 (by decide)) (w 74 (by decide)) (w 75 (by decide)) (w 76 (by decide))
  refine ⟨kA_c (r := r) (fun _ _ => rfl) (fun k hk => w k (by revert hk; revert k; decide)) a, kB_c (r := r) (fun _ _ => rfl) (fun k hk => w k (by revert hk; revert k; decide)) b, ⟨?_, ?_, fun i s' hi hs' e => ?_⟩, kD_c (r := r) (fun k hk => w k (by revert hk; revert k; decide)) d⟩
  · rw [ek, w 70 (by decide)]; exact c1
  · rw [w 70 (by decide)]; exact c2
  · rw [w 73 (by decide)] at e
    rw [w 74 (by decide), w 75 (by decide)]
    have h3 := c3 i s' hi hs' e
    by_cases cs : s' = j
    · rw [cs, ua_e]
      rw [cs] at h3
      omega
    · rw [ua_i cs]; exact h3
/-- the room of all -/
def q_room (r : q_R) : Int32 := r.1 1589 - (r.2 67 0 + r.2 67 1 + r.2 67 2 + r.2 67 3)
theorem c_room (J : JJ n M r TL CL) : cF_X1_sendNew (n + 31) (some (n + 32)) M = cF_X1_sendNew_32 (n + 31) (some (n + 32)) (q_room r) 1 M := by
  have st : ∀ (k : Nat) (x : Int32), k < 4 → cF_X1_sendNew_7 (n + 31) (some (n + 32)) x (nI k) M = cF_X1_sendNew_7 (n + 31) (some (n + 32)) (x - r.2 67 k) (nI (k + 1)) M := fun k x hk => by
    have hB := cE_X1_sendNew_7 (n + 31) (some (n + 32)) x (nI k) M
    rw [if_neg (jI_n4 hk)] at hB
    replace hB := hB.trans (q_ste (b := n + 11) (by rw [s_129_31 J.1]; rfl))
    replace hB := hB.trans (q_ste (b := n + (12 + 4 * k)) (by rw [jI_N (by omega), s_str J.1 hk]; rfl))
    rw [(j_lo J hk).1] at hB
    replace hB := hB.trans (q_ste rfl)
    have e1 : nI (k + 1) = nI k + 1 := by rw [jI_1, jI_add (by omega)]
    replace hB := hB.trans (q_ste (b := nI (k + 1)) e1)
    exact cUl_X1_sendNew_7 hB
  have hB := cE_X1_sendNew (n + 31) (some (n + 32)) M
  rw [js_144_31 J] at hB
  replace hB := hB.trans (q_ste (b := r.1 1589) rfl)
  rw [jI_0, st 0 _ (by decide), st 1 _ (by decide), st 2 _ (by decide), st 3 _ (by decide)] at hB
  have hC := cE_X1_sendNew_7 (n + 31) (some (n + 32)) (r.1 1589 - r.2 67 0 - r.2 67 1 - r.2 67 2 - r.2 67 3) (nI (3 + 1)) M
  rw [if_pos (by decide)] at hC
  rw [cUr_X1_sendNew_7 hC] at hB
  have e : q_room r = r.1 1589 - r.2 67 0 - r.2 67 1 - r.2 67 2 - r.2 67 3 := by
    unfold q_room
    rw [i_subadd, i_subadd, i_subadd]
  rw [e]
  exact hB
/-- a stream's numbers -/
theorem j_sn (J : JJ n M r TL CL) {s' : Nat} (hs : s' < 4) : z_fi M 1152 (n + (12 + 4 * s')) = r.2 66 s' := by
  have hm : ∀ s, s < 4 → (1152, 12 + 4 * s, 66, s) ∈ jT := by decide
  exact J.2.1 _ (hm s' hs)
theorem j_sendNew2 (J : JJ n M r TL CL) (h : kI t s q z r) {P : Nat} (hP : r.1 1606 = nI P) (hP4 : P < 400) {Ph : q_R → Prop} (hPh : ∀ (sN a m : Nat) (v : Int32), sN < 4 → a + m ≤ 200 → kI t s q z (ua (uf r 1590 (nI sN)) 67 sN v) → (a + m : Nat) ≤ v.toInt → Ph (qF_sends 0 (nI sN) (nI a) (nI m) 0 (ua (uf r 1590 (nI sN)) 67 sN v))) : ∀ m k, k + m = 5 → (cF_X1_sendNew_32 (n + 31) (some (n + 32)) (q_room r) (nI k) M = (0, M) ∧ qF_sendsNext_76 0 (nI k) r = (0, r)) ∨ (∃ M' r', JJ n M' r' TL CL ∧ kI t s q z r' ∧ Ph r' ∧ r'.1 1606 = nI (P + 1) ∧ cF_X1_sendNew_32 (n + 31) (some (n + 32)) (q_room r) (nI k) M = (1, M') ∧ qF_sendsNext_76 0 (nI k) r = (1, r')) := by
  intro m
  induction m with
  | zero =>
    intro k hk
    have e : k = 5 := by omega
    subst e
    have hB := cE_X1_sendNew_32 (n + 31) (some (n + 32)) (q_room r) (nI 5) M
    have hQ := qE_sendsNext_76 0 (nI 5) r
    rw [if_pos (by decide)] at hB hQ
    exact Or.inl ⟨cUr_X1_sendNew_32 hB, qUr_sendsNext_76 hQ⟩
  | succ m ih =>
    intro k hk
    have hB := cE_X1_sendNew_32 (n + 31) (some (n + 32)) (q_room r) (nI k) M
    have hQ := qE_sendsNext_76 0 (nI k) r
    have c4 : ¬ (4 : Int32) < nI k := fun c => by rw [show (4 : Int32) = nI 4 from rfl, jI_lt (by omega) (by omega)] at c; omega
    have b90 := ri_F h.1 (g := 1590) (lo := 0) (hi := 3) (by decide)
    have i90 := jI_jN b90.1
    have n90 := jN_toInt b90.1
    have e1 : nI (k + 1) = nI k + 1 := by rw [jI_1, jI_add (by omega)]
    rw [if_neg c4] at hB hQ
    rw [js_145_31 J, ← i90, k_mod4 (by omega)] at hB
    rw [← i90, k_mod4 (by omega)] at hQ
    generalize hsN : (jN (r.1 1590) + k) % 4 = sN at hB hQ
    have hs4 : sN < 4 := by omega
    replace hB := hB.trans (q_ste (b := nI sN) rfl)
    replace hQ := hQ.trans (q_ste (b := nI sN) rfl)
    rw [jI_N (by omega : sN < 2147483648)] at hB hQ
    replace hB := hB.trans (q_ste (b := n + 11) (by rw [s_129_31 J.1]; rfl))
    replace hB := hB.trans (q_ste (b := n + (12 + 4 * sN)) (by rw [s_str J.1 hs4]; rfl))
    have b67 := ri_A h.1 (x := 67) (lo := 0) (hi := 200) (by decide) sN
    have b66 := ri_A h.1 (x := 66) (lo := 0) (hi := 200) (by decide) sN
    have b3 : (r.2 67 sN).toInt ≤ (r.2 66 sN).toInt := h.1.2.2.1 sN hs4
    have b68 := h.2.2.2.2.2.2.2.2 sN hs4
    obtain ⟨v, v1, v2, v3, v4⟩ := k_new (x := q_room r) b67.1 b3 b66.2 b68
    have hC := cE_X9_canSendAnew (n + (12 + 4 * sN)) (q_room r) M
    rw [j_s1156 J hs4, j_sn J hs4, (j_lo J hs4).1] at hC
    replace hC := hC.trans (q_ste rfl)
    rw [v2] at hC
    replace hB := hB.trans (q_ste2 hC)
    have hN := qE_newOf (nI sN) r
    rw [jI_N (by omega : sN < 2147483648)] at hN
    replace hN := hN.trans (q_ste rfl)
    replace hN := hN.trans (q_ste rfl)
    have hS : qF_sentInAll r = (r.2 67 0 + r.2 67 1 + r.2 67 2 + r.2 67 3, r) := qE_sentInAll r
    replace hN := hN.trans (q_ste2 hS)
    replace hN := hN.trans (q_ste (b := q_room r) rfl)
    rw [v1] at hN
    replace hQ := hQ.trans (q_ste2 hN)
    by_cases cv : v ≤ 0
    · rw [if_pos cv] at hQ
      rw [Int32.le_iff_toInt_le, show (0 : Int32).toInt = 0 from rfl] at cv
      rw [if_neg (show ¬ (0 : Int32) < v by rw [Int32.lt_iff_toInt_lt, show (0 : Int32).toInt = 0 from rfl]; omega), if_pos (by decide)] at hB
      replace hB := hB.trans (q_ste (b := nI (k + 1)) e1)
      replace hQ := hQ.trans (q_ste (b := nI (k + 1)) e1)
      rw [cUl_X1_sendNew_32 hB, qUl_sendsNext_76 hQ]
      exact ih (k + 1) (by omega)
    · rw [if_neg cv] at hQ
      have cv' : ¬ (if 0 < v then v else 0 : Int32) ≤ 0 := by
        rw [if_pos (by rw [Int32.le_iff_toInt_le, show (0 : Int32).toInt = 0 from rfl] at cv; rw [Int32.lt_iff_toInt_lt, show (0 : Int32).toInt = 0 from rfl]; omega)]
        exact cv
      rw [if_neg cv'] at hB
      rw [Int32.le_iff_toInt_le, show (0 : Int32).toInt = 0 from rfl] at cv
      rw [if_pos (show (0 : Int32) < v by rw [Int32.lt_iff_toInt_lt, show (0 : Int32).toInt = 0 from rfl]; omega)] at hB
      -- as numbers
      have hvN := jN_toInt (x := v) (by omega)
      have evI := jI_jN (x := v) (by omega)
      have huN := jN_toInt b67.1
      have euI := jI_jN b67.1
      generalize hm' : jN v = m' at hvN evI
      generalize hu' : jN (r.2 67 sN) = u' at huN euI
      have J1 := J.sf (M1 := z_sfi M 145 (n + 31) (nI sN)) (j := 1590) rfl (by decide)
      have h1 : kI t s q z (uf r 1590 (nI sN)) := ⟨rI_1590 h.1 (by rw [jI_t (by omega)]; omega) (by rw [jI_t (by omega)]; omega), kP_uf h.2 (by decide)⟩
      have k1153 : z_fi (z_sfi M 145 (n + 31) (nI sN)) 1153 (n + (12 + 4 * sN)) = nI u' := by rw [zq_fi_sfi, if_neg (by decide), (j_lo J hs4).1]; exact euI.symm
      replace hB := hB.trans (q_ste (b := z_sfi M 145 (n + 31) (nI sN)) rfl)
      generalize z_sfi M 145 (n + 31) (nI sN) = W at hB J1 k1153
      replace hB := hB.trans (q_ste (b := n + 11) (by rw [s_129_31 J1.1]; rfl))
      replace hB := hB.trans (q_ste (b := n + (12 + 4 * sN)) (by rw [s_str J1.1 hs4]; rfl))
      rw [k1153, ← evI] at hB
      replace hB := hB.trans (q_ste rfl)
      have es : r.2 67 sN + v = nI (u' + m') := by rw [← euI, ← evI, jI_add (by omega)]
      rw [es] at hQ
      replace hQ := hQ.trans (q_ste (b := ua r 67 sN (nI (u' + m'))) rfl)
      replace hQ := hQ.trans (q_ste (b := ua (uf r 1590 (nI sN)) 67 sN (nI (u' + m'))) rfl)
      have e67 : (ua (uf r 1590 (nI sN)) 67 sN (nI (u' + m'))).2 67 sN = nI (u' + m') := ua_e
      rw [e67, ← evI, show nI (u' + m') - nI m' = nI u' by rw [jI_sub (by omega) (by omega), Nat.add_sub_cancel]] at hQ
      replace hQ := hQ.trans (q_ste rfl)
      have clt : (uf r 1590 (nI sN)).2 67 sN < nI (u' + m') := by rw [uf2, Int32.lt_iff_toInt_lt, jI_t (by omega)]; omega
      have I' : rf_I t s q z (ua (uf r 1590 (nI sN)) 67 sN (nI (u' + m'))).1 (ua (uf r 1590 (nI sN)) 67 sN (nI (u' + m'))).2 := rI_67 h1.1 (by rw [jI_t (by omega)]; omega) (by rw [jI_t (by omega), uf2]; omega)
      have h2 : kI t s q z (ua (uf r 1590 (nI sN)) 67 sN (nI (u' + m'))) := ⟨I', kP_67 h1.2 (by rw [uf2, jI_t (by omega)]; omega)⟩
      have hP1 : (uf r 1590 (nI sN)).1 1606 = nI P := by rw [uf_n (by decide)]; exact hP
      have JS := j_sendG (b := 0) (v := nI (u' + m')) J1 h1 hP1 hP4 hs4 (show u' + m' ≤ 200 by omega) (by rw [if_pos clt]) (fun _ => by rw [uf2]; omega) I'
      obtain ⟨k1, -, k3⟩ := kI_sends (b := 0) J.1 h2 hP1 hP4 hs4 (show u' + m' ≤ 200 by omega) (by rw [ua_e, jI_t (by omega)]; omega)
      exact Or.inr ⟨_, _, JS, k1, hPh sN u' m' _ hs4 (by omega) h2 (by rw [jI_t (by omega)]; omega), k3, cUr_X1_sendNew_32 hB, qUr_sendsNext_76 hQ⟩
end JNW
