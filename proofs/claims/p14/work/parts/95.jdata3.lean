/-! ===== THE LIKENESS: the server hears data ===== -/
section JDC
variable {n : Nat} {M M0 M1 M2 : z_Mem} {r r1 : q_R} {TL CL : List Nat} {t s q z : Nat} {d : Int} {f g : Nat → Int32}
/-- what the server's part keeps to, d: what it answers arrives at d or later -/
def jSV (d : Int) (r : q_R) : Prop := jTK r ∧ (r.1 1573 = 0 ∨ r.1 1573 = 1) ∧ (0 ≤ (r.1 1561).toInt ∧ (r.1 1561).toInt < 3600) ∧ (0 ≤ (r.1 1559).toInt ∧ (r.1 1559).toInt < 2048) ∧ (∀ p, p < 2 → d ≤ (r.1 1536 + r.2 41 p).toInt) ∧ (0 ≤ (r.1 1568).toInt ∧ (r.1 1568).toInt ≤ 2000) ∧ (0 ≤ (r.1 1536).toInt ∧ (r.1 1536).toInt ≤ 2000) ∧ (∀ i, i < jN (r.1 1606) → 0 ≤ (r.2 78 i).toInt)
theorem c_arr (S : y_S n M) {s a m g : Nat} (hs : s < 4) (ham : a + m ≤ 200) (hg : g ≤ 200) (h : z_fi M 1157 (n + (12 + 4 * s)) = nI g) : ∃ g', cF_X9_arrive (n + (12 + 4 * s)) (nI a) (nI m) M = z_sfi (zA M (n + (15 + 4 * s)) (rS (z_ai M (n + (15 + 4 * s))) a m 1)) 1157 (n + (12 + 4 * s)) (nI g') := by
  have F := j_sfr S hs
  obtain ⟨g', h1, h2, h3, -, -⟩ := c_pref (M := zA M (n + (15 + 4 * s)) (rS (z_ai M (n + (15 + 4 * s))) a m 1)) (row := n + (15 + 4 * s)) F.2.2.2.2.2 (200 - g) g (by omega)
  refine ⟨g', ?_⟩
  rw [cE_X9_arrive, F.2.2.1, c_mark F.2.2.2.2.2 ham]
  refine (q_ste rfl).trans ?_
  rw [zA_fr, zA_fi, F.2.2.1, h, cE_X11_lengthOfPrefix, jI_max0 (by omega)]
  exact (q_ste2 ((q_ste rfl).trans h3)).trans rfl
theorem j_tail {i pk : Nat} (J : JJ n M r TL (pC d r)) (I : rf_I t s q z r.1 r.2) (V : jSV d r) (hi : i < jN (r.1 1606)) (e : z_ar M (n + 38) i = some pk) (hs1 : r.1 1562 = 1) {p : Nat} (hp : p < 2) (hdp : r.1 1575 = nI p) : JJ n (if nI i < 0 then M else (if nI i < 400 then (q_st (z_sfi M 779 pk 1) (fun (M_36 : z_Mem) => (if ((z_fi M_36 771 pk) < 0) then (cF_X8_hearData_92 (n + 28) (some pk) (nI i) M_36) else (if (4 ≤ (z_fi M_36 771 pk)) then (cF_X8_hearData_92 (n + 28) (some pk) (nI i) M_36) else (q_st (Option.getD (z_fr M_36 1025 (n + 28)) 0) (fun (a43 : Nat) => (q_st (Option.getD (z_ar M_36 a43 ((z_fi M_36 771 pk) : Int32).toNatClampNeg) 0) (fun (a48 : Nat) => (q_st (cF_X9_arrive a48 (z_fi M_36 772 pk) (z_fi M_36 773 pk) M_36) (fun (M_47 : z_Mem) => (cF_X8_hearData_92 (n + 28) (some pk) (nI i) M_47))))))))))) else M)) (qF_takes_99 (nI i) r) TL (pC d (qF_takes_99 (nI i) r)) := by
  have h4 := ri_pk I
  obtain ⟨v1, v2, v3, v4, v5, v6, v7, v8⟩ := V
  have e3 := ri_A I (x := 73) (lo := 0) (hi := 3) (by decide) i
  have e4 := ri_A I (x := 74) (lo := 0) (hi := 200) (by decide) i
  have e5 := ri_A I (x := 75) (lo := 0) (hi := 200) (by decide) i
  have c5 := I.2.2.2.2.1 i
  have n3 := jN_toInt e3.1
  have n4 := jN_toInt e4.1
  have n5 := jN_toInt e5.1
  have hi4 : i < 400 := by omega
  rw [if_neg (jI_nlt0 (by omega)), if_pos (by rw [Int32.lt_iff_toInt_lt, jI_t (by omega), show (400 : Int32).toInt = 400 from rfl]; omega)]
  refine JJ.st (fun M36 e36 => ?_)
  have J36 : JJ n M36 (ua r 77 i 1) TL (pC d r) := by rw [e36]; exact (J.ff (a := pk) (v := 1)).ra (by decide)
  obtain ⟨pk', b1, b2, b3, b4, b5⟩ := J36.pkt hi
  have ar36 : z_ar M36 = z_ar M := by rw [e36]; rfl
  rw [ar36, e] at b1
  cases b1
  have f771 : z_fi M36 771 pk = nI (jN (r.2 73 i)) := by rw [jI_jN e3.1]; exact (jp_771 b5).trans (by rw [ua_n (by decide)])
  have f772 : z_fi M36 772 pk = nI (jN (r.2 74 i)) := by rw [jI_jN e4.1]; exact (jp_772 b5).trans (by rw [ua_n (by decide)])
  have f773 : z_fi M36 773 pk = nI (jN (r.2 75 i)) := by rw [jI_jN e5.1]; exact (jp_773 b5).trans (by rw [ua_n (by decide)])
  rw [f771, f772, f773, if_neg (jI_nlt0 (by omega)), if_neg (jI_n4 (by omega)), s_1025_28 J36.1]
  refine JJ.st (fun a43 e43 => ?_)
  have e43 : a43 = n + 11 := e43
  subst e43
  rw [jI_N (by omega), J36.1.2.2.1 _ (by omega)]
  refine JJ.st (fun a48 e48 => ?_)
  have e48 : a48 = n + (12 + 4 * jN (r.2 73 i)) := e48
  subst e48
  refine JJ.st (fun M47 e47 => ?_)
  have J47 := J36.got (s := jN (r.2 73 i)) (a := jN (r.2 74 i)) (m := jN (r.2 75 i)) (by omega) (by omega)
  have e64 : (ua r 77 i 1).2 64 = r.2 64 := ua_n (by decide)
  rw [e64, ← e47] at J47
  have a47 : z_ar M47 (n + 38) i = some pk := by
    obtain ⟨pk2, d1, d2, d3, d4, d5⟩ := J47.pkt hi
    rw [e47] at d1 ⊢
    -- arrive leaves the packets
    have : z_ar (cF_X9_arrive (n + (12 + 4 * jN (r.2 73 i))) (nI (jN (r.2 74 i))) (nI (jN (r.2 75 i))) M36) (n + 38) = z_ar M36 (n + 38) := by
      obtain ⟨g, x1, x2, x3, x4⟩ := J36.2.2.2.1.2.2.2.2.1 (jN (r.2 73 i)) (by omega)
      obtain ⟨g', hg⟩ := c_arr J36.1 (s := jN (r.2 73 i)) (a := jN (r.2 74 i)) (m := jN (r.2 75 i)) (by omega) (by omega) x1 x2
      rw [hg]; rfl
    rw [this, ar36]; exact e
  exact j_h92 J47 hi4 hi a47 hs1 v1 v2 hp hdp v3.1 v3.2 v4.1 v4.2 (v5 p hp) _ (q_t99 (jI_jN e5.1).symm (jI_jN e4.1).symm (jI_jN e3.1).symm hi4 (by omega) (by omega))
noncomputable def q_D (i : Nat) (r : q_R) : q_R := if r.2 80 i = 0 then qF_takes_43 (nI i) r else if r.1 1564 = 0 then r else qF_takes_43 (nI i) r
theorem j_key {i pk : Nat} (J : JJ n M r TL (pC d r)) (I : rf_I t s q z r.1 r.2) (V : jSV d r) (hi : i < jN (r.1 1606)) (e : z_ar M (n + 38) i = some pk) (hs1 : r.1 1562 = 1) {p : Nat} (hp : p < 2) (hdp : r.1 1575 = nI p) : JJ n (cF_X8_hearData_19 (n + 28) (some pk) 0 M) (qF_takes_43 (nI i) r) TL (pC d (qF_takes_43 (nI i) r)) := by
  have h4 := ri_pk I
  have V0 := V
  obtain ⟨v1, v2, v3, v4, v5, v6, v7, v8⟩ := V
  have ei : (nI i).toNatClampNeg = i := jI_N (by omega)
  obtain ⟨pk', b1, b2, b3, b4, b5⟩ := J.pkt hi
  rw [e] at b1
  cases b1
  have X3 := J.2.2.2.1.2.2.1
  rw [cE_X8_hearData_19]
  refine JJ.st (fun a27 e27 => ?_)
  have e27 : a27 = pk := e27
  subst e27
  rw [b4]
  refine JJ.st (fun x29 e29 => ?_)
  subst e29
  rw [if_pos rfl, jp_774 b5, cE_X8_takesKey, js_1030_28 J, qE_takes_43, ei]
  by_cases c : r.2 78 i ≤ r.1 1566
  · rw [if_pos c, if_pos c, cE_X8_takesKey_35, js_1030_28 J, js_1031_28 J, qE_isByKey]
    have go : JJ n (if nI i < 0 then M else (if nI i < 400 then (q_st (z_sfi M 779 a27 1) (fun (M_36 : z_Mem) => (if ((z_fi M_36 771 a27) < 0) then (cF_X8_hearData_92 (n + 28) (some a27) (nI i) M_36) else (if (4 ≤ (z_fi M_36 771 a27)) then (cF_X8_hearData_92 (n + 28) (some a27) (nI i) M_36) else (q_st (Option.getD (z_fr M_36 1025 (n + 28)) 0) (fun (a43 : Nat) => (q_st (Option.getD (z_ar M_36 a43 ((z_fi M_36 771 a27) : Int32).toNatClampNeg) 0) (fun (a48 : Nat) => (q_st (cF_X9_arrive a48 (z_fi M_36 772 a27) (z_fi M_36 773 a27) M_36) (fun (M_47 : z_Mem) => (cF_X8_hearData_92 (n + 28) (some a27) (nI i) M_47))))))))))) else M)) (qF_takes_99 (nI i) r) TL (pC d (qF_takes_99 (nI i) r)) := j_tail J I V0 hi e hs1 hp hdp
    by_cases c1 : r.2 78 i = r.1 1566
    · rw [if_pos c1, if_pos c1]
      exact go
    · rw [if_neg c1, if_neg c1]
      by_cases c2 : r.2 78 i = r.1 1567
      · rw [if_pos c2, if_pos c2, s_1024_28 J.1]
        have k0 := v8 i hi
        have hne : ¬ r.1 1567 = -1 := fun h => by
          rw [c2, h] at k0
          exact absurd k0 (by decide)
        have e32 := X3 hne
        have st : (q_st (Option.getD (some (n + 1)) 0) fun a6 => if z_fi M 1032 (n + 28) ≤ z_fi M 645 a6 then ((0 : Int32), M) else (1, M)) = (if z_fi M 1032 (n + 28) ≤ z_fi M 645 (n + 1) then ((0 : Int32), M) else (1, M)) := rfl
        rw [st, js_645_1 J, e32]
        have eq : (r.1 1568 + 8 ≤ r.1 1536) ↔ ((8 : Int32) ≤ r.1 1536 - r.1 1568) := by
          rw [Int32.le_iff_toInt_le, Int32.le_iff_toInt_le, i_addE (x := r.1 1568) rfl (show (8 : Int32).toInt = 8 from rfl) (by omega) (by omega), i_subE (x := r.1 1536) (y := r.1 1568) rfl rfl (by omega) (by omega), show (8 : Int32).toInt = 8 from rfl]; omega
        by_cases c3 : r.1 1568 + 8 ≤ r.1 1536
        · rw [if_pos c3, if_pos (eq.mp c3)]; exact J
        · rw [if_neg c3, if_neg (fun h => c3 (eq.mpr h))]; exact go
      · rw [if_neg c2, if_neg c2]; exact J
  · rw [if_neg c, if_neg c]
    have eK : (q_st (z_sfi M 1031 (n + 28) (r.1 1566)) fun M_13 => q_st (Option.getD (z_fr M_13 1024 (n + 28)) 0) fun a15 => q_st (z_sfi M_13 1032 (n + 28) (z_fi M_13 645 a15 + 8)) fun M_17 => q_st (z_sfi M_17 1030 (n + 28) (r.2 78 i)) fun M_18 => cF_X8_takesKey_35 (n + 28) (r.2 78 i) M_18) = (1, z_sfi (z_sfi (z_sfi M 1031 (n + 28) (r.1 1566)) 1032 (n + 28) (r.1 1536 + 8)) 1030 (n + 28) (r.2 78 i)) := by
      refine (q_ste rfl).trans ?_
      rw [zq_fr_sfi, s_1024_28 J.1]
      refine (q_ste (b := n + 1) rfl).trans ?_
      rw [zq_fi_sfi, if_neg (by decide), js_645_1 J]
      refine (q_ste rfl).trans ?_
      refine (q_ste rfl).trans ?_
      rw [cE_X8_takesKey_35, zq_fi_sfi, if_pos rfl, if_pos rfl, if_pos rfl]
    have JK := J.keys (v1 := r.1 1566) (v2 := r.2 78 i) rfl
    rw [show (q_st (z_sfi M 1031 (n + 28) (r.1 1566)) fun M_13 => q_st ((z_fr M_13 1024 (n + 28)).getD 0) fun a15 => q_st (z_sfi M_13 1032 (n + 28) (z_fi M_13 645 a15 + 8)) fun M_17 => q_st (z_sfi M_17 1030 (n + 28) (r.2 78 i)) fun M_18 => cF_X8_takesKey_35 (n + 28) (r.2 78 i) M_18) = _ from eK]
    have hpC : pC d (uf (uf (uf r 1567 (r.1 1566)) 1566 (r.2 78 i)) 1568 (r.1 1536)) = pC d r := pC_congr rfl (fun _ _ => rfl)
    rw [← hpC] at JK
    have eF : (q_st (uf r 1567 (r.1 1566)) fun r2 => q_st (uf r2 1566 (r2.2 78 i)) fun r3 => q_st (uf r3 1568 (r3.1 1536)) fun r4 => qF_takes_99 (nI i) r4) = qF_takes_99 (nI i) (uf (uf (uf r 1567 (r.1 1566)) 1566 (r.2 78 i)) 1568 (r.1 1536)) := rfl
    rw [eF]
    exact j_tail JK (rI_f (rI_f (rI_f I (by decide)) (by decide)) (by decide)) ⟨v1, v2, v3, v4, v5, v7, v7, v8⟩ hi e hs1 hp hdp
theorem j_hearData {i pk : Nat} (J : JJ n M r TL (pC d r)) (I : rf_I t s q z r.1 r.2) (V : jSV d r) (hi : i < jN (r.1 1606)) (e : z_ar M (n + 38) i = some pk) (hs1 : r.1 1562 = 1) {p : Nat} (hp : p < 2) (hdp : r.1 1575 = nI p) : JJ n (cF_X8_hearData (n + 28) (some pk) M) (q_D i r) TL (pC d (q_D i r)) := by
  obtain ⟨pk', b1, b2, b3, b4, b5⟩ := J.pkt hi
  rw [e] at b1
  cases b1
  have K := j_key J I V hi e hs1 hp hdp
  rw [cE_X8_hearData]
  refine JJ.st (fun a49 e49 => ?_)
  have e49 : a49 = pk := e49
  subst e49
  unfold q_D
  rw [jp_776 b5, js_1028_28 J (by rw [hs1]; decide), cE_X8_hearData_18]
  by_cases c : r.2 80 i = 0
  · rw [if_pos c, if_pos c]; exact K
  · rw [if_neg c, if_neg c]
    by_cases c2 : r.1 1564 = 0
    · rw [if_pos c2, if_pos c2, cE_X8_hearData_19]
      refine JJ.st (fun a27 _ => JJ.st (fun x29 _ => ?_))
      rw [if_neg (by decide)]
      exact J
    · rw [if_neg c2, if_neg c2]; exact K
end JDC
