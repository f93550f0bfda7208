/-! ===== THE LIKENESS: a packet held for lost is acknowledged (path 0) ===== -/
section JAQ
variable {n : Nat} {M M0 M1 M2 : z_Mem} {r r1 r2 : q_R} {TL CL : List Nat} {t s q z : Nat} {d : Int} {f g : Nat → Int32}
set_option maxRecDepth 100000 in
theorem j_ackP2 (J : JJ n M r TL CL) (I : rf_I t s q z r.1 r.2) {i pk : Nat} (hi : i < jN (r.1 1606)) (e : z_ar M (n + 38) i = some pk) (h71 : r.2 71 i = 0) (h76 : r.2 76 i = 2) (h01 : ∀ i, r.2 69 i = 0 ∨ r.2 69 i = 1) (hg : ¬ r.2 94 0 < r.2 82 i) (hh : r.2 102 0 = nI i → ¬ r.2 100 0 = 0) : JJ n (cF_X1_acknowledge (n + 31) (some pk) M) (qF_hearsOf (nI i) r) TL CL := by
  have e0 : (0 : Int32).toNatClampNeg = 0 := rfl
  obtain ⟨sN, a, m, hs, ham, e3, e4, e5⟩ := ri_by I i
  have hb := ri_pk I
  obtain ⟨pk0, a1, a2, a3, a4, a5⟩ := J.pkt hi
  rw [e] at a1
  cases a1
  have hQ := qE_hearsOf (nI i) r
  rw [jI_N (by omega : i < 2147483648), h71] at hQ
  replace hQ := hQ.trans (q_ste (b := 0) rfl)
  rw [if_neg (by rw [h76]; decide), if_pos h76] at hQ
  have hD := qE_hearsOf_27 (nI i) 0 r
  rw [jI_N (by omega : i < 2147483648), e0, q_maxe, if_neg hg] at hD
  replace hD := hD.trans (q_ste2 (a := r.2 94 0) (b := r) rfl)
  replace hD := hD.trans (q_ste (b := r) (ua_id rfl).symm)
  have k1 := q_h50 (x2 := 0) (show i < 400 by omega) hs ham m 0 r (by omega) e5 e4 e3
  rw [Nat.add_zero] at k1
  replace hQ := (hQ.trans hD).trans k1
  have h76' : ¬ (uA r 69 (rS (r.2 69) (200 * sN + a) m 1)).2 76 i = 0 := by rw [uA_n (by decide), h76]; decide
  rw [q_h50e (by omega) (by rw [uA_n (by decide)]; exact e5) h76'] at hQ
  refine JJ.cr hQ ?_
  have hB := cE_X1_acknowledge (n + 31) (some pk) M
  replace hB := hB.trans (q_ops rfl)
  have hr : cF_X1_routeOf (n + 31) (z_fi M 769 pk) M = (some (n + 32), M) := by
    rw [cE_X1_routeOf, (jp_769 a5).trans h71, if_pos rfl, s_130_31 J.1]
  replace hB := hB.trans (q_ste2 hr)
  have h778 : z_fi M 778 pk = 2 := (jp_778 a5).trans h76
  rw [if_neg (by rw [h778]; decide), if_pos h778] at hB
  replace hB := hB.trans (q_ste (b := z_sfi M 778 pk 3) rfl)
  replace hB := hB.trans (q_ste (b := n + 32) rfl)
  have J8 := J.known hi (by omega) e (v := 3) (by rw [h76]; decide) (by decide) rfl
  have p8 : ∀ k, k ≠ 778 → z_fi (z_sfi M 778 pk 3) k pk = z_fi M k pk := fun k h => by rw [zq_fi_sfi, if_neg h]
  generalize z_sfi M 778 pk 3 = A at hB J8 p8
  replace hB := hB.trans (q_ste (b := z_sfi A 912 (n + 32) (z_fi A 912 (n + 32) + 1)) rfl)
  have J11 : JJ n (z_sfi A 912 (n + 32) (z_fi A 912 (n + 32) + 1)) (ua r 76 i 3) TL CL := J8.fc rfl (by decide)
  have p11 : ∀ k, k ≠ 778 → k ≠ 912 → z_fi (z_sfi A 912 (n + 32) (z_fi A 912 (n + 32) + 1)) k pk = z_fi M k pk := fun k h h2 => by rw [zq_fi_sfi, if_neg h2]; exact p8 k h
  generalize z_sfi A 912 (n + 32) (z_fi A 912 (n + 32) + 1) = B at hB J11 p11
  have h3 : z_fi B 771 pk = nI sN := (p11 771 (by decide) (by decide)).trans ((jp_771 a5).trans e3)
  have h4 : z_fi B 772 pk = nI a := (p11 772 (by decide) (by decide)).trans ((jp_772 a5).trans e4)
  have h5 : z_fi B 773 pk = nI m := (p11 773 (by decide) (by decide)).trans ((jp_773 a5).trans e5)
  have h7 : z_fi B 768 pk = nI i := (p11 768 (by decide) (by decide)).trans a4
  rw [h3, h4, h5, if_neg (jI_nlt0 (by omega)), if_neg (jI_n4 hs)] at hB
  replace hB := hB.trans (q_ste (b := n + 11) (by rw [s_129_31 J11.1]; rfl))
  replace hB := hB.trans (q_ste (b := n + (12 + 4 * sN)) (by rw [jI_N (by omega), s_str J11.1 hs]; rfl))
  have J30 := j_ackF J11 hs ham (fun i => by rw [ua_n (by decide)]; exact h01 i)
  have F30 := c_ackFr (M := B) (a := n + (12 + 4 * sN)) ham
  generalize cF_X9_acknowledge (n + (12 + 4 * sN)) (nI a) (nI m) B = V at hB J30 F30
  replace hB := hB.trans (q_ste (b := V) rfl)
  replace hB := hB.trans (q_ste (b := n + 33) (by rw [s_897_32 J30.1]; rfl))
  rw [(F30.1 768 pk (by decide)).trans h7] at hB
  replace hB := hB.trans (q_ste rfl)
  refine JJ.cm hB ?_
  rw [ua_n (show 69 ≠ 76 by decide), ua_uAc (x := 69) (by decide)] at J30
  have J31 : JJ n V (ua (ua (uA r 69 (rS (r.2 69) (200 * sN + a) m 1)) 76 i 3) 106 1 ((uA r 69 (rS (r.2 69) (200 * sN + a) m 1)).2 106 1 + 1)) TL CL := J30.ra (by decide)
  refine j_takeBack J31 (fun h => ?_)
  rw [ua_n (by decide), ua_n (by decide), uA_n (by decide)] at h ⊢
  exact hh h
end JAQ
