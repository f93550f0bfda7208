/-! ===== THE LIKENESS: a message arrives at the server ===== -/
section JHU
variable {n : Nat} {M M0 M1 M2 : z_Mem} {r r1 a b c : q_R} {TL CL : List Nat} {t s q z : Nat} {d : Int} {f g : Nat → Int32}
theorem q_a46 {x2 x3 : Int32} : qF_arrivesAtServer_46 x2 x3 r = (if r.1 1562 = 3 then qF_answers x3 9 0 r else if x2 = 3 then (if r.1 1562 = 1 then qF_answers x3 8 0 r else if x2 = 4 then uf r 1562 2 else r) else if x2 = 4 then uf r 1562 2 else r) := by rw [qE_arrivesAtServer_46]; rfl
theorem jSV_77 {j : Nat} {v : Int32} (V : jSV d r) : jSV d (ua r 77 j v) := by
  obtain ⟨⟨v1, v2, v3⟩, v4, v5, v6, v7, v8, v9, v10⟩ := V
  refine ⟨⟨?_, v2, ?_⟩, v4, v5, v6, ?_, v8, v9, ?_⟩
  · rw [ua_n (by decide)]; exact v1
  · rw [ua_n (by decide)]; exact v3
  · rw [ua_n (by decide)]; exact v7
  · rw [ua_n (by decide)]; exact v10
theorem jSV_1575 {v : Int32} (V : jSV d r) : jSV d (uf r 1575 v) := by
  have w : ∀ g, g ≠ 1575 → (uf r 1575 v).1 g = r.1 g := fun g a => uf_n a
  obtain ⟨⟨v1, v2, v3⟩, v4, v5, v6, v7, v8, v9, v10⟩ := V
  refine ⟨⟨v1, ?_, ?_⟩, ?_, ?_, ?_, ?_, ?_, ?_, ?_⟩
  · rw [w _ (by decide)]; exact v2
  · rw [w _ (by decide)]; exact v3
  · rw [w _ (by decide)]; exact v4
  · rw [w _ (by decide)]; exact v5
  · rw [w _ (by decide)]; exact v6
  · rw [w _ (by decide)]; exact v7
  · rw [w _ (by decide)]; exact v8
  · rw [w _ (by decide)]; exact v9
  · rw [w _ (by decide)]; exact v10
theorem rI_1575 (I : rf_I t s q z r.1 r.2) {v : Int32} (h0 : -1 ≤ v.toInt) (h1 : v.toInt ≤ 1) : rf_I t s q z (uf r 1575 v).1 (uf r 1575 v).2 := by
  obtain ⟨c1, c2, c3, c4, c5, c6, c7, c8, c9, c10, c11, c12⟩ := I
  have w : ∀ k, k ≠ 1575 → (uf r 1575 v).1 k = r.1 k := fun k hk => uf_n hk
  refine ⟨c1, fun tr htr => ?_, c3, c4.congr (fun _ _ => rfl) (fun y hy => w y (by revert hy; revert y; decide)), c5, c6.congr (fun _ _ => rfl) (fun y hy => w y (by revert hy; revert y; decide)), c7, c8.congr (fun _ _ => rfl) (fun y hy => w y (by revert hy; revert y; decide)), c9.congr (fun y hy => w y (by revert hy; revert y; decide)), c10, c11.congr (fun _ _ => rfl) (fun y hy => w y (by revert hy; revert y; decide)), c12.congr (fun _ _ => rfl) (fun y hy => w y (by revert hy; revert y; decide))⟩
  have hC := c2 tr htr
  by_cases hc : tr.1 = 1575
  · have : tr = (1575, -1, 1) := (show ∀ tr, tr ∈ rf_RF → tr.1 = 1575 → tr = (1575, -1, 1) from by decide) tr htr hc
    subst this
    show -1 ≤ ((uf r 1575 v).1 1575).toInt ∧ ((uf r 1575 v).1 1575).toInt ≤ 1
    rw [uf_e]; exact ⟨h0, h1⟩
  · rw [w _ hc]; exact hC
theorem j_hearS (J : JJ n M r TL (pC d r)) (I : rf_I t s q z r.1 r.2) (V : jSV d r) {m th : Nat} (hm : j_mS n M r m th) (hth : th < 1300) {p : Nat} (hp : p < 2) (h54 : r.2 54 th = nI p) (hR : r.2 52 th = 2 → r.2 71 (jN (r.2 53 th)) = nI p) (hC : r.2 52 th = 4 → ¬ r.1 1562 = 0) (hS : r.1 1562 = 0 ∨ r.1 1562 = 1 ∨ r.1 1562 = 2 ∨ r.1 1562 = 3) : JJ n (cF_X8_hear (n + 28) (some m) M) (qF_arrivesAtServer (nI th) r) TL (pC d (qF_arrivesAtServer (nI th) r)) := by
  have et : (nI th).toNatClampNeg = th := jI_N (by omega)
  have h4 := ri_pk I
  obtain ⟨m0, m1, m5, mk⟩ := hm
  have e53 := ri_A I (x := 53) (lo := 0) (hi := 399) (by decide) th
  have n53 := jN_toInt e53.1
  have i53 := jI_jN e53.1
  have hp5 : z_fi M 513 m = nI p := m5.trans h54
  have V5 := V.2.2.1
  -- the reference
  have eA : qF_arrivesAtServer (nI th) r = (if r.2 52 th = 1 then qF_hears (nI p) (r.2 53 th) r else if r.2 52 th = 2 then qF_arrivesAtServer_46 (r.2 52 th) (nI p) (qF_takes (r.2 53 th) r) else qF_arrivesAtServer_46 (r.2 52 th) (nI p) r) := by
    rw [qE_arrivesAtServer, et, h54]; rfl
  rw [eA]
  -- the class, behind the fate of data
  have c15 : ∀ N : z_Mem, z_fi N 1026 (n + 28) = r.1 1562 → z_fi N 512 m = z_fi M 512 m → cF_X8_hear_15 (n + 28) (some m) N = (if r.1 1562 = 2 then N else if z_fi M 512 m = 0 then cF_X8_hearHello (n + 28) (some m) N else if r.1 1562 = 3 then (q_st (z_new N 5 8) (fun (M_14 : z_Mem) => (q_st (cF_X4_init (z_sz N) 8 M_14) (fun (M_15 : z_Mem) => (q_st (Option.getD (z_fr N 1024 (n + 28)) 0) (fun (a17 : Nat) => (q_st (cF_X5_putToClient a17 (z_fi N 513 m) (some (z_sz N)) M_15) (fun (M_16 : z_Mem) => M_16)))))))) else if r.1 1562 = 1 then cF_X8_hearWhenEstablished (n + 28) (some m) N else N) := fun N h1 h2 => by
    rw [cE_X8_hear_15, h1]
    by_cases c2 : r.1 1562 = 2
    · rw [if_pos c2, if_pos c2]
    · rw [if_neg c2, if_neg c2]
      refine (q_ste (b := m) rfl).trans ?_
      rw [h2]
      rfl
  have hB : cF_X8_hear (n + 28) (some m) M = q_op (z_fr M 515 m) (cF_X8_hear_15 (n + 28) (some m) M) (fun _ => q_st (Option.getD (z_fr M 515 m) 0) (fun (a23 : Nat) => q_st (z_sfi M 779 a23 2) (fun (M_24 : z_Mem) => cF_X8_hear_15 (n + 28) (some m) M_24))) := by rw [cE_X8_hear]; rfl
  rw [hB]
  have w1026 := js_1026_28 J
  rcases mk with ⟨s1, k1, k2, k3, k4⟩ | ⟨s2, k1, k2, k3⟩ | ⟨s3, k1, k2⟩ | ⟨s4, k1, k2⟩
  · -- HELLO
    rw [q_opn k2, c15 M w1026 rfl, if_pos s1]
    by_cases c2 : r.1 1562 = 2
    · rw [if_pos c2]
      have : qF_hears (nI p) (r.2 53 th) r = r := by
        rw [qE_hears]
        split
        · rw [qE_hears_12]; exact (q_ste rfl).trans (if_pos c2)
        · rw [qE_hears_12]; exact (q_ste rfl).trans (if_pos c2)
      rw [this]; exact J
    · rw [if_neg c2, if_pos k1]
      have h21 := I.2.2.2.2.2.2.2.2.2.1 th s1
      exact j_hello J V hp e53.1 h21 hp5 m1 m0 k3 k4 c2
  · -- DATA
    obtain ⟨pk, g1, g2, g3, g4, g5⟩ := J.pkt k2
    have kd : z_fr M 515 m = some pk := k3.trans g1
    rw [q_ops kd, kd, if_neg (by rw [s2]; decide), if_pos s2]
    refine JJ.st (fun a23 e23 => ?_)
    have e23 : a23 = pk := e23
    subst e23
    refine JJ.st (fun M24 e24 => ?_)
    have J24 : JJ n M24 (ua r 77 (jN (r.2 53 th)) 2) TL (pC d r) := by rw [e24]; exact (J.ff (a := a23) (v := 2)).ra (by decide)
    have f24 : ∀ k b, k ≠ 779 → z_fi M24 k b = z_fi M k b := fun k b h => by rw [e24, zq_fi_sfi, if_neg h]
    obtain ⟨tk1, tk2⟩ := q_takesF (i := jN (r.2 53 th)) I (by omega) V5.1 V5.2
    rw [i53] at tk1 tk2
    have e1562 : (qF_takes (r.2 53 th) r).1 1562 = r.1 1562 := tk2.1 1562 (by decide)
    have n3 : ¬ (2 : Int32) = 3 := by decide
    have n4 : ¬ (2 : Int32) = 4 := by decide
    have nk : ¬ z_fi M 512 m = 0 := by rw [k1]; decide
    rw [c15 M24 ((f24 _ _ (by decide)).trans w1026) (f24 _ _ (by decide)), s2, q_a46, e1562, if_neg n3, if_neg n4, if_neg nk]
    have pC77 : pC d (ua r 77 (jN (r.2 53 th)) 2) = pC d r := pC_ua (by decide)
    by_cases c2 : r.1 1562 = 2
    · rw [if_pos c2, if_neg (by rw [c2]; decide), tk1, if_neg (by rw [c2]; decide), pC77]; exact J24
    · rw [if_neg c2]
      by_cases c3 : r.1 1562 = 3
      · rw [if_pos c3, if_pos c3, tk1, if_neg (by rw [c3]; decide), f24 _ _ (by decide), hp5]
        rw [← pC77] at J24
        exact j_say J24 (jSV_77 V) hp (Or.inr (Or.inr ⟨rfl, rfl⟩))
      · rw [if_neg c3, if_neg c3, tk1]
        by_cases c1 : r.1 1562 = 1
        · rw [if_pos c1, if_pos c1, cE_X8_hearWhenEstablished]
          refine JJ.st (fun a1 e1 => ?_)
          have e1 : a1 = m := e1
          subst e1
          have fd : z_fr M24 515 a1 = some a23 := by rw [e24]; exact kd
          rw [f24 _ _ (by decide), k1, if_neg (by decide), if_neg (by decide), q_ops fd, f24 _ _ (by decide), hp5]
          refine JJ.st (fun M9 e9 => JJ.st (fun M11 e11 => ?_))
          have J9 := J24.sf (j := 1575) e9 (by decide)
          have fd9 : z_fr M9 515 a1 = some a23 := by rw [e9]; exact fd
          rw [e11, fd9, hR s2]
          have hpC : pC d (uf (ua r 77 (jN (r.2 53 th)) 2) 1575 (nI p)) = pC d r := (pC_uf (by decide)).trans pC77
          rw [← hpC] at J9
          have ar9 : z_ar M9 = z_ar M := by rw [e9, e24]; rfl
          refine j_hearData J9 (rI_1575 (rI_a I (by decide)) (by rw [jI_t (by omega)]; omega) (by rw [jI_t (by omega)]; omega)) (jSV_1575 (jSV_77 V)) ?_ (by rw [ar9]; exact g1) ?_ hp uf_e
          · exact k2
          · exact c1
        · rw [if_neg c1, if_neg c1, pC77]; exact J24
  · -- CHALLENGE
    have n1 : ¬ (3 : Int32) = 1 := by decide
    have n2 : ¬ (3 : Int32) = 2 := by decide
    have n4 : ¬ (3 : Int32) = 4 := by decide
    have nk : ¬ z_fi M 512 m = 0 := by rw [k1]; decide
    rw [q_opn k2, c15 M w1026 rfl, s3, if_neg n1, if_neg n2, q_a46, if_pos (show (3 : Int32) = 3 from rfl), if_neg n4, if_neg nk, hp5]
    by_cases c2 : r.1 1562 = 2
    · rw [if_pos c2, if_neg (by rw [c2]; decide), if_neg (by rw [c2]; decide)]; exact J
    · rw [if_neg c2]
      by_cases c3 : r.1 1562 = 3
      · rw [if_pos c3, if_pos c3]; exact j_say J V hp (Or.inr (Or.inr ⟨rfl, rfl⟩))
      · rw [if_neg c3, if_neg c3]
        by_cases c1 : r.1 1562 = 1
        · rw [if_pos c1, if_pos c1, cE_X8_hearWhenEstablished]
          refine JJ.st (fun a1 e1 => ?_)
          have e1 : a1 = m := e1
          subst e1
          rw [k1, if_pos rfl, hp5]
          exact j_say J V hp (Or.inr (Or.inl ⟨rfl, rfl⟩))
        · rw [if_neg c1, if_neg c1]; exact J
  · -- CLOSE
    have n1 : ¬ (4 : Int32) = 1 := by decide
    have n2 : ¬ (4 : Int32) = 2 := by decide
    have n3 : ¬ (4 : Int32) = 3 := by decide
    have nk : ¬ z_fi M 512 m = 0 := by rw [k1]; decide
    rw [q_opn k2, c15 M w1026 rfl, s4, if_neg n1, if_neg n2, q_a46, if_neg n3, if_pos (show (4 : Int32) = 4 from rfl), if_neg nk, hp5]
    have hpC : pC d (uf r 1562 2) = pC d r := pC_uf (by decide)
    by_cases c2 : r.1 1562 = 2
    · rw [if_pos c2, if_neg (by rw [c2]; decide), uf_id c2]; exact J
    · rw [if_neg c2]
      by_cases c3 : r.1 1562 = 3
      · rw [if_pos c3, if_pos c3]; exact j_say J V hp (Or.inr (Or.inr ⟨rfl, rfl⟩))
      · rw [if_neg c3, if_neg c3]
        by_cases c1 : r.1 1562 = 1
        · rw [if_pos c1, cE_X8_hearWhenEstablished, hpC]
          refine JJ.st (fun a1 e1 => ?_)
          have e1 : a1 = m := e1
          subst e1
          rw [k1, if_neg (by decide), if_pos rfl]
          exact JJ.st (fun M12 e12 => by rw [e12]; exact J.shut (by rw [c1]; decide))
        · exfalso
          rcases hS with h | h | h | h
          · exact hC s4 h
          · exact c1 h
          · exact c2 h
          · exact c3 h
end JHU
