/-! ===== THE LIKENESS: the server hears a message ===== -/
section JHR
variable {n : Nat} {M M0 M1 M2 : z_Mem} {r r1 : q_R} {TL CL : List Nat} {t s q z : Nat} {d : Int} {f g : Nat → Int32}
theorem uf_id {k : Nat} {v : Int32} (h : r.1 k = v) : uf r k v = r := by
  refine Prod.ext (funext fun y => ?_) rfl
  rw [uf1]
  by_cases c : y = k
  · rw [if_pos c, c, h]
  · rw [if_neg c]
theorem pC_uf {k : Nat} {v : Int32} (h : k ≠ 1559) : pC d (uf r k v) = pC d r := pC_congr (uf_n (Ne.symm h)) (fun _ _ => rfl)
theorem pC_ua {x j : Nat} {v : Int32} (h : x ≠ 60) : pC d (ua r x j v) = pC d r := pC_congr rfl (fun _ _ => by rw [ua_n (Ne.symm h)])
theorem X4F {a : Nat} {kd : Int32} : cF_X4_init a kd M = z_sfi (z_sfi M 517 a (-1)) 512 a kd := by rw [cE_X4_init]; rfl
theorem j_newm (S : y_S n M) (kd : Int32) : jE n M (z_sfi (z_sfi (z_new M 5 8) 517 (z_sz M) (-1)) 512 (z_sz M) kd) ∧ z_sz (z_sfi (z_sfi (z_new M 5 8) 517 (z_sz M) (-1)) 512 (z_sz M) kd) = z_sz M + 1 ∧ z_fi (z_sfi (z_sfi (z_new M 5 8) 517 (z_sz M) (-1)) 512 (z_sz M) kd) 512 (z_sz M) = kd ∧ z_fr (z_sfi (z_sfi (z_new M 5 8) 517 (z_sz M) (-1)) 512 (z_sz M) kd) 516 (z_sz M) = none ∧ z_fr (z_sfi (z_sfi (z_new M 5 8) 517 (z_sz M) (-1)) 512 (z_sz M) kd) 515 (z_sz M) = none ∧ z_fi (z_sfi (z_sfi (z_new M 5 8) 517 (z_sz M) (-1)) 512 (z_sz M) kd) 514 (z_sz M) = 0 ∧ z_fi (z_sfi (z_sfi (z_new M 5 8) 517 (z_sz M) (-1)) 512 (z_sz M) kd) 518 (z_sz M) = 0 := by
  refine ⟨jE_sfi (jE_sfi (jE_new S) S (Nat.le_refl _) rfl) S (Nat.le_refl _) rfl, rfl, ?_, ?_, ?_, ?_, ?_⟩
  · rw [zq_fi_sfi, if_pos rfl, if_pos rfl]
  · rw [zq_fr_sfi, zq_fr_sfi, zq_fr_new, if_pos rfl]
  · rw [zq_fr_sfi, zq_fr_sfi, zq_fr_new, if_pos rfl]
  · rw [zq_fi_sfi, if_neg (by decide), zq_fi_sfi, if_neg (by decide), zq_fi_new, if_pos rfl]
  · rw [zq_fi_sfi, if_neg (by decide), zq_fi_sfi, if_neg (by decide), zq_fi_new, if_pos rfl]
theorem j_say (J : JJ n M r TL (pC d r)) (V : jSV d r) {p : Nat} (hp : p < 2) {kd sI i : Int32} (hk : (kd = 1 ∧ sI = 5) ∨ (kd = 6 ∧ sI = 8) ∨ (kd = 8 ∧ sI = 9)) : JJ n (q_st (z_new M 5 8) (fun (M_14 : z_Mem) => (q_st (cF_X4_init (z_sz M) kd M_14) (fun (M_15 : z_Mem) => (q_st (Option.getD (z_fr M 1024 (n + 28)) 0) (fun (a17 : Nat) => (q_st (cF_X5_putToClient a17 (nI p) (some (z_sz M)) M_15) (fun (M_16 : z_Mem) => M_16)))))))) (qF_answers (nI p) sI i r) TL (pC d (qF_answers (nI p) sI i r)) := by
  obtain ⟨v1, v2, v3, v4, v5, v6, v7, v8⟩ := V
  obtain ⟨g1, g2, g3, g4, -, -, -⟩ := j_newm J.1 kd
  rw [s_1024_28 J.1]
  refine JJ.st (fun M14 e14 => JJ.st (fun M15 e15 => JJ.st (fun a17 e17 => ?_)))
  have e17 : a17 = n + 1 := e17
  subst e17
  refine JJ.st (fun M16 e16 => ?_)
  rw [e16, e15, e14, X4F]
  refine j_toC J g1 hp (Nat.le_refl _) (by omega) ?_ v4.1 v4.2 (v5 p hp)
  rcases hk with ⟨h1, h2⟩ | ⟨h1, h2⟩ | ⟨h1, h2⟩
  · exact Or.inl ⟨h2, g3.trans h1, g4⟩
  · exact Or.inr (Or.inr (Or.inr (Or.inl ⟨h2, g3.trans h1, g4⟩)))
  · exact Or.inr (Or.inr (Or.inr (Or.inr ⟨h2, g3.trans h1, g4⟩)))
theorem jSV_uf {k : Nat} {v : Int32} (V : jSV d r) (h : k = 1562 ∨ k = 1564) : jSV d (uf r k v) := by
  have w : ∀ g, g ≠ 1562 → g ≠ 1564 → (uf r k v).1 g = r.1 g := fun g a b => uf_n (by omega)
  obtain ⟨⟨v1, v2, v3⟩, v4, v5, v6, v7, v8, v9, v10⟩ := V
  refine ⟨⟨v1, ?_, ?_⟩, ?_, ?_, ?_, ?_, ?_, ?_, ?_⟩
  · rw [w _ (by decide) (by decide)]; exact v2
  · rw [w _ (by decide) (by decide)]; exact v3
  · rw [w _ (by decide) (by decide)]; exact v4
  · rw [w _ (by decide) (by decide)]; exact v5
  · rw [w _ (by decide) (by decide)]; exact v6
  · rw [w _ (by decide) (by decide)]; exact v7
  · rw [w _ (by decide) (by decide)]; exact v8
  · rw [w _ (by decide) (by decide)]; exact v9
  · rw [w _ (by decide) (by decide)]; exact v10
theorem jSV_62 {j : Nat} {v : Int32} (V : jSV d r) : jSV d (ua r 62 j v) := by
  obtain ⟨⟨v1, v2, v3⟩, v4, v5, v6, v7, v8, v9, v10⟩ := V
  refine ⟨⟨?_, v2, ?_⟩, v4, v5, v6, ?_, v8, v9, ?_⟩
  · rw [ua_n (by decide)]; exact v1
  · rw [ua_n (by decide)]; exact v3
  · rw [ua_n (by decide)]; exact v7
  · rw [ua_n (by decide)]; exact v10
/-- ACCEPT -/
theorem j_accept (J : JJ n M r TL (pC d r)) (V : jSV d r) {p m : Nat} (hp : p < 2) (h5 : z_fi M 513 m = nI p) (hm : m < z_sz M) (hm0 : n + 108 ≤ m) (h62 : ¬ (r.1 1562 = 0 ∨ r.1 1562 = 3)) : JJ n (cF_X8_hearHello_59 (n + 28) (some m) M) (qF_hears_124 (nI p) r) TL (pC d (qF_hears_124 (nI p) r)) := by
  obtain ⟨v1, v2, v3, v4, v5, v6, v7, v8⟩ := V
  obtain ⟨g1, g2, g3, g4, -, -, -⟩ := j_newm J.1 2
  have key : ∀ i : Int32, (r.1 1564 = 0 ↔ ¬ i = 1) → JJ n (cF_X8_hearHello_59 (n + 28) (some m) M) (qF_answers (nI p) 6 i r) TL (pC d (qF_answers (nI p) 6 i r)) := fun i hi => by
    rw [cE_X8_hearHello_59]
    refine JJ.st (fun M2 e2 => JJ.st (fun M3 e3 => ?_))
    rw [e2, X4F] at e3
    have E3 : jE n M M3 := by rw [e3]; exact g1
    have J3 := J.ext E3
    rw [js_1028_28 J3 h62]
    refine JJ.st (fun M5 e5 => JJ.st (fun a7 e7 => ?_))
    have e7 : a7 = m := e7
    subst e7
    have E5 := jE_sfi E3 J.1 (Nat.le_refl _) e5
    have S5 := E5.2.1
    rw [s_1024_28 S5]
    refine JJ.st (fun a10 e10 => ?_)
    have e10 : a10 = n + 1 := e10
    subst e10
    refine JJ.st (fun M9 e9 => ?_)
    rw [e9, (E5.1.2 a7 hm0 hm).1, h5]
    refine j_toC J E5 hp (Nat.le_refl _) ?_ (Or.inr (Or.inl ⟨rfl, ?_, ?_, ?_⟩)) v4.1 v4.2 (v5 p hp)
    · rw [e5]; show z_sz M < z_sz M3; rw [e3]; omega
    · rw [e5, zq_fi_sfi, if_neg (by decide), e3]; exact g3
    · rw [e5, zq_fr_sfi, e3]; exact g4
    · rw [e5, zq_fi_sfi, if_pos rfl, if_pos rfl]; exact hi
  rw [qE_hears_124]
  by_cases c : r.1 1564 = 0
  · rw [if_pos c]; exact key 0 ⟨fun _ => by decide, fun _ => c⟩
  · rw [if_neg c]; exact key 1 ⟨fun h => absurd h c, fun h => absurd rfl h⟩
theorem j_hello (J : JJ n M r TL (pC d r)) (V : jSV d r) {p m : Nat} (hp : p < 2) {i : Int32} (hi0 : 0 ≤ i.toInt) (hi1 : i.toInt ≤ 21) (h5 : z_fi M 513 m = nI p) (hm : m < z_sz M) (hm0 : n + 108 ≤ m) (h17 : z_fi M 517 m = i / 2 - 1) (h18 : z_fi M 518 m = 0 ↔ ¬ i - i / 2 * 2 = 1) (hs2 : ¬ r.1 1562 = 2) : JJ n (cF_X8_hearHello (n + 28) (some m) M) (qF_hears (nI p) i r) TL (pC d (qF_hears (nI p) i r)) := by
  have ed : (i / 2).toInt = i.toInt / 2 := i_divE rfl (show (2 : Int32).toInt = 2 from rfl) hi0 (by omega)
  have et : (i / 2 - 1).toInt = i.toInt / 2 - 1 := i_subE ed (show (1 : Int32).toInt = 1 from rfl) (by omega) (by omega)
  -- the server is established now
  have h80 : JJ n (cF_X8_hearHello_42 (n + 28) (some m) M) (qF_hears_80 (nI p) (i / 2 - 1) r) TL (pC d (qF_hears_80 (nI p) (i / 2 - 1) r)) := by
    rw [cE_X8_hearHello_42, qE_hears_80]
    refine JJ.crp (r := if (i / 2 - 1 : Int32) < 0 then qF_hears_105 (nI p) (i / 2 - 1) (uf r 1562 1) else if r.2 62 (jN (i / 2 - 1)) = 0 then qF_hears_106 (nI p) (i / 2 - 1) 1 (uf r 1562 1) else qF_hears_105 (nI p) (i / 2 - 1) (uf r 1562 1)) rfl ?_
    refine JJ.st (fun M11 e11 => JJ.st (fun a12 e12 => ?_))
    have e12 : a12 = m := e12
    subst e12
    have S11 : y_S n M11 := by rw [e11]; exact S_sfi J.1
    have l62 : ∀ x : Int32, ¬ ((uf (uf r 1562 1) 1564 x).1 1562 = 0 ∨ (uf (uf r 1562 1) 1564 x).1 1562 = 3) := fun x => by
      show ¬ ((1 : Int32) = 0 ∨ (1 : Int32) = 3)
      decide
    have f17 : z_fi M11 517 a12 = i / 2 - 1 := by rw [e11, zq_fi_sfi, if_neg (by decide)]; exact h17
    have f13 : z_fi M11 513 a12 = nI p := by rw [e11, zq_fi_sfi, if_neg (by decide)]; exact h5
    have z11 : a12 < z_sz M11 := by rw [e11]; exact hm
    rw [f17, cE_X8_useTicket, s_1029_28 S11]
    -- without early data
    have no : JJ n (q_st2 ((0 : Int32), M11) (fun (x_14 : Int32) (M_14 : z_Mem) => (q_st (z_sfi M_14 1028 (n + 28) x_14) (fun (M_15 : z_Mem) => (cF_X8_hearHello_59 (n + 28) (some a12) M_15))))) (qF_hears_105 (nI p) (i / 2 - 1) (uf r 1562 1)) TL (pC d (qF_hears_105 (nI p) (i / 2 - 1) (uf r 1562 1))) := by
      rw [qE_hears_105, qE_hears_106]
      refine JJ.crp (r := qF_hears_124 (nI p) (uf (uf r 1562 1) 1564 0)) ((q_ste rfl).trans (if_pos uf_e)) ?_
      refine JJ.st2 (x := 0) (M := M11) rfl (JJ.st (fun M15 e15 => ?_))
      have J15 : JJ n M15 (uf (uf r 1562 1) 1564 0) TL (pC d r) := by rw [e15, e11]; exact J.est
      have hpC : pC d (uf (uf r 1562 1) 1564 0) = pC d r := (pC_uf (by decide)).trans (pC_uf (by decide))
      rw [← hpC] at J15
      exact j_accept J15 (jSV_uf (jSV_uf V (Or.inl rfl)) (Or.inr rfl)) hp (by rw [e15, zq_fi_sfi, if_neg (by decide)]; exact f13) (by rw [e15]; exact z11) hm0 (l62 0)
    by_cases c : (i / 2 - 1 : Int32) < 0
    · rw [if_pos c, if_pos c]; exact no
    · rw [if_neg c, if_neg c]
      have c' := i_nlt c et (show (0 : Int32).toInt = 0 from rfl)
      rw [if_neg (fun h => by have := i_le h (show (10 : Int32).toInt = 10 from rfl) et; omega)]
      have en := jN_toInt (x := i / 2 - 1) (by omega)
      have hj : jN (i / 2 - 1) < 10 := by omega
      have st : ∀ (X : Int32 × z_Mem), (q_st (Option.getD (some (n + 29)) 0) fun a4 => if z_ai M11 a4 (i / 2 - 1).toNatClampNeg = 0 then q_st (Option.getD (some (n + 29)) 0) fun a8 => q_st (z_sai M11 a8 (i / 2 - 1).toNatClampNeg 1) fun M_10 => ((1 : Int32), M_10) else (0, M11)) = (if r.2 62 (jN (i / 2 - 1)) = 0 then (1, z_sai M11 (n + 29) (jN (i / 2 - 1)) 1) else (0, M11)) := fun _ => by
        refine (q_ste (b := n + 29) rfl).trans ?_
        have e29 : z_ai M11 (n + 29) (jN (i / 2 - 1)) = r.2 62 (jN (i / 2 - 1)) := by rw [e11]; show z_ai M (n + 29) (jN (i / 2 - 1)) = _; rw [ja_29 J hj, Nat.zero_add]
        rw [show z_ai M11 (n + 29) (i / 2 - 1).toNatClampNeg = _ from e29]
        rfl
      rw [st (0, M11)]
      by_cases c2 : r.2 62 (jN (i / 2 - 1)) = 0
      · rw [if_pos c2, if_pos c2, qE_hears_106]
        refine JJ.crp (r := qF_hears_124 (nI p) (uf (ua (uf r 1562 1) 62 (jN (i / 2 - 1)) 1) 1564 1)) ((q_ste rfl).trans (if_neg (by rw [uf_e]; decide))) ?_
        refine JJ.st2 (x := 1) (M := z_sai M11 (n + 29) (jN (i / 2 - 1)) 1) rfl (JJ.st (fun M15 e15 => ?_))
        have J14 := J.srow (M1 := z_sai M (n + 29) (jN (i / 2 - 1)) 1) (x := 62) (v := 1) (Or.inl ⟨rfl, rfl, hj⟩) rfl
        have J15 : JJ n M15 (uf (ua (uf r 1562 1) 62 (jN (i / 2 - 1)) 1) 1564 1) TL (pC d r) := by rw [e15, e11]; exact J14.est
        have hpC : pC d (uf (ua (uf r 1562 1) 62 (jN (i / 2 - 1)) 1) 1564 1) = pC d r := (pC_uf (by decide)).trans ((pC_ua (by decide)).trans (pC_uf (by decide)))
        rw [← hpC] at J15
        exact j_accept J15 (jSV_uf (jSV_62 (jSV_uf V (Or.inl rfl))) (Or.inr rfl)) hp (by rw [e15, zq_fi_sfi, if_neg (by decide)]; exact f13) (by rw [e15]; exact z11) hm0 (l62 1)
      · rw [if_neg c2, if_neg c2]; exact no
  have h12 : ∀ t0 : Int32, (z_fi M 518 m = 0 ↔ t0 = 0) → JJ n (cF_X8_hearHello (n + 28) (some m) M) (qF_hears_12 (nI p) i t0 r) TL (pC d (qF_hears_12 (nI p) i t0 r)) := fun t0 ht => by
    rw [cE_X8_hearHello, qE_hears_12, js_1026_28 J, js_1027_28 J]
    refine JJ.crp (r := if r.1 1562 = 1 then qF_hears_124 (nI p) r else if r.1 1563 = 0 then qF_hears_80 (nI p) (i / 2 - 1) r else if t0 = 0 then qF_answers (nI p) 5 0 r else qF_hears_80 (nI p) (i / 2 - 1) r) ((q_ste rfl).trans (if_neg hs2)) ?_
    by_cases c : r.1 1562 = 1
    · rw [if_pos c, if_pos c]; exact j_accept J V hp h5 hm hm0 (by rw [c]; decide)
    · rw [if_neg c, if_neg c]
      by_cases c2 : r.1 1563 = 0
      · rw [if_pos c2, if_pos c2]; exact h80
      · rw [if_neg c2, if_neg c2]
        refine JJ.st (fun a20 e20 => ?_)
        have e20 : a20 = m := e20
        subst e20
        by_cases c3 : t0 = 0
        · rw [if_pos (ht.mpr c3), if_pos c3, h5]
          exact j_say J V hp (Or.inl ⟨rfl, rfl⟩)
        · rw [if_neg (fun h => c3 (ht.mp h)), if_neg c3]; exact h80
  rw [qE_hears]
  by_cases c : i - i / 2 * 2 = 1
  · rw [if_pos c]; exact h12 1 ⟨fun h => absurd c (h18.mp h), fun h => absurd h (by decide)⟩
  · rw [if_neg c]; exact h12 0 ⟨fun _ => rfl, fun _ => h18.mpr c⟩
end JHR
