/-! ===== THE LIKENESS at the face: what is set ===== -/
section JF
variable {n : Nat} {M M0 M1 M2 : z_Mem} {r r1 r2 : q_R} {TL CL : List Nat} {p1 p2 p3 p4 p5 : Int32} {t s q z c w : Nat} {D : Int}
/-- the likeness, with the room apart -/
def jX (n c : Nat) (M : z_Mem) (r : q_R) : Prop := JJ n M r (pS ((r.1 1536).toInt + 1) r) (pC ((r.1 1536).toInt + 1) r) ∧ kP r ∧ nP 0 c 0 r ∧ nA 1 r
theorem jX_up (h : jX n c M r) (J1 : JJ n M1 r1 (pS ((r.1 1536).toInt + 1) r) (pC ((r.1 1536).toInt + 1) r)) (f36 : r1.1 1536 = r.1 1536) (f54 : r1.1 1554 = r.1 1554) (f59 : r1.1 1559 = r.1 1559) (f56 : r1.2 56 = r.2 56) (f60 : r1.2 60 = r.2 60) (K : kP r1) (N : nP 0 c 0 r1) (A : nA 1 r1) : jX n c M1 r1 := by
  refine ⟨?_, K, N, A⟩
  rw [f36, show pS ((r.1 1536).toInt + 1) r1 = pS ((r.1 1536).toInt + 1) r from pS_congr f54 (fun _ _ => by rw [f56]), show pC ((r.1 1536).toInt + 1) r1 = pC ((r.1 1536).toInt + 1) r from pC_congr f59 (fun _ _ => by rw [f60])]
  exact J1
theorem jX_fr {Fs Rs : List Nat} (F : q_fr Fs Rs r r1) (h : jX n c M r) (J1 : JJ n M1 r1 (pS ((r.1 1536).toInt + 1) r) (pC ((r.1 1536).toInt + 1) r)) (k1 : ∀ g, g ∈ kRF → g ∉ Fs) (k2 : ∀ x, x ∈ kRA → x ∉ Rs) (n1 : ∀ g, g ∈ nPF → g ∉ Fs) (n2 : ∀ x, x ∈ nPR → x ∉ Rs) (n3 : 91 ∉ Rs) (a1 : ∀ g, g ∈ [1562, 1574, 1575, 1536] → g ∉ Fs) (a2 : ∀ x, x ∈ [64, 65] → x ∉ Rs := by decide) : jX n c M1 r1 :=
  jX_up h J1 (F.1 _ (n1 1536 (by decide))) (F.1 _ (n1 1554 (by decide))) (F.1 _ (n1 1559 (by decide))) (F.2 _ (n2 56 (by decide))) (F.2 _ (n2 60 (by decide))) (kP_fr F k1 k2 h.2.1) (nP_fr F n1 n2 n3 h.2.2.1) (nA_fr F a1 h.2.2.2 a2)
theorem jX_c {c2 : Nat} (h : jX n c M r) (hc : c ≤ c2) : jX n c2 M r := ⟨h.1, h.2.1, nP_c1 h.2.2.1 hc, h.2.2.2⟩
theorem jX_ext (h : jX n c M r) (E : jE n M M1) : jX n c M1 r := ⟨h.1.ext E, h.2⟩
theorem jE_exc {k w : Nat} (S : y_S n M) : jE n M (z_exc M k w) := ⟨⟨Nat.le_add_right _ _, fun _ _ _ => ⟨fun _ => rfl, fun _ => rfl, fun _ => rfl⟩⟩, by
  obtain ⟨a1, a2, a3, a4⟩ := S
  exact ⟨a1, a2, a3, Nat.le_trans a4 (Nat.le_add_right _ _)⟩, fun _ _ _ => rfl, fun _ _ _ => rfl, fun _ _ => rfl⟩
theorem jE_sal {a j : Nat} {v : Int64} (S : y_S n M) : jE n M (z_sal M a j v) := ⟨⟨Nat.le_refl _, fun _ _ _ => ⟨fun _ => rfl, fun _ => rfl, fun _ => rfl⟩⟩, S, fun _ _ _ => rfl, fun _ _ _ => rfl, fun _ _ => rfl⟩
theorem jX_1630 (h : jX n c M r) {v : Int32} : jX n c M (uf r 1630 v) := jX_fr (q_fruf (Fs := [1630]) (Rs := []) (by decide) q_fr0) h (h.1.rf (by decide)) (by decide) (by decide) (by decide) (by decide) (by decide) (by decide)
theorem jX_exc {k w : Nat} (h : jX n c M r) {v : Int32} : jX n c (z_exc M k w) (uf r 1630 v) := jX_ext (jX_1630 h) (jE_exc h.1.1)
theorem u_l2 {p : Nat} (h : p < 2) : p = 0 ∨ p = 1 := by omega
theorem x_setPath (h : jX n c M r) (hp : 0 ≤ p1.toInt ∧ p1.toInt ≤ 1) (hR : rf_spR p2 p3 p4 p5) : jX n c (z_sfi (z_sfi (z_sfi (z_sfi M 384 (n + (2 + 2 * jN p1)) p2) 385 (n + (2 + 2 * jN p1)) p3) 386 (n + (2 + 2 * jN p1)) p4) 387 (n + (2 + 2 * jN p1)) p5) (qF_setPath p1 p2 p3 p4 p5 r) := by
  rw [q_setPath1 hp hR]
  have h0 := jX_1630 h (v := 0)
  generalize uf r 1630 0 = R at h0 ⊢
  have hl := (u_p hp).1
  generalize jN p1 = p at hl ⊢
  have J1 : JJ n (z_sfi (z_sfi (z_sfi (z_sfi M 384 (n + (2 + 2 * p)) p2) 385 (n + (2 + 2 * p)) p3) 386 (n + (2 + 2 * p)) p4) 387 (n + (2 + 2 * p)) p5) (ua (ua (ua (ua R 41 p p2) 42 p p3) 43 p p4) 44 p p5) (pS ((R.1 1536).toInt + 1) R) (pC ((R.1 1536).toInt + 1) R) := by
    rcases u_l2 hl with e | e
    · rw [e]
      exact (((h0.1.sa (x := 41) (j := 0) rfl (by decide) (by decide)).sa (x := 42) (j := 0) rfl (by decide) (by decide)).sa (x := 43) (j := 0) rfl (by decide) (by decide)).sa (x := 44) (j := 0) rfl (by decide) (by decide)
    · rw [e]
      exact (((h0.1.sa (x := 41) (j := 1) rfl (by decide) (by decide)).sa (x := 42) (j := 1) rfl (by decide) (by decide)).sa (x := 43) (j := 1) rfl (by decide) (by decide)).sa (x := 44) (j := 1) rfl (by decide) (by decide)
  have F : q_fr [] [41, 42, 43, 44] R (ua (ua (ua (ua R 41 p p2) 42 p p3) 43 p p4) 44 p p5) := q_frua (by decide) (q_frua (by decide) (q_frua (by decide) (q_frua (by decide) q_fr0)))
  have v41 : ∀ i, (ua (ua (ua (ua R 41 p p2) 42 p p3) 43 p p4) 44 p p5).2 41 i = if i = p then p2 else R.2 41 i := fun i => by rw [ua_n (by decide), ua_n (by decide), ua_n (by decide), ua2, if_pos rfl]
  have v42 : ∀ i, (ua (ua (ua (ua R 41 p p2) 42 p p3) 43 p p4) 44 p p5).2 42 i = if i = p then p3 else R.2 42 i := fun i => by rw [ua_n (by decide), ua_n (by decide), ua2, if_pos rfl, ua_n (by decide)]
  generalize ua (ua (ua (ua R 41 p p2) 42 p p3) 43 p p4) 44 p p5 = R1 at J1 F v41 v42 ⊢
  obtain ⟨b2, b3, b4, b5⟩ := hR
  refine jX_up h0 J1 (F.1 _ (by decide)) (F.1 _ (by decide)) (F.1 _ (by decide)) (F.2 _ (by decide)) (F.2 _ (by decide)) (kP_fr F (by decide) (by decide) h0.2.1) ?_ (nA_fr F (by decide) h0.2.2.2)
  obtain ⟨q1, g1, d1, s1, c1, ⟨⟨y1, y2, y3, y4, y5⟩, y6⟩⟩ := h0.2.2.1
  refine ⟨nQ_c (F.2 51 (by decide)) (F.2 50 (by decide)) (F.1 1551 (by decide)) (F.2 54 (by decide)) q1, nH_c (fun g hg => F.1 g List.not_mem_nil) (fun x hx => F.2 x (by revert hx; revert x; decide)) g1, nD_c (fun g hg => F.1 g List.not_mem_nil) (fun x hx => F.2 x (by revert hx; revert x; decide)) d1, nS_c (fun g hg => F.1 g List.not_mem_nil) (fun x hx => F.2 x (by revert hx; revert x; decide)) (fun hc => by rw [F.2 91 (by decide)]; exact s1.2.2.2.2.1 hc) s1, nC_c (fun g hg => F.1 g List.not_mem_nil) (F.2 56 (by decide)) c1, ⟨⟨fun i hi => ?_, fun i hi => ?_, by rw [F.2 49 (by decide)]; exact y3, by rw [F.2 51 (by decide)]; exact y4, by rw [F.1 1536 List.not_mem_nil]; exact y5⟩, by rw [F.1 1584 List.not_mem_nil]; exact y6⟩⟩
  · rw [v41]
    by_cases e : i = p
    · rw [if_pos e]; exact b2
    · rw [if_neg e]; exact y1 i hi
  · rw [v42]
    by_cases e : i = p
    · rw [if_pos e]; exact b3
    · rw [if_neg e]; exact y2 i hi
theorem JJ.up (J : JJ n M r TL CL) {p : Nat} (hp : p < 2) {v x : Int32} (hv : v = 0 ↔ ¬ x = 0) : JJ n (z_sfi M 388 (n + (2 + 2 * p)) v) (ua r 45 p x) TL CL := by
  have en : ∀ {k a : Nat}, k ≠ 388 → z_fi (z_sfi M 388 (n + (2 + 2 * p)) v) k a = z_fi M k a := fun h1 => by rw [zq_fi_sfi, if_neg h1]
  have hu : ∀ y, y ≠ 45 → (ua r 45 p x).2 y = r.2 y := fun y hy => ua_n hy
  obtain ⟨S, js, ja, X, P, Q, T, C⟩ := J
  have H : hF n M (z_sfi M 388 (n + (2 + 2 * p)) v) := hF_sfi (by omega)
  have l2 : ∀ i, i < 2 → i = 0 ∨ i = 1 := fun i hi => by omega
  refine ⟨S_sfi S, js.congr (fun t ht => en (by revert ht; revert t; decide)) (fun t ht => ?_), ja.congr (fun _ _ _ _ => rfl) (fun t ht => hu _ (by revert ht; revert t; decide)), ?_, P.congr H rfl rfl (fun t ht => hu _ (by revert ht; revert t; decide)), fun i hi => (Q i hi).congr H.m rfl rfl (en (by decide)) rfl (by rw [hu 51 (by decide)]) (fun _ _ => by rw [hu 50 (by decide)]) (Nat.le_refl _) (fun y _ hy _ => by rw [hu y (by revert hy; revert y; decide)]), T.congr H.m rfl rfl (en (by decide)) rfl (Nat.le_refl _) (Nat.le_refl _) (fun y _ hy _ => by rw [hu y (by revert hy; revert y; decide)]) (fun y _ hy _ => by rw [hu y (by revert hy; revert y; decide)]), C.congr H.m rfl (en (by decide)) (Nat.le_refl _) (by rw [hu 61 (by decide)]; exact C.2.2.2.1) (Nat.le_refl _) (fun _ _ _ _ => by rw [hu 61 (by decide)]) (fun y _ hy _ => by rw [hu y (by revert hy; revert y; decide)])⟩
  · have h6 : t.2.2.1 ≠ 45 := by revert ht; revert t; decide
    unfold j_loc
    by_cases c : t.2.2.1 = 0
    · rw [if_pos c, if_pos c]; rfl
    · rw [if_neg c, if_neg c, hu _ h6]
  · have el : j_lost (ua r 45 p x) = j_lost r := by
      funext s' j
      unfold j_lost
      rw [hu 67 (by decide), hu 69 (by decide), hu 70 (by decide)]
    have ef : j_fl (ua r 45 p x) = j_fl r := by
      funext s' j
      unfold j_fl
      rw [hu 71 (by decide), hu 76 (by decide)]
    obtain ⟨y1, y2, y3, y4, y5, y6, y7, y8, y9, y10⟩ := X
    refine ⟨fun i hi => ?_, by rw [en (by decide)]; exact y2, by rw [en (by decide)]; exact y3, fun s' hs' => ?_, fun s' hs' => ?_, fun i hi => ?_, ?_, fun i hi => ?_, fun i hi h => ?_, by rw [en (by decide)]; exact y10⟩
    · rw [zq_fi_sfi, if_pos rfl, ua2, if_pos rfl]
      by_cases e : i = p
      · rw [if_pos (by omega), if_pos e]; exact hv
      · rw [if_neg (by omega), if_neg e]; exact y1 i hi
    · rw [en (by decide), el]; exact y4 s' hs'
    · rw [en (by decide), hu 64 (by decide)]; exact y5 s' hs'
    · rw [en (by decide), ef]; exact y6 i hi
    · rw [en (by decide), hu 76 (by decide)]; exact y7
    · rw [en (by decide), hu 99 (by decide)]; exact y8 i hi
    · rw [hu 100 (by decide)] at h
      rw [en (by decide), en (by decide), hu 103 (by decide), hu 104 (by decide)]; exact y9 i hi h
theorem x_setUp (h : jX n c M r) (hp : 0 ≤ p1.toInt ∧ p1.toInt ≤ 1) : jX n c (z_sfi M 388 (n + (2 + 2 * jN p1)) p2) (qF_setUp p1 p2 r).2 := by
  rw [q_setUp1 hp]
  have h0 := jX_1630 h (v := 0)
  generalize uf r 1630 0 = R at h0 ⊢
  refine jX_fr (q_frua (Fs := []) (Rs := [45]) (by decide) q_fr0) h0 (h0.1.up (u_p hp).1 ?_) (by decide) (by decide) (by decide) (by decide) (by decide) (by decide)
  by_cases e : p2 = 0
  · rw [if_pos e]; exact ⟨fun _ => by decide, fun _ => e⟩
  · rw [if_neg e]; exact ⟨fun x => absurd x e, fun x => absurd rfl x⟩
theorem x_lose (h : jX n c M r) (hp : 0 ≤ p1.toInt ∧ p1.toInt ≤ 1) (h3 : 0 ≤ p3.toInt ∧ p3.toInt ≤ 20) : jX n c (z_sfi M (if p2 = 0 then 390 else 389) (n + (2 + 2 * jN p1)) p3) (qF_lose p1 p2 p3 r) := by
  rw [q_lose1 hp h3]
  have h0 := jX_1630 h (v := 0)
  generalize uf r 1630 0 = R at h0 ⊢
  have hl := (u_p hp).1
  generalize jN p1 = p at hl ⊢
  by_cases e : p2 = 0
  · rw [if_pos e, if_pos e]
    refine jX_fr (q_frua (Fs := []) (Rs := [47]) (by decide) q_fr0) h0 ?_ (by decide) (by decide) (by decide) (by decide) (by decide) (by decide)
    rcases u_l2 hl with e | e
    · rw [e]; exact h0.1.sa (x := 47) (j := 0) rfl (by decide) (by decide)
    · rw [e]; exact h0.1.sa (x := 47) (j := 1) rfl (by decide) (by decide)
  · rw [if_neg e, if_neg e]
    refine jX_fr (q_frua (Fs := []) (Rs := [46]) (by decide) q_fr0) h0 ?_ (by decide) (by decide) (by decide) (by decide) (by decide) (by decide)
    rcases u_l2 hl with e | e
    · rw [e]; exact h0.1.sa (x := 46) (j := 0) rfl (by decide) (by decide)
    · rw [e]; exact h0.1.sa (x := 46) (j := 1) rfl (by decide) (by decide)
theorem x_late (h : jX n c M r) (hp : 0 ≤ p1.toInt ∧ p1.toInt ≤ 1) (h2 : 0 ≤ p2.toInt ∧ p2.toInt ≤ 20) (h3 : 0 ≤ p3.toInt ∧ p3.toInt ≤ 50) : jX n c (z_sfi (z_sfi M 391 (n + (2 + 2 * jN p1)) p2) 392 (n + (2 + 2 * jN p1)) p3) (qF_late p1 p2 p3 r) := by
  rw [q_late1 hp h2 h3]
  have h0 := jX_1630 h (v := 0)
  generalize uf r 1630 0 = R at h0 ⊢
  have hl := (u_p hp).1
  generalize jN p1 = p at hl ⊢
  have J1 : JJ n (z_sfi (z_sfi M 391 (n + (2 + 2 * p)) p2) 392 (n + (2 + 2 * p)) p3) (ua (ua R 48 p p2) 49 p p3) (pS ((R.1 1536).toInt + 1) R) (pC ((R.1 1536).toInt + 1) R) := by
    rcases u_l2 hl with e | e
    · rw [e]; exact (h0.1.sa (x := 48) (j := 0) rfl (by decide) (by decide)).sa (x := 49) (j := 0) rfl (by decide) (by decide)
    · rw [e]; exact (h0.1.sa (x := 48) (j := 1) rfl (by decide) (by decide)).sa (x := 49) (j := 1) rfl (by decide) (by decide)
  have F : q_fr [] [48, 49] R (ua (ua R 48 p p2) 49 p p3) := q_frua (by decide) (q_frua (by decide) q_fr0)
  have v49 : ∀ i, (ua (ua R 48 p p2) 49 p p3).2 49 i = if i = p then p3 else R.2 49 i := fun i => by rw [ua2, if_pos rfl, ua_n (by decide)]
  generalize ua (ua R 48 p p2) 49 p p3 = R1 at J1 F v49 ⊢
  refine jX_up h0 J1 (F.1 _ (by decide)) (F.1 _ (by decide)) (F.1 _ (by decide)) (F.2 _ (by decide)) (F.2 _ (by decide)) (kP_fr F (by decide) (by decide) h0.2.1) ?_ (nA_fr F (by decide) h0.2.2.2)
  obtain ⟨q1, g1, d1, s1, c1, ⟨⟨y1, y2, y3, y4, y5⟩, y6⟩⟩ := h0.2.2.1
  refine ⟨nQ_c (F.2 51 (by decide)) (F.2 50 (by decide)) (F.1 1551 (by decide)) (F.2 54 (by decide)) q1, nH_c (fun g hg => F.1 g List.not_mem_nil) (fun x hx => F.2 x (by revert hx; revert x; decide)) g1, nD_c (fun g hg => F.1 g List.not_mem_nil) (fun x hx => F.2 x (by revert hx; revert x; decide)) d1, nS_c (fun g hg => F.1 g List.not_mem_nil) (fun x hx => F.2 x (by revert hx; revert x; decide)) (fun hc => by rw [F.2 91 (by decide)]; exact s1.2.2.2.2.1 hc) s1, nC_c (fun g hg => F.1 g List.not_mem_nil) (F.2 56 (by decide)) c1, ⟨⟨by rw [F.2 41 (by decide)]; exact y1, by rw [F.2 42 (by decide)]; exact y2, fun i hi => ?_, by rw [F.2 51 (by decide)]; exact y4, by rw [F.1 1536 List.not_mem_nil]; exact y5⟩, by rw [F.1 1584 List.not_mem_nil]; exact y6⟩⟩
  rw [v49]
  by_cases e : i = p
  · rw [if_pos e]; exact h3
  · rw [if_neg e]; exact y3 i hi
theorem x_setCookies (h : jX n c M r) : jX n c (z_sfi M 1027 (n + 28) p1) (qF_setCookies p1 r).2 := by
  rw [q_setCookies1]
  have h0 := jX_1630 h (v := 0)
  exact jX_fr (q_fruf (Fs := [1563]) (Rs := []) (by decide) q_fr0) h0 (h0.1.sf (j := 1563) rfl (by decide)) (by decide) (by decide) (by decide) (by decide) (by decide) (by decide)
theorem x_setWay (h : jX n c M r) (hp : 0 ≤ p1.toInt ∧ p1.toInt ≤ 1) (h2 : 0 ≤ p2.toInt ∧ p2.toInt ≤ 2) : jX n c (z_sfi M 256 (n + (33 + 3 * jN p1)) p2) (qF_setWay p1 p2 r).2 := by
  rw [q_setWay1 hp h2]
  have h0 := jX_1630 h (v := 0)
  generalize uf r 1630 0 = R at h0 ⊢
  have hl := (u_p hp).1
  generalize jN p1 = p at hl ⊢
  have J1 : JJ n (z_sfi M 256 (n + (33 + 3 * p)) p2) (ua R 86 p p2) (pS ((R.1 1536).toInt + 1) R) (pC ((R.1 1536).toInt + 1) R) := by
    rcases u_l2 hl with e | e
    · rw [e]; exact h0.1.sa (x := 86) (j := 0) rfl (by decide) (by decide)
    · rw [e]; exact h0.1.sa (x := 86) (j := 1) rfl (by decide) (by decide)
  have F : q_fr [] [86] R (ua R 86 p p2) := q_frua (by decide) q_fr0
  refine jX_up h0 J1 rfl rfl rfl (F.2 _ (by decide)) (F.2 _ (by decide)) ?_ (nP_fr F (by decide) (by decide) (by decide) h0.2.2.1) (nA_fr F (by decide) h0.2.2.2)
  obtain ⟨ka, ⟨b1, b2, b3, b4⟩, kc, kd⟩ := h0.2.1
  have hv : p2 = 0 ∨ p2 = 1 ∨ p2 = 2 := by
    rcases (show p2.toInt = 0 ∨ p2.toInt = 1 ∨ p2.toInt = 2 by omega) with e | e | e
    · exact Or.inl (Int32.toInt_inj.mp e)
    · exact Or.inr (Or.inl (Int32.toInt_inj.mp e))
    · exact Or.inr (Or.inr (Int32.toInt_inj.mp e))
  refine ⟨kA_c (r := R) (fun _ _ => rfl) (fun x hx => F.2 x (by revert hx; revert x; decide)) ka, ⟨b1, b2, fun i hi => ?_, b4⟩, kC_c (r := R) (fun _ _ => rfl) (fun x hx => F.2 x (by revert hx; revert x; decide)) kc, kD_c (r := R) (fun x hx => F.2 x (by revert hx; revert x; decide)) kd⟩
  rw [ua2, if_pos rfl]
  by_cases e : i = p
  · rw [if_pos e]; exact hv
  · rw [if_neg e]; exact b3 i hi
theorem x_use0 (h : jX n c M r) (h92 : ¬ r.2 92 0 = 0) : jX n c (z_sfi M 143 (n + 31) 0) (qF_use 0 r).2 := by
  rw [q_use1 (by decide) (fun _ => h92) (fun h => absurd rfl h)]
  have h0 := jX_1630 h (v := 0)
  have e83 : (uf r 1630 0).1 1583 = 0 := h0.2.1.1.1
  have J1 := h0.1.sf (M1 := z_sfi M 143 (n + 31) 0) (j := 1583) rfl (by decide)
  have eR : uf (uf r 1630 0) 1583 0 = uf r 1630 0 := uf_id e83
  rw [eR] at J1 ⊢
  exact ⟨J1, h0.2⟩
end JF
