/-! ===== THE LIKENESS: an answer is put on a path to the client ===== -/
section JTC
variable {n : Nat} {M M0 M1 M2 : z_Mem} {r r1 : q_R} {TL CL : List Nat} {t s q z : Nat} {d : Int}
theorem JJ.crp (h : r1 = r) (k : JJ n M r TL (pC d r)) : JJ n M r1 TL (pC d r1) := by rw [h]; exact k
theorem j_cfr (S : y_S n M) : z_fr M 643 (n + 1) = some (n + 8) ∧ z_fr M 1280 (n + 8) = some (n + 9) ∧ z_ln M (n + 9) = 2048 ∧ z_fr M 642 (n + 1) = some (n + 6) ∧ z_fr M 1280 (n + 6) = some (n + 7) ∧ z_ln M (n + 7) = 1024 := ⟨s_643_1 S, s_1280_8 S, S.l 3 rfl, s_642_1 S, s_1280_6 S, S.l 2 rfl⟩
theorem j_kC_w {m g a : Nat} {v sI i : Int32} (hg : g = 513 ∨ g = 514) (h : j_kC n M r m sI i) : j_kC n (z_sfi M g a v) r m sI i := by
  have e : ∀ k b : Nat, k ≠ g → z_fi (z_sfi M g a v) k b = z_fi M k b := fun k b hk => by rw [zq_fi_sfi, if_neg hk]
  have e1 : ∀ b : Nat, z_fi (z_sfi M g a v) 512 b = z_fi M 512 b := fun b => e 512 b (by omega)
  have e2 : ∀ b : Nat, z_fi (z_sfi M g a v) 519 b = z_fi M 519 b := fun b => e 519 b (by omega)
  have e3 : ∀ b : Nat, z_fi (z_sfi M g a v) 3 b = z_fi M 3 b := fun b => e 3 b (by omega)
  have e4 : ∀ b : Nat, z_fi (z_sfi M g a v) 4 b = z_fi M 4 b := fun b => e 4 b (by omega)
  have e5 : ∀ b : Nat, z_fi (z_sfi M g a v) 5 b = z_fi M 5 b := fun b => e 5 b (by omega)
  unfold j_kC j_ack at h ⊢
  simp only [e1, e2, e3, e4, e5, zq_fr_sfi, zq_ai_sfi, zq_sz_sfi]
  exact h
theorem j_toC (J0 : JJ n M0 r TL (pC d r)) (E : jE n M0 M) {p : Nat} (hp : p < 2) {m : Nat} (m0 : z_sz M0 ≤ m) (m1 : m < z_sz M) {sI i : Int32} (hk : j_kC n M r m sI i) (h0 : 0 ≤ (r.1 1559).toInt) (h1 : (r.1 1559).toInt < 2048) (hd : d ≤ (r.1 1536 + r.2 41 p).toInt) : JJ n (cF_X5_putToClient (n + 1) (nI p) (some m) M) (qF_answers (nI p) sI i r) TL (pC d (qF_answers (nI p) sI i r)) := by
  have hz := J0.1.2.2.2
  have ep : (nI p).toNatClampNeg = p := jN_nI (by omega)
  have h0n := jN_toInt h0
  rw [cE_X5_putToClient]
  refine JJ.st2 (j_laneOf E.2.1 hp) ?_
  refine JJ.st (fun a15 e15 => ?_)
  have e15 : a15 = m := e15
  subst e15
  refine JJ.st (fun M3 e3 => ?_)
  refine JJ.st (fun a18 e18 => ?_)
  have e18 : a18 = n + (2 + 2 * p) := e18
  subst e18
  have E3 := jE_sfi E J0.1 m0 e3
  have J3 := J0.ext E3
  have L := j_lane J3 hp
  have k3 : j_kC n M3 r a15 sI i := by rw [e3]; exact j_kC_w (Or.inl rfl) hk
  have h53 : z_fi M3 513 a15 = nI p := by rw [e3, zq_fi_sfi, if_pos rfl, if_pos rfl]
  have s3 : z_sz M3 = z_sz M := by rw [e3]; rfl
  clear e3 hk
  have hC := j_cfr E3.2.1
  rw [qE_answers, ep, cE_X3_letsToClient]
  by_cases hD : r.2 45 p = 0
  · have hU : ¬ z_fi M3 388 (n + (2 + 2 * p)) = 0 := fun h => (L.2.2.2.2.2.2.2.2.2.mp h) hD
    rw [if_neg hU, if_pos hD, L.2.2.2.2.2.1]
    by_cases hL : r.2 47 p ≤ 0
    · rw [if_pos hL, if_pos hL]
      refine JJ.crp (r := q_answ (nI p) sI i r) (by unfold q_answ; rw [show jN (nI p) = p from ep]; rfl) ?_
      refine JJ.st2 (x := 1) (M := M3) rfl ?_
      rw [if_neg (by decide), hC.1, js_645_1 J3, L.1]
      refine JJ.st (fun a11 e11 => ?_)
      have e11 : a11 = n + 8 := e11
      subst e11
      refine JJ.st (fun M10 e10 => ?_)
      rw [e10, cE_X10_append, hC.2.1]
      refine JJ.st (fun a3 e3 => ?_)
      have e3 : a3 = n + 9 := e3
      subst e3
      have hlen := pC_len (r := r) (d := d)
      have hl : z_fi M3 1281 (n + 8) = nI (pC d r).length := J3.2.2.2.2.2.2.2.1
      have hnl : ¬ nI (z_ln M3 (n + 9)) ≤ z_fi M3 1281 (n + 8) := fun h => by
        rw [hC.2.2.1, hl] at h
        have := i_le h (jI_t (k := 2048) (by decide)) (jI_t (by omega))
        omega
      rw [if_neg hnl]
      refine JJ.st (fun a5 e5 => ?_)
      have e5 : a5 = a15 := e5
      subst e5
      refine JJ.st (fun M6 e6 => ?_)
      have E6 := jE_sfi E3 J0.1 m0 e6
      have J6 := J0.ext E6
      refine JJ.st (fun a9 e9 => ?_)
      have e9 : a9 = n + 9 := by
        have : z_fr M6 1280 (n + 8) = some (n + 9) := s_1280_8 E6.2.1
        rw [this] at e9; exact e9
      subst e9
      refine JJ.st (fun M11 e11 => JJ.st (fun M13 e13 => ?_))
      refine j_answ J6 hp (by omega) (by rw [e6]; show a5 < z_sz M3; omega) ?_ ?_ ?_ h0 h1 hd e11 e13
      · rw [e6]; exact j_kC_w (Or.inr rfl) k3
      · rw [e6, zq_fi_sfi, if_neg (by decide)]; exact h53
      · rw [e6, zq_fi_sfi, if_pos rfl, if_pos rfl]
    · rw [if_neg hL, if_neg hL]
      have e7 : pC d (ua r 47 p (r.2 47 p - 1)) = pC d r := pC_congr rfl (fun k _ => by rw [ua_n (by decide)])
      show JJ n _ (ua r 47 p (r.2 47 p - 1)) TL (pC d (ua r 47 p (r.2 47 p - 1)))
      rw [e7]
      refine JJ.st2 (x := 0) (M := z_sfi M3 390 (n + (2 + 2 * p)) (r.2 47 p - 1)) rfl ?_
      rw [if_pos rfl]
      exact j_lsa J3 hp (g := 390) (x := 47) (v := r.2 47 p - 1) (by decide) (by decide) (by decide)
  · have hU : z_fi M3 388 (n + (2 + 2 * p)) = 0 := L.2.2.2.2.2.2.2.2.2.mpr hD
    rw [if_pos hU, if_neg hD]
    refine JJ.st2 (x := 0) (M := M3) rfl ?_
    rw [if_pos rfl]
    exact J3
end JTC
