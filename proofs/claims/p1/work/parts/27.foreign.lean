/-! ===== p1: foreign packets on a fresh memory ===== -/
theorem f_idx : ∀ k, k < 8 → vp_in ((0 + nI k) - (0 + nI k) / 30 * 30) 30 := by
  intro k hk
  rcases (show k = 0 ∨ k = 1 ∨ k = 2 ∨ k = 3 ∨ k = 4 ∨ k = 5 ∨ k = 6 ∨ k = 7 by omega) with rfl | rfl | rfl | rfl | rfl | rfl | rfl | rfl <;> exact y_in (by decide)
theorem f_idr {p : Int32} (hp : p = 0 ∨ p = 1) : ∀ k, k < 8 → vp_in (30 * p + nI k) 60 := by
  intro k hk
  rcases hp with rfl | rfl <;> rcases (show k = 0 ∨ k = 1 ∨ k = 2 ∨ k = 3 ∨ k = 4 ∨ k = 5 ∨ k = 6 ∨ k = 7 by omega) with rfl | rfl | rfl | rfl | rfl | rfl | rfl | rfl <;> exact y_in (by decide)
theorem f_nI {x : Int32} {k : Nat} (h : x.toInt = k) (hk : k < 2000000) : x = nI k := Int32.toInt_inj.mp (by rw [h, i_ofNat hk])
/-- what a run of foreign() leaves as it is -/
def f_Fr (n : Nat) (M N : z_Mem) : Prop := y_S n N ∧ (∀ g, z_fi N g (n + 40) = z_fi M g (n + 40)) ∧ (∀ x j, z_ai N x j = z_ai M x j)
theorem f_class {n A Q : Nat} {M : z_Mem} {many : Int32} {Post : Int32 → z_Mem → Prop} (hq : ∀ N, y_S n N → z_fr N 393 A = some Q ∧ z_ln N Q = 30) (hQ : Q ≠ n + 11) (hA : n + 40 ≠ A)
    (hp : ∀ N r, f_Fr n M N → r.toInt = min many.toInt 8 → Post r N) : ∀ (d k : Nat) (x : Int32) (N : z_Mem), k + d = 8 → x.toInt = k → z_fi N 395 A = x → z_fi N 386 A = 8 → z_fi N 394 A = 0 → f_Fr n M N → (k : Int) ≤ many.toInt → P_X5_putForeign_9 (n + 1) Post (d + 1) many (some A) x N := by
  have e8 : (8 : Int32).toInt = 8 := rfl
  have e30 : (30 : Int32).toInt = 30 := rfl
  intro d
  induction d with
  | zero =>
    intro k x N hk hx h1 h2 h3 hF hm
    refine ⟨fun c => hp _ _ hF ?_, fun c => z_nn_of rfl ⟨fun _ => ⟨fun _ => hp _ _ hF ?_, fun q => absurd rfl q⟩, fun q => absurd ?_ q⟩⟩
    · rw [Int32.le_iff_toInt_le] at c; omega
    · rw [Int32.le_iff_toInt_le] at c; omega
    · rw [h1, h2, Int32.le_iff_toInt_le, e8, hx]; omega
  | succ d ih =>
    intro k x N hk hx h1 h2 h3 hF hm
    refine ⟨fun c => hp _ _ hF ?_, fun c => z_nn_of rfl ⟨fun q => absurd q ?_, fun _ => ⟨fun q => absurd q ?_, fun _ => ⟨fun q => absurd q (by decide), fun _ => ⟨fun q => absurd q ?_, fun _ => ?_⟩⟩⟩⟩⟩
    · rw [Int32.le_iff_toInt_le] at c; omega
    · rw [h1, h2, Int32.le_iff_toInt_le, e8, hx]; omega
    · rw [h1, Int32.le_iff_toInt_le, e30, hx]; omega
    · rw [h1, Int32.le_iff_toInt_le, e30, hx]; omega
    · obtain ⟨q1, q2⟩ := hq N hF.1
      refine z_nn_of q1 ⟨by rw [q2, h1, h3, f_nI hx (by omega)]; exact f_idx k (by omega), ?_⟩
      intro M8 e M10 e' y ey
      subst e e' ey
      have hv : z_fi (z_sar N Q (((z_fi N 394 A + z_fi N 395 A - (z_fi N 394 A + z_fi N 395 A) / 30 * 30) : Int32).toNatClampNeg) (z_fr N 644 (n + 1))) 395 A = x := h1
      rw [hv]
      refine ih (k + 1) _ _ (by omega) (i_succ hx (by omega)) ?_ ?_ ?_ ?_ ?_
      · rw [zq_fi_sfi, if_pos rfl, if_pos rfl]
      · rw [zq_fi_sfi, if_neg (by decide)]; exact h2
      · rw [zq_fi_sfi, if_neg (by decide)]; exact h3
      · refine ⟨S_sfi (S_sar hQ hF.1), fun g => ?_, hF.2.2⟩
        rw [zq_fi_sfi]
        split
        · exact hF.2.1 g
        · exact hF.2.1 g
      · rw [Int32.le_iff_toInt_le] at c; omega
theorem f_ref {n : Nat} {v9 : Nat → Int64} {many p : Int32} {Post : Int32 → z_Mem → Prop} (hp0 : p = 0 ∨ p = 1)
    (hp : ∀ N r, y_S n N → r.toInt = min many.toInt 8 → z_fi N 1630 (n + 40) = 0 → (∀ j, z_al N (n + 107) j = v9 j) → Post r N) : ∀ (d k : Nat) (x : Int32) (N : z_Mem), k + d = 8 → x.toInt = k → z_ai N (n + 51) (p : Int32).toNatClampNeg = x → z_ai N (n + 43) (p : Int32).toNatClampNeg = 8 → y_S n N → z_fi N 1630 (n + 40) = 0 → (∀ j, z_al N (n + 107) j = v9 j) → (k : Int) ≤ many.toInt → P_X12_foreign_23 (n + 40) Post (d + 1) p many x N := by
  have e8 : (8 : Int32).toInt = 8 := rfl
  have vp : vp_in p 2 := by rcases hp0 with rfl | rfl <;> exact y_in (by decide)
  have j0 : ∀ b : Nat, n + 51 ≠ n + 50 := fun b => by omega
  intro d
  induction d with
  | zero =>
    intro k x N hk hx h1 h2 hS h3 h4 hm
    refine ⟨fun c => hp _ _ hS ?_ h3 h4, fun c => z_nn_of (s_1547_40 hS) ⟨by rw [s_l51 hS]; exact vp, z_nn_of (s_1539_40 hS) ⟨by rw [s_l43 hS]; exact vp, fun _ => hp _ _ hS ?_ h3 h4, fun q => absurd ?_ q⟩⟩⟩
    · rw [Int32.le_iff_toInt_le] at c; omega
    · rw [Int32.le_iff_toInt_le] at c; omega
    · rw [h1, h2, Int32.le_iff_toInt_le, e8, hx]; omega
  | succ d ih =>
    intro k x N hk hx h1 h2 hS h3 h4 hm
    refine ⟨fun c => hp _ _ hS ?_ h3 h4, fun c => z_nn_of (s_1547_40 hS) ⟨by rw [s_l51 hS]; exact vp, z_nn_of (s_1539_40 hS) ⟨by rw [s_l43 hS]; exact vp, fun q => absurd q ?_, fun _ => z_nn_of (s_1547_40 hS) ⟨by rw [s_l51 hS]; exact vp, z_nn_of (s_1546_40 hS) ⟨?_, ?_⟩⟩⟩⟩⟩
    · rw [Int32.le_iff_toInt_le] at c; omega
    · rw [h1, h2, Int32.le_iff_toInt_le, e8, hx]; omega
    · rw [s_l50 hS, h1, f_nI hx (by omega)]; exact f_idr hp0 k (by omega)
    · intro M1 e1
      subst e1
      have S1 := S_sai (a := n + 50) (j := ((30 * p + z_ai N (n + 51) (p : Int32).toNatClampNeg) : Int32).toNatClampNeg) (v := -1) hS
      refine z_nn_of (s_1547_40 S1) ⟨by rw [s_l51 S1]; exact vp, by rw [s_l51 S1]; exact vp, ?_⟩
      intro M2 e2 y ey
      subst e2 ey
      have hv : z_ai (z_sai N (n + 50) (((30 * p + z_ai N (n + 51) (p : Int32).toNatClampNeg) : Int32).toNatClampNeg) (-1)) (n + 51) (p : Int32).toNatClampNeg = x := by
        rw [zq_ai_sai, if_neg (by omega)]; exact h1
      rw [hv]
      refine ih (k + 1) _ _ (by omega) (i_succ hx (by omega)) ?_ ?_ (S_sai S1) h3 h4 ?_
      · rw [zq_ai_sai, if_pos rfl, if_pos rfl]
      · rw [zq_ai_sai, if_neg (by omega), zq_ai_sai, if_neg (by omega)]; exact h2
      · rw [Int32.le_iff_toInt_le] at c; omega
