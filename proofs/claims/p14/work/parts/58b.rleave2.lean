/-! ===== THE REFERENCE: a queue is let leave ===== -/
theorem rf_c_shift {p : Nat → Bool} {a : Nat} : ∀ b, rf_c p (a + b) = rf_c p a + rf_c (fun j => p (a + j)) b
  | 0 => rfl
  | b + 1 => by
    show rf_c p (a + b) + (if p (a + b) then 1 else 0) = rf_c p a + (rf_c (fun j => p (a + j)) b + (if p (a + b) then 1 else 0))
    rw [rf_c_shift b]; omega
theorem rf_c_lem {p : Nat → Bool} {a b : Nat} (h : a ≤ b) : rf_c p a ≤ rf_c p b := by
  obtain ⟨c, rfl⟩ : ∃ c, b = a + c := ⟨b - a, by omega⟩
  rw [rf_c_shift]; omega
/-- how many things stand in the queue of path p -/
def rf_Q (n p : Nat) (M : z_Mem) : Nat := rf_c (fun j => decide (¬ z_ai M (n + 50) (30 * p + j) = -1)) (z_ai M (n + 51) p).toInt.toNat
theorem t_posq {i : Int32} {m L : Nat} (h : i.toInt = (m : Int)) (hm : m < 60) (hL : L = 60) : vp_in i L := vp_of (L := 60) hL (by omega) (by omega)
theorem i_pq {x1 x3 : Int32} {p k : Nat} (h1 : x1.toInt = p) (h3 : x3.toInt = k) (hp : p < 2) (hk : k < 60) : ((30 * x1) + x3).toInt = ((30 * p + k : Nat) : Int) := by
  rw [i_addE (i_mulE (show (30 : Int32).toInt = 30 from rfl) h1 (by omega) (by omega)) h3 (by omega) (by omega)]
  omega
theorem i_pq2 {x1 x2 x3 : Int32} {p k m : Nat} (h1 : x1.toInt = p) (h2 : x2.toInt = m) (h3 : x3.toInt = k) (hp : p < 2) (hk : k < 60) (hm : m ≤ k) : (((30 * x1) + x3) - x2).toInt = ((30 * p + (k - m) : Nat) : Int) := by
  rw [i_subE (i_pq h1 h3 hp hk) h2 (by omega) (by omega)]
  omega
section RFP
variable {n t s q z : Nat} {M0 M M1 M2 : z_Mem}
theorem rf_C11p (J : rf_J n t s q z M0 M) : (z_fi M 1554 (n + 40)).toInt + (rf_Q n 0 M : Nat) + (rf_Q n 1 M : Nat) ≤ (z_fi M 1551 (n + 40)).toInt := by
  have e : (z_fi M 1554 (n + 40)).toInt + (rf_c (fun k => decide (¬ z_ai M (n + 50) k = -1)) (z_ai M (n + 51) 0).toInt.toNat : Nat) + (rf_c (fun k => decide (¬ z_ai M (n + 50) (30 + k) = -1)) (z_ai M (n + 51) 1).toInt.toNat : Nat) ≤ (z_fi M 1551 (n + 40)).toInt := rf_C11a J
  have e0 : rf_Q n 0 M = rf_c (fun k => decide (¬ z_ai M (n + 50) k = -1)) (z_ai M (n + 51) 0).toInt.toNat := rf_c_eq _ (fun j _ => by rw [show 30 * 0 + j = j by omega])
  have e1 : rf_Q n 1 M = rf_c (fun k => decide (¬ z_ai M (n + 50) (30 + k) = -1)) (z_ai M (n + 51) 1).toInt.toNat := rf_c_eq _ (fun j _ => by rw [show 30 * 1 + j = 30 + j by omega])
  rw [e0, e1]; exact e
theorem rf_shf {g a b : Nat} {v w : Int32} (h : g ≠ 1551) : z_sfi (z_sfi M g a v) 1551 b w = z_sfi (z_sfi M 1551 b w) g a v := by
  have e : z_up (z_up M.2.2.1 g a v) 1551 b w = z_up (z_up M.2.2.1 1551 b w) g a v := by
    funext x y
    show z_fi (z_sfi (z_sfi M g a v) 1551 b w) x y = z_fi (z_sfi (z_sfi M 1551 b w) g a v) x y
    rw [zq_fi_sfi, zq_fi_sfi, zq_fi_sfi, zq_fi_sfi]
    by_cases h1 : x = 1551
    · subst h1
      rw [if_pos rfl, if_neg (Ne.symm h), if_neg (Ne.symm h), if_pos rfl]
    · rw [if_neg h1, if_neg h1]
  unfold z_sfi
  dsimp only
  rw [e]
/-- the memory with 60 things more -/
def rf_sh (n : Nat) (v : Int32) (M : z_Mem) : z_Mem := z_sfi M 1551 (n + 40) v
theorem t_lv157 {p Q m0 : Nat} {T L : Int} {x1 x2 v : Int32} {g : Nat → Int32} {o : Nat → Int32} {Post : z_Mem → Prop} {Ms : z_Mem} (hp : p < 2) (h1 : x1.toInt = p) (h2 : x2.toInt = m0) (hQ : Q ≤ 30) (hm0 : m0 ≤ Q) (hv : v.toInt = T + 60) (ho : ∀ i, (o i).toInt.toNat ≤ 30) (hoQ : (o p).toInt = Q) (hL : L + ((rf_c (fun j => decide (¬ g (30 * p + j) = -1)) Q : Int) - (rf_c (fun j => decide (¬ g (30 * p + j) = -1)) m0 : Int)) + (rf_c (fun j => decide (¬ g (30 * (1 - p) + j) = -1)) (o (1 - p)).toInt.toNat : Nat) ≤ T) (h0T : 0 ≤ T) (k : ∀ M1, rf_J n (t + 60) (s + 60) (q + 60) z M1 M1 → rf_K2 n Ms M1 → Post M1) : ∀ (m : Nat) (x3 : Int32) (M : z_Mem), (Q - x3.toInt).toNat < m → (m0 : Int) ≤ x3.toInt → x3.toInt ≤ Q → (z_fi M 1551 (n + 40)).toInt = T → (z_fi M 1554 (n + 40)).toInt = L → z_ai M (n + 51) = o → (∀ i, z_ai M (n + 50) i = if 30 * p ≤ i ∧ (i : Int) < 30 * p + (x3.toInt - m0) then g (i + m0) else g i) → rf_K2 n Ms M → rf_J n t s q z (rf_sh n v M) (rf_sh n v M) → P_X12_leaves_157 (n + 40) Post m x1 x2 x3 M := by
  have hx : x1.toNatClampNeg = p := i_nat h1
  intro m
  induction m with
  | zero => intro x3 M h; exact absurd h (Nat.not_lt_zero _)
  | succ m ih =>
    intro x3 M hm h3 h3b hT hl h51 h50 K J
    have S : y_S n M := J.1
    have hv51 : vp_in x1 (z_ln M (n + 51)) := vp_of (L := 2) (s_l51 S) (by omega) (by omega)
    refine z_nn_of (s_1547_40 S) (And.intro hv51 (And.intro (fun c => z_nn_of (s_1547_40 S) (And.intro hv51 (And.intro hv51 ?_))) (fun c => ?_)))
    · have c' := i_le c rfl rfl
      rw [hx, h51] at c'
      intro M37 e37
      have tq : (z_ai M (n + 51) x1.toNatClampNeg - x2).toInt = Q - m0 := by
        rw [h51, hx]; exact i_subE hoQ h2 (by omega) (by omega)
      have T31 : (z_fi (rf_sh n v M) 1551 (n + 40)).toInt = T + 60 := by rw [rf_sh, rf_ef]; exact hv
      have T54 : (z_fi (rf_sh n v M) 1554 (n + 40)).toInt = L := by rw [rf_sh, rf_nf (by decide)]; exact hl
      have cb := (rf_c_lem (p := fun j => decide (¬ g (30 * p + j) = -1)) hm0)
      have J37 : rf_J n t s q z (rf_sh n v M) (rf_sh n v M37) := w_51g J (by rw [e37]; rfl) (by rw [tq]; omega) (by rw [tq]; omega) (by rw [T31, T54]; omega)
      have f37 : z_fi M37 = z_fi M := by rw [e37]; rfl
      have eM : M37 = z_sfi (rf_sh n v M37) 1551 (n + 40) (z_fi M 1551 (n + 40)) := by
        have := rf_same (M := M37) (g := 1551) (a := n + 40) (v := z_fi M 1551 (n + 40)) (by rw [f37])
        rw [rf_sh]
        have e9 : z_sfi (z_sfi M37 1551 (n + 40) v) 1551 (n + 40) (z_fi M 1551 (n + 40)) = z_sfi M37 1551 (n + 40) (z_fi M 1551 (n + 40)) := by
          have e8 : z_up (z_up M37.2.2.1 1551 (n + 40) v) 1551 (n + 40) (z_fi M 1551 (n + 40)) = z_up M37.2.2.1 1551 (n + 40) (z_fi M 1551 (n + 40)) := by
            funext a b
            show z_fi (z_sfi (z_sfi M37 1551 (n + 40) v) 1551 (n + 40) (z_fi M 1551 (n + 40))) a b = z_fi (z_sfi M37 1551 (n + 40) (z_fi M 1551 (n + 40))) a b
            rw [zq_fi_sfi, zq_fi_sfi, zq_fi_sfi]
            split
            · split <;> rfl
            · rfl
          unfold z_sfi
          dsimp only
          rw [e8]
        rw [e9, this]
      have r51 : ∀ i, z_ai M37 (n + 51) i = if i = p then z_ai M (n + 51) x1.toNatClampNeg - x2 else o i := fun i => by rw [e37, rf_ea, hx, h51]
      have r50 : z_ai M37 (n + 50) = z_ai M (n + 50) := by rw [e37, rf_na (by decide)]
      -- the counts behind it
      have kx : x3.toInt = Q := by omega
      have qp : rf_Q n p M37 = rf_c (fun j => decide (¬ g (30 * p + (m0 + j)) = -1)) (Q - m0) := by
        unfold rf_Q
        rw [r51 p, if_pos rfl, show (z_ai M (n + 51) x1.toNatClampNeg - x2).toInt.toNat = Q - m0 by rw [tq]; omega]
        refine rf_c_eq _ (fun j hj => ?_)
        rw [r50, h50, if_pos (by omega), show 30 * p + j + m0 = 30 * p + (m0 + j) by omega]
      have qo : rf_Q n (1 - p) M37 = rf_c (fun j => decide (¬ g (30 * (1 - p) + j) = -1)) (o (1 - p)).toInt.toNat := by
        unfold rf_Q
        rw [r51 (1 - p), if_neg (by omega)]
        have h30 := ho (1 - p)
        refine rf_c_eq _ (fun j hj => ?_)
        rw [r50, h50, if_neg (by omega)]
      have sh := rf_c_shift (p := fun j => decide (¬ g (30 * p + j) = -1)) (a := m0) (Q - m0)
      rw [show m0 + (Q - m0) = Q by omega] at sh
      have tot : (z_fi M37 1554 (n + 40)).toInt + (rf_Q n 0 M37 : Nat) + (rf_Q n 1 M37 : Nat) ≤ (z_fi M 1551 (n + 40)).toInt := by
        have e2 : (z_fi M37 1554 (n + 40)).toInt + (rf_Q n p M37 : Nat) + (rf_Q n (1 - p) M37 : Nat) ≤ (z_fi M 1551 (n + 40)).toInt := by
          rw [f37, hl, hT, qp, qo]; omega
        rcases (show p = 0 ∨ p = 1 by omega) with e | e
        · subst e; exact e2
        · subst e
          have : (z_fi M37 1554 (n + 40)).toInt + (rf_Q n 1 M37 : Nat) + (rf_Q n 0 M37 : Nat) ≤ (z_fi M 1551 (n + 40)).toInt := e2
          omega
      have JF := w_1551dn (M := rf_sh n v M37) (M1 := M37) J37 eM (by rw [rf_sh, rf_ef, hv, hT]) (by rw [hT]; exact h0T) (by
        have e0 : rf_Q n 0 M37 = rf_c (fun k => decide (¬ z_ai (rf_sh n v M37) (n + 50) k = -1)) (z_ai (rf_sh n v M37) (n + 51) 0).toInt.toNat := rf_c_eq _ (fun j _ => by rw [show 30 * 0 + j = j by omega]; rfl)
        have e1 : rf_Q n 1 M37 = rf_c (fun k => decide (¬ z_ai (rf_sh n v M37) (n + 50) (30 + k) = -1)) (z_ai (rf_sh n v M37) (n + 51) 1).toInt.toNat := rf_c_eq _ (fun j _ => by rw [show 30 * 1 + j = 30 + j by omega]; rfl)
        rw [← e0, ← e1, rf_sh, rf_nf (show (1554 : Nat) ≠ 1551 by decide)]
        exact tot)
      exact k M37 (rf_rf JF) (by rw [e37]; exact rf_K2a (by decide) (by decide) (by decide) K)
    · have c' := i_nle c rfl rfl
      rw [hx, h51] at c'
      obtain ⟨kk, hk⟩ : ∃ kk : Nat, x3.toInt = kk := ⟨x3.toInt.toNat, by omega⟩
      have p1 := i_pq h1 hk hp (by omega)
      have p2 := i_pq2 h1 h2 hk hp (by omega) (by omega)
      have N1 := i_nat p1
      have N2 := i_nat p2
      have v1 : vp_in ((30 * x1) + x3) (z_ln M (n + 50)) := t_posq p1 (by omega) (s_l50 S)
      have v2 : vp_in (((30 * x1) + x3) - x2) (z_ln M (n + 50)) := t_posq p2 (by omega) (s_l50 S)
      clear p1 p2
      refine z_nn_of (s_1546_40 S) (And.intro v1 (z_nn_of (s_1546_40 S) (And.intro v2 ?_)))
      intro M44 e44
      rw [N1, N2] at e44
      clear N1 N2 v1 v2
      intro y ey
      have ty : y.toInt = x3.toInt + 1 := by rw [ey]; exact i_add1 (by omega) (by omega)
      have b50 := a_50 J (30 * p + kk)
      have T31 : (z_fi (rf_sh n v M) 1551 (n + 40)).toInt = T + 60 := by rw [rf_sh, rf_ef]; exact hv
      have T54 : (z_fi (rf_sh n v M) 1554 (n + 40)).toInt = L := by rw [rf_sh, rf_nf (by decide)]; exact hl
      have cb := (rf_c_lem (p := fun j => decide (¬ g (30 * p + j) = -1)) hm0)
      have J44 : rf_J n t s q z (rf_sh n v M) (rf_sh n v M44) := w_50g J (by rw [e44]; rfl) b50.1 b50.2 (by rw [T31, T54]; omega)
      have f44 : z_fi M44 = z_fi M := by rw [e44]; rfl
      refine ih y M44 (by omega) (by omega) (by omega) (by rw [f44]; exact hT) (by rw [f44]; exact hl) (by rw [e44, rf_na (by decide)]; exact h51) (fun i => ?_) (by rw [e44]; exact rf_K2a (by decide) (by decide) (by decide) K) (rf_rf J44)
      rw [e44, rf_ea, h50, h50]
      by_cases e : i = 30 * p + (kk - m0)
      · rw [if_pos e, if_neg (by omega), if_pos (by omega), show 30 * p + kk = i + m0 by omega]
      · rw [if_neg e]
        by_cases e2 : 30 * p ≤ i ∧ (i : Int) < 30 * p + (x3.toInt - m0)
        · rw [if_pos e2, if_pos (by omega)]
        · rw [if_neg e2, if_neg (by omega)]
end RFP
