/-! ===== BOTH: the class's ticks; what each leaves of the other ===== -/
/-- the class, with the room for the ticks that are left -/
def y_W (n c s : Nat) (M : z_Mem) : Prop := 0 ≤ (z_fi M 645 (n + 1)).toInt ∧ (z_fi M 645 (n + 1)).toInt ≤ 2000 ∧ y_CI n (c + 168 * (2000 - (z_fi M 645 (n + 1)).toInt).toNat) (s + 754 * (2000 - (z_fi M 645 (n + 1)).toInt).toNat) M M
/-- the reference's cells are as they were -/
def y_RT (n : Nat) (M M1 : z_Mem) : Prop := (∀ g, 1536 ≤ g → z_fi M1 g (n + 40) = z_fi M g (n + 40)) ∧ (∀ x j, 41 ≤ x → x < 107 → z_ai M1 (n + x) j = z_ai M (n + x) j)
section BT
variable {n c s t q z : Nat} {M0 M M1 M2 : z_Mem} {p1 : Int32} {PX : String → z_Mem → Prop}
theorem y_Trf : y_RT n M M := ⟨fun _ _ => rfl, fun _ _ _ _ => rfl⟩
theorem y_Ttr (h : y_RT n M M1) (k : y_RT n M1 M2) : y_RT n M M2 := ⟨fun g hg => (k.1 g hg).trans (h.1 g hg), fun x j h1 h2 => (k.2 x j h1 h2).trans (h.2 x j h1 h2)⟩
theorem y_DT (h : y_D n c s M M1) : y_RT n M M1 := ⟨h.2.1, h.2.2.1⟩
theorem t_cti32 {x1 : Int32} {Ms : z_Mem} {Post : Int32 → z_Mem → Prop} (h50 : x1.toInt ≤ 50) (k : ∀ r M1, y_W n c s M1 → y_RT n Ms M1 → Post r M1) : ∀ (m : Nat) (x2 : Int32) (M : z_Mem), (50 - x2.toInt).toNat < m → 0 ≤ x2.toInt → (z_fi M 645 (n + 1)).toInt + (x1.toInt - x2.toInt) ≤ 2000 → y_W n c s M → y_RT n Ms M → P_X11_tick_32 n Post PX m x1 x2 M := by
  intro m
  induction m with
  | zero => intro x2 M h; exact absurd h (Nat.not_lt_zero _)
  | succ m ih =>
    intro x2 M hm h0 hn W T
    obtain ⟨w0, w1, I⟩ := W
    refine And.intro (fun _ => z_nn_of (s_1408_0 I.1) (k _ M ⟨w0, w1, I⟩ T)) (fun c1 => z_nn_of (s_1408_0 I.1) ?_)
    have c1' := i_nle c1 rfl rfl
    obtain ⟨d, hd⟩ : ∃ d, (2000 - (z_fi M 645 (n + 1)).toInt).toNat = d + 1 := ⟨(2000 - (z_fi M 645 (n + 1)).toInt).toNat - 1, by omega⟩
    intro M8 e8
    have I8 := r_645 (c := (c + 168 * d) + 168) (s := (s + 754 * d) + 754) (r_w I (by omega) (by omega)) e8
    have n8 : (z_fi M8 645 (n + 1)).toInt = (z_fi M 645 (n + 1)).toInt + 1 := by
      rw [e8, zq_fi_sfi, if_pos rfl, if_pos rfl]; exact i_addE rfl (show (1 : Int32).toInt = 1 from rfl) (by omega) (by omega)
    refine t_pass I8 (fun M25 I25 => ?_)
    have n25 : z_fi M25 645 (n + 1) = z_fi M8 645 (n + 1) := I25.2.2.2.2.1.2.1 645 (by decide) _ (by omega)
    intro y ey
    have ty : y.toInt = x2.toInt + 1 := by rw [ey]; exact i_add1 (by omega) (by omega)
    refine ih y M25 (by omega) (by omega) (by rw [n25, n8]; omega) ⟨by rw [n25, n8]; omega, by rw [n25, n8]; omega, ?_⟩ (y_Ttr T (y_Ttr ⟨fun g hg => by rw [e8, zq_fi_sfi, if_neg (by omega)], fun x j _ _ => by rw [e8]; rfl⟩ (y_DT (y_Dof I25))))
    rw [n25, n8]
    exact r_rf (r_w I25 (by omega) (by omega))
theorem t_X11_tick {Post : Int32 → z_Mem → Prop} (W : y_W n (c + 6) (s + 32) M) (k : ∀ r M1, y_W n c s M1 → y_RT n M M1 → Post r M1) (kA : ∀ M1, y_W n c s M1 → y_RT n M M1 → PX "java/lang/IllegalArgumentException" M1) (kS : ∀ M1, y_W n c s M1 → y_RT n M M1 → PX "java/lang/IllegalStateException" M1) : P_X11_tick n p1 M Post PX := by
  obtain ⟨w0, w1, I⟩ := W
  have IW : y_CI n (c + 168 * (2000 - (z_fi M 645 (n + 1)).toInt).toNat + 6) (s + 754 * (2000 - (z_fi M 645 (n + 1)).toInt).toNat + 32) M M := r_w I (by omega) (by omega)
  have dw : ∀ M1, y_D n (c + 168 * (2000 - (z_fi M 645 (n + 1)).toInt).toNat) (s + 754 * (2000 - (z_fi M 645 (n + 1)).toInt).toNat) M M1 → y_W n c s M1 := fun M1 D => by
    have e := D.2.2.2
    exact ⟨by rw [e]; exact w0, by rw [e]; exact w1, by rw [e]; exact D.1⟩
  refine t_rr IW (show (1 : Int32).toInt = 1 from rfl) (show (50 : Int32).toInt = 50 from rfl) (fun _ M1 D => kA M1 (dw M1 D) (y_DT D)) (fun hp => z_nn_of (s_1408_0 I.1) (And.intro (fun _ => t_rs IW (fun _ M1 D => kS M1 (dw M1 D) (y_DT D)) (fun h => absurd rfl h)) (fun c1 => t_rs IW (fun _ M1 D => kS M1 (dw M1 D) (y_DT D)) (fun _ => ?_))))
  have c1' := i_nlt c1 (show (2000 : Int32).toInt = 2000 from rfl) (i_addE (x := z_fi M 645 (n + 1)) (y := p1) rfl rfl (by omega) (by omega))
  exact ⟨_, t_cti32 (x1 := p1) hp.2 k _ 0 M (Nat.lt_succ_self _) (by decide) (by rw [show (0 : Int32).toInt = 0 from rfl]; omega) ⟨w0, w1, r_w I (by omega) (by omega)⟩ y_Trf⟩
/-- the class's call leaves the reference's invariant -/
theorem t_JT (J : rf_J n t s q z M M) (S : y_S n M1) (T : y_RT n M M1) : rf_J n t s q z M1 M1 := by
  obtain ⟨-, ⟨c1, c2, c3, c4, c5, c6, c7, c8, c9, c10, c11, c12⟩, -⟩ := J
  have hA : ∀ x, 41 ≤ x → x < 107 → z_ai M1 (n + x) = z_ai M (n + x) := fun x h1 h2 => funext (fun j => T.2 x j h1 h2)
  have hF := T.1
  refine ⟨S, ⟨?_, ?_, ?_, ?_, ?_, ?_, ?_, ?_, ?_, ?_, ?_, ?_⟩, rf_Krf⟩
  · exact c1.congr (fun y hy => hA y (by revert hy; revert y; decide) (by revert hy; revert y; decide))
  · exact c2.congr (fun y hy => hF y (by revert hy; revert y; decide))
  · exact c3.congr (fun y hy => hA y (by revert hy; revert y; decide) (by revert hy; revert y; decide))
  · exact c4.congr (fun y hy => hA y (by revert hy; revert y; decide) (by revert hy; revert y; decide)) (fun y hy => hF y (by revert hy; revert y; decide))
  · exact c5.congr (fun y hy => hA y (by revert hy; revert y; decide) (by revert hy; revert y; decide))
  · exact c6.congr (fun y hy => hA y (by revert hy; revert y; decide) (by revert hy; revert y; decide)) (fun y hy => hF y (by revert hy; revert y; decide))
  · exact c7.congr (fun y hy => hA y (by revert hy; revert y; decide) (by revert hy; revert y; decide))
  · exact c8.congr (fun y hy => hA y (by revert hy; revert y; decide) (by revert hy; revert y; decide)) (fun y hy => hF y (by revert hy; revert y; decide))
  · exact c9.congr (fun y hy => hF y (by revert hy; revert y; decide))
  · exact c10.congr (fun y hy => hA y (by revert hy; revert y; decide) (by revert hy; revert y; decide))
  · exact c11.congr (fun y hy => hA y (by revert hy; revert y; decide) (by revert hy; revert y; decide)) (fun y hy => hF y (by revert hy; revert y; decide))
  · exact c12.congr (fun y hy => hA y (by revert hy; revert y; decide) (by revert hy; revert y; decide)) (fun y hy => hF y (by revert hy; revert y; decide))
/-- the reference's call leaves the class's invariant -/
theorem t_IK (I : y_CI n c s M M) (K : rf_KC n M M1) : y_CI n c s M1 M1 := by
  obtain ⟨S, L, R, A, -, -⟩ := I
  obtain ⟨k1, k2, k3, k4, k5, k6, k7, k8, k9⟩ := K
  have hL : ∀ g, g ∈ y_SP → ∀ a, z_fi M1 g a = z_fi M g a := fun g hg a => k8 g a (by revert hg; revert g; decide)
  refine ⟨?_, L.congr hL, ?_, ?_, ⟨fun _ _ => rfl, fun _ _ _ _ => rfl, Iff.rfl⟩, fun _ _ _ _ => rfl, fun _ _ _ => rfl, Nat.le_refl _, fun _ h => h⟩
  · unfold y_S; rw [k1, k2, k3, k5]; exact S
  · rw [k6, k7]; exact R.congr hL
  · intro m b hb
    rw [k1] at hb
    have := A m b hb
    unfold y_ak at this ⊢
    rw [k1, k2, k5]; exact this
theorem t_WK (W : y_W n c s M) (K : rf_KC n M M1) : y_W n c s M1 := by
  obtain ⟨w0, w1, I⟩ := W
  have e : z_fi M1 645 (n + 1) = z_fi M 645 (n + 1) := K.2.2.2.2.2.2.2.1 645 _ (by decide)
  exact ⟨by rw [e]; exact w0, by rw [e]; exact w1, by rw [e]; exact t_IK I K⟩
/-- before a call: k calls are left, this one included or not -/
def y_V (n k : Nat) (M : z_Mem) : Prop := y_W n (6 * k) (32 * k) M ∧ rf_J n (k + 60) (k + 60) (k + 60) 0 M M
end BT
