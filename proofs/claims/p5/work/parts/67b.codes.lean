/-! ===== WHAT lose AND late THROW, both sides ===== -/
/-- of two questions: the first that fails says what is thrown -/
def rf_c2 (P Q : Prop) (v : Int32) : Prop := (¬ P ∧ v = 1) ∨ (P ∧ ¬ Q ∧ v = 2) ∨ (P ∧ Q ∧ v = 0)
theorem rf_c2u {P Q : Prop} {v w : Int32} (h : rf_c2 P Q v) (h2 : rf_c2 P Q w) : v = w := by
  rcases h with ⟨a, b⟩ | ⟨a, a2, b⟩ | ⟨a, a2, b⟩
  · rcases h2 with ⟨x, y⟩ | ⟨x, x2, y⟩ | ⟨x, x2, y⟩
    · rw [b, y]
    · exact absurd x a
    · exact absurd x a
  · rcases h2 with ⟨x, y⟩ | ⟨x, x2, y⟩ | ⟨x, x2, y⟩
    · exact absurd a x
    · rw [b, y]
    · exact absurd x2 a2
  · rcases h2 with ⟨x, y⟩ | ⟨x, x2, y⟩ | ⟨x, x2, y⟩
    · exact absurd a x
    · exact absurd a2 x2
    · rw [b, y]
section CD
variable {n c s t q z : Nat} {M0 M M1 M2 : z_Mem} {p1 p2 p3 : Int32}
theorem t_X12_losec {Post : z_Mem → Prop} (J : rf_J n t s q z M0 M) (k : ∀ M1, rf_J n t s q z M1 M1 → rf_K3 n M M1 → rf_c2 (0 ≤ p1.toInt ∧ p1.toInt ≤ 1) (0 ≤ p3.toInt ∧ p3.toInt ≤ 20) (z_fi M1 1630 (n + 40)) → Post M1) : P_X12_lose (n + 40) p1 p2 p3 M Post := by
  refine t_isPath J (fun x1 hx1 => t_in J (show (0 : Int32).toInt = 0 from rfl) (show (20 : Int32).toInt = 20 from rfl) (fun x2 hx2 => t_X12_goes J (fun r Mg h1 h2 K p e9 eq Jg => ?_)))
  have hc := rf_cdP hx1 hx2
  rw [← p] at hc
  refine And.intro (fun _ => k Mg Jg K hc) (fun c => ?_)
  have hr : r = 1 := h1.elim id (fun h => absurd h c)
  have hp := rf_bt hx1 (h2 hr).1
  have hv : ∀ {L : Nat}, L = 2 → vp_in p1 L := fun h => vp_of (L := 2) h (by omega) (by omega)
  refine And.intro (fun _ => z_nn_of (s_1543_40 Jg.1) (And.intro (hv (s_l47 Jg.1)) ?_)) (fun _ => z_nn_of (s_1542_40 Jg.1) (And.intro (hv (s_l46 Jg.1)) ?_))
  · intro M9 e9
    have J9 := w_sai Jg e9 (by decide +kernel)
    exact k M9 (rf_rf J9) (rf_K3tr K (rf_K3w J9.2.2)) (by rw [show z_fi M9 1630 (n + 40) = z_fi Mg 1630 (n + 40) by rw [e9]; rfl]; exact hc)
  · intro M9 e9
    have J9 := w_sai Jg e9 (by decide +kernel)
    exact k M9 (rf_rf J9) (rf_K3tr K (rf_K3w J9.2.2)) (by rw [show z_fi M9 1630 (n + 40) = z_fi Mg 1630 (n + 40) by rw [e9]; rfl]; exact hc)
theorem t_X12_latec {Post : z_Mem → Prop} (J : rf_J n t s q z M0 M) (k : ∀ M1, rf_J n t s q z M1 M1 → rf_K3 n M M1 → rf_c2 (0 ≤ p1.toInt ∧ p1.toInt ≤ 1) ((0 ≤ p2.toInt ∧ p2.toInt ≤ 20) ∧ (0 ≤ p3.toInt ∧ p3.toInt ≤ 50)) (z_fi M1 1630 (n + 40)) → Post M1) : P_X12_late (n + 40) p1 p2 p3 M Post := by
  have f30 : ∀ (x12 b : Int32), rf_b x12 (0 ≤ p1.toInt ∧ p1.toInt ≤ 1) → rf_b b ((0 ≤ p2.toInt ∧ p2.toInt ≤ 20) ∧ (0 ≤ p3.toInt ∧ p3.toInt ≤ 50)) → P_X12_late_30 (n + 40) Post p1 p2 p3 (some (n + 40)) x12 b M := fun x12 b hx1 hb => by
    refine z_nn_of rfl (t_X12_goes J (fun r Mg h1 h2 K p e9 eq Jg => ?_))
    have hc := rf_cdP hx1 hb
    rw [← p] at hc
    refine And.intro (fun _ => k Mg Jg K hc) (fun c => ?_)
    have hr : r = 1 := h1.elim id (fun h => absurd h c)
    have hp := rf_bt hx1 (h2 hr).1
    have hv : ∀ {L : Nat}, L = 2 → vp_in p1 L := fun h => vp_of (L := 2) h (by omega) (by omega)
    refine z_nn_of (s_1544_40 Jg.1) (And.intro (hv (s_l48 Jg.1)) ?_)
    intro M7 e7
    have J7 := w_sai Jg e7 (by decide +kernel)
    refine z_nn_of (s_1545_40 J7.1) (And.intro (hv (s_l49 J7.1)) ?_)
    intro M11 e11
    have J11 := w_sai J7 e11 (by decide +kernel)
    exact k M11 (rf_rf J11) (rf_K3tr K (rf_K3w J11.2.2)) (by rw [show z_fi M11 1630 (n + 40) = z_fi Mg 1630 (n + 40) by rw [e11, e7]; rfl]; exact hc)
  exact t_isPath J (fun x12 h12 => t_in J (show (0 : Int32).toInt = 0 from rfl) (show (20 : Int32).toInt = 20 from rfl) (fun x13 h13 => And.intro (fun c => f30 x12 0 h12 (Or.inr ⟨rfl, fun h => rf_bf h13 c h.1⟩)) (fun c => t_in J (show (0 : Int32).toInt = 0 from rfl) (show (50 : Int32).toInt = 50 from rfl) (fun x15 h15 => And.intro (fun c2 => f30 x12 0 h12 (Or.inr ⟨rfl, fun h => rf_bf h15 c2 h.2⟩)) (fun c2 => f30 x12 1 h12 (Or.inl ⟨rfl, rf_bt h13 c, rf_bt h15 c2⟩))))))
theorem t_L_losec {p4 : Int32} {Post : Int32 → z_Mem → Prop} (W : y_W n (c + 6) (s + 32) M) (k : ∀ r M1, rf_c2 (0 ≤ p2.toInt ∧ p2.toInt ≤ 1) (0 ≤ p4.toInt ∧ p4.toInt ≤ 20) r → y_W n c s M1 → y_RT n M M1 → Post r M1) : P_L_lose (some (n + 0)) p2 p3 p4 M Post := by
  have I := y_WI W
  refine z_nn_of rfl (t_rp (n := n) I (fun hp M1 D => Or.inl ⟨rfl, k 1 M1 (Or.inl ⟨hp, rfl⟩) (y_Wd W D) (y_DT D)⟩) (fun hp => t_rr I (show (0 : Int32).toInt = 0 from rfl) (show (20 : Int32).toInt = 20 from rfl) (fun hq M1 D => Or.inr ⟨rfl, k 2 M1 (Or.inr (Or.inl ⟨hp, hq, rfl⟩)) (y_Wd W D) (y_DT D)⟩) (fun hq => z_nn_of (s_1408_0 I.1) (t_laneOf I (fun a ha => And.intro (fun _ => z_nn_of rfl ?_) (fun _ => z_nn_of rfl ?_))))))
  · intro M8 e8
    have D : y_D n (c + 168 * (2000 - (z_fi M 645 (n + 1)).toInt).toNat) (s + 754 * (2000 - (z_fi M 645 (n + 1)).toInt).toNat) M M8 := y_Dof (r_w (r_sfi I e8 (by decide +kernel)) (by omega) (by omega))
    exact k 0 M8 (Or.inr (Or.inr ⟨hp, hq, rfl⟩)) (y_Wd W D) (y_DT D)
  · intro M8 e8
    have D : y_D n (c + 168 * (2000 - (z_fi M 645 (n + 1)).toInt).toNat) (s + 754 * (2000 - (z_fi M 645 (n + 1)).toInt).toNat) M M8 := y_Dof (r_w (r_sfi I e8 (by decide +kernel)) (by omega) (by omega))
    exact k 0 M8 (Or.inr (Or.inr ⟨hp, hq, rfl⟩)) (y_Wd W D) (y_DT D)
theorem t_L_latec {p4 : Int32} {Post : Int32 → z_Mem → Prop} (W : y_W n (c + 6) (s + 32) M) (k : ∀ r M1, rf_c2 (0 ≤ p2.toInt ∧ p2.toInt ≤ 1) ((0 ≤ p3.toInt ∧ p3.toInt ≤ 20) ∧ (0 ≤ p4.toInt ∧ p4.toInt ≤ 50)) r → y_W n c s M1 → y_RT n M M1 → Post r M1) : P_L_late (some (n + 0)) p2 p3 p4 M Post := by
  have I := y_WI W
  refine z_nn_of rfl (t_rp (n := n) I (fun hp M1 D => Or.inl ⟨rfl, k 1 M1 (Or.inl ⟨hp, rfl⟩) (y_Wd W D) (y_DT D)⟩) (fun hp => t_rr I (show (0 : Int32).toInt = 0 from rfl) (show (20 : Int32).toInt = 20 from rfl) (fun hq M1 D => Or.inr ⟨rfl, k 2 M1 (Or.inr (Or.inl ⟨hp, fun h => hq h.1, rfl⟩)) (y_Wd W D) (y_DT D)⟩) (fun hq => t_rr I (show (0 : Int32).toInt = 0 from rfl) (show (50 : Int32).toInt = 50 from rfl) (fun hq2 M1 D => Or.inr ⟨rfl, k 2 M1 (Or.inr (Or.inl ⟨hp, fun h => hq2 h.2, rfl⟩)) (y_Wd W D) (y_DT D)⟩) (fun hq2 => z_nn_of (s_1408_0 I.1) (t_laneOf I (fun a ha => z_nn_of rfl ?_))))))
  intro M8 e8
  have I8 := r_sfi I e8 (by decide +kernel)
  intro M9 e9
  have D : y_D n (c + 168 * (2000 - (z_fi M 645 (n + 1)).toInt).toNat) (s + 754 * (2000 - (z_fi M 645 (n + 1)).toInt).toNat) M M9 := y_Dof (r_w (r_sfi I8 e9 (by decide +kernel)) (by omega) (by omega))
  exact k 0 M9 (Or.inr (Or.inr ⟨hp, ⟨hq, hq2⟩, rfl⟩)) (y_Wd W D) (y_DT D)
end CD
