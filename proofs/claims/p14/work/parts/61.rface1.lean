/-! ===== THE REFERENCE: its face ===== -/
def rf_spR (p2 p3 p4 p5 : Int32) : Prop := (1 ≤ p2.toInt ∧ p2.toInt ≤ 30) ∧ (1 ≤ p3.toInt ∧ p3.toInt ≤ 9) ∧ (1 ≤ p4.toInt ∧ p4.toInt ≤ 30) ∧ (0 ≤ p5.toInt ∧ p5.toInt ≤ 30)
section RGA
variable {n t s q z : Nat} {M0 M M1 M2 : z_Mem} {p1 p2 p3 p4 p5 : Int32}
theorem rf_cd1 {a b c : Int32} (h : a = 0) : rf_cd a b c = 1 := by unfold rf_cd; rw [if_pos h]
theorem rf_cd2 {a b c : Int32} (h : a = 1) (h2 : b = 0) : rf_cd a b c = 2 := by unfold rf_cd; rw [if_neg (by rw [h]; decide), if_pos h2]
theorem rf_cd3 {a b c : Int32} (h : a = 1) (h2 : b = 1) (h3 : c = 0) : rf_cd a b c = 3 := by unfold rf_cd; rw [if_neg (by rw [h]; decide), if_neg (by rw [h2]; decide), if_pos h3]
theorem rf_cd0 {a b c : Int32} (h : a = 1) (h2 : b = 1) (h3 : c = 1) : rf_cd a b c = 0 := by unfold rf_cd; rw [if_neg (by rw [h]; decide), if_neg (by rw [h2]; decide), if_neg (by rw [h3]; decide)]
/-- an answer to a question: 1 if it holds, 0 if not -/
def rf_b (r : Int32) (P : Prop) : Prop := (r = 1 ∧ P) ∨ (r = 0 ∧ ¬ P)
theorem t_in {lo hi : Int32} {a b : Int} {Post : Int32 → z_Mem → Prop} (J : rf_J n t s q z M0 M) (ha : lo.toInt = a) (hb : hi.toInt = b) (k : ∀ r, rf_b r (a ≤ p1.toInt ∧ p1.toInt ≤ b) → Post r M) : P_X12_in p1 lo hi M Post :=
  t_X12_in J (fun r h => k r (by
    rw [ha, hb] at h
    rcases h with h | h
    · exact Or.inl ⟨h.1, h.2⟩
    · exact Or.inr ⟨h.1, by omega⟩))
theorem t_isPath {Post : Int32 → z_Mem → Prop} (J : rf_J n t s q z M0 M) (k : ∀ r, rf_b r (0 ≤ p1.toInt ∧ p1.toInt ≤ 1) → Post r M) : P_X12_isPath p1 M Post := t_in J rfl rfl k
theorem t_isStream {Post : Int32 → z_Mem → Prop} (J : rf_J n t s q z M0 M) (k : ∀ r, rf_b r (0 ≤ p1.toInt ∧ p1.toInt ≤ 3) → Post r M) : P_X12_isStream p1 M Post := t_in J rfl rfl k
theorem rf_bt {r : Int32} {P : Prop} (h : rf_b r P) (hr : ¬ r = 0) : P := by
  rcases h with h | h
  · exact h.2
  · exact absurd h.1 hr
theorem rf_bf {r : Int32} {P : Prop} (h : rf_b r P) (hr : r = 0) : ¬ P := by
  rcases h with h | h
  · exact absurd (h.1.symm.trans hr) (by decide)
  · exact h.2
theorem rf_b1 {r : Int32} {P : Prop} (h : rf_b r P) (hr : ¬ r = 0) : r = 1 := by
  rcases h with h | h
  · exact h.1
  · exact absurd h.1 hr
/-- what setPath throws: 0, 1 or 2 -/
def rf_spc (p1 p2 p3 p4 p5 v : Int32) : Prop := (¬ (0 ≤ p1.toInt ∧ p1.toInt ≤ 1) ∧ v = 1) ∨ ((0 ≤ p1.toInt ∧ p1.toInt ≤ 1) ∧ ¬ rf_spR p2 p3 p4 p5 ∧ v = 2) ∨ ((0 ≤ p1.toInt ∧ p1.toInt ≤ 1) ∧ rf_spR p2 p3 p4 p5 ∧ v = 0)
theorem rf_cdP {a b : Int32} {P Q : Prop} (ha : rf_b a P) (hb : rf_b b Q) : (¬ P ∧ rf_cd a b 1 = 1) ∨ (P ∧ ¬ Q ∧ rf_cd a b 1 = 2) ∨ (P ∧ Q ∧ rf_cd a b 1 = 0) := by
  rcases ha with ⟨e, h⟩ | ⟨e, h⟩
  · rcases hb with ⟨e2, h2⟩ | ⟨e2, h2⟩
    · exact Or.inr (Or.inr ⟨h, h2, rf_cd0 e e2 rfl⟩)
    · exact Or.inr (Or.inl ⟨h, h2, rf_cd2 e e2⟩)
  · exact Or.inl ⟨h, rf_cd1 e⟩
theorem t_sp52 {x20 b : Int32} {Post : z_Mem → Prop} (J : rf_J n t s q z M0 M) (ha : rf_b x20 (0 ≤ p1.toInt ∧ p1.toInt ≤ 1)) (hb : rf_b b (rf_spR p2 p3 p4 p5)) (k : ∀ M1, rf_J n t s q z M1 M1 → rf_K3 n M M1 → rf_spc p1 p2 p3 p4 p5 (z_fi M1 1630 (n + 40)) → Post M1) : P_X12_setPath_52 (n + 40) Post p1 p2 p3 p4 p5 (some (n + 40)) x20 b M := by
  refine z_nn_of rfl (t_X12_goes J (fun r Mg h1 h2 K p e9 eq Jg => ?_))
  have hc := rf_cdP ha hb
  rw [← p] at hc
  refine And.intro (fun _ => k Mg Jg K hc) (fun c => ?_)
  have hr : r = 1 := by
    rcases h1 with h | h
    · exact h
    · exact absurd h c
  have h2' := h2 hr
  have hp := rf_bt ha h2'.1
  have hR := rf_bt hb h2'.2.1
  unfold rf_spR at hR
  have hv : ∀ {L : Nat}, L = 2 → vp_in p1 L := fun h => vp_of (L := 2) h (by omega) (by omega)
  refine z_nn_of (s_1537_40 Jg.1) (And.intro (hv (s_l41 Jg.1)) ?_)
  intro M7 e7
  have J7 := w_sai Jg e7 (by decide +kernel)
  refine z_nn_of (s_1538_40 J7.1) (And.intro (hv (s_l42 J7.1)) ?_)
  intro M11 e11
  have J11 := w_42 J7 e11 (by omega) (by omega)
  refine z_nn_of (s_1539_40 J11.1) (And.intro (hv (s_l43 J11.1)) ?_)
  intro M15 e15
  have J15 := w_43 J11 e15 (by omega) (by omega)
  refine z_nn_of (s_1540_40 J15.1) (And.intro (hv (s_l44 J15.1)) ?_)
  intro M19 e19
  have J19 := w_sai J15 e19 (by decide +kernel)
  refine k M19 (rf_rf J19) (rf_K3tr K (rf_K3w J19.2.2)) ?_
  rw [show z_fi M19 1630 (n + 40) = z_fi Mg 1630 (n + 40) from J19.2.2.2.2.2.2.2.2.2.2.2.2 1630 (by decide)]
  exact hc
theorem t_X12_setPath {Post : z_Mem → Prop} (J : rf_J n t s q z M0 M) (k : ∀ M1, rf_J n t s q z M1 M1 → rf_K3 n M M1 → rf_spc p1 p2 p3 p4 p5 (z_fi M1 1630 (n + 40)) → Post M1) : P_X12_setPath (n + 40) p1 p2 p3 p4 p5 M Post := by
  refine t_isPath J (fun x20 h20 => t_in J (show (1 : Int32).toInt = 1 from rfl) (show (30 : Int32).toInt = 30 from rfl) (fun x21 h21 => And.intro (fun c => ?_) (fun c => t_in J (show (1 : Int32).toInt = 1 from rfl) (show (9 : Int32).toInt = 9 from rfl) (fun x23 h23 => And.intro (fun c2 => ?_) (fun c2 => t_in J (show (1 : Int32).toInt = 1 from rfl) (show (30 : Int32).toInt = 30 from rfl) (fun x25 h25 => And.intro (fun c3 => ?_) (fun c3 => t_in J (show (0 : Int32).toInt = 0 from rfl) (show (30 : Int32).toInt = 30 from rfl) (fun x27 h27 => And.intro (fun c4 => ?_) (fun c4 => ?_))))))))) 
  · exact t_sp52 J h20 (Or.inr ⟨rfl, fun h => rf_bf h21 c h.1⟩) k
  · exact t_sp52 J h20 (Or.inr ⟨rfl, fun h => rf_bf h23 c2 h.2.1⟩) k
  · exact t_sp52 J h20 (Or.inr ⟨rfl, fun h => rf_bf h25 c3 h.2.2.1⟩) k
  · exact t_sp52 J h20 (Or.inr ⟨rfl, fun h => rf_bf h27 c4 h.2.2.2⟩) k
  · exact t_sp52 J h20 (Or.inl ⟨rfl, rf_bt h21 c, rf_bt h23 c2, rf_bt h25 c3, rf_bt h27 c4⟩) k
/-- row 45: up or down -/
theorem w_45 {j : Nat} {v : Int32} (J : rf_J n t s q z M0 M) (e : M1 = z_sai M (n + 45) j v) : rf_J n t s q z M1 M1 := by
  subst e
  obtain ⟨S, ⟨c1, c2, c3, c4, c5, c6, c7, c8, c9, c10, c11, c12⟩, K⟩ := J
  exact ⟨S, ⟨c1.congr (fun y hy => rf_na (by revert hy; revert y; decide)), c2, c3.congr (fun y hy => rf_na (by revert hy; revert y; decide)), c4.congr (fun y hy => rf_na (by revert hy; revert y; decide)) (fun _ _ => rfl), c5.congr (fun y hy => rf_na (by revert hy; revert y; decide)), c6.congr (fun y hy => rf_na (by revert hy; revert y; decide)) (fun _ _ => rfl), c7.congr (fun y hy => rf_na (by revert hy; revert y; decide)), c8.congr (fun y hy => rf_na (by revert hy; revert y; decide)) (fun _ _ => rfl), c9, c10.congr (fun y hy => rf_na (by revert hy; revert y; decide)), c11.congr (fun y hy => rf_na (by revert hy; revert y; decide)) (fun _ _ => rfl), c12.congr (fun y hy => rf_na (by revert hy; revert y; decide)) (fun _ _ => rfl)⟩, rf_Krf⟩
theorem w_86 {j : Nat} {v : Int32} (J : rf_J n t s q z M0 M) (e : M1 = z_sai M (n + 86) j v) : rf_J n t s q z M1 M1 := by
  subst e
  obtain ⟨S, ⟨c1, c2, c3, c4, c5, c6, c7, c8, c9, c10, c11, c12⟩, K⟩ := J
  exact ⟨S, ⟨c1.congr (fun y hy => rf_na (by revert hy; revert y; decide)), c2, c3.congr (fun y hy => rf_na (by revert hy; revert y; decide)), c4.congr (fun y hy => rf_na (by revert hy; revert y; decide)) (fun _ _ => rfl), c5.congr (fun y hy => rf_na (by revert hy; revert y; decide)), c6.congr (fun y hy => rf_na (by revert hy; revert y; decide)) (fun _ _ => rfl), c7.congr (fun y hy => rf_na (by revert hy; revert y; decide)), c8.congr (fun y hy => rf_na (by revert hy; revert y; decide)) (fun _ _ => rfl), c9, c10.congr (fun y hy => rf_na (by revert hy; revert y; decide)), c11.congr (fun y hy => rf_na (by revert hy; revert y; decide)) (fun _ _ => rfl), c12.congr (fun y hy => rf_na (by revert hy; revert y; decide)) (fun _ _ => rfl)⟩, rf_Krf⟩
theorem w_1563 {v : Int32} (J : rf_J n t s q z M0 M) (e : M1 = z_sfi M 1563 (n + 40) v) : rf_J n t s q z M1 M1 := by
  subst e
  obtain ⟨S, ⟨c1, c2, c3, c4, c5, c6, c7, c8, c9, c10, c11, c12⟩, K⟩ := J
  exact ⟨S, ⟨c1, c2.congr (fun y hy => rf_nf (by revert hy; revert y; decide)), c3, c4.congr (fun _ _ => rfl) (fun y hy => rf_nf (by revert hy; revert y; decide)), c5, c6.congr (fun _ _ => rfl) (fun y hy => rf_nf (by revert hy; revert y; decide)), c7, c8.congr (fun _ _ => rfl) (fun y hy => rf_nf (by revert hy; revert y; decide)), c9.congr (fun y hy => rf_nf (by revert hy; revert y; decide)), c10, c11.congr (fun _ _ => rfl) (fun y hy => rf_nf (by revert hy; revert y; decide)), c12.congr (fun _ _ => rfl) (fun y hy => rf_nf (by revert hy; revert y; decide))⟩, rf_Krf⟩
theorem t_X12_setUp {Post : Int32 → z_Mem → Prop} (J : rf_J n t s q z M0 M) (k : ∀ r M1, rf_J n t s q z M1 M1 → rf_KC n M M1 → Post r M1) : P_X12_setUp (n + 40) p1 p2 M Post := by
  refine t_isPath J (fun x9 h9 => t_X12_goes J (fun r Mg h1 h2 K p e9 eq Jg => And.intro (fun _ => k _ Mg Jg K.1) (fun c => ?_)))
  have hr : r = 1 := h1.elim id (fun h => absurd h c)
  have hp := rf_bt h9 (h2 hr).1
  have hv : ∀ {L : Nat}, L = 2 → vp_in p1 L := fun h => vp_of (L := 2) h (by omega) (by omega)
  have f29 : ∀ v : Int32, P_X12_setUp_29 (n + 40) Post p1 p2 v Mg := fun v => by
    refine And.intro (fun _ => z_nn_of (s_1541_40 Jg.1) (And.intro (hv (s_l45 Jg.1)) ?_)) (fun _ => z_nn_of (s_1541_40 Jg.1) (And.intro (hv (s_l45 Jg.1)) ?_))
    · intro M8 e8
      exact k _ M8 (w_45 Jg e8) (rf_KCtr K.1 (by rw [e8]; exact rf_KCa (by decide) (by decide)))
    · intro M5 e5
      exact k _ M5 (w_45 Jg e5) (rf_KCtr K.1 (by rw [e5]; exact rf_KCa (by decide) (by decide)))
  exact z_nn_of (s_1541_40 Jg.1) (And.intro (hv (s_l45 Jg.1)) (And.intro (fun _ => f29 1) (fun _ => f29 0)))
theorem t_X12_lose {Post : z_Mem → Prop} (J : rf_J n t s q z M0 M) (k : ∀ M1, rf_J n t s q z M1 M1 → rf_K3 n M M1 → Post M1) : P_X12_lose (n + 40) p1 p2 p3 M Post := by
  refine t_isPath J (fun x1 hx1 => t_in J rfl rfl (fun x2 hx2 => t_X12_goes J (fun r Mg h1 h2 K p e9 eq Jg => And.intro (fun _ => k Mg Jg K) (fun c => ?_))))
  have hr : r = 1 := h1.elim id (fun h => absurd h c)
  have hp := rf_bt hx1 (h2 hr).1
  have hv : ∀ {L : Nat}, L = 2 → vp_in p1 L := fun h => vp_of (L := 2) h (by omega) (by omega)
  refine And.intro (fun _ => z_nn_of (s_1543_40 Jg.1) (And.intro (hv (s_l47 Jg.1)) ?_)) (fun _ => z_nn_of (s_1542_40 Jg.1) (And.intro (hv (s_l46 Jg.1)) ?_))
  · intro M9 e9
    have J9 := w_sai Jg e9 (by decide +kernel)
    exact k M9 (rf_rf J9) (rf_K3tr K (rf_K3w J9.2.2))
  · intro M9 e9
    have J9 := w_sai Jg e9 (by decide +kernel)
    exact k M9 (rf_rf J9) (rf_K3tr K (rf_K3w J9.2.2))
theorem t_X12_late {Post : z_Mem → Prop} (J : rf_J n t s q z M0 M) (k : ∀ M1, rf_J n t s q z M1 M1 → rf_K3 n M M1 → Post M1) : P_X12_late (n + 40) p1 p2 p3 M Post := by
  have f30 : ∀ (x12 b : Int32), rf_b x12 (0 ≤ p1.toInt ∧ p1.toInt ≤ 1) → P_X12_late_30 (n + 40) Post p1 p2 p3 (some (n + 40)) x12 b M := fun x12 b hx1 => by
    refine z_nn_of rfl (t_X12_goes J (fun r Mg h1 h2 K p e9 eq Jg => And.intro (fun _ => k Mg Jg K) (fun c => ?_)))
    have hr : r = 1 := h1.elim id (fun h => absurd h c)
    have hp := rf_bt hx1 (h2 hr).1
    have hv : ∀ {L : Nat}, L = 2 → vp_in p1 L := fun h => vp_of (L := 2) h (by omega) (by omega)
    refine z_nn_of (s_1544_40 Jg.1) (And.intro (hv (s_l48 Jg.1)) ?_)
    intro M7 e7
    have J7 := w_sai Jg e7 (by decide +kernel)
    refine z_nn_of (s_1545_40 J7.1) (And.intro (hv (s_l49 J7.1)) ?_)
    intro M11 e11
    have J11 := w_sai J7 e11 (by decide +kernel)
    exact k M11 (rf_rf J11) (rf_K3tr K (rf_K3w J11.2.2))
  exact t_isPath J (fun x12 h12 => t_in J rfl rfl (fun x13 _ => And.intro (fun _ => f30 x12 0 h12) (fun _ => t_in J rfl rfl (fun x15 _ => And.intro (fun _ => f30 x12 0 h12) (fun _ => f30 x12 1 h12)))))
theorem t_X12_setWay {Post : Int32 → z_Mem → Prop} (J : rf_J n t s q z M0 M) (k : ∀ r M1, rf_J n t s q z M1 M1 → rf_KC n M M1 → Post r M1) : P_X12_setWay (n + 40) p1 p2 M Post := by
  refine t_isPath J (fun x1 hx1 => t_in J rfl rfl (fun x2 hx2 => t_X12_goes J (fun r Mg h1 h2 K p e9 eq Jg => And.intro (fun _ => k _ Mg Jg K.1) (fun c => ?_))))
  have hr : r = 1 := h1.elim id (fun h => absurd h c)
  have hp := rf_bt hx1 (h2 hr).1
  have hv : ∀ {L : Nat}, L = 2 → vp_in p1 L := fun h => vp_of (L := 2) h (by omega) (by omega)
  refine z_nn_of (s_1609_40 Jg.1) (And.intro (hv (s_l86 Jg.1)) ?_)
  intro x8 _
  refine z_nn_of (s_1609_40 Jg.1) (And.intro (hv (s_l86 Jg.1)) ?_)
  intro M12 e12
  exact k _ M12 (w_86 Jg e12) (rf_KCtr K.1 (by rw [e12]; exact rf_KCa (by decide) (by decide)))
theorem t_X12_setCookies {Post : Int32 → z_Mem → Prop} (J : rf_J n t s q z M0 M) (k : ∀ r M1, rf_J n t s q z M1 M1 → rf_KC n M M1 → Post r M1) : P_X12_setCookies (n + 40) p1 M Post := by
  intro M2 e2 x4 _ M5 e5
  have J2 := w_1630 J e2
  exact k _ M5 (w_1563 J2 e5) (rf_KCtr (M := M2) (by rw [e2]; exact rf_KCf (by decide)) (by rw [e5]; exact rf_KCf (by decide)))
end RGA
