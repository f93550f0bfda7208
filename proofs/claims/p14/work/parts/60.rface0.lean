/-! ===== THE REFERENCE: its face, the pieces ===== -/
/-- what a call leaves as it was: the class, and the fields that few calls write -/
def rf_K3 (n : Nat) (M0 M : z_Mem) : Prop := (z_fr M = z_fr M0 ∧ z_ln M = z_ln M0 ∧ z_ar M = z_ar M0 ∧ z_al M = z_al M0 ∧ z_sz M = z_sz M0 ∧ z_cl M = z_cl M0 ∧ z_sl M = z_sl M0 ∧ (∀ g a, g < 1536 → z_fi M g a = z_fi M0 g a) ∧ (∀ a j, a < n + 41 ∨ n + 107 ≤ a → z_ai M a j = z_ai M0 a j)) ∧ (∀ x, x ∈ [45, 86, 66] → z_ai M (n + x) = z_ai M0 (n + x)) ∧ (∀ g, g ∈ [1563, 1536] → z_fi M g (n + 40) = z_fi M0 g (n + 40))
/-- the class's part alone -/
def rf_KC (n : Nat) (M0 M : z_Mem) : Prop := z_fr M = z_fr M0 ∧ z_ln M = z_ln M0 ∧ z_ar M = z_ar M0 ∧ z_al M = z_al M0 ∧ z_sz M = z_sz M0 ∧ z_cl M = z_cl M0 ∧ z_sl M = z_sl M0 ∧ (∀ g a, g < 1536 → z_fi M g a = z_fi M0 g a) ∧ (∀ a j, a < n + 41 ∨ n + 107 ≤ a → z_ai M a j = z_ai M0 a j)
section RG
variable {n t s q z : Nat} {M0 M M1 M2 : z_Mem}
theorem rf_K3c (h : rf_K3 n M0 M) : rf_KC n M0 M := h.1
theorem rf_KCrf : rf_KC n M M := ⟨rfl, rfl, rfl, rfl, rfl, rfl, rfl, fun _ _ _ => rfl, fun _ _ _ => rfl⟩
theorem rf_K3rf : rf_K3 n M M := ⟨rf_KCrf, fun _ _ => rfl, fun _ _ => rfl⟩
theorem rf_KCtr (h : rf_KC n M0 M) (k : rf_KC n M M1) : rf_KC n M0 M1 := by
  obtain ⟨a1, a2, a3, a4, a5, a6, a7, a8, a9⟩ := h
  obtain ⟨b1, b2, b3, b4, b5, b6, b7, b8, b9⟩ := k
  exact ⟨b1.trans a1, b2.trans a2, b3.trans a3, b4.trans a4, b5.trans a5, b6.trans a6, b7.trans a7, fun g a h => (b8 g a h).trans (a8 g a h), fun a j h => (b9 a j h).trans (a9 a j h)⟩
theorem rf_K3tr (h : rf_K3 n M0 M) (k : rf_K3 n M M1) : rf_K3 n M0 M1 := ⟨rf_KCtr h.1 k.1, fun x hx => (k.2.1 x hx).trans (h.2.1 x hx), fun g hg => (k.2.2 g hg).trans (h.2.2 g hg)⟩
theorem rf_K3w (h : rf_K n M0 M) : rf_K3 n M0 M := by
  obtain ⟨a1, a2, a3, a4, a5, a6, a7, a8, a9, a10, a11⟩ := h
  exact ⟨⟨a1, a2, a3, a4, a5, a6, a7, a8, a9⟩, fun x hx => a10 x (by revert hx; revert x; decide), fun g hg => a11 g (by revert hg; revert g; decide)⟩
theorem rf_KCa {x j : Nat} {v : Int32} (h1 : 41 ≤ x) (h2 : x < 107) : rf_KC n M (z_sai M (n + x) j v) :=
  ⟨rfl, rfl, rfl, rfl, rfl, rfl, rfl, fun _ _ _ => rfl, fun a i h => by rw [zq_ai_sai, if_neg (by omega)]⟩
theorem rf_KCf {g : Nat} {v : Int32} (h1 : 1536 ≤ g) : rf_KC n M (z_sfi M g (n + 40) v) :=
  ⟨rfl, rfl, rfl, rfl, rfl, rfl, rfl, fun k a h => by rw [zq_fi_sfi, if_neg (by omega)], fun _ _ _ => rfl⟩
theorem rf_K3f {g : Nat} {v : Int32} (h1 : 1536 ≤ g) (h2 : g ∉ ([1563, 1536] : List Nat)) : rf_K3 n M (z_sfi M g (n + 40) v) :=
  ⟨rf_KCf h1, fun _ _ => rfl, fun k hk => by rw [rf_nf (fun (e : k = g) => h2 (e ▸ hk))]⟩
/-- 1630, what was thrown last -/
theorem w_1630 {v : Int32} (J : rf_J n t s q z M0 M) (e : M1 = z_sfi M 1630 (n + 40) v) : rf_J n t s q z M1 M1 := by
  subst e
  obtain ⟨S, ⟨c1, c2, c3, c4, c5, c6, c7, c8, c9, c10, c11, c12⟩, K⟩ := J
  exact ⟨S, ⟨c1, c2.congr (fun y hy => rf_nf (by revert hy; revert y; decide)), c3, c4.congr (fun _ _ => rfl) (fun y hy => rf_nf (by revert hy; revert y; decide)), c5, c6.congr (fun _ _ => rfl) (fun y hy => rf_nf (by revert hy; revert y; decide)), c7, c8.congr (fun _ _ => rfl) (fun y hy => rf_nf (by revert hy; revert y; decide)), c9.congr (fun y hy => rf_nf (by revert hy; revert y; decide)), c10, c11.congr (fun _ _ => rfl) (fun y hy => rf_nf (by revert hy; revert y; decide)), c12.congr (fun _ _ => rfl) (fun y hy => rf_nf (by revert hy; revert y; decide))⟩, rf_Krf⟩
/-- which exception: of the first that fails -/
def rf_cd (p1 p2 p3 : Int32) : Int32 := if p1 = 0 then 1 else if p2 = 0 then 2 else if p3 = 0 then 3 else 0
theorem t_X12_goes {p1 p2 p3 : Int32} {Post : Int32 → z_Mem → Prop} (J : rf_J n t s q z M0 M) (k : ∀ r M1, (r = 1 ∨ r = 0) → (r = 1 → ¬ p1 = 0 ∧ ¬ p2 = 0 ∧ ¬ p3 = 0) → rf_K3 n M M1 → z_fi M1 1630 (n + 40) = rf_cd p1 p2 p3 → (r = 1 ↔ rf_cd p1 p2 p3 = 0) → M1 = z_sfi M 1630 (n + 40) (rf_cd p1 p2 p3) → rf_J n t s q z M1 M1 → Post r M1) : P_X12_goes (n + 40) p1 p2 p3 M Post := by
  have f : ∀ (c r : Int32), rf_cd p1 p2 p3 = c → (r = 1 ∨ r = 0) → (r = 1 → ¬ p1 = 0 ∧ ¬ p2 = 0 ∧ ¬ p3 = 0) → (r = 1 ↔ c = 0) → Post r (z_sfi M 1630 (n + 40) c) := fun c r hc h1 h2 h3 => by
    refine k r _ h1 h2 (rf_K3f (by decide) (by decide)) ?_ ?_ ?_ (w_1630 J rfl)
    · rw [rf_ef, hc]
    · rw [hc]; exact h3
    · rw [hc]
  refine And.intro (fun c1 => ?_) (fun c1 => And.intro (fun c2 => ?_) (fun c2 => And.intro (fun c3 => ?_) (fun c3 => ?_)))
  · intro M13 e13
    rw [e13]
    have hc : rf_cd p1 p2 p3 = 1 := by unfold rf_cd; rw [if_pos c1]
    exact And.intro (fun e => absurd e (by rw [rf_ef]; decide)) (fun _ => f 1 0 hc (Or.inr rfl) (fun h => absurd h (by decide)) ⟨fun h => absurd h (by decide), fun h => absurd h (by decide)⟩)
  · intro M13 e13
    rw [e13]
    have hc : rf_cd p1 p2 p3 = 2 := by unfold rf_cd; rw [if_neg c1, if_pos c2]
    exact And.intro (fun e => absurd e (by rw [rf_ef]; decide)) (fun _ => f 2 0 hc (Or.inr rfl) (fun h => absurd h (by decide)) ⟨fun h => absurd h (by decide), fun h => absurd h (by decide)⟩)
  · intro M13 e13
    rw [e13]
    have hc : rf_cd p1 p2 p3 = 3 := by unfold rf_cd; rw [if_neg c1, if_neg c2, if_pos c3]
    exact And.intro (fun e => absurd e (by rw [rf_ef]; decide)) (fun _ => f 3 0 hc (Or.inr rfl) (fun h => absurd h (by decide)) ⟨fun h => absurd h (by decide), fun h => absurd h (by decide)⟩)
  · intro M13 e13
    rw [e13]
    have hc : rf_cd p1 p2 p3 = 0 := by unfold rf_cd; rw [if_neg c1, if_neg c2, if_neg c3]
    exact And.intro (fun _ => f 0 1 hc (Or.inl rfl) (fun _ => ⟨c1, c2, c3⟩) ⟨fun _ => rfl, fun _ => rfl⟩) (fun e => absurd (by rw [rf_ef]) e)
theorem t_X12_in {p1 p2 p3 : Int32} {Post : Int32 → z_Mem → Prop} (_ : rf_J n t s q z M0 M) (k : ∀ r, (r = 1 ∧ p2.toInt ≤ p1.toInt ∧ p1.toInt ≤ p3.toInt) ∨ (r = 0 ∧ (p1.toInt < p2.toInt ∨ p3.toInt < p1.toInt)) → Post r M) : P_X12_in p1 p2 p3 M Post := by
  refine And.intro (fun c => k _ (Or.inr ⟨rfl, Or.inl (i_lt c rfl rfl)⟩)) (fun c => And.intro (fun c2 => k _ (Or.inr ⟨rfl, Or.inr (i_lt c2 rfl rfl)⟩)) (fun c2 => ?_))
  have a := i_nlt c rfl rfl
  have b := i_nlt c2 rfl rfl
  exact k _ (Or.inl ⟨rfl, by omega, by omega⟩)
theorem rf_in1 {r p1 : Int32} {lo hi : Int} {p2 p3 : Int32} (h : (r = 1 ∧ p2.toInt ≤ p1.toInt ∧ p1.toInt ≤ p3.toInt) ∨ (r = 0 ∧ (p1.toInt < p2.toInt ∨ p3.toInt < p1.toInt))) (hn : ¬ r = 0) (h2 : p2.toInt = lo) (h3 : p3.toInt = hi) : lo ≤ p1.toInt ∧ p1.toInt ≤ hi := by
  rcases h with h | h
  · omega
  · exact absurd h.1 hn
end RG
