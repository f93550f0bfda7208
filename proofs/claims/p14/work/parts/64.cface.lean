/-! ===== THE CLASS: its face, the pieces ===== -/
/-- behind a call of the class: the invariant; the reference and now are as they were -/
def y_D (n c s : Nat) (M M1 : z_Mem) : Prop := y_CI n c s M1 M1 ∧ (∀ g, 1536 ≤ g → z_fi M1 g (n + 40) = z_fi M g (n + 40)) ∧ (∀ x j, 41 ≤ x → x < 107 → z_ai M1 (n + x) j = z_ai M (n + x) j) ∧ z_fi M1 645 (n + 1) = z_fi M 645 (n + 1)
section CF
variable {n c s : Nat} {M0 M M1 M2 : z_Mem} {p1 p2 p3 : Int32}
theorem y_Dof (I : y_CI n c s M M1) : y_D n c s M M1 := ⟨r_rf I, I.2.2.2.2.1.1, I.2.2.2.2.2.1, I.2.2.2.2.1.2.1 645 (by decide) _ (by omega)⟩
theorem y_Dtr {c1 s1 : Nat} (h : y_D n c1 s1 M M1) (k : y_D n c s M1 M2) : y_D n c s M M2 := ⟨k.1, fun g hg => (k.2.1 g hg).trans (h.2.1 g hg), fun x j h1 h2 => (k.2.2.1 x j h1 h2).trans (h.2.2.1 x j h1 h2), k.2.2.2.trans h.2.2.2⟩
theorem y_Dw {c1 s1 : Nat} (h : y_D n c1 s1 M M1) (hc : c ≤ c1) (hs : s ≤ s1) : y_D n c s M M1 := ⟨r_w h.1 hc hs, h.2⟩
theorem r_388 {a : Nat} {v : Int32} (I : y_CI n c s M0 M) (e : M1 = z_sfi M 388 a v) : y_D n c s M M1 := by
  subst e
  obtain ⟨S, L, R, A, F, G⟩ := I
  exact ⟨⟨S, L, R, A, ⟨fun _ _ => rfl, fun _ _ _ _ => rfl, Iff.rfl⟩, fun _ _ _ _ => rfl, fun _ _ _ => rfl, Nat.le_refl _, fun _ h => h⟩, fun g hg => by rw [zq_fi_sfi, if_neg (by omega)], fun _ _ _ _ => rfl, by rw [zq_fi_sfi, if_neg (by decide)]⟩
theorem r_1027 {a : Nat} {v : Int32} (I : y_CI n c s M0 M) (e : M1 = z_sfi M 1027 a v) : y_D n c s M M1 := by
  subst e
  obtain ⟨S, L, R, A, F, G⟩ := I
  exact ⟨⟨S, L, R, A, ⟨fun _ _ => rfl, fun _ _ _ _ => rfl, Iff.rfl⟩, fun _ _ _ _ => rfl, fun _ _ _ => rfl, Nat.le_refl _, fun _ h => h⟩, fun g hg => by rw [zq_fi_sfi, if_neg (by omega)], fun _ _ _ _ => rfl, by rw [zq_fi_sfi, if_neg (by decide)]⟩
theorem r_256 {a : Nat} {v : Int32} (I : y_CI n c s M0 M) (e : M1 = z_sfi M 256 a v) : y_D n c s M M1 := by
  subst e
  obtain ⟨S, L, R, A, F, G⟩ := I
  exact ⟨⟨S, L, R, A, ⟨fun _ _ => rfl, fun _ _ _ _ => rfl, Iff.rfl⟩, fun _ _ _ _ => rfl, fun _ _ _ => rfl, Nat.le_refl _, fun _ h => h⟩, fun g hg => by rw [zq_fi_sfi, if_neg (by omega)], fun _ _ _ _ => rfl, by rw [zq_fi_sfi, if_neg (by decide)]⟩
theorem r_1152 {a : Nat} {v : Int32} (I : y_CI n c s M0 M) (e : M1 = z_sfi M 1152 a v) : y_D n c s M M1 := by
  subst e
  obtain ⟨S, L, R, A, F, G⟩ := I
  exact ⟨⟨S, L, R, A, ⟨fun _ _ => rfl, fun _ _ _ _ => rfl, Iff.rfl⟩, fun _ _ _ _ => rfl, fun _ _ _ => rfl, Nat.le_refl _, fun _ h => h⟩, fun g hg => by rw [zq_fi_sfi, if_neg (by omega)], fun _ _ _ _ => rfl, by rw [zq_fi_sfi, if_neg (by decide)]⟩
theorem r_645 {a : Nat} {v : Int32} (I : y_CI n c s M0 M) (e : M1 = z_sfi M 645 a v) : y_CI n c s M1 M1 := by
  subst e
  obtain ⟨S, L, R, A, F, G⟩ := I
  exact ⟨S, L, R, A, ⟨fun _ _ => rfl, fun _ _ _ _ => rfl, Iff.rfl⟩, fun _ _ _ _ => rfl, fun _ _ _ => rfl, Nat.le_refl _, fun _ h => h⟩
theorem r_sal {a j : Nat} {v : Int64} (I : y_CI n c s M0 M) (e : M1 = z_sal M a j v) : y_D n c s M M1 := by
  subst e
  obtain ⟨S, L, R, A, F, G⟩ := I
  exact ⟨⟨S, L, R, A, ⟨fun _ _ => rfl, fun _ _ _ _ => rfl, Iff.rfl⟩, fun _ _ _ _ => rfl, fun _ _ _ => rfl, Nat.le_refl _, fun _ h => h⟩, fun _ _ => rfl, fun _ _ _ _ => rfl, rfl⟩
theorem r_rate {a : Nat} {v : Int32} (I : y_CI n c s M0 M) (e : M1 = z_sfi M 385 a v) (h1 : v.toInt ≤ 9) : y_CI n c s M0 M1 := by
  subst e
  obtain ⟨S, L, R, A, F, G⟩ := I
  refine ⟨S, ⟨fun x hx => ?_, L.2⟩, R, A, y_Fsp (by decide) (by decide) (by decide) F, G⟩
  obtain ⟨q1, q2, q3, q4, q5⟩ := L.1 x hx
  rw [y_spne (k := 394) (by decide), y_spne (k := 395) (by decide), zq_fi_sfi, if_pos rfl]
  split
  · exact ⟨q1, q2, q3, q4, h1⟩
  · exact ⟨q1, q2, q3, q4, q5⟩
theorem t_exc {E : String} {PX : String → z_Mem → Prop} (I : y_CI n (c + 6) (s + 32) M M) (kx : ∀ M1, y_D n c s M M1 → PX E M1) : z_room M 6 ∧ (∀ k w, k ≤ 1 → w ≤ 6 → PX E (z_exc M k w)) :=
  ⟨r_room (c := c) (s := s) (w := 6) (r_w I (by omega) (by omega)), fun k w hk hw => kx _ (y_Dof (r_exc (c := c) (s := s) (r_w I (by omega) (by omega)) hk hw))⟩
theorem t_rp {Post : z_Mem → Prop} {PX : String → z_Mem → Prop} (I : y_CI n (c + 6) (s + 32) M M) (kI : ¬ (0 ≤ p1.toInt ∧ p1.toInt ≤ 1) → ∀ M1, y_D n c s M M1 → PX "java/lang/IndexOutOfBoundsException" M1) (k : 0 ≤ p1.toInt ∧ p1.toInt ≤ 1 → Post M) : P_X11_requirePath p1 M Post PX := by
  refine And.intro (fun c1 => t_exc I (kI ?_)) (fun c1 => And.intro (fun c2 => k ?_) (fun c2 => t_exc I (kI ?_)))
  · have := i_lt c1 rfl (show (0 : Int32).toInt = 0 from rfl); omega
  · have := i_nlt c1 rfl (show (0 : Int32).toInt = 0 from rfl); have := i_le c2 rfl (show (1 : Int32).toInt = 1 from rfl); omega
  · have := i_nle c2 rfl (show (1 : Int32).toInt = 1 from rfl); omega
theorem t_rst {Post : z_Mem → Prop} {PX : String → z_Mem → Prop} (I : y_CI n (c + 6) (s + 32) M M) (kI : ¬ (0 ≤ p1.toInt ∧ p1.toInt ≤ 3) → ∀ M1, y_D n c s M M1 → PX "java/lang/IndexOutOfBoundsException" M1) (k : 0 ≤ p1.toInt ∧ p1.toInt ≤ 3 → Post M) : P_X11_requireStream p1 M Post PX := by
  refine And.intro (fun c1 => t_exc I (kI ?_)) (fun c1 => And.intro (fun c2 => k ?_) (fun c2 => t_exc I (kI ?_)))
  · have := i_lt c1 rfl (show (0 : Int32).toInt = 0 from rfl); omega
  · have := i_nlt c1 rfl (show (0 : Int32).toInt = 0 from rfl); have := i_lt c2 rfl (show (4 : Int32).toInt = 4 from rfl); omega
  · have := i_nlt c2 rfl (show (4 : Int32).toInt = 4 from rfl); omega
theorem t_rr {lo hi : Int32} {a b : Int} {Post : z_Mem → Prop} {PX : String → z_Mem → Prop} (I : y_CI n (c + 6) (s + 32) M M) (ha : lo.toInt = a) (hb : hi.toInt = b) (kA : ¬ (a ≤ p1.toInt ∧ p1.toInt ≤ b) → ∀ M1, y_D n c s M M1 → PX "java/lang/IllegalArgumentException" M1) (k : a ≤ p1.toInt ∧ p1.toInt ≤ b → Post M) : P_X11_requireRange p1 lo hi M Post PX := by
  refine And.intro (fun c1 => t_exc I (kA ?_)) (fun c1 => And.intro (fun c2 => k ?_) (fun c2 => t_exc I (kA ?_)))
  · have := i_lt c1 rfl ha; omega
  · have := i_nlt c1 rfl ha; have := i_le c2 rfl hb; omega
  · have := i_nle c2 rfl hb; omega
theorem t_rs {Post : z_Mem → Prop} {PX : String → z_Mem → Prop} (I : y_CI n (c + 6) (s + 32) M M) (kS : p1 = 0 → ∀ M1, y_D n c s M M1 → PX "java/lang/IllegalStateException" M1) (k : ¬ p1 = 0 → Post M) : P_X11_requireState p1 M Post PX :=
  And.intro (fun c1 => t_exc I (kS c1)) (fun c1 => k c1)
theorem t_laneOf {Post : Option Nat → z_Mem → Prop} (I : y_CI n c s M0 M) (k : ∀ a, (a = n + 2 ∨ a = n + 4) → Post (some a) M) : P_X5_laneOf (n + 1) p1 M Post := by
  refine And.intro (fun _ => ?_) (fun _ => ?_)
  · rw [s_640_1 I.1]; exact k _ (Or.inl rfl)
  · rw [s_641_1 I.1]; exact k _ (Or.inr rfl)
theorem t_routeOf {Post : Option Nat → z_Mem → Prop} (I : y_CI n c s M0 M) (k : ∀ a, (a = n + 32 ∨ a = n + 35) → Post (some a) M) : P_X1_routeOf (n + 31) p1 M Post := by
  refine And.intro (fun _ => ?_) (fun _ => ?_)
  · rw [s_130_31 I.1]; exact k _ (Or.inl rfl)
  · rw [s_131_31 I.1]; exact k _ (Or.inr rfl)
end CF
