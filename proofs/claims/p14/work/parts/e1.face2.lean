/-! ===== THE CLASS: a row is marked, is cleared: nothing else ===== -/
section UR
variable {n : Nat} {M M0 M1 M2 : z_Mem}
theorem u_zA2 {M : z_Mem} {a j : Nat} {v : Int32} {f : Nat → Int32} : z_sai (zA M a f) a j v = zA M a (fun i => if i = j then v else f i) := zA_sai
theorem u_mark6 {row : Nat} {x1 x2 : Int32} (hl : z_ln M0 row = 200) : ∀ (m : Nat) (x3 : Int32) (M : z_Mem), 200 - x3.toInt ≤ m → 0 ≤ x3.toInt → (∃ f, M = zA M0 row f) → ∃ f, cF_X11_markRow_6 (some row) x1 x2 x3 M = zA M0 row f := by
  intro m
  induction m with
  | zero =>
    intro x3 M hm h0 Z
    obtain ⟨f, e⟩ := Z
    have hB := cE_X11_markRow_6 (some row) x1 x2 x3 M
    by_cases c1 : x1 + x2 ≤ x3
    · rw [if_pos c1] at hB
      exact ⟨f, (cUr_X11_markRow_6 hB).trans e⟩
    · rw [if_neg c1] at hB
      replace hB := hB.trans (q_ste (b := row) rfl)
      have el : z_ln M row = 200 := by rw [e]; exact hl
      have c2 : nI (z_ln M row) ≤ x3 := by rw [el, Int32.le_iff_toInt_le, jI_t (by decide)]; omega
      rw [if_pos c2] at hB
      exact ⟨f, (cUr_X11_markRow_6 hB).trans e⟩
  | succ m ih =>
    intro x3 M hm h0 Z
    obtain ⟨f, e⟩ := Z
    have hB := cE_X11_markRow_6 (some row) x1 x2 x3 M
    by_cases c1 : x1 + x2 ≤ x3
    · rw [if_pos c1] at hB
      exact ⟨f, (cUr_X11_markRow_6 hB).trans e⟩
    · rw [if_neg c1] at hB
      replace hB := hB.trans (q_ste (b := row) rfl)
      have el : z_ln M row = 200 := by rw [e]; exact hl
      by_cases c2 : nI (z_ln M row) ≤ x3
      · rw [if_pos c2] at hB
        exact ⟨f, (cUr_X11_markRow_6 hB).trans e⟩
      · rw [if_neg c2] at hB
        have c2' := c2
        rw [el, Int32.le_iff_toInt_le, jI_t (by decide)] at c2'
        replace hB := hB.trans (q_ste rfl)
        replace hB := hB.trans (q_ste rfl)
        rw [cUl_X11_markRow_6 hB]
        have e1 : (x3 + 1).toInt = x3.toInt + 1 := i_addE rfl (show (1 : Int32).toInt = 1 from rfl) (by omega) (by omega)
        exact ih (x3 + 1) _ (by omega) (by omega) (by rw [e]; exact ⟨_, u_zA2⟩)
theorem u_clear2 {row : Nat} (hl : z_ln M0 row = 200) : ∀ (m : Nat) (x3 : Int32) (M : z_Mem), 200 - x3.toInt ≤ m → 0 ≤ x3.toInt → (∃ f, M = zA M0 row f) → ∃ f, cF_X11_clearRow_2 (some row) x3 M = zA M0 row f := by
  intro m
  induction m with
  | zero =>
    intro x3 M hm h0 Z
    obtain ⟨f, e⟩ := Z
    have hB := cE_X11_clearRow_2 (some row) x3 M
    replace hB := hB.trans (q_ste (b := row) rfl)
    have el : z_ln M row = 200 := by rw [e]; exact hl
    have c2 : nI (z_ln M row) ≤ x3 := by rw [el, Int32.le_iff_toInt_le, jI_t (by decide)]; omega
    rw [if_pos c2] at hB
    exact ⟨f, (cUr_X11_clearRow_2 hB).trans e⟩
  | succ m ih =>
    intro x3 M hm h0 Z
    obtain ⟨f, e⟩ := Z
    have hB := cE_X11_clearRow_2 (some row) x3 M
    replace hB := hB.trans (q_ste (b := row) rfl)
    have el : z_ln M row = 200 := by rw [e]; exact hl
    by_cases c2 : nI (z_ln M row) ≤ x3
    · rw [if_pos c2] at hB
      exact ⟨f, (cUr_X11_clearRow_2 hB).trans e⟩
    · rw [if_neg c2] at hB
      have c2' := c2
      rw [el, Int32.le_iff_toInt_le, jI_t (by decide)] at c2'
      replace hB := hB.trans (q_ste rfl)
      replace hB := hB.trans (q_ste rfl)
      rw [cUl_X11_clearRow_2 hB]
      have e1 : (x3 + 1).toInt = x3.toInt + 1 := i_addE rfl (show (1 : Int32).toInt = 1 from rfl) (by omega) (by omega)
      exact ih (x3 + 1) _ (by omega) (by omega) (by rw [e]; exact ⟨_, u_zA2⟩)
theorem u_mark39 {p2 p3 : Int32} (hl : z_ln M (n + 39) = 200) (Z : ∃ f, M = zA M0 (n + 39) f) : ∃ f, cF_X11_markRow (some (n + 39)) p2 p3 M = zA M0 (n + 39) f := by
  have h0 : z_ln M0 (n + 39) = 200 := by
    obtain ⟨f, e⟩ := Z
    rw [e] at hl; exact hl
  have hB := cE_X11_markRow (some (n + 39)) p2 p3 M
  replace hB := hB.trans (q_ste rfl)
  rw [hB]
  have hp : 0 ≤ (if 0 < p2 then p2 else 0 : Int32).toInt := by
    by_cases c : 0 < p2
    · rw [if_pos c]
      rw [Int32.lt_iff_toInt_lt, show (0 : Int32).toInt = 0 from rfl] at c; omega
    · rw [if_neg c]; decide
  exact u_mark6 h0 200 _ M (by omega) hp Z
theorem u_clear39 (hl : z_ln M (n + 39) = 200) : ∃ f, cF_X11_clearRow (some (n + 39)) M = zA M (n + 39) f := by
  rw [cE_X11_clearRow]
  exact u_clear2 hl 200 0 M (by decide) (by decide) ⟨z_ai M (n + 39), zA_id.symm⟩
end UR
/-! ===== THE CLASS: its face, with what it does (2) ===== -/
section UG
variable {n c s : Nat} {M0 M M1 M2 : z_Mem} {p1 p2 p3 p4 p5 : Int32} {PX : String → z_Mem → Prop}
theorem u_X11_state {Post : Int32 → z_Mem → Prop} (I : y_CI n (c + 6) (s + 32) M M) (k : ∀ r, Post r M) (kA : ∀ M1, y_DX n c s M M1 → PX "java/lang/IllegalArgumentException" M1) : P_X11_state n p1 M Post PX :=
  u_rr I rfl rfl (fun _ => kA) (fun _ => And.intro (fun _ => z_nn_of (s_1411_0 I.1) (k _)) (And.intro (fun _ => z_nn_of (s_1410_0 I.1) (k _)) (And.intro (fun _ => z_nn_of (s_1411_0 I.1) (k _)) (And.intro (fun _ => z_nn_of (s_1410_0 I.1) (k _)) (fun _ => z_nn_of (s_1411_0 I.1) (k _))))))
theorem u_asNum {Post : Int32 → z_Mem → Prop} (k : ∀ r, Post r M) : P_X11_asNumber p1 M Post := And.intro (fun _ => k _) (fun _ => k _)
theorem u_X11_path {Post : Int32 → z_Mem → Prop} (I : y_CI n (c + 6) (s + 32) M M) (k : ∀ r, Post r M) (kI : ∀ M1, y_DX n c s M M1 → PX "java/lang/IndexOutOfBoundsException" M1) (kA : ∀ M1, y_DX n c s M M1 → PX "java/lang/IllegalArgumentException" M1) : P_X11_path n p1 p2 M Post PX := by
  refine u_rp I (fun _ => kI) (fun hp => u_rr I rfl rfl (fun _ => kA) (fun _ => z_nn_of (s_1411_0 I.1) (t_routeOf I (fun a ha => ?_))))
  obtain ⟨g, hg⟩ : ∃ g, z_fr M 897 a = some g := by
    rcases ha with rfl | rfl
    · exact ⟨_, s_897_32 I.1⟩
    · exact ⟨_, s_897_35 I.1⟩
  exact And.intro (fun _ => z_nn_of rfl (z_nn_of hg (k _))) (And.intro (fun _ => z_nn_of rfl (z_nn_of hg (k _))) (And.intro (fun _ => z_nn_of rfl (k _)) (And.intro (fun _ => z_nn_of rfl (k _)) (And.intro (fun _ => z_nn_of rfl (k _)) (And.intro (fun _ => z_nn_of rfl (k _)) (And.intro (fun _ => z_nn_of rfl (k _)) (And.intro (fun _ => z_nn_of rfl (u_asNum k)) (fun _ => z_nn_of (s_1408_0 I.1) (t_laneOf I (fun b hb => z_nn_of rfl (k _)))))))))))
theorem u_X11_stream {Post : Int32 → z_Mem → Prop} (I : y_CI n (c + 6) (s + 32) M M) (k : ∀ r, Post r M) (kI : ∀ M1, y_DX n c s M M1 → PX "java/lang/IndexOutOfBoundsException" M1) (kA : ∀ M1, y_DX n c s M M1 → PX "java/lang/IllegalArgumentException" M1) : P_X11_stream n p1 p2 M Post PX := by
  refine u_rst I (fun _ => kI) (fun hp => u_rr I rfl rfl (fun _ => kA) (fun _ => z_nn_of (s_1409_0 I.1) (And.intro (vp_of (L := 4) (s_l11 I.1) hp.1 (by omega)) ?_)))
  obtain ⟨st, hs, -⟩ := t_strAt (x := p1) I.1 hp.1 (by omega)
  exact And.intro (fun _ => z_nn_of hs (k _)) (And.intro (fun _ => z_nn_of hs (k _)) (And.intro (fun _ => z_nn_of hs (k _)) (And.intro (fun _ => z_nn_of hs (k _)) (And.intro (fun _ => z_nn_of hs (k _)) (And.intro (fun _ => z_nn_of hs (k _)) (fun _ => z_nn_of hs (k _)))))))
theorem u_X11_packet {Post : Int32 → z_Mem → Prop} (I : y_CI n (c + 6) (s + 32) M M) (k : ∀ r, Post r M) (kI : ∀ M1, y_DX n c s M M1 → PX "java/lang/IndexOutOfBoundsException" M1) (kA : ∀ M1, y_DX n c s M M1 → PX "java/lang/IllegalArgumentException" M1) : P_X11_packet n p1 p2 M Post PX := by
  refine z_nn_of (s_1411_0 I.1) (t_X1_packetAt I rfl (fun x2 => And.intro (fun _ => u_exc I kI) (fun a4 h4 => ?_)))
  subst h4
  exact u_rr I rfl rfl (fun _ => kA) (fun _ => And.intro (fun _ => z_nn_of rfl (k _)) (And.intro (fun _ => z_nn_of rfl (k _)) (And.intro (fun _ => z_nn_of rfl (k _)) (And.intro (fun _ => z_nn_of rfl (k _)) (And.intro (fun _ => z_nn_of rfl (k _)) (And.intro (fun _ => z_nn_of rfl (k _)) (And.intro (fun _ => z_nn_of rfl (k _)) (And.intro (fun _ => z_nn_of rfl (k _)) (And.intro (fun _ => z_nn_of rfl (u_asNum k)) (And.intro (fun _ => z_nn_of rfl (u_asNum k)) (fun _ => z_nn_of rfl (u_asNum k))))))))))))
theorem u_X11_count {Post : Int32 → z_Mem → Prop} (I : y_CI n (c + 6) (s + 32) M M) (k : ∀ r, Post r M) (kA : ∀ M1, y_DX n c s M M1 → PX "java/lang/IllegalArgumentException" M1) : P_X11_count n p1 M Post PX := by
  refine u_rr I rfl rfl (fun _ => kA) (fun _ => z_nn_of (s_1411_0 I.1) (t_routeOf I (fun a ha => z_nn_of (s_1411_0 I.1) (t_routeOf I (fun b hb => ?_)))))
  have hr : ∀ a, (a = n + 32 ∨ a = n + 35) → ∃ g, z_fr M 897 a = some g := fun a ha => by
    rcases ha with rfl | rfl
    · exact ⟨_, s_897_32 I.1⟩
    · exact ⟨_, s_897_35 I.1⟩
  obtain ⟨g, hg⟩ := hr a ha
  obtain ⟨g2, hg2⟩ := hr b hb
  exact And.intro (fun _ => z_nn_of rfl (z_nn_of rfl (k _))) (And.intro (fun _ => z_nn_of rfl (z_nn_of rfl (k _))) (And.intro (fun _ => z_nn_of rfl (z_nn_of rfl (k _))) (And.intro (fun _ => z_nn_of (s_1411_0 I.1) (k _)) (And.intro (fun _ => z_nn_of (s_1410_0 I.1) (k _)) (fun _ => z_nn_of rfl (z_nn_of hg (z_nn_of rfl (z_nn_of hg2 (k _)))))))))
theorem u_ifa8 {Post : Int32 → z_Mem → Prop} (I : y_CI n c s M0 M) (k : ∀ r, Post r M) : ∀ (m : Nat) (x1 x2 x3 : Int32), (400 - x3.toInt).toNat < m → P_X11_inFlightAnew_8 n Post PX m x1 x2 x3 M := by
  have ls := y_sent I
  intro m
  induction m with
  | zero => intro x1 x2 x3 h; exact absurd h (Nat.not_lt_zero _)
  | succ m ih =>
    intro x1 x2 x3 hm
    refine z_nn_of (s_1411_0 I.1) (And.intro (fun _ => k _) (fun c1 => z_nn_of (s_1411_0 I.1) (t_X1_packetAt I rfl (fun x7 => ?_))))
    have c' := i_nle c1 rfl rfl
    have ny : ∀ y, y = x3 + 1 → y.toInt = x3.toInt + 1 := fun y ey => by rw [ey]; exact i_add1g (by omega)
    have go : ∀ v : Int32, P_X11_inFlightAnew_54 n Post PX (fun q0 q1 q2 qM => P_X11_inFlightAnew_8 n Post PX m q0 q1 q2 qM) x1 v x3 M := fun v y ey => by
      have ty := ny y ey
      exact ih x1 v y (by omega)
    exact And.intro (fun _ => go _) (fun a9 _ => And.intro (fun _ => And.intro (fun _ x14 _ => go x14) (fun _ => go _)) (fun _ => go _))
theorem u_X11_inFlightAnew {Post : Int32 → z_Mem → Prop} (I : y_CI n (c + 6) (s + 32) M M) (k : ∀ r, Post r M) (kI : ∀ M1, y_DX n c s M M1 → PX "java/lang/IndexOutOfBoundsException" M1) : P_X11_inFlightAnew n p1 M Post PX :=
  u_rp I (fun _ => kI) (fun _ => ⟨_, u_ifa8 I k _ p1 0 0 (Nat.lt_succ_self _)⟩)
theorem u_ga13 {Post : Int32 → z_Mem → Prop} {Ms : z_Mem} (k : ∀ r M1, y_CI n c s Ms M1 → (∃ f, M1 = zA Ms (n + 39) f) → Post r M1) : ∀ (m : Nat) (x1 x2 : Int32) (M : z_Mem), (400 - x2.toInt).toNat < m → y_CI n c s Ms M → (∃ f, M = zA Ms (n + 39) f) → P_X11_gotAnew_13 n Post PX m x1 x2 M := by
  intro m
  induction m with
  | zero => intro x1 x2 M h; exact absurd h (Nat.not_lt_zero _)
  | succ m ih =>
    intro x1 x2 M hm I Z
    have ls := y_sent I
    refine z_nn_of (s_1411_0 I.1) (And.intro (fun _ => ?_) (fun c1 => z_nn_of (s_1411_0 I.1) (t_X1_packetAt I rfl (fun x9 => ?_))))
    · rw [show z_fr M 1412 n = some (n + 39) from s_1412_0 I.1]
      exact t_prefix (L := 200) I (by decide) (s_l39 I.1) (fun r => k r M I Z)
    · have c' := i_nle c1 rfl rfl
      have ny : ∀ y, y = x2 + 1 → y.toInt = x2.toInt + 1 := fun y ey => by rw [ey]; exact i_add1g (by omega)
      have go : ∀ M1, y_CI n c s Ms M1 → (∃ f, M1 = zA Ms (n + 39) f) → P_X11_gotAnew_68 n Post PX (fun q0 q1 qM => P_X11_gotAnew_13 n Post PX m q0 q1 qM) x1 x2 M1 := fun M1 I1 Z1 y ey => by
        have ty := ny y ey
        exact ih x1 y M1 (by omega) I1 Z1
      refine And.intro (fun _ => go M I Z) (fun a11 _ => And.intro (fun _ => And.intro (fun _ => ?_) (fun _ => go M I Z)) (fun _ => go M I Z))
      rw [show z_fr M 1412 n = some (n + 39) from s_1412_0 I.1]
      refine cS_X11_markRow (Q := fun M19 => y_CI n c s Ms M19) (t_markRow (L := 200) I (by omega) (by decide) (fun N S => s_l39 S) (fun M19 I19 => I19)) (fun M19 I19 e => go M19 I19 ?_)
      rw [← e]
      exact u_mark39 (s_l39 I.1) Z
theorem u_X11_gotAnew {Post : Int32 → z_Mem → Prop} (I : y_CI n (c + 6) (s + 32) M M) (k : ∀ r M1, y_D n c s M M1 → (∃ f, M1 = zA M (n + 39) f) → Post r M1) (kI : ∀ M1, y_DX n c s M M1 → PX "java/lang/IndexOutOfBoundsException" M1) : P_X11_gotAnew n p1 M Post PX := by
  refine u_rst I (fun _ => kI) (fun hp => ?_)
  rw [show z_fr M 1412 n = some (n + 39) from s_1412_0 I.1]
  refine cS_X11_clearRow (Q := fun M22 => y_CI n (c + 6) (s + 32) M M22) (t_clearRow (L := 200) I (by omega) (by decide) (fun N S => s_l39 S) (fun M22 I22 => I22)) (fun M22 I22 e => ⟨_, u_ga13 (Ms := M) (fun r M1 I1 Z1 => k r M1 (y_Dof (r_w I1 (by omega) (by omega))) Z1) _ p1 0 M22 (Nat.lt_succ_self _) I22 ?_⟩)
  rw [← e]
  exact u_clear39 (s_l39 I.1)
end UG
