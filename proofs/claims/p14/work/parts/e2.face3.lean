/-! ===== THE CLASS: its ticks, with what they do ===== -/
section UH
variable {n c s t q z : Nat} {M0 M M1 M2 : z_Mem} {r r1 r2 : q_R} {TL CL : List Nat} {p1 p2 p3 p4 p5 : Int32} {PX : String → z_Mem → Prop} {D : Int}
theorem u_pass {Post : z_Mem → Prop} (I : y_CI n (c + 168) (s + 754) M0 M) (k : ∀ M1, y_CI n c s M0 M1 → cF_X5_letLeave (n + 1) (cF_X1_sendData (n + 31) (cF_X1_lookAfter (n + 31) (cF_X8_acknowledgeInTime (n + 28) (cF_X1_hearAll (n + 31) (cF_X8_hearAll (n + 28) M))))) = M1 → Post M1) : z_nn (z_fr M 1410 n) fun a11 => (P_X8_hearAll a11 M fun M_10 => (z_nn (z_fr M_10 1411 n) fun a14 => (P_X1_hearAll a14 M_10 fun M_13 => (z_nn (z_fr M_13 1410 n) fun a17 => (P_X8_acknowledgeInTime a17 M_13 fun M_16 => (z_nn (z_fr M_16 1411 n) fun a20 => (P_X1_lookAfter a20 M_16 fun M_19 => (z_nn (z_fr M_19 1411 n) fun a23 => (P_X1_sendData a23 M_19 fun M_22 => (z_nn (z_fr M_22 1408 n) fun a26 => (P_X5_letLeave a26 M_22 Post))))))))))) := by
  refine z_nn_of (s_1410_0 I.1) (cS_X8_hearAll (t_X8_hearAll I (fun M10 I10 => I10)) (fun M10 I10 u1 => z_nn_of (s_1411_0 I10.1) (cS_X1_hearAll (t_X1_hearAll I10 (fun M13 I13 => I13)) (fun M13 I13 u2 => z_nn_of (s_1410_0 I13.1) (cS_X8_acknowledgeInTime (t_X8_acknowledgeInTime (c := c + 163) (s := s + 728) I13 rfl (fun M16 I16 => I16)) (fun M16 I16 u3 => z_nn_of (s_1411_0 I16.1) (cS_X1_lookAfter (t_X1_lookAfter (c := c + 162) (s := s + 720) I16 (fun M19 I19 => I19)) (fun M19 I19 u4 => z_nn_of (s_1411_0 I19.1) (cS_X1_sendData (t_X1_sendData I19 (fun M22 I22 => I22)) (fun M22 I22 u5 => z_nn_of (s_1408_0 I22.1) (cS_X5_letLeave (t_X5_letLeave I22 (fun M25 I25 => I25)) (fun M25 I25 u6 => k M25 I25 ?_))))))))))))
  rw [u1, u2, u3, u4, u5, u6]
/-- ticks -/
noncomputable def cTicks (n : Nat) : Nat → z_Mem → z_Mem
  | 0, M => M
  | m + 1, M => cTicks n m (cTick n M)
noncomputable def qTicks : Nat → q_R → q_R
  | 0, r => r
  | m + 1, r => qTicks m (qF_passes r)
theorem u_cti32 {x1 : Int32} {Ms Mf : z_Mem} {Post : Int32 → z_Mem → Prop} (h50 : x1.toInt ≤ 50) (k : ∀ r M1, y_W n c s M1 → y_RT n Ms M1 → M1 = Mf → Post r M1) : ∀ (m : Nat) (x2 : Int32) (M : z_Mem), (50 - x2.toInt).toNat < m → 0 ≤ x2.toInt → (z_fi M 645 (n + 1)).toInt + (x1.toInt - x2.toInt) ≤ 2000 → y_W n c s M → y_RT n Ms M → cTicks n (x1.toInt - x2.toInt).toNat M = Mf → P_X11_tick_32 n Post PX m x1 x2 M := by
  intro m
  induction m with
  | zero => intro x2 M h; exact absurd h (Nat.not_lt_zero _)
  | succ m ih =>
    intro x2 M hm h0 hn W T F
    obtain ⟨w0, w1, I⟩ := W
    refine And.intro (fun c0 => z_nn_of (s_1408_0 I.1) (k _ M ⟨w0, w1, I⟩ T ?_)) (fun c1 => z_nn_of (s_1408_0 I.1) ?_)
    · have c0' := i_le c0 rfl rfl
      rw [show (x1.toInt - x2.toInt).toNat = 0 by omega] at F
      exact F
    have c1' := i_nle c1 rfl rfl
    obtain ⟨d, hd⟩ : ∃ d, (2000 - (z_fi M 645 (n + 1)).toInt).toNat = d + 1 := ⟨(2000 - (z_fi M 645 (n + 1)).toInt).toNat - 1, by omega⟩
    intro M8 e8
    have I8 := r_645 (c := (c + 168 * d) + 168) (s := (s + 754 * d) + 754) (r_w I (by omega) (by omega)) e8
    have n8 : (z_fi M8 645 (n + 1)).toInt = (z_fi M 645 (n + 1)).toInt + 1 := by
      rw [e8, zq_fi_sfi, if_pos rfl, if_pos rfl]; exact i_addE rfl (show (1 : Int32).toInt = 1 from rfl) (by omega) (by omega)
    refine u_pass I8 (fun M25 I25 u => ?_)
    have n25 : z_fi M25 645 (n + 1) = z_fi M8 645 (n + 1) := I25.2.2.2.2.1.2.1 645 (by decide) _ (by omega)
    intro y ey
    have ty : y.toInt = x2.toInt + 1 := by rw [ey]; exact i_add1 (by omega) (by omega)
    have et : (x1.toInt - x2.toInt).toNat = (x1.toInt - y.toInt).toNat + 1 := by omega
    rw [et] at F
    refine ih y M25 (by omega) (by omega) (by rw [n25, n8]; omega) ⟨by rw [n25, n8]; omega, by rw [n25, n8]; omega, ?_⟩ (y_Ttr T (y_Ttr ⟨fun g hg => by rw [e8, zq_fi_sfi, if_neg (by omega)], fun x j _ _ => by rw [e8]; rfl⟩ (y_DT (y_Dof I25)))) ?_
    · rw [n25, n8]
      exact r_rf (r_w I25 (by omega) (by omega))
    · rw [← F, ← u, e8]; rfl
theorem u_X11_tick {Post : Int32 → z_Mem → Prop} (W : y_W n (c + 6) (s + 32) M) (k : (1 ≤ p1.toInt ∧ p1.toInt ≤ 50) → (z_fi M 645 (n + 1)).toInt + p1.toInt ≤ 2000 → ∀ r M1, y_W n c s M1 → y_RT n M M1 → M1 = cTicks n p1.toInt.toNat M → Post r M1) (kX : ¬ ((1 ≤ p1.toInt ∧ p1.toInt ≤ 50) ∧ (z_fi M 645 (n + 1)).toInt + p1.toInt ≤ 2000) → ∀ E, E = "java/lang/IllegalArgumentException" ∨ E = "java/lang/IllegalStateException" → ∀ M1, y_W n c s M1 → y_RT n M M1 → (∃ k w, M1 = z_exc M k w) → PX E M1) : P_X11_tick n p1 M Post PX := by
  obtain ⟨w0, w1, I⟩ := W
  have IW : y_CI n (c + 168 * (2000 - (z_fi M 645 (n + 1)).toInt).toNat + 6) (s + 754 * (2000 - (z_fi M 645 (n + 1)).toInt).toNat + 32) M M := r_w I (by omega) (by omega)
  have dw : ∀ M1, y_D n (c + 168 * (2000 - (z_fi M 645 (n + 1)).toInt).toNat) (s + 754 * (2000 - (z_fi M 645 (n + 1)).toInt).toNat) M M1 → y_W n c s M1 := fun M1 D => by
    have e := D.2.2.2
    exact ⟨by rw [e]; exact w0, by rw [e]; exact w1, by rw [e]; exact D.1⟩
  refine u_rr IW (show (1 : Int32).toInt = 1 from rfl) (show (50 : Int32).toInt = 50 from rfl) (fun h M1 D => kX (fun g => h g.1) _ (Or.inl rfl) M1 (dw M1 D.1) (y_DT D.1) D.2) (fun hp => z_nn_of (s_1408_0 I.1) (And.intro (fun c1 => u_rs IW (fun _ M1 D => kX (fun g => ?_) _ (Or.inr rfl) M1 (dw M1 D.1) (y_DT D.1) D.2) (fun h => absurd rfl h)) (fun c1 => u_rs IW (fun e => absurd e (by decide)) (fun _ => ?_))))
  · have c1' := i_lt c1 (show (2000 : Int32).toInt = 2000 from rfl) (i_addE (x := z_fi M 645 (n + 1)) (y := p1) rfl rfl (by omega) (by omega))
    omega
  · have c1' := i_nlt c1 (show (2000 : Int32).toInt = 2000 from rfl) (i_addE (x := z_fi M 645 (n + 1)) (y := p1) rfl rfl (by omega) (by omega))
    exact ⟨_, u_cti32 (x1 := p1) (Mf := cTicks n p1.toInt.toNat M) hp.2 (k hp (by omega)) _ 0 M (Nat.lt_succ_self _) (by decide) (by rw [show (0 : Int32).toInt = 0 from rfl]; omega) ⟨w0, w1, r_w I (by omega) (by omega)⟩ y_Trf (by rw [show (0 : Int32).toInt = 0 from rfl, Int.sub_zero])⟩
/-- ticks keep the likeness -/
theorem j_ticks : ∀ (m : Nat) (M : z_Mem) (r : q_R), jI n t c M r → c ≤ 512 → (r.1 1536).toInt + m ≤ 2000 → jI n t c (cTicks n m M) (qTicks m r) := by
  intro m
  induction m with
  | zero => intro M r h _ _; exact h
  | succ m ih =>
    intro M r h hc hn
    obtain ⟨h1, h2⟩ := j_tick h hc (by omega)
    have bn := ri_now h.2.1
    refine ih _ _ h1 hc ?_
    rw [h2, i_addE rfl (show (1 : Int32).toInt = 1 from rfl) (by omega) (by omega)]; omega
/-- the reference's ticks -/
theorem q_tk36 {x1 : Int32} (h50 : x1.toInt ≤ 50) : ∀ (m : Nat) (x2 : Int32) (r : q_R), 0 ≤ x2.toInt → (x1.toInt - x2.toInt).toNat = m → qF_tick_36 x1 x2 r = ((qTicks m r).1 1536, qTicks m r) := by
  intro m
  induction m with
  | zero =>
    intro x2 r h0 hm
    have hB := qE_tick_36 x1 x2 r
    rw [if_pos (by rw [Int32.le_iff_toInt_le]; omega)] at hB
    exact qUr_tick_36 hB
  | succ m ih =>
    intro x2 r h0 hm
    have hB := qE_tick_36 x1 x2 r
    rw [if_neg (by rw [Int32.le_iff_toInt_le]; omega)] at hB
    replace hB := hB.trans (q_ste rfl)
    replace hB := hB.trans (q_ste rfl)
    rw [qUl_tick_36 hB]
    have e1 : (x2 + 1).toInt = x2.toInt + 1 := i_add1 (by omega) (by omega)
    exact ih (x2 + 1) (qF_passes r) (by omega) (by omega)
end UH
