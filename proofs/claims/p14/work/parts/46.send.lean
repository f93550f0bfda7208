/-! ===== THE CLASS: what is sent ===== -/
/-- the memory with the room that one packet more will give back -/
def y_up (M : z_Mem) : z_Mem := (M.1, M.2.1, M.2.2.1, M.2.2.2.1, M.2.2.2.2.1, M.2.2.2.2.2.1, M.2.2.2.2.2.2.1, M.2.2.2.2.2.2.2.1, M.2.2.2.2.2.2.2.2.1 + 3, M.2.2.2.2.2.2.2.2.2 + 30)
section YU
variable {n c s : Nat} {M0 M M1 : z_Mem}
theorem u_up (I : y_CI n c s M0 M) : y_CI n (c + 3) (s + 30) M0 (y_up M) := by
  obtain ⟨S, L, R, A, F, G⟩ := I
  have r1 := R.1
  have r2 := R.2
  refine ⟨S, L, ⟨?_, ?_⟩, A, F, G⟩
  · show c + 3 + 9 * (z_fi M 1281 (n + 6)).toInt.toNat + 3 * (400 - (z_fi M 133 (n + 31)).toInt).toNat + (if z_fi M 137 (n + 31) = 0 then 2 else 0) ≤ z_cl M + 3
    omega
  · show s + 30 + 40 * (z_fi M 1281 (n + 6)).toInt.toNat + 30 * (400 - (z_fi M 133 (n + 31)).toInt).toNat + (if z_fi M 137 (n + 31) = 0 then 16 else 0) ≤ z_sl M + 30
    omega
theorem u_room {w : Nat} (I : y_CI n c s M0 M) (h : (z_fi M 133 (n + 31)).toInt < 400) (hw : w ≤ 30) : z_room M w := by
  obtain ⟨S, L, R, A, F, G⟩ := I
  have r1 := R.1
  have r2 := R.2
  exact ⟨by omega, by omega⟩
theorem u_new {k w : Nat} (hr : z_room M w) (I : y_CI n (c + 1) (s + w) M0 (y_up M)) (e : M1 = z_new M k w) : y_CI n c s M0 (y_up M1) := by
  subst e
  have h1 : M.2.2.2.2.2.2.2.2.1 + 3 - 1 = M.2.2.2.2.2.2.2.2.1 - 1 + 3 := by have : 1 ≤ M.2.2.2.2.2.2.2.2.1 := hr.1; omega
  have h2 : M.2.2.2.2.2.2.2.2.2 + 30 - w = M.2.2.2.2.2.2.2.2.2 - w + 30 := by have : w ≤ M.2.2.2.2.2.2.2.2.2 := hr.2; omega
  have h : z_new (y_up M) k w = y_up (z_new M k w) := by
    unfold z_new y_up
    dsimp only
    rw [h1, h2]
  rw [← h]
  exact r_new I rfl
theorem u_sfi {g a : Nat} {v : Int32} (I : y_CI n c s M0 (y_up M)) (e : M1 = z_sfi M g a v) (hg : y_ok g = true) : y_CI n c s M0 (y_up M1) := by
  subst e; exact r_sfi I rfl hg
theorem u_str {a : Nat} {v : Int32} (I : y_CI n c s M0 (y_up M)) (e : M1 = z_sfi M 771 a v) (h0 : 0 ≤ v.toInt) (h1 : v.toInt < 4) : y_CI n c s M0 (y_up M1) := by
  subst e; exact r_str I rfl h0 h1
theorem u_sar {a j : Nat} {v : Option Nat} (I : y_CI n c s M0 (y_up M)) (e : M1 = z_sar M a j v) (ha : a ≠ n + 11) : y_CI n c s M0 (y_up M1) := by
  subst e; exact r_sar I rfl ha
theorem u_sent {v : Int32} (I : y_CI n c s M0 (y_up M)) (e : M1 = z_sfi M 133 (n + 31) v) (h0 : v.toInt = (z_fi M 133 (n + 31)).toInt + 1) (h1 : v.toInt ≤ 400) : y_CI n c s M0 M1 := by
  have J := r_sent (M1 := y_up M1) I (by subst e; rfl) h0 h1
  obtain ⟨S, L, R, A, F, G⟩ := J
  have r1 : c + 3 + 9 * (z_fi M1 1281 (n + 6)).toInt.toNat + 3 * (400 - (z_fi M1 133 (n + 31)).toInt).toNat + (if z_fi M1 137 (n + 31) = 0 then 2 else 0) ≤ z_cl M1 + 3 := R.1
  have r2 : s + 30 + 40 * (z_fi M1 1281 (n + 6)).toInt.toNat + 30 * (400 - (z_fi M1 133 (n + 31)).toInt).toNat + (if z_fi M1 137 (n + 31) = 0 then 16 else 0) ≤ z_sl M1 + 30 := R.2
  exact ⟨S, L, ⟨by omega, by omega⟩, A, F, G⟩
theorem t_sp79 {rt b : Nat} {x2 x3 x4 t1 : Int32} {Post : z_Mem → Prop} (I : y_CI n (c + 2) (s + 16) M0 (y_up M)) (hs : (z_fi M 133 (n + 31)).toInt < 400) (h2 : 0 ≤ x2.toInt) (h3 : x2.toInt < 4) (k : ∀ M1, y_CI n c s M0 M1 → Post M1) : P_X1_sendPacket_79 (n + 31) Post (some rt) x2 x3 x4 (some b) (some b) t1 M := by
  refine z_nn_of rfl ?_
  intro M2 e2
  have I2 := u_sfi I e2 (by decide +kernel)
  refine z_nn_of rfl (z_nn_of rfl ?_)
  intro M6 e6
  have I6 := u_sfi I2 e6 (by decide +kernel)
  intro M8 e8
  have I8 := u_sfi I6 e8 (by decide +kernel)
  have v8 : z_fi M8 133 (n + 31) = z_fi M 133 (n + 31) := by rw [e8, y_spne (by decide), e6, y_spne (by decide), e2, y_spne (by decide)]
  have l0 : 0 ≤ (z_fi M8 133 (n + 31)).toInt := (y_sent I8).1
  have l1 : (z_fi M8 133 (n + 31)).toInt < 400 := by rw [v8]; exact hs
  refine z_nn_of (s_132_31 I8.1) (And.intro (vp_of (L := 400) (s_l38 I8.1) l0 (by omega)) ?_)
  intro M13 e13
  have I13 := u_sar I8 e13 (by omega)
  have v13 : z_fi M13 133 (n + 31) = z_fi M8 133 (n + 31) := by rw [e13, zq_fi_sar]
  intro M15 e15
  have t9 := i_add1 (x := z_fi M13 133 (n + 31)) (by rw [v13]; omega) (by rw [v13]; omega)
  have I15 := u_sent I13 e15 t9 (by rw [t9, v13]; omega)
  intro M17 e17
  have I17 := r_sfi I15 e17 (by decide +kernel)
  intro M19 e19
  have I19 := r_sfi I17 e19 (by decide +kernel)
  refine z_nn_of (s_128_31 I19.1) ?_
  intro M23 e23
  have I23 := r_sfi I19 e23 (by decide +kernel)
  obtain ⟨st, hst, ha⟩ := t_strAt (x := x2) I23.1 h2 h3
  refine z_nn_of (s_129_31 I23.1) (And.intro (vp_of (L := 4) (s_l11 I23.1) h2 (by omega)) (z_nn_of hst (t_X9_takeOff I23 ha (fun M27 I27 => And.intro (r_room (c := c + 1) (s := s + 8) (w := 8) I27) ?_))))
  intro M30 e30
  have I30 := r_new (c := c + 1) (s := s + 8) (w := 8) I27 e30
  intro M_1 e_1
  have J1 := r_sfi I30 e_1 (by decide +kernel)
  intro M_2 e_2
  have J2 := r_sfi J1 e_2 (by decide +kernel)
  intro M32 e32
  have I32 := r_sfr J2 e32 (by decide +kernel) (by decide) (by decide)
  exact z_nn_of (s_128_31 I32.1) (t_X5_putToServer I32 rfl ⟨_, rfl⟩ (fun M35 I35 => k _ (r_w I35 (by omega) (by omega))))
theorem t_X1_sendPacket {rt : Nat} {p2 p3 p4 p5 : Int32} {Post : z_Mem → Prop} (I : y_CI n c s M0 M) (k : ∀ M1, y_CI n c s M0 M1 → Post M1) : P_X1_sendPacket (n + 31) (some rt) p2 p3 p4 p5 M Post := by
  have T0 : (0 : Int32).toInt = 0 := rfl
  have T4 : (4 : Int32).toInt = 4 := rfl
  have T400 : (400 : Int32).toInt = 400 := rfl
  have ls := y_sent I
  refine And.intro (fun _ => k _ I) (fun c1 => And.intro (fun _ => k _ I) (fun c2 => And.intro (fun c3 => ?_) (fun _ => k _ I)))
  rw [Int32.le_iff_toInt_le, T400] at c1
  rw [Int32.lt_iff_toInt_lt, T0] at c2
  rw [Int32.lt_iff_toInt_lt, T4] at c3
  have hr : z_room M 14 := u_room I (by omega) (by omega)
  refine And.intro hr ?_
  intro M42 e42
  have I42 : y_CI n (c + 2) (s + 16) M0 (y_up M42) := u_new hr (u_up I) e42
  refine z_nn_of rfl (z_nn_of (s_128_31 I42.1) ?_)
  intro M1 e1
  have I1 := u_sfi I42 e1 (by decide +kernel)
  intro M2 e2
  have I2 := u_sfi I1 e2 (by decide +kernel)
  intro M3 e3
  have I3 := u_sfi I2 e3 (by decide +kernel)
  intro M4 e4
  have I4 := u_sfi I3 e4 (by decide +kernel)
  intro M5 e5
  have I5 := u_str I4 e5 (by omega) (by omega)
  intro M6 e6
  have I6 := u_sfi I5 e6 (by decide +kernel)
  intro M7 e7
  have I7 := u_sfi I6 e7 (by decide +kernel)
  intro M51 e51
  have I51 := u_sfi I7 e51 (by decide +kernel)
  intro M52 e52
  have I52 := u_sfi I51 e52 (by decide +kernel)
  have v : z_fi M52 133 (n + 31) = z_fi M 133 (n + 31) := by
    rw [e52, y_spne (by decide), e51, y_spne (by decide), e7, y_spne (by decide), e6, y_spne (by decide), e5, y_spne (by decide), e4, y_spne (by decide), e3, y_spne (by decide), e2, y_spne (by decide), e1, y_spne (by decide), e42, zq_fi_new, if_neg (by have := I.1.2.2.2; omega)]
  have hs : (z_fi M52 133 (n + 31)).toInt < 400 := by rw [v]; omega
  exact And.intro (fun _ => t_sp79 I52 hs (by omega) (by omega) k) (fun _ => t_sp79 I52 hs (by omega) (by omega) k)
end YU
