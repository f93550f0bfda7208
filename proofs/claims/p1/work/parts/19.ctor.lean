/-! ===== THE CONSTRUCTORS over a memory seen from a base ===== -/
section YC
variable {n : Nat} {M Mi M1 C Ci : z_Mem} {a b g k w x y z u r1 r2 k1 k2 : Nat}
theorem y_sfrs (h : y_sh n M C) (hi : y_sh n Mi Ci) (hz : z_sz Ci = b) (e : M1 = z_sfr M g (n + a) (some (z_sz Mi))) : y_sh n M1 (z_sfr C g a (some b)) := by
  rw [e, y_sh_sz hi, hz]; exact y_sh_sfr h g a (some b)
theorem y_sfrn (h : y_sh n M C) (e : M1 = z_sfr M g (n + a) (some (n + b))) : y_sh n M1 (z_sfr C g a (some b)) := by
  rw [e]; exact y_sh_sfr h g a (some b)
theorem y_sfis {v : Int32} (h : y_sh n M C) (e : M1 = z_sfi M g (n + a) v) : y_sh n M1 (z_sfi C g a v) := by rw [e]; exact y_sh_sfi h g a v
theorem y_sais {j : Nat} {v : Int32} (h : y_sh n M C) (e : M1 = z_sai M (n + a) j v) : y_sh n M1 (z_sai C a j v) := by rw [e]; exact y_sh_sai h a j v
theorem y_nwas (h : y_sh n M C) (e : M1 = z_nwa M k w) : y_sh n M1 (z_nwa C k w) := by rw [e]; exact y_sh_nwa h k w
theorem y_news (h : y_sh n M C) (e : M1 = z_new M k w) : y_sh n M1 (z_new C k w) := by rw [e]; exact y_sh_new h k w
theorem y_zz (h : y_sh n M C) (hz : z_sz C = b) : z_sz M = n + b := by rw [y_sh_sz h, hz]
theorem y_c1 (h : x ≤ y + k) : x ≤ (y - 1) + (k + 1) := by omega
theorem y_cw (w : Nat) (h : x ≤ y + k) : x ≤ (y - w) + (k + w) := by omega
theorem y_d (h : x ≤ y + k) (h' : Nat.ble (z + k) x = true) : z ≤ y := by have := Nat.le_of_ble_eq_true h'; omega
theorem y_e (h : x ≤ y + k) (h' : y ≤ z + u) : x ≤ z + (k + u) := by omega
theorem y_z1 (h : x = y) : x + 1 = y + 1 := by rw [h]
theorem y_z2 (h : x = y) (h' : z = x + u) : z = y + u := by rw [h', h]
theorem y_rm (h : y_sh n M C) (hc : r1 ≤ z_cl C + k1) (hs : r2 ≤ z_sl C + k2) (h1 : Nat.ble (k1 + 1) r1 = true) (h2 : Nat.ble (k2 + w) r2 = true) : z_room M w :=
  y_sh_room h ⟨by have := Nat.le_of_ble_eq_true h1; omega, by have := Nat.le_of_ble_eq_true h2; omega⟩
end YC
def c_X2_init (a s : Nat) (C : z_Mem) : z_Mem := (z_sfr (z_nwa (z_sfi (z_sfi (z_sfi (z_sfi (z_sfi (z_sfi C 256 a 0) 257 a 160) 258 a 999999) 260 a 160) 261 a 999999) 264 a (-1)) 20 8) 265 a (some (s)))
theorem c_X2_init_q {a s : Nat} (C : z_Mem) : z_cl C ≤ z_cl (c_X2_init a s  C) + 1 ∧ z_sl C ≤ z_sl (c_X2_init a s  C) + 8 ∧ z_sz (c_X2_init a s  C) = z_sz C + 1 := by
  have hc : z_cl C ≤ z_cl C + 0 := Nat.le_refl _
  have hs : z_sl C ≤ z_sl C + 0 := Nat.le_refl _
  have hz : z_sz C = z_sz C := rfl
  have hc := y_c1 hc
  have hs := y_cw 8 hs
  have hz := y_z1 hz
  exact ⟨hc, hs, hz⟩
theorem y_X2_init {n a s b : Nat} {M C : z_Mem} {Post : z_Mem → Prop} (hb : b = n + a) (h : y_sh n M C) (hz : z_sz C = s) (hr : 1 ≤ z_cl C) (hq : 8 ≤ z_sl C) (k : ∀ M1, y_sh n M1 (c_X2_init a s  C) → Post M1) : P_X2_init b  M Post := by
  subst hb
  have hc : 1 ≤ z_cl C + 0 := hr
  have hs : 8 ≤ z_sl C + 0 := hq
  unfold P_X2_init
  intro M_1 e1
  have h1 := y_sfis h e1
  intro M_2 e2
  have h2 := y_sfis h1 e2
  intro M_3 e3
  have h3 := y_sfis h2 e3
  intro M_4 e4
  have h4 := y_sfis h3 e4
  intro M_5 e5
  have h5 := y_sfis h4 e5
  intro M_6 e6
  have h6 := y_sfis h5 e6
  refine ⟨y_rm (w := 8) h6 hc hs rfl rfl, ?_⟩
  intro M_8 e7
  have h7 := y_nwas h6 e7
  have hc := y_c1 hc
  have hs := y_cw 8 hs
  have hz7 := y_z1 hz
  intro M_9 e8
  have h8 := y_sfrs h7 h6 hz e8
  exact k _ h8
def c_X7_init (a s : Nat) (p1 : Int32) (C : z_Mem) : z_Mem := (z_sfi (z_sfi (z_sfi (z_sfi (z_sfi (z_sfi (z_sfi (z_sfr (c_X2_init (s) (s + 1) (z_new C 3 11)) 897 a (some (s))) 900 a 80) 901 a 20) 902 a 10) 903 a 10) 906 a (-1)) 896 a p1) 898 a (if p1 = 0 then 1 else 0))
theorem c_X7_init_q {a s : Nat} {p1 : Int32} (C : z_Mem) : z_cl C ≤ z_cl (c_X7_init a s p1 C) + 2 ∧ z_sl C ≤ z_sl (c_X7_init a s p1 C) + 19 ∧ z_sz (c_X7_init a s p1 C) = z_sz C + 2 := by
  have hc : z_cl C ≤ z_cl C + 0 := Nat.le_refl _
  have hs : z_sl C ≤ z_sl C + 0 := Nat.le_refl _
  have hz : z_sz C = z_sz C := rfl
  have hc := y_c1 hc
  have hs := y_cw 11 hs
  have hz := y_z1 hz
  have hc := y_e hc (c_X2_init_q _).1
  have hs := y_e hs (c_X2_init_q _).2.1
  have hz := y_z2 hz (c_X2_init_q _).2.2
  exact ⟨hc, hs, hz⟩
theorem y_X7_init {n a s b : Nat} {M C : z_Mem} {p1 : Int32} {Post : z_Mem → Prop} (hb : b = n + a) (h : y_sh n M C) (hz : z_sz C = s) (hr : 2 ≤ z_cl C) (hq : 19 ≤ z_sl C) (k : ∀ M1, y_sh n M1 (c_X7_init a s p1 C) → Post M1) : P_X7_init b p1 M Post := by
  subst hb
  have hc : 2 ≤ z_cl C + 0 := hr
  have hs : 19 ≤ z_sl C + 0 := hq
  unfold P_X7_init
  refine ⟨y_rm (w := 11) h hc hs rfl rfl, ?_⟩
  intro M_2 e1
  have h1 := y_news h e1
  have hc := y_c1 hc
  have hs := y_cw 11 hs
  have hz1 := y_z1 hz
  refine y_X2_init (a := s) (s := s + 1) (y_zz h hz) h1 hz1 (y_d hc rfl) (y_d hs rfl) (fun M_3 h2 => ?_)
  have hc := y_e hc (c_X2_init_q _).1
  have hs := y_e hs (c_X2_init_q _).2.1
  have hz2 := y_z2 hz1 (c_X2_init_q _).2.2
  intro M_4 e3
  have h3 := y_sfrs h2 h hz e3
  intro M_5 e4
  have h4 := y_sfis h3 e4
  intro M_6 e5
  have h5 := y_sfis h4 e5
  intro M_7 e6
  have h6 := y_sfis h5 e6
  intro M_8 e7
  have h7 := y_sfis h6 e7
  intro M_9 e8
  have h8 := y_sfis h7 e8
  intro M_10 e9
  have h9 := y_sfis h8 e9
  refine ⟨fun hp => ?_, fun hp => ?_⟩
  · intro M9 e9
    refine k _ ?_
    show y_sh n M9 (z_sfi _ 898 a (if p1 = 0 then 1 else 0))
    rw [if_pos hp]
    exact y_sfis h9 e9
  · intro M9 e9
    refine k _ ?_
    show y_sh n M9 (z_sfi _ 898 a (if p1 = 0 then 1 else 0))
    rw [if_neg hp]
    exact y_sfis h9 e9
def c_X4_init (a s : Nat) (p1 : Int32) (C : z_Mem) : z_Mem := (z_sfi (z_sfi C 517 a (-1)) 512 a p1)
theorem c_X4_init_q {a s : Nat} {p1 : Int32} (C : z_Mem) : z_cl C ≤ z_cl (c_X4_init a s p1 C) + 0 ∧ z_sl C ≤ z_sl (c_X4_init a s p1 C) + 0 ∧ z_sz (c_X4_init a s p1 C) = z_sz C + 0 := by
  have hc : z_cl C ≤ z_cl C + 0 := Nat.le_refl _
  have hs : z_sl C ≤ z_sl C + 0 := Nat.le_refl _
  have hz : z_sz C = z_sz C := rfl
  exact ⟨hc, hs, hz⟩
theorem y_X4_init {n a s b : Nat} {M C : z_Mem} {p1 : Int32} {Post : z_Mem → Prop} (hb : b = n + a) (h : y_sh n M C) (hz : z_sz C = s) (hr : 0 ≤ z_cl C) (hq : 0 ≤ z_sl C) (k : ∀ M1, y_sh n M1 (c_X4_init a s p1 C) → Post M1) : P_X4_init b p1 M Post := by
  subst hb
  have hc : 0 ≤ z_cl C + 0 := hr
  have hs : 0 ≤ z_sl C + 0 := hq
  unfold P_X4_init
  intro M_1 e1
  have h1 := y_sfis h e1
  intro M_2 e2
  have h2 := y_sfis h1 e2
  exact k _ h2
def c_X3_init (a s : Nat) (C : z_Mem) : z_Mem := (z_sfr (z_nwa (z_sfi (z_sfi (z_sfi (z_sfi (z_sfi C 384 a 5) 385 a 2) 386 a 8) 387 a 6) 388 a 1) 22 30) 393 a (some (s)))
theorem c_X3_init_q {a s : Nat} (C : z_Mem) : z_cl C ≤ z_cl (c_X3_init a s  C) + 1 ∧ z_sl C ≤ z_sl (c_X3_init a s  C) + 30 ∧ z_sz (c_X3_init a s  C) = z_sz C + 1 := by
  have hc : z_cl C ≤ z_cl C + 0 := Nat.le_refl _
  have hs : z_sl C ≤ z_sl C + 0 := Nat.le_refl _
  have hz : z_sz C = z_sz C := rfl
  have hc := y_c1 hc
  have hs := y_cw 30 hs
  have hz := y_z1 hz
  exact ⟨hc, hs, hz⟩
theorem y_X3_init {n a s b : Nat} {M C : z_Mem} {Post : z_Mem → Prop} (hb : b = n + a) (h : y_sh n M C) (hz : z_sz C = s) (hr : 1 ≤ z_cl C) (hq : 30 ≤ z_sl C) (k : ∀ M1, y_sh n M1 (c_X3_init a s  C) → Post M1) : P_X3_init b  M Post := by
  subst hb
  have hc : 1 ≤ z_cl C + 0 := hr
  have hs : 30 ≤ z_sl C + 0 := hq
  unfold P_X3_init
  intro M_1 e1
  have h1 := y_sfis h e1
  intro M_2 e2
  have h2 := y_sfis h1 e2
  intro M_3 e3
  have h3 := y_sfis h2 e3
  intro M_4 e4
  have h4 := y_sfis h3 e4
  intro M_5 e5
  have h5 := y_sfis h4 e5
  refine ⟨y_rm (w := 30) h5 hc hs rfl rfl, ?_⟩
  intro M_7 e6
  have h6 := y_nwas h5 e6
  have hc := y_c1 hc
  have hs := y_cw 30 hs
  have hz6 := y_z1 hz
  intro M_8 e7
  have h7 := y_sfrs h6 h5 hz e7
  exact k _ h7
def c_X10_init (a s w : Nat) (C : z_Mem) : z_Mem := z_sfr (z_nwa C 22 w) 1280 a (some s)
theorem c_X10_init_q {a s w : Nat} (C : z_Mem) : z_cl C ≤ z_cl (c_X10_init a s w C) + 1 ∧ z_sl C ≤ z_sl (c_X10_init a s w C) + w ∧ z_sz (c_X10_init a s w C) = z_sz C + 1 := by
  have hc : z_cl C ≤ z_cl C + 0 := Nat.le_refl _
  have hs : z_sl C ≤ z_sl C + 0 := Nat.le_refl _
  have hs := y_cw w hs
  rw [Nat.zero_add] at hs
  exact ⟨y_c1 hc, hs, rfl⟩
theorem y_X10_init {n a s b w : Nat} {M C : z_Mem} {p1 : Int32} {Post : z_Mem → Prop} (hp : ((if 0 < p1 then p1 else 0) : Int32) = nI w) (hw : Nat.ble w 60000 = true) (hb : b = n + a) (h : y_sh n M C) (hz : z_sz C = s) (hr : 1 ≤ z_cl C) (hq : w ≤ z_sl C) (k : ∀ M1, y_sh n M1 (c_X10_init a s w C) → Post M1) : P_X10_init b p1 M Post := by
  subst hb
  unfold P_X10_init
  refine ⟨w, hp, Nat.le_of_ble_eq_true hw, y_sh_room h ⟨hr, hq⟩, ?_⟩
  intro M1 e1
  have h1 := y_nwas h e1
  intro M2 e2
  exact k _ (y_sfrs h1 h hz e2)
def c_X5_init (a s : Nat) (C : z_Mem) : z_Mem := (z_sfr (c_X4_init (s + 8) (s + 9) 9 (z_new (z_sfr (c_X10_init (s + 6) (s + 7) 2048 (z_new (z_sfr (c_X10_init (s + 4) (s + 5) 1024 (z_new (z_sfr (c_X3_init (s + 2) (s + 3) (z_new (z_sfr (c_X3_init (s) (s + 1) (z_new C 4 12)) 640 a (some (s))) 4 12)) 641 a (some (s + 2))) 11 2)) 642 a (some (s + 4))) 11 2)) 643 a (some (s + 6))) 5 8)) 644 a (some (s + 8)))
theorem c_X5_init_q {a s : Nat} (C : z_Mem) : z_cl C ≤ z_cl (c_X5_init a s  C) + 9 ∧ z_sl C ≤ z_sl (c_X5_init a s  C) + 3168 ∧ z_sz (c_X5_init a s  C) = z_sz C + 9 := by
  have hc : z_cl C ≤ z_cl C + 0 := Nat.le_refl _
  have hs : z_sl C ≤ z_sl C + 0 := Nat.le_refl _
  have hz : z_sz C = z_sz C := rfl
  have hc := y_c1 hc
  have hs := y_cw 12 hs
  have hz := y_z1 hz
  have hc := y_e hc (c_X3_init_q _).1
  have hs := y_e hs (c_X3_init_q _).2.1
  have hz := y_z2 hz (c_X3_init_q _).2.2
  have hc := y_c1 hc
  have hs := y_cw 12 hs
  have hz := y_z1 hz
  have hc := y_e hc (c_X3_init_q _).1
  have hs := y_e hs (c_X3_init_q _).2.1
  have hz := y_z2 hz (c_X3_init_q _).2.2
  have hc := y_c1 hc
  have hs := y_cw 2 hs
  have hz := y_z1 hz
  have hc := y_e hc (c_X10_init_q _).1
  have hs := y_e hs (c_X10_init_q _).2.1
  have hz := y_z2 hz (c_X10_init_q _).2.2
  have hc := y_c1 hc
  have hs := y_cw 2 hs
  have hz := y_z1 hz
  have hc := y_e hc (c_X10_init_q _).1
  have hs := y_e hs (c_X10_init_q _).2.1
  have hz := y_z2 hz (c_X10_init_q _).2.2
  have hc := y_c1 hc
  have hs := y_cw 8 hs
  have hz := y_z1 hz
  have hc := y_e hc (c_X4_init_q _).1
  have hs := y_e hs (c_X4_init_q _).2.1
  have hz := y_z2 hz (c_X4_init_q _).2.2
  exact ⟨hc, hs, hz⟩
theorem y_X5_init {n a s b : Nat} {M C : z_Mem} {Post : z_Mem → Prop} (hb : b = n + a) (h : y_sh n M C) (hz : z_sz C = s) (hr : 9 ≤ z_cl C) (hq : 3168 ≤ z_sl C) (k : ∀ M1, y_sh n M1 (c_X5_init a s  C) → Post M1) : P_X5_init b  M Post := by
  subst hb
  have hc : 9 ≤ z_cl C + 0 := hr
  have hs : 3168 ≤ z_sl C + 0 := hq
  unfold P_X5_init
  refine ⟨y_rm (w := 12) h hc hs rfl rfl, ?_⟩
  intro M_2 e1
  have h1 := y_news h e1
  have hc := y_c1 hc
  have hs := y_cw 12 hs
  have hz1 := y_z1 hz
  refine y_X3_init (a := s) (s := s + 1) (y_zz h hz) h1 hz1 (y_d hc rfl) (y_d hs rfl) (fun M_3 h2 => ?_)
  have hc := y_e hc (c_X3_init_q _).1
  have hs := y_e hs (c_X3_init_q _).2.1
  have hz2 := y_z2 hz1 (c_X3_init_q _).2.2
  intro M_4 e3
  have h3 := y_sfrs h2 h hz e3
  refine ⟨y_rm (w := 12) h3 hc hs rfl rfl, ?_⟩
  intro M_6 e4
  have h4 := y_news h3 e4
  have hc := y_c1 hc
  have hs := y_cw 12 hs
  have hz4 := y_z1 hz2
  refine y_X3_init (a := s + 2) (s := s + 3) (y_zz h3 hz2) h4 hz4 (y_d hc rfl) (y_d hs rfl) (fun M_7 h5 => ?_)
  have hc := y_e hc (c_X3_init_q _).1
  have hs := y_e hs (c_X3_init_q _).2.1
  have hz5 := y_z2 hz4 (c_X3_init_q _).2.2
  intro M_8 e6
  have h6 := y_sfrs h5 h3 hz2 e6
  refine ⟨y_rm (w := 2) h6 hc hs rfl rfl, ?_⟩
  intro M_10 e7
  have h7 := y_news h6 e7
  have hc := y_c1 hc
  have hs := y_cw 2 hs
  have hz7 := y_z1 hz5
  refine y_X10_init (by decide) rfl (a := s + 4) (s := s + 5) (y_zz h6 hz5) h7 hz7 (y_d hc rfl) (y_d hs rfl) (fun M_11 h8 => ?_)
  have hc := y_e hc (c_X10_init_q _).1
  have hs := y_e hs (c_X10_init_q _).2.1
  have hz8 := y_z2 hz7 (c_X10_init_q _).2.2
  intro M_12 e9
  have h9 := y_sfrs h8 h6 hz5 e9
  refine ⟨y_rm (w := 2) h9 hc hs rfl rfl, ?_⟩
  intro M_14 e10
  have h10 := y_news h9 e10
  have hc := y_c1 hc
  have hs := y_cw 2 hs
  have hz10 := y_z1 hz8
  refine y_X10_init (by decide) rfl (a := s + 6) (s := s + 7) (y_zz h9 hz8) h10 hz10 (y_d hc rfl) (y_d hs rfl) (fun M_15 h11 => ?_)
  have hc := y_e hc (c_X10_init_q _).1
  have hs := y_e hs (c_X10_init_q _).2.1
  have hz11 := y_z2 hz10 (c_X10_init_q _).2.2
  intro M_16 e12
  have h12 := y_sfrs h11 h9 hz8 e12
  refine ⟨y_rm (w := 8) h12 hc hs rfl rfl, ?_⟩
  intro M_18 e13
  have h13 := y_news h12 e13
  have hc := y_c1 hc
  have hs := y_cw 8 hs
  have hz13 := y_z1 hz11
  refine y_X4_init (a := s + 8) (s := s + 9) (y_zz h12 hz11) h13 hz13 (y_d hc rfl) (y_d hs rfl) (fun M_19 h14 => ?_)
  have hc := y_e hc (c_X4_init_q _).1
  have hs := y_e hs (c_X4_init_q _).2.1
  have hz14 := y_z2 hz13 (c_X4_init_q _).2.2
  intro M_20 e15
  have h15 := y_sfrs h14 h12 hz11 e15
  exact k _ h15
def c_X9_init (a s : Nat) (C : z_Mem) : z_Mem := (z_sfr (z_nwa (z_sfr (z_nwa (z_sfr (z_nwa (z_sfi C 1156 a 40) 21 200) 1159 a (some (s))) 20 200) 1160 a (some (s + 1))) 21 200) 1161 a (some (s + 2)))
theorem c_X9_init_q {a s : Nat} (C : z_Mem) : z_cl C ≤ z_cl (c_X9_init a s  C) + 3 ∧ z_sl C ≤ z_sl (c_X9_init a s  C) + 600 ∧ z_sz (c_X9_init a s  C) = z_sz C + 3 := by
  have hc : z_cl C ≤ z_cl C + 0 := Nat.le_refl _
  have hs : z_sl C ≤ z_sl C + 0 := Nat.le_refl _
  have hz : z_sz C = z_sz C := rfl
  have hc := y_c1 hc
  have hs := y_cw 200 hs
  have hz := y_z1 hz
  have hc := y_c1 hc
  have hs := y_cw 200 hs
  have hz := y_z1 hz
  have hc := y_c1 hc
  have hs := y_cw 200 hs
  have hz := y_z1 hz
  exact ⟨hc, hs, hz⟩
theorem y_X9_init {n a s b : Nat} {M C : z_Mem} {Post : z_Mem → Prop} (hb : b = n + a) (h : y_sh n M C) (hz : z_sz C = s) (hr : 3 ≤ z_cl C) (hq : 600 ≤ z_sl C) (k : ∀ M1, y_sh n M1 (c_X9_init a s  C) → Post M1) : P_X9_init b  M Post := by
  subst hb
  have hc : 3 ≤ z_cl C + 0 := hr
  have hs : 600 ≤ z_sl C + 0 := hq
  unfold P_X9_init
  intro M_1 e1
  have h1 := y_sfis h e1
  refine ⟨y_rm (w := 200) h1 hc hs rfl rfl, ?_⟩
  intro M_3 e2
  have h2 := y_nwas h1 e2
  have hc := y_c1 hc
  have hs := y_cw 200 hs
  have hz2 := y_z1 hz
  intro M_4 e3
  have h3 := y_sfrs h2 h1 hz e3
  refine ⟨y_rm (w := 200) h3 hc hs rfl rfl, ?_⟩
  intro M_6 e4
  have h4 := y_nwas h3 e4
  have hc := y_c1 hc
  have hs := y_cw 200 hs
  have hz4 := y_z1 hz2
  intro M_7 e5
  have h5 := y_sfrs h4 h3 hz2 e5
  refine ⟨y_rm (w := 200) h5 hc hs rfl rfl, ?_⟩
  intro M_9 e6
  have h6 := y_nwas h5 e6
  have hc := y_c1 hc
  have hs := y_cw 200 hs
  have hz6 := y_z1 hz4
  intro M_10 e7
  have h7 := y_sfrs h6 h5 hz4 e7
  exact k _ h7
def c_X8_init (a s : Nat) (p1 : Nat) (p2 : Nat) (C : z_Mem) : z_Mem := (z_sfr (z_sfr (z_sfi (z_sfi (z_sfi (z_sfr (z_nwa (z_sfi (z_sfr (z_nwa (z_sfi C 1026 a 0) 21 10) 1029 a (some (s))) 1031 a (-1)) 21 400) 1033 a (some (s + 1))) 1034 a (-1)) 1037 a (-1)) 1038 a (-1)) 1024 a (some p1)) 1025 a (some p2))
theorem c_X8_init_q {a s : Nat} {p1 : Nat} {p2 : Nat} (C : z_Mem) : z_cl C ≤ z_cl (c_X8_init a s p1 p2 C) + 2 ∧ z_sl C ≤ z_sl (c_X8_init a s p1 p2 C) + 410 ∧ z_sz (c_X8_init a s p1 p2 C) = z_sz C + 2 := by
  have hc : z_cl C ≤ z_cl C + 0 := Nat.le_refl _
  have hs : z_sl C ≤ z_sl C + 0 := Nat.le_refl _
  have hz : z_sz C = z_sz C := rfl
  have hc := y_c1 hc
  have hs := y_cw 10 hs
  have hz := y_z1 hz
  have hc := y_c1 hc
  have hs := y_cw 400 hs
  have hz := y_z1 hz
  exact ⟨hc, hs, hz⟩
theorem y_X8_init {n a s b : Nat} {M C : z_Mem} {p1 : Nat} {p2 : Nat} {Post : z_Mem → Prop} (hb : b = n + a) (h : y_sh n M C) (hz : z_sz C = s) (hr : 2 ≤ z_cl C) (hq : 410 ≤ z_sl C) (k : ∀ M1, y_sh n M1 (c_X8_init a s p1 p2 C) → Post M1) : P_X8_init b (some (n + p1)) (some (n + p2)) M Post := by
  subst hb
  have hc : 2 ≤ z_cl C + 0 := hr
  have hs : 410 ≤ z_sl C + 0 := hq
  unfold P_X8_init
  intro M_1 e1
  have h1 := y_sfis h e1
  refine ⟨y_rm (w := 10) h1 hc hs rfl rfl, ?_⟩
  intro M_3 e2
  have h2 := y_nwas h1 e2
  have hc := y_c1 hc
  have hs := y_cw 10 hs
  have hz2 := y_z1 hz
  intro M_4 e3
  have h3 := y_sfrs h2 h1 hz e3
  intro M_5 e4
  have h4 := y_sfis h3 e4
  refine ⟨y_rm (w := 400) h4 hc hs rfl rfl, ?_⟩
  intro M_7 e5
  have h5 := y_nwas h4 e5
  have hc := y_c1 hc
  have hs := y_cw 400 hs
  have hz5 := y_z1 hz2
  intro M_8 e6
  have h6 := y_sfrs h5 h4 hz2 e6
  intro M_9 e7
  have h7 := y_sfis h6 e7
  intro M_10 e8
  have h8 := y_sfis h7 e8
  intro M_11 e9
  have h9 := y_sfis h8 e9
  intro M_12 e10
  have h10 := y_sfrn h9 e10
  intro M_13 e11
  have h11 := y_sfrn h10 e11
  exact k _ h11
def c_X1_init (a s : Nat) (p1 : Nat) (p2 : Nat) (C : z_Mem) : z_Mem := (z_sfr (z_sfr (z_sfi (z_sfi (z_sfi (z_sfi (z_sfi (z_sfr (z_nwa (z_sfr (c_X7_init (s + 3) (s + 4) 1 (z_new (z_sfr (c_X7_init (s) (s + 1) 0 (z_new C 8 18)) 130 a (some (s))) 8 18)) 131 a (some (s + 3))) 23 400) 132 a (some (s + 6))) 135 a 0) 136 a (-1)) 140 a 10) 144 a 100) 145 a 3) 128 a (some p1)) 129 a (some p2))
theorem c_X1_init_q {a s : Nat} {p1 : Nat} {p2 : Nat} (C : z_Mem) : z_cl C ≤ z_cl (c_X1_init a s p1 p2 C) + 7 ∧ z_sl C ≤ z_sl (c_X1_init a s p1 p2 C) + 474 ∧ z_sz (c_X1_init a s p1 p2 C) = z_sz C + 7 := by
  have hc : z_cl C ≤ z_cl C + 0 := Nat.le_refl _
  have hs : z_sl C ≤ z_sl C + 0 := Nat.le_refl _
  have hz : z_sz C = z_sz C := rfl
  have hc := y_c1 hc
  have hs := y_cw 18 hs
  have hz := y_z1 hz
  have hc := y_e hc (c_X7_init_q _).1
  have hs := y_e hs (c_X7_init_q _).2.1
  have hz := y_z2 hz (c_X7_init_q _).2.2
  have hc := y_c1 hc
  have hs := y_cw 18 hs
  have hz := y_z1 hz
  have hc := y_e hc (c_X7_init_q _).1
  have hs := y_e hs (c_X7_init_q _).2.1
  have hz := y_z2 hz (c_X7_init_q _).2.2
  have hc := y_c1 hc
  have hs := y_cw 400 hs
  have hz := y_z1 hz
  exact ⟨hc, hs, hz⟩
theorem y_X1_init {n a s b : Nat} {M C : z_Mem} {p1 : Nat} {p2 : Nat} {Post : z_Mem → Prop} (hb : b = n + a) (h : y_sh n M C) (hz : z_sz C = s) (hr : 7 ≤ z_cl C) (hq : 474 ≤ z_sl C) (k : ∀ M1, y_sh n M1 (c_X1_init a s p1 p2 C) → Post M1) : P_X1_init b (some (n + p1)) (some (n + p2)) M Post := by
  subst hb
  have hc : 7 ≤ z_cl C + 0 := hr
  have hs : 474 ≤ z_sl C + 0 := hq
  unfold P_X1_init
  refine ⟨y_rm (w := 18) h hc hs rfl rfl, ?_⟩
  intro M_2 e1
  have h1 := y_news h e1
  have hc := y_c1 hc
  have hs := y_cw 18 hs
  have hz1 := y_z1 hz
  refine y_X7_init (a := s) (s := s + 1) (y_zz h hz) h1 hz1 (y_d hc rfl) (y_d hs rfl) (fun M_3 h2 => ?_)
  have hc := y_e hc (c_X7_init_q _).1
  have hs := y_e hs (c_X7_init_q _).2.1
  have hz2 := y_z2 hz1 (c_X7_init_q _).2.2
  intro M_4 e3
  have h3 := y_sfrs h2 h hz e3
  refine ⟨y_rm (w := 18) h3 hc hs rfl rfl, ?_⟩
  intro M_6 e4
  have h4 := y_news h3 e4
  have hc := y_c1 hc
  have hs := y_cw 18 hs
  have hz4 := y_z1 hz2
  refine y_X7_init (a := s + 3) (s := s + 4) (y_zz h3 hz2) h4 hz4 (y_d hc rfl) (y_d hs rfl) (fun M_7 h5 => ?_)
  have hc := y_e hc (c_X7_init_q _).1
  have hs := y_e hs (c_X7_init_q _).2.1
  have hz5 := y_z2 hz4 (c_X7_init_q _).2.2
  intro M_8 e6
  have h6 := y_sfrs h5 h3 hz2 e6
  refine ⟨y_rm (w := 400) h6 hc hs rfl rfl, ?_⟩
  intro M_10 e7
  have h7 := y_nwas h6 e7
  have hc := y_c1 hc
  have hs := y_cw 400 hs
  have hz7 := y_z1 hz5
  intro M_11 e8
  have h8 := y_sfrs h7 h6 hz5 e8
  intro M_12 e9
  have h9 := y_sfis h8 e9
  intro M_13 e10
  have h10 := y_sfis h9 e10
  intro M_14 e11
  have h11 := y_sfis h10 e11
  intro M_15 e12
  have h12 := y_sfis h11 e12
  intro M_16 e13
  have h13 := y_sfis h12 e13
  intro M_17 e14
  have h14 := y_sfrn h13 e14
  intro M_18 e15
  have h15 := y_sfrn h14 e15
  exact k _ h15
