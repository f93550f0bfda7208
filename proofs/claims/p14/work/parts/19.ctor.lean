/-! ===== THE CONSTRUCTORS over a memory seen from a base ===== -/
/-- the memory M from the base n is C; r1 cells and r2 slots had been left, k1 and k2 are used since; the next cell is b -/
def y_B (n : Nat) (M C : z_Mem) (r1 k1 r2 k2 b : Nat) : Prop := y_sh n M C ∧ r1 ≤ z_cl C + k1 ∧ r2 ≤ z_sl C + k2 ∧ z_sz C = b
section YC
variable {n : Nat} {M Mi M1 C Ci C1 : z_Mem} {a b bi g k w r1 r2 k1 k2 i1 i2 : Nat}
theorem y_Bsfi {v : Int32} (h : y_B n M C r1 k1 r2 k2 b) (e : M1 = z_sfi M g (n + a) v) (f : C1 = z_sfi C g a v) : y_B n M1 C1 r1 k1 r2 k2 b := by
  subst e f; exact ⟨y_sh_sfi h.1 g a v, h.2⟩
theorem y_Bsai {j : Nat} {v : Int32} (h : y_B n M C r1 k1 r2 k2 b) (e : M1 = z_sai M (n + a) j v) (f : C1 = z_sai C a j v) : y_B n M1 C1 r1 k1 r2 k2 b := by
  subst e f; exact ⟨y_sh_sai h.1 a j v, h.2⟩
theorem y_Bsfrn {v : Nat} (h : y_B n M C r1 k1 r2 k2 b) (e : M1 = z_sfr M g (n + a) (some (n + v))) (f : C1 = z_sfr C g a (some v)) : y_B n M1 C1 r1 k1 r2 k2 b := by
  subst e f; exact ⟨y_sh_sfr h.1 g a (some v), h.2⟩
theorem y_Bsar {j v : Nat} (h : y_B n M C r1 k1 r2 k2 b) (e : M1 = z_sar M (n + a) j (some (n + v))) (f : C1 = z_sar C a j (some v)) : y_B n M1 C1 r1 k1 r2 k2 b := by
  subst e f; exact ⟨y_sh_sar h.1 a j (some v), h.2⟩
theorem y_zz (h : y_B n M C r1 k1 r2 k2 b) : z_sz M = n + b := by rw [y_sh_sz h.1, h.2.2.2]
theorem y_Bsfr (h : y_B n M C r1 k1 r2 k2 b) (hi : y_B n Mi Ci r1 i1 r2 i2 bi) (e : M1 = z_sfr M g (n + a) (some (z_sz Mi))) (f : C1 = z_sfr C g a (some bi)) : y_B n M1 C1 r1 k1 r2 k2 b := by
  rw [y_zz hi] at e; exact y_Bsfrn h e f
theorem y_Bnwa (h : y_B n M C r1 k1 r2 k2 b) (e : M1 = z_nwa M k w) (f : C1 = z_nwa C k w) : y_B n M1 C1 r1 (k1 + 1) r2 (k2 + w) (b + 1) := by
  subst e f; obtain ⟨h1, h2, h3, h4⟩ := h
  exact ⟨y_sh_nwa h1 k w, by rw [zq_cl_nwa]; omega, by rw [zq_sl_nwa]; omega, by rw [zq_sz_nwa, h4]⟩
theorem y_Bnew (h : y_B n M C r1 k1 r2 k2 b) (e : M1 = z_new M k w) (f : C1 = z_new C k w) : y_B n M1 C1 r1 (k1 + 1) r2 (k2 + w) (b + 1) := by
  subst e f; obtain ⟨h1, h2, h3, h4⟩ := h
  exact ⟨y_sh_new h1 k w, by rw [zq_cl_new]; omega, by rw [zq_sl_new]; omega, by rw [zq_sz_new, h4]⟩
theorem y_rm (h : y_B n M C r1 k1 r2 k2 b) (h1 : Nat.ble (k1 + 1) r1 = true) (h2 : Nat.ble (k2 + w) r2 = true) : z_room M w := by
  obtain ⟨g1, g2, g3, -⟩ := h
  have := Nat.le_of_ble_eq_true h1; have := Nat.le_of_ble_eq_true h2
  exact y_sh_room g1 ⟨by omega, by omega⟩
theorem y_Bfr (h : y_B n M C r1 k1 r2 k2 b) {v : Nat} (e : z_fr C g a = some v) : z_fr M g (n + a) = some (n + v) := y_sh_fr h.1 e
theorem y_Bln (h : y_B n M C r1 k1 r2 k2 b) {v : Nat} (e : z_ln C a = v) : z_ln M (n + a) = v := by rw [h.1.2.1, e]
end YC
def c_X2_init (a s : Nat) (C : z_Mem) : z_Mem := (z_sfr (z_nwa (z_sfi (z_sfi (z_sfi (z_sfi (z_sfi (z_sfi C 256 a 0) 257 a 160) 258 a 999999) 260 a 160) 261 a 999999) 264 a (-1)) 20 8) 265 a (some (s)))
theorem y_X2_init {n a s b r1 k1 r2 k2 : Nat} {M C : z_Mem} {Post : z_Mem → Prop} (hb : b = n + a) (h : y_B n M C r1 k1 r2 k2 s) (hr : Nat.ble (k1 + 1) r1 = true) (hq : Nat.ble (k2 + 8) r2 = true) (k : ∀ M1 C1, y_B n M1 C1 r1 (k1 + 1) r2 (k2 + 8) (s + 1) → C1 = c_X2_init a s  C → Post M1) : P_X2_init b  M Post := by
  subst hb
  have hr := Nat.le_of_ble_eq_true hr
  have hq := Nat.le_of_ble_eq_true hq
  unfold P_X2_init
  intro M_1 e1
  obtain ⟨C1, f1⟩ : ∃ c, c = z_sfi C 256 a 0 := ⟨_, rfl⟩
  have h1 := y_Bsfi h e1 f1
  have q1 := f1.trans (congrArg (fun c => z_sfi c 256 a 0) (Eq.refl C))
  intro M_2 e2
  obtain ⟨C2, f2⟩ : ∃ c, c = z_sfi C1 257 a 160 := ⟨_, rfl⟩
  have h2 := y_Bsfi h1 e2 f2
  have q2 := f2.trans (congrArg (fun c => z_sfi c 257 a 160) q1)
  intro M_3 e3
  obtain ⟨C3, f3⟩ : ∃ c, c = z_sfi C2 258 a 999999 := ⟨_, rfl⟩
  have h3 := y_Bsfi h2 e3 f3
  have q3 := f3.trans (congrArg (fun c => z_sfi c 258 a 999999) q2)
  intro M_4 e4
  obtain ⟨C4, f4⟩ : ∃ c, c = z_sfi C3 260 a 160 := ⟨_, rfl⟩
  have h4 := y_Bsfi h3 e4 f4
  have q4 := f4.trans (congrArg (fun c => z_sfi c 260 a 160) q3)
  intro M_5 e5
  obtain ⟨C5, f5⟩ : ∃ c, c = z_sfi C4 261 a 999999 := ⟨_, rfl⟩
  have h5 := y_Bsfi h4 e5 f5
  have q5 := f5.trans (congrArg (fun c => z_sfi c 261 a 999999) q4)
  intro M_6 e6
  obtain ⟨C6, f6⟩ : ∃ c, c = z_sfi C5 264 a (-1) := ⟨_, rfl⟩
  have h6 := y_Bsfi h5 e6 f6
  have q6 := f6.trans (congrArg (fun c => z_sfi c 264 a (-1)) q5)
  refine ⟨y_rm (w := 8) h6 (Nat.ble_eq_true_of_le (by omega)) (Nat.ble_eq_true_of_le (by omega)), ?_⟩
  intro M_8 e7
  obtain ⟨C7, f7⟩ : ∃ c, c = z_nwa C6 20 8 := ⟨_, rfl⟩
  have h7 := y_Bnwa h6 e7 f7
  have q7 := f7.trans (congrArg (fun c => z_nwa c 20 8) q6)
  intro M_9 e8
  obtain ⟨C8, f8⟩ : ∃ c, c = z_sfr C7 265 a (some (s)) := ⟨_, rfl⟩
  have h8 := y_Bsfr h7 h6 e8 f8
  have q8 := f8.trans (congrArg (fun c => z_sfr c 265 a (some (s))) q7)
  exact k _ _ h8 q8
def c_X7_init (a s : Nat) (p1 : Int32) (C : z_Mem) : z_Mem := (z_sfi (z_sfi (z_sfi (z_sfi (z_sfi (z_sfi (z_sfi (z_sfr (c_X2_init (s) (s + 1) (z_new C 3 11)) 897 a (some (s))) 900 a 80) 901 a 20) 902 a 10) 903 a 10) 906 a (-1)) 896 a p1) 898 a (if p1 = 0 then 1 else 0))
theorem y_X7_init {n a s b r1 k1 r2 k2 : Nat} {M C : z_Mem} {p1 : Int32} {Post : z_Mem → Prop} (hb : b = n + a) (h : y_B n M C r1 k1 r2 k2 s) (hr : Nat.ble (k1 + 2) r1 = true) (hq : Nat.ble (k2 + 19) r2 = true) (k : ∀ M1 C1, y_B n M1 C1 r1 (k1 + 2) r2 (k2 + 19) (s + 2) → C1 = c_X7_init a s p1 C → Post M1) : P_X7_init b p1 M Post := by
  subst hb
  have hr := Nat.le_of_ble_eq_true hr
  have hq := Nat.le_of_ble_eq_true hq
  unfold P_X7_init
  refine ⟨y_rm (w := 11) h (Nat.ble_eq_true_of_le (by omega)) (Nat.ble_eq_true_of_le (by omega)), ?_⟩
  intro M_2 e1
  obtain ⟨C1, f1⟩ : ∃ c, c = z_new C 3 11 := ⟨_, rfl⟩
  have h1 := y_Bnew h e1 f1
  have q1 := f1.trans (congrArg (fun c => z_new c 3 11) (Eq.refl C))
  refine y_X2_init (y_zz h) h1 (Nat.ble_eq_true_of_le (by omega)) (Nat.ble_eq_true_of_le (by omega)) (fun M_3 C2 h2 f2 => ?_)
  have q2 := f2.trans (congrArg (fun c => c_X2_init (s) (s + 1) c) q1)
  intro M_4 e3
  obtain ⟨C3, f3⟩ : ∃ c, c = z_sfr C2 897 a (some (s)) := ⟨_, rfl⟩
  have h3 := y_Bsfr h2 h e3 f3
  have q3 := f3.trans (congrArg (fun c => z_sfr c 897 a (some (s))) q2)
  intro M_5 e4
  obtain ⟨C4, f4⟩ : ∃ c, c = z_sfi C3 900 a 80 := ⟨_, rfl⟩
  have h4 := y_Bsfi h3 e4 f4
  have q4 := f4.trans (congrArg (fun c => z_sfi c 900 a 80) q3)
  intro M_6 e5
  obtain ⟨C5, f5⟩ : ∃ c, c = z_sfi C4 901 a 20 := ⟨_, rfl⟩
  have h5 := y_Bsfi h4 e5 f5
  have q5 := f5.trans (congrArg (fun c => z_sfi c 901 a 20) q4)
  intro M_7 e6
  obtain ⟨C6, f6⟩ : ∃ c, c = z_sfi C5 902 a 10 := ⟨_, rfl⟩
  have h6 := y_Bsfi h5 e6 f6
  have q6 := f6.trans (congrArg (fun c => z_sfi c 902 a 10) q5)
  intro M_8 e7
  obtain ⟨C7, f7⟩ : ∃ c, c = z_sfi C6 903 a 10 := ⟨_, rfl⟩
  have h7 := y_Bsfi h6 e7 f7
  have q7 := f7.trans (congrArg (fun c => z_sfi c 903 a 10) q6)
  intro M_9 e8
  obtain ⟨C8, f8⟩ : ∃ c, c = z_sfi C7 906 a (-1) := ⟨_, rfl⟩
  have h8 := y_Bsfi h7 e8 f8
  have q8 := f8.trans (congrArg (fun c => z_sfi c 906 a (-1)) q7)
  intro M_10 e9
  obtain ⟨C9, f9⟩ : ∃ c, c = z_sfi C8 896 a p1 := ⟨_, rfl⟩
  have h9 := y_Bsfi h8 e9 f9
  have q9 := f9.trans (congrArg (fun c => z_sfi c 896 a p1) q8)
  obtain ⟨C0, f0⟩ : ∃ c, c = z_sfi C9 898 a (if p1 = 0 then 1 else 0) := ⟨_, rfl⟩
  refine ⟨fun hp => ?_, fun hp => ?_⟩
  · intro M9 e9
    refine k _ C0 (y_Bsfi h9 e9 (by rw [f0, if_pos hp])) (f0.trans (congrArg (fun c => z_sfi c 898 a (if p1 = 0 then 1 else 0)) q9))
  · intro M9 e9
    refine k _ C0 (y_Bsfi h9 e9 (by rw [f0, if_neg hp])) (f0.trans (congrArg (fun c => z_sfi c 898 a (if p1 = 0 then 1 else 0)) q9))
def c_X4_init (a s : Nat) (p1 : Int32) (C : z_Mem) : z_Mem := (z_sfi (z_sfi C 517 a (-1)) 512 a p1)
theorem y_X4_init {n a s b r1 k1 r2 k2 : Nat} {M C : z_Mem} {p1 : Int32} {Post : z_Mem → Prop} (hb : b = n + a) (h : y_B n M C r1 k1 r2 k2 s) (hr : Nat.ble (k1 + 0) r1 = true) (hq : Nat.ble (k2 + 0) r2 = true) (k : ∀ M1 C1, y_B n M1 C1 r1 (k1 + 0) r2 (k2 + 0) (s + 0) → C1 = c_X4_init a s p1 C → Post M1) : P_X4_init b p1 M Post := by
  subst hb
  have hr := Nat.le_of_ble_eq_true hr
  have hq := Nat.le_of_ble_eq_true hq
  unfold P_X4_init
  intro M_1 e1
  obtain ⟨C1, f1⟩ : ∃ c, c = z_sfi C 517 a (-1) := ⟨_, rfl⟩
  have h1 := y_Bsfi h e1 f1
  have q1 := f1.trans (congrArg (fun c => z_sfi c 517 a (-1)) (Eq.refl C))
  intro M_2 e2
  obtain ⟨C2, f2⟩ : ∃ c, c = z_sfi C1 512 a p1 := ⟨_, rfl⟩
  have h2 := y_Bsfi h1 e2 f2
  have q2 := f2.trans (congrArg (fun c => z_sfi c 512 a p1) q1)
  exact k _ _ h2 q2
def c_X3_init (a s : Nat) (C : z_Mem) : z_Mem := (z_sfr (z_nwa (z_sfi (z_sfi (z_sfi (z_sfi (z_sfi C 384 a 5) 385 a 2) 386 a 8) 387 a 6) 388 a 1) 22 30) 393 a (some (s)))
theorem y_X3_init {n a s b r1 k1 r2 k2 : Nat} {M C : z_Mem} {Post : z_Mem → Prop} (hb : b = n + a) (h : y_B n M C r1 k1 r2 k2 s) (hr : Nat.ble (k1 + 1) r1 = true) (hq : Nat.ble (k2 + 30) r2 = true) (k : ∀ M1 C1, y_B n M1 C1 r1 (k1 + 1) r2 (k2 + 30) (s + 1) → C1 = c_X3_init a s  C → Post M1) : P_X3_init b  M Post := by
  subst hb
  have hr := Nat.le_of_ble_eq_true hr
  have hq := Nat.le_of_ble_eq_true hq
  unfold P_X3_init
  intro M_1 e1
  obtain ⟨C1, f1⟩ : ∃ c, c = z_sfi C 384 a 5 := ⟨_, rfl⟩
  have h1 := y_Bsfi h e1 f1
  have q1 := f1.trans (congrArg (fun c => z_sfi c 384 a 5) (Eq.refl C))
  intro M_2 e2
  obtain ⟨C2, f2⟩ : ∃ c, c = z_sfi C1 385 a 2 := ⟨_, rfl⟩
  have h2 := y_Bsfi h1 e2 f2
  have q2 := f2.trans (congrArg (fun c => z_sfi c 385 a 2) q1)
  intro M_3 e3
  obtain ⟨C3, f3⟩ : ∃ c, c = z_sfi C2 386 a 8 := ⟨_, rfl⟩
  have h3 := y_Bsfi h2 e3 f3
  have q3 := f3.trans (congrArg (fun c => z_sfi c 386 a 8) q2)
  intro M_4 e4
  obtain ⟨C4, f4⟩ : ∃ c, c = z_sfi C3 387 a 6 := ⟨_, rfl⟩
  have h4 := y_Bsfi h3 e4 f4
  have q4 := f4.trans (congrArg (fun c => z_sfi c 387 a 6) q3)
  intro M_5 e5
  obtain ⟨C5, f5⟩ : ∃ c, c = z_sfi C4 388 a 1 := ⟨_, rfl⟩
  have h5 := y_Bsfi h4 e5 f5
  have q5 := f5.trans (congrArg (fun c => z_sfi c 388 a 1) q4)
  refine ⟨y_rm (w := 30) h5 (Nat.ble_eq_true_of_le (by omega)) (Nat.ble_eq_true_of_le (by omega)), ?_⟩
  intro M_7 e6
  obtain ⟨C6, f6⟩ : ∃ c, c = z_nwa C5 22 30 := ⟨_, rfl⟩
  have h6 := y_Bnwa h5 e6 f6
  have q6 := f6.trans (congrArg (fun c => z_nwa c 22 30) q5)
  intro M_8 e7
  obtain ⟨C7, f7⟩ : ∃ c, c = z_sfr C6 393 a (some (s)) := ⟨_, rfl⟩
  have h7 := y_Bsfr h6 h5 e7 f7
  have q7 := f7.trans (congrArg (fun c => z_sfr c 393 a (some (s))) q6)
  exact k _ _ h7 q7
def c_X10_init (a s : Nat) (w : Nat) (C : z_Mem) : z_Mem := z_sfr (z_nwa C 22 w) 1280 a (some s)
theorem y_X10_init {n a s b r1 k1 r2 k2 : Nat} (w : Nat) {M C : z_Mem} {p1 : Int32} {Post : z_Mem → Prop} (hp : ((if 0 < p1 then p1 else 0) : Int32) = nI w) (hw : Nat.ble w 60000 = true) (hb : b = n + a) (h : y_B n M C r1 k1 r2 k2 s) (hr : Nat.ble (k1 + 1) r1 = true) (hq : Nat.ble (k2 + w) r2 = true) (k : ∀ M1 C1, y_B n M1 C1 r1 (k1 + 1) r2 (k2 + w) (s + 1) → C1 = c_X10_init a s w C → Post M1) : P_X10_init b p1 M Post := by
  subst hb
  unfold P_X10_init
  refine ⟨w, hp, Nat.le_of_ble_eq_true hw, y_rm h hr hq, ?_⟩
  intro M1 e1
  have h1 := y_Bnwa h e1 rfl
  intro M2 e2
  exact k _ _ (y_Bsfr h1 h e2 rfl) rfl
def c_X5_init (a s : Nat) (C : z_Mem) : z_Mem := (z_sfr (c_X4_init (s + 8) (s + 9) 9 (z_new (z_sfr (c_X10_init (s + 6) (s + 7) 2048 (z_new (z_sfr (c_X10_init (s + 4) (s + 5) 1024 (z_new (z_sfr (c_X3_init (s + 2) (s + 3) (z_new (z_sfr (c_X3_init (s) (s + 1) (z_new C 4 12)) 640 a (some (s))) 4 12)) 641 a (some (s + 2))) 11 2)) 642 a (some (s + 4))) 11 2)) 643 a (some (s + 6))) 5 8)) 644 a (some (s + 8)))
theorem y_X5_init {n a s b r1 k1 r2 k2 : Nat} {M C : z_Mem} {Post : z_Mem → Prop} (hb : b = n + a) (h : y_B n M C r1 k1 r2 k2 s) (hr : Nat.ble (k1 + 9) r1 = true) (hq : Nat.ble (k2 + 3168) r2 = true) (k : ∀ M1 C1, y_B n M1 C1 r1 (k1 + 9) r2 (k2 + 3168) (s + 9) → C1 = c_X5_init a s  C → Post M1) : P_X5_init b  M Post := by
  subst hb
  have hr := Nat.le_of_ble_eq_true hr
  have hq := Nat.le_of_ble_eq_true hq
  unfold P_X5_init
  refine ⟨y_rm (w := 12) h (Nat.ble_eq_true_of_le (by omega)) (Nat.ble_eq_true_of_le (by omega)), ?_⟩
  intro M_2 e1
  obtain ⟨C1, f1⟩ : ∃ c, c = z_new C 4 12 := ⟨_, rfl⟩
  have h1 := y_Bnew h e1 f1
  have q1 := f1.trans (congrArg (fun c => z_new c 4 12) (Eq.refl C))
  refine y_X3_init (y_zz h) h1 (Nat.ble_eq_true_of_le (by omega)) (Nat.ble_eq_true_of_le (by omega)) (fun M_3 C2 h2 f2 => ?_)
  have q2 := f2.trans (congrArg (fun c => c_X3_init (s) (s + 1) c) q1)
  intro M_4 e3
  obtain ⟨C3, f3⟩ : ∃ c, c = z_sfr C2 640 a (some (s)) := ⟨_, rfl⟩
  have h3 := y_Bsfr h2 h e3 f3
  have q3 := f3.trans (congrArg (fun c => z_sfr c 640 a (some (s))) q2)
  refine ⟨y_rm (w := 12) h3 (Nat.ble_eq_true_of_le (by omega)) (Nat.ble_eq_true_of_le (by omega)), ?_⟩
  intro M_6 e4
  obtain ⟨C4, f4⟩ : ∃ c, c = z_new C3 4 12 := ⟨_, rfl⟩
  have h4 := y_Bnew h3 e4 f4
  have q4 := f4.trans (congrArg (fun c => z_new c 4 12) q3)
  refine y_X3_init (y_zz h3) h4 (Nat.ble_eq_true_of_le (by omega)) (Nat.ble_eq_true_of_le (by omega)) (fun M_7 C5 h5 f5 => ?_)
  have q5 := f5.trans (congrArg (fun c => c_X3_init (s + 2) (s + 3) c) q4)
  intro M_8 e6
  obtain ⟨C6, f6⟩ : ∃ c, c = z_sfr C5 641 a (some (s + 2)) := ⟨_, rfl⟩
  have h6 := y_Bsfr h5 h3 e6 f6
  have q6 := f6.trans (congrArg (fun c => z_sfr c 641 a (some (s + 2))) q5)
  refine ⟨y_rm (w := 2) h6 (Nat.ble_eq_true_of_le (by omega)) (Nat.ble_eq_true_of_le (by omega)), ?_⟩
  intro M_10 e7
  obtain ⟨C7, f7⟩ : ∃ c, c = z_new C6 11 2 := ⟨_, rfl⟩
  have h7 := y_Bnew h6 e7 f7
  have q7 := f7.trans (congrArg (fun c => z_new c 11 2) q6)
  refine y_X10_init 1024 (by decide) rfl (y_zz h6) h7 (Nat.ble_eq_true_of_le (by omega)) (Nat.ble_eq_true_of_le (by omega)) (fun M_11 C8 h8 f8 => ?_)
  have q8 := f8.trans (congrArg (fun c => c_X10_init (s + 4) (s + 5) 1024 c) q7)
  intro M_12 e9
  obtain ⟨C9, f9⟩ : ∃ c, c = z_sfr C8 642 a (some (s + 4)) := ⟨_, rfl⟩
  have h9 := y_Bsfr h8 h6 e9 f9
  have q9 := f9.trans (congrArg (fun c => z_sfr c 642 a (some (s + 4))) q8)
  refine ⟨y_rm (w := 2) h9 (Nat.ble_eq_true_of_le (by omega)) (Nat.ble_eq_true_of_le (by omega)), ?_⟩
  intro M_14 e10
  obtain ⟨C10, f10⟩ : ∃ c, c = z_new C9 11 2 := ⟨_, rfl⟩
  have h10 := y_Bnew h9 e10 f10
  have q10 := f10.trans (congrArg (fun c => z_new c 11 2) q9)
  refine y_X10_init 2048 (by decide) rfl (y_zz h9) h10 (Nat.ble_eq_true_of_le (by omega)) (Nat.ble_eq_true_of_le (by omega)) (fun M_15 C11 h11 f11 => ?_)
  have q11 := f11.trans (congrArg (fun c => c_X10_init (s + 6) (s + 7) 2048 c) q10)
  intro M_16 e12
  obtain ⟨C12, f12⟩ : ∃ c, c = z_sfr C11 643 a (some (s + 6)) := ⟨_, rfl⟩
  have h12 := y_Bsfr h11 h9 e12 f12
  have q12 := f12.trans (congrArg (fun c => z_sfr c 643 a (some (s + 6))) q11)
  refine ⟨y_rm (w := 8) h12 (Nat.ble_eq_true_of_le (by omega)) (Nat.ble_eq_true_of_le (by omega)), ?_⟩
  intro M_18 e13
  obtain ⟨C13, f13⟩ : ∃ c, c = z_new C12 5 8 := ⟨_, rfl⟩
  have h13 := y_Bnew h12 e13 f13
  have q13 := f13.trans (congrArg (fun c => z_new c 5 8) q12)
  refine y_X4_init (y_zz h12) h13 (Nat.ble_eq_true_of_le (by omega)) (Nat.ble_eq_true_of_le (by omega)) (fun M_19 C14 h14 f14 => ?_)
  have q14 := f14.trans (congrArg (fun c => c_X4_init (s + 8) (s + 9) 9 c) q13)
  intro M_20 e15
  obtain ⟨C15, f15⟩ : ∃ c, c = z_sfr C14 644 a (some (s + 8)) := ⟨_, rfl⟩
  have h15 := y_Bsfr h14 h12 e15 f15
  have q15 := f15.trans (congrArg (fun c => z_sfr c 644 a (some (s + 8))) q14)
  exact k _ _ h15 q15
def c_X9_init (a s : Nat) (C : z_Mem) : z_Mem := (z_sfr (z_nwa (z_sfr (z_nwa (z_sfr (z_nwa (z_sfi C 1156 a 40) 21 200) 1159 a (some (s))) 20 200) 1160 a (some (s + 1))) 21 200) 1161 a (some (s + 2)))
theorem y_X9_init {n a s b r1 k1 r2 k2 : Nat} {M C : z_Mem} {Post : z_Mem → Prop} (hb : b = n + a) (h : y_B n M C r1 k1 r2 k2 s) (hr : Nat.ble (k1 + 3) r1 = true) (hq : Nat.ble (k2 + 600) r2 = true) (k : ∀ M1 C1, y_B n M1 C1 r1 (k1 + 3) r2 (k2 + 600) (s + 3) → C1 = c_X9_init a s  C → Post M1) : P_X9_init b  M Post := by
  subst hb
  have hr := Nat.le_of_ble_eq_true hr
  have hq := Nat.le_of_ble_eq_true hq
  unfold P_X9_init
  intro M_1 e1
  obtain ⟨C1, f1⟩ : ∃ c, c = z_sfi C 1156 a 40 := ⟨_, rfl⟩
  have h1 := y_Bsfi h e1 f1
  have q1 := f1.trans (congrArg (fun c => z_sfi c 1156 a 40) (Eq.refl C))
  refine ⟨y_rm (w := 200) h1 (Nat.ble_eq_true_of_le (by omega)) (Nat.ble_eq_true_of_le (by omega)), ?_⟩
  intro M_3 e2
  obtain ⟨C2, f2⟩ : ∃ c, c = z_nwa C1 21 200 := ⟨_, rfl⟩
  have h2 := y_Bnwa h1 e2 f2
  have q2 := f2.trans (congrArg (fun c => z_nwa c 21 200) q1)
  intro M_4 e3
  obtain ⟨C3, f3⟩ : ∃ c, c = z_sfr C2 1159 a (some (s)) := ⟨_, rfl⟩
  have h3 := y_Bsfr h2 h1 e3 f3
  have q3 := f3.trans (congrArg (fun c => z_sfr c 1159 a (some (s))) q2)
  refine ⟨y_rm (w := 200) h3 (Nat.ble_eq_true_of_le (by omega)) (Nat.ble_eq_true_of_le (by omega)), ?_⟩
  intro M_6 e4
  obtain ⟨C4, f4⟩ : ∃ c, c = z_nwa C3 20 200 := ⟨_, rfl⟩
  have h4 := y_Bnwa h3 e4 f4
  have q4 := f4.trans (congrArg (fun c => z_nwa c 20 200) q3)
  intro M_7 e5
  obtain ⟨C5, f5⟩ : ∃ c, c = z_sfr C4 1160 a (some (s + 1)) := ⟨_, rfl⟩
  have h5 := y_Bsfr h4 h3 e5 f5
  have q5 := f5.trans (congrArg (fun c => z_sfr c 1160 a (some (s + 1))) q4)
  refine ⟨y_rm (w := 200) h5 (Nat.ble_eq_true_of_le (by omega)) (Nat.ble_eq_true_of_le (by omega)), ?_⟩
  intro M_9 e6
  obtain ⟨C6, f6⟩ : ∃ c, c = z_nwa C5 21 200 := ⟨_, rfl⟩
  have h6 := y_Bnwa h5 e6 f6
  have q6 := f6.trans (congrArg (fun c => z_nwa c 21 200) q5)
  intro M_10 e7
  obtain ⟨C7, f7⟩ : ∃ c, c = z_sfr C6 1161 a (some (s + 2)) := ⟨_, rfl⟩
  have h7 := y_Bsfr h6 h5 e7 f7
  have q7 := f7.trans (congrArg (fun c => z_sfr c 1161 a (some (s + 2))) q6)
  exact k _ _ h7 q7
def c_X8_init (a s : Nat) (p1 : Nat) (p2 : Nat) (C : z_Mem) : z_Mem := (z_sfr (z_sfr (z_sfi (z_sfi (z_sfi (z_sfr (z_nwa (z_sfi (z_sfr (z_nwa (z_sfi C 1026 a 0) 21 10) 1029 a (some (s))) 1031 a (-1)) 21 400) 1033 a (some (s + 1))) 1034 a (-1)) 1037 a (-1)) 1038 a (-1)) 1024 a (some p1)) 1025 a (some p2))
theorem y_X8_init {n a s b r1 k1 r2 k2 : Nat} {M C : z_Mem} {p1 : Nat} {p2 : Nat} {Post : z_Mem → Prop} (hb : b = n + a) (h : y_B n M C r1 k1 r2 k2 s) (hr : Nat.ble (k1 + 2) r1 = true) (hq : Nat.ble (k2 + 410) r2 = true) (k : ∀ M1 C1, y_B n M1 C1 r1 (k1 + 2) r2 (k2 + 410) (s + 2) → C1 = c_X8_init a s p1 p2 C → Post M1) : P_X8_init b (some (n + p1)) (some (n + p2)) M Post := by
  subst hb
  have hr := Nat.le_of_ble_eq_true hr
  have hq := Nat.le_of_ble_eq_true hq
  unfold P_X8_init
  intro M_1 e1
  obtain ⟨C1, f1⟩ : ∃ c, c = z_sfi C 1026 a 0 := ⟨_, rfl⟩
  have h1 := y_Bsfi h e1 f1
  have q1 := f1.trans (congrArg (fun c => z_sfi c 1026 a 0) (Eq.refl C))
  refine ⟨y_rm (w := 10) h1 (Nat.ble_eq_true_of_le (by omega)) (Nat.ble_eq_true_of_le (by omega)), ?_⟩
  intro M_3 e2
  obtain ⟨C2, f2⟩ : ∃ c, c = z_nwa C1 21 10 := ⟨_, rfl⟩
  have h2 := y_Bnwa h1 e2 f2
  have q2 := f2.trans (congrArg (fun c => z_nwa c 21 10) q1)
  intro M_4 e3
  obtain ⟨C3, f3⟩ : ∃ c, c = z_sfr C2 1029 a (some (s)) := ⟨_, rfl⟩
  have h3 := y_Bsfr h2 h1 e3 f3
  have q3 := f3.trans (congrArg (fun c => z_sfr c 1029 a (some (s))) q2)
  intro M_5 e4
  obtain ⟨C4, f4⟩ : ∃ c, c = z_sfi C3 1031 a (-1) := ⟨_, rfl⟩
  have h4 := y_Bsfi h3 e4 f4
  have q4 := f4.trans (congrArg (fun c => z_sfi c 1031 a (-1)) q3)
  refine ⟨y_rm (w := 400) h4 (Nat.ble_eq_true_of_le (by omega)) (Nat.ble_eq_true_of_le (by omega)), ?_⟩
  intro M_7 e5
  obtain ⟨C5, f5⟩ : ∃ c, c = z_nwa C4 21 400 := ⟨_, rfl⟩
  have h5 := y_Bnwa h4 e5 f5
  have q5 := f5.trans (congrArg (fun c => z_nwa c 21 400) q4)
  intro M_8 e6
  obtain ⟨C6, f6⟩ : ∃ c, c = z_sfr C5 1033 a (some (s + 1)) := ⟨_, rfl⟩
  have h6 := y_Bsfr h5 h4 e6 f6
  have q6 := f6.trans (congrArg (fun c => z_sfr c 1033 a (some (s + 1))) q5)
  intro M_9 e7
  obtain ⟨C7, f7⟩ : ∃ c, c = z_sfi C6 1034 a (-1) := ⟨_, rfl⟩
  have h7 := y_Bsfi h6 e7 f7
  have q7 := f7.trans (congrArg (fun c => z_sfi c 1034 a (-1)) q6)
  intro M_10 e8
  obtain ⟨C8, f8⟩ : ∃ c, c = z_sfi C7 1037 a (-1) := ⟨_, rfl⟩
  have h8 := y_Bsfi h7 e8 f8
  have q8 := f8.trans (congrArg (fun c => z_sfi c 1037 a (-1)) q7)
  intro M_11 e9
  obtain ⟨C9, f9⟩ : ∃ c, c = z_sfi C8 1038 a (-1) := ⟨_, rfl⟩
  have h9 := y_Bsfi h8 e9 f9
  have q9 := f9.trans (congrArg (fun c => z_sfi c 1038 a (-1)) q8)
  intro M_12 e10
  obtain ⟨C10, f10⟩ : ∃ c, c = z_sfr C9 1024 a (some p1) := ⟨_, rfl⟩
  have h10 := y_Bsfrn h9 e10 f10
  have q10 := f10.trans (congrArg (fun c => z_sfr c 1024 a (some p1)) q9)
  intro M_13 e11
  obtain ⟨C11, f11⟩ : ∃ c, c = z_sfr C10 1025 a (some p2) := ⟨_, rfl⟩
  have h11 := y_Bsfrn h10 e11 f11
  have q11 := f11.trans (congrArg (fun c => z_sfr c 1025 a (some p2)) q10)
  exact k _ _ h11 q11
def c_X1_init (a s : Nat) (p1 : Nat) (p2 : Nat) (C : z_Mem) : z_Mem := (z_sfr (z_sfr (z_sfi (z_sfi (z_sfi (z_sfi (z_sfi (z_sfr (z_nwa (z_sfr (c_X7_init (s + 3) (s + 4) 1 (z_new (z_sfr (c_X7_init (s) (s + 1) 0 (z_new C 8 18)) 130 a (some (s))) 8 18)) 131 a (some (s + 3))) 23 400) 132 a (some (s + 6))) 135 a 0) 136 a (-1)) 140 a 10) 144 a 100) 145 a 3) 128 a (some p1)) 129 a (some p2))
theorem y_X1_init {n a s b r1 k1 r2 k2 : Nat} {M C : z_Mem} {p1 : Nat} {p2 : Nat} {Post : z_Mem → Prop} (hb : b = n + a) (h : y_B n M C r1 k1 r2 k2 s) (hr : Nat.ble (k1 + 7) r1 = true) (hq : Nat.ble (k2 + 474) r2 = true) (k : ∀ M1 C1, y_B n M1 C1 r1 (k1 + 7) r2 (k2 + 474) (s + 7) → C1 = c_X1_init a s p1 p2 C → Post M1) : P_X1_init b (some (n + p1)) (some (n + p2)) M Post := by
  subst hb
  have hr := Nat.le_of_ble_eq_true hr
  have hq := Nat.le_of_ble_eq_true hq
  unfold P_X1_init
  refine ⟨y_rm (w := 18) h (Nat.ble_eq_true_of_le (by omega)) (Nat.ble_eq_true_of_le (by omega)), ?_⟩
  intro M_2 e1
  obtain ⟨C1, f1⟩ : ∃ c, c = z_new C 8 18 := ⟨_, rfl⟩
  have h1 := y_Bnew h e1 f1
  have q1 := f1.trans (congrArg (fun c => z_new c 8 18) (Eq.refl C))
  refine y_X7_init (y_zz h) h1 (Nat.ble_eq_true_of_le (by omega)) (Nat.ble_eq_true_of_le (by omega)) (fun M_3 C2 h2 f2 => ?_)
  have q2 := f2.trans (congrArg (fun c => c_X7_init (s) (s + 1) 0 c) q1)
  intro M_4 e3
  obtain ⟨C3, f3⟩ : ∃ c, c = z_sfr C2 130 a (some (s)) := ⟨_, rfl⟩
  have h3 := y_Bsfr h2 h e3 f3
  have q3 := f3.trans (congrArg (fun c => z_sfr c 130 a (some (s))) q2)
  refine ⟨y_rm (w := 18) h3 (Nat.ble_eq_true_of_le (by omega)) (Nat.ble_eq_true_of_le (by omega)), ?_⟩
  intro M_6 e4
  obtain ⟨C4, f4⟩ : ∃ c, c = z_new C3 8 18 := ⟨_, rfl⟩
  have h4 := y_Bnew h3 e4 f4
  have q4 := f4.trans (congrArg (fun c => z_new c 8 18) q3)
  refine y_X7_init (y_zz h3) h4 (Nat.ble_eq_true_of_le (by omega)) (Nat.ble_eq_true_of_le (by omega)) (fun M_7 C5 h5 f5 => ?_)
  have q5 := f5.trans (congrArg (fun c => c_X7_init (s + 3) (s + 4) 1 c) q4)
  intro M_8 e6
  obtain ⟨C6, f6⟩ : ∃ c, c = z_sfr C5 131 a (some (s + 3)) := ⟨_, rfl⟩
  have h6 := y_Bsfr h5 h3 e6 f6
  have q6 := f6.trans (congrArg (fun c => z_sfr c 131 a (some (s + 3))) q5)
  refine ⟨y_rm (w := 400) h6 (Nat.ble_eq_true_of_le (by omega)) (Nat.ble_eq_true_of_le (by omega)), ?_⟩
  intro M_10 e7
  obtain ⟨C7, f7⟩ : ∃ c, c = z_nwa C6 23 400 := ⟨_, rfl⟩
  have h7 := y_Bnwa h6 e7 f7
  have q7 := f7.trans (congrArg (fun c => z_nwa c 23 400) q6)
  intro M_11 e8
  obtain ⟨C8, f8⟩ : ∃ c, c = z_sfr C7 132 a (some (s + 6)) := ⟨_, rfl⟩
  have h8 := y_Bsfr h7 h6 e8 f8
  have q8 := f8.trans (congrArg (fun c => z_sfr c 132 a (some (s + 6))) q7)
  intro M_12 e9
  obtain ⟨C9, f9⟩ : ∃ c, c = z_sfi C8 135 a 0 := ⟨_, rfl⟩
  have h9 := y_Bsfi h8 e9 f9
  have q9 := f9.trans (congrArg (fun c => z_sfi c 135 a 0) q8)
  intro M_13 e10
  obtain ⟨C10, f10⟩ : ∃ c, c = z_sfi C9 136 a (-1) := ⟨_, rfl⟩
  have h10 := y_Bsfi h9 e10 f10
  have q10 := f10.trans (congrArg (fun c => z_sfi c 136 a (-1)) q9)
  intro M_14 e11
  obtain ⟨C11, f11⟩ : ∃ c, c = z_sfi C10 140 a 10 := ⟨_, rfl⟩
  have h11 := y_Bsfi h10 e11 f11
  have q11 := f11.trans (congrArg (fun c => z_sfi c 140 a 10) q10)
  intro M_15 e12
  obtain ⟨C12, f12⟩ : ∃ c, c = z_sfi C11 144 a 100 := ⟨_, rfl⟩
  have h12 := y_Bsfi h11 e12 f12
  have q12 := f12.trans (congrArg (fun c => z_sfi c 144 a 100) q11)
  intro M_16 e13
  obtain ⟨C13, f13⟩ : ∃ c, c = z_sfi C12 145 a 3 := ⟨_, rfl⟩
  have h13 := y_Bsfi h12 e13 f13
  have q13 := f13.trans (congrArg (fun c => z_sfi c 145 a 3) q12)
  intro M_17 e14
  obtain ⟨C14, f14⟩ : ∃ c, c = z_sfr C13 128 a (some p1) := ⟨_, rfl⟩
  have h14 := y_Bsfrn h13 e14 f14
  have q14 := f14.trans (congrArg (fun c => z_sfr c 128 a (some p1)) q13)
  intro M_18 e15
  obtain ⟨C15, f15⟩ : ∃ c, c = z_sfr C14 129 a (some p2) := ⟨_, rfl⟩
  have h15 := y_Bsfrn h14 e15 f15
  have q15 := f15.trans (congrArg (fun c => z_sfr c 129 a (some p2)) q14)
  exact k _ _ h15 q15
