/-! ===== THE CLASS'S INVARIANT (weak): its ranges, its room, what it leaves alone ===== -/
/-- int fields that only rows of their own may write -/
def y_SP : List Nat := [394, 395, 385, 1281, 266, 133, 137, 135, 645, 388, 1027, 256, 1152, 771, 3, 145]
def y_KP : List Nat := [645, 388, 1027, 256, 1152]
def y_ok (g : Nat) : Bool := decide (g < 1536) && y_SP.all (fun k => !(k == g))
def y_L (n : Nat) (f : Nat → Nat → Int32) : Prop :=
  (∀ a, a = n + 2 ∨ a = n + 4 → 0 ≤ (f 394 a).toInt ∧ (f 394 a).toInt < 30 ∧ 0 ≤ (f 395 a).toInt ∧ (f 395 a).toInt ≤ 30 ∧ (f 385 a).toInt ≤ 9) ∧
  (0 ≤ (f 1281 (n + 6)).toInt ∧ (f 1281 (n + 6)).toInt ≤ 1024) ∧ (0 ≤ (f 1281 (n + 8)).toInt ∧ (f 1281 (n + 8)).toInt ≤ 2048) ∧
  (∀ a, a = n + 33 ∨ a = n + 36 → 0 ≤ (f 266 a).toInt ∧ (f 266 a).toInt < 8) ∧
  (0 ≤ (f 133 (n + 31)).toInt ∧ (f 133 (n + 31)).toInt ≤ 400) ∧ (∀ a, 0 ≤ (f 771 a).toInt ∧ (f 771 a).toInt < 4) ∧ (∀ a, 0 ≤ (f 3 a).toInt ∧ (f 3 a).toInt ≤ 4) ∧ (0 ≤ (f 145 (n + 31)).toInt ∧ (f 145 (n + 31)).toInt < 4)
/-- the room that is left for c cells and s slots, beside what is owed to what is under way -/
def y_R (n c s : Nat) (f : Nat → Nat → Int32) (cl sl : Nat) : Prop :=
  c + 9 * (f 1281 (n + 6)).toInt.toNat + 3 * (400 - (f 133 (n + 31)).toInt).toNat + (if f 137 (n + 31) = 0 then 2 else 0) ≤ cl ∧
  s + 40 * (f 1281 (n + 6)).toInt.toNat + 30 * (400 - (f 133 (n + 31)).toInt).toNat + (if f 137 (n + 31) = 0 then 16 else 0) ≤ sl
def y_ak (n : Nat) (M : z_Mem) (b : Nat) : Prop := n + 108 ≤ b ∧ b < z_sz M ∧ ∃ l h e, z_fr M 0 b = some l ∧ z_fr M 1 b = some h ∧ z_fr M 2 b = some e ∧ (z_ln M l = 4 ∧ n + 108 ≤ l ∧ l < z_sz M) ∧ (z_ln M h = 4 ∧ n + 108 ≤ h ∧ h < z_sz M) ∧ (z_ln M e = 4 ∧ n + 108 ≤ e ∧ e < z_sz M)
def y_AK (n : Nat) (M : z_Mem) : Prop := ∀ m b, z_fr M 516 m = some b → y_ak n M b
def y_F (n : Nat) (f0 f : Nat → Nat → Int32) : Prop := (∀ g, 1536 ≤ g → f g (n + 40) = f0 g (n + 40)) ∧ (∀ g, g ∈ y_KP → ∀ a, a < n + 108 → f g a = f0 g a) ∧ (f 135 (n + 31) = 0 ↔ f0 135 (n + 31) = 0)
def y_G (n : Nat) (M0 M : z_Mem) : Prop := (∀ x j, 41 ≤ x → x < 107 → z_ai M (n + x) j = z_ai M0 (n + x) j) ∧ (∀ a j, a < n + 108 → z_al M a j = z_al M0 a j) ∧ z_sz M0 ≤ z_sz M ∧ ∀ b, y_ak n M0 b → y_ak n M b
def y_CI (n c s : Nat) (M0 M : z_Mem) : Prop := y_S n M ∧ y_L n (z_fi M) ∧ y_R n c s (z_fi M) (z_cl M) (z_sl M) ∧ y_AK n M ∧ y_F n (z_fi M0) (z_fi M) ∧ y_G n M0 M
theorem y_L.congr {n : Nat} {f f1 : Nat → Nat → Int32} (h : ∀ g, g ∈ y_SP → ∀ a, f1 g a = f g a) (H : y_L n f) : y_L n f1 := by
  unfold y_L at *
  simp only [h 394 (by decide), h 395 (by decide), h 385 (by decide), h 1281 (by decide), h 266 (by decide), h 133 (by decide), h 771 (by decide), h 3 (by decide), h 145 (by decide)]
  exact H
theorem y_R.congr {n c s cl sl : Nat} {f f1 : Nat → Nat → Int32} (h : ∀ g, g ∈ y_SP → ∀ a, f1 g a = f g a) (H : y_R n c s f cl sl) : y_R n c s f1 cl sl := by
  unfold y_R at *
  simp only [h 1281 (by decide), h 137 (by decide), h 133 (by decide)]
  exact H
theorem y_okS {g : Nat} (h : y_ok g = true) : g < 1536 ∧ ∀ k, k ∈ y_SP → k ≠ g := by
  unfold y_ok at h
  rw [Bool.and_eq_true, decide_eq_true_eq, List.all_eq_true] at h
  exact ⟨h.1, fun k hk e => by have := h.2 k hk; rw [e] at this; simp at this⟩
theorem ak_sfr {n b g a : Nat} {M : z_Mem} {v : Option Nat} (h3 : 3 ≤ g) (h : y_ak n M b) : y_ak n (z_sfr M g a v) b := by
  obtain ⟨h1, h2, l, hh, e, q0, q1, q2, qq⟩ := h
  refine ⟨h1, h2, l, hh, e, ?_, ?_, ?_, qq⟩
  · rw [zq_fr_sfr, if_neg (by omega)]; exact q0
  · rw [zq_fr_sfr, if_neg (by omega)]; exact q1
  · rw [zq_fr_sfr, if_neg (by omega)]; exact q2
theorem ak_new {n b k w : Nat} {M : z_Mem} (h : y_ak n M b) : y_ak n (z_new M k w) b := by
  obtain ⟨h1, h2, l, hh, e, q0, q1, q2, q3, q4, q5⟩ := h
  refine ⟨h1, by rw [zq_sz_new]; omega, l, hh, e, ?_, ?_, ?_, ⟨q3.1, q3.2.1, by rw [zq_sz_new]; omega⟩, ⟨q4.1, q4.2.1, by rw [zq_sz_new]; omega⟩, ⟨q5.1, q5.2.1, by rw [zq_sz_new]; omega⟩⟩
  · rw [zq_fr_new, if_neg (by omega)]; exact q0
  · rw [zq_fr_new, if_neg (by omega)]; exact q1
  · rw [zq_fr_new, if_neg (by omega)]; exact q2
theorem ak_nwa {n b k w : Nat} {M : z_Mem} (h : y_ak n M b) : y_ak n (z_nwa M k w) b := by
  obtain ⟨h1, h2, l, hh, e, q0, q1, q2, q3, q4, q5⟩ := h
  refine ⟨h1, by rw [zq_sz_nwa]; omega, l, hh, e, q0, q1, q2, ⟨?_, q3.2.1, by rw [zq_sz_nwa]; omega⟩, ⟨?_, q4.2.1, by rw [zq_sz_nwa]; omega⟩, ⟨?_, q5.2.1, by rw [zq_sz_nwa]; omega⟩⟩
  · rw [zq_ln_nwa, if_neg (by omega)]; exact q3.1
  · rw [zq_ln_nwa, if_neg (by omega)]; exact q4.1
  · rw [zq_ln_nwa, if_neg (by omega)]; exact q5.1
theorem ak_exc {n b k w : Nat} {M : z_Mem} (h : y_ak n M b) : y_ak n (z_exc M k w) b := by
  obtain ⟨h1, h2, l, hh, e, q0, q1, q2, q3, q4, q5⟩ := h
  exact ⟨h1, Nat.lt_add_right _ h2, l, hh, e, q0, q1, q2, ⟨q3.1, q3.2.1, Nat.lt_add_right _ q3.2.2⟩, ⟨q4.1, q4.2.1, Nat.lt_add_right _ q4.2.2⟩, ⟨q5.1, q5.2.1, Nat.lt_add_right _ q5.2.2⟩⟩
section YI
variable {n c s : Nat} {M0 M M1 : z_Mem}
theorem r_sfi {g a : Nat} {v : Int32} (I : y_CI n c s M0 M) (e : M1 = z_sfi M g a v) (hg : y_ok g = true) : y_CI n c s M0 M1 := by
  subst e
  obtain ⟨S, L, R, A, F, G⟩ := I
  obtain ⟨h1, h2⟩ := y_okS hg
  have h : ∀ k, k ∈ y_SP → ∀ x, z_fi (z_sfi M g a v) k x = z_fi M k x := fun k hk x => by rw [zq_fi_sfi, if_neg (h2 k hk)]
  refine ⟨S, L.congr h, R.congr h, A, ⟨fun k hk => ?_, fun k hk x hx => ?_, ?_⟩, G⟩
  · rw [zq_fi_sfi, if_neg (by omega)]; exact F.1 k hk
  · have : k ∈ y_SP := by
      simp only [y_KP, List.mem_cons, List.not_mem_nil, or_false] at hk
      rcases hk with rfl | rfl | rfl | rfl | rfl <;> decide
    rw [h k this]; exact F.2.1 k hk x hx
  · rw [h 135 (by decide)]; exact F.2.2
theorem r_sfr {g a : Nat} {v : Option Nat} (I : y_CI n c s M0 M) (e : M1 = z_sfr M g a v) (hg : y_Tg g = true) (h3 : 3 ≤ g) (h5 : g ≠ 516) : y_CI n c s M0 M1 := by
  subst e
  obtain ⟨S, L, R, A, F, G⟩ := I
  refine ⟨S_sfr hg S, L, R, fun m b hb => ?_, F, G.1, G.2.1, G.2.2.1, fun b hb => ak_sfr h3 (G.2.2.2 b hb)⟩
  rw [zq_fr_sfr, if_neg (Ne.symm h5)] at hb
  obtain ⟨h1, h2, l, h, e, q0, q1, q2, qq⟩ := A m b hb
  refine ⟨h1, h2, l, h, e, ?_, ?_, ?_, qq⟩
  · rw [zq_fr_sfr, if_neg (by omega)]; exact q0
  · rw [zq_fr_sfr, if_neg (by omega)]; exact q1
  · rw [zq_fr_sfr, if_neg (by omega)]; exact q2
theorem r_ack {a : Nat} {v : Option Nat} (I : y_CI n c s M0 M) (e : M1 = z_sfr M 516 a v) (hv : ∀ b, v = some b → y_ak n M b) : y_CI n c s M0 M1 := by
  subst e
  obtain ⟨S, L, R, A, F, G⟩ := I
  refine ⟨S_sfr (by decide +kernel) S, L, R, fun m b hb => ak_sfr (by decide) ?_, F, G.1, G.2.1, G.2.2.1, fun b hb => ak_sfr (by decide) (G.2.2.2 b hb)⟩
  have k : y_ak n M b := by
    rw [zq_fr_sfr, if_pos rfl] at hb
    split at hb
    · exact hv b hb
    · exact A m b hb
  exact k
theorem r_sai {a j : Nat} {v : Int32} (I : y_CI n c s M0 M) (e : M1 = z_sai M a j v) (ha : a < n + 40 ∨ n + 108 ≤ a) : y_CI n c s M0 M1 := by
  subst e
  obtain ⟨S, L, R, A, F, G⟩ := I
  refine ⟨S, L, R, A, F, fun x i h1 h2 => ?_, G.2⟩
  rw [zq_ai_sai, if_neg (by omega)]; exact G.1 x i h1 h2
theorem r_sar {a j : Nat} {v : Option Nat} (I : y_CI n c s M0 M) (e : M1 = z_sar M a j v) (ha : a ≠ n + 11) : y_CI n c s M0 M1 := by
  subst e
  obtain ⟨S, L, R, A, F, G⟩ := I
  exact ⟨S_sar ha S, L, R, A, F, G⟩
theorem r_srr {a : Nat} {f : Nat → Option Nat} (I : y_CI n c s M0 M) (e : M1 = z_srr M a f) (ha : a ≠ n + 11) : y_CI n c s M0 M1 := by
  subst e
  obtain ⟨S, L, R, A, F, G⟩ := I
  exact ⟨S_srr ha S, L, R, A, F, G⟩
theorem r_w {c1 s1 : Nat} (I : y_CI n c1 s1 M0 M) (h1 : c ≤ c1) (h2 : s ≤ s1) : y_CI n c s M0 M := by
  obtain ⟨S, L, R, A, F, G⟩ := I
  exact ⟨S, L, ⟨by have := R.1; omega, by have := R.2; omega⟩, A, F, G⟩
theorem r_room {w : Nat} (I : y_CI n (c + 1) (s + w) M0 M) : z_room M w := by
  obtain ⟨S, L, R, A, F, G⟩ := I
  exact ⟨by have := R.1; omega, by have := R.2; omega⟩
theorem r_new {k w : Nat} (I : y_CI n (c + 1) (s + w) M0 M) (e : M1 = z_new M k w) : y_CI n c s M0 M1 := by
  subst e
  obtain ⟨S, L, R, A, F, G⟩ := I
  have hz := S.2.2.2
  have h : ∀ g x, x < n + 108 → z_fi (z_new M k w) g x = z_fi M g x := fun g x hx => by rw [zq_fi_new, if_neg (by omega)]
  refine ⟨S_new S, ⟨fun a ha => ?_, ?_, ?_, fun a ha => ?_, ?_, fun a => ?_, fun a => ?_, ?_⟩, ⟨?_, ?_⟩, fun m b hb => ?_, ⟨fun g hg => ?_, fun g hg x hx => ?_, ?_⟩, G.1, G.2.1, Nat.le_succ_of_le G.2.2.1, fun b hb => ak_new (G.2.2.2 b hb)⟩
  · rw [h _ _ (by omega), h _ _ (by omega), h _ _ (by omega)]; exact L.1 a ha
  · rw [h _ _ (by omega)]; exact L.2.1
  · rw [h _ _ (by omega)]; exact L.2.2.1
  · rw [h _ _ (by omega)]; exact L.2.2.2.1 a ha
  · rw [h _ _ (by omega)]; exact L.2.2.2.2.1
  · rw [zq_fi_new]
    split
    · decide
    · exact L.2.2.2.2.2.1 a
  · rw [zq_fi_new]
    split
    · decide
    · exact L.2.2.2.2.2.2.1 a
  · rw [h _ _ (by omega)]; exact L.2.2.2.2.2.2.2
  · rw [h _ _ (by omega), h _ _ (by omega), h _ _ (by omega), zq_cl_new]; have := R.1; omega
  · rw [h _ _ (by omega), h _ _ (by omega), h _ _ (by omega), zq_sl_new]; have := R.2; omega
  · rw [zq_fr_new] at hb
    split at hb
    · cases hb
    · obtain ⟨h1, h2, l, hh, e, q0, q1, q2, q3, q4, q5⟩ := A m b hb
      refine ⟨h1, by rw [zq_sz_new]; omega, l, hh, e, ?_, ?_, ?_, ⟨q3.1, q3.2.1, by rw [zq_sz_new]; omega⟩, ⟨q4.1, q4.2.1, by rw [zq_sz_new]; omega⟩, ⟨q5.1, q5.2.1, by rw [zq_sz_new]; omega⟩⟩
      · rw [zq_fr_new, if_neg (by omega)]; exact q0
      · rw [zq_fr_new, if_neg (by omega)]; exact q1
      · rw [zq_fr_new, if_neg (by omega)]; exact q2
  · rw [h _ _ (by omega)]; exact F.1 g hg
  · rw [h _ _ hx]; exact F.2.1 g hg x hx
  · rw [h _ _ (by omega)]; exact F.2.2
theorem r_nwa {k w : Nat} (I : y_CI n (c + 1) (s + w) M0 M) (e : M1 = z_nwa M k w) : y_CI n c s M0 M1 := by
  subst e
  obtain ⟨S, L, R, A, F, G⟩ := I
  have hz := S.2.2.2
  refine ⟨S_nwa S, L, ⟨?_, ?_⟩, fun m b hb => ?_, F, fun x j h1 h2 => ?_, fun a j ha => ?_, Nat.le_succ_of_le G.2.2.1, fun b hb => ak_nwa (G.2.2.2 b hb)⟩
  · rw [zq_cl_nwa]; have := R.1; show c + 9 * (z_fi M 1281 (n + 6)).toInt.toNat + 3 * (400 - (z_fi M 133 (n + 31)).toInt).toNat + (if z_fi M 137 (n + 31) = 0 then 2 else 0) ≤ _; omega
  · rw [zq_sl_nwa]; have := R.2; show s + 40 * (z_fi M 1281 (n + 6)).toInt.toNat + 30 * (400 - (z_fi M 133 (n + 31)).toInt).toNat + (if z_fi M 137 (n + 31) = 0 then 16 else 0) ≤ _; omega
  · obtain ⟨h1, h2, l, hh, e, q0, q1, q2, q3, q4, q5⟩ := A m b hb
    refine ⟨h1, by rw [zq_sz_nwa]; omega, l, hh, e, q0, q1, q2, ⟨?_, q3.2.1, by rw [zq_sz_nwa]; omega⟩, ⟨?_, q4.2.1, by rw [zq_sz_nwa]; omega⟩, ⟨?_, q5.2.1, by rw [zq_sz_nwa]; omega⟩⟩
    · rw [zq_ln_nwa, if_neg (by omega)]; exact q3.1
    · rw [zq_ln_nwa, if_neg (by omega)]; exact q4.1
    · rw [zq_ln_nwa, if_neg (by omega)]; exact q5.1
  · rw [zq_ai_nwa, if_neg (by omega)]; exact G.1 x j h1 h2
  · rw [zq_al_nwa, if_neg (by omega)]; exact G.2.1 a j ha
theorem r_exc {k w : Nat} (I : y_CI n (c + 1) (s + 6) M0 M) (hk : k ≤ 1) (hw : w ≤ 6) : y_CI n c s M0 (z_exc M k w) := by
  obtain ⟨S, L, R, A, F, G⟩ := I
  refine ⟨S_exc S, L, ⟨?_, ?_⟩, fun m b hb => ?_, F, G.1, G.2.1, Nat.le_add_right_of_le G.2.2.1, fun b hb => ak_exc (G.2.2.2 b hb)⟩
  · rw [zq_cl_exc]; have := R.1; show c + 9 * (z_fi M 1281 (n + 6)).toInt.toNat + 3 * (400 - (z_fi M 133 (n + 31)).toInt).toNat + (if z_fi M 137 (n + 31) = 0 then 2 else 0) ≤ _; omega
  · rw [zq_sl_exc]; have := R.2; show s + 40 * (z_fi M 1281 (n + 6)).toInt.toNat + 30 * (400 - (z_fi M 133 (n + 31)).toInt).toNat + (if z_fi M 137 (n + 31) = 0 then 16 else 0) ≤ _; omega
  · obtain ⟨h1, h2, l, hh, e, q0, q1, q2, q3, q4, q5⟩ := A m b hb
    exact ⟨h1, Nat.lt_add_right _ h2, l, hh, e, q0, q1, q2, ⟨q3.1, q3.2.1, Nat.lt_add_right _ q3.2.2⟩, ⟨q4.1, q4.2.1, Nat.lt_add_right _ q4.2.2⟩, ⟨q5.1, q5.2.1, Nat.lt_add_right _ q5.2.2⟩⟩
/-- a run behind a run -/
theorem r_tr {c1 s1 : Nat} (I : y_CI n c1 s1 M0 M) (J : y_CI n c s M M1) : y_CI n c s M0 M1 := by
  obtain ⟨-, -, -, -, F, G⟩ := I
  obtain ⟨S, L, R, A, F1, G1⟩ := J
  refine ⟨S, L, R, A, ⟨fun g h => (F1.1 g h).trans (F.1 g h), fun g h a ha => (F1.2.1 g h a ha).trans (F.2.1 g h a ha), F1.2.2.trans F.2.2⟩, fun x j h1 h2 => (G1.1 x j h1 h2).trans (G.1 x j h1 h2), fun a j ha => (G1.2.1 a j ha).trans (G.2.1 a j ha), Nat.le_trans G.2.2.1 G1.2.2.1, fun b hb => G1.2.2.2 b (G.2.2.2 b hb)⟩
theorem r_rf (I : y_CI n c s M0 M) : y_CI n c s M M := by
  obtain ⟨S, L, R, A, -, -⟩ := I
  exact ⟨S, L, R, A, ⟨fun _ _ => rfl, fun _ _ _ _ => rfl, Iff.rfl⟩, fun _ _ _ _ => rfl, fun _ _ _ => rfl, Nat.le_refl _, fun _ h => h⟩
end YI
