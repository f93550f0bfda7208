/-! ===== READS over writes (rows zq_reader_writer) ===== -/
theorem zq_ki_sfi {M : z_Mem} {g a : Nat} {v : Int32} {x : Nat} : z_ki (z_sfi M g a v) x = z_ki M x := rfl
theorem zq_ln_sfi {M : z_Mem} {g a : Nat} {v : Int32} {x : Nat} : z_ln (z_sfi M g a v) x = z_ln M x := rfl
theorem zq_fi_sfi {M : z_Mem} {g a : Nat} {v : Int32} {x y : Nat} : z_fi (z_sfi M g a v) x y = if x = g then (if y = a then v else z_fi M x y) else z_fi M x y := rfl
theorem zq_fr_sfi {M : z_Mem} {g a : Nat} {v : Int32} {x y : Nat} : z_fr (z_sfi M g a v) x y = z_fr M x y := rfl
theorem zq_ai_sfi {M : z_Mem} {g a : Nat} {v : Int32} {x y : Nat} : z_ai (z_sfi M g a v) x y = z_ai M x y := rfl
theorem zq_ar_sfi {M : z_Mem} {g a : Nat} {v : Int32} {x y : Nat} : z_ar (z_sfi M g a v) x y = z_ar M x y := rfl
theorem zq_al_sfi {M : z_Mem} {g a : Nat} {v : Int32} {x y : Nat} : z_al (z_sfi M g a v) x y = z_al M x y := rfl
theorem zq_sz_sfi {M : z_Mem} {g a : Nat} {v : Int32} : z_sz (z_sfi M g a v) = z_sz M := rfl
theorem zq_cl_sfi {M : z_Mem} {g a : Nat} {v : Int32} : z_cl (z_sfi M g a v) = z_cl M := rfl
theorem zq_sl_sfi {M : z_Mem} {g a : Nat} {v : Int32} : z_sl (z_sfi M g a v) = z_sl M := rfl
theorem zq_ki_sfr {M : z_Mem} {g a : Nat} {v : Option Nat} {x : Nat} : z_ki (z_sfr M g a v) x = z_ki M x := rfl
theorem zq_ln_sfr {M : z_Mem} {g a : Nat} {v : Option Nat} {x : Nat} : z_ln (z_sfr M g a v) x = z_ln M x := rfl
theorem zq_fi_sfr {M : z_Mem} {g a : Nat} {v : Option Nat} {x y : Nat} : z_fi (z_sfr M g a v) x y = z_fi M x y := rfl
theorem zq_fr_sfr {M : z_Mem} {g a : Nat} {v : Option Nat} {x y : Nat} : z_fr (z_sfr M g a v) x y = if x = g then (if y = a then v else z_fr M x y) else z_fr M x y := rfl
theorem zq_ai_sfr {M : z_Mem} {g a : Nat} {v : Option Nat} {x y : Nat} : z_ai (z_sfr M g a v) x y = z_ai M x y := rfl
theorem zq_ar_sfr {M : z_Mem} {g a : Nat} {v : Option Nat} {x y : Nat} : z_ar (z_sfr M g a v) x y = z_ar M x y := rfl
theorem zq_al_sfr {M : z_Mem} {g a : Nat} {v : Option Nat} {x y : Nat} : z_al (z_sfr M g a v) x y = z_al M x y := rfl
theorem zq_sz_sfr {M : z_Mem} {g a : Nat} {v : Option Nat} : z_sz (z_sfr M g a v) = z_sz M := rfl
theorem zq_cl_sfr {M : z_Mem} {g a : Nat} {v : Option Nat} : z_cl (z_sfr M g a v) = z_cl M := rfl
theorem zq_sl_sfr {M : z_Mem} {g a : Nat} {v : Option Nat} : z_sl (z_sfr M g a v) = z_sl M := rfl
theorem zq_ki_sai {M : z_Mem} {a j : Nat} {v : Int32} {x : Nat} : z_ki (z_sai M a j v) x = z_ki M x := rfl
theorem zq_ln_sai {M : z_Mem} {a j : Nat} {v : Int32} {x : Nat} : z_ln (z_sai M a j v) x = z_ln M x := rfl
theorem zq_fi_sai {M : z_Mem} {a j : Nat} {v : Int32} {x y : Nat} : z_fi (z_sai M a j v) x y = z_fi M x y := rfl
theorem zq_fr_sai {M : z_Mem} {a j : Nat} {v : Int32} {x y : Nat} : z_fr (z_sai M a j v) x y = z_fr M x y := rfl
theorem zq_ai_sai {M : z_Mem} {a j : Nat} {v : Int32} {x y : Nat} : z_ai (z_sai M a j v) x y = if x = a then (if y = j then v else z_ai M x y) else z_ai M x y := rfl
theorem zq_ar_sai {M : z_Mem} {a j : Nat} {v : Int32} {x y : Nat} : z_ar (z_sai M a j v) x y = z_ar M x y := rfl
theorem zq_al_sai {M : z_Mem} {a j : Nat} {v : Int32} {x y : Nat} : z_al (z_sai M a j v) x y = z_al M x y := rfl
theorem zq_sz_sai {M : z_Mem} {a j : Nat} {v : Int32} : z_sz (z_sai M a j v) = z_sz M := rfl
theorem zq_cl_sai {M : z_Mem} {a j : Nat} {v : Int32} : z_cl (z_sai M a j v) = z_cl M := rfl
theorem zq_sl_sai {M : z_Mem} {a j : Nat} {v : Int32} : z_sl (z_sai M a j v) = z_sl M := rfl
theorem zq_ki_sar {M : z_Mem} {a j : Nat} {v : Option Nat} {x : Nat} : z_ki (z_sar M a j v) x = z_ki M x := rfl
theorem zq_ln_sar {M : z_Mem} {a j : Nat} {v : Option Nat} {x : Nat} : z_ln (z_sar M a j v) x = z_ln M x := rfl
theorem zq_fi_sar {M : z_Mem} {a j : Nat} {v : Option Nat} {x y : Nat} : z_fi (z_sar M a j v) x y = z_fi M x y := rfl
theorem zq_fr_sar {M : z_Mem} {a j : Nat} {v : Option Nat} {x y : Nat} : z_fr (z_sar M a j v) x y = z_fr M x y := rfl
theorem zq_ai_sar {M : z_Mem} {a j : Nat} {v : Option Nat} {x y : Nat} : z_ai (z_sar M a j v) x y = z_ai M x y := rfl
theorem zq_ar_sar {M : z_Mem} {a j : Nat} {v : Option Nat} {x y : Nat} : z_ar (z_sar M a j v) x y = if x = a then (if y = j then v else z_ar M x y) else z_ar M x y := rfl
theorem zq_al_sar {M : z_Mem} {a j : Nat} {v : Option Nat} {x y : Nat} : z_al (z_sar M a j v) x y = z_al M x y := rfl
theorem zq_sz_sar {M : z_Mem} {a j : Nat} {v : Option Nat} : z_sz (z_sar M a j v) = z_sz M := rfl
theorem zq_cl_sar {M : z_Mem} {a j : Nat} {v : Option Nat} : z_cl (z_sar M a j v) = z_cl M := rfl
theorem zq_sl_sar {M : z_Mem} {a j : Nat} {v : Option Nat} : z_sl (z_sar M a j v) = z_sl M := rfl
theorem zq_ki_sal {M : z_Mem} {a j : Nat} {v : Int64} {x : Nat} : z_ki (z_sal M a j v) x = z_ki M x := rfl
theorem zq_ln_sal {M : z_Mem} {a j : Nat} {v : Int64} {x : Nat} : z_ln (z_sal M a j v) x = z_ln M x := rfl
theorem zq_fi_sal {M : z_Mem} {a j : Nat} {v : Int64} {x y : Nat} : z_fi (z_sal M a j v) x y = z_fi M x y := rfl
theorem zq_fr_sal {M : z_Mem} {a j : Nat} {v : Int64} {x y : Nat} : z_fr (z_sal M a j v) x y = z_fr M x y := rfl
theorem zq_ai_sal {M : z_Mem} {a j : Nat} {v : Int64} {x y : Nat} : z_ai (z_sal M a j v) x y = z_ai M x y := rfl
theorem zq_ar_sal {M : z_Mem} {a j : Nat} {v : Int64} {x y : Nat} : z_ar (z_sal M a j v) x y = z_ar M x y := rfl
theorem zq_al_sal {M : z_Mem} {a j : Nat} {v : Int64} {x y : Nat} : z_al (z_sal M a j v) x y = if x = a then (if y = j then v else z_al M x y) else z_al M x y := rfl
theorem zq_sz_sal {M : z_Mem} {a j : Nat} {v : Int64} : z_sz (z_sal M a j v) = z_sz M := rfl
theorem zq_cl_sal {M : z_Mem} {a j : Nat} {v : Int64} : z_cl (z_sal M a j v) = z_cl M := rfl
theorem zq_sl_sal {M : z_Mem} {a j : Nat} {v : Int64} : z_sl (z_sal M a j v) = z_sl M := rfl
theorem zq_ki_srr {M : z_Mem} {a : Nat} {f : Nat → Option Nat} {x : Nat} : z_ki (z_srr M a f) x = z_ki M x := rfl
theorem zq_ln_srr {M : z_Mem} {a : Nat} {f : Nat → Option Nat} {x : Nat} : z_ln (z_srr M a f) x = z_ln M x := rfl
theorem zq_fi_srr {M : z_Mem} {a : Nat} {f : Nat → Option Nat} {x y : Nat} : z_fi (z_srr M a f) x y = z_fi M x y := rfl
theorem zq_fr_srr {M : z_Mem} {a : Nat} {f : Nat → Option Nat} {x y : Nat} : z_fr (z_srr M a f) x y = z_fr M x y := rfl
theorem zq_ai_srr {M : z_Mem} {a : Nat} {f : Nat → Option Nat} {x y : Nat} : z_ai (z_srr M a f) x y = z_ai M x y := rfl
theorem zq_ar_srr {M : z_Mem} {a : Nat} {f : Nat → Option Nat} {x y : Nat} : z_ar (z_srr M a f) x y = if x = a then f y else z_ar M x y := by show (if x = a then f else z_ar M x) y = _; split <;> rfl
theorem zq_al_srr {M : z_Mem} {a : Nat} {f : Nat → Option Nat} {x y : Nat} : z_al (z_srr M a f) x y = z_al M x y := rfl
theorem zq_sz_srr {M : z_Mem} {a : Nat} {f : Nat → Option Nat} : z_sz (z_srr M a f) = z_sz M := rfl
theorem zq_cl_srr {M : z_Mem} {a : Nat} {f : Nat → Option Nat} : z_cl (z_srr M a f) = z_cl M := rfl
theorem zq_sl_srr {M : z_Mem} {a : Nat} {f : Nat → Option Nat} : z_sl (z_srr M a f) = z_sl M := rfl
theorem zq_ki_new {M : z_Mem} {k n : Nat} {x : Nat} : z_ki (z_new M k n) x = if x = z_sz M then k else z_ki M x := rfl
theorem zq_ln_new {M : z_Mem} {k n : Nat} {x : Nat} : z_ln (z_new M k n) x = z_ln M x := rfl
theorem zq_fi_new {M : z_Mem} {k n : Nat} {x y : Nat} : z_fi (z_new M k n) x y = if y = z_sz M then 0 else z_fi M x y := rfl
theorem zq_fr_new {M : z_Mem} {k n : Nat} {x y : Nat} : z_fr (z_new M k n) x y = if y = z_sz M then none else z_fr M x y := rfl
theorem zq_ai_new {M : z_Mem} {k n : Nat} {x y : Nat} : z_ai (z_new M k n) x y = z_ai M x y := rfl
theorem zq_ar_new {M : z_Mem} {k n : Nat} {x y : Nat} : z_ar (z_new M k n) x y = z_ar M x y := rfl
theorem zq_al_new {M : z_Mem} {k n : Nat} {x y : Nat} : z_al (z_new M k n) x y = z_al M x y := rfl
theorem zq_sz_new {M : z_Mem} {k n : Nat} : z_sz (z_new M k n) = z_sz M + 1 := rfl
theorem zq_cl_new {M : z_Mem} {k n : Nat} : z_cl (z_new M k n) = z_cl M - 1 := rfl
theorem zq_sl_new {M : z_Mem} {k n : Nat} : z_sl (z_new M k n) = z_sl M - n := rfl
theorem zq_ki_nwa {M : z_Mem} {k n : Nat} {x : Nat} : z_ki (z_nwa M k n) x = if x = z_sz M then k else z_ki M x := rfl
theorem zq_ln_nwa {M : z_Mem} {k n : Nat} {x : Nat} : z_ln (z_nwa M k n) x = if x = z_sz M then n else z_ln M x := rfl
theorem zq_fi_nwa {M : z_Mem} {k n : Nat} {x y : Nat} : z_fi (z_nwa M k n) x y = z_fi M x y := rfl
theorem zq_fr_nwa {M : z_Mem} {k n : Nat} {x y : Nat} : z_fr (z_nwa M k n) x y = z_fr M x y := rfl
theorem zq_ai_nwa {M : z_Mem} {k n : Nat} {x y : Nat} : z_ai (z_nwa M k n) x y = if x = z_sz M then 0 else z_ai M x y := rfl
theorem zq_ar_nwa {M : z_Mem} {k n : Nat} {x y : Nat} : z_ar (z_nwa M k n) x y = if x = z_sz M then none else z_ar M x y := rfl
theorem zq_al_nwa {M : z_Mem} {k n : Nat} {x y : Nat} : z_al (z_nwa M k n) x y = if x = z_sz M then 0 else z_al M x y := rfl
theorem zq_sz_nwa {M : z_Mem} {k n : Nat} : z_sz (z_nwa M k n) = z_sz M + 1 := rfl
theorem zq_cl_nwa {M : z_Mem} {k n : Nat} : z_cl (z_nwa M k n) = z_cl M - 1 := rfl
theorem zq_sl_nwa {M : z_Mem} {k n : Nat} : z_sl (z_nwa M k n) = z_sl M - n := rfl
theorem zq_ki_exc {M : z_Mem} {k n : Nat} {x : Nat} : z_ki (z_exc M k n) x = z_ki M x := rfl
theorem zq_ln_exc {M : z_Mem} {k n : Nat} {x : Nat} : z_ln (z_exc M k n) x = z_ln M x := rfl
theorem zq_fi_exc {M : z_Mem} {k n : Nat} {x y : Nat} : z_fi (z_exc M k n) x y = z_fi M x y := rfl
theorem zq_fr_exc {M : z_Mem} {k n : Nat} {x y : Nat} : z_fr (z_exc M k n) x y = z_fr M x y := rfl
theorem zq_ai_exc {M : z_Mem} {k n : Nat} {x y : Nat} : z_ai (z_exc M k n) x y = z_ai M x y := rfl
theorem zq_ar_exc {M : z_Mem} {k n : Nat} {x y : Nat} : z_ar (z_exc M k n) x y = z_ar M x y := rfl
theorem zq_al_exc {M : z_Mem} {k n : Nat} {x y : Nat} : z_al (z_exc M k n) x y = z_al M x y := rfl
theorem zq_sz_exc {M : z_Mem} {k n : Nat} : z_sz (z_exc M k n) = z_sz M + k := rfl
theorem zq_cl_exc {M : z_Mem} {k n : Nat} : z_cl (z_exc M k n) = z_cl M - k := rfl
theorem zq_sl_exc {M : z_Mem} {k n : Nat} : z_sl (z_exc M k n) = z_sl M - n := rfl
/-! ===== a memory seen from a base ===== -/
def y_sh (n : Nat) (M C : z_Mem) : Prop :=
  ((∀ k, z_ki M (n + k) = z_ki C k) ∧ (∀ g k, k < n → z_fi M g k = 0) ∧ (∀ g k, k < n → z_fr M g k = none)) ∧ (∀ k, z_ln M (n + k) = z_ln C k) ∧ (∀ g k, z_fi M g (n + k) = z_fi C g k) ∧ (∀ g k, z_fr M g (n + k) = (z_fr C g k).map (n + ·)) ∧
  (∀ k j, z_ai M (n + k) j = z_ai C k j) ∧ (∀ k j, z_ar M (n + k) j = (z_ar C k j).map (n + ·)) ∧ (∀ k j, z_al M (n + k) j = z_al C k j) ∧ z_sz M = n + z_sz C ∧ z_cl M = z_cl C ∧ z_sl M = z_sl C
theorem y_sh_0 {n : Nat} : y_sh n (z_M0 n) (z_M0 0) := ⟨⟨fun _ => rfl, fun _ _ _ => rfl, fun _ _ _ => rfl⟩, fun _ => rfl, fun _ _ => rfl, fun _ _ => rfl, fun _ _ => rfl, fun _ _ => rfl, fun _ _ => rfl, rfl, rfl, rfl⟩
section YSH
variable {n : Nat} {M C : z_Mem}
theorem y_cc {n k a : Nat} : (n + k = n + a) = (k = a) := propext ⟨fun h => Nat.add_left_cancel h, fun h => by rw [h]⟩
theorem y_sh_sfi (h : y_sh n M C) (g a : Nat) (v : Int32) : y_sh n (z_sfi M g (n + a) v) (z_sfi C g a v) := by
  obtain ⟨h1, h2, h3, h4, h5, h6, h7, h8, h9, h10⟩ := h
  exact ⟨⟨h1.1, fun x k hk => by
    rw [zq_fi_sfi]
    split
    · rw [if_neg (by omega)]; exact h1.2.1 _ _ hk
    · exact h1.2.1 _ _ hk, h1.2.2⟩, h2, fun x k => by simp only [zq_fi_sfi, h3, y_cc], h4, h5, h6, h7, h8, h9, h10⟩
theorem y_sh_sfr (h : y_sh n M C) (g a : Nat) (v : Option Nat) : y_sh n (z_sfr M g (n + a) (v.map (n + ·))) (z_sfr C g a v) := by
  obtain ⟨h1, h2, h3, h4, h5, h6, h7, h8, h9, h10⟩ := h
  exact ⟨⟨h1.1, h1.2.1, fun x k hk => by
    rw [zq_fr_sfr]
    split
    · rw [if_neg (by omega)]; exact h1.2.2 _ _ hk
    · exact h1.2.2 _ _ hk⟩, h2, h3, fun x k => by simp only [zq_fr_sfr, h4, y_cc]; split <;> (try split) <;> rfl, h5, h6, h7, h8, h9, h10⟩
theorem y_sh_sai (h : y_sh n M C) (a j : Nat) (v : Int32) : y_sh n (z_sai M (n + a) j v) (z_sai C a j v) := by
  obtain ⟨h1, h2, h3, h4, h5, h6, h7, h8, h9, h10⟩ := h
  exact ⟨h1, h2, h3, h4, fun x k => by simp only [zq_ai_sai, h5, y_cc], h6, h7, h8, h9, h10⟩
theorem y_sh_sal (h : y_sh n M C) (a j : Nat) (v : Int64) : y_sh n (z_sal M (n + a) j v) (z_sal C a j v) := by
  obtain ⟨h1, h2, h3, h4, h5, h6, h7, h8, h9, h10⟩ := h
  exact ⟨h1, h2, h3, h4, h5, h6, fun x k => by simp only [zq_al_sal, h7, y_cc], h8, h9, h10⟩
theorem y_sh_sar (h : y_sh n M C) (a j : Nat) (v : Option Nat) : y_sh n (z_sar M (n + a) j (v.map (n + ·))) (z_sar C a j v) := by
  obtain ⟨h1, h2, h3, h4, h5, h6, h7, h8, h9, h10⟩ := h
  exact ⟨h1, h2, h3, h4, h5, fun x k => by simp only [zq_ar_sar, h6, y_cc]; split <;> (try split) <;> rfl, h7, h8, h9, h10⟩
theorem y_sh_new (h : y_sh n M C) (k w : Nat) : y_sh n (z_new M k w) (z_new C k w) := by
  obtain ⟨h1, h2, h3, h4, h5, h6, h7, h8, h9, h10⟩ := h
  exact ⟨⟨fun x => by simp only [zq_ki_new, h1.1, h8, y_cc], fun x k hk => by
    rw [zq_fi_new]
    split
    · rfl
    · exact h1.2.1 _ _ hk, fun x k hk => by
    rw [zq_fr_new]
    split
    · rfl
    · exact h1.2.2 _ _ hk⟩, h2, fun x y => by simp only [zq_fi_new, h3, h8, y_cc], fun x y => by simp only [zq_fr_new, h4, h8, y_cc]; split <;> rfl, h5, h6, h7, by rw [zq_sz_new, zq_sz_new, h8, Nat.add_assoc], by rw [zq_cl_new, zq_cl_new, h9], by rw [zq_sl_new, zq_sl_new, h10]⟩
theorem y_sh_nwa (h : y_sh n M C) (k w : Nat) : y_sh n (z_nwa M k w) (z_nwa C k w) := by
  obtain ⟨h1, h2, h3, h4, h5, h6, h7, h8, h9, h10⟩ := h
  exact ⟨⟨fun x => by simp only [zq_ki_nwa, h1.1, h8, y_cc], h1.2.1, h1.2.2⟩, fun x => by simp only [zq_ln_nwa, h2, h8, y_cc], h3, h4, fun x y => by simp only [zq_ai_nwa, h5, h8, y_cc], fun x y => by simp only [zq_ar_nwa, h6, h8, y_cc]; split <;> rfl, fun x y => by simp only [zq_al_nwa, h7, h8, y_cc], by rw [zq_sz_nwa, zq_sz_nwa, h8, Nat.add_assoc], by rw [zq_cl_nwa, zq_cl_nwa, h9], by rw [zq_sl_nwa, zq_sl_nwa, h10]⟩
theorem y_sh_room (h : y_sh n M C) {w : Nat} (hr : z_room C w) : z_room M w := by
  obtain ⟨h1, h2, h3, h4, h5, h6, h7, h8, h9, h10⟩ := h
  exact ⟨by rw [h9]; exact hr.1, by rw [h10]; exact hr.2⟩
theorem y_sh_sz (h : y_sh n M C) : z_sz M = n + z_sz C := h.2.2.2.2.2.2.2.1
theorem y_sh_fr (h : y_sh n M C) {g k b : Nat} (e : z_fr C g k = some b) : z_fr M g (n + k) = some (n + b) := by rw [h.2.2.2.1, e]; rfl
end YSH
