/-! ===== THE LIKENESS: what the client keeps to, while the path 0 alone sends ===== -/
section KPA
variable {n : Nat} {M M0 M1 M2 : z_Mem} {r r1 r2 : q_R} {TL CL : List Nat} {t s q z : Nat}
def kA (r : q_R) : Prop := r.1 1583 = 0 ∧ r.2 93 0 = r.1 1606 ∧ (∀ i, i < jN (r.1 1606) → r.2 71 i = 0 ∧ r.2 82 i = nI i) ∧ (∀ i, jN (r.1 1606) ≤ i → r.2 76 i = 0 ∧ r.2 81 i = 0) ∧ (∀ i j, i ≤ j → j < jN (r.1 1606) → (r.2 72 i).toInt ≤ (r.2 72 j).toInt) ∧ r.2 120 0 = 0 ∧ r.2 120 1 = 1
def kB (r : q_R) : Prop := (∀ i : Nat, i < jN (r.1 1606) → r.2 76 i = 2 → (i : Int) < (r.2 94 0).toInt) ∧ (¬ r.2 102 0 = -1 → ¬ r.2 100 0 = 0) ∧ (∀ p, p < 2 → r.2 86 p = 0 ∨ r.2 86 p = 1 ∨ r.2 86 p = 2) ∧ (∀ i, r.2 69 i = 0 ∨ r.2 69 i = 1)
/-- a packet in flight covers a byte -/
def kcv (r : q_R) (s j i : Nat) : Bool := decide (r.2 76 i = 0 ∧ r.2 73 i = nI s ∧ (r.2 74 i).toInt ≤ j ∧ (j : Int) < (r.2 74 i).toInt + (r.2 75 i).toInt)
def kC (r : q_R) : Prop := (∀ s j, s < 4 → j < 200 → r.2 70 (200 * s + j) = nI (rf_c (kcv r s j) (jN (r.1 1606)))) ∧ (∀ i, 800 ≤ i → r.2 70 i = 0) ∧ (∀ i s, i < jN (r.1 1606) → s < 4 → r.2 73 i = nI s → (r.2 74 i).toInt + (r.2 75 i).toInt ≤ (r.2 67 s).toInt)
def kD (r : q_R) : Prop := (r.2 100 0 = 0 → r.2 85 0 = 999999 ∧ (r.2 84 0).toInt ≤ 896000 + 16 * (r.2 97 0).toInt) ∧ (∀ k, k < 8 → (r.2 98 k).toInt ≤ 3200) ∧ (r.2 89 0).toInt ≤ 140 ∧ 0 ≤ (r.2 103 0).toInt ∧ (∀ s, s < 4 → 0 ≤ (r.2 68 s).toInt)
def kP (r : q_R) : Prop := kA r ∧ kB r ∧ kC r ∧ kD r
def kRF : List Nat := [1583, 1606]
def kAR : List Nat := [71, 72, 76, 81, 82, 93, 120]
def kBR : List Nat := [69, 76, 86, 94, 100, 102]
def kCR : List Nat := [67, 70, 73, 74, 75, 76]
def kDR : List Nat := [68, 84, 85, 89, 97, 98, 100, 103]
def kRA : List Nat := [67, 68, 69, 70, 71, 72, 73, 74, 75, 76, 81, 82, 84, 85, 86, 89, 93, 94, 97, 98, 100, 102, 103, 120]
theorem kcv_c (e73 : r1.2 73 = r.2 73) (e74 : r1.2 74 = r.2 74) (e75 : r1.2 75 = r.2 75) (e76 : r1.2 76 = r.2 76) : kcv r1 = kcv r := by
  funext s j i
  unfold kcv
  rw [e73, e74, e75, e76]
theorem kA_c (hF : ∀ g, g ∈ kRF → r1.1 g = r.1 g) (hA : ∀ x, x ∈ kAR → r1.2 x = r.2 x) (h : kA r) : kA r1 := by
  unfold kA at h ⊢
  rw [hF 1583 (by decide), hF 1606 (by decide), hA 93 (by decide), hA 71 (by decide), hA 82 (by decide), hA 76 (by decide), hA 81 (by decide), hA 72 (by decide), hA 120 (by decide)]
  exact h
theorem kB_c (hF : ∀ g, g ∈ kRF → r1.1 g = r.1 g) (hA : ∀ x, x ∈ kBR → r1.2 x = r.2 x) (h : kB r) : kB r1 := by
  unfold kB at h ⊢
  rw [hF 1606 (by decide), hA 76 (by decide), hA 94 (by decide), hA 102 (by decide), hA 100 (by decide), hA 86 (by decide), hA 69 (by decide)]
  exact h
theorem kC_c (hF : ∀ g, g ∈ kRF → r1.1 g = r.1 g) (hA : ∀ x, x ∈ kCR → r1.2 x = r.2 x) (h : kC r) : kC r1 := by
  have ek := kcv_c (hA 73 (by decide)) (hA 74 (by decide)) (hA 75 (by decide)) (hA 76 (by decide))
  unfold kC at h ⊢
  rw [ek, hF 1606 (by decide), hA 70 (by decide), hA 73 (by decide), hA 74 (by decide), hA 75 (by decide), hA 67 (by decide)]
  exact h
theorem kD_c (hA : ∀ x, x ∈ kDR → r1.2 x = r.2 x) (h : kD r) : kD r1 := by
  unfold kD at h ⊢
  rw [hA 100 (by decide), hA 85 (by decide), hA 84 (by decide), hA 97 (by decide), hA 98 (by decide), hA 89 (by decide), hA 103 (by decide), hA 68 (by decide)]
  exact h
theorem kP_c (hF : ∀ g, g ∈ kRF → r1.1 g = r.1 g) (hA : ∀ x, x ∈ kRA → r1.2 x = r.2 x) (h : kP r) : kP r1 := ⟨kA_c hF (fun x hx => hA x (by revert hx; revert x; decide)) h.1, kB_c hF (fun x hx => hA x (by revert hx; revert x; decide)) h.2.1, kC_c hF (fun x hx => hA x (by revert hx; revert x; decide)) h.2.2.1, kD_c (fun x hx => hA x (by revert hx; revert x; decide)) h.2.2.2⟩
theorem kP_fr {Fs Rs : List Nat} (H : q_fr Fs Rs r r1) (h1 : ∀ g, g ∈ kRF → g ∉ Fs) (h2 : ∀ x, x ∈ kRA → x ∉ Rs) (h : kP r) : kP r1 := kP_c (fun g hg => H.1 g (h1 g hg)) (fun x hx => H.2 x (h2 x hx)) h
theorem kP_ua {x j : Nat} {v : Int32} (h : kP r) (hx : x ∉ kRA) : kP (ua r x j v) := kP_c (r := r) (fun _ _ => rfl) (fun y hy => ua_n (fun e => hx (by rw [← e]; exact hy))) h
theorem kP_uf {g : Nat} {v : Int32} (h : kP r) (hx : g ∉ kRF) : kP (uf r g v) := kP_c (r := r) (fun y hy => uf_n (fun e => hx (by rw [← e]; exact hy))) (fun _ _ => rfl) h
theorem kP_81 {i : Nat} {v : Int32} (h : kP r) (hi : i < jN (r.1 1606)) : kP (ua r 81 i v) := by
  obtain ⟨⟨a1, a2, a3, a4, a5, a6⟩, b, c, d⟩ := h
  have hn : ∀ x, x ≠ 81 → (ua r 81 i v).2 x = r.2 x := fun x hx => ua_n hx
  refine ⟨⟨a1, ?_, ?_, ?_, ?_, ?_⟩, ?_, ?_, ?_⟩
  · rw [hn 93 (by decide)]; exact a2
  · rw [hn 71 (by decide), hn 82 (by decide)]; exact a3
  · intro i' hi'
    have hi'' : jN (r.1 1606) ≤ i' := hi'
    rw [hn 76 (by decide), ua_i (by omega)]; exact a4 i' hi'
  · rw [hn 72 (by decide)]; exact a5
  · rw [hn 120 (by decide)]; exact a6
  · unfold kB at b ⊢
    rw [hn 76 (by decide), hn 94 (by decide), hn 102 (by decide), hn 100 (by decide), hn 86 (by decide), hn 69 (by decide)]
    exact b
  · have ek : kcv (ua r 81 i v) = kcv r := kcv_c (hn 73 (by decide)) (hn 74 (by decide)) (hn 75 (by decide)) (hn 76 (by decide))
    unfold kC at c ⊢
    rw [ek, hn 70 (by decide), hn 73 (by decide), hn 74 (by decide), hn 75 (by decide), hn 67 (by decide)]
    exact c
  · unfold kD at d ⊢
    rw [hn 100 (by decide), hn 85 (by decide), hn 84 (by decide), hn 97 (by decide), hn 98 (by decide), hn 89 (by decide), hn 103 (by decide), hn 68 (by decide)]
    exact d
/-- where the cover of a byte stands -/
theorem k_rg {s sN j a m : Nat} (hs : s < 4) (hj : j < 200) (hsN : sN < 4) (ham : a + m ≤ 200) : (200 * sN + a ≤ 200 * s + j ∧ 200 * s + j < 200 * sN + a + m) ↔ (s = sN ∧ a ≤ j ∧ j < a + m) := by omega
/-- a packet in flight is so no more -/
theorem kP_lands (h : kP r) (hb : jN (r.1 1606) ≤ 400) {i sN a m : Nat} {v : Int32} (hi : i < jN (r.1 1606)) (hsN : sN < 4) (ham : a + m ≤ 200) (e3 : r.2 73 i = nI sN) (e4 : r.2 74 i = nI a) (e5 : r.2 75 i = nI m) (h76 : r.2 76 i = 0) (hv : ¬ v = 0) (h2 : v = 2 → (i : Int) < (r.2 94 0).toInt) : kP (uA (ua r 76 i v) 70 (rO (r.2 70) (200 * sN + a) m (-1))) := by
  obtain ⟨⟨a1, a2, a3, a4, a5, a6⟩, ⟨b1, b2, b3, b4⟩, ⟨c1, c2, c3⟩, d⟩ := h
  have hn : ∀ x, x ≠ 76 → x ≠ 70 → (uA (ua r 76 i v) 70 (rO (r.2 70) (200 * sN + a) m (-1))).2 x = r.2 x := fun x h1 h2 => by rw [uA_n h2, ua_n h1]
  have h7 : (uA (ua r 76 i v) 70 (rO (r.2 70) (200 * sN + a) m (-1))).2 76 = (ua r 76 i v).2 76 := uA_n (by decide)
  have h0 : (uA (ua r 76 i v) 70 (rO (r.2 70) (200 * sN + a) m (-1))).2 70 = rO (r.2 70) (200 * sN + a) m (-1) := uA_e
  have h1 : (uA (ua r 76 i v) 70 (rO (r.2 70) (200 * sN + a) m (-1))).1 = r.1 := rfl
  generalize uA (ua r 76 i v) 70 (rO (r.2 70) (200 * sN + a) m (-1)) = R at hn h7 h0 h1
  have t4 : (r.2 74 i).toInt = a := by rw [e4, jI_t (by omega)]
  have t5 : (r.2 75 i).toInt = m := by rw [e5, jI_t (by omega)]
  refine ⟨⟨?_, ?_, ?_, ?_, ?_, ?_⟩, ⟨?_, ?_, ?_, ?_⟩, ⟨?_, ?_, ?_⟩, ?_⟩
  · rw [h1]; exact a1
  · rw [hn 93 (by decide) (by decide), h1]; exact a2
  · rw [hn 71 (by decide) (by decide), hn 82 (by decide) (by decide), h1]; exact a3
  · intro i' hi'
    rw [h1] at hi'
    rw [h7, hn 81 (by decide) (by decide), ua_i (by omega)]; exact a4 i' hi'
  · rw [hn 72 (by decide) (by decide), h1]; exact a5
  · rw [hn 120 (by decide) (by decide)]; exact a6
  · intro i' hi' e'
    rw [h1] at hi'
    rw [h7] at e'
    rw [hn 94 (by decide) (by decide)]
    by_cases c : i' = i
    · rw [c, ua_e] at e'
      rw [c]; exact h2 e'
    · rw [ua_i c] at e'
      exact b1 i' hi' e'
  · rw [hn 102 (by decide) (by decide), hn 100 (by decide) (by decide)]; exact b2
  · rw [hn 86 (by decide) (by decide)]; exact b3
  · rw [hn 69 (by decide) (by decide)]; exact b4
  · intro s' j hs' hj
    have ko : ∀ i', i' ≠ i → kcv R s' j i' = kcv r s' j i' := fun i' hi' => by
      unfold kcv
      rw [h7, ua_i hi', hn 73 (by decide) (by decide), hn 74 (by decide) (by decide), hn 75 (by decide) (by decide)]
    have k0 : kcv R s' j i = false := by
      unfold kcv
      rw [h7, ua_e]
      exact decide_eq_false (fun h => hv h.1)
    rw [h0, h1]
    unfold rO
    by_cases c : 200 * sN + a ≤ 200 * s' + j ∧ 200 * s' + j < 200 * sN + a + m
    · rw [if_pos c, c1 s' j hs' hj]
      obtain ⟨g1, g2, g3⟩ := (k_rg hs' hj hsN ham).mp c
      have k1 : kcv r s' j i = true := by
        unfold kcv
        rw [g1]
        exact decide_eq_true ⟨h76, e3, by omega, by omega⟩
      have k2 := rf_c_off k1 k0 _ hi (fun j' _ hj' => ko j' hj')
      have k3 := rf_c_le (p := kcv r s' j) (jN (r.1 1606))
      rw [← k2, j_p1 (by omega)]
    · rw [if_neg c, c1 s' j hs' hj]
      refine congrArg nI (rf_c_eq _ (fun i' _ => ?_)).symm
      by_cases ci : i' = i
      · rw [ci, k0]
        unfold kcv
        refine (decide_eq_false (fun h => c ((k_rg hs' hj hsN ham).mpr ⟨?_, ?_, ?_⟩))).symm
        · have := h.2.1
          rw [e3] at this
          exact (jI_inj (by omega) (by omega) this).symm
        · have := h.2.2.1; omega
        · have := h.2.2.2; omega
      · exact ko i' ci
  · intro i' hi'
    rw [h0]
    unfold rO
    rw [if_neg (by omega)]
    exact c2 i' hi'
  · rw [hn 73 (by decide) (by decide), hn 74 (by decide) (by decide), hn 75 (by decide) (by decide), hn 67 (by decide) (by decide), h1]; exact c3
  · unfold kD at d ⊢
    rw [hn 100 (by decide) (by decide), hn 85 (by decide) (by decide), hn 84 (by decide) (by decide), hn 97 (by decide) (by decide), hn 98 (by decide) (by decide), hn 89 (by decide) (by decide), hn 103 (by decide) (by decide), hn 68 (by decide) (by decide)]
    exact d
end KPA
