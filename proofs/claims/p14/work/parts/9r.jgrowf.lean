/-! ===== THE LIKENESS: what the class's growth leaves alone ===== -/
section JGF
variable {n : Nat} {M M0 M1 M2 : z_Mem} {r r1 r2 : q_R} {TL CL : List Nat} {t s q z : Nat} {d : Int} {f g : Nat → Int32}
/-- only the window and the rates change -/
def bG (M M1 : z_Mem) : Prop := (∀ g b, g ≠ 257 → g ≠ 266 → z_fi M1 g b = z_fi M g b) ∧ (∀ g b, z_fr M1 g b = z_fr M g b) ∧ (∀ b i, z_ar M1 b i = z_ar M b i)
theorem bG_257 {a : Nat} {v : Int32} : bG M (z_sfi M 257 a v) := ⟨fun g b h _ => by rw [zq_fi_sfi, if_neg h], fun _ _ => rfl, fun _ _ => rfl⟩
theorem bG_tr (a : bG M M1) (b : bG M1 M2) : bG M M2 := ⟨fun g x h h2 => (b.1 g x h h2).trans (a.1 g x h h2), fun g x => (b.2.1 g x).trans (a.2.1 g x), fun x i => (b.2.2 x i).trans (a.2.2 x i)⟩
theorem c_keepFr {a : Nat} {v : Int32} : bG M (cF_X2_keepRate a v M) ∧ (y_S n M → y_S n (cF_X2_keepRate a v M)) := by
  have h := cE_X2_keepRate a v M
  generalize Option.getD (z_fr M 265 a) 0 = u at h
  replace h := h.trans (q_ste (b := u) rfl)
  replace h := h.trans (q_ste (b := z_sai M u (z_fi M 266 a).toNatClampNeg v) rfl)
  replace h := h.trans (q_ste rfl)
  rw [h]
  exact ⟨⟨fun g b _ h2 => by rw [zq_fi_sfi, if_neg h2]; rfl, fun _ _ => rfl, fun _ _ => rfl⟩, fun S => S_sfi (S_sai S)⟩
theorem c_growFr (S : y_S n M) {p1 p2 p3 p4 : Int32} (hc : ¬ z_fi M 256 (n + 33) = 2 → ¬ z_fi M 256 (n + 33) = 0 → z_fi M 258 (n + 33) ≤ z_fi M 257 (n + 33) → ∃ v, cF_X2_cubeStep (n + 33) p1 M = (v, M)) : bG M (cF_X2_grow (n + 33) p1 p2 p3 p4 M) := by
  have hB := cE_X2_grow (n + 33) p1 p2 p3 p4 M
  by_cases c2 : z_fi M 256 (n + 33) = 2
  · rw [if_pos c2] at hB
    have k := c_keepFr (n := n) (M := M) (a := n + 33) (v := (16 * p2) / ((if (1 < p3) then p3 else 1) : Int32))
    generalize cF_X2_keepRate (n + 33) ((16 * p2) / ((if (1 < p3) then p3 else 1) : Int32)) M = W at hB k
    replace hB := hB.trans (q_ste (b := W) rfl)
    replace hB := hB.trans (q_ste2 (c_great (k.2 S)))
    replace hB := hB.trans (q_ste rfl)
    rw [hB]
    exact bG_tr k.1 bG_257
  · rw [if_neg c2] at hB
    by_cases c3 : z_fi M 258 (n + 33) ≤ z_fi M 257 (n + 33)
    · rw [if_pos c3] at hB
      by_cases c4 : z_fi M 256 (n + 33) = 0
      · rw [if_pos c4] at hB
        replace hB := hB.trans (q_ste rfl)
        rw [hB]
        exact bG_257
      · rw [if_neg c4] at hB
        obtain ⟨v, k⟩ := hc c2 c4 c3
        replace hB := hB.trans (q_ste2 k)
        replace hB := hB.trans (q_ste rfl)
        rw [hB]
        exact bG_257
    · rw [if_neg c3] at hB
      replace hB := hB.trans (q_ste rfl)
      rw [hB]
      exact bG_257
end JGF
