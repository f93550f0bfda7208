/-! ===== THE LIKENESS: a packet is acknowledged (path 0): it leaves flight ===== -/
section JAK
variable {n : Nat} {M M0 M1 M2 : z_Mem} {r r1 : q_R} {TL CL : List Nat} {t s q z : Nat} {d : Int} {f g : Nat → Int32}
theorem ua_uAc {x y j : Nat} {v : Int32} {F : Nat → Int32} (h : x ≠ y) : uA (ua r y j v) x F = ua (uA r x F) y j v := by
  refine Prod.ext rfl (funext fun k => ?_)
  by_cases h1 : k = x
  · rw [h1, uA_e, ua_n h, uA_e]
  · rw [uA_n h1]
    by_cases h2 : k = y
    · subst h2
      funext i
      rw [ua2, ua2, uA_n h1]
    · rw [ua_n h2, ua_n h2, uA_n h1]
/-- a packet in flight is acknowledged: its bytes are, and land -/
theorem j_leaveA (J : JJ n M r TL CL) (I : rf_I t s q z r.1 r.2) {i pk sN a m : Nat} (hs : sN < 4) (ham : a + m ≤ 200) (e3 : r.2 73 i = nI sN) (e4 : r.2 74 i = nI a) (e5 : r.2 75 i = nI m) (hi : i < jN (r.1 1606)) (e : z_ar M (n + 38) i = some pk) (h71 : r.2 71 i = 0) (h76 : r.2 76 i = 0) (h01 : ∀ i, r.2 69 i = 0 ∨ r.2 69 i = 1) : JJ n (cF_X1_leaveFlight (n + 31) (some pk) 1 M) (qF_lands (nI i) 1 (uA r 69 (rS (r.2 69) (200 * sN + a) m 1))) TL CL ∧ (∀ g b, g < 1000 → g ≠ 778 → g ≠ 899 → z_fi (cF_X1_leaveFlight (n + 31) (some pk) 1 M) g b = z_fi M g b) ∧ (∀ b i, z_ar (cF_X1_leaveFlight (n + 31) (some pk) 1 M) b i = z_ar M b i) := by
  have hb := ri_pk I
  obtain ⟨pk0, a1, a2, a3, a4, a5⟩ := J.pkt hi
  rw [e] at a1
  cases a1
  have h1 : z_fi M 769 pk = 0 := (jp_769 a5).trans h71
  have h3 : z_fi M 771 pk = nI sN := (jp_771 a5).trans e3
  have h4 : z_fi M 772 pk = nI a := (jp_772 a5).trans e4
  have h5 : z_fi M 773 pk = nI m := (jp_773 a5).trans e5
  rw [c_leaveF J.1 hs h1 h3 h4 h5 rfl, if_pos rfl, q_lands sN a m (by omega) hs ham (by rw [uA_n (by decide)]; exact e3) (by rw [uA_n (by decide)]; exact e4) (by rw [uA_n (by decide)]; exact e5)]
  have J1 := J.leave hi (by omega) e h71 h76 (v := 1) (by decide) rfl
  have fr : ∀ g b, g ≠ 778 → g ≠ 899 → z_fi (z_sfi (z_sfi M 778 pk 1) 899 (n + 32) (z_fi M 899 (n + 32) - 1)) g b = z_fi M g b := fun g b c1 c2 => by rw [zq_fi_sfi, if_neg c2, zq_fi_sfi, if_neg c1]
  have ar : ∀ b i, z_ar (z_sfi (z_sfi M 778 pk 1) 899 (n + 32) (z_fi M 899 (n + 32) - 1)) b i = z_ar M b i := fun _ _ => rfl
  generalize z_sfi (z_sfi M 778 pk 1) 899 (n + 32) (z_fi M 899 (n + 32) - 1) = W at J1 fr ar ⊢
  have J2 := j_ackF J1 hs ham (fun i => by rw [ua_n (by decide)]; exact h01 i)
  have B := c_ackFr (M := W) (a := n + (12 + 4 * sN)) ham
  generalize cF_X9_acknowledge (n + (12 + 4 * sN)) (nI a) (nI m) W = V at J2 B ⊢
  rw [c_leave62 J2.1 hs ((B.1 771 pk (by decide)).trans ((fr 771 pk (by decide) (by decide)).trans h3)) ((B.1 772 pk (by decide)).trans ((fr 772 pk (by decide) (by decide)).trans h4)) ((B.1 773 pk (by decide)).trans ((fr 773 pk (by decide) (by decide)).trans h5))]
  have B2 := c_landFr (M := V) (a := n + (12 + 4 * sN)) ham
  refine ⟨?_, fun g b c0 c1 c2 => (B2.1 g b (by omega)).trans ((B.1 g b (by omega)).trans (fr g b c1 c2)), fun b i => (B2.2.2 b i).trans ((B.2.2 b i).trans (ar b i))⟩
  have J3 := j_landF J2 hs ham (fun j c1 c2 => by
    unfold j_lost
    refine decide_eq_false (fun h => ?_)
    have h' := h.2.1
    rw [uA_e] at h'
    unfold rS at h'
    rw [if_pos (by omega)] at h'
    exact absurd h' (by decide))
  have er : uA (ua (uA r 69 (rS (r.2 69) (200 * sN + a) m 1)) 76 i 1) 70 (rO ((uA r 69 (rS (r.2 69) (200 * sN + a) m 1)).2 70) (200 * sN + a) m (-1)) = uA (uA (ua r 76 i 1) 69 (rS ((ua r 76 i 1).2 69) (200 * sN + a) m 1)) 70 (rO ((uA (ua r 76 i 1) 69 (rS ((ua r 76 i 1).2 69) (200 * sN + a) m 1)).2 70) (200 * sN + a) m (-1)) := by
    rw [ua_n (show 69 ≠ 76 by decide)]
    generalize rS (r.2 69) (200 * sN + a) m 1 = F
    rw [ua_uAc (x := 69) (by decide), ua_n (show 70 ≠ 76 by decide)]
  exact JJ.cr er J3
end JAK
