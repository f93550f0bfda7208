/-! ===== THE LIKENESS: the server acknowledges ===== -/
section JAK
variable {n : Nat} {M M0 M1 M2 : z_Mem} {r r1 : q_R} {TL CL : List Nat} {t s q z : Nat} {d : Int} {f : Nat → Int32}
theorem c_mk73 {A e : Nat} {x3 : Int32} (S0 : y_S n M0) (a4 : z_sz M0 ≤ e) (E : jE n M0 M) (f2 : z_fr M 2 A = some e) {s : Nat} (hs : s < 4) : cF_X8_makeAck_73 (n + 28) (some A) x3 (nI s) M = cF_X8_makeAck_73 (n + 28) (some A) (x3 + z_fi M0 1158 (n + (12 + 4 * s))) (nI (s + 1)) (z_sai M e s (40 + z_fi M0 1158 (n + (12 + 4 * s)))) := by
  have hz := S0.2.2.2
  have hB := cE_X8_makeAck_73 (n + 28) (some A) x3 (nI s) M
  have S1 := E.2.1
  have e1 : z_fi M 1158 (n + (12 + 4 * s)) = z_fi M0 1158 (n + (12 + 4 * s)) := E.2.2.1 _ _ (by omega)
  rw [if_neg (jI_n4 hs)] at hB
  replace hB := hB.trans (q_ste (b := A) rfl)
  rw [s_1025_28 S1] at hB
  replace hB := hB.trans (q_ste (b := n + 11) rfl)
  rw [jI_N (by omega), S1.2.2.1 s hs] at hB
  replace hB := hB.trans (q_ste (b := n + (12 + 4 * s)) rfl)
  rw [f2, e1] at hB
  replace hB := hB.trans (q_ste (b := e) rfl)
  replace hB := hB.trans (q_ste rfl)
  rw [zq_fr_sai, s_1025_28 S1] at hB
  replace hB := hB.trans (q_ste (b := n + 11) rfl)
  rw [zq_ar_sai, S1.2.2.1 s hs] at hB
  replace hB := hB.trans (q_ste (b := n + (12 + 4 * s)) rfl)
  rw [zq_fi_sai, e1] at hB
  replace hB := hB.trans (q_ste rfl)
  replace hB := hB.trans (q_ste (b := nI (s + 1)) (by rw [jI_1, jI_add (by show s + 1 < _; omega)]))
  exact cUl_X8_makeAck_73 hB
theorem c_ackM (S : y_S n M) (h01 : ∀ i, i < 400 → z_ai M (n + 30) i = 0 ∨ z_ai M (n + 30) i = 1) {b : Nat} (hb : b ≤ 400) (hg : z_fi M 1034 (n + 28) = nI b - 1) : ∃ M', cF_X8_makeAck (n + 28) M = (some (z_sz M), M') ∧ jE n M M' ∧ z_sz M' = z_sz M + 4 ∧ z_fr M' 0 (z_sz M) = some (z_sz M + 1) ∧ z_fr M' 1 (z_sz M) = some (z_sz M + 2) ∧ z_fr M' 2 (z_sz M) = some (z_sz M + 3) ∧ z_fi M' 3 (z_sz M) = nI (runs (z_ai M (n + 30)) 4 b).length ∧ (∀ k x, (runs (z_ai M (n + 30)) 4 b)[k]? = some x → z_ai M' (z_sz M + 1) k = nI x.1 ∧ z_ai M' (z_sz M + 2) k = nI x.2) ∧ z_fi M' 4 (z_sz M) = z_fi M 1035 (n + 28) ∧ (∀ s, s < 4 → z_ai M' (z_sz M + 3) s = 40 + z_fi M 1158 (n + (12 + 4 * s))) ∧ z_fi M' 5 (z_sz M) = 100 + (0 + z_fi M 1158 (n + 12) + z_fi M 1158 (n + 16) + z_fi M 1158 (n + 20) + z_fi M 1158 (n + 24)) := by
  have hz := S.2.2.2
  have e33 : jE n M (z_new M 1 6) := jE_new S
  have eI : cF_X0_init (z_sz M) (z_new M 1 6) = z_sfr (z_nwa (z_sfr (z_nwa (z_sfr (z_nwa (z_new M 1 6) 20 4) 0 (z_sz M) (some (z_sz M + 1))) 20 4) 1 (z_sz M) (some (z_sz M + 2))) 20 4) 2 (z_sz M) (some (z_sz M + 3)) := by
    rw [cE_X0_init]; rfl
  have E1 : jE n M (z_sfr (z_nwa (z_new M 1 6) 20 4) 0 (z_sz M) (some (z_sz M + 1))) := jE_sfr (jE_tr e33 (jE_nwa e33.2.1)) S (Nat.le_refl _) (by decide +kernel) rfl
  have E2 : jE n M (z_sfr (z_nwa (z_sfr (z_nwa (z_new M 1 6) 20 4) 0 (z_sz M) (some (z_sz M + 1))) 20 4) 1 (z_sz M) (some (z_sz M + 2))) := jE_sfr (jE_tr E1 (jE_nwa E1.2.1)) S (Nat.le_refl _) (by decide +kernel) rfl
  have E3 : jE n M (z_sfr (z_nwa (z_sfr (z_nwa (z_sfr (z_nwa (z_new M 1 6) 20 4) 0 (z_sz M) (some (z_sz M + 1))) 20 4) 1 (z_sz M) (some (z_sz M + 2))) 20 4) 2 (z_sz M) (some (z_sz M + 3))) := jE_sfr (jE_tr E2 (jE_nwa E2.2.1)) S (Nat.le_refl _) (by decide +kernel) rfl
  have q0 : z_fr (z_sfr (z_nwa (z_sfr (z_nwa (z_sfr (z_nwa (z_new M 1 6) 20 4) 0 (z_sz M) (some (z_sz M + 1))) 20 4) 1 (z_sz M) (some (z_sz M + 2))) 20 4) 2 (z_sz M) (some (z_sz M + 3))) 0 (z_sz M) = some (z_sz M + 1) := by
    rw [zq_fr_sfr, if_neg (by decide)]; show z_fr (z_sfr (z_nwa (z_sfr (z_nwa (z_new M 1 6) 20 4) 0 (z_sz M) (some (z_sz M + 1))) 20 4) 1 (z_sz M) (some (z_sz M + 2))) 0 (z_sz M) = _
    rw [zq_fr_sfr, if_neg (by decide)]; show z_fr (z_sfr (z_nwa (z_new M 1 6) 20 4) 0 (z_sz M) (some (z_sz M + 1))) 0 (z_sz M) = _
    rw [zq_fr_sfr, if_pos rfl, if_pos rfl]
  have q1 : z_fr (z_sfr (z_nwa (z_sfr (z_nwa (z_sfr (z_nwa (z_new M 1 6) 20 4) 0 (z_sz M) (some (z_sz M + 1))) 20 4) 1 (z_sz M) (some (z_sz M + 2))) 20 4) 2 (z_sz M) (some (z_sz M + 3))) 1 (z_sz M) = some (z_sz M + 2) := by
    rw [zq_fr_sfr, if_neg (by decide)]; show z_fr (z_sfr (z_nwa (z_sfr (z_nwa (z_new M 1 6) 20 4) 0 (z_sz M) (some (z_sz M + 1))) 20 4) 1 (z_sz M) (some (z_sz M + 2))) 1 (z_sz M) = _
    rw [zq_fr_sfr, if_pos rfl, if_pos rfl]
  have q2 : z_fr (z_sfr (z_nwa (z_sfr (z_nwa (z_sfr (z_nwa (z_new M 1 6) 20 4) 0 (z_sz M) (some (z_sz M + 1))) 20 4) 1 (z_sz M) (some (z_sz M + 2))) 20 4) 2 (z_sz M) (some (z_sz M + 3))) 2 (z_sz M) = some (z_sz M + 3) := by
    rw [zq_fr_sfr, if_pos rfl, if_pos rfl]
  have q3 : z_fi (z_sfr (z_nwa (z_sfr (z_nwa (z_sfr (z_nwa (z_new M 1 6) 20 4) 0 (z_sz M) (some (z_sz M + 1))) 20 4) 1 (z_sz M) (some (z_sz M + 2))) 20 4) 2 (z_sz M) (some (z_sz M + 3))) 3 (z_sz M) = nI 0 := by
    show z_fi (z_new M 1 6) 3 (z_sz M) = nI 0
    rw [zq_fi_new, if_pos rfl]; rfl
  have qz : z_sz (z_sfr (z_nwa (z_sfr (z_nwa (z_sfr (z_nwa (z_new M 1 6) 20 4) 0 (z_sz M) (some (z_sz M + 1))) 20 4) 1 (z_sz M) (some (z_sz M + 2))) 20 4) 2 (z_sz M) (some (z_sz M + 3))) = z_sz M + 4 := rfl
  generalize z_sfr (z_nwa (z_sfr (z_nwa (z_sfr (z_nwa (z_new M 1 6) 20 4) 0 (z_sz M) (some (z_sz M + 1))) 20 4) 1 (z_sz M) (some (z_sz M + 2))) 20 4) 2 (z_sz M) (some (z_sz M + 3)) = M9 at *
  have eai : z_ai M9 (n + 30) = z_ai M (n + 30) := funext fun i => E3.2.2.2.1 _ _ (by omega)
  have nx := (c_next E3.2.1 (fun i hi => by rw [eai]; exact h01 i hi) b hb).1
  rw [eai] at nx
  have e34 : z_fi M9 1034 (n + 28) = nI b - 1 := (E3.2.2.1 _ _ (by omega)).trans hg
  have e20 := c_mk20 (A := z_sz M) (l := z_sz M + 1) (h := z_sz M + 2) (by omega) S (Nat.le_refl _) (by omega) (by omega) h01 4 b 0 M9 (by omega) hb E3 q3 q0 q1
  obtain ⟨w1, w2, w3, w4, w5, w6, w7, w8⟩ := c_wr1 (A := z_sz M) (l := z_sz M + 1) (h := z_sz M + 2) (by omega) S (Nat.le_refl _) (by omega) (by omega) (runs (z_ai M (n + 30)) 4 b) 0 M9 E3 q3
  generalize c_wr (z_sz M) (z_sz M + 1) (z_sz M + 2) 0 (runs (z_ai M (n + 30)) 4 b) M9 = Mw at *
  have eM : z_fi Mw 1035 (n + 28) = z_fi M 1035 (n + 28) := w1.2.2.1 _ _ (by omega)
  have E23 : jE n M (z_sfi Mw 4 (z_sz M) (z_fi M 1035 (n + 28))) := jE_sfi w1 S (Nat.le_refl _) rfl
  have f2 : z_fr (z_sfi Mw 4 (z_sz M) (z_fi M 1035 (n + 28))) 2 (z_sz M) = some (z_sz M + 3) := by rw [zq_fr_sfi, w5]; exact q2
  have E24 := jE_sai (j := 0) (v := 40 + z_fi M 1158 (n + (12 + 4 * 0))) E23 S (show z_sz M ≤ z_sz M + 3 by omega) rfl
  have E25 := jE_sai (j := 1) (v := 40 + z_fi M 1158 (n + (12 + 4 * 1))) E24 S (show z_sz M ≤ z_sz M + 3 by omega) rfl
  have E26 := jE_sai (j := 2) (v := 40 + z_fi M 1158 (n + (12 + 4 * 2))) E25 S (show z_sz M ≤ z_sz M + 3 by omega) rfl
  have E27 := jE_sai (j := 3) (v := 40 + z_fi M 1158 (n + (12 + 4 * 3))) E26 S (show z_sz M ≤ z_sz M + 3 by omega) rfl
  have s0 := c_mk73 (A := z_sz M) (e := z_sz M + 3) (x3 := 0) S (by omega) E23 f2 (s := 0) (by omega)
  have s1 := c_mk73 (A := z_sz M) (e := z_sz M + 3) (x3 := 0 + z_fi M 1158 (n + (12 + 4 * 0))) S (by omega) E24 f2 (s := 1) (by omega)
  have s2 := c_mk73 (A := z_sz M) (e := z_sz M + 3) (x3 := 0 + z_fi M 1158 (n + (12 + 4 * 0)) + z_fi M 1158 (n + (12 + 4 * 1))) S (by omega) E25 f2 (s := 2) (by omega)
  have s3 := c_mk73 (A := z_sz M) (e := z_sz M + 3) (x3 := 0 + z_fi M 1158 (n + (12 + 4 * 0)) + z_fi M 1158 (n + (12 + 4 * 1)) + z_fi M 1158 (n + (12 + 4 * 2))) S (by omega) E26 f2 (s := 3) (by omega)
  have sB := fun x N => cE_X8_makeAck_73 (n + 28) (some (z_sz M)) x (nI 4) N
  have fin : ∀ x N, cF_X8_makeAck_73 (n + 28) (some (z_sz M)) x (nI 4) N = (some (z_sz M), z_sfi N 5 (z_sz M) (100 + x)) := fun x N => by
    have hB := sB x N
    rw [if_pos (by decide)] at hB
    replace hB := hB.trans (q_ste (b := z_sz M) rfl)
    replace hB := hB.trans (q_ste rfl)
    exact cUr_X8_makeAck_73 hB
  refine ⟨z_sfi (z_sai (z_sai (z_sai (z_sai (z_sfi Mw 4 (z_sz M) (z_fi M 1035 (n + 28))) (z_sz M + 3) 0 (40 + z_fi M 1158 (n + (12 + 4 * 0)))) (z_sz M + 3) 1 (40 + z_fi M 1158 (n + (12 + 4 * 1)))) (z_sz M + 3) 2 (40 + z_fi M 1158 (n + (12 + 4 * 2)))) (z_sz M + 3) 3 (40 + z_fi M 1158 (n + (12 + 4 * 3)))) 5 (z_sz M) (100 + (0 + z_fi M 1158 (n + (12 + 4 * 0)) + z_fi M 1158 (n + (12 + 4 * 1)) + z_fi M 1158 (n + (12 + 4 * 2)) + z_fi M 1158 (n + (12 + 4 * 3)))), ?_, jE_sfi E27 S (Nat.le_refl _) rfl, ?_, ?_, ?_, ?_, ?_, fun k x hx => ?_, ?_, fun s hs => ?_, ?_⟩
  · rw [cE_X8_makeAck]
    refine (q_ste rfl).trans ?_
    refine (q_ste (b := M9) eI.symm).trans ?_
    rw [e34]
    refine (q_ste2 ((cE_X8_nextTaken _ _ _ _).trans nx)).trans ?_
    refine e20.trans ?_
    rw [cE_X8_makeAck_60]
    refine (q_ste (b := z_sz M) rfl).trans ?_
    rw [eM]
    refine (q_ste rfl).trans ?_
    exact s0.trans (s1.trans (s2.trans (s3.trans (fin _ _))))
  · show z_sz Mw = _
    rw [w2, qz]
  · show z_fr Mw 0 (z_sz M) = _
    rw [w5, q0]
  · show z_fr Mw 1 (z_sz M) = _
    rw [w5, q1]
  · exact f2
  · rw [zq_fi_sfi, if_neg (by decide)]
    show z_fi (z_sfi Mw 4 (z_sz M) (z_fi M 1035 (n + 28))) 3 (z_sz M) = _
    rw [zq_fi_sfi, if_neg (by decide), w3, Nat.zero_add]
  · have := w8 k x hx
    rw [Nat.zero_add] at this
    refine ⟨Eq.trans ?_ this.1, Eq.trans ?_ this.2⟩
    · rw [zq_ai_sfi, zq_ai_sai, if_neg (by omega), zq_ai_sai, if_neg (by omega), zq_ai_sai, if_neg (by omega), zq_ai_sai, if_neg (by omega)]; rfl
    · rw [zq_ai_sfi, zq_ai_sai, if_neg (by omega), zq_ai_sai, if_neg (by omega), zq_ai_sai, if_neg (by omega), zq_ai_sai, if_neg (by omega)]; rfl
  · rw [zq_fi_sfi, if_neg (by decide)]
    show z_fi (z_sfi Mw 4 (z_sz M) (z_fi M 1035 (n + 28))) 4 (z_sz M) = _
    rw [zq_fi_sfi, if_pos rfl, if_pos rfl]
  · rw [zq_ai_sfi, zq_ai_sai, if_pos rfl, zq_ai_sai, if_pos rfl, zq_ai_sai, if_pos rfl, zq_ai_sai, if_pos rfl]
    have : s = 0 ∨ s = 1 ∨ s = 2 ∨ s = 3 := by omega
    rcases this with rfl | rfl | rfl | rfl
    · rw [if_neg (by decide), if_neg (by decide), if_neg (by decide), if_pos rfl]
    · rw [if_neg (by decide), if_neg (by decide), if_pos rfl]
    · rw [if_neg (by decide), if_pos rfl]
    · rw [if_pos rfl]
  · rw [zq_fi_sfi, if_pos rfl, if_pos rfl]
end JAK
