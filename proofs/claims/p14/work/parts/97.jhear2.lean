/-! ===== THE REFERENCE: what its functions leave alone; THE LIKENESS: a message arrives at the server ===== -/
section JHS
variable {n : Nat} {M M0 M1 M2 : z_Mem} {r r1 a b c : q_R} {TL CL : List Nat} {t s q z : Nat} {d : Int} {f g : Nat → Int32} {Fs Rs : List Nat}
/-- b is a, but for the fields Fs and the rows Rs -/
def q_fr (Fs Rs : List Nat) (a b : q_R) : Prop := (∀ k, k ∉ Fs → b.1 k = a.1 k) ∧ (∀ x, x ∉ Rs → b.2 x = a.2 x)
theorem q_fr0 : q_fr Fs Rs a a := ⟨fun _ _ => rfl, fun _ _ => rfl⟩
theorem q_frt (h : q_fr Fs Rs a b) (k : q_fr Fs Rs b c) : q_fr Fs Rs a c := ⟨fun x hx => (k.1 x hx).trans (h.1 x hx), fun x hx => (k.2 x hx).trans (h.2 x hx)⟩
theorem q_fruf {k : Nat} {v : Int32} (h : k ∈ Fs) (H : q_fr Fs Rs a b) : q_fr Fs Rs a (uf b k v) := ⟨fun x hx => (uf_n (fun (e : x = k) => hx (by rw [e]; exact h))).trans (H.1 x hx), H.2⟩
theorem q_frua {x j : Nat} {v : Int32} (h : x ∈ Rs) (H : q_fr Fs Rs a b) : q_fr Fs Rs a (ua b x j v) := ⟨H.1, fun y hy => (ua_n (fun (e : y = x) => hy (by rw [e]; exact h))).trans (H.2 y hy)⟩
theorem q_fruA {x : Nat} (h : x ∈ Rs) (H : q_fr Fs Rs a b) : q_fr Fs Rs a (uA b x f) := ⟨H.1, fun y hy => (uA_n (fun (e : y = x) => hy (by rw [e]; exact h))).trans (H.2 y hy)⟩
theorem q_frw {Fs2 Rs2 : List Nat} (H : q_fr Fs Rs a b) (h1 : ∀ k, k ∈ Fs → k ∈ Fs2) (h2 : ∀ k, k ∈ Rs → k ∈ Rs2) : q_fr Fs2 Rs2 a b := ⟨fun k hk => H.1 k (fun h => hk (h1 k h)), fun k hk => H.2 k (fun h => hk (h2 k h))⟩
theorem q_ansF {p s' i : Int32} : q_fr [1559] [47, 57, 58, 59, 60] r (qF_answers p s' i r) := by
  rw [qE_answers]
  split
  · split
    · exact q_fruf (by decide) (q_frua (by decide) (q_frua (by decide) (q_frua (by decide) (q_frua (by decide) q_fr0))))
    · exact q_frua (by decide) q_fr0
  · exact q_fr0
theorem q_ackFr (h0 : 0 ≤ (r.1 1561).toInt) (h1 : (r.1 1561).toInt < 3600) : q_fr [1559, 1561, 1573, 1574] [47, 57, 58, 59, 60, 61, 106] r (qF_acknowledges r) := by
  rw [q_ackF r h0 h1]
  obtain ⟨g1, g2, -, -⟩ := q_wr1 (T := 15 * jN (r.1 1561)) (runs (r.2 63) 4 400) 0 r
  have H0 : q_fr [1559, 1561, 1573, 1574] [47, 57, 58, 59, 60, 61, 106] r (q_wr (15 * jN (r.1 1561)) 0 (runs (r.2 63) 4 400) r) := ⟨fun k _ => by rw [g1], fun x hx => g2 x (fun e => hx (by rw [e]; decide))⟩
  refine q_frt ?_ (q_frw q_ansF (by decide) (by decide))
  unfold q_ackR q_row4
  exact q_fruf (by decide) (q_fruf (by decide) (q_frua (by decide) (q_fruf (by decide) (q_frua (by decide) (q_frua (by decide) (q_frua (by decide) (q_frua (by decide) (q_frua (by decide) (q_frua (by decide) (q_frua (by decide) H0))))))))))
theorem q_t194F {x : Int32} {t0 : Int32} (h0 : 0 ≤ (r.1 1561).toInt) (h1 : (r.1 1561).toInt < 3600) : q_fr [1559, 1561, 1573, 1574, 1572] [47, 57, 58, 59, 60, 61, 106] r (qF_takes_194 x t0 r) := by
  obtain ⟨mx, eM⟩ : ∃ mx, ∀ rr : q_R, qF_max (r.1 1572) x rr = (mx, rr) := ⟨(if r.1 1572 ≤ x then x else r.1 1572), fun rr => by rw [qE_max]; split <;> rfl⟩
  rw [qE_takes_194, q_ste2 (eM r)]
  have H : q_fr [1559, 1561, 1573, 1574, 1572] [47, 57, 58, 59, 60, 61, 106] r (uf (uf r 1572 mx) 1573 (r.1 1573 + 1)) := q_fruf (by decide) (q_fruf (by decide) q_fr0)
  have Ha : q_fr [1559, 1561, 1573, 1574, 1572] [47, 57, 58, 59, 60, 61, 106] r (qF_acknowledges (uf (uf r 1572 mx) 1573 (r.1 1573 + 1))) := q_frt H (q_frw (q_ackFr h0 h1) (by decide) (by decide))
  show q_fr _ _ r (if (uf (uf r 1572 mx) 1573 (r.1 1573 + 1)).2 79 x.toNatClampNeg = 0 then (if t0 = 0 then qF_acknowledges (uf (uf r 1572 mx) 1573 (r.1 1573 + 1)) else if (uf (uf r 1572 mx) 1573 (r.1 1573 + 1)).1 1573 = 2 then qF_acknowledges (uf (uf r 1572 mx) 1573 (r.1 1573 + 1)) else uf (uf (uf r 1572 mx) 1573 (r.1 1573 + 1)) 1574 ((uf (uf r 1572 mx) 1573 (r.1 1573 + 1)).1 1536 + 3)) else qF_acknowledges (uf (uf r 1572 mx) 1573 (r.1 1573 + 1)))
  split
  · split
    · exact Ha
    · split
      · exact Ha
      · exact q_fruf (by decide) H
  · exact Ha
theorem q_t99F {i : Nat} (I : rf_I t s q z r.1 r.2) (hi : i < 400) (h0 : 0 ≤ (r.1 1561).toInt) (h1 : (r.1 1561).toInt < 3600) : q_fr [1559, 1561, 1573, 1574, 1572, 1576] [47, 57, 58, 59, 60, 61, 106, 77, 63, 64] r (qF_takes_99 (nI i) r) := by
  have e3 := ri_A I (x := 73) (lo := 0) (hi := 3) (by decide) i
  have e4 := ri_A I (x := 74) (lo := 0) (hi := 200) (by decide) i
  have e5 := ri_A I (x := 75) (lo := 0) (hi := 200) (by decide) i
  have c5 := I.2.2.2.2.1 i
  have n3 := jN_toInt e3.1
  have n4 := jN_toInt e4.1
  have n5 := jN_toInt e5.1
  rw [q_t99 (jI_jN e5.1).symm (jI_jN e4.1).symm (jI_jN e3.1).symm hi (by omega) (by omega)]
  have H : ∀ v, q_fr [1559, 1561, 1573, 1574, 1572, 1576] [47, 57, 58, 59, 60, 61, 106, 77, 63, 64] r (uA (uf (ua (ua r 77 i 1) 63 i 1) 1576 v) 64 (rS (r.2 64) (200 * jN (r.2 73 i) + jN (r.2 74 i)) (jN (r.2 75 i)) 1)) := fun v => q_fruA (by decide) (q_fruf (by decide) (q_frua (by decide) (q_frua (by decide) q_fr0)))
  split
  · exact q_frt (H _) (q_frw (q_t194F h0 h1) (by decide) (by decide))
  · exact q_frt (H _) (q_frw (q_t194F h0 h1) (by decide) (by decide))
def q_FT : List Nat := [1559, 1561, 1573, 1574, 1572, 1576, 1566, 1567, 1568]
def q_RT : List Nat := [47, 57, 58, 59, 60, 61, 106, 77, 63, 64]
theorem q_t43F {i : Nat} (I : rf_I t s q z r.1 r.2) (hi : i < 400) (h0 : 0 ≤ (r.1 1561).toInt) (h1 : (r.1 1561).toInt < 3600) : q_fr q_FT q_RT r (qF_takes_43 (nI i) r) := by
  have ei : (nI i).toNatClampNeg = i := jI_N (by omega)
  rw [qE_takes_43, ei]
  have F99 := q_t99F I hi h0 h1
  split
  · have : qF_isByKey (r.2 78 i) r = (0, r) ∨ qF_isByKey (r.2 78 i) r = (1, r) := by
      rw [qE_isByKey]
      split
      · exact Or.inr rfl
      · split
        · split
          · exact Or.inl rfl
          · exact Or.inr rfl
        · exact Or.inl rfl
    rcases this with h | h
    · rw [q_ste2 h, if_pos rfl]; exact q_fr0
    · rw [q_ste2 h, if_neg (by decide)]; exact q_frw F99 (by decide) (by decide)
  · have F99k := q_t99F (r := uf (uf (uf r 1567 (r.1 1566)) 1566 (r.2 78 i)) 1568 (r.1 1536)) (rI_f (rI_f (rI_f I (by decide)) (by decide)) (by decide)) hi h0 h1
    exact q_frt (q_fruf (k := 1568) (v := r.1 1536) (by decide) (q_fruf (k := 1566) (v := r.2 78 i) (by decide) (q_fruf (k := 1567) (v := r.1 1566) (by decide) (q_fr0 (a := r))))) (q_frw F99k (by decide) (by decide))
theorem q_takesF {i : Nat} (I : rf_I t s q z r.1 r.2) (hi : i < 400) (h0 : 0 ≤ (r.1 1561).toInt) (h1 : (r.1 1561).toInt < 3600) : qF_takes (nI i) r = (if r.1 1562 = 1 then q_D i (uf (ua r 77 i 2) 1575 (r.2 71 i)) else ua r 77 i 2) ∧ q_fr (1575 :: q_FT) q_RT r (qF_takes (nI i) r) := by
  have ei : (nI i).toNatClampNeg = i := jI_N (by omega)
  have I2 : rf_I t s q z (ua r 77 i 2).1 (ua r 77 i 2).2 := rI_a I (by decide)
  have e : qF_takes (nI i) r = (if r.1 1562 = 1 then q_D i (uf (ua r 77 i 2) 1575 (r.2 71 i)) else ua r 77 i 2) := by
    rw [qE_takes, ei]
    refine (q_ste rfl).trans ?_
    rw [ua1]
    split
    · refine (q_ste (b := uf (ua r 77 i 2) 1575 (r.2 71 i)) (by rw [ua_n (by decide)])).trans ?_
      rfl
    · rfl
  refine ⟨e, ?_⟩
  rw [e]
  have H0 : q_fr (1575 :: q_FT) q_RT r (ua r 77 i 2) := q_frua (by decide) q_fr0
  split
  · unfold q_D
    have H1 : q_fr (1575 :: q_FT) q_RT r (uf (ua r 77 i 2) 1575 (r.2 71 i)) := q_fruf (by decide) H0
    have key : q_fr (1575 :: q_FT) q_RT r (qF_takes_43 (nI i) (uf (ua r 77 i 2) 1575 (r.2 71 i))) := by
      -- 1575 is bounded by rf_C2, so the row of the invariant is stated on what it reads alone
      have e3 := ri_A I (x := 73) (lo := 0) (hi := 3) (by decide) i
      have hI : rf_I t s q z (uf (ua r 77 i 2) 1575 (r.2 71 i)).1 (uf (ua r 77 i 2) 1575 (r.2 71 i)).2 := by
        obtain ⟨c1, c2, c3, c4, c5, c6, c7, c8, c9, c10, c11, c12⟩ := I2
        have w : ∀ k, k ≠ 1575 → (uf (ua r 77 i 2) 1575 (r.2 71 i)).1 k = (ua r 77 i 2).1 k := fun k hk => uf_n hk
        have e71 := ri_A I (x := 71) (lo := 0) (hi := 1) (by decide) i
        refine ⟨c1, fun tr htr => ?_, c3, c4.congr (fun _ _ => rfl) (fun y hy => w y (by revert hy; revert y; decide)), c5, c6.congr (fun _ _ => rfl) (fun y hy => w y (by revert hy; revert y; decide)), c7, c8.congr (fun _ _ => rfl) (fun y hy => w y (by revert hy; revert y; decide)), c9.congr (fun y hy => w y (by revert hy; revert y; decide)), c10, c11.congr (fun _ _ => rfl) (fun y hy => w y (by revert hy; revert y; decide)), c12.congr (fun _ _ => rfl) (fun y hy => w y (by revert hy; revert y; decide))⟩
        have hC := c2 tr htr
        by_cases hc : tr.1 = 1575
        · have : tr = (1575, -1, 1) := (show ∀ tr, tr ∈ rf_RF → tr.1 = 1575 → tr = (1575, -1, 1) from by decide) tr htr hc
          subst this
          show -1 ≤ ((uf (ua r 77 i 2) 1575 (r.2 71 i)).1 1575).toInt ∧ ((uf (ua r 77 i 2) 1575 (r.2 71 i)).1 1575).toInt ≤ 1
          rw [uf_e]; omega
        · rw [w _ hc]; exact hC
      exact q_frt H1 (q_frw (q_t43F hI hi h0 h1) (by decide) (by decide))
    split
    · exact key
    · split
      · exact H1
      · exact key
  · exact H0
end JHS
