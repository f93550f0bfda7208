/-! ===== THE LIKENESS: a message is put on a path to the client ===== -/
section JAN
variable {n : Nat} {M M0 M1 M2 : z_Mem} {r r1 : q_R} {TL CL : List Nat} {t s q z : Nat}
/-- what is under way to the client, and to the server, and arrives at d or later -/
def pC (d : Int) (r : q_R) : List Nat := (List.range (jN (r.1 1559))).filter (fun k => decide (d ≤ (r.2 60 k).toInt))
def pS (d : Int) (r : q_R) : List Nat := (List.range (jN (r.1 1554))).filter (fun k => decide (d ≤ (r.2 56 k).toInt))
theorem pC_congr {d : Int} (h : r1.1 1559 = r.1 1559) (h2 : ∀ k, k < jN (r.1 1559) → r1.2 60 k = r.2 60 k) : pC d r1 = pC d r := by
  unfold pC
  rw [h]
  exact List.filter_congr (fun k hk => by rw [h2 k (List.mem_range.mp hk)])
theorem pS_congr {d : Int} (h : r1.1 1554 = r.1 1554) (h2 : ∀ k, k < jN (r.1 1554) → r1.2 56 k = r.2 56 k) : pS d r1 = pS d r := by
  unfold pS
  rw [h]
  exact List.filter_congr (fun k hk => by rw [h2 k (List.mem_range.mp hk)])
theorem pC_len {d : Int} : (pC d r).length ≤ jN (r.1 1559) := by
  have := List.length_filter_le (fun k => decide (d ≤ (r.2 60 k).toInt)) (List.range (jN (r.1 1559)))
  rw [List.length_range] at this
  exact this
theorem pS_len {d : Int} : (pS d r).length ≤ jN (r.1 1554) := by
  have := List.length_filter_le (fun k => decide (d ≤ (r.2 56 k).toInt)) (List.range (jN (r.1 1554)))
  rw [List.length_range] at this
  exact this
def q_answ (p s i : Int32) (r : q_R) : q_R := uf (ua (ua (ua (ua r 57 (jN (r.1 1559)) s) 58 (jN (r.1 1559)) i) 59 (jN (r.1 1559)) p) 60 (jN (r.1 1559)) (r.1 1536 + r.2 41 (jN p))) 1559 (r.1 1559 + 1)
theorem pC_answ {d : Int} {p s i : Int32} (h0 : 0 ≤ (r.1 1559).toInt) (h1 : (r.1 1559).toInt < 3600) (hd : d ≤ (r.1 1536 + r.2 41 (jN p)).toInt) : pC d (q_answ p s i r) = pC d r ++ [jN (r.1 1559)] := by
  unfold pC q_answ
  rw [uf_e, jN_add1 h0 (by omega), List.range_succ, List.filter_append]
  congr 1
  · refine List.filter_congr (fun k hk => ?_)
    have := List.mem_range.mp hk
    rw [uf2, ua_i (by omega), ua_n (by decide), ua_n (by decide), ua_n (by decide)]
  · rw [List.filter_cons, if_pos]
    · rfl
    · simp only [uf2, ua_e, decide_eq_true_eq]; exact hd
theorem j_answ {d : Int} (J : JJ n M r TL (pC d r)) {p : Nat} (hp : p < 2) {m : Nat} (m0 : n + 108 ≤ m) (m1 : m < z_sz M) {sI i : Int32} (hk : j_kC n M r m sI i) (h5 : z_fi M 513 m = nI p) (h4 : z_fi M 514 m = r.1 1536 + r.2 41 p) (h0 : 0 ≤ (r.1 1559).toInt) (h1 : (r.1 1559).toInt < 2048) (hd : d ≤ (r.1 1536 + r.2 41 p).toInt) (e1 : M1 = z_sar M (n + 9) (jN (z_fi M 1281 (n + 8))) (some m)) (e2 : M2 = z_sfi M1 1281 (n + 8) (z_fi M1 1281 (n + 8) + 1)) : JJ n M2 (q_answ (nI p) sI i r) TL (pC d (q_answ (nI p) sI i r)) := by
  have ep : jN (nI p) = p := jN_nI (by omega)
  have eA := jN_toInt h0
  rw [pC_answ h0 (by omega) (by rw [ep]; exact hd)]
  have hlen := pC_len (r := r) (d := d)
  generalize pC d r = CL at *
  subst e1
  subst e2
  unfold q_answ
  rw [ep]
  obtain ⟨S, js, ja, X, P, Q, T, C⟩ := J
  generalize hA : jN (r.1 1559) = A at *
  have w5 : ∀ {x : Nat}, x ≠ 57 → x ≠ 58 → x ≠ 59 → x ≠ 60 → (uf (ua (ua (ua (ua r 57 A sI) 58 A i) 59 A (nI p)) 60 A (r.1 1536 + r.2 41 p)) 1559 (r.1 1559 + 1)).2 x = r.2 x := fun a b c d => by
    rw [uf2, ua_n d, ua_n c, ua_n b, ua_n a]
  have wi : ∀ {x j : Nat}, j ≠ A → (uf (ua (ua (ua (ua r 57 A sI) 58 A i) 59 A (nI p)) 60 A (r.1 1536 + r.2 41 p)) 1559 (r.1 1559 + 1)).2 x j = r.2 x j := fun h => by
    rw [uf2, ua2, if_neg h, ite_self, ua2, if_neg h, ite_self, ua2, if_neg h, ite_self, ua2, if_neg h, ite_self]
  have w1 : ∀ {g : Nat}, g ≠ 1559 → (uf (ua (ua (ua (ua r 57 A sI) 58 A i) 59 A (nI p)) 60 A (r.1 1536 + r.2 41 p)) 1559 (r.1 1559 + 1)).1 g = r.1 g := fun h => by rw [uf_n h]; rfl
  have y1 : (uf (ua (ua (ua (ua r 57 A sI) 58 A i) 59 A (nI p)) 60 A (r.1 1536 + r.2 41 p)) 1559 (r.1 1559 + 1)).1 1559 = r.1 1559 + 1 := uf_e
  have x57 : (uf (ua (ua (ua (ua r 57 A sI) 58 A i) 59 A (nI p)) 60 A (r.1 1536 + r.2 41 p)) 1559 (r.1 1559 + 1)).2 57 A = sI := by rw [uf2, ua_n (by decide), ua_n (by decide), ua_n (by decide), ua_e]
  have x58 : (uf (ua (ua (ua (ua r 57 A sI) 58 A i) 59 A (nI p)) 60 A (r.1 1536 + r.2 41 p)) 1559 (r.1 1559 + 1)).2 58 A = i := by rw [uf2, ua_n (by decide), ua_n (by decide), ua_e]
  have x59 : (uf (ua (ua (ua (ua r 57 A sI) 58 A i) 59 A (nI p)) 60 A (r.1 1536 + r.2 41 p)) 1559 (r.1 1559 + 1)).2 59 A = nI p := by rw [uf2, ua_n (by decide), ua_e]
  have x60 : (uf (ua (ua (ua (ua r 57 A sI) 58 A i) 59 A (nI p)) 60 A (r.1 1536 + r.2 41 p)) 1559 (r.1 1559 + 1)).2 60 A = r.1 1536 + r.2 41 p := by rw [uf2, ua_e]
  have js1 : JS n M (uf (ua (ua (ua (ua r 57 A sI) 58 A i) 59 A (nI p)) 60 A (r.1 1536 + r.2 41 p)) 1559 (r.1 1559 + 1)) := JS.rf (JS.ra (JS.ra (JS.ra (JS.ra js (by decide)) (by decide)) (by decide)) (by decide)) (by decide)
  generalize (uf (ua (ua (ua (ua r 57 A sI) 58 A i) 59 A (nI p)) 60 A (r.1 1536 + r.2 41 p)) 1559 (r.1 1559 + 1)) = r' at *
  have e6 : r'.1 1606 = r.1 1606 := w1 (by decide)
  have hl : jN (z_fi M 1281 (n + 8)) = CL.length := by rw [C.1]; exact jN_nI (by have := C.2.1; omega)
  rw [hl]
  have H : hF n M (z_sfi (z_sar M (n + 9) CL.length (some m)) 1281 (n + 8) (z_fi (z_sar M (n + 9) CL.length (some m)) 1281 (n + 8) + 1)) := hF_tr hF_sar (hF_sfi (by omega))
  have fi : ∀ {g c : Nat}, ¬ (g = 1281 ∧ c = 8) → z_fi (z_sfi (z_sar M (n + 9) CL.length (some m)) 1281 (n + 8) (z_fi (z_sar M (n + 9) CL.length (some m)) 1281 (n + 8) + 1)) g (n + c) = z_fi M g (n + c) := fun h => jfi h
  have fi2 : ∀ {g a : Nat}, g ≠ 1281 → z_fi (z_sfi (z_sar M (n + 9) CL.length (some m)) 1281 (n + 8) (z_fi (z_sar M (n + 9) CL.length (some m)) 1281 (n + 8) + 1)) g a = z_fi M g a := fun h => by rw [zq_fi_sfi, if_neg h]; rfl
  have fl : z_fi (z_sfi (z_sar M (n + 9) CL.length (some m)) 1281 (n + 8) (z_fi (z_sar M (n + 9) CL.length (some m)) 1281 (n + 8) + 1)) 1281 (n + 8) = z_fi M 1281 (n + 8) + 1 := by rw [zq_fi_sfi, if_pos rfl, if_pos rfl]; rfl
  have zn : ∀ {x : Nat}, x ≠ 9 → z_ar (z_sfi (z_sar M (n + 9) CL.length (some m)) 1281 (n + 8) (z_fi (z_sar M (n + 9) CL.length (some m)) 1281 (n + 8) + 1)) (n + x) = z_ar M (n + x) := fun hx => funext fun j => by rw [zq_ar_sfi, zq_ar_sar, if_neg (by omega)]
  have ze : ∀ {j : Nat}, j ≠ CL.length → z_ar (z_sfi (z_sar M (n + 9) CL.length (some m)) 1281 (n + 8) (z_fi (z_sar M (n + 9) CL.length (some m)) 1281 (n + 8) + 1)) (n + 9) j = z_ar M (n + 9) j := fun hx => by rw [zq_ar_sfi, zq_ar_sar, if_pos rfl, if_neg hx]
  have zz : z_ar (z_sfi (z_sar M (n + 9) CL.length (some m)) 1281 (n + 8) (z_fi (z_sar M (n + 9) CL.length (some m)) 1281 (n + 8) + 1)) (n + 9) CL.length = some m := by rw [zq_ar_sfi, zq_ar_sar, if_pos rfl, if_pos rfl]
  have S2 : y_S n (z_sfi (z_sar M (n + 9) CL.length (some m)) 1281 (n + 8) (z_fi (z_sar M (n + 9) CL.length (some m)) 1281 (n + 8) + 1)) := S_sfi (S_sar (by omega) S)
  have ja2 : ∀ a j, z_ai (z_sfi (z_sar M (n + 9) CL.length (some m)) 1281 (n + 8) (z_fi (z_sar M (n + 9) CL.length (some m)) 1281 (n + 8) + 1)) a j = z_ai M a j := fun _ _ => rfl
  generalize (z_sfi (z_sar M (n + 9) CL.length (some m)) 1281 (n + 8) (z_fi (z_sar M (n + 9) CL.length (some m)) 1281 (n + 8) + 1)) = M' at *
  have n4 : ∀ x : Nat, (x < 57 ∨ 60 < x) → x ≠ 57 ∧ x ≠ 58 ∧ x ≠ 59 ∧ x ≠ 60 := fun x h => by omega
  have w6 : ∀ {x : Nat}, (x < 57 ∨ 60 < x) → r'.2 x = r.2 x := fun h => w5 (n4 _ h).1 (n4 _ h).2.1 (n4 _ h).2.2.1 (n4 _ h).2.2.2
  have h61 : ∀ t i, t < jN (r.1 1561) → i < 15 → r'.2 61 (15 * t + i) = r.2 61 (15 * t + i) := fun _ _ _ _ => by rw [w6 (by omega)]
  have e61 : r'.1 1561 = r.1 1561 := w1 (by decide)
  refine ⟨S2, js1.congr (fun t ht => fi (by revert ht; revert t; decide)) (fun _ _ => rfl), ja.congr (fun _ _ _ _ => ja2 _ _) (fun t ht => w6 (by revert ht; revert t; decide)), X.congr (fun q hq => fi (by revert hq; revert q; decide)) (fun g hg => w1 (by revert hg; revert g; decide)) (fun x hx => w6 (by revert hx; revert x; decide)), P.congr H (zn (by omega)) e6 (fun t ht => w6 (by revert ht; revert t; decide)), fun p1 hp1 => (Q p1 hp1).congr H.m (zn (by omega)) (zn (by omega)) (fi2 (by decide)) e6 (by rw [w6 (by omega)]) (fun _ _ => by rw [w6 (by omega)]) (by rw [w1 (by decide)]; exact Nat.le_refl _) (fun x _ hx _ => by rw [w6 (by revert hx; revert x; decide)]), T.congr H.m (zn (by omega)) (zn (by omega)) (fi (by omega)) e6 (by rw [w1 (by decide)]; exact Nat.le_refl _) (by rw [w1 (by decide)]; exact Nat.le_refl _) (fun x _ hx _ => by rw [w6 (by revert hx; revert x; decide)]) (fun x _ hx _ => by rw [w6 (by revert hx; revert x; decide)]), ?_⟩
  · refine ⟨?_, ?_, fun k hk => ?_, by rw [e61, w6 (by omega)]; exact C.2.2.2.1, fun j k e => ?_⟩
    · rw [fl, C.1, List.length_append, jI_1, jI_add (by have := C.2.1; show CL.length + 1 < 2147483648; omega)]; rfl
    · rw [List.length_append]; show CL.length + 1 ≤ 2048; omega
    · rw [y1, jN_add1 h0 (by omega), hA]
      rcases List.mem_append.mp hk with h | h
      · have := C.2.2.1 k h
        omega
      · have := List.mem_singleton.mp h
        omega
    · by_cases hj : j < CL.length
      · rw [List.getElem?_append_left hj] at e
        obtain ⟨m', g1, g2⟩ := C.2.2.2.2 j k e
        have hk' := C.2.2.1 k (List.mem_of_getElem? e)
        exact ⟨m', by rw [ze (by omega)]; exact g1, g2.congr H.m C.2.2.2.1 (by rw [e61]; exact Nat.le_refl _) h61 (fun x hx => wi (by omega))⟩
      · rw [List.getElem?_append_right (by omega)] at e
        have hj2 : j - CL.length = 0 := by
          by_cases h : j - CL.length = 0
          · exact h
          · rw [List.getElem?_eq_none (by show [A].length ≤ _; show 1 ≤ _; omega)] at e
            exact absurd e (by simp)
        rw [hj2] at e
        have hk' : k = A := (Option.some.inj e).symm
        subst hk'
        have : j = CL.length := by omega
        subst this
        refine ⟨m, zz, m0, Nat.lt_of_lt_of_le m1 H.1, by rw [fi2 (by decide), x59]; exact h5, by rw [fi2 (by decide), x60]; exact h4, ?_⟩
        rw [x57, x58]
        exact hk.congr m0 m1 H.m C.2.2.2.1 (by rw [e61]; exact Nat.le_refl _) h61
end JAN
