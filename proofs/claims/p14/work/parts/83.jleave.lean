/-! ===== THE LIKENESS: a message leaves a queue ===== -/
section JLV
variable {n : Nat} {M M0 M1 M2 : z_Mem} {r r1 : q_R} {TL CL : List Nat} {t s q z : Nat} {d : Int}
def uA (r : q_R) (x : Nat) (f : Nat → Int32) : q_R := (r.1, fun y i => if y = x then f i else r.2 y i)
theorem uA_n {x y : Nat} {f : Nat → Int32} (h : y ≠ x) : (uA r x f).2 y = r.2 y := funext fun _ => if_neg h
theorem uA_e {x : Nat} {f : Nat → Int32} : (uA r x f).2 x = f := funext fun _ => if_pos rfl
/-- the first of a queue is gone -/
def q_sh (p : Nat) (r : q_R) : q_R := ua (uA r 50 (fun i => if 30 * p ≤ i ∧ i < 30 * p + 29 then r.2 50 (i + 1) else r.2 50 i)) 51 p (r.2 51 p - 1)
/-- a thing has left the queue -/
def q_tk (p : Nat) (th : Int32) (r : q_R) : q_R := if r.2 48 p ≤ 0 then uf (ua (ua r 55 (jN (r.1 1554)) th) 56 (jN (r.1 1554)) (r.1 1536 + r.2 41 p + 0)) 1554 (r.1 1554 + 1) else uf (ua (ua (ua r 48 p (r.2 48 p - 1)) 55 (jN (r.1 1554)) th) 56 (jN (r.1 1554)) (r.1 1536 + r.2 41 p + r.2 49 p)) 1554 (r.1 1554 + 1)
def q_hd (p : Nat) (r : q_R) : q_R := if r.2 50 (30 * p) = -1 then q_sh p r else q_tk p (r.2 50 (30 * p)) (q_sh p r)
theorem j_next {h : Int32} (h0 : 0 ≤ h.toInt) (h1 : h.toInt < 30) : (h + 1 - (h + 1) / 30 * 30).toInt = (((jN h + 1) % 30 : Nat) : Int) := by
  have a := jN_toInt h0
  have e : (h + 1).toInt = h.toInt + 1 := i_addE rfl (show (1 : Int32).toInt = 1 from rfl) (by omega) (by omega)
  rw [i_modE30 e (by omega)]; omega
/-- the first is taken away -/
theorem j_rem (J : JJ n M r TL CL) {p : Nat} (hp : p < 2) (hQ : 0 < (r.2 51 p).toInt) (hQ2 : ∀ i, (r.2 51 i).toInt ≤ 30) (e1 : M1 = z_sar M (n + (3 + 2 * p)) (jN (z_fi M 394 (n + (2 + 2 * p)))) none) (e2 : M2 = z_sfi (z_sfi M1 394 (n + (2 + 2 * p)) (z_fi M 394 (n + (2 + 2 * p)) + 1 - (z_fi M 394 (n + (2 + 2 * p)) + 1) / 30 * 30)) 395 (n + (2 + 2 * p)) (r.2 51 p - 1)) : JJ n M2 (q_sh p r) TL CL := by
  subst e1
  subst e2
  have hQ2p := hQ2 p
  have eQ := jN_toInt (x := r.2 51 p) (by omega)
  have eQ1 := jN_sub1 hQ
  obtain ⟨S, js, ja, X, P, Q, T, C⟩ := J
  have H0 := Q p hp
  have hh := j_next H0.1 H0.2.1
  have eh := jN_toInt H0.1
  generalize hH : jN (z_fi M 394 (n + (2 + 2 * p))) = hd at *
  generalize z_fi M 394 (n + (2 + 2 * p)) + 1 - (z_fi M 394 (n + (2 + 2 * p)) + 1) / 30 * 30 = nh at *
  have hnh : jN nh = (hd + 1) % 30 := jN_of hh
  have w5 : ∀ {x : Nat}, x ≠ 50 → x ≠ 51 → (q_sh p r).2 x = r.2 x := fun a b => by unfold q_sh; rw [ua_n b, uA_n a]
  have w1 : ∀ {g : Nat}, (q_sh p r).1 g = r.1 g := rfl
  have x51 : (q_sh p r).2 51 p = r.2 51 p - 1 := by unfold q_sh; rw [ua_e]
  have w51 : ∀ {i : Nat}, i ≠ p → (q_sh p r).2 51 i = r.2 51 i := fun h => by unfold q_sh; rw [ua_i h, uA_n (by decide)]
  have w50 : ∀ i, (q_sh p r).2 50 i = if 30 * p ≤ i ∧ i < 30 * p + 29 then r.2 50 (i + 1) else r.2 50 i := fun i => by unfold q_sh; rw [ua_n (by decide), uA_e]
  have js1 : JS n (z_sfi (z_sfi (z_sar M (n + (3 + 2 * p)) hd none) 394 (n + (2 + 2 * p)) nh) 395 (n + (2 + 2 * p)) (r.2 51 p - 1)) (q_sh p r) := by
    have j4 : JS n (z_sfi (z_sar M (n + (3 + 2 * p)) hd none) 394 (n + (2 + 2 * p)) nh) (uA r 50 (fun i => if 30 * p ≤ i ∧ i < 30 * p + 29 then r.2 50 (i + 1) else r.2 50 i)) := by
      refine js.congr (fun t ht => ?_) (fun t ht => ?_)
      · rw [zq_fi_sfi, if_neg (by revert ht; revert t; decide)]; rfl
      · have : t.2.2.1 ≠ 50 := by revert ht; revert t; decide
        unfold j_loc
        by_cases h : t.2.2.1 = 0
        · rw [if_pos h, if_pos h]; rfl
        · rw [if_neg h, if_neg h, uA_n this]
    rcases jl2 hp with rfl | rfl
    · exact j4.sa (by decide)
    · exact j4.sa (by decide)
  generalize q_sh p r = r' at *
  have H : hF n M (z_sfi (z_sfi (z_sar M (n + (3 + 2 * p)) hd none) 394 (n + (2 + 2 * p)) nh) 395 (n + (2 + 2 * p)) (r.2 51 p - 1)) := hF_tr (hF_tr hF_sar (hF_sfi (by omega))) (hF_sfi (by omega))
  have zn : ∀ {x : Nat}, x ≠ 3 + 2 * p → z_ar (z_sfi (z_sfi (z_sar M (n + (3 + 2 * p)) hd none) 394 (n + (2 + 2 * p)) nh) 395 (n + (2 + 2 * p)) (r.2 51 p - 1)) (n + x) = z_ar M (n + x) := fun hx => funext fun j => by rw [zq_ar_sfi, zq_ar_sfi, zq_ar_sar, if_neg (by omega)]
  have ze : ∀ {j : Nat}, j ≠ hd → z_ar (z_sfi (z_sfi (z_sar M (n + (3 + 2 * p)) hd none) 394 (n + (2 + 2 * p)) nh) 395 (n + (2 + 2 * p)) (r.2 51 p - 1)) (n + (3 + 2 * p)) j = z_ar M (n + (3 + 2 * p)) j := fun hx => by rw [zq_ar_sfi, zq_ar_sfi, zq_ar_sar, if_pos rfl, if_neg hx]
  have fi2 : ∀ {g a : Nat}, g ≠ 395 → g ≠ 394 → z_fi (z_sfi (z_sfi (z_sar M (n + (3 + 2 * p)) hd none) 394 (n + (2 + 2 * p)) nh) 395 (n + (2 + 2 * p)) (r.2 51 p - 1)) g a = z_fi M g a := fun h h2 => by rw [zq_fi_sfi, if_neg h, zq_fi_sfi, if_neg h2]; rfl
  have fh : ∀ {a : Nat}, z_fi (z_sfi (z_sfi (z_sar M (n + (3 + 2 * p)) hd none) 394 (n + (2 + 2 * p)) nh) 395 (n + (2 + 2 * p)) (r.2 51 p - 1)) 394 a = if a = n + (2 + 2 * p) then nh else z_fi M 394 a := by
    intro a; rw [zq_fi_sfi, if_neg (by decide), zq_fi_sfi, if_pos rfl]; rfl
  have S2 : y_S n (z_sfi (z_sfi (z_sar M (n + (3 + 2 * p)) hd none) 394 (n + (2 + 2 * p)) nh) 395 (n + (2 + 2 * p)) (r.2 51 p - 1)) := S_sfi (S_sfi (S_sar (by omega) S))
  have ja2 : ∀ a j, z_ai (z_sfi (z_sfi (z_sar M (n + (3 + 2 * p)) hd none) 394 (n + (2 + 2 * p)) nh) 395 (n + (2 + 2 * p)) (r.2 51 p - 1)) a j = z_ai M a j := fun _ _ => rfl
  generalize (z_sfi (z_sfi (z_sar M (n + (3 + 2 * p)) hd none) 394 (n + (2 + 2 * p)) nh) 395 (n + (2 + 2 * p)) (r.2 51 p - 1)) = M' at *
  have e38 : z_ar M' (n + 38) = z_ar M (n + 38) := zn (by omega)
  have e6 : r'.1 1606 = r.1 1606 := w1
  refine ⟨S2, js1, ja.congr (fun _ _ _ _ => ja2 _ _) (fun t ht => w5 (by revert ht; revert t; decide) (by revert ht; revert t; decide)), X.congr (fun q hq => fi2 (by revert hq; revert q; decide) (by revert hq; revert q; decide)) (fun _ _ => w1) (fun x hx => w5 (by revert hx; revert x; decide) (by revert hx; revert x; decide)), P.congr H e38 e6 (fun t ht => w5 (by revert ht; revert t; decide) (by revert ht; revert t; decide)), fun p1 hp1 => ?_, T.congr H.m e38 (zn (by omega)) (fi2 (by decide) (by decide)) e6 (by rw [w1]; exact Nat.le_refl _) (by rw [w1]; exact Nat.le_refl _) (fun x k hx _ => by rw [w5 (by revert hx; revert x; decide) (by revert hx; revert x; decide)]) (fun x k hx _ => by rw [w5 (by revert hx; revert x; decide) (by revert hx; revert x; decide)]), C.congr H.m (zn (by omega)) (fi2 (by decide) (by decide)) (by rw [w1]; exact Nat.le_refl _) (by rw [w1, w5 (by decide) (by decide)]; exact C.2.2.2.1) (by rw [w1]; exact Nat.le_refl _) (fun _ _ _ _ => by rw [w5 (by decide) (by decide)]) (fun x k hx _ => by rw [w5 (by revert hx; revert x; decide) (by revert hx; revert x; decide)])⟩
  have Qp1 := Q p1 hp1
  by_cases hpp : p1 = p
  · subst hpp
    obtain ⟨h1, h2, h3, h4⟩ := Qp1
    rw [hH] at h3 h4
    have hix : ∀ k, k < 30 → (jN nh + k) % 30 = (hd + (k + 1)) % 30 := fun k _ => by rw [hnh]; omega
    refine ⟨by rw [fh, if_pos rfl, hh]; omega, by rw [fh, if_pos rfl, hh]; omega, fun k hk => ?_, fun k1 k2 m1 m2 a b c d' => ?_⟩
    · rw [x51] at hk
      obtain ⟨m, e, h⟩ := h3 (k + 1) (by omega)
      refine ⟨m, by rw [fh, if_pos rfl, hix k (by omega), ze (by omega)]; exact e, ?_⟩
      rw [w50, if_pos ⟨by omega, by omega⟩]
      rcases h with h | ⟨th, g1, g2, g3, g4, g5, g6⟩
      · exact Or.inl h
      · exact Or.inr ⟨th, g1, by rw [w1]; exact g2, g3, by rw [w5 (by decide) (by decide)]; exact g4, g5.congr H.m e38 e6 (by rw [w5 (by decide) (by decide)]) (by rw [w5 (by decide) (by decide)]) (by rw [w5 (by decide) (by decide)]), by rw [fi2 (by decide) (by decide)]; exact g6⟩
    · rw [x51] at b
      rw [fh, if_pos rfl, hix k1 (by omega), ze (by omega)] at c
      rw [fh, if_pos rfl, hix k2 (by omega), ze (by omega)] at d'
      exact h4 (k1 + 1) (k2 + 1) m1 m2 (by omega) (by omega) c d'
  · refine Qp1.congr H.m e38 (zn (by omega)) (by rw [fh, if_neg (by omega)]) e6 (w51 hpp) (fun k hk => ?_) (by rw [w1]; exact Nat.le_refl _) (fun x k hx _ => by rw [w5 (by revert hx; revert x; decide) (by revert hx; revert x; decide)])
    have h30 := hQ2 p1
    have hk2 : k < 30 := by
      have : jN (r.2 51 p1) ≤ 30 := by unfold jN Int32.toNatClampNeg; omega
      omega
    rw [w50, if_neg (by omega)]
/-- it goes on its way -/
theorem j_appT (J : JJ n M r TL CL) {m th : Nat} {v : Int32} (hm : j_mS n M r m th) (hth : th < jN (r.1 1551)) (hth2 : th < 1300) (hq : ∀ p k q, p < 2 → k < jN (r.2 51 p) → z_ar M (n + (3 + 2 * p)) ((jN (z_fi M 394 (n + (2 + 2 * p))) + k) % 30) = some q → q ≠ m) (h4 : z_fi M 514 m = 0) (hv : 0 < v.toInt) (hL : TL.length < 1024) (h0 : 0 ≤ (r.1 1554).toInt) (h1 : (r.1 1554).toInt < 1300) (e1 : M1 = z_sfi (z_sar (z_sfi M 514 m v) (n + 7) (jN (z_fi M 1281 (n + 6))) (some m)) 1281 (n + 6) (z_fi M 1281 (n + 6) + 1)) : JJ n M1 (uf (ua (ua r 55 (jN (r.1 1554)) (nI th)) 56 (jN (r.1 1554)) v) 1554 (r.1 1554 + 1)) (TL ++ [jN (r.1 1554)]) CL := by
  subst e1
  have eA := jN_toInt h0
  obtain ⟨S, js, ja, X, P, Q, T, C⟩ := J
  generalize hA : jN (r.1 1554) = A at *
  have w5 : ∀ {x : Nat}, x ≠ 55 → x ≠ 56 → (uf (ua (ua r 55 A (nI th)) 56 A v) 1554 (r.1 1554 + 1)).2 x = r.2 x := fun a b => by rw [uf2, ua_n b, ua_n a]
  have wi : ∀ {x j : Nat}, j ≠ A → (uf (ua (ua r 55 A (nI th)) 56 A v) 1554 (r.1 1554 + 1)).2 x j = r.2 x j := fun h => by rw [uf2, ua2, if_neg h, ite_self, ua2, if_neg h, ite_self]
  have w1 : ∀ {g : Nat}, g ≠ 1554 → (uf (ua (ua r 55 A (nI th)) 56 A v) 1554 (r.1 1554 + 1)).1 g = r.1 g := fun h => by rw [uf_n h]; rfl
  have y1 : (uf (ua (ua r 55 A (nI th)) 56 A v) 1554 (r.1 1554 + 1)).1 1554 = r.1 1554 + 1 := uf_e
  have x55 : (uf (ua (ua r 55 A (nI th)) 56 A v) 1554 (r.1 1554 + 1)).2 55 A = nI th := by rw [uf2, ua_n (by decide), ua_e]
  have x56 : (uf (ua (ua r 55 A (nI th)) 56 A v) 1554 (r.1 1554 + 1)).2 56 A = v := by rw [uf2, ua_e]
  have js1 : JS n M (uf (ua (ua r 55 A (nI th)) 56 A v) 1554 (r.1 1554 + 1)) := JS.rf (JS.ra (JS.ra js (by decide)) (by decide)) (by decide)
  generalize (uf (ua (ua r 55 A (nI th)) 56 A v) 1554 (r.1 1554 + 1)) = r' at *
  have hl : jN (z_fi M 1281 (n + 6)) = TL.length := by rw [T.1]; exact jN_nI (by omega)
  rw [hl]
  have fi : ∀ {g c : Nat}, g ≠ 514 → ¬ (g = 1281 ∧ c = 6) → z_fi (z_sfi (z_sar (z_sfi M 514 m v) (n + 7) TL.length (some m)) 1281 (n + 6) (z_fi M 1281 (n + 6) + 1)) g (n + c) = z_fi M g (n + c) := fun h2 h => by
    rw [jfi h]
    show z_fi (z_sfi M 514 m v) _ _ = _
    rw [zq_fi_sfi, if_neg h2]
  have fi2 : ∀ {g a : Nat}, g ≠ 514 → g ≠ 1281 → z_fi (z_sfi (z_sar (z_sfi M 514 m v) (n + 7) TL.length (some m)) 1281 (n + 6) (z_fi M 1281 (n + 6) + 1)) g a = z_fi M g a := fun h2 h => by
    rw [zq_fi_sfi, if_neg h]
    show z_fi (z_sfi M 514 m v) _ _ = _
    rw [zq_fi_sfi, if_neg h2]
  have fd : ∀ {a : Nat}, a ≠ m → z_fi (z_sfi (z_sar (z_sfi M 514 m v) (n + 7) TL.length (some m)) 1281 (n + 6) (z_fi M 1281 (n + 6) + 1)) 514 a = z_fi M 514 a := fun h => by
    rw [zq_fi_sfi, if_neg (by decide)]
    rw [zq_fi_sar, zq_fi_sfi, if_pos rfl, if_neg h]
  have fm : z_fi (z_sfi (z_sar (z_sfi M 514 m v) (n + 7) TL.length (some m)) 1281 (n + 6) (z_fi M 1281 (n + 6) + 1)) 514 m = v := by
    rw [zq_fi_sfi, if_neg (by decide)]
    rw [zq_fi_sar, zq_fi_sfi, if_pos rfl, if_pos rfl]
  have fl : z_fi (z_sfi (z_sar (z_sfi M 514 m v) (n + 7) TL.length (some m)) 1281 (n + 6) (z_fi M 1281 (n + 6) + 1)) 1281 (n + 6) = z_fi M 1281 (n + 6) + 1 := by rw [zq_fi_sfi, if_pos rfl, if_pos rfl]
  have zn : ∀ {x : Nat}, x ≠ 7 → z_ar (z_sfi (z_sar (z_sfi M 514 m v) (n + 7) TL.length (some m)) 1281 (n + 6) (z_fi M 1281 (n + 6) + 1)) (n + x) = z_ar M (n + x) := fun hx => funext fun j => by rw [zq_ar_sfi, zq_ar_sar, if_neg (by omega)]; rfl
  have ze : ∀ {j : Nat}, j ≠ TL.length → z_ar (z_sfi (z_sar (z_sfi M 514 m v) (n + 7) TL.length (some m)) 1281 (n + 6) (z_fi M 1281 (n + 6) + 1)) (n + 7) j = z_ar M (n + 7) j := fun hx => by rw [zq_ar_sfi, zq_ar_sar, if_pos rfl, if_neg hx]; rfl
  have zz : z_ar (z_sfi (z_sar (z_sfi M 514 m v) (n + 7) TL.length (some m)) 1281 (n + 6) (z_fi M 1281 (n + 6) + 1)) (n + 7) TL.length = some m := by rw [zq_ar_sfi, zq_ar_sar, if_pos rfl, if_pos rfl]
  have S2 : y_S n (z_sfi (z_sar (z_sfi M 514 m v) (n + 7) TL.length (some m)) 1281 (n + 6) (z_fi M 1281 (n + 6) + 1)) := S_sfi (S_sar (by omega) (S_sfi S))
  have ja2 : ∀ a j, z_ai (z_sfi (z_sar (z_sfi M 514 m v) (n + 7) TL.length (some m)) 1281 (n + 6) (z_fi M 1281 (n + 6) + 1)) a j = z_ai M a j := fun _ _ => rfl
  have fr2 : ∀ g a, z_fr (z_sfi (z_sar (z_sfi M 514 m v) (n + 7) TL.length (some m)) 1281 (n + 6) (z_fi M 1281 (n + 6) + 1)) g a = z_fr M g a := fun _ _ => rfl
  have sz2 : z_sz (z_sfi (z_sar (z_sfi M 514 m v) (n + 7) TL.length (some m)) 1281 (n + 6) (z_fi M 1281 (n + 6) + 1)) = z_sz M := rfl
  generalize (z_sfi (z_sar (z_sfi M 514 m v) (n + 7) TL.length (some m)) 1281 (n + 6) (z_fi M 1281 (n + 6) + 1)) = M' at *
  have e38 : z_ar M' (n + 38) = z_ar M (n + 38) := zn (by omega)
  have e6 : r'.1 1606 = r.1 1606 := w1 (by decide)
  have kS : ∀ {m' : Nat} {sI i : Int32}, j_kS n M r m' sI i → j_kS n M' r' m' sI i := fun h => by
    unfold j_kS at h ⊢
    rw [fi2 (by decide) (by decide), fi2 (by decide) (by decide), fi2 (by decide) (by decide), fr2, e6, e38]; exact h
  have mS : ∀ {m' k : Nat}, j_mS n M r m' k → j_mS n M' r' m' k := fun h => ⟨h.1, by rw [sz2]; exact h.2.1, by rw [fi2 (by decide) (by decide), w5 (by decide) (by decide)]; exact h.2.2.1, by rw [w5 (by decide) (by decide), w5 (by decide) (by decide)]; exact kS h.2.2.2⟩
  have t6 : ∀ {k : Nat}, k < A → k ≠ A := fun h => by omega
  refine ⟨S2, js1.congr (fun t ht => fi (by revert ht; revert t; decide) (by revert ht; revert t; decide)) (fun _ _ => rfl), ja.congr (fun _ _ _ _ => ja2 _ _) (fun t ht => w5 (by revert ht; revert t; decide) (by revert ht; revert t; decide)), X.congr (fun q hq => fi (by revert hq; revert q; decide) (by revert hq; revert q; decide)) (fun g hg => w1 (by revert hg; revert g; decide)) (fun x hx => w5 (by revert hx; revert x; decide) (by revert hx; revert x; decide)), fun i hi => ?_, fun p1 hp1 => ?_, ⟨?_, ?_, fun k hk => ?_, fun j k e => ?_⟩, ⟨(fi (by decide) (by omega)).trans C.1, C.2.1, by rw [w1 (by decide)]; exact C.2.2.1, by rw [w1 (by decide), w5 (by decide) (by decide)]; exact C.2.2.2.1, fun j k e => ?_⟩⟩
  · rw [e6] at hi
    obtain ⟨pk, b1, b2, b3, b4, b5⟩ := P i hi
    exact ⟨pk, by rw [e38]; exact b1, b2, by rw [sz2]; exact b3, (fi2 (by decide) (by decide)).trans b4, fun t ht => by rw [fi2 (by revert ht; revert t; decide) (by revert ht; revert t; decide), w5 (by revert ht; revert t; decide) (by revert ht; revert t; decide)]; exact b5 t ht⟩
  · obtain ⟨b1, b2, b3, b4⟩ := Q p1 hp1
    have z3 : z_ar M' (n + (3 + 2 * p1)) = z_ar M (n + (3 + 2 * p1)) := zn (by omega)
    refine ⟨by rw [fi2 (by decide) (by decide)]; exact b1, by rw [fi2 (by decide) (by decide)]; exact b2, fun k hk => ?_, fun k1 k2 m1 m2 a b c d' => ?_⟩
    · rw [w5 (by decide) (by decide)] at hk
      obtain ⟨m', e, h⟩ := b3 k hk
      have hne := hq p1 k m' hp1 hk e
      refine ⟨m', by rw [z3, fi2 (by decide) (by decide)]; exact e, ?_⟩
      rw [w5 (by decide) (by decide)]
      rcases h with h | ⟨th', g1, g2, g3, g4, g5, g6⟩
      · exact Or.inl h
      · exact Or.inr ⟨th', g1, by rw [w1 (by decide)]; exact g2, g3, by rw [w5 (by decide) (by decide)]; exact g4, mS g5, by rw [fd hne]; exact g6⟩
    · rw [w5 (by decide) (by decide)] at b
      rw [z3, fi2 (by decide) (by decide)] at c d'
      exact b4 k1 k2 m1 m2 a b c d'
  · rw [fl, T.1, List.length_append, jI_1, jI_add (by show TL.length + 1 < 2147483648; omega)]; rfl
  · rw [List.length_append]; show TL.length + 1 ≤ 1024; omega
  · rw [y1, jN_add1 h0 (by omega), hA]
    rcases List.mem_append.mp hk with h | h
    · have := T.2.2.1 k h
      omega
    · have := List.mem_singleton.mp h
      omega
  · by_cases hj : j < TL.length
    · rw [List.getElem?_append_left hj] at e
      obtain ⟨m', g1, g2, g3, g4, g5⟩ := T.2.2.2 j k e
      have hk' := T.2.2.1 k (List.mem_of_getElem? e)
      have hne : m' ≠ m := fun h => by
        rw [h, h4] at g2
        rw [← g2] at g3
        exact absurd g3 (by decide)
      have hA' : k ≠ A := by omega
      refine ⟨m', by rw [ze (by omega)]; exact g1, by rw [fd hne, wi hA']; exact g2, by rw [wi hA']; exact g3, by rw [wi hA', w1 (by decide)]; exact g4, by rw [wi hA']; exact mS g5⟩
    · rw [List.getElem?_append_right (by omega)] at e
      have hj2 : j - TL.length = 0 := by
        by_cases h : j - TL.length = 0
        · exact h
        · rw [List.getElem?_eq_none (by show 1 ≤ _; omega)] at e
          exact absurd e (by simp)
      rw [hj2] at e
      have hk' : k = A := (Option.some.inj e).symm
      subst hk'
      have : j = TL.length := by omega
      subst this
      refine ⟨m, zz, by rw [fm, x56], by rw [x56]; exact hv, by rw [x55, jN_nI (by omega), w1 (by decide)]; exact hth, ?_⟩
      rw [x55, jN_nI (by omega)]
      exact mS hm
  · obtain ⟨m', g1, b1, b2, b3, b4, b5⟩ := C.2.2.2.2 j k e
    have hne : m' ≠ m := fun h => by
      rw [h] at b5
      rcases hm.2.2.2 with c | c | c | c <;> rcases b5 with b | b | b | b | b <;> (have q1 := c.2.1; have q2 := b.2.1; rw [q1] at q2; exact absurd q2 (by decide))
    refine ⟨m', by rw [zn (by omega)]; exact g1, b1, by rw [sz2]; exact b2, by rw [fi2 (by decide) (by decide), w5 (by decide) (by decide)]; exact b3, by rw [fd hne, w5 (by decide) (by decide)]; exact b4, ?_⟩
    rw [w5 (by decide) (by decide), w5 (by decide) (by decide)]
    unfold j_kC j_ack at b5 ⊢
    rw [fi2 (by decide) (by decide), fi2 (by decide) (by decide), fr2, w1 (by decide), sz2]
    have q3 : ∀ b, z_fi M' 3 b = z_fi M 3 b := fun _ => fi2 (by decide) (by decide)
    have q4 : ∀ b, z_fi M' 4 b = z_fi M 4 b := fun _ => fi2 (by decide) (by decide)
    have q5 : ∀ b, z_fi M' 5 b = z_fi M 5 b := fun _ => fi2 (by decide) (by decide)
    have q6 : r'.2 61 = r.2 61 := w5 (by decide) (by decide)
    simp only [q3, q4, q5, q6, fr2, ja2]
    exact b5
end JLV
