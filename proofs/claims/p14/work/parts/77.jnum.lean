/-! ===== THE LIKENESS: numbers, reads of cells, what queues hold ===== -/
theorem jI_t {k : Nat} (h : k < 2147483648) : (nI k).toInt = (k : Int) := by
  unfold nI; rw [Int32.toInt_ofNat_of_lt (by omega)]
theorem jN_toInt {x : Int32} (h : 0 ≤ x.toInt) : (jN x : Int) = x.toInt := i_nat2 h
theorem jN_nI {k : Nat} (h : k < 2147483648) : jN (nI k) = k := i_nat (jI_t h)
theorem jI_jN {x : Int32} (h : 0 ≤ x.toInt) : nI (jN x) = x := by
  have := jN_toInt h
  have := Int32.toInt_lt x
  exact Int32.toInt_inj.mp (by rw [jI_t (by omega)]; omega)
theorem jI_inj {a b : Nat} (ha : a < 2147483648) (hb : b < 2147483648) (h : nI a = nI b) : a = b := by rw [← jN_nI ha, ← jN_nI hb, h]
theorem jN_of {x : Int32} {k : Nat} (h : x.toInt = k) : jN x = k := i_nat h
theorem jI_of {x : Int32} {k : Nat} (h : x.toInt = k) : x = nI k := by
  have := Int32.toInt_lt x
  exact Int32.toInt_inj.mp (by rw [jI_t (by omega)]; exact h)
theorem jI_add {a b : Nat} (h : a + b < 2147483648) : nI a + nI b = nI (a + b) := by
  refine Int32.toInt_inj.mp ?_
  rw [i_addE (jI_t (by omega)) (jI_t (by omega)) (by omega) (by omega), jI_t h]; omega
theorem jI_1 : (1 : Int32) = nI 1 := rfl
theorem jI_0 : (0 : Int32) = nI 0 := rfl
theorem jN_add {x y : Int32} (h0 : 0 ≤ x.toInt) (h1 : 0 ≤ y.toInt) (h2 : x.toInt + y.toInt < 2147483648) : jN (x + y) = jN x + jN y := by
  have e : (x + y).toInt = x.toInt + y.toInt := i_addE rfl rfl (by omega) h2
  have a := jN_toInt h0
  have b := jN_toInt h1
  exact jN_of (by omega)
theorem jN_add1 {x : Int32} (h0 : 0 ≤ x.toInt) (h2 : x.toInt < 2147483647) : jN (x + 1) = jN x + 1 := jN_add h0 (by decide) (by rw [show (1 : Int32).toInt = 1 from rfl]; omega)
theorem jN_sub1 {x : Int32} (h0 : 0 < x.toInt) : jN (x - 1) + 1 = jN x := by
  have e : (x - 1).toInt = x.toInt - 1 := i_subE rfl (show (1 : Int32).toInt = 1 from rfl) (by omega) (by have := Int32.toInt_lt x; omega)
  have a := jN_toInt (x := x) (by omega)
  have b := jN_toInt (x := x - 1) (by omega)
  omega
theorem i_modE30 {x : Int32} {a : Int} (hx : x.toInt = a) (h0 : 0 ≤ a) : (x - x / 30 * 30).toInt = a % 30 := by
  have hl := Int32.toInt_lt x
  have ed : (x / 30).toInt = a / 30 := i_divE hx (show (30 : Int32).toInt = 30 from rfl) h0 (by omega)
  have em : (x / 30 * 30).toInt = a / 30 * 30 := i_mulE ed (show (30 : Int32).toInt = 30 from rfl) (by omega) (by omega)
  rw [i_subE hx em (by omega) (by omega)]; omega
theorem j_ring {h l : Int32} (h0 : 0 ≤ h.toInt) (h1 : h.toInt < 30) (l0 : 0 ≤ l.toInt) (l1 : l.toInt ≤ 30) : jN (h + l - (h + l) / 30 * 30) = (jN h + jN l) % 30 := by
  have a := jN_toInt h0
  have b := jN_toInt l0
  have e : (h + l).toInt = ((jN h + jN l : Nat) : Int) := by rw [i_addE rfl rfl (by omega) (by omega)]; omega
  exact jN_of (by rw [i_modE30 e (by omega)]; omega)
theorem uf1 {r : q_R} {g k : Nat} {v : Int32} : (uf r g v).1 k = if k = g then v else r.1 k := rfl
theorem uf2 {r : q_R} {g : Nat} {v : Int32} : (uf r g v).2 = r.2 := rfl
theorem ua1 {r : q_R} {x j : Nat} {v : Int32} : (ua r x j v).1 = r.1 := rfl
theorem ua2 {r : q_R} {x j y i : Nat} {v : Int32} : (ua r x j v).2 y i = if y = x then (if i = j then v else r.2 y i) else r.2 y i := rfl
theorem ua_n {r : q_R} {x j y : Nat} {v : Int32} (h : y ≠ x) : (ua r x j v).2 y = r.2 y := funext fun i => if_neg h
theorem ua_i {r : q_R} {x j i : Nat} {v : Int32} (h : i ≠ j) : (ua r x j v).2 x i = r.2 x i := by rw [ua2, if_pos rfl, if_neg h]
theorem ua_e {r : q_R} {x j : Nat} {v : Int32} : (ua r x j v).2 x j = v := by rw [ua2, if_pos rfl, if_pos rfl]
theorem uf_e {r : q_R} {g : Nat} {v : Int32} : (uf r g v).1 g = v := if_pos rfl
theorem uf_n {r : q_R} {g k : Nat} {v : Int32} (h : k ≠ g) : (uf r g v).1 k = r.1 k := if_neg h
theorem ua_comm {r : q_R} {x j y i : Nat} {v w : Int32} (h : x ≠ y) : ua (ua r x j v) y i w = ua (ua r y i w) x j v := by
  refine Prod.ext rfl (funext fun k => funext fun l => ?_)
  simp only [ua2]
  by_cases h1 : k = y
  · have h2 : ¬ k = x := fun e => h (e.symm.trans h1)
    rw [if_pos h1, if_neg h2, if_neg h2, if_pos h1]
  · rw [if_neg h1, if_neg h1]
theorem ua_uf {r : q_R} {x j g : Nat} {v w : Int32} : ua (uf r g w) x j v = uf (ua r x j v) g w := rfl
theorem uf_comm {r : q_R} {g k : Nat} {v w : Int32} (h : g ≠ k) : uf (uf r g v) k w = uf (uf r k w) g v := by
  refine Prod.ext (funext fun l => ?_) rfl
  simp only [uf1]
  by_cases h1 : l = k
  · have h2 : ¬ l = g := fun e => h (e.symm.trans h1)
    rw [if_pos h1, if_neg h2, if_pos h1]
  · rw [if_neg h1, if_neg h1]
section RI
variable {t s q z : Nat} {r : q_R}
theorem ri_A (I : rf_I t s q z r.1 r.2) {x : Nat} {lo hi : Int} (h : (x, lo, hi) ∈ rf_RA) (j : Nat) : lo ≤ (r.2 x j).toInt ∧ (r.2 x j).toInt ≤ hi := I.1 _ h j
theorem ri_F (I : rf_I t s q z r.1 r.2) {g : Nat} {lo hi : Int} (h : (g, lo, hi) ∈ rf_RF) : lo ≤ (r.1 g).toInt ∧ (r.1 g).toInt ≤ hi := I.2.1 _ h
end RI
section JZ
variable {n : Nat} {M M1 : z_Mem} {r r1 : q_R} {TL CL : List Nat}
/-- all that lies in a queue lies below m -/
def j_qb (n : Nat) (M : z_Mem) (r : q_R) (m : Nat) : Prop := ∀ p k q, p < 2 → k < jN (r.2 51 p) → z_ar M (n + (3 + 2 * p)) ((jN (z_fi M 394 (n + (2 + 2 * p))) + k) % 30) = some q → q < m
theorem JJ.qb (J : JJ n M r TL CL) : j_qb n M r (z_sz M) := fun p k q hp hk e => by
  obtain ⟨-, -, h3, -⟩ := J.2.2.2.2.2.1 p hp
  have hz := J.1.2.2.2
  obtain ⟨m, e1, h⟩ := h3 k hk
  rw [e] at e1
  cases e1
  rcases h with ⟨-, h⟩ | ⟨th, -, -, -, -, h, -⟩
  · omega
  · exact h.2.1
theorem qC_puts_111 (p s i : Int32) (r : q_R) : qF_puts_111 p s i r = uf (ua (ua (ua (ua (ua r 52 (jN (r.1 1551)) s) 53 (jN (r.1 1551)) i) 54 (jN (r.1 1551)) p) 50 (jN (30 * p + r.2 51 (jN p))) (r.1 1551)) 51 (jN p) (r.2 51 (jN p) + 1)) 1551 (r.1 1551 + 1) := rfl
end JZ
