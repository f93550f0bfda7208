/-! ===== THE LIKENESS: a window grows (path 0; its cube stands behind) ===== -/
section JGR
variable {n : Nat} {M M0 M1 M2 : z_Mem} {r r1 : q_R} {TL CL : List Nat} {t s q z : Nat} {d : Int} {f g : Nat → Int32}
theorem j_keep (J : JJ n M r TL CL) {v : Int32} (h0 : 0 ≤ (r.2 99 0).toInt) (h1 : (r.2 99 0).toInt < 1000000) : JJ n (cF_X2_keepRate (n + 33) v M) (ua (ua r 98 (r.2 99 0 - r.2 99 0 / 8 * 8).toNatClampNeg v) 99 0 (r.2 99 0 + 1)) TL CL := by
  have e8 : z_fi M 266 (n + 33) = r.2 99 0 - r.2 99 0 / 8 * 8 := J.2.2.2.1.2.2.2.2.2.2.2.1 0 (by decide)
  rw [cE_X2_keepRate, s_265_33 J.1, e8]
  refine JJ.st (fun a3 e3 => ?_)
  replace e3 : a3 = n + 34 := e3
  subst e3
  refine JJ.st (fun M5 e5 => JJ.st (fun M7 e7 => ?_))
  have k1 := i_modE8 rfl h0
  have k2 : (r.2 99 0 - r.2 99 0 / 8 * 8).toNatClampNeg < 8 := i_natlt (by rw [k1]; omega) (by rw [k1]; omega)
  refine J.rate k2 h0 h1 ?_
  rw [e7, e5]
  rfl
def jmx (f : Nat → Int32) : Nat → Nat → Int32 → Int32
  | 0, _, a => a
  | m + 1, k, a => jmx f m (k + 1) (if a < f k then f k else a)
theorem jmx_congr : ∀ (m k : Nat) (a : Int32), (∀ i, i < k + m → f i = g i) → jmx f m k a = jmx g m k a := by
  intro m
  induction m with
  | zero => intro k a _; rfl
  | succ m ih => intro k a h; rw [jmx, jmx, h k (by omega)]; exact ih _ _ (fun i hi => h i (by omega))
theorem c_gr13 : ∀ (m k : Nat) (a : Int32), k + m = 8 → cF_X2_greatestRate_13 (n + 33) a (some (n + 34)) (nI 8) (nI k) M = (jmx (z_ai M (n + 34)) m k a, M) := by
  intro m
  induction m with
  | zero =>
    intro k a h
    have hk : k = 8 := by omega
    subst hk
    have hB := cE_X2_greatestRate_13 (n + 33) a (some (n + 34)) (nI 8) (nI 8) M
    rw [if_pos (by decide)] at hB
    exact cUr_X2_greatestRate_13 hB
  | succ m ih =>
    intro k a h
    have hB := cE_X2_greatestRate_13 (n + 33) a (some (n + 34)) (nI 8) (nI k) M
    have hk : ¬ nI 8 ≤ nI k := fun e => by rw [jI_le (by omega) (by omega)] at e; omega
    rw [if_neg hk, jI_N (by omega : k < 2147483648)] at hB
    replace hB := hB.trans (q_ste (b := n + 34) rfl)
    replace hB := hB.trans (q_ste (b := z_ai M (n + 34) k) rfl)
    replace hB := hB.trans (q_ste (b := if a < z_ai M (n + 34) k then z_ai M (n + 34) k else a) rfl)
    replace hB := hB.trans (q_ste (b := nI (k + 1)) (by rw [jI_1, jI_add (by omega)]))
    rw [cUl_X2_greatestRate_13 hB, ih (k + 1) _ (by omega)]
    rfl
theorem c_great (S : y_S n M) : cF_X2_greatestRate (n + 33) M = (jmx (z_ai M (n + 34)) 8 0 0, M) := by
  have hB := cE_X2_greatestRate (n + 33) M
  rw [s_265_33 S] at hB
  replace hB := hB.trans (q_ste (b := n + 34) rfl)
  rw [s_l34 S] at hB
  replace hB := hB.trans (q_ste (b := nI 8) rfl)
  exact hB.trans (c_gr13 8 0 0 rfl)
theorem q_gr96 : ∀ (m k : Nat) (a : Int32), k + m = 8 → qF_grows_96 0 a (nI k) r = ua r 84 0 (if 64 < 2 * jmx (r.2 98) m k a * r.2 89 0 then 2 * jmx (r.2 98) m k a * r.2 89 0 else 64) := by
  have e0 : (0 : Int32).toNatClampNeg = 0 := rfl
  intro m
  induction m with
  | zero =>
    intro k a h
    have hk : k = 8 := by omega
    subst hk
    have hB := qE_grows_96 0 a (nI 8) r
    rw [if_pos (by decide), e0, q_maxe] at hB
    exact qUr_grows_96 hB
  | succ m ih =>
    intro k a h
    have hB := qE_grows_96 0 a (nI k) r
    have hk : ¬ (8 : Int32) ≤ nI k := fun e => by rw [show (8 : Int32) = nI 8 from rfl, jI_le (by omega) (by omega)] at e; omega
    have ei : ((8 * 0 + nI k : Int32)).toNatClampNeg = k := by rw [show (8 * 0 : Int32) = 0 from rfl, Int32.zero_add]; exact jI_N (by omega)
    rw [if_neg hk, ei, q_maxe] at hB
    replace hB := hB.trans (q_ste2 (a := if a < r.2 98 k then r.2 98 k else a) (b := r) rfl)
    replace hB := hB.trans (q_ste (b := nI (k + 1)) (by rw [jI_1, jI_add (by omega)]))
    rw [qUl_grows_96 hB, ih (k + 1) _ (by omega)]
    rfl
end JGR
