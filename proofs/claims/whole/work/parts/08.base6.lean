/-! ===== more rows ===== -/
theorem z_trn {M : z_Mem} {r : Option Nat} {a k : Nat} (e : r = some a) (h : z_ki M a = k) : z_tr M r k := fun b hb => by
  rw [e] at hb
  cases hb
  exact h
theorem z_tr0 {M : z_Mem} {k : Nat} : z_tr M none k := fun _ h => nomatch h
section ZM9
variable {G : z_G} {Y : z_Y} {X : z_X} {M0 M : z_Mem} {Q : z_Q} {pc : Nat} {lv : List (Nat × z_L)} {st : List z_L}
theorem z_iincL {i j : Nat} {n : Int} {x m : Int32} {lv' : List (Nat × z_L)} (d : decode Y.2.1 pc = .ok (.iinc i n, 3)) (hj : lv[j]? = some (i, z_I x)) (hm : Int32.ofInt n = m) (hn : i < Y.2.2.1) (hs : z_st lv i (z_I (x + m)) = lv') (k : z_V G Y X M0 Q M (pc + 3) lv' st) : z_V G Y X M0 Q M pc lv st :=
  z_iinc d hj (by rw [hm]) hn hs k
theorem z_sw {dflt lo hi : Int} {offs : Array Int} {len tD : Nat} {x : Int32} (n : Nat) (ts : List Nat) (h0 : lo = 0 ∧ hi + 1 = (n : Int) ∧ 0 < n ∧ n < 1000) (hoffs : offs.toList.map (fun o => (pc : Int) + o) = ts.map (fun t : Nat => (t : Int)) ∧ ts.length = n) (hD : (pc : Int) + dflt = (tD : Int)) (d : decode Y.2.1 pc = .ok (.tableswitch dflt lo hi offs, len))
    (kt : ∀ k, k < n → ∀ tg, ts[k]? = some tg → x = nI k → z_V G Y X M0 Q M tg lv st) (kd : (x < 0 ∨ nI (n - 1) < x) → z_V G Y X M0 Q M tD lv st) : z_V G Y X M0 Q M pc lv (z_I x :: st) := by
  obtain ⟨rfl, h2, h3, h4⟩ := h0
  obtain ⟨h5, h6⟩ := hoffs
  have hx : ∀ m : Nat, m < 1000 → (nI m).toInt = (m : Int) := fun m hm => nI_toInt (by omega)
  by_cases c1 : x.toInt < 0
  · refine z_tout d (Or.inl c1) hD (kd (Or.inl (Int32.lt_iff_toInt_lt.mpr ?_)))
    simpa using c1
  · by_cases c2 : hi < x.toInt
    · refine z_tout d (Or.inr c2) hD (kd (Or.inr (Int32.lt_iff_toInt_lt.mpr ?_)))
      rw [hx (n - 1) (by omega)]
      omega
    · have hk : x.toInt.toNat < n := by omega
      have hxk : x = nI x.toInt.toNat := Int32.toInt_inj.mp (by rw [hx _ (by omega)]; omega)
      have ht : ts[x.toInt.toNat]? = some (ts[x.toInt.toNat]'(by omega)) := List.getElem?_eq_getElem (by omega)
      have hl : (offs.toList.map (fun o => (pc : Int) + o))[x.toInt.toNat]? = (ts.map (fun t : Nat => (t : Int)))[x.toInt.toNat]? := by rw [h5]
      rw [List.getElem?_map, List.getElem?_map, ht] at hl
      cases ho : offs.toList[x.toInt.toNat]? with
      | none => rw [ho] at hl; cases hl
      | some o =>
        rw [ho] at hl
        have hl : (pc : Int) + o = ((ts[x.toInt.toNat]'(by omega) : Nat) : Int) := by injection hl
        refine z_tin d c1 c2 (off := o) ?_ hl (kt _ hk _ ht hxk)
        rw [Int.sub_zero]
        rw [← Array.getElem?_toList]
        exact ho
end ZM9
