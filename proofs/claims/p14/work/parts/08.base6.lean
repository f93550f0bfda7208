/-! ===== more rows ===== -/
theorem z_trn {M : z_Mem} {r : Option Nat} {a k : Nat} (e : r = some a) (h : z_ki M a = k) : z_tr M r k := fun b hb => by
  rw [e] at hb
  cases hb
  exact h
theorem z_tr0 {M : z_Mem} {k : Nat} : z_tr M none k := fun _ h => nomatch h
section ZM9
variable {G : z_G} {Y : z_Y} {X : z_X} {M0 M : z_Mem} {Q : z_Q} {pc : Nat} {lv : List (Nat × z_L)} {st : List z_L}
theorem z_iincL {i j : Nat} {n : Int} {x m : Int32} {lv' : List (Nat × z_L)} (d : decode Y.2.1 pc = .ok (.iinc i n, 3)) (hj : lv[j]? = some (i, z_I x)) (hm : Int32.ofInt n = m) (hn : i < Y.2.2.1) (hs : z_st lv i (z_I (x + m)) = lv') (k : z_V G Y X M0 Q M (pc + 3) lv' st) : z_V G Y X M0 Q M pc lv st :=
  z_iinc d hj (by rw [hm]) hn hs k
theorem z_sw {dflt lo hi : Int} {offs : Array Int} {len tD : Nat} {x : Int32} (n : Nat) (ts : List Nat) (h0 : lo = 0 ∧ hi + 1 = (n : Int) ∧ 0 < n ∧ n < 1000) (hoffs : offs.toList.map (fun o => (pc : Int) + o) = ts.map (fun t : Nat => (t : Int)) ∧ ts.length = n) (hD : (pc : Int) + dflt = (tD : Int)) (d : decode Y.2.1 pc = .ok (.tableswitch dflt lo hi offs, len))
    (kt : ∀ k, k < n → ∀ tg, ts[k]? = some tg → x = nI k → z_V G Y X M0 Q M tg lv st) (kd : (x < 0 ∨ nI (n - 1) < x) → z_V G Y X M0 Q M tD lv st) : z_V G Y X M0 Q M pc lv (z_I x :: st) := by
  obtain ⟨rfl, h2, h3, h4⟩ := h0
  obtain ⟨h5, h6⟩ := hoffs
  have hx : ∀ m : Nat, m < 1000 → (nI m).toInt = (m : Int) := fun m hm => nI_toInt (by omega)
  by_cases c1 : x.toInt < 0
  · refine z_tout d (Or.inl c1) hD (kd (Or.inl (Int32.lt_iff_toInt_lt.mpr ?_)))
    simpa using c1
  · by_cases c2 : hi < x.toInt
    · refine z_tout d (Or.inr c2) hD (kd (Or.inr (Int32.lt_iff_toInt_lt.mpr ?_)))
      rw [hx (n - 1) (by omega)]
      omega
    · have hk : x.toInt.toNat < n := by omega
      have hxk : x = nI x.toInt.toNat := Int32.toInt_inj.mp (by rw [hx _ (by omega)]; omega)
      have ht : ts[x.toInt.toNat]? = some (ts[x.toInt.toNat]'(by omega)) := List.getElem?_eq_getElem (by omega)
      have hl : (offs.toList.map (fun o => (pc : Int) + o))[x.toInt.toNat]? = (ts.map (fun t : Nat => (t : Int)))[x.toInt.toNat]? := by rw [h5]
      rw [List.getElem?_map, List.getElem?_map, ht] at hl
      cases ho : offs.toList[x.toInt.toNat]? with
      | none => rw [ho] at hl; cases hl
      | some o =>
        rw [ho] at hl
        have hl : (pc : Int) + o = ((ts[x.toInt.toNat]'(by omega) : Nat) : Int) := by injection hl
        refine z_tin d c1 c2 (off := o) ?_ hl (kt _ hk _ ht hxk)
        rw [Int.sub_zero]
        rw [← Array.getElem?_toList]
        exact ho
end ZM9
/-! ===== naming ===== -/
theorem z_trk {M M1 : z_Mem} {r : Option Nat} {k : Nat} (h : z_ki M1 = z_ki M) (f : z_tr M r k) : z_tr M1 r k := fun b hb => by rw [h]; exact f b hb
theorem z_kk {M M1 : z_Mem} {a k : Nat} (h : z_ki M1 = z_ki M) (f : z_ki M a = k) : z_ki M1 a = k := by rw [h]; exact f
theorem z_bt {x e : Int32} (h : x = e) (b : e = 0 ∨ e = 1) : x = 0 ∨ x = 1 := by rw [h]; exact b
theorem z_k1 {M M1 : z_Mem} {g a : Nat} {v : Int32} (h : M1 = z_sfi M g a v) : z_ki M1 = z_ki M := by rw [h]; rfl
theorem z_k2 {M M1 : z_Mem} {g a : Nat} {v : Option Nat} (h : M1 = z_sfr M g a v) : z_ki M1 = z_ki M := by rw [h]; rfl
theorem z_k3 {M M1 : z_Mem} {a j : Nat} {v : Int32} (h : M1 = z_sai M a j v) : z_ki M1 = z_ki M := by rw [h]; rfl
theorem z_k4 {M M1 : z_Mem} {a j : Nat} {v : Option Nat} (h : M1 = z_sar M a j v) : z_ki M1 = z_ki M := by rw [h]; rfl
theorem z_k5 {M M1 : z_Mem} {a j : Nat} {v : Int64} (h : M1 = z_sal M a j v) : z_ki M1 = z_ki M := by rw [h]; rfl
theorem z_k6 {M M1 : z_Mem} {a : Nat} {f : Nat → Option Nat} (h : M1 = z_srr M a f) : z_ki M1 = z_ki M := by rw [h]; rfl
theorem z_xe {M M1 M2 : z_Mem} (h : M1 = M2) (x : z_Ext M M2) : z_Ext M M1 := by rw [h]; exact x
theorem z_xk {M1 M2 : z_Mem} {a k : Nat} (h : M1 = M2) (x : z_ki M2 a = k) : z_ki M1 a = k := by rw [h]; exact x
section ZM8
variable {G : z_G} {Y : z_Y} {X : z_X} {M0 M : z_Mem} {Q : z_Q} {pc : Nat} {lv : List (Nat × z_L)} {st : List z_L}
theorem z_nm (k : ∀ M1 : z_Mem, M1 = M → z_V G Y X M0 Q M1 pc lv st) : z_V G Y X M0 Q M pc lv st := k M rfl
theorem z_pc {pc' : Nat} (h : pc = pc') (k : z_V G Y X M0 Q M pc' lv st) : z_V G Y X M0 Q M pc lv st := by rw [h]; exact k
theorem z_topi {e : Int32} (k : ∀ x : Int32, x = e → z_V G Y X M0 Q M pc lv (z_I x :: st)) : z_V G Y X M0 Q M pc lv (z_I e :: st) := k e rfl
theorem z_topl {e : Int64} (k : ∀ x : Int64, x = e → z_V G Y X M0 Q M pc lv (z_J x :: st)) : z_V G Y X M0 Q M pc lv (z_J e :: st) := k e rfl
theorem z_iincN {i j : Nat} {n : Int} {x m : Int32} {lv' : Int32 → List (Nat × z_L)} (d : decode Y.2.1 pc = .ok (.iinc i n, 3)) (hj : lv[j]? = some (i, z_I x)) (hm : Int32.ofInt n = m) (hn : i < Y.2.2.1) (hs : ∀ v, z_st lv i (z_I v) = lv' v) (k : ∀ v : Int32, v = x + m → z_V G Y X M0 Q M (pc + 3) (lv' v) st) : z_V G Y X M0 Q M pc lv st :=
  z_iinc d hj (by rw [hm]) hn (hs (x + m)) (k _ rfl)
end ZM8
