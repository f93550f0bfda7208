/-! ===== p1: the clause of tick ===== -/
theorem k_sendI {n : Nat} {M : z_Mem} {v : Int32} (h : y_B n M y_m58 600002 108 7302232 89908 108) (hS : y_S n M) {K : z_Mem → Prop} : P_X1_sendData (n + 31) (z_sfi M 645 (n + 1) v) K = K (z_sfi M 645 (n + 1) v) := by
  rw [k_send h hS]
  have e1 : z_sfi (z_sfi M 645 (n + 1) v) 909 (n + 32) 0 = z_sfi M 645 (n + 1) v := z_sfi_id (by simp only [zq_fi_sfi, h.1.2.2.1, y_i909_32, ↓reduceIte, Nat.reduceEqDiff])
  rw [e1]
  have e2 : z_sfi (z_sfi M 645 (n + 1) v) 909 (n + 35) 0 = z_sfi M 645 (n + 1) v := z_sfi_id (by simp only [zq_fi_sfi, h.1.2.2.1, y_i909_35, ↓reduceIte, Nat.reduceEqDiff])
  rw [e2]
theorem k_tloop {n : Nat} {M : z_Mem} (h : y_B n M y_m58 600002 108 7302232 89908 108) (hS : y_S n M) {Post : Int32 → z_Mem → Prop} {PX : String → z_Mem → Prop} {t : Int32} (ht : t.toInt ≤ 50) (hp : Post t (z_sfi M 645 (n + 1) t)) :
    ∀ (d i : Nat) (x : Int32), x.toInt = i → i + d = t.toInt → P_X11_tick_32 (n + 0) Post PX (d + 1) t x (z_sfi M 645 (n + 1) x) := by
  intro d
  induction d with
  | zero =>
    intro i x hx hi
    have e : x = t := Int32.toInt_inj.mp (by omega)
    subst e
    refine ⟨fun _ => z_nn_of (s_1408_0 (S_sfi hS)) ?_, fun q => absurd (Int32.le_refl x) q⟩
    rw [show z_fi (z_sfi M 645 (n + 1) x) 645 (n + 1) = x from by rw [zq_fi_sfi, if_pos rfl, if_pos rfl]]
    exact hp
  | succ d ih =>
    intro i x hx hi
    have hlt : ¬ t ≤ x := by rw [Int32.le_iff_toInt_le]; omega
    refine ⟨fun q => absurd q hlt, fun _ => z_nn_of (s_1408_0 (S_sfi hS)) ?_⟩
    intro M8 e8
    rw [z_sfi_sfi, show z_fi (z_sfi M 645 (n + 1) x) 645 (n + 1) = x from by rw [zq_fi_sfi, if_pos rfl, if_pos rfl]] at e8
    subst e8
    have S8 : y_S n (z_sfi M 645 (n + 1) (x + 1)) := S_sfi hS
    refine z_nn_of (s_1410_0 S8) ?_
    rw [k_hearS h hS]
    refine z_nn_of (s_1411_0 S8) ?_
    rw [k_hearC h hS]
    refine z_nn_of (s_1410_0 S8) ?_
    rw [k_ackT h hS]
    refine z_nn_of (s_1411_0 S8) ?_
    rw [k_look h hS]
    refine z_nn_of (s_1411_0 S8) ?_
    rw [k_sendI h hS]
    refine z_nn_of (s_1408_0 S8) ?_
    rw [k_leave h hS]
    intro y ey
    subst ey
    exact ih (i + 1) _ (i_succ hx (by omega)) (by omega)
abbrev k_R (n : Nat) (M : z_Mem) (t v : Int32) : z_Mem := z_sfi (z_sfi (z_sal (z_sfi M 645 (n + 1) t) (n + 107) 0 (t : Int32).toInt64) 1630 (n + 40) 0) 1536 (n + 40) v
theorem k_pass {n : Nat} {M : z_Mem} {t v : Int32} (h : y_B n M y_m58 600002 108 7302232 89908 108) (hS : y_S n M) {K : z_Mem → Prop} (hK : K (k_R n M t (v + 1))) : P_X12_passes (n + 40) (k_R n M t v) K := by
  intro M9 e9
  rw [z_sfi_sfi, show z_fi (k_R n M t v) 1536 (n + 40) = v from by rw [zq_fi_sfi, if_pos rfl, if_pos rfl]] at e9
  have e9 : M9 = k_R n M t (v + 1) := e9
  subst e9
  have f : ∀ g, g ≠ 1536 → g ≠ 1630 → g ≠ 645 → z_fi (k_R n M t (v + 1)) g (n + 40) = z_fi y_m58 g 40 := by
    intro g g1 g2 g3
    rw [zq_fi_sfi, if_neg g1, zq_fi_sfi, if_neg g2, zq_fi_sal, zq_fi_sfi, if_neg g3, h.1.2.2.1]
  rw [e_passes12 (by rw [f 1554 (by decide) (by decide) (by decide), y_i1554_40]; decide), e_passes56 (by rw [f 1559 (by decide) (by decide) (by decide), y_i1559_40]; decide) (by rw [f 1562 (by decide) (by decide) (by decide), y_i1562_40]; decide)]
  have k := k_passes (t := t) (v := v + 1) h hS (K := K)
  have k := Eq.mpr k
  refine k ?_
  have a : ∀ j x, z_ai (k_R n M t (v + 1)) (n + x) j = z_ai y_m58 x j := fun j x => h.1.2.2.2.2.1 x j
  have e1 : z_sfi (k_R n M t (v + 1)) 1577 (n + 40) 0 = k_R n M t (v + 1) := z_sfi_id (by rw [f 1577 (by decide) (by decide) (by decide), y_i1577_40])
  have e2 : z_sai (k_R n M t (v + 1)) (n + 105) 0 0 = k_R n M t (v + 1) := z_sai_id (by rw [a, y_a105_0])
  have e3 : z_sai (k_R n M t (v + 1)) (n + 105) 1 0 = k_R n M t (v + 1) := z_sai_id (by rw [a, y_a105_1])
  have e4 : z_sai (k_R n M t (v + 1)) (n + 51) 0 0 = k_R n M t (v + 1) := z_sai_id (by rw [a, y_a51_0])
  have e5 : z_sai (k_R n M t (v + 1)) (n + 51) 1 0 = k_R n M t (v + 1) := z_sai_id (by rw [a, y_a51_1])
  have g : z_sai (z_sai (z_sai (z_sai (z_sfi (k_R n M t (v + 1)) 1577 (n + 40) 0) (n + 105) 0 0) (n + 105) 1 0) (n + 51) 0 0) (n + 51) 1 0 = k_R n M t (v + 1) := by rw [e1, e2, e3, e4, e5]
  rw [g]
  exact hK
theorem k_rloop {n : Nat} {M : z_Mem} (h : y_B n M y_m58 600002 108 7302232 89908 108) (hS : y_S n M) {Post : Int32 → z_Mem → Prop} {t : Int32} (ht : t.toInt ≤ 50) (hp : Post t (k_R n M t t)) :
    ∀ (d i : Nat) (x : Int32), x.toInt = i → i + d = t.toInt → P_X12_tick_36 (n + 40) Post (d + 1) t x (k_R n M t x) := by
  intro d
  induction d with
  | zero =>
    intro i x hx hi
    have e : x = t := Int32.toInt_inj.mp (by omega)
    subst e
    refine ⟨fun _ => ?_, fun q => absurd (Int32.le_refl x) q⟩
    rw [show z_fi (k_R n M x x) 1536 (n + 40) = x from by rw [zq_fi_sfi, if_pos rfl, if_pos rfl]]
    exact hp
  | succ d ih =>
    intro i x hx hi
    have hlt : ¬ t ≤ x := by rw [Int32.le_iff_toInt_le]; omega
    refine ⟨fun q => absurd q hlt, fun _ => k_pass h hS ?_⟩
    intro y ey
    subst ey
    exact ih (i + 1) _ (i_succ hx (by omega)) (by omega)
theorem k_room {n : Nat} {M : z_Mem} (h : y_B n M y_m58 600002 108 7302232 89908 108) : z_room M 6 := y_rm h rfl rfl
theorem k_tloop0 {n : Nat} {M : z_Mem} (h : y_B n M y_m58 600002 108 7302232 89908 108) (hS : y_S n M) {Post : Int32 → z_Mem → Prop} {PX : String → z_Mem → Prop} {t : Int32} (f0 : z_fi M 645 (n + 1) = 0) (h1 : 1 ≤ t.toInt) (ht : t.toInt ≤ 50) (hp : Post t (z_sfi M 645 (n + 1) t)) : P_X11_tick_32 (n + 0) Post PX (t.toInt.toNat + 1) t 0 M := by
  have key := k_tloop (PX := PX) h hS ht hp t.toInt.toNat 0 0 rfl (by omega)
  rw [z_sfi_id f0] at key
  exact key
