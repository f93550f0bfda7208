/-! ===== p1: loops that end at once ===== -/
theorem z_nn_some {a : Nat} {K : Nat → Prop} : z_nn (some a) K = K a := propext ⟨fun ⟨_, e, k⟩ => by cases e; exact k, fun k => ⟨a, rfl, k⟩⟩
theorem y_ite {c A B : Prop} [Decidable c] : ((c → A) ∧ (¬ c → B)) = (if c then A else B) := by
  by_cases h : c <;> simp [h]
section YE
variable {n a b : Nat} {M : z_Mem} {Post : Int32 → z_Mem → Prop} {PX : String → z_Mem → Prop} {x1 x2 x3 x4 : Int32}
theorem e_inFlight (h : z_fi M 1606 a ≤ x3) : (∃ m, P_X12_inFlight_4 a Post m x1 x2 x3 M) = Post x2 M := by
  apply propext; constructor
  · rintro ⟨m, hm⟩
    cases m with
    | zero => exact hm.elim
    | succ m => exact hm.1 h
  · intro hp
    exact ⟨1, fun _ => hp, fun q => absurd h q⟩
theorem e_changeKey (h : z_fi M 1606 a ≤ x2) (hc : ¬ z_fi M 1577 a = 2) : (∃ m, P_X12_changeKey_4 a Post m x1 x2 M) = P_X12_changeKey_78 a Post (some a) M := by
  apply propext; constructor
  · rintro ⟨m, hm⟩
    cases m with
    | zero => exact hm.elim
    | succ m => exact (hm.1 h).2 hc
  · intro hp
    exact ⟨1, fun _ => ⟨fun q => absurd q hc, fun _ => hp⟩, fun q => absurd h q⟩
theorem e_canChange {Post : Int32 → z_Mem → Prop} (h : z_fi M 133 a ≤ x2) (hc : ¬ z_fi M 135 a = 2) : (∃ m, P_X1_canChangeKey_4 a Post m x1 x2 M) = Post 0 M := by
  apply propext; constructor
  · rintro ⟨m, hm⟩
    cases m with
    | zero => exact hm.elim
    | succ m => exact (hm.1 h).2 hc
  · intro hp
    exact ⟨1, fun _ => ⟨fun q => absurd q hc, fun _ => hp⟩, fun q => absurd h q⟩
theorem e_gotOf (h1 : z_fr M 1570 (n + 40) = some (n + 64)) (hl : z_ln M (n + 64) = 800) (hv : vp_in (200 * x1 + x2) 800) (hz : z_ai M (n + 64) ((200 * x1 + x2) : Int32).toNatClampNeg = 0) (hx : ¬ 200 ≤ x2) : (∃ m, P_X12_gotOf_2 (n + 40) Post m x1 x2 M) = Post x2 M := by
  apply propext; constructor
  · rintro ⟨m, hm⟩
    cases m with
    | zero => exact hm.elim
    | succ m =>
      obtain ⟨c, e, -, k⟩ := hm.2 hx
      rw [h1] at e; cases e
      exact k.1 hz
  · intro hp
    exact ⟨1, fun q => absurd q hx, fun _ => z_nn_of h1 ⟨by rw [hl]; exact hv, fun _ => hp, fun q => absurd hz q⟩⟩
theorem e_stream (h1 : z_fr M 1587 (n + 40) = some (n + 67)) (hl : z_ln M (n + 67) = 4) (hv : vp_in x1 4) (hs : z_ai M (n + 67) (x1 : Int32).toNatClampNeg ≤ x4) : (∃ m, P_X12_stream_26 (n + 40) Post m x1 x2 x3 x4 M) = ((x2 = 0 → z_nn (z_fr M 1586 (n + 40)) fun a26 => (vp_in x1 (z_ln M a26) ∧ (Post (z_ai M a26 ((x1 : Int32).toNatClampNeg)) M))) ∧ (¬ x2 = 0 → ((x2 = 1 → z_nn (z_fr M 1587 (n + 40)) fun a23 => (vp_in x1 (z_ln M a23) ∧ (Post (z_ai M a23 ((x1 : Int32).toNatClampNeg)) M))) ∧ (¬ x2 = 1 → ((4 ≤ x2 → ((x2 = 4 → z_nn (z_fr M 1588 (n + 40)) fun a20 => (vp_in x1 (z_ln M a20) ∧ (Post (z_ai M a20 ((x1 : Int32).toNatClampNeg)) M))) ∧ (¬ x2 = 4 → ((x2 = 5 → P_X12_gotOf (n + 40) x1 M fun x_18 M_18 => (Post x_18 M_18)) ∧ (¬ x2 = 5 → z_nn (z_fr M 1571 (n + 40)) fun a16 => (vp_in x1 (z_ln M a16) ∧ (Post (z_ai M a16 ((x1 : Int32).toNatClampNeg)) M))))))) ∧ (¬ 4 ≤ x2 → Post x3 M)))))) := by
  apply propext; constructor
  · rintro ⟨m, hm⟩
    cases m with
    | zero => exact hm.elim
    | succ m =>
      obtain ⟨c, e, -, k⟩ := hm
      rw [h1] at e; cases e
      exact k.1 hs
  · intro hp
    exact ⟨1, z_nn_of h1 ⟨by rw [hl]; exact hv, fun _ => hp, fun q => absurd hs q⟩⟩
theorem e_gotAnew (h : z_fi M 1606 a ≤ 0) : (∃ m, P_X12_gotAnew_19 a Post m x1 0 1 M) = Post 0 M := by
  apply propext; constructor
  · rintro ⟨m, hm⟩
    cases m with
    | zero => exact hm.elim
    | succ m =>
      obtain ⟨i, hi⟩ := (hm.2 (by decide)).2 (by decide)
      cases i with
      | zero => exact hi.elim
      | succ i =>
        have := (hi.1 h).1 rfl (0 + 0) rfl
        cases m with
        | zero => exact this.elim
        | succ m => exact this.1 rfl
  · intro hp
    refine ⟨2, fun q => absurd q (by decide), fun _ => ⟨fun q => absurd q (by decide), fun _ => ⟨1, fun _ => ⟨fun _ => ?_, fun q => absurd rfl q⟩, fun q => absurd h q⟩⟩⟩
    intro x hx
    subst hx
    exact ⟨fun _ => hp, fun q => absurd rfl q⟩
theorem e_inFlightAnew (h1 : z_fr M 1411 (n + 0) = some (n + 31)) (h : z_fi M 133 (n + 31) ≤ x3) : (∃ m, P_X11_inFlightAnew_8 (n + 0) Post PX m x1 x2 x3 M) = Post x2 M := by
  apply propext; constructor
  · rintro ⟨m, hm⟩
    cases m with
    | zero => exact hm.elim
    | succ m =>
      obtain ⟨c, e, k⟩ := hm
      rw [h1] at e; cases e
      exact k.1 h
  · intro hp
    exact ⟨1, z_nn_of h1 ⟨fun _ => hp, fun q => absurd h q⟩⟩
theorem e_gotAnewC (h1 : z_fr M 1411 (n + 0) = some (n + 31)) (h : z_fi M 133 (n + 31) ≤ x2) : (∃ m, P_X11_gotAnew_13 (n + 0) Post PX m x1 x2 M) = P_X11_lengthOfPrefix (z_fr M 1412 (n + 0)) 0 M fun x_7 M_7 => (Post x_7 M_7) := by
  apply propext; constructor
  · rintro ⟨m, hm⟩
    cases m with
    | zero => exact hm.elim
    | succ m =>
      obtain ⟨c, e, k⟩ := hm
      rw [h1] at e; cases e
      exact k.1 h
  · intro hp
    exact ⟨1, z_nn_of h1 ⟨fun _ => hp, fun q => absurd h q⟩⟩
theorem e_prefix (hl : z_ln M b = 200) (hz : z_ai M b 0 = 0) : (∃ m, P_X11_lengthOfPrefix_6 Post m (some b) 0 M) = Post 0 M := by
  apply propext; constructor
  · rintro ⟨m, hm⟩
    cases m with
    | zero => exact hm.elim
    | succ m =>
      obtain ⟨c, e, k⟩ := hm
      cases e
      exact ((k.2 (by rw [hl]; decide)).2).1 hz
  · intro hp
    exact ⟨1, z_nn_of rfl ⟨fun _ => hp, fun _ => ⟨by rw [hl]; exact y_in (by decide), fun _ => hp, fun q => absurd hz q⟩⟩⟩
theorem z_sai_id {j : Nat} {v : Int32} (h : z_ai M b j = v) : z_sai M b j v = M := by
  obtain ⟨m1, m2, m3, m4, m5, m6⟩ := M
  have e : z_up m5 b j v = m5 := by
    funext x y
    unfold z_up
    split
    · split
      · rename_i p q; subst p q; exact h.symm
      · rfl
    · rfl
  unfold z_sai
  rw [e]
theorem z_sfi_id {g : Nat} {v : Int32} (h : z_fi M g b = v) : z_sfi M g b v = M := by
  obtain ⟨m1, m2, m3, m4⟩ := M
  have e : z_up m3 g b v = m3 := by
    funext x y
    unfold z_up
    split
    · split
      · rename_i p q; subst p q; exact h.symm
      · rfl
    · rfl
  unfold z_sfi
  rw [e]
end YE
theorem i_succ {x : Int32} {k : Nat} (h : x.toInt = k) (hk : k < 2000000) : (x + 1).toInt = ((k + 1 : Nat) : Int) := by
  rw [Int32.toInt_add, h, show (1 : Int32).toInt = 1 from rfl, Int.bmod_eq_of_le (by omega) (by omega)]; rfl
theorem i_ofNat {k : Nat} (hk : k < 2000000) : (nI k).toInt = (k : Int) := by
  unfold nI; rw [Int32.toInt_ofNat_of_lt (by omega)]
theorem i_nat {x : Int32} {k : Nat} (h : x.toInt = k) : x.toNatClampNeg = k := by
  unfold Int32.toNatClampNeg; rw [h]; rfl
theorem e_clear {b L : Nat} {M : z_Mem} {Post : z_Mem → Prop} (hl : z_ln M b = L) (hL : L < 1000000) (hz : ∀ j, z_ai M b j = 0) : (∃ m, P_X11_clearRow_2 Post m (some b) 0 M) = Post M := by
  have hn : (nI L).toInt = L := i_ofNat (by omega)
  apply propext; constructor
  · have G : ∀ (m k : Nat) (x : Int32), x.toInt = k → k ≤ L → P_X11_clearRow_2 Post m (some b) x M → Post M := by
      intro m
      induction m with
      | zero => intro k x _ _ h; exact h.elim
      | succ m ih =>
        intro k x hx hk h
        obtain ⟨c, e, h⟩ := h
        cases e
        rw [hl] at h
        by_cases q : nI L ≤ x
        · exact h.1 q
        · have h2 := (h.2 q).2 _ rfl _ rfl
          rw [z_sai_id (hz _)] at h2
          have : k < L := by
            rw [Int32.le_iff_toInt_le, hn, hx] at q; omega
          exact ih (k + 1) _ (i_succ hx (by omega)) (by omega) h2
    rintro ⟨m, hm⟩
    exact G m 0 0 rfl (by omega) hm
  · intro hp
    have G : ∀ (d k : Nat) (x : Int32), x.toInt = k → k + d = L → P_X11_clearRow_2 Post (d + 1) (some b) x M := by
      intro d
      induction d with
      | zero =>
        intro k x hx hk
        refine z_nn_of rfl ⟨fun _ => hp, fun q => absurd ?_ q⟩
        rw [hl, Int32.le_iff_toInt_le, hn, hx]; omega
      | succ d ih =>
        intro k x hx hk
        refine z_nn_of rfl ⟨fun _ => hp, fun q => ⟨?_, ?_⟩⟩
        · rw [hl]
          refine fun h => h.elim (fun h => ?_) (fun h => ?_)
          · rw [Int32.lt_iff_toInt_lt, hx] at h
            have : (0 : Int32).toInt = 0 := rfl
            omega
          · rw [i_nat hx] at h; omega
        · intro M1 e1 y ey
          rw [z_sai_id (hz _)] at e1
          subst e1 ey
          exact ih (k + 1) _ (i_succ hx (by omega)) (by omega)
    exact ⟨L + 1, G L 0 0 rfl (by omega)⟩
section YF
variable {n a b : Nat} {M : z_Mem} {Post : z_Mem → Prop} {x1 x2 x3 x4 : Int32}
theorem e_hearS (h : x1 ≤ 0) : (∃ m, P_X8_hearAll_11 a Post m x1 M) = Post M := by
  apply propext; constructor
  · rintro ⟨m, hm⟩
    cases m with
    | zero => exact hm.elim
    | succ m => exact hm.1 h
  · exact fun hp => ⟨1, fun _ => hp, fun q => absurd h q⟩
theorem e_hearC (h : x1 ≤ 0) : (∃ m, P_X1_hearAll_11 a Post m x1 M) = Post M := by
  apply propext; constructor
  · rintro ⟨m, hm⟩
    cases m with
    | zero => exact hm.elim
    | succ m => exact hm.1 h
  · exact fun hp => ⟨1, fun _ => hp, fun q => absurd h q⟩
theorem e_leave (h : z_fi M 395 b ≤ 0) : (∃ m, P_X5_letLeaveLane_2 a Post m (some b) x2 M) = Post M := by
  apply propext; constructor
  · rintro ⟨m, hm⟩
    cases m with
    | zero => exact hm.elim
    | succ m =>
      obtain ⟨c, e, k⟩ := hm
      cases e
      by_cases q : z_fi M 385 b ≤ x2
      · exact k.1 q
      · exact (k.2 q).1 h
  · exact fun hp => ⟨1, z_nn_of rfl ⟨fun _ => hp, fun _ => ⟨fun _ => hp, fun q => absurd h q⟩⟩⟩
theorem e_passes12 (h : z_fi M 1554 a ≤ x1) : (∃ m, P_X12_passes_12 a Post m x1 M) = (∃ m, P_X12_passes_56 a Post m (z_fi M 1559 a) 0 M) := by
  apply propext; constructor
  · rintro ⟨m, hm⟩
    cases m with
    | zero => exact hm.elim
    | succ m => exact hm.1 h _ rfl
  · exact fun hp => ⟨1, fun _ x hx => by rw [hx]; exact hp, fun q => absurd h q⟩
theorem e_passes56 (h : x1 ≤ x2) (hs : ¬ z_fi M 1562 a = 1) : (∃ m, P_X12_passes_56 a Post m x1 x2 M) = P_X12_passes_134 a Post M := by
  apply propext; constructor
  · rintro ⟨m, hm⟩
    cases m with
    | zero => exact hm.elim
    | succ m => exact (hm.1 h).2 hs
  · exact fun hp => ⟨1, fun _ => ⟨fun q => absurd q hs, fun _ => hp⟩, fun q => absurd h q⟩
theorem e_sends44 : (∃ m, P_X12_sendsAll_44 a Post m 0 M) = Post M := by
  apply propext; constructor
  · rintro ⟨m, hm⟩
    cases m with
    | zero => exact hm.elim
    | succ m => exact hm.1 rfl
  · exact fun hp => ⟨1, fun _ => hp, fun q => absurd rfl q⟩
theorem e_leaves33 (h : x2 ≤ x3) : (∃ m, P_X12_leaves_33 a Post m x1 x2 x3 M) = (∃ m, P_X12_leaves_157 a Post m x1 x2 x2 M) := by
  apply propext; constructor
  · rintro ⟨m, hm⟩
    cases m with
    | zero => exact hm.elim
    | succ m => exact hm.1 h
  · exact fun hp => ⟨1, fun _ => hp, fun q => absurd h q⟩
theorem e_leaves157 (h1 : z_fr M 1547 (n + 40) = some (n + 51)) (hl : z_ln M (n + 51) = 2) (hv : vp_in x1 2) (h : z_ai M (n + 51) (x1 : Int32).toNatClampNeg ≤ x3) : (∃ m, P_X12_leaves_157 (n + 40) Post m x1 x2 x3 M) = Post (z_sai M (n + 51) (x1 : Int32).toNatClampNeg (z_ai M (n + 51) (x1 : Int32).toNatClampNeg - x2)) := by
  apply propext; constructor
  · rintro ⟨m, hm⟩
    cases m with
    | zero => exact hm.elim
    | succ m =>
      obtain ⟨c, e, -, k⟩ := hm
      rw [h1] at e; cases e
      obtain ⟨c, e, k⟩ := k.1 h
      rw [h1] at e; cases e
      exact k.2.2 _ rfl
  · exact fun hp => ⟨1, z_nn_of h1 ⟨by rw [hl]; exact hv, fun _ => z_nn_of h1 ⟨by rw [hl]; exact hv, by rw [hl]; exact hv, fun _ e => by rw [e]; exact hp⟩, fun q => absurd h q⟩⟩
theorem z_sfi_sfi {g : Nat} {v w : Int32} : z_sfi (z_sfi M g b v) g b w = z_sfi M g b w := by
  obtain ⟨m1, m2, m3, m4⟩ := M
  unfold z_sfi
  have e : z_up (z_up m3 g b v) g b w = z_up m3 g b w := by
    funext x y
    unfold z_up
    split
    · split
      · rfl
      · rename_i p q; rfl
    · rfl
  show (m1, m2, z_up (z_up m3 g b v) g b w, m4) = _
  rw [e]
end YF
theorem e_clear200 {b : Nat} {M : z_Mem} {Post : z_Mem → Prop} (hl : z_ln M b = 200) (hz : ∀ j, z_ai M b j = 0) : (∃ m, P_X11_clearRow_2 Post m (some b) 0 M) = Post M := e_clear hl (by decide) hz
theorem e_clear400 {b : Nat} {M : z_Mem} {Post : z_Mem → Prop} (hl : z_ln M b = 400) (hz : ∀ j, z_ai M b j = 0) : (∃ m, P_X11_clearRow_2 Post m (some b) 0 M) = Post M := e_clear hl (by decide) hz
theorem e_lose {n : Nat} {M : z_Mem} {Post : z_Mem → Prop} (h1 : z_fr M 1569 (n + 40) = some (n + 63)) (hl : z_ln M (n + 63) = 400) (hz : ∀ j, z_ai M (n + 63) j = 0) : (∃ m, P_X12_loseState_12 (n + 40) Post m 0 M) = Post (z_sfi (z_sfi (z_sfi (z_sfi (z_sfi M 1572 (n + 40) (-1)) 1573 (n + 40) 0) 1574 (n + 40) (-1)) 1575 (n + 40) (-1)) 1576 (n + 40) 0) := by
  have e4 : (400 : Int32).toInt = 400 := rfl
  apply propext; constructor
  · have G : ∀ (m k : Nat) (x : Int32), x.toInt = k → k ≤ 400 → P_X12_loseState_12 (n + 40) Post m x M → Post (z_sfi (z_sfi (z_sfi (z_sfi (z_sfi M 1572 (n + 40) (-1)) 1573 (n + 40) 0) 1574 (n + 40) (-1)) 1575 (n + 40) (-1)) 1576 (n + 40) 0) := by
      intro m
      induction m with
      | zero => intro k x _ _ h; exact h.elim
      | succ m ih =>
        intro k x hx hk h
        by_cases q : 400 ≤ x
        · exact h.1 q _ rfl _ rfl _ rfl _ rfl _ rfl
        · obtain ⟨c, e, h⟩ := h.2 q
          rw [h1] at e; cases e
          have h2 := h.2 _ rfl _ rfl
          rw [z_sai_id (hz _)] at h2
          have : k < 400 := by rw [Int32.le_iff_toInt_le, e4, hx] at q; omega
          exact ih (k + 1) _ (i_succ hx (by omega)) (by omega) h2
    rintro ⟨m, hm⟩
    exact G m 0 0 rfl (by omega) hm
  · intro hp
    have G : ∀ (d k : Nat) (x : Int32), x.toInt = k → k + d = 400 → P_X12_loseState_12 (n + 40) Post (d + 1) x M := by
      intro d
      induction d with
      | zero =>
        intro k x hx hk
        refine ⟨fun _ => ?_, fun q => absurd ?_ q⟩
        · intro _ e1 _ e2 _ e3 _ e4 _ e5
          rw [e5, e4, e3, e2, e1]; exact hp
        · rw [Int32.le_iff_toInt_le, e4, hx]; omega
      | succ d ih =>
        intro k x hx hk
        have hlt : ¬ 400 ≤ x := by rw [Int32.le_iff_toInt_le, e4, hx]; omega
        refine ⟨fun q => absurd q hlt, fun q => z_nn_of h1 ⟨?_, ?_⟩⟩
        · rw [hl]
          refine fun h => h.elim (fun h => ?_) (fun h => ?_)
          · rw [Int32.lt_iff_toInt_lt, hx] at h
            have : (0 : Int32).toInt = 0 := rfl
            omega
          · rw [i_nat hx] at h; omega
        · intro M1 e1 y ey
          rw [z_sai_id (hz _)] at e1
          subst e1 ey
          exact ih (k + 1) _ (i_succ hx (by omega)) (by omega)
    exact ⟨401, G 400 0 0 rfl (by omega)⟩
