/-! ===== THE REFERENCE: what single calls answer and change ===== -/
/-- all but the one row or field w of those that few calls write -/
def rf_Kw (w n : Nat) (M0 M : z_Mem) : Prop := rf_KC n M0 M ∧ (∀ x, x ∈ [45, 86, 66] → x ≠ w → z_ai M (n + x) = z_ai M0 (n + x)) ∧ (∀ g, g ∈ [1563, 1536] → g ≠ w → z_fi M g (n + 40) = z_fi M0 g (n + 40))
def rf_P (p : Int32) : Prop := 0 ≤ p.toInt ∧ p.toInt ≤ 1
def rf_oSU (n : Nat) (p1 p2 : Int32) (M M1 : z_Mem) (r : Int32) : Prop :=
  (¬ rf_P p1 ∧ z_fi M1 1630 (n + 40) = 1 ∧ rf_K3 n M M1) ∨
  (rf_P p1 ∧ z_fi M1 1630 (n + 40) = 0 ∧ rf_Kw 45 n M M1 ∧ (∀ j, z_ai M1 (n + 45) j = if j = p1.toNatClampNeg then (if p2 = 0 then 1 else 0) else z_ai M (n + 45) j) ∧ r = (if z_ai M (n + 45) p1.toNatClampNeg = 0 then 1 else 0))
def rf_oSC (n : Nat) (p1 : Int32) (M M1 : z_Mem) (r : Int32) : Prop :=
  z_fi M1 1630 (n + 40) = 0 ∧ rf_Kw 1563 n M M1 ∧ z_fi M1 1563 (n + 40) = p1 ∧ r = z_fi M 1563 (n + 40)
def rf_oSW (n : Nat) (p1 p2 : Int32) (M M1 : z_Mem) (r : Int32) : Prop :=
  (¬ rf_P p1 ∧ z_fi M1 1630 (n + 40) = 1 ∧ rf_K3 n M M1) ∨
  (rf_P p1 ∧ ¬ (0 ≤ p2.toInt ∧ p2.toInt ≤ 2) ∧ z_fi M1 1630 (n + 40) = 2 ∧ rf_K3 n M M1) ∨
  (rf_P p1 ∧ (0 ≤ p2.toInt ∧ p2.toInt ≤ 2) ∧ z_fi M1 1630 (n + 40) = 0 ∧ rf_Kw 86 n M M1 ∧ (∀ j, z_ai M1 (n + 86) j = if j = p1.toNatClampNeg then p2 else z_ai M (n + 86) j) ∧ r = z_ai M (n + 86) p1.toNatClampNeg)
def rf_P4 (p : Int32) : Prop := 0 ≤ p.toInt ∧ p.toInt ≤ 3
def rf_oWR (n : Nat) (p1 p2 : Int32) (M M1 : z_Mem) (r : Int32) : Prop :=
  (¬ rf_P4 p1 ∧ z_fi M1 1630 (n + 40) = 1 ∧ rf_K3 n M M1) ∨
  (rf_P4 p1 ∧ ¬ (1 ≤ p2.toInt ∧ p2.toInt ≤ 200) ∧ z_fi M1 1630 (n + 40) = 2 ∧ rf_K3 n M M1) ∨
  (rf_P4 p1 ∧ (1 ≤ p2.toInt ∧ p2.toInt ≤ 200) ∧ 200 < z_ai M (n + 66) p1.toNatClampNeg + p2 ∧ z_fi M1 1630 (n + 40) = 3 ∧ rf_K3 n M M1) ∨
  (rf_P4 p1 ∧ (1 ≤ p2.toInt ∧ p2.toInt ≤ 200) ∧ ¬ 200 < z_ai M (n + 66) p1.toNatClampNeg + p2 ∧ z_fi M1 1630 (n + 40) = 0 ∧ rf_Kw 66 n M M1 ∧ (∀ j, z_ai M1 (n + 66) j = if j = p1.toNatClampNeg then z_ai M (n + 66) p1.toNatClampNeg + p2 else z_ai M (n + 66) j) ∧ r = z_ai M (n + 66) p1.toNatClampNeg + p2)
def rf_oTI (n : Nat) (p1 : Int32) (M M1 : z_Mem) (r : Int32) : Prop :=
  (¬ (1 ≤ p1.toInt ∧ p1.toInt ≤ 50) ∧ z_fi M1 1630 (n + 40) = 1 ∧ rf_K3 n M M1) ∨
  ((1 ≤ p1.toInt ∧ p1.toInt ≤ 50) ∧ ¬ (z_fi M 1536 (n + 40)).toInt + p1.toInt ≤ 2000 ∧ z_fi M1 1630 (n + 40) = 2 ∧ rf_K3 n M M1) ∨
  ((1 ≤ p1.toInt ∧ p1.toInt ≤ 50) ∧ (z_fi M 1536 (n + 40)).toInt + p1.toInt ≤ 2000 ∧ z_fi M1 1630 (n + 40) = 0 ∧ rf_Kw 1536 n M M1 ∧ (z_fi M1 1536 (n + 40)).toInt = (z_fi M 1536 (n + 40)).toInt + p1.toInt ∧ r = z_fi M1 1536 (n + 40))
section RV
variable {al : Prop} {n t s q z : Nat} {M0 M M1 M2 : z_Mem} {p1 p2 p3 : Int32}
theorem rf_KwK {w : Nat} (h : rf_K3 n M0 M) : rf_Kw w n M0 M := ⟨h.1, fun x hx _ => h.2.1 x hx, fun g hg _ => h.2.2 g hg⟩
theorem rf_Kwtr {w : Nat} (h : rf_Kw w n M0 M) (k : rf_Kw w n M M1) : rf_Kw w n M0 M1 := ⟨rf_KCtr h.1 k.1, fun x hx hw => (k.2.1 x hx hw).trans (h.2.1 x hx hw), fun g hg hw => (k.2.2 g hg hw).trans (h.2.2 g hg hw)⟩
theorem rf_Kwa {x j : Nat} {v : Int32} (h1 : 41 ≤ x) (h2 : x < 107) : rf_Kw x n M (z_sai M (n + x) j v) :=
  ⟨rf_KCa h1 h2, fun y _ hy => funext (fun i => by rw [zq_ai_sai, if_neg (by omega)]), fun _ _ _ => rfl⟩
theorem rf_Kwf {g : Nat} {v : Int32} (h1 : 1536 ≤ g) : rf_Kw g n M (z_sfi M g (n + 40) v) :=
  ⟨rf_KCf h1, fun _ _ _ => rfl, fun k _ hk => rf_nf hk⟩
theorem rf_cdQ {a : Int32} {P : Prop} (ha : rf_b a P) : (¬ P ∧ rf_cd a 1 1 = 1) ∨ (P ∧ rf_cd a 1 1 = 0) := by
  rcases ha with ⟨e, h⟩ | ⟨e, h⟩
  · subst e; exact Or.inr ⟨h, by decide⟩
  · subst e; exact Or.inl ⟨h, by decide⟩
theorem t_X12_setUpv {Post : Int32 → z_Mem → Prop} (J : rf_J al n t s q z M0 M) (k : ∀ r M1, rf_J al n t s q z M1 M1 → rf_oSU n p1 p2 M M1 r → Post r M1) : P_X12_setUp (n + 40) p1 p2 M Post := by
  refine t_isPath J (fun x9 h9 => t_X12_goes J (fun r Mg h1 h2 K p e9 eq Jg => And.intro (fun c => ?_) (fun c => ?_)))
  · rcases rf_cdQ h9 with ⟨a, b⟩ | ⟨a, b⟩
    · exact k _ Mg Jg (Or.inl ⟨a, p.trans b, K⟩)
    · exact absurd (e9.2 b) (by rw [c]; decide)
  have hr : r = 1 := h1.elim id (fun h => absurd h c)
  have hp := rf_bt h9 (h2 hr).1
  have hc : z_fi Mg 1630 (n + 40) = 0 := p.trans (e9.1 hr)
  have hv : ∀ {L : Nat}, L = 2 → vp_in p1 L := fun h => vp_of (L := 2) h (by omega) (by omega)
  have g45 : z_ai Mg (n + 45) = z_ai M (n + 45) := K.2.1 45 (by decide)
  have f29 : ∀ v : Int32, v = (if z_ai M (n + 45) p1.toNatClampNeg = 0 then 1 else 0) → P_X12_setUp_29 (n + 40) Post p1 p2 v Mg := fun v hv' => by
    refine And.intro (fun c2 => z_nn_of (s_1541_40 Jg.1) (And.intro (hv (s_l45 Jg.1)) ?_)) (fun c2 => z_nn_of (s_1541_40 Jg.1) (And.intro (hv (s_l45 Jg.1)) ?_))
    · intro M8 e8
      exact k _ M8 (w_45 Jg e8) (Or.inr ⟨hp, by rw [e8]; exact hc, rf_Kwtr (rf_KwK K) (by rw [e8]; exact rf_Kwa (by decide) (by decide)), fun j => by rw [e8, rf_ea, if_pos c2, g45], hv'⟩)
    · intro M5 e5
      exact k _ M5 (w_45 Jg e5) (Or.inr ⟨hp, by rw [e5]; exact hc, rf_Kwtr (rf_KwK K) (by rw [e5]; exact rf_Kwa (by decide) (by decide)), fun j => by rw [e5, rf_ea, if_neg c2, g45], hv'⟩)
  exact z_nn_of (s_1541_40 Jg.1) (And.intro (hv (s_l45 Jg.1)) (And.intro (fun c => f29 1 (by rw [g45] at c; rw [if_pos c])) (fun c => f29 0 (by rw [g45] at c; rw [if_neg c]))))
theorem t_X12_setCookiesv {Post : Int32 → z_Mem → Prop} (J : rf_J al n t s q z M0 M) (k : ∀ r M1, rf_J al n t s q z M1 M1 → rf_oSC n p1 M M1 r → Post r M1) : P_X12_setCookies (n + 40) p1 M Post := by
  intro M2 e2 x4 e4 M5 e5
  have J2 := w_1630 J e2
  refine k _ M5 (w_1563 J2 e5) ⟨?_, ?_, ?_, ?_⟩
  · rw [e5, rf_nf (by decide), e2, rf_ef]
  · exact rf_Kwtr (M := M2) (rf_KwK (by rw [e2]; exact rf_K3f (by decide) (by decide))) (by rw [e5]; exact rf_Kwf (by decide))
  · rw [e5, rf_ef]
  · rw [e4, e2, rf_nf (by decide)]
theorem t_X12_setWayv {Post : Int32 → z_Mem → Prop} (J : rf_J al n t s q z M0 M) (k : ∀ r M1, rf_J al n t s q z M1 M1 → rf_oSW n p1 p2 M M1 r → Post r M1) : P_X12_setWay (n + 40) p1 p2 M Post := by
  refine t_isPath J (fun x1 hx1 => t_in J (show (0 : Int32).toInt = 0 from rfl) (show (2 : Int32).toInt = 2 from rfl) (fun x2 hx2 => t_X12_goes J (fun r Mg h1 h2 K p e9 eq Jg => And.intro (fun c => ?_) (fun c => ?_))))
  · rcases rf_cdP hx1 hx2 with ⟨a, b⟩ | ⟨a, a2, b⟩ | ⟨a, a2, b⟩
    · exact k _ Mg Jg (Or.inl ⟨a, p.trans b, K⟩)
    · exact k _ Mg Jg (Or.inr (Or.inl ⟨a, a2, p.trans b, K⟩))
    · exact absurd (e9.2 b) (by rw [c]; decide)
  have hr : r = 1 := h1.elim id (fun h => absurd h c)
  have hp := rf_bt hx1 (h2 hr).1
  have hq := rf_bt hx2 (h2 hr).2.1
  have hc : z_fi Mg 1630 (n + 40) = 0 := p.trans (e9.1 hr)
  have g86 : z_ai Mg (n + 86) = z_ai M (n + 86) := K.2.1 86 (by decide)
  have hv : ∀ {L : Nat}, L = 2 → vp_in p1 L := fun h => vp_of (L := 2) h (by omega) (by omega)
  refine z_nn_of (s_1609_40 Jg.1) (And.intro (hv (s_l86 Jg.1)) ?_)
  intro x8 e8
  refine z_nn_of (s_1609_40 Jg.1) (And.intro (hv (s_l86 Jg.1)) ?_)
  intro M12 e12
  exact k _ M12 (w_86 Jg e12) (Or.inr (Or.inr ⟨hp, hq, by rw [e12]; exact hc, rf_Kwtr (rf_KwK K) (by rw [e12]; exact rf_Kwa (by decide) (by decide)), fun j => by rw [e12, rf_ea, g86], by rw [e8, g86]⟩))
theorem t_X12_writev {Post : Int32 → z_Mem → Prop} (J : rf_J al n t s q z M0 M) (k : ∀ r M1, rf_J al n t s q z M1 M1 → rf_oWR n p1 p2 M M1 r → Post r M1) : P_X12_write (n + 40) p1 p2 M Post := by
  refine t_isStream J (fun x12 h12 => t_in J (show (1 : Int32).toInt = 1 from rfl) (show (200 : Int32).toInt = 200 from rfl) (fun x13 h13 => ?_))
  have f49 : ∀ v : Int32, (v = 1 ∧ rf_P4 p1 ∧ (1 ≤ p2.toInt ∧ p2.toInt ≤ 200) ∧ ¬ 200 < z_ai M (n + 66) p1.toNatClampNeg + p2 ∧ (z_ai M (n + 66) p1.toNatClampNeg).toInt + p2.toInt ≤ 200) ∨ (v = 0 ∧ (rf_P4 p1 → (1 ≤ p2.toInt ∧ p2.toInt ≤ 200) → 200 < z_ai M (n + 66) p1.toNatClampNeg + p2)) → P_X12_write_49 (n + 40) Post p1 p2 (some (n + 40)) x12 x13 v M := fun v hvv => by
    refine z_nn_of rfl (t_X12_goes J (fun r Mg h1 h2 K p e9 eq Jg => And.intro (fun c => ?_) (fun c => ?_)))
    · by_cases a : rf_P4 p1
      · by_cases b : (1 ≤ p2.toInt ∧ p2.toInt ≤ 200)
        · rcases hvv with hvv | hvv
          · refine absurd (e9.2 ?_) (by rw [c]; decide)
            rw [(h12.elim id (fun h => absurd a h.2)).1, (h13.elim id (fun h => absurd b h.2)).1, hvv.1]; decide
          · refine k _ Mg Jg (Or.inr (Or.inr (Or.inl ⟨a, b, hvv.2 a b, ?_, K⟩)))
            rw [p, (h12.elim id (fun h => absurd a h.2)).1, (h13.elim id (fun h => absurd b h.2)).1, hvv.1]; decide
        · refine k _ Mg Jg (Or.inr (Or.inl ⟨a, b, ?_, K⟩))
          rw [p, (h12.elim id (fun h => absurd a h.2)).1, (h13.elim (fun h => absurd h.2 b) id).1]; unfold rf_cd; rw [if_neg (by decide), if_pos rfl]
      · refine k _ Mg Jg (Or.inl ⟨a, ?_, K⟩)
        rw [p, (h12.elim (fun h => absurd h.2 a) id).1]; unfold rf_cd; rw [if_pos rfl]
    have hr : r = 1 := h1.elim id (fun h => absurd h c)
    have hq := h2 hr
    obtain ⟨-, hp, hm, hlt, hw⟩ := hvv.elim id (fun h => absurd h.1 hq.2.2)
    have hp' : 0 ≤ p1.toInt ∧ p1.toInt ≤ 3 := hp
    have hc : z_fi Mg 1630 (n + 40) = 0 := p.trans (e9.1 hr)
    have g66 : z_ai Mg (n + 66) = z_ai M (n + 66) := K.2.1 66 (by decide)
    have hv : ∀ {L : Nat}, L = 4 → vp_in p1 L := fun h => vp_of (L := 4) h (by omega) (by omega)
    refine z_nn_of (s_1586_40 Jg.1) (And.intro (hv (s_l66 Jg.1)) (And.intro (hv (s_l66 Jg.1)) ?_))
    intro M8 e8
    have b := a_66 Jg p1.toNatClampNeg
    have bs := rf_sw Jg p1.toNatClampNeg (i_natlt (by omega) (by omega))
    rw [← g66] at hw
    have tv : (z_ai Mg (n + 66) p1.toNatClampNeg + p2).toInt = (z_ai Mg (n + 66) p1.toNatClampNeg).toInt + p2.toInt := i_addE rfl rfl (by omega) (by omega)
    have J8 := w_66 Jg e8 (by rw [tv]; omega) (by rw [tv]; omega) (by rw [tv]; omega)
    exact z_nn_of (s_1586_40 J8.1) (And.intro (hv (s_l66 J8.1)) (k _ M8 J8 (Or.inr (Or.inr (Or.inr ⟨hp, hm, hlt, by rw [e8]; exact hc, rf_Kwtr (rf_KwK K) (by rw [e8]; exact rf_Kwa (by decide) (by decide)), fun j => by rw [e8, rf_ea, g66], by rw [e8, rf_ea, if_pos rfl, g66]⟩)))))
  refine And.intro (fun c => f49 0 (Or.inr ⟨rfl, fun h _ => absurd h (rf_bf h12 c)⟩)) (fun c => t_in J (show (1 : Int32).toInt = 1 from rfl) (show (200 : Int32).toInt = 200 from rfl) (fun x15 h15 => And.intro (fun c2 => f49 0 (Or.inr ⟨rfl, fun _ h => absurd h (rf_bf h15 c2)⟩)) (fun c2 => ?_)))
  have hp := rf_bt h12 c
  have hm := rf_bt h15 c2
  have hv : ∀ {L : Nat}, L = 4 → vp_in p1 L := fun h => vp_of (L := 4) h (by omega) (by omega)
  refine z_nn_of (s_1586_40 J.1) (And.intro (hv (s_l66 J.1)) (And.intro (fun c3 => f49 0 (Or.inr ⟨rfl, fun _ _ => c3⟩)) (fun c3 => f49 1 (Or.inl ⟨rfl, hp, hm, c3, ?_⟩))))
  have b := a_66 J p1.toNatClampNeg
  have c' := i_nlt c3 (show (200 : Int32).toInt = 200 from rfl) (i_addE (x := z_ai M (n + 66) p1.toNatClampNeg) (y := p2) rfl rfl (by omega) (by omega))
  omega
theorem t_ti36v {x1 : Int32} {Ms : z_Mem} {Post : Int32 → z_Mem → Prop} (h50 : x1.toInt ≤ 50) (k : ∀ M1, rf_J al n (t + 60) (s + 60) (q + 60) z M1 M1 → rf_Kw 1536 n Ms M1 → z_fi M1 1630 (n + 40) = z_fi Ms 1630 (n + 40) → (z_fi M1 1536 (n + 40)).toInt = (z_fi Ms 1536 (n + 40)).toInt + x1.toInt → Post (z_fi M1 1536 (n + 40)) M1) : ∀ (m : Nat) (x2 : Int32) (M : z_Mem), (50 - x2.toInt).toNat < m → 0 ≤ x2.toInt → x2.toInt ≤ x1.toInt → (z_fi M 1536 (n + 40)).toInt + (x1.toInt - x2.toInt) ≤ 2000 → (z_fi M 1536 (n + 40)).toInt = (z_fi Ms 1536 (n + 40)).toInt + x2.toInt → rf_Kw 1536 n Ms M → z_fi M 1630 (n + 40) = z_fi Ms 1630 (n + 40) → rf_J al n (t + 60) (s + 60) (q + 60) z M M → P_X12_tick_36 (n + 40) Post m x1 x2 M := by
  intro m
  induction m with
  | zero => intro x2 M h; exact absurd h (Nat.not_lt_zero _)
  | succ m ih =>
    intro x2 M hm h0 hx hn he K hc J
    refine And.intro (fun c => k M J K hc (by have c' := i_le c rfl rfl; omega)) (fun c => ?_)
    have c' := i_nle c rfl rfl
    have b := f_1536 J
    refine t_X12_passes J (by omega) (fun M3 J3 K3 => ?_)
    have kn : z_fi M3 1536 (n + 40) = z_fi M 1536 (n + 40) + 1 := by
      rw [K3.2.2.2.2.2.2.2.2.2.2 1536 (by decide), rf_ef]
    have k16 : z_fi M3 1630 (n + 40) = z_fi M 1630 (n + 40) := by
      rw [K3.2.2.2.2.2.2.2.2.2.2 1630 (by decide), rf_nf (by decide)]
    have tn : (z_fi M3 1536 (n + 40)).toInt = (z_fi M 1536 (n + 40)).toInt + 1 := by rw [kn]; exact i_addE rfl (show (1 : Int32).toInt = 1 from rfl) (by omega) (by omega)
    obtain ⟨a1, a2, a3, a4, a5, a6, a7, a8, a9, a10, a11⟩ := K3
    intro y ey
    have ty : y.toInt = x2.toInt + 1 := by rw [ey]; exact i_add1 (by omega) (by omega)
    exact ih y M3 (by omega) (by omega) (by omega) (by omega) (by omega) (rf_Kwtr K (rf_Kwtr (rf_Kwf (M := M) (g := 1536) (v := z_fi M 1536 (n + 40) + 1) (by decide)) ⟨⟨a1, a2, a3, a4, a5, a6, a7, a8, a9⟩, fun x hx _ => a10 x hx, fun g hg hw => a11 g (by clear hw; revert hg; revert g; decide)⟩)) (k16.trans hc) J3
theorem t_X12_tickv {Post : Int32 → z_Mem → Prop} (J : rf_J al n (t + 60) (s + 60) (q + 60) z M0 M) (k : ∀ r M1, rf_J al n (t + 60) (s + 60) (q + 60) z M1 M1 → rf_oTI n p1 M M1 r → Post r M1) : P_X12_tick (n + 40) p1 M Post := by
  refine t_in J (show (1 : Int32).toInt = 1 from rfl) (show (50 : Int32).toInt = 50 from rfl) (fun x9 h9 => ?_)
  have b := f_1536 J
  have f25 : ∀ v : Int32, (v = 1 ∧ ((1 ≤ p1.toInt ∧ p1.toInt ≤ 50) → (z_fi M 1536 (n + 40)).toInt + p1.toInt ≤ 2000)) ∨ (v = 0 ∧ ((1 ≤ p1.toInt ∧ p1.toInt ≤ 50) → ¬ (z_fi M 1536 (n + 40)).toInt + p1.toInt ≤ 2000)) → P_X12_tick_25 (n + 40) Post p1 (some (n + 40)) x9 v M := fun v hv => by
    refine z_nn_of rfl (t_X12_goes J (fun r Mg h1 h2 K p e9 eq Jg => And.intro (fun c => ?_) (fun c => ?_)))
    · by_cases a : (1 ≤ p1.toInt ∧ p1.toInt ≤ 50)
      · rcases hv with hv | hv
        · refine absurd (e9.2 ?_) (by rw [c]; decide)
          rw [(h9.elim id (fun h => absurd a h.2)).1, hv.1]; decide
        · refine k _ Mg Jg (Or.inr (Or.inl ⟨a, hv.2 a, ?_, K⟩))
          rw [p, (h9.elim id (fun h => absurd a h.2)).1, hv.1]; decide
      · refine k _ Mg Jg (Or.inl ⟨a, ?_, K⟩)
        rw [p, (h9.elim (fun h => absurd h.2 a) id).1]; unfold rf_cd; rw [if_pos rfl]
    have hr : r = 1 := h1.elim id (fun h => absurd h c)
    have hp := rf_bt h9 (h2 hr).1
    have hn := (hv.elim id (fun h => absurd h.1 (h2 hr).2.1)).2 hp
    have kn : z_fi Mg 1536 (n + 40) = z_fi M 1536 (n + 40) := K.2.2 1536 (by decide)
    have hc : z_fi Mg 1630 (n + 40) = 0 := p.trans (e9.1 hr)
    exact ⟨_, t_ti36v (x1 := p1) (Ms := Mg) hp.2 (fun M1 J1 K1 c1 n1 => k _ M1 J1 (Or.inr (Or.inr ⟨hp, hn, c1.trans hc, rf_Kwtr (rf_KwK K) K1, by rw [n1, kn], rfl⟩))) _ 0 Mg (Nat.lt_succ_self _) (by decide) (by rw [show (0 : Int32).toInt = 0 from rfl]; omega) (by rw [kn, show (0 : Int32).toInt = 0 from rfl]; omega) (by rw [show (0 : Int32).toInt = 0 from rfl]; omega) (rf_KwK rf_K3rf) rfl Jg⟩
  refine And.intro (fun c => f25 0 (Or.inr ⟨rfl, fun hp => ?_⟩)) (fun c => f25 1 (Or.inl ⟨rfl, fun hp => ?_⟩))
  · have c' := i_lt c (show (2000 : Int32).toInt = 2000 from rfl) (i_addE (x := z_fi M 1536 (n + 40)) (y := p1) rfl rfl (by omega) (by omega))
    omega
  · have c' := i_nlt c (show (2000 : Int32).toInt = 2000 from rfl) (i_addE (x := z_fi M 1536 (n + 40)) (y := p1) rfl rfl (by omega) (by omega))
    omega
theorem t_X12_nowv {Post : Int32 → z_Mem → Prop} (J : rf_J al n t s q z M0 M) (k : ∀ M1, rf_J al n t s q z M1 M1 → rf_K3 n M M1 → z_fi M1 1630 (n + 40) = 0 → Post (z_fi M 1536 (n + 40)) M1) : P_X12_now (n + 40) M Post := by
  intro M1 e1
  rw [show z_fi M1 1536 (n + 40) = z_fi M 1536 (n + 40) by rw [e1, rf_nf (by decide)]]
  exact k M1 (w_1630 J e1) (by rw [e1]; exact rf_K3f (by decide) (by decide)) (by rw [e1, rf_ef])
end RV
