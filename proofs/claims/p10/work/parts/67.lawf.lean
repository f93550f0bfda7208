/-! ===== THE LAW: its calls of the class ===== -/
/-- what setUp of the class does, as the law sees it -/
def y_oSU (n : Nat) (p2 p3 : Int32) (M M1 : z_Mem) (r : Int32) : Prop :=
  (¬ rf_P p2 ∧ r = 1 ∧ y_RT 0 n M M1) ∨
  (rf_P p2 ∧ r = 0 ∧ y_RT 388 n M M1 ∧ ∃ a, (p2 = 0 → a = n + 2) ∧ (¬ p2 = 0 → a = n + 4) ∧ (∀ x, z_fi M1 388 x = if x = a then p3 else z_fi M 388 x) ∧ z_al M1 (n + 107) 0 = (if z_fi M 388 a = 0 then 0 else 1))
def y_oSW (n : Nat) (p2 p3 : Int32) (M M1 : z_Mem) (r : Int32) : Prop :=
  (¬ rf_P p2 ∧ r = 1 ∧ y_RT 0 n M M1) ∨ (rf_P p2 ∧ ¬ (0 ≤ p3.toInt ∧ p3.toInt ≤ 2) ∧ r = 2 ∧ y_RT 0 n M M1) ∨
  (rf_P p2 ∧ (0 ≤ p3.toInt ∧ p3.toInt ≤ 2) ∧ r = 0 ∧ y_RT 256 n M M1 ∧ ∃ a, (p2 = 0 → a = n + 33) ∧ (¬ p2 = 0 → a = n + 36) ∧ (∀ x, z_fi M1 256 x = if x = a then p3 else z_fi M 256 x) ∧ z_al M1 (n + 107) 0 = (z_fi M 256 a).toInt64)
def y_oWR (n : Nat) (p2 p3 : Int32) (M M1 : z_Mem) (r : Int32) : Prop :=
  (¬ rf_P4 p2 ∧ r = 1 ∧ y_RT 0 n M M1) ∨ (rf_P4 p2 ∧ ¬ (1 ≤ p3.toInt ∧ p3.toInt ≤ 200) ∧ r = 2 ∧ y_RT 0 n M M1) ∨
  (rf_P4 p2 ∧ (1 ≤ p3.toInt ∧ p3.toInt ≤ 200) ∧ 200 < z_fi M 1152 (n + (12 + 4 * p2.toNatClampNeg)) + p3 ∧ r = 3 ∧ y_RT 0 n M M1) ∨
  (rf_P4 p2 ∧ (1 ≤ p3.toInt ∧ p3.toInt ≤ 200) ∧ ¬ 200 < z_fi M 1152 (n + (12 + 4 * p2.toNatClampNeg)) + p3 ∧ r = 0 ∧ y_RT 1152 n M M1 ∧ (∀ x, z_fi M1 1152 x = if x = n + (12 + 4 * p2.toNatClampNeg) then z_fi M 1152 (n + (12 + 4 * p2.toNatClampNeg)) + p3 else z_fi M 1152 x) ∧ z_al M1 (n + 107) 0 = (z_fi M 1152 (n + (12 + 4 * p2.toNatClampNeg)) + p3).toInt64)
def y_oCO (n : Nat) (p2 : Int32) (M M1 : z_Mem) (r : Int32) : Prop :=
  (¬ (-1 ≤ p2.toInt ∧ p2.toInt ≤ 9) ∧ r = 1 ∧ y_RT 0 n M M1) ∨ ((-1 ≤ p2.toInt ∧ p2.toInt ≤ 9) ∧ ¬ z_fi M 135 (n + 31) = 0 ∧ r = 2 ∧ y_RT 0 n M M1) ∨
  ((-1 ≤ p2.toInt ∧ p2.toInt ≤ 9) ∧ z_fi M 135 (n + 31) = 0 ∧ r = 0 ∧ y_RT 135 n M M1 ∧ ¬ z_fi M1 135 (n + 31) = 0)
def y_oTI (n : Nat) (p2 : Int32) (M M1 : z_Mem) (r : Int32) : Prop :=
  (¬ (1 ≤ p2.toInt ∧ p2.toInt ≤ 50) ∧ r = 1 ∧ y_RT 0 n M M1) ∨
  ((1 ≤ p2.toInt ∧ p2.toInt ≤ 50) ∧ ¬ (z_fi M 645 (n + 1)).toInt + p2.toInt ≤ 2000 ∧ r = 2 ∧ y_RT 0 n M M1) ∨
  ((1 ≤ p2.toInt ∧ p2.toInt ≤ 50) ∧ (z_fi M 645 (n + 1)).toInt + p2.toInt ≤ 2000 ∧ r = 0 ∧ y_RT 645 n M M1 ∧ (z_fi M1 645 (n + 1)).toInt = (z_fi M 645 (n + 1)).toInt + p2.toInt ∧ z_al M1 (n + 107) 0 = (z_fi M1 645 (n + 1)).toInt64)
section LF
variable {n c s t q z : Nat} {M0 M M1 M2 : z_Mem} {p2 p3 p4 p5 p6 : Int32} {Post : Int32 → z_Mem → Prop}
theorem y_WI (W : y_W n (c + 6) (s + 32) M) : y_CI n (c + 168 * (2000 - (z_fi M 645 (n + 1)).toInt).toNat + 6) (s + 754 * (2000 - (z_fi M 645 (n + 1)).toInt).toNat + 32) M M := r_w W.2.2 (by omega) (by omega)
theorem y_Wd {w : Nat} (W : y_W n (c + 6) (s + 32) M) (D : y_D w n (c + 168 * (2000 - (z_fi M 645 (n + 1)).toInt).toNat) (s + 754 * (2000 - (z_fi M 645 (n + 1)).toInt).toNat) M M1) : y_W n c s M1 := by
  have e := D.2.2.2.1
  exact ⟨by rw [e]; exact W.1, by rw [e]; exact W.2.1, by rw [e]; exact D.1⟩
theorem y_Ws (W : y_W n (c + 6) (s + 32) M) : y_W n c s M := ⟨W.1, W.2.1, r_w W.2.2 (by omega) (by omega)⟩
/-- what comes behind each call of the class -/
def y_Kk (n c s : Nat) (M : z_Mem) (Post : Int32 → z_Mem → Prop) : Prop := ∀ r M1, y_W n c s M1 → y_RT 0 n M M1 → Post r M1
theorem t_outv {v : Int64} {i : Int32} (hi : i = 0) (W : y_W n c s M1) (k : ∀ M5, M5 = z_sal M1 (n + 107) ((0 : Int32).toNatClampNeg) v → y_W n c s M5 → y_RT 0 n M1 M5 → Post 0 M5) : z_nn (some (n + 107)) fun a3 => (vp_in i (z_ln M1 a3) ∧ (∀ M_5 : z_Mem, M_5 = z_sal M1 a3 ((0 : Int32).toNatClampNeg) v → (Post 0 M_5))) := by
  subst hi
  refine z_nn_of rfl (And.intro (vp_of (L := 1) (s_l107 W.2.2.1) (by decide) (by decide)) ?_)
  intro M5 e5
  have D := r_sal (w := 0) W.2.2 e5
  have e := D.2.2.2.1
  exact k M5 e5 ⟨by rw [e]; exact W.1, by rw [e]; exact W.2.1, by rw [e]; exact D.1⟩ (y_DT D)
theorem t_out {v : Int64} {i : Int32} (hi : i = 0) (W : y_W n c s M1) (T : y_RT 0 n M M1) (k : y_Kk n c s M Post) : z_nn (some (n + 107)) fun a3 => (vp_in i (z_ln M1 a3) ∧ (∀ M_5 : z_Mem, M_5 = z_sal M1 a3 ((0 : Int32).toNatClampNeg) v → (Post 0 M_5))) :=
  t_outv hi W (fun M5 _ W5 T5 => k 0 M5 W5 (y_Ttr T T5))
theorem y_alE {v : Int64} {M5 : z_Mem} (e : M5 = z_sal M1 (n + 107) ((0 : Int32).toNatClampNeg) v) : z_al M5 (n + 107) 0 = v := by
  rw [e, zq_al_sal, if_pos rfl, if_pos (show (0 : Nat) = (0 : Int32).toNatClampNeg by decide)]
theorem t_L_setPath (W : y_W n (c + 6) (s + 32) M) (k : ∀ r M1, rf_spc p2 p3 p4 p5 p6 r → y_W n c s M1 → y_RT 0 n M M1 → Post r M1) : P_L_setPath (some (n + 0)) p2 p3 p4 p5 p6 M Post :=
  z_nn_of rfl (t_X11_setPath (n := n) (y_WI W) (fun hp hR M1 D => k 0 M1 (Or.inr (Or.inr ⟨hp, hR, rfl⟩)) (y_Wd W D) (y_DT D)) (fun hp M1 D => Or.inl ⟨rfl, k 1 M1 (Or.inl ⟨hp, rfl⟩) (y_Wd W D) (y_DT D)⟩) (fun hp hR M1 D => Or.inr ⟨rfl, k 2 M1 (Or.inr (Or.inl ⟨hp, hR, rfl⟩)) (y_Wd W D) (y_DT D)⟩))
theorem t_L_setUp (W : y_W n (c + 6) (s + 32) M) (k : ∀ r M1, y_W n c s M1 → y_oSU n p2 p3 M M1 r → Post r M1) : P_L_setUp (some (n + 0)) p2 p3 (some (n + 107)) M Post :=
  z_nn_of rfl (t_X11_setUp (n := n) (y_WI W) (fun hp a h0 h1 M1 e1 D => And.intro (fun c1 => t_outv rfl (y_Wd W D) (fun M5 e5 W5 T5 => k 0 M5 W5 (Or.inr ⟨hp, rfl, y_Ttr (y_DT D) (y_T0 T5), a, h0, h1, fun x => by rw [e5, zq_fi_sal, e1, zq_fi_sfi, if_pos rfl], by rw [y_alE e5, if_pos c1]⟩))) (fun c1 => t_outv rfl (y_Wd W D) (fun M5 e5 W5 T5 => k 0 M5 W5 (Or.inr ⟨hp, rfl, y_Ttr (y_DT D) (y_T0 T5), a, h0, h1, fun x => by rw [e5, zq_fi_sal, e1, zq_fi_sfi, if_pos rfl], by rw [y_alE e5, if_neg c1]⟩)))) (fun hn M1 D => ⟨rfl, k 1 M1 (y_Wd W D) (Or.inl ⟨hn, rfl, y_DT D⟩)⟩))
theorem t_L_lose (W : y_W n (c + 6) (s + 32) M) (k : y_Kk n c s M Post) : P_L_lose (some (n + 0)) p2 p3 p4 M Post :=
  z_nn_of rfl (t_X11_lose (n := n) (y_WI W) (fun M1 D => k 0 M1 (y_Wd W D) (y_DT D)) (fun M1 D => Or.inl ⟨rfl, k 1 M1 (y_Wd W D) (y_DT D)⟩) (fun M1 D => Or.inr ⟨rfl, k 2 M1 (y_Wd W D) (y_DT D)⟩))
theorem t_L_late (W : y_W n (c + 6) (s + 32) M) (k : y_Kk n c s M Post) : P_L_late (some (n + 0)) p2 p3 p4 M Post :=
  z_nn_of rfl (t_X11_late (n := n) (y_WI W) (fun M1 D => k 0 M1 (y_Wd W D) (y_DT D)) (fun M1 D => Or.inl ⟨rfl, k 1 M1 (y_Wd W D) (y_DT D)⟩) (fun M1 D => Or.inr ⟨rfl, k 2 M1 (y_Wd W D) (y_DT D)⟩))
theorem t_L_foreign (W : y_W n (c + 6) (s + 32) M) (k : y_Kk n c s M Post) : P_L_foreign (some (n + 0)) p2 p3 (some (n + 107)) M Post :=
  z_nn_of rfl (t_X11_foreign (n := n) (y_WI W) (fun r M1 D => t_out rfl (y_Wd W D) (y_DT D) k) (fun M1 D => Or.inl ⟨rfl, k 1 M1 (y_Wd W D) (y_DT D)⟩) (fun M1 D => Or.inr ⟨rfl, k 2 M1 (y_Wd W D) (y_DT D)⟩))
theorem t_L_read (W : y_W n (c + 6) (s + 32) M) (k : y_Kk n c s M Post) : P_L_read (some (n + 0)) p2 p3 (some (n + 107)) M Post :=
  z_nn_of rfl (t_X11_read (n := n) (y_WI W) (fun r M1 D => t_out rfl (y_Wd W D) (y_DT D) k) (fun M1 D => Or.inl ⟨rfl, k 1 M1 (y_Wd W D) (y_DT D)⟩) (fun M1 D => Or.inr ⟨rfl, k 2 M1 (y_Wd W D) (y_DT D)⟩))
theorem t_L_connect (W : y_W n (c + 6) (s + 32) M) (k : ∀ r M1, y_W n c s M1 → y_oCO n p2 M M1 r → Post r M1) : P_L_connect (some (n + 0)) p2 M Post :=
  z_nn_of rfl (t_X11_connect (n := n) (y_WI W) (fun hp hi M1 D h1 => k 0 M1 (y_Wd W D) (Or.inr (Or.inr ⟨hp, hi, rfl, y_DT D, h1⟩))) (fun hn M1 D => Or.inl ⟨rfl, k 1 M1 (y_Wd W D) (Or.inl ⟨hn, rfl, y_DT D⟩)⟩) (fun hp hi M1 D => Or.inr ⟨rfl, k 2 M1 (y_Wd W D) (Or.inr (Or.inl ⟨hp, hi, rfl, y_DT D⟩))⟩))
theorem t_L_write (W : y_W n (c + 6) (s + 32) M) (k : ∀ r M1, y_W n c s M1 → y_oWR n p2 p3 M M1 r → Post r M1) : P_L_write (some (n + 0)) p2 p3 (some (n + 107)) M Post := by
  have str : ∀ a, rf_P4 p2 → z_ar M (n + 11) p2.toNatClampNeg = some a → a = n + (12 + 4 * p2.toNatClampNeg) := fun a hp ha => by
    have hp' : 0 ≤ p2.toInt ∧ p2.toInt ≤ 3 := hp
    have := i_nat2 hp'.1
    rw [s_str W.2.2.1 (by omega)] at ha
    exact (Option.some.inj ha).symm
  exact z_nn_of rfl (t_X11_write (n := n) (y_WI W) (fun hp hq a ha hc M1 e1 D => t_outv rfl (y_Wd W D) (fun M5 e5 W5 T5 => k 0 M5 W5 (Or.inr (Or.inr (Or.inr (by
    have ea := str a hp ha
    subst ea
    exact ⟨hp, hq, hc, rfl, y_Ttr (y_DT D) (y_T0 T5), fun x => by rw [e5, zq_fi_sal, e1, zq_fi_sfi, if_pos rfl], y_alE e5⟩)))))) (fun hn M1 D => Or.inl ⟨rfl, k 1 M1 (y_Wd W D) (Or.inl ⟨hn, rfl, y_DT D⟩)⟩) (fun hp hn M1 D => Or.inr (Or.inl ⟨rfl, k 2 M1 (y_Wd W D) (Or.inr (Or.inl ⟨hp, hn, rfl, y_DT D⟩))⟩)) (fun hp hq a ha hc M1 D => Or.inr (Or.inr ⟨rfl, k 3 M1 (y_Wd W D) (Or.inr (Or.inr (Or.inl ⟨hp, hq, by rw [← str a hp ha]; exact hc, rfl, y_DT D⟩)))⟩)))
theorem t_L_setWay (W : y_W n (c + 6) (s + 32) M) (k : ∀ r M1, y_W n c s M1 → y_oSW n p2 p3 M M1 r → Post r M1) : P_L_setWay (some (n + 0)) p2 p3 (some (n + 107)) M Post :=
  z_nn_of rfl (t_X11_setWay (n := n) (y_WI W) (fun hp hq a h0 h1 M1 e1 D => t_outv rfl (y_Wd W D) (fun M5 e5 W5 T5 => k 0 M5 W5 (Or.inr (Or.inr ⟨hp, hq, rfl, y_Ttr (y_DT D) (y_T0 T5), a, h0, h1, fun x => by rw [e5, zq_fi_sal, e1, zq_fi_sfi, if_pos rfl], y_alE e5⟩)))) (fun hn M1 D => Or.inl ⟨rfl, k 1 M1 (y_Wd W D) (Or.inl ⟨hn, rfl, y_DT D⟩)⟩) (fun hp hn M1 D => Or.inr ⟨rfl, k 2 M1 (y_Wd W D) (Or.inr (Or.inl ⟨hp, hn, rfl, y_DT D⟩))⟩))
theorem t_L_check (W : y_W n (c + 6) (s + 32) M) (k : y_Kk n c s M Post) : P_L_check (some (n + 0)) p2 M Post :=
  z_nn_of rfl (t_X11_check (n := n) (y_WI W) (fun M1 D => k 0 M1 (y_Wd W D) (y_DT D)) (fun M1 D => Or.inl ⟨rfl, k 1 M1 (y_Wd W D) (y_DT D)⟩) (fun M1 D => Or.inr ⟨rfl, k 2 M1 (y_Wd W D) (y_DT D)⟩))
theorem t_L_use (W : y_W n (c + 6) (s + 32) M) (k : y_Kk n c s M Post) : P_L_use (some (n + 0)) p2 (some (n + 107)) M Post :=
  z_nn_of rfl (t_X11_use (n := n) (y_WI W) (fun r M1 D => t_out rfl (y_Wd W D) (y_DT D) k) (fun M1 D => Or.inl ⟨rfl, k 1 M1 (y_Wd W D) (y_DT D)⟩) (fun M1 D => Or.inr ⟨rfl, k 2 M1 (y_Wd W D) (y_DT D)⟩))
theorem t_L_changeKey (W : y_W n (c + 6) (s + 32) M) (k : y_Kk n c s M Post) : P_L_changeKey (some (n + 0)) (some (n + 107)) M Post :=
  z_nn_of rfl (t_X11_changeKey (n := n) (y_WI W) (fun r M1 D => t_out rfl (y_Wd W D) (y_DT D) k) (fun M1 D => ⟨rfl, k 1 M1 (y_Wd W D) (y_DT D)⟩))
theorem t_L_close (W : y_W n (c + 6) (s + 32) M) (k : y_Kk n c s M Post) : P_L_close (some (n + 0)) M Post :=
  z_nn_of rfl (t_X11_close (n := n) (y_WI W) (fun M1 D => k 0 M1 (y_Wd W D) (y_DT D)) (fun M1 D => ⟨rfl, k 1 M1 (y_Wd W D) (y_DT D)⟩))
theorem t_L_tick (W : y_W n (c + 6) (s + 32) M) (k : ∀ r M1, y_W n c s M1 → y_oTI n p2 M M1 r → Post r M1) : P_L_tick (some (n + 0)) p2 (some (n + 107)) M Post :=
  z_nn_of rfl (t_X11_tick (n := n) W (fun hp hn M1 W1 T h1 => t_outv rfl W1 (fun M5 e5 W5 T5 => k 0 M5 W5 (Or.inr (Or.inr ⟨hp, hn, rfl, y_Ttr T (y_T0 T5), by rw [e5, zq_fi_sal]; exact h1, by rw [y_alE e5, e5, zq_fi_sal]⟩)))) (fun hn M1 W1 T => Or.inl ⟨rfl, k 1 M1 W1 (Or.inl ⟨hn, rfl, T⟩)⟩) (fun hp hn M1 W1 T => Or.inr ⟨rfl, k 2 M1 W1 (Or.inr (Or.inl ⟨hp, hn, rfl, T⟩))⟩))
theorem t_L_state (W : y_W n (c + 6) (s + 32) M) (k : y_Kk n c s M Post) : P_L_state (some (n + 0)) p2 (some (n + 107)) M Post :=
  z_nn_of rfl (t_X11_state (n := n) (y_WI W) (fun r => t_out rfl (y_Ws W) y_Trf k) (fun M1 D => ⟨rfl, k 1 M1 (y_Wd W D) (y_DT D)⟩))
theorem t_L_path (W : y_W n (c + 6) (s + 32) M) (k : y_Kk n c s M Post) : P_L_path (some (n + 0)) p2 p3 (some (n + 107)) M Post :=
  z_nn_of rfl (t_X11_path (n := n) (y_WI W) (fun r => t_out rfl (y_Ws W) y_Trf k) (fun M1 D => Or.inl ⟨rfl, k 1 M1 (y_Wd W D) (y_DT D)⟩) (fun M1 D => Or.inr ⟨rfl, k 2 M1 (y_Wd W D) (y_DT D)⟩))
theorem t_L_stream (W : y_W n (c + 6) (s + 32) M) (k : y_Kk n c s M Post) : P_L_stream (some (n + 0)) p2 p3 (some (n + 107)) M Post :=
  z_nn_of rfl (t_X11_stream (n := n) (y_WI W) (fun r => t_out rfl (y_Ws W) y_Trf k) (fun M1 D => Or.inl ⟨rfl, k 1 M1 (y_Wd W D) (y_DT D)⟩) (fun M1 D => Or.inr ⟨rfl, k 2 M1 (y_Wd W D) (y_DT D)⟩))
theorem t_L_packet (W : y_W n (c + 6) (s + 32) M) (k : y_Kk n c s M Post) : P_L_packet (some (n + 0)) p2 p3 (some (n + 107)) M Post :=
  z_nn_of rfl (t_X11_packet (n := n) (y_WI W) (fun r => t_out rfl (y_Ws W) y_Trf k) (fun M1 D => Or.inl ⟨rfl, k 1 M1 (y_Wd W D) (y_DT D)⟩) (fun M1 D => Or.inr ⟨rfl, k 2 M1 (y_Wd W D) (y_DT D)⟩))
theorem t_L_count (W : y_W n (c + 6) (s + 32) M) (k : y_Kk n c s M Post) : P_L_count (some (n + 0)) p2 (some (n + 107)) M Post :=
  z_nn_of rfl (t_X11_count (n := n) (y_WI W) (fun r => t_out rfl (y_Ws W) y_Trf k) (fun M1 D => ⟨rfl, k 1 M1 (y_Wd W D) (y_DT D)⟩))
theorem t_L_inFlightAnew (W : y_W n (c + 6) (s + 32) M) (k : y_Kk n c s M Post) : P_L_inFlightAnew (some (n + 0)) p2 (some (n + 107)) M Post :=
  z_nn_of rfl (t_X11_inFlightAnew (n := n) (y_WI W) (fun r => t_out rfl (y_Ws W) y_Trf k) (fun M1 D => ⟨rfl, k 1 M1 (y_Wd W D) (y_DT D)⟩))
theorem t_L_gotAnew (W : y_W n (c + 6) (s + 32) M) (k : y_Kk n c s M Post) : P_L_gotAnew (some (n + 0)) p2 (some (n + 107)) M Post :=
  z_nn_of rfl (t_X11_gotAnew (n := n) (y_WI W) (fun r M1 D => t_out rfl (y_Wd W D) (y_DT D) k) (fun M1 D => ⟨rfl, k 1 M1 (y_Wd W D) (y_DT D)⟩))
theorem rf_spc1 {v w : Int32} (h : rf_spc p2 p3 p4 p5 p6 v) (h2 : rf_spc p2 p3 p4 p5 p6 w) : v = w := by
  rcases h with ⟨a, b⟩ | ⟨a, a2, b⟩ | ⟨a, a2, b⟩
  · rcases h2 with ⟨x, y⟩ | ⟨x, x2, y⟩ | ⟨x, x2, y⟩
    · rw [b, y]
    · exact absurd x a
    · exact absurd x a
  · rcases h2 with ⟨x, y⟩ | ⟨x, x2, y⟩ | ⟨x, x2, y⟩
    · exact absurd a x
    · rw [b, y]
    · exact absurd x2 a2
  · rcases h2 with ⟨x, y⟩ | ⟨x, x2, y⟩ | ⟨x, x2, y⟩
    · exact absurd a x
    · exact absurd a2 x2
    · rw [b, y]
end LF
