/-! ===== THE LAW: every call, then the next, with what is alike ===== -/
def y_VX (n k : Nat) (M : z_Mem) : Prop := y_V n k M ∧ y_X n M
section LT
variable {n : Nat} {M M1 M2 : z_Mem} {p v r r2 : Int32}
theorem lg_sameA {f : Nat → Int64} {y : Int64} (h : f 0 = y) : lg_cmp (f ((0 : Int32).toNatClampNeg)) y = 0 := by
  rw [show (0 : Int32).toNatClampNeg = 0 by decide, h]
  unfold lg_cmp
  rw [if_neg (fun h => Int64.lt_irrefl h), if_pos rfl]
theorem tSU (C : y_oSU n p v M M1 r) : y_RT 388 n M M1 := C.elim (fun h => y_T0 h.2.2) (fun h => h.2.2.1)
theorem tSW (C : y_oSW n p v M M1 r) : y_RT 256 n M M1 := C.elim (fun h => y_T0 h.2.2) (fun C => C.elim (fun h => y_T0 h.2.2.2) (fun h => h.2.2.2.1))
theorem tWR (C : y_oWR n p v M M1 r) : y_RT 1152 n M M1 := C.elim (fun h => y_T0 h.2.2) (fun C => C.elim (fun h => y_T0 h.2.2.2) (fun C => C.elim (fun h => y_T0 h.2.2.2.2) (fun h => h.2.2.2.2.1)))
theorem tTI (C : y_oTI n p M M1 r) : y_RT 645 n M M1 := C.elim (fun h => y_T0 h.2.2) (fun C => C.elim (fun h => y_T0 h.2.2.2) (fun h => h.2.2.2.1))
theorem kSU (R : rf_oSU n p v M M1 r) : rf_KC n M M1 := R.elim (fun h => h.2.2.1) (fun h => h.2.2.1.1)
theorem kSW (R : rf_oSW n p v M M1 r) : rf_KC n M M1 := R.elim (fun h => h.2.2.1) (fun R => R.elim (fun h => h.2.2.2.1) (fun h => h.2.2.2.1.1))
theorem kWR (R : rf_oWR n p v M M1 r) : rf_KC n M M1 := R.elim (fun h => h.2.2.1) (fun R => R.elim (fun h => h.2.2.2.1) (fun R => R.elim (fun h => h.2.2.2.2.1) (fun h => h.2.2.2.2.1.1)))
theorem kTI (R : rf_oTI n p M M1 r) : rf_KC n M M1 := R.elim (fun h => h.2.2.1) (fun R => R.elim (fun h => h.2.2.2.1) (fun h => h.2.2.2.1.1))
end LT
section LL
variable {L : Nat} {xs : Nat → Int32} {n : Nat}
theorem y_law68 (hL : L ≤ 3072) : ∀ (k m : Nat) (x4 : Int32) (M : z_Mem), k < m → x4.toInt + 6 * k = 3072 → 0 ≤ x4.toInt → y_VX n k M → P_L_law_23 L xs (fun x _ => x = 1) m (some (n + 0)) (some (n + 40)) (some (n + 107)) x4 M := by
  have TL : (nI L).toInt = L := i_ofNat (by omega)
  have TL6 : (nI L - 6).toInt = (L : Int) - 6 := i_subE TL (show (6 : Int32).toInt = 6 from rfl) (by omega) (by omega)
  have hlt : ∀ x : Int32, ¬ (nI L - 6) < x → ¬ (L : Int) - 6 < x.toInt := fun x h => i_nlt h TL6 rfl
  have hlt2 : ∀ x : Int32, (L : Int) - 6 < x.toInt → (nI L - 6) < x := fun x h => by rw [Int32.lt_iff_toInt_lt, TL6]; exact h
  clear TL TL6
  intro k
  induction k with
  | zero =>
    intro m x4 M hm hx h0 V
    cases m with
    | zero => exact absurd hm (Nat.not_lt_zero _)
    | succ m => exact And.intro (fun _ => rfl) (fun c => absurd (hlt2 x4 (by omega)) c)
  | succ k ih =>
    intro m x4 M hm hx h0 V
    cases m with
    | zero => exact absurd hm (Nat.not_lt_zero _)
    | succ m =>
    refine And.intro (fun _ => rfl) (fun c => ?_)
    have c' := hlt x4 c
    have W : y_W n (6 * k + 6) (32 * k + 32) M := V.1.1
    have J := V.1.2
    have X := V.2
    have hj : ∀ j : Int32, 0 ≤ j.toInt → j.toInt ≤ 5 → vp_in (x4 + j) L := fun j g0 h5 => vp_of (L := L) rfl (by rw [i_addE rfl rfl (by omega) (by omega)]; omega) (by rw [i_addE rfl rfl (by omega) (by omega)]; omega)
    have v0 : vp_in x4 L := vp_of (L := L) rfl (by omega) (by omega)
    have v1 := hj 1 (by decide) (by decide)
    have v2 := hj 2 (by decide) (by decide)
    have v3 := hj 3 (by decide) (by decide)
    have v4 := hj 4 (by decide) (by decide)
    have v5 := hj 5 (by decide) (by decide)
    have ny : ∀ y, y = x4 + 6 → y.toInt = x4.toInt + 6 := fun y ey => by rw [ey]; exact i_addE rfl (show (6 : Int32).toInt = 6 from rfl) (by omega) (by omega)
    have nx : ∀ M', y_W n (6 * k) (32 * k) M' → rf_J n (k + 60) (k + 60) (k + 60) 0 M' M' → y_X n M' → P_L_law_1021 L xs (fun x _ => x = 1) (fun q0 q1 q2 q3 qM => P_L_law_23 L xs (fun x _ => x = 1) m q0 q1 q2 q3 qM) (some (n + 0)) (some (n + 40)) (some (n + 107)) x4 M' := fun M' W' J' X' y ey => by
      have ty := ny y ey
      exact ih m y M' (by omega) (by omega) (by omega) ⟨⟨W', J'⟩, X'⟩
    have jj : ∀ (w : Nat) (M1 : z_Mem), y_W n (6 * k) (32 * k) M1 → y_RT w n M M1 → rf_J n (k + 60 + 1) (k + 60 + 1) (k + 60 + 1) 0 M1 M1 := fun w M1 W1 T1 => rf_w (t_JT J W1.2.2.1 T1) (by omega) (by omega) (by omega) (by omega)
    have j0 : ∀ (w : Nat) (M1 : z_Mem), y_W n (6 * k) (32 * k) M1 → y_RT w n M M1 → rf_J n (k + 60) (k + 60) (k + 60) 0 M1 M1 := fun w M1 W1 T1 => rf_w (t_JT J W1.2.2.1 T1) (by omega) (by omega) (by omega) (by omega)
    have Ws : y_W n (6 * k) (32 * k) M := y_Ws W
    refine And.intro v0 ?_
    refine And.intro (fun _ => And.intro v1 (And.intro v2 (And.intro v3 (And.intro v4 (And.intro v5 (t_L_setPath W (fun r M1 hr W1 T1 => And.intro v1 (And.intro v2 (And.intro v3 (And.intro v4 (And.intro v5 (z_nn_of rfl (t_X12_setPath (j0 0 M1 W1 T1) (fun M2 J2 K2 h2 => nx M2 (t_WK W1 K2.1) J2 (y_X0 X T1 K2))))))))))))))) ?_
    refine And.intro (fun _ => And.intro v1 (And.intro v2 (And.intro (fun c1 => t_L_setUp W (fun r M1 W1 C => And.intro v1 (And.intro v2 (And.intro (fun _ => z_nn_of rfl (t_X12_setUpv (j0 388 M1 W1 (tSU C)) (fun r2 M2 J2 R => have j := j_SU X C R; nx M2 (t_WK W1 (kSU R)) J2 j.1))) (fun c2 => absurd c1 c2))))) (fun c1 => t_L_setUp W (fun r M1 W1 C => And.intro v1 (And.intro v2 (And.intro (fun c2 => absurd c2 c1) (fun _ => z_nn_of rfl (t_X12_setUpv (j0 388 M1 W1 (tSU C)) (fun r2 M2 J2 R => have j := j_SU X C R; nx M2 (t_WK W1 (kSU R)) J2 j.1)))))))))) ?_
    refine And.intro (fun _ => And.intro v1 (And.intro v2 (And.intro (fun _ => And.intro v3 (t_L_lose W (fun _ M1 W1 T1 => And.intro v1 (And.intro v2 (And.intro (fun _ => And.intro v3 (z_nn_of rfl (t_X12_lose (j0 0 M1 W1 T1) (fun M2 J2 K2 => nx M2 (t_WK W1 K2.1) J2 (y_X0 X T1 K2))))) (fun _ => And.intro v3 (z_nn_of rfl (t_X12_lose (j0 0 M1 W1 T1) (fun M2 J2 K2 => nx M2 (t_WK W1 K2.1) J2 (y_X0 X T1 K2)))))))))) (fun _ => And.intro v3 (t_L_lose W (fun _ M1 W1 T1 => And.intro v1 (And.intro v2 (And.intro (fun _ => And.intro v3 (z_nn_of rfl (t_X12_lose (j0 0 M1 W1 T1) (fun M2 J2 K2 => nx M2 (t_WK W1 K2.1) J2 (y_X0 X T1 K2))))) (fun _ => And.intro v3 (z_nn_of rfl (t_X12_lose (j0 0 M1 W1 T1) (fun M2 J2 K2 => nx M2 (t_WK W1 K2.1) J2 (y_X0 X T1 K2))))))))))))) ?_
    refine And.intro (fun _ => And.intro v1 (And.intro v2 (And.intro v3 (t_L_late W (fun _ M1 W1 T1 => And.intro v1 (And.intro v2 (And.intro v3 (z_nn_of rfl (t_X12_late (j0 0 M1 W1 T1) (fun M2 J2 K2 => nx M2 (t_WK W1 K2.1) J2 (y_X0 X T1 K2))))))))))) ?_
    refine And.intro (fun _ => And.intro v1 (And.intro v2 (t_L_foreign W (fun _ M1 W1 T1 => And.intro v1 (And.intro v2 (z_nn_of rfl (t_X12_foreign (j0 0 M1 W1 T1) (fun _ M2 J2 K2 => nx M2 (t_WK W1 K2.1) J2 (y_X0 X T1 K2))))))))) ?_
    refine And.intro (fun _ => And.intro v1 (And.intro (fun c1 => z_nn_of rfl (t_X11_setCookies (n := n) (y_WI W) (fun M1 e1 D => And.intro v1 (And.intro (fun _ => z_nn_of rfl (t_X12_setCookiesv (j0 1027 M1 (y_Wd W D) (y_DT D)) (fun r2 M2 J2 R => have j := j_SC X (y_DT D) (by rw [e1, zq_fi_sfi, if_pos rfl, if_pos rfl]) rfl R; nx M2 (t_WK (y_Wd W D) R.2.1.1) J2 j.1))) (fun c2 => absurd c1 c2))))) (fun c1 => z_nn_of rfl (t_X11_setCookies (n := n) (y_WI W) (fun M1 e1 D => And.intro v1 (And.intro (fun c2 => absurd c2 c1) (fun _ => z_nn_of rfl (t_X12_setCookiesv (j0 1027 M1 (y_Wd W D) (y_DT D)) (fun r2 M2 J2 R => have j := j_SC X (y_DT D) (by rw [e1, zq_fi_sfi, if_pos rfl, if_pos rfl]) rfl R; nx M2 (t_WK (y_Wd W D) R.2.1.1) J2 j.1))))))))) ?_
    refine And.intro (fun _ => And.intro v1 (And.intro v2 (t_L_read W (fun _ M1 W1 T1 => And.intro v1 (And.intro v2 (z_nn_of rfl (t_X12_read (rf_w (t := k + 60) (s := k + 60 + 1) (q := k + 60 + 1) (z := 0) (jj 0 M1 W1 T1) (by omega) (by omega) (by omega) (by omega)) (fun _ M2 J2 K2 => nx M2 (t_WK W1 K2.1) J2 (y_X0 X T1 K2))))))))) ?_
    refine And.intro (fun _ => z_nn_of rfl (t_X11_loseState (n := n) (y_WI W) (fun M1 D => z_nn_of rfl (t_X12_loseState (j0 0 M1 (y_Wd W D) (y_DT D)) (fun M2 J2 K2 => nx M2 (t_WK (y_Wd W D) K2.1) J2 (y_X0 X (y_DT D) K2)))))) ?_
    refine And.intro (fun _ => And.intro v1 (t_L_connect W (fun _ M1 W1 T1 => And.intro v1 (z_nn_of rfl (t_X12_connect (jj 0 M1 W1 T1) (fun M2 J2 K2 => nx M2 (t_WK W1 K2.1) J2 (y_X0 X T1 K2))))))) ?_
    refine And.intro (fun _ => And.intro v1 (And.intro v2 (t_L_write W (fun r M1 W1 C => And.intro v1 (And.intro v2 (z_nn_of rfl (t_X12_writev (j0 1152 M1 W1 (tWR C)) (fun r2 M2 J2 R => have j := j_WR X C R; nx M2 (t_WK W1 (kWR R)) J2 j.1)))))))) ?_
    refine And.intro (fun _ => And.intro v1 (And.intro v2 (t_L_setWay W (fun r M1 W1 C => And.intro v1 (And.intro v2 (z_nn_of rfl (t_X12_setWayv (j0 256 M1 W1 (tSW C)) (fun r2 M2 J2 R => have j := j_SW X C R; nx M2 (t_WK W1 (kSW R)) J2 j.1)))))))) ?_
    refine And.intro (fun _ => And.intro v1 (t_L_check W (fun _ M1 W1 T1 => And.intro v1 (z_nn_of rfl (t_X12_check (jj 0 M1 W1 T1) (fun M2 J2 K2 => nx M2 (t_WK W1 K2.1) J2 (y_X0 X T1 K2))))))) ?_
    refine And.intro (fun _ => And.intro v1 (t_L_use W (fun _ M1 W1 T1 => And.intro v1 (z_nn_of rfl (t_X12_use (j0 0 M1 W1 T1) (fun _ M2 J2 K2 => nx M2 (t_WK W1 K2.1) J2 (y_X0 X T1 K2))))))) ?_
    refine And.intro (fun _ => t_L_changeKey W (fun _ M1 W1 T1 => z_nn_of rfl (t_X12_changeKey (j0 0 M1 W1 T1) (fun _ M2 J2 K2 => nx M2 (t_WK W1 K2.1) J2 (y_X0 X T1 K2))))) ?_
    refine And.intro (fun _ => t_L_close W (fun _ M1 W1 T1 => z_nn_of rfl (t_X12_close (jj 0 M1 W1 T1) (fun M2 J2 K2 => nx M2 (t_WK W1 K2.1) J2 (y_X0 X T1 K2))))) ?_
    refine And.intro (fun _ => And.intro v1 (t_L_tick W (fun r M1 W1 C => And.intro v1 (z_nn_of rfl (t_X12_tickv (j0 645 M1 W1 (tTI C)) (fun r2 M2 J2 R => have j := j_TI X C R; nx M2 (t_WK W1 (kTI R)) J2 j.1)))))) ?_
    refine And.intro (fun _ => z_nn_of rfl (z_nn_of (s_1408_0 W.2.2.1) (z_nn_of rfl (t_X12_nowv (j0 0 M Ws y_Trf) (fun M2 J2 K2 c2 => And.intro (fun _ => (nx M2 (t_WK Ws K2.1) J2 (y_X0 X y_Trf K2))) (fun h => (h (by first | exact X.2.2.2.2.2.2 | exact X.2.2.2.2.2.2.symm)).elim)))))) ?_
    refine And.intro (fun _ => And.intro v1 (t_L_state W (fun _ M1 W1 T1 => And.intro v1 (z_nn_of rfl (t_X12_state (j0 0 M1 W1 T1) (fun _ M2 J2 K2 => nx M2 (t_WK W1 K2.1) J2 (y_X0 X T1 K2))))))) ?_
    refine And.intro (fun _ => And.intro v1 (And.intro v2 (t_L_path W (fun _ M1 W1 T1 => And.intro v1 (And.intro v2 (z_nn_of rfl (t_X12_path (j0 0 M1 W1 T1) (fun _ M2 J2 K2 => nx M2 (t_WK W1 K2.1) J2 (y_X0 X T1 K2))))))))) ?_
    refine And.intro (fun _ => And.intro v1 (And.intro v2 (t_L_stream W (fun _ M1 W1 T1 => And.intro v1 (And.intro v2 (z_nn_of rfl (t_X12_stream (j0 0 M1 W1 T1) (fun _ M2 J2 K2 => nx M2 (t_WK W1 K2.1) J2 (y_X0 X T1 K2))))))))) ?_
    refine And.intro (fun _ => z_nn_of rfl (t_X11_credit (n := n) (y_WI W) (fun _ => z_nn_of rfl (t_X12_credit (j0 0 M Ws y_Trf) (fun _ M2 J2 K2 => nx M2 (t_WK Ws K2.1) J2 (y_X0 X y_Trf K2)))))) ?_
    refine And.intro (fun _ => z_nn_of rfl (t_X11_packets (n := n) (y_WI W) (fun _ => z_nn_of rfl (t_X12_packets (j0 0 M Ws y_Trf) (fun _ M2 J2 K2 => nx M2 (t_WK Ws K2.1) J2 (y_X0 X y_Trf K2)))))) ?_
    refine And.intro (fun _ => And.intro v1 (And.intro v2 (t_L_packet W (fun _ M1 W1 T1 => And.intro v1 (And.intro v2 (z_nn_of rfl (t_X12_packet (j0 0 M1 W1 T1) (fun _ M2 J2 K2 => nx M2 (t_WK W1 K2.1) J2 (y_X0 X T1 K2))))))))) ?_
    refine And.intro (fun _ => And.intro v1 (t_L_count W (fun _ M1 W1 T1 => And.intro v1 (z_nn_of rfl (t_X12_count (j0 0 M1 W1 T1) (fun _ M2 J2 K2 => nx M2 (t_WK W1 K2.1) J2 (y_X0 X T1 K2))))))) ?_
    refine And.intro (fun _ => And.intro v1 (t_L_inFlightAnew W (fun _ M1 W1 T1 => And.intro v1 (z_nn_of rfl (t_X12_inFlightAnew (j0 0 M1 W1 T1) (fun _ M2 J2 K2 => nx M2 (t_WK W1 K2.1) J2 (y_X0 X T1 K2))))))) ?_
    refine And.intro (fun _ => And.intro v1 (t_L_gotAnew W (fun _ M1 W1 T1 => And.intro v1 (z_nn_of rfl (t_X12_gotAnew (j0 0 M1 W1 T1) (fun _ M2 J2 K2 => nx M2 (t_WK W1 K2.1) J2 (y_X0 X T1 K2))))))) ?_
    exact fun _ => nx M Ws (j0 0 M Ws y_Trf) X
end LL
