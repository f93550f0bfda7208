/-! ===== THE LAW: every call, then the next, with what is alike ===== -/
def y_VX (n k : Nat) (M : z_Mem) : Prop := y_V n k M ∧ y_X n M
section LL
variable {L : Nat} {xs : Nat → Int32} {n : Nat}
theorem y_law68 (hL : L ≤ 3072) : ∀ (k m : Nat) (x4 : Int32) (M : z_Mem), k < m → x4.toInt + 6 * k = 3072 → 0 ≤ x4.toInt → y_VX n k M → P_L_law_23 L xs (fun x _ => x = 1) m (some (n + 0)) (some (n + 40)) (some (n + 107)) x4 M := by
  have TL : (nI L).toInt = L := i_ofNat (by omega)
  have TL6 : (nI L - 6).toInt = (L : Int) - 6 := i_subE TL (show (6 : Int32).toInt = 6 from rfl) (by omega) (by omega)
  have hlt : ∀ x : Int32, ¬ (nI L - 6) < x → ¬ (L : Int) - 6 < x.toInt := fun x h => i_nlt h TL6 rfl
  have hlt2 : ∀ x : Int32, (L : Int) - 6 < x.toInt → (nI L - 6) < x := fun x h => by rw [Int32.lt_iff_toInt_lt, TL6]; exact h
  clear TL TL6
  intro k
  induction k with
  | zero =>
    intro m x4 M hm hx h0 V
    cases m with
    | zero => exact absurd hm (Nat.not_lt_zero _)
    | succ m => exact And.intro (fun _ => rfl) (fun c => absurd (hlt2 x4 (by omega)) c)
  | succ k ih =>
    intro m x4 M hm hx h0 V
    cases m with
    | zero => exact absurd hm (Nat.not_lt_zero _)
    | succ m =>
    refine And.intro (fun _ => rfl) (fun c => ?_)
    have c' := hlt x4 c
    have W : y_W n (6 * k + 6) (32 * k + 32) M := V.1.1
    have J := V.1.2
    have X := V.2
    have hj : ∀ j : Int32, 0 ≤ j.toInt → j.toInt ≤ 5 → vp_in (x4 + j) L := fun j g0 h5 => vp_of (L := L) rfl (by rw [i_addE rfl rfl (by omega) (by omega)]; omega) (by rw [i_addE rfl rfl (by omega) (by omega)]; omega)
    have v0 : vp_in x4 L := vp_of (L := L) rfl (by omega) (by omega)
    have v1 := hj 1 (by decide) (by decide)
    have v2 := hj 2 (by decide) (by decide)
    have v3 := hj 3 (by decide) (by decide)
    have v4 := hj 4 (by decide) (by decide)
    have v5 := hj 5 (by decide) (by decide)
    have ny : ∀ y, y = x4 + 6 → y.toInt = x4.toInt + 6 := fun y ey => by rw [ey]; exact i_addE rfl (show (6 : Int32).toInt = 6 from rfl) (by omega) (by omega)
    have nx : ∀ M', y_W n (6 * k) (32 * k) M' → rf_J False n (k + 60) (k + 60) (k + 60) 0 M' M' → y_X n M' → P_L_law_1032 L xs (fun x _ => x = 1) (fun q0 q1 q2 q3 qM => P_L_law_23 L xs (fun x _ => x = 1) m q0 q1 q2 q3 qM) (some (n + 0)) (some (n + 40)) (some (n + 107)) x4 M' := fun M' W' J' X' y ey => by
      have ty := ny y ey
      exact ih m y M' (by omega) (by omega) (by omega) ⟨⟨W', J'⟩, X'⟩
    have jj : ∀ (w : Nat) (M1 : z_Mem), y_W n (6 * k) (32 * k) M1 → y_RT w n M M1 → rf_J False n (k + 60 + 1) (k + 60 + 1) (k + 60 + 1) 0 M1 M1 := fun w M1 W1 T1 => rf_w (t_JT J W1.2.2.1 T1) (by omega) (by omega) (by omega) (by omega)
    have j0 : ∀ (w : Nat) (M1 : z_Mem), y_W n (6 * k) (32 * k) M1 → y_RT w n M M1 → rf_J False n (k + 60) (k + 60) (k + 60) 0 M1 M1 := fun w M1 W1 T1 => rf_w (t_JT J W1.2.2.1 T1) (by omega) (by omega) (by omega) (by omega)
    have Ws : y_W n (6 * k) (32 * k) M := y_Ws W
    refine And.intro v0 ?_
    refine And.intro (fun _ => And.intro v1 (And.intro v2 (And.intro v3 (And.intro v4 (And.intro v5 (t_L_setPath W (fun r M1 hr W1 T1 => And.intro v1 (And.intro v2 (And.intro v3 (And.intro v4 (And.intro v5 (z_nn_of rfl (t_X12_setPath (j0 0 M1 W1 T1) (fun M2 J2 K2 F2 h2 => nx M2 (t_WK W1 K2.1) J2 (y_Xf X T1 (by decide) K2.1 F2))))))))))))))) ?_
    refine And.intro (fun _ => And.intro v1 (And.intro v2 (And.intro (fun c1 => t_L_setUp W (fun r M1 W1 C => And.intro v1 (And.intro v2 (And.intro (fun _ => z_nn_of rfl (t_X12_setUp (j0 388 M1 W1 (tSU C)) (fun _ M2 J2 K2 F2 => nx M2 (t_WK W1 K2) J2 (y_Xf X (tSU C) (by decide) K2 F2)))) (fun _ => z_nn_of rfl (t_X12_setUp (j0 388 M1 W1 (tSU C)) (fun _ M2 J2 K2 F2 => nx M2 (t_WK W1 K2) J2 (y_Xf X (tSU C) (by decide) K2 F2)))))))) (fun c1 => t_L_setUp W (fun r M1 W1 C => And.intro v1 (And.intro v2 (And.intro (fun _ => z_nn_of rfl (t_X12_setUp (j0 388 M1 W1 (tSU C)) (fun _ M2 J2 K2 F2 => nx M2 (t_WK W1 K2) J2 (y_Xf X (tSU C) (by decide) K2 F2)))) (fun _ => z_nn_of rfl (t_X12_setUp (j0 388 M1 W1 (tSU C)) (fun _ M2 J2 K2 F2 => nx M2 (t_WK W1 K2) J2 (y_Xf X (tSU C) (by decide) K2 F2))))))))))) ?_
    refine And.intro (fun _ => And.intro v1 (And.intro v2 (And.intro (fun _ => And.intro v3 (t_L_lose W (fun _ M1 W1 T1 => And.intro v1 (And.intro v2 (And.intro (fun _ => And.intro v3 (z_nn_of rfl (t_X12_lose (j0 0 M1 W1 (T1)) (fun M2 J2 K2 F2 => nx M2 (t_WK W1 K2.1) J2 (y_Xf X (T1) (by decide) K2.1 F2))))) (fun _ => And.intro v3 (z_nn_of rfl (t_X12_lose (j0 0 M1 W1 (T1)) (fun M2 J2 K2 F2 => nx M2 (t_WK W1 K2.1) J2 (y_Xf X (T1) (by decide) K2.1 F2)))))))))) (fun _ => And.intro v3 (t_L_lose W (fun _ M1 W1 T1 => And.intro v1 (And.intro v2 (And.intro (fun _ => And.intro v3 (z_nn_of rfl (t_X12_lose (j0 0 M1 W1 (T1)) (fun M2 J2 K2 F2 => nx M2 (t_WK W1 K2.1) J2 (y_Xf X (T1) (by decide) K2.1 F2))))) (fun _ => And.intro v3 (z_nn_of rfl (t_X12_lose (j0 0 M1 W1 (T1)) (fun M2 J2 K2 F2 => nx M2 (t_WK W1 K2.1) J2 (y_Xf X (T1) (by decide) K2.1 F2))))))))))))) ?_
    refine And.intro (fun _ => And.intro v1 (And.intro v2 (And.intro v3 (t_L_late W (fun _ M1 W1 T1 => And.intro v1 (And.intro v2 (And.intro v3 (z_nn_of rfl (t_X12_late (j0 0 M1 W1 (T1)) (fun M2 J2 K2 F2 => nx M2 (t_WK W1 K2.1) J2 (y_Xf X (T1) (by decide) K2.1 F2))))))))))) ?_
    refine And.intro (fun _ => And.intro v1 (And.intro v2 (t_L_foreign W (fun _ M1 W1 T1 => And.intro v1 (And.intro v2 (z_nn_of rfl (t_X12_foreign (j0 0 M1 W1 (T1)) (fun _ M2 J2 K2 F2 => nx M2 (t_WK W1 K2.1) J2 (y_Xf X (T1) (by decide) K2.1 F2))))))))) ?_
    refine And.intro (fun _ => And.intro v1 (And.intro (fun c1 => z_nn_of rfl (t_X11_setCookies (n := n) (y_WI W) (fun M1 e1 D => And.intro v1 (And.intro (fun _ => z_nn_of rfl (t_X12_setCookies (j0 1027 M1 (y_Wd W D) (y_DT D)) (fun _ M2 J2 K2 F2 => nx M2 (t_WK (y_Wd W D) K2) J2 (y_Xf X (y_DT D) (by decide) K2 F2)))) (fun _ => z_nn_of rfl (t_X12_setCookies (j0 1027 M1 (y_Wd W D) (y_DT D)) (fun _ M2 J2 K2 F2 => nx M2 (t_WK (y_Wd W D) K2) J2 (y_Xf X (y_DT D) (by decide) K2 F2)))))))) (fun c1 => z_nn_of rfl (t_X11_setCookies (n := n) (y_WI W) (fun M1 e1 D => And.intro v1 (And.intro (fun _ => z_nn_of rfl (t_X12_setCookies (j0 1027 M1 (y_Wd W D) (y_DT D)) (fun _ M2 J2 K2 F2 => nx M2 (t_WK (y_Wd W D) K2) J2 (y_Xf X (y_DT D) (by decide) K2 F2)))) (fun _ => z_nn_of rfl (t_X12_setCookies (j0 1027 M1 (y_Wd W D) (y_DT D)) (fun _ M2 J2 K2 F2 => nx M2 (t_WK (y_Wd W D) K2) J2 (y_Xf X (y_DT D) (by decide) K2 F2)))))))))) ?_
    refine And.intro (fun _ => And.intro v1 (And.intro v2 (t_L_read W (fun _ M1 W1 T1 => And.intro v1 (And.intro v2 (z_nn_of rfl (t_X12_readz (rf_w (t := k + 60) (s := k + 60 + 1) (q := k + 60 + 1) (z := 0) (jj 0 M1 W1 (T1)) (by omega) (by omega) (by omega) (by omega)) (y_QT (T1) X.2) (fun _ M2 J2 K2 I2 Q2 => nx M2 (t_WK W1 K2.1) J2 (y_Xz X (T1) (by decide) K2.1 I2 Q2))))))))) ?_
    refine And.intro (fun _ => z_nn_of rfl (t_X11_loseState (n := n) (y_WI W) (fun M1 D => z_nn_of rfl (t_X12_loseStatez (j0 0 M1 (y_Wd W D) (y_DT D)) (y_QT (y_DT D) X.2) (fun M2 J2 K2 I2 Q2 => nx M2 (t_WK (y_Wd W D) K2.1) J2 (y_Xz X (y_DT D) (by decide) K2.1 I2 Q2)))))) ?_
    refine And.intro (fun _ => And.intro v1 (t_L_connect W (fun r M1 W1 C => And.intro v1 (z_nn_of rfl (t_X12_connectz (jj 135 M1 W1 (tCO C)) (y_QT (tCO C) X.2) (fun M2 J2 K2 O2 Q2 => have j := j_CO X C K2.1 O2 Q2; And.intro (fun _ => nx M2 (t_WK W1 K2.1) J2 j.1) (fun h => absurd j.2 h))))))) ?_
    refine And.intro (fun _ => And.intro v1 (And.intro v2 (t_L_write W (fun r M1 W1 C => And.intro v1 (And.intro v2 (z_nn_of rfl (t_X12_write (j0 1152 M1 W1 (tWR C)) (fun _ M2 J2 K2 F2 => nx M2 (t_WK W1 K2) J2 (y_Xf X (tWR C) (by decide) K2 F2))))))))) ?_
    refine And.intro (fun _ => And.intro v1 (And.intro v2 (t_L_setWay W (fun r M1 W1 C => And.intro v1 (And.intro v2 (z_nn_of rfl (t_X12_setWay (j0 256 M1 W1 (tSW C)) (fun _ M2 J2 K2 F2 => nx M2 (t_WK W1 K2) J2 (y_Xf X (tSW C) (by decide) K2 F2))))))))) ?_
    refine And.intro (fun _ => And.intro v1 (t_L_check W (fun _ M1 W1 T1 => And.intro v1 (z_nn_of rfl (t_X12_checkz (jj 0 M1 W1 (T1)) (y_QT (T1) X.2) (fun M2 J2 K2 I2 Q2 => nx M2 (t_WK W1 K2.1) J2 (y_Xz X (T1) (by decide) K2.1 I2 Q2))))))) ?_
    refine And.intro (fun _ => And.intro v1 (t_L_use W (fun _ M1 W1 T1 => And.intro v1 (z_nn_of rfl (t_X12_use (j0 0 M1 W1 (T1)) (fun _ M2 J2 K2 F2 => nx M2 (t_WK W1 K2.1) J2 (y_Xf X (T1) (by decide) K2.1 F2))))))) ?_
    refine And.intro (fun _ => t_L_changeKey W (fun _ M1 W1 T1 => z_nn_of rfl (t_X12_changeKey (j0 0 M1 W1 (T1)) (fun _ M2 J2 K2 F2 => nx M2 (t_WK W1 K2.1) J2 (y_Xf X (T1) (by decide) K2.1 F2))))) ?_
    refine And.intro (fun _ => t_L_close W (fun _ M1 W1 T1 => z_nn_of rfl (t_X12_closez (jj 0 M1 W1 (T1)) (y_QT (T1) X.2) (fun M2 J2 K2 I2 Q2 => nx M2 (t_WK W1 K2.1) J2 (y_Xz X (T1) (by decide) K2.1 I2 Q2))))) ?_
    refine And.intro (fun _ => And.intro v1 (t_L_tick W (fun r M1 W1 C => And.intro v1 (z_nn_of rfl (t_X12_tickz (j0 645 M1 W1 (tTI C)) (y_QT (tTI C) X.2) (fun _ M2 J2 K2 I2 Q2 => nx M2 (t_WK W1 K2) J2 (y_Xz X (tTI C) (by decide) K2 I2 Q2))))))) ?_
    refine And.intro (fun _ => z_nn_of rfl (t_X11_now (n := n) (y_WI W) (fun _ => z_nn_of rfl (t_X12_now (j0 0 M Ws y_Trf) (fun _ M2 J2 K2 F2 => nx M2 (t_WK Ws K2.1) J2 (y_Xf X (y_Trf (w := 0)) (by decide) K2.1 F2)))))) ?_
    refine And.intro (fun _ => And.intro v1 (t_L_state W (fun _ M1 W1 T1 => And.intro v1 (z_nn_of rfl (t_X12_state (j0 0 M1 W1 (T1)) (fun _ M2 J2 K2 F2 => nx M2 (t_WK W1 K2.1) J2 (y_Xf X (T1) (by decide) K2.1 F2))))))) ?_
    refine And.intro (fun _ => And.intro v1 (And.intro v2 (t_L_path W (fun _ M1 W1 T1 => And.intro v1 (And.intro v2 (z_nn_of rfl (t_X12_path (j0 0 M1 W1 (T1)) (fun _ M2 J2 K2 F2 => nx M2 (t_WK W1 K2.1) J2 (y_Xf X (T1) (by decide) K2.1 F2))))))))) ?_
    refine And.intro (fun _ => And.intro v1 (And.intro v2 (t_L_stream W (fun _ M1 W1 T1 => And.intro v1 (And.intro v2 (z_nn_of rfl (t_X12_stream (j0 0 M1 W1 (T1)) (fun _ M2 J2 K2 F2 => nx M2 (t_WK W1 K2.1) J2 (y_Xf X (T1) (by decide) K2.1 F2))))))))) ?_
    refine And.intro (fun _ => z_nn_of rfl (t_X11_credit (n := n) (y_WI W) (fun _ => z_nn_of rfl (t_X12_credit (j0 0 M Ws y_Trf) (fun _ M2 J2 K2 F2 => nx M2 (t_WK Ws K2.1) J2 (y_Xf X (y_Trf (w := 0)) (by decide) K2.1 F2)))))) ?_
    refine And.intro (fun _ => z_nn_of rfl (t_X11_packets (n := n) (y_WI W) (fun _ => z_nn_of rfl (t_X12_packets (j0 0 M Ws y_Trf) (fun _ M2 J2 K2 F2 => nx M2 (t_WK Ws K2.1) J2 (y_Xf X (y_Trf (w := 0)) (by decide) K2.1 F2)))))) ?_
    refine And.intro (fun _ => And.intro v1 (And.intro v2 (t_L_packet W (fun _ M1 W1 T1 => And.intro v1 (And.intro v2 (z_nn_of rfl (t_X12_packet (j0 0 M1 W1 (T1)) (fun _ M2 J2 K2 F2 => nx M2 (t_WK W1 K2.1) J2 (y_Xf X (T1) (by decide) K2.1 F2))))))))) ?_
    refine And.intro (fun _ => And.intro v1 (t_L_count W (fun _ M1 W1 T1 => And.intro v1 (z_nn_of rfl (t_X12_count (j0 0 M1 W1 (T1)) (fun _ M2 J2 K2 F2 => nx M2 (t_WK W1 K2.1) J2 (y_Xf X (T1) (by decide) K2.1 F2))))))) ?_
    refine And.intro (fun _ => And.intro v1 (t_L_inFlightAnew W (fun _ M1 W1 T1 => And.intro v1 (z_nn_of rfl (t_X12_inFlightAnew (j0 0 M1 W1 (T1)) (fun _ M2 J2 K2 F2 => nx M2 (t_WK W1 K2.1) J2 (y_Xf X (T1) (by decide) K2.1 F2))))))) ?_
    refine And.intro (fun _ => And.intro v1 (t_L_gotAnew W (fun _ M1 W1 T1 => And.intro v1 (z_nn_of rfl (t_X12_gotAnew (j0 0 M1 W1 (T1)) (fun _ M2 J2 K2 F2 => nx M2 (t_WK W1 K2.1) J2 (y_Xf X (T1) (by decide) K2.1 F2))))))) ?_
    exact fun _ => nx M Ws (j0 0 M Ws y_Trf) X
end LL
