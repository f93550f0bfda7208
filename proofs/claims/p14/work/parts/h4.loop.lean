/-! ===== THE LAW: every call, then the next ===== -/
theorem lg_sameA {f : Nat → Int64} {y : Int64} (h : f 0 = y) : lg_cmp (f ((0 : Int32).toNatClampNeg)) y = 0 := by
  rw [show (0 : Int32).toNatClampNeg = 0 by decide, h]
  unfold lg_cmp
  rw [if_neg (fun h => Int64.lt_irrefl h), if_pos rfl]
section LL
variable {L : Nat} {xs : Nat → Int32} {n : Nat}
theorem h_same {k cc : Nat} {M : z_Mem} (V : hV n (k + 1) cc M) : hV n k (cc + 1) M := by
  obtain ⟨⟨W, J⟩, P⟩ := V
  refine ⟨⟨y_Ws (c := 6 * k) (s := 32 * k) W, rf_w J (by omega) (by omega) (by omega) (by omega)⟩, ?_⟩
  rcases P with ⟨G, r, R, X⟩ | G
  · exact Or.inl ⟨G, r, R, jX_s X⟩
  · exact Or.inr G
set_option maxHeartbeats 4000000 in
theorem y_law68 (hL : L ≤ 3072) : ∀ (k m cc : Nat) (x4 : Int32) (M : z_Mem), k < m → x4.toInt + 6 * k = 3072 → 0 ≤ x4.toInt → cc + k ≤ 512 → hV n k cc M → P_L_law_23 L xs (fun x _ => x = 1) m (some (n + 0)) (some (n + 40)) (some (n + 107)) x4 M := by
  have TL : (nI L).toInt = L := i_ofNat (by omega)
  have TL6 : (nI L - 6).toInt = (L : Int) - 6 := i_subE TL (show (6 : Int32).toInt = 6 from rfl) (by omega) (by omega)
  have hlt : ∀ x : Int32, ¬ (nI L - 6) < x → ¬ (L : Int) - 6 < x.toInt := fun x h => i_nlt h TL6 rfl
  have hlt2 : ∀ x : Int32, (L : Int) - 6 < x.toInt → (nI L - 6) < x := fun x h => by rw [Int32.lt_iff_toInt_lt, TL6]; exact h
  clear TL TL6
  intro k
  induction k with
  | zero =>
    intro m cc x4 M hm hx h0 hc V
    cases m with
    | zero => exact absurd hm (Nat.not_lt_zero _)
    | succ m => exact And.intro (fun _ => rfl) (fun c => absurd (hlt2 x4 (by omega)) c)
  | succ k ih =>
    intro m cc x4 M hm hx h0 hc V
    cases m with
    | zero => exact absurd hm (Nat.not_lt_zero _)
    | succ m =>
    refine And.intro (fun _ => rfl) (fun c => ?_)
    have c' := hlt x4 c
    have hcc : cc ≤ 511 := by omega
    have hj : ∀ j : Int32, 0 ≤ j.toInt → j.toInt ≤ 5 → vp_in (x4 + j) L := fun j g0 h5 => vp_of (L := L) rfl (by rw [i_addE rfl rfl (by omega) (by omega)]; omega) (by rw [i_addE rfl rfl (by omega) (by omega)]; omega)
    have v0 : vp_in x4 L := vp_of (L := L) rfl (by omega) (by omega)
    have v1 := hj 1 (by decide) (by decide)
    have v2 := hj 2 (by decide) (by decide)
    have v3 := hj 3 (by decide) (by decide)
    have v4 := hj 4 (by decide) (by decide)
    have v5 := hj 5 (by decide) (by decide)
    have ny : ∀ y, y = x4 + 6 → y.toInt = x4.toInt + 6 := fun y ey => by rw [ey]; exact i_addE rfl (show (6 : Int32).toInt = 6 from rfl) (by omega) (by omega)
    have nx : ∀ M', hV n k (cc + 1) M' → P_L_law_1049 L xs (fun x _ => x = 1) (fun q0 q1 q2 q3 qM => P_L_law_23 L xs (fun x _ => x = 1) m q0 q1 q2 q3 qM) (some (n + 0)) (some (n + 40)) (some (n + 107)) x4 M' := fun M' V' y ey => by
      have ty := ny y ey
      exact ih m (cc + 1) y M' (by omega) (by omega) (by omega) (by omega) V'
    refine And.intro v0 ?_
    refine And.intro (fun _ => And.intro v1 (And.intro v2 (And.intro v3 (And.intro v4 (And.intro v5 (a_L_setPath hcc V (fun _ M1 U => And.intro v1 (And.intro v2 (And.intro v3 (And.intro v4 (And.intro v5 (z_nn_of rfl (a_X_setPath U (fun M2 V2 => nx M2 V2)))))))))))))) ?_
    refine And.intro (fun _ => And.intro v1 (And.intro v2 (And.intro (fun c1 => a_L_setUp hcc V (fun _ M1 U => And.intro v1 (And.intro v2 (And.intro (fun _ => z_nn_of rfl (a_X_setUp U (fun _ M2 V2 => nx M2 V2))) (fun h => absurd c1 h))))) (fun c1 => a_L_setUp hcc V (fun _ M1 U => And.intro v1 (And.intro v2 (And.intro (fun h => absurd h c1) (fun _ => z_nn_of rfl (a_X_setUp U (fun _ M2 V2 => nx M2 V2)))))))))) ?_
    refine And.intro (fun _ => And.intro v1 (And.intro v2 (And.intro (fun c1 => And.intro v3 (a_L_lose hcc V (fun _ M1 U => And.intro v1 (And.intro v2 (And.intro (fun _ => And.intro v3 (z_nn_of rfl (a_X_lose U (fun M2 V2 => nx M2 V2)))) (fun h => absurd c1 h)))))) (fun c1 => And.intro v3 (a_L_lose hcc V (fun _ M1 U => And.intro v1 (And.intro v2 (And.intro (fun h => absurd h c1) (fun _ => And.intro v3 (z_nn_of rfl (a_X_lose U (fun M2 V2 => nx M2 V2)))))))))))) ?_
    refine And.intro (fun _ => And.intro v1 (And.intro v2 (And.intro v3 (a_L_late hcc V (fun _ M1 U => And.intro v1 (And.intro v2 (And.intro v3 (z_nn_of rfl (a_X_late U (fun M2 V2 => nx M2 V2)))))))))) ?_
    refine And.intro (fun _ => And.intro v1 (And.intro v2 (a_L_foreign hcc V (fun _ M1 U => And.intro v1 (And.intro v2 (z_nn_of rfl (a_X_foreign U (fun _ M2 V2 => nx M2 V2)))))))) ?_
    refine And.intro (fun _ => And.intro v1 (And.intro (fun c1 => z_nn_of rfl (a_L_setCookies (n := n) V (fun _ M1 U => And.intro v1 (And.intro (fun _ => z_nn_of rfl (a_X_setCookies U (fun _ M2 V2 => nx M2 V2))) (fun h => absurd c1 h))))) (fun c1 => z_nn_of rfl (a_L_setCookies (n := n) V (fun _ M1 U => And.intro v1 (And.intro (fun h => absurd h c1) (fun _ => z_nn_of rfl (a_X_setCookies U (fun _ M2 V2 => nx M2 V2))))))))) ?_
    refine And.intro (fun _ => And.intro v1 (And.intro v2 (a_L_read hcc V (fun _ M1 U => And.intro v1 (And.intro v2 (z_nn_of rfl (a_X_read U (fun _ M2 V2 => nx M2 V2)))))))) ?_
    refine And.intro (fun _ => z_nn_of rfl (a_L_loseState (n := n) V (fun M1 U => z_nn_of rfl (a_X_loseState U (fun M2 V2 => nx M2 V2))))) ?_
    refine And.intro (fun _ => And.intro v1 (a_L_connect hcc V (fun _ M1 U => And.intro v1 (z_nn_of rfl (a_X_connect U (fun M2 V2 => nx M2 V2)))))) ?_
    refine And.intro (fun _ => And.intro v1 (And.intro v2 (a_L_write hcc V (fun _ M1 U => And.intro v1 (And.intro v2 (z_nn_of rfl (a_X_write U (fun _ M2 V2 => nx M2 V2)))))))) ?_
    refine And.intro (fun _ => And.intro v1 (And.intro v2 (a_L_setWay hcc V (fun _ M1 U => And.intro v1 (And.intro v2 (z_nn_of rfl (a_X_setWay U (fun _ M2 V2 => nx M2 V2)))))))) ?_
    refine And.intro (fun _ => And.intro v1 (a_L_check hcc V (fun _ M1 U => And.intro v1 (z_nn_of rfl (a_X_check U (fun M2 V2 => nx M2 V2)))))) ?_
    refine And.intro (fun _ => And.intro v1 (a_L_use V (fun x M1 U => And.intro v1 (z_nn_of rfl (U _ (fun x0 M2 ht ha hv => And.intro (fun _ => And.intro (fun h0 => z_nn_of rfl (And.intro (vp_of (L := 1) (s_l107 hv.1.1.2.2.1) (by decide) (by decide)) (And.intro (fun _ => nx M2 hv) (fun h => absurd (lg_sameA (ha h0)) h)))) (fun _ => nx M2 hv)) (fun h => absurd ht h))))))) ?_
    refine And.intro (fun _ => a_L_changeKey hcc V (fun _ M1 U => z_nn_of rfl (a_X_changeKey U (fun _ M2 V2 => nx M2 V2)))) ?_
    refine And.intro (fun _ => a_L_close hcc V (fun _ M1 U => z_nn_of rfl (a_X_close U (fun M2 V2 => nx M2 V2)))) ?_
    refine And.intro (fun _ => And.intro v1 (a_L_tick hcc V (fun _ M1 U => And.intro v1 (z_nn_of rfl (a_X_tick U (fun _ M2 V2 => nx M2 V2)))))) ?_
    refine And.intro (fun _ => z_nn_of rfl (a_L_now (n := n) V (fun _ M1 U => z_nn_of rfl (a_X_now U (fun _ M2 V2 => nx M2 V2))))) ?_
    refine And.intro (fun _ => And.intro v1 (a_L_state V (fun _ M1 U => And.intro v1 (z_nn_of rfl (a_X_state U (fun _ M2 V2 => nx M2 V2)))))) ?_
    refine And.intro (fun _ => And.intro v1 (And.intro v2 (a_L_path V (fun _ M1 U => And.intro v1 (And.intro v2 (z_nn_of rfl (a_X_path U (fun _ M2 V2 => nx M2 V2)))))))) ?_
    refine And.intro (fun _ => And.intro v1 (And.intro v2 (a_L_stream V (fun _ M1 U => And.intro v1 (And.intro v2 (z_nn_of rfl (a_X_stream U (fun _ M2 V2 => nx M2 V2)))))))) ?_
    refine And.intro (fun _ => z_nn_of rfl (a_L_credit (n := n) V (fun _ M1 U => z_nn_of rfl (a_X_credit U (fun _ M2 V2 => nx M2 V2))))) ?_
    refine And.intro (fun _ => z_nn_of rfl (a_L_packets (n := n) V (fun _ M1 U => z_nn_of rfl (a_X_packets U (fun _ M2 V2 => nx M2 V2))))) ?_
    refine And.intro (fun _ => And.intro v1 (And.intro v2 (a_L_packet V (fun _ M1 U => And.intro v1 (And.intro v2 (z_nn_of rfl (a_X_packet U (fun _ M2 V2 => nx M2 V2)))))))) ?_
    refine And.intro (fun _ => And.intro v1 (a_L_count V (fun _ M1 U => And.intro v1 (z_nn_of rfl (a_X_count U (fun _ M2 V2 => nx M2 V2)))))) ?_
    refine And.intro (fun _ => And.intro v1 (a_L_inFlightAnew V (fun _ M1 U => And.intro v1 (z_nn_of rfl (a_X_inFlightAnew U (fun _ M2 V2 => nx M2 V2)))))) ?_
    refine And.intro (fun _ => And.intro v1 (a_L_gotAnew V (fun _ M1 U => And.intro v1 (z_nn_of rfl (a_X_gotAnew U (fun _ M2 V2 => nx M2 V2)))))) ?_
    exact fun _ => nx M (h_same V)
end LL
