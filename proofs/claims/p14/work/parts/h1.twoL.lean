/-! ===== THE LAW: the class's calls, both phases ===== -/
section HB
variable {n k cc : Nat} {u : Int32} {M M1 M2 : z_Mem} {p2 p3 p4 p5 p6 : Int32} {Post : Int32 → z_Mem → Prop}
theorem v_L_foreig2 {t q z s1 c s : Nat} {r : q_R} (W : y_W n (c + 6) (s + 32) M) (X : jX n cc M r) (I : rf_I t s1 q z r.1 r.2) (k : y_Kx n c s cc M (qF_foreign p2 p3 r).2 Post) : P_L_foreign (some (n + 0)) p2 p3 (some (n + 107)) M Post :=
  z_nn_of rfl (u_X11_foreign (n := n) (y_WI W) (fun hp h2 r0 M1 D e => u_out rfl (y_Wd W D) (y_DT D) (jX_s (x_foreign X I hp h2 e)) k) (fun h E hE M1 D => hE.elim (fun e => Or.inl ⟨e, k 1 M1 (y_Wd W D.1) (y_DT D.1) (jX_thr X D.2 (q_foreign0 h))⟩) (fun e => Or.inr ⟨e, k 2 M1 (y_Wd W D.1) (y_DT D.1) (jX_thr X D.2 (q_foreign0 h))⟩)))
theorem a_L_setPath (hcc : cc ≤ 511) (V : hV n (k + 1) cc M) (K : ∀ x M1, hMid n k (cc + 1) (fun r => qF_setPath p2 p3 p4 p5 p6 r) M1 → Post x M1) : P_L_setPath (some (n + 0)) p2 p3 p4 p5 p6 M Post := by
  obtain ⟨⟨W, J⟩, P⟩ := V
  rcases P with ⟨⟨u, hc, hq⟩, r, R, X⟩ | ⟨u, hc, hq⟩
  · exact w_L_setPath hc (v_L_setPath (c := 6 * k) (s := 32 * k) W X (fun x M1 W1 T1 X1 rc => K x M1 (h_A J W1 T1 rc hq R X1)))
  · exact w_L_setPath hc (t_L_setPath (c := 6 * k) (s := 32 * k) W (fun x M1 _ W1 T1 rc => K x M1 (h_B J W1 T1 rc hq)))
theorem a_L_setUp (hcc : cc ≤ 511) (V : hV n (k + 1) cc M) (K : ∀ x M1, hMid n k (cc + 1) (fun r => (qF_setUp p2 p3 r).2) M1 → Post x M1) : P_L_setUp (some (n + 0)) p2 p3 (some (n + 107)) M Post := by
  obtain ⟨⟨W, J⟩, P⟩ := V
  rcases P with ⟨⟨u, hc, hq⟩, r, R, X⟩ | ⟨u, hc, hq⟩
  · exact w_L_setUp hc (v_L_setUp (c := 6 * k) (s := 32 * k) W X (fun x M1 W1 T1 X1 rc => K x M1 (h_A J W1 T1 rc hq R X1)))
  · exact w_L_setUp hc (t_L_setUp (c := 6 * k) (s := 32 * k) W (fun x M1 W1 T1 rc => K x M1 (h_B J W1 T1 rc hq)))
theorem a_L_lose (hcc : cc ≤ 511) (V : hV n (k + 1) cc M) (K : ∀ x M1, hMid n k (cc + 1) (fun r => qF_lose p2 p3 p4 r) M1 → Post x M1) : P_L_lose (some (n + 0)) p2 p3 p4 M Post := by
  obtain ⟨⟨W, J⟩, P⟩ := V
  rcases P with ⟨⟨u, hc, hq⟩, r, R, X⟩ | ⟨u, hc, hq⟩
  · exact w_L_lose hc (v_L_lose (c := 6 * k) (s := 32 * k) W X (fun x M1 W1 T1 X1 rc => K x M1 (h_A J W1 T1 rc hq R X1)))
  · exact w_L_lose hc (t_L_lose (c := 6 * k) (s := 32 * k) W (fun x M1 W1 T1 rc => K x M1 (h_B J W1 T1 rc hq)))
theorem a_L_late (hcc : cc ≤ 511) (V : hV n (k + 1) cc M) (K : ∀ x M1, hMid n k (cc + 1) (fun r => qF_late p2 p3 p4 r) M1 → Post x M1) : P_L_late (some (n + 0)) p2 p3 p4 M Post := by
  obtain ⟨⟨W, J⟩, P⟩ := V
  rcases P with ⟨⟨u, hc, hq⟩, r, R, X⟩ | ⟨u, hc, hq⟩
  · exact w_L_late hc (v_L_late (c := 6 * k) (s := 32 * k) W X (fun x M1 W1 T1 X1 rc => K x M1 (h_A J W1 T1 rc hq R X1)))
  · exact w_L_late hc (t_L_late (c := 6 * k) (s := 32 * k) W (fun x M1 W1 T1 rc => K x M1 (h_B J W1 T1 rc hq)))
theorem a_L_foreign (hcc : cc ≤ 511) (V : hV n (k + 1) cc M) (K : ∀ x M1, hMid n k (cc + 1) (fun r => (qF_foreign p2 p3 r).2) M1 → Post x M1) : P_L_foreign (some (n + 0)) p2 p3 (some (n + 107)) M Post := by
  obtain ⟨⟨W, J⟩, P⟩ := V
  rcases P with ⟨⟨u, hc, hq⟩, r, R, X⟩ | ⟨u, hc, hq⟩
  · exact w_L_foreign hc (v_L_foreig2 (c := 6 * k) (s := 32 * k) W X (rI_of R (h_j0 (h_jw J))) (fun x M1 W1 T1 X1 rc => K x M1 (h_A J W1 T1 rc hq R X1)))
  · exact w_L_foreign hc (t_L_foreign (c := 6 * k) (s := 32 * k) W (fun x M1 W1 T1 rc => K x M1 (h_B J W1 T1 rc hq)))
theorem a_L_read (hcc : cc ≤ 511) (V : hV n (k + 1) cc M) (K : ∀ x M1, hMid n k (cc + 1) (fun r => (qF_read p2 p3 r).2) M1 → Post x M1) : P_L_read (some (n + 0)) p2 p3 (some (n + 107)) M Post := by
  obtain ⟨⟨W, J⟩, P⟩ := V
  rcases P with ⟨⟨u, hc, hq⟩, r, R, X⟩ | ⟨u, hc, hq⟩
  · exact w_L_read hc (v_L_read (c := 6 * k) (s := 32 * k) W X hcc (rI_of R (h_jr (h_jw J))) (fun x M1 W1 T1 X1 rc => K x M1 (h_A J W1 T1 rc hq R X1)))
  · exact w_L_read hc (t_L_read (c := 6 * k) (s := 32 * k) W (fun x M1 W1 T1 rc => K x M1 (h_B J W1 T1 rc hq)))
theorem a_L_connect (hcc : cc ≤ 511) (V : hV n (k + 1) cc M) (K : ∀ x M1, hMid n k (cc + 1) (fun r => qF_connect p2 r) M1 → Post x M1) : P_L_connect (some (n + 0)) p2 M Post := by
  obtain ⟨⟨W, J⟩, P⟩ := V
  rcases P with ⟨⟨u, hc, hq⟩, r, R, X⟩ | ⟨u, hc, hq⟩
  · exact w_L_connect hc (v_L_connect (c := 6 * k) (s := 32 * k) W X (rI_of R (rf_w (t := k + 60 + 1) (s := k + 60) (q := k + 60) (z := 0) J (by omega) (by omega) (by omega) (by omega))) (fun x M1 W1 T1 X1 rc => K x M1 (h_A J W1 T1 rc hq R X1)))
  · exact w_L_connect hc (t_L_connect (c := 6 * k) (s := 32 * k) W (fun x M1 W1 T1 rc => K x M1 (h_B J W1 T1 rc hq)))
theorem a_L_write (hcc : cc ≤ 511) (V : hV n (k + 1) cc M) (K : ∀ x M1, hMid n k (cc + 1) (fun r => (qF_write p2 p3 r).2) M1 → Post x M1) : P_L_write (some (n + 0)) p2 p3 (some (n + 107)) M Post := by
  obtain ⟨⟨W, J⟩, P⟩ := V
  rcases P with ⟨⟨u, hc, hq⟩, r, R, X⟩ | ⟨u, hc, hq⟩
  · exact w_L_write hc (v_L_write (c := 6 * k) (s := 32 * k) W X (fun x M1 W1 T1 X1 rc => K x M1 (h_A J W1 T1 rc hq R X1)))
  · exact w_L_write hc (t_L_write (c := 6 * k) (s := 32 * k) W (fun x M1 W1 T1 rc => K x M1 (h_B J W1 T1 rc hq)))
theorem a_L_setWay (hcc : cc ≤ 511) (V : hV n (k + 1) cc M) (K : ∀ x M1, hMid n k (cc + 1) (fun r => (qF_setWay p2 p3 r).2) M1 → Post x M1) : P_L_setWay (some (n + 0)) p2 p3 (some (n + 107)) M Post := by
  obtain ⟨⟨W, J⟩, P⟩ := V
  rcases P with ⟨⟨u, hc, hq⟩, r, R, X⟩ | ⟨u, hc, hq⟩
  · exact w_L_setWay hc (v_L_setWay (c := 6 * k) (s := 32 * k) W X (fun x M1 W1 T1 X1 rc => K x M1 (h_A J W1 T1 rc hq R X1)))
  · exact w_L_setWay hc (t_L_setWay (c := 6 * k) (s := 32 * k) W (fun x M1 W1 T1 rc => K x M1 (h_B J W1 T1 rc hq)))
theorem a_L_check (hcc : cc ≤ 511) (V : hV n (k + 1) cc M) (K : ∀ x M1, hMid n k (cc + 1) (fun r => qF_check p2 r) M1 → Post x M1) : P_L_check (some (n + 0)) p2 M Post := by
  obtain ⟨⟨W, J⟩, P⟩ := V
  rcases P with ⟨⟨u, hc, hq⟩, r, R, X⟩ | ⟨u, hc, hq⟩
  · exact w_L_check hc (v_L_check (c := 6 * k) (s := 32 * k) W X (rI_of R (rf_w (t := k + 60 + 1) (s := k + 60) (q := k + 60) (z := 0) J (by omega) (by omega) (by omega) (by omega))) (fun x M1 W1 T1 X1 rc => K x M1 (h_A J W1 T1 rc hq R X1)))
  · exact w_L_check hc (t_L_check (c := 6 * k) (s := 32 * k) W (fun x M1 W1 T1 rc => K x M1 (h_B J W1 T1 rc hq)))
theorem a_L_changeKey (hcc : cc ≤ 511) (V : hV n (k + 1) cc M) (K : ∀ x M1, hMid n k (cc + 1) (fun r => (qF_changeKey r).2) M1 → Post x M1) : P_L_changeKey (some (n + 0)) (some (n + 107)) M Post := by
  obtain ⟨⟨W, J⟩, P⟩ := V
  rcases P with ⟨⟨u, hc, hq⟩, r, R, X⟩ | ⟨u, hc, hq⟩
  · exact w_L_changeKey hc (v_L_changeKey (c := 6 * k) (s := 32 * k) W X (Nat.le_succ_of_le hcc) (rI_of R (h_j0 (h_jw J))) (fun x M1 W1 T1 X1 rc => K x M1 (h_A J W1 T1 rc hq R X1)))
  · exact w_L_changeKey hc (t_L_changeKey (c := 6 * k) (s := 32 * k) W (fun x M1 W1 T1 rc => K x M1 (h_B J W1 T1 rc hq)))
theorem a_L_close (hcc : cc ≤ 511) (V : hV n (k + 1) cc M) (K : ∀ x M1, hMid n k (cc + 1) (fun r => qF_close r) M1 → Post x M1) : P_L_close (some (n + 0)) M Post := by
  obtain ⟨⟨W, J⟩, P⟩ := V
  rcases P with ⟨⟨u, hc, hq⟩, r, R, X⟩ | ⟨u, hc, hq⟩
  · exact w_L_close hc (v_L_close (c := 6 * k) (s := 32 * k) W X (rI_of R (rf_w (t := k + 60 + 1) (s := k + 60) (q := k + 60) (z := 0) J (by omega) (by omega) (by omega) (by omega))) (fun x M1 W1 T1 X1 rc => K x M1 (h_A J W1 T1 rc hq R X1)))
  · exact w_L_close hc (t_L_close (c := 6 * k) (s := 32 * k) W (fun x M1 W1 T1 rc => K x M1 (h_B J W1 T1 rc hq)))
theorem a_L_tick (hcc : cc ≤ 511) (V : hV n (k + 1) cc M) (K : ∀ x M1, hMid n k (cc + 1) (fun r => (qF_tick p2 r).2) M1 → Post x M1) : P_L_tick (some (n + 0)) p2 (some (n + 107)) M Post := by
  obtain ⟨⟨W, J⟩, P⟩ := V
  rcases P with ⟨⟨u, hc, hq⟩, r, R, X⟩ | ⟨u, hc, hq⟩
  · exact w_L_tick hc (v_L_tick (c := 6 * k) (s := 32 * k) W X (Nat.le_succ_of_le hcc) (rI_of R (rf_w (t := k + 60) (s := k + 60) (q := k + 60) (z := 0) J (by omega) (by omega) (by omega) (by omega))) (fun x M1 W1 T1 X1 rc => K x M1 (h_A J W1 T1 rc hq R X1)))
  · exact w_L_tick hc (t_L_tick (c := 6 * k) (s := 32 * k) W (fun x M1 W1 T1 rc => K x M1 (h_B J W1 T1 rc hq)))
theorem a_L_setCookies {Post : Int32 → z_Mem → Prop} (V : hV n (k + 1) cc M) (K : ∀ x M1, hMid n k (cc + 1) (fun r => (qF_setCookies p2 r).2) M1 → Post x M1) : P_X11_setCookies n p2 M Post := by
  obtain ⟨⟨W, J⟩, P⟩ := V
  have W' : y_W n (6 * k + 6) (32 * k + 32) M := W
  rcases P with ⟨⟨u, hc, hq⟩, r, R, X⟩ | ⟨u, hc, hq⟩
  · exact w_X11_setCookies hc (u_X11_setCookies (n := n) (y_WI W') (fun x M1 D e rc => K x M1 (h_A J (y_Wd W' D) (y_DT D) rc hq R (by rw [e]; exact jX_s (x_setCookies X)))))
  · exact w_X11_setCookies hc (u_X11_setCookies (n := n) (y_WI W') (fun x M1 D e rc => K x M1 (h_B J (y_Wd W' D) (y_DT D) rc hq)))
theorem a_L_loseState {Post : z_Mem → Prop} (V : hV n (k + 1) cc M) (K : ∀ M1, hMid n k (cc + 1) (fun r => qF_loseState r) M1 → Post M1) : P_X11_loseState n M Post := by
  obtain ⟨⟨W, J⟩, P⟩ := V
  have W' : y_W n (6 * k + 6) (32 * k + 32) M := W
  rcases P with ⟨⟨u, hc, hq⟩, r, R, X⟩ | ⟨u, hc, hq⟩
  · exact w_X11_loseState hc (u_X11_loseState (n := n) (y_WI W') (fun M1 D e rc => K M1 (h_A J (y_Wd W' D) (y_DT D) rc hq R (by rw [← e]; exact jX_s (x_loseState X)))))
  · exact w_X11_loseState hc (u_X11_loseState (n := n) (y_WI W') (fun M1 D e rc => K M1 (h_B J (y_Wd W' D) (y_DT D) rc hq)))
/-- queries of the class: what stays -/
def y_eR (n : Nat) (R : z_Mem → Prop) : Prop := (∀ M k w, R M → R (z_exc M k w)) ∧ (∀ M a j v, R M → R (z_sal M a j v)) ∧ (∀ M f, R M → R (zA M (n + 39) f))
theorem y_eR.x {R : z_Mem → Prop} (h : y_eR n R) (X : R M) (D : ∃ k w, M1 = z_exc M k w) : R M1 := by
  obtain ⟨k, w, e⟩ := D
  rw [e]; exact h.1 M k w X
theorem e_out {R : z_Mem → Prop} {v : Int64} {i : Int32} {c s : Nat} (hR : y_eR n R) (W : y_W n c s M1) (T : y_RT n M M1) (X : R M1) (k : ∀ x M1, y_W n c s M1 → y_RT n M M1 → R M1 → Post x M1) (hi : i = 0 := by rfl) : z_nn (some (n + 107)) fun a3 => (vp_in i (z_ln M1 a3) ∧ (∀ M_5 : z_Mem, M_5 = z_sal M1 a3 ((0 : Int32).toNatClampNeg) v → (Post 0 M_5))) := by
  subst hi
  refine z_nn_of rfl (And.intro (vp_of (L := 1) (s_l107 W.2.2.1) (by decide) (by decide)) ?_)
  intro M5 e5
  have D := r_sal W.2.2 e5
  have e := D.2.2.2
  exact k 0 M5 ⟨by rw [e]; exact W.1, by rw [e]; exact W.2.1, by rw [e]; exact D.1⟩ (y_Ttr T (y_DT D)) (by rw [e5]; exact hR.2.1 _ _ _ _ X)
theorem e_L_state {R : z_Mem → Prop} {c s : Nat} (hR : y_eR n R) (W : y_W n (c + 6) (s + 32) M) (X : R M) (k : ∀ x M1, y_W n c s M1 → y_RT n M M1 → R M1 → Post x M1) : P_L_state (some (n + 0)) p2 (some (n + 107)) M Post :=
  z_nn_of rfl (u_X11_state (n := n) (y_WI W) (fun r0 => e_out hR (y_Ws W) y_Trf X k) (fun M1 D => ⟨rfl, k 1 M1 (y_Wd W D.1) (y_DT D.1) (hR.x X D.2)⟩))
theorem e_L_path {R : z_Mem → Prop} {c s : Nat} (hR : y_eR n R) (W : y_W n (c + 6) (s + 32) M) (X : R M) (k : ∀ x M1, y_W n c s M1 → y_RT n M M1 → R M1 → Post x M1) : P_L_path (some (n + 0)) p2 p3 (some (n + 107)) M Post :=
  z_nn_of rfl (u_X11_path (n := n) (y_WI W) (fun r0 => e_out hR (y_Ws W) y_Trf X k) (fun M1 D => Or.inl ⟨rfl, k 1 M1 (y_Wd W D.1) (y_DT D.1) (hR.x X D.2)⟩) (fun M1 D => Or.inr ⟨rfl, k 2 M1 (y_Wd W D.1) (y_DT D.1) (hR.x X D.2)⟩))
theorem e_L_stream {R : z_Mem → Prop} {c s : Nat} (hR : y_eR n R) (W : y_W n (c + 6) (s + 32) M) (X : R M) (k : ∀ x M1, y_W n c s M1 → y_RT n M M1 → R M1 → Post x M1) : P_L_stream (some (n + 0)) p2 p3 (some (n + 107)) M Post :=
  z_nn_of rfl (u_X11_stream (n := n) (y_WI W) (fun r0 => e_out hR (y_Ws W) y_Trf X k) (fun M1 D => Or.inl ⟨rfl, k 1 M1 (y_Wd W D.1) (y_DT D.1) (hR.x X D.2)⟩) (fun M1 D => Or.inr ⟨rfl, k 2 M1 (y_Wd W D.1) (y_DT D.1) (hR.x X D.2)⟩))
theorem e_L_packet {R : z_Mem → Prop} {c s : Nat} (hR : y_eR n R) (W : y_W n (c + 6) (s + 32) M) (X : R M) (k : ∀ x M1, y_W n c s M1 → y_RT n M M1 → R M1 → Post x M1) : P_L_packet (some (n + 0)) p2 p3 (some (n + 107)) M Post :=
  z_nn_of rfl (u_X11_packet (n := n) (y_WI W) (fun r0 => e_out hR (y_Ws W) y_Trf X k) (fun M1 D => Or.inl ⟨rfl, k 1 M1 (y_Wd W D.1) (y_DT D.1) (hR.x X D.2)⟩) (fun M1 D => Or.inr ⟨rfl, k 2 M1 (y_Wd W D.1) (y_DT D.1) (hR.x X D.2)⟩))
theorem e_L_count {R : z_Mem → Prop} {c s : Nat} (hR : y_eR n R) (W : y_W n (c + 6) (s + 32) M) (X : R M) (k : ∀ x M1, y_W n c s M1 → y_RT n M M1 → R M1 → Post x M1) : P_L_count (some (n + 0)) p2 (some (n + 107)) M Post :=
  z_nn_of rfl (u_X11_count (n := n) (y_WI W) (fun r0 => e_out hR (y_Ws W) y_Trf X k) (fun M1 D => ⟨rfl, k 1 M1 (y_Wd W D.1) (y_DT D.1) (hR.x X D.2)⟩))
theorem e_L_inFlightAnew {R : z_Mem → Prop} {c s : Nat} (hR : y_eR n R) (W : y_W n (c + 6) (s + 32) M) (X : R M) (k : ∀ x M1, y_W n c s M1 → y_RT n M M1 → R M1 → Post x M1) : P_L_inFlightAnew (some (n + 0)) p2 (some (n + 107)) M Post :=
  z_nn_of rfl (u_X11_inFlightAnew (n := n) (y_WI W) (fun r0 => e_out hR (y_Ws W) y_Trf X k) (fun M1 D => ⟨rfl, k 1 M1 (y_Wd W D.1) (y_DT D.1) (hR.x X D.2)⟩))
theorem e_L_gotAnew {R : z_Mem → Prop} {c s : Nat} (hR : y_eR n R) (W : y_W n (c + 6) (s + 32) M) (X : R M) (k : ∀ x M1, y_W n c s M1 → y_RT n M M1 → R M1 → Post x M1) : P_L_gotAnew (some (n + 0)) p2 (some (n + 107)) M Post :=
  z_nn_of rfl (u_X11_gotAnew (n := n) (y_WI W) (fun r0 M1 D Z => e_out hR (y_Wd W D) (y_DT D) (by
    obtain ⟨f, e⟩ := Z
    rw [e]; exact hR.2.2 _ _ X) k) (fun M1 D => ⟨rfl, k 1 M1 (y_Wd W D.1) (y_DT D.1) (hR.x X D.2)⟩))
theorem y_eRb : y_eR n (mRc n u True) := ⟨mRc_exc, mRc_sal, fun M f h => h⟩
theorem y_eRa {r : q_R} : y_eR n (fun M => mRc n u False M ∧ jX n cc M r) := ⟨fun M k w h => ⟨mRc_exc M k w h.1, jX_ext h.2 (jE_exc h.2.1.1)⟩, fun M a j v h => ⟨mRc_sal M a j v h.1, jX_ext h.2 (jE_sal h.2.1.1)⟩, fun M f h => ⟨h.1, jX_39 h.2⟩⟩
theorem a_L_state (V : hV n (k + 1) cc M) (K : ∀ x M1, hMid n k (cc + 1) (fun r => r) M1 → Post x M1) : P_L_state (some (n + 0)) p2 (some (n + 107)) M Post := by
  obtain ⟨⟨W, J⟩, P⟩ := V
  rcases P with ⟨⟨u, hc, hq⟩, r, R, X⟩ | ⟨u, hc, hq⟩
  · exact e_L_state (c := 6 * k) (s := 32 * k) (y_eRa (u := u) (cc := cc) (r := r)) W ⟨hc, X⟩ (fun x M1 W1 T1 X1 => K x M1 (h_A J W1 T1 X1.1 hq R (jX_s X1.2)))
  · exact e_L_state (c := 6 * k) (s := 32 * k) (y_eRb (u := u)) W hc (fun x M1 W1 T1 rc => K x M1 (h_B J W1 T1 rc hq))
theorem a_L_path (V : hV n (k + 1) cc M) (K : ∀ x M1, hMid n k (cc + 1) (fun r => r) M1 → Post x M1) : P_L_path (some (n + 0)) p2 p3 (some (n + 107)) M Post := by
  obtain ⟨⟨W, J⟩, P⟩ := V
  rcases P with ⟨⟨u, hc, hq⟩, r, R, X⟩ | ⟨u, hc, hq⟩
  · exact e_L_path (c := 6 * k) (s := 32 * k) (y_eRa (u := u) (cc := cc) (r := r)) W ⟨hc, X⟩ (fun x M1 W1 T1 X1 => K x M1 (h_A J W1 T1 X1.1 hq R (jX_s X1.2)))
  · exact e_L_path (c := 6 * k) (s := 32 * k) (y_eRb (u := u)) W hc (fun x M1 W1 T1 rc => K x M1 (h_B J W1 T1 rc hq))
theorem a_L_stream (V : hV n (k + 1) cc M) (K : ∀ x M1, hMid n k (cc + 1) (fun r => r) M1 → Post x M1) : P_L_stream (some (n + 0)) p2 p3 (some (n + 107)) M Post := by
  obtain ⟨⟨W, J⟩, P⟩ := V
  rcases P with ⟨⟨u, hc, hq⟩, r, R, X⟩ | ⟨u, hc, hq⟩
  · exact e_L_stream (c := 6 * k) (s := 32 * k) (y_eRa (u := u) (cc := cc) (r := r)) W ⟨hc, X⟩ (fun x M1 W1 T1 X1 => K x M1 (h_A J W1 T1 X1.1 hq R (jX_s X1.2)))
  · exact e_L_stream (c := 6 * k) (s := 32 * k) (y_eRb (u := u)) W hc (fun x M1 W1 T1 rc => K x M1 (h_B J W1 T1 rc hq))
theorem a_L_packet (V : hV n (k + 1) cc M) (K : ∀ x M1, hMid n k (cc + 1) (fun r => r) M1 → Post x M1) : P_L_packet (some (n + 0)) p2 p3 (some (n + 107)) M Post := by
  obtain ⟨⟨W, J⟩, P⟩ := V
  rcases P with ⟨⟨u, hc, hq⟩, r, R, X⟩ | ⟨u, hc, hq⟩
  · exact e_L_packet (c := 6 * k) (s := 32 * k) (y_eRa (u := u) (cc := cc) (r := r)) W ⟨hc, X⟩ (fun x M1 W1 T1 X1 => K x M1 (h_A J W1 T1 X1.1 hq R (jX_s X1.2)))
  · exact e_L_packet (c := 6 * k) (s := 32 * k) (y_eRb (u := u)) W hc (fun x M1 W1 T1 rc => K x M1 (h_B J W1 T1 rc hq))
theorem a_L_count (V : hV n (k + 1) cc M) (K : ∀ x M1, hMid n k (cc + 1) (fun r => r) M1 → Post x M1) : P_L_count (some (n + 0)) p2 (some (n + 107)) M Post := by
  obtain ⟨⟨W, J⟩, P⟩ := V
  rcases P with ⟨⟨u, hc, hq⟩, r, R, X⟩ | ⟨u, hc, hq⟩
  · exact e_L_count (c := 6 * k) (s := 32 * k) (y_eRa (u := u) (cc := cc) (r := r)) W ⟨hc, X⟩ (fun x M1 W1 T1 X1 => K x M1 (h_A J W1 T1 X1.1 hq R (jX_s X1.2)))
  · exact e_L_count (c := 6 * k) (s := 32 * k) (y_eRb (u := u)) W hc (fun x M1 W1 T1 rc => K x M1 (h_B J W1 T1 rc hq))
theorem a_L_inFlightAnew (V : hV n (k + 1) cc M) (K : ∀ x M1, hMid n k (cc + 1) (fun r => r) M1 → Post x M1) : P_L_inFlightAnew (some (n + 0)) p2 (some (n + 107)) M Post := by
  obtain ⟨⟨W, J⟩, P⟩ := V
  rcases P with ⟨⟨u, hc, hq⟩, r, R, X⟩ | ⟨u, hc, hq⟩
  · exact e_L_inFlightAnew (c := 6 * k) (s := 32 * k) (y_eRa (u := u) (cc := cc) (r := r)) W ⟨hc, X⟩ (fun x M1 W1 T1 X1 => K x M1 (h_A J W1 T1 X1.1 hq R (jX_s X1.2)))
  · exact e_L_inFlightAnew (c := 6 * k) (s := 32 * k) (y_eRb (u := u)) W hc (fun x M1 W1 T1 rc => K x M1 (h_B J W1 T1 rc hq))
theorem a_L_gotAnew (V : hV n (k + 1) cc M) (K : ∀ x M1, hMid n k (cc + 1) (fun r => r) M1 → Post x M1) : P_L_gotAnew (some (n + 0)) p2 (some (n + 107)) M Post := by
  obtain ⟨⟨W, J⟩, P⟩ := V
  rcases P with ⟨⟨u, hc, hq⟩, r, R, X⟩ | ⟨u, hc, hq⟩
  · exact e_L_gotAnew (c := 6 * k) (s := 32 * k) (y_eRa (u := u) (cc := cc) (r := r)) W ⟨hc, X⟩ (fun x M1 W1 T1 X1 => K x M1 (h_A J W1 T1 X1.1 hq R (jX_s X1.2)))
  · exact e_L_gotAnew (c := 6 * k) (s := 32 * k) (y_eRb (u := u)) W hc (fun x M1 W1 T1 rc => K x M1 (h_B J W1 T1 rc hq))
theorem a_L_same (V : hV n (k + 1) cc M) : hMid n k (cc + 1) (fun r => r) M := by
  obtain ⟨⟨W, J⟩, P⟩ := V
  have W' : y_W n (6 * k) (32 * k) M := y_Ws (c := 6 * k) (s := 32 * k) W
  rcases P with ⟨⟨u, hc, hq⟩, r, R, X⟩ | ⟨u, hc, hq⟩
  · exact h_A J W' y_Trf hc hq R (jX_s X)
  · exact h_B J W' y_Trf hc hq
theorem a_L_now (V : hV n (k + 1) cc M) (K : ∀ x M1, hMid n k (cc + 1) (fun r => r) M1 → Post x M1) : P_X11_now n M Post := t_X11_now (n := n) (y_WI (c := 6 * k) (s := 32 * k) V.1.1) (fun x => K x M (a_L_same V))
theorem a_L_credit (V : hV n (k + 1) cc M) (K : ∀ x M1, hMid n k (cc + 1) (fun r => r) M1 → Post x M1) : P_X11_credit n M Post := t_X11_credit (n := n) (y_WI (c := 6 * k) (s := 32 * k) V.1.1) (fun x => K x M (a_L_same V))
theorem a_L_packets (V : hV n (k + 1) cc M) (K : ∀ x M1, hMid n k (cc + 1) (fun r => r) M1 → Post x M1) : P_X11_packets n M Post := t_X11_packets (n := n) (y_WI (c := 6 * k) (s := 32 * k) V.1.1) (fun x => K x M (a_L_same V))
end HB
