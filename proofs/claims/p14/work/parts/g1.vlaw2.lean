/-! ===== THE LAW: the class's calls, with the likeness to what the reference will be (2) ===== -/
section GM
variable {n c s cc t q z : Nat} {M0 M M1 M2 : z_Mem} {r r' : q_R} {p2 p3 p4 p5 p6 : Int32} {Post : Int32 → z_Mem → Prop}
theorem v_L_read (W : y_W n (c + 6) (s + 32) M) (X : jX n cc M r) (hcc : cc ≤ 511) {s1 : Nat} (I : rf_I t (s1 + 1) (q + 1) z r.1 r.2) (k : y_Kx n c s cc M (qF_read p2 p3 r).2 Post) : P_L_read (some (n + 0)) p2 p3 (some (n + 107)) M Post :=
  z_nn_of rfl (u_X11_read (n := n) (y_WI W) (fun hp h2 r0 M1 D e => u_out rfl (y_Wd W D) (y_DT D) (x_read X I hcc hp h2 e) k) (fun h E hE M1 D => hE.elim (fun e => Or.inl ⟨e, k 1 M1 (y_Wd W D.1) (y_DT D.1) (jX_thr X D.2 (q_read0 h))⟩) (fun e => Or.inr ⟨e, k 2 M1 (y_Wd W D.1) (y_DT D.1) (jX_thr X D.2 (q_read0 h))⟩)))
theorem v_L_write (W : y_W n (c + 6) (s + 32) M) (X : jX n cc M r) (k : y_Kx n c s cc M (qF_write p2 p3 r).2 Post) : P_L_write (some (n + 0)) p2 p3 (some (n + 107)) M Post := by
  have h0 : ¬ ((0 ≤ p2.toInt ∧ p2.toInt ≤ 3) ∧ (1 ≤ p3.toInt ∧ p3.toInt ≤ 200) ∧ ∀ st, z_ar M (n + 11) (jN p2) = some st → ¬ 200 < z_fi M 1152 st + p3) → ∃ v, (qF_write p2 p3 r).2 = uf r 1630 v := fun h => q_write0 (fun g => h ⟨g.1, g.2.1, fun st hst => by
    have n1 := jN_toInt g.1.1
    have hs4 : jN p2 < 4 := by have := g.1.2; omega
    have e := s_str X.1.1 hs4
    rw [hst] at e
    cases e
    rw [j_66 X.1 hs4]; exact g.2.2⟩)
  exact z_nn_of rfl (u_X11_write (n := n) (y_WI W) (fun hp h2 st hst h3 r0 M1 D e => u_out rfl (y_Wd W D) (y_DT D) (by rw [e]; exact jX_s (x_write X hp h2 hst h3)) k) (fun h E hE M1 D => hE.elim (fun e => Or.inl ⟨e, k 1 M1 (y_Wd W D.1) (y_DT D.1) (jX_thr X D.2 (h0 h))⟩) (fun hE => hE.elim (fun e => Or.inr (Or.inl ⟨e, k 2 M1 (y_Wd W D.1) (y_DT D.1) (jX_thr X D.2 (h0 h))⟩)) (fun e => Or.inr (Or.inr ⟨e, k 3 M1 (y_Wd W D.1) (y_DT D.1) (jX_thr X D.2 (h0 h))⟩)))))
theorem v_L_tick (W : y_W n (c + 6) (s + 32) M) (X : jX n cc M r) (hcc : cc ≤ 512) (I : rf_I (t + 60) (t + 60) (t + 60) 0 r.1 r.2) (k : y_Kx n c s cc M (qF_tick p2 r).2 Post) : P_L_tick (some (n + 0)) p2 (some (n + 107)) M Post := by
  have bn := ri_now I
  have h0 : ¬ ((1 ≤ p2.toInt ∧ p2.toInt ≤ 50) ∧ (z_fi M 645 (n + 1)).toInt + p2.toInt ≤ 2000) → ∃ v, (qF_tick p2 r).2 = uf r 1630 v := fun h => q_tick0 (fun g => h ⟨g.1, by
    have g2 := g.2
    have := g.1.2
    have := g.1.1
    rw [Int32.lt_iff_toInt_lt, i_addE (x := r.1 1536) (y := p2) rfl rfl (by omega) (by omega), show (2000 : Int32).toInt = 2000 from rfl] at g2
    rw [js_645_1 X.1]; omega⟩)
  exact z_nn_of rfl (u_X11_tick (n := n) W (fun hp h2 r0 M1 W1 T e => u_out rfl W1 T (by rw [e]; exact jX_s (x_tick X I hcc hp h2)) k) (fun h E hE M1 W1 T D => hE.elim (fun e => Or.inl ⟨e, k 1 M1 W1 T (jX_thr X D (h0 h))⟩) (fun e => Or.inr ⟨e, k 2 M1 W1 T (jX_thr X D (h0 h))⟩)))
theorem jX_x0 (X : jX n cc M r) (D : ∃ k w, M1 = z_exc M k w) : jX n (cc + 1) M1 r := by
  obtain ⟨k, w, e⟩ := D
  rw [e]
  exact jX_s (jX_ext X (jE_exc X.1.1))
theorem v_L_state (W : y_W n (c + 6) (s + 32) M) (X : jX n cc M r) (k : y_Kx n c s cc M r Post) : P_L_state (some (n + 0)) p2 (some (n + 107)) M Post :=
  z_nn_of rfl (u_X11_state (n := n) (y_WI W) (fun r0 => u_out rfl (y_Ws W) y_Trf (jX_s X) k) (fun M1 D => ⟨rfl, k 1 M1 (y_Wd W D.1) (y_DT D.1) (jX_x0 X D.2)⟩))
theorem v_L_path (W : y_W n (c + 6) (s + 32) M) (X : jX n cc M r) (k : y_Kx n c s cc M r Post) : P_L_path (some (n + 0)) p2 p3 (some (n + 107)) M Post :=
  z_nn_of rfl (u_X11_path (n := n) (y_WI W) (fun r0 => u_out rfl (y_Ws W) y_Trf (jX_s X) k) (fun M1 D => Or.inl ⟨rfl, k 1 M1 (y_Wd W D.1) (y_DT D.1) (jX_x0 X D.2)⟩) (fun M1 D => Or.inr ⟨rfl, k 2 M1 (y_Wd W D.1) (y_DT D.1) (jX_x0 X D.2)⟩))
theorem v_L_stream (W : y_W n (c + 6) (s + 32) M) (X : jX n cc M r) (k : y_Kx n c s cc M r Post) : P_L_stream (some (n + 0)) p2 p3 (some (n + 107)) M Post :=
  z_nn_of rfl (u_X11_stream (n := n) (y_WI W) (fun r0 => u_out rfl (y_Ws W) y_Trf (jX_s X) k) (fun M1 D => Or.inl ⟨rfl, k 1 M1 (y_Wd W D.1) (y_DT D.1) (jX_x0 X D.2)⟩) (fun M1 D => Or.inr ⟨rfl, k 2 M1 (y_Wd W D.1) (y_DT D.1) (jX_x0 X D.2)⟩))
theorem v_L_packet (W : y_W n (c + 6) (s + 32) M) (X : jX n cc M r) (k : y_Kx n c s cc M r Post) : P_L_packet (some (n + 0)) p2 p3 (some (n + 107)) M Post :=
  z_nn_of rfl (u_X11_packet (n := n) (y_WI W) (fun r0 => u_out rfl (y_Ws W) y_Trf (jX_s X) k) (fun M1 D => Or.inl ⟨rfl, k 1 M1 (y_Wd W D.1) (y_DT D.1) (jX_x0 X D.2)⟩) (fun M1 D => Or.inr ⟨rfl, k 2 M1 (y_Wd W D.1) (y_DT D.1) (jX_x0 X D.2)⟩))
theorem v_L_count (W : y_W n (c + 6) (s + 32) M) (X : jX n cc M r) (k : y_Kx n c s cc M r Post) : P_L_count (some (n + 0)) p2 (some (n + 107)) M Post :=
  z_nn_of rfl (u_X11_count (n := n) (y_WI W) (fun r0 => u_out rfl (y_Ws W) y_Trf (jX_s X) k) (fun M1 D => ⟨rfl, k 1 M1 (y_Wd W D.1) (y_DT D.1) (jX_x0 X D.2)⟩))
theorem v_L_inFlightAnew (W : y_W n (c + 6) (s + 32) M) (X : jX n cc M r) (k : y_Kx n c s cc M r Post) : P_L_inFlightAnew (some (n + 0)) p2 (some (n + 107)) M Post :=
  z_nn_of rfl (u_X11_inFlightAnew (n := n) (y_WI W) (fun r0 => u_out rfl (y_Ws W) y_Trf (jX_s X) k) (fun M1 D => ⟨rfl, k 1 M1 (y_Wd W D.1) (y_DT D.1) (jX_x0 X D.2)⟩))
theorem v_L_gotAnew (W : y_W n (c + 6) (s + 32) M) (X : jX n cc M r) (k : y_Kx n c s cc M r Post) : P_L_gotAnew (some (n + 0)) p2 (some (n + 107)) M Post :=
  z_nn_of rfl (u_X11_gotAnew (n := n) (y_WI W) (fun r0 M1 D Z => u_out rfl (y_Wd W D) (y_DT D) (by
    obtain ⟨f, e⟩ := Z
    rw [e]; exact jX_s (jX_39 X)) k) (fun M1 D => ⟨rfl, k 1 M1 (y_Wd W D.1) (y_DT D.1) (jX_x0 X D.2)⟩))
end GM
