/-! ===== THE LAW: the class's calls, with the likeness to what the reference will be ===== -/
section GL
variable {n c s cc t q z : Nat} {M0 M M1 M2 : z_Mem} {r r' : q_R} {p2 p3 p4 p5 p6 : Int32} {Post : Int32 → z_Mem → Prop}
theorem jX_thr (X : jX n cc M r) (D : ∃ k w, M1 = z_exc M k w) (h : ∃ v, r' = uf r 1630 v) : jX n (cc + 1) M1 r' := by
  obtain ⟨k, w, e⟩ := D
  obtain ⟨v, hv⟩ := h
  rw [e, hv]
  exact jX_c (jX_exc X) (by omega)
theorem jX_s (X : jX n cc M r) : jX n (cc + 1) M r := jX_c X (by omega)
/-- what comes behind each call of the class -/
def y_Kx (n c s cc : Nat) (M : z_Mem) (r' : q_R) (Post : Int32 → z_Mem → Prop) : Prop := ∀ x M1, y_W n c s M1 → y_RT n M M1 → jX n (cc + 1) M1 r' → Post x M1
theorem u_out {v : Int64} {i : Int32} (hi : i = 0) (W : y_W n c s M1) (T : y_RT n M M1) (X : jX n (cc + 1) M1 r') (k : y_Kx n c s cc M r' Post) : z_nn (some (n + 107)) fun a3 => (vp_in i (z_ln M1 a3) ∧ (∀ M_5 : z_Mem, M_5 = z_sal M1 a3 ((0 : Int32).toNatClampNeg) v → (Post 0 M_5))) := by
  subst hi
  refine z_nn_of rfl (And.intro (vp_of (L := 1) (s_l107 W.2.2.1) (by decide) (by decide)) ?_)
  intro M5 e5
  have D := r_sal W.2.2 e5
  have e := D.2.2.2
  exact k 0 M5 ⟨by rw [e]; exact W.1, by rw [e]; exact W.2.1, by rw [e]; exact D.1⟩ (y_Ttr T (y_DT D)) (by rw [e5]; exact jX_ext X (jE_sal X.1.1))
theorem v_L_setPath (W : y_W n (c + 6) (s + 32) M) (X : jX n cc M r) (k : y_Kx n c s cc M (qF_setPath p2 p3 p4 p5 p6 r) Post) : P_L_setPath (some (n + 0)) p2 p3 p4 p5 p6 M Post :=
  z_nn_of rfl (u_X11_setPath (n := n) (y_WI W) (fun hp hR M1 D e => k 0 M1 (y_Wd W D) (y_DT D) (by rw [e]; exact jX_s (x_setPath X hp hR))) (fun hp M1 D => Or.inl ⟨rfl, k 1 M1 (y_Wd W D.1) (y_DT D.1) (jX_thr X D.2 (q_setPath0 (fun g => hp g.1)))⟩) (fun hp hR M1 D => Or.inr ⟨rfl, k 2 M1 (y_Wd W D.1) (y_DT D.1) (jX_thr X D.2 (q_setPath0 (fun g => hR g.2)))⟩))
theorem v_L_setUp (W : y_W n (c + 6) (s + 32) M) (X : jX n cc M r) (k : y_Kx n c s cc M (qF_setUp p2 p3 r).2 Post) : P_L_setUp (some (n + 0)) p2 p3 (some (n + 107)) M Post :=
  z_nn_of rfl (u_X11_setUp (n := n) (y_WI W) (fun hp r0 M1 D e => And.intro (fun _ => u_out rfl (y_Wd W D) (y_DT D) (by rw [e]; exact jX_s (x_setUp X hp)) k) (fun _ => u_out rfl (y_Wd W D) (y_DT D) (by rw [e]; exact jX_s (x_setUp X hp)) k)) (fun hp M1 D => ⟨rfl, k 1 M1 (y_Wd W D.1) (y_DT D.1) (jX_thr X D.2 (q_setUp0 hp))⟩))
theorem v_L_lose (W : y_W n (c + 6) (s + 32) M) (X : jX n cc M r) (k : y_Kx n c s cc M (qF_lose p2 p3 p4 r) Post) : P_L_lose (some (n + 0)) p2 p3 p4 M Post :=
  z_nn_of rfl (u_X11_lose (n := n) (y_WI W) (fun hp h3 M1 D e => k 0 M1 (y_Wd W D) (y_DT D) (by rw [e]; exact jX_s (x_lose X hp h3))) (fun h E hE M1 D => hE.elim (fun e => Or.inl ⟨e, k 1 M1 (y_Wd W D.1) (y_DT D.1) (jX_thr X D.2 (q_lose0 h))⟩) (fun e => Or.inr ⟨e, k 2 M1 (y_Wd W D.1) (y_DT D.1) (jX_thr X D.2 (q_lose0 h))⟩)))
theorem v_L_late (W : y_W n (c + 6) (s + 32) M) (X : jX n cc M r) (k : y_Kx n c s cc M (qF_late p2 p3 p4 r) Post) : P_L_late (some (n + 0)) p2 p3 p4 M Post :=
  z_nn_of rfl (u_X11_late (n := n) (y_WI W) (fun hp h2 h3 M1 D e => k 0 M1 (y_Wd W D) (y_DT D) (by rw [e]; exact jX_s (x_late X hp h2 h3))) (fun h E hE M1 D => hE.elim (fun e => Or.inl ⟨e, k 1 M1 (y_Wd W D.1) (y_DT D.1) (jX_thr X D.2 (q_late0 h))⟩) (fun e => Or.inr ⟨e, k 2 M1 (y_Wd W D.1) (y_DT D.1) (jX_thr X D.2 (q_late0 h))⟩)))
theorem v_L_foreign (W : y_W n (c + 6) (s + 32) M) (X : jX n cc M r) (I : rf_I t s q z r.1 r.2) (k : y_Kx n c s cc M (qF_foreign p2 p3 r).2 Post) : P_L_foreign (some (n + 0)) p2 p3 (some (n + 107)) M Post :=
  z_nn_of rfl (u_X11_foreign (n := n) (y_WI W) (fun hp h2 r0 M1 D e => u_out rfl (y_Wd W D) (y_DT D) (jX_s (x_foreign X I hp h2 e)) k) (fun h E hE M1 D => hE.elim (fun e => Or.inl ⟨e, k 1 M1 (y_Wd W D.1) (y_DT D.1) (jX_thr X D.2 (q_foreign0 h))⟩) (fun e => Or.inr ⟨e, k 2 M1 (y_Wd W D.1) (y_DT D.1) (jX_thr X D.2 (q_foreign0 h))⟩)))
theorem v_L_setWay (W : y_W n (c + 6) (s + 32) M) (X : jX n cc M r) (k : y_Kx n c s cc M (qF_setWay p2 p3 r).2 Post) : P_L_setWay (some (n + 0)) p2 p3 (some (n + 107)) M Post :=
  z_nn_of rfl (u_X11_setWay (n := n) (y_WI W) (fun hp h2 r0 M1 D e => u_out rfl (y_Wd W D) (y_DT D) (by rw [e]; exact jX_s (x_setWay X hp h2)) k) (fun h E hE M1 D => hE.elim (fun e => Or.inl ⟨e, k 1 M1 (y_Wd W D.1) (y_DT D.1) (jX_thr X D.2 (q_setWay0 h))⟩) (fun e => Or.inr ⟨e, k 2 M1 (y_Wd W D.1) (y_DT D.1) (jX_thr X D.2 (q_setWay0 h))⟩)))
theorem v_L_check (W : y_W n (c + 6) (s + 32) M) (X : jX n cc M r) {s1 : Nat} (I : rf_I (t + 1) s1 q z r.1 r.2) (k : y_Kx n c s cc M (qF_check p2 r) Post) : P_L_check (some (n + 0)) p2 M Post :=
  z_nn_of rfl (u_X11_check (n := n) (y_WI W) (fun hp h2 M1 D e => k 0 M1 (y_Wd W D) (y_DT D) (by rw [e]; exact x_check X I hp h2)) (fun h E hE M1 D => hE.elim (fun e => Or.inl ⟨e, k 1 M1 (y_Wd W D.1) (y_DT D.1) (jX_thr X D.2 (q_check0 (fun g => h ⟨g.1, (js_135_31 X.1).trans g.2⟩)))⟩) (fun e => Or.inr ⟨e, k 2 M1 (y_Wd W D.1) (y_DT D.1) (jX_thr X D.2 (q_check0 (fun g => h ⟨g.1, (js_135_31 X.1).trans g.2⟩)))⟩)))
theorem v_L_connect (W : y_W n (c + 6) (s + 32) M) (X : jX n cc M r) {s1 : Nat} (I : rf_I (t + 1) s1 q z r.1 r.2) (k : y_Kx n c s cc M (qF_connect p2 r) Post) : P_L_connect (some (n + 0)) p2 M Post :=
  z_nn_of rfl (u_X11_connect (n := n) (y_WI W) (fun hp h2 M1 D e => k 0 M1 (y_Wd W D) (y_DT D) (by rw [← e]; exact jX_s (x_connect X I hp h2).1)) (fun h E hE M1 D => hE.elim (fun e => Or.inl ⟨e, k 1 M1 (y_Wd W D.1) (y_DT D.1) (jX_thr X D.2 (q_connect0 (fun g => h ⟨g.1, (js_135_31 X.1).trans g.2⟩)))⟩) (fun e => Or.inr ⟨e, k 2 M1 (y_Wd W D.1) (y_DT D.1) (jX_thr X D.2 (q_connect0 (fun g => h ⟨g.1, (js_135_31 X.1).trans g.2⟩)))⟩)))
theorem v_L_close (W : y_W n (c + 6) (s + 32) M) (X : jX n cc M r) {s1 : Nat} (I : rf_I (t + 1) s1 q z r.1 r.2) (k : y_Kx n c s cc M (qF_close r) Post) : P_L_close (some (n + 0)) M Post :=
  z_nn_of rfl (u_X11_close (n := n) (y_WI W) (fun h2 M1 D e => k 0 M1 (y_Wd W D) (y_DT D) (by rw [← e]; exact x_close X I h2)) (fun h M1 D => ⟨rfl, k 1 M1 (y_Wd W D.1) (y_DT D.1) (jX_thr X D.2 (q_close0 (fun g => h ((js_135_31 X.1).trans g))))⟩))
theorem v_L_changeKey (W : y_W n (c + 6) (s + 32) M) (X : jX n cc M r) (hcc : cc ≤ 512) {s1 : Nat} (I : rf_I t s1 q z r.1 r.2) (k : y_Kx n c s cc M (qF_changeKey r).2 Post) : P_L_changeKey (some (n + 0)) (some (n + 107)) M Post :=
  z_nn_of rfl (u_X11_changeKey (n := n) (y_WI W) (fun x M2 e h r0 M1 D e1 => u_out rfl (y_Wd W D) (y_DT D) (by rw [e1]; exact (x_changeKey X hcc I e).2 h) k) (fun x M2 e h M1 D => ⟨rfl, k 1 M1 (y_Wd W D.1) (y_DT D.1) (jX_thr X D.2 ((x_changeKey X hcc I e).1 h))⟩))
end GL
