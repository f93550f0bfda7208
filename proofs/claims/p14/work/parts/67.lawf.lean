/-! ===== THE LAW: its calls of the class ===== -/
section LF
variable {n c s t q z : Nat} {M0 M M1 M2 : z_Mem} {p2 p3 p4 p5 p6 : Int32} {Post : Int32 → z_Mem → Prop}
theorem y_WI (W : y_W n (c + 6) (s + 32) M) : y_CI n (c + 168 * (2000 - (z_fi M 645 (n + 1)).toInt).toNat + 6) (s + 754 * (2000 - (z_fi M 645 (n + 1)).toInt).toNat + 32) M M := r_w W.2.2 (by omega) (by omega)
theorem y_Wd (W : y_W n (c + 6) (s + 32) M) (D : y_D n (c + 168 * (2000 - (z_fi M 645 (n + 1)).toInt).toNat) (s + 754 * (2000 - (z_fi M 645 (n + 1)).toInt).toNat) M M1) : y_W n c s M1 := by
  have e := D.2.2.2
  exact ⟨by rw [e]; exact W.1, by rw [e]; exact W.2.1, by rw [e]; exact D.1⟩
theorem y_Ws (W : y_W n (c + 6) (s + 32) M) : y_W n c s M := ⟨W.1, W.2.1, r_w W.2.2 (by omega) (by omega)⟩
/-- what comes behind each call of the class -/
def y_Kk (n c s : Nat) (M : z_Mem) (Post : Int32 → z_Mem → Prop) : Prop := ∀ r M1, y_W n c s M1 → y_RT n M M1 → Post r M1
theorem t_out {v : Int64} {i : Int32} (hi : i = 0) (W : y_W n c s M1) (T : y_RT n M M1) (k : y_Kk n c s M Post) : z_nn (some (n + 107)) fun a3 => (vp_in i (z_ln M1 a3) ∧ (∀ M_5 : z_Mem, M_5 = z_sal M1 a3 ((0 : Int32).toNatClampNeg) v → (Post 0 M_5))) := by
  subst hi
  refine z_nn_of rfl (And.intro (vp_of (L := 1) (s_l107 W.2.2.1) (by decide) (by decide)) ?_)
  intro M5 e5
  have D := r_sal W.2.2 e5
  have e := D.2.2.2
  exact k 0 M5 ⟨by rw [e]; exact W.1, by rw [e]; exact W.2.1, by rw [e]; exact D.1⟩ (y_Ttr T (y_DT D))
theorem t_L_setPath (W : y_W n (c + 6) (s + 32) M) (k : ∀ r M1, rf_spc p2 p3 p4 p5 p6 r → y_W n c s M1 → y_RT n M M1 → Post r M1) : P_L_setPath (some (n + 0)) p2 p3 p4 p5 p6 M Post :=
  z_nn_of rfl (t_X11_setPath (n := n) (y_WI W) (fun hp hR M1 D => k 0 M1 (Or.inr (Or.inr ⟨hp, hR, rfl⟩)) (y_Wd W D) (y_DT D)) (fun hp M1 D => Or.inl ⟨rfl, k 1 M1 (Or.inl ⟨hp, rfl⟩) (y_Wd W D) (y_DT D)⟩) (fun hp hR M1 D => Or.inr ⟨rfl, k 2 M1 (Or.inr (Or.inl ⟨hp, hR, rfl⟩)) (y_Wd W D) (y_DT D)⟩))
theorem t_L_setUp (W : y_W n (c + 6) (s + 32) M) (k : y_Kk n c s M Post) : P_L_setUp (some (n + 0)) p2 p3 (some (n + 107)) M Post :=
  z_nn_of rfl (t_X11_setUp (n := n) (y_WI W) (fun r M1 D => And.intro (fun _ => t_out rfl (y_Wd W D) (y_DT D) k) (fun _ => t_out rfl (y_Wd W D) (y_DT D) k)) (fun M1 D => ⟨rfl, k 1 M1 (y_Wd W D) (y_DT D)⟩))
theorem t_L_lose (W : y_W n (c + 6) (s + 32) M) (k : y_Kk n c s M Post) : P_L_lose (some (n + 0)) p2 p3 p4 M Post :=
  z_nn_of rfl (t_X11_lose (n := n) (y_WI W) (fun M1 D => k 0 M1 (y_Wd W D) (y_DT D)) (fun M1 D => Or.inl ⟨rfl, k 1 M1 (y_Wd W D) (y_DT D)⟩) (fun M1 D => Or.inr ⟨rfl, k 2 M1 (y_Wd W D) (y_DT D)⟩))
theorem t_L_late (W : y_W n (c + 6) (s + 32) M) (k : y_Kk n c s M Post) : P_L_late (some (n + 0)) p2 p3 p4 M Post :=
  z_nn_of rfl (t_X11_late (n := n) (y_WI W) (fun M1 D => k 0 M1 (y_Wd W D) (y_DT D)) (fun M1 D => Or.inl ⟨rfl, k 1 M1 (y_Wd W D) (y_DT D)⟩) (fun M1 D => Or.inr ⟨rfl, k 2 M1 (y_Wd W D) (y_DT D)⟩))
theorem t_L_foreign (W : y_W n (c + 6) (s + 32) M) (k : y_Kk n c s M Post) : P_L_foreign (some (n + 0)) p2 p3 (some (n + 107)) M Post :=
  z_nn_of rfl (t_X11_foreign (n := n) (y_WI W) (fun r M1 D => t_out rfl (y_Wd W D) (y_DT D) k) (fun M1 D => Or.inl ⟨rfl, k 1 M1 (y_Wd W D) (y_DT D)⟩) (fun M1 D => Or.inr ⟨rfl, k 2 M1 (y_Wd W D) (y_DT D)⟩))
theorem t_L_read (W : y_W n (c + 6) (s + 32) M) (k : y_Kk n c s M Post) : P_L_read (some (n + 0)) p2 p3 (some (n + 107)) M Post :=
  z_nn_of rfl (t_X11_read (n := n) (y_WI W) (fun r M1 D => t_out rfl (y_Wd W D) (y_DT D) k) (fun M1 D => Or.inl ⟨rfl, k 1 M1 (y_Wd W D) (y_DT D)⟩) (fun M1 D => Or.inr ⟨rfl, k 2 M1 (y_Wd W D) (y_DT D)⟩))
theorem t_L_connect (W : y_W n (c + 6) (s + 32) M) (k : y_Kk n c s M Post) : P_L_connect (some (n + 0)) p2 M Post :=
  z_nn_of rfl (t_X11_connect (n := n) (y_WI W) (fun M1 D => k 0 M1 (y_Wd W D) (y_DT D)) (fun M1 D => Or.inl ⟨rfl, k 1 M1 (y_Wd W D) (y_DT D)⟩) (fun M1 D => Or.inr ⟨rfl, k 2 M1 (y_Wd W D) (y_DT D)⟩))
theorem t_L_write (W : y_W n (c + 6) (s + 32) M) (k : y_Kk n c s M Post) : P_L_write (some (n + 0)) p2 p3 (some (n + 107)) M Post :=
  z_nn_of rfl (t_X11_write (n := n) (y_WI W) (fun r M1 D => t_out rfl (y_Wd W D) (y_DT D) k) (fun M1 D => Or.inl ⟨rfl, k 1 M1 (y_Wd W D) (y_DT D)⟩) (fun M1 D => Or.inr (Or.inl ⟨rfl, k 2 M1 (y_Wd W D) (y_DT D)⟩)) (fun M1 D => Or.inr (Or.inr ⟨rfl, k 3 M1 (y_Wd W D) (y_DT D)⟩)))
theorem t_L_setWay (W : y_W n (c + 6) (s + 32) M) (k : y_Kk n c s M Post) : P_L_setWay (some (n + 0)) p2 p3 (some (n + 107)) M Post :=
  z_nn_of rfl (t_X11_setWay (n := n) (y_WI W) (fun r M1 D => t_out rfl (y_Wd W D) (y_DT D) k) (fun M1 D => Or.inl ⟨rfl, k 1 M1 (y_Wd W D) (y_DT D)⟩) (fun M1 D => Or.inr ⟨rfl, k 2 M1 (y_Wd W D) (y_DT D)⟩))
theorem t_L_check (W : y_W n (c + 6) (s + 32) M) (k : y_Kk n c s M Post) : P_L_check (some (n + 0)) p2 M Post :=
  z_nn_of rfl (t_X11_check (n := n) (y_WI W) (fun M1 D => k 0 M1 (y_Wd W D) (y_DT D)) (fun M1 D => Or.inl ⟨rfl, k 1 M1 (y_Wd W D) (y_DT D)⟩) (fun M1 D => Or.inr ⟨rfl, k 2 M1 (y_Wd W D) (y_DT D)⟩))
theorem t_L_use (W : y_W n (c + 6) (s + 32) M) (k : y_Kk n c s M Post) : P_L_use (some (n + 0)) p2 (some (n + 107)) M Post :=
  z_nn_of rfl (t_X11_use (n := n) (y_WI W) (fun r M1 D => t_out rfl (y_Wd W D) (y_DT D) k) (fun M1 D => Or.inl ⟨rfl, k 1 M1 (y_Wd W D) (y_DT D)⟩) (fun M1 D => Or.inr ⟨rfl, k 2 M1 (y_Wd W D) (y_DT D)⟩))
theorem t_L_changeKey (W : y_W n (c + 6) (s + 32) M) (k : y_Kk n c s M Post) : P_L_changeKey (some (n + 0)) (some (n + 107)) M Post :=
  z_nn_of rfl (t_X11_changeKey (n := n) (y_WI W) (fun r M1 D => t_out rfl (y_Wd W D) (y_DT D) k) (fun M1 D => ⟨rfl, k 1 M1 (y_Wd W D) (y_DT D)⟩))
theorem t_L_close (W : y_W n (c + 6) (s + 32) M) (k : y_Kk n c s M Post) : P_L_close (some (n + 0)) M Post :=
  z_nn_of rfl (t_X11_close (n := n) (y_WI W) (fun M1 D => k 0 M1 (y_Wd W D) (y_DT D)) (fun M1 D => ⟨rfl, k 1 M1 (y_Wd W D) (y_DT D)⟩))
theorem t_L_tick (W : y_W n (c + 6) (s + 32) M) (k : y_Kk n c s M Post) : P_L_tick (some (n + 0)) p2 (some (n + 107)) M Post :=
  z_nn_of rfl (t_X11_tick (n := n) W (fun r M1 W1 T => t_out rfl W1 T k) (fun M1 W1 T => Or.inl ⟨rfl, k 1 M1 W1 T⟩) (fun M1 W1 T => Or.inr ⟨rfl, k 2 M1 W1 T⟩))
theorem t_L_state (W : y_W n (c + 6) (s + 32) M) (k : y_Kk n c s M Post) : P_L_state (some (n + 0)) p2 (some (n + 107)) M Post :=
  z_nn_of rfl (t_X11_state (n := n) (y_WI W) (fun r => t_out rfl (y_Ws W) y_Trf k) (fun M1 D => ⟨rfl, k 1 M1 (y_Wd W D) (y_DT D)⟩))
theorem t_L_path (W : y_W n (c + 6) (s + 32) M) (k : y_Kk n c s M Post) : P_L_path (some (n + 0)) p2 p3 (some (n + 107)) M Post :=
  z_nn_of rfl (t_X11_path (n := n) (y_WI W) (fun r => t_out rfl (y_Ws W) y_Trf k) (fun M1 D => Or.inl ⟨rfl, k 1 M1 (y_Wd W D) (y_DT D)⟩) (fun M1 D => Or.inr ⟨rfl, k 2 M1 (y_Wd W D) (y_DT D)⟩))
theorem t_L_stream (W : y_W n (c + 6) (s + 32) M) (k : y_Kk n c s M Post) : P_L_stream (some (n + 0)) p2 p3 (some (n + 107)) M Post :=
  z_nn_of rfl (t_X11_stream (n := n) (y_WI W) (fun r => t_out rfl (y_Ws W) y_Trf k) (fun M1 D => Or.inl ⟨rfl, k 1 M1 (y_Wd W D) (y_DT D)⟩) (fun M1 D => Or.inr ⟨rfl, k 2 M1 (y_Wd W D) (y_DT D)⟩))
theorem t_L_packet (W : y_W n (c + 6) (s + 32) M) (k : y_Kk n c s M Post) : P_L_packet (some (n + 0)) p2 p3 (some (n + 107)) M Post :=
  z_nn_of rfl (t_X11_packet (n := n) (y_WI W) (fun r => t_out rfl (y_Ws W) y_Trf k) (fun M1 D => Or.inl ⟨rfl, k 1 M1 (y_Wd W D) (y_DT D)⟩) (fun M1 D => Or.inr ⟨rfl, k 2 M1 (y_Wd W D) (y_DT D)⟩))
theorem t_L_count (W : y_W n (c + 6) (s + 32) M) (k : y_Kk n c s M Post) : P_L_count (some (n + 0)) p2 (some (n + 107)) M Post :=
  z_nn_of rfl (t_X11_count (n := n) (y_WI W) (fun r => t_out rfl (y_Ws W) y_Trf k) (fun M1 D => ⟨rfl, k 1 M1 (y_Wd W D) (y_DT D)⟩))
theorem t_L_inFlightAnew (W : y_W n (c + 6) (s + 32) M) (k : y_Kk n c s M Post) : P_L_inFlightAnew (some (n + 0)) p2 (some (n + 107)) M Post :=
  z_nn_of rfl (t_X11_inFlightAnew (n := n) (y_WI W) (fun r => t_out rfl (y_Ws W) y_Trf k) (fun M1 D => ⟨rfl, k 1 M1 (y_Wd W D) (y_DT D)⟩))
theorem t_L_gotAnew (W : y_W n (c + 6) (s + 32) M) (k : y_Kk n c s M Post) : P_L_gotAnew (some (n + 0)) p2 (some (n + 107)) M Post :=
  z_nn_of rfl (t_X11_gotAnew (n := n) (y_WI W) (fun r M1 D => t_out rfl (y_Wd W D) (y_DT D) k) (fun M1 D => ⟨rfl, k 1 M1 (y_Wd W D) (y_DT D)⟩))
theorem rf_spc1 {v w : Int32} (h : rf_spc p2 p3 p4 p5 p6 v) (h2 : rf_spc p2 p3 p4 p5 p6 w) : v = w := by
  rcases h with ⟨a, b⟩ | ⟨a, a2, b⟩ | ⟨a, a2, b⟩
  · rcases h2 with ⟨x, y⟩ | ⟨x, x2, y⟩ | ⟨x, x2, y⟩
    · rw [b, y]
    · exact absurd x a
    · exact absurd x a
  · rcases h2 with ⟨x, y⟩ | ⟨x, x2, y⟩ | ⟨x, x2, y⟩
    · exact absurd a x
    · rw [b, y]
    · exact absurd x2 a2
  · rcases h2 with ⟨x, y⟩ | ⟨x, x2, y⟩ | ⟨x, x2, y⟩
    · exact absurd a x
    · exact absurd a2 x2
    · rw [b, y]
end LF
