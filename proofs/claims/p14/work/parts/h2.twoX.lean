/-! ===== THE LAW: the reference's calls, both phases ===== -/
section HC
variable {n k cc : Nat} {u : Int32} {M M1 M2 : z_Mem} {p2 p3 p4 p5 p6 : Int32}
theorem a_X_setPath {Post : z_Mem → Prop} (V : hMid n k cc (fun r => qF_setPath p2 p3 p4 p5 p6 r) M1) (K : ∀ M2, hV n k cc M2 → Post M2) : P_X12_setPath (n + 40) p2 p3 p4 p5 p6 M1 Post := by
  obtain ⟨W1, J1, P⟩ := V
  rcases P with ⟨⟨u, hc, hq⟩, r, R, X⟩ | ⟨u, hc, hq⟩
  · exact w_X12_setPath J1.1 hq (g_setPath (t := k + 60) (s := k + 60) (q := k + 60) (z := 0) J1.1 R (h_j0 J1) X (fun M2 J2 K2 P rc => K M2 (h_C W1 J2 K2 hc rc P)))
  · exact w_X12_setPath J1.1 hq (t_X12_setPath (t := k + 60) (s := k + 60) (q := k + 60) (z := 0) (h_j0 J1) (fun M2 J2 K2 _ rc => K M2 (h_D W1 J2 K2.1 hc rc)))
theorem a_X_setUp {Post : Int32 → z_Mem → Prop} (V : hMid n k cc (fun r => (qF_setUp p2 p3 r).2) M1) (K : ∀ x M2, hV n k cc M2 → Post x M2) : P_X12_setUp (n + 40) p2 p3 M1 Post := by
  obtain ⟨W1, J1, P⟩ := V
  rcases P with ⟨⟨u, hc, hq⟩, r, R, X⟩ | ⟨u, hc, hq⟩
  · exact w_X12_setUp J1.1 hq (g_setUp (t := k + 60) (s := k + 60) (q := k + 60) (z := 0) J1.1 R (h_j0 J1) X (fun x M2 J2 K2 P rc => K x M2 (h_C W1 J2 K2 hc rc P)))
  · exact w_X12_setUp J1.1 hq (t_X12_setUp (t := k + 60) (s := k + 60) (q := k + 60) (z := 0) (h_j0 J1) (fun x M2 J2 K2 rc => K x M2 (h_D W1 J2 K2 hc rc)))
theorem a_X_lose {Post : z_Mem → Prop} (V : hMid n k cc (fun r => qF_lose p2 p3 p4 r) M1) (K : ∀ M2, hV n k cc M2 → Post M2) : P_X12_lose (n + 40) p2 p3 p4 M1 Post := by
  obtain ⟨W1, J1, P⟩ := V
  rcases P with ⟨⟨u, hc, hq⟩, r, R, X⟩ | ⟨u, hc, hq⟩
  · exact w_X12_lose J1.1 hq (g_lose (t := k + 60) (s := k + 60) (q := k + 60) (z := 0) J1.1 R (h_j0 J1) X (fun M2 J2 K2 P rc => K M2 (h_C W1 J2 K2 hc rc P)))
  · exact w_X12_lose J1.1 hq (t_X12_lose (t := k + 60) (s := k + 60) (q := k + 60) (z := 0) (h_j0 J1) (fun M2 J2 K2 rc => K M2 (h_D W1 J2 K2.1 hc rc)))
theorem a_X_late {Post : z_Mem → Prop} (V : hMid n k cc (fun r => qF_late p2 p3 p4 r) M1) (K : ∀ M2, hV n k cc M2 → Post M2) : P_X12_late (n + 40) p2 p3 p4 M1 Post := by
  obtain ⟨W1, J1, P⟩ := V
  rcases P with ⟨⟨u, hc, hq⟩, r, R, X⟩ | ⟨u, hc, hq⟩
  · exact w_X12_late J1.1 hq (g_late (t := k + 60) (s := k + 60) (q := k + 60) (z := 0) J1.1 R (h_j0 J1) X (fun M2 J2 K2 P rc => K M2 (h_C W1 J2 K2 hc rc P)))
  · exact w_X12_late J1.1 hq (t_X12_late (t := k + 60) (s := k + 60) (q := k + 60) (z := 0) (h_j0 J1) (fun M2 J2 K2 rc => K M2 (h_D W1 J2 K2.1 hc rc)))
theorem a_X_foreign {Post : Int32 → z_Mem → Prop} (V : hMid n k cc (fun r => (qF_foreign p2 p3 r).2) M1) (K : ∀ x M2, hV n k cc M2 → Post x M2) : P_X12_foreign (n + 40) p2 p3 M1 Post := by
  obtain ⟨W1, J1, P⟩ := V
  rcases P with ⟨⟨u, hc, hq⟩, r, R, X⟩ | ⟨u, hc, hq⟩
  · exact w_X12_foreign J1.1 hq (g_foreign (t := k + 60) (s := k + 60) (q := k + 60) (z := 0) J1.1 R (h_j0 J1) X (fun x M2 J2 K2 P rc => K x M2 (h_C W1 J2 K2 hc rc P)))
  · exact w_X12_foreign J1.1 hq (t_X12_foreign (t := k + 60) (s := k + 60) (q := k + 60) (z := 0) (h_j0 J1) (fun x M2 J2 K2 rc => K x M2 (h_D W1 J2 K2.1 hc rc)))
theorem a_X_setCookies {Post : Int32 → z_Mem → Prop} (V : hMid n k cc (fun r => (qF_setCookies p2 r).2) M1) (K : ∀ x M2, hV n k cc M2 → Post x M2) : P_X12_setCookies (n + 40) p2 M1 Post := by
  obtain ⟨W1, J1, P⟩ := V
  rcases P with ⟨⟨u, hc, hq⟩, r, R, X⟩ | ⟨u, hc, hq⟩
  · exact w_X12_setCookies J1.1 hq (g_setCookies (t := k + 60) (s := k + 60) (q := k + 60) (z := 0) J1.1 R (h_j0 J1) X (fun x M2 J2 K2 P rc => K x M2 (h_C W1 J2 K2 hc rc P)))
  · exact w_X12_setCookies J1.1 hq (t_X12_setCookies (t := k + 60) (s := k + 60) (q := k + 60) (z := 0) (h_j0 J1) (fun x M2 J2 K2 rc => K x M2 (h_D W1 J2 K2 hc rc)))
theorem a_X_read {Post : Int32 → z_Mem → Prop} (V : hMid n k cc (fun r => (qF_read p2 p3 r).2) M1) (K : ∀ x M2, hV n k cc M2 → Post x M2) : P_X12_read (n + 40) p2 p3 M1 Post := by
  obtain ⟨W1, J1, P⟩ := V
  rcases P with ⟨⟨u, hc, hq⟩, r, R, X⟩ | ⟨u, hc, hq⟩
  · exact w_X12_read J1.1 hq (g_read (t := k + 60) (s := k + 60) (q := k + 60) (z := 0) J1.1 R (h_jr J1) X (fun x M2 J2 K2 P rc => K x M2 (h_C W1 J2 K2 hc rc P)))
  · exact w_X12_read J1.1 hq (t_X12_read (t := k + 60) (s := k + 60) (q := k + 60) (z := 0) (h_jr J1) (fun x M2 J2 K2 rc => K x M2 (h_D W1 J2 K2.1 hc rc)))
theorem a_X_loseState {Post : z_Mem → Prop} (V : hMid n k cc (fun r => qF_loseState r) M1) (K : ∀ M2, hV n k cc M2 → Post M2) : P_X12_loseState (n + 40) M1 Post := by
  obtain ⟨W1, J1, P⟩ := V
  rcases P with ⟨⟨u, hc, hq⟩, r, R, X⟩ | ⟨u, hc, hq⟩
  · exact w_X12_loseState J1.1 hq (g_loseState (t := k + 60) (s := k + 60) (q := k + 60) (z := 0) J1.1 R (h_j0 J1) X (fun M2 J2 K2 P rc => K M2 (h_C W1 J2 K2 hc rc P)))
  · exact w_X12_loseState J1.1 hq (t_X12_loseState (t := k + 60) (s := k + 60) (q := k + 60) (z := 0) (h_j0 J1) (fun M2 J2 K2 rc => K M2 (h_D W1 J2 K2.1 hc rc)))
theorem a_X_connect {Post : z_Mem → Prop} (V : hMid n k cc (fun r => qF_connect p2 r) M1) (K : ∀ M2, hV n k cc M2 → Post M2) : P_X12_connect (n + 40) p2 M1 Post := by
  obtain ⟨W1, J1, P⟩ := V
  rcases P with ⟨⟨u, hc, hq⟩, r, R, X⟩ | ⟨u, hc, hq⟩
  · exact w_X12_connect J1.1 hq (g_connect (t := k + 60) (s := k + 60) (q := k + 60) (z := 0) J1.1 R (h_j1 J1) X (fun M2 J2 K2 P rc => K M2 (h_C W1 J2 K2 hc rc P)))
  · exact w_X12_connect J1.1 hq (t_X12_connect (t := k + 60) (s := k + 60) (q := k + 60) (z := 0) (h_j1 J1) (fun M2 J2 K2 rc => K M2 (h_D W1 J2 K2.1 hc rc)))
theorem a_X_write {Post : Int32 → z_Mem → Prop} (V : hMid n k cc (fun r => (qF_write p2 p3 r).2) M1) (K : ∀ x M2, hV n k cc M2 → Post x M2) : P_X12_write (n + 40) p2 p3 M1 Post := by
  obtain ⟨W1, J1, P⟩ := V
  rcases P with ⟨⟨u, hc, hq⟩, r, R, X⟩ | ⟨u, hc, hq⟩
  · exact w_X12_write J1.1 hq (g_write (t := k + 60) (s := k + 60) (q := k + 60) (z := 0) J1.1 R (h_j0 J1) X (fun x M2 J2 K2 P rc => K x M2 (h_C W1 J2 K2 hc rc P)))
  · exact w_X12_write J1.1 hq (t_X12_write (t := k + 60) (s := k + 60) (q := k + 60) (z := 0) (h_j0 J1) (fun x M2 J2 K2 rc => K x M2 (h_D W1 J2 K2 hc rc)))
theorem a_X_setWay {Post : Int32 → z_Mem → Prop} (V : hMid n k cc (fun r => (qF_setWay p2 p3 r).2) M1) (K : ∀ x M2, hV n k cc M2 → Post x M2) : P_X12_setWay (n + 40) p2 p3 M1 Post := by
  obtain ⟨W1, J1, P⟩ := V
  rcases P with ⟨⟨u, hc, hq⟩, r, R, X⟩ | ⟨u, hc, hq⟩
  · exact w_X12_setWay J1.1 hq (g_setWay (t := k + 60) (s := k + 60) (q := k + 60) (z := 0) J1.1 R (h_j0 J1) X (fun x M2 J2 K2 P rc => K x M2 (h_C W1 J2 K2 hc rc P)))
  · exact w_X12_setWay J1.1 hq (t_X12_setWay (t := k + 60) (s := k + 60) (q := k + 60) (z := 0) (h_j0 J1) (fun x M2 J2 K2 rc => K x M2 (h_D W1 J2 K2 hc rc)))
theorem a_X_check {Post : z_Mem → Prop} (V : hMid n k cc (fun r => qF_check p2 r) M1) (K : ∀ M2, hV n k cc M2 → Post M2) : P_X12_check (n + 40) p2 M1 Post := by
  obtain ⟨W1, J1, P⟩ := V
  rcases P with ⟨⟨u, hc, hq⟩, r, R, X⟩ | ⟨u, hc, hq⟩
  · exact w_X12_check J1.1 hq (g_check (t := k + 60) (s := k + 60) (q := k + 60) (z := 0) J1.1 R (h_j1 J1) X (fun M2 J2 K2 P rc => K M2 (h_C W1 J2 K2 hc rc P)))
  · exact w_X12_check J1.1 hq (t_X12_check (t := k + 60) (s := k + 60) (q := k + 60) (z := 0) (h_j1 J1) (fun M2 J2 K2 rc => K M2 (h_D W1 J2 K2.1 hc rc)))
theorem a_X_changeKey {Post : Int32 → z_Mem → Prop} (V : hMid n k cc (fun r => (qF_changeKey r).2) M1) (K : ∀ x M2, hV n k cc M2 → Post x M2) : P_X12_changeKey (n + 40) M1 Post := by
  obtain ⟨W1, J1, P⟩ := V
  rcases P with ⟨⟨u, hc, hq⟩, r, R, X⟩ | ⟨u, hc, hq⟩
  · exact w_X12_changeKey J1.1 hq (g_changeKey (t := k + 60) (s := k + 60) (q := k + 60) (z := 0) J1.1 R (h_j0 J1) X (fun x M2 J2 K2 P rc => K x M2 (h_C W1 J2 K2 hc rc P)))
  · exact w_X12_changeKey J1.1 hq (t_X12_changeKey (t := k + 60) (s := k + 60) (q := k + 60) (z := 0) (h_j0 J1) (fun x M2 J2 K2 rc => K x M2 (h_D W1 J2 K2.1 hc rc)))
theorem a_X_close {Post : z_Mem → Prop} (V : hMid n k cc (fun r => qF_close r) M1) (K : ∀ M2, hV n k cc M2 → Post M2) : P_X12_close (n + 40) M1 Post := by
  obtain ⟨W1, J1, P⟩ := V
  rcases P with ⟨⟨u, hc, hq⟩, r, R, X⟩ | ⟨u, hc, hq⟩
  · exact w_X12_close J1.1 hq (g_close (t := k + 60) (s := k + 60) (q := k + 60) (z := 0) J1.1 R (h_j1 J1) X (fun M2 J2 K2 P rc => K M2 (h_C W1 J2 K2 hc rc P)))
  · exact w_X12_close J1.1 hq (t_X12_close (t := k + 60) (s := k + 60) (q := k + 60) (z := 0) (h_j1 J1) (fun M2 J2 K2 rc => K M2 (h_D W1 J2 K2.1 hc rc)))
theorem a_X_tick {Post : Int32 → z_Mem → Prop} (V : hMid n k cc (fun r => (qF_tick p2 r).2) M1) (K : ∀ x M2, hV n k cc M2 → Post x M2) : P_X12_tick (n + 40) p2 M1 Post := by
  obtain ⟨W1, J1, P⟩ := V
  rcases P with ⟨⟨u, hc, hq⟩, r, R, X⟩ | ⟨u, hc, hq⟩
  · exact w_X12_tick J1.1 hq (g_tick (t := k) (s := k) (q := k) (z := 0) J1.1 R (h_j0 J1) X (fun x M2 J2 K2 P rc => K x M2 (h_C W1 J2 K2 hc rc P)))
  · exact w_X12_tick J1.1 hq (t_X12_tick (t := k) (s := k) (q := k) (z := 0) (h_j0 J1) (fun x M2 J2 K2 rc => K x M2 (h_D W1 J2 K2 hc rc)))
theorem a_X_now {Post : Int32 → z_Mem → Prop} (V : hMid n k cc (fun r => r) M1) (K : ∀ x M2, hV n k cc M2 → Post x M2) : P_X12_now (n + 40) M1 Post := v_X12_now (t := k + 60) (s := k + 60) (q := k + 60) (z := 0) (h_j0 V.2.1) (fun x M2 J2 K2 E => K x M2 (h_Q V J2 K2 E))
theorem a_X_credit {Post : Int32 → z_Mem → Prop} (V : hMid n k cc (fun r => r) M1) (K : ∀ x M2, hV n k cc M2 → Post x M2) : P_X12_credit (n + 40) M1 Post := v_X12_credit (t := k + 60) (s := k + 60) (q := k + 60) (z := 0) (h_j0 V.2.1) (fun x M2 J2 K2 E => K x M2 (h_Q V J2 K2 E))
theorem a_X_packets {Post : Int32 → z_Mem → Prop} (V : hMid n k cc (fun r => r) M1) (K : ∀ x M2, hV n k cc M2 → Post x M2) : P_X12_packets (n + 40) M1 Post := v_X12_packets (t := k + 60) (s := k + 60) (q := k + 60) (z := 0) (h_j0 V.2.1) (fun x M2 J2 K2 E => K x M2 (h_Q V J2 K2 E))
theorem a_X_state {Post : Int32 → z_Mem → Prop} (V : hMid n k cc (fun r => r) M1) (K : ∀ x M2, hV n k cc M2 → Post x M2) : P_X12_state (n + 40) p2 M1 Post := v_X12_state (t := k + 60) (s := k + 60) (q := k + 60) (z := 0) (h_j0 V.2.1) (fun x M2 J2 K2 E => K x M2 (h_Q V J2 K2 E))
theorem a_X_path {Post : Int32 → z_Mem → Prop} (V : hMid n k cc (fun r => r) M1) (K : ∀ x M2, hV n k cc M2 → Post x M2) : P_X12_path (n + 40) p2 p3 M1 Post := v_X12_path (t := k + 60) (s := k + 60) (q := k + 60) (z := 0) (h_j0 V.2.1) (fun x M2 J2 K2 E => K x M2 (h_Q V J2 K2 E))
theorem a_X_stream {Post : Int32 → z_Mem → Prop} (V : hMid n k cc (fun r => r) M1) (K : ∀ x M2, hV n k cc M2 → Post x M2) : P_X12_stream (n + 40) p2 p3 M1 Post := v_X12_stream (t := k + 60) (s := k + 60) (q := k + 60) (z := 0) (h_j0 V.2.1) (fun x M2 J2 K2 E => K x M2 (h_Q V J2 K2 E))
theorem a_X_packet {Post : Int32 → z_Mem → Prop} (V : hMid n k cc (fun r => r) M1) (K : ∀ x M2, hV n k cc M2 → Post x M2) : P_X12_packet (n + 40) p2 p3 M1 Post := v_X12_packet (t := k + 60) (s := k + 60) (q := k + 60) (z := 0) (h_j0 V.2.1) (fun x M2 J2 K2 E => K x M2 (h_Q V J2 K2 E))
theorem a_X_count {Post : Int32 → z_Mem → Prop} (V : hMid n k cc (fun r => r) M1) (K : ∀ x M2, hV n k cc M2 → Post x M2) : P_X12_count (n + 40) p2 M1 Post := v_X12_count (t := k + 60) (s := k + 60) (q := k + 60) (z := 0) (h_j0 V.2.1) (fun x M2 J2 K2 E => K x M2 (h_Q V J2 K2 E))
theorem a_X_inFlightAnew {Post : Int32 → z_Mem → Prop} (V : hMid n k cc (fun r => r) M1) (K : ∀ x M2, hV n k cc M2 → Post x M2) : P_X12_inFlightAnew (n + 40) p2 M1 Post := v_X12_inFlightAnew (t := k + 60) (s := k + 60) (q := k + 60) (z := 0) (h_j0 V.2.1) (fun x M2 J2 K2 E => K x M2 (h_Q V J2 K2 E))
theorem a_X_gotAnew {Post : Int32 → z_Mem → Prop} (V : hMid n k cc (fun r => r) M1) (K : ∀ x M2, hV n k cc M2 → Post x M2) : P_X12_gotAnew (n + 40) p2 M1 Post := v_X12_gotAnew (t := k + 60) (s := k + 60) (q := k + 60) (z := 0) (h_j0 V.2.1) (fun x M2 J2 K2 E => K x M2 (h_Q V J2 K2 E))
end HC
