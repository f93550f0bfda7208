/-! ===== THE LAW: the reference's calls, with the likeness ===== -/
section GN
variable {n cc t s q z : Nat} {M0 M M1 M2 : z_Mem} {r r' : q_R} {p1 p2 p3 p4 p5 : Int32}
/-- alike: the cells of the reference, and the class -/
def pA (n cc : Nat) (M : z_Mem) : Prop := ∃ r, q_rep n M r ∧ jX n cc M r
theorem q_repT (R : q_rep n M r) (T : y_RT n M M1) : q_rep n M1 r := ⟨fun g hg => (T.1 g hg).trans (R.1 g hg), fun x j h0 h1 => (T.2 x j h0 h1).trans (R.2 x j h0 h1)⟩
theorem q_rep1630 {v : Int32} (R : q_rep n M r) : q_rep n (z_sfi M 1630 (n + 40) v) (uf r 1630 v) := by
  refine ⟨fun g hg => ?_, fun x j h0 h1 => R.2 x j h0 h1⟩
  by_cases e : g = 1630
  · rw [e, rf_ef, uf_e]
  · rw [rf_nf e, uf_n e]; exact R.1 g hg
theorem g_setPath {Post : z_Mem → Prop} (S1 : y_S n M1) (R1 : q_rep n M1 r) (J1 : rf_J n t s q z M1 M1) (X1 : jX n cc M1 (qF_setPath p1 p2 p3 p4 p5 r)) (k : ∀ M2, rf_J n t s q z M2 M2 → rf_KC n M1 M2 → pA n cc M2 → Post M2) : P_X12_setPath (n + 40) p1 p2 p3 p4 p5 M1 Post :=
  qS_setPath (Q := fun M2 => rf_J n t s q z M2 M2 ∧ rf_K3 n M1 M2) S1 R1 (t_X12_setPath J1 (fun M2 J2 K2 _ => ⟨J2, K2⟩)) (fun M2 r1 Q S2 R2 e => k M2 Q.1 Q.2.1 ⟨r1, R2, (by rw [← e]; exact jX_kc X1 Q.2.1)⟩)
theorem g_setUp {Post : Int32 → z_Mem → Prop} (S1 : y_S n M1) (R1 : q_rep n M1 r) (J1 : rf_J n t s q z M1 M1) (X1 : jX n cc M1 (qF_setUp p1 p2 r).2) (k : ∀ x M2, rf_J n t s q z M2 M2 → rf_KC n M1 M2 → pA n cc M2 → Post x M2) : P_X12_setUp (n + 40) p1 p2 M1 Post :=
  qS_setUp (Q := fun (_ : Int32) M2 => rf_J n t s q z M2 M2 ∧ rf_KC n M1 M2) S1 R1 (t_X12_setUp J1 (fun _ M2 J2 K2 => ⟨J2, K2⟩)) (fun x M2 r1 Q S2 R2 e => k x M2 Q.1 Q.2 ⟨r1, R2, (by
    have e2 : (qF_setUp p1 p2 r).2 = r1 := congrArg Prod.snd e
    rw [← e2]; exact jX_kc X1 Q.2)⟩)
theorem g_lose {Post : z_Mem → Prop} (S1 : y_S n M1) (R1 : q_rep n M1 r) (J1 : rf_J n t s q z M1 M1) (X1 : jX n cc M1 (qF_lose p1 p2 p3 r)) (k : ∀ M2, rf_J n t s q z M2 M2 → rf_KC n M1 M2 → pA n cc M2 → Post M2) : P_X12_lose (n + 40) p1 p2 p3 M1 Post :=
  qS_lose (Q := fun M2 => rf_J n t s q z M2 M2 ∧ rf_K3 n M1 M2) S1 R1 (t_X12_lose J1 (fun M2 J2 K2 => ⟨J2, K2⟩)) (fun M2 r1 Q S2 R2 e => k M2 Q.1 Q.2.1 ⟨r1, R2, (by rw [← e]; exact jX_kc X1 Q.2.1)⟩)
theorem g_late {Post : z_Mem → Prop} (S1 : y_S n M1) (R1 : q_rep n M1 r) (J1 : rf_J n t s q z M1 M1) (X1 : jX n cc M1 (qF_late p1 p2 p3 r)) (k : ∀ M2, rf_J n t s q z M2 M2 → rf_KC n M1 M2 → pA n cc M2 → Post M2) : P_X12_late (n + 40) p1 p2 p3 M1 Post :=
  qS_late (Q := fun M2 => rf_J n t s q z M2 M2 ∧ rf_K3 n M1 M2) S1 R1 (t_X12_late J1 (fun M2 J2 K2 => ⟨J2, K2⟩)) (fun M2 r1 Q S2 R2 e => k M2 Q.1 Q.2.1 ⟨r1, R2, (by rw [← e]; exact jX_kc X1 Q.2.1)⟩)
theorem g_foreign {Post : Int32 → z_Mem → Prop} (S1 : y_S n M1) (R1 : q_rep n M1 r) (J1 : rf_J n t s q z M1 M1) (X1 : jX n cc M1 (qF_foreign p1 p2 r).2) (k : ∀ x M2, rf_J n t s q z M2 M2 → rf_KC n M1 M2 → pA n cc M2 → Post x M2) : P_X12_foreign (n + 40) p1 p2 M1 Post :=
  qS_foreign (Q := fun (_ : Int32) M2 => rf_J n t s q z M2 M2 ∧ rf_K3 n M1 M2) S1 R1 (t_X12_foreign J1 (fun _ M2 J2 K2 => ⟨J2, K2⟩)) (fun x M2 r1 Q S2 R2 e => k x M2 Q.1 Q.2.1 ⟨r1, R2, (by
    have e2 : (qF_foreign p1 p2 r).2 = r1 := congrArg Prod.snd e
    rw [← e2]; exact jX_kc X1 Q.2.1)⟩)
theorem g_setCookies {Post : Int32 → z_Mem → Prop} (S1 : y_S n M1) (R1 : q_rep n M1 r) (J1 : rf_J n t s q z M1 M1) (X1 : jX n cc M1 (qF_setCookies p1 r).2) (k : ∀ x M2, rf_J n t s q z M2 M2 → rf_KC n M1 M2 → pA n cc M2 → Post x M2) : P_X12_setCookies (n + 40) p1 M1 Post :=
  qS_setCookies (Q := fun (_ : Int32) M2 => rf_J n t s q z M2 M2 ∧ rf_KC n M1 M2) S1 R1 (t_X12_setCookies J1 (fun _ M2 J2 K2 => ⟨J2, K2⟩)) (fun x M2 r1 Q S2 R2 e => k x M2 Q.1 Q.2 ⟨r1, R2, (by
    have e2 : (qF_setCookies p1 r).2 = r1 := congrArg Prod.snd e
    rw [← e2]; exact jX_kc X1 Q.2)⟩)
theorem g_read {Post : Int32 → z_Mem → Prop} (S1 : y_S n M1) (R1 : q_rep n M1 r) (J1 : rf_J n t (s + 1) (q + 1) z M1 M1) (X1 : jX n cc M1 (qF_read p1 p2 r).2) (k : ∀ x M2, rf_J n t s q z M2 M2 → rf_KC n M1 M2 → pA n cc M2 → Post x M2) : P_X12_read (n + 40) p1 p2 M1 Post :=
  qS_read (Q := fun (_ : Int32) M2 => rf_J n t s q z M2 M2 ∧ rf_K3 n M1 M2) S1 R1 (t_X12_read J1 (fun _ M2 J2 K2 => ⟨J2, K2⟩)) (fun x M2 r1 Q S2 R2 e => k x M2 Q.1 Q.2.1 ⟨r1, R2, (by
    have e2 : (qF_read p1 p2 r).2 = r1 := congrArg Prod.snd e
    rw [← e2]; exact jX_kc X1 Q.2.1)⟩)
theorem g_loseState {Post : z_Mem → Prop} (S1 : y_S n M1) (R1 : q_rep n M1 r) (J1 : rf_J n t s q z M1 M1) (X1 : jX n cc M1 (qF_loseState r)) (k : ∀ M2, rf_J n t s q z M2 M2 → rf_KC n M1 M2 → pA n cc M2 → Post M2) : P_X12_loseState (n + 40) M1 Post :=
  qS_loseState (Q := fun M2 => rf_J n t s q z M2 M2 ∧ rf_K3 n M1 M2) S1 R1 (t_X12_loseState J1 (fun M2 J2 K2 => ⟨J2, K2⟩)) (fun M2 r1 Q S2 R2 e => k M2 Q.1 Q.2.1 ⟨r1, R2, (by rw [← e]; exact jX_kc X1 Q.2.1)⟩)
theorem g_connect {Post : z_Mem → Prop} (S1 : y_S n M1) (R1 : q_rep n M1 r) (J1 : rf_J n (t + 1) (s + 1) (q + 1) z M1 M1) (X1 : jX n cc M1 (qF_connect p1 r)) (k : ∀ M2, rf_J n t s q z M2 M2 → rf_KC n M1 M2 → pA n cc M2 → Post M2) : P_X12_connect (n + 40) p1 M1 Post :=
  qS_connect (Q := fun M2 => rf_J n t s q z M2 M2 ∧ rf_K3 n M1 M2) S1 R1 (t_X12_connect J1 (fun M2 J2 K2 => ⟨J2, K2⟩)) (fun M2 r1 Q S2 R2 e => k M2 Q.1 Q.2.1 ⟨r1, R2, (by rw [← e]; exact jX_kc X1 Q.2.1)⟩)
theorem g_write {Post : Int32 → z_Mem → Prop} (S1 : y_S n M1) (R1 : q_rep n M1 r) (J1 : rf_J n t s q z M1 M1) (X1 : jX n cc M1 (qF_write p1 p2 r).2) (k : ∀ x M2, rf_J n t s q z M2 M2 → rf_KC n M1 M2 → pA n cc M2 → Post x M2) : P_X12_write (n + 40) p1 p2 M1 Post :=
  qS_write (Q := fun (_ : Int32) M2 => rf_J n t s q z M2 M2 ∧ rf_KC n M1 M2) S1 R1 (t_X12_write J1 (fun _ M2 J2 K2 => ⟨J2, K2⟩)) (fun x M2 r1 Q S2 R2 e => k x M2 Q.1 Q.2 ⟨r1, R2, (by
    have e2 : (qF_write p1 p2 r).2 = r1 := congrArg Prod.snd e
    rw [← e2]; exact jX_kc X1 Q.2)⟩)
theorem g_setWay {Post : Int32 → z_Mem → Prop} (S1 : y_S n M1) (R1 : q_rep n M1 r) (J1 : rf_J n t s q z M1 M1) (X1 : jX n cc M1 (qF_setWay p1 p2 r).2) (k : ∀ x M2, rf_J n t s q z M2 M2 → rf_KC n M1 M2 → pA n cc M2 → Post x M2) : P_X12_setWay (n + 40) p1 p2 M1 Post :=
  qS_setWay (Q := fun (_ : Int32) M2 => rf_J n t s q z M2 M2 ∧ rf_KC n M1 M2) S1 R1 (t_X12_setWay J1 (fun _ M2 J2 K2 => ⟨J2, K2⟩)) (fun x M2 r1 Q S2 R2 e => k x M2 Q.1 Q.2 ⟨r1, R2, (by
    have e2 : (qF_setWay p1 p2 r).2 = r1 := congrArg Prod.snd e
    rw [← e2]; exact jX_kc X1 Q.2)⟩)
theorem g_check {Post : z_Mem → Prop} (S1 : y_S n M1) (R1 : q_rep n M1 r) (J1 : rf_J n (t + 1) (s + 1) (q + 1) z M1 M1) (X1 : jX n cc M1 (qF_check p1 r)) (k : ∀ M2, rf_J n t s q z M2 M2 → rf_KC n M1 M2 → pA n cc M2 → Post M2) : P_X12_check (n + 40) p1 M1 Post :=
  qS_check (Q := fun M2 => rf_J n t s q z M2 M2 ∧ rf_K3 n M1 M2) S1 R1 (t_X12_check J1 (fun M2 J2 K2 => ⟨J2, K2⟩)) (fun M2 r1 Q S2 R2 e => k M2 Q.1 Q.2.1 ⟨r1, R2, (by rw [← e]; exact jX_kc X1 Q.2.1)⟩)
theorem g_changeKey {Post : Int32 → z_Mem → Prop} (S1 : y_S n M1) (R1 : q_rep n M1 r) (J1 : rf_J n t s q z M1 M1) (X1 : jX n cc M1 (qF_changeKey r).2) (k : ∀ x M2, rf_J n t s q z M2 M2 → rf_KC n M1 M2 → pA n cc M2 → Post x M2) : P_X12_changeKey (n + 40) M1 Post :=
  qS_changeKey (Q := fun (_ : Int32) M2 => rf_J n t s q z M2 M2 ∧ rf_K3 n M1 M2) S1 R1 (t_X12_changeKey J1 (fun _ M2 J2 K2 => ⟨J2, K2⟩)) (fun x M2 r1 Q S2 R2 e => k x M2 Q.1 Q.2.1 ⟨r1, R2, (by
    have e2 : (qF_changeKey r).2 = r1 := congrArg Prod.snd e
    rw [← e2]; exact jX_kc X1 Q.2.1)⟩)
theorem g_close {Post : z_Mem → Prop} (S1 : y_S n M1) (R1 : q_rep n M1 r) (J1 : rf_J n (t + 1) (s + 1) (q + 1) z M1 M1) (X1 : jX n cc M1 (qF_close r)) (k : ∀ M2, rf_J n t s q z M2 M2 → rf_KC n M1 M2 → pA n cc M2 → Post M2) : P_X12_close (n + 40) M1 Post :=
  qS_close (Q := fun M2 => rf_J n t s q z M2 M2 ∧ rf_K3 n M1 M2) S1 R1 (t_X12_close J1 (fun M2 J2 K2 => ⟨J2, K2⟩)) (fun M2 r1 Q S2 R2 e => k M2 Q.1 Q.2.1 ⟨r1, R2, (by rw [← e]; exact jX_kc X1 Q.2.1)⟩)
theorem g_tick {Post : Int32 → z_Mem → Prop} (S1 : y_S n M1) (R1 : q_rep n M1 r) (J1 : rf_J n (t + 60) (s + 60) (q + 60) z M1 M1) (X1 : jX n cc M1 (qF_tick p1 r).2) (k : ∀ x M2, rf_J n (t + 60) (s + 60) (q + 60) z M2 M2 → rf_KC n M1 M2 → pA n cc M2 → Post x M2) : P_X12_tick (n + 40) p1 M1 Post :=
  qS_tick (Q := fun (_ : Int32) M2 => rf_J n (t + 60) (s + 60) (q + 60) z M2 M2 ∧ rf_KC n M1 M2) S1 R1 (t_X12_tick J1 (fun _ M2 J2 K2 => ⟨J2, K2⟩)) (fun x M2 r1 Q S2 R2 e => k x M2 Q.1 Q.2 ⟨r1, R2, (by
    have e2 : (qF_tick p1 r).2 = r1 := congrArg Prod.snd e
    rw [← e2]; exact jX_kc X1 Q.2)⟩)
theorem g_now {Post : Int32 → z_Mem → Prop} (R1 : q_rep n M1 r) (J1 : rf_J n t s q z M1 M1) (X1 : jX n cc M1 r) (k : ∀ x M2, rf_J n t s q z M2 M2 → rf_KC n M1 M2 → pA n cc M2 → Post x M2) : P_X12_now (n + 40) M1 Post :=
  v_X12_now J1 (fun x M2 J2 K2 E => k x M2 J2 K2.1 (by
    obtain ⟨v, e⟩ := E
    refine ⟨uf r 1630 v, by rw [e]; exact q_rep1630 R1, jX_kc (jX_1630 X1) K2.1⟩))
theorem g_state {Post : Int32 → z_Mem → Prop} (R1 : q_rep n M1 r) (J1 : rf_J n t s q z M1 M1) (X1 : jX n cc M1 r) (k : ∀ x M2, rf_J n t s q z M2 M2 → rf_KC n M1 M2 → pA n cc M2 → Post x M2) : P_X12_state (n + 40) p1 M1 Post :=
  v_X12_state J1 (fun x M2 J2 K2 E => k x M2 J2 K2.1 (by
    obtain ⟨v, e⟩ := E
    refine ⟨uf r 1630 v, by rw [e]; exact q_rep1630 R1, jX_kc (jX_1630 X1) K2.1⟩))
theorem g_path {Post : Int32 → z_Mem → Prop} (R1 : q_rep n M1 r) (J1 : rf_J n t s q z M1 M1) (X1 : jX n cc M1 r) (k : ∀ x M2, rf_J n t s q z M2 M2 → rf_KC n M1 M2 → pA n cc M2 → Post x M2) : P_X12_path (n + 40) p1 p2 M1 Post :=
  v_X12_path J1 (fun x M2 J2 K2 E => k x M2 J2 K2.1 (by
    obtain ⟨v, e⟩ := E
    refine ⟨uf r 1630 v, by rw [e]; exact q_rep1630 R1, jX_kc (jX_1630 X1) K2.1⟩))
theorem g_stream {Post : Int32 → z_Mem → Prop} (R1 : q_rep n M1 r) (J1 : rf_J n t s q z M1 M1) (X1 : jX n cc M1 r) (k : ∀ x M2, rf_J n t s q z M2 M2 → rf_KC n M1 M2 → pA n cc M2 → Post x M2) : P_X12_stream (n + 40) p1 p2 M1 Post :=
  v_X12_stream J1 (fun x M2 J2 K2 E => k x M2 J2 K2.1 (by
    obtain ⟨v, e⟩ := E
    refine ⟨uf r 1630 v, by rw [e]; exact q_rep1630 R1, jX_kc (jX_1630 X1) K2.1⟩))
theorem g_credit {Post : Int32 → z_Mem → Prop} (R1 : q_rep n M1 r) (J1 : rf_J n t s q z M1 M1) (X1 : jX n cc M1 r) (k : ∀ x M2, rf_J n t s q z M2 M2 → rf_KC n M1 M2 → pA n cc M2 → Post x M2) : P_X12_credit (n + 40) M1 Post :=
  v_X12_credit J1 (fun x M2 J2 K2 E => k x M2 J2 K2.1 (by
    obtain ⟨v, e⟩ := E
    refine ⟨uf r 1630 v, by rw [e]; exact q_rep1630 R1, jX_kc (jX_1630 X1) K2.1⟩))
theorem g_packets {Post : Int32 → z_Mem → Prop} (R1 : q_rep n M1 r) (J1 : rf_J n t s q z M1 M1) (X1 : jX n cc M1 r) (k : ∀ x M2, rf_J n t s q z M2 M2 → rf_KC n M1 M2 → pA n cc M2 → Post x M2) : P_X12_packets (n + 40) M1 Post :=
  v_X12_packets J1 (fun x M2 J2 K2 E => k x M2 J2 K2.1 (by
    obtain ⟨v, e⟩ := E
    refine ⟨uf r 1630 v, by rw [e]; exact q_rep1630 R1, jX_kc (jX_1630 X1) K2.1⟩))
theorem g_packet {Post : Int32 → z_Mem → Prop} (R1 : q_rep n M1 r) (J1 : rf_J n t s q z M1 M1) (X1 : jX n cc M1 r) (k : ∀ x M2, rf_J n t s q z M2 M2 → rf_KC n M1 M2 → pA n cc M2 → Post x M2) : P_X12_packet (n + 40) p1 p2 M1 Post :=
  v_X12_packet J1 (fun x M2 J2 K2 E => k x M2 J2 K2.1 (by
    obtain ⟨v, e⟩ := E
    refine ⟨uf r 1630 v, by rw [e]; exact q_rep1630 R1, jX_kc (jX_1630 X1) K2.1⟩))
theorem g_count {Post : Int32 → z_Mem → Prop} (R1 : q_rep n M1 r) (J1 : rf_J n t s q z M1 M1) (X1 : jX n cc M1 r) (k : ∀ x M2, rf_J n t s q z M2 M2 → rf_KC n M1 M2 → pA n cc M2 → Post x M2) : P_X12_count (n + 40) p1 M1 Post :=
  v_X12_count J1 (fun x M2 J2 K2 E => k x M2 J2 K2.1 (by
    obtain ⟨v, e⟩ := E
    refine ⟨uf r 1630 v, by rw [e]; exact q_rep1630 R1, jX_kc (jX_1630 X1) K2.1⟩))
theorem g_inFlightAnew {Post : Int32 → z_Mem → Prop} (R1 : q_rep n M1 r) (J1 : rf_J n t s q z M1 M1) (X1 : jX n cc M1 r) (k : ∀ x M2, rf_J n t s q z M2 M2 → rf_KC n M1 M2 → pA n cc M2 → Post x M2) : P_X12_inFlightAnew (n + 40) p1 M1 Post :=
  v_X12_inFlightAnew J1 (fun x M2 J2 K2 E => k x M2 J2 K2.1 (by
    obtain ⟨v, e⟩ := E
    refine ⟨uf r 1630 v, by rw [e]; exact q_rep1630 R1, jX_kc (jX_1630 X1) K2.1⟩))
theorem g_gotAnew {Post : Int32 → z_Mem → Prop} (R1 : q_rep n M1 r) (J1 : rf_J n t s q z M1 M1) (X1 : jX n cc M1 r) (k : ∀ x M2, rf_J n t s q z M2 M2 → rf_KC n M1 M2 → pA n cc M2 → Post x M2) : P_X12_gotAnew (n + 40) p1 M1 Post :=
  v_X12_gotAnew J1 (fun x M2 J2 K2 E => k x M2 J2 K2.1 (by
    obtain ⟨v, e⟩ := E
    refine ⟨uf r 1630 v, by rw [e]; exact q_rep1630 R1, jX_kc (jX_1630 X1) K2.1⟩))
end GN
