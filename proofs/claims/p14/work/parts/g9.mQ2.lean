/-! ===== THE REFERENCE: paths that are checked stay so; which are used stays ===== -/
section MQ
variable {n : Nat} {u : Int32} {b : Prop} {M M1 : z_Mem}
def mQc (n : Nat) (u : Int32) (b : Prop) (M : z_Mem) : Prop := z_fi M 1583 (n + 40) = u ∧ ¬ z_ai M (n + 92) 0 = 0 ∧ (b → ¬ z_ai M (n + 92) 1 = 0)
theorem mQc_W : y_mQ n (mQc n u b) := by
  refine ⟨fun M x j v h0 h1 h2 h => ?_, fun M j h => ?_, fun M g v hg h => ?_⟩
  · obtain ⟨a1, a2, a3⟩ := h
    refine ⟨a1, ?_, fun hb => ?_⟩
    · rw [zq_ai_sai, if_neg (by omega)]; exact a2
    · rw [zq_ai_sai, if_neg (by omega)]; exact a3 hb
  · obtain ⟨a1, a2, a3⟩ := h
    refine ⟨a1, ?_, fun hb => ?_⟩
    · rw [zq_ai_sai, if_pos rfl]
      split
      · decide
      · exact a2
    · rw [zq_ai_sai, if_pos rfl]
      split
      · decide
      · exact a3 hb
  · obtain ⟨a1, a2, a3⟩ := h
    refine ⟨?_, a2, a3⟩
    rw [zq_fi_sfi, if_neg (Ne.symm hg)]; exact a1
theorem w_X12_setPath {Post : z_Mem → Prop} {p1 : Int32} {p2 : Int32} {p3 : Int32} {p4 : Int32} {p5 : Int32} (S : y_S n M) (h : mQc n u b M) (H : P_X12_setPath (n + 40) p1 p2 p3 p4 p5 M (fun M1 => mQc n u b M1 → Post M1)) : P_X12_setPath (n + 40) p1 p2 p3 p4 p5 M Post := mQ_setPath mQc_W S h H (fun _ H _ r => H r)
theorem w_X12_setUp {Post : Int32 → z_Mem → Prop} {p1 : Int32} {p2 : Int32} (S : y_S n M) (h : mQc n u b M) (H : P_X12_setUp (n + 40) p1 p2 M (fun x M1 => mQc n u b M1 → Post x M1)) : P_X12_setUp (n + 40) p1 p2 M Post := mQ_setUp mQc_W S h H (fun _ _ H _ r => H r)
theorem w_X12_lose {Post : z_Mem → Prop} {p1 : Int32} {p2 : Int32} {p3 : Int32} (S : y_S n M) (h : mQc n u b M) (H : P_X12_lose (n + 40) p1 p2 p3 M (fun M1 => mQc n u b M1 → Post M1)) : P_X12_lose (n + 40) p1 p2 p3 M Post := mQ_lose mQc_W S h H (fun _ H _ r => H r)
theorem w_X12_late {Post : z_Mem → Prop} {p1 : Int32} {p2 : Int32} {p3 : Int32} (S : y_S n M) (h : mQc n u b M) (H : P_X12_late (n + 40) p1 p2 p3 M (fun M1 => mQc n u b M1 → Post M1)) : P_X12_late (n + 40) p1 p2 p3 M Post := mQ_late mQc_W S h H (fun _ H _ r => H r)
theorem w_X12_foreign {Post : Int32 → z_Mem → Prop} {p1 : Int32} {p2 : Int32} (S : y_S n M) (h : mQc n u b M) (H : P_X12_foreign (n + 40) p1 p2 M (fun x M1 => mQc n u b M1 → Post x M1)) : P_X12_foreign (n + 40) p1 p2 M Post := mQ_foreign mQc_W S h H (fun _ _ H _ r => H r)
theorem w_X12_setCookies {Post : Int32 → z_Mem → Prop} {p1 : Int32} (S : y_S n M) (h : mQc n u b M) (H : P_X12_setCookies (n + 40) p1 M (fun x M1 => mQc n u b M1 → Post x M1)) : P_X12_setCookies (n + 40) p1 M Post := mQ_setCookies mQc_W S h H (fun _ _ H _ r => H r)
theorem w_X12_read {Post : Int32 → z_Mem → Prop} {p1 : Int32} {p2 : Int32} (S : y_S n M) (h : mQc n u b M) (H : P_X12_read (n + 40) p1 p2 M (fun x M1 => mQc n u b M1 → Post x M1)) : P_X12_read (n + 40) p1 p2 M Post := mQ_read mQc_W S h H (fun _ _ H _ r => H r)
theorem w_X12_loseState {Post : z_Mem → Prop} (S : y_S n M) (h : mQc n u b M) (H : P_X12_loseState (n + 40) M (fun M1 => mQc n u b M1 → Post M1)) : P_X12_loseState (n + 40) M Post := mQ_loseState mQc_W S h H (fun _ H _ r => H r)
theorem w_X12_connect {Post : z_Mem → Prop} {p1 : Int32} (S : y_S n M) (h : mQc n u b M) (H : P_X12_connect (n + 40) p1 M (fun M1 => mQc n u b M1 → Post M1)) : P_X12_connect (n + 40) p1 M Post := mQ_connect mQc_W S h H (fun _ H _ r => H r)
theorem w_X12_write {Post : Int32 → z_Mem → Prop} {p1 : Int32} {p2 : Int32} (S : y_S n M) (h : mQc n u b M) (H : P_X12_write (n + 40) p1 p2 M (fun x M1 => mQc n u b M1 → Post x M1)) : P_X12_write (n + 40) p1 p2 M Post := mQ_write mQc_W S h H (fun _ _ H _ r => H r)
theorem w_X12_setWay {Post : Int32 → z_Mem → Prop} {p1 : Int32} {p2 : Int32} (S : y_S n M) (h : mQc n u b M) (H : P_X12_setWay (n + 40) p1 p2 M (fun x M1 => mQc n u b M1 → Post x M1)) : P_X12_setWay (n + 40) p1 p2 M Post := mQ_setWay mQc_W S h H (fun _ _ H _ r => H r)
theorem w_X12_check {Post : z_Mem → Prop} {p1 : Int32} (S : y_S n M) (h : mQc n u b M) (H : P_X12_check (n + 40) p1 M (fun M1 => mQc n u b M1 → Post M1)) : P_X12_check (n + 40) p1 M Post := mQ_check mQc_W S h H (fun _ H _ r => H r)
theorem w_X12_changeKey {Post : Int32 → z_Mem → Prop} (S : y_S n M) (h : mQc n u b M) (H : P_X12_changeKey (n + 40) M (fun x M1 => mQc n u b M1 → Post x M1)) : P_X12_changeKey (n + 40) M Post := mQ_changeKey mQc_W S h H (fun _ _ H _ r => H r)
theorem w_X12_close {Post : z_Mem → Prop} (S : y_S n M) (h : mQc n u b M) (H : P_X12_close (n + 40) M (fun M1 => mQc n u b M1 → Post M1)) : P_X12_close (n + 40) M Post := mQ_close mQc_W S h H (fun _ H _ r => H r)
theorem w_X12_tick {Post : Int32 → z_Mem → Prop} {p1 : Int32} (S : y_S n M) (h : mQc n u b M) (H : P_X12_tick (n + 40) p1 M (fun x M1 => mQc n u b M1 → Post x M1)) : P_X12_tick (n + 40) p1 M Post := mQ_tick mQc_W S h H (fun _ _ H _ r => H r)
end MQ
