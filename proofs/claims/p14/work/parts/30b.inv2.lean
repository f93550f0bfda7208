/-! ===== THE CLASS'S INVARIANT: rows of the fields that count ===== -/
theorem i_succ {x : Int32} {k : Nat} (h : x.toInt = k) (hk : k < 2000000) : (x + 1).toInt = ((k + 1 : Nat) : Int) := by
  rw [Int32.toInt_add, h, show (1 : Int32).toInt = 1 from rfl, Int.bmod_eq_of_le (by omega) (by omega)]; rfl
theorem i_ofNat {k : Nat} (hk : k < 2000000) : (nI k).toInt = (k : Int) := by
  unfold nI; rw [Int32.toInt_ofNat_of_lt (by omega)]
theorem i_nat {x : Int32} {k : Nat} (h : x.toInt = k) : x.toNatClampNeg = k := by
  unfold Int32.toNatClampNeg; rw [h]; rfl
theorem i_pred {x : Int32} {k : Nat} (h : x.toInt = (k + 1 : Nat)) (hk : k < 2000000) : (x - 1).toInt = (k : Int) := by
  rw [Int32.toInt_sub, h, show (1 : Int32).toInt = 1 from rfl, Int.bmod_eq_of_le (by omega) (by omega)]; omega
theorem i_add1 {x : Int32} (h : -2000000 < x.toInt) (h2 : x.toInt < 2000000) : (x + 1).toInt = x.toInt + 1 := by
  rw [Int32.toInt_add, show (1 : Int32).toInt = 1 from rfl, Int.bmod_eq_of_le (by omega) (by omega)]
theorem i_sub1 {x : Int32} (h : -2000000 < x.toInt) (h2 : x.toInt < 2000000) : (x - 1).toInt = x.toInt - 1 := by
  rw [Int32.toInt_sub, show (1 : Int32).toInt = 1 from rfl, Int.bmod_eq_of_le (by omega) (by omega)]
theorem i_addm1 {x : Int32} (h : -2000000 < x.toInt) (h2 : x.toInt < 2000000) : (x + (-1)).toInt = x.toInt - 1 := by
  rw [Int32.toInt_add, show (-1 : Int32).toInt = -1 from rfl, Int.bmod_eq_of_le (by omega) (by omega)]; omega
theorem i_nat2 {x : Int32} (h : 0 ≤ x.toInt) : (x.toNatClampNeg : Int) = x.toInt := by
  unfold Int32.toNatClampNeg; omega
theorem vp_of {i : Int32} {m L : Nat} (hl : m = L) (h0 : 0 ≤ i.toInt) (h1 : i.toInt < L) : vp_in i m := by
  subst hl
  refine fun h => h.elim (fun h => ?_) (fun h => ?_)
  · rw [Int32.lt_iff_toInt_lt, show (0 : Int32).toInt = 0 from rfl] at h; omega
  · have := i_nat2 h0; omega
section YJ
variable {n c s : Nat} {M0 M M1 : z_Mem}
theorem y_spne {k g : Nat} (h : k ≠ g) {a x : Nat} {v : Int32} : z_fi (z_sfi M g a v) k x = z_fi M k x := by rw [zq_fi_sfi, if_neg h]
theorem y_Fsp {g a : Nat} {v : Int32} (hg : g < 1536) (hk : g ∉ y_KP) (h5 : g ≠ 135) (F : y_F n (z_fi M0) (z_fi M)) : y_F n (z_fi M0) (z_fi (z_sfi M g a v)) := by
  refine ⟨fun k h => ?_, fun k h x hx => ?_, ?_⟩
  · rw [y_spne (by omega)]; exact F.1 k h
  · rw [y_spne (fun (e : k = g) => hk (e ▸ h))]; exact F.2.1 k h x hx
  · rw [y_spne (Ne.symm h5)]; exact F.2.2
theorem r_head {a : Nat} {v : Int32} (I : y_CI n c s M0 M) (e : M1 = z_sfi M 394 a v) (h0 : 0 ≤ v.toInt) (h1 : v.toInt < 30) : y_CI n c s M0 M1 := by
  subst e
  obtain ⟨S, L, R, A, F, G⟩ := I
  refine ⟨S, ⟨fun x hx => ?_, L.2⟩, R, A, y_Fsp (by decide) (by decide) (by decide) F, G⟩
  obtain ⟨q1, q2, q3⟩ := L.1 x hx
  rw [y_spne (k := 395) (by decide), y_spne (k := 385) (by decide), zq_fi_sfi, if_pos rfl]
  split
  · exact ⟨h0, h1, q3⟩
  · exact ⟨q1, q2, q3⟩
theorem r_len {a : Nat} {v : Int32} (I : y_CI n c s M0 M) (e : M1 = z_sfi M 395 a v) (h0 : 0 ≤ v.toInt) (h1 : v.toInt ≤ 30) : y_CI n c s M0 M1 := by
  subst e
  obtain ⟨S, L, R, A, F, G⟩ := I
  refine ⟨S, ⟨fun x hx => ?_, L.2⟩, R, A, y_Fsp (by decide) (by decide) (by decide) F, G⟩
  obtain ⟨q1, q2, q3, q4, q5⟩ := L.1 x hx
  rw [y_spne (k := 394) (by decide), y_spne (k := 385) (by decide), zq_fi_sfi, if_pos rfl]
  split
  · exact ⟨q1, q2, h0, h1, q5⟩
  · exact ⟨q1, q2, q3, q4, q5⟩
theorem r_next {a : Nat} {v : Int32} (I : y_CI n c s M0 M) (e : M1 = z_sfi M 266 a v) (h0 : 0 ≤ v.toInt) (h1 : v.toInt < 8) : y_CI n c s M0 M1 := by
  subst e
  obtain ⟨S, L, R, A, F, G⟩ := I
  refine ⟨S, ⟨L.1, L.2.1, L.2.2.1, fun x hx => ?_, L.2.2.2.2⟩, R, A, y_Fsp (by decide) (by decide) (by decide) F, G⟩
  rw [zq_fi_sfi, if_pos rfl]
  split
  · exact ⟨h0, h1⟩
  · exact L.2.2.2.1 x hx
/-- a message leaves the way to the server -/
theorem r_tSd {v : Int32} (I : y_CI n c s M0 M) (e : M1 = z_sfi M 1281 (n + 6) v) (h0 : 0 ≤ v.toInt) (h1 : v.toInt + 1 = (z_fi M 1281 (n + 6)).toInt) : y_CI n (c + 9) (s + 40) M0 M1 := by
  subst e
  obtain ⟨S, L, R, A, F, G⟩ := I
  have e6 : z_fi (z_sfi M 1281 (n + 6) v) 1281 (n + 6) = v := by rw [zq_fi_sfi, if_pos rfl, if_pos rfl]
  have e8 : z_fi (z_sfi M 1281 (n + 6) v) 1281 (n + 8) = z_fi M 1281 (n + 8) := by rw [zq_fi_sfi, if_pos rfl, if_neg (by omega)]
  refine ⟨S, ⟨L.1, ?_, ?_, L.2.2.2⟩, ⟨?_, ?_⟩, A, y_Fsp (by decide) (by decide) (by decide) F, G⟩
  · rw [e6]; exact ⟨h0, by have := L.2.1.2; omega⟩
  · rw [e8]; exact L.2.2.1
  · rw [e6, y_spne (k := 133) (by decide), y_spne (k := 137) (by decide)]; have := R.1; have : z_cl (z_sfi M 1281 (n + 6) v) = z_cl M := rfl; omega
  · rw [e6, y_spne (k := 133) (by decide), y_spne (k := 137) (by decide)]; have := R.2; have : z_sl (z_sfi M 1281 (n + 6) v) = z_sl M := rfl; omega
/-- one more is under way to the server -/
theorem r_tSu {v : Int32} (I : y_CI n (c + 9) (s + 40) M0 M) (e : M1 = z_sfi M 1281 (n + 6) v) (h0 : v.toInt = (z_fi M 1281 (n + 6)).toInt + 1) (h1 : v.toInt ≤ 1024) : y_CI n c s M0 M1 := by
  subst e
  obtain ⟨S, L, R, A, F, G⟩ := I
  have e6 : z_fi (z_sfi M 1281 (n + 6) v) 1281 (n + 6) = v := by rw [zq_fi_sfi, if_pos rfl, if_pos rfl]
  have e8 : z_fi (z_sfi M 1281 (n + 6) v) 1281 (n + 8) = z_fi M 1281 (n + 8) := by rw [zq_fi_sfi, if_pos rfl, if_neg (by omega)]
  have l0 := L.2.1.1
  refine ⟨S, ⟨L.1, ?_, ?_, L.2.2.2⟩, ⟨?_, ?_⟩, A, y_Fsp (by decide) (by decide) (by decide) F, G⟩
  · rw [e6]; exact ⟨by omega, h1⟩
  · rw [e8]; exact L.2.2.1
  · rw [e6, y_spne (k := 133) (by decide), y_spne (k := 137) (by decide)]; have := R.1; have : z_cl (z_sfi M 1281 (n + 6) v) = z_cl M := rfl; omega
  · rw [e6, y_spne (k := 133) (by decide), y_spne (k := 137) (by decide)]; have := R.2; have : z_sl (z_sfi M 1281 (n + 6) v) = z_sl M := rfl; omega
theorem r_tC {v : Int32} (I : y_CI n c s M0 M) (e : M1 = z_sfi M 1281 (n + 8) v) (h0 : 0 ≤ v.toInt) (h1 : v.toInt ≤ 2048) : y_CI n c s M0 M1 := by
  subst e
  obtain ⟨S, L, R, A, F, G⟩ := I
  have e6 : z_fi (z_sfi M 1281 (n + 8) v) 1281 (n + 6) = z_fi M 1281 (n + 6) := by rw [zq_fi_sfi, if_pos rfl, if_neg (by omega)]
  have e8 : z_fi (z_sfi M 1281 (n + 8) v) 1281 (n + 8) = v := by rw [zq_fi_sfi, if_pos rfl, if_pos rfl]
  refine ⟨S, ⟨L.1, ?_, ?_, L.2.2.2⟩, ⟨?_, ?_⟩, A, y_Fsp (by decide) (by decide) (by decide) F, G⟩
  · rw [e6]; exact L.2.1
  · rw [e8]; exact ⟨h0, h1⟩
  · rw [e6]; exact R.1
  · rw [e6]; exact R.2
/-- one more packet was sent -/
theorem r_sent {v : Int32} (I : y_CI n c s M0 M) (e : M1 = z_sfi M 133 (n + 31) v) (h0 : v.toInt = (z_fi M 133 (n + 31)).toInt + 1) (h1 : v.toInt ≤ 400) : y_CI n (c + 3) (s + 30) M0 M1 := by
  subst e
  obtain ⟨S, L, R, A, F, G⟩ := I
  have e1 : z_fi (z_sfi M 133 (n + 31) v) 133 (n + 31) = v := by rw [zq_fi_sfi, if_pos rfl, if_pos rfl]
  have l0 := L.2.2.2.2.1.1
  refine ⟨S, ⟨L.1, L.2.1, L.2.2.1, L.2.2.2.1, ?_, L.2.2.2.2.2⟩, ⟨?_, ?_⟩, A, y_Fsp (by decide) (by decide) (by decide) F, G⟩
  · rw [e1]; exact ⟨by omega, h1⟩
  · rw [e1, y_spne (k := 1281) (by decide), y_spne (k := 137) (by decide)]; have := R.1; have : z_cl (z_sfi M 133 (n + 31) v) = z_cl M := rfl; omega
  · rw [e1, y_spne (k := 1281) (by decide), y_spne (k := 137) (by decide)]; have := R.2; have : z_sl (z_sfi M 133 (n + 31) v) = z_sl M := rfl; omega
/-- the cookie comes -/
theorem r_cookie {v : Int32} (I : y_CI n c s M0 M) (e : M1 = z_sfi M 137 (n + 31) v) (h0 : z_fi M 137 (n + 31) = 0) (h1 : ¬ v = 0) : y_CI n (c + 2) (s + 16) M0 M1 := by
  subst e
  obtain ⟨S, L, R, A, F, G⟩ := I
  have e1 : z_fi (z_sfi M 137 (n + 31) v) 137 (n + 31) = v := by rw [zq_fi_sfi, if_pos rfl, if_pos rfl]
  refine ⟨S, L, ⟨?_, ?_⟩, A, y_Fsp (by decide) (by decide) (by decide) F, G⟩
  · have := R.1; rw [if_pos h0] at this; rw [e1, if_neg h1, y_spne (k := 1281) (by decide), y_spne (k := 133) (by decide)]; have : z_cl (z_sfi M 137 (n + 31) v) = z_cl M := rfl; omega
  · have := R.2; rw [if_pos h0] at this; rw [e1, if_neg h1, y_spne (k := 1281) (by decide), y_spne (k := 133) (by decide)]; have : z_sl (z_sfi M 137 (n + 31) v) = z_sl M := rfl; omega
/-- a packet's stream -/
theorem r_str {a : Nat} {v : Int32} (I : y_CI n c s M0 M) (e : M1 = z_sfi M 771 a v) (h0 : 0 ≤ v.toInt) (h1 : v.toInt < 4) : y_CI n c s M0 M1 := by
  subst e
  obtain ⟨S, L, R, A, F, G⟩ := I
  refine ⟨S, ⟨L.1, L.2.1, L.2.2.1, L.2.2.2.1, L.2.2.2.2.1, fun x => ?_, L.2.2.2.2.2.2⟩, R, A, y_Fsp (by decide) (by decide) (by decide) F, G⟩
  rw [zq_fi_sfi, if_pos rfl]
  split
  · exact ⟨h0, h1⟩
  · exact L.2.2.2.2.2.1 x
theorem y_str (I : y_CI n c s M0 M) (a : Nat) : 0 ≤ (z_fi M 771 a).toInt ∧ (z_fi M 771 a).toInt < 4 := I.2.1.2.2.2.2.2.1 a
/-- how many ranges an ACK has -/
theorem r_rng {a : Nat} {v : Int32} (I : y_CI n c s M0 M) (e : M1 = z_sfi M 3 a v) (h0 : 0 ≤ v.toInt) (h1 : v.toInt ≤ 4) : y_CI n c s M0 M1 := by
  subst e
  obtain ⟨S, L, R, A, F, G⟩ := I
  refine ⟨S, ⟨L.1, L.2.1, L.2.2.1, L.2.2.2.1, L.2.2.2.2.1, L.2.2.2.2.2.1, fun x => ?_, L.2.2.2.2.2.2.2⟩, R, A, y_Fsp (by decide) (by decide) (by decide) F, G⟩
  rw [zq_fi_sfi, if_pos rfl]
  split
  · exact ⟨h0, h1⟩
  · exact L.2.2.2.2.2.2.1 x
theorem y_rng (I : y_CI n c s M0 M) (a : Nat) : 0 ≤ (z_fi M 3 a).toInt ∧ (z_fi M 3 a).toInt ≤ 4 := I.2.1.2.2.2.2.2.2.1 a
theorem y_sent (I : y_CI n c s M0 M) : 0 ≤ (z_fi M 133 (n + 31)).toInt ∧ (z_fi M 133 (n + 31)).toInt ≤ 400 := I.2.1.2.2.2.2.1
/-- the client's state changes, from one that isn't idle to another -/
theorem r_state {v : Int32} (I : y_CI n c s M0 M) (e : M1 = z_sfi M 135 (n + 31) v) (h0 : ¬ z_fi M 135 (n + 31) = 0) (h1 : ¬ v = 0) : y_CI n c s M0 M1 := by
  subst e
  obtain ⟨S, L, R, A, F, G⟩ := I
  refine ⟨S, L, R, A, ⟨fun k h => ?_, fun k h x hx => ?_, ?_⟩, G⟩
  · rw [y_spne (by omega)]; exact F.1 k h
  · rw [y_spne (fun e => by rw [e] at h; exact absurd h (by decide))]; exact F.2.1 k h x hx
  · rw [zq_fi_sfi, if_pos rfl, if_pos rfl]; exact ⟨fun q => absurd q h1, fun q => absurd (F.2.2.mpr q) h0⟩
/-- the stream that was last sent anew -/
theorem r_lst {v : Int32} (I : y_CI n c s M0 M) (e : M1 = z_sfi M 145 (n + 31) v) (h0 : 0 ≤ v.toInt) (h1 : v.toInt < 4) : y_CI n c s M0 M1 := by
  subst e
  obtain ⟨S, L, R, A, F, G⟩ := I
  refine ⟨S, ⟨L.1, L.2.1, L.2.2.1, L.2.2.2.1, L.2.2.2.2.1, L.2.2.2.2.2.1, L.2.2.2.2.2.2.1, ?_⟩, R, A, y_Fsp (by decide) (by decide) (by decide) F, G⟩
  rw [zq_fi_sfi, if_pos rfl, if_pos rfl]; exact ⟨h0, h1⟩
theorem y_lst (I : y_CI n c s M0 M) : 0 ≤ (z_fi M 145 (n + 31)).toInt ∧ (z_fi M 145 (n + 31)).toInt < 4 := I.2.1.2.2.2.2.2.2.2
end YJ
