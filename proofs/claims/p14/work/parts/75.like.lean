/-! ===== THE LIKENESS of the class (at n) and the reference's cells ===== -/
abbrev jN (x : Int32) : Nat := x.toNatClampNeg
def jT : List (Nat × Nat × Nat × Nat) := [(645, 1, 0, 1536), (384, 2, 41, 0), (385, 2, 42, 0), (386, 2, 43, 0), (387, 2, 44, 0), (389, 2, 46, 0), (390, 2, 47, 0), (391, 2, 48, 0), (392, 2, 49, 0), (395, 2, 51, 0), (384, 4, 41, 1), (385, 4, 42, 1), (386, 4, 43, 1), (387, 4, 44, 1), (389, 4, 46, 1), (390, 4, 47, 1), (391, 4, 48, 1), (392, 4, 49, 1), (395, 4, 51, 1), (1026, 28, 0, 1562), (1027, 28, 0, 1563), (1028, 28, 0, 1764), (1030, 28, 0, 1566), (1031, 28, 0, 1567), (1034, 28, 0, 1572), (1035, 28, 0, 1576), (1036, 28, 0, 1573), (1037, 28, 0, 1574), (1038, 28, 0, 1575), (133, 31, 0, 1606), (135, 31, 0, 1577), (136, 31, 0, 1578), (137, 31, 0, 1579), (139, 31, 0, 1580), (140, 31, 0, 1781), (142, 31, 0, 1584), (143, 31, 0, 1583), (144, 31, 0, 1589), (145, 31, 0, 1590), (146, 31, 0, 1585), (898, 32, 92, 0), (900, 32, 87, 0), (901, 32, 88, 0), (902, 32, 89, 0), (903, 32, 90, 0), (904, 32, 91, 0), (905, 32, 93, 0), (906, 32, 94, 0), (907, 32, 97, 0), (908, 32, 95, 0), (910, 32, 96, 0), (909, 32, 105, 0), (256, 33, 86, 0), (257, 33, 84, 0), (258, 33, 85, 0), (262, 33, 101, 0), (263, 33, 100, 0), (264, 33, 102, 0), (898, 35, 92, 1), (900, 35, 87, 1), (901, 35, 88, 1), (902, 35, 89, 1), (903, 35, 90, 1), (904, 35, 91, 1), (905, 35, 93, 1), (906, 35, 94, 1), (907, 35, 97, 1), (908, 35, 95, 1), (910, 35, 96, 1), (909, 35, 105, 1), (256, 36, 86, 1), (257, 36, 84, 1), (258, 36, 85, 1), (262, 36, 101, 1), (263, 36, 100, 1), (264, 36, 102, 1), (1152, 12, 66, 0), (1153, 12, 67, 0), (1156, 12, 68, 0), (1158, 12, 65, 0), (1152, 16, 66, 1), (1153, 16, 67, 1), (1156, 16, 68, 1), (1158, 16, 65, 1), (1152, 20, 66, 2), (1153, 20, 67, 2), (1156, 20, 68, 2), (1158, 20, 65, 2), (1152, 24, 66, 3), (1153, 24, 67, 3), (1156, 24, 68, 3), (1158, 24, 65, 3), (896, 32, 120, 0), (896, 35, 120, 1)]
def jR : List (Nat × Nat × Nat × Nat) := [(13, 200, 69, 0), (14, 200, 70, 0), (15, 200, 64, 0), (17, 200, 69, 200), (18, 200, 70, 200), (19, 200, 64, 200), (21, 200, 69, 400), (22, 200, 70, 400), (23, 200, 64, 400), (25, 200, 69, 600), (26, 200, 70, 600), (27, 200, 64, 600), (34, 8, 98, 0), (37, 8, 98, 8), (29, 10, 62, 0), (30, 400, 63, 0)]
def jPT : List (Nat × Nat) := [(769, 71), (770, 72), (771, 73), (772, 74), (773, 75), (774, 78), (775, 79), (776, 80), (777, 81), (778, 76), (780, 82), (781, 83)]
def jXF : List (Nat × Nat) := [(388, 2), (388, 4), (141, 31), (1032, 28), (512, 10), (1155, 12), (1155, 16), (1155, 20), (1155, 24), (1157, 12), (1157, 16), (1157, 20), (1157, 24), (899, 32), (899, 35), (134, 31), (266, 33), (266, 36), (260, 33), (260, 36), (261, 33), (261, 36), (394, 2), (394, 4), (1281, 6), (1281, 8)]
def jRF : List Nat := [1606, 1577, 1582, 1567, 1568, 1551, 1554, 1559, 1561]
def jRA : List Nat := [45, 50, 51, 52, 53, 54, 55, 56, 57, 58, 59, 60, 61, 62, 63, 64, 67, 69, 70, 71, 72, 73, 74, 75, 76, 78, 79, 80, 81, 82, 83, 98, 99, 100, 103, 104]
/-- a field, or what the class holds where the reference holds nothing yet (1764: early data taken, as long as the server is none; 1781: how long a hello waits, as long as the client is none) -/
def j_fv (r : q_R) (j : Nat) : Int32 := if j = 1764 then (if r.1 1562 = 0 ∨ r.1 1562 = 3 then 0 else r.1 1564) else if j = 1781 then (if r.1 1577 = 0 then 10 else r.1 1581) else r.1 j
def jQl : List Nat := [1562, 1564, 1577, 1581, 1764, 1781]
theorem j_fvn {r : q_R} {j : Nat} (h1 : j ≠ 1764) (h2 : j ≠ 1781) : j_fv r j = r.1 j := by unfold j_fv; rw [if_neg h1, if_neg h2]
theorem j_fvc {r r1 : q_R} {j : Nat} (h : ∀ g, g ∈ [1562, 1564, 1577, 1581] → r1.1 g = r.1 g) (hj : r1.1 j = r.1 j) : j_fv r1 j = j_fv r j := by
  unfold j_fv
  rw [h 1562 (by decide), h 1564 (by decide), h 1577 (by decide), h 1581 (by decide), hj]
theorem j_fve {r r1 : q_R} (h : r1.1 = r.1) : j_fv r1 = j_fv r := by
  funext j
  unfold j_fv
  rw [h]
theorem j_fvu {r : q_R} {g i : Nat} {v : Int32} (hg : ∀ k, k ∈ jQl → k ≠ g) (h : i ≠ g) : j_fv (uf r g v) i = j_fv r i := j_fvc (fun y hy => if_neg (hg y (by revert hy; revert y; decide))) (if_neg h)
def j_loc (r : q_R) (x j : Nat) : Int32 := if x = 0 then j_fv r j else r.2 x j
/-- single cells -/
def JS (n : Nat) (M : z_Mem) (r : q_R) : Prop := ∀ t, t ∈ jT → z_fi M t.1 (n + t.2.1) = j_loc r t.2.2.1 t.2.2.2
/-- rows -/
def JA (n : Nat) (M : z_Mem) (r : q_R) : Prop := ∀ t, t ∈ jR → ∀ j, j < t.2.1 → z_ai M (n + t.1) j = r.2 t.2.2.1 (t.2.2.2 + j)
/-- packets -/
def JP (n : Nat) (M : z_Mem) (r : q_R) : Prop := ∀ i, i < jN (r.1 1606) → ∃ pk, z_ar M (n + 38) i = some pk ∧ n + 108 ≤ pk ∧ pk < z_sz M ∧ z_fi M 768 pk = nI i ∧ ∀ t, t ∈ jPT → z_fi M t.1 pk = r.2 t.2 i
/-- a byte of a stream is lost -/
def j_lost (r : q_R) (s j : Nat) : Bool := decide ((j : Int) < (r.2 67 s).toInt ∧ r.2 69 (200 * s + j) = 0 ∧ r.2 70 (200 * s + j) = 0)
def j_fl (r : q_R) (p i : Nat) : Bool := decide (r.2 71 i = nI p ∧ r.2 76 i = 0)
/-- what is told in another form -/
def JX (n : Nat) (M : z_Mem) (r : q_R) : Prop :=
  (∀ p, p < 2 → (z_fi M 388 (n + (2 + 2 * p)) = 0 ↔ ¬ r.2 45 p = 0)) ∧
  (r.1 1577 = 3 → z_fi M 141 (n + 31) = r.1 1582 + 30) ∧
  (¬ r.1 1567 = -1 → z_fi M 1032 (n + 28) = r.1 1568 + 8) ∧
  (∀ s, s < 4 → z_fi M 1155 (n + (12 + 4 * s)) = nI (rf_c (j_lost r s) 200)) ∧
  (∀ s, s < 4 → ∃ g, g ≤ 200 ∧ z_fi M 1157 (n + (12 + 4 * s)) = nI g ∧ (∀ j, j < g → ¬ r.2 64 (200 * s + j) = 0) ∧ (g < 200 → r.2 64 (200 * s + g) = 0)) ∧
  (∀ p, p < 2 → z_fi M 899 (n + (32 + 3 * p)) = nI (rf_c (j_fl r p) (jN (r.1 1606)))) ∧
  (jN (z_fi M 134 (n + 31)) ≤ jN (r.1 1606) ∧ 0 ≤ (z_fi M 134 (n + 31)).toInt ∧ ∀ i, i < jN (z_fi M 134 (n + 31)) → ¬ r.2 76 i = 0) ∧
  (∀ p, p < 2 → z_fi M 266 (n + (33 + 3 * p)) = r.2 99 p - r.2 99 p / 8 * 8) ∧
  (∀ p, p < 2 → ¬ r.2 100 p = 0 → z_fi M 260 (n + (33 + 3 * p)) = r.2 103 p ∧ z_fi M 261 (n + (33 + 3 * p)) = r.2 104 p) ∧
  z_fi M 512 (n + 10) = 9
/-- a message to the server is of a sort, and says something -/
def j_kS (n : Nat) (M : z_Mem) (r : q_R) (m : Nat) (s i : Int32) : Prop :=
  (s = 1 ∧ z_fi M 512 m = 0 ∧ z_fr M 515 m = none ∧ z_fi M 517 m = i / 2 - 1 ∧ (z_fi M 518 m = 0 ↔ ¬ i - i / 2 * 2 = 1)) ∨
   (s = 2 ∧ z_fi M 512 m = 3 ∧ jN i < jN (r.1 1606) ∧ z_fr M 515 m = z_ar M (n + 38) (jN i)) ∨
   (s = 3 ∧ z_fi M 512 m = 5 ∧ z_fr M 515 m = none) ∨
   (s = 4 ∧ z_fi M 512 m = 7 ∧ z_fr M 515 m = none)
/-- a message to the server is a thing -/
def j_mS (n : Nat) (M : z_Mem) (r : q_R) (m th : Nat) : Prop := n + 108 ≤ m ∧ m < z_sz M ∧ z_fi M 513 m = r.2 54 th ∧ j_kS n M r m (r.2 52 th) (r.2 53 th)
/-- a queue -/
def JQ (n : Nat) (M : z_Mem) (r : q_R) (p : Nat) : Prop :=
  0 ≤ (z_fi M 394 (n + (2 + 2 * p))).toInt ∧ (z_fi M 394 (n + (2 + 2 * p))).toInt < 30 ∧
  (∀ k, k < jN (r.2 51 p) → ∃ m, z_ar M (n + (3 + 2 * p)) ((jN (z_fi M 394 (n + (2 + 2 * p))) + k) % 30) = some m ∧ ((r.2 50 (30 * p + k) = -1 ∧ m = n + 10) ∨ (∃ th : Nat, r.2 50 (30 * p + k) = nI th ∧ th < jN (r.1 1551) ∧ th < 1300 ∧ r.2 54 th = nI p ∧ j_mS n M r m th ∧ z_fi M 514 m = 0))) ∧
  (∀ k1 k2 m1 m2, k1 < k2 → k2 < jN (r.2 51 p) → z_ar M (n + (3 + 2 * p)) ((jN (z_fi M 394 (n + (2 + 2 * p))) + k1) % 30) = some m1 → z_ar M (n + (3 + 2 * p)) ((jN (z_fi M 394 (n + (2 + 2 * p))) + k2) % 30) = some m2 → n + 108 ≤ m1 → n + 108 ≤ m2 → m1 < m2)
/-- what is under way to the server -/
def JT (n : Nat) (M : z_Mem) (r : q_R) (L : List Nat) : Prop :=
  z_fi M 1281 (n + 6) = nI L.length ∧ L.length ≤ 1024 ∧ (∀ k, k ∈ L → k < jN (r.1 1554)) ∧
  ∀ i k, L[i]? = some k → ∃ m, z_ar M (n + 7) i = some m ∧ z_fi M 514 m = r.2 56 k ∧ 0 < (r.2 56 k).toInt ∧ jN (r.2 55 k) < jN (r.1 1551) ∧ j_mS n M r m (jN (r.2 55 k))
/-- an ACK is a row of what was told -/
def j_ack (n : Nat) (M : z_Mem) (r : q_R) (b t : Nat) : Prop := n + 108 ≤ b ∧ b < z_sz M ∧ ∃ l h e, z_fr M 0 b = some l ∧ z_fr M 1 b = some h ∧ z_fr M 2 b = some e ∧ (n + 108 ≤ l ∧ l < z_sz M) ∧ (n + 108 ≤ h ∧ h < z_sz M) ∧ (n + 108 ≤ e ∧ e < z_sz M) ∧
  z_fi M 3 b = r.2 61 (15 * t) ∧ (∀ i, i < jN (r.2 61 (15 * t)) → z_ai M l i = r.2 61 (15 * t + 1 + 2 * i) ∧ z_ai M h i = r.2 61 (15 * t + 2 + 2 * i)) ∧ z_fi M 4 b = r.2 61 (15 * t + 9) ∧ (∀ s, s < 4 → z_ai M e s = r.2 61 (15 * t + 10 + s)) ∧ z_fi M 5 b = r.2 61 (15 * t + 14)
/-- a message to the client is of a sort, and says something -/
def j_kC (n : Nat) (M : z_Mem) (r : q_R) (m : Nat) (s i : Int32) : Prop :=
  (s = 5 ∧ z_fi M 512 m = 1 ∧ z_fr M 516 m = none) ∨
   (s = 6 ∧ z_fi M 512 m = 2 ∧ z_fr M 516 m = none ∧ (z_fi M 519 m = 0 ↔ ¬ i = 1)) ∨
   (s = 7 ∧ z_fi M 512 m = 4 ∧ jN i < jN (r.1 1561) ∧ ∃ b, z_fr M 516 m = some b ∧ j_ack n M r b (jN i)) ∨
   (s = 8 ∧ z_fi M 512 m = 6 ∧ z_fr M 516 m = none) ∨
   (s = 9 ∧ z_fi M 512 m = 8 ∧ z_fr M 516 m = none)
/-- a message to the client is an answer -/
def j_mC (n : Nat) (M : z_Mem) (r : q_R) (m k : Nat) : Prop := n + 108 ≤ m ∧ m < z_sz M ∧ z_fi M 513 m = r.2 59 k ∧ z_fi M 514 m = r.2 60 k ∧ j_kC n M r m (r.2 57 k) (r.2 58 k)
/-- what is under way to the client -/
def JC (n : Nat) (M : z_Mem) (r : q_R) (L : List Nat) : Prop :=
  z_fi M 1281 (n + 8) = nI L.length ∧ L.length ≤ 2048 ∧ (∀ k, k ∈ L → k < jN (r.1 1559)) ∧ (∀ t, t < jN (r.1 1561) → (r.2 61 (15 * t)).toInt ≤ 4) ∧
  ∀ i k, L[i]? = some k → ∃ m, z_ar M (n + 9) i = some m ∧ j_mC n M r m k
def JJ (n : Nat) (M : z_Mem) (r : q_R) (TL CL : List Nat) : Prop := y_S n M ∧ JS n M r ∧ JA n M r ∧ JX n M r ∧ JP n M r ∧ (∀ p, p < 2 → JQ n M r p) ∧ JT n M r TL ∧ JC n M r CL
/-- what lies behind the fixed objects is as it was -/
def hF (n : Nat) (M M1 : z_Mem) : Prop := z_sz M ≤ z_sz M1 ∧ ∀ a, n + 108 ≤ a → a < z_sz M → (∀ g, z_fi M1 g a = z_fi M g a) ∧ (∀ g, z_fr M1 g a = z_fr M g a) ∧ (∀ j, z_ai M1 a j = z_ai M a j)
/-- the same, of all but packets -/
def hM (n : Nat) (M M1 : z_Mem) : Prop := z_sz M ≤ z_sz M1 ∧ ∀ a, n + 108 ≤ a → a < z_sz M → (∀ g, g < 768 → z_fi M1 g a = z_fi M g a) ∧ (∀ g, z_fr M1 g a = z_fr M g a) ∧ (∀ j, z_ai M1 a j = z_ai M a j)
section JH
variable {n : Nat} {M M1 M2 : z_Mem} {r r1 : q_R} {TL CL : List Nat}
theorem hF_rf : hF n M M := ⟨Nat.le_refl _, fun _ _ _ => ⟨fun _ => rfl, fun _ => rfl, fun _ => rfl⟩⟩
theorem hF_tr (h : hF n M M1) (k : hF n M1 M2) : hF n M M2 := ⟨Nat.le_trans h.1 k.1, fun a h0 h1 => by
  obtain ⟨q1, q2, q3⟩ := h.2 a h0 h1
  obtain ⟨p1, p2, p3⟩ := k.2 a h0 (Nat.lt_of_lt_of_le h1 h.1)
  exact ⟨fun g => (p1 g).trans (q1 g), fun g => (p2 g).trans (q2 g), fun j => (p3 j).trans (q3 j)⟩⟩
theorem hF_sfi {g c : Nat} {v : Int32} (hc : c < 108) : hF n M (z_sfi M g (n + c) v) := ⟨Nat.le_refl _, fun a h0 _ => ⟨fun k => by rw [zq_fi_sfi, if_neg (show ¬ a = n + c by omega), ite_self], fun _ => rfl, fun _ => rfl⟩⟩
theorem hF_sfiF {g a : Nat} {v : Int32} (h : z_sz M ≤ a) : hF n M (z_sfi M g a v) := ⟨Nat.le_refl _, fun b h0 h1 => ⟨fun k => by rw [zq_fi_sfi, if_neg (show ¬ b = a by omega), ite_self], fun _ => rfl, fun _ => rfl⟩⟩
theorem hF_sfrF {g a : Nat} {v : Option Nat} (h : z_sz M ≤ a) : hF n M (z_sfr M g a v) := ⟨Nat.le_refl _, fun b h0 h1 => ⟨fun _ => rfl, fun k => by rw [zq_fr_sfr, if_neg (show ¬ b = a by omega), ite_self], fun _ => rfl⟩⟩
theorem hF_sai {c j : Nat} {v : Int32} (hc : c < 108) : hF n M (z_sai M (n + c) j v) := ⟨Nat.le_refl _, fun a h0 _ => ⟨fun _ => rfl, fun _ => rfl, fun k => by rw [zq_ai_sai, if_neg (show ¬ a = n + c by omega)]⟩⟩
theorem hF_saiF {a j : Nat} {v : Int32} (h : z_sz M ≤ a) : hF n M (z_sai M a j v) := ⟨Nat.le_refl _, fun b h0 h1 => ⟨fun _ => rfl, fun _ => rfl, fun k => by rw [zq_ai_sai, if_neg (show ¬ b = a by omega)]⟩⟩
theorem hF_sar {a j : Nat} {v : Option Nat} : hF n M (z_sar M a j v) := ⟨Nat.le_refl _, fun _ _ _ => ⟨fun _ => rfl, fun _ => rfl, fun _ => rfl⟩⟩
theorem hF_srr {a : Nat} {f : Nat → Option Nat} : hF n M (z_srr M a f) := ⟨Nat.le_refl _, fun _ _ _ => ⟨fun _ => rfl, fun _ => rfl, fun _ => rfl⟩⟩
theorem hF_new {k w : Nat} : hF n M (z_new M k w) := ⟨Nat.le_succ _, fun a h0 h1 => ⟨fun g => by rw [zq_fi_new, if_neg (by omega)], fun g => by rw [zq_fr_new, if_neg (by omega)], fun _ => rfl⟩⟩
theorem hF_nwa {k w : Nat} : hF n M (z_nwa M k w) := ⟨Nat.le_succ _, fun a h0 h1 => ⟨fun _ => rfl, fun _ => rfl, fun j => by rw [zq_ai_nwa, if_neg (by omega)]⟩⟩
theorem hF.m (h : hF n M M1) : hM n M M1 := ⟨h.1, fun a h0 h1 => ⟨fun g _ => (h.2 a h0 h1).1 g, (h.2 a h0 h1).2⟩⟩
theorem JP.congr (h : JP n M r) (H : hF n M M1) (ha : z_ar M1 (n + 38) = z_ar M (n + 38)) (h6 : r1.1 1606 = r.1 1606) (hA : ∀ t, t ∈ jPT → r1.2 t.2 = r.2 t.2) : JP n M1 r1 := fun i hi => by
  rw [h6] at hi
  obtain ⟨pk, h1, h2, h3, h4, h5⟩ := h i hi
  obtain ⟨q1, -, -⟩ := H.2 pk h2 h3
  exact ⟨pk, by rw [ha]; exact h1, h2, Nat.lt_of_lt_of_le h3 H.1, by rw [q1]; exact h4, fun t ht => by rw [q1, hA t ht]; exact h5 t ht⟩
theorem j_kS.congr {m : Nat} {s i : Int32} (h : j_kS n M r m s i) (h1 : n + 108 ≤ m) (h2 : m < z_sz M) (H : hM n M M1) (ha : z_ar M1 (n + 38) = z_ar M (n + 38)) (h6 : r1.1 1606 = r.1 1606) : j_kS n M1 r1 m s i := by
  obtain ⟨q1, q2, -⟩ := H.2 m h1 h2
  unfold j_kS
  rw [q1 512 (by decide), q1 517 (by decide), q1 518 (by decide), q2, h6, ha]
  exact h
theorem j_mS.congr {m th : Nat} (h : j_mS n M r m th) (H : hM n M M1) (ha : z_ar M1 (n + 38) = z_ar M (n + 38)) (h6 : r1.1 1606 = r.1 1606) (h52 : r1.2 52 th = r.2 52 th) (h53 : r1.2 53 th = r.2 53 th) (h54 : r1.2 54 th = r.2 54 th) : j_mS n M1 r1 m th := by
  obtain ⟨h1, h2, h3, h4⟩ := h
  obtain ⟨q1, q2, -⟩ := H.2 m h1 h2
  refine ⟨h1, Nat.lt_of_lt_of_le h2 H.1, by rw [q1 513 (by decide), h54]; exact h3, ?_⟩
  rw [h52, h53]; exact h4.congr h1 h2 H ha h6
theorem JQ.congr {p : Nat} (h : JQ n M r p) (H : hM n M M1) (ha : z_ar M1 (n + 38) = z_ar M (n + 38)) (hq : z_ar M1 (n + (3 + 2 * p)) = z_ar M (n + (3 + 2 * p))) (hh : z_fi M1 394 (n + (2 + 2 * p)) = z_fi M 394 (n + (2 + 2 * p))) (h6 : r1.1 1606 = r.1 1606) (h51 : r1.2 51 p = r.2 51 p) (h50 : ∀ k, k < jN (r.2 51 p) → r1.2 50 (30 * p + k) = r.2 50 (30 * p + k)) (ht : jN (r.1 1551) ≤ jN (r1.1 1551)) (hr : ∀ x th, x ∈ [52, 53, 54] → th < jN (r.1 1551) → r1.2 x th = r.2 x th) : JQ n M1 r1 p := by
  obtain ⟨h1, h2, h3, h4⟩ := h
  refine ⟨by rw [hh]; exact h1, by rw [hh]; exact h2, fun k hk => ?_, fun k1 k2 m1 m2 a b => ?_⟩
  · rw [h51] at hk
    obtain ⟨m, e, h⟩ := h3 k hk
    refine ⟨m, by rw [hq, hh]; exact e, ?_⟩
    rw [h50 k hk]
    rcases h with h | ⟨th, g1, g2, g3, g4, g5, g6⟩
    · exact Or.inl h
    · refine Or.inr ⟨th, g1, Nat.lt_of_lt_of_le g2 ht, g3, by rw [hr 54 th (by decide) g2]; exact g4, g5.congr H ha h6 (hr 52 th (by decide) g2) (hr 53 th (by decide) g2) (hr 54 th (by decide) g2), ?_⟩
      rw [(H.2 m g5.1 g5.2.1).1 514 (by decide)]; exact g6
  · rw [hq, hh]; exact h4 k1 k2 m1 m2 a (by rw [← h51]; exact b)
theorem JT.congr (h : JT n M r TL) (H : hM n M M1) (ha : z_ar M1 (n + 38) = z_ar M (n + 38)) (hq : z_ar M1 (n + 7) = z_ar M (n + 7)) (hl : z_fi M1 1281 (n + 6) = z_fi M 1281 (n + 6)) (h6 : r1.1 1606 = r.1 1606) (ht : jN (r.1 1551) ≤ jN (r1.1 1551)) (h54 : jN (r.1 1554) ≤ jN (r1.1 1554)) (hr : ∀ x th, x ∈ [52, 53, 54] → th < jN (r.1 1551) → r1.2 x th = r.2 x th) (hk : ∀ x k, x ∈ [55, 56] → k < jN (r.1 1554) → r1.2 x k = r.2 x k) : JT n M1 r1 TL := by
  obtain ⟨h1, h2, h3, h4⟩ := h
  refine ⟨hl.trans h1, h2, fun k h => Nat.lt_of_lt_of_le (h3 k h) h54, fun i k e => ?_⟩
  obtain ⟨m, g1, g2, g3, g4, g5⟩ := h4 i k e
  have hkk := h3 k (List.mem_of_getElem? e)
  refine ⟨m, by rw [hq]; exact g1, ?_, ?_, ?_, ?_⟩
  · rw [(H.2 m g5.1 g5.2.1).1 514 (by decide), hk 56 k (by decide) hkk]; exact g2
  · rw [hk 56 k (by decide) hkk]; exact g3
  · rw [hk 55 k (by decide) hkk]; exact Nat.lt_of_lt_of_le g4 ht
  · rw [hk 55 k (by decide) hkk]; exact g5.congr H ha h6 (hr 52 _ (by decide) g4) (hr 53 _ (by decide) g4) (hr 54 _ (by decide) g4)
theorem j_ack.congr {b t : Nat} (h : j_ack n M r b t) (H : hM n M M1) (hr : ∀ i, i < 15 → r1.2 61 (15 * t + i) = r.2 61 (15 * t + i)) (hn : (r.2 61 (15 * t)).toInt ≤ 4) : j_ack n M1 r1 b t := by
  obtain ⟨h1, h2, l, hh, e, g1, g2, g3, g4, g5, g6, k1, k2, k3, k4, k5⟩ := h
  obtain ⟨q1, q2, -⟩ := H.2 b h1 h2
  have e0 : r1.2 61 (15 * t) = r.2 61 (15 * t) := hr 0 (by decide)
  have hn4 : jN (r.2 61 (15 * t)) ≤ 4 := by unfold jN Int32.toNatClampNeg; omega
  refine ⟨h1, Nat.lt_of_lt_of_le h2 H.1, l, hh, e, by rw [q2]; exact g1, by rw [q2]; exact g2, by rw [q2]; exact g3, ⟨g4.1, Nat.lt_of_lt_of_le g4.2 H.1⟩, ⟨g5.1, Nat.lt_of_lt_of_le g5.2 H.1⟩, ⟨g6.1, Nat.lt_of_lt_of_le g6.2 H.1⟩, ?_, fun i hi => ?_, ?_, fun s hs => ?_, ?_⟩
  · rw [q1 3 (by decide), e0]; exact k1
  · rw [e0] at hi
    rw [(H.2 l g4.1 g4.2).2.2, (H.2 hh g5.1 g5.2).2.2, Nat.add_assoc, Nat.add_assoc, hr (1 + 2 * i) (by omega), hr (2 + 2 * i) (by omega), ← Nat.add_assoc, ← Nat.add_assoc]; exact k2 i hi
  · rw [q1 4 (by decide), hr 9 (by decide)]; exact k3
  · rw [(H.2 e g6.1 g6.2).2.2, Nat.add_assoc, hr (10 + s) (by omega), ← Nat.add_assoc]; exact k4 s hs
  · rw [q1 5 (by decide), hr 14 (by decide)]; exact k5
theorem j_kC.congr {m : Nat} {s i : Int32} (h5 : j_kC n M r m s i) (h1 : n + 108 ≤ m) (h2 : m < z_sz M) (H : hM n M M1) (hn : ∀ t, t < jN (r.1 1561) → (r.2 61 (15 * t)).toInt ≤ 4) (ht : jN (r.1 1561) ≤ jN (r1.1 1561)) (h61 : ∀ t i, t < jN (r.1 1561) → i < 15 → r1.2 61 (15 * t + i) = r.2 61 (15 * t + i)) : j_kC n M1 r1 m s i := by
  obtain ⟨q1, q2, -⟩ := H.2 m h1 h2
  unfold j_kC
  rw [q1 512 (by decide), q1 519 (by decide), q2]
  rcases h5 with h | h | ⟨g1, g2, g3, b, g4, g5⟩ | h | h
  · exact Or.inl h
  · exact Or.inr (Or.inl h)
  · exact Or.inr (Or.inr (Or.inl ⟨g1, g2, Nat.lt_of_lt_of_le g3 ht, b, g4, g5.congr H (fun i hi => h61 _ i g3 hi) (hn _ g3)⟩))
  · exact Or.inr (Or.inr (Or.inr (Or.inl h)))
  · exact Or.inr (Or.inr (Or.inr (Or.inr h)))
theorem j_mC.congr {m k : Nat} (h : j_mC n M r m k) (H : hM n M M1) (hn : ∀ t, t < jN (r.1 1561) → (r.2 61 (15 * t)).toInt ≤ 4) (ht : jN (r.1 1561) ≤ jN (r1.1 1561)) (h61 : ∀ t i, t < jN (r.1 1561) → i < 15 → r1.2 61 (15 * t + i) = r.2 61 (15 * t + i)) (hr : ∀ x, x ∈ [57, 58, 59, 60] → r1.2 x k = r.2 x k) : j_mC n M1 r1 m k := by
  obtain ⟨h1, h2, h3, h4, h5⟩ := h
  obtain ⟨q1, q2, -⟩ := H.2 m h1 h2
  refine ⟨h1, Nat.lt_of_lt_of_le h2 H.1, by rw [q1 513 (by decide), hr 59 (by decide)]; exact h3, by rw [q1 514 (by decide), hr 60 (by decide)]; exact h4, ?_⟩
  rw [hr 57 (by decide), hr 58 (by decide)]
  exact h5.congr h1 h2 H hn ht h61
theorem JC.congr (h : JC n M r CL) (H : hM n M M1) (hq : z_ar M1 (n + 9) = z_ar M (n + 9)) (hl : z_fi M1 1281 (n + 8) = z_fi M 1281 (n + 8)) (ha : jN (r.1 1559) ≤ jN (r1.1 1559)) (hn1 : ∀ t, t < jN (r1.1 1561) → (r1.2 61 (15 * t)).toInt ≤ 4) (ht : jN (r.1 1561) ≤ jN (r1.1 1561)) (h61 : ∀ t i, t < jN (r.1 1561) → i < 15 → r1.2 61 (15 * t + i) = r.2 61 (15 * t + i)) (hr : ∀ x k, x ∈ [57, 58, 59, 60] → k < jN (r.1 1559) → r1.2 x k = r.2 x k) : JC n M1 r1 CL := by
  obtain ⟨h1, h2, h3, hn, h4⟩ := h
  refine ⟨hl.trans h1, h2, fun k hk => Nat.lt_of_lt_of_le (h3 k hk) ha, hn1, fun i k e => ?_⟩
  obtain ⟨m, g1, g2⟩ := h4 i k e
  have hk := h3 k (List.mem_of_getElem? e)
  exact ⟨m, by rw [hq]; exact g1, g2.congr H hn ht h61 (fun x hx => hr x k hx hk)⟩
/-- M1 is M, and new objects -/
def jE (n : Nat) (M M1 : z_Mem) : Prop := hF n M M1 ∧ y_S n M1 ∧ (∀ g a, a < n + 108 → z_fi M1 g a = z_fi M g a) ∧ (∀ a j, a < n + 108 → z_ai M1 a j = z_ai M a j) ∧ (∀ a, a < n + 108 → z_ar M1 a = z_ar M a)
theorem jE_rf (S : y_S n M) : jE n M M := ⟨hF_rf, S, fun _ _ _ => rfl, fun _ _ _ => rfl, fun _ _ => rfl⟩
theorem jE_tr (h : jE n M M1) (k : jE n M1 M2) : jE n M M2 := ⟨hF_tr h.1 k.1, k.2.1, fun g a ha => (k.2.2.1 g a ha).trans (h.2.2.1 g a ha), fun a j ha => (k.2.2.2.1 a j ha).trans (h.2.2.2.1 a j ha), fun a ha => (k.2.2.2.2 a ha).trans (h.2.2.2.2 a ha)⟩
theorem jE_new {k w : Nat} (S : y_S n M) : jE n M (z_new M k w) := by
  have hz := S.2.2.2
  exact ⟨hF_new, S_new S, fun g a ha => by rw [zq_fi_new, if_neg (by omega)], fun _ _ _ => rfl, fun _ _ => rfl⟩
theorem jE_nwa {k w : Nat} (S : y_S n M) : jE n M (z_nwa M k w) := by
  have hz := S.2.2.2
  exact ⟨hF_nwa, S_nwa S, fun _ _ _ => rfl, fun a j ha => by rw [zq_ai_nwa, if_neg (by omega)], fun a ha => funext fun j => by rw [zq_ar_nwa, if_neg (by omega)]⟩
/-- a write to an object that is new against M -/
theorem jE_sfi {g a : Nat} {v : Int32} (h : jE n M M1) (S : y_S n M) (ha : z_sz M ≤ a) (e : M2 = z_sfi M1 g a v) : jE n M M2 := by
  subst e
  have hz := S.2.2.2
  refine ⟨⟨h.1.1, fun b h0 h1 => ?_⟩, S_sfi h.2.1, fun k b hb => ?_, h.2.2.2.1, h.2.2.2.2⟩
  · obtain ⟨q1, q2, q3⟩ := h.1.2 b h0 h1
    exact ⟨fun k => by rw [zq_fi_sfi, if_neg (show ¬ b = a by omega), ite_self]; exact q1 k, q2, q3⟩
  · rw [zq_fi_sfi, if_neg (show ¬ b = a by omega), ite_self]; exact h.2.2.1 k b hb
theorem jE_sfr {g a : Nat} {v : Option Nat} (h : jE n M M1) (S : y_S n M) (ha : z_sz M ≤ a) (hg : y_Tg g = true) (e : M2 = z_sfr M1 g a v) : jE n M M2 := by
  subst e
  refine ⟨⟨h.1.1, fun b h0 h1 => ?_⟩, S_sfr hg h.2.1, h.2.2.1, h.2.2.2.1, h.2.2.2.2⟩
  obtain ⟨q1, q2, q3⟩ := h.1.2 b h0 h1
  exact ⟨q1, fun k => by rw [zq_fr_sfr, if_neg (show ¬ b = a by omega), ite_self]; exact q2 k, q3⟩
theorem jE_sai {a j : Nat} {v : Int32} (h : jE n M M1) (S : y_S n M) (ha : z_sz M ≤ a) (e : M2 = z_sai M1 a j v) : jE n M M2 := by
  subst e
  have hz := S.2.2.2
  refine ⟨⟨h.1.1, fun b h0 h1 => ?_⟩, h.2.1, h.2.2.1, fun b k hb => ?_, h.2.2.2.2⟩
  · obtain ⟨q1, q2, q3⟩ := h.1.2 b h0 h1
    exact ⟨q1, q2, fun k => by rw [zq_ai_sai, if_neg (show ¬ b = a by omega)]; exact q3 k⟩
  · rw [zq_ai_sai, if_neg (show ¬ b = a by omega)]; exact h.2.2.2.1 b k hb
end JH
