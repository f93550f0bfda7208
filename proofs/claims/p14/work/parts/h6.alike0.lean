/-! ===== FRESH: class and reference are alike at first ===== -/
noncomputable def r58 : q_R := (fun g => z_fi y_m58 g 40, fun x j => if x = 120 then (if j = 1 then 1 else 0) else z_ai y_m58 x j)
theorem rz58 {x j : Nat} (hx : x ∉ ([41, 42, 43, 44, 68, 84, 85, 87, 88, 89, 90, 92, 94, 102, 120] : List Nat)) : r58.2 x j = 0 := by
  have h1 : x ≠ 120 := fun e => hx (by rw [e]; decide)
  have h2 : x ∉ ([41, 42, 43, 44, 68, 84, 85, 87, 88, 89, 90, 92, 94, 102] : List Nat) := fun h => hx (List.mem_append_left [120] h)
  show (if x = 120 then (if j = 1 then 1 else 0) else z_ai y_m58 x j) = 0
  rw [if_neg h1]; exact ai58 h2
theorem q1551 : r58.1 1551 = 0 := by decide +kernel
theorem q1554 : r58.1 1554 = 0 := by decide +kernel
theorem q1559 : r58.1 1559 = 0 := by decide +kernel
theorem q1561 : r58.1 1561 = 0 := by decide +kernel
theorem q1577 : r58.1 1577 = 0 := by decide +kernel
theorem q1606 : r58.1 1606 = 0 := by decide +kernel
theorem q1536 : r58.1 1536 = 0 := by decide +kernel
theorem q1562 : r58.1 1562 = 0 := by decide +kernel
theorem q1567 : r58.1 1567 = -1 := by decide +kernel
theorem q1574 : r58.1 1574 = -1 := by decide +kernel
theorem q1583 : r58.1 1583 = 0 := by decide +kernel
theorem q1584 : r58.1 1584 = 0 := by decide +kernel
theorem jN0 : jN 0 = 0 := rfl
theorem nI0 : nI 0 = 0 := rfl
theorem n1551 : jN (r58.1 1551) = 0 := by rw [q1551]; rfl
theorem n1554 : jN (r58.1 1554) = 0 := by rw [q1554]; rfl
theorem n1559 : jN (r58.1 1559) = 0 := by rw [q1559]; rfl
theorem n1561 : jN (r58.1 1561) = 0 := by rw [q1561]; rfl
theorem n1606 : jN (r58.1 1606) = 0 := by rw [q1606]; rfl
theorem rf_c_z {p : Nat → Bool} : ∀ k, (∀ j, j < k → p j = false) → rf_c p k = 0
  | 0, _ => rfl
  | k + 1, h => by
    unfold rf_c
    rw [rf_c_z k (fun j hj => h j (by omega)), h k (by omega)]; rfl
theorem js58 : ∀ t, t ∈ jT → z_fi y_m58 t.1 t.2.1 = j_loc r58 t.2.2.1 t.2.2.2 := by
  have : jT.all (fun t => decide (z_fi y_m58 t.1 t.2.1 = j_loc r58 t.2.2.1 t.2.2.2)) = true := by decide +kernel
  exact fun t ht => of_decide_eq_true (List.all_eq_true.mp this t ht)
theorem ja58 : ∀ t, t ∈ jR → t.1 ∉ ([41, 42, 43, 44, 68, 84, 85, 87, 88, 89, 90, 92, 94, 102] : List Nat) ∧ t.2.2.1 ∉ ([41, 42, 43, 44, 68, 84, 85, 87, 88, 89, 90, 92, 94, 102, 120] : List Nat) := by decide
theorem x388 : ∀ p, p < 2 → ¬ z_fi y_m58 388 (2 + 2 * p) = 0 := by decide +kernel
theorem x1155 : ∀ s, s < 4 → z_fi y_m58 1155 (12 + 4 * s) = 0 := by decide +kernel
theorem x1157 : ∀ s, s < 4 → z_fi y_m58 1157 (12 + 4 * s) = 0 := by decide +kernel
theorem x899 : ∀ p, p < 2 → z_fi y_m58 899 (32 + 3 * p) = 0 := by decide +kernel
theorem x134 : z_fi y_m58 134 31 = 0 := by decide +kernel
theorem x266 : ∀ p, p < 2 → z_fi y_m58 266 (33 + 3 * p) = 0 := by decide +kernel
theorem x512 : z_fi y_m58 512 10 = 9 := by decide +kernel
theorem x394 : ∀ p, p < 2 → z_fi y_m58 394 (2 + 2 * p) = 0 := by decide +kernel
theorem tl58 {d : Int} : pS d r58 = [] := by
  unfold pS
  rw [n1554]; rfl
theorem cl58 {d : Int} : pC d r58 = [] := by
  unfold pC
  rw [n1559]; rfl
theorem kA58 : kA r58 := by
  refine ⟨q1583, ?_, fun i hi => ?_, fun i _ => ⟨rz58 (by decide), rz58 (by decide)⟩, fun i j _ hj => ?_, rfl, rfl⟩
  · rw [rz58 (by decide), q1606]
  · rw [n1606] at hi; exact absurd hi (Nat.not_lt_zero _)
  · rw [n1606] at hj; exact absurd hj (Nat.not_lt_zero _)
theorem kB58 : kB r58 := by
  refine ⟨fun i hi => ?_, fun h => absurd (by decide +kernel) h, fun p _ => Or.inl (rz58 (by decide)), fun i => Or.inl (rz58 (by decide))⟩
  rw [n1606] at hi; exact absurd hi (Nat.not_lt_zero _)
theorem kC58 : kC r58 := by
  refine ⟨fun s j _ _ => ?_, fun i _ => rz58 (by decide), fun i s hi => ?_⟩
  · rw [rz58 (by decide), n1606]; rfl
  · rw [n1606] at hi; exact absurd hi (Nat.not_lt_zero _)
theorem kD58 : kD r58 := by
  refine ⟨fun _ => ⟨by decide +kernel, by decide +kernel⟩, fun k _ => ?_, by decide +kernel, ?_, by decide +kernel⟩
  · rw [rz58 (by decide)]; decide
  · rw [rz58 (by decide)]; decide
theorem nD58 : nD r58 := by
  refine ⟨fun th h => ?_, fun k h => ?_, ⟨fun i _ => Or.inl (rz58 (by decide)), by decide +kernel, fun k _ _ => rz58 (by decide)⟩, fun k _ h => absurd (rz58 (by decide)) h, fun a h => ?_, fun i h => ?_, by decide +kernel, by decide +kernel⟩
  · rw [n1551] at h; exact absurd h (Nat.not_lt_zero _)
  · rw [n1554] at h; exact absurd h (Nat.not_lt_zero _)
  · rw [n1559] at h; exact absurd h (Nat.not_lt_zero _)
  · rw [n1606] at h; exact absurd h (Nat.not_lt_zero _)
theorem nS58 : nS r58 := by
  refine ⟨Or.inl q1562, Or.inl q1577, fun _ => ⟨fun th h => ?_, fun k h => ?_, Or.inl q1577⟩, fun _ => ⟨n1551, n1559, Or.inl q1562⟩, fun e => ?_, fun e => ?_⟩
  · rw [n1551] at h; exact absurd h (Nat.not_lt_zero _)
  · rw [n1559] at h; exact absurd h (Nat.not_lt_zero _)
  · rw [q1577] at e; exact absurd e (by decide)
  · rw [q1577] at e; exact absurd e (by decide)
theorem nC58 : nC 0 0 r58 := by
  have hf : nFl r58 = 0 := if_pos q1574
  refine ⟨0, 0, by omega, fun _ => rfl, fun e => ?_, ?_, ?_⟩
  · rw [q1577] at e; exact absurd e (by decide)
  · rw [n1551]; exact Nat.zero_le _
  · rw [n1551, n1559, hf]; exact Nat.zero_le _
theorem nK58 : nK 0 r58 := by
  refine ⟨⟨by decide +kernel, by decide +kernel, fun p _ => ?_, fun i => ?_, ?_⟩, ?_, ?_⟩
  · rw [rz58 (by decide)]; decide
  · rw [rz58 (by decide)]; decide
  · rw [q1536]; decide
  · rw [q1584]; decide
  · rw [q1584]; decide
theorem nP58 : nP 0 0 0 r58 := by
  refine ⟨fun p k _ h => ?_, ⟨fun k th h => ?_, fun th h => ?_, fun k h => ?_, fun k h => ?_⟩, nD58, nS58, nC58, nK58⟩
  · rw [rz58 (by decide)] at h; exact absurd h (Nat.not_lt_zero _)
  · rw [rz58 (by decide)] at h; exact absurd h (Nat.not_lt_zero _)
  · rw [n1551] at h; exact absurd h (Nat.not_lt_zero _)
  · rw [n1554] at h; exact absurd h (Nat.not_lt_zero _)
  · rw [n1559] at h; exact absurd h (Nat.not_lt_zero _)
theorem nA58 : nA 1 r58 := by
  refine ⟨fun e => ?_, fun _ => q1574, fun _ => q1574, fun s _ => ?_⟩
  · rw [q1562] at e; exact absurd e (by decide)
  · have e : r58.2 65 s = 0 := rz58 (by decide)
    rw [e]
    exact ⟨by decide, by decide, fun j hj => absurd hj (Nat.not_lt_zero _)⟩
section JX0
variable {n r1 k1 r2 k2 : Nat} {M : z_Mem}
theorem JX58 (fi : ∀ g a, z_fi M g (n + a) = z_fi y_m58 g a) : JX n M r58 := by
  refine ⟨fun p hp => ?_, fun e => ?_, fun e => absurd q1567 e, fun s hs => ?_, fun s hs => ⟨0, by decide, ?_, fun j hj => absurd hj (Nat.not_lt_zero _), fun _ => rz58 (by decide)⟩, fun p hp => ?_, ⟨?_, ?_, fun i hi => ?_⟩, fun p hp => ?_, fun p _ e => absurd (rz58 (by decide)) e, (fi 512 10).trans x512⟩
  · rw [fi]; exact ⟨fun e => absurd e (x388 p hp), fun e => absurd (rz58 (by decide)) e⟩
  · rw [q1577] at e; exact absurd e (by decide)
  · rw [fi, x1155 s hs, rf_c_z]
    · rfl
    · intro j _
      unfold j_lost
      refine decide_eq_false (fun h => ?_)
      have h0 := h.1
      rw [rz58 (by decide), show (0 : Int32).toInt = 0 from rfl] at h0
      omega
  · rw [fi, x1157 s hs]; rfl
  · rw [fi, x899 p hp, n1606]; rfl
  · rw [fi, x134]; exact Nat.zero_le _
  · rw [fi, x134]; decide
  · rw [fi, x134] at hi; exact absurd hi (Nat.not_lt_zero _)
  · rw [fi, x266 p hp, rz58 (by decide)]; decide
theorem JJ58 (h : y_B n M y_m58 r1 k1 r2 k2 108) {d e : Int} : JJ n M r58 (pS d r58) (pC e r58) := by
  have S := y_S0 h
  obtain ⟨⟨-, h2, fi, h4, h5, h6, h7, h8, h9, h10⟩, -, -, -⟩ := h
  rw [tl58, cl58]
  refine ⟨S, fun t ht => ?_, fun t ht j _ => ?_, JX58 fi, fun i hi => ?_, fun p hp => ⟨?_, ?_, fun k hk => ?_, fun k1 k2 m1 m2 _ hk => ?_⟩, ⟨?_, by decide, fun k hk => absurd hk List.not_mem_nil, fun i k hk => ?_⟩, ⟨?_, by decide, fun k hk => absurd hk List.not_mem_nil, fun t ht => ?_, fun i k hk => ?_⟩⟩
  · rw [fi]; exact js58 t ht
  · rw [h5, ai58 (ja58 t ht).1, rz58 (ja58 t ht).2]
  · rw [n1606] at hi; exact absurd hi (Nat.not_lt_zero _)
  · rw [fi, x394 p hp]; decide
  · rw [fi, x394 p hp]; decide
  · rw [rz58 (by decide)] at hk; exact absurd hk (Nat.not_lt_zero _)
  · rw [rz58 (by decide)] at hk; exact absurd hk (Nat.not_lt_zero _)
  · rw [fi, c1281_6]; rfl
  · rw [List.getElem?_nil] at hk; cases hk
  · rw [fi, c1281_8]; rfl
  · rw [n1561] at ht; exact absurd ht (Nat.not_lt_zero _)
  · rw [List.getElem?_nil] at hk; cases hk
theorem hV58 (h : y_B n M y_m58 601024 108 7293034 89908 108) : hV n 512 0 M := by
  have V := y_V0 h
  have J := JJ58 h (d := (r58.1 1536).toInt + 1) (e := (r58.1 1536).toInt + 1)
  obtain ⟨⟨-, h2, fi, h4, h5, h6, h7, h8, h9, h10⟩, -, -, hz⟩ := h
  have R : q_rep n M r58 := ⟨fun g _ => fi g 40, fun x j _ hx => by
    rw [h5]
    show _ = (if x = 120 then (if j = 1 then 1 else 0) else z_ai y_m58 x j)
    rw [if_neg (by omega)]⟩
  refine ⟨V, Or.inl ⟨⟨0, ⟨by rw [h8, hz]; exact Nat.le_refl _, ?_, fun h => h.elim, ?_⟩, mQc_rep R q1583 ?_ (fun h => h.elim)⟩, r58, R, J, ⟨kA58, kB58, kC58, kD58⟩, nP58, nA58⟩⟩
  · rw [fi, x898_32]; decide
  · rw [fi]; exact x143_31
  · show ¬ z_ai y_m58 92 0 = 0
    rw [x92_0]; decide
end JX0
