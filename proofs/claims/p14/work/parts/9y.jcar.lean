/-! ===== THE LIKENESS: the weak invariant behind the reference's functions, on cells ===== -/
section JRC
variable {n : Nat} {M M0 M1 M2 : z_Mem} {r r1 r2 : q_R} {TL CL : List Nat} {t s q z : Nat} {F F1 : Nat → Int32} {A A1 : Nat → Nat → Int32}
theorem rI_eq (hF : ∀ g, 1536 ≤ g → F1 g = F g) (hA : ∀ x, 41 ≤ x → x < 107 → A1 x = A x) (I : rf_I t s q z F A) : rf_I t s q z F1 A1 := by
  obtain ⟨c1, c2, c3, c4, c5, c6, c7, c8, c9, c10, c11, c12⟩ := I
  have kF : ∀ L : List Nat, L.all (fun g => decide (1536 ≤ g)) = true → ∀ g, g ∈ L → F1 g = F g := fun L h g hg => hF g (of_decide_eq_true (List.all_eq_true.mp h g hg))
  have kA : ∀ L : List Nat, L.all (fun g => decide (41 ≤ g ∧ g < 107)) = true → ∀ g, g ∈ L → A1 g = A g := fun L h g hg => by
    have := of_decide_eq_true (List.all_eq_true.mp h g hg)
    exact hA g this.1 this.2
  exact ⟨c1.congr (kA _ (by decide)), c2.congr (kF _ (by decide)), c3.congr (kA _ (by decide)), c4.congr (kA _ (by decide)) (kF _ (by decide)), c5.congr (kA _ (by decide)), c6.congr (kA _ (by decide)) (kF _ (by decide)), c7.congr (kA _ (by decide)), c8.congr (kA _ (by decide)) (kF _ (by decide)), c9.congr (kF _ (by decide)), c10.congr (kA _ (by decide)), c11.congr (kA _ (by decide)) (kF _ (by decide)), c12.congr (kA _ (by decide)) (kF _ (by decide))⟩
/-- a memory with these cells -/
def q_mk (n : Nat) (M : z_Mem) (r : q_R) : z_Mem := (M.1, M.2.1, fun g a => if a = n + 40 ∧ 1536 ≤ g then r.1 g else M.2.2.1 g a, M.2.2.2.1, fun x => if n + 41 ≤ x ∧ x < n + 107 then r.2 (x - n) else M.2.2.2.2.1 x, M.2.2.2.2.2)
theorem q_mkS (S : y_S n M) : y_S n (q_mk n M r) := S
theorem q_mkR : q_rep n (q_mk n M r) r := ⟨fun g hg => if_pos ⟨rfl, hg⟩, fun x j h0 h1 => by
  show (if n + 41 ≤ n + x ∧ n + x < n + 107 then r.2 (n + x - n) else M.2.2.2.2.1 (n + x)) j = _
  rw [if_pos ⟨by omega, by omega⟩, Nat.add_sub_cancel_left]⟩
theorem rI_J (S : y_S n M) (I : rf_I t s q z r.1 r.2) : rf_J n t s q z (q_mk n M r) (q_mk n M r) := ⟨q_mkS S, rI_eq (fun g h => q_mkR.1 g h) (fun x h0 h1 => funext fun j => q_mkR.2 x j h0 h1) I, rf_Krf⟩
theorem rI_of (R : q_rep n M1 r1) (J : rf_J n t s q z M0 M1) : rf_I t s q z r1.1 r1.2 := rI_eq (fun g h => (R.1 g h).symm) (fun x h0 h1 => funext fun j => (R.2 x j h0 h1).symm) J.2.1
/-- what the weak contracts leave alone -/
def q_kf (r r1 : q_R) : Prop := (∀ x, x ∈ [45, 86, 66, 56] → r1.2 x = r.2 x) ∧ (∀ g, g ∈ [1563, 1536, 1554, 1630] → r1.1 g = r.1 g)
theorem q_kft (h : q_kf r r1) (k : q_kf r1 r2) : q_kf r r2 := ⟨fun x hx => (k.1 x hx).trans (h.1 x hx), fun x hx => (k.2 x hx).trans (h.2 x hx)⟩
theorem rI_k (R : q_rep n M1 r1) (J : rf_J n t s q z (q_mk n M r) M1) : q_kf r r1 := by
  have K := J.2.2.2.2.2.2.2.2.2.2.2
  refine ⟨fun x hx => funext fun j => ?_, fun g hg => ?_⟩
  · have hb : 41 ≤ x ∧ x < 107 := by revert hx; revert x; decide
    rw [← R.2 x j hb.1 hb.2, K.1 x hx]
    exact q_mkR.2 x j hb.1 hb.2
  · have hb : 1536 ≤ g := by revert hg; revert g; decide
    rw [← R.1 g hb, K.2 g hg]
    exact q_mkR.1 g hb
/-- rf_I, and what stays -/
def rI_2 (t s q z : Nat) (r r1 : q_R) : Prop := rf_I t s q z r1.1 r1.2 ∧ q_kf r r1
theorem rI_o (R : q_rep n M1 r1) (J : rf_J n t s q z (q_mk n M r) M1) (e : r2 = r1) : rI_2 t s q z r r2 := by rw [e]; exact ⟨rI_of R J, rI_k R J⟩
theorem rI_hearsOf (S : y_S n M) (I : rf_I t s q z r.1 r.2) {x : Int32} (h : 0 ≤ x.toInt ∧ x.toInt ≤ 399) : rI_2 t s q z r (qF_hearsOf x r) := qX_hearsOf (Q := fun M1 => rf_J n t s q z (q_mk n M r) M1) (q_mkS S) q_mkR (t_X12_hearsOf (rI_J S I) h (fun _ J => J)) (fun _ _ J1 _ R1 e => rI_o R1 J1 e)
theorem rI_measures (S : y_S n M) (I : rf_I t s q z r.1 r.2) {x v : Int32} (h : 0 ≤ x.toInt ∧ x.toInt ≤ 1) (h2 : 0 ≤ v.toInt ∧ v.toInt ≤ 2000) : rI_2 t s q z r (qF_measures x v r) := qX_measures (Q := fun M1 => rf_J n t s q z (q_mk n M r) M1) (q_mkS S) q_mkR (t_X12_measures (rI_J S I) h h2 (fun _ J => J)) (fun _ _ J1 _ R1 e => rI_o R1 J1 e)
theorem rI_harms (S : y_S n M) (I : rf_I t s q z r.1 r.2) {x y v : Int32} (h : 0 ≤ x.toInt ∧ x.toInt ≤ 1) : rI_2 t s q z r (qF_harms x y v r) := qX_harms (Q := fun M1 => rf_J n t s q z (q_mk n M r) M1) (q_mkS S) q_mkR (t_X12_harms (rI_J S I) h (fun _ J => J)) (fun _ _ J1 _ R1 e => rI_o R1 J1 e)
theorem rI_lands (S : y_S n M) (I : rf_I t s q z r.1 r.2) {x v : Int32} (h : 0 ≤ x.toInt ∧ x.toInt ≤ 399) (hv : ¬ v = 0) : rI_2 t s q z r (qF_lands x v r) := qX_lands (Q := fun M1 => rf_J n t s q z (q_mk n M r) M1) (q_mkS S) q_mkR (t_X12_lands (rI_J S I) h hv (fun _ J => J)) (fun _ _ J1 _ R1 e => rI_o R1 J1 e)
theorem rI_loses (S : y_S n M) (I : rf_I t s q z r.1 r.2) {x : Int32} (h : 0 ≤ x.toInt ∧ x.toInt ≤ 399) : rI_2 t s q z r (qF_loses x r) := qX_loses (Q := fun M1 => rf_J n t s q z (q_mk n M r) M1) (q_mkS S) q_mkR (t_X12_loses (rI_J S I) h (fun _ J => J)) (fun _ _ J1 _ R1 e => rI_o R1 J1 e)
theorem rI_losesByOrder (S : y_S n M) (I : rf_I t s q z r.1 r.2) {x : Int32} (h : 0 ≤ x.toInt ∧ x.toInt ≤ 1) : rI_2 t s q z r (qF_losesByOrder x r) := qX_losesByOrder (Q := fun M1 => rf_J n t s q z (q_mk n M r) M1) (q_mkS S) q_mkR (t_X12_losesByOrder (rI_J S I) h (fun _ J => J)) (fun _ _ J1 _ R1 e => rI_o R1 J1 e)
theorem rI_losesByTime (S : y_S n M) (I : rf_I t s q z r.1 r.2) {x : Int32} (h : 0 ≤ x.toInt ∧ x.toInt ≤ 1) : rI_2 t s q z r (qF_losesByTime x r) := qX_losesByTime (Q := fun M1 => rf_J n t s q z (q_mk n M r) M1) (q_mkS S) q_mkR (t_X12_losesByTime (rI_J S I) h (fun _ J => J)) (fun _ _ J1 _ R1 e => rI_o R1 J1 e)
theorem rI_hearsAck (S : y_S n M) (I : rf_I t s q z r.1 r.2) {x : Int32} (h : 0 ≤ x.toInt ∧ x.toInt ≤ 3599) : rI_2 t s q z r (qF_hearsAck x r) := qX_hearsAck (Q := fun M1 => rf_J n t s q z (q_mk n M r) M1) (q_mkS S) q_mkR (t_X12_hearsAck (rI_J S I) h (fun _ J => J)) (fun _ _ J1 _ R1 e => rI_o R1 J1 e)
theorem rI_hearsAccept (S : y_S n M) (I : rf_I t s q z r.1 r.2) {x : Int32} : rI_2 t s q z r (qF_hearsAccept x r) := qX_hearsAccept (Q := fun M1 => rf_J n t s q z (q_mk n M r) M1) (q_mkS S) q_mkR (t_X12_hearsAccept (rI_J S I) (fun _ J => J)) (fun _ _ J1 _ R1 e => rI_o R1 J1 e)
theorem rI_arrivesAtClient (S : y_S n M) (I : rf_I t s q z r.1 r.2) {x : Int32} (h : 0 ≤ x.toInt ∧ x.toInt ≤ 3599) : rI_2 t s q z r (qF_arrivesAtClient x r) := qX_arrivesAtClient (Q := fun M1 => rf_J n t s q z (q_mk n M r) M1) (q_mkS S) q_mkR (t_X12_arrivesAtClient (rI_J S I) h (fun _ J => J)) (fun _ _ J1 _ R1 e => rI_o R1 J1 e)
theorem rI_arrivesAtServer (S : y_S n M) (I : rf_I t (s + 1) (q + 1) z r.1 r.2) {x : Int32} (h : 0 ≤ x.toInt ∧ x.toInt ≤ 1299) : rI_2 t s q z r (qF_arrivesAtServer x r) := qX_arrivesAtServer (Q := fun M1 => rf_J n t s q z (q_mk n M r) M1) (q_mkS S) q_mkR (t_X12_arrivesAtServer (rI_J S I) h (fun _ J => J)) (fun _ _ J1 _ R1 e => rI_o R1 J1 e)
theorem rI_acknowledges (S : y_S n M) (I : rf_I t (s + 1) (q + 1) z r.1 r.2) (h : 0 ≤ (r.1 1575).toInt) : rI_2 t s q z r (qF_acknowledges r) := qX_acknowledges (Q := fun M1 => rf_J n t s q z (q_mk n M r) M1) (q_mkS S) q_mkR (t_X12_acknowledges (rI_J S I) (by rw [q_mkR.1 1575 (by decide)]; exact h) (fun _ _ J => J)) (fun _ _ J1 _ R1 e => rI_o R1 J1 e)
theorem rI_puts (S : y_S n M) (I : rf_I (t + 1) (s + 1) (q + 1) z r.1 r.2) {x y v : Int32} (h : 0 ≤ x.toInt ∧ x.toInt ≤ 1) (h3 : 0 ≤ v.toInt ∧ v.toInt ≤ 399) (h1 : y = 1 → v.toInt ≤ 21) : rI_2 t s q z r (qF_puts x y v r) := qX_puts (Q := fun M1 => rf_J n t s q z (q_mk n M r) M1) (q_mkS S) q_mkR (t_X12_puts (rI_J S I) h h3 h1 (fun _ _ J => J)) (fun _ _ J1 _ R1 e => rI_o R1 J1 e)
theorem rI_saysHello (S : y_S n M) (I : rf_I (t + 1) (s + 1) (q + 1) z r.1 r.2) : rI_2 t s q z r (qF_saysHello r) := qX_saysHello (Q := fun M1 => rf_J n t s q z (q_mk n M r) M1) (q_mkS S) q_mkR (t_X12_saysHello (rI_J S I) (fun _ J => J)) (fun _ _ J1 _ R1 e => rI_o R1 J1 e)
theorem rI_saysHellot (S : y_S n M) (I : rf_I t s q z r.1 r.2) (h : (r.1 1580).toInt + 10 ≤ (r.1 1536).toInt) : rI_2 t s q z r (qF_saysHello r) := qX_saysHello (Q := fun M1 => rf_J n t s q z (q_mk n M r) M1) (q_mkS S) q_mkR (t_X12_saysHellot (rI_J S I) (by rw [q_mkR.1 1580 (by decide), q_mkR.1 1536 (by decide)]; exact h) (fun _ J => J)) (fun _ _ J1 _ R1 e => rI_o R1 J1 e)
theorem rI_sends (S : y_S n M) (I : rf_I t s q z r.1 r.2) {x1 x2 x3 x4 x5 : Int32} (h1 : 0 ≤ x1.toInt ∧ x1.toInt ≤ 1) (h2 : 0 ≤ x2.toInt ∧ x2.toInt ≤ 3) (h3 : 0 ≤ x3.toInt ∧ x3.toInt ≤ 200) (h4 : 0 ≤ x4.toInt ∧ x4.toInt ≤ 200) (h5 : x3.toInt + x4.toInt ≤ 200) (h6 : (r.1 1606).toInt < 400) : rI_2 t s q z r (qF_sends x1 x2 x3 x4 x5 r) := qX_sends (Q := fun M1 => rf_J n t s q z (q_mk n M r) M1) (q_mkS S) q_mkR (t_X12_sends (rI_J S I) h1 h2 h3 h4 h5 (by rw [q_mkR.1 1606 (by decide)]; exact h6) (fun _ _ J => J)) (fun _ _ J1 _ R1 e => rI_o R1 J1 e)
theorem rI_probesOn (S : y_S n M) (I : rf_I t s q z r.1 r.2) {x : Int32} (h : 0 ≤ x.toInt ∧ x.toInt ≤ 1) : rI_2 t s q z r (qF_probesOn x r) := qX_probesOn (Q := fun M1 => rf_J n t s q z (q_mk n M r) M1) (q_mkS S) q_mkR (t_X12_probesOn (rI_J S I) h (fun _ J => J)) (fun _ _ J1 _ R1 e => rI_o R1 J1 e)
theorem rI_sendsAll (S : y_S n M) (I : rf_I t s q z r.1 r.2) : rI_2 t s q z r (qF_sendsAll r) := qX_sendsAll (Q := fun M1 => rf_J n t s q z (q_mk n M r) M1) (q_mkS S) q_mkR (t_X12_sendsAll (rI_J S I) (fun _ J => J)) (fun _ _ J1 _ R1 e => rI_o R1 J1 e)
end JRC
