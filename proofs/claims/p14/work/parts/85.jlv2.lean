/-! ===== THE LIKENESS: a queue lets a message go ===== -/
section JLW
variable {n : Nat} {M M0 M1 M2 : z_Mem} {r r1 : q_R} {TL CL : List Nat} {t s q z : Nat} {d : Int}
/-- what the numbers of the network keep to -/
def jPA (r : q_R) : Prop := (∀ p, p < 2 → 1 ≤ (r.2 41 p).toInt ∧ (r.2 41 p).toInt ≤ 30) ∧ (∀ p, p < 2 → 1 ≤ (r.2 42 p).toInt ∧ (r.2 42 p).toInt ≤ 9) ∧ (∀ p, p < 2 → 0 ≤ (r.2 49 p).toInt ∧ (r.2 49 p).toInt ≤ 50) ∧ (∀ i, 0 ≤ (r.2 51 i).toInt ∧ (r.2 51 i).toInt ≤ 30) ∧ (0 ≤ (r.1 1536).toInt ∧ (r.1 1536).toInt ≤ 2000)
theorem pS_left {th v : Int32} (h0 : 0 ≤ (r.1 1554).toInt) (h1 : (r.1 1554).toInt < 1300) (hd : d ≤ v.toInt) : pS d (uf (ua (ua r 55 (jN (r.1 1554)) th) 56 (jN (r.1 1554)) v) 1554 (r.1 1554 + 1)) = pS d r ++ [jN (r.1 1554)] := by
  unfold pS
  rw [uf_e, jN_add1 h0 (by omega), List.range_succ, List.filter_append]
  congr 1
  · refine List.filter_congr (fun k hk => ?_)
    have := List.mem_range.mp hk
    rw [uf2, ua_i (by omega), ua_n (by decide)]
  · rw [List.filter_cons, if_pos]
    · rfl
    · simp only [uf2, ua_e, decide_eq_true_eq]; exact hd
theorem j_rmF (J : JJ n M r TL CL) {p : Nat} (hp : p < 2) : cF_X3_removeFirst (n + (2 + 2 * p)) M = (z_ar M (n + (3 + 2 * p)) (jN (z_fi M 394 (n + (2 + 2 * p)))), z_sfi (z_sfi (z_sar M (n + (3 + 2 * p)) (jN (z_fi M 394 (n + (2 + 2 * p)))) none) 394 (n + (2 + 2 * p)) (z_fi M 394 (n + (2 + 2 * p)) + 1 - (z_fi M 394 (n + (2 + 2 * p)) + 1) / 30 * 30)) 395 (n + (2 + 2 * p)) (r.2 51 p - 1)) := by
  rw [cE_X3_removeFirst, j_lfr J.1 hp]
  refine (q_ste (b := n + (3 + 2 * p)) rfl).trans ?_
  refine (q_ste (b := n + (3 + 2 * p)) rfl).trans ?_
  refine (q_ste rfl).trans ?_
  refine (q_ste rfl).trans ?_
  refine (q_ste rfl).trans ?_
  have e : z_fi M 395 (n + (2 + 2 * p)) = r.2 51 p := (j_lane J hp).2.2.2.2.2.2.2.2.1
  show (_, z_sfi _ 395 (n + (2 + 2 * p)) (z_fi M 395 (n + (2 + 2 * p)) - 1)) = _
  rw [e]
  rfl
theorem j_apF (S : y_S n M) {m l : Nat} {v : Int32} (hl : z_fi M 1281 (n + 6) = nI l) (h : l < 1024) : cF_X10_append (n + 6) (some m) v M = z_sfi (z_sar (z_sfi M 514 m v) (n + 7) (jN (z_fi M 1281 (n + 6))) (some m)) 1281 (n + 6) (z_fi M 1281 (n + 6) + 1) := by
  have hC := j_cfr S
  rw [cE_X10_append, hC.2.2.2.2.1]
  refine (q_ste (b := n + 7) rfl).trans ?_
  rw [if_neg (fun h2 => by rw [hC.2.2.2.2.2, hl] at h2; exact absurd ((jI_le (by decide) (by omega)).mp h2) (by omega))]
  refine (q_ste (b := m) rfl).trans ?_
  refine (q_ste rfl).trans ?_
  refine (q_ste (b := n + 7) ?_).trans ?_
  · show n + 7 = Option.getD (z_fr M 1280 (n + 6)) 0
    rw [hC.2.2.2.2.1]; rfl
  refine (q_ste rfl).trans ?_
  exact (q_ste rfl).trans rfl
theorem j_hd {x2 : Int32} (J : JJ n M r (pS d r) CL) (A : jPA r) {p : Nat} (hp : p < 2) (hQ : 0 < (r.2 51 p).toInt) (hr : ¬ r.2 42 p ≤ x2) (hd : d ≤ (r.1 1536).toInt + 1) (h0 : 0 ≤ (r.1 1554).toInt) (h1 : (r.1 1554).toInt < 1024) : ∃ M', cB_X5_letLeaveLane_2 (n + 1) (some (n + (2 + 2 * p))) x2 M = .inl (some (n + (2 + 2 * p)), x2 + 1, M') ∧ JJ n M' (q_hd p r) (pS d (q_hd p r)) CL := by
  obtain ⟨A1, A2, A3, A4, A5⟩ := A
  have L := j_lane J hp
  have eA := jN_toInt h0
  have hlen := pS_len (r := r) (d := d)
  have hB := cE_X5_letLeaveLane_2 (n + 1) (some (n + (2 + 2 * p))) x2 M
  replace hB := hB.trans (q_ste (b := n + (2 + 2 * p)) rfl)
  rw [L.2.1, if_neg hr, L.2.2.2.2.2.2.2.2.1, if_neg (fun h => absurd (i_le h rfl (show (0 : Int32).toInt = 0 from rfl)) (by omega))] at hB
  replace hB := hB.trans (q_ste2 (j_rmF J hp))
  have J13 := j_rem J hp hQ (fun i => (A4 i).2) rfl rfl
  obtain ⟨b1, b2, b3, b4⟩ := J.2.2.2.2.2.1 p hp
  have hnx := j_next b1 b2
  have eh := jN_toInt b1
  have eQ := jN_toInt (A4 p).1
  obtain ⟨m, g1, g2⟩ := b3 0 (by omega)
  have e0 : (jN (z_fi M 394 (n + (2 + 2 * p))) + 0) % 30 = jN (z_fi M 394 (n + (2 + 2 * p))) := by omega
  rw [e0] at g1
  rw [show 30 * p + 0 = 30 * p from rfl] at g2
  replace hB := hB.trans (q_ops g1)
  rw [g1] at hB
  have hq : ∀ p1 k q1, p1 < 2 → k < jN ((q_sh p r).2 51 p1) → n + 108 ≤ m → z_fi M 513 m = nI p → z_ar (z_sfi (z_sfi (z_sar M (n + (3 + 2 * p)) (jN (z_fi M 394 (n + (2 + 2 * p)))) none) 394 (n + (2 + 2 * p)) (z_fi M 394 (n + (2 + 2 * p)) + 1 - (z_fi M 394 (n + (2 + 2 * p)) + 1) / 30 * 30)) 395 (n + (2 + 2 * p)) (r.2 51 p - 1)) (n + (3 + 2 * p1)) ((jN (z_fi (z_sfi (z_sfi (z_sar M (n + (3 + 2 * p)) (jN (z_fi M 394 (n + (2 + 2 * p)))) none) 394 (n + (2 + 2 * p)) (z_fi M 394 (n + (2 + 2 * p)) + 1 - (z_fi M 394 (n + (2 + 2 * p)) + 1) / 30 * 30)) 395 (n + (2 + 2 * p)) (r.2 51 p - 1)) 394 (n + (2 + 2 * p1))) + k) % 30) = some q1 → q1 ≠ m := by
    intro p1 k q1 hp1 hk hm hpm he hqm
    subst hqm
    rw [zq_fi_sfi, if_neg (by decide), zq_fi_sfi, if_pos rfl] at he
    rw [zq_ar_sfi, zq_ar_sfi, zq_ar_sar] at he
    by_cases hpp : p1 = p
    · subst hpp
      have hk2 : k + 1 < jN (r.2 51 p1) := by
        have : (q_sh p1 r).2 51 p1 = r.2 51 p1 - 1 := by unfold q_sh; rw [ua_e]
        rw [this] at hk
        have := jN_sub1 hQ
        omega
      rw [if_pos rfl, if_pos rfl, jN_of hnx] at he
      have h30 := (A4 p1).2
      rw [if_neg (by omega), show ((jN (z_fi M 394 (n + (2 + 2 * p1))) + 1) % 30 + k) % 30 = (jN (z_fi M 394 (n + (2 + 2 * p1))) + (k + 1)) % 30 from by omega] at he
      have := b4 0 (k + 1) q1 q1 (by omega) hk2 (by rw [e0]; exact g1) he hm hm
      omega
    · rw [if_neg (by omega), if_neg (by omega)] at he
      have hk2 : k < jN (r.2 51 p1) := by
        have : (q_sh p r).2 51 p1 = r.2 51 p1 := by unfold q_sh; rw [ua_i hpp, uA_n (by decide)]
        rw [this] at hk; exact hk
      obtain ⟨m', c1, c2⟩ := (J.2.2.2.2.2.1 p1 hp1).2.2.1 k hk2
      have c1 : some q1 = some m' := (Eq.symm he).trans c1
      cases c1
      rcases c2 with ⟨-, c2⟩ | ⟨th', -, -, -, c3, c4, -⟩
      · omega
      · have := c4.2.2.1
        rw [hpm, c3] at this
        have := jI_inj (by omega) (by omega) this
        omega
  have J13m : ∀ g, g ≠ 394 → g ≠ 395 → ∀ a, z_fi (z_sfi (z_sfi (z_sar M (n + (3 + 2 * p)) (jN (z_fi M 394 (n + (2 + 2 * p)))) none) 394 (n + (2 + 2 * p)) (z_fi M 394 (n + (2 + 2 * p)) + 1 - (z_fi M 394 (n + (2 + 2 * p)) + 1) / 30 * 30)) 395 (n + (2 + 2 * p)) (r.2 51 p - 1)) g a = z_fi M g a := fun g h h2 a => by
    rw [zq_fi_sfi, if_neg h2, zq_fi_sfi, if_neg h]; rfl
  have z13 : z_sz (z_sfi (z_sfi (z_sar M (n + (3 + 2 * p)) (jN (z_fi M 394 (n + (2 + 2 * p)))) none) 394 (n + (2 + 2 * p)) (z_fi M 394 (n + (2 + 2 * p)) + 1 - (z_fi M 394 (n + (2 + 2 * p)) + 1) / 30 * 30)) 395 (n + (2 + 2 * p)) (r.2 51 p - 1)) = z_sz M := rfl
  have H13 : hF n M (z_sfi (z_sfi (z_sar M (n + (3 + 2 * p)) (jN (z_fi M 394 (n + (2 + 2 * p)))) none) 394 (n + (2 + 2 * p)) (z_fi M 394 (n + (2 + 2 * p)) + 1 - (z_fi M 394 (n + (2 + 2 * p)) + 1) / 30 * 30)) 395 (n + (2 + 2 * p)) (r.2 51 p - 1)) := hF_tr (hF_tr hF_sar (hF_sfi (by omega))) (hF_sfi (by omega))
  have e38 : z_ar (z_sfi (z_sfi (z_sar M (n + (3 + 2 * p)) (jN (z_fi M 394 (n + (2 + 2 * p)))) none) 394 (n + (2 + 2 * p)) (z_fi M 394 (n + (2 + 2 * p)) + 1 - (z_fi M 394 (n + (2 + 2 * p)) + 1) / 30 * 30)) 395 (n + (2 + 2 * p)) (r.2 51 p - 1)) (n + 38) = z_ar M (n + 38) := funext fun j => by
    rw [zq_ar_sfi, zq_ar_sfi, zq_ar_sar, if_neg (by omega)]
  generalize (z_sfi (z_sfi (z_sar M (n + (3 + 2 * p)) (jN (z_fi M 394 (n + (2 + 2 * p)))) none) 394 (n + (2 + 2 * p)) (z_fi M 394 (n + (2 + 2 * p)) + 1 - (z_fi M 394 (n + (2 + 2 * p)) + 1) / 30 * 30)) 395 (n + (2 + 2 * p)) (r.2 51 p - 1)) = M13 at *
  have s1 : ∀ g, (q_sh p r).1 g = r.1 g := fun _ => rfl
  have s2 : ∀ x, x ≠ 50 → x ≠ 51 → (q_sh p r).2 x = r.2 x := fun x a b => by unfold q_sh; rw [ua_n b, uA_n a]
  have pS13 : pS d (q_sh p r) = pS d r := pS_congr rfl (fun k _ => by rw [s2 56 (by decide) (by decide)])
  rcases g2 with ⟨c1, c2⟩ | ⟨th, c1, c2, c3, c4, c5, c6⟩
  · subst c2
    have h9 : z_fi M13 512 (n + 10) = 9 := by rw [J13m 512 (by decide) (by decide)]; exact J.2.2.2.1.2.2.2.2.2.2.2.2.2
    rw [if_pos h9, cE_X5_letLeaveLane_57] at hB
    refine ⟨M13, hB.trans (q_ste (b := x2 + 1) rfl), ?_⟩
    unfold q_hd
    rw [if_pos c1, pS13]
    exact J13
  · have hn1 : ¬ r.2 50 (30 * p) = -1 := fun h => by
      rw [h] at c1
      have := congrArg Int32.toInt c1
      rw [jI_t (by omega)] at this
      exact absurd this (by rw [show (-1 : Int32).toInt = -1 from rfl]; omega)
    have h9 : ¬ z_fi M13 512 m = 9 := fun h => by
      rw [J13m 512 (by decide) (by decide)] at h
      rcases c5.2.2.2 with c | c | c | c <;> (have q2 := c.2.1; rw [h] at q2; exact absurd q2 (by decide))
    have hpm : z_fi M 513 m = nI p := c5.2.2.1.trans c4
    rw [if_neg h9] at hB
    have L13 := j_lane J13 hp
    have m13 : j_mS n M13 (q_sh p r) m th := c5.congr H13.m e38 rfl (by rw [s2 52 (by decide) (by decide)]) (by rw [s2 53 (by decide) (by decide)]) (by rw [s2 54 (by decide) (by decide)])
    have m4 : z_fi M13 514 m = 0 := by rw [J13m 514 (by decide) (by decide)]; exact c6
    have e645 : z_fi M13 645 (n + 1) = r.1 1536 := (js_645_1 J13).trans (s1 1536)
    have e384 : z_fi M13 384 (n + (2 + 2 * p)) = r.2 41 p := by rw [L13.1, s2 41 (by decide) (by decide)]
    have e391 : z_fi M13 391 (n + (2 + 2 * p)) = r.2 48 p := by rw [L13.2.2.2.2.2.2.1, s2 48 (by decide) (by decide)]
    have e392 : z_fi M13 392 (n + (2 + 2 * p)) = r.2 49 p := by rw [L13.2.2.2.2.2.2.2.1, s2 49 (by decide) (by decide)]
    have a1 := A1 p hp
    have a3 := A3 p hp
    have t1 : (r.1 1536 + r.2 41 p).toInt = (r.1 1536).toInt + (r.2 41 p).toInt := i_addE rfl rfl (by omega) (by omega)
    have t2 : (r.1 1536 + r.2 41 p + 0).toInt = (r.1 1536).toInt + (r.2 41 p).toInt := by rw [i_addE t1 (show (0 : Int32).toInt = 0 from rfl) (by omega) (by omega)]; omega
    have t3 : (r.1 1536 + r.2 41 p + r.2 49 p).toInt = (r.1 1536).toInt + (r.2 41 p).toInt + (r.2 49 p).toInt := i_addE t1 rfl (by omega) (by omega)
    have hTl : ∀ (N : z_Mem) (r' : q_R), JJ n N r' (pS d r) CL → z_fi N 1281 (n + 6) = nI (pS d r).length := fun N r' K => K.2.2.2.2.2.2.1.1
    rw [cE_X3_takeLateness, e391, e645, e384] at hB
    unfold q_hd q_tk
    rw [if_neg hn1, s2 48 (by decide) (by decide), s2 41 (by decide) (by decide), s2 49 (by decide) (by decide), s1, s1, c1]
    by_cases hl : r.2 48 p ≤ 0
    · have hl2 : ¬ 0 < r.2 48 p := fun h => by rw [Int32.lt_iff_toInt_lt] at h; rw [Int32.le_iff_toInt_le] at hl; omega
      rw [if_neg hl2] at hB
      replace hB := hB.trans (q_ste2 (a := 0) (b := M13) rfl)
      rw [(j_cfr J13.1).2.2.2.1] at hB
      replace hB := hB.trans (q_ste (b := n + 6) rfl)
      rw [j_apF J13.1 (hTl M13 _ J13) (by omega)] at hB
      replace hB := hB.trans (q_ste rfl)
      rw [cE_X5_letLeaveLane_57] at hB
      refine ⟨_, hB.trans (q_ste (b := x2 + 1) rfl), ?_⟩
      rw [if_pos hl]
      have K := j_appT J13 (v := r.1 1536 + r.2 41 p + 0) m13 c2 c3 (fun p1 k q1 hp1 hk e => hq p1 k q1 hp1 hk c5.1 hpm e) m4 (by omega) (by omega) h0 (by rw [s1]; omega) rfl
      rw [s1] at K
      have e := pS_left (r := q_sh p r) (d := d) (th := nI th) (v := r.1 1536 + r.2 41 p + 0) h0 (by rw [s1]; omega) (by omega)
      rw [s1, pS13] at e
      rw [e]
      exact K
    · have hl2 : 0 < r.2 48 p := by rw [Int32.lt_iff_toInt_lt]; rw [Int32.le_iff_toInt_le] at hl; omega
      rw [if_pos hl2] at hB
      have J14 := j_lsa J13 hp (g := 391) (x := 48) (v := r.2 48 p - 1) (by decide) (by decide) (by decide)
      have e392' : z_fi (z_sfi M13 391 (n + (2 + 2 * p)) (r.2 48 p - 1)) 392 (n + (2 + 2 * p)) = r.2 49 p := by rw [zq_fi_sfi, if_neg (by decide)]; exact e392
      replace hB := hB.trans (q_ste2 (a := r.2 49 p) (b := z_sfi M13 391 (n + (2 + 2 * p)) (r.2 48 p - 1)) ((q_ste rfl).trans (by rw [e392'])))
      rw [(j_cfr J13.1).2.2.2.1] at hB
      replace hB := hB.trans (q_ste (b := n + 6) rfl)
      rw [j_apF J14.1 (hTl _ _ J14) (by omega)] at hB
      replace hB := hB.trans (q_ste rfl)
      rw [cE_X5_letLeaveLane_57] at hB
      refine ⟨_, hB.trans (q_ste (b := x2 + 1) rfl), ?_⟩
      rw [if_neg hl]
      have K := j_appT J14 (v := r.1 1536 + r.2 41 p + r.2 49 p) (m13.congr (hF_sfi (by omega)).m rfl rfl (by rw [ua_n (by decide)]) (by rw [ua_n (by decide)]) (by rw [ua_n (by decide)])) c2 c3 (fun p1 k q1 hp1 hk e => hq p1 k q1 hp1 (by rw [ua_n (by decide)] at hk; exact hk) c5.1 hpm (by rw [zq_fi_sfi, if_neg (by decide)] at e; exact e)) (by rw [zq_fi_sfi, if_neg (by decide)]; exact m4) (by omega) (by omega) h0 (by rw [ua1, s1]; omega) rfl
      rw [ua1, s1] at K
      have e := pS_left (r := ua (q_sh p r) 48 p (r.2 48 p - 1)) (d := d) (th := nI th) (v := r.1 1536 + r.2 41 p + r.2 49 p) h0 (by rw [ua1, s1]; omega) (by omega)
      rw [ua1, s1, show pS d (ua (q_sh p r) 48 p (r.2 48 p - 1)) = pS d (q_sh p r) from pS_congr rfl (fun k _ => by rw [ua_n (by decide)]), pS13] at e
      rw [e]
      exact K
end JLW
