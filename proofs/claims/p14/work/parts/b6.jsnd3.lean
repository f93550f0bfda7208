/-! ===== THE LIKENESS: a packet is sent, the class's side ===== -/
section JSG
variable {n : Nat} {M M0 M1 M2 M3 : z_Mem} {r r1 r2 : q_R} {TL CL : List Nat} {t s q z : Nat}
/-- writes to one object -/
def z_wl (pk : Nat) : List (Nat × Int32) → z_Mem → z_Mem
  | [], M => M
  | x :: L, M => z_wl pk L (z_sfi M x.1 pk x.2)
def z_lk (g : Nat) : List (Nat × Int32) → Int32 → Int32
  | [], d => d
  | x :: L, d => z_lk g L (if g = x.1 then x.2 else d)
theorem z_wl_fi {pk g : Nat} : ∀ (L : List (Nat × Int32)) (M : z_Mem), z_fi (z_wl pk L M) g pk = z_lk g L (z_fi M g pk) := by
  intro L
  induction L with
  | nil => intro M; rfl
  | cons x L ih =>
    intro M
    show z_fi (z_wl pk L (z_sfi M x.1 pk x.2)) g pk = z_lk g L (if g = x.1 then x.2 else z_fi M g pk)
    rw [ih, zq_fi_sfi, if_pos rfl]
theorem z_wl_sz {pk : Nat} : ∀ (L : List (Nat × Int32)) (M : z_Mem), z_sz (z_wl pk L M) = z_sz M := by
  intro L
  induction L with
  | nil => intro M; rfl
  | cons x L ih => intro M; exact ih _
theorem z_wl_jE {pk : Nat} (S : y_S n M0) (h0 : z_sz M0 ≤ pk) : ∀ (L : List (Nat × Int32)) (M : z_Mem), jE n M0 M → jE n M0 (z_wl pk L M) := by
  intro L
  induction L with
  | nil => intro M E; exact E
  | cons x L ih => intro M E; exact ih _ (jE_sfi E S h0 rfl)
theorem z_wl_s {pk g : Nat} {v : Int32} : ∀ (L : List (Nat × Int32)) (M : z_Mem), z_sfi (z_wl pk L M) g pk v = z_wl pk (L ++ [(g, v)]) M := by
  intro L
  induction L with
  | nil => intro M; rfl
  | cons x L ih => intro M; exact ih _
theorem X6F {a : Nat} {p1 p2 p3 p4 p5 p6 : Int32} : cF_X6_init a p1 p2 p3 p4 p5 p6 M = z_wl a [(778, 0), (768, p1), (769, p2), (770, p3), (771, p4), (772, p5), (773, p6)] M := by rw [cE_X6_init]; rfl
theorem c_offAr6 {a y m : Nat} (hym : y + m ≤ 200) : ∀ k' k (M : z_Mem), k + k' = m → ∀ b i, z_ar (cF_X9_takeOff_6 a (nI y) (nI m) (nI (y + k)) M) b i = z_ar M b i := by
  intro k'
  induction k' with
  | zero =>
    intro k M hk b i
    have hB := cE_X9_takeOff_6 a (nI y) (nI m) (nI (y + k)) M
    rw [jI_add (by omega), if_pos ((jI_le (by omega) (by omega)).mpr (by omega))] at hB
    replace hB := hB.trans (q_ste rfl)
    rw [cUr_X9_takeOff_6 hB]
    rfl
  | succ k' ih =>
    intro k M hk b i
    have hB := cE_X9_takeOff_6 a (nI y) (nI m) (nI (y + k)) M
    have g1 : ¬ nI (y + m) ≤ nI (y + k) := fun h => by rw [jI_le (by omega) (by omega)] at h; omega
    have g2 : ¬ (200 : Int32) ≤ nI (y + k) := fun h => by rw [show (200 : Int32) = nI 200 from rfl, jI_le (by omega) (by omega)] at h; omega
    rw [jI_add (by omega), if_neg g1, if_neg g2] at hB
    have h38 : ∀ M2 : z_Mem, ∃ M3, (∀ b i, z_ar M3 b i = z_ar M2 b i) ∧ cF_X9_takeOff_38 a (nI y) (nI m) (nI (y + k)) M2 = .inl (nI y, nI m, nI (y + (k + 1)), M3) := fun M2 => by
      have h := cE_X9_takeOff_38 a (nI y) (nI m) (nI (y + k)) M2
      generalize Option.getD (z_fr M2 1160 a) 0 = u at h
      replace h := h.trans (q_ste (b := u) rfl)
      replace h := h.trans (q_ste rfl)
      have e1 : nI (y + (k + 1)) = nI (y + k) + 1 := by rw [jI_1, jI_add (by omega)]; rfl
      exact ⟨z_sai M2 u (nI (y + k)).toNatClampNeg (z_ai M2 u (nI (y + k)).toNatClampNeg + 1), fun _ _ => rfl, h.trans (q_ste (b := nI (y + (k + 1))) e1)⟩
    obtain ⟨x, hx⟩ := c_isLostM (M := M) (a := a) (p := nI (y + k))
    replace hB := hB.trans (q_ste2 hx)
    by_cases c : x = 0
    · rw [if_pos c] at hB
      obtain ⟨M3, b1, b2⟩ := h38 M
      rw [cUl_X9_takeOff_6 (hB.trans b2)]
      exact (ih (k + 1) M3 (by omega) b i).trans (b1 b i)
    · rw [if_neg c] at hB
      replace hB := hB.trans (q_ste rfl)
      obtain ⟨M3, b1, b2⟩ := h38 (z_sfi M 1155 a (z_fi M 1155 a - 1))
      rw [cUl_X9_takeOff_6 (hB.trans b2)]
      exact (ih (k + 1) M3 (by omega) b i).trans (b1 b i)
theorem c_offAr {a y m : Nat} (hym : y + m ≤ 200) (b i : Nat) : z_ar (cF_X9_takeOff a (nI y) (nI m) M) b i = z_ar M b i := by
  have h := c_offAr6 (a := a) hym m 0 M (by omega) b i
  have hB := cE_X9_takeOff a (nI y) (nI m) M
  rw [jI_max0 (by omega)] at hB
  rw [hB.trans (q_ste (b := nI y) rfl)]
  exact h
/-- the message of a packet is put -/
theorem j_sndM (J : JJ n M r TL CL) (I : rf_I (t + 1) s q z r.1 r.2) {P pk : Nat} (hP : P < jN (r.1 1606)) (hP4 : P < 400) (e : z_ar M (n + 38) P = some pk) (h81 : r.2 81 P = 0) (h120 : r.2 120 0 = 0) : JJ n (q_st (z_new M 5 8) fun M_30 => q_st (cF_X4_init (z_sz M) 3 M_30) fun M_31 => q_st (z_sfr M_31 515 (z_sz M) (some pk)) fun M_32 => q_st (Option.getD (z_fr M_32 128 (n + 31)) 0) fun a36 => q_st (cF_X5_putToServer a36 (z_fi M_32 896 (n + 32)) (some (z_sz M)) M_32) fun M_35 => M_35) (qF_puts 0 2 (nI P) r) TL CL := by
  have hz := J.1.2.2.2
  obtain ⟨E, w1, w2, w3, w4, w5, w6⟩ := j_newm J.1 3
  refine JJ.st (fun M30 e30 => JJ.st (fun M31 e31 => JJ.st (fun M32 e32 => JJ.st (fun a36 e36 => JJ.st (fun M35 e35 => ?_)))))
  rw [X4F, e30] at e31
  rw [← e31] at E w1 w2 w5
  have E2 : jE n M M32 := jE_sfr E J.1 (Nat.le_refl _) (by decide) e32
  have g512 : z_fi M32 512 (z_sz M) = 3 := by rw [e32]; exact w2
  have g514 : z_fi M32 514 (z_sz M) = 0 := by rw [e32]; exact w5
  have g515 : z_fr M32 515 (z_sz M) = some pk := by rw [e32, zq_fr_sfr, if_pos rfl, if_pos rfl]
  have gsz : z_sz M32 = z_sz M + 1 := by rw [e32]; exact w1
  have ea : a36 = n + 1 := by rw [e36, s_128_31 E2.2.1]; rfl
  have g896 : z_fi M32 896 (n + 32) = 0 := by rw [E2.2.2.1 896 (n + 32) (by omega), js_896_32 J, h120]
  have g38 : z_ar M32 (n + 38) P = some pk := by rw [E2.2.2.2.2 (n + 38) (by omega)]; exact e
  rw [e35, ea, g896]
  have pN : jN (nI P) = P := jN_nI (by omega)
  exact j_puts (p := 0) J E2 I (by decide) (Nat.le_refl _) (by rw [gsz]; exact Nat.lt_succ_self _) (Or.inr (Or.inl ⟨rfl, g512, by rw [pN]; exact hP, by rw [g515, pN, g38]⟩)) g514 (fun _ => by rw [pN]; exact h81)
set_option maxHeartbeats 4000000 in
set_option maxRecDepth 100000 in
/-- a packet is sent -/
theorem j_sendG (J : JJ n M r TL CL) (h : kI t s q z r) {P sN a m : Nat} {b v : Int32} (hP : r.1 1606 = nI P) (hP4 : P < 400) (hs : sN < 4) (ham : a + m ≤ 200) (hv : v = if r.2 67 sN < nI (a + m) then nI (a + m) else r.2 67 sN) (hnew : r.2 67 sN < nI (a + m) → (a : Int) ≤ (r.2 67 sN).toInt) (I' : rf_I t s q z (ua r 67 sN v).1 (ua r 67 sN v).2) : JJ n (cF_X1_sendPacket (n + 31) (some (n + 32)) (nI sN) (nI a) (nI m) b M) (qF_sends 0 (nI sN) (nI a) (nI m) b (ua r 67 sN v)) TL CL := by
  have hz := J.1.2.2.2
  have h120 := h.2.1.2.2.2.2.2.1
  have pN : jN (r.1 1606) = P := by rw [hP]; exact jN_nI (by omega)
  have hB := cE_X1_sendPacket (n + 31) (some (n + 32)) (nI sN) (nI a) (nI m) b M
  rw [js_133_31 J, hP, if_neg (show ¬ (400 : Int32) ≤ nI P from fun c => by rw [show (400 : Int32) = nI 400 from rfl, jI_le (by omega) (by omega)] at c; omega), if_neg (jI_nlt0 (by omega)), if_pos (show nI sN < (4 : Int32) by rw [show (4 : Int32) = nI 4 from rfl, jI_lt (by omega) (by omega)]; exact hs)] at hB
  have EN : jE n M (z_new M 7 14) := jE_new J.1
  have fN : ∀ g, z_fi (z_new M 7 14) g (z_sz M) = 0 := fun g => by rw [zq_fi_new, if_pos rfl]
  have szN : z_sz (z_new M 7 14) = z_sz M + 1 := rfl
  have r133 : z_fi (z_new M 7 14) 133 (n + 31) = nI P := by rw [EN.2.2.1 133 (n + 31) (by omega), js_133_31 J, hP]
  have r896 : z_fi (z_new M 7 14) 896 (n + 32) = 0 := by rw [EN.2.2.1 896 (n + 32) (by omega), js_896_32 J, h120]
  have r645 : z_fi (z_new M 7 14) 645 (n + 1) = r.1 1536 := by rw [EN.2.2.1 645 (n + 1) (by omega), js_645_1 J]
  generalize hpk : z_sz M = pk at hB fN szN hz
  generalize z_new M 7 14 = N at hB EN fN szN r133 r896 r645
  replace hB := hB.trans (q_ste (b := N) rfl)
  replace hB := hB.trans (q_ste (b := n + 32) rfl)
  replace hB := hB.trans (q_ste (b := n + 1) (by rw [s_128_31 EN.2.1]; rfl))
  rw [r133, r896, r645, X6F] at hB
  have E1 := z_wl_jE J.1 (Nat.le_of_eq hpk) [(778, 0), (768, nI P), (769, 0), (770, r.1 1536), (771, nI sN), (772, nI a), (773, nI m)] N EN
  replace hB := hB.trans (q_ste (b := z_wl pk [(778, 0), (768, nI P), (769, 0), (770, r.1 1536), (771, nI sN), (772, nI a), (773, nI m)] N) rfl)
  have r142 : z_fi (z_wl pk [(778, 0), (768, nI P), (769, 0), (770, r.1 1536), (771, nI sN), (772, nI a), (773, nI m)] N) 142 (n + 31) = r.1 1584 := by rw [E1.2.2.1 142 (n + 31) (by omega), js_142_31 J]
  rw [r142, z_wl_s] at hB
  replace hB := hB.trans (q_ste (b := z_wl pk ([(778, 0), (768, nI P), (769, 0), (770, r.1 1536), (771, nI sN), (772, nI a), (773, nI m)] ++ [(774, r.1 1584)]) N) rfl)
  rw [z_wl_s] at hB
  replace hB := hB.trans (q_ste (b := z_wl pk (([(778, 0), (768, nI P), (769, 0), (770, r.1 1536), (771, nI sN), (772, nI a), (773, nI m)] ++ [(774, r.1 1584)]) ++ [(775, b)]) N) rfl)
  have E2 := z_wl_jE J.1 (Nat.le_of_eq hpk) (([(778, 0), (768, nI P), (769, 0), (770, r.1 1536), (771, nI sN), (772, nI a), (773, nI m)] ++ [(774, r.1 1584)]) ++ [(775, b)]) N EN
  have r135 : z_fi (z_wl pk (([(778, 0), (768, nI P), (769, 0), (770, r.1 1536), (771, nI sN), (772, nI a), (773, nI m)] ++ [(774, r.1 1584)]) ++ [(775, b)]) N) 135 (n + 31) = r.1 1577 := by rw [E2.2.2.1 135 (n + 31) (by omega), js_135_31 J]
  rw [r135] at hB
  -- from here on with e
  have go : ∀ e : Int32, e = (if r.1 1577 = 1 then 1 else 0) → JJ n (cF_X1_sendPacket_79 (n + 31) (some (n + 32)) (nI sN) (nI a) (nI m) (some pk) (some pk) e (z_wl pk (([(778, 0), (768, nI P), (769, 0), (770, r.1 1536), (771, nI sN), (772, nI a), (773, nI m)] ++ [(774, r.1 1584)]) ++ [(775, b)]) N)) (qF_sends 0 (nI sN) (nI a) (nI m) b (ua r 67 sN v)) TL CL := fun e he => by
    have hC := cE_X1_sendPacket_79 (n + 31) (some (n + 32)) (nI sN) (nI a) (nI m) (some pk) (some pk) e (z_wl pk (([(778, 0), (768, nI P), (769, 0), (770, r.1 1536), (771, nI sN), (772, nI a), (773, nI m)] ++ [(774, r.1 1584)]) ++ [(775, b)]) N)
    replace hC := hC.trans (q_ste (b := pk) rfl)
    rw [z_wl_s] at hC
    generalize hL : (([(778, 0), (768, nI P), (769, 0), (770, r.1 1536), (771, nI sN), (772, nI a), (773, nI m)] ++ [(774, r.1 1584)]) ++ [(775, b)]) ++ [(776, e)] = L at hC
    have E3 := z_wl_jE J.1 (Nat.le_of_eq hpk) L N EN
    replace hC := hC.trans (q_ste (b := z_wl pk L N) rfl)
    replace hC := hC.trans (q_ste (b := n + 32) rfl)
    replace hC := hC.trans (q_ste (b := pk) rfl)
    have r905 : z_fi (z_wl pk L N) 905 (n + 32) = r.2 93 0 := by rw [E3.2.2.1 905 (n + 32) (by omega), js_905_32 J]
    rw [r905, z_wl_s] at hC
    have E4 := z_wl_jE J.1 (Nat.le_of_eq hpk) (L ++ [(780, r.2 93 0)]) N EN
    replace hC := hC.trans (q_ste (b := z_wl pk (L ++ [(780, r.2 93 0)]) N) rfl)
    have r907 : z_fi (z_wl pk (L ++ [(780, r.2 93 0)]) N) 907 (n + 32) = r.2 97 0 := by rw [E4.2.2.1 907 (n + 32) (by omega), js_907_32 J]
    rw [r907, z_wl_s] at hC
    have E5 := z_wl_jE J.1 (Nat.le_of_eq hpk) ((L ++ [(780, r.2 93 0)]) ++ [(781, r.2 97 0)]) N EN
    have F5 : ∀ g, z_fi (z_wl pk ((L ++ [(780, r.2 93 0)]) ++ [(781, r.2 97 0)]) N) g pk = z_lk g ((L ++ [(780, r.2 93 0)]) ++ [(781, r.2 97 0)]) 0 := fun g => by rw [z_wl_fi, fN]
    have sz5 : z_sz (z_wl pk ((L ++ [(780, r.2 93 0)]) ++ [(781, r.2 97 0)]) N) = pk + 1 := by rw [z_wl_sz, szN]
    generalize z_wl pk ((L ++ [(780, r.2 93 0)]) ++ [(781, r.2 97 0)]) N = W at hC E5 F5 sz5
    rw [← hL] at F5
    replace hC := hC.trans (q_ste (b := W) rfl)
    replace hC := hC.trans (q_ste (b := n + 38) (by rw [s_132_31 E5.2.1]; rfl))
    have u133 : z_fi W 133 (n + 31) = nI P := by rw [E5.2.2.1 133 (n + 31) (by omega), js_133_31 J, hP]
    have u905 : z_fi W 905 (n + 32) = r.2 93 0 := by rw [E5.2.2.1 905 (n + 32) (by omega), js_905_32 J]
    have u899 : z_fi W 899 (n + 32) = z_fi M 899 (n + 32) := by rw [E5.2.2.1 899 (n + 32) (by omega)]
    have u645 : z_fi W 645 (n + 1) = r.1 1536 := by rw [E5.2.2.1 645 (n + 1) (by omega), js_645_1 J]
    rw [u133, jI_N (by omega : P < 2147483648)] at hC
    replace hC := hC.trans (q_ste (b := z_sar W (n + 38) P (some pk)) rfl)
    rw [show z_fi (z_sar W (n + 38) P (some pk)) 133 (n + 31) = nI P from u133, show nI P + 1 = nI (P + 1) by rw [jI_1, jI_add (by omega)]] at hC
    replace hC := hC.trans (q_ste (b := z_sfi (z_sar W (n + 38) P (some pk)) 133 (n + 31) (nI (P + 1))) rfl)
    rw [show z_fi (z_sfi (z_sar W (n + 38) P (some pk)) 133 (n + 31) (nI (P + 1))) 905 (n + 32) = r.2 93 0 by rw [zq_fi_sfi, if_neg (by decide)]; exact u905] at hC
    replace hC := hC.trans (q_ste (b := z_sfi (z_sfi (z_sar W (n + 38) P (some pk)) 133 (n + 31) (nI (P + 1))) 905 (n + 32) (r.2 93 0 + 1)) rfl)
    rw [show z_fi (z_sfi (z_sfi (z_sar W (n + 38) P (some pk)) 133 (n + 31) (nI (P + 1))) 905 (n + 32) (r.2 93 0 + 1)) 899 (n + 32) = z_fi M 899 (n + 32) by rw [zq_fi_sfi, if_neg (by decide), zq_fi_sfi, if_neg (by decide)]; exact u899] at hC
    replace hC := hC.trans (q_ste (b := z_sfi (z_sfi (z_sfi (z_sar W (n + 38) P (some pk)) 133 (n + 31) (nI (P + 1))) 905 (n + 32) (r.2 93 0 + 1)) 899 (n + 32) (z_fi M 899 (n + 32) + 1)) rfl)
    have SV : y_S n (z_sfi (z_sfi (z_sfi (z_sar W (n + 38) P (some pk)) 133 (n + 31) (nI (P + 1))) 905 (n + 32) (r.2 93 0 + 1)) 899 (n + 32) (z_fi M 899 (n + 32) + 1)) := S_sfi (S_sfi (S_sfi (S_sar (by omega) E5.2.1)))
    replace hC := hC.trans (q_ste (b := n + 1) (by rw [s_128_31 SV]; rfl))
    rw [show z_fi (z_sfi (z_sfi (z_sfi (z_sar W (n + 38) P (some pk)) 133 (n + 31) (nI (P + 1))) 905 (n + 32) (r.2 93 0 + 1)) 899 (n + 32) (z_fi M 899 (n + 32) + 1)) 645 (n + 1) = r.1 1536 by rw [zq_fi_sfi, if_neg (by decide), zq_fi_sfi, if_neg (by decide), zq_fi_sfi, if_neg (by decide)]; exact u645] at hC
    -- the likeness with the new packet
    have hP1 := q_ch1 (r := r) (P := P) (w := r.1 1536) (sN := nI sN) (a := nI a) (m := nI m) (key := r.1 1584) (b := b) (e := e) (pl := r.2 93 0) (ac := r.2 97 0)
    have JN := JJ.newp (M1 := z_sfi (z_sfi (z_sfi (z_sfi (z_sar W (n + 38) P (some pk)) 133 (n + 31) (nI (P + 1))) 905 (n + 32) (r.2 93 0 + 1)) 899 (n + 32) (z_fi M 899 (n + 32) + 1)) 908 (n + 32) (r.1 1536)) (r1 := uf (q_ch P (r.1 1536) (nI sN) (nI a) (nI m) (r.1 1584) b e (r.2 93 0) (r.2 97 0) r) 1606 (nI (P + 1))) J hP hP4 (Nat.le_of_eq hpk) E5 (by rw [sz5]; exact Nat.lt_succ_self _) (by rw [F5]; rfl) rfl (fun g hg => by rw [uf_n hg, hP1]) uf_e (fun x hx => by
        rw [uf2]
        refine q_chn ?_
        simp only [List.mem_cons, List.not_mem_nil, or_false, not_or] at hx ⊢
        obtain ⟨x1, x2, x3, x4, x5, x6, x7, x8, x9, x10, x11, x12, x13, x14⟩ := hx
        exact ⟨x1, x2, x3, x4, x5, x7, x8, x9, x11, x12, x13, x14⟩) (fun x hx j hj => by
        rw [uf2]
        exact q_chj (by revert hx; revert x; decide) (by revert hx; revert x; decide) hj) (fun t ht => by
        rw [uf2, F5]
        have h76 : r.2 76 P = 0 := (h.2.1.2.2.2.1 P (by omega)).1
        have h81 : r.2 81 P = 0 := (h.2.1.2.2.2.1 P (by omega)).2
        have hR : t = (769, 71) ∨ t = (770, 72) ∨ t = (771, 73) ∨ t = (772, 74) ∨ t = (773, 75) ∨ t = (774, 78) ∨ t = (775, 79) ∨ t = (776, 80) ∨ t = (777, 81) ∨ t = (778, 76) ∨ t = (780, 82) ∨ t = (781, 83) := (show ∀ t, t ∈ jPT → t = (769, 71) ∨ t = (770, 72) ∨ t = (771, 73) ∨ t = (772, 74) ∨ t = (773, 75) ∨ t = (774, 78) ∨ t = (775, 79) ∨ t = (776, 80) ∨ t = (777, 81) ∨ t = (778, 76) ∨ t = (780, 82) ∨ t = (781, 83) from by decide) t ht
        rcases hR with rfl | rfl | rfl | rfl | rfl | rfl | rfl | rfl | rfl | rfl | rfl | rfl
        · exact q_ch71.symm
        · exact q_ch72.symm
        · exact q_ch73.symm
        · exact q_ch74.symm
        · exact q_ch75.symm
        · exact q_ch78.symm
        · exact q_ch79.symm
        · exact q_ch80.symm
        · show (0 : Int32) = _
          rw [q_chn (by decide), h81]
        · show (0 : Int32) = _
          rw [q_chn (by decide), h76]
        · exact q_ch82.symm
        · exact q_ch83.symm) (by rw [uf2]; exact q_ch71) (by rw [uf2, q_chn (by decide)]; exact (h.2.1.2.2.2.1 P (by omega)).1) (by rw [uf2]; exact q_ch93) (fun j hj => by rw [uf2]; exact q_ch93b hj) (by rw [uf2]; exact q_ch95) (fun j hj => by rw [uf2]; exact q_ch95b hj)
    have hVar : z_ar (z_sfi (z_sfi (z_sfi (z_sfi (z_sar W (n + 38) P (some pk)) 133 (n + 31) (nI (P + 1))) 905 (n + 32) (r.2 93 0 + 1)) 899 (n + 32) (z_fi M 899 (n + 32) + 1)) 908 (n + 32) (r.1 1536)) (n + 38) P = some pk := by
      show z_ar (z_sar W (n + 38) P (some pk)) (n + 38) P = some pk
      rw [zq_ar_sar, if_pos rfl, if_pos rfl]
    generalize z_sfi (z_sfi (z_sfi (z_sfi (z_sar W (n + 38) P (some pk)) 133 (n + 31) (nI (P + 1))) 905 (n + 32) (r.2 93 0 + 1)) 899 (n + 32) (z_fi M 899 (n + 32) + 1)) 908 (n + 32) (r.1 1536) = V at hC JN hVar
    replace hC := hC.trans (q_ste (b := V) rfl)
    replace hC := hC.trans (q_ste (b := n + 11) (by rw [s_129_31 JN.1]; rfl))
    replace hC := hC.trans (q_ste (b := n + (12 + 4 * sN)) (by rw [jI_N (by omega), s_str JN.1 hs]; rfl))
    -- cells as the reference has them
    have h70 : (uf (q_ch P (r.1 1536) (nI sN) (nI a) (nI m) (r.1 1584) b e (r.2 93 0) (r.2 97 0) r) 1606 (nI (P + 1))).2 70 = r.2 70 := by rw [uf2]; exact q_chn (by decide)
    have h67 : (uf (q_ch P (r.1 1536) (nI sN) (nI a) (nI m) (r.1 1584) b e (r.2 93 0) (r.2 97 0) r) 1606 (nI (P + 1))).2 67 = r.2 67 := by rw [uf2]; exact q_chn (by decide)
    have hcov : ∀ i, 0 ≤ (r.2 70 i).toInt ∧ (r.2 70 i).toInt < 1000 := fun i => by
      by_cases ci : i < 800
      · have hc := h.2.2.2.1.1 (i / 200) (i % 200) (by omega) (by omega)
        rw [show 200 * (i / 200) + i % 200 = i by omega] at hc
        have hl := rf_c_le (p := kcv r (i / 200) (i % 200)) (jN (r.1 1606))
        rw [hc, jI_t (by omega)]; omega
      · rw [h.2.2.2.1.2.1 i (by omega)]; decide
    have eR : ua (uA (uf (q_ch P (r.1 1536) (nI sN) (nI a) (nI m) (r.1 1584) b e (r.2 93 0) (r.2 97 0) r) 1606 (nI (P + 1))) 70 (rO (r.2 70) (200 * sN + a) m 1)) 67 sN v = q_sn P sN a m b (ua r 67 sN v) := by
      unfold q_sn
      rw [show (ua r 67 sN v).1 = r.1 from rfl, ua_n (show 93 ≠ 67 by decide), ua_n (show 97 ≠ 67 by decide), ua_n (show 70 ≠ 67 by decide), q_ch67, ← he]
      show ua (uf (uA (q_ch P (r.1 1536) (nI sN) (nI a) (nI m) (r.1 1584) b e (r.2 93 0) (r.2 97 0) r) 70 (rO (r.2 70) (200 * sN + a) m 1)) 1606 (nI (P + 1))) 67 sN v = _
      rw [ua_uAc (x := 70) (y := 67) (by decide)]
      rfl
    have I3 := rI_snd (sN := sN) (a := a) (m := m) (b := b) I' (show (ua r 67 sN v).1 1606 = nI P from hP) hP4 hs ham
    rw [← eR] at I3
    rw [q_sendsE (show (ua r 67 sN v).1 1606 = nI P from hP) hP4 hs ham, ← eR]
    generalize uf (q_ch P (r.1 1536) (nI sN) (nI a) (nI m) (r.1 1584) b e (r.2 93 0) (r.2 97 0) r) 1606 (nI (P + 1)) = R at JN h70 h67 I3 eR ⊢
    have f6 : R.1 1606 = nI (P + 1) := by
      have := congrArg (fun x : q_R => x.1 1606) eR
      exact this.trans (q_snF (r := ua r 67 sN v) (P := P) (sN := sN) (a := a) (m := m) (b := b)).2.1
    have f81 : R.2 81 P = 0 := by
      have h1 := congrArg (fun x : q_R => x.2 81 P) eR
      have h2 := congrFun ((q_snF (r := ua r 67 sN v) (P := P) (sN := sN) (a := a) (m := m) (b := b)).2.2.1 81 (by decide)) P
      have h3 : (ua (uA R 70 (rO (r.2 70) (200 * sN + a) m 1)) 67 sN v).2 81 P = R.2 81 P := by rw [ua_n (by decide), uA_n (by decide)]
      rw [← h3]
      exact h1.trans (h2.trans (by rw [ua_n (by decide)]; exact (h.2.1.2.2.2.1 P (by omega)).2))
    have f120 : R.2 120 0 = 0 := by
      have h1 := congrArg (fun x : q_R => x.2 120 0) eR
      have h2 := congrFun ((q_snF (r := ua r 67 sN v) (P := P) (sN := sN) (a := a) (m := m) (b := b)).2.2.1 120 (by decide)) 0
      have h3 : (ua (uA R 70 (rO (r.2 70) (200 * sN + a) m 1)) 67 sN v).2 120 0 = R.2 120 0 := by rw [ua_n (by decide), uA_n (by decide)]
      rw [← h3]
      exact h1.trans (h2.trans (by rw [ua_n (by decide)]; exact h120))
    obtain ⟨U, JU, eU⟩ := j_offF JN hs ham (fun i => by rw [h70]; exact hcov i)
    rw [h67, ← hv] at eU
    rw [h70] at JU
    -- row of packets through takeOff
    have b67 := ri_A h.1 (x := 67) (lo := 0) (hi := 200) (by decide) sN
    have JS2 := JU.sent (s := sN) (v := v) hs (by
        rw [uA_n (by decide), h67, hv]
        by_cases c : r.2 67 sN < nI (a + m)
        · rw [if_pos c]
          rw [Int32.lt_iff_toInt_lt] at c
          omega
        · rw [if_neg c]; exact Int.le_refl _) (fun j hj h1 h2 hzero => by
        rw [uA_n (by decide), h67] at h1
        rw [uA_e] at hzero
        by_cases c : r.2 67 sN < nI (a + m)
        · rw [hv, if_pos c, jI_t (by omega)] at h2
          have hn := hnew c
          unfold rO at hzero
          rw [if_pos (by omega)] at hzero
          have hc := hcov (200 * sN + j)
          have := congrArg Int32.toInt hzero
          rw [i_addE rfl (show (1 : Int32).toInt = 1 from rfl) (by omega) (by omega), show (0 : Int32).toInt = 0 from rfl] at this
          omega
        · rw [hv, if_neg c] at h2; omega)
    have hWar : z_ar (cF_X9_takeOff (n + (12 + 4 * sN)) (nI a) (nI m) V) (n + 38) P = some pk := by
      obtain ⟨pk2, g1, g2, g3, g4, g5⟩ := JN.pkt (i := P) (by rw [f6, jN_nI (by omega)]; exact Nat.lt_succ_self _)
      exact (c_offAr (M := V) (a := n + (12 + 4 * sN)) ham _ _).trans hVar
    rw [← eU] at JS2
    generalize cF_X9_takeOff (n + (12 + 4 * sN)) (nI a) (nI m) V = T' at hC JS2 hWar
    replace hC := hC.trans (q_ste (b := T') rfl)
    rw [hC]
    exact j_sndM JS2 I3 (by
      show P < jN (R.1 1606)
      rw [f6, jN_nI (by omega)]; exact Nat.lt_succ_self _) hP4 hWar (by rw [ua_n (by decide), uA_n (by decide)]; exact f81) (by rw [ua_n (by decide), uA_n (by decide)]; exact f120)
  by_cases c : r.1 1577 = 1
  · rw [if_pos c] at hB
    rw [hB]
    exact go 1 (by rw [if_pos c])
  · rw [if_neg c] at hB
    rw [hB]
    exact go 0 (by rw [if_neg c])
end JSG
