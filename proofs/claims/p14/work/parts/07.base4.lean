/-! ===== ROWS of new cells, of the library's own, of calls and ends ===== -/
theorem z_Rep.push {G : z_G} {M M1 : z_Mem} {H H1 : Heap} {c1 : Cell} {n : Nat} (h : z_Rep G M H) (hs : H1.size = H.size + 1) (h1 : H1[H.size]? = some c1) (ho : ∀ q : Nat, q < H.size → H1[q]? = H[q]?) (hn : c1.slots.size = n)
    (hr : 1 ≤ z_cl M ∧ n ≤ z_sl M) (hm : z_sz M1 = z_sz M + 1 ∧ z_cl M1 = z_cl M - 1 ∧ z_sl M1 = z_sl M - n) (hb : ∀ b, b ≠ z_sz M → z_same M M1 b) (ha : z_at G M1 (z_sz M) H1) : z_Rep G M1 H1 := by
  obtain ⟨g1, g2, g3, g4⟩ := h
  have hw := z_wg_push hs h1 ho
  refine ⟨by omega, by omega, by omega, fun b => ?_⟩
  by_cases e : b = z_sz M
  · rw [e]; exact ha
  · refine (g4 b).congr (hb b e) ?_
    by_cases hl : b < H.size
    · exact ho b hl
    · rw [Array.getElem?_eq_none (by omega), Array.getElem?_eq_none (by omega)]
theorem z_same_new {M : z_Mem} {k n b : Nat} (h : b ≠ z_sz M) : z_same M (z_new M k n) b :=
  ⟨by show va_up M.1 _ k b = _; unfold va_up; exact if_neg h, rfl, fun g => by show (if b = _ then _ else _) = _; exact if_neg h, fun g => by show (if b = _ then _ else _) = _; exact if_neg h, fun _ => rfl, fun _ => rfl, fun _ => rfl⟩
theorem z_same_nwa {M : z_Mem} {k n b : Nat} (h : b ≠ z_sz M) : z_same M (z_nwa M k n) b :=
  ⟨by show va_up M.1 _ k b = _; unfold va_up; exact if_neg h, by show va_up M.2.1 _ n b = _; unfold va_up; exact if_neg h, fun g => rfl, fun g => rfl, fun j => by show (if b = _ then _ else _) = _; exact if_neg h, fun j => by show (if b = _ then _ else _) = _; exact if_neg h, fun j => by show (if b = _ then _ else _) = _; exact if_neg h⟩
theorem z_ki_new {M : z_Mem} {k n : Nat} : z_ki (z_new M k n) (z_sz M) = k := by show va_up M.1 _ k _ = _; unfold va_up; exact if_pos rfl
theorem z_ki_nwa {M : z_Mem} {k n : Nat} : z_ki (z_nwa M k n) (z_sz M) = k := by show va_up M.1 _ k _ = _; unfold va_up; exact if_pos rfl
theorem z_ln_nwa {M : z_Mem} {k n : Nat} : z_ln (z_nwa M k n) (z_sz M) = n := by show va_up M.2.1 _ n _ = _; unfold va_up; exact if_pos rfl
theorem z_Ext_new {M : z_Mem} {k n : Nat} : z_Ext M (z_new M k n) := ⟨Nat.le_succ _, Nat.sub_le _ _, Nat.sub_le _ _, fun a ha => ⟨(z_same_new (Nat.ne_of_lt ha)).1, (z_same_new (k := k) (n := n) (Nat.ne_of_lt ha)).2.1⟩⟩
theorem z_Ext_nwa {M : z_Mem} {k n : Nat} : z_Ext M (z_nwa M k n) := ⟨Nat.le_succ _, Nat.sub_le _ _, Nat.sub_le _ _, fun a ha => ⟨(z_same_nwa (Nat.ne_of_lt ha)).1, (z_same_nwa (k := k) (n := n) (Nat.ne_of_lt ha)).2.1⟩⟩
theorem z_Ext_exc {M : z_Mem} {k n : Nat} : z_Ext M (z_exc M k n) := ⟨Nat.le_add_right _ _, Nat.sub_le _ _, Nat.sub_le _ _, fun a ha => ⟨rfl, rfl⟩⟩
theorem z_WT_new {M : z_Mem} {c n : Nat} (hc : c < 13) (h : z_WT M) : z_WT (z_new M (c + 1) n) := by
  have hT := h
  obtain ⟨h1, h2, h3, h4, h5, h6⟩ := h
  have k1 : ∀ a k, z_ki M a = k → k ≠ 0 → z_ki (z_new M (c + 1) n) a = k := fun a k hk h0 => by
    rw [(z_same_new (k := c + 1) (n := n) (Nat.ne_of_lt (h1 a (by omega)))).1]; exact hk
  refine ⟨fun a ha => ?_, fun a c' k b ha hc' hk hf hb => ?_, fun a c' k ha hc' hk hf => ?_, fun a j b ha hb hj => ?_, fun a j ha => ?_, h6⟩
  · show a < z_sz M + 1
    by_cases e : a = z_sz M
    · omega
    · rw [(z_same_new e).1] at ha
      have := h1 a ha
      omega
  · have hb : (if a = z_sz M then none else z_fr M (128 * c' + k) a) = some b := hb
    by_cases e : a = z_sz M
    · rw [if_pos e] at hb; cases hb
    · rw [if_neg e] at hb
      rw [(z_same_new e).1] at ha
      have := h2 a c' k b ha hc' hk hf hb
      by_cases h0 : z_ki M b = 0
      · exfalso
        have h9 : ∀ c k, z_fk c k ≠ 2 := by
          intro c k
          unfold z_fk
          have hall : ∀ c : Nat, (z_tab c).all (fun x => x != 2) = true := by
            intro c
            rcases (show c = 0 ∨ c = 1 ∨ c = 2 ∨ c = 3 ∨ c = 4 ∨ c = 5 ∨ c = 6 ∨ c = 7 ∨ c = 8 ∨ c = 9 ∨ c = 10 ∨ c = 11 ∨ ∃ d, c = d + 12 by
              by_cases hc : c < 12
              · omega
              · exact Or.inr (Or.inr (Or.inr (Or.inr (Or.inr (Or.inr (Or.inr (Or.inr (Or.inr (Or.inr (Or.inr (Or.inr ⟨c - 12, by omega⟩)))))))))))) with
              rfl | rfl | rfl | rfl | rfl | rfl | rfl | rfl | rfl | rfl | rfl | rfl | ⟨d, rfl⟩ <;> rfl
          rw [List.getD_eq_getElem?_getD]
          cases hg : (z_tab c)[k]? with
          | none => decide
          | some x =>
            have := List.all_eq_true.mp (hall c) x (List.mem_of_getElem? hg)
            simpa using this
        exact h9 c' k (by omega)
      · rw [k1 b _ rfl h0]; exact this
  · show (if a = z_sz M then (0 : Int32) else z_fi M (128 * c' + k) a) = 0 ∨ (if a = z_sz M then (0 : Int32) else z_fi M (128 * c' + k) a) = 1
    by_cases e : a = z_sz M
    · rw [if_pos e]; exact Or.inl rfl
    · rw [if_neg e]
      rw [(z_same_new e).1] at ha
      exact h3 a c' k ha hc' hk hf
  · by_cases e : a = z_sz M
    · exfalso
      rw [e, z_ki_new] at ha
      omega
    · rw [(z_same_new e).1] at ha hb ⊢
      have hek : 5 ≤ z_ek (z_ki M a) := by unfold z_ek; split <;> (try split) <;> omega
      have := h4 a j b ha hb hj
      exact k1 b _ this (by omega)
  · by_cases e : a = z_sz M
    · exfalso
      rw [e, z_ki_new] at ha
      omega
    · rw [(z_same_new e).1] at ha
      exact h5 a j ha
theorem z_WT_nwa {M : z_Mem} {k n : Nat} (hk : 20 ≤ k) (hn : n < 2 ^ 31) (h : z_WT M) : z_WT (z_nwa M k n) := by
  obtain ⟨h1, h2, h3, h4, h5, h6⟩ := h
  have k1 : ∀ a t, z_ki M a = t → t ≠ 0 → z_ki (z_nwa M k n) a = t := fun a t ht h0 => by
    rw [(z_same_nwa (k := k) (n := n) (Nat.ne_of_lt (h1 a (by omega)))).1]; exact ht
  refine ⟨fun a ha => ?_, fun a c' k' b ha hc' hk' hf hb => ?_, fun a c' k' ha hc' hk' hf => ?_, fun a j b ha hb hj => ?_, fun a j ha => ?_, fun a => ?_⟩
  · show a < z_sz M + 1
    by_cases e : a = z_sz M
    · omega
    · rw [(z_same_nwa e).1] at ha
      have := h1 a ha
      omega
  · by_cases e : a = z_sz M
    · exfalso
      rw [e, z_ki_nwa] at ha
      omega
    · rw [(z_same_nwa e).1] at ha
      have h9 := h2 a c' k' b ha hc' hk' hf hb
      by_cases h0 : z_ki M b = 0
      · by_cases eb : b = z_sz M
        · exfalso
          have : z_fk c' k' ≠ 2 := by
            unfold z_fk
            have hall : ∀ c : Nat, (z_tab c).all (fun x => x != 2) = true := by
              intro c
              rcases (show c = 0 ∨ c = 1 ∨ c = 2 ∨ c = 3 ∨ c = 4 ∨ c = 5 ∨ c = 6 ∨ c = 7 ∨ c = 8 ∨ c = 9 ∨ c = 10 ∨ c = 11 ∨ ∃ d, c = d + 12 by
                by_cases hc : c < 12
                · omega
                · exact Or.inr (Or.inr (Or.inr (Or.inr (Or.inr (Or.inr (Or.inr (Or.inr (Or.inr (Or.inr (Or.inr (Or.inr ⟨c - 12, by omega⟩)))))))))))) with
                rfl | rfl | rfl | rfl | rfl | rfl | rfl | rfl | rfl | rfl | rfl | rfl | ⟨d, rfl⟩ <;> rfl
            rw [List.getD_eq_getElem?_getD]
            cases hg : (z_tab c')[k']? with
            | none => decide
            | some x =>
              have := List.all_eq_true.mp (hall c') x (List.mem_of_getElem? hg)
              simpa using this
          omega
        · rw [(z_same_nwa eb).1]; exact h9
      · rw [k1 b _ rfl h0]; exact h9
  · by_cases e : a = z_sz M
    · exfalso
      rw [e, z_ki_nwa] at ha
      omega
    · rw [(z_same_nwa e).1] at ha
      exact h3 a c' k' ha hc' hk' hf
  · have hj : (if a = z_sz M then none else z_ar M a j) = some b := hj
    by_cases e : a = z_sz M
    · rw [if_pos e] at hj; cases hj
    · rw [if_neg e] at hj
      rw [(z_same_nwa e).1] at ha hb ⊢
      have hek : 5 ≤ z_ek (z_ki M a) := by unfold z_ek; split <;> (try split) <;> omega
      have := h4 a j b ha hb hj
      exact k1 b _ this (by omega)
  · show (if a = z_sz M then (0 : Int32) else z_ai M a j) = 0 ∨ (if a = z_sz M then (0 : Int32) else z_ai M a j) = 1
    by_cases e : a = z_sz M
    · rw [if_pos e]; exact Or.inl rfl
    · rw [if_neg e]
      rw [(z_same_nwa e).1] at ha
      exact h5 a j ha
  · by_cases e : a = z_sz M
    · rw [e, z_ln_nwa]; exact hn
    · rw [(z_same_nwa e).2.1]; exact h6 a
/-- room for a cell of n slots -/
def z_room (M : z_Mem) (n : Nat) : Prop := 1 ≤ z_cl M ∧ n ≤ z_sl M
section ZN
variable {G : z_G} {Y : z_Y} {X : z_X} {M0 M : z_Mem} {Q : z_Q} {pc : Nat} {lv : List (Nat × z_L)} {st : List z_L}
theorem z_newo {c i n : Nat} (B : z_CB c) (hc : c < 13) (hn : z_N c = n) (hd : ∀ k, k < z_N c → defaultValue (z_ty c k) = if z_fk c k < 2 then .int 0 else .null) (hw1 : Cond.classLink Y.1.cls i (z_R c) ∈ z_ws) (hw2 : Cond.instantiable (z_R c) (z_N c) ∈ z_ws) (hw3 : Cond.initialized (z_R c) ∈ z_ws) (hr : z_room M n) (d : decode Y.2.1 pc = .ok (.new i, 3))
    (kk : z_Ext M (z_new M (c + 1) n) → z_ki (z_new M (c + 1) n) (z_sz M) = c + 1 → z_V G Y X M0 Q (z_new M (c + 1) n) (pc + 3) lv (z_O (some (z_sz M)) :: st)) : z_V G Y X M0 Q M pc lv st := by
  subst hn
  intro p e R s m args below meth c9 C H locs ls hR hT hE hS hl
  have hC := C
  obtain ⟨C1, C2, C3, C4, C5, C6, C7, C8, C9, C10, C11, C12, C13, C14, C15, -⟩ := C
  obtain ⟨hr1, hr2⟩ := hr
  obtain ⟨e1, e2, e3, e4⟩ := hE
  have hKn := C9.1 c _ B.1
  refine W.newc C1 C2 C5 (C6 _ hw1) (C6 _ hw2) (C6 _ hw3) rfl d (by omega) (by omega) fun cC kC f1 f2 f3 f4 => ?_
  cases hKn.2.1.symm.trans f1
  generalize hH1 : H.push ({ cls := G.2.1.1 c, slots := kC.instanceTypes.map defaultValue, vm := .none } : Cell) = H1
  have z1 : H1.size = H.size + 1 := by rw [← hH1, Array.size_push]
  have g1 : H1[H.size]? = some (blank (G.2.1.1 c) kC) := by rw [← hH1, Array.getElem?_push_size]; rfl
  have o1 : ∀ q : Nat, q < H.size → H1[q]? = H[q]? := fun q hq => by rw [← hH1, Array.getElem?_push, if_neg (Nat.ne_of_lt hq)]
  have hsz : H.size = z_sz M := hR.1
  have hat : z_at G (z_new M (c + 1) (z_N c)) (z_sz M) H1 := by
    refine ⟨fun c' hc' _ => ?_, fun hk' => ?_, fun ha' _ => ?_, fun hk' => ?_⟩
    · rw [z_ki_new] at hc'
      have : c' = c := by omega
      subst this
      refine ⟨_, B.1, (u_born (z_ty c') C6 B.2.1 hKn f2 (by rw [← hsz]; exact g1) B.2.2.1).to fun j hj => ?_⟩
      rw [z_fs_V hj, hd j hj]
      unfold z_val
      split
      · show Value.int 0 = Value.int (if z_sz M = z_sz M then 0 else _)
        rw [if_pos rfl]
      · show Value.null = va_rf (if z_sz M = z_sz M then none else _)
        rw [if_pos rfl]; rfl
    · rw [z_ki_new] at hk'; omega
    · rw [z_ki_new] at ha'; omega
    · rw [z_ki_new] at hk'; omega
  have hR1 : z_Rep G (z_new M (c + 1) (z_N c)) H1 := hR.push z1 g1 o1 (by simp [blank]; exact f4) ⟨hr1, hr2⟩ ⟨rfl, rfl, rfl⟩ (fun b hb => z_same_new hb) hat
  have h := kk z_Ext_new z_ki_new p e R s m args below meth c9 hC H1 locs ls hR1 (z_WT_new hc hT) (z_Ext.trans ⟨e1, e2, e3, e4⟩ z_Ext_new) ⟨Nat.le_trans hS.1 (by omega), fun x h1 h2 => (o1 x (Nat.lt_of_lt_of_le h1 hS.1)).trans (hS.2.1 x h1 h2), hS.2.2⟩ hl
  have a1 : z_cl (z_new M (c + 1) (z_N c)) = z_cl M - 1 := rfl
  have a2 : z_sl (z_new M (c + 1) (z_N c)) = z_sl M - z_N c := rfl
  rw [a1, a2, show z_cl M0 - (z_cl M - 1) = z_cl M0 - z_cl M + 1 by omega, show z_sl M0 - (z_sl M - z_N c) = z_sl M0 - z_sl M + z_N c by omega] at h
  rw [hsz]
  exact h
/-- the new row, by its cell -/
theorem z_nwaR {t N : Nat} {H H1 : Heap} {f : Nat → Value} (hR : z_Rep G M H) (h20 : 20 ≤ t) (h25 : t ≤ 25) (hr : z_room M N) (z1 : H1.size = H.size + 1) (g1 : H1[H.size]? = some (arrV (G.2.2.1 t) N f)) (o1 : ∀ q : Nat, q < H.size → H1[q]? = H[q]?)
    (hf : ∀ j, f j = if t < 22 then .int 0 else if t = 25 then .long 0 else .null) : z_Rep G (z_nwa M t N) H1 := by
  have hsz : H.size = z_sz M := hR.1
  refine hR.push z1 g1 o1 (arrV_size _ _ _) hr ⟨rfl, rfl, rfl⟩ (fun b hb => z_same_nwa hb) ?_
  rw [hsz] at g1
  have a1 : ∀ j, z_ai (z_nwa M t N) (z_sz M) j = 0 := fun j => by show (if z_sz M = z_sz M then (0 : Int32) else _) = 0; exact if_pos rfl
  have a2 : ∀ j, z_ar (z_nwa M t N) (z_sz M) j = none := fun j => by show (if z_sz M = z_sz M then none else _) = none; exact if_pos rfl
  have a3 : ∀ j, z_al (z_nwa M t N) (z_sz M) j = 0 := fun j => by show (if z_sz M = z_sz M then (0 : Int64) else _) = 0; exact if_pos rfl
  refine ⟨fun c' hc' h13 => ?_, fun hk' => ?_, fun ha' hb' => ?_, fun hk' => ?_⟩
  · rw [z_ki_nwa] at hc'; omega
  · rw [z_ki_nwa, z_ln_nwa, g1]
    rw [z_ki_nwa] at hk'
    congr 2
    funext j
    rw [hf, a1, if_pos (by omega)]
  · rw [z_ki_nwa, z_ln_nwa, g1]
    rw [z_ki_nwa] at ha' hb'
    congr 2
    funext j
    rw [hf, a2, if_neg (by omega), if_neg (by omega)]
    rfl
  · rw [z_ki_nwa, z_ln_nwa, g1]
    rw [z_ki_nwa] at hk'
    congr 2
    funext j
    rw [hf, a3, if_neg (by omega), if_pos hk']
theorem z_nwaK {t N : Nat} {p : Program} {e : Env} {R : Room} {s : State} {m : MethodId} {args : Array Value} {below : List Frame} {meth : Method} {c9 : Code} {H H1 : Heap} {locs : List Loc} {ls : Array Slot} {pc' : Nat} (C : z_Cx G Y X M0 p R s m args meth c9) (hR : z_Rep G M H) (hT : z_WT M) (hE : z_Ext M0 M) (hS : va_S (z_A M0) s.heap H locs) (hl : z_lh ls Y.2.2.1 lv)
    (hN : N < 2 ^ 31) (h20 : 20 ≤ t) (hr : z_room M N) (z1 : H1.size = H.size + 1) (o1 : ∀ q : Nat, q < H.size → H1[q]? = H[q]?) (hR1 : z_Rep G (z_nwa M t N) H1)
    (kk : z_Ext M (z_nwa M t N) → z_ki (z_nwa M t N) (z_sz M) = t → z_V G Y X M0 Q (z_nwa M t N) pc' lv (z_O (some (z_sz M)) :: st)) :
    W p G.1 e R s m args below meth c9 H1 locs (z_cl M0 - z_cl M + 1) (z_sl M0 - z_sl M + N) (Q below args s) (F0 m pc' ls ((z_O (some H.size) :: st).map z_v)) := by
  obtain ⟨hr1, hr2⟩ := hr
  have hE' := hE
  obtain ⟨e1, e2, e3, e4⟩ := hE
  have hsz : H.size = z_sz M := hR.1
  have h := kk z_Ext_nwa z_ki_nwa p e R s m args below meth c9 C H1 locs ls hR1 (z_WT_nwa h20 hN hT) (hE'.trans z_Ext_nwa) ⟨Nat.le_trans hS.1 (by omega), fun x h1 h2 => (o1 x (Nat.lt_of_lt_of_le h1 hS.1)).trans (hS.2.1 x h1 h2), hS.2.2⟩ hl
  have a1 : z_cl (z_nwa M t N) = z_cl M - 1 := rfl
  have a2 : z_sl (z_nwa M t N) = z_sl M - N := rfl
  rw [a1, a2, show z_cl M0 - (z_cl M - 1) = z_cl M0 - z_cl M + 1 by omega, show z_sl M0 - (z_sl M - N) = z_sl M0 - z_sl M + N by omega] at h
  rw [hsz]
  exact h
theorem z_newa {t N : Nat} {n : Int32} {atype : ArrayType} (hat : (atype = .int ∧ t = 20) ∨ (atype = .boolean ∧ t = 21) ∨ (atype = .long ∧ t = 25)) (hw : Cond.arrayClass (newarray.typeOf atype) ∈ z_ws) (hn : n = nI N) (hN : N ≤ 60000) (hr : z_room M N) (d : decode Y.2.1 pc = .ok (.newarray atype, 2))
    (kk : z_Ext M (z_nwa M t N) → z_ki (z_nwa M t N) (z_sz M) = t → z_V G Y X M0 Q (z_nwa M t N) (pc + 2) lv (z_O (some (z_sz M)) :: st)) : z_V G Y X M0 Q M pc lv (z_I n :: st) := by
  intro p e R s m args below meth c9 C H locs ls hR hT hE hS hl
  have hC := C
  obtain ⟨C1, C2, C3, C4, C5, C6, C7, C8, C9, C10, C11, C12, C13, C14, C15, -⟩ := C
  have hr1 := hr.1
  have hr2 := hr.2
  have e2 := hE.2.1
  have e3 := hE.2.2.1
  have hN2 : N < 2 ^ 31 := by omega
  have hcl : (nI N).toNatClampNeg = N := nI_clamp hN2
  subst hn
  refine va_newaK C1 C2 (C6 _ hw) rfl d rfl (nI_pos hN2) hcl (by rcases hat with ⟨rfl, -⟩ | ⟨rfl, -⟩ | ⟨rfl, -⟩ <;> (show N * _ ≤ _) <;> (simp [newarray.typeOf, componentBytes]; omega)) (by omega) (by omega) rfl fun H1 cA g1 z1 o1 hAr hNm => ?_
  have hcA : cA = G.2.2.1 t := by
    rcases hat with ⟨rfl, rfl⟩ | ⟨rfl, rfl⟩ | ⟨rfl, rfl⟩
    · exact Option.some.inj (hNm.symm.trans (C9.2 0 _ rfl).2)
    · exact Option.some.inj (hNm.symm.trans (C9.2 1 _ rfl).2)
    · exact Option.some.inj (hNm.symm.trans (C9.2 5 _ rfl).2)
  subst hcA
  have hR1 : z_Rep G (z_nwa M t N) H1 := z_nwaR hR (by omega) (by omega) hr z1 g1 o1 (fun j => by rcases hat with ⟨rfl, rfl⟩ | ⟨rfl, rfl⟩ | ⟨rfl, rfl⟩ <;> rfl)
  exact z_nwaK hC hR hT hE hS hl hN2 (by omega) hr z1 o1 hR1 kk
theorem z_newq {t tt N i : Nat} {n : Int32} {E : String} (h22 : 22 ≤ t) (h24 : t ≤ 24) (hEq : E = z_R (z_ek t - 1)) (ht : ∀ Y9 : Nat → ClassId, (z_tys Y9)[tt]? = some (Y9 t, .object E)) (hw1 : Cond.classLink Y.1.cls i E ∈ z_ws) (hn : n = nI N) (hN : N ≤ 60000) (hr : z_room M N) (d : decode Y.2.1 pc = .ok (.anewarray i, 3))
    (kk : z_Ext M (z_nwa M t N) → z_ki (z_nwa M t N) (z_sz M) = t → z_V G Y X M0 Q (z_nwa M t N) (pc + 3) lv (z_O (some (z_sz M)) :: st)) : z_V G Y X M0 Q M pc lv (z_I n :: st) := by
  intro p e R s m args below meth c9 C H locs ls hR hT hE hS hl
  have hC := C
  obtain ⟨C1, C2, C3, C4, C5, C6, C7, C8, C9, C10, C11, C12, C13, C14, C15, -⟩ := C
  have hr1 := hr.1
  have hr2 := hr.2
  have e2 := hE.2.1
  have e3 := hE.2.2.1
  have hN2 : N < 2 ^ 31 := by omega
  have hcl : (nI N).toNatClampNeg = N := nI_clamp hN2
  subst hn
  refine W.anew C1 C2 C5 (C6 _ hw1) (by rw [hEq]; exact va_AO.use (C11.over h22 h24)) rfl d rfl (nI_pos hN2) (by rw [hcl]; omega) (by omega) (by rw [hcl]; omega) fun cA kA comp f1 f2 f3 f4 => ?_
  rw [hcl]
  obtain ⟨kA9, comp9, q1, q2, q3, q4⟩ := (C9.2 tt _ (ht G.2.2.1)).2
  have hcA : cA = G.2.2.1 t := Option.some.inj (f1.symm.trans q4)
  subst hcA
  generalize hH1 : H.push ({ cls := G.2.2.1 t, slots := Array.replicate N .null, vm := .none } : Cell) = H1
  have z1 : H1.size = H.size + 1 := by rw [← hH1, Array.size_push]
  have g1 : H1[H.size]? = some (arrV (G.2.2.1 t) N (fun _ => .null)) := by rw [← hH1, Array.getElem?_push_size, ← arrV_new]
  have o1 : ∀ q : Nat, q < H.size → H1[q]? = H[q]? := fun q hq => by rw [← hH1, Array.getElem?_push, if_neg (Nat.ne_of_lt hq)]
  have hR1 : z_Rep G (z_nwa M t N) H1 := z_nwaR hR (by omega) (by omega) hr z1 g1 o1 (fun j => by rw [if_neg (by omega), if_neg (by omega)])
  exact z_nwaK hC hR hT hE hS hl hN2 (by omega) hr z1 o1 hR1 kk
theorem z_copyq {a : Nat} {r : Option Nat} {sp dp n : Int32} {ix : Nat} (hw1 : Cond.methodLink Y.1.cls ix arraycopyName ∈ z_ws) (hw2 : Cond.native arraycopyName ∈ z_ws) (hw3 : Cond.static arraycopyName ∈ z_ws) (hw4 : Cond.initialized "java/lang/System" ∈ z_ws) (ha : r = some a) (hki : z_ki M a = 22)
    (h1 : ¬ sp < 0) (h2 : ¬ dp < 0) (h3 : ¬ n < 0) (h4 : sp.toNatClampNeg + n.toNatClampNeg ≤ z_ln M a) (h5 : dp.toNatClampNeg + n.toNatClampNeg ≤ z_ln M a) (hst : z_cs st ≤ 8) (hf : 1 ≤ Y.2.2.2.2.1) (hlo : nativeFrameWords "java/lang/System" "arraycopy" 5 + 19 ≤ Y.2.2.2.2.2) (d : decode Y.2.1 pc = .ok (.invokestatic ix, 3))
    (kk : z_V G Y X M0 Q (z_srr M a (va_cpy (z_ar M a) (z_ar M a) sp.toNatClampNeg dp.toNatClampNeg n.toNatClampNeg)) (pc + 3) lv st) : z_V G Y X M0 Q M pc lv (z_I n :: z_I dp :: z_O r :: z_I sp :: z_O r :: st) := by
  subst ha
  intro p e R s m args below meth c9 C H locs ls hR hT hE hS hl T hT9 X9
  have hC := C
  obtain ⟨C1, C2, C3, C4, C5, C6, C7, C8, C9, C10, C11, C12, C13, C14, C15, -⟩ := C
  have hc := (hR.2.2.2 a).2.2.1 (by omega) (by omega)
  rw [hki] at hc
  have nn : ∀ z : Int32, ¬ z < 0 → z.toInt = (z.toNatClampNeg : Int) := by
    intro z hz
    have hz0 : (0 : Int) ≤ z.toInt := by
      have := Int32.not_lt.mp hz
      simpa using Int32.le_iff_toInt_le.mp this
    show z.toInt = ((z.toInt.toNat : Nat) : Int)
    omega
  obtain ⟨-, k0, hk0, cm0, hkk0⟩ := (C9.2 2 _ rfl).1 (z_ln M a) (fun j => va_rf (z_ar M a j))
  obtain ⟨kA, comp, r1, r2, r3, -⟩ := (C9.2 2 _ rfl).2
  have hcls := (C9.1 4 _ rfl).2
  have hcomp : comp = G.2.1.1 4 := Option.some.inj (r3.symm.trans hcls.1)
  subst hcomp
  obtain ⟨kC, hkC, -⟩ := hcls.2
  obtain ⟨vm', X', step⟩ := X9.arraycopy C1 C5 (C6 _ hw1) (C6 _ hw2) (C6 _ hw3) (C6 _ hw4) (src := a) (dst := a) (cs := arrV (G.2.2.1 22) (z_ln M a) (fun j => va_rf (z_ar M a j))) (cd := arrV (G.2.2.1 22) (z_ln M a) (fun j => va_rf (z_ar M a j))) (srcPos := sp) (destPos := dp) (n := n) (by rw [hT9]; exact hc) (by rw [hT9]; exact hc)
    (fun _ h => by cases h) (fun _ h => by cases h) (fun h => by cases h) (fun h => by cases h) r1 r1 r2 r2 rfl h1 h2 h3
    (by rw [nn sp h1, nn n h3, arrV_size]; omega) (by rw [nn dp h2, nn n h3, arrV_size]; omega)
    (fun vm₁ hal j hj => by
      have e9 : (arrV (G.2.2.1 22) (z_ln M a) (fun j => va_rf (z_ar M a j))).slots.getD (sp.toNatClampNeg + j) .null = va_rf (z_ar M a (sp.toNatClampNeg + j)) := by
        rw [Array.getD_eq_getD_getElem?, arrV_read _ _ (by omega)]
        rfl
      rw [e9]
      cases hy : z_ar M a (sp.toNatClampNeg + j) with
      | none => exact ⟨rfl, trivial⟩
      | some y =>
        have hky := hT.2.2.2.1 a _ y (by omega) (by omega) hy
        rw [hki] at hky
        obtain ⟨r', hr', cellV, g1, g2, g3, -⟩ := (hR.2.2.2 y).1 4 hky (by omega)
        obtain ⟨kC', hkC', -⟩ := hal.2.2 _ _ hkC
        refine ⟨rfl, cellV, (show T.heap[y]? = some cellV by rw [hT9]; exact g1), (fun q h => by rw [g3] at h; cases h), ⟨kC', by rw [g2]; exact hkC'⟩, ⟨kC', hkC'⟩, ?_⟩
        show vm₁.assignable _ _ = true
        rw [hal.assignable, g2]
        exact va_assign hcls)
    (g := F0 m pc ls ((z_I n :: z_I dp :: z_O (some a) :: z_I sp :: z_O (some a) :: st).map z_v)) rfl (by rw [C4]; exact hl.1) (rest := st.map z_v) rfl (by rw [C2]; exact d) (by omega) (by rw [z_cs_eq]; show 2 * 0 + _ + _ ≤ _; omega)
  have e1 : copied (arrV (G.2.2.1 22) (z_ln M a) (fun j => va_rf (z_ar M a j))) (arrV (G.2.2.1 22) (z_ln M a) (fun j => va_rf (z_ar M a j))) sp dp n = arrV (G.2.2.1 22) (z_ln M a) (fun j => va_rf (va_cpy (z_ar M a) (z_ar M a) sp.toNatClampNeg dp.toNatClampNeg n.toNatClampNeg j)) := va_copied va_rf _ _ _ _ h4
  rw [e1] at X' step
  have hlt : a < H.size := (Array.getElem?_eq_some_iff.mp hc).1
  generalize hH1 : H.setIfInBounds a (arrV (G.2.2.1 22) (z_ln M a) (fun j => va_rf (va_cpy (z_ar M a) (z_ar M a) sp.toNatClampNeg dp.toNatClampNeg n.toNatClampNeg j))) = H1
  have hheap : ((T.setVm vm').setCell a (arrV (G.2.2.1 22) (z_ln M a) (fun j => va_rf (va_cpy (z_ar M a) (z_ar M a) sp.toNatClampNeg dp.toNatClampNeg n.toNatClampNeg j)))).heap = H1 := by rw [← hH1, ← hT9]; rfl
  have oq : ∀ q : Nat, q ≠ a → H1[q]? = H[q]? := fun q hq => by rw [← hH1]; simp [Array.getElem?_setIfInBounds, Ne.symm hq]
  have g1 : H1[a]? = some (arrV (G.2.2.1 22) (z_ln M a) (fun j => va_rf (va_cpy (z_ar M a) (z_ar M a) sp.toNatClampNeg dp.toNatClampNeg n.toNatClampNeg j))) := by rw [← hH1]; simp [Array.getElem?_setIfInBounds, hlt]
  have zs : H1.size = H.size := by rw [← hH1]; simp
  generalize hf9 : va_cpy (z_ar M a) (z_ar M a) sp.toNatClampNeg dp.toNatClampNeg n.toNatClampNeg = f9 at *
  have har : z_ar (z_srr M a f9) a = f9 := by show (if a = a then f9 else _) = f9; exact if_pos rfl
  have hat : z_at G (z_srr M a f9) a H1 := z_atR (by rw [show z_ki (z_srr M a f9) a = 22 from hki]; omega) (by rw [show z_ki (z_srr M a f9) a = 22 from hki]; omega) (by rw [show z_ki (z_srr M a f9) a = 22 from hki, har]; exact g1)
  have hR1 : z_Rep G (z_srr M a f9) H1 := hR.upd zs (z_wg_set zs hc g1 (by rw [arrV_size, arrV_size]) oq) oq ⟨rfl, rfl, rfl⟩ (fun b hb => z_same_srr hb) hat
  have hT1 : z_WT (z_srr M a f9) := by
    obtain ⟨w1, w2, w3, w4, w5, w6⟩ := hT
    refine ⟨w1, w2, w3, fun b j t hb hb2 ht => ?_, w5, w6⟩
    have ht : (if b = a then f9 else z_ar M b) j = some t := ht
    by_cases e5 : b = a
    · rw [if_pos e5, ← hf9] at ht
      subst e5
      unfold va_cpy at ht
      split at ht
      · exact w4 b _ t hb hb2 ht
      · exact w4 b _ t hb hb2 ht
    · rw [if_neg e5] at ht
      exact w4 b j t hb hb2 ht
  have hE1 : z_Ext M (z_srr M a f9) := ⟨Nat.le_refl _, Nat.le_refl _, Nat.le_refl _, fun _ _ => ⟨rfl, rfl⟩⟩
  have hA9 : z_A M0 a := hE.sub a (Or.inl (by omega))
  obtain ⟨t, a1, b1⟩ := kk p e R s m args below meth c9 hC H1 _ ls hR1 hT1 (hE.trans hE1) ⟨by rw [zs]; exact hS.1, fun q g1 g2 => by
      rw [oq q (fun e => g2 (by rw [e]; exact hA9))]
      exact hS.2.1 q g1 g2, fun q hq => by
      rcases List.mem_append.mp hq with h | h
      · exact hS.2.2 q h
      · obtain ⟨z, -, hz⟩ := List.mem_map.mp h
        rw [← hz]
        exact hA9⟩ hl _ hheap X'
  exact ⟨t, step t a1, b1⟩
end ZN
