/-! ===== ROWS of arrays, of new cells ===== -/
/-- null is refused -/
def z_nn (r : Option Nat) (K : Nat → Prop) : Prop := ∃ a, r = some a ∧ K a
theorem z_nn_of {r : Option Nat} {K : Nat → Prop} {a : Nat} (h : r = some a) (k : K a) : z_nn r K := ⟨a, h, k⟩
section ZA
variable {G : z_G} {Y : z_Y} {X : z_X} {M0 M : z_Mem} {Q : z_Q} {pc : Nat} {lv : List (Nat × z_L)} {st : List z_L}
theorem z_tysI {U : State} {D : va_G} {Y9 : Nat → ClassId} (h : va_K D vwCl (z_tys Y9) U) : ArrOfT U (Y9 20) .int ∧ ArrOfT U (Y9 21) .boolean ∧ ArrOfT U (Y9 25) .long := ⟨(h.2 0 _ rfl).1, (h.2 1 _ rfl).1, (h.2 5 _ rfl).1⟩
theorem z_tysR {U : State} {D : va_G} {Y9 : Nat → ClassId} (h : va_K D vwCl (z_tys Y9) U) {k : Nat} (h1 : 22 ≤ k) (h2 : k ≤ 24) : ∃ t : Nat, t < 6 ∧ ∃ C : String, (z_tys Y9)[t]? = some (Y9 k, .object C) ∧ vwCl[z_ek k - 1]? = some (C, z_T (z_ek k - 1), z_N (z_ek k - 1)) := by
  rcases (show k = 22 ∨ k = 23 ∨ k = 24 by omega) with rfl | rfl | rfl
  · exact ⟨2, by omega, _, rfl, rfl⟩
  · exact ⟨3, by omega, _, rfl, rfl⟩
  · exact ⟨4, by omega, _, rfl, rfl⟩
theorem z_iald {a : Nat} {r : Option Nat} {i : Int32} (ha : r = some a) (hki : z_ki M a = 20) (hin : vp_in i (z_ln M a)) (d : decode Y.2.1 pc = .ok (.iaload, 1))
    (kk : z_V G Y X M0 Q M (pc + 1) lv (z_I (z_ai M a i.toNatClampNeg) :: st)) : z_V G Y X M0 Q M pc lv (z_I i :: z_O r :: st) := by
  subst ha
  intro p e R s m args below meth c9 C H locs ls hR hT hE hS hl
  have h := kk p e R s m args below meth c9 C H locs ls hR hT hE hS hl
  have hc := (hR.2.2.2 a).2.1 (Or.inl hki)
  have hlt : i.toNatClampNeg < z_ln M a := Nat.not_le.mp fun q => hin (Or.inr q)
  rw [hki] at hc
  exact W.iald (v := .int (z_ai M a i.toNatClampNeg)) C.1 C.2.1 hc ((z_tysI C.2.2.2.2.2.2.2.2.1).1 _ _) (fun q => by cases q) (by rw [arrV_size]; exact hin) (by rw [arrV_read _ _ hlt]) rfl rfl d h
theorem z_zald {a : Nat} {r : Option Nat} {i : Int32} (ha : r = some a) (hki : z_ki M a = 21) (hin : vp_in i (z_ln M a)) (d : decode Y.2.1 pc = .ok (.baload, 1))
    (kk : (z_ai M a i.toNatClampNeg = 0 ∨ z_ai M a i.toNatClampNeg = 1) → z_V G Y X M0 Q M (pc + 1) lv (z_I (z_ai M a i.toNatClampNeg) :: st)) : z_V G Y X M0 Q M pc lv (z_I i :: z_O r :: st) := by
  subst ha
  intro p e R s m args below meth c9 C H locs ls hR hT hE hS hl
  have h := kk (hT.2.2.2.2.1 a _ hki) p e R s m args below meth c9 C H locs ls hR hT hE hS hl
  have hc := (hR.2.2.2 a).2.1 (Or.inr hki)
  have hlt : i.toNatClampNeg < z_ln M a := Nat.not_le.mp fun q => hin (Or.inr q)
  rw [hki] at hc
  exact W.zald (v := .int (z_ai M a i.toNatClampNeg)) C.1 C.2.1 hc ((z_tysI C.2.2.2.2.2.2.2.2.1).2.1 _ _) (fun q => by cases q) (by rw [arrV_size]; exact hin) (by rw [arrV_read _ _ hlt]) rfl rfl d h
theorem z_lald {a : Nat} {r : Option Nat} {i : Int32} (ha : r = some a) (hki : z_ki M a = 25) (hin : vp_in i (z_ln M a)) (d : decode Y.2.1 pc = .ok (.laload, 1))
    (kk : z_V G Y X M0 Q M (pc + 1) lv (z_J (z_al M a i.toNatClampNeg) :: st)) : z_V G Y X M0 Q M pc lv (z_I i :: z_O r :: st) := by
  subst ha
  intro p e R s m args below meth c9 C H locs ls hR hT hE hS hl
  have h := kk p e R s m args below meth c9 C H locs ls hR hT hE hS hl
  have hc := (hR.2.2.2 a).2.2.2 hki
  have hlt : i.toNatClampNeg < z_ln M a := Nat.not_le.mp fun q => hin (Or.inr q)
  rw [hki] at hc
  exact va_lald (D := G.2.1) (cl := vwCl) (ws := [(a, .inl (G.2.2.1 25, z_ln M a, .inr (.inl (z_al M a))))]) C.1 C.2.1 C.2.2.2.2.2.2.2.2.1 (z_P1 hc) 0 5 rfl rfl hin d h
theorem z_aald {a t : Nat} {r : Option Nat} {i : Int32} (ha : r = some a) (hki : z_ki M a = t) (h1 : 22 ≤ t) (h2 : t ≤ 24) (hin : vp_in i (z_ln M a)) (d : decode Y.2.1 pc = .ok (.aaload, 1))
    (kk : z_tr M (z_ar M a i.toNatClampNeg) (z_ek t) → z_V G Y X M0 Q M (pc + 1) lv (z_O (z_ar M a i.toNatClampNeg) :: st)) : z_V G Y X M0 Q M pc lv (z_I i :: z_O r :: st) := by
  subst ha
  intro p e R s m args below meth c9 C H locs ls hR hT hE hS hl
  have h := kk (fun b hb => by have := hT.2.2.2.1 a _ b (by omega) (by omega) hb; rw [hki] at this; exact this) p e R s m args below meth c9 C H locs ls hR hT hE hS hl
  have hc := (hR.2.2.2 a).2.2.1 (by omega) (by omega)
  rw [hki] at hc
  obtain ⟨tt, -, Cn, ht, -⟩ := z_tysR C.2.2.2.2.2.2.2.2.1 h1 h2
  exact va_aldq (D := G.2.1) (cl := vwCl) (ws := [(a, .inl (G.2.2.1 t, z_ln M a, .inr (.inr (.inr (.inr (z_ar M a))))))]) C.1 C.2.1 C.2.2.2.2.2.2.2.2.1 (z_P1 hc) 0 tt rfl ht hin d h
theorem z_alen {a t : Nat} {r : Option Nat} (ha : r = some a) (hki : z_ki M a = t) (h1 : 20 ≤ t) (h2 : t ≤ 25) (d : decode Y.2.1 pc = .ok (.arraylength, 1))
    (kk : z_V G Y X M0 Q M (pc + 1) lv (z_I (nI (z_ln M a)) :: st)) : z_V G Y X M0 Q M pc lv (z_O r :: st) := by
  subst ha
  intro p e R s m args below meth c9 C H locs ls hR hT hE hS hl
  have h := kk p e R s m args below meth c9 C H locs ls hR hT hE hS hl
  have hK := C.2.2.2.2.2.2.2.2.1
  rcases (show t = 20 ∨ t = 21 ∨ t = 25 ∨ (22 ≤ t ∧ t ≤ 24) by omega) with rfl | rfl | rfl | ⟨h3, h4⟩
  · have hc := (hR.2.2.2 a).2.1 (Or.inl hki)
    rw [hki] at hc
    exact va_alen (D := G.2.1) (cl := vwCl) (ws := [(a, .inl (G.2.2.1 20, z_ln M a, .inl (z_ai M a)))]) C.1 C.2.1 hK (z_P1 hc) 0 0 rfl rfl rfl d h
  · have hc := (hR.2.2.2 a).2.1 (Or.inr hki)
    rw [hki] at hc
    exact va_alen (D := G.2.1) (cl := vwCl) (ws := [(a, .inl (G.2.2.1 21, z_ln M a, .inl (z_ai M a)))]) C.1 C.2.1 hK (z_P1 hc) 0 1 rfl rfl rfl d h
  · have hc := (hR.2.2.2 a).2.2.2 hki
    rw [hki] at hc
    exact va_alen (D := G.2.1) (cl := vwCl) (ws := [(a, .inl (G.2.2.1 25, z_ln M a, .inr (.inl (z_al M a))))]) C.1 C.2.1 hK (z_P1 hc) 0 5 rfl rfl rfl d h
  · have hc := (hR.2.2.2 a).2.2.1 (by omega) (by omega)
    rw [hki] at hc
    obtain ⟨tt, -, Cn, ht, -⟩ := z_tysR hK h3 h4
    exact va_alen (D := G.2.1) (cl := vwCl) (ws := [(a, .inl (G.2.2.1 t, z_ln M a, .inr (.inr (.inr (.inr (z_ar M a))))))]) C.1 C.2.1 hK (z_P1 hc) 0 tt rfl ht rfl d h
theorem z_setSize (cell : Cell) (i : Nat) (v : Value) : (cell.setSlot i v).slots.size = cell.slots.size := by simp [Cell.setSlot]
/-- behind a store into a row -/
theorem z_stored {M1 : z_Mem} {a : Nat} {H H1 : Heap} {c0 c1 : Cell} {locs : List Loc} {s : State} {i : Nat} (hR : z_Rep G M H) (hE : z_Ext M0 M) (hS : va_S (z_A M0) s.heap H locs) (h0 : H[a]? = some c0) (h1 : H1[a]? = some c1) (hz : c1.slots.size = c0.slots.size) (hs : H1.size = H.size) (ho : ∀ q : Nat, q ≠ a → H1[q]? = H[q]?)
    (hne : z_ki M a ≠ 0) (hb : ∀ b, b ≠ a → z_same M M1 b) (hm : z_ki M1 a = z_ki M a ∧ z_ln M1 a = z_ln M a ∧ z_sz M1 = z_sz M ∧ z_cl M1 = z_cl M ∧ z_sl M1 = z_sl M) (hat : z_at G M1 a H1) :
    z_Rep G M1 H1 ∧ z_Ext M0 M1 ∧ va_S (z_A M0) s.heap H1 (locs ++ [⟨a, i⟩]) := by
  refine ⟨hR.upd hs (z_wg_set hs h0 h1 hz ho) ho hm.2.2 hb hat, hE.trans ⟨by omega, by omega, by omega, fun b _ => ?_⟩, hS.put hs ho (hE.sub a (Or.inl hne))⟩
  by_cases e : b = a
  · subst e; exact ⟨hm.1, hm.2.1⟩
  · exact ⟨(hb b e).1, (hb b e).2.1⟩
theorem z_atI {M1 : z_Mem} {a : Nat} {H1 : Heap} (hki : z_ki M1 a = 20 ∨ z_ki M1 a = 21) (h : H1[a]? = some (arrV (G.2.2.1 (z_ki M1 a)) (z_ln M1 a) (fun j => .int (z_ai M1 a j)))) : z_at G M1 a H1 :=
  ⟨fun c hc hl => by omega, fun _ => h, fun h1 _ => by omega, fun h1 => by omega⟩
theorem z_atR {M1 : z_Mem} {a : Nat} {H1 : Heap} (h1 : 22 ≤ z_ki M1 a) (h2 : z_ki M1 a ≤ 24) (h : H1[a]? = some (arrV (G.2.2.1 (z_ki M1 a)) (z_ln M1 a) (fun j => va_rf (z_ar M1 a j)))) : z_at G M1 a H1 :=
  ⟨fun c hc hl => by omega, fun h3 => by omega, fun _ _ => h, fun h3 => by omega⟩
theorem z_atJ {M1 : z_Mem} {a : Nat} {H1 : Heap} (hki : z_ki M1 a = 25) (h : H1[a]? = some (arrV (G.2.2.1 (z_ki M1 a)) (z_ln M1 a) (fun j => .long (z_al M1 a j)))) : z_at G M1 a H1 :=
  ⟨fun c hc hl => by omega, fun h3 => by omega, fun h1 _ => by omega, fun _ => h⟩
theorem z_upV {α : Type} (f : Nat → Nat → α) (w : α → Value) (a i : Nat) (x : α) : updV (fun j => w (f a j)) i (w x) = fun j => w (z_up f a i x a j) := by
  funext j
  unfold updV z_up
  rw [if_pos rfl]
  split <;> rfl
theorem z_WT_sai {a j : Nat} {v : Int32} (hv : z_ki M a = 21 → v = 0 ∨ v = 1) (h : z_WT M) : z_WT (z_sai M a j v) := by
  obtain ⟨h1, h2, h3, h4, h5, h6⟩ := h
  refine ⟨h1, h2, h3, h4, fun b j' hb => ?_, h6⟩
  show z_up M.2.2.2.2.1 a j v b j' = 0 ∨ z_up M.2.2.2.2.1 a j v b j' = 1
  by_cases e : b = a ∧ j' = j
  · obtain ⟨rfl, rfl⟩ := e
    rw [z_up_s]
    exact hv hb
  · rw [z_up_n _ v (by
      by_cases e1 : b = a
      · exact Or.inr (fun e2 => e ⟨e1, e2⟩)
      · exact Or.inl e1)]
    exact h5 b j' hb
theorem z_WT_sar {a j : Nat} {v : Option Nat} (hv : ∀ b, v = some b → z_ki M b = z_ek (z_ki M a)) (h : z_WT M) : z_WT (z_sar M a j v) := by
  obtain ⟨h1, h2, h3, h4, h5, h6⟩ := h
  refine ⟨h1, h2, h3, fun b j' t hb hb2 ht => ?_, h5, h6⟩
  have ht : z_up M.2.2.2.2.2.1 a j v b j' = some t := ht
  by_cases e : b = a ∧ j' = j
  · obtain ⟨rfl, rfl⟩ := e
    rw [z_up_s] at ht
    exact hv t ht
  · rw [z_up_n _ v (by
      by_cases e1 : b = a
      · exact Or.inr (fun e2 => e ⟨e1, e2⟩)
      · exact Or.inl e1)] at ht
    exact h4 b j' t hb hb2 ht
theorem z_iast {a : Nat} {r : Option Nat} {i x : Int32} (ha : r = some a) (hki : z_ki M a = 20) (hin : vp_in i (z_ln M a)) (d : decode Y.2.1 pc = .ok (.iastore, 1))
    (kk : z_V G Y X M0 Q (z_sai M a i.toNatClampNeg x) (pc + 1) lv st) : z_V G Y X M0 Q M pc lv (z_I x :: z_I i :: z_O r :: st) := by
  subst ha
  intro p e R s m args below meth c9 C H locs ls hR hT hE hS hl
  have hc := (hR.2.2.2 a).2.1 (Or.inl hki)
  rw [hki] at hc
  refine W.iast C.1 C.2.1 hc ((z_tysI C.2.2.2.2.2.2.2.2.1).1 _ _) (fun q => by cases q) (by rw [arrV_size]; exact hin) rfl rfl d fun H1 e1 z oq => ?_
  have e2 := e1
  rw [arrV_store, z_upV (z_ai M) Value.int] at e2
  obtain ⟨r1, r2, r3⟩ := z_stored (M1 := z_sai M a i.toNatClampNeg x) (i := i.toNatClampNeg) hR hE hS hc e1 (z_setSize _ _ _) z oq (by omega) (fun b hb => z_same_sai hb) ⟨rfl, rfl, rfl, rfl, rfl⟩ (z_atI (Or.inl hki) (by rw [show z_ki (z_sai M a i.toNatClampNeg x) a = 20 from hki]; exact e2))
  exact kk p e R s m args below meth c9 C H1 _ ls r1 (z_WT_sai (fun h => by omega) hT) r2 r3 hl
theorem z_zast {a : Nat} {r : Option Nat} {i x : Int32} (ha : r = some a) (hki : z_ki M a = 21) (hin : vp_in i (z_ln M a)) (hx : x = 0 ∨ x = 1) (d : decode Y.2.1 pc = .ok (.bastore, 1))
    (kk : z_V G Y X M0 Q (z_sai M a i.toNatClampNeg x) (pc + 1) lv st) : z_V G Y X M0 Q M pc lv (z_I x :: z_I i :: z_O r :: st) := by
  subst ha
  intro p e R s m args below meth c9 C H locs ls hR hT hE hS hl
  have hc := (hR.2.2.2 a).2.1 (Or.inr hki)
  rw [hki] at hc
  refine W.zast C.1 C.2.1 hc ((z_tysI C.2.2.2.2.2.2.2.2.1).2.1 _ _) (fun q => by cases q) (by rw [arrV_size]; exact hin) rfl rfl d fun H1 e1 z oq => ?_
  have hnx : narrow .boolean (.int x) = .int x := by rcases hx with rfl | rfl <;> rfl
  rw [hnx] at e1
  have e2 := e1
  rw [arrV_store, z_upV (z_ai M) Value.int] at e2
  obtain ⟨r1, r2, r3⟩ := z_stored (M1 := z_sai M a i.toNatClampNeg x) (i := i.toNatClampNeg) hR hE hS hc e1 (z_setSize _ _ _) z oq (by omega) (fun b hb => z_same_sai hb) ⟨rfl, rfl, rfl, rfl, rfl⟩ (z_atI (Or.inr hki) (by rw [show z_ki (z_sai M a i.toNatClampNeg x) a = 21 from hki]; exact e2))
  exact kk p e R s m args below meth c9 C H1 _ ls r1 (z_WT_sai (fun _ => hx) hT) r2 r3 hl
theorem z_aast {a t : Nat} {r x : Option Nat} {i : Int32} (ha : r = some a) (hki : z_ki M a = t) (h1 : 22 ≤ t) (h2 : t ≤ 24) (hin : vp_in i (z_ln M a)) (hx : z_tr M x (z_ek t)) (d : decode Y.2.1 pc = .ok (.aastore, 1))
    (kk : z_V G Y X M0 Q (z_sar M a i.toNatClampNeg x) (pc + 1) lv st) : z_V G Y X M0 Q M pc lv (z_O x :: z_I i :: z_O r :: st) := by
  subst ha
  intro p e R s m args below meth c9 C H locs ls hR hT hE hS hl
  have hc := (hR.2.2.2 a).2.2.1 (by omega) (by omega)
  rw [hki] at hc
  have hK := C.2.2.2.2.2.2.2.2.1
  obtain ⟨tt, -, Cn, ht, hcl⟩ := z_tysR hK h1 h2
  have fin : ∀ H1 : Heap, H1[a]? = some ((arrV (G.2.2.1 t) (z_ln M a) (fun j => va_rf (z_ar M a j))).setSlot i.toNatClampNeg (va_rf x)) → H1.size = H.size → (∀ q, q ≠ a → H1[q]? = H[q]?) → W p G.1 e R s m args below meth c9 H1 (locs ++ [⟨a, i.toNatClampNeg⟩]) (z_cl M0 - z_cl M) (z_sl M0 - z_sl M) (Q below args s) (F0 m (pc + 1) ls (st.map z_v)) := by
    intro H1 e1 z oq
    have e2 := e1
    rw [arrV_store, z_upV (z_ar M) va_rf] at e2
    have hk1 : z_ki (z_sar M a i.toNatClampNeg x) a = t := hki
    obtain ⟨r1, r2, r3⟩ := z_stored (M1 := z_sar M a i.toNatClampNeg x) (i := i.toNatClampNeg) hR hE hS hc e1 (z_setSize _ _ _) z oq (by omega) (fun b hb => z_same_sar hb) ⟨rfl, rfl, rfl, rfl, rfl⟩ (z_atR (by omega) (by omega) (by rw [hk1]; exact e2))
    exact kk p e R s m args below meth c9 C H1 _ ls r1 (z_WT_sar (fun b hb => by rw [hki]; exact hx b hb) hT) r2 r3 hl
  have hlt : i.toNatClampNeg < z_ln M a := Nat.not_le.mp fun q => hin (Or.inr q)
  have h0 : ¬ i < 0 := fun q => hin (Or.inl q)
  cases x with
  | none =>
    refine va_WaastN (C := Cn) C.1 C.2.1 hc ((hK.2 tt _ ht).1 _ _) (fun q => by cases q) (by rw [arrV_size]; exact hin) rfl rfl d fun H1 e1 z oq => fin H1 e1 z oq
  | some v =>
    have hkv : z_ki M v = z_ek t - 1 + 1 := by
      have := hx v rfl
      have h9 : 5 ≤ z_ek t := by unfold z_ek; split <;> (try split) <;> omega
      omega
    have hek : z_ek t - 1 < 13 := by unfold z_ek; split <;> (try split) <;> omega
    obtain ⟨r', hr', cellV, g1, g2, g3, -⟩ := (hR.2.2.2 v).1 _ hkv hek
    have hr9 : r' = (Cn, z_T (z_ek t - 1), z_N (z_ek t - 1)) := Option.some.inj (hr'.symm.trans hcl)
    subst hr9
    have hcls := (hK.1 _ _ hcl).2
    obtain ⟨kA, comp, k1, k2, k3, -⟩ := (hK.2 tt _ ht).2
    have hcomp : comp = G.2.1.1 (z_ek t - 1) := Option.some.inj (k3.symm.trans hcls.1)
    subst hcomp
    obtain ⟨kC, hkC, -⟩ := hcls.2
    refine W.aast C.1 C.2.1 hc (fun q h => by cases h) (fun h => by cases h) k1 k2 rfl hkC ⟨h0, by rw [arrV_size]; exact hlt⟩ g1 (fun q h => by rw [g3] at h; cases h) (by rw [g2]; exact hkC) (by rw [g2]; exact va_assign hcls) rfl rfl d fun H1 e1 z oq => fin H1 e1 z oq
end ZA
