/-! ===== THE MEMORY: all cells of the class, of the reference and of the law as one value: kinds, lengths, fields by a number over all classes, rows; the heap's size, the room that is left ===== -/
abbrev z_Mem : Type := (Nat → Nat) × (Nat → Nat) × (Nat → Nat → Int32) × (Nat → Nat → Option Nat) × (Nat → Nat → Int32) × (Nat → Nat → Option Nat) × (Nat → Nat → Int64) × Nat × Nat × Nat
def z_ki (M : z_Mem) : Nat → Nat := M.1
def z_ln (M : z_Mem) : Nat → Nat := M.2.1
def z_fi (M : z_Mem) : Nat → Nat → Int32 := M.2.2.1
def z_fr (M : z_Mem) : Nat → Nat → Option Nat := M.2.2.2.1
def z_ai (M : z_Mem) : Nat → Nat → Int32 := M.2.2.2.2.1
def z_ar (M : z_Mem) : Nat → Nat → Option Nat := M.2.2.2.2.2.1
def z_al (M : z_Mem) : Nat → Nat → Int64 := M.2.2.2.2.2.2.1
def z_sz (M : z_Mem) : Nat := M.2.2.2.2.2.2.2.1
def z_cl (M : z_Mem) : Nat := M.2.2.2.2.2.2.2.2.1
def z_sl (M : z_Mem) : Nat := M.2.2.2.2.2.2.2.2.2
def z_up {α : Type} (f : Nat → Nat → α) (a b : Nat) (v : α) : Nat → Nat → α := fun x y => if x = a then (if y = b then v else f x y) else f x y
def z_sfi (M : z_Mem) (g a : Nat) (v : Int32) : z_Mem := (M.1, M.2.1, z_up M.2.2.1 g a v, M.2.2.2)
def z_sfr (M : z_Mem) (g a : Nat) (v : Option Nat) : z_Mem := (M.1, M.2.1, M.2.2.1, z_up M.2.2.2.1 g a v, M.2.2.2.2)
def z_sai (M : z_Mem) (a j : Nat) (v : Int32) : z_Mem := (M.1, M.2.1, M.2.2.1, M.2.2.2.1, z_up M.2.2.2.2.1 a j v, M.2.2.2.2.2)
def z_sar (M : z_Mem) (a j : Nat) (v : Option Nat) : z_Mem := (M.1, M.2.1, M.2.2.1, M.2.2.2.1, M.2.2.2.2.1, z_up M.2.2.2.2.2.1 a j v, M.2.2.2.2.2.2)
def z_sal (M : z_Mem) (a j : Nat) (v : Int64) : z_Mem := (M.1, M.2.1, M.2.2.1, M.2.2.2.1, M.2.2.2.2.1, M.2.2.2.2.2.1, z_up M.2.2.2.2.2.2.1 a j v, M.2.2.2.2.2.2.2)
/-- a whole row of references laid anew -/
def z_srr (M : z_Mem) (a : Nat) (f : Nat → Option Nat) : z_Mem := (M.1, M.2.1, M.2.2.1, M.2.2.2.1, M.2.2.2.2.1, (fun x => if x = a then f else M.2.2.2.2.2.1 x), M.2.2.2.2.2.2)
/-- a new object of kind k with n slots -/
def z_new (M : z_Mem) (k n : Nat) : z_Mem := (va_up M.1 M.2.2.2.2.2.2.2.1 k, M.2.1, (fun g x => if x = M.2.2.2.2.2.2.2.1 then 0 else M.2.2.1 g x), (fun g x => if x = M.2.2.2.2.2.2.2.1 then none else M.2.2.2.1 g x), M.2.2.2.2.1, M.2.2.2.2.2.1, M.2.2.2.2.2.2.1, M.2.2.2.2.2.2.2.1 + 1, M.2.2.2.2.2.2.2.2.1 - 1, M.2.2.2.2.2.2.2.2.2 - n)
/-- a new row of kind k and length n -/
def z_nwa (M : z_Mem) (k n : Nat) : z_Mem := (va_up M.1 M.2.2.2.2.2.2.2.1 k, va_up M.2.1 M.2.2.2.2.2.2.2.1 n, M.2.2.1, M.2.2.2.1, (fun x j => if x = M.2.2.2.2.2.2.2.1 then 0 else M.2.2.2.2.1 x j), (fun x j => if x = M.2.2.2.2.2.2.2.1 then none else M.2.2.2.2.2.1 x j), (fun x j => if x = M.2.2.2.2.2.2.2.1 then 0 else M.2.2.2.2.2.2.1 x j), M.2.2.2.2.2.2.2.1 + 1, M.2.2.2.2.2.2.2.2.1 - 1, M.2.2.2.2.2.2.2.2.2 - n)
/-- k new cells of n slots that are nobody's (an exception) -/
def z_exc (M : z_Mem) (k n : Nat) : z_Mem := (M.1, M.2.1, M.2.2.1, M.2.2.2.1, M.2.2.2.2.1, M.2.2.2.2.2.1, M.2.2.2.2.2.2.1, M.2.2.2.2.2.2.2.1 + k, M.2.2.2.2.2.2.2.2.1 - k, M.2.2.2.2.2.2.2.2.2 - n)
/-! values of locals and of the stack -/
abbrev z_L : Type := Int32 ⊕ Option Nat ⊕ Int64
abbrev z_I (x : Int32) : z_L := .inl x
abbrev z_O (r : Option Nat) : z_L := .inr (.inl r)
abbrev z_J (x : Int64) : z_L := .inr (.inr x)
def z_v : z_L → Value
  | .inl x => .int x
  | .inr (.inl r) => va_rf r
  | .inr (.inr x) => .long x
def z_isJ : z_L → Bool
  | .inl _ => false
  | .inr (.inl _) => false
  | .inr (.inr _) => true
theorem z_catO (r : Option Nat) : (va_rf r).category = 1 := by cases r <;> rfl
theorem z_catJ (x : z_L) : ((z_v x).category == 2) = z_isJ x := by
  rcases x with x | r | x
  · rfl
  · show ((va_rf r).category == 2) = false
    rw [z_catO]; rfl
  · rfl
def z_cs : List z_L → Nat
  | [] => 0
  | .inl _ :: l => 1 + z_cs l
  | .inr (.inl _) :: l => 1 + z_cs l
  | .inr (.inr _) :: l => 2 + z_cs l
theorem z_cs_eq (l : List z_L) : ((l.map z_v).map fun v => v.category).sum = z_cs l := by
  induction l with
  | nil => rfl
  | cons x l ih =>
    rw [List.map_cons, List.map_cons, List.sum_cons, ih]
    rcases x with x | r | x
    · rfl
    · show (va_rf r).category + z_cs l = 1 + z_cs l
      rw [z_catO]
    · rfl
abbrev z_lv (l : List (Nat × z_L)) : List (Nat × Value) := l.map fun q => (q.1, z_v q.2)
def z_lh (ls : Array Slot) (n : Nat) (l : List (Nat × z_L)) : Prop := lv_has ls n (z_lv l)
theorem z_lh_at {ls : Array Slot} {n : Nat} {l : List (Nat × z_L)} (h : z_lh ls n l) (j : Nat) {i : Nat} {x : z_L} (hj : l[j]? = some (i, x)) : ls[i]? = some (.val (z_v x)) :=
  lv_at h j (by rw [List.getElem?_map, hj]; rfl)
def z_st (l : List (Nat × z_L)) (i : Nat) (x : z_L) : List (Nat × z_L) := (i, x) :: l.filter (fun q => !(q.1 == i) && !(q.1 + 1 == i && z_isJ q.2))
def z_stJ (l : List (Nat × z_L)) (i : Nat) (x : z_L) : List (Nat × z_L) := (i, x) :: l.filter (fun q => !(q.1 == i) && (!(q.1 == i + 1) && !(q.1 + 1 == i && z_isJ q.2)))
theorem z_st_eq (l : List (Nat × z_L)) (i : Nat) (x : z_L) : (i, z_v x) :: (z_lv l).filter (fun q => !(q.1 == i) && !(q.1 + 1 == i && q.2.category == 2)) = z_lv (z_st l i x) := by
  show _ = (i, z_v x) :: z_lv _
  congr 1
  rw [z_lv, List.filter_map]
  congr 1
  apply List.filter_congr
  intro q _
  show (!(q.1 == i) && !(q.1 + 1 == i && (z_v q.2).category == 2)) = _
  rw [z_catJ]
theorem z_stJ_eq (l : List (Nat × z_L)) (i : Nat) (x : z_L) : (i, z_v x) :: (z_lv l).filter (fun q => !(q.1 == i) && (!(q.1 == i + 1) && !(q.1 + 1 == i && q.2.category == 2))) = z_lv (z_stJ l i x) := by
  show _ = (i, z_v x) :: z_lv _
  congr 1
  rw [z_lv, List.filter_map]
  congr 1
  apply List.filter_congr
  intro q _
  show (!(q.1 == i) && (!(q.1 == i + 1) && !(q.1 + 1 == i && (z_v q.2).category == 2))) = _
  rw [z_catJ]
def z_pick (l : List (Nat × z_L)) (ks : List Nat) : List (Nat × z_L) := ks.filterMap (fun k => l[k]?)
theorem z_lh_sub {ls : Array Slot} {n : Nat} {l l' : List (Nat × z_L)} (h : z_lh ls n l) (ks : List Nat) (hl : z_pick l ks = l') : z_lh ls n l' := by
  refine lv_sub h ks ?_
  subst hl
  show ks.filterMap _ = List.map _ (ks.filterMap _)
  rw [List.map_filterMap]
  congr 1
  funext k
  rw [List.getElem?_map]
/-- the locals with which a method begins -/
def z_ent : Nat → List z_L → List (Nat × z_L)
  | _, [] => []
  | i, x :: l => (i, x) :: z_ent (if z_isJ x then i + 2 else i + 1) l
theorem z_ent_eq (l : List z_L) : ∀ i : Nat, lv_args i (l.map z_v) = z_lv (z_ent i l) := by
  induction l with
  | nil => intro i; rfl
  | cons x l ih =>
    intro i
    show (i, z_v x) :: lv_args (if (z_v x).category = 2 then i + 2 else i + 1) (l.map z_v) = (i, z_v x) :: z_lv (z_ent (if z_isJ x then i + 2 else i + 1) l)
    have e : (if (z_v x).category = 2 then i + 2 else i + 1) = (if z_isJ x then i + 2 else i + 1) := by
      have h := z_catJ x
      by_cases hJ : z_isJ x = true
      · rw [hJ] at h
        rw [if_pos (show (z_v x).category = 2 by simpa using h), if_pos hJ]
      · rw [Bool.not_eq_true] at hJ
        rw [hJ] at h
        rw [if_neg (show ¬ (z_v x).category = 2 by simpa using h), if_neg (by rw [hJ]; decide)]
    rw [e, ih]
theorem z_len (l : List z_L) : (lg_sl (l.map z_v)).length = z_cs l := by
  induction l with
  | nil => rfl
  | cons x l ih =>
    rcases x with x | r | x
    · show (lg_sl (Value.int x :: l.map z_v)).length = 1 + z_cs l
      rw [← ih]; simp [lg_sl, Value.category]; omega
    · show (lg_sl (va_rf r :: l.map z_v)).length = 1 + z_cs l
      rw [← ih]; simp [lg_sl, z_catO]; omega
    · show (lg_sl (Value.long x :: l.map z_v)).length = 2 + z_cs l
      rw [← ih]; simp [lg_sl, Value.category]; omega
/-! ===== what a heap holds ===== -/
/-- launch, classes' numbers and slots, rows' classes, cells in all, slots in all -/
abbrev z_G : Type := Launch × va_G × (Nat → ClassId) × Nat × Nat
def z_val (M : z_Mem) (c a k : Nat) : Value := if z_fk c k < 2 then .int (z_fi M (128 * c + k) a) else va_rf (z_fr M (128 * c + k) a)
def z_fs (M : z_Mem) (c a : Nat) : List Value := (List.range (z_N c)).map (z_val M c a)
def z_at (G : z_G) (M : z_Mem) (a : Nat) (H : Heap) : Prop :=
  (∀ c, z_ki M a = c + 1 → c < 13 → va_at G.2.1 vwCl (a, .inr (c, z_fs M c a)) H) ∧
  (z_ki M a = 20 ∨ z_ki M a = 21 → H[a]? = some (arrV (G.2.2.1 (z_ki M a)) (z_ln M a) (fun j => .int (z_ai M a j)))) ∧
  (22 ≤ z_ki M a → z_ki M a ≤ 24 → H[a]? = some (arrV (G.2.2.1 (z_ki M a)) (z_ln M a) (fun j => va_rf (z_ar M a j)))) ∧
  (z_ki M a = 25 → H[a]? = some (arrV (G.2.2.1 (z_ki M a)) (z_ln M a) (fun j => .long (z_al M a j))))
def z_wg (H : Heap) : Nat := (H.toList.map (fun c => c.slots.size)).sum
def z_Rep (G : z_G) (M : z_Mem) (H : Heap) : Prop := H.size = z_sz M ∧ z_sz M + z_cl M = G.2.2.2.1 ∧ z_wg H + z_sl M = G.2.2.2.2 ∧ ∀ a, z_at G M a H
def z_ek (k : Nat) : Nat := if k = 22 then 5 else if k = 23 then 7 else 10
def z_WT (M : z_Mem) : Prop :=
  (∀ a, z_ki M a ≠ 0 → a < z_sz M) ∧
  (∀ a c k b, z_ki M a = c + 1 → c < 13 → k < z_N c → 2 ≤ z_fk c k → z_fr M (128 * c + k) a = some b → z_ki M b + 2 = z_fk c k) ∧
  (∀ a c k, z_ki M a = c + 1 → c < 13 → k < z_N c → z_fk c k = 1 → z_fi M (128 * c + k) a = 0 ∨ z_fi M (128 * c + k) a = 1) ∧
  (∀ a j b, 22 ≤ z_ki M a → z_ki M a ≤ 24 → z_ar M a j = some b → z_ki M b = z_ek (z_ki M a)) ∧
  (∀ a j, z_ki M a = 21 → z_ai M a j = 0 ∨ z_ai M a j = 1) ∧
  (∀ a, z_ln M a < 2 ^ 31)
def z_Ext (M M1 : z_Mem) : Prop := z_sz M ≤ z_sz M1 ∧ z_cl M1 ≤ z_cl M ∧ z_sl M1 ≤ z_sl M ∧ ∀ a, a < z_sz M → z_ki M1 a = z_ki M a ∧ z_ln M1 a = z_ln M a
def z_A (M : z_Mem) : Nat → Prop := fun q => z_ki M q ≠ 0 ∨ z_sz M ≤ q
/-- a reference's kind -/
def z_tr (M : z_Mem) (r : Option Nat) (k : Nat) : Prop := ∀ b, r = some b → z_ki M b = k
theorem z_Ext.rf (M : z_Mem) : z_Ext M M := ⟨Nat.le_refl _, Nat.le_refl _, Nat.le_refl _, fun _ _ => ⟨rfl, rfl⟩⟩
theorem z_Ext.trans {M M1 M2 : z_Mem} (h : z_Ext M M1) (h2 : z_Ext M1 M2) : z_Ext M M2 :=
  ⟨Nat.le_trans h.1 h2.1, Nat.le_trans h2.2.1 h.2.1, Nat.le_trans h2.2.2.1 h.2.2.1, fun a ha => ⟨(h2.2.2.2 a (Nat.lt_of_lt_of_le ha h.1)).1.trans (h.2.2.2 a ha).1, (h2.2.2.2 a (Nat.lt_of_lt_of_le ha h.1)).2.trans (h.2.2.2 a ha).2⟩⟩
theorem z_Ext.sub {M M1 : z_Mem} (h : z_Ext M M1) : ∀ q, z_A M1 q → z_A M q := by
  intro q hq
  by_cases hl : q < z_sz M
  · rcases hq with h1 | h1
    · exact Or.inl (by rw [← (h.2.2.2 q hl).1]; exact h1)
    · exact absurd hl (Nat.not_lt.mpr (Nat.le_trans h.1 h1))
  · exact Or.inr (Nat.not_lt.mp hl)
/-- kinds and lengths stay -/
theorem z_Ext.k {M M1 : z_Mem} (h : z_Ext M M1) (hT : z_WT M) {a k : Nat} (hk : z_ki M a = k + 1) : z_ki M1 a = k + 1 := by
  rw [(h.2.2.2 a (hT.1 a (by omega))).1]; exact hk
theorem z_Ext.n {M M1 : z_Mem} (h : z_Ext M M1) (hT : z_WT M) {a k : Nat} (hk : z_ki M a = k + 1) : z_ln M1 a = z_ln M a := (h.2.2.2 a (hT.1 a (by omega))).2
theorem z_Ext.t {M M1 : z_Mem} (h : z_Ext M M1) (hT : z_WT M) {r : Option Nat} {k : Nat} (hk : z_tr M r (k + 1)) : z_tr M1 r (k + 1) := fun b hb => h.k hT (hk b hb)
/-! the throwables' statics and the texts, as a throw needs them -/
def z_St (A : Nat → Prop) (U : State) (H : Heap) : Prop := vx_Zq Bundle.tN "UNASSIGNED_STACK" Bundle.steD A U H ∧ vx_Zq Bundle.tN "SUPPRESSED_SENTINEL" Bundle.listD A U H ∧
  ∃ f : Nat → Nat, vk_R "Tidewater" 303 "there is no such path" (f 0) U ∧ vk_R "Tidewater" 309 "a value is out of range" (f 1) U ∧ vk_R "Tidewater" 305 "there is no such stream" (f 2) U ∧ vk_R "Tidewater" 314 "that is not possible now" (f 3) U ∧ vk_R "Tidewater" 298 "there is no such packet" (f 4) U ∧
  (∀ q ∈ z_nest, va_Nw (.methodLinkNest q.1 q.2.1 q.2.2.1 q.2.2.2) U) ∧ va_AO "Tidewater$Message" U ∧ va_AO "Tidewater$Packet" U ∧ va_AO "Tidewater$Stream" U ∧
  (∀ E ∈ z_exs, va_Nw (.castable E E) U) ∧ (∀ y ∈ z_dec, va_Nw (.declares y) U) ∧ (∀ E ∈ z_exs, ∀ F ∈ z_exs, E ≠ F → va_Nc E F U)
theorem z_St.moved {A B : Nat → Prop} {s U : State} {H H1 : Heap} (h : z_St A s H) (hW : s.WarmedH U.vm) (hq : ∀ a : Nat, a < H.size → ¬ A a → H1[a]? = H[a]?) (hs : ∀ q, B q → A q) : z_St B U H1 := by
  obtain ⟨h1, h2, f, h3, h4, h5, h6, h7, h8, h9, h10, h11, h12, h13, h14⟩ := h
  exact ⟨((vx_Zq.moved hW.alike h1).kept hq).narrow hs, ((vx_Zq.moved hW.alike h2).kept hq).narrow hs, f, h3.warm hW, h4.warm hW, h5.warm hW, h6.warm hW, h7.warm hW, fun q hq => va_Nw.warmM hW (h8 q hq), va_AO.moved hW.alike h9, va_AO.moved hW.alike h10, va_AO.moved hW.alike h11, fun E hE => va_Nw.warmC hW (h12 E hE), fun y hy => va_Nw.warmD hW (h13 y hy), fun E hE F hF hne => va_Nc.moved hW.alike (h14 E hE F hF hne)⟩
theorem z_St.nest {A : Nat → Prop} {U : State} {H : Heap} (h : z_St A U H) {a : String} {i : Nat} {y : MethodName} {b : String} (hq : (a, i, y, b) ∈ z_nest) : va_Nw (.methodLinkNest a i y b) U := by
  obtain ⟨-, -, f, -, -, -, -, -, h8, -⟩ := h
  exact h8 _ hq
theorem z_St.over {A : Nat → Prop} {U : State} {H : Heap} (h : z_St A U H) {t : Nat} (h1 : 22 ≤ t) (h2 : t ≤ 24) : va_AO (z_R (z_ek t - 1)) U := by
  obtain ⟨-, -, f, -, -, -, -, -, -, h9, h10, h11, -⟩ := h
  rcases (show t = 22 ∨ t = 23 ∨ t = 24 by omega) with rfl | rfl | rfl
  · exact h9
  · exact h10
  · exact h11
/-! ===== weights ===== -/
theorem z_wg_same {H H1 : Heap} (hs : H1.size = H.size) (hq : ∀ q : Nat, (H1[q]?).map (fun c => c.slots.size) = (H[q]?).map (fun c => c.slots.size)) : z_wg H1 = z_wg H := by
  unfold z_wg
  congr 1
  apply List.ext_getElem?
  intro i
  rw [List.getElem?_map, List.getElem?_map, Array.getElem?_toList, Array.getElem?_toList]
  exact hq i
theorem z_wg_set {H H1 : Heap} {a : Nat} {c0 c1 : Cell} (hs : H1.size = H.size) (h0 : H[a]? = some c0) (h1 : H1[a]? = some c1) (hz : c1.slots.size = c0.slots.size) (ho : ∀ q : Nat, q ≠ a → H1[q]? = H[q]?) : z_wg H1 = z_wg H := by
  refine z_wg_same hs fun q => ?_
  by_cases e : q = a
  · subst e
    rw [h0, h1]
    exact congrArg some hz
  · rw [ho q e]
theorem z_wg_push {H H1 : Heap} {c1 : Cell} (hs : H1.size = H.size + 1) (h1 : H1[H.size]? = some c1) (ho : ∀ q : Nat, q < H.size → H1[q]? = H[q]?) : z_wg H1 = z_wg H + c1.slots.size := by
  have e : H1.toList = H.toList ++ [c1] := by
    apply List.ext_getElem?
    intro i
    rw [Array.getElem?_toList]
    by_cases hi : i < H.size
    · rw [ho i hi, List.getElem?_append_left (by rw [Array.length_toList]; exact hi), Array.getElem?_toList]
    · rw [List.getElem?_append_right (by rw [Array.length_toList]; omega), Array.length_toList]
      by_cases h2 : i = H.size
      · subst h2
        rw [h1, Nat.sub_self]; rfl
      · rw [Array.getElem?_eq_none (by omega), List.getElem?_eq_none (by simp; omega)]
  unfold z_wg
  rw [e, List.map_append, List.sum_append]
  rfl
theorem z_wg_drop {H0 H : Heap} (hs : H0.size ≤ H.size) (hc : ∀ (a : Nat) (c : Cell), H0[a]? = some c → ∃ c', H[a]? = some c' ∧ c'.slots.size = c.slots.size) : z_wg H = z_wg H0 + ((H.toList.drop H0.size).map (fun c => c.slots.size)).sum := by
  unfold z_wg
  have e : (H.toList.take H0.size).map (fun c : Cell => c.slots.size) = H0.toList.map (fun c => c.slots.size) := by
    apply List.ext_getElem?
    intro i
    have t1 : H0.toList[i]? = H0[i]? := by simp
    have t2 : H.toList[i]? = H[i]? := by simp
    rw [List.getElem?_map, List.getElem?_map, t1]
    by_cases hi : i < H0.size
    · rw [List.getElem?_take_of_lt hi, t2]
      obtain ⟨c', h1, h2⟩ := hc i H0[i] (Array.getElem?_eq_getElem hi)
      rw [h1, Array.getElem?_eq_getElem hi]
      exact congrArg some h2
    · have t3 : (H.toList.take H0.size)[i]? = none := List.getElem?_eq_none (by rw [List.length_take]; omega)
      have t4 : H0[i]? = none := Array.getElem?_eq_none (by omega)
      rw [t3, t4]
  rw [← e, ← List.sum_append, ← List.map_append, List.take_append_drop]
/-- behind a call: the cells that are new, counted -/
theorem z_tight {p : Program} {l : Launch} {e : Env} {R : Room} {s : State} {m : MethodId} {args : Array Value} {below : List Frame} {meth : Method} {c : Code} {T : State} {locs : List Loc} {cells slots k n : Nat}
    (X : Stand p l e R s m args below meth c T locs cells slots) (hk : T.heap.size = s.heap.size + k) (hn : z_wg T.heap = z_wg s.heap + n) : Stand p l e R s m args below meth c T locs k n := by
  obtain ⟨h1, h2, h3, h4, h5, h6⟩ := X.same
  have hh : (T.setVm s.vm).heap = T.heap := rfl
  refine { X with same := ⟨h1, h2, by rw [hh]; omega, h4, ?_, h6⟩ }
  have hw := z_wg_drop (H0 := s.heap) (H := T.heap) h2 (fun a c hc => by
    obtain ⟨c', g1, -, g3, -⟩ := h6 a c hc
    exact ⟨c', g1, g3⟩)
  rw [hh]
  have e : ((T.heap.toList.drop s.heap.size).map (fun c => c.slots.size)).sum = ((T.heap.toList.drop s.heap.size).map (·.slots.size)).sum := rfl
  omega
/-! ===== a method's body over the memory ===== -/
/-- a method: its name, bytes, locals, what it returns, the frames and the locals' room that its calls need -/
abbrev z_Y : Type := MethodName × ByteArray × Nat × Option FieldType × Nat × Nat
abbrev z_tys (Y : Nat → ClassId) : List (ClassId × FieldType) := [(Y 20, .int), (Y 21, .boolean), (Y 22, .object "Tidewater$Message"), (Y 23, .object "Tidewater$Packet"), (Y 24, .object "Tidewater$Stream"), (Y 25, .long)]
abbrev z_Q : Type := List Frame → Array Value → State → State → Prop
abbrev z_X : Type := Array Value → State → Code → Prop
def z_Cx (G : z_G) (Y : z_Y) (X : z_X) (M0 : z_Mem) (p : Program) (R : Room) (s : State) (m : MethodId) (args : Array Value) (meth : Method) (c : Code) : Prop :=
  p.tables.exec = Jvm.exec ∧ c.code = Y.2.1 ∧ meth.sig.returnType = Y.2.2.2.1 ∧ c.maxLocals = Y.2.2.1 ∧ s.vm.findClass Y.1.cls = some m.cls ∧ (∀ w ∈ z_ws, w.before args s = true) ∧ meth.locks = false ∧ (Y.1.name = "<init>" → meth.name = Y.1.name) ∧
  va_K G.2.1 vwCl (z_tys G.2.2.1) s ∧ z_Rep G M0 s.heap ∧ z_St (z_A M0) s s.heap ∧ Y.2.2.2.2.1 ≤ R.frames ∧ Y.2.2.2.2.2 ≤ R.locals ∧ R.cells = z_cl M0 ∧ R.slots = z_sl M0 ∧ X args s c
def z_V (G : z_G) (Y : z_Y) (X : z_X) (M0 : z_Mem) (Q : z_Q) (M : z_Mem) (pc : Nat) (lv : List (Nat × z_L)) (st : List z_L) : Prop :=
  ∀ (p : Program) (e : Env) (R : Room) (s : State) (m : MethodId) (args : Array Value) (below : List Frame) (meth : Method) (c : Code), z_Cx G Y X M0 p R s m args meth c →
  ∀ (H : Heap) (locs : List Loc) (ls : Array Slot), z_Rep G M H → z_WT M → z_Ext M0 M → va_S (z_A M0) s.heap H locs → z_lh ls Y.2.2.1 lv →
  W p G.1 e R s m args below meth c H locs (z_cl M0 - z_cl M) (z_sl M0 - z_sl M) (Q below args s) (F0 m pc ls (st.map z_v))
def z_Qc (G : z_G) (M0 : z_Mem) (Post : Option z_L → z_Mem → Prop) : Array Value → State → Outcome → State → Prop := fun _ st o t =>
  (∃ (r : Option z_L) (M1 : z_Mem), o = .returned (r.map z_v) ∧ Post r M1 ∧ z_WT M1 ∧ z_Ext M0 M1 ∧ z_Rep G M1 t.heap) ∧ va_F (z_A M0) st t
def z_Pc (G : z_G) (M0 : z_Mem) (av : List z_L) : Array Value → State → Prop := fun v U =>
  v = (av.map z_v).toArray ∧ z_Rep G M0 U.heap ∧ va_K G.2.1 vwCl (z_tys G.2.2.1) U ∧ z_St (z_A M0) U U.heap
abbrev z_wy (Y : z_Y) : List Cond := Cond.code Y.1 Y.2.1 Y.2.2.1 Y.2.2.2.1 :: z_ws
abbrev z_rm (Y : z_Y) (M0 : z_Mem) : Room := { frames := Y.2.2.2.2.1, cells := z_cl M0, slots := z_sl M0, locals := Y.2.2.2.2.2 }
/-- a method's contract: from the memory M0 with the arguments av it returns so that Post holds -/
def z_Mt (G : z_G) (Y : z_Y) (M0 : z_Mem) (av : List z_L) (Post : Option z_L → z_Mem → Prop) : Prop :=
  z_WT M0 → Met G.1 Y.1 (z_wy Y) (z_rm Y M0) (z_Pc G M0 av) (z_Qc G M0 Post) (z_cl M0) (z_sl M0) (z_A M0)
def z_QM (G : z_G) (M0 : z_Mem) (Post : Option z_L → z_Mem → Prop) : z_Q := fun below args s => MQ below (z_Qc G M0 Post) args s (z_cl M0) (z_sl M0) (z_A M0)
abbrev z_X0 : z_X := fun _ _ _ => True
theorem z_ofV {G : z_G} {Y : z_Y} {M0 : z_Mem} {av : List z_L} {Post : Option z_L → z_Mem → Prop} (hy : plainName Y.1.cls = true) (hn : z_cs av ≤ Y.2.2.1) (k : z_V G Y z_X0 M0 (z_QM G M0 Post) M0 0 (z_ent 0 av) []) : z_Mt G Y M0 av Post := by
  intro hT
  refine Met.ofW (cc := Y.2.1) (maxL := Y.2.2.1) (ret := Y.2.2.2.1) hy rfl ?_
  intro p e s m args below meth c s₁ B hml hv
  obtain ⟨rfl, hR, hK, hS⟩ := hv
  have hts := atoms_spec (ws := z_wy Y) B.pre
  have hl := lv_entry (av.map z_v) (n := Y.2.2.1) (by rw [z_len]; exact hn)
  rw [lg_entry_eq]
  generalize (lg_sl (av.map z_v) ++ List.replicate (Y.2.2.1 - (lg_sl (av.map z_v)).length) Slot.unset).toArray = ls at hl ⊢
  rw [z_ent_eq] at hl
  have h := k p e (z_rm Y M0) s m (av.map z_v).toArray below meth c ⟨B.exec, B.bytes, B.returns, hml, findClass_of_methodNamed B.named, fun w hw => hts w (List.mem_cons_of_mem _ hw), B.notSynchronized, fun _ => (name_of_methodNamed B.named B.method).1, hK, hR, hS, Nat.le_refl _, Nat.le_refl _, rfl, rfl, trivial⟩ s.heap [] ls hR hT (z_Ext.rf _) va_S.rf hl
  rw [Nat.sub_self, Nat.sub_self] at h
  exact h
theorem z_cat1 {x : z_L} (h : z_isJ x = false) : (z_v x).category = 1 := by
  have h2 := z_catJ x
  rw [h] at h2
  rcases lv_cat (z_v x) with h3 | h3
  · exact h3
  · rw [h3] at h2; cases h2
/-! ===== ROWS: a row an instruction ===== -/
section ZR
variable {G : z_G} {Y : z_Y} {X : z_X} {M0 M : z_Mem} {Q : z_Q} {pc : Nat} {lv : List (Nat × z_L)} {st : List z_L}
theorem z_iconst {n : Int} {v : Int32} (d : decode Y.2.1 pc = .ok (.iconst n, 1)) (hv : Int32.ofInt n = v) (k : z_V G Y X M0 Q M (pc + 1) lv (z_I v :: st)) : z_V G Y X M0 Q M (pc) lv (st) :=
  fun p e R s m args below meth c C H locs ls hR hT hE hS hl => lv_iconst C.1 C.2.1 d hv (k p e R s m args below meth c C H locs ls hR hT hE hS hl)
theorem z_bipush {n : Int} {v : Int32} (d : decode Y.2.1 pc = .ok (.bipush n, 2)) (hv : (Int8.ofInt n).toInt32 = v) (k : z_V G Y X M0 Q M (pc + 2) lv (z_I v :: st)) : z_V G Y X M0 Q M (pc) lv (st) :=
  fun p e R s m args below meth c C H locs ls hR hT hE hS hl => lv_bipush C.1 C.2.1 d hv (k p e R s m args below meth c C H locs ls hR hT hE hS hl)
theorem z_sipush {n : Int} {v : Int32} (d : decode Y.2.1 pc = .ok (.sipush n, 3)) (hv : (Int16.ofInt n).toInt32 = v) (k : z_V G Y X M0 Q M (pc + 3) lv (z_I v :: st)) : z_V G Y X M0 Q M (pc) lv (st) :=
  fun p e R s m args below meth c C H locs ls hR hT hE hS hl => lv_sipush C.1 C.2.1 d hv (k p e R s m args below meth c C H locs ls hR hT hE hS hl)
theorem z_lconst {n : Fin 2} {v : Int64} (d : decode Y.2.1 pc = .ok (.lconst n, 1)) (hv : Int64.ofNat (n : Nat) = v) (k : z_V G Y X M0 Q M (pc + 1) lv (z_J v :: st)) : z_V G Y X M0 Q M (pc) lv (st) :=
  fun p e R s m args below meth c C H locs ls hR hT hE hS hl => lv_lconst C.1 C.2.1 d hv (k p e R s m args below meth c C H locs ls hR hT hE hS hl)
theorem z_ldc {i : Nat} {v : Int32} (hw : Cond.constant Y.1.cls i v ∈ z_ws) (d : decode Y.2.1 pc = .ok (.ldc i, 2)) (k : z_V G Y X M0 Q M (pc + 2) lv (z_I v :: st)) : z_V G Y X M0 Q M (pc) lv (st) :=
  fun p e R s m args below meth c C H locs ls hR hT hE hS hl => lv_ldc C.1 C.2.1 C.2.2.2.2.1 (C.2.2.2.2.2.1 _ hw) d (k p e R s m args below meth c C H locs ls hR hT hE hS hl)
theorem z_ldc2 {i : Nat} {v : Int64} (hw : Cond.constantLong Y.1.cls i v ∈ z_ws) (d : decode Y.2.1 pc = .ok (.ldc2_w i, 3)) (k : z_V G Y X M0 Q M (pc + 3) lv (z_J v :: st)) : z_V G Y X M0 Q M (pc) lv (st) :=
  fun p e R s m args below meth c C H locs ls hR hT hE hS hl => lv_ldc2 C.1 C.2.1 C.2.2.2.2.1 (C.2.2.2.2.2.1 _ hw) d (k p e R s m args below meth c C H locs ls hR hT hE hS hl)
theorem z_null (d : decode Y.2.1 pc = .ok (.aconst_null, 1)) (k : z_V G Y X M0 Q M (pc + 1) lv (z_O none :: st)) : z_V G Y X M0 Q M (pc) lv (st) :=
  fun p e R s m args below meth c C H locs ls hR hT hE hS hl => lv_null C.1 C.2.1 d (k p e R s m args below meth c C H locs ls hR hT hE hS hl)
theorem z_iload_n {q : Fin 4} {i : Nat} {x : Int32} (d : decode Y.2.1 pc = .ok (.iload_n q, 1)) (hi : (q : Nat) = i) (j : Nat) (hj : lv[j]? = some (i, z_I x)) (k : z_V G Y X M0 Q M (pc + 1) lv (z_I x :: st)) : z_V G Y X M0 Q M (pc) lv (st) :=
  fun p e R s m args below meth c C H locs ls hR hT hE hS hl => lv_iload_n C.1 C.2.1 d hi (z_lh_at hl j hj) (k p e R s m args below meth c C H locs ls hR hT hE hS hl)
theorem z_lload_n {q : Fin 4} {i : Nat} {x : Int64} (d : decode Y.2.1 pc = .ok (.lload_n q, 1)) (hi : (q : Nat) = i) (j : Nat) (hj : lv[j]? = some (i, z_J x)) (k : z_V G Y X M0 Q M (pc + 1) lv (z_J x :: st)) : z_V G Y X M0 Q M (pc) lv (st) :=
  fun p e R s m args below meth c C H locs ls hR hT hE hS hl => lv_lload_n C.1 C.2.1 d hi (z_lh_at hl j hj) (k p e R s m args below meth c C H locs ls hR hT hE hS hl)
theorem z_iload {i : Nat} {x : Int32} (d : decode Y.2.1 pc = .ok (.iload i, 2)) (j : Nat) (hj : lv[j]? = some (i, z_I x)) (k : z_V G Y X M0 Q M (pc + 2) lv (z_I x :: st)) : z_V G Y X M0 Q M (pc) lv (st) :=
  fun p e R s m args below meth c C H locs ls hR hT hE hS hl => lv_iload C.1 C.2.1 d (z_lh_at hl j hj) (k p e R s m args below meth c C H locs ls hR hT hE hS hl)
theorem z_lload {i : Nat} {x : Int64} (d : decode Y.2.1 pc = .ok (.lload i, 2)) (j : Nat) (hj : lv[j]? = some (i, z_J x)) (k : z_V G Y X M0 Q M (pc + 2) lv (z_J x :: st)) : z_V G Y X M0 Q M (pc) lv (st) :=
  fun p e R s m args below meth c C H locs ls hR hT hE hS hl => lv_lload C.1 C.2.1 d (z_lh_at hl j hj) (k p e R s m args below meth c C H locs ls hR hT hE hS hl)
theorem z_aload_n {q : Fin 4} {i : Nat} {r : Option Nat} (d : decode Y.2.1 pc = .ok (.aload_n q, 1)) (hi : (q : Nat) = i) (j : Nat) (hj : lv[j]? = some (i, z_O r)) (k : z_V G Y X M0 Q M (pc + 1) lv (z_O r :: st)) : z_V G Y X M0 Q M (pc) lv (st) := by
  intro p e R s m args below meth c C H locs ls hR hT hE hS hl
  have h := k p e R s m args below meth c C H locs ls hR hT hE hS hl
  have hv := z_lh_at hl j hj
  cases r with
  | none => exact lv_aload_nN C.1 C.2.1 d hi hv h
  | some a => exact lv_aload_n C.1 C.2.1 d hi hv h
theorem z_aload {i : Nat} {r : Option Nat} (d : decode Y.2.1 pc = .ok (.aload i, 2)) (j : Nat) (hj : lv[j]? = some (i, z_O r)) (k : z_V G Y X M0 Q M (pc + 2) lv (z_O r :: st)) : z_V G Y X M0 Q M (pc) lv (st) := by
  intro p e R s m args below meth c C H locs ls hR hT hE hS hl
  have h := k p e R s m args below meth c C H locs ls hR hT hE hS hl
  have hv := z_lh_at hl j hj
  cases r with
  | none => exact lv_aloadN C.1 C.2.1 d hv h
  | some a => exact lv_aload C.1 C.2.1 d hv h
theorem z_istore_n {q : Fin 4} {i : Nat} {x : Int32} {lv' : List (Nat × z_L)} (d : decode Y.2.1 pc = .ok (.istore_n q, 1)) (hi : (q : Nat) = i) (hn : i < Y.2.2.1) (hv : z_st lv i (z_I x) = lv') (k : z_V G Y X M0 Q M (pc + 1) lv' (st)) : z_V G Y X M0 Q M (pc) lv (z_I x :: st) :=
  fun p e R s m args below meth c C H locs ls hR hT hE hS hl => lv_istore_n (lv' := z_lv lv') C.1 C.2.1 d hi hl hn (by subst hv; exact z_st_eq lv i (z_I x)) (fun ls hl => k p e R s m args below meth c C H locs ls hR hT hE hS hl)
theorem z_istore {i : Nat} {x : Int32} {lv' : List (Nat × z_L)} (d : decode Y.2.1 pc = .ok (.istore i, 2)) (hn : i < Y.2.2.1) (hv : z_st lv i (z_I x) = lv') (k : z_V G Y X M0 Q M (pc + 2) lv' (st)) : z_V G Y X M0 Q M (pc) lv (z_I x :: st) :=
  fun p e R s m args below meth c C H locs ls hR hT hE hS hl => lv_istore (lv' := z_lv lv') C.1 C.2.1 d hl hn (by subst hv; exact z_st_eq lv i (z_I x)) (fun ls hl => k p e R s m args below meth c C H locs ls hR hT hE hS hl)
theorem z_lstore_n {q : Fin 4} {i : Nat} {x : Int64} {lv' : List (Nat × z_L)} (d : decode Y.2.1 pc = .ok (.lstore_n q, 1)) (hi : (q : Nat) = i) (hn : i + 1 < Y.2.2.1) (hv : z_stJ lv i (z_J x) = lv') (k : z_V G Y X M0 Q M (pc + 1) lv' (st)) : z_V G Y X M0 Q M (pc) lv (z_J x :: st) :=
  fun p e R s m args below meth c C H locs ls hR hT hE hS hl => lv_lstore_n (lv' := z_lv lv') C.1 C.2.1 d hi hl hn (by subst hv; exact z_stJ_eq lv i (z_J x)) (fun ls hl => k p e R s m args below meth c C H locs ls hR hT hE hS hl)
theorem z_lstore {i : Nat} {x : Int64} {lv' : List (Nat × z_L)} (d : decode Y.2.1 pc = .ok (.lstore i, 2)) (hn : i + 1 < Y.2.2.1) (hv : z_stJ lv i (z_J x) = lv') (k : z_V G Y X M0 Q M (pc + 2) lv' (st)) : z_V G Y X M0 Q M (pc) lv (z_J x :: st) :=
  fun p e R s m args below meth c C H locs ls hR hT hE hS hl => lv_lstore (lv' := z_lv lv') C.1 C.2.1 d hl hn (by subst hv; exact z_stJ_eq lv i (z_J x)) (fun ls hl => k p e R s m args below meth c C H locs ls hR hT hE hS hl)
theorem z_astore_n {q : Fin 4} {i : Nat} {r : Option Nat} {lv' : List (Nat × z_L)} (d : decode Y.2.1 pc = .ok (.astore_n q, 1)) (hi : (q : Nat) = i) (hn : i < Y.2.2.1) (hv : z_st lv i (z_O r) = lv') (k : z_V G Y X M0 Q M (pc + 1) lv' (st)) : z_V G Y X M0 Q M (pc) lv (z_O r :: st) := by
  intro p e R s m args below meth c C H locs ls hR hT hE hS hl
  subst hv
  cases r with
  | none => exact lv_astore_nN (lv' := z_lv (z_st lv i (z_O none))) C.1 C.2.1 d hi hl hn (z_st_eq lv i (z_O none)) (fun ls hl => k p e R s m args below meth c C H locs ls hR hT hE hS hl)
  | some a => exact lv_astore_n (lv' := z_lv (z_st lv i (z_O (some a)))) C.1 C.2.1 d hi hl hn (z_st_eq lv i (z_O (some a))) (fun ls hl => k p e R s m args below meth c C H locs ls hR hT hE hS hl)
theorem z_astore {i : Nat} {r : Option Nat} {lv' : List (Nat × z_L)} (d : decode Y.2.1 pc = .ok (.astore i, 2)) (hn : i < Y.2.2.1) (hv : z_st lv i (z_O r) = lv') (k : z_V G Y X M0 Q M (pc + 2) lv' (st)) : z_V G Y X M0 Q M (pc) lv (z_O r :: st) := by
  intro p e R s m args below meth c C H locs ls hR hT hE hS hl
  subst hv
  cases r with
  | none => exact lv_astoreN (lv' := z_lv (z_st lv i (z_O none))) C.1 C.2.1 d hl hn (z_st_eq lv i (z_O none)) (fun ls hl => k p e R s m args below meth c C H locs ls hR hT hE hS hl)
  | some a => exact lv_astore (lv' := z_lv (z_st lv i (z_O (some a)))) C.1 C.2.1 d hl hn (z_st_eq lv i (z_O (some a))) (fun ls hl => k p e R s m args below meth c C H locs ls hR hT hE hS hl)
theorem z_iinc {i j : Nat} {n : Int} {x v : Int32} {lv' : List (Nat × z_L)} (d : decode Y.2.1 pc = .ok (.iinc i n, 3)) (hj : lv[j]? = some (i, z_I x)) (hv : x + Int32.ofInt n = v) (hn : i < Y.2.2.1) (hs : z_st lv i (z_I v) = lv') (k : z_V G Y X M0 Q M (pc + 3) lv' (st)) : z_V G Y X M0 Q M (pc) lv (st) :=
  fun p e R s m args below meth c C H locs ls hR hT hE hS hl => lv_iinc (lv' := z_lv lv') (k := j) C.1 C.2.1 d hl (by rw [List.getElem?_map, hj]; rfl) hv hn (by subst hs; exact z_st_eq lv i (z_I v)) (fun ls hl => k p e R s m args below meth c C H locs ls hR hT hE hS hl)
theorem z_iadd {x y : Int32} (d : decode Y.2.1 pc = .ok (.iadd, 1)) (k : z_V G Y X M0 Q M (pc + 1) lv (z_I (x + y) :: st)) : z_V G Y X M0 Q M (pc) lv (z_I y :: z_I x :: st) :=
  fun p e R s m args below meth c C H locs ls hR hT hE hS hl => lv_iadd C.1 C.2.1 d (k p e R s m args below meth c C H locs ls hR hT hE hS hl)
theorem z_isub {x y : Int32} (d : decode Y.2.1 pc = .ok (.isub, 1)) (k : z_V G Y X M0 Q M (pc + 1) lv (z_I (x - y) :: st)) : z_V G Y X M0 Q M (pc) lv (z_I y :: z_I x :: st) :=
  fun p e R s m args below meth c C H locs ls hR hT hE hS hl => lv_isub C.1 C.2.1 d (k p e R s m args below meth c C H locs ls hR hT hE hS hl)
theorem z_imul {x y : Int32} (d : decode Y.2.1 pc = .ok (.imul, 1)) (k : z_V G Y X M0 Q M (pc + 1) lv (z_I (x * y) :: st)) : z_V G Y X M0 Q M (pc) lv (z_I y :: z_I x :: st) :=
  fun p e R s m args below meth c C H locs ls hR hT hE hS hl => lv_imul C.1 C.2.1 d (k p e R s m args below meth c C H locs ls hR hT hE hS hl)
theorem z_iand {x y : Int32} (d : decode Y.2.1 pc = .ok (.iand, 1)) (k : z_V G Y X M0 Q M (pc + 1) lv (z_I (x &&& y) :: st)) : z_V G Y X M0 Q M (pc) lv (z_I y :: z_I x :: st) :=
  fun p e R s m args below meth c C H locs ls hR hT hE hS hl => lv_iand C.1 C.2.1 d (k p e R s m args below meth c C H locs ls hR hT hE hS hl)
theorem z_idiv {x y : Int32} (d : decode Y.2.1 pc = .ok (.idiv, 1)) (h0 : ¬ y = 0) (k : z_V G Y X M0 Q M (pc + 1) lv (z_I (x / y) :: st)) : z_V G Y X M0 Q M (pc) lv (z_I y :: z_I x :: st) :=
  fun p e R s m args below meth c C H locs ls hR hT hE hS hl => lv_idiv C.1 C.2.1 d h0 (k p e R s m args below meth c C H locs ls hR hT hE hS hl)
theorem z_irem {x y : Int32} (d : decode Y.2.1 pc = .ok (.irem, 1)) (h0 : ¬ y = 0) (k : z_V G Y X M0 Q M (pc + 1) lv (z_I (x - x / y * y) :: st)) : z_V G Y X M0 Q M (pc) lv (z_I y :: z_I x :: st) :=
  fun p e R s m args below meth c C H locs ls hR hT hE hS hl => lv_irem C.1 C.2.1 d h0 (k p e R s m args below meth c C H locs ls hR hT hE hS hl)
theorem z_ishl {x y : Int32} (d : decode Y.2.1 pc = .ok (.ishl, 1)) (k : z_V G Y X M0 Q M (pc + 1) lv (z_I (x <<< (y &&& 31)) :: st)) : z_V G Y X M0 Q M (pc) lv (z_I y :: z_I x :: st) :=
  fun p e R s m args below meth c C H locs ls hR hT hE hS hl => lv_ishl C.1 C.2.1 d (k p e R s m args below meth c C H locs ls hR hT hE hS hl)
theorem z_ineg {x : Int32} (d : decode Y.2.1 pc = .ok (.ineg, 1)) (k : z_V G Y X M0 Q M (pc + 1) lv (z_I (-x) :: st)) : z_V G Y X M0 Q M (pc) lv (z_I x :: st) :=
  fun p e R s m args below meth c C H locs ls hR hT hE hS hl => lv_ineg C.1 C.2.1 d (k p e R s m args below meth c C H locs ls hR hT hE hS hl)
theorem z_ladd {x y : Int64} (d : decode Y.2.1 pc = .ok (.ladd, 1)) (k : z_V G Y X M0 Q M (pc + 1) lv (z_J (x + y) :: st)) : z_V G Y X M0 Q M (pc) lv (z_J y :: z_J x :: st) :=
  fun p e R s m args below meth c C H locs ls hR hT hE hS hl => lv_ladd C.1 C.2.1 d (k p e R s m args below meth c C H locs ls hR hT hE hS hl)
theorem z_lsub {x y : Int64} (d : decode Y.2.1 pc = .ok (.lsub, 1)) (k : z_V G Y X M0 Q M (pc + 1) lv (z_J (x - y) :: st)) : z_V G Y X M0 Q M (pc) lv (z_J y :: z_J x :: st) :=
  fun p e R s m args below meth c C H locs ls hR hT hE hS hl => lv_lsub C.1 C.2.1 d (k p e R s m args below meth c C H locs ls hR hT hE hS hl)
theorem z_lmul {x y : Int64} (d : decode Y.2.1 pc = .ok (.lmul, 1)) (k : z_V G Y X M0 Q M (pc + 1) lv (z_J (x * y) :: st)) : z_V G Y X M0 Q M (pc) lv (z_J y :: z_J x :: st) :=
  fun p e R s m args below meth c C H locs ls hR hT hE hS hl => lv_lmul C.1 C.2.1 d (k p e R s m args below meth c C H locs ls hR hT hE hS hl)
theorem z_ldiv {x y : Int64} (d : decode Y.2.1 pc = .ok (.ldiv, 1)) (h0 : ¬ y = 0) (k : z_V G Y X M0 Q M (pc + 1) lv (z_J (x / y) :: st)) : z_V G Y X M0 Q M (pc) lv (z_J y :: z_J x :: st) :=
  fun p e R s m args below meth c C H locs ls hR hT hE hS hl => lv_ldiv C.1 C.2.1 d h0 (k p e R s m args below meth c C H locs ls hR hT hE hS hl)
theorem z_i2l {x : Int32} (d : decode Y.2.1 pc = .ok (.i2l, 1)) (k : z_V G Y X M0 Q M (pc + 1) lv (z_J x.toInt64 :: st)) : z_V G Y X M0 Q M (pc) lv (z_I x :: st) :=
  fun p e R s m args below meth c C H locs ls hR hT hE hS hl => lv_i2l C.1 C.2.1 d rfl (k p e R s m args below meth c C H locs ls hR hT hE hS hl)
theorem z_l2i {x : Int64} (d : decode Y.2.1 pc = .ok (.l2i, 1)) (k : z_V G Y X M0 Q M (pc + 1) lv (z_I x.toInt32 :: st)) : z_V G Y X M0 Q M (pc) lv (z_J x :: st) :=
  fun p e R s m args below meth c C H locs ls hR hT hE hS hl => lv_l2i C.1 C.2.1 d rfl (k p e R s m args below meth c C H locs ls hR hT hE hS hl)
theorem z_lcmp {x y : Int64} (d : decode Y.2.1 pc = .ok (.lcmp, 1)) (k : z_V G Y X M0 Q M (pc + 1) lv (z_I (lg_cmp x y) :: st)) : z_V G Y X M0 Q M (pc) lv (z_J y :: z_J x :: st) :=
  fun p e R s m args below meth c C H locs ls hR hT hE hS hl => W.lcmp C.1 C.2.1 d (k p e R s m args below meth c C H locs ls hR hT hE hS hl)
theorem z_dup {x : z_L} (d : decode Y.2.1 pc = .ok (.dup, 1)) (hx : z_isJ x = false) (k : z_V G Y X M0 Q M (pc + 1) lv (x :: x :: st)) : z_V G Y X M0 Q M (pc) lv (x :: st) :=
  fun p e R s m args below meth c C H locs ls hR hT hE hS hl => lv_dup C.1 C.2.1 d (z_cat1 hx) (k p e R s m args below meth c C H locs ls hR hT hE hS hl)
theorem z_dup2 {x y : z_L} (d : decode Y.2.1 pc = .ok (.dup2, 1)) (hx : z_isJ x = false) (hy : z_isJ y = false) (k : z_V G Y X M0 Q M (pc + 1) lv (x :: y :: x :: y :: st)) : z_V G Y X M0 Q M (pc) lv (x :: y :: st) :=
  fun p e R s m args below meth c C H locs ls hR hT hE hS hl => lv_dup2_11 C.1 C.2.1 d (z_cat1 hx) (z_cat1 hy) (k p e R s m args below meth c C H locs ls hR hT hE hS hl)
theorem z_pop {x : z_L} (d : decode Y.2.1 pc = .ok (.pop, 1)) (hx : z_isJ x = false) (k : z_V G Y X M0 Q M (pc + 1) lv (st)) : z_V G Y X M0 Q M (pc) lv (x :: st) :=
  fun p e R s m args below meth c C H locs ls hR hT hE hS hl => lv_pop C.1 C.2.1 d (z_cat1 hx) (k p e R s m args below meth c C H locs ls hR hT hE hS hl)
theorem z_if_eq {x : Int32} {off : Int} {tgt : Nat} (d : decode Y.2.1 pc = .ok (.ifCond .eq off, 3)) (ht : (pc : Int) + off = (tgt : Int)) (kt : x = 0 → z_V G Y X M0 Q M (tgt) lv (st)) (kf : ¬ x = 0 → z_V G Y X M0 Q M (pc + 3) lv (st)) : z_V G Y X M0 Q M (pc) lv (z_I x :: st) :=
  fun p e R s m args below meth c C H locs ls hR hT hE hS hl => lv_if_eq C.1 C.2.1 d ht (fun h => kt h p e R s m args below meth c C H locs ls hR hT hE hS hl) (fun h => kf h p e R s m args below meth c C H locs ls hR hT hE hS hl)
theorem z_icmp_eq {x y : Int32} {off : Int} {tgt : Nat} (d : decode Y.2.1 pc = .ok (.if_icmp .eq off, 3)) (ht : (pc : Int) + off = (tgt : Int)) (kt : x = y → z_V G Y X M0 Q M (tgt) lv (st)) (kf : ¬ x = y → z_V G Y X M0 Q M (pc + 3) lv (st)) : z_V G Y X M0 Q M (pc) lv (z_I y :: z_I x :: st) :=
  fun p e R s m args below meth c C H locs ls hR hT hE hS hl => lv_icmp_eq C.1 C.2.1 d ht (fun h => kt h p e R s m args below meth c C H locs ls hR hT hE hS hl) (fun h => kf h p e R s m args below meth c C H locs ls hR hT hE hS hl)
theorem z_if_ne {x : Int32} {off : Int} {tgt : Nat} (d : decode Y.2.1 pc = .ok (.ifCond .ne off, 3)) (ht : (pc : Int) + off = (tgt : Int)) (kt : ¬ x = 0 → z_V G Y X M0 Q M (tgt) lv (st)) (kf : x = 0 → z_V G Y X M0 Q M (pc + 3) lv (st)) : z_V G Y X M0 Q M (pc) lv (z_I x :: st) :=
  fun p e R s m args below meth c C H locs ls hR hT hE hS hl => lv_if_ne C.1 C.2.1 d ht (fun h => kt h p e R s m args below meth c C H locs ls hR hT hE hS hl) (fun h => kf h p e R s m args below meth c C H locs ls hR hT hE hS hl)
theorem z_icmp_ne {x y : Int32} {off : Int} {tgt : Nat} (d : decode Y.2.1 pc = .ok (.if_icmp .ne off, 3)) (ht : (pc : Int) + off = (tgt : Int)) (kt : ¬ x = y → z_V G Y X M0 Q M (tgt) lv (st)) (kf : x = y → z_V G Y X M0 Q M (pc + 3) lv (st)) : z_V G Y X M0 Q M (pc) lv (z_I y :: z_I x :: st) :=
  fun p e R s m args below meth c C H locs ls hR hT hE hS hl => lv_icmp_ne C.1 C.2.1 d ht (fun h => kt h p e R s m args below meth c C H locs ls hR hT hE hS hl) (fun h => kf h p e R s m args below meth c C H locs ls hR hT hE hS hl)
theorem z_if_lt {x : Int32} {off : Int} {tgt : Nat} (d : decode Y.2.1 pc = .ok (.ifCond .lt off, 3)) (ht : (pc : Int) + off = (tgt : Int)) (kt : x < 0 → z_V G Y X M0 Q M (tgt) lv (st)) (kf : ¬ x < 0 → z_V G Y X M0 Q M (pc + 3) lv (st)) : z_V G Y X M0 Q M (pc) lv (z_I x :: st) :=
  fun p e R s m args below meth c C H locs ls hR hT hE hS hl => lv_if_lt C.1 C.2.1 d ht (fun h => kt h p e R s m args below meth c C H locs ls hR hT hE hS hl) (fun h => kf h p e R s m args below meth c C H locs ls hR hT hE hS hl)
theorem z_icmp_lt {x y : Int32} {off : Int} {tgt : Nat} (d : decode Y.2.1 pc = .ok (.if_icmp .lt off, 3)) (ht : (pc : Int) + off = (tgt : Int)) (kt : x < y → z_V G Y X M0 Q M (tgt) lv (st)) (kf : ¬ x < y → z_V G Y X M0 Q M (pc + 3) lv (st)) : z_V G Y X M0 Q M (pc) lv (z_I y :: z_I x :: st) :=
  fun p e R s m args below meth c C H locs ls hR hT hE hS hl => lv_icmp_lt C.1 C.2.1 d ht (fun h => kt h p e R s m args below meth c C H locs ls hR hT hE hS hl) (fun h => kf h p e R s m args below meth c C H locs ls hR hT hE hS hl)
theorem z_if_ge {x : Int32} {off : Int} {tgt : Nat} (d : decode Y.2.1 pc = .ok (.ifCond .ge off, 3)) (ht : (pc : Int) + off = (tgt : Int)) (kt : 0 ≤ x → z_V G Y X M0 Q M (tgt) lv (st)) (kf : ¬ 0 ≤ x → z_V G Y X M0 Q M (pc + 3) lv (st)) : z_V G Y X M0 Q M (pc) lv (z_I x :: st) :=
  fun p e R s m args below meth c C H locs ls hR hT hE hS hl => lv_if_ge C.1 C.2.1 d ht (fun h => kt h p e R s m args below meth c C H locs ls hR hT hE hS hl) (fun h => kf h p e R s m args below meth c C H locs ls hR hT hE hS hl)
theorem z_icmp_ge {x y : Int32} {off : Int} {tgt : Nat} (d : decode Y.2.1 pc = .ok (.if_icmp .ge off, 3)) (ht : (pc : Int) + off = (tgt : Int)) (kt : y ≤ x → z_V G Y X M0 Q M (tgt) lv (st)) (kf : ¬ y ≤ x → z_V G Y X M0 Q M (pc + 3) lv (st)) : z_V G Y X M0 Q M (pc) lv (z_I y :: z_I x :: st) :=
  fun p e R s m args below meth c C H locs ls hR hT hE hS hl => lv_icmp_ge C.1 C.2.1 d ht (fun h => kt h p e R s m args below meth c C H locs ls hR hT hE hS hl) (fun h => kf h p e R s m args below meth c C H locs ls hR hT hE hS hl)
theorem z_if_gt {x : Int32} {off : Int} {tgt : Nat} (d : decode Y.2.1 pc = .ok (.ifCond .gt off, 3)) (ht : (pc : Int) + off = (tgt : Int)) (kt : 0 < x → z_V G Y X M0 Q M (tgt) lv (st)) (kf : ¬ 0 < x → z_V G Y X M0 Q M (pc + 3) lv (st)) : z_V G Y X M0 Q M (pc) lv (z_I x :: st) :=
  fun p e R s m args below meth c C H locs ls hR hT hE hS hl => lv_if_gt C.1 C.2.1 d ht (fun h => kt h p e R s m args below meth c C H locs ls hR hT hE hS hl) (fun h => kf h p e R s m args below meth c C H locs ls hR hT hE hS hl)
theorem z_icmp_gt {x y : Int32} {off : Int} {tgt : Nat} (d : decode Y.2.1 pc = .ok (.if_icmp .gt off, 3)) (ht : (pc : Int) + off = (tgt : Int)) (kt : y < x → z_V G Y X M0 Q M (tgt) lv (st)) (kf : ¬ y < x → z_V G Y X M0 Q M (pc + 3) lv (st)) : z_V G Y X M0 Q M (pc) lv (z_I y :: z_I x :: st) :=
  fun p e R s m args below meth c C H locs ls hR hT hE hS hl => lv_icmp_gt C.1 C.2.1 d ht (fun h => kt h p e R s m args below meth c C H locs ls hR hT hE hS hl) (fun h => kf h p e R s m args below meth c C H locs ls hR hT hE hS hl)
theorem z_if_le {x : Int32} {off : Int} {tgt : Nat} (d : decode Y.2.1 pc = .ok (.ifCond .le off, 3)) (ht : (pc : Int) + off = (tgt : Int)) (kt : x ≤ 0 → z_V G Y X M0 Q M (tgt) lv (st)) (kf : ¬ x ≤ 0 → z_V G Y X M0 Q M (pc + 3) lv (st)) : z_V G Y X M0 Q M (pc) lv (z_I x :: st) :=
  fun p e R s m args below meth c C H locs ls hR hT hE hS hl => lv_if_le C.1 C.2.1 d ht (fun h => kt h p e R s m args below meth c C H locs ls hR hT hE hS hl) (fun h => kf h p e R s m args below meth c C H locs ls hR hT hE hS hl)
theorem z_icmp_le {x y : Int32} {off : Int} {tgt : Nat} (d : decode Y.2.1 pc = .ok (.if_icmp .le off, 3)) (ht : (pc : Int) + off = (tgt : Int)) (kt : x ≤ y → z_V G Y X M0 Q M (tgt) lv (st)) (kf : ¬ x ≤ y → z_V G Y X M0 Q M (pc + 3) lv (st)) : z_V G Y X M0 Q M (pc) lv (z_I y :: z_I x :: st) :=
  fun p e R s m args below meth c C H locs ls hR hT hE hS hl => lv_icmp_le C.1 C.2.1 d ht (fun h => kt h p e R s m args below meth c C H locs ls hR hT hE hS hl) (fun h => kf h p e R s m args below meth c C H locs ls hR hT hE hS hl)
theorem z_goto {off : Int} {tgt : Nat} (d : decode Y.2.1 pc = .ok (.goto off, 3)) (ht : (pc : Int) + off = (tgt : Int)) (k : z_V G Y X M0 Q M (tgt) lv (st)) : z_V G Y X M0 Q M (pc) lv (st) :=
  fun p e R s m args below meth c C H locs ls hR hT hE hS hl => lv_goto C.1 C.2.1 d ht (k p e R s m args below meth c C H locs ls hR hT hE hS hl)
theorem z_ifnull {r : Option Nat} {off : Int} {tgt : Nat} (d : decode Y.2.1 pc = .ok (.ifnull off, 3)) (ht : (pc : Int) + off = (tgt : Int)) (kn : r = none → z_V G Y X M0 Q M (tgt) lv (st)) (ks : ∀ a, r = some a → z_V G Y X M0 Q M (pc + 3) lv (st)) : z_V G Y X M0 Q M (pc) lv (z_O r :: st) := by
  intro p e R s m args below meth c C H locs ls hR hT hE hS hl
  cases r with
  | none => exact lv_ifnullN C.1 C.2.1 d ht (kn rfl p e R s m args below meth c C H locs ls hR hT hE hS hl)
  | some a => exact lv_ifnull C.1 C.2.1 d (ks a rfl p e R s m args below meth c C H locs ls hR hT hE hS hl)
theorem z_ifnonnull {r : Option Nat} {off : Int} {tgt : Nat} (d : decode Y.2.1 pc = .ok (.ifnonnull off, 3)) (ht : (pc : Int) + off = (tgt : Int)) (kn : r = none → z_V G Y X M0 Q M (pc + 3) lv (st)) (ks : ∀ a, r = some a → z_V G Y X M0 Q M (tgt) lv (st)) : z_V G Y X M0 Q M (pc) lv (z_O r :: st) := by
  intro p e R s m args below meth c C H locs ls hR hT hE hS hl
  cases r with
  | none => exact lv_ifnonnullN C.1 C.2.1 d (kn rfl p e R s m args below meth c C H locs ls hR hT hE hS hl)
  | some a => exact lv_ifnonnull C.1 C.2.1 d ht (ks a rfl p e R s m args below meth c C H locs ls hR hT hE hS hl)
theorem z_tin {dflt lo hi : Int} {offs : Array Int} {len : Nat} {x : Int32} {off : Int} {tgt : Nat} (d : decode Y.2.1 pc = .ok (.tableswitch dflt lo hi offs, len)) (h1 : ¬ x.toInt < lo) (h2 : ¬ hi < x.toInt) (ho : offs[(x.toInt - lo).toNat]? = some off) (ht : (pc : Int) + off = (tgt : Int)) (k : z_V G Y X M0 Q M (tgt) lv (st)) : z_V G Y X M0 Q M (pc) lv (z_I x :: st) :=
  fun p e R s m args below meth c C H locs ls hR hT hE hS hl => lv_tableIn C.1 C.2.1 d h1 h2 ho ht (k p e R s m args below meth c C H locs ls hR hT hE hS hl)
theorem z_tout {dflt lo hi : Int} {offs : Array Int} {len : Nat} {x : Int32} {tgt : Nat} (d : decode Y.2.1 pc = .ok (.tableswitch dflt lo hi offs, len)) (h : x.toInt < lo ∨ hi < x.toInt) (ht : (pc : Int) + dflt = (tgt : Int)) (k : z_V G Y X M0 Q M (tgt) lv (st)) : z_V G Y X M0 Q M (pc) lv (z_I x :: st) :=
  fun p e R s m args below meth c C H locs ls hR hT hE hS hl => lv_tableOut C.1 C.2.1 d h ht (k p e R s m args below meth c C H locs ls hR hT hE hS hl)
theorem z_sub {lv' : List (Nat × z_L)} (ks : List Nat) (h : z_pick lv ks = lv') (k : z_V G Y X M0 Q M (pc) lv' (st)) : z_V G Y X M0 Q M (pc) lv (st) :=
  fun p e R s m args below meth c C H locs ls hR hT hE hS hl => k p e R s m args below meth c C H locs ls hR hT hE hS (z_lh_sub hl ks h)
theorem z_wts (k : z_WT M → z_Ext M0 M → z_V G Y X M0 Q M (pc) lv (st)) : z_V G Y X M0 Q M (pc) lv (st) :=
  fun p e R s m args below meth c C H locs ls hR hT hE hS hl => k hT hE p e R s m args below meth c C H locs ls hR hT hE hS hl
end ZR
