/-! ===== ROWS that read and write the memory ===== -/
/-- all that lies at address b is the same -/
def z_same (M M1 : z_Mem) (b : Nat) : Prop := z_ki M1 b = z_ki M b ∧ z_ln M1 b = z_ln M b ∧ (∀ g, z_fi M1 g b = z_fi M g b) ∧ (∀ g, z_fr M1 g b = z_fr M g b) ∧ (∀ j, z_ai M1 b j = z_ai M b j) ∧ (∀ j, z_ar M1 b j = z_ar M b j) ∧ (∀ j, z_al M1 b j = z_al M b j)
theorem z_same.fs {M M1 : z_Mem} {b : Nat} (h : z_same M M1 b) (c : Nat) : z_fs M1 c b = z_fs M c b := by
  unfold z_fs
  apply List.map_congr_left
  intro k _
  unfold z_val
  rw [h.2.2.1, h.2.2.2.1]
theorem z_at.congr {G : z_G} {M M1 : z_Mem} {b : Nat} {H H1 : Heap} (h : z_at G M b H) (hs : z_same M M1 b) (hq : H1[b]? = H[b]?) : z_at G M1 b H1 := by
  have hf := hs.fs
  obtain ⟨e1, e2, e3, e4, e5, e6, e7⟩ := hs
  obtain ⟨h1, h2, h3, h4⟩ := h
  refine ⟨fun c hc hl => ?_, fun hk => ?_, fun ha hb => ?_, fun hk => ?_⟩
  · rw [hf c]
    exact (h1 c (by rw [← e1]; exact hc) hl).kept hq
  · rw [e1] at hk
    rw [hq, h2 hk, e1, e2]
    congr 2
    funext j
    rw [e5]
  · rw [e1] at ha hb
    rw [hq, h3 ha hb, e1, e2]
    congr 2
    funext j
    rw [e6]
  · rw [e1] at hk
    rw [hq, h4 hk, e1, e2]
    congr 2
    funext j
    rw [e7]
theorem z_P1 {D : va_G} {cl : List vw_C} {q : Nat × va_E} {H : Heap} (h : va_at D cl q H) : va_P D cl [q] H := by
  intro k x hk
  have hz : k < 1 := (List.getElem?_eq_some_iff.mp hk).1
  rw [show k = 0 by omega] at hk
  cases hk
  exact h
theorem z_fs_at {M : z_Mem} {c a k : Nat} (hk : k < z_N c) : (z_fs M c a)[k]? = some (z_val M c a k) := by
  unfold z_fs
  rw [List.getElem?_map, List.getElem?_range hk]
  rfl
theorem z_fs_V {M : z_Mem} {c a k : Nat} (hk : k < z_N c) : vp_V (z_fs M c a) k = z_val M c a k := by
  unfold vp_V
  rw [List.getD_eq_getElem?_getD, z_fs_at hk]
  rfl
/-- one cell written -/
theorem z_Rep.upd {G : z_G} {M M1 : z_Mem} {H H1 : Heap} {a : Nat} (h : z_Rep G M H) (hs : H1.size = H.size) (hw : z_wg H1 = z_wg H) (ho : ∀ q : Nat, q ≠ a → H1[q]? = H[q]?)
    (hm : z_sz M1 = z_sz M ∧ z_cl M1 = z_cl M ∧ z_sl M1 = z_sl M) (hb : ∀ b, b ≠ a → z_same M M1 b) (ha : z_at G M1 a H1) : z_Rep G M1 H1 := by
  obtain ⟨h1, h2, h3, h4⟩ := h
  refine ⟨by rw [hs, hm.1]; exact h1, by rw [hm.1, hm.2.1]; exact h2, by rw [hw, hm.2.2]; exact h3, fun b => ?_⟩
  by_cases e : b = a
  · rw [e]; exact ha
  · exact (h4 b).congr (hb b e) (ho b e)
theorem z_nr {ty : FieldType} {r : Option Nat} (h : ty.isReference = true) : narrow ty (va_rf r) = va_rf r ∧ fits ty (va_rf r) = true := by
  cases ty with
  | object n => cases r <;> exact ⟨rfl, rfl⟩
  | array t => cases r <;> exact ⟨rfl, rfl⟩
  | _ => cases h
section ZH
variable {G : z_G} {Y : z_Y} {X : z_X} {M0 M : z_Mem} {Q : z_Q} {pc : Nat} {lv : List (Nat × z_L)} {st : List z_L}
theorem z_getc {c k i a : Nat} {v : z_L} (B : z_CB c) (hc : c < 13) (hk : k < z_N c) (hw : Cond.fieldLink Y.1.cls i (z_T c k).1 (z_T c k).2.1 (z_T c k).2.2.1 ∈ z_ws) (hki : z_ki M a = c + 1) (hv : z_val M c a k = z_v v) (d : decode Y.2.1 pc = .ok (.getfield i, 3))
    (kk : z_WT M → z_V G Y X M0 Q M (pc + 3) lv (v :: st)) : z_V G Y X M0 Q M pc lv (z_O (some a) :: st) := by
  intro p e R s m args below meth c9 C H locs ls hR hT hE hS hl
  have hP := z_P1 ((hR.2.2.2 a).1 c hki hc)
  have h := kk hT p e R s m args below meth c9 C H locs ls hR hT hE hS hl
  obtain ⟨C1, C2, C3, C4, C5, C6, C7, C8, C9, -⟩ := C
  exact va_get C1 C2 C6 B.2.1 C5 C9 hP 0 rfl B.1 k hk (C6 _ hw) (fun _ h9 => h9) (by rw [z_fs_at hk, hv]) d h
theorem z_geti {c k g i a : Nat} {r : Option Nat} (B : z_CB c) (hc : c < 13) (hk : k < z_N c) (hg : 128 * c + k = g) (hf : z_fk c k < 2) (hw : Cond.fieldLink Y.1.cls i (z_T c k).1 (z_T c k).2.1 (z_T c k).2.2.1 ∈ z_ws) (ha : r = some a) (hki : z_ki M a = c + 1) (d : decode Y.2.1 pc = .ok (.getfield i, 3))
    (kk : z_V G Y X M0 Q M (pc + 3) lv (z_I (z_fi M g a) :: st)) : z_V G Y X M0 Q M pc lv (z_O r :: st) := by
  subst ha hg
  exact z_getc B hc hk hw hki (by unfold z_val; rw [if_pos hf]; rfl) d (fun _ => kk)
theorem z_getb {c k g i a : Nat} {r : Option Nat} (B : z_CB c) (hc : c < 13) (hk : k < z_N c) (hg : 128 * c + k = g) (hf : z_fk c k = 1) (hw : Cond.fieldLink Y.1.cls i (z_T c k).1 (z_T c k).2.1 (z_T c k).2.2.1 ∈ z_ws) (ha : r = some a) (hki : z_ki M a = c + 1) (d : decode Y.2.1 pc = .ok (.getfield i, 3))
    (kk : (z_fi M g a = 0 ∨ z_fi M g a = 1) → z_V G Y X M0 Q M (pc + 3) lv (z_I (z_fi M g a) :: st)) : z_V G Y X M0 Q M pc lv (z_O r :: st) := by
  subst ha hg
  exact z_getc B hc hk hw hki (by unfold z_val; rw [if_pos (by omega)]; rfl) d (fun hT => kk (hT.2.2.1 a c k hki hc hk hf))
theorem z_getr {c k g i a t : Nat} {r : Option Nat} (B : z_CB c) (hc : c < 13) (hk : k < z_N c) (hg : 128 * c + k = g) (hf : z_fk c k = t + 2) (hw : Cond.fieldLink Y.1.cls i (z_T c k).1 (z_T c k).2.1 (z_T c k).2.2.1 ∈ z_ws) (ha : r = some a) (hki : z_ki M a = c + 1) (d : decode Y.2.1 pc = .ok (.getfield i, 3))
    (kk : z_tr M (z_fr M g a) t → z_V G Y X M0 Q M (pc + 3) lv (z_O (z_fr M g a) :: st)) : z_V G Y X M0 Q M pc lv (z_O r :: st) := by
  subst ha hg
  exact z_getc B hc hk hw hki (by unfold z_val; rw [if_neg (by omega)]; rfl) d (fun hT => kk (fun b hb => by have := hT.2.1 a c k b hki hc hk (by omega) hb; omega))
theorem z_putc {c k i a : Nat} {x : z_L} {M1 : z_Mem} (B : z_CB c) (hc : c < 13) (hk : k < z_N c) (hw : Cond.fieldLink Y.1.cls i (z_T c k).1 (z_T c k).2.1 (z_T c k).2.2.1 ∈ z_ws) (hki : z_ki M a = c + 1)
    (hfin : (z_T c k).2.2.2 = false ∨ ((z_T c k).2.2.2 = true ∧ Y.1.name = "<init>" ∧ (z_T c k).1 = Y.1.cls)) (hn : narrow (z_ty c k) (z_v x) = z_v x) (hfit : fits (z_ty c k) (z_v x) = true)
    (hv : ∀ j, j < z_N c → z_val M1 c a j = if j = k then z_v x else z_val M c a j) (hs : ∀ b, b ≠ a → z_same M M1 b) (hm : z_ki M1 a = z_ki M a ∧ z_ln M1 a = z_ln M a ∧ z_sz M1 = z_sz M ∧ z_cl M1 = z_cl M ∧ z_sl M1 = z_sl M) (hT1 : z_WT M → z_WT M1) (d : decode Y.2.1 pc = .ok (.putfield i, 3))
    (kk : z_V G Y X M0 Q M1 (pc + 3) lv st) : z_V G Y X M0 Q M pc lv (x :: z_O (some a) :: st) := by
  intro p e R s m args below meth c9 C H locs ls hR hT hE hS hl
  have hC := C
  obtain ⟨C1, C2, C3, C4, C5, C6, C7, C8, C9, -⟩ := C
  have hap := va_apart (own := Y.1.cls) C6 B.2.1 (z_ty c) B.2.2.1 B.2.2.2 C9 B.1
  obtain ⟨r, h1, cell, q1, q2, q3, q4⟩ := (hR.2.2.2 a).1 c hki hc
  have hr : r = (z_R c, z_T c, z_N c) := Option.some.inj (h1.symm.trans B.1)
  subst hr
  obtain ⟨hSl, hfc, kC, hkC, hkind⟩ := C9.1 c _ B.1
  obtain ⟨cf, kf, fi9, f, hi, hsl⟩ := hSl k hk
  have hlay := C6 _ (B.2.1 _ (u_in_lay hk))
  have hst := (u_facts hfc hkC (u_lays C6 B.2.1 hk) hi).1
  have hAa : z_A M0 a := hE.sub a (Or.inl (by omega))
  have hcls : z_ki M1 a = c + 1 := by rw [hm.1]; exact hki
  have fin : ∀ H' : Heap, H'[a]? = some (cell.setSlot (G.2.1.2 c k) (z_v x)) → H'.size = H.size → (∀ q, q ≠ a → H'[q]? = H[q]?) →
      W p G.1 e R s m args below meth c9 H' (locs ++ [⟨a, G.2.1.2 c k⟩]) (z_cl M0 - z_cl M) (z_sl M0 - z_sl M) (Q below args s) (F0 m (pc + 3) ls (st.map z_v)) := by
    intro H' e1 e2 e3
    have hat : z_at G M1 a H' := by
      refine ⟨fun c' hc' _ => ?_, fun hk' => ?_, fun ha' _ => ?_, fun hk' => ?_⟩
      · have : c' = c := by omega
        subst this
        exact ⟨_, B.1, t_OB.to (V := updV (vp_V (z_fs M c' a)) k (z_v x)) ⟨_, e1, q2, q3, t_set q4 hap hk (z_v x)⟩ (fun j hj => by
          rw [z_fs_V hj, hv j hj]
          unfold updV
          split
          · rfl
          · exact z_fs_V hj)⟩
      · rw [hcls] at hk'; omega
      · rw [hcls] at ha'; omega
      · rw [hcls] at hk'; omega
    have hR1 : z_Rep G M1 H' := hR.upd e2 (z_wg_set e2 q1 e1 (by simp [Cell.setSlot]) e3) e3 hm.2.2 hs hat
    have hE1 : z_Ext M M1 := ⟨by omega, by omega, by omega, fun b _ => by
      by_cases hb : b = a
      · subst hb; exact ⟨hm.1, hm.2.1⟩
      · exact ⟨(hs b hb).1, (hs b hb).2.1⟩⟩
    have h := kk p e R s m args below meth c9 hC H' _ ls hR1 (hT1 hT) (hE.trans hE1) (hS.put e2 e3 hAa (k := G.2.1.2 c k)) hl
    rw [hm.2.2.2.1, hm.2.2.2.2] at h
    exact h
  rcases hfin with hf | ⟨hf, hin, hdecl⟩
  · unfold u_lay at hlay
    rw [if_neg (by rw [hf]; decide)] at hlay
    have h6 := u_store hfc hkC hkind hlay hi (B.2.2.1 k hk) hn hfit
    refine W.putK C1 C2 (f := f) ⟨C5, C6 _ hw, ⟨_, _, _, hi⟩, hst⟩ (by rw [q2]; exact h6) q1 q3 (by rw [hsl]; exact k2_hasslot (q4 k hk)) rfl rfl d fun H' e1 e2 e3 => ?_
    rw [hsl] at e1 ⊢
    exact fin H' e1 e2 e3
  · unfold u_lay at hlay
    rw [if_pos hf] at hlay
    have hcf : m.cls = cf := by
      obtain ⟨_, _, c', _, _, _, -, -, hf', -, -, -, hown2, -⟩ := Cond.laysFinal_spec hlay
      have e1 : c' = cf := by have := hi.symm.trans hf'; simp at this; exact this.1.symm
      rw [hdecl] at hown2
      rw [← e1]; exact Option.some.inj (C5.symm.trans hown2)
    have h6 := u_fits hfc hkC hkind (Or.inr hlay) hi (B.2.2.1 k hk) hn hfit
    refine W.putFinK C1 C2 C5 (C6 _ hw) hi hst hcf ((C8 hin).trans hin) (by rw [q2]; exact h6) q1 q3 (by rw [hsl]; exact k2_hasslot (q4 k hk)) rfl rfl d fun H' e1 e2 e3 => ?_
    rw [hsl] at e1 ⊢
    exact fin H' e1 e2 e3
theorem z_up_s {α : Type} (f : Nat → Nat → α) (a b : Nat) (v : α) : z_up f a b v a b = v := by simp [z_up]
theorem z_up_n {α : Type} (f : Nat → Nat → α) {a b x y : Nat} (v : α) (h : x ≠ a ∨ y ≠ b) : z_up f a b v x y = f x y := by
  unfold z_up
  rcases h with h | h
  · rw [if_neg h]
  · by_cases hx : x = a
    · rw [if_pos hx, if_neg h]
    · rw [if_neg hx]
theorem z_same_sfi {M : z_Mem} {g a b : Nat} {v : Int32} (h : b ≠ a) : z_same M (z_sfi M g a v) b := ⟨rfl, rfl, fun g' => z_up_n _ v (Or.inr h), fun _ => rfl, fun _ => rfl, fun _ => rfl, fun _ => rfl⟩
theorem z_same_sfr {M : z_Mem} {g a b : Nat} {v : Option Nat} (h : b ≠ a) : z_same M (z_sfr M g a v) b := ⟨rfl, rfl, fun _ => rfl, fun g' => z_up_n _ v (Or.inr h), fun _ => rfl, fun _ => rfl, fun _ => rfl⟩
theorem z_same_sai {M : z_Mem} {a b j : Nat} {v : Int32} (h : b ≠ a) : z_same M (z_sai M a j v) b := ⟨rfl, rfl, fun _ => rfl, fun _ => rfl, fun _ => z_up_n _ v (Or.inl h), fun _ => rfl, fun _ => rfl⟩
theorem z_same_sar {M : z_Mem} {a b j : Nat} {v : Option Nat} (h : b ≠ a) : z_same M (z_sar M a j v) b := ⟨rfl, rfl, fun _ => rfl, fun _ => rfl, fun _ => rfl, fun _ => z_up_n _ v (Or.inl h), fun _ => rfl⟩
theorem z_same_sal {M : z_Mem} {a b j : Nat} {v : Int64} (h : b ≠ a) : z_same M (z_sal M a j v) b := ⟨rfl, rfl, fun _ => rfl, fun _ => rfl, fun _ => rfl, fun _ => rfl, fun _ => z_up_n _ v (Or.inl h)⟩
theorem z_same_srr {M : z_Mem} {a b : Nat} {f : Nat → Option Nat} (h : b ≠ a) : z_same M (z_srr M a f) b := ⟨rfl, rfl, fun _ => rfl, fun _ => rfl, fun _ => rfl, fun j => by show (if b = a then f else M.2.2.2.2.2.1 b) j = _; rw [if_neg h]; rfl, fun _ => rfl⟩
theorem z_val_sfi {M : z_Mem} {c k a j : Nat} {v : Int32} (hf : z_fk c k < 2) : z_val (z_sfi M (128 * c + k) a v) c a j = if j = k then .int v else z_val M c a j := by
  unfold z_val
  by_cases e : j = k
  · subst e
    rw [if_pos rfl, if_pos hf]
    exact congrArg Value.int (z_up_s _ _ _ _)
  · rw [if_neg e]
    show (if z_fk c j < 2 then Value.int (z_up M.2.2.1 (128 * c + k) a v (128 * c + j) a) else _) = _
    rw [z_up_n _ v (Or.inl (by omega))]
    rfl
theorem z_val_sfr {M : z_Mem} {c k a j : Nat} {v : Option Nat} (hf : ¬ z_fk c k < 2) : z_val (z_sfr M (128 * c + k) a v) c a j = if j = k then va_rf v else z_val M c a j := by
  unfold z_val
  by_cases e : j = k
  · subst e
    rw [if_pos rfl, if_neg hf]
    exact congrArg va_rf (z_up_s _ _ _ _)
  · rw [if_neg e]
    show (if z_fk c j < 2 then _ else va_rf (z_up M.2.2.2.1 (128 * c + k) a v (128 * c + j) a)) = _
    rw [z_up_n _ v (Or.inl (by omega))]
    rfl
theorem z_WT_sfi {M : z_Mem} {c k a : Nat} {v : Int32} (hk : k < 128) (hki : z_ki M a = c + 1) (hv : z_fk c k = 1 → v = 0 ∨ v = 1) (h : z_WT M) : z_WT (z_sfi M (128 * c + k) a v) := by
  obtain ⟨h1, h2, h3, h4, h5, h6⟩ := h
  refine ⟨h1, h2, fun b c' k' hb hc' hk' hf => ?_, h4, h5, h6⟩
  show z_up M.2.2.1 (128 * c + k) a v (128 * c' + k') b = 0 ∨ z_up M.2.2.1 (128 * c + k) a v (128 * c' + k') b = 1
  by_cases e : 128 * c' + k' = 128 * c + k ∧ b = a
  · obtain ⟨e1, e2⟩ := e
    rw [e1, e2, z_up_s]
    subst e2
    have hcc : c' = c := by
      have hb' : z_ki M b = c' + 1 := hb
      omega
    subst hcc
    have : k' = k := by omega
    subst this
    exact hv hf
  · rw [z_up_n _ v (by
      by_cases e1 : 128 * c' + k' = 128 * c + k
      · exact Or.inr (fun e2 => e ⟨e1, e2⟩)
      · exact Or.inl e1)]
    exact h3 b c' k' hb hc' hk' hf
theorem z_WT_sfr {M : z_Mem} {c k a : Nat} {v : Option Nat} (hki : z_ki M a = c + 1) (hv : ∀ b, v = some b → z_ki M b + 2 = z_fk c k) (h : z_WT M) : z_WT (z_sfr M (128 * c + k) a v) := by
  obtain ⟨h1, h2, h3, h4, h5, h6⟩ := h
  refine ⟨h1, fun b c' k' t hb hc' hk' hf ht => ?_, h3, h4, h5, h6⟩
  have ht2 : z_up M.2.2.2.1 (128 * c + k) a v (128 * c' + k') b = some t := ht
  by_cases e : 128 * c' + k' = 128 * c + k ∧ b = a
  · obtain ⟨e1, e2⟩ := e
    rw [e1, e2, z_up_s] at ht2
    subst e2
    have hcc : c' = c := by
      have hb' : z_ki M b = c' + 1 := hb
      omega
    subst hcc
    have : k' = k := by omega
    subst this
    exact hv t ht2
  · rw [z_up_n _ v (by
      by_cases e1 : 128 * c' + k' = 128 * c + k
      · exact Or.inr (fun e2 => e ⟨e1, e2⟩)
      · exact Or.inl e1)] at ht2
    exact h2 b c' k' t hb hc' hk' hf ht2
theorem z_puti {c k g i a : Nat} {r : Option Nat} {x : Int32} (B : z_CB c) (hc : c < 13) (hk : k < z_N c) (hk2 : k < 128) (hg : 128 * c + k = g) (hf : z_fk c k = 0) (hty : z_ty c k = .int) (hw : Cond.fieldLink Y.1.cls i (z_T c k).1 (z_T c k).2.1 (z_T c k).2.2.1 ∈ z_ws) (ha : r = some a) (hki : z_ki M a = c + 1)
    (hfin : (z_T c k).2.2.2 = false ∨ ((z_T c k).2.2.2 = true ∧ Y.1.name = "<init>" ∧ (z_T c k).1 = Y.1.cls)) (d : decode Y.2.1 pc = .ok (.putfield i, 3)) (kk : z_V G Y X M0 Q (z_sfi M g a x) (pc + 3) lv st) : z_V G Y X M0 Q M pc lv (z_I x :: z_O r :: st) := by
  subst ha hg
  exact z_putc B hc hk hw hki hfin (by rw [hty]; rfl) (by rw [hty]; rfl) (fun j _ => z_val_sfi (by omega)) (fun b hb => z_same_sfi hb) ⟨rfl, rfl, rfl, rfl, rfl⟩ (z_WT_sfi hk2 hki (by omega)) d kk
theorem z_putb {c k g i a : Nat} {r : Option Nat} {x : Int32} (B : z_CB c) (hc : c < 13) (hk : k < z_N c) (hk2 : k < 128) (hg : 128 * c + k = g) (hf : z_fk c k = 1) (hty : z_ty c k = .boolean) (hw : Cond.fieldLink Y.1.cls i (z_T c k).1 (z_T c k).2.1 (z_T c k).2.2.1 ∈ z_ws) (ha : r = some a) (hki : z_ki M a = c + 1) (hx : x = 0 ∨ x = 1)
    (hfin : (z_T c k).2.2.2 = false ∨ ((z_T c k).2.2.2 = true ∧ Y.1.name = "<init>" ∧ (z_T c k).1 = Y.1.cls)) (d : decode Y.2.1 pc = .ok (.putfield i, 3)) (kk : z_V G Y X M0 Q (z_sfi M g a x) (pc + 3) lv st) : z_V G Y X M0 Q M pc lv (z_I x :: z_O r :: st) := by
  subst ha hg
  exact z_putc B hc hk hw hki hfin (by rw [hty]; rcases hx with rfl | rfl <;> rfl) (by rw [hty]; rcases hx with rfl | rfl <;> rfl) (fun j _ => z_val_sfi (by omega)) (fun b hb => z_same_sfi hb) ⟨rfl, rfl, rfl, rfl, rfl⟩ (z_WT_sfi hk2 hki (fun _ => hx)) d kk
theorem z_putr {c k g i a t : Nat} {r x : Option Nat} (B : z_CB c) (hc : c < 13) (hk : k < z_N c) (hg : 128 * c + k = g) (hf : z_fk c k = t + 2) (hty : (z_ty c k).isReference = true) (hw : Cond.fieldLink Y.1.cls i (z_T c k).1 (z_T c k).2.1 (z_T c k).2.2.1 ∈ z_ws) (ha : r = some a) (hki : z_ki M a = c + 1) (hx : z_tr M x t)
    (hfin : (z_T c k).2.2.2 = false ∨ ((z_T c k).2.2.2 = true ∧ Y.1.name = "<init>" ∧ (z_T c k).1 = Y.1.cls)) (d : decode Y.2.1 pc = .ok (.putfield i, 3)) (kk : z_V G Y X M0 Q (z_sfr M g a x) (pc + 3) lv st) : z_V G Y X M0 Q M pc lv (z_O x :: z_O r :: st) := by
  subst ha hg
  exact z_putc B hc hk hw hki hfin (z_nr hty).1 (z_nr hty).2 (fun j _ => z_val_sfr (by omega)) (fun b hb => z_same_sfr hb) ⟨rfl, rfl, rfl, rfl, rfl⟩ (z_WT_sfr hki (fun b hb => by have := hx b hb; omega)) d kk
end ZH
