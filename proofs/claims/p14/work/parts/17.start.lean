/-! THE CLAIM OUT OF ONE WALK OF THE LAW'S BODY. Your part is whole_start (and what it stands on); all else here is the same for every law, but numbers. -/
def R_law : String := "TidewaterLaw"
def lw_P (b : Addr) (xs : List Int32) (args : Array Value) (s : State) : Prop := args = #[.ref b] ∧ s.IntsAt b xs ∧ xs.length ≤ 3072 ∧ (Jvm.Cond.and given_1 narrow_1).before args s = true
def lw_Q (_ : Array Value) (s : State) (o : Outcome) (t : State) : Prop := o = .returned (some (.int 1)) ∧ Framed s o t [] 601024 7293034
def lw_Z (below : List Frame) (a : Array Value) (s : State) : State → Prop := fun t => ∃ o, t.status = .running ∧ Ended t below o ∧ lw_Q a s o t
/-- the law's own end, with 1 on the stack, nothing written that was there before, its room as the claim has it -/
theorem lw_ret {p : Program} {l : Launch} {e : Env} {s : State} {m : MethodId} {below : List Frame} {meth : Method} {c : Code} {b : Nat} (hx : p.tables.exec = Jvm.exec) (hb : c.code = code) (hr : meth.sig.returnType = ret) (hlocks : meth.locks = false) {pc : Nat} {H : Heap} {ls : Array Slot} (hdg : decode code pc = .ok (.ireturn, 1)) : W p l e room_1 s m #[Value.ref b] below meth c H [] 601024 7293034 (lw_Z below #[Value.ref b] s) (F0 m pc ls [.int 1]) := by
  intro T hT X
  obtain ⟨fs, hret, hrun, hended, hW, hframe⟩ := X.leave (v := some (.int 1)) (hlocks := hlocks) (fun h => by rw [hr] at h; cases h)
  have hmeth' : T.vm.method? m = some meth := X.method'
  refine ⟨T.setFrames fs, ?_, .returned (some (.int 1)), hrun, hended, rfl, ⟨_, rfl⟩, hW, hframe⟩
  jvm_step X.here [X.here.top, hx, hb, hdg, hmeth', hr, ret, narrow_b1]
  (try refine ⟨rfl, ?_⟩); (try refine ⟨rfl, ?_⟩)
  first | (intro acts; rw [hret _ acts rfl rfl rfl]) | rw [hret _ _ rfl rfl rfl]
  exact Steps.refl _
/-- what holds at the law's entry: the machine, the code, the tables' words (any of lw_tbl by 'hts w (by decide +kernel)'), the script of L ints xs at the cell b, what the Statement gives of the start (any of its parts by flat_of_before) -/
def lw_At (p : Program) (s : State) (m : MethodId) (meth : Method) (c : Code) (b L : Nat) (xs : Nat → Int32) : Prop :=
  p.tables.exec = Jvm.exec ∧ c.code = code ∧ meth.sig.returnType = ret ∧ c.maxLocals = 7 ∧ s.vm.findClass R_law = some m.cls ∧ (∀ w ∈ lw_tbl, w.before #[Value.ref b] s = true) ∧ va_X b L xs s s.heap ∧ b < s.heap.size ∧ meth.locks = false ∧ (Jvm.Cond.and given_1 narrow_1).before #[Value.ref b] s = true
/-! ===== THE LAW, from its entry ===== -/
theorem z_lwZ {G : z_G} {M0 : z_Mem} {below : List Frame} {b : Nat} {s : State} (hA : ∀ q, z_A M0 q → s.heap.size ≤ q) (hc : z_cl M0 = 601024) (hsl : z_sl M0 = 7293034) : ∀ t, (z_QM G M0 (z_PB fun x _ => x = 1)) below #[Value.ref b] s t → lw_Z below #[Value.ref b] s t := by
  rintro t ⟨o, h1, h2, ⟨⟨r, M1, ho, ⟨x, hr, -, hx⟩, -⟩, -⟩, Ls, ⟨hv, hW, hF⟩, hL⟩
  subst hr hx
  refine ⟨o, h1, h2, ho, hv, hW, ?_⟩
  obtain ⟨f1, f2, f3, f4, f5, f6⟩ := hF
  refine ⟨f1, f2, by rw [hc] at f3; exact f3, f4, by rw [hsl] at f5; exact f5, fun a c hc => ?_⟩
  obtain ⟨c', g1, g2, g3, g4⟩ := f6 a c hc
  refine ⟨c', g1, g2, g3, fun i _ => g4 i fun hm => ?_⟩
  have k1 := hA _ (hL _ hm)
  have k2 := (Array.getElem?_eq_some_iff.mp hc).1
  exact absurd k1 (Nat.not_le.mpr k2)
theorem z_arrOK {s : State} {args : Array Value} {ty : FieldType} (h : (Cond.arrayClass ty).before args s = true) : ∃ cA, ArrOfT s cA ty ∧ s.vm.findClass ("[" ++ ty.toString) = some cA := by
  obtain ⟨c, k, comp, h1, h2, h3⟩ := Cond.arrayClass_spec h
  exact ⟨c, fun n z => ⟨fun k h => (by cases h), k, h2, comp, h3⟩, h1⟩
theorem z_arrOV {s : State} {args : Array Value} {C : String} (h : (Cond.arrayOver (.object C)).before args s = true) : ∃ cA, ArrOfT s cA (.object C) ∧ va_RA s cA (.object C) := by
  obtain ⟨comp, c, k, h1, h2, h3, h4, h5⟩ := Cond.arrayOver_spec h
  exact ⟨c, fun n z => ⟨fun k h => (by cases h), k, h3, comp, h4⟩, k, comp, h3, h4, h1, h5⟩
theorem z_tbl {w : Cond} (h : w ∈ tables_1) : w ∈ lw_tbl := List.mem_append_right _ h
/-- the memory at the law's entry -/
def z_M0 (n : Nat) : z_Mem := (fun _ => 0, fun _ => 0, fun _ _ => 0, fun _ _ => none, fun _ _ => 0, fun _ _ => none, fun _ _ => 0, n, 601024, 7293034)
theorem z_A0 {n q : Nat} (h : z_A (z_M0 n) q) : n ≤ q := by
  rcases h with h | h
  · exact absurd rfl h
  · exact h
theorem z_cball : ∀ c, c < 13 → z_CB c ∧ Cond.instantiable (z_R c) (z_N c) ∈ z_ws := by
  intro c hc
  rcases (show c = 0 ∨ c = 1 ∨ c = 2 ∨ c = 3 ∨ c = 4 ∨ c = 5 ∨ c = 6 ∨ c = 7 ∨ c = 8 ∨ c = 9 ∨ c = 10 ∨ c = 11 ∨ c = 12 by omega) with rfl | rfl | rfl | rfl | rfl | rfl | rfl | rfl | rfl | rfl | rfl | rfl | rfl
  · exact ⟨z_cb0, zw_706⟩
  · exact ⟨z_cb1, zw_292⟩
  · exact ⟨z_cb2, zw_304⟩
  · exact ⟨z_cb3, zw_37⟩
  · exact ⟨z_cb4, zw_115⟩
  · exact ⟨z_cb5, zw_31⟩
  · exact ⟨z_cb6, zw_1052⟩
  · exact ⟨z_cb7, zw_298⟩
  · exact ⟨z_cb8, zw_233⟩
  · exact ⟨z_cb9, zw_183⟩
  · exact ⟨z_cb10, zw_96⟩
  · exact ⟨z_cb11, zw_23⟩
  · exact ⟨z_cb12, zw_1248⟩
theorem z_nest_in : ∀ q ∈ z_nest, Cond.methodLinkNest q.1 q.2.1 q.2.2.1 q.2.2.2 ∈ tables_1 := by
  intro q hq
  rcases List.mem_cons.mp hq with rfl | hq
  · exact zx_32
  rcases List.mem_cons.mp hq with rfl | hq
  · exact zx_38
  rcases List.mem_cons.mp hq with rfl | hq
  · exact zx_184
  rcases List.mem_cons.mp hq with rfl | hq
  · exact zx_305
  rcases List.mem_cons.mp hq with rfl | hq
  · exact zx_517
  rcases List.mem_cons.mp hq with rfl | hq
  · exact zx_707
  rcases List.mem_cons.mp hq with rfl | hq
  · exact zx_913
  rcases List.mem_cons.mp hq with rfl | hq
  · exact zx_917
  cases hq
theorem z_dec_in : ∀ y ∈ z_dec, Cond.declares y ∈ tables_1 := by
  intro y hy
  rcases List.mem_cons.mp hy with rfl | hy
  · exact List.mem_of_getElem? (i := 548) (by decide +kernel)
  rcases List.mem_cons.mp hy with rfl | hy
  · exact List.mem_of_getElem? (i := 550) (by decide +kernel)
  rcases List.mem_cons.mp hy with rfl | hy
  · exact List.mem_of_getElem? (i := 552) (by decide +kernel)
  cases hy
theorem z_cast_in : ∀ E ∈ z_exs, Cond.castable E E ∈ tables_1 := by
  intro E hE
  rcases List.mem_cons.mp hE with rfl | hE
  · exact zx_546
  rcases List.mem_cons.mp hE with rfl | hE
  · exact zx_617
  rcases List.mem_cons.mp hE with rfl | hE
  · exact zx_770
  cases hE
theorem z_nc_in : ∀ E ∈ z_exs, ∀ F ∈ z_exs, E ≠ F → Cond.not (Cond.castable E F) ∈ flatC (Jvm.Cond.and given_1 narrow_1) := by decide +kernel
theorem z_str {s : State} {args : Array Value} {k : Nat} {tx : String} {cur : ClassId} (hc : s.vm.findClass "Tidewater" = some cur) (h : (Cond.stringRef "Tidewater" k tx).before args s = true) : ∃ a, vk_R "Tidewater" k tx a s := by
  obtain ⟨-, -, -, a, -, -, -, -, -, he⟩ := Cond.stringRef_spec (args := args) (first := s) (idx := []) (o := none) hc h
  exact ⟨a, vk_R.of h he⟩
set_option maxHeartbeats 4000000 in
set_option maxRecDepth 100000 in
theorem z_lawRun {p : Program} {e : Env} {s : State} {m : MethodId} {below : List Frame} {meth : Method} {c : Code} (l : Launch) (hflags : l.flags = flags0) {b L : Nat} {xs : Nat → Int32} (C0 : lw_At p s m meth c b L xs) (hP : ∀ n : Nat, P_L_law L xs (z_M0 n) (fun x _ => x = 1)) :
    W p l e room_1 s m #[Value.ref b] below meth c s.heap [] 0 0 (lw_Z below #[Value.ref b] s) (entryFrame m ([Value.ref b] : List Value).toArray 7) := by
  obtain ⟨hx, hb, hr, hml, hown, hts, hX, hbl, hlocks, hgv⟩ := id C0
  have hgf := flat_of_before _ hgv
  have hz : ∀ w ∈ z_ws, w.before #[Value.ref b] s = true := fun w hw => hts w (z_good w hw).1
  have hkn : ∀ c, c < 13 → ∃ d : ClassId × (Nat → Nat), u_Kn s (z_R c) (z_T c) (z_N c) d.1 d.2 := by
    intro c hc
    obtain ⟨cC, iS, h⟩ := u_known hz (z_cball c hc).1.2.1 (hz _ (z_cball c hc).2)
    exact ⟨(cC, iS), h⟩
  obtain ⟨f, hf⟩ : ∃ f : Nat → ClassId × (Nat → Nat), ∀ c, c < 13 → u_Kn s (z_R c) (z_T c) (z_N c) (f c).1 (f c).2 :=
    ⟨fun c => if h : c < 13 then (hkn c h).choose else (hkn 0 (by omega)).choose, fun c hc => by
      have e9 : (if h : c < 13 then (hkn c h).choose else (hkn 0 (by omega)).choose) = (hkn c hc).choose := dif_pos hc
      show u_Kn s (z_R c) (z_T c) (z_N c) (if h : c < 13 then (hkn c h).choose else (hkn 0 (by omega)).choose).1 (if h : c < 13 then (hkn c h).choose else (hkn 0 (by omega)).choose).2
      rw [e9]
      exact (hkn c hc).choose_spec⟩
  obtain ⟨a20, p20, q20⟩ := z_arrOK (hz _ zw_231)
  obtain ⟨a21, p21, q21⟩ := z_arrOK (hz _ zw_230)
  obtain ⟨a25, p25, q25⟩ := z_arrOK (hz _ zw_1806)
  obtain ⟨a22, p22, q22⟩ := z_arrOV (hts _ (z_tbl zx_43))
  obtain ⟨a23, p23, q23⟩ := z_arrOV (hts _ (z_tbl zx_424))
  obtain ⟨a24, p24, q24⟩ := z_arrOV (hts _ (z_tbl zx_182))
  obtain ⟨Y9, y20, y21, y22, y23, y24, y25⟩ : ∃ Y9 : Nat → ClassId, Y9 20 = a20 ∧ Y9 21 = a21 ∧ Y9 22 = a22 ∧ Y9 23 = a23 ∧ Y9 24 = a24 ∧ Y9 25 = a25 :=
    ⟨fun t => if t = 20 then a20 else if t = 21 then a21 else if t = 22 then a22 else if t = 23 then a23 else if t = 24 then a24 else a25, rfl, rfl, rfl, rfl, rfl, rfl⟩
  subst y20 y21 y22 y23 y24 y25
  have hK : va_K (fun c => (f c).1, fun c => (f c).2) vwCl (z_tys Y9) s := by
    refine ⟨fun c q hq => ?_, fun k q hq => ?_⟩
    · have hc : c < 13 := (List.getElem?_eq_some_iff.mp hq).1
      have h2 := (z_cball c hc).1.1
      cases Option.some.inj (hq.symm.trans h2)
      exact hf c hc
    · match k, hq with
      | 0, hq => cases hq; exact ⟨p20, q20⟩
      | 1, hq => cases hq; exact ⟨p21, q21⟩
      | 2, hq => cases hq; exact ⟨p22, q22⟩
      | 3, hq => cases hq; exact ⟨p23, q23⟩
      | 4, hq => cases hq; exact ⟨p24, q24⟩
      | 5, hq => cases hq; exact ⟨p25, q25⟩
      | k + 6, hq => simp at hq
  have hA : ∀ a : Nat, a < s.heap.size → ¬ z_A (z_M0 s.heap.size) a := fun a ha h => absurd (z_A0 h) (Nat.not_le.mpr ha)
  have hcur : s.vm.findClass "Tidewater" = some (f 11).1 := (hf 11 (by omega)).2.1
  have hi : (Cond.initialized "java/lang/Throwable").before #[Value.ref b] s = true := hts _ (z_tbl (List.mem_of_getElem? (i := 13) (by decide +kernel)))
  obtain ⟨s0, r0⟩ := z_str hcur (hts _ (z_tbl zx_585))
  obtain ⟨s1, r1⟩ := z_str hcur (hts _ (z_tbl zx_624))
  obtain ⟨s2, r2⟩ := z_str hcur (hts _ (z_tbl zx_686))
  obtain ⟨s3, r3⟩ := z_str hcur (hts _ (z_tbl zx_777))
  obtain ⟨s4, r4⟩ := z_str hcur (hts _ (z_tbl zx_1222))
  have hSt : z_St (z_A (z_M0 s.heap.size)) s s.heap := by
    refine ⟨vx_Zqof (hts _ (z_tbl zx_571)) hi (hgf _ (by decide +kernel)) hA, vx_Zqof (hts _ (z_tbl zx_573)) hi (hgf _ (by decide +kernel)) hA, fun j => if j = 0 then s0 else if j = 1 then s1 else if j = 2 then s2 else if j = 3 then s3 else s4, r0, r1, r2, r3, r4, fun q hq => va_Nw.of rfl (hts _ (z_tbl (z_nest_in q hq))), va_AO.of (hts _ (z_tbl zx_43)), va_AO.of (hts _ (z_tbl zx_424)), va_AO.of (hts _ (z_tbl zx_182)),
      fun E hE => va_Nw.of rfl (hts _ (z_tbl (z_cast_in E hE))), fun y hy => va_Nw.of rfl (hts _ (z_tbl (z_dec_in y hy))), fun E hE F hF hne => va_Nc.of (hgf _ (z_nc_in E hE F hF hne))⟩
  have hR : z_Rep (l, (fun c => (f c).1, fun c => (f c).2), Y9, s.heap.size + 601024, z_wg s.heap + 7293034) (z_M0 s.heap.size) s.heap := by
    refine ⟨rfl, rfl, rfl, fun a => ⟨fun c hc _ => ?_, fun h => ?_, fun h _ => ?_, fun h => ?_⟩⟩
    · have : (0 : Nat) = c + 1 := hc; omega
    · have : (0 : Nat) = 20 ∨ (0 : Nat) = 21 := h; omega
    · have : 22 ≤ (0 : Nat) := h; omega
    · have : (0 : Nat) = 25 := h; omega
  have hT : z_WT (z_M0 s.heap.size) := by
    refine ⟨fun a h => absurd rfl h, fun a c k b h => ?_, fun a c k h => ?_, fun a j b h => ?_, fun a j h => ?_, fun a => ?_⟩
    · have : (0 : Nat) = c + 1 := h; omega
    · have : (0 : Nat) = c + 1 := h; omega
    · have : 22 ≤ (0 : Nat) := h; omega
    · have : (0 : Nat) = 21 := h; omega
    · show (0 : Nat) < 2 ^ 31; omega
  have hl9 : l.stackTraces = false := by
    unfold Launch.stackTraces
    rw [hflags]
    rfl
  have hl := lv_entry ([Value.ref b]) (n := 7) (Nat.le_of_ble_eq_true rfl)
  rw [lg_entry_eq]
  generalize (lg_sl ([Value.ref b]) ++ List.replicate (7 - (lg_sl ([Value.ref b])).length) Slot.unset).toArray = ls at hl ⊢
  have hl : z_lh ls 7 [(0, z_O (some b))] := hl
  have hV := s_L_law (G := (l, (fun c => (f c).1, fun c => (f c).2), Y9, s.heap.size + 601024, z_wg s.heap + 7293034)) (M := z_M0 s.heap.size) (a := b) (L := L) (xs := xs) hl9 rfl (hP s.heap.size)
  have hW := hV p e room_1 s m #[Value.ref b] below meth c ⟨hx, hb, hr, hml, hown, hz, hlocks, fun h => absurd h (by decide), hK, hR, hSt, Nat.le_of_ble_eq_true rfl, Nat.le_of_ble_eq_true rfl, rfl, rfl, hX, hbl⟩ s.heap [] ls hR hT (z_Ext.rf _) va_S.rf hl
  rw [Nat.sub_self, Nat.sub_self] at hW
  exact z_mono (z_lwZ (fun q h => z_A0 h) rfl rfl) hW
