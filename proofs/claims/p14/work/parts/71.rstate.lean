/-! ===== THE REFERENCE'S CELLS AS A STATE ===== -/
abbrev q_R : Type := (Nat → Int32) × (Nat → Nat → Int32)
def uf (r : q_R) (g : Nat) (v : Int32) : q_R := (fun k => if k = g then v else r.1 k, r.2)
def ua (r : q_R) (x j : Nat) (v : Int32) : q_R := (r.1, fun y i => if y = x then (if i = j then v else r.2 y i) else r.2 y i)
def q_rep (n : Nat) (M : z_Mem) (r : q_R) : Prop := (∀ g, 1536 ≤ g → z_fi M g (n + 40) = r.1 g) ∧ (∀ x j, 41 ≤ x → x < 107 → z_ai M (n + x) j = r.2 x j)
def q_st {A B : Type} (a : A) (f : A → B) : B := f a
def q_st2 {A B C : Type} (p : A × B) (f : A → B → C) : C := f p.1 p.2
theorem q_ste {A B : Type} {a b : A} {f : A → B} (e : b = a) : q_st a f = f b := by rw [e]; rfl
theorem q_ste2 {A B C : Type} {p : A × B} {f : A → B → C} {a : A} {b : B} (e : p = (a, b)) : q_st2 p f = f a b := by rw [e]; rfl
theorem q_gen {n : Nat} {M : z_Mem} {r : q_R} (R : q_rep n M r) : ∃ r1, q_rep n M r1 ∧ r1 = r := ⟨r, R, rfl⟩
theorem z_nne {r : Option Nat} {K : Nat → Prop} {a : Nat} (h : r = some a) (k : z_nn r K) : K a := by
  obtain ⟨b, hb, k⟩ := k
  rw [h] at hb
  cases hb
  exact k
theorem rep_sai {n x j : Nat} {v : Int32} {M M1 : z_Mem} {r : q_R} (R : q_rep n M r) (h0 : 41 ≤ x) (h1 : x < 107) (e : M1 = z_sai M (n + x) j v) : q_rep n M1 (ua r x j v) := by
  subst e
  refine ⟨R.1, fun y i g0 g1 => ?_⟩
  rw [zq_ai_sai]
  unfold ua
  by_cases hy : y = x
  · rw [if_pos (by omega)]
    simp only [hy, ↓reduceIte]
    by_cases hi : i = j
    · rw [if_pos hi, if_pos hi]
    · rw [if_neg hi, if_neg hi]; exact hy ▸ R.2 y i g0 g1
  · rw [if_neg (by omega)]
    simp only [hy, ↓reduceIte]
    exact R.2 y i g0 g1
theorem rep_sfi {n g : Nat} {v : Int32} {M M1 : z_Mem} {r : q_R} (R : q_rep n M r) (e : M1 = z_sfi M g (n + 40) v) : q_rep n M1 (uf r g v) := by
  subst e
  refine ⟨fun k hk => ?_, R.2⟩
  rw [zq_fi_sfi]
  unfold uf
  by_cases hy : k = g
  · simp only [hy, ↓reduceIte]
  · simp only [hy, ↓reduceIte]; exact R.1 k hk
/-- loops: what comes out, if anything does -/
def q_it {X Y : Type} (step : X → X ⊕ Y) : Nat → X → Option Y
  | 0, _ => none
  | k + 1, x => match step x with
    | .inl x1 => q_it step k x1
    | .inr y => some y
noncomputable def q_lp {X Y : Type} (d : Y) (step : X → X ⊕ Y) (x : X) : Y := @Classical.epsilon Y ⟨d⟩ (fun y => ∃ k, q_it step k x = some y)
theorem q_lpl {X Y : Type} {d : Y} {step : X → X ⊕ Y} {x x1 : X} (h : step x = .inl x1) : q_lp d step x = q_lp d step x1 := by
  unfold q_lp
  have : (fun y => ∃ k, q_it step k x = some y) = (fun y => ∃ k, q_it step k x1 = some y) := by
    funext y
    refine propext ⟨fun ⟨k, hk⟩ => ?_, fun ⟨k, hk⟩ => ⟨k + 1, ?_⟩⟩
    · cases k with
      | zero => cases hk
      | succ k => unfold q_it at hk; rw [h] at hk; exact ⟨k, hk⟩
    · unfold q_it; rw [h]; exact hk
  rw [this]
theorem q_lpr {X Y : Type} {d : Y} {step : X → X ⊕ Y} {x : X} {y : Y} (h : step x = .inr y) : q_lp d step x = y := by
  unfold q_lp
  have h1 : ∃ y, ∃ k, q_it step k x = some y := ⟨y, 1, by unfold q_it; rw [h]⟩
  obtain ⟨k, hk⟩ := @Classical.epsilon_spec Y (fun y => ∃ k, q_it step k x = some y) h1
  cases k with
  | zero => cases hk
  | succ k =>
    have hk2 : q_it step (k + 1) x = some y := by unfold q_it; rw [h]
    exact Option.some.inj (hk.symm.trans hk2)
section QA
variable {n : Nat} {M : z_Mem} {r : q_R}
theorem qa_v {x : Nat} (R : q_rep n M r) (h0 : 41 ≤ x) (h1 : x < 107) (j : Nat) : z_ai M (n + x) j = r.2 x j := R.2 x j h0 h1
theorem qa_41 (R : q_rep n M r) (j : Nat) : z_ai M (n + 41) j = r.2 41 j := R.2 41 j (by decide) (by decide)
theorem qa_42 (R : q_rep n M r) (j : Nat) : z_ai M (n + 42) j = r.2 42 j := R.2 42 j (by decide) (by decide)
theorem qa_43 (R : q_rep n M r) (j : Nat) : z_ai M (n + 43) j = r.2 43 j := R.2 43 j (by decide) (by decide)
theorem qa_44 (R : q_rep n M r) (j : Nat) : z_ai M (n + 44) j = r.2 44 j := R.2 44 j (by decide) (by decide)
theorem qa_45 (R : q_rep n M r) (j : Nat) : z_ai M (n + 45) j = r.2 45 j := R.2 45 j (by decide) (by decide)
theorem qa_46 (R : q_rep n M r) (j : Nat) : z_ai M (n + 46) j = r.2 46 j := R.2 46 j (by decide) (by decide)
theorem qa_47 (R : q_rep n M r) (j : Nat) : z_ai M (n + 47) j = r.2 47 j := R.2 47 j (by decide) (by decide)
theorem qa_48 (R : q_rep n M r) (j : Nat) : z_ai M (n + 48) j = r.2 48 j := R.2 48 j (by decide) (by decide)
theorem qa_49 (R : q_rep n M r) (j : Nat) : z_ai M (n + 49) j = r.2 49 j := R.2 49 j (by decide) (by decide)
theorem qa_50 (R : q_rep n M r) (j : Nat) : z_ai M (n + 50) j = r.2 50 j := R.2 50 j (by decide) (by decide)
theorem qa_51 (R : q_rep n M r) (j : Nat) : z_ai M (n + 51) j = r.2 51 j := R.2 51 j (by decide) (by decide)
theorem qa_52 (R : q_rep n M r) (j : Nat) : z_ai M (n + 52) j = r.2 52 j := R.2 52 j (by decide) (by decide)
theorem qa_53 (R : q_rep n M r) (j : Nat) : z_ai M (n + 53) j = r.2 53 j := R.2 53 j (by decide) (by decide)
theorem qa_54 (R : q_rep n M r) (j : Nat) : z_ai M (n + 54) j = r.2 54 j := R.2 54 j (by decide) (by decide)
theorem qa_55 (R : q_rep n M r) (j : Nat) : z_ai M (n + 55) j = r.2 55 j := R.2 55 j (by decide) (by decide)
theorem qa_56 (R : q_rep n M r) (j : Nat) : z_ai M (n + 56) j = r.2 56 j := R.2 56 j (by decide) (by decide)
theorem qa_57 (R : q_rep n M r) (j : Nat) : z_ai M (n + 57) j = r.2 57 j := R.2 57 j (by decide) (by decide)
theorem qa_58 (R : q_rep n M r) (j : Nat) : z_ai M (n + 58) j = r.2 58 j := R.2 58 j (by decide) (by decide)
theorem qa_59 (R : q_rep n M r) (j : Nat) : z_ai M (n + 59) j = r.2 59 j := R.2 59 j (by decide) (by decide)
theorem qa_60 (R : q_rep n M r) (j : Nat) : z_ai M (n + 60) j = r.2 60 j := R.2 60 j (by decide) (by decide)
theorem qa_61 (R : q_rep n M r) (j : Nat) : z_ai M (n + 61) j = r.2 61 j := R.2 61 j (by decide) (by decide)
theorem qa_62 (R : q_rep n M r) (j : Nat) : z_ai M (n + 62) j = r.2 62 j := R.2 62 j (by decide) (by decide)
theorem qa_63 (R : q_rep n M r) (j : Nat) : z_ai M (n + 63) j = r.2 63 j := R.2 63 j (by decide) (by decide)
theorem qa_64 (R : q_rep n M r) (j : Nat) : z_ai M (n + 64) j = r.2 64 j := R.2 64 j (by decide) (by decide)
theorem qa_65 (R : q_rep n M r) (j : Nat) : z_ai M (n + 65) j = r.2 65 j := R.2 65 j (by decide) (by decide)
theorem qa_66 (R : q_rep n M r) (j : Nat) : z_ai M (n + 66) j = r.2 66 j := R.2 66 j (by decide) (by decide)
theorem qa_67 (R : q_rep n M r) (j : Nat) : z_ai M (n + 67) j = r.2 67 j := R.2 67 j (by decide) (by decide)
theorem qa_68 (R : q_rep n M r) (j : Nat) : z_ai M (n + 68) j = r.2 68 j := R.2 68 j (by decide) (by decide)
theorem qa_69 (R : q_rep n M r) (j : Nat) : z_ai M (n + 69) j = r.2 69 j := R.2 69 j (by decide) (by decide)
theorem qa_70 (R : q_rep n M r) (j : Nat) : z_ai M (n + 70) j = r.2 70 j := R.2 70 j (by decide) (by decide)
theorem qa_71 (R : q_rep n M r) (j : Nat) : z_ai M (n + 71) j = r.2 71 j := R.2 71 j (by decide) (by decide)
theorem qa_72 (R : q_rep n M r) (j : Nat) : z_ai M (n + 72) j = r.2 72 j := R.2 72 j (by decide) (by decide)
theorem qa_73 (R : q_rep n M r) (j : Nat) : z_ai M (n + 73) j = r.2 73 j := R.2 73 j (by decide) (by decide)
theorem qa_74 (R : q_rep n M r) (j : Nat) : z_ai M (n + 74) j = r.2 74 j := R.2 74 j (by decide) (by decide)
theorem qa_75 (R : q_rep n M r) (j : Nat) : z_ai M (n + 75) j = r.2 75 j := R.2 75 j (by decide) (by decide)
theorem qa_76 (R : q_rep n M r) (j : Nat) : z_ai M (n + 76) j = r.2 76 j := R.2 76 j (by decide) (by decide)
theorem qa_77 (R : q_rep n M r) (j : Nat) : z_ai M (n + 77) j = r.2 77 j := R.2 77 j (by decide) (by decide)
theorem qa_78 (R : q_rep n M r) (j : Nat) : z_ai M (n + 78) j = r.2 78 j := R.2 78 j (by decide) (by decide)
theorem qa_79 (R : q_rep n M r) (j : Nat) : z_ai M (n + 79) j = r.2 79 j := R.2 79 j (by decide) (by decide)
theorem qa_80 (R : q_rep n M r) (j : Nat) : z_ai M (n + 80) j = r.2 80 j := R.2 80 j (by decide) (by decide)
theorem qa_81 (R : q_rep n M r) (j : Nat) : z_ai M (n + 81) j = r.2 81 j := R.2 81 j (by decide) (by decide)
theorem qa_82 (R : q_rep n M r) (j : Nat) : z_ai M (n + 82) j = r.2 82 j := R.2 82 j (by decide) (by decide)
theorem qa_83 (R : q_rep n M r) (j : Nat) : z_ai M (n + 83) j = r.2 83 j := R.2 83 j (by decide) (by decide)
theorem qa_84 (R : q_rep n M r) (j : Nat) : z_ai M (n + 84) j = r.2 84 j := R.2 84 j (by decide) (by decide)
theorem qa_85 (R : q_rep n M r) (j : Nat) : z_ai M (n + 85) j = r.2 85 j := R.2 85 j (by decide) (by decide)
theorem qa_86 (R : q_rep n M r) (j : Nat) : z_ai M (n + 86) j = r.2 86 j := R.2 86 j (by decide) (by decide)
theorem qa_87 (R : q_rep n M r) (j : Nat) : z_ai M (n + 87) j = r.2 87 j := R.2 87 j (by decide) (by decide)
theorem qa_88 (R : q_rep n M r) (j : Nat) : z_ai M (n + 88) j = r.2 88 j := R.2 88 j (by decide) (by decide)
theorem qa_89 (R : q_rep n M r) (j : Nat) : z_ai M (n + 89) j = r.2 89 j := R.2 89 j (by decide) (by decide)
theorem qa_90 (R : q_rep n M r) (j : Nat) : z_ai M (n + 90) j = r.2 90 j := R.2 90 j (by decide) (by decide)
theorem qa_91 (R : q_rep n M r) (j : Nat) : z_ai M (n + 91) j = r.2 91 j := R.2 91 j (by decide) (by decide)
theorem qa_92 (R : q_rep n M r) (j : Nat) : z_ai M (n + 92) j = r.2 92 j := R.2 92 j (by decide) (by decide)
theorem qa_93 (R : q_rep n M r) (j : Nat) : z_ai M (n + 93) j = r.2 93 j := R.2 93 j (by decide) (by decide)
theorem qa_94 (R : q_rep n M r) (j : Nat) : z_ai M (n + 94) j = r.2 94 j := R.2 94 j (by decide) (by decide)
theorem qa_95 (R : q_rep n M r) (j : Nat) : z_ai M (n + 95) j = r.2 95 j := R.2 95 j (by decide) (by decide)
theorem qa_96 (R : q_rep n M r) (j : Nat) : z_ai M (n + 96) j = r.2 96 j := R.2 96 j (by decide) (by decide)
theorem qa_97 (R : q_rep n M r) (j : Nat) : z_ai M (n + 97) j = r.2 97 j := R.2 97 j (by decide) (by decide)
theorem qa_98 (R : q_rep n M r) (j : Nat) : z_ai M (n + 98) j = r.2 98 j := R.2 98 j (by decide) (by decide)
theorem qa_99 (R : q_rep n M r) (j : Nat) : z_ai M (n + 99) j = r.2 99 j := R.2 99 j (by decide) (by decide)
theorem qa_100 (R : q_rep n M r) (j : Nat) : z_ai M (n + 100) j = r.2 100 j := R.2 100 j (by decide) (by decide)
theorem qa_101 (R : q_rep n M r) (j : Nat) : z_ai M (n + 101) j = r.2 101 j := R.2 101 j (by decide) (by decide)
theorem qa_102 (R : q_rep n M r) (j : Nat) : z_ai M (n + 102) j = r.2 102 j := R.2 102 j (by decide) (by decide)
theorem qa_103 (R : q_rep n M r) (j : Nat) : z_ai M (n + 103) j = r.2 103 j := R.2 103 j (by decide) (by decide)
theorem qa_104 (R : q_rep n M r) (j : Nat) : z_ai M (n + 104) j = r.2 104 j := R.2 104 j (by decide) (by decide)
theorem qa_105 (R : q_rep n M r) (j : Nat) : z_ai M (n + 105) j = r.2 105 j := R.2 105 j (by decide) (by decide)
theorem qa_106 (R : q_rep n M r) (j : Nat) : z_ai M (n + 106) j = r.2 106 j := R.2 106 j (by decide) (by decide)
theorem qf_1536 (R : q_rep n M r) : z_fi M 1536 (n + 40) = r.1 1536 := R.1 1536 (by decide)
theorem qf_1537 (R : q_rep n M r) : z_fi M 1537 (n + 40) = r.1 1537 := R.1 1537 (by decide)
theorem qf_1538 (R : q_rep n M r) : z_fi M 1538 (n + 40) = r.1 1538 := R.1 1538 (by decide)
theorem qf_1539 (R : q_rep n M r) : z_fi M 1539 (n + 40) = r.1 1539 := R.1 1539 (by decide)
theorem qf_1540 (R : q_rep n M r) : z_fi M 1540 (n + 40) = r.1 1540 := R.1 1540 (by decide)
theorem qf_1541 (R : q_rep n M r) : z_fi M 1541 (n + 40) = r.1 1541 := R.1 1541 (by decide)
theorem qf_1542 (R : q_rep n M r) : z_fi M 1542 (n + 40) = r.1 1542 := R.1 1542 (by decide)
theorem qf_1543 (R : q_rep n M r) : z_fi M 1543 (n + 40) = r.1 1543 := R.1 1543 (by decide)
theorem qf_1544 (R : q_rep n M r) : z_fi M 1544 (n + 40) = r.1 1544 := R.1 1544 (by decide)
theorem qf_1545 (R : q_rep n M r) : z_fi M 1545 (n + 40) = r.1 1545 := R.1 1545 (by decide)
theorem qf_1546 (R : q_rep n M r) : z_fi M 1546 (n + 40) = r.1 1546 := R.1 1546 (by decide)
theorem qf_1547 (R : q_rep n M r) : z_fi M 1547 (n + 40) = r.1 1547 := R.1 1547 (by decide)
theorem qf_1548 (R : q_rep n M r) : z_fi M 1548 (n + 40) = r.1 1548 := R.1 1548 (by decide)
theorem qf_1549 (R : q_rep n M r) : z_fi M 1549 (n + 40) = r.1 1549 := R.1 1549 (by decide)
theorem qf_1550 (R : q_rep n M r) : z_fi M 1550 (n + 40) = r.1 1550 := R.1 1550 (by decide)
theorem qf_1551 (R : q_rep n M r) : z_fi M 1551 (n + 40) = r.1 1551 := R.1 1551 (by decide)
theorem qf_1552 (R : q_rep n M r) : z_fi M 1552 (n + 40) = r.1 1552 := R.1 1552 (by decide)
theorem qf_1553 (R : q_rep n M r) : z_fi M 1553 (n + 40) = r.1 1553 := R.1 1553 (by decide)
theorem qf_1554 (R : q_rep n M r) : z_fi M 1554 (n + 40) = r.1 1554 := R.1 1554 (by decide)
theorem qf_1555 (R : q_rep n M r) : z_fi M 1555 (n + 40) = r.1 1555 := R.1 1555 (by decide)
theorem qf_1556 (R : q_rep n M r) : z_fi M 1556 (n + 40) = r.1 1556 := R.1 1556 (by decide)
theorem qf_1557 (R : q_rep n M r) : z_fi M 1557 (n + 40) = r.1 1557 := R.1 1557 (by decide)
theorem qf_1558 (R : q_rep n M r) : z_fi M 1558 (n + 40) = r.1 1558 := R.1 1558 (by decide)
theorem qf_1559 (R : q_rep n M r) : z_fi M 1559 (n + 40) = r.1 1559 := R.1 1559 (by decide)
theorem qf_1560 (R : q_rep n M r) : z_fi M 1560 (n + 40) = r.1 1560 := R.1 1560 (by decide)
theorem qf_1561 (R : q_rep n M r) : z_fi M 1561 (n + 40) = r.1 1561 := R.1 1561 (by decide)
theorem qf_1562 (R : q_rep n M r) : z_fi M 1562 (n + 40) = r.1 1562 := R.1 1562 (by decide)
theorem qf_1563 (R : q_rep n M r) : z_fi M 1563 (n + 40) = r.1 1563 := R.1 1563 (by decide)
theorem qf_1564 (R : q_rep n M r) : z_fi M 1564 (n + 40) = r.1 1564 := R.1 1564 (by decide)
theorem qf_1565 (R : q_rep n M r) : z_fi M 1565 (n + 40) = r.1 1565 := R.1 1565 (by decide)
theorem qf_1566 (R : q_rep n M r) : z_fi M 1566 (n + 40) = r.1 1566 := R.1 1566 (by decide)
theorem qf_1567 (R : q_rep n M r) : z_fi M 1567 (n + 40) = r.1 1567 := R.1 1567 (by decide)
theorem qf_1568 (R : q_rep n M r) : z_fi M 1568 (n + 40) = r.1 1568 := R.1 1568 (by decide)
theorem qf_1569 (R : q_rep n M r) : z_fi M 1569 (n + 40) = r.1 1569 := R.1 1569 (by decide)
theorem qf_1570 (R : q_rep n M r) : z_fi M 1570 (n + 40) = r.1 1570 := R.1 1570 (by decide)
theorem qf_1571 (R : q_rep n M r) : z_fi M 1571 (n + 40) = r.1 1571 := R.1 1571 (by decide)
theorem qf_1572 (R : q_rep n M r) : z_fi M 1572 (n + 40) = r.1 1572 := R.1 1572 (by decide)
theorem qf_1573 (R : q_rep n M r) : z_fi M 1573 (n + 40) = r.1 1573 := R.1 1573 (by decide)
theorem qf_1574 (R : q_rep n M r) : z_fi M 1574 (n + 40) = r.1 1574 := R.1 1574 (by decide)
theorem qf_1575 (R : q_rep n M r) : z_fi M 1575 (n + 40) = r.1 1575 := R.1 1575 (by decide)
theorem qf_1576 (R : q_rep n M r) : z_fi M 1576 (n + 40) = r.1 1576 := R.1 1576 (by decide)
theorem qf_1577 (R : q_rep n M r) : z_fi M 1577 (n + 40) = r.1 1577 := R.1 1577 (by decide)
theorem qf_1578 (R : q_rep n M r) : z_fi M 1578 (n + 40) = r.1 1578 := R.1 1578 (by decide)
theorem qf_1579 (R : q_rep n M r) : z_fi M 1579 (n + 40) = r.1 1579 := R.1 1579 (by decide)
theorem qf_1580 (R : q_rep n M r) : z_fi M 1580 (n + 40) = r.1 1580 := R.1 1580 (by decide)
theorem qf_1581 (R : q_rep n M r) : z_fi M 1581 (n + 40) = r.1 1581 := R.1 1581 (by decide)
theorem qf_1582 (R : q_rep n M r) : z_fi M 1582 (n + 40) = r.1 1582 := R.1 1582 (by decide)
theorem qf_1583 (R : q_rep n M r) : z_fi M 1583 (n + 40) = r.1 1583 := R.1 1583 (by decide)
theorem qf_1584 (R : q_rep n M r) : z_fi M 1584 (n + 40) = r.1 1584 := R.1 1584 (by decide)
theorem qf_1585 (R : q_rep n M r) : z_fi M 1585 (n + 40) = r.1 1585 := R.1 1585 (by decide)
theorem qf_1586 (R : q_rep n M r) : z_fi M 1586 (n + 40) = r.1 1586 := R.1 1586 (by decide)
theorem qf_1587 (R : q_rep n M r) : z_fi M 1587 (n + 40) = r.1 1587 := R.1 1587 (by decide)
theorem qf_1588 (R : q_rep n M r) : z_fi M 1588 (n + 40) = r.1 1588 := R.1 1588 (by decide)
theorem qf_1589 (R : q_rep n M r) : z_fi M 1589 (n + 40) = r.1 1589 := R.1 1589 (by decide)
theorem qf_1590 (R : q_rep n M r) : z_fi M 1590 (n + 40) = r.1 1590 := R.1 1590 (by decide)
theorem qf_1591 (R : q_rep n M r) : z_fi M 1591 (n + 40) = r.1 1591 := R.1 1591 (by decide)
theorem qf_1592 (R : q_rep n M r) : z_fi M 1592 (n + 40) = r.1 1592 := R.1 1592 (by decide)
theorem qf_1593 (R : q_rep n M r) : z_fi M 1593 (n + 40) = r.1 1593 := R.1 1593 (by decide)
theorem qf_1594 (R : q_rep n M r) : z_fi M 1594 (n + 40) = r.1 1594 := R.1 1594 (by decide)
theorem qf_1595 (R : q_rep n M r) : z_fi M 1595 (n + 40) = r.1 1595 := R.1 1595 (by decide)
theorem qf_1596 (R : q_rep n M r) : z_fi M 1596 (n + 40) = r.1 1596 := R.1 1596 (by decide)
theorem qf_1597 (R : q_rep n M r) : z_fi M 1597 (n + 40) = r.1 1597 := R.1 1597 (by decide)
theorem qf_1598 (R : q_rep n M r) : z_fi M 1598 (n + 40) = r.1 1598 := R.1 1598 (by decide)
theorem qf_1599 (R : q_rep n M r) : z_fi M 1599 (n + 40) = r.1 1599 := R.1 1599 (by decide)
theorem qf_1600 (R : q_rep n M r) : z_fi M 1600 (n + 40) = r.1 1600 := R.1 1600 (by decide)
theorem qf_1601 (R : q_rep n M r) : z_fi M 1601 (n + 40) = r.1 1601 := R.1 1601 (by decide)
theorem qf_1602 (R : q_rep n M r) : z_fi M 1602 (n + 40) = r.1 1602 := R.1 1602 (by decide)
theorem qf_1603 (R : q_rep n M r) : z_fi M 1603 (n + 40) = r.1 1603 := R.1 1603 (by decide)
theorem qf_1604 (R : q_rep n M r) : z_fi M 1604 (n + 40) = r.1 1604 := R.1 1604 (by decide)
theorem qf_1605 (R : q_rep n M r) : z_fi M 1605 (n + 40) = r.1 1605 := R.1 1605 (by decide)
theorem qf_1606 (R : q_rep n M r) : z_fi M 1606 (n + 40) = r.1 1606 := R.1 1606 (by decide)
theorem qf_1607 (R : q_rep n M r) : z_fi M 1607 (n + 40) = r.1 1607 := R.1 1607 (by decide)
theorem qf_1608 (R : q_rep n M r) : z_fi M 1608 (n + 40) = r.1 1608 := R.1 1608 (by decide)
theorem qf_1609 (R : q_rep n M r) : z_fi M 1609 (n + 40) = r.1 1609 := R.1 1609 (by decide)
theorem qf_1610 (R : q_rep n M r) : z_fi M 1610 (n + 40) = r.1 1610 := R.1 1610 (by decide)
theorem qf_1611 (R : q_rep n M r) : z_fi M 1611 (n + 40) = r.1 1611 := R.1 1611 (by decide)
theorem qf_1612 (R : q_rep n M r) : z_fi M 1612 (n + 40) = r.1 1612 := R.1 1612 (by decide)
theorem qf_1613 (R : q_rep n M r) : z_fi M 1613 (n + 40) = r.1 1613 := R.1 1613 (by decide)
theorem qf_1614 (R : q_rep n M r) : z_fi M 1614 (n + 40) = r.1 1614 := R.1 1614 (by decide)
theorem qf_1615 (R : q_rep n M r) : z_fi M 1615 (n + 40) = r.1 1615 := R.1 1615 (by decide)
theorem qf_1616 (R : q_rep n M r) : z_fi M 1616 (n + 40) = r.1 1616 := R.1 1616 (by decide)
theorem qf_1617 (R : q_rep n M r) : z_fi M 1617 (n + 40) = r.1 1617 := R.1 1617 (by decide)
theorem qf_1618 (R : q_rep n M r) : z_fi M 1618 (n + 40) = r.1 1618 := R.1 1618 (by decide)
theorem qf_1619 (R : q_rep n M r) : z_fi M 1619 (n + 40) = r.1 1619 := R.1 1619 (by decide)
theorem qf_1620 (R : q_rep n M r) : z_fi M 1620 (n + 40) = r.1 1620 := R.1 1620 (by decide)
theorem qf_1621 (R : q_rep n M r) : z_fi M 1621 (n + 40) = r.1 1621 := R.1 1621 (by decide)
theorem qf_1622 (R : q_rep n M r) : z_fi M 1622 (n + 40) = r.1 1622 := R.1 1622 (by decide)
theorem qf_1623 (R : q_rep n M r) : z_fi M 1623 (n + 40) = r.1 1623 := R.1 1623 (by decide)
theorem qf_1624 (R : q_rep n M r) : z_fi M 1624 (n + 40) = r.1 1624 := R.1 1624 (by decide)
theorem qf_1625 (R : q_rep n M r) : z_fi M 1625 (n + 40) = r.1 1625 := R.1 1625 (by decide)
theorem qf_1626 (R : q_rep n M r) : z_fi M 1626 (n + 40) = r.1 1626 := R.1 1626 (by decide)
theorem qf_1627 (R : q_rep n M r) : z_fi M 1627 (n + 40) = r.1 1627 := R.1 1627 (by decide)
theorem qf_1628 (R : q_rep n M r) : z_fi M 1628 (n + 40) = r.1 1628 := R.1 1628 (by decide)
theorem qf_1629 (R : q_rep n M r) : z_fi M 1629 (n + 40) = r.1 1629 := R.1 1629 (by decide)
theorem qf_1630 (R : q_rep n M r) : z_fi M 1630 (n + 40) = r.1 1630 := R.1 1630 (by decide)
theorem qf_1631 (R : q_rep n M r) : z_fi M 1631 (n + 40) = r.1 1631 := R.1 1631 (by decide)
end QA
