set_option maxRecDepth 100000 in
def P_X12_init_674 (a : Nat) (Post : z_Mem → Prop)  : Nat → Int32 → z_Mem → Prop
  | 0, _, _ => False
  | n + 1, x1, M => ((4 ≤ x1 → Post M) ∧ (¬ 4 ≤ x1 → z_nn (z_fr M 1588 a) fun a3 => (vp_in x1 (z_ln M a3) ∧ (∀ M_5 : z_Mem, M_5 = z_sai M a3 ((x1 : Int32).toNatClampNeg) 40 → (∀ x_6 : Int32, x_6 = x1 + 1 → (P_X12_init_674 a Post n x_6 M_5))))))
set_option maxRecDepth 100000 in
def P_X12_init_561 (a : Nat) (Post : z_Mem → Prop)  : Nat → Int32 → z_Mem → Prop
  | 0, _, _ => False
  | n + 1, x1, M => ((2 ≤ x1 → z_nn (z_fr M 1615 a) fun a9 => (vp_in 0 (z_ln M a9) ∧ (∀ M_11 : z_Mem, M_11 = z_sai M a9 ((0 : Int32).toNatClampNeg) 1 → ((∃ n12 : Nat, P_X12_init_674 a Post n12 0 M_11))))) ∧ (¬ 2 ≤ x1 → z_nn (z_fr M 1537 a) fun a14 => (vp_in x1 (z_ln M a14) ∧ (∀ M_16 : z_Mem, M_16 = z_sai M a14 ((x1 : Int32).toNatClampNeg) 5 → (z_nn (z_fr M_16 1538 a) fun a18 => (vp_in x1 (z_ln M_16 a18) ∧ (∀ M_20 : z_Mem, M_20 = z_sai M_16 a18 ((x1 : Int32).toNatClampNeg) 2 → (z_nn (z_fr M_20 1539 a) fun a22 => (vp_in x1 (z_ln M_20 a22) ∧ (∀ M_24 : z_Mem, M_24 = z_sai M_20 a22 ((x1 : Int32).toNatClampNeg) 8 → (z_nn (z_fr M_24 1540 a) fun a26 => (vp_in x1 (z_ln M_24 a26) ∧ (∀ M_28 : z_Mem, M_28 = z_sai M_24 a26 ((x1 : Int32).toNatClampNeg) 6 → (z_nn (z_fr M_28 1607 a) fun a30 => (vp_in x1 (z_ln M_28 a30) ∧ (∀ M_32 : z_Mem, M_32 = z_sai M_28 a30 ((x1 : Int32).toNatClampNeg) 160 → (z_nn (z_fr M_32 1608 a) fun a34 => (vp_in x1 (z_ln M_32 a34) ∧ (∀ M_36 : z_Mem, M_36 = z_sai M_32 a34 ((x1 : Int32).toNatClampNeg) 999999 → (z_nn (z_fr M_36 1610 a) fun a38 => (vp_in x1 (z_ln M_36 a38) ∧ (∀ M_40 : z_Mem, M_40 = z_sai M_36 a38 ((x1 : Int32).toNatClampNeg) 80 → (z_nn (z_fr M_40 1611 a) fun a42 => (vp_in x1 (z_ln M_40 a42) ∧ (∀ M_44 : z_Mem, M_44 = z_sai M_40 a42 ((x1 : Int32).toNatClampNeg) 20 → (z_nn (z_fr M_44 1612 a) fun a46 => (vp_in x1 (z_ln M_44 a46) ∧ (∀ M_48 : z_Mem, M_48 = z_sai M_44 a46 ((x1 : Int32).toNatClampNeg) 10 → (z_nn (z_fr M_48 1613 a) fun a50 => (vp_in x1 (z_ln M_48 a50) ∧ (∀ M_52 : z_Mem, M_52 = z_sai M_48 a50 ((x1 : Int32).toNatClampNeg) 10 → (z_nn (z_fr M_52 1617 a) fun a54 => (vp_in x1 (z_ln M_52 a54) ∧ (∀ M_56 : z_Mem, M_56 = z_sai M_52 a54 ((x1 : Int32).toNatClampNeg) (-1) → (z_nn (z_fr M_56 1625 a) fun a58 => (vp_in x1 (z_ln M_56 a58) ∧ (∀ M_60 : z_Mem, M_60 = z_sai M_56 a58 ((x1 : Int32).toNatClampNeg) (-1) → (∀ x_61 : Int32, x_61 = x1 + 1 → (P_X12_init_561 a Post n x_61 M_60)))))))))))))))))))))))))))))))))))))))
set_option maxRecDepth 100000 in
def P_X12_init (a : Nat) (M : z_Mem) (Post : z_Mem → Prop) : Prop := z_room M 2 ∧ (∀ M_63 : z_Mem, M_63 = z_nwa M 20 2 → (∀ M_64 : z_Mem, M_64 = z_sfr M_63 1537 a (some (z_sz M)) → (z_room M_64 2 ∧ (∀ M_66 : z_Mem, M_66 = z_nwa M_64 20 2 → (∀ M_67 : z_Mem, M_67 = z_sfr M_66 1538 a (some (z_sz M_64)) → (z_room M_67 2 ∧ (∀ M_69 : z_Mem, M_69 = z_nwa M_67 20 2 → (∀ M_70 : z_Mem, M_70 = z_sfr M_69 1539 a (some (z_sz M_67)) → (z_room M_70 2 ∧ (∀ M_72 : z_Mem, M_72 = z_nwa M_70 20 2 → (∀ M_73 : z_Mem, M_73 = z_sfr M_72 1540 a (some (z_sz M_70)) → (z_room M_73 2 ∧ (∀ M_75 : z_Mem, M_75 = z_nwa M_73 21 2 → (∀ M_76 : z_Mem, M_76 = z_sfr M_75 1541 a (some (z_sz M_73)) → (z_room M_76 2 ∧ (∀ M_78 : z_Mem, M_78 = z_nwa M_76 20 2 → (∀ M_79 : z_Mem, M_79 = z_sfr M_78 1542 a (some (z_sz M_76)) → (z_room M_79 2 ∧ (∀ M_81 : z_Mem, M_81 = z_nwa M_79 20 2 → (∀ M_82 : z_Mem, M_82 = z_sfr M_81 1543 a (some (z_sz M_79)) → (z_room M_82 2 ∧ (∀ M_84 : z_Mem, M_84 = z_nwa M_82 20 2 → (∀ M_85 : z_Mem, M_85 = z_sfr M_84 1544 a (some (z_sz M_82)) → (z_room M_85 2 ∧ (∀ M_87 : z_Mem, M_87 = z_nwa M_85 20 2 → (∀ M_88 : z_Mem, M_88 = z_sfr M_87 1545 a (some (z_sz M_85)) → (z_room M_88 60 ∧ (∀ M_90 : z_Mem, M_90 = z_nwa M_88 20 60 → (∀ M_91 : z_Mem, M_91 = z_sfr M_90 1546 a (some (z_sz M_88)) → (z_room M_91 2 ∧ (∀ M_93 : z_Mem, M_93 = z_nwa M_91 20 2 → (∀ M_94 : z_Mem, M_94 = z_sfr M_93 1547 a (some (z_sz M_91)) → (z_room M_94 1300 ∧ (∀ M_96 : z_Mem, M_96 = z_nwa M_94 20 1300 → (∀ M_97 : z_Mem, M_97 = z_sfr M_96 1548 a (some (z_sz M_94)) → (z_room M_97 1300 ∧ (∀ M_99 : z_Mem, M_99 = z_nwa M_97 20 1300 → (∀ M_100 : z_Mem, M_100 = z_sfr M_99 1549 a (some (z_sz M_97)) → (z_room M_100 1300 ∧ (∀ M_102 : z_Mem, M_102 = z_nwa M_100 20 1300 → (∀ M_103 : z_Mem, M_103 = z_sfr M_102 1550 a (some (z_sz M_100)) → (z_room M_103 1300 ∧ (∀ M_105 : z_Mem, M_105 = z_nwa M_103 20 1300 → (∀ M_106 : z_Mem, M_106 = z_sfr M_105 1552 a (some (z_sz M_103)) → (z_room M_106 1300 ∧ (∀ M_108 : z_Mem, M_108 = z_nwa M_106 20 1300 → (∀ M_109 : z_Mem, M_109 = z_sfr M_108 1553 a (some (z_sz M_106)) → (z_room M_109 3600 ∧ (∀ M_111 : z_Mem, M_111 = z_nwa M_109 20 3600 → (∀ M_112 : z_Mem, M_112 = z_sfr M_111 1555 a (some (z_sz M_109)) → (z_room M_112 3600 ∧ (∀ M_114 : z_Mem, M_114 = z_nwa M_112 20 3600 → (∀ M_115 : z_Mem, M_115 = z_sfr M_114 1556 a (some (z_sz M_112)) → (z_room M_115 3600 ∧ (∀ M_117 : z_Mem, M_117 = z_nwa M_115 20 3600 → (∀ M_118 : z_Mem, M_118 = z_sfr M_117 1557 a (some (z_sz M_115)) → (z_room M_118 3600 ∧ (∀ M_120 : z_Mem, M_120 = z_nwa M_118 20 3600 → (∀ M_121 : z_Mem, M_121 = z_sfr M_120 1558 a (some (z_sz M_118)) → (z_room M_121 54000 ∧ (∀ M_123 : z_Mem, M_123 = z_nwa M_121 20 54000 → (∀ M_124 : z_Mem, M_124 = z_sfr M_123 1560 a (some (z_sz M_121)) → (z_room M_124 10 ∧ (∀ M_126 : z_Mem, M_126 = z_nwa M_124 21 10 → (∀ M_127 : z_Mem, M_127 = z_sfr M_126 1565 a (some (z_sz M_124)) → (∀ M_128 : z_Mem, M_128 = z_sfi M_127 1567 a (-1) → (z_room M_128 400 ∧ (∀ M_130 : z_Mem, M_130 = z_nwa M_128 21 400 → (∀ M_131 : z_Mem, M_131 = z_sfr M_130 1569 a (some (z_sz M_128)) → (z_room M_131 800 ∧ (∀ M_133 : z_Mem, M_133 = z_nwa M_131 21 800 → (∀ M_134 : z_Mem, M_134 = z_sfr M_133 1570 a (some (z_sz M_131)) → (z_room M_134 4 ∧ (∀ M_136 : z_Mem, M_136 = z_nwa M_134 20 4 → (∀ M_137 : z_Mem, M_137 = z_sfr M_136 1571 a (some (z_sz M_134)) → (∀ M_138 : z_Mem, M_138 = z_sfi M_137 1572 a (-1) → (∀ M_139 : z_Mem, M_139 = z_sfi M_138 1574 a (-1) → (∀ M_140 : z_Mem, M_140 = z_sfi M_139 1575 a (-1) → (∀ M_141 : z_Mem, M_141 = z_sfi M_140 1578 a (-1) → (z_room M_141 4 ∧ (∀ M_143 : z_Mem, M_143 = z_nwa M_141 20 4 → (∀ M_144 : z_Mem, M_144 = z_sfr M_143 1586 a (some (z_sz M_141)) → (z_room M_144 4 ∧ (∀ M_146 : z_Mem, M_146 = z_nwa M_144 20 4 → (∀ M_147 : z_Mem, M_147 = z_sfr M_146 1587 a (some (z_sz M_144)) → (z_room M_147 4 ∧ (∀ M_149 : z_Mem, M_149 = z_nwa M_147 20 4 → (∀ M_150 : z_Mem, M_150 = z_sfr M_149 1588 a (some (z_sz M_147)) → (∀ M_151 : z_Mem, M_151 = z_sfi M_150 1589 a 100 → (∀ M_152 : z_Mem, M_152 = z_sfi M_151 1590 a 3 → (z_room M_152 800 ∧ (∀ M_154 : z_Mem, M_154 = z_nwa M_152 21 800 → (∀ M_155 : z_Mem, M_155 = z_sfr M_154 1591 a (some (z_sz M_152)) → (z_room M_155 800 ∧ (∀ M_157 : z_Mem, M_157 = z_nwa M_155 20 800 → (∀ M_158 : z_Mem, M_158 = z_sfr M_157 1592 a (some (z_sz M_155)) → (z_room M_158 400 ∧ (∀ M_160 : z_Mem, M_160 = z_nwa M_158 20 400 → (∀ M_161 : z_Mem, M_161 = z_sfr M_160 1593 a (some (z_sz M_158)) → (z_room M_161 400 ∧ (∀ M_163 : z_Mem, M_163 = z_nwa M_161 20 400 → (∀ M_164 : z_Mem, M_164 = z_sfr M_163 1594 a (some (z_sz M_161)) → (z_room M_164 400 ∧ (∀ M_166 : z_Mem, M_166 = z_nwa M_164 20 400 → (∀ M_167 : z_Mem, M_167 = z_sfr M_166 1595 a (some (z_sz M_164)) → (z_room M_167 400 ∧ (∀ M_169 : z_Mem, M_169 = z_nwa M_167 20 400 → (∀ M_170 : z_Mem, M_170 = z_sfr M_169 1596 a (some (z_sz M_167)) → (z_room M_170 400 ∧ (∀ M_172 : z_Mem, M_172 = z_nwa M_170 20 400 → (∀ M_173 : z_Mem, M_173 = z_sfr M_172 1597 a (some (z_sz M_170)) → (z_room M_173 400 ∧ (∀ M_175 : z_Mem, M_175 = z_nwa M_173 20 400 → (∀ M_176 : z_Mem, M_176 = z_sfr M_175 1598 a (some (z_sz M_173)) → (z_room M_176 400 ∧ (∀ M_178 : z_Mem, M_178 = z_nwa M_176 20 400 → (∀ M_179 : z_Mem, M_179 = z_sfr M_178 1599 a (some (z_sz M_176)) → (z_room M_179 400 ∧ (∀ M_181 : z_Mem, M_181 = z_nwa M_179 20 400 → (∀ M_182 : z_Mem, M_182 = z_sfr M_181 1600 a (some (z_sz M_179)) → (z_room M_182 400 ∧ (∀ M_184 : z_Mem, M_184 = z_nwa M_182 21 400 → (∀ M_185 : z_Mem, M_185 = z_sfr M_184 1601 a (some (z_sz M_182)) → (z_room M_185 400 ∧ (∀ M_187 : z_Mem, M_187 = z_nwa M_185 21 400 → (∀ M_188 : z_Mem, M_188 = z_sfr M_187 1602 a (some (z_sz M_185)) → (z_room M_188 400 ∧ (∀ M_190 : z_Mem, M_190 = z_nwa M_188 21 400 → (∀ M_191 : z_Mem, M_191 = z_sfr M_190 1603 a (some (z_sz M_188)) → (z_room M_191 400 ∧ (∀ M_193 : z_Mem, M_193 = z_nwa M_191 20 400 → (∀ M_194 : z_Mem, M_194 = z_sfr M_193 1604 a (some (z_sz M_191)) → (z_room M_194 400 ∧ (∀ M_196 : z_Mem, M_196 = z_nwa M_194 20 400 → (∀ M_197 : z_Mem, M_197 = z_sfr M_196 1605 a (some (z_sz M_194)) → (z_room M_197 2 ∧ (∀ M_199 : z_Mem, M_199 = z_nwa M_197 20 2 → (∀ M_200 : z_Mem, M_200 = z_sfr M_199 1607 a (some (z_sz M_197)) → (z_room M_200 2 ∧ (∀ M_202 : z_Mem, M_202 = z_nwa M_200 20 2 → (∀ M_203 : z_Mem, M_203 = z_sfr M_202 1608 a (some (z_sz M_200)) → (z_room M_203 2 ∧ (∀ M_205 : z_Mem, M_205 = z_nwa M_203 20 2 → (∀ M_206 : z_Mem, M_206 = z_sfr M_205 1609 a (some (z_sz M_203)) → (z_room M_206 2 ∧ (∀ M_208 : z_Mem, M_208 = z_nwa M_206 20 2 → (∀ M_209 : z_Mem, M_209 = z_sfr M_208 1610 a (some (z_sz M_206)) → (z_room M_209 2 ∧ (∀ M_211 : z_Mem, M_211 = z_nwa M_209 20 2 → (∀ M_212 : z_Mem, M_212 = z_sfr M_211 1611 a (some (z_sz M_209)) → (z_room M_212 2 ∧ (∀ M_214 : z_Mem, M_214 = z_nwa M_212 20 2 → (∀ M_215 : z_Mem, M_215 = z_sfr M_214 1612 a (some (z_sz M_212)) → (z_room M_215 2 ∧ (∀ M_217 : z_Mem, M_217 = z_nwa M_215 20 2 → (∀ M_218 : z_Mem, M_218 = z_sfr M_217 1613 a (some (z_sz M_215)) → (z_room M_218 2 ∧ (∀ M_220 : z_Mem, M_220 = z_nwa M_218 21 2 → (∀ M_221 : z_Mem, M_221 = z_sfr M_220 1614 a (some (z_sz M_218)) → (z_room M_221 2 ∧ (∀ M_223 : z_Mem, M_223 = z_nwa M_221 21 2 → (∀ M_224 : z_Mem, M_224 = z_sfr M_223 1615 a (some (z_sz M_221)) → (z_room M_224 2 ∧ (∀ M_226 : z_Mem, M_226 = z_nwa M_224 20 2 → (∀ M_227 : z_Mem, M_227 = z_sfr M_226 1616 a (some (z_sz M_224)) → (z_room M_227 2 ∧ (∀ M_229 : z_Mem, M_229 = z_nwa M_227 20 2 → (∀ M_230 : z_Mem, M_230 = z_sfr M_229 1617 a (some (z_sz M_227)) → (z_room M_230 2 ∧ (∀ M_232 : z_Mem, M_232 = z_nwa M_230 20 2 → (∀ M_233 : z_Mem, M_233 = z_sfr M_232 1618 a (some (z_sz M_230)) → (z_room M_233 2 ∧ (∀ M_235 : z_Mem, M_235 = z_nwa M_233 20 2 → (∀ M_236 : z_Mem, M_236 = z_sfr M_235 1619 a (some (z_sz M_233)) → (z_room M_236 2 ∧ (∀ M_238 : z_Mem, M_238 = z_nwa M_236 20 2 → (∀ M_239 : z_Mem, M_239 = z_sfr M_238 1620 a (some (z_sz M_236)) → (z_room M_239 16 ∧ (∀ M_241 : z_Mem, M_241 = z_nwa M_239 20 16 → (∀ M_242 : z_Mem, M_242 = z_sfr M_241 1621 a (some (z_sz M_239)) → (z_room M_242 2 ∧ (∀ M_244 : z_Mem, M_244 = z_nwa M_242 20 2 → (∀ M_245 : z_Mem, M_245 = z_sfr M_244 1622 a (some (z_sz M_242)) → (z_room M_245 2 ∧ (∀ M_247 : z_Mem, M_247 = z_nwa M_245 20 2 → (∀ M_248 : z_Mem, M_248 = z_sfr M_247 1623 a (some (z_sz M_245)) → (z_room M_248 2 ∧ (∀ M_250 : z_Mem, M_250 = z_nwa M_248 20 2 → (∀ M_251 : z_Mem, M_251 = z_sfr M_250 1624 a (some (z_sz M_248)) → (z_room M_251 2 ∧ (∀ M_253 : z_Mem, M_253 = z_nwa M_251 20 2 → (∀ M_254 : z_Mem, M_254 = z_sfr M_253 1625 a (some (z_sz M_251)) → (z_room M_254 2 ∧ (∀ M_256 : z_Mem, M_256 = z_nwa M_254 20 2 → (∀ M_257 : z_Mem, M_257 = z_sfr M_256 1626 a (some (z_sz M_254)) → (z_room M_257 2 ∧ (∀ M_259 : z_Mem, M_259 = z_nwa M_257 20 2 → (∀ M_260 : z_Mem, M_260 = z_sfr M_259 1627 a (some (z_sz M_257)) → (z_room M_260 2 ∧ (∀ M_262 : z_Mem, M_262 = z_nwa M_260 20 2 → (∀ M_263 : z_Mem, M_263 = z_sfr M_262 1628 a (some (z_sz M_260)) → (z_room M_263 6 ∧ (∀ M_265 : z_Mem, M_265 = z_nwa M_263 20 6 → (∀ M_266 : z_Mem, M_266 = z_sfr M_265 1629 a (some (z_sz M_263)) → ((∃ n267 : Nat, P_X12_init_561 a Post n267 0 M_266))))))))))))))))))))))))))))))))))))))))))))))))))))))))))))))))))))))))))))))))))))))))))))))))))))))))))))))))))))))))))))))))))))))))))))))))))))))))))))))))))))))))))))))))))))))))))))))))))))))))))))))
set_option maxRecDepth 100000 in
set_option maxHeartbeats 4000000 in
theorem v_X12_init_674 {G : z_G} {M0 : z_Mem} {a : Nat} {Post : z_Mem → Prop}   : ∀ (n : Nat) {x1 : Int32} {M : z_Mem}, (z_ki M a = 13) → P_X12_init_674 a Post n x1 M → z_V G Y_X12_init z_X0 M0 (z_QM G M0 (z_PV Post)) M 674 [(0, z_O (some a)), (1, z_I x1)] [] := by
  intro n
  induction n with
  | zero => intro x1 M ha hP; exact False.elim hP
  | succ n ih =>
    intro x1 M ha hP
    unfold P_X12_init_674 at hP
    refine z_iload_n dX12_init_674 rfl 1 rfl ?_
    refine z_iconst (v := 4) dX12_init_675 (by decide) ?_
    refine z_icmp_ge (tgt := 693) dX12_init_676 (by decide) (fun h1 => ?_) (fun h1 => ?_)
    · replace hP := hP.1 h1
      exact z_retv rfl dX12_init_693 hP
    · replace hP := hP.2 h1
      refine z_aload_n dX12_init_679 rfl 0 rfl ?_
      refine z_getr (c := 12) (k := 52) (g := 1588) (t := 20) z_cb12 (Nat.le_of_ble_eq_true rfl) (Nat.le_of_ble_eq_true rfl) rfl rfl zw_1307 rfl ha dX12_init_680 (fun f2 => ?_)
      refine z_iload_n dX12_init_683 rfl 1 rfl ?_
      refine z_bipush (v := 40) dX12_init_684 (by decide) ?_
      refine z_pc (pc' := 686) rfl ?_
      obtain ⟨a3, e3, hP⟩ := hP
      have k3 := f2 a3 e3
      obtain ⟨i4, hP⟩ := hP
      refine z_iast e3 k3 i4 dX12_init_686 ?_
      refine z_nm (fun M_5 g_5 => ?_)
      replace hP := hP M_5 g_5
      have q_5 := z_k3 g_5
      have ha := z_kk q_5 ha
      refine z_iincN (j := 1) (m := 1) (lv' := fun v => [(1, z_I v), (0, z_O _)]) dX12_init_687 rfl (by decide) (Nat.le_of_ble_eq_true rfl) (fun _ => rfl) (fun x_6 y_6 => ?_)
      replace hP := hP x_6 y_6
      refine z_goto (tgt := 674) dX12_init_690 (by decide) ?_
      refine z_sub (lv' := [(0, z_O _), (1, z_I _)]) [1, 0] rfl ?_
      exact ih ha hP
set_option maxRecDepth 100000 in
set_option maxHeartbeats 4000000 in
theorem v_X12_init_561 {G : z_G} {M0 : z_Mem} {a : Nat} {Post : z_Mem → Prop}   : ∀ (n : Nat) {x1 : Int32} {M : z_Mem}, (z_ki M a = 13) → P_X12_init_561 a Post n x1 M → z_V G Y_X12_init z_X0 M0 (z_QM G M0 (z_PV Post)) M 561 [(0, z_O (some a)), (1, z_I x1)] [] := by
  intro n
  induction n with
  | zero => intro x1 M ha hP; exact False.elim hP
  | succ n ih =>
    intro x1 M ha hP
    unfold P_X12_init_561 at hP
    refine z_iload_n dX12_init_561 rfl 1 rfl ?_
    refine z_iconst (v := 2) dX12_init_562 (by decide) ?_
    refine z_icmp_ge (tgt := 665) dX12_init_563 (by decide) (fun h7 => ?_) (fun h7 => ?_)
    · replace hP := hP.1 h7
      refine z_aload_n dX12_init_665 rfl 0 rfl ?_
      refine z_getr (c := 12) (k := 79) (g := 1615) (t := 21) z_cb12 (Nat.le_of_ble_eq_true rfl) (Nat.le_of_ble_eq_true rfl) rfl rfl zw_1334 rfl ha dX12_init_666 (fun f8 => ?_)
      refine z_iconst (v := 0) dX12_init_669 (by decide) ?_
      refine z_iconst (v := 1) dX12_init_670 (by decide) ?_
      refine z_pc (pc' := 671) rfl ?_
      obtain ⟨a9, e9, hP⟩ := hP
      have k9 := f8 a9 e9
      obtain ⟨i10, hP⟩ := hP
      refine z_zast e9 k9 i10 (Or.inr rfl) dX12_init_671 ?_
      refine z_nm (fun M_11 g_11 => ?_)
      replace hP := hP M_11 g_11
      have q_11 := z_k3 g_11
      have ha := z_kk q_11 ha
      refine z_iconst (v := 0) dX12_init_672 (by decide) ?_
      refine z_istore_n (lv' := [(1, z_I _), (0, z_O _)]) dX12_init_673 rfl (Nat.le_of_ble_eq_true rfl) rfl ?_
      obtain ⟨n12, hP⟩ := hP
      refine z_sub (lv' := [(0, z_O _), (1, z_I _)]) [1, 0] rfl ?_
      exact v_X12_init_674  n12 ha hP
    · replace hP := hP.2 h7
      refine z_aload_n dX12_init_566 rfl 0 rfl ?_
      refine z_getr (c := 12) (k := 1) (g := 1537) (t := 20) z_cb12 (Nat.le_of_ble_eq_true rfl) (Nat.le_of_ble_eq_true rfl) rfl rfl zw_1256 rfl ha dX12_init_567 (fun f13 => ?_)
      refine z_iload_n dX12_init_570 rfl 1 rfl ?_
      refine z_iconst (v := 5) dX12_init_571 (by decide) ?_
      refine z_pc (pc' := 572) rfl ?_
      obtain ⟨a14, e14, hP⟩ := hP
      have k14 := f13 a14 e14
      obtain ⟨i15, hP⟩ := hP
      refine z_iast e14 k14 i15 dX12_init_572 ?_
      refine z_nm (fun M_16 g_16 => ?_)
      replace hP := hP M_16 g_16
      have q_16 := z_k3 g_16
      have ha := z_kk q_16 ha
      refine z_aload_n dX12_init_573 rfl 0 rfl ?_
      refine z_getr (c := 12) (k := 2) (g := 1538) (t := 20) z_cb12 (Nat.le_of_ble_eq_true rfl) (Nat.le_of_ble_eq_true rfl) rfl rfl zw_1257 rfl ha dX12_init_574 (fun f17 => ?_)
      refine z_iload_n dX12_init_577 rfl 1 rfl ?_
      refine z_iconst (v := 2) dX12_init_578 (by decide) ?_
      obtain ⟨a18, e18, hP⟩ := hP
      have k18 := f17 a18 e18
      obtain ⟨i19, hP⟩ := hP
      refine z_iast e18 k18 i19 dX12_init_579 ?_
      refine z_nm (fun M_20 g_20 => ?_)
      replace hP := hP M_20 g_20
      have q_20 := z_k3 g_20
      have ha := z_kk q_20 ha
      refine z_pc (pc' := 580) rfl ?_
      refine z_aload_n dX12_init_580 rfl 0 rfl ?_
      refine z_getr (c := 12) (k := 3) (g := 1539) (t := 20) z_cb12 (Nat.le_of_ble_eq_true rfl) (Nat.le_of_ble_eq_true rfl) rfl rfl zw_1258 rfl ha dX12_init_581 (fun f21 => ?_)
      refine z_iload_n dX12_init_584 rfl 1 rfl ?_
      refine z_bipush (v := 8) dX12_init_585 (by decide) ?_
      obtain ⟨a22, e22, hP⟩ := hP
      have k22 := f21 a22 e22
      obtain ⟨i23, hP⟩ := hP
      refine z_iast e22 k22 i23 dX12_init_587 ?_
      refine z_nm (fun M_24 g_24 => ?_)
      replace hP := hP M_24 g_24
      have q_24 := z_k3 g_24
      have ha := z_kk q_24 ha
      refine z_aload_n dX12_init_588 rfl 0 rfl ?_
      refine z_pc (pc' := 589) rfl ?_
      refine z_getr (c := 12) (k := 4) (g := 1540) (t := 20) z_cb12 (Nat.le_of_ble_eq_true rfl) (Nat.le_of_ble_eq_true rfl) rfl rfl zw_1259 rfl ha dX12_init_589 (fun f25 => ?_)
      refine z_iload_n dX12_init_592 rfl 1 rfl ?_
      refine z_bipush (v := 6) dX12_init_593 (by decide) ?_
      obtain ⟨a26, e26, hP⟩ := hP
      have k26 := f25 a26 e26
      obtain ⟨i27, hP⟩ := hP
      refine z_iast e26 k26 i27 dX12_init_595 ?_
      refine z_nm (fun M_28 g_28 => ?_)
      replace hP := hP M_28 g_28
      have q_28 := z_k3 g_28
      have ha := z_kk q_28 ha
      refine z_aload_n dX12_init_596 rfl 0 rfl ?_
      refine z_getr (c := 12) (k := 71) (g := 1607) (t := 20) z_cb12 (Nat.le_of_ble_eq_true rfl) (Nat.le_of_ble_eq_true rfl) rfl rfl zw_1326 rfl ha dX12_init_597 (fun f29 => ?_)
      refine z_pc (pc' := 600) rfl ?_
      refine z_iload_n dX12_init_600 rfl 1 rfl ?_
      refine z_sipush (v := 160) dX12_init_601 (by decide) ?_
      obtain ⟨a30, e30, hP⟩ := hP
      have k30 := f29 a30 e30
      obtain ⟨i31, hP⟩ := hP
      refine z_iast e30 k30 i31 dX12_init_604 ?_
      refine z_nm (fun M_32 g_32 => ?_)
      replace hP := hP M_32 g_32
      have q_32 := z_k3 g_32
      have ha := z_kk q_32 ha
      refine z_aload_n dX12_init_605 rfl 0 rfl ?_
      refine z_getr (c := 12) (k := 72) (g := 1608) (t := 20) z_cb12 (Nat.le_of_ble_eq_true rfl) (Nat.le_of_ble_eq_true rfl) rfl rfl zw_1327 rfl ha dX12_init_606 (fun f33 => ?_)
      refine z_iload_n dX12_init_609 rfl 1 rfl ?_
      refine z_pc (pc' := 610) rfl ?_
      refine z_ldc zw_1254 dX12_init_610 ?_
      obtain ⟨a34, e34, hP⟩ := hP
      have k34 := f33 a34 e34
      obtain ⟨i35, hP⟩ := hP
      refine z_iast e34 k34 i35 dX12_init_612 ?_
      refine z_nm (fun M_36 g_36 => ?_)
      replace hP := hP M_36 g_36
      have q_36 := z_k3 g_36
      have ha := z_kk q_36 ha
      refine z_aload_n dX12_init_613 rfl 0 rfl ?_
      refine z_getr (c := 12) (k := 74) (g := 1610) (t := 20) z_cb12 (Nat.le_of_ble_eq_true rfl) (Nat.le_of_ble_eq_true rfl) rfl rfl zw_1329 rfl ha dX12_init_614 (fun f37 => ?_)
      refine z_iload_n dX12_init_617 rfl 1 rfl ?_
      refine z_bipush (v := 80) dX12_init_618 (by decide) ?_
      refine z_pc (pc' := 620) rfl ?_
      obtain ⟨a38, e38, hP⟩ := hP
      have k38 := f37 a38 e38
      obtain ⟨i39, hP⟩ := hP
      refine z_iast e38 k38 i39 dX12_init_620 ?_
      refine z_nm (fun M_40 g_40 => ?_)
      replace hP := hP M_40 g_40
      have q_40 := z_k3 g_40
      have ha := z_kk q_40 ha
      refine z_aload_n dX12_init_621 rfl 0 rfl ?_
      refine z_getr (c := 12) (k := 75) (g := 1611) (t := 20) z_cb12 (Nat.le_of_ble_eq_true rfl) (Nat.le_of_ble_eq_true rfl) rfl rfl zw_1330 rfl ha dX12_init_622 (fun f41 => ?_)
      refine z_iload_n dX12_init_625 rfl 1 rfl ?_
      refine z_bipush (v := 20) dX12_init_626 (by decide) ?_
      obtain ⟨a42, e42, hP⟩ := hP
      have k42 := f41 a42 e42
      obtain ⟨i43, hP⟩ := hP
      refine z_iast e42 k42 i43 dX12_init_628 ?_
      refine z_nm (fun M_44 g_44 => ?_)
      replace hP := hP M_44 g_44
      have q_44 := z_k3 g_44
      have ha := z_kk q_44 ha
      refine z_pc (pc' := 629) rfl ?_
      refine z_aload_n dX12_init_629 rfl 0 rfl ?_
      refine z_getr (c := 12) (k := 76) (g := 1612) (t := 20) z_cb12 (Nat.le_of_ble_eq_true rfl) (Nat.le_of_ble_eq_true rfl) rfl rfl zw_1331 rfl ha dX12_init_630 (fun f45 => ?_)
      refine z_iload_n dX12_init_633 rfl 1 rfl ?_
      refine z_bipush (v := 10) dX12_init_634 (by decide) ?_
      obtain ⟨a46, e46, hP⟩ := hP
      have k46 := f45 a46 e46
      obtain ⟨i47, hP⟩ := hP
      refine z_iast e46 k46 i47 dX12_init_636 ?_
      refine z_nm (fun M_48 g_48 => ?_)
      replace hP := hP M_48 g_48
      have q_48 := z_k3 g_48
      have ha := z_kk q_48 ha
      refine z_aload_n dX12_init_637 rfl 0 rfl ?_
      refine z_pc (pc' := 638) rfl ?_
      refine z_getr (c := 12) (k := 77) (g := 1613) (t := 20) z_cb12 (Nat.le_of_ble_eq_true rfl) (Nat.le_of_ble_eq_true rfl) rfl rfl zw_1332 rfl ha dX12_init_638 (fun f49 => ?_)
      refine z_iload_n dX12_init_641 rfl 1 rfl ?_
      refine z_bipush (v := 10) dX12_init_642 (by decide) ?_
      obtain ⟨a50, e50, hP⟩ := hP
      have k50 := f49 a50 e50
      obtain ⟨i51, hP⟩ := hP
      refine z_iast e50 k50 i51 dX12_init_644 ?_
      refine z_nm (fun M_52 g_52 => ?_)
      replace hP := hP M_52 g_52
      have q_52 := z_k3 g_52
      have ha := z_kk q_52 ha
      refine z_aload_n dX12_init_645 rfl 0 rfl ?_
      refine z_getr (c := 12) (k := 81) (g := 1617) (t := 20) z_cb12 (Nat.le_of_ble_eq_true rfl) (Nat.le_of_ble_eq_true rfl) rfl rfl zw_1336 rfl ha dX12_init_646 (fun f53 => ?_)
      refine z_pc (pc' := 649) rfl ?_
      refine z_iload_n dX12_init_649 rfl 1 rfl ?_
      refine z_iconst (v := (-1)) dX12_init_650 (by decide) ?_
      obtain ⟨a54, e54, hP⟩ := hP
      have k54 := f53 a54 e54
      obtain ⟨i55, hP⟩ := hP
      refine z_iast e54 k54 i55 dX12_init_651 ?_
      refine z_nm (fun M_56 g_56 => ?_)
      replace hP := hP M_56 g_56
      have q_56 := z_k3 g_56
      have ha := z_kk q_56 ha
      refine z_aload_n dX12_init_652 rfl 0 rfl ?_
      refine z_getr (c := 12) (k := 89) (g := 1625) (t := 20) z_cb12 (Nat.le_of_ble_eq_true rfl) (Nat.le_of_ble_eq_true rfl) rfl rfl zw_1344 rfl ha dX12_init_653 (fun f57 => ?_)
      refine z_iload_n dX12_init_656 rfl 1 rfl ?_
      refine z_pc (pc' := 657) rfl ?_
      refine z_iconst (v := (-1)) dX12_init_657 (by decide) ?_
      obtain ⟨a58, e58, hP⟩ := hP
      have k58 := f57 a58 e58
      obtain ⟨i59, hP⟩ := hP
      refine z_iast e58 k58 i59 dX12_init_658 ?_
      refine z_nm (fun M_60 g_60 => ?_)
      replace hP := hP M_60 g_60
      have q_60 := z_k3 g_60
      have ha := z_kk q_60 ha
      refine z_iincN (j := 1) (m := 1) (lv' := fun v => [(1, z_I v), (0, z_O _)]) dX12_init_659 rfl (by decide) (Nat.le_of_ble_eq_true rfl) (fun _ => rfl) (fun x_61 y_61 => ?_)
      replace hP := hP x_61 y_61
      refine z_goto (tgt := 561) dX12_init_662 (by decide) ?_
      refine z_sub (lv' := [(0, z_O _), (1, z_I _)]) [1, 0] rfl ?_
      exact ih ha hP
set_option maxRecDepth 100000 in
set_option maxHeartbeats 4000000 in
theorem s_X12_init {G : z_G} {M : z_Mem} {a : Nat} {Post : z_Mem → Prop} (ha : z_ki M a = 13) (hP : P_X12_init a M Post) : z_Mt G Y_X12_init M [z_O (some a)] (z_PV Post) := by
  refine z_ofV (by decide) (Nat.le_of_ble_eq_true rfl) ?_
  unfold P_X12_init at hP
  refine z_sub (lv' := [(0, z_O (some a))]) [0] rfl ?_
  refine z_aload_n dX12_init_0 rfl 0 rfl ?_
  refine z_objInit rfl zw_1252 zw_28 zw_29 dX12_init_1 (Nat.le_of_ble_eq_true rfl) (Nat.le_of_ble_eq_true rfl) ?_
  refine z_aload_n dX12_init_4 rfl 0 rfl ?_
  refine z_iconst (v := 2) dX12_init_5 (by decide) ?_
  obtain ⟨r62, hP⟩ := hP
  refine z_wts (fun hT62 _ => ?_)
  refine z_newa (t := 20) (N := 2) (Or.inl ⟨rfl, rfl⟩) zw_231 rfl (Nat.le_of_ble_eq_true rfl) r62 dX12_init_6 (fun x62 k62 => ?_)
  refine z_nm (fun M_63 g_63 => ?_)
  replace hP := hP M_63 g_63
  have x62 := z_xe g_63 x62
  have k62 := z_xk g_63 k62
  have ha := x62.k (k := 12) hT62 ha
  refine z_putr (c := 12) (k := 1) (g := 1537) (t := 20) z_cb12 (Nat.le_of_ble_eq_true rfl) (Nat.le_of_ble_eq_true rfl) rfl rfl rfl zw_1256 rfl ha (z_trn rfl k62) (Or.inr ⟨rfl, rfl, rfl⟩) dX12_init_8 ?_
  refine z_nm (fun M_64 g_64 => ?_)
  replace hP := hP M_64 g_64
  have q_64 := z_k2 g_64
  have ha := z_kk q_64 ha
  refine z_pc (pc' := 11) rfl ?_
  refine z_aload_n dX12_init_11 rfl 0 rfl ?_
  refine z_iconst (v := 2) dX12_init_12 (by decide) ?_
  obtain ⟨r65, hP⟩ := hP
  refine z_wts (fun hT65 _ => ?_)
  refine z_newa (t := 20) (N := 2) (Or.inl ⟨rfl, rfl⟩) zw_231 rfl (Nat.le_of_ble_eq_true rfl) r65 dX12_init_13 (fun x65 k65 => ?_)
  refine z_nm (fun M_66 g_66 => ?_)
  replace hP := hP M_66 g_66
  have x65 := z_xe g_66 x65
  have k65 := z_xk g_66 k65
  have ha := x65.k (k := 12) hT65 ha
  refine z_putr (c := 12) (k := 2) (g := 1538) (t := 20) z_cb12 (Nat.le_of_ble_eq_true rfl) (Nat.le_of_ble_eq_true rfl) rfl rfl rfl zw_1257 rfl ha (z_trn rfl k65) (Or.inr ⟨rfl, rfl, rfl⟩) dX12_init_15 ?_
  refine z_nm (fun M_67 g_67 => ?_)
  replace hP := hP M_67 g_67
  have q_67 := z_k2 g_67
  have ha := z_kk q_67 ha
  refine z_aload_n dX12_init_18 rfl 0 rfl ?_
  refine z_iconst (v := 2) dX12_init_19 (by decide) ?_
  refine z_pc (pc' := 20) rfl ?_
  obtain ⟨r68, hP⟩ := hP
  refine z_wts (fun hT68 _ => ?_)
  refine z_newa (t := 20) (N := 2) (Or.inl ⟨rfl, rfl⟩) zw_231 rfl (Nat.le_of_ble_eq_true rfl) r68 dX12_init_20 (fun x68 k68 => ?_)
  refine z_nm (fun M_69 g_69 => ?_)
  replace hP := hP M_69 g_69
  have x68 := z_xe g_69 x68
  have k68 := z_xk g_69 k68
  have ha := x68.k (k := 12) hT68 ha
  refine z_putr (c := 12) (k := 3) (g := 1539) (t := 20) z_cb12 (Nat.le_of_ble_eq_true rfl) (Nat.le_of_ble_eq_true rfl) rfl rfl rfl zw_1258 rfl ha (z_trn rfl k68) (Or.inr ⟨rfl, rfl, rfl⟩) dX12_init_22 ?_
  refine z_nm (fun M_70 g_70 => ?_)
  replace hP := hP M_70 g_70
  have q_70 := z_k2 g_70
  have ha := z_kk q_70 ha
  refine z_aload_n dX12_init_25 rfl 0 rfl ?_
  refine z_iconst (v := 2) dX12_init_26 (by decide) ?_
  obtain ⟨r71, hP⟩ := hP
  refine z_wts (fun hT71 _ => ?_)
  refine z_newa (t := 20) (N := 2) (Or.inl ⟨rfl, rfl⟩) zw_231 rfl (Nat.le_of_ble_eq_true rfl) r71 dX12_init_27 (fun x71 k71 => ?_)
  refine z_nm (fun M_72 g_72 => ?_)
  replace hP := hP M_72 g_72
  have x71 := z_xe g_72 x71
  have k71 := z_xk g_72 k71
  have ha := x71.k (k := 12) hT71 ha
  refine z_putr (c := 12) (k := 4) (g := 1540) (t := 20) z_cb12 (Nat.le_of_ble_eq_true rfl) (Nat.le_of_ble_eq_true rfl) rfl rfl rfl zw_1259 rfl ha (z_trn rfl k71) (Or.inr ⟨rfl, rfl, rfl⟩) dX12_init_29 ?_
  refine z_nm (fun M_73 g_73 => ?_)
  replace hP := hP M_73 g_73
  have q_73 := z_k2 g_73
  have ha := z_kk q_73 ha
  refine z_pc (pc' := 32) rfl ?_
  refine z_aload_n dX12_init_32 rfl 0 rfl ?_
  refine z_iconst (v := 2) dX12_init_33 (by decide) ?_
  obtain ⟨r74, hP⟩ := hP
  refine z_wts (fun hT74 _ => ?_)
  refine z_newa (t := 21) (N := 2) (Or.inr (Or.inl ⟨rfl, rfl⟩)) zw_230 rfl (Nat.le_of_ble_eq_true rfl) r74 dX12_init_34 (fun x74 k74 => ?_)
  refine z_nm (fun M_75 g_75 => ?_)
  replace hP := hP M_75 g_75
  have x74 := z_xe g_75 x74
  have k74 := z_xk g_75 k74
  have ha := x74.k (k := 12) hT74 ha
  refine z_putr (c := 12) (k := 5) (g := 1541) (t := 21) z_cb12 (Nat.le_of_ble_eq_true rfl) (Nat.le_of_ble_eq_true rfl) rfl rfl rfl zw_1260 rfl ha (z_trn rfl k74) (Or.inr ⟨rfl, rfl, rfl⟩) dX12_init_36 ?_
  refine z_nm (fun M_76 g_76 => ?_)
  replace hP := hP M_76 g_76
  have q_76 := z_k2 g_76
  have ha := z_kk q_76 ha
  refine z_aload_n dX12_init_39 rfl 0 rfl ?_
  refine z_iconst (v := 2) dX12_init_40 (by decide) ?_
  refine z_pc (pc' := 41) rfl ?_
  obtain ⟨r77, hP⟩ := hP
  refine z_wts (fun hT77 _ => ?_)
  refine z_newa (t := 20) (N := 2) (Or.inl ⟨rfl, rfl⟩) zw_231 rfl (Nat.le_of_ble_eq_true rfl) r77 dX12_init_41 (fun x77 k77 => ?_)
  refine z_nm (fun M_78 g_78 => ?_)
  replace hP := hP M_78 g_78
  have x77 := z_xe g_78 x77
  have k77 := z_xk g_78 k77
  have ha := x77.k (k := 12) hT77 ha
  refine z_putr (c := 12) (k := 6) (g := 1542) (t := 20) z_cb12 (Nat.le_of_ble_eq_true rfl) (Nat.le_of_ble_eq_true rfl) rfl rfl rfl zw_1261 rfl ha (z_trn rfl k77) (Or.inr ⟨rfl, rfl, rfl⟩) dX12_init_43 ?_
  refine z_nm (fun M_79 g_79 => ?_)
  replace hP := hP M_79 g_79
  have q_79 := z_k2 g_79
  have ha := z_kk q_79 ha
  refine z_aload_n dX12_init_46 rfl 0 rfl ?_
  refine z_iconst (v := 2) dX12_init_47 (by decide) ?_
  obtain ⟨r80, hP⟩ := hP
  refine z_wts (fun hT80 _ => ?_)
  refine z_newa (t := 20) (N := 2) (Or.inl ⟨rfl, rfl⟩) zw_231 rfl (Nat.le_of_ble_eq_true rfl) r80 dX12_init_48 (fun x80 k80 => ?_)
  refine z_nm (fun M_81 g_81 => ?_)
  replace hP := hP M_81 g_81
  have x80 := z_xe g_81 x80
  have k80 := z_xk g_81 k80
  have ha := x80.k (k := 12) hT80 ha
  refine z_putr (c := 12) (k := 7) (g := 1543) (t := 20) z_cb12 (Nat.le_of_ble_eq_true rfl) (Nat.le_of_ble_eq_true rfl) rfl rfl rfl zw_1262 rfl ha (z_trn rfl k80) (Or.inr ⟨rfl, rfl, rfl⟩) dX12_init_50 ?_
  refine z_nm (fun M_82 g_82 => ?_)
  replace hP := hP M_82 g_82
  have q_82 := z_k2 g_82
  have ha := z_kk q_82 ha
  refine z_pc (pc' := 53) rfl ?_
  refine z_aload_n dX12_init_53 rfl 0 rfl ?_
  refine z_iconst (v := 2) dX12_init_54 (by decide) ?_
  obtain ⟨r83, hP⟩ := hP
  refine z_wts (fun hT83 _ => ?_)
  refine z_newa (t := 20) (N := 2) (Or.inl ⟨rfl, rfl⟩) zw_231 rfl (Nat.le_of_ble_eq_true rfl) r83 dX12_init_55 (fun x83 k83 => ?_)
  refine z_nm (fun M_84 g_84 => ?_)
  replace hP := hP M_84 g_84
  have x83 := z_xe g_84 x83
  have k83 := z_xk g_84 k83
  have ha := x83.k (k := 12) hT83 ha
  refine z_putr (c := 12) (k := 8) (g := 1544) (t := 20) z_cb12 (Nat.le_of_ble_eq_true rfl) (Nat.le_of_ble_eq_true rfl) rfl rfl rfl zw_1263 rfl ha (z_trn rfl k83) (Or.inr ⟨rfl, rfl, rfl⟩) dX12_init_57 ?_
  refine z_nm (fun M_85 g_85 => ?_)
  replace hP := hP M_85 g_85
  have q_85 := z_k2 g_85
  have ha := z_kk q_85 ha
  refine z_aload_n dX12_init_60 rfl 0 rfl ?_
  refine z_iconst (v := 2) dX12_init_61 (by decide) ?_
  refine z_pc (pc' := 62) rfl ?_
  obtain ⟨r86, hP⟩ := hP
  refine z_wts (fun hT86 _ => ?_)
  refine z_newa (t := 20) (N := 2) (Or.inl ⟨rfl, rfl⟩) zw_231 rfl (Nat.le_of_ble_eq_true rfl) r86 dX12_init_62 (fun x86 k86 => ?_)
  refine z_nm (fun M_87 g_87 => ?_)
  replace hP := hP M_87 g_87
  have x86 := z_xe g_87 x86
  have k86 := z_xk g_87 k86
  have ha := x86.k (k := 12) hT86 ha
  refine z_putr (c := 12) (k := 9) (g := 1545) (t := 20) z_cb12 (Nat.le_of_ble_eq_true rfl) (Nat.le_of_ble_eq_true rfl) rfl rfl rfl zw_1264 rfl ha (z_trn rfl k86) (Or.inr ⟨rfl, rfl, rfl⟩) dX12_init_64 ?_
  refine z_nm (fun M_88 g_88 => ?_)
  replace hP := hP M_88 g_88
  have q_88 := z_k2 g_88
  have ha := z_kk q_88 ha
  refine z_aload_n dX12_init_67 rfl 0 rfl ?_
  refine z_bipush (v := 60) dX12_init_68 (by decide) ?_
  obtain ⟨r89, hP⟩ := hP
  refine z_wts (fun hT89 _ => ?_)
  refine z_newa (t := 20) (N := 60) (Or.inl ⟨rfl, rfl⟩) zw_231 rfl (Nat.le_of_ble_eq_true rfl) r89 dX12_init_70 (fun x89 k89 => ?_)
  refine z_nm (fun M_90 g_90 => ?_)
  replace hP := hP M_90 g_90
  have x89 := z_xe g_90 x89
  have k89 := z_xk g_90 k89
  have ha := x89.k (k := 12) hT89 ha
  refine z_putr (c := 12) (k := 10) (g := 1546) (t := 20) z_cb12 (Nat.le_of_ble_eq_true rfl) (Nat.le_of_ble_eq_true rfl) rfl rfl rfl zw_1265 rfl ha (z_trn rfl k89) (Or.inr ⟨rfl, rfl, rfl⟩) dX12_init_72 ?_
  refine z_nm (fun M_91 g_91 => ?_)
  replace hP := hP M_91 g_91
  have q_91 := z_k2 g_91
  have ha := z_kk q_91 ha
  refine z_pc (pc' := 75) rfl ?_
  refine z_aload_n dX12_init_75 rfl 0 rfl ?_
  refine z_iconst (v := 2) dX12_init_76 (by decide) ?_
  obtain ⟨r92, hP⟩ := hP
  refine z_wts (fun hT92 _ => ?_)
  refine z_newa (t := 20) (N := 2) (Or.inl ⟨rfl, rfl⟩) zw_231 rfl (Nat.le_of_ble_eq_true rfl) r92 dX12_init_77 (fun x92 k92 => ?_)
  refine z_nm (fun M_93 g_93 => ?_)
  replace hP := hP M_93 g_93
  have x92 := z_xe g_93 x92
  have k92 := z_xk g_93 k92
  have ha := x92.k (k := 12) hT92 ha
  refine z_putr (c := 12) (k := 11) (g := 1547) (t := 20) z_cb12 (Nat.le_of_ble_eq_true rfl) (Nat.le_of_ble_eq_true rfl) rfl rfl rfl zw_1266 rfl ha (z_trn rfl k92) (Or.inr ⟨rfl, rfl, rfl⟩) dX12_init_79 ?_
  refine z_nm (fun M_94 g_94 => ?_)
  replace hP := hP M_94 g_94
  have q_94 := z_k2 g_94
  have ha := z_kk q_94 ha
  refine z_aload_n dX12_init_82 rfl 0 rfl ?_
  refine z_sipush (v := 1300) dX12_init_83 (by decide) ?_
  refine z_pc (pc' := 86) rfl ?_
  obtain ⟨r95, hP⟩ := hP
  refine z_wts (fun hT95 _ => ?_)
  refine z_newa (t := 20) (N := 1300) (Or.inl ⟨rfl, rfl⟩) zw_231 rfl (Nat.le_of_ble_eq_true rfl) r95 dX12_init_86 (fun x95 k95 => ?_)
  refine z_nm (fun M_96 g_96 => ?_)
  replace hP := hP M_96 g_96
  have x95 := z_xe g_96 x95
  have k95 := z_xk g_96 k95
  have ha := x95.k (k := 12) hT95 ha
  refine z_putr (c := 12) (k := 12) (g := 1548) (t := 20) z_cb12 (Nat.le_of_ble_eq_true rfl) (Nat.le_of_ble_eq_true rfl) rfl rfl rfl zw_1267 rfl ha (z_trn rfl k95) (Or.inr ⟨rfl, rfl, rfl⟩) dX12_init_88 ?_
  refine z_nm (fun M_97 g_97 => ?_)
  replace hP := hP M_97 g_97
  have q_97 := z_k2 g_97
  have ha := z_kk q_97 ha
  refine z_aload_n dX12_init_91 rfl 0 rfl ?_
  refine z_sipush (v := 1300) dX12_init_92 (by decide) ?_
  obtain ⟨r98, hP⟩ := hP
  refine z_wts (fun hT98 _ => ?_)
  refine z_newa (t := 20) (N := 1300) (Or.inl ⟨rfl, rfl⟩) zw_231 rfl (Nat.le_of_ble_eq_true rfl) r98 dX12_init_95 (fun x98 k98 => ?_)
  refine z_nm (fun M_99 g_99 => ?_)
  replace hP := hP M_99 g_99
  have x98 := z_xe g_99 x98
  have k98 := z_xk g_99 k98
  have ha := x98.k (k := 12) hT98 ha
  refine z_putr (c := 12) (k := 13) (g := 1549) (t := 20) z_cb12 (Nat.le_of_ble_eq_true rfl) (Nat.le_of_ble_eq_true rfl) rfl rfl rfl zw_1268 rfl ha (z_trn rfl k98) (Or.inr ⟨rfl, rfl, rfl⟩) dX12_init_97 ?_
  refine z_nm (fun M_100 g_100 => ?_)
  replace hP := hP M_100 g_100
  have q_100 := z_k2 g_100
  have ha := z_kk q_100 ha
  refine z_pc (pc' := 100) rfl ?_
  refine z_aload_n dX12_init_100 rfl 0 rfl ?_
  refine z_sipush (v := 1300) dX12_init_101 (by decide) ?_
  obtain ⟨r101, hP⟩ := hP
  refine z_wts (fun hT101 _ => ?_)
  refine z_newa (t := 20) (N := 1300) (Or.inl ⟨rfl, rfl⟩) zw_231 rfl (Nat.le_of_ble_eq_true rfl) r101 dX12_init_104 (fun x101 k101 => ?_)
  refine z_nm (fun M_102 g_102 => ?_)
  replace hP := hP M_102 g_102
  have x101 := z_xe g_102 x101
  have k101 := z_xk g_102 k101
  have ha := x101.k (k := 12) hT101 ha
  refine z_putr (c := 12) (k := 14) (g := 1550) (t := 20) z_cb12 (Nat.le_of_ble_eq_true rfl) (Nat.le_of_ble_eq_true rfl) rfl rfl rfl zw_1269 rfl ha (z_trn rfl k101) (Or.inr ⟨rfl, rfl, rfl⟩) dX12_init_106 ?_
  refine z_nm (fun M_103 g_103 => ?_)
  replace hP := hP M_103 g_103
  have q_103 := z_k2 g_103
  have ha := z_kk q_103 ha
  refine z_aload_n dX12_init_109 rfl 0 rfl ?_
  refine z_sipush (v := 1300) dX12_init_110 (by decide) ?_
  refine z_pc (pc' := 113) rfl ?_
  obtain ⟨r104, hP⟩ := hP
  refine z_wts (fun hT104 _ => ?_)
  refine z_newa (t := 20) (N := 1300) (Or.inl ⟨rfl, rfl⟩) zw_231 rfl (Nat.le_of_ble_eq_true rfl) r104 dX12_init_113 (fun x104 k104 => ?_)
  refine z_nm (fun M_105 g_105 => ?_)
  replace hP := hP M_105 g_105
  have x104 := z_xe g_105 x104
  have k104 := z_xk g_105 k104
  have ha := x104.k (k := 12) hT104 ha
  refine z_putr (c := 12) (k := 16) (g := 1552) (t := 20) z_cb12 (Nat.le_of_ble_eq_true rfl) (Nat.le_of_ble_eq_true rfl) rfl rfl rfl zw_1271 rfl ha (z_trn rfl k104) (Or.inr ⟨rfl, rfl, rfl⟩) dX12_init_115 ?_
  refine z_nm (fun M_106 g_106 => ?_)
  replace hP := hP M_106 g_106
  have q_106 := z_k2 g_106
  have ha := z_kk q_106 ha
  refine z_aload_n dX12_init_118 rfl 0 rfl ?_
  refine z_sipush (v := 1300) dX12_init_119 (by decide) ?_
  obtain ⟨r107, hP⟩ := hP
  refine z_wts (fun hT107 _ => ?_)
  refine z_newa (t := 20) (N := 1300) (Or.inl ⟨rfl, rfl⟩) zw_231 rfl (Nat.le_of_ble_eq_true rfl) r107 dX12_init_122 (fun x107 k107 => ?_)
  refine z_nm (fun M_108 g_108 => ?_)
  replace hP := hP M_108 g_108
  have x107 := z_xe g_108 x107
  have k107 := z_xk g_108 k107
  have ha := x107.k (k := 12) hT107 ha
  refine z_putr (c := 12) (k := 17) (g := 1553) (t := 20) z_cb12 (Nat.le_of_ble_eq_true rfl) (Nat.le_of_ble_eq_true rfl) rfl rfl rfl zw_1272 rfl ha (z_trn rfl k107) (Or.inr ⟨rfl, rfl, rfl⟩) dX12_init_124 ?_
  refine z_nm (fun M_109 g_109 => ?_)
  replace hP := hP M_109 g_109
  have q_109 := z_k2 g_109
  have ha := z_kk q_109 ha
  refine z_pc (pc' := 127) rfl ?_
  refine z_aload_n dX12_init_127 rfl 0 rfl ?_
  refine z_sipush (v := 3600) dX12_init_128 (by decide) ?_
  obtain ⟨r110, hP⟩ := hP
  refine z_wts (fun hT110 _ => ?_)
  refine z_newa (t := 20) (N := 3600) (Or.inl ⟨rfl, rfl⟩) zw_231 rfl (Nat.le_of_ble_eq_true rfl) r110 dX12_init_131 (fun x110 k110 => ?_)
  refine z_nm (fun M_111 g_111 => ?_)
  replace hP := hP M_111 g_111
  have x110 := z_xe g_111 x110
  have k110 := z_xk g_111 k110
  have ha := x110.k (k := 12) hT110 ha
  refine z_putr (c := 12) (k := 19) (g := 1555) (t := 20) z_cb12 (Nat.le_of_ble_eq_true rfl) (Nat.le_of_ble_eq_true rfl) rfl rfl rfl zw_1274 rfl ha (z_trn rfl k110) (Or.inr ⟨rfl, rfl, rfl⟩) dX12_init_133 ?_
  refine z_nm (fun M_112 g_112 => ?_)
  replace hP := hP M_112 g_112
  have q_112 := z_k2 g_112
  have ha := z_kk q_112 ha
  refine z_aload_n dX12_init_136 rfl 0 rfl ?_
  refine z_sipush (v := 3600) dX12_init_137 (by decide) ?_
  refine z_pc (pc' := 140) rfl ?_
  obtain ⟨r113, hP⟩ := hP
  refine z_wts (fun hT113 _ => ?_)
  refine z_newa (t := 20) (N := 3600) (Or.inl ⟨rfl, rfl⟩) zw_231 rfl (Nat.le_of_ble_eq_true rfl) r113 dX12_init_140 (fun x113 k113 => ?_)
  refine z_nm (fun M_114 g_114 => ?_)
  replace hP := hP M_114 g_114
  have x113 := z_xe g_114 x113
  have k113 := z_xk g_114 k113
  have ha := x113.k (k := 12) hT113 ha
  refine z_putr (c := 12) (k := 20) (g := 1556) (t := 20) z_cb12 (Nat.le_of_ble_eq_true rfl) (Nat.le_of_ble_eq_true rfl) rfl rfl rfl zw_1275 rfl ha (z_trn rfl k113) (Or.inr ⟨rfl, rfl, rfl⟩) dX12_init_142 ?_
  refine z_nm (fun M_115 g_115 => ?_)
  replace hP := hP M_115 g_115
  have q_115 := z_k2 g_115
  have ha := z_kk q_115 ha
  refine z_aload_n dX12_init_145 rfl 0 rfl ?_
  refine z_sipush (v := 3600) dX12_init_146 (by decide) ?_
  obtain ⟨r116, hP⟩ := hP
  refine z_wts (fun hT116 _ => ?_)
  refine z_newa (t := 20) (N := 3600) (Or.inl ⟨rfl, rfl⟩) zw_231 rfl (Nat.le_of_ble_eq_true rfl) r116 dX12_init_149 (fun x116 k116 => ?_)
  refine z_nm (fun M_117 g_117 => ?_)
  replace hP := hP M_117 g_117
  have x116 := z_xe g_117 x116
  have k116 := z_xk g_117 k116
  have ha := x116.k (k := 12) hT116 ha
  refine z_putr (c := 12) (k := 21) (g := 1557) (t := 20) z_cb12 (Nat.le_of_ble_eq_true rfl) (Nat.le_of_ble_eq_true rfl) rfl rfl rfl zw_1276 rfl ha (z_trn rfl k116) (Or.inr ⟨rfl, rfl, rfl⟩) dX12_init_151 ?_
  refine z_nm (fun M_118 g_118 => ?_)
  replace hP := hP M_118 g_118
  have q_118 := z_k2 g_118
  have ha := z_kk q_118 ha
  refine z_pc (pc' := 154) rfl ?_
  refine z_aload_n dX12_init_154 rfl 0 rfl ?_
  refine z_sipush (v := 3600) dX12_init_155 (by decide) ?_
  obtain ⟨r119, hP⟩ := hP
  refine z_wts (fun hT119 _ => ?_)
  refine z_newa (t := 20) (N := 3600) (Or.inl ⟨rfl, rfl⟩) zw_231 rfl (Nat.le_of_ble_eq_true rfl) r119 dX12_init_158 (fun x119 k119 => ?_)
  refine z_nm (fun M_120 g_120 => ?_)
  replace hP := hP M_120 g_120
  have x119 := z_xe g_120 x119
  have k119 := z_xk g_120 k119
  have ha := x119.k (k := 12) hT119 ha
  refine z_putr (c := 12) (k := 22) (g := 1558) (t := 20) z_cb12 (Nat.le_of_ble_eq_true rfl) (Nat.le_of_ble_eq_true rfl) rfl rfl rfl zw_1277 rfl ha (z_trn rfl k119) (Or.inr ⟨rfl, rfl, rfl⟩) dX12_init_160 ?_
  refine z_nm (fun M_121 g_121 => ?_)
  replace hP := hP M_121 g_121
  have q_121 := z_k2 g_121
  have ha := z_kk q_121 ha
  refine z_aload_n dX12_init_163 rfl 0 rfl ?_
  refine z_ldc zw_1253 dX12_init_164 ?_
  refine z_pc (pc' := 166) rfl ?_
  obtain ⟨r122, hP⟩ := hP
  refine z_wts (fun hT122 _ => ?_)
  refine z_newa (t := 20) (N := 54000) (Or.inl ⟨rfl, rfl⟩) zw_231 rfl (Nat.le_of_ble_eq_true rfl) r122 dX12_init_166 (fun x122 k122 => ?_)
  refine z_nm (fun M_123 g_123 => ?_)
  replace hP := hP M_123 g_123
  have x122 := z_xe g_123 x122
  have k122 := z_xk g_123 k122
  have ha := x122.k (k := 12) hT122 ha
  refine z_putr (c := 12) (k := 24) (g := 1560) (t := 20) z_cb12 (Nat.le_of_ble_eq_true rfl) (Nat.le_of_ble_eq_true rfl) rfl rfl rfl zw_1279 rfl ha (z_trn rfl k122) (Or.inr ⟨rfl, rfl, rfl⟩) dX12_init_168 ?_
  refine z_nm (fun M_124 g_124 => ?_)
  replace hP := hP M_124 g_124
  have q_124 := z_k2 g_124
  have ha := z_kk q_124 ha
  refine z_aload_n dX12_init_171 rfl 0 rfl ?_
  refine z_bipush (v := 10) dX12_init_172 (by decide) ?_
  obtain ⟨r125, hP⟩ := hP
  refine z_wts (fun hT125 _ => ?_)
  refine z_newa (t := 21) (N := 10) (Or.inr (Or.inl ⟨rfl, rfl⟩)) zw_230 rfl (Nat.le_of_ble_eq_true rfl) r125 dX12_init_174 (fun x125 k125 => ?_)
  refine z_nm (fun M_126 g_126 => ?_)
  replace hP := hP M_126 g_126
  have x125 := z_xe g_126 x125
  have k125 := z_xk g_126 k125
  have ha := x125.k (k := 12) hT125 ha
  refine z_putr (c := 12) (k := 29) (g := 1565) (t := 21) z_cb12 (Nat.le_of_ble_eq_true rfl) (Nat.le_of_ble_eq_true rfl) rfl rfl rfl zw_1284 rfl ha (z_trn rfl k125) (Or.inr ⟨rfl, rfl, rfl⟩) dX12_init_176 ?_
  refine z_nm (fun M_127 g_127 => ?_)
  replace hP := hP M_127 g_127
  have q_127 := z_k2 g_127
  have ha := z_kk q_127 ha
  refine z_pc (pc' := 179) rfl ?_
  refine z_aload_n dX12_init_179 rfl 0 rfl ?_
  refine z_iconst (v := (-1)) dX12_init_180 (by decide) ?_
  refine z_puti (c := 12) (k := 31) (g := 1567) z_cb12 (Nat.le_of_ble_eq_true rfl) (Nat.le_of_ble_eq_true rfl) (Nat.le_of_ble_eq_true rfl) rfl rfl rfl zw_1286 rfl ha (Or.inl rfl) dX12_init_181 ?_
  refine z_nm (fun M_128 g_128 => ?_)
  replace hP := hP M_128 g_128
  have q_128 := z_k1 g_128
  have ha := z_kk q_128 ha
  refine z_aload_n dX12_init_184 rfl 0 rfl ?_
  refine z_sipush (v := 400) dX12_init_185 (by decide) ?_
  obtain ⟨r129, hP⟩ := hP
  refine z_wts (fun hT129 _ => ?_)
  refine z_newa (t := 21) (N := 400) (Or.inr (Or.inl ⟨rfl, rfl⟩)) zw_230 rfl (Nat.le_of_ble_eq_true rfl) r129 dX12_init_188 (fun x129 k129 => ?_)
  refine z_nm (fun M_130 g_130 => ?_)
  replace hP := hP M_130 g_130
  have x129 := z_xe g_130 x129
  have k129 := z_xk g_130 k129
  have ha := x129.k (k := 12) hT129 ha
  refine z_pc (pc' := 190) rfl ?_
  refine z_putr (c := 12) (k := 33) (g := 1569) (t := 21) z_cb12 (Nat.le_of_ble_eq_true rfl) (Nat.le_of_ble_eq_true rfl) rfl rfl rfl zw_1288 rfl ha (z_trn rfl k129) (Or.inr ⟨rfl, rfl, rfl⟩) dX12_init_190 ?_
  refine z_nm (fun M_131 g_131 => ?_)
  replace hP := hP M_131 g_131
  have q_131 := z_k2 g_131
  have ha := z_kk q_131 ha
  refine z_aload_n dX12_init_193 rfl 0 rfl ?_
  refine z_sipush (v := 800) dX12_init_194 (by decide) ?_
  obtain ⟨r132, hP⟩ := hP
  refine z_wts (fun hT132 _ => ?_)
  refine z_newa (t := 21) (N := 800) (Or.inr (Or.inl ⟨rfl, rfl⟩)) zw_230 rfl (Nat.le_of_ble_eq_true rfl) r132 dX12_init_197 (fun x132 k132 => ?_)
  refine z_nm (fun M_133 g_133 => ?_)
  replace hP := hP M_133 g_133
  have x132 := z_xe g_133 x132
  have k132 := z_xk g_133 k132
  have ha := x132.k (k := 12) hT132 ha
  refine z_putr (c := 12) (k := 34) (g := 1570) (t := 21) z_cb12 (Nat.le_of_ble_eq_true rfl) (Nat.le_of_ble_eq_true rfl) rfl rfl rfl zw_1289 rfl ha (z_trn rfl k132) (Or.inr ⟨rfl, rfl, rfl⟩) dX12_init_199 ?_
  refine z_nm (fun M_134 g_134 => ?_)
  replace hP := hP M_134 g_134
  have q_134 := z_k2 g_134
  have ha := z_kk q_134 ha
  refine z_aload_n dX12_init_202 rfl 0 rfl ?_
  refine z_pc (pc' := 203) rfl ?_
  refine z_iconst (v := 4) dX12_init_203 (by decide) ?_
  obtain ⟨r135, hP⟩ := hP
  refine z_wts (fun hT135 _ => ?_)
  refine z_newa (t := 20) (N := 4) (Or.inl ⟨rfl, rfl⟩) zw_231 rfl (Nat.le_of_ble_eq_true rfl) r135 dX12_init_204 (fun x135 k135 => ?_)
  refine z_nm (fun M_136 g_136 => ?_)
  replace hP := hP M_136 g_136
  have x135 := z_xe g_136 x135
  have k135 := z_xk g_136 k135
  have ha := x135.k (k := 12) hT135 ha
  refine z_putr (c := 12) (k := 35) (g := 1571) (t := 20) z_cb12 (Nat.le_of_ble_eq_true rfl) (Nat.le_of_ble_eq_true rfl) rfl rfl rfl zw_1290 rfl ha (z_trn rfl k135) (Or.inr ⟨rfl, rfl, rfl⟩) dX12_init_206 ?_
  refine z_nm (fun M_137 g_137 => ?_)
  replace hP := hP M_137 g_137
  have q_137 := z_k2 g_137
  have ha := z_kk q_137 ha
  refine z_aload_n dX12_init_209 rfl 0 rfl ?_
  refine z_iconst (v := (-1)) dX12_init_210 (by decide) ?_
  refine z_puti (c := 12) (k := 36) (g := 1572) z_cb12 (Nat.le_of_ble_eq_true rfl) (Nat.le_of_ble_eq_true rfl) (Nat.le_of_ble_eq_true rfl) rfl rfl rfl zw_1291 rfl ha (Or.inl rfl) dX12_init_211 ?_
  refine z_nm (fun M_138 g_138 => ?_)
  replace hP := hP M_138 g_138
  have q_138 := z_k1 g_138
  have ha := z_kk q_138 ha
  refine z_pc (pc' := 214) rfl ?_
  refine z_aload_n dX12_init_214 rfl 0 rfl ?_
  refine z_iconst (v := (-1)) dX12_init_215 (by decide) ?_
  refine z_puti (c := 12) (k := 38) (g := 1574) z_cb12 (Nat.le_of_ble_eq_true rfl) (Nat.le_of_ble_eq_true rfl) (Nat.le_of_ble_eq_true rfl) rfl rfl rfl zw_1293 rfl ha (Or.inl rfl) dX12_init_216 ?_
  refine z_nm (fun M_139 g_139 => ?_)
  replace hP := hP M_139 g_139
  have q_139 := z_k1 g_139
  have ha := z_kk q_139 ha
  refine z_aload_n dX12_init_219 rfl 0 rfl ?_
  refine z_iconst (v := (-1)) dX12_init_220 (by decide) ?_
  refine z_puti (c := 12) (k := 39) (g := 1575) z_cb12 (Nat.le_of_ble_eq_true rfl) (Nat.le_of_ble_eq_true rfl) (Nat.le_of_ble_eq_true rfl) rfl rfl rfl zw_1294 rfl ha (Or.inl rfl) dX12_init_221 ?_
  refine z_nm (fun M_140 g_140 => ?_)
  replace hP := hP M_140 g_140
  have q_140 := z_k1 g_140
  have ha := z_kk q_140 ha
  refine z_pc (pc' := 224) rfl ?_
  refine z_aload_n dX12_init_224 rfl 0 rfl ?_
  refine z_iconst (v := (-1)) dX12_init_225 (by decide) ?_
  refine z_puti (c := 12) (k := 42) (g := 1578) z_cb12 (Nat.le_of_ble_eq_true rfl) (Nat.le_of_ble_eq_true rfl) (Nat.le_of_ble_eq_true rfl) rfl rfl rfl zw_1297 rfl ha (Or.inl rfl) dX12_init_226 ?_
  refine z_nm (fun M_141 g_141 => ?_)
  replace hP := hP M_141 g_141
  have q_141 := z_k1 g_141
  have ha := z_kk q_141 ha
  refine z_aload_n dX12_init_229 rfl 0 rfl ?_
  refine z_iconst (v := 4) dX12_init_230 (by decide) ?_
  obtain ⟨r142, hP⟩ := hP
  refine z_wts (fun hT142 _ => ?_)
  refine z_newa (t := 20) (N := 4) (Or.inl ⟨rfl, rfl⟩) zw_231 rfl (Nat.le_of_ble_eq_true rfl) r142 dX12_init_231 (fun x142 k142 => ?_)
  refine z_nm (fun M_143 g_143 => ?_)
  replace hP := hP M_143 g_143
  have x142 := z_xe g_143 x142
  have k142 := z_xk g_143 k142
  have ha := x142.k (k := 12) hT142 ha
  refine z_pc (pc' := 233) rfl ?_
  refine z_putr (c := 12) (k := 50) (g := 1586) (t := 20) z_cb12 (Nat.le_of_ble_eq_true rfl) (Nat.le_of_ble_eq_true rfl) rfl rfl rfl zw_1305 rfl ha (z_trn rfl k142) (Or.inr ⟨rfl, rfl, rfl⟩) dX12_init_233 ?_
  refine z_nm (fun M_144 g_144 => ?_)
  replace hP := hP M_144 g_144
  have q_144 := z_k2 g_144
  have ha := z_kk q_144 ha
  refine z_aload_n dX12_init_236 rfl 0 rfl ?_
  refine z_iconst (v := 4) dX12_init_237 (by decide) ?_
  obtain ⟨r145, hP⟩ := hP
  refine z_wts (fun hT145 _ => ?_)
  refine z_newa (t := 20) (N := 4) (Or.inl ⟨rfl, rfl⟩) zw_231 rfl (Nat.le_of_ble_eq_true rfl) r145 dX12_init_238 (fun x145 k145 => ?_)
  refine z_nm (fun M_146 g_146 => ?_)
  replace hP := hP M_146 g_146
  have x145 := z_xe g_146 x145
  have k145 := z_xk g_146 k145
  have ha := x145.k (k := 12) hT145 ha
  refine z_putr (c := 12) (k := 51) (g := 1587) (t := 20) z_cb12 (Nat.le_of_ble_eq_true rfl) (Nat.le_of_ble_eq_true rfl) rfl rfl rfl zw_1306 rfl ha (z_trn rfl k145) (Or.inr ⟨rfl, rfl, rfl⟩) dX12_init_240 ?_
  refine z_nm (fun M_147 g_147 => ?_)
  replace hP := hP M_147 g_147
  have q_147 := z_k2 g_147
  have ha := z_kk q_147 ha
  refine z_aload_n dX12_init_243 rfl 0 rfl ?_
  refine z_pc (pc' := 244) rfl ?_
  refine z_iconst (v := 4) dX12_init_244 (by decide) ?_
  obtain ⟨r148, hP⟩ := hP
  refine z_wts (fun hT148 _ => ?_)
  refine z_newa (t := 20) (N := 4) (Or.inl ⟨rfl, rfl⟩) zw_231 rfl (Nat.le_of_ble_eq_true rfl) r148 dX12_init_245 (fun x148 k148 => ?_)
  refine z_nm (fun M_149 g_149 => ?_)
  replace hP := hP M_149 g_149
  have x148 := z_xe g_149 x148
  have k148 := z_xk g_149 k148
  have ha := x148.k (k := 12) hT148 ha
  refine z_putr (c := 12) (k := 52) (g := 1588) (t := 20) z_cb12 (Nat.le_of_ble_eq_true rfl) (Nat.le_of_ble_eq_true rfl) rfl rfl rfl zw_1307 rfl ha (z_trn rfl k148) (Or.inr ⟨rfl, rfl, rfl⟩) dX12_init_247 ?_
  refine z_nm (fun M_150 g_150 => ?_)
  replace hP := hP M_150 g_150
  have q_150 := z_k2 g_150
  have ha := z_kk q_150 ha
  refine z_aload_n dX12_init_250 rfl 0 rfl ?_
  refine z_bipush (v := 100) dX12_init_251 (by decide) ?_
  refine z_puti (c := 12) (k := 53) (g := 1589) z_cb12 (Nat.le_of_ble_eq_true rfl) (Nat.le_of_ble_eq_true rfl) (Nat.le_of_ble_eq_true rfl) rfl rfl rfl zw_1308 rfl ha (Or.inl rfl) dX12_init_253 ?_
  refine z_nm (fun M_151 g_151 => ?_)
  replace hP := hP M_151 g_151
  have q_151 := z_k1 g_151
  have ha := z_kk q_151 ha
  refine z_pc (pc' := 256) rfl ?_
  refine z_aload_n dX12_init_256 rfl 0 rfl ?_
  refine z_iconst (v := 3) dX12_init_257 (by decide) ?_
  refine z_puti (c := 12) (k := 54) (g := 1590) z_cb12 (Nat.le_of_ble_eq_true rfl) (Nat.le_of_ble_eq_true rfl) (Nat.le_of_ble_eq_true rfl) rfl rfl rfl zw_1309 rfl ha (Or.inl rfl) dX12_init_258 ?_
  refine z_nm (fun M_152 g_152 => ?_)
  replace hP := hP M_152 g_152
  have q_152 := z_k1 g_152
  have ha := z_kk q_152 ha
  refine z_aload_n dX12_init_261 rfl 0 rfl ?_
  refine z_sipush (v := 800) dX12_init_262 (by decide) ?_
  obtain ⟨r153, hP⟩ := hP
  refine z_wts (fun hT153 _ => ?_)
  refine z_newa (t := 21) (N := 800) (Or.inr (Or.inl ⟨rfl, rfl⟩)) zw_230 rfl (Nat.le_of_ble_eq_true rfl) r153 dX12_init_265 (fun x153 k153 => ?_)
  refine z_nm (fun M_154 g_154 => ?_)
  replace hP := hP M_154 g_154
  have x153 := z_xe g_154 x153
  have k153 := z_xk g_154 k153
  have ha := x153.k (k := 12) hT153 ha
  refine z_pc (pc' := 267) rfl ?_
  refine z_putr (c := 12) (k := 55) (g := 1591) (t := 21) z_cb12 (Nat.le_of_ble_eq_true rfl) (Nat.le_of_ble_eq_true rfl) rfl rfl rfl zw_1310 rfl ha (z_trn rfl k153) (Or.inr ⟨rfl, rfl, rfl⟩) dX12_init_267 ?_
  refine z_nm (fun M_155 g_155 => ?_)
  replace hP := hP M_155 g_155
  have q_155 := z_k2 g_155
  have ha := z_kk q_155 ha
  refine z_aload_n dX12_init_270 rfl 0 rfl ?_
  refine z_sipush (v := 800) dX12_init_271 (by decide) ?_
  obtain ⟨r156, hP⟩ := hP
  refine z_wts (fun hT156 _ => ?_)
  refine z_newa (t := 20) (N := 800) (Or.inl ⟨rfl, rfl⟩) zw_231 rfl (Nat.le_of_ble_eq_true rfl) r156 dX12_init_274 (fun x156 k156 => ?_)
  refine z_nm (fun M_157 g_157 => ?_)
  replace hP := hP M_157 g_157
  have x156 := z_xe g_157 x156
  have k156 := z_xk g_157 k156
  have ha := x156.k (k := 12) hT156 ha
  refine z_putr (c := 12) (k := 56) (g := 1592) (t := 20) z_cb12 (Nat.le_of_ble_eq_true rfl) (Nat.le_of_ble_eq_true rfl) rfl rfl rfl zw_1311 rfl ha (z_trn rfl k156) (Or.inr ⟨rfl, rfl, rfl⟩) dX12_init_276 ?_
  refine z_nm (fun M_158 g_158 => ?_)
  replace hP := hP M_158 g_158
  have q_158 := z_k2 g_158
  have ha := z_kk q_158 ha
  refine z_aload_n dX12_init_279 rfl 0 rfl ?_
  refine z_pc (pc' := 280) rfl ?_
  refine z_sipush (v := 400) dX12_init_280 (by decide) ?_
  obtain ⟨r159, hP⟩ := hP
  refine z_wts (fun hT159 _ => ?_)
  refine z_newa (t := 20) (N := 400) (Or.inl ⟨rfl, rfl⟩) zw_231 rfl (Nat.le_of_ble_eq_true rfl) r159 dX12_init_283 (fun x159 k159 => ?_)
  refine z_nm (fun M_160 g_160 => ?_)
  replace hP := hP M_160 g_160
  have x159 := z_xe g_160 x159
  have k159 := z_xk g_160 k159
  have ha := x159.k (k := 12) hT159 ha
  refine z_putr (c := 12) (k := 57) (g := 1593) (t := 20) z_cb12 (Nat.le_of_ble_eq_true rfl) (Nat.le_of_ble_eq_true rfl) rfl rfl rfl zw_1312 rfl ha (z_trn rfl k159) (Or.inr ⟨rfl, rfl, rfl⟩) dX12_init_285 ?_
  refine z_nm (fun M_161 g_161 => ?_)
  replace hP := hP M_161 g_161
  have q_161 := z_k2 g_161
  have ha := z_kk q_161 ha
  refine z_aload_n dX12_init_288 rfl 0 rfl ?_
  refine z_sipush (v := 400) dX12_init_289 (by decide) ?_
  obtain ⟨r162, hP⟩ := hP
  refine z_wts (fun hT162 _ => ?_)
  refine z_newa (t := 20) (N := 400) (Or.inl ⟨rfl, rfl⟩) zw_231 rfl (Nat.le_of_ble_eq_true rfl) r162 dX12_init_292 (fun x162 k162 => ?_)
  refine z_nm (fun M_163 g_163 => ?_)
  replace hP := hP M_163 g_163
  have x162 := z_xe g_163 x162
  have k162 := z_xk g_163 k162
  have ha := x162.k (k := 12) hT162 ha
  refine z_pc (pc' := 294) rfl ?_
  refine z_putr (c := 12) (k := 58) (g := 1594) (t := 20) z_cb12 (Nat.le_of_ble_eq_true rfl) (Nat.le_of_ble_eq_true rfl) rfl rfl rfl zw_1313 rfl ha (z_trn rfl k162) (Or.inr ⟨rfl, rfl, rfl⟩) dX12_init_294 ?_
  refine z_nm (fun M_164 g_164 => ?_)
  replace hP := hP M_164 g_164
  have q_164 := z_k2 g_164
  have ha := z_kk q_164 ha
  refine z_aload_n dX12_init_297 rfl 0 rfl ?_
  refine z_sipush (v := 400) dX12_init_298 (by decide) ?_
  obtain ⟨r165, hP⟩ := hP
  refine z_wts (fun hT165 _ => ?_)
  refine z_newa (t := 20) (N := 400) (Or.inl ⟨rfl, rfl⟩) zw_231 rfl (Nat.le_of_ble_eq_true rfl) r165 dX12_init_301 (fun x165 k165 => ?_)
  refine z_nm (fun M_166 g_166 => ?_)
  replace hP := hP M_166 g_166
  have x165 := z_xe g_166 x165
  have k165 := z_xk g_166 k165
  have ha := x165.k (k := 12) hT165 ha
  refine z_putr (c := 12) (k := 59) (g := 1595) (t := 20) z_cb12 (Nat.le_of_ble_eq_true rfl) (Nat.le_of_ble_eq_true rfl) rfl rfl rfl zw_1314 rfl ha (z_trn rfl k165) (Or.inr ⟨rfl, rfl, rfl⟩) dX12_init_303 ?_
  refine z_nm (fun M_167 g_167 => ?_)
  replace hP := hP M_167 g_167
  have q_167 := z_k2 g_167
  have ha := z_kk q_167 ha
  refine z_aload_n dX12_init_306 rfl 0 rfl ?_
  refine z_pc (pc' := 307) rfl ?_
  refine z_sipush (v := 400) dX12_init_307 (by decide) ?_
  obtain ⟨r168, hP⟩ := hP
  refine z_wts (fun hT168 _ => ?_)
  refine z_newa (t := 20) (N := 400) (Or.inl ⟨rfl, rfl⟩) zw_231 rfl (Nat.le_of_ble_eq_true rfl) r168 dX12_init_310 (fun x168 k168 => ?_)
  refine z_nm (fun M_169 g_169 => ?_)
  replace hP := hP M_169 g_169
  have x168 := z_xe g_169 x168
  have k168 := z_xk g_169 k168
  have ha := x168.k (k := 12) hT168 ha
  refine z_putr (c := 12) (k := 60) (g := 1596) (t := 20) z_cb12 (Nat.le_of_ble_eq_true rfl) (Nat.le_of_ble_eq_true rfl) rfl rfl rfl zw_1315 rfl ha (z_trn rfl k168) (Or.inr ⟨rfl, rfl, rfl⟩) dX12_init_312 ?_
  refine z_nm (fun M_170 g_170 => ?_)
  replace hP := hP M_170 g_170
  have q_170 := z_k2 g_170
  have ha := z_kk q_170 ha
  refine z_aload_n dX12_init_315 rfl 0 rfl ?_
  refine z_sipush (v := 400) dX12_init_316 (by decide) ?_
  obtain ⟨r171, hP⟩ := hP
  refine z_wts (fun hT171 _ => ?_)
  refine z_newa (t := 20) (N := 400) (Or.inl ⟨rfl, rfl⟩) zw_231 rfl (Nat.le_of_ble_eq_true rfl) r171 dX12_init_319 (fun x171 k171 => ?_)
  refine z_nm (fun M_172 g_172 => ?_)
  replace hP := hP M_172 g_172
  have x171 := z_xe g_172 x171
  have k171 := z_xk g_172 k171
  have ha := x171.k (k := 12) hT171 ha
  refine z_pc (pc' := 321) rfl ?_
  refine z_putr (c := 12) (k := 61) (g := 1597) (t := 20) z_cb12 (Nat.le_of_ble_eq_true rfl) (Nat.le_of_ble_eq_true rfl) rfl rfl rfl zw_1316 rfl ha (z_trn rfl k171) (Or.inr ⟨rfl, rfl, rfl⟩) dX12_init_321 ?_
  refine z_nm (fun M_173 g_173 => ?_)
  replace hP := hP M_173 g_173
  have q_173 := z_k2 g_173
  have ha := z_kk q_173 ha
  refine z_aload_n dX12_init_324 rfl 0 rfl ?_
  refine z_sipush (v := 400) dX12_init_325 (by decide) ?_
  obtain ⟨r174, hP⟩ := hP
  refine z_wts (fun hT174 _ => ?_)
  refine z_newa (t := 20) (N := 400) (Or.inl ⟨rfl, rfl⟩) zw_231 rfl (Nat.le_of_ble_eq_true rfl) r174 dX12_init_328 (fun x174 k174 => ?_)
  refine z_nm (fun M_175 g_175 => ?_)
  replace hP := hP M_175 g_175
  have x174 := z_xe g_175 x174
  have k174 := z_xk g_175 k174
  have ha := x174.k (k := 12) hT174 ha
  refine z_putr (c := 12) (k := 62) (g := 1598) (t := 20) z_cb12 (Nat.le_of_ble_eq_true rfl) (Nat.le_of_ble_eq_true rfl) rfl rfl rfl zw_1317 rfl ha (z_trn rfl k174) (Or.inr ⟨rfl, rfl, rfl⟩) dX12_init_330 ?_
  refine z_nm (fun M_176 g_176 => ?_)
  replace hP := hP M_176 g_176
  have q_176 := z_k2 g_176
  have ha := z_kk q_176 ha
  refine z_aload_n dX12_init_333 rfl 0 rfl ?_
  refine z_pc (pc' := 334) rfl ?_
  refine z_sipush (v := 400) dX12_init_334 (by decide) ?_
  obtain ⟨r177, hP⟩ := hP
  refine z_wts (fun hT177 _ => ?_)
  refine z_newa (t := 20) (N := 400) (Or.inl ⟨rfl, rfl⟩) zw_231 rfl (Nat.le_of_ble_eq_true rfl) r177 dX12_init_337 (fun x177 k177 => ?_)
  refine z_nm (fun M_178 g_178 => ?_)
  replace hP := hP M_178 g_178
  have x177 := z_xe g_178 x177
  have k177 := z_xk g_178 k177
  have ha := x177.k (k := 12) hT177 ha
  refine z_putr (c := 12) (k := 63) (g := 1599) (t := 20) z_cb12 (Nat.le_of_ble_eq_true rfl) (Nat.le_of_ble_eq_true rfl) rfl rfl rfl zw_1318 rfl ha (z_trn rfl k177) (Or.inr ⟨rfl, rfl, rfl⟩) dX12_init_339 ?_
  refine z_nm (fun M_179 g_179 => ?_)
  replace hP := hP M_179 g_179
  have q_179 := z_k2 g_179
  have ha := z_kk q_179 ha
  refine z_aload_n dX12_init_342 rfl 0 rfl ?_
  refine z_sipush (v := 400) dX12_init_343 (by decide) ?_
  obtain ⟨r180, hP⟩ := hP
  refine z_wts (fun hT180 _ => ?_)
  refine z_newa (t := 20) (N := 400) (Or.inl ⟨rfl, rfl⟩) zw_231 rfl (Nat.le_of_ble_eq_true rfl) r180 dX12_init_346 (fun x180 k180 => ?_)
  refine z_nm (fun M_181 g_181 => ?_)
  replace hP := hP M_181 g_181
  have x180 := z_xe g_181 x180
  have k180 := z_xk g_181 k180
  have ha := x180.k (k := 12) hT180 ha
  refine z_pc (pc' := 348) rfl ?_
  refine z_putr (c := 12) (k := 64) (g := 1600) (t := 20) z_cb12 (Nat.le_of_ble_eq_true rfl) (Nat.le_of_ble_eq_true rfl) rfl rfl rfl zw_1319 rfl ha (z_trn rfl k180) (Or.inr ⟨rfl, rfl, rfl⟩) dX12_init_348 ?_
  refine z_nm (fun M_182 g_182 => ?_)
  replace hP := hP M_182 g_182
  have q_182 := z_k2 g_182
  have ha := z_kk q_182 ha
  refine z_aload_n dX12_init_351 rfl 0 rfl ?_
  refine z_sipush (v := 400) dX12_init_352 (by decide) ?_
  obtain ⟨r183, hP⟩ := hP
  refine z_wts (fun hT183 _ => ?_)
  refine z_newa (t := 21) (N := 400) (Or.inr (Or.inl ⟨rfl, rfl⟩)) zw_230 rfl (Nat.le_of_ble_eq_true rfl) r183 dX12_init_355 (fun x183 k183 => ?_)
  refine z_nm (fun M_184 g_184 => ?_)
  replace hP := hP M_184 g_184
  have x183 := z_xe g_184 x183
  have k183 := z_xk g_184 k183
  have ha := x183.k (k := 12) hT183 ha
  refine z_putr (c := 12) (k := 65) (g := 1601) (t := 21) z_cb12 (Nat.le_of_ble_eq_true rfl) (Nat.le_of_ble_eq_true rfl) rfl rfl rfl zw_1320 rfl ha (z_trn rfl k183) (Or.inr ⟨rfl, rfl, rfl⟩) dX12_init_357 ?_
  refine z_nm (fun M_185 g_185 => ?_)
  replace hP := hP M_185 g_185
  have q_185 := z_k2 g_185
  have ha := z_kk q_185 ha
  refine z_aload_n dX12_init_360 rfl 0 rfl ?_
  refine z_pc (pc' := 361) rfl ?_
  refine z_sipush (v := 400) dX12_init_361 (by decide) ?_
  obtain ⟨r186, hP⟩ := hP
  refine z_wts (fun hT186 _ => ?_)
  refine z_newa (t := 21) (N := 400) (Or.inr (Or.inl ⟨rfl, rfl⟩)) zw_230 rfl (Nat.le_of_ble_eq_true rfl) r186 dX12_init_364 (fun x186 k186 => ?_)
  refine z_nm (fun M_187 g_187 => ?_)
  replace hP := hP M_187 g_187
  have x186 := z_xe g_187 x186
  have k186 := z_xk g_187 k186
  have ha := x186.k (k := 12) hT186 ha
  refine z_putr (c := 12) (k := 66) (g := 1602) (t := 21) z_cb12 (Nat.le_of_ble_eq_true rfl) (Nat.le_of_ble_eq_true rfl) rfl rfl rfl zw_1321 rfl ha (z_trn rfl k186) (Or.inr ⟨rfl, rfl, rfl⟩) dX12_init_366 ?_
  refine z_nm (fun M_188 g_188 => ?_)
  replace hP := hP M_188 g_188
  have q_188 := z_k2 g_188
  have ha := z_kk q_188 ha
  refine z_aload_n dX12_init_369 rfl 0 rfl ?_
  refine z_sipush (v := 400) dX12_init_370 (by decide) ?_
  obtain ⟨r189, hP⟩ := hP
  refine z_wts (fun hT189 _ => ?_)
  refine z_newa (t := 21) (N := 400) (Or.inr (Or.inl ⟨rfl, rfl⟩)) zw_230 rfl (Nat.le_of_ble_eq_true rfl) r189 dX12_init_373 (fun x189 k189 => ?_)
  refine z_nm (fun M_190 g_190 => ?_)
  replace hP := hP M_190 g_190
  have x189 := z_xe g_190 x189
  have k189 := z_xk g_190 k189
  have ha := x189.k (k := 12) hT189 ha
  refine z_pc (pc' := 375) rfl ?_
  refine z_putr (c := 12) (k := 67) (g := 1603) (t := 21) z_cb12 (Nat.le_of_ble_eq_true rfl) (Nat.le_of_ble_eq_true rfl) rfl rfl rfl zw_1322 rfl ha (z_trn rfl k189) (Or.inr ⟨rfl, rfl, rfl⟩) dX12_init_375 ?_
  refine z_nm (fun M_191 g_191 => ?_)
  replace hP := hP M_191 g_191
  have q_191 := z_k2 g_191
  have ha := z_kk q_191 ha
  refine z_aload_n dX12_init_378 rfl 0 rfl ?_
  refine z_sipush (v := 400) dX12_init_379 (by decide) ?_
  obtain ⟨r192, hP⟩ := hP
  refine z_wts (fun hT192 _ => ?_)
  refine z_newa (t := 20) (N := 400) (Or.inl ⟨rfl, rfl⟩) zw_231 rfl (Nat.le_of_ble_eq_true rfl) r192 dX12_init_382 (fun x192 k192 => ?_)
  refine z_nm (fun M_193 g_193 => ?_)
  replace hP := hP M_193 g_193
  have x192 := z_xe g_193 x192
  have k192 := z_xk g_193 k192
  have ha := x192.k (k := 12) hT192 ha
  refine z_putr (c := 12) (k := 68) (g := 1604) (t := 20) z_cb12 (Nat.le_of_ble_eq_true rfl) (Nat.le_of_ble_eq_true rfl) rfl rfl rfl zw_1323 rfl ha (z_trn rfl k192) (Or.inr ⟨rfl, rfl, rfl⟩) dX12_init_384 ?_
  refine z_nm (fun M_194 g_194 => ?_)
  replace hP := hP M_194 g_194
  have q_194 := z_k2 g_194
  have ha := z_kk q_194 ha
  refine z_aload_n dX12_init_387 rfl 0 rfl ?_
  refine z_pc (pc' := 388) rfl ?_
  refine z_sipush (v := 400) dX12_init_388 (by decide) ?_
  obtain ⟨r195, hP⟩ := hP
  refine z_wts (fun hT195 _ => ?_)
  refine z_newa (t := 20) (N := 400) (Or.inl ⟨rfl, rfl⟩) zw_231 rfl (Nat.le_of_ble_eq_true rfl) r195 dX12_init_391 (fun x195 k195 => ?_)
  refine z_nm (fun M_196 g_196 => ?_)
  replace hP := hP M_196 g_196
  have x195 := z_xe g_196 x195
  have k195 := z_xk g_196 k195
  have ha := x195.k (k := 12) hT195 ha
  refine z_putr (c := 12) (k := 69) (g := 1605) (t := 20) z_cb12 (Nat.le_of_ble_eq_true rfl) (Nat.le_of_ble_eq_true rfl) rfl rfl rfl zw_1324 rfl ha (z_trn rfl k195) (Or.inr ⟨rfl, rfl, rfl⟩) dX12_init_393 ?_
  refine z_nm (fun M_197 g_197 => ?_)
  replace hP := hP M_197 g_197
  have q_197 := z_k2 g_197
  have ha := z_kk q_197 ha
  refine z_aload_n dX12_init_396 rfl 0 rfl ?_
  refine z_iconst (v := 2) dX12_init_397 (by decide) ?_
  obtain ⟨r198, hP⟩ := hP
  refine z_wts (fun hT198 _ => ?_)
  refine z_newa (t := 20) (N := 2) (Or.inl ⟨rfl, rfl⟩) zw_231 rfl (Nat.le_of_ble_eq_true rfl) r198 dX12_init_398 (fun x198 k198 => ?_)
  refine z_nm (fun M_199 g_199 => ?_)
  replace hP := hP M_199 g_199
  have x198 := z_xe g_199 x198
  have k198 := z_xk g_199 k198
  have ha := x198.k (k := 12) hT198 ha
  refine z_pc (pc' := 400) rfl ?_
  refine z_putr (c := 12) (k := 71) (g := 1607) (t := 20) z_cb12 (Nat.le_of_ble_eq_true rfl) (Nat.le_of_ble_eq_true rfl) rfl rfl rfl zw_1326 rfl ha (z_trn rfl k198) (Or.inr ⟨rfl, rfl, rfl⟩) dX12_init_400 ?_
  refine z_nm (fun M_200 g_200 => ?_)
  replace hP := hP M_200 g_200
  have q_200 := z_k2 g_200
  have ha := z_kk q_200 ha
  refine z_aload_n dX12_init_403 rfl 0 rfl ?_
  refine z_iconst (v := 2) dX12_init_404 (by decide) ?_
  obtain ⟨r201, hP⟩ := hP
  refine z_wts (fun hT201 _ => ?_)
  refine z_newa (t := 20) (N := 2) (Or.inl ⟨rfl, rfl⟩) zw_231 rfl (Nat.le_of_ble_eq_true rfl) r201 dX12_init_405 (fun x201 k201 => ?_)
  refine z_nm (fun M_202 g_202 => ?_)
  replace hP := hP M_202 g_202
  have x201 := z_xe g_202 x201
  have k201 := z_xk g_202 k201
  have ha := x201.k (k := 12) hT201 ha
  refine z_putr (c := 12) (k := 72) (g := 1608) (t := 20) z_cb12 (Nat.le_of_ble_eq_true rfl) (Nat.le_of_ble_eq_true rfl) rfl rfl rfl zw_1327 rfl ha (z_trn rfl k201) (Or.inr ⟨rfl, rfl, rfl⟩) dX12_init_407 ?_
  refine z_nm (fun M_203 g_203 => ?_)
  replace hP := hP M_203 g_203
  have q_203 := z_k2 g_203
  have ha := z_kk q_203 ha
  refine z_aload_n dX12_init_410 rfl 0 rfl ?_
  refine z_pc (pc' := 411) rfl ?_
  refine z_iconst (v := 2) dX12_init_411 (by decide) ?_
  obtain ⟨r204, hP⟩ := hP
  refine z_wts (fun hT204 _ => ?_)
  refine z_newa (t := 20) (N := 2) (Or.inl ⟨rfl, rfl⟩) zw_231 rfl (Nat.le_of_ble_eq_true rfl) r204 dX12_init_412 (fun x204 k204 => ?_)
  refine z_nm (fun M_205 g_205 => ?_)
  replace hP := hP M_205 g_205
  have x204 := z_xe g_205 x204
  have k204 := z_xk g_205 k204
  have ha := x204.k (k := 12) hT204 ha
  refine z_putr (c := 12) (k := 73) (g := 1609) (t := 20) z_cb12 (Nat.le_of_ble_eq_true rfl) (Nat.le_of_ble_eq_true rfl) rfl rfl rfl zw_1328 rfl ha (z_trn rfl k204) (Or.inr ⟨rfl, rfl, rfl⟩) dX12_init_414 ?_
  refine z_nm (fun M_206 g_206 => ?_)
  replace hP := hP M_206 g_206
  have q_206 := z_k2 g_206
  have ha := z_kk q_206 ha
  refine z_aload_n dX12_init_417 rfl 0 rfl ?_
  refine z_iconst (v := 2) dX12_init_418 (by decide) ?_
  obtain ⟨r207, hP⟩ := hP
  refine z_wts (fun hT207 _ => ?_)
  refine z_newa (t := 20) (N := 2) (Or.inl ⟨rfl, rfl⟩) zw_231 rfl (Nat.le_of_ble_eq_true rfl) r207 dX12_init_419 (fun x207 k207 => ?_)
  refine z_nm (fun M_208 g_208 => ?_)
  replace hP := hP M_208 g_208
  have x207 := z_xe g_208 x207
  have k207 := z_xk g_208 k207
  have ha := x207.k (k := 12) hT207 ha
  refine z_pc (pc' := 421) rfl ?_
  refine z_putr (c := 12) (k := 74) (g := 1610) (t := 20) z_cb12 (Nat.le_of_ble_eq_true rfl) (Nat.le_of_ble_eq_true rfl) rfl rfl rfl zw_1329 rfl ha (z_trn rfl k207) (Or.inr ⟨rfl, rfl, rfl⟩) dX12_init_421 ?_
  refine z_nm (fun M_209 g_209 => ?_)
  replace hP := hP M_209 g_209
  have q_209 := z_k2 g_209
  have ha := z_kk q_209 ha
  refine z_aload_n dX12_init_424 rfl 0 rfl ?_
  refine z_iconst (v := 2) dX12_init_425 (by decide) ?_
  obtain ⟨r210, hP⟩ := hP
  refine z_wts (fun hT210 _ => ?_)
  refine z_newa (t := 20) (N := 2) (Or.inl ⟨rfl, rfl⟩) zw_231 rfl (Nat.le_of_ble_eq_true rfl) r210 dX12_init_426 (fun x210 k210 => ?_)
  refine z_nm (fun M_211 g_211 => ?_)
  replace hP := hP M_211 g_211
  have x210 := z_xe g_211 x210
  have k210 := z_xk g_211 k210
  have ha := x210.k (k := 12) hT210 ha
  refine z_putr (c := 12) (k := 75) (g := 1611) (t := 20) z_cb12 (Nat.le_of_ble_eq_true rfl) (Nat.le_of_ble_eq_true rfl) rfl rfl rfl zw_1330 rfl ha (z_trn rfl k210) (Or.inr ⟨rfl, rfl, rfl⟩) dX12_init_428 ?_
  refine z_nm (fun M_212 g_212 => ?_)
  replace hP := hP M_212 g_212
  have q_212 := z_k2 g_212
  have ha := z_kk q_212 ha
  refine z_aload_n dX12_init_431 rfl 0 rfl ?_
  refine z_pc (pc' := 432) rfl ?_
  refine z_iconst (v := 2) dX12_init_432 (by decide) ?_
  obtain ⟨r213, hP⟩ := hP
  refine z_wts (fun hT213 _ => ?_)
  refine z_newa (t := 20) (N := 2) (Or.inl ⟨rfl, rfl⟩) zw_231 rfl (Nat.le_of_ble_eq_true rfl) r213 dX12_init_433 (fun x213 k213 => ?_)
  refine z_nm (fun M_214 g_214 => ?_)
  replace hP := hP M_214 g_214
  have x213 := z_xe g_214 x213
  have k213 := z_xk g_214 k213
  have ha := x213.k (k := 12) hT213 ha
  refine z_putr (c := 12) (k := 76) (g := 1612) (t := 20) z_cb12 (Nat.le_of_ble_eq_true rfl) (Nat.le_of_ble_eq_true rfl) rfl rfl rfl zw_1331 rfl ha (z_trn rfl k213) (Or.inr ⟨rfl, rfl, rfl⟩) dX12_init_435 ?_
  refine z_nm (fun M_215 g_215 => ?_)
  replace hP := hP M_215 g_215
  have q_215 := z_k2 g_215
  have ha := z_kk q_215 ha
  refine z_aload_n dX12_init_438 rfl 0 rfl ?_
  refine z_iconst (v := 2) dX12_init_439 (by decide) ?_
  obtain ⟨r216, hP⟩ := hP
  refine z_wts (fun hT216 _ => ?_)
  refine z_newa (t := 20) (N := 2) (Or.inl ⟨rfl, rfl⟩) zw_231 rfl (Nat.le_of_ble_eq_true rfl) r216 dX12_init_440 (fun x216 k216 => ?_)
  refine z_nm (fun M_217 g_217 => ?_)
  replace hP := hP M_217 g_217
  have x216 := z_xe g_217 x216
  have k216 := z_xk g_217 k216
  have ha := x216.k (k := 12) hT216 ha
  refine z_pc (pc' := 442) rfl ?_
  refine z_putr (c := 12) (k := 77) (g := 1613) (t := 20) z_cb12 (Nat.le_of_ble_eq_true rfl) (Nat.le_of_ble_eq_true rfl) rfl rfl rfl zw_1332 rfl ha (z_trn rfl k216) (Or.inr ⟨rfl, rfl, rfl⟩) dX12_init_442 ?_
  refine z_nm (fun M_218 g_218 => ?_)
  replace hP := hP M_218 g_218
  have q_218 := z_k2 g_218
  have ha := z_kk q_218 ha
  refine z_aload_n dX12_init_445 rfl 0 rfl ?_
  refine z_iconst (v := 2) dX12_init_446 (by decide) ?_
  obtain ⟨r219, hP⟩ := hP
  refine z_wts (fun hT219 _ => ?_)
  refine z_newa (t := 21) (N := 2) (Or.inr (Or.inl ⟨rfl, rfl⟩)) zw_230 rfl (Nat.le_of_ble_eq_true rfl) r219 dX12_init_447 (fun x219 k219 => ?_)
  refine z_nm (fun M_220 g_220 => ?_)
  replace hP := hP M_220 g_220
  have x219 := z_xe g_220 x219
  have k219 := z_xk g_220 k219
  have ha := x219.k (k := 12) hT219 ha
  refine z_putr (c := 12) (k := 78) (g := 1614) (t := 21) z_cb12 (Nat.le_of_ble_eq_true rfl) (Nat.le_of_ble_eq_true rfl) rfl rfl rfl zw_1333 rfl ha (z_trn rfl k219) (Or.inr ⟨rfl, rfl, rfl⟩) dX12_init_449 ?_
  refine z_nm (fun M_221 g_221 => ?_)
  replace hP := hP M_221 g_221
  have q_221 := z_k2 g_221
  have ha := z_kk q_221 ha
  refine z_aload_n dX12_init_452 rfl 0 rfl ?_
  refine z_pc (pc' := 453) rfl ?_
  refine z_iconst (v := 2) dX12_init_453 (by decide) ?_
  obtain ⟨r222, hP⟩ := hP
  refine z_wts (fun hT222 _ => ?_)
  refine z_newa (t := 21) (N := 2) (Or.inr (Or.inl ⟨rfl, rfl⟩)) zw_230 rfl (Nat.le_of_ble_eq_true rfl) r222 dX12_init_454 (fun x222 k222 => ?_)
  refine z_nm (fun M_223 g_223 => ?_)
  replace hP := hP M_223 g_223
  have x222 := z_xe g_223 x222
  have k222 := z_xk g_223 k222
  have ha := x222.k (k := 12) hT222 ha
  refine z_putr (c := 12) (k := 79) (g := 1615) (t := 21) z_cb12 (Nat.le_of_ble_eq_true rfl) (Nat.le_of_ble_eq_true rfl) rfl rfl rfl zw_1334 rfl ha (z_trn rfl k222) (Or.inr ⟨rfl, rfl, rfl⟩) dX12_init_456 ?_
  refine z_nm (fun M_224 g_224 => ?_)
  replace hP := hP M_224 g_224
  have q_224 := z_k2 g_224
  have ha := z_kk q_224 ha
  refine z_aload_n dX12_init_459 rfl 0 rfl ?_
  refine z_iconst (v := 2) dX12_init_460 (by decide) ?_
  obtain ⟨r225, hP⟩ := hP
  refine z_wts (fun hT225 _ => ?_)
  refine z_newa (t := 20) (N := 2) (Or.inl ⟨rfl, rfl⟩) zw_231 rfl (Nat.le_of_ble_eq_true rfl) r225 dX12_init_461 (fun x225 k225 => ?_)
  refine z_nm (fun M_226 g_226 => ?_)
  replace hP := hP M_226 g_226
  have x225 := z_xe g_226 x225
  have k225 := z_xk g_226 k225
  have ha := x225.k (k := 12) hT225 ha
  refine z_pc (pc' := 463) rfl ?_
  refine z_putr (c := 12) (k := 80) (g := 1616) (t := 20) z_cb12 (Nat.le_of_ble_eq_true rfl) (Nat.le_of_ble_eq_true rfl) rfl rfl rfl zw_1335 rfl ha (z_trn rfl k225) (Or.inr ⟨rfl, rfl, rfl⟩) dX12_init_463 ?_
  refine z_nm (fun M_227 g_227 => ?_)
  replace hP := hP M_227 g_227
  have q_227 := z_k2 g_227
  have ha := z_kk q_227 ha
  refine z_aload_n dX12_init_466 rfl 0 rfl ?_
  refine z_iconst (v := 2) dX12_init_467 (by decide) ?_
  obtain ⟨r228, hP⟩ := hP
  refine z_wts (fun hT228 _ => ?_)
  refine z_newa (t := 20) (N := 2) (Or.inl ⟨rfl, rfl⟩) zw_231 rfl (Nat.le_of_ble_eq_true rfl) r228 dX12_init_468 (fun x228 k228 => ?_)
  refine z_nm (fun M_229 g_229 => ?_)
  replace hP := hP M_229 g_229
  have x228 := z_xe g_229 x228
  have k228 := z_xk g_229 k228
  have ha := x228.k (k := 12) hT228 ha
  refine z_putr (c := 12) (k := 81) (g := 1617) (t := 20) z_cb12 (Nat.le_of_ble_eq_true rfl) (Nat.le_of_ble_eq_true rfl) rfl rfl rfl zw_1336 rfl ha (z_trn rfl k228) (Or.inr ⟨rfl, rfl, rfl⟩) dX12_init_470 ?_
  refine z_nm (fun M_230 g_230 => ?_)
  replace hP := hP M_230 g_230
  have q_230 := z_k2 g_230
  have ha := z_kk q_230 ha
  refine z_aload_n dX12_init_473 rfl 0 rfl ?_
  refine z_pc (pc' := 474) rfl ?_
  refine z_iconst (v := 2) dX12_init_474 (by decide) ?_
  obtain ⟨r231, hP⟩ := hP
  refine z_wts (fun hT231 _ => ?_)
  refine z_newa (t := 20) (N := 2) (Or.inl ⟨rfl, rfl⟩) zw_231 rfl (Nat.le_of_ble_eq_true rfl) r231 dX12_init_475 (fun x231 k231 => ?_)
  refine z_nm (fun M_232 g_232 => ?_)
  replace hP := hP M_232 g_232
  have x231 := z_xe g_232 x231
  have k231 := z_xk g_232 k231
  have ha := x231.k (k := 12) hT231 ha
  refine z_putr (c := 12) (k := 82) (g := 1618) (t := 20) z_cb12 (Nat.le_of_ble_eq_true rfl) (Nat.le_of_ble_eq_true rfl) rfl rfl rfl zw_1337 rfl ha (z_trn rfl k231) (Or.inr ⟨rfl, rfl, rfl⟩) dX12_init_477 ?_
  refine z_nm (fun M_233 g_233 => ?_)
  replace hP := hP M_233 g_233
  have q_233 := z_k2 g_233
  have ha := z_kk q_233 ha
  refine z_aload_n dX12_init_480 rfl 0 rfl ?_
  refine z_iconst (v := 2) dX12_init_481 (by decide) ?_
  obtain ⟨r234, hP⟩ := hP
  refine z_wts (fun hT234 _ => ?_)
  refine z_newa (t := 20) (N := 2) (Or.inl ⟨rfl, rfl⟩) zw_231 rfl (Nat.le_of_ble_eq_true rfl) r234 dX12_init_482 (fun x234 k234 => ?_)
  refine z_nm (fun M_235 g_235 => ?_)
  replace hP := hP M_235 g_235
  have x234 := z_xe g_235 x234
  have k234 := z_xk g_235 k234
  have ha := x234.k (k := 12) hT234 ha
  refine z_pc (pc' := 484) rfl ?_
  refine z_putr (c := 12) (k := 83) (g := 1619) (t := 20) z_cb12 (Nat.le_of_ble_eq_true rfl) (Nat.le_of_ble_eq_true rfl) rfl rfl rfl zw_1338 rfl ha (z_trn rfl k234) (Or.inr ⟨rfl, rfl, rfl⟩) dX12_init_484 ?_
  refine z_nm (fun M_236 g_236 => ?_)
  replace hP := hP M_236 g_236
  have q_236 := z_k2 g_236
  have ha := z_kk q_236 ha
  refine z_aload_n dX12_init_487 rfl 0 rfl ?_
  refine z_iconst (v := 2) dX12_init_488 (by decide) ?_
  obtain ⟨r237, hP⟩ := hP
  refine z_wts (fun hT237 _ => ?_)
  refine z_newa (t := 20) (N := 2) (Or.inl ⟨rfl, rfl⟩) zw_231 rfl (Nat.le_of_ble_eq_true rfl) r237 dX12_init_489 (fun x237 k237 => ?_)
  refine z_nm (fun M_238 g_238 => ?_)
  replace hP := hP M_238 g_238
  have x237 := z_xe g_238 x237
  have k237 := z_xk g_238 k237
  have ha := x237.k (k := 12) hT237 ha
  refine z_putr (c := 12) (k := 84) (g := 1620) (t := 20) z_cb12 (Nat.le_of_ble_eq_true rfl) (Nat.le_of_ble_eq_true rfl) rfl rfl rfl zw_1339 rfl ha (z_trn rfl k237) (Or.inr ⟨rfl, rfl, rfl⟩) dX12_init_491 ?_
  refine z_nm (fun M_239 g_239 => ?_)
  replace hP := hP M_239 g_239
  have q_239 := z_k2 g_239
  have ha := z_kk q_239 ha
  refine z_aload_n dX12_init_494 rfl 0 rfl ?_
  refine z_pc (pc' := 495) rfl ?_
  refine z_bipush (v := 16) dX12_init_495 (by decide) ?_
  obtain ⟨r240, hP⟩ := hP
  refine z_wts (fun hT240 _ => ?_)
  refine z_newa (t := 20) (N := 16) (Or.inl ⟨rfl, rfl⟩) zw_231 rfl (Nat.le_of_ble_eq_true rfl) r240 dX12_init_497 (fun x240 k240 => ?_)
  refine z_nm (fun M_241 g_241 => ?_)
  replace hP := hP M_241 g_241
  have x240 := z_xe g_241 x240
  have k240 := z_xk g_241 k240
  have ha := x240.k (k := 12) hT240 ha
  refine z_putr (c := 12) (k := 85) (g := 1621) (t := 20) z_cb12 (Nat.le_of_ble_eq_true rfl) (Nat.le_of_ble_eq_true rfl) rfl rfl rfl zw_1340 rfl ha (z_trn rfl k240) (Or.inr ⟨rfl, rfl, rfl⟩) dX12_init_499 ?_
  refine z_nm (fun M_242 g_242 => ?_)
  replace hP := hP M_242 g_242
  have q_242 := z_k2 g_242
  have ha := z_kk q_242 ha
  refine z_aload_n dX12_init_502 rfl 0 rfl ?_
  refine z_iconst (v := 2) dX12_init_503 (by decide) ?_
  obtain ⟨r243, hP⟩ := hP
  refine z_wts (fun hT243 _ => ?_)
  refine z_newa (t := 20) (N := 2) (Or.inl ⟨rfl, rfl⟩) zw_231 rfl (Nat.le_of_ble_eq_true rfl) r243 dX12_init_504 (fun x243 k243 => ?_)
  refine z_nm (fun M_244 g_244 => ?_)
  replace hP := hP M_244 g_244
  have x243 := z_xe g_244 x243
  have k243 := z_xk g_244 k243
  have ha := x243.k (k := 12) hT243 ha
  refine z_pc (pc' := 506) rfl ?_
  refine z_putr (c := 12) (k := 86) (g := 1622) (t := 20) z_cb12 (Nat.le_of_ble_eq_true rfl) (Nat.le_of_ble_eq_true rfl) rfl rfl rfl zw_1341 rfl ha (z_trn rfl k243) (Or.inr ⟨rfl, rfl, rfl⟩) dX12_init_506 ?_
  refine z_nm (fun M_245 g_245 => ?_)
  replace hP := hP M_245 g_245
  have q_245 := z_k2 g_245
  have ha := z_kk q_245 ha
  refine z_aload_n dX12_init_509 rfl 0 rfl ?_
  refine z_iconst (v := 2) dX12_init_510 (by decide) ?_
  obtain ⟨r246, hP⟩ := hP
  refine z_wts (fun hT246 _ => ?_)
  refine z_newa (t := 20) (N := 2) (Or.inl ⟨rfl, rfl⟩) zw_231 rfl (Nat.le_of_ble_eq_true rfl) r246 dX12_init_511 (fun x246 k246 => ?_)
  refine z_nm (fun M_247 g_247 => ?_)
  replace hP := hP M_247 g_247
  have x246 := z_xe g_247 x246
  have k246 := z_xk g_247 k246
  have ha := x246.k (k := 12) hT246 ha
  refine z_putr (c := 12) (k := 87) (g := 1623) (t := 20) z_cb12 (Nat.le_of_ble_eq_true rfl) (Nat.le_of_ble_eq_true rfl) rfl rfl rfl zw_1342 rfl ha (z_trn rfl k246) (Or.inr ⟨rfl, rfl, rfl⟩) dX12_init_513 ?_
  refine z_nm (fun M_248 g_248 => ?_)
  replace hP := hP M_248 g_248
  have q_248 := z_k2 g_248
  have ha := z_kk q_248 ha
  refine z_aload_n dX12_init_516 rfl 0 rfl ?_
  refine z_pc (pc' := 517) rfl ?_
  refine z_iconst (v := 2) dX12_init_517 (by decide) ?_
  obtain ⟨r249, hP⟩ := hP
  refine z_wts (fun hT249 _ => ?_)
  refine z_newa (t := 20) (N := 2) (Or.inl ⟨rfl, rfl⟩) zw_231 rfl (Nat.le_of_ble_eq_true rfl) r249 dX12_init_518 (fun x249 k249 => ?_)
  refine z_nm (fun M_250 g_250 => ?_)
  replace hP := hP M_250 g_250
  have x249 := z_xe g_250 x249
  have k249 := z_xk g_250 k249
  have ha := x249.k (k := 12) hT249 ha
  refine z_putr (c := 12) (k := 88) (g := 1624) (t := 20) z_cb12 (Nat.le_of_ble_eq_true rfl) (Nat.le_of_ble_eq_true rfl) rfl rfl rfl zw_1343 rfl ha (z_trn rfl k249) (Or.inr ⟨rfl, rfl, rfl⟩) dX12_init_520 ?_
  refine z_nm (fun M_251 g_251 => ?_)
  replace hP := hP M_251 g_251
  have q_251 := z_k2 g_251
  have ha := z_kk q_251 ha
  refine z_aload_n dX12_init_523 rfl 0 rfl ?_
  refine z_iconst (v := 2) dX12_init_524 (by decide) ?_
  obtain ⟨r252, hP⟩ := hP
  refine z_wts (fun hT252 _ => ?_)
  refine z_newa (t := 20) (N := 2) (Or.inl ⟨rfl, rfl⟩) zw_231 rfl (Nat.le_of_ble_eq_true rfl) r252 dX12_init_525 (fun x252 k252 => ?_)
  refine z_nm (fun M_253 g_253 => ?_)
  replace hP := hP M_253 g_253
  have x252 := z_xe g_253 x252
  have k252 := z_xk g_253 k252
  have ha := x252.k (k := 12) hT252 ha
  refine z_pc (pc' := 527) rfl ?_
  refine z_putr (c := 12) (k := 89) (g := 1625) (t := 20) z_cb12 (Nat.le_of_ble_eq_true rfl) (Nat.le_of_ble_eq_true rfl) rfl rfl rfl zw_1344 rfl ha (z_trn rfl k252) (Or.inr ⟨rfl, rfl, rfl⟩) dX12_init_527 ?_
  refine z_nm (fun M_254 g_254 => ?_)
  replace hP := hP M_254 g_254
  have q_254 := z_k2 g_254
  have ha := z_kk q_254 ha
  refine z_aload_n dX12_init_530 rfl 0 rfl ?_
  refine z_iconst (v := 2) dX12_init_531 (by decide) ?_
  obtain ⟨r255, hP⟩ := hP
  refine z_wts (fun hT255 _ => ?_)
  refine z_newa (t := 20) (N := 2) (Or.inl ⟨rfl, rfl⟩) zw_231 rfl (Nat.le_of_ble_eq_true rfl) r255 dX12_init_532 (fun x255 k255 => ?_)
  refine z_nm (fun M_256 g_256 => ?_)
  replace hP := hP M_256 g_256
  have x255 := z_xe g_256 x255
  have k255 := z_xk g_256 k255
  have ha := x255.k (k := 12) hT255 ha
  refine z_putr (c := 12) (k := 90) (g := 1626) (t := 20) z_cb12 (Nat.le_of_ble_eq_true rfl) (Nat.le_of_ble_eq_true rfl) rfl rfl rfl zw_1345 rfl ha (z_trn rfl k255) (Or.inr ⟨rfl, rfl, rfl⟩) dX12_init_534 ?_
  refine z_nm (fun M_257 g_257 => ?_)
  replace hP := hP M_257 g_257
  have q_257 := z_k2 g_257
  have ha := z_kk q_257 ha
  refine z_aload_n dX12_init_537 rfl 0 rfl ?_
  refine z_pc (pc' := 538) rfl ?_
  refine z_iconst (v := 2) dX12_init_538 (by decide) ?_
  obtain ⟨r258, hP⟩ := hP
  refine z_wts (fun hT258 _ => ?_)
  refine z_newa (t := 20) (N := 2) (Or.inl ⟨rfl, rfl⟩) zw_231 rfl (Nat.le_of_ble_eq_true rfl) r258 dX12_init_539 (fun x258 k258 => ?_)
  refine z_nm (fun M_259 g_259 => ?_)
  replace hP := hP M_259 g_259
  have x258 := z_xe g_259 x258
  have k258 := z_xk g_259 k258
  have ha := x258.k (k := 12) hT258 ha
  refine z_putr (c := 12) (k := 91) (g := 1627) (t := 20) z_cb12 (Nat.le_of_ble_eq_true rfl) (Nat.le_of_ble_eq_true rfl) rfl rfl rfl zw_1346 rfl ha (z_trn rfl k258) (Or.inr ⟨rfl, rfl, rfl⟩) dX12_init_541 ?_
  refine z_nm (fun M_260 g_260 => ?_)
  replace hP := hP M_260 g_260
  have q_260 := z_k2 g_260
  have ha := z_kk q_260 ha
  refine z_aload_n dX12_init_544 rfl 0 rfl ?_
  refine z_iconst (v := 2) dX12_init_545 (by decide) ?_
  obtain ⟨r261, hP⟩ := hP
  refine z_wts (fun hT261 _ => ?_)
  refine z_newa (t := 20) (N := 2) (Or.inl ⟨rfl, rfl⟩) zw_231 rfl (Nat.le_of_ble_eq_true rfl) r261 dX12_init_546 (fun x261 k261 => ?_)
  refine z_nm (fun M_262 g_262 => ?_)
  replace hP := hP M_262 g_262
  have x261 := z_xe g_262 x261
  have k261 := z_xk g_262 k261
  have ha := x261.k (k := 12) hT261 ha
  refine z_pc (pc' := 548) rfl ?_
  refine z_putr (c := 12) (k := 92) (g := 1628) (t := 20) z_cb12 (Nat.le_of_ble_eq_true rfl) (Nat.le_of_ble_eq_true rfl) rfl rfl rfl zw_1347 rfl ha (z_trn rfl k261) (Or.inr ⟨rfl, rfl, rfl⟩) dX12_init_548 ?_
  refine z_nm (fun M_263 g_263 => ?_)
  replace hP := hP M_263 g_263
  have q_263 := z_k2 g_263
  have ha := z_kk q_263 ha
  refine z_aload_n dX12_init_551 rfl 0 rfl ?_
  refine z_bipush (v := 6) dX12_init_552 (by decide) ?_
  obtain ⟨r264, hP⟩ := hP
  refine z_wts (fun hT264 _ => ?_)
  refine z_newa (t := 20) (N := 6) (Or.inl ⟨rfl, rfl⟩) zw_231 rfl (Nat.le_of_ble_eq_true rfl) r264 dX12_init_554 (fun x264 k264 => ?_)
  refine z_nm (fun M_265 g_265 => ?_)
  replace hP := hP M_265 g_265
  have x264 := z_xe g_265 x264
  have k264 := z_xk g_265 k264
  have ha := x264.k (k := 12) hT264 ha
  refine z_putr (c := 12) (k := 93) (g := 1629) (t := 20) z_cb12 (Nat.le_of_ble_eq_true rfl) (Nat.le_of_ble_eq_true rfl) rfl rfl rfl zw_1348 rfl ha (z_trn rfl k264) (Or.inr ⟨rfl, rfl, rfl⟩) dX12_init_556 ?_
  refine z_nm (fun M_266 g_266 => ?_)
  replace hP := hP M_266 g_266
  have q_266 := z_k2 g_266
  have ha := z_kk q_266 ha
  refine z_iconst (v := 0) dX12_init_559 (by decide) ?_
  refine z_pc (pc' := 560) rfl ?_
  refine z_istore_n (lv' := [(1, z_I _), (0, z_O _)]) dX12_init_560 rfl (Nat.le_of_ble_eq_true rfl) rfl ?_
  obtain ⟨n267, hP⟩ := hP
  refine z_sub (lv' := [(0, z_O _), (1, z_I _)]) [1, 0] rfl ?_
  exact v_X12_init_561  n267 ha hP
set_option maxRecDepth 100000 in
def P_X12_thrown (a : Nat) (M : z_Mem) (Post : Int32 → z_Mem → Prop) : Prop := Post (z_fi M 1630 a) M
set_option maxRecDepth 100000 in
set_option maxHeartbeats 4000000 in
theorem s_X12_thrown {G : z_G} {M : z_Mem} {a : Nat} {Post : Int32 → z_Mem → Prop} (ha : z_ki M a = 13) (hP : P_X12_thrown a M Post) : z_Mt G Y_X12_thrown M [z_O (some a)] (z_PI Post) := by
  refine z_ofV (by decide) (Nat.le_of_ble_eq_true rfl) ?_
  unfold P_X12_thrown at hP
  refine z_sub (lv' := [(0, z_O (some a))]) [0] rfl ?_
  refine z_aload_n dX12_thrown_0 rfl 0 rfl ?_
  refine z_geti (c := 12) (k := 94) (g := 1630) z_cb12 (Nat.le_of_ble_eq_true rfl) (Nat.le_of_ble_eq_true rfl) rfl (Nat.le_of_ble_eq_true rfl) zw_1349 rfl ha dX12_thrown_1 ?_
  exact z_reti rfl dX12_thrown_4 hP
set_option maxRecDepth 100000 in
def P_X12_in (p1 : Int32) (p2 : Int32) (p3 : Int32) (M : z_Mem) (Post : Int32 → z_Mem → Prop) : Prop := ((p1 < p2 → Post 0 M) ∧ (¬ p1 < p2 → ((p3 < p1 → Post 0 M) ∧ (¬ p3 < p1 → Post 1 M))))
set_option maxRecDepth 100000 in
set_option maxHeartbeats 4000000 in
theorem s_X12_in {G : z_G} {M : z_Mem} {p1 : Int32} {p2 : Int32} {p3 : Int32} {Post : Int32 → z_Mem → Prop} (hP : P_X12_in p1 p2 p3 M Post) : z_Mt G Y_X12_in M [z_I p1, z_I p2, z_I p3] (z_PB Post) := by
  refine z_ofV (by decide) (Nat.le_of_ble_eq_true rfl) ?_
  unfold P_X12_in at hP
  refine z_sub (lv' := [(0, z_I p1), (1, z_I p2), (2, z_I p3)]) [0, 1, 2] rfl ?_
  refine z_iload_n dX12_in_0 rfl 0 rfl ?_
  refine z_iload_n dX12_in_1 rfl 1 rfl ?_
  refine z_icmp_lt (tgt := 14) dX12_in_2 (by decide) (fun h1 => ?_) (fun h1 => ?_)
  · replace hP := hP.1 h1
    refine z_iconst (v := 0) dX12_in_14 (by decide) ?_
    exact z_retb rfl (Or.inl rfl) dX12_in_15 hP
  · replace hP := hP.2 h1
    refine z_iload_n dX12_in_5 rfl 0 rfl ?_
    refine z_iload_n dX12_in_6 rfl 2 rfl ?_
    refine z_icmp_gt (tgt := 14) dX12_in_7 (by decide) (fun h2 => ?_) (fun h2 => ?_)
    · replace hP := hP.1 h2
      refine z_iconst (v := 0) dX12_in_14 (by decide) ?_
      exact z_retb rfl (Or.inl rfl) dX12_in_15 hP
    · replace hP := hP.2 h2
      refine z_iconst (v := 1) dX12_in_10 (by decide) ?_
      refine z_goto (tgt := 15) dX12_in_11 (by decide) ?_
      exact z_retb rfl (Or.inr rfl) dX12_in_15 hP
set_option maxRecDepth 100000 in
def P_X12_goes (a : Nat) (p1 : Int32) (p2 : Int32) (p3 : Int32) (M : z_Mem) (Post : Int32 → z_Mem → Prop) : Prop := ((p1 = 0 → ∀ M_13 : z_Mem, M_13 = z_sfi M 1630 a 1 → ((((z_fi M_13 1630 a) = 0 → Post 1 M_13) ∧ (¬ (z_fi M_13 1630 a) = 0 → Post 0 M_13)))) ∧ (¬ p1 = 0 → ((p2 = 0 → ∀ M_10 : z_Mem, M_10 = z_sfi M 1630 a 2 → ((((z_fi M_10 1630 a) = 0 → Post 1 M_10) ∧ (¬ (z_fi M_10 1630 a) = 0 → Post 0 M_10)))) ∧ (¬ p2 = 0 → ((p3 = 0 → ∀ M_4 : z_Mem, M_4 = z_sfi M 1630 a 3 → ((((z_fi M_4 1630 a) = 0 → Post 1 M_4) ∧ (¬ (z_fi M_4 1630 a) = 0 → Post 0 M_4)))) ∧ (¬ p3 = 0 → ∀ M_7 : z_Mem, M_7 = z_sfi M 1630 a 0 → ((((z_fi M_7 1630 a) = 0 → Post 1 M_7) ∧ (¬ (z_fi M_7 1630 a) = 0 → Post 0 M_7)))))))))
set_option maxRecDepth 100000 in
set_option maxHeartbeats 4000000 in
theorem s_X12_goes {G : z_G} {M : z_Mem} {a : Nat} {p1 : Int32} {p2 : Int32} {p3 : Int32} {Post : Int32 → z_Mem → Prop} (ha : z_ki M a = 13) (f_p1 : p1 = 0 ∨ p1 = 1) (f_p2 : p2 = 0 ∨ p2 = 1) (f_p3 : p3 = 0 ∨ p3 = 1) (hP : P_X12_goes a p1 p2 p3 M Post) : z_Mt G Y_X12_goes M [z_O (some a), z_I p1, z_I p2, z_I p3] (z_PB Post) := by
  refine z_ofV (by decide) (Nat.le_of_ble_eq_true rfl) ?_
  unfold P_X12_goes at hP
  refine z_sub (lv' := [(0, z_O (some a)), (1, z_I p1), (2, z_I p2), (3, z_I p3)]) [0, 1, 2, 3] rfl ?_
  refine z_aload_n dX12_goes_0 rfl 0 rfl ?_
  refine z_iload_n dX12_goes_1 rfl 1 rfl ?_
  refine z_if_ne (tgt := 9) dX12_goes_2 (by decide) (fun h1 => ?_) (fun h1 => ?_)
  · replace hP := hP.2 h1
    refine z_iload_n dX12_goes_9 rfl 2 rfl ?_
    refine z_if_ne (tgt := 17) dX12_goes_10 (by decide) (fun h2 => ?_) (fun h2 => ?_)
    · replace hP := hP.2 h2
      refine z_iload_n dX12_goes_17 rfl 3 rfl ?_
      refine z_if_eq (tgt := 25) dX12_goes_18 (by decide) (fun h3 => ?_) (fun h3 => ?_)
      · replace hP := hP.1 h3
        refine z_iconst (v := 3) dX12_goes_25 (by decide) ?_
        refine z_puti (c := 12) (k := 94) (g := 1630) z_cb12 (Nat.le_of_ble_eq_true rfl) (Nat.le_of_ble_eq_true rfl) (Nat.le_of_ble_eq_true rfl) rfl rfl rfl zw_1349 rfl ha (Or.inl rfl) dX12_goes_26 ?_
        refine z_nm (fun M_4 g_4 => ?_)
        replace hP := hP M_4 g_4
        have q_4 := z_k1 g_4
        have ha := z_kk q_4 ha
        refine z_pc (pc' := 29) rfl ?_
        refine z_aload_n dX12_goes_29 rfl 0 rfl ?_
        refine z_geti (c := 12) (k := 94) (g := 1630) z_cb12 (Nat.le_of_ble_eq_true rfl) (Nat.le_of_ble_eq_true rfl) rfl (Nat.le_of_ble_eq_true rfl) zw_1349 rfl ha dX12_goes_30 ?_
        refine z_if_ne (tgt := 40) dX12_goes_33 (by decide) (fun h6 => ?_) (fun h6 => ?_)
        · replace hP := hP.2 h6
          refine z_iconst (v := 0) dX12_goes_40 (by decide) ?_
          exact z_retb rfl (Or.inl rfl) dX12_goes_41 hP
        · replace hP := hP.1 h6
          refine z_iconst (v := 1) dX12_goes_36 (by decide) ?_
          refine z_goto (tgt := 41) dX12_goes_37 (by decide) ?_
          exact z_retb rfl (Or.inr rfl) dX12_goes_41 hP
      · replace hP := hP.2 h3
        refine z_iconst (v := 0) dX12_goes_21 (by decide) ?_
        refine z_goto (tgt := 26) dX12_goes_22 (by decide) ?_
        refine z_puti (c := 12) (k := 94) (g := 1630) z_cb12 (Nat.le_of_ble_eq_true rfl) (Nat.le_of_ble_eq_true rfl) (Nat.le_of_ble_eq_true rfl) rfl rfl rfl zw_1349 rfl ha (Or.inl rfl) dX12_goes_26 ?_
        refine z_nm (fun M_7 g_7 => ?_)
        replace hP := hP M_7 g_7
        have q_7 := z_k1 g_7
        have ha := z_kk q_7 ha
        refine z_pc (pc' := 29) rfl ?_
        refine z_aload_n dX12_goes_29 rfl 0 rfl ?_
        refine z_geti (c := 12) (k := 94) (g := 1630) z_cb12 (Nat.le_of_ble_eq_true rfl) (Nat.le_of_ble_eq_true rfl) rfl (Nat.le_of_ble_eq_true rfl) zw_1349 rfl ha dX12_goes_30 ?_
        refine z_if_ne (tgt := 40) dX12_goes_33 (by decide) (fun h9 => ?_) (fun h9 => ?_)
        · replace hP := hP.2 h9
          refine z_iconst (v := 0) dX12_goes_40 (by decide) ?_
          exact z_retb rfl (Or.inl rfl) dX12_goes_41 hP
        · replace hP := hP.1 h9
          refine z_iconst (v := 1) dX12_goes_36 (by decide) ?_
          refine z_goto (tgt := 41) dX12_goes_37 (by decide) ?_
          exact z_retb rfl (Or.inr rfl) dX12_goes_41 hP
    · replace hP := hP.1 h2
      refine z_iconst (v := 2) dX12_goes_13 (by decide) ?_
      refine z_goto (tgt := 26) dX12_goes_14 (by decide) ?_
      refine z_puti (c := 12) (k := 94) (g := 1630) z_cb12 (Nat.le_of_ble_eq_true rfl) (Nat.le_of_ble_eq_true rfl) (Nat.le_of_ble_eq_true rfl) rfl rfl rfl zw_1349 rfl ha (Or.inl rfl) dX12_goes_26 ?_
      refine z_nm (fun M_10 g_10 => ?_)
      replace hP := hP M_10 g_10
      have q_10 := z_k1 g_10
      have ha := z_kk q_10 ha
      refine z_aload_n dX12_goes_29 rfl 0 rfl ?_
      refine z_pc (pc' := 30) rfl ?_
      refine z_geti (c := 12) (k := 94) (g := 1630) z_cb12 (Nat.le_of_ble_eq_true rfl) (Nat.le_of_ble_eq_true rfl) rfl (Nat.le_of_ble_eq_true rfl) zw_1349 rfl ha dX12_goes_30 ?_
      refine z_if_ne (tgt := 40) dX12_goes_33 (by decide) (fun h12 => ?_) (fun h12 => ?_)
      · replace hP := hP.2 h12
        refine z_iconst (v := 0) dX12_goes_40 (by decide) ?_
        exact z_retb rfl (Or.inl rfl) dX12_goes_41 hP
      · replace hP := hP.1 h12
        refine z_iconst (v := 1) dX12_goes_36 (by decide) ?_
        refine z_goto (tgt := 41) dX12_goes_37 (by decide) ?_
        exact z_retb rfl (Or.inr rfl) dX12_goes_41 hP
  · replace hP := hP.1 h1
    refine z_iconst (v := 1) dX12_goes_5 (by decide) ?_
    refine z_goto (tgt := 26) dX12_goes_6 (by decide) ?_
    refine z_puti (c := 12) (k := 94) (g := 1630) z_cb12 (Nat.le_of_ble_eq_true rfl) (Nat.le_of_ble_eq_true rfl) (Nat.le_of_ble_eq_true rfl) rfl rfl rfl zw_1349 rfl ha (Or.inl rfl) dX12_goes_26 ?_
    refine z_nm (fun M_13 g_13 => ?_)
    replace hP := hP M_13 g_13
    have q_13 := z_k1 g_13
    have ha := z_kk q_13 ha
    refine z_aload_n dX12_goes_29 rfl 0 rfl ?_
    refine z_geti (c := 12) (k := 94) (g := 1630) z_cb12 (Nat.le_of_ble_eq_true rfl) (Nat.le_of_ble_eq_true rfl) rfl (Nat.le_of_ble_eq_true rfl) zw_1349 rfl ha dX12_goes_30 ?_
    refine z_pc (pc' := 33) rfl ?_
    refine z_if_ne (tgt := 40) dX12_goes_33 (by decide) (fun h15 => ?_) (fun h15 => ?_)
    · replace hP := hP.2 h15
      refine z_iconst (v := 0) dX12_goes_40 (by decide) ?_
      exact z_retb rfl (Or.inl rfl) dX12_goes_41 hP
    · replace hP := hP.1 h15
      refine z_iconst (v := 1) dX12_goes_36 (by decide) ?_
      refine z_goto (tgt := 41) dX12_goes_37 (by decide) ?_
      exact z_retb rfl (Or.inr rfl) dX12_goes_41 hP
set_option maxRecDepth 100000 in
def P_X12_isPath (p1 : Int32) (M : z_Mem) (Post : Int32 → z_Mem → Prop) : Prop := P_X12_in p1 0 1 M fun x_1 M_1 => (Post x_1 M_1)
set_option maxRecDepth 100000 in
set_option maxHeartbeats 4000000 in
theorem s_X12_isPath {G : z_G} {M : z_Mem} {p1 : Int32} {Post : Int32 → z_Mem → Prop} (hP : P_X12_isPath p1 M Post) : z_Mt G Y_X12_isPath M [z_I p1] (z_PB Post) := by
  refine z_ofV (by decide) (Nat.le_of_ble_eq_true rfl) ?_
  unfold P_X12_isPath at hP
  refine z_sub (lv' := [(0, z_I p1)]) [0] rfl ?_
  refine z_iload_n dX12_isPath_0 rfl 0 rfl ?_
  refine z_iconst (v := 0) dX12_isPath_1 (by decide) ?_
  refine z_iconst (v := 1) dX12_isPath_2 (by decide) ?_
  refine z_wts (fun hT1 _ => ?_)
  refine z_cSb (n := 3) (Y1 := Y_X12_in) (st := []) rfl (s_X12_in  hP) rfl ⟨z_dc_X12_in, ⟨(Nat.le_of_ble_eq_true rfl), (Nat.le_of_ble_eq_true rfl)⟩, (Nat.le_of_ble_eq_true rfl)⟩ rfl zw_1552 zw_1553 zw_12 zw_1554 dX12_isPath_3 (fun x_1 M_1 b1 hP _ x1 => ?_)
  exact z_retb rfl b1 dX12_isPath_6 hP
set_option maxRecDepth 100000 in
def P_X12_isStream (p1 : Int32) (M : z_Mem) (Post : Int32 → z_Mem → Prop) : Prop := P_X12_in p1 0 3 M fun x_1 M_1 => (Post x_1 M_1)
set_option maxRecDepth 100000 in
set_option maxHeartbeats 4000000 in
theorem s_X12_isStream {G : z_G} {M : z_Mem} {p1 : Int32} {Post : Int32 → z_Mem → Prop} (hP : P_X12_isStream p1 M Post) : z_Mt G Y_X12_isStream M [z_I p1] (z_PB Post) := by
  refine z_ofV (by decide) (Nat.le_of_ble_eq_true rfl) ?_
  unfold P_X12_isStream at hP
  refine z_sub (lv' := [(0, z_I p1)]) [0] rfl ?_
  refine z_iload_n dX12_isStream_0 rfl 0 rfl ?_
  refine z_iconst (v := 0) dX12_isStream_1 (by decide) ?_
  refine z_iconst (v := 3) dX12_isStream_2 (by decide) ?_
  refine z_wts (fun hT1 _ => ?_)
  refine z_cSb (n := 3) (Y1 := Y_X12_in) (st := []) rfl (s_X12_in  hP) rfl ⟨z_dc_X12_in, ⟨(Nat.le_of_ble_eq_true rfl), (Nat.le_of_ble_eq_true rfl)⟩, (Nat.le_of_ble_eq_true rfl)⟩ rfl zw_1552 zw_1553 zw_12 zw_1554 dX12_isStream_3 (fun x_1 M_1 b1 hP _ x1 => ?_)
  exact z_retb rfl b1 dX12_isStream_6 hP
set_option maxRecDepth 100000 in
def P_X12_max (p1 : Int32) (p2 : Int32) (M : z_Mem) (Post : Int32 → z_Mem → Prop) : Prop := ((p1 ≤ p2 → Post p2 M) ∧ (¬ p1 ≤ p2 → Post p1 M))
set_option maxRecDepth 100000 in
set_option maxHeartbeats 4000000 in
theorem s_X12_max {G : z_G} {M : z_Mem} {p1 : Int32} {p2 : Int32} {Post : Int32 → z_Mem → Prop} (hP : P_X12_max p1 p2 M Post) : z_Mt G Y_X12_max M [z_I p1, z_I p2] (z_PI Post) := by
  refine z_ofV (by decide) (Nat.le_of_ble_eq_true rfl) ?_
  unfold P_X12_max at hP
  refine z_sub (lv' := [(0, z_I p1), (1, z_I p2)]) [0, 1] rfl ?_
  refine z_iload_n dX12_max_0 rfl 0 rfl ?_
  refine z_iload_n dX12_max_1 rfl 1 rfl ?_
  refine z_icmp_le (tgt := 9) dX12_max_2 (by decide) (fun h1 => ?_) (fun h1 => ?_)
  · replace hP := hP.1 h1
    refine z_iload_n dX12_max_9 rfl 1 rfl ?_
    exact z_reti rfl dX12_max_10 hP
  · replace hP := hP.2 h1
    refine z_iload_n dX12_max_5 rfl 0 rfl ?_
    refine z_goto (tgt := 10) dX12_max_6 (by decide) ?_
    exact z_reti rfl dX12_max_10 hP
def P_X12_puts_111 (a : Nat) (Post : z_Mem → Prop)  (x1 : Int32) (x2 : Int32) (x3 : Int32) (M : z_Mem) : Prop := z_nn (z_fr M 1548 a) fun a3 => (vp_in (z_fi M 1551 a) (z_ln M a3) ∧ (∀ M_5 : z_Mem, M_5 = z_sai M a3 (((z_fi M 1551 a) : Int32).toNatClampNeg) x2 → (z_nn (z_fr M_5 1549 a) fun a8 => (vp_in (z_fi M_5 1551 a) (z_ln M_5 a8) ∧ (∀ M_10 : z_Mem, M_10 = z_sai M_5 a8 (((z_fi M_5 1551 a) : Int32).toNatClampNeg) x3 → (z_nn (z_fr M_10 1550 a) fun a13 => (vp_in (z_fi M_10 1551 a) (z_ln M_10 a13) ∧ (∀ M_15 : z_Mem, M_15 = z_sai M_10 a13 (((z_fi M_10 1551 a) : Int32).toNatClampNeg) x1 → (z_nn (z_fr M_15 1547 a) fun a18 => (vp_in x1 (z_ln M_15 a18) ∧ (z_nn (z_fr M_15 1546 a) fun a21 => (vp_in ((30 * x1) + (z_ai M_15 a18 ((x1 : Int32).toNatClampNeg))) (z_ln M_15 a21) ∧ (∀ M_23 : z_Mem, M_23 = z_sai M_15 a21 ((((30 * x1) + (z_ai M_15 a18 ((x1 : Int32).toNatClampNeg))) : Int32).toNatClampNeg) (z_fi M_15 1551 a) → (z_nn (z_fr M_23 1547 a) fun a25 => (vp_in x1 (z_ln M_23 a25) ∧ (vp_in x1 (z_ln M_23 a25) ∧ (∀ M_28 : z_Mem, M_28 = z_sai M_23 a25 ((x1 : Int32).toNatClampNeg) ((z_ai M_23 a25 ((x1 : Int32).toNatClampNeg)) + 1) → (∀ M_30 : z_Mem, M_30 = z_sfi M_28 1551 a ((z_fi M_28 1551 a) + 1) → (Post M_30)))))))))))))))))))
def P_X12_puts_110 (a : Nat) (Post : z_Mem → Prop)  (x1 : Int32) (x2 : Int32) (x3 : Int32) (t0 : Option Nat) (t1 : Int32) (t2 : Int32) (M : z_Mem) : Prop := z_nn t0 fun a31 => (vp_in t1 (z_ln M a31) ∧ (∀ M_33 : z_Mem, M_33 = z_sai M a31 ((t1 : Int32).toNatClampNeg) t2 → (P_X12_puts_111 a Post x1 x2 x3 M_33)))
def P_X12_puts_60 (a : Nat) (Post : z_Mem → Prop)  (x1 : Int32) (x2 : Int32) (x3 : Int32) (t0 : Int32) (M : z_Mem) : Prop := ((t0 = 0 → ((x2 = 2 → z_nn (z_fr M 1547 a) fun a38 => (vp_in x1 (z_ln M a38) ∧ (z_nn (z_fr M 1540 a) fun a41 => (vp_in x1 (z_ln M a41) ∧ ((((z_ai M a38 ((x1 : Int32).toNatClampNeg)) < (z_ai M a41 ((x1 : Int32).toNatClampNeg)) → P_X12_puts_110 a Post x1 x2 x3 (z_fr M 1603 a) x3 0 M) ∧ (¬ (z_ai M a38 ((x1 : Int32).toNatClampNeg)) < (z_ai M a41 ((x1 : Int32).toNatClampNeg)) → P_X12_puts_110 a Post x1 x2 x3 (z_fr M 1603 a) x3 1 M))))))) ∧ (¬ x2 = 2 → P_X12_puts_111 a Post x1 x2 x3 M))) ∧ (¬ t0 = 0 → ((x2 = 2 → z_nn (z_fr M 1599 a) fun a46 => (vp_in x3 (z_ln M a46) ∧ (∀ M_48 : z_Mem, M_48 = z_sai M a46 ((x3 : Int32).toNatClampNeg) 3 → (Post M_48)))) ∧ (¬ x2 = 2 → Post M))))
def P_X12_puts_55 (a : Nat) (Post : z_Mem → Prop)  (x1 : Int32) (x2 : Int32) (x3 : Int32) (M : z_Mem) : Prop := P_X12_puts_60 a Post x1 x2 x3 1 M
def P_X12_puts_35 (a : Nat) (Post : z_Mem → Prop)  (x1 : Int32) (x2 : Int32) (x3 : Int32) (x4 : Int32) (M : z_Mem) : Prop := ((x4 = 0 → z_nn (z_fr M 1547 a) fun a51 => (vp_in x1 (z_ln M a51) ∧ (z_nn (z_fr M 1539 a) fun a54 => (vp_in x1 (z_ln M a54) ∧ ((((z_ai M a51 ((x1 : Int32).toNatClampNeg)) < (z_ai M a54 ((x1 : Int32).toNatClampNeg)) → P_X12_puts_60 a Post x1 x2 x3 0 M) ∧ (¬ (z_ai M a51 ((x1 : Int32).toNatClampNeg)) < (z_ai M a54 ((x1 : Int32).toNatClampNeg)) → P_X12_puts_55 a Post x1 x2 x3 M))))))) ∧ (¬ x4 = 0 → P_X12_puts_55 a Post x1 x2 x3 M))
set_option maxRecDepth 100000 in
def P_X12_puts (a : Nat) (p1 : Int32) (p2 : Int32) (p3 : Int32) (M : z_Mem) (Post : z_Mem → Prop) : Prop := z_nn (z_fr M 1541 a) fun a58 => (vp_in p1 (z_ln M a58) ∧ (∀ x_60 : Int32, x_60 = (z_ai M a58 ((p1 : Int32).toNatClampNeg)) → (((x_60 = 0 → z_nn (z_fr M 1542 a) fun a63 => (vp_in p1 (z_ln M a63) ∧ ((((z_ai M a63 ((p1 : Int32).toNatClampNeg)) ≤ 0 → P_X12_puts_35 a Post p1 p2 p3 x_60 M) ∧ (¬ (z_ai M a63 ((p1 : Int32).toNatClampNeg)) ≤ 0 → z_nn (z_fr M 1542 a) fun a67 => (vp_in p1 (z_ln M a67) ∧ (vp_in p1 (z_ln M a67) ∧ (∀ M_70 : z_Mem, M_70 = z_sai M a67 ((p1 : Int32).toNatClampNeg) ((z_ai M a67 ((p1 : Int32).toNatClampNeg)) - 1) → (P_X12_puts_35 a Post p1 p2 p3 1 M_70))))))))) ∧ (¬ x_60 = 0 → P_X12_puts_35 a Post p1 p2 p3 x_60 M)))))
set_option maxRecDepth 100000 in
set_option maxHeartbeats 4000000 in
theorem v_X12_puts_111 {G : z_G} {M0 : z_Mem} {a : Nat} {Post : z_Mem → Prop}   {x1 : Int32} {x2 : Int32} {x3 : Int32} {M : z_Mem} (ha : z_ki M a = 13) (hP : P_X12_puts_111 a Post x1 x2 x3 M) : z_V G Y_X12_puts z_X0 M0 (z_QM G M0 (z_PV Post)) M 111 [(0, z_O (some a)), (1, z_I x1), (2, z_I x2), (3, z_I x3)] [] := by
  unfold P_X12_puts_111 at hP
  refine z_aload_n dX12_puts_111 rfl 0 rfl ?_
  refine z_getr (c := 12) (k := 12) (g := 1548) (t := 20) z_cb12 (Nat.le_of_ble_eq_true rfl) (Nat.le_of_ble_eq_true rfl) rfl rfl zw_1267 rfl ha dX12_puts_112 (fun f1 => ?_)
  refine z_aload_n dX12_puts_115 rfl 0 rfl ?_
  refine z_geti (c := 12) (k := 15) (g := 1551) z_cb12 (Nat.le_of_ble_eq_true rfl) (Nat.le_of_ble_eq_true rfl) rfl (Nat.le_of_ble_eq_true rfl) zw_1270 rfl ha dX12_puts_116 ?_
  refine z_iload_n dX12_puts_119 rfl 2 rfl ?_
  obtain ⟨a3, e3, hP⟩ := hP
  have k3 := f1 a3 e3
  obtain ⟨i4, hP⟩ := hP
  refine z_iast e3 k3 i4 dX12_puts_120 ?_
  refine z_nm (fun M_5 g_5 => ?_)
  replace hP := hP M_5 g_5
  have q_5 := z_k3 g_5
  have ha := z_kk q_5 ha
  refine z_pc (pc' := 121) rfl ?_
  refine z_aload_n dX12_puts_121 rfl 0 rfl ?_
  refine z_getr (c := 12) (k := 13) (g := 1549) (t := 20) z_cb12 (Nat.le_of_ble_eq_true rfl) (Nat.le_of_ble_eq_true rfl) rfl rfl zw_1268 rfl ha dX12_puts_122 (fun f6 => ?_)
  refine z_aload_n dX12_puts_125 rfl 0 rfl ?_
  refine z_geti (c := 12) (k := 15) (g := 1551) z_cb12 (Nat.le_of_ble_eq_true rfl) (Nat.le_of_ble_eq_true rfl) rfl (Nat.le_of_ble_eq_true rfl) zw_1270 rfl ha dX12_puts_126 ?_
  refine z_iload_n dX12_puts_129 rfl 3 rfl ?_
  obtain ⟨a8, e8, hP⟩ := hP
  have k8 := f6 a8 e8
  obtain ⟨i9, hP⟩ := hP
  refine z_iast e8 k8 i9 dX12_puts_130 ?_
  refine z_nm (fun M_10 g_10 => ?_)
  replace hP := hP M_10 g_10
  have q_10 := z_k3 g_10
  have ha := z_kk q_10 ha
  refine z_pc (pc' := 131) rfl ?_
  refine z_aload_n dX12_puts_131 rfl 0 rfl ?_
  refine z_getr (c := 12) (k := 14) (g := 1550) (t := 20) z_cb12 (Nat.le_of_ble_eq_true rfl) (Nat.le_of_ble_eq_true rfl) rfl rfl zw_1269 rfl ha dX12_puts_132 (fun f11 => ?_)
  refine z_aload_n dX12_puts_135 rfl 0 rfl ?_
  refine z_geti (c := 12) (k := 15) (g := 1551) z_cb12 (Nat.le_of_ble_eq_true rfl) (Nat.le_of_ble_eq_true rfl) rfl (Nat.le_of_ble_eq_true rfl) zw_1270 rfl ha dX12_puts_136 ?_
  refine z_iload_n dX12_puts_139 rfl 1 rfl ?_
  obtain ⟨a13, e13, hP⟩ := hP
  have k13 := f11 a13 e13
  obtain ⟨i14, hP⟩ := hP
  refine z_iast e13 k13 i14 dX12_puts_140 ?_
  refine z_nm (fun M_15 g_15 => ?_)
  replace hP := hP M_15 g_15
  have q_15 := z_k3 g_15
  have ha := z_kk q_15 ha
  refine z_pc (pc' := 141) rfl ?_
  refine z_aload_n dX12_puts_141 rfl 0 rfl ?_
  refine z_getr (c := 12) (k := 10) (g := 1546) (t := 20) z_cb12 (Nat.le_of_ble_eq_true rfl) (Nat.le_of_ble_eq_true rfl) rfl rfl zw_1265 rfl ha dX12_puts_142 (fun f16 => ?_)
  refine z_bipush (v := 30) dX12_puts_145 (by decide) ?_
  refine z_iload_n dX12_puts_147 rfl 1 rfl ?_
  refine z_imul dX12_puts_148 ?_
  refine z_aload_n dX12_puts_149 rfl 0 rfl ?_
  refine z_pc (pc' := 150) rfl ?_
  refine z_getr (c := 12) (k := 11) (g := 1547) (t := 20) z_cb12 (Nat.le_of_ble_eq_true rfl) (Nat.le_of_ble_eq_true rfl) rfl rfl zw_1266 rfl ha dX12_puts_150 (fun f17 => ?_)
  refine z_iload_n dX12_puts_153 rfl 1 rfl ?_
  obtain ⟨a18, e18, hP⟩ := hP
  have k18 := f17 a18 e18
  obtain ⟨i19, hP⟩ := hP
  refine z_iald e18 k18 i19 dX12_puts_154 ?_
  refine z_iadd dX12_puts_155 ?_
  refine z_aload_n dX12_puts_156 rfl 0 rfl ?_
  refine z_geti (c := 12) (k := 15) (g := 1551) z_cb12 (Nat.le_of_ble_eq_true rfl) (Nat.le_of_ble_eq_true rfl) rfl (Nat.le_of_ble_eq_true rfl) zw_1270 rfl ha dX12_puts_157 ?_
  refine z_pc (pc' := 160) rfl ?_
  obtain ⟨a21, e21, hP⟩ := hP
  have k21 := f16 a21 e21
  obtain ⟨i22, hP⟩ := hP
  refine z_iast e21 k21 i22 dX12_puts_160 ?_
  refine z_nm (fun M_23 g_23 => ?_)
  replace hP := hP M_23 g_23
  have q_23 := z_k3 g_23
  have ha := z_kk q_23 ha
  refine z_aload_n dX12_puts_161 rfl 0 rfl ?_
  refine z_getr (c := 12) (k := 11) (g := 1547) (t := 20) z_cb12 (Nat.le_of_ble_eq_true rfl) (Nat.le_of_ble_eq_true rfl) rfl rfl zw_1266 rfl ha dX12_puts_162 (fun f24 => ?_)
  refine z_iload_n dX12_puts_165 rfl 1 rfl ?_
  refine z_dup2 dX12_puts_166 rfl rfl ?_
  obtain ⟨a25, e25, hP⟩ := hP
  have k25 := f24 a25 e25
  obtain ⟨i26, hP⟩ := hP
  refine z_iald e25 k25 i26 dX12_puts_167 ?_
  refine z_pc (pc' := 168) rfl ?_
  refine z_iconst (v := 1) dX12_puts_168 (by decide) ?_
  refine z_iadd dX12_puts_169 ?_
  obtain ⟨i27, hP⟩ := hP
  refine z_iast e25 k25 i27 dX12_puts_170 ?_
  refine z_nm (fun M_28 g_28 => ?_)
  replace hP := hP M_28 g_28
  have q_28 := z_k3 g_28
  have ha := z_kk q_28 ha
  refine z_aload_n dX12_puts_171 rfl 0 rfl ?_
  refine z_dup dX12_puts_172 rfl ?_
  refine z_geti (c := 12) (k := 15) (g := 1551) z_cb12 (Nat.le_of_ble_eq_true rfl) (Nat.le_of_ble_eq_true rfl) rfl (Nat.le_of_ble_eq_true rfl) zw_1270 rfl ha dX12_puts_173 ?_
  refine z_pc (pc' := 176) rfl ?_
  refine z_iconst (v := 1) dX12_puts_176 (by decide) ?_
  refine z_iadd dX12_puts_177 ?_
  refine z_puti (c := 12) (k := 15) (g := 1551) z_cb12 (Nat.le_of_ble_eq_true rfl) (Nat.le_of_ble_eq_true rfl) (Nat.le_of_ble_eq_true rfl) rfl rfl rfl zw_1270 rfl ha (Or.inl rfl) dX12_puts_178 ?_
  refine z_nm (fun M_30 g_30 => ?_)
  replace hP := hP M_30 g_30
  have q_30 := z_k1 g_30
  have ha := z_kk q_30 ha
  exact z_retv rfl dX12_puts_181 hP
set_option maxRecDepth 100000 in
set_option maxHeartbeats 4000000 in
theorem v_X12_puts_110 {G : z_G} {M0 : z_Mem} {a : Nat} {Post : z_Mem → Prop}   {x1 : Int32} {x2 : Int32} {x3 : Int32} {t0 : Option Nat} {t1 : Int32} {t2 : Int32} {M : z_Mem} (ha : z_ki M a = 13) (f_t0 : z_tr M t0 21) (f_t2 : t2 = 0 ∨ t2 = 1) (hP : P_X12_puts_110 a Post x1 x2 x3 t0 t1 t2 M) : z_V G Y_X12_puts z_X0 M0 (z_QM G M0 (z_PV Post)) M 110 [(0, z_O (some a)), (1, z_I x1), (2, z_I x2), (3, z_I x3)] [z_I t2, z_I t1, z_O t0] := by
  unfold P_X12_puts_110 at hP
  obtain ⟨a31, e31, hP⟩ := hP
  have k31 := f_t0 a31 e31
  obtain ⟨i32, hP⟩ := hP
  refine z_zast e31 k31 i32 f_t2 dX12_puts_110 ?_
  refine z_nm (fun M_33 g_33 => ?_)
  replace hP := hP M_33 g_33
  have q_33 := z_k3 g_33
  have ha := z_kk q_33 ha
  refine z_sub (lv' := [(0, z_O _), (1, z_I _), (2, z_I _), (3, z_I _)]) [0, 1, 2, 3] rfl ?_
  exact v_X12_puts_111  ha hP
set_option maxRecDepth 100000 in
set_option maxHeartbeats 4000000 in
theorem v_X12_puts_60 {G : z_G} {M0 : z_Mem} {a : Nat} {Post : z_Mem → Prop}   {x1 : Int32} {x2 : Int32} {x3 : Int32} {t0 : Int32} {M : z_Mem} (ha : z_ki M a = 13) (f_t0 : t0 = 0 ∨ t0 = 1) (hP : P_X12_puts_60 a Post x1 x2 x3 t0 M) : z_V G Y_X12_puts z_X0 M0 (z_QM G M0 (z_PV Post)) M 60 [(0, z_O (some a)), (1, z_I x1), (2, z_I x2), (3, z_I x3)] [z_I t0] := by
  unfold P_X12_puts_60 at hP
  refine z_istore (lv' := [(4, z_I _), (0, z_O _), (1, z_I _), (2, z_I _), (3, z_I _)]) dX12_puts_60 (Nat.le_of_ble_eq_true rfl) rfl ?_
  refine z_iload dX12_puts_62 0 rfl ?_
  refine z_if_eq (tgt := 80) dX12_puts_64 (by decide) (fun h34 => ?_) (fun h34 => ?_)
  · replace hP := hP.1 h34
    refine z_iload_n dX12_puts_80 rfl 3 rfl ?_
    refine z_iconst (v := 2) dX12_puts_81 (by decide) ?_
    refine z_icmp_ne (tgt := 111) dX12_puts_82 (by decide) (fun h35 => ?_) (fun h35 => ?_)
    · replace hP := hP.2 h35
      refine z_sub (lv' := [(0, z_O _), (1, z_I _), (2, z_I _), (3, z_I _)]) [1, 2, 3, 4] rfl ?_
      exact v_X12_puts_111  ha hP
    · replace hP := hP.1 h35
      refine z_aload_n dX12_puts_85 rfl 1 rfl ?_
      refine z_getr (c := 12) (k := 67) (g := 1603) (t := 21) z_cb12 (Nat.le_of_ble_eq_true rfl) (Nat.le_of_ble_eq_true rfl) rfl rfl zw_1322 rfl ha dX12_puts_86 (fun f36 => ?_)
      refine z_pc (pc' := 89) rfl ?_
      refine z_iload_n dX12_puts_89 rfl 4 rfl ?_
      refine z_aload_n dX12_puts_90 rfl 1 rfl ?_
      refine z_getr (c := 12) (k := 11) (g := 1547) (t := 20) z_cb12 (Nat.le_of_ble_eq_true rfl) (Nat.le_of_ble_eq_true rfl) rfl rfl zw_1266 rfl ha dX12_puts_91 (fun f37 => ?_)
      refine z_iload_n dX12_puts_94 rfl 2 rfl ?_
      obtain ⟨a38, e38, hP⟩ := hP
      have k38 := f37 a38 e38
      obtain ⟨i39, hP⟩ := hP
      refine z_iald e38 k38 i39 dX12_puts_95 ?_
      refine z_aload_n dX12_puts_96 rfl 1 rfl ?_
      refine z_pc (pc' := 97) rfl ?_
      refine z_getr (c := 12) (k := 4) (g := 1540) (t := 20) z_cb12 (Nat.le_of_ble_eq_true rfl) (Nat.le_of_ble_eq_true rfl) rfl rfl zw_1259 rfl ha dX12_puts_97 (fun f40 => ?_)
      refine z_iload_n dX12_puts_100 rfl 2 rfl ?_
      obtain ⟨a41, e41, hP⟩ := hP
      have k41 := f40 a41 e41
      obtain ⟨i42, hP⟩ := hP
      refine z_iald e41 k41 i42 dX12_puts_101 ?_
      refine z_icmp_lt (tgt := 109) dX12_puts_102 (by decide) (fun h43 => ?_) (fun h43 => ?_)
      · replace hP := hP.1 h43
        refine z_iconst (v := 0) dX12_puts_109 (by decide) ?_
        refine z_sub (lv' := [(0, z_O _), (1, z_I _), (2, z_I _), (3, z_I _)]) [1, 2, 3, 4] rfl ?_
        exact v_X12_puts_110  ha f36 (Or.inl rfl) hP
      · replace hP := hP.2 h43
        refine z_iconst (v := 1) dX12_puts_105 (by decide) ?_
        refine z_goto (tgt := 110) dX12_puts_106 (by decide) ?_
        refine z_sub (lv' := [(0, z_O _), (1, z_I _), (2, z_I _), (3, z_I _)]) [1, 2, 3, 4] rfl ?_
        exact v_X12_puts_110  ha f36 (Or.inr rfl) hP
  · replace hP := hP.2 h34
    refine z_iload_n dX12_puts_67 rfl 3 rfl ?_
    refine z_iconst (v := 2) dX12_puts_68 (by decide) ?_
    refine z_icmp_ne (tgt := 79) dX12_puts_69 (by decide) (fun h44 => ?_) (fun h44 => ?_)
    · replace hP := hP.2 h44
      exact z_retv rfl dX12_puts_79 hP
    · replace hP := hP.1 h44
      refine z_aload_n dX12_puts_72 rfl 1 rfl ?_
      refine z_getr (c := 12) (k := 63) (g := 1599) (t := 20) z_cb12 (Nat.le_of_ble_eq_true rfl) (Nat.le_of_ble_eq_true rfl) rfl rfl zw_1318 rfl ha dX12_puts_73 (fun f45 => ?_)
      refine z_pc (pc' := 76) rfl ?_
      refine z_iload_n dX12_puts_76 rfl 4 rfl ?_
      refine z_iconst (v := 3) dX12_puts_77 (by decide) ?_
      obtain ⟨a46, e46, hP⟩ := hP
      have k46 := f45 a46 e46
      obtain ⟨i47, hP⟩ := hP
      refine z_iast e46 k46 i47 dX12_puts_78 ?_
      refine z_nm (fun M_48 g_48 => ?_)
      replace hP := hP M_48 g_48
      have q_48 := z_k3 g_48
      have ha := z_kk q_48 ha
      exact z_retv rfl dX12_puts_79 hP
set_option maxRecDepth 100000 in
set_option maxHeartbeats 4000000 in
theorem v_X12_puts_55 {G : z_G} {M0 : z_Mem} {a : Nat} {Post : z_Mem → Prop}   {x1 : Int32} {x2 : Int32} {x3 : Int32} {M : z_Mem} (ha : z_ki M a = 13) (hP : P_X12_puts_55 a Post x1 x2 x3 M) : z_V G Y_X12_puts z_X0 M0 (z_QM G M0 (z_PV Post)) M 55 [(0, z_O (some a)), (1, z_I x1), (2, z_I x2), (3, z_I x3)] [] := by
  unfold P_X12_puts_55 at hP
  refine z_iconst (v := 1) dX12_puts_55 (by decide) ?_
  refine z_goto (tgt := 60) dX12_puts_56 (by decide) ?_
  refine z_sub (lv' := [(0, z_O _), (1, z_I _), (2, z_I _), (3, z_I _)]) [0, 1, 2, 3] rfl ?_
  exact v_X12_puts_60  ha (Or.inr rfl) hP
set_option maxRecDepth 100000 in
set_option maxHeartbeats 4000000 in
theorem v_X12_puts_35 {G : z_G} {M0 : z_Mem} {a : Nat} {Post : z_Mem → Prop}   {x1 : Int32} {x2 : Int32} {x3 : Int32} {x4 : Int32} {M : z_Mem} (ha : z_ki M a = 13) (f_x4 : x4 = 0 ∨ x4 = 1) (hP : P_X12_puts_35 a Post x1 x2 x3 x4 M) : z_V G Y_X12_puts z_X0 M0 (z_QM G M0 (z_PV Post)) M 35 [(0, z_O (some a)), (1, z_I x1), (2, z_I x2), (3, z_I x3), (4, z_I x4)] [] := by
  unfold P_X12_puts_35 at hP
  refine z_iload dX12_puts_35 4 rfl ?_
  refine z_if_ne (tgt := 55) dX12_puts_37 (by decide) (fun h49 => ?_) (fun h49 => ?_)
  · replace hP := hP.2 h49
    refine z_sub (lv' := [(0, z_O _), (1, z_I _), (2, z_I _), (3, z_I _)]) [0, 1, 2, 3] rfl ?_
    exact v_X12_puts_55  ha hP
  · replace hP := hP.1 h49
    refine z_aload_n dX12_puts_40 rfl 0 rfl ?_
    refine z_getr (c := 12) (k := 11) (g := 1547) (t := 20) z_cb12 (Nat.le_of_ble_eq_true rfl) (Nat.le_of_ble_eq_true rfl) rfl rfl zw_1266 rfl ha dX12_puts_41 (fun f50 => ?_)
    refine z_iload_n dX12_puts_44 rfl 1 rfl ?_
    obtain ⟨a51, e51, hP⟩ := hP
    have k51 := f50 a51 e51
    obtain ⟨i52, hP⟩ := hP
    refine z_iald e51 k51 i52 dX12_puts_45 ?_
    refine z_aload_n dX12_puts_46 rfl 0 rfl ?_
    refine z_pc (pc' := 47) rfl ?_
    refine z_getr (c := 12) (k := 3) (g := 1539) (t := 20) z_cb12 (Nat.le_of_ble_eq_true rfl) (Nat.le_of_ble_eq_true rfl) rfl rfl zw_1258 rfl ha dX12_puts_47 (fun f53 => ?_)
    refine z_iload_n dX12_puts_50 rfl 1 rfl ?_
    obtain ⟨a54, e54, hP⟩ := hP
    have k54 := f53 a54 e54
    obtain ⟨i55, hP⟩ := hP
    refine z_iald e54 k54 i55 dX12_puts_51 ?_
    refine z_icmp_lt (tgt := 59) dX12_puts_52 (by decide) (fun h56 => ?_) (fun h56 => ?_)
    · replace hP := hP.1 h56
      refine z_iconst (v := 0) dX12_puts_59 (by decide) ?_
      refine z_sub (lv' := [(0, z_O _), (1, z_I _), (2, z_I _), (3, z_I _)]) [0, 1, 2, 3] rfl ?_
      exact v_X12_puts_60  ha (Or.inl rfl) hP
    · replace hP := hP.2 h56
      refine z_sub (lv' := [(0, z_O _), (1, z_I _), (2, z_I _), (3, z_I _)]) [0, 1, 2, 3] rfl ?_
      exact v_X12_puts_55  ha hP
set_option maxRecDepth 100000 in
set_option maxHeartbeats 4000000 in
theorem s_X12_puts {G : z_G} {M : z_Mem} {a : Nat} {p1 : Int32} {p2 : Int32} {p3 : Int32} {Post : z_Mem → Prop} (ha : z_ki M a = 13) (hP : P_X12_puts a p1 p2 p3 M Post) : z_Mt G Y_X12_puts M [z_O (some a), z_I p1, z_I p2, z_I p3] (z_PV Post) := by
  refine z_ofV (by decide) (Nat.le_of_ble_eq_true rfl) ?_
  unfold P_X12_puts at hP
  refine z_sub (lv' := [(0, z_O (some a)), (1, z_I p1), (2, z_I p2), (3, z_I p3)]) [0, 1, 2, 3] rfl ?_
  refine z_aload_n dX12_puts_0 rfl 0 rfl ?_
  refine z_getr (c := 12) (k := 5) (g := 1541) (t := 21) z_cb12 (Nat.le_of_ble_eq_true rfl) (Nat.le_of_ble_eq_true rfl) rfl rfl zw_1260 rfl ha dX12_puts_1 (fun f57 => ?_)
  refine z_iload_n dX12_puts_4 rfl 1 rfl ?_
  obtain ⟨a58, e58, hP⟩ := hP
  have k58 := f57 a58 e58
  obtain ⟨i59, hP⟩ := hP
  refine z_zald e58 k58 i59 dX12_puts_5 (fun b59 => ?_)
  refine z_topi (fun x_60 y_60 => ?_)
  replace hP := hP x_60 y_60
  refine z_istore (lv' := [(4, z_I _), (0, z_O _), (1, z_I _), (2, z_I _), (3, z_I _)]) dX12_puts_6 (Nat.le_of_ble_eq_true rfl) rfl ?_
  refine z_iload dX12_puts_8 0 rfl ?_
  refine z_pc (pc' := 10) rfl ?_
  refine z_if_ne (tgt := 35) dX12_puts_10 (by decide) (fun h61 => ?_) (fun h61 => ?_)
  · replace hP := hP.2 h61
    refine z_sub (lv' := [(0, z_O _), (1, z_I _), (2, z_I _), (3, z_I _), (4, z_I _)]) [1, 2, 3, 4, 0] rfl ?_
    exact v_X12_puts_35  ha (z_bt y_60 b59) hP
  · replace hP := hP.1 h61
    refine z_aload_n dX12_puts_13 rfl 1 rfl ?_
    refine z_getr (c := 12) (k := 6) (g := 1542) (t := 20) z_cb12 (Nat.le_of_ble_eq_true rfl) (Nat.le_of_ble_eq_true rfl) rfl rfl zw_1261 rfl ha dX12_puts_14 (fun f62 => ?_)
    refine z_iload_n dX12_puts_17 rfl 2 rfl ?_
    obtain ⟨a63, e63, hP⟩ := hP
    have k63 := f62 a63 e63
    obtain ⟨i64, hP⟩ := hP
    refine z_iald e63 k63 i64 dX12_puts_18 ?_
    refine z_if_le (tgt := 35) dX12_puts_19 (by decide) (fun h65 => ?_) (fun h65 => ?_)
    · replace hP := hP.1 h65
      refine z_sub (lv' := [(0, z_O _), (1, z_I _), (2, z_I _), (3, z_I _), (4, z_I _)]) [1, 2, 3, 4, 0] rfl ?_
      exact v_X12_puts_35  ha (z_bt y_60 b59) hP
    · replace hP := hP.2 h65
      refine z_aload_n dX12_puts_22 rfl 1 rfl ?_
      refine z_getr (c := 12) (k := 6) (g := 1542) (t := 20) z_cb12 (Nat.le_of_ble_eq_true rfl) (Nat.le_of_ble_eq_true rfl) rfl rfl zw_1261 rfl ha dX12_puts_23 (fun f66 => ?_)
      refine z_pc (pc' := 26) rfl ?_
      refine z_iload_n dX12_puts_26 rfl 2 rfl ?_
      refine z_dup2 dX12_puts_27 rfl rfl ?_
      obtain ⟨a67, e67, hP⟩ := hP
      have k67 := f66 a67 e67
      obtain ⟨i68, hP⟩ := hP
      refine z_iald e67 k67 i68 dX12_puts_28 ?_
      refine z_iconst (v := 1) dX12_puts_29 (by decide) ?_
      refine z_isub dX12_puts_30 ?_
      obtain ⟨i69, hP⟩ := hP
      refine z_iast e67 k67 i69 dX12_puts_31 ?_
      refine z_nm (fun M_70 g_70 => ?_)
      replace hP := hP M_70 g_70
      have q_70 := z_k3 g_70
      have ha := z_kk q_70 ha
      refine z_pc (pc' := 32) rfl ?_
      refine z_iconst (v := 1) dX12_puts_32 (by decide) ?_
      refine z_istore (lv' := [(4, z_I _), (0, z_O _), (1, z_I _), (2, z_I _), (3, z_I _)]) dX12_puts_33 (Nat.le_of_ble_eq_true rfl) rfl ?_
      refine z_sub (lv' := [(0, z_O _), (1, z_I _), (2, z_I _), (3, z_I _), (4, z_I _)]) [1, 2, 3, 4, 0] rfl ?_
      exact v_X12_puts_35  ha (Or.inr rfl) hP
set_option maxRecDepth 100000 in
def P_X12_answers (a : Nat) (p1 : Int32) (p2 : Int32) (p3 : Int32) (M : z_Mem) (Post : z_Mem → Prop) : Prop := z_nn (z_fr M 1541 a) fun a2 => (vp_in p1 (z_ln M a2) ∧ ((((z_ai M a2 ((p1 : Int32).toNatClampNeg)) = 0 → z_nn (z_fr M 1543 a) fun a6 => (vp_in p1 (z_ln M a6) ∧ ((((z_ai M a6 ((p1 : Int32).toNatClampNeg)) ≤ 0 → z_nn (z_fr M 1555 a) fun a11 => (vp_in (z_fi M 1559 a) (z_ln M a11) ∧ (∀ M_13 : z_Mem, M_13 = z_sai M a11 (((z_fi M 1559 a) : Int32).toNatClampNeg) p2 → (z_nn (z_fr M_13 1556 a) fun a16 => (vp_in (z_fi M_13 1559 a) (z_ln M_13 a16) ∧ (∀ M_18 : z_Mem, M_18 = z_sai M_13 a16 (((z_fi M_13 1559 a) : Int32).toNatClampNeg) p3 → (z_nn (z_fr M_18 1557 a) fun a21 => (vp_in (z_fi M_18 1559 a) (z_ln M_18 a21) ∧ (∀ M_23 : z_Mem, M_23 = z_sai M_18 a21 (((z_fi M_18 1559 a) : Int32).toNatClampNeg) p1 → (z_nn (z_fr M_23 1537 a) fun a28 => (vp_in p1 (z_ln M_23 a28) ∧ (z_nn (z_fr M_23 1558 a) fun a30 => (vp_in (z_fi M_23 1559 a) (z_ln M_23 a30) ∧ (∀ M_32 : z_Mem, M_32 = z_sai M_23 a30 (((z_fi M_23 1559 a) : Int32).toNatClampNeg) ((z_fi M_23 1536 a) + (z_ai M_23 a28 ((p1 : Int32).toNatClampNeg))) → (∀ M_34 : z_Mem, M_34 = z_sfi M_32 1559 a ((z_fi M_32 1559 a) + 1) → (Post M_34)))))))))))))))) ∧ (¬ (z_ai M a6 ((p1 : Int32).toNatClampNeg)) ≤ 0 → z_nn (z_fr M 1543 a) fun a36 => (vp_in p1 (z_ln M a36) ∧ (vp_in p1 (z_ln M a36) ∧ (∀ M_39 : z_Mem, M_39 = z_sai M a36 ((p1 : Int32).toNatClampNeg) ((z_ai M a36 ((p1 : Int32).toNatClampNeg)) - 1) → (Post M_39))))))))) ∧ (¬ (z_ai M a2 ((p1 : Int32).toNatClampNeg)) = 0 → Post M))))
set_option maxRecDepth 100000 in
set_option maxHeartbeats 4000000 in
theorem s_X12_answers {G : z_G} {M : z_Mem} {a : Nat} {p1 : Int32} {p2 : Int32} {p3 : Int32} {Post : z_Mem → Prop} (ha : z_ki M a = 13) (hP : P_X12_answers a p1 p2 p3 M Post) : z_Mt G Y_X12_answers M [z_O (some a), z_I p1, z_I p2, z_I p3] (z_PV Post) := by
  refine z_ofV (by decide) (Nat.le_of_ble_eq_true rfl) ?_
  unfold P_X12_answers at hP
  refine z_sub (lv' := [(0, z_O (some a)), (1, z_I p1), (2, z_I p2), (3, z_I p3)]) [0, 1, 2, 3] rfl ?_
  refine z_aload_n dX12_answers_0 rfl 0 rfl ?_
  refine z_getr (c := 12) (k := 5) (g := 1541) (t := 21) z_cb12 (Nat.le_of_ble_eq_true rfl) (Nat.le_of_ble_eq_true rfl) rfl rfl zw_1260 rfl ha dX12_answers_1 (fun f1 => ?_)
  refine z_iload_n dX12_answers_4 rfl 1 rfl ?_
  obtain ⟨a2, e2, hP⟩ := hP
  have k2 := f1 a2 e2
  obtain ⟨i3, hP⟩ := hP
  refine z_zald e2 k2 i3 dX12_answers_5 (fun b3 => ?_)
  refine z_if_eq (tgt := 10) dX12_answers_6 (by decide) (fun h4 => ?_) (fun h4 => ?_)
  · replace hP := hP.1 h4
    refine z_aload_n dX12_answers_10 rfl 0 rfl ?_
    refine z_getr (c := 12) (k := 7) (g := 1543) (t := 20) z_cb12 (Nat.le_of_ble_eq_true rfl) (Nat.le_of_ble_eq_true rfl) rfl rfl zw_1262 rfl ha dX12_answers_11 (fun f5 => ?_)
    refine z_pc (pc' := 14) rfl ?_
    refine z_iload_n dX12_answers_14 rfl 1 rfl ?_
    obtain ⟨a6, e6, hP⟩ := hP
    have k6 := f5 a6 e6
    obtain ⟨i7, hP⟩ := hP
    refine z_iald e6 k6 i7 dX12_answers_15 ?_
    refine z_if_le (tgt := 30) dX12_answers_16 (by decide) (fun h8 => ?_) (fun h8 => ?_)
    · replace hP := hP.1 h8
      refine z_aload_n dX12_answers_30 rfl 0 rfl ?_
      refine z_getr (c := 12) (k := 19) (g := 1555) (t := 20) z_cb12 (Nat.le_of_ble_eq_true rfl) (Nat.le_of_ble_eq_true rfl) rfl rfl zw_1274 rfl ha dX12_answers_31 (fun f9 => ?_)
      refine z_aload_n dX12_answers_34 rfl 0 rfl ?_
      refine z_geti (c := 12) (k := 23) (g := 1559) z_cb12 (Nat.le_of_ble_eq_true rfl) (Nat.le_of_ble_eq_true rfl) rfl (Nat.le_of_ble_eq_true rfl) zw_1278 rfl ha dX12_answers_35 ?_
      refine z_pc (pc' := 38) rfl ?_
      refine z_iload_n dX12_answers_38 rfl 2 rfl ?_
      obtain ⟨a11, e11, hP⟩ := hP
      have k11 := f9 a11 e11
      obtain ⟨i12, hP⟩ := hP
      refine z_iast e11 k11 i12 dX12_answers_39 ?_
      refine z_nm (fun M_13 g_13 => ?_)
      replace hP := hP M_13 g_13
      have q_13 := z_k3 g_13
      have ha := z_kk q_13 ha
      refine z_aload_n dX12_answers_40 rfl 0 rfl ?_
      refine z_getr (c := 12) (k := 20) (g := 1556) (t := 20) z_cb12 (Nat.le_of_ble_eq_true rfl) (Nat.le_of_ble_eq_true rfl) rfl rfl zw_1275 rfl ha dX12_answers_41 (fun f14 => ?_)
      refine z_aload_n dX12_answers_44 rfl 0 rfl ?_
      refine z_geti (c := 12) (k := 23) (g := 1559) z_cb12 (Nat.le_of_ble_eq_true rfl) (Nat.le_of_ble_eq_true rfl) rfl (Nat.le_of_ble_eq_true rfl) zw_1278 rfl ha dX12_answers_45 ?_
      refine z_pc (pc' := 48) rfl ?_
      refine z_iload_n dX12_answers_48 rfl 3 rfl ?_
      obtain ⟨a16, e16, hP⟩ := hP
      have k16 := f14 a16 e16
      obtain ⟨i17, hP⟩ := hP
      refine z_iast e16 k16 i17 dX12_answers_49 ?_
      refine z_nm (fun M_18 g_18 => ?_)
      replace hP := hP M_18 g_18
      have q_18 := z_k3 g_18
      have ha := z_kk q_18 ha
      refine z_aload_n dX12_answers_50 rfl 0 rfl ?_
      refine z_getr (c := 12) (k := 21) (g := 1557) (t := 20) z_cb12 (Nat.le_of_ble_eq_true rfl) (Nat.le_of_ble_eq_true rfl) rfl rfl zw_1276 rfl ha dX12_answers_51 (fun f19 => ?_)
      refine z_aload_n dX12_answers_54 rfl 0 rfl ?_
      refine z_geti (c := 12) (k := 23) (g := 1559) z_cb12 (Nat.le_of_ble_eq_true rfl) (Nat.le_of_ble_eq_true rfl) rfl (Nat.le_of_ble_eq_true rfl) zw_1278 rfl ha dX12_answers_55 ?_
      refine z_pc (pc' := 58) rfl ?_
      refine z_iload_n dX12_answers_58 rfl 1 rfl ?_
      obtain ⟨a21, e21, hP⟩ := hP
      have k21 := f19 a21 e21
      obtain ⟨i22, hP⟩ := hP
      refine z_iast e21 k21 i22 dX12_answers_59 ?_
      refine z_nm (fun M_23 g_23 => ?_)
      replace hP := hP M_23 g_23
      have q_23 := z_k3 g_23
      have ha := z_kk q_23 ha
      refine z_aload_n dX12_answers_60 rfl 0 rfl ?_
      refine z_getr (c := 12) (k := 22) (g := 1558) (t := 20) z_cb12 (Nat.le_of_ble_eq_true rfl) (Nat.le_of_ble_eq_true rfl) rfl rfl zw_1277 rfl ha dX12_answers_61 (fun f24 => ?_)
      refine z_aload_n dX12_answers_64 rfl 0 rfl ?_
      refine z_geti (c := 12) (k := 23) (g := 1559) z_cb12 (Nat.le_of_ble_eq_true rfl) (Nat.le_of_ble_eq_true rfl) rfl (Nat.le_of_ble_eq_true rfl) zw_1278 rfl ha dX12_answers_65 ?_
      refine z_pc (pc' := 68) rfl ?_
      refine z_aload_n dX12_answers_68 rfl 0 rfl ?_
      refine z_geti (c := 12) (k := 0) (g := 1536) z_cb12 (Nat.le_of_ble_eq_true rfl) (Nat.le_of_ble_eq_true rfl) rfl (Nat.le_of_ble_eq_true rfl) zw_1255 rfl ha dX12_answers_69 ?_
      refine z_aload_n dX12_answers_72 rfl 0 rfl ?_
      refine z_getr (c := 12) (k := 1) (g := 1537) (t := 20) z_cb12 (Nat.le_of_ble_eq_true rfl) (Nat.le_of_ble_eq_true rfl) rfl rfl zw_1256 rfl ha dX12_answers_73 (fun f27 => ?_)
      refine z_iload_n dX12_answers_76 rfl 1 rfl ?_
      obtain ⟨a28, e28, hP⟩ := hP
      have k28 := f27 a28 e28
      obtain ⟨i29, hP⟩ := hP
      refine z_iald e28 k28 i29 dX12_answers_77 ?_
      refine z_pc (pc' := 78) rfl ?_
      refine z_iadd dX12_answers_78 ?_
      obtain ⟨a30, e30, hP⟩ := hP
      have k30 := f24 a30 e30
      obtain ⟨i31, hP⟩ := hP
      refine z_iast e30 k30 i31 dX12_answers_79 ?_
      refine z_nm (fun M_32 g_32 => ?_)
      replace hP := hP M_32 g_32
      have q_32 := z_k3 g_32
      have ha := z_kk q_32 ha
      refine z_aload_n dX12_answers_80 rfl 0 rfl ?_
      refine z_dup dX12_answers_81 rfl ?_
      refine z_geti (c := 12) (k := 23) (g := 1559) z_cb12 (Nat.le_of_ble_eq_true rfl) (Nat.le_of_ble_eq_true rfl) rfl (Nat.le_of_ble_eq_true rfl) zw_1278 rfl ha dX12_answers_82 ?_
      refine z_iconst (v := 1) dX12_answers_85 (by decide) ?_
      refine z_pc (pc' := 86) rfl ?_
      refine z_iadd dX12_answers_86 ?_
      refine z_puti (c := 12) (k := 23) (g := 1559) z_cb12 (Nat.le_of_ble_eq_true rfl) (Nat.le_of_ble_eq_true rfl) (Nat.le_of_ble_eq_true rfl) rfl rfl rfl zw_1278 rfl ha (Or.inl rfl) dX12_answers_87 ?_
      refine z_nm (fun M_34 g_34 => ?_)
      replace hP := hP M_34 g_34
      have q_34 := z_k1 g_34
      have ha := z_kk q_34 ha
      exact z_retv rfl dX12_answers_90 hP
    · replace hP := hP.2 h8
      refine z_aload_n dX12_answers_19 rfl 0 rfl ?_
      refine z_getr (c := 12) (k := 7) (g := 1543) (t := 20) z_cb12 (Nat.le_of_ble_eq_true rfl) (Nat.le_of_ble_eq_true rfl) rfl rfl zw_1262 rfl ha dX12_answers_20 (fun f35 => ?_)
      refine z_iload_n dX12_answers_23 rfl 1 rfl ?_
      refine z_dup2 dX12_answers_24 rfl rfl ?_
      refine z_pc (pc' := 25) rfl ?_
      obtain ⟨a36, e36, hP⟩ := hP
      have k36 := f35 a36 e36
      obtain ⟨i37, hP⟩ := hP
      refine z_iald e36 k36 i37 dX12_answers_25 ?_
      refine z_iconst (v := 1) dX12_answers_26 (by decide) ?_
      refine z_isub dX12_answers_27 ?_
      obtain ⟨i38, hP⟩ := hP
      refine z_iast e36 k36 i38 dX12_answers_28 ?_
      refine z_nm (fun M_39 g_39 => ?_)
      replace hP := hP M_39 g_39
      have q_39 := z_k3 g_39
      have ha := z_kk q_39 ha
      exact z_retv rfl dX12_answers_29 hP
  · replace hP := hP.2 h4
    exact z_retv rfl dX12_answers_9 hP
def P_X12_setPath_52 (a : Nat) (Post : z_Mem → Prop)  (x1 : Int32) (x2 : Int32) (x3 : Int32) (x4 : Int32) (x5 : Int32) (t0 : Option Nat) (t1 : Int32) (t2 : Int32) (M : z_Mem) : Prop := z_nn t0 fun a2 => (P_X12_goes a2 t1 t2 1 M fun x_1 M_1 => (((x_1 = 0 → Post M_1) ∧ (¬ x_1 = 0 → z_nn (z_fr M_1 1537 a) fun a5 => (vp_in x1 (z_ln M_1 a5) ∧ (∀ M_7 : z_Mem, M_7 = z_sai M_1 a5 ((x1 : Int32).toNatClampNeg) x2 → (z_nn (z_fr M_7 1538 a) fun a9 => (vp_in x1 (z_ln M_7 a9) ∧ (∀ M_11 : z_Mem, M_11 = z_sai M_7 a9 ((x1 : Int32).toNatClampNeg) x3 → (z_nn (z_fr M_11 1539 a) fun a13 => (vp_in x1 (z_ln M_11 a13) ∧ (∀ M_15 : z_Mem, M_15 = z_sai M_11 a13 ((x1 : Int32).toNatClampNeg) x4 → (z_nn (z_fr M_15 1540 a) fun a17 => (vp_in x1 (z_ln M_15 a17) ∧ (∀ M_19 : z_Mem, M_19 = z_sai M_15 a17 ((x1 : Int32).toNatClampNeg) x5 → (Post M_19))))))))))))))))
def P_X12_setPath_51 (a : Nat) (Post : z_Mem → Prop)  (x1 : Int32) (x2 : Int32) (x3 : Int32) (x4 : Int32) (x5 : Int32) (t0 : Option Nat) (t1 : Int32) (M : z_Mem) : Prop := P_X12_setPath_52 a Post x1 x2 x3 x4 x5 t0 t1 0 M
set_option maxRecDepth 100000 in
def P_X12_setPath (a : Nat) (p1 : Int32) (p2 : Int32) (p3 : Int32) (p4 : Int32) (p5 : Int32) (M : z_Mem) (Post : z_Mem → Prop) : Prop := P_X12_isPath p1 M fun x_20 M_20 => (P_X12_in p2 1 30 M_20 fun x_21 M_21 => (((x_21 = 0 → P_X12_setPath_51 a Post p1 p2 p3 p4 p5 (some a) x_20 M_21) ∧ (¬ x_21 = 0 → P_X12_in p3 1 9 M_21 fun x_23 M_23 => (((x_23 = 0 → P_X12_setPath_51 a Post p1 p2 p3 p4 p5 (some a) x_20 M_23) ∧ (¬ x_23 = 0 → P_X12_in p4 1 30 M_23 fun x_25 M_25 => (((x_25 = 0 → P_X12_setPath_51 a Post p1 p2 p3 p4 p5 (some a) x_20 M_25) ∧ (¬ x_25 = 0 → P_X12_in p5 0 30 M_25 fun x_27 M_27 => (((x_27 = 0 → P_X12_setPath_51 a Post p1 p2 p3 p4 p5 (some a) x_20 M_27) ∧ (¬ x_27 = 0 → P_X12_setPath_52 a Post p1 p2 p3 p4 p5 (some a) x_20 1 M_27)))))))))))))
set_option maxRecDepth 100000 in
set_option maxHeartbeats 4000000 in
theorem v_X12_setPath_52 {G : z_G} {M0 : z_Mem} {a : Nat} {Post : z_Mem → Prop}   {x1 : Int32} {x2 : Int32} {x3 : Int32} {x4 : Int32} {x5 : Int32} {t0 : Option Nat} {t1 : Int32} {t2 : Int32} {M : z_Mem} (ha : z_ki M a = 13) (f_t0 : z_tr M t0 13) (f_t1 : t1 = 0 ∨ t1 = 1) (f_t2 : t2 = 0 ∨ t2 = 1) (hP : P_X12_setPath_52 a Post x1 x2 x3 x4 x5 t0 t1 t2 M) : z_V G Y_X12_setPath z_X0 M0 (z_QM G M0 (z_PV Post)) M 52 [(0, z_O (some a)), (1, z_I x1), (2, z_I x2), (3, z_I x3), (4, z_I x4), (5, z_I x5)] [z_I t2, z_I t1, z_O t0] := by
  unfold P_X12_setPath_52 at hP
  refine z_iconst (v := 1) dX12_setPath_52 (by decide) ?_
  obtain ⟨a2, e2, hP⟩ := hP
  have k2 := f_t0 a2 e2
  refine z_wts (fun hT1 _ => ?_)
  refine z_cVb (c := 12) (n := 3) (Y1 := Y_X12_goes) (st := []) e2 k2 z_cb12 (Nat.le_of_ble_eq_true rfl) rfl (s_X12_goes k2 f_t1 f_t2 (Or.inr rfl) hP) rfl ⟨z_dc_X12_goes, ⟨(Nat.le_of_ble_eq_true rfl), (Nat.le_of_ble_eq_true rfl)⟩, (Nat.le_of_ble_eq_true rfl)⟩ rfl zw_1555 zw_1557 zp_31 zw_12 zw_1558 dX12_setPath_53 (fun x_1 M_1 b1 hP _ x1 => ?_)
  have ha := x1.k (k := 12) hT1 ha
  refine z_if_eq (tgt := 89) dX12_setPath_56 (by decide) (fun h3 => ?_) (fun h3 => ?_)
  · replace hP := hP.1 h3
    exact z_retv rfl dX12_setPath_89 hP
  · replace hP := hP.2 h3
    refine z_aload_n dX12_setPath_59 rfl 0 rfl ?_
    refine z_getr (c := 12) (k := 1) (g := 1537) (t := 20) z_cb12 (Nat.le_of_ble_eq_true rfl) (Nat.le_of_ble_eq_true rfl) rfl rfl zw_1256 rfl ha dX12_setPath_60 (fun f4 => ?_)
    refine z_iload_n dX12_setPath_63 rfl 1 rfl ?_
    refine z_iload_n dX12_setPath_64 rfl 2 rfl ?_
    refine z_pc (pc' := 65) rfl ?_
    obtain ⟨a5, e5, hP⟩ := hP
    have k5 := f4 a5 e5
    obtain ⟨i6, hP⟩ := hP
    refine z_iast e5 k5 i6 dX12_setPath_65 ?_
    refine z_nm (fun M_7 g_7 => ?_)
    replace hP := hP M_7 g_7
    have q_7 := z_k3 g_7
    have ha := z_kk q_7 ha
    refine z_aload_n dX12_setPath_66 rfl 0 rfl ?_
    refine z_getr (c := 12) (k := 2) (g := 1538) (t := 20) z_cb12 (Nat.le_of_ble_eq_true rfl) (Nat.le_of_ble_eq_true rfl) rfl rfl zw_1257 rfl ha dX12_setPath_67 (fun f8 => ?_)
    refine z_iload_n dX12_setPath_70 rfl 1 rfl ?_
    refine z_iload_n dX12_setPath_71 rfl 3 rfl ?_
    obtain ⟨a9, e9, hP⟩ := hP
    have k9 := f8 a9 e9
    obtain ⟨i10, hP⟩ := hP
    refine z_iast e9 k9 i10 dX12_setPath_72 ?_
    refine z_nm (fun M_11 g_11 => ?_)
    replace hP := hP M_11 g_11
    have q_11 := z_k3 g_11
    have ha := z_kk q_11 ha
    refine z_pc (pc' := 73) rfl ?_
    refine z_aload_n dX12_setPath_73 rfl 0 rfl ?_
    refine z_getr (c := 12) (k := 3) (g := 1539) (t := 20) z_cb12 (Nat.le_of_ble_eq_true rfl) (Nat.le_of_ble_eq_true rfl) rfl rfl zw_1258 rfl ha dX12_setPath_74 (fun f12 => ?_)
    refine z_iload_n dX12_setPath_77 rfl 1 rfl ?_
    refine z_iload dX12_setPath_78 4 rfl ?_
    obtain ⟨a13, e13, hP⟩ := hP
    have k13 := f12 a13 e13
    obtain ⟨i14, hP⟩ := hP
    refine z_iast e13 k13 i14 dX12_setPath_80 ?_
    refine z_nm (fun M_15 g_15 => ?_)
    replace hP := hP M_15 g_15
    have q_15 := z_k3 g_15
    have ha := z_kk q_15 ha
    refine z_aload_n dX12_setPath_81 rfl 0 rfl ?_
    refine z_pc (pc' := 82) rfl ?_
    refine z_getr (c := 12) (k := 4) (g := 1540) (t := 20) z_cb12 (Nat.le_of_ble_eq_true rfl) (Nat.le_of_ble_eq_true rfl) rfl rfl zw_1259 rfl ha dX12_setPath_82 (fun f16 => ?_)
    refine z_iload_n dX12_setPath_85 rfl 1 rfl ?_
    refine z_iload dX12_setPath_86 5 rfl ?_
    obtain ⟨a17, e17, hP⟩ := hP
    have k17 := f16 a17 e17
    obtain ⟨i18, hP⟩ := hP
    refine z_iast e17 k17 i18 dX12_setPath_88 ?_
    refine z_nm (fun M_19 g_19 => ?_)
    replace hP := hP M_19 g_19
    have q_19 := z_k3 g_19
    have ha := z_kk q_19 ha
    exact z_retv rfl dX12_setPath_89 hP
set_option maxRecDepth 100000 in
set_option maxHeartbeats 4000000 in
theorem v_X12_setPath_51 {G : z_G} {M0 : z_Mem} {a : Nat} {Post : z_Mem → Prop}   {x1 : Int32} {x2 : Int32} {x3 : Int32} {x4 : Int32} {x5 : Int32} {t0 : Option Nat} {t1 : Int32} {M : z_Mem} (ha : z_ki M a = 13) (f_t0 : z_tr M t0 13) (f_t1 : t1 = 0 ∨ t1 = 1) (hP : P_X12_setPath_51 a Post x1 x2 x3 x4 x5 t0 t1 M) : z_V G Y_X12_setPath z_X0 M0 (z_QM G M0 (z_PV Post)) M 51 [(0, z_O (some a)), (1, z_I x1), (2, z_I x2), (3, z_I x3), (4, z_I x4), (5, z_I x5)] [z_I t1, z_O t0] := by
  unfold P_X12_setPath_51 at hP
  refine z_iconst (v := 0) dX12_setPath_51 (by decide) ?_
  refine z_sub (lv' := [(0, z_O _), (1, z_I _), (2, z_I _), (3, z_I _), (4, z_I _), (5, z_I _)]) [0, 1, 2, 3, 4, 5] rfl ?_
  exact v_X12_setPath_52  ha f_t0 f_t1 (Or.inl rfl) hP
set_option maxRecDepth 100000 in
set_option maxHeartbeats 4000000 in
theorem s_X12_setPath {G : z_G} {M : z_Mem} {a : Nat} {p1 : Int32} {p2 : Int32} {p3 : Int32} {p4 : Int32} {p5 : Int32} {Post : z_Mem → Prop} (ha : z_ki M a = 13) (hP : P_X12_setPath a p1 p2 p3 p4 p5 M Post) : z_Mt G Y_X12_setPath M [z_O (some a), z_I p1, z_I p2, z_I p3, z_I p4, z_I p5] (z_PV Post) := by
  refine z_ofV (by decide) (Nat.le_of_ble_eq_true rfl) ?_
  unfold P_X12_setPath at hP
  refine z_sub (lv' := [(0, z_O (some a)), (1, z_I p1), (2, z_I p2), (3, z_I p3), (4, z_I p4), (5, z_I p5)]) [0, 1, 2, 3, 4, 5] rfl ?_
  refine z_aload_n dX12_setPath_0 rfl 0 rfl ?_
  refine z_iload_n dX12_setPath_1 rfl 1 rfl ?_
  refine z_wts (fun hT20 _ => ?_)
  refine z_cSb (n := 1) (Y1 := Y_X12_isPath) (st := [z_O _]) rfl (s_X12_isPath  hP) rfl ⟨z_dc_X12_isPath, ⟨(Nat.le_of_ble_eq_true rfl), (Nat.le_of_ble_eq_true rfl)⟩, (Nat.le_of_ble_eq_true rfl)⟩ rfl zw_1549 zw_1550 zw_12 zw_1551 dX12_setPath_2 (fun x_20 M_20 b20 hP _ x20 => ?_)
  have ha := x20.k (k := 12) hT20 ha
  refine z_iload_n dX12_setPath_5 rfl 2 rfl ?_
  refine z_iconst (v := 1) dX12_setPath_6 (by decide) ?_
  refine z_bipush (v := 30) dX12_setPath_7 (by decide) ?_
  refine z_pc (pc' := 9) rfl ?_
  refine z_wts (fun hT21 _ => ?_)
  refine z_cSb (n := 3) (Y1 := Y_X12_in) (st := [z_I _, z_O _]) rfl (s_X12_in  hP) rfl ⟨z_dc_X12_in, ⟨(Nat.le_of_ble_eq_true rfl), (Nat.le_of_ble_eq_true rfl)⟩, (Nat.le_of_ble_eq_true rfl)⟩ rfl zw_1552 zw_1553 zw_12 zw_1554 dX12_setPath_9 (fun x_21 M_21 b21 hP _ x21 => ?_)
  have ha := x21.k (k := 12) hT21 ha
  refine z_if_eq (tgt := 51) dX12_setPath_12 (by decide) (fun h22 => ?_) (fun h22 => ?_)
  · replace hP := hP.1 h22
    refine z_sub (lv' := [(0, z_O _), (1, z_I _), (2, z_I _), (3, z_I _), (4, z_I _), (5, z_I _)]) [0, 1, 2, 3, 4, 5] rfl ?_
    exact v_X12_setPath_51  ha (z_trn rfl ha) b20 hP
  · replace hP := hP.2 h22
    refine z_iload_n dX12_setPath_15 rfl 3 rfl ?_
    refine z_iconst (v := 1) dX12_setPath_16 (by decide) ?_
    refine z_bipush (v := 9) dX12_setPath_17 (by decide) ?_
    refine z_wts (fun hT23 _ => ?_)
    refine z_cSb (n := 3) (Y1 := Y_X12_in) (st := [z_I _, z_O _]) rfl (s_X12_in  hP) rfl ⟨z_dc_X12_in, ⟨(Nat.le_of_ble_eq_true rfl), (Nat.le_of_ble_eq_true rfl)⟩, (Nat.le_of_ble_eq_true rfl)⟩ rfl zw_1552 zw_1553 zw_12 zw_1554 dX12_setPath_19 (fun x_23 M_23 b23 hP _ x23 => ?_)
    have ha := x23.k (k := 12) hT23 ha
    refine z_if_eq (tgt := 51) dX12_setPath_22 (by decide) (fun h24 => ?_) (fun h24 => ?_)
    · replace hP := hP.1 h24
      refine z_sub (lv' := [(0, z_O _), (1, z_I _), (2, z_I _), (3, z_I _), (4, z_I _), (5, z_I _)]) [0, 1, 2, 3, 4, 5] rfl ?_
      exact v_X12_setPath_51  ha (z_trn rfl ha) b20 hP
    · replace hP := hP.2 h24
      refine z_iload dX12_setPath_25 4 rfl ?_
      refine z_pc (pc' := 27) rfl ?_
      refine z_iconst (v := 1) dX12_setPath_27 (by decide) ?_
      refine z_bipush (v := 30) dX12_setPath_28 (by decide) ?_
      refine z_wts (fun hT25 _ => ?_)
      refine z_cSb (n := 3) (Y1 := Y_X12_in) (st := [z_I _, z_O _]) rfl (s_X12_in  hP) rfl ⟨z_dc_X12_in, ⟨(Nat.le_of_ble_eq_true rfl), (Nat.le_of_ble_eq_true rfl)⟩, (Nat.le_of_ble_eq_true rfl)⟩ rfl zw_1552 zw_1553 zw_12 zw_1554 dX12_setPath_30 (fun x_25 M_25 b25 hP _ x25 => ?_)
      have ha := x25.k (k := 12) hT25 ha
      refine z_if_eq (tgt := 51) dX12_setPath_33 (by decide) (fun h26 => ?_) (fun h26 => ?_)
      · replace hP := hP.1 h26
        refine z_sub (lv' := [(0, z_O _), (1, z_I _), (2, z_I _), (3, z_I _), (4, z_I _), (5, z_I _)]) [0, 1, 2, 3, 4, 5] rfl ?_
        exact v_X12_setPath_51  ha (z_trn rfl ha) b20 hP
      · replace hP := hP.2 h26
        refine z_iload dX12_setPath_36 5 rfl ?_
        refine z_iconst (v := 0) dX12_setPath_38 (by decide) ?_
        refine z_bipush (v := 30) dX12_setPath_39 (by decide) ?_
        refine z_pc (pc' := 41) rfl ?_
        refine z_wts (fun hT27 _ => ?_)
        refine z_cSb (n := 3) (Y1 := Y_X12_in) (st := [z_I _, z_O _]) rfl (s_X12_in  hP) rfl ⟨z_dc_X12_in, ⟨(Nat.le_of_ble_eq_true rfl), (Nat.le_of_ble_eq_true rfl)⟩, (Nat.le_of_ble_eq_true rfl)⟩ rfl zw_1552 zw_1553 zw_12 zw_1554 dX12_setPath_41 (fun x_27 M_27 b27 hP _ x27 => ?_)
        have ha := x27.k (k := 12) hT27 ha
        refine z_if_eq (tgt := 51) dX12_setPath_44 (by decide) (fun h28 => ?_) (fun h28 => ?_)
        · replace hP := hP.1 h28
          refine z_sub (lv' := [(0, z_O _), (1, z_I _), (2, z_I _), (3, z_I _), (4, z_I _), (5, z_I _)]) [0, 1, 2, 3, 4, 5] rfl ?_
          exact v_X12_setPath_51  ha (z_trn rfl ha) b20 hP
        · replace hP := hP.2 h28
          refine z_iconst (v := 1) dX12_setPath_47 (by decide) ?_
          refine z_goto (tgt := 52) dX12_setPath_48 (by decide) ?_
          refine z_sub (lv' := [(0, z_O _), (1, z_I _), (2, z_I _), (3, z_I _), (4, z_I _), (5, z_I _)]) [0, 1, 2, 3, 4, 5] rfl ?_
          exact v_X12_setPath_52  ha (z_trn rfl ha) b20 (Or.inr rfl) hP
def P_X12_setUp_29 (a : Nat) (Post : Int32 → z_Mem → Prop)  (x1 : Int32) (x2 : Int32) (t0 : Int32) (M : z_Mem) : Prop := ((x2 = 0 → z_nn (z_fr M 1541 a) fun a6 => (vp_in x1 (z_ln M a6) ∧ (∀ M_8 : z_Mem, M_8 = z_sai M a6 ((x1 : Int32).toNatClampNeg) 1 → (Post t0 M_8)))) ∧ (¬ x2 = 0 → z_nn (z_fr M 1541 a) fun a3 => (vp_in x1 (z_ln M a3) ∧ (∀ M_5 : z_Mem, M_5 = z_sai M a3 ((x1 : Int32).toNatClampNeg) 0 → (Post t0 M_5)))))
set_option maxRecDepth 100000 in
def P_X12_setUp (a : Nat) (p1 : Int32) (p2 : Int32) (M : z_Mem) (Post : Int32 → z_Mem → Prop) : Prop := P_X12_isPath p1 M fun x_9 M_9 => (P_X12_goes a x_9 1 1 M_9 fun x_10 M_10 => (((x_10 = 0 → Post 0 M_10) ∧ (¬ x_10 = 0 → z_nn (z_fr M_10 1541 a) fun a13 => (vp_in p1 (z_ln M_10 a13) ∧ ((((z_ai M_10 a13 ((p1 : Int32).toNatClampNeg)) = 0 → P_X12_setUp_29 a Post p1 p2 1 M_10) ∧ (¬ (z_ai M_10 a13 ((p1 : Int32).toNatClampNeg)) = 0 → P_X12_setUp_29 a Post p1 p2 0 M_10))))))))
set_option maxRecDepth 100000 in
set_option maxHeartbeats 4000000 in
theorem v_X12_setUp_29 {G : z_G} {M0 : z_Mem} {a : Nat} {Post : Int32 → z_Mem → Prop}   {x1 : Int32} {x2 : Int32} {t0 : Int32} {M : z_Mem} (ha : z_ki M a = 13) (f_x2 : x2 = 0 ∨ x2 = 1) (f_t0 : t0 = 0 ∨ t0 = 1) (hP : P_X12_setUp_29 a Post x1 x2 t0 M) : z_V G Y_X12_setUp z_X0 M0 (z_QM G M0 (z_PB Post)) M 29 [(0, z_O (some a)), (1, z_I x1), (2, z_I x2)] [z_I t0] := by
  unfold P_X12_setUp_29 at hP
  refine z_istore_n (lv' := [(3, z_I _), (0, z_O _), (1, z_I _), (2, z_I _)]) dX12_setUp_29 rfl (Nat.le_of_ble_eq_true rfl) rfl ?_
  refine z_aload_n dX12_setUp_30 rfl 1 rfl ?_
  refine z_getr (c := 12) (k := 5) (g := 1541) (t := 21) z_cb12 (Nat.le_of_ble_eq_true rfl) (Nat.le_of_ble_eq_true rfl) rfl rfl zw_1260 rfl ha dX12_setUp_31 (fun f1 => ?_)
  refine z_iload_n dX12_setUp_34 rfl 2 rfl ?_
  refine z_iload_n dX12_setUp_35 rfl 3 rfl ?_
  refine z_if_ne (tgt := 43) dX12_setUp_36 (by decide) (fun h2 => ?_) (fun h2 => ?_)
  · replace hP := hP.2 h2
    refine z_iconst (v := 0) dX12_setUp_43 (by decide) ?_
    refine z_pc (pc' := 44) rfl ?_
    obtain ⟨a3, e3, hP⟩ := hP
    have k3 := f1 a3 e3
    obtain ⟨i4, hP⟩ := hP
    refine z_zast e3 k3 i4 (Or.inl rfl) dX12_setUp_44 ?_
    refine z_nm (fun M_5 g_5 => ?_)
    replace hP := hP M_5 g_5
    have q_5 := z_k3 g_5
    have ha := z_kk q_5 ha
    refine z_iload_n dX12_setUp_45 rfl 0 rfl ?_
    exact z_retb rfl f_t0 dX12_setUp_46 hP
  · replace hP := hP.1 h2
    refine z_iconst (v := 1) dX12_setUp_39 (by decide) ?_
    refine z_pc (pc' := 40) rfl ?_
    refine z_goto (tgt := 44) dX12_setUp_40 (by decide) ?_
    obtain ⟨a6, e6, hP⟩ := hP
    have k6 := f1 a6 e6
    obtain ⟨i7, hP⟩ := hP
    refine z_zast e6 k6 i7 (Or.inr rfl) dX12_setUp_44 ?_
    refine z_nm (fun M_8 g_8 => ?_)
    replace hP := hP M_8 g_8
    have q_8 := z_k3 g_8
    have ha := z_kk q_8 ha
    refine z_iload_n dX12_setUp_45 rfl 0 rfl ?_
    exact z_retb rfl f_t0 dX12_setUp_46 hP
set_option maxRecDepth 100000 in
set_option maxHeartbeats 4000000 in
theorem s_X12_setUp {G : z_G} {M : z_Mem} {a : Nat} {p1 : Int32} {p2 : Int32} {Post : Int32 → z_Mem → Prop} (ha : z_ki M a = 13) (f_p2 : p2 = 0 ∨ p2 = 1) (hP : P_X12_setUp a p1 p2 M Post) : z_Mt G Y_X12_setUp M [z_O (some a), z_I p1, z_I p2] (z_PB Post) := by
  refine z_ofV (by decide) (Nat.le_of_ble_eq_true rfl) ?_
  unfold P_X12_setUp at hP
  refine z_sub (lv' := [(0, z_O (some a)), (1, z_I p1), (2, z_I p2)]) [0, 1, 2] rfl ?_
  refine z_aload_n dX12_setUp_0 rfl 0 rfl ?_
  refine z_iload_n dX12_setUp_1 rfl 1 rfl ?_
  refine z_wts (fun hT9 _ => ?_)
  refine z_cSb (n := 1) (Y1 := Y_X12_isPath) (st := [z_O _]) rfl (s_X12_isPath  hP) rfl ⟨z_dc_X12_isPath, ⟨(Nat.le_of_ble_eq_true rfl), (Nat.le_of_ble_eq_true rfl)⟩, (Nat.le_of_ble_eq_true rfl)⟩ rfl zw_1549 zw_1550 zw_12 zw_1551 dX12_setUp_2 (fun x_9 M_9 b9 hP _ x9 => ?_)
  have ha := x9.k (k := 12) hT9 ha
  refine z_iconst (v := 1) dX12_setUp_5 (by decide) ?_
  refine z_iconst (v := 1) dX12_setUp_6 (by decide) ?_
  refine z_wts (fun hT10 _ => ?_)
  refine z_cVb (c := 12) (n := 3) (Y1 := Y_X12_goes) (st := []) rfl ha z_cb12 (Nat.le_of_ble_eq_true rfl) rfl (s_X12_goes ha b9 (Or.inr rfl) (Or.inr rfl) hP) rfl ⟨z_dc_X12_goes, ⟨(Nat.le_of_ble_eq_true rfl), (Nat.le_of_ble_eq_true rfl)⟩, (Nat.le_of_ble_eq_true rfl)⟩ rfl zw_1555 zw_1557 zp_31 zw_12 zw_1558 dX12_setUp_7 (fun x_10 M_10 b10 hP _ x10 => ?_)
  have ha := x10.k (k := 12) hT10 ha
  refine z_pc (pc' := 10) rfl ?_
  refine z_if_ne (tgt := 15) dX12_setUp_10 (by decide) (fun h11 => ?_) (fun h11 => ?_)
  · replace hP := hP.2 h11
    refine z_aload_n dX12_setUp_15 rfl 0 rfl ?_
    refine z_getr (c := 12) (k := 5) (g := 1541) (t := 21) z_cb12 (Nat.le_of_ble_eq_true rfl) (Nat.le_of_ble_eq_true rfl) rfl rfl zw_1260 rfl ha dX12_setUp_16 (fun f12 => ?_)
    refine z_iload_n dX12_setUp_19 rfl 1 rfl ?_
    obtain ⟨a13, e13, hP⟩ := hP
    have k13 := f12 a13 e13
    obtain ⟨i14, hP⟩ := hP
    refine z_zald e13 k13 i14 dX12_setUp_20 (fun b14 => ?_)
    refine z_if_ne (tgt := 28) dX12_setUp_21 (by decide) (fun h15 => ?_) (fun h15 => ?_)
    · replace hP := hP.2 h15
      refine z_iconst (v := 0) dX12_setUp_28 (by decide) ?_
      refine z_sub (lv' := [(0, z_O _), (1, z_I _), (2, z_I _)]) [0, 1, 2] rfl ?_
      exact v_X12_setUp_29  ha f_p2 (Or.inl rfl) hP
    · replace hP := hP.1 h15
      refine z_iconst (v := 1) dX12_setUp_24 (by decide) ?_
      refine z_goto (tgt := 29) dX12_setUp_25 (by decide) ?_
      refine z_sub (lv' := [(0, z_O _), (1, z_I _), (2, z_I _)]) [0, 1, 2] rfl ?_
      exact v_X12_setUp_29  ha f_p2 (Or.inr rfl) hP
  · replace hP := hP.1 h11
    refine z_iconst (v := 0) dX12_setUp_13 (by decide) ?_
    exact z_retb rfl (Or.inl rfl) dX12_setUp_14 hP
set_option maxRecDepth 100000 in
def P_X12_lose (a : Nat) (p1 : Int32) (p2 : Int32) (p3 : Int32) (M : z_Mem) (Post : z_Mem → Prop) : Prop := P_X12_isPath p1 M fun x_1 M_1 => (P_X12_in p3 0 20 M_1 fun x_2 M_2 => (P_X12_goes a x_1 x_2 1 M_2 fun x_3 M_3 => (((x_3 = 0 → Post M_3) ∧ (¬ x_3 = 0 → ((p2 = 0 → z_nn (z_fr M_3 1543 a) fun a7 => (vp_in p1 (z_ln M_3 a7) ∧ (∀ M_9 : z_Mem, M_9 = z_sai M_3 a7 ((p1 : Int32).toNatClampNeg) p3 → (Post M_9)))) ∧ (¬ p2 = 0 → z_nn (z_fr M_3 1542 a) fun a11 => (vp_in p1 (z_ln M_3 a11) ∧ (∀ M_13 : z_Mem, M_13 = z_sai M_3 a11 ((p1 : Int32).toNatClampNeg) p3 → (Post M_13))))))))))
set_option maxRecDepth 100000 in
set_option maxHeartbeats 4000000 in
theorem s_X12_lose {G : z_G} {M : z_Mem} {a : Nat} {p1 : Int32} {p2 : Int32} {p3 : Int32} {Post : z_Mem → Prop} (ha : z_ki M a = 13) (f_p2 : p2 = 0 ∨ p2 = 1) (hP : P_X12_lose a p1 p2 p3 M Post) : z_Mt G Y_X12_lose M [z_O (some a), z_I p1, z_I p2, z_I p3] (z_PV Post) := by
  refine z_ofV (by decide) (Nat.le_of_ble_eq_true rfl) ?_
  unfold P_X12_lose at hP
  refine z_sub (lv' := [(0, z_O (some a)), (1, z_I p1), (2, z_I p2), (3, z_I p3)]) [0, 1, 2, 3] rfl ?_
  refine z_aload_n dX12_lose_0 rfl 0 rfl ?_
  refine z_iload_n dX12_lose_1 rfl 1 rfl ?_
  refine z_wts (fun hT1 _ => ?_)
  refine z_cSb (n := 1) (Y1 := Y_X12_isPath) (st := [z_O _]) rfl (s_X12_isPath  hP) rfl ⟨z_dc_X12_isPath, ⟨(Nat.le_of_ble_eq_true rfl), (Nat.le_of_ble_eq_true rfl)⟩, (Nat.le_of_ble_eq_true rfl)⟩ rfl zw_1549 zw_1550 zw_12 zw_1551 dX12_lose_2 (fun x_1 M_1 b1 hP _ x1 => ?_)
  have ha := x1.k (k := 12) hT1 ha
  refine z_iload_n dX12_lose_5 rfl 3 rfl ?_
  refine z_iconst (v := 0) dX12_lose_6 (by decide) ?_
  refine z_bipush (v := 20) dX12_lose_7 (by decide) ?_
  refine z_pc (pc' := 9) rfl ?_
  refine z_wts (fun hT2 _ => ?_)
  refine z_cSb (n := 3) (Y1 := Y_X12_in) (st := [z_I _, z_O _]) rfl (s_X12_in  hP) rfl ⟨z_dc_X12_in, ⟨(Nat.le_of_ble_eq_true rfl), (Nat.le_of_ble_eq_true rfl)⟩, (Nat.le_of_ble_eq_true rfl)⟩ rfl zw_1552 zw_1553 zw_12 zw_1554 dX12_lose_9 (fun x_2 M_2 b2 hP _ x2 => ?_)
  have ha := x2.k (k := 12) hT2 ha
  refine z_iconst (v := 1) dX12_lose_12 (by decide) ?_
  refine z_wts (fun hT3 _ => ?_)
  refine z_cVb (c := 12) (n := 3) (Y1 := Y_X12_goes) (st := []) rfl ha z_cb12 (Nat.le_of_ble_eq_true rfl) rfl (s_X12_goes ha b1 b2 (Or.inr rfl) hP) rfl ⟨z_dc_X12_goes, ⟨(Nat.le_of_ble_eq_true rfl), (Nat.le_of_ble_eq_true rfl)⟩, (Nat.le_of_ble_eq_true rfl)⟩ rfl zw_1555 zw_1557 zp_31 zw_12 zw_1558 dX12_lose_13 (fun x_3 M_3 b3 hP _ x3 => ?_)
  have ha := x3.k (k := 12) hT3 ha
  refine z_if_eq (tgt := 40) dX12_lose_16 (by decide) (fun h4 => ?_) (fun h4 => ?_)
  · replace hP := hP.1 h4
    exact z_retv rfl dX12_lose_40 hP
  · replace hP := hP.2 h4
    refine z_iload_n dX12_lose_19 rfl 2 rfl ?_
    refine z_if_eq (tgt := 33) dX12_lose_20 (by decide) (fun h5 => ?_) (fun h5 => ?_)
    · replace hP := hP.1 h5
      refine z_aload_n dX12_lose_33 rfl 0 rfl ?_
      refine z_getr (c := 12) (k := 7) (g := 1543) (t := 20) z_cb12 (Nat.le_of_ble_eq_true rfl) (Nat.le_of_ble_eq_true rfl) rfl rfl zw_1262 rfl ha dX12_lose_34 (fun f6 => ?_)
      refine z_pc (pc' := 37) rfl ?_
      refine z_iload_n dX12_lose_37 rfl 1 rfl ?_
      refine z_iload_n dX12_lose_38 rfl 3 rfl ?_
      obtain ⟨a7, e7, hP⟩ := hP
      have k7 := f6 a7 e7
      obtain ⟨i8, hP⟩ := hP
      refine z_iast e7 k7 i8 dX12_lose_39 ?_
      refine z_nm (fun M_9 g_9 => ?_)
      replace hP := hP M_9 g_9
      have q_9 := z_k3 g_9
      have ha := z_kk q_9 ha
      exact z_retv rfl dX12_lose_40 hP
    · replace hP := hP.2 h5
      refine z_aload_n dX12_lose_23 rfl 0 rfl ?_
      refine z_getr (c := 12) (k := 6) (g := 1542) (t := 20) z_cb12 (Nat.le_of_ble_eq_true rfl) (Nat.le_of_ble_eq_true rfl) rfl rfl zw_1261 rfl ha dX12_lose_24 (fun f10 => ?_)
      refine z_pc (pc' := 27) rfl ?_
      refine z_iload_n dX12_lose_27 rfl 1 rfl ?_
      refine z_iload_n dX12_lose_28 rfl 3 rfl ?_
      obtain ⟨a11, e11, hP⟩ := hP
      have k11 := f10 a11 e11
      obtain ⟨i12, hP⟩ := hP
      refine z_iast e11 k11 i12 dX12_lose_29 ?_
      refine z_nm (fun M_13 g_13 => ?_)
      replace hP := hP M_13 g_13
      have q_13 := z_k3 g_13
      have ha := z_kk q_13 ha
      refine z_goto (tgt := 40) dX12_lose_30 (by decide) ?_
      exact z_retv rfl dX12_lose_40 hP
def P_X12_late_30 (a : Nat) (Post : z_Mem → Prop)  (x1 : Int32) (x2 : Int32) (x3 : Int32) (t0 : Option Nat) (t1 : Int32) (t2 : Int32) (M : z_Mem) : Prop := z_nn t0 fun a2 => (P_X12_goes a2 t1 t2 1 M fun x_1 M_1 => (((x_1 = 0 → Post M_1) ∧ (¬ x_1 = 0 → z_nn (z_fr M_1 1544 a) fun a5 => (vp_in x1 (z_ln M_1 a5) ∧ (∀ M_7 : z_Mem, M_7 = z_sai M_1 a5 ((x1 : Int32).toNatClampNeg) x2 → (z_nn (z_fr M_7 1545 a) fun a9 => (vp_in x1 (z_ln M_7 a9) ∧ (∀ M_11 : z_Mem, M_11 = z_sai M_7 a9 ((x1 : Int32).toNatClampNeg) x3 → (Post M_11))))))))))
def P_X12_late_29 (a : Nat) (Post : z_Mem → Prop)  (x1 : Int32) (x2 : Int32) (x3 : Int32) (t0 : Option Nat) (t1 : Int32) (M : z_Mem) : Prop := P_X12_late_30 a Post x1 x2 x3 t0 t1 0 M
set_option maxRecDepth 100000 in
def P_X12_late (a : Nat) (p1 : Int32) (p2 : Int32) (p3 : Int32) (M : z_Mem) (Post : z_Mem → Prop) : Prop := P_X12_isPath p1 M fun x_12 M_12 => (P_X12_in p2 0 20 M_12 fun x_13 M_13 => (((x_13 = 0 → P_X12_late_29 a Post p1 p2 p3 (some a) x_12 M_13) ∧ (¬ x_13 = 0 → P_X12_in p3 0 50 M_13 fun x_15 M_15 => (((x_15 = 0 → P_X12_late_29 a Post p1 p2 p3 (some a) x_12 M_15) ∧ (¬ x_15 = 0 → P_X12_late_30 a Post p1 p2 p3 (some a) x_12 1 M_15)))))))
set_option maxRecDepth 100000 in
set_option maxHeartbeats 4000000 in
theorem v_X12_late_30 {G : z_G} {M0 : z_Mem} {a : Nat} {Post : z_Mem → Prop}   {x1 : Int32} {x2 : Int32} {x3 : Int32} {t0 : Option Nat} {t1 : Int32} {t2 : Int32} {M : z_Mem} (ha : z_ki M a = 13) (f_t0 : z_tr M t0 13) (f_t1 : t1 = 0 ∨ t1 = 1) (f_t2 : t2 = 0 ∨ t2 = 1) (hP : P_X12_late_30 a Post x1 x2 x3 t0 t1 t2 M) : z_V G Y_X12_late z_X0 M0 (z_QM G M0 (z_PV Post)) M 30 [(0, z_O (some a)), (1, z_I x1), (2, z_I x2), (3, z_I x3)] [z_I t2, z_I t1, z_O t0] := by
  unfold P_X12_late_30 at hP
  refine z_iconst (v := 1) dX12_late_30 (by decide) ?_
  obtain ⟨a2, e2, hP⟩ := hP
  have k2 := f_t0 a2 e2
  refine z_wts (fun hT1 _ => ?_)
  refine z_cVb (c := 12) (n := 3) (Y1 := Y_X12_goes) (st := []) e2 k2 z_cb12 (Nat.le_of_ble_eq_true rfl) rfl (s_X12_goes k2 f_t1 f_t2 (Or.inr rfl) hP) rfl ⟨z_dc_X12_goes, ⟨(Nat.le_of_ble_eq_true rfl), (Nat.le_of_ble_eq_true rfl)⟩, (Nat.le_of_ble_eq_true rfl)⟩ rfl zw_1555 zw_1557 zp_31 zw_12 zw_1558 dX12_late_31 (fun x_1 M_1 b1 hP _ x1 => ?_)
  have ha := x1.k (k := 12) hT1 ha
  refine z_if_eq (tgt := 51) dX12_late_34 (by decide) (fun h3 => ?_) (fun h3 => ?_)
  · replace hP := hP.1 h3
    exact z_retv rfl dX12_late_51 hP
  · replace hP := hP.2 h3
    refine z_aload_n dX12_late_37 rfl 0 rfl ?_
    refine z_getr (c := 12) (k := 8) (g := 1544) (t := 20) z_cb12 (Nat.le_of_ble_eq_true rfl) (Nat.le_of_ble_eq_true rfl) rfl rfl zw_1263 rfl ha dX12_late_38 (fun f4 => ?_)
    refine z_iload_n dX12_late_41 rfl 1 rfl ?_
    refine z_iload_n dX12_late_42 rfl 2 rfl ?_
    refine z_pc (pc' := 43) rfl ?_
    obtain ⟨a5, e5, hP⟩ := hP
    have k5 := f4 a5 e5
    obtain ⟨i6, hP⟩ := hP
    refine z_iast e5 k5 i6 dX12_late_43 ?_
    refine z_nm (fun M_7 g_7 => ?_)
    replace hP := hP M_7 g_7
    have q_7 := z_k3 g_7
    have ha := z_kk q_7 ha
    refine z_aload_n dX12_late_44 rfl 0 rfl ?_
    refine z_getr (c := 12) (k := 9) (g := 1545) (t := 20) z_cb12 (Nat.le_of_ble_eq_true rfl) (Nat.le_of_ble_eq_true rfl) rfl rfl zw_1264 rfl ha dX12_late_45 (fun f8 => ?_)
    refine z_iload_n dX12_late_48 rfl 1 rfl ?_
    refine z_iload_n dX12_late_49 rfl 3 rfl ?_
    obtain ⟨a9, e9, hP⟩ := hP
    have k9 := f8 a9 e9
    obtain ⟨i10, hP⟩ := hP
    refine z_iast e9 k9 i10 dX12_late_50 ?_
    refine z_nm (fun M_11 g_11 => ?_)
    replace hP := hP M_11 g_11
    have q_11 := z_k3 g_11
    have ha := z_kk q_11 ha
    refine z_pc (pc' := 51) rfl ?_
    exact z_retv rfl dX12_late_51 hP
set_option maxRecDepth 100000 in
set_option maxHeartbeats 4000000 in
theorem v_X12_late_29 {G : z_G} {M0 : z_Mem} {a : Nat} {Post : z_Mem → Prop}   {x1 : Int32} {x2 : Int32} {x3 : Int32} {t0 : Option Nat} {t1 : Int32} {M : z_Mem} (ha : z_ki M a = 13) (f_t0 : z_tr M t0 13) (f_t1 : t1 = 0 ∨ t1 = 1) (hP : P_X12_late_29 a Post x1 x2 x3 t0 t1 M) : z_V G Y_X12_late z_X0 M0 (z_QM G M0 (z_PV Post)) M 29 [(0, z_O (some a)), (1, z_I x1), (2, z_I x2), (3, z_I x3)] [z_I t1, z_O t0] := by
  unfold P_X12_late_29 at hP
  refine z_iconst (v := 0) dX12_late_29 (by decide) ?_
  refine z_sub (lv' := [(0, z_O _), (1, z_I _), (2, z_I _), (3, z_I _)]) [0, 1, 2, 3] rfl ?_
  exact v_X12_late_30  ha f_t0 f_t1 (Or.inl rfl) hP
set_option maxRecDepth 100000 in
set_option maxHeartbeats 4000000 in
theorem s_X12_late {G : z_G} {M : z_Mem} {a : Nat} {p1 : Int32} {p2 : Int32} {p3 : Int32} {Post : z_Mem → Prop} (ha : z_ki M a = 13) (hP : P_X12_late a p1 p2 p3 M Post) : z_Mt G Y_X12_late M [z_O (some a), z_I p1, z_I p2, z_I p3] (z_PV Post) := by
  refine z_ofV (by decide) (Nat.le_of_ble_eq_true rfl) ?_
  unfold P_X12_late at hP
  refine z_sub (lv' := [(0, z_O (some a)), (1, z_I p1), (2, z_I p2), (3, z_I p3)]) [0, 1, 2, 3] rfl ?_
  refine z_aload_n dX12_late_0 rfl 0 rfl ?_
  refine z_iload_n dX12_late_1 rfl 1 rfl ?_
  refine z_wts (fun hT12 _ => ?_)
  refine z_cSb (n := 1) (Y1 := Y_X12_isPath) (st := [z_O _]) rfl (s_X12_isPath  hP) rfl ⟨z_dc_X12_isPath, ⟨(Nat.le_of_ble_eq_true rfl), (Nat.le_of_ble_eq_true rfl)⟩, (Nat.le_of_ble_eq_true rfl)⟩ rfl zw_1549 zw_1550 zw_12 zw_1551 dX12_late_2 (fun x_12 M_12 b12 hP _ x12 => ?_)
  have ha := x12.k (k := 12) hT12 ha
  refine z_iload_n dX12_late_5 rfl 2 rfl ?_
  refine z_iconst (v := 0) dX12_late_6 (by decide) ?_
  refine z_bipush (v := 20) dX12_late_7 (by decide) ?_
  refine z_pc (pc' := 9) rfl ?_
  refine z_wts (fun hT13 _ => ?_)
  refine z_cSb (n := 3) (Y1 := Y_X12_in) (st := [z_I _, z_O _]) rfl (s_X12_in  hP) rfl ⟨z_dc_X12_in, ⟨(Nat.le_of_ble_eq_true rfl), (Nat.le_of_ble_eq_true rfl)⟩, (Nat.le_of_ble_eq_true rfl)⟩ rfl zw_1552 zw_1553 zw_12 zw_1554 dX12_late_9 (fun x_13 M_13 b13 hP _ x13 => ?_)
  have ha := x13.k (k := 12) hT13 ha
  refine z_if_eq (tgt := 29) dX12_late_12 (by decide) (fun h14 => ?_) (fun h14 => ?_)
  · replace hP := hP.1 h14
    refine z_sub (lv' := [(0, z_O _), (1, z_I _), (2, z_I _), (3, z_I _)]) [0, 1, 2, 3] rfl ?_
    exact v_X12_late_29  ha (z_trn rfl ha) b12 hP
  · replace hP := hP.2 h14
    refine z_iload_n dX12_late_15 rfl 3 rfl ?_
    refine z_iconst (v := 0) dX12_late_16 (by decide) ?_
    refine z_bipush (v := 50) dX12_late_17 (by decide) ?_
    refine z_wts (fun hT15 _ => ?_)
    refine z_cSb (n := 3) (Y1 := Y_X12_in) (st := [z_I _, z_O _]) rfl (s_X12_in  hP) rfl ⟨z_dc_X12_in, ⟨(Nat.le_of_ble_eq_true rfl), (Nat.le_of_ble_eq_true rfl)⟩, (Nat.le_of_ble_eq_true rfl)⟩ rfl zw_1552 zw_1553 zw_12 zw_1554 dX12_late_19 (fun x_15 M_15 b15 hP _ x15 => ?_)
    have ha := x15.k (k := 12) hT15 ha
    refine z_if_eq (tgt := 29) dX12_late_22 (by decide) (fun h16 => ?_) (fun h16 => ?_)
    · replace hP := hP.1 h16
      refine z_sub (lv' := [(0, z_O _), (1, z_I _), (2, z_I _), (3, z_I _)]) [0, 1, 2, 3] rfl ?_
      exact v_X12_late_29  ha (z_trn rfl ha) b12 hP
    · replace hP := hP.2 h16
      refine z_iconst (v := 1) dX12_late_25 (by decide) ?_
      refine z_pc (pc' := 26) rfl ?_
      refine z_goto (tgt := 30) dX12_late_26 (by decide) ?_
      refine z_sub (lv' := [(0, z_O _), (1, z_I _), (2, z_I _), (3, z_I _)]) [0, 1, 2, 3] rfl ?_
      exact v_X12_late_30  ha (z_trn rfl ha) b12 (Or.inr rfl) hP
set_option maxRecDepth 100000 in
def P_X12_foreign_23 (a : Nat) (Post : Int32 → z_Mem → Prop)  : Nat → Int32 → Int32 → Int32 → z_Mem → Prop
  | 0, _, _, _, _ => False
  | n + 1, x1, x2, x3, M => ((x2 ≤ x3 → Post x3 M) ∧ (¬ x2 ≤ x3 → z_nn (z_fr M 1547 a) fun a3 => (vp_in x1 (z_ln M a3) ∧ (z_nn (z_fr M 1539 a) fun a6 => (vp_in x1 (z_ln M a6) ∧ ((((z_ai M a6 ((x1 : Int32).toNatClampNeg)) ≤ (z_ai M a3 ((x1 : Int32).toNatClampNeg)) → Post x3 M) ∧ (¬ (z_ai M a6 ((x1 : Int32).toNatClampNeg)) ≤ (z_ai M a3 ((x1 : Int32).toNatClampNeg)) → z_nn (z_fr M 1547 a) fun a11 => (vp_in x1 (z_ln M a11) ∧ (z_nn (z_fr M 1546 a) fun a13 => (vp_in ((30 * x1) + (z_ai M a11 ((x1 : Int32).toNatClampNeg))) (z_ln M a13) ∧ (∀ M_15 : z_Mem, M_15 = z_sai M a13 ((((30 * x1) + (z_ai M a11 ((x1 : Int32).toNatClampNeg))) : Int32).toNatClampNeg) (-1) → (z_nn (z_fr M_15 1547 a) fun a17 => (vp_in x1 (z_ln M_15 a17) ∧ (vp_in x1 (z_ln M_15 a17) ∧ (∀ M_20 : z_Mem, M_20 = z_sai M_15 a17 ((x1 : Int32).toNatClampNeg) ((z_ai M_15 a17 ((x1 : Int32).toNatClampNeg)) + 1) → (∀ x_21 : Int32, x_21 = x3 + 1 → (P_X12_foreign_23 a Post n x1 x2 x_21 M_20))))))))))))))))))
set_option maxRecDepth 100000 in
def P_X12_foreign (a : Nat) (p1 : Int32) (p2 : Int32) (M : z_Mem) (Post : Int32 → z_Mem → Prop) : Prop := P_X12_isPath p1 M fun x_22 M_22 => (P_X12_in p2 1 30 M_22 fun x_23 M_23 => (P_X12_goes a x_22 x_23 1 M_23 fun x_24 M_24 => (((x_24 = 0 → Post 0 M_24) ∧ (¬ x_24 = 0 → (∃ n26 : Nat, P_X12_foreign_23 a Post n26 p1 p2 0 M_24))))))
set_option maxRecDepth 100000 in
set_option maxHeartbeats 4000000 in
theorem v_X12_foreign_23 {G : z_G} {M0 : z_Mem} {a : Nat} {Post : Int32 → z_Mem → Prop}   : ∀ (n : Nat) {x1 : Int32} {x2 : Int32} {x3 : Int32} {M : z_Mem}, (z_ki M a = 13) → P_X12_foreign_23 a Post n x1 x2 x3 M → z_V G Y_X12_foreign z_X0 M0 (z_QM G M0 (z_PI Post)) M 23 [(0, z_O (some a)), (1, z_I x1), (2, z_I x2), (3, z_I x3)] [] := by
  intro n
  induction n with
  | zero => intro x1 x2 x3 M ha hP; exact False.elim hP
  | succ n ih =>
    intro x1 x2 x3 M ha hP
    unfold P_X12_foreign_23 at hP
    refine z_iload_n dX12_foreign_23 rfl 3 rfl ?_
    refine z_iload_n dX12_foreign_24 rfl 2 rfl ?_
    refine z_icmp_ge (tgt := 76) dX12_foreign_25 (by decide) (fun h1 => ?_) (fun h1 => ?_)
    · replace hP := hP.1 h1
      refine z_iload_n dX12_foreign_76 rfl 3 rfl ?_
      exact z_reti rfl dX12_foreign_77 hP
    · replace hP := hP.2 h1
      refine z_aload_n dX12_foreign_28 rfl 0 rfl ?_
      refine z_getr (c := 12) (k := 11) (g := 1547) (t := 20) z_cb12 (Nat.le_of_ble_eq_true rfl) (Nat.le_of_ble_eq_true rfl) rfl rfl zw_1266 rfl ha dX12_foreign_29 (fun f2 => ?_)
      refine z_iload_n dX12_foreign_32 rfl 1 rfl ?_
      obtain ⟨a3, e3, hP⟩ := hP
      have k3 := f2 a3 e3
      obtain ⟨i4, hP⟩ := hP
      refine z_iald e3 k3 i4 dX12_foreign_33 ?_
      refine z_pc (pc' := 34) rfl ?_
      refine z_aload_n dX12_foreign_34 rfl 0 rfl ?_
      refine z_getr (c := 12) (k := 3) (g := 1539) (t := 20) z_cb12 (Nat.le_of_ble_eq_true rfl) (Nat.le_of_ble_eq_true rfl) rfl rfl zw_1258 rfl ha dX12_foreign_35 (fun f5 => ?_)
      refine z_iload_n dX12_foreign_38 rfl 1 rfl ?_
      obtain ⟨a6, e6, hP⟩ := hP
      have k6 := f5 a6 e6
      obtain ⟨i7, hP⟩ := hP
      refine z_iald e6 k6 i7 dX12_foreign_39 ?_
      refine z_icmp_ge (tgt := 76) dX12_foreign_40 (by decide) (fun h8 => ?_) (fun h8 => ?_)
      · replace hP := hP.1 h8
        refine z_iload_n dX12_foreign_76 rfl 3 rfl ?_
        exact z_reti rfl dX12_foreign_77 hP
      · replace hP := hP.2 h8
        refine z_aload_n dX12_foreign_43 rfl 0 rfl ?_
        refine z_getr (c := 12) (k := 10) (g := 1546) (t := 20) z_cb12 (Nat.le_of_ble_eq_true rfl) (Nat.le_of_ble_eq_true rfl) rfl rfl zw_1265 rfl ha dX12_foreign_44 (fun f9 => ?_)
        refine z_pc (pc' := 47) rfl ?_
        refine z_bipush (v := 30) dX12_foreign_47 (by decide) ?_
        refine z_iload_n dX12_foreign_49 rfl 1 rfl ?_
        refine z_imul dX12_foreign_50 ?_
        refine z_aload_n dX12_foreign_51 rfl 0 rfl ?_
        refine z_getr (c := 12) (k := 11) (g := 1547) (t := 20) z_cb12 (Nat.le_of_ble_eq_true rfl) (Nat.le_of_ble_eq_true rfl) rfl rfl zw_1266 rfl ha dX12_foreign_52 (fun f10 => ?_)
        refine z_iload_n dX12_foreign_55 rfl 1 rfl ?_
        refine z_pc (pc' := 56) rfl ?_
        obtain ⟨a11, e11, hP⟩ := hP
        have k11 := f10 a11 e11
        obtain ⟨i12, hP⟩ := hP
        refine z_iald e11 k11 i12 dX12_foreign_56 ?_
        refine z_iadd dX12_foreign_57 ?_
        refine z_iconst (v := (-1)) dX12_foreign_58 (by decide) ?_
        obtain ⟨a13, e13, hP⟩ := hP
        have k13 := f9 a13 e13
        obtain ⟨i14, hP⟩ := hP
        refine z_iast e13 k13 i14 dX12_foreign_59 ?_
        refine z_nm (fun M_15 g_15 => ?_)
        replace hP := hP M_15 g_15
        have q_15 := z_k3 g_15
        have ha := z_kk q_15 ha
        refine z_aload_n dX12_foreign_60 rfl 0 rfl ?_
        refine z_getr (c := 12) (k := 11) (g := 1547) (t := 20) z_cb12 (Nat.le_of_ble_eq_true rfl) (Nat.le_of_ble_eq_true rfl) rfl rfl zw_1266 rfl ha dX12_foreign_61 (fun f16 => ?_)
        refine z_pc (pc' := 64) rfl ?_
        refine z_iload_n dX12_foreign_64 rfl 1 rfl ?_
        refine z_dup2 dX12_foreign_65 rfl rfl ?_
        obtain ⟨a17, e17, hP⟩ := hP
        have k17 := f16 a17 e17
        obtain ⟨i18, hP⟩ := hP
        refine z_iald e17 k17 i18 dX12_foreign_66 ?_
        refine z_iconst (v := 1) dX12_foreign_67 (by decide) ?_
        refine z_iadd dX12_foreign_68 ?_
        obtain ⟨i19, hP⟩ := hP
        refine z_iast e17 k17 i19 dX12_foreign_69 ?_
        refine z_nm (fun M_20 g_20 => ?_)
        replace hP := hP M_20 g_20
        have q_20 := z_k3 g_20
        have ha := z_kk q_20 ha
        refine z_pc (pc' := 70) rfl ?_
        refine z_iincN (j := 3) (m := 1) (lv' := fun v => [(3, z_I v), (0, z_O _), (1, z_I _), (2, z_I _)]) dX12_foreign_70 rfl (by decide) (Nat.le_of_ble_eq_true rfl) (fun _ => rfl) (fun x_21 y_21 => ?_)
        replace hP := hP x_21 y_21
        refine z_goto (tgt := 23) dX12_foreign_73 (by decide) ?_
        refine z_sub (lv' := [(0, z_O _), (1, z_I _), (2, z_I _), (3, z_I _)]) [1, 2, 3, 0] rfl ?_
        exact ih ha hP
set_option maxRecDepth 100000 in
set_option maxHeartbeats 4000000 in
theorem s_X12_foreign {G : z_G} {M : z_Mem} {a : Nat} {p1 : Int32} {p2 : Int32} {Post : Int32 → z_Mem → Prop} (ha : z_ki M a = 13) (hP : P_X12_foreign a p1 p2 M Post) : z_Mt G Y_X12_foreign M [z_O (some a), z_I p1, z_I p2] (z_PI Post) := by
  refine z_ofV (by decide) (Nat.le_of_ble_eq_true rfl) ?_
  unfold P_X12_foreign at hP
  refine z_sub (lv' := [(0, z_O (some a)), (1, z_I p1), (2, z_I p2)]) [0, 1, 2] rfl ?_
  refine z_aload_n dX12_foreign_0 rfl 0 rfl ?_
  refine z_iload_n dX12_foreign_1 rfl 1 rfl ?_
  refine z_wts (fun hT22 _ => ?_)
  refine z_cSb (n := 1) (Y1 := Y_X12_isPath) (st := [z_O _]) rfl (s_X12_isPath  hP) rfl ⟨z_dc_X12_isPath, ⟨(Nat.le_of_ble_eq_true rfl), (Nat.le_of_ble_eq_true rfl)⟩, (Nat.le_of_ble_eq_true rfl)⟩ rfl zw_1549 zw_1550 zw_12 zw_1551 dX12_foreign_2 (fun x_22 M_22 b22 hP _ x22 => ?_)
  have ha := x22.k (k := 12) hT22 ha
  refine z_iload_n dX12_foreign_5 rfl 2 rfl ?_
  refine z_iconst (v := 1) dX12_foreign_6 (by decide) ?_
  refine z_bipush (v := 30) dX12_foreign_7 (by decide) ?_
  refine z_pc (pc' := 9) rfl ?_
  refine z_wts (fun hT23 _ => ?_)
  refine z_cSb (n := 3) (Y1 := Y_X12_in) (st := [z_I _, z_O _]) rfl (s_X12_in  hP) rfl ⟨z_dc_X12_in, ⟨(Nat.le_of_ble_eq_true rfl), (Nat.le_of_ble_eq_true rfl)⟩, (Nat.le_of_ble_eq_true rfl)⟩ rfl zw_1552 zw_1553 zw_12 zw_1554 dX12_foreign_9 (fun x_23 M_23 b23 hP _ x23 => ?_)
  have ha := x23.k (k := 12) hT23 ha
  refine z_iconst (v := 1) dX12_foreign_12 (by decide) ?_
  refine z_wts (fun hT24 _ => ?_)
  refine z_cVb (c := 12) (n := 3) (Y1 := Y_X12_goes) (st := []) rfl ha z_cb12 (Nat.le_of_ble_eq_true rfl) rfl (s_X12_goes ha b22 b23 (Or.inr rfl) hP) rfl ⟨z_dc_X12_goes, ⟨(Nat.le_of_ble_eq_true rfl), (Nat.le_of_ble_eq_true rfl)⟩, (Nat.le_of_ble_eq_true rfl)⟩ rfl zw_1555 zw_1557 zp_31 zw_12 zw_1558 dX12_foreign_13 (fun x_24 M_24 b24 hP _ x24 => ?_)
  have ha := x24.k (k := 12) hT24 ha
  refine z_if_ne (tgt := 21) dX12_foreign_16 (by decide) (fun h25 => ?_) (fun h25 => ?_)
  · replace hP := hP.2 h25
    refine z_iconst (v := 0) dX12_foreign_21 (by decide) ?_
    refine z_istore_n (lv' := [(3, z_I _), (0, z_O _), (1, z_I _), (2, z_I _)]) dX12_foreign_22 rfl (Nat.le_of_ble_eq_true rfl) rfl ?_
    obtain ⟨n26, hP⟩ := hP
    refine z_sub (lv' := [(0, z_O _), (1, z_I _), (2, z_I _), (3, z_I _)]) [1, 2, 3, 0] rfl ?_
    exact v_X12_foreign_23  n26 ha hP
  · replace hP := hP.1 h25
    refine z_iconst (v := 0) dX12_foreign_19 (by decide) ?_
    exact z_reti rfl dX12_foreign_20 hP
def P_X12_leaves_149 (a : Nat) (Post : z_Mem → Prop) (J33 : Int32 → Int32 → Int32 → z_Mem → Prop) (x1 : Int32) (x2 : Int32) (x3 : Int32) (M : z_Mem) : Prop := ∀ x_1 : Int32, x_1 = x3 + 1 → (J33 x1 x2 x_1 M)
def P_X12_leaves_137 (a : Nat) (Post : z_Mem → Prop) (J33 : Int32 → Int32 → Int32 → z_Mem → Prop) (x1 : Int32) (x2 : Int32) (x3 : Int32) (t0 : Option Nat) (t1 : Int32) (t2 : Int32) (t3 : Int32) (M : z_Mem) : Prop := z_nn t0 fun a2 => (vp_in t1 (z_ln M a2) ∧ (∀ M_4 : z_Mem, M_4 = z_sai M a2 ((t1 : Int32).toNatClampNeg) (t2 + t3) → (∀ M_6 : z_Mem, M_6 = z_sfi M_4 1554 a ((z_fi M_4 1554 a) + 1) → (P_X12_leaves_149 a Post J33 x1 x2 x3 M_6))))
def P_X12_leaves_90 (a : Nat) (Post : z_Mem → Prop) (J33 : Int32 → Int32 → Int32 → z_Mem → Prop) (x1 : Int32) (x2 : Int32) (x3 : Int32) (x4 : Int32) (x5 : Int32) (t0 : Option Nat) (t1 : Int32) (t2 : Int32) (t3 : Int32) (M : z_Mem) : Prop := z_nn t0 fun a7 => (vp_in t1 (z_ln M a7) ∧ (∀ M_9 : z_Mem, M_9 = z_sai M a7 ((t1 : Int32).toNatClampNeg) (t2 - t3) → (z_nn (z_fr M_9 1552 a) fun a12 => (vp_in (z_fi M_9 1554 a) (z_ln M_9 a12) ∧ (∀ M_14 : z_Mem, M_14 = z_sai M_9 a12 (((z_fi M_9 1554 a) : Int32).toNatClampNeg) x4 → (z_nn (z_fr M_14 1537 a) fun a19 => (vp_in x1 (z_ln M_14 a19) ∧ (((x5 = 0 → P_X12_leaves_137 a Post J33 x1 x2 x3 (z_fr M_14 1553 a) (z_fi M_14 1554 a) ((z_fi M_14 1536 a) + (z_ai M_14 a19 ((x1 : Int32).toNatClampNeg))) 0 M_14) ∧ (¬ x5 = 0 → z_nn (z_fr M_14 1545 a) fun a23 => (vp_in x1 (z_ln M_14 a23) ∧ (P_X12_leaves_137 a Post J33 x1 x2 x3 (z_fr M_14 1553 a) (z_fi M_14 1554 a) ((z_fi M_14 1536 a) + (z_ai M_14 a19 ((x1 : Int32).toNatClampNeg))) (z_ai M_14 a23 ((x1 : Int32).toNatClampNeg)) M_14))))))))))))
def P_X12_leaves_71 (a : Nat) (Post : z_Mem → Prop) (J33 : Int32 → Int32 → Int32 → z_Mem → Prop) (x1 : Int32) (x2 : Int32) (x3 : Int32) (x4 : Int32) (t0 : Int32) (M : z_Mem) : Prop := z_nn (z_fr M 1544 a) fun a26 => (vp_in x1 (z_ln M a26) ∧ (((t0 = 0 → P_X12_leaves_90 a Post J33 x1 x2 x3 x4 t0 (z_fr M 1544 a) x1 (z_ai M a26 ((x1 : Int32).toNatClampNeg)) 0 M) ∧ (¬ t0 = 0 → P_X12_leaves_90 a Post J33 x1 x2 x3 x4 t0 (z_fr M 1544 a) x1 (z_ai M a26 ((x1 : Int32).toNatClampNeg)) 1 M))))
set_option maxRecDepth 100000 in
def P_X12_leaves_157 (a : Nat) (Post : z_Mem → Prop)  : Nat → Int32 → Int32 → Int32 → z_Mem → Prop
  | 0, _, _, _, _ => False
  | n + 1, x1, x2, x3, M => z_nn (z_fr M 1547 a) fun a30 => (vp_in x1 (z_ln M a30) ∧ ((((z_ai M a30 ((x1 : Int32).toNatClampNeg)) ≤ x3 → z_nn (z_fr M 1547 a) fun a34 => (vp_in x1 (z_ln M a34) ∧ (vp_in x1 (z_ln M a34) ∧ (∀ M_37 : z_Mem, M_37 = z_sai M a34 ((x1 : Int32).toNatClampNeg) ((z_ai M a34 ((x1 : Int32).toNatClampNeg)) - x2) → (Post M_37))))) ∧ (¬ (z_ai M a30 ((x1 : Int32).toNatClampNeg)) ≤ x3 → z_nn (z_fr M 1546 a) fun a40 => (vp_in ((30 * x1) + x3) (z_ln M a40) ∧ (z_nn (z_fr M 1546 a) fun a42 => (vp_in (((30 * x1) + x3) - x2) (z_ln M a42) ∧ (∀ M_44 : z_Mem, M_44 = z_sai M a42 (((((30 * x1) + x3) - x2) : Int32).toNatClampNeg) (z_ai M a40 ((((30 * x1) + x3) : Int32).toNatClampNeg)) → (∀ x_45 : Int32, x_45 = x3 + 1 → (P_X12_leaves_157 a Post n x1 x2 x_45 M_44))))))))))
set_option maxRecDepth 100000 in
def P_X12_leaves_33 (a : Nat) (Post : z_Mem → Prop)  : Nat → Int32 → Int32 → Int32 → z_Mem → Prop
  | 0, _, _, _, _ => False
  | n + 1, x1, x2, x3, M => ((x2 ≤ x3 → (∃ n47 : Nat, P_X12_leaves_157 a Post n47 x1 x2 x2 M)) ∧ (¬ x2 ≤ x3 → z_nn (z_fr M 1546 a) fun a49 => (vp_in ((30 * x1) + x3) (z_ln M a49) ∧ (∀ x_51 : Int32, x_51 = (z_ai M a49 ((((30 * x1) + x3) : Int32).toNatClampNeg)) → (((x_51 = (-1) → P_X12_leaves_149 a Post (fun q0 q1 q2 qM => P_X12_leaves_33 a Post n q0 q1 q2 qM) x1 x2 x3 M) ∧ (¬ x_51 = (-1) → z_nn (z_fr M 1544 a) fun a54 => (vp_in x1 (z_ln M a54) ∧ ((((z_ai M a54 ((x1 : Int32).toNatClampNeg)) ≤ 0 → P_X12_leaves_71 a Post (fun q0 q1 q2 qM => P_X12_leaves_33 a Post n q0 q1 q2 qM) x1 x2 x3 x_51 0 M) ∧ (¬ (z_ai M a54 ((x1 : Int32).toNatClampNeg)) ≤ 0 → P_X12_leaves_71 a Post (fun q0 q1 q2 qM => P_X12_leaves_33 a Post n q0 q1 q2 qM) x1 x2 x3 x_51 1 M)))))))))))
def P_X12_leaves_30 (a : Nat) (Post : z_Mem → Prop)  (x1 : Int32) (t0 : Int32) (M : z_Mem) : Prop := (∃ n57 : Nat, P_X12_leaves_33 a Post n57 x1 t0 0 M)
set_option maxRecDepth 100000 in
def P_X12_leaves (a : Nat) (p1 : Int32) (M : z_Mem) (Post : z_Mem → Prop) : Prop := z_nn (z_fr M 1547 a) fun a59 => (vp_in p1 (z_ln M a59) ∧ (z_nn (z_fr M 1538 a) fun a62 => (vp_in p1 (z_ln M a62) ∧ ((((z_ai M a62 ((p1 : Int32).toNatClampNeg)) ≤ (z_ai M a59 ((p1 : Int32).toNatClampNeg)) → z_nn (z_fr M 1538 a) fun a66 => (vp_in p1 (z_ln M a66) ∧ (P_X12_leaves_30 a Post p1 (z_ai M a66 ((p1 : Int32).toNatClampNeg)) M))) ∧ (¬ (z_ai M a62 ((p1 : Int32).toNatClampNeg)) ≤ (z_ai M a59 ((p1 : Int32).toNatClampNeg)) → z_nn (z_fr M 1547 a) fun a69 => (vp_in p1 (z_ln M a69) ∧ (P_X12_leaves_30 a Post p1 (z_ai M a69 ((p1 : Int32).toNatClampNeg)) M))))))))
set_option maxRecDepth 100000 in
set_option maxHeartbeats 4000000 in
theorem v_X12_leaves_149 {G : z_G} {M0 : z_Mem} {a : Nat} {Post : z_Mem → Prop} {J33 : Int32 → Int32 → Int32 → z_Mem → Prop} (hJ33 : ∀ (x1 : Int32) (x2 : Int32) (x3 : Int32) (M : z_Mem), (z_ki M a = 13) → J33 x1 x2 x3 M → z_V G Y_X12_leaves z_X0 M0 (z_QM G M0 (z_PV Post)) M 33 [(0, z_O (some a)), (1, z_I x1), (2, z_I x2), (3, z_I x3)] []) {x1 : Int32} {x2 : Int32} {x3 : Int32} {M : z_Mem} (ha : z_ki M a = 13) (hP : P_X12_leaves_149 a Post J33 x1 x2 x3 M) : z_V G Y_X12_leaves z_X0 M0 (z_QM G M0 (z_PV Post)) M 149 [(0, z_O (some a)), (1, z_I x1), (2, z_I x2), (3, z_I x3)] [] := by
  unfold P_X12_leaves_149 at hP
  refine z_iincN (j := 3) (m := 1) (lv' := fun v => [(3, z_I v), (0, z_O _), (1, z_I _), (2, z_I _)]) dX12_leaves_149 rfl (by decide) (Nat.le_of_ble_eq_true rfl) (fun _ => rfl) (fun x_1 y_1 => ?_)
  replace hP := hP x_1 y_1
  refine z_goto (tgt := 33) dX12_leaves_152 (by decide) ?_
  refine z_sub (lv' := [(0, z_O _), (1, z_I _), (2, z_I _), (3, z_I _)]) [1, 2, 3, 0] rfl ?_
  exact hJ33 _ _ _ _ ha hP
set_option maxRecDepth 100000 in
set_option maxHeartbeats 4000000 in
theorem v_X12_leaves_137 {G : z_G} {M0 : z_Mem} {a : Nat} {Post : z_Mem → Prop} {J33 : Int32 → Int32 → Int32 → z_Mem → Prop} (hJ33 : ∀ (x1 : Int32) (x2 : Int32) (x3 : Int32) (M : z_Mem), (z_ki M a = 13) → J33 x1 x2 x3 M → z_V G Y_X12_leaves z_X0 M0 (z_QM G M0 (z_PV Post)) M 33 [(0, z_O (some a)), (1, z_I x1), (2, z_I x2), (3, z_I x3)] []) {x1 : Int32} {x2 : Int32} {x3 : Int32} {t0 : Option Nat} {t1 : Int32} {t2 : Int32} {t3 : Int32} {M : z_Mem} (ha : z_ki M a = 13) (f_t0 : z_tr M t0 20) (hP : P_X12_leaves_137 a Post J33 x1 x2 x3 t0 t1 t2 t3 M) : z_V G Y_X12_leaves z_X0 M0 (z_QM G M0 (z_PV Post)) M 137 [(0, z_O (some a)), (1, z_I x1), (2, z_I x2), (3, z_I x3)] [z_I t3, z_I t2, z_I t1, z_O t0] := by
  unfold P_X12_leaves_137 at hP
  refine z_iadd dX12_leaves_137 ?_
  obtain ⟨a2, e2, hP⟩ := hP
  have k2 := f_t0 a2 e2
  obtain ⟨i3, hP⟩ := hP
  refine z_iast e2 k2 i3 dX12_leaves_138 ?_
  refine z_nm (fun M_4 g_4 => ?_)
  replace hP := hP M_4 g_4
  have q_4 := z_k3 g_4
  have ha := z_kk q_4 ha
  refine z_aload_n dX12_leaves_139 rfl 0 rfl ?_
  refine z_dup dX12_leaves_140 rfl ?_
  refine z_geti (c := 12) (k := 18) (g := 1554) z_cb12 (Nat.le_of_ble_eq_true rfl) (Nat.le_of_ble_eq_true rfl) rfl (Nat.le_of_ble_eq_true rfl) zw_1273 rfl ha dX12_leaves_141 ?_
  refine z_iconst (v := 1) dX12_leaves_144 (by decide) ?_
  refine z_pc (pc' := 145) rfl ?_
  refine z_iadd dX12_leaves_145 ?_
  refine z_puti (c := 12) (k := 18) (g := 1554) z_cb12 (Nat.le_of_ble_eq_true rfl) (Nat.le_of_ble_eq_true rfl) (Nat.le_of_ble_eq_true rfl) rfl rfl rfl zw_1273 rfl ha (Or.inl rfl) dX12_leaves_146 ?_
  refine z_nm (fun M_6 g_6 => ?_)
  replace hP := hP M_6 g_6
  have q_6 := z_k1 g_6
  have ha := z_kk q_6 ha
  refine z_sub (lv' := [(0, z_O _), (1, z_I _), (2, z_I _), (3, z_I _)]) [0, 1, 2, 3] rfl ?_
  exact v_X12_leaves_149 hJ33 ha hP
set_option maxRecDepth 100000 in
set_option maxHeartbeats 4000000 in
theorem v_X12_leaves_90 {G : z_G} {M0 : z_Mem} {a : Nat} {Post : z_Mem → Prop} {J33 : Int32 → Int32 → Int32 → z_Mem → Prop} (hJ33 : ∀ (x1 : Int32) (x2 : Int32) (x3 : Int32) (M : z_Mem), (z_ki M a = 13) → J33 x1 x2 x3 M → z_V G Y_X12_leaves z_X0 M0 (z_QM G M0 (z_PV Post)) M 33 [(0, z_O (some a)), (1, z_I x1), (2, z_I x2), (3, z_I x3)] []) {x1 : Int32} {x2 : Int32} {x3 : Int32} {x4 : Int32} {x5 : Int32} {t0 : Option Nat} {t1 : Int32} {t2 : Int32} {t3 : Int32} {M : z_Mem} (ha : z_ki M a = 13) (f_x5 : x5 = 0 ∨ x5 = 1) (f_t0 : z_tr M t0 20) (f_t3 : t3 = 0 ∨ t3 = 1) (hP : P_X12_leaves_90 a Post J33 x1 x2 x3 x4 x5 t0 t1 t2 t3 M) : z_V G Y_X12_leaves z_X0 M0 (z_QM G M0 (z_PV Post)) M 90 [(0, z_O (some a)), (1, z_I x1), (2, z_I x2), (3, z_I x3), (4, z_I x4), (5, z_I x5)] [z_I t3, z_I t2, z_I t1, z_O t0] := by
  unfold P_X12_leaves_90 at hP
  refine z_isub dX12_leaves_90 ?_
  obtain ⟨a7, e7, hP⟩ := hP
  have k7 := f_t0 a7 e7
  obtain ⟨i8, hP⟩ := hP
  refine z_iast e7 k7 i8 dX12_leaves_91 ?_
  refine z_nm (fun M_9 g_9 => ?_)
  replace hP := hP M_9 g_9
  have q_9 := z_k3 g_9
  have ha := z_kk q_9 ha
  refine z_aload_n dX12_leaves_92 rfl 0 rfl ?_
  refine z_getr (c := 12) (k := 16) (g := 1552) (t := 20) z_cb12 (Nat.le_of_ble_eq_true rfl) (Nat.le_of_ble_eq_true rfl) rfl rfl zw_1271 rfl ha dX12_leaves_93 (fun f10 => ?_)
  refine z_aload_n dX12_leaves_96 rfl 0 rfl ?_
  refine z_geti (c := 12) (k := 18) (g := 1554) z_cb12 (Nat.le_of_ble_eq_true rfl) (Nat.le_of_ble_eq_true rfl) rfl (Nat.le_of_ble_eq_true rfl) zw_1273 rfl ha dX12_leaves_97 ?_
  refine z_pc (pc' := 100) rfl ?_
  refine z_iload dX12_leaves_100 4 rfl ?_
  obtain ⟨a12, e12, hP⟩ := hP
  have k12 := f10 a12 e12
  obtain ⟨i13, hP⟩ := hP
  refine z_iast e12 k12 i13 dX12_leaves_102 ?_
  refine z_nm (fun M_14 g_14 => ?_)
  replace hP := hP M_14 g_14
  have q_14 := z_k3 g_14
  have ha := z_kk q_14 ha
  refine z_aload_n dX12_leaves_103 rfl 0 rfl ?_
  refine z_getr (c := 12) (k := 17) (g := 1553) (t := 20) z_cb12 (Nat.le_of_ble_eq_true rfl) (Nat.le_of_ble_eq_true rfl) rfl rfl zw_1272 rfl ha dX12_leaves_104 (fun f15 => ?_)
  refine z_aload_n dX12_leaves_107 rfl 0 rfl ?_
  refine z_geti (c := 12) (k := 18) (g := 1554) z_cb12 (Nat.le_of_ble_eq_true rfl) (Nat.le_of_ble_eq_true rfl) rfl (Nat.le_of_ble_eq_true rfl) zw_1273 rfl ha dX12_leaves_108 ?_
  refine z_pc (pc' := 111) rfl ?_
  refine z_aload_n dX12_leaves_111 rfl 0 rfl ?_
  refine z_geti (c := 12) (k := 0) (g := 1536) z_cb12 (Nat.le_of_ble_eq_true rfl) (Nat.le_of_ble_eq_true rfl) rfl (Nat.le_of_ble_eq_true rfl) zw_1255 rfl ha dX12_leaves_112 ?_
  refine z_aload_n dX12_leaves_115 rfl 0 rfl ?_
  refine z_getr (c := 12) (k := 1) (g := 1537) (t := 20) z_cb12 (Nat.le_of_ble_eq_true rfl) (Nat.le_of_ble_eq_true rfl) rfl rfl zw_1256 rfl ha dX12_leaves_116 (fun f18 => ?_)
  refine z_iload_n dX12_leaves_119 rfl 1 rfl ?_
  obtain ⟨a19, e19, hP⟩ := hP
  have k19 := f18 a19 e19
  obtain ⟨i20, hP⟩ := hP
  refine z_iald e19 k19 i20 dX12_leaves_120 ?_
  refine z_pc (pc' := 121) rfl ?_
  refine z_iadd dX12_leaves_121 ?_
  refine z_iload dX12_leaves_122 5 rfl ?_
  refine z_if_eq (tgt := 136) dX12_leaves_124 (by decide) (fun h21 => ?_) (fun h21 => ?_)
  · replace hP := hP.1 h21
    refine z_iconst (v := 0) dX12_leaves_136 (by decide) ?_
    refine z_sub (lv' := [(0, z_O _), (1, z_I _), (2, z_I _), (3, z_I _)]) [0, 1, 2, 3] rfl ?_
    exact v_X12_leaves_137 hJ33 ha f15 hP
  · replace hP := hP.2 h21
    refine z_aload_n dX12_leaves_127 rfl 0 rfl ?_
    refine z_getr (c := 12) (k := 9) (g := 1545) (t := 20) z_cb12 (Nat.le_of_ble_eq_true rfl) (Nat.le_of_ble_eq_true rfl) rfl rfl zw_1264 rfl ha dX12_leaves_128 (fun f22 => ?_)
    refine z_iload_n dX12_leaves_131 rfl 1 rfl ?_
    obtain ⟨a23, e23, hP⟩ := hP
    have k23 := f22 a23 e23
    obtain ⟨i24, hP⟩ := hP
    refine z_iald e23 k23 i24 dX12_leaves_132 ?_
    refine z_pc (pc' := 133) rfl ?_
    refine z_goto (tgt := 137) dX12_leaves_133 (by decide) ?_
    refine z_sub (lv' := [(0, z_O _), (1, z_I _), (2, z_I _), (3, z_I _)]) [0, 1, 2, 3] rfl ?_
    exact v_X12_leaves_137 hJ33 ha f15 hP
set_option maxRecDepth 100000 in
set_option maxHeartbeats 4000000 in
theorem v_X12_leaves_71 {G : z_G} {M0 : z_Mem} {a : Nat} {Post : z_Mem → Prop} {J33 : Int32 → Int32 → Int32 → z_Mem → Prop} (hJ33 : ∀ (x1 : Int32) (x2 : Int32) (x3 : Int32) (M : z_Mem), (z_ki M a = 13) → J33 x1 x2 x3 M → z_V G Y_X12_leaves z_X0 M0 (z_QM G M0 (z_PV Post)) M 33 [(0, z_O (some a)), (1, z_I x1), (2, z_I x2), (3, z_I x3)] []) {x1 : Int32} {x2 : Int32} {x3 : Int32} {x4 : Int32} {t0 : Int32} {M : z_Mem} (ha : z_ki M a = 13) (f_t0 : t0 = 0 ∨ t0 = 1) (hP : P_X12_leaves_71 a Post J33 x1 x2 x3 x4 t0 M) : z_V G Y_X12_leaves z_X0 M0 (z_QM G M0 (z_PV Post)) M 71 [(0, z_O (some a)), (1, z_I x1), (2, z_I x2), (3, z_I x3), (4, z_I x4)] [z_I t0] := by
  unfold P_X12_leaves_71 at hP
  refine z_istore (lv' := [(5, z_I _), (0, z_O _), (1, z_I _), (2, z_I _), (3, z_I _), (4, z_I _)]) dX12_leaves_71 (Nat.le_of_ble_eq_true rfl) rfl ?_
  refine z_aload_n dX12_leaves_73 rfl 1 rfl ?_
  refine z_getr (c := 12) (k := 8) (g := 1544) (t := 20) z_cb12 (Nat.le_of_ble_eq_true rfl) (Nat.le_of_ble_eq_true rfl) rfl rfl zw_1263 rfl ha dX12_leaves_74 (fun f25 => ?_)
  refine z_iload_n dX12_leaves_77 rfl 2 rfl ?_
  refine z_dup2 dX12_leaves_78 rfl rfl ?_
  obtain ⟨a26, e26, hP⟩ := hP
  have k26 := f25 a26 e26
  obtain ⟨i27, hP⟩ := hP
  refine z_iald e26 k26 i27 dX12_leaves_79 ?_
  refine z_pc (pc' := 80) rfl ?_
  refine z_iload dX12_leaves_80 0 rfl ?_
  refine z_if_eq (tgt := 89) dX12_leaves_82 (by decide) (fun h28 => ?_) (fun h28 => ?_)
  · replace hP := hP.1 h28
    refine z_iconst (v := 0) dX12_leaves_89 (by decide) ?_
    refine z_sub (lv' := [(0, z_O _), (1, z_I _), (2, z_I _), (3, z_I _), (4, z_I _), (5, z_I _)]) [1, 2, 3, 4, 5, 0] rfl ?_
    exact v_X12_leaves_90 hJ33 ha f_t0 (z_trn e26 k26) (Or.inl rfl) hP
  · replace hP := hP.2 h28
    refine z_iconst (v := 1) dX12_leaves_85 (by decide) ?_
    refine z_goto (tgt := 90) dX12_leaves_86 (by decide) ?_
    refine z_sub (lv' := [(0, z_O _), (1, z_I _), (2, z_I _), (3, z_I _), (4, z_I _), (5, z_I _)]) [1, 2, 3, 4, 5, 0] rfl ?_
    exact v_X12_leaves_90 hJ33 ha f_t0 (z_trn e26 k26) (Or.inr rfl) hP
set_option maxRecDepth 100000 in
set_option maxHeartbeats 4000000 in
theorem v_X12_leaves_157 {G : z_G} {M0 : z_Mem} {a : Nat} {Post : z_Mem → Prop}   : ∀ (n : Nat) {x1 : Int32} {x2 : Int32} {x3 : Int32} {M : z_Mem}, (z_ki M a = 13) → P_X12_leaves_157 a Post n x1 x2 x3 M → z_V G Y_X12_leaves z_X0 M0 (z_QM G M0 (z_PV Post)) M 157 [(0, z_O (some a)), (1, z_I x1), (2, z_I x2), (3, z_I x3)] [] := by
  intro n
  induction n with
  | zero => intro x1 x2 x3 M ha hP; exact False.elim hP
  | succ n ih =>
    intro x1 x2 x3 M ha hP
    unfold P_X12_leaves_157 at hP
    refine z_iload_n dX12_leaves_157 rfl 3 rfl ?_
    refine z_aload_n dX12_leaves_158 rfl 0 rfl ?_
    refine z_getr (c := 12) (k := 11) (g := 1547) (t := 20) z_cb12 (Nat.le_of_ble_eq_true rfl) (Nat.le_of_ble_eq_true rfl) rfl rfl zw_1266 rfl ha dX12_leaves_159 (fun f29 => ?_)
    refine z_iload_n dX12_leaves_162 rfl 1 rfl ?_
    obtain ⟨a30, e30, hP⟩ := hP
    have k30 := f29 a30 e30
    obtain ⟨i31, hP⟩ := hP
    refine z_iald e30 k30 i31 dX12_leaves_163 ?_
    refine z_icmp_ge (tgt := 197) dX12_leaves_164 (by decide) (fun h32 => ?_) (fun h32 => ?_)
    · replace hP := hP.1 h32
      refine z_aload_n dX12_leaves_197 rfl 0 rfl ?_
      refine z_pc (pc' := 198) rfl ?_
      refine z_getr (c := 12) (k := 11) (g := 1547) (t := 20) z_cb12 (Nat.le_of_ble_eq_true rfl) (Nat.le_of_ble_eq_true rfl) rfl rfl zw_1266 rfl ha dX12_leaves_198 (fun f33 => ?_)
      refine z_iload_n dX12_leaves_201 rfl 1 rfl ?_
      refine z_dup2 dX12_leaves_202 rfl rfl ?_
      obtain ⟨a34, e34, hP⟩ := hP
      have k34 := f33 a34 e34
      obtain ⟨i35, hP⟩ := hP
      refine z_iald e34 k34 i35 dX12_leaves_203 ?_
      refine z_iload_n dX12_leaves_204 rfl 2 rfl ?_
      refine z_isub dX12_leaves_205 ?_
      refine z_pc (pc' := 206) rfl ?_
      obtain ⟨i36, hP⟩ := hP
      refine z_iast e34 k34 i36 dX12_leaves_206 ?_
      refine z_nm (fun M_37 g_37 => ?_)
      replace hP := hP M_37 g_37
      have q_37 := z_k3 g_37
      have ha := z_kk q_37 ha
      exact z_retv rfl dX12_leaves_207 hP
    · replace hP := hP.2 h32
      refine z_aload_n dX12_leaves_167 rfl 0 rfl ?_
      refine z_pc (pc' := 168) rfl ?_
      refine z_getr (c := 12) (k := 10) (g := 1546) (t := 20) z_cb12 (Nat.le_of_ble_eq_true rfl) (Nat.le_of_ble_eq_true rfl) rfl rfl zw_1265 rfl ha dX12_leaves_168 (fun f38 => ?_)
      refine z_bipush (v := 30) dX12_leaves_171 (by decide) ?_
      refine z_iload_n dX12_leaves_173 rfl 1 rfl ?_
      refine z_imul dX12_leaves_174 ?_
      refine z_iload_n dX12_leaves_175 rfl 3 rfl ?_
      refine z_iadd dX12_leaves_176 ?_
      refine z_pc (pc' := 177) rfl ?_
      refine z_iload_n dX12_leaves_177 rfl 2 rfl ?_
      refine z_isub dX12_leaves_178 ?_
      refine z_aload_n dX12_leaves_179 rfl 0 rfl ?_
      refine z_getr (c := 12) (k := 10) (g := 1546) (t := 20) z_cb12 (Nat.le_of_ble_eq_true rfl) (Nat.le_of_ble_eq_true rfl) rfl rfl zw_1265 rfl ha dX12_leaves_180 (fun f39 => ?_)
      refine z_bipush (v := 30) dX12_leaves_183 (by decide) ?_
      refine z_iload_n dX12_leaves_185 rfl 1 rfl ?_
      refine z_pc (pc' := 186) rfl ?_
      refine z_imul dX12_leaves_186 ?_
      refine z_iload_n dX12_leaves_187 rfl 3 rfl ?_
      refine z_iadd dX12_leaves_188 ?_
      obtain ⟨a40, e40, hP⟩ := hP
      have k40 := f39 a40 e40
      obtain ⟨i41, hP⟩ := hP
      refine z_iald e40 k40 i41 dX12_leaves_189 ?_
      obtain ⟨a42, e42, hP⟩ := hP
      have k42 := f38 a42 e42
      obtain ⟨i43, hP⟩ := hP
      refine z_iast e42 k42 i43 dX12_leaves_190 ?_
      refine z_nm (fun M_44 g_44 => ?_)
      replace hP := hP M_44 g_44
      have q_44 := z_k3 g_44
      have ha := z_kk q_44 ha
      refine z_iincN (j := 3) (m := 1) (lv' := fun v => [(3, z_I v), (0, z_O _), (1, z_I _), (2, z_I _)]) dX12_leaves_191 rfl (by decide) (Nat.le_of_ble_eq_true rfl) (fun _ => rfl) (fun x_45 y_45 => ?_)
      replace hP := hP x_45 y_45
      refine z_pc (pc' := 194) rfl ?_
      refine z_goto (tgt := 157) dX12_leaves_194 (by decide) ?_
      refine z_sub (lv' := [(0, z_O _), (1, z_I _), (2, z_I _), (3, z_I _)]) [1, 2, 3, 0] rfl ?_
      exact ih ha hP
set_option maxRecDepth 100000 in
set_option maxHeartbeats 4000000 in
theorem v_X12_leaves_33 {G : z_G} {M0 : z_Mem} {a : Nat} {Post : z_Mem → Prop}   : ∀ (n : Nat) {x1 : Int32} {x2 : Int32} {x3 : Int32} {M : z_Mem}, (z_ki M a = 13) → P_X12_leaves_33 a Post n x1 x2 x3 M → z_V G Y_X12_leaves z_X0 M0 (z_QM G M0 (z_PV Post)) M 33 [(0, z_O (some a)), (1, z_I x1), (2, z_I x2), (3, z_I x3)] [] := by
  intro n
  induction n with
  | zero => intro x1 x2 x3 M ha hP; exact False.elim hP
  | succ n ih =>
    intro x1 x2 x3 M ha hP
    unfold P_X12_leaves_33 at hP
    refine z_iload_n dX12_leaves_33 rfl 3 rfl ?_
    refine z_iload_n dX12_leaves_34 rfl 2 rfl ?_
    refine z_icmp_ge (tgt := 155) dX12_leaves_35 (by decide) (fun h46 => ?_) (fun h46 => ?_)
    · replace hP := hP.1 h46
      refine z_iload_n dX12_leaves_155 rfl 2 rfl ?_
      refine z_istore_n (lv' := [(3, z_I _), (0, z_O _), (1, z_I _), (2, z_I _)]) dX12_leaves_156 rfl (Nat.le_of_ble_eq_true rfl) rfl ?_
      obtain ⟨n47, hP⟩ := hP
      refine z_sub (lv' := [(0, z_O _), (1, z_I _), (2, z_I _), (3, z_I _)]) [1, 2, 3, 0] rfl ?_
      exact v_X12_leaves_157  n47 ha hP
    · replace hP := hP.2 h46
      refine z_aload_n dX12_leaves_38 rfl 0 rfl ?_
      refine z_getr (c := 12) (k := 10) (g := 1546) (t := 20) z_cb12 (Nat.le_of_ble_eq_true rfl) (Nat.le_of_ble_eq_true rfl) rfl rfl zw_1265 rfl ha dX12_leaves_39 (fun f48 => ?_)
      refine z_bipush (v := 30) dX12_leaves_42 (by decide) ?_
      refine z_iload_n dX12_leaves_44 rfl 1 rfl ?_
      refine z_pc (pc' := 45) rfl ?_
      refine z_imul dX12_leaves_45 ?_
      refine z_iload_n dX12_leaves_46 rfl 3 rfl ?_
      refine z_iadd dX12_leaves_47 ?_
      obtain ⟨a49, e49, hP⟩ := hP
      have k49 := f48 a49 e49
      obtain ⟨i50, hP⟩ := hP
      refine z_iald e49 k49 i50 dX12_leaves_48 ?_
      refine z_topi (fun x_51 y_51 => ?_)
      replace hP := hP x_51 y_51
      refine z_istore (lv' := [(4, z_I _), (0, z_O _), (1, z_I _), (2, z_I _), (3, z_I _)]) dX12_leaves_49 (Nat.le_of_ble_eq_true rfl) rfl ?_
      refine z_iload dX12_leaves_51 0 rfl ?_
      refine z_pc (pc' := 53) rfl ?_
      refine z_iconst (v := (-1)) dX12_leaves_53 (by decide) ?_
      refine z_icmp_eq (tgt := 149) dX12_leaves_54 (by decide) (fun h52 => ?_) (fun h52 => ?_)
      · replace hP := hP.1 h52
        refine z_sub (lv' := [(0, z_O _), (1, z_I _), (2, z_I _), (3, z_I _)]) [1, 2, 3, 4] rfl ?_
        exact v_X12_leaves_149 (fun _ _ _ _ w0 hP => ih w0 hP) ha hP
      · replace hP := hP.2 h52
        refine z_aload_n dX12_leaves_57 rfl 1 rfl ?_
        refine z_getr (c := 12) (k := 8) (g := 1544) (t := 20) z_cb12 (Nat.le_of_ble_eq_true rfl) (Nat.le_of_ble_eq_true rfl) rfl rfl zw_1263 rfl ha dX12_leaves_58 (fun f53 => ?_)
        refine z_iload_n dX12_leaves_61 rfl 2 rfl ?_
        obtain ⟨a54, e54, hP⟩ := hP
        have k54 := f53 a54 e54
        obtain ⟨i55, hP⟩ := hP
        refine z_iald e54 k54 i55 dX12_leaves_62 ?_
        refine z_if_le (tgt := 70) dX12_leaves_63 (by decide) (fun h56 => ?_) (fun h56 => ?_)
        · replace hP := hP.1 h56
          refine z_iconst (v := 0) dX12_leaves_70 (by decide) ?_
          refine z_sub (lv' := [(0, z_O _), (1, z_I _), (2, z_I _), (3, z_I _), (4, z_I _)]) [1, 2, 3, 4, 0] rfl ?_
          exact v_X12_leaves_71 (fun _ _ _ _ w0 hP => ih w0 hP) ha (Or.inl rfl) hP
        · replace hP := hP.2 h56
          refine z_iconst (v := 1) dX12_leaves_66 (by decide) ?_
          refine z_pc (pc' := 67) rfl ?_
          refine z_goto (tgt := 71) dX12_leaves_67 (by decide) ?_
          refine z_sub (lv' := [(0, z_O _), (1, z_I _), (2, z_I _), (3, z_I _), (4, z_I _)]) [1, 2, 3, 4, 0] rfl ?_
          exact v_X12_leaves_71 (fun _ _ _ _ w0 hP => ih w0 hP) ha (Or.inr rfl) hP
set_option maxRecDepth 100000 in
set_option maxHeartbeats 4000000 in
theorem v_X12_leaves_30 {G : z_G} {M0 : z_Mem} {a : Nat} {Post : z_Mem → Prop}   {x1 : Int32} {t0 : Int32} {M : z_Mem} (ha : z_ki M a = 13) (hP : P_X12_leaves_30 a Post x1 t0 M) : z_V G Y_X12_leaves z_X0 M0 (z_QM G M0 (z_PV Post)) M 30 [(0, z_O (some a)), (1, z_I x1)] [z_I t0] := by
  unfold P_X12_leaves_30 at hP
  refine z_istore_n (lv' := [(2, z_I _), (0, z_O _), (1, z_I _)]) dX12_leaves_30 rfl (Nat.le_of_ble_eq_true rfl) rfl ?_
  refine z_iconst (v := 0) dX12_leaves_31 (by decide) ?_
  refine z_istore_n (lv' := [(3, z_I _), (2, z_I _), (0, z_O _), (1, z_I _)]) dX12_leaves_32 rfl (Nat.le_of_ble_eq_true rfl) rfl ?_
  obtain ⟨n57, hP⟩ := hP
  refine z_sub (lv' := [(0, z_O _), (1, z_I _), (2, z_I _), (3, z_I _)]) [2, 3, 1, 0] rfl ?_
  exact v_X12_leaves_33  n57 ha hP
set_option maxRecDepth 100000 in
set_option maxHeartbeats 4000000 in
theorem s_X12_leaves {G : z_G} {M : z_Mem} {a : Nat} {p1 : Int32} {Post : z_Mem → Prop} (ha : z_ki M a = 13) (hP : P_X12_leaves a p1 M Post) : z_Mt G Y_X12_leaves M [z_O (some a), z_I p1] (z_PV Post) := by
  refine z_ofV (by decide) (Nat.le_of_ble_eq_true rfl) ?_
  unfold P_X12_leaves at hP
  refine z_sub (lv' := [(0, z_O (some a)), (1, z_I p1)]) [0, 1] rfl ?_
  refine z_aload_n dX12_leaves_0 rfl 0 rfl ?_
  refine z_getr (c := 12) (k := 11) (g := 1547) (t := 20) z_cb12 (Nat.le_of_ble_eq_true rfl) (Nat.le_of_ble_eq_true rfl) rfl rfl zw_1266 rfl ha dX12_leaves_1 (fun f58 => ?_)
  refine z_iload_n dX12_leaves_4 rfl 1 rfl ?_
  obtain ⟨a59, e59, hP⟩ := hP
  have k59 := f58 a59 e59
  obtain ⟨i60, hP⟩ := hP
  refine z_iald e59 k59 i60 dX12_leaves_5 ?_
  refine z_aload_n dX12_leaves_6 rfl 0 rfl ?_
  refine z_getr (c := 12) (k := 2) (g := 1538) (t := 20) z_cb12 (Nat.le_of_ble_eq_true rfl) (Nat.le_of_ble_eq_true rfl) rfl rfl zw_1257 rfl ha dX12_leaves_7 (fun f61 => ?_)
  refine z_pc (pc' := 10) rfl ?_
  refine z_iload_n dX12_leaves_10 rfl 1 rfl ?_
  obtain ⟨a62, e62, hP⟩ := hP
  have k62 := f61 a62 e62
  obtain ⟨i63, hP⟩ := hP
  refine z_iald e62 k62 i63 dX12_leaves_11 ?_
  refine z_icmp_ge (tgt := 24) dX12_leaves_12 (by decide) (fun h64 => ?_) (fun h64 => ?_)
  · replace hP := hP.1 h64
    refine z_aload_n dX12_leaves_24 rfl 0 rfl ?_
    refine z_getr (c := 12) (k := 2) (g := 1538) (t := 20) z_cb12 (Nat.le_of_ble_eq_true rfl) (Nat.le_of_ble_eq_true rfl) rfl rfl zw_1257 rfl ha dX12_leaves_25 (fun f65 => ?_)
    refine z_iload_n dX12_leaves_28 rfl 1 rfl ?_
    obtain ⟨a66, e66, hP⟩ := hP
    have k66 := f65 a66 e66
    obtain ⟨i67, hP⟩ := hP
    refine z_iald e66 k66 i67 dX12_leaves_29 ?_
    refine z_sub (lv' := [(0, z_O _), (1, z_I _)]) [0, 1] rfl ?_
    exact v_X12_leaves_30  ha hP
  · replace hP := hP.2 h64
    refine z_aload_n dX12_leaves_15 rfl 0 rfl ?_
    refine z_getr (c := 12) (k := 11) (g := 1547) (t := 20) z_cb12 (Nat.le_of_ble_eq_true rfl) (Nat.le_of_ble_eq_true rfl) rfl rfl zw_1266 rfl ha dX12_leaves_16 (fun f68 => ?_)
    refine z_iload_n dX12_leaves_19 rfl 1 rfl ?_
    obtain ⟨a69, e69, hP⟩ := hP
    have k69 := f68 a69 e69
    obtain ⟨i70, hP⟩ := hP
    refine z_iald e69 k69 i70 dX12_leaves_20 ?_
    refine z_pc (pc' := 21) rfl ?_
    refine z_goto (tgt := 30) dX12_leaves_21 (by decide) ?_
    refine z_sub (lv' := [(0, z_O _), (1, z_I _)]) [0, 1] rfl ?_
    exact v_X12_leaves_30  ha hP
set_option maxRecDepth 100000 in
def P_X12_gotOf_2 (a : Nat) (Post : Int32 → z_Mem → Prop)  : Nat → Int32 → Int32 → z_Mem → Prop
  | 0, _, _, _ => False
  | n + 1, x1, x2, M => ((200 ≤ x2 → Post x2 M) ∧ (¬ 200 ≤ x2 → z_nn (z_fr M 1570 a) fun a3 => (vp_in ((200 * x1) + x2) (z_ln M a3) ∧ ((((z_ai M a3 ((((200 * x1) + x2) : Int32).toNatClampNeg)) = 0 → Post x2 M) ∧ (¬ (z_ai M a3 ((((200 * x1) + x2) : Int32).toNatClampNeg)) = 0 → ∀ x_6 : Int32, x_6 = x2 + 1 → (P_X12_gotOf_2 a Post n x1 x_6 M)))))))
set_option maxRecDepth 100000 in
def P_X12_gotOf (a : Nat) (p1 : Int32) (M : z_Mem) (Post : Int32 → z_Mem → Prop) : Prop := (∃ n7 : Nat, P_X12_gotOf_2 a Post n7 p1 0 M)
set_option maxRecDepth 100000 in
set_option maxHeartbeats 4000000 in
theorem v_X12_gotOf_2 {G : z_G} {M0 : z_Mem} {a : Nat} {Post : Int32 → z_Mem → Prop}   : ∀ (n : Nat) {x1 : Int32} {x2 : Int32} {M : z_Mem}, (z_ki M a = 13) → P_X12_gotOf_2 a Post n x1 x2 M → z_V G Y_X12_gotOf z_X0 M0 (z_QM G M0 (z_PI Post)) M 2 [(0, z_O (some a)), (1, z_I x1), (2, z_I x2)] [] := by
  intro n
  induction n with
  | zero => intro x1 x2 M ha hP; exact False.elim hP
  | succ n ih =>
    intro x1 x2 M ha hP
    unfold P_X12_gotOf_2 at hP
    refine z_iload_n dX12_gotOf_2 rfl 2 rfl ?_
    refine z_sipush (v := 200) dX12_gotOf_3 (by decide) ?_
    refine z_icmp_ge (tgt := 30) dX12_gotOf_6 (by decide) (fun h1 => ?_) (fun h1 => ?_)
    · replace hP := hP.1 h1
      refine z_iload_n dX12_gotOf_30 rfl 2 rfl ?_
      exact z_reti rfl dX12_gotOf_31 hP
    · replace hP := hP.2 h1
      refine z_aload_n dX12_gotOf_9 rfl 0 rfl ?_
      refine z_getr (c := 12) (k := 34) (g := 1570) (t := 21) z_cb12 (Nat.le_of_ble_eq_true rfl) (Nat.le_of_ble_eq_true rfl) rfl rfl zw_1289 rfl ha dX12_gotOf_10 (fun f2 => ?_)
      refine z_sipush (v := 200) dX12_gotOf_13 (by decide) ?_
      refine z_iload_n dX12_gotOf_16 rfl 1 rfl ?_
      refine z_pc (pc' := 17) rfl ?_
      refine z_imul dX12_gotOf_17 ?_
      refine z_iload_n dX12_gotOf_18 rfl 2 rfl ?_
      refine z_iadd dX12_gotOf_19 ?_
      obtain ⟨a3, e3, hP⟩ := hP
      have k3 := f2 a3 e3
      obtain ⟨i4, hP⟩ := hP
      refine z_zald e3 k3 i4 dX12_gotOf_20 (fun b4 => ?_)
      refine z_if_eq (tgt := 30) dX12_gotOf_21 (by decide) (fun h5 => ?_) (fun h5 => ?_)
      · replace hP := hP.1 h5
        refine z_iload_n dX12_gotOf_30 rfl 2 rfl ?_
        exact z_reti rfl dX12_gotOf_31 hP
      · replace hP := hP.2 h5
        refine z_iincN (j := 2) (m := 1) (lv' := fun v => [(2, z_I v), (0, z_O _), (1, z_I _)]) dX12_gotOf_24 rfl (by decide) (Nat.le_of_ble_eq_true rfl) (fun _ => rfl) (fun x_6 y_6 => ?_)
        replace hP := hP x_6 y_6
        refine z_goto (tgt := 2) dX12_gotOf_27 (by decide) ?_
        refine z_sub (lv' := [(0, z_O _), (1, z_I _), (2, z_I _)]) [1, 2, 0] rfl ?_
        exact ih ha hP
set_option maxRecDepth 100000 in
set_option maxHeartbeats 4000000 in
theorem s_X12_gotOf {G : z_G} {M : z_Mem} {a : Nat} {p1 : Int32} {Post : Int32 → z_Mem → Prop} (ha : z_ki M a = 13) (hP : P_X12_gotOf a p1 M Post) : z_Mt G Y_X12_gotOf M [z_O (some a), z_I p1] (z_PI Post) := by
  refine z_ofV (by decide) (Nat.le_of_ble_eq_true rfl) ?_
  unfold P_X12_gotOf at hP
  refine z_sub (lv' := [(0, z_O (some a)), (1, z_I p1)]) [0, 1] rfl ?_
  refine z_iconst (v := 0) dX12_gotOf_0 (by decide) ?_
  refine z_istore_n (lv' := [(2, z_I _), (0, z_O _), (1, z_I _)]) dX12_gotOf_1 rfl (Nat.le_of_ble_eq_true rfl) rfl ?_
  obtain ⟨n7, hP⟩ := hP
  refine z_sub (lv' := [(0, z_O _), (1, z_I _), (2, z_I _)]) [1, 2, 0] rfl ?_
  exact v_X12_gotOf_2  n7 ha hP
def P_X12_acknowledges_86 (a : Nat) (Post : z_Mem → Prop) (J14 : Int32 → Int32 → Int32 → z_Mem → Prop) (x1 : Int32) (x2 : Int32) (x3 : Int32) (M : z_Mem) : Prop := ∀ x_1 : Int32, x_1 = x3 + (-1) → (J14 x1 x2 x_1 M)
def P_X12_acknowledges_56 (a : Nat) (Post : z_Mem → Prop) (J14 : Int32 → Int32 → Int32 → z_Mem → Prop) (x1 : Int32) (x2 : Int32) (x3 : Int32) (x4 : Int32) (M : z_Mem) : Prop := z_nn (z_fr M 1560 a) fun a3 => (vp_in ((x1 + 1) + (2 * x2)) (z_ln M a3) ∧ (∀ M_5 : z_Mem, M_5 = z_sai M a3 ((((x1 + 1) + (2 * x2)) : Int32).toNatClampNeg) x3 → (z_nn (z_fr M_5 1560 a) fun a7 => (vp_in ((x1 + 2) + (2 * x2)) (z_ln M_5 a7) ∧ (∀ M_9 : z_Mem, M_9 = z_sai M_5 a7 ((((x1 + 2) + (2 * x2)) : Int32).toNatClampNeg) x4 → (∀ x_10 : Int32, x_10 = x2 + 1 → (P_X12_acknowledges_86 a Post J14 x1 x_10 x3 M_9)))))))
set_option maxRecDepth 100000 in
def P_X12_acknowledges_35 (a : Nat) (Post : z_Mem → Prop) (J14 : Int32 → Int32 → Int32 → z_Mem → Prop) : Nat → Int32 → Int32 → Int32 → Int32 → z_Mem → Prop
  | 0, _, _, _, _, _ => False
  | n + 1, x1, x2, x3, x4, M => ((x3 ≤ 0 → P_X12_acknowledges_56 a Post J14 x1 x2 x3 x4 M) ∧ (¬ x3 ≤ 0 → z_nn (z_fr M 1569 a) fun a13 => (vp_in (x3 - 1) (z_ln M a13) ∧ ((((z_ai M a13 (((x3 - 1) : Int32).toNatClampNeg)) = 0 → P_X12_acknowledges_56 a Post J14 x1 x2 x3 x4 M) ∧ (¬ (z_ai M a13 (((x3 - 1) : Int32).toNatClampNeg)) = 0 → ∀ x_16 : Int32, x_16 = x3 + (-1) → (P_X12_acknowledges_35 a Post J14 n x1 x2 x_16 x4 M)))))))
set_option maxRecDepth 100000 in
def P_X12_acknowledges_119 (a : Nat) (Post : z_Mem → Prop)  : Nat → Int32 → Int32 → Int32 → z_Mem → Prop
  | 0, _, _, _, _ => False
  | n + 1, x1, x4, x5, M => ((4 ≤ x5 → z_nn (z_fr M 1560 a) fun a19 => (vp_in (x1 + 14) (z_ln M a19) ∧ (∀ M_21 : z_Mem, M_21 = z_sai M a19 (((x1 + 14) : Int32).toNatClampNeg) x4 → (∀ M_23 : z_Mem, M_23 = z_sfi M_21 1561 a ((z_fi M_21 1561 a) + 1) → (z_nn (z_fr M_23 1629 a) fun a25 => (vp_in 4 (z_ln M_23 a25) ∧ (vp_in 4 (z_ln M_23 a25) ∧ (∀ M_28 : z_Mem, M_28 = z_sai M_23 a25 ((4 : Int32).toNatClampNeg) ((z_ai M_23 a25 ((4 : Int32).toNatClampNeg)) + 1) → (∀ M_29 : z_Mem, M_29 = z_sfi M_28 1573 a 0 → (∀ M_30 : z_Mem, M_30 = z_sfi M_29 1574 a (-1) → (P_X12_answers a (z_fi M_30 1575 a) 7 ((z_fi M_30 1561 a) - 1) M_30 fun M_33 => (Post M_33)))))))))))) ∧ (¬ 4 ≤ x5 → z_nn (z_fr M 1571 a) fun a36 => (vp_in x5 (z_ln M a36) ∧ (z_nn (z_fr M 1560 a) fun a38 => (vp_in ((x1 + 10) + x5) (z_ln M a38) ∧ (∀ M_40 : z_Mem, M_40 = z_sai M a38 ((((x1 + 10) + x5) : Int32).toNatClampNeg) ((z_ai M a36 ((x5 : Int32).toNatClampNeg)) + 40) → (z_nn (z_fr M_40 1571 a) fun a42 => (vp_in x5 (z_ln M_40 a42) ∧ (∀ x_44 : Int32, x_44 = (x4 + (z_ai M_40 a42 ((x5 : Int32).toNatClampNeg))) → (∀ x_45 : Int32, x_45 = x5 + 1 → (P_X12_acknowledges_119 a Post n x1 x_44 x_45 M_40)))))))))))
def P_X12_acknowledges_92 (a : Nat) (Post : z_Mem → Prop)  (x1 : Int32) (x2 : Int32) (M : z_Mem) : Prop := z_nn (z_fr M 1560 a) fun a47 => (vp_in x1 (z_ln M a47) ∧ (∀ M_49 : z_Mem, M_49 = z_sai M a47 ((x1 : Int32).toNatClampNeg) x2 → (z_nn (z_fr M_49 1560 a) fun a52 => (vp_in (x1 + 9) (z_ln M_49 a52) ∧ (∀ M_54 : z_Mem, M_54 = z_sai M_49 a52 (((x1 + 9) : Int32).toNatClampNeg) (z_fi M_49 1576 a) → ((∃ n55 : Nat, P_X12_acknowledges_119 a Post n55 x1 100 0 M_54)))))))
set_option maxRecDepth 100000 in
def P_X12_acknowledges_14 (a : Nat) (Post : z_Mem → Prop)  : Nat → Int32 → Int32 → Int32 → z_Mem → Prop
  | 0, _, _, _, _ => False
  | n + 1, x1, x2, x3, M => ((x3 < 0 → P_X12_acknowledges_92 a Post x1 x2 M) ∧ (¬ x3 < 0 → ((4 ≤ x2 → P_X12_acknowledges_92 a Post x1 x2 M) ∧ (¬ 4 ≤ x2 → z_nn (z_fr M 1569 a) fun a59 => (vp_in x3 (z_ln M a59) ∧ ((((z_ai M a59 ((x3 : Int32).toNatClampNeg)) = 0 → P_X12_acknowledges_86 a Post (fun q0 q1 q2 qM => P_X12_acknowledges_14 a Post n q0 q1 q2 qM) x1 x2 x3 M) ∧ (¬ (z_ai M a59 ((x3 : Int32).toNatClampNeg)) = 0 → (∃ n62 : Nat, P_X12_acknowledges_35 a Post (fun q0 q1 q2 qM => P_X12_acknowledges_14 a Post n q0 q1 q2 qM) n62 x1 x2 x3 x3 M)))))))))
set_option maxRecDepth 100000 in
def P_X12_acknowledges (a : Nat) (M : z_Mem) (Post : z_Mem → Prop) : Prop := ∀ x_64 : Int32, x_64 = (15 * (z_fi M 1561 a)) → ((∃ n65 : Nat, P_X12_acknowledges_14 a Post n65 x_64 0 399 M))
set_option maxRecDepth 100000 in
set_option maxHeartbeats 4000000 in
theorem v_X12_acknowledges_86 {G : z_G} {M0 : z_Mem} {a : Nat} {Post : z_Mem → Prop} {J14 : Int32 → Int32 → Int32 → z_Mem → Prop} (hJ14 : ∀ (x1 : Int32) (x2 : Int32) (x3 : Int32) (M : z_Mem), (z_ki M a = 13) → J14 x1 x2 x3 M → z_V G Y_X12_acknowledges z_X0 M0 (z_QM G M0 (z_PV Post)) M 14 [(0, z_O (some a)), (1, z_I x1), (2, z_I x2), (3, z_I x3)] []) {x1 : Int32} {x2 : Int32} {x3 : Int32} {M : z_Mem} (ha : z_ki M a = 13) (hP : P_X12_acknowledges_86 a Post J14 x1 x2 x3 M) : z_V G Y_X12_acknowledges z_X0 M0 (z_QM G M0 (z_PV Post)) M 86 [(0, z_O (some a)), (1, z_I x1), (2, z_I x2), (3, z_I x3)] [] := by
  unfold P_X12_acknowledges_86 at hP
  refine z_iincN (j := 3) (m := (-1)) (lv' := fun v => [(3, z_I v), (0, z_O _), (1, z_I _), (2, z_I _)]) dX12_acknowledges_86 rfl (by decide) (Nat.le_of_ble_eq_true rfl) (fun _ => rfl) (fun x_1 y_1 => ?_)
  replace hP := hP x_1 y_1
  refine z_goto (tgt := 14) dX12_acknowledges_89 (by decide) ?_
  refine z_sub (lv' := [(0, z_O _), (1, z_I _), (2, z_I _), (3, z_I _)]) [1, 2, 3, 0] rfl ?_
  exact hJ14 _ _ _ _ ha hP
set_option maxRecDepth 100000 in
set_option maxHeartbeats 4000000 in
theorem v_X12_acknowledges_56 {G : z_G} {M0 : z_Mem} {a : Nat} {Post : z_Mem → Prop} {J14 : Int32 → Int32 → Int32 → z_Mem → Prop} (hJ14 : ∀ (x1 : Int32) (x2 : Int32) (x3 : Int32) (M : z_Mem), (z_ki M a = 13) → J14 x1 x2 x3 M → z_V G Y_X12_acknowledges z_X0 M0 (z_QM G M0 (z_PV Post)) M 14 [(0, z_O (some a)), (1, z_I x1), (2, z_I x2), (3, z_I x3)] []) {x1 : Int32} {x2 : Int32} {x3 : Int32} {x4 : Int32} {M : z_Mem} (ha : z_ki M a = 13) (hP : P_X12_acknowledges_56 a Post J14 x1 x2 x3 x4 M) : z_V G Y_X12_acknowledges z_X0 M0 (z_QM G M0 (z_PV Post)) M 56 [(0, z_O (some a)), (1, z_I x1), (2, z_I x2), (3, z_I x3), (4, z_I x4)] [] := by
  unfold P_X12_acknowledges_56 at hP
  refine z_aload_n dX12_acknowledges_56 rfl 0 rfl ?_
  refine z_getr (c := 12) (k := 24) (g := 1560) (t := 20) z_cb12 (Nat.le_of_ble_eq_true rfl) (Nat.le_of_ble_eq_true rfl) rfl rfl zw_1279 rfl ha dX12_acknowledges_57 (fun f2 => ?_)
  refine z_iload_n dX12_acknowledges_60 rfl 1 rfl ?_
  refine z_iconst (v := 1) dX12_acknowledges_61 (by decide) ?_
  refine z_iadd dX12_acknowledges_62 ?_
  refine z_iconst (v := 2) dX12_acknowledges_63 (by decide) ?_
  refine z_pc (pc' := 64) rfl ?_
  refine z_iload_n dX12_acknowledges_64 rfl 2 rfl ?_
  refine z_imul dX12_acknowledges_65 ?_
  refine z_iadd dX12_acknowledges_66 ?_
  refine z_iload_n dX12_acknowledges_67 rfl 3 rfl ?_
  obtain ⟨a3, e3, hP⟩ := hP
  have k3 := f2 a3 e3
  obtain ⟨i4, hP⟩ := hP
  refine z_iast e3 k3 i4 dX12_acknowledges_68 ?_
  refine z_nm (fun M_5 g_5 => ?_)
  replace hP := hP M_5 g_5
  have q_5 := z_k3 g_5
  have ha := z_kk q_5 ha
  refine z_aload_n dX12_acknowledges_69 rfl 0 rfl ?_
  refine z_pc (pc' := 70) rfl ?_
  refine z_getr (c := 12) (k := 24) (g := 1560) (t := 20) z_cb12 (Nat.le_of_ble_eq_true rfl) (Nat.le_of_ble_eq_true rfl) rfl rfl zw_1279 rfl ha dX12_acknowledges_70 (fun f6 => ?_)
  refine z_iload_n dX12_acknowledges_73 rfl 1 rfl ?_
  refine z_iconst (v := 2) dX12_acknowledges_74 (by decide) ?_
  refine z_iadd dX12_acknowledges_75 ?_
  refine z_iconst (v := 2) dX12_acknowledges_76 (by decide) ?_
  refine z_iload_n dX12_acknowledges_77 rfl 2 rfl ?_
  refine z_pc (pc' := 78) rfl ?_
  refine z_imul dX12_acknowledges_78 ?_
  refine z_iadd dX12_acknowledges_79 ?_
  refine z_iload dX12_acknowledges_80 4 rfl ?_
  obtain ⟨a7, e7, hP⟩ := hP
  have k7 := f6 a7 e7
  obtain ⟨i8, hP⟩ := hP
  refine z_iast e7 k7 i8 dX12_acknowledges_82 ?_
  refine z_nm (fun M_9 g_9 => ?_)
  replace hP := hP M_9 g_9
  have q_9 := z_k3 g_9
  have ha := z_kk q_9 ha
  refine z_iincN (j := 2) (m := 1) (lv' := fun v => [(2, z_I v), (0, z_O _), (1, z_I _), (3, z_I _), (4, z_I _)]) dX12_acknowledges_83 rfl (by decide) (Nat.le_of_ble_eq_true rfl) (fun _ => rfl) (fun x_10 y_10 => ?_)
  replace hP := hP x_10 y_10
  refine z_sub (lv' := [(0, z_O _), (1, z_I _), (2, z_I _), (3, z_I _)]) [1, 2, 0, 3] rfl ?_
  exact v_X12_acknowledges_86 hJ14 ha hP
set_option maxRecDepth 100000 in
set_option maxHeartbeats 4000000 in
theorem v_X12_acknowledges_35 {G : z_G} {M0 : z_Mem} {a : Nat} {Post : z_Mem → Prop} {J14 : Int32 → Int32 → Int32 → z_Mem → Prop} (hJ14 : ∀ (x1 : Int32) (x2 : Int32) (x3 : Int32) (M : z_Mem), (z_ki M a = 13) → J14 x1 x2 x3 M → z_V G Y_X12_acknowledges z_X0 M0 (z_QM G M0 (z_PV Post)) M 14 [(0, z_O (some a)), (1, z_I x1), (2, z_I x2), (3, z_I x3)] []) : ∀ (n : Nat) {x1 : Int32} {x2 : Int32} {x3 : Int32} {x4 : Int32} {M : z_Mem}, (z_ki M a = 13) → P_X12_acknowledges_35 a Post J14 n x1 x2 x3 x4 M → z_V G Y_X12_acknowledges z_X0 M0 (z_QM G M0 (z_PV Post)) M 35 [(0, z_O (some a)), (1, z_I x1), (2, z_I x2), (3, z_I x3), (4, z_I x4)] [] := by
  intro n
  induction n with
  | zero => intro x1 x2 x3 x4 M ha hP; exact False.elim hP
  | succ n ih =>
    intro x1 x2 x3 x4 M ha hP
    unfold P_X12_acknowledges_35 at hP
    refine z_iload_n dX12_acknowledges_35 rfl 3 rfl ?_
    refine z_if_le (tgt := 56) dX12_acknowledges_36 (by decide) (fun h11 => ?_) (fun h11 => ?_)
    · replace hP := hP.1 h11
      refine z_sub (lv' := [(0, z_O _), (1, z_I _), (2, z_I _), (3, z_I _), (4, z_I _)]) [0, 1, 2, 3, 4] rfl ?_
      exact v_X12_acknowledges_56 hJ14 ha hP
    · replace hP := hP.2 h11
      refine z_aload_n dX12_acknowledges_39 rfl 0 rfl ?_
      refine z_getr (c := 12) (k := 33) (g := 1569) (t := 21) z_cb12 (Nat.le_of_ble_eq_true rfl) (Nat.le_of_ble_eq_true rfl) rfl rfl zw_1288 rfl ha dX12_acknowledges_40 (fun f12 => ?_)
      refine z_iload_n dX12_acknowledges_43 rfl 3 rfl ?_
      refine z_iconst (v := 1) dX12_acknowledges_44 (by decide) ?_
      refine z_isub dX12_acknowledges_45 ?_
      refine z_pc (pc' := 46) rfl ?_
      obtain ⟨a13, e13, hP⟩ := hP
      have k13 := f12 a13 e13
      obtain ⟨i14, hP⟩ := hP
      refine z_zald e13 k13 i14 dX12_acknowledges_46 (fun b14 => ?_)
      refine z_if_eq (tgt := 56) dX12_acknowledges_47 (by decide) (fun h15 => ?_) (fun h15 => ?_)
      · replace hP := hP.1 h15
        refine z_sub (lv' := [(0, z_O _), (1, z_I _), (2, z_I _), (3, z_I _), (4, z_I _)]) [0, 1, 2, 3, 4] rfl ?_
        exact v_X12_acknowledges_56 hJ14 ha hP
      · replace hP := hP.2 h15
        refine z_iincN (j := 3) (m := (-1)) (lv' := fun v => [(3, z_I v), (0, z_O _), (1, z_I _), (2, z_I _), (4, z_I _)]) dX12_acknowledges_50 rfl (by decide) (Nat.le_of_ble_eq_true rfl) (fun _ => rfl) (fun x_16 y_16 => ?_)
        replace hP := hP x_16 y_16
        refine z_goto (tgt := 35) dX12_acknowledges_53 (by decide) ?_
        refine z_sub (lv' := [(0, z_O _), (1, z_I _), (2, z_I _), (3, z_I _), (4, z_I _)]) [1, 2, 3, 0, 4] rfl ?_
        exact ih ha hP
set_option maxRecDepth 100000 in
set_option maxHeartbeats 4000000 in
theorem v_X12_acknowledges_119 {G : z_G} {M0 : z_Mem} {a : Nat} {Post : z_Mem → Prop}   : ∀ (n : Nat) {x1 : Int32} {x4 : Int32} {x5 : Int32} {M : z_Mem}, (z_ki M a = 13) → P_X12_acknowledges_119 a Post n x1 x4 x5 M → z_V G Y_X12_acknowledges z_X0 M0 (z_QM G M0 (z_PV Post)) M 119 [(0, z_O (some a)), (1, z_I x1), (4, z_I x4), (5, z_I x5)] [] := by
  intro n
  induction n with
  | zero => intro x1 x4 x5 M ha hP; exact False.elim hP
  | succ n ih =>
    intro x1 x4 x5 M ha hP
    unfold P_X12_acknowledges_119 at hP
    refine z_iload dX12_acknowledges_119 3 rfl ?_
    refine z_iconst (v := 4) dX12_acknowledges_121 (by decide) ?_
    refine z_icmp_ge (tgt := 165) dX12_acknowledges_122 (by decide) (fun h17 => ?_) (fun h17 => ?_)
    · replace hP := hP.1 h17
      refine z_aload_n dX12_acknowledges_165 rfl 0 rfl ?_
      refine z_getr (c := 12) (k := 24) (g := 1560) (t := 20) z_cb12 (Nat.le_of_ble_eq_true rfl) (Nat.le_of_ble_eq_true rfl) rfl rfl zw_1279 rfl ha dX12_acknowledges_166 (fun f18 => ?_)
      refine z_iload_n dX12_acknowledges_169 rfl 1 rfl ?_
      refine z_bipush (v := 14) dX12_acknowledges_170 (by decide) ?_
      refine z_pc (pc' := 172) rfl ?_
      refine z_iadd dX12_acknowledges_172 ?_
      refine z_iload dX12_acknowledges_173 2 rfl ?_
      obtain ⟨a19, e19, hP⟩ := hP
      have k19 := f18 a19 e19
      obtain ⟨i20, hP⟩ := hP
      refine z_iast e19 k19 i20 dX12_acknowledges_175 ?_
      refine z_nm (fun M_21 g_21 => ?_)
      replace hP := hP M_21 g_21
      have q_21 := z_k3 g_21
      have ha := z_kk q_21 ha
      refine z_aload_n dX12_acknowledges_176 rfl 0 rfl ?_
      refine z_dup dX12_acknowledges_177 rfl ?_
      refine z_geti (c := 12) (k := 25) (g := 1561) z_cb12 (Nat.le_of_ble_eq_true rfl) (Nat.le_of_ble_eq_true rfl) rfl (Nat.le_of_ble_eq_true rfl) zw_1280 rfl ha dX12_acknowledges_178 ?_
      refine z_pc (pc' := 181) rfl ?_
      refine z_iconst (v := 1) dX12_acknowledges_181 (by decide) ?_
      refine z_iadd dX12_acknowledges_182 ?_
      refine z_puti (c := 12) (k := 25) (g := 1561) z_cb12 (Nat.le_of_ble_eq_true rfl) (Nat.le_of_ble_eq_true rfl) (Nat.le_of_ble_eq_true rfl) rfl rfl rfl zw_1280 rfl ha (Or.inl rfl) dX12_acknowledges_183 ?_
      refine z_nm (fun M_23 g_23 => ?_)
      replace hP := hP M_23 g_23
      have q_23 := z_k1 g_23
      have ha := z_kk q_23 ha
      refine z_aload_n dX12_acknowledges_186 rfl 0 rfl ?_
      refine z_getr (c := 12) (k := 93) (g := 1629) (t := 20) z_cb12 (Nat.le_of_ble_eq_true rfl) (Nat.le_of_ble_eq_true rfl) rfl rfl zw_1348 rfl ha dX12_acknowledges_187 (fun f24 => ?_)
      refine z_iconst (v := 4) dX12_acknowledges_190 (by decide) ?_
      refine z_pc (pc' := 191) rfl ?_
      refine z_dup2 dX12_acknowledges_191 rfl rfl ?_
      obtain ⟨a25, e25, hP⟩ := hP
      have k25 := f24 a25 e25
      obtain ⟨i26, hP⟩ := hP
      refine z_iald e25 k25 i26 dX12_acknowledges_192 ?_
      refine z_iconst (v := 1) dX12_acknowledges_193 (by decide) ?_
      refine z_iadd dX12_acknowledges_194 ?_
      obtain ⟨i27, hP⟩ := hP
      refine z_iast e25 k25 i27 dX12_acknowledges_195 ?_
      refine z_nm (fun M_28 g_28 => ?_)
      replace hP := hP M_28 g_28
      have q_28 := z_k3 g_28
      have ha := z_kk q_28 ha
      refine z_aload_n dX12_acknowledges_196 rfl 0 rfl ?_
      refine z_pc (pc' := 197) rfl ?_
      refine z_iconst (v := 0) dX12_acknowledges_197 (by decide) ?_
      refine z_puti (c := 12) (k := 37) (g := 1573) z_cb12 (Nat.le_of_ble_eq_true rfl) (Nat.le_of_ble_eq_true rfl) (Nat.le_of_ble_eq_true rfl) rfl rfl rfl zw_1292 rfl ha (Or.inl rfl) dX12_acknowledges_198 ?_
      refine z_nm (fun M_29 g_29 => ?_)
      replace hP := hP M_29 g_29
      have q_29 := z_k1 g_29
      have ha := z_kk q_29 ha
      refine z_aload_n dX12_acknowledges_201 rfl 0 rfl ?_
      refine z_iconst (v := (-1)) dX12_acknowledges_202 (by decide) ?_
      refine z_puti (c := 12) (k := 38) (g := 1574) z_cb12 (Nat.le_of_ble_eq_true rfl) (Nat.le_of_ble_eq_true rfl) (Nat.le_of_ble_eq_true rfl) rfl rfl rfl zw_1293 rfl ha (Or.inl rfl) dX12_acknowledges_203 ?_
      refine z_nm (fun M_30 g_30 => ?_)
      replace hP := hP M_30 g_30
      have q_30 := z_k1 g_30
      have ha := z_kk q_30 ha
      refine z_aload_n dX12_acknowledges_206 rfl 0 rfl ?_
      refine z_pc (pc' := 207) rfl ?_
      refine z_aload_n dX12_acknowledges_207 rfl 0 rfl ?_
      refine z_geti (c := 12) (k := 39) (g := 1575) z_cb12 (Nat.le_of_ble_eq_true rfl) (Nat.le_of_ble_eq_true rfl) rfl (Nat.le_of_ble_eq_true rfl) zw_1294 rfl ha dX12_acknowledges_208 ?_
      refine z_bipush (v := 7) dX12_acknowledges_211 (by decide) ?_
      refine z_aload_n dX12_acknowledges_213 rfl 0 rfl ?_
      refine z_geti (c := 12) (k := 25) (g := 1561) z_cb12 (Nat.le_of_ble_eq_true rfl) (Nat.le_of_ble_eq_true rfl) rfl (Nat.le_of_ble_eq_true rfl) zw_1280 rfl ha dX12_acknowledges_214 ?_
      refine z_iconst (v := 1) dX12_acknowledges_217 (by decide) ?_
      refine z_pc (pc' := 218) rfl ?_
      refine z_isub dX12_acknowledges_218 ?_
      refine z_wts (fun hT33 _ => ?_)
      refine z_cVv (c := 12) (n := 3) (Y1 := Y_X12_answers) (st := []) rfl ha z_cb12 (Nat.le_of_ble_eq_true rfl) rfl (s_X12_answers ha hP) rfl ⟨z_dc_X12_answers, ⟨(Nat.le_of_ble_eq_true rfl), (Nat.le_of_ble_eq_true rfl)⟩, (Nat.le_of_ble_eq_true rfl)⟩ rfl zw_1594 zw_1596 zp_34 zw_12 zw_1597 dX12_acknowledges_219 (fun M_33 hP _ x33 => ?_)
      have ha := x33.k (k := 12) hT33 ha
      exact z_retv rfl dX12_acknowledges_222 hP
    · replace hP := hP.2 h17
      refine z_aload_n dX12_acknowledges_125 rfl 0 rfl ?_
      refine z_getr (c := 12) (k := 24) (g := 1560) (t := 20) z_cb12 (Nat.le_of_ble_eq_true rfl) (Nat.le_of_ble_eq_true rfl) rfl rfl zw_1279 rfl ha dX12_acknowledges_126 (fun f34 => ?_)
      refine z_iload_n dX12_acknowledges_129 rfl 1 rfl ?_
      refine z_bipush (v := 10) dX12_acknowledges_130 (by decide) ?_
      refine z_pc (pc' := 132) rfl ?_
      refine z_iadd dX12_acknowledges_132 ?_
      refine z_iload dX12_acknowledges_133 3 rfl ?_
      refine z_iadd dX12_acknowledges_135 ?_
      refine z_aload_n dX12_acknowledges_136 rfl 0 rfl ?_
      refine z_getr (c := 12) (k := 35) (g := 1571) (t := 20) z_cb12 (Nat.le_of_ble_eq_true rfl) (Nat.le_of_ble_eq_true rfl) rfl rfl zw_1290 rfl ha dX12_acknowledges_137 (fun f35 => ?_)
      refine z_iload dX12_acknowledges_140 3 rfl ?_
      refine z_pc (pc' := 142) rfl ?_
      obtain ⟨a36, e36, hP⟩ := hP
      have k36 := f35 a36 e36
      obtain ⟨i37, hP⟩ := hP
      refine z_iald e36 k36 i37 dX12_acknowledges_142 ?_
      refine z_bipush (v := 40) dX12_acknowledges_143 (by decide) ?_
      refine z_iadd dX12_acknowledges_145 ?_
      obtain ⟨a38, e38, hP⟩ := hP
      have k38 := f34 a38 e38
      obtain ⟨i39, hP⟩ := hP
      refine z_iast e38 k38 i39 dX12_acknowledges_146 ?_
      refine z_nm (fun M_40 g_40 => ?_)
      replace hP := hP M_40 g_40
      have q_40 := z_k3 g_40
      have ha := z_kk q_40 ha
      refine z_iload dX12_acknowledges_147 2 rfl ?_
      refine z_aload_n dX12_acknowledges_149 rfl 0 rfl ?_
      refine z_pc (pc' := 150) rfl ?_
      refine z_getr (c := 12) (k := 35) (g := 1571) (t := 20) z_cb12 (Nat.le_of_ble_eq_true rfl) (Nat.le_of_ble_eq_true rfl) rfl rfl zw_1290 rfl ha dX12_acknowledges_150 (fun f41 => ?_)
      refine z_iload dX12_acknowledges_153 3 rfl ?_
      obtain ⟨a42, e42, hP⟩ := hP
      have k42 := f41 a42 e42
      obtain ⟨i43, hP⟩ := hP
      refine z_iald e42 k42 i43 dX12_acknowledges_155 ?_
      refine z_iadd dX12_acknowledges_156 ?_
      refine z_topi (fun x_44 y_44 => ?_)
      replace hP := hP x_44 y_44
      refine z_istore (lv' := [(4, z_I _), (0, z_O _), (1, z_I _), (5, z_I _)]) dX12_acknowledges_157 (Nat.le_of_ble_eq_true rfl) rfl ?_
      refine z_iincN (j := 3) (m := 1) (lv' := fun v => [(5, z_I v), (4, z_I _), (0, z_O _), (1, z_I _)]) dX12_acknowledges_159 rfl (by decide) (Nat.le_of_ble_eq_true rfl) (fun _ => rfl) (fun x_45 y_45 => ?_)
      replace hP := hP x_45 y_45
      refine z_pc (pc' := 162) rfl ?_
      refine z_goto (tgt := 119) dX12_acknowledges_162 (by decide) ?_
      refine z_sub (lv' := [(0, z_O _), (1, z_I _), (4, z_I _), (5, z_I _)]) [2, 3, 1, 0] rfl ?_
      exact ih ha hP
set_option maxRecDepth 100000 in
set_option maxHeartbeats 4000000 in
theorem v_X12_acknowledges_92 {G : z_G} {M0 : z_Mem} {a : Nat} {Post : z_Mem → Prop}   {x1 : Int32} {x2 : Int32} {M : z_Mem} (ha : z_ki M a = 13) (hP : P_X12_acknowledges_92 a Post x1 x2 M) : z_V G Y_X12_acknowledges z_X0 M0 (z_QM G M0 (z_PV Post)) M 92 [(0, z_O (some a)), (1, z_I x1), (2, z_I x2)] [] := by
  unfold P_X12_acknowledges_92 at hP
  refine z_aload_n dX12_acknowledges_92 rfl 0 rfl ?_
  refine z_getr (c := 12) (k := 24) (g := 1560) (t := 20) z_cb12 (Nat.le_of_ble_eq_true rfl) (Nat.le_of_ble_eq_true rfl) rfl rfl zw_1279 rfl ha dX12_acknowledges_93 (fun f46 => ?_)
  refine z_iload_n dX12_acknowledges_96 rfl 1 rfl ?_
  refine z_iload_n dX12_acknowledges_97 rfl 2 rfl ?_
  obtain ⟨a47, e47, hP⟩ := hP
  have k47 := f46 a47 e47
  obtain ⟨i48, hP⟩ := hP
  refine z_iast e47 k47 i48 dX12_acknowledges_98 ?_
  refine z_nm (fun M_49 g_49 => ?_)
  replace hP := hP M_49 g_49
  have q_49 := z_k3 g_49
  have ha := z_kk q_49 ha
  refine z_aload_n dX12_acknowledges_99 rfl 0 rfl ?_
  refine z_pc (pc' := 100) rfl ?_
  refine z_getr (c := 12) (k := 24) (g := 1560) (t := 20) z_cb12 (Nat.le_of_ble_eq_true rfl) (Nat.le_of_ble_eq_true rfl) rfl rfl zw_1279 rfl ha dX12_acknowledges_100 (fun f50 => ?_)
  refine z_iload_n dX12_acknowledges_103 rfl 1 rfl ?_
  refine z_bipush (v := 9) dX12_acknowledges_104 (by decide) ?_
  refine z_iadd dX12_acknowledges_106 ?_
  refine z_aload_n dX12_acknowledges_107 rfl 0 rfl ?_
  refine z_geti (c := 12) (k := 40) (g := 1576) z_cb12 (Nat.le_of_ble_eq_true rfl) (Nat.le_of_ble_eq_true rfl) rfl (Nat.le_of_ble_eq_true rfl) zw_1295 rfl ha dX12_acknowledges_108 ?_
  refine z_pc (pc' := 111) rfl ?_
  obtain ⟨a52, e52, hP⟩ := hP
  have k52 := f50 a52 e52
  obtain ⟨i53, hP⟩ := hP
  refine z_iast e52 k52 i53 dX12_acknowledges_111 ?_
  refine z_nm (fun M_54 g_54 => ?_)
  replace hP := hP M_54 g_54
  have q_54 := z_k3 g_54
  have ha := z_kk q_54 ha
  refine z_bipush (v := 100) dX12_acknowledges_112 (by decide) ?_
  refine z_istore (lv' := [(4, z_I _), (0, z_O _), (1, z_I _), (2, z_I _)]) dX12_acknowledges_114 (Nat.le_of_ble_eq_true rfl) rfl ?_
  refine z_iconst (v := 0) dX12_acknowledges_116 (by decide) ?_
  refine z_istore (lv' := [(5, z_I _), (4, z_I _), (0, z_O _), (1, z_I _), (2, z_I _)]) dX12_acknowledges_117 (Nat.le_of_ble_eq_true rfl) rfl ?_
  obtain ⟨n55, hP⟩ := hP
  refine z_sub (lv' := [(0, z_O _), (1, z_I _), (4, z_I _), (5, z_I _)]) [2, 3, 1, 0] rfl ?_
  exact v_X12_acknowledges_119  n55 ha hP
set_option maxRecDepth 100000 in
set_option maxHeartbeats 4000000 in
theorem v_X12_acknowledges_14 {G : z_G} {M0 : z_Mem} {a : Nat} {Post : z_Mem → Prop}   : ∀ (n : Nat) {x1 : Int32} {x2 : Int32} {x3 : Int32} {M : z_Mem}, (z_ki M a = 13) → P_X12_acknowledges_14 a Post n x1 x2 x3 M → z_V G Y_X12_acknowledges z_X0 M0 (z_QM G M0 (z_PV Post)) M 14 [(0, z_O (some a)), (1, z_I x1), (2, z_I x2), (3, z_I x3)] [] := by
  intro n
  induction n with
  | zero => intro x1 x2 x3 M ha hP; exact False.elim hP
  | succ n ih =>
    intro x1 x2 x3 M ha hP
    unfold P_X12_acknowledges_14 at hP
    refine z_iload_n dX12_acknowledges_14 rfl 3 rfl ?_
    refine z_if_lt (tgt := 92) dX12_acknowledges_15 (by decide) (fun h56 => ?_) (fun h56 => ?_)
    · replace hP := hP.1 h56
      refine z_sub (lv' := [(0, z_O _), (1, z_I _), (2, z_I _)]) [0, 1, 2] rfl ?_
      exact v_X12_acknowledges_92  ha hP
    · replace hP := hP.2 h56
      refine z_iload_n dX12_acknowledges_18 rfl 2 rfl ?_
      refine z_iconst (v := 4) dX12_acknowledges_19 (by decide) ?_
      refine z_icmp_ge (tgt := 92) dX12_acknowledges_20 (by decide) (fun h57 => ?_) (fun h57 => ?_)
      · replace hP := hP.1 h57
        refine z_sub (lv' := [(0, z_O _), (1, z_I _), (2, z_I _)]) [0, 1, 2] rfl ?_
        exact v_X12_acknowledges_92  ha hP
      · replace hP := hP.2 h57
        refine z_aload_n dX12_acknowledges_23 rfl 0 rfl ?_
        refine z_getr (c := 12) (k := 33) (g := 1569) (t := 21) z_cb12 (Nat.le_of_ble_eq_true rfl) (Nat.le_of_ble_eq_true rfl) rfl rfl zw_1288 rfl ha dX12_acknowledges_24 (fun f58 => ?_)
        refine z_iload_n dX12_acknowledges_27 rfl 3 rfl ?_
        refine z_pc (pc' := 28) rfl ?_
        obtain ⟨a59, e59, hP⟩ := hP
        have k59 := f58 a59 e59
        obtain ⟨i60, hP⟩ := hP
        refine z_zald e59 k59 i60 dX12_acknowledges_28 (fun b60 => ?_)
        refine z_if_eq (tgt := 86) dX12_acknowledges_29 (by decide) (fun h61 => ?_) (fun h61 => ?_)
        · replace hP := hP.1 h61
          refine z_sub (lv' := [(0, z_O _), (1, z_I _), (2, z_I _), (3, z_I _)]) [0, 1, 2, 3] rfl ?_
          exact v_X12_acknowledges_86 (fun _ _ _ _ w0 hP => ih w0 hP) ha hP
        · replace hP := hP.2 h61
          refine z_iload_n dX12_acknowledges_32 rfl 3 rfl ?_
          refine z_istore (lv' := [(4, z_I _), (0, z_O _), (1, z_I _), (2, z_I _), (3, z_I _)]) dX12_acknowledges_33 (Nat.le_of_ble_eq_true rfl) rfl ?_
          obtain ⟨n62, hP⟩ := hP
          refine z_sub (lv' := [(0, z_O _), (1, z_I _), (2, z_I _), (3, z_I _), (4, z_I _)]) [1, 2, 3, 4, 0] rfl ?_
          exact v_X12_acknowledges_35 (fun _ _ _ _ w0 hP => ih w0 hP) n62 ha hP
set_option maxRecDepth 100000 in
set_option maxHeartbeats 4000000 in
theorem s_X12_acknowledges {G : z_G} {M : z_Mem} {a : Nat} {Post : z_Mem → Prop} (ha : z_ki M a = 13) (hP : P_X12_acknowledges a M Post) : z_Mt G Y_X12_acknowledges M [z_O (some a)] (z_PV Post) := by
  refine z_ofV (by decide) (Nat.le_of_ble_eq_true rfl) ?_
  unfold P_X12_acknowledges at hP
  refine z_sub (lv' := [(0, z_O (some a))]) [0] rfl ?_
  refine z_bipush (v := 15) dX12_acknowledges_0 (by decide) ?_
  refine z_aload_n dX12_acknowledges_2 rfl 0 rfl ?_
  refine z_geti (c := 12) (k := 25) (g := 1561) z_cb12 (Nat.le_of_ble_eq_true rfl) (Nat.le_of_ble_eq_true rfl) rfl (Nat.le_of_ble_eq_true rfl) zw_1280 rfl ha dX12_acknowledges_3 ?_
  refine z_imul dX12_acknowledges_6 ?_
  refine z_topi (fun x_64 y_64 => ?_)
  replace hP := hP x_64 y_64
  refine z_istore_n (lv' := [(1, z_I _), (0, z_O _)]) dX12_acknowledges_7 rfl (Nat.le_of_ble_eq_true rfl) rfl ?_
  refine z_iconst (v := 0) dX12_acknowledges_8 (by decide) ?_
  refine z_pc (pc' := 9) rfl ?_
  refine z_istore_n (lv' := [(2, z_I _), (1, z_I _), (0, z_O _)]) dX12_acknowledges_9 rfl (Nat.le_of_ble_eq_true rfl) rfl ?_
  refine z_sipush (v := 399) dX12_acknowledges_10 (by decide) ?_
  refine z_istore_n (lv' := [(3, z_I _), (2, z_I _), (1, z_I _), (0, z_O _)]) dX12_acknowledges_13 rfl (Nat.le_of_ble_eq_true rfl) rfl ?_
  obtain ⟨n65, hP⟩ := hP
  refine z_sub (lv' := [(0, z_O _), (1, z_I _), (2, z_I _), (3, z_I _)]) [3, 2, 1, 0] rfl ?_
  exact v_X12_acknowledges_14  n65 ha hP
set_option maxRecDepth 100000 in
def P_X12_isByKey (a : Nat) (p1 : Int32) (M : z_Mem) (Post : Int32 → z_Mem → Prop) : Prop := ((p1 = (z_fi M 1566 a) → Post 1 M) ∧ (¬ p1 = (z_fi M 1566 a) → ((p1 = (z_fi M 1567 a) → ((8 ≤ ((z_fi M 1536 a) - (z_fi M 1568 a)) → Post 0 M) ∧ (¬ 8 ≤ ((z_fi M 1536 a) - (z_fi M 1568 a)) → Post 1 M))) ∧ (¬ p1 = (z_fi M 1567 a) → Post 0 M))))
set_option maxRecDepth 100000 in
set_option maxHeartbeats 4000000 in
theorem s_X12_isByKey {G : z_G} {M : z_Mem} {a : Nat} {p1 : Int32} {Post : Int32 → z_Mem → Prop} (ha : z_ki M a = 13) (hP : P_X12_isByKey a p1 M Post) : z_Mt G Y_X12_isByKey M [z_O (some a), z_I p1] (z_PB Post) := by
  refine z_ofV (by decide) (Nat.le_of_ble_eq_true rfl) ?_
  unfold P_X12_isByKey at hP
  refine z_sub (lv' := [(0, z_O (some a)), (1, z_I p1)]) [0, 1] rfl ?_
  refine z_iload_n dX12_isByKey_0 rfl 1 rfl ?_
  refine z_aload_n dX12_isByKey_1 rfl 0 rfl ?_
  refine z_geti (c := 12) (k := 30) (g := 1566) z_cb12 (Nat.le_of_ble_eq_true rfl) (Nat.le_of_ble_eq_true rfl) rfl (Nat.le_of_ble_eq_true rfl) zw_1285 rfl ha dX12_isByKey_2 ?_
  refine z_icmp_eq (tgt := 30) dX12_isByKey_5 (by decide) (fun h2 => ?_) (fun h2 => ?_)
  · replace hP := hP.1 h2
    refine z_iconst (v := 1) dX12_isByKey_30 (by decide) ?_
    refine z_goto (tgt := 35) dX12_isByKey_31 (by decide) ?_
    exact z_retb rfl (Or.inr rfl) dX12_isByKey_35 hP
  · replace hP := hP.2 h2
    refine z_iload_n dX12_isByKey_8 rfl 1 rfl ?_
    refine z_aload_n dX12_isByKey_9 rfl 0 rfl ?_
    refine z_geti (c := 12) (k := 31) (g := 1567) z_cb12 (Nat.le_of_ble_eq_true rfl) (Nat.le_of_ble_eq_true rfl) rfl (Nat.le_of_ble_eq_true rfl) zw_1286 rfl ha dX12_isByKey_10 ?_
    refine z_pc (pc' := 13) rfl ?_
    refine z_icmp_ne (tgt := 34) dX12_isByKey_13 (by decide) (fun h4 => ?_) (fun h4 => ?_)
    · replace hP := hP.2 h4
      refine z_iconst (v := 0) dX12_isByKey_34 (by decide) ?_
      exact z_retb rfl (Or.inl rfl) dX12_isByKey_35 hP
    · replace hP := hP.1 h4
      refine z_aload_n dX12_isByKey_16 rfl 0 rfl ?_
      refine z_geti (c := 12) (k := 0) (g := 1536) z_cb12 (Nat.le_of_ble_eq_true rfl) (Nat.le_of_ble_eq_true rfl) rfl (Nat.le_of_ble_eq_true rfl) zw_1255 rfl ha dX12_isByKey_17 ?_
      refine z_aload_n dX12_isByKey_20 rfl 0 rfl ?_
      refine z_geti (c := 12) (k := 32) (g := 1568) z_cb12 (Nat.le_of_ble_eq_true rfl) (Nat.le_of_ble_eq_true rfl) rfl (Nat.le_of_ble_eq_true rfl) zw_1287 rfl ha dX12_isByKey_21 ?_
      refine z_isub dX12_isByKey_24 ?_
      refine z_bipush (v := 8) dX12_isByKey_25 (by decide) ?_
      refine z_pc (pc' := 27) rfl ?_
      refine z_icmp_ge (tgt := 34) dX12_isByKey_27 (by decide) (fun h7 => ?_) (fun h7 => ?_)
      · replace hP := hP.1 h7
        refine z_iconst (v := 0) dX12_isByKey_34 (by decide) ?_
        exact z_retb rfl (Or.inl rfl) dX12_isByKey_35 hP
      · replace hP := hP.2 h7
        refine z_iconst (v := 1) dX12_isByKey_30 (by decide) ?_
        refine z_goto (tgt := 35) dX12_isByKey_31 (by decide) ?_
        exact z_retb rfl (Or.inr rfl) dX12_isByKey_35 hP
def P_X12_takes_194 (a : Nat) (Post : z_Mem → Prop)  (x1 : Int32) (t0 : Int32) (M : z_Mem) : Prop := P_X12_max (z_fi M 1572 a) x1 M fun x_2 M_2 => (∀ M_3 : z_Mem, M_3 = z_sfi M_2 1572 a x_2 → (∀ M_5 : z_Mem, M_5 = z_sfi M_3 1573 a ((z_fi M_3 1573 a) + 1) → (z_nn (z_fr M_5 1601 a) fun a7 => (vp_in x1 (z_ln M_5 a7) ∧ ((((z_ai M_5 a7 ((x1 : Int32).toNatClampNeg)) = 0 → ((t0 = 0 → P_X12_acknowledges a M_5 fun M_12 => (Post M_12)) ∧ (¬ t0 = 0 → (((z_fi M_5 1573 a) = 2 → P_X12_acknowledges a M_5 fun M_17 => (Post M_17)) ∧ (¬ (z_fi M_5 1573 a) = 2 → ∀ M_16 : z_Mem, M_16 = z_sfi M_5 1574 a ((z_fi M_5 1536 a) + 3) → (Post M_16)))))) ∧ (¬ (z_ai M_5 a7 ((x1 : Int32).toNatClampNeg)) = 0 → P_X12_acknowledges a M_5 fun M_10 => (Post M_10))))))))
set_option maxRecDepth 100000 in
def P_X12_takes_138 (a : Nat) (Post : z_Mem → Prop)  : Nat → Int32 → Int32 → z_Mem → Prop
  | 0, _, _, _ => False
  | n + 1, x1, x2, M => z_nn (z_fr M 1597 a) fun a19 => (vp_in x1 (z_ln M a19) ∧ ((((z_ai M a19 ((x1 : Int32).toNatClampNeg)) ≤ x2 → ((x1 = ((z_fi M 1572 a) + 1) → P_X12_takes_194 a Post x1 1 M) ∧ (¬ x1 = ((z_fi M 1572 a) + 1) → P_X12_takes_194 a Post x1 0 M))) ∧ (¬ (z_ai M a19 ((x1 : Int32).toNatClampNeg)) ≤ x2 → z_nn (z_fr M 1595 a) fun a26 => (vp_in x1 (z_ln M a26) ∧ (z_nn (z_fr M 1596 a) fun a29 => (vp_in x1 (z_ln M a29) ∧ (z_nn (z_fr M 1570 a) fun a31 => (vp_in (((200 * (z_ai M a26 ((x1 : Int32).toNatClampNeg))) + (z_ai M a29 ((x1 : Int32).toNatClampNeg))) + x2) (z_ln M a31) ∧ (∀ M_33 : z_Mem, M_33 = z_sai M a31 (((((200 * (z_ai M a26 ((x1 : Int32).toNatClampNeg))) + (z_ai M a29 ((x1 : Int32).toNatClampNeg))) + x2) : Int32).toNatClampNeg) 1 → (∀ x_34 : Int32, x_34 = x2 + 1 → (P_X12_takes_138 a Post n x1 x_34 M_33))))))))))))
def P_X12_takes_132 (a : Nat) (Post : z_Mem → Prop)  (x1 : Int32) (t0 : Option Nat) (t1 : Int32) (t2 : Int32) (M : z_Mem) : Prop := z_nn t0 fun a35 => (∀ M_36 : z_Mem, M_36 = z_sfi M 1576 a35 (t1 + t2) → ((∃ n37 : Nat, P_X12_takes_138 a Post n37 x1 0 M_36)))
def P_X12_takes_99 (a : Nat) (Post : z_Mem → Prop)  (x1 : Int32) (M : z_Mem) : Prop := z_nn (z_fr M 1599 a) fun a39 => (vp_in x1 (z_ln M a39) ∧ (∀ M_41 : z_Mem, M_41 = z_sai M a39 ((x1 : Int32).toNatClampNeg) 1 → (z_nn (z_fr M_41 1569 a) fun a43 => (vp_in x1 (z_ln M_41 a43) ∧ (∀ M_45 : z_Mem, M_45 = z_sai M_41 a43 ((x1 : Int32).toNatClampNeg) 1 → (z_nn (z_fr M_45 1603 a) fun a48 => (vp_in x1 (z_ln M_45 a48) ∧ ((((z_ai M_45 a48 ((x1 : Int32).toNatClampNeg)) = 0 → P_X12_takes_132 a Post x1 (some a) (z_fi M_45 1576 a) 0 M_45) ∧ (¬ (z_ai M_45 a48 ((x1 : Int32).toNatClampNeg)) = 0 → P_X12_takes_132 a Post x1 (some a) (z_fi M_45 1576 a) 1 M_45))))))))))
def P_X12_takes_43 (a : Nat) (Post : z_Mem → Prop)  (x1 : Int32) (M : z_Mem) : Prop := z_nn (z_fr M 1600 a) fun a52 => (vp_in x1 (z_ln M a52) ∧ ((((z_ai M a52 ((x1 : Int32).toNatClampNeg)) ≤ (z_fi M 1566 a) → z_nn (z_fr M 1600 a) fun a57 => (vp_in x1 (z_ln M a57) ∧ (P_X12_isByKey a (z_ai M a57 ((x1 : Int32).toNatClampNeg)) M fun x_59 M_59 => (((x_59 = 0 → Post M_59) ∧ (¬ x_59 = 0 → P_X12_takes_99 a Post x1 M_59)))))) ∧ (¬ (z_ai M a52 ((x1 : Int32).toNatClampNeg)) ≤ (z_fi M 1566 a) → ∀ M_62 : z_Mem, M_62 = z_sfi M 1567 a (z_fi M 1566 a) → (z_nn (z_fr M_62 1600 a) fun a64 => (vp_in x1 (z_ln M_62 a64) ∧ (∀ M_66 : z_Mem, M_66 = z_sfi M_62 1566 a (z_ai M_62 a64 ((x1 : Int32).toNatClampNeg)) → (∀ M_68 : z_Mem, M_68 = z_sfi M_66 1568 a (z_fi M_66 1536 a) → (P_X12_takes_99 a Post x1 M_68)))))))))
set_option maxRecDepth 100000 in
def P_X12_takes (a : Nat) (p1 : Int32) (M : z_Mem) (Post : z_Mem → Prop) : Prop := z_nn (z_fr M 1599 a) fun a70 => (vp_in p1 (z_ln M a70) ∧ (∀ M_72 : z_Mem, M_72 = z_sai M a70 ((p1 : Int32).toNatClampNeg) 2 → ((((z_fi M_72 1562 a) = 1 → z_nn (z_fr M_72 1593 a) fun a76 => (vp_in p1 (z_ln M_72 a76) ∧ (∀ M_78 : z_Mem, M_78 = z_sfi M_72 1575 a (z_ai M_72 a76 ((p1 : Int32).toNatClampNeg)) → (z_nn (z_fr M_78 1602 a) fun a80 => (vp_in p1 (z_ln M_78 a80) ∧ ((((z_ai M_78 a80 ((p1 : Int32).toNatClampNeg)) = 0 → P_X12_takes_43 a Post p1 M_78) ∧ (¬ (z_ai M_78 a80 ((p1 : Int32).toNatClampNeg)) = 0 → (((z_fi M_78 1564 a) = 0 → Post M_78) ∧ (¬ (z_fi M_78 1564 a) = 0 → P_X12_takes_43 a Post p1 M_78)))))))))) ∧ (¬ (z_fi M_72 1562 a) = 1 → Post M_72)))))
set_option maxRecDepth 100000 in
set_option maxHeartbeats 4000000 in
theorem v_X12_takes_194 {G : z_G} {M0 : z_Mem} {a : Nat} {Post : z_Mem → Prop}   {x1 : Int32} {t0 : Int32} {M : z_Mem} (ha : z_ki M a = 13) (f_t0 : t0 = 0 ∨ t0 = 1) (hP : P_X12_takes_194 a Post x1 t0 M) : z_V G Y_X12_takes z_X0 M0 (z_QM G M0 (z_PV Post)) M 194 [(0, z_O (some a)), (1, z_I x1)] [z_I t0] := by
  unfold P_X12_takes_194 at hP
  refine z_istore_n (lv' := [(2, z_I _), (0, z_O _), (1, z_I _)]) dX12_takes_194 rfl (Nat.le_of_ble_eq_true rfl) rfl ?_
  refine z_aload_n dX12_takes_195 rfl 1 rfl ?_
  refine z_aload_n dX12_takes_196 rfl 1 rfl ?_
  refine z_geti (c := 12) (k := 36) (g := 1572) z_cb12 (Nat.le_of_ble_eq_true rfl) (Nat.le_of_ble_eq_true rfl) rfl (Nat.le_of_ble_eq_true rfl) zw_1291 rfl ha dX12_takes_197 ?_
  refine z_iload_n dX12_takes_200 rfl 2 rfl ?_
  refine z_wts (fun hT2 _ => ?_)
  refine z_cSi (n := 2) (Y1 := Y_X12_max) (st := [z_O _]) rfl (s_X12_max  hP) rfl ⟨z_dc_X12_max, ⟨(Nat.le_of_ble_eq_true rfl), (Nat.le_of_ble_eq_true rfl)⟩, (Nat.le_of_ble_eq_true rfl)⟩ rfl zw_1662 zw_1663 zw_12 zw_1664 dX12_takes_201 (fun x_2 M_2 hP _ x2 => ?_)
  have ha := x2.k (k := 12) hT2 ha
  refine z_pc (pc' := 204) rfl ?_
  refine z_puti (c := 12) (k := 36) (g := 1572) z_cb12 (Nat.le_of_ble_eq_true rfl) (Nat.le_of_ble_eq_true rfl) (Nat.le_of_ble_eq_true rfl) rfl rfl rfl zw_1291 rfl ha (Or.inl rfl) dX12_takes_204 ?_
  refine z_nm (fun M_3 g_3 => ?_)
  replace hP := hP M_3 g_3
  have q_3 := z_k1 g_3
  have ha := z_kk q_3 ha
  refine z_aload_n dX12_takes_207 rfl 1 rfl ?_
  refine z_dup dX12_takes_208 rfl ?_
  refine z_geti (c := 12) (k := 37) (g := 1573) z_cb12 (Nat.le_of_ble_eq_true rfl) (Nat.le_of_ble_eq_true rfl) rfl (Nat.le_of_ble_eq_true rfl) zw_1292 rfl ha dX12_takes_209 ?_
  refine z_iconst (v := 1) dX12_takes_212 (by decide) ?_
  refine z_iadd dX12_takes_213 ?_
  refine z_pc (pc' := 214) rfl ?_
  refine z_puti (c := 12) (k := 37) (g := 1573) z_cb12 (Nat.le_of_ble_eq_true rfl) (Nat.le_of_ble_eq_true rfl) (Nat.le_of_ble_eq_true rfl) rfl rfl rfl zw_1292 rfl ha (Or.inl rfl) dX12_takes_214 ?_
  refine z_nm (fun M_5 g_5 => ?_)
  replace hP := hP M_5 g_5
  have q_5 := z_k1 g_5
  have ha := z_kk q_5 ha
  refine z_aload_n dX12_takes_217 rfl 1 rfl ?_
  refine z_getr (c := 12) (k := 65) (g := 1601) (t := 21) z_cb12 (Nat.le_of_ble_eq_true rfl) (Nat.le_of_ble_eq_true rfl) rfl rfl zw_1320 rfl ha dX12_takes_218 (fun f6 => ?_)
  refine z_iload_n dX12_takes_221 rfl 2 rfl ?_
  obtain ⟨a7, e7, hP⟩ := hP
  have k7 := f6 a7 e7
  obtain ⟨i8, hP⟩ := hP
  refine z_zald e7 k7 i8 dX12_takes_222 (fun b8 => ?_)
  refine z_if_ne (tgt := 238) dX12_takes_223 (by decide) (fun h9 => ?_) (fun h9 => ?_)
  · replace hP := hP.2 h9
    refine z_aload_n dX12_takes_238 rfl 1 rfl ?_
    refine z_pc (pc' := 239) rfl ?_
    refine z_wts (fun hT10 _ => ?_)
    refine z_cVv (c := 12) (n := 0) (Y1 := Y_X12_acknowledges) (st := []) rfl ha z_cb12 (Nat.le_of_ble_eq_true rfl) rfl (s_X12_acknowledges ha hP) rfl ⟨z_dc_X12_acknowledges, ⟨(Nat.le_of_ble_eq_true rfl), (Nat.le_of_ble_eq_true rfl)⟩, (Nat.le_of_ble_eq_true rfl)⟩ rfl zw_1590 zw_1592 zp_33 zw_12 zw_1593 dX12_takes_239 (fun M_10 hP _ x10 => ?_)
    have ha := x10.k (k := 12) hT10 ha
    refine z_goto (tgt := 255) dX12_takes_242 (by decide) ?_
    exact z_retv rfl dX12_takes_255 hP
  · replace hP := hP.1 h9
    refine z_iload_n dX12_takes_226 rfl 0 rfl ?_
    refine z_pc (pc' := 227) rfl ?_
    refine z_if_eq (tgt := 238) dX12_takes_227 (by decide) (fun h11 => ?_) (fun h11 => ?_)
    · replace hP := hP.1 h11
      refine z_aload_n dX12_takes_238 rfl 1 rfl ?_
      refine z_wts (fun hT12 _ => ?_)
      refine z_cVv (c := 12) (n := 0) (Y1 := Y_X12_acknowledges) (st := []) rfl ha z_cb12 (Nat.le_of_ble_eq_true rfl) rfl (s_X12_acknowledges ha hP) rfl ⟨z_dc_X12_acknowledges, ⟨(Nat.le_of_ble_eq_true rfl), (Nat.le_of_ble_eq_true rfl)⟩, (Nat.le_of_ble_eq_true rfl)⟩ rfl zw_1590 zw_1592 zp_33 zw_12 zw_1593 dX12_takes_239 (fun M_12 hP _ x12 => ?_)
      have ha := x12.k (k := 12) hT12 ha
      refine z_goto (tgt := 255) dX12_takes_242 (by decide) ?_
      exact z_retv rfl dX12_takes_255 hP
    · replace hP := hP.2 h11
      refine z_aload_n dX12_takes_230 rfl 1 rfl ?_
      refine z_geti (c := 12) (k := 37) (g := 1573) z_cb12 (Nat.le_of_ble_eq_true rfl) (Nat.le_of_ble_eq_true rfl) rfl (Nat.le_of_ble_eq_true rfl) zw_1292 rfl ha dX12_takes_231 ?_
      refine z_iconst (v := 2) dX12_takes_234 (by decide) ?_
      refine z_icmp_ne (tgt := 245) dX12_takes_235 (by decide) (fun h14 => ?_) (fun h14 => ?_)
      · replace hP := hP.2 h14
        refine z_aload_n dX12_takes_245 rfl 1 rfl ?_
        refine z_aload_n dX12_takes_246 rfl 1 rfl ?_
        refine z_geti (c := 12) (k := 0) (g := 1536) z_cb12 (Nat.le_of_ble_eq_true rfl) (Nat.le_of_ble_eq_true rfl) rfl (Nat.le_of_ble_eq_true rfl) zw_1255 rfl ha dX12_takes_247 ?_
        refine z_pc (pc' := 250) rfl ?_
        refine z_iconst (v := 3) dX12_takes_250 (by decide) ?_
        refine z_iadd dX12_takes_251 ?_
        refine z_puti (c := 12) (k := 38) (g := 1574) z_cb12 (Nat.le_of_ble_eq_true rfl) (Nat.le_of_ble_eq_true rfl) (Nat.le_of_ble_eq_true rfl) rfl rfl rfl zw_1293 rfl ha (Or.inl rfl) dX12_takes_252 ?_
        refine z_nm (fun M_16 g_16 => ?_)
        replace hP := hP M_16 g_16
        have q_16 := z_k1 g_16
        have ha := z_kk q_16 ha
        exact z_retv rfl dX12_takes_255 hP
      · replace hP := hP.1 h14
        refine z_aload_n dX12_takes_238 rfl 1 rfl ?_
        refine z_wts (fun hT17 _ => ?_)
        refine z_cVv (c := 12) (n := 0) (Y1 := Y_X12_acknowledges) (st := []) rfl ha z_cb12 (Nat.le_of_ble_eq_true rfl) rfl (s_X12_acknowledges ha hP) rfl ⟨z_dc_X12_acknowledges, ⟨(Nat.le_of_ble_eq_true rfl), (Nat.le_of_ble_eq_true rfl)⟩, (Nat.le_of_ble_eq_true rfl)⟩ rfl zw_1590 zw_1592 zp_33 zw_12 zw_1593 dX12_takes_239 (fun M_17 hP _ x17 => ?_)
        have ha := x17.k (k := 12) hT17 ha
        refine z_goto (tgt := 255) dX12_takes_242 (by decide) ?_
        exact z_retv rfl dX12_takes_255 hP
set_option maxRecDepth 100000 in
set_option maxHeartbeats 4000000 in
theorem v_X12_takes_138 {G : z_G} {M0 : z_Mem} {a : Nat} {Post : z_Mem → Prop}   : ∀ (n : Nat) {x1 : Int32} {x2 : Int32} {M : z_Mem}, (z_ki M a = 13) → P_X12_takes_138 a Post n x1 x2 M → z_V G Y_X12_takes z_X0 M0 (z_QM G M0 (z_PV Post)) M 138 [(0, z_O (some a)), (1, z_I x1), (2, z_I x2)] [] := by
  intro n
  induction n with
  | zero => intro x1 x2 M ha hP; exact False.elim hP
  | succ n ih =>
    intro x1 x2 M ha hP
    unfold P_X12_takes_138 at hP
    refine z_iload_n dX12_takes_138 rfl 2 rfl ?_
    refine z_aload_n dX12_takes_139 rfl 0 rfl ?_
    refine z_getr (c := 12) (k := 61) (g := 1597) (t := 20) z_cb12 (Nat.le_of_ble_eq_true rfl) (Nat.le_of_ble_eq_true rfl) rfl rfl zw_1316 rfl ha dX12_takes_140 (fun f18 => ?_)
    refine z_iload_n dX12_takes_143 rfl 1 rfl ?_
    obtain ⟨a19, e19, hP⟩ := hP
    have k19 := f18 a19 e19
    obtain ⟨i20, hP⟩ := hP
    refine z_iald e19 k19 i20 dX12_takes_144 ?_
    refine z_icmp_ge (tgt := 179) dX12_takes_145 (by decide) (fun h21 => ?_) (fun h21 => ?_)
    · replace hP := hP.1 h21
      refine z_iload_n dX12_takes_179 rfl 1 rfl ?_
      refine z_pc (pc' := 180) rfl ?_
      refine z_aload_n dX12_takes_180 rfl 0 rfl ?_
      refine z_geti (c := 12) (k := 36) (g := 1572) z_cb12 (Nat.le_of_ble_eq_true rfl) (Nat.le_of_ble_eq_true rfl) rfl (Nat.le_of_ble_eq_true rfl) zw_1291 rfl ha dX12_takes_181 ?_
      refine z_iconst (v := 1) dX12_takes_184 (by decide) ?_
      refine z_iadd dX12_takes_185 ?_
      refine z_icmp_ne (tgt := 193) dX12_takes_186 (by decide) (fun h23 => ?_) (fun h23 => ?_)
      · replace hP := hP.2 h23
        refine z_iconst (v := 0) dX12_takes_193 (by decide) ?_
        refine z_sub (lv' := [(0, z_O _), (1, z_I _)]) [0, 1] rfl ?_
        exact v_X12_takes_194  ha (Or.inl rfl) hP
      · replace hP := hP.1 h23
        refine z_iconst (v := 1) dX12_takes_189 (by decide) ?_
        refine z_goto (tgt := 194) dX12_takes_190 (by decide) ?_
        refine z_sub (lv' := [(0, z_O _), (1, z_I _)]) [0, 1] rfl ?_
        exact v_X12_takes_194  ha (Or.inr rfl) hP
    · replace hP := hP.2 h21
      refine z_aload_n dX12_takes_148 rfl 0 rfl ?_
      refine z_pc (pc' := 149) rfl ?_
      refine z_getr (c := 12) (k := 34) (g := 1570) (t := 21) z_cb12 (Nat.le_of_ble_eq_true rfl) (Nat.le_of_ble_eq_true rfl) rfl rfl zw_1289 rfl ha dX12_takes_149 (fun f24 => ?_)
      refine z_sipush (v := 200) dX12_takes_152 (by decide) ?_
      refine z_aload_n dX12_takes_155 rfl 0 rfl ?_
      refine z_getr (c := 12) (k := 59) (g := 1595) (t := 20) z_cb12 (Nat.le_of_ble_eq_true rfl) (Nat.le_of_ble_eq_true rfl) rfl rfl zw_1314 rfl ha dX12_takes_156 (fun f25 => ?_)
      refine z_iload_n dX12_takes_159 rfl 1 rfl ?_
      obtain ⟨a26, e26, hP⟩ := hP
      have k26 := f25 a26 e26
      obtain ⟨i27, hP⟩ := hP
      refine z_iald e26 k26 i27 dX12_takes_160 ?_
      refine z_pc (pc' := 161) rfl ?_
      refine z_imul dX12_takes_161 ?_
      refine z_aload_n dX12_takes_162 rfl 0 rfl ?_
      refine z_getr (c := 12) (k := 60) (g := 1596) (t := 20) z_cb12 (Nat.le_of_ble_eq_true rfl) (Nat.le_of_ble_eq_true rfl) rfl rfl zw_1315 rfl ha dX12_takes_163 (fun f28 => ?_)
      refine z_iload_n dX12_takes_166 rfl 1 rfl ?_
      obtain ⟨a29, e29, hP⟩ := hP
      have k29 := f28 a29 e29
      obtain ⟨i30, hP⟩ := hP
      refine z_iald e29 k29 i30 dX12_takes_167 ?_
      refine z_iadd dX12_takes_168 ?_
      refine z_pc (pc' := 169) rfl ?_
      refine z_iload_n dX12_takes_169 rfl 2 rfl ?_
      refine z_iadd dX12_takes_170 ?_
      refine z_iconst (v := 1) dX12_takes_171 (by decide) ?_
      obtain ⟨a31, e31, hP⟩ := hP
      have k31 := f24 a31 e31
      obtain ⟨i32, hP⟩ := hP
      refine z_zast e31 k31 i32 (Or.inr rfl) dX12_takes_172 ?_
      refine z_nm (fun M_33 g_33 => ?_)
      replace hP := hP M_33 g_33
      have q_33 := z_k3 g_33
      have ha := z_kk q_33 ha
      refine z_iincN (j := 2) (m := 1) (lv' := fun v => [(2, z_I v), (0, z_O _), (1, z_I _)]) dX12_takes_173 rfl (by decide) (Nat.le_of_ble_eq_true rfl) (fun _ => rfl) (fun x_34 y_34 => ?_)
      replace hP := hP x_34 y_34
      refine z_goto (tgt := 138) dX12_takes_176 (by decide) ?_
      refine z_sub (lv' := [(0, z_O _), (1, z_I _), (2, z_I _)]) [1, 2, 0] rfl ?_
      exact ih ha hP
set_option maxRecDepth 100000 in
set_option maxHeartbeats 4000000 in
theorem v_X12_takes_132 {G : z_G} {M0 : z_Mem} {a : Nat} {Post : z_Mem → Prop}   {x1 : Int32} {t0 : Option Nat} {t1 : Int32} {t2 : Int32} {M : z_Mem} (ha : z_ki M a = 13) (f_t0 : z_tr M t0 13) (f_t2 : t2 = 0 ∨ t2 = 1) (hP : P_X12_takes_132 a Post x1 t0 t1 t2 M) : z_V G Y_X12_takes z_X0 M0 (z_QM G M0 (z_PV Post)) M 132 [(0, z_O (some a)), (1, z_I x1)] [z_I t2, z_I t1, z_O t0] := by
  unfold P_X12_takes_132 at hP
  refine z_iadd dX12_takes_132 ?_
  obtain ⟨a35, e35, hP⟩ := hP
  have k35 := f_t0 a35 e35
  refine z_puti (c := 12) (k := 40) (g := 1576) z_cb12 (Nat.le_of_ble_eq_true rfl) (Nat.le_of_ble_eq_true rfl) (Nat.le_of_ble_eq_true rfl) rfl rfl rfl zw_1295 e35 k35 (Or.inl rfl) dX12_takes_133 ?_
  refine z_nm (fun M_36 g_36 => ?_)
  replace hP := hP M_36 g_36
  have q_36 := z_k1 g_36
  have ha := z_kk q_36 ha
  refine z_iconst (v := 0) dX12_takes_136 (by decide) ?_
  refine z_istore_n (lv' := [(2, z_I _), (0, z_O _), (1, z_I _)]) dX12_takes_137 rfl (Nat.le_of_ble_eq_true rfl) rfl ?_
  obtain ⟨n37, hP⟩ := hP
  refine z_sub (lv' := [(0, z_O _), (1, z_I _), (2, z_I _)]) [1, 2, 0] rfl ?_
  exact v_X12_takes_138  n37 ha hP
set_option maxRecDepth 100000 in
set_option maxHeartbeats 4000000 in
theorem v_X12_takes_99 {G : z_G} {M0 : z_Mem} {a : Nat} {Post : z_Mem → Prop}   {x1 : Int32} {M : z_Mem} (ha : z_ki M a = 13) (hP : P_X12_takes_99 a Post x1 M) : z_V G Y_X12_takes z_X0 M0 (z_QM G M0 (z_PV Post)) M 99 [(0, z_O (some a)), (1, z_I x1)] [] := by
  unfold P_X12_takes_99 at hP
  refine z_aload_n dX12_takes_99 rfl 0 rfl ?_
  refine z_getr (c := 12) (k := 63) (g := 1599) (t := 20) z_cb12 (Nat.le_of_ble_eq_true rfl) (Nat.le_of_ble_eq_true rfl) rfl rfl zw_1318 rfl ha dX12_takes_100 (fun f38 => ?_)
  refine z_iload_n dX12_takes_103 rfl 1 rfl ?_
  refine z_iconst (v := 1) dX12_takes_104 (by decide) ?_
  obtain ⟨a39, e39, hP⟩ := hP
  have k39 := f38 a39 e39
  obtain ⟨i40, hP⟩ := hP
  refine z_iast e39 k39 i40 dX12_takes_105 ?_
  refine z_nm (fun M_41 g_41 => ?_)
  replace hP := hP M_41 g_41
  have q_41 := z_k3 g_41
  have ha := z_kk q_41 ha
  refine z_aload_n dX12_takes_106 rfl 0 rfl ?_
  refine z_pc (pc' := 107) rfl ?_
  refine z_getr (c := 12) (k := 33) (g := 1569) (t := 21) z_cb12 (Nat.le_of_ble_eq_true rfl) (Nat.le_of_ble_eq_true rfl) rfl rfl zw_1288 rfl ha dX12_takes_107 (fun f42 => ?_)
  refine z_iload_n dX12_takes_110 rfl 1 rfl ?_
  refine z_iconst (v := 1) dX12_takes_111 (by decide) ?_
  obtain ⟨a43, e43, hP⟩ := hP
  have k43 := f42 a43 e43
  obtain ⟨i44, hP⟩ := hP
  refine z_zast e43 k43 i44 (Or.inr rfl) dX12_takes_112 ?_
  refine z_nm (fun M_45 g_45 => ?_)
  replace hP := hP M_45 g_45
  have q_45 := z_k3 g_45
  have ha := z_kk q_45 ha
  refine z_aload_n dX12_takes_113 rfl 0 rfl ?_
  refine z_dup dX12_takes_114 rfl ?_
  refine z_pc (pc' := 115) rfl ?_
  refine z_geti (c := 12) (k := 40) (g := 1576) z_cb12 (Nat.le_of_ble_eq_true rfl) (Nat.le_of_ble_eq_true rfl) rfl (Nat.le_of_ble_eq_true rfl) zw_1295 rfl ha dX12_takes_115 ?_
  refine z_aload_n dX12_takes_118 rfl 0 rfl ?_
  refine z_getr (c := 12) (k := 67) (g := 1603) (t := 21) z_cb12 (Nat.le_of_ble_eq_true rfl) (Nat.le_of_ble_eq_true rfl) rfl rfl zw_1322 rfl ha dX12_takes_119 (fun f47 => ?_)
  refine z_iload_n dX12_takes_122 rfl 1 rfl ?_
  obtain ⟨a48, e48, hP⟩ := hP
  have k48 := f47 a48 e48
  obtain ⟨i49, hP⟩ := hP
  refine z_zald e48 k48 i49 dX12_takes_123 (fun b49 => ?_)
  refine z_if_eq (tgt := 131) dX12_takes_124 (by decide) (fun h50 => ?_) (fun h50 => ?_)
  · replace hP := hP.1 h50
    refine z_iconst (v := 0) dX12_takes_131 (by decide) ?_
    refine z_sub (lv' := [(0, z_O _), (1, z_I _)]) [0, 1] rfl ?_
    exact v_X12_takes_132  ha (z_trn rfl ha) (Or.inl rfl) hP
  · replace hP := hP.2 h50
    refine z_iconst (v := 1) dX12_takes_127 (by decide) ?_
    refine z_pc (pc' := 128) rfl ?_
    refine z_goto (tgt := 132) dX12_takes_128 (by decide) ?_
    refine z_sub (lv' := [(0, z_O _), (1, z_I _)]) [0, 1] rfl ?_
    exact v_X12_takes_132  ha (z_trn rfl ha) (Or.inr rfl) hP
set_option maxRecDepth 100000 in
set_option maxHeartbeats 4000000 in
theorem v_X12_takes_43 {G : z_G} {M0 : z_Mem} {a : Nat} {Post : z_Mem → Prop}   {x1 : Int32} {M : z_Mem} (ha : z_ki M a = 13) (hP : P_X12_takes_43 a Post x1 M) : z_V G Y_X12_takes z_X0 M0 (z_QM G M0 (z_PV Post)) M 43 [(0, z_O (some a)), (1, z_I x1)] [] := by
  unfold P_X12_takes_43 at hP
  refine z_aload_n dX12_takes_43 rfl 0 rfl ?_
  refine z_getr (c := 12) (k := 64) (g := 1600) (t := 20) z_cb12 (Nat.le_of_ble_eq_true rfl) (Nat.le_of_ble_eq_true rfl) rfl rfl zw_1319 rfl ha dX12_takes_44 (fun f51 => ?_)
  refine z_iload_n dX12_takes_47 rfl 1 rfl ?_
  obtain ⟨a52, e52, hP⟩ := hP
  have k52 := f51 a52 e52
  obtain ⟨i53, hP⟩ := hP
  refine z_iald e52 k52 i53 dX12_takes_48 ?_
  refine z_aload_n dX12_takes_49 rfl 0 rfl ?_
  refine z_geti (c := 12) (k := 30) (g := 1566) z_cb12 (Nat.le_of_ble_eq_true rfl) (Nat.le_of_ble_eq_true rfl) rfl (Nat.le_of_ble_eq_true rfl) zw_1285 rfl ha dX12_takes_50 ?_
  refine z_pc (pc' := 53) rfl ?_
  refine z_icmp_le (tgt := 85) dX12_takes_53 (by decide) (fun h55 => ?_) (fun h55 => ?_)
  · replace hP := hP.1 h55
    refine z_aload_n dX12_takes_85 rfl 0 rfl ?_
    refine z_aload_n dX12_takes_86 rfl 0 rfl ?_
    refine z_getr (c := 12) (k := 64) (g := 1600) (t := 20) z_cb12 (Nat.le_of_ble_eq_true rfl) (Nat.le_of_ble_eq_true rfl) rfl rfl zw_1319 rfl ha dX12_takes_87 (fun f56 => ?_)
    refine z_iload_n dX12_takes_90 rfl 1 rfl ?_
    obtain ⟨a57, e57, hP⟩ := hP
    have k57 := f56 a57 e57
    obtain ⟨i58, hP⟩ := hP
    refine z_iald e57 k57 i58 dX12_takes_91 ?_
    refine z_wts (fun hT59 _ => ?_)
    refine z_cVb (c := 12) (n := 1) (Y1 := Y_X12_isByKey) (st := []) rfl ha z_cb12 (Nat.le_of_ble_eq_true rfl) rfl (s_X12_isByKey ha hP) rfl ⟨z_dc_X12_isByKey, ⟨(Nat.le_of_ble_eq_true rfl), (Nat.le_of_ble_eq_true rfl)⟩, (Nat.le_of_ble_eq_true rfl)⟩ rfl zw_1658 zw_1660 zp_41 zw_12 zw_1661 dX12_takes_92 (fun x_59 M_59 b59 hP _ x59 => ?_)
    have ha := x59.k (k := 12) hT59 ha
    refine z_pc (pc' := 95) rfl ?_
    refine z_if_ne (tgt := 99) dX12_takes_95 (by decide) (fun h60 => ?_) (fun h60 => ?_)
    · replace hP := hP.2 h60
      refine z_sub (lv' := [(0, z_O _), (1, z_I _)]) [0, 1] rfl ?_
      exact v_X12_takes_99  ha hP
    · replace hP := hP.1 h60
      exact z_retv rfl dX12_takes_98 hP
  · replace hP := hP.2 h55
    refine z_aload_n dX12_takes_56 rfl 0 rfl ?_
    refine z_aload_n dX12_takes_57 rfl 0 rfl ?_
    refine z_geti (c := 12) (k := 30) (g := 1566) z_cb12 (Nat.le_of_ble_eq_true rfl) (Nat.le_of_ble_eq_true rfl) rfl (Nat.le_of_ble_eq_true rfl) zw_1285 rfl ha dX12_takes_58 ?_
    refine z_puti (c := 12) (k := 31) (g := 1567) z_cb12 (Nat.le_of_ble_eq_true rfl) (Nat.le_of_ble_eq_true rfl) (Nat.le_of_ble_eq_true rfl) rfl rfl rfl zw_1286 rfl ha (Or.inl rfl) dX12_takes_61 ?_
    refine z_nm (fun M_62 g_62 => ?_)
    replace hP := hP M_62 g_62
    have q_62 := z_k1 g_62
    have ha := z_kk q_62 ha
    refine z_aload_n dX12_takes_64 rfl 0 rfl ?_
    refine z_aload_n dX12_takes_65 rfl 0 rfl ?_
    refine z_pc (pc' := 66) rfl ?_
    refine z_getr (c := 12) (k := 64) (g := 1600) (t := 20) z_cb12 (Nat.le_of_ble_eq_true rfl) (Nat.le_of_ble_eq_true rfl) rfl rfl zw_1319 rfl ha dX12_takes_66 (fun f63 => ?_)
    refine z_iload_n dX12_takes_69 rfl 1 rfl ?_
    obtain ⟨a64, e64, hP⟩ := hP
    have k64 := f63 a64 e64
    obtain ⟨i65, hP⟩ := hP
    refine z_iald e64 k64 i65 dX12_takes_70 ?_
    refine z_puti (c := 12) (k := 30) (g := 1566) z_cb12 (Nat.le_of_ble_eq_true rfl) (Nat.le_of_ble_eq_true rfl) (Nat.le_of_ble_eq_true rfl) rfl rfl rfl zw_1285 rfl ha (Or.inl rfl) dX12_takes_71 ?_
    refine z_nm (fun M_66 g_66 => ?_)
    replace hP := hP M_66 g_66
    have q_66 := z_k1 g_66
    have ha := z_kk q_66 ha
    refine z_aload_n dX12_takes_74 rfl 0 rfl ?_
    refine z_aload_n dX12_takes_75 rfl 0 rfl ?_
    refine z_pc (pc' := 76) rfl ?_
    refine z_geti (c := 12) (k := 0) (g := 1536) z_cb12 (Nat.le_of_ble_eq_true rfl) (Nat.le_of_ble_eq_true rfl) rfl (Nat.le_of_ble_eq_true rfl) zw_1255 rfl ha dX12_takes_76 ?_
    refine z_puti (c := 12) (k := 32) (g := 1568) z_cb12 (Nat.le_of_ble_eq_true rfl) (Nat.le_of_ble_eq_true rfl) (Nat.le_of_ble_eq_true rfl) rfl rfl rfl zw_1287 rfl ha (Or.inl rfl) dX12_takes_79 ?_
    refine z_nm (fun M_68 g_68 => ?_)
    replace hP := hP M_68 g_68
    have q_68 := z_k1 g_68
    have ha := z_kk q_68 ha
    refine z_goto (tgt := 99) dX12_takes_82 (by decide) ?_
    refine z_sub (lv' := [(0, z_O _), (1, z_I _)]) [0, 1] rfl ?_
    exact v_X12_takes_99  ha hP
set_option maxRecDepth 100000 in
set_option maxHeartbeats 4000000 in
theorem s_X12_takes {G : z_G} {M : z_Mem} {a : Nat} {p1 : Int32} {Post : z_Mem → Prop} (ha : z_ki M a = 13) (hP : P_X12_takes a p1 M Post) : z_Mt G Y_X12_takes M [z_O (some a), z_I p1] (z_PV Post) := by
  refine z_ofV (by decide) (Nat.le_of_ble_eq_true rfl) ?_
  unfold P_X12_takes at hP
  refine z_sub (lv' := [(0, z_O (some a)), (1, z_I p1)]) [0, 1] rfl ?_
  refine z_aload_n dX12_takes_0 rfl 0 rfl ?_
  refine z_getr (c := 12) (k := 63) (g := 1599) (t := 20) z_cb12 (Nat.le_of_ble_eq_true rfl) (Nat.le_of_ble_eq_true rfl) rfl rfl zw_1318 rfl ha dX12_takes_1 (fun f69 => ?_)
  refine z_iload_n dX12_takes_4 rfl 1 rfl ?_
  refine z_iconst (v := 2) dX12_takes_5 (by decide) ?_
  obtain ⟨a70, e70, hP⟩ := hP
  have k70 := f69 a70 e70
  obtain ⟨i71, hP⟩ := hP
  refine z_iast e70 k70 i71 dX12_takes_6 ?_
  refine z_nm (fun M_72 g_72 => ?_)
  replace hP := hP M_72 g_72
  have q_72 := z_k3 g_72
  have ha := z_kk q_72 ha
  refine z_aload_n dX12_takes_7 rfl 0 rfl ?_
  refine z_pc (pc' := 8) rfl ?_
  refine z_geti (c := 12) (k := 26) (g := 1562) z_cb12 (Nat.le_of_ble_eq_true rfl) (Nat.le_of_ble_eq_true rfl) rfl (Nat.le_of_ble_eq_true rfl) zw_1281 rfl ha dX12_takes_8 ?_
  refine z_iconst (v := 1) dX12_takes_11 (by decide) ?_
  refine z_icmp_eq (tgt := 16) dX12_takes_12 (by decide) (fun h74 => ?_) (fun h74 => ?_)
  · replace hP := hP.1 h74
    refine z_aload_n dX12_takes_16 rfl 0 rfl ?_
    refine z_aload_n dX12_takes_17 rfl 0 rfl ?_
    refine z_getr (c := 12) (k := 57) (g := 1593) (t := 20) z_cb12 (Nat.le_of_ble_eq_true rfl) (Nat.le_of_ble_eq_true rfl) rfl rfl zw_1312 rfl ha dX12_takes_18 (fun f75 => ?_)
    refine z_iload_n dX12_takes_21 rfl 1 rfl ?_
    refine z_pc (pc' := 22) rfl ?_
    obtain ⟨a76, e76, hP⟩ := hP
    have k76 := f75 a76 e76
    obtain ⟨i77, hP⟩ := hP
    refine z_iald e76 k76 i77 dX12_takes_22 ?_
    refine z_puti (c := 12) (k := 39) (g := 1575) z_cb12 (Nat.le_of_ble_eq_true rfl) (Nat.le_of_ble_eq_true rfl) (Nat.le_of_ble_eq_true rfl) rfl rfl rfl zw_1294 rfl ha (Or.inl rfl) dX12_takes_23 ?_
    refine z_nm (fun M_78 g_78 => ?_)
    replace hP := hP M_78 g_78
    have q_78 := z_k1 g_78
    have ha := z_kk q_78 ha
    refine z_aload_n dX12_takes_26 rfl 0 rfl ?_
    refine z_getr (c := 12) (k := 66) (g := 1602) (t := 21) z_cb12 (Nat.le_of_ble_eq_true rfl) (Nat.le_of_ble_eq_true rfl) rfl rfl zw_1321 rfl ha dX12_takes_27 (fun f79 => ?_)
    refine z_iload_n dX12_takes_30 rfl 1 rfl ?_
    obtain ⟨a80, e80, hP⟩ := hP
    have k80 := f79 a80 e80
    obtain ⟨i81, hP⟩ := hP
    refine z_zald e80 k80 i81 dX12_takes_31 (fun b81 => ?_)
    refine z_pc (pc' := 32) rfl ?_
    refine z_if_eq (tgt := 43) dX12_takes_32 (by decide) (fun h82 => ?_) (fun h82 => ?_)
    · replace hP := hP.1 h82
      refine z_sub (lv' := [(0, z_O _), (1, z_I _)]) [0, 1] rfl ?_
      exact v_X12_takes_43  ha hP
    · replace hP := hP.2 h82
      refine z_aload_n dX12_takes_35 rfl 0 rfl ?_
      refine z_getb (c := 12) (k := 28) (g := 1564) z_cb12 (Nat.le_of_ble_eq_true rfl) (Nat.le_of_ble_eq_true rfl) rfl rfl zw_1283 rfl ha dX12_takes_36 (fun b83 => ?_)
      refine z_if_ne (tgt := 43) dX12_takes_39 (by decide) (fun h84 => ?_) (fun h84 => ?_)
      · replace hP := hP.2 h84
        refine z_sub (lv' := [(0, z_O _), (1, z_I _)]) [0, 1] rfl ?_
        exact v_X12_takes_43  ha hP
      · replace hP := hP.1 h84
        exact z_retv rfl dX12_takes_42 hP
  · replace hP := hP.2 h74
    exact z_retv rfl dX12_takes_15 hP
def P_X12_hears_124 (a : Nat) (Post : z_Mem → Prop)  (x1 : Int32) (M : z_Mem) : Prop := (((z_fi M 1564 a) = 0 → P_X12_answers a x1 6 0 M fun M_3 => (Post M_3)) ∧ (¬ (z_fi M 1564 a) = 0 → P_X12_answers a x1 6 1 M fun M_4 => (Post M_4)))
def P_X12_hears_106 (a : Nat) (Post : z_Mem → Prop)  (x1 : Int32) (x4 : Int32) (t0 : Option Nat) (t1 : Int32) (M : z_Mem) : Prop := z_nn t0 fun a5 => (∀ M_6 : z_Mem, M_6 = z_sfi M 1564 a5 t1 → ((((z_fi M_6 1564 a) = 0 → P_X12_hears_124 a Post x1 M_6) ∧ (¬ (z_fi M_6 1564 a) = 0 → z_nn (z_fr M_6 1565 a) fun a10 => (vp_in x4 (z_ln M_6 a10) ∧ (∀ M_12 : z_Mem, M_12 = z_sai M_6 a10 ((x4 : Int32).toNatClampNeg) 1 → (P_X12_hears_124 a Post x1 M_12)))))))
def P_X12_hears_105 (a : Nat) (Post : z_Mem → Prop)  (x1 : Int32) (x4 : Int32) (t0 : Option Nat) (M : z_Mem) : Prop := P_X12_hears_106 a Post x1 x4 t0 0 M
def P_X12_hears_80 (a : Nat) (Post : z_Mem → Prop)  (x1 : Int32) (x4 : Int32) (M : z_Mem) : Prop := ∀ M_13 : z_Mem, M_13 = z_sfi M 1562 a 1 → (((x4 < 0 → P_X12_hears_105 a Post x1 x4 (some a) M_13) ∧ (¬ x4 < 0 → z_nn (z_fr M_13 1565 a) fun a16 => (vp_in x4 (z_ln M_13 a16) ∧ ((((z_ai M_13 a16 ((x4 : Int32).toNatClampNeg)) = 0 → P_X12_hears_106 a Post x1 x4 (some a) 1 M_13) ∧ (¬ (z_ai M_13 a16 ((x4 : Int32).toNatClampNeg)) = 0 → P_X12_hears_105 a Post x1 x4 (some a) M_13)))))))
def P_X12_hears_12 (a : Nat) (Post : z_Mem → Prop)  (x1 : Int32) (x2 : Int32) (t0 : Int32) (M : z_Mem) : Prop := ∀ x_19 : Int32, x_19 = ((x2 / 2) - 1) → ((((z_fi M 1562 a) = 2 → Post M) ∧ (¬ (z_fi M 1562 a) = 2 → (((z_fi M 1562 a) = 1 → (((z_fi M 1564 a) = 0 → P_X12_answers a x1 6 0 M fun M_30 => (Post M_30)) ∧ (¬ (z_fi M 1564 a) = 0 → P_X12_answers a x1 6 1 M fun M_31 => (Post M_31)))) ∧ (¬ (z_fi M 1562 a) = 1 → (((z_fi M 1563 a) = 0 → P_X12_hears_80 a Post x1 x_19 M) ∧ (¬ (z_fi M 1563 a) = 0 → ((t0 = 0 → P_X12_answers a x1 5 0 M fun M_27 => (Post M_27)) ∧ (¬ t0 = 0 → P_X12_hears_80 a Post x1 x_19 M)))))))))
set_option maxRecDepth 100000 in
def P_X12_hears (a : Nat) (p1 : Int32) (p2 : Int32) (M : z_Mem) (Post : z_Mem → Prop) : Prop := (((p2 - p2 / 2 * 2) = 1 → P_X12_hears_12 a Post p1 p2 1 M) ∧ (¬ (p2 - p2 / 2 * 2) = 1 → P_X12_hears_12 a Post p1 p2 0 M))
set_option maxRecDepth 100000 in
set_option maxHeartbeats 4000000 in
theorem v_X12_hears_124 {G : z_G} {M0 : z_Mem} {a : Nat} {Post : z_Mem → Prop}   {x1 : Int32} {M : z_Mem} (ha : z_ki M a = 13) (hP : P_X12_hears_124 a Post x1 M) : z_V G Y_X12_hears z_X0 M0 (z_QM G M0 (z_PV Post)) M 124 [(0, z_O (some a)), (1, z_I x1)] [] := by
  unfold P_X12_hears_124 at hP
  refine z_aload_n dX12_hears_124 rfl 0 rfl ?_
  refine z_iload_n dX12_hears_125 rfl 1 rfl ?_
  refine z_bipush (v := 6) dX12_hears_126 (by decide) ?_
  refine z_aload_n dX12_hears_128 rfl 0 rfl ?_
  refine z_getb (c := 12) (k := 28) (g := 1564) z_cb12 (Nat.le_of_ble_eq_true rfl) (Nat.le_of_ble_eq_true rfl) rfl rfl zw_1283 rfl ha dX12_hears_129 (fun b1 => ?_)
  refine z_if_eq (tgt := 139) dX12_hears_132 (by decide) (fun h2 => ?_) (fun h2 => ?_)
  · replace hP := hP.1 h2
    refine z_iconst (v := 0) dX12_hears_139 (by decide) ?_
    refine z_pc (pc' := 140) rfl ?_
    refine z_wts (fun hT3 _ => ?_)
    refine z_cVv (c := 12) (n := 3) (Y1 := Y_X12_answers) (st := []) rfl ha z_cb12 (Nat.le_of_ble_eq_true rfl) rfl (s_X12_answers ha hP) rfl ⟨z_dc_X12_answers, ⟨(Nat.le_of_ble_eq_true rfl), (Nat.le_of_ble_eq_true rfl)⟩, (Nat.le_of_ble_eq_true rfl)⟩ rfl zw_1594 zw_1596 zp_34 zw_12 zw_1597 dX12_hears_140 (fun M_3 hP _ x3 => ?_)
    have ha := x3.k (k := 12) hT3 ha
    exact z_retv rfl dX12_hears_143 hP
  · replace hP := hP.2 h2
    refine z_iconst (v := 1) dX12_hears_135 (by decide) ?_
    refine z_pc (pc' := 136) rfl ?_
    refine z_goto (tgt := 140) dX12_hears_136 (by decide) ?_
    refine z_wts (fun hT4 _ => ?_)
    refine z_cVv (c := 12) (n := 3) (Y1 := Y_X12_answers) (st := []) rfl ha z_cb12 (Nat.le_of_ble_eq_true rfl) rfl (s_X12_answers ha hP) rfl ⟨z_dc_X12_answers, ⟨(Nat.le_of_ble_eq_true rfl), (Nat.le_of_ble_eq_true rfl)⟩, (Nat.le_of_ble_eq_true rfl)⟩ rfl zw_1594 zw_1596 zp_34 zw_12 zw_1597 dX12_hears_140 (fun M_4 hP _ x4 => ?_)
    have ha := x4.k (k := 12) hT4 ha
    exact z_retv rfl dX12_hears_143 hP
set_option maxRecDepth 100000 in
set_option maxHeartbeats 4000000 in
theorem v_X12_hears_106 {G : z_G} {M0 : z_Mem} {a : Nat} {Post : z_Mem → Prop}   {x1 : Int32} {x4 : Int32} {t0 : Option Nat} {t1 : Int32} {M : z_Mem} (ha : z_ki M a = 13) (f_t0 : z_tr M t0 13) (f_t1 : t1 = 0 ∨ t1 = 1) (hP : P_X12_hears_106 a Post x1 x4 t0 t1 M) : z_V G Y_X12_hears z_X0 M0 (z_QM G M0 (z_PV Post)) M 106 [(0, z_O (some a)), (1, z_I x1), (4, z_I x4)] [z_I t1, z_O t0] := by
  unfold P_X12_hears_106 at hP
  obtain ⟨a5, e5, hP⟩ := hP
  have k5 := f_t0 a5 e5
  refine z_putb (c := 12) (k := 28) (g := 1564) z_cb12 (Nat.le_of_ble_eq_true rfl) (Nat.le_of_ble_eq_true rfl) (Nat.le_of_ble_eq_true rfl) rfl rfl rfl zw_1283 e5 k5 f_t1 (Or.inl rfl) dX12_hears_106 ?_
  refine z_nm (fun M_6 g_6 => ?_)
  replace hP := hP M_6 g_6
  have q_6 := z_k1 g_6
  have ha := z_kk q_6 ha
  refine z_aload_n dX12_hears_109 rfl 0 rfl ?_
  refine z_getb (c := 12) (k := 28) (g := 1564) z_cb12 (Nat.le_of_ble_eq_true rfl) (Nat.le_of_ble_eq_true rfl) rfl rfl zw_1283 rfl ha dX12_hears_110 (fun b7 => ?_)
  refine z_if_eq (tgt := 124) dX12_hears_113 (by decide) (fun h8 => ?_) (fun h8 => ?_)
  · replace hP := hP.1 h8
    refine z_sub (lv' := [(0, z_O _), (1, z_I _)]) [0, 1] rfl ?_
    exact v_X12_hears_124  ha hP
  · replace hP := hP.2 h8
    refine z_aload_n dX12_hears_116 rfl 0 rfl ?_
    refine z_getr (c := 12) (k := 29) (g := 1565) (t := 21) z_cb12 (Nat.le_of_ble_eq_true rfl) (Nat.le_of_ble_eq_true rfl) rfl rfl zw_1284 rfl ha dX12_hears_117 (fun f9 => ?_)
    refine z_iload dX12_hears_120 2 rfl ?_
    refine z_pc (pc' := 122) rfl ?_
    refine z_iconst (v := 1) dX12_hears_122 (by decide) ?_
    obtain ⟨a10, e10, hP⟩ := hP
    have k10 := f9 a10 e10
    obtain ⟨i11, hP⟩ := hP
    refine z_zast e10 k10 i11 (Or.inr rfl) dX12_hears_123 ?_
    refine z_nm (fun M_12 g_12 => ?_)
    replace hP := hP M_12 g_12
    have q_12 := z_k3 g_12
    have ha := z_kk q_12 ha
    refine z_sub (lv' := [(0, z_O _), (1, z_I _)]) [0, 1] rfl ?_
    exact v_X12_hears_124  ha hP
set_option maxRecDepth 100000 in
set_option maxHeartbeats 4000000 in
theorem v_X12_hears_105 {G : z_G} {M0 : z_Mem} {a : Nat} {Post : z_Mem → Prop}   {x1 : Int32} {x4 : Int32} {t0 : Option Nat} {M : z_Mem} (ha : z_ki M a = 13) (f_t0 : z_tr M t0 13) (hP : P_X12_hears_105 a Post x1 x4 t0 M) : z_V G Y_X12_hears z_X0 M0 (z_QM G M0 (z_PV Post)) M 105 [(0, z_O (some a)), (1, z_I x1), (4, z_I x4)] [z_O t0] := by
  unfold P_X12_hears_105 at hP
  refine z_iconst (v := 0) dX12_hears_105 (by decide) ?_
  refine z_sub (lv' := [(0, z_O _), (1, z_I _), (4, z_I _)]) [0, 1, 2] rfl ?_
  exact v_X12_hears_106  ha f_t0 (Or.inl rfl) hP
set_option maxRecDepth 100000 in
set_option maxHeartbeats 4000000 in
theorem v_X12_hears_80 {G : z_G} {M0 : z_Mem} {a : Nat} {Post : z_Mem → Prop}   {x1 : Int32} {x4 : Int32} {M : z_Mem} (ha : z_ki M a = 13) (hP : P_X12_hears_80 a Post x1 x4 M) : z_V G Y_X12_hears z_X0 M0 (z_QM G M0 (z_PV Post)) M 80 [(0, z_O (some a)), (1, z_I x1), (4, z_I x4)] [] := by
  unfold P_X12_hears_80 at hP
  refine z_aload_n dX12_hears_80 rfl 0 rfl ?_
  refine z_iconst (v := 1) dX12_hears_81 (by decide) ?_
  refine z_puti (c := 12) (k := 26) (g := 1562) z_cb12 (Nat.le_of_ble_eq_true rfl) (Nat.le_of_ble_eq_true rfl) (Nat.le_of_ble_eq_true rfl) rfl rfl rfl zw_1281 rfl ha (Or.inl rfl) dX12_hears_82 ?_
  refine z_nm (fun M_13 g_13 => ?_)
  replace hP := hP M_13 g_13
  have q_13 := z_k1 g_13
  have ha := z_kk q_13 ha
  refine z_aload_n dX12_hears_85 rfl 0 rfl ?_
  refine z_iload dX12_hears_86 2 rfl ?_
  refine z_if_lt (tgt := 105) dX12_hears_88 (by decide) (fun h14 => ?_) (fun h14 => ?_)
  · replace hP := hP.1 h14
    refine z_sub (lv' := [(0, z_O _), (1, z_I _), (4, z_I _)]) [0, 1, 2] rfl ?_
    exact v_X12_hears_105  ha (z_trn rfl ha) hP
  · replace hP := hP.2 h14
    refine z_aload_n dX12_hears_91 rfl 0 rfl ?_
    refine z_pc (pc' := 92) rfl ?_
    refine z_getr (c := 12) (k := 29) (g := 1565) (t := 21) z_cb12 (Nat.le_of_ble_eq_true rfl) (Nat.le_of_ble_eq_true rfl) rfl rfl zw_1284 rfl ha dX12_hears_92 (fun f15 => ?_)
    refine z_iload dX12_hears_95 2 rfl ?_
    obtain ⟨a16, e16, hP⟩ := hP
    have k16 := f15 a16 e16
    obtain ⟨i17, hP⟩ := hP
    refine z_zald e16 k16 i17 dX12_hears_97 (fun b17 => ?_)
    refine z_if_ne (tgt := 105) dX12_hears_98 (by decide) (fun h18 => ?_) (fun h18 => ?_)
    · replace hP := hP.2 h18
      refine z_sub (lv' := [(0, z_O _), (1, z_I _), (4, z_I _)]) [0, 1, 2] rfl ?_
      exact v_X12_hears_105  ha (z_trn rfl ha) hP
    · replace hP := hP.1 h18
      refine z_iconst (v := 1) dX12_hears_101 (by decide) ?_
      refine z_goto (tgt := 106) dX12_hears_102 (by decide) ?_
      refine z_sub (lv' := [(0, z_O _), (1, z_I _), (4, z_I _)]) [0, 1, 2] rfl ?_
      exact v_X12_hears_106  ha (z_trn rfl ha) (Or.inr rfl) hP
set_option maxRecDepth 100000 in
set_option maxHeartbeats 4000000 in
theorem v_X12_hears_12 {G : z_G} {M0 : z_Mem} {a : Nat} {Post : z_Mem → Prop}   {x1 : Int32} {x2 : Int32} {t0 : Int32} {M : z_Mem} (ha : z_ki M a = 13) (f_t0 : t0 = 0 ∨ t0 = 1) (hP : P_X12_hears_12 a Post x1 x2 t0 M) : z_V G Y_X12_hears z_X0 M0 (z_QM G M0 (z_PV Post)) M 12 [(0, z_O (some a)), (1, z_I x1), (2, z_I x2)] [z_I t0] := by
  unfold P_X12_hears_12 at hP
  refine z_istore_n (lv' := [(3, z_I _), (0, z_O _), (1, z_I _), (2, z_I _)]) dX12_hears_12 rfl (Nat.le_of_ble_eq_true rfl) rfl ?_
  refine z_iload_n dX12_hears_13 rfl 3 rfl ?_
  refine z_iconst (v := 2) dX12_hears_14 (by decide) ?_
  refine z_idiv dX12_hears_15 (by decide) ?_
  refine z_iconst (v := 1) dX12_hears_16 (by decide) ?_
  refine z_isub dX12_hears_17 ?_
  refine z_pc (pc' := 18) rfl ?_
  refine z_topi (fun x_19 y_19 => ?_)
  replace hP := hP x_19 y_19
  refine z_istore (lv' := [(4, z_I _), (3, z_I _), (0, z_O _), (1, z_I _), (2, z_I _)]) dX12_hears_18 (Nat.le_of_ble_eq_true rfl) rfl ?_
  refine z_aload_n dX12_hears_20 rfl 2 rfl ?_
  refine z_geti (c := 12) (k := 26) (g := 1562) z_cb12 (Nat.le_of_ble_eq_true rfl) (Nat.le_of_ble_eq_true rfl) rfl (Nat.le_of_ble_eq_true rfl) zw_1281 rfl ha dX12_hears_21 ?_
  refine z_iconst (v := 2) dX12_hears_24 (by decide) ?_
  refine z_icmp_ne (tgt := 29) dX12_hears_25 (by decide) (fun h21 => ?_) (fun h21 => ?_)
  · replace hP := hP.2 h21
    refine z_aload_n dX12_hears_29 rfl 2 rfl ?_
    refine z_geti (c := 12) (k := 26) (g := 1562) z_cb12 (Nat.le_of_ble_eq_true rfl) (Nat.le_of_ble_eq_true rfl) rfl (Nat.le_of_ble_eq_true rfl) zw_1281 rfl ha dX12_hears_30 ?_
    refine z_pc (pc' := 33) rfl ?_
    refine z_iconst (v := 1) dX12_hears_33 (by decide) ?_
    refine z_icmp_ne (tgt := 59) dX12_hears_34 (by decide) (fun h23 => ?_) (fun h23 => ?_)
    · replace hP := hP.2 h23
      refine z_aload_n dX12_hears_59 rfl 2 rfl ?_
      refine z_getb (c := 12) (k := 27) (g := 1563) z_cb12 (Nat.le_of_ble_eq_true rfl) (Nat.le_of_ble_eq_true rfl) rfl rfl zw_1282 rfl ha dX12_hears_60 (fun b24 => ?_)
      refine z_if_eq (tgt := 80) dX12_hears_63 (by decide) (fun h25 => ?_) (fun h25 => ?_)
      · replace hP := hP.1 h25
        refine z_sub (lv' := [(0, z_O _), (1, z_I _), (4, z_I _)]) [2, 3, 0] rfl ?_
        exact v_X12_hears_80  ha hP
      · replace hP := hP.2 h25
        refine z_iload_n dX12_hears_66 rfl 1 rfl ?_
        refine z_if_ne (tgt := 80) dX12_hears_67 (by decide) (fun h26 => ?_) (fun h26 => ?_)
        · replace hP := hP.2 h26
          refine z_sub (lv' := [(0, z_O _), (1, z_I _), (4, z_I _)]) [2, 3, 0] rfl ?_
          exact v_X12_hears_80  ha hP
        · replace hP := hP.1 h26
          refine z_aload_n dX12_hears_70 rfl 2 rfl ?_
          refine z_iload_n dX12_hears_71 rfl 3 rfl ?_
          refine z_pc (pc' := 72) rfl ?_
          refine z_iconst (v := 5) dX12_hears_72 (by decide) ?_
          refine z_iconst (v := 0) dX12_hears_73 (by decide) ?_
          refine z_wts (fun hT27 _ => ?_)
          refine z_cVv (c := 12) (n := 3) (Y1 := Y_X12_answers) (st := []) rfl ha z_cb12 (Nat.le_of_ble_eq_true rfl) rfl (s_X12_answers ha hP) rfl ⟨z_dc_X12_answers, ⟨(Nat.le_of_ble_eq_true rfl), (Nat.le_of_ble_eq_true rfl)⟩, (Nat.le_of_ble_eq_true rfl)⟩ rfl zw_1594 zw_1596 zp_34 zw_12 zw_1597 dX12_hears_74 (fun M_27 hP _ x27 => ?_)
          have ha := x27.k (k := 12) hT27 ha
          refine z_goto (tgt := 143) dX12_hears_77 (by decide) ?_
          exact z_retv rfl dX12_hears_143 hP
    · replace hP := hP.1 h23
      refine z_aload_n dX12_hears_37 rfl 2 rfl ?_
      refine z_iload_n dX12_hears_38 rfl 3 rfl ?_
      refine z_bipush (v := 6) dX12_hears_39 (by decide) ?_
      refine z_aload_n dX12_hears_41 rfl 2 rfl ?_
      refine z_getb (c := 12) (k := 28) (g := 1564) z_cb12 (Nat.le_of_ble_eq_true rfl) (Nat.le_of_ble_eq_true rfl) rfl rfl zw_1283 rfl ha dX12_hears_42 (fun b28 => ?_)
      refine z_pc (pc' := 45) rfl ?_
      refine z_if_eq (tgt := 52) dX12_hears_45 (by decide) (fun h29 => ?_) (fun h29 => ?_)
      · replace hP := hP.1 h29
        refine z_iconst (v := 0) dX12_hears_52 (by decide) ?_
        refine z_wts (fun hT30 _ => ?_)
        refine z_cVv (c := 12) (n := 3) (Y1 := Y_X12_answers) (st := []) rfl ha z_cb12 (Nat.le_of_ble_eq_true rfl) rfl (s_X12_answers ha hP) rfl ⟨z_dc_X12_answers, ⟨(Nat.le_of_ble_eq_true rfl), (Nat.le_of_ble_eq_true rfl)⟩, (Nat.le_of_ble_eq_true rfl)⟩ rfl zw_1594 zw_1596 zp_34 zw_12 zw_1597 dX12_hears_53 (fun M_30 hP _ x30 => ?_)
        have ha := x30.k (k := 12) hT30 ha
        refine z_goto (tgt := 143) dX12_hears_56 (by decide) ?_
        exact z_retv rfl dX12_hears_143 hP
      · replace hP := hP.2 h29
        refine z_iconst (v := 1) dX12_hears_48 (by decide) ?_
        refine z_goto (tgt := 53) dX12_hears_49 (by decide) ?_
        refine z_wts (fun hT31 _ => ?_)
        refine z_cVv (c := 12) (n := 3) (Y1 := Y_X12_answers) (st := []) rfl ha z_cb12 (Nat.le_of_ble_eq_true rfl) rfl (s_X12_answers ha hP) rfl ⟨z_dc_X12_answers, ⟨(Nat.le_of_ble_eq_true rfl), (Nat.le_of_ble_eq_true rfl)⟩, (Nat.le_of_ble_eq_true rfl)⟩ rfl zw_1594 zw_1596 zp_34 zw_12 zw_1597 dX12_hears_53 (fun M_31 hP _ x31 => ?_)
        have ha := x31.k (k := 12) hT31 ha
        refine z_goto (tgt := 143) dX12_hears_56 (by decide) ?_
        exact z_retv rfl dX12_hears_143 hP
  · replace hP := hP.1 h21
    exact z_retv rfl dX12_hears_28 hP
set_option maxRecDepth 100000 in
set_option maxHeartbeats 4000000 in
theorem s_X12_hears {G : z_G} {M : z_Mem} {a : Nat} {p1 : Int32} {p2 : Int32} {Post : z_Mem → Prop} (ha : z_ki M a = 13) (hP : P_X12_hears a p1 p2 M Post) : z_Mt G Y_X12_hears M [z_O (some a), z_I p1, z_I p2] (z_PV Post) := by
  refine z_ofV (by decide) (Nat.le_of_ble_eq_true rfl) ?_
  unfold P_X12_hears at hP
  refine z_sub (lv' := [(0, z_O (some a)), (1, z_I p1), (2, z_I p2)]) [0, 1, 2] rfl ?_
  refine z_iload_n dX12_hears_0 rfl 2 rfl ?_
  refine z_iconst (v := 2) dX12_hears_1 (by decide) ?_
  refine z_irem dX12_hears_2 (by decide) ?_
  refine z_iconst (v := 1) dX12_hears_3 (by decide) ?_
  refine z_icmp_ne (tgt := 11) dX12_hears_4 (by decide) (fun h32 => ?_) (fun h32 => ?_)
  · replace hP := hP.2 h32
    refine z_iconst (v := 0) dX12_hears_11 (by decide) ?_
    refine z_sub (lv' := [(0, z_O _), (1, z_I _), (2, z_I _)]) [0, 1, 2] rfl ?_
    exact v_X12_hears_12  ha (Or.inl rfl) hP
  · replace hP := hP.1 h32
    refine z_iconst (v := 1) dX12_hears_7 (by decide) ?_
    refine z_goto (tgt := 12) dX12_hears_8 (by decide) ?_
    refine z_sub (lv' := [(0, z_O _), (1, z_I _), (2, z_I _)]) [0, 1, 2] rfl ?_
    exact v_X12_hears_12  ha (Or.inr rfl) hP
def P_X12_arrivesAtServer_46 (a : Nat) (Post : z_Mem → Prop)  (x2 : Int32) (x3 : Int32) (M : z_Mem) : Prop := (((z_fi M 1562 a) = 3 → P_X12_answers a x3 9 0 M fun M_11 => (Post M_11)) ∧ (¬ (z_fi M 1562 a) = 3 → ((x2 = 3 → (((z_fi M 1562 a) = 1 → P_X12_answers a x3 8 0 M fun M_10 => (Post M_10)) ∧ (¬ (z_fi M 1562 a) = 1 → ((x2 = 4 → ∀ M_9 : z_Mem, M_9 = z_sfi M 1562 a 2 → (Post M_9)) ∧ (¬ x2 = 4 → Post M))))) ∧ (¬ x2 = 3 → ((x2 = 4 → ∀ M_5 : z_Mem, M_5 = z_sfi M 1562 a 2 → (Post M_5)) ∧ (¬ x2 = 4 → Post M))))))
set_option maxRecDepth 100000 in
def P_X12_arrivesAtServer (a : Nat) (p1 : Int32) (M : z_Mem) (Post : z_Mem → Prop) : Prop := z_nn (z_fr M 1548 a) fun a13 => (vp_in p1 (z_ln M a13) ∧ (∀ x_15 : Int32, x_15 = (z_ai M a13 ((p1 : Int32).toNatClampNeg)) → (z_nn (z_fr M 1550 a) fun a17 => (vp_in p1 (z_ln M a17) ∧ (∀ x_19 : Int32, x_19 = (z_ai M a17 ((p1 : Int32).toNatClampNeg)) → (((x_15 = 1 → z_nn (z_fr M 1549 a) fun a27 => (vp_in p1 (z_ln M a27) ∧ (P_X12_hears a x_19 (z_ai M a27 ((p1 : Int32).toNatClampNeg)) M fun M_29 => (Post M_29)))) ∧ (¬ x_15 = 1 → ((x_15 = 2 → z_nn (z_fr M 1549 a) fun a23 => (vp_in p1 (z_ln M a23) ∧ (P_X12_takes a (z_ai M a23 ((p1 : Int32).toNatClampNeg)) M fun M_25 => (P_X12_arrivesAtServer_46 a Post x_15 x_19 M_25)))) ∧ (¬ x_15 = 2 → P_X12_arrivesAtServer_46 a Post x_15 x_19 M))))))))))
set_option maxRecDepth 100000 in
set_option maxHeartbeats 4000000 in
theorem v_X12_arrivesAtServer_46 {G : z_G} {M0 : z_Mem} {a : Nat} {Post : z_Mem → Prop}   {x2 : Int32} {x3 : Int32} {M : z_Mem} (ha : z_ki M a = 13) (hP : P_X12_arrivesAtServer_46 a Post x2 x3 M) : z_V G Y_X12_arrivesAtServer z_X0 M0 (z_QM G M0 (z_PV Post)) M 46 [(0, z_O (some a)), (2, z_I x2), (3, z_I x3)] [] := by
  unfold P_X12_arrivesAtServer_46 at hP
  refine z_aload_n dX12_arrivesAtServer_46 rfl 0 rfl ?_
  refine z_geti (c := 12) (k := 26) (g := 1562) z_cb12 (Nat.le_of_ble_eq_true rfl) (Nat.le_of_ble_eq_true rfl) rfl (Nat.le_of_ble_eq_true rfl) zw_1281 rfl ha dX12_arrivesAtServer_47 ?_
  refine z_iconst (v := 3) dX12_arrivesAtServer_50 (by decide) ?_
  refine z_icmp_ne (tgt := 65) dX12_arrivesAtServer_51 (by decide) (fun h2 => ?_) (fun h2 => ?_)
  · replace hP := hP.2 h2
    refine z_iload_n dX12_arrivesAtServer_65 rfl 1 rfl ?_
    refine z_iconst (v := 3) dX12_arrivesAtServer_66 (by decide) ?_
    refine z_icmp_ne (tgt := 89) dX12_arrivesAtServer_67 (by decide) (fun h3 => ?_) (fun h3 => ?_)
    · replace hP := hP.2 h3
      refine z_iload_n dX12_arrivesAtServer_89 rfl 1 rfl ?_
      refine z_pc (pc' := 90) rfl ?_
      refine z_iconst (v := 4) dX12_arrivesAtServer_90 (by decide) ?_
      refine z_icmp_ne (tgt := 99) dX12_arrivesAtServer_91 (by decide) (fun h4 => ?_) (fun h4 => ?_)
      · replace hP := hP.2 h4
        exact z_retv rfl dX12_arrivesAtServer_99 hP
      · replace hP := hP.1 h4
        refine z_aload_n dX12_arrivesAtServer_94 rfl 0 rfl ?_
        refine z_iconst (v := 2) dX12_arrivesAtServer_95 (by decide) ?_
        refine z_puti (c := 12) (k := 26) (g := 1562) z_cb12 (Nat.le_of_ble_eq_true rfl) (Nat.le_of_ble_eq_true rfl) (Nat.le_of_ble_eq_true rfl) rfl rfl rfl zw_1281 rfl ha (Or.inl rfl) dX12_arrivesAtServer_96 ?_
        refine z_nm (fun M_5 g_5 => ?_)
        replace hP := hP M_5 g_5
        have q_5 := z_k1 g_5
        have ha := z_kk q_5 ha
        exact z_retv rfl dX12_arrivesAtServer_99 hP
    · replace hP := hP.1 h3
      refine z_aload_n dX12_arrivesAtServer_70 rfl 0 rfl ?_
      refine z_pc (pc' := 71) rfl ?_
      refine z_geti (c := 12) (k := 26) (g := 1562) z_cb12 (Nat.le_of_ble_eq_true rfl) (Nat.le_of_ble_eq_true rfl) rfl (Nat.le_of_ble_eq_true rfl) zw_1281 rfl ha dX12_arrivesAtServer_71 ?_
      refine z_iconst (v := 1) dX12_arrivesAtServer_74 (by decide) ?_
      refine z_icmp_ne (tgt := 89) dX12_arrivesAtServer_75 (by decide) (fun h7 => ?_) (fun h7 => ?_)
      · replace hP := hP.2 h7
        refine z_iload_n dX12_arrivesAtServer_89 rfl 1 rfl ?_
        refine z_iconst (v := 4) dX12_arrivesAtServer_90 (by decide) ?_
        refine z_icmp_ne (tgt := 99) dX12_arrivesAtServer_91 (by decide) (fun h8 => ?_) (fun h8 => ?_)
        · replace hP := hP.2 h8
          exact z_retv rfl dX12_arrivesAtServer_99 hP
        · replace hP := hP.1 h8
          refine z_aload_n dX12_arrivesAtServer_94 rfl 0 rfl ?_
          refine z_iconst (v := 2) dX12_arrivesAtServer_95 (by decide) ?_
          refine z_pc (pc' := 96) rfl ?_
          refine z_puti (c := 12) (k := 26) (g := 1562) z_cb12 (Nat.le_of_ble_eq_true rfl) (Nat.le_of_ble_eq_true rfl) (Nat.le_of_ble_eq_true rfl) rfl rfl rfl zw_1281 rfl ha (Or.inl rfl) dX12_arrivesAtServer_96 ?_
          refine z_nm (fun M_9 g_9 => ?_)
          replace hP := hP M_9 g_9
          have q_9 := z_k1 g_9
          have ha := z_kk q_9 ha
          exact z_retv rfl dX12_arrivesAtServer_99 hP
      · replace hP := hP.1 h7
        refine z_aload_n dX12_arrivesAtServer_78 rfl 0 rfl ?_
        refine z_iload_n dX12_arrivesAtServer_79 rfl 2 rfl ?_
        refine z_bipush (v := 8) dX12_arrivesAtServer_80 (by decide) ?_
        refine z_iconst (v := 0) dX12_arrivesAtServer_82 (by decide) ?_
        refine z_pc (pc' := 83) rfl ?_
        refine z_wts (fun hT10 _ => ?_)
        refine z_cVv (c := 12) (n := 3) (Y1 := Y_X12_answers) (st := []) rfl ha z_cb12 (Nat.le_of_ble_eq_true rfl) rfl (s_X12_answers ha hP) rfl ⟨z_dc_X12_answers, ⟨(Nat.le_of_ble_eq_true rfl), (Nat.le_of_ble_eq_true rfl)⟩, (Nat.le_of_ble_eq_true rfl)⟩ rfl zw_1594 zw_1596 zp_34 zw_12 zw_1597 dX12_arrivesAtServer_83 (fun M_10 hP _ x10 => ?_)
        have ha := x10.k (k := 12) hT10 ha
        refine z_goto (tgt := 99) dX12_arrivesAtServer_86 (by decide) ?_
        exact z_retv rfl dX12_arrivesAtServer_99 hP
  · replace hP := hP.1 h2
    refine z_aload_n dX12_arrivesAtServer_54 rfl 0 rfl ?_
    refine z_iload_n dX12_arrivesAtServer_55 rfl 2 rfl ?_
    refine z_bipush (v := 9) dX12_arrivesAtServer_56 (by decide) ?_
    refine z_pc (pc' := 58) rfl ?_
    refine z_iconst (v := 0) dX12_arrivesAtServer_58 (by decide) ?_
    refine z_wts (fun hT11 _ => ?_)
    refine z_cVv (c := 12) (n := 3) (Y1 := Y_X12_answers) (st := []) rfl ha z_cb12 (Nat.le_of_ble_eq_true rfl) rfl (s_X12_answers ha hP) rfl ⟨z_dc_X12_answers, ⟨(Nat.le_of_ble_eq_true rfl), (Nat.le_of_ble_eq_true rfl)⟩, (Nat.le_of_ble_eq_true rfl)⟩ rfl zw_1594 zw_1596 zp_34 zw_12 zw_1597 dX12_arrivesAtServer_59 (fun M_11 hP _ x11 => ?_)
    have ha := x11.k (k := 12) hT11 ha
    refine z_goto (tgt := 99) dX12_arrivesAtServer_62 (by decide) ?_
    exact z_retv rfl dX12_arrivesAtServer_99 hP
set_option maxRecDepth 100000 in
set_option maxHeartbeats 4000000 in
theorem s_X12_arrivesAtServer {G : z_G} {M : z_Mem} {a : Nat} {p1 : Int32} {Post : z_Mem → Prop} (ha : z_ki M a = 13) (hP : P_X12_arrivesAtServer a p1 M Post) : z_Mt G Y_X12_arrivesAtServer M [z_O (some a), z_I p1] (z_PV Post) := by
  refine z_ofV (by decide) (Nat.le_of_ble_eq_true rfl) ?_
  unfold P_X12_arrivesAtServer at hP
  refine z_sub (lv' := [(0, z_O (some a)), (1, z_I p1)]) [0, 1] rfl ?_
  refine z_aload_n dX12_arrivesAtServer_0 rfl 0 rfl ?_
  refine z_getr (c := 12) (k := 12) (g := 1548) (t := 20) z_cb12 (Nat.le_of_ble_eq_true rfl) (Nat.le_of_ble_eq_true rfl) rfl rfl zw_1267 rfl ha dX12_arrivesAtServer_1 (fun f12 => ?_)
  refine z_iload_n dX12_arrivesAtServer_4 rfl 1 rfl ?_
  obtain ⟨a13, e13, hP⟩ := hP
  have k13 := f12 a13 e13
  obtain ⟨i14, hP⟩ := hP
  refine z_iald e13 k13 i14 dX12_arrivesAtServer_5 ?_
  refine z_topi (fun x_15 y_15 => ?_)
  replace hP := hP x_15 y_15
  refine z_istore_n (lv' := [(2, z_I _), (0, z_O _), (1, z_I _)]) dX12_arrivesAtServer_6 rfl (Nat.le_of_ble_eq_true rfl) rfl ?_
  refine z_aload_n dX12_arrivesAtServer_7 rfl 1 rfl ?_
  refine z_pc (pc' := 8) rfl ?_
  refine z_getr (c := 12) (k := 14) (g := 1550) (t := 20) z_cb12 (Nat.le_of_ble_eq_true rfl) (Nat.le_of_ble_eq_true rfl) rfl rfl zw_1269 rfl ha dX12_arrivesAtServer_8 (fun f16 => ?_)
  refine z_iload_n dX12_arrivesAtServer_11 rfl 2 rfl ?_
  obtain ⟨a17, e17, hP⟩ := hP
  have k17 := f16 a17 e17
  obtain ⟨i18, hP⟩ := hP
  refine z_iald e17 k17 i18 dX12_arrivesAtServer_12 ?_
  refine z_topi (fun x_19 y_19 => ?_)
  replace hP := hP x_19 y_19
  refine z_istore_n (lv' := [(3, z_I _), (2, z_I _), (0, z_O _), (1, z_I _)]) dX12_arrivesAtServer_13 rfl (Nat.le_of_ble_eq_true rfl) rfl ?_
  refine z_iload_n dX12_arrivesAtServer_14 rfl 1 rfl ?_
  refine z_iconst (v := 1) dX12_arrivesAtServer_15 (by decide) ?_
  refine z_pc (pc' := 16) rfl ?_
  refine z_icmp_ne (tgt := 31) dX12_arrivesAtServer_16 (by decide) (fun h20 => ?_) (fun h20 => ?_)
  · replace hP := hP.2 h20
    refine z_iload_n dX12_arrivesAtServer_31 rfl 1 rfl ?_
    refine z_iconst (v := 2) dX12_arrivesAtServer_32 (by decide) ?_
    refine z_icmp_ne (tgt := 46) dX12_arrivesAtServer_33 (by decide) (fun h21 => ?_) (fun h21 => ?_)
    · replace hP := hP.2 h21
      refine z_sub (lv' := [(0, z_O _), (2, z_I _), (3, z_I _)]) [2, 1, 0] rfl ?_
      exact v_X12_arrivesAtServer_46  ha hP
    · replace hP := hP.1 h21
      refine z_aload_n dX12_arrivesAtServer_36 rfl 2 rfl ?_
      refine z_aload_n dX12_arrivesAtServer_37 rfl 2 rfl ?_
      refine z_getr (c := 12) (k := 13) (g := 1549) (t := 20) z_cb12 (Nat.le_of_ble_eq_true rfl) (Nat.le_of_ble_eq_true rfl) rfl rfl zw_1268 rfl ha dX12_arrivesAtServer_38 (fun f22 => ?_)
      refine z_iload_n dX12_arrivesAtServer_41 rfl 3 rfl ?_
      refine z_pc (pc' := 42) rfl ?_
      obtain ⟨a23, e23, hP⟩ := hP
      have k23 := f22 a23 e23
      obtain ⟨i24, hP⟩ := hP
      refine z_iald e23 k23 i24 dX12_arrivesAtServer_42 ?_
      refine z_wts (fun hT25 _ => ?_)
      refine z_cVv (c := 12) (n := 1) (Y1 := Y_X12_takes) (st := []) rfl ha z_cb12 (Nat.le_of_ble_eq_true rfl) rfl (s_X12_takes ha hP) rfl ⟨z_dc_X12_takes, ⟨(Nat.le_of_ble_eq_true rfl), (Nat.le_of_ble_eq_true rfl)⟩, (Nat.le_of_ble_eq_true rfl)⟩ rfl zw_1654 zw_1656 zp_40 zw_12 zw_1657 dX12_arrivesAtServer_43 (fun M_25 hP _ x25 => ?_)
      have ha := x25.k (k := 12) hT25 ha
      refine z_sub (lv' := [(0, z_O _), (2, z_I _), (3, z_I _)]) [2, 1, 0] rfl ?_
      exact v_X12_arrivesAtServer_46  ha hP
  · replace hP := hP.1 h20
    refine z_aload_n dX12_arrivesAtServer_19 rfl 2 rfl ?_
    refine z_iload_n dX12_arrivesAtServer_20 rfl 0 rfl ?_
    refine z_aload_n dX12_arrivesAtServer_21 rfl 2 rfl ?_
    refine z_getr (c := 12) (k := 13) (g := 1549) (t := 20) z_cb12 (Nat.le_of_ble_eq_true rfl) (Nat.le_of_ble_eq_true rfl) rfl rfl zw_1268 rfl ha dX12_arrivesAtServer_22 (fun f26 => ?_)
    refine z_iload_n dX12_arrivesAtServer_25 rfl 3 rfl ?_
    obtain ⟨a27, e27, hP⟩ := hP
    have k27 := f26 a27 e27
    obtain ⟨i28, hP⟩ := hP
    refine z_iald e27 k27 i28 dX12_arrivesAtServer_26 ?_
    refine z_pc (pc' := 27) rfl ?_
    refine z_wts (fun hT29 _ => ?_)
    refine z_cVv (c := 12) (n := 2) (Y1 := Y_X12_hears) (st := []) rfl ha z_cb12 (Nat.le_of_ble_eq_true rfl) rfl (s_X12_hears ha hP) rfl ⟨z_dc_X12_hears, ⟨(Nat.le_of_ble_eq_true rfl), (Nat.le_of_ble_eq_true rfl)⟩, (Nat.le_of_ble_eq_true rfl)⟩ rfl zw_1650 zw_1652 zp_39 zw_12 zw_1653 dX12_arrivesAtServer_27 (fun M_29 hP _ x29 => ?_)
    have ha := x29.k (k := 12) hT29 ha
    exact z_retv rfl dX12_arrivesAtServer_30 hP
set_option maxRecDepth 100000 in
def P_X12_setCookies (a : Nat) (p1 : Int32) (M : z_Mem) (Post : Int32 → z_Mem → Prop) : Prop := ∀ M_1 : z_Mem, M_1 = z_sfi M 1630 a 0 → (∀ x_3 : Int32, x_3 = (z_fi M_1 1563 a) → (∀ M_4 : z_Mem, M_4 = z_sfi M_1 1563 a p1 → (Post x_3 M_4)))
set_option maxRecDepth 100000 in
set_option maxHeartbeats 4000000 in
theorem s_X12_setCookies {G : z_G} {M : z_Mem} {a : Nat} {p1 : Int32} {Post : Int32 → z_Mem → Prop} (ha : z_ki M a = 13) (f_p1 : p1 = 0 ∨ p1 = 1) (hP : P_X12_setCookies a p1 M Post) : z_Mt G Y_X12_setCookies M [z_O (some a), z_I p1] (z_PB Post) := by
  refine z_ofV (by decide) (Nat.le_of_ble_eq_true rfl) ?_
  unfold P_X12_setCookies at hP
  refine z_sub (lv' := [(0, z_O (some a)), (1, z_I p1)]) [0, 1] rfl ?_
  refine z_aload_n dX12_setCookies_0 rfl 0 rfl ?_
  refine z_iconst (v := 0) dX12_setCookies_1 (by decide) ?_
  refine z_puti (c := 12) (k := 94) (g := 1630) z_cb12 (Nat.le_of_ble_eq_true rfl) (Nat.le_of_ble_eq_true rfl) (Nat.le_of_ble_eq_true rfl) rfl rfl rfl zw_1349 rfl ha (Or.inl rfl) dX12_setCookies_2 ?_
  refine z_nm (fun M_1 g_1 => ?_)
  replace hP := hP M_1 g_1
  have q_1 := z_k1 g_1
  have ha := z_kk q_1 ha
  refine z_aload_n dX12_setCookies_5 rfl 0 rfl ?_
  refine z_getb (c := 12) (k := 27) (g := 1563) z_cb12 (Nat.le_of_ble_eq_true rfl) (Nat.le_of_ble_eq_true rfl) rfl rfl zw_1282 rfl ha dX12_setCookies_6 (fun b2 => ?_)
  refine z_topi (fun x_3 y_3 => ?_)
  replace hP := hP x_3 y_3
  refine z_istore_n (lv' := [(2, z_I _), (0, z_O _), (1, z_I _)]) dX12_setCookies_9 rfl (Nat.le_of_ble_eq_true rfl) rfl ?_
  refine z_pc (pc' := 10) rfl ?_
  refine z_aload_n dX12_setCookies_10 rfl 1 rfl ?_
  refine z_iload_n dX12_setCookies_11 rfl 2 rfl ?_
  refine z_putb (c := 12) (k := 27) (g := 1563) z_cb12 (Nat.le_of_ble_eq_true rfl) (Nat.le_of_ble_eq_true rfl) (Nat.le_of_ble_eq_true rfl) rfl rfl rfl zw_1282 rfl ha f_p1 (Or.inl rfl) dX12_setCookies_12 ?_
  refine z_nm (fun M_4 g_4 => ?_)
  replace hP := hP M_4 g_4
  have q_4 := z_k1 g_4
  have ha := z_kk q_4 ha
  refine z_iload_n dX12_setCookies_15 rfl 0 rfl ?_
  exact z_retb rfl (z_bt y_3 b2) dX12_setCookies_16 hP
def P_X12_read_45 (a : Nat) (Post : Int32 → z_Mem → Prop)  (x1 : Int32) (t0 : Int32) (M : z_Mem) : Prop := z_nn (z_fr M 1571 a) fun a2 => (vp_in x1 (z_ln M a2) ∧ (vp_in x1 (z_ln M a2) ∧ (∀ M_5 : z_Mem, M_5 = z_sai M a2 ((x1 : Int32).toNatClampNeg) ((z_ai M a2 ((x1 : Int32).toNatClampNeg)) + t0) → (((t0 ≤ 0 → Post t0 M_5) ∧ (¬ t0 ≤ 0 → (((z_fi M_5 1562 a) = 1 → (((z_fi M_5 1575 a) = (-1) → Post t0 M_5) ∧ (¬ (z_fi M_5 1575 a) = (-1) → P_X12_acknowledges a M_5 fun M_11 => (Post t0 M_11)))) ∧ (¬ (z_fi M_5 1562 a) = 1 → Post t0 M_5))))))))
set_option maxRecDepth 100000 in
def P_X12_read (a : Nat) (p1 : Int32) (p2 : Int32) (M : z_Mem) (Post : Int32 → z_Mem → Prop) : Prop := P_X12_isStream p1 M fun x_12 M_12 => (P_X12_in p2 1 200 M_12 fun x_13 M_13 => (P_X12_goes a x_12 x_13 1 M_13 fun x_14 M_14 => (((x_14 = 0 → Post 0 M_14) ∧ (¬ x_14 = 0 → P_X12_gotOf a p1 M_14 fun x_16 M_16 => (z_nn (z_fr M_16 1571 a) fun a18 => (vp_in p1 (z_ln M_16 a18) ∧ (∀ x_20 : Int32, x_20 = (x_16 - (z_ai M_16 a18 ((p1 : Int32).toNatClampNeg))) → (((x_20 ≤ p2 → P_X12_read_45 a Post p1 x_20 M_16) ∧ (¬ x_20 ≤ p2 → P_X12_read_45 a Post p1 p2 M_16)))))))))))
set_option maxRecDepth 100000 in
set_option maxHeartbeats 4000000 in
theorem v_X12_read_45 {G : z_G} {M0 : z_Mem} {a : Nat} {Post : Int32 → z_Mem → Prop}   {x1 : Int32} {t0 : Int32} {M : z_Mem} (ha : z_ki M a = 13) (hP : P_X12_read_45 a Post x1 t0 M) : z_V G Y_X12_read z_X0 M0 (z_QM G M0 (z_PI Post)) M 45 [(0, z_O (some a)), (1, z_I x1)] [z_I t0] := by
  unfold P_X12_read_45 at hP
  refine z_istore (lv' := [(4, z_I _), (0, z_O _), (1, z_I _)]) dX12_read_45 (Nat.le_of_ble_eq_true rfl) rfl ?_
  refine z_aload_n dX12_read_47 rfl 1 rfl ?_
  refine z_getr (c := 12) (k := 35) (g := 1571) (t := 20) z_cb12 (Nat.le_of_ble_eq_true rfl) (Nat.le_of_ble_eq_true rfl) rfl rfl zw_1290 rfl ha dX12_read_48 (fun f1 => ?_)
  refine z_iload_n dX12_read_51 rfl 2 rfl ?_
  refine z_dup2 dX12_read_52 rfl rfl ?_
  obtain ⟨a2, e2, hP⟩ := hP
  have k2 := f1 a2 e2
  obtain ⟨i3, hP⟩ := hP
  refine z_iald e2 k2 i3 dX12_read_53 ?_
  refine z_pc (pc' := 54) rfl ?_
  refine z_iload dX12_read_54 0 rfl ?_
  refine z_iadd dX12_read_56 ?_
  obtain ⟨i4, hP⟩ := hP
  refine z_iast e2 k2 i4 dX12_read_57 ?_
  refine z_nm (fun M_5 g_5 => ?_)
  replace hP := hP M_5 g_5
  have q_5 := z_k3 g_5
  have ha := z_kk q_5 ha
  refine z_iload dX12_read_58 0 rfl ?_
  refine z_if_le (tgt := 83) dX12_read_60 (by decide) (fun h6 => ?_) (fun h6 => ?_)
  · replace hP := hP.1 h6
    refine z_iload dX12_read_83 0 rfl ?_
    exact z_reti rfl dX12_read_85 hP
  · replace hP := hP.2 h6
    refine z_aload_n dX12_read_63 rfl 1 rfl ?_
    refine z_geti (c := 12) (k := 26) (g := 1562) z_cb12 (Nat.le_of_ble_eq_true rfl) (Nat.le_of_ble_eq_true rfl) rfl (Nat.le_of_ble_eq_true rfl) zw_1281 rfl ha dX12_read_64 ?_
    refine z_pc (pc' := 67) rfl ?_
    refine z_iconst (v := 1) dX12_read_67 (by decide) ?_
    refine z_icmp_ne (tgt := 83) dX12_read_68 (by decide) (fun h8 => ?_) (fun h8 => ?_)
    · replace hP := hP.2 h8
      refine z_iload dX12_read_83 0 rfl ?_
      exact z_reti rfl dX12_read_85 hP
    · replace hP := hP.1 h8
      refine z_aload_n dX12_read_71 rfl 1 rfl ?_
      refine z_geti (c := 12) (k := 39) (g := 1575) z_cb12 (Nat.le_of_ble_eq_true rfl) (Nat.le_of_ble_eq_true rfl) rfl (Nat.le_of_ble_eq_true rfl) zw_1294 rfl ha dX12_read_72 ?_
      refine z_iconst (v := (-1)) dX12_read_75 (by decide) ?_
      refine z_icmp_eq (tgt := 83) dX12_read_76 (by decide) (fun h10 => ?_) (fun h10 => ?_)
      · replace hP := hP.1 h10
        refine z_iload dX12_read_83 0 rfl ?_
        exact z_reti rfl dX12_read_85 hP
      · replace hP := hP.2 h10
        refine z_aload_n dX12_read_79 rfl 1 rfl ?_
        refine z_wts (fun hT11 _ => ?_)
        refine z_cVv (c := 12) (n := 0) (Y1 := Y_X12_acknowledges) (st := []) rfl ha z_cb12 (Nat.le_of_ble_eq_true rfl) rfl (s_X12_acknowledges ha hP) rfl ⟨z_dc_X12_acknowledges, ⟨(Nat.le_of_ble_eq_true rfl), (Nat.le_of_ble_eq_true rfl)⟩, (Nat.le_of_ble_eq_true rfl)⟩ rfl zw_1590 zw_1592 zp_33 zw_12 zw_1593 dX12_read_80 (fun M_11 hP _ x11 => ?_)
        have ha := x11.k (k := 12) hT11 ha
        refine z_pc (pc' := 83) rfl ?_
        refine z_iload dX12_read_83 0 rfl ?_
        exact z_reti rfl dX12_read_85 hP
set_option maxRecDepth 100000 in
set_option maxHeartbeats 4000000 in
theorem s_X12_read {G : z_G} {M : z_Mem} {a : Nat} {p1 : Int32} {p2 : Int32} {Post : Int32 → z_Mem → Prop} (ha : z_ki M a = 13) (hP : P_X12_read a p1 p2 M Post) : z_Mt G Y_X12_read M [z_O (some a), z_I p1, z_I p2] (z_PI Post) := by
  refine z_ofV (by decide) (Nat.le_of_ble_eq_true rfl) ?_
  unfold P_X12_read at hP
  refine z_sub (lv' := [(0, z_O (some a)), (1, z_I p1), (2, z_I p2)]) [0, 1, 2] rfl ?_
  refine z_aload_n dX12_read_0 rfl 0 rfl ?_
  refine z_iload_n dX12_read_1 rfl 1 rfl ?_
  refine z_wts (fun hT12 _ => ?_)
  refine z_cSb (n := 1) (Y1 := Y_X12_isStream) (st := [z_O _]) rfl (s_X12_isStream  hP) rfl ⟨z_dc_X12_isStream, ⟨(Nat.le_of_ble_eq_true rfl), (Nat.le_of_ble_eq_true rfl)⟩, (Nat.le_of_ble_eq_true rfl)⟩ rfl zw_1583 zw_1584 zw_12 zw_1585 dX12_read_2 (fun x_12 M_12 b12 hP _ x12 => ?_)
  have ha := x12.k (k := 12) hT12 ha
  refine z_iload_n dX12_read_5 rfl 2 rfl ?_
  refine z_iconst (v := 1) dX12_read_6 (by decide) ?_
  refine z_sipush (v := 200) dX12_read_7 (by decide) ?_
  refine z_pc (pc' := 10) rfl ?_
  refine z_wts (fun hT13 _ => ?_)
  refine z_cSb (n := 3) (Y1 := Y_X12_in) (st := [z_I _, z_O _]) rfl (s_X12_in  hP) rfl ⟨z_dc_X12_in, ⟨(Nat.le_of_ble_eq_true rfl), (Nat.le_of_ble_eq_true rfl)⟩, (Nat.le_of_ble_eq_true rfl)⟩ rfl zw_1552 zw_1553 zw_12 zw_1554 dX12_read_10 (fun x_13 M_13 b13 hP _ x13 => ?_)
  have ha := x13.k (k := 12) hT13 ha
  refine z_iconst (v := 1) dX12_read_13 (by decide) ?_
  refine z_wts (fun hT14 _ => ?_)
  refine z_cVb (c := 12) (n := 3) (Y1 := Y_X12_goes) (st := []) rfl ha z_cb12 (Nat.le_of_ble_eq_true rfl) rfl (s_X12_goes ha b12 b13 (Or.inr rfl) hP) rfl ⟨z_dc_X12_goes, ⟨(Nat.le_of_ble_eq_true rfl), (Nat.le_of_ble_eq_true rfl)⟩, (Nat.le_of_ble_eq_true rfl)⟩ rfl zw_1555 zw_1557 zp_31 zw_12 zw_1558 dX12_read_14 (fun x_14 M_14 b14 hP _ x14 => ?_)
  have ha := x14.k (k := 12) hT14 ha
  refine z_if_ne (tgt := 22) dX12_read_17 (by decide) (fun h15 => ?_) (fun h15 => ?_)
  · replace hP := hP.2 h15
    refine z_aload_n dX12_read_22 rfl 0 rfl ?_
    refine z_iload_n dX12_read_23 rfl 1 rfl ?_
    refine z_wts (fun hT16 _ => ?_)
    refine z_cVi (c := 12) (n := 1) (Y1 := Y_X12_gotOf) (st := []) rfl ha z_cb12 (Nat.le_of_ble_eq_true rfl) rfl (s_X12_gotOf ha hP) rfl ⟨z_dc_X12_gotOf, ⟨(Nat.le_of_ble_eq_true rfl), (Nat.le_of_ble_eq_true rfl)⟩, (Nat.le_of_ble_eq_true rfl)⟩ rfl zw_1586 zw_1588 zp_32 zw_12 zw_1589 dX12_read_24 (fun x_16 M_16 hP _ x16 => ?_)
    have ha := x16.k (k := 12) hT16 ha
    refine z_pc (pc' := 27) rfl ?_
    refine z_aload_n dX12_read_27 rfl 0 rfl ?_
    refine z_getr (c := 12) (k := 35) (g := 1571) (t := 20) z_cb12 (Nat.le_of_ble_eq_true rfl) (Nat.le_of_ble_eq_true rfl) rfl rfl zw_1290 rfl ha dX12_read_28 (fun f17 => ?_)
    refine z_iload_n dX12_read_31 rfl 1 rfl ?_
    obtain ⟨a18, e18, hP⟩ := hP
    have k18 := f17 a18 e18
    obtain ⟨i19, hP⟩ := hP
    refine z_iald e18 k18 i19 dX12_read_32 ?_
    refine z_isub dX12_read_33 ?_
    refine z_topi (fun x_20 y_20 => ?_)
    replace hP := hP x_20 y_20
    refine z_istore_n (lv' := [(3, z_I _), (0, z_O _), (1, z_I _), (2, z_I _)]) dX12_read_34 rfl (Nat.le_of_ble_eq_true rfl) rfl ?_
    refine z_pc (pc' := 35) rfl ?_
    refine z_iload_n dX12_read_35 rfl 3 rfl ?_
    refine z_iload_n dX12_read_36 rfl 0 rfl ?_
    refine z_icmp_ge (tgt := 44) dX12_read_37 (by decide) (fun h21 => ?_) (fun h21 => ?_)
    · replace hP := hP.1 h21
      refine z_iload_n dX12_read_44 rfl 0 rfl ?_
      refine z_sub (lv' := [(0, z_O _), (1, z_I _)]) [1, 2] rfl ?_
      exact v_X12_read_45  ha hP
    · replace hP := hP.2 h21
      refine z_iload_n dX12_read_40 rfl 3 rfl ?_
      refine z_goto (tgt := 45) dX12_read_41 (by decide) ?_
      refine z_sub (lv' := [(0, z_O _), (1, z_I _)]) [1, 2] rfl ?_
      exact v_X12_read_45  ha hP
  · replace hP := hP.1 h15
    refine z_iconst (v := 0) dX12_read_20 (by decide) ?_
    exact z_reti rfl dX12_read_21 hP
set_option maxRecDepth 100000 in
def P_X12_loseState_12 (a : Nat) (Post : z_Mem → Prop)  : Nat → Int32 → z_Mem → Prop
  | 0, _, _ => False
  | n + 1, x1, M => ((400 ≤ x1 → ∀ M_2 : z_Mem, M_2 = z_sfi M 1572 a (-1) → (∀ M_3 : z_Mem, M_3 = z_sfi M_2 1573 a 0 → (∀ M_4 : z_Mem, M_4 = z_sfi M_3 1574 a (-1) → (∀ M_5 : z_Mem, M_5 = z_sfi M_4 1575 a (-1) → (∀ M_6 : z_Mem, M_6 = z_sfi M_5 1576 a 0 → (Post M_6)))))) ∧ (¬ 400 ≤ x1 → z_nn (z_fr M 1569 a) fun a8 => (vp_in x1 (z_ln M a8) ∧ (∀ M_10 : z_Mem, M_10 = z_sai M a8 ((x1 : Int32).toNatClampNeg) 0 → (∀ x_11 : Int32, x_11 = x1 + 1 → (P_X12_loseState_12 a Post n x_11 M_10))))))
set_option maxRecDepth 100000 in
def P_X12_loseState (a : Nat) (M : z_Mem) (Post : z_Mem → Prop) : Prop := ∀ M_12 : z_Mem, M_12 = z_sfi M 1630 a 0 → (∀ M_13 : z_Mem, M_13 = z_sfi M_12 1562 a 3 → ((∃ n14 : Nat, P_X12_loseState_12 a Post n14 0 M_13)))
set_option maxRecDepth 100000 in
set_option maxHeartbeats 4000000 in
theorem v_X12_loseState_12 {G : z_G} {M0 : z_Mem} {a : Nat} {Post : z_Mem → Prop}   : ∀ (n : Nat) {x1 : Int32} {M : z_Mem}, (z_ki M a = 13) → P_X12_loseState_12 a Post n x1 M → z_V G Y_X12_loseState z_X0 M0 (z_QM G M0 (z_PV Post)) M 12 [(0, z_O (some a)), (1, z_I x1)] [] := by
  intro n
  induction n with
  | zero => intro x1 M ha hP; exact False.elim hP
  | succ n ih =>
    intro x1 M ha hP
    unfold P_X12_loseState_12 at hP
    refine z_iload_n dX12_loseState_12 rfl 1 rfl ?_
    refine z_sipush (v := 400) dX12_loseState_13 (by decide) ?_
    refine z_icmp_ge (tgt := 32) dX12_loseState_16 (by decide) (fun h1 => ?_) (fun h1 => ?_)
    · replace hP := hP.1 h1
      refine z_aload_n dX12_loseState_32 rfl 0 rfl ?_
      refine z_iconst (v := (-1)) dX12_loseState_33 (by decide) ?_
      refine z_puti (c := 12) (k := 36) (g := 1572) z_cb12 (Nat.le_of_ble_eq_true rfl) (Nat.le_of_ble_eq_true rfl) (Nat.le_of_ble_eq_true rfl) rfl rfl rfl zw_1291 rfl ha (Or.inl rfl) dX12_loseState_34 ?_
      refine z_nm (fun M_2 g_2 => ?_)
      replace hP := hP M_2 g_2
      have q_2 := z_k1 g_2
      have ha := z_kk q_2 ha
      refine z_aload_n dX12_loseState_37 rfl 0 rfl ?_
      refine z_pc (pc' := 38) rfl ?_
      refine z_iconst (v := 0) dX12_loseState_38 (by decide) ?_
      refine z_puti (c := 12) (k := 37) (g := 1573) z_cb12 (Nat.le_of_ble_eq_true rfl) (Nat.le_of_ble_eq_true rfl) (Nat.le_of_ble_eq_true rfl) rfl rfl rfl zw_1292 rfl ha (Or.inl rfl) dX12_loseState_39 ?_
      refine z_nm (fun M_3 g_3 => ?_)
      replace hP := hP M_3 g_3
      have q_3 := z_k1 g_3
      have ha := z_kk q_3 ha
      refine z_aload_n dX12_loseState_42 rfl 0 rfl ?_
      refine z_iconst (v := (-1)) dX12_loseState_43 (by decide) ?_
      refine z_puti (c := 12) (k := 38) (g := 1574) z_cb12 (Nat.le_of_ble_eq_true rfl) (Nat.le_of_ble_eq_true rfl) (Nat.le_of_ble_eq_true rfl) rfl rfl rfl zw_1293 rfl ha (Or.inl rfl) dX12_loseState_44 ?_
      refine z_nm (fun M_4 g_4 => ?_)
      replace hP := hP M_4 g_4
      have q_4 := z_k1 g_4
      have ha := z_kk q_4 ha
      refine z_aload_n dX12_loseState_47 rfl 0 rfl ?_
      refine z_pc (pc' := 48) rfl ?_
      refine z_iconst (v := (-1)) dX12_loseState_48 (by decide) ?_
      refine z_puti (c := 12) (k := 39) (g := 1575) z_cb12 (Nat.le_of_ble_eq_true rfl) (Nat.le_of_ble_eq_true rfl) (Nat.le_of_ble_eq_true rfl) rfl rfl rfl zw_1294 rfl ha (Or.inl rfl) dX12_loseState_49 ?_
      refine z_nm (fun M_5 g_5 => ?_)
      replace hP := hP M_5 g_5
      have q_5 := z_k1 g_5
      have ha := z_kk q_5 ha
      refine z_aload_n dX12_loseState_52 rfl 0 rfl ?_
      refine z_iconst (v := 0) dX12_loseState_53 (by decide) ?_
      refine z_puti (c := 12) (k := 40) (g := 1576) z_cb12 (Nat.le_of_ble_eq_true rfl) (Nat.le_of_ble_eq_true rfl) (Nat.le_of_ble_eq_true rfl) rfl rfl rfl zw_1295 rfl ha (Or.inl rfl) dX12_loseState_54 ?_
      refine z_nm (fun M_6 g_6 => ?_)
      replace hP := hP M_6 g_6
      have q_6 := z_k1 g_6
      have ha := z_kk q_6 ha
      exact z_retv rfl dX12_loseState_57 hP
    · replace hP := hP.2 h1
      refine z_aload_n dX12_loseState_19 rfl 0 rfl ?_
      refine z_getr (c := 12) (k := 33) (g := 1569) (t := 21) z_cb12 (Nat.le_of_ble_eq_true rfl) (Nat.le_of_ble_eq_true rfl) rfl rfl zw_1288 rfl ha dX12_loseState_20 (fun f7 => ?_)
      refine z_iload_n dX12_loseState_23 rfl 1 rfl ?_
      refine z_iconst (v := 0) dX12_loseState_24 (by decide) ?_
      refine z_pc (pc' := 25) rfl ?_
      obtain ⟨a8, e8, hP⟩ := hP
      have k8 := f7 a8 e8
      obtain ⟨i9, hP⟩ := hP
      refine z_zast e8 k8 i9 (Or.inl rfl) dX12_loseState_25 ?_
      refine z_nm (fun M_10 g_10 => ?_)
      replace hP := hP M_10 g_10
      have q_10 := z_k3 g_10
      have ha := z_kk q_10 ha
      refine z_iincN (j := 1) (m := 1) (lv' := fun v => [(1, z_I v), (0, z_O _)]) dX12_loseState_26 rfl (by decide) (Nat.le_of_ble_eq_true rfl) (fun _ => rfl) (fun x_11 y_11 => ?_)
      replace hP := hP x_11 y_11
      refine z_goto (tgt := 12) dX12_loseState_29 (by decide) ?_
      refine z_sub (lv' := [(0, z_O _), (1, z_I _)]) [1, 0] rfl ?_
      exact ih ha hP
set_option maxRecDepth 100000 in
set_option maxHeartbeats 4000000 in
theorem s_X12_loseState {G : z_G} {M : z_Mem} {a : Nat} {Post : z_Mem → Prop} (ha : z_ki M a = 13) (hP : P_X12_loseState a M Post) : z_Mt G Y_X12_loseState M [z_O (some a)] (z_PV Post) := by
  refine z_ofV (by decide) (Nat.le_of_ble_eq_true rfl) ?_
  unfold P_X12_loseState at hP
  refine z_sub (lv' := [(0, z_O (some a))]) [0] rfl ?_
  refine z_aload_n dX12_loseState_0 rfl 0 rfl ?_
  refine z_iconst (v := 0) dX12_loseState_1 (by decide) ?_
  refine z_puti (c := 12) (k := 94) (g := 1630) z_cb12 (Nat.le_of_ble_eq_true rfl) (Nat.le_of_ble_eq_true rfl) (Nat.le_of_ble_eq_true rfl) rfl rfl rfl zw_1349 rfl ha (Or.inl rfl) dX12_loseState_2 ?_
  refine z_nm (fun M_12 g_12 => ?_)
  replace hP := hP M_12 g_12
  have q_12 := z_k1 g_12
  have ha := z_kk q_12 ha
  refine z_aload_n dX12_loseState_5 rfl 0 rfl ?_
  refine z_iconst (v := 3) dX12_loseState_6 (by decide) ?_
  refine z_puti (c := 12) (k := 26) (g := 1562) z_cb12 (Nat.le_of_ble_eq_true rfl) (Nat.le_of_ble_eq_true rfl) (Nat.le_of_ble_eq_true rfl) rfl rfl rfl zw_1281 rfl ha (Or.inl rfl) dX12_loseState_7 ?_
  refine z_nm (fun M_13 g_13 => ?_)
  replace hP := hP M_13 g_13
  have q_13 := z_k1 g_13
  have ha := z_kk q_13 ha
  refine z_pc (pc' := 10) rfl ?_
  refine z_iconst (v := 0) dX12_loseState_10 (by decide) ?_
  refine z_istore_n (lv' := [(1, z_I _), (0, z_O _)]) dX12_loseState_11 rfl (Nat.le_of_ble_eq_true rfl) rfl ?_
  obtain ⟨n14, hP⟩ := hP
  refine z_sub (lv' := [(0, z_O _), (1, z_I _)]) [1, 0] rfl ?_
  exact v_X12_loseState_12  n14 ha hP
def P_X12_measures_105 (a : Nat) (Post : z_Mem → Prop)  (x1 : Int32) (x2 : Int32) (t0 : Option Nat) (t1 : Int32) (t2 : Int32) (t3 : Int32) (M : z_Mem) : Prop := z_nn (z_fr M 1611 a) fun a2 => (vp_in x1 (z_ln M a2) ∧ (z_nn t0 fun a4 => (vp_in t1 (z_ln M a4) ∧ (∀ M_6 : z_Mem, M_6 = z_sai M a4 ((t1 : Int32).toNatClampNeg) (t2 + (t3 - ((z_ai M a2 ((x1 : Int32).toNatClampNeg)) / 4))) → (z_nn (z_fr M_6 1610 a) fun a8 => (vp_in x1 (z_ln M_6 a8) ∧ (z_nn (z_fr M_6 1610 a) fun a11 => (vp_in x1 (z_ln M_6 a11) ∧ (vp_in x1 (z_ln M_6 a8) ∧ (∀ M_14 : z_Mem, M_14 = z_sai M_6 a8 ((x1 : Int32).toNatClampNeg) ((z_ai M_6 a8 ((x1 : Int32).toNatClampNeg)) + (x2 - ((z_ai M_6 a11 ((x1 : Int32).toNatClampNeg)) / 8))) → (Post M_14)))))))))))
def P_X12_measures_75 (a : Nat) (Post : z_Mem → Prop)  (x1 : Int32) (x2 : Int32) (t0 : Option Nat) (t1 : Int32) (t2 : Int32) (M : z_Mem) : Prop := z_nn t0 fun a15 => (vp_in t1 (z_ln M a15) ∧ (∀ M_17 : z_Mem, M_17 = z_sai M a15 ((t1 : Int32).toNatClampNeg) t2 → (z_nn (z_fr M_17 1610 a) fun a19 => (vp_in x1 (z_ln M_17 a19) ∧ (∀ x_21 : Int32, x_21 = (x2 - ((z_ai M_17 a19 ((x1 : Int32).toNatClampNeg)) / 8)) → (z_nn (z_fr M_17 1611 a) fun a23 => (vp_in x1 (z_ln M_17 a23) ∧ (((0 ≤ x_21 → P_X12_measures_105 a Post x1 x2 (z_fr M_17 1611 a) x1 (z_ai M_17 a23 ((x1 : Int32).toNatClampNeg)) x_21 M_17) ∧ (¬ 0 ≤ x_21 → P_X12_measures_105 a Post x1 x2 (z_fr M_17 1611 a) x1 (z_ai M_17 a23 ((x1 : Int32).toNatClampNeg)) (-x_21) M_17))))))))))
set_option maxRecDepth 100000 in
def P_X12_measures (a : Nat) (p1 : Int32) (p2 : Int32) (M : z_Mem) (Post : z_Mem → Prop) : Prop := z_nn (z_fr M 1613 a) fun a27 => (vp_in p1 (z_ln M a27) ∧ (∀ M_29 : z_Mem, M_29 = z_sai M a27 ((p1 : Int32).toNatClampNeg) p2 → (z_nn (z_fr M_29 1614 a) fun a31 => (vp_in p1 (z_ln M_29 a31) ∧ ((((z_ai M_29 a31 ((p1 : Int32).toNatClampNeg)) = 0 → z_nn (z_fr M_29 1614 a) fun a43 => (vp_in p1 (z_ln M_29 a43) ∧ (∀ M_45 : z_Mem, M_45 = z_sai M_29 a43 ((p1 : Int32).toNatClampNeg) 1 → (z_nn (z_fr M_45 1610 a) fun a47 => (vp_in p1 (z_ln M_45 a47) ∧ (∀ M_49 : z_Mem, M_49 = z_sai M_45 a47 ((p1 : Int32).toNatClampNeg) (8 * p2) → (z_nn (z_fr M_49 1611 a) fun a51 => (vp_in p1 (z_ln M_49 a51) ∧ (∀ M_53 : z_Mem, M_53 = z_sai M_49 a51 ((p1 : Int32).toNatClampNeg) (2 * p2) → (z_nn (z_fr M_53 1612 a) fun a55 => (vp_in p1 (z_ln M_53 a55) ∧ (∀ M_57 : z_Mem, M_57 = z_sai M_53 a55 ((p1 : Int32).toNatClampNeg) p2 → (Post M_57))))))))))))) ∧ (¬ (z_ai M_29 a31 ((p1 : Int32).toNatClampNeg)) = 0 → z_nn (z_fr M_29 1612 a) fun a36 => (vp_in p1 (z_ln M_29 a36) ∧ ((((z_ai M_29 a36 ((p1 : Int32).toNatClampNeg)) ≤ p2 → z_nn (z_fr M_29 1612 a) fun a40 => (vp_in p1 (z_ln M_29 a40) ∧ (P_X12_measures_75 a Post p1 p2 (z_fr M_29 1612 a) p1 (z_ai M_29 a40 ((p1 : Int32).toNatClampNeg)) M_29))) ∧ (¬ (z_ai M_29 a36 ((p1 : Int32).toNatClampNeg)) ≤ p2 → P_X12_measures_75 a Post p1 p2 (z_fr M_29 1612 a) p1 p2 M_29)))))))))))
set_option maxRecDepth 100000 in
set_option maxHeartbeats 4000000 in
theorem v_X12_measures_105 {G : z_G} {M0 : z_Mem} {a : Nat} {Post : z_Mem → Prop}   {x1 : Int32} {x2 : Int32} {t0 : Option Nat} {t1 : Int32} {t2 : Int32} {t3 : Int32} {M : z_Mem} (ha : z_ki M a = 13) (f_t0 : z_tr M t0 20) (hP : P_X12_measures_105 a Post x1 x2 t0 t1 t2 t3 M) : z_V G Y_X12_measures z_X0 M0 (z_QM G M0 (z_PV Post)) M 105 [(0, z_O (some a)), (1, z_I x1), (2, z_I x2)] [z_I t3, z_I t2, z_I t1, z_O t0] := by
  unfold P_X12_measures_105 at hP
  refine z_aload_n dX12_measures_105 rfl 0 rfl ?_
  refine z_getr (c := 12) (k := 75) (g := 1611) (t := 20) z_cb12 (Nat.le_of_ble_eq_true rfl) (Nat.le_of_ble_eq_true rfl) rfl rfl zw_1330 rfl ha dX12_measures_106 (fun f1 => ?_)
  refine z_iload_n dX12_measures_109 rfl 1 rfl ?_
  obtain ⟨a2, e2, hP⟩ := hP
  have k2 := f1 a2 e2
  obtain ⟨i3, hP⟩ := hP
  refine z_iald e2 k2 i3 dX12_measures_110 ?_
  refine z_iconst (v := 4) dX12_measures_111 (by decide) ?_
  refine z_idiv dX12_measures_112 (by decide) ?_
  refine z_pc (pc' := 113) rfl ?_
  refine z_isub dX12_measures_113 ?_
  refine z_iadd dX12_measures_114 ?_
  obtain ⟨a4, e4, hP⟩ := hP
  have k4 := f_t0 a4 e4
  obtain ⟨i5, hP⟩ := hP
  refine z_iast e4 k4 i5 dX12_measures_115 ?_
  refine z_nm (fun M_6 g_6 => ?_)
  replace hP := hP M_6 g_6
  have q_6 := z_k3 g_6
  have ha := z_kk q_6 ha
  refine z_aload_n dX12_measures_116 rfl 0 rfl ?_
  refine z_getr (c := 12) (k := 74) (g := 1610) (t := 20) z_cb12 (Nat.le_of_ble_eq_true rfl) (Nat.le_of_ble_eq_true rfl) rfl rfl zw_1329 rfl ha dX12_measures_117 (fun f7 => ?_)
  refine z_iload_n dX12_measures_120 rfl 1 rfl ?_
  refine z_pc (pc' := 121) rfl ?_
  refine z_dup2 dX12_measures_121 rfl rfl ?_
  obtain ⟨a8, e8, hP⟩ := hP
  have k8 := f7 a8 e8
  obtain ⟨i9, hP⟩ := hP
  refine z_iald e8 k8 i9 dX12_measures_122 ?_
  refine z_iload_n dX12_measures_123 rfl 2 rfl ?_
  refine z_aload_n dX12_measures_124 rfl 0 rfl ?_
  refine z_getr (c := 12) (k := 74) (g := 1610) (t := 20) z_cb12 (Nat.le_of_ble_eq_true rfl) (Nat.le_of_ble_eq_true rfl) rfl rfl zw_1329 rfl ha dX12_measures_125 (fun f10 => ?_)
  refine z_iload_n dX12_measures_128 rfl 1 rfl ?_
  refine z_pc (pc' := 129) rfl ?_
  obtain ⟨a11, e11, hP⟩ := hP
  have k11 := f10 a11 e11
  obtain ⟨i12, hP⟩ := hP
  refine z_iald e11 k11 i12 dX12_measures_129 ?_
  refine z_bipush (v := 8) dX12_measures_130 (by decide) ?_
  refine z_idiv dX12_measures_132 (by decide) ?_
  refine z_isub dX12_measures_133 ?_
  refine z_iadd dX12_measures_134 ?_
  obtain ⟨i13, hP⟩ := hP
  refine z_iast e8 k8 i13 dX12_measures_135 ?_
  refine z_nm (fun M_14 g_14 => ?_)
  replace hP := hP M_14 g_14
  have q_14 := z_k3 g_14
  have ha := z_kk q_14 ha
  refine z_pc (pc' := 136) rfl ?_
  exact z_retv rfl dX12_measures_136 hP
set_option maxRecDepth 100000 in
set_option maxHeartbeats 4000000 in
theorem v_X12_measures_75 {G : z_G} {M0 : z_Mem} {a : Nat} {Post : z_Mem → Prop}   {x1 : Int32} {x2 : Int32} {t0 : Option Nat} {t1 : Int32} {t2 : Int32} {M : z_Mem} (ha : z_ki M a = 13) (f_t0 : z_tr M t0 20) (hP : P_X12_measures_75 a Post x1 x2 t0 t1 t2 M) : z_V G Y_X12_measures z_X0 M0 (z_QM G M0 (z_PV Post)) M 75 [(0, z_O (some a)), (1, z_I x1), (2, z_I x2)] [z_I t2, z_I t1, z_O t0] := by
  unfold P_X12_measures_75 at hP
  obtain ⟨a15, e15, hP⟩ := hP
  have k15 := f_t0 a15 e15
  obtain ⟨i16, hP⟩ := hP
  refine z_iast e15 k15 i16 dX12_measures_75 ?_
  refine z_nm (fun M_17 g_17 => ?_)
  replace hP := hP M_17 g_17
  have q_17 := z_k3 g_17
  have ha := z_kk q_17 ha
  refine z_iload_n dX12_measures_76 rfl 2 rfl ?_
  refine z_aload_n dX12_measures_77 rfl 0 rfl ?_
  refine z_getr (c := 12) (k := 74) (g := 1610) (t := 20) z_cb12 (Nat.le_of_ble_eq_true rfl) (Nat.le_of_ble_eq_true rfl) rfl rfl zw_1329 rfl ha dX12_measures_78 (fun f18 => ?_)
  refine z_iload_n dX12_measures_81 rfl 1 rfl ?_
  obtain ⟨a19, e19, hP⟩ := hP
  have k19 := f18 a19 e19
  obtain ⟨i20, hP⟩ := hP
  refine z_iald e19 k19 i20 dX12_measures_82 ?_
  refine z_pc (pc' := 83) rfl ?_
  refine z_bipush (v := 8) dX12_measures_83 (by decide) ?_
  refine z_idiv dX12_measures_85 (by decide) ?_
  refine z_isub dX12_measures_86 ?_
  refine z_topi (fun x_21 y_21 => ?_)
  replace hP := hP x_21 y_21
  refine z_istore_n (lv' := [(3, z_I _), (0, z_O _), (1, z_I _), (2, z_I _)]) dX12_measures_87 rfl (Nat.le_of_ble_eq_true rfl) rfl ?_
  refine z_aload_n dX12_measures_88 rfl 1 rfl ?_
  refine z_getr (c := 12) (k := 75) (g := 1611) (t := 20) z_cb12 (Nat.le_of_ble_eq_true rfl) (Nat.le_of_ble_eq_true rfl) rfl rfl zw_1330 rfl ha dX12_measures_89 (fun f22 => ?_)
  refine z_pc (pc' := 92) rfl ?_
  refine z_iload_n dX12_measures_92 rfl 2 rfl ?_
  refine z_dup2 dX12_measures_93 rfl rfl ?_
  obtain ⟨a23, e23, hP⟩ := hP
  have k23 := f22 a23 e23
  obtain ⟨i24, hP⟩ := hP
  refine z_iald e23 k23 i24 dX12_measures_94 ?_
  refine z_iload_n dX12_measures_95 rfl 0 rfl ?_
  refine z_if_ge (tgt := 104) dX12_measures_96 (by decide) (fun h25 => ?_) (fun h25 => ?_)
  · replace hP := hP.1 h25
    refine z_iload_n dX12_measures_104 rfl 0 rfl ?_
    refine z_sub (lv' := [(0, z_O _), (1, z_I _), (2, z_I _)]) [1, 2, 3] rfl ?_
    exact v_X12_measures_105  ha (z_trn e23 k23) hP
  · replace hP := hP.2 h25
    refine z_iload_n dX12_measures_99 rfl 0 rfl ?_
    refine z_ineg dX12_measures_100 ?_
    refine z_pc (pc' := 101) rfl ?_
    refine z_goto (tgt := 105) dX12_measures_101 (by decide) ?_
    refine z_sub (lv' := [(0, z_O _), (1, z_I _), (2, z_I _)]) [1, 2, 3] rfl ?_
    exact v_X12_measures_105  ha (z_trn e23 k23) hP
set_option maxRecDepth 100000 in
set_option maxHeartbeats 4000000 in
theorem s_X12_measures {G : z_G} {M : z_Mem} {a : Nat} {p1 : Int32} {p2 : Int32} {Post : z_Mem → Prop} (ha : z_ki M a = 13) (hP : P_X12_measures a p1 p2 M Post) : z_Mt G Y_X12_measures M [z_O (some a), z_I p1, z_I p2] (z_PV Post) := by
  refine z_ofV (by decide) (Nat.le_of_ble_eq_true rfl) ?_
  unfold P_X12_measures at hP
  refine z_sub (lv' := [(0, z_O (some a)), (1, z_I p1), (2, z_I p2)]) [0, 1, 2] rfl ?_
  refine z_aload_n dX12_measures_0 rfl 0 rfl ?_
  refine z_getr (c := 12) (k := 77) (g := 1613) (t := 20) z_cb12 (Nat.le_of_ble_eq_true rfl) (Nat.le_of_ble_eq_true rfl) rfl rfl zw_1332 rfl ha dX12_measures_1 (fun f26 => ?_)
  refine z_iload_n dX12_measures_4 rfl 1 rfl ?_
  refine z_iload_n dX12_measures_5 rfl 2 rfl ?_
  obtain ⟨a27, e27, hP⟩ := hP
  have k27 := f26 a27 e27
  obtain ⟨i28, hP⟩ := hP
  refine z_iast e27 k27 i28 dX12_measures_6 ?_
  refine z_nm (fun M_29 g_29 => ?_)
  replace hP := hP M_29 g_29
  have q_29 := z_k3 g_29
  have ha := z_kk q_29 ha
  refine z_aload_n dX12_measures_7 rfl 0 rfl ?_
  refine z_pc (pc' := 8) rfl ?_
  refine z_getr (c := 12) (k := 78) (g := 1614) (t := 21) z_cb12 (Nat.le_of_ble_eq_true rfl) (Nat.le_of_ble_eq_true rfl) rfl rfl zw_1333 rfl ha dX12_measures_8 (fun f30 => ?_)
  refine z_iload_n dX12_measures_11 rfl 1 rfl ?_
  obtain ⟨a31, e31, hP⟩ := hP
  have k31 := f30 a31 e31
  obtain ⟨i32, hP⟩ := hP
  refine z_zald e31 k31 i32 dX12_measures_12 (fun b32 => ?_)
  refine z_if_ne (tgt := 50) dX12_measures_13 (by decide) (fun h33 => ?_) (fun h33 => ?_)
  · replace hP := hP.2 h33
    refine z_aload_n dX12_measures_50 rfl 0 rfl ?_
    refine z_getr (c := 12) (k := 76) (g := 1612) (t := 20) z_cb12 (Nat.le_of_ble_eq_true rfl) (Nat.le_of_ble_eq_true rfl) rfl rfl zw_1331 rfl ha dX12_measures_51 (fun f34 => ?_)
    refine z_iload_n dX12_measures_54 rfl 1 rfl ?_
    refine z_pc (pc' := 55) rfl ?_
    refine z_iload_n dX12_measures_55 rfl 2 rfl ?_
    refine z_aload_n dX12_measures_56 rfl 0 rfl ?_
    refine z_getr (c := 12) (k := 76) (g := 1612) (t := 20) z_cb12 (Nat.le_of_ble_eq_true rfl) (Nat.le_of_ble_eq_true rfl) rfl rfl zw_1331 rfl ha dX12_measures_57 (fun f35 => ?_)
    refine z_iload_n dX12_measures_60 rfl 1 rfl ?_
    obtain ⟨a36, e36, hP⟩ := hP
    have k36 := f35 a36 e36
    obtain ⟨i37, hP⟩ := hP
    refine z_iald e36 k36 i37 dX12_measures_61 ?_
    refine z_icmp_ge (tgt := 69) dX12_measures_62 (by decide) (fun h38 => ?_) (fun h38 => ?_)
    · replace hP := hP.1 h38
      refine z_aload_n dX12_measures_69 rfl 0 rfl ?_
      refine z_pc (pc' := 70) rfl ?_
      refine z_getr (c := 12) (k := 76) (g := 1612) (t := 20) z_cb12 (Nat.le_of_ble_eq_true rfl) (Nat.le_of_ble_eq_true rfl) rfl rfl zw_1331 rfl ha dX12_measures_70 (fun f39 => ?_)
      refine z_iload_n dX12_measures_73 rfl 1 rfl ?_
      obtain ⟨a40, e40, hP⟩ := hP
      have k40 := f39 a40 e40
      obtain ⟨i41, hP⟩ := hP
      refine z_iald e40 k40 i41 dX12_measures_74 ?_
      refine z_sub (lv' := [(0, z_O _), (1, z_I _), (2, z_I _)]) [0, 1, 2] rfl ?_
      exact v_X12_measures_75  ha f34 hP
    · replace hP := hP.2 h38
      refine z_iload_n dX12_measures_65 rfl 2 rfl ?_
      refine z_pc (pc' := 66) rfl ?_
      refine z_goto (tgt := 75) dX12_measures_66 (by decide) ?_
      refine z_sub (lv' := [(0, z_O _), (1, z_I _), (2, z_I _)]) [0, 1, 2] rfl ?_
      exact v_X12_measures_75  ha f34 hP
  · replace hP := hP.1 h33
    refine z_aload_n dX12_measures_16 rfl 0 rfl ?_
    refine z_getr (c := 12) (k := 78) (g := 1614) (t := 21) z_cb12 (Nat.le_of_ble_eq_true rfl) (Nat.le_of_ble_eq_true rfl) rfl rfl zw_1333 rfl ha dX12_measures_17 (fun f42 => ?_)
    refine z_iload_n dX12_measures_20 rfl 1 rfl ?_
    refine z_pc (pc' := 21) rfl ?_
    refine z_iconst (v := 1) dX12_measures_21 (by decide) ?_
    obtain ⟨a43, e43, hP⟩ := hP
    have k43 := f42 a43 e43
    obtain ⟨i44, hP⟩ := hP
    refine z_zast e43 k43 i44 (Or.inr rfl) dX12_measures_22 ?_
    refine z_nm (fun M_45 g_45 => ?_)
    replace hP := hP M_45 g_45
    have q_45 := z_k3 g_45
    have ha := z_kk q_45 ha
    refine z_aload_n dX12_measures_23 rfl 0 rfl ?_
    refine z_getr (c := 12) (k := 74) (g := 1610) (t := 20) z_cb12 (Nat.le_of_ble_eq_true rfl) (Nat.le_of_ble_eq_true rfl) rfl rfl zw_1329 rfl ha dX12_measures_24 (fun f46 => ?_)
    refine z_iload_n dX12_measures_27 rfl 1 rfl ?_
    refine z_bipush (v := 8) dX12_measures_28 (by decide) ?_
    refine z_pc (pc' := 30) rfl ?_
    refine z_iload_n dX12_measures_30 rfl 2 rfl ?_
    refine z_imul dX12_measures_31 ?_
    obtain ⟨a47, e47, hP⟩ := hP
    have k47 := f46 a47 e47
    obtain ⟨i48, hP⟩ := hP
    refine z_iast e47 k47 i48 dX12_measures_32 ?_
    refine z_nm (fun M_49 g_49 => ?_)
    replace hP := hP M_49 g_49
    have q_49 := z_k3 g_49
    have ha := z_kk q_49 ha
    refine z_aload_n dX12_measures_33 rfl 0 rfl ?_
    refine z_getr (c := 12) (k := 75) (g := 1611) (t := 20) z_cb12 (Nat.le_of_ble_eq_true rfl) (Nat.le_of_ble_eq_true rfl) rfl rfl zw_1330 rfl ha dX12_measures_34 (fun f50 => ?_)
    refine z_iload_n dX12_measures_37 rfl 1 rfl ?_
    refine z_pc (pc' := 38) rfl ?_
    refine z_iconst (v := 2) dX12_measures_38 (by decide) ?_
    refine z_iload_n dX12_measures_39 rfl 2 rfl ?_
    refine z_imul dX12_measures_40 ?_
    obtain ⟨a51, e51, hP⟩ := hP
    have k51 := f50 a51 e51
    obtain ⟨i52, hP⟩ := hP
    refine z_iast e51 k51 i52 dX12_measures_41 ?_
    refine z_nm (fun M_53 g_53 => ?_)
    replace hP := hP M_53 g_53
    have q_53 := z_k3 g_53
    have ha := z_kk q_53 ha
    refine z_aload_n dX12_measures_42 rfl 0 rfl ?_
    refine z_getr (c := 12) (k := 76) (g := 1612) (t := 20) z_cb12 (Nat.le_of_ble_eq_true rfl) (Nat.le_of_ble_eq_true rfl) rfl rfl zw_1331 rfl ha dX12_measures_43 (fun f54 => ?_)
    refine z_pc (pc' := 46) rfl ?_
    refine z_iload_n dX12_measures_46 rfl 1 rfl ?_
    refine z_iload_n dX12_measures_47 rfl 2 rfl ?_
    obtain ⟨a55, e55, hP⟩ := hP
    have k55 := f54 a55 e55
    obtain ⟨i56, hP⟩ := hP
    refine z_iast e55 k55 i56 dX12_measures_48 ?_
    refine z_nm (fun M_57 g_57 => ?_)
    replace hP := hP M_57 g_57
    have q_57 := z_k3 g_57
    have ha := z_kk q_57 ha
    exact z_retv rfl dX12_measures_49 hP
def P_X12_inFlight_37 (a : Nat) (Post : Int32 → z_Mem → Prop) (J4 : Int32 → Int32 → Int32 → z_Mem → Prop) (x1 : Int32) (x3 : Int32) (t0 : Int32) (t1 : Int32) (M : z_Mem) : Prop := ∀ x_1 : Int32, x_1 = (t0 + t1) → (∀ x_2 : Int32, x_2 = x3 + 1 → (J4 x1 x_1 x_2 M))
def P_X12_inFlight_36 (a : Nat) (Post : Int32 → z_Mem → Prop) (J4 : Int32 → Int32 → Int32 → z_Mem → Prop) (x1 : Int32) (x3 : Int32) (t0 : Int32) (M : z_Mem) : Prop := P_X12_inFlight_37 a Post J4 x1 x3 t0 0 M
set_option maxRecDepth 100000 in
def P_X12_inFlight_4 (a : Nat) (Post : Int32 → z_Mem → Prop)  : Nat → Int32 → Int32 → Int32 → z_Mem → Prop
  | 0, _, _, _, _ => False
  | n + 1, x1, x2, x3, M => (((z_fi M 1606 a) ≤ x3 → Post x2 M) ∧ (¬ (z_fi M 1606 a) ≤ x3 → z_nn (z_fr M 1593 a) fun a6 => (vp_in x3 (z_ln M a6) ∧ ((((z_ai M a6 ((x3 : Int32).toNatClampNeg)) = x1 → z_nn (z_fr M 1598 a) fun a10 => (vp_in x3 (z_ln M a10) ∧ ((((z_ai M a10 ((x3 : Int32).toNatClampNeg)) = 0 → P_X12_inFlight_37 a Post (fun q0 q1 q2 qM => P_X12_inFlight_4 a Post n q0 q1 q2 qM) x1 x3 x2 1 M) ∧ (¬ (z_ai M a10 ((x3 : Int32).toNatClampNeg)) = 0 → P_X12_inFlight_36 a Post (fun q0 q1 q2 qM => P_X12_inFlight_4 a Post n q0 q1 q2 qM) x1 x3 x2 M))))) ∧ (¬ (z_ai M a6 ((x3 : Int32).toNatClampNeg)) = x1 → P_X12_inFlight_36 a Post (fun q0 q1 q2 qM => P_X12_inFlight_4 a Post n q0 q1 q2 qM) x1 x3 x2 M))))))
set_option maxRecDepth 100000 in
def P_X12_inFlight (a : Nat) (p1 : Int32) (M : z_Mem) (Post : Int32 → z_Mem → Prop) : Prop := (∃ n13 : Nat, P_X12_inFlight_4 a Post n13 p1 0 0 M)
set_option maxRecDepth 100000 in
set_option maxHeartbeats 4000000 in
theorem v_X12_inFlight_37 {G : z_G} {M0 : z_Mem} {a : Nat} {Post : Int32 → z_Mem → Prop} {J4 : Int32 → Int32 → Int32 → z_Mem → Prop} (hJ4 : ∀ (x1 : Int32) (x2 : Int32) (x3 : Int32) (M : z_Mem), (z_ki M a = 13) → J4 x1 x2 x3 M → z_V G Y_X12_inFlight z_X0 M0 (z_QM G M0 (z_PI Post)) M 4 [(0, z_O (some a)), (1, z_I x1), (2, z_I x2), (3, z_I x3)] []) {x1 : Int32} {x3 : Int32} {t0 : Int32} {t1 : Int32} {M : z_Mem} (ha : z_ki M a = 13) (f_t1 : t1 = 0 ∨ t1 = 1) (hP : P_X12_inFlight_37 a Post J4 x1 x3 t0 t1 M) : z_V G Y_X12_inFlight z_X0 M0 (z_QM G M0 (z_PI Post)) M 37 [(0, z_O (some a)), (1, z_I x1), (3, z_I x3)] [z_I t1, z_I t0] := by
  unfold P_X12_inFlight_37 at hP
  refine z_iadd dX12_inFlight_37 ?_
  refine z_topi (fun x_1 y_1 => ?_)
  replace hP := hP x_1 y_1
  refine z_istore_n (lv' := [(2, z_I _), (0, z_O _), (1, z_I _), (3, z_I _)]) dX12_inFlight_38 rfl (Nat.le_of_ble_eq_true rfl) rfl ?_
  refine z_iincN (j := 3) (m := 1) (lv' := fun v => [(3, z_I v), (2, z_I _), (0, z_O _), (1, z_I _)]) dX12_inFlight_39 rfl (by decide) (Nat.le_of_ble_eq_true rfl) (fun _ => rfl) (fun x_2 y_2 => ?_)
  replace hP := hP x_2 y_2
  refine z_goto (tgt := 4) dX12_inFlight_42 (by decide) ?_
  refine z_sub (lv' := [(0, z_O _), (1, z_I _), (2, z_I _), (3, z_I _)]) [2, 3, 1, 0] rfl ?_
  exact hJ4 _ _ _ _ ha hP
set_option maxRecDepth 100000 in
set_option maxHeartbeats 4000000 in
theorem v_X12_inFlight_36 {G : z_G} {M0 : z_Mem} {a : Nat} {Post : Int32 → z_Mem → Prop} {J4 : Int32 → Int32 → Int32 → z_Mem → Prop} (hJ4 : ∀ (x1 : Int32) (x2 : Int32) (x3 : Int32) (M : z_Mem), (z_ki M a = 13) → J4 x1 x2 x3 M → z_V G Y_X12_inFlight z_X0 M0 (z_QM G M0 (z_PI Post)) M 4 [(0, z_O (some a)), (1, z_I x1), (2, z_I x2), (3, z_I x3)] []) {x1 : Int32} {x3 : Int32} {t0 : Int32} {M : z_Mem} (ha : z_ki M a = 13) (hP : P_X12_inFlight_36 a Post J4 x1 x3 t0 M) : z_V G Y_X12_inFlight z_X0 M0 (z_QM G M0 (z_PI Post)) M 36 [(0, z_O (some a)), (1, z_I x1), (3, z_I x3)] [z_I t0] := by
  unfold P_X12_inFlight_36 at hP
  refine z_iconst (v := 0) dX12_inFlight_36 (by decide) ?_
  refine z_sub (lv' := [(0, z_O _), (1, z_I _), (3, z_I _)]) [0, 1, 2] rfl ?_
  exact v_X12_inFlight_37 hJ4 ha (Or.inl rfl) hP
set_option maxRecDepth 100000 in
set_option maxHeartbeats 4000000 in
theorem v_X12_inFlight_4 {G : z_G} {M0 : z_Mem} {a : Nat} {Post : Int32 → z_Mem → Prop}   : ∀ (n : Nat) {x1 : Int32} {x2 : Int32} {x3 : Int32} {M : z_Mem}, (z_ki M a = 13) → P_X12_inFlight_4 a Post n x1 x2 x3 M → z_V G Y_X12_inFlight z_X0 M0 (z_QM G M0 (z_PI Post)) M 4 [(0, z_O (some a)), (1, z_I x1), (2, z_I x2), (3, z_I x3)] [] := by
  intro n
  induction n with
  | zero => intro x1 x2 x3 M ha hP; exact False.elim hP
  | succ n ih =>
    intro x1 x2 x3 M ha hP
    unfold P_X12_inFlight_4 at hP
    refine z_iload_n dX12_inFlight_4 rfl 3 rfl ?_
    refine z_aload_n dX12_inFlight_5 rfl 0 rfl ?_
    refine z_geti (c := 12) (k := 70) (g := 1606) z_cb12 (Nat.le_of_ble_eq_true rfl) (Nat.le_of_ble_eq_true rfl) rfl (Nat.le_of_ble_eq_true rfl) zw_1325 rfl ha dX12_inFlight_6 ?_
    refine z_icmp_ge (tgt := 45) dX12_inFlight_9 (by decide) (fun h4 => ?_) (fun h4 => ?_)
    · replace hP := hP.1 h4
      refine z_iload_n dX12_inFlight_45 rfl 2 rfl ?_
      exact z_reti rfl dX12_inFlight_46 hP
    · replace hP := hP.2 h4
      refine z_iload_n dX12_inFlight_12 rfl 2 rfl ?_
      refine z_aload_n dX12_inFlight_13 rfl 0 rfl ?_
      refine z_getr (c := 12) (k := 57) (g := 1593) (t := 20) z_cb12 (Nat.le_of_ble_eq_true rfl) (Nat.le_of_ble_eq_true rfl) rfl rfl zw_1312 rfl ha dX12_inFlight_14 (fun f5 => ?_)
      refine z_pc (pc' := 17) rfl ?_
      refine z_iload_n dX12_inFlight_17 rfl 3 rfl ?_
      obtain ⟨a6, e6, hP⟩ := hP
      have k6 := f5 a6 e6
      obtain ⟨i7, hP⟩ := hP
      refine z_iald e6 k6 i7 dX12_inFlight_18 ?_
      refine z_iload_n dX12_inFlight_19 rfl 1 rfl ?_
      refine z_icmp_ne (tgt := 36) dX12_inFlight_20 (by decide) (fun h8 => ?_) (fun h8 => ?_)
      · replace hP := hP.2 h8
        refine z_sub (lv' := [(0, z_O _), (1, z_I _), (3, z_I _)]) [0, 1, 3] rfl ?_
        exact v_X12_inFlight_36 (fun _ _ _ _ w0 hP => ih w0 hP) ha hP
      · replace hP := hP.1 h8
        refine z_aload_n dX12_inFlight_23 rfl 0 rfl ?_
        refine z_getr (c := 12) (k := 62) (g := 1598) (t := 20) z_cb12 (Nat.le_of_ble_eq_true rfl) (Nat.le_of_ble_eq_true rfl) rfl rfl zw_1317 rfl ha dX12_inFlight_24 (fun f9 => ?_)
        refine z_iload_n dX12_inFlight_27 rfl 3 rfl ?_
        refine z_pc (pc' := 28) rfl ?_
        obtain ⟨a10, e10, hP⟩ := hP
        have k10 := f9 a10 e10
        obtain ⟨i11, hP⟩ := hP
        refine z_iald e10 k10 i11 dX12_inFlight_28 ?_
        refine z_if_ne (tgt := 36) dX12_inFlight_29 (by decide) (fun h12 => ?_) (fun h12 => ?_)
        · replace hP := hP.2 h12
          refine z_sub (lv' := [(0, z_O _), (1, z_I _), (3, z_I _)]) [0, 1, 3] rfl ?_
          exact v_X12_inFlight_36 (fun _ _ _ _ w0 hP => ih w0 hP) ha hP
        · replace hP := hP.1 h12
          refine z_iconst (v := 1) dX12_inFlight_32 (by decide) ?_
          refine z_goto (tgt := 37) dX12_inFlight_33 (by decide) ?_
          refine z_sub (lv' := [(0, z_O _), (1, z_I _), (3, z_I _)]) [0, 1, 3] rfl ?_
          exact v_X12_inFlight_37 (fun _ _ _ _ w0 hP => ih w0 hP) ha (Or.inr rfl) hP
set_option maxRecDepth 100000 in
set_option maxHeartbeats 4000000 in
theorem s_X12_inFlight {G : z_G} {M : z_Mem} {a : Nat} {p1 : Int32} {Post : Int32 → z_Mem → Prop} (ha : z_ki M a = 13) (hP : P_X12_inFlight a p1 M Post) : z_Mt G Y_X12_inFlight M [z_O (some a), z_I p1] (z_PI Post) := by
  refine z_ofV (by decide) (Nat.le_of_ble_eq_true rfl) ?_
  unfold P_X12_inFlight at hP
  refine z_sub (lv' := [(0, z_O (some a)), (1, z_I p1)]) [0, 1] rfl ?_
  refine z_iconst (v := 0) dX12_inFlight_0 (by decide) ?_
  refine z_istore_n (lv' := [(2, z_I _), (0, z_O _), (1, z_I _)]) dX12_inFlight_1 rfl (Nat.le_of_ble_eq_true rfl) rfl ?_
  refine z_iconst (v := 0) dX12_inFlight_2 (by decide) ?_
  refine z_istore_n (lv' := [(3, z_I _), (2, z_I _), (0, z_O _), (1, z_I _)]) dX12_inFlight_3 rfl (Nat.le_of_ble_eq_true rfl) rfl ?_
  obtain ⟨n13, hP⟩ := hP
  refine z_sub (lv' := [(0, z_O _), (1, z_I _), (2, z_I _), (3, z_I _)]) [2, 3, 1, 0] rfl ?_
  exact v_X12_inFlight_4  n13 ha hP
set_option maxRecDepth 100000 in
def P_X12_byCube_11 (a : Nat) (Post : Int32 → z_Mem → Prop)  : Nat → Int32 → Int64 → Int64 → z_Mem → Prop
  | 0, _, _, _, _ => False
  | n + 1, x1, x2, x4, M => ((0 ≤ (lg_cmp ((((2 * x4) * x4) * x4) / 125) ((3 * x2) / 10)) → z_nn (z_fr M 1624 a) fun a4 => (vp_in x1 (z_ln M a4) ∧ (∀ x_6 : Int64, x_6 = (((((z_fi M 1536 a) - (z_ai M a4 ((x1 : Int32).toNatClampNeg))) : Int32).toInt64) - x4) → (∀ x_7 : Int64, x_7 = (x2 + ((((2 * x_6) * x_6) * x_6) / 125)) → (z_nn (z_fr M 1607 a) fun a9 => (vp_in x1 (z_ln M a9) ∧ (z_nn (z_fr M 1607 a) fun a12 => (vp_in x1 (z_ln M a12) ∧ (¬ (((z_ai M a12 ((x1 : Int32).toNatClampNeg)) : Int32).toInt64) = 0 ∧ (∀ x_15 : Int64, x_15 = ((16 * (x_7 - (((z_ai M a9 ((x1 : Int32).toNatClampNeg)) : Int32).toInt64))) / (((z_ai M a12 ((x1 : Int32).toNatClampNeg)) : Int32).toInt64)) → (((0 ≤ (lg_cmp x_15 1) → Post ((x_15 : Int64).toInt32) M) ∧ (¬ 0 ≤ (lg_cmp x_15 1) → Post 1 M))))))))))))) ∧ (¬ 0 ≤ (lg_cmp ((((2 * x4) * x4) * x4) / 125) ((3 * x2) / 10)) → ∀ x_17 : Int64, x_17 = (x4 + 1) → (P_X12_byCube_11 a Post n x1 x2 x_17 M)))
set_option maxRecDepth 100000 in
def P_X12_byCube (a : Nat) (p1 : Int32) (M : z_Mem) (Post : Int32 → z_Mem → Prop) : Prop := z_nn (z_fr M 1626 a) fun a19 => (vp_in p1 (z_ln M a19) ∧ (∀ x_21 : Int64, x_21 = (((z_ai M a19 ((p1 : Int32).toNatClampNeg)) : Int32).toInt64) → ((∃ n22 : Nat, P_X12_byCube_11 a Post n22 p1 x_21 0 M))))
set_option maxRecDepth 100000 in
set_option maxHeartbeats 4000000 in
theorem v_X12_byCube_11 {G : z_G} {M0 : z_Mem} {a : Nat} {Post : Int32 → z_Mem → Prop}   : ∀ (n : Nat) {x1 : Int32} {x2 : Int64} {x4 : Int64} {M : z_Mem}, (z_ki M a = 13) → P_X12_byCube_11 a Post n x1 x2 x4 M → z_V G Y_X12_byCube z_X0 M0 (z_QM G M0 (z_PI Post)) M 11 [(0, z_O (some a)), (1, z_I x1), (2, z_J x2), (4, z_J x4)] [] := by
  intro n
  induction n with
  | zero => intro x1 x2 x4 M ha hP; exact False.elim hP
  | succ n ih =>
    intro x1 x2 x4 M ha hP
    unfold P_X12_byCube_11 at hP
    refine z_ldc2 zw_1697 dX12_byCube_11 ?_
    refine z_lload dX12_byCube_14 3 rfl ?_
    refine z_lmul dX12_byCube_16 ?_
    refine z_lload dX12_byCube_17 3 rfl ?_
    refine z_lmul dX12_byCube_19 ?_
    refine z_lload dX12_byCube_20 3 rfl ?_
    refine z_pc (pc' := 22) rfl ?_
    refine z_lmul dX12_byCube_22 ?_
    refine z_ldc2 zw_1698 dX12_byCube_23 ?_
    refine z_ldiv dX12_byCube_26 (by decide) ?_
    refine z_ldc2 zw_1699 dX12_byCube_27 ?_
    refine z_lload_n dX12_byCube_30 rfl 2 rfl ?_
    refine z_lmul dX12_byCube_31 ?_
    refine z_pc (pc' := 32) rfl ?_
    refine z_ldc2 zw_1700 dX12_byCube_32 ?_
    refine z_ldiv dX12_byCube_35 (by decide) ?_
    refine z_lcmp dX12_byCube_36 ?_
    refine z_if_ge (tgt := 49) dX12_byCube_37 (by decide) (fun h1 => ?_) (fun h1 => ?_)
    · replace hP := hP.1 h1
      refine z_aload_n dX12_byCube_49 rfl 0 rfl ?_
      refine z_geti (c := 12) (k := 0) (g := 1536) z_cb12 (Nat.le_of_ble_eq_true rfl) (Nat.le_of_ble_eq_true rfl) rfl (Nat.le_of_ble_eq_true rfl) zw_1255 rfl ha dX12_byCube_50 ?_
      refine z_aload_n dX12_byCube_53 rfl 0 rfl ?_
      refine z_pc (pc' := 54) rfl ?_
      refine z_getr (c := 12) (k := 88) (g := 1624) (t := 20) z_cb12 (Nat.le_of_ble_eq_true rfl) (Nat.le_of_ble_eq_true rfl) rfl rfl zw_1343 rfl ha dX12_byCube_54 (fun f3 => ?_)
      refine z_iload_n dX12_byCube_57 rfl 1 rfl ?_
      obtain ⟨a4, e4, hP⟩ := hP
      have k4 := f3 a4 e4
      obtain ⟨i5, hP⟩ := hP
      refine z_iald e4 k4 i5 dX12_byCube_58 ?_
      refine z_isub dX12_byCube_59 ?_
      refine z_i2l dX12_byCube_60 ?_
      refine z_lload dX12_byCube_61 3 rfl ?_
      refine z_pc (pc' := 63) rfl ?_
      refine z_lsub dX12_byCube_63 ?_
      refine z_topl (fun x_6 y_6 => ?_)
      replace hP := hP x_6 y_6
      refine z_lstore (lv' := [(6, z_J _), (0, z_O _), (1, z_I _), (2, z_J _), (4, z_J _)]) dX12_byCube_64 (Nat.le_of_ble_eq_true rfl) rfl ?_
      refine z_lload_n dX12_byCube_66 rfl 3 rfl ?_
      refine z_ldc2 zw_1697 dX12_byCube_67 ?_
      refine z_lload dX12_byCube_70 0 rfl ?_
      refine z_lmul dX12_byCube_72 ?_
      refine z_pc (pc' := 73) rfl ?_
      refine z_lload dX12_byCube_73 0 rfl ?_
      refine z_lmul dX12_byCube_75 ?_
      refine z_lload dX12_byCube_76 0 rfl ?_
      refine z_lmul dX12_byCube_78 ?_
      refine z_ldc2 zw_1698 dX12_byCube_79 ?_
      refine z_ldiv dX12_byCube_82 (by decide) ?_
      refine z_pc (pc' := 83) rfl ?_
      refine z_ladd dX12_byCube_83 ?_
      refine z_topl (fun x_7 y_7 => ?_)
      replace hP := hP x_7 y_7
      refine z_lstore (lv' := [(8, z_J _), (6, z_J _), (0, z_O _), (1, z_I _), (2, z_J _), (4, z_J _)]) dX12_byCube_84 (Nat.le_of_ble_eq_true rfl) rfl ?_
      refine z_ldc2 zw_1701 dX12_byCube_86 ?_
      refine z_lload dX12_byCube_89 0 rfl ?_
      refine z_aload_n dX12_byCube_91 rfl 2 rfl ?_
      refine z_getr (c := 12) (k := 71) (g := 1607) (t := 20) z_cb12 (Nat.le_of_ble_eq_true rfl) (Nat.le_of_ble_eq_true rfl) rfl rfl zw_1326 rfl ha dX12_byCube_92 (fun f8 => ?_)
      refine z_pc (pc' := 95) rfl ?_
      refine z_iload_n dX12_byCube_95 rfl 3 rfl ?_
      obtain ⟨a9, e9, hP⟩ := hP
      have k9 := f8 a9 e9
      obtain ⟨i10, hP⟩ := hP
      refine z_iald e9 k9 i10 dX12_byCube_96 ?_
      refine z_i2l dX12_byCube_97 ?_
      refine z_lsub dX12_byCube_98 ?_
      refine z_lmul dX12_byCube_99 ?_
      refine z_aload_n dX12_byCube_100 rfl 2 rfl ?_
      refine z_pc (pc' := 101) rfl ?_
      refine z_getr (c := 12) (k := 71) (g := 1607) (t := 20) z_cb12 (Nat.le_of_ble_eq_true rfl) (Nat.le_of_ble_eq_true rfl) rfl rfl zw_1326 rfl ha dX12_byCube_101 (fun f11 => ?_)
      refine z_iload_n dX12_byCube_104 rfl 3 rfl ?_
      obtain ⟨a12, e12, hP⟩ := hP
      have k12 := f11 a12 e12
      obtain ⟨i13, hP⟩ := hP
      refine z_iald e12 k12 i13 dX12_byCube_105 ?_
      refine z_i2l dX12_byCube_106 ?_
      obtain ⟨z14, hP⟩ := hP
      refine z_ldiv dX12_byCube_107 z14 ?_
      refine z_topl (fun x_15 y_15 => ?_)
      replace hP := hP x_15 y_15
      refine z_lstore (lv' := [(10, z_J _), (8, z_J _), (6, z_J _), (0, z_O _), (1, z_I _), (2, z_J _), (4, z_J _)]) dX12_byCube_108 (Nat.le_of_ble_eq_true rfl) rfl ?_
      refine z_pc (pc' := 110) rfl ?_
      refine z_lload dX12_byCube_110 0 rfl ?_
      refine z_lconst (v := 1) dX12_byCube_112 (by decide) ?_
      refine z_lcmp dX12_byCube_113 ?_
      refine z_if_ge (tgt := 121) dX12_byCube_114 (by decide) (fun h16 => ?_) (fun h16 => ?_)
      · replace hP := hP.1 h16
        refine z_lload dX12_byCube_121 0 rfl ?_
        refine z_l2i dX12_byCube_123 ?_
        exact z_reti rfl dX12_byCube_124 hP
      · replace hP := hP.2 h16
        refine z_iconst (v := 1) dX12_byCube_117 (by decide) ?_
        refine z_goto (tgt := 124) dX12_byCube_118 (by decide) ?_
        exact z_reti rfl dX12_byCube_124 hP
    · replace hP := hP.2 h1
      refine z_lload dX12_byCube_40 3 rfl ?_
      refine z_lconst (v := 1) dX12_byCube_42 (by decide) ?_
      refine z_ladd dX12_byCube_43 ?_
      refine z_pc (pc' := 44) rfl ?_
      refine z_topl (fun x_17 y_17 => ?_)
      replace hP := hP x_17 y_17
      refine z_lstore (lv' := [(4, z_J _), (0, z_O _), (1, z_I _), (2, z_J _)]) dX12_byCube_44 (Nat.le_of_ble_eq_true rfl) rfl ?_
      refine z_goto (tgt := 11) dX12_byCube_46 (by decide) ?_
      refine z_sub (lv' := [(0, z_O _), (1, z_I _), (2, z_J _), (4, z_J _)]) [1, 2, 3, 0] rfl ?_
      exact ih ha hP
set_option maxRecDepth 100000 in
set_option maxHeartbeats 4000000 in
theorem s_X12_byCube {G : z_G} {M : z_Mem} {a : Nat} {p1 : Int32} {Post : Int32 → z_Mem → Prop} (ha : z_ki M a = 13) (hP : P_X12_byCube a p1 M Post) : z_Mt G Y_X12_byCube M [z_O (some a), z_I p1] (z_PI Post) := by
  refine z_ofV (by decide) (Nat.le_of_ble_eq_true rfl) ?_
  unfold P_X12_byCube at hP
  refine z_sub (lv' := [(0, z_O (some a)), (1, z_I p1)]) [0, 1] rfl ?_
  refine z_aload_n dX12_byCube_0 rfl 0 rfl ?_
  refine z_getr (c := 12) (k := 90) (g := 1626) (t := 20) z_cb12 (Nat.le_of_ble_eq_true rfl) (Nat.le_of_ble_eq_true rfl) rfl rfl zw_1345 rfl ha dX12_byCube_1 (fun f18 => ?_)
  refine z_iload_n dX12_byCube_4 rfl 1 rfl ?_
  obtain ⟨a19, e19, hP⟩ := hP
  have k19 := f18 a19 e19
  obtain ⟨i20, hP⟩ := hP
  refine z_iald e19 k19 i20 dX12_byCube_5 ?_
  refine z_i2l dX12_byCube_6 ?_
  refine z_topl (fun x_21 y_21 => ?_)
  replace hP := hP x_21 y_21
  refine z_lstore_n (lv' := [(2, z_J _), (0, z_O _), (1, z_I _)]) dX12_byCube_7 rfl (Nat.le_of_ble_eq_true rfl) rfl ?_
  refine z_pc (pc' := 8) rfl ?_
  refine z_lconst (v := 0) dX12_byCube_8 (by decide) ?_
  refine z_lstore (lv' := [(4, z_J _), (2, z_J _), (0, z_O _), (1, z_I _)]) dX12_byCube_9 (Nat.le_of_ble_eq_true rfl) rfl ?_
  obtain ⟨n22, hP⟩ := hP
  refine z_sub (lv' := [(0, z_O _), (1, z_I _), (2, z_J _), (4, z_J _)]) [2, 3, 1, 0] rfl ?_
  exact v_X12_byCube_11  n22 ha hP
set_option maxRecDepth 100000 in
def P_X12_grows_96 (a : Nat) (Post : z_Mem → Prop)  : Nat → Int32 → Int32 → Int32 → z_Mem → Prop
  | 0, _, _, _, _ => False
  | n + 1, x2, x4, x5, M => ((8 ≤ x5 → z_nn (z_fr M 1612 a) fun a4 => (vp_in x2 (z_ln M a4) ∧ (P_X12_max 64 ((2 * x4) * (z_ai M a4 ((x2 : Int32).toNatClampNeg))) M fun x_6 M_6 => (z_nn (z_fr M 1607 a) fun a7 => (vp_in x2 (z_ln M_6 a7) ∧ (∀ M_9 : z_Mem, M_9 = z_sai M_6 a7 ((x2 : Int32).toNatClampNeg) x_6 → (Post M_9))))))) ∧ (¬ 8 ≤ x5 → z_nn (z_fr M 1621 a) fun a11 => (vp_in ((8 * x2) + x5) (z_ln M a11) ∧ (P_X12_max x4 (z_ai M a11 ((((8 * x2) + x5) : Int32).toNatClampNeg)) M fun x_13 M_13 => (∀ x_14 : Int32, x_14 = x5 + 1 → (P_X12_grows_96 a Post n x2 x_13 x_14 M_13))))))
set_option maxRecDepth 100000 in
def P_X12_grows (a : Nat) (p1 : Int32) (M : z_Mem) (Post : z_Mem → Prop) : Prop := z_nn (z_fr M 1593 a) fun a16 => (vp_in p1 (z_ln M a16) ∧ (∀ x_18 : Int32, x_18 = (z_ai M a16 ((p1 : Int32).toNatClampNeg)) → (z_nn (z_fr M 1620 a) fun a20 => (vp_in x_18 (z_ln M a20) ∧ (vp_in x_18 (z_ln M a20) ∧ (∀ M_23 : z_Mem, M_23 = z_sai M a20 ((x_18 : Int32).toNatClampNeg) ((z_ai M a20 ((x_18 : Int32).toNatClampNeg)) + 1) → (z_nn (z_fr M_23 1609 a) fun a25 => (vp_in x_18 (z_ln M_23 a25) ∧ ((((z_ai M_23 a25 ((x_18 : Int32).toNatClampNeg)) = 2 → z_nn (z_fr M_23 1620 a) fun a58 => (vp_in x_18 (z_ln M_23 a58) ∧ (z_nn (z_fr M_23 1605 a) fun a61 => (vp_in p1 (z_ln M_23 a61) ∧ (z_nn (z_fr M_23 1594 a) fun a65 => (vp_in p1 (z_ln M_23 a65) ∧ (P_X12_max 1 ((z_fi M_23 1536 a) - (z_ai M_23 a65 ((p1 : Int32).toNatClampNeg))) M_23 fun x_67 M_67 => (¬ x_67 = 0 ∧ (∀ x_69 : Int32, x_69 = ((16 * ((z_ai M_23 a58 ((x_18 : Int32).toNatClampNeg)) - (z_ai M_23 a61 ((p1 : Int32).toNatClampNeg)))) / x_67) → (z_nn (z_fr M_67 1622 a) fun a72 => (vp_in x_18 (z_ln M_67 a72) ∧ (z_nn (z_fr M_67 1621 a) fun a74 => (vp_in ((8 * x_18) + ((z_ai M_67 a72 ((x_18 : Int32).toNatClampNeg)) - (z_ai M_67 a72 ((x_18 : Int32).toNatClampNeg)) / 8 * 8)) (z_ln M_67 a74) ∧ (∀ M_76 : z_Mem, M_76 = z_sai M_67 a74 ((((8 * x_18) + ((z_ai M_67 a72 ((x_18 : Int32).toNatClampNeg)) - (z_ai M_67 a72 ((x_18 : Int32).toNatClampNeg)) / 8 * 8)) : Int32).toNatClampNeg) x_69 → (z_nn (z_fr M_76 1622 a) fun a78 => (vp_in x_18 (z_ln M_76 a78) ∧ (vp_in x_18 (z_ln M_76 a78) ∧ (∀ M_81 : z_Mem, M_81 = z_sai M_76 a78 ((x_18 : Int32).toNatClampNeg) ((z_ai M_76 a78 ((x_18 : Int32).toNatClampNeg)) + 1) → ((∃ n82 : Nat, P_X12_grows_96 a Post n82 x_18 0 0 M_81)))))))))))))))))))) ∧ (¬ (z_ai M_23 a25 ((x_18 : Int32).toNatClampNeg)) = 2 → z_nn (z_fr M_23 1607 a) fun a29 => (vp_in x_18 (z_ln M_23 a29) ∧ (z_nn (z_fr M_23 1608 a) fun a32 => (vp_in x_18 (z_ln M_23 a32) ∧ ((((z_ai M_23 a32 ((x_18 : Int32).toNatClampNeg)) ≤ (z_ai M_23 a29 ((x_18 : Int32).toNatClampNeg)) → z_nn (z_fr M_23 1607 a) fun a36 => (vp_in x_18 (z_ln M_23 a36) ∧ (z_nn (z_fr M_23 1609 a) fun a39 => (vp_in x_18 (z_ln M_23 a39) ∧ ((((z_ai M_23 a39 ((x_18 : Int32).toNatClampNeg)) = 0 → z_nn (z_fr M_23 1607 a) fun a46 => (vp_in x_18 (z_ln M_23 a46) ∧ (¬ (z_ai M_23 a46 ((x_18 : Int32).toNatClampNeg)) = 0 ∧ (P_X12_max 1 (256 / (z_ai M_23 a46 ((x_18 : Int32).toNatClampNeg))) M_23 fun x_49 M_49 => (vp_in x_18 (z_ln M_49 a36) ∧ (∀ M_51 : z_Mem, M_51 = z_sai M_49 a36 ((x_18 : Int32).toNatClampNeg) ((z_ai M_23 a36 ((x_18 : Int32).toNatClampNeg)) + x_49) → (Post M_51))))))) ∧ (¬ (z_ai M_23 a39 ((x_18 : Int32).toNatClampNeg)) = 0 → P_X12_byCube a x_18 M_23 fun x_42 M_42 => (vp_in x_18 (z_ln M_42 a36) ∧ (∀ M_44 : z_Mem, M_44 = z_sai M_42 a36 ((x_18 : Int32).toNatClampNeg) ((z_ai M_23 a36 ((x_18 : Int32).toNatClampNeg)) + x_42) → (Post M_44)))))))))) ∧ (¬ (z_ai M_23 a32 ((x_18 : Int32).toNatClampNeg)) ≤ (z_ai M_23 a29 ((x_18 : Int32).toNatClampNeg)) → z_nn (z_fr M_23 1607 a) fun a53 => (vp_in x_18 (z_ln M_23 a53) ∧ (vp_in x_18 (z_ln M_23 a53) ∧ (∀ M_56 : z_Mem, M_56 = z_sai M_23 a53 ((x_18 : Int32).toNatClampNeg) ((z_ai M_23 a53 ((x_18 : Int32).toNatClampNeg)) + 16) → (Post M_56)))))))))))))))))))))
set_option maxRecDepth 100000 in
set_option maxHeartbeats 4000000 in
theorem v_X12_grows_96 {G : z_G} {M0 : z_Mem} {a : Nat} {Post : z_Mem → Prop}   : ∀ (n : Nat) {x2 : Int32} {x4 : Int32} {x5 : Int32} {M : z_Mem}, (z_ki M a = 13) → P_X12_grows_96 a Post n x2 x4 x5 M → z_V G Y_X12_grows z_X0 M0 (z_QM G M0 (z_PV Post)) M 96 [(0, z_O (some a)), (2, z_I x2), (4, z_I x4), (5, z_I x5)] [] := by
  intro n
  induction n with
  | zero => intro x2 x4 x5 M ha hP; exact False.elim hP
  | succ n ih =>
    intro x2 x4 x5 M ha hP
    unfold P_X12_grows_96 at hP
    refine z_iload dX12_grows_96 3 rfl ?_
    refine z_bipush (v := 8) dX12_grows_98 (by decide) ?_
    refine z_icmp_ge (tgt := 128) dX12_grows_100 (by decide) (fun h1 => ?_) (fun h1 => ?_)
    · replace hP := hP.1 h1
      refine z_aload_n dX12_grows_128 rfl 0 rfl ?_
      refine z_getr (c := 12) (k := 71) (g := 1607) (t := 20) z_cb12 (Nat.le_of_ble_eq_true rfl) (Nat.le_of_ble_eq_true rfl) rfl rfl zw_1326 rfl ha dX12_grows_129 (fun f2 => ?_)
      refine z_iload_n dX12_grows_132 rfl 1 rfl ?_
      refine z_bipush (v := 64) dX12_grows_133 (by decide) ?_
      refine z_pc (pc' := 135) rfl ?_
      refine z_iconst (v := 2) dX12_grows_135 (by decide) ?_
      refine z_iload dX12_grows_136 2 rfl ?_
      refine z_imul dX12_grows_138 ?_
      refine z_aload_n dX12_grows_139 rfl 0 rfl ?_
      refine z_getr (c := 12) (k := 76) (g := 1612) (t := 20) z_cb12 (Nat.le_of_ble_eq_true rfl) (Nat.le_of_ble_eq_true rfl) rfl rfl zw_1331 rfl ha dX12_grows_140 (fun f3 => ?_)
      refine z_iload_n dX12_grows_143 rfl 1 rfl ?_
      refine z_pc (pc' := 144) rfl ?_
      obtain ⟨a4, e4, hP⟩ := hP
      have k4 := f3 a4 e4
      obtain ⟨i5, hP⟩ := hP
      refine z_iald e4 k4 i5 dX12_grows_144 ?_
      refine z_imul dX12_grows_145 ?_
      refine z_wts (fun hT6 _ => ?_)
      refine z_cSi (n := 2) (Y1 := Y_X12_max) (st := [z_I _, z_O _]) rfl (s_X12_max  hP) rfl ⟨z_dc_X12_max, ⟨(Nat.le_of_ble_eq_true rfl), (Nat.le_of_ble_eq_true rfl)⟩, (Nat.le_of_ble_eq_true rfl)⟩ rfl zw_1662 zw_1663 zw_12 zw_1664 dX12_grows_146 (fun x_6 M_6 hP _ x6 => ?_)
      have ha := x6.k (k := 12) hT6 ha
      have f2 := x6.t (k := 19) hT6 f2
      obtain ⟨a7, e7, hP⟩ := hP
      have k7 := f2 a7 e7
      obtain ⟨i8, hP⟩ := hP
      refine z_iast e7 k7 i8 dX12_grows_149 ?_
      refine z_nm (fun M_9 g_9 => ?_)
      replace hP := hP M_9 g_9
      have q_9 := z_k3 g_9
      have ha := z_kk q_9 ha
      refine z_goto (tgt := 222) dX12_grows_150 (by decide) ?_
      exact z_retv rfl dX12_grows_222 hP
    · replace hP := hP.2 h1
      refine z_iload dX12_grows_103 2 rfl ?_
      refine z_aload_n dX12_grows_105 rfl 0 rfl ?_
      refine z_getr (c := 12) (k := 85) (g := 1621) (t := 20) z_cb12 (Nat.le_of_ble_eq_true rfl) (Nat.le_of_ble_eq_true rfl) rfl rfl zw_1340 rfl ha dX12_grows_106 (fun f10 => ?_)
      refine z_bipush (v := 8) dX12_grows_109 (by decide) ?_
      refine z_pc (pc' := 111) rfl ?_
      refine z_iload_n dX12_grows_111 rfl 1 rfl ?_
      refine z_imul dX12_grows_112 ?_
      refine z_iload dX12_grows_113 3 rfl ?_
      refine z_iadd dX12_grows_115 ?_
      obtain ⟨a11, e11, hP⟩ := hP
      have k11 := f10 a11 e11
      obtain ⟨i12, hP⟩ := hP
      refine z_iald e11 k11 i12 dX12_grows_116 ?_
      refine z_wts (fun hT13 _ => ?_)
      refine z_cSi (n := 2) (Y1 := Y_X12_max) (st := []) rfl (s_X12_max  hP) rfl ⟨z_dc_X12_max, ⟨(Nat.le_of_ble_eq_true rfl), (Nat.le_of_ble_eq_true rfl)⟩, (Nat.le_of_ble_eq_true rfl)⟩ rfl zw_1662 zw_1663 zw_12 zw_1664 dX12_grows_117 (fun x_13 M_13 hP _ x13 => ?_)
      have ha := x13.k (k := 12) hT13 ha
      refine z_pc (pc' := 120) rfl ?_
      refine z_istore (lv' := [(4, z_I _), (0, z_O _), (2, z_I _), (5, z_I _)]) dX12_grows_120 (Nat.le_of_ble_eq_true rfl) rfl ?_
      refine z_iincN (j := 3) (m := 1) (lv' := fun v => [(5, z_I v), (4, z_I _), (0, z_O _), (2, z_I _)]) dX12_grows_122 rfl (by decide) (Nat.le_of_ble_eq_true rfl) (fun _ => rfl) (fun x_14 y_14 => ?_)
      replace hP := hP x_14 y_14
      refine z_goto (tgt := 96) dX12_grows_125 (by decide) ?_
      refine z_sub (lv' := [(0, z_O _), (2, z_I _), (4, z_I _), (5, z_I _)]) [2, 3, 1, 0] rfl ?_
      exact ih ha hP
set_option maxRecDepth 100000 in
set_option maxHeartbeats 4000000 in
theorem s_X12_grows {G : z_G} {M : z_Mem} {a : Nat} {p1 : Int32} {Post : z_Mem → Prop} (ha : z_ki M a = 13) (hP : P_X12_grows a p1 M Post) : z_Mt G Y_X12_grows M [z_O (some a), z_I p1] (z_PV Post) := by
  refine z_ofV (by decide) (Nat.le_of_ble_eq_true rfl) ?_
  unfold P_X12_grows at hP
  refine z_sub (lv' := [(0, z_O (some a)), (1, z_I p1)]) [0, 1] rfl ?_
  refine z_aload_n dX12_grows_0 rfl 0 rfl ?_
  refine z_getr (c := 12) (k := 57) (g := 1593) (t := 20) z_cb12 (Nat.le_of_ble_eq_true rfl) (Nat.le_of_ble_eq_true rfl) rfl rfl zw_1312 rfl ha dX12_grows_1 (fun f15 => ?_)
  refine z_iload_n dX12_grows_4 rfl 1 rfl ?_
  obtain ⟨a16, e16, hP⟩ := hP
  have k16 := f15 a16 e16
  obtain ⟨i17, hP⟩ := hP
  refine z_iald e16 k16 i17 dX12_grows_5 ?_
  refine z_topi (fun x_18 y_18 => ?_)
  replace hP := hP x_18 y_18
  refine z_istore_n (lv' := [(2, z_I _), (0, z_O _), (1, z_I _)]) dX12_grows_6 rfl (Nat.le_of_ble_eq_true rfl) rfl ?_
  refine z_aload_n dX12_grows_7 rfl 1 rfl ?_
  refine z_pc (pc' := 8) rfl ?_
  refine z_getr (c := 12) (k := 84) (g := 1620) (t := 20) z_cb12 (Nat.le_of_ble_eq_true rfl) (Nat.le_of_ble_eq_true rfl) rfl rfl zw_1339 rfl ha dX12_grows_8 (fun f19 => ?_)
  refine z_iload_n dX12_grows_11 rfl 0 rfl ?_
  refine z_dup2 dX12_grows_12 rfl rfl ?_
  obtain ⟨a20, e20, hP⟩ := hP
  have k20 := f19 a20 e20
  obtain ⟨i21, hP⟩ := hP
  refine z_iald e20 k20 i21 dX12_grows_13 ?_
  refine z_iconst (v := 1) dX12_grows_14 (by decide) ?_
  refine z_iadd dX12_grows_15 ?_
  refine z_pc (pc' := 16) rfl ?_
  obtain ⟨i22, hP⟩ := hP
  refine z_iast e20 k20 i22 dX12_grows_16 ?_
  refine z_nm (fun M_23 g_23 => ?_)
  replace hP := hP M_23 g_23
  have q_23 := z_k3 g_23
  have ha := z_kk q_23 ha
  refine z_aload_n dX12_grows_17 rfl 1 rfl ?_
  refine z_getr (c := 12) (k := 73) (g := 1609) (t := 20) z_cb12 (Nat.le_of_ble_eq_true rfl) (Nat.le_of_ble_eq_true rfl) rfl rfl zw_1328 rfl ha dX12_grows_18 (fun f24 => ?_)
  refine z_iload_n dX12_grows_21 rfl 0 rfl ?_
  obtain ⟨a25, e25, hP⟩ := hP
  have k25 := f24 a25 e25
  obtain ⟨i26, hP⟩ := hP
  refine z_iald e25 k25 i26 dX12_grows_22 ?_
  refine z_iconst (v := 2) dX12_grows_23 (by decide) ?_
  refine z_pc (pc' := 24) rfl ?_
  refine z_icmp_ne (tgt := 153) dX12_grows_24 (by decide) (fun h27 => ?_) (fun h27 => ?_)
  · replace hP := hP.2 h27
    refine z_aload_n dX12_grows_153 rfl 1 rfl ?_
    refine z_getr (c := 12) (k := 71) (g := 1607) (t := 20) z_cb12 (Nat.le_of_ble_eq_true rfl) (Nat.le_of_ble_eq_true rfl) rfl rfl zw_1326 rfl ha dX12_grows_154 (fun f28 => ?_)
    refine z_iload_n dX12_grows_157 rfl 0 rfl ?_
    obtain ⟨a29, e29, hP⟩ := hP
    have k29 := f28 a29 e29
    obtain ⟨i30, hP⟩ := hP
    refine z_iald e29 k29 i30 dX12_grows_158 ?_
    refine z_aload_n dX12_grows_159 rfl 1 rfl ?_
    refine z_getr (c := 12) (k := 72) (g := 1608) (t := 20) z_cb12 (Nat.le_of_ble_eq_true rfl) (Nat.le_of_ble_eq_true rfl) rfl rfl zw_1327 rfl ha dX12_grows_160 (fun f31 => ?_)
    refine z_pc (pc' := 163) rfl ?_
    refine z_iload_n dX12_grows_163 rfl 0 rfl ?_
    obtain ⟨a32, e32, hP⟩ := hP
    have k32 := f31 a32 e32
    obtain ⟨i33, hP⟩ := hP
    refine z_iald e32 k32 i33 dX12_grows_164 ?_
    refine z_icmp_ge (tgt := 182) dX12_grows_165 (by decide) (fun h34 => ?_) (fun h34 => ?_)
    · replace hP := hP.1 h34
      refine z_aload_n dX12_grows_182 rfl 1 rfl ?_
      refine z_getr (c := 12) (k := 71) (g := 1607) (t := 20) z_cb12 (Nat.le_of_ble_eq_true rfl) (Nat.le_of_ble_eq_true rfl) rfl rfl zw_1326 rfl ha dX12_grows_183 (fun f35 => ?_)
      refine z_iload_n dX12_grows_186 rfl 0 rfl ?_
      refine z_dup2 dX12_grows_187 rfl rfl ?_
      refine z_pc (pc' := 188) rfl ?_
      obtain ⟨a36, e36, hP⟩ := hP
      have k36 := f35 a36 e36
      obtain ⟨i37, hP⟩ := hP
      refine z_iald e36 k36 i37 dX12_grows_188 ?_
      refine z_aload_n dX12_grows_189 rfl 1 rfl ?_
      refine z_getr (c := 12) (k := 73) (g := 1609) (t := 20) z_cb12 (Nat.le_of_ble_eq_true rfl) (Nat.le_of_ble_eq_true rfl) rfl rfl zw_1328 rfl ha dX12_grows_190 (fun f38 => ?_)
      refine z_iload_n dX12_grows_193 rfl 0 rfl ?_
      obtain ⟨a39, e39, hP⟩ := hP
      have k39 := f38 a39 e39
      obtain ⟨i40, hP⟩ := hP
      refine z_iald e39 k39 i40 dX12_grows_194 ?_
      refine z_if_ne (tgt := 215) dX12_grows_195 (by decide) (fun h41 => ?_) (fun h41 => ?_)
      · replace hP := hP.2 h41
        refine z_aload_n dX12_grows_215 rfl 1 rfl ?_
        refine z_pc (pc' := 216) rfl ?_
        refine z_iload_n dX12_grows_216 rfl 0 rfl ?_
        refine z_wts (fun hT42 _ => ?_)
        refine z_cVi (c := 12) (n := 1) (Y1 := Y_X12_byCube) (st := [z_I _, z_I _, z_O _]) rfl ha z_cb12 (Nat.le_of_ble_eq_true rfl) rfl (s_X12_byCube ha hP) rfl ⟨z_dc_X12_byCube, ⟨(Nat.le_of_ble_eq_true rfl), (Nat.le_of_ble_eq_true rfl)⟩, (Nat.le_of_ble_eq_true rfl)⟩ rfl zw_1693 zw_1695 zp_49 zw_12 zw_1696 dX12_grows_217 (fun x_42 M_42 hP _ x42 => ?_)
        have ha := x42.k (k := 12) hT42 ha
        have k36 := x42.k (k := 19) hT42 k36
        refine z_iadd dX12_grows_220 ?_
        obtain ⟨i43, hP⟩ := hP
        refine z_iast e36 k36 i43 dX12_grows_221 ?_
        refine z_nm (fun M_44 g_44 => ?_)
        replace hP := hP M_44 g_44
        have q_44 := z_k3 g_44
        have ha := z_kk q_44 ha
        exact z_retv rfl dX12_grows_222 hP
      · replace hP := hP.1 h41
        refine z_iconst (v := 1) dX12_grows_198 (by decide) ?_
        refine z_pc (pc' := 199) rfl ?_
        refine z_sipush (v := 256) dX12_grows_199 (by decide) ?_
        refine z_aload_n dX12_grows_202 rfl 1 rfl ?_
        refine z_getr (c := 12) (k := 71) (g := 1607) (t := 20) z_cb12 (Nat.le_of_ble_eq_true rfl) (Nat.le_of_ble_eq_true rfl) rfl rfl zw_1326 rfl ha dX12_grows_203 (fun f45 => ?_)
        refine z_iload_n dX12_grows_206 rfl 0 rfl ?_
        obtain ⟨a46, e46, hP⟩ := hP
        have k46 := f45 a46 e46
        obtain ⟨i47, hP⟩ := hP
        refine z_iald e46 k46 i47 dX12_grows_207 ?_
        obtain ⟨z48, hP⟩ := hP
        refine z_idiv dX12_grows_208 z48 ?_
        refine z_pc (pc' := 209) rfl ?_
        refine z_wts (fun hT49 _ => ?_)
        refine z_cSi (n := 2) (Y1 := Y_X12_max) (st := [z_I _, z_I _, z_O _]) rfl (s_X12_max  hP) rfl ⟨z_dc_X12_max, ⟨(Nat.le_of_ble_eq_true rfl), (Nat.le_of_ble_eq_true rfl)⟩, (Nat.le_of_ble_eq_true rfl)⟩ rfl zw_1662 zw_1663 zw_12 zw_1664 dX12_grows_209 (fun x_49 M_49 hP _ x49 => ?_)
        have ha := x49.k (k := 12) hT49 ha
        have k36 := x49.k (k := 19) hT49 k36
        refine z_goto (tgt := 220) dX12_grows_212 (by decide) ?_
        refine z_iadd dX12_grows_220 ?_
        obtain ⟨i50, hP⟩ := hP
        refine z_iast e36 k36 i50 dX12_grows_221 ?_
        refine z_nm (fun M_51 g_51 => ?_)
        replace hP := hP M_51 g_51
        have q_51 := z_k3 g_51
        have ha := z_kk q_51 ha
        exact z_retv rfl dX12_grows_222 hP
    · replace hP := hP.2 h34
      refine z_aload_n dX12_grows_168 rfl 1 rfl ?_
      refine z_getr (c := 12) (k := 71) (g := 1607) (t := 20) z_cb12 (Nat.le_of_ble_eq_true rfl) (Nat.le_of_ble_eq_true rfl) rfl rfl zw_1326 rfl ha dX12_grows_169 (fun f52 => ?_)
      refine z_iload_n dX12_grows_172 rfl 0 rfl ?_
      refine z_dup2 dX12_grows_173 rfl rfl ?_
      refine z_pc (pc' := 174) rfl ?_
      obtain ⟨a53, e53, hP⟩ := hP
      have k53 := f52 a53 e53
      obtain ⟨i54, hP⟩ := hP
      refine z_iald e53 k53 i54 dX12_grows_174 ?_
      refine z_bipush (v := 16) dX12_grows_175 (by decide) ?_
      refine z_iadd dX12_grows_177 ?_
      obtain ⟨i55, hP⟩ := hP
      refine z_iast e53 k53 i55 dX12_grows_178 ?_
      refine z_nm (fun M_56 g_56 => ?_)
      replace hP := hP M_56 g_56
      have q_56 := z_k3 g_56
      have ha := z_kk q_56 ha
      refine z_goto (tgt := 222) dX12_grows_179 (by decide) ?_
      exact z_retv rfl dX12_grows_222 hP
  · replace hP := hP.1 h27
    refine z_bipush (v := 16) dX12_grows_27 (by decide) ?_
    refine z_aload_n dX12_grows_29 rfl 1 rfl ?_
    refine z_getr (c := 12) (k := 84) (g := 1620) (t := 20) z_cb12 (Nat.le_of_ble_eq_true rfl) (Nat.le_of_ble_eq_true rfl) rfl rfl zw_1339 rfl ha dX12_grows_30 (fun f57 => ?_)
    refine z_iload_n dX12_grows_33 rfl 0 rfl ?_
    obtain ⟨a58, e58, hP⟩ := hP
    have k58 := f57 a58 e58
    obtain ⟨i59, hP⟩ := hP
    refine z_iald e58 k58 i59 dX12_grows_34 ?_
    refine z_aload_n dX12_grows_35 rfl 1 rfl ?_
    refine z_pc (pc' := 36) rfl ?_
    refine z_getr (c := 12) (k := 69) (g := 1605) (t := 20) z_cb12 (Nat.le_of_ble_eq_true rfl) (Nat.le_of_ble_eq_true rfl) rfl rfl zw_1324 rfl ha dX12_grows_36 (fun f60 => ?_)
    refine z_iload_n dX12_grows_39 rfl 2 rfl ?_
    obtain ⟨a61, e61, hP⟩ := hP
    have k61 := f60 a61 e61
    obtain ⟨i62, hP⟩ := hP
    refine z_iald e61 k61 i62 dX12_grows_40 ?_
    refine z_isub dX12_grows_41 ?_
    refine z_imul dX12_grows_42 ?_
    refine z_iconst (v := 1) dX12_grows_43 (by decide) ?_
    refine z_pc (pc' := 44) rfl ?_
    refine z_aload_n dX12_grows_44 rfl 1 rfl ?_
    refine z_geti (c := 12) (k := 0) (g := 1536) z_cb12 (Nat.le_of_ble_eq_true rfl) (Nat.le_of_ble_eq_true rfl) rfl (Nat.le_of_ble_eq_true rfl) zw_1255 rfl ha dX12_grows_45 ?_
    refine z_aload_n dX12_grows_48 rfl 1 rfl ?_
    refine z_getr (c := 12) (k := 58) (g := 1594) (t := 20) z_cb12 (Nat.le_of_ble_eq_true rfl) (Nat.le_of_ble_eq_true rfl) rfl rfl zw_1313 rfl ha dX12_grows_49 (fun f64 => ?_)
    refine z_iload_n dX12_grows_52 rfl 2 rfl ?_
    obtain ⟨a65, e65, hP⟩ := hP
    have k65 := f64 a65 e65
    obtain ⟨i66, hP⟩ := hP
    refine z_iald e65 k65 i66 dX12_grows_53 ?_
    refine z_pc (pc' := 54) rfl ?_
    refine z_isub dX12_grows_54 ?_
    refine z_wts (fun hT67 _ => ?_)
    refine z_cSi (n := 2) (Y1 := Y_X12_max) (st := [z_I _]) rfl (s_X12_max  hP) rfl ⟨z_dc_X12_max, ⟨(Nat.le_of_ble_eq_true rfl), (Nat.le_of_ble_eq_true rfl)⟩, (Nat.le_of_ble_eq_true rfl)⟩ rfl zw_1662 zw_1663 zw_12 zw_1664 dX12_grows_55 (fun x_67 M_67 hP _ x67 => ?_)
    have ha := x67.k (k := 12) hT67 ha
    obtain ⟨z68, hP⟩ := hP
    refine z_idiv dX12_grows_58 z68 ?_
    refine z_topi (fun x_69 y_69 => ?_)
    replace hP := hP x_69 y_69
    refine z_istore_n (lv' := [(3, z_I _), (2, z_I _), (0, z_O _), (1, z_I _)]) dX12_grows_59 rfl (Nat.le_of_ble_eq_true rfl) rfl ?_
    refine z_aload_n dX12_grows_60 rfl 2 rfl ?_
    refine z_getr (c := 12) (k := 85) (g := 1621) (t := 20) z_cb12 (Nat.le_of_ble_eq_true rfl) (Nat.le_of_ble_eq_true rfl) rfl rfl zw_1340 rfl ha dX12_grows_61 (fun f70 => ?_)
    refine z_pc (pc' := 64) rfl ?_
    refine z_bipush (v := 8) dX12_grows_64 (by decide) ?_
    refine z_iload_n dX12_grows_66 rfl 1 rfl ?_
    refine z_imul dX12_grows_67 ?_
    refine z_aload_n dX12_grows_68 rfl 2 rfl ?_
    refine z_getr (c := 12) (k := 86) (g := 1622) (t := 20) z_cb12 (Nat.le_of_ble_eq_true rfl) (Nat.le_of_ble_eq_true rfl) rfl rfl zw_1341 rfl ha dX12_grows_69 (fun f71 => ?_)
    refine z_iload_n dX12_grows_72 rfl 1 rfl ?_
    refine z_pc (pc' := 73) rfl ?_
    obtain ⟨a72, e72, hP⟩ := hP
    have k72 := f71 a72 e72
    obtain ⟨i73, hP⟩ := hP
    refine z_iald e72 k72 i73 dX12_grows_73 ?_
    refine z_bipush (v := 8) dX12_grows_74 (by decide) ?_
    refine z_irem dX12_grows_76 (by decide) ?_
    refine z_iadd dX12_grows_77 ?_
    refine z_iload_n dX12_grows_78 rfl 0 rfl ?_
    obtain ⟨a74, e74, hP⟩ := hP
    have k74 := f70 a74 e74
    obtain ⟨i75, hP⟩ := hP
    refine z_iast e74 k74 i75 dX12_grows_79 ?_
    refine z_nm (fun M_76 g_76 => ?_)
    replace hP := hP M_76 g_76
    have q_76 := z_k3 g_76
    have ha := z_kk q_76 ha
    refine z_pc (pc' := 80) rfl ?_
    refine z_aload_n dX12_grows_80 rfl 2 rfl ?_
    refine z_getr (c := 12) (k := 86) (g := 1622) (t := 20) z_cb12 (Nat.le_of_ble_eq_true rfl) (Nat.le_of_ble_eq_true rfl) rfl rfl zw_1341 rfl ha dX12_grows_81 (fun f77 => ?_)
    refine z_iload_n dX12_grows_84 rfl 1 rfl ?_
    refine z_dup2 dX12_grows_85 rfl rfl ?_
    obtain ⟨a78, e78, hP⟩ := hP
    have k78 := f77 a78 e78
    obtain ⟨i79, hP⟩ := hP
    refine z_iald e78 k78 i79 dX12_grows_86 ?_
    refine z_iconst (v := 1) dX12_grows_87 (by decide) ?_
    refine z_pc (pc' := 88) rfl ?_
    refine z_iadd dX12_grows_88 ?_
    obtain ⟨i80, hP⟩ := hP
    refine z_iast e78 k78 i80 dX12_grows_89 ?_
    refine z_nm (fun M_81 g_81 => ?_)
    replace hP := hP M_81 g_81
    have q_81 := z_k3 g_81
    have ha := z_kk q_81 ha
    refine z_iconst (v := 0) dX12_grows_90 (by decide) ?_
    refine z_istore (lv' := [(4, z_I _), (3, z_I _), (2, z_I _), (0, z_O _), (1, z_I _)]) dX12_grows_91 (Nat.le_of_ble_eq_true rfl) rfl ?_
    refine z_iconst (v := 0) dX12_grows_93 (by decide) ?_
    refine z_istore (lv' := [(5, z_I _), (4, z_I _), (3, z_I _), (2, z_I _), (0, z_O _), (1, z_I _)]) dX12_grows_94 (Nat.le_of_ble_eq_true rfl) rfl ?_
    obtain ⟨n82, hP⟩ := hP
    refine z_sub (lv' := [(0, z_O _), (2, z_I _), (4, z_I _), (5, z_I _)]) [4, 3, 1, 0] rfl ?_
    exact v_X12_grows_96  n82 ha hP
def P_X12_harms_129 (a : Nat) (Post : z_Mem → Prop)  (x1 : Int32) (t0 : Option Nat) (t1 : Int32) (t2 : Int32) (t3 : Int32) (M : z_Mem) : Prop := P_X12_max t2 t3 M fun x_1 M_1 => (z_nn t0 fun a2 => (vp_in t1 (z_ln M_1 a2) ∧ (∀ M_4 : z_Mem, M_4 = z_sai M_1 a2 ((t1 : Int32).toNatClampNeg) x_1 → (z_nn (z_fr M_4 1607 a) fun a7 => (vp_in x1 (z_ln M_4 a7) ∧ (z_nn (z_fr M_4 1608 a) fun a9 => (vp_in x1 (z_ln M_4 a9) ∧ (∀ M_11 : z_Mem, M_11 = z_sai M_4 a9 ((x1 : Int32).toNatClampNeg) (z_ai M_4 a7 ((x1 : Int32).toNatClampNeg)) → (Post M_11)))))))))
def P_X12_harms_55 (a : Nat) (Post : z_Mem → Prop)  (x1 : Int32) (t0 : Option Nat) (t1 : Int32) (t2 : Int32) (M : z_Mem) : Prop := z_nn t0 fun a12 => (vp_in t1 (z_ln M a12) ∧ (∀ M_14 : z_Mem, M_14 = z_sai M a12 ((t1 : Int32).toNatClampNeg) t2 → (z_nn (z_fr M_14 1607 a) fun a17 => (vp_in x1 (z_ln M_14 a17) ∧ (z_nn (z_fr M_14 1626 a) fun a19 => (vp_in x1 (z_ln M_14 a19) ∧ (∀ M_21 : z_Mem, M_21 = z_sai M_14 a19 ((x1 : Int32).toNatClampNeg) (z_ai M_14 a17 ((x1 : Int32).toNatClampNeg)) → (z_nn (z_fr M_21 1608 a) fun a24 => (vp_in x1 (z_ln M_21 a24) ∧ (z_nn (z_fr M_21 1627 a) fun a26 => (vp_in x1 (z_ln M_21 a26) ∧ (∀ M_28 : z_Mem, M_28 = z_sai M_21 a26 ((x1 : Int32).toNatClampNeg) (z_ai M_21 a24 ((x1 : Int32).toNatClampNeg)) → (z_nn (z_fr M_28 1609 a) fun a30 => (vp_in x1 (z_ln M_28 a30) ∧ (((2 ≤ (z_ai M_28 a30 ((x1 : Int32).toNatClampNeg)) → Post M_28) ∧ (¬ 2 ≤ (z_ai M_28 a30 ((x1 : Int32).toNatClampNeg)) → z_nn (z_fr M_28 1609 a) fun a35 => (vp_in x1 (z_ln M_28 a35) ∧ ((((z_ai M_28 a35 ((x1 : Int32).toNatClampNeg)) = 0 → z_nn (z_fr M_28 1607 a) fun a42 => (vp_in x1 (z_ln M_28 a42) ∧ (P_X12_harms_129 a Post x1 (z_fr M_28 1607 a) x1 32 ((z_ai M_28 a42 ((x1 : Int32).toNatClampNeg)) / 2) M_28))) ∧ (¬ (z_ai M_28 a35 ((x1 : Int32).toNatClampNeg)) = 0 → z_nn (z_fr M_28 1607 a) fun a39 => (vp_in x1 (z_ln M_28 a39) ∧ (P_X12_harms_129 a Post x1 (z_fr M_28 1607 a) x1 32 ((7 * (z_ai M_28 a39 ((x1 : Int32).toNatClampNeg))) / 10) M_28)))))))))))))))))))))))
set_option maxRecDepth 100000 in
def P_X12_harms (a : Nat) (p1 : Int32) (p2 : Int32) (p3 : Int32) (M : z_Mem) (Post : z_Mem → Prop) : Prop := z_nn (z_fr M 1623 a) fun a45 => (vp_in p1 (z_ln M a45) ∧ ((((z_ai M a45 ((p1 : Int32).toNatClampNeg)) ≤ p2 → z_nn (z_fr M 1629 a) fun a49 => (vp_in 5 (z_ln M a49) ∧ (vp_in 5 (z_ln M a49) ∧ (∀ M_52 : z_Mem, M_52 = z_sai M a49 ((5 : Int32).toNatClampNeg) ((z_ai M a49 ((5 : Int32).toNatClampNeg)) + 1) → (z_nn (z_fr M_52 1623 a) fun a55 => (vp_in p1 (z_ln M_52 a55) ∧ (∀ M_57 : z_Mem, M_57 = z_sai M_52 a55 ((p1 : Int32).toNatClampNeg) (z_fi M_52 1606 a) → (z_nn (z_fr M_57 1624 a) fun a60 => (vp_in p1 (z_ln M_57 a60) ∧ (∀ M_62 : z_Mem, M_62 = z_sai M_57 a60 ((p1 : Int32).toNatClampNeg) (z_fi M_57 1536 a) → (((p3 = 0 → P_X12_harms_55 a Post p1 (z_fr M_62 1625 a) p1 (-1) M_62) ∧ (¬ p3 = 0 → P_X12_harms_55 a Post p1 (z_fr M_62 1625 a) p1 p2 M_62))))))))))))) ∧ (¬ (z_ai M a45 ((p1 : Int32).toNatClampNeg)) ≤ p2 → Post M))))
set_option maxRecDepth 100000 in
set_option maxHeartbeats 4000000 in
theorem v_X12_harms_129 {G : z_G} {M0 : z_Mem} {a : Nat} {Post : z_Mem → Prop}   {x1 : Int32} {t0 : Option Nat} {t1 : Int32} {t2 : Int32} {t3 : Int32} {M : z_Mem} (ha : z_ki M a = 13) (f_t0 : z_tr M t0 20) (hP : P_X12_harms_129 a Post x1 t0 t1 t2 t3 M) : z_V G Y_X12_harms z_X0 M0 (z_QM G M0 (z_PV Post)) M 129 [(0, z_O (some a)), (1, z_I x1)] [z_I t3, z_I t2, z_I t1, z_O t0] := by
  unfold P_X12_harms_129 at hP
  refine z_wts (fun hT1 _ => ?_)
  refine z_cSi (n := 2) (Y1 := Y_X12_max) (st := [z_I _, z_O _]) rfl (s_X12_max  hP) rfl ⟨z_dc_X12_max, ⟨(Nat.le_of_ble_eq_true rfl), (Nat.le_of_ble_eq_true rfl)⟩, (Nat.le_of_ble_eq_true rfl)⟩ rfl zw_1662 zw_1663 zw_12 zw_1664 dX12_harms_129 (fun x_1 M_1 hP _ x1 => ?_)
  have ha := x1.k (k := 12) hT1 ha
  have f_t0 := x1.t (k := 19) hT1 f_t0
  obtain ⟨a2, e2, hP⟩ := hP
  have k2 := f_t0 a2 e2
  obtain ⟨i3, hP⟩ := hP
  refine z_iast e2 k2 i3 dX12_harms_132 ?_
  refine z_nm (fun M_4 g_4 => ?_)
  replace hP := hP M_4 g_4
  have q_4 := z_k3 g_4
  have ha := z_kk q_4 ha
  refine z_aload_n dX12_harms_133 rfl 0 rfl ?_
  refine z_getr (c := 12) (k := 72) (g := 1608) (t := 20) z_cb12 (Nat.le_of_ble_eq_true rfl) (Nat.le_of_ble_eq_true rfl) rfl rfl zw_1327 rfl ha dX12_harms_134 (fun f5 => ?_)
  refine z_iload_n dX12_harms_137 rfl 1 rfl ?_
  refine z_aload_n dX12_harms_138 rfl 0 rfl ?_
  refine z_pc (pc' := 139) rfl ?_
  refine z_getr (c := 12) (k := 71) (g := 1607) (t := 20) z_cb12 (Nat.le_of_ble_eq_true rfl) (Nat.le_of_ble_eq_true rfl) rfl rfl zw_1326 rfl ha dX12_harms_139 (fun f6 => ?_)
  refine z_iload_n dX12_harms_142 rfl 1 rfl ?_
  obtain ⟨a7, e7, hP⟩ := hP
  have k7 := f6 a7 e7
  obtain ⟨i8, hP⟩ := hP
  refine z_iald e7 k7 i8 dX12_harms_143 ?_
  obtain ⟨a9, e9, hP⟩ := hP
  have k9 := f5 a9 e9
  obtain ⟨i10, hP⟩ := hP
  refine z_iast e9 k9 i10 dX12_harms_144 ?_
  refine z_nm (fun M_11 g_11 => ?_)
  replace hP := hP M_11 g_11
  have q_11 := z_k3 g_11
  have ha := z_kk q_11 ha
  exact z_retv rfl dX12_harms_145 hP
set_option maxRecDepth 100000 in
set_option maxHeartbeats 4000000 in
theorem v_X12_harms_55 {G : z_G} {M0 : z_Mem} {a : Nat} {Post : z_Mem → Prop}   {x1 : Int32} {t0 : Option Nat} {t1 : Int32} {t2 : Int32} {M : z_Mem} (ha : z_ki M a = 13) (f_t0 : z_tr M t0 20) (hP : P_X12_harms_55 a Post x1 t0 t1 t2 M) : z_V G Y_X12_harms z_X0 M0 (z_QM G M0 (z_PV Post)) M 55 [(0, z_O (some a)), (1, z_I x1)] [z_I t2, z_I t1, z_O t0] := by
  unfold P_X12_harms_55 at hP
  obtain ⟨a12, e12, hP⟩ := hP
  have k12 := f_t0 a12 e12
  obtain ⟨i13, hP⟩ := hP
  refine z_iast e12 k12 i13 dX12_harms_55 ?_
  refine z_nm (fun M_14 g_14 => ?_)
  replace hP := hP M_14 g_14
  have q_14 := z_k3 g_14
  have ha := z_kk q_14 ha
  refine z_aload_n dX12_harms_56 rfl 0 rfl ?_
  refine z_getr (c := 12) (k := 90) (g := 1626) (t := 20) z_cb12 (Nat.le_of_ble_eq_true rfl) (Nat.le_of_ble_eq_true rfl) rfl rfl zw_1345 rfl ha dX12_harms_57 (fun f15 => ?_)
  refine z_iload_n dX12_harms_60 rfl 1 rfl ?_
  refine z_aload_n dX12_harms_61 rfl 0 rfl ?_
  refine z_getr (c := 12) (k := 71) (g := 1607) (t := 20) z_cb12 (Nat.le_of_ble_eq_true rfl) (Nat.le_of_ble_eq_true rfl) rfl rfl zw_1326 rfl ha dX12_harms_62 (fun f16 => ?_)
  refine z_pc (pc' := 65) rfl ?_
  refine z_iload_n dX12_harms_65 rfl 1 rfl ?_
  obtain ⟨a17, e17, hP⟩ := hP
  have k17 := f16 a17 e17
  obtain ⟨i18, hP⟩ := hP
  refine z_iald e17 k17 i18 dX12_harms_66 ?_
  obtain ⟨a19, e19, hP⟩ := hP
  have k19 := f15 a19 e19
  obtain ⟨i20, hP⟩ := hP
  refine z_iast e19 k19 i20 dX12_harms_67 ?_
  refine z_nm (fun M_21 g_21 => ?_)
  replace hP := hP M_21 g_21
  have q_21 := z_k3 g_21
  have ha := z_kk q_21 ha
  refine z_aload_n dX12_harms_68 rfl 0 rfl ?_
  refine z_getr (c := 12) (k := 91) (g := 1627) (t := 20) z_cb12 (Nat.le_of_ble_eq_true rfl) (Nat.le_of_ble_eq_true rfl) rfl rfl zw_1346 rfl ha dX12_harms_69 (fun f22 => ?_)
  refine z_iload_n dX12_harms_72 rfl 1 rfl ?_
  refine z_pc (pc' := 73) rfl ?_
  refine z_aload_n dX12_harms_73 rfl 0 rfl ?_
  refine z_getr (c := 12) (k := 72) (g := 1608) (t := 20) z_cb12 (Nat.le_of_ble_eq_true rfl) (Nat.le_of_ble_eq_true rfl) rfl rfl zw_1327 rfl ha dX12_harms_74 (fun f23 => ?_)
  refine z_iload_n dX12_harms_77 rfl 1 rfl ?_
  obtain ⟨a24, e24, hP⟩ := hP
  have k24 := f23 a24 e24
  obtain ⟨i25, hP⟩ := hP
  refine z_iald e24 k24 i25 dX12_harms_78 ?_
  obtain ⟨a26, e26, hP⟩ := hP
  have k26 := f22 a26 e26
  obtain ⟨i27, hP⟩ := hP
  refine z_iast e26 k26 i27 dX12_harms_79 ?_
  refine z_nm (fun M_28 g_28 => ?_)
  replace hP := hP M_28 g_28
  have q_28 := z_k3 g_28
  have ha := z_kk q_28 ha
  refine z_aload_n dX12_harms_80 rfl 0 rfl ?_
  refine z_pc (pc' := 81) rfl ?_
  refine z_getr (c := 12) (k := 73) (g := 1609) (t := 20) z_cb12 (Nat.le_of_ble_eq_true rfl) (Nat.le_of_ble_eq_true rfl) rfl rfl zw_1328 rfl ha dX12_harms_81 (fun f29 => ?_)
  refine z_iload_n dX12_harms_84 rfl 1 rfl ?_
  obtain ⟨a30, e30, hP⟩ := hP
  have k30 := f29 a30 e30
  obtain ⟨i31, hP⟩ := hP
  refine z_iald e30 k30 i31 dX12_harms_85 ?_
  refine z_iconst (v := 2) dX12_harms_86 (by decide) ?_
  refine z_icmp_ge (tgt := 145) dX12_harms_87 (by decide) (fun h32 => ?_) (fun h32 => ?_)
  · replace hP := hP.1 h32
    exact z_retv rfl dX12_harms_145 hP
  · replace hP := hP.2 h32
    refine z_aload_n dX12_harms_90 rfl 0 rfl ?_
    refine z_getr (c := 12) (k := 71) (g := 1607) (t := 20) z_cb12 (Nat.le_of_ble_eq_true rfl) (Nat.le_of_ble_eq_true rfl) rfl rfl zw_1326 rfl ha dX12_harms_91 (fun f33 => ?_)
    refine z_pc (pc' := 94) rfl ?_
    refine z_iload_n dX12_harms_94 rfl 1 rfl ?_
    refine z_bipush (v := 32) dX12_harms_95 (by decide) ?_
    refine z_aload_n dX12_harms_97 rfl 0 rfl ?_
    refine z_getr (c := 12) (k := 73) (g := 1609) (t := 20) z_cb12 (Nat.le_of_ble_eq_true rfl) (Nat.le_of_ble_eq_true rfl) rfl rfl zw_1328 rfl ha dX12_harms_98 (fun f34 => ?_)
    refine z_iload_n dX12_harms_101 rfl 1 rfl ?_
    obtain ⟨a35, e35, hP⟩ := hP
    have k35 := f34 a35 e35
    obtain ⟨i36, hP⟩ := hP
    refine z_iald e35 k35 i36 dX12_harms_102 ?_
    refine z_pc (pc' := 103) rfl ?_
    refine z_if_ne (tgt := 117) dX12_harms_103 (by decide) (fun h37 => ?_) (fun h37 => ?_)
    · replace hP := hP.2 h37
      refine z_bipush (v := 7) dX12_harms_117 (by decide) ?_
      refine z_aload_n dX12_harms_119 rfl 0 rfl ?_
      refine z_getr (c := 12) (k := 71) (g := 1607) (t := 20) z_cb12 (Nat.le_of_ble_eq_true rfl) (Nat.le_of_ble_eq_true rfl) rfl rfl zw_1326 rfl ha dX12_harms_120 (fun f38 => ?_)
      refine z_iload_n dX12_harms_123 rfl 1 rfl ?_
      obtain ⟨a39, e39, hP⟩ := hP
      have k39 := f38 a39 e39
      obtain ⟨i40, hP⟩ := hP
      refine z_iald e39 k39 i40 dX12_harms_124 ?_
      refine z_imul dX12_harms_125 ?_
      refine z_pc (pc' := 126) rfl ?_
      refine z_bipush (v := 10) dX12_harms_126 (by decide) ?_
      refine z_idiv dX12_harms_128 (by decide) ?_
      refine z_sub (lv' := [(0, z_O _), (1, z_I _)]) [0, 1] rfl ?_
      exact v_X12_harms_129  ha f33 hP
    · replace hP := hP.1 h37
      refine z_aload_n dX12_harms_106 rfl 0 rfl ?_
      refine z_getr (c := 12) (k := 71) (g := 1607) (t := 20) z_cb12 (Nat.le_of_ble_eq_true rfl) (Nat.le_of_ble_eq_true rfl) rfl rfl zw_1326 rfl ha dX12_harms_107 (fun f41 => ?_)
      refine z_iload_n dX12_harms_110 rfl 1 rfl ?_
      obtain ⟨a42, e42, hP⟩ := hP
      have k42 := f41 a42 e42
      obtain ⟨i43, hP⟩ := hP
      refine z_iald e42 k42 i43 dX12_harms_111 ?_
      refine z_iconst (v := 2) dX12_harms_112 (by decide) ?_
      refine z_idiv dX12_harms_113 (by decide) ?_
      refine z_pc (pc' := 114) rfl ?_
      refine z_goto (tgt := 129) dX12_harms_114 (by decide) ?_
      refine z_sub (lv' := [(0, z_O _), (1, z_I _)]) [0, 1] rfl ?_
      exact v_X12_harms_129  ha f33 hP
set_option maxRecDepth 100000 in
set_option maxHeartbeats 4000000 in
theorem s_X12_harms {G : z_G} {M : z_Mem} {a : Nat} {p1 : Int32} {p2 : Int32} {p3 : Int32} {Post : z_Mem → Prop} (ha : z_ki M a = 13) (f_p3 : p3 = 0 ∨ p3 = 1) (hP : P_X12_harms a p1 p2 p3 M Post) : z_Mt G Y_X12_harms M [z_O (some a), z_I p1, z_I p2, z_I p3] (z_PV Post) := by
  refine z_ofV (by decide) (Nat.le_of_ble_eq_true rfl) ?_
  unfold P_X12_harms at hP
  refine z_sub (lv' := [(0, z_O (some a)), (1, z_I p1), (2, z_I p2), (3, z_I p3)]) [0, 1, 2, 3] rfl ?_
  refine z_iload_n dX12_harms_0 rfl 2 rfl ?_
  refine z_aload_n dX12_harms_1 rfl 0 rfl ?_
  refine z_getr (c := 12) (k := 87) (g := 1623) (t := 20) z_cb12 (Nat.le_of_ble_eq_true rfl) (Nat.le_of_ble_eq_true rfl) rfl rfl zw_1342 rfl ha dX12_harms_2 (fun f44 => ?_)
  refine z_iload_n dX12_harms_5 rfl 1 rfl ?_
  obtain ⟨a45, e45, hP⟩ := hP
  have k45 := f44 a45 e45
  obtain ⟨i46, hP⟩ := hP
  refine z_iald e45 k45 i46 dX12_harms_6 ?_
  refine z_icmp_ge (tgt := 11) dX12_harms_7 (by decide) (fun h47 => ?_) (fun h47 => ?_)
  · replace hP := hP.1 h47
    refine z_aload_n dX12_harms_11 rfl 0 rfl ?_
    refine z_pc (pc' := 12) rfl ?_
    refine z_getr (c := 12) (k := 93) (g := 1629) (t := 20) z_cb12 (Nat.le_of_ble_eq_true rfl) (Nat.le_of_ble_eq_true rfl) rfl rfl zw_1348 rfl ha dX12_harms_12 (fun f48 => ?_)
    refine z_iconst (v := 5) dX12_harms_15 (by decide) ?_
    refine z_dup2 dX12_harms_16 rfl rfl ?_
    obtain ⟨a49, e49, hP⟩ := hP
    have k49 := f48 a49 e49
    obtain ⟨i50, hP⟩ := hP
    refine z_iald e49 k49 i50 dX12_harms_17 ?_
    refine z_iconst (v := 1) dX12_harms_18 (by decide) ?_
    refine z_iadd dX12_harms_19 ?_
    refine z_pc (pc' := 20) rfl ?_
    obtain ⟨i51, hP⟩ := hP
    refine z_iast e49 k49 i51 dX12_harms_20 ?_
    refine z_nm (fun M_52 g_52 => ?_)
    replace hP := hP M_52 g_52
    have q_52 := z_k3 g_52
    have ha := z_kk q_52 ha
    refine z_aload_n dX12_harms_21 rfl 0 rfl ?_
    refine z_getr (c := 12) (k := 87) (g := 1623) (t := 20) z_cb12 (Nat.le_of_ble_eq_true rfl) (Nat.le_of_ble_eq_true rfl) rfl rfl zw_1342 rfl ha dX12_harms_22 (fun f53 => ?_)
    refine z_iload_n dX12_harms_25 rfl 1 rfl ?_
    refine z_aload_n dX12_harms_26 rfl 0 rfl ?_
    refine z_geti (c := 12) (k := 70) (g := 1606) z_cb12 (Nat.le_of_ble_eq_true rfl) (Nat.le_of_ble_eq_true rfl) rfl (Nat.le_of_ble_eq_true rfl) zw_1325 rfl ha dX12_harms_27 ?_
    refine z_pc (pc' := 30) rfl ?_
    obtain ⟨a55, e55, hP⟩ := hP
    have k55 := f53 a55 e55
    obtain ⟨i56, hP⟩ := hP
    refine z_iast e55 k55 i56 dX12_harms_30 ?_
    refine z_nm (fun M_57 g_57 => ?_)
    replace hP := hP M_57 g_57
    have q_57 := z_k3 g_57
    have ha := z_kk q_57 ha
    refine z_aload_n dX12_harms_31 rfl 0 rfl ?_
    refine z_getr (c := 12) (k := 88) (g := 1624) (t := 20) z_cb12 (Nat.le_of_ble_eq_true rfl) (Nat.le_of_ble_eq_true rfl) rfl rfl zw_1343 rfl ha dX12_harms_32 (fun f58 => ?_)
    refine z_iload_n dX12_harms_35 rfl 1 rfl ?_
    refine z_aload_n dX12_harms_36 rfl 0 rfl ?_
    refine z_geti (c := 12) (k := 0) (g := 1536) z_cb12 (Nat.le_of_ble_eq_true rfl) (Nat.le_of_ble_eq_true rfl) rfl (Nat.le_of_ble_eq_true rfl) zw_1255 rfl ha dX12_harms_37 ?_
    refine z_pc (pc' := 40) rfl ?_
    obtain ⟨a60, e60, hP⟩ := hP
    have k60 := f58 a60 e60
    obtain ⟨i61, hP⟩ := hP
    refine z_iast e60 k60 i61 dX12_harms_40 ?_
    refine z_nm (fun M_62 g_62 => ?_)
    replace hP := hP M_62 g_62
    have q_62 := z_k3 g_62
    have ha := z_kk q_62 ha
    refine z_aload_n dX12_harms_41 rfl 0 rfl ?_
    refine z_getr (c := 12) (k := 89) (g := 1625) (t := 20) z_cb12 (Nat.le_of_ble_eq_true rfl) (Nat.le_of_ble_eq_true rfl) rfl rfl zw_1344 rfl ha dX12_harms_42 (fun f63 => ?_)
    refine z_iload_n dX12_harms_45 rfl 1 rfl ?_
    refine z_iload_n dX12_harms_46 rfl 3 rfl ?_
    refine z_if_eq (tgt := 54) dX12_harms_47 (by decide) (fun h64 => ?_) (fun h64 => ?_)
    · replace hP := hP.1 h64
      refine z_iconst (v := (-1)) dX12_harms_54 (by decide) ?_
      refine z_sub (lv' := [(0, z_O _), (1, z_I _)]) [0, 1] rfl ?_
      exact v_X12_harms_55  ha f63 hP
    · replace hP := hP.2 h64
      refine z_iload_n dX12_harms_50 rfl 2 rfl ?_
      refine z_pc (pc' := 51) rfl ?_
      refine z_goto (tgt := 55) dX12_harms_51 (by decide) ?_
      refine z_sub (lv' := [(0, z_O _), (1, z_I _)]) [0, 1] rfl ?_
      exact v_X12_harms_55  ha f63 hP
  · replace hP := hP.2 h47
    exact z_retv rfl dX12_harms_10 hP
set_option maxRecDepth 100000 in
def P_X12_lands_9 (a : Nat) (Post : z_Mem → Prop)  : Nat → Int32 → Int32 → z_Mem → Prop
  | 0, _, _, _ => False
  | n + 1, x1, x3, M => z_nn (z_fr M 1597 a) fun a2 => (vp_in x1 (z_ln M a2) ∧ ((((z_ai M a2 ((x1 : Int32).toNatClampNeg)) ≤ x3 → Post M) ∧ (¬ (z_ai M a2 ((x1 : Int32).toNatClampNeg)) ≤ x3 → z_nn (z_fr M 1595 a) fun a7 => (vp_in x1 (z_ln M a7) ∧ (z_nn (z_fr M 1596 a) fun a10 => (vp_in x1 (z_ln M a10) ∧ (z_nn (z_fr M 1592 a) fun a12 => (vp_in (((200 * (z_ai M a7 ((x1 : Int32).toNatClampNeg))) + (z_ai M a10 ((x1 : Int32).toNatClampNeg))) + x3) (z_ln M a12) ∧ (vp_in (((200 * (z_ai M a7 ((x1 : Int32).toNatClampNeg))) + (z_ai M a10 ((x1 : Int32).toNatClampNeg))) + x3) (z_ln M a12) ∧ (∀ M_15 : z_Mem, M_15 = z_sai M a12 (((((200 * (z_ai M a7 ((x1 : Int32).toNatClampNeg))) + (z_ai M a10 ((x1 : Int32).toNatClampNeg))) + x3) : Int32).toNatClampNeg) ((z_ai M a12 (((((200 * (z_ai M a7 ((x1 : Int32).toNatClampNeg))) + (z_ai M a10 ((x1 : Int32).toNatClampNeg))) + x3) : Int32).toNatClampNeg)) - 1) → (∀ x_16 : Int32, x_16 = x3 + 1 → (P_X12_lands_9 a Post n x1 x_16 M_15)))))))))))))
set_option maxRecDepth 100000 in
def P_X12_lands (a : Nat) (p1 : Int32) (p2 : Int32) (M : z_Mem) (Post : z_Mem → Prop) : Prop := z_nn (z_fr M 1598 a) fun a18 => (vp_in p1 (z_ln M a18) ∧ (∀ M_20 : z_Mem, M_20 = z_sai M a18 ((p1 : Int32).toNatClampNeg) p2 → ((∃ n21 : Nat, P_X12_lands_9 a Post n21 p1 0 M_20))))
set_option maxRecDepth 100000 in
set_option maxHeartbeats 4000000 in
theorem v_X12_lands_9 {G : z_G} {M0 : z_Mem} {a : Nat} {Post : z_Mem → Prop}   : ∀ (n : Nat) {x1 : Int32} {x3 : Int32} {M : z_Mem}, (z_ki M a = 13) → P_X12_lands_9 a Post n x1 x3 M → z_V G Y_X12_lands z_X0 M0 (z_QM G M0 (z_PV Post)) M 9 [(0, z_O (some a)), (1, z_I x1), (3, z_I x3)] [] := by
  intro n
  induction n with
  | zero => intro x1 x3 M ha hP; exact False.elim hP
  | succ n ih =>
    intro x1 x3 M ha hP
    unfold P_X12_lands_9 at hP
    refine z_iload_n dX12_lands_9 rfl 2 rfl ?_
    refine z_aload_n dX12_lands_10 rfl 0 rfl ?_
    refine z_getr (c := 12) (k := 61) (g := 1597) (t := 20) z_cb12 (Nat.le_of_ble_eq_true rfl) (Nat.le_of_ble_eq_true rfl) rfl rfl zw_1316 rfl ha dX12_lands_11 (fun f1 => ?_)
    refine z_iload_n dX12_lands_14 rfl 1 rfl ?_
    obtain ⟨a2, e2, hP⟩ := hP
    have k2 := f1 a2 e2
    obtain ⟨i3, hP⟩ := hP
    refine z_iald e2 k2 i3 dX12_lands_15 ?_
    refine z_icmp_ge (tgt := 53) dX12_lands_16 (by decide) (fun h4 => ?_) (fun h4 => ?_)
    · replace hP := hP.1 h4
      exact z_retv rfl dX12_lands_53 hP
    · replace hP := hP.2 h4
      refine z_aload_n dX12_lands_19 rfl 0 rfl ?_
      refine z_pc (pc' := 20) rfl ?_
      refine z_getr (c := 12) (k := 56) (g := 1592) (t := 20) z_cb12 (Nat.le_of_ble_eq_true rfl) (Nat.le_of_ble_eq_true rfl) rfl rfl zw_1311 rfl ha dX12_lands_20 (fun f5 => ?_)
      refine z_sipush (v := 200) dX12_lands_23 (by decide) ?_
      refine z_aload_n dX12_lands_26 rfl 0 rfl ?_
      refine z_getr (c := 12) (k := 59) (g := 1595) (t := 20) z_cb12 (Nat.le_of_ble_eq_true rfl) (Nat.le_of_ble_eq_true rfl) rfl rfl zw_1314 rfl ha dX12_lands_27 (fun f6 => ?_)
      refine z_iload_n dX12_lands_30 rfl 1 rfl ?_
      obtain ⟨a7, e7, hP⟩ := hP
      have k7 := f6 a7 e7
      obtain ⟨i8, hP⟩ := hP
      refine z_iald e7 k7 i8 dX12_lands_31 ?_
      refine z_pc (pc' := 32) rfl ?_
      refine z_imul dX12_lands_32 ?_
      refine z_aload_n dX12_lands_33 rfl 0 rfl ?_
      refine z_getr (c := 12) (k := 60) (g := 1596) (t := 20) z_cb12 (Nat.le_of_ble_eq_true rfl) (Nat.le_of_ble_eq_true rfl) rfl rfl zw_1315 rfl ha dX12_lands_34 (fun f9 => ?_)
      refine z_iload_n dX12_lands_37 rfl 1 rfl ?_
      obtain ⟨a10, e10, hP⟩ := hP
      have k10 := f9 a10 e10
      obtain ⟨i11, hP⟩ := hP
      refine z_iald e10 k10 i11 dX12_lands_38 ?_
      refine z_iadd dX12_lands_39 ?_
      refine z_pc (pc' := 40) rfl ?_
      refine z_iload_n dX12_lands_40 rfl 2 rfl ?_
      refine z_iadd dX12_lands_41 ?_
      refine z_dup2 dX12_lands_42 rfl rfl ?_
      obtain ⟨a12, e12, hP⟩ := hP
      have k12 := f5 a12 e12
      obtain ⟨i13, hP⟩ := hP
      refine z_iald e12 k12 i13 dX12_lands_43 ?_
      refine z_iconst (v := 1) dX12_lands_44 (by decide) ?_
      refine z_isub dX12_lands_45 ?_
      refine z_pc (pc' := 46) rfl ?_
      obtain ⟨i14, hP⟩ := hP
      refine z_iast e12 k12 i14 dX12_lands_46 ?_
      refine z_nm (fun M_15 g_15 => ?_)
      replace hP := hP M_15 g_15
      have q_15 := z_k3 g_15
      have ha := z_kk q_15 ha
      refine z_iincN (j := 2) (m := 1) (lv' := fun v => [(3, z_I v), (0, z_O _), (1, z_I _)]) dX12_lands_47 rfl (by decide) (Nat.le_of_ble_eq_true rfl) (fun _ => rfl) (fun x_16 y_16 => ?_)
      replace hP := hP x_16 y_16
      refine z_goto (tgt := 9) dX12_lands_50 (by decide) ?_
      refine z_sub (lv' := [(0, z_O _), (1, z_I _), (3, z_I _)]) [1, 2, 0] rfl ?_
      exact ih ha hP
set_option maxRecDepth 100000 in
set_option maxHeartbeats 4000000 in
theorem s_X12_lands {G : z_G} {M : z_Mem} {a : Nat} {p1 : Int32} {p2 : Int32} {Post : z_Mem → Prop} (ha : z_ki M a = 13) (hP : P_X12_lands a p1 p2 M Post) : z_Mt G Y_X12_lands M [z_O (some a), z_I p1, z_I p2] (z_PV Post) := by
  refine z_ofV (by decide) (Nat.le_of_ble_eq_true rfl) ?_
  unfold P_X12_lands at hP
  refine z_sub (lv' := [(0, z_O (some a)), (1, z_I p1), (2, z_I p2)]) [0, 1, 2] rfl ?_
  refine z_aload_n dX12_lands_0 rfl 0 rfl ?_
  refine z_getr (c := 12) (k := 62) (g := 1598) (t := 20) z_cb12 (Nat.le_of_ble_eq_true rfl) (Nat.le_of_ble_eq_true rfl) rfl rfl zw_1317 rfl ha dX12_lands_1 (fun f17 => ?_)
  refine z_iload_n dX12_lands_4 rfl 1 rfl ?_
  refine z_iload_n dX12_lands_5 rfl 2 rfl ?_
  obtain ⟨a18, e18, hP⟩ := hP
  have k18 := f17 a18 e18
  obtain ⟨i19, hP⟩ := hP
  refine z_iast e18 k18 i19 dX12_lands_6 ?_
  refine z_nm (fun M_20 g_20 => ?_)
  replace hP := hP M_20 g_20
  have q_20 := z_k3 g_20
  have ha := z_kk q_20 ha
  refine z_iconst (v := 0) dX12_lands_7 (by decide) ?_
  refine z_pc (pc' := 8) rfl ?_
  refine z_istore_n (lv' := [(3, z_I _), (0, z_O _), (1, z_I _), (2, z_I _)]) dX12_lands_8 rfl (Nat.le_of_ble_eq_true rfl) rfl ?_
  obtain ⟨n21, hP⟩ := hP
  refine z_sub (lv' := [(0, z_O _), (1, z_I _), (3, z_I _)]) [1, 2, 0] rfl ?_
  exact v_X12_lands_9  n21 ha hP
set_option maxRecDepth 100000 in
def P_X12_loses (a : Nat) (p1 : Int32) (M : z_Mem) (Post : z_Mem → Prop) : Prop := P_X12_lands a p1 2 M fun M_1 => (z_nn (z_fr M_1 1629 a) fun a3 => (vp_in 0 (z_ln M_1 a3) ∧ (vp_in 0 (z_ln M_1 a3) ∧ (∀ M_6 : z_Mem, M_6 = z_sai M_1 a3 ((0 : Int32).toNatClampNeg) ((z_ai M_1 a3 ((0 : Int32).toNatClampNeg)) + 1) → (z_nn (z_fr M_6 1593 a) fun a8 => (vp_in p1 (z_ln M_6 a8) ∧ (P_X12_harms a (z_ai M_6 a8 ((p1 : Int32).toNatClampNeg)) p1 1 M_6 fun M_10 => (Post M_10))))))))
set_option maxRecDepth 100000 in
set_option maxHeartbeats 4000000 in
theorem s_X12_loses {G : z_G} {M : z_Mem} {a : Nat} {p1 : Int32} {Post : z_Mem → Prop} (ha : z_ki M a = 13) (hP : P_X12_loses a p1 M Post) : z_Mt G Y_X12_loses M [z_O (some a), z_I p1] (z_PV Post) := by
  refine z_ofV (by decide) (Nat.le_of_ble_eq_true rfl) ?_
  unfold P_X12_loses at hP
  refine z_sub (lv' := [(0, z_O (some a)), (1, z_I p1)]) [0, 1] rfl ?_
  refine z_aload_n dX12_loses_0 rfl 0 rfl ?_
  refine z_iload_n dX12_loses_1 rfl 1 rfl ?_
  refine z_iconst (v := 2) dX12_loses_2 (by decide) ?_
  refine z_wts (fun hT1 _ => ?_)
  refine z_cVv (c := 12) (n := 2) (Y1 := Y_X12_lands) (st := []) rfl ha z_cb12 (Nat.le_of_ble_eq_true rfl) rfl (s_X12_lands ha hP) rfl ⟨z_dc_X12_lands, ⟨(Nat.le_of_ble_eq_true rfl), (Nat.le_of_ble_eq_true rfl)⟩, (Nat.le_of_ble_eq_true rfl)⟩ rfl zw_1677 zw_1679 zp_45 zw_12 zw_1680 dX12_loses_3 (fun M_1 hP _ x1 => ?_)
  have ha := x1.k (k := 12) hT1 ha
  refine z_aload_n dX12_loses_6 rfl 0 rfl ?_
  refine z_getr (c := 12) (k := 93) (g := 1629) (t := 20) z_cb12 (Nat.le_of_ble_eq_true rfl) (Nat.le_of_ble_eq_true rfl) rfl rfl zw_1348 rfl ha dX12_loses_7 (fun f2 => ?_)
  refine z_pc (pc' := 10) rfl ?_
  refine z_iconst (v := 0) dX12_loses_10 (by decide) ?_
  refine z_dup2 dX12_loses_11 rfl rfl ?_
  obtain ⟨a3, e3, hP⟩ := hP
  have k3 := f2 a3 e3
  obtain ⟨i4, hP⟩ := hP
  refine z_iald e3 k3 i4 dX12_loses_12 ?_
  refine z_iconst (v := 1) dX12_loses_13 (by decide) ?_
  refine z_iadd dX12_loses_14 ?_
  obtain ⟨i5, hP⟩ := hP
  refine z_iast e3 k3 i5 dX12_loses_15 ?_
  refine z_nm (fun M_6 g_6 => ?_)
  replace hP := hP M_6 g_6
  have q_6 := z_k3 g_6
  have ha := z_kk q_6 ha
  refine z_pc (pc' := 16) rfl ?_
  refine z_aload_n dX12_loses_16 rfl 0 rfl ?_
  refine z_aload_n dX12_loses_17 rfl 0 rfl ?_
  refine z_getr (c := 12) (k := 57) (g := 1593) (t := 20) z_cb12 (Nat.le_of_ble_eq_true rfl) (Nat.le_of_ble_eq_true rfl) rfl rfl zw_1312 rfl ha dX12_loses_18 (fun f7 => ?_)
  refine z_iload_n dX12_loses_21 rfl 1 rfl ?_
  obtain ⟨a8, e8, hP⟩ := hP
  have k8 := f7 a8 e8
  obtain ⟨i9, hP⟩ := hP
  refine z_iald e8 k8 i9 dX12_loses_22 ?_
  refine z_iload_n dX12_loses_23 rfl 1 rfl ?_
  refine z_pc (pc' := 24) rfl ?_
  refine z_iconst (v := 1) dX12_loses_24 (by decide) ?_
  refine z_wts (fun hT10 _ => ?_)
  refine z_cVv (c := 12) (n := 3) (Y1 := Y_X12_harms) (st := []) rfl ha z_cb12 (Nat.le_of_ble_eq_true rfl) rfl (s_X12_harms ha (Or.inr rfl) hP) rfl ⟨z_dc_X12_harms, ⟨(Nat.le_of_ble_eq_true rfl), (Nat.le_of_ble_eq_true rfl)⟩, (Nat.le_of_ble_eq_true rfl)⟩ rfl zw_1702 zw_1704 zp_50 zw_12 zw_1705 dX12_loses_25 (fun M_10 hP _ x10 => ?_)
  have ha := x10.k (k := 12) hT10 ha
  exact z_retv rfl dX12_loses_28 hP
def P_X12_losesByOrder_51 (a : Nat) (Post : z_Mem → Prop) (J2 : Int32 → Int32 → z_Mem → Prop) (x1 : Int32) (x2 : Int32) (M : z_Mem) : Prop := ∀ x_1 : Int32, x_1 = x2 + 1 → (J2 x1 x_1 M)
set_option maxRecDepth 100000 in
def P_X12_losesByOrder_2 (a : Nat) (Post : z_Mem → Prop)  : Nat → Int32 → Int32 → z_Mem → Prop
  | 0, _, _, _ => False
  | n + 1, x1, x2, M => (((z_fi M 1606 a) ≤ x2 → Post M) ∧ (¬ (z_fi M 1606 a) ≤ x2 → z_nn (z_fr M 1593 a) fun a5 => (vp_in x2 (z_ln M a5) ∧ ((((z_ai M a5 ((x2 : Int32).toNatClampNeg)) = x1 → z_nn (z_fr M 1598 a) fun a9 => (vp_in x2 (z_ln M a9) ∧ ((((z_ai M a9 ((x2 : Int32).toNatClampNeg)) = 0 → z_nn (z_fr M 1617 a) fun a13 => (vp_in x1 (z_ln M a13) ∧ (z_nn (z_fr M 1604 a) fun a16 => (vp_in x2 (z_ln M a16) ∧ ((((z_ai M a13 ((x1 : Int32).toNatClampNeg)) < ((z_ai M a16 ((x2 : Int32).toNatClampNeg)) + 3) → P_X12_losesByOrder_51 a Post (fun q0 q1 qM => P_X12_losesByOrder_2 a Post n q0 q1 qM) x1 x2 M) ∧ (¬ (z_ai M a13 ((x1 : Int32).toNatClampNeg)) < ((z_ai M a16 ((x2 : Int32).toNatClampNeg)) + 3) → P_X12_loses a x2 M fun M_19 => (P_X12_losesByOrder_51 a Post (fun q0 q1 qM => P_X12_losesByOrder_2 a Post n q0 q1 qM) x1 x2 M_19)))))))) ∧ (¬ (z_ai M a9 ((x2 : Int32).toNatClampNeg)) = 0 → P_X12_losesByOrder_51 a Post (fun q0 q1 qM => P_X12_losesByOrder_2 a Post n q0 q1 qM) x1 x2 M))))) ∧ (¬ (z_ai M a5 ((x2 : Int32).toNatClampNeg)) = x1 → P_X12_losesByOrder_51 a Post (fun q0 q1 qM => P_X12_losesByOrder_2 a Post n q0 q1 qM) x1 x2 M))))))
set_option maxRecDepth 100000 in
def P_X12_losesByOrder (a : Nat) (p1 : Int32) (M : z_Mem) (Post : z_Mem → Prop) : Prop := (∃ n20 : Nat, P_X12_losesByOrder_2 a Post n20 p1 0 M)
set_option maxRecDepth 100000 in
set_option maxHeartbeats 4000000 in
theorem v_X12_losesByOrder_51 {G : z_G} {M0 : z_Mem} {a : Nat} {Post : z_Mem → Prop} {J2 : Int32 → Int32 → z_Mem → Prop} (hJ2 : ∀ (x1 : Int32) (x2 : Int32) (M : z_Mem), (z_ki M a = 13) → J2 x1 x2 M → z_V G Y_X12_losesByOrder z_X0 M0 (z_QM G M0 (z_PV Post)) M 2 [(0, z_O (some a)), (1, z_I x1), (2, z_I x2)] []) {x1 : Int32} {x2 : Int32} {M : z_Mem} (ha : z_ki M a = 13) (hP : P_X12_losesByOrder_51 a Post J2 x1 x2 M) : z_V G Y_X12_losesByOrder z_X0 M0 (z_QM G M0 (z_PV Post)) M 51 [(0, z_O (some a)), (1, z_I x1), (2, z_I x2)] [] := by
  unfold P_X12_losesByOrder_51 at hP
  refine z_iincN (j := 2) (m := 1) (lv' := fun v => [(2, z_I v), (0, z_O _), (1, z_I _)]) dX12_losesByOrder_51 rfl (by decide) (Nat.le_of_ble_eq_true rfl) (fun _ => rfl) (fun x_1 y_1 => ?_)
  replace hP := hP x_1 y_1
  refine z_goto (tgt := 2) dX12_losesByOrder_54 (by decide) ?_
  refine z_sub (lv' := [(0, z_O _), (1, z_I _), (2, z_I _)]) [1, 2, 0] rfl ?_
  exact hJ2 _ _ _ ha hP
set_option maxRecDepth 100000 in
set_option maxHeartbeats 4000000 in
theorem v_X12_losesByOrder_2 {G : z_G} {M0 : z_Mem} {a : Nat} {Post : z_Mem → Prop}   : ∀ (n : Nat) {x1 : Int32} {x2 : Int32} {M : z_Mem}, (z_ki M a = 13) → P_X12_losesByOrder_2 a Post n x1 x2 M → z_V G Y_X12_losesByOrder z_X0 M0 (z_QM G M0 (z_PV Post)) M 2 [(0, z_O (some a)), (1, z_I x1), (2, z_I x2)] [] := by
  intro n
  induction n with
  | zero => intro x1 x2 M ha hP; exact False.elim hP
  | succ n ih =>
    intro x1 x2 M ha hP
    unfold P_X12_losesByOrder_2 at hP
    refine z_iload_n dX12_losesByOrder_2 rfl 2 rfl ?_
    refine z_aload_n dX12_losesByOrder_3 rfl 0 rfl ?_
    refine z_geti (c := 12) (k := 70) (g := 1606) z_cb12 (Nat.le_of_ble_eq_true rfl) (Nat.le_of_ble_eq_true rfl) rfl (Nat.le_of_ble_eq_true rfl) zw_1325 rfl ha dX12_losesByOrder_4 ?_
    refine z_icmp_ge (tgt := 57) dX12_losesByOrder_7 (by decide) (fun h3 => ?_) (fun h3 => ?_)
    · replace hP := hP.1 h3
      exact z_retv rfl dX12_losesByOrder_57 hP
    · replace hP := hP.2 h3
      refine z_aload_n dX12_losesByOrder_10 rfl 0 rfl ?_
      refine z_getr (c := 12) (k := 57) (g := 1593) (t := 20) z_cb12 (Nat.le_of_ble_eq_true rfl) (Nat.le_of_ble_eq_true rfl) rfl rfl zw_1312 rfl ha dX12_losesByOrder_11 (fun f4 => ?_)
      refine z_iload_n dX12_losesByOrder_14 rfl 2 rfl ?_
      refine z_pc (pc' := 15) rfl ?_
      obtain ⟨a5, e5, hP⟩ := hP
      have k5 := f4 a5 e5
      obtain ⟨i6, hP⟩ := hP
      refine z_iald e5 k5 i6 dX12_losesByOrder_15 ?_
      refine z_iload_n dX12_losesByOrder_16 rfl 1 rfl ?_
      refine z_icmp_ne (tgt := 51) dX12_losesByOrder_17 (by decide) (fun h7 => ?_) (fun h7 => ?_)
      · replace hP := hP.2 h7
        refine z_sub (lv' := [(0, z_O _), (1, z_I _), (2, z_I _)]) [0, 1, 2] rfl ?_
        exact v_X12_losesByOrder_51 (fun _ _ _ w0 hP => ih w0 hP) ha hP
      · replace hP := hP.1 h7
        refine z_aload_n dX12_losesByOrder_20 rfl 0 rfl ?_
        refine z_getr (c := 12) (k := 62) (g := 1598) (t := 20) z_cb12 (Nat.le_of_ble_eq_true rfl) (Nat.le_of_ble_eq_true rfl) rfl rfl zw_1317 rfl ha dX12_losesByOrder_21 (fun f8 => ?_)
        refine z_iload_n dX12_losesByOrder_24 rfl 2 rfl ?_
        obtain ⟨a9, e9, hP⟩ := hP
        have k9 := f8 a9 e9
        obtain ⟨i10, hP⟩ := hP
        refine z_iald e9 k9 i10 dX12_losesByOrder_25 ?_
        refine z_pc (pc' := 26) rfl ?_
        refine z_if_ne (tgt := 51) dX12_losesByOrder_26 (by decide) (fun h11 => ?_) (fun h11 => ?_)
        · replace hP := hP.2 h11
          refine z_sub (lv' := [(0, z_O _), (1, z_I _), (2, z_I _)]) [0, 1, 2] rfl ?_
          exact v_X12_losesByOrder_51 (fun _ _ _ w0 hP => ih w0 hP) ha hP
        · replace hP := hP.1 h11
          refine z_aload_n dX12_losesByOrder_29 rfl 0 rfl ?_
          refine z_getr (c := 12) (k := 81) (g := 1617) (t := 20) z_cb12 (Nat.le_of_ble_eq_true rfl) (Nat.le_of_ble_eq_true rfl) rfl rfl zw_1336 rfl ha dX12_losesByOrder_30 (fun f12 => ?_)
          refine z_iload_n dX12_losesByOrder_33 rfl 1 rfl ?_
          obtain ⟨a13, e13, hP⟩ := hP
          have k13 := f12 a13 e13
          obtain ⟨i14, hP⟩ := hP
          refine z_iald e13 k13 i14 dX12_losesByOrder_34 ?_
          refine z_aload_n dX12_losesByOrder_35 rfl 0 rfl ?_
          refine z_getr (c := 12) (k := 68) (g := 1604) (t := 20) z_cb12 (Nat.le_of_ble_eq_true rfl) (Nat.le_of_ble_eq_true rfl) rfl rfl zw_1323 rfl ha dX12_losesByOrder_36 (fun f15 => ?_)
          refine z_pc (pc' := 39) rfl ?_
          refine z_iload_n dX12_losesByOrder_39 rfl 2 rfl ?_
          obtain ⟨a16, e16, hP⟩ := hP
          have k16 := f15 a16 e16
          obtain ⟨i17, hP⟩ := hP
          refine z_iald e16 k16 i17 dX12_losesByOrder_40 ?_
          refine z_iconst (v := 3) dX12_losesByOrder_41 (by decide) ?_
          refine z_iadd dX12_losesByOrder_42 ?_
          refine z_icmp_lt (tgt := 51) dX12_losesByOrder_43 (by decide) (fun h18 => ?_) (fun h18 => ?_)
          · replace hP := hP.1 h18
            refine z_sub (lv' := [(0, z_O _), (1, z_I _), (2, z_I _)]) [0, 1, 2] rfl ?_
            exact v_X12_losesByOrder_51 (fun _ _ _ w0 hP => ih w0 hP) ha hP
          · replace hP := hP.2 h18
            refine z_aload_n dX12_losesByOrder_46 rfl 0 rfl ?_
            refine z_iload_n dX12_losesByOrder_47 rfl 2 rfl ?_
            refine z_pc (pc' := 48) rfl ?_
            refine z_wts (fun hT19 _ => ?_)
            refine z_cVv (c := 12) (n := 1) (Y1 := Y_X12_loses) (st := []) rfl ha z_cb12 (Nat.le_of_ble_eq_true rfl) rfl (s_X12_loses ha hP) rfl ⟨z_dc_X12_loses, ⟨(Nat.le_of_ble_eq_true rfl), (Nat.le_of_ble_eq_true rfl)⟩, (Nat.le_of_ble_eq_true rfl)⟩ rfl zw_1710 zw_1712 zp_52 zw_12 zw_1713 dX12_losesByOrder_48 (fun M_19 hP _ x19 => ?_)
            have ha := x19.k (k := 12) hT19 ha
            refine z_sub (lv' := [(0, z_O _), (1, z_I _), (2, z_I _)]) [0, 1, 2] rfl ?_
            exact v_X12_losesByOrder_51 (fun _ _ _ w0 hP => ih w0 hP) ha hP
set_option maxRecDepth 100000 in
set_option maxHeartbeats 4000000 in
theorem s_X12_losesByOrder {G : z_G} {M : z_Mem} {a : Nat} {p1 : Int32} {Post : z_Mem → Prop} (ha : z_ki M a = 13) (hP : P_X12_losesByOrder a p1 M Post) : z_Mt G Y_X12_losesByOrder M [z_O (some a), z_I p1] (z_PV Post) := by
  refine z_ofV (by decide) (Nat.le_of_ble_eq_true rfl) ?_
  unfold P_X12_losesByOrder at hP
  refine z_sub (lv' := [(0, z_O (some a)), (1, z_I p1)]) [0, 1] rfl ?_
  refine z_iconst (v := 0) dX12_losesByOrder_0 (by decide) ?_
  refine z_istore_n (lv' := [(2, z_I _), (0, z_O _), (1, z_I _)]) dX12_losesByOrder_1 rfl (Nat.le_of_ble_eq_true rfl) rfl ?_
  obtain ⟨n20, hP⟩ := hP
  refine z_sub (lv' := [(0, z_O _), (1, z_I _), (2, z_I _)]) [1, 2, 0] rfl ?_
  exact v_X12_losesByOrder_2  n20 ha hP
def P_X12_losesByTime_93 (a : Nat) (Post : z_Mem → Prop) (J2 : Int32 → Int32 → z_Mem → Prop) (x1 : Int32) (x2 : Int32) (M : z_Mem) : Prop := ∀ x_1 : Int32, x_1 = x2 + 1 → (J2 x1 x_1 M)
set_option maxRecDepth 100000 in
def P_X12_losesByTime_2 (a : Nat) (Post : z_Mem → Prop)  : Nat → Int32 → Int32 → z_Mem → Prop
  | 0, _, _, _ => False
  | n + 1, x1, x2, M => (((z_fi M 1606 a) ≤ x2 → Post M) ∧ (¬ (z_fi M 1606 a) ≤ x2 → z_nn (z_fr M 1610 a) fun a5 => (vp_in x1 (z_ln M a5) ∧ (z_nn (z_fr M 1613 a) fun a8 => (vp_in x1 (z_ln M a8) ∧ (P_X12_max ((z_ai M a5 ((x1 : Int32).toNatClampNeg)) / 8) (z_ai M a8 ((x1 : Int32).toNatClampNeg)) M fun x_10 M_10 => (P_X12_max 1 ((9 * x_10) / 8) M_10 fun x_11 M_11 => (z_nn (z_fr M_11 1593 a) fun a13 => (vp_in x2 (z_ln M_11 a13) ∧ ((((z_ai M_11 a13 ((x2 : Int32).toNatClampNeg)) = x1 → z_nn (z_fr M_11 1598 a) fun a17 => (vp_in x2 (z_ln M_11 a17) ∧ ((((z_ai M_11 a17 ((x2 : Int32).toNatClampNeg)) = 0 → z_nn (z_fr M_11 1617 a) fun a21 => (vp_in x1 (z_ln M_11 a21) ∧ (z_nn (z_fr M_11 1604 a) fun a24 => (vp_in x2 (z_ln M_11 a24) ∧ ((((z_ai M_11 a21 ((x1 : Int32).toNatClampNeg)) ≤ (z_ai M_11 a24 ((x2 : Int32).toNatClampNeg)) → P_X12_losesByTime_93 a Post (fun q0 q1 qM => P_X12_losesByTime_2 a Post n q0 q1 qM) x1 x2 M_11) ∧ (¬ (z_ai M_11 a21 ((x1 : Int32).toNatClampNeg)) ≤ (z_ai M_11 a24 ((x2 : Int32).toNatClampNeg)) → z_nn (z_fr M_11 1594 a) fun a29 => (vp_in x2 (z_ln M_11 a29) ∧ (((((z_fi M_11 1536 a) - (z_ai M_11 a29 ((x2 : Int32).toNatClampNeg))) < x_11 → P_X12_losesByTime_93 a Post (fun q0 q1 qM => P_X12_losesByTime_2 a Post n q0 q1 qM) x1 x2 M_11) ∧ (¬ ((z_fi M_11 1536 a) - (z_ai M_11 a29 ((x2 : Int32).toNatClampNeg))) < x_11 → P_X12_loses a x2 M_11 fun M_32 => (P_X12_losesByTime_93 a Post (fun q0 q1 qM => P_X12_losesByTime_2 a Post n q0 q1 qM) x1 x2 M_32)))))))))))) ∧ (¬ (z_ai M_11 a17 ((x2 : Int32).toNatClampNeg)) = 0 → P_X12_losesByTime_93 a Post (fun q0 q1 qM => P_X12_losesByTime_2 a Post n q0 q1 qM) x1 x2 M_11))))) ∧ (¬ (z_ai M_11 a13 ((x2 : Int32).toNatClampNeg)) = x1 → P_X12_losesByTime_93 a Post (fun q0 q1 qM => P_X12_losesByTime_2 a Post n q0 q1 qM) x1 x2 M_11))))))))))))
set_option maxRecDepth 100000 in
def P_X12_losesByTime (a : Nat) (p1 : Int32) (M : z_Mem) (Post : z_Mem → Prop) : Prop := (∃ n33 : Nat, P_X12_losesByTime_2 a Post n33 p1 0 M)
set_option maxRecDepth 100000 in
set_option maxHeartbeats 4000000 in
theorem v_X12_losesByTime_93 {G : z_G} {M0 : z_Mem} {a : Nat} {Post : z_Mem → Prop} {J2 : Int32 → Int32 → z_Mem → Prop} (hJ2 : ∀ (x1 : Int32) (x2 : Int32) (M : z_Mem), (z_ki M a = 13) → J2 x1 x2 M → z_V G Y_X12_losesByTime z_X0 M0 (z_QM G M0 (z_PV Post)) M 2 [(0, z_O (some a)), (1, z_I x1), (2, z_I x2)] []) {x1 : Int32} {x2 : Int32} {M : z_Mem} (ha : z_ki M a = 13) (hP : P_X12_losesByTime_93 a Post J2 x1 x2 M) : z_V G Y_X12_losesByTime z_X0 M0 (z_QM G M0 (z_PV Post)) M 93 [(0, z_O (some a)), (1, z_I x1), (2, z_I x2)] [] := by
  unfold P_X12_losesByTime_93 at hP
  refine z_iincN (j := 2) (m := 1) (lv' := fun v => [(2, z_I v), (0, z_O _), (1, z_I _)]) dX12_losesByTime_93 rfl (by decide) (Nat.le_of_ble_eq_true rfl) (fun _ => rfl) (fun x_1 y_1 => ?_)
  replace hP := hP x_1 y_1
  refine z_goto (tgt := 2) dX12_losesByTime_96 (by decide) ?_
  refine z_sub (lv' := [(0, z_O _), (1, z_I _), (2, z_I _)]) [1, 2, 0] rfl ?_
  exact hJ2 _ _ _ ha hP
set_option maxRecDepth 100000 in
set_option maxHeartbeats 4000000 in
theorem v_X12_losesByTime_2 {G : z_G} {M0 : z_Mem} {a : Nat} {Post : z_Mem → Prop}   : ∀ (n : Nat) {x1 : Int32} {x2 : Int32} {M : z_Mem}, (z_ki M a = 13) → P_X12_losesByTime_2 a Post n x1 x2 M → z_V G Y_X12_losesByTime z_X0 M0 (z_QM G M0 (z_PV Post)) M 2 [(0, z_O (some a)), (1, z_I x1), (2, z_I x2)] [] := by
  intro n
  induction n with
  | zero => intro x1 x2 M ha hP; exact False.elim hP
  | succ n ih =>
    intro x1 x2 M ha hP
    unfold P_X12_losesByTime_2 at hP
    refine z_iload_n dX12_losesByTime_2 rfl 2 rfl ?_
    refine z_aload_n dX12_losesByTime_3 rfl 0 rfl ?_
    refine z_geti (c := 12) (k := 70) (g := 1606) z_cb12 (Nat.le_of_ble_eq_true rfl) (Nat.le_of_ble_eq_true rfl) rfl (Nat.le_of_ble_eq_true rfl) zw_1325 rfl ha dX12_losesByTime_4 ?_
    refine z_icmp_ge (tgt := 99) dX12_losesByTime_7 (by decide) (fun h3 => ?_) (fun h3 => ?_)
    · replace hP := hP.1 h3
      exact z_retv rfl dX12_losesByTime_99 hP
    · replace hP := hP.2 h3
      refine z_iconst (v := 1) dX12_losesByTime_10 (by decide) ?_
      refine z_bipush (v := 9) dX12_losesByTime_11 (by decide) ?_
      refine z_aload_n dX12_losesByTime_13 rfl 0 rfl ?_
      refine z_pc (pc' := 14) rfl ?_
      refine z_getr (c := 12) (k := 74) (g := 1610) (t := 20) z_cb12 (Nat.le_of_ble_eq_true rfl) (Nat.le_of_ble_eq_true rfl) rfl rfl zw_1329 rfl ha dX12_losesByTime_14 (fun f4 => ?_)
      refine z_iload_n dX12_losesByTime_17 rfl 1 rfl ?_
      obtain ⟨a5, e5, hP⟩ := hP
      have k5 := f4 a5 e5
      obtain ⟨i6, hP⟩ := hP
      refine z_iald e5 k5 i6 dX12_losesByTime_18 ?_
      refine z_bipush (v := 8) dX12_losesByTime_19 (by decide) ?_
      refine z_idiv dX12_losesByTime_21 (by decide) ?_
      refine z_aload_n dX12_losesByTime_22 rfl 0 rfl ?_
      refine z_pc (pc' := 23) rfl ?_
      refine z_getr (c := 12) (k := 77) (g := 1613) (t := 20) z_cb12 (Nat.le_of_ble_eq_true rfl) (Nat.le_of_ble_eq_true rfl) rfl rfl zw_1332 rfl ha dX12_losesByTime_23 (fun f7 => ?_)
      refine z_iload_n dX12_losesByTime_26 rfl 1 rfl ?_
      obtain ⟨a8, e8, hP⟩ := hP
      have k8 := f7 a8 e8
      obtain ⟨i9, hP⟩ := hP
      refine z_iald e8 k8 i9 dX12_losesByTime_27 ?_
      refine z_wts (fun hT10 _ => ?_)
      refine z_cSi (n := 2) (Y1 := Y_X12_max) (st := [z_I _, z_I _]) rfl (s_X12_max  hP) rfl ⟨z_dc_X12_max, ⟨(Nat.le_of_ble_eq_true rfl), (Nat.le_of_ble_eq_true rfl)⟩, (Nat.le_of_ble_eq_true rfl)⟩ rfl zw_1662 zw_1663 zw_12 zw_1664 dX12_losesByTime_28 (fun x_10 M_10 hP _ x10 => ?_)
      have ha := x10.k (k := 12) hT10 ha
      refine z_imul dX12_losesByTime_31 ?_
      refine z_bipush (v := 8) dX12_losesByTime_32 (by decide) ?_
      refine z_pc (pc' := 34) rfl ?_
      refine z_idiv dX12_losesByTime_34 (by decide) ?_
      refine z_wts (fun hT11 _ => ?_)
      refine z_cSi (n := 2) (Y1 := Y_X12_max) (st := []) rfl (s_X12_max  hP) rfl ⟨z_dc_X12_max, ⟨(Nat.le_of_ble_eq_true rfl), (Nat.le_of_ble_eq_true rfl)⟩, (Nat.le_of_ble_eq_true rfl)⟩ rfl zw_1662 zw_1663 zw_12 zw_1664 dX12_losesByTime_35 (fun x_11 M_11 hP _ x11 => ?_)
      have ha := x11.k (k := 12) hT11 ha
      refine z_istore_n (lv' := [(3, z_I _), (0, z_O _), (1, z_I _), (2, z_I _)]) dX12_losesByTime_38 rfl (Nat.le_of_ble_eq_true rfl) rfl ?_
      refine z_aload_n dX12_losesByTime_39 rfl 1 rfl ?_
      refine z_getr (c := 12) (k := 57) (g := 1593) (t := 20) z_cb12 (Nat.le_of_ble_eq_true rfl) (Nat.le_of_ble_eq_true rfl) rfl rfl zw_1312 rfl ha dX12_losesByTime_40 (fun f12 => ?_)
      refine z_iload_n dX12_losesByTime_43 rfl 3 rfl ?_
      refine z_pc (pc' := 44) rfl ?_
      obtain ⟨a13, e13, hP⟩ := hP
      have k13 := f12 a13 e13
      obtain ⟨i14, hP⟩ := hP
      refine z_iald e13 k13 i14 dX12_losesByTime_44 ?_
      refine z_iload_n dX12_losesByTime_45 rfl 2 rfl ?_
      refine z_icmp_ne (tgt := 93) dX12_losesByTime_46 (by decide) (fun h15 => ?_) (fun h15 => ?_)
      · replace hP := hP.2 h15
        refine z_sub (lv' := [(0, z_O _), (1, z_I _), (2, z_I _)]) [1, 2, 3] rfl ?_
        exact v_X12_losesByTime_93 (fun _ _ _ w0 hP => ih w0 hP) ha hP
      · replace hP := hP.1 h15
        refine z_aload_n dX12_losesByTime_49 rfl 1 rfl ?_
        refine z_getr (c := 12) (k := 62) (g := 1598) (t := 20) z_cb12 (Nat.le_of_ble_eq_true rfl) (Nat.le_of_ble_eq_true rfl) rfl rfl zw_1317 rfl ha dX12_losesByTime_50 (fun f16 => ?_)
        refine z_iload_n dX12_losesByTime_53 rfl 3 rfl ?_
        obtain ⟨a17, e17, hP⟩ := hP
        have k17 := f16 a17 e17
        obtain ⟨i18, hP⟩ := hP
        refine z_iald e17 k17 i18 dX12_losesByTime_54 ?_
        refine z_pc (pc' := 55) rfl ?_
        refine z_if_ne (tgt := 93) dX12_losesByTime_55 (by decide) (fun h19 => ?_) (fun h19 => ?_)
        · replace hP := hP.2 h19
          refine z_sub (lv' := [(0, z_O _), (1, z_I _), (2, z_I _)]) [1, 2, 3] rfl ?_
          exact v_X12_losesByTime_93 (fun _ _ _ w0 hP => ih w0 hP) ha hP
        · replace hP := hP.1 h19
          refine z_aload_n dX12_losesByTime_58 rfl 1 rfl ?_
          refine z_getr (c := 12) (k := 81) (g := 1617) (t := 20) z_cb12 (Nat.le_of_ble_eq_true rfl) (Nat.le_of_ble_eq_true rfl) rfl rfl zw_1336 rfl ha dX12_losesByTime_59 (fun f20 => ?_)
          refine z_iload_n dX12_losesByTime_62 rfl 2 rfl ?_
          obtain ⟨a21, e21, hP⟩ := hP
          have k21 := f20 a21 e21
          obtain ⟨i22, hP⟩ := hP
          refine z_iald e21 k21 i22 dX12_losesByTime_63 ?_
          refine z_aload_n dX12_losesByTime_64 rfl 1 rfl ?_
          refine z_getr (c := 12) (k := 68) (g := 1604) (t := 20) z_cb12 (Nat.le_of_ble_eq_true rfl) (Nat.le_of_ble_eq_true rfl) rfl rfl zw_1323 rfl ha dX12_losesByTime_65 (fun f23 => ?_)
          refine z_pc (pc' := 68) rfl ?_
          refine z_iload_n dX12_losesByTime_68 rfl 3 rfl ?_
          obtain ⟨a24, e24, hP⟩ := hP
          have k24 := f23 a24 e24
          obtain ⟨i25, hP⟩ := hP
          refine z_iald e24 k24 i25 dX12_losesByTime_69 ?_
          refine z_icmp_le (tgt := 93) dX12_losesByTime_70 (by decide) (fun h26 => ?_) (fun h26 => ?_)
          · replace hP := hP.1 h26
            refine z_sub (lv' := [(0, z_O _), (1, z_I _), (2, z_I _)]) [1, 2, 3] rfl ?_
            exact v_X12_losesByTime_93 (fun _ _ _ w0 hP => ih w0 hP) ha hP
          · replace hP := hP.2 h26
            refine z_aload_n dX12_losesByTime_73 rfl 1 rfl ?_
            refine z_geti (c := 12) (k := 0) (g := 1536) z_cb12 (Nat.le_of_ble_eq_true rfl) (Nat.le_of_ble_eq_true rfl) rfl (Nat.le_of_ble_eq_true rfl) zw_1255 rfl ha dX12_losesByTime_74 ?_
            refine z_aload_n dX12_losesByTime_77 rfl 1 rfl ?_
            refine z_getr (c := 12) (k := 58) (g := 1594) (t := 20) z_cb12 (Nat.le_of_ble_eq_true rfl) (Nat.le_of_ble_eq_true rfl) rfl rfl zw_1313 rfl ha dX12_losesByTime_78 (fun f28 => ?_)
            refine z_pc (pc' := 81) rfl ?_
            refine z_iload_n dX12_losesByTime_81 rfl 3 rfl ?_
            obtain ⟨a29, e29, hP⟩ := hP
            have k29 := f28 a29 e29
            obtain ⟨i30, hP⟩ := hP
            refine z_iald e29 k29 i30 dX12_losesByTime_82 ?_
            refine z_isub dX12_losesByTime_83 ?_
            refine z_iload_n dX12_losesByTime_84 rfl 0 rfl ?_
            refine z_icmp_lt (tgt := 93) dX12_losesByTime_85 (by decide) (fun h31 => ?_) (fun h31 => ?_)
            · replace hP := hP.1 h31
              refine z_sub (lv' := [(0, z_O _), (1, z_I _), (2, z_I _)]) [1, 2, 3] rfl ?_
              exact v_X12_losesByTime_93 (fun _ _ _ w0 hP => ih w0 hP) ha hP
            · replace hP := hP.2 h31
              refine z_aload_n dX12_losesByTime_88 rfl 1 rfl ?_
              refine z_iload_n dX12_losesByTime_89 rfl 3 rfl ?_
              refine z_pc (pc' := 90) rfl ?_
              refine z_wts (fun hT32 _ => ?_)
              refine z_cVv (c := 12) (n := 1) (Y1 := Y_X12_loses) (st := []) rfl ha z_cb12 (Nat.le_of_ble_eq_true rfl) rfl (s_X12_loses ha hP) rfl ⟨z_dc_X12_loses, ⟨(Nat.le_of_ble_eq_true rfl), (Nat.le_of_ble_eq_true rfl)⟩, (Nat.le_of_ble_eq_true rfl)⟩ rfl zw_1710 zw_1712 zp_52 zw_12 zw_1713 dX12_losesByTime_90 (fun M_32 hP _ x32 => ?_)
              have ha := x32.k (k := 12) hT32 ha
              refine z_sub (lv' := [(0, z_O _), (1, z_I _), (2, z_I _)]) [1, 2, 3] rfl ?_
              exact v_X12_losesByTime_93 (fun _ _ _ w0 hP => ih w0 hP) ha hP
set_option maxRecDepth 100000 in
set_option maxHeartbeats 4000000 in
theorem s_X12_losesByTime {G : z_G} {M : z_Mem} {a : Nat} {p1 : Int32} {Post : z_Mem → Prop} (ha : z_ki M a = 13) (hP : P_X12_losesByTime a p1 M Post) : z_Mt G Y_X12_losesByTime M [z_O (some a), z_I p1] (z_PV Post) := by
  refine z_ofV (by decide) (Nat.le_of_ble_eq_true rfl) ?_
  unfold P_X12_losesByTime at hP
  refine z_sub (lv' := [(0, z_O (some a)), (1, z_I p1)]) [0, 1] rfl ?_
  refine z_iconst (v := 0) dX12_losesByTime_0 (by decide) ?_
  refine z_istore_n (lv' := [(2, z_I _), (0, z_O _), (1, z_I _)]) dX12_losesByTime_1 rfl (Nat.le_of_ble_eq_true rfl) rfl ?_
  obtain ⟨n33, hP⟩ := hP
  refine z_sub (lv' := [(0, z_O _), (1, z_I _), (2, z_I _)]) [1, 2, 0] rfl ?_
  exact v_X12_losesByTime_2  n33 ha hP
set_option maxRecDepth 100000 in
def P_X12_hearsOf_50 (a : Nat) (Post : z_Mem → Prop)  : Nat → Int32 → Int32 → Int32 → z_Mem → Prop
  | 0, _, _, _, _ => False
  | n + 1, x1, x2, x3, M => z_nn (z_fr M 1597 a) fun a2 => (vp_in x1 (z_ln M a2) ∧ ((((z_ai M a2 ((x1 : Int32).toNatClampNeg)) ≤ x3 → z_nn (z_fr M 1598 a) fun a6 => (vp_in x1 (z_ln M a6) ∧ ((((z_ai M a6 ((x1 : Int32).toNatClampNeg)) = 0 → P_X12_lands a x1 1 M fun M_48 => (P_X12_grows a x1 M_48 fun M_49 => (Post M_49))) ∧ (¬ (z_ai M a6 ((x1 : Int32).toNatClampNeg)) = 0 → z_nn (z_fr M 1598 a) fun a10 => (vp_in x1 (z_ln M a10) ∧ (∀ M_12 : z_Mem, M_12 = z_sai M a10 ((x1 : Int32).toNatClampNeg) 3 → (z_nn (z_fr M_12 1629 a) fun a14 => (vp_in 1 (z_ln M_12 a14) ∧ (vp_in 1 (z_ln M_12 a14) ∧ (∀ M_17 : z_Mem, M_17 = z_sai M_12 a14 ((1 : Int32).toNatClampNeg) ((z_ai M_12 a14 ((1 : Int32).toNatClampNeg)) + 1) → (z_nn (z_fr M_17 1625 a) fun a19 => (vp_in x2 (z_ln M_17 a19) ∧ ((((z_ai M_17 a19 ((x2 : Int32).toNatClampNeg)) = x1 → z_nn (z_fr M_17 1625 a) fun a23 => (vp_in x2 (z_ln M_17 a23) ∧ (∀ M_25 : z_Mem, M_25 = z_sai M_17 a23 ((x2 : Int32).toNatClampNeg) (-1) → (z_nn (z_fr M_25 1607 a) fun a28 => (vp_in x2 (z_ln M_25 a28) ∧ (z_nn (z_fr M_25 1626 a) fun a31 => (vp_in x2 (z_ln M_25 a31) ∧ (P_X12_max (z_ai M_25 a28 ((x2 : Int32).toNatClampNeg)) (z_ai M_25 a31 ((x2 : Int32).toNatClampNeg)) M_25 fun x_33 M_33 => (z_nn (z_fr M_25 1607 a) fun a34 => (vp_in x2 (z_ln M_33 a34) ∧ (∀ M_36 : z_Mem, M_36 = z_sai M_33 a34 ((x2 : Int32).toNatClampNeg) x_33 → (z_nn (z_fr M_36 1608 a) fun a39 => (vp_in x2 (z_ln M_36 a39) ∧ (z_nn (z_fr M_36 1627 a) fun a42 => (vp_in x2 (z_ln M_36 a42) ∧ (P_X12_max (z_ai M_36 a39 ((x2 : Int32).toNatClampNeg)) (z_ai M_36 a42 ((x2 : Int32).toNatClampNeg)) M_36 fun x_44 M_44 => (z_nn (z_fr M_36 1608 a) fun a45 => (vp_in x2 (z_ln M_44 a45) ∧ (∀ M_47 : z_Mem, M_47 = z_sai M_44 a45 ((x2 : Int32).toNatClampNeg) x_44 → (Post M_47)))))))))))))))))))) ∧ (¬ (z_ai M_17 a19 ((x2 : Int32).toNatClampNeg)) = x1 → Post M_17)))))))))))))))) ∧ (¬ (z_ai M a2 ((x1 : Int32).toNatClampNeg)) ≤ x3 → z_nn (z_fr M 1595 a) fun a52 => (vp_in x1 (z_ln M a52) ∧ (z_nn (z_fr M 1596 a) fun a55 => (vp_in x1 (z_ln M a55) ∧ (z_nn (z_fr M 1591 a) fun a57 => (vp_in (((200 * (z_ai M a52 ((x1 : Int32).toNatClampNeg))) + (z_ai M a55 ((x1 : Int32).toNatClampNeg))) + x3) (z_ln M a57) ∧ (∀ M_59 : z_Mem, M_59 = z_sai M a57 (((((200 * (z_ai M a52 ((x1 : Int32).toNatClampNeg))) + (z_ai M a55 ((x1 : Int32).toNatClampNeg))) + x3) : Int32).toNatClampNeg) 1 → (∀ x_60 : Int32, x_60 = x3 + 1 → (P_X12_hearsOf_50 a Post n x1 x2 x_60 M_59))))))))))))
def P_X12_hearsOf_27 (a : Nat) (Post : z_Mem → Prop)  (x1 : Int32) (x2 : Int32) (M : z_Mem) : Prop := z_nn (z_fr M 1617 a) fun a63 => (vp_in x2 (z_ln M a63) ∧ (z_nn (z_fr M 1604 a) fun a66 => (vp_in x1 (z_ln M a66) ∧ (P_X12_max (z_ai M a63 ((x2 : Int32).toNatClampNeg)) (z_ai M a66 ((x1 : Int32).toNatClampNeg)) M fun x_68 M_68 => (z_nn (z_fr M 1617 a) fun a69 => (vp_in x2 (z_ln M_68 a69) ∧ (∀ M_71 : z_Mem, M_71 = z_sai M_68 a69 ((x2 : Int32).toNatClampNeg) x_68 → ((∃ n72 : Nat, P_X12_hearsOf_50 a Post n72 x1 x2 0 M_71)))))))))
set_option maxRecDepth 100000 in
def P_X12_hearsOf (a : Nat) (p1 : Int32) (M : z_Mem) (Post : z_Mem → Prop) : Prop := z_nn (z_fr M 1593 a) fun a74 => (vp_in p1 (z_ln M a74) ∧ (∀ x_76 : Int32, x_76 = (z_ai M a74 ((p1 : Int32).toNatClampNeg)) → (z_nn (z_fr M 1598 a) fun a78 => (vp_in p1 (z_ln M a78) ∧ ((((z_ai M a78 ((p1 : Int32).toNatClampNeg)) = 0 → P_X12_hearsOf_27 a Post p1 x_76 M) ∧ (¬ (z_ai M a78 ((p1 : Int32).toNatClampNeg)) = 0 → z_nn (z_fr M 1598 a) fun a82 => (vp_in p1 (z_ln M a82) ∧ ((((z_ai M a82 ((p1 : Int32).toNatClampNeg)) = 2 → P_X12_hearsOf_27 a Post p1 x_76 M) ∧ (¬ (z_ai M a82 ((p1 : Int32).toNatClampNeg)) = 2 → Post M)))))))))))
set_option maxRecDepth 100000 in
set_option maxHeartbeats 4000000 in
theorem v_X12_hearsOf_50 {G : z_G} {M0 : z_Mem} {a : Nat} {Post : z_Mem → Prop}   : ∀ (n : Nat) {x1 : Int32} {x2 : Int32} {x3 : Int32} {M : z_Mem}, (z_ki M a = 13) → P_X12_hearsOf_50 a Post n x1 x2 x3 M → z_V G Y_X12_hearsOf z_X0 M0 (z_QM G M0 (z_PV Post)) M 50 [(0, z_O (some a)), (1, z_I x1), (2, z_I x2), (3, z_I x3)] [] := by
  intro n
  induction n with
  | zero => intro x1 x2 x3 M ha hP; exact False.elim hP
  | succ n ih =>
    intro x1 x2 x3 M ha hP
    unfold P_X12_hearsOf_50 at hP
    refine z_iload_n dX12_hearsOf_50 rfl 3 rfl ?_
    refine z_aload_n dX12_hearsOf_51 rfl 0 rfl ?_
    refine z_getr (c := 12) (k := 61) (g := 1597) (t := 20) z_cb12 (Nat.le_of_ble_eq_true rfl) (Nat.le_of_ble_eq_true rfl) rfl rfl zw_1316 rfl ha dX12_hearsOf_52 (fun f1 => ?_)
    refine z_iload_n dX12_hearsOf_55 rfl 1 rfl ?_
    obtain ⟨a2, e2, hP⟩ := hP
    have k2 := f1 a2 e2
    obtain ⟨i3, hP⟩ := hP
    refine z_iald e2 k2 i3 dX12_hearsOf_56 ?_
    refine z_icmp_ge (tgt := 91) dX12_hearsOf_57 (by decide) (fun h4 => ?_) (fun h4 => ?_)
    · replace hP := hP.1 h4
      refine z_aload_n dX12_hearsOf_91 rfl 0 rfl ?_
      refine z_pc (pc' := 92) rfl ?_
      refine z_getr (c := 12) (k := 62) (g := 1598) (t := 20) z_cb12 (Nat.le_of_ble_eq_true rfl) (Nat.le_of_ble_eq_true rfl) rfl rfl zw_1317 rfl ha dX12_hearsOf_92 (fun f5 => ?_)
      refine z_iload_n dX12_hearsOf_95 rfl 1 rfl ?_
      obtain ⟨a6, e6, hP⟩ := hP
      have k6 := f5 a6 e6
      obtain ⟨i7, hP⟩ := hP
      refine z_iald e6 k6 i7 dX12_hearsOf_96 ?_
      refine z_if_ne (tgt := 112) dX12_hearsOf_97 (by decide) (fun h8 => ?_) (fun h8 => ?_)
      · replace hP := hP.2 h8
        refine z_aload_n dX12_hearsOf_112 rfl 0 rfl ?_
        refine z_getr (c := 12) (k := 62) (g := 1598) (t := 20) z_cb12 (Nat.le_of_ble_eq_true rfl) (Nat.le_of_ble_eq_true rfl) rfl rfl zw_1317 rfl ha dX12_hearsOf_113 (fun f9 => ?_)
        refine z_iload_n dX12_hearsOf_116 rfl 1 rfl ?_
        refine z_pc (pc' := 117) rfl ?_
        refine z_iconst (v := 3) dX12_hearsOf_117 (by decide) ?_
        obtain ⟨a10, e10, hP⟩ := hP
        have k10 := f9 a10 e10
        obtain ⟨i11, hP⟩ := hP
        refine z_iast e10 k10 i11 dX12_hearsOf_118 ?_
        refine z_nm (fun M_12 g_12 => ?_)
        replace hP := hP M_12 g_12
        have q_12 := z_k3 g_12
        have ha := z_kk q_12 ha
        refine z_aload_n dX12_hearsOf_119 rfl 0 rfl ?_
        refine z_getr (c := 12) (k := 93) (g := 1629) (t := 20) z_cb12 (Nat.le_of_ble_eq_true rfl) (Nat.le_of_ble_eq_true rfl) rfl rfl zw_1348 rfl ha dX12_hearsOf_120 (fun f13 => ?_)
        refine z_iconst (v := 1) dX12_hearsOf_123 (by decide) ?_
        refine z_dup2 dX12_hearsOf_124 rfl rfl ?_
        refine z_pc (pc' := 125) rfl ?_
        obtain ⟨a14, e14, hP⟩ := hP
        have k14 := f13 a14 e14
        obtain ⟨i15, hP⟩ := hP
        refine z_iald e14 k14 i15 dX12_hearsOf_125 ?_
        refine z_iconst (v := 1) dX12_hearsOf_126 (by decide) ?_
        refine z_iadd dX12_hearsOf_127 ?_
        obtain ⟨i16, hP⟩ := hP
        refine z_iast e14 k14 i16 dX12_hearsOf_128 ?_
        refine z_nm (fun M_17 g_17 => ?_)
        replace hP := hP M_17 g_17
        have q_17 := z_k3 g_17
        have ha := z_kk q_17 ha
        refine z_aload_n dX12_hearsOf_129 rfl 0 rfl ?_
        refine z_getr (c := 12) (k := 89) (g := 1625) (t := 20) z_cb12 (Nat.le_of_ble_eq_true rfl) (Nat.le_of_ble_eq_true rfl) rfl rfl zw_1344 rfl ha dX12_hearsOf_130 (fun f18 => ?_)
        refine z_pc (pc' := 133) rfl ?_
        refine z_iload_n dX12_hearsOf_133 rfl 2 rfl ?_
        obtain ⟨a19, e19, hP⟩ := hP
        have k19 := f18 a19 e19
        obtain ⟨i20, hP⟩ := hP
        refine z_iald e19 k19 i20 dX12_hearsOf_134 ?_
        refine z_iload_n dX12_hearsOf_135 rfl 1 rfl ?_
        refine z_icmp_ne (tgt := 188) dX12_hearsOf_136 (by decide) (fun h21 => ?_) (fun h21 => ?_)
        · replace hP := hP.2 h21
          exact z_retv rfl dX12_hearsOf_188 hP
        · replace hP := hP.1 h21
          refine z_aload_n dX12_hearsOf_139 rfl 0 rfl ?_
          refine z_getr (c := 12) (k := 89) (g := 1625) (t := 20) z_cb12 (Nat.le_of_ble_eq_true rfl) (Nat.le_of_ble_eq_true rfl) rfl rfl zw_1344 rfl ha dX12_hearsOf_140 (fun f22 => ?_)
          refine z_iload_n dX12_hearsOf_143 rfl 2 rfl ?_
          refine z_pc (pc' := 144) rfl ?_
          refine z_iconst (v := (-1)) dX12_hearsOf_144 (by decide) ?_
          obtain ⟨a23, e23, hP⟩ := hP
          have k23 := f22 a23 e23
          obtain ⟨i24, hP⟩ := hP
          refine z_iast e23 k23 i24 dX12_hearsOf_145 ?_
          refine z_nm (fun M_25 g_25 => ?_)
          replace hP := hP M_25 g_25
          have q_25 := z_k3 g_25
          have ha := z_kk q_25 ha
          refine z_aload_n dX12_hearsOf_146 rfl 0 rfl ?_
          refine z_getr (c := 12) (k := 71) (g := 1607) (t := 20) z_cb12 (Nat.le_of_ble_eq_true rfl) (Nat.le_of_ble_eq_true rfl) rfl rfl zw_1326 rfl ha dX12_hearsOf_147 (fun f26 => ?_)
          refine z_iload_n dX12_hearsOf_150 rfl 2 rfl ?_
          refine z_aload_n dX12_hearsOf_151 rfl 0 rfl ?_
          refine z_pc (pc' := 152) rfl ?_
          refine z_getr (c := 12) (k := 71) (g := 1607) (t := 20) z_cb12 (Nat.le_of_ble_eq_true rfl) (Nat.le_of_ble_eq_true rfl) rfl rfl zw_1326 rfl ha dX12_hearsOf_152 (fun f27 => ?_)
          refine z_iload_n dX12_hearsOf_155 rfl 2 rfl ?_
          obtain ⟨a28, e28, hP⟩ := hP
          have k28 := f27 a28 e28
          obtain ⟨i29, hP⟩ := hP
          refine z_iald e28 k28 i29 dX12_hearsOf_156 ?_
          refine z_aload_n dX12_hearsOf_157 rfl 0 rfl ?_
          refine z_getr (c := 12) (k := 90) (g := 1626) (t := 20) z_cb12 (Nat.le_of_ble_eq_true rfl) (Nat.le_of_ble_eq_true rfl) rfl rfl zw_1345 rfl ha dX12_hearsOf_158 (fun f30 => ?_)
          refine z_iload_n dX12_hearsOf_161 rfl 2 rfl ?_
          refine z_pc (pc' := 162) rfl ?_
          obtain ⟨a31, e31, hP⟩ := hP
          have k31 := f30 a31 e31
          obtain ⟨i32, hP⟩ := hP
          refine z_iald e31 k31 i32 dX12_hearsOf_162 ?_
          refine z_wts (fun hT33 _ => ?_)
          refine z_cSi (n := 2) (Y1 := Y_X12_max) (st := [z_I _, z_O _]) rfl (s_X12_max  hP) rfl ⟨z_dc_X12_max, ⟨(Nat.le_of_ble_eq_true rfl), (Nat.le_of_ble_eq_true rfl)⟩, (Nat.le_of_ble_eq_true rfl)⟩ rfl zw_1662 zw_1663 zw_12 zw_1664 dX12_hearsOf_163 (fun x_33 M_33 hP _ x33 => ?_)
          have ha := x33.k (k := 12) hT33 ha
          have f26 := x33.t (k := 19) hT33 f26
          obtain ⟨a34, e34, hP⟩ := hP
          have k34 := f26 a34 e34
          obtain ⟨i35, hP⟩ := hP
          refine z_iast e34 k34 i35 dX12_hearsOf_166 ?_
          refine z_nm (fun M_36 g_36 => ?_)
          replace hP := hP M_36 g_36
          have q_36 := z_k3 g_36
          have ha := z_kk q_36 ha
          refine z_aload_n dX12_hearsOf_167 rfl 0 rfl ?_
          refine z_getr (c := 12) (k := 72) (g := 1608) (t := 20) z_cb12 (Nat.le_of_ble_eq_true rfl) (Nat.le_of_ble_eq_true rfl) rfl rfl zw_1327 rfl ha dX12_hearsOf_168 (fun f37 => ?_)
          refine z_iload_n dX12_hearsOf_171 rfl 2 rfl ?_
          refine z_pc (pc' := 172) rfl ?_
          refine z_aload_n dX12_hearsOf_172 rfl 0 rfl ?_
          refine z_getr (c := 12) (k := 72) (g := 1608) (t := 20) z_cb12 (Nat.le_of_ble_eq_true rfl) (Nat.le_of_ble_eq_true rfl) rfl rfl zw_1327 rfl ha dX12_hearsOf_173 (fun f38 => ?_)
          refine z_iload_n dX12_hearsOf_176 rfl 2 rfl ?_
          obtain ⟨a39, e39, hP⟩ := hP
          have k39 := f38 a39 e39
          obtain ⟨i40, hP⟩ := hP
          refine z_iald e39 k39 i40 dX12_hearsOf_177 ?_
          refine z_aload_n dX12_hearsOf_178 rfl 0 rfl ?_
          refine z_getr (c := 12) (k := 91) (g := 1627) (t := 20) z_cb12 (Nat.le_of_ble_eq_true rfl) (Nat.le_of_ble_eq_true rfl) rfl rfl zw_1346 rfl ha dX12_hearsOf_179 (fun f41 => ?_)
          refine z_pc (pc' := 182) rfl ?_
          refine z_iload_n dX12_hearsOf_182 rfl 2 rfl ?_
          obtain ⟨a42, e42, hP⟩ := hP
          have k42 := f41 a42 e42
          obtain ⟨i43, hP⟩ := hP
          refine z_iald e42 k42 i43 dX12_hearsOf_183 ?_
          refine z_wts (fun hT44 _ => ?_)
          refine z_cSi (n := 2) (Y1 := Y_X12_max) (st := [z_I _, z_O _]) rfl (s_X12_max  hP) rfl ⟨z_dc_X12_max, ⟨(Nat.le_of_ble_eq_true rfl), (Nat.le_of_ble_eq_true rfl)⟩, (Nat.le_of_ble_eq_true rfl)⟩ rfl zw_1662 zw_1663 zw_12 zw_1664 dX12_hearsOf_184 (fun x_44 M_44 hP _ x44 => ?_)
          have ha := x44.k (k := 12) hT44 ha
          have f37 := x44.t (k := 19) hT44 f37
          obtain ⟨a45, e45, hP⟩ := hP
          have k45 := f37 a45 e45
          obtain ⟨i46, hP⟩ := hP
          refine z_iast e45 k45 i46 dX12_hearsOf_187 ?_
          refine z_nm (fun M_47 g_47 => ?_)
          replace hP := hP M_47 g_47
          have q_47 := z_k3 g_47
          have ha := z_kk q_47 ha
          exact z_retv rfl dX12_hearsOf_188 hP
      · replace hP := hP.1 h8
        refine z_aload_n dX12_hearsOf_100 rfl 0 rfl ?_
        refine z_iload_n dX12_hearsOf_101 rfl 1 rfl ?_
        refine z_iconst (v := 1) dX12_hearsOf_102 (by decide) ?_
        refine z_pc (pc' := 103) rfl ?_
        refine z_wts (fun hT48 _ => ?_)
        refine z_cVv (c := 12) (n := 2) (Y1 := Y_X12_lands) (st := []) rfl ha z_cb12 (Nat.le_of_ble_eq_true rfl) rfl (s_X12_lands ha hP) rfl ⟨z_dc_X12_lands, ⟨(Nat.le_of_ble_eq_true rfl), (Nat.le_of_ble_eq_true rfl)⟩, (Nat.le_of_ble_eq_true rfl)⟩ rfl zw_1677 zw_1679 zp_45 zw_12 zw_1680 dX12_hearsOf_103 (fun M_48 hP _ x48 => ?_)
        have ha := x48.k (k := 12) hT48 ha
        refine z_aload_n dX12_hearsOf_106 rfl 0 rfl ?_
        refine z_iload_n dX12_hearsOf_107 rfl 1 rfl ?_
        refine z_wts (fun hT49 _ => ?_)
        refine z_cVv (c := 12) (n := 1) (Y1 := Y_X12_grows) (st := []) rfl ha z_cb12 (Nat.le_of_ble_eq_true rfl) rfl (s_X12_grows ha hP) rfl ⟨z_dc_X12_grows, ⟨(Nat.le_of_ble_eq_true rfl), (Nat.le_of_ble_eq_true rfl)⟩, (Nat.le_of_ble_eq_true rfl)⟩ rfl zw_1689 zw_1691 zp_48 zw_12 zw_1692 dX12_hearsOf_108 (fun M_49 hP _ x49 => ?_)
        have ha := x49.k (k := 12) hT49 ha
        exact z_retv rfl dX12_hearsOf_111 hP
    · replace hP := hP.2 h4
      refine z_aload_n dX12_hearsOf_60 rfl 0 rfl ?_
      refine z_pc (pc' := 61) rfl ?_
      refine z_getr (c := 12) (k := 55) (g := 1591) (t := 21) z_cb12 (Nat.le_of_ble_eq_true rfl) (Nat.le_of_ble_eq_true rfl) rfl rfl zw_1310 rfl ha dX12_hearsOf_61 (fun f50 => ?_)
      refine z_sipush (v := 200) dX12_hearsOf_64 (by decide) ?_
      refine z_aload_n dX12_hearsOf_67 rfl 0 rfl ?_
      refine z_getr (c := 12) (k := 59) (g := 1595) (t := 20) z_cb12 (Nat.le_of_ble_eq_true rfl) (Nat.le_of_ble_eq_true rfl) rfl rfl zw_1314 rfl ha dX12_hearsOf_68 (fun f51 => ?_)
      refine z_iload_n dX12_hearsOf_71 rfl 1 rfl ?_
      obtain ⟨a52, e52, hP⟩ := hP
      have k52 := f51 a52 e52
      obtain ⟨i53, hP⟩ := hP
      refine z_iald e52 k52 i53 dX12_hearsOf_72 ?_
      refine z_pc (pc' := 73) rfl ?_
      refine z_imul dX12_hearsOf_73 ?_
      refine z_aload_n dX12_hearsOf_74 rfl 0 rfl ?_
      refine z_getr (c := 12) (k := 60) (g := 1596) (t := 20) z_cb12 (Nat.le_of_ble_eq_true rfl) (Nat.le_of_ble_eq_true rfl) rfl rfl zw_1315 rfl ha dX12_hearsOf_75 (fun f54 => ?_)
      refine z_iload_n dX12_hearsOf_78 rfl 1 rfl ?_
      obtain ⟨a55, e55, hP⟩ := hP
      have k55 := f54 a55 e55
      obtain ⟨i56, hP⟩ := hP
      refine z_iald e55 k55 i56 dX12_hearsOf_79 ?_
      refine z_iadd dX12_hearsOf_80 ?_
      refine z_pc (pc' := 81) rfl ?_
      refine z_iload_n dX12_hearsOf_81 rfl 3 rfl ?_
      refine z_iadd dX12_hearsOf_82 ?_
      refine z_iconst (v := 1) dX12_hearsOf_83 (by decide) ?_
      obtain ⟨a57, e57, hP⟩ := hP
      have k57 := f50 a57 e57
      obtain ⟨i58, hP⟩ := hP
      refine z_zast e57 k57 i58 (Or.inr rfl) dX12_hearsOf_84 ?_
      refine z_nm (fun M_59 g_59 => ?_)
      replace hP := hP M_59 g_59
      have q_59 := z_k3 g_59
      have ha := z_kk q_59 ha
      refine z_iincN (j := 3) (m := 1) (lv' := fun v => [(3, z_I v), (0, z_O _), (1, z_I _), (2, z_I _)]) dX12_hearsOf_85 rfl (by decide) (Nat.le_of_ble_eq_true rfl) (fun _ => rfl) (fun x_60 y_60 => ?_)
      replace hP := hP x_60 y_60
      refine z_goto (tgt := 50) dX12_hearsOf_88 (by decide) ?_
      refine z_sub (lv' := [(0, z_O _), (1, z_I _), (2, z_I _), (3, z_I _)]) [1, 2, 3, 0] rfl ?_
      exact ih ha hP
set_option maxRecDepth 100000 in
set_option maxHeartbeats 4000000 in
theorem v_X12_hearsOf_27 {G : z_G} {M0 : z_Mem} {a : Nat} {Post : z_Mem → Prop}   {x1 : Int32} {x2 : Int32} {M : z_Mem} (ha : z_ki M a = 13) (hP : P_X12_hearsOf_27 a Post x1 x2 M) : z_V G Y_X12_hearsOf z_X0 M0 (z_QM G M0 (z_PV Post)) M 27 [(0, z_O (some a)), (1, z_I x1), (2, z_I x2)] [] := by
  unfold P_X12_hearsOf_27 at hP
  refine z_aload_n dX12_hearsOf_27 rfl 0 rfl ?_
  refine z_getr (c := 12) (k := 81) (g := 1617) (t := 20) z_cb12 (Nat.le_of_ble_eq_true rfl) (Nat.le_of_ble_eq_true rfl) rfl rfl zw_1336 rfl ha dX12_hearsOf_28 (fun f61 => ?_)
  refine z_iload_n dX12_hearsOf_31 rfl 2 rfl ?_
  refine z_aload_n dX12_hearsOf_32 rfl 0 rfl ?_
  refine z_getr (c := 12) (k := 81) (g := 1617) (t := 20) z_cb12 (Nat.le_of_ble_eq_true rfl) (Nat.le_of_ble_eq_true rfl) rfl rfl zw_1336 rfl ha dX12_hearsOf_33 (fun f62 => ?_)
  refine z_iload_n dX12_hearsOf_36 rfl 2 rfl ?_
  refine z_pc (pc' := 37) rfl ?_
  obtain ⟨a63, e63, hP⟩ := hP
  have k63 := f62 a63 e63
  obtain ⟨i64, hP⟩ := hP
  refine z_iald e63 k63 i64 dX12_hearsOf_37 ?_
  refine z_aload_n dX12_hearsOf_38 rfl 0 rfl ?_
  refine z_getr (c := 12) (k := 68) (g := 1604) (t := 20) z_cb12 (Nat.le_of_ble_eq_true rfl) (Nat.le_of_ble_eq_true rfl) rfl rfl zw_1323 rfl ha dX12_hearsOf_39 (fun f65 => ?_)
  refine z_iload_n dX12_hearsOf_42 rfl 1 rfl ?_
  obtain ⟨a66, e66, hP⟩ := hP
  have k66 := f65 a66 e66
  obtain ⟨i67, hP⟩ := hP
  refine z_iald e66 k66 i67 dX12_hearsOf_43 ?_
  refine z_wts (fun hT68 _ => ?_)
  refine z_cSi (n := 2) (Y1 := Y_X12_max) (st := [z_I _, z_O _]) rfl (s_X12_max  hP) rfl ⟨z_dc_X12_max, ⟨(Nat.le_of_ble_eq_true rfl), (Nat.le_of_ble_eq_true rfl)⟩, (Nat.le_of_ble_eq_true rfl)⟩ rfl zw_1662 zw_1663 zw_12 zw_1664 dX12_hearsOf_44 (fun x_68 M_68 hP _ x68 => ?_)
  have ha := x68.k (k := 12) hT68 ha
  have f61 := x68.t (k := 19) hT68 f61
  refine z_pc (pc' := 47) rfl ?_
  obtain ⟨a69, e69, hP⟩ := hP
  have k69 := f61 a69 e69
  obtain ⟨i70, hP⟩ := hP
  refine z_iast e69 k69 i70 dX12_hearsOf_47 ?_
  refine z_nm (fun M_71 g_71 => ?_)
  replace hP := hP M_71 g_71
  have q_71 := z_k3 g_71
  have ha := z_kk q_71 ha
  refine z_iconst (v := 0) dX12_hearsOf_48 (by decide) ?_
  refine z_istore_n (lv' := [(3, z_I _), (0, z_O _), (1, z_I _), (2, z_I _)]) dX12_hearsOf_49 rfl (Nat.le_of_ble_eq_true rfl) rfl ?_
  obtain ⟨n72, hP⟩ := hP
  refine z_sub (lv' := [(0, z_O _), (1, z_I _), (2, z_I _), (3, z_I _)]) [1, 2, 3, 0] rfl ?_
  exact v_X12_hearsOf_50  n72 ha hP
set_option maxRecDepth 100000 in
set_option maxHeartbeats 4000000 in
theorem s_X12_hearsOf {G : z_G} {M : z_Mem} {a : Nat} {p1 : Int32} {Post : z_Mem → Prop} (ha : z_ki M a = 13) (hP : P_X12_hearsOf a p1 M Post) : z_Mt G Y_X12_hearsOf M [z_O (some a), z_I p1] (z_PV Post) := by
  refine z_ofV (by decide) (Nat.le_of_ble_eq_true rfl) ?_
  unfold P_X12_hearsOf at hP
  refine z_sub (lv' := [(0, z_O (some a)), (1, z_I p1)]) [0, 1] rfl ?_
  refine z_aload_n dX12_hearsOf_0 rfl 0 rfl ?_
  refine z_getr (c := 12) (k := 57) (g := 1593) (t := 20) z_cb12 (Nat.le_of_ble_eq_true rfl) (Nat.le_of_ble_eq_true rfl) rfl rfl zw_1312 rfl ha dX12_hearsOf_1 (fun f73 => ?_)
  refine z_iload_n dX12_hearsOf_4 rfl 1 rfl ?_
  obtain ⟨a74, e74, hP⟩ := hP
  have k74 := f73 a74 e74
  obtain ⟨i75, hP⟩ := hP
  refine z_iald e74 k74 i75 dX12_hearsOf_5 ?_
  refine z_topi (fun x_76 y_76 => ?_)
  replace hP := hP x_76 y_76
  refine z_istore_n (lv' := [(2, z_I _), (0, z_O _), (1, z_I _)]) dX12_hearsOf_6 rfl (Nat.le_of_ble_eq_true rfl) rfl ?_
  refine z_aload_n dX12_hearsOf_7 rfl 1 rfl ?_
  refine z_pc (pc' := 8) rfl ?_
  refine z_getr (c := 12) (k := 62) (g := 1598) (t := 20) z_cb12 (Nat.le_of_ble_eq_true rfl) (Nat.le_of_ble_eq_true rfl) rfl rfl zw_1317 rfl ha dX12_hearsOf_8 (fun f77 => ?_)
  refine z_iload_n dX12_hearsOf_11 rfl 2 rfl ?_
  obtain ⟨a78, e78, hP⟩ := hP
  have k78 := f77 a78 e78
  obtain ⟨i79, hP⟩ := hP
  refine z_iald e78 k78 i79 dX12_hearsOf_12 ?_
  refine z_if_eq (tgt := 27) dX12_hearsOf_13 (by decide) (fun h80 => ?_) (fun h80 => ?_)
  · replace hP := hP.1 h80
    refine z_sub (lv' := [(0, z_O _), (1, z_I _), (2, z_I _)]) [1, 2, 0] rfl ?_
    exact v_X12_hearsOf_27  ha hP
  · replace hP := hP.2 h80
    refine z_aload_n dX12_hearsOf_16 rfl 1 rfl ?_
    refine z_getr (c := 12) (k := 62) (g := 1598) (t := 20) z_cb12 (Nat.le_of_ble_eq_true rfl) (Nat.le_of_ble_eq_true rfl) rfl rfl zw_1317 rfl ha dX12_hearsOf_17 (fun f81 => ?_)
    refine z_iload_n dX12_hearsOf_20 rfl 2 rfl ?_
    refine z_pc (pc' := 21) rfl ?_
    obtain ⟨a82, e82, hP⟩ := hP
    have k82 := f81 a82 e82
    obtain ⟨i83, hP⟩ := hP
    refine z_iald e82 k82 i83 dX12_hearsOf_21 ?_
    refine z_iconst (v := 2) dX12_hearsOf_22 (by decide) ?_
    refine z_icmp_eq (tgt := 27) dX12_hearsOf_23 (by decide) (fun h84 => ?_) (fun h84 => ?_)
    · replace hP := hP.1 h84
      refine z_sub (lv' := [(0, z_O _), (1, z_I _), (2, z_I _)]) [1, 2, 0] rfl ?_
      exact v_X12_hearsOf_27  ha hP
    · replace hP := hP.2 h84
      exact z_retv rfl dX12_hearsOf_26 hP
set_option maxRecDepth 100000 in
def P_X12_hearsAck_78 (a : Nat) (Post : z_Mem → Prop) (J58 : Int32 → Int32 → Int32 → Int32 → z_Mem → Prop) : Nat → Int32 → Int32 → Int32 → Int32 → Int32 → z_Mem → Prop
  | 0, _, _, _, _, _, _ => False
  | n + 1, x2, x3, x4, x5, x6, M => z_nn (z_fr M 1560 a) fun a2 => (vp_in ((x2 + 2) + (2 * x5)) (z_ln M a2) ∧ ((((z_ai M a2 ((((x2 + 2) + (2 * x5)) : Int32).toNatClampNeg)) < x6 → ∀ x_5 : Int32, x_5 = x5 + (-1) → (J58 x2 x3 x4 x_5 M)) ∧ (¬ (z_ai M a2 ((((x2 + 2) + (2 * x5)) : Int32).toNatClampNeg)) < x6 → P_X12_hearsOf a x6 M fun M_6 => (∀ x_7 : Int32, x_7 = x6 + 1 → (P_X12_hearsAck_78 a Post J58 n x2 x3 x4 x5 x_7 M_6))))))
set_option maxRecDepth 100000 in
def P_X12_hearsAck_271 (a : Nat) (Post : z_Mem → Prop)  : Nat → Int32 → z_Mem → Prop
  | 0, _, _ => False
  | n + 1, x5, M => ((2 ≤ x5 → Post M) ∧ (¬ 2 ≤ x5 → P_X12_losesByOrder a x5 M fun M_9 => (P_X12_losesByTime a x5 M_9 fun M_10 => (∀ x_11 : Int32, x_11 = x5 + 1 → (P_X12_hearsAck_271 a Post n x_11 M_10)))))
set_option maxRecDepth 100000 in
def P_X12_hearsAck_248 (a : Nat) (Post : z_Mem → Prop)  : Nat → Int32 → z_Mem → Prop
  | 0, _, _ => False
  | n + 1, x5, M => ((2 ≤ x5 → (∃ n13 : Nat, P_X12_hearsAck_271 a Post n13 0 M)) ∧ (¬ 2 ≤ x5 → z_nn (z_fr M 1619 a) fun a15 => (vp_in x5 (z_ln M a15) ∧ (∀ M_17 : z_Mem, M_17 = z_sai M a15 ((x5 : Int32).toNatClampNeg) 0 → (∀ x_18 : Int32, x_18 = x5 + 1 → (P_X12_hearsAck_248 a Post n x_18 M_17))))))
set_option maxRecDepth 100000 in
def P_X12_hearsAck_184 (a : Nat) (Post : z_Mem → Prop)  : Nat → Int32 → Int32 → z_Mem → Prop
  | 0, _, _, _ => False
  | n + 1, x2, x5, M => ((4 ≤ x5 → z_nn (z_fr M 1560 a) fun a22 => (vp_in (x2 + 14) (z_ln M a22) ∧ (P_X12_max (z_fi M 1589 a) (z_ai M a22 (((x2 + 14) : Int32).toNatClampNeg)) M fun x_24 M_24 => (∀ M_25 : z_Mem, M_25 = z_sfi M_24 1589 a x_24 → ((∃ n26 : Nat, P_X12_hearsAck_248 a Post n26 0 M_25)))))) ∧ (¬ 4 ≤ x5 → z_nn (z_fr M 1588 a) fun a29 => (vp_in x5 (z_ln M a29) ∧ (z_nn (z_fr M 1560 a) fun a32 => (vp_in ((x2 + 10) + x5) (z_ln M a32) ∧ (P_X12_max (z_ai M a29 ((x5 : Int32).toNatClampNeg)) (z_ai M a32 ((((x2 + 10) + x5) : Int32).toNatClampNeg)) M fun x_34 M_34 => (z_nn (z_fr M 1588 a) fun a35 => (vp_in x5 (z_ln M_34 a35) ∧ (∀ M_37 : z_Mem, M_37 = z_sai M_34 a35 ((x5 : Int32).toNatClampNeg) x_34 → (∀ x_38 : Int32, x_38 = x5 + 1 → (P_X12_hearsAck_184 a Post n x2 x_38 M_37)))))))))))
def P_X12_hearsAck_181 (a : Nat) (Post : z_Mem → Prop)  (x2 : Int32) (M : z_Mem) : Prop := (∃ n39 : Nat, P_X12_hearsAck_184 a Post n39 x2 0 M)
def P_X12_hearsAck_140 (a : Nat) (Post : z_Mem → Prop)  (x2 : Int32) (x3 : Int32) (M : z_Mem) : Prop := z_nn (z_fr M 1560 a) fun a41 => (vp_in (x2 + 9) (z_ln M a41) ∧ ((((z_ai M a41 (((x2 + 9) : Int32).toNatClampNeg)) ≤ (z_fi M 1585 a) → P_X12_hearsAck_181 a Post x2 M) ∧ (¬ (z_ai M a41 (((x2 + 9) : Int32).toNatClampNeg)) ≤ (z_fi M 1585 a) → z_nn (z_fr M 1560 a) fun a46 => (vp_in (x2 + 9) (z_ln M a46) ∧ (∀ M_48 : z_Mem, M_48 = z_sfi M 1585 a (z_ai M a46 (((x2 + 9) : Int32).toNatClampNeg)) → (z_nn (z_fr M_48 1593 a) fun a50 => (vp_in x3 (z_ln M_48 a50) ∧ (P_X12_harms a (z_ai M_48 a50 ((x3 : Int32).toNatClampNeg)) x3 0 M_48 fun M_52 => (P_X12_hearsAck_181 a Post x2 M_52))))))))))
set_option maxRecDepth 100000 in
def P_X12_hearsAck_58 (a : Nat) (Post : z_Mem → Prop)  : Nat → Int32 → Int32 → Int32 → Int32 → z_Mem → Prop
  | 0, _, _, _, _, _ => False
  | n + 1, x2, x3, x4, x5, M => ((x5 < 0 → ((x4 = 0 → P_X12_hearsAck_140 a Post x2 x3 M) ∧ (¬ x4 = 0 → z_nn (z_fr M 1593 a) fun a56 => (vp_in x3 (z_ln M a56) ∧ (z_nn (z_fr M 1594 a) fun a60 => (vp_in x3 (z_ln M a60) ∧ (P_X12_measures a (z_ai M a56 ((x3 : Int32).toNatClampNeg)) ((z_fi M 1536 a) - (z_ai M a60 ((x3 : Int32).toNatClampNeg))) M fun M_62 => (P_X12_hearsAck_140 a Post x2 x3 M_62)))))))) ∧ (¬ x5 < 0 → z_nn (z_fr M 1560 a) fun a64 => (vp_in ((x2 + 1) + (2 * x5)) (z_ln M a64) ∧ (∀ x_66 : Int32, x_66 = (z_ai M a64 ((((x2 + 1) + (2 * x5)) : Int32).toNatClampNeg)) → ((∃ n67 : Nat, P_X12_hearsAck_78 a Post (fun q0 q1 q2 q3 qM => P_X12_hearsAck_58 a Post n q0 q1 q2 q3 qM) n67 x2 x3 x4 x5 x_66 M))))))
def P_X12_hearsAck_46 (a : Nat) (Post : z_Mem → Prop)  (x2 : Int32) (x3 : Int32) (t0 : Int32) (M : z_Mem) : Prop := z_nn (z_fr M 1560 a) fun a69 => (vp_in x2 (z_ln M a69) ∧ (∀ x_71 : Int32, x_71 = ((z_ai M a69 ((x2 : Int32).toNatClampNeg)) - 1) → ((∃ n72 : Nat, P_X12_hearsAck_58 a Post n72 x2 x3 t0 x_71 M))))
def P_X12_hearsAck_45 (a : Nat) (Post : z_Mem → Prop)  (x2 : Int32) (x3 : Int32) (M : z_Mem) : Prop := P_X12_hearsAck_46 a Post x2 x3 0 M
def P_X12_hearsAck_26 (a : Nat) (Post : z_Mem → Prop)  (x2 : Int32) (t0 : Int32) (M : z_Mem) : Prop := ((t0 = (-1) → P_X12_hearsAck_45 a Post x2 t0 M) ∧ (¬ t0 = (-1) → z_nn (z_fr M 1598 a) fun a75 => (vp_in t0 (z_ln M a75) ∧ ((((z_ai M a75 ((t0 : Int32).toNatClampNeg)) = 0 → P_X12_hearsAck_46 a Post x2 t0 1 M) ∧ (¬ (z_ai M a75 ((t0 : Int32).toNatClampNeg)) = 0 → P_X12_hearsAck_45 a Post x2 t0 M))))))
set_option maxRecDepth 100000 in
def P_X12_hearsAck (a : Nat) (p1 : Int32) (M : z_Mem) (Post : z_Mem → Prop) : Prop := ∀ x_78 : Int32, x_78 = (15 * p1) → (z_nn (z_fr M 1560 a) fun a80 => (vp_in x_78 (z_ln M a80) ∧ ((((z_ai M a80 ((x_78 : Int32).toNatClampNeg)) ≤ 0 → P_X12_hearsAck_26 a Post x_78 (-1) M) ∧ (¬ (z_ai M a80 ((x_78 : Int32).toNatClampNeg)) ≤ 0 → z_nn (z_fr M 1560 a) fun a84 => (vp_in (x_78 + 2) (z_ln M a84) ∧ (P_X12_hearsAck_26 a Post x_78 (z_ai M a84 (((x_78 + 2) : Int32).toNatClampNeg)) M)))))))
set_option maxRecDepth 100000 in
set_option maxHeartbeats 4000000 in
theorem v_X12_hearsAck_78 {G : z_G} {M0 : z_Mem} {a : Nat} {Post : z_Mem → Prop} {J58 : Int32 → Int32 → Int32 → Int32 → z_Mem → Prop} (hJ58 : ∀ (x2 : Int32) (x3 : Int32) (x4 : Int32) (x5 : Int32) (M : z_Mem), (z_ki M a = 13) → (x4 = 0 ∨ x4 = 1) → J58 x2 x3 x4 x5 M → z_V G Y_X12_hearsAck z_X0 M0 (z_QM G M0 (z_PV Post)) M 58 [(0, z_O (some a)), (2, z_I x2), (3, z_I x3), (4, z_I x4), (5, z_I x5)] []) : ∀ (n : Nat) {x2 : Int32} {x3 : Int32} {x4 : Int32} {x5 : Int32} {x6 : Int32} {M : z_Mem}, (z_ki M a = 13) → (x4 = 0 ∨ x4 = 1) → P_X12_hearsAck_78 a Post J58 n x2 x3 x4 x5 x6 M → z_V G Y_X12_hearsAck z_X0 M0 (z_QM G M0 (z_PV Post)) M 78 [(0, z_O (some a)), (2, z_I x2), (3, z_I x3), (4, z_I x4), (5, z_I x5), (6, z_I x6)] [] := by
  intro n
  induction n with
  | zero => intro x2 x3 x4 x5 x6 M ha f_x4 hP; exact False.elim hP
  | succ n ih =>
    intro x2 x3 x4 x5 x6 M ha f_x4 hP
    unfold P_X12_hearsAck_78 at hP
    refine z_iload dX12_hearsAck_78 5 rfl ?_
    refine z_aload_n dX12_hearsAck_80 rfl 0 rfl ?_
    refine z_getr (c := 12) (k := 24) (g := 1560) (t := 20) z_cb12 (Nat.le_of_ble_eq_true rfl) (Nat.le_of_ble_eq_true rfl) rfl rfl zw_1279 rfl ha dX12_hearsAck_81 (fun f1 => ?_)
    refine z_iload_n dX12_hearsAck_84 rfl 1 rfl ?_
    refine z_iconst (v := 2) dX12_hearsAck_85 (by decide) ?_
    refine z_iadd dX12_hearsAck_86 ?_
    refine z_pc (pc' := 87) rfl ?_
    refine z_iconst (v := 2) dX12_hearsAck_87 (by decide) ?_
    refine z_iload dX12_hearsAck_88 4 rfl ?_
    refine z_imul dX12_hearsAck_90 ?_
    refine z_iadd dX12_hearsAck_91 ?_
    obtain ⟨a2, e2, hP⟩ := hP
    have k2 := f1 a2 e2
    obtain ⟨i3, hP⟩ := hP
    refine z_iald e2 k2 i3 dX12_hearsAck_92 ?_
    refine z_icmp_gt (tgt := 108) dX12_hearsAck_93 (by decide) (fun h4 => ?_) (fun h4 => ?_)
    · replace hP := hP.1 h4
      refine z_iincN (j := 4) (m := (-1)) (lv' := fun v => [(5, z_I v), (0, z_O _), (2, z_I _), (3, z_I _), (4, z_I _), (6, z_I _)]) dX12_hearsAck_108 rfl (by decide) (Nat.le_of_ble_eq_true rfl) (fun _ => rfl) (fun x_5 y_5 => ?_)
      replace hP := hP x_5 y_5
      refine z_pc (pc' := 111) rfl ?_
      refine z_goto (tgt := 58) dX12_hearsAck_111 (by decide) ?_
      refine z_sub (lv' := [(0, z_O _), (2, z_I _), (3, z_I _), (4, z_I _), (5, z_I _)]) [1, 2, 3, 4, 0] rfl ?_
      exact hJ58 _ _ _ _ _ ha f_x4 hP
    · replace hP := hP.2 h4
      refine z_aload_n dX12_hearsAck_96 rfl 0 rfl ?_
      refine z_pc (pc' := 97) rfl ?_
      refine z_iload dX12_hearsAck_97 5 rfl ?_
      refine z_wts (fun hT6 _ => ?_)
      refine z_cVv (c := 12) (n := 1) (Y1 := Y_X12_hearsOf) (st := []) rfl ha z_cb12 (Nat.le_of_ble_eq_true rfl) rfl (s_X12_hearsOf ha hP) rfl ⟨z_dc_X12_hearsOf, ⟨(Nat.le_of_ble_eq_true rfl), (Nat.le_of_ble_eq_true rfl)⟩, (Nat.le_of_ble_eq_true rfl)⟩ rfl zw_1685 zw_1687 zp_47 zw_12 zw_1688 dX12_hearsAck_99 (fun M_6 hP _ x6 => ?_)
      have ha := x6.k (k := 12) hT6 ha
      refine z_iincN (j := 5) (m := 1) (lv' := fun v => [(6, z_I v), (0, z_O _), (2, z_I _), (3, z_I _), (4, z_I _), (5, z_I _)]) dX12_hearsAck_102 rfl (by decide) (Nat.le_of_ble_eq_true rfl) (fun _ => rfl) (fun x_7 y_7 => ?_)
      replace hP := hP x_7 y_7
      refine z_goto (tgt := 78) dX12_hearsAck_105 (by decide) ?_
      refine z_sub (lv' := [(0, z_O _), (2, z_I _), (3, z_I _), (4, z_I _), (5, z_I _), (6, z_I _)]) [1, 2, 3, 4, 5, 0] rfl ?_
      exact ih ha f_x4 hP
set_option maxRecDepth 100000 in
set_option maxHeartbeats 4000000 in
theorem v_X12_hearsAck_271 {G : z_G} {M0 : z_Mem} {a : Nat} {Post : z_Mem → Prop}   : ∀ (n : Nat) {x5 : Int32} {M : z_Mem}, (z_ki M a = 13) → P_X12_hearsAck_271 a Post n x5 M → z_V G Y_X12_hearsAck z_X0 M0 (z_QM G M0 (z_PV Post)) M 271 [(0, z_O (some a)), (5, z_I x5)] [] := by
  intro n
  induction n with
  | zero => intro x5 M ha hP; exact False.elim hP
  | succ n ih =>
    intro x5 M ha hP
    unfold P_X12_hearsAck_271 at hP
    refine z_iload dX12_hearsAck_271 1 rfl ?_
    refine z_iconst (v := 2) dX12_hearsAck_273 (by decide) ?_
    refine z_icmp_ge (tgt := 295) dX12_hearsAck_274 (by decide) (fun h8 => ?_) (fun h8 => ?_)
    · replace hP := hP.1 h8
      exact z_retv rfl dX12_hearsAck_295 hP
    · replace hP := hP.2 h8
      refine z_aload_n dX12_hearsAck_277 rfl 0 rfl ?_
      refine z_iload dX12_hearsAck_278 1 rfl ?_
      refine z_wts (fun hT9 _ => ?_)
      refine z_cVv (c := 12) (n := 1) (Y1 := Y_X12_losesByOrder) (st := []) rfl ha z_cb12 (Nat.le_of_ble_eq_true rfl) rfl (s_X12_losesByOrder ha hP) rfl ⟨z_dc_X12_losesByOrder, ⟨(Nat.le_of_ble_eq_true rfl), (Nat.le_of_ble_eq_true rfl)⟩, (Nat.le_of_ble_eq_true rfl)⟩ rfl zw_1706 zw_1708 zp_51 zw_12 zw_1709 dX12_hearsAck_280 (fun M_9 hP _ x9 => ?_)
      have ha := x9.k (k := 12) hT9 ha
      refine z_aload_n dX12_hearsAck_283 rfl 0 rfl ?_
      refine z_pc (pc' := 284) rfl ?_
      refine z_iload dX12_hearsAck_284 1 rfl ?_
      refine z_wts (fun hT10 _ => ?_)
      refine z_cVv (c := 12) (n := 1) (Y1 := Y_X12_losesByTime) (st := []) rfl ha z_cb12 (Nat.le_of_ble_eq_true rfl) rfl (s_X12_losesByTime ha hP) rfl ⟨z_dc_X12_losesByTime, ⟨(Nat.le_of_ble_eq_true rfl), (Nat.le_of_ble_eq_true rfl)⟩, (Nat.le_of_ble_eq_true rfl)⟩ rfl zw_1714 zw_1716 zp_53 zw_12 zw_1717 dX12_hearsAck_286 (fun M_10 hP _ x10 => ?_)
      have ha := x10.k (k := 12) hT10 ha
      refine z_iincN (j := 1) (m := 1) (lv' := fun v => [(5, z_I v), (0, z_O _)]) dX12_hearsAck_289 rfl (by decide) (Nat.le_of_ble_eq_true rfl) (fun _ => rfl) (fun x_11 y_11 => ?_)
      replace hP := hP x_11 y_11
      refine z_goto (tgt := 271) dX12_hearsAck_292 (by decide) ?_
      refine z_sub (lv' := [(0, z_O _), (5, z_I _)]) [1, 0] rfl ?_
      exact ih ha hP
set_option maxRecDepth 100000 in
set_option maxHeartbeats 4000000 in
theorem v_X12_hearsAck_248 {G : z_G} {M0 : z_Mem} {a : Nat} {Post : z_Mem → Prop}   : ∀ (n : Nat) {x5 : Int32} {M : z_Mem}, (z_ki M a = 13) → P_X12_hearsAck_248 a Post n x5 M → z_V G Y_X12_hearsAck z_X0 M0 (z_QM G M0 (z_PV Post)) M 248 [(0, z_O (some a)), (5, z_I x5)] [] := by
  intro n
  induction n with
  | zero => intro x5 M ha hP; exact False.elim hP
  | succ n ih =>
    intro x5 M ha hP
    unfold P_X12_hearsAck_248 at hP
    refine z_iload dX12_hearsAck_248 1 rfl ?_
    refine z_iconst (v := 2) dX12_hearsAck_250 (by decide) ?_
    refine z_icmp_ge (tgt := 268) dX12_hearsAck_251 (by decide) (fun h12 => ?_) (fun h12 => ?_)
    · replace hP := hP.1 h12
      refine z_iconst (v := 0) dX12_hearsAck_268 (by decide) ?_
      refine z_istore (lv' := [(5, z_I _), (0, z_O _)]) dX12_hearsAck_269 (Nat.le_of_ble_eq_true rfl) rfl ?_
      obtain ⟨n13, hP⟩ := hP
      refine z_sub (lv' := [(0, z_O _), (5, z_I _)]) [1, 0] rfl ?_
      exact v_X12_hearsAck_271  n13 ha hP
    · replace hP := hP.2 h12
      refine z_aload_n dX12_hearsAck_254 rfl 0 rfl ?_
      refine z_getr (c := 12) (k := 83) (g := 1619) (t := 20) z_cb12 (Nat.le_of_ble_eq_true rfl) (Nat.le_of_ble_eq_true rfl) rfl rfl zw_1338 rfl ha dX12_hearsAck_255 (fun f14 => ?_)
      refine z_iload dX12_hearsAck_258 1 rfl ?_
      refine z_iconst (v := 0) dX12_hearsAck_260 (by decide) ?_
      refine z_pc (pc' := 261) rfl ?_
      obtain ⟨a15, e15, hP⟩ := hP
      have k15 := f14 a15 e15
      obtain ⟨i16, hP⟩ := hP
      refine z_iast e15 k15 i16 dX12_hearsAck_261 ?_
      refine z_nm (fun M_17 g_17 => ?_)
      replace hP := hP M_17 g_17
      have q_17 := z_k3 g_17
      have ha := z_kk q_17 ha
      refine z_iincN (j := 1) (m := 1) (lv' := fun v => [(5, z_I v), (0, z_O _)]) dX12_hearsAck_262 rfl (by decide) (Nat.le_of_ble_eq_true rfl) (fun _ => rfl) (fun x_18 y_18 => ?_)
      replace hP := hP x_18 y_18
      refine z_goto (tgt := 248) dX12_hearsAck_265 (by decide) ?_
      refine z_sub (lv' := [(0, z_O _), (5, z_I _)]) [1, 0] rfl ?_
      exact ih ha hP
set_option maxRecDepth 100000 in
set_option maxHeartbeats 4000000 in
theorem v_X12_hearsAck_184 {G : z_G} {M0 : z_Mem} {a : Nat} {Post : z_Mem → Prop}   : ∀ (n : Nat) {x2 : Int32} {x5 : Int32} {M : z_Mem}, (z_ki M a = 13) → P_X12_hearsAck_184 a Post n x2 x5 M → z_V G Y_X12_hearsAck z_X0 M0 (z_QM G M0 (z_PV Post)) M 184 [(0, z_O (some a)), (2, z_I x2), (5, z_I x5)] [] := by
  intro n
  induction n with
  | zero => intro x2 x5 M ha hP; exact False.elim hP
  | succ n ih =>
    intro x2 x5 M ha hP
    unfold P_X12_hearsAck_184 at hP
    refine z_iload dX12_hearsAck_184 2 rfl ?_
    refine z_iconst (v := 4) dX12_hearsAck_186 (by decide) ?_
    refine z_icmp_ge (tgt := 225) dX12_hearsAck_187 (by decide) (fun h19 => ?_) (fun h19 => ?_)
    · replace hP := hP.1 h19
      refine z_aload_n dX12_hearsAck_225 rfl 0 rfl ?_
      refine z_aload_n dX12_hearsAck_226 rfl 0 rfl ?_
      refine z_geti (c := 12) (k := 53) (g := 1589) z_cb12 (Nat.le_of_ble_eq_true rfl) (Nat.le_of_ble_eq_true rfl) rfl (Nat.le_of_ble_eq_true rfl) zw_1308 rfl ha dX12_hearsAck_227 ?_
      refine z_aload_n dX12_hearsAck_230 rfl 0 rfl ?_
      refine z_pc (pc' := 231) rfl ?_
      refine z_getr (c := 12) (k := 24) (g := 1560) (t := 20) z_cb12 (Nat.le_of_ble_eq_true rfl) (Nat.le_of_ble_eq_true rfl) rfl rfl zw_1279 rfl ha dX12_hearsAck_231 (fun f21 => ?_)
      refine z_iload_n dX12_hearsAck_234 rfl 1 rfl ?_
      refine z_bipush (v := 14) dX12_hearsAck_235 (by decide) ?_
      refine z_iadd dX12_hearsAck_237 ?_
      obtain ⟨a22, e22, hP⟩ := hP
      have k22 := f21 a22 e22
      obtain ⟨i23, hP⟩ := hP
      refine z_iald e22 k22 i23 dX12_hearsAck_238 ?_
      refine z_wts (fun hT24 _ => ?_)
      refine z_cSi (n := 2) (Y1 := Y_X12_max) (st := [z_O _]) rfl (s_X12_max  hP) rfl ⟨z_dc_X12_max, ⟨(Nat.le_of_ble_eq_true rfl), (Nat.le_of_ble_eq_true rfl)⟩, (Nat.le_of_ble_eq_true rfl)⟩ rfl zw_1662 zw_1663 zw_12 zw_1664 dX12_hearsAck_239 (fun x_24 M_24 hP _ x24 => ?_)
      have ha := x24.k (k := 12) hT24 ha
      refine z_pc (pc' := 242) rfl ?_
      refine z_puti (c := 12) (k := 53) (g := 1589) z_cb12 (Nat.le_of_ble_eq_true rfl) (Nat.le_of_ble_eq_true rfl) (Nat.le_of_ble_eq_true rfl) rfl rfl rfl zw_1308 rfl ha (Or.inl rfl) dX12_hearsAck_242 ?_
      refine z_nm (fun M_25 g_25 => ?_)
      replace hP := hP M_25 g_25
      have q_25 := z_k1 g_25
      have ha := z_kk q_25 ha
      refine z_iconst (v := 0) dX12_hearsAck_245 (by decide) ?_
      refine z_istore (lv' := [(5, z_I _), (0, z_O _), (2, z_I _)]) dX12_hearsAck_246 (Nat.le_of_ble_eq_true rfl) rfl ?_
      obtain ⟨n26, hP⟩ := hP
      refine z_sub (lv' := [(0, z_O _), (5, z_I _)]) [1, 0] rfl ?_
      exact v_X12_hearsAck_248  n26 ha hP
    · replace hP := hP.2 h19
      refine z_aload_n dX12_hearsAck_190 rfl 0 rfl ?_
      refine z_getr (c := 12) (k := 52) (g := 1588) (t := 20) z_cb12 (Nat.le_of_ble_eq_true rfl) (Nat.le_of_ble_eq_true rfl) rfl rfl zw_1307 rfl ha dX12_hearsAck_191 (fun f27 => ?_)
      refine z_iload dX12_hearsAck_194 2 rfl ?_
      refine z_aload_n dX12_hearsAck_196 rfl 0 rfl ?_
      refine z_pc (pc' := 197) rfl ?_
      refine z_getr (c := 12) (k := 52) (g := 1588) (t := 20) z_cb12 (Nat.le_of_ble_eq_true rfl) (Nat.le_of_ble_eq_true rfl) rfl rfl zw_1307 rfl ha dX12_hearsAck_197 (fun f28 => ?_)
      refine z_iload dX12_hearsAck_200 2 rfl ?_
      obtain ⟨a29, e29, hP⟩ := hP
      have k29 := f28 a29 e29
      obtain ⟨i30, hP⟩ := hP
      refine z_iald e29 k29 i30 dX12_hearsAck_202 ?_
      refine z_aload_n dX12_hearsAck_203 rfl 0 rfl ?_
      refine z_getr (c := 12) (k := 24) (g := 1560) (t := 20) z_cb12 (Nat.le_of_ble_eq_true rfl) (Nat.le_of_ble_eq_true rfl) rfl rfl zw_1279 rfl ha dX12_hearsAck_204 (fun f31 => ?_)
      refine z_iload_n dX12_hearsAck_207 rfl 1 rfl ?_
      refine z_pc (pc' := 208) rfl ?_
      refine z_bipush (v := 10) dX12_hearsAck_208 (by decide) ?_
      refine z_iadd dX12_hearsAck_210 ?_
      refine z_iload dX12_hearsAck_211 2 rfl ?_
      refine z_iadd dX12_hearsAck_213 ?_
      obtain ⟨a32, e32, hP⟩ := hP
      have k32 := f31 a32 e32
      obtain ⟨i33, hP⟩ := hP
      refine z_iald e32 k32 i33 dX12_hearsAck_214 ?_
      refine z_wts (fun hT34 _ => ?_)
      refine z_cSi (n := 2) (Y1 := Y_X12_max) (st := [z_I _, z_O _]) rfl (s_X12_max  hP) rfl ⟨z_dc_X12_max, ⟨(Nat.le_of_ble_eq_true rfl), (Nat.le_of_ble_eq_true rfl)⟩, (Nat.le_of_ble_eq_true rfl)⟩ rfl zw_1662 zw_1663 zw_12 zw_1664 dX12_hearsAck_215 (fun x_34 M_34 hP _ x34 => ?_)
      have ha := x34.k (k := 12) hT34 ha
      have f27 := x34.t (k := 19) hT34 f27
      refine z_pc (pc' := 218) rfl ?_
      obtain ⟨a35, e35, hP⟩ := hP
      have k35 := f27 a35 e35
      obtain ⟨i36, hP⟩ := hP
      refine z_iast e35 k35 i36 dX12_hearsAck_218 ?_
      refine z_nm (fun M_37 g_37 => ?_)
      replace hP := hP M_37 g_37
      have q_37 := z_k3 g_37
      have ha := z_kk q_37 ha
      refine z_iincN (j := 2) (m := 1) (lv' := fun v => [(5, z_I v), (0, z_O _), (2, z_I _)]) dX12_hearsAck_219 rfl (by decide) (Nat.le_of_ble_eq_true rfl) (fun _ => rfl) (fun x_38 y_38 => ?_)
      replace hP := hP x_38 y_38
      refine z_goto (tgt := 184) dX12_hearsAck_222 (by decide) ?_
      refine z_sub (lv' := [(0, z_O _), (2, z_I _), (5, z_I _)]) [1, 2, 0] rfl ?_
      exact ih ha hP
set_option maxRecDepth 100000 in
set_option maxHeartbeats 4000000 in
theorem v_X12_hearsAck_181 {G : z_G} {M0 : z_Mem} {a : Nat} {Post : z_Mem → Prop}   {x2 : Int32} {M : z_Mem} (ha : z_ki M a = 13) (hP : P_X12_hearsAck_181 a Post x2 M) : z_V G Y_X12_hearsAck z_X0 M0 (z_QM G M0 (z_PV Post)) M 181 [(0, z_O (some a)), (2, z_I x2)] [] := by
  unfold P_X12_hearsAck_181 at hP
  refine z_iconst (v := 0) dX12_hearsAck_181 (by decide) ?_
  refine z_istore (lv' := [(5, z_I _), (0, z_O _), (2, z_I _)]) dX12_hearsAck_182 (Nat.le_of_ble_eq_true rfl) rfl ?_
  obtain ⟨n39, hP⟩ := hP
  refine z_sub (lv' := [(0, z_O _), (2, z_I _), (5, z_I _)]) [1, 2, 0] rfl ?_
  exact v_X12_hearsAck_184  n39 ha hP
set_option maxRecDepth 100000 in
set_option maxHeartbeats 4000000 in
theorem v_X12_hearsAck_140 {G : z_G} {M0 : z_Mem} {a : Nat} {Post : z_Mem → Prop}   {x2 : Int32} {x3 : Int32} {M : z_Mem} (ha : z_ki M a = 13) (hP : P_X12_hearsAck_140 a Post x2 x3 M) : z_V G Y_X12_hearsAck z_X0 M0 (z_QM G M0 (z_PV Post)) M 140 [(0, z_O (some a)), (2, z_I x2), (3, z_I x3)] [] := by
  unfold P_X12_hearsAck_140 at hP
  refine z_aload_n dX12_hearsAck_140 rfl 0 rfl ?_
  refine z_getr (c := 12) (k := 24) (g := 1560) (t := 20) z_cb12 (Nat.le_of_ble_eq_true rfl) (Nat.le_of_ble_eq_true rfl) rfl rfl zw_1279 rfl ha dX12_hearsAck_141 (fun f40 => ?_)
  refine z_iload_n dX12_hearsAck_144 rfl 1 rfl ?_
  refine z_bipush (v := 9) dX12_hearsAck_145 (by decide) ?_
  refine z_iadd dX12_hearsAck_147 ?_
  obtain ⟨a41, e41, hP⟩ := hP
  have k41 := f40 a41 e41
  obtain ⟨i42, hP⟩ := hP
  refine z_iald e41 k41 i42 dX12_hearsAck_148 ?_
  refine z_pc (pc' := 149) rfl ?_
  refine z_aload_n dX12_hearsAck_149 rfl 0 rfl ?_
  refine z_geti (c := 12) (k := 49) (g := 1585) z_cb12 (Nat.le_of_ble_eq_true rfl) (Nat.le_of_ble_eq_true rfl) rfl (Nat.le_of_ble_eq_true rfl) zw_1304 rfl ha dX12_hearsAck_150 ?_
  refine z_icmp_le (tgt := 181) dX12_hearsAck_153 (by decide) (fun h44 => ?_) (fun h44 => ?_)
  · replace hP := hP.1 h44
    refine z_sub (lv' := [(0, z_O _), (2, z_I _)]) [0, 1] rfl ?_
    exact v_X12_hearsAck_181  ha hP
  · replace hP := hP.2 h44
    refine z_aload_n dX12_hearsAck_156 rfl 0 rfl ?_
    refine z_aload_n dX12_hearsAck_157 rfl 0 rfl ?_
    refine z_getr (c := 12) (k := 24) (g := 1560) (t := 20) z_cb12 (Nat.le_of_ble_eq_true rfl) (Nat.le_of_ble_eq_true rfl) rfl rfl zw_1279 rfl ha dX12_hearsAck_158 (fun f45 => ?_)
    refine z_iload_n dX12_hearsAck_161 rfl 1 rfl ?_
    refine z_pc (pc' := 162) rfl ?_
    refine z_bipush (v := 9) dX12_hearsAck_162 (by decide) ?_
    refine z_iadd dX12_hearsAck_164 ?_
    obtain ⟨a46, e46, hP⟩ := hP
    have k46 := f45 a46 e46
    obtain ⟨i47, hP⟩ := hP
    refine z_iald e46 k46 i47 dX12_hearsAck_165 ?_
    refine z_puti (c := 12) (k := 49) (g := 1585) z_cb12 (Nat.le_of_ble_eq_true rfl) (Nat.le_of_ble_eq_true rfl) (Nat.le_of_ble_eq_true rfl) rfl rfl rfl zw_1304 rfl ha (Or.inl rfl) dX12_hearsAck_166 ?_
    refine z_nm (fun M_48 g_48 => ?_)
    replace hP := hP M_48 g_48
    have q_48 := z_k1 g_48
    have ha := z_kk q_48 ha
    refine z_aload_n dX12_hearsAck_169 rfl 0 rfl ?_
    refine z_aload_n dX12_hearsAck_170 rfl 0 rfl ?_
    refine z_pc (pc' := 171) rfl ?_
    refine z_getr (c := 12) (k := 57) (g := 1593) (t := 20) z_cb12 (Nat.le_of_ble_eq_true rfl) (Nat.le_of_ble_eq_true rfl) rfl rfl zw_1312 rfl ha dX12_hearsAck_171 (fun f49 => ?_)
    refine z_iload_n dX12_hearsAck_174 rfl 2 rfl ?_
    obtain ⟨a50, e50, hP⟩ := hP
    have k50 := f49 a50 e50
    obtain ⟨i51, hP⟩ := hP
    refine z_iald e50 k50 i51 dX12_hearsAck_175 ?_
    refine z_iload_n dX12_hearsAck_176 rfl 2 rfl ?_
    refine z_iconst (v := 0) dX12_hearsAck_177 (by decide) ?_
    refine z_wts (fun hT52 _ => ?_)
    refine z_cVv (c := 12) (n := 3) (Y1 := Y_X12_harms) (st := []) rfl ha z_cb12 (Nat.le_of_ble_eq_true rfl) rfl (s_X12_harms ha (Or.inl rfl) hP) rfl ⟨z_dc_X12_harms, ⟨(Nat.le_of_ble_eq_true rfl), (Nat.le_of_ble_eq_true rfl)⟩, (Nat.le_of_ble_eq_true rfl)⟩ rfl zw_1702 zw_1704 zp_50 zw_12 zw_1705 dX12_hearsAck_178 (fun M_52 hP _ x52 => ?_)
    have ha := x52.k (k := 12) hT52 ha
    refine z_sub (lv' := [(0, z_O _), (2, z_I _)]) [0, 1] rfl ?_
    exact v_X12_hearsAck_181  ha hP
set_option maxRecDepth 100000 in
set_option maxHeartbeats 4000000 in
theorem v_X12_hearsAck_58 {G : z_G} {M0 : z_Mem} {a : Nat} {Post : z_Mem → Prop}   : ∀ (n : Nat) {x2 : Int32} {x3 : Int32} {x4 : Int32} {x5 : Int32} {M : z_Mem}, (z_ki M a = 13) → (x4 = 0 ∨ x4 = 1) → P_X12_hearsAck_58 a Post n x2 x3 x4 x5 M → z_V G Y_X12_hearsAck z_X0 M0 (z_QM G M0 (z_PV Post)) M 58 [(0, z_O (some a)), (2, z_I x2), (3, z_I x3), (4, z_I x4), (5, z_I x5)] [] := by
  intro n
  induction n with
  | zero => intro x2 x3 x4 x5 M ha f_x4 hP; exact False.elim hP
  | succ n ih =>
    intro x2 x3 x4 x5 M ha f_x4 hP
    unfold P_X12_hearsAck_58 at hP
    refine z_iload dX12_hearsAck_58 4 rfl ?_
    refine z_if_lt (tgt := 114) dX12_hearsAck_60 (by decide) (fun h53 => ?_) (fun h53 => ?_)
    · replace hP := hP.1 h53
      refine z_iload dX12_hearsAck_114 3 rfl ?_
      refine z_if_eq (tgt := 140) dX12_hearsAck_116 (by decide) (fun h54 => ?_) (fun h54 => ?_)
      · replace hP := hP.1 h54
        refine z_sub (lv' := [(0, z_O _), (2, z_I _), (3, z_I _)]) [0, 1, 2] rfl ?_
        exact v_X12_hearsAck_140  ha hP
      · replace hP := hP.2 h54
        refine z_aload_n dX12_hearsAck_119 rfl 0 rfl ?_
        refine z_aload_n dX12_hearsAck_120 rfl 0 rfl ?_
        refine z_getr (c := 12) (k := 57) (g := 1593) (t := 20) z_cb12 (Nat.le_of_ble_eq_true rfl) (Nat.le_of_ble_eq_true rfl) rfl rfl zw_1312 rfl ha dX12_hearsAck_121 (fun f55 => ?_)
        refine z_iload_n dX12_hearsAck_124 rfl 2 rfl ?_
        refine z_pc (pc' := 125) rfl ?_
        obtain ⟨a56, e56, hP⟩ := hP
        have k56 := f55 a56 e56
        obtain ⟨i57, hP⟩ := hP
        refine z_iald e56 k56 i57 dX12_hearsAck_125 ?_
        refine z_aload_n dX12_hearsAck_126 rfl 0 rfl ?_
        refine z_geti (c := 12) (k := 0) (g := 1536) z_cb12 (Nat.le_of_ble_eq_true rfl) (Nat.le_of_ble_eq_true rfl) rfl (Nat.le_of_ble_eq_true rfl) zw_1255 rfl ha dX12_hearsAck_127 ?_
        refine z_aload_n dX12_hearsAck_130 rfl 0 rfl ?_
        refine z_getr (c := 12) (k := 58) (g := 1594) (t := 20) z_cb12 (Nat.le_of_ble_eq_true rfl) (Nat.le_of_ble_eq_true rfl) rfl rfl zw_1313 rfl ha dX12_hearsAck_131 (fun f59 => ?_)
        refine z_iload_n dX12_hearsAck_134 rfl 2 rfl ?_
        refine z_pc (pc' := 135) rfl ?_
        obtain ⟨a60, e60, hP⟩ := hP
        have k60 := f59 a60 e60
        obtain ⟨i61, hP⟩ := hP
        refine z_iald e60 k60 i61 dX12_hearsAck_135 ?_
        refine z_isub dX12_hearsAck_136 ?_
        refine z_wts (fun hT62 _ => ?_)
        refine z_cVv (c := 12) (n := 2) (Y1 := Y_X12_measures) (st := []) rfl ha z_cb12 (Nat.le_of_ble_eq_true rfl) rfl (s_X12_measures ha hP) rfl ⟨z_dc_X12_measures, ⟨(Nat.le_of_ble_eq_true rfl), (Nat.le_of_ble_eq_true rfl)⟩, (Nat.le_of_ble_eq_true rfl)⟩ rfl zw_1673 zw_1675 zp_44 zw_12 zw_1676 dX12_hearsAck_137 (fun M_62 hP _ x62 => ?_)
        have ha := x62.k (k := 12) hT62 ha
        refine z_sub (lv' := [(0, z_O _), (2, z_I _), (3, z_I _)]) [0, 1, 2] rfl ?_
        exact v_X12_hearsAck_140  ha hP
    · replace hP := hP.2 h53
      refine z_aload_n dX12_hearsAck_63 rfl 0 rfl ?_
      refine z_getr (c := 12) (k := 24) (g := 1560) (t := 20) z_cb12 (Nat.le_of_ble_eq_true rfl) (Nat.le_of_ble_eq_true rfl) rfl rfl zw_1279 rfl ha dX12_hearsAck_64 (fun f63 => ?_)
      refine z_iload_n dX12_hearsAck_67 rfl 1 rfl ?_
      refine z_iconst (v := 1) dX12_hearsAck_68 (by decide) ?_
      refine z_iadd dX12_hearsAck_69 ?_
      refine z_pc (pc' := 70) rfl ?_
      refine z_iconst (v := 2) dX12_hearsAck_70 (by decide) ?_
      refine z_iload dX12_hearsAck_71 4 rfl ?_
      refine z_imul dX12_hearsAck_73 ?_
      refine z_iadd dX12_hearsAck_74 ?_
      obtain ⟨a64, e64, hP⟩ := hP
      have k64 := f63 a64 e64
      obtain ⟨i65, hP⟩ := hP
      refine z_iald e64 k64 i65 dX12_hearsAck_75 ?_
      refine z_topi (fun x_66 y_66 => ?_)
      replace hP := hP x_66 y_66
      refine z_istore (lv' := [(6, z_I _), (0, z_O _), (2, z_I _), (3, z_I _), (4, z_I _), (5, z_I _)]) dX12_hearsAck_76 (Nat.le_of_ble_eq_true rfl) rfl ?_
      obtain ⟨n67, hP⟩ := hP
      refine z_sub (lv' := [(0, z_O _), (2, z_I _), (3, z_I _), (4, z_I _), (5, z_I _), (6, z_I _)]) [1, 2, 3, 4, 5, 0] rfl ?_
      exact v_X12_hearsAck_78 (fun _ _ _ _ _ w0 w1 hP => ih w0 w1 hP) n67 ha f_x4 hP
set_option maxRecDepth 100000 in
set_option maxHeartbeats 4000000 in
theorem v_X12_hearsAck_46 {G : z_G} {M0 : z_Mem} {a : Nat} {Post : z_Mem → Prop}   {x2 : Int32} {x3 : Int32} {t0 : Int32} {M : z_Mem} (ha : z_ki M a = 13) (f_t0 : t0 = 0 ∨ t0 = 1) (hP : P_X12_hearsAck_46 a Post x2 x3 t0 M) : z_V G Y_X12_hearsAck z_X0 M0 (z_QM G M0 (z_PV Post)) M 46 [(0, z_O (some a)), (2, z_I x2), (3, z_I x3)] [z_I t0] := by
  unfold P_X12_hearsAck_46 at hP
  refine z_istore (lv' := [(4, z_I _), (0, z_O _), (2, z_I _), (3, z_I _)]) dX12_hearsAck_46 (Nat.le_of_ble_eq_true rfl) rfl ?_
  refine z_aload_n dX12_hearsAck_48 rfl 1 rfl ?_
  refine z_getr (c := 12) (k := 24) (g := 1560) (t := 20) z_cb12 (Nat.le_of_ble_eq_true rfl) (Nat.le_of_ble_eq_true rfl) rfl rfl zw_1279 rfl ha dX12_hearsAck_49 (fun f68 => ?_)
  refine z_iload_n dX12_hearsAck_52 rfl 2 rfl ?_
  obtain ⟨a69, e69, hP⟩ := hP
  have k69 := f68 a69 e69
  obtain ⟨i70, hP⟩ := hP
  refine z_iald e69 k69 i70 dX12_hearsAck_53 ?_
  refine z_iconst (v := 1) dX12_hearsAck_54 (by decide) ?_
  refine z_pc (pc' := 55) rfl ?_
  refine z_isub dX12_hearsAck_55 ?_
  refine z_topi (fun x_71 y_71 => ?_)
  replace hP := hP x_71 y_71
  refine z_istore (lv' := [(5, z_I _), (4, z_I _), (0, z_O _), (2, z_I _), (3, z_I _)]) dX12_hearsAck_56 (Nat.le_of_ble_eq_true rfl) rfl ?_
  obtain ⟨n72, hP⟩ := hP
  refine z_sub (lv' := [(0, z_O _), (2, z_I _), (3, z_I _), (4, z_I _), (5, z_I _)]) [2, 3, 4, 1, 0] rfl ?_
  exact v_X12_hearsAck_58  n72 ha f_t0 hP
set_option maxRecDepth 100000 in
set_option maxHeartbeats 4000000 in
theorem v_X12_hearsAck_45 {G : z_G} {M0 : z_Mem} {a : Nat} {Post : z_Mem → Prop}   {x2 : Int32} {x3 : Int32} {M : z_Mem} (ha : z_ki M a = 13) (hP : P_X12_hearsAck_45 a Post x2 x3 M) : z_V G Y_X12_hearsAck z_X0 M0 (z_QM G M0 (z_PV Post)) M 45 [(0, z_O (some a)), (2, z_I x2), (3, z_I x3)] [] := by
  unfold P_X12_hearsAck_45 at hP
  refine z_iconst (v := 0) dX12_hearsAck_45 (by decide) ?_
  refine z_sub (lv' := [(0, z_O _), (2, z_I _), (3, z_I _)]) [0, 1, 2] rfl ?_
  exact v_X12_hearsAck_46  ha (Or.inl rfl) hP
set_option maxRecDepth 100000 in
set_option maxHeartbeats 4000000 in
theorem v_X12_hearsAck_26 {G : z_G} {M0 : z_Mem} {a : Nat} {Post : z_Mem → Prop}   {x2 : Int32} {t0 : Int32} {M : z_Mem} (ha : z_ki M a = 13) (hP : P_X12_hearsAck_26 a Post x2 t0 M) : z_V G Y_X12_hearsAck z_X0 M0 (z_QM G M0 (z_PV Post)) M 26 [(0, z_O (some a)), (2, z_I x2)] [z_I t0] := by
  unfold P_X12_hearsAck_26 at hP
  refine z_istore_n (lv' := [(3, z_I _), (0, z_O _), (2, z_I _)]) dX12_hearsAck_26 rfl (Nat.le_of_ble_eq_true rfl) rfl ?_
  refine z_iload_n dX12_hearsAck_27 rfl 0 rfl ?_
  refine z_iconst (v := (-1)) dX12_hearsAck_28 (by decide) ?_
  refine z_icmp_eq (tgt := 45) dX12_hearsAck_29 (by decide) (fun h73 => ?_) (fun h73 => ?_)
  · replace hP := hP.1 h73
    refine z_sub (lv' := [(0, z_O _), (2, z_I _), (3, z_I _)]) [1, 2, 0] rfl ?_
    exact v_X12_hearsAck_45  ha hP
  · replace hP := hP.2 h73
    refine z_aload_n dX12_hearsAck_32 rfl 1 rfl ?_
    refine z_getr (c := 12) (k := 62) (g := 1598) (t := 20) z_cb12 (Nat.le_of_ble_eq_true rfl) (Nat.le_of_ble_eq_true rfl) rfl rfl zw_1317 rfl ha dX12_hearsAck_33 (fun f74 => ?_)
    refine z_iload_n dX12_hearsAck_36 rfl 0 rfl ?_
    refine z_pc (pc' := 37) rfl ?_
    obtain ⟨a75, e75, hP⟩ := hP
    have k75 := f74 a75 e75
    obtain ⟨i76, hP⟩ := hP
    refine z_iald e75 k75 i76 dX12_hearsAck_37 ?_
    refine z_if_ne (tgt := 45) dX12_hearsAck_38 (by decide) (fun h77 => ?_) (fun h77 => ?_)
    · replace hP := hP.2 h77
      refine z_sub (lv' := [(0, z_O _), (2, z_I _), (3, z_I _)]) [1, 2, 0] rfl ?_
      exact v_X12_hearsAck_45  ha hP
    · replace hP := hP.1 h77
      refine z_iconst (v := 1) dX12_hearsAck_41 (by decide) ?_
      refine z_goto (tgt := 46) dX12_hearsAck_42 (by decide) ?_
      refine z_sub (lv' := [(0, z_O _), (2, z_I _), (3, z_I _)]) [1, 2, 0] rfl ?_
      exact v_X12_hearsAck_46  ha (Or.inr rfl) hP
set_option maxRecDepth 100000 in
set_option maxHeartbeats 4000000 in
theorem s_X12_hearsAck {G : z_G} {M : z_Mem} {a : Nat} {p1 : Int32} {Post : z_Mem → Prop} (ha : z_ki M a = 13) (hP : P_X12_hearsAck a p1 M Post) : z_Mt G Y_X12_hearsAck M [z_O (some a), z_I p1] (z_PV Post) := by
  refine z_ofV (by decide) (Nat.le_of_ble_eq_true rfl) ?_
  unfold P_X12_hearsAck at hP
  refine z_sub (lv' := [(0, z_O (some a)), (1, z_I p1)]) [0, 1] rfl ?_
  refine z_bipush (v := 15) dX12_hearsAck_0 (by decide) ?_
  refine z_iload_n dX12_hearsAck_2 rfl 1 rfl ?_
  refine z_imul dX12_hearsAck_3 ?_
  refine z_topi (fun x_78 y_78 => ?_)
  replace hP := hP x_78 y_78
  refine z_istore_n (lv' := [(2, z_I _), (0, z_O _), (1, z_I _)]) dX12_hearsAck_4 rfl (Nat.le_of_ble_eq_true rfl) rfl ?_
  refine z_aload_n dX12_hearsAck_5 rfl 1 rfl ?_
  refine z_getr (c := 12) (k := 24) (g := 1560) (t := 20) z_cb12 (Nat.le_of_ble_eq_true rfl) (Nat.le_of_ble_eq_true rfl) rfl rfl zw_1279 rfl ha dX12_hearsAck_6 (fun f79 => ?_)
  refine z_pc (pc' := 9) rfl ?_
  refine z_iload_n dX12_hearsAck_9 rfl 0 rfl ?_
  obtain ⟨a80, e80, hP⟩ := hP
  have k80 := f79 a80 e80
  obtain ⟨i81, hP⟩ := hP
  refine z_iald e80 k80 i81 dX12_hearsAck_10 ?_
  refine z_if_le (tgt := 25) dX12_hearsAck_11 (by decide) (fun h82 => ?_) (fun h82 => ?_)
  · replace hP := hP.1 h82
    refine z_iconst (v := (-1)) dX12_hearsAck_25 (by decide) ?_
    refine z_sub (lv' := [(0, z_O _), (2, z_I _)]) [1, 0] rfl ?_
    exact v_X12_hearsAck_26  ha hP
  · replace hP := hP.2 h82
    refine z_aload_n dX12_hearsAck_14 rfl 1 rfl ?_
    refine z_getr (c := 12) (k := 24) (g := 1560) (t := 20) z_cb12 (Nat.le_of_ble_eq_true rfl) (Nat.le_of_ble_eq_true rfl) rfl rfl zw_1279 rfl ha dX12_hearsAck_15 (fun f83 => ?_)
    refine z_iload_n dX12_hearsAck_18 rfl 0 rfl ?_
    refine z_iconst (v := 2) dX12_hearsAck_19 (by decide) ?_
    refine z_pc (pc' := 20) rfl ?_
    refine z_iadd dX12_hearsAck_20 ?_
    obtain ⟨a84, e84, hP⟩ := hP
    have k84 := f83 a84 e84
    obtain ⟨i85, hP⟩ := hP
    refine z_iald e84 k84 i85 dX12_hearsAck_21 ?_
    refine z_goto (tgt := 26) dX12_hearsAck_22 (by decide) ?_
    refine z_sub (lv' := [(0, z_O _), (2, z_I _)]) [1, 0] rfl ?_
    exact v_X12_hearsAck_26  ha hP
set_option maxRecDepth 100000 in
def P_X12_saysHello (a : Nat) (M : z_Mem) (Post : z_Mem → Prop) : Prop := ∀ M_2 : z_Mem, M_2 = z_sfi M 1580 a (z_fi M 1536 a) → (z_nn (z_fr M_2 1629 a) fun a4 => (vp_in 3 (z_ln M_2 a4) ∧ (vp_in 3 (z_ln M_2 a4) ∧ (∀ M_7 : z_Mem, M_7 = z_sai M_2 a4 ((3 : Int32).toNatClampNeg) ((z_ai M_2 a4 ((3 : Int32).toNatClampNeg)) + 1) → ((((z_fi M_7 1579 a) = 0 → P_X12_puts a 0 1 ((2 * ((z_fi M_7 1578 a) + 1)) + 0) M_7 fun M_11 => (Post M_11)) ∧ (¬ (z_fi M_7 1579 a) = 0 → P_X12_puts a 0 1 ((2 * ((z_fi M_7 1578 a) + 1)) + 1) M_7 fun M_12 => (Post M_12))))))))
set_option maxRecDepth 100000 in
set_option maxHeartbeats 4000000 in
theorem s_X12_saysHello {G : z_G} {M : z_Mem} {a : Nat} {Post : z_Mem → Prop} (ha : z_ki M a = 13) (hP : P_X12_saysHello a M Post) : z_Mt G Y_X12_saysHello M [z_O (some a)] (z_PV Post) := by
  refine z_ofV (by decide) (Nat.le_of_ble_eq_true rfl) ?_
  unfold P_X12_saysHello at hP
  refine z_sub (lv' := [(0, z_O (some a))]) [0] rfl ?_
  refine z_aload_n dX12_saysHello_0 rfl 0 rfl ?_
  refine z_aload_n dX12_saysHello_1 rfl 0 rfl ?_
  refine z_geti (c := 12) (k := 0) (g := 1536) z_cb12 (Nat.le_of_ble_eq_true rfl) (Nat.le_of_ble_eq_true rfl) rfl (Nat.le_of_ble_eq_true rfl) zw_1255 rfl ha dX12_saysHello_2 ?_
  refine z_puti (c := 12) (k := 44) (g := 1580) z_cb12 (Nat.le_of_ble_eq_true rfl) (Nat.le_of_ble_eq_true rfl) (Nat.le_of_ble_eq_true rfl) rfl rfl rfl zw_1299 rfl ha (Or.inl rfl) dX12_saysHello_5 ?_
  refine z_nm (fun M_2 g_2 => ?_)
  replace hP := hP M_2 g_2
  have q_2 := z_k1 g_2
  have ha := z_kk q_2 ha
  refine z_aload_n dX12_saysHello_8 rfl 0 rfl ?_
  refine z_getr (c := 12) (k := 93) (g := 1629) (t := 20) z_cb12 (Nat.le_of_ble_eq_true rfl) (Nat.le_of_ble_eq_true rfl) rfl rfl zw_1348 rfl ha dX12_saysHello_9 (fun f3 => ?_)
  refine z_pc (pc' := 12) rfl ?_
  refine z_iconst (v := 3) dX12_saysHello_12 (by decide) ?_
  refine z_dup2 dX12_saysHello_13 rfl rfl ?_
  obtain ⟨a4, e4, hP⟩ := hP
  have k4 := f3 a4 e4
  obtain ⟨i5, hP⟩ := hP
  refine z_iald e4 k4 i5 dX12_saysHello_14 ?_
  refine z_iconst (v := 1) dX12_saysHello_15 (by decide) ?_
  refine z_iadd dX12_saysHello_16 ?_
  obtain ⟨i6, hP⟩ := hP
  refine z_iast e4 k4 i6 dX12_saysHello_17 ?_
  refine z_nm (fun M_7 g_7 => ?_)
  replace hP := hP M_7 g_7
  have q_7 := z_k3 g_7
  have ha := z_kk q_7 ha
  refine z_pc (pc' := 18) rfl ?_
  refine z_aload_n dX12_saysHello_18 rfl 0 rfl ?_
  refine z_iconst (v := 0) dX12_saysHello_19 (by decide) ?_
  refine z_iconst (v := 1) dX12_saysHello_20 (by decide) ?_
  refine z_iconst (v := 2) dX12_saysHello_21 (by decide) ?_
  refine z_aload_n dX12_saysHello_22 rfl 0 rfl ?_
  refine z_geti (c := 12) (k := 42) (g := 1578) z_cb12 (Nat.le_of_ble_eq_true rfl) (Nat.le_of_ble_eq_true rfl) rfl (Nat.le_of_ble_eq_true rfl) zw_1297 rfl ha dX12_saysHello_23 ?_
  refine z_pc (pc' := 26) rfl ?_
  refine z_iconst (v := 1) dX12_saysHello_26 (by decide) ?_
  refine z_iadd dX12_saysHello_27 ?_
  refine z_imul dX12_saysHello_28 ?_
  refine z_aload_n dX12_saysHello_29 rfl 0 rfl ?_
  refine z_getb (c := 12) (k := 43) (g := 1579) z_cb12 (Nat.le_of_ble_eq_true rfl) (Nat.le_of_ble_eq_true rfl) rfl rfl zw_1298 rfl ha dX12_saysHello_30 (fun b9 => ?_)
  refine z_if_eq (tgt := 40) dX12_saysHello_33 (by decide) (fun h10 => ?_) (fun h10 => ?_)
  · replace hP := hP.1 h10
    refine z_iconst (v := 0) dX12_saysHello_40 (by decide) ?_
    refine z_pc (pc' := 41) rfl ?_
    refine z_iadd dX12_saysHello_41 ?_
    refine z_wts (fun hT11 _ => ?_)
    refine z_cVv (c := 12) (n := 3) (Y1 := Y_X12_puts) (st := []) rfl ha z_cb12 (Nat.le_of_ble_eq_true rfl) rfl (s_X12_puts ha hP) rfl ⟨z_dc_X12_puts, ⟨(Nat.le_of_ble_eq_true rfl), (Nat.le_of_ble_eq_true rfl)⟩, (Nat.le_of_ble_eq_true rfl)⟩ rfl zw_1610 zw_1612 zp_36 zw_12 zw_1613 dX12_saysHello_42 (fun M_11 hP _ x11 => ?_)
    have ha := x11.k (k := 12) hT11 ha
    exact z_retv rfl dX12_saysHello_45 hP
  · replace hP := hP.2 h10
    refine z_iconst (v := 1) dX12_saysHello_36 (by decide) ?_
    refine z_pc (pc' := 37) rfl ?_
    refine z_goto (tgt := 41) dX12_saysHello_37 (by decide) ?_
    refine z_iadd dX12_saysHello_41 ?_
    refine z_wts (fun hT12 _ => ?_)
    refine z_cVv (c := 12) (n := 3) (Y1 := Y_X12_puts) (st := []) rfl ha z_cb12 (Nat.le_of_ble_eq_true rfl) rfl (s_X12_puts ha hP) rfl ⟨z_dc_X12_puts, ⟨(Nat.le_of_ble_eq_true rfl), (Nat.le_of_ble_eq_true rfl)⟩, (Nat.le_of_ble_eq_true rfl)⟩ rfl zw_1610 zw_1612 zp_36 zw_12 zw_1613 dX12_saysHello_42 (fun M_12 hP _ x12 => ?_)
    have ha := x12.k (k := 12) hT12 ha
    exact z_retv rfl dX12_saysHello_45 hP
def P_X12_hearsAccept_57 (a : Nat) (Post : z_Mem → Prop) (J21 : Int32 → Int32 → z_Mem → Prop) (x1 : Int32) (x2 : Int32) (M : z_Mem) : Prop := ∀ x_1 : Int32, x_1 = x2 + 1 → (J21 x1 x_1 M)
set_option maxRecDepth 100000 in
def P_X12_hearsAccept_21 (a : Nat) (Post : z_Mem → Prop)  : Nat → Int32 → Int32 → z_Mem → Prop
  | 0, _, _, _ => False
  | n + 1, x1, x2, M => (((z_fi M 1606 a) ≤ x2 → Post M) ∧ (¬ (z_fi M 1606 a) ≤ x2 → ((x1 = 0 → z_nn (z_fr M 1602 a) fun a6 => (vp_in x2 (z_ln M a6) ∧ ((((z_ai M a6 ((x2 : Int32).toNatClampNeg)) = 0 → P_X12_hearsAccept_57 a Post (fun q0 q1 qM => P_X12_hearsAccept_21 a Post n q0 q1 qM) x1 x2 M) ∧ (¬ (z_ai M a6 ((x2 : Int32).toNatClampNeg)) = 0 → z_nn (z_fr M 1598 a) fun a10 => (vp_in x2 (z_ln M a10) ∧ ((((z_ai M a10 ((x2 : Int32).toNatClampNeg)) = 0 → P_X12_lands a x2 4 M fun M_13 => (P_X12_hearsAccept_57 a Post (fun q0 q1 qM => P_X12_hearsAccept_21 a Post n q0 q1 qM) x1 x2 M_13)) ∧ (¬ (z_ai M a10 ((x2 : Int32).toNatClampNeg)) = 0 → P_X12_hearsAccept_57 a Post (fun q0 q1 qM => P_X12_hearsAccept_21 a Post n q0 q1 qM) x1 x2 M))))))))) ∧ (¬ x1 = 0 → P_X12_hearsAccept_57 a Post (fun q0 q1 qM => P_X12_hearsAccept_21 a Post n q0 q1 qM) x1 x2 M))))
set_option maxRecDepth 100000 in
def P_X12_hearsAccept (a : Nat) (p1 : Int32) (M : z_Mem) (Post : z_Mem → Prop) : Prop := ∀ M_14 : z_Mem, M_14 = z_sfi M 1577 a 2 → (P_X12_measures a 0 ((z_fi M_14 1536 a) - (z_fi M_14 1580 a)) M_14 fun M_17 => ((∃ n18 : Nat, P_X12_hearsAccept_21 a Post n18 p1 0 M_17)))
set_option maxRecDepth 100000 in
set_option maxHeartbeats 4000000 in
theorem v_X12_hearsAccept_57 {G : z_G} {M0 : z_Mem} {a : Nat} {Post : z_Mem → Prop} {J21 : Int32 → Int32 → z_Mem → Prop} (hJ21 : ∀ (x1 : Int32) (x2 : Int32) (M : z_Mem), (z_ki M a = 13) → (x1 = 0 ∨ x1 = 1) → J21 x1 x2 M → z_V G Y_X12_hearsAccept z_X0 M0 (z_QM G M0 (z_PV Post)) M 21 [(0, z_O (some a)), (1, z_I x1), (2, z_I x2)] []) {x1 : Int32} {x2 : Int32} {M : z_Mem} (ha : z_ki M a = 13) (f_x1 : x1 = 0 ∨ x1 = 1) (hP : P_X12_hearsAccept_57 a Post J21 x1 x2 M) : z_V G Y_X12_hearsAccept z_X0 M0 (z_QM G M0 (z_PV Post)) M 57 [(0, z_O (some a)), (1, z_I x1), (2, z_I x2)] [] := by
  unfold P_X12_hearsAccept_57 at hP
  refine z_iincN (j := 2) (m := 1) (lv' := fun v => [(2, z_I v), (0, z_O _), (1, z_I _)]) dX12_hearsAccept_57 rfl (by decide) (Nat.le_of_ble_eq_true rfl) (fun _ => rfl) (fun x_1 y_1 => ?_)
  replace hP := hP x_1 y_1
  refine z_goto (tgt := 21) dX12_hearsAccept_60 (by decide) ?_
  refine z_sub (lv' := [(0, z_O _), (1, z_I _), (2, z_I _)]) [1, 2, 0] rfl ?_
  exact hJ21 _ _ _ ha f_x1 hP
set_option maxRecDepth 100000 in
set_option maxHeartbeats 4000000 in
theorem v_X12_hearsAccept_21 {G : z_G} {M0 : z_Mem} {a : Nat} {Post : z_Mem → Prop}   : ∀ (n : Nat) {x1 : Int32} {x2 : Int32} {M : z_Mem}, (z_ki M a = 13) → (x1 = 0 ∨ x1 = 1) → P_X12_hearsAccept_21 a Post n x1 x2 M → z_V G Y_X12_hearsAccept z_X0 M0 (z_QM G M0 (z_PV Post)) M 21 [(0, z_O (some a)), (1, z_I x1), (2, z_I x2)] [] := by
  intro n
  induction n with
  | zero => intro x1 x2 M ha f_x1 hP; exact False.elim hP
  | succ n ih =>
    intro x1 x2 M ha f_x1 hP
    unfold P_X12_hearsAccept_21 at hP
    refine z_iload_n dX12_hearsAccept_21 rfl 2 rfl ?_
    refine z_aload_n dX12_hearsAccept_22 rfl 0 rfl ?_
    refine z_geti (c := 12) (k := 70) (g := 1606) z_cb12 (Nat.le_of_ble_eq_true rfl) (Nat.le_of_ble_eq_true rfl) rfl (Nat.le_of_ble_eq_true rfl) zw_1325 rfl ha dX12_hearsAccept_23 ?_
    refine z_icmp_ge (tgt := 63) dX12_hearsAccept_26 (by decide) (fun h3 => ?_) (fun h3 => ?_)
    · replace hP := hP.1 h3
      exact z_retv rfl dX12_hearsAccept_63 hP
    · replace hP := hP.2 h3
      refine z_iload_n dX12_hearsAccept_29 rfl 1 rfl ?_
      refine z_if_ne (tgt := 57) dX12_hearsAccept_30 (by decide) (fun h4 => ?_) (fun h4 => ?_)
      · replace hP := hP.2 h4
        refine z_sub (lv' := [(0, z_O _), (1, z_I _), (2, z_I _)]) [0, 1, 2] rfl ?_
        exact v_X12_hearsAccept_57 (fun _ _ _ w0 w1 hP => ih w0 w1 hP) ha f_x1 hP
      · replace hP := hP.1 h4
        refine z_aload_n dX12_hearsAccept_33 rfl 0 rfl ?_
        refine z_getr (c := 12) (k := 66) (g := 1602) (t := 21) z_cb12 (Nat.le_of_ble_eq_true rfl) (Nat.le_of_ble_eq_true rfl) rfl rfl zw_1321 rfl ha dX12_hearsAccept_34 (fun f5 => ?_)
        refine z_pc (pc' := 37) rfl ?_
        refine z_iload_n dX12_hearsAccept_37 rfl 2 rfl ?_
        obtain ⟨a6, e6, hP⟩ := hP
        have k6 := f5 a6 e6
        obtain ⟨i7, hP⟩ := hP
        refine z_zald e6 k6 i7 dX12_hearsAccept_38 (fun b7 => ?_)
        refine z_if_eq (tgt := 57) dX12_hearsAccept_39 (by decide) (fun h8 => ?_) (fun h8 => ?_)
        · replace hP := hP.1 h8
          refine z_sub (lv' := [(0, z_O _), (1, z_I _), (2, z_I _)]) [0, 1, 2] rfl ?_
          exact v_X12_hearsAccept_57 (fun _ _ _ w0 w1 hP => ih w0 w1 hP) ha f_x1 hP
        · replace hP := hP.2 h8
          refine z_aload_n dX12_hearsAccept_42 rfl 0 rfl ?_
          refine z_getr (c := 12) (k := 62) (g := 1598) (t := 20) z_cb12 (Nat.le_of_ble_eq_true rfl) (Nat.le_of_ble_eq_true rfl) rfl rfl zw_1317 rfl ha dX12_hearsAccept_43 (fun f9 => ?_)
          refine z_iload_n dX12_hearsAccept_46 rfl 2 rfl ?_
          obtain ⟨a10, e10, hP⟩ := hP
          have k10 := f9 a10 e10
          obtain ⟨i11, hP⟩ := hP
          refine z_iald e10 k10 i11 dX12_hearsAccept_47 ?_
          refine z_pc (pc' := 48) rfl ?_
          refine z_if_ne (tgt := 57) dX12_hearsAccept_48 (by decide) (fun h12 => ?_) (fun h12 => ?_)
          · replace hP := hP.2 h12
            refine z_sub (lv' := [(0, z_O _), (1, z_I _), (2, z_I _)]) [0, 1, 2] rfl ?_
            exact v_X12_hearsAccept_57 (fun _ _ _ w0 w1 hP => ih w0 w1 hP) ha f_x1 hP
          · replace hP := hP.1 h12
            refine z_aload_n dX12_hearsAccept_51 rfl 0 rfl ?_
            refine z_iload_n dX12_hearsAccept_52 rfl 2 rfl ?_
            refine z_iconst (v := 4) dX12_hearsAccept_53 (by decide) ?_
            refine z_wts (fun hT13 _ => ?_)
            refine z_cVv (c := 12) (n := 2) (Y1 := Y_X12_lands) (st := []) rfl ha z_cb12 (Nat.le_of_ble_eq_true rfl) rfl (s_X12_lands ha hP) rfl ⟨z_dc_X12_lands, ⟨(Nat.le_of_ble_eq_true rfl), (Nat.le_of_ble_eq_true rfl)⟩, (Nat.le_of_ble_eq_true rfl)⟩ rfl zw_1677 zw_1679 zp_45 zw_12 zw_1680 dX12_hearsAccept_54 (fun M_13 hP _ x13 => ?_)
            have ha := x13.k (k := 12) hT13 ha
            refine z_sub (lv' := [(0, z_O _), (1, z_I _), (2, z_I _)]) [0, 1, 2] rfl ?_
            exact v_X12_hearsAccept_57 (fun _ _ _ w0 w1 hP => ih w0 w1 hP) ha f_x1 hP
set_option maxRecDepth 100000 in
set_option maxHeartbeats 4000000 in
theorem s_X12_hearsAccept {G : z_G} {M : z_Mem} {a : Nat} {p1 : Int32} {Post : z_Mem → Prop} (ha : z_ki M a = 13) (f_p1 : p1 = 0 ∨ p1 = 1) (hP : P_X12_hearsAccept a p1 M Post) : z_Mt G Y_X12_hearsAccept M [z_O (some a), z_I p1] (z_PV Post) := by
  refine z_ofV (by decide) (Nat.le_of_ble_eq_true rfl) ?_
  unfold P_X12_hearsAccept at hP
  refine z_sub (lv' := [(0, z_O (some a)), (1, z_I p1)]) [0, 1] rfl ?_
  refine z_aload_n dX12_hearsAccept_0 rfl 0 rfl ?_
  refine z_iconst (v := 2) dX12_hearsAccept_1 (by decide) ?_
  refine z_puti (c := 12) (k := 41) (g := 1577) z_cb12 (Nat.le_of_ble_eq_true rfl) (Nat.le_of_ble_eq_true rfl) (Nat.le_of_ble_eq_true rfl) rfl rfl rfl zw_1296 rfl ha (Or.inl rfl) dX12_hearsAccept_2 ?_
  refine z_nm (fun M_14 g_14 => ?_)
  replace hP := hP M_14 g_14
  have q_14 := z_k1 g_14
  have ha := z_kk q_14 ha
  refine z_aload_n dX12_hearsAccept_5 rfl 0 rfl ?_
  refine z_iconst (v := 0) dX12_hearsAccept_6 (by decide) ?_
  refine z_aload_n dX12_hearsAccept_7 rfl 0 rfl ?_
  refine z_pc (pc' := 8) rfl ?_
  refine z_geti (c := 12) (k := 0) (g := 1536) z_cb12 (Nat.le_of_ble_eq_true rfl) (Nat.le_of_ble_eq_true rfl) rfl (Nat.le_of_ble_eq_true rfl) zw_1255 rfl ha dX12_hearsAccept_8 ?_
  refine z_aload_n dX12_hearsAccept_11 rfl 0 rfl ?_
  refine z_geti (c := 12) (k := 44) (g := 1580) z_cb12 (Nat.le_of_ble_eq_true rfl) (Nat.le_of_ble_eq_true rfl) rfl (Nat.le_of_ble_eq_true rfl) zw_1299 rfl ha dX12_hearsAccept_12 ?_
  refine z_isub dX12_hearsAccept_15 ?_
  refine z_wts (fun hT17 _ => ?_)
  refine z_cVv (c := 12) (n := 2) (Y1 := Y_X12_measures) (st := []) rfl ha z_cb12 (Nat.le_of_ble_eq_true rfl) rfl (s_X12_measures ha hP) rfl ⟨z_dc_X12_measures, ⟨(Nat.le_of_ble_eq_true rfl), (Nat.le_of_ble_eq_true rfl)⟩, (Nat.le_of_ble_eq_true rfl)⟩ rfl zw_1673 zw_1675 zp_44 zw_12 zw_1676 dX12_hearsAccept_16 (fun M_17 hP _ x17 => ?_)
  have ha := x17.k (k := 12) hT17 ha
  refine z_iconst (v := 0) dX12_hearsAccept_19 (by decide) ?_
  refine z_pc (pc' := 20) rfl ?_
  refine z_istore_n (lv' := [(2, z_I _), (0, z_O _), (1, z_I _)]) dX12_hearsAccept_20 rfl (Nat.le_of_ble_eq_true rfl) rfl ?_
  obtain ⟨n18, hP⟩ := hP
  refine z_sub (lv' := [(0, z_O _), (1, z_I _), (2, z_I _)]) [1, 2, 0] rfl ?_
  exact v_X12_hearsAccept_21  n18 ha f_p1 hP
def P_X12_arrivesAtClient_153 (a : Nat) (Post : z_Mem → Prop)  (x2 : Int32) (M : z_Mem) : Prop := ((x2 = 9 → (((z_fi M 1577 a) = 4 → Post M) ∧ (¬ (z_fi M 1577 a) = 4 → ∀ M_4 : z_Mem, M_4 = z_sfi M 1577 a 5 → (Post M_4)))) ∧ (¬ x2 = 9 → Post M))
def P_X12_arrivesAtClient_116 (a : Nat) (Post : z_Mem → Prop)  (x1 : Int32) (x2 : Int32) (M : z_Mem) : Prop := ((x2 = 8 → (((z_fi M 1577 a) = 4 → P_X12_arrivesAtClient_153 a Post x2 M) ∧ (¬ (z_fi M 1577 a) = 4 → (((z_fi M 1577 a) = 5 → P_X12_arrivesAtClient_153 a Post x2 M) ∧ (¬ (z_fi M 1577 a) = 5 → z_nn (z_fr M 1557 a) fun a12 => (vp_in x1 (z_ln M a12) ∧ (z_nn (z_fr M 1615 a) fun a14 => (vp_in (z_ai M a12 ((x1 : Int32).toNatClampNeg)) (z_ln M a14) ∧ (∀ M_16 : z_Mem, M_16 = z_sai M a14 (((z_ai M a12 ((x1 : Int32).toNatClampNeg)) : Int32).toNatClampNeg) 1 → (Post M_16)))))))))) ∧ (¬ x2 = 8 → P_X12_arrivesAtClient_153 a Post x2 M))
def P_X12_arrivesAtClient_81 (a : Nat) (Post : z_Mem → Prop)  (x1 : Int32) (x2 : Int32) (M : z_Mem) : Prop := ((x2 = 7 → (((z_fi M 1577 a) = 2 → z_nn (z_fr M 1556 a) fun a21 => (vp_in x1 (z_ln M a21) ∧ (P_X12_hearsAck a (z_ai M a21 ((x1 : Int32).toNatClampNeg)) M fun M_23 => (Post M_23)))) ∧ (¬ (z_fi M 1577 a) = 2 → (((z_fi M 1577 a) = 3 → z_nn (z_fr M 1556 a) fun a27 => (vp_in x1 (z_ln M a27) ∧ (P_X12_hearsAck a (z_ai M a27 ((x1 : Int32).toNatClampNeg)) M fun M_29 => (Post M_29)))) ∧ (¬ (z_fi M 1577 a) = 3 → P_X12_arrivesAtClient_116 a Post x1 x2 M))))) ∧ (¬ x2 = 7 → P_X12_arrivesAtClient_116 a Post x1 x2 M))
def P_X12_arrivesAtClient_45 (a : Nat) (Post : z_Mem → Prop)  (x1 : Int32) (x2 : Int32) (M : z_Mem) : Prop := ((x2 = 6 → (((z_fi M 1577 a) = 1 → z_nn (z_fr M 1556 a) fun a34 => (vp_in x1 (z_ln M a34) ∧ ((((z_ai M a34 ((x1 : Int32).toNatClampNeg)) = 1 → P_X12_hearsAccept a 1 M fun M_38 => (Post M_38)) ∧ (¬ (z_ai M a34 ((x1 : Int32).toNatClampNeg)) = 1 → P_X12_hearsAccept a 0 M fun M_37 => (Post M_37)))))) ∧ (¬ (z_fi M 1577 a) = 1 → P_X12_arrivesAtClient_81 a Post x1 x2 M))) ∧ (¬ x2 = 6 → P_X12_arrivesAtClient_81 a Post x1 x2 M))
set_option maxRecDepth 100000 in
def P_X12_arrivesAtClient (a : Nat) (p1 : Int32) (M : z_Mem) (Post : z_Mem → Prop) : Prop := z_nn (z_fr M 1555 a) fun a40 => (vp_in p1 (z_ln M a40) ∧ (∀ x_42 : Int32, x_42 = (z_ai M a40 ((p1 : Int32).toNatClampNeg)) → (((x_42 = 5 → (((z_fi M 1577 a) = 1 → (((z_fi M 1579 a) = 0 → ∀ M_48 : z_Mem, M_48 = z_sfi M 1579 a 1 → (∀ M_49 : z_Mem, M_49 = z_sfi M_48 1581 a 10 → (P_X12_saysHello a M_49 fun M_50 => (Post M_50)))) ∧ (¬ (z_fi M 1579 a) = 0 → P_X12_arrivesAtClient_45 a Post p1 x_42 M))) ∧ (¬ (z_fi M 1577 a) = 1 → P_X12_arrivesAtClient_45 a Post p1 x_42 M))) ∧ (¬ x_42 = 5 → P_X12_arrivesAtClient_45 a Post p1 x_42 M)))))
set_option maxRecDepth 100000 in
set_option maxHeartbeats 4000000 in
theorem v_X12_arrivesAtClient_153 {G : z_G} {M0 : z_Mem} {a : Nat} {Post : z_Mem → Prop}   {x2 : Int32} {M : z_Mem} (ha : z_ki M a = 13) (hP : P_X12_arrivesAtClient_153 a Post x2 M) : z_V G Y_X12_arrivesAtClient z_X0 M0 (z_QM G M0 (z_PV Post)) M 153 [(0, z_O (some a)), (2, z_I x2)] [] := by
  unfold P_X12_arrivesAtClient_153 at hP
  refine z_iload_n dX12_arrivesAtClient_153 rfl 1 rfl ?_
  refine z_bipush (v := 9) dX12_arrivesAtClient_154 (by decide) ?_
  refine z_icmp_ne (tgt := 172) dX12_arrivesAtClient_156 (by decide) (fun h1 => ?_) (fun h1 => ?_)
  · replace hP := hP.2 h1
    exact z_retv rfl dX12_arrivesAtClient_172 hP
  · replace hP := hP.1 h1
    refine z_aload_n dX12_arrivesAtClient_159 rfl 0 rfl ?_
    refine z_geti (c := 12) (k := 41) (g := 1577) z_cb12 (Nat.le_of_ble_eq_true rfl) (Nat.le_of_ble_eq_true rfl) rfl (Nat.le_of_ble_eq_true rfl) zw_1296 rfl ha dX12_arrivesAtClient_160 ?_
    refine z_iconst (v := 4) dX12_arrivesAtClient_163 (by decide) ?_
    refine z_icmp_eq (tgt := 172) dX12_arrivesAtClient_164 (by decide) (fun h3 => ?_) (fun h3 => ?_)
    · replace hP := hP.1 h3
      exact z_retv rfl dX12_arrivesAtClient_172 hP
    · replace hP := hP.2 h3
      refine z_aload_n dX12_arrivesAtClient_167 rfl 0 rfl ?_
      refine z_pc (pc' := 168) rfl ?_
      refine z_iconst (v := 5) dX12_arrivesAtClient_168 (by decide) ?_
      refine z_puti (c := 12) (k := 41) (g := 1577) z_cb12 (Nat.le_of_ble_eq_true rfl) (Nat.le_of_ble_eq_true rfl) (Nat.le_of_ble_eq_true rfl) rfl rfl rfl zw_1296 rfl ha (Or.inl rfl) dX12_arrivesAtClient_169 ?_
      refine z_nm (fun M_4 g_4 => ?_)
      replace hP := hP M_4 g_4
      have q_4 := z_k1 g_4
      have ha := z_kk q_4 ha
      exact z_retv rfl dX12_arrivesAtClient_172 hP
set_option maxRecDepth 100000 in
set_option maxHeartbeats 4000000 in
theorem v_X12_arrivesAtClient_116 {G : z_G} {M0 : z_Mem} {a : Nat} {Post : z_Mem → Prop}   {x1 : Int32} {x2 : Int32} {M : z_Mem} (ha : z_ki M a = 13) (hP : P_X12_arrivesAtClient_116 a Post x1 x2 M) : z_V G Y_X12_arrivesAtClient z_X0 M0 (z_QM G M0 (z_PV Post)) M 116 [(0, z_O (some a)), (1, z_I x1), (2, z_I x2)] [] := by
  unfold P_X12_arrivesAtClient_116 at hP
  refine z_iload_n dX12_arrivesAtClient_116 rfl 2 rfl ?_
  refine z_bipush (v := 8) dX12_arrivesAtClient_117 (by decide) ?_
  refine z_icmp_ne (tgt := 153) dX12_arrivesAtClient_119 (by decide) (fun h5 => ?_) (fun h5 => ?_)
  · replace hP := hP.2 h5
    refine z_sub (lv' := [(0, z_O _), (2, z_I _)]) [0, 2] rfl ?_
    exact v_X12_arrivesAtClient_153  ha hP
  · replace hP := hP.1 h5
    refine z_aload_n dX12_arrivesAtClient_122 rfl 0 rfl ?_
    refine z_geti (c := 12) (k := 41) (g := 1577) z_cb12 (Nat.le_of_ble_eq_true rfl) (Nat.le_of_ble_eq_true rfl) rfl (Nat.le_of_ble_eq_true rfl) zw_1296 rfl ha dX12_arrivesAtClient_123 ?_
    refine z_iconst (v := 4) dX12_arrivesAtClient_126 (by decide) ?_
    refine z_icmp_eq (tgt := 153) dX12_arrivesAtClient_127 (by decide) (fun h7 => ?_) (fun h7 => ?_)
    · replace hP := hP.1 h7
      refine z_sub (lv' := [(0, z_O _), (2, z_I _)]) [0, 2] rfl ?_
      exact v_X12_arrivesAtClient_153  ha hP
    · replace hP := hP.2 h7
      refine z_aload_n dX12_arrivesAtClient_130 rfl 0 rfl ?_
      refine z_pc (pc' := 131) rfl ?_
      refine z_geti (c := 12) (k := 41) (g := 1577) z_cb12 (Nat.le_of_ble_eq_true rfl) (Nat.le_of_ble_eq_true rfl) rfl (Nat.le_of_ble_eq_true rfl) zw_1296 rfl ha dX12_arrivesAtClient_131 ?_
      refine z_iconst (v := 5) dX12_arrivesAtClient_134 (by decide) ?_
      refine z_icmp_eq (tgt := 153) dX12_arrivesAtClient_135 (by decide) (fun h9 => ?_) (fun h9 => ?_)
      · replace hP := hP.1 h9
        refine z_sub (lv' := [(0, z_O _), (2, z_I _)]) [0, 2] rfl ?_
        exact v_X12_arrivesAtClient_153  ha hP
      · replace hP := hP.2 h9
        refine z_aload_n dX12_arrivesAtClient_138 rfl 0 rfl ?_
        refine z_getr (c := 12) (k := 79) (g := 1615) (t := 21) z_cb12 (Nat.le_of_ble_eq_true rfl) (Nat.le_of_ble_eq_true rfl) rfl rfl zw_1334 rfl ha dX12_arrivesAtClient_139 (fun f10 => ?_)
        refine z_aload_n dX12_arrivesAtClient_142 rfl 0 rfl ?_
        refine z_getr (c := 12) (k := 21) (g := 1557) (t := 20) z_cb12 (Nat.le_of_ble_eq_true rfl) (Nat.le_of_ble_eq_true rfl) rfl rfl zw_1276 rfl ha dX12_arrivesAtClient_143 (fun f11 => ?_)
        refine z_pc (pc' := 146) rfl ?_
        refine z_iload_n dX12_arrivesAtClient_146 rfl 1 rfl ?_
        obtain ⟨a12, e12, hP⟩ := hP
        have k12 := f11 a12 e12
        obtain ⟨i13, hP⟩ := hP
        refine z_iald e12 k12 i13 dX12_arrivesAtClient_147 ?_
        refine z_iconst (v := 1) dX12_arrivesAtClient_148 (by decide) ?_
        obtain ⟨a14, e14, hP⟩ := hP
        have k14 := f10 a14 e14
        obtain ⟨i15, hP⟩ := hP
        refine z_zast e14 k14 i15 (Or.inr rfl) dX12_arrivesAtClient_149 ?_
        refine z_nm (fun M_16 g_16 => ?_)
        replace hP := hP M_16 g_16
        have q_16 := z_k3 g_16
        have ha := z_kk q_16 ha
        refine z_goto (tgt := 172) dX12_arrivesAtClient_150 (by decide) ?_
        exact z_retv rfl dX12_arrivesAtClient_172 hP
set_option maxRecDepth 100000 in
set_option maxHeartbeats 4000000 in
theorem v_X12_arrivesAtClient_81 {G : z_G} {M0 : z_Mem} {a : Nat} {Post : z_Mem → Prop}   {x1 : Int32} {x2 : Int32} {M : z_Mem} (ha : z_ki M a = 13) (hP : P_X12_arrivesAtClient_81 a Post x1 x2 M) : z_V G Y_X12_arrivesAtClient z_X0 M0 (z_QM G M0 (z_PV Post)) M 81 [(0, z_O (some a)), (1, z_I x1), (2, z_I x2)] [] := by
  unfold P_X12_arrivesAtClient_81 at hP
  refine z_iload_n dX12_arrivesAtClient_81 rfl 2 rfl ?_
  refine z_bipush (v := 7) dX12_arrivesAtClient_82 (by decide) ?_
  refine z_icmp_ne (tgt := 116) dX12_arrivesAtClient_84 (by decide) (fun h17 => ?_) (fun h17 => ?_)
  · replace hP := hP.2 h17
    refine z_sub (lv' := [(0, z_O _), (1, z_I _), (2, z_I _)]) [0, 1, 2] rfl ?_
    exact v_X12_arrivesAtClient_116  ha hP
  · replace hP := hP.1 h17
    refine z_aload_n dX12_arrivesAtClient_87 rfl 0 rfl ?_
    refine z_geti (c := 12) (k := 41) (g := 1577) z_cb12 (Nat.le_of_ble_eq_true rfl) (Nat.le_of_ble_eq_true rfl) rfl (Nat.le_of_ble_eq_true rfl) zw_1296 rfl ha dX12_arrivesAtClient_88 ?_
    refine z_iconst (v := 2) dX12_arrivesAtClient_91 (by decide) ?_
    refine z_icmp_eq (tgt := 103) dX12_arrivesAtClient_92 (by decide) (fun h19 => ?_) (fun h19 => ?_)
    · replace hP := hP.1 h19
      refine z_aload_n dX12_arrivesAtClient_103 rfl 0 rfl ?_
      refine z_pc (pc' := 104) rfl ?_
      refine z_aload_n dX12_arrivesAtClient_104 rfl 0 rfl ?_
      refine z_getr (c := 12) (k := 20) (g := 1556) (t := 20) z_cb12 (Nat.le_of_ble_eq_true rfl) (Nat.le_of_ble_eq_true rfl) rfl rfl zw_1275 rfl ha dX12_arrivesAtClient_105 (fun f20 => ?_)
      refine z_iload_n dX12_arrivesAtClient_108 rfl 1 rfl ?_
      obtain ⟨a21, e21, hP⟩ := hP
      have k21 := f20 a21 e21
      obtain ⟨i22, hP⟩ := hP
      refine z_iald e21 k21 i22 dX12_arrivesAtClient_109 ?_
      refine z_wts (fun hT23 _ => ?_)
      refine z_cVv (c := 12) (n := 1) (Y1 := Y_X12_hearsAck) (st := []) rfl ha z_cb12 (Nat.le_of_ble_eq_true rfl) rfl (s_X12_hearsAck ha hP) rfl ⟨z_dc_X12_hearsAck, ⟨(Nat.le_of_ble_eq_true rfl), (Nat.le_of_ble_eq_true rfl)⟩, (Nat.le_of_ble_eq_true rfl)⟩ rfl zw_1681 zw_1683 zp_46 zw_12 zw_1684 dX12_arrivesAtClient_110 (fun M_23 hP _ x23 => ?_)
      have ha := x23.k (k := 12) hT23 ha
      refine z_goto (tgt := 172) dX12_arrivesAtClient_113 (by decide) ?_
      exact z_retv rfl dX12_arrivesAtClient_172 hP
    · replace hP := hP.2 h19
      refine z_aload_n dX12_arrivesAtClient_95 rfl 0 rfl ?_
      refine z_pc (pc' := 96) rfl ?_
      refine z_geti (c := 12) (k := 41) (g := 1577) z_cb12 (Nat.le_of_ble_eq_true rfl) (Nat.le_of_ble_eq_true rfl) rfl (Nat.le_of_ble_eq_true rfl) zw_1296 rfl ha dX12_arrivesAtClient_96 ?_
      refine z_iconst (v := 3) dX12_arrivesAtClient_99 (by decide) ?_
      refine z_icmp_ne (tgt := 116) dX12_arrivesAtClient_100 (by decide) (fun h25 => ?_) (fun h25 => ?_)
      · replace hP := hP.2 h25
        refine z_sub (lv' := [(0, z_O _), (1, z_I _), (2, z_I _)]) [0, 1, 2] rfl ?_
        exact v_X12_arrivesAtClient_116  ha hP
      · replace hP := hP.1 h25
        refine z_aload_n dX12_arrivesAtClient_103 rfl 0 rfl ?_
        refine z_aload_n dX12_arrivesAtClient_104 rfl 0 rfl ?_
        refine z_getr (c := 12) (k := 20) (g := 1556) (t := 20) z_cb12 (Nat.le_of_ble_eq_true rfl) (Nat.le_of_ble_eq_true rfl) rfl rfl zw_1275 rfl ha dX12_arrivesAtClient_105 (fun f26 => ?_)
        refine z_iload_n dX12_arrivesAtClient_108 rfl 1 rfl ?_
        refine z_pc (pc' := 109) rfl ?_
        obtain ⟨a27, e27, hP⟩ := hP
        have k27 := f26 a27 e27
        obtain ⟨i28, hP⟩ := hP
        refine z_iald e27 k27 i28 dX12_arrivesAtClient_109 ?_
        refine z_wts (fun hT29 _ => ?_)
        refine z_cVv (c := 12) (n := 1) (Y1 := Y_X12_hearsAck) (st := []) rfl ha z_cb12 (Nat.le_of_ble_eq_true rfl) rfl (s_X12_hearsAck ha hP) rfl ⟨z_dc_X12_hearsAck, ⟨(Nat.le_of_ble_eq_true rfl), (Nat.le_of_ble_eq_true rfl)⟩, (Nat.le_of_ble_eq_true rfl)⟩ rfl zw_1681 zw_1683 zp_46 zw_12 zw_1684 dX12_arrivesAtClient_110 (fun M_29 hP _ x29 => ?_)
        have ha := x29.k (k := 12) hT29 ha
        refine z_goto (tgt := 172) dX12_arrivesAtClient_113 (by decide) ?_
        exact z_retv rfl dX12_arrivesAtClient_172 hP
set_option maxRecDepth 100000 in
set_option maxHeartbeats 4000000 in
theorem v_X12_arrivesAtClient_45 {G : z_G} {M0 : z_Mem} {a : Nat} {Post : z_Mem → Prop}   {x1 : Int32} {x2 : Int32} {M : z_Mem} (ha : z_ki M a = 13) (hP : P_X12_arrivesAtClient_45 a Post x1 x2 M) : z_V G Y_X12_arrivesAtClient z_X0 M0 (z_QM G M0 (z_PV Post)) M 45 [(0, z_O (some a)), (1, z_I x1), (2, z_I x2)] [] := by
  unfold P_X12_arrivesAtClient_45 at hP
  refine z_iload_n dX12_arrivesAtClient_45 rfl 2 rfl ?_
  refine z_bipush (v := 6) dX12_arrivesAtClient_46 (by decide) ?_
  refine z_icmp_ne (tgt := 81) dX12_arrivesAtClient_48 (by decide) (fun h30 => ?_) (fun h30 => ?_)
  · replace hP := hP.2 h30
    refine z_sub (lv' := [(0, z_O _), (1, z_I _), (2, z_I _)]) [0, 1, 2] rfl ?_
    exact v_X12_arrivesAtClient_81  ha hP
  · replace hP := hP.1 h30
    refine z_aload_n dX12_arrivesAtClient_51 rfl 0 rfl ?_
    refine z_geti (c := 12) (k := 41) (g := 1577) z_cb12 (Nat.le_of_ble_eq_true rfl) (Nat.le_of_ble_eq_true rfl) rfl (Nat.le_of_ble_eq_true rfl) zw_1296 rfl ha dX12_arrivesAtClient_52 ?_
    refine z_iconst (v := 1) dX12_arrivesAtClient_55 (by decide) ?_
    refine z_icmp_ne (tgt := 81) dX12_arrivesAtClient_56 (by decide) (fun h32 => ?_) (fun h32 => ?_)
    · replace hP := hP.2 h32
      refine z_sub (lv' := [(0, z_O _), (1, z_I _), (2, z_I _)]) [0, 1, 2] rfl ?_
      exact v_X12_arrivesAtClient_81  ha hP
    · replace hP := hP.1 h32
      refine z_aload_n dX12_arrivesAtClient_59 rfl 0 rfl ?_
      refine z_pc (pc' := 60) rfl ?_
      refine z_aload_n dX12_arrivesAtClient_60 rfl 0 rfl ?_
      refine z_getr (c := 12) (k := 20) (g := 1556) (t := 20) z_cb12 (Nat.le_of_ble_eq_true rfl) (Nat.le_of_ble_eq_true rfl) rfl rfl zw_1275 rfl ha dX12_arrivesAtClient_61 (fun f33 => ?_)
      refine z_iload_n dX12_arrivesAtClient_64 rfl 1 rfl ?_
      obtain ⟨a34, e34, hP⟩ := hP
      have k34 := f33 a34 e34
      obtain ⟨i35, hP⟩ := hP
      refine z_iald e34 k34 i35 dX12_arrivesAtClient_65 ?_
      refine z_iconst (v := 1) dX12_arrivesAtClient_66 (by decide) ?_
      refine z_icmp_ne (tgt := 74) dX12_arrivesAtClient_67 (by decide) (fun h36 => ?_) (fun h36 => ?_)
      · replace hP := hP.2 h36
        refine z_iconst (v := 0) dX12_arrivesAtClient_74 (by decide) ?_
        refine z_pc (pc' := 75) rfl ?_
        refine z_wts (fun hT37 _ => ?_)
        refine z_cVv (c := 12) (n := 1) (Y1 := Y_X12_hearsAccept) (st := []) rfl ha z_cb12 (Nat.le_of_ble_eq_true rfl) rfl (s_X12_hearsAccept ha (Or.inl rfl) hP) rfl ⟨z_dc_X12_hearsAccept, ⟨(Nat.le_of_ble_eq_true rfl), (Nat.le_of_ble_eq_true rfl)⟩, (Nat.le_of_ble_eq_true rfl)⟩ rfl zw_1669 zw_1671 zp_43 zw_12 zw_1672 dX12_arrivesAtClient_75 (fun M_37 hP _ x37 => ?_)
        have ha := x37.k (k := 12) hT37 ha
        refine z_goto (tgt := 172) dX12_arrivesAtClient_78 (by decide) ?_
        exact z_retv rfl dX12_arrivesAtClient_172 hP
      · replace hP := hP.1 h36
        refine z_iconst (v := 1) dX12_arrivesAtClient_70 (by decide) ?_
        refine z_pc (pc' := 71) rfl ?_
        refine z_goto (tgt := 75) dX12_arrivesAtClient_71 (by decide) ?_
        refine z_wts (fun hT38 _ => ?_)
        refine z_cVv (c := 12) (n := 1) (Y1 := Y_X12_hearsAccept) (st := []) rfl ha z_cb12 (Nat.le_of_ble_eq_true rfl) rfl (s_X12_hearsAccept ha (Or.inr rfl) hP) rfl ⟨z_dc_X12_hearsAccept, ⟨(Nat.le_of_ble_eq_true rfl), (Nat.le_of_ble_eq_true rfl)⟩, (Nat.le_of_ble_eq_true rfl)⟩ rfl zw_1669 zw_1671 zp_43 zw_12 zw_1672 dX12_arrivesAtClient_75 (fun M_38 hP _ x38 => ?_)
        have ha := x38.k (k := 12) hT38 ha
        refine z_goto (tgt := 172) dX12_arrivesAtClient_78 (by decide) ?_
        exact z_retv rfl dX12_arrivesAtClient_172 hP
set_option maxRecDepth 100000 in
set_option maxHeartbeats 4000000 in
theorem s_X12_arrivesAtClient {G : z_G} {M : z_Mem} {a : Nat} {p1 : Int32} {Post : z_Mem → Prop} (ha : z_ki M a = 13) (hP : P_X12_arrivesAtClient a p1 M Post) : z_Mt G Y_X12_arrivesAtClient M [z_O (some a), z_I p1] (z_PV Post) := by
  refine z_ofV (by decide) (Nat.le_of_ble_eq_true rfl) ?_
  unfold P_X12_arrivesAtClient at hP
  refine z_sub (lv' := [(0, z_O (some a)), (1, z_I p1)]) [0, 1] rfl ?_
  refine z_aload_n dX12_arrivesAtClient_0 rfl 0 rfl ?_
  refine z_getr (c := 12) (k := 19) (g := 1555) (t := 20) z_cb12 (Nat.le_of_ble_eq_true rfl) (Nat.le_of_ble_eq_true rfl) rfl rfl zw_1274 rfl ha dX12_arrivesAtClient_1 (fun f39 => ?_)
  refine z_iload_n dX12_arrivesAtClient_4 rfl 1 rfl ?_
  obtain ⟨a40, e40, hP⟩ := hP
  have k40 := f39 a40 e40
  obtain ⟨i41, hP⟩ := hP
  refine z_iald e40 k40 i41 dX12_arrivesAtClient_5 ?_
  refine z_topi (fun x_42 y_42 => ?_)
  replace hP := hP x_42 y_42
  refine z_istore_n (lv' := [(2, z_I _), (0, z_O _), (1, z_I _)]) dX12_arrivesAtClient_6 rfl (Nat.le_of_ble_eq_true rfl) rfl ?_
  refine z_iload_n dX12_arrivesAtClient_7 rfl 0 rfl ?_
  refine z_pc (pc' := 8) rfl ?_
  refine z_iconst (v := 5) dX12_arrivesAtClient_8 (by decide) ?_
  refine z_icmp_ne (tgt := 45) dX12_arrivesAtClient_9 (by decide) (fun h43 => ?_) (fun h43 => ?_)
  · replace hP := hP.2 h43
    refine z_sub (lv' := [(0, z_O _), (1, z_I _), (2, z_I _)]) [1, 2, 0] rfl ?_
    exact v_X12_arrivesAtClient_45  ha hP
  · replace hP := hP.1 h43
    refine z_aload_n dX12_arrivesAtClient_12 rfl 1 rfl ?_
    refine z_geti (c := 12) (k := 41) (g := 1577) z_cb12 (Nat.le_of_ble_eq_true rfl) (Nat.le_of_ble_eq_true rfl) rfl (Nat.le_of_ble_eq_true rfl) zw_1296 rfl ha dX12_arrivesAtClient_13 ?_
    refine z_iconst (v := 1) dX12_arrivesAtClient_16 (by decide) ?_
    refine z_icmp_ne (tgt := 45) dX12_arrivesAtClient_17 (by decide) (fun h45 => ?_) (fun h45 => ?_)
    · replace hP := hP.2 h45
      refine z_sub (lv' := [(0, z_O _), (1, z_I _), (2, z_I _)]) [1, 2, 0] rfl ?_
      exact v_X12_arrivesAtClient_45  ha hP
    · replace hP := hP.1 h45
      refine z_aload_n dX12_arrivesAtClient_20 rfl 1 rfl ?_
      refine z_getb (c := 12) (k := 43) (g := 1579) z_cb12 (Nat.le_of_ble_eq_true rfl) (Nat.le_of_ble_eq_true rfl) rfl rfl zw_1298 rfl ha dX12_arrivesAtClient_21 (fun b46 => ?_)
      refine z_pc (pc' := 24) rfl ?_
      refine z_if_ne (tgt := 45) dX12_arrivesAtClient_24 (by decide) (fun h47 => ?_) (fun h47 => ?_)
      · replace hP := hP.2 h47
        refine z_sub (lv' := [(0, z_O _), (1, z_I _), (2, z_I _)]) [1, 2, 0] rfl ?_
        exact v_X12_arrivesAtClient_45  ha hP
      · replace hP := hP.1 h47
        refine z_aload_n dX12_arrivesAtClient_27 rfl 1 rfl ?_
        refine z_iconst (v := 1) dX12_arrivesAtClient_28 (by decide) ?_
        refine z_putb (c := 12) (k := 43) (g := 1579) z_cb12 (Nat.le_of_ble_eq_true rfl) (Nat.le_of_ble_eq_true rfl) (Nat.le_of_ble_eq_true rfl) rfl rfl rfl zw_1298 rfl ha (Or.inr rfl) (Or.inl rfl) dX12_arrivesAtClient_29 ?_
        refine z_nm (fun M_48 g_48 => ?_)
        replace hP := hP M_48 g_48
        have q_48 := z_k1 g_48
        have ha := z_kk q_48 ha
        refine z_aload_n dX12_arrivesAtClient_32 rfl 1 rfl ?_
        refine z_bipush (v := 10) dX12_arrivesAtClient_33 (by decide) ?_
        refine z_puti (c := 12) (k := 45) (g := 1581) z_cb12 (Nat.le_of_ble_eq_true rfl) (Nat.le_of_ble_eq_true rfl) (Nat.le_of_ble_eq_true rfl) rfl rfl rfl zw_1300 rfl ha (Or.inl rfl) dX12_arrivesAtClient_35 ?_
        refine z_nm (fun M_49 g_49 => ?_)
        replace hP := hP M_49 g_49
        have q_49 := z_k1 g_49
        have ha := z_kk q_49 ha
        refine z_pc (pc' := 38) rfl ?_
        refine z_aload_n dX12_arrivesAtClient_38 rfl 1 rfl ?_
        refine z_wts (fun hT50 _ => ?_)
        refine z_cVv (c := 12) (n := 0) (Y1 := Y_X12_saysHello) (st := []) rfl ha z_cb12 (Nat.le_of_ble_eq_true rfl) rfl (s_X12_saysHello ha hP) rfl ⟨z_dc_X12_saysHello, ⟨(Nat.le_of_ble_eq_true rfl), (Nat.le_of_ble_eq_true rfl)⟩, (Nat.le_of_ble_eq_true rfl)⟩ rfl zw_1606 zw_1608 zp_35 zw_12 zw_1609 dX12_arrivesAtClient_39 (fun M_50 hP _ x50 => ?_)
        have ha := x50.k (k := 12) hT50 ha
        refine z_goto (tgt := 172) dX12_arrivesAtClient_42 (by decide) ?_
        exact z_retv rfl dX12_arrivesAtClient_172 hP
set_option maxRecDepth 100000 in
def P_X12_sends_139 (a : Nat) (Post : z_Mem → Prop)  : Nat → Int32 → Int32 → Int32 → Int32 → Int32 → Int32 → z_Mem → Prop
  | 0, _, _, _, _, _, _, _ => False
  | n + 1, x1, x2, x3, x4, x6, x7, M => ((x4 ≤ x7 → ∀ M_3 : z_Mem, M_3 = z_sfi M 1606 a ((z_fi M 1606 a) + 1) → (P_X12_puts a x1 2 x6 M_3 fun M_4 => (Post M_4))) ∧ (¬ x4 ≤ x7 → z_nn (z_fr M 1592 a) fun a6 => (vp_in (((200 * x2) + x3) + x7) (z_ln M a6) ∧ (vp_in (((200 * x2) + x3) + x7) (z_ln M a6) ∧ (∀ M_9 : z_Mem, M_9 = z_sai M a6 (((((200 * x2) + x3) + x7) : Int32).toNatClampNeg) ((z_ai M a6 (((((200 * x2) + x3) + x7) : Int32).toNatClampNeg)) + 1) → (∀ x_10 : Int32, x_10 = x7 + 1 → (P_X12_sends_139 a Post n x1 x2 x3 x4 x6 x_10 M_9)))))))
def P_X12_sends_89 (a : Nat) (Post : z_Mem → Prop)  (x1 : Int32) (x2 : Int32) (x3 : Int32) (x4 : Int32) (x6 : Int32) (t0 : Option Nat) (t1 : Int32) (t2 : Int32) (M : z_Mem) : Prop := z_nn t0 fun a11 => (vp_in t1 (z_ln M a11) ∧ (∀ M_13 : z_Mem, M_13 = z_sai M a11 ((t1 : Int32).toNatClampNeg) t2 → (z_nn (z_fr M_13 1616 a) fun a16 => (vp_in x1 (z_ln M_13 a16) ∧ (z_nn (z_fr M_13 1604 a) fun a18 => (vp_in x6 (z_ln M_13 a18) ∧ (∀ M_20 : z_Mem, M_20 = z_sai M_13 a18 ((x6 : Int32).toNatClampNeg) (z_ai M_13 a16 ((x1 : Int32).toNatClampNeg)) → (z_nn (z_fr M_20 1616 a) fun a22 => (vp_in x1 (z_ln M_20 a22) ∧ (vp_in x1 (z_ln M_20 a22) ∧ (∀ M_25 : z_Mem, M_25 = z_sai M_20 a22 ((x1 : Int32).toNatClampNeg) ((z_ai M_20 a22 ((x1 : Int32).toNatClampNeg)) + 1) → (z_nn (z_fr M_25 1620 a) fun a28 => (vp_in x1 (z_ln M_25 a28) ∧ (z_nn (z_fr M_25 1605 a) fun a30 => (vp_in x6 (z_ln M_25 a30) ∧ (∀ M_32 : z_Mem, M_32 = z_sai M_25 a30 ((x6 : Int32).toNatClampNeg) (z_ai M_25 a28 ((x1 : Int32).toNatClampNeg)) → (z_nn (z_fr M_32 1618 a) fun a35 => (vp_in x1 (z_ln M_32 a35) ∧ (∀ M_37 : z_Mem, M_37 = z_sai M_32 a35 ((x1 : Int32).toNatClampNeg) (z_fi M_32 1536 a) → ((∃ n38 : Nat, P_X12_sends_139 a Post n38 x1 x2 x3 x4 x6 0 M_37)))))))))))))))))))))
set_option maxRecDepth 100000 in
def P_X12_sends (a : Nat) (p1 : Int32) (p2 : Int32) (p3 : Int32) (p4 : Int32) (p5 : Int32) (M : z_Mem) (Post : z_Mem → Prop) : Prop := ∀ x_40 : Int32, x_40 = (z_fi M 1606 a) → (z_nn (z_fr M 1593 a) fun a42 => (vp_in x_40 (z_ln M a42) ∧ (∀ M_44 : z_Mem, M_44 = z_sai M a42 ((x_40 : Int32).toNatClampNeg) p1 → (z_nn (z_fr M_44 1594 a) fun a47 => (vp_in x_40 (z_ln M_44 a47) ∧ (∀ M_49 : z_Mem, M_49 = z_sai M_44 a47 ((x_40 : Int32).toNatClampNeg) (z_fi M_44 1536 a) → (z_nn (z_fr M_49 1595 a) fun a51 => (vp_in x_40 (z_ln M_49 a51) ∧ (∀ M_53 : z_Mem, M_53 = z_sai M_49 a51 ((x_40 : Int32).toNatClampNeg) p2 → (z_nn (z_fr M_53 1596 a) fun a55 => (vp_in x_40 (z_ln M_53 a55) ∧ (∀ M_57 : z_Mem, M_57 = z_sai M_53 a55 ((x_40 : Int32).toNatClampNeg) p3 → (z_nn (z_fr M_57 1597 a) fun a59 => (vp_in x_40 (z_ln M_57 a59) ∧ (∀ M_61 : z_Mem, M_61 = z_sai M_57 a59 ((x_40 : Int32).toNatClampNeg) p4 → (z_nn (z_fr M_61 1600 a) fun a64 => (vp_in x_40 (z_ln M_61 a64) ∧ (∀ M_66 : z_Mem, M_66 = z_sai M_61 a64 ((x_40 : Int32).toNatClampNeg) (z_fi M_61 1584 a) → (z_nn (z_fr M_66 1601 a) fun a68 => (vp_in x_40 (z_ln M_66 a68) ∧ (∀ M_70 : z_Mem, M_70 = z_sai M_66 a68 ((x_40 : Int32).toNatClampNeg) p5 → ((((z_fi M_70 1577 a) = 1 → P_X12_sends_89 a Post p1 p2 p3 p4 x_40 (z_fr M_70 1602 a) x_40 1 M_70) ∧ (¬ (z_fi M_70 1577 a) = 1 → P_X12_sends_89 a Post p1 p2 p3 p4 x_40 (z_fr M_70 1602 a) x_40 0 M_70))))))))))))))))))))))))
set_option maxRecDepth 100000 in
set_option maxHeartbeats 4000000 in
theorem v_X12_sends_139 {G : z_G} {M0 : z_Mem} {a : Nat} {Post : z_Mem → Prop}   : ∀ (n : Nat) {x1 : Int32} {x2 : Int32} {x3 : Int32} {x4 : Int32} {x6 : Int32} {x7 : Int32} {M : z_Mem}, (z_ki M a = 13) → P_X12_sends_139 a Post n x1 x2 x3 x4 x6 x7 M → z_V G Y_X12_sends z_X0 M0 (z_QM G M0 (z_PV Post)) M 139 [(0, z_O (some a)), (1, z_I x1), (2, z_I x2), (3, z_I x3), (4, z_I x4), (6, z_I x6), (7, z_I x7)] [] := by
  intro n
  induction n with
  | zero => intro x1 x2 x3 x4 x6 x7 M ha hP; exact False.elim hP
  | succ n ih =>
    intro x1 x2 x3 x4 x6 x7 M ha hP
    unfold P_X12_sends_139 at hP
    refine z_iload dX12_sends_139 6 rfl ?_
    refine z_iload dX12_sends_141 4 rfl ?_
    refine z_icmp_ge (tgt := 171) dX12_sends_143 (by decide) (fun h1 => ?_) (fun h1 => ?_)
    · replace hP := hP.1 h1
      refine z_aload_n dX12_sends_171 rfl 0 rfl ?_
      refine z_dup dX12_sends_172 rfl ?_
      refine z_geti (c := 12) (k := 70) (g := 1606) z_cb12 (Nat.le_of_ble_eq_true rfl) (Nat.le_of_ble_eq_true rfl) rfl (Nat.le_of_ble_eq_true rfl) zw_1325 rfl ha dX12_sends_173 ?_
      refine z_iconst (v := 1) dX12_sends_176 (by decide) ?_
      refine z_pc (pc' := 177) rfl ?_
      refine z_iadd dX12_sends_177 ?_
      refine z_puti (c := 12) (k := 70) (g := 1606) z_cb12 (Nat.le_of_ble_eq_true rfl) (Nat.le_of_ble_eq_true rfl) (Nat.le_of_ble_eq_true rfl) rfl rfl rfl zw_1325 rfl ha (Or.inl rfl) dX12_sends_178 ?_
      refine z_nm (fun M_3 g_3 => ?_)
      replace hP := hP M_3 g_3
      have q_3 := z_k1 g_3
      have ha := z_kk q_3 ha
      refine z_aload_n dX12_sends_181 rfl 0 rfl ?_
      refine z_iload_n dX12_sends_182 rfl 1 rfl ?_
      refine z_iconst (v := 2) dX12_sends_183 (by decide) ?_
      refine z_iload dX12_sends_184 5 rfl ?_
      refine z_pc (pc' := 186) rfl ?_
      refine z_wts (fun hT4 _ => ?_)
      refine z_cVv (c := 12) (n := 3) (Y1 := Y_X12_puts) (st := []) rfl ha z_cb12 (Nat.le_of_ble_eq_true rfl) rfl (s_X12_puts ha hP) rfl ⟨z_dc_X12_puts, ⟨(Nat.le_of_ble_eq_true rfl), (Nat.le_of_ble_eq_true rfl)⟩, (Nat.le_of_ble_eq_true rfl)⟩ rfl zw_1610 zw_1612 zp_36 zw_12 zw_1613 dX12_sends_186 (fun M_4 hP _ x4 => ?_)
      have ha := x4.k (k := 12) hT4 ha
      exact z_retv rfl dX12_sends_189 hP
    · replace hP := hP.2 h1
      refine z_aload_n dX12_sends_146 rfl 0 rfl ?_
      refine z_getr (c := 12) (k := 56) (g := 1592) (t := 20) z_cb12 (Nat.le_of_ble_eq_true rfl) (Nat.le_of_ble_eq_true rfl) rfl rfl zw_1311 rfl ha dX12_sends_147 (fun f5 => ?_)
      refine z_sipush (v := 200) dX12_sends_150 (by decide) ?_
      refine z_iload_n dX12_sends_153 rfl 2 rfl ?_
      refine z_pc (pc' := 154) rfl ?_
      refine z_imul dX12_sends_154 ?_
      refine z_iload_n dX12_sends_155 rfl 3 rfl ?_
      refine z_iadd dX12_sends_156 ?_
      refine z_iload dX12_sends_157 6 rfl ?_
      refine z_iadd dX12_sends_159 ?_
      refine z_dup2 dX12_sends_160 rfl rfl ?_
      refine z_pc (pc' := 161) rfl ?_
      obtain ⟨a6, e6, hP⟩ := hP
      have k6 := f5 a6 e6
      obtain ⟨i7, hP⟩ := hP
      refine z_iald e6 k6 i7 dX12_sends_161 ?_
      refine z_iconst (v := 1) dX12_sends_162 (by decide) ?_
      refine z_iadd dX12_sends_163 ?_
      obtain ⟨i8, hP⟩ := hP
      refine z_iast e6 k6 i8 dX12_sends_164 ?_
      refine z_nm (fun M_9 g_9 => ?_)
      replace hP := hP M_9 g_9
      have q_9 := z_k3 g_9
      have ha := z_kk q_9 ha
      refine z_iincN (j := 6) (m := 1) (lv' := fun v => [(7, z_I v), (0, z_O _), (1, z_I _), (2, z_I _), (3, z_I _), (4, z_I _), (6, z_I _)]) dX12_sends_165 rfl (by decide) (Nat.le_of_ble_eq_true rfl) (fun _ => rfl) (fun x_10 y_10 => ?_)
      replace hP := hP x_10 y_10
      refine z_goto (tgt := 139) dX12_sends_168 (by decide) ?_
      refine z_sub (lv' := [(0, z_O _), (1, z_I _), (2, z_I _), (3, z_I _), (4, z_I _), (6, z_I _), (7, z_I _)]) [1, 2, 3, 4, 5, 6, 0] rfl ?_
      exact ih ha hP
set_option maxRecDepth 100000 in
set_option maxHeartbeats 4000000 in
theorem v_X12_sends_89 {G : z_G} {M0 : z_Mem} {a : Nat} {Post : z_Mem → Prop}   {x1 : Int32} {x2 : Int32} {x3 : Int32} {x4 : Int32} {x6 : Int32} {t0 : Option Nat} {t1 : Int32} {t2 : Int32} {M : z_Mem} (ha : z_ki M a = 13) (f_t0 : z_tr M t0 21) (f_t2 : t2 = 0 ∨ t2 = 1) (hP : P_X12_sends_89 a Post x1 x2 x3 x4 x6 t0 t1 t2 M) : z_V G Y_X12_sends z_X0 M0 (z_QM G M0 (z_PV Post)) M 89 [(0, z_O (some a)), (1, z_I x1), (2, z_I x2), (3, z_I x3), (4, z_I x4), (6, z_I x6)] [z_I t2, z_I t1, z_O t0] := by
  unfold P_X12_sends_89 at hP
  obtain ⟨a11, e11, hP⟩ := hP
  have k11 := f_t0 a11 e11
  obtain ⟨i12, hP⟩ := hP
  refine z_zast e11 k11 i12 f_t2 dX12_sends_89 ?_
  refine z_nm (fun M_13 g_13 => ?_)
  replace hP := hP M_13 g_13
  have q_13 := z_k3 g_13
  have ha := z_kk q_13 ha
  refine z_aload_n dX12_sends_90 rfl 0 rfl ?_
  refine z_getr (c := 12) (k := 68) (g := 1604) (t := 20) z_cb12 (Nat.le_of_ble_eq_true rfl) (Nat.le_of_ble_eq_true rfl) rfl rfl zw_1323 rfl ha dX12_sends_91 (fun f14 => ?_)
  refine z_iload dX12_sends_94 5 rfl ?_
  refine z_aload_n dX12_sends_96 rfl 0 rfl ?_
  refine z_getr (c := 12) (k := 80) (g := 1616) (t := 20) z_cb12 (Nat.le_of_ble_eq_true rfl) (Nat.le_of_ble_eq_true rfl) rfl rfl zw_1335 rfl ha dX12_sends_97 (fun f15 => ?_)
  refine z_pc (pc' := 100) rfl ?_
  refine z_iload_n dX12_sends_100 rfl 1 rfl ?_
  obtain ⟨a16, e16, hP⟩ := hP
  have k16 := f15 a16 e16
  obtain ⟨i17, hP⟩ := hP
  refine z_iald e16 k16 i17 dX12_sends_101 ?_
  obtain ⟨a18, e18, hP⟩ := hP
  have k18 := f14 a18 e18
  obtain ⟨i19, hP⟩ := hP
  refine z_iast e18 k18 i19 dX12_sends_102 ?_
  refine z_nm (fun M_20 g_20 => ?_)
  replace hP := hP M_20 g_20
  have q_20 := z_k3 g_20
  have ha := z_kk q_20 ha
  refine z_aload_n dX12_sends_103 rfl 0 rfl ?_
  refine z_getr (c := 12) (k := 80) (g := 1616) (t := 20) z_cb12 (Nat.le_of_ble_eq_true rfl) (Nat.le_of_ble_eq_true rfl) rfl rfl zw_1335 rfl ha dX12_sends_104 (fun f21 => ?_)
  refine z_iload_n dX12_sends_107 rfl 1 rfl ?_
  refine z_pc (pc' := 108) rfl ?_
  refine z_dup2 dX12_sends_108 rfl rfl ?_
  obtain ⟨a22, e22, hP⟩ := hP
  have k22 := f21 a22 e22
  obtain ⟨i23, hP⟩ := hP
  refine z_iald e22 k22 i23 dX12_sends_109 ?_
  refine z_iconst (v := 1) dX12_sends_110 (by decide) ?_
  refine z_iadd dX12_sends_111 ?_
  obtain ⟨i24, hP⟩ := hP
  refine z_iast e22 k22 i24 dX12_sends_112 ?_
  refine z_nm (fun M_25 g_25 => ?_)
  replace hP := hP M_25 g_25
  have q_25 := z_k3 g_25
  have ha := z_kk q_25 ha
  refine z_aload_n dX12_sends_113 rfl 0 rfl ?_
  refine z_pc (pc' := 114) rfl ?_
  refine z_getr (c := 12) (k := 69) (g := 1605) (t := 20) z_cb12 (Nat.le_of_ble_eq_true rfl) (Nat.le_of_ble_eq_true rfl) rfl rfl zw_1324 rfl ha dX12_sends_114 (fun f26 => ?_)
  refine z_iload dX12_sends_117 5 rfl ?_
  refine z_aload_n dX12_sends_119 rfl 0 rfl ?_
  refine z_getr (c := 12) (k := 84) (g := 1620) (t := 20) z_cb12 (Nat.le_of_ble_eq_true rfl) (Nat.le_of_ble_eq_true rfl) rfl rfl zw_1339 rfl ha dX12_sends_120 (fun f27 => ?_)
  refine z_iload_n dX12_sends_123 rfl 1 rfl ?_
  obtain ⟨a28, e28, hP⟩ := hP
  have k28 := f27 a28 e28
  obtain ⟨i29, hP⟩ := hP
  refine z_iald e28 k28 i29 dX12_sends_124 ?_
  refine z_pc (pc' := 125) rfl ?_
  obtain ⟨a30, e30, hP⟩ := hP
  have k30 := f26 a30 e30
  obtain ⟨i31, hP⟩ := hP
  refine z_iast e30 k30 i31 dX12_sends_125 ?_
  refine z_nm (fun M_32 g_32 => ?_)
  replace hP := hP M_32 g_32
  have q_32 := z_k3 g_32
  have ha := z_kk q_32 ha
  refine z_aload_n dX12_sends_126 rfl 0 rfl ?_
  refine z_getr (c := 12) (k := 82) (g := 1618) (t := 20) z_cb12 (Nat.le_of_ble_eq_true rfl) (Nat.le_of_ble_eq_true rfl) rfl rfl zw_1337 rfl ha dX12_sends_127 (fun f33 => ?_)
  refine z_iload_n dX12_sends_130 rfl 1 rfl ?_
  refine z_aload_n dX12_sends_131 rfl 0 rfl ?_
  refine z_geti (c := 12) (k := 0) (g := 1536) z_cb12 (Nat.le_of_ble_eq_true rfl) (Nat.le_of_ble_eq_true rfl) rfl (Nat.le_of_ble_eq_true rfl) zw_1255 rfl ha dX12_sends_132 ?_
  refine z_pc (pc' := 135) rfl ?_
  obtain ⟨a35, e35, hP⟩ := hP
  have k35 := f33 a35 e35
  obtain ⟨i36, hP⟩ := hP
  refine z_iast e35 k35 i36 dX12_sends_135 ?_
  refine z_nm (fun M_37 g_37 => ?_)
  replace hP := hP M_37 g_37
  have q_37 := z_k3 g_37
  have ha := z_kk q_37 ha
  refine z_iconst (v := 0) dX12_sends_136 (by decide) ?_
  refine z_istore (lv' := [(7, z_I _), (0, z_O _), (1, z_I _), (2, z_I _), (3, z_I _), (4, z_I _), (6, z_I _)]) dX12_sends_137 (Nat.le_of_ble_eq_true rfl) rfl ?_
  obtain ⟨n38, hP⟩ := hP
  refine z_sub (lv' := [(0, z_O _), (1, z_I _), (2, z_I _), (3, z_I _), (4, z_I _), (6, z_I _), (7, z_I _)]) [1, 2, 3, 4, 5, 6, 0] rfl ?_
  exact v_X12_sends_139  n38 ha hP
set_option maxRecDepth 100000 in
set_option maxHeartbeats 4000000 in
theorem s_X12_sends {G : z_G} {M : z_Mem} {a : Nat} {p1 : Int32} {p2 : Int32} {p3 : Int32} {p4 : Int32} {p5 : Int32} {Post : z_Mem → Prop} (ha : z_ki M a = 13) (f_p5 : p5 = 0 ∨ p5 = 1) (hP : P_X12_sends a p1 p2 p3 p4 p5 M Post) : z_Mt G Y_X12_sends M [z_O (some a), z_I p1, z_I p2, z_I p3, z_I p4, z_I p5] (z_PV Post) := by
  refine z_ofV (by decide) (Nat.le_of_ble_eq_true rfl) ?_
  unfold P_X12_sends at hP
  refine z_sub (lv' := [(0, z_O (some a)), (1, z_I p1), (2, z_I p2), (3, z_I p3), (4, z_I p4), (5, z_I p5)]) [0, 1, 2, 3, 4, 5] rfl ?_
  refine z_aload_n dX12_sends_0 rfl 0 rfl ?_
  refine z_geti (c := 12) (k := 70) (g := 1606) z_cb12 (Nat.le_of_ble_eq_true rfl) (Nat.le_of_ble_eq_true rfl) rfl (Nat.le_of_ble_eq_true rfl) zw_1325 rfl ha dX12_sends_1 ?_
  refine z_topi (fun x_40 y_40 => ?_)
  replace hP := hP x_40 y_40
  refine z_istore (lv' := [(6, z_I _), (0, z_O _), (1, z_I _), (2, z_I _), (3, z_I _), (4, z_I _), (5, z_I _)]) dX12_sends_4 (Nat.le_of_ble_eq_true rfl) rfl ?_
  refine z_aload_n dX12_sends_6 rfl 1 rfl ?_
  refine z_getr (c := 12) (k := 57) (g := 1593) (t := 20) z_cb12 (Nat.le_of_ble_eq_true rfl) (Nat.le_of_ble_eq_true rfl) rfl rfl zw_1312 rfl ha dX12_sends_7 (fun f41 => ?_)
  refine z_iload dX12_sends_10 0 rfl ?_
  refine z_pc (pc' := 12) rfl ?_
  refine z_iload_n dX12_sends_12 rfl 2 rfl ?_
  obtain ⟨a42, e42, hP⟩ := hP
  have k42 := f41 a42 e42
  obtain ⟨i43, hP⟩ := hP
  refine z_iast e42 k42 i43 dX12_sends_13 ?_
  refine z_nm (fun M_44 g_44 => ?_)
  replace hP := hP M_44 g_44
  have q_44 := z_k3 g_44
  have ha := z_kk q_44 ha
  refine z_aload_n dX12_sends_14 rfl 1 rfl ?_
  refine z_getr (c := 12) (k := 58) (g := 1594) (t := 20) z_cb12 (Nat.le_of_ble_eq_true rfl) (Nat.le_of_ble_eq_true rfl) rfl rfl zw_1313 rfl ha dX12_sends_15 (fun f45 => ?_)
  refine z_iload dX12_sends_18 0 rfl ?_
  refine z_aload_n dX12_sends_20 rfl 1 rfl ?_
  refine z_pc (pc' := 21) rfl ?_
  refine z_geti (c := 12) (k := 0) (g := 1536) z_cb12 (Nat.le_of_ble_eq_true rfl) (Nat.le_of_ble_eq_true rfl) rfl (Nat.le_of_ble_eq_true rfl) zw_1255 rfl ha dX12_sends_21 ?_
  obtain ⟨a47, e47, hP⟩ := hP
  have k47 := f45 a47 e47
  obtain ⟨i48, hP⟩ := hP
  refine z_iast e47 k47 i48 dX12_sends_24 ?_
  refine z_nm (fun M_49 g_49 => ?_)
  replace hP := hP M_49 g_49
  have q_49 := z_k3 g_49
  have ha := z_kk q_49 ha
  refine z_aload_n dX12_sends_25 rfl 1 rfl ?_
  refine z_getr (c := 12) (k := 59) (g := 1595) (t := 20) z_cb12 (Nat.le_of_ble_eq_true rfl) (Nat.le_of_ble_eq_true rfl) rfl rfl zw_1314 rfl ha dX12_sends_26 (fun f50 => ?_)
  refine z_iload dX12_sends_29 0 rfl ?_
  refine z_iload_n dX12_sends_31 rfl 3 rfl ?_
  refine z_pc (pc' := 32) rfl ?_
  obtain ⟨a51, e51, hP⟩ := hP
  have k51 := f50 a51 e51
  obtain ⟨i52, hP⟩ := hP
  refine z_iast e51 k51 i52 dX12_sends_32 ?_
  refine z_nm (fun M_53 g_53 => ?_)
  replace hP := hP M_53 g_53
  have q_53 := z_k3 g_53
  have ha := z_kk q_53 ha
  refine z_aload_n dX12_sends_33 rfl 1 rfl ?_
  refine z_getr (c := 12) (k := 60) (g := 1596) (t := 20) z_cb12 (Nat.le_of_ble_eq_true rfl) (Nat.le_of_ble_eq_true rfl) rfl rfl zw_1315 rfl ha dX12_sends_34 (fun f54 => ?_)
  refine z_iload dX12_sends_37 0 rfl ?_
  refine z_iload_n dX12_sends_39 rfl 4 rfl ?_
  obtain ⟨a55, e55, hP⟩ := hP
  have k55 := f54 a55 e55
  obtain ⟨i56, hP⟩ := hP
  refine z_iast e55 k55 i56 dX12_sends_40 ?_
  refine z_nm (fun M_57 g_57 => ?_)
  replace hP := hP M_57 g_57
  have q_57 := z_k3 g_57
  have ha := z_kk q_57 ha
  refine z_pc (pc' := 41) rfl ?_
  refine z_aload_n dX12_sends_41 rfl 1 rfl ?_
  refine z_getr (c := 12) (k := 61) (g := 1597) (t := 20) z_cb12 (Nat.le_of_ble_eq_true rfl) (Nat.le_of_ble_eq_true rfl) rfl rfl zw_1316 rfl ha dX12_sends_42 (fun f58 => ?_)
  refine z_iload dX12_sends_45 0 rfl ?_
  refine z_iload dX12_sends_47 5 rfl ?_
  obtain ⟨a59, e59, hP⟩ := hP
  have k59 := f58 a59 e59
  obtain ⟨i60, hP⟩ := hP
  refine z_iast e59 k59 i60 dX12_sends_49 ?_
  refine z_nm (fun M_61 g_61 => ?_)
  replace hP := hP M_61 g_61
  have q_61 := z_k3 g_61
  have ha := z_kk q_61 ha
  refine z_aload_n dX12_sends_50 rfl 1 rfl ?_
  refine z_pc (pc' := 51) rfl ?_
  refine z_getr (c := 12) (k := 64) (g := 1600) (t := 20) z_cb12 (Nat.le_of_ble_eq_true rfl) (Nat.le_of_ble_eq_true rfl) rfl rfl zw_1319 rfl ha dX12_sends_51 (fun f62 => ?_)
  refine z_iload dX12_sends_54 0 rfl ?_
  refine z_aload_n dX12_sends_56 rfl 1 rfl ?_
  refine z_geti (c := 12) (k := 48) (g := 1584) z_cb12 (Nat.le_of_ble_eq_true rfl) (Nat.le_of_ble_eq_true rfl) rfl (Nat.le_of_ble_eq_true rfl) zw_1303 rfl ha dX12_sends_57 ?_
  obtain ⟨a64, e64, hP⟩ := hP
  have k64 := f62 a64 e64
  obtain ⟨i65, hP⟩ := hP
  refine z_iast e64 k64 i65 dX12_sends_60 ?_
  refine z_nm (fun M_66 g_66 => ?_)
  replace hP := hP M_66 g_66
  have q_66 := z_k3 g_66
  have ha := z_kk q_66 ha
  refine z_aload_n dX12_sends_61 rfl 1 rfl ?_
  refine z_pc (pc' := 62) rfl ?_
  refine z_getr (c := 12) (k := 65) (g := 1601) (t := 21) z_cb12 (Nat.le_of_ble_eq_true rfl) (Nat.le_of_ble_eq_true rfl) rfl rfl zw_1320 rfl ha dX12_sends_62 (fun f67 => ?_)
  refine z_iload dX12_sends_65 0 rfl ?_
  refine z_iload dX12_sends_67 6 rfl ?_
  obtain ⟨a68, e68, hP⟩ := hP
  have k68 := f67 a68 e68
  obtain ⟨i69, hP⟩ := hP
  refine z_zast e68 k68 i69 f_p5 dX12_sends_69 ?_
  refine z_nm (fun M_70 g_70 => ?_)
  replace hP := hP M_70 g_70
  have q_70 := z_k3 g_70
  have ha := z_kk q_70 ha
  refine z_aload_n dX12_sends_70 rfl 1 rfl ?_
  refine z_getr (c := 12) (k := 66) (g := 1602) (t := 21) z_cb12 (Nat.le_of_ble_eq_true rfl) (Nat.le_of_ble_eq_true rfl) rfl rfl zw_1321 rfl ha dX12_sends_71 (fun f71 => ?_)
  refine z_pc (pc' := 74) rfl ?_
  refine z_iload dX12_sends_74 0 rfl ?_
  refine z_aload_n dX12_sends_76 rfl 1 rfl ?_
  refine z_geti (c := 12) (k := 41) (g := 1577) z_cb12 (Nat.le_of_ble_eq_true rfl) (Nat.le_of_ble_eq_true rfl) rfl (Nat.le_of_ble_eq_true rfl) zw_1296 rfl ha dX12_sends_77 ?_
  refine z_iconst (v := 1) dX12_sends_80 (by decide) ?_
  refine z_icmp_ne (tgt := 88) dX12_sends_81 (by decide) (fun h73 => ?_) (fun h73 => ?_)
  · replace hP := hP.2 h73
    refine z_iconst (v := 0) dX12_sends_88 (by decide) ?_
    refine z_sub (lv' := [(0, z_O _), (1, z_I _), (2, z_I _), (3, z_I _), (4, z_I _), (6, z_I _)]) [1, 2, 3, 4, 5, 0] rfl ?_
    exact v_X12_sends_89  ha f71 (Or.inl rfl) hP
  · replace hP := hP.1 h73
    refine z_iconst (v := 1) dX12_sends_84 (by decide) ?_
    refine z_goto (tgt := 89) dX12_sends_85 (by decide) ?_
    refine z_sub (lv' := [(0, z_O _), (1, z_I _), (2, z_I _), (3, z_I _), (4, z_I _), (6, z_I _)]) [1, 2, 3, 4, 5, 0] rfl ?_
    exact v_X12_sends_89  ha f71 (Or.inr rfl) hP
set_option maxRecDepth 100000 in
def P_X12_isLost (a : Nat) (p1 : Int32) (p2 : Int32) (M : z_Mem) (Post : Int32 → z_Mem → Prop) : Prop := z_nn (z_fr M 1587 a) fun a2 => (vp_in p1 (z_ln M a2) ∧ ((((z_ai M a2 ((p1 : Int32).toNatClampNeg)) ≤ p2 → Post 0 M) ∧ (¬ (z_ai M a2 ((p1 : Int32).toNatClampNeg)) ≤ p2 → z_nn (z_fr M 1591 a) fun a6 => (vp_in ((200 * p1) + p2) (z_ln M a6) ∧ ((((z_ai M a6 ((((200 * p1) + p2) : Int32).toNatClampNeg)) = 0 → z_nn (z_fr M 1592 a) fun a10 => (vp_in ((200 * p1) + p2) (z_ln M a10) ∧ ((((z_ai M a10 ((((200 * p1) + p2) : Int32).toNatClampNeg)) = 0 → Post 1 M) ∧ (¬ (z_ai M a10 ((((200 * p1) + p2) : Int32).toNatClampNeg)) = 0 → Post 0 M))))) ∧ (¬ (z_ai M a6 ((((200 * p1) + p2) : Int32).toNatClampNeg)) = 0 → Post 0 M))))))))
set_option maxRecDepth 100000 in
set_option maxHeartbeats 4000000 in
theorem s_X12_isLost {G : z_G} {M : z_Mem} {a : Nat} {p1 : Int32} {p2 : Int32} {Post : Int32 → z_Mem → Prop} (ha : z_ki M a = 13) (hP : P_X12_isLost a p1 p2 M Post) : z_Mt G Y_X12_isLost M [z_O (some a), z_I p1, z_I p2] (z_PB Post) := by
  refine z_ofV (by decide) (Nat.le_of_ble_eq_true rfl) ?_
  unfold P_X12_isLost at hP
  refine z_sub (lv' := [(0, z_O (some a)), (1, z_I p1), (2, z_I p2)]) [0, 1, 2] rfl ?_
  refine z_iload_n dX12_isLost_0 rfl 2 rfl ?_
  refine z_aload_n dX12_isLost_1 rfl 0 rfl ?_
  refine z_getr (c := 12) (k := 51) (g := 1587) (t := 20) z_cb12 (Nat.le_of_ble_eq_true rfl) (Nat.le_of_ble_eq_true rfl) rfl rfl zw_1306 rfl ha dX12_isLost_2 (fun f1 => ?_)
  refine z_iload_n dX12_isLost_5 rfl 1 rfl ?_
  obtain ⟨a2, e2, hP⟩ := hP
  have k2 := f1 a2 e2
  obtain ⟨i3, hP⟩ := hP
  refine z_iald e2 k2 i3 dX12_isLost_6 ?_
  refine z_icmp_ge (tgt := 44) dX12_isLost_7 (by decide) (fun h4 => ?_) (fun h4 => ?_)
  · replace hP := hP.1 h4
    refine z_iconst (v := 0) dX12_isLost_44 (by decide) ?_
    refine z_pc (pc' := 45) rfl ?_
    exact z_retb rfl (Or.inl rfl) dX12_isLost_45 hP
  · replace hP := hP.2 h4
    refine z_aload_n dX12_isLost_10 rfl 0 rfl ?_
    refine z_pc (pc' := 11) rfl ?_
    refine z_getr (c := 12) (k := 55) (g := 1591) (t := 21) z_cb12 (Nat.le_of_ble_eq_true rfl) (Nat.le_of_ble_eq_true rfl) rfl rfl zw_1310 rfl ha dX12_isLost_11 (fun f5 => ?_)
    refine z_sipush (v := 200) dX12_isLost_14 (by decide) ?_
    refine z_iload_n dX12_isLost_17 rfl 1 rfl ?_
    refine z_imul dX12_isLost_18 ?_
    refine z_iload_n dX12_isLost_19 rfl 2 rfl ?_
    refine z_iadd dX12_isLost_20 ?_
    refine z_pc (pc' := 21) rfl ?_
    obtain ⟨a6, e6, hP⟩ := hP
    have k6 := f5 a6 e6
    obtain ⟨i7, hP⟩ := hP
    refine z_zald e6 k6 i7 dX12_isLost_21 (fun b7 => ?_)
    refine z_if_ne (tgt := 44) dX12_isLost_22 (by decide) (fun h8 => ?_) (fun h8 => ?_)
    · replace hP := hP.2 h8
      refine z_iconst (v := 0) dX12_isLost_44 (by decide) ?_
      exact z_retb rfl (Or.inl rfl) dX12_isLost_45 hP
    · replace hP := hP.1 h8
      refine z_aload_n dX12_isLost_25 rfl 0 rfl ?_
      refine z_getr (c := 12) (k := 56) (g := 1592) (t := 20) z_cb12 (Nat.le_of_ble_eq_true rfl) (Nat.le_of_ble_eq_true rfl) rfl rfl zw_1311 rfl ha dX12_isLost_26 (fun f9 => ?_)
      refine z_sipush (v := 200) dX12_isLost_29 (by decide) ?_
      refine z_iload_n dX12_isLost_32 rfl 1 rfl ?_
      refine z_imul dX12_isLost_33 ?_
      refine z_pc (pc' := 34) rfl ?_
      refine z_iload_n dX12_isLost_34 rfl 2 rfl ?_
      refine z_iadd dX12_isLost_35 ?_
      obtain ⟨a10, e10, hP⟩ := hP
      have k10 := f9 a10 e10
      obtain ⟨i11, hP⟩ := hP
      refine z_iald e10 k10 i11 dX12_isLost_36 ?_
      refine z_if_ne (tgt := 44) dX12_isLost_37 (by decide) (fun h12 => ?_) (fun h12 => ?_)
      · replace hP := hP.2 h12
        refine z_iconst (v := 0) dX12_isLost_44 (by decide) ?_
        exact z_retb rfl (Or.inl rfl) dX12_isLost_45 hP
      · replace hP := hP.1 h12
        refine z_iconst (v := 1) dX12_isLost_40 (by decide) ?_
        refine z_goto (tgt := 45) dX12_isLost_41 (by decide) ?_
        exact z_retb rfl (Or.inr rfl) dX12_isLost_45 hP
set_option maxRecDepth 100000 in
def P_X12_firstLost_2 (a : Nat) (Post : Int32 → z_Mem → Prop)  : Nat → Int32 → Int32 → z_Mem → Prop
  | 0, _, _, _ => False
  | n + 1, x1, x2, M => z_nn (z_fr M 1587 a) fun a2 => (vp_in x1 (z_ln M a2) ∧ ((((z_ai M a2 ((x1 : Int32).toNatClampNeg)) ≤ x2 → Post (-1) M) ∧ (¬ (z_ai M a2 ((x1 : Int32).toNatClampNeg)) ≤ x2 → P_X12_isLost a x1 x2 M fun x_5 M_5 => (((x_5 = 0 → ∀ x_7 : Int32, x_7 = x2 + 1 → (P_X12_firstLost_2 a Post n x1 x_7 M_5)) ∧ (¬ x_5 = 0 → Post x2 M_5)))))))
set_option maxRecDepth 100000 in
def P_X12_firstLost (a : Nat) (p1 : Int32) (M : z_Mem) (Post : Int32 → z_Mem → Prop) : Prop := (∃ n8 : Nat, P_X12_firstLost_2 a Post n8 p1 0 M)
set_option maxRecDepth 100000 in
set_option maxHeartbeats 4000000 in
theorem v_X12_firstLost_2 {G : z_G} {M0 : z_Mem} {a : Nat} {Post : Int32 → z_Mem → Prop}   : ∀ (n : Nat) {x1 : Int32} {x2 : Int32} {M : z_Mem}, (z_ki M a = 13) → P_X12_firstLost_2 a Post n x1 x2 M → z_V G Y_X12_firstLost z_X0 M0 (z_QM G M0 (z_PI Post)) M 2 [(0, z_O (some a)), (1, z_I x1), (2, z_I x2)] [] := by
  intro n
  induction n with
  | zero => intro x1 x2 M ha hP; exact False.elim hP
  | succ n ih =>
    intro x1 x2 M ha hP
    unfold P_X12_firstLost_2 at hP
    refine z_iload_n dX12_firstLost_2 rfl 2 rfl ?_
    refine z_aload_n dX12_firstLost_3 rfl 0 rfl ?_
    refine z_getr (c := 12) (k := 51) (g := 1587) (t := 20) z_cb12 (Nat.le_of_ble_eq_true rfl) (Nat.le_of_ble_eq_true rfl) rfl rfl zw_1306 rfl ha dX12_firstLost_4 (fun f1 => ?_)
    refine z_iload_n dX12_firstLost_7 rfl 1 rfl ?_
    obtain ⟨a2, e2, hP⟩ := hP
    have k2 := f1 a2 e2
    obtain ⟨i3, hP⟩ := hP
    refine z_iald e2 k2 i3 dX12_firstLost_8 ?_
    refine z_icmp_ge (tgt := 29) dX12_firstLost_9 (by decide) (fun h4 => ?_) (fun h4 => ?_)
    · replace hP := hP.1 h4
      refine z_iconst (v := (-1)) dX12_firstLost_29 (by decide) ?_
      refine z_pc (pc' := 30) rfl ?_
      exact z_reti rfl dX12_firstLost_30 hP
    · replace hP := hP.2 h4
      refine z_aload_n dX12_firstLost_12 rfl 0 rfl ?_
      refine z_pc (pc' := 13) rfl ?_
      refine z_iload_n dX12_firstLost_13 rfl 1 rfl ?_
      refine z_iload_n dX12_firstLost_14 rfl 2 rfl ?_
      refine z_wts (fun hT5 _ => ?_)
      refine z_cVb (c := 12) (n := 2) (Y1 := Y_X12_isLost) (st := []) rfl ha z_cb12 (Nat.le_of_ble_eq_true rfl) rfl (s_X12_isLost ha hP) rfl ⟨z_dc_X12_isLost, ⟨(Nat.le_of_ble_eq_true rfl), (Nat.le_of_ble_eq_true rfl)⟩, (Nat.le_of_ble_eq_true rfl)⟩ rfl zw_1750 zw_1752 zp_62 zw_12 zw_1753 dX12_firstLost_15 (fun x_5 M_5 b5 hP _ x5 => ?_)
      have ha := x5.k (k := 12) hT5 ha
      refine z_if_eq (tgt := 23) dX12_firstLost_18 (by decide) (fun h6 => ?_) (fun h6 => ?_)
      · replace hP := hP.1 h6
        refine z_iincN (j := 2) (m := 1) (lv' := fun v => [(2, z_I v), (0, z_O _), (1, z_I _)]) dX12_firstLost_23 rfl (by decide) (Nat.le_of_ble_eq_true rfl) (fun _ => rfl) (fun x_7 y_7 => ?_)
        replace hP := hP x_7 y_7
        refine z_goto (tgt := 2) dX12_firstLost_26 (by decide) ?_
        refine z_sub (lv' := [(0, z_O _), (1, z_I _), (2, z_I _)]) [1, 2, 0] rfl ?_
        exact ih ha hP
      · replace hP := hP.2 h6
        refine z_iload_n dX12_firstLost_21 rfl 2 rfl ?_
        exact z_reti rfl dX12_firstLost_22 hP
set_option maxRecDepth 100000 in
set_option maxHeartbeats 4000000 in
theorem s_X12_firstLost {G : z_G} {M : z_Mem} {a : Nat} {p1 : Int32} {Post : Int32 → z_Mem → Prop} (ha : z_ki M a = 13) (hP : P_X12_firstLost a p1 M Post) : z_Mt G Y_X12_firstLost M [z_O (some a), z_I p1] (z_PI Post) := by
  refine z_ofV (by decide) (Nat.le_of_ble_eq_true rfl) ?_
  unfold P_X12_firstLost at hP
  refine z_sub (lv' := [(0, z_O (some a)), (1, z_I p1)]) [0, 1] rfl ?_
  refine z_iconst (v := 0) dX12_firstLost_0 (by decide) ?_
  refine z_istore_n (lv' := [(2, z_I _), (0, z_O _), (1, z_I _)]) dX12_firstLost_1 rfl (Nat.le_of_ble_eq_true rfl) rfl ?_
  obtain ⟨n8, hP⟩ := hP
  refine z_sub (lv' := [(0, z_O _), (1, z_I _), (2, z_I _)]) [1, 2, 0] rfl ?_
  exact v_X12_firstLost_2  n8 ha hP
set_option maxRecDepth 100000 in
def P_X12_sentInAll (a : Nat) (M : z_Mem) (Post : Int32 → z_Mem → Prop) : Prop := z_nn (z_fr M 1587 a) fun a2 => (vp_in 0 (z_ln M a2) ∧ (z_nn (z_fr M 1587 a) fun a5 => (vp_in 1 (z_ln M a5) ∧ (z_nn (z_fr M 1587 a) fun a8 => (vp_in 2 (z_ln M a8) ∧ (z_nn (z_fr M 1587 a) fun a11 => (vp_in 3 (z_ln M a11) ∧ (Post ((((z_ai M a2 ((0 : Int32).toNatClampNeg)) + (z_ai M a5 ((1 : Int32).toNatClampNeg))) + (z_ai M a8 ((2 : Int32).toNatClampNeg))) + (z_ai M a11 ((3 : Int32).toNatClampNeg))) M))))))))
set_option maxRecDepth 100000 in
set_option maxHeartbeats 4000000 in
theorem s_X12_sentInAll {G : z_G} {M : z_Mem} {a : Nat} {Post : Int32 → z_Mem → Prop} (ha : z_ki M a = 13) (hP : P_X12_sentInAll a M Post) : z_Mt G Y_X12_sentInAll M [z_O (some a)] (z_PI Post) := by
  refine z_ofV (by decide) (Nat.le_of_ble_eq_true rfl) ?_
  unfold P_X12_sentInAll at hP
  refine z_sub (lv' := [(0, z_O (some a))]) [0] rfl ?_
  refine z_aload_n dX12_sentInAll_0 rfl 0 rfl ?_
  refine z_getr (c := 12) (k := 51) (g := 1587) (t := 20) z_cb12 (Nat.le_of_ble_eq_true rfl) (Nat.le_of_ble_eq_true rfl) rfl rfl zw_1306 rfl ha dX12_sentInAll_1 (fun f1 => ?_)
  refine z_iconst (v := 0) dX12_sentInAll_4 (by decide) ?_
  obtain ⟨a2, e2, hP⟩ := hP
  have k2 := f1 a2 e2
  obtain ⟨i3, hP⟩ := hP
  refine z_iald e2 k2 i3 dX12_sentInAll_5 ?_
  refine z_aload_n dX12_sentInAll_6 rfl 0 rfl ?_
  refine z_getr (c := 12) (k := 51) (g := 1587) (t := 20) z_cb12 (Nat.le_of_ble_eq_true rfl) (Nat.le_of_ble_eq_true rfl) rfl rfl zw_1306 rfl ha dX12_sentInAll_7 (fun f4 => ?_)
  refine z_pc (pc' := 10) rfl ?_
  refine z_iconst (v := 1) dX12_sentInAll_10 (by decide) ?_
  obtain ⟨a5, e5, hP⟩ := hP
  have k5 := f4 a5 e5
  obtain ⟨i6, hP⟩ := hP
  refine z_iald e5 k5 i6 dX12_sentInAll_11 ?_
  refine z_iadd dX12_sentInAll_12 ?_
  refine z_aload_n dX12_sentInAll_13 rfl 0 rfl ?_
  refine z_getr (c := 12) (k := 51) (g := 1587) (t := 20) z_cb12 (Nat.le_of_ble_eq_true rfl) (Nat.le_of_ble_eq_true rfl) rfl rfl zw_1306 rfl ha dX12_sentInAll_14 (fun f7 => ?_)
  refine z_iconst (v := 2) dX12_sentInAll_17 (by decide) ?_
  refine z_pc (pc' := 18) rfl ?_
  obtain ⟨a8, e8, hP⟩ := hP
  have k8 := f7 a8 e8
  obtain ⟨i9, hP⟩ := hP
  refine z_iald e8 k8 i9 dX12_sentInAll_18 ?_
  refine z_iadd dX12_sentInAll_19 ?_
  refine z_aload_n dX12_sentInAll_20 rfl 0 rfl ?_
  refine z_getr (c := 12) (k := 51) (g := 1587) (t := 20) z_cb12 (Nat.le_of_ble_eq_true rfl) (Nat.le_of_ble_eq_true rfl) rfl rfl zw_1306 rfl ha dX12_sentInAll_21 (fun f10 => ?_)
  refine z_iconst (v := 3) dX12_sentInAll_24 (by decide) ?_
  obtain ⟨a11, e11, hP⟩ := hP
  have k11 := f10 a11 e11
  obtain ⟨i12, hP⟩ := hP
  refine z_iald e11 k11 i12 dX12_sentInAll_25 ?_
  refine z_pc (pc' := 26) rfl ?_
  refine z_iadd dX12_sentInAll_26 ?_
  exact z_reti rfl dX12_sentInAll_27 hP
def P_X12_newOf_49 (a : Nat) (Post : Int32 → z_Mem → Prop)  (x4 : Int32) (t0 : Int32) (M : z_Mem) : Prop := ((x4 ≤ t0 → ((x4 ≤ 10 → Post x4 M) ∧ (¬ x4 ≤ 10 → Post 10 M))) ∧ (¬ x4 ≤ t0 → ((t0 ≤ 10 → Post t0 M) ∧ (¬ t0 ≤ 10 → Post 10 M))))
set_option maxRecDepth 100000 in
def P_X12_newOf (a : Nat) (p1 : Int32) (M : z_Mem) (Post : Int32 → z_Mem → Prop) : Prop := z_nn (z_fr M 1586 a) fun a5 => (vp_in p1 (z_ln M a5) ∧ (z_nn (z_fr M 1587 a) fun a8 => (vp_in p1 (z_ln M a8) ∧ (∀ x_10 : Int32, x_10 = ((z_ai M a5 ((p1 : Int32).toNatClampNeg)) - (z_ai M a8 ((p1 : Int32).toNatClampNeg))) → (z_nn (z_fr M 1588 a) fun a12 => (vp_in p1 (z_ln M a12) ∧ (z_nn (z_fr M 1587 a) fun a15 => (vp_in p1 (z_ln M a15) ∧ (∀ x_17 : Int32, x_17 = ((z_ai M a12 ((p1 : Int32).toNatClampNeg)) - (z_ai M a15 ((p1 : Int32).toNatClampNeg))) → (P_X12_sentInAll a M fun x_19 M_19 => (∀ x_20 : Int32, x_20 = ((z_fi M 1589 a) - x_19) → (((x_17 ≤ x_10 → P_X12_newOf_49 a Post x_20 x_17 M_19) ∧ (¬ x_17 ≤ x_10 → P_X12_newOf_49 a Post x_20 x_10 M_19))))))))))))))
set_option maxRecDepth 100000 in
set_option maxHeartbeats 4000000 in
theorem v_X12_newOf_49 {G : z_G} {M0 : z_Mem} {a : Nat} {Post : Int32 → z_Mem → Prop}   {x4 : Int32} {t0 : Int32} {M : z_Mem} (ha : z_ki M a = 13) (hP : P_X12_newOf_49 a Post x4 t0 M) : z_V G Y_X12_newOf z_X0 M0 (z_QM G M0 (z_PI Post)) M 49 [(4, z_I x4)] [z_I t0] := by
  unfold P_X12_newOf_49 at hP
  refine z_istore_n (lv' := [(2, z_I _), (4, z_I _)]) dX12_newOf_49 rfl (Nat.le_of_ble_eq_true rfl) rfl ?_
  refine z_iload_n dX12_newOf_50 rfl 0 rfl ?_
  refine z_iload dX12_newOf_51 1 rfl ?_
  refine z_icmp_ge (tgt := 60) dX12_newOf_53 (by decide) (fun h1 => ?_) (fun h1 => ?_)
  · replace hP := hP.1 h1
    refine z_iload dX12_newOf_60 1 rfl ?_
    refine z_istore_n (lv' := [(2, z_I _), (4, z_I _)]) dX12_newOf_62 rfl (Nat.le_of_ble_eq_true rfl) rfl ?_
    refine z_iload_n dX12_newOf_63 rfl 0 rfl ?_
    refine z_pc (pc' := 64) rfl ?_
    refine z_bipush (v := 10) dX12_newOf_64 (by decide) ?_
    refine z_icmp_le (tgt := 74) dX12_newOf_66 (by decide) (fun h2 => ?_) (fun h2 => ?_)
    · replace hP := hP.1 h2
      refine z_iload_n dX12_newOf_74 rfl 0 rfl ?_
      exact z_reti rfl dX12_newOf_75 hP
    · replace hP := hP.2 h2
      refine z_bipush (v := 10) dX12_newOf_69 (by decide) ?_
      refine z_goto (tgt := 75) dX12_newOf_71 (by decide) ?_
      exact z_reti rfl dX12_newOf_75 hP
  · replace hP := hP.2 h1
    refine z_iload_n dX12_newOf_56 rfl 0 rfl ?_
    refine z_goto (tgt := 62) dX12_newOf_57 (by decide) ?_
    refine z_istore_n (lv' := [(2, z_I _), (4, z_I _)]) dX12_newOf_62 rfl (Nat.le_of_ble_eq_true rfl) rfl ?_
    refine z_iload_n dX12_newOf_63 rfl 0 rfl ?_
    refine z_pc (pc' := 64) rfl ?_
    refine z_bipush (v := 10) dX12_newOf_64 (by decide) ?_
    refine z_icmp_le (tgt := 74) dX12_newOf_66 (by decide) (fun h3 => ?_) (fun h3 => ?_)
    · replace hP := hP.1 h3
      refine z_iload_n dX12_newOf_74 rfl 0 rfl ?_
      exact z_reti rfl dX12_newOf_75 hP
    · replace hP := hP.2 h3
      refine z_bipush (v := 10) dX12_newOf_69 (by decide) ?_
      refine z_goto (tgt := 75) dX12_newOf_71 (by decide) ?_
      exact z_reti rfl dX12_newOf_75 hP
set_option maxRecDepth 100000 in
set_option maxHeartbeats 4000000 in
theorem s_X12_newOf {G : z_G} {M : z_Mem} {a : Nat} {p1 : Int32} {Post : Int32 → z_Mem → Prop} (ha : z_ki M a = 13) (hP : P_X12_newOf a p1 M Post) : z_Mt G Y_X12_newOf M [z_O (some a), z_I p1] (z_PI Post) := by
  refine z_ofV (by decide) (Nat.le_of_ble_eq_true rfl) ?_
  unfold P_X12_newOf at hP
  refine z_sub (lv' := [(0, z_O (some a)), (1, z_I p1)]) [0, 1] rfl ?_
  refine z_aload_n dX12_newOf_0 rfl 0 rfl ?_
  refine z_getr (c := 12) (k := 50) (g := 1586) (t := 20) z_cb12 (Nat.le_of_ble_eq_true rfl) (Nat.le_of_ble_eq_true rfl) rfl rfl zw_1305 rfl ha dX12_newOf_1 (fun f4 => ?_)
  refine z_iload_n dX12_newOf_4 rfl 1 rfl ?_
  obtain ⟨a5, e5, hP⟩ := hP
  have k5 := f4 a5 e5
  obtain ⟨i6, hP⟩ := hP
  refine z_iald e5 k5 i6 dX12_newOf_5 ?_
  refine z_aload_n dX12_newOf_6 rfl 0 rfl ?_
  refine z_getr (c := 12) (k := 51) (g := 1587) (t := 20) z_cb12 (Nat.le_of_ble_eq_true rfl) (Nat.le_of_ble_eq_true rfl) rfl rfl zw_1306 rfl ha dX12_newOf_7 (fun f7 => ?_)
  refine z_pc (pc' := 10) rfl ?_
  refine z_iload_n dX12_newOf_10 rfl 1 rfl ?_
  obtain ⟨a8, e8, hP⟩ := hP
  have k8 := f7 a8 e8
  obtain ⟨i9, hP⟩ := hP
  refine z_iald e8 k8 i9 dX12_newOf_11 ?_
  refine z_isub dX12_newOf_12 ?_
  refine z_topi (fun x_10 y_10 => ?_)
  replace hP := hP x_10 y_10
  refine z_istore_n (lv' := [(2, z_I _), (0, z_O _), (1, z_I _)]) dX12_newOf_13 rfl (Nat.le_of_ble_eq_true rfl) rfl ?_
  refine z_aload_n dX12_newOf_14 rfl 1 rfl ?_
  refine z_getr (c := 12) (k := 52) (g := 1588) (t := 20) z_cb12 (Nat.le_of_ble_eq_true rfl) (Nat.le_of_ble_eq_true rfl) rfl rfl zw_1307 rfl ha dX12_newOf_15 (fun f11 => ?_)
  refine z_pc (pc' := 18) rfl ?_
  refine z_iload_n dX12_newOf_18 rfl 2 rfl ?_
  obtain ⟨a12, e12, hP⟩ := hP
  have k12 := f11 a12 e12
  obtain ⟨i13, hP⟩ := hP
  refine z_iald e12 k12 i13 dX12_newOf_19 ?_
  refine z_aload_n dX12_newOf_20 rfl 1 rfl ?_
  refine z_getr (c := 12) (k := 51) (g := 1587) (t := 20) z_cb12 (Nat.le_of_ble_eq_true rfl) (Nat.le_of_ble_eq_true rfl) rfl rfl zw_1306 rfl ha dX12_newOf_21 (fun f14 => ?_)
  refine z_iload_n dX12_newOf_24 rfl 2 rfl ?_
  obtain ⟨a15, e15, hP⟩ := hP
  have k15 := f14 a15 e15
  obtain ⟨i16, hP⟩ := hP
  refine z_iald e15 k15 i16 dX12_newOf_25 ?_
  refine z_pc (pc' := 26) rfl ?_
  refine z_isub dX12_newOf_26 ?_
  refine z_topi (fun x_17 y_17 => ?_)
  replace hP := hP x_17 y_17
  refine z_istore_n (lv' := [(3, z_I _), (2, z_I _), (0, z_O _), (1, z_I _)]) dX12_newOf_27 rfl (Nat.le_of_ble_eq_true rfl) rfl ?_
  refine z_aload_n dX12_newOf_28 rfl 2 rfl ?_
  refine z_geti (c := 12) (k := 53) (g := 1589) z_cb12 (Nat.le_of_ble_eq_true rfl) (Nat.le_of_ble_eq_true rfl) rfl (Nat.le_of_ble_eq_true rfl) zw_1308 rfl ha dX12_newOf_29 ?_
  refine z_aload_n dX12_newOf_32 rfl 2 rfl ?_
  refine z_wts (fun hT19 _ => ?_)
  refine z_cVi (c := 12) (n := 0) (Y1 := Y_X12_sentInAll) (st := [z_I _]) rfl ha z_cb12 (Nat.le_of_ble_eq_true rfl) rfl (s_X12_sentInAll ha hP) rfl ⟨z_dc_X12_sentInAll, ⟨(Nat.le_of_ble_eq_true rfl), (Nat.le_of_ble_eq_true rfl)⟩, (Nat.le_of_ble_eq_true rfl)⟩ rfl zw_1758 zw_1760 zp_64 zw_12 zw_1761 dX12_newOf_33 (fun x_19 M_19 hP _ x19 => ?_)
  have ha := x19.k (k := 12) hT19 ha
  refine z_pc (pc' := 36) rfl ?_
  refine z_isub dX12_newOf_36 ?_
  refine z_topi (fun x_20 y_20 => ?_)
  replace hP := hP x_20 y_20
  refine z_istore (lv' := [(4, z_I _), (3, z_I _), (2, z_I _), (0, z_O _), (1, z_I _)]) dX12_newOf_37 (Nat.le_of_ble_eq_true rfl) rfl ?_
  refine z_iload_n dX12_newOf_39 rfl 2 rfl ?_
  refine z_iload_n dX12_newOf_40 rfl 1 rfl ?_
  refine z_icmp_ge (tgt := 48) dX12_newOf_41 (by decide) (fun h21 => ?_) (fun h21 => ?_)
  · replace hP := hP.1 h21
    refine z_iload_n dX12_newOf_48 rfl 1 rfl ?_
    refine z_sub (lv' := [(4, z_I _)]) [0] rfl ?_
    exact v_X12_newOf_49  ha hP
  · replace hP := hP.2 h21
    refine z_iload_n dX12_newOf_44 rfl 2 rfl ?_
    refine z_goto (tgt := 49) dX12_newOf_45 (by decide) ?_
    refine z_sub (lv' := [(4, z_I _)]) [0] rfl ?_
    exact v_X12_newOf_49  ha hP
def P_X12_canTake_52 (a : Nat) (Post : Int32 → z_Mem → Prop)  (x1 : Int32) (x3 : Int32) (M : z_Mem) : Prop := P_X12_inFlight a x1 M fun x_1 M_1 => (z_nn (z_fr M_1 1607 a) fun a3 => (vp_in x1 (z_ln M_1 a3) ∧ ((((z_ai M_1 a3 ((x1 : Int32).toNatClampNeg)) < (16 * (x_1 + 1)) → Post 0 M_1) ∧ (¬ (z_ai M_1 a3 ((x1 : Int32).toNatClampNeg)) < (16 * (x_1 + 1)) → z_nn (z_fr M_1 1628 a) fun a7 => (vp_in x1 (z_ln M_1 a7) ∧ (((x3 ≤ (z_ai M_1 a7 ((x1 : Int32).toNatClampNeg)) → Post 0 M_1) ∧ (¬ x3 ≤ (z_ai M_1 a7 ((x1 : Int32).toNatClampNeg)) → Post 1 M_1)))))))))
set_option maxRecDepth 100000 in
def P_X12_canTake (a : Nat) (p1 : Int32) (M : z_Mem) (Post : Int32 → z_Mem → Prop) : Prop := z_nn (z_fr M 1610 a) fun a11 => (vp_in p1 (z_ln M a11) ∧ (P_X12_max 1 ((z_ai M a11 ((p1 : Int32).toNatClampNeg)) / 8) M fun x_13 M_13 => (z_nn (z_fr M_13 1607 a) fun a15 => (vp_in p1 (z_ln M_13 a15) ∧ (¬ x_13 = 0 ∧ (P_X12_max 2 ((((((z_ai M_13 a15 ((p1 : Int32).toNatClampNeg)) / 16) * 2) + x_13) - 1) / x_13) M_13 fun x_18 M_18 => ((((z_fi M_18 1583 a) = 2 → P_X12_canTake_52 a Post p1 x_18 M_18) ∧ (¬ (z_fi M_18 1583 a) = 2 → (((z_fi M_18 1583 a) = p1 → P_X12_canTake_52 a Post p1 x_18 M_18) ∧ (¬ (z_fi M_18 1583 a) = p1 → Post 0 M_18)))))))))))
set_option maxRecDepth 100000 in
set_option maxHeartbeats 4000000 in
theorem v_X12_canTake_52 {G : z_G} {M0 : z_Mem} {a : Nat} {Post : Int32 → z_Mem → Prop}   {x1 : Int32} {x3 : Int32} {M : z_Mem} (ha : z_ki M a = 13) (hP : P_X12_canTake_52 a Post x1 x3 M) : z_V G Y_X12_canTake z_X0 M0 (z_QM G M0 (z_PB Post)) M 52 [(0, z_O (some a)), (1, z_I x1), (3, z_I x3)] [] := by
  unfold P_X12_canTake_52 at hP
  refine z_bipush (v := 16) dX12_canTake_52 (by decide) ?_
  refine z_aload_n dX12_canTake_54 rfl 0 rfl ?_
  refine z_iload_n dX12_canTake_55 rfl 1 rfl ?_
  refine z_wts (fun hT1 _ => ?_)
  refine z_cVi (c := 12) (n := 1) (Y1 := Y_X12_inFlight) (st := [z_I _]) rfl ha z_cb12 (Nat.le_of_ble_eq_true rfl) rfl (s_X12_inFlight ha hP) rfl ⟨z_dc_X12_inFlight, ⟨(Nat.le_of_ble_eq_true rfl), (Nat.le_of_ble_eq_true rfl)⟩, (Nat.le_of_ble_eq_true rfl)⟩ rfl zw_1738 zw_1740 zp_59 zw_12 zw_1741 dX12_canTake_56 (fun x_1 M_1 hP _ x1 => ?_)
  have ha := x1.k (k := 12) hT1 ha
  refine z_iconst (v := 1) dX12_canTake_59 (by decide) ?_
  refine z_iadd dX12_canTake_60 ?_
  refine z_pc (pc' := 61) rfl ?_
  refine z_imul dX12_canTake_61 ?_
  refine z_aload_n dX12_canTake_62 rfl 0 rfl ?_
  refine z_getr (c := 12) (k := 71) (g := 1607) (t := 20) z_cb12 (Nat.le_of_ble_eq_true rfl) (Nat.le_of_ble_eq_true rfl) rfl rfl zw_1326 rfl ha dX12_canTake_63 (fun f2 => ?_)
  refine z_iload_n dX12_canTake_66 rfl 1 rfl ?_
  obtain ⟨a3, e3, hP⟩ := hP
  have k3 := f2 a3 e3
  obtain ⟨i4, hP⟩ := hP
  refine z_iald e3 k3 i4 dX12_canTake_67 ?_
  refine z_icmp_gt (tgt := 85) dX12_canTake_68 (by decide) (fun h5 => ?_) (fun h5 => ?_)
  · replace hP := hP.1 h5
    refine z_iconst (v := 0) dX12_canTake_85 (by decide) ?_
    refine z_pc (pc' := 86) rfl ?_
    exact z_retb rfl (Or.inl rfl) dX12_canTake_86 hP
  · replace hP := hP.2 h5
    refine z_aload_n dX12_canTake_71 rfl 0 rfl ?_
    refine z_pc (pc' := 72) rfl ?_
    refine z_getr (c := 12) (k := 92) (g := 1628) (t := 20) z_cb12 (Nat.le_of_ble_eq_true rfl) (Nat.le_of_ble_eq_true rfl) rfl rfl zw_1347 rfl ha dX12_canTake_72 (fun f6 => ?_)
    refine z_iload_n dX12_canTake_75 rfl 1 rfl ?_
    obtain ⟨a7, e7, hP⟩ := hP
    have k7 := f6 a7 e7
    obtain ⟨i8, hP⟩ := hP
    refine z_iald e7 k7 i8 dX12_canTake_76 ?_
    refine z_iload_n dX12_canTake_77 rfl 2 rfl ?_
    refine z_icmp_ge (tgt := 85) dX12_canTake_78 (by decide) (fun h9 => ?_) (fun h9 => ?_)
    · replace hP := hP.1 h9
      refine z_iconst (v := 0) dX12_canTake_85 (by decide) ?_
      exact z_retb rfl (Or.inl rfl) dX12_canTake_86 hP
    · replace hP := hP.2 h9
      refine z_iconst (v := 1) dX12_canTake_81 (by decide) ?_
      refine z_goto (tgt := 86) dX12_canTake_82 (by decide) ?_
      exact z_retb rfl (Or.inr rfl) dX12_canTake_86 hP
set_option maxRecDepth 100000 in
set_option maxHeartbeats 4000000 in
theorem s_X12_canTake {G : z_G} {M : z_Mem} {a : Nat} {p1 : Int32} {Post : Int32 → z_Mem → Prop} (ha : z_ki M a = 13) (hP : P_X12_canTake a p1 M Post) : z_Mt G Y_X12_canTake M [z_O (some a), z_I p1] (z_PB Post) := by
  refine z_ofV (by decide) (Nat.le_of_ble_eq_true rfl) ?_
  unfold P_X12_canTake at hP
  refine z_sub (lv' := [(0, z_O (some a)), (1, z_I p1)]) [0, 1] rfl ?_
  refine z_iconst (v := 1) dX12_canTake_0 (by decide) ?_
  refine z_aload_n dX12_canTake_1 rfl 0 rfl ?_
  refine z_getr (c := 12) (k := 74) (g := 1610) (t := 20) z_cb12 (Nat.le_of_ble_eq_true rfl) (Nat.le_of_ble_eq_true rfl) rfl rfl zw_1329 rfl ha dX12_canTake_2 (fun f10 => ?_)
  refine z_iload_n dX12_canTake_5 rfl 1 rfl ?_
  obtain ⟨a11, e11, hP⟩ := hP
  have k11 := f10 a11 e11
  obtain ⟨i12, hP⟩ := hP
  refine z_iald e11 k11 i12 dX12_canTake_6 ?_
  refine z_bipush (v := 8) dX12_canTake_7 (by decide) ?_
  refine z_pc (pc' := 9) rfl ?_
  refine z_idiv dX12_canTake_9 (by decide) ?_
  refine z_wts (fun hT13 _ => ?_)
  refine z_cSi (n := 2) (Y1 := Y_X12_max) (st := []) rfl (s_X12_max  hP) rfl ⟨z_dc_X12_max, ⟨(Nat.le_of_ble_eq_true rfl), (Nat.le_of_ble_eq_true rfl)⟩, (Nat.le_of_ble_eq_true rfl)⟩ rfl zw_1662 zw_1663 zw_12 zw_1664 dX12_canTake_10 (fun x_13 M_13 hP _ x13 => ?_)
  have ha := x13.k (k := 12) hT13 ha
  refine z_istore_n (lv' := [(2, z_I _), (0, z_O _), (1, z_I _)]) dX12_canTake_13 rfl (Nat.le_of_ble_eq_true rfl) rfl ?_
  refine z_iconst (v := 2) dX12_canTake_14 (by decide) ?_
  refine z_aload_n dX12_canTake_15 rfl 1 rfl ?_
  refine z_getr (c := 12) (k := 71) (g := 1607) (t := 20) z_cb12 (Nat.le_of_ble_eq_true rfl) (Nat.le_of_ble_eq_true rfl) rfl rfl zw_1326 rfl ha dX12_canTake_16 (fun f14 => ?_)
  refine z_pc (pc' := 19) rfl ?_
  refine z_iload_n dX12_canTake_19 rfl 2 rfl ?_
  obtain ⟨a15, e15, hP⟩ := hP
  have k15 := f14 a15 e15
  obtain ⟨i16, hP⟩ := hP
  refine z_iald e15 k15 i16 dX12_canTake_20 ?_
  refine z_bipush (v := 16) dX12_canTake_21 (by decide) ?_
  refine z_idiv dX12_canTake_23 (by decide) ?_
  refine z_iconst (v := 2) dX12_canTake_24 (by decide) ?_
  refine z_imul dX12_canTake_25 ?_
  refine z_pc (pc' := 26) rfl ?_
  refine z_iload_n dX12_canTake_26 rfl 0 rfl ?_
  refine z_iadd dX12_canTake_27 ?_
  refine z_iconst (v := 1) dX12_canTake_28 (by decide) ?_
  refine z_isub dX12_canTake_29 ?_
  refine z_iload_n dX12_canTake_30 rfl 0 rfl ?_
  obtain ⟨z17, hP⟩ := hP
  refine z_idiv dX12_canTake_31 z17 ?_
  refine z_pc (pc' := 32) rfl ?_
  refine z_wts (fun hT18 _ => ?_)
  refine z_cSi (n := 2) (Y1 := Y_X12_max) (st := []) rfl (s_X12_max  hP) rfl ⟨z_dc_X12_max, ⟨(Nat.le_of_ble_eq_true rfl), (Nat.le_of_ble_eq_true rfl)⟩, (Nat.le_of_ble_eq_true rfl)⟩ rfl zw_1662 zw_1663 zw_12 zw_1664 dX12_canTake_32 (fun x_18 M_18 hP _ x18 => ?_)
  have ha := x18.k (k := 12) hT18 ha
  refine z_istore_n (lv' := [(3, z_I _), (2, z_I _), (0, z_O _), (1, z_I _)]) dX12_canTake_35 rfl (Nat.le_of_ble_eq_true rfl) rfl ?_
  refine z_aload_n dX12_canTake_36 rfl 2 rfl ?_
  refine z_geti (c := 12) (k := 47) (g := 1583) z_cb12 (Nat.le_of_ble_eq_true rfl) (Nat.le_of_ble_eq_true rfl) rfl (Nat.le_of_ble_eq_true rfl) zw_1302 rfl ha dX12_canTake_37 ?_
  refine z_iconst (v := 2) dX12_canTake_40 (by decide) ?_
  refine z_icmp_eq (tgt := 52) dX12_canTake_41 (by decide) (fun h20 => ?_) (fun h20 => ?_)
  · replace hP := hP.1 h20
    refine z_sub (lv' := [(0, z_O _), (1, z_I _), (3, z_I _)]) [2, 3, 0] rfl ?_
    exact v_X12_canTake_52  ha hP
  · replace hP := hP.2 h20
    refine z_aload_n dX12_canTake_44 rfl 2 rfl ?_
    refine z_pc (pc' := 45) rfl ?_
    refine z_geti (c := 12) (k := 47) (g := 1583) z_cb12 (Nat.le_of_ble_eq_true rfl) (Nat.le_of_ble_eq_true rfl) rfl (Nat.le_of_ble_eq_true rfl) zw_1302 rfl ha dX12_canTake_45 ?_
    refine z_iload_n dX12_canTake_48 rfl 3 rfl ?_
    refine z_icmp_ne (tgt := 85) dX12_canTake_49 (by decide) (fun h22 => ?_) (fun h22 => ?_)
    · replace hP := hP.2 h22
      refine z_iconst (v := 0) dX12_canTake_85 (by decide) ?_
      exact z_retb rfl (Or.inl rfl) dX12_canTake_86 hP
    · replace hP := hP.1 h22
      refine z_sub (lv' := [(0, z_O _), (1, z_I _), (3, z_I _)]) [2, 3, 0] rfl ?_
      exact v_X12_canTake_52  ha hP
set_option maxRecDepth 100000 in
def P_X12_nextPath (a : Nat) (M : z_Mem) (Post : Int32 → z_Mem → Prop) : Prop := P_X12_canTake a 0 M fun x_1 M_1 => (P_X12_canTake a 1 M_1 fun x_2 M_2 => (((x_1 = 0 → ((x_1 = 0 → ((x_2 = 0 → Post (-1) M_2) ∧ (¬ x_2 = 0 → Post 1 M_2))) ∧ (¬ x_1 = 0 → Post 0 M_2))) ∧ (¬ x_1 = 0 → ((x_2 = 0 → ((x_1 = 0 → ((x_2 = 0 → Post (-1) M_2) ∧ (¬ x_2 = 0 → Post 1 M_2))) ∧ (¬ x_1 = 0 → Post 0 M_2))) ∧ (¬ x_2 = 0 → P_X12_inFlight a 1 M_2 fun x_9 M_9 => (P_X12_inFlight a 0 M_9 fun x_10 M_10 => (((x_10 ≤ x_9 → Post 0 M_10) ∧ (¬ x_10 ≤ x_9 → Post 1 M_10))))))))))
set_option maxRecDepth 100000 in
set_option maxHeartbeats 4000000 in
theorem s_X12_nextPath {G : z_G} {M : z_Mem} {a : Nat} {Post : Int32 → z_Mem → Prop} (ha : z_ki M a = 13) (hP : P_X12_nextPath a M Post) : z_Mt G Y_X12_nextPath M [z_O (some a)] (z_PI Post) := by
  refine z_ofV (by decide) (Nat.le_of_ble_eq_true rfl) ?_
  unfold P_X12_nextPath at hP
  refine z_sub (lv' := [(0, z_O (some a))]) [0] rfl ?_
  refine z_aload_n dX12_nextPath_0 rfl 0 rfl ?_
  refine z_iconst (v := 0) dX12_nextPath_1 (by decide) ?_
  refine z_wts (fun hT1 _ => ?_)
  refine z_cVb (c := 12) (n := 1) (Y1 := Y_X12_canTake) (st := []) rfl ha z_cb12 (Nat.le_of_ble_eq_true rfl) rfl (s_X12_canTake ha hP) rfl ⟨z_dc_X12_canTake, ⟨(Nat.le_of_ble_eq_true rfl), (Nat.le_of_ble_eq_true rfl)⟩, (Nat.le_of_ble_eq_true rfl)⟩ rfl zw_1734 zw_1736 zp_58 zw_12 zw_1737 dX12_nextPath_2 (fun x_1 M_1 b1 hP _ x1 => ?_)
  have ha := x1.k (k := 12) hT1 ha
  refine z_istore_n (lv' := [(1, z_I _), (0, z_O _)]) dX12_nextPath_5 rfl (Nat.le_of_ble_eq_true rfl) rfl ?_
  refine z_aload_n dX12_nextPath_6 rfl 1 rfl ?_
  refine z_iconst (v := 1) dX12_nextPath_7 (by decide) ?_
  refine z_pc (pc' := 8) rfl ?_
  refine z_wts (fun hT2 _ => ?_)
  refine z_cVb (c := 12) (n := 1) (Y1 := Y_X12_canTake) (st := []) rfl ha z_cb12 (Nat.le_of_ble_eq_true rfl) rfl (s_X12_canTake ha hP) rfl ⟨z_dc_X12_canTake, ⟨(Nat.le_of_ble_eq_true rfl), (Nat.le_of_ble_eq_true rfl)⟩, (Nat.le_of_ble_eq_true rfl)⟩ rfl zw_1734 zw_1736 zp_58 zw_12 zw_1737 dX12_nextPath_8 (fun x_2 M_2 b2 hP _ x2 => ?_)
  have ha := x2.k (k := 12) hT2 ha
  refine z_istore_n (lv' := [(2, z_I _), (1, z_I _), (0, z_O _)]) dX12_nextPath_11 rfl (Nat.le_of_ble_eq_true rfl) rfl ?_
  refine z_iload_n dX12_nextPath_12 rfl 1 rfl ?_
  refine z_if_eq (tgt := 41) dX12_nextPath_13 (by decide) (fun h3 => ?_) (fun h3 => ?_)
  · replace hP := hP.1 h3
    refine z_iload_n dX12_nextPath_41 rfl 1 rfl ?_
    refine z_if_eq (tgt := 49) dX12_nextPath_42 (by decide) (fun h4 => ?_) (fun h4 => ?_)
    · replace hP := hP.1 h4
      refine z_iload_n dX12_nextPath_49 rfl 0 rfl ?_
      refine z_if_eq (tgt := 57) dX12_nextPath_50 (by decide) (fun h5 => ?_) (fun h5 => ?_)
      · replace hP := hP.1 h5
        refine z_iconst (v := (-1)) dX12_nextPath_57 (by decide) ?_
        refine z_pc (pc' := 58) rfl ?_
        exact z_reti rfl dX12_nextPath_58 hP
      · replace hP := hP.2 h5
        refine z_iconst (v := 1) dX12_nextPath_53 (by decide) ?_
        refine z_pc (pc' := 54) rfl ?_
        refine z_goto (tgt := 58) dX12_nextPath_54 (by decide) ?_
        exact z_reti rfl dX12_nextPath_58 hP
    · replace hP := hP.2 h4
      refine z_iconst (v := 0) dX12_nextPath_45 (by decide) ?_
      refine z_goto (tgt := 58) dX12_nextPath_46 (by decide) ?_
      exact z_reti rfl dX12_nextPath_58 hP
  · replace hP := hP.2 h3
    refine z_iload_n dX12_nextPath_16 rfl 0 rfl ?_
    refine z_if_eq (tgt := 41) dX12_nextPath_17 (by decide) (fun h6 => ?_) (fun h6 => ?_)
    · replace hP := hP.1 h6
      refine z_iload_n dX12_nextPath_41 rfl 1 rfl ?_
      refine z_if_eq (tgt := 49) dX12_nextPath_42 (by decide) (fun h7 => ?_) (fun h7 => ?_)
      · replace hP := hP.1 h7
        refine z_iload_n dX12_nextPath_49 rfl 0 rfl ?_
        refine z_pc (pc' := 50) rfl ?_
        refine z_if_eq (tgt := 57) dX12_nextPath_50 (by decide) (fun h8 => ?_) (fun h8 => ?_)
        · replace hP := hP.1 h8
          refine z_iconst (v := (-1)) dX12_nextPath_57 (by decide) ?_
          exact z_reti rfl dX12_nextPath_58 hP
        · replace hP := hP.2 h8
          refine z_iconst (v := 1) dX12_nextPath_53 (by decide) ?_
          refine z_goto (tgt := 58) dX12_nextPath_54 (by decide) ?_
          exact z_reti rfl dX12_nextPath_58 hP
      · replace hP := hP.2 h7
        refine z_iconst (v := 0) dX12_nextPath_45 (by decide) ?_
        refine z_pc (pc' := 46) rfl ?_
        refine z_goto (tgt := 58) dX12_nextPath_46 (by decide) ?_
        exact z_reti rfl dX12_nextPath_58 hP
    · replace hP := hP.2 h6
      refine z_aload_n dX12_nextPath_20 rfl 2 rfl ?_
      refine z_iconst (v := 1) dX12_nextPath_21 (by decide) ?_
      refine z_pc (pc' := 22) rfl ?_
      refine z_wts (fun hT9 _ => ?_)
      refine z_cVi (c := 12) (n := 1) (Y1 := Y_X12_inFlight) (st := []) rfl ha z_cb12 (Nat.le_of_ble_eq_true rfl) rfl (s_X12_inFlight ha hP) rfl ⟨z_dc_X12_inFlight, ⟨(Nat.le_of_ble_eq_true rfl), (Nat.le_of_ble_eq_true rfl)⟩, (Nat.le_of_ble_eq_true rfl)⟩ rfl zw_1738 zw_1740 zp_59 zw_12 zw_1741 dX12_nextPath_22 (fun x_9 M_9 hP _ x9 => ?_)
      have ha := x9.k (k := 12) hT9 ha
      refine z_aload_n dX12_nextPath_25 rfl 2 rfl ?_
      refine z_iconst (v := 0) dX12_nextPath_26 (by decide) ?_
      refine z_wts (fun hT10 _ => ?_)
      refine z_cVi (c := 12) (n := 1) (Y1 := Y_X12_inFlight) (st := [z_I _]) rfl ha z_cb12 (Nat.le_of_ble_eq_true rfl) rfl (s_X12_inFlight ha hP) rfl ⟨z_dc_X12_inFlight, ⟨(Nat.le_of_ble_eq_true rfl), (Nat.le_of_ble_eq_true rfl)⟩, (Nat.le_of_ble_eq_true rfl)⟩ rfl zw_1738 zw_1740 zp_59 zw_12 zw_1741 dX12_nextPath_27 (fun x_10 M_10 hP _ x10 => ?_)
      have ha := x10.k (k := 12) hT10 ha
      refine z_icmp_ge (tgt := 37) dX12_nextPath_30 (by decide) (fun h11 => ?_) (fun h11 => ?_)
      · replace hP := hP.1 h11
        refine z_iconst (v := 0) dX12_nextPath_37 (by decide) ?_
        refine z_goto (tgt := 58) dX12_nextPath_38 (by decide) ?_
        exact z_reti rfl dX12_nextPath_58 hP
      · replace hP := hP.2 h11
        refine z_iconst (v := 1) dX12_nextPath_33 (by decide) ?_
        refine z_goto (tgt := 58) dX12_nextPath_34 (by decide) ?_
        exact z_reti rfl dX12_nextPath_58 hP
set_option maxRecDepth 100000 in
def P_X12_sendsNext_21 (a : Nat) (Post : Int32 → z_Mem → Prop)  : Nat → Int32 → Int32 → Int32 → Int32 → z_Mem → Prop
  | 0, _, _, _, _, _ => False
  | n + 1, x1, x2, x3, x4, M => ((10 ≤ x4 → P_X12_sends a x1 x2 x3 x4 0 M fun M_2 => (Post 1 M_2)) ∧ (¬ 10 ≤ x4 → ((200 ≤ (x3 + x4) → P_X12_sends a x1 x2 x3 x4 0 M fun M_4 => (Post 1 M_4)) ∧ (¬ 200 ≤ (x3 + x4) → P_X12_isLost a x2 (x3 + x4) M fun x_5 M_5 => (((x_5 = 0 → P_X12_sends a x1 x2 x3 x4 0 M_5 fun M_7 => (Post 1 M_7)) ∧ (¬ x_5 = 0 → ∀ x_8 : Int32, x_8 = x4 + 1 → (P_X12_sendsNext_21 a Post n x1 x2 x3 x_8 M_5))))))))
set_option maxRecDepth 100000 in
def P_X12_sendsNext_76 (a : Nat) (Post : Int32 → z_Mem → Prop)  : Nat → Int32 → Int32 → z_Mem → Prop
  | 0, _, _, _ => False
  | n + 1, x1, x2, M => ((4 < x2 → Post 0 M) ∧ (¬ 4 < x2 → ∀ x_11 : Int32, x_11 = (((z_fi M 1590 a) + x2) - ((z_fi M 1590 a) + x2) / 4 * 4) → (P_X12_newOf a x_11 M fun x_12 M_12 => (((x_12 ≤ 0 → ∀ x_14 : Int32, x_14 = x2 + 1 → (P_X12_sendsNext_76 a Post n x1 x_14 M_12)) ∧ (¬ x_12 ≤ 0 → z_nn (z_fr M_12 1587 a) fun a16 => (vp_in x_11 (z_ln M_12 a16) ∧ (vp_in x_11 (z_ln M_12 a16) ∧ (∀ M_19 : z_Mem, M_19 = z_sai M_12 a16 ((x_11 : Int32).toNatClampNeg) ((z_ai M_12 a16 ((x_11 : Int32).toNatClampNeg)) + x_12) → (∀ M_20 : z_Mem, M_20 = z_sfi M_19 1590 a x_11 → (z_nn (z_fr M_20 1587 a) fun a22 => (vp_in x_11 (z_ln M_20 a22) ∧ (P_X12_sends a x1 x_11 ((z_ai M_20 a22 ((x_11 : Int32).toNatClampNeg)) - x_12) x_12 0 M_20 fun M_24 => (Post 1 M_24))))))))))))))
set_option maxRecDepth 100000 in
def P_X12_sendsNext_2 (a : Nat) (Post : Int32 → z_Mem → Prop)  : Nat → Int32 → Int32 → z_Mem → Prop
  | 0, _, _, _ => False
  | n + 1, x1, x2, M => ((4 ≤ x2 → (∃ n26 : Nat, P_X12_sendsNext_76 a Post n26 x1 1 M)) ∧ (¬ 4 ≤ x2 → P_X12_firstLost a x2 M fun x_27 M_27 => (((x_27 = (-1) → ∀ x_29 : Int32, x_29 = x2 + 1 → (P_X12_sendsNext_2 a Post n x1 x_29 M_27)) ∧ (¬ x_27 = (-1) → (∃ n30 : Nat, P_X12_sendsNext_21 a Post n30 x1 x2 x_27 1 M_27))))))
set_option maxRecDepth 100000 in
def P_X12_sendsNext (a : Nat) (p1 : Int32) (M : z_Mem) (Post : Int32 → z_Mem → Prop) : Prop := (∃ n31 : Nat, P_X12_sendsNext_2 a Post n31 p1 0 M)
set_option maxRecDepth 100000 in
set_option maxHeartbeats 4000000 in
theorem v_X12_sendsNext_21 {G : z_G} {M0 : z_Mem} {a : Nat} {Post : Int32 → z_Mem → Prop}   : ∀ (n : Nat) {x1 : Int32} {x2 : Int32} {x3 : Int32} {x4 : Int32} {M : z_Mem}, (z_ki M a = 13) → P_X12_sendsNext_21 a Post n x1 x2 x3 x4 M → z_V G Y_X12_sendsNext z_X0 M0 (z_QM G M0 (z_PB Post)) M 21 [(0, z_O (some a)), (1, z_I x1), (2, z_I x2), (3, z_I x3), (4, z_I x4)] [] := by
  intro n
  induction n with
  | zero => intro x1 x2 x3 x4 M ha hP; exact False.elim hP
  | succ n ih =>
    intro x1 x2 x3 x4 M ha hP
    unfold P_X12_sendsNext_21 at hP
    refine z_iload dX12_sendsNext_21 4 rfl ?_
    refine z_bipush (v := 10) dX12_sendsNext_23 (by decide) ?_
    refine z_icmp_ge (tgt := 56) dX12_sendsNext_25 (by decide) (fun h1 => ?_) (fun h1 => ?_)
    · replace hP := hP.1 h1
      refine z_aload_n dX12_sendsNext_56 rfl 0 rfl ?_
      refine z_iload_n dX12_sendsNext_57 rfl 1 rfl ?_
      refine z_iload_n dX12_sendsNext_58 rfl 2 rfl ?_
      refine z_iload_n dX12_sendsNext_59 rfl 3 rfl ?_
      refine z_pc (pc' := 60) rfl ?_
      refine z_iload dX12_sendsNext_60 4 rfl ?_
      refine z_iconst (v := 0) dX12_sendsNext_62 (by decide) ?_
      refine z_wts (fun hT2 _ => ?_)
      refine z_cVv (c := 12) (n := 5) (Y1 := Y_X12_sends) (st := []) rfl ha z_cb12 (Nat.le_of_ble_eq_true rfl) rfl (s_X12_sends ha (Or.inl rfl) hP) rfl ⟨z_dc_X12_sends, ⟨(Nat.le_of_ble_eq_true rfl), (Nat.le_of_ble_eq_true rfl)⟩, (Nat.le_of_ble_eq_true rfl)⟩ rfl zw_1722 zw_1724 zp_55 zw_12 zw_1725 dX12_sendsNext_63 (fun M_2 hP _ x2 => ?_)
      have ha := x2.k (k := 12) hT2 ha
      refine z_iconst (v := 1) dX12_sendsNext_66 (by decide) ?_
      exact z_retb rfl (Or.inr rfl) dX12_sendsNext_67 hP
    · replace hP := hP.2 h1
      refine z_iload_n dX12_sendsNext_28 rfl 3 rfl ?_
      refine z_iload dX12_sendsNext_29 4 rfl ?_
      refine z_iadd dX12_sendsNext_31 ?_
      refine z_sipush (v := 200) dX12_sendsNext_32 (by decide) ?_
      refine z_pc (pc' := 35) rfl ?_
      refine z_icmp_ge (tgt := 56) dX12_sendsNext_35 (by decide) (fun h3 => ?_) (fun h3 => ?_)
      · replace hP := hP.1 h3
        refine z_aload_n dX12_sendsNext_56 rfl 0 rfl ?_
        refine z_iload_n dX12_sendsNext_57 rfl 1 rfl ?_
        refine z_iload_n dX12_sendsNext_58 rfl 2 rfl ?_
        refine z_iload_n dX12_sendsNext_59 rfl 3 rfl ?_
        refine z_iload dX12_sendsNext_60 4 rfl ?_
        refine z_iconst (v := 0) dX12_sendsNext_62 (by decide) ?_
        refine z_pc (pc' := 63) rfl ?_
        refine z_wts (fun hT4 _ => ?_)
        refine z_cVv (c := 12) (n := 5) (Y1 := Y_X12_sends) (st := []) rfl ha z_cb12 (Nat.le_of_ble_eq_true rfl) rfl (s_X12_sends ha (Or.inl rfl) hP) rfl ⟨z_dc_X12_sends, ⟨(Nat.le_of_ble_eq_true rfl), (Nat.le_of_ble_eq_true rfl)⟩, (Nat.le_of_ble_eq_true rfl)⟩ rfl zw_1722 zw_1724 zp_55 zw_12 zw_1725 dX12_sendsNext_63 (fun M_4 hP _ x4 => ?_)
        have ha := x4.k (k := 12) hT4 ha
        refine z_iconst (v := 1) dX12_sendsNext_66 (by decide) ?_
        exact z_retb rfl (Or.inr rfl) dX12_sendsNext_67 hP
      · replace hP := hP.2 h3
        refine z_aload_n dX12_sendsNext_38 rfl 0 rfl ?_
        refine z_iload_n dX12_sendsNext_39 rfl 2 rfl ?_
        refine z_iload_n dX12_sendsNext_40 rfl 3 rfl ?_
        refine z_iload dX12_sendsNext_41 4 rfl ?_
        refine z_iadd dX12_sendsNext_43 ?_
        refine z_wts (fun hT5 _ => ?_)
        refine z_cVb (c := 12) (n := 2) (Y1 := Y_X12_isLost) (st := []) rfl ha z_cb12 (Nat.le_of_ble_eq_true rfl) rfl (s_X12_isLost ha hP) rfl ⟨z_dc_X12_isLost, ⟨(Nat.le_of_ble_eq_true rfl), (Nat.le_of_ble_eq_true rfl)⟩, (Nat.le_of_ble_eq_true rfl)⟩ rfl zw_1750 zw_1752 zp_62 zw_12 zw_1753 dX12_sendsNext_44 (fun x_5 M_5 b5 hP _ x5 => ?_)
        have ha := x5.k (k := 12) hT5 ha
        refine z_pc (pc' := 47) rfl ?_
        refine z_if_eq (tgt := 56) dX12_sendsNext_47 (by decide) (fun h6 => ?_) (fun h6 => ?_)
        · replace hP := hP.1 h6
          refine z_aload_n dX12_sendsNext_56 rfl 0 rfl ?_
          refine z_iload_n dX12_sendsNext_57 rfl 1 rfl ?_
          refine z_iload_n dX12_sendsNext_58 rfl 2 rfl ?_
          refine z_iload_n dX12_sendsNext_59 rfl 3 rfl ?_
          refine z_iload dX12_sendsNext_60 4 rfl ?_
          refine z_iconst (v := 0) dX12_sendsNext_62 (by decide) ?_
          refine z_pc (pc' := 63) rfl ?_
          refine z_wts (fun hT7 _ => ?_)
          refine z_cVv (c := 12) (n := 5) (Y1 := Y_X12_sends) (st := []) rfl ha z_cb12 (Nat.le_of_ble_eq_true rfl) rfl (s_X12_sends ha (Or.inl rfl) hP) rfl ⟨z_dc_X12_sends, ⟨(Nat.le_of_ble_eq_true rfl), (Nat.le_of_ble_eq_true rfl)⟩, (Nat.le_of_ble_eq_true rfl)⟩ rfl zw_1722 zw_1724 zp_55 zw_12 zw_1725 dX12_sendsNext_63 (fun M_7 hP _ x7 => ?_)
          have ha := x7.k (k := 12) hT7 ha
          refine z_iconst (v := 1) dX12_sendsNext_66 (by decide) ?_
          exact z_retb rfl (Or.inr rfl) dX12_sendsNext_67 hP
        · replace hP := hP.2 h6
          refine z_iincN (j := 4) (m := 1) (lv' := fun v => [(4, z_I v), (0, z_O _), (1, z_I _), (2, z_I _), (3, z_I _)]) dX12_sendsNext_50 rfl (by decide) (Nat.le_of_ble_eq_true rfl) (fun _ => rfl) (fun x_8 y_8 => ?_)
          replace hP := hP x_8 y_8
          refine z_goto (tgt := 21) dX12_sendsNext_53 (by decide) ?_
          refine z_sub (lv' := [(0, z_O _), (1, z_I _), (2, z_I _), (3, z_I _), (4, z_I _)]) [1, 2, 3, 4, 0] rfl ?_
          exact ih ha hP
set_option maxRecDepth 100000 in
set_option maxHeartbeats 4000000 in
theorem v_X12_sendsNext_76 {G : z_G} {M0 : z_Mem} {a : Nat} {Post : Int32 → z_Mem → Prop}   : ∀ (n : Nat) {x1 : Int32} {x2 : Int32} {M : z_Mem}, (z_ki M a = 13) → P_X12_sendsNext_76 a Post n x1 x2 M → z_V G Y_X12_sendsNext z_X0 M0 (z_QM G M0 (z_PB Post)) M 76 [(0, z_O (some a)), (1, z_I x1), (2, z_I x2)] [] := by
  intro n
  induction n with
  | zero => intro x1 x2 M ha hP; exact False.elim hP
  | succ n ih =>
    intro x1 x2 M ha hP
    unfold P_X12_sendsNext_76 at hP
    refine z_iload_n dX12_sendsNext_76 rfl 2 rfl ?_
    refine z_iconst (v := 4) dX12_sendsNext_77 (by decide) ?_
    refine z_icmp_gt (tgt := 144) dX12_sendsNext_78 (by decide) (fun h9 => ?_) (fun h9 => ?_)
    · replace hP := hP.1 h9
      refine z_iconst (v := 0) dX12_sendsNext_144 (by decide) ?_
      exact z_retb rfl (Or.inl rfl) dX12_sendsNext_145 hP
    · replace hP := hP.2 h9
      refine z_aload_n dX12_sendsNext_81 rfl 0 rfl ?_
      refine z_geti (c := 12) (k := 54) (g := 1590) z_cb12 (Nat.le_of_ble_eq_true rfl) (Nat.le_of_ble_eq_true rfl) rfl (Nat.le_of_ble_eq_true rfl) zw_1309 rfl ha dX12_sendsNext_82 ?_
      refine z_iload_n dX12_sendsNext_85 rfl 2 rfl ?_
      refine z_iadd dX12_sendsNext_86 ?_
      refine z_pc (pc' := 87) rfl ?_
      refine z_iconst (v := 4) dX12_sendsNext_87 (by decide) ?_
      refine z_irem dX12_sendsNext_88 (by decide) ?_
      refine z_topi (fun x_11 y_11 => ?_)
      replace hP := hP x_11 y_11
      refine z_istore_n (lv' := [(3, z_I _), (0, z_O _), (1, z_I _), (2, z_I _)]) dX12_sendsNext_89 rfl (Nat.le_of_ble_eq_true rfl) rfl ?_
      refine z_aload_n dX12_sendsNext_90 rfl 1 rfl ?_
      refine z_iload_n dX12_sendsNext_91 rfl 0 rfl ?_
      refine z_wts (fun hT12 _ => ?_)
      refine z_cVi (c := 12) (n := 1) (Y1 := Y_X12_newOf) (st := []) rfl ha z_cb12 (Nat.le_of_ble_eq_true rfl) rfl (s_X12_newOf ha hP) rfl ⟨z_dc_X12_newOf, ⟨(Nat.le_of_ble_eq_true rfl), (Nat.le_of_ble_eq_true rfl)⟩, (Nat.le_of_ble_eq_true rfl)⟩ rfl zw_1754 zw_1756 zp_63 zw_12 zw_1757 dX12_sendsNext_92 (fun x_12 M_12 hP _ x12 => ?_)
      have ha := x12.k (k := 12) hT12 ha
      refine z_pc (pc' := 95) rfl ?_
      refine z_istore (lv' := [(4, z_I _), (3, z_I _), (0, z_O _), (1, z_I _), (2, z_I _)]) dX12_sendsNext_95 (Nat.le_of_ble_eq_true rfl) rfl ?_
      refine z_iload dX12_sendsNext_97 0 rfl ?_
      refine z_if_le (tgt := 138) dX12_sendsNext_99 (by decide) (fun h13 => ?_) (fun h13 => ?_)
      · replace hP := hP.1 h13
        refine z_iincN (j := 4) (m := 1) (lv' := fun v => [(2, z_I v), (4, z_I _), (3, z_I _), (0, z_O _), (1, z_I _)]) dX12_sendsNext_138 rfl (by decide) (Nat.le_of_ble_eq_true rfl) (fun _ => rfl) (fun x_14 y_14 => ?_)
        replace hP := hP x_14 y_14
        refine z_goto (tgt := 76) dX12_sendsNext_141 (by decide) ?_
        refine z_sub (lv' := [(0, z_O _), (1, z_I _), (2, z_I _)]) [3, 4, 0] rfl ?_
        exact ih ha hP
      · replace hP := hP.2 h13
        refine z_aload_n dX12_sendsNext_102 rfl 2 rfl ?_
        refine z_getr (c := 12) (k := 51) (g := 1587) (t := 20) z_cb12 (Nat.le_of_ble_eq_true rfl) (Nat.le_of_ble_eq_true rfl) rfl rfl zw_1306 rfl ha dX12_sendsNext_103 (fun f15 => ?_)
        refine z_iload_n dX12_sendsNext_106 rfl 1 rfl ?_
        refine z_dup2 dX12_sendsNext_107 rfl rfl ?_
        refine z_pc (pc' := 108) rfl ?_
        obtain ⟨a16, e16, hP⟩ := hP
        have k16 := f15 a16 e16
        obtain ⟨i17, hP⟩ := hP
        refine z_iald e16 k16 i17 dX12_sendsNext_108 ?_
        refine z_iload dX12_sendsNext_109 0 rfl ?_
        refine z_iadd dX12_sendsNext_111 ?_
        obtain ⟨i18, hP⟩ := hP
        refine z_iast e16 k16 i18 dX12_sendsNext_112 ?_
        refine z_nm (fun M_19 g_19 => ?_)
        replace hP := hP M_19 g_19
        have q_19 := z_k3 g_19
        have ha := z_kk q_19 ha
        refine z_aload_n dX12_sendsNext_113 rfl 2 rfl ?_
        refine z_iload_n dX12_sendsNext_114 rfl 1 rfl ?_
        refine z_pc (pc' := 115) rfl ?_
        refine z_puti (c := 12) (k := 54) (g := 1590) z_cb12 (Nat.le_of_ble_eq_true rfl) (Nat.le_of_ble_eq_true rfl) (Nat.le_of_ble_eq_true rfl) rfl rfl rfl zw_1309 rfl ha (Or.inl rfl) dX12_sendsNext_115 ?_
        refine z_nm (fun M_20 g_20 => ?_)
        replace hP := hP M_20 g_20
        have q_20 := z_k1 g_20
        have ha := z_kk q_20 ha
        refine z_aload_n dX12_sendsNext_118 rfl 2 rfl ?_
        refine z_iload_n dX12_sendsNext_119 rfl 3 rfl ?_
        refine z_iload_n dX12_sendsNext_120 rfl 1 rfl ?_
        refine z_aload_n dX12_sendsNext_121 rfl 2 rfl ?_
        refine z_getr (c := 12) (k := 51) (g := 1587) (t := 20) z_cb12 (Nat.le_of_ble_eq_true rfl) (Nat.le_of_ble_eq_true rfl) rfl rfl zw_1306 rfl ha dX12_sendsNext_122 (fun f21 => ?_)
        refine z_pc (pc' := 125) rfl ?_
        refine z_iload_n dX12_sendsNext_125 rfl 1 rfl ?_
        obtain ⟨a22, e22, hP⟩ := hP
        have k22 := f21 a22 e22
        obtain ⟨i23, hP⟩ := hP
        refine z_iald e22 k22 i23 dX12_sendsNext_126 ?_
        refine z_iload dX12_sendsNext_127 0 rfl ?_
        refine z_isub dX12_sendsNext_129 ?_
        refine z_iload dX12_sendsNext_130 0 rfl ?_
        refine z_iconst (v := 0) dX12_sendsNext_132 (by decide) ?_
        refine z_pc (pc' := 133) rfl ?_
        refine z_wts (fun hT24 _ => ?_)
        refine z_cVv (c := 12) (n := 5) (Y1 := Y_X12_sends) (st := []) rfl ha z_cb12 (Nat.le_of_ble_eq_true rfl) rfl (s_X12_sends ha (Or.inl rfl) hP) rfl ⟨z_dc_X12_sends, ⟨(Nat.le_of_ble_eq_true rfl), (Nat.le_of_ble_eq_true rfl)⟩, (Nat.le_of_ble_eq_true rfl)⟩ rfl zw_1722 zw_1724 zp_55 zw_12 zw_1725 dX12_sendsNext_133 (fun M_24 hP _ x24 => ?_)
        have ha := x24.k (k := 12) hT24 ha
        refine z_iconst (v := 1) dX12_sendsNext_136 (by decide) ?_
        exact z_retb rfl (Or.inr rfl) dX12_sendsNext_137 hP
set_option maxRecDepth 100000 in
set_option maxHeartbeats 4000000 in
theorem v_X12_sendsNext_2 {G : z_G} {M0 : z_Mem} {a : Nat} {Post : Int32 → z_Mem → Prop}   : ∀ (n : Nat) {x1 : Int32} {x2 : Int32} {M : z_Mem}, (z_ki M a = 13) → P_X12_sendsNext_2 a Post n x1 x2 M → z_V G Y_X12_sendsNext z_X0 M0 (z_QM G M0 (z_PB Post)) M 2 [(0, z_O (some a)), (1, z_I x1), (2, z_I x2)] [] := by
  intro n
  induction n with
  | zero => intro x1 x2 M ha hP; exact False.elim hP
  | succ n ih =>
    intro x1 x2 M ha hP
    unfold P_X12_sendsNext_2 at hP
    refine z_iload_n dX12_sendsNext_2 rfl 2 rfl ?_
    refine z_iconst (v := 4) dX12_sendsNext_3 (by decide) ?_
    refine z_icmp_ge (tgt := 74) dX12_sendsNext_4 (by decide) (fun h25 => ?_) (fun h25 => ?_)
    · replace hP := hP.1 h25
      refine z_iconst (v := 1) dX12_sendsNext_74 (by decide) ?_
      refine z_istore_n (lv' := [(2, z_I _), (0, z_O _), (1, z_I _)]) dX12_sendsNext_75 rfl (Nat.le_of_ble_eq_true rfl) rfl ?_
      obtain ⟨n26, hP⟩ := hP
      refine z_sub (lv' := [(0, z_O _), (1, z_I _), (2, z_I _)]) [1, 2, 0] rfl ?_
      exact v_X12_sendsNext_76  n26 ha hP
    · replace hP := hP.2 h25
      refine z_aload_n dX12_sendsNext_7 rfl 0 rfl ?_
      refine z_iload_n dX12_sendsNext_8 rfl 2 rfl ?_
      refine z_wts (fun hT27 _ => ?_)
      refine z_cVi (c := 12) (n := 1) (Y1 := Y_X12_firstLost) (st := []) rfl ha z_cb12 (Nat.le_of_ble_eq_true rfl) rfl (s_X12_firstLost ha hP) rfl ⟨z_dc_X12_firstLost, ⟨(Nat.le_of_ble_eq_true rfl), (Nat.le_of_ble_eq_true rfl)⟩, (Nat.le_of_ble_eq_true rfl)⟩ rfl zw_1746 zw_1748 zp_61 zw_12 zw_1749 dX12_sendsNext_9 (fun x_27 M_27 hP _ x27 => ?_)
      have ha := x27.k (k := 12) hT27 ha
      refine z_istore_n (lv' := [(3, z_I _), (0, z_O _), (1, z_I _), (2, z_I _)]) dX12_sendsNext_12 rfl (Nat.le_of_ble_eq_true rfl) rfl ?_
      refine z_pc (pc' := 13) rfl ?_
      refine z_iload_n dX12_sendsNext_13 rfl 0 rfl ?_
      refine z_iconst (v := (-1)) dX12_sendsNext_14 (by decide) ?_
      refine z_icmp_eq (tgt := 68) dX12_sendsNext_15 (by decide) (fun h28 => ?_) (fun h28 => ?_)
      · replace hP := hP.1 h28
        refine z_iincN (j := 3) (m := 1) (lv' := fun v => [(2, z_I v), (3, z_I _), (0, z_O _), (1, z_I _)]) dX12_sendsNext_68 rfl (by decide) (Nat.le_of_ble_eq_true rfl) (fun _ => rfl) (fun x_29 y_29 => ?_)
        replace hP := hP x_29 y_29
        refine z_goto (tgt := 2) dX12_sendsNext_71 (by decide) ?_
        refine z_sub (lv' := [(0, z_O _), (1, z_I _), (2, z_I _)]) [2, 3, 0] rfl ?_
        exact ih ha hP
      · replace hP := hP.2 h28
        refine z_iconst (v := 1) dX12_sendsNext_18 (by decide) ?_
        refine z_istore (lv' := [(4, z_I _), (3, z_I _), (0, z_O _), (1, z_I _), (2, z_I _)]) dX12_sendsNext_19 (Nat.le_of_ble_eq_true rfl) rfl ?_
        obtain ⟨n30, hP⟩ := hP
        refine z_sub (lv' := [(0, z_O _), (1, z_I _), (2, z_I _), (3, z_I _), (4, z_I _)]) [2, 3, 4, 1, 0] rfl ?_
        exact v_X12_sendsNext_21  n30 ha hP
set_option maxRecDepth 100000 in
set_option maxHeartbeats 4000000 in
theorem s_X12_sendsNext {G : z_G} {M : z_Mem} {a : Nat} {p1 : Int32} {Post : Int32 → z_Mem → Prop} (ha : z_ki M a = 13) (hP : P_X12_sendsNext a p1 M Post) : z_Mt G Y_X12_sendsNext M [z_O (some a), z_I p1] (z_PB Post) := by
  refine z_ofV (by decide) (Nat.le_of_ble_eq_true rfl) ?_
  unfold P_X12_sendsNext at hP
  refine z_sub (lv' := [(0, z_O (some a)), (1, z_I p1)]) [0, 1] rfl ?_
  refine z_iconst (v := 0) dX12_sendsNext_0 (by decide) ?_
  refine z_istore_n (lv' := [(2, z_I _), (0, z_O _), (1, z_I _)]) dX12_sendsNext_1 rfl (Nat.le_of_ble_eq_true rfl) rfl ?_
  obtain ⟨n31, hP⟩ := hP
  refine z_sub (lv' := [(0, z_O _), (1, z_I _), (2, z_I _)]) [1, 2, 0] rfl ?_
  exact v_X12_sendsNext_2  n31 ha hP
def P_X12_sendsAll_100 (a : Nat) (Post : z_Mem → Prop) (J44 : Int32 → z_Mem → Prop) (x1 : Int32) (M : z_Mem) : Prop := J44 x1 M
def P_X12_sendsAll_85 (a : Nat) (Post : z_Mem → Prop) (J44 : Int32 → z_Mem → Prop) (x2 : Int32) (t0 : Int32) (M : z_Mem) : Prop := ((t0 = 0 → P_X12_sendsAll_100 a Post J44 t0 M) ∧ (¬ t0 = 0 → z_nn (z_fr M 1628 a) fun a3 => (vp_in x2 (z_ln M a3) ∧ (vp_in x2 (z_ln M a3) ∧ (∀ M_6 : z_Mem, M_6 = z_sai M a3 ((x2 : Int32).toNatClampNeg) ((z_ai M a3 ((x2 : Int32).toNatClampNeg)) + 1) → (P_X12_sendsAll_100 a Post J44 t0 M_6))))))
def P_X12_sendsAll_84 (a : Nat) (Post : z_Mem → Prop) (J44 : Int32 → z_Mem → Prop) (x2 : Int32) (M : z_Mem) : Prop := P_X12_sendsAll_85 a Post J44 x2 0 M
def P_X12_sendsAll_66 (a : Nat) (Post : z_Mem → Prop) (J44 : Int32 → z_Mem → Prop) (t0 : Int32) (M : z_Mem) : Prop := ((t0 = (-1) → P_X12_sendsAll_84 a Post J44 t0 M) ∧ (¬ t0 = (-1) → P_X12_sendsNext a t0 M fun x_8 M_8 => (((x_8 = 0 → P_X12_sendsAll_84 a Post J44 t0 M_8) ∧ (¬ x_8 = 0 → P_X12_sendsAll_85 a Post J44 t0 1 M_8)))))
set_option maxRecDepth 100000 in
def P_X12_sendsAll_44 (a : Nat) (Post : z_Mem → Prop)  : Nat → Int32 → z_Mem → Prop
  | 0, _, _ => False
  | n + 1, x1, M => ((x1 = 0 → Post M) ∧ (¬ x1 = 0 → ((400 ≤ (z_fi M 1606 a) → P_X12_sendsAll_66 a Post (fun q0 qM => P_X12_sendsAll_44 a Post n q0 qM) (-1) M) ∧ (¬ 400 ≤ (z_fi M 1606 a) → P_X12_nextPath a M fun x_13 M_13 => (P_X12_sendsAll_66 a Post (fun q0 qM => P_X12_sendsAll_44 a Post n q0 qM) x_13 M_13)))))
def P_X12_sendsAll_43 (a : Nat) (Post : z_Mem → Prop)  (t0 : Int32) (M : z_Mem) : Prop := (∃ n14 : Nat, P_X12_sendsAll_44 a Post n14 t0 M)
def P_X12_sendsAll_38 (a : Nat) (Post : z_Mem → Prop)  (M : z_Mem) : Prop := P_X12_sendsAll_43 a Post 1 M
def P_X12_sendsAll_42 (a : Nat) (Post : z_Mem → Prop)  (M : z_Mem) : Prop := P_X12_sendsAll_43 a Post 0 M
set_option maxRecDepth 100000 in
def P_X12_sendsAll (a : Nat) (M : z_Mem) (Post : z_Mem → Prop) : Prop := z_nn (z_fr M 1628 a) fun a16 => (vp_in 0 (z_ln M a16) ∧ (∀ M_18 : z_Mem, M_18 = z_sai M a16 ((0 : Int32).toNatClampNeg) 0 → (z_nn (z_fr M_18 1628 a) fun a20 => (vp_in 1 (z_ln M_18 a20) ∧ (∀ M_22 : z_Mem, M_22 = z_sai M_18 a20 ((1 : Int32).toNatClampNeg) 0 → ((((z_fi M_22 1577 a) = 2 → P_X12_sendsAll_38 a Post M_22) ∧ (¬ (z_fi M_22 1577 a) = 2 → (((z_fi M_22 1577 a) = 1 → (((z_fi M_22 1578 a) = (-1) → P_X12_sendsAll_42 a Post M_22) ∧ (¬ (z_fi M_22 1578 a) = (-1) → P_X12_sendsAll_38 a Post M_22))) ∧ (¬ (z_fi M_22 1577 a) = 1 → P_X12_sendsAll_42 a Post M_22))))))))))
set_option maxRecDepth 100000 in
set_option maxHeartbeats 4000000 in
theorem v_X12_sendsAll_100 {G : z_G} {M0 : z_Mem} {a : Nat} {Post : z_Mem → Prop} {J44 : Int32 → z_Mem → Prop} (hJ44 : ∀ (x1 : Int32) (M : z_Mem), (z_ki M a = 13) → (x1 = 0 ∨ x1 = 1) → J44 x1 M → z_V G Y_X12_sendsAll z_X0 M0 (z_QM G M0 (z_PV Post)) M 44 [(0, z_O (some a)), (1, z_I x1)] []) {x1 : Int32} {M : z_Mem} (ha : z_ki M a = 13) (f_x1 : x1 = 0 ∨ x1 = 1) (hP : P_X12_sendsAll_100 a Post J44 x1 M) : z_V G Y_X12_sendsAll z_X0 M0 (z_QM G M0 (z_PV Post)) M 100 [(0, z_O (some a)), (1, z_I x1)] [] := by
  unfold P_X12_sendsAll_100 at hP
  refine z_goto (tgt := 44) dX12_sendsAll_100 (by decide) ?_
  refine z_sub (lv' := [(0, z_O _), (1, z_I _)]) [0, 1] rfl ?_
  exact hJ44 _ _ ha f_x1 hP
set_option maxRecDepth 100000 in
set_option maxHeartbeats 4000000 in
theorem v_X12_sendsAll_85 {G : z_G} {M0 : z_Mem} {a : Nat} {Post : z_Mem → Prop} {J44 : Int32 → z_Mem → Prop} (hJ44 : ∀ (x1 : Int32) (M : z_Mem), (z_ki M a = 13) → (x1 = 0 ∨ x1 = 1) → J44 x1 M → z_V G Y_X12_sendsAll z_X0 M0 (z_QM G M0 (z_PV Post)) M 44 [(0, z_O (some a)), (1, z_I x1)] []) {x2 : Int32} {t0 : Int32} {M : z_Mem} (ha : z_ki M a = 13) (f_t0 : t0 = 0 ∨ t0 = 1) (hP : P_X12_sendsAll_85 a Post J44 x2 t0 M) : z_V G Y_X12_sendsAll z_X0 M0 (z_QM G M0 (z_PV Post)) M 85 [(0, z_O (some a)), (2, z_I x2)] [z_I t0] := by
  unfold P_X12_sendsAll_85 at hP
  refine z_istore_n (lv' := [(1, z_I _), (0, z_O _), (2, z_I _)]) dX12_sendsAll_85 rfl (Nat.le_of_ble_eq_true rfl) rfl ?_
  refine z_iload_n dX12_sendsAll_86 rfl 0 rfl ?_
  refine z_if_eq (tgt := 100) dX12_sendsAll_87 (by decide) (fun h1 => ?_) (fun h1 => ?_)
  · replace hP := hP.1 h1
    refine z_sub (lv' := [(0, z_O _), (1, z_I _)]) [1, 0] rfl ?_
    exact v_X12_sendsAll_100 hJ44 ha f_t0 hP
  · replace hP := hP.2 h1
    refine z_aload_n dX12_sendsAll_90 rfl 1 rfl ?_
    refine z_getr (c := 12) (k := 92) (g := 1628) (t := 20) z_cb12 (Nat.le_of_ble_eq_true rfl) (Nat.le_of_ble_eq_true rfl) rfl rfl zw_1347 rfl ha dX12_sendsAll_91 (fun f2 => ?_)
    refine z_iload_n dX12_sendsAll_94 rfl 2 rfl ?_
    refine z_dup2 dX12_sendsAll_95 rfl rfl ?_
    refine z_pc (pc' := 96) rfl ?_
    obtain ⟨a3, e3, hP⟩ := hP
    have k3 := f2 a3 e3
    obtain ⟨i4, hP⟩ := hP
    refine z_iald e3 k3 i4 dX12_sendsAll_96 ?_
    refine z_iconst (v := 1) dX12_sendsAll_97 (by decide) ?_
    refine z_iadd dX12_sendsAll_98 ?_
    obtain ⟨i5, hP⟩ := hP
    refine z_iast e3 k3 i5 dX12_sendsAll_99 ?_
    refine z_nm (fun M_6 g_6 => ?_)
    replace hP := hP M_6 g_6
    have q_6 := z_k3 g_6
    have ha := z_kk q_6 ha
    refine z_sub (lv' := [(0, z_O _), (1, z_I _)]) [1, 0] rfl ?_
    exact v_X12_sendsAll_100 hJ44 ha f_t0 hP
set_option maxRecDepth 100000 in
set_option maxHeartbeats 4000000 in
theorem v_X12_sendsAll_84 {G : z_G} {M0 : z_Mem} {a : Nat} {Post : z_Mem → Prop} {J44 : Int32 → z_Mem → Prop} (hJ44 : ∀ (x1 : Int32) (M : z_Mem), (z_ki M a = 13) → (x1 = 0 ∨ x1 = 1) → J44 x1 M → z_V G Y_X12_sendsAll z_X0 M0 (z_QM G M0 (z_PV Post)) M 44 [(0, z_O (some a)), (1, z_I x1)] []) {x2 : Int32} {M : z_Mem} (ha : z_ki M a = 13) (hP : P_X12_sendsAll_84 a Post J44 x2 M) : z_V G Y_X12_sendsAll z_X0 M0 (z_QM G M0 (z_PV Post)) M 84 [(0, z_O (some a)), (2, z_I x2)] [] := by
  unfold P_X12_sendsAll_84 at hP
  refine z_iconst (v := 0) dX12_sendsAll_84 (by decide) ?_
  refine z_sub (lv' := [(0, z_O _), (2, z_I _)]) [0, 1] rfl ?_
  exact v_X12_sendsAll_85 hJ44 ha (Or.inl rfl) hP
set_option maxRecDepth 100000 in
set_option maxHeartbeats 4000000 in
theorem v_X12_sendsAll_66 {G : z_G} {M0 : z_Mem} {a : Nat} {Post : z_Mem → Prop} {J44 : Int32 → z_Mem → Prop} (hJ44 : ∀ (x1 : Int32) (M : z_Mem), (z_ki M a = 13) → (x1 = 0 ∨ x1 = 1) → J44 x1 M → z_V G Y_X12_sendsAll z_X0 M0 (z_QM G M0 (z_PV Post)) M 44 [(0, z_O (some a)), (1, z_I x1)] []) {t0 : Int32} {M : z_Mem} (ha : z_ki M a = 13) (hP : P_X12_sendsAll_66 a Post J44 t0 M) : z_V G Y_X12_sendsAll z_X0 M0 (z_QM G M0 (z_PV Post)) M 66 [(0, z_O (some a))] [z_I t0] := by
  unfold P_X12_sendsAll_66 at hP
  refine z_istore_n (lv' := [(2, z_I _), (0, z_O _)]) dX12_sendsAll_66 rfl (Nat.le_of_ble_eq_true rfl) rfl ?_
  refine z_iload_n dX12_sendsAll_67 rfl 0 rfl ?_
  refine z_iconst (v := (-1)) dX12_sendsAll_68 (by decide) ?_
  refine z_icmp_eq (tgt := 84) dX12_sendsAll_69 (by decide) (fun h7 => ?_) (fun h7 => ?_)
  · replace hP := hP.1 h7
    refine z_sub (lv' := [(0, z_O _), (2, z_I _)]) [1, 0] rfl ?_
    exact v_X12_sendsAll_84 hJ44 ha hP
  · replace hP := hP.2 h7
    refine z_aload_n dX12_sendsAll_72 rfl 1 rfl ?_
    refine z_iload_n dX12_sendsAll_73 rfl 0 rfl ?_
    refine z_wts (fun hT8 _ => ?_)
    refine z_cVb (c := 12) (n := 1) (Y1 := Y_X12_sendsNext) (st := []) rfl ha z_cb12 (Nat.le_of_ble_eq_true rfl) rfl (s_X12_sendsNext ha hP) rfl ⟨z_dc_X12_sendsNext, ⟨(Nat.le_of_ble_eq_true rfl), (Nat.le_of_ble_eq_true rfl)⟩, (Nat.le_of_ble_eq_true rfl)⟩ rfl zw_1742 zw_1744 zp_60 zw_12 zw_1745 dX12_sendsAll_74 (fun x_8 M_8 b8 hP _ x8 => ?_)
    have ha := x8.k (k := 12) hT8 ha
    refine z_pc (pc' := 77) rfl ?_
    refine z_if_eq (tgt := 84) dX12_sendsAll_77 (by decide) (fun h9 => ?_) (fun h9 => ?_)
    · replace hP := hP.1 h9
      refine z_sub (lv' := [(0, z_O _), (2, z_I _)]) [1, 0] rfl ?_
      exact v_X12_sendsAll_84 hJ44 ha hP
    · replace hP := hP.2 h9
      refine z_iconst (v := 1) dX12_sendsAll_80 (by decide) ?_
      refine z_goto (tgt := 85) dX12_sendsAll_81 (by decide) ?_
      refine z_sub (lv' := [(0, z_O _), (2, z_I _)]) [1, 0] rfl ?_
      exact v_X12_sendsAll_85 hJ44 ha (Or.inr rfl) hP
set_option maxRecDepth 100000 in
set_option maxHeartbeats 4000000 in
theorem v_X12_sendsAll_44 {G : z_G} {M0 : z_Mem} {a : Nat} {Post : z_Mem → Prop}   : ∀ (n : Nat) {x1 : Int32} {M : z_Mem}, (z_ki M a = 13) → (x1 = 0 ∨ x1 = 1) → P_X12_sendsAll_44 a Post n x1 M → z_V G Y_X12_sendsAll z_X0 M0 (z_QM G M0 (z_PV Post)) M 44 [(0, z_O (some a)), (1, z_I x1)] [] := by
  intro n
  induction n with
  | zero => intro x1 M ha f_x1 hP; exact False.elim hP
  | succ n ih =>
    intro x1 M ha f_x1 hP
    unfold P_X12_sendsAll_44 at hP
    refine z_iload_n dX12_sendsAll_44 rfl 1 rfl ?_
    refine z_if_eq (tgt := 103) dX12_sendsAll_45 (by decide) (fun h10 => ?_) (fun h10 => ?_)
    · replace hP := hP.1 h10
      exact z_retv rfl dX12_sendsAll_103 hP
    · replace hP := hP.2 h10
      refine z_aload_n dX12_sendsAll_48 rfl 0 rfl ?_
      refine z_geti (c := 12) (k := 70) (g := 1606) z_cb12 (Nat.le_of_ble_eq_true rfl) (Nat.le_of_ble_eq_true rfl) rfl (Nat.le_of_ble_eq_true rfl) zw_1325 rfl ha dX12_sendsAll_49 ?_
      refine z_sipush (v := 400) dX12_sendsAll_52 (by decide) ?_
      refine z_icmp_ge (tgt := 65) dX12_sendsAll_55 (by decide) (fun h12 => ?_) (fun h12 => ?_)
      · replace hP := hP.1 h12
        refine z_iconst (v := (-1)) dX12_sendsAll_65 (by decide) ?_
        refine z_sub (lv' := [(0, z_O _)]) [0] rfl ?_
        exact v_X12_sendsAll_66 (fun _ _ w0 w1 hP => ih w0 w1 hP) ha hP
      · replace hP := hP.2 h12
        refine z_aload_n dX12_sendsAll_58 rfl 0 rfl ?_
        refine z_wts (fun hT13 _ => ?_)
        refine z_cVi (c := 12) (n := 0) (Y1 := Y_X12_nextPath) (st := []) rfl ha z_cb12 (Nat.le_of_ble_eq_true rfl) rfl (s_X12_nextPath ha hP) rfl ⟨z_dc_X12_nextPath, ⟨(Nat.le_of_ble_eq_true rfl), (Nat.le_of_ble_eq_true rfl)⟩, (Nat.le_of_ble_eq_true rfl)⟩ rfl zw_1730 zw_1732 zp_57 zw_12 zw_1733 dX12_sendsAll_59 (fun x_13 M_13 hP _ x13 => ?_)
        have ha := x13.k (k := 12) hT13 ha
        refine z_pc (pc' := 62) rfl ?_
        refine z_goto (tgt := 66) dX12_sendsAll_62 (by decide) ?_
        refine z_sub (lv' := [(0, z_O _)]) [0] rfl ?_
        exact v_X12_sendsAll_66 (fun _ _ w0 w1 hP => ih w0 w1 hP) ha hP
set_option maxRecDepth 100000 in
set_option maxHeartbeats 4000000 in
theorem v_X12_sendsAll_43 {G : z_G} {M0 : z_Mem} {a : Nat} {Post : z_Mem → Prop}   {t0 : Int32} {M : z_Mem} (ha : z_ki M a = 13) (f_t0 : t0 = 0 ∨ t0 = 1) (hP : P_X12_sendsAll_43 a Post t0 M) : z_V G Y_X12_sendsAll z_X0 M0 (z_QM G M0 (z_PV Post)) M 43 [(0, z_O (some a))] [z_I t0] := by
  unfold P_X12_sendsAll_43 at hP
  refine z_istore_n (lv' := [(1, z_I _), (0, z_O _)]) dX12_sendsAll_43 rfl (Nat.le_of_ble_eq_true rfl) rfl ?_
  obtain ⟨n14, hP⟩ := hP
  refine z_sub (lv' := [(0, z_O _), (1, z_I _)]) [1, 0] rfl ?_
  exact v_X12_sendsAll_44  n14 ha f_t0 hP
set_option maxRecDepth 100000 in
set_option maxHeartbeats 4000000 in
theorem v_X12_sendsAll_38 {G : z_G} {M0 : z_Mem} {a : Nat} {Post : z_Mem → Prop}   {M : z_Mem} (ha : z_ki M a = 13) (hP : P_X12_sendsAll_38 a Post M) : z_V G Y_X12_sendsAll z_X0 M0 (z_QM G M0 (z_PV Post)) M 38 [(0, z_O (some a))] [] := by
  unfold P_X12_sendsAll_38 at hP
  refine z_iconst (v := 1) dX12_sendsAll_38 (by decide) ?_
  refine z_goto (tgt := 43) dX12_sendsAll_39 (by decide) ?_
  refine z_sub (lv' := [(0, z_O _)]) [0] rfl ?_
  exact v_X12_sendsAll_43  ha (Or.inr rfl) hP
set_option maxRecDepth 100000 in
set_option maxHeartbeats 4000000 in
theorem v_X12_sendsAll_42 {G : z_G} {M0 : z_Mem} {a : Nat} {Post : z_Mem → Prop}   {M : z_Mem} (ha : z_ki M a = 13) (hP : P_X12_sendsAll_42 a Post M) : z_V G Y_X12_sendsAll z_X0 M0 (z_QM G M0 (z_PV Post)) M 42 [(0, z_O (some a))] [] := by
  unfold P_X12_sendsAll_42 at hP
  refine z_iconst (v := 0) dX12_sendsAll_42 (by decide) ?_
  refine z_sub (lv' := [(0, z_O _)]) [0] rfl ?_
  exact v_X12_sendsAll_43  ha (Or.inl rfl) hP
set_option maxRecDepth 100000 in
set_option maxHeartbeats 4000000 in
theorem s_X12_sendsAll {G : z_G} {M : z_Mem} {a : Nat} {Post : z_Mem → Prop} (ha : z_ki M a = 13) (hP : P_X12_sendsAll a M Post) : z_Mt G Y_X12_sendsAll M [z_O (some a)] (z_PV Post) := by
  refine z_ofV (by decide) (Nat.le_of_ble_eq_true rfl) ?_
  unfold P_X12_sendsAll at hP
  refine z_sub (lv' := [(0, z_O (some a))]) [0] rfl ?_
  refine z_aload_n dX12_sendsAll_0 rfl 0 rfl ?_
  refine z_getr (c := 12) (k := 92) (g := 1628) (t := 20) z_cb12 (Nat.le_of_ble_eq_true rfl) (Nat.le_of_ble_eq_true rfl) rfl rfl zw_1347 rfl ha dX12_sendsAll_1 (fun f15 => ?_)
  refine z_iconst (v := 0) dX12_sendsAll_4 (by decide) ?_
  refine z_iconst (v := 0) dX12_sendsAll_5 (by decide) ?_
  obtain ⟨a16, e16, hP⟩ := hP
  have k16 := f15 a16 e16
  obtain ⟨i17, hP⟩ := hP
  refine z_iast e16 k16 i17 dX12_sendsAll_6 ?_
  refine z_nm (fun M_18 g_18 => ?_)
  replace hP := hP M_18 g_18
  have q_18 := z_k3 g_18
  have ha := z_kk q_18 ha
  refine z_aload_n dX12_sendsAll_7 rfl 0 rfl ?_
  refine z_pc (pc' := 8) rfl ?_
  refine z_getr (c := 12) (k := 92) (g := 1628) (t := 20) z_cb12 (Nat.le_of_ble_eq_true rfl) (Nat.le_of_ble_eq_true rfl) rfl rfl zw_1347 rfl ha dX12_sendsAll_8 (fun f19 => ?_)
  refine z_iconst (v := 1) dX12_sendsAll_11 (by decide) ?_
  refine z_iconst (v := 0) dX12_sendsAll_12 (by decide) ?_
  obtain ⟨a20, e20, hP⟩ := hP
  have k20 := f19 a20 e20
  obtain ⟨i21, hP⟩ := hP
  refine z_iast e20 k20 i21 dX12_sendsAll_13 ?_
  refine z_nm (fun M_22 g_22 => ?_)
  replace hP := hP M_22 g_22
  have q_22 := z_k3 g_22
  have ha := z_kk q_22 ha
  refine z_aload_n dX12_sendsAll_14 rfl 0 rfl ?_
  refine z_geti (c := 12) (k := 41) (g := 1577) z_cb12 (Nat.le_of_ble_eq_true rfl) (Nat.le_of_ble_eq_true rfl) rfl (Nat.le_of_ble_eq_true rfl) zw_1296 rfl ha dX12_sendsAll_15 ?_
  refine z_pc (pc' := 18) rfl ?_
  refine z_iconst (v := 2) dX12_sendsAll_18 (by decide) ?_
  refine z_icmp_eq (tgt := 38) dX12_sendsAll_19 (by decide) (fun h24 => ?_) (fun h24 => ?_)
  · replace hP := hP.1 h24
    refine z_sub (lv' := [(0, z_O _)]) [0] rfl ?_
    exact v_X12_sendsAll_38  ha hP
  · replace hP := hP.2 h24
    refine z_aload_n dX12_sendsAll_22 rfl 0 rfl ?_
    refine z_geti (c := 12) (k := 41) (g := 1577) z_cb12 (Nat.le_of_ble_eq_true rfl) (Nat.le_of_ble_eq_true rfl) rfl (Nat.le_of_ble_eq_true rfl) zw_1296 rfl ha dX12_sendsAll_23 ?_
    refine z_iconst (v := 1) dX12_sendsAll_26 (by decide) ?_
    refine z_icmp_ne (tgt := 42) dX12_sendsAll_27 (by decide) (fun h26 => ?_) (fun h26 => ?_)
    · replace hP := hP.2 h26
      refine z_sub (lv' := [(0, z_O _)]) [0] rfl ?_
      exact v_X12_sendsAll_42  ha hP
    · replace hP := hP.1 h26
      refine z_aload_n dX12_sendsAll_30 rfl 0 rfl ?_
      refine z_geti (c := 12) (k := 42) (g := 1578) z_cb12 (Nat.le_of_ble_eq_true rfl) (Nat.le_of_ble_eq_true rfl) rfl (Nat.le_of_ble_eq_true rfl) zw_1297 rfl ha dX12_sendsAll_31 ?_
      refine z_pc (pc' := 34) rfl ?_
      refine z_iconst (v := (-1)) dX12_sendsAll_34 (by decide) ?_
      refine z_icmp_eq (tgt := 42) dX12_sendsAll_35 (by decide) (fun h28 => ?_) (fun h28 => ?_)
      · replace hP := hP.1 h28
        refine z_sub (lv' := [(0, z_O _)]) [0] rfl ?_
        exact v_X12_sendsAll_42  ha hP
      · replace hP := hP.2 h28
        refine z_sub (lv' := [(0, z_O _)]) [0] rfl ?_
        exact v_X12_sendsAll_38  ha hP
def P_X12_probesOn_37 (a : Nat) (Post : z_Mem → Prop) (J9 : Int32 → Int32 → Int32 → z_Mem → Prop) (x1 : Int32) (x3 : Int32) (t0 : Int32) (M : z_Mem) : Prop := ∀ x_1 : Int32, x_1 = x3 + (-1) → (J9 x1 t0 x_1 M)
def P_X12_probesOn_36 (a : Nat) (Post : z_Mem → Prop) (J9 : Int32 → Int32 → Int32 → z_Mem → Prop) (x1 : Int32) (x2 : Int32) (x3 : Int32) (M : z_Mem) : Prop := P_X12_probesOn_37 a Post J9 x1 x3 x2 M
def P_X12_probesOn_88 (a : Nat) (Post : z_Mem → Prop)  (x1 : Int32) (x2 : Int32) (t0 : Int32) (t1 : Int32) (M : z_Mem) : Prop := ∀ x_2 : Int32, x_2 = (t0 <<< (t1 &&& 31)) → (((x2 = (-1) → Post M) ∧ (¬ x2 = (-1) → ((400 ≤ (z_fi M 1606 a) → Post M) ∧ (¬ 400 ≤ (z_fi M 1606 a) → z_nn (z_fr M 1618 a) fun a8 => (vp_in x1 (z_ln M a8) ∧ (((((z_fi M 1536 a) - (z_ai M a8 ((x1 : Int32).toNatClampNeg))) < x_2 → Post M) ∧ (¬ ((z_fi M 1536 a) - (z_ai M a8 ((x1 : Int32).toNatClampNeg))) < x_2 → z_nn (z_fr M 1619 a) fun a12 => (vp_in x1 (z_ln M a12) ∧ (vp_in x1 (z_ln M a12) ∧ (∀ M_15 : z_Mem, M_15 = z_sai M a12 ((x1 : Int32).toNatClampNeg) ((z_ai M a12 ((x1 : Int32).toNatClampNeg)) + 1) → (z_nn (z_fr M_15 1629 a) fun a17 => (vp_in 2 (z_ln M_15 a17) ∧ (vp_in 2 (z_ln M_15 a17) ∧ (∀ M_20 : z_Mem, M_20 = z_sai M_15 a17 ((2 : Int32).toNatClampNeg) ((z_ai M_15 a17 ((2 : Int32).toNatClampNeg)) + 1) → (z_nn (z_fr M_20 1595 a) fun a22 => (vp_in x2 (z_ln M_20 a22) ∧ (z_nn (z_fr M_20 1596 a) fun a25 => (vp_in x2 (z_ln M_20 a25) ∧ (z_nn (z_fr M_20 1597 a) fun a28 => (vp_in x2 (z_ln M_20 a28) ∧ (P_X12_sends a x1 (z_ai M_20 a22 ((x2 : Int32).toNatClampNeg)) (z_ai M_20 a25 ((x2 : Int32).toNatClampNeg)) (z_ai M_20 a28 ((x2 : Int32).toNatClampNeg)) 1 M_20 fun M_30 => (Post M_30))))))))))))))))))))))))
set_option maxRecDepth 100000 in
def P_X12_probesOn_9 (a : Nat) (Post : z_Mem → Prop)  : Nat → Int32 → Int32 → Int32 → z_Mem → Prop
  | 0, _, _, _, _ => False
  | n + 1, x1, x2, x3, M => ((x3 < 0 → z_nn (z_fr M 1610 a) fun a33 => (vp_in x1 (z_ln M a33) ∧ (z_nn (z_fr M 1611 a) fun a36 => (vp_in x1 (z_ln M a36) ∧ (P_X12_max 1 (z_ai M a36 ((x1 : Int32).toNatClampNeg)) M fun x_38 M_38 => (z_nn (z_fr M_38 1619 a) fun a40 => (vp_in x1 (z_ln M_38 a40) ∧ ((((z_ai M_38 a40 ((x1 : Int32).toNatClampNeg)) ≤ 6 → z_nn (z_fr M_38 1619 a) fun a44 => (vp_in x1 (z_ln M_38 a44) ∧ (P_X12_probesOn_88 a Post x1 x2 ((((z_ai M a33 ((x1 : Int32).toNatClampNeg)) / 8) + x_38) + 3) (z_ai M_38 a44 ((x1 : Int32).toNatClampNeg)) M_38))) ∧ (¬ (z_ai M_38 a40 ((x1 : Int32).toNatClampNeg)) ≤ 6 → P_X12_probesOn_88 a Post x1 x2 ((((z_ai M a33 ((x1 : Int32).toNatClampNeg)) / 8) + x_38) + 3) 6 M_38)))))))))) ∧ (¬ x3 < 0 → z_nn (z_fr M 1593 a) fun a47 => (vp_in x3 (z_ln M a47) ∧ ((((z_ai M a47 ((x3 : Int32).toNatClampNeg)) = x1 → z_nn (z_fr M 1598 a) fun a51 => (vp_in x3 (z_ln M a51) ∧ ((((z_ai M a51 ((x3 : Int32).toNatClampNeg)) = 0 → P_X12_probesOn_37 a Post (fun q0 q1 q2 qM => P_X12_probesOn_9 a Post n q0 q1 q2 qM) x1 x3 x3 M) ∧ (¬ (z_ai M a51 ((x3 : Int32).toNatClampNeg)) = 0 → P_X12_probesOn_36 a Post (fun q0 q1 q2 qM => P_X12_probesOn_9 a Post n q0 q1 q2 qM) x1 x2 x3 M))))) ∧ (¬ (z_ai M a47 ((x3 : Int32).toNatClampNeg)) = x1 → P_X12_probesOn_36 a Post (fun q0 q1 q2 qM => P_X12_probesOn_9 a Post n q0 q1 q2 qM) x1 x2 x3 M))))))
set_option maxRecDepth 100000 in
def P_X12_probesOn (a : Nat) (p1 : Int32) (M : z_Mem) (Post : z_Mem → Prop) : Prop := ∀ x_55 : Int32, x_55 = ((z_fi M 1606 a) - 1) → ((∃ n56 : Nat, P_X12_probesOn_9 a Post n56 p1 (-1) x_55 M))
set_option maxRecDepth 100000 in
set_option maxHeartbeats 4000000 in
theorem v_X12_probesOn_37 {G : z_G} {M0 : z_Mem} {a : Nat} {Post : z_Mem → Prop} {J9 : Int32 → Int32 → Int32 → z_Mem → Prop} (hJ9 : ∀ (x1 : Int32) (x2 : Int32) (x3 : Int32) (M : z_Mem), (z_ki M a = 13) → J9 x1 x2 x3 M → z_V G Y_X12_probesOn z_X0 M0 (z_QM G M0 (z_PV Post)) M 9 [(0, z_O (some a)), (1, z_I x1), (2, z_I x2), (3, z_I x3)] []) {x1 : Int32} {x3 : Int32} {t0 : Int32} {M : z_Mem} (ha : z_ki M a = 13) (hP : P_X12_probesOn_37 a Post J9 x1 x3 t0 M) : z_V G Y_X12_probesOn z_X0 M0 (z_QM G M0 (z_PV Post)) M 37 [(0, z_O (some a)), (1, z_I x1), (3, z_I x3)] [z_I t0] := by
  unfold P_X12_probesOn_37 at hP
  refine z_istore_n (lv' := [(2, z_I _), (0, z_O _), (1, z_I _), (3, z_I _)]) dX12_probesOn_37 rfl (Nat.le_of_ble_eq_true rfl) rfl ?_
  refine z_iincN (j := 3) (m := (-1)) (lv' := fun v => [(3, z_I v), (2, z_I _), (0, z_O _), (1, z_I _)]) dX12_probesOn_38 rfl (by decide) (Nat.le_of_ble_eq_true rfl) (fun _ => rfl) (fun x_1 y_1 => ?_)
  replace hP := hP x_1 y_1
  refine z_goto (tgt := 9) dX12_probesOn_41 (by decide) ?_
  refine z_sub (lv' := [(0, z_O _), (1, z_I _), (2, z_I _), (3, z_I _)]) [2, 3, 1, 0] rfl ?_
  exact hJ9 _ _ _ _ ha hP
set_option maxRecDepth 100000 in
set_option maxHeartbeats 4000000 in
theorem v_X12_probesOn_36 {G : z_G} {M0 : z_Mem} {a : Nat} {Post : z_Mem → Prop} {J9 : Int32 → Int32 → Int32 → z_Mem → Prop} (hJ9 : ∀ (x1 : Int32) (x2 : Int32) (x3 : Int32) (M : z_Mem), (z_ki M a = 13) → J9 x1 x2 x3 M → z_V G Y_X12_probesOn z_X0 M0 (z_QM G M0 (z_PV Post)) M 9 [(0, z_O (some a)), (1, z_I x1), (2, z_I x2), (3, z_I x3)] []) {x1 : Int32} {x2 : Int32} {x3 : Int32} {M : z_Mem} (ha : z_ki M a = 13) (hP : P_X12_probesOn_36 a Post J9 x1 x2 x3 M) : z_V G Y_X12_probesOn z_X0 M0 (z_QM G M0 (z_PV Post)) M 36 [(0, z_O (some a)), (1, z_I x1), (2, z_I x2), (3, z_I x3)] [] := by
  unfold P_X12_probesOn_36 at hP
  refine z_iload_n dX12_probesOn_36 rfl 2 rfl ?_
  refine z_sub (lv' := [(0, z_O _), (1, z_I _), (3, z_I _)]) [0, 1, 3] rfl ?_
  exact v_X12_probesOn_37 hJ9 ha hP
set_option maxRecDepth 100000 in
set_option maxHeartbeats 4000000 in
theorem v_X12_probesOn_88 {G : z_G} {M0 : z_Mem} {a : Nat} {Post : z_Mem → Prop}   {x1 : Int32} {x2 : Int32} {t0 : Int32} {t1 : Int32} {M : z_Mem} (ha : z_ki M a = 13) (hP : P_X12_probesOn_88 a Post x1 x2 t0 t1 M) : z_V G Y_X12_probesOn z_X0 M0 (z_QM G M0 (z_PV Post)) M 88 [(0, z_O (some a)), (1, z_I x1), (2, z_I x2)] [z_I t1, z_I t0] := by
  unfold P_X12_probesOn_88 at hP
  refine z_ishl dX12_probesOn_88 ?_
  refine z_topi (fun x_2 y_2 => ?_)
  replace hP := hP x_2 y_2
  refine z_istore_n (lv' := [(3, z_I _), (0, z_O _), (1, z_I _), (2, z_I _)]) dX12_probesOn_89 rfl (Nat.le_of_ble_eq_true rfl) rfl ?_
  refine z_iload_n dX12_probesOn_90 rfl 3 rfl ?_
  refine z_iconst (v := (-1)) dX12_probesOn_91 (by decide) ?_
  refine z_icmp_eq (tgt := 164) dX12_probesOn_92 (by decide) (fun h3 => ?_) (fun h3 => ?_)
  · replace hP := hP.1 h3
    exact z_retv rfl dX12_probesOn_164 hP
  · replace hP := hP.2 h3
    refine z_aload_n dX12_probesOn_95 rfl 1 rfl ?_
    refine z_geti (c := 12) (k := 70) (g := 1606) z_cb12 (Nat.le_of_ble_eq_true rfl) (Nat.le_of_ble_eq_true rfl) rfl (Nat.le_of_ble_eq_true rfl) zw_1325 rfl ha dX12_probesOn_96 ?_
    refine z_pc (pc' := 99) rfl ?_
    refine z_sipush (v := 400) dX12_probesOn_99 (by decide) ?_
    refine z_icmp_ge (tgt := 164) dX12_probesOn_102 (by decide) (fun h5 => ?_) (fun h5 => ?_)
    · replace hP := hP.1 h5
      exact z_retv rfl dX12_probesOn_164 hP
    · replace hP := hP.2 h5
      refine z_aload_n dX12_probesOn_105 rfl 1 rfl ?_
      refine z_geti (c := 12) (k := 0) (g := 1536) z_cb12 (Nat.le_of_ble_eq_true rfl) (Nat.le_of_ble_eq_true rfl) rfl (Nat.le_of_ble_eq_true rfl) zw_1255 rfl ha dX12_probesOn_106 ?_
      refine z_aload_n dX12_probesOn_109 rfl 1 rfl ?_
      refine z_getr (c := 12) (k := 82) (g := 1618) (t := 20) z_cb12 (Nat.le_of_ble_eq_true rfl) (Nat.le_of_ble_eq_true rfl) rfl rfl zw_1337 rfl ha dX12_probesOn_110 (fun f7 => ?_)
      refine z_iload_n dX12_probesOn_113 rfl 2 rfl ?_
      refine z_pc (pc' := 114) rfl ?_
      obtain ⟨a8, e8, hP⟩ := hP
      have k8 := f7 a8 e8
      obtain ⟨i9, hP⟩ := hP
      refine z_iald e8 k8 i9 dX12_probesOn_114 ?_
      refine z_isub dX12_probesOn_115 ?_
      refine z_iload_n dX12_probesOn_116 rfl 0 rfl ?_
      refine z_icmp_lt (tgt := 164) dX12_probesOn_117 (by decide) (fun h10 => ?_) (fun h10 => ?_)
      · replace hP := hP.1 h10
        exact z_retv rfl dX12_probesOn_164 hP
      · replace hP := hP.2 h10
        refine z_aload_n dX12_probesOn_120 rfl 1 rfl ?_
        refine z_getr (c := 12) (k := 83) (g := 1619) (t := 20) z_cb12 (Nat.le_of_ble_eq_true rfl) (Nat.le_of_ble_eq_true rfl) rfl rfl zw_1338 rfl ha dX12_probesOn_121 (fun f11 => ?_)
        refine z_iload_n dX12_probesOn_124 rfl 2 rfl ?_
        refine z_pc (pc' := 125) rfl ?_
        refine z_dup2 dX12_probesOn_125 rfl rfl ?_
        obtain ⟨a12, e12, hP⟩ := hP
        have k12 := f11 a12 e12
        obtain ⟨i13, hP⟩ := hP
        refine z_iald e12 k12 i13 dX12_probesOn_126 ?_
        refine z_iconst (v := 1) dX12_probesOn_127 (by decide) ?_
        refine z_iadd dX12_probesOn_128 ?_
        obtain ⟨i14, hP⟩ := hP
        refine z_iast e12 k12 i14 dX12_probesOn_129 ?_
        refine z_nm (fun M_15 g_15 => ?_)
        replace hP := hP M_15 g_15
        have q_15 := z_k3 g_15
        have ha := z_kk q_15 ha
        refine z_aload_n dX12_probesOn_130 rfl 1 rfl ?_
        refine z_pc (pc' := 131) rfl ?_
        refine z_getr (c := 12) (k := 93) (g := 1629) (t := 20) z_cb12 (Nat.le_of_ble_eq_true rfl) (Nat.le_of_ble_eq_true rfl) rfl rfl zw_1348 rfl ha dX12_probesOn_131 (fun f16 => ?_)
        refine z_iconst (v := 2) dX12_probesOn_134 (by decide) ?_
        refine z_dup2 dX12_probesOn_135 rfl rfl ?_
        obtain ⟨a17, e17, hP⟩ := hP
        have k17 := f16 a17 e17
        obtain ⟨i18, hP⟩ := hP
        refine z_iald e17 k17 i18 dX12_probesOn_136 ?_
        refine z_iconst (v := 1) dX12_probesOn_137 (by decide) ?_
        refine z_iadd dX12_probesOn_138 ?_
        refine z_pc (pc' := 139) rfl ?_
        obtain ⟨i19, hP⟩ := hP
        refine z_iast e17 k17 i19 dX12_probesOn_139 ?_
        refine z_nm (fun M_20 g_20 => ?_)
        replace hP := hP M_20 g_20
        have q_20 := z_k3 g_20
        have ha := z_kk q_20 ha
        refine z_aload_n dX12_probesOn_140 rfl 1 rfl ?_
        refine z_iload_n dX12_probesOn_141 rfl 2 rfl ?_
        refine z_aload_n dX12_probesOn_142 rfl 1 rfl ?_
        refine z_getr (c := 12) (k := 59) (g := 1595) (t := 20) z_cb12 (Nat.le_of_ble_eq_true rfl) (Nat.le_of_ble_eq_true rfl) rfl rfl zw_1314 rfl ha dX12_probesOn_143 (fun f21 => ?_)
        refine z_iload_n dX12_probesOn_146 rfl 3 rfl ?_
        refine z_pc (pc' := 147) rfl ?_
        obtain ⟨a22, e22, hP⟩ := hP
        have k22 := f21 a22 e22
        obtain ⟨i23, hP⟩ := hP
        refine z_iald e22 k22 i23 dX12_probesOn_147 ?_
        refine z_aload_n dX12_probesOn_148 rfl 1 rfl ?_
        refine z_getr (c := 12) (k := 60) (g := 1596) (t := 20) z_cb12 (Nat.le_of_ble_eq_true rfl) (Nat.le_of_ble_eq_true rfl) rfl rfl zw_1315 rfl ha dX12_probesOn_149 (fun f24 => ?_)
        refine z_iload_n dX12_probesOn_152 rfl 3 rfl ?_
        obtain ⟨a25, e25, hP⟩ := hP
        have k25 := f24 a25 e25
        obtain ⟨i26, hP⟩ := hP
        refine z_iald e25 k25 i26 dX12_probesOn_153 ?_
        refine z_aload_n dX12_probesOn_154 rfl 1 rfl ?_
        refine z_pc (pc' := 155) rfl ?_
        refine z_getr (c := 12) (k := 61) (g := 1597) (t := 20) z_cb12 (Nat.le_of_ble_eq_true rfl) (Nat.le_of_ble_eq_true rfl) rfl rfl zw_1316 rfl ha dX12_probesOn_155 (fun f27 => ?_)
        refine z_iload_n dX12_probesOn_158 rfl 3 rfl ?_
        obtain ⟨a28, e28, hP⟩ := hP
        have k28 := f27 a28 e28
        obtain ⟨i29, hP⟩ := hP
        refine z_iald e28 k28 i29 dX12_probesOn_159 ?_
        refine z_iconst (v := 1) dX12_probesOn_160 (by decide) ?_
        refine z_wts (fun hT30 _ => ?_)
        refine z_cVv (c := 12) (n := 5) (Y1 := Y_X12_sends) (st := []) rfl ha z_cb12 (Nat.le_of_ble_eq_true rfl) rfl (s_X12_sends ha (Or.inr rfl) hP) rfl ⟨z_dc_X12_sends, ⟨(Nat.le_of_ble_eq_true rfl), (Nat.le_of_ble_eq_true rfl)⟩, (Nat.le_of_ble_eq_true rfl)⟩ rfl zw_1722 zw_1724 zp_55 zw_12 zw_1725 dX12_probesOn_161 (fun M_30 hP _ x30 => ?_)
        have ha := x30.k (k := 12) hT30 ha
        exact z_retv rfl dX12_probesOn_164 hP
set_option maxRecDepth 100000 in
set_option maxHeartbeats 4000000 in
theorem v_X12_probesOn_9 {G : z_G} {M0 : z_Mem} {a : Nat} {Post : z_Mem → Prop}   : ∀ (n : Nat) {x1 : Int32} {x2 : Int32} {x3 : Int32} {M : z_Mem}, (z_ki M a = 13) → P_X12_probesOn_9 a Post n x1 x2 x3 M → z_V G Y_X12_probesOn z_X0 M0 (z_QM G M0 (z_PV Post)) M 9 [(0, z_O (some a)), (1, z_I x1), (2, z_I x2), (3, z_I x3)] [] := by
  intro n
  induction n with
  | zero => intro x1 x2 x3 M ha hP; exact False.elim hP
  | succ n ih =>
    intro x1 x2 x3 M ha hP
    unfold P_X12_probesOn_9 at hP
    refine z_iload_n dX12_probesOn_9 rfl 3 rfl ?_
    refine z_if_lt (tgt := 44) dX12_probesOn_10 (by decide) (fun h31 => ?_) (fun h31 => ?_)
    · replace hP := hP.1 h31
      refine z_aload_n dX12_probesOn_44 rfl 0 rfl ?_
      refine z_getr (c := 12) (k := 74) (g := 1610) (t := 20) z_cb12 (Nat.le_of_ble_eq_true rfl) (Nat.le_of_ble_eq_true rfl) rfl rfl zw_1329 rfl ha dX12_probesOn_45 (fun f32 => ?_)
      refine z_iload_n dX12_probesOn_48 rfl 1 rfl ?_
      obtain ⟨a33, e33, hP⟩ := hP
      have k33 := f32 a33 e33
      obtain ⟨i34, hP⟩ := hP
      refine z_iald e33 k33 i34 dX12_probesOn_49 ?_
      refine z_bipush (v := 8) dX12_probesOn_50 (by decide) ?_
      refine z_pc (pc' := 52) rfl ?_
      refine z_idiv dX12_probesOn_52 (by decide) ?_
      refine z_iconst (v := 1) dX12_probesOn_53 (by decide) ?_
      refine z_aload_n dX12_probesOn_54 rfl 0 rfl ?_
      refine z_getr (c := 12) (k := 75) (g := 1611) (t := 20) z_cb12 (Nat.le_of_ble_eq_true rfl) (Nat.le_of_ble_eq_true rfl) rfl rfl zw_1330 rfl ha dX12_probesOn_55 (fun f35 => ?_)
      refine z_iload_n dX12_probesOn_58 rfl 1 rfl ?_
      obtain ⟨a36, e36, hP⟩ := hP
      have k36 := f35 a36 e36
      obtain ⟨i37, hP⟩ := hP
      refine z_iald e36 k36 i37 dX12_probesOn_59 ?_
      refine z_pc (pc' := 60) rfl ?_
      refine z_wts (fun hT38 _ => ?_)
      refine z_cSi (n := 2) (Y1 := Y_X12_max) (st := [z_I _]) rfl (s_X12_max  hP) rfl ⟨z_dc_X12_max, ⟨(Nat.le_of_ble_eq_true rfl), (Nat.le_of_ble_eq_true rfl)⟩, (Nat.le_of_ble_eq_true rfl)⟩ rfl zw_1662 zw_1663 zw_12 zw_1664 dX12_probesOn_60 (fun x_38 M_38 hP _ x38 => ?_)
      have ha := x38.k (k := 12) hT38 ha
      refine z_iadd dX12_probesOn_63 ?_
      refine z_iconst (v := 3) dX12_probesOn_64 (by decide) ?_
      refine z_iadd dX12_probesOn_65 ?_
      refine z_aload_n dX12_probesOn_66 rfl 0 rfl ?_
      refine z_getr (c := 12) (k := 83) (g := 1619) (t := 20) z_cb12 (Nat.le_of_ble_eq_true rfl) (Nat.le_of_ble_eq_true rfl) rfl rfl zw_1338 rfl ha dX12_probesOn_67 (fun f39 => ?_)
      refine z_pc (pc' := 70) rfl ?_
      refine z_iload_n dX12_probesOn_70 rfl 1 rfl ?_
      obtain ⟨a40, e40, hP⟩ := hP
      have k40 := f39 a40 e40
      obtain ⟨i41, hP⟩ := hP
      refine z_iald e40 k40 i41 dX12_probesOn_71 ?_
      refine z_bipush (v := 6) dX12_probesOn_72 (by decide) ?_
      refine z_icmp_le (tgt := 82) dX12_probesOn_74 (by decide) (fun h42 => ?_) (fun h42 => ?_)
      · replace hP := hP.1 h42
        refine z_aload_n dX12_probesOn_82 rfl 0 rfl ?_
        refine z_getr (c := 12) (k := 83) (g := 1619) (t := 20) z_cb12 (Nat.le_of_ble_eq_true rfl) (Nat.le_of_ble_eq_true rfl) rfl rfl zw_1338 rfl ha dX12_probesOn_83 (fun f43 => ?_)
        refine z_iload_n dX12_probesOn_86 rfl 1 rfl ?_
        refine z_pc (pc' := 87) rfl ?_
        obtain ⟨a44, e44, hP⟩ := hP
        have k44 := f43 a44 e44
        obtain ⟨i45, hP⟩ := hP
        refine z_iald e44 k44 i45 dX12_probesOn_87 ?_
        refine z_sub (lv' := [(0, z_O _), (1, z_I _), (2, z_I _)]) [0, 1, 2] rfl ?_
        exact v_X12_probesOn_88  ha hP
      · replace hP := hP.2 h42
        refine z_bipush (v := 6) dX12_probesOn_77 (by decide) ?_
        refine z_goto (tgt := 88) dX12_probesOn_79 (by decide) ?_
        refine z_sub (lv' := [(0, z_O _), (1, z_I _), (2, z_I _)]) [0, 1, 2] rfl ?_
        exact v_X12_probesOn_88  ha hP
    · replace hP := hP.2 h31
      refine z_aload_n dX12_probesOn_13 rfl 0 rfl ?_
      refine z_getr (c := 12) (k := 57) (g := 1593) (t := 20) z_cb12 (Nat.le_of_ble_eq_true rfl) (Nat.le_of_ble_eq_true rfl) rfl rfl zw_1312 rfl ha dX12_probesOn_14 (fun f46 => ?_)
      refine z_iload_n dX12_probesOn_17 rfl 3 rfl ?_
      obtain ⟨a47, e47, hP⟩ := hP
      have k47 := f46 a47 e47
      obtain ⟨i48, hP⟩ := hP
      refine z_iald e47 k47 i48 dX12_probesOn_18 ?_
      refine z_iload_n dX12_probesOn_19 rfl 1 rfl ?_
      refine z_pc (pc' := 20) rfl ?_
      refine z_icmp_ne (tgt := 36) dX12_probesOn_20 (by decide) (fun h49 => ?_) (fun h49 => ?_)
      · replace hP := hP.2 h49
        refine z_sub (lv' := [(0, z_O _), (1, z_I _), (2, z_I _), (3, z_I _)]) [0, 1, 2, 3] rfl ?_
        exact v_X12_probesOn_36 (fun _ _ _ _ w0 hP => ih w0 hP) ha hP
      · replace hP := hP.1 h49
        refine z_aload_n dX12_probesOn_23 rfl 0 rfl ?_
        refine z_getr (c := 12) (k := 62) (g := 1598) (t := 20) z_cb12 (Nat.le_of_ble_eq_true rfl) (Nat.le_of_ble_eq_true rfl) rfl rfl zw_1317 rfl ha dX12_probesOn_24 (fun f50 => ?_)
        refine z_iload_n dX12_probesOn_27 rfl 3 rfl ?_
        obtain ⟨a51, e51, hP⟩ := hP
        have k51 := f50 a51 e51
        obtain ⟨i52, hP⟩ := hP
        refine z_iald e51 k51 i52 dX12_probesOn_28 ?_
        refine z_if_ne (tgt := 36) dX12_probesOn_29 (by decide) (fun h53 => ?_) (fun h53 => ?_)
        · replace hP := hP.2 h53
          refine z_sub (lv' := [(0, z_O _), (1, z_I _), (2, z_I _), (3, z_I _)]) [0, 1, 2, 3] rfl ?_
          exact v_X12_probesOn_36 (fun _ _ _ _ w0 hP => ih w0 hP) ha hP
        · replace hP := hP.1 h53
          refine z_iload_n dX12_probesOn_32 rfl 3 rfl ?_
          refine z_goto (tgt := 37) dX12_probesOn_33 (by decide) ?_
          refine z_sub (lv' := [(0, z_O _), (1, z_I _), (3, z_I _)]) [0, 1, 3] rfl ?_
          exact v_X12_probesOn_37 (fun _ _ _ _ w0 hP => ih w0 hP) ha hP
set_option maxRecDepth 100000 in
set_option maxHeartbeats 4000000 in
theorem s_X12_probesOn {G : z_G} {M : z_Mem} {a : Nat} {p1 : Int32} {Post : z_Mem → Prop} (ha : z_ki M a = 13) (hP : P_X12_probesOn a p1 M Post) : z_Mt G Y_X12_probesOn M [z_O (some a), z_I p1] (z_PV Post) := by
  refine z_ofV (by decide) (Nat.le_of_ble_eq_true rfl) ?_
  unfold P_X12_probesOn at hP
  refine z_sub (lv' := [(0, z_O (some a)), (1, z_I p1)]) [0, 1] rfl ?_
  refine z_iconst (v := (-1)) dX12_probesOn_0 (by decide) ?_
  refine z_istore_n (lv' := [(2, z_I _), (0, z_O _), (1, z_I _)]) dX12_probesOn_1 rfl (Nat.le_of_ble_eq_true rfl) rfl ?_
  refine z_aload_n dX12_probesOn_2 rfl 1 rfl ?_
  refine z_geti (c := 12) (k := 70) (g := 1606) z_cb12 (Nat.le_of_ble_eq_true rfl) (Nat.le_of_ble_eq_true rfl) rfl (Nat.le_of_ble_eq_true rfl) zw_1325 rfl ha dX12_probesOn_3 ?_
  refine z_iconst (v := 1) dX12_probesOn_6 (by decide) ?_
  refine z_isub dX12_probesOn_7 ?_
  refine z_pc (pc' := 8) rfl ?_
  refine z_topi (fun x_55 y_55 => ?_)
  replace hP := hP x_55 y_55
  refine z_istore_n (lv' := [(3, z_I _), (2, z_I _), (0, z_O _), (1, z_I _)]) dX12_probesOn_8 rfl (Nat.le_of_ble_eq_true rfl) rfl ?_
  obtain ⟨n56, hP⟩ := hP
  refine z_sub (lv' := [(0, z_O _), (1, z_I _), (2, z_I _), (3, z_I _)]) [2, 3, 1, 0] rfl ?_
  exact v_X12_probesOn_9  n56 ha hP
def P_X12_connect_20 (a : Nat) (Post : z_Mem → Prop)  (x1 : Int32) (t0 : Option Nat) (t1 : Int32) (t2 : Int32) (M : z_Mem) : Prop := z_nn t0 fun a2 => (P_X12_goes a2 t1 t2 1 M fun x_1 M_1 => (((x_1 = 0 → Post M_1) ∧ (¬ x_1 = 0 → ∀ M_4 : z_Mem, M_4 = z_sfi M_1 1577 a 1 → (∀ M_5 : z_Mem, M_5 = z_sfi M_4 1578 a x1 → (∀ M_6 : z_Mem, M_6 = z_sfi M_5 1581 a 10 → (P_X12_saysHello a M_6 fun M_7 => (Post M_7))))))))
set_option maxRecDepth 100000 in
def P_X12_connect (a : Nat) (p1 : Int32) (M : z_Mem) (Post : z_Mem → Prop) : Prop := P_X12_in p1 (-1) 9 M fun x_8 M_8 => ((((z_fi M_8 1577 a) = 0 → P_X12_connect_20 a Post p1 (some a) x_8 1 M_8) ∧ (¬ (z_fi M_8 1577 a) = 0 → P_X12_connect_20 a Post p1 (some a) x_8 0 M_8)))
set_option maxRecDepth 100000 in
set_option maxHeartbeats 4000000 in
theorem v_X12_connect_20 {G : z_G} {M0 : z_Mem} {a : Nat} {Post : z_Mem → Prop}   {x1 : Int32} {t0 : Option Nat} {t1 : Int32} {t2 : Int32} {M : z_Mem} (ha : z_ki M a = 13) (f_t0 : z_tr M t0 13) (f_t1 : t1 = 0 ∨ t1 = 1) (f_t2 : t2 = 0 ∨ t2 = 1) (hP : P_X12_connect_20 a Post x1 t0 t1 t2 M) : z_V G Y_X12_connect z_X0 M0 (z_QM G M0 (z_PV Post)) M 20 [(0, z_O (some a)), (1, z_I x1)] [z_I t2, z_I t1, z_O t0] := by
  unfold P_X12_connect_20 at hP
  refine z_iconst (v := 1) dX12_connect_20 (by decide) ?_
  obtain ⟨a2, e2, hP⟩ := hP
  have k2 := f_t0 a2 e2
  refine z_wts (fun hT1 _ => ?_)
  refine z_cVb (c := 12) (n := 3) (Y1 := Y_X12_goes) (st := []) e2 k2 z_cb12 (Nat.le_of_ble_eq_true rfl) rfl (s_X12_goes k2 f_t1 f_t2 (Or.inr rfl) hP) rfl ⟨z_dc_X12_goes, ⟨(Nat.le_of_ble_eq_true rfl), (Nat.le_of_ble_eq_true rfl)⟩, (Nat.le_of_ble_eq_true rfl)⟩ rfl zw_1555 zw_1557 zp_31 zw_12 zw_1558 dX12_connect_21 (fun x_1 M_1 b1 hP _ x1 => ?_)
  have ha := x1.k (k := 12) hT1 ha
  refine z_if_eq (tgt := 47) dX12_connect_24 (by decide) (fun h3 => ?_) (fun h3 => ?_)
  · replace hP := hP.1 h3
    exact z_retv rfl dX12_connect_47 hP
  · replace hP := hP.2 h3
    refine z_aload_n dX12_connect_27 rfl 0 rfl ?_
    refine z_iconst (v := 1) dX12_connect_28 (by decide) ?_
    refine z_puti (c := 12) (k := 41) (g := 1577) z_cb12 (Nat.le_of_ble_eq_true rfl) (Nat.le_of_ble_eq_true rfl) (Nat.le_of_ble_eq_true rfl) rfl rfl rfl zw_1296 rfl ha (Or.inl rfl) dX12_connect_29 ?_
    refine z_nm (fun M_4 g_4 => ?_)
    replace hP := hP M_4 g_4
    have q_4 := z_k1 g_4
    have ha := z_kk q_4 ha
    refine z_aload_n dX12_connect_32 rfl 0 rfl ?_
    refine z_pc (pc' := 33) rfl ?_
    refine z_iload_n dX12_connect_33 rfl 1 rfl ?_
    refine z_puti (c := 12) (k := 42) (g := 1578) z_cb12 (Nat.le_of_ble_eq_true rfl) (Nat.le_of_ble_eq_true rfl) (Nat.le_of_ble_eq_true rfl) rfl rfl rfl zw_1297 rfl ha (Or.inl rfl) dX12_connect_34 ?_
    refine z_nm (fun M_5 g_5 => ?_)
    replace hP := hP M_5 g_5
    have q_5 := z_k1 g_5
    have ha := z_kk q_5 ha
    refine z_aload_n dX12_connect_37 rfl 0 rfl ?_
    refine z_bipush (v := 10) dX12_connect_38 (by decide) ?_
    refine z_puti (c := 12) (k := 45) (g := 1581) z_cb12 (Nat.le_of_ble_eq_true rfl) (Nat.le_of_ble_eq_true rfl) (Nat.le_of_ble_eq_true rfl) rfl rfl rfl zw_1300 rfl ha (Or.inl rfl) dX12_connect_40 ?_
    refine z_nm (fun M_6 g_6 => ?_)
    replace hP := hP M_6 g_6
    have q_6 := z_k1 g_6
    have ha := z_kk q_6 ha
    refine z_aload_n dX12_connect_43 rfl 0 rfl ?_
    refine z_pc (pc' := 44) rfl ?_
    refine z_wts (fun hT7 _ => ?_)
    refine z_cVv (c := 12) (n := 0) (Y1 := Y_X12_saysHello) (st := []) rfl ha z_cb12 (Nat.le_of_ble_eq_true rfl) rfl (s_X12_saysHello ha hP) rfl ⟨z_dc_X12_saysHello, ⟨(Nat.le_of_ble_eq_true rfl), (Nat.le_of_ble_eq_true rfl)⟩, (Nat.le_of_ble_eq_true rfl)⟩ rfl zw_1606 zw_1608 zp_35 zw_12 zw_1609 dX12_connect_44 (fun M_7 hP _ x7 => ?_)
    have ha := x7.k (k := 12) hT7 ha
    exact z_retv rfl dX12_connect_47 hP
set_option maxRecDepth 100000 in
set_option maxHeartbeats 4000000 in
theorem s_X12_connect {G : z_G} {M : z_Mem} {a : Nat} {p1 : Int32} {Post : z_Mem → Prop} (ha : z_ki M a = 13) (hP : P_X12_connect a p1 M Post) : z_Mt G Y_X12_connect M [z_O (some a), z_I p1] (z_PV Post) := by
  refine z_ofV (by decide) (Nat.le_of_ble_eq_true rfl) ?_
  unfold P_X12_connect at hP
  refine z_sub (lv' := [(0, z_O (some a)), (1, z_I p1)]) [0, 1] rfl ?_
  refine z_aload_n dX12_connect_0 rfl 0 rfl ?_
  refine z_iload_n dX12_connect_1 rfl 1 rfl ?_
  refine z_iconst (v := (-1)) dX12_connect_2 (by decide) ?_
  refine z_bipush (v := 9) dX12_connect_3 (by decide) ?_
  refine z_wts (fun hT8 _ => ?_)
  refine z_cSb (n := 3) (Y1 := Y_X12_in) (st := [z_O _]) rfl (s_X12_in  hP) rfl ⟨z_dc_X12_in, ⟨(Nat.le_of_ble_eq_true rfl), (Nat.le_of_ble_eq_true rfl)⟩, (Nat.le_of_ble_eq_true rfl)⟩ rfl zw_1552 zw_1553 zw_12 zw_1554 dX12_connect_5 (fun x_8 M_8 b8 hP _ x8 => ?_)
  have ha := x8.k (k := 12) hT8 ha
  refine z_aload_n dX12_connect_8 rfl 0 rfl ?_
  refine z_pc (pc' := 9) rfl ?_
  refine z_geti (c := 12) (k := 41) (g := 1577) z_cb12 (Nat.le_of_ble_eq_true rfl) (Nat.le_of_ble_eq_true rfl) rfl (Nat.le_of_ble_eq_true rfl) zw_1296 rfl ha dX12_connect_9 ?_
  refine z_if_ne (tgt := 19) dX12_connect_12 (by decide) (fun h10 => ?_) (fun h10 => ?_)
  · replace hP := hP.2 h10
    refine z_iconst (v := 0) dX12_connect_19 (by decide) ?_
    refine z_sub (lv' := [(0, z_O _), (1, z_I _)]) [0, 1] rfl ?_
    exact v_X12_connect_20  ha (z_trn rfl ha) b8 (Or.inl rfl) hP
  · replace hP := hP.1 h10
    refine z_iconst (v := 1) dX12_connect_15 (by decide) ?_
    refine z_goto (tgt := 20) dX12_connect_16 (by decide) ?_
    refine z_sub (lv' := [(0, z_O _), (1, z_I _)]) [0, 1] rfl ?_
    exact v_X12_connect_20  ha (z_trn rfl ha) b8 (Or.inr rfl) hP
def P_X12_write_49 (a : Nat) (Post : Int32 → z_Mem → Prop)  (x1 : Int32) (x2 : Int32) (t0 : Option Nat) (t1 : Int32) (t2 : Int32) (t3 : Int32) (M : z_Mem) : Prop := z_nn t0 fun a2 => (P_X12_goes a2 t1 t2 t3 M fun x_1 M_1 => (((x_1 = 0 → Post 0 M_1) ∧ (¬ x_1 = 0 → z_nn (z_fr M_1 1586 a) fun a5 => (vp_in x1 (z_ln M_1 a5) ∧ (vp_in x1 (z_ln M_1 a5) ∧ (∀ M_8 : z_Mem, M_8 = z_sai M_1 a5 ((x1 : Int32).toNatClampNeg) ((z_ai M_1 a5 ((x1 : Int32).toNatClampNeg)) + x2) → (z_nn (z_fr M_8 1586 a) fun a10 => (vp_in x1 (z_ln M_8 a10) ∧ (Post (z_ai M_8 a10 ((x1 : Int32).toNatClampNeg)) M_8))))))))))
def P_X12_write_48 (a : Nat) (Post : Int32 → z_Mem → Prop)  (x1 : Int32) (x2 : Int32) (t0 : Option Nat) (t1 : Int32) (t2 : Int32) (M : z_Mem) : Prop := P_X12_write_49 a Post x1 x2 t0 t1 t2 0 M
set_option maxRecDepth 100000 in
def P_X12_write (a : Nat) (p1 : Int32) (p2 : Int32) (M : z_Mem) (Post : Int32 → z_Mem → Prop) : Prop := P_X12_isStream p1 M fun x_12 M_12 => (P_X12_in p2 1 200 M_12 fun x_13 M_13 => (((x_12 = 0 → P_X12_write_48 a Post p1 p2 (some a) x_12 x_13 M_13) ∧ (¬ x_12 = 0 → P_X12_in p2 1 200 M_13 fun x_15 M_15 => (((x_15 = 0 → P_X12_write_48 a Post p1 p2 (some a) x_12 x_13 M_15) ∧ (¬ x_15 = 0 → z_nn (z_fr M_15 1586 a) fun a18 => (vp_in p1 (z_ln M_15 a18) ∧ (((200 < ((z_ai M_15 a18 ((p1 : Int32).toNatClampNeg)) + p2) → P_X12_write_48 a Post p1 p2 (some a) x_12 x_13 M_15) ∧ (¬ 200 < ((z_ai M_15 a18 ((p1 : Int32).toNatClampNeg)) + p2) → P_X12_write_49 a Post p1 p2 (some a) x_12 x_13 1 M_15)))))))))))
set_option maxRecDepth 100000 in
set_option maxHeartbeats 4000000 in
theorem v_X12_write_49 {G : z_G} {M0 : z_Mem} {a : Nat} {Post : Int32 → z_Mem → Prop}   {x1 : Int32} {x2 : Int32} {t0 : Option Nat} {t1 : Int32} {t2 : Int32} {t3 : Int32} {M : z_Mem} (ha : z_ki M a = 13) (f_t0 : z_tr M t0 13) (f_t1 : t1 = 0 ∨ t1 = 1) (f_t2 : t2 = 0 ∨ t2 = 1) (f_t3 : t3 = 0 ∨ t3 = 1) (hP : P_X12_write_49 a Post x1 x2 t0 t1 t2 t3 M) : z_V G Y_X12_write z_X0 M0 (z_QM G M0 (z_PI Post)) M 49 [(0, z_O (some a)), (1, z_I x1), (2, z_I x2)] [z_I t3, z_I t2, z_I t1, z_O t0] := by
  unfold P_X12_write_49 at hP
  obtain ⟨a2, e2, hP⟩ := hP
  have k2 := f_t0 a2 e2
  refine z_wts (fun hT1 _ => ?_)
  refine z_cVb (c := 12) (n := 3) (Y1 := Y_X12_goes) (st := []) e2 k2 z_cb12 (Nat.le_of_ble_eq_true rfl) rfl (s_X12_goes k2 f_t1 f_t2 f_t3 hP) rfl ⟨z_dc_X12_goes, ⟨(Nat.le_of_ble_eq_true rfl), (Nat.le_of_ble_eq_true rfl)⟩, (Nat.le_of_ble_eq_true rfl)⟩ rfl zw_1555 zw_1557 zp_31 zw_12 zw_1558 dX12_write_49 (fun x_1 M_1 b1 hP _ x1 => ?_)
  have ha := x1.k (k := 12) hT1 ha
  refine z_if_ne (tgt := 57) dX12_write_52 (by decide) (fun h3 => ?_) (fun h3 => ?_)
  · replace hP := hP.2 h3
    refine z_aload_n dX12_write_57 rfl 0 rfl ?_
    refine z_getr (c := 12) (k := 50) (g := 1586) (t := 20) z_cb12 (Nat.le_of_ble_eq_true rfl) (Nat.le_of_ble_eq_true rfl) rfl rfl zw_1305 rfl ha dX12_write_58 (fun f4 => ?_)
    refine z_iload_n dX12_write_61 rfl 1 rfl ?_
    refine z_dup2 dX12_write_62 rfl rfl ?_
    obtain ⟨a5, e5, hP⟩ := hP
    have k5 := f4 a5 e5
    obtain ⟨i6, hP⟩ := hP
    refine z_iald e5 k5 i6 dX12_write_63 ?_
    refine z_pc (pc' := 64) rfl ?_
    refine z_iload_n dX12_write_64 rfl 2 rfl ?_
    refine z_iadd dX12_write_65 ?_
    obtain ⟨i7, hP⟩ := hP
    refine z_iast e5 k5 i7 dX12_write_66 ?_
    refine z_nm (fun M_8 g_8 => ?_)
    replace hP := hP M_8 g_8
    have q_8 := z_k3 g_8
    have ha := z_kk q_8 ha
    refine z_aload_n dX12_write_67 rfl 0 rfl ?_
    refine z_getr (c := 12) (k := 50) (g := 1586) (t := 20) z_cb12 (Nat.le_of_ble_eq_true rfl) (Nat.le_of_ble_eq_true rfl) rfl rfl zw_1305 rfl ha dX12_write_68 (fun f9 => ?_)
    refine z_iload_n dX12_write_71 rfl 1 rfl ?_
    refine z_pc (pc' := 72) rfl ?_
    obtain ⟨a10, e10, hP⟩ := hP
    have k10 := f9 a10 e10
    obtain ⟨i11, hP⟩ := hP
    refine z_iald e10 k10 i11 dX12_write_72 ?_
    exact z_reti rfl dX12_write_73 hP
  · replace hP := hP.1 h3
    refine z_iconst (v := 0) dX12_write_55 (by decide) ?_
    exact z_reti rfl dX12_write_56 hP
set_option maxRecDepth 100000 in
set_option maxHeartbeats 4000000 in
theorem v_X12_write_48 {G : z_G} {M0 : z_Mem} {a : Nat} {Post : Int32 → z_Mem → Prop}   {x1 : Int32} {x2 : Int32} {t0 : Option Nat} {t1 : Int32} {t2 : Int32} {M : z_Mem} (ha : z_ki M a = 13) (f_t0 : z_tr M t0 13) (f_t1 : t1 = 0 ∨ t1 = 1) (f_t2 : t2 = 0 ∨ t2 = 1) (hP : P_X12_write_48 a Post x1 x2 t0 t1 t2 M) : z_V G Y_X12_write z_X0 M0 (z_QM G M0 (z_PI Post)) M 48 [(0, z_O (some a)), (1, z_I x1), (2, z_I x2)] [z_I t2, z_I t1, z_O t0] := by
  unfold P_X12_write_48 at hP
  refine z_iconst (v := 0) dX12_write_48 (by decide) ?_
  refine z_sub (lv' := [(0, z_O _), (1, z_I _), (2, z_I _)]) [0, 1, 2] rfl ?_
  exact v_X12_write_49  ha f_t0 f_t1 f_t2 (Or.inl rfl) hP
set_option maxRecDepth 100000 in
set_option maxHeartbeats 4000000 in
theorem s_X12_write {G : z_G} {M : z_Mem} {a : Nat} {p1 : Int32} {p2 : Int32} {Post : Int32 → z_Mem → Prop} (ha : z_ki M a = 13) (hP : P_X12_write a p1 p2 M Post) : z_Mt G Y_X12_write M [z_O (some a), z_I p1, z_I p2] (z_PI Post) := by
  refine z_ofV (by decide) (Nat.le_of_ble_eq_true rfl) ?_
  unfold P_X12_write at hP
  refine z_sub (lv' := [(0, z_O (some a)), (1, z_I p1), (2, z_I p2)]) [0, 1, 2] rfl ?_
  refine z_iload_n dX12_write_0 rfl 1 rfl ?_
  refine z_wts (fun hT12 _ => ?_)
  refine z_cSb (n := 1) (Y1 := Y_X12_isStream) (st := []) rfl (s_X12_isStream  hP) rfl ⟨z_dc_X12_isStream, ⟨(Nat.le_of_ble_eq_true rfl), (Nat.le_of_ble_eq_true rfl)⟩, (Nat.le_of_ble_eq_true rfl)⟩ rfl zw_1583 zw_1584 zw_12 zw_1585 dX12_write_1 (fun x_12 M_12 b12 hP _ x12 => ?_)
  have ha := x12.k (k := 12) hT12 ha
  refine z_istore_n (lv' := [(3, z_I _), (0, z_O _), (1, z_I _), (2, z_I _)]) dX12_write_4 rfl (Nat.le_of_ble_eq_true rfl) rfl ?_
  refine z_aload_n dX12_write_5 rfl 1 rfl ?_
  refine z_iload_n dX12_write_6 rfl 0 rfl ?_
  refine z_iload_n dX12_write_7 rfl 3 rfl ?_
  refine z_pc (pc' := 8) rfl ?_
  refine z_iconst (v := 1) dX12_write_8 (by decide) ?_
  refine z_sipush (v := 200) dX12_write_9 (by decide) ?_
  refine z_wts (fun hT13 _ => ?_)
  refine z_cSb (n := 3) (Y1 := Y_X12_in) (st := [z_I _, z_O _]) rfl (s_X12_in  hP) rfl ⟨z_dc_X12_in, ⟨(Nat.le_of_ble_eq_true rfl), (Nat.le_of_ble_eq_true rfl)⟩, (Nat.le_of_ble_eq_true rfl)⟩ rfl zw_1552 zw_1553 zw_12 zw_1554 dX12_write_12 (fun x_13 M_13 b13 hP _ x13 => ?_)
  have ha := x13.k (k := 12) hT13 ha
  refine z_iload_n dX12_write_15 rfl 0 rfl ?_
  refine z_if_eq (tgt := 48) dX12_write_16 (by decide) (fun h14 => ?_) (fun h14 => ?_)
  · replace hP := hP.1 h14
    refine z_sub (lv' := [(0, z_O _), (1, z_I _), (2, z_I _)]) [1, 2, 3] rfl ?_
    exact v_X12_write_48  ha (z_trn rfl ha) b12 b13 hP
  · replace hP := hP.2 h14
    refine z_iload_n dX12_write_19 rfl 3 rfl ?_
    refine z_iconst (v := 1) dX12_write_20 (by decide) ?_
    refine z_pc (pc' := 21) rfl ?_
    refine z_sipush (v := 200) dX12_write_21 (by decide) ?_
    refine z_wts (fun hT15 _ => ?_)
    refine z_cSb (n := 3) (Y1 := Y_X12_in) (st := [z_I _, z_I _, z_O _]) rfl (s_X12_in  hP) rfl ⟨z_dc_X12_in, ⟨(Nat.le_of_ble_eq_true rfl), (Nat.le_of_ble_eq_true rfl)⟩, (Nat.le_of_ble_eq_true rfl)⟩ rfl zw_1552 zw_1553 zw_12 zw_1554 dX12_write_24 (fun x_15 M_15 b15 hP _ x15 => ?_)
    have ha := x15.k (k := 12) hT15 ha
    refine z_if_eq (tgt := 48) dX12_write_27 (by decide) (fun h16 => ?_) (fun h16 => ?_)
    · replace hP := hP.1 h16
      refine z_sub (lv' := [(0, z_O _), (1, z_I _), (2, z_I _)]) [1, 2, 3] rfl ?_
      exact v_X12_write_48  ha (z_trn rfl ha) b12 b13 hP
    · replace hP := hP.2 h16
      refine z_aload_n dX12_write_30 rfl 1 rfl ?_
      refine z_getr (c := 12) (k := 50) (g := 1586) (t := 20) z_cb12 (Nat.le_of_ble_eq_true rfl) (Nat.le_of_ble_eq_true rfl) rfl rfl zw_1305 rfl ha dX12_write_31 (fun f17 => ?_)
      refine z_iload_n dX12_write_34 rfl 2 rfl ?_
      obtain ⟨a18, e18, hP⟩ := hP
      have k18 := f17 a18 e18
      obtain ⟨i19, hP⟩ := hP
      refine z_iald e18 k18 i19 dX12_write_35 ?_
      refine z_pc (pc' := 36) rfl ?_
      refine z_iload_n dX12_write_36 rfl 3 rfl ?_
      refine z_iadd dX12_write_37 ?_
      refine z_sipush (v := 200) dX12_write_38 (by decide) ?_
      refine z_icmp_gt (tgt := 48) dX12_write_41 (by decide) (fun h20 => ?_) (fun h20 => ?_)
      · replace hP := hP.1 h20
        refine z_sub (lv' := [(0, z_O _), (1, z_I _), (2, z_I _)]) [1, 2, 3] rfl ?_
        exact v_X12_write_48  ha (z_trn rfl ha) b12 b13 hP
      · replace hP := hP.2 h20
        refine z_iconst (v := 1) dX12_write_44 (by decide) ?_
        refine z_goto (tgt := 49) dX12_write_45 (by decide) ?_
        refine z_sub (lv' := [(0, z_O _), (1, z_I _), (2, z_I _)]) [1, 2, 3] rfl ?_
        exact v_X12_write_49  ha (z_trn rfl ha) b12 b13 (Or.inr rfl) hP
set_option maxRecDepth 100000 in
def P_X12_setWay (a : Nat) (p1 : Int32) (p2 : Int32) (M : z_Mem) (Post : Int32 → z_Mem → Prop) : Prop := P_X12_isPath p1 M fun x_1 M_1 => (P_X12_in p2 0 2 M_1 fun x_2 M_2 => (P_X12_goes a x_1 x_2 1 M_2 fun x_3 M_3 => (((x_3 = 0 → Post 0 M_3) ∧ (¬ x_3 = 0 → z_nn (z_fr M_3 1609 a) fun a6 => (vp_in p1 (z_ln M_3 a6) ∧ (∀ x_8 : Int32, x_8 = (z_ai M_3 a6 ((p1 : Int32).toNatClampNeg)) → (z_nn (z_fr M_3 1609 a) fun a10 => (vp_in p1 (z_ln M_3 a10) ∧ (∀ M_12 : z_Mem, M_12 = z_sai M_3 a10 ((p1 : Int32).toNatClampNeg) p2 → (Post x_8 M_12)))))))))))
set_option maxRecDepth 100000 in
set_option maxHeartbeats 4000000 in
theorem s_X12_setWay {G : z_G} {M : z_Mem} {a : Nat} {p1 : Int32} {p2 : Int32} {Post : Int32 → z_Mem → Prop} (ha : z_ki M a = 13) (hP : P_X12_setWay a p1 p2 M Post) : z_Mt G Y_X12_setWay M [z_O (some a), z_I p1, z_I p2] (z_PI Post) := by
  refine z_ofV (by decide) (Nat.le_of_ble_eq_true rfl) ?_
  unfold P_X12_setWay at hP
  refine z_sub (lv' := [(0, z_O (some a)), (1, z_I p1), (2, z_I p2)]) [0, 1, 2] rfl ?_
  refine z_aload_n dX12_setWay_0 rfl 0 rfl ?_
  refine z_iload_n dX12_setWay_1 rfl 1 rfl ?_
  refine z_wts (fun hT1 _ => ?_)
  refine z_cSb (n := 1) (Y1 := Y_X12_isPath) (st := [z_O _]) rfl (s_X12_isPath  hP) rfl ⟨z_dc_X12_isPath, ⟨(Nat.le_of_ble_eq_true rfl), (Nat.le_of_ble_eq_true rfl)⟩, (Nat.le_of_ble_eq_true rfl)⟩ rfl zw_1549 zw_1550 zw_12 zw_1551 dX12_setWay_2 (fun x_1 M_1 b1 hP _ x1 => ?_)
  have ha := x1.k (k := 12) hT1 ha
  refine z_iload_n dX12_setWay_5 rfl 2 rfl ?_
  refine z_iconst (v := 0) dX12_setWay_6 (by decide) ?_
  refine z_iconst (v := 2) dX12_setWay_7 (by decide) ?_
  refine z_pc (pc' := 8) rfl ?_
  refine z_wts (fun hT2 _ => ?_)
  refine z_cSb (n := 3) (Y1 := Y_X12_in) (st := [z_I _, z_O _]) rfl (s_X12_in  hP) rfl ⟨z_dc_X12_in, ⟨(Nat.le_of_ble_eq_true rfl), (Nat.le_of_ble_eq_true rfl)⟩, (Nat.le_of_ble_eq_true rfl)⟩ rfl zw_1552 zw_1553 zw_12 zw_1554 dX12_setWay_8 (fun x_2 M_2 b2 hP _ x2 => ?_)
  have ha := x2.k (k := 12) hT2 ha
  refine z_iconst (v := 1) dX12_setWay_11 (by decide) ?_
  refine z_wts (fun hT3 _ => ?_)
  refine z_cVb (c := 12) (n := 3) (Y1 := Y_X12_goes) (st := []) rfl ha z_cb12 (Nat.le_of_ble_eq_true rfl) rfl (s_X12_goes ha b1 b2 (Or.inr rfl) hP) rfl ⟨z_dc_X12_goes, ⟨(Nat.le_of_ble_eq_true rfl), (Nat.le_of_ble_eq_true rfl)⟩, (Nat.le_of_ble_eq_true rfl)⟩ rfl zw_1555 zw_1557 zp_31 zw_12 zw_1558 dX12_setWay_12 (fun x_3 M_3 b3 hP _ x3 => ?_)
  have ha := x3.k (k := 12) hT3 ha
  refine z_if_ne (tgt := 20) dX12_setWay_15 (by decide) (fun h4 => ?_) (fun h4 => ?_)
  · replace hP := hP.2 h4
    refine z_aload_n dX12_setWay_20 rfl 0 rfl ?_
    refine z_getr (c := 12) (k := 73) (g := 1609) (t := 20) z_cb12 (Nat.le_of_ble_eq_true rfl) (Nat.le_of_ble_eq_true rfl) rfl rfl zw_1328 rfl ha dX12_setWay_21 (fun f5 => ?_)
    refine z_iload_n dX12_setWay_24 rfl 1 rfl ?_
    refine z_pc (pc' := 25) rfl ?_
    obtain ⟨a6, e6, hP⟩ := hP
    have k6 := f5 a6 e6
    obtain ⟨i7, hP⟩ := hP
    refine z_iald e6 k6 i7 dX12_setWay_25 ?_
    refine z_topi (fun x_8 y_8 => ?_)
    replace hP := hP x_8 y_8
    refine z_istore_n (lv' := [(3, z_I _), (0, z_O _), (1, z_I _), (2, z_I _)]) dX12_setWay_26 rfl (Nat.le_of_ble_eq_true rfl) rfl ?_
    refine z_aload_n dX12_setWay_27 rfl 1 rfl ?_
    refine z_getr (c := 12) (k := 73) (g := 1609) (t := 20) z_cb12 (Nat.le_of_ble_eq_true rfl) (Nat.le_of_ble_eq_true rfl) rfl rfl zw_1328 rfl ha dX12_setWay_28 (fun f9 => ?_)
    refine z_iload_n dX12_setWay_31 rfl 2 rfl ?_
    refine z_iload_n dX12_setWay_32 rfl 3 rfl ?_
    refine z_pc (pc' := 33) rfl ?_
    obtain ⟨a10, e10, hP⟩ := hP
    have k10 := f9 a10 e10
    obtain ⟨i11, hP⟩ := hP
    refine z_iast e10 k10 i11 dX12_setWay_33 ?_
    refine z_nm (fun M_12 g_12 => ?_)
    replace hP := hP M_12 g_12
    have q_12 := z_k3 g_12
    have ha := z_kk q_12 ha
    refine z_iload_n dX12_setWay_34 rfl 0 rfl ?_
    exact z_reti rfl dX12_setWay_35 hP
  · replace hP := hP.1 h4
    refine z_iconst (v := 0) dX12_setWay_18 (by decide) ?_
    exact z_reti rfl dX12_setWay_19 hP
set_option maxRecDepth 100000 in
def P_X12_check (a : Nat) (p1 : Int32) (M : z_Mem) (Post : z_Mem → Prop) : Prop := P_X12_isPath p1 M fun x_1 M_1 => ((((z_fi M_1 1577 a) = 2 → P_X12_goes a x_1 1 1 M_1 fun x_7 M_7 => (((x_7 = 0 → Post M_7) ∧ (¬ x_7 = 0 → P_X12_puts a p1 3 0 M_7 fun M_9 => (Post M_9))))) ∧ (¬ (z_fi M_1 1577 a) = 2 → P_X12_goes a x_1 0 1 M_1 fun x_4 M_4 => (((x_4 = 0 → Post M_4) ∧ (¬ x_4 = 0 → P_X12_puts a p1 3 0 M_4 fun M_6 => (Post M_6)))))))
set_option maxRecDepth 100000 in
set_option maxHeartbeats 4000000 in
theorem s_X12_check {G : z_G} {M : z_Mem} {a : Nat} {p1 : Int32} {Post : z_Mem → Prop} (ha : z_ki M a = 13) (hP : P_X12_check a p1 M Post) : z_Mt G Y_X12_check M [z_O (some a), z_I p1] (z_PV Post) := by
  refine z_ofV (by decide) (Nat.le_of_ble_eq_true rfl) ?_
  unfold P_X12_check at hP
  refine z_sub (lv' := [(0, z_O (some a)), (1, z_I p1)]) [0, 1] rfl ?_
  refine z_aload_n dX12_check_0 rfl 0 rfl ?_
  refine z_iload_n dX12_check_1 rfl 1 rfl ?_
  refine z_wts (fun hT1 _ => ?_)
  refine z_cSb (n := 1) (Y1 := Y_X12_isPath) (st := [z_O _]) rfl (s_X12_isPath  hP) rfl ⟨z_dc_X12_isPath, ⟨(Nat.le_of_ble_eq_true rfl), (Nat.le_of_ble_eq_true rfl)⟩, (Nat.le_of_ble_eq_true rfl)⟩ rfl zw_1549 zw_1550 zw_12 zw_1551 dX12_check_2 (fun x_1 M_1 b1 hP _ x1 => ?_)
  have ha := x1.k (k := 12) hT1 ha
  refine z_aload_n dX12_check_5 rfl 0 rfl ?_
  refine z_geti (c := 12) (k := 41) (g := 1577) z_cb12 (Nat.le_of_ble_eq_true rfl) (Nat.le_of_ble_eq_true rfl) rfl (Nat.le_of_ble_eq_true rfl) zw_1296 rfl ha dX12_check_6 ?_
  refine z_iconst (v := 2) dX12_check_9 (by decide) ?_
  refine z_pc (pc' := 10) rfl ?_
  refine z_icmp_ne (tgt := 17) dX12_check_10 (by decide) (fun h3 => ?_) (fun h3 => ?_)
  · replace hP := hP.2 h3
    refine z_iconst (v := 0) dX12_check_17 (by decide) ?_
    refine z_iconst (v := 1) dX12_check_18 (by decide) ?_
    refine z_wts (fun hT4 _ => ?_)
    refine z_cVb (c := 12) (n := 3) (Y1 := Y_X12_goes) (st := []) rfl ha z_cb12 (Nat.le_of_ble_eq_true rfl) rfl (s_X12_goes ha b1 (Or.inl rfl) (Or.inr rfl) hP) rfl ⟨z_dc_X12_goes, ⟨(Nat.le_of_ble_eq_true rfl), (Nat.le_of_ble_eq_true rfl)⟩, (Nat.le_of_ble_eq_true rfl)⟩ rfl zw_1555 zw_1557 zp_31 zw_12 zw_1558 dX12_check_19 (fun x_4 M_4 b4 hP _ x4 => ?_)
    have ha := x4.k (k := 12) hT4 ha
    refine z_if_eq (tgt := 32) dX12_check_22 (by decide) (fun h5 => ?_) (fun h5 => ?_)
    · replace hP := hP.1 h5
      exact z_retv rfl dX12_check_32 hP
    · replace hP := hP.2 h5
      refine z_aload_n dX12_check_25 rfl 0 rfl ?_
      refine z_iload_n dX12_check_26 rfl 1 rfl ?_
      refine z_iconst (v := 3) dX12_check_27 (by decide) ?_
      refine z_pc (pc' := 28) rfl ?_
      refine z_iconst (v := 0) dX12_check_28 (by decide) ?_
      refine z_wts (fun hT6 _ => ?_)
      refine z_cVv (c := 12) (n := 3) (Y1 := Y_X12_puts) (st := []) rfl ha z_cb12 (Nat.le_of_ble_eq_true rfl) rfl (s_X12_puts ha hP) rfl ⟨z_dc_X12_puts, ⟨(Nat.le_of_ble_eq_true rfl), (Nat.le_of_ble_eq_true rfl)⟩, (Nat.le_of_ble_eq_true rfl)⟩ rfl zw_1610 zw_1612 zp_36 zw_12 zw_1613 dX12_check_29 (fun M_6 hP _ x6 => ?_)
      have ha := x6.k (k := 12) hT6 ha
      exact z_retv rfl dX12_check_32 hP
  · replace hP := hP.1 h3
    refine z_iconst (v := 1) dX12_check_13 (by decide) ?_
    refine z_goto (tgt := 18) dX12_check_14 (by decide) ?_
    refine z_iconst (v := 1) dX12_check_18 (by decide) ?_
    refine z_wts (fun hT7 _ => ?_)
    refine z_cVb (c := 12) (n := 3) (Y1 := Y_X12_goes) (st := []) rfl ha z_cb12 (Nat.le_of_ble_eq_true rfl) rfl (s_X12_goes ha b1 (Or.inr rfl) (Or.inr rfl) hP) rfl ⟨z_dc_X12_goes, ⟨(Nat.le_of_ble_eq_true rfl), (Nat.le_of_ble_eq_true rfl)⟩, (Nat.le_of_ble_eq_true rfl)⟩ rfl zw_1555 zw_1557 zp_31 zw_12 zw_1558 dX12_check_19 (fun x_7 M_7 b7 hP _ x7 => ?_)
    have ha := x7.k (k := 12) hT7 ha
    refine z_if_eq (tgt := 32) dX12_check_22 (by decide) (fun h8 => ?_) (fun h8 => ?_)
    · replace hP := hP.1 h8
      exact z_retv rfl dX12_check_32 hP
    · replace hP := hP.2 h8
      refine z_aload_n dX12_check_25 rfl 0 rfl ?_
      refine z_iload_n dX12_check_26 rfl 1 rfl ?_
      refine z_iconst (v := 3) dX12_check_27 (by decide) ?_
      refine z_pc (pc' := 28) rfl ?_
      refine z_iconst (v := 0) dX12_check_28 (by decide) ?_
      refine z_wts (fun hT9 _ => ?_)
      refine z_cVv (c := 12) (n := 3) (Y1 := Y_X12_puts) (st := []) rfl ha z_cb12 (Nat.le_of_ble_eq_true rfl) rfl (s_X12_puts ha hP) rfl ⟨z_dc_X12_puts, ⟨(Nat.le_of_ble_eq_true rfl), (Nat.le_of_ble_eq_true rfl)⟩, (Nat.le_of_ble_eq_true rfl)⟩ rfl zw_1610 zw_1612 zp_36 zw_12 zw_1613 dX12_check_29 (fun M_9 hP _ x9 => ?_)
      have ha := x9.k (k := 12) hT9 ha
      exact z_retv rfl dX12_check_32 hP
def P_X12_use_45 (a : Nat) (Post : Int32 → z_Mem → Prop)  (x1 : Int32) (t0 : Option Nat) (t1 : Int32) (t2 : Int32) (M : z_Mem) : Prop := z_nn t0 fun a2 => (P_X12_goes a2 t1 t2 1 M fun x_1 M_1 => (((x_1 = 0 → Post 0 M_1) ∧ (¬ x_1 = 0 → ∀ x_5 : Int32, x_5 = (z_fi M_1 1583 a) → (∀ M_6 : z_Mem, M_6 = z_sfi M_1 1583 a x1 → (Post x_5 M_6))))))
def P_X12_use_40 (a : Nat) (Post : Int32 → z_Mem → Prop)  (x1 : Int32) (t0 : Option Nat) (t1 : Int32) (M : z_Mem) : Prop := P_X12_use_45 a Post x1 t0 t1 1 M
def P_X12_use_44 (a : Nat) (Post : Int32 → z_Mem → Prop)  (x1 : Int32) (t0 : Option Nat) (t1 : Int32) (M : z_Mem) : Prop := P_X12_use_45 a Post x1 t0 t1 0 M
def P_X12_use_27 (a : Nat) (Post : Int32 → z_Mem → Prop)  (x1 : Int32) (t0 : Option Nat) (t1 : Int32) (M : z_Mem) : Prop := ((x1 = 0 → P_X12_use_40 a Post x1 t0 t1 M) ∧ (¬ x1 = 0 → z_nn (z_fr M 1615 a) fun a9 => (vp_in 1 (z_ln M a9) ∧ ((((z_ai M a9 ((1 : Int32).toNatClampNeg)) = 0 → P_X12_use_44 a Post x1 t0 t1 M) ∧ (¬ (z_ai M a9 ((1 : Int32).toNatClampNeg)) = 0 → P_X12_use_40 a Post x1 t0 t1 M))))))
set_option maxRecDepth 100000 in
def P_X12_use (a : Nat) (p1 : Int32) (M : z_Mem) (Post : Int32 → z_Mem → Prop) : Prop := P_X12_in p1 0 2 M fun x_12 M_12 => (((x_12 = 0 → P_X12_use_44 a Post p1 (some a) x_12 M_12) ∧ (¬ x_12 = 0 → ((p1 = 1 → P_X12_use_27 a Post p1 (some a) x_12 M_12) ∧ (¬ p1 = 1 → z_nn (z_fr M_12 1615 a) fun a16 => (vp_in 0 (z_ln M_12 a16) ∧ ((((z_ai M_12 a16 ((0 : Int32).toNatClampNeg)) = 0 → P_X12_use_44 a Post p1 (some a) x_12 M_12) ∧ (¬ (z_ai M_12 a16 ((0 : Int32).toNatClampNeg)) = 0 → P_X12_use_27 a Post p1 (some a) x_12 M_12)))))))))
set_option maxRecDepth 100000 in
set_option maxHeartbeats 4000000 in
theorem v_X12_use_45 {G : z_G} {M0 : z_Mem} {a : Nat} {Post : Int32 → z_Mem → Prop}   {x1 : Int32} {t0 : Option Nat} {t1 : Int32} {t2 : Int32} {M : z_Mem} (ha : z_ki M a = 13) (f_t0 : z_tr M t0 13) (f_t1 : t1 = 0 ∨ t1 = 1) (f_t2 : t2 = 0 ∨ t2 = 1) (hP : P_X12_use_45 a Post x1 t0 t1 t2 M) : z_V G Y_X12_use z_X0 M0 (z_QM G M0 (z_PI Post)) M 45 [(0, z_O (some a)), (1, z_I x1)] [z_I t2, z_I t1, z_O t0] := by
  unfold P_X12_use_45 at hP
  refine z_iconst (v := 1) dX12_use_45 (by decide) ?_
  obtain ⟨a2, e2, hP⟩ := hP
  have k2 := f_t0 a2 e2
  refine z_wts (fun hT1 _ => ?_)
  refine z_cVb (c := 12) (n := 3) (Y1 := Y_X12_goes) (st := []) e2 k2 z_cb12 (Nat.le_of_ble_eq_true rfl) rfl (s_X12_goes k2 f_t1 f_t2 (Or.inr rfl) hP) rfl ⟨z_dc_X12_goes, ⟨(Nat.le_of_ble_eq_true rfl), (Nat.le_of_ble_eq_true rfl)⟩, (Nat.le_of_ble_eq_true rfl)⟩ rfl zw_1555 zw_1557 zp_31 zw_12 zw_1558 dX12_use_46 (fun x_1 M_1 b1 hP _ x1 => ?_)
  have ha := x1.k (k := 12) hT1 ha
  refine z_if_ne (tgt := 54) dX12_use_49 (by decide) (fun h3 => ?_) (fun h3 => ?_)
  · replace hP := hP.2 h3
    refine z_aload_n dX12_use_54 rfl 0 rfl ?_
    refine z_geti (c := 12) (k := 47) (g := 1583) z_cb12 (Nat.le_of_ble_eq_true rfl) (Nat.le_of_ble_eq_true rfl) rfl (Nat.le_of_ble_eq_true rfl) zw_1302 rfl ha dX12_use_55 ?_
    refine z_topi (fun x_5 y_5 => ?_)
    replace hP := hP x_5 y_5
    refine z_istore_n (lv' := [(3, z_I _), (0, z_O _), (1, z_I _)]) dX12_use_58 rfl (Nat.le_of_ble_eq_true rfl) rfl ?_
    refine z_aload_n dX12_use_59 rfl 1 rfl ?_
    refine z_pc (pc' := 60) rfl ?_
    refine z_iload_n dX12_use_60 rfl 2 rfl ?_
    refine z_puti (c := 12) (k := 47) (g := 1583) z_cb12 (Nat.le_of_ble_eq_true rfl) (Nat.le_of_ble_eq_true rfl) (Nat.le_of_ble_eq_true rfl) rfl rfl rfl zw_1302 rfl ha (Or.inl rfl) dX12_use_61 ?_
    refine z_nm (fun M_6 g_6 => ?_)
    replace hP := hP M_6 g_6
    have q_6 := z_k1 g_6
    have ha := z_kk q_6 ha
    refine z_iload_n dX12_use_64 rfl 0 rfl ?_
    exact z_reti rfl dX12_use_65 hP
  · replace hP := hP.1 h3
    refine z_iconst (v := 0) dX12_use_52 (by decide) ?_
    exact z_reti rfl dX12_use_53 hP
set_option maxRecDepth 100000 in
set_option maxHeartbeats 4000000 in
theorem v_X12_use_40 {G : z_G} {M0 : z_Mem} {a : Nat} {Post : Int32 → z_Mem → Prop}   {x1 : Int32} {t0 : Option Nat} {t1 : Int32} {M : z_Mem} (ha : z_ki M a = 13) (f_t0 : z_tr M t0 13) (f_t1 : t1 = 0 ∨ t1 = 1) (hP : P_X12_use_40 a Post x1 t0 t1 M) : z_V G Y_X12_use z_X0 M0 (z_QM G M0 (z_PI Post)) M 40 [(0, z_O (some a)), (1, z_I x1)] [z_I t1, z_O t0] := by
  unfold P_X12_use_40 at hP
  refine z_iconst (v := 1) dX12_use_40 (by decide) ?_
  refine z_goto (tgt := 45) dX12_use_41 (by decide) ?_
  refine z_sub (lv' := [(0, z_O _), (1, z_I _)]) [0, 1] rfl ?_
  exact v_X12_use_45  ha f_t0 f_t1 (Or.inr rfl) hP
set_option maxRecDepth 100000 in
set_option maxHeartbeats 4000000 in
theorem v_X12_use_44 {G : z_G} {M0 : z_Mem} {a : Nat} {Post : Int32 → z_Mem → Prop}   {x1 : Int32} {t0 : Option Nat} {t1 : Int32} {M : z_Mem} (ha : z_ki M a = 13) (f_t0 : z_tr M t0 13) (f_t1 : t1 = 0 ∨ t1 = 1) (hP : P_X12_use_44 a Post x1 t0 t1 M) : z_V G Y_X12_use z_X0 M0 (z_QM G M0 (z_PI Post)) M 44 [(0, z_O (some a)), (1, z_I x1)] [z_I t1, z_O t0] := by
  unfold P_X12_use_44 at hP
  refine z_iconst (v := 0) dX12_use_44 (by decide) ?_
  refine z_sub (lv' := [(0, z_O _), (1, z_I _)]) [0, 1] rfl ?_
  exact v_X12_use_45  ha f_t0 f_t1 (Or.inl rfl) hP
set_option maxRecDepth 100000 in
set_option maxHeartbeats 4000000 in
theorem v_X12_use_27 {G : z_G} {M0 : z_Mem} {a : Nat} {Post : Int32 → z_Mem → Prop}   {x1 : Int32} {t0 : Option Nat} {t1 : Int32} {M : z_Mem} (ha : z_ki M a = 13) (f_t0 : z_tr M t0 13) (f_t1 : t1 = 0 ∨ t1 = 1) (hP : P_X12_use_27 a Post x1 t0 t1 M) : z_V G Y_X12_use z_X0 M0 (z_QM G M0 (z_PI Post)) M 27 [(0, z_O (some a)), (1, z_I x1)] [z_I t1, z_O t0] := by
  unfold P_X12_use_27 at hP
  refine z_iload_n dX12_use_27 rfl 1 rfl ?_
  refine z_if_eq (tgt := 40) dX12_use_28 (by decide) (fun h7 => ?_) (fun h7 => ?_)
  · replace hP := hP.1 h7
    refine z_sub (lv' := [(0, z_O _), (1, z_I _)]) [0, 1] rfl ?_
    exact v_X12_use_40  ha f_t0 f_t1 hP
  · replace hP := hP.2 h7
    refine z_aload_n dX12_use_31 rfl 0 rfl ?_
    refine z_getr (c := 12) (k := 79) (g := 1615) (t := 21) z_cb12 (Nat.le_of_ble_eq_true rfl) (Nat.le_of_ble_eq_true rfl) rfl rfl zw_1334 rfl ha dX12_use_32 (fun f8 => ?_)
    refine z_iconst (v := 1) dX12_use_35 (by decide) ?_
    obtain ⟨a9, e9, hP⟩ := hP
    have k9 := f8 a9 e9
    obtain ⟨i10, hP⟩ := hP
    refine z_zald e9 k9 i10 dX12_use_36 (fun b10 => ?_)
    refine z_if_eq (tgt := 44) dX12_use_37 (by decide) (fun h11 => ?_) (fun h11 => ?_)
    · replace hP := hP.1 h11
      refine z_sub (lv' := [(0, z_O _), (1, z_I _)]) [0, 1] rfl ?_
      exact v_X12_use_44  ha f_t0 f_t1 hP
    · replace hP := hP.2 h11
      refine z_sub (lv' := [(0, z_O _), (1, z_I _)]) [0, 1] rfl ?_
      exact v_X12_use_40  ha f_t0 f_t1 hP
set_option maxRecDepth 100000 in
set_option maxHeartbeats 4000000 in
theorem s_X12_use {G : z_G} {M : z_Mem} {a : Nat} {p1 : Int32} {Post : Int32 → z_Mem → Prop} (ha : z_ki M a = 13) (hP : P_X12_use a p1 M Post) : z_Mt G Y_X12_use M [z_O (some a), z_I p1] (z_PI Post) := by
  refine z_ofV (by decide) (Nat.le_of_ble_eq_true rfl) ?_
  unfold P_X12_use at hP
  refine z_sub (lv' := [(0, z_O (some a)), (1, z_I p1)]) [0, 1] rfl ?_
  refine z_iload_n dX12_use_0 rfl 1 rfl ?_
  refine z_iconst (v := 0) dX12_use_1 (by decide) ?_
  refine z_iconst (v := 2) dX12_use_2 (by decide) ?_
  refine z_wts (fun hT12 _ => ?_)
  refine z_cSb (n := 3) (Y1 := Y_X12_in) (st := []) rfl (s_X12_in  hP) rfl ⟨z_dc_X12_in, ⟨(Nat.le_of_ble_eq_true rfl), (Nat.le_of_ble_eq_true rfl)⟩, (Nat.le_of_ble_eq_true rfl)⟩ rfl zw_1552 zw_1553 zw_12 zw_1554 dX12_use_3 (fun x_12 M_12 b12 hP _ x12 => ?_)
  have ha := x12.k (k := 12) hT12 ha
  refine z_istore_n (lv' := [(2, z_I _), (0, z_O _), (1, z_I _)]) dX12_use_6 rfl (Nat.le_of_ble_eq_true rfl) rfl ?_
  refine z_aload_n dX12_use_7 rfl 1 rfl ?_
  refine z_pc (pc' := 8) rfl ?_
  refine z_iload_n dX12_use_8 rfl 0 rfl ?_
  refine z_iload_n dX12_use_9 rfl 0 rfl ?_
  refine z_if_eq (tgt := 44) dX12_use_10 (by decide) (fun h13 => ?_) (fun h13 => ?_)
  · replace hP := hP.1 h13
    refine z_sub (lv' := [(0, z_O _), (1, z_I _)]) [1, 2] rfl ?_
    exact v_X12_use_44  ha (z_trn rfl ha) b12 hP
  · replace hP := hP.2 h13
    refine z_iload_n dX12_use_13 rfl 2 rfl ?_
    refine z_iconst (v := 1) dX12_use_14 (by decide) ?_
    refine z_icmp_eq (tgt := 27) dX12_use_15 (by decide) (fun h14 => ?_) (fun h14 => ?_)
    · replace hP := hP.1 h14
      refine z_sub (lv' := [(0, z_O _), (1, z_I _)]) [1, 2] rfl ?_
      exact v_X12_use_27  ha (z_trn rfl ha) b12 hP
    · replace hP := hP.2 h14
      refine z_aload_n dX12_use_18 rfl 1 rfl ?_
      refine z_getr (c := 12) (k := 79) (g := 1615) (t := 21) z_cb12 (Nat.le_of_ble_eq_true rfl) (Nat.le_of_ble_eq_true rfl) rfl rfl zw_1334 rfl ha dX12_use_19 (fun f15 => ?_)
      refine z_pc (pc' := 22) rfl ?_
      refine z_iconst (v := 0) dX12_use_22 (by decide) ?_
      obtain ⟨a16, e16, hP⟩ := hP
      have k16 := f15 a16 e16
      obtain ⟨i17, hP⟩ := hP
      refine z_zald e16 k16 i17 dX12_use_23 (fun b17 => ?_)
      refine z_if_eq (tgt := 44) dX12_use_24 (by decide) (fun h18 => ?_) (fun h18 => ?_)
      · replace hP := hP.1 h18
        refine z_sub (lv' := [(0, z_O _), (1, z_I _)]) [1, 2] rfl ?_
        exact v_X12_use_44  ha (z_trn rfl ha) b12 hP
      · replace hP := hP.2 h18
        refine z_sub (lv' := [(0, z_O _), (1, z_I _)]) [1, 2] rfl ?_
        exact v_X12_use_27  ha (z_trn rfl ha) b12 hP
def P_X12_changeKey_54 (a : Nat) (Post : Int32 → z_Mem → Prop) (J4 : Int32 → Int32 → z_Mem → Prop) (x2 : Int32) (t0 : Int32) (M : z_Mem) : Prop := ∀ x_1 : Int32, x_1 = x2 + 1 → (J4 t0 x_1 M)
def P_X12_changeKey_49 (a : Nat) (Post : Int32 → z_Mem → Prop) (J4 : Int32 → Int32 → z_Mem → Prop) (x2 : Int32) (M : z_Mem) : Prop := P_X12_changeKey_54 a Post J4 x2 1 M
def P_X12_changeKey_53 (a : Nat) (Post : Int32 → z_Mem → Prop) (J4 : Int32 → Int32 → z_Mem → Prop) (x2 : Int32) (M : z_Mem) : Prop := P_X12_changeKey_54 a Post J4 x2 0 M
def P_X12_changeKey_79 (a : Nat) (Post : Int32 → z_Mem → Prop)  (t0 : Option Nat) (t1 : Int32) (M : z_Mem) : Prop := z_nn t0 fun a3 => (P_X12_goes a3 t1 1 1 M fun x_2 M_2 => (((x_2 = 0 → Post 0 M_2) ∧ (¬ x_2 = 0 → ∀ M_6 : z_Mem, M_6 = z_sfi M_2 1584 a ((z_fi M_2 1584 a) + 1) → (Post (z_fi M_6 1584 a) M_6)))))
def P_X12_changeKey_78 (a : Nat) (Post : Int32 → z_Mem → Prop)  (t0 : Option Nat) (M : z_Mem) : Prop := P_X12_changeKey_79 a Post t0 0 M
set_option maxRecDepth 100000 in
def P_X12_changeKey_4 (a : Nat) (Post : Int32 → z_Mem → Prop)  : Nat → Int32 → Int32 → z_Mem → Prop
  | 0, _, _, _ => False
  | n + 1, x1, x2, M => (((z_fi M 1606 a) ≤ x2 → (((z_fi M 1577 a) = 2 → ((x1 = 0 → P_X12_changeKey_78 a Post (some a) M) ∧ (¬ x1 = 0 → P_X12_changeKey_79 a Post (some a) 1 M))) ∧ (¬ (z_fi M 1577 a) = 2 → P_X12_changeKey_78 a Post (some a) M))) ∧ (¬ (z_fi M 1606 a) ≤ x2 → ((x1 = 0 → z_nn (z_fr M 1600 a) fun a15 => (vp_in x2 (z_ln M a15) ∧ ((((z_ai M a15 ((x2 : Int32).toNatClampNeg)) = (z_fi M 1584 a) → z_nn (z_fr M 1598 a) fun a20 => (vp_in x2 (z_ln M a20) ∧ ((((z_ai M a20 ((x2 : Int32).toNatClampNeg)) = 1 → P_X12_changeKey_49 a Post (fun q0 q1 qM => P_X12_changeKey_4 a Post n q0 q1 qM) x2 M) ∧ (¬ (z_ai M a20 ((x2 : Int32).toNatClampNeg)) = 1 → z_nn (z_fr M 1598 a) fun a24 => (vp_in x2 (z_ln M a24) ∧ ((((z_ai M a24 ((x2 : Int32).toNatClampNeg)) = 3 → P_X12_changeKey_49 a Post (fun q0 q1 qM => P_X12_changeKey_4 a Post n q0 q1 qM) x2 M) ∧ (¬ (z_ai M a24 ((x2 : Int32).toNatClampNeg)) = 3 → P_X12_changeKey_53 a Post (fun q0 q1 qM => P_X12_changeKey_4 a Post n q0 q1 qM) x2 M))))))))) ∧ (¬ (z_ai M a15 ((x2 : Int32).toNatClampNeg)) = (z_fi M 1584 a) → P_X12_changeKey_53 a Post (fun q0 q1 qM => P_X12_changeKey_4 a Post n q0 q1 qM) x2 M))))) ∧ (¬ x1 = 0 → P_X12_changeKey_49 a Post (fun q0 q1 qM => P_X12_changeKey_4 a Post n q0 q1 qM) x2 M))))
set_option maxRecDepth 100000 in
def P_X12_changeKey (a : Nat) (M : z_Mem) (Post : Int32 → z_Mem → Prop) : Prop := (∃ n27 : Nat, P_X12_changeKey_4 a Post n27 0 0 M)
set_option maxRecDepth 100000 in
set_option maxHeartbeats 4000000 in
theorem v_X12_changeKey_54 {G : z_G} {M0 : z_Mem} {a : Nat} {Post : Int32 → z_Mem → Prop} {J4 : Int32 → Int32 → z_Mem → Prop} (hJ4 : ∀ (x1 : Int32) (x2 : Int32) (M : z_Mem), (z_ki M a = 13) → (x1 = 0 ∨ x1 = 1) → J4 x1 x2 M → z_V G Y_X12_changeKey z_X0 M0 (z_QM G M0 (z_PI Post)) M 4 [(0, z_O (some a)), (1, z_I x1), (2, z_I x2)] []) {x2 : Int32} {t0 : Int32} {M : z_Mem} (ha : z_ki M a = 13) (f_t0 : t0 = 0 ∨ t0 = 1) (hP : P_X12_changeKey_54 a Post J4 x2 t0 M) : z_V G Y_X12_changeKey z_X0 M0 (z_QM G M0 (z_PI Post)) M 54 [(0, z_O (some a)), (2, z_I x2)] [z_I t0] := by
  unfold P_X12_changeKey_54 at hP
  refine z_istore_n (lv' := [(1, z_I _), (0, z_O _), (2, z_I _)]) dX12_changeKey_54 rfl (Nat.le_of_ble_eq_true rfl) rfl ?_
  refine z_iincN (j := 2) (m := 1) (lv' := fun v => [(2, z_I v), (1, z_I _), (0, z_O _)]) dX12_changeKey_55 rfl (by decide) (Nat.le_of_ble_eq_true rfl) (fun _ => rfl) (fun x_1 y_1 => ?_)
  replace hP := hP x_1 y_1
  refine z_goto (tgt := 4) dX12_changeKey_58 (by decide) ?_
  refine z_sub (lv' := [(0, z_O _), (1, z_I _), (2, z_I _)]) [2, 1, 0] rfl ?_
  exact hJ4 _ _ _ ha f_t0 hP
set_option maxRecDepth 100000 in
set_option maxHeartbeats 4000000 in
theorem v_X12_changeKey_49 {G : z_G} {M0 : z_Mem} {a : Nat} {Post : Int32 → z_Mem → Prop} {J4 : Int32 → Int32 → z_Mem → Prop} (hJ4 : ∀ (x1 : Int32) (x2 : Int32) (M : z_Mem), (z_ki M a = 13) → (x1 = 0 ∨ x1 = 1) → J4 x1 x2 M → z_V G Y_X12_changeKey z_X0 M0 (z_QM G M0 (z_PI Post)) M 4 [(0, z_O (some a)), (1, z_I x1), (2, z_I x2)] []) {x2 : Int32} {M : z_Mem} (ha : z_ki M a = 13) (hP : P_X12_changeKey_49 a Post J4 x2 M) : z_V G Y_X12_changeKey z_X0 M0 (z_QM G M0 (z_PI Post)) M 49 [(0, z_O (some a)), (2, z_I x2)] [] := by
  unfold P_X12_changeKey_49 at hP
  refine z_iconst (v := 1) dX12_changeKey_49 (by decide) ?_
  refine z_goto (tgt := 54) dX12_changeKey_50 (by decide) ?_
  refine z_sub (lv' := [(0, z_O _), (2, z_I _)]) [0, 1] rfl ?_
  exact v_X12_changeKey_54 hJ4 ha (Or.inr rfl) hP
set_option maxRecDepth 100000 in
set_option maxHeartbeats 4000000 in
theorem v_X12_changeKey_53 {G : z_G} {M0 : z_Mem} {a : Nat} {Post : Int32 → z_Mem → Prop} {J4 : Int32 → Int32 → z_Mem → Prop} (hJ4 : ∀ (x1 : Int32) (x2 : Int32) (M : z_Mem), (z_ki M a = 13) → (x1 = 0 ∨ x1 = 1) → J4 x1 x2 M → z_V G Y_X12_changeKey z_X0 M0 (z_QM G M0 (z_PI Post)) M 4 [(0, z_O (some a)), (1, z_I x1), (2, z_I x2)] []) {x2 : Int32} {M : z_Mem} (ha : z_ki M a = 13) (hP : P_X12_changeKey_53 a Post J4 x2 M) : z_V G Y_X12_changeKey z_X0 M0 (z_QM G M0 (z_PI Post)) M 53 [(0, z_O (some a)), (2, z_I x2)] [] := by
  unfold P_X12_changeKey_53 at hP
  refine z_iconst (v := 0) dX12_changeKey_53 (by decide) ?_
  refine z_sub (lv' := [(0, z_O _), (2, z_I _)]) [0, 1] rfl ?_
  exact v_X12_changeKey_54 hJ4 ha (Or.inl rfl) hP
set_option maxRecDepth 100000 in
set_option maxHeartbeats 4000000 in
theorem v_X12_changeKey_79 {G : z_G} {M0 : z_Mem} {a : Nat} {Post : Int32 → z_Mem → Prop}   {t0 : Option Nat} {t1 : Int32} {M : z_Mem} (ha : z_ki M a = 13) (f_t0 : z_tr M t0 13) (f_t1 : t1 = 0 ∨ t1 = 1) (hP : P_X12_changeKey_79 a Post t0 t1 M) : z_V G Y_X12_changeKey z_X0 M0 (z_QM G M0 (z_PI Post)) M 79 [(0, z_O (some a))] [z_I t1, z_O t0] := by
  unfold P_X12_changeKey_79 at hP
  refine z_iconst (v := 1) dX12_changeKey_79 (by decide) ?_
  refine z_iconst (v := 1) dX12_changeKey_80 (by decide) ?_
  obtain ⟨a3, e3, hP⟩ := hP
  have k3 := f_t0 a3 e3
  refine z_wts (fun hT2 _ => ?_)
  refine z_cVb (c := 12) (n := 3) (Y1 := Y_X12_goes) (st := []) e3 k3 z_cb12 (Nat.le_of_ble_eq_true rfl) rfl (s_X12_goes k3 f_t1 (Or.inr rfl) (Or.inr rfl) hP) rfl ⟨z_dc_X12_goes, ⟨(Nat.le_of_ble_eq_true rfl), (Nat.le_of_ble_eq_true rfl)⟩, (Nat.le_of_ble_eq_true rfl)⟩ rfl zw_1555 zw_1557 zp_31 zw_12 zw_1558 dX12_changeKey_81 (fun x_2 M_2 b2 hP _ x2 => ?_)
  have ha := x2.k (k := 12) hT2 ha
  refine z_if_ne (tgt := 89) dX12_changeKey_84 (by decide) (fun h4 => ?_) (fun h4 => ?_)
  · replace hP := hP.2 h4
    refine z_aload_n dX12_changeKey_89 rfl 0 rfl ?_
    refine z_dup dX12_changeKey_90 rfl ?_
    refine z_geti (c := 12) (k := 48) (g := 1584) z_cb12 (Nat.le_of_ble_eq_true rfl) (Nat.le_of_ble_eq_true rfl) rfl (Nat.le_of_ble_eq_true rfl) zw_1303 rfl ha dX12_changeKey_91 ?_
    refine z_pc (pc' := 94) rfl ?_
    refine z_iconst (v := 1) dX12_changeKey_94 (by decide) ?_
    refine z_iadd dX12_changeKey_95 ?_
    refine z_puti (c := 12) (k := 48) (g := 1584) z_cb12 (Nat.le_of_ble_eq_true rfl) (Nat.le_of_ble_eq_true rfl) (Nat.le_of_ble_eq_true rfl) rfl rfl rfl zw_1303 rfl ha (Or.inl rfl) dX12_changeKey_96 ?_
    refine z_nm (fun M_6 g_6 => ?_)
    replace hP := hP M_6 g_6
    have q_6 := z_k1 g_6
    have ha := z_kk q_6 ha
    refine z_aload_n dX12_changeKey_99 rfl 0 rfl ?_
    refine z_geti (c := 12) (k := 48) (g := 1584) z_cb12 (Nat.le_of_ble_eq_true rfl) (Nat.le_of_ble_eq_true rfl) rfl (Nat.le_of_ble_eq_true rfl) zw_1303 rfl ha dX12_changeKey_100 ?_
    exact z_reti rfl dX12_changeKey_103 hP
  · replace hP := hP.1 h4
    refine z_iconst (v := 0) dX12_changeKey_87 (by decide) ?_
    exact z_reti rfl dX12_changeKey_88 hP
set_option maxRecDepth 100000 in
set_option maxHeartbeats 4000000 in
theorem v_X12_changeKey_78 {G : z_G} {M0 : z_Mem} {a : Nat} {Post : Int32 → z_Mem → Prop}   {t0 : Option Nat} {M : z_Mem} (ha : z_ki M a = 13) (f_t0 : z_tr M t0 13) (hP : P_X12_changeKey_78 a Post t0 M) : z_V G Y_X12_changeKey z_X0 M0 (z_QM G M0 (z_PI Post)) M 78 [(0, z_O (some a))] [z_O t0] := by
  unfold P_X12_changeKey_78 at hP
  refine z_iconst (v := 0) dX12_changeKey_78 (by decide) ?_
  refine z_sub (lv' := [(0, z_O _)]) [0] rfl ?_
  exact v_X12_changeKey_79  ha f_t0 (Or.inl rfl) hP
set_option maxRecDepth 100000 in
set_option maxHeartbeats 4000000 in
theorem v_X12_changeKey_4 {G : z_G} {M0 : z_Mem} {a : Nat} {Post : Int32 → z_Mem → Prop}   : ∀ (n : Nat) {x1 : Int32} {x2 : Int32} {M : z_Mem}, (z_ki M a = 13) → (x1 = 0 ∨ x1 = 1) → P_X12_changeKey_4 a Post n x1 x2 M → z_V G Y_X12_changeKey z_X0 M0 (z_QM G M0 (z_PI Post)) M 4 [(0, z_O (some a)), (1, z_I x1), (2, z_I x2)] [] := by
  intro n
  induction n with
  | zero => intro x1 x2 M ha f_x1 hP; exact False.elim hP
  | succ n ih =>
    intro x1 x2 M ha f_x1 hP
    unfold P_X12_changeKey_4 at hP
    refine z_iload_n dX12_changeKey_4 rfl 2 rfl ?_
    refine z_aload_n dX12_changeKey_5 rfl 0 rfl ?_
    refine z_geti (c := 12) (k := 70) (g := 1606) z_cb12 (Nat.le_of_ble_eq_true rfl) (Nat.le_of_ble_eq_true rfl) rfl (Nat.le_of_ble_eq_true rfl) zw_1325 rfl ha dX12_changeKey_6 ?_
    refine z_icmp_ge (tgt := 61) dX12_changeKey_9 (by decide) (fun h9 => ?_) (fun h9 => ?_)
    · replace hP := hP.1 h9
      refine z_aload_n dX12_changeKey_61 rfl 0 rfl ?_
      refine z_aload_n dX12_changeKey_62 rfl 0 rfl ?_
      refine z_geti (c := 12) (k := 41) (g := 1577) z_cb12 (Nat.le_of_ble_eq_true rfl) (Nat.le_of_ble_eq_true rfl) rfl (Nat.le_of_ble_eq_true rfl) zw_1296 rfl ha dX12_changeKey_63 ?_
      refine z_pc (pc' := 66) rfl ?_
      refine z_iconst (v := 2) dX12_changeKey_66 (by decide) ?_
      refine z_icmp_ne (tgt := 78) dX12_changeKey_67 (by decide) (fun h11 => ?_) (fun h11 => ?_)
      · replace hP := hP.2 h11
        refine z_sub (lv' := [(0, z_O _)]) [0] rfl ?_
        exact v_X12_changeKey_78  ha (z_trn rfl ha) hP
      · replace hP := hP.1 h11
        refine z_iload_n dX12_changeKey_70 rfl 1 rfl ?_
        refine z_if_eq (tgt := 78) dX12_changeKey_71 (by decide) (fun h12 => ?_) (fun h12 => ?_)
        · replace hP := hP.1 h12
          refine z_sub (lv' := [(0, z_O _)]) [0] rfl ?_
          exact v_X12_changeKey_78  ha (z_trn rfl ha) hP
        · replace hP := hP.2 h12
          refine z_iconst (v := 1) dX12_changeKey_74 (by decide) ?_
          refine z_goto (tgt := 79) dX12_changeKey_75 (by decide) ?_
          refine z_sub (lv' := [(0, z_O _)]) [0] rfl ?_
          exact v_X12_changeKey_79  ha (z_trn rfl ha) (Or.inr rfl) hP
    · replace hP := hP.2 h9
      refine z_iload_n dX12_changeKey_12 rfl 1 rfl ?_
      refine z_if_ne (tgt := 49) dX12_changeKey_13 (by decide) (fun h13 => ?_) (fun h13 => ?_)
      · replace hP := hP.2 h13
        refine z_sub (lv' := [(0, z_O _), (2, z_I _)]) [0, 2] rfl ?_
        exact v_X12_changeKey_49 (fun _ _ _ w0 w1 hP => ih w0 w1 hP) ha hP
      · replace hP := hP.1 h13
        refine z_aload_n dX12_changeKey_16 rfl 0 rfl ?_
        refine z_getr (c := 12) (k := 64) (g := 1600) (t := 20) z_cb12 (Nat.le_of_ble_eq_true rfl) (Nat.le_of_ble_eq_true rfl) rfl rfl zw_1319 rfl ha dX12_changeKey_17 (fun f14 => ?_)
        refine z_pc (pc' := 20) rfl ?_
        refine z_iload_n dX12_changeKey_20 rfl 2 rfl ?_
        obtain ⟨a15, e15, hP⟩ := hP
        have k15 := f14 a15 e15
        obtain ⟨i16, hP⟩ := hP
        refine z_iald e15 k15 i16 dX12_changeKey_21 ?_
        refine z_aload_n dX12_changeKey_22 rfl 0 rfl ?_
        refine z_geti (c := 12) (k := 48) (g := 1584) z_cb12 (Nat.le_of_ble_eq_true rfl) (Nat.le_of_ble_eq_true rfl) rfl (Nat.le_of_ble_eq_true rfl) zw_1303 rfl ha dX12_changeKey_23 ?_
        refine z_icmp_ne (tgt := 53) dX12_changeKey_26 (by decide) (fun h18 => ?_) (fun h18 => ?_)
        · replace hP := hP.2 h18
          refine z_sub (lv' := [(0, z_O _), (2, z_I _)]) [0, 2] rfl ?_
          exact v_X12_changeKey_53 (fun _ _ _ w0 w1 hP => ih w0 w1 hP) ha hP
        · replace hP := hP.1 h18
          refine z_aload_n dX12_changeKey_29 rfl 0 rfl ?_
          refine z_getr (c := 12) (k := 62) (g := 1598) (t := 20) z_cb12 (Nat.le_of_ble_eq_true rfl) (Nat.le_of_ble_eq_true rfl) rfl rfl zw_1317 rfl ha dX12_changeKey_30 (fun f19 => ?_)
          refine z_pc (pc' := 33) rfl ?_
          refine z_iload_n dX12_changeKey_33 rfl 2 rfl ?_
          obtain ⟨a20, e20, hP⟩ := hP
          have k20 := f19 a20 e20
          obtain ⟨i21, hP⟩ := hP
          refine z_iald e20 k20 i21 dX12_changeKey_34 ?_
          refine z_iconst (v := 1) dX12_changeKey_35 (by decide) ?_
          refine z_icmp_eq (tgt := 49) dX12_changeKey_36 (by decide) (fun h22 => ?_) (fun h22 => ?_)
          · replace hP := hP.1 h22
            refine z_sub (lv' := [(0, z_O _), (2, z_I _)]) [0, 2] rfl ?_
            exact v_X12_changeKey_49 (fun _ _ _ w0 w1 hP => ih w0 w1 hP) ha hP
          · replace hP := hP.2 h22
            refine z_aload_n dX12_changeKey_39 rfl 0 rfl ?_
            refine z_getr (c := 12) (k := 62) (g := 1598) (t := 20) z_cb12 (Nat.le_of_ble_eq_true rfl) (Nat.le_of_ble_eq_true rfl) rfl rfl zw_1317 rfl ha dX12_changeKey_40 (fun f23 => ?_)
            refine z_iload_n dX12_changeKey_43 rfl 2 rfl ?_
            refine z_pc (pc' := 44) rfl ?_
            obtain ⟨a24, e24, hP⟩ := hP
            have k24 := f23 a24 e24
            obtain ⟨i25, hP⟩ := hP
            refine z_iald e24 k24 i25 dX12_changeKey_44 ?_
            refine z_iconst (v := 3) dX12_changeKey_45 (by decide) ?_
            refine z_icmp_ne (tgt := 53) dX12_changeKey_46 (by decide) (fun h26 => ?_) (fun h26 => ?_)
            · replace hP := hP.2 h26
              refine z_sub (lv' := [(0, z_O _), (2, z_I _)]) [0, 2] rfl ?_
              exact v_X12_changeKey_53 (fun _ _ _ w0 w1 hP => ih w0 w1 hP) ha hP
            · replace hP := hP.1 h26
              refine z_sub (lv' := [(0, z_O _), (2, z_I _)]) [0, 2] rfl ?_
              exact v_X12_changeKey_49 (fun _ _ _ w0 w1 hP => ih w0 w1 hP) ha hP
set_option maxRecDepth 100000 in
set_option maxHeartbeats 4000000 in
theorem s_X12_changeKey {G : z_G} {M : z_Mem} {a : Nat} {Post : Int32 → z_Mem → Prop} (ha : z_ki M a = 13) (hP : P_X12_changeKey a M Post) : z_Mt G Y_X12_changeKey M [z_O (some a)] (z_PI Post) := by
  refine z_ofV (by decide) (Nat.le_of_ble_eq_true rfl) ?_
  unfold P_X12_changeKey at hP
  refine z_sub (lv' := [(0, z_O (some a))]) [0] rfl ?_
  refine z_iconst (v := 0) dX12_changeKey_0 (by decide) ?_
  refine z_istore_n (lv' := [(1, z_I _), (0, z_O _)]) dX12_changeKey_1 rfl (Nat.le_of_ble_eq_true rfl) rfl ?_
  refine z_iconst (v := 0) dX12_changeKey_2 (by decide) ?_
  refine z_istore_n (lv' := [(2, z_I _), (1, z_I _), (0, z_O _)]) dX12_changeKey_3 rfl (Nat.le_of_ble_eq_true rfl) rfl ?_
  obtain ⟨n27, hP⟩ := hP
  refine z_sub (lv' := [(0, z_O _), (1, z_I _), (2, z_I _)]) [2, 1, 0] rfl ?_
  exact v_X12_changeKey_4  n27 ha (Or.inl rfl) hP
def P_X12_close_36 (a : Nat) (Post : z_Mem → Prop)  (t0 : Option Nat) (t1 : Int32) (M : z_Mem) : Prop := z_nn t0 fun a2 => (P_X12_puts a2 t1 4 0 M fun M_1 => (∀ M_3 : z_Mem, M_3 = z_sfi M_1 1577 a 3 → (∀ M_5 : z_Mem, M_5 = z_sfi M_3 1582 a (z_fi M_3 1536 a) → (Post M_5))))
def P_X12_close_14 (a : Nat) (Post : z_Mem → Prop)  (t0 : Option Nat) (t1 : Int32) (M : z_Mem) : Prop := z_nn t0 fun a7 => (P_X12_goes a7 t1 1 1 M fun x_6 M_6 => (((x_6 = 0 → Post M_6) ∧ (¬ x_6 = 0 → (((z_fi M_6 1583 a) = 1 → P_X12_close_36 a Post (some a) 1 M_6) ∧ (¬ (z_fi M_6 1583 a) = 1 → P_X12_close_36 a Post (some a) 0 M_6))))))
set_option maxRecDepth 100000 in
def P_X12_close (a : Nat) (M : z_Mem) (Post : z_Mem → Prop) : Prop := (((z_fi M 1577 a) = 2 → P_X12_close_14 a Post (some a) 1 M) ∧ (¬ (z_fi M 1577 a) = 2 → P_X12_close_14 a Post (some a) 0 M))
set_option maxRecDepth 100000 in
set_option maxHeartbeats 4000000 in
theorem v_X12_close_36 {G : z_G} {M0 : z_Mem} {a : Nat} {Post : z_Mem → Prop}   {t0 : Option Nat} {t1 : Int32} {M : z_Mem} (ha : z_ki M a = 13) (f_t0 : z_tr M t0 13) (f_t1 : t1 = 0 ∨ t1 = 1) (hP : P_X12_close_36 a Post t0 t1 M) : z_V G Y_X12_close z_X0 M0 (z_QM G M0 (z_PV Post)) M 36 [(0, z_O (some a))] [z_I t1, z_O t0] := by
  unfold P_X12_close_36 at hP
  refine z_iconst (v := 4) dX12_close_36 (by decide) ?_
  refine z_iconst (v := 0) dX12_close_37 (by decide) ?_
  obtain ⟨a2, e2, hP⟩ := hP
  have k2 := f_t0 a2 e2
  refine z_wts (fun hT1 _ => ?_)
  refine z_cVv (c := 12) (n := 3) (Y1 := Y_X12_puts) (st := []) e2 k2 z_cb12 (Nat.le_of_ble_eq_true rfl) rfl (s_X12_puts k2 hP) rfl ⟨z_dc_X12_puts, ⟨(Nat.le_of_ble_eq_true rfl), (Nat.le_of_ble_eq_true rfl)⟩, (Nat.le_of_ble_eq_true rfl)⟩ rfl zw_1610 zw_1612 zp_36 zw_12 zw_1613 dX12_close_38 (fun M_1 hP _ x1 => ?_)
  have ha := x1.k (k := 12) hT1 ha
  refine z_aload_n dX12_close_41 rfl 0 rfl ?_
  refine z_iconst (v := 3) dX12_close_42 (by decide) ?_
  refine z_puti (c := 12) (k := 41) (g := 1577) z_cb12 (Nat.le_of_ble_eq_true rfl) (Nat.le_of_ble_eq_true rfl) (Nat.le_of_ble_eq_true rfl) rfl rfl rfl zw_1296 rfl ha (Or.inl rfl) dX12_close_43 ?_
  refine z_nm (fun M_3 g_3 => ?_)
  replace hP := hP M_3 g_3
  have q_3 := z_k1 g_3
  have ha := z_kk q_3 ha
  refine z_pc (pc' := 46) rfl ?_
  refine z_aload_n dX12_close_46 rfl 0 rfl ?_
  refine z_aload_n dX12_close_47 rfl 0 rfl ?_
  refine z_geti (c := 12) (k := 0) (g := 1536) z_cb12 (Nat.le_of_ble_eq_true rfl) (Nat.le_of_ble_eq_true rfl) rfl (Nat.le_of_ble_eq_true rfl) zw_1255 rfl ha dX12_close_48 ?_
  refine z_puti (c := 12) (k := 46) (g := 1582) z_cb12 (Nat.le_of_ble_eq_true rfl) (Nat.le_of_ble_eq_true rfl) (Nat.le_of_ble_eq_true rfl) rfl rfl rfl zw_1301 rfl ha (Or.inl rfl) dX12_close_51 ?_
  refine z_nm (fun M_5 g_5 => ?_)
  replace hP := hP M_5 g_5
  have q_5 := z_k1 g_5
  have ha := z_kk q_5 ha
  exact z_retv rfl dX12_close_54 hP
set_option maxRecDepth 100000 in
set_option maxHeartbeats 4000000 in
theorem v_X12_close_14 {G : z_G} {M0 : z_Mem} {a : Nat} {Post : z_Mem → Prop}   {t0 : Option Nat} {t1 : Int32} {M : z_Mem} (ha : z_ki M a = 13) (f_t0 : z_tr M t0 13) (f_t1 : t1 = 0 ∨ t1 = 1) (hP : P_X12_close_14 a Post t0 t1 M) : z_V G Y_X12_close z_X0 M0 (z_QM G M0 (z_PV Post)) M 14 [(0, z_O (some a))] [z_I t1, z_O t0] := by
  unfold P_X12_close_14 at hP
  refine z_iconst (v := 1) dX12_close_14 (by decide) ?_
  refine z_iconst (v := 1) dX12_close_15 (by decide) ?_
  obtain ⟨a7, e7, hP⟩ := hP
  have k7 := f_t0 a7 e7
  refine z_wts (fun hT6 _ => ?_)
  refine z_cVb (c := 12) (n := 3) (Y1 := Y_X12_goes) (st := []) e7 k7 z_cb12 (Nat.le_of_ble_eq_true rfl) rfl (s_X12_goes k7 f_t1 (Or.inr rfl) (Or.inr rfl) hP) rfl ⟨z_dc_X12_goes, ⟨(Nat.le_of_ble_eq_true rfl), (Nat.le_of_ble_eq_true rfl)⟩, (Nat.le_of_ble_eq_true rfl)⟩ rfl zw_1555 zw_1557 zp_31 zw_12 zw_1558 dX12_close_16 (fun x_6 M_6 b6 hP _ x6 => ?_)
  have ha := x6.k (k := 12) hT6 ha
  refine z_if_eq (tgt := 54) dX12_close_19 (by decide) (fun h8 => ?_) (fun h8 => ?_)
  · replace hP := hP.1 h8
    exact z_retv rfl dX12_close_54 hP
  · replace hP := hP.2 h8
    refine z_aload_n dX12_close_22 rfl 0 rfl ?_
    refine z_aload_n dX12_close_23 rfl 0 rfl ?_
    refine z_geti (c := 12) (k := 47) (g := 1583) z_cb12 (Nat.le_of_ble_eq_true rfl) (Nat.le_of_ble_eq_true rfl) rfl (Nat.le_of_ble_eq_true rfl) zw_1302 rfl ha dX12_close_24 ?_
    refine z_pc (pc' := 27) rfl ?_
    refine z_iconst (v := 1) dX12_close_27 (by decide) ?_
    refine z_icmp_ne (tgt := 35) dX12_close_28 (by decide) (fun h10 => ?_) (fun h10 => ?_)
    · replace hP := hP.2 h10
      refine z_iconst (v := 0) dX12_close_35 (by decide) ?_
      refine z_sub (lv' := [(0, z_O _)]) [0] rfl ?_
      exact v_X12_close_36  ha (z_trn rfl ha) (Or.inl rfl) hP
    · replace hP := hP.1 h10
      refine z_iconst (v := 1) dX12_close_31 (by decide) ?_
      refine z_goto (tgt := 36) dX12_close_32 (by decide) ?_
      refine z_sub (lv' := [(0, z_O _)]) [0] rfl ?_
      exact v_X12_close_36  ha (z_trn rfl ha) (Or.inr rfl) hP
set_option maxRecDepth 100000 in
set_option maxHeartbeats 4000000 in
theorem s_X12_close {G : z_G} {M : z_Mem} {a : Nat} {Post : z_Mem → Prop} (ha : z_ki M a = 13) (hP : P_X12_close a M Post) : z_Mt G Y_X12_close M [z_O (some a)] (z_PV Post) := by
  refine z_ofV (by decide) (Nat.le_of_ble_eq_true rfl) ?_
  unfold P_X12_close at hP
  refine z_sub (lv' := [(0, z_O (some a))]) [0] rfl ?_
  refine z_aload_n dX12_close_0 rfl 0 rfl ?_
  refine z_aload_n dX12_close_1 rfl 0 rfl ?_
  refine z_geti (c := 12) (k := 41) (g := 1577) z_cb12 (Nat.le_of_ble_eq_true rfl) (Nat.le_of_ble_eq_true rfl) rfl (Nat.le_of_ble_eq_true rfl) zw_1296 rfl ha dX12_close_2 ?_
  refine z_iconst (v := 2) dX12_close_5 (by decide) ?_
  refine z_icmp_ne (tgt := 13) dX12_close_6 (by decide) (fun h12 => ?_) (fun h12 => ?_)
  · replace hP := hP.2 h12
    refine z_iconst (v := 0) dX12_close_13 (by decide) ?_
    refine z_sub (lv' := [(0, z_O _)]) [0] rfl ?_
    exact v_X12_close_14  ha (z_trn rfl ha) (Or.inl rfl) hP
  · replace hP := hP.1 h12
    refine z_iconst (v := 1) dX12_close_9 (by decide) ?_
    refine z_goto (tgt := 14) dX12_close_10 (by decide) ?_
    refine z_sub (lv' := [(0, z_O _)]) [0] rfl ?_
    exact v_X12_close_14  ha (z_trn rfl ha) (Or.inr rfl) hP
def P_X12_passes_43 (a : Nat) (Post : z_Mem → Prop) (J12 : Int32 → z_Mem → Prop) (x1 : Int32) (M : z_Mem) : Prop := ∀ x_1 : Int32, x_1 = x1 + 1 → (J12 x_1 M)
def P_X12_passes_79 (a : Nat) (Post : z_Mem → Prop) (J56 : Int32 → Int32 → z_Mem → Prop) (x1 : Int32) (x2 : Int32) (M : z_Mem) : Prop := ∀ x_2 : Int32, x_2 = x2 + 1 → (J56 x1 x_2 M)
def P_X12_passes_235 (a : Nat) (Post : z_Mem → Prop)  (t0 : Option Nat) (M : z_Mem) : Prop := z_nn t0 fun a4 => (∀ M_5 : z_Mem, M_5 = z_sfi M 1577 a4 (z_fi M 1577 a) → (P_X12_sendsAll a M_5 fun M_6 => (P_X12_leaves a 0 M_6 fun M_7 => (P_X12_leaves a 1 M_7 fun M_8 => (Post M_8)))))
def P_X12_passes_208 (a : Nat) (Post : z_Mem → Prop)  (M : z_Mem) : Prop := (((z_fi M 1577 a) = 3 → ((((z_fi M 1536 a) - (z_fi M 1582 a)) < 30 → P_X12_passes_235 a Post (some a) M) ∧ (¬ ((z_fi M 1536 a) - (z_fi M 1582 a)) < 30 → ∀ M_14 : z_Mem, M_14 = z_sfi M 1577 a 4 → (P_X12_sendsAll a M_14 fun M_15 => (P_X12_leaves a 0 M_15 fun M_16 => (P_X12_leaves a 1 M_16 fun M_17 => (Post M_17))))))) ∧ (¬ (z_fi M 1577 a) = 3 → P_X12_passes_235 a Post (some a) M))
def P_X12_passes_170 (a : Nat) (Post : z_Mem → Prop)  (M : z_Mem) : Prop := (((z_fi M 1577 a) = 1 → ((((z_fi M 1536 a) - (z_fi M 1580 a)) < (z_fi M 1581 a) → P_X12_passes_208 a Post M) ∧ (¬ ((z_fi M 1536 a) - (z_fi M 1580 a)) < (z_fi M 1581 a) → ∀ M_25 : z_Mem, M_25 = z_sfi M 1581 a ((z_fi M 1581 a) * 2) → (P_X12_saysHello a M_25 fun M_26 => (P_X12_passes_208 a Post M_26))))) ∧ (¬ (z_fi M 1577 a) = 1 → P_X12_passes_208 a Post M))
def P_X12_passes_150 (a : Nat) (Post : z_Mem → Prop)  (M : z_Mem) : Prop := P_X12_losesByTime a 0 M fun M_27 => (P_X12_losesByTime a 1 M_27 fun M_28 => (P_X12_probesOn a 0 M_28 fun M_29 => (P_X12_probesOn a 1 M_29 fun M_30 => (P_X12_passes_170 a Post M_30))))
def P_X12_passes_134 (a : Nat) (Post : z_Mem → Prop)  (M : z_Mem) : Prop := (((z_fi M 1577 a) = 1 → P_X12_passes_150 a Post M) ∧ (¬ (z_fi M 1577 a) = 1 → (((z_fi M 1577 a) = 2 → P_X12_passes_150 a Post M) ∧ (¬ (z_fi M 1577 a) = 2 → P_X12_passes_170 a Post M))))
def P_X12_passes_130 (a : Nat) (Post : z_Mem → Prop)  (M : z_Mem) : Prop := P_X12_acknowledges a M fun M_35 => (P_X12_passes_134 a Post M_35)
def P_X12_passes_120 (a : Nat) (Post : z_Mem → Prop)  (M : z_Mem) : Prop := ((((z_fi M 1536 a) - (z_fi M 1536 a) / 20 * 20) = 0 → P_X12_passes_130 a Post M) ∧ (¬ ((z_fi M 1536 a) - (z_fi M 1536 a) / 20 * 20) = 0 → P_X12_passes_134 a Post M))
set_option maxRecDepth 100000 in
def P_X12_passes_56 (a : Nat) (Post : z_Mem → Prop)  : Nat → Int32 → Int32 → z_Mem → Prop
  | 0, _, _, _ => False
  | n + 1, x1, x2, M => ((x1 ≤ x2 → (((z_fi M 1562 a) = 1 → (((z_fi M 1575 a) = (-1) → P_X12_passes_134 a Post M) ∧ (¬ (z_fi M 1575 a) = (-1) → (((z_fi M 1574 a) = (-1) → P_X12_passes_120 a Post M) ∧ (¬ (z_fi M 1574 a) = (-1) → (((z_fi M 1574 a) ≤ (z_fi M 1536 a) → P_X12_passes_130 a Post M) ∧ (¬ (z_fi M 1574 a) ≤ (z_fi M 1536 a) → P_X12_passes_120 a Post M))))))) ∧ (¬ (z_fi M 1562 a) = 1 → P_X12_passes_134 a Post M))) ∧ (¬ x1 ≤ x2 → z_nn (z_fr M 1558 a) fun a49 => (vp_in x2 (z_ln M a49) ∧ ((((z_ai M a49 ((x2 : Int32).toNatClampNeg)) = (z_fi M 1536 a) → P_X12_arrivesAtClient a x2 M fun M_53 => (P_X12_passes_79 a Post (fun q0 q1 qM => P_X12_passes_56 a Post n q0 q1 qM) x1 x2 M_53)) ∧ (¬ (z_ai M a49 ((x2 : Int32).toNatClampNeg)) = (z_fi M 1536 a) → P_X12_passes_79 a Post (fun q0 q1 qM => P_X12_passes_56 a Post n q0 q1 qM) x1 x2 M))))))
set_option maxRecDepth 100000 in
def P_X12_passes_12 (a : Nat) (Post : z_Mem → Prop)  : Nat → Int32 → z_Mem → Prop
  | 0, _, _ => False
  | n + 1, x1, M => (((z_fi M 1554 a) ≤ x1 → ∀ x_57 : Int32, x_57 = (z_fi M 1559 a) → ((∃ n58 : Nat, P_X12_passes_56 a Post n58 x_57 0 M))) ∧ (¬ (z_fi M 1554 a) ≤ x1 → z_nn (z_fr M 1553 a) fun a60 => (vp_in x1 (z_ln M a60) ∧ ((((z_ai M a60 ((x1 : Int32).toNatClampNeg)) = (z_fi M 1536 a) → z_nn (z_fr M 1552 a) fun a65 => (vp_in x1 (z_ln M a65) ∧ (P_X12_arrivesAtServer a (z_ai M a65 ((x1 : Int32).toNatClampNeg)) M fun M_67 => (P_X12_passes_43 a Post (fun q0 qM => P_X12_passes_12 a Post n q0 qM) x1 M_67)))) ∧ (¬ (z_ai M a60 ((x1 : Int32).toNatClampNeg)) = (z_fi M 1536 a) → P_X12_passes_43 a Post (fun q0 qM => P_X12_passes_12 a Post n q0 qM) x1 M))))))
set_option maxRecDepth 100000 in
def P_X12_passes (a : Nat) (M : z_Mem) (Post : z_Mem → Prop) : Prop := ∀ M_69 : z_Mem, M_69 = z_sfi M 1536 a ((z_fi M 1536 a) + 1) → ((∃ n70 : Nat, P_X12_passes_12 a Post n70 0 M_69))
set_option maxRecDepth 100000 in
set_option maxHeartbeats 4000000 in
theorem v_X12_passes_43 {G : z_G} {M0 : z_Mem} {a : Nat} {Post : z_Mem → Prop} {J12 : Int32 → z_Mem → Prop} (hJ12 : ∀ (x1 : Int32) (M : z_Mem), (z_ki M a = 13) → J12 x1 M → z_V G Y_X12_passes z_X0 M0 (z_QM G M0 (z_PV Post)) M 12 [(0, z_O (some a)), (1, z_I x1)] []) {x1 : Int32} {M : z_Mem} (ha : z_ki M a = 13) (hP : P_X12_passes_43 a Post J12 x1 M) : z_V G Y_X12_passes z_X0 M0 (z_QM G M0 (z_PV Post)) M 43 [(0, z_O (some a)), (1, z_I x1)] [] := by
  unfold P_X12_passes_43 at hP
  refine z_iincN (j := 1) (m := 1) (lv' := fun v => [(1, z_I v), (0, z_O _)]) dX12_passes_43 rfl (by decide) (Nat.le_of_ble_eq_true rfl) (fun _ => rfl) (fun x_1 y_1 => ?_)
  replace hP := hP x_1 y_1
  refine z_goto (tgt := 12) dX12_passes_46 (by decide) ?_
  refine z_sub (lv' := [(0, z_O _), (1, z_I _)]) [1, 0] rfl ?_
  exact hJ12 _ _ ha hP
set_option maxRecDepth 100000 in
set_option maxHeartbeats 4000000 in
theorem v_X12_passes_79 {G : z_G} {M0 : z_Mem} {a : Nat} {Post : z_Mem → Prop} {J56 : Int32 → Int32 → z_Mem → Prop} (hJ56 : ∀ (x1 : Int32) (x2 : Int32) (M : z_Mem), (z_ki M a = 13) → J56 x1 x2 M → z_V G Y_X12_passes z_X0 M0 (z_QM G M0 (z_PV Post)) M 56 [(0, z_O (some a)), (1, z_I x1), (2, z_I x2)] []) {x1 : Int32} {x2 : Int32} {M : z_Mem} (ha : z_ki M a = 13) (hP : P_X12_passes_79 a Post J56 x1 x2 M) : z_V G Y_X12_passes z_X0 M0 (z_QM G M0 (z_PV Post)) M 79 [(0, z_O (some a)), (1, z_I x1), (2, z_I x2)] [] := by
  unfold P_X12_passes_79 at hP
  refine z_iincN (j := 2) (m := 1) (lv' := fun v => [(2, z_I v), (0, z_O _), (1, z_I _)]) dX12_passes_79 rfl (by decide) (Nat.le_of_ble_eq_true rfl) (fun _ => rfl) (fun x_2 y_2 => ?_)
  replace hP := hP x_2 y_2
  refine z_goto (tgt := 56) dX12_passes_82 (by decide) ?_
  refine z_sub (lv' := [(0, z_O _), (1, z_I _), (2, z_I _)]) [1, 2, 0] rfl ?_
  exact hJ56 _ _ _ ha hP
set_option maxRecDepth 100000 in
set_option maxHeartbeats 4000000 in
theorem v_X12_passes_235 {G : z_G} {M0 : z_Mem} {a : Nat} {Post : z_Mem → Prop}   {t0 : Option Nat} {M : z_Mem} (ha : z_ki M a = 13) (f_t0 : z_tr M t0 13) (hP : P_X12_passes_235 a Post t0 M) : z_V G Y_X12_passes z_X0 M0 (z_QM G M0 (z_PV Post)) M 235 [(0, z_O (some a))] [z_O t0] := by
  unfold P_X12_passes_235 at hP
  refine z_aload_n dX12_passes_235 rfl 0 rfl ?_
  refine z_geti (c := 12) (k := 41) (g := 1577) z_cb12 (Nat.le_of_ble_eq_true rfl) (Nat.le_of_ble_eq_true rfl) rfl (Nat.le_of_ble_eq_true rfl) zw_1296 rfl ha dX12_passes_236 ?_
  obtain ⟨a4, e4, hP⟩ := hP
  have k4 := f_t0 a4 e4
  refine z_puti (c := 12) (k := 41) (g := 1577) z_cb12 (Nat.le_of_ble_eq_true rfl) (Nat.le_of_ble_eq_true rfl) (Nat.le_of_ble_eq_true rfl) rfl rfl rfl zw_1296 e4 k4 (Or.inl rfl) dX12_passes_239 ?_
  refine z_nm (fun M_5 g_5 => ?_)
  replace hP := hP M_5 g_5
  have q_5 := z_k1 g_5
  have ha := z_kk q_5 ha
  refine z_aload_n dX12_passes_242 rfl 0 rfl ?_
  refine z_wts (fun hT6 _ => ?_)
  refine z_cVv (c := 12) (n := 0) (Y1 := Y_X12_sendsAll) (st := []) rfl ha z_cb12 (Nat.le_of_ble_eq_true rfl) rfl (s_X12_sendsAll ha hP) rfl ⟨z_dc_X12_sendsAll, ⟨(Nat.le_of_ble_eq_true rfl), (Nat.le_of_ble_eq_true rfl)⟩, (Nat.le_of_ble_eq_true rfl)⟩ rfl zw_1726 zw_1728 zp_56 zw_12 zw_1729 dX12_passes_243 (fun M_6 hP _ x6 => ?_)
  have ha := x6.k (k := 12) hT6 ha
  refine z_aload_n dX12_passes_246 rfl 0 rfl ?_
  refine z_pc (pc' := 247) rfl ?_
  refine z_iconst (v := 0) dX12_passes_247 (by decide) ?_
  refine z_wts (fun hT7 _ => ?_)
  refine z_cVv (c := 12) (n := 1) (Y1 := Y_X12_leaves) (st := []) rfl ha z_cb12 (Nat.le_of_ble_eq_true rfl) rfl (s_X12_leaves ha hP) rfl ⟨z_dc_X12_leaves, ⟨(Nat.le_of_ble_eq_true rfl), (Nat.le_of_ble_eq_true rfl)⟩, (Nat.le_of_ble_eq_true rfl)⟩ rfl zw_1762 zw_1764 zp_65 zw_12 zw_1765 dX12_passes_248 (fun M_7 hP _ x7 => ?_)
  have ha := x7.k (k := 12) hT7 ha
  refine z_aload_n dX12_passes_251 rfl 0 rfl ?_
  refine z_iconst (v := 1) dX12_passes_252 (by decide) ?_
  refine z_wts (fun hT8 _ => ?_)
  refine z_cVv (c := 12) (n := 1) (Y1 := Y_X12_leaves) (st := []) rfl ha z_cb12 (Nat.le_of_ble_eq_true rfl) rfl (s_X12_leaves ha hP) rfl ⟨z_dc_X12_leaves, ⟨(Nat.le_of_ble_eq_true rfl), (Nat.le_of_ble_eq_true rfl)⟩, (Nat.le_of_ble_eq_true rfl)⟩ rfl zw_1762 zw_1764 zp_65 zw_12 zw_1765 dX12_passes_253 (fun M_8 hP _ x8 => ?_)
  have ha := x8.k (k := 12) hT8 ha
  exact z_retv rfl dX12_passes_256 hP
set_option maxRecDepth 100000 in
set_option maxHeartbeats 4000000 in
theorem v_X12_passes_208 {G : z_G} {M0 : z_Mem} {a : Nat} {Post : z_Mem → Prop}   {M : z_Mem} (ha : z_ki M a = 13) (hP : P_X12_passes_208 a Post M) : z_V G Y_X12_passes z_X0 M0 (z_QM G M0 (z_PV Post)) M 208 [(0, z_O (some a))] [] := by
  unfold P_X12_passes_208 at hP
  refine z_aload_n dX12_passes_208 rfl 0 rfl ?_
  refine z_aload_n dX12_passes_209 rfl 0 rfl ?_
  refine z_geti (c := 12) (k := 41) (g := 1577) z_cb12 (Nat.le_of_ble_eq_true rfl) (Nat.le_of_ble_eq_true rfl) rfl (Nat.le_of_ble_eq_true rfl) zw_1296 rfl ha dX12_passes_210 ?_
  refine z_iconst (v := 3) dX12_passes_213 (by decide) ?_
  refine z_icmp_ne (tgt := 235) dX12_passes_214 (by decide) (fun h10 => ?_) (fun h10 => ?_)
  · replace hP := hP.2 h10
    refine z_sub (lv' := [(0, z_O _)]) [0] rfl ?_
    exact v_X12_passes_235  ha (z_trn rfl ha) hP
  · replace hP := hP.1 h10
    refine z_aload_n dX12_passes_217 rfl 0 rfl ?_
    refine z_geti (c := 12) (k := 0) (g := 1536) z_cb12 (Nat.le_of_ble_eq_true rfl) (Nat.le_of_ble_eq_true rfl) rfl (Nat.le_of_ble_eq_true rfl) zw_1255 rfl ha dX12_passes_218 ?_
    refine z_pc (pc' := 221) rfl ?_
    refine z_aload_n dX12_passes_221 rfl 0 rfl ?_
    refine z_geti (c := 12) (k := 46) (g := 1582) z_cb12 (Nat.le_of_ble_eq_true rfl) (Nat.le_of_ble_eq_true rfl) rfl (Nat.le_of_ble_eq_true rfl) zw_1301 rfl ha dX12_passes_222 ?_
    refine z_isub dX12_passes_225 ?_
    refine z_bipush (v := 30) dX12_passes_226 (by decide) ?_
    refine z_icmp_lt (tgt := 235) dX12_passes_228 (by decide) (fun h13 => ?_) (fun h13 => ?_)
    · replace hP := hP.1 h13
      refine z_sub (lv' := [(0, z_O _)]) [0] rfl ?_
      exact v_X12_passes_235  ha (z_trn rfl ha) hP
    · replace hP := hP.2 h13
      refine z_iconst (v := 4) dX12_passes_231 (by decide) ?_
      refine z_goto (tgt := 239) dX12_passes_232 (by decide) ?_
      refine z_puti (c := 12) (k := 41) (g := 1577) z_cb12 (Nat.le_of_ble_eq_true rfl) (Nat.le_of_ble_eq_true rfl) (Nat.le_of_ble_eq_true rfl) rfl rfl rfl zw_1296 rfl ha (Or.inl rfl) dX12_passes_239 ?_
      refine z_nm (fun M_14 g_14 => ?_)
      replace hP := hP M_14 g_14
      have q_14 := z_k1 g_14
      have ha := z_kk q_14 ha
      refine z_pc (pc' := 242) rfl ?_
      refine z_aload_n dX12_passes_242 rfl 0 rfl ?_
      refine z_wts (fun hT15 _ => ?_)
      refine z_cVv (c := 12) (n := 0) (Y1 := Y_X12_sendsAll) (st := []) rfl ha z_cb12 (Nat.le_of_ble_eq_true rfl) rfl (s_X12_sendsAll ha hP) rfl ⟨z_dc_X12_sendsAll, ⟨(Nat.le_of_ble_eq_true rfl), (Nat.le_of_ble_eq_true rfl)⟩, (Nat.le_of_ble_eq_true rfl)⟩ rfl zw_1726 zw_1728 zp_56 zw_12 zw_1729 dX12_passes_243 (fun M_15 hP _ x15 => ?_)
      have ha := x15.k (k := 12) hT15 ha
      refine z_aload_n dX12_passes_246 rfl 0 rfl ?_
      refine z_iconst (v := 0) dX12_passes_247 (by decide) ?_
      refine z_wts (fun hT16 _ => ?_)
      refine z_cVv (c := 12) (n := 1) (Y1 := Y_X12_leaves) (st := []) rfl ha z_cb12 (Nat.le_of_ble_eq_true rfl) rfl (s_X12_leaves ha hP) rfl ⟨z_dc_X12_leaves, ⟨(Nat.le_of_ble_eq_true rfl), (Nat.le_of_ble_eq_true rfl)⟩, (Nat.le_of_ble_eq_true rfl)⟩ rfl zw_1762 zw_1764 zp_65 zw_12 zw_1765 dX12_passes_248 (fun M_16 hP _ x16 => ?_)
      have ha := x16.k (k := 12) hT16 ha
      refine z_aload_n dX12_passes_251 rfl 0 rfl ?_
      refine z_pc (pc' := 252) rfl ?_
      refine z_iconst (v := 1) dX12_passes_252 (by decide) ?_
      refine z_wts (fun hT17 _ => ?_)
      refine z_cVv (c := 12) (n := 1) (Y1 := Y_X12_leaves) (st := []) rfl ha z_cb12 (Nat.le_of_ble_eq_true rfl) rfl (s_X12_leaves ha hP) rfl ⟨z_dc_X12_leaves, ⟨(Nat.le_of_ble_eq_true rfl), (Nat.le_of_ble_eq_true rfl)⟩, (Nat.le_of_ble_eq_true rfl)⟩ rfl zw_1762 zw_1764 zp_65 zw_12 zw_1765 dX12_passes_253 (fun M_17 hP _ x17 => ?_)
      have ha := x17.k (k := 12) hT17 ha
      exact z_retv rfl dX12_passes_256 hP
set_option maxRecDepth 100000 in
set_option maxHeartbeats 4000000 in
theorem v_X12_passes_170 {G : z_G} {M0 : z_Mem} {a : Nat} {Post : z_Mem → Prop}   {M : z_Mem} (ha : z_ki M a = 13) (hP : P_X12_passes_170 a Post M) : z_V G Y_X12_passes z_X0 M0 (z_QM G M0 (z_PV Post)) M 170 [(0, z_O (some a))] [] := by
  unfold P_X12_passes_170 at hP
  refine z_aload_n dX12_passes_170 rfl 0 rfl ?_
  refine z_geti (c := 12) (k := 41) (g := 1577) z_cb12 (Nat.le_of_ble_eq_true rfl) (Nat.le_of_ble_eq_true rfl) rfl (Nat.le_of_ble_eq_true rfl) zw_1296 rfl ha dX12_passes_171 ?_
  refine z_iconst (v := 1) dX12_passes_174 (by decide) ?_
  refine z_icmp_ne (tgt := 208) dX12_passes_175 (by decide) (fun h19 => ?_) (fun h19 => ?_)
  · replace hP := hP.2 h19
    refine z_sub (lv' := [(0, z_O _)]) [0] rfl ?_
    exact v_X12_passes_208  ha hP
  · replace hP := hP.1 h19
    refine z_aload_n dX12_passes_178 rfl 0 rfl ?_
    refine z_geti (c := 12) (k := 0) (g := 1536) z_cb12 (Nat.le_of_ble_eq_true rfl) (Nat.le_of_ble_eq_true rfl) rfl (Nat.le_of_ble_eq_true rfl) zw_1255 rfl ha dX12_passes_179 ?_
    refine z_aload_n dX12_passes_182 rfl 0 rfl ?_
    refine z_pc (pc' := 183) rfl ?_
    refine z_geti (c := 12) (k := 44) (g := 1580) z_cb12 (Nat.le_of_ble_eq_true rfl) (Nat.le_of_ble_eq_true rfl) rfl (Nat.le_of_ble_eq_true rfl) zw_1299 rfl ha dX12_passes_183 ?_
    refine z_isub dX12_passes_186 ?_
    refine z_aload_n dX12_passes_187 rfl 0 rfl ?_
    refine z_geti (c := 12) (k := 45) (g := 1581) z_cb12 (Nat.le_of_ble_eq_true rfl) (Nat.le_of_ble_eq_true rfl) rfl (Nat.le_of_ble_eq_true rfl) zw_1300 rfl ha dX12_passes_188 ?_
    refine z_icmp_lt (tgt := 208) dX12_passes_191 (by decide) (fun h23 => ?_) (fun h23 => ?_)
    · replace hP := hP.1 h23
      refine z_sub (lv' := [(0, z_O _)]) [0] rfl ?_
      exact v_X12_passes_208  ha hP
    · replace hP := hP.2 h23
      refine z_aload_n dX12_passes_194 rfl 0 rfl ?_
      refine z_dup dX12_passes_195 rfl ?_
      refine z_pc (pc' := 196) rfl ?_
      refine z_geti (c := 12) (k := 45) (g := 1581) z_cb12 (Nat.le_of_ble_eq_true rfl) (Nat.le_of_ble_eq_true rfl) rfl (Nat.le_of_ble_eq_true rfl) zw_1300 rfl ha dX12_passes_196 ?_
      refine z_iconst (v := 2) dX12_passes_199 (by decide) ?_
      refine z_imul dX12_passes_200 ?_
      refine z_puti (c := 12) (k := 45) (g := 1581) z_cb12 (Nat.le_of_ble_eq_true rfl) (Nat.le_of_ble_eq_true rfl) (Nat.le_of_ble_eq_true rfl) rfl rfl rfl zw_1300 rfl ha (Or.inl rfl) dX12_passes_201 ?_
      refine z_nm (fun M_25 g_25 => ?_)
      replace hP := hP M_25 g_25
      have q_25 := z_k1 g_25
      have ha := z_kk q_25 ha
      refine z_aload_n dX12_passes_204 rfl 0 rfl ?_
      refine z_wts (fun hT26 _ => ?_)
      refine z_cVv (c := 12) (n := 0) (Y1 := Y_X12_saysHello) (st := []) rfl ha z_cb12 (Nat.le_of_ble_eq_true rfl) rfl (s_X12_saysHello ha hP) rfl ⟨z_dc_X12_saysHello, ⟨(Nat.le_of_ble_eq_true rfl), (Nat.le_of_ble_eq_true rfl)⟩, (Nat.le_of_ble_eq_true rfl)⟩ rfl zw_1606 zw_1608 zp_35 zw_12 zw_1609 dX12_passes_205 (fun M_26 hP _ x26 => ?_)
      have ha := x26.k (k := 12) hT26 ha
      refine z_sub (lv' := [(0, z_O _)]) [0] rfl ?_
      exact v_X12_passes_208  ha hP
set_option maxRecDepth 100000 in
set_option maxHeartbeats 4000000 in
theorem v_X12_passes_150 {G : z_G} {M0 : z_Mem} {a : Nat} {Post : z_Mem → Prop}   {M : z_Mem} (ha : z_ki M a = 13) (hP : P_X12_passes_150 a Post M) : z_V G Y_X12_passes z_X0 M0 (z_QM G M0 (z_PV Post)) M 150 [(0, z_O (some a))] [] := by
  unfold P_X12_passes_150 at hP
  refine z_aload_n dX12_passes_150 rfl 0 rfl ?_
  refine z_iconst (v := 0) dX12_passes_151 (by decide) ?_
  refine z_wts (fun hT27 _ => ?_)
  refine z_cVv (c := 12) (n := 1) (Y1 := Y_X12_losesByTime) (st := []) rfl ha z_cb12 (Nat.le_of_ble_eq_true rfl) rfl (s_X12_losesByTime ha hP) rfl ⟨z_dc_X12_losesByTime, ⟨(Nat.le_of_ble_eq_true rfl), (Nat.le_of_ble_eq_true rfl)⟩, (Nat.le_of_ble_eq_true rfl)⟩ rfl zw_1714 zw_1716 zp_53 zw_12 zw_1717 dX12_passes_152 (fun M_27 hP _ x27 => ?_)
  have ha := x27.k (k := 12) hT27 ha
  refine z_aload_n dX12_passes_155 rfl 0 rfl ?_
  refine z_iconst (v := 1) dX12_passes_156 (by decide) ?_
  refine z_wts (fun hT28 _ => ?_)
  refine z_cVv (c := 12) (n := 1) (Y1 := Y_X12_losesByTime) (st := []) rfl ha z_cb12 (Nat.le_of_ble_eq_true rfl) rfl (s_X12_losesByTime ha hP) rfl ⟨z_dc_X12_losesByTime, ⟨(Nat.le_of_ble_eq_true rfl), (Nat.le_of_ble_eq_true rfl)⟩, (Nat.le_of_ble_eq_true rfl)⟩ rfl zw_1714 zw_1716 zp_53 zw_12 zw_1717 dX12_passes_157 (fun M_28 hP _ x28 => ?_)
  have ha := x28.k (k := 12) hT28 ha
  refine z_pc (pc' := 160) rfl ?_
  refine z_aload_n dX12_passes_160 rfl 0 rfl ?_
  refine z_iconst (v := 0) dX12_passes_161 (by decide) ?_
  refine z_wts (fun hT29 _ => ?_)
  refine z_cVv (c := 12) (n := 1) (Y1 := Y_X12_probesOn) (st := []) rfl ha z_cb12 (Nat.le_of_ble_eq_true rfl) rfl (s_X12_probesOn ha hP) rfl ⟨z_dc_X12_probesOn, ⟨(Nat.le_of_ble_eq_true rfl), (Nat.le_of_ble_eq_true rfl)⟩, (Nat.le_of_ble_eq_true rfl)⟩ rfl zw_1718 zw_1720 zp_54 zw_12 zw_1721 dX12_passes_162 (fun M_29 hP _ x29 => ?_)
  have ha := x29.k (k := 12) hT29 ha
  refine z_aload_n dX12_passes_165 rfl 0 rfl ?_
  refine z_iconst (v := 1) dX12_passes_166 (by decide) ?_
  refine z_wts (fun hT30 _ => ?_)
  refine z_cVv (c := 12) (n := 1) (Y1 := Y_X12_probesOn) (st := []) rfl ha z_cb12 (Nat.le_of_ble_eq_true rfl) rfl (s_X12_probesOn ha hP) rfl ⟨z_dc_X12_probesOn, ⟨(Nat.le_of_ble_eq_true rfl), (Nat.le_of_ble_eq_true rfl)⟩, (Nat.le_of_ble_eq_true rfl)⟩ rfl zw_1718 zw_1720 zp_54 zw_12 zw_1721 dX12_passes_167 (fun M_30 hP _ x30 => ?_)
  have ha := x30.k (k := 12) hT30 ha
  refine z_sub (lv' := [(0, z_O _)]) [0] rfl ?_
  exact v_X12_passes_170  ha hP
set_option maxRecDepth 100000 in
set_option maxHeartbeats 4000000 in
theorem v_X12_passes_134 {G : z_G} {M0 : z_Mem} {a : Nat} {Post : z_Mem → Prop}   {M : z_Mem} (ha : z_ki M a = 13) (hP : P_X12_passes_134 a Post M) : z_V G Y_X12_passes z_X0 M0 (z_QM G M0 (z_PV Post)) M 134 [(0, z_O (some a))] [] := by
  unfold P_X12_passes_134 at hP
  refine z_aload_n dX12_passes_134 rfl 0 rfl ?_
  refine z_geti (c := 12) (k := 41) (g := 1577) z_cb12 (Nat.le_of_ble_eq_true rfl) (Nat.le_of_ble_eq_true rfl) rfl (Nat.le_of_ble_eq_true rfl) zw_1296 rfl ha dX12_passes_135 ?_
  refine z_iconst (v := 1) dX12_passes_138 (by decide) ?_
  refine z_icmp_eq (tgt := 150) dX12_passes_139 (by decide) (fun h32 => ?_) (fun h32 => ?_)
  · replace hP := hP.1 h32
    refine z_sub (lv' := [(0, z_O _)]) [0] rfl ?_
    exact v_X12_passes_150  ha hP
  · replace hP := hP.2 h32
    refine z_aload_n dX12_passes_142 rfl 0 rfl ?_
    refine z_geti (c := 12) (k := 41) (g := 1577) z_cb12 (Nat.le_of_ble_eq_true rfl) (Nat.le_of_ble_eq_true rfl) rfl (Nat.le_of_ble_eq_true rfl) zw_1296 rfl ha dX12_passes_143 ?_
    refine z_iconst (v := 2) dX12_passes_146 (by decide) ?_
    refine z_pc (pc' := 147) rfl ?_
    refine z_icmp_ne (tgt := 170) dX12_passes_147 (by decide) (fun h34 => ?_) (fun h34 => ?_)
    · replace hP := hP.2 h34
      refine z_sub (lv' := [(0, z_O _)]) [0] rfl ?_
      exact v_X12_passes_170  ha hP
    · replace hP := hP.1 h34
      refine z_sub (lv' := [(0, z_O _)]) [0] rfl ?_
      exact v_X12_passes_150  ha hP
set_option maxRecDepth 100000 in
set_option maxHeartbeats 4000000 in
theorem v_X12_passes_130 {G : z_G} {M0 : z_Mem} {a : Nat} {Post : z_Mem → Prop}   {M : z_Mem} (ha : z_ki M a = 13) (hP : P_X12_passes_130 a Post M) : z_V G Y_X12_passes z_X0 M0 (z_QM G M0 (z_PV Post)) M 130 [(0, z_O (some a))] [] := by
  unfold P_X12_passes_130 at hP
  refine z_aload_n dX12_passes_130 rfl 0 rfl ?_
  refine z_wts (fun hT35 _ => ?_)
  refine z_cVv (c := 12) (n := 0) (Y1 := Y_X12_acknowledges) (st := []) rfl ha z_cb12 (Nat.le_of_ble_eq_true rfl) rfl (s_X12_acknowledges ha hP) rfl ⟨z_dc_X12_acknowledges, ⟨(Nat.le_of_ble_eq_true rfl), (Nat.le_of_ble_eq_true rfl)⟩, (Nat.le_of_ble_eq_true rfl)⟩ rfl zw_1590 zw_1592 zp_33 zw_12 zw_1593 dX12_passes_131 (fun M_35 hP _ x35 => ?_)
  have ha := x35.k (k := 12) hT35 ha
  refine z_sub (lv' := [(0, z_O _)]) [0] rfl ?_
  exact v_X12_passes_134  ha hP
set_option maxRecDepth 100000 in
set_option maxHeartbeats 4000000 in
theorem v_X12_passes_120 {G : z_G} {M0 : z_Mem} {a : Nat} {Post : z_Mem → Prop}   {M : z_Mem} (ha : z_ki M a = 13) (hP : P_X12_passes_120 a Post M) : z_V G Y_X12_passes z_X0 M0 (z_QM G M0 (z_PV Post)) M 120 [(0, z_O (some a))] [] := by
  unfold P_X12_passes_120 at hP
  refine z_aload_n dX12_passes_120 rfl 0 rfl ?_
  refine z_geti (c := 12) (k := 0) (g := 1536) z_cb12 (Nat.le_of_ble_eq_true rfl) (Nat.le_of_ble_eq_true rfl) rfl (Nat.le_of_ble_eq_true rfl) zw_1255 rfl ha dX12_passes_121 ?_
  refine z_bipush (v := 20) dX12_passes_124 (by decide) ?_
  refine z_irem dX12_passes_126 (by decide) ?_
  refine z_if_ne (tgt := 134) dX12_passes_127 (by decide) (fun h37 => ?_) (fun h37 => ?_)
  · replace hP := hP.2 h37
    refine z_sub (lv' := [(0, z_O _)]) [0] rfl ?_
    exact v_X12_passes_134  ha hP
  · replace hP := hP.1 h37
    refine z_sub (lv' := [(0, z_O _)]) [0] rfl ?_
    exact v_X12_passes_130  ha hP
set_option maxRecDepth 100000 in
set_option maxHeartbeats 4000000 in
theorem v_X12_passes_56 {G : z_G} {M0 : z_Mem} {a : Nat} {Post : z_Mem → Prop}   : ∀ (n : Nat) {x1 : Int32} {x2 : Int32} {M : z_Mem}, (z_ki M a = 13) → P_X12_passes_56 a Post n x1 x2 M → z_V G Y_X12_passes z_X0 M0 (z_QM G M0 (z_PV Post)) M 56 [(0, z_O (some a)), (1, z_I x1), (2, z_I x2)] [] := by
  intro n
  induction n with
  | zero => intro x1 x2 M ha hP; exact False.elim hP
  | succ n ih =>
    intro x1 x2 M ha hP
    unfold P_X12_passes_56 at hP
    refine z_iload_n dX12_passes_56 rfl 2 rfl ?_
    refine z_iload_n dX12_passes_57 rfl 1 rfl ?_
    refine z_icmp_ge (tgt := 85) dX12_passes_58 (by decide) (fun h38 => ?_) (fun h38 => ?_)
    · replace hP := hP.1 h38
      refine z_aload_n dX12_passes_85 rfl 0 rfl ?_
      refine z_geti (c := 12) (k := 26) (g := 1562) z_cb12 (Nat.le_of_ble_eq_true rfl) (Nat.le_of_ble_eq_true rfl) rfl (Nat.le_of_ble_eq_true rfl) zw_1281 rfl ha dX12_passes_86 ?_
      refine z_iconst (v := 1) dX12_passes_89 (by decide) ?_
      refine z_icmp_ne (tgt := 134) dX12_passes_90 (by decide) (fun h40 => ?_) (fun h40 => ?_)
      · replace hP := hP.2 h40
        refine z_sub (lv' := [(0, z_O _)]) [0] rfl ?_
        exact v_X12_passes_134  ha hP
      · replace hP := hP.1 h40
        refine z_aload_n dX12_passes_93 rfl 0 rfl ?_
        refine z_pc (pc' := 94) rfl ?_
        refine z_geti (c := 12) (k := 39) (g := 1575) z_cb12 (Nat.le_of_ble_eq_true rfl) (Nat.le_of_ble_eq_true rfl) rfl (Nat.le_of_ble_eq_true rfl) zw_1294 rfl ha dX12_passes_94 ?_
        refine z_iconst (v := (-1)) dX12_passes_97 (by decide) ?_
        refine z_icmp_eq (tgt := 134) dX12_passes_98 (by decide) (fun h42 => ?_) (fun h42 => ?_)
        · replace hP := hP.1 h42
          refine z_sub (lv' := [(0, z_O _)]) [0] rfl ?_
          exact v_X12_passes_134  ha hP
        · replace hP := hP.2 h42
          refine z_aload_n dX12_passes_101 rfl 0 rfl ?_
          refine z_geti (c := 12) (k := 38) (g := 1574) z_cb12 (Nat.le_of_ble_eq_true rfl) (Nat.le_of_ble_eq_true rfl) rfl (Nat.le_of_ble_eq_true rfl) zw_1293 rfl ha dX12_passes_102 ?_
          refine z_iconst (v := (-1)) dX12_passes_105 (by decide) ?_
          refine z_icmp_eq (tgt := 120) dX12_passes_106 (by decide) (fun h44 => ?_) (fun h44 => ?_)
          · replace hP := hP.1 h44
            refine z_sub (lv' := [(0, z_O _)]) [0] rfl ?_
            exact v_X12_passes_120  ha hP
          · replace hP := hP.2 h44
            refine z_aload_n dX12_passes_109 rfl 0 rfl ?_
            refine z_pc (pc' := 110) rfl ?_
            refine z_geti (c := 12) (k := 0) (g := 1536) z_cb12 (Nat.le_of_ble_eq_true rfl) (Nat.le_of_ble_eq_true rfl) rfl (Nat.le_of_ble_eq_true rfl) zw_1255 rfl ha dX12_passes_110 ?_
            refine z_aload_n dX12_passes_113 rfl 0 rfl ?_
            refine z_geti (c := 12) (k := 38) (g := 1574) z_cb12 (Nat.le_of_ble_eq_true rfl) (Nat.le_of_ble_eq_true rfl) rfl (Nat.le_of_ble_eq_true rfl) zw_1293 rfl ha dX12_passes_114 ?_
            refine z_icmp_ge (tgt := 130) dX12_passes_117 (by decide) (fun h47 => ?_) (fun h47 => ?_)
            · replace hP := hP.1 h47
              refine z_sub (lv' := [(0, z_O _)]) [0] rfl ?_
              exact v_X12_passes_130  ha hP
            · replace hP := hP.2 h47
              refine z_sub (lv' := [(0, z_O _)]) [0] rfl ?_
              exact v_X12_passes_120  ha hP
    · replace hP := hP.2 h38
      refine z_aload_n dX12_passes_61 rfl 0 rfl ?_
      refine z_getr (c := 12) (k := 22) (g := 1558) (t := 20) z_cb12 (Nat.le_of_ble_eq_true rfl) (Nat.le_of_ble_eq_true rfl) rfl rfl zw_1277 rfl ha dX12_passes_62 (fun f48 => ?_)
      refine z_iload_n dX12_passes_65 rfl 2 rfl ?_
      obtain ⟨a49, e49, hP⟩ := hP
      have k49 := f48 a49 e49
      obtain ⟨i50, hP⟩ := hP
      refine z_iald e49 k49 i50 dX12_passes_66 ?_
      refine z_pc (pc' := 67) rfl ?_
      refine z_aload_n dX12_passes_67 rfl 0 rfl ?_
      refine z_geti (c := 12) (k := 0) (g := 1536) z_cb12 (Nat.le_of_ble_eq_true rfl) (Nat.le_of_ble_eq_true rfl) rfl (Nat.le_of_ble_eq_true rfl) zw_1255 rfl ha dX12_passes_68 ?_
      refine z_icmp_ne (tgt := 79) dX12_passes_71 (by decide) (fun h52 => ?_) (fun h52 => ?_)
      · replace hP := hP.2 h52
        refine z_sub (lv' := [(0, z_O _), (1, z_I _), (2, z_I _)]) [0, 1, 2] rfl ?_
        exact v_X12_passes_79 (fun _ _ _ w0 hP => ih w0 hP) ha hP
      · replace hP := hP.1 h52
        refine z_aload_n dX12_passes_74 rfl 0 rfl ?_
        refine z_iload_n dX12_passes_75 rfl 2 rfl ?_
        refine z_wts (fun hT53 _ => ?_)
        refine z_cVv (c := 12) (n := 1) (Y1 := Y_X12_arrivesAtClient) (st := []) rfl ha z_cb12 (Nat.le_of_ble_eq_true rfl) rfl (s_X12_arrivesAtClient ha hP) rfl ⟨z_dc_X12_arrivesAtClient, ⟨(Nat.le_of_ble_eq_true rfl), (Nat.le_of_ble_eq_true rfl)⟩, (Nat.le_of_ble_eq_true rfl)⟩ rfl zw_1665 zw_1667 zp_42 zw_12 zw_1668 dX12_passes_76 (fun M_53 hP _ x53 => ?_)
        have ha := x53.k (k := 12) hT53 ha
        refine z_sub (lv' := [(0, z_O _), (1, z_I _), (2, z_I _)]) [0, 1, 2] rfl ?_
        exact v_X12_passes_79 (fun _ _ _ w0 hP => ih w0 hP) ha hP
set_option maxRecDepth 100000 in
set_option maxHeartbeats 4000000 in
theorem v_X12_passes_12 {G : z_G} {M0 : z_Mem} {a : Nat} {Post : z_Mem → Prop}   : ∀ (n : Nat) {x1 : Int32} {M : z_Mem}, (z_ki M a = 13) → P_X12_passes_12 a Post n x1 M → z_V G Y_X12_passes z_X0 M0 (z_QM G M0 (z_PV Post)) M 12 [(0, z_O (some a)), (1, z_I x1)] [] := by
  intro n
  induction n with
  | zero => intro x1 M ha hP; exact False.elim hP
  | succ n ih =>
    intro x1 M ha hP
    unfold P_X12_passes_12 at hP
    refine z_iload_n dX12_passes_12 rfl 1 rfl ?_
    refine z_aload_n dX12_passes_13 rfl 0 rfl ?_
    refine z_geti (c := 12) (k := 18) (g := 1554) z_cb12 (Nat.le_of_ble_eq_true rfl) (Nat.le_of_ble_eq_true rfl) rfl (Nat.le_of_ble_eq_true rfl) zw_1273 rfl ha dX12_passes_14 ?_
    refine z_icmp_ge (tgt := 49) dX12_passes_17 (by decide) (fun h55 => ?_) (fun h55 => ?_)
    · replace hP := hP.1 h55
      refine z_aload_n dX12_passes_49 rfl 0 rfl ?_
      refine z_geti (c := 12) (k := 23) (g := 1559) z_cb12 (Nat.le_of_ble_eq_true rfl) (Nat.le_of_ble_eq_true rfl) rfl (Nat.le_of_ble_eq_true rfl) zw_1278 rfl ha dX12_passes_50 ?_
      refine z_topi (fun x_57 y_57 => ?_)
      replace hP := hP x_57 y_57
      refine z_istore_n (lv' := [(1, z_I _), (0, z_O _)]) dX12_passes_53 rfl (Nat.le_of_ble_eq_true rfl) rfl ?_
      refine z_pc (pc' := 54) rfl ?_
      refine z_iconst (v := 0) dX12_passes_54 (by decide) ?_
      refine z_istore_n (lv' := [(2, z_I _), (1, z_I _), (0, z_O _)]) dX12_passes_55 rfl (Nat.le_of_ble_eq_true rfl) rfl ?_
      obtain ⟨n58, hP⟩ := hP
      refine z_sub (lv' := [(0, z_O _), (1, z_I _), (2, z_I _)]) [2, 1, 0] rfl ?_
      exact v_X12_passes_56  n58 ha hP
    · replace hP := hP.2 h55
      refine z_aload_n dX12_passes_20 rfl 0 rfl ?_
      refine z_getr (c := 12) (k := 17) (g := 1553) (t := 20) z_cb12 (Nat.le_of_ble_eq_true rfl) (Nat.le_of_ble_eq_true rfl) rfl rfl zw_1272 rfl ha dX12_passes_21 (fun f59 => ?_)
      refine z_iload_n dX12_passes_24 rfl 1 rfl ?_
      refine z_pc (pc' := 25) rfl ?_
      obtain ⟨a60, e60, hP⟩ := hP
      have k60 := f59 a60 e60
      obtain ⟨i61, hP⟩ := hP
      refine z_iald e60 k60 i61 dX12_passes_25 ?_
      refine z_aload_n dX12_passes_26 rfl 0 rfl ?_
      refine z_geti (c := 12) (k := 0) (g := 1536) z_cb12 (Nat.le_of_ble_eq_true rfl) (Nat.le_of_ble_eq_true rfl) rfl (Nat.le_of_ble_eq_true rfl) zw_1255 rfl ha dX12_passes_27 ?_
      refine z_icmp_ne (tgt := 43) dX12_passes_30 (by decide) (fun h63 => ?_) (fun h63 => ?_)
      · replace hP := hP.2 h63
        refine z_sub (lv' := [(0, z_O _), (1, z_I _)]) [0, 1] rfl ?_
        exact v_X12_passes_43 (fun _ _ w0 hP => ih w0 hP) ha hP
      · replace hP := hP.1 h63
        refine z_aload_n dX12_passes_33 rfl 0 rfl ?_
        refine z_aload_n dX12_passes_34 rfl 0 rfl ?_
        refine z_getr (c := 12) (k := 16) (g := 1552) (t := 20) z_cb12 (Nat.le_of_ble_eq_true rfl) (Nat.le_of_ble_eq_true rfl) rfl rfl zw_1271 rfl ha dX12_passes_35 (fun f64 => ?_)
        refine z_pc (pc' := 38) rfl ?_
        refine z_iload_n dX12_passes_38 rfl 1 rfl ?_
        obtain ⟨a65, e65, hP⟩ := hP
        have k65 := f64 a65 e65
        obtain ⟨i66, hP⟩ := hP
        refine z_iald e65 k65 i66 dX12_passes_39 ?_
        refine z_wts (fun hT67 _ => ?_)
        refine z_cVv (c := 12) (n := 1) (Y1 := Y_X12_arrivesAtServer) (st := []) rfl ha z_cb12 (Nat.le_of_ble_eq_true rfl) rfl (s_X12_arrivesAtServer ha hP) rfl ⟨z_dc_X12_arrivesAtServer, ⟨(Nat.le_of_ble_eq_true rfl), (Nat.le_of_ble_eq_true rfl)⟩, (Nat.le_of_ble_eq_true rfl)⟩ rfl zw_1646 zw_1648 zp_38 zw_12 zw_1649 dX12_passes_40 (fun M_67 hP _ x67 => ?_)
        have ha := x67.k (k := 12) hT67 ha
        refine z_sub (lv' := [(0, z_O _), (1, z_I _)]) [0, 1] rfl ?_
        exact v_X12_passes_43 (fun _ _ w0 hP => ih w0 hP) ha hP
set_option maxRecDepth 100000 in
set_option maxHeartbeats 4000000 in
theorem s_X12_passes {G : z_G} {M : z_Mem} {a : Nat} {Post : z_Mem → Prop} (ha : z_ki M a = 13) (hP : P_X12_passes a M Post) : z_Mt G Y_X12_passes M [z_O (some a)] (z_PV Post) := by
  refine z_ofV (by decide) (Nat.le_of_ble_eq_true rfl) ?_
  unfold P_X12_passes at hP
  refine z_sub (lv' := [(0, z_O (some a))]) [0] rfl ?_
  refine z_aload_n dX12_passes_0 rfl 0 rfl ?_
  refine z_dup dX12_passes_1 rfl ?_
  refine z_geti (c := 12) (k := 0) (g := 1536) z_cb12 (Nat.le_of_ble_eq_true rfl) (Nat.le_of_ble_eq_true rfl) rfl (Nat.le_of_ble_eq_true rfl) zw_1255 rfl ha dX12_passes_2 ?_
  refine z_iconst (v := 1) dX12_passes_5 (by decide) ?_
  refine z_iadd dX12_passes_6 ?_
  refine z_puti (c := 12) (k := 0) (g := 1536) z_cb12 (Nat.le_of_ble_eq_true rfl) (Nat.le_of_ble_eq_true rfl) (Nat.le_of_ble_eq_true rfl) rfl rfl rfl zw_1255 rfl ha (Or.inl rfl) dX12_passes_7 ?_
  refine z_nm (fun M_69 g_69 => ?_)
  replace hP := hP M_69 g_69
  have q_69 := z_k1 g_69
  have ha := z_kk q_69 ha
  refine z_pc (pc' := 10) rfl ?_
  refine z_iconst (v := 0) dX12_passes_10 (by decide) ?_
  refine z_istore_n (lv' := [(1, z_I _), (0, z_O _)]) dX12_passes_11 rfl (Nat.le_of_ble_eq_true rfl) rfl ?_
  obtain ⟨n70, hP⟩ := hP
  refine z_sub (lv' := [(0, z_O _), (1, z_I _)]) [1, 0] rfl ?_
  exact v_X12_passes_12  n70 ha hP
set_option maxRecDepth 100000 in
def P_X12_tick_36 (a : Nat) (Post : Int32 → z_Mem → Prop)  : Nat → Int32 → Int32 → z_Mem → Prop
  | 0, _, _, _ => False
  | n + 1, x1, x2, M => ((x1 ≤ x2 → Post (z_fi M 1536 a) M) ∧ (¬ x1 ≤ x2 → P_X12_passes a M fun M_3 => (∀ x_4 : Int32, x_4 = x2 + 1 → (P_X12_tick_36 a Post n x1 x_4 M_3))))
def P_X12_tick_25 (a : Nat) (Post : Int32 → z_Mem → Prop)  (x1 : Int32) (t0 : Option Nat) (t1 : Int32) (t2 : Int32) (M : z_Mem) : Prop := z_nn t0 fun a6 => (P_X12_goes a6 t1 t2 1 M fun x_5 M_5 => (((x_5 = 0 → Post 0 M_5) ∧ (¬ x_5 = 0 → (∃ n8 : Nat, P_X12_tick_36 a Post n8 x1 0 M_5)))))
set_option maxRecDepth 100000 in
def P_X12_tick (a : Nat) (p1 : Int32) (M : z_Mem) (Post : Int32 → z_Mem → Prop) : Prop := P_X12_in p1 1 50 M fun x_9 M_9 => (((2000 < ((z_fi M_9 1536 a) + p1) → P_X12_tick_25 a Post p1 (some a) x_9 0 M_9) ∧ (¬ 2000 < ((z_fi M_9 1536 a) + p1) → P_X12_tick_25 a Post p1 (some a) x_9 1 M_9)))
set_option maxRecDepth 100000 in
set_option maxHeartbeats 4000000 in
theorem v_X12_tick_36 {G : z_G} {M0 : z_Mem} {a : Nat} {Post : Int32 → z_Mem → Prop}   : ∀ (n : Nat) {x1 : Int32} {x2 : Int32} {M : z_Mem}, (z_ki M a = 13) → P_X12_tick_36 a Post n x1 x2 M → z_V G Y_X12_tick z_X0 M0 (z_QM G M0 (z_PI Post)) M 36 [(0, z_O (some a)), (1, z_I x1), (2, z_I x2)] [] := by
  intro n
  induction n with
  | zero => intro x1 x2 M ha hP; exact False.elim hP
  | succ n ih =>
    intro x1 x2 M ha hP
    unfold P_X12_tick_36 at hP
    refine z_iload_n dX12_tick_36 rfl 2 rfl ?_
    refine z_iload_n dX12_tick_37 rfl 1 rfl ?_
    refine z_icmp_ge (tgt := 51) dX12_tick_38 (by decide) (fun h1 => ?_) (fun h1 => ?_)
    · replace hP := hP.1 h1
      refine z_aload_n dX12_tick_51 rfl 0 rfl ?_
      refine z_geti (c := 12) (k := 0) (g := 1536) z_cb12 (Nat.le_of_ble_eq_true rfl) (Nat.le_of_ble_eq_true rfl) rfl (Nat.le_of_ble_eq_true rfl) zw_1255 rfl ha dX12_tick_52 ?_
      exact z_reti rfl dX12_tick_55 hP
    · replace hP := hP.2 h1
      refine z_aload_n dX12_tick_41 rfl 0 rfl ?_
      refine z_wts (fun hT3 _ => ?_)
      refine z_cVv (c := 12) (n := 0) (Y1 := Y_X12_passes) (st := []) rfl ha z_cb12 (Nat.le_of_ble_eq_true rfl) rfl (s_X12_passes ha hP) rfl ⟨z_dc_X12_passes, ⟨(Nat.le_of_ble_eq_true rfl), (Nat.le_of_ble_eq_true rfl)⟩, (Nat.le_of_ble_eq_true rfl)⟩ rfl zw_1642 zw_1644 zp_37 zw_12 zw_1645 dX12_tick_42 (fun M_3 hP _ x3 => ?_)
      have ha := x3.k (k := 12) hT3 ha
      refine z_iincN (j := 2) (m := 1) (lv' := fun v => [(2, z_I v), (0, z_O _), (1, z_I _)]) dX12_tick_45 rfl (by decide) (Nat.le_of_ble_eq_true rfl) (fun _ => rfl) (fun x_4 y_4 => ?_)
      replace hP := hP x_4 y_4
      refine z_goto (tgt := 36) dX12_tick_48 (by decide) ?_
      refine z_sub (lv' := [(0, z_O _), (1, z_I _), (2, z_I _)]) [1, 2, 0] rfl ?_
      exact ih ha hP
set_option maxRecDepth 100000 in
set_option maxHeartbeats 4000000 in
theorem v_X12_tick_25 {G : z_G} {M0 : z_Mem} {a : Nat} {Post : Int32 → z_Mem → Prop}   {x1 : Int32} {t0 : Option Nat} {t1 : Int32} {t2 : Int32} {M : z_Mem} (ha : z_ki M a = 13) (f_t0 : z_tr M t0 13) (f_t1 : t1 = 0 ∨ t1 = 1) (f_t2 : t2 = 0 ∨ t2 = 1) (hP : P_X12_tick_25 a Post x1 t0 t1 t2 M) : z_V G Y_X12_tick z_X0 M0 (z_QM G M0 (z_PI Post)) M 25 [(0, z_O (some a)), (1, z_I x1)] [z_I t2, z_I t1, z_O t0] := by
  unfold P_X12_tick_25 at hP
  refine z_iconst (v := 1) dX12_tick_25 (by decide) ?_
  obtain ⟨a6, e6, hP⟩ := hP
  have k6 := f_t0 a6 e6
  refine z_wts (fun hT5 _ => ?_)
  refine z_cVb (c := 12) (n := 3) (Y1 := Y_X12_goes) (st := []) e6 k6 z_cb12 (Nat.le_of_ble_eq_true rfl) rfl (s_X12_goes k6 f_t1 f_t2 (Or.inr rfl) hP) rfl ⟨z_dc_X12_goes, ⟨(Nat.le_of_ble_eq_true rfl), (Nat.le_of_ble_eq_true rfl)⟩, (Nat.le_of_ble_eq_true rfl)⟩ rfl zw_1555 zw_1557 zp_31 zw_12 zw_1558 dX12_tick_26 (fun x_5 M_5 b5 hP _ x5 => ?_)
  have ha := x5.k (k := 12) hT5 ha
  refine z_if_ne (tgt := 34) dX12_tick_29 (by decide) (fun h7 => ?_) (fun h7 => ?_)
  · replace hP := hP.2 h7
    refine z_iconst (v := 0) dX12_tick_34 (by decide) ?_
    refine z_istore_n (lv' := [(2, z_I _), (0, z_O _), (1, z_I _)]) dX12_tick_35 rfl (Nat.le_of_ble_eq_true rfl) rfl ?_
    obtain ⟨n8, hP⟩ := hP
    refine z_sub (lv' := [(0, z_O _), (1, z_I _), (2, z_I _)]) [1, 2, 0] rfl ?_
    exact v_X12_tick_36  n8 ha hP
  · replace hP := hP.1 h7
    refine z_iconst (v := 0) dX12_tick_32 (by decide) ?_
    exact z_reti rfl dX12_tick_33 hP
set_option maxRecDepth 100000 in
set_option maxHeartbeats 4000000 in
theorem s_X12_tick {G : z_G} {M : z_Mem} {a : Nat} {p1 : Int32} {Post : Int32 → z_Mem → Prop} (ha : z_ki M a = 13) (hP : P_X12_tick a p1 M Post) : z_Mt G Y_X12_tick M [z_O (some a), z_I p1] (z_PI Post) := by
  refine z_ofV (by decide) (Nat.le_of_ble_eq_true rfl) ?_
  unfold P_X12_tick at hP
  refine z_sub (lv' := [(0, z_O (some a)), (1, z_I p1)]) [0, 1] rfl ?_
  refine z_aload_n dX12_tick_0 rfl 0 rfl ?_
  refine z_iload_n dX12_tick_1 rfl 1 rfl ?_
  refine z_iconst (v := 1) dX12_tick_2 (by decide) ?_
  refine z_bipush (v := 50) dX12_tick_3 (by decide) ?_
  refine z_wts (fun hT9 _ => ?_)
  refine z_cSb (n := 3) (Y1 := Y_X12_in) (st := [z_O _]) rfl (s_X12_in  hP) rfl ⟨z_dc_X12_in, ⟨(Nat.le_of_ble_eq_true rfl), (Nat.le_of_ble_eq_true rfl)⟩, (Nat.le_of_ble_eq_true rfl)⟩ rfl zw_1552 zw_1553 zw_12 zw_1554 dX12_tick_5 (fun x_9 M_9 b9 hP _ x9 => ?_)
  have ha := x9.k (k := 12) hT9 ha
  refine z_aload_n dX12_tick_8 rfl 0 rfl ?_
  refine z_pc (pc' := 9) rfl ?_
  refine z_geti (c := 12) (k := 0) (g := 1536) z_cb12 (Nat.le_of_ble_eq_true rfl) (Nat.le_of_ble_eq_true rfl) rfl (Nat.le_of_ble_eq_true rfl) zw_1255 rfl ha dX12_tick_9 ?_
  refine z_iload_n dX12_tick_12 rfl 1 rfl ?_
  refine z_iadd dX12_tick_13 ?_
  refine z_sipush (v := 2000) dX12_tick_14 (by decide) ?_
  refine z_icmp_gt (tgt := 24) dX12_tick_17 (by decide) (fun h11 => ?_) (fun h11 => ?_)
  · replace hP := hP.1 h11
    refine z_iconst (v := 0) dX12_tick_24 (by decide) ?_
    refine z_sub (lv' := [(0, z_O _), (1, z_I _)]) [0, 1] rfl ?_
    exact v_X12_tick_25  ha (z_trn rfl ha) b9 (Or.inl rfl) hP
  · replace hP := hP.2 h11
    refine z_iconst (v := 1) dX12_tick_20 (by decide) ?_
    refine z_goto (tgt := 25) dX12_tick_21 (by decide) ?_
    refine z_sub (lv' := [(0, z_O _), (1, z_I _)]) [0, 1] rfl ?_
    exact v_X12_tick_25  ha (z_trn rfl ha) b9 (Or.inr rfl) hP
set_option maxRecDepth 100000 in
def P_X12_now (a : Nat) (M : z_Mem) (Post : Int32 → z_Mem → Prop) : Prop := ∀ M_1 : z_Mem, M_1 = z_sfi M 1630 a 0 → (Post (z_fi M_1 1536 a) M_1)
set_option maxRecDepth 100000 in
set_option maxHeartbeats 4000000 in
theorem s_X12_now {G : z_G} {M : z_Mem} {a : Nat} {Post : Int32 → z_Mem → Prop} (ha : z_ki M a = 13) (hP : P_X12_now a M Post) : z_Mt G Y_X12_now M [z_O (some a)] (z_PI Post) := by
  refine z_ofV (by decide) (Nat.le_of_ble_eq_true rfl) ?_
  unfold P_X12_now at hP
  refine z_sub (lv' := [(0, z_O (some a))]) [0] rfl ?_
  refine z_aload_n dX12_now_0 rfl 0 rfl ?_
  refine z_iconst (v := 0) dX12_now_1 (by decide) ?_
  refine z_puti (c := 12) (k := 94) (g := 1630) z_cb12 (Nat.le_of_ble_eq_true rfl) (Nat.le_of_ble_eq_true rfl) (Nat.le_of_ble_eq_true rfl) rfl rfl rfl zw_1349 rfl ha (Or.inl rfl) dX12_now_2 ?_
  refine z_nm (fun M_1 g_1 => ?_)
  replace hP := hP M_1 g_1
  have q_1 := z_k1 g_1
  have ha := z_kk q_1 ha
  refine z_aload_n dX12_now_5 rfl 0 rfl ?_
  refine z_geti (c := 12) (k := 0) (g := 1536) z_cb12 (Nat.le_of_ble_eq_true rfl) (Nat.le_of_ble_eq_true rfl) rfl (Nat.le_of_ble_eq_true rfl) zw_1255 rfl ha dX12_now_6 ?_
  exact z_reti rfl dX12_now_9 hP
set_option maxRecDepth 100000 in
def P_X12_state (a : Nat) (p1 : Int32) (M : z_Mem) (Post : Int32 → z_Mem → Prop) : Prop := P_X12_in p1 0 4 M fun x_1 M_1 => (P_X12_goes a x_1 1 1 M_1 fun x_2 M_2 => (((x_2 = 0 → Post 0 M_2) ∧ (¬ x_2 = 0 → ((p1 = 0 → Post (z_fi M_2 1577 a) M_2) ∧ (¬ p1 = 0 → ((p1 = 1 → Post (z_fi M_2 1562 a) M_2) ∧ (¬ p1 = 1 → ((p1 = 2 → Post (z_fi M_2 1584 a) M_2) ∧ (¬ p1 = 2 → ((p1 = 3 → Post (z_fi M_2 1566 a) M_2) ∧ (¬ p1 = 3 → Post (z_fi M_2 1583 a) M_2))))))))))))
set_option maxRecDepth 100000 in
set_option maxHeartbeats 4000000 in
theorem s_X12_state {G : z_G} {M : z_Mem} {a : Nat} {p1 : Int32} {Post : Int32 → z_Mem → Prop} (ha : z_ki M a = 13) (hP : P_X12_state a p1 M Post) : z_Mt G Y_X12_state M [z_O (some a), z_I p1] (z_PI Post) := by
  refine z_ofV (by decide) (Nat.le_of_ble_eq_true rfl) ?_
  unfold P_X12_state at hP
  refine z_sub (lv' := [(0, z_O (some a)), (1, z_I p1)]) [0, 1] rfl ?_
  refine z_aload_n dX12_state_0 rfl 0 rfl ?_
  refine z_iload_n dX12_state_1 rfl 1 rfl ?_
  refine z_iconst (v := 0) dX12_state_2 (by decide) ?_
  refine z_iconst (v := 4) dX12_state_3 (by decide) ?_
  refine z_wts (fun hT1 _ => ?_)
  refine z_cSb (n := 3) (Y1 := Y_X12_in) (st := [z_O _]) rfl (s_X12_in  hP) rfl ⟨z_dc_X12_in, ⟨(Nat.le_of_ble_eq_true rfl), (Nat.le_of_ble_eq_true rfl)⟩, (Nat.le_of_ble_eq_true rfl)⟩ rfl zw_1552 zw_1553 zw_12 zw_1554 dX12_state_4 (fun x_1 M_1 b1 hP _ x1 => ?_)
  have ha := x1.k (k := 12) hT1 ha
  refine z_iconst (v := 1) dX12_state_7 (by decide) ?_
  refine z_pc (pc' := 8) rfl ?_
  refine z_iconst (v := 1) dX12_state_8 (by decide) ?_
  refine z_wts (fun hT2 _ => ?_)
  refine z_cVb (c := 12) (n := 3) (Y1 := Y_X12_goes) (st := []) rfl ha z_cb12 (Nat.le_of_ble_eq_true rfl) rfl (s_X12_goes ha b1 (Or.inr rfl) (Or.inr rfl) hP) rfl ⟨z_dc_X12_goes, ⟨(Nat.le_of_ble_eq_true rfl), (Nat.le_of_ble_eq_true rfl)⟩, (Nat.le_of_ble_eq_true rfl)⟩ rfl zw_1555 zw_1557 zp_31 zw_12 zw_1558 dX12_state_9 (fun x_2 M_2 b2 hP _ x2 => ?_)
  have ha := x2.k (k := 12) hT2 ha
  refine z_if_ne (tgt := 17) dX12_state_12 (by decide) (fun h3 => ?_) (fun h3 => ?_)
  · replace hP := hP.2 h3
    refine z_iload_n dX12_state_17 rfl 1 rfl ?_
    refine z_if_ne (tgt := 28) dX12_state_18 (by decide) (fun h4 => ?_) (fun h4 => ?_)
    · replace hP := hP.2 h4
      refine z_iload_n dX12_state_28 rfl 1 rfl ?_
      refine z_iconst (v := 1) dX12_state_29 (by decide) ?_
      refine z_icmp_ne (tgt := 40) dX12_state_30 (by decide) (fun h5 => ?_) (fun h5 => ?_)
      · replace hP := hP.2 h5
        refine z_iload_n dX12_state_40 rfl 1 rfl ?_
        refine z_pc (pc' := 41) rfl ?_
        refine z_iconst (v := 2) dX12_state_41 (by decide) ?_
        refine z_icmp_ne (tgt := 52) dX12_state_42 (by decide) (fun h6 => ?_) (fun h6 => ?_)
        · replace hP := hP.2 h6
          refine z_iload_n dX12_state_52 rfl 1 rfl ?_
          refine z_iconst (v := 3) dX12_state_53 (by decide) ?_
          refine z_icmp_ne (tgt := 64) dX12_state_54 (by decide) (fun h7 => ?_) (fun h7 => ?_)
          · replace hP := hP.2 h7
            refine z_aload_n dX12_state_64 rfl 0 rfl ?_
            refine z_geti (c := 12) (k := 47) (g := 1583) z_cb12 (Nat.le_of_ble_eq_true rfl) (Nat.le_of_ble_eq_true rfl) rfl (Nat.le_of_ble_eq_true rfl) zw_1302 rfl ha dX12_state_65 ?_
            exact z_reti rfl dX12_state_68 hP
          · replace hP := hP.1 h7
            refine z_aload_n dX12_state_57 rfl 0 rfl ?_
            refine z_geti (c := 12) (k := 30) (g := 1566) z_cb12 (Nat.le_of_ble_eq_true rfl) (Nat.le_of_ble_eq_true rfl) rfl (Nat.le_of_ble_eq_true rfl) zw_1285 rfl ha dX12_state_58 ?_
            refine z_goto (tgt := 68) dX12_state_61 (by decide) ?_
            exact z_reti rfl dX12_state_68 hP
        · replace hP := hP.1 h6
          refine z_aload_n dX12_state_45 rfl 0 rfl ?_
          refine z_geti (c := 12) (k := 48) (g := 1584) z_cb12 (Nat.le_of_ble_eq_true rfl) (Nat.le_of_ble_eq_true rfl) rfl (Nat.le_of_ble_eq_true rfl) zw_1303 rfl ha dX12_state_46 ?_
          refine z_goto (tgt := 68) dX12_state_49 (by decide) ?_
          exact z_reti rfl dX12_state_68 hP
      · replace hP := hP.1 h5
        refine z_aload_n dX12_state_33 rfl 0 rfl ?_
        refine z_pc (pc' := 34) rfl ?_
        refine z_geti (c := 12) (k := 26) (g := 1562) z_cb12 (Nat.le_of_ble_eq_true rfl) (Nat.le_of_ble_eq_true rfl) rfl (Nat.le_of_ble_eq_true rfl) zw_1281 rfl ha dX12_state_34 ?_
        refine z_goto (tgt := 68) dX12_state_37 (by decide) ?_
        exact z_reti rfl dX12_state_68 hP
    · replace hP := hP.1 h4
      refine z_aload_n dX12_state_21 rfl 0 rfl ?_
      refine z_geti (c := 12) (k := 41) (g := 1577) z_cb12 (Nat.le_of_ble_eq_true rfl) (Nat.le_of_ble_eq_true rfl) rfl (Nat.le_of_ble_eq_true rfl) zw_1296 rfl ha dX12_state_22 ?_
      refine z_goto (tgt := 68) dX12_state_25 (by decide) ?_
      exact z_reti rfl dX12_state_68 hP
  · replace hP := hP.1 h3
    refine z_iconst (v := 0) dX12_state_15 (by decide) ?_
    exact z_reti rfl dX12_state_16 hP
set_option maxRecDepth 100000 in
def P_X12_path (a : Nat) (p1 : Int32) (p2 : Int32) (M : z_Mem) (Post : Int32 → z_Mem → Prop) : Prop := P_X12_isPath p1 M fun x_1 M_1 => (P_X12_in p2 0 8 M_1 fun x_2 M_2 => (P_X12_goes a x_1 x_2 1 M_2 fun x_3 M_3 => (((x_3 = 0 → Post 0 M_3) ∧ (¬ x_3 = 0 → ((p2 = nI 0 → z_nn (z_fr M_3 1607 a) fun a7 => (vp_in p1 (z_ln M_3 a7) ∧ (Post (z_ai M_3 a7 ((p1 : Int32).toNatClampNeg)) M_3))) ∧ (p2 = nI 1 → z_nn (z_fr M_3 1608 a) fun a10 => (vp_in p1 (z_ln M_3 a10) ∧ (Post (z_ai M_3 a10 ((p1 : Int32).toNatClampNeg)) M_3))) ∧ (p2 = nI 2 → P_X12_inFlight a p1 M_3 fun x_12 M_12 => (Post x_12 M_12)) ∧ (p2 = nI 3 → z_nn (z_fr M_3 1610 a) fun a14 => (vp_in p1 (z_ln M_3 a14) ∧ (Post (z_ai M_3 a14 ((p1 : Int32).toNatClampNeg)) M_3))) ∧ (p2 = nI 4 → z_nn (z_fr M_3 1611 a) fun a17 => (vp_in p1 (z_ln M_3 a17) ∧ (Post (z_ai M_3 a17 ((p1 : Int32).toNatClampNeg)) M_3))) ∧ (p2 = nI 5 → z_nn (z_fr M_3 1612 a) fun a20 => (vp_in p1 (z_ln M_3 a20) ∧ (Post (z_ai M_3 a20 ((p1 : Int32).toNatClampNeg)) M_3))) ∧ (p2 = nI 6 → z_nn (z_fr M_3 1613 a) fun a23 => (vp_in p1 (z_ln M_3 a23) ∧ (Post (z_ai M_3 a23 ((p1 : Int32).toNatClampNeg)) M_3))) ∧ (p2 = nI 7 → z_nn (z_fr M_3 1615 a) fun a26 => (vp_in p1 (z_ln M_3 a26) ∧ ((((z_ai M_3 a26 ((p1 : Int32).toNatClampNeg)) = 0 → Post 0 M_3) ∧ (¬ (z_ai M_3 a26 ((p1 : Int32).toNatClampNeg)) = 0 → Post 1 M_3))))) ∧ (p2 < 0 ∨ nI 7 < p2 → z_nn (z_fr M_3 1547 a) fun a30 => (vp_in p1 (z_ln M_3 a30) ∧ (Post (z_ai M_3 a30 ((p1 : Int32).toNatClampNeg)) M_3)))))))))
set_option maxRecDepth 100000 in
set_option maxHeartbeats 4000000 in
theorem s_X12_path {G : z_G} {M : z_Mem} {a : Nat} {p1 : Int32} {p2 : Int32} {Post : Int32 → z_Mem → Prop} (ha : z_ki M a = 13) (hP : P_X12_path a p1 p2 M Post) : z_Mt G Y_X12_path M [z_O (some a), z_I p1, z_I p2] (z_PI Post) := by
  refine z_ofV (by decide) (Nat.le_of_ble_eq_true rfl) ?_
  unfold P_X12_path at hP
  refine z_sub (lv' := [(0, z_O (some a)), (1, z_I p1), (2, z_I p2)]) [0, 1, 2] rfl ?_
  refine z_aload_n dX12_path_0 rfl 0 rfl ?_
  refine z_iload_n dX12_path_1 rfl 1 rfl ?_
  refine z_wts (fun hT1 _ => ?_)
  refine z_cSb (n := 1) (Y1 := Y_X12_isPath) (st := [z_O _]) rfl (s_X12_isPath  hP) rfl ⟨z_dc_X12_isPath, ⟨(Nat.le_of_ble_eq_true rfl), (Nat.le_of_ble_eq_true rfl)⟩, (Nat.le_of_ble_eq_true rfl)⟩ rfl zw_1549 zw_1550 zw_12 zw_1551 dX12_path_2 (fun x_1 M_1 b1 hP _ x1 => ?_)
  have ha := x1.k (k := 12) hT1 ha
  refine z_iload_n dX12_path_5 rfl 2 rfl ?_
  refine z_iconst (v := 0) dX12_path_6 (by decide) ?_
  refine z_bipush (v := 8) dX12_path_7 (by decide) ?_
  refine z_pc (pc' := 9) rfl ?_
  refine z_wts (fun hT2 _ => ?_)
  refine z_cSb (n := 3) (Y1 := Y_X12_in) (st := [z_I _, z_O _]) rfl (s_X12_in  hP) rfl ⟨z_dc_X12_in, ⟨(Nat.le_of_ble_eq_true rfl), (Nat.le_of_ble_eq_true rfl)⟩, (Nat.le_of_ble_eq_true rfl)⟩ rfl zw_1552 zw_1553 zw_12 zw_1554 dX12_path_9 (fun x_2 M_2 b2 hP _ x2 => ?_)
  have ha := x2.k (k := 12) hT2 ha
  refine z_iconst (v := 1) dX12_path_12 (by decide) ?_
  refine z_wts (fun hT3 _ => ?_)
  refine z_cVb (c := 12) (n := 3) (Y1 := Y_X12_goes) (st := []) rfl ha z_cb12 (Nat.le_of_ble_eq_true rfl) rfl (s_X12_goes ha b1 b2 (Or.inr rfl) hP) rfl ⟨z_dc_X12_goes, ⟨(Nat.le_of_ble_eq_true rfl), (Nat.le_of_ble_eq_true rfl)⟩, (Nat.le_of_ble_eq_true rfl)⟩ rfl zw_1555 zw_1557 zp_31 zw_12 zw_1558 dX12_path_13 (fun x_3 M_3 b3 hP _ x3 => ?_)
  have ha := x3.k (k := 12) hT3 ha
  refine z_if_ne (tgt := 21) dX12_path_16 (by decide) (fun h4 => ?_) (fun h4 => ?_)
  · replace hP := hP.2 h4
    refine z_iload_n dX12_path_21 rfl 2 rfl ?_
    refine z_sw (tD := 131) 8 [68, 75, 82, 88, 95, 102, 109, 116] (by decide) (by decide) (by decide) dX12_path_22 (fun k hk tg htg h5 => ?_) (fun h5 => ?_)
    · rcases (show k = 0 ∨ k = 1 ∨ k = 2 ∨ k = 3 ∨ k = 4 ∨ k = 5 ∨ k = 6 ∨ k = 7 by omega) with rfl | rfl | rfl | rfl | rfl | rfl | rfl | rfl
      · cases htg
        replace hP := hP.1 h5
        refine z_aload_n dX12_path_68 rfl 0 rfl ?_
        refine z_getr (c := 12) (k := 71) (g := 1607) (t := 20) z_cb12 (Nat.le_of_ble_eq_true rfl) (Nat.le_of_ble_eq_true rfl) rfl rfl zw_1326 rfl ha dX12_path_69 (fun f6 => ?_)
        refine z_pc (pc' := 72) rfl ?_
        refine z_iload_n dX12_path_72 rfl 1 rfl ?_
        obtain ⟨a7, e7, hP⟩ := hP
        have k7 := f6 a7 e7
        obtain ⟨i8, hP⟩ := hP
        refine z_iald e7 k7 i8 dX12_path_73 ?_
        exact z_reti rfl dX12_path_74 hP
      · cases htg
        replace hP := hP.2.1 h5
        refine z_aload_n dX12_path_75 rfl 0 rfl ?_
        refine z_getr (c := 12) (k := 72) (g := 1608) (t := 20) z_cb12 (Nat.le_of_ble_eq_true rfl) (Nat.le_of_ble_eq_true rfl) rfl rfl zw_1327 rfl ha dX12_path_76 (fun f9 => ?_)
        refine z_pc (pc' := 79) rfl ?_
        refine z_iload_n dX12_path_79 rfl 1 rfl ?_
        obtain ⟨a10, e10, hP⟩ := hP
        have k10 := f9 a10 e10
        obtain ⟨i11, hP⟩ := hP
        refine z_iald e10 k10 i11 dX12_path_80 ?_
        exact z_reti rfl dX12_path_81 hP
      · cases htg
        replace hP := hP.2.2.1 h5
        refine z_aload_n dX12_path_82 rfl 0 rfl ?_
        refine z_iload_n dX12_path_83 rfl 1 rfl ?_
        refine z_pc (pc' := 84) rfl ?_
        refine z_wts (fun hT12 _ => ?_)
        refine z_cVi (c := 12) (n := 1) (Y1 := Y_X12_inFlight) (st := []) rfl ha z_cb12 (Nat.le_of_ble_eq_true rfl) rfl (s_X12_inFlight ha hP) rfl ⟨z_dc_X12_inFlight, ⟨(Nat.le_of_ble_eq_true rfl), (Nat.le_of_ble_eq_true rfl)⟩, (Nat.le_of_ble_eq_true rfl)⟩ rfl zw_1738 zw_1740 zp_59 zw_12 zw_1741 dX12_path_84 (fun x_12 M_12 hP _ x12 => ?_)
        have ha := x12.k (k := 12) hT12 ha
        exact z_reti rfl dX12_path_87 hP
      · cases htg
        replace hP := hP.2.2.2.1 h5
        refine z_aload_n dX12_path_88 rfl 0 rfl ?_
        refine z_getr (c := 12) (k := 74) (g := 1610) (t := 20) z_cb12 (Nat.le_of_ble_eq_true rfl) (Nat.le_of_ble_eq_true rfl) rfl rfl zw_1329 rfl ha dX12_path_89 (fun f13 => ?_)
        refine z_pc (pc' := 92) rfl ?_
        refine z_iload_n dX12_path_92 rfl 1 rfl ?_
        obtain ⟨a14, e14, hP⟩ := hP
        have k14 := f13 a14 e14
        obtain ⟨i15, hP⟩ := hP
        refine z_iald e14 k14 i15 dX12_path_93 ?_
        exact z_reti rfl dX12_path_94 hP
      · cases htg
        replace hP := hP.2.2.2.2.1 h5
        refine z_aload_n dX12_path_95 rfl 0 rfl ?_
        refine z_getr (c := 12) (k := 75) (g := 1611) (t := 20) z_cb12 (Nat.le_of_ble_eq_true rfl) (Nat.le_of_ble_eq_true rfl) rfl rfl zw_1330 rfl ha dX12_path_96 (fun f16 => ?_)
        refine z_pc (pc' := 99) rfl ?_
        refine z_iload_n dX12_path_99 rfl 1 rfl ?_
        obtain ⟨a17, e17, hP⟩ := hP
        have k17 := f16 a17 e17
        obtain ⟨i18, hP⟩ := hP
        refine z_iald e17 k17 i18 dX12_path_100 ?_
        exact z_reti rfl dX12_path_101 hP
      · cases htg
        replace hP := hP.2.2.2.2.2.1 h5
        refine z_aload_n dX12_path_102 rfl 0 rfl ?_
        refine z_getr (c := 12) (k := 76) (g := 1612) (t := 20) z_cb12 (Nat.le_of_ble_eq_true rfl) (Nat.le_of_ble_eq_true rfl) rfl rfl zw_1331 rfl ha dX12_path_103 (fun f19 => ?_)
        refine z_pc (pc' := 106) rfl ?_
        refine z_iload_n dX12_path_106 rfl 1 rfl ?_
        obtain ⟨a20, e20, hP⟩ := hP
        have k20 := f19 a20 e20
        obtain ⟨i21, hP⟩ := hP
        refine z_iald e20 k20 i21 dX12_path_107 ?_
        exact z_reti rfl dX12_path_108 hP
      · cases htg
        replace hP := hP.2.2.2.2.2.2.1 h5
        refine z_aload_n dX12_path_109 rfl 0 rfl ?_
        refine z_getr (c := 12) (k := 77) (g := 1613) (t := 20) z_cb12 (Nat.le_of_ble_eq_true rfl) (Nat.le_of_ble_eq_true rfl) rfl rfl zw_1332 rfl ha dX12_path_110 (fun f22 => ?_)
        refine z_pc (pc' := 113) rfl ?_
        refine z_iload_n dX12_path_113 rfl 1 rfl ?_
        obtain ⟨a23, e23, hP⟩ := hP
        have k23 := f22 a23 e23
        obtain ⟨i24, hP⟩ := hP
        refine z_iald e23 k23 i24 dX12_path_114 ?_
        exact z_reti rfl dX12_path_115 hP
      · cases htg
        replace hP := hP.2.2.2.2.2.2.2.1 h5
        refine z_aload_n dX12_path_116 rfl 0 rfl ?_
        refine z_getr (c := 12) (k := 79) (g := 1615) (t := 21) z_cb12 (Nat.le_of_ble_eq_true rfl) (Nat.le_of_ble_eq_true rfl) rfl rfl zw_1334 rfl ha dX12_path_117 (fun f25 => ?_)
        refine z_pc (pc' := 120) rfl ?_
        refine z_iload_n dX12_path_120 rfl 1 rfl ?_
        obtain ⟨a26, e26, hP⟩ := hP
        have k26 := f25 a26 e26
        obtain ⟨i27, hP⟩ := hP
        refine z_zald e26 k26 i27 dX12_path_121 (fun b27 => ?_)
        refine z_if_eq (tgt := 129) dX12_path_122 (by decide) (fun h28 => ?_) (fun h28 => ?_)
        · replace hP := hP.1 h28
          refine z_iconst (v := 0) dX12_path_129 (by decide) ?_
          exact z_reti rfl dX12_path_130 hP
        · replace hP := hP.2 h28
          refine z_iconst (v := 1) dX12_path_125 (by decide) ?_
          refine z_goto (tgt := 130) dX12_path_126 (by decide) ?_
          exact z_reti rfl dX12_path_130 hP
    · replace hP := hP.2.2.2.2.2.2.2.2 h5
      refine z_aload_n dX12_path_131 rfl 0 rfl ?_
      refine z_getr (c := 12) (k := 11) (g := 1547) (t := 20) z_cb12 (Nat.le_of_ble_eq_true rfl) (Nat.le_of_ble_eq_true rfl) rfl rfl zw_1266 rfl ha dX12_path_132 (fun f29 => ?_)
      refine z_pc (pc' := 135) rfl ?_
      refine z_iload_n dX12_path_135 rfl 1 rfl ?_
      obtain ⟨a30, e30, hP⟩ := hP
      have k30 := f29 a30 e30
      obtain ⟨i31, hP⟩ := hP
      refine z_iald e30 k30 i31 dX12_path_136 ?_
      exact z_reti rfl dX12_path_137 hP
  · replace hP := hP.1 h4
    refine z_iconst (v := 0) dX12_path_19 (by decide) ?_
    exact z_reti rfl dX12_path_20 hP
def P_X12_stream_79 (a : Nat) (Post : Int32 → z_Mem → Prop) (J26 : Int32 → Int32 → Int32 → Int32 → z_Mem → Prop) (x1 : Int32) (x2 : Int32) (x4 : Int32) (t0 : Int32) (t1 : Int32) (M : z_Mem) : Prop := ∀ x_1 : Int32, x_1 = (t0 + t1) → (∀ x_2 : Int32, x_2 = x4 + 1 → (J26 x1 x2 x_1 x_2 M))
def P_X12_stream_74 (a : Nat) (Post : Int32 → z_Mem → Prop) (J26 : Int32 → Int32 → Int32 → Int32 → z_Mem → Prop) (x1 : Int32) (x2 : Int32) (x4 : Int32) (t0 : Int32) (M : z_Mem) : Prop := P_X12_stream_79 a Post J26 x1 x2 x4 t0 1 M
def P_X12_stream_78 (a : Nat) (Post : Int32 → z_Mem → Prop) (J26 : Int32 → Int32 → Int32 → Int32 → z_Mem → Prop) (x1 : Int32) (x2 : Int32) (x4 : Int32) (t0 : Int32) (M : z_Mem) : Prop := P_X12_stream_79 a Post J26 x1 x2 x4 t0 0 M
def P_X12_stream_59 (a : Nat) (Post : Int32 → z_Mem → Prop) (J26 : Int32 → Int32 → Int32 → Int32 → z_Mem → Prop) (x1 : Int32) (x2 : Int32) (x4 : Int32) (t0 : Int32) (M : z_Mem) : Prop := ((x2 = 3 → P_X12_isLost a x1 x4 M fun x_4 M_4 => (((x_4 = 0 → P_X12_stream_78 a Post J26 x1 x2 x4 t0 M_4) ∧ (¬ x_4 = 0 → P_X12_stream_74 a Post J26 x1 x2 x4 t0 M_4)))) ∧ (¬ x2 = 3 → P_X12_stream_78 a Post J26 x1 x2 x4 t0 M))
set_option maxRecDepth 100000 in
def P_X12_stream_26 (a : Nat) (Post : Int32 → z_Mem → Prop)  : Nat → Int32 → Int32 → Int32 → Int32 → z_Mem → Prop
  | 0, _, _, _, _, _ => False
  | n + 1, x1, x2, x3, x4, M => z_nn (z_fr M 1587 a) fun a7 => (vp_in x1 (z_ln M a7) ∧ ((((z_ai M a7 ((x1 : Int32).toNatClampNeg)) ≤ x4 → ((x2 = 0 → z_nn (z_fr M 1586 a) fun a26 => (vp_in x1 (z_ln M a26) ∧ (Post (z_ai M a26 ((x1 : Int32).toNatClampNeg)) M))) ∧ (¬ x2 = 0 → ((x2 = 1 → z_nn (z_fr M 1587 a) fun a23 => (vp_in x1 (z_ln M a23) ∧ (Post (z_ai M a23 ((x1 : Int32).toNatClampNeg)) M))) ∧ (¬ x2 = 1 → ((4 ≤ x2 → ((x2 = 4 → z_nn (z_fr M 1588 a) fun a20 => (vp_in x1 (z_ln M a20) ∧ (Post (z_ai M a20 ((x1 : Int32).toNatClampNeg)) M))) ∧ (¬ x2 = 4 → ((x2 = 5 → P_X12_gotOf a x1 M fun x_18 M_18 => (Post x_18 M_18)) ∧ (¬ x2 = 5 → z_nn (z_fr M 1571 a) fun a16 => (vp_in x1 (z_ln M a16) ∧ (Post (z_ai M a16 ((x1 : Int32).toNatClampNeg)) M))))))) ∧ (¬ 4 ≤ x2 → Post x3 M))))))) ∧ (¬ (z_ai M a7 ((x1 : Int32).toNatClampNeg)) ≤ x4 → ((x2 = 2 → z_nn (z_fr M 1591 a) fun a30 => (vp_in ((200 * x1) + x4) (z_ln M a30) ∧ ((((z_ai M a30 ((((200 * x1) + x4) : Int32).toNatClampNeg)) = 0 → P_X12_stream_59 a Post (fun q0 q1 q2 q3 qM => P_X12_stream_26 a Post n q0 q1 q2 q3 qM) x1 x2 x4 x3 M) ∧ (¬ (z_ai M a30 ((((200 * x1) + x4) : Int32).toNatClampNeg)) = 0 → P_X12_stream_74 a Post (fun q0 q1 q2 q3 qM => P_X12_stream_26 a Post n q0 q1 q2 q3 qM) x1 x2 x4 x3 M))))) ∧ (¬ x2 = 2 → P_X12_stream_59 a Post (fun q0 q1 q2 q3 qM => P_X12_stream_26 a Post n q0 q1 q2 q3 qM) x1 x2 x4 x3 M))))))
set_option maxRecDepth 100000 in
def P_X12_stream (a : Nat) (p1 : Int32) (p2 : Int32) (M : z_Mem) (Post : Int32 → z_Mem → Prop) : Prop := P_X12_isStream p1 M fun x_33 M_33 => (P_X12_in p2 0 6 M_33 fun x_34 M_34 => (P_X12_goes a x_33 x_34 1 M_34 fun x_35 M_35 => (((x_35 = 0 → Post 0 M_35) ∧ (¬ x_35 = 0 → (∃ n37 : Nat, P_X12_stream_26 a Post n37 p1 p2 0 0 M_35))))))
set_option maxRecDepth 100000 in
set_option maxHeartbeats 4000000 in
theorem v_X12_stream_79 {G : z_G} {M0 : z_Mem} {a : Nat} {Post : Int32 → z_Mem → Prop} {J26 : Int32 → Int32 → Int32 → Int32 → z_Mem → Prop} (hJ26 : ∀ (x1 : Int32) (x2 : Int32) (x3 : Int32) (x4 : Int32) (M : z_Mem), (z_ki M a = 13) → J26 x1 x2 x3 x4 M → z_V G Y_X12_stream z_X0 M0 (z_QM G M0 (z_PI Post)) M 26 [(0, z_O (some a)), (1, z_I x1), (2, z_I x2), (3, z_I x3), (4, z_I x4)] []) {x1 : Int32} {x2 : Int32} {x4 : Int32} {t0 : Int32} {t1 : Int32} {M : z_Mem} (ha : z_ki M a = 13) (f_t1 : t1 = 0 ∨ t1 = 1) (hP : P_X12_stream_79 a Post J26 x1 x2 x4 t0 t1 M) : z_V G Y_X12_stream z_X0 M0 (z_QM G M0 (z_PI Post)) M 79 [(0, z_O (some a)), (1, z_I x1), (2, z_I x2), (4, z_I x4)] [z_I t1, z_I t0] := by
  unfold P_X12_stream_79 at hP
  refine z_iadd dX12_stream_79 ?_
  refine z_topi (fun x_1 y_1 => ?_)
  replace hP := hP x_1 y_1
  refine z_istore_n (lv' := [(3, z_I _), (0, z_O _), (1, z_I _), (2, z_I _), (4, z_I _)]) dX12_stream_80 rfl (Nat.le_of_ble_eq_true rfl) rfl ?_
  refine z_iincN (j := 4) (m := 1) (lv' := fun v => [(4, z_I v), (3, z_I _), (0, z_O _), (1, z_I _), (2, z_I _)]) dX12_stream_81 rfl (by decide) (Nat.le_of_ble_eq_true rfl) (fun _ => rfl) (fun x_2 y_2 => ?_)
  replace hP := hP x_2 y_2
  refine z_goto (tgt := 26) dX12_stream_84 (by decide) ?_
  refine z_sub (lv' := [(0, z_O _), (1, z_I _), (2, z_I _), (3, z_I _), (4, z_I _)]) [2, 3, 4, 1, 0] rfl ?_
  exact hJ26 _ _ _ _ _ ha hP
set_option maxRecDepth 100000 in
set_option maxHeartbeats 4000000 in
theorem v_X12_stream_74 {G : z_G} {M0 : z_Mem} {a : Nat} {Post : Int32 → z_Mem → Prop} {J26 : Int32 → Int32 → Int32 → Int32 → z_Mem → Prop} (hJ26 : ∀ (x1 : Int32) (x2 : Int32) (x3 : Int32) (x4 : Int32) (M : z_Mem), (z_ki M a = 13) → J26 x1 x2 x3 x4 M → z_V G Y_X12_stream z_X0 M0 (z_QM G M0 (z_PI Post)) M 26 [(0, z_O (some a)), (1, z_I x1), (2, z_I x2), (3, z_I x3), (4, z_I x4)] []) {x1 : Int32} {x2 : Int32} {x4 : Int32} {t0 : Int32} {M : z_Mem} (ha : z_ki M a = 13) (hP : P_X12_stream_74 a Post J26 x1 x2 x4 t0 M) : z_V G Y_X12_stream z_X0 M0 (z_QM G M0 (z_PI Post)) M 74 [(0, z_O (some a)), (1, z_I x1), (2, z_I x2), (4, z_I x4)] [z_I t0] := by
  unfold P_X12_stream_74 at hP
  refine z_iconst (v := 1) dX12_stream_74 (by decide) ?_
  refine z_goto (tgt := 79) dX12_stream_75 (by decide) ?_
  refine z_sub (lv' := [(0, z_O _), (1, z_I _), (2, z_I _), (4, z_I _)]) [0, 1, 2, 3] rfl ?_
  exact v_X12_stream_79 hJ26 ha (Or.inr rfl) hP
set_option maxRecDepth 100000 in
set_option maxHeartbeats 4000000 in
theorem v_X12_stream_78 {G : z_G} {M0 : z_Mem} {a : Nat} {Post : Int32 → z_Mem → Prop} {J26 : Int32 → Int32 → Int32 → Int32 → z_Mem → Prop} (hJ26 : ∀ (x1 : Int32) (x2 : Int32) (x3 : Int32) (x4 : Int32) (M : z_Mem), (z_ki M a = 13) → J26 x1 x2 x3 x4 M → z_V G Y_X12_stream z_X0 M0 (z_QM G M0 (z_PI Post)) M 26 [(0, z_O (some a)), (1, z_I x1), (2, z_I x2), (3, z_I x3), (4, z_I x4)] []) {x1 : Int32} {x2 : Int32} {x4 : Int32} {t0 : Int32} {M : z_Mem} (ha : z_ki M a = 13) (hP : P_X12_stream_78 a Post J26 x1 x2 x4 t0 M) : z_V G Y_X12_stream z_X0 M0 (z_QM G M0 (z_PI Post)) M 78 [(0, z_O (some a)), (1, z_I x1), (2, z_I x2), (4, z_I x4)] [z_I t0] := by
  unfold P_X12_stream_78 at hP
  refine z_iconst (v := 0) dX12_stream_78 (by decide) ?_
  refine z_sub (lv' := [(0, z_O _), (1, z_I _), (2, z_I _), (4, z_I _)]) [0, 1, 2, 3] rfl ?_
  exact v_X12_stream_79 hJ26 ha (Or.inl rfl) hP
set_option maxRecDepth 100000 in
set_option maxHeartbeats 4000000 in
theorem v_X12_stream_59 {G : z_G} {M0 : z_Mem} {a : Nat} {Post : Int32 → z_Mem → Prop} {J26 : Int32 → Int32 → Int32 → Int32 → z_Mem → Prop} (hJ26 : ∀ (x1 : Int32) (x2 : Int32) (x3 : Int32) (x4 : Int32) (M : z_Mem), (z_ki M a = 13) → J26 x1 x2 x3 x4 M → z_V G Y_X12_stream z_X0 M0 (z_QM G M0 (z_PI Post)) M 26 [(0, z_O (some a)), (1, z_I x1), (2, z_I x2), (3, z_I x3), (4, z_I x4)] []) {x1 : Int32} {x2 : Int32} {x4 : Int32} {t0 : Int32} {M : z_Mem} (ha : z_ki M a = 13) (hP : P_X12_stream_59 a Post J26 x1 x2 x4 t0 M) : z_V G Y_X12_stream z_X0 M0 (z_QM G M0 (z_PI Post)) M 59 [(0, z_O (some a)), (1, z_I x1), (2, z_I x2), (4, z_I x4)] [z_I t0] := by
  unfold P_X12_stream_59 at hP
  refine z_iload_n dX12_stream_59 rfl 2 rfl ?_
  refine z_iconst (v := 3) dX12_stream_60 (by decide) ?_
  refine z_icmp_ne (tgt := 78) dX12_stream_61 (by decide) (fun h3 => ?_) (fun h3 => ?_)
  · replace hP := hP.2 h3
    refine z_sub (lv' := [(0, z_O _), (1, z_I _), (2, z_I _), (4, z_I _)]) [0, 1, 2, 3] rfl ?_
    exact v_X12_stream_78 hJ26 ha hP
  · replace hP := hP.1 h3
    refine z_aload_n dX12_stream_64 rfl 0 rfl ?_
    refine z_iload_n dX12_stream_65 rfl 1 rfl ?_
    refine z_iload dX12_stream_66 3 rfl ?_
    refine z_wts (fun hT4 _ => ?_)
    refine z_cVb (c := 12) (n := 2) (Y1 := Y_X12_isLost) (st := [z_I _]) rfl ha z_cb12 (Nat.le_of_ble_eq_true rfl) rfl (s_X12_isLost ha hP) rfl ⟨z_dc_X12_isLost, ⟨(Nat.le_of_ble_eq_true rfl), (Nat.le_of_ble_eq_true rfl)⟩, (Nat.le_of_ble_eq_true rfl)⟩ rfl zw_1750 zw_1752 zp_62 zw_12 zw_1753 dX12_stream_68 (fun x_4 M_4 b4 hP _ x4 => ?_)
    have ha := x4.k (k := 12) hT4 ha
    refine z_pc (pc' := 71) rfl ?_
    refine z_if_eq (tgt := 78) dX12_stream_71 (by decide) (fun h5 => ?_) (fun h5 => ?_)
    · replace hP := hP.1 h5
      refine z_sub (lv' := [(0, z_O _), (1, z_I _), (2, z_I _), (4, z_I _)]) [0, 1, 2, 3] rfl ?_
      exact v_X12_stream_78 hJ26 ha hP
    · replace hP := hP.2 h5
      refine z_sub (lv' := [(0, z_O _), (1, z_I _), (2, z_I _), (4, z_I _)]) [0, 1, 2, 3] rfl ?_
      exact v_X12_stream_74 hJ26 ha hP
set_option maxRecDepth 100000 in
set_option maxHeartbeats 4000000 in
theorem v_X12_stream_26 {G : z_G} {M0 : z_Mem} {a : Nat} {Post : Int32 → z_Mem → Prop}   : ∀ (n : Nat) {x1 : Int32} {x2 : Int32} {x3 : Int32} {x4 : Int32} {M : z_Mem}, (z_ki M a = 13) → P_X12_stream_26 a Post n x1 x2 x3 x4 M → z_V G Y_X12_stream z_X0 M0 (z_QM G M0 (z_PI Post)) M 26 [(0, z_O (some a)), (1, z_I x1), (2, z_I x2), (3, z_I x3), (4, z_I x4)] [] := by
  intro n
  induction n with
  | zero => intro x1 x2 x3 x4 M ha hP; exact False.elim hP
  | succ n ih =>
    intro x1 x2 x3 x4 M ha hP
    unfold P_X12_stream_26 at hP
    refine z_iload dX12_stream_26 4 rfl ?_
    refine z_aload_n dX12_stream_28 rfl 0 rfl ?_
    refine z_getr (c := 12) (k := 51) (g := 1587) (t := 20) z_cb12 (Nat.le_of_ble_eq_true rfl) (Nat.le_of_ble_eq_true rfl) rfl rfl zw_1306 rfl ha dX12_stream_29 (fun f6 => ?_)
    refine z_iload_n dX12_stream_32 rfl 1 rfl ?_
    obtain ⟨a7, e7, hP⟩ := hP
    have k7 := f6 a7 e7
    obtain ⟨i8, hP⟩ := hP
    refine z_iald e7 k7 i8 dX12_stream_33 ?_
    refine z_icmp_ge (tgt := 87) dX12_stream_34 (by decide) (fun h9 => ?_) (fun h9 => ?_)
    · replace hP := hP.1 h9
      refine z_iload_n dX12_stream_87 rfl 2 rfl ?_
      refine z_pc (pc' := 88) rfl ?_
      refine z_if_ne (tgt := 100) dX12_stream_88 (by decide) (fun h10 => ?_) (fun h10 => ?_)
      · replace hP := hP.2 h10
        refine z_iload_n dX12_stream_100 rfl 2 rfl ?_
        refine z_iconst (v := 1) dX12_stream_101 (by decide) ?_
        refine z_icmp_ne (tgt := 114) dX12_stream_102 (by decide) (fun h11 => ?_) (fun h11 => ?_)
        · replace hP := hP.2 h11
          refine z_iload_n dX12_stream_114 rfl 2 rfl ?_
          refine z_iconst (v := 4) dX12_stream_115 (by decide) ?_
          refine z_icmp_ge (tgt := 123) dX12_stream_116 (by decide) (fun h12 => ?_) (fun h12 => ?_)
          · replace hP := hP.1 h12
            refine z_iload_n dX12_stream_123 rfl 2 rfl ?_
            refine z_iconst (v := 4) dX12_stream_124 (by decide) ?_
            refine z_pc (pc' := 125) rfl ?_
            refine z_icmp_ne (tgt := 137) dX12_stream_125 (by decide) (fun h13 => ?_) (fun h13 => ?_)
            · replace hP := hP.2 h13
              refine z_iload_n dX12_stream_137 rfl 2 rfl ?_
              refine z_iconst (v := 5) dX12_stream_138 (by decide) ?_
              refine z_icmp_ne (tgt := 150) dX12_stream_139 (by decide) (fun h14 => ?_) (fun h14 => ?_)
              · replace hP := hP.2 h14
                refine z_aload_n dX12_stream_150 rfl 0 rfl ?_
                refine z_getr (c := 12) (k := 35) (g := 1571) (t := 20) z_cb12 (Nat.le_of_ble_eq_true rfl) (Nat.le_of_ble_eq_true rfl) rfl rfl zw_1290 rfl ha dX12_stream_151 (fun f15 => ?_)
                refine z_iload_n dX12_stream_154 rfl 1 rfl ?_
                obtain ⟨a16, e16, hP⟩ := hP
                have k16 := f15 a16 e16
                obtain ⟨i17, hP⟩ := hP
                refine z_iald e16 k16 i17 dX12_stream_155 ?_
                refine z_pc (pc' := 156) rfl ?_
                exact z_reti rfl dX12_stream_156 hP
              · replace hP := hP.1 h14
                refine z_aload_n dX12_stream_142 rfl 0 rfl ?_
                refine z_iload_n dX12_stream_143 rfl 1 rfl ?_
                refine z_wts (fun hT18 _ => ?_)
                refine z_cVi (c := 12) (n := 1) (Y1 := Y_X12_gotOf) (st := []) rfl ha z_cb12 (Nat.le_of_ble_eq_true rfl) rfl (s_X12_gotOf ha hP) rfl ⟨z_dc_X12_gotOf, ⟨(Nat.le_of_ble_eq_true rfl), (Nat.le_of_ble_eq_true rfl)⟩, (Nat.le_of_ble_eq_true rfl)⟩ rfl zw_1586 zw_1588 zp_32 zw_12 zw_1589 dX12_stream_144 (fun x_18 M_18 hP _ x18 => ?_)
                have ha := x18.k (k := 12) hT18 ha
                refine z_goto (tgt := 156) dX12_stream_147 (by decide) ?_
                exact z_reti rfl dX12_stream_156 hP
            · replace hP := hP.1 h13
              refine z_aload_n dX12_stream_128 rfl 0 rfl ?_
              refine z_getr (c := 12) (k := 52) (g := 1588) (t := 20) z_cb12 (Nat.le_of_ble_eq_true rfl) (Nat.le_of_ble_eq_true rfl) rfl rfl zw_1307 rfl ha dX12_stream_129 (fun f19 => ?_)
              refine z_iload_n dX12_stream_132 rfl 1 rfl ?_
              obtain ⟨a20, e20, hP⟩ := hP
              have k20 := f19 a20 e20
              obtain ⟨i21, hP⟩ := hP
              refine z_iald e20 k20 i21 dX12_stream_133 ?_
              refine z_goto (tgt := 156) dX12_stream_134 (by decide) ?_
              exact z_reti rfl dX12_stream_156 hP
          · replace hP := hP.2 h12
            refine z_iload_n dX12_stream_119 rfl 3 rfl ?_
            refine z_goto (tgt := 156) dX12_stream_120 (by decide) ?_
            exact z_reti rfl dX12_stream_156 hP
        · replace hP := hP.1 h11
          refine z_aload_n dX12_stream_105 rfl 0 rfl ?_
          refine z_getr (c := 12) (k := 51) (g := 1587) (t := 20) z_cb12 (Nat.le_of_ble_eq_true rfl) (Nat.le_of_ble_eq_true rfl) rfl rfl zw_1306 rfl ha dX12_stream_106 (fun f22 => ?_)
          refine z_iload_n dX12_stream_109 rfl 1 rfl ?_
          obtain ⟨a23, e23, hP⟩ := hP
          have k23 := f22 a23 e23
          obtain ⟨i24, hP⟩ := hP
          refine z_iald e23 k23 i24 dX12_stream_110 ?_
          refine z_pc (pc' := 111) rfl ?_
          refine z_goto (tgt := 156) dX12_stream_111 (by decide) ?_
          exact z_reti rfl dX12_stream_156 hP
      · replace hP := hP.1 h10
        refine z_aload_n dX12_stream_91 rfl 0 rfl ?_
        refine z_getr (c := 12) (k := 50) (g := 1586) (t := 20) z_cb12 (Nat.le_of_ble_eq_true rfl) (Nat.le_of_ble_eq_true rfl) rfl rfl zw_1305 rfl ha dX12_stream_92 (fun f25 => ?_)
        refine z_iload_n dX12_stream_95 rfl 1 rfl ?_
        obtain ⟨a26, e26, hP⟩ := hP
        have k26 := f25 a26 e26
        obtain ⟨i27, hP⟩ := hP
        refine z_iald e26 k26 i27 dX12_stream_96 ?_
        refine z_goto (tgt := 156) dX12_stream_97 (by decide) ?_
        exact z_reti rfl dX12_stream_156 hP
    · replace hP := hP.2 h9
      refine z_iload_n dX12_stream_37 rfl 3 rfl ?_
      refine z_pc (pc' := 38) rfl ?_
      refine z_iload_n dX12_stream_38 rfl 2 rfl ?_
      refine z_iconst (v := 2) dX12_stream_39 (by decide) ?_
      refine z_icmp_ne (tgt := 59) dX12_stream_40 (by decide) (fun h28 => ?_) (fun h28 => ?_)
      · replace hP := hP.2 h28
        refine z_sub (lv' := [(0, z_O _), (1, z_I _), (2, z_I _), (4, z_I _)]) [0, 1, 2, 4] rfl ?_
        exact v_X12_stream_59 (fun _ _ _ _ _ w0 hP => ih w0 hP) ha hP
      · replace hP := hP.1 h28
        refine z_aload_n dX12_stream_43 rfl 0 rfl ?_
        refine z_getr (c := 12) (k := 55) (g := 1591) (t := 21) z_cb12 (Nat.le_of_ble_eq_true rfl) (Nat.le_of_ble_eq_true rfl) rfl rfl zw_1310 rfl ha dX12_stream_44 (fun f29 => ?_)
        refine z_sipush (v := 200) dX12_stream_47 (by decide) ?_
        refine z_iload_n dX12_stream_50 rfl 1 rfl ?_
        refine z_pc (pc' := 51) rfl ?_
        refine z_imul dX12_stream_51 ?_
        refine z_iload dX12_stream_52 4 rfl ?_
        refine z_iadd dX12_stream_54 ?_
        obtain ⟨a30, e30, hP⟩ := hP
        have k30 := f29 a30 e30
        obtain ⟨i31, hP⟩ := hP
        refine z_zald e30 k30 i31 dX12_stream_55 (fun b31 => ?_)
        refine z_if_ne (tgt := 74) dX12_stream_56 (by decide) (fun h32 => ?_) (fun h32 => ?_)
        · replace hP := hP.2 h32
          refine z_sub (lv' := [(0, z_O _), (1, z_I _), (2, z_I _), (4, z_I _)]) [0, 1, 2, 4] rfl ?_
          exact v_X12_stream_74 (fun _ _ _ _ _ w0 hP => ih w0 hP) ha hP
        · replace hP := hP.1 h32
          refine z_sub (lv' := [(0, z_O _), (1, z_I _), (2, z_I _), (4, z_I _)]) [0, 1, 2, 4] rfl ?_
          exact v_X12_stream_59 (fun _ _ _ _ _ w0 hP => ih w0 hP) ha hP
set_option maxRecDepth 100000 in
set_option maxHeartbeats 4000000 in
theorem s_X12_stream {G : z_G} {M : z_Mem} {a : Nat} {p1 : Int32} {p2 : Int32} {Post : Int32 → z_Mem → Prop} (ha : z_ki M a = 13) (hP : P_X12_stream a p1 p2 M Post) : z_Mt G Y_X12_stream M [z_O (some a), z_I p1, z_I p2] (z_PI Post) := by
  refine z_ofV (by decide) (Nat.le_of_ble_eq_true rfl) ?_
  unfold P_X12_stream at hP
  refine z_sub (lv' := [(0, z_O (some a)), (1, z_I p1), (2, z_I p2)]) [0, 1, 2] rfl ?_
  refine z_aload_n dX12_stream_0 rfl 0 rfl ?_
  refine z_iload_n dX12_stream_1 rfl 1 rfl ?_
  refine z_wts (fun hT33 _ => ?_)
  refine z_cSb (n := 1) (Y1 := Y_X12_isStream) (st := [z_O _]) rfl (s_X12_isStream  hP) rfl ⟨z_dc_X12_isStream, ⟨(Nat.le_of_ble_eq_true rfl), (Nat.le_of_ble_eq_true rfl)⟩, (Nat.le_of_ble_eq_true rfl)⟩ rfl zw_1583 zw_1584 zw_12 zw_1585 dX12_stream_2 (fun x_33 M_33 b33 hP _ x33 => ?_)
  have ha := x33.k (k := 12) hT33 ha
  refine z_iload_n dX12_stream_5 rfl 2 rfl ?_
  refine z_iconst (v := 0) dX12_stream_6 (by decide) ?_
  refine z_bipush (v := 6) dX12_stream_7 (by decide) ?_
  refine z_pc (pc' := 9) rfl ?_
  refine z_wts (fun hT34 _ => ?_)
  refine z_cSb (n := 3) (Y1 := Y_X12_in) (st := [z_I _, z_O _]) rfl (s_X12_in  hP) rfl ⟨z_dc_X12_in, ⟨(Nat.le_of_ble_eq_true rfl), (Nat.le_of_ble_eq_true rfl)⟩, (Nat.le_of_ble_eq_true rfl)⟩ rfl zw_1552 zw_1553 zw_12 zw_1554 dX12_stream_9 (fun x_34 M_34 b34 hP _ x34 => ?_)
  have ha := x34.k (k := 12) hT34 ha
  refine z_iconst (v := 1) dX12_stream_12 (by decide) ?_
  refine z_wts (fun hT35 _ => ?_)
  refine z_cVb (c := 12) (n := 3) (Y1 := Y_X12_goes) (st := []) rfl ha z_cb12 (Nat.le_of_ble_eq_true rfl) rfl (s_X12_goes ha b33 b34 (Or.inr rfl) hP) rfl ⟨z_dc_X12_goes, ⟨(Nat.le_of_ble_eq_true rfl), (Nat.le_of_ble_eq_true rfl)⟩, (Nat.le_of_ble_eq_true rfl)⟩ rfl zw_1555 zw_1557 zp_31 zw_12 zw_1558 dX12_stream_13 (fun x_35 M_35 b35 hP _ x35 => ?_)
  have ha := x35.k (k := 12) hT35 ha
  refine z_if_ne (tgt := 21) dX12_stream_16 (by decide) (fun h36 => ?_) (fun h36 => ?_)
  · replace hP := hP.2 h36
    refine z_iconst (v := 0) dX12_stream_21 (by decide) ?_
    refine z_istore_n (lv' := [(3, z_I _), (0, z_O _), (1, z_I _), (2, z_I _)]) dX12_stream_22 rfl (Nat.le_of_ble_eq_true rfl) rfl ?_
    refine z_iconst (v := 0) dX12_stream_23 (by decide) ?_
    refine z_pc (pc' := 24) rfl ?_
    refine z_istore (lv' := [(4, z_I _), (3, z_I _), (0, z_O _), (1, z_I _), (2, z_I _)]) dX12_stream_24 (Nat.le_of_ble_eq_true rfl) rfl ?_
    obtain ⟨n37, hP⟩ := hP
    refine z_sub (lv' := [(0, z_O _), (1, z_I _), (2, z_I _), (3, z_I _), (4, z_I _)]) [2, 3, 4, 1, 0] rfl ?_
    exact v_X12_stream_26  n37 ha hP
  · replace hP := hP.1 h36
    refine z_iconst (v := 0) dX12_stream_19 (by decide) ?_
    exact z_reti rfl dX12_stream_20 hP
set_option maxRecDepth 100000 in
def P_X12_credit (a : Nat) (M : z_Mem) (Post : Int32 → z_Mem → Prop) : Prop := ∀ M_1 : z_Mem, M_1 = z_sfi M 1630 a 0 → (Post (z_fi M_1 1589 a) M_1)
set_option maxRecDepth 100000 in
set_option maxHeartbeats 4000000 in
theorem s_X12_credit {G : z_G} {M : z_Mem} {a : Nat} {Post : Int32 → z_Mem → Prop} (ha : z_ki M a = 13) (hP : P_X12_credit a M Post) : z_Mt G Y_X12_credit M [z_O (some a)] (z_PI Post) := by
  refine z_ofV (by decide) (Nat.le_of_ble_eq_true rfl) ?_
  unfold P_X12_credit at hP
  refine z_sub (lv' := [(0, z_O (some a))]) [0] rfl ?_
  refine z_aload_n dX12_credit_0 rfl 0 rfl ?_
  refine z_iconst (v := 0) dX12_credit_1 (by decide) ?_
  refine z_puti (c := 12) (k := 94) (g := 1630) z_cb12 (Nat.le_of_ble_eq_true rfl) (Nat.le_of_ble_eq_true rfl) (Nat.le_of_ble_eq_true rfl) rfl rfl rfl zw_1349 rfl ha (Or.inl rfl) dX12_credit_2 ?_
  refine z_nm (fun M_1 g_1 => ?_)
  replace hP := hP M_1 g_1
  have q_1 := z_k1 g_1
  have ha := z_kk q_1 ha
  refine z_aload_n dX12_credit_5 rfl 0 rfl ?_
  refine z_geti (c := 12) (k := 53) (g := 1589) z_cb12 (Nat.le_of_ble_eq_true rfl) (Nat.le_of_ble_eq_true rfl) rfl (Nat.le_of_ble_eq_true rfl) zw_1308 rfl ha dX12_credit_6 ?_
  exact z_reti rfl dX12_credit_9 hP
set_option maxRecDepth 100000 in
def P_X12_packets (a : Nat) (M : z_Mem) (Post : Int32 → z_Mem → Prop) : Prop := ∀ M_1 : z_Mem, M_1 = z_sfi M 1630 a 0 → (Post (z_fi M_1 1606 a) M_1)
set_option maxRecDepth 100000 in
set_option maxHeartbeats 4000000 in
theorem s_X12_packets {G : z_G} {M : z_Mem} {a : Nat} {Post : Int32 → z_Mem → Prop} (ha : z_ki M a = 13) (hP : P_X12_packets a M Post) : z_Mt G Y_X12_packets M [z_O (some a)] (z_PI Post) := by
  refine z_ofV (by decide) (Nat.le_of_ble_eq_true rfl) ?_
  unfold P_X12_packets at hP
  refine z_sub (lv' := [(0, z_O (some a))]) [0] rfl ?_
  refine z_aload_n dX12_packets_0 rfl 0 rfl ?_
  refine z_iconst (v := 0) dX12_packets_1 (by decide) ?_
  refine z_puti (c := 12) (k := 94) (g := 1630) z_cb12 (Nat.le_of_ble_eq_true rfl) (Nat.le_of_ble_eq_true rfl) (Nat.le_of_ble_eq_true rfl) rfl rfl rfl zw_1349 rfl ha (Or.inl rfl) dX12_packets_2 ?_
  refine z_nm (fun M_1 g_1 => ?_)
  replace hP := hP M_1 g_1
  have q_1 := z_k1 g_1
  have ha := z_kk q_1 ha
  refine z_aload_n dX12_packets_5 rfl 0 rfl ?_
  refine z_geti (c := 12) (k := 70) (g := 1606) z_cb12 (Nat.le_of_ble_eq_true rfl) (Nat.le_of_ble_eq_true rfl) rfl (Nat.le_of_ble_eq_true rfl) zw_1325 rfl ha dX12_packets_6 ?_
  exact z_reti rfl dX12_packets_9 hP
set_option maxRecDepth 100000 in
def P_X12_packet (a : Nat) (p1 : Int32) (p2 : Int32) (M : z_Mem) (Post : Int32 → z_Mem → Prop) : Prop := P_X12_in p1 0 ((z_fi M 1606 a) - 1) M fun x_2 M_2 => (P_X12_in p2 0 10 M_2 fun x_3 M_3 => (P_X12_goes a x_2 x_3 1 M_3 fun x_4 M_4 => (((x_4 = 0 → Post 0 M_4) ∧ (¬ x_4 = 0 → ((p2 = nI 0 → z_nn (z_fr M_4 1593 a) fun a8 => (vp_in p1 (z_ln M_4 a8) ∧ (Post (z_ai M_4 a8 ((p1 : Int32).toNatClampNeg)) M_4))) ∧ (p2 = nI 1 → z_nn (z_fr M_4 1594 a) fun a11 => (vp_in p1 (z_ln M_4 a11) ∧ (Post (z_ai M_4 a11 ((p1 : Int32).toNatClampNeg)) M_4))) ∧ (p2 = nI 2 → z_nn (z_fr M_4 1595 a) fun a14 => (vp_in p1 (z_ln M_4 a14) ∧ (Post (z_ai M_4 a14 ((p1 : Int32).toNatClampNeg)) M_4))) ∧ (p2 = nI 3 → z_nn (z_fr M_4 1596 a) fun a17 => (vp_in p1 (z_ln M_4 a17) ∧ (Post (z_ai M_4 a17 ((p1 : Int32).toNatClampNeg)) M_4))) ∧ (p2 = nI 4 → z_nn (z_fr M_4 1597 a) fun a20 => (vp_in p1 (z_ln M_4 a20) ∧ (Post (z_ai M_4 a20 ((p1 : Int32).toNatClampNeg)) M_4))) ∧ (p2 = nI 5 → z_nn (z_fr M_4 1598 a) fun a23 => (vp_in p1 (z_ln M_4 a23) ∧ (Post (z_ai M_4 a23 ((p1 : Int32).toNatClampNeg)) M_4))) ∧ (p2 = nI 6 → z_nn (z_fr M_4 1599 a) fun a26 => (vp_in p1 (z_ln M_4 a26) ∧ (Post (z_ai M_4 a26 ((p1 : Int32).toNatClampNeg)) M_4))) ∧ (p2 = nI 7 → z_nn (z_fr M_4 1600 a) fun a29 => (vp_in p1 (z_ln M_4 a29) ∧ (Post (z_ai M_4 a29 ((p1 : Int32).toNatClampNeg)) M_4))) ∧ (p2 = nI 8 → z_nn (z_fr M_4 1601 a) fun a32 => (vp_in p1 (z_ln M_4 a32) ∧ ((((z_ai M_4 a32 ((p1 : Int32).toNatClampNeg)) = 0 → Post 0 M_4) ∧ (¬ (z_ai M_4 a32 ((p1 : Int32).toNatClampNeg)) = 0 → Post 1 M_4))))) ∧ (p2 = nI 9 → z_nn (z_fr M_4 1602 a) fun a36 => (vp_in p1 (z_ln M_4 a36) ∧ ((((z_ai M_4 a36 ((p1 : Int32).toNatClampNeg)) = 0 → Post 0 M_4) ∧ (¬ (z_ai M_4 a36 ((p1 : Int32).toNatClampNeg)) = 0 → Post 1 M_4))))) ∧ (p2 < 0 ∨ nI 9 < p2 → z_nn (z_fr M_4 1603 a) fun a40 => (vp_in p1 (z_ln M_4 a40) ∧ ((((z_ai M_4 a40 ((p1 : Int32).toNatClampNeg)) = 0 → Post 0 M_4) ∧ (¬ (z_ai M_4 a40 ((p1 : Int32).toNatClampNeg)) = 0 → Post 1 M_4)))))))))))
set_option maxRecDepth 100000 in
set_option maxHeartbeats 4000000 in
theorem s_X12_packet {G : z_G} {M : z_Mem} {a : Nat} {p1 : Int32} {p2 : Int32} {Post : Int32 → z_Mem → Prop} (ha : z_ki M a = 13) (hP : P_X12_packet a p1 p2 M Post) : z_Mt G Y_X12_packet M [z_O (some a), z_I p1, z_I p2] (z_PI Post) := by
  refine z_ofV (by decide) (Nat.le_of_ble_eq_true rfl) ?_
  unfold P_X12_packet at hP
  refine z_sub (lv' := [(0, z_O (some a)), (1, z_I p1), (2, z_I p2)]) [0, 1, 2] rfl ?_
  refine z_aload_n dX12_packet_0 rfl 0 rfl ?_
  refine z_iload_n dX12_packet_1 rfl 1 rfl ?_
  refine z_iconst (v := 0) dX12_packet_2 (by decide) ?_
  refine z_aload_n dX12_packet_3 rfl 0 rfl ?_
  refine z_geti (c := 12) (k := 70) (g := 1606) z_cb12 (Nat.le_of_ble_eq_true rfl) (Nat.le_of_ble_eq_true rfl) rfl (Nat.le_of_ble_eq_true rfl) zw_1325 rfl ha dX12_packet_4 ?_
  refine z_iconst (v := 1) dX12_packet_7 (by decide) ?_
  refine z_pc (pc' := 8) rfl ?_
  refine z_isub dX12_packet_8 ?_
  refine z_wts (fun hT2 _ => ?_)
  refine z_cSb (n := 3) (Y1 := Y_X12_in) (st := [z_O _]) rfl (s_X12_in  hP) rfl ⟨z_dc_X12_in, ⟨(Nat.le_of_ble_eq_true rfl), (Nat.le_of_ble_eq_true rfl)⟩, (Nat.le_of_ble_eq_true rfl)⟩ rfl zw_1552 zw_1553 zw_12 zw_1554 dX12_packet_9 (fun x_2 M_2 b2 hP _ x2 => ?_)
  have ha := x2.k (k := 12) hT2 ha
  refine z_iload_n dX12_packet_12 rfl 2 rfl ?_
  refine z_iconst (v := 0) dX12_packet_13 (by decide) ?_
  refine z_bipush (v := 10) dX12_packet_14 (by decide) ?_
  refine z_wts (fun hT3 _ => ?_)
  refine z_cSb (n := 3) (Y1 := Y_X12_in) (st := [z_I _, z_O _]) rfl (s_X12_in  hP) rfl ⟨z_dc_X12_in, ⟨(Nat.le_of_ble_eq_true rfl), (Nat.le_of_ble_eq_true rfl)⟩, (Nat.le_of_ble_eq_true rfl)⟩ rfl zw_1552 zw_1553 zw_12 zw_1554 dX12_packet_16 (fun x_3 M_3 b3 hP _ x3 => ?_)
  have ha := x3.k (k := 12) hT3 ha
  refine z_pc (pc' := 19) rfl ?_
  refine z_iconst (v := 1) dX12_packet_19 (by decide) ?_
  refine z_wts (fun hT4 _ => ?_)
  refine z_cVb (c := 12) (n := 3) (Y1 := Y_X12_goes) (st := []) rfl ha z_cb12 (Nat.le_of_ble_eq_true rfl) rfl (s_X12_goes ha b2 b3 (Or.inr rfl) hP) rfl ⟨z_dc_X12_goes, ⟨(Nat.le_of_ble_eq_true rfl), (Nat.le_of_ble_eq_true rfl)⟩, (Nat.le_of_ble_eq_true rfl)⟩ rfl zw_1555 zw_1557 zp_31 zw_12 zw_1558 dX12_packet_20 (fun x_4 M_4 b4 hP _ x4 => ?_)
  have ha := x4.k (k := 12) hT4 ha
  refine z_if_ne (tgt := 28) dX12_packet_23 (by decide) (fun h5 => ?_) (fun h5 => ?_)
  · replace hP := hP.2 h5
    refine z_iload_n dX12_packet_28 rfl 2 rfl ?_
    refine z_sw (tD := 170) 10 [84, 91, 98, 105, 112, 119, 126, 133, 140, 155] (by decide) (by decide) (by decide) dX12_packet_29 (fun k hk tg htg h6 => ?_) (fun h6 => ?_)
    · rcases (show k = 0 ∨ k = 1 ∨ k = 2 ∨ k = 3 ∨ k = 4 ∨ k = 5 ∨ k = 6 ∨ k = 7 ∨ k = 8 ∨ k = 9 by omega) with rfl | rfl | rfl | rfl | rfl | rfl | rfl | rfl | rfl | rfl
      · cases htg
        replace hP := hP.1 h6
        refine z_aload_n dX12_packet_84 rfl 0 rfl ?_
        refine z_getr (c := 12) (k := 57) (g := 1593) (t := 20) z_cb12 (Nat.le_of_ble_eq_true rfl) (Nat.le_of_ble_eq_true rfl) rfl rfl zw_1312 rfl ha dX12_packet_85 (fun f7 => ?_)
        refine z_iload_n dX12_packet_88 rfl 1 rfl ?_
        refine z_pc (pc' := 89) rfl ?_
        obtain ⟨a8, e8, hP⟩ := hP
        have k8 := f7 a8 e8
        obtain ⟨i9, hP⟩ := hP
        refine z_iald e8 k8 i9 dX12_packet_89 ?_
        exact z_reti rfl dX12_packet_90 hP
      · cases htg
        replace hP := hP.2.1 h6
        refine z_aload_n dX12_packet_91 rfl 0 rfl ?_
        refine z_getr (c := 12) (k := 58) (g := 1594) (t := 20) z_cb12 (Nat.le_of_ble_eq_true rfl) (Nat.le_of_ble_eq_true rfl) rfl rfl zw_1313 rfl ha dX12_packet_92 (fun f10 => ?_)
        refine z_iload_n dX12_packet_95 rfl 1 rfl ?_
        refine z_pc (pc' := 96) rfl ?_
        obtain ⟨a11, e11, hP⟩ := hP
        have k11 := f10 a11 e11
        obtain ⟨i12, hP⟩ := hP
        refine z_iald e11 k11 i12 dX12_packet_96 ?_
        exact z_reti rfl dX12_packet_97 hP
      · cases htg
        replace hP := hP.2.2.1 h6
        refine z_aload_n dX12_packet_98 rfl 0 rfl ?_
        refine z_getr (c := 12) (k := 59) (g := 1595) (t := 20) z_cb12 (Nat.le_of_ble_eq_true rfl) (Nat.le_of_ble_eq_true rfl) rfl rfl zw_1314 rfl ha dX12_packet_99 (fun f13 => ?_)
        refine z_iload_n dX12_packet_102 rfl 1 rfl ?_
        refine z_pc (pc' := 103) rfl ?_
        obtain ⟨a14, e14, hP⟩ := hP
        have k14 := f13 a14 e14
        obtain ⟨i15, hP⟩ := hP
        refine z_iald e14 k14 i15 dX12_packet_103 ?_
        exact z_reti rfl dX12_packet_104 hP
      · cases htg
        replace hP := hP.2.2.2.1 h6
        refine z_aload_n dX12_packet_105 rfl 0 rfl ?_
        refine z_getr (c := 12) (k := 60) (g := 1596) (t := 20) z_cb12 (Nat.le_of_ble_eq_true rfl) (Nat.le_of_ble_eq_true rfl) rfl rfl zw_1315 rfl ha dX12_packet_106 (fun f16 => ?_)
        refine z_iload_n dX12_packet_109 rfl 1 rfl ?_
        refine z_pc (pc' := 110) rfl ?_
        obtain ⟨a17, e17, hP⟩ := hP
        have k17 := f16 a17 e17
        obtain ⟨i18, hP⟩ := hP
        refine z_iald e17 k17 i18 dX12_packet_110 ?_
        exact z_reti rfl dX12_packet_111 hP
      · cases htg
        replace hP := hP.2.2.2.2.1 h6
        refine z_aload_n dX12_packet_112 rfl 0 rfl ?_
        refine z_getr (c := 12) (k := 61) (g := 1597) (t := 20) z_cb12 (Nat.le_of_ble_eq_true rfl) (Nat.le_of_ble_eq_true rfl) rfl rfl zw_1316 rfl ha dX12_packet_113 (fun f19 => ?_)
        refine z_iload_n dX12_packet_116 rfl 1 rfl ?_
        refine z_pc (pc' := 117) rfl ?_
        obtain ⟨a20, e20, hP⟩ := hP
        have k20 := f19 a20 e20
        obtain ⟨i21, hP⟩ := hP
        refine z_iald e20 k20 i21 dX12_packet_117 ?_
        exact z_reti rfl dX12_packet_118 hP
      · cases htg
        replace hP := hP.2.2.2.2.2.1 h6
        refine z_aload_n dX12_packet_119 rfl 0 rfl ?_
        refine z_getr (c := 12) (k := 62) (g := 1598) (t := 20) z_cb12 (Nat.le_of_ble_eq_true rfl) (Nat.le_of_ble_eq_true rfl) rfl rfl zw_1317 rfl ha dX12_packet_120 (fun f22 => ?_)
        refine z_iload_n dX12_packet_123 rfl 1 rfl ?_
        refine z_pc (pc' := 124) rfl ?_
        obtain ⟨a23, e23, hP⟩ := hP
        have k23 := f22 a23 e23
        obtain ⟨i24, hP⟩ := hP
        refine z_iald e23 k23 i24 dX12_packet_124 ?_
        exact z_reti rfl dX12_packet_125 hP
      · cases htg
        replace hP := hP.2.2.2.2.2.2.1 h6
        refine z_aload_n dX12_packet_126 rfl 0 rfl ?_
        refine z_getr (c := 12) (k := 63) (g := 1599) (t := 20) z_cb12 (Nat.le_of_ble_eq_true rfl) (Nat.le_of_ble_eq_true rfl) rfl rfl zw_1318 rfl ha dX12_packet_127 (fun f25 => ?_)
        refine z_iload_n dX12_packet_130 rfl 1 rfl ?_
        refine z_pc (pc' := 131) rfl ?_
        obtain ⟨a26, e26, hP⟩ := hP
        have k26 := f25 a26 e26
        obtain ⟨i27, hP⟩ := hP
        refine z_iald e26 k26 i27 dX12_packet_131 ?_
        exact z_reti rfl dX12_packet_132 hP
      · cases htg
        replace hP := hP.2.2.2.2.2.2.2.1 h6
        refine z_aload_n dX12_packet_133 rfl 0 rfl ?_
        refine z_getr (c := 12) (k := 64) (g := 1600) (t := 20) z_cb12 (Nat.le_of_ble_eq_true rfl) (Nat.le_of_ble_eq_true rfl) rfl rfl zw_1319 rfl ha dX12_packet_134 (fun f28 => ?_)
        refine z_iload_n dX12_packet_137 rfl 1 rfl ?_
        refine z_pc (pc' := 138) rfl ?_
        obtain ⟨a29, e29, hP⟩ := hP
        have k29 := f28 a29 e29
        obtain ⟨i30, hP⟩ := hP
        refine z_iald e29 k29 i30 dX12_packet_138 ?_
        exact z_reti rfl dX12_packet_139 hP
      · cases htg
        replace hP := hP.2.2.2.2.2.2.2.2.1 h6
        refine z_aload_n dX12_packet_140 rfl 0 rfl ?_
        refine z_getr (c := 12) (k := 65) (g := 1601) (t := 21) z_cb12 (Nat.le_of_ble_eq_true rfl) (Nat.le_of_ble_eq_true rfl) rfl rfl zw_1320 rfl ha dX12_packet_141 (fun f31 => ?_)
        refine z_iload_n dX12_packet_144 rfl 1 rfl ?_
        refine z_pc (pc' := 145) rfl ?_
        obtain ⟨a32, e32, hP⟩ := hP
        have k32 := f31 a32 e32
        obtain ⟨i33, hP⟩ := hP
        refine z_zald e32 k32 i33 dX12_packet_145 (fun b33 => ?_)
        refine z_if_eq (tgt := 153) dX12_packet_146 (by decide) (fun h34 => ?_) (fun h34 => ?_)
        · replace hP := hP.1 h34
          refine z_iconst (v := 0) dX12_packet_153 (by decide) ?_
          exact z_reti rfl dX12_packet_154 hP
        · replace hP := hP.2 h34
          refine z_iconst (v := 1) dX12_packet_149 (by decide) ?_
          refine z_goto (tgt := 154) dX12_packet_150 (by decide) ?_
          exact z_reti rfl dX12_packet_154 hP
      · cases htg
        replace hP := hP.2.2.2.2.2.2.2.2.2.1 h6
        refine z_aload_n dX12_packet_155 rfl 0 rfl ?_
        refine z_getr (c := 12) (k := 66) (g := 1602) (t := 21) z_cb12 (Nat.le_of_ble_eq_true rfl) (Nat.le_of_ble_eq_true rfl) rfl rfl zw_1321 rfl ha dX12_packet_156 (fun f35 => ?_)
        refine z_iload_n dX12_packet_159 rfl 1 rfl ?_
        refine z_pc (pc' := 160) rfl ?_
        obtain ⟨a36, e36, hP⟩ := hP
        have k36 := f35 a36 e36
        obtain ⟨i37, hP⟩ := hP
        refine z_zald e36 k36 i37 dX12_packet_160 (fun b37 => ?_)
        refine z_if_eq (tgt := 168) dX12_packet_161 (by decide) (fun h38 => ?_) (fun h38 => ?_)
        · replace hP := hP.1 h38
          refine z_iconst (v := 0) dX12_packet_168 (by decide) ?_
          exact z_reti rfl dX12_packet_169 hP
        · replace hP := hP.2 h38
          refine z_iconst (v := 1) dX12_packet_164 (by decide) ?_
          refine z_goto (tgt := 169) dX12_packet_165 (by decide) ?_
          exact z_reti rfl dX12_packet_169 hP
    · replace hP := hP.2.2.2.2.2.2.2.2.2.2 h6
      refine z_aload_n dX12_packet_170 rfl 0 rfl ?_
      refine z_getr (c := 12) (k := 67) (g := 1603) (t := 21) z_cb12 (Nat.le_of_ble_eq_true rfl) (Nat.le_of_ble_eq_true rfl) rfl rfl zw_1322 rfl ha dX12_packet_171 (fun f39 => ?_)
      refine z_iload_n dX12_packet_174 rfl 1 rfl ?_
      refine z_pc (pc' := 175) rfl ?_
      obtain ⟨a40, e40, hP⟩ := hP
      have k40 := f39 a40 e40
      obtain ⟨i41, hP⟩ := hP
      refine z_zald e40 k40 i41 dX12_packet_175 (fun b41 => ?_)
      refine z_if_eq (tgt := 183) dX12_packet_176 (by decide) (fun h42 => ?_) (fun h42 => ?_)
      · replace hP := hP.1 h42
        refine z_iconst (v := 0) dX12_packet_183 (by decide) ?_
        exact z_reti rfl dX12_packet_184 hP
      · replace hP := hP.2 h42
        refine z_iconst (v := 1) dX12_packet_179 (by decide) ?_
        refine z_goto (tgt := 184) dX12_packet_180 (by decide) ?_
        exact z_reti rfl dX12_packet_184 hP
  · replace hP := hP.1 h5
    refine z_iconst (v := 0) dX12_packet_26 (by decide) ?_
    exact z_reti rfl dX12_packet_27 hP
set_option maxRecDepth 100000 in
def P_X12_count (a : Nat) (p1 : Int32) (M : z_Mem) (Post : Int32 → z_Mem → Prop) : Prop := P_X12_in p1 0 5 M fun x_1 M_1 => (P_X12_goes a x_1 1 1 M_1 fun x_2 M_2 => (((x_2 = 0 → Post 0 M_2) ∧ (¬ x_2 = 0 → z_nn (z_fr M_2 1629 a) fun a5 => (vp_in p1 (z_ln M_2 a5) ∧ (Post (z_ai M_2 a5 ((p1 : Int32).toNatClampNeg)) M_2))))))
set_option maxRecDepth 100000 in
set_option maxHeartbeats 4000000 in
theorem s_X12_count {G : z_G} {M : z_Mem} {a : Nat} {p1 : Int32} {Post : Int32 → z_Mem → Prop} (ha : z_ki M a = 13) (hP : P_X12_count a p1 M Post) : z_Mt G Y_X12_count M [z_O (some a), z_I p1] (z_PI Post) := by
  refine z_ofV (by decide) (Nat.le_of_ble_eq_true rfl) ?_
  unfold P_X12_count at hP
  refine z_sub (lv' := [(0, z_O (some a)), (1, z_I p1)]) [0, 1] rfl ?_
  refine z_aload_n dX12_count_0 rfl 0 rfl ?_
  refine z_iload_n dX12_count_1 rfl 1 rfl ?_
  refine z_iconst (v := 0) dX12_count_2 (by decide) ?_
  refine z_iconst (v := 5) dX12_count_3 (by decide) ?_
  refine z_wts (fun hT1 _ => ?_)
  refine z_cSb (n := 3) (Y1 := Y_X12_in) (st := [z_O _]) rfl (s_X12_in  hP) rfl ⟨z_dc_X12_in, ⟨(Nat.le_of_ble_eq_true rfl), (Nat.le_of_ble_eq_true rfl)⟩, (Nat.le_of_ble_eq_true rfl)⟩ rfl zw_1552 zw_1553 zw_12 zw_1554 dX12_count_4 (fun x_1 M_1 b1 hP _ x1 => ?_)
  have ha := x1.k (k := 12) hT1 ha
  refine z_iconst (v := 1) dX12_count_7 (by decide) ?_
  refine z_pc (pc' := 8) rfl ?_
  refine z_iconst (v := 1) dX12_count_8 (by decide) ?_
  refine z_wts (fun hT2 _ => ?_)
  refine z_cVb (c := 12) (n := 3) (Y1 := Y_X12_goes) (st := []) rfl ha z_cb12 (Nat.le_of_ble_eq_true rfl) rfl (s_X12_goes ha b1 (Or.inr rfl) (Or.inr rfl) hP) rfl ⟨z_dc_X12_goes, ⟨(Nat.le_of_ble_eq_true rfl), (Nat.le_of_ble_eq_true rfl)⟩, (Nat.le_of_ble_eq_true rfl)⟩ rfl zw_1555 zw_1557 zp_31 zw_12 zw_1558 dX12_count_9 (fun x_2 M_2 b2 hP _ x2 => ?_)
  have ha := x2.k (k := 12) hT2 ha
  refine z_if_eq (tgt := 24) dX12_count_12 (by decide) (fun h3 => ?_) (fun h3 => ?_)
  · replace hP := hP.1 h3
    refine z_iconst (v := 0) dX12_count_24 (by decide) ?_
    exact z_reti rfl dX12_count_25 hP
  · replace hP := hP.2 h3
    refine z_aload_n dX12_count_15 rfl 0 rfl ?_
    refine z_getr (c := 12) (k := 93) (g := 1629) (t := 20) z_cb12 (Nat.le_of_ble_eq_true rfl) (Nat.le_of_ble_eq_true rfl) rfl rfl zw_1348 rfl ha dX12_count_16 (fun f4 => ?_)
    refine z_iload_n dX12_count_19 rfl 1 rfl ?_
    obtain ⟨a5, e5, hP⟩ := hP
    have k5 := f4 a5 e5
    obtain ⟨i6, hP⟩ := hP
    refine z_iald e5 k5 i6 dX12_count_20 ?_
    refine z_pc (pc' := 21) rfl ?_
    refine z_goto (tgt := 25) dX12_count_21 (by decide) ?_
    exact z_reti rfl dX12_count_25 hP
set_option maxRecDepth 100000 in
def P_X12_inFlightAnew (a : Nat) (p1 : Int32) (M : z_Mem) (Post : Int32 → z_Mem → Prop) : Prop := P_X12_isPath p1 M fun x_1 M_1 => (P_X12_goes a x_1 1 1 M_1 fun x_2 M_2 => (((x_2 = 0 → Post 0 M_2) ∧ (¬ x_2 = 0 → P_X12_inFlight a p1 M_2 fun x_4 M_4 => (Post x_4 M_4)))))
set_option maxRecDepth 100000 in
set_option maxHeartbeats 4000000 in
theorem s_X12_inFlightAnew {G : z_G} {M : z_Mem} {a : Nat} {p1 : Int32} {Post : Int32 → z_Mem → Prop} (ha : z_ki M a = 13) (hP : P_X12_inFlightAnew a p1 M Post) : z_Mt G Y_X12_inFlightAnew M [z_O (some a), z_I p1] (z_PI Post) := by
  refine z_ofV (by decide) (Nat.le_of_ble_eq_true rfl) ?_
  unfold P_X12_inFlightAnew at hP
  refine z_sub (lv' := [(0, z_O (some a)), (1, z_I p1)]) [0, 1] rfl ?_
  refine z_aload_n dX12_inFlightAnew_0 rfl 0 rfl ?_
  refine z_iload_n dX12_inFlightAnew_1 rfl 1 rfl ?_
  refine z_wts (fun hT1 _ => ?_)
  refine z_cSb (n := 1) (Y1 := Y_X12_isPath) (st := [z_O _]) rfl (s_X12_isPath  hP) rfl ⟨z_dc_X12_isPath, ⟨(Nat.le_of_ble_eq_true rfl), (Nat.le_of_ble_eq_true rfl)⟩, (Nat.le_of_ble_eq_true rfl)⟩ rfl zw_1549 zw_1550 zw_12 zw_1551 dX12_inFlightAnew_2 (fun x_1 M_1 b1 hP _ x1 => ?_)
  have ha := x1.k (k := 12) hT1 ha
  refine z_iconst (v := 1) dX12_inFlightAnew_5 (by decide) ?_
  refine z_iconst (v := 1) dX12_inFlightAnew_6 (by decide) ?_
  refine z_wts (fun hT2 _ => ?_)
  refine z_cVb (c := 12) (n := 3) (Y1 := Y_X12_goes) (st := []) rfl ha z_cb12 (Nat.le_of_ble_eq_true rfl) rfl (s_X12_goes ha b1 (Or.inr rfl) (Or.inr rfl) hP) rfl ⟨z_dc_X12_goes, ⟨(Nat.le_of_ble_eq_true rfl), (Nat.le_of_ble_eq_true rfl)⟩, (Nat.le_of_ble_eq_true rfl)⟩ rfl zw_1555 zw_1557 zp_31 zw_12 zw_1558 dX12_inFlightAnew_7 (fun x_2 M_2 b2 hP _ x2 => ?_)
  have ha := x2.k (k := 12) hT2 ha
  refine z_pc (pc' := 10) rfl ?_
  refine z_if_eq (tgt := 21) dX12_inFlightAnew_10 (by decide) (fun h3 => ?_) (fun h3 => ?_)
  · replace hP := hP.1 h3
    refine z_iconst (v := 0) dX12_inFlightAnew_21 (by decide) ?_
    exact z_reti rfl dX12_inFlightAnew_22 hP
  · replace hP := hP.2 h3
    refine z_aload_n dX12_inFlightAnew_13 rfl 0 rfl ?_
    refine z_iload_n dX12_inFlightAnew_14 rfl 1 rfl ?_
    refine z_wts (fun hT4 _ => ?_)
    refine z_cVi (c := 12) (n := 1) (Y1 := Y_X12_inFlight) (st := []) rfl ha z_cb12 (Nat.le_of_ble_eq_true rfl) rfl (s_X12_inFlight ha hP) rfl ⟨z_dc_X12_inFlight, ⟨(Nat.le_of_ble_eq_true rfl), (Nat.le_of_ble_eq_true rfl)⟩, (Nat.le_of_ble_eq_true rfl)⟩ rfl zw_1738 zw_1740 zp_59 zw_12 zw_1741 dX12_inFlightAnew_15 (fun x_4 M_4 hP _ x4 => ?_)
    have ha := x4.k (k := 12) hT4 ha
    refine z_goto (tgt := 22) dX12_inFlightAnew_18 (by decide) ?_
    exact z_reti rfl dX12_inFlightAnew_22 hP
def P_X12_gotAnew_106 (a : Nat) (Post : Int32 → z_Mem → Prop) (J19 : Int32 → Int32 → Int32 → z_Mem → Prop) (J35 : Int32 → Int32 → Int32 → Int32 → z_Mem → Prop) (x1 : Int32) (x2 : Int32) (x4 : Int32) (t0 : Int32) (M : z_Mem) : Prop := ∀ x_1 : Int32, x_1 = x4 + 1 → (J35 x1 x2 t0 x_1 M)
def P_X12_gotAnew_101 (a : Nat) (Post : Int32 → z_Mem → Prop) (J19 : Int32 → Int32 → Int32 → z_Mem → Prop) (J35 : Int32 → Int32 → Int32 → Int32 → z_Mem → Prop) (x1 : Int32) (x2 : Int32) (x4 : Int32) (M : z_Mem) : Prop := P_X12_gotAnew_106 a Post J19 J35 x1 x2 x4 1 M
def P_X12_gotAnew_105 (a : Nat) (Post : Int32 → z_Mem → Prop) (J19 : Int32 → Int32 → Int32 → z_Mem → Prop) (J35 : Int32 → Int32 → Int32 → Int32 → z_Mem → Prop) (x1 : Int32) (x2 : Int32) (x4 : Int32) (M : z_Mem) : Prop := P_X12_gotAnew_106 a Post J19 J35 x1 x2 x4 0 M
def P_X12_gotAnew_123 (a : Nat) (Post : Int32 → z_Mem → Prop) (J19 : Int32 → Int32 → Int32 → z_Mem → Prop) (x1 : Int32) (x3 : Int32) (t0 : Int32) (t1 : Int32) (M : z_Mem) : Prop := ∀ x_2 : Int32, x_2 = (t0 + t1) → (J19 x1 x_2 x3 M)
set_option maxRecDepth 100000 in
def P_X12_gotAnew_35 (a : Nat) (Post : Int32 → z_Mem → Prop) (J19 : Int32 → Int32 → Int32 → z_Mem → Prop) : Nat → Int32 → Int32 → Int32 → Int32 → z_Mem → Prop
  | 0, _, _, _, _, _ => False
  | n + 1, x1, x2, x3, x4, M => (((z_fi M 1606 a) ≤ x4 → ((x3 = 0 → P_X12_gotAnew_123 a Post J19 x1 x3 x2 0 M) ∧ (¬ x3 = 0 → P_X12_gotAnew_123 a Post J19 x1 x3 x2 1 M))) ∧ (¬ (z_fi M 1606 a) ≤ x4 → ((x3 = 0 → z_nn (z_fr M 1599 a) fun a8 => (vp_in x4 (z_ln M a8) ∧ ((((z_ai M a8 ((x4 : Int32).toNatClampNeg)) = 1 → z_nn (z_fr M 1595 a) fun a12 => (vp_in x4 (z_ln M a12) ∧ ((((z_ai M a12 ((x4 : Int32).toNatClampNeg)) = x1 → z_nn (z_fr M 1596 a) fun a16 => (vp_in x4 (z_ln M a16) ∧ (z_nn (z_fr M 1596 a) fun a19 => (vp_in x4 (z_ln M a19) ∧ (z_nn (z_fr M 1597 a) fun a22 => (vp_in x4 (z_ln M a22) ∧ (P_X12_in x2 (z_ai M a16 ((x4 : Int32).toNatClampNeg)) (((z_ai M a19 ((x4 : Int32).toNatClampNeg)) + (z_ai M a22 ((x4 : Int32).toNatClampNeg))) - 1) M fun x_24 M_24 => (((x_24 = 0 → P_X12_gotAnew_105 a Post J19 (fun q0 q1 q2 q3 qM => P_X12_gotAnew_35 a Post J19 n q0 q1 q2 q3 qM) x1 x2 x4 M_24) ∧ (¬ x_24 = 0 → P_X12_gotAnew_101 a Post J19 (fun q0 q1 q2 q3 qM => P_X12_gotAnew_35 a Post J19 n q0 q1 q2 q3 qM) x1 x2 x4 M_24)))))))))) ∧ (¬ (z_ai M a12 ((x4 : Int32).toNatClampNeg)) = x1 → P_X12_gotAnew_105 a Post J19 (fun q0 q1 q2 q3 qM => P_X12_gotAnew_35 a Post J19 n q0 q1 q2 q3 qM) x1 x2 x4 M))))) ∧ (¬ (z_ai M a8 ((x4 : Int32).toNatClampNeg)) = 1 → P_X12_gotAnew_105 a Post J19 (fun q0 q1 q2 q3 qM => P_X12_gotAnew_35 a Post J19 n q0 q1 q2 q3 qM) x1 x2 x4 M))))) ∧ (¬ x3 = 0 → P_X12_gotAnew_101 a Post J19 (fun q0 q1 q2 q3 qM => P_X12_gotAnew_35 a Post J19 n q0 q1 q2 q3 qM) x1 x2 x4 M))))
set_option maxRecDepth 100000 in
def P_X12_gotAnew_19 (a : Nat) (Post : Int32 → z_Mem → Prop)  : Nat → Int32 → Int32 → Int32 → z_Mem → Prop
  | 0, _, _, _, _ => False
  | n + 1, x1, x2, x3, M => ((x3 = 0 → Post x2 M) ∧ (¬ x3 = 0 → ((200 ≤ x2 → Post x2 M) ∧ (¬ 200 ≤ x2 → (∃ n28 : Nat, P_X12_gotAnew_35 a Post (fun q0 q1 q2 qM => P_X12_gotAnew_19 a Post n q0 q1 q2 qM) n28 x1 x2 0 0 M)))))
set_option maxRecDepth 100000 in
def P_X12_gotAnew (a : Nat) (p1 : Int32) (M : z_Mem) (Post : Int32 → z_Mem → Prop) : Prop := P_X12_isStream p1 M fun x_29 M_29 => (P_X12_goes a x_29 1 1 M_29 fun x_30 M_30 => (((x_30 = 0 → Post 0 M_30) ∧ (¬ x_30 = 0 → (∃ n32 : Nat, P_X12_gotAnew_19 a Post n32 p1 0 1 M_30)))))
set_option maxRecDepth 100000 in
set_option maxHeartbeats 4000000 in
theorem v_X12_gotAnew_106 {G : z_G} {M0 : z_Mem} {a : Nat} {Post : Int32 → z_Mem → Prop} {J19 : Int32 → Int32 → Int32 → z_Mem → Prop} {J35 : Int32 → Int32 → Int32 → Int32 → z_Mem → Prop} (hJ19 : ∀ (x1 : Int32) (x2 : Int32) (x3 : Int32) (M : z_Mem), (z_ki M a = 13) → (x3 = 0 ∨ x3 = 1) → J19 x1 x2 x3 M → z_V G Y_X12_gotAnew z_X0 M0 (z_QM G M0 (z_PI Post)) M 19 [(0, z_O (some a)), (1, z_I x1), (2, z_I x2), (3, z_I x3)] []) (hJ35 : ∀ (x1 : Int32) (x2 : Int32) (x3 : Int32) (x4 : Int32) (M : z_Mem), (z_ki M a = 13) → (x3 = 0 ∨ x3 = 1) → J35 x1 x2 x3 x4 M → z_V G Y_X12_gotAnew z_X0 M0 (z_QM G M0 (z_PI Post)) M 35 [(0, z_O (some a)), (1, z_I x1), (2, z_I x2), (3, z_I x3), (4, z_I x4)] []) {x1 : Int32} {x2 : Int32} {x4 : Int32} {t0 : Int32} {M : z_Mem} (ha : z_ki M a = 13) (f_t0 : t0 = 0 ∨ t0 = 1) (hP : P_X12_gotAnew_106 a Post J19 J35 x1 x2 x4 t0 M) : z_V G Y_X12_gotAnew z_X0 M0 (z_QM G M0 (z_PI Post)) M 106 [(0, z_O (some a)), (1, z_I x1), (2, z_I x2), (4, z_I x4)] [z_I t0] := by
  unfold P_X12_gotAnew_106 at hP
  refine z_istore_n (lv' := [(3, z_I _), (0, z_O _), (1, z_I _), (2, z_I _), (4, z_I _)]) dX12_gotAnew_106 rfl (Nat.le_of_ble_eq_true rfl) rfl ?_
  refine z_iincN (j := 4) (m := 1) (lv' := fun v => [(4, z_I v), (3, z_I _), (0, z_O _), (1, z_I _), (2, z_I _)]) dX12_gotAnew_107 rfl (by decide) (Nat.le_of_ble_eq_true rfl) (fun _ => rfl) (fun x_1 y_1 => ?_)
  replace hP := hP x_1 y_1
  refine z_goto (tgt := 35) dX12_gotAnew_110 (by decide) ?_
  refine z_sub (lv' := [(0, z_O _), (1, z_I _), (2, z_I _), (3, z_I _), (4, z_I _)]) [2, 3, 4, 1, 0] rfl ?_
  exact hJ35 _ _ _ _ _ ha f_t0 hP
set_option maxRecDepth 100000 in
set_option maxHeartbeats 4000000 in
theorem v_X12_gotAnew_101 {G : z_G} {M0 : z_Mem} {a : Nat} {Post : Int32 → z_Mem → Prop} {J19 : Int32 → Int32 → Int32 → z_Mem → Prop} {J35 : Int32 → Int32 → Int32 → Int32 → z_Mem → Prop} (hJ19 : ∀ (x1 : Int32) (x2 : Int32) (x3 : Int32) (M : z_Mem), (z_ki M a = 13) → (x3 = 0 ∨ x3 = 1) → J19 x1 x2 x3 M → z_V G Y_X12_gotAnew z_X0 M0 (z_QM G M0 (z_PI Post)) M 19 [(0, z_O (some a)), (1, z_I x1), (2, z_I x2), (3, z_I x3)] []) (hJ35 : ∀ (x1 : Int32) (x2 : Int32) (x3 : Int32) (x4 : Int32) (M : z_Mem), (z_ki M a = 13) → (x3 = 0 ∨ x3 = 1) → J35 x1 x2 x3 x4 M → z_V G Y_X12_gotAnew z_X0 M0 (z_QM G M0 (z_PI Post)) M 35 [(0, z_O (some a)), (1, z_I x1), (2, z_I x2), (3, z_I x3), (4, z_I x4)] []) {x1 : Int32} {x2 : Int32} {x4 : Int32} {M : z_Mem} (ha : z_ki M a = 13) (hP : P_X12_gotAnew_101 a Post J19 J35 x1 x2 x4 M) : z_V G Y_X12_gotAnew z_X0 M0 (z_QM G M0 (z_PI Post)) M 101 [(0, z_O (some a)), (1, z_I x1), (2, z_I x2), (4, z_I x4)] [] := by
  unfold P_X12_gotAnew_101 at hP
  refine z_iconst (v := 1) dX12_gotAnew_101 (by decide) ?_
  refine z_goto (tgt := 106) dX12_gotAnew_102 (by decide) ?_
  refine z_sub (lv' := [(0, z_O _), (1, z_I _), (2, z_I _), (4, z_I _)]) [0, 1, 2, 3] rfl ?_
  exact v_X12_gotAnew_106 hJ19 hJ35 ha (Or.inr rfl) hP
set_option maxRecDepth 100000 in
set_option maxHeartbeats 4000000 in
theorem v_X12_gotAnew_105 {G : z_G} {M0 : z_Mem} {a : Nat} {Post : Int32 → z_Mem → Prop} {J19 : Int32 → Int32 → Int32 → z_Mem → Prop} {J35 : Int32 → Int32 → Int32 → Int32 → z_Mem → Prop} (hJ19 : ∀ (x1 : Int32) (x2 : Int32) (x3 : Int32) (M : z_Mem), (z_ki M a = 13) → (x3 = 0 ∨ x3 = 1) → J19 x1 x2 x3 M → z_V G Y_X12_gotAnew z_X0 M0 (z_QM G M0 (z_PI Post)) M 19 [(0, z_O (some a)), (1, z_I x1), (2, z_I x2), (3, z_I x3)] []) (hJ35 : ∀ (x1 : Int32) (x2 : Int32) (x3 : Int32) (x4 : Int32) (M : z_Mem), (z_ki M a = 13) → (x3 = 0 ∨ x3 = 1) → J35 x1 x2 x3 x4 M → z_V G Y_X12_gotAnew z_X0 M0 (z_QM G M0 (z_PI Post)) M 35 [(0, z_O (some a)), (1, z_I x1), (2, z_I x2), (3, z_I x3), (4, z_I x4)] []) {x1 : Int32} {x2 : Int32} {x4 : Int32} {M : z_Mem} (ha : z_ki M a = 13) (hP : P_X12_gotAnew_105 a Post J19 J35 x1 x2 x4 M) : z_V G Y_X12_gotAnew z_X0 M0 (z_QM G M0 (z_PI Post)) M 105 [(0, z_O (some a)), (1, z_I x1), (2, z_I x2), (4, z_I x4)] [] := by
  unfold P_X12_gotAnew_105 at hP
  refine z_iconst (v := 0) dX12_gotAnew_105 (by decide) ?_
  refine z_sub (lv' := [(0, z_O _), (1, z_I _), (2, z_I _), (4, z_I _)]) [0, 1, 2, 3] rfl ?_
  exact v_X12_gotAnew_106 hJ19 hJ35 ha (Or.inl rfl) hP
set_option maxRecDepth 100000 in
set_option maxHeartbeats 4000000 in
theorem v_X12_gotAnew_123 {G : z_G} {M0 : z_Mem} {a : Nat} {Post : Int32 → z_Mem → Prop} {J19 : Int32 → Int32 → Int32 → z_Mem → Prop} (hJ19 : ∀ (x1 : Int32) (x2 : Int32) (x3 : Int32) (M : z_Mem), (z_ki M a = 13) → (x3 = 0 ∨ x3 = 1) → J19 x1 x2 x3 M → z_V G Y_X12_gotAnew z_X0 M0 (z_QM G M0 (z_PI Post)) M 19 [(0, z_O (some a)), (1, z_I x1), (2, z_I x2), (3, z_I x3)] []) {x1 : Int32} {x3 : Int32} {t0 : Int32} {t1 : Int32} {M : z_Mem} (ha : z_ki M a = 13) (f_x3 : x3 = 0 ∨ x3 = 1) (f_t1 : t1 = 0 ∨ t1 = 1) (hP : P_X12_gotAnew_123 a Post J19 x1 x3 t0 t1 M) : z_V G Y_X12_gotAnew z_X0 M0 (z_QM G M0 (z_PI Post)) M 123 [(0, z_O (some a)), (1, z_I x1), (3, z_I x3)] [z_I t1, z_I t0] := by
  unfold P_X12_gotAnew_123 at hP
  refine z_iadd dX12_gotAnew_123 ?_
  refine z_topi (fun x_2 y_2 => ?_)
  replace hP := hP x_2 y_2
  refine z_istore_n (lv' := [(2, z_I _), (0, z_O _), (1, z_I _), (3, z_I _)]) dX12_gotAnew_124 rfl (Nat.le_of_ble_eq_true rfl) rfl ?_
  refine z_goto (tgt := 19) dX12_gotAnew_125 (by decide) ?_
  refine z_sub (lv' := [(0, z_O _), (1, z_I _), (2, z_I _), (3, z_I _)]) [1, 2, 0, 3] rfl ?_
  exact hJ19 _ _ _ _ ha f_x3 hP
set_option maxRecDepth 100000 in
set_option maxHeartbeats 4000000 in
theorem v_X12_gotAnew_35 {G : z_G} {M0 : z_Mem} {a : Nat} {Post : Int32 → z_Mem → Prop} {J19 : Int32 → Int32 → Int32 → z_Mem → Prop} (hJ19 : ∀ (x1 : Int32) (x2 : Int32) (x3 : Int32) (M : z_Mem), (z_ki M a = 13) → (x3 = 0 ∨ x3 = 1) → J19 x1 x2 x3 M → z_V G Y_X12_gotAnew z_X0 M0 (z_QM G M0 (z_PI Post)) M 19 [(0, z_O (some a)), (1, z_I x1), (2, z_I x2), (3, z_I x3)] []) : ∀ (n : Nat) {x1 : Int32} {x2 : Int32} {x3 : Int32} {x4 : Int32} {M : z_Mem}, (z_ki M a = 13) → (x3 = 0 ∨ x3 = 1) → P_X12_gotAnew_35 a Post J19 n x1 x2 x3 x4 M → z_V G Y_X12_gotAnew z_X0 M0 (z_QM G M0 (z_PI Post)) M 35 [(0, z_O (some a)), (1, z_I x1), (2, z_I x2), (3, z_I x3), (4, z_I x4)] [] := by
  intro n
  induction n with
  | zero => intro x1 x2 x3 x4 M ha f_x3 hP; exact False.elim hP
  | succ n ih =>
    intro x1 x2 x3 x4 M ha f_x3 hP
    unfold P_X12_gotAnew_35 at hP
    refine z_iload dX12_gotAnew_35 4 rfl ?_
    refine z_aload_n dX12_gotAnew_37 rfl 0 rfl ?_
    refine z_geti (c := 12) (k := 70) (g := 1606) z_cb12 (Nat.le_of_ble_eq_true rfl) (Nat.le_of_ble_eq_true rfl) rfl (Nat.le_of_ble_eq_true rfl) zw_1325 rfl ha dX12_gotAnew_38 ?_
    refine z_icmp_ge (tgt := 113) dX12_gotAnew_41 (by decide) (fun h4 => ?_) (fun h4 => ?_)
    · replace hP := hP.1 h4
      refine z_iload_n dX12_gotAnew_113 rfl 2 rfl ?_
      refine z_iload_n dX12_gotAnew_114 rfl 3 rfl ?_
      refine z_if_eq (tgt := 122) dX12_gotAnew_115 (by decide) (fun h5 => ?_) (fun h5 => ?_)
      · replace hP := hP.1 h5
        refine z_iconst (v := 0) dX12_gotAnew_122 (by decide) ?_
        refine z_sub (lv' := [(0, z_O _), (1, z_I _), (3, z_I _)]) [0, 1, 3] rfl ?_
        exact v_X12_gotAnew_123 hJ19 ha f_x3 (Or.inl rfl) hP
      · replace hP := hP.2 h5
        refine z_iconst (v := 1) dX12_gotAnew_118 (by decide) ?_
        refine z_pc (pc' := 119) rfl ?_
        refine z_goto (tgt := 123) dX12_gotAnew_119 (by decide) ?_
        refine z_sub (lv' := [(0, z_O _), (1, z_I _), (3, z_I _)]) [0, 1, 3] rfl ?_
        exact v_X12_gotAnew_123 hJ19 ha f_x3 (Or.inr rfl) hP
    · replace hP := hP.2 h4
      refine z_iload_n dX12_gotAnew_44 rfl 3 rfl ?_
      refine z_if_ne (tgt := 101) dX12_gotAnew_45 (by decide) (fun h6 => ?_) (fun h6 => ?_)
      · replace hP := hP.2 h6
        refine z_sub (lv' := [(0, z_O _), (1, z_I _), (2, z_I _), (4, z_I _)]) [0, 1, 2, 4] rfl ?_
        exact v_X12_gotAnew_101 hJ19 (fun _ _ _ _ _ w0 w1 hP => ih w0 w1 hP) ha hP
      · replace hP := hP.1 h6
        refine z_aload_n dX12_gotAnew_48 rfl 0 rfl ?_
        refine z_getr (c := 12) (k := 63) (g := 1599) (t := 20) z_cb12 (Nat.le_of_ble_eq_true rfl) (Nat.le_of_ble_eq_true rfl) rfl rfl zw_1318 rfl ha dX12_gotAnew_49 (fun f7 => ?_)
        refine z_pc (pc' := 52) rfl ?_
        refine z_iload dX12_gotAnew_52 4 rfl ?_
        obtain ⟨a8, e8, hP⟩ := hP
        have k8 := f7 a8 e8
        obtain ⟨i9, hP⟩ := hP
        refine z_iald e8 k8 i9 dX12_gotAnew_54 ?_
        refine z_iconst (v := 1) dX12_gotAnew_55 (by decide) ?_
        refine z_icmp_ne (tgt := 105) dX12_gotAnew_56 (by decide) (fun h10 => ?_) (fun h10 => ?_)
        · replace hP := hP.2 h10
          refine z_sub (lv' := [(0, z_O _), (1, z_I _), (2, z_I _), (4, z_I _)]) [0, 1, 2, 4] rfl ?_
          exact v_X12_gotAnew_105 hJ19 (fun _ _ _ _ _ w0 w1 hP => ih w0 w1 hP) ha hP
        · replace hP := hP.1 h10
          refine z_aload_n dX12_gotAnew_59 rfl 0 rfl ?_
          refine z_getr (c := 12) (k := 59) (g := 1595) (t := 20) z_cb12 (Nat.le_of_ble_eq_true rfl) (Nat.le_of_ble_eq_true rfl) rfl rfl zw_1314 rfl ha dX12_gotAnew_60 (fun f11 => ?_)
          refine z_iload dX12_gotAnew_63 4 rfl ?_
          refine z_pc (pc' := 65) rfl ?_
          obtain ⟨a12, e12, hP⟩ := hP
          have k12 := f11 a12 e12
          obtain ⟨i13, hP⟩ := hP
          refine z_iald e12 k12 i13 dX12_gotAnew_65 ?_
          refine z_iload_n dX12_gotAnew_66 rfl 1 rfl ?_
          refine z_icmp_ne (tgt := 105) dX12_gotAnew_67 (by decide) (fun h14 => ?_) (fun h14 => ?_)
          · replace hP := hP.2 h14
            refine z_sub (lv' := [(0, z_O _), (1, z_I _), (2, z_I _), (4, z_I _)]) [0, 1, 2, 4] rfl ?_
            exact v_X12_gotAnew_105 hJ19 (fun _ _ _ _ _ w0 w1 hP => ih w0 w1 hP) ha hP
          · replace hP := hP.1 h14
            refine z_iload_n dX12_gotAnew_70 rfl 2 rfl ?_
            refine z_aload_n dX12_gotAnew_71 rfl 0 rfl ?_
            refine z_getr (c := 12) (k := 60) (g := 1596) (t := 20) z_cb12 (Nat.le_of_ble_eq_true rfl) (Nat.le_of_ble_eq_true rfl) rfl rfl zw_1315 rfl ha dX12_gotAnew_72 (fun f15 => ?_)
            refine z_iload dX12_gotAnew_75 4 rfl ?_
            refine z_pc (pc' := 77) rfl ?_
            obtain ⟨a16, e16, hP⟩ := hP
            have k16 := f15 a16 e16
            obtain ⟨i17, hP⟩ := hP
            refine z_iald e16 k16 i17 dX12_gotAnew_77 ?_
            refine z_aload_n dX12_gotAnew_78 rfl 0 rfl ?_
            refine z_getr (c := 12) (k := 60) (g := 1596) (t := 20) z_cb12 (Nat.le_of_ble_eq_true rfl) (Nat.le_of_ble_eq_true rfl) rfl rfl zw_1315 rfl ha dX12_gotAnew_79 (fun f18 => ?_)
            refine z_iload dX12_gotAnew_82 4 rfl ?_
            obtain ⟨a19, e19, hP⟩ := hP
            have k19 := f18 a19 e19
            obtain ⟨i20, hP⟩ := hP
            refine z_iald e19 k19 i20 dX12_gotAnew_84 ?_
            refine z_aload_n dX12_gotAnew_85 rfl 0 rfl ?_
            refine z_pc (pc' := 86) rfl ?_
            refine z_getr (c := 12) (k := 61) (g := 1597) (t := 20) z_cb12 (Nat.le_of_ble_eq_true rfl) (Nat.le_of_ble_eq_true rfl) rfl rfl zw_1316 rfl ha dX12_gotAnew_86 (fun f21 => ?_)
            refine z_iload dX12_gotAnew_89 4 rfl ?_
            obtain ⟨a22, e22, hP⟩ := hP
            have k22 := f21 a22 e22
            obtain ⟨i23, hP⟩ := hP
            refine z_iald e22 k22 i23 dX12_gotAnew_91 ?_
            refine z_iadd dX12_gotAnew_92 ?_
            refine z_iconst (v := 1) dX12_gotAnew_93 (by decide) ?_
            refine z_isub dX12_gotAnew_94 ?_
            refine z_pc (pc' := 95) rfl ?_
            refine z_wts (fun hT24 _ => ?_)
            refine z_cSb (n := 3) (Y1 := Y_X12_in) (st := []) rfl (s_X12_in  hP) rfl ⟨z_dc_X12_in, ⟨(Nat.le_of_ble_eq_true rfl), (Nat.le_of_ble_eq_true rfl)⟩, (Nat.le_of_ble_eq_true rfl)⟩ rfl zw_1552 zw_1553 zw_12 zw_1554 dX12_gotAnew_95 (fun x_24 M_24 b24 hP _ x24 => ?_)
            have ha := x24.k (k := 12) hT24 ha
            refine z_if_eq (tgt := 105) dX12_gotAnew_98 (by decide) (fun h25 => ?_) (fun h25 => ?_)
            · replace hP := hP.1 h25
              refine z_sub (lv' := [(0, z_O _), (1, z_I _), (2, z_I _), (4, z_I _)]) [0, 1, 2, 4] rfl ?_
              exact v_X12_gotAnew_105 hJ19 (fun _ _ _ _ _ w0 w1 hP => ih w0 w1 hP) ha hP
            · replace hP := hP.2 h25
              refine z_sub (lv' := [(0, z_O _), (1, z_I _), (2, z_I _), (4, z_I _)]) [0, 1, 2, 4] rfl ?_
              exact v_X12_gotAnew_101 hJ19 (fun _ _ _ _ _ w0 w1 hP => ih w0 w1 hP) ha hP
set_option maxRecDepth 100000 in
set_option maxHeartbeats 4000000 in
theorem v_X12_gotAnew_19 {G : z_G} {M0 : z_Mem} {a : Nat} {Post : Int32 → z_Mem → Prop}   : ∀ (n : Nat) {x1 : Int32} {x2 : Int32} {x3 : Int32} {M : z_Mem}, (z_ki M a = 13) → (x3 = 0 ∨ x3 = 1) → P_X12_gotAnew_19 a Post n x1 x2 x3 M → z_V G Y_X12_gotAnew z_X0 M0 (z_QM G M0 (z_PI Post)) M 19 [(0, z_O (some a)), (1, z_I x1), (2, z_I x2), (3, z_I x3)] [] := by
  intro n
  induction n with
  | zero => intro x1 x2 x3 M ha f_x3 hP; exact False.elim hP
  | succ n ih =>
    intro x1 x2 x3 M ha f_x3 hP
    unfold P_X12_gotAnew_19 at hP
    refine z_iload_n dX12_gotAnew_19 rfl 3 rfl ?_
    refine z_if_eq (tgt := 128) dX12_gotAnew_20 (by decide) (fun h26 => ?_) (fun h26 => ?_)
    · replace hP := hP.1 h26
      refine z_iload_n dX12_gotAnew_128 rfl 2 rfl ?_
      exact z_reti rfl dX12_gotAnew_129 hP
    · replace hP := hP.2 h26
      refine z_iload_n dX12_gotAnew_23 rfl 2 rfl ?_
      refine z_sipush (v := 200) dX12_gotAnew_24 (by decide) ?_
      refine z_icmp_ge (tgt := 128) dX12_gotAnew_27 (by decide) (fun h27 => ?_) (fun h27 => ?_)
      · replace hP := hP.1 h27
        refine z_iload_n dX12_gotAnew_128 rfl 2 rfl ?_
        exact z_reti rfl dX12_gotAnew_129 hP
      · replace hP := hP.2 h27
        refine z_iconst (v := 0) dX12_gotAnew_30 (by decide) ?_
        refine z_istore_n (lv' := [(3, z_I _), (0, z_O _), (1, z_I _), (2, z_I _)]) dX12_gotAnew_31 rfl (Nat.le_of_ble_eq_true rfl) rfl ?_
        refine z_iconst (v := 0) dX12_gotAnew_32 (by decide) ?_
        refine z_pc (pc' := 33) rfl ?_
        refine z_istore (lv' := [(4, z_I _), (3, z_I _), (0, z_O _), (1, z_I _), (2, z_I _)]) dX12_gotAnew_33 (Nat.le_of_ble_eq_true rfl) rfl ?_
        obtain ⟨n28, hP⟩ := hP
        refine z_sub (lv' := [(0, z_O _), (1, z_I _), (2, z_I _), (3, z_I _), (4, z_I _)]) [2, 3, 4, 1, 0] rfl ?_
        exact v_X12_gotAnew_35 (fun _ _ _ _ w0 w1 hP => ih w0 w1 hP) n28 ha (Or.inl rfl) hP
set_option maxRecDepth 100000 in
set_option maxHeartbeats 4000000 in
theorem s_X12_gotAnew {G : z_G} {M : z_Mem} {a : Nat} {p1 : Int32} {Post : Int32 → z_Mem → Prop} (ha : z_ki M a = 13) (hP : P_X12_gotAnew a p1 M Post) : z_Mt G Y_X12_gotAnew M [z_O (some a), z_I p1] (z_PI Post) := by
  refine z_ofV (by decide) (Nat.le_of_ble_eq_true rfl) ?_
  unfold P_X12_gotAnew at hP
  refine z_sub (lv' := [(0, z_O (some a)), (1, z_I p1)]) [0, 1] rfl ?_
  refine z_aload_n dX12_gotAnew_0 rfl 0 rfl ?_
  refine z_iload_n dX12_gotAnew_1 rfl 1 rfl ?_
  refine z_wts (fun hT29 _ => ?_)
  refine z_cSb (n := 1) (Y1 := Y_X12_isStream) (st := [z_O _]) rfl (s_X12_isStream  hP) rfl ⟨z_dc_X12_isStream, ⟨(Nat.le_of_ble_eq_true rfl), (Nat.le_of_ble_eq_true rfl)⟩, (Nat.le_of_ble_eq_true rfl)⟩ rfl zw_1583 zw_1584 zw_12 zw_1585 dX12_gotAnew_2 (fun x_29 M_29 b29 hP _ x29 => ?_)
  have ha := x29.k (k := 12) hT29 ha
  refine z_iconst (v := 1) dX12_gotAnew_5 (by decide) ?_
  refine z_iconst (v := 1) dX12_gotAnew_6 (by decide) ?_
  refine z_wts (fun hT30 _ => ?_)
  refine z_cVb (c := 12) (n := 3) (Y1 := Y_X12_goes) (st := []) rfl ha z_cb12 (Nat.le_of_ble_eq_true rfl) rfl (s_X12_goes ha b29 (Or.inr rfl) (Or.inr rfl) hP) rfl ⟨z_dc_X12_goes, ⟨(Nat.le_of_ble_eq_true rfl), (Nat.le_of_ble_eq_true rfl)⟩, (Nat.le_of_ble_eq_true rfl)⟩ rfl zw_1555 zw_1557 zp_31 zw_12 zw_1558 dX12_gotAnew_7 (fun x_30 M_30 b30 hP _ x30 => ?_)
  have ha := x30.k (k := 12) hT30 ha
  refine z_pc (pc' := 10) rfl ?_
  refine z_if_ne (tgt := 15) dX12_gotAnew_10 (by decide) (fun h31 => ?_) (fun h31 => ?_)
  · replace hP := hP.2 h31
    refine z_iconst (v := 0) dX12_gotAnew_15 (by decide) ?_
    refine z_istore_n (lv' := [(2, z_I _), (0, z_O _), (1, z_I _)]) dX12_gotAnew_16 rfl (Nat.le_of_ble_eq_true rfl) rfl ?_
    refine z_iconst (v := 1) dX12_gotAnew_17 (by decide) ?_
    refine z_istore_n (lv' := [(3, z_I _), (2, z_I _), (0, z_O _), (1, z_I _)]) dX12_gotAnew_18 rfl (Nat.le_of_ble_eq_true rfl) rfl ?_
    obtain ⟨n32, hP⟩ := hP
    refine z_sub (lv' := [(0, z_O _), (1, z_I _), (2, z_I _), (3, z_I _)]) [2, 3, 1, 0] rfl ?_
    exact v_X12_gotAnew_19  n32 ha (Or.inr rfl) hP
  · replace hP := hP.1 h31
    refine z_iconst (v := 0) dX12_gotAnew_13 (by decide) ?_
    exact z_reti rfl dX12_gotAnew_14 hP
