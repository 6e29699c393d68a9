/-! the reference: rectangles of lines -/
def rf_jn (A A' : Int → Int) (q x0 y0 x1 y1 : Int) : Prop := (∀ j, (j < 4 * q ∨ 4 * q + 4 ≤ j) → A' j = A j) ∧ rf_l A' q = x0 ∧ rf_u A' q = y0 ∧ rf_r A' q = x1 ∧ rf_d A' q = y1
theorem rf_jn_s {A : Int → Int} {q x0 y0 w h : Int} : rf_jn A (mv_s (mv_s (mv_s (mv_s A (4 * q) x0) (4 * q + 1) y0) (4 * q + 2) w) (4 * q + 3) h) q x0 y0 (x0 + w) (y0 + h) := by
  refine ⟨fun j hj => by rw [mv_sn (by omega), mv_sn (by omega), mv_sn (by omega), mv_sn (by omega)], ?_, ?_, ?_, ?_⟩
  · unfold rf_l; rw [mv_sn (by omega), mv_sn (by omega), mv_sn (by omega), mv_ss]
  · unfold rf_u; rw [mv_sn (by omega), mv_sn (by omega), mv_ss]
  · unfold rf_r; rw [mv_sn (by omega), mv_sn (by omega), mv_sn (by omega), mv_ss, mv_sn (by omega), mv_ss]
  · unfold rf_d; rw [mv_sn (by omega), mv_sn (by omega), mv_ss, mv_ss]
theorem rf_join1 {Q : List mv_V → mv_M → Prop} {M : mv_M} {a : Nat} {A : Int → Int} (ha : 2 ≤ a) (hA : M.2 a = .inl (256, A)) {q x y w h : Int} (q0 : 0 ≤ q) (q1 : q < 64) (x0 : 0 ≤ x) (xw : x + w ≤ 4096) (w0 : 0 ≤ w) (y0 : 0 ≤ y) (yh : y + h ≤ 4096) (h0 : 0 ≤ h) (k : ∀ M' A', bf_fr M M' a (a + 1) → M'.2 a = .inl (256, A') → rf_jn A A' q x y (x + w) (y + h) → Q [] M') : mv_J md_RM_join [.inr a, .inl q, .inl x, .inl y, .inl w, .inl h, .inl 1] M Q := by
  refine mv_enter (by decide +kernel) (Nat.le_of_ble_eq_true rfl) ?_
  show mv_W md_RM_join 0 [.inr a, .inl q, .inl x, .inl y, .inl w, .inl h, .inl 1, .inr 0, .inr 0] [] M (0, 0) Q
  refine mx_iload d_RM_join_0 rfl ?_
  refine mx_z1 12 d_RM_join_2 (by decide) ?_
  refine mx_iload_n d_RM_join_5 rfl ?_
  refine mx_iload d_RM_join_6 rfl ?_
  refine mx_iadd d_RM_join_8 (by unfold mv_r; omega) ?_
  refine mx_goto 32 d_RM_join_9 (by decide) ?_
  refine mx_istore d_RM_join_32 (by decide) ?_
  refine mx_iload d_RM_join_34 rfl ?_
  refine mx_z1 46 d_RM_join_36 (by decide) ?_
  refine mx_iload_n d_RM_join_39 rfl ?_
  refine mx_iload d_RM_join_40 rfl ?_
  refine mx_iadd d_RM_join_42 (by unfold mv_r; omega) ?_
  refine mx_goto 68 d_RM_join_43 (by decide) ?_
  refine mx_istore d_RM_join_68 (by decide) ?_
  refine mx_aload_n d_RM_join_70 rfl (by omega) ?_
  refine mx_iconst (4) d_RM_join_71 (by decide +kernel) (by unfold mv_r; omega) ?_
  refine mx_iload_n d_RM_join_72 rfl ?_
  refine mx_imul d_RM_join_73 (by unfold mv_r; omega) ?_
  refine mx_iload d_RM_join_74 rfl ?_
  refine mx_z1 83 d_RM_join_76 (by decide) ?_
  refine mx_iload_n d_RM_join_79 rfl ?_
  refine mx_goto 92 d_RM_join_80 (by decide) ?_
  refine mx_iast d_RM_join_92 hA (by omega) (by omega) (by omega) ?_
  refine mx_aload_n d_RM_join_93 rfl (by omega) ?_
  refine mx_iconst (4) d_RM_join_94 (by decide +kernel) (by unfold mv_r; omega) ?_
  refine mx_iload_n d_RM_join_95 rfl ?_
  refine mx_imul d_RM_join_96 (by unfold mv_r; omega) ?_
  refine mx_iconst (1) d_RM_join_97 (by decide +kernel) (by unfold mv_r; omega) ?_
  refine mx_iadd d_RM_join_98 (by unfold mv_r; omega) ?_
  refine mx_iload d_RM_join_99 rfl ?_
  refine mx_z1 108 d_RM_join_101 (by decide) ?_
  refine mx_iload_n d_RM_join_104 rfl ?_
  refine mx_goto 119 d_RM_join_105 (by decide) ?_
  refine mx_iast d_RM_join_119 (by rw [mv_ps]) (by omega) (by omega) (by omega) ?_
  refine mx_aload_n d_RM_join_120 rfl (by omega) ?_
  refine mx_iconst (4) d_RM_join_121 (by decide +kernel) (by unfold mv_r; omega) ?_
  refine mx_iload_n d_RM_join_122 rfl ?_
  refine mx_imul d_RM_join_123 (by unfold mv_r; omega) ?_
  refine mx_iconst (2) d_RM_join_124 (by decide +kernel) (by unfold mv_r; omega) ?_
  refine mx_iadd d_RM_join_125 (by unfold mv_r; omega) ?_
  refine mx_iload d_RM_join_126 rfl ?_
  refine mx_aload_n d_RM_join_128 rfl (by omega) ?_
  refine mx_iconst (4) d_RM_join_129 (by decide +kernel) (by unfold mv_r; omega) ?_
  refine mx_iload_n d_RM_join_130 rfl ?_
  refine mx_imul d_RM_join_131 (by unfold mv_r; omega) ?_
  refine mx_iald d_RM_join_132 (by rw [mv_ps]) (by omega) (by omega) ?_
  rw [mv_sn (show (4 * q : Int) ≠ 4 * q + 1 by omega), mv_ss]
  refine mx_isub d_RM_join_133 (by unfold mv_r; omega) ?_
  refine mx_iast d_RM_join_134 (by rw [mv_ps]) (by omega) (by omega) (by omega) ?_
  refine mx_aload_n d_RM_join_135 rfl (by omega) ?_
  refine mx_iconst (4) d_RM_join_136 (by decide +kernel) (by unfold mv_r; omega) ?_
  refine mx_iload_n d_RM_join_137 rfl ?_
  refine mx_imul d_RM_join_138 (by unfold mv_r; omega) ?_
  refine mx_iconst (3) d_RM_join_139 (by decide +kernel) (by unfold mv_r; omega) ?_
  refine mx_iadd d_RM_join_140 (by unfold mv_r; omega) ?_
  refine mx_iload d_RM_join_141 rfl ?_
  refine mx_aload_n d_RM_join_143 rfl (by omega) ?_
  refine mx_iconst (4) d_RM_join_144 (by decide +kernel) (by unfold mv_r; omega) ?_
  refine mx_iload_n d_RM_join_145 rfl ?_
  refine mx_imul d_RM_join_146 (by unfold mv_r; omega) ?_
  refine mx_iconst (1) d_RM_join_147 (by decide +kernel) (by unfold mv_r; omega) ?_
  refine mx_iadd d_RM_join_148 (by unfold mv_r; omega) ?_
  refine mx_iald d_RM_join_149 (by rw [mv_ps]) (by omega) (by omega) ?_
  rw [mv_sn (show (4 * q + 1 : Int) ≠ 4 * q + 2 by omega), mv_ss]
  refine mx_isub d_RM_join_150 (by unfold mv_r; omega) ?_
  refine mx_iast d_RM_join_151 (by rw [mv_ps]) (by omega) (by omega) (by omega) ?_
  refine mx_return d_RM_join_152 rfl ?_
  have hj := rf_jn_s (A := A) (q := q) (x0 := x) (y0 := y) (w := x + w - x) (h := y + h - y)
  rw [show x + (x + w - x) = x + w by omega, show y + (y + h - y) = y + h by omega] at hj
  exact k _ _ (bf_fr.refl.put (by omega) (by omega) |>.put (by omega) (by omega) |>.put (by omega) (by omega) |>.put (by omega) (by omega)) mv_ps hj
theorem rf_join0 {Q : List mv_V → mv_M → Prop} {M : mv_M} {a : Nat} {A : Int → Int} (ha : 2 ≤ a) (hA : M.2 a = .inl (256, A)) {q x y w h : Int} (q0 : 0 ≤ q) (q1 : q < 64) (x0 : 0 ≤ x) (xw : x + w ≤ 4096) (w0 : 0 ≤ w) (y0 : 0 ≤ y) (yh : y + h ≤ 4096) (h0 : 0 ≤ h) (hb : 0 ≤ rf_l A q ∧ rf_l A q < rf_r A q ∧ rf_r A q ≤ 4096 ∧ 0 ≤ rf_u A q ∧ rf_u A q < rf_d A q ∧ rf_d A q ≤ 4096) (k : ∀ M' A', bf_fr M M' a (a + 1) → M'.2 a = .inl (256, A') → rf_jn A A' q (min (rf_l A q) x) (min (rf_u A q) y) (max (rf_r A q) (x + w)) (max (rf_d A q) (y + h)) → Q [] M') : mv_J md_RM_join [.inr a, .inl q, .inl x, .inl y, .inl w, .inl h, .inl 0] M Q := by
  refine mv_enter (by decide +kernel) (Nat.le_of_ble_eq_true rfl) ?_
  show mv_W md_RM_join 0 [.inr a, .inl q, .inl x, .inl y, .inl w, .inl h, .inl 0, .inr 0, .inr 0] [] M (0, 0) Q
  unfold rf_l rf_u rf_r rf_d at hb
  refine mx_iload d_RM_join_0 rfl ?_
  refine mx_z0 12 d_RM_join_2 (by decide) ?_
  refine mx_aload_n d_RM_join_12 rfl (by omega) ?_
  refine mx_iconst (4) d_RM_join_13 (by decide +kernel) (by unfold mv_r; omega) ?_
  refine mx_iload_n d_RM_join_14 rfl ?_
  refine mx_imul d_RM_join_15 (by unfold mv_r; omega) ?_
  refine mx_iald d_RM_join_16 hA (by omega) (by omega) ?_
  refine mx_aload_n d_RM_join_17 rfl (by omega) ?_
  refine mx_iconst (4) d_RM_join_18 (by decide +kernel) (by unfold mv_r; omega) ?_
  refine mx_iload_n d_RM_join_19 rfl ?_
  refine mx_imul d_RM_join_20 (by unfold mv_r; omega) ?_
  refine mx_iconst (2) d_RM_join_21 (by decide +kernel) (by unfold mv_r; omega) ?_
  refine mx_iadd d_RM_join_22 (by unfold mv_r; omega) ?_
  refine mx_iald d_RM_join_23 hA (by omega) (by omega) ?_
  refine mx_iadd d_RM_join_24 (by unfold mv_r; omega) ?_
  refine mx_iload_n d_RM_join_25 rfl ?_
  refine mx_iload d_RM_join_26 rfl ?_
  refine mx_iadd d_RM_join_28 (by unfold mv_r; omega) ?_
  refine mx_cS2 d_RM_join_29 c_RM_97 (by decide) (Nat.le_of_ble_eq_true rfl) ?_
  refine rf_most ?_
  refine mx_istore d_RM_join_32 (by decide) ?_
  refine mx_iload d_RM_join_34 rfl ?_
  refine mx_z0 46 d_RM_join_36 (by decide) ?_
  refine mx_aload_n d_RM_join_46 rfl (by omega) ?_
  refine mx_iconst (4) d_RM_join_47 (by decide +kernel) (by unfold mv_r; omega) ?_
  refine mx_iload_n d_RM_join_48 rfl ?_
  refine mx_imul d_RM_join_49 (by unfold mv_r; omega) ?_
  refine mx_iconst (1) d_RM_join_50 (by decide +kernel) (by unfold mv_r; omega) ?_
  refine mx_iadd d_RM_join_51 (by unfold mv_r; omega) ?_
  refine mx_iald d_RM_join_52 hA (by omega) (by omega) ?_
  refine mx_aload_n d_RM_join_53 rfl (by omega) ?_
  refine mx_iconst (4) d_RM_join_54 (by decide +kernel) (by unfold mv_r; omega) ?_
  refine mx_iload_n d_RM_join_55 rfl ?_
  refine mx_imul d_RM_join_56 (by unfold mv_r; omega) ?_
  refine mx_iconst (3) d_RM_join_57 (by decide +kernel) (by unfold mv_r; omega) ?_
  refine mx_iadd d_RM_join_58 (by unfold mv_r; omega) ?_
  refine mx_iald d_RM_join_59 hA (by omega) (by omega) ?_
  refine mx_iadd d_RM_join_60 (by unfold mv_r; omega) ?_
  refine mx_iload_n d_RM_join_61 rfl ?_
  refine mx_iload d_RM_join_62 rfl ?_
  refine mx_iadd d_RM_join_64 (by unfold mv_r; omega) ?_
  refine mx_cS2 d_RM_join_65 c_RM_97 (by decide) (Nat.le_of_ble_eq_true rfl) ?_
  refine rf_most ?_
  refine mx_istore d_RM_join_68 (by decide) ?_
  refine mx_aload_n d_RM_join_70 rfl (by omega) ?_
  refine mx_iconst (4) d_RM_join_71 (by decide +kernel) (by unfold mv_r; omega) ?_
  refine mx_iload_n d_RM_join_72 rfl ?_
  refine mx_imul d_RM_join_73 (by unfold mv_r; omega) ?_
  refine mx_iload d_RM_join_74 rfl ?_
  refine mx_z0 83 d_RM_join_76 (by decide) ?_
  refine mx_aload_n d_RM_join_83 rfl (by omega) ?_
  refine mx_iconst (4) d_RM_join_84 (by decide +kernel) (by unfold mv_r; omega) ?_
  refine mx_iload_n d_RM_join_85 rfl ?_
  refine mx_imul d_RM_join_86 (by unfold mv_r; omega) ?_
  refine mx_iald d_RM_join_87 hA (by omega) (by omega) ?_
  refine mx_iload_n d_RM_join_88 rfl ?_
  refine mx_cS2 d_RM_join_89 c_RM_91 (by decide) (Nat.le_of_ble_eq_true rfl) ?_
  refine rf_least ?_
  refine mx_iast d_RM_join_92 hA (by omega) (by omega) (by omega) ?_
  refine mx_aload_n d_RM_join_93 rfl (by omega) ?_
  refine mx_iconst (4) d_RM_join_94 (by decide +kernel) (by unfold mv_r; omega) ?_
  refine mx_iload_n d_RM_join_95 rfl ?_
  refine mx_imul d_RM_join_96 (by unfold mv_r; omega) ?_
  refine mx_iconst (1) d_RM_join_97 (by decide +kernel) (by unfold mv_r; omega) ?_
  refine mx_iadd d_RM_join_98 (by unfold mv_r; omega) ?_
  refine mx_iload d_RM_join_99 rfl ?_
  refine mx_z0 108 d_RM_join_101 (by decide) ?_
  refine mx_aload_n d_RM_join_108 rfl (by omega) ?_
  refine mx_iconst (4) d_RM_join_109 (by decide +kernel) (by unfold mv_r; omega) ?_
  refine mx_iload_n d_RM_join_110 rfl ?_
  refine mx_imul d_RM_join_111 (by unfold mv_r; omega) ?_
  refine mx_iconst (1) d_RM_join_112 (by decide +kernel) (by unfold mv_r; omega) ?_
  refine mx_iadd d_RM_join_113 (by unfold mv_r; omega) ?_
  refine mx_iald d_RM_join_114 (by rw [mv_ps]) (by omega) (by omega) ?_
  rw [mv_sn (show (4 * q + 1 : Int) ≠ 4 * q by omega)]
  refine mx_iload_n d_RM_join_115 rfl ?_
  refine mx_cS2 d_RM_join_116 c_RM_91 (by decide) (Nat.le_of_ble_eq_true rfl) ?_
  refine rf_least ?_
  refine mx_iast d_RM_join_119 (by rw [mv_ps]) (by omega) (by omega) (by omega) ?_
  refine mx_aload_n d_RM_join_120 rfl (by omega) ?_
  refine mx_iconst (4) d_RM_join_121 (by decide +kernel) (by unfold mv_r; omega) ?_
  refine mx_iload_n d_RM_join_122 rfl ?_
  refine mx_imul d_RM_join_123 (by unfold mv_r; omega) ?_
  refine mx_iconst (2) d_RM_join_124 (by decide +kernel) (by unfold mv_r; omega) ?_
  refine mx_iadd d_RM_join_125 (by unfold mv_r; omega) ?_
  refine mx_iload d_RM_join_126 rfl ?_
  refine mx_aload_n d_RM_join_128 rfl (by omega) ?_
  refine mx_iconst (4) d_RM_join_129 (by decide +kernel) (by unfold mv_r; omega) ?_
  refine mx_iload_n d_RM_join_130 rfl ?_
  refine mx_imul d_RM_join_131 (by unfold mv_r; omega) ?_
  refine mx_iald d_RM_join_132 (by rw [mv_ps]) (by omega) (by omega) ?_
  rw [mv_sn (show (4 * q : Int) ≠ 4 * q + 1 by omega), mv_ss]
  refine mx_isub d_RM_join_133 (by unfold mv_r; omega) ?_
  refine mx_iast d_RM_join_134 (by rw [mv_ps]) (by omega) (by omega) (by omega) ?_
  refine mx_aload_n d_RM_join_135 rfl (by omega) ?_
  refine mx_iconst (4) d_RM_join_136 (by decide +kernel) (by unfold mv_r; omega) ?_
  refine mx_iload_n d_RM_join_137 rfl ?_
  refine mx_imul d_RM_join_138 (by unfold mv_r; omega) ?_
  refine mx_iconst (3) d_RM_join_139 (by decide +kernel) (by unfold mv_r; omega) ?_
  refine mx_iadd d_RM_join_140 (by unfold mv_r; omega) ?_
  refine mx_iload d_RM_join_141 rfl ?_
  refine mx_aload_n d_RM_join_143 rfl (by omega) ?_
  refine mx_iconst (4) d_RM_join_144 (by decide +kernel) (by unfold mv_r; omega) ?_
  refine mx_iload_n d_RM_join_145 rfl ?_
  refine mx_imul d_RM_join_146 (by unfold mv_r; omega) ?_
  refine mx_iconst (1) d_RM_join_147 (by decide +kernel) (by unfold mv_r; omega) ?_
  refine mx_iadd d_RM_join_148 (by unfold mv_r; omega) ?_
  refine mx_iald d_RM_join_149 (by rw [mv_ps]) (by omega) (by omega) ?_
  rw [mv_sn (show (4 * q + 1 : Int) ≠ 4 * q + 2 by omega), mv_ss]
  refine mx_isub d_RM_join_150 (by unfold mv_r; omega) ?_
  refine mx_iast d_RM_join_151 (by rw [mv_ps]) (by omega) (by omega) (by omega) ?_
  refine mx_return d_RM_join_152 rfl ?_
  have hj := rf_jn_s (A := A) (q := q) (x0 := min (rf_l A q) x) (y0 := min (rf_u A q) y) (w := max (rf_r A q) (x + w) - min (rf_l A q) x) (h := max (rf_d A q) (y + h) - min (rf_u A q) y)
  rw [show min (rf_l A q) x + (max (rf_r A q) (x + w) - min (rf_l A q) x) = max (rf_r A q) (x + w) by omega, show min (rf_u A q) y + (max (rf_d A q) (y + h) - min (rf_u A q) y) = max (rf_d A q) (y + h) by omega] at hj
  exact k _ _ (bf_fr.refl.put (by omega) (by omega) |>.put (by omega) (by omega) |>.put (by omega) (by omega) |>.put (by omega) (by omega)) mv_ps hj
/-- line l of the row L is the rectangle of the boxes (or lines) of the row B below k whose label is r -/
def rf_bx (k : Int) (f B : Int → Int) (r : Int) (L : Int → Int) (l : Int) : Prop := pu_min k f r (rf_l B) (rf_l L l) ∧ pu_min k f r (rf_u B) (rf_u L l) ∧ pu_max k f r (rf_r B) (rf_r L l) ∧ pu_max k f r (rf_d B) (rf_d L l)
theorem rf_bx_ok {k : Int} {f B : Int → Int} {r : Int} {L : Int → Int} {l : Int} (h : rf_bx k f B r L l) (hb : rf_ok k B) : 0 ≤ rf_l L l ∧ rf_l L l < rf_r L l ∧ rf_r L l ≤ 4096 ∧ 0 ≤ rf_u L l ∧ rf_u L l < rf_d L l ∧ rf_d L l ≤ 4096 := by
  obtain ⟨⟨a1, a, a2, a3, a4, a5⟩, ⟨b1, b, b2, b3, b4, b5⟩, ⟨c1, c, c2, c3, c4, c5⟩, ⟨d1, d, d2, d3, d4, d5⟩⟩ := h
  have ha := hb a a2 a3
  have hb' := hb b b2 b3
  have hc := hb c c2 c3
  have hd := hb d d2 d3
  have e1 := c1 a a2 a3 a4
  have e2 := d1 b b2 b3 b4
  omega
theorem rf_bx_cg {k : Int} {f B : Int → Int} {r : Int} {L L' : Int → Int} {l : Int} (h : rf_bx k f B r L l) (e : ∀ j, 4 * l ≤ j → j < 4 * l + 4 → L' j = L j) : rf_bx k f B r L' l := by
  unfold rf_bx rf_l rf_u rf_r rf_d at *
  rw [e (4 * l) (by omega) (by omega), e (4 * l + 1) (by omega) (by omega), e (4 * l + 2) (by omega) (by omega), e (4 * l + 3) (by omega) (by omega)]
  exact h
theorem rf_bx_1 {k : Int} {f B : Int → Int} {L L' : Int → Int} {l : Int} (k0 : 0 ≤ k) (hf : ∀ j, 0 ≤ j → j < k → f j ≠ k) (hk : f k = k) (h : rf_jn L L' l (rf_l B k) (rf_u B k) (rf_r B k) (rf_d B k)) : rf_bx (k + 1) f B k L' l := by
  obtain ⟨-, h1, h2, h3, h4⟩ := h
  unfold rf_bx
  rw [h1, h2, h3, h4]
  exact ⟨pu_min_one k0 hf hk, pu_min_one k0 hf hk, pu_max_one k0 hf hk, pu_max_one k0 hf hk⟩
theorem rf_bx_m {k : Int} {f B : Int → Int} {r : Int} {L L' : Int → Int} {l : Int} (k0 : 0 ≤ k) (hb : rf_bx k f B r L l) (hk : f k = r) (h : rf_jn L L' l (min (rf_l L l) (rf_l B k)) (min (rf_u L l) (rf_u B k)) (max (rf_r L l) (rf_r B k)) (max (rf_d L l) (rf_d B k))) : rf_bx (k + 1) f B r L' l := by
  obtain ⟨-, h1, h2, h3, h4⟩ := h
  obtain ⟨g1, g2, g3, g4⟩ := hb
  unfold rf_bx
  rw [h1, h2, h3, h4]
  exact ⟨pu_min_more k0 g1 hk, pu_min_more k0 g2 hk, pu_max_more k0 g3 hk, pu_max_more k0 g4 hk⟩
theorem rf_bx_s {k : Int} {f B : Int → Int} {r : Int} {L : Int → Int} {l : Int} (hb : rf_bx k f B r L l) (hk : f k ≠ r) : rf_bx (k + 1) f B r L l := ⟨pu_min_skip hb.1 hk, pu_min_skip hb.2.1 hk, pu_max_skip hb.2.2.1 hk, pu_max_skip hb.2.2.2 hk⟩
theorem rf_rc_k {Q : List mv_V → mv_M → Prop} {M0 : mv_M} {co wi ta bo pa wy lc fo tu bl kl se ow : Int} (hO0 : rf_O M0 co wi ta bo pa wy lc fo tu bl kl se ow) {B f E : Int → Int} (hB0 : M0.2 48 = .inl (256, B)) (hf0 : M0.2 50 = .inl (64, f)) (hE0 : M0.2 52 = .inl (64, E)) (hn0 : 0 ≤ bo) (hn : bo ≤ 64) (hok : rf_ok bo B) (hlab : ∀ i, 0 ≤ i → i < bo → 0 ≤ f i ∧ f i ≤ i ∧ f (f i) = f i) (hrt : pu_rts bo f lc E) (hlc : lc ≤ 64) {l : Int} (l0 : 0 ≤ l) (l1 : l < lc) {L0 : Int → Int} (kk : ∀ M' L kv, bf_fr M0 M' 51 52 → M'.2 51 = .inl (256, L) → (∀ j, (j < 4 * l ∨ 4 * l + 4 ≤ j) → L j = L0 j) → rf_bx bo f B (E l) L l → mv_W md_RM_rectangles 102 [.inr 47, .inl l, kv] [] M' (0, 0) Q) : ∀ (d : Nat) (k : Int) (M : mv_M) (L : Int → Int), bo - k < d → 0 ≤ k → k ≤ bo → bf_fr M0 M 51 52 → M.2 51 = .inl (256, L) → (∀ j, (j < 4 * l ∨ 4 * l + 4 ≤ j) → L j = L0 j) → (E l < k → rf_bx k f B (E l) L l) → mv_W md_RM_rectangles 12 [.inr 47, .inl l, .inl k] [] M (0, 0) Q := by
  intro d
  induction d with
  | zero =>
    intro k M L hd k0 k1 hfr hLin hI1 hI2
    exfalso; omega
  | succ d ih =>
    intro k M L hd k0 k1 hfr hLin hI1 hI2
    have hO : rf_O M co wi ta bo pa wy lc fo tu bl kl se ow := by unfold rf_O; rw [hfr 47 (by omega)]; exact hO0
    have hBox : M.2 48 = .inl (256, B) := by rw [hfr 48 (by omega)]; exact hB0
    have hLof : M.2 50 = .inl (64, f) := by rw [hfr 50 (by omega)]; exact hf0
    have hLle : M.2 52 = .inl (64, E) := by rw [hfr 52 (by omega)]; exact hE0
    have hEl := hrt.2.1 l l0 l1
    refine mx_iload_n d_RM_rectangles_12 rfl ?_
    refine mx_aload_n d_RM_rectangles_13 rfl (by omega) ?_
    refine mx_gl d_RM_rectangles_14 f_RM_73 hO rfl ?_
    refine mx_icmp_ge 102 d_RM_rectangles_17 (by decide) (fun c17 => ?_) (fun c17 => ?_)
    · skip
      exact kk M L _ hfr hLin hI1 ((show k = bo by omega) ▸ hI2 (by omega))
    · skip
      refine mx_aload_n d_RM_rectangles_20 rfl (by omega) ?_
      refine mx_gl d_RM_rectangles_21 f_RM_16 hO rfl ?_
      refine mx_iload_n d_RM_rectangles_24 rfl ?_
      refine mx_iald d_RM_rectangles_25 hLof (by omega) (by omega) ?_
      refine mx_aload_n d_RM_rectangles_26 rfl (by omega) ?_
      refine mx_gl d_RM_rectangles_27 f_RM_22 hO rfl ?_
      refine mx_iload_n d_RM_rectangles_30 rfl ?_
      refine mx_iald d_RM_rectangles_31 hLle (by omega) (by omega) ?_
      refine mx_icmp_ne 96 d_RM_rectangles_32 (by decide) (fun c32 => ?_) (fun c32 => ?_)
      · skip
        refine mx_iinc d_RM_rectangles_96 rfl (by unfold mv_r; omega) ?_
        refine mx_goto 12 d_RM_rectangles_99 (by decide) ?_
        exact ih (k + 1) M L (by omega) (by omega) (by omega) hfr hLin hI1 (fun hlt => rf_bx_s (hI2 (by
          by_cases hke : E l = k
          · exfalso; rw [hke] at hEl c32; omega
          · omega)) c32)
      · skip
        have hw : rf_l B k = B (4 * k) ∧ rf_u B k = B (4 * k + 1) ∧ rf_r B k = B (4 * k) + B (4 * k + 2) ∧ rf_d B k = B (4 * k + 1) + B (4 * k + 3) := ⟨rfl, rfl, rfl, rfl⟩
        have hbk := hok k k0 (by omega)
        refine mx_aload_n d_RM_rectangles_35 rfl (by omega) ?_
        refine mx_gl d_RM_rectangles_36 f_RM_19 hO rfl ?_
        refine mx_iload_n d_RM_rectangles_39 rfl ?_
        refine mx_aload_n d_RM_rectangles_40 rfl (by omega) ?_
        refine mx_gl d_RM_rectangles_41 f_RM_7 hO rfl ?_
        refine mx_iconst (4) d_RM_rectangles_44 (by decide +kernel) (by unfold mv_r; omega) ?_
        refine mx_iload_n d_RM_rectangles_45 rfl ?_
        refine mx_imul d_RM_rectangles_46 (by unfold mv_r; omega) ?_
        refine mx_iald d_RM_rectangles_47 hBox (by omega) (by omega) ?_
        refine mx_aload_n d_RM_rectangles_48 rfl (by omega) ?_
        refine mx_gl d_RM_rectangles_49 f_RM_7 hO rfl ?_
        refine mx_iconst (4) d_RM_rectangles_52 (by decide +kernel) (by unfold mv_r; omega) ?_
        refine mx_iload_n d_RM_rectangles_53 rfl ?_
        refine mx_imul d_RM_rectangles_54 (by unfold mv_r; omega) ?_
        refine mx_iconst (1) d_RM_rectangles_55 (by decide +kernel) (by unfold mv_r; omega) ?_
        refine mx_iadd d_RM_rectangles_56 (by unfold mv_r; omega) ?_
        refine mx_iald d_RM_rectangles_57 hBox (by omega) (by omega) ?_
        refine mx_aload_n d_RM_rectangles_58 rfl (by omega) ?_
        refine mx_gl d_RM_rectangles_59 f_RM_7 hO rfl ?_
        refine mx_iconst (4) d_RM_rectangles_62 (by decide +kernel) (by unfold mv_r; omega) ?_
        refine mx_iload_n d_RM_rectangles_63 rfl ?_
        refine mx_imul d_RM_rectangles_64 (by unfold mv_r; omega) ?_
        refine mx_iconst (2) d_RM_rectangles_65 (by decide +kernel) (by unfold mv_r; omega) ?_
        refine mx_iadd d_RM_rectangles_66 (by unfold mv_r; omega) ?_
        refine mx_iald d_RM_rectangles_67 hBox (by omega) (by omega) ?_
        refine mx_aload_n d_RM_rectangles_68 rfl (by omega) ?_
        refine mx_gl d_RM_rectangles_69 f_RM_7 hO rfl ?_
        refine mx_iconst (4) d_RM_rectangles_72 (by decide +kernel) (by unfold mv_r; omega) ?_
        refine mx_iload_n d_RM_rectangles_73 rfl ?_
        refine mx_imul d_RM_rectangles_74 (by unfold mv_r; omega) ?_
        refine mx_iconst (3) d_RM_rectangles_75 (by decide +kernel) (by unfold mv_r; omega) ?_
        refine mx_iadd d_RM_rectangles_76 (by unfold mv_r; omega) ?_
        refine mx_iald d_RM_rectangles_77 hBox (by omega) (by omega) ?_
        refine mx_iload_n d_RM_rectangles_78 rfl ?_
        refine mx_aload_n d_RM_rectangles_79 rfl (by omega) ?_
        refine mx_gl d_RM_rectangles_80 f_RM_22 hO rfl ?_
        refine mx_iload_n d_RM_rectangles_83 rfl ?_
        refine mx_iald d_RM_rectangles_84 hLle (by omega) (by omega) ?_
        refine mx_icmp_ne 92 d_RM_rectangles_85 (by decide) (fun c85 => ?_) (fun c85 => ?_)
        · skip
          refine mx_iconst (0) d_RM_rectangles_92 (by decide +kernel) (by unfold mv_r; omega) ?_
          refine mx_cS7 d_RM_rectangles_93 c_RM_116 (by decide) (Nat.le_of_ble_eq_true rfl) ?_
          have hEk := hlab k k0 (by omega)
          have hprev := hI2 (by omega)
          have hpb := rf_bx_ok hprev (fun j j0 j1 => hok j j0 (by omega))
          refine rf_join0 (by omega) hLin l0 (by omega) (by omega) (by omega) (by omega) (by omega) (by omega) (by omega) hpb (fun M' L' hfr' hLin' hj => ?_)
          have hj2 : rf_jn L L' l (min (rf_l L l) (rf_l B k)) (min (rf_u L l) (rf_u B k)) (max (rf_r L l) (rf_r B k)) (max (rf_d L l) (rf_d B k)) := hj
          have hbx : rf_bx (k + 1) f B (E l) L' l := rf_bx_m k0 hprev (by omega) hj2
          refine mx_iinc d_RM_rectangles_96 rfl (by unfold mv_r; omega) ?_
          refine mx_goto 12 d_RM_rectangles_99 (by decide) ?_
          exact ih (k + 1) M' L' (by omega) (by omega) (by omega) (hfr.trans hfr') hLin' (fun j hj' => by rw [hj.1 j hj', hI1 j hj']) (fun _ => hbx)
        · skip
          refine mx_iconst (1) d_RM_rectangles_88 (by decide +kernel) (by unfold mv_r; omega) ?_
          refine mx_goto 93 d_RM_rectangles_89 (by decide) ?_
          refine mx_cS7 d_RM_rectangles_93 c_RM_116 (by decide) (Nat.le_of_ble_eq_true rfl) ?_
          refine rf_join1 (by omega) hLin l0 (by omega) (by omega) (by omega) (by omega) (by omega) (by omega) (by omega) (fun M' L' hfr' hLin' hj => ?_)
          have hke : k = E l := by omega
          have hj2 : rf_jn L L' l (rf_l B k) (rf_u B k) (rf_r B k) (rf_d B k) := hj
          have hbx : rf_bx (k + 1) f B (E l) L' l := hke ▸ rf_bx_1 k0 (fun j j0 j1 => by have := hlab j j0 (by omega); omega) (by omega) hj2
          refine mx_iinc d_RM_rectangles_96 rfl (by unfold mv_r; omega) ?_
          refine mx_goto 12 d_RM_rectangles_99 (by decide) ?_
          exact ih (k + 1) M' L' (by omega) (by omega) (by omega) (hfr.trans hfr') hLin' (fun j hj' => by rw [hj.1 j hj', hI1 j hj']) (fun _ => hbx)
theorem rf_rc_l {Q : List mv_V → mv_M → Prop} {M0 : mv_M} {co wi ta bo pa wy lc fo tu bl kl se ow : Int} (hO0 : rf_O M0 co wi ta bo pa wy lc fo tu bl kl se ow) {B f E : Int → Int} (hB0 : M0.2 48 = .inl (256, B)) (hf0 : M0.2 50 = .inl (64, f)) (hE0 : M0.2 52 = .inl (64, E)) (hn0 : 0 ≤ bo) (hn : bo ≤ 64) (hok : rf_ok bo B) (hlab : ∀ i, 0 ≤ i → i < bo → 0 ≤ f i ∧ f i ≤ i ∧ f (f i) = f i) (hrt : pu_rts bo f lc E) (hlc : lc ≤ 64) (k : ∀ M' L, bf_fr M0 M' 51 52 → M'.2 51 = .inl (256, L) → (∀ l, 0 ≤ l → l < lc → rf_bx bo f B (E l) L l) → Q [] M') : ∀ (d : Nat) (l : Int) (M : mv_M) (L : Int → Int) (kv : mv_V), lc - l < d → 0 ≤ l → l ≤ lc → bf_fr M0 M 51 52 → M.2 51 = .inl (256, L) → (∀ q, 0 ≤ q → q < l → rf_bx bo f B (E q) L q) → mv_W md_RM_rectangles 2 [.inr 47, .inl l, kv] [] M (0, 0) Q := by
  intro d
  induction d with
  | zero =>
    intro l M L kv hd l0 l1 hfr hLin hI
    exfalso; omega
  | succ d ih =>
    intro l M L kv hd l0 l1 hfr hLin hI
    have hO : rf_O M co wi ta bo pa wy lc fo tu bl kl se ow := by unfold rf_O; rw [hfr 47 (by omega)]; exact hO0
    have hBox : M.2 48 = .inl (256, B) := by rw [hfr 48 (by omega)]; exact hB0
    have hLof : M.2 50 = .inl (64, f) := by rw [hfr 50 (by omega)]; exact hf0
    have hLle : M.2 52 = .inl (64, E) := by rw [hfr 52 (by omega)]; exact hE0
    refine mx_iload_n d_RM_rectangles_2 rfl ?_
    refine mx_aload_n d_RM_rectangles_3 rfl (by omega) ?_
    refine mx_gl d_RM_rectangles_4 f_RM_113 hO rfl ?_
    refine mx_icmp_ge 108 d_RM_rectangles_7 (by decide) (fun c7 => ?_) (fun c7 => ?_)
    · skip
      refine mx_return d_RM_rectangles_108 rfl ?_
      exact k M L hfr hLin (fun q q0 q1 => hI q q0 (by omega))
    · skip
      refine mx_iconst (0) d_RM_rectangles_10 (by decide +kernel) (by unfold mv_r; omega) ?_
      refine mx_istore_n d_RM_rectangles_11 (by decide) ?_
      have hEl := hrt.2.1 l l0 (by omega)
      refine rf_rc_k hO0 hB0 hf0 hE0 hn0 hn hok hlab hrt hlc l0 (by omega) (L0 := L) ?_ (bo.toNat + 1) 0 M L (by omega) (by omega) hn0 hfr hLin (fun j _ => rfl) (fun q => by omega)
      intro M' L' kv' hfr' hLin' hj' hb'
      refine mx_iinc d_RM_rectangles_102 rfl (by unfold mv_r; omega) ?_
      refine mx_goto 2 d_RM_rectangles_105 (by decide) ?_
      exact ih (l + 1) M' L' _ (by omega) (by omega) (by omega) hfr' hLin' (fun q q0 q1 => by
        by_cases hq : q = l
        · rw [hq]; exact hb'
        · exact rf_bx_cg (hI q q0 (by omega)) (fun j j0 j1 => hj' j (by omega)))
theorem rf_rectangles {Q : List mv_V → mv_M → Prop} {M : mv_M} {co wi ta bo pa wy lc fo tu bl kl se ow : Int} (hO0 : rf_O M co wi ta bo pa wy lc fo tu bl kl se ow) {B f E : Int → Int} (hB0 : M.2 48 = .inl (256, B)) (hf0 : M.2 50 = .inl (64, f)) (hE0 : M.2 52 = .inl (64, E)) (hn0 : 0 ≤ bo) (hn : bo ≤ 64) (hok : rf_ok bo B) (hlab : ∀ i, 0 ≤ i → i < bo → 0 ≤ f i ∧ f i ≤ i ∧ f (f i) = f i) (hrt : pu_rts bo f lc E) (hlc : lc ≤ 64) {L0 : Int → Int} (hL0 : M.2 51 = .inl (256, L0)) (hlc0 : 0 ≤ lc) (k : ∀ M' L, bf_fr M M' 51 52 → M'.2 51 = .inl (256, L) → (∀ l, 0 ≤ l → l < lc → rf_bx bo f B (E l) L l) → Q [] M') : mv_J md_RM_rectangles [.inr 47] M Q := by
  refine mv_enter (by decide +kernel) (Nat.le_of_ble_eq_true rfl) ?_
  show mv_W md_RM_rectangles 0 [.inr 47, .inr 0, .inr 0] [] M (0, 0) Q
  refine mx_iconst (0) d_RM_rectangles_0 (by decide +kernel) (by unfold mv_r; omega) ?_
  refine mx_istore_n d_RM_rectangles_1 (by decide) ?_
  exact rf_rc_l hO0 hB0 hf0 hE0 hn0 hn hok hlab hrt hlc k (lc.toNat + 1) 0 M L0 (.inr 0) (by omega) (by omega) hlc0 bf_fr.refl hL0 (fun q q0 q1 => by omega)
