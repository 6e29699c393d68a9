/-! the reference: blocks and lines kept -/
theorem rf_keepBlock {Q : List mv_V → mv_M → Prop} {M : mv_M} {co wi ta bo pa wy lc fo tu bl kl se ow : Int} (hO : rf_O M co wi ta bo pa wy lc fo tu bl kl se ow) (hwy : wy = 0 ∨ wy = 1) (w1 : 1 ≤ wi) (w2 : wi ≤ 4096) (t1 : 1 ≤ ta) (t2 : ta ≤ 4096) (hn0 : 0 ≤ bo) (hn : bo ≤ 64) {B N f L E fb P : Int → Int} (hok : rf_ok bo B) (pa0 : 0 ≤ pa) (pa8 : pa ≤ 8) (hpo : rf_ok pa N) (hlc0 : 0 ≤ lc) (hlc : lc ≤ 64) (hokl : rf_ok lc L) (hE : ∀ p, 0 ≤ p → p < lc → 0 ≤ E p ∧ E p < 64) (hEd : ∀ p q, 0 ≤ p → p < lc → 0 ≤ q → q < lc → E p = E q → p = q) (hP : ∀ k, 0 ≤ k → k < bo → 0 ≤ P k ∧ P k < lc ∧ E (P k) = f k) (hlab : ∀ i, 0 ≤ i → i < lc → 0 ≤ fb i ∧ fb i ≤ i ∧ fb (fb i) = fb i) (hBox : M.2 48 = .inl (256, B)) (hPan : M.2 49 = .inl (32, N)) (hLof : M.2 50 = .inl (64, f)) (hLin : M.2 51 = .inl (256, L)) (hLle : M.2 52 = .inl (64, E)) (hBof : M.2 53 = .inl (64, fb)) {K0 S0 Z0 KB0 : Int → Int} {PR : Nat → mv_V} (hBlk : M.2 54 = .inl (256, K0)) (hBle : M.2 55 = .inl (64, S0)) (hPts : M.2 56 = .inl (64, Z0)) (hPri : M.2 57 = .inr (5000 + 64, PR)) (hKbl : M.2 62 = .inl (64, KB0)) {fi : Int} (fi0 : 0 ≤ fi) (fi1 : fi < lc) (hfi : fb fi = fi) (c0 : 0 ≤ bl) (c1 : bl < 64) (k : ∀ M' K S KB z v o hi lo, (∀ j, j ≠ 47 → j ≠ 54 → j ≠ 55 → j ≠ 56 → j ≠ 57 → j ≠ 62 → M'.2 j = M.2 j) → rf_O M' co wi ta bo pa wy lc fo tu (bl + 1) kl se o → M'.2 54 = .inl (256, K) → M'.2 55 = .inl (64, S) → M'.2 56 = .inl (64, mv_s Z0 bl z) → M'.2 57 = .inr (5000 + 64, mv_u PR bl.toNat (.inl v)) → M'.2 62 = .inl (64, KB) → (∀ j, (j < 4 * bl ∨ 4 * bl + 4 ≤ j) → K j = K0 j) → (∀ q, q ≠ bl → S q = S0 q) → (∀ q, 0 ≤ q → q < lc → fb q = fi → KB q = bl) → (∀ q, 0 ≤ q → q < lc → fb q ≠ fi → KB q = KB0 q) → rf_bx lc fb L fi K bl → pu_min lc fb fi E (S bl) → o = pu_cnt (fun q => decide (fb q = fi)) lc.toNat → bf_pts wi ta pa (rf_l N) (rf_u N) (rf_r N) (rf_d N) (rf_l K) (rf_u K) (rf_r K) (rf_d K) (fun _ => o) bl z → pu_hl bo (fun j => fb (P j)) (fun j => bf_o wy (rf_d B) (rf_r B) j - bf_o wy (rf_u B) (rf_l B) j) fi hi lo → ((v = 1 ∧ 4 * (hi - lo) ≤ hi) ∨ (v = 0 ∧ ¬ 4 * (hi - lo) ≤ hi)) → Q [] M') : mv_J md_RM_keepBlock [.inr 47, .inl fi] M Q := by
  refine mv_enter (by decide +kernel) (Nat.le_of_ble_eq_true rfl) ?_
  show mv_W md_RM_keepBlock 0 [.inr 47, .inl fi, .inr 0, .inr 0, .inr 0, .inr 0] [] M (0, 0) Q
  refine mx_aload_n d_RM_keepBlock_0 rfl (by omega) ?_
  refine mx_gl d_RM_keepBlock_1 f_RM_129 hO rfl ?_
  refine mx_istore_n d_RM_keepBlock_4 (by decide) ?_
  refine mx_aload_n d_RM_keepBlock_5 rfl (by omega) ?_
  refine mx_dup d_RM_keepBlock_6 ?_
  refine mx_gl d_RM_keepBlock_7 f_RM_129 hO rfl ?_
  refine mx_iconst (1) d_RM_keepBlock_10 (by decide +kernel) (by unfold mv_r; omega) ?_
  refine mx_iadd d_RM_keepBlock_11 (by unfold mv_r; omega) ?_
  refine mx_pl d_RM_keepBlock_12 g_RM_129 hO (mv_Vi _) (Nat.le_of_ble_eq_true rfl) ?_
  refine mx_aload_n d_RM_keepBlock_15 rfl (by omega) ?_
  refine mx_gl d_RM_keepBlock_16 f_RM_31 (by rw [mv_ps]) rfl ?_
  refine mx_iload_n d_RM_keepBlock_19 rfl ?_
  refine mx_bipush (64) d_RM_keepBlock_20 (by decide +kernel) (by unfold mv_r; omega) ?_
  refine mx_iast d_RM_keepBlock_22 (by rw [mv_pn (by omega)]; exact hBle) (by omega) (by omega) (by omega) ?_
  refine mx_iload_n d_RM_keepBlock_23 rfl ?_
  refine mx_istore_n d_RM_keepBlock_24 (by decide) ?_
  have hO1 : rf_O (mv_p (mv_p M 47 (.inr (ki_RM, mv_l [.inl co, .inl wi, .inl ta, .inl bo, .inr 48, .inl pa, .inr 49, .inl wy, .inr 50, .inl lc, .inr 51, .inr 52, .inr 53, .inl fo, .inl tu, .inl (bl + 1), .inr 54, .inr 55, .inr 56, .inr 57, .inr 58, .inl kl, .inr 59, .inr 60, .inr 61, .inr 62, .inl se, .inr 63, .inl ow]))) 55 (.inl (64, mv_s S0 bl 64))) co wi ta bo pa wy lc fo tu (bl + 1) kl se ow := by unfold rf_O; rw [mv_pn (by omega), mv_ps]
  refine rf_kb1 hO1 (by rw [mv_pn (by omega), mv_pn (by omega)]; exact hLin) (by rw [mv_pn (by omega), mv_pn (by omega)]; exact hLle) (by rw [mv_pn (by omega), mv_pn (by omega)]; exact hBof) hlc hokl hE hlab fi0 fi1 hfi c0 c1 (K0 := K0) (S0 := S0) (KB0 := KB0) ?_ (lc.toNat + 1) fi _ K0 (mv_s S0 bl 64) KB0 (by omega) (by omega) (by omega) (fun j j1 j2 j3 => rfl) (by rw [mv_pn (by omega), mv_pn (by omega)]; exact hBlk) mv_ps (by rw [mv_pn (by omega), mv_pn (by omega)]; exact hKbl) (fun j _ => rfl) (fun q hq => mv_sn hq) (fun q q0 q1 => by omega) (fun q _ => rfl) (fun h => by omega) (fun _ => mv_ss)
  intro M2 K S KB l2 hfr2 hBlk2 hBle2 hKbl2 j1 j2 j3 j4 j5 j6
  have hfr2' : ∀ j, j ≠ 47 → j ≠ 54 → j ≠ 55 → j ≠ 62 → M2.2 j = M.2 j := fun j a b c e => by rw [hfr2 j b c e, mv_pn c, mv_pn a]
  have hO2 : rf_O M2 co wi ta bo pa wy lc fo tu (bl + 1) kl se ow := by unfold rf_O; rw [hfr2 47 (by omega) (by omega) (by omega)]; exact hO1
  refine mx_aload_n d_RM_keepBlock_133 rfl (by omega) ?_
  refine mx_iconst (0) d_RM_keepBlock_134 (by decide +kernel) (by unfold mv_r; omega) ?_
  refine mx_pl d_RM_keepBlock_135 g_RM_142 hO2 (mv_Vi _) (Nat.le_of_ble_eq_true rfl) ?_
  refine mx_iload_n d_RM_keepBlock_138 rfl ?_
  refine mx_istore_n d_RM_keepBlock_139 (by decide) ?_
  refine rf_kb2 (M0 := M2) (by rw [hfr2' 53 (by omega) (by omega) (by omega) (by omega)]; exact hBof) hlc fi0 ?_ (lc.toNat + 1) fi _ 0 (by omega) (by omega) (by omega) (fun j hj => mv_pn (by omega)) mv_ps (by rw [pu_cnt_0 (fun j j0 j1 => by have := hlab j j0 (by omega); simp only [decide_eq_false_iff_not]; omega)])
  intro M3 l3 o hfr3 hO3 ho3
  have e3 : ∀ j, j ≠ 47 → M3.2 j = M2.2 j := fun j hj => hfr3 j (by omega)
  have hBlk3 : M3.2 54 = .inl (256, K) := by rw [e3 54 (by omega)]; exact hBlk2
  have hPan3 : M3.2 49 = .inl (32, N) := by rw [e3 49 (by omega), hfr2' 49 (by omega) (by omega) (by omega) (by omega)]; exact hPan
  have hPts3 : M3.2 56 = .inl (64, Z0) := by rw [e3 56 (by omega), hfr2' 56 (by omega) (by omega) (by omega) (by omega)]; exact hPts
  have hbb := rf_bx_ok j5 hokl
  refine mx_aload_n d_RM_keepBlock_178 rfl (by omega) ?_
  refine mx_gl d_RM_keepBlock_179 f_RM_34 hO3 rfl ?_
  refine mx_iload_n d_RM_keepBlock_182 rfl ?_
  refine mx_aload_n d_RM_keepBlock_183 rfl (by omega) ?_
  refine mx_iload_n d_RM_keepBlock_184 rfl ?_
  refine mx_cV1 d_RM_keepBlock_185 c_RM_145 hO3 (by decide) (Nat.le_of_ble_eq_true rfl) ?_
  refine rf_pointsOf hO3 hPan3 hBlk3 pa0 pa8 hpo c0 c1 hbb w1 w2 t1 t2 (fun z hz => ?_)
  refine mx_iast d_RM_keepBlock_188 hPts3 (by omega) (by omega) (by omega) ?_
  refine mx_iconst (0) d_RM_keepBlock_189 (by decide +kernel) (by unfold mv_r; omega) ?_
  refine mx_istore_n d_RM_keepBlock_190 (by decide) ?_
  refine mx_sipush (4097) d_RM_keepBlock_191 (by decide +kernel) (by unfold mv_r; omega) ?_
  refine mx_istore d_RM_keepBlock_194 (by decide) ?_
  refine mx_iconst (0) d_RM_keepBlock_196 (by decide +kernel) (by unfold mv_r; omega) ?_
  refine mx_istore d_RM_keepBlock_197 (by decide) ?_
  have hO4 : rf_O (mv_p M3 56 (.inl (64, mv_s Z0 bl z))) co wi ta bo pa wy lc fo tu (bl + 1) kl se o := by unfold rf_O; rw [mv_pn (by omega)]; exact hO3
  refine rf_kb3 hO4 hwy (by rw [mv_pn (by omega), e3 48 (by omega), hfr2' 48 (by omega) (by omega) (by omega) (by omega)]; exact hBox) (by rw [mv_pn (by omega), e3 50 (by omega), hfr2' 50 (by omega) (by omega) (by omega) (by omega)]; exact hLof) (by rw [mv_pn (by omega), e3 52 (by omega), hfr2' 52 (by omega) (by omega) (by omega) (by omega)]; exact hLle) (by rw [mv_pn (by omega), e3 53 (by omega), hfr2' 53 (by omega) (by omega) (by omega) (by omega)]; exact hBof) hn0 hn hok hlc hP hEd (by rw [mv_pn (by omega), e3 57 (by omega), hfr2' 57 (by omega) (by omega) (by omega) (by omega)]; exact hPri) c0 c1 ?_ (bo.toNat + 1) 0 0 4097 (by omega) (by omega) hn0 pu_hl0
  intro M5 v hi lo hfr5 hPri5 hl5 hv5
  exact k M5 K S KB z v o hi lo (fun j a b c e f g => by rw [hfr5 j (by omega), mv_pn (by omega), e3 j a, hfr2' j a b c g]) (by unfold rf_O; rw [hfr5 47 (by omega)]; exact hO4) (by rw [hfr5 54 (by omega), mv_pn (by omega)]; exact hBlk3) (by rw [hfr5 55 (by omega), mv_pn (by omega), e3 55 (by omega)]; exact hBle2) (by rw [hfr5 56 (by omega), mv_ps]) hPri5 (by rw [hfr5 62 (by omega), mv_pn (by omega), e3 62 (by omega)]; exact hKbl2) j1 j2 j3 j4 j5 j6 ho3 hz hl5 hv5
