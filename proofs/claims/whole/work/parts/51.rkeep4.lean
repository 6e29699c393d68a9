/-! the reference: keepLines, put together -/
theorem rf_kl_b {Q : List mv_V → mv_M → Prop} {M0 : mv_M} {co wi ta bo pa wy lc fo tu kl se : Int} (hwy : wy = 0 ∨ wy = 1) (w1 : 1 ≤ wi) (w2 : wi ≤ 4096) (t1 : 1 ≤ ta) (t2 : ta ≤ 4096) (hn0 : 0 ≤ bo) (hn : bo ≤ 64) {B N f L E fb P : Int → Int} (hok : rf_ok bo B) (pa0 : 0 ≤ pa) (pa8 : pa ≤ 8) (hpo : rf_ok pa N) (hlc0 : 0 ≤ lc) (hlc : lc ≤ 64) (hokl : rf_ok lc L) (hE : ∀ p, 0 ≤ p → p < lc → 0 ≤ E p ∧ E p < 64) (hEd : ∀ p q, 0 ≤ p → p < lc → 0 ≤ q → q < lc → E p = E q → p = q) (hP : ∀ k, 0 ≤ k → k < bo → 0 ≤ P k ∧ P k < lc ∧ E (P k) = f k) (hlab : ∀ i, 0 ≤ i → i < lc → 0 ≤ fb i ∧ fb i ≤ i ∧ fb (fb i) = fb i) (hBox0 : M0.2 48 = .inl (256, B)) (hPan0 : M0.2 49 = .inl (32, N)) (hLof0 : M0.2 50 = .inl (64, f)) (hLin0 : M0.2 51 = .inl (256, L)) (hLle0 : M0.2 52 = .inl (64, E)) (hBof0 : M0.2 53 = .inl (64, fb)) {v : mv_V} (k : ∀ M' c o RB K S Z KB PR lv, (∀ j, j ≠ 47 → j ≠ 54 → j ≠ 55 → j ≠ 56 → j ≠ 57 → j ≠ 62 → M'.2 j = M0.2 j) → rf_O M' co wi ta bo pa wy lc fo tu c kl se o → M'.2 54 = .inl (256, K) → M'.2 55 = .inl (64, S) → M'.2 56 = .inl (64, Z) → M'.2 57 = .inr (5000 + 64, PR) → M'.2 62 = .inl (64, KB) → rf_BK bo lc wi ta pa wy B N L E fb P c RB K S Z KB PR lc → mv_W md_RM_keepLines 164 [.inr 47, lv, v] [] M' (0, 0) Q) : ∀ (d : Nat) (l : Int) (M : mv_M) (c o : Int) (RB K S Z KB : Int → Int) (PR : Nat → mv_V), lc - l < d → 0 ≤ l → l ≤ lc → (∀ j, j ≠ 47 → j ≠ 54 → j ≠ 55 → j ≠ 56 → j ≠ 57 → j ≠ 62 → M.2 j = M0.2 j) → rf_O M co wi ta bo pa wy lc fo tu c kl se o → M.2 54 = .inl (256, K) → M.2 55 = .inl (64, S) → M.2 56 = .inl (64, Z) → M.2 57 = .inr (5000 + 64, PR) → M.2 62 = .inl (64, KB) → rf_BK bo lc wi ta pa wy B N L E fb P c RB K S Z KB PR l → mv_W md_RM_keepLines 135 [.inr 47, .inl l, v] [] M (0, 0) Q := by
  intro d
  induction d with
  | zero =>
    intro l M c o RB K S Z KB PR hd l0 l1 hfr hO hBlk hBle hPts hPri hKbl hI
    exfalso; omega
  | succ d ih =>
    intro l M c o RB K S Z KB PR hd l0 l1 hfr hO hBlk hBle hPts hPri hKbl hI
    have hBox : M.2 48 = .inl (256, B) := by rw [hfr 48 (by omega) (by omega) (by omega) (by omega) (by omega) (by omega)]; exact hBox0
    have hPan : M.2 49 = .inl (32, N) := by rw [hfr 49 (by omega) (by omega) (by omega) (by omega) (by omega) (by omega)]; exact hPan0
    have hLof : M.2 50 = .inl (64, f) := by rw [hfr 50 (by omega) (by omega) (by omega) (by omega) (by omega) (by omega)]; exact hLof0
    have hLin : M.2 51 = .inl (256, L) := by rw [hfr 51 (by omega) (by omega) (by omega) (by omega) (by omega) (by omega)]; exact hLin0
    have hLle : M.2 52 = .inl (64, E) := by rw [hfr 52 (by omega) (by omega) (by omega) (by omega) (by omega) (by omega)]; exact hLle0
    have hBof : M.2 53 = .inl (64, fb) := by rw [hfr 53 (by omega) (by omega) (by omega) (by omega) (by omega) (by omega)]; exact hBof0
    refine mx_iload_n d_RM_keepLines_135 rfl ?_
    refine mx_aload_n d_RM_keepLines_136 rfl (by omega) ?_
    refine mx_gl d_RM_keepLines_137 f_RM_113 hO rfl ?_
    refine mx_icmp_ge 164 d_RM_keepLines_140 (by decide) (fun c140 => ?_) (fun c140 => ?_)
    · skip
      exact k M c o RB K S Z KB PR _ hfr hO hBlk hBle hPts hPri hKbl ((show l = lc by omega) ▸ hI)
    · skip
      refine mx_aload_n d_RM_keepLines_143 rfl (by omega) ?_
      refine mx_gl d_RM_keepLines_144 f_RM_25 hO rfl ?_
      refine mx_iload_n d_RM_keepLines_147 rfl ?_
      refine mx_iald d_RM_keepLines_148 hBof (by omega) (by omega) ?_
      refine mx_iload_n d_RM_keepLines_149 rfl ?_
      refine mx_icmp_ne 158 d_RM_keepLines_150 (by decide) (fun c150 => ?_) (fun c150 => ?_)
      · skip
        refine mx_iinc d_RM_keepLines_158 rfl (by unfold mv_r; omega) ?_
        refine mx_goto 135 d_RM_keepLines_161 (by decide) ?_
        first | exact ih (l + 1) M' (c + 1) o' _ K' S' _ KB' _ (by omega) (by omega) (by omega) (fun j a b c e f g => by rw [hfr' j a b c e f g]; exact hfr j a b c e f g) hO' hBlk' hBle' hPts' hPri' hKbl' hnew | exact ih (l + 1) M c o RB K S Z KB PR (by omega) (by omega) (by omega) hfr hO hBlk hBle hPts hPri hKbl (rf_BK_n hI l0 (by omega) hlab)
      · skip
        refine mx_aload_n d_RM_keepLines_153 rfl (by omega) ?_
        refine mx_iload_n d_RM_keepLines_154 rfl ?_
        refine mx_cV1 d_RM_keepLines_155 c_RM_132 hO (by decide) (Nat.le_of_ble_eq_true rfl) ?_
        have hcc := pu_cnt_le (fun m => decide (fb m = m)) l.toNat
        rw [← hI.1.1] at hcc
        refine rf_keepBlock hO hwy w1 w2 t1 t2 hn0 hn hok pa0 pa8 hpo hlc0 hlc hokl hE hEd hP hlab hBox hPan hLof hLin hLle hBof hBlk hBle hPts hPri hKbl l0 (by omega) (by omega) (by omega) (by omega) (fun M' K' S' KB' z v' o' hi lo hfr' hO' hBlk' hBle' hPts' hPri' hKbl' j1 j2 j3 j4 j5 j6 ho hz hh hv => ?_)
        have hnew := rf_BK_y hI l0 (by omega) (by omega) j1 j2 j3 j4 j5 j6 ho hz hh hv
        refine mx_iinc d_RM_keepLines_158 rfl (by unfold mv_r; omega) ?_
        refine mx_goto 135 d_RM_keepLines_161 (by decide) ?_
        first | exact ih (l + 1) M' (c + 1) o' _ K' S' _ KB' _ (by omega) (by omega) (by omega) (fun j a b c e f g => by rw [hfr' j a b c e f g]; exact hfr j a b c e f g) hO' hBlk' hBle' hPts' hPri' hKbl' hnew | exact ih (l + 1) M c o RB K S Z KB PR (by omega) (by omega) (by omega) hfr hO hBlk hBle hPts hPri hKbl (rf_BK_n hI l0 (by omega) hlab)
theorem rf_keepLines {Q : List mv_V → mv_M → Prop} {M : mv_M} {co wi ta bo pa wy lc fo tu bl kl se ow : Int} (hO : rf_O M co wi ta bo pa wy lc fo tu bl kl se ow) (hwy : wy = 0 ∨ wy = 1) (w1 : 1 ≤ wi) (w2 : wi ≤ 4096) (t1 : 1 ≤ ta) (t2 : ta ≤ 4096) (hn0 : 0 ≤ bo) (hn : bo ≤ 64) {B N f L E fb P : Int → Int} (hok : rf_ok bo B) (pa0 : 0 ≤ pa) (pa8 : pa ≤ 8) (hpo : rf_ok pa N) (hlc0 : 0 ≤ lc) (hlc : lc ≤ 64) (hokl : rf_ok lc L) (hE : ∀ p, 0 ≤ p → p < lc → 0 ≤ E p ∧ E p < 64) (hEd : ∀ p q, 0 ≤ p → p < lc → 0 ≤ q → q < lc → E p = E q → p = q) (hP : ∀ k, 0 ≤ k → k < bo → 0 ≤ P k ∧ P k < lc ∧ E (P k) = f k) (hlab : ∀ i, 0 ≤ i → i < lc → 0 ≤ fb i ∧ fb i ≤ i ∧ fb (fb i) = fb i) (hBox : M.2 48 = .inl (256, B)) (hPan : M.2 49 = .inl (32, N)) (hLof : M.2 50 = .inl (64, f)) (hLin : M.2 51 = .inl (256, L)) (hLle : M.2 52 = .inl (64, E)) (hBof : M.2 53 = .inl (64, fb)) {K0 S0 Z0 X0 XL0 XB0 KB0 IB0 : Int → Int} {PR0 : Nat → mv_V} (hBlk : M.2 54 = .inl (256, K0)) (hBle : M.2 55 = .inl (64, S0)) (hPts : M.2 56 = .inl (64, Z0)) (hPri : M.2 57 = .inr (5000 + 64, PR0)) (hKep : M.2 59 = .inl (256, X0)) (hKle : M.2 60 = .inl (64, XL0)) (hKbo : M.2 61 = .inl (64, XB0)) (hKbl : M.2 62 = .inl (64, KB0)) (hInb : M.2 63 = .inl (64, IB0)) (k : ∀ M' X XL XB c o RB K S Z KB PR IB, (∀ j, (j < 47 ∨ 64 ≤ j ∨ (48 ≤ j ∧ j ≤ 53) ∨ j = 58) → M'.2 j = M.2 j) → rf_O M' co wi ta bo pa wy lc fo tu c lc bo o → M'.2 54 = .inl (256, K) → M'.2 55 = .inl (64, S) → M'.2 56 = .inl (64, Z) → M'.2 57 = .inr (5000 + 64, PR) → M'.2 62 = .inl (64, KB) → M'.2 59 = .inl (256, X) → M'.2 60 = .inl (64, XL) → M'.2 61 = .inl (64, XB) → M'.2 63 = .inl (64, IB) → (∀ j, 0 ≤ j → j < 4 * lc → X j = L j) → (∀ q, 0 ≤ q → q < lc → XL q = E q) → (∀ q, 0 ≤ q → q < lc → XB q = pu_cnt (fun k => decide (f k = E q)) bo.toNat) → rf_BK bo lc wi ta pa wy B N L E fb P c RB K S Z KB PR lc → (∀ q, 0 ≤ q → q < bo → IB q = KB (P q)) → Q [] M') : mv_J md_RM_keepLines [.inr 47] M Q := by
  refine mv_enter (by decide +kernel) (Nat.le_of_ble_eq_true rfl) ?_
  show mv_W md_RM_keepLines 0 [.inr 47, .inr 0, .inr 0] [] M (0, 0) Q
  refine mx_aload_n d_RM_keepLines_0 rfl (by omega) ?_
  refine mx_aload_n d_RM_keepLines_1 rfl (by omega) ?_
  refine mx_gl d_RM_keepLines_2 f_RM_113 hO rfl ?_
  refine mx_pl d_RM_keepLines_5 g_RM_126 hO (mv_Vi _) (Nat.le_of_ble_eq_true rfl) ?_
  refine mx_iconst (0) d_RM_keepLines_8 (by decide +kernel) (by unfold mv_r; omega) ?_
  refine mx_istore_n d_RM_keepLines_9 (by decide) ?_
  have hO1 : rf_O (mv_p M 47 (.inr (ki_RM, mv_l [.inl co, .inl wi, .inl ta, .inl bo, .inr 48, .inl pa, .inr 49, .inl wy, .inr 50, .inl lc, .inr 51, .inr 52, .inr 53, .inl fo, .inl tu, .inl bl, .inr 54, .inr 55, .inr 56, .inr 57, .inr 58, .inl lc, .inr 59, .inr 60, .inr 61, .inr 62, .inl se, .inr 63, .inl ow]))) co wi ta bo pa wy lc fo tu bl lc se ow := mv_ps
  have e1 : ∀ j, j ≠ 47 → (mv_p M 47 (.inr (ki_RM, mv_l [.inl co, .inl wi, .inl ta, .inl bo, .inr 48, .inl pa, .inr 49, .inl wy, .inr 50, .inl lc, .inr 51, .inr 52, .inr 53, .inl fo, .inl tu, .inl bl, .inr 54, .inr 55, .inr 56, .inr 57, .inr 58, .inl lc, .inr 59, .inr 60, .inr 61, .inr 62, .inl se, .inr 63, .inl ow]))).2 j = M.2 j := fun j hj => mv_pn hj
  show mv_W md_RM_keepLines 10 [.inr 47, .inl 0, .inr 0] [] (mv_p M 47 (.inr (ki_RM, mv_l [.inl co, .inl wi, .inl ta, .inl bo, .inr 48, .inl pa, .inr 49, .inl wy, .inr 50, .inl lc, .inr 51, .inr 52, .inr 53, .inl fo, .inl tu, .inl bl, .inr 54, .inr 55, .inr 56, .inr 57, .inr 58, .inl lc, .inr 59, .inr 60, .inr 61, .inr 62, .inl se, .inr 63, .inl ow]))) (0, 0) Q
  generalize mv_p M 47 _ = M1 at hO1 e1 ⊢
  refine rf_kl_l hO1 hn0 hn hlc0 hlc (by rw [e1 50 (by omega)]; exact hLof) (by rw [e1 51 (by omega)]; exact hLin) (by rw [e1 52 (by omega)]; exact hLle) ?_ (lc.toNat + 1) 0 M1 X0 XL0 XB0 KB0 (.inr 0) (by omega) (by omega) hlc0 bf_fr.refl (by rw [e1 59 (by omega)]; exact hKep) (by rw [e1 60 (by omega)]; exact hKle) (by rw [e1 61 (by omega)]; exact hKbo) (by rw [e1 62 (by omega)]; exact hKbl) (fun j _ _ => by omega) (fun q _ _ => by omega) (fun q _ _ => by omega)
  intro M2 X XL XB KB2 lv2 sv2 hfr2 hKep2 hKle2 hKbo2 hKbl2 c1 c2 c3
  have hO2 : rf_O M2 co wi ta bo pa wy lc fo tu bl lc se ow := by unfold rf_O; rw [hfr2 47 (by omega)]; exact hO1
  have e2 : ∀ j, (j < 47 ∨ 64 ≤ j ∨ (48 ≤ j ∧ j ≤ 58) ∨ j = 63) → M2.2 j = M.2 j := fun j hj => by rw [hfr2 j (by omega), e1 j (by omega)]
  refine mx_aload_n d_RM_keepLines_128 rfl (by omega) ?_
  refine mx_iconst (0) d_RM_keepLines_129 (by decide +kernel) (by unfold mv_r; omega) ?_
  refine mx_pl d_RM_keepLines_130 g_RM_129 hO2 (mv_Vi _) (Nat.le_of_ble_eq_true rfl) ?_
  refine mx_iconst (0) d_RM_keepLines_133 (by decide +kernel) (by unfold mv_r; omega) ?_
  refine mx_istore_n d_RM_keepLines_134 (by decide) ?_
  have hO3 : rf_O (mv_p M2 47 (.inr (ki_RM, mv_l [.inl co, .inl wi, .inl ta, .inl bo, .inr 48, .inl pa, .inr 49, .inl wy, .inr 50, .inl lc, .inr 51, .inr 52, .inr 53, .inl fo, .inl tu, .inl 0, .inr 54, .inr 55, .inr 56, .inr 57, .inr 58, .inl lc, .inr 59, .inr 60, .inr 61, .inr 62, .inl se, .inr 63, .inl ow]))) co wi ta bo pa wy lc fo tu 0 lc se ow := mv_ps
  have e3 : ∀ j, j ≠ 47 → (mv_p M2 47 (.inr (ki_RM, mv_l [.inl co, .inl wi, .inl ta, .inl bo, .inr 48, .inl pa, .inr 49, .inl wy, .inr 50, .inl lc, .inr 51, .inr 52, .inr 53, .inl fo, .inl tu, .inl 0, .inr 54, .inr 55, .inr 56, .inr 57, .inr 58, .inl lc, .inr 59, .inr 60, .inr 61, .inr 62, .inl se, .inr 63, .inl ow]))).2 j = M2.2 j := fun j hj => mv_pn hj
  show mv_W md_RM_keepLines 135 [.inr 47, .inl 0, sv2] [] (mv_p M2 47 (.inr (ki_RM, mv_l [.inl co, .inl wi, .inl ta, .inl bo, .inr 48, .inl pa, .inr 49, .inl wy, .inr 50, .inl lc, .inr 51, .inr 52, .inr 53, .inl fo, .inl tu, .inl 0, .inr 54, .inr 55, .inr 56, .inr 57, .inr 58, .inl lc, .inr 59, .inr 60, .inr 61, .inr 62, .inl se, .inr 63, .inl ow]))) (0, 0) Q
  generalize mv_p M2 47 _ = M3 at hO3 e3 ⊢
  refine rf_kl_b (M0 := M3) hwy w1 w2 t1 t2 hn0 hn hok pa0 pa8 hpo hlc0 hlc hokl hE hEd hP hlab (by rw [e3 48 (by omega), e2 48 (by omega)]; exact hBox) (by rw [e3 49 (by omega), e2 49 (by omega)]; exact hPan) (by rw [e3 50 (by omega), e2 50 (by omega)]; exact hLof) (by rw [e3 51 (by omega), e2 51 (by omega)]; exact hLin) (by rw [e3 52 (by omega), e2 52 (by omega)]; exact hLle) (by rw [e3 53 (by omega), e2 53 (by omega)]; exact hBof) ?_ (lc.toNat + 1) 0 M3 0 ow K0 K0 S0 Z0 KB2 PR0 (by omega) (by omega) hlc0 (fun j _ _ _ _ _ _ => rfl) hO3 (by rw [e3 54 (by omega), e2 54 (by omega)]; exact hBlk) (by rw [e3 55 (by omega), e2 55 (by omega)]; exact hBle) (by rw [e3 56 (by omega), e2 56 (by omega)]; exact hPts) (by rw [e3 57 (by omega), e2 57 (by omega)]; exact hPri) (by rw [e3 62 (by omega)]; exact hKbl2) ⟨pu_rts0, fun q q0 q1 hq => by have := hlab q q0 q1; omega, fun b b0 b1 => by omega⟩
  intro M4 c o RB K S Z KB PR lv4 hfr4 hO4 g1 g2 g3 g4 g5 hBK
  refine mx_aload_n d_RM_keepLines_164 rfl (by omega) ?_
  refine mx_aload_n d_RM_keepLines_165 rfl (by omega) ?_
  refine mx_gl d_RM_keepLines_166 f_RM_73 hO4 rfl ?_
  refine mx_pl d_RM_keepLines_169 g_RM_136 hO4 (mv_Vi _) (Nat.le_of_ble_eq_true rfl) ?_
  refine mx_iconst (0) d_RM_keepLines_172 (by decide +kernel) (by unfold mv_r; omega) ?_
  refine mx_istore_n d_RM_keepLines_173 (by decide) ?_
  have hO5 : rf_O (mv_p M4 47 (.inr (ki_RM, mv_l [.inl co, .inl wi, .inl ta, .inl bo, .inr 48, .inl pa, .inr 49, .inl wy, .inr 50, .inl lc, .inr 51, .inr 52, .inr 53, .inl fo, .inl tu, .inl c, .inr 54, .inr 55, .inr 56, .inr 57, .inr 58, .inl lc, .inr 59, .inr 60, .inr 61, .inr 62, .inl bo, .inr 63, .inl o]))) co wi ta bo pa wy lc fo tu c lc bo o := mv_ps
  have e5 : ∀ j, j ≠ 47 → (mv_p M4 47 (.inr (ki_RM, mv_l [.inl co, .inl wi, .inl ta, .inl bo, .inr 48, .inl pa, .inr 49, .inl wy, .inr 50, .inl lc, .inr 51, .inr 52, .inr 53, .inl fo, .inl tu, .inl c, .inr 54, .inr 55, .inr 56, .inr 57, .inr 58, .inl lc, .inr 59, .inr 60, .inr 61, .inr 62, .inl bo, .inr 63, .inl o]))).2 j = M4.2 j := fun j hj => mv_pn hj
  show mv_W md_RM_keepLines 174 [.inr 47, .inl 0, sv2] [] (mv_p M4 47 (.inr (ki_RM, mv_l [.inl co, .inl wi, .inl ta, .inl bo, .inr 48, .inl pa, .inr 49, .inl wy, .inr 50, .inl lc, .inr 51, .inr 52, .inr 53, .inl fo, .inl tu, .inl c, .inr 54, .inr 55, .inr 56, .inr 57, .inr 58, .inl lc, .inr 59, .inr 60, .inr 61, .inr 62, .inl bo, .inr 63, .inl o]))) (0, 0) Q
  generalize mv_p M4 47 _ = M5 at hO5 e5 ⊢
  refine rf_kl_i hO5 hn0 hn hlc (by rw [e5 50 (by omega), hfr4 50 (by omega) (by omega) (by omega) (by omega) (by omega) (by omega), e3 50 (by omega), e2 50 (by omega)]; exact hLof) (by rw [e5 52 (by omega), hfr4 52 (by omega) (by omega) (by omega) (by omega) (by omega) (by omega), e3 52 (by omega), e2 52 (by omega)]; exact hLle) (by rw [e5 62 (by omega)]; exact g5) hEd hP ?_ (bo.toNat + 1) 0 M5 IB0 (by omega) (by omega) hn0 bf_fr.refl (by rw [e5 63 (by omega), hfr4 63 (by omega) (by omega) (by omega) (by omega) (by omega) (by omega), e3 63 (by omega), e2 63 (by omega)]; exact hInb) (fun j _ _ => by omega)
  intro M6 IB hfr6 hInb6 hib
  exact k M6 X XL XB c o RB K S Z KB PR IB (fun j hj => by rw [hfr6 j (by omega), e5 j (by omega), hfr4 j (by omega) (by omega) (by omega) (by omega) (by omega) (by omega), e3 j (by omega), e2 j (by omega)]) (by unfold rf_O; rw [hfr6 47 (by omega)]; exact hO5) (by rw [hfr6 54 (by omega), e5 54 (by omega)]; exact g1) (by rw [hfr6 55 (by omega), e5 55 (by omega)]; exact g2) (by rw [hfr6 56 (by omega), e5 56 (by omega)]; exact g3) (by rw [hfr6 57 (by omega), e5 57 (by omega)]; exact g4) (by rw [hfr6 62 (by omega), e5 62 (by omega)]; exact g5) (by rw [hfr6 59 (by omega), e5 59 (by omega), hfr4 59 (by omega) (by omega) (by omega) (by omega) (by omega) (by omega), e3 59 (by omega)]; exact hKep2) (by rw [hfr6 60 (by omega), e5 60 (by omega), hfr4 60 (by omega) (by omega) (by omega) (by omega) (by omega) (by omega), e3 60 (by omega)]; exact hKle2) (by rw [hfr6 61 (by omega), e5 61 (by omega), hfr4 61 (by omega) (by omega) (by omega) (by omega) (by omega) (by omega), e3 61 (by omega)]; exact hKbo2) hInb6 c1 c2 c3 hBK hib
