/-! the reference: keepLines -/
theorem rf_pts_cg {wi ta pa o b r : Int} {N K K' : Int → Int} (h : bf_pts wi ta pa (rf_l N) (rf_u N) (rf_r N) (rf_d N) (rf_l K) (rf_u K) (rf_r K) (rf_d K) (fun _ => o) b r) (e : ∀ j, 4 * b ≤ j → j < 4 * b + 4 → K' j = K j) : bf_pts wi ta pa (rf_l N) (rf_u N) (rf_r N) (rf_d N) (rf_l K') (rf_u K') (rf_r K') (rf_d K') (fun _ => o) b r := by
  have e1 : rf_l K' b = rf_l K b := e _ (by omega) (by omega)
  have e2 : rf_u K' b = rf_u K b := e _ (by omega) (by omega)
  have e3 : rf_r K' b = rf_r K b := by unfold rf_r; rw [e _ (by omega) (by omega), e _ (by omega) (by omega)]
  have e4 : rf_d K' b = rf_d K b := by unfold rf_d; rw [e _ (by omega) (by omega), e _ (by omega) (by omega)]
  unfold bf_pts bf_inp bf_enc bf_stamp bf_sender at h ⊢
  simp only [e1, e2, e3, e4]
  exact h
/-- the blocks whose first lines are below l -/
def rf_BK (bo lc wi ta pa wy : Int) (B N L E fb P : Int → Int) (c : Int) (RB K S Z KB : Int → Int) (PR : Nat → mv_V) (l : Int) : Prop := pu_rts l fb c RB ∧ (∀ q, 0 ≤ q → q < lc → fb q < l → 0 ≤ KB q ∧ KB q < c ∧ RB (KB q) = fb q) ∧ ∀ b, 0 ≤ b → b < c → rf_bx lc fb L (RB b) K b ∧ pu_min lc fb (RB b) E (S b) ∧ bf_pts wi ta pa (rf_l N) (rf_u N) (rf_r N) (rf_d N) (rf_l K) (rf_u K) (rf_r K) (rf_d K) (fun _ => pu_cnt (fun q => decide (fb q = RB b)) lc.toNat) b (Z b) ∧ ∃ v hi lo, PR b.toNat = .inl v ∧ pu_hl bo (fun j => fb (P j)) (fun j => bf_o wy (rf_d B) (rf_r B) j - bf_o wy (rf_u B) (rf_l B) j) (RB b) hi lo ∧ ((v = 1 ∧ 4 * (hi - lo) ≤ hi) ∨ (v = 0 ∧ ¬ 4 * (hi - lo) ≤ hi))
theorem rf_BK_y {bo lc wi ta pa wy : Int} {B N L E fb P : Int → Int} {c : Int} {RB K0 S0 Z0 KB0 : Int → Int} {PR0 : Nat → mv_V} {l : Int} (h : rf_BK bo lc wi ta pa wy B N L E fb P c RB K0 S0 Z0 KB0 PR0 l) (l0 : 0 ≤ l) (hl : fb l = l) (c0 : 0 ≤ c) {K S KB : Int → Int} {z v o hi lo : Int} (j1 : ∀ j, (j < 4 * c ∨ 4 * c + 4 ≤ j) → K j = K0 j) (j2 : ∀ q, q ≠ c → S q = S0 q) (j3 : ∀ q, 0 ≤ q → q < lc → fb q = l → KB q = c) (j4 : ∀ q, 0 ≤ q → q < lc → fb q ≠ l → KB q = KB0 q) (j5 : rf_bx lc fb L l K c) (j6 : pu_min lc fb l E (S c)) (ho : o = pu_cnt (fun q => decide (fb q = l)) lc.toNat) (hz : bf_pts wi ta pa (rf_l N) (rf_u N) (rf_r N) (rf_d N) (rf_l K) (rf_u K) (rf_r K) (rf_d K) (fun _ => o) c z) (hh : pu_hl bo (fun j => fb (P j)) (fun j => bf_o wy (rf_d B) (rf_r B) j - bf_o wy (rf_u B) (rf_l B) j) l hi lo) (hv : (v = 1 ∧ 4 * (hi - lo) ≤ hi) ∨ (v = 0 ∧ ¬ 4 * (hi - lo) ≤ hi)) : rf_BK bo lc wi ta pa wy B N L E fb P (c + 1) (mv_s RB c l) K S (mv_s Z0 c z) KB (mv_u PR0 c.toNat (.inl v)) (l + 1) := by
  obtain ⟨h1, h2, h3⟩ := h
  refine ⟨pu_rts_y h1 l0 hl, fun q q0 q1 hq => ?_, fun b b0 b1 => ?_⟩
  · by_cases hql : fb q = l
    · rw [j3 q q0 q1 hql, mv_ss]
      exact ⟨c0, by omega, hql.symm⟩
    · rw [j4 q q0 q1 hql]
      obtain ⟨a1, a2, a3⟩ := h2 q q0 q1 (by omega)
      rw [mv_sn (by omega)]
      exact ⟨a1, by omega, a3⟩
  · by_cases hb : b = c
    · subst hb
      rw [mv_ss, mv_ss, mv_us]
      exact ⟨j5, j6, ho ▸ hz, v, hi, lo, rfl, hh, hv⟩
    · obtain ⟨a1, a2, a3, v', hi', lo', a4, a5, a6⟩ := h3 b b0 (by omega)
      rw [mv_sn hb, mv_sn hb, mv_un (by omega), j2 b hb]
      exact ⟨rf_bx_cg a1 (fun j q1 q2 => j1 j (by omega)), a2, rf_pts_cg a3 (fun j q1 q2 => j1 j (by omega)), v', hi', lo', a4, a5, a6⟩
theorem rf_BK_n {bo lc wi ta pa wy : Int} {B N L E fb P : Int → Int} {c : Int} {RB K S Z KB : Int → Int} {PR : Nat → mv_V} {l : Int} (h : rf_BK bo lc wi ta pa wy B N L E fb P c RB K S Z KB PR l) (l0 : 0 ≤ l) (hl : ¬ fb l = l) (hlab : ∀ i, 0 ≤ i → i < lc → 0 ≤ fb i ∧ fb i ≤ i ∧ fb (fb i) = fb i) : rf_BK bo lc wi ta pa wy B N L E fb P c RB K S Z KB PR (l + 1) := by
  obtain ⟨h1, h2, h3⟩ := h
  refine ⟨pu_rts_n h1 l0 hl, fun q q0 q1 hq => h2 q q0 q1 ?_, h3⟩
  by_cases e : fb q = l
  · exfalso
    have := (hlab q q0 q1).2.2
    rw [e] at this
    exact hl this
  · omega
theorem rf_kl_s {Q : List mv_V → mv_M → Prop} {M0 : mv_M} {co wi ta bo pa wy lc fo tu bl kl se ow : Int} (hO0 : rf_O M0 co wi ta bo pa wy lc fo tu bl kl se ow) (hn0 : 0 ≤ bo) (hn : bo ≤ 64) (hlc0 : 0 ≤ lc) (hlc : lc ≤ 64) {f L E : Int → Int} (hf0 : M0.2 50 = .inl (64, f)) (hL0 : M0.2 51 = .inl (256, L)) (hE0 : M0.2 52 = .inl (64, E)) {l : Int} (l0 : 0 ≤ l) (l1 : l < lc) {X0 XL XB KB : Int → Int} (k : ∀ M' X sv, bf_fr M0 M' 59 63 → M'.2 59 = .inl (256, X) → M'.2 60 = .inl (64, XL) → M'.2 61 = .inl (64, XB) → M'.2 62 = .inl (64, KB) → (∀ x, 0 ≤ x → x < 4 → X (4 * l + x) = L (4 * l + x)) → (∀ j, (j < 4 * l ∨ 4 * l + 4 ≤ j) → X j = X0 j) → mv_W md_RM_keepLines 51 [.inr 47, .inl l, sv] [] M' (0, 0) Q) : ∀ (d : Nat) (s : Int) (M : mv_M) (X : Int → Int), 4 - s < d → 0 ≤ s → s ≤ 4 → bf_fr M0 M 59 63 → M.2 59 = .inl (256, X) → M.2 60 = .inl (64, XL) → M.2 61 = .inl (64, XB) → M.2 62 = .inl (64, KB) → (∀ x, 0 ≤ x → x < s → X (4 * l + x) = L (4 * l + x)) → (∀ j, (j < 4 * l ∨ 4 * l + 4 ≤ j) → X j = X0 j) → mv_W md_RM_keepLines 20 [.inr 47, .inl l, .inl s] [] M (0, 0) Q := by
  intro d
  induction d with
  | zero =>
    intro s M X hd s0 s1 hfr hKep hKle hKbo hKbl i1 i2
    exfalso; omega
  | succ d ih =>
    intro s M X hd s0 s1 hfr hKep hKle hKbo hKbl i1 i2
    have hO : rf_O M co wi ta bo pa wy lc fo tu bl kl se ow := by unfold rf_O; rw [hfr 47 (by omega)]; exact hO0
    have hLof : M.2 50 = .inl (64, f) := by rw [hfr 50 (by omega)]; exact hf0
    have hLin : M.2 51 = .inl (256, L) := by rw [hfr 51 (by omega)]; exact hL0
    have hLle : M.2 52 = .inl (64, E) := by rw [hfr 52 (by omega)]; exact hE0
    refine mx_iload_n d_RM_keepLines_20 rfl ?_
    refine mx_iconst (4) d_RM_keepLines_21 (by decide +kernel) (by unfold mv_r; omega) ?_
    refine mx_icmp_ge 51 d_RM_keepLines_22 (by decide) (fun c22 => ?_) (fun c22 => ?_)
    · skip
      exact k M X _ hfr hKep hKle hKbo hKbl (fun x x0 x1 => i1 x x0 (by omega)) i2
    · skip
      refine mx_aload_n d_RM_keepLines_25 rfl (by omega) ?_
      refine mx_gl d_RM_keepLines_26 f_RM_44 hO rfl ?_
      refine mx_iconst (4) d_RM_keepLines_29 (by decide +kernel) (by unfold mv_r; omega) ?_
      refine mx_iload_n d_RM_keepLines_30 rfl ?_
      refine mx_imul d_RM_keepLines_31 (by unfold mv_r; omega) ?_
      refine mx_iload_n d_RM_keepLines_32 rfl ?_
      refine mx_iadd d_RM_keepLines_33 (by unfold mv_r; omega) ?_
      refine mx_aload_n d_RM_keepLines_34 rfl (by omega) ?_
      refine mx_gl d_RM_keepLines_35 f_RM_19 hO rfl ?_
      refine mx_iconst (4) d_RM_keepLines_38 (by decide +kernel) (by unfold mv_r; omega) ?_
      refine mx_iload_n d_RM_keepLines_39 rfl ?_
      refine mx_imul d_RM_keepLines_40 (by unfold mv_r; omega) ?_
      refine mx_iload_n d_RM_keepLines_41 rfl ?_
      refine mx_iadd d_RM_keepLines_42 (by unfold mv_r; omega) ?_
      refine mx_iald d_RM_keepLines_43 hLin (by omega) (by omega) ?_
      refine mx_iast d_RM_keepLines_44 hKep (by omega) (by omega) (by omega) ?_
      refine mx_iinc d_RM_keepLines_45 rfl (by unfold mv_r; omega) ?_
      refine mx_goto 20 d_RM_keepLines_48 (by decide) ?_
      exact ih (s + 1) _ _ (by omega) (by omega) (by omega) (hfr.put (by omega) (by omega)) mv_ps (by rw [mv_pn (by omega)]; exact hKle) (by rw [mv_pn (by omega)]; exact hKbo) (by rw [mv_pn (by omega)]; exact hKbl) (fun x x0 x1 => by
        by_cases hx : x = s
        · rw [hx, mv_ss]
        · rw [mv_sn (by omega)]; exact i1 x x0 (by omega)) (fun j hj => by rw [mv_sn (by omega)]; exact i2 j hj)
theorem rf_kl_k {Q : List mv_V → mv_M → Prop} {M0 : mv_M} {co wi ta bo pa wy lc fo tu bl kl se ow : Int} (hO0 : rf_O M0 co wi ta bo pa wy lc fo tu bl kl se ow) (hn0 : 0 ≤ bo) (hn : bo ≤ 64) (hlc0 : 0 ≤ lc) (hlc : lc ≤ 64) {f L E : Int → Int} (hf0 : M0.2 50 = .inl (64, f)) (hL0 : M0.2 51 = .inl (256, L)) (hE0 : M0.2 52 = .inl (64, E)) {l : Int} (l0 : 0 ≤ l) (l1 : l < lc) {X XL XB0 KB : Int → Int} (k : ∀ M' XB sv, bf_fr M0 M' 59 63 → M'.2 59 = .inl (256, X) → M'.2 60 = .inl (64, XL) → M'.2 61 = .inl (64, XB) → M'.2 62 = .inl (64, KB) → XB l = pu_cnt (fun k => decide (f k = E l)) bo.toNat → (∀ j, j ≠ l → XB j = XB0 j) → mv_W md_RM_keepLines 122 [.inr 47, .inl l, sv] [] M' (0, 0) Q) : ∀ (d : Nat) (q : Int) (M : mv_M) (XB : Int → Int), bo - q < d → 0 ≤ q → q ≤ bo → bf_fr M0 M 59 63 → M.2 59 = .inl (256, X) → M.2 60 = .inl (64, XL) → M.2 61 = .inl (64, XB) → M.2 62 = .inl (64, KB) → XB l = pu_cnt (fun k => decide (f k = E l)) q.toNat → (∀ j, j ≠ l → XB j = XB0 j) → mv_W md_RM_keepLines 79 [.inr 47, .inl l, .inl q] [] M (0, 0) Q := by
  intro d
  induction d with
  | zero =>
    intro q M XB hd q0 q1 hfr hKep hKle hKbo hKbl i1 i2
    exfalso; omega
  | succ d ih =>
    intro q M XB hd q0 q1 hfr hKep hKle hKbo hKbl i1 i2
    have hO : rf_O M co wi ta bo pa wy lc fo tu bl kl se ow := by unfold rf_O; rw [hfr 47 (by omega)]; exact hO0
    have hLof : M.2 50 = .inl (64, f) := by rw [hfr 50 (by omega)]; exact hf0
    have hLin : M.2 51 = .inl (256, L) := by rw [hfr 51 (by omega)]; exact hL0
    have hLle : M.2 52 = .inl (64, E) := by rw [hfr 52 (by omega)]; exact hE0
    have hcc := pu_cnt_le (fun k => decide (f k = E l)) q.toNat
    rw [← i1] at hcc
    have hcs := pu_cnt_s (P := fun k => decide (f k = E l)) q0
    refine mx_iload_n d_RM_keepLines_79 rfl ?_
    refine mx_aload_n d_RM_keepLines_80 rfl (by omega) ?_
    refine mx_gl d_RM_keepLines_81 f_RM_73 hO rfl ?_
    refine mx_icmp_ge 122 d_RM_keepLines_84 (by decide) (fun c84 => ?_) (fun c84 => ?_)
    · skip
      exact k M XB _ hfr hKep hKle hKbo hKbl ((show q = bo by omega) ▸ i1) i2
    · skip
      refine mx_aload_n d_RM_keepLines_87 rfl (by omega) ?_
      refine mx_gl d_RM_keepLines_88 f_RM_50 hO rfl ?_
      refine mx_iload_n d_RM_keepLines_91 rfl ?_
      refine mx_dup2 d_RM_keepLines_92 ?_
      refine mx_iald d_RM_keepLines_93 hKbo (by omega) (by omega) ?_
      refine mx_aload_n d_RM_keepLines_94 rfl (by omega) ?_
      refine mx_gl d_RM_keepLines_95 f_RM_16 hO rfl ?_
      refine mx_iload_n d_RM_keepLines_98 rfl ?_
      refine mx_iald d_RM_keepLines_99 hLof (by omega) (by omega) ?_
      refine mx_aload_n d_RM_keepLines_100 rfl (by omega) ?_
      refine mx_gl d_RM_keepLines_101 f_RM_22 hO rfl ?_
      refine mx_iload_n d_RM_keepLines_104 rfl ?_
      refine mx_iald d_RM_keepLines_105 hLle (by omega) (by omega) ?_
      refine mx_icmp_ne 113 d_RM_keepLines_106 (by decide) (fun c106 => ?_) (fun c106 => ?_)
      · skip
        refine mx_iconst (0) d_RM_keepLines_113 (by decide +kernel) (by unfold mv_r; omega) ?_
        refine mx_iadd d_RM_keepLines_114 (by unfold mv_r; omega) ?_
        refine mx_iast d_RM_keepLines_115 hKbo (by omega) (by omega) (by omega) ?_
        refine mx_iinc d_RM_keepLines_116 rfl (by unfold mv_r; omega) ?_
        refine mx_goto 79 d_RM_keepLines_119 (by decide) ?_
        first | exact ih (q + 1) _ _ (by omega) (by omega) (by omega) (hfr.put (by omega) (by omega)) (by rw [mv_pn (by omega)]; exact hKep) (by rw [mv_pn (by omega)]; exact hKle) mv_ps (by rw [mv_pn (by omega)]; exact hKbl) (by rw [mv_ss, hcs, if_pos (by simp; omega), i1]) (fun j hj => by rw [mv_sn hj]; exact i2 j hj) | exact ih (q + 1) _ _ (by omega) (by omega) (by omega) (hfr.put (by omega) (by omega)) (by rw [mv_pn (by omega)]; exact hKep) (by rw [mv_pn (by omega)]; exact hKle) mv_ps (by rw [mv_pn (by omega)]; exact hKbl) (by rw [mv_ss, hcs, if_neg (by simp; omega), i1]) (fun j hj => by rw [mv_sn hj]; exact i2 j hj)
      · skip
        refine mx_iconst (1) d_RM_keepLines_109 (by decide +kernel) (by unfold mv_r; omega) ?_
        refine mx_goto 114 d_RM_keepLines_110 (by decide) ?_
        refine mx_iadd d_RM_keepLines_114 (by unfold mv_r; omega) ?_
        refine mx_iast d_RM_keepLines_115 hKbo (by omega) (by omega) (by omega) ?_
        refine mx_iinc d_RM_keepLines_116 rfl (by unfold mv_r; omega) ?_
        refine mx_goto 79 d_RM_keepLines_119 (by decide) ?_
        first | exact ih (q + 1) _ _ (by omega) (by omega) (by omega) (hfr.put (by omega) (by omega)) (by rw [mv_pn (by omega)]; exact hKep) (by rw [mv_pn (by omega)]; exact hKle) mv_ps (by rw [mv_pn (by omega)]; exact hKbl) (by rw [mv_ss, hcs, if_pos (by simp; omega), i1]) (fun j hj => by rw [mv_sn hj]; exact i2 j hj) | exact ih (q + 1) _ _ (by omega) (by omega) (by omega) (hfr.put (by omega) (by omega)) (by rw [mv_pn (by omega)]; exact hKep) (by rw [mv_pn (by omega)]; exact hKle) mv_ps (by rw [mv_pn (by omega)]; exact hKbl) (by rw [mv_ss, hcs, if_neg (by simp; omega), i1]) (fun j hj => by rw [mv_sn hj]; exact i2 j hj)
theorem rf_kl_l {Q : List mv_V → mv_M → Prop} {M0 : mv_M} {co wi ta bo pa wy lc fo tu bl kl se ow : Int} (hO0 : rf_O M0 co wi ta bo pa wy lc fo tu bl kl se ow) (hn0 : 0 ≤ bo) (hn : bo ≤ 64) (hlc0 : 0 ≤ lc) (hlc : lc ≤ 64) {f L E : Int → Int} (hf0 : M0.2 50 = .inl (64, f)) (hL0 : M0.2 51 = .inl (256, L)) (hE0 : M0.2 52 = .inl (64, E)) (k : ∀ M' X XL XB KB lv sv, bf_fr M0 M' 59 63 → M'.2 59 = .inl (256, X) → M'.2 60 = .inl (64, XL) → M'.2 61 = .inl (64, XB) → M'.2 62 = .inl (64, KB) → (∀ j, 0 ≤ j → j < 4 * lc → X j = L j) → (∀ q, 0 ≤ q → q < lc → XL q = E q) → (∀ q, 0 ≤ q → q < lc → XB q = pu_cnt (fun k => decide (f k = E q)) bo.toNat) → mv_W md_RM_keepLines 128 [.inr 47, lv, sv] [] M' (0, 0) Q) : ∀ (d : Nat) (l : Int) (M : mv_M) (X XL XB KB : Int → Int) (sv : mv_V), lc - l < d → 0 ≤ l → l ≤ lc → bf_fr M0 M 59 63 → M.2 59 = .inl (256, X) → M.2 60 = .inl (64, XL) → M.2 61 = .inl (64, XB) → M.2 62 = .inl (64, KB) → (∀ j, 0 ≤ j → j < 4 * l → X j = L j) → (∀ q, 0 ≤ q → q < l → XL q = E q) → (∀ q, 0 ≤ q → q < l → XB q = pu_cnt (fun k => decide (f k = E q)) bo.toNat) → mv_W md_RM_keepLines 10 [.inr 47, .inl l, sv] [] M (0, 0) Q := by
  intro d
  induction d with
  | zero =>
    intro l M X XL XB KB sv hd l0 l1 hfr hKep hKle hKbo hKbl i1 i2 i3
    exfalso; omega
  | succ d ih =>
    intro l M X XL XB KB sv hd l0 l1 hfr hKep hKle hKbo hKbl i1 i2 i3
    have hO : rf_O M co wi ta bo pa wy lc fo tu bl kl se ow := by unfold rf_O; rw [hfr 47 (by omega)]; exact hO0
    have hLof : M.2 50 = .inl (64, f) := by rw [hfr 50 (by omega)]; exact hf0
    have hLin : M.2 51 = .inl (256, L) := by rw [hfr 51 (by omega)]; exact hL0
    have hLle : M.2 52 = .inl (64, E) := by rw [hfr 52 (by omega)]; exact hE0
    refine mx_iload_n d_RM_keepLines_10 rfl ?_
    refine mx_aload_n d_RM_keepLines_11 rfl (by omega) ?_
    refine mx_gl d_RM_keepLines_12 f_RM_113 hO rfl ?_
    refine mx_icmp_ge 128 d_RM_keepLines_15 (by decide) (fun c15 => ?_) (fun c15 => ?_)
    · skip
      exact k M X XL XB KB _ sv hfr hKep hKle hKbo hKbl (fun j a b => i1 j a (by omega)) (fun q a b => i2 q a (by omega)) (fun q a b => i3 q a (by omega))
    · skip
      refine mx_iconst (0) d_RM_keepLines_18 (by decide +kernel) (by unfold mv_r; omega) ?_
      refine mx_istore_n d_RM_keepLines_19 (by decide) ?_
      refine rf_kl_s hO0 hn0 hn hlc0 hlc hf0 hL0 hE0 l0 (by omega) (X0 := X) ?_ 5 0 M X (by omega) (by omega) (by omega) hfr hKep hKle hKbo hKbl (fun x _ _ => by omega) (fun j _ => rfl)
      intro M1 X1 sv1 hfr1 hKep1 hKle1 hKbo1 hKbl1 a1 a2
      have hO1 : rf_O M1 co wi ta bo pa wy lc fo tu bl kl se ow := by unfold rf_O; rw [hfr1 47 (by omega)]; exact hO0
      have hLle1 : M1.2 52 = .inl (64, E) := by rw [hfr1 52 (by omega)]; exact hE0
      refine mx_aload_n d_RM_keepLines_51 rfl (by omega) ?_
      refine mx_gl d_RM_keepLines_52 f_RM_47 hO1 rfl ?_
      refine mx_iload_n d_RM_keepLines_55 rfl ?_
      refine mx_aload_n d_RM_keepLines_56 rfl (by omega) ?_
      refine mx_gl d_RM_keepLines_57 f_RM_22 hO1 rfl ?_
      refine mx_iload_n d_RM_keepLines_60 rfl ?_
      refine mx_iald d_RM_keepLines_61 hLle1 (by omega) (by omega) ?_
      refine mx_iast d_RM_keepLines_62 hKle1 (by omega) (by omega) (by omega) ?_
      refine mx_aload_n d_RM_keepLines_63 rfl (by omega) ?_
      refine mx_gl d_RM_keepLines_64 f_RM_50 (by rw [mv_pn (by omega)]; exact hO1) rfl ?_
      refine mx_iload_n d_RM_keepLines_67 rfl ?_
      refine mx_iconst (0) d_RM_keepLines_68 (by decide +kernel) (by unfold mv_r; omega) ?_
      refine mx_iast d_RM_keepLines_69 (by rw [mv_pn (by omega)]; exact hKbo1) (by omega) (by omega) (by omega) ?_
      refine mx_aload_n d_RM_keepLines_70 rfl (by omega) ?_
      refine mx_gl d_RM_keepLines_71 f_RM_53 (by rw [mv_pn (by omega), mv_pn (by omega)]; exact hO1) rfl ?_
      refine mx_iload_n d_RM_keepLines_74 rfl ?_
      refine mx_iconst (0) d_RM_keepLines_75 (by decide +kernel) (by unfold mv_r; omega) ?_
      refine mx_iast d_RM_keepLines_76 (by rw [mv_pn (by omega), mv_pn (by omega)]; exact hKbl1) (by omega) (by omega) (by omega) ?_
      refine mx_iconst (0) d_RM_keepLines_77 (by decide +kernel) (by unfold mv_r; omega) ?_
      refine mx_istore_n d_RM_keepLines_78 (by decide) ?_
      refine rf_kl_k hO0 hn0 hn hlc0 hlc hf0 hL0 hE0 l0 (by omega) (X := X1) (XL := mv_s XL l (E l)) (XB0 := mv_s XB l 0) (KB := mv_s KB l 0) ?_ (bo.toNat + 1) 0 _ (mv_s XB l 0) (by omega) (by omega) hn0 ((hfr1.put (by omega) (by omega) |>.put (by omega) (by omega)).put (by omega) (by omega)) (by rw [mv_pn (by omega), mv_pn (by omega), mv_pn (by omega)]; exact hKep1) (by rw [mv_pn (by omega), mv_pn (by omega), mv_ps]) (by rw [mv_pn (by omega), mv_ps]) mv_ps mv_ss (fun j _ => rfl)
      intro M2 XB2 sv2 hfr2 hKep2 hKle2 hKbo2 hKbl2 b1 b2
      refine mx_iinc d_RM_keepLines_122 rfl (by unfold mv_r; omega) ?_
      refine mx_goto 10 d_RM_keepLines_125 (by decide) ?_
      refine ih (l + 1) M2 X1 _ XB2 _ _ (by omega) (by omega) (by omega) hfr2 hKep2 hKle2 hKbo2 hKbl2 (fun j j0 j1 => ?_) (fun q q0 q1 => ?_) (fun q q0 q1 => ?_)
      · by_cases hj : j < 4 * l
        · rw [a2 j (by omega)]; exact i1 j j0 hj
        · have := a1 (j - 4 * l) (by omega) (by omega)
          rw [show 4 * l + (j - 4 * l) = j by omega] at this
          exact this
      · by_cases hq : q = l
        · rw [hq, mv_ss]
        · rw [mv_sn hq]; exact i2 q q0 (by omega)
      · by_cases hq : q = l
        · rw [hq]; exact b1
        · rw [b2 q hq, mv_sn hq]; exact i3 q q0 (by omega)
theorem rf_kl_i {Q : List mv_V → mv_M → Prop} {M0 : mv_M} {co wi ta bo pa wy lc fo tu bl kl se ow : Int} (hO0 : rf_O M0 co wi ta bo pa wy lc fo tu bl kl se ow) (hn0 : 0 ≤ bo) (hn : bo ≤ 64) (hlc : lc ≤ 64) {f E P KB : Int → Int} (hf0 : M0.2 50 = .inl (64, f)) (hE0 : M0.2 52 = .inl (64, E)) (hK0 : M0.2 62 = .inl (64, KB)) (hEd : ∀ p q, 0 ≤ p → p < lc → 0 ≤ q → q < lc → E p = E q → p = q) (hP : ∀ k, 0 ≤ k → k < bo → 0 ≤ P k ∧ P k < lc ∧ E (P k) = f k) {v : mv_V} (k : ∀ M' IB, bf_fr M0 M' 63 64 → M'.2 63 = .inl (64, IB) → (∀ q, 0 ≤ q → q < bo → IB q = KB (P q)) → Q [] M') : ∀ (d : Nat) (q : Int) (M : mv_M) (IB : Int → Int), bo - q < d → 0 ≤ q → q ≤ bo → bf_fr M0 M 63 64 → M.2 63 = .inl (64, IB) → (∀ j, 0 ≤ j → j < q → IB j = KB (P j)) → mv_W md_RM_keepLines 174 [.inr 47, .inl q, v] [] M (0, 0) Q := by
  intro d
  induction d with
  | zero =>
    intro q M IB hd q0 q1 hfr hInb hI
    exfalso; omega
  | succ d ih =>
    intro q M IB hd q0 q1 hfr hInb hI
    have hO : rf_O M co wi ta bo pa wy lc fo tu bl kl se ow := by unfold rf_O; rw [hfr 47 (by omega)]; exact hO0
    have hLof : M.2 50 = .inl (64, f) := by rw [hfr 50 (by omega)]; exact hf0
    have hLle : M.2 52 = .inl (64, E) := by rw [hfr 52 (by omega)]; exact hE0
    have hKbl : M.2 62 = .inl (64, KB) := by rw [hfr 62 (by omega)]; exact hK0
    refine mx_iload_n d_RM_keepLines_174 rfl ?_
    refine mx_aload_n d_RM_keepLines_175 rfl (by omega) ?_
    refine mx_gl d_RM_keepLines_176 f_RM_73 hO rfl ?_
    refine mx_icmp_ge 204 d_RM_keepLines_179 (by decide) (fun c179 => ?_) (fun c179 => ?_)
    · skip
      refine mx_return d_RM_keepLines_204 rfl ?_
      exact k M IB hfr hInb (fun j j0 j1 => hI j j0 (by omega))
    · skip
      refine mx_aload_n d_RM_keepLines_182 rfl (by omega) ?_
      refine mx_gl d_RM_keepLines_183 f_RM_56 hO rfl ?_
      refine mx_iload_n d_RM_keepLines_186 rfl ?_
      refine mx_aload_n d_RM_keepLines_187 rfl (by omega) ?_
      refine mx_gl d_RM_keepLines_188 f_RM_53 hO rfl ?_
      refine mx_aload_n d_RM_keepLines_191 rfl (by omega) ?_
      refine mx_iload_n d_RM_keepLines_192 rfl ?_
      refine mx_cV1 d_RM_keepLines_193 c_RM_139 hO (by decide) (Nat.le_of_ble_eq_true rfl) ?_
      have hPq := hP q q0 (by omega)
      refine rf_lineAt hO hLof hLle q0 (by omega) hPq.1 (by omega) hPq.2.2 (fun l l0 l1 hl => ?_)
      obtain rfl : l = P q := hEd l (P q) l0 (by omega) hPq.1 hPq.2.1 (hl.trans hPq.2.2.symm)
      refine mx_iald d_RM_keepLines_196 hKbl (by omega) (by omega) ?_
      refine mx_iast d_RM_keepLines_197 hInb (by omega) (by omega) (by omega) ?_
      refine mx_iinc d_RM_keepLines_198 rfl (by unfold mv_r; omega) ?_
      refine mx_goto 174 d_RM_keepLines_201 (by decide) ?_
      exact ih (q + 1) _ _ (by omega) (by omega) (by omega) (hfr.put (by omega) (by omega)) mv_ps (fun j j0 j1 => by
        by_cases hj : j = q
        · rw [hj, mv_ss]
        · rw [mv_sn hj]; exact hI j j0 (by omega))
