/-! the reference: lines found -/
/-- the roots of f below k, in order -/
def pu_rts (k : Int) (f : Int → Int) (c : Int) (E : Int → Int) : Prop := c = pu_cnt (fun m => decide (f m = m)) k.toNat ∧ (∀ g, 0 ≤ g → g < c → 0 ≤ E g ∧ E g < k ∧ f (E g) = E g) ∧ (∀ g h, 0 ≤ g → g < h → h < c → E g < E h) ∧ ∀ r, 0 ≤ r → r < k → f r = r → ∃ g, 0 ≤ g ∧ g < c ∧ E g = r
theorem pu_rts0 {f E : Int → Int} : pu_rts 0 f 0 E := ⟨rfl, fun g _ _ => by omega, fun g h _ _ _ => by omega, fun r _ _ => by omega⟩
theorem pu_rts_y {k : Int} {f : Int → Int} {c : Int} {E : Int → Int} (h : pu_rts k f c E) (k0 : 0 ≤ k) (hk : f k = k) : pu_rts (k + 1) f (c + 1) (mv_s E c k) := by
  obtain ⟨h1, h2, h3, h4⟩ := h
  have hc := pu_cnt_le (fun m => decide (f m = m)) k.toNat
  rw [← h1] at hc
  refine ⟨by rw [pu_cnt_s k0, if_pos (by simpa using hk), ← h1], fun g g0 g1 => ?_, fun g g' g0 g1 g2 => ?_, fun r r0 r1 hr => ?_⟩
  · by_cases hg : g = c
    · rw [hg, mv_ss]; exact ⟨k0, by omega, hk⟩
    · rw [mv_sn hg]; have := h2 g g0 (by omega); exact ⟨this.1, by omega, this.2.2⟩
  · rw [mv_sn (show g ≠ c by omega)]
    by_cases hg : g' = c
    · rw [hg, mv_ss]; exact (h2 g g0 (by omega)).2.1
    · rw [mv_sn hg]; exact h3 g g' g0 g1 (by omega)
  · by_cases hrk : r = k
    · exact ⟨c, by omega, by omega, by rw [mv_ss, hrk]⟩
    · obtain ⟨g, g0, g1, g2⟩ := h4 r r0 (by omega) hr
      exact ⟨g, g0, by omega, by rw [mv_sn (by omega), g2]⟩
theorem pu_rts_n {k : Int} {f : Int → Int} {c : Int} {E : Int → Int} (h : pu_rts k f c E) (k0 : 0 ≤ k) (hk : ¬ f k = k) : pu_rts (k + 1) f c E := by
  obtain ⟨h1, h2, h3, h4⟩ := h
  refine ⟨by rw [pu_cnt_s k0, if_neg (by simpa using hk), ← h1, Int.add_zero], fun g g0 g1 => ?_, h3, fun r r0 r1 hr => ?_⟩
  · have := h2 g g0 g1; exact ⟨this.1, by omega, this.2.2⟩
  · by_cases hrk : r = k
    · rw [hrk] at hr; exact absurd hr hk
    · exact h4 r r0 (by omega) hr
theorem rf_fl_b {Q : List mv_V → mv_M → Prop} {M0 : mv_M} {co wi ta bo pa wy lc fo tu bl kl se ow : Int} (hO0 : rf_O M0 co wi ta bo pa wy lc fo tu bl kl se ow) (hwy : wy = 0 ∨ wy = 1) {B : Int → Int} (hB0 : M0.2 48 = .inl (256, B)) (hn0 : 0 ≤ bo) (hn : bo ≤ 64) (hok : rf_ok bo B) {F : Int → Int} (hF : pu_lab bo (fun a b => a < b ∧ (bf_nb wy (rf_l B) (rf_u B) (rf_r B) (rf_d B)) a b) F) {S0 : Int → Prop} {t r a : Int} (a0 : 0 ≤ a) (a1 : a < bo) (k : ∀ M' f b, bf_fr M0 M' 50 51 → M'.2 50 = .inl (64, f) → bo ≤ b → pu_rnd bo (bf_nb wy (rf_l B) (rf_u B) (rf_r B) (rf_d B)) F S0 a b f → mv_W md_RM_findLines 114 [.inr 47, .inl t, .inl r, .inl a, .inl b] [] M' (0, 0) Q) : ∀ (d : Nat) (b : Int) (M : mv_M) (f : Int → Int), bo - b < d → 0 ≤ b → b ≤ bo → bf_fr M0 M 50 51 → M.2 50 = .inl (64, f) → pu_rnd bo (bf_nb wy (rf_l B) (rf_u B) (rf_r B) (rf_d B)) F S0 a b f → mv_W md_RM_findLines 51 [.inr 47, .inl t, .inl r, .inl a, .inl b] [] M (0, 0) Q := by
  intro d
  induction d with
  | zero =>
    intro b M f hd b0 b1 hfr hLof hI
    exfalso; omega
  | succ d ih =>
    intro b M f hd b0 b1 hfr hLof hI
    have hO : rf_O M co wi ta bo pa wy lc fo tu bl kl se ow := by unfold rf_O; rw [hfr 47 (by omega)]; exact hO0
    have hBox : M.2 48 = .inl (256, B) := by rw [hfr 48 (by omega)]; exact hB0
    refine mx_iload d_RM_findLines_51 rfl ?_
    refine mx_aload_n d_RM_findLines_53 rfl (by omega) ?_
    refine mx_gl d_RM_findLines_54 f_RM_73 hO rfl ?_
    refine mx_icmp_ge 114 d_RM_findLines_57 (by decide) (fun c57 => ?_) (fun c57 => ?_)
    · skip
      exact k M f b hfr hLof (by omega) hI
    · skip
      refine mx_aload_n d_RM_findLines_60 rfl (by omega) ?_
      refine mx_gl d_RM_findLines_61 f_RM_16 hO rfl ?_
      refine mx_iload_n d_RM_findLines_64 rfl ?_
      refine mx_aload_n d_RM_findLines_65 rfl (by omega) ?_
      refine mx_gl d_RM_findLines_66 f_RM_16 hO rfl ?_
      refine mx_iload d_RM_findLines_69 rfl ?_
      refine mx_iald d_RM_findLines_71 hLof (by omega) (by omega) ?_
      refine mx_aload_n d_RM_findLines_72 rfl (by omega) ?_
      refine mx_gl d_RM_findLines_73 f_RM_16 hO rfl ?_
      refine mx_iload_n d_RM_findLines_76 rfl ?_
      refine mx_iald d_RM_findLines_77 hLof (by omega) (by omega) ?_
      refine mx_icmp_ge 101 d_RM_findLines_78 (by decide) (fun c78 => ?_) (fun c78 => ?_)
      · skip
        refine mx_aload_n d_RM_findLines_101 rfl (by omega) ?_
        refine mx_gl d_RM_findLines_102 f_RM_16 hO rfl ?_
        refine mx_iload_n d_RM_findLines_105 rfl ?_
        refine mx_iald d_RM_findLines_106 hLof (by omega) (by omega) ?_
        refine mx_iast d_RM_findLines_107 hLof (by omega) (by omega) (by omega) ?_
        refine mx_iinc d_RM_findLines_108 rfl (by unfold mv_r; omega) ?_
        refine mx_goto 51 d_RM_findLines_111 (by decide) ?_
        first | exact ih (b + 1) _ _ (by omega) (by omega) (by omega) (hfr.put (by omega) (by omega)) mv_ps (pu_rnd_s hF bf_nb_sym hI a0 a1 b0 (by omega) (Or.inl ⟨rfl, by omega, hnb⟩)) | exact ih (b + 1) _ _ (by omega) (by omega) (by omega) (hfr.put (by omega) (by omega)) mv_ps (pu_rnd_s hF bf_nb_sym hI a0 a1 b0 (by omega) (Or.inr ⟨rfl, fun q => hnb q.2⟩)) | exact ih (b + 1) _ _ (by omega) (by omega) (by omega) (hfr.put (by omega) (by omega)) mv_ps (pu_rnd_s hF bf_nb_sym hI a0 a1 b0 (by omega) (Or.inr ⟨rfl, fun q => by have := q.1; omega⟩))
      · skip
        refine mx_aload_n d_RM_findLines_81 rfl (by omega) ?_
        refine mx_iload_n d_RM_findLines_82 rfl ?_
        refine mx_iload d_RM_findLines_83 rfl ?_
        refine mx_cV2 d_RM_findLines_85 c_RM_109 hO (by decide) (Nat.le_of_ble_eq_true rfl) ?_
        refine rf_areBoxesNear hO hwy hBox hn hok a0 a1 b0 (by omega) (fun hnb => ?_) (fun hnb => ?_)
        · skip
          refine mx_z1 101 d_RM_findLines_88 (by decide) ?_
          refine mx_aload_n d_RM_findLines_91 rfl (by omega) ?_
          refine mx_gl d_RM_findLines_92 f_RM_16 hO rfl ?_
          refine mx_iload d_RM_findLines_95 rfl ?_
          refine mx_iald d_RM_findLines_97 hLof (by omega) (by omega) ?_
          refine mx_goto 107 d_RM_findLines_98 (by decide) ?_
          refine mx_iast d_RM_findLines_107 hLof (by omega) (by omega) (by omega) ?_
          refine mx_iinc d_RM_findLines_108 rfl (by unfold mv_r; omega) ?_
          refine mx_goto 51 d_RM_findLines_111 (by decide) ?_
          first | exact ih (b + 1) _ _ (by omega) (by omega) (by omega) (hfr.put (by omega) (by omega)) mv_ps (pu_rnd_s hF bf_nb_sym hI a0 a1 b0 (by omega) (Or.inl ⟨rfl, by omega, hnb⟩)) | exact ih (b + 1) _ _ (by omega) (by omega) (by omega) (hfr.put (by omega) (by omega)) mv_ps (pu_rnd_s hF bf_nb_sym hI a0 a1 b0 (by omega) (Or.inr ⟨rfl, fun q => hnb q.2⟩)) | exact ih (b + 1) _ _ (by omega) (by omega) (by omega) (hfr.put (by omega) (by omega)) mv_ps (pu_rnd_s hF bf_nb_sym hI a0 a1 b0 (by omega) (Or.inr ⟨rfl, fun q => by have := q.1; omega⟩))
        · skip
          refine mx_z0 101 d_RM_findLines_88 (by decide) ?_
          refine mx_aload_n d_RM_findLines_101 rfl (by omega) ?_
          refine mx_gl d_RM_findLines_102 f_RM_16 hO rfl ?_
          refine mx_iload_n d_RM_findLines_105 rfl ?_
          refine mx_iald d_RM_findLines_106 hLof (by omega) (by omega) ?_
          refine mx_iast d_RM_findLines_107 hLof (by omega) (by omega) (by omega) ?_
          refine mx_iinc d_RM_findLines_108 rfl (by unfold mv_r; omega) ?_
          refine mx_goto 51 d_RM_findLines_111 (by decide) ?_
          first | exact ih (b + 1) _ _ (by omega) (by omega) (by omega) (hfr.put (by omega) (by omega)) mv_ps (pu_rnd_s hF bf_nb_sym hI a0 a1 b0 (by omega) (Or.inl ⟨rfl, by omega, hnb⟩)) | exact ih (b + 1) _ _ (by omega) (by omega) (by omega) (hfr.put (by omega) (by omega)) mv_ps (pu_rnd_s hF bf_nb_sym hI a0 a1 b0 (by omega) (Or.inr ⟨rfl, fun q => hnb q.2⟩)) | exact ih (b + 1) _ _ (by omega) (by omega) (by omega) (hfr.put (by omega) (by omega)) mv_ps (pu_rnd_s hF bf_nb_sym hI a0 a1 b0 (by omega) (Or.inr ⟨rfl, fun q => by have := q.1; omega⟩))
theorem rf_fl_a {Q : List mv_V → mv_M → Prop} {M0 : mv_M} {co wi ta bo pa wy lc fo tu bl kl se ow : Int} (hO0 : rf_O M0 co wi ta bo pa wy lc fo tu bl kl se ow) (hwy : wy = 0 ∨ wy = 1) {B : Int → Int} (hB0 : M0.2 48 = .inl (256, B)) (hn0 : 0 ≤ bo) (hn : bo ≤ 64) (hok : rf_ok bo B) {F : Int → Int} (hF : pu_lab bo (fun a b => a < b ∧ (bf_nb wy (rf_l B) (rf_u B) (rf_r B) (rf_d B)) a b) F) {S0 : Int → Prop} {t r : Int} (k : ∀ M' f a v, bf_fr M0 M' 50 51 → M'.2 50 = .inl (64, f) → bo ≤ a → pu_rnd bo (bf_nb wy (rf_l B) (rf_u B) (rf_r B) (rf_d B)) F S0 a 0 f → mv_W md_RM_findLines 120 [.inr 47, .inl t, .inl r, .inl a, v] [] M' (0, 0) Q) : ∀ (d : Nat) (a : Int) (M : mv_M) (f : Int → Int) (v : mv_V), bo - a < d → 0 ≤ a → a ≤ bo → bf_fr M0 M 50 51 → M.2 50 = .inl (64, f) → pu_rnd bo (bf_nb wy (rf_l B) (rf_u B) (rf_r B) (rf_d B)) F S0 a 0 f → mv_W md_RM_findLines 40 [.inr 47, .inl t, .inl r, .inl a, v] [] M (0, 0) Q := by
  intro d
  induction d with
  | zero =>
    intro a M f v hd a0 a1 hfr hLof hI
    exfalso; omega
  | succ d ih =>
    intro a M f v hd a0 a1 hfr hLof hI
    have hO : rf_O M co wi ta bo pa wy lc fo tu bl kl se ow := by unfold rf_O; rw [hfr 47 (by omega)]; exact hO0
    have hBox : M.2 48 = .inl (256, B) := by rw [hfr 48 (by omega)]; exact hB0
    refine mx_iload_n d_RM_findLines_40 rfl ?_
    refine mx_aload_n d_RM_findLines_41 rfl (by omega) ?_
    refine mx_gl d_RM_findLines_42 f_RM_73 hO rfl ?_
    refine mx_icmp_ge 120 d_RM_findLines_45 (by decide) (fun c45 => ?_) (fun c45 => ?_)
    · skip
      exact k M f a v hfr hLof (by omega) hI
    · skip
      refine mx_iconst (0) d_RM_findLines_48 (by decide +kernel) (by unfold mv_r; omega) ?_
      refine mx_istore d_RM_findLines_49 (by decide) ?_
      refine rf_fl_b hO0 hwy hB0 hn0 hn hok hF a0 (by omega) ?_ (bo.toNat + 1) 0 M f (by omega) (by omega) hn0 hfr hLof hI
      intro M' f' b' hfr' hLof' hb' hI'
      refine mx_iinc d_RM_findLines_114 rfl (by unfold mv_r; omega) ?_
      refine mx_goto 40 d_RM_findLines_117 (by decide) ?_
      exact ih (a + 1) M' f' _ (by omega) (by omega) (by omega) hfr' hLof' (pu_rnd_row hI' hb')
theorem rf_fl_r {Q : List mv_V → mv_M → Prop} {M0 : mv_M} {co wi ta bo pa wy lc fo tu bl kl se ow : Int} (hO0 : rf_O M0 co wi ta bo pa wy lc fo tu bl kl se ow) (hwy : wy = 0 ∨ wy = 1) {B : Int → Int} (hB0 : M0.2 48 = .inl (256, B)) (hn0 : 0 ≤ bo) (hn : bo ≤ 64) (hok : rf_ok bo B) {F : Int → Int} (hF : pu_lab bo (fun a b => a < b ∧ (bf_nb wy (rf_l B) (rf_u B) (rf_r B) (rf_d B)) a b) F) {t : Int} (k : ∀ M' f r v v', bf_fr M0 M' 50 51 → M'.2 50 = .inl (64, f) → pu_lab bo (fun a b => a < b ∧ (bf_nb wy (rf_l B) (rf_u B) (rf_r B) (rf_d B)) a b) f → mv_W md_RM_findLines 126 [.inr 47, .inl t, .inl r, v, v'] [] M' (0, 0) Q) : ∀ (d : Nat) (r : Int) (M : mv_M) (f : Int → Int) (v v' : mv_V), bo - r < d → 0 ≤ r → r ≤ bo → bf_fr M0 M 50 51 → M.2 50 = .inl (64, f) → pu_rx bo F f → pu_cnt (fun x => decide (f x ≠ F x)) bo.toNat ≤ bo - r → mv_W md_RM_findLines 30 [.inr 47, .inl t, .inl r, v, v'] [] M (0, 0) Q := by
  intro d
  induction d with
  | zero =>
    intro r M f v v' hd r0 r1 hfr hLof hI hc
    exfalso; omega
  | succ d ih =>
    intro r M f v v' hd r0 r1 hfr hLof hI hc
    have hO : rf_O M co wi ta bo pa wy lc fo tu bl kl se ow := by unfold rf_O; rw [hfr 47 (by omega)]; exact hO0
    have hBox : M.2 48 = .inl (256, B) := by rw [hfr 48 (by omega)]; exact hB0
    refine mx_iload_n d_RM_findLines_30 rfl ?_
    refine mx_aload_n d_RM_findLines_31 rfl (by omega) ?_
    refine mx_gl d_RM_findLines_32 f_RM_73 hO rfl ?_
    refine mx_icmp_ge 126 d_RM_findLines_35 (by decide) (fun c35 => ?_) (fun c35 => ?_)
    · skip
      exact k M f r v v' hfr hLof (pu_done hF (by omega))
    · skip
      refine mx_iconst (0) d_RM_findLines_38 (by decide +kernel) (by unfold mv_r; omega) ?_
      refine mx_istore_n d_RM_findLines_39 (by decide) ?_
      refine rf_fl_a hO0 hwy hB0 hn0 hn hok hF ?_ (bo.toNat + 1) 0 M f v' (by omega) (by omega) hn0 hfr hLof (pu_rnd0 hI)
      intro M' f' a' v2 hfr' hLof' ha' hI'
      refine mx_iinc d_RM_findLines_120 rfl (by unfold mv_r; omega) ?_
      refine mx_goto 30 d_RM_findLines_123 (by decide) ?_
      exact ih (r + 1) M' f' _ _ (by omega) (by omega) (by omega) hfr' hLof' hI'.1 (pu_nf hn0 hF bf_nb_sym hI ha' hI' (by omega) hc)
theorem rf_fl_0 {Q : List mv_V → mv_M → Prop} {M0 : mv_M} {co wi ta bo pa wy lc fo tu bl kl se ow : Int} (hO0 : rf_O M0 co wi ta bo pa wy lc fo tu bl kl se ow) (hwy : wy = 0 ∨ wy = 1) {B : Int → Int} (hB0 : M0.2 48 = .inl (256, B)) (hn0 : 0 ≤ bo) (hn : bo ≤ 64) (hok : rf_ok bo B) {t : Int} {v3 v4 : mv_V} (k : ∀ M' f, bf_fr M0 M' 50 51 → M'.2 50 = .inl (64, f) → (∀ j, 0 ≤ j → j < bo → f j = j) → mv_W md_RM_findLines 30 [.inr 47, .inl t, .inl 0, v3, v4] [] M' (0, 0) Q) : ∀ (d : Nat) (i : Int) (M : mv_M) (f : Int → Int), bo - i < d → 0 ≤ i → i ≤ bo → bf_fr M0 M 50 51 → M.2 50 = .inl (64, f) → (∀ j, 0 ≤ j → j < i → f j = j) → mv_W md_RM_findLines 7 [.inr 47, .inl t, .inl i, v3, v4] [] M (0, 0) Q := by
  intro d
  induction d with
  | zero =>
    intro i M f hd i0 i1 hfr hLof hI
    exfalso; omega
  | succ d ih =>
    intro i M f hd i0 i1 hfr hLof hI
    have hO : rf_O M co wi ta bo pa wy lc fo tu bl kl se ow := by unfold rf_O; rw [hfr 47 (by omega)]; exact hO0
    have hBox : M.2 48 = .inl (256, B) := by rw [hfr 48 (by omega)]; exact hB0
    refine mx_iload_n d_RM_findLines_7 rfl ?_
    refine mx_aload_n d_RM_findLines_8 rfl (by omega) ?_
    refine mx_gl d_RM_findLines_9 f_RM_73 hO rfl ?_
    refine mx_icmp_ge 28 d_RM_findLines_12 (by decide) (fun c12 => ?_) (fun c12 => ?_)
    · skip
      refine mx_iconst (0) d_RM_findLines_28 (by decide +kernel) (by unfold mv_r; omega) ?_
      refine mx_istore_n d_RM_findLines_29 (by decide) ?_
      exact k M f hfr hLof (fun j j0 j1 => hI j j0 (by omega))
    · skip
      refine mx_aload_n d_RM_findLines_15 rfl (by omega) ?_
      refine mx_gl d_RM_findLines_16 f_RM_16 hO rfl ?_
      refine mx_iload_n d_RM_findLines_19 rfl ?_
      refine mx_iload_n d_RM_findLines_20 rfl ?_
      refine mx_iast d_RM_findLines_21 hLof (by omega) (by omega) (by omega) ?_
      refine mx_iinc d_RM_findLines_22 rfl (by unfold mv_r; omega) ?_
      refine mx_goto 7 d_RM_findLines_25 (by decide) ?_
      exact ih (i + 1) _ _ (by omega) (by omega) (by omega) (hfr.put (by omega) (by omega)) mv_ps (fun j j0 j1 => by
        by_cases hj : j = i
        · rw [hj, mv_ss]
        · rw [mv_sn hj]; exact hI j j0 (by omega))
theorem rf_fl_z {Q : List mv_V → mv_M → Prop} {M0 : mv_M} {co wi ta bo pa wy fo tu bl kl se ow : Int} (hn0 : 0 ≤ bo) (hn : bo ≤ 64) {f : Int → Int} (hL0 : M0.2 50 = .inl (64, f)) {t : Int} {v3 v4 : mv_V} (k : ∀ M' c E, (∀ j, j ≠ 47 → j ≠ 52 → M'.2 j = M0.2 j) → rf_O M' co wi ta bo pa wy c fo tu bl kl se ow → M'.2 52 = .inl (64, E) → pu_rts bo f c E → Q [.inl c] M') : ∀ (d : Nat) (i : Int) (M : mv_M) (c : Int) (E : Int → Int), bo - i < d → 0 ≤ i → i ≤ bo → (∀ j, j ≠ 47 → j ≠ 52 → M.2 j = M0.2 j) → rf_O M co wi ta bo pa wy c fo tu bl kl se ow → M.2 52 = .inl (64, E) → pu_rts i f c E → mv_W md_RM_findLines 133 [.inr 47, .inl t, .inl i, v3, v4] [] M (0, 0) Q := by
  intro d
  induction d with
  | zero =>
    intro i M c E hd i0 i1 hfr hO hLle hI
    exfalso; omega
  | succ d ih =>
    intro i M c E hd i0 i1 hfr hO hLle hI
    have hLof : M.2 50 = .inl (64, f) := by rw [hfr 50 (by omega) (by omega)]; exact hL0
    have hcc := pu_cnt_le (fun m => decide (f m = m)) i.toNat
    have hc1 := hI.1
    rw [← hc1] at hcc
    refine mx_iload_n d_RM_findLines_133 rfl ?_
    refine mx_aload_n d_RM_findLines_134 rfl (by omega) ?_
    refine mx_gl d_RM_findLines_135 f_RM_73 hO rfl ?_
    refine mx_icmp_ge 177 d_RM_findLines_138 (by decide) (fun c138 => ?_) (fun c138 => ?_)
    · skip
      refine mx_aload_n d_RM_findLines_177 rfl (by omega) ?_
      refine mx_gl d_RM_findLines_178 f_RM_113 hO rfl ?_
      refine mx_ireturn d_RM_findLines_181 rfl ?_
      exact k M c E hfr hO hLle ((show i = bo by omega) ▸ hI)
    · skip
      refine mx_aload_n d_RM_findLines_141 rfl (by omega) ?_
      refine mx_gl d_RM_findLines_142 f_RM_16 hO rfl ?_
      refine mx_iload_n d_RM_findLines_145 rfl ?_
      refine mx_iald d_RM_findLines_146 hLof (by omega) (by omega) ?_
      refine mx_iload_n d_RM_findLines_147 rfl ?_
      refine mx_icmp_ne 171 d_RM_findLines_148 (by decide) (fun c148 => ?_) (fun c148 => ?_)
      · skip
        refine mx_iinc d_RM_findLines_171 rfl (by unfold mv_r; omega) ?_
        refine mx_goto 133 d_RM_findLines_174 (by decide) ?_
        first | exact ih (i + 1) _ (c + 1) _ (by omega) (by omega) (by omega) (fun j j1 j2 => by rw [mv_pn j1, mv_pn j2]; exact hfr j j1 j2) mv_ps (by rw [mv_pn (by omega), mv_ps]) (pu_rts_y hI i0 (by omega)) | exact ih (i + 1) M c E (by omega) (by omega) (by omega) hfr hO hLle (pu_rts_n hI i0 (by omega))
      · skip
        refine mx_aload_n d_RM_findLines_151 rfl (by omega) ?_
        refine mx_gl d_RM_findLines_152 f_RM_22 hO rfl ?_
        refine mx_aload_n d_RM_findLines_155 rfl (by omega) ?_
        refine mx_gl d_RM_findLines_156 f_RM_113 hO rfl ?_
        refine mx_iload_n d_RM_findLines_159 rfl ?_
        refine mx_iast d_RM_findLines_160 hLle (by omega) (by omega) (by omega) ?_
        refine mx_aload_n d_RM_findLines_161 rfl (by omega) ?_
        refine mx_dup d_RM_findLines_162 ?_
        refine mx_gl d_RM_findLines_163 f_RM_113 (by rw [mv_pn (by omega)]; exact hO) rfl ?_
        refine mx_iconst (1) d_RM_findLines_166 (by decide +kernel) (by unfold mv_r; omega) ?_
        refine mx_iadd d_RM_findLines_167 (by unfold mv_r; omega) ?_
        refine mx_pl d_RM_findLines_168 g_RM_113 (by rw [mv_pn (by omega)]; exact hO) (mv_Vi _) (Nat.le_of_ble_eq_true rfl) ?_
        refine mx_iinc d_RM_findLines_171 rfl (by unfold mv_r; omega) ?_
        refine mx_goto 133 d_RM_findLines_174 (by decide) ?_
        first | exact ih (i + 1) _ (c + 1) _ (by omega) (by omega) (by omega) (fun j j1 j2 => by rw [mv_pn j1, mv_pn j2]; exact hfr j j1 j2) mv_ps (by rw [mv_pn (by omega), mv_ps]) (pu_rts_y hI i0 (by omega)) | exact ih (i + 1) M c E (by omega) (by omega) (by omega) hfr hO hLle (pu_rts_n hI i0 (by omega))
theorem rf_findLines {Q : List mv_V → mv_M → Prop} {M : mv_M} {co wi ta bo pa wy lc fo tu bl kl se ow : Int} (hO : rf_O M co wi ta bo pa wy lc fo tu bl kl se ow) {B : Int → Int} (hBox : M.2 48 = .inl (256, B)) {f0 E0 : Int → Int} (hLof : M.2 50 = .inl (64, f0)) (hLle : M.2 52 = .inl (64, E0)) (hn0 : 0 ≤ bo) (hn : bo ≤ 64) (hok : rf_ok bo B) {t : Int} (ht : t = 0 ∨ t = 1) (k : ∀ M' f E c, (∀ j, j ≠ 47 → j ≠ 50 → j ≠ 52 → M'.2 j = M.2 j) → rf_O M' co wi ta bo pa t c fo tu bl kl se ow → M'.2 50 = .inl (64, f) → M'.2 52 = .inl (64, E) → pu_lab bo (fun a b => a < b ∧ (bf_nb t (rf_l B) (rf_u B) (rf_r B) (rf_d B)) a b) f → pu_rts bo f c E → Q [.inl c] M') : mv_J md_RM_findLines [.inr 47, .inl t] M Q := by
  refine mv_enter (by decide +kernel) (Nat.le_of_ble_eq_true rfl) ?_
  show mv_W md_RM_findLines 0 [.inr 47, .inl t, .inr 0, .inr 0, .inr 0] [] M (0, 0) Q
  refine mx_aload_n d_RM_findLines_0 rfl (by omega) ?_
  refine mx_iload_n d_RM_findLines_1 rfl ?_
  refine mx_pl d_RM_findLines_2 g_RM_79 hO (mv_Vz ht) (Nat.le_of_ble_eq_true rfl) ?_
  refine mx_iconst (0) d_RM_findLines_5 (by decide +kernel) (by unfold mv_r; omega) ?_
  refine mx_istore_n d_RM_findLines_6 (by decide) ?_
  have hO1 : rf_O (mv_p M 47 (.inr (ki_RM, mv_l [.inl co, .inl wi, .inl ta, .inl bo, .inr 48, .inl pa, .inr 49, .inl t, .inr 50, .inl lc, .inr 51, .inr 52, .inr 53, .inl fo, .inl tu, .inl bl, .inr 54, .inr 55, .inr 56, .inr 57, .inr 58, .inl kl, .inr 59, .inr 60, .inr 61, .inr 62, .inl se, .inr 63, .inl ow]))) co wi ta bo pa t lc fo tu bl kl se ow := mv_ps
  have hfr1 : bf_fr M (mv_p M 47 (.inr (ki_RM, mv_l [.inl co, .inl wi, .inl ta, .inl bo, .inr 48, .inl pa, .inr 49, .inl t, .inr 50, .inl lc, .inr 51, .inr 52, .inr 53, .inl fo, .inl tu, .inl bl, .inr 54, .inr 55, .inr 56, .inr 57, .inr 58, .inl kl, .inr 59, .inr 60, .inr 61, .inr 62, .inl se, .inr 63, .inl ow]))) 47 48 := fun j hj => mv_pn (by omega)
  show mv_W md_RM_findLines 7 [.inr 47, .inl t, .inl 0, .inr 0, .inr 0] [] (mv_p M 47 (.inr (ki_RM, mv_l [.inl co, .inl wi, .inl ta, .inl bo, .inr 48, .inl pa, .inr 49, .inl t, .inr 50, .inl lc, .inr 51, .inr 52, .inr 53, .inl fo, .inl tu, .inl bl, .inr 54, .inr 55, .inr 56, .inr 57, .inr 58, .inl kl, .inr 59, .inr 60, .inr 61, .inr 62, .inl se, .inr 63, .inl ow]))) (0, 0) Q
  generalize mv_p M 47 _ = M1 at hO1 hfr1 ⊢
  have hB1 : M1.2 48 = .inl (256, B) := by rw [hfr1 48 (by omega)]; exact hBox
  refine rf_fl_0 hO1 ht hB1 hn0 hn hok ?_ (bo.toNat + 1) 0 M1 f0 (by omega) (by omega) hn0 bf_fr.refl (by rw [hfr1 50 (by omega)]; exact hLof) (fun j j0 j1 => by omega)
  intro M2 f2 hfr2 hLof2 hf2
  have hO2 : rf_O M2 co wi ta bo pa t lc fo tu bl kl se ow := by unfold rf_O; rw [hfr2 47 (by omega)]; exact hO1
  obtain ⟨Fl, hFl⟩ := pu_ex (n := bo) (bf_nb t (rf_l B) (rf_u B) (rf_r B) (rf_d B)) hn0
  have hrx : pu_rx bo Fl f2 := fun a a0 a1 => by rw [hf2 a a0 a1]; have := hFl.1 a a0 a1; omega
  refine rf_fl_r hO2 ht (by rw [hfr2 48 (by omega)]; exact hB1) hn0 hn hok hFl ?_ (bo.toNat + 1) 0 M2 f2 _ _ (by omega) (by omega) hn0 bf_fr.refl hLof2 hrx (by have := pu_cnt_le (fun x => decide (f2 x ≠ Fl x)) bo.toNat; omega)
  intro M3 f3 r3 v3 v4 hfr3 hLof3 hlab3
  have hO3 : rf_O M3 co wi ta bo pa t lc fo tu bl kl se ow := by unfold rf_O; rw [hfr3 47 (by omega)]; exact hO2
  refine mx_aload_n d_RM_findLines_126 rfl (by omega) ?_
  refine mx_iconst (0) d_RM_findLines_127 (by decide +kernel) (by unfold mv_r; omega) ?_
  refine mx_pl d_RM_findLines_128 g_RM_113 hO3 (mv_Vi _) (Nat.le_of_ble_eq_true rfl) ?_
  refine mx_iconst (0) d_RM_findLines_131 (by decide +kernel) (by unfold mv_r; omega) ?_
  refine mx_istore_n d_RM_findLines_132 (by decide) ?_
  refine rf_fl_z (M0 := M3) hn0 hn hLof3 ?_ (bo.toNat + 1) 0 _ 0 E0 (by omega) (by omega) hn0 (fun j j1 j2 => mv_pn j1) mv_ps (by rw [mv_pn (by omega), hfr3 52 (by omega), hfr2 52 (by omega), hfr1 52 (by omega)]; exact hLle) pu_rts0
  intro M4 c4 E4 hfr4 hO4 hLle4 hrt4
  exact k M4 f3 E4 c4 (fun j j1 j2 j3 => by rw [hfr4 j j1 j3, hfr3 j (by omega), hfr2 j (by omega), hfr1 j (by omega)]) hO4 (by rw [hfr4 50 (by omega) (by omega)]; exact hLof3) hLle4 hlab3 hrt4
