/-! the reference: blocks found, the line of a box, panes -/
theorem rf_fb_b {Q : List mv_V → mv_M → Prop} {M0 : mv_M} {co wi ta bo pa wy lc fo tu bl kl se ow : Int} (hO0 : rf_O M0 co wi ta bo pa wy lc fo tu bl kl se ow) (hwy : wy = 0 ∨ wy = 1) {L : Int → Int} (hL0 : M0.2 51 = .inl (256, L)) (hn0 : 0 ≤ lc) (hn : lc ≤ 64) (hok : rf_ok lc L) {F : Int → Int} (hF : pu_lab lc (fun a b => a < b ∧ (bf_nl wy (rf_l L) (rf_u L) (rf_r L) (rf_d L)) a b) F) {S0 : Int → Prop} {r a : Int} (a0 : 0 ≤ a) (a1 : a < lc) (k : ∀ M' f b, bf_fr M0 M' 53 54 → M'.2 53 = .inl (64, f) → lc ≤ b → pu_rnd lc (bf_nl wy (rf_l L) (rf_u L) (rf_r L) (rf_d L)) F S0 a b f → mv_W md_RM_findBlocks 110 [.inr 47, .inl r, .inl a, .inl b] [] M' (0, 0) Q) : ∀ (d : Nat) (b : Int) (M : mv_M) (f : Int → Int), lc - b < d → 0 ≤ b → b ≤ lc → bf_fr M0 M 53 54 → M.2 53 = .inl (64, f) → pu_rnd lc (bf_nl wy (rf_l L) (rf_u L) (rf_r L) (rf_d L)) F S0 a b f → mv_W md_RM_findBlocks 45 [.inr 47, .inl r, .inl a, .inl b] [] M (0, 0) Q := by
  intro d
  induction d with
  | zero =>
    intro b M f hd b0 b1 hfr hBof hI
    exfalso; omega
  | succ d ih =>
    intro b M f hd b0 b1 hfr hBof hI
    have hO : rf_O M co wi ta bo pa wy lc fo tu bl kl se ow := by unfold rf_O; rw [hfr 47 (by omega)]; exact hO0
    have hLin : M.2 51 = .inl (256, L) := by rw [hfr 51 (by omega)]; exact hL0
    refine mx_iload_n d_RM_findBlocks_45 rfl ?_
    refine mx_aload_n d_RM_findBlocks_46 rfl (by omega) ?_
    refine mx_gl d_RM_findBlocks_47 f_RM_113 hO rfl ?_
    refine mx_icmp_ge 110 d_RM_findBlocks_50 (by decide) (fun c50 => ?_) (fun c50 => ?_)
    · skip
      exact k M f b hfr hBof (by omega) hI
    · skip
      refine mx_aload_n d_RM_findBlocks_53 rfl (by omega) ?_
      refine mx_gl d_RM_findBlocks_54 f_RM_25 hO rfl ?_
      refine mx_iload_n d_RM_findBlocks_57 rfl ?_
      refine mx_aload_n d_RM_findBlocks_58 rfl (by omega) ?_
      refine mx_gl d_RM_findBlocks_59 f_RM_25 hO rfl ?_
      refine mx_iload_n d_RM_findBlocks_62 rfl ?_
      refine mx_iald d_RM_findBlocks_63 hBof (by omega) (by omega) ?_
      refine mx_aload_n d_RM_findBlocks_64 rfl (by omega) ?_
      refine mx_gl d_RM_findBlocks_65 f_RM_25 hO rfl ?_
      refine mx_iload_n d_RM_findBlocks_68 rfl ?_
      refine mx_iald d_RM_findBlocks_69 hBof (by omega) (by omega) ?_
      refine mx_icmp_ge 97 d_RM_findBlocks_70 (by decide) (fun c70 => ?_) (fun c70 => ?_)
      · skip
        refine mx_aload_n d_RM_findBlocks_97 rfl (by omega) ?_
        refine mx_gl d_RM_findBlocks_98 f_RM_25 hO rfl ?_
        refine mx_iload_n d_RM_findBlocks_101 rfl ?_
        refine mx_iald d_RM_findBlocks_102 hBof (by omega) (by omega) ?_
        refine mx_iast d_RM_findBlocks_103 hBof (by omega) (by omega) (by omega) ?_
        refine mx_iinc d_RM_findBlocks_104 rfl (by unfold mv_r; omega) ?_
        refine mx_goto 45 d_RM_findBlocks_107 (by decide) ?_
        first | exact ih (b + 1) _ _ (by omega) (by omega) (by omega) (hfr.put (by omega) (by omega)) mv_ps (pu_rnd_s hF bf_nl_sym hI a0 a1 b0 (by omega) (Or.inl ⟨rfl, by omega, hnb⟩)) | exact ih (b + 1) _ _ (by omega) (by omega) (by omega) (hfr.put (by omega) (by omega)) mv_ps (pu_rnd_s hF bf_nl_sym hI a0 a1 b0 (by omega) (Or.inr ⟨rfl, fun q => hnb q.2⟩)) | exact ih (b + 1) _ _ (by omega) (by omega) (by omega) (hfr.put (by omega) (by omega)) mv_ps (pu_rnd_s hF bf_nl_sym hI a0 a1 b0 (by omega) (Or.inr ⟨rfl, fun q => by have := q.1; omega⟩))
      · skip
        refine mx_aload_n d_RM_findBlocks_73 rfl (by omega) ?_
        refine mx_bipush (64) d_RM_findBlocks_74 (by decide +kernel) (by unfold mv_r; omega) ?_
        refine mx_iload_n d_RM_findBlocks_76 rfl ?_
        refine mx_iadd d_RM_findBlocks_77 (by unfold mv_r; omega) ?_
        refine mx_bipush (64) d_RM_findBlocks_78 (by decide +kernel) (by unfold mv_r; omega) ?_
        refine mx_iload_n d_RM_findBlocks_80 rfl ?_
        refine mx_iadd d_RM_findBlocks_81 (by unfold mv_r; omega) ?_
        refine mx_cV2 d_RM_findBlocks_82 c_RM_123 hO (by decide) (Nat.le_of_ble_eq_true rfl) ?_
        refine rf_areLinesNear hO hwy hLin hn hok a0 a1 b0 (by omega) (fun hnb => ?_) (fun hnb => ?_)
        · skip
          refine mx_z1 97 d_RM_findBlocks_85 (by decide) ?_
          refine mx_aload_n d_RM_findBlocks_88 rfl (by omega) ?_
          refine mx_gl d_RM_findBlocks_89 f_RM_25 hO rfl ?_
          refine mx_iload_n d_RM_findBlocks_92 rfl ?_
          refine mx_iald d_RM_findBlocks_93 hBof (by omega) (by omega) ?_
          refine mx_goto 103 d_RM_findBlocks_94 (by decide) ?_
          refine mx_iast d_RM_findBlocks_103 hBof (by omega) (by omega) (by omega) ?_
          refine mx_iinc d_RM_findBlocks_104 rfl (by unfold mv_r; omega) ?_
          refine mx_goto 45 d_RM_findBlocks_107 (by decide) ?_
          first | exact ih (b + 1) _ _ (by omega) (by omega) (by omega) (hfr.put (by omega) (by omega)) mv_ps (pu_rnd_s hF bf_nl_sym hI a0 a1 b0 (by omega) (Or.inl ⟨rfl, by omega, hnb⟩)) | exact ih (b + 1) _ _ (by omega) (by omega) (by omega) (hfr.put (by omega) (by omega)) mv_ps (pu_rnd_s hF bf_nl_sym hI a0 a1 b0 (by omega) (Or.inr ⟨rfl, fun q => hnb q.2⟩)) | exact ih (b + 1) _ _ (by omega) (by omega) (by omega) (hfr.put (by omega) (by omega)) mv_ps (pu_rnd_s hF bf_nl_sym hI a0 a1 b0 (by omega) (Or.inr ⟨rfl, fun q => by have := q.1; omega⟩))
        · skip
          refine mx_z0 97 d_RM_findBlocks_85 (by decide) ?_
          refine mx_aload_n d_RM_findBlocks_97 rfl (by omega) ?_
          refine mx_gl d_RM_findBlocks_98 f_RM_25 hO rfl ?_
          refine mx_iload_n d_RM_findBlocks_101 rfl ?_
          refine mx_iald d_RM_findBlocks_102 hBof (by omega) (by omega) ?_
          refine mx_iast d_RM_findBlocks_103 hBof (by omega) (by omega) (by omega) ?_
          refine mx_iinc d_RM_findBlocks_104 rfl (by unfold mv_r; omega) ?_
          refine mx_goto 45 d_RM_findBlocks_107 (by decide) ?_
          first | exact ih (b + 1) _ _ (by omega) (by omega) (by omega) (hfr.put (by omega) (by omega)) mv_ps (pu_rnd_s hF bf_nl_sym hI a0 a1 b0 (by omega) (Or.inl ⟨rfl, by omega, hnb⟩)) | exact ih (b + 1) _ _ (by omega) (by omega) (by omega) (hfr.put (by omega) (by omega)) mv_ps (pu_rnd_s hF bf_nl_sym hI a0 a1 b0 (by omega) (Or.inr ⟨rfl, fun q => hnb q.2⟩)) | exact ih (b + 1) _ _ (by omega) (by omega) (by omega) (hfr.put (by omega) (by omega)) mv_ps (pu_rnd_s hF bf_nl_sym hI a0 a1 b0 (by omega) (Or.inr ⟨rfl, fun q => by have := q.1; omega⟩))
theorem rf_fb_a {Q : List mv_V → mv_M → Prop} {M0 : mv_M} {co wi ta bo pa wy lc fo tu bl kl se ow : Int} (hO0 : rf_O M0 co wi ta bo pa wy lc fo tu bl kl se ow) (hwy : wy = 0 ∨ wy = 1) {L : Int → Int} (hL0 : M0.2 51 = .inl (256, L)) (hn0 : 0 ≤ lc) (hn : lc ≤ 64) (hok : rf_ok lc L) {F : Int → Int} (hF : pu_lab lc (fun a b => a < b ∧ (bf_nl wy (rf_l L) (rf_u L) (rf_r L) (rf_d L)) a b) F) {S0 : Int → Prop} {r : Int} (k : ∀ M' f a v, bf_fr M0 M' 53 54 → M'.2 53 = .inl (64, f) → lc ≤ a → pu_rnd lc (bf_nl wy (rf_l L) (rf_u L) (rf_r L) (rf_d L)) F S0 a 0 f → mv_W md_RM_findBlocks 116 [.inr 47, .inl r, .inl a, v] [] M' (0, 0) Q) : ∀ (d : Nat) (a : Int) (M : mv_M) (f : Int → Int) (v : mv_V), lc - a < d → 0 ≤ a → a ≤ lc → bf_fr M0 M 53 54 → M.2 53 = .inl (64, f) → pu_rnd lc (bf_nl wy (rf_l L) (rf_u L) (rf_r L) (rf_d L)) F S0 a 0 f → mv_W md_RM_findBlocks 35 [.inr 47, .inl r, .inl a, v] [] M (0, 0) Q := by
  intro d
  induction d with
  | zero =>
    intro a M f v hd a0 a1 hfr hBof hI
    exfalso; omega
  | succ d ih =>
    intro a M f v hd a0 a1 hfr hBof hI
    have hO : rf_O M co wi ta bo pa wy lc fo tu bl kl se ow := by unfold rf_O; rw [hfr 47 (by omega)]; exact hO0
    have hLin : M.2 51 = .inl (256, L) := by rw [hfr 51 (by omega)]; exact hL0
    refine mx_iload_n d_RM_findBlocks_35 rfl ?_
    refine mx_aload_n d_RM_findBlocks_36 rfl (by omega) ?_
    refine mx_gl d_RM_findBlocks_37 f_RM_113 hO rfl ?_
    refine mx_icmp_ge 116 d_RM_findBlocks_40 (by decide) (fun c40 => ?_) (fun c40 => ?_)
    · skip
      exact k M f a v hfr hBof (by omega) hI
    · skip
      refine mx_iconst (0) d_RM_findBlocks_43 (by decide +kernel) (by unfold mv_r; omega) ?_
      refine mx_istore_n d_RM_findBlocks_44 (by decide) ?_
      refine rf_fb_b hO0 hwy hL0 hn0 hn hok hF a0 (by omega) ?_ (lc.toNat + 1) 0 M f (by omega) (by omega) hn0 hfr hBof hI
      intro M' f' b' hfr' hBof' hb' hI'
      refine mx_iinc d_RM_findBlocks_110 rfl (by unfold mv_r; omega) ?_
      refine mx_goto 35 d_RM_findBlocks_113 (by decide) ?_
      exact ih (a + 1) M' f' _ (by omega) (by omega) (by omega) hfr' hBof' (pu_rnd_row hI' hb')
theorem rf_fb_r {Q : List mv_V → mv_M → Prop} {M0 : mv_M} {co wi ta bo pa wy lc fo tu bl kl se ow : Int} (hO0 : rf_O M0 co wi ta bo pa wy lc fo tu bl kl se ow) (hwy : wy = 0 ∨ wy = 1) {L : Int → Int} (hL0 : M0.2 51 = .inl (256, L)) (hn0 : 0 ≤ lc) (hn : lc ≤ 64) (hok : rf_ok lc L) {F : Int → Int} (hF : pu_lab lc (fun a b => a < b ∧ (bf_nl wy (rf_l L) (rf_u L) (rf_r L) (rf_d L)) a b) F) (k : ∀ M' f, bf_fr M0 M' 53 54 → M'.2 53 = .inl (64, f) → pu_lab lc (fun a b => a < b ∧ (bf_nl wy (rf_l L) (rf_u L) (rf_r L) (rf_d L)) a b) f → Q [] M') : ∀ (d : Nat) (r : Int) (M : mv_M) (f : Int → Int) (v v' : mv_V), lc - r < d → 0 ≤ r → r ≤ lc → bf_fr M0 M 53 54 → M.2 53 = .inl (64, f) → pu_rx lc F f → pu_cnt (fun x => decide (f x ≠ F x)) lc.toNat ≤ lc - r → mv_W md_RM_findBlocks 25 [.inr 47, .inl r, v, v'] [] M (0, 0) Q := by
  intro d
  induction d with
  | zero =>
    intro r M f v v' hd r0 r1 hfr hBof hI hc
    exfalso; omega
  | succ d ih =>
    intro r M f v v' hd r0 r1 hfr hBof hI hc
    have hO : rf_O M co wi ta bo pa wy lc fo tu bl kl se ow := by unfold rf_O; rw [hfr 47 (by omega)]; exact hO0
    have hLin : M.2 51 = .inl (256, L) := by rw [hfr 51 (by omega)]; exact hL0
    refine mx_iload_n d_RM_findBlocks_25 rfl ?_
    refine mx_aload_n d_RM_findBlocks_26 rfl (by omega) ?_
    refine mx_gl d_RM_findBlocks_27 f_RM_113 hO rfl ?_
    refine mx_icmp_ge 122 d_RM_findBlocks_30 (by decide) (fun c30 => ?_) (fun c30 => ?_)
    · skip
      refine mx_return d_RM_findBlocks_122 rfl ?_
      exact k M f hfr hBof (pu_done hF (by omega))
    · skip
      refine mx_iconst (0) d_RM_findBlocks_33 (by decide +kernel) (by unfold mv_r; omega) ?_
      refine mx_istore_n d_RM_findBlocks_34 (by decide) ?_
      refine rf_fb_a hO0 hwy hL0 hn0 hn hok hF ?_ (lc.toNat + 1) 0 M f v' (by omega) (by omega) hn0 hfr hBof (pu_rnd0 hI)
      intro M' f' a' v2 hfr' hBof' ha' hI'
      refine mx_iinc d_RM_findBlocks_116 rfl (by unfold mv_r; omega) ?_
      refine mx_goto 25 d_RM_findBlocks_119 (by decide) ?_
      exact ih (r + 1) M' f' _ _ (by omega) (by omega) (by omega) hfr' hBof' hI'.1 (pu_nf hn0 hF bf_nl_sym hI ha' hI' (by omega) hc)
theorem rf_fb_0 {Q : List mv_V → mv_M → Prop} {M0 : mv_M} {co wi ta bo pa wy lc fo tu bl kl se ow : Int} (hO0 : rf_O M0 co wi ta bo pa wy lc fo tu bl kl se ow) (hwy : wy = 0 ∨ wy = 1) {L : Int → Int} (hL0 : M0.2 51 = .inl (256, L)) (hn0 : 0 ≤ lc) (hn : lc ≤ 64) (hok : rf_ok lc L) {v2 v3 : mv_V} (k : ∀ M' f, bf_fr M0 M' 53 54 → M'.2 53 = .inl (64, f) → (∀ j, 0 ≤ j → j < lc → f j = j) → mv_W md_RM_findBlocks 25 [.inr 47, .inl 0, v2, v3] [] M' (0, 0) Q) : ∀ (d : Nat) (i : Int) (M : mv_M) (f : Int → Int), lc - i < d → 0 ≤ i → i ≤ lc → bf_fr M0 M 53 54 → M.2 53 = .inl (64, f) → (∀ j, 0 ≤ j → j < i → f j = j) → mv_W md_RM_findBlocks 2 [.inr 47, .inl i, v2, v3] [] M (0, 0) Q := by
  intro d
  induction d with
  | zero =>
    intro i M f hd i0 i1 hfr hBof hI
    exfalso; omega
  | succ d ih =>
    intro i M f hd i0 i1 hfr hBof hI
    have hO : rf_O M co wi ta bo pa wy lc fo tu bl kl se ow := by unfold rf_O; rw [hfr 47 (by omega)]; exact hO0
    have hLin : M.2 51 = .inl (256, L) := by rw [hfr 51 (by omega)]; exact hL0
    refine mx_iload_n d_RM_findBlocks_2 rfl ?_
    refine mx_aload_n d_RM_findBlocks_3 rfl (by omega) ?_
    refine mx_gl d_RM_findBlocks_4 f_RM_113 hO rfl ?_
    refine mx_icmp_ge 23 d_RM_findBlocks_7 (by decide) (fun c7 => ?_) (fun c7 => ?_)
    · skip
      refine mx_iconst (0) d_RM_findBlocks_23 (by decide +kernel) (by unfold mv_r; omega) ?_
      refine mx_istore_n d_RM_findBlocks_24 (by decide) ?_
      exact k M f hfr hBof (fun j j0 j1 => hI j j0 (by omega))
    · skip
      refine mx_aload_n d_RM_findBlocks_10 rfl (by omega) ?_
      refine mx_gl d_RM_findBlocks_11 f_RM_25 hO rfl ?_
      refine mx_iload_n d_RM_findBlocks_14 rfl ?_
      refine mx_iload_n d_RM_findBlocks_15 rfl ?_
      refine mx_iast d_RM_findBlocks_16 hBof (by omega) (by omega) (by omega) ?_
      refine mx_iinc d_RM_findBlocks_17 rfl (by unfold mv_r; omega) ?_
      refine mx_goto 2 d_RM_findBlocks_20 (by decide) ?_
      exact ih (i + 1) _ _ (by omega) (by omega) (by omega) (hfr.put (by omega) (by omega)) mv_ps (fun j j0 j1 => by
        by_cases hj : j = i
        · rw [hj, mv_ss]
        · rw [mv_sn hj]; exact hI j j0 (by omega))
theorem rf_findBlocks {Q : List mv_V → mv_M → Prop} {M : mv_M} {co wi ta bo pa wy lc fo tu bl kl se ow : Int} (hO0 : rf_O M co wi ta bo pa wy lc fo tu bl kl se ow) (hwy : wy = 0 ∨ wy = 1) {L : Int → Int} (hL0 : M.2 51 = .inl (256, L)) (hn0 : 0 ≤ lc) (hn : lc ≤ 64) (hok : rf_ok lc L) {f0 : Int → Int} (hf0 : M.2 53 = .inl (64, f0)) (k : ∀ M' f, bf_fr M M' 53 54 → M'.2 53 = .inl (64, f) → pu_lab lc (fun a b => a < b ∧ (bf_nl wy (rf_l L) (rf_u L) (rf_r L) (rf_d L)) a b) f → Q [] M') : mv_J md_RM_findBlocks [.inr 47] M Q := by
  refine mv_enter (by decide +kernel) (Nat.le_of_ble_eq_true rfl) ?_
  show mv_W md_RM_findBlocks 0 [.inr 47, .inr 0, .inr 0, .inr 0] [] M (0, 0) Q
  refine mx_iconst (0) d_RM_findBlocks_0 (by decide +kernel) (by unfold mv_r; omega) ?_
  refine mx_istore_n d_RM_findBlocks_1 (by decide) ?_
  refine rf_fb_0 hO0 hwy hL0 hn0 hn hok ?_ (lc.toNat + 1) 0 M f0 (by omega) (by omega) hn0 bf_fr.refl hf0 (fun j j0 j1 => by omega)
  intro M2 f2 hfr2 hBof2 hf2
  have hO2 : rf_O M2 co wi ta bo pa wy lc fo tu bl kl se ow := by unfold rf_O; rw [hfr2 47 (by omega)]; exact hO0
  obtain ⟨Fl, hFl⟩ := pu_ex (n := lc) (bf_nl wy (rf_l L) (rf_u L) (rf_r L) (rf_d L)) hn0
  have hrx : pu_rx lc Fl f2 := fun a a0 a1 => by rw [hf2 a a0 a1]; have := hFl.1 a a0 a1; omega
  refine rf_fb_r hO2 hwy (by rw [hfr2 51 (by omega)]; exact hL0) hn0 hn hok hFl ?_ (lc.toNat + 1) 0 M2 f2 _ _ (by omega) (by omega) hn0 bf_fr.refl hBof2 hrx (by have := pu_cnt_le (fun x => decide (f2 x ≠ Fl x)) lc.toNat; omega)
  intro M3 f3 hfr3 hBof3 hlab3
  exact k M3 f3 (hfr2.trans hfr3) hBof3 hlab3
theorem rf_la_l {Q : List mv_V → mv_M → Prop} {M : mv_M} {co wi ta bo pa wy lc fo tu bl kl se ow : Int} (hO : rf_O M co wi ta bo pa wy lc fo tu bl kl se ow) {f E : Int → Int} (hLof : M.2 50 = .inl (64, f)) (hLle : M.2 52 = .inl (64, E)) {q p : Int} (q0 : 0 ≤ q) (q1 : q < 64) (p1 : p < 64) (hp : E p = f q) (k : ∀ l, 0 ≤ l → l ≤ p → E l = f q → Q [.inl l] M) : ∀ (d : Nat) (l : Int), p - l < d → 0 ≤ l → l ≤ p → mv_W md_RM_lineAt 2 [.inr 47, .inl q, .inl l] [] M (0, 0) Q := by
  intro d
  induction d with
  | zero =>
    intro l h1 h2 h3
    exfalso; omega
  | succ d ih =>
    intro l hd l0 l1
    refine mx_aload_n d_RM_lineAt_2 rfl (by omega) ?_
    refine mx_gl d_RM_lineAt_3 f_RM_22 hO rfl ?_
    refine mx_iload_n d_RM_lineAt_6 rfl ?_
    refine mx_iald d_RM_lineAt_7 hLle (by omega) (by omega) ?_
    refine mx_aload_n d_RM_lineAt_8 rfl (by omega) ?_
    refine mx_gl d_RM_lineAt_9 f_RM_16 hO rfl ?_
    refine mx_iload_n d_RM_lineAt_12 rfl ?_
    refine mx_iald d_RM_lineAt_13 hLof (by omega) (by omega) ?_
    refine mx_icmp_eq 23 d_RM_lineAt_14 (by decide) (fun c14 => ?_) (fun c14 => ?_)
    · skip
      refine mx_iload_n d_RM_lineAt_23 rfl ?_
      refine mx_ireturn d_RM_lineAt_24 rfl ?_
      exact k l l0 l1 (by omega)
    · skip
      refine mx_iinc d_RM_lineAt_17 rfl (by unfold mv_r; omega) ?_
      refine mx_goto 2 d_RM_lineAt_20 (by decide) ?_
      exact ih (l + 1) (by omega) (by omega) (by
        by_cases hlp : l = p
        · rw [hlp] at c14; exact absurd hp c14
        · omega)
theorem rf_lineAt {Q : List mv_V → mv_M → Prop} {M : mv_M} {co wi ta bo pa wy lc fo tu bl kl se ow : Int} (hO : rf_O M co wi ta bo pa wy lc fo tu bl kl se ow) {f E : Int → Int} (hLof : M.2 50 = .inl (64, f)) (hLle : M.2 52 = .inl (64, E)) {q p : Int} (q0 : 0 ≤ q) (q1 : q < 64) (p0 : 0 ≤ p) (p1 : p < 64) (hp : E p = f q) (k : ∀ l, 0 ≤ l → l ≤ p → E l = f q → Q [.inl l] M) : mv_J md_RM_lineAt [.inr 47, .inl q] M Q := by
  refine mv_enter (by decide +kernel) (Nat.le_of_ble_eq_true rfl) ?_
  show mv_W md_RM_lineAt 0 [.inr 47, .inl q, .inr 0] [] M (0, 0) Q
  refine mx_iconst (0) d_RM_lineAt_0 (by decide +kernel) (by unfold mv_r; omega) ?_
  refine mx_istore_n d_RM_lineAt_1 (by decide) ?_
  exact rf_la_l hO hLof hLle q0 q1 p1 hp k (p.toNat + 1) 0 (by omega) (by omega) p0
theorem rf_ip_l {Q : List mv_V → mv_M → Prop} {M : mv_M} {co wi ta bo pa wy lc fo tu bl kl se ow : Int} (hO : rf_O M co wi ta bo pa wy lc fo tu bl kl se ow) {N K : Int → Int} (hPan : M.2 49 = .inl (32, N)) (hBlk : M.2 54 = .inl (256, K)) (pa0 : 0 ≤ pa) (pa8 : pa ≤ 8) (hpo : rf_ok pa N) {b : Int} (b0 : 0 ≤ b) (b1 : b < 64) (hbb : 0 ≤ rf_l K b ∧ rf_l K b < rf_r K b ∧ rf_r K b ≤ 4096 ∧ 0 ≤ rf_u K b ∧ rf_u K b < rf_d K b ∧ rf_d K b ≤ 4096) (k1 : bf_inp pa (rf_l N) (rf_u N) (rf_r N) (rf_d N) (rf_l K) (rf_u K) (rf_r K) (rf_d K) b → Q [.inl 1] M) (k0 : ¬ bf_inp pa (rf_l N) (rf_u N) (rf_r N) (rf_d N) (rf_l K) (rf_u K) (rf_r K) (rf_d K) b → Q [.inl 0] M) : ∀ (d : Nat) (p is : Int) (v4 v5 : mv_V), pa - p < d → 0 ≤ p → p ≤ pa → ((is = 1 ∧ ∃ q, 0 ≤ q ∧ q < p ∧ bf_enc (rf_l N) (rf_u N) (rf_r N) (rf_d N) (rf_l K) (rf_u K) (rf_r K) (rf_d K) q b) ∨ (is = 0 ∧ ∀ q, 0 ≤ q → q < p → ¬ bf_enc (rf_l N) (rf_u N) (rf_r N) (rf_d N) (rf_l K) (rf_u K) (rf_r K) (rf_d K) q b)) → mv_W md_RM_isInPane 4 [.inr 47, .inl b, .inl is, .inl p, v4, v5] [] M (0, 0) Q := by
  intro d
  induction d with
  | zero =>
    intro p is v4 v5 h1 h2 h3
    exfalso; omega
  | succ d ih =>
    intro p is v4 v5 hd p0 p1 hI
    have hisv : is = 0 ∨ is = 1 := by rcases hI with ⟨q, _⟩ | ⟨q, _⟩ <;> omega
    refine mx_iload_n d_RM_isInPane_4 rfl ?_
    refine mx_aload_n d_RM_isInPane_5 rfl (by omega) ?_
    refine mx_gl d_RM_isInPane_6 f_RM_76 hO rfl ?_
    refine mx_icmp_ge 180 d_RM_isInPane_9 (by decide) (fun c9 => ?_) (fun c9 => ?_)
    · skip
      refine mx_iload_n d_RM_isInPane_180 rfl ?_
      refine mx_zreturn d_RM_isInPane_181 rfl (by omega) ?_
      rcases hI with ⟨e, q, q0, q1, q2⟩ | ⟨e, hq⟩
      · rw [e]; exact k1 ⟨q, q0, by omega, q2⟩
      · rw [e]; exact k0 (fun ⟨q, q0, q1, q2⟩ => hq q q0 (by omega) q2)
    · skip
      have hpp := hpo p p0 (by omega)
      have hu1 : rf_l K b = K (4 * b) ∧ rf_u K b = K (4 * b + 1) ∧ rf_r K b = K (4 * b) + K (4 * b + 2) ∧ rf_d K b = K (4 * b + 1) + K (4 * b + 3) := ⟨rfl, rfl, rfl, rfl⟩
      have hu2 : rf_l N p = N (4 * p) ∧ rf_u N p = N (4 * p + 1) ∧ rf_r N p = N (4 * p) + N (4 * p + 2) ∧ rf_d N p = N (4 * p + 1) + N (4 * p + 3) := ⟨rfl, rfl, rfl, rfl⟩
      refine mx_aload_n d_RM_isInPane_12 rfl (by omega) ?_
      refine mx_gl d_RM_isInPane_13 f_RM_28 hO rfl ?_
      refine mx_iconst (4) d_RM_isInPane_16 (by decide +kernel) (by unfold mv_r; omega) ?_
      refine mx_iload_n d_RM_isInPane_17 rfl ?_
      refine mx_imul d_RM_isInPane_18 (by unfold mv_r; omega) ?_
      refine mx_iald d_RM_isInPane_19 hBlk (by omega) (by omega) ?_
      refine mx_aload_n d_RM_isInPane_20 rfl (by omega) ?_
      refine mx_gl d_RM_isInPane_21 f_RM_13 hO rfl ?_
      refine mx_iconst (4) d_RM_isInPane_24 (by decide +kernel) (by unfold mv_r; omega) ?_
      refine mx_iload_n d_RM_isInPane_25 rfl ?_
      refine mx_imul d_RM_isInPane_26 (by unfold mv_r; omega) ?_
      refine mx_iald d_RM_isInPane_27 hPan (by omega) (by omega) ?_
      refine mx_icmp_lt 76 d_RM_isInPane_28 (by decide) (fun c28 => ?_) (fun c28 => ?_)
      · skip
        refine mx_iconst (0) d_RM_isInPane_76 (by decide +kernel) (by unfold mv_r; omega) ?_
        refine mx_istore d_RM_isInPane_77 (by decide) ?_
        refine mx_aload_n d_RM_isInPane_79 rfl (by omega) ?_
        refine mx_gl d_RM_isInPane_80 f_RM_28 hO rfl ?_
        refine mx_iconst (4) d_RM_isInPane_83 (by decide +kernel) (by unfold mv_r; omega) ?_
        refine mx_iload_n d_RM_isInPane_84 rfl ?_
        refine mx_imul d_RM_isInPane_85 (by unfold mv_r; omega) ?_
        refine mx_iconst (1) d_RM_isInPane_86 (by decide +kernel) (by unfold mv_r; omega) ?_
        refine mx_iadd d_RM_isInPane_87 (by unfold mv_r; omega) ?_
        refine mx_iald d_RM_isInPane_88 hBlk (by omega) (by omega) ?_
        refine mx_aload_n d_RM_isInPane_89 rfl (by omega) ?_
        refine mx_gl d_RM_isInPane_90 f_RM_13 hO rfl ?_
        refine mx_iconst (4) d_RM_isInPane_93 (by decide +kernel) (by unfold mv_r; omega) ?_
        refine mx_iload_n d_RM_isInPane_94 rfl ?_
        refine mx_imul d_RM_isInPane_95 (by unfold mv_r; omega) ?_
        refine mx_iconst (1) d_RM_isInPane_96 (by decide +kernel) (by unfold mv_r; omega) ?_
        refine mx_iadd d_RM_isInPane_97 (by unfold mv_r; omega) ?_
        refine mx_iald d_RM_isInPane_98 hPan (by omega) (by omega) ?_
        refine mx_icmp_lt 151 d_RM_isInPane_99 (by decide) (fun c99 => ?_) (fun c99 => ?_)
        · skip
          refine mx_iconst (0) d_RM_isInPane_151 (by decide +kernel) (by unfold mv_r; omega) ?_
          refine mx_istore d_RM_isInPane_152 (by decide) ?_
          refine mx_iload_n d_RM_isInPane_154 rfl ?_
          refine mx_if_ne 168 d_RM_isInPane_155 (by decide) (fun c155 => ?_) (fun c155 => ?_)
          · skip
            refine mx_iconst (1) d_RM_isInPane_168 (by decide +kernel) (by unfold mv_r; omega) ?_
            refine mx_goto 173 d_RM_isInPane_169 (by decide) ?_
            refine mx_istore_n d_RM_isInPane_173 (by decide) ?_
            refine mx_iinc d_RM_isInPane_174 rfl (by unfold mv_r; omega) ?_
            refine mx_goto 4 d_RM_isInPane_177 (by decide) ?_
            have henc : bf_enc (rf_l N) (rf_u N) (rf_r N) (rf_d N) (rf_l K) (rf_u K) (rf_r K) (rf_d K) p b ↔ (N (4 * p) ≤ K (4 * b) ∧ K (4 * b) + K (4 * b + 2) ≤ N (4 * p) + N (4 * p + 2) ∧ N (4 * p + 1) ≤ K (4 * b + 1) ∧ K (4 * b + 1) + K (4 * b + 3) ≤ N (4 * p + 1) + N (4 * p + 3)) := Iff.rfl
            refine ih (p + 1) _ _ _ (by omega) (by omega) (by omega) ?_
            first
              | exact Or.inl ⟨rfl, p, p0, by omega, henc.mpr (by omega)⟩
              | (rcases hI with ⟨e, q, q0, q1, q2⟩ | ⟨e, hq⟩
                 · first | (exact Or.inl ⟨rfl, q, q0, by omega, q2⟩) | (exfalso; omega)
                 · first
                     | (exfalso; omega)
                     | exact Or.inr ⟨rfl, fun q q0 q1 he => by
                         by_cases hqp : q = p
                         · rw [hqp] at he
                           have := henc.mp he
                           omega
                         · exact hq q q0 (by omega) he⟩)
          · skip
            refine mx_iload d_RM_isInPane_158 rfl ?_
            refine mx_z0 172 d_RM_isInPane_160 (by decide) ?_
            refine mx_iconst (0) d_RM_isInPane_172 (by decide +kernel) (by unfold mv_r; omega) ?_
            refine mx_istore_n d_RM_isInPane_173 (by decide) ?_
            refine mx_iinc d_RM_isInPane_174 rfl (by unfold mv_r; omega) ?_
            refine mx_goto 4 d_RM_isInPane_177 (by decide) ?_
            have henc : bf_enc (rf_l N) (rf_u N) (rf_r N) (rf_d N) (rf_l K) (rf_u K) (rf_r K) (rf_d K) p b ↔ (N (4 * p) ≤ K (4 * b) ∧ K (4 * b) + K (4 * b + 2) ≤ N (4 * p) + N (4 * p + 2) ∧ N (4 * p + 1) ≤ K (4 * b + 1) ∧ K (4 * b + 1) + K (4 * b + 3) ≤ N (4 * p + 1) + N (4 * p + 3)) := Iff.rfl
            refine ih (p + 1) _ _ _ (by omega) (by omega) (by omega) ?_
            first
              | exact Or.inl ⟨rfl, p, p0, by omega, henc.mpr (by omega)⟩
              | (rcases hI with ⟨e, q, q0, q1, q2⟩ | ⟨e, hq⟩
                 · first | (exact Or.inl ⟨rfl, q, q0, by omega, q2⟩) | (exfalso; omega)
                 · first
                     | (exfalso; omega)
                     | exact Or.inr ⟨rfl, fun q q0 q1 he => by
                         by_cases hqp : q = p
                         · rw [hqp] at he
                           have := henc.mp he
                           omega
                         · exact hq q q0 (by omega) he⟩)
        · skip
          refine mx_aload_n d_RM_isInPane_102 rfl (by omega) ?_
          refine mx_gl d_RM_isInPane_103 f_RM_28 hO rfl ?_
          refine mx_iconst (4) d_RM_isInPane_106 (by decide +kernel) (by unfold mv_r; omega) ?_
          refine mx_iload_n d_RM_isInPane_107 rfl ?_
          refine mx_imul d_RM_isInPane_108 (by unfold mv_r; omega) ?_
          refine mx_iconst (1) d_RM_isInPane_109 (by decide +kernel) (by unfold mv_r; omega) ?_
          refine mx_iadd d_RM_isInPane_110 (by unfold mv_r; omega) ?_
          refine mx_iald d_RM_isInPane_111 hBlk (by omega) (by omega) ?_
          refine mx_aload_n d_RM_isInPane_112 rfl (by omega) ?_
          refine mx_gl d_RM_isInPane_113 f_RM_28 hO rfl ?_
          refine mx_iconst (4) d_RM_isInPane_116 (by decide +kernel) (by unfold mv_r; omega) ?_
          refine mx_iload_n d_RM_isInPane_117 rfl ?_
          refine mx_imul d_RM_isInPane_118 (by unfold mv_r; omega) ?_
          refine mx_iconst (3) d_RM_isInPane_119 (by decide +kernel) (by unfold mv_r; omega) ?_
          refine mx_iadd d_RM_isInPane_120 (by unfold mv_r; omega) ?_
          refine mx_iald d_RM_isInPane_121 hBlk (by omega) (by omega) ?_
          refine mx_iadd d_RM_isInPane_122 (by unfold mv_r; omega) ?_
          refine mx_aload_n d_RM_isInPane_123 rfl (by omega) ?_
          refine mx_gl d_RM_isInPane_124 f_RM_13 hO rfl ?_
          refine mx_iconst (4) d_RM_isInPane_127 (by decide +kernel) (by unfold mv_r; omega) ?_
          refine mx_iload_n d_RM_isInPane_128 rfl ?_
          refine mx_imul d_RM_isInPane_129 (by unfold mv_r; omega) ?_
          refine mx_iconst (1) d_RM_isInPane_130 (by decide +kernel) (by unfold mv_r; omega) ?_
          refine mx_iadd d_RM_isInPane_131 (by unfold mv_r; omega) ?_
          refine mx_iald d_RM_isInPane_132 hPan (by omega) (by omega) ?_
          refine mx_aload_n d_RM_isInPane_133 rfl (by omega) ?_
          refine mx_gl d_RM_isInPane_134 f_RM_13 hO rfl ?_
          refine mx_iconst (4) d_RM_isInPane_137 (by decide +kernel) (by unfold mv_r; omega) ?_
          refine mx_iload_n d_RM_isInPane_138 rfl ?_
          refine mx_imul d_RM_isInPane_139 (by unfold mv_r; omega) ?_
          refine mx_iconst (3) d_RM_isInPane_140 (by decide +kernel) (by unfold mv_r; omega) ?_
          refine mx_iadd d_RM_isInPane_141 (by unfold mv_r; omega) ?_
          refine mx_iald d_RM_isInPane_142 hPan (by omega) (by omega) ?_
          refine mx_iadd d_RM_isInPane_143 (by unfold mv_r; omega) ?_
          refine mx_icmp_gt 151 d_RM_isInPane_144 (by decide) (fun c144 => ?_) (fun c144 => ?_)
          · skip
            refine mx_iconst (0) d_RM_isInPane_151 (by decide +kernel) (by unfold mv_r; omega) ?_
            refine mx_istore d_RM_isInPane_152 (by decide) ?_
            refine mx_iload_n d_RM_isInPane_154 rfl ?_
            refine mx_if_ne 168 d_RM_isInPane_155 (by decide) (fun c155 => ?_) (fun c155 => ?_)
            · skip
              refine mx_iconst (1) d_RM_isInPane_168 (by decide +kernel) (by unfold mv_r; omega) ?_
              refine mx_goto 173 d_RM_isInPane_169 (by decide) ?_
              refine mx_istore_n d_RM_isInPane_173 (by decide) ?_
              refine mx_iinc d_RM_isInPane_174 rfl (by unfold mv_r; omega) ?_
              refine mx_goto 4 d_RM_isInPane_177 (by decide) ?_
              have henc : bf_enc (rf_l N) (rf_u N) (rf_r N) (rf_d N) (rf_l K) (rf_u K) (rf_r K) (rf_d K) p b ↔ (N (4 * p) ≤ K (4 * b) ∧ K (4 * b) + K (4 * b + 2) ≤ N (4 * p) + N (4 * p + 2) ∧ N (4 * p + 1) ≤ K (4 * b + 1) ∧ K (4 * b + 1) + K (4 * b + 3) ≤ N (4 * p + 1) + N (4 * p + 3)) := Iff.rfl
              refine ih (p + 1) _ _ _ (by omega) (by omega) (by omega) ?_
              first
                | exact Or.inl ⟨rfl, p, p0, by omega, henc.mpr (by omega)⟩
                | (rcases hI with ⟨e, q, q0, q1, q2⟩ | ⟨e, hq⟩
                   · first | (exact Or.inl ⟨rfl, q, q0, by omega, q2⟩) | (exfalso; omega)
                   · first
                       | (exfalso; omega)
                       | exact Or.inr ⟨rfl, fun q q0 q1 he => by
                           by_cases hqp : q = p
                           · rw [hqp] at he
                             have := henc.mp he
                             omega
                           · exact hq q q0 (by omega) he⟩)
            · skip
              refine mx_iload d_RM_isInPane_158 rfl ?_
              refine mx_z0 172 d_RM_isInPane_160 (by decide) ?_
              refine mx_iconst (0) d_RM_isInPane_172 (by decide +kernel) (by unfold mv_r; omega) ?_
              refine mx_istore_n d_RM_isInPane_173 (by decide) ?_
              refine mx_iinc d_RM_isInPane_174 rfl (by unfold mv_r; omega) ?_
              refine mx_goto 4 d_RM_isInPane_177 (by decide) ?_
              have henc : bf_enc (rf_l N) (rf_u N) (rf_r N) (rf_d N) (rf_l K) (rf_u K) (rf_r K) (rf_d K) p b ↔ (N (4 * p) ≤ K (4 * b) ∧ K (4 * b) + K (4 * b + 2) ≤ N (4 * p) + N (4 * p + 2) ∧ N (4 * p + 1) ≤ K (4 * b + 1) ∧ K (4 * b + 1) + K (4 * b + 3) ≤ N (4 * p + 1) + N (4 * p + 3)) := Iff.rfl
              refine ih (p + 1) _ _ _ (by omega) (by omega) (by omega) ?_
              first
                | exact Or.inl ⟨rfl, p, p0, by omega, henc.mpr (by omega)⟩
                | (rcases hI with ⟨e, q, q0, q1, q2⟩ | ⟨e, hq⟩
                   · first | (exact Or.inl ⟨rfl, q, q0, by omega, q2⟩) | (exfalso; omega)
                   · first
                       | (exfalso; omega)
                       | exact Or.inr ⟨rfl, fun q q0 q1 he => by
                           by_cases hqp : q = p
                           · rw [hqp] at he
                             have := henc.mp he
                             omega
                           · exact hq q q0 (by omega) he⟩)
          · skip
            refine mx_iconst (1) d_RM_isInPane_147 (by decide +kernel) (by unfold mv_r; omega) ?_
            refine mx_goto 152 d_RM_isInPane_148 (by decide) ?_
            refine mx_istore d_RM_isInPane_152 (by decide) ?_
            refine mx_iload_n d_RM_isInPane_154 rfl ?_
            refine mx_if_ne 168 d_RM_isInPane_155 (by decide) (fun c155 => ?_) (fun c155 => ?_)
            · skip
              refine mx_iconst (1) d_RM_isInPane_168 (by decide +kernel) (by unfold mv_r; omega) ?_
              refine mx_goto 173 d_RM_isInPane_169 (by decide) ?_
              refine mx_istore_n d_RM_isInPane_173 (by decide) ?_
              refine mx_iinc d_RM_isInPane_174 rfl (by unfold mv_r; omega) ?_
              refine mx_goto 4 d_RM_isInPane_177 (by decide) ?_
              have henc : bf_enc (rf_l N) (rf_u N) (rf_r N) (rf_d N) (rf_l K) (rf_u K) (rf_r K) (rf_d K) p b ↔ (N (4 * p) ≤ K (4 * b) ∧ K (4 * b) + K (4 * b + 2) ≤ N (4 * p) + N (4 * p + 2) ∧ N (4 * p + 1) ≤ K (4 * b + 1) ∧ K (4 * b + 1) + K (4 * b + 3) ≤ N (4 * p + 1) + N (4 * p + 3)) := Iff.rfl
              refine ih (p + 1) _ _ _ (by omega) (by omega) (by omega) ?_
              first
                | exact Or.inl ⟨rfl, p, p0, by omega, henc.mpr (by omega)⟩
                | (rcases hI with ⟨e, q, q0, q1, q2⟩ | ⟨e, hq⟩
                   · first | (exact Or.inl ⟨rfl, q, q0, by omega, q2⟩) | (exfalso; omega)
                   · first
                       | (exfalso; omega)
                       | exact Or.inr ⟨rfl, fun q q0 q1 he => by
                           by_cases hqp : q = p
                           · rw [hqp] at he
                             have := henc.mp he
                             omega
                           · exact hq q q0 (by omega) he⟩)
            · skip
              refine mx_iload d_RM_isInPane_158 rfl ?_
              refine mx_z0 172 d_RM_isInPane_160 (by decide) ?_
              refine mx_iconst (0) d_RM_isInPane_172 (by decide +kernel) (by unfold mv_r; omega) ?_
              refine mx_istore_n d_RM_isInPane_173 (by decide) ?_
              refine mx_iinc d_RM_isInPane_174 rfl (by unfold mv_r; omega) ?_
              refine mx_goto 4 d_RM_isInPane_177 (by decide) ?_
              have henc : bf_enc (rf_l N) (rf_u N) (rf_r N) (rf_d N) (rf_l K) (rf_u K) (rf_r K) (rf_d K) p b ↔ (N (4 * p) ≤ K (4 * b) ∧ K (4 * b) + K (4 * b + 2) ≤ N (4 * p) + N (4 * p + 2) ∧ N (4 * p + 1) ≤ K (4 * b + 1) ∧ K (4 * b + 1) + K (4 * b + 3) ≤ N (4 * p + 1) + N (4 * p + 3)) := Iff.rfl
              refine ih (p + 1) _ _ _ (by omega) (by omega) (by omega) ?_
              first
                | exact Or.inl ⟨rfl, p, p0, by omega, henc.mpr (by omega)⟩
                | (rcases hI with ⟨e, q, q0, q1, q2⟩ | ⟨e, hq⟩
                   · first | (exact Or.inl ⟨rfl, q, q0, by omega, q2⟩) | (exfalso; omega)
                   · first
                       | (exfalso; omega)
                       | exact Or.inr ⟨rfl, fun q q0 q1 he => by
                           by_cases hqp : q = p
                           · rw [hqp] at he
                             have := henc.mp he
                             omega
                           · exact hq q q0 (by omega) he⟩)
      · skip
        refine mx_aload_n d_RM_isInPane_31 rfl (by omega) ?_
        refine mx_gl d_RM_isInPane_32 f_RM_28 hO rfl ?_
        refine mx_iconst (4) d_RM_isInPane_35 (by decide +kernel) (by unfold mv_r; omega) ?_
        refine mx_iload_n d_RM_isInPane_36 rfl ?_
        refine mx_imul d_RM_isInPane_37 (by unfold mv_r; omega) ?_
        refine mx_iald d_RM_isInPane_38 hBlk (by omega) (by omega) ?_
        refine mx_aload_n d_RM_isInPane_39 rfl (by omega) ?_
        refine mx_gl d_RM_isInPane_40 f_RM_28 hO rfl ?_
        refine mx_iconst (4) d_RM_isInPane_43 (by decide +kernel) (by unfold mv_r; omega) ?_
        refine mx_iload_n d_RM_isInPane_44 rfl ?_
        refine mx_imul d_RM_isInPane_45 (by unfold mv_r; omega) ?_
        refine mx_iconst (2) d_RM_isInPane_46 (by decide +kernel) (by unfold mv_r; omega) ?_
        refine mx_iadd d_RM_isInPane_47 (by unfold mv_r; omega) ?_
        refine mx_iald d_RM_isInPane_48 hBlk (by omega) (by omega) ?_
        refine mx_iadd d_RM_isInPane_49 (by unfold mv_r; omega) ?_
        refine mx_aload_n d_RM_isInPane_50 rfl (by omega) ?_
        refine mx_gl d_RM_isInPane_51 f_RM_13 hO rfl ?_
        refine mx_iconst (4) d_RM_isInPane_54 (by decide +kernel) (by unfold mv_r; omega) ?_
        refine mx_iload_n d_RM_isInPane_55 rfl ?_
        refine mx_imul d_RM_isInPane_56 (by unfold mv_r; omega) ?_
        refine mx_iald d_RM_isInPane_57 hPan (by omega) (by omega) ?_
        refine mx_aload_n d_RM_isInPane_58 rfl (by omega) ?_
        refine mx_gl d_RM_isInPane_59 f_RM_13 hO rfl ?_
        refine mx_iconst (4) d_RM_isInPane_62 (by decide +kernel) (by unfold mv_r; omega) ?_
        refine mx_iload_n d_RM_isInPane_63 rfl ?_
        refine mx_imul d_RM_isInPane_64 (by unfold mv_r; omega) ?_
        refine mx_iconst (2) d_RM_isInPane_65 (by decide +kernel) (by unfold mv_r; omega) ?_
        refine mx_iadd d_RM_isInPane_66 (by unfold mv_r; omega) ?_
        refine mx_iald d_RM_isInPane_67 hPan (by omega) (by omega) ?_
        refine mx_iadd d_RM_isInPane_68 (by unfold mv_r; omega) ?_
        refine mx_icmp_gt 76 d_RM_isInPane_69 (by decide) (fun c69 => ?_) (fun c69 => ?_)
        · skip
          refine mx_iconst (0) d_RM_isInPane_76 (by decide +kernel) (by unfold mv_r; omega) ?_
          refine mx_istore d_RM_isInPane_77 (by decide) ?_
          refine mx_aload_n d_RM_isInPane_79 rfl (by omega) ?_
          refine mx_gl d_RM_isInPane_80 f_RM_28 hO rfl ?_
          refine mx_iconst (4) d_RM_isInPane_83 (by decide +kernel) (by unfold mv_r; omega) ?_
          refine mx_iload_n d_RM_isInPane_84 rfl ?_
          refine mx_imul d_RM_isInPane_85 (by unfold mv_r; omega) ?_
          refine mx_iconst (1) d_RM_isInPane_86 (by decide +kernel) (by unfold mv_r; omega) ?_
          refine mx_iadd d_RM_isInPane_87 (by unfold mv_r; omega) ?_
          refine mx_iald d_RM_isInPane_88 hBlk (by omega) (by omega) ?_
          refine mx_aload_n d_RM_isInPane_89 rfl (by omega) ?_
          refine mx_gl d_RM_isInPane_90 f_RM_13 hO rfl ?_
          refine mx_iconst (4) d_RM_isInPane_93 (by decide +kernel) (by unfold mv_r; omega) ?_
          refine mx_iload_n d_RM_isInPane_94 rfl ?_
          refine mx_imul d_RM_isInPane_95 (by unfold mv_r; omega) ?_
          refine mx_iconst (1) d_RM_isInPane_96 (by decide +kernel) (by unfold mv_r; omega) ?_
          refine mx_iadd d_RM_isInPane_97 (by unfold mv_r; omega) ?_
          refine mx_iald d_RM_isInPane_98 hPan (by omega) (by omega) ?_
          refine mx_icmp_lt 151 d_RM_isInPane_99 (by decide) (fun c99 => ?_) (fun c99 => ?_)
          · skip
            refine mx_iconst (0) d_RM_isInPane_151 (by decide +kernel) (by unfold mv_r; omega) ?_
            refine mx_istore d_RM_isInPane_152 (by decide) ?_
            refine mx_iload_n d_RM_isInPane_154 rfl ?_
            refine mx_if_ne 168 d_RM_isInPane_155 (by decide) (fun c155 => ?_) (fun c155 => ?_)
            · skip
              refine mx_iconst (1) d_RM_isInPane_168 (by decide +kernel) (by unfold mv_r; omega) ?_
              refine mx_goto 173 d_RM_isInPane_169 (by decide) ?_
              refine mx_istore_n d_RM_isInPane_173 (by decide) ?_
              refine mx_iinc d_RM_isInPane_174 rfl (by unfold mv_r; omega) ?_
              refine mx_goto 4 d_RM_isInPane_177 (by decide) ?_
              have henc : bf_enc (rf_l N) (rf_u N) (rf_r N) (rf_d N) (rf_l K) (rf_u K) (rf_r K) (rf_d K) p b ↔ (N (4 * p) ≤ K (4 * b) ∧ K (4 * b) + K (4 * b + 2) ≤ N (4 * p) + N (4 * p + 2) ∧ N (4 * p + 1) ≤ K (4 * b + 1) ∧ K (4 * b + 1) + K (4 * b + 3) ≤ N (4 * p + 1) + N (4 * p + 3)) := Iff.rfl
              refine ih (p + 1) _ _ _ (by omega) (by omega) (by omega) ?_
              first
                | exact Or.inl ⟨rfl, p, p0, by omega, henc.mpr (by omega)⟩
                | (rcases hI with ⟨e, q, q0, q1, q2⟩ | ⟨e, hq⟩
                   · first | (exact Or.inl ⟨rfl, q, q0, by omega, q2⟩) | (exfalso; omega)
                   · first
                       | (exfalso; omega)
                       | exact Or.inr ⟨rfl, fun q q0 q1 he => by
                           by_cases hqp : q = p
                           · rw [hqp] at he
                             have := henc.mp he
                             omega
                           · exact hq q q0 (by omega) he⟩)
            · skip
              refine mx_iload d_RM_isInPane_158 rfl ?_
              refine mx_z0 172 d_RM_isInPane_160 (by decide) ?_
              refine mx_iconst (0) d_RM_isInPane_172 (by decide +kernel) (by unfold mv_r; omega) ?_
              refine mx_istore_n d_RM_isInPane_173 (by decide) ?_
              refine mx_iinc d_RM_isInPane_174 rfl (by unfold mv_r; omega) ?_
              refine mx_goto 4 d_RM_isInPane_177 (by decide) ?_
              have henc : bf_enc (rf_l N) (rf_u N) (rf_r N) (rf_d N) (rf_l K) (rf_u K) (rf_r K) (rf_d K) p b ↔ (N (4 * p) ≤ K (4 * b) ∧ K (4 * b) + K (4 * b + 2) ≤ N (4 * p) + N (4 * p + 2) ∧ N (4 * p + 1) ≤ K (4 * b + 1) ∧ K (4 * b + 1) + K (4 * b + 3) ≤ N (4 * p + 1) + N (4 * p + 3)) := Iff.rfl
              refine ih (p + 1) _ _ _ (by omega) (by omega) (by omega) ?_
              first
                | exact Or.inl ⟨rfl, p, p0, by omega, henc.mpr (by omega)⟩
                | (rcases hI with ⟨e, q, q0, q1, q2⟩ | ⟨e, hq⟩
                   · first | (exact Or.inl ⟨rfl, q, q0, by omega, q2⟩) | (exfalso; omega)
                   · first
                       | (exfalso; omega)
                       | exact Or.inr ⟨rfl, fun q q0 q1 he => by
                           by_cases hqp : q = p
                           · rw [hqp] at he
                             have := henc.mp he
                             omega
                           · exact hq q q0 (by omega) he⟩)
          · skip
            refine mx_aload_n d_RM_isInPane_102 rfl (by omega) ?_
            refine mx_gl d_RM_isInPane_103 f_RM_28 hO rfl ?_
            refine mx_iconst (4) d_RM_isInPane_106 (by decide +kernel) (by unfold mv_r; omega) ?_
            refine mx_iload_n d_RM_isInPane_107 rfl ?_
            refine mx_imul d_RM_isInPane_108 (by unfold mv_r; omega) ?_
            refine mx_iconst (1) d_RM_isInPane_109 (by decide +kernel) (by unfold mv_r; omega) ?_
            refine mx_iadd d_RM_isInPane_110 (by unfold mv_r; omega) ?_
            refine mx_iald d_RM_isInPane_111 hBlk (by omega) (by omega) ?_
            refine mx_aload_n d_RM_isInPane_112 rfl (by omega) ?_
            refine mx_gl d_RM_isInPane_113 f_RM_28 hO rfl ?_
            refine mx_iconst (4) d_RM_isInPane_116 (by decide +kernel) (by unfold mv_r; omega) ?_
            refine mx_iload_n d_RM_isInPane_117 rfl ?_
            refine mx_imul d_RM_isInPane_118 (by unfold mv_r; omega) ?_
            refine mx_iconst (3) d_RM_isInPane_119 (by decide +kernel) (by unfold mv_r; omega) ?_
            refine mx_iadd d_RM_isInPane_120 (by unfold mv_r; omega) ?_
            refine mx_iald d_RM_isInPane_121 hBlk (by omega) (by omega) ?_
            refine mx_iadd d_RM_isInPane_122 (by unfold mv_r; omega) ?_
            refine mx_aload_n d_RM_isInPane_123 rfl (by omega) ?_
            refine mx_gl d_RM_isInPane_124 f_RM_13 hO rfl ?_
            refine mx_iconst (4) d_RM_isInPane_127 (by decide +kernel) (by unfold mv_r; omega) ?_
            refine mx_iload_n d_RM_isInPane_128 rfl ?_
            refine mx_imul d_RM_isInPane_129 (by unfold mv_r; omega) ?_
            refine mx_iconst (1) d_RM_isInPane_130 (by decide +kernel) (by unfold mv_r; omega) ?_
            refine mx_iadd d_RM_isInPane_131 (by unfold mv_r; omega) ?_
            refine mx_iald d_RM_isInPane_132 hPan (by omega) (by omega) ?_
            refine mx_aload_n d_RM_isInPane_133 rfl (by omega) ?_
            refine mx_gl d_RM_isInPane_134 f_RM_13 hO rfl ?_
            refine mx_iconst (4) d_RM_isInPane_137 (by decide +kernel) (by unfold mv_r; omega) ?_
            refine mx_iload_n d_RM_isInPane_138 rfl ?_
            refine mx_imul d_RM_isInPane_139 (by unfold mv_r; omega) ?_
            refine mx_iconst (3) d_RM_isInPane_140 (by decide +kernel) (by unfold mv_r; omega) ?_
            refine mx_iadd d_RM_isInPane_141 (by unfold mv_r; omega) ?_
            refine mx_iald d_RM_isInPane_142 hPan (by omega) (by omega) ?_
            refine mx_iadd d_RM_isInPane_143 (by unfold mv_r; omega) ?_
            refine mx_icmp_gt 151 d_RM_isInPane_144 (by decide) (fun c144 => ?_) (fun c144 => ?_)
            · skip
              refine mx_iconst (0) d_RM_isInPane_151 (by decide +kernel) (by unfold mv_r; omega) ?_
              refine mx_istore d_RM_isInPane_152 (by decide) ?_
              refine mx_iload_n d_RM_isInPane_154 rfl ?_
              refine mx_if_ne 168 d_RM_isInPane_155 (by decide) (fun c155 => ?_) (fun c155 => ?_)
              · skip
                refine mx_iconst (1) d_RM_isInPane_168 (by decide +kernel) (by unfold mv_r; omega) ?_
                refine mx_goto 173 d_RM_isInPane_169 (by decide) ?_
                refine mx_istore_n d_RM_isInPane_173 (by decide) ?_
                refine mx_iinc d_RM_isInPane_174 rfl (by unfold mv_r; omega) ?_
                refine mx_goto 4 d_RM_isInPane_177 (by decide) ?_
                have henc : bf_enc (rf_l N) (rf_u N) (rf_r N) (rf_d N) (rf_l K) (rf_u K) (rf_r K) (rf_d K) p b ↔ (N (4 * p) ≤ K (4 * b) ∧ K (4 * b) + K (4 * b + 2) ≤ N (4 * p) + N (4 * p + 2) ∧ N (4 * p + 1) ≤ K (4 * b + 1) ∧ K (4 * b + 1) + K (4 * b + 3) ≤ N (4 * p + 1) + N (4 * p + 3)) := Iff.rfl
                refine ih (p + 1) _ _ _ (by omega) (by omega) (by omega) ?_
                first
                  | exact Or.inl ⟨rfl, p, p0, by omega, henc.mpr (by omega)⟩
                  | (rcases hI with ⟨e, q, q0, q1, q2⟩ | ⟨e, hq⟩
                     · first | (exact Or.inl ⟨rfl, q, q0, by omega, q2⟩) | (exfalso; omega)
                     · first
                         | (exfalso; omega)
                         | exact Or.inr ⟨rfl, fun q q0 q1 he => by
                             by_cases hqp : q = p
                             · rw [hqp] at he
                               have := henc.mp he
                               omega
                             · exact hq q q0 (by omega) he⟩)
              · skip
                refine mx_iload d_RM_isInPane_158 rfl ?_
                refine mx_z0 172 d_RM_isInPane_160 (by decide) ?_
                refine mx_iconst (0) d_RM_isInPane_172 (by decide +kernel) (by unfold mv_r; omega) ?_
                refine mx_istore_n d_RM_isInPane_173 (by decide) ?_
                refine mx_iinc d_RM_isInPane_174 rfl (by unfold mv_r; omega) ?_
                refine mx_goto 4 d_RM_isInPane_177 (by decide) ?_
                have henc : bf_enc (rf_l N) (rf_u N) (rf_r N) (rf_d N) (rf_l K) (rf_u K) (rf_r K) (rf_d K) p b ↔ (N (4 * p) ≤ K (4 * b) ∧ K (4 * b) + K (4 * b + 2) ≤ N (4 * p) + N (4 * p + 2) ∧ N (4 * p + 1) ≤ K (4 * b + 1) ∧ K (4 * b + 1) + K (4 * b + 3) ≤ N (4 * p + 1) + N (4 * p + 3)) := Iff.rfl
                refine ih (p + 1) _ _ _ (by omega) (by omega) (by omega) ?_
                first
                  | exact Or.inl ⟨rfl, p, p0, by omega, henc.mpr (by omega)⟩
                  | (rcases hI with ⟨e, q, q0, q1, q2⟩ | ⟨e, hq⟩
                     · first | (exact Or.inl ⟨rfl, q, q0, by omega, q2⟩) | (exfalso; omega)
                     · first
                         | (exfalso; omega)
                         | exact Or.inr ⟨rfl, fun q q0 q1 he => by
                             by_cases hqp : q = p
                             · rw [hqp] at he
                               have := henc.mp he
                               omega
                             · exact hq q q0 (by omega) he⟩)
            · skip
              refine mx_iconst (1) d_RM_isInPane_147 (by decide +kernel) (by unfold mv_r; omega) ?_
              refine mx_goto 152 d_RM_isInPane_148 (by decide) ?_
              refine mx_istore d_RM_isInPane_152 (by decide) ?_
              refine mx_iload_n d_RM_isInPane_154 rfl ?_
              refine mx_if_ne 168 d_RM_isInPane_155 (by decide) (fun c155 => ?_) (fun c155 => ?_)
              · skip
                refine mx_iconst (1) d_RM_isInPane_168 (by decide +kernel) (by unfold mv_r; omega) ?_
                refine mx_goto 173 d_RM_isInPane_169 (by decide) ?_
                refine mx_istore_n d_RM_isInPane_173 (by decide) ?_
                refine mx_iinc d_RM_isInPane_174 rfl (by unfold mv_r; omega) ?_
                refine mx_goto 4 d_RM_isInPane_177 (by decide) ?_
                have henc : bf_enc (rf_l N) (rf_u N) (rf_r N) (rf_d N) (rf_l K) (rf_u K) (rf_r K) (rf_d K) p b ↔ (N (4 * p) ≤ K (4 * b) ∧ K (4 * b) + K (4 * b + 2) ≤ N (4 * p) + N (4 * p + 2) ∧ N (4 * p + 1) ≤ K (4 * b + 1) ∧ K (4 * b + 1) + K (4 * b + 3) ≤ N (4 * p + 1) + N (4 * p + 3)) := Iff.rfl
                refine ih (p + 1) _ _ _ (by omega) (by omega) (by omega) ?_
                first
                  | exact Or.inl ⟨rfl, p, p0, by omega, henc.mpr (by omega)⟩
                  | (rcases hI with ⟨e, q, q0, q1, q2⟩ | ⟨e, hq⟩
                     · first | (exact Or.inl ⟨rfl, q, q0, by omega, q2⟩) | (exfalso; omega)
                     · first
                         | (exfalso; omega)
                         | exact Or.inr ⟨rfl, fun q q0 q1 he => by
                             by_cases hqp : q = p
                             · rw [hqp] at he
                               have := henc.mp he
                               omega
                             · exact hq q q0 (by omega) he⟩)
              · skip
                refine mx_iload d_RM_isInPane_158 rfl ?_
                refine mx_z0 172 d_RM_isInPane_160 (by decide) ?_
                refine mx_iconst (0) d_RM_isInPane_172 (by decide +kernel) (by unfold mv_r; omega) ?_
                refine mx_istore_n d_RM_isInPane_173 (by decide) ?_
                refine mx_iinc d_RM_isInPane_174 rfl (by unfold mv_r; omega) ?_
                refine mx_goto 4 d_RM_isInPane_177 (by decide) ?_
                have henc : bf_enc (rf_l N) (rf_u N) (rf_r N) (rf_d N) (rf_l K) (rf_u K) (rf_r K) (rf_d K) p b ↔ (N (4 * p) ≤ K (4 * b) ∧ K (4 * b) + K (4 * b + 2) ≤ N (4 * p) + N (4 * p + 2) ∧ N (4 * p + 1) ≤ K (4 * b + 1) ∧ K (4 * b + 1) + K (4 * b + 3) ≤ N (4 * p + 1) + N (4 * p + 3)) := Iff.rfl
                refine ih (p + 1) _ _ _ (by omega) (by omega) (by omega) ?_
                first
                  | exact Or.inl ⟨rfl, p, p0, by omega, henc.mpr (by omega)⟩
                  | (rcases hI with ⟨e, q, q0, q1, q2⟩ | ⟨e, hq⟩
                     · first | (exact Or.inl ⟨rfl, q, q0, by omega, q2⟩) | (exfalso; omega)
                     · first
                         | (exfalso; omega)
                         | exact Or.inr ⟨rfl, fun q q0 q1 he => by
                             by_cases hqp : q = p
                             · rw [hqp] at he
                               have := henc.mp he
                               omega
                             · exact hq q q0 (by omega) he⟩)
        · skip
          refine mx_iconst (1) d_RM_isInPane_72 (by decide +kernel) (by unfold mv_r; omega) ?_
          refine mx_goto 77 d_RM_isInPane_73 (by decide) ?_
          refine mx_istore d_RM_isInPane_77 (by decide) ?_
          refine mx_aload_n d_RM_isInPane_79 rfl (by omega) ?_
          refine mx_gl d_RM_isInPane_80 f_RM_28 hO rfl ?_
          refine mx_iconst (4) d_RM_isInPane_83 (by decide +kernel) (by unfold mv_r; omega) ?_
          refine mx_iload_n d_RM_isInPane_84 rfl ?_
          refine mx_imul d_RM_isInPane_85 (by unfold mv_r; omega) ?_
          refine mx_iconst (1) d_RM_isInPane_86 (by decide +kernel) (by unfold mv_r; omega) ?_
          refine mx_iadd d_RM_isInPane_87 (by unfold mv_r; omega) ?_
          refine mx_iald d_RM_isInPane_88 hBlk (by omega) (by omega) ?_
          refine mx_aload_n d_RM_isInPane_89 rfl (by omega) ?_
          refine mx_gl d_RM_isInPane_90 f_RM_13 hO rfl ?_
          refine mx_iconst (4) d_RM_isInPane_93 (by decide +kernel) (by unfold mv_r; omega) ?_
          refine mx_iload_n d_RM_isInPane_94 rfl ?_
          refine mx_imul d_RM_isInPane_95 (by unfold mv_r; omega) ?_
          refine mx_iconst (1) d_RM_isInPane_96 (by decide +kernel) (by unfold mv_r; omega) ?_
          refine mx_iadd d_RM_isInPane_97 (by unfold mv_r; omega) ?_
          refine mx_iald d_RM_isInPane_98 hPan (by omega) (by omega) ?_
          refine mx_icmp_lt 151 d_RM_isInPane_99 (by decide) (fun c99 => ?_) (fun c99 => ?_)
          · skip
            refine mx_iconst (0) d_RM_isInPane_151 (by decide +kernel) (by unfold mv_r; omega) ?_
            refine mx_istore d_RM_isInPane_152 (by decide) ?_
            refine mx_iload_n d_RM_isInPane_154 rfl ?_
            refine mx_if_ne 168 d_RM_isInPane_155 (by decide) (fun c155 => ?_) (fun c155 => ?_)
            · skip
              refine mx_iconst (1) d_RM_isInPane_168 (by decide +kernel) (by unfold mv_r; omega) ?_
              refine mx_goto 173 d_RM_isInPane_169 (by decide) ?_
              refine mx_istore_n d_RM_isInPane_173 (by decide) ?_
              refine mx_iinc d_RM_isInPane_174 rfl (by unfold mv_r; omega) ?_
              refine mx_goto 4 d_RM_isInPane_177 (by decide) ?_
              have henc : bf_enc (rf_l N) (rf_u N) (rf_r N) (rf_d N) (rf_l K) (rf_u K) (rf_r K) (rf_d K) p b ↔ (N (4 * p) ≤ K (4 * b) ∧ K (4 * b) + K (4 * b + 2) ≤ N (4 * p) + N (4 * p + 2) ∧ N (4 * p + 1) ≤ K (4 * b + 1) ∧ K (4 * b + 1) + K (4 * b + 3) ≤ N (4 * p + 1) + N (4 * p + 3)) := Iff.rfl
              refine ih (p + 1) _ _ _ (by omega) (by omega) (by omega) ?_
              first
                | exact Or.inl ⟨rfl, p, p0, by omega, henc.mpr (by omega)⟩
                | (rcases hI with ⟨e, q, q0, q1, q2⟩ | ⟨e, hq⟩
                   · first | (exact Or.inl ⟨rfl, q, q0, by omega, q2⟩) | (exfalso; omega)
                   · first
                       | (exfalso; omega)
                       | exact Or.inr ⟨rfl, fun q q0 q1 he => by
                           by_cases hqp : q = p
                           · rw [hqp] at he
                             have := henc.mp he
                             omega
                           · exact hq q q0 (by omega) he⟩)
            · skip
              refine mx_iload d_RM_isInPane_158 rfl ?_
              refine mx_z1 172 d_RM_isInPane_160 (by decide) ?_
              refine mx_iload d_RM_isInPane_163 rfl ?_
              refine mx_z0 172 d_RM_isInPane_165 (by decide) ?_
              refine mx_iconst (0) d_RM_isInPane_172 (by decide +kernel) (by unfold mv_r; omega) ?_
              refine mx_istore_n d_RM_isInPane_173 (by decide) ?_
              refine mx_iinc d_RM_isInPane_174 rfl (by unfold mv_r; omega) ?_
              refine mx_goto 4 d_RM_isInPane_177 (by decide) ?_
              have henc : bf_enc (rf_l N) (rf_u N) (rf_r N) (rf_d N) (rf_l K) (rf_u K) (rf_r K) (rf_d K) p b ↔ (N (4 * p) ≤ K (4 * b) ∧ K (4 * b) + K (4 * b + 2) ≤ N (4 * p) + N (4 * p + 2) ∧ N (4 * p + 1) ≤ K (4 * b + 1) ∧ K (4 * b + 1) + K (4 * b + 3) ≤ N (4 * p + 1) + N (4 * p + 3)) := Iff.rfl
              refine ih (p + 1) _ _ _ (by omega) (by omega) (by omega) ?_
              first
                | exact Or.inl ⟨rfl, p, p0, by omega, henc.mpr (by omega)⟩
                | (rcases hI with ⟨e, q, q0, q1, q2⟩ | ⟨e, hq⟩
                   · first | (exact Or.inl ⟨rfl, q, q0, by omega, q2⟩) | (exfalso; omega)
                   · first
                       | (exfalso; omega)
                       | exact Or.inr ⟨rfl, fun q q0 q1 he => by
                           by_cases hqp : q = p
                           · rw [hqp] at he
                             have := henc.mp he
                             omega
                           · exact hq q q0 (by omega) he⟩)
          · skip
            refine mx_aload_n d_RM_isInPane_102 rfl (by omega) ?_
            refine mx_gl d_RM_isInPane_103 f_RM_28 hO rfl ?_
            refine mx_iconst (4) d_RM_isInPane_106 (by decide +kernel) (by unfold mv_r; omega) ?_
            refine mx_iload_n d_RM_isInPane_107 rfl ?_
            refine mx_imul d_RM_isInPane_108 (by unfold mv_r; omega) ?_
            refine mx_iconst (1) d_RM_isInPane_109 (by decide +kernel) (by unfold mv_r; omega) ?_
            refine mx_iadd d_RM_isInPane_110 (by unfold mv_r; omega) ?_
            refine mx_iald d_RM_isInPane_111 hBlk (by omega) (by omega) ?_
            refine mx_aload_n d_RM_isInPane_112 rfl (by omega) ?_
            refine mx_gl d_RM_isInPane_113 f_RM_28 hO rfl ?_
            refine mx_iconst (4) d_RM_isInPane_116 (by decide +kernel) (by unfold mv_r; omega) ?_
            refine mx_iload_n d_RM_isInPane_117 rfl ?_
            refine mx_imul d_RM_isInPane_118 (by unfold mv_r; omega) ?_
            refine mx_iconst (3) d_RM_isInPane_119 (by decide +kernel) (by unfold mv_r; omega) ?_
            refine mx_iadd d_RM_isInPane_120 (by unfold mv_r; omega) ?_
            refine mx_iald d_RM_isInPane_121 hBlk (by omega) (by omega) ?_
            refine mx_iadd d_RM_isInPane_122 (by unfold mv_r; omega) ?_
            refine mx_aload_n d_RM_isInPane_123 rfl (by omega) ?_
            refine mx_gl d_RM_isInPane_124 f_RM_13 hO rfl ?_
            refine mx_iconst (4) d_RM_isInPane_127 (by decide +kernel) (by unfold mv_r; omega) ?_
            refine mx_iload_n d_RM_isInPane_128 rfl ?_
            refine mx_imul d_RM_isInPane_129 (by unfold mv_r; omega) ?_
            refine mx_iconst (1) d_RM_isInPane_130 (by decide +kernel) (by unfold mv_r; omega) ?_
            refine mx_iadd d_RM_isInPane_131 (by unfold mv_r; omega) ?_
            refine mx_iald d_RM_isInPane_132 hPan (by omega) (by omega) ?_
            refine mx_aload_n d_RM_isInPane_133 rfl (by omega) ?_
            refine mx_gl d_RM_isInPane_134 f_RM_13 hO rfl ?_
            refine mx_iconst (4) d_RM_isInPane_137 (by decide +kernel) (by unfold mv_r; omega) ?_
            refine mx_iload_n d_RM_isInPane_138 rfl ?_
            refine mx_imul d_RM_isInPane_139 (by unfold mv_r; omega) ?_
            refine mx_iconst (3) d_RM_isInPane_140 (by decide +kernel) (by unfold mv_r; omega) ?_
            refine mx_iadd d_RM_isInPane_141 (by unfold mv_r; omega) ?_
            refine mx_iald d_RM_isInPane_142 hPan (by omega) (by omega) ?_
            refine mx_iadd d_RM_isInPane_143 (by unfold mv_r; omega) ?_
            refine mx_icmp_gt 151 d_RM_isInPane_144 (by decide) (fun c144 => ?_) (fun c144 => ?_)
            · skip
              refine mx_iconst (0) d_RM_isInPane_151 (by decide +kernel) (by unfold mv_r; omega) ?_
              refine mx_istore d_RM_isInPane_152 (by decide) ?_
              refine mx_iload_n d_RM_isInPane_154 rfl ?_
              refine mx_if_ne 168 d_RM_isInPane_155 (by decide) (fun c155 => ?_) (fun c155 => ?_)
              · skip
                refine mx_iconst (1) d_RM_isInPane_168 (by decide +kernel) (by unfold mv_r; omega) ?_
                refine mx_goto 173 d_RM_isInPane_169 (by decide) ?_
                refine mx_istore_n d_RM_isInPane_173 (by decide) ?_
                refine mx_iinc d_RM_isInPane_174 rfl (by unfold mv_r; omega) ?_
                refine mx_goto 4 d_RM_isInPane_177 (by decide) ?_
                have henc : bf_enc (rf_l N) (rf_u N) (rf_r N) (rf_d N) (rf_l K) (rf_u K) (rf_r K) (rf_d K) p b ↔ (N (4 * p) ≤ K (4 * b) ∧ K (4 * b) + K (4 * b + 2) ≤ N (4 * p) + N (4 * p + 2) ∧ N (4 * p + 1) ≤ K (4 * b + 1) ∧ K (4 * b + 1) + K (4 * b + 3) ≤ N (4 * p + 1) + N (4 * p + 3)) := Iff.rfl
                refine ih (p + 1) _ _ _ (by omega) (by omega) (by omega) ?_
                first
                  | exact Or.inl ⟨rfl, p, p0, by omega, henc.mpr (by omega)⟩
                  | (rcases hI with ⟨e, q, q0, q1, q2⟩ | ⟨e, hq⟩
                     · first | (exact Or.inl ⟨rfl, q, q0, by omega, q2⟩) | (exfalso; omega)
                     · first
                         | (exfalso; omega)
                         | exact Or.inr ⟨rfl, fun q q0 q1 he => by
                             by_cases hqp : q = p
                             · rw [hqp] at he
                               have := henc.mp he
                               omega
                             · exact hq q q0 (by omega) he⟩)
              · skip
                refine mx_iload d_RM_isInPane_158 rfl ?_
                refine mx_z1 172 d_RM_isInPane_160 (by decide) ?_
                refine mx_iload d_RM_isInPane_163 rfl ?_
                refine mx_z0 172 d_RM_isInPane_165 (by decide) ?_
                refine mx_iconst (0) d_RM_isInPane_172 (by decide +kernel) (by unfold mv_r; omega) ?_
                refine mx_istore_n d_RM_isInPane_173 (by decide) ?_
                refine mx_iinc d_RM_isInPane_174 rfl (by unfold mv_r; omega) ?_
                refine mx_goto 4 d_RM_isInPane_177 (by decide) ?_
                have henc : bf_enc (rf_l N) (rf_u N) (rf_r N) (rf_d N) (rf_l K) (rf_u K) (rf_r K) (rf_d K) p b ↔ (N (4 * p) ≤ K (4 * b) ∧ K (4 * b) + K (4 * b + 2) ≤ N (4 * p) + N (4 * p + 2) ∧ N (4 * p + 1) ≤ K (4 * b + 1) ∧ K (4 * b + 1) + K (4 * b + 3) ≤ N (4 * p + 1) + N (4 * p + 3)) := Iff.rfl
                refine ih (p + 1) _ _ _ (by omega) (by omega) (by omega) ?_
                first
                  | exact Or.inl ⟨rfl, p, p0, by omega, henc.mpr (by omega)⟩
                  | (rcases hI with ⟨e, q, q0, q1, q2⟩ | ⟨e, hq⟩
                     · first | (exact Or.inl ⟨rfl, q, q0, by omega, q2⟩) | (exfalso; omega)
                     · first
                         | (exfalso; omega)
                         | exact Or.inr ⟨rfl, fun q q0 q1 he => by
                             by_cases hqp : q = p
                             · rw [hqp] at he
                               have := henc.mp he
                               omega
                             · exact hq q q0 (by omega) he⟩)
            · skip
              refine mx_iconst (1) d_RM_isInPane_147 (by decide +kernel) (by unfold mv_r; omega) ?_
              refine mx_goto 152 d_RM_isInPane_148 (by decide) ?_
              refine mx_istore d_RM_isInPane_152 (by decide) ?_
              refine mx_iload_n d_RM_isInPane_154 rfl ?_
              refine mx_if_ne 168 d_RM_isInPane_155 (by decide) (fun c155 => ?_) (fun c155 => ?_)
              · skip
                refine mx_iconst (1) d_RM_isInPane_168 (by decide +kernel) (by unfold mv_r; omega) ?_
                refine mx_goto 173 d_RM_isInPane_169 (by decide) ?_
                refine mx_istore_n d_RM_isInPane_173 (by decide) ?_
                refine mx_iinc d_RM_isInPane_174 rfl (by unfold mv_r; omega) ?_
                refine mx_goto 4 d_RM_isInPane_177 (by decide) ?_
                have henc : bf_enc (rf_l N) (rf_u N) (rf_r N) (rf_d N) (rf_l K) (rf_u K) (rf_r K) (rf_d K) p b ↔ (N (4 * p) ≤ K (4 * b) ∧ K (4 * b) + K (4 * b + 2) ≤ N (4 * p) + N (4 * p + 2) ∧ N (4 * p + 1) ≤ K (4 * b + 1) ∧ K (4 * b + 1) + K (4 * b + 3) ≤ N (4 * p + 1) + N (4 * p + 3)) := Iff.rfl
                refine ih (p + 1) _ _ _ (by omega) (by omega) (by omega) ?_
                first
                  | exact Or.inl ⟨rfl, p, p0, by omega, henc.mpr (by omega)⟩
                  | (rcases hI with ⟨e, q, q0, q1, q2⟩ | ⟨e, hq⟩
                     · first | (exact Or.inl ⟨rfl, q, q0, by omega, q2⟩) | (exfalso; omega)
                     · first
                         | (exfalso; omega)
                         | exact Or.inr ⟨rfl, fun q q0 q1 he => by
                             by_cases hqp : q = p
                             · rw [hqp] at he
                               have := henc.mp he
                               omega
                             · exact hq q q0 (by omega) he⟩)
              · skip
                refine mx_iload d_RM_isInPane_158 rfl ?_
                refine mx_z1 172 d_RM_isInPane_160 (by decide) ?_
                refine mx_iload d_RM_isInPane_163 rfl ?_
                refine mx_z1 172 d_RM_isInPane_165 (by decide) ?_
                refine mx_iconst (1) d_RM_isInPane_168 (by decide +kernel) (by unfold mv_r; omega) ?_
                refine mx_goto 173 d_RM_isInPane_169 (by decide) ?_
                refine mx_istore_n d_RM_isInPane_173 (by decide) ?_
                refine mx_iinc d_RM_isInPane_174 rfl (by unfold mv_r; omega) ?_
                refine mx_goto 4 d_RM_isInPane_177 (by decide) ?_
                have henc : bf_enc (rf_l N) (rf_u N) (rf_r N) (rf_d N) (rf_l K) (rf_u K) (rf_r K) (rf_d K) p b ↔ (N (4 * p) ≤ K (4 * b) ∧ K (4 * b) + K (4 * b + 2) ≤ N (4 * p) + N (4 * p + 2) ∧ N (4 * p + 1) ≤ K (4 * b + 1) ∧ K (4 * b + 1) + K (4 * b + 3) ≤ N (4 * p + 1) + N (4 * p + 3)) := Iff.rfl
                refine ih (p + 1) _ _ _ (by omega) (by omega) (by omega) ?_
                first
                  | exact Or.inl ⟨rfl, p, p0, by omega, henc.mpr (by omega)⟩
                  | (rcases hI with ⟨e, q, q0, q1, q2⟩ | ⟨e, hq⟩
                     · first | (exact Or.inl ⟨rfl, q, q0, by omega, q2⟩) | (exfalso; omega)
                     · first
                         | (exfalso; omega)
                         | exact Or.inr ⟨rfl, fun q q0 q1 he => by
                             by_cases hqp : q = p
                             · rw [hqp] at he
                               have := henc.mp he
                               omega
                             · exact hq q q0 (by omega) he⟩)
theorem rf_isInPane {Q : List mv_V → mv_M → Prop} {M : mv_M} {co wi ta bo pa wy lc fo tu bl kl se ow : Int} (hO : rf_O M co wi ta bo pa wy lc fo tu bl kl se ow) {N K : Int → Int} (hPan : M.2 49 = .inl (32, N)) (hBlk : M.2 54 = .inl (256, K)) (pa0 : 0 ≤ pa) (pa8 : pa ≤ 8) (hpo : rf_ok pa N) {b : Int} (b0 : 0 ≤ b) (b1 : b < 64) (hbb : 0 ≤ rf_l K b ∧ rf_l K b < rf_r K b ∧ rf_r K b ≤ 4096 ∧ 0 ≤ rf_u K b ∧ rf_u K b < rf_d K b ∧ rf_d K b ≤ 4096) (k1 : bf_inp pa (rf_l N) (rf_u N) (rf_r N) (rf_d N) (rf_l K) (rf_u K) (rf_r K) (rf_d K) b → Q [.inl 1] M) (k0 : ¬ bf_inp pa (rf_l N) (rf_u N) (rf_r N) (rf_d N) (rf_l K) (rf_u K) (rf_r K) (rf_d K) b → Q [.inl 0] M) : mv_J md_RM_isInPane [.inr 47, .inl b] M Q := by
  refine mv_enter (by decide +kernel) (Nat.le_of_ble_eq_true rfl) ?_
  show mv_W md_RM_isInPane 0 [.inr 47, .inl b, .inr 0, .inr 0, .inr 0, .inr 0] [] M (0, 0) Q
  refine mx_iconst (0) d_RM_isInPane_0 (by decide +kernel) (by unfold mv_r; omega) ?_
  refine mx_istore_n d_RM_isInPane_1 (by decide) ?_
  refine mx_iconst (0) d_RM_isInPane_2 (by decide +kernel) (by unfold mv_r; omega) ?_
  refine mx_istore_n d_RM_isInPane_3 (by decide) ?_
  exact rf_ip_l hO hPan hBlk pa0 pa8 hpo b0 b1 hbb k1 k0 (pa.toNat + 1) 0 0 _ _ (by omega) (by omega) pa0 (Or.inr ⟨rfl, fun q q0 q1 => by omega⟩)
