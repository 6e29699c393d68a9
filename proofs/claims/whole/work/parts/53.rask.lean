/-! the reference: boxes and panes come; what is asked -/
theorem rf_isOnSheet {Q : List mv_V → mv_M → Prop} {M : mv_M} {co wi ta bo pa wy lc fo tu bl kl se ow : Int} (hO : rf_O M co wi ta bo pa wy lc fo tu bl kl se ow) {x y w h : Int} (w1 : 1 ≤ wi) (w2 : wi ≤ 4096) (t1 : 1 ≤ ta) (t2 : ta ≤ 4096) (k1 : bf_on wi ta x y w h → Q [.inl 1] M) (k0 : ¬ bf_on wi ta x y w h → Q [.inl 0] M) : mv_J md_RM_isOnSheet [.inr 47, .inl x, .inl y, .inl w, .inl h] M Q := by
  refine mv_enter (by decide +kernel) (Nat.le_of_ble_eq_true rfl) ?_
  show mv_W md_RM_isOnSheet 0 [.inr 47, .inl x, .inl y, .inl w, .inl h] [] M (0, 0) Q
  refine mx_iload_n d_RM_isOnSheet_0 rfl ?_
  refine mx_iconst (1) d_RM_isOnSheet_1 (by decide +kernel) (by unfold mv_r; omega) ?_
  refine mx_icmp_lt 52 d_RM_isOnSheet_2 (by decide) (fun c2 => ?_) (fun c2 => ?_)
  · skip
    refine mx_iconst (0) d_RM_isOnSheet_52 (by decide +kernel) (by unfold mv_r; omega) ?_
    refine mx_zreturn d_RM_isOnSheet_53 rfl (by omega) ?_
    first | exact k1 (by unfold bf_on; omega) | exact k0 (by unfold bf_on; omega)
  · skip
    refine mx_iload d_RM_isOnSheet_5 rfl ?_
    refine mx_iconst (1) d_RM_isOnSheet_7 (by decide +kernel) (by unfold mv_r; omega) ?_
    refine mx_icmp_lt 52 d_RM_isOnSheet_8 (by decide) (fun c8 => ?_) (fun c8 => ?_)
    · skip
      refine mx_iconst (0) d_RM_isOnSheet_52 (by decide +kernel) (by unfold mv_r; omega) ?_
      refine mx_zreturn d_RM_isOnSheet_53 rfl (by omega) ?_
      first | exact k1 (by unfold bf_on; omega) | exact k0 (by unfold bf_on; omega)
    · skip
      refine mx_iload_n d_RM_isOnSheet_11 rfl ?_
      refine mx_if_lt 52 d_RM_isOnSheet_12 (by decide) (fun c12 => ?_) (fun c12 => ?_)
      · skip
        refine mx_iconst (0) d_RM_isOnSheet_52 (by decide +kernel) (by unfold mv_r; omega) ?_
        refine mx_zreturn d_RM_isOnSheet_53 rfl (by omega) ?_
        first | exact k1 (by unfold bf_on; omega) | exact k0 (by unfold bf_on; omega)
      · skip
        refine mx_iload_n d_RM_isOnSheet_15 rfl ?_
        refine mx_if_lt 52 d_RM_isOnSheet_16 (by decide) (fun c16 => ?_) (fun c16 => ?_)
        · skip
          refine mx_iconst (0) d_RM_isOnSheet_52 (by decide +kernel) (by unfold mv_r; omega) ?_
          refine mx_zreturn d_RM_isOnSheet_53 rfl (by omega) ?_
          first | exact k1 (by unfold bf_on; omega) | exact k0 (by unfold bf_on; omega)
        · skip
          refine mx_lsum (p2 := 22) d_RM_isOnSheet_19 d_RM_isOnSheet_20 (Or.inl ⟨3, d_RM_isOnSheet_21, rfl, rfl⟩) d_RM_isOnSheet_22 d_RM_isOnSheet_23 d_RM_isOnSheet_24 d_RM_isOnSheet_25 d_RM_isOnSheet_28 d_RM_isOnSheet_29 rfl rfl (by omega) f_RM_59 hO rfl ?_
          refine mx_if_gt 52 d_RM_isOnSheet_30 (by decide) (fun c30 => ?_) (fun c30 => ?_)
          · skip
            have h30 : wi < x + w := by
              by_cases hq : wi < x + w
              · exact hq
              · rw [if_neg hq] at c30
                split at c30 <;> omega
            refine mx_iconst (0) d_RM_isOnSheet_52 (by decide +kernel) (by unfold mv_r; omega) ?_
            refine mx_zreturn d_RM_isOnSheet_53 rfl (by omega) ?_
            first | exact k1 (by unfold bf_on; omega) | exact k0 (by unfold bf_on; omega)
          · skip
            have h30 : x + w ≤ wi := by
              by_cases hq : wi < x + w
              · rw [if_pos hq] at c30; omega
              · omega
            refine mx_lsum (p2 := 37) d_RM_isOnSheet_33 d_RM_isOnSheet_34 (Or.inr ⟨4, d_RM_isOnSheet_35, rfl, rfl⟩) d_RM_isOnSheet_37 d_RM_isOnSheet_38 d_RM_isOnSheet_39 d_RM_isOnSheet_40 d_RM_isOnSheet_43 d_RM_isOnSheet_44 rfl rfl (by omega) f_RM_63 hO rfl ?_
            refine mx_if_gt 52 d_RM_isOnSheet_45 (by decide) (fun c45 => ?_) (fun c45 => ?_)
            · skip
              have h45 : ta < y + h := by
                by_cases hq : ta < y + h
                · exact hq
                · rw [if_neg hq] at c45
                  split at c45 <;> omega
              refine mx_iconst (0) d_RM_isOnSheet_52 (by decide +kernel) (by unfold mv_r; omega) ?_
              refine mx_zreturn d_RM_isOnSheet_53 rfl (by omega) ?_
              first | exact k1 (by unfold bf_on; omega) | exact k0 (by unfold bf_on; omega)
            · skip
              have h45 : y + h ≤ ta := by
                by_cases hq : ta < y + h
                · rw [if_pos hq] at c45; omega
                · omega
              refine mx_iconst (1) d_RM_isOnSheet_48 (by decide +kernel) (by unfold mv_r; omega) ?_
              refine mx_goto 53 d_RM_isOnSheet_49 (by decide) ?_
              refine mx_zreturn d_RM_isOnSheet_53 rfl (by omega) ?_
              first | exact k1 (by unfold bf_on; omega) | exact k0 (by unfold bf_on; omega)
theorem rf_box {Q : List mv_V → mv_M → Prop} {M : mv_M} {co wi ta bo pa wy lc fo tu bl kl se ow : Int} (hO : rf_O M co wi ta bo pa wy lc fo tu bl kl se ow) {B : Int → Int} (hBox : M.2 48 = .inl (256, B)) {x y w h : Int} (w1 : 1 ≤ wi) (w2 : wi ≤ 4096) (t1 : 1 ≤ ta) (t2 : ta ≤ 4096) (n0 : 0 ≤ bo) (n1 : bo ≤ 64) (k1 : ∀ M', (∀ j, j ≠ 47 → M'.2 j = M.2 j) → rf_O M' 0 wi ta bo pa wy lc fo tu bl kl se ow → ¬ bf_on wi ta x y w h → Q [.inl (-12)] M') (k2 : ∀ M', (∀ j, j ≠ 47 → M'.2 j = M.2 j) → rf_O M' 0 wi ta bo pa wy lc fo tu bl kl se ow → bf_on wi ta x y w h → bo = 64 → Q [.inl (-14)] M') (k3 : ∀ M', (∀ j, j ≠ 47 → j ≠ 48 → M'.2 j = M.2 j) → rf_O M' 0 wi ta (bo + 1) pa wy lc fo tu bl kl se ow → bf_on wi ta x y w h → bo < 64 → M'.2 48 = .inl (256, mv_s (mv_s (mv_s (mv_s B (4 * bo) x) (4 * bo + 1) y) (4 * bo + 2) w) (4 * bo + 3) h) → Q [.inl bo] M') : mv_J md_RM_box [.inr 47, .inl x, .inl y, .inl w, .inl h] M Q := by
  refine mv_enter (by decide +kernel) (Nat.le_of_ble_eq_true rfl) ?_
  show mv_W md_RM_box 0 [.inr 47, .inl x, .inl y, .inl w, .inl h] [] M (0, 0) Q
  refine mx_aload_n d_RM_box_0 rfl (by omega) ?_
  refine mx_iconst (0) d_RM_box_1 (by decide +kernel) (by unfold mv_r; omega) ?_
  refine mx_pl d_RM_box_2 g_RM_66 hO (mv_Vi _) (Nat.le_of_ble_eq_true rfl) ?_
  have hO0 : rf_O (mv_p M 47 (.inr (ki_RM, mv_l [.inl 0, .inl wi, .inl ta, .inl bo, .inr 48, .inl pa, .inr 49, .inl wy, .inr 50, .inl lc, .inr 51, .inr 52, .inr 53, .inl fo, .inl tu, .inl bl, .inr 54, .inr 55, .inr 56, .inr 57, .inr 58, .inl kl, .inr 59, .inr 60, .inr 61, .inr 62, .inl se, .inr 63, .inl ow]))) 0 wi ta bo pa wy lc fo tu bl kl se ow := mv_ps
  have e0 : ∀ j, j ≠ 47 → (mv_p M 47 (.inr (ki_RM, mv_l [.inl 0, .inl wi, .inl ta, .inl bo, .inr 48, .inl pa, .inr 49, .inl wy, .inr 50, .inl lc, .inr 51, .inr 52, .inr 53, .inl fo, .inl tu, .inl bl, .inr 54, .inr 55, .inr 56, .inr 57, .inr 58, .inl kl, .inr 59, .inr 60, .inr 61, .inr 62, .inl se, .inr 63, .inl ow]))).2 j = M.2 j := fun j hj => mv_pn hj
  show mv_W md_RM_box 5 [.inr 47, .inl x, .inl y, .inl w, .inl h] [] (mv_p M 47 (.inr (ki_RM, mv_l [.inl 0, .inl wi, .inl ta, .inl bo, .inr 48, .inl pa, .inr 49, .inl wy, .inr 50, .inl lc, .inr 51, .inr 52, .inr 53, .inl fo, .inl tu, .inl bl, .inr 54, .inr 55, .inr 56, .inr 57, .inr 58, .inl kl, .inr 59, .inr 60, .inr 61, .inr 62, .inl se, .inr 63, .inl ow]))) (0, 0) Q
  generalize mv_p M 47 _ = M0 at hO0 e0 ⊢
  have hBox0 : M0.2 48 = _ := (e0 48 (by omega)).trans hBox
  refine mx_aload_n d_RM_box_5 rfl (by omega) ?_
  refine mx_iload_n d_RM_box_6 rfl ?_
  refine mx_iload_n d_RM_box_7 rfl ?_
  refine mx_iload_n d_RM_box_8 rfl ?_
  refine mx_iload d_RM_box_9 rfl ?_
  refine mx_cV4 d_RM_box_11 c_RM_69 hO0 (by decide) (Nat.le_of_ble_eq_true rfl) ?_
  refine rf_isOnSheet hO0 w1 w2 t1 t2 (fun hon => ?_) (fun hon => ?_)
  · skip
    refine mx_n1 20 d_RM_box_14 (by decide) ?_
    refine mx_aload_n d_RM_box_20 rfl (by omega) ?_
    refine mx_gl d_RM_box_21 f_RM_73 hO0 rfl ?_
    refine mx_bipush (64) d_RM_box_24 (by decide +kernel) (by unfold mv_r; omega) ?_
    refine mx_icmp_ne 32 d_RM_box_26 (by decide) (fun c26 => ?_) (fun c26 => ?_)
    · skip
      refine mx_aload_n d_RM_box_32 rfl (by omega) ?_
      refine mx_gl d_RM_box_33 f_RM_7 hO0 rfl ?_
      refine mx_iconst (4) d_RM_box_36 (by decide +kernel) (by unfold mv_r; omega) ?_
      refine mx_aload_n d_RM_box_37 rfl (by omega) ?_
      refine mx_gl d_RM_box_38 f_RM_73 hO0 rfl ?_
      refine mx_imul d_RM_box_41 (by unfold mv_r; omega) ?_
      refine mx_iload_n d_RM_box_42 rfl ?_
      refine mx_iast d_RM_box_43 hBox0 (by omega) (by omega) (by omega) ?_
      refine mx_aload_n d_RM_box_44 rfl (by omega) ?_
      refine mx_gl d_RM_box_45 f_RM_7 (by rw [mv_pn (by omega)]; exact hO0) rfl ?_
      refine mx_iconst (4) d_RM_box_48 (by decide +kernel) (by unfold mv_r; omega) ?_
      refine mx_aload_n d_RM_box_49 rfl (by omega) ?_
      refine mx_gl d_RM_box_50 f_RM_73 (by rw [mv_pn (by omega)]; exact hO0) rfl ?_
      refine mx_imul d_RM_box_53 (by unfold mv_r; omega) ?_
      refine mx_iconst (1) d_RM_box_54 (by decide +kernel) (by unfold mv_r; omega) ?_
      refine mx_iadd d_RM_box_55 (by unfold mv_r; omega) ?_
      refine mx_iload_n d_RM_box_56 rfl ?_
      refine mx_iast d_RM_box_57 (by rw [mv_ps]) (by omega) (by omega) (by omega) ?_
      refine mx_aload_n d_RM_box_58 rfl (by omega) ?_
      refine mx_gl d_RM_box_59 f_RM_7 (by rw [mv_pn (by omega), mv_pn (by omega)]; exact hO0) rfl ?_
      refine mx_iconst (4) d_RM_box_62 (by decide +kernel) (by unfold mv_r; omega) ?_
      refine mx_aload_n d_RM_box_63 rfl (by omega) ?_
      refine mx_gl d_RM_box_64 f_RM_73 (by rw [mv_pn (by omega), mv_pn (by omega)]; exact hO0) rfl ?_
      refine mx_imul d_RM_box_67 (by unfold mv_r; omega) ?_
      refine mx_iconst (2) d_RM_box_68 (by decide +kernel) (by unfold mv_r; omega) ?_
      refine mx_iadd d_RM_box_69 (by unfold mv_r; omega) ?_
      refine mx_iload_n d_RM_box_70 rfl ?_
      refine mx_iast d_RM_box_71 (by rw [mv_ps]) (by omega) (by omega) (by omega) ?_
      refine mx_aload_n d_RM_box_72 rfl (by omega) ?_
      refine mx_gl d_RM_box_73 f_RM_7 (by rw [mv_pn (by omega), mv_pn (by omega), mv_pn (by omega)]; exact hO0) rfl ?_
      refine mx_iconst (4) d_RM_box_76 (by decide +kernel) (by unfold mv_r; omega) ?_
      refine mx_aload_n d_RM_box_77 rfl (by omega) ?_
      refine mx_gl d_RM_box_78 f_RM_73 (by rw [mv_pn (by omega), mv_pn (by omega), mv_pn (by omega)]; exact hO0) rfl ?_
      refine mx_imul d_RM_box_81 (by unfold mv_r; omega) ?_
      refine mx_iconst (3) d_RM_box_82 (by decide +kernel) (by unfold mv_r; omega) ?_
      refine mx_iadd d_RM_box_83 (by unfold mv_r; omega) ?_
      refine mx_iload d_RM_box_84 rfl ?_
      refine mx_iast d_RM_box_86 (by rw [mv_ps]) (by omega) (by omega) (by omega) ?_
      refine mx_aload_n d_RM_box_87 rfl (by omega) ?_
      refine mx_dup d_RM_box_88 ?_
      refine mx_gl d_RM_box_89 f_RM_73 (by rw [mv_pn (by omega), mv_pn (by omega), mv_pn (by omega), mv_pn (by omega)]; exact hO0) rfl ?_
      refine mx_iconst (1) d_RM_box_92 (by decide +kernel) (by unfold mv_r; omega) ?_
      refine mx_iadd d_RM_box_93 (by unfold mv_r; omega) ?_
      refine mx_pl d_RM_box_94 g_RM_73 (by rw [mv_pn (by omega), mv_pn (by omega), mv_pn (by omega), mv_pn (by omega)]; exact hO0) (mv_Vi _) (Nat.le_of_ble_eq_true rfl) ?_
      refine mx_aload_n d_RM_box_97 rfl (by omega) ?_
      refine mx_gl d_RM_box_98 f_RM_73 (by rw [mv_ps]) rfl ?_
      refine mx_iconst (1) d_RM_box_101 (by decide +kernel) (by unfold mv_r; omega) ?_
      refine mx_isub d_RM_box_102 (by unfold mv_r; omega) ?_
      refine mx_ireturn d_RM_box_103 rfl ?_
      rw [show bo + 1 - 1 = bo by omega]
      exact k3 _ (fun j j1 j2 => by rw [mv_pn j1, mv_pn j2, mv_pn j2, mv_pn j2, mv_pn j2]; exact e0 j j1) mv_ps hon (by omega) (by rw [mv_pn (by omega), mv_ps])
    · skip
      refine mx_bipush (-14) d_RM_box_29 (by decide +kernel) (by unfold mv_r; omega) ?_
      refine mx_ireturn d_RM_box_31 rfl ?_
      exact k2 M0 e0 hO0 hon (by omega)
  · skip
    refine mx_n0 20 d_RM_box_14 (by decide) ?_
    refine mx_bipush (-12) d_RM_box_17 (by decide +kernel) (by unfold mv_r; omega) ?_
    refine mx_ireturn d_RM_box_19 rfl ?_
    exact k1 M0 e0 hO0 hon
theorem rf_frame {Q : List mv_V → mv_M → Prop} {M : mv_M} {co wi ta bo pa wy lc fo tu bl kl se ow : Int} (hO : rf_O M co wi ta bo pa wy lc fo tu bl kl se ow) {N : Int → Int} (hPan : M.2 49 = .inl (32, N)) {x y w h : Int} (w1 : 1 ≤ wi) (w2 : wi ≤ 4096) (t1 : 1 ≤ ta) (t2 : ta ≤ 4096) (n0 : 0 ≤ pa) (n1 : pa ≤ 8) (k1 : ∀ M', (∀ j, j ≠ 47 → M'.2 j = M.2 j) → rf_O M' 0 wi ta bo pa wy lc fo tu bl kl se ow → ¬ bf_on wi ta x y w h → Q [.inl (-12)] M') (k2 : ∀ M', (∀ j, j ≠ 47 → M'.2 j = M.2 j) → rf_O M' 0 wi ta bo pa wy lc fo tu bl kl se ow → bf_on wi ta x y w h → pa = 8 → Q [.inl (-14)] M') (k3 : ∀ M', (∀ j, j ≠ 47 → j ≠ 49 → M'.2 j = M.2 j) → rf_O M' 0 wi ta bo (pa + 1) wy lc fo tu bl kl se ow → bf_on wi ta x y w h → pa < 8 → M'.2 49 = .inl (32, mv_s (mv_s (mv_s (mv_s N (4 * pa) x) (4 * pa + 1) y) (4 * pa + 2) w) (4 * pa + 3) h) → Q [.inl pa] M') : mv_J md_RM_frame [.inr 47, .inl x, .inl y, .inl w, .inl h] M Q := by
  refine mv_enter (by decide +kernel) (Nat.le_of_ble_eq_true rfl) ?_
  show mv_W md_RM_frame 0 [.inr 47, .inl x, .inl y, .inl w, .inl h] [] M (0, 0) Q
  refine mx_aload_n d_RM_frame_0 rfl (by omega) ?_
  refine mx_iconst (0) d_RM_frame_1 (by decide +kernel) (by unfold mv_r; omega) ?_
  refine mx_pl d_RM_frame_2 g_RM_66 hO (mv_Vi _) (Nat.le_of_ble_eq_true rfl) ?_
  have hO0 : rf_O (mv_p M 47 (.inr (ki_RM, mv_l [.inl 0, .inl wi, .inl ta, .inl bo, .inr 48, .inl pa, .inr 49, .inl wy, .inr 50, .inl lc, .inr 51, .inr 52, .inr 53, .inl fo, .inl tu, .inl bl, .inr 54, .inr 55, .inr 56, .inr 57, .inr 58, .inl kl, .inr 59, .inr 60, .inr 61, .inr 62, .inl se, .inr 63, .inl ow]))) 0 wi ta bo pa wy lc fo tu bl kl se ow := mv_ps
  have e0 : ∀ j, j ≠ 47 → (mv_p M 47 (.inr (ki_RM, mv_l [.inl 0, .inl wi, .inl ta, .inl bo, .inr 48, .inl pa, .inr 49, .inl wy, .inr 50, .inl lc, .inr 51, .inr 52, .inr 53, .inl fo, .inl tu, .inl bl, .inr 54, .inr 55, .inr 56, .inr 57, .inr 58, .inl kl, .inr 59, .inr 60, .inr 61, .inr 62, .inl se, .inr 63, .inl ow]))).2 j = M.2 j := fun j hj => mv_pn hj
  show mv_W md_RM_frame 5 [.inr 47, .inl x, .inl y, .inl w, .inl h] [] (mv_p M 47 (.inr (ki_RM, mv_l [.inl 0, .inl wi, .inl ta, .inl bo, .inr 48, .inl pa, .inr 49, .inl wy, .inr 50, .inl lc, .inr 51, .inr 52, .inr 53, .inl fo, .inl tu, .inl bl, .inr 54, .inr 55, .inr 56, .inr 57, .inr 58, .inl kl, .inr 59, .inr 60, .inr 61, .inr 62, .inl se, .inr 63, .inl ow]))) (0, 0) Q
  generalize mv_p M 47 _ = M0 at hO0 e0 ⊢
  have hPan0 : M0.2 49 = _ := (e0 49 (by omega)).trans hPan
  refine mx_aload_n d_RM_frame_5 rfl (by omega) ?_
  refine mx_iload_n d_RM_frame_6 rfl ?_
  refine mx_iload_n d_RM_frame_7 rfl ?_
  refine mx_iload_n d_RM_frame_8 rfl ?_
  refine mx_iload d_RM_frame_9 rfl ?_
  refine mx_cV4 d_RM_frame_11 c_RM_69 hO0 (by decide) (Nat.le_of_ble_eq_true rfl) ?_
  refine rf_isOnSheet hO0 w1 w2 t1 t2 (fun hon => ?_) (fun hon => ?_)
  · skip
    refine mx_n1 20 d_RM_frame_14 (by decide) ?_
    refine mx_aload_n d_RM_frame_20 rfl (by omega) ?_
    refine mx_gl d_RM_frame_21 f_RM_76 hO0 rfl ?_
    refine mx_bipush (8) d_RM_frame_24 (by decide +kernel) (by unfold mv_r; omega) ?_
    refine mx_icmp_ne 32 d_RM_frame_26 (by decide) (fun c26 => ?_) (fun c26 => ?_)
    · skip
      refine mx_aload_n d_RM_frame_32 rfl (by omega) ?_
      refine mx_gl d_RM_frame_33 f_RM_13 hO0 rfl ?_
      refine mx_iconst (4) d_RM_frame_36 (by decide +kernel) (by unfold mv_r; omega) ?_
      refine mx_aload_n d_RM_frame_37 rfl (by omega) ?_
      refine mx_gl d_RM_frame_38 f_RM_76 hO0 rfl ?_
      refine mx_imul d_RM_frame_41 (by unfold mv_r; omega) ?_
      refine mx_iload_n d_RM_frame_42 rfl ?_
      refine mx_iast d_RM_frame_43 hPan0 (by omega) (by omega) (by omega) ?_
      refine mx_aload_n d_RM_frame_44 rfl (by omega) ?_
      refine mx_gl d_RM_frame_45 f_RM_13 (by rw [mv_pn (by omega)]; exact hO0) rfl ?_
      refine mx_iconst (4) d_RM_frame_48 (by decide +kernel) (by unfold mv_r; omega) ?_
      refine mx_aload_n d_RM_frame_49 rfl (by omega) ?_
      refine mx_gl d_RM_frame_50 f_RM_76 (by rw [mv_pn (by omega)]; exact hO0) rfl ?_
      refine mx_imul d_RM_frame_53 (by unfold mv_r; omega) ?_
      refine mx_iconst (1) d_RM_frame_54 (by decide +kernel) (by unfold mv_r; omega) ?_
      refine mx_iadd d_RM_frame_55 (by unfold mv_r; omega) ?_
      refine mx_iload_n d_RM_frame_56 rfl ?_
      refine mx_iast d_RM_frame_57 (by rw [mv_ps]) (by omega) (by omega) (by omega) ?_
      refine mx_aload_n d_RM_frame_58 rfl (by omega) ?_
      refine mx_gl d_RM_frame_59 f_RM_13 (by rw [mv_pn (by omega), mv_pn (by omega)]; exact hO0) rfl ?_
      refine mx_iconst (4) d_RM_frame_62 (by decide +kernel) (by unfold mv_r; omega) ?_
      refine mx_aload_n d_RM_frame_63 rfl (by omega) ?_
      refine mx_gl d_RM_frame_64 f_RM_76 (by rw [mv_pn (by omega), mv_pn (by omega)]; exact hO0) rfl ?_
      refine mx_imul d_RM_frame_67 (by unfold mv_r; omega) ?_
      refine mx_iconst (2) d_RM_frame_68 (by decide +kernel) (by unfold mv_r; omega) ?_
      refine mx_iadd d_RM_frame_69 (by unfold mv_r; omega) ?_
      refine mx_iload_n d_RM_frame_70 rfl ?_
      refine mx_iast d_RM_frame_71 (by rw [mv_ps]) (by omega) (by omega) (by omega) ?_
      refine mx_aload_n d_RM_frame_72 rfl (by omega) ?_
      refine mx_gl d_RM_frame_73 f_RM_13 (by rw [mv_pn (by omega), mv_pn (by omega), mv_pn (by omega)]; exact hO0) rfl ?_
      refine mx_iconst (4) d_RM_frame_76 (by decide +kernel) (by unfold mv_r; omega) ?_
      refine mx_aload_n d_RM_frame_77 rfl (by omega) ?_
      refine mx_gl d_RM_frame_78 f_RM_76 (by rw [mv_pn (by omega), mv_pn (by omega), mv_pn (by omega)]; exact hO0) rfl ?_
      refine mx_imul d_RM_frame_81 (by unfold mv_r; omega) ?_
      refine mx_iconst (3) d_RM_frame_82 (by decide +kernel) (by unfold mv_r; omega) ?_
      refine mx_iadd d_RM_frame_83 (by unfold mv_r; omega) ?_
      refine mx_iload d_RM_frame_84 rfl ?_
      refine mx_iast d_RM_frame_86 (by rw [mv_ps]) (by omega) (by omega) (by omega) ?_
      refine mx_aload_n d_RM_frame_87 rfl (by omega) ?_
      refine mx_dup d_RM_frame_88 ?_
      refine mx_gl d_RM_frame_89 f_RM_76 (by rw [mv_pn (by omega), mv_pn (by omega), mv_pn (by omega), mv_pn (by omega)]; exact hO0) rfl ?_
      refine mx_iconst (1) d_RM_frame_92 (by decide +kernel) (by unfold mv_r; omega) ?_
      refine mx_iadd d_RM_frame_93 (by unfold mv_r; omega) ?_
      refine mx_pl d_RM_frame_94 g_RM_76 (by rw [mv_pn (by omega), mv_pn (by omega), mv_pn (by omega), mv_pn (by omega)]; exact hO0) (mv_Vi _) (Nat.le_of_ble_eq_true rfl) ?_
      refine mx_aload_n d_RM_frame_97 rfl (by omega) ?_
      refine mx_gl d_RM_frame_98 f_RM_76 (by rw [mv_ps]) rfl ?_
      refine mx_iconst (1) d_RM_frame_101 (by decide +kernel) (by unfold mv_r; omega) ?_
      refine mx_isub d_RM_frame_102 (by unfold mv_r; omega) ?_
      refine mx_ireturn d_RM_frame_103 rfl ?_
      rw [show pa + 1 - 1 = pa by omega]
      exact k3 _ (fun j j1 j2 => by rw [mv_pn j1, mv_pn j2, mv_pn j2, mv_pn j2, mv_pn j2]; exact e0 j j1) mv_ps hon (by omega) (by rw [mv_pn (by omega), mv_ps])
    · skip
      refine mx_bipush (-14) d_RM_frame_29 (by decide +kernel) (by unfold mv_r; omega) ?_
      refine mx_ireturn d_RM_frame_31 rfl ?_
      exact k2 M0 e0 hO0 hon (by omega)
  · skip
    refine mx_n0 20 d_RM_frame_14 (by decide) ?_
    refine mx_bipush (-12) d_RM_frame_17 (by decide +kernel) (by unfold mv_r; omega) ?_
    refine mx_ireturn d_RM_frame_19 rfl ?_
    exact k1 M0 e0 hO0 hon
theorem rf_isBlock {Q : List mv_V → mv_M → Prop} {M : mv_M} {co wi ta bo pa wy lc fo tu bl kl se ow : Int} (hO : rf_O M co wi ta bo pa wy lc fo tu bl kl se ow) (hfo : 0 < bl → fo = 1) (hf01 : fo = 0 ∨ fo = 1) {i : Int} (k1 : (0 ≤ i ∧ i < bl) → Q [.inl 1] M) (k0 : ¬ (0 ≤ i ∧ i < bl) → Q [.inl 0] M) : mv_J md_RM_isBlock [.inr 47, .inl i] M Q := by
  refine mv_enter (by decide +kernel) (Nat.le_of_ble_eq_true rfl) ?_
  show mv_W md_RM_isBlock 0 [.inr 47, .inl i] [] M (0, 0) Q
  refine mx_aload_n d_RM_isBlock_0 rfl (by omega) ?_
  refine mx_gl d_RM_isBlock_1 f_RM_171 hO rfl ?_
  refine mx_if_eq 23 d_RM_isBlock_4 (by decide) (fun c4 => ?_) (fun c4 => ?_)
  · skip
    refine mx_iconst (0) d_RM_isBlock_23 (by decide +kernel) (by unfold mv_r; omega) ?_
    refine mx_zreturn d_RM_isBlock_24 rfl (by omega) ?_
    first | exact k1 (by omega) | exact k0 (by omega)
  · skip
    refine mx_iload_n d_RM_isBlock_7 rfl ?_
    refine mx_if_lt 23 d_RM_isBlock_8 (by decide) (fun c8 => ?_) (fun c8 => ?_)
    · skip
      refine mx_iconst (0) d_RM_isBlock_23 (by decide +kernel) (by unfold mv_r; omega) ?_
      refine mx_zreturn d_RM_isBlock_24 rfl (by omega) ?_
      first | exact k1 (by omega) | exact k0 (by omega)
    · skip
      refine mx_iload_n d_RM_isBlock_11 rfl ?_
      refine mx_aload_n d_RM_isBlock_12 rfl (by omega) ?_
      refine mx_gl d_RM_isBlock_13 f_RM_129 hO rfl ?_
      refine mx_icmp_ge 23 d_RM_isBlock_16 (by decide) (fun c16 => ?_) (fun c16 => ?_)
      · skip
        refine mx_iconst (0) d_RM_isBlock_23 (by decide +kernel) (by unfold mv_r; omega) ?_
        refine mx_zreturn d_RM_isBlock_24 rfl (by omega) ?_
        first | exact k1 (by omega) | exact k0 (by omega)
      · skip
        refine mx_iconst (1) d_RM_isBlock_19 (by decide +kernel) (by unfold mv_r; omega) ?_
        refine mx_goto 24 d_RM_isBlock_20 (by decide) ?_
        refine mx_zreturn d_RM_isBlock_24 rfl (by omega) ?_
        first | exact k1 (by omega) | exact k0 (by omega)
theorem rf_points {Q : List mv_V → mv_M → Prop} {M : mv_M} {co wi ta bo pa wy lc fo tu bl kl se ow : Int} (hO : rf_O M co wi ta bo pa wy lc fo tu bl kl se ow) (hfo : 0 < bl → fo = 1) (hf01 : fo = 0 ∨ fo = 1) {Z : Int → Int} (hPts : M.2 56 = .inl (64, Z)) {O : Int → Int} (hOrd : M.2 58 = .inl (64, O)) (hbl : bl ≤ 64) (hoo : ∀ p, 0 ≤ p → p < bl → 0 ≤ O p ∧ O p < bl) {i : Int} (k1 : ∀ M', (∀ j, j ≠ 47 → M'.2 j = M.2 j) → rf_O M' 0 wi ta bo pa wy lc fo tu bl kl se ow → (0 ≤ i ∧ i < bl) → Q [.inl (Z (O i))] M') (k0 : ∀ M', (∀ j, j ≠ 47 → M'.2 j = M.2 j) → rf_O M' 0 wi ta bo pa wy lc fo tu bl kl se ow → ¬ (0 ≤ i ∧ i < bl) → Q [.inl (-11)] M') : mv_J md_RM_points [.inr 47, .inl i] M Q := by
  refine mv_enter (by decide +kernel) (Nat.le_of_ble_eq_true rfl) ?_
  show mv_W md_RM_points 0 [.inr 47, .inl i] [] M (0, 0) Q
  refine mx_aload_n d_RM_points_0 rfl (by omega) ?_
  refine mx_iconst (0) d_RM_points_1 (by decide +kernel) (by unfold mv_r; omega) ?_
  refine mx_pl d_RM_points_2 g_RM_66 hO (mv_Vi _) (Nat.le_of_ble_eq_true rfl) ?_
  have hO0 : rf_O (mv_p M 47 (.inr (ki_RM, mv_l [.inl 0, .inl wi, .inl ta, .inl bo, .inr 48, .inl pa, .inr 49, .inl wy, .inr 50, .inl lc, .inr 51, .inr 52, .inr 53, .inl fo, .inl tu, .inl bl, .inr 54, .inr 55, .inr 56, .inr 57, .inr 58, .inl kl, .inr 59, .inr 60, .inr 61, .inr 62, .inl se, .inr 63, .inl ow]))) 0 wi ta bo pa wy lc fo tu bl kl se ow := mv_ps
  have e0 : ∀ j, j ≠ 47 → (mv_p M 47 (.inr (ki_RM, mv_l [.inl 0, .inl wi, .inl ta, .inl bo, .inr 48, .inl pa, .inr 49, .inl wy, .inr 50, .inl lc, .inr 51, .inr 52, .inr 53, .inl fo, .inl tu, .inl bl, .inr 54, .inr 55, .inr 56, .inr 57, .inr 58, .inl kl, .inr 59, .inr 60, .inr 61, .inr 62, .inl se, .inr 63, .inl ow]))).2 j = M.2 j := fun j hj => mv_pn hj
  show mv_W md_RM_points 5 [.inr 47, .inl i] [] (mv_p M 47 (.inr (ki_RM, mv_l [.inl 0, .inl wi, .inl ta, .inl bo, .inr 48, .inl pa, .inr 49, .inl wy, .inr 50, .inl lc, .inr 51, .inr 52, .inr 53, .inl fo, .inl tu, .inl bl, .inr 54, .inr 55, .inr 56, .inr 57, .inr 58, .inl kl, .inr 59, .inr 60, .inr 61, .inr 62, .inl se, .inr 63, .inl ow]))) (0, 0) Q
  generalize mv_p M 47 _ = M0 at hO0 e0 ⊢
  have hPts0 : M0.2 56 = _ := (e0 56 (by omega)).trans hPts
  have hOrd0 : M0.2 58 = _ := (e0 58 (by omega)).trans hOrd
  refine mx_aload_n d_RM_points_5 rfl (by omega) ?_
  refine mx_iload_n d_RM_points_6 rfl ?_
  refine mx_cV1 d_RM_points_7 c_RM_180 hO0 (by decide) (Nat.le_of_ble_eq_true rfl) ?_
  refine rf_isBlock hO0 hfo hf01 (fun hi => ?_) (fun hi => ?_)
  · skip
    refine mx_z1 27 d_RM_points_10 (by decide) ?_
    have hki := hoo i hi.1 hi.2
    refine mx_aload_n d_RM_points_13 rfl (by omega) ?_
    refine mx_gl d_RM_points_14 f_RM_34 hO0 rfl ?_
    refine mx_aload_n d_RM_points_17 rfl (by omega) ?_
    refine mx_gl d_RM_points_18 f_RM_41 hO0 rfl ?_
    refine mx_iload_n d_RM_points_21 rfl ?_
    refine mx_iald d_RM_points_22 hOrd0 (by omega) (by omega) ?_
    refine mx_iald d_RM_points_23 hPts0 (by omega) (by omega) ?_
    refine mx_goto 29 d_RM_points_24 (by decide) ?_
    refine mx_ireturn d_RM_points_29 rfl ?_
    first | exact k1 M0 e0 hO0 hi | exact k0 M0 e0 hO0 hi
  · skip
    refine mx_z0 27 d_RM_points_10 (by decide) ?_
    refine mx_bipush (-11) d_RM_points_27 (by decide +kernel) (by unfold mv_r; omega) ?_
    refine mx_ireturn d_RM_points_29 rfl ?_
    first | exact k1 M0 e0 hO0 hi | exact k0 M0 e0 hO0 hi
theorem rf_printed {Q : List mv_V → mv_M → Prop} {M : mv_M} {co wi ta bo pa wy lc fo tu bl kl se ow : Int} (hO : rf_O M co wi ta bo pa wy lc fo tu bl kl se ow) (hfo : 0 < bl → fo = 1) (hf01 : fo = 0 ∨ fo = 1) {PR : Nat → mv_V} (hPri : M.2 57 = .inr (5000 + 64, PR)) {O : Int → Int} (hOrd : M.2 58 = .inl (64, O)) (hbl : bl ≤ 64) (hoo : ∀ p, 0 ≤ p → p < bl → 0 ≤ O p ∧ O p < bl) (hpr : ∀ b, 0 ≤ b → b < bl → PR b.toNat = .inl 0 ∨ PR b.toNat = .inl 1) {i : Int} (k1 : ∀ M', (∀ j, j ≠ 47 → M'.2 j = M.2 j) → rf_O M' 0 wi ta bo pa wy lc fo tu bl kl se ow → (0 ≤ i ∧ i < bl) → PR (O i).toNat = .inl 1 → Q [.inl 1] M') (k0 : ∀ M', (∀ j, j ≠ 47 → M'.2 j = M.2 j) → rf_O M' 0 wi ta bo pa wy lc fo tu bl kl se ow → ¬ ((0 ≤ i ∧ i < bl) ∧ PR (O i).toNat = .inl 1) → Q [.inl 0] M') : mv_J md_RM_printed [.inr 47, .inl i] M Q := by
  refine mv_enter (by decide +kernel) (Nat.le_of_ble_eq_true rfl) ?_
  show mv_W md_RM_printed 0 [.inr 47, .inl i] [] M (0, 0) Q
  refine mx_aload_n d_RM_printed_0 rfl (by omega) ?_
  refine mx_iconst (0) d_RM_printed_1 (by decide +kernel) (by unfold mv_r; omega) ?_
  refine mx_pl d_RM_printed_2 g_RM_66 hO (mv_Vi _) (Nat.le_of_ble_eq_true rfl) ?_
  have hO0 : rf_O (mv_p M 47 (.inr (ki_RM, mv_l [.inl 0, .inl wi, .inl ta, .inl bo, .inr 48, .inl pa, .inr 49, .inl wy, .inr 50, .inl lc, .inr 51, .inr 52, .inr 53, .inl fo, .inl tu, .inl bl, .inr 54, .inr 55, .inr 56, .inr 57, .inr 58, .inl kl, .inr 59, .inr 60, .inr 61, .inr 62, .inl se, .inr 63, .inl ow]))) 0 wi ta bo pa wy lc fo tu bl kl se ow := mv_ps
  have e0 : ∀ j, j ≠ 47 → (mv_p M 47 (.inr (ki_RM, mv_l [.inl 0, .inl wi, .inl ta, .inl bo, .inr 48, .inl pa, .inr 49, .inl wy, .inr 50, .inl lc, .inr 51, .inr 52, .inr 53, .inl fo, .inl tu, .inl bl, .inr 54, .inr 55, .inr 56, .inr 57, .inr 58, .inl kl, .inr 59, .inr 60, .inr 61, .inr 62, .inl se, .inr 63, .inl ow]))).2 j = M.2 j := fun j hj => mv_pn hj
  show mv_W md_RM_printed 5 [.inr 47, .inl i] [] (mv_p M 47 (.inr (ki_RM, mv_l [.inl 0, .inl wi, .inl ta, .inl bo, .inr 48, .inl pa, .inr 49, .inl wy, .inr 50, .inl lc, .inr 51, .inr 52, .inr 53, .inl fo, .inl tu, .inl bl, .inr 54, .inr 55, .inr 56, .inr 57, .inr 58, .inl kl, .inr 59, .inr 60, .inr 61, .inr 62, .inl se, .inr 63, .inl ow]))) (0, 0) Q
  generalize mv_p M 47 _ = M0 at hO0 e0 ⊢
  have hPri0 : M0.2 57 = _ := (e0 57 (by omega)).trans hPri
  have hOrd0 : M0.2 58 = _ := (e0 58 (by omega)).trans hOrd
  refine mx_aload_n d_RM_printed_5 rfl (by omega) ?_
  refine mx_iload_n d_RM_printed_6 rfl ?_
  refine mx_cV1 d_RM_printed_7 c_RM_180 hO0 (by decide) (Nat.le_of_ble_eq_true rfl) ?_
  refine rf_isBlock hO0 hfo hf01 (fun hi => ?_) (fun hi => ?_)
  · skip
    refine mx_z1 31 d_RM_printed_10 (by decide) ?_
    have hki := hoo i hi.1 hi.2
    rcases hpr (O i) hki.1 hki.2 with hpv | hpv
    · skip
      refine mx_aload_n d_RM_printed_13 rfl (by omega) ?_
      refine mx_gl d_RM_printed_14 f_RM_37 hO0 rfl ?_
      refine mx_aload_n d_RM_printed_17 rfl (by omega) ?_
      refine mx_gl d_RM_printed_18 f_RM_41 hO0 rfl ?_
      refine mx_iload_n d_RM_printed_21 rfl ?_
      refine mx_iald d_RM_printed_22 hOrd0 (by omega) (by omega) ?_
      refine mx_bald d_RM_printed_23 hPri0 (by omega) (by omega) hpv ?_
      refine mx_if_eq 31 d_RM_printed_24 (by decide) (fun c24 => ?_) (fun c24 => ?_)
      · skip
        skip
        refine mx_iconst (0) d_RM_printed_31 (by decide +kernel) (by unfold mv_r; omega) ?_
        refine mx_zreturn d_RM_printed_32 rfl (by omega) ?_
        exact k0 M0 e0 hO0 (fun h => by rw [hpv] at h; cases h.2)
      · skip
        exfalso; omega
    · skip
      refine mx_aload_n d_RM_printed_13 rfl (by omega) ?_
      refine mx_gl d_RM_printed_14 f_RM_37 hO0 rfl ?_
      refine mx_aload_n d_RM_printed_17 rfl (by omega) ?_
      refine mx_gl d_RM_printed_18 f_RM_41 hO0 rfl ?_
      refine mx_iload_n d_RM_printed_21 rfl ?_
      refine mx_iald d_RM_printed_22 hOrd0 (by omega) (by omega) ?_
      refine mx_bald d_RM_printed_23 hPri0 (by omega) (by omega) hpv ?_
      refine mx_if_eq 31 d_RM_printed_24 (by decide) (fun c24 => ?_) (fun c24 => ?_)
      · skip
        exfalso; omega
      · skip
        skip
        refine mx_iconst (1) d_RM_printed_27 (by decide +kernel) (by unfold mv_r; omega) ?_
        refine mx_goto 32 d_RM_printed_28 (by decide) ?_
        refine mx_zreturn d_RM_printed_32 rfl (by omega) ?_
        exact k1 M0 e0 hO0 hi hpv
  · skip
    refine mx_z0 31 d_RM_printed_10 (by decide) ?_
    refine mx_iconst (0) d_RM_printed_31 (by decide +kernel) (by unfold mv_r; omega) ?_
    refine mx_zreturn d_RM_printed_32 rfl (by omega) ?_
    exact k0 M0 e0 hO0 (fun h => hi h.1)
theorem rf_turned {Q : List mv_V → mv_M → Prop} {M : mv_M} {co wi ta bo pa wy lc fo tu bl kl se ow : Int} (hO : rf_O M co wi ta bo pa wy lc fo tu bl kl se ow) (htu : tu = 0 ∨ tu = 1) (k : ∀ M', (∀ j, j ≠ 47 → M'.2 j = M.2 j) → rf_O M' 0 wi ta bo pa wy lc fo tu bl kl se ow → Q [.inl tu] M') : mv_J md_RM_turned [.inr 47] M Q := by
  refine mv_enter (by decide +kernel) (Nat.le_of_ble_eq_true rfl) ?_
  show mv_W md_RM_turned 0 [.inr 47] [] M (0, 0) Q
  refine mx_aload_n d_RM_turned_0 rfl (by omega) ?_
  refine mx_iconst (0) d_RM_turned_1 (by decide +kernel) (by unfold mv_r; omega) ?_
  refine mx_pl d_RM_turned_2 g_RM_66 hO (mv_Vi _) (Nat.le_of_ble_eq_true rfl) ?_
  have hO0 : rf_O (mv_p M 47 (.inr (ki_RM, mv_l [.inl 0, .inl wi, .inl ta, .inl bo, .inr 48, .inl pa, .inr 49, .inl wy, .inr 50, .inl lc, .inr 51, .inr 52, .inr 53, .inl fo, .inl tu, .inl bl, .inr 54, .inr 55, .inr 56, .inr 57, .inr 58, .inl kl, .inr 59, .inr 60, .inr 61, .inr 62, .inl se, .inr 63, .inl ow]))) 0 wi ta bo pa wy lc fo tu bl kl se ow := mv_ps
  have e0 : ∀ j, j ≠ 47 → (mv_p M 47 (.inr (ki_RM, mv_l [.inl 0, .inl wi, .inl ta, .inl bo, .inr 48, .inl pa, .inr 49, .inl wy, .inr 50, .inl lc, .inr 51, .inr 52, .inr 53, .inl fo, .inl tu, .inl bl, .inr 54, .inr 55, .inr 56, .inr 57, .inr 58, .inl kl, .inr 59, .inr 60, .inr 61, .inr 62, .inl se, .inr 63, .inl ow]))).2 j = M.2 j := fun j hj => mv_pn hj
  show mv_W md_RM_turned 5 [.inr 47] [] (mv_p M 47 (.inr (ki_RM, mv_l [.inl 0, .inl wi, .inl ta, .inl bo, .inr 48, .inl pa, .inr 49, .inl wy, .inr 50, .inl lc, .inr 51, .inr 52, .inr 53, .inl fo, .inl tu, .inl bl, .inr 54, .inr 55, .inr 56, .inr 57, .inr 58, .inl kl, .inr 59, .inr 60, .inr 61, .inr 62, .inl se, .inr 63, .inl ow]))) (0, 0) Q
  generalize mv_p M 47 _ = M0 at hO0 e0 ⊢
  refine mx_aload_n d_RM_turned_5 rfl (by omega) ?_
  refine mx_gl d_RM_turned_6 f_RM_152 hO0 rfl ?_
  refine mx_zreturn d_RM_turned_9 rfl (by omega) ?_
  exact k M0 e0 hO0
theorem rf_clear {Q : List mv_V → mv_M → Prop} {M : mv_M} {co wi ta bo pa wy lc fo tu bl kl se ow : Int} (hO : rf_O M co wi ta bo pa wy lc fo tu bl kl se ow) (k : ∀ M', (∀ j, j ≠ 47 → M'.2 j = M.2 j) → rf_O M' 0 wi ta 0 pa wy lc fo tu bl kl 0 ow → Q [.inl bo] M') : mv_J md_RM_clear [.inr 47] M Q := by
  refine mv_enter (by decide +kernel) (Nat.le_of_ble_eq_true rfl) ?_
  show mv_W md_RM_clear 0 [.inr 47, .inr 0] [] M (0, 0) Q
  refine mx_aload_n d_RM_clear_0 rfl (by omega) ?_
  refine mx_iconst (0) d_RM_clear_1 (by decide +kernel) (by unfold mv_r; omega) ?_
  refine mx_pl d_RM_clear_2 g_RM_66 hO (mv_Vi _) (Nat.le_of_ble_eq_true rfl) ?_
  refine mx_aload_n d_RM_clear_5 rfl (by omega) ?_
  refine mx_gl d_RM_clear_6 f_RM_73 (by rw [mv_ps]) rfl ?_
  refine mx_istore_n d_RM_clear_9 (by decide) ?_
  refine mx_aload_n d_RM_clear_10 rfl (by omega) ?_
  refine mx_iconst (0) d_RM_clear_11 (by decide +kernel) (by unfold mv_r; omega) ?_
  refine mx_pl d_RM_clear_12 g_RM_73 (by rw [mv_ps]) (mv_Vi _) (Nat.le_of_ble_eq_true rfl) ?_
  refine mx_aload_n d_RM_clear_15 rfl (by omega) ?_
  refine mx_iconst (0) d_RM_clear_16 (by decide +kernel) (by unfold mv_r; omega) ?_
  refine mx_pl d_RM_clear_17 g_RM_136 (by rw [mv_ps]) (mv_Vi _) (Nat.le_of_ble_eq_true rfl) ?_
  refine mx_iload_n d_RM_clear_20 rfl ?_
  refine mx_ireturn d_RM_clear_21 rfl ?_
  exact k _ (fun j hj => by rw [mv_pn hj, mv_pn hj, mv_pn hj]) mv_ps
theorem rf_ca_l {Q : List mv_V → mv_M → Prop} {M : mv_M} {co wi ta bo pa wy lc fo tu bl kl se ow : Int} (hO : rf_O M co wi ta bo pa wy lc fo tu bl kl se ow) {Z : Int → Int} (hPts : M.2 56 = .inl (64, Z)) (hbl : bl ≤ 64) (k : Q [.inl (pu_cnt (fun b => decide (0 < Z b)) bl.toNat)] M) : ∀ (d : Nat) (b c : Int), bl - b < d → 0 ≤ b → b ≤ bl → c = pu_cnt (fun b => decide (0 < Z b)) b.toNat → mv_W md_RM_candidates 9 [.inr 47, .inl c, .inl b] [] M (0, 0) Q := by
  intro d
  induction d with
  | zero =>
    intro b c h1 h2 h3
    exfalso; omega
  | succ d ih =>
    intro b c hd b0 b1 hc
    have hcb := pu_cnt_le (fun b => decide (0 < Z b)) b.toNat
    rw [← hc] at hcb
    have hcs := pu_cnt_s (P := fun b => decide (0 < Z b)) b0
    refine mx_iload_n d_RM_candidates_9 rfl ?_
    refine mx_aload_n d_RM_candidates_10 rfl (by omega) ?_
    refine mx_gl d_RM_candidates_11 f_RM_129 hO rfl ?_
    refine mx_icmp_ge 40 d_RM_candidates_14 (by decide) (fun c14 => ?_) (fun c14 => ?_)
    · skip
      refine mx_iload_n d_RM_candidates_40 rfl ?_
      refine mx_ireturn d_RM_candidates_41 rfl ?_
      rw [hc, show b = bl by omega]; exact k
    · skip
      refine mx_iload_n d_RM_candidates_17 rfl ?_
      refine mx_aload_n d_RM_candidates_18 rfl (by omega) ?_
      refine mx_gl d_RM_candidates_19 f_RM_34 hO rfl ?_
      refine mx_iload_n d_RM_candidates_22 rfl ?_
      refine mx_iald d_RM_candidates_23 hPts (by omega) (by omega) ?_
      refine mx_if_le 31 d_RM_candidates_24 (by decide) (fun c24 => ?_) (fun c24 => ?_)
      · skip
        refine mx_iconst (0) d_RM_candidates_31 (by decide +kernel) (by unfold mv_r; omega) ?_
        refine mx_iadd d_RM_candidates_32 (by unfold mv_r; omega) ?_
        refine mx_istore_n d_RM_candidates_33 (by decide) ?_
        refine mx_iinc d_RM_candidates_34 rfl (by unfold mv_r; omega) ?_
        refine mx_goto 9 d_RM_candidates_37 (by decide) ?_
        first | exact ih (b + 1) (c + 1) (by omega) (by omega) (by omega) (by rw [hcs, if_pos (by simp; omega), hc]) | exact ih (b + 1) (c + 0) (by omega) (by omega) (by omega) (by rw [hcs, if_neg (by simp; omega), hc])
      · skip
        refine mx_iconst (1) d_RM_candidates_27 (by decide +kernel) (by unfold mv_r; omega) ?_
        refine mx_goto 32 d_RM_candidates_28 (by decide) ?_
        refine mx_iadd d_RM_candidates_32 (by unfold mv_r; omega) ?_
        refine mx_istore_n d_RM_candidates_33 (by decide) ?_
        refine mx_iinc d_RM_candidates_34 rfl (by unfold mv_r; omega) ?_
        refine mx_goto 9 d_RM_candidates_37 (by decide) ?_
        first | exact ih (b + 1) (c + 1) (by omega) (by omega) (by omega) (by rw [hcs, if_pos (by simp; omega), hc]) | exact ih (b + 1) (c + 0) (by omega) (by omega) (by omega) (by rw [hcs, if_neg (by simp; omega), hc])
theorem rf_candidates {Q : List mv_V → mv_M → Prop} {M : mv_M} {co wi ta bo pa wy lc fo tu bl kl se ow : Int} (hO : rf_O M co wi ta bo pa wy lc fo tu bl kl se ow) {Z : Int → Int} (hPts : M.2 56 = .inl (64, Z)) (hbl : bl ≤ 64) (hbl0 : 0 ≤ bl) (k : ∀ M', (∀ j, j ≠ 47 → M'.2 j = M.2 j) → rf_O M' 0 wi ta bo pa wy lc fo tu bl kl se ow → Q [.inl (pu_cnt (fun b => decide (0 < Z b)) bl.toNat)] M') : mv_J md_RM_candidates [.inr 47] M Q := by
  refine mv_enter (by decide +kernel) (Nat.le_of_ble_eq_true rfl) ?_
  show mv_W md_RM_candidates 0 [.inr 47, .inr 0, .inr 0] [] M (0, 0) Q
  refine mx_aload_n d_RM_candidates_0 rfl (by omega) ?_
  refine mx_iconst (0) d_RM_candidates_1 (by decide +kernel) (by unfold mv_r; omega) ?_
  refine mx_pl d_RM_candidates_2 g_RM_66 hO (mv_Vi _) (Nat.le_of_ble_eq_true rfl) ?_
  have hO0 : rf_O (mv_p M 47 (.inr (ki_RM, mv_l [.inl 0, .inl wi, .inl ta, .inl bo, .inr 48, .inl pa, .inr 49, .inl wy, .inr 50, .inl lc, .inr 51, .inr 52, .inr 53, .inl fo, .inl tu, .inl bl, .inr 54, .inr 55, .inr 56, .inr 57, .inr 58, .inl kl, .inr 59, .inr 60, .inr 61, .inr 62, .inl se, .inr 63, .inl ow]))) 0 wi ta bo pa wy lc fo tu bl kl se ow := mv_ps
  have e0 : ∀ j, j ≠ 47 → (mv_p M 47 (.inr (ki_RM, mv_l [.inl 0, .inl wi, .inl ta, .inl bo, .inr 48, .inl pa, .inr 49, .inl wy, .inr 50, .inl lc, .inr 51, .inr 52, .inr 53, .inl fo, .inl tu, .inl bl, .inr 54, .inr 55, .inr 56, .inr 57, .inr 58, .inl kl, .inr 59, .inr 60, .inr 61, .inr 62, .inl se, .inr 63, .inl ow]))).2 j = M.2 j := fun j hj => mv_pn hj
  show mv_W md_RM_candidates 5 [.inr 47, .inr 0, .inr 0] [] (mv_p M 47 (.inr (ki_RM, mv_l [.inl 0, .inl wi, .inl ta, .inl bo, .inr 48, .inl pa, .inr 49, .inl wy, .inr 50, .inl lc, .inr 51, .inr 52, .inr 53, .inl fo, .inl tu, .inl bl, .inr 54, .inr 55, .inr 56, .inr 57, .inr 58, .inl kl, .inr 59, .inr 60, .inr 61, .inr 62, .inl se, .inr 63, .inl ow]))) (0, 0) Q
  generalize mv_p M 47 _ = M0 at hO0 e0 ⊢
  have hPts0 : M0.2 56 = _ := (e0 56 (by omega)).trans hPts
  refine mx_iconst (0) d_RM_candidates_5 (by decide +kernel) (by unfold mv_r; omega) ?_
  refine mx_istore_n d_RM_candidates_6 (by decide) ?_
  refine mx_iconst (0) d_RM_candidates_7 (by decide +kernel) (by unfold mv_r; omega) ?_
  refine mx_istore_n d_RM_candidates_8 (by decide) ?_
  exact rf_ca_l hO0 hPts0 hbl (k M0 e0 hO0) (bl.toNat + 1) 0 0 (by omega) (by omega) hbl0 rfl
theorem rf_bo_l {Q : List mv_V → mv_M → Prop} {M : mv_M} {co wi ta bo pa wy lc fo tu bl kl se ow : Int} (hO : rf_O M co wi ta bo pa wy lc fo tu bl kl se ow) {O : Int → Int} (hOrd : M.2 58 = .inl (64, O)) {IB : Int → Int} (hInb : M.2 63 = .inl (64, IB)) {i p : Int} (i0 : 0 ≤ i) (i1 : i < 64) (p1 : p < 64) (hp : O p = IB i) (k : ∀ l, 0 ≤ l → l ≤ p → O l = IB i → Q [.inl l] M) : ∀ (d : Nat) (l : Int), p - l < d → 0 ≤ l → l ≤ p → mv_W md_RM_blockOf 32 [.inr 47, .inl i, .inl l] [] M (0, 0) Q := by
  intro d
  induction d with
  | zero =>
    intro l h1 h2 h3
    exfalso; omega
  | succ d ih =>
    intro l hd l0 l1
    refine mx_aload_n d_RM_blockOf_32 rfl (by omega) ?_
    refine mx_gl d_RM_blockOf_33 f_RM_41 hO rfl ?_
    refine mx_iload_n d_RM_blockOf_36 rfl ?_
    refine mx_iald d_RM_blockOf_37 hOrd (by omega) (by omega) ?_
    refine mx_aload_n d_RM_blockOf_38 rfl (by omega) ?_
    refine mx_gl d_RM_blockOf_39 f_RM_56 hO rfl ?_
    refine mx_iload_n d_RM_blockOf_42 rfl ?_
    refine mx_iald d_RM_blockOf_43 hInb (by omega) (by omega) ?_
    refine mx_icmp_eq 53 d_RM_blockOf_44 (by decide) (fun c44 => ?_) (fun c44 => ?_)
    · skip
      refine mx_iload_n d_RM_blockOf_53 rfl ?_
      refine mx_ireturn d_RM_blockOf_54 rfl ?_
      exact k l l0 l1 (by omega)
    · skip
      refine mx_iinc d_RM_blockOf_47 rfl (by unfold mv_r; omega) ?_
      refine mx_goto 32 d_RM_blockOf_50 (by decide) ?_
      exact ih (l + 1) (by omega) (by omega) (by
        by_cases hlp : l = p
        · rw [hlp] at c44; exact absurd hp c44
        · omega)
theorem rf_blockOf {Q : List mv_V → mv_M → Prop} {M : mv_M} {co wi ta bo pa wy lc fo tu bl kl se ow : Int} (hO : rf_O M co wi ta bo pa wy lc fo tu bl kl se ow) {O : Int → Int} (hOrd : M.2 58 = .inl (64, O)) {IB : Int → Int} (hInb : M.2 63 = .inl (64, IB)) (hbo : bo ≤ 64) {i p : Int} (hp : 0 ≤ i → i < se → i < bo → 0 ≤ p ∧ p < 64 ∧ O p = IB i) (k0 : ∀ M', (∀ j, j ≠ 47 → M'.2 j = M.2 j) → rf_O M' 0 wi ta bo pa wy lc fo tu bl kl se ow → ¬ (0 ≤ i ∧ i < bo) → Q [.inl (-11)] M') (k1 : ∀ M', (∀ j, j ≠ 47 → M'.2 j = M.2 j) → rf_O M' 0 wi ta bo pa wy lc fo tu bl kl se ow → (0 ≤ i ∧ i < bo) → se ≤ i → Q [.inl (-1)] M') (k2 : ∀ M', (∀ j, j ≠ 47 → M'.2 j = M.2 j) → rf_O M' 0 wi ta bo pa wy lc fo tu bl kl se ow → (0 ≤ i ∧ i < bo) → i < se → ∀ l, 0 ≤ l → l ≤ p → O l = IB i → Q [.inl l] M') : mv_J md_RM_blockOf [.inr 47, .inl i] M Q := by
  refine mv_enter (by decide +kernel) (Nat.le_of_ble_eq_true rfl) ?_
  show mv_W md_RM_blockOf 0 [.inr 47, .inl i, .inr 0] [] M (0, 0) Q
  refine mx_aload_n d_RM_blockOf_0 rfl (by omega) ?_
  refine mx_iconst (0) d_RM_blockOf_1 (by decide +kernel) (by unfold mv_r; omega) ?_
  refine mx_pl d_RM_blockOf_2 g_RM_66 hO (mv_Vi _) (Nat.le_of_ble_eq_true rfl) ?_
  have hO0 : rf_O (mv_p M 47 (.inr (ki_RM, mv_l [.inl 0, .inl wi, .inl ta, .inl bo, .inr 48, .inl pa, .inr 49, .inl wy, .inr 50, .inl lc, .inr 51, .inr 52, .inr 53, .inl fo, .inl tu, .inl bl, .inr 54, .inr 55, .inr 56, .inr 57, .inr 58, .inl kl, .inr 59, .inr 60, .inr 61, .inr 62, .inl se, .inr 63, .inl ow]))) 0 wi ta bo pa wy lc fo tu bl kl se ow := mv_ps
  have e0 : ∀ j, j ≠ 47 → (mv_p M 47 (.inr (ki_RM, mv_l [.inl 0, .inl wi, .inl ta, .inl bo, .inr 48, .inl pa, .inr 49, .inl wy, .inr 50, .inl lc, .inr 51, .inr 52, .inr 53, .inl fo, .inl tu, .inl bl, .inr 54, .inr 55, .inr 56, .inr 57, .inr 58, .inl kl, .inr 59, .inr 60, .inr 61, .inr 62, .inl se, .inr 63, .inl ow]))).2 j = M.2 j := fun j hj => mv_pn hj
  show mv_W md_RM_blockOf 5 [.inr 47, .inl i, .inr 0] [] (mv_p M 47 (.inr (ki_RM, mv_l [.inl 0, .inl wi, .inl ta, .inl bo, .inr 48, .inl pa, .inr 49, .inl wy, .inr 50, .inl lc, .inr 51, .inr 52, .inr 53, .inl fo, .inl tu, .inl bl, .inr 54, .inr 55, .inr 56, .inr 57, .inr 58, .inl kl, .inr 59, .inr 60, .inr 61, .inr 62, .inl se, .inr 63, .inl ow]))) (0, 0) Q
  generalize mv_p M 47 _ = M0 at hO0 e0 ⊢
  have hOrd0 : M0.2 58 = _ := (e0 58 (by omega)).trans hOrd
  have hInb0 : M0.2 63 = _ := (e0 63 (by omega)).trans hInb
  refine mx_iload_n d_RM_blockOf_5 rfl ?_
  refine mx_if_lt 17 d_RM_blockOf_6 (by decide) (fun c6 => ?_) (fun c6 => ?_)
  · skip
    refine mx_bipush (-11) d_RM_blockOf_17 (by decide +kernel) (by unfold mv_r; omega) ?_
    refine mx_ireturn d_RM_blockOf_19 rfl ?_
    exact k0 M0 e0 hO0 (by omega)
  · skip
    refine mx_iload_n d_RM_blockOf_9 rfl ?_
    refine mx_aload_n d_RM_blockOf_10 rfl (by omega) ?_
    refine mx_gl d_RM_blockOf_11 f_RM_73 hO0 rfl ?_
    refine mx_icmp_lt 20 d_RM_blockOf_14 (by decide) (fun c14 => ?_) (fun c14 => ?_)
    · skip
      refine mx_iload_n d_RM_blockOf_20 rfl ?_
      refine mx_aload_n d_RM_blockOf_21 rfl (by omega) ?_
      refine mx_gl d_RM_blockOf_22 f_RM_136 hO0 rfl ?_
      refine mx_icmp_lt 30 d_RM_blockOf_25 (by decide) (fun c25 => ?_) (fun c25 => ?_)
      · skip
        refine mx_iconst (0) d_RM_blockOf_30 (by decide +kernel) (by unfold mv_r; omega) ?_
        refine mx_istore_n d_RM_blockOf_31 (by decide) ?_
        have hpp := hp (by omega) (by omega) (by omega)
        exact rf_bo_l hO0 hOrd0 hInb0 (by omega) (by omega) hpp.2.1 hpp.2.2 (k2 M0 e0 hO0 (by omega) (by omega)) (p.toNat + 1) 0 (by omega) (by omega) hpp.1
      · skip
        refine mx_iconst (-1) d_RM_blockOf_28 (by decide +kernel) (by unfold mv_r; omega) ?_
        refine mx_ireturn d_RM_blockOf_29 rfl ?_
        exact k1 M0 e0 hO0 (by omega) (by omega)
    · skip
      refine mx_bipush (-11) d_RM_blockOf_17 (by decide +kernel) (by unfold mv_r; omega) ?_
      refine mx_ireturn d_RM_blockOf_19 rfl ?_
      exact k0 M0 e0 hO0 (by omega)
