/-! the class: what is asked -/
theorem bf_isDetail {Q : List mv_V → mv_M → Prop} {M : mv_M} {w : Int} (k1 : (0 ≤ w ∧ w ≤ 5) → Q [.inl 1] M) (k0 : ¬ (0 ≤ w ∧ w ≤ 5) → Q [.inl 0] M)  : mv_J md_BF_isDetail [.inl w] M Q := by
  refine mv_enter (by decide +kernel) (Nat.le_of_ble_eq_true rfl) ?_
  show mv_W md_BF_isDetail 0 [.inl w] [] M (0, 0) Q
  refine mx_iload_n d_BF_isDetail_0 rfl ?_
  refine mx_if_lt 13 d_BF_isDetail_1 (by decide) (fun c1 => ?_) (fun c1 => ?_)
  · skip
    refine mx_iconst (0) d_BF_isDetail_13 (by decide +kernel) (by unfold mv_r; omega) ?_
    refine mx_zreturn d_BF_isDetail_14 rfl (by omega) ?_
    first | exact k1 (by omega) | exact k0 (by omega)
  · skip
    refine mx_iload_n d_BF_isDetail_4 rfl ?_
    refine mx_iconst (5) d_BF_isDetail_5 (by decide +kernel) (by unfold mv_r; omega) ?_
    refine mx_icmp_gt 13 d_BF_isDetail_6 (by decide) (fun c6 => ?_) (fun c6 => ?_)
    · skip
      refine mx_iconst (0) d_BF_isDetail_13 (by decide +kernel) (by unfold mv_r; omega) ?_
      refine mx_zreturn d_BF_isDetail_14 rfl (by omega) ?_
      first | exact k1 (by omega) | exact k0 (by omega)
    · skip
      refine mx_iconst (1) d_BF_isDetail_9 (by decide +kernel) (by unfold mv_r; omega) ?_
      refine mx_goto 14 d_BF_isDetail_10 (by decide) ?_
      refine mx_zreturn d_BF_isDetail_14 rfl (by omega) ?_
      first | exact k1 (by omega) | exact k0 (by omega)
def bf_det (L U R D : Int → Int) (P B : Int → Int) (g w r : Int) : Prop := (w = 0 ∧ r = L g) ∨ (w = 1 ∧ r = U g) ∨ (w = 2 ∧ r = R g - L g) ∨ (w = 3 ∧ r = D g - U g) ∨ (w = 4 ∧ r = P g) ∨ (w = 5 ∧ r = B g)
def bf_blk (nk : Int) (KL KU KR KD KP KO BS : Int → Int) (i w r : Int) : Prop := (¬ (0 ≤ i ∧ i < nk) ∧ r = -11) ∨ ((0 ≤ i ∧ i < nk) ∧ ¬ (0 ≤ w ∧ w ≤ 5) ∧ r = -12) ∨ ((0 ≤ i ∧ i < nk) ∧ (0 ≤ w ∧ w ≤ 5) ∧ bf_det KL KU KR KD KP BS (KO i) w r)
theorem bf_block {Q : List mv_V → mv_M → Prop} {M : mv_M} {W H t : Int} (hO : bf_O M W H t) {nk : Int} {KL KU KR KD KP KM KZ KG KO KX : Int → Int} (hBk : bf_G M 31 nk KL KU KR KD KP KM KZ KG KO KX) (hnk : nk ≤ 64) (hb : bf_ok nk KL KU KR KD) (hko : ∀ p, 0 ≤ p → p < nk → 0 ≤ KO p ∧ KO p < nk) {BS : Int → Int} (hBS : M.2 43 = .inl (64, BS)) {i w : Int} (k : ∀ r, bf_blk nk KL KU KR KD KP KO BS i w r → Q [.inl r] M)  : mv_J md_BF_block [.inr 2, .inl i, .inl w] M Q := by
  refine mv_enter (by decide +kernel) (Nat.le_of_ble_eq_true rfl) ?_
  show mv_W md_BF_block 0 [.inr 2, .inl i, .inl w, .inr 0] [] M (0, 0) Q
  refine mx_aload_n d_BF_block_0 rfl (by omega) ?_
  refine mx_gl d_BF_block_1 f_BF_41 hO rfl ?_
  refine mx_iload_n d_BF_block_4 rfl ?_
  refine mx_cV1 d_BF_block_5 c_BF_117 hBk.1 (by decide) (Nat.le_of_ble_eq_true rfl) ?_
  refine bf_ghas (by omega) hBk (fun hi => ?_) (fun hi => ?_)
  · skip
    refine mx_n1 14 d_BF_block_8 (by decide) ?_
    refine mx_iload_n d_BF_block_14 rfl ?_
    refine mx_cS1 d_BF_block_15 c_BF_121 (by decide) (Nat.le_of_ble_eq_true rfl) ?_
    refine bf_isDetail (fun hw => ?_) (fun hw => ?_)
    · skip
      refine mx_n1 24 d_BF_block_18 (by decide) ?_
      have hki := hko i hi.1 hi.2
      refine mx_aload_n d_BF_block_24 rfl (by omega) ?_
      refine mx_gl d_BF_block_25 f_BF_41 hO rfl ?_
      refine mx_gl d_BF_block_28 f_BF_124 hBk.1 rfl ?_
      refine mx_iload_n d_BF_block_31 rfl ?_
      refine mx_iald d_BF_block_32 hBk.2.2.2.2.2.2.1 (by omega) (by omega) ?_
      refine mx_istore_n d_BF_block_33 (by decide) ?_
      refine mx_iload_n d_BF_block_34 rfl ?_
      rcases (show w = 4 ∨ w = 5 ∨ (w ≠ 4 ∧ w ≠ 5) by omega) with rfl | rfl | hsw
      · skip
        refine mx_look 60 d_BF_block_35 (by decide +kernel) (by decide +kernel : _ = (25 : Int)) (by decide) ?_
        refine mx_aload_n d_BF_block_60 rfl (by omega) ?_
        refine mx_gl d_BF_block_61 f_BF_41 hO rfl ?_
        refine mx_gl d_BF_block_64 f_BF_127 hBk.1 rfl ?_
        refine mx_iload_n d_BF_block_67 rfl ?_
        refine mx_iald d_BF_block_68 hBk.2.2.1 (by omega) (by omega) ?_
        refine mx_ireturn d_BF_block_69 rfl ?_
        exact k _ (Or.inr (Or.inr ⟨hi, by omega, by unfold bf_det; omega⟩))
      · skip
        refine mx_look 70 d_BF_block_35 (by decide +kernel) (by decide +kernel : _ = (35 : Int)) (by decide) ?_
        refine mx_aload_n d_BF_block_70 rfl (by omega) ?_
        refine mx_gl d_BF_block_71 f_BF_44 hO rfl ?_
        refine mx_iload_n d_BF_block_74 rfl ?_
        refine mx_iald d_BF_block_75 hBS (by omega) (by omega) ?_
        refine mx_ireturn d_BF_block_76 rfl ?_
        exact k _ (Or.inr (Or.inr ⟨hi, by omega, by unfold bf_det; omega⟩))
      · skip
        refine mx_look 77 d_BF_block_35 (by decide +kernel) (show Op.lookupswitch.offset [(4, 25), (5, 35)] 42 w = 42 by rw [Op.lookupswitch.offset_cons, if_neg (by omega), Op.lookupswitch.offset_cons, if_neg (by omega)]; rfl) (by decide) ?_
        refine mx_aload_n d_BF_block_77 rfl (by omega) ?_
        refine mx_gl d_BF_block_78 f_BF_41 hO rfl ?_
        refine mx_gl d_BF_block_81 f_BF_90 hBk.1 rfl ?_
        refine mx_iload_n d_BF_block_84 rfl ?_
        refine mx_iload_n d_BF_block_85 rfl ?_
        refine mx_cV2 d_BF_block_86 c_BF_130 hBk.2.1.1 (by decide) (Nat.le_of_ble_eq_true rfl) ?_
        refine bf_side (by omega) hBk.2.1 hnk hb hki.1 hki.2 ?_
        refine mx_ireturn d_BF_block_89 rfl ?_
        refine k _ (Or.inr (Or.inr ⟨hi, hw, ?_⟩))
        unfold bf_det
        rcases (show w = 0 ∨ w = 1 ∨ w = 2 ∨ w = 3 by omega) with rfl | rfl | rfl | rfl
        · exact Or.inl ⟨rfl, rfl⟩
        · exact Or.inr (Or.inl ⟨rfl, rfl⟩)
        · exact Or.inr (Or.inr (Or.inl ⟨rfl, rfl⟩))
        · exact Or.inr (Or.inr (Or.inr (Or.inl ⟨rfl, rfl⟩)))
    · skip
      refine mx_n0 24 d_BF_block_18 (by decide) ?_
      refine mx_bipush (-12) d_BF_block_21 (by decide +kernel) (by unfold mv_r; omega) ?_
      refine mx_ireturn d_BF_block_23 rfl ?_
      exact k _ (Or.inr (Or.inl ⟨hi, hw, rfl⟩))
  · skip
    refine mx_n0 14 d_BF_block_8 (by decide) ?_
    refine mx_bipush (-11) d_BF_block_11 (by decide +kernel) (by unfold mv_r; omega) ?_
    refine mx_ireturn d_BF_block_13 rfl ?_
    exact k _ (Or.inl ⟨hi, rfl⟩)
def bf_lib (nl : Int) (LO KG : Int → Int) (b k r : Int) : Prop := (∃ i, 0 ≤ i ∧ i < nl ∧ KG (LO i) = b ∧ pu_cnt (fun q => decide (KG (LO q) = b)) i.toNat = k ∧ r = LO i) ∨ ((∀ i, 0 ≤ i → i < nl → KG (LO i) = b → pu_cnt (fun q => decide (KG (LO q) = b)) i.toNat ≠ k) ∧ r = -1)
theorem bf_lib_l {Q : List mv_V → mv_M → Prop} {M : mv_M} {W H t : Int} (hO : bf_O M W H t) {nl : Int} {LL LU LR LD LP LM LZ LG LO LX : Int → Int} (hLn : bf_G M 19 nl LL LU LR LD LP LM LZ LG LO LX) {nk : Int} {KL KU KR KD KP KM KZ KG KO KX : Int → Int} (hBk : bf_G M 31 nk KL KU KR KD KP KM KZ KG KO KX) (hnl : nl ≤ 64) (hlo : ∀ p, 0 ≤ p → p < nl → 0 ≤ LO p ∧ LO p < nl) {b kk : Int} (k : ∀ r, bf_lib nl LO KG b kk r → Q [.inl r] M) : ∀ (d : Nat) (i c : Int) (cv : mv_V), nl - i < d → 0 ≤ i → i ≤ nl → c = pu_cnt (fun q => decide (KG (LO q) = b)) i.toNat → (∀ q, 0 ≤ q → q < i → KG (LO q) = b → pu_cnt (fun q => decide (KG (LO q) = b)) q.toNat ≠ kk) → mv_W md_BF_lineInBlock 5 [.inr 2, .inl b, .inl kk, .inl c, .inl i, cv] [] M (0, 0) Q := by
  intro d
  induction d with
  | zero =>
    intro i c cv hd i0 i1 hc hq
    exfalso; omega
  | succ d ih =>
    intro i c cv hd i0 i1 hc hq
    have hcb := pu_cnt_le (fun q => decide (KG (LO q) = b)) i.toNat
    rw [← hc] at hcb
    have hcs := pu_cnt_s (P := fun q => decide (KG (LO q) = b)) i0
    refine mx_iload d_BF_lineInBlock_5 rfl ?_
    refine mx_aload_n d_BF_lineInBlock_7 rfl (by omega) ?_
    refine mx_gl d_BF_lineInBlock_8 f_BF_37 hO rfl ?_
    refine mx_cV0 d_BF_lineInBlock_11 c_BF_96 hLn.1 (by decide) (Nat.le_of_ble_eq_true rfl) ?_
    refine bf_size (by omega) hLn ?_
    refine mx_icmp_ge 60 d_BF_lineInBlock_14 (by decide) (fun c14 => ?_) (fun c14 => ?_)
    · skip
      refine mx_iconst (-1) d_BF_lineInBlock_60 (by decide +kernel) (by unfold mv_r; omega) ?_
      refine mx_ireturn d_BF_lineInBlock_61 rfl ?_
      exact k _ (Or.inr ⟨fun q q0 q1 => hq q q0 (by omega), rfl⟩)
    · skip
      have hli := hlo i i0 (by omega)
      refine mx_aload_n d_BF_lineInBlock_17 rfl (by omega) ?_
      refine mx_gl d_BF_lineInBlock_18 f_BF_37 hO rfl ?_
      refine mx_gl d_BF_lineInBlock_21 f_BF_124 hLn.1 rfl ?_
      refine mx_iload d_BF_lineInBlock_24 rfl ?_
      refine mx_iald d_BF_lineInBlock_26 hLn.2.2.2.2.2.2.1 (by omega) (by omega) ?_
      refine mx_istore d_BF_lineInBlock_27 (by decide) ?_
      refine mx_aload_n d_BF_lineInBlock_29 rfl (by omega) ?_
      refine mx_gl d_BF_lineInBlock_30 f_BF_41 hO rfl ?_
      refine mx_gl d_BF_lineInBlock_33 f_BF_171 hBk.1 rfl ?_
      refine mx_iload d_BF_lineInBlock_36 rfl ?_
      refine mx_iald d_BF_lineInBlock_38 hBk.2.2.2.2.2.1 (by omega) (by omega) ?_
      refine mx_iload_n d_BF_lineInBlock_39 rfl ?_
      refine mx_icmp_ne 54 d_BF_lineInBlock_40 (by decide) (fun c40 => ?_) (fun c40 => ?_)
      · skip
        refine mx_iinc d_BF_lineInBlock_54 rfl (by unfold mv_r; omega) ?_
        refine mx_goto 5 d_BF_lineInBlock_57 (by decide) ?_
        exact ih (i + 1) c _ (by omega) (by omega) (by omega) (by rw [hcs, if_neg (by simpa using c40), hc, Int.add_zero]) (fun q q0 q1 e => by
          by_cases hqi : q = i
          · rw [hqi] at e; exact absurd e c40
          · exact hq q q0 (by omega) e)
      · skip
        refine mx_iload_n d_BF_lineInBlock_43 rfl ?_
        refine mx_iload_n d_BF_lineInBlock_44 rfl ?_
        refine mx_icmp_ne 51 d_BF_lineInBlock_45 (by decide) (fun c45 => ?_) (fun c45 => ?_)
        · skip
          refine mx_iinc d_BF_lineInBlock_51 rfl (by unfold mv_r; omega) ?_
          refine mx_iinc d_BF_lineInBlock_54 rfl (by unfold mv_r; omega) ?_
          refine mx_goto 5 d_BF_lineInBlock_57 (by decide) ?_
          exact ih (i + 1) (c + 1) _ (by omega) (by omega) (by omega) (by rw [hcs, if_pos (by simpa using c40), hc]) (fun q q0 q1 e => by
            by_cases hqi : q = i
            · rw [hqi, ← hc]; exact c45
            · exact hq q q0 (by omega) e)
        · skip
          refine mx_iload d_BF_lineInBlock_48 rfl ?_
          refine mx_ireturn d_BF_lineInBlock_50 rfl ?_
          exact k _ (Or.inl ⟨i, i0, by omega, by omega, by omega, rfl⟩)
theorem bf_lineInBlock {Q : List mv_V → mv_M → Prop} {M : mv_M} {W H t : Int} (hO : bf_O M W H t) {nl : Int} {LL LU LR LD LP LM LZ LG LO LX : Int → Int} (hLn : bf_G M 19 nl LL LU LR LD LP LM LZ LG LO LX) {nk : Int} {KL KU KR KD KP KM KZ KG KO KX : Int → Int} (hBk : bf_G M 31 nk KL KU KR KD KP KM KZ KG KO KX) (hnl : nl ≤ 64) (hlo : ∀ p, 0 ≤ p → p < nl → 0 ≤ LO p ∧ LO p < nl) (hnl0 : 0 ≤ nl) {b kk : Int} (k : ∀ r, bf_lib nl LO KG b kk r → Q [.inl r] M)  : mv_J md_BF_lineInBlock [.inr 2, .inl b, .inl kk] M Q := by
  refine mv_enter (by decide +kernel) (Nat.le_of_ble_eq_true rfl) ?_
  show mv_W md_BF_lineInBlock 0 [.inr 2, .inl b, .inl kk, .inr 0, .inr 0, .inr 0] [] M (0, 0) Q
  refine mx_iconst (0) d_BF_lineInBlock_0 (by decide +kernel) (by unfold mv_r; omega) ?_
  refine mx_istore_n d_BF_lineInBlock_1 (by decide) ?_
  refine mx_iconst (0) d_BF_lineInBlock_2 (by decide +kernel) (by unfold mv_r; omega) ?_
  refine mx_istore d_BF_lineInBlock_3 (by decide) ?_
  exact bf_lib_l hO hLn hBk hnl hlo k (nl.toNat + 1) 0 0 (.inr 0) (by omega) (by omega) hnl0 rfl (fun q q0 q1 => by omega)
def bf_lin (nk nl : Int) (LL LU LR LD LP LM LO KG KO : Int → Int) (b kk w r : Int) : Prop := (¬ (0 ≤ b ∧ b < nk) ∧ r = -11) ∨ ((0 ≤ b ∧ b < nk) ∧ ¬ (0 ≤ w ∧ w ≤ 5) ∧ r = -12) ∨ ((0 ≤ b ∧ b < nk) ∧ (0 ≤ w ∧ w ≤ 5) ∧ ∃ g, bf_lib nl LO KG (KO b) kk g ∧ ((g = -1 ∧ r = -1) ∨ (0 ≤ g ∧ g < nl ∧ bf_det LL LU LR LD LP LM g w r)))
theorem bf_line {Q : List mv_V → mv_M → Prop} {M : mv_M} {W H t : Int} (hO : bf_O M W H t) {nl : Int} {LL LU LR LD LP LM LZ LG LO LX : Int → Int} (hLn : bf_G M 19 nl LL LU LR LD LP LM LZ LG LO LX) {nk : Int} {KL KU KR KD KP KM KZ KG KO KX : Int → Int} (hBk : bf_G M 31 nk KL KU KR KD KP KM KZ KG KO KX) (hnl : nl ≤ 64) (hlo : ∀ p, 0 ≤ p → p < nl → 0 ≤ LO p ∧ LO p < nl) (hnl0 : 0 ≤ nl) (hbl : bf_ok nl LL LU LR LD) (hnk : nk ≤ 64) (hko : ∀ p, 0 ≤ p → p < nk → 0 ≤ KO p ∧ KO p < nk) {b kk w : Int} (k : ∀ r, bf_lin nk nl LL LU LR LD LP LM LO KG KO b kk w r → Q [.inl r] M)  : mv_J md_BF_line [.inr 2, .inl b, .inl kk, .inl w] M Q := by
  refine mv_enter (by decide +kernel) (Nat.le_of_ble_eq_true rfl) ?_
  show mv_W md_BF_line 0 [.inr 2, .inl b, .inl kk, .inl w, .inr 0] [] M (0, 0) Q
  refine mx_aload_n d_BF_line_0 rfl (by omega) ?_
  refine mx_gl d_BF_line_1 f_BF_41 hO rfl ?_
  refine mx_iload_n d_BF_line_4 rfl ?_
  refine mx_cV1 d_BF_line_5 c_BF_117 hBk.1 (by decide) (Nat.le_of_ble_eq_true rfl) ?_
  refine bf_ghas (by omega) hBk (fun hi => ?_) (fun hi => ?_)
  · skip
    refine mx_n1 14 d_BF_line_8 (by decide) ?_
    refine mx_iload_n d_BF_line_14 rfl ?_
    refine mx_cS1 d_BF_line_15 c_BF_121 (by decide) (Nat.le_of_ble_eq_true rfl) ?_
    refine bf_isDetail (fun hw => ?_) (fun hw => ?_)
    · skip
      refine mx_n1 24 d_BF_line_18 (by decide) ?_
      have hki := hko b hi.1 hi.2
      refine mx_aload_n d_BF_line_24 rfl (by omega) ?_
      refine mx_aload_n d_BF_line_25 rfl (by omega) ?_
      refine mx_gl d_BF_line_26 f_BF_41 hO rfl ?_
      refine mx_gl d_BF_line_29 f_BF_124 hBk.1 rfl ?_
      refine mx_iload_n d_BF_line_32 rfl ?_
      refine mx_iald d_BF_line_33 hBk.2.2.2.2.2.2.1 (by omega) (by omega) ?_
      refine mx_iload_n d_BF_line_34 rfl ?_
      refine mx_cV2 d_BF_line_35 c_BF_134 hO (by decide) (Nat.le_of_ble_eq_true rfl) ?_
      refine bf_lineInBlock hO hLn hBk hnl hlo hnl0 (fun g hg => ?_)
      have hg2 : g = -1 ∨ (0 ≤ g ∧ g < nl) := by
        rcases hg with ⟨i, i0, i1, _, _, rfl⟩ | ⟨_, rfl⟩
        · exact Or.inr (hlo i i0 i1)
        · exact Or.inl rfl
      refine mx_istore d_BF_line_38 (by decide) ?_
      refine mx_iload d_BF_line_40 rfl ?_
      refine mx_if_ge 47 d_BF_line_42 (by decide) (fun c42 => ?_) (fun c42 => ?_)
      · skip
        refine mx_iload_n d_BF_line_47 rfl ?_
        rcases (show w = 4 ∨ w = 5 ∨ (w ≠ 4 ∧ w ≠ 5) by omega) with rfl | rfl | hsw
        · skip
          refine mx_look 76 d_BF_line_48 (by decide +kernel) (by decide +kernel : _ = (28 : Int)) (by decide) ?_
          refine mx_aload_n d_BF_line_76 rfl (by omega) ?_
          refine mx_gl d_BF_line_77 f_BF_37 hO rfl ?_
          refine mx_gl d_BF_line_80 f_BF_127 hLn.1 rfl ?_
          refine mx_iload d_BF_line_83 rfl ?_
          refine mx_iald d_BF_line_85 hLn.2.2.1 (by omega) (by omega) ?_
          refine mx_ireturn d_BF_line_86 rfl ?_
          exact k _ (Or.inr (Or.inr ⟨hi, by omega, g, hg, Or.inr ⟨by omega, by omega, by unfold bf_det; omega⟩⟩))
        · skip
          refine mx_look 87 d_BF_line_48 (by decide +kernel) (by decide +kernel : _ = (39 : Int)) (by decide) ?_
          refine mx_aload_n d_BF_line_87 rfl (by omega) ?_
          refine mx_gl d_BF_line_88 f_BF_37 hO rfl ?_
          refine mx_gl d_BF_line_91 f_BF_137 hLn.1 rfl ?_
          refine mx_iload d_BF_line_94 rfl ?_
          refine mx_iald d_BF_line_96 hLn.2.2.2.1 (by omega) (by omega) ?_
          refine mx_ireturn d_BF_line_97 rfl ?_
          exact k _ (Or.inr (Or.inr ⟨hi, by omega, g, hg, Or.inr ⟨by omega, by omega, by unfold bf_det; omega⟩⟩))
        · skip
          refine mx_look 98 d_BF_line_48 (by decide +kernel) (show Op.lookupswitch.offset [(4, 28), (5, 39)] 50 w = 50 by rw [Op.lookupswitch.offset_cons, if_neg (by omega), Op.lookupswitch.offset_cons, if_neg (by omega)]; rfl) (by decide) ?_
          refine mx_aload_n d_BF_line_98 rfl (by omega) ?_
          refine mx_gl d_BF_line_99 f_BF_37 hO rfl ?_
          refine mx_gl d_BF_line_102 f_BF_90 hLn.1 rfl ?_
          refine mx_iload d_BF_line_105 rfl ?_
          refine mx_iload_n d_BF_line_107 rfl ?_
          refine mx_cV2 d_BF_line_108 c_BF_130 hLn.2.1.1 (by decide) (Nat.le_of_ble_eq_true rfl) ?_
          refine bf_side (by omega) hLn.2.1 hnl hbl (by omega) (by omega) ?_
          refine mx_ireturn d_BF_line_111 rfl ?_
          refine k _ (Or.inr (Or.inr ⟨hi, hw, g, hg, Or.inr ⟨by omega, by omega, ?_⟩⟩))
          unfold bf_det
          rcases (show w = 0 ∨ w = 1 ∨ w = 2 ∨ w = 3 by omega) with rfl | rfl | rfl | rfl
          · exact Or.inl ⟨rfl, rfl⟩
          · exact Or.inr (Or.inl ⟨rfl, rfl⟩)
          · exact Or.inr (Or.inr (Or.inl ⟨rfl, rfl⟩))
          · exact Or.inr (Or.inr (Or.inr (Or.inl ⟨rfl, rfl⟩)))
      · skip
        refine mx_iconst (-1) d_BF_line_45 (by decide +kernel) (by unfold mv_r; omega) ?_
        refine mx_ireturn d_BF_line_46 rfl ?_
        exact k _ (Or.inr (Or.inr ⟨hi, hw, g, hg, Or.inl ⟨by omega, rfl⟩⟩))
    · skip
      refine mx_n0 24 d_BF_line_18 (by decide) ?_
      refine mx_bipush (-12) d_BF_line_21 (by decide +kernel) (by unfold mv_r; omega) ?_
      refine mx_ireturn d_BF_line_23 rfl ?_
      exact k _ (Or.inr (Or.inl ⟨hi, hw, rfl⟩))
  · skip
    refine mx_n0 14 d_BF_line_8 (by decide) ?_
    refine mx_bipush (-11) d_BF_line_11 (by decide +kernel) (by unfold mv_r; omega) ?_
    refine mx_ireturn d_BF_line_13 rfl ?_
    exact k _ (Or.inl ⟨hi, rfl⟩)
theorem bf_points {Q : List mv_V → mv_M → Prop} {M : mv_M} {W H t : Int} (hO : bf_O M W H t) {nk : Int} {KL KU KR KD KP KM KZ KG KO KX : Int → Int} (hBk : bf_G M 31 nk KL KU KR KD KP KM KZ KG KO KX) (hnk : nk ≤ 64) (hko : ∀ p, 0 ≤ p → p < nk → 0 ≤ KO p ∧ KO p < nk) {i : Int} (k1 : (0 ≤ i ∧ i < nk) → Q [.inl (KZ (KO i))] M) (k0 : ¬ (0 ≤ i ∧ i < nk) → Q [.inl (-11)] M)  : mv_J md_BF_points [.inr 2, .inl i] M Q := by
  refine mv_enter (by decide +kernel) (Nat.le_of_ble_eq_true rfl) ?_
  show mv_W md_BF_points 0 [.inr 2, .inl i] [] M (0, 0) Q
  refine mx_aload_n d_BF_points_0 rfl (by omega) ?_
  refine mx_gl d_BF_points_1 f_BF_41 hO rfl ?_
  refine mx_iload_n d_BF_points_4 rfl ?_
  refine mx_cV1 d_BF_points_5 c_BF_117 hBk.1 (by decide) (Nat.le_of_ble_eq_true rfl) ?_
  refine bf_ghas (by omega) hBk (fun hi => ?_) (fun hi => ?_)
  · skip
    refine mx_z1 31 d_BF_points_8 (by decide) ?_
    have hki := hko i hi.1 hi.2
    refine mx_aload_n d_BF_points_11 rfl (by omega) ?_
    refine mx_gl d_BF_points_12 f_BF_41 hO rfl ?_
    refine mx_gl d_BF_points_15 f_BF_100 hBk.1 rfl ?_
    refine mx_aload_n d_BF_points_18 rfl (by omega) ?_
    refine mx_gl d_BF_points_19 f_BF_41 hO rfl ?_
    refine mx_gl d_BF_points_22 f_BF_124 hBk.1 rfl ?_
    refine mx_iload_n d_BF_points_25 rfl ?_
    refine mx_iald d_BF_points_26 hBk.2.2.2.2.2.2.1 (by omega) (by omega) ?_
    refine mx_iald d_BF_points_27 hBk.2.2.2.2.1 (by omega) (by omega) ?_
    refine mx_goto 33 d_BF_points_28 (by decide) ?_
    refine mx_ireturn d_BF_points_33 rfl ?_
    first | exact k1 hi | exact k0 hi
  · skip
    refine mx_z0 31 d_BF_points_8 (by decide) ?_
    refine mx_bipush (-11) d_BF_points_31 (by decide +kernel) (by unfold mv_r; omega) ?_
    refine mx_ireturn d_BF_points_33 rfl ?_
    first | exact k1 hi | exact k0 hi
theorem bf_printed {Q : List mv_V → mv_M → Prop} {M : mv_M} {W H t : Int} (hO : bf_O M W H t) {nk : Int} {KL KU KR KD KP KM KZ KG KO KX : Int → Int} (hBk : bf_G M 31 nk KL KU KR KD KP KM KZ KG KO KX) (hnk : nk ≤ 64) (hko : ∀ p, 0 ≤ p → p < nk → 0 ≤ KO p ∧ KO p < nk) {HB LB : Int → Int} (hHB : M.2 44 = .inl (64, HB)) (hLB : M.2 45 = .inl (64, LB)) (hhb : ∀ b, 0 ≤ b → b < nk → 0 ≤ HB b ∧ HB b ≤ 4096 ∧ 0 ≤ LB b ∧ LB b ≤ 4096) {i : Int} (k1 : (0 ≤ i ∧ i < nk) → 4 * (HB (KO i) - LB (KO i)) ≤ HB (KO i) → Q [.inl 1] M) (k0 : ¬ ((0 ≤ i ∧ i < nk) ∧ 4 * (HB (KO i) - LB (KO i)) ≤ HB (KO i)) → Q [.inl 0] M)  : mv_J md_BF_printed [.inr 2, .inl i] M Q := by
  refine mv_enter (by decide +kernel) (Nat.le_of_ble_eq_true rfl) ?_
  show mv_W md_BF_printed 0 [.inr 2, .inl i, .inr 0] [] M (0, 0) Q
  refine mx_aload_n d_BF_printed_0 rfl (by omega) ?_
  refine mx_gl d_BF_printed_1 f_BF_41 hO rfl ?_
  refine mx_iload_n d_BF_printed_4 rfl ?_
  refine mx_cV1 d_BF_printed_5 c_BF_117 hBk.1 (by decide) (Nat.le_of_ble_eq_true rfl) ?_
  refine bf_ghas (by omega) hBk (fun hi => ?_) (fun hi => ?_)
  · skip
    refine mx_n1 13 d_BF_printed_8 (by decide) ?_
    have hki := hko i hi.1 hi.2
    have hh := hhb (KO i) hki.1 hki.2
    refine mx_aload_n d_BF_printed_13 rfl (by omega) ?_
    refine mx_gl d_BF_printed_14 f_BF_41 hO rfl ?_
    refine mx_gl d_BF_printed_17 f_BF_124 hBk.1 rfl ?_
    refine mx_iload_n d_BF_printed_20 rfl ?_
    refine mx_iald d_BF_printed_21 hBk.2.2.2.2.2.2.1 (by omega) (by omega) ?_
    refine mx_istore_n d_BF_printed_22 (by decide) ?_
    refine mx_iconst (4) d_BF_printed_23 (by decide +kernel) (by unfold mv_r; omega) ?_
    refine mx_aload_n d_BF_printed_24 rfl (by omega) ?_
    refine mx_gl d_BF_printed_25 f_BF_48 hO rfl ?_
    refine mx_iload_n d_BF_printed_28 rfl ?_
    refine mx_iald d_BF_printed_29 hHB (by omega) (by omega) ?_
    refine mx_aload_n d_BF_printed_30 rfl (by omega) ?_
    refine mx_gl d_BF_printed_31 f_BF_51 hO rfl ?_
    refine mx_iload_n d_BF_printed_34 rfl ?_
    refine mx_iald d_BF_printed_35 hLB (by omega) (by omega) ?_
    refine mx_isub d_BF_printed_36 (by unfold mv_r; omega) ?_
    refine mx_imul d_BF_printed_37 (by unfold mv_r; omega) ?_
    refine mx_aload_n d_BF_printed_38 rfl (by omega) ?_
    refine mx_gl d_BF_printed_39 f_BF_48 hO rfl ?_
    refine mx_iload_n d_BF_printed_42 rfl ?_
    refine mx_iald d_BF_printed_43 hHB (by omega) (by omega) ?_
    refine mx_icmp_gt 51 d_BF_printed_44 (by decide) (fun c44 => ?_) (fun c44 => ?_)
    · skip
      refine mx_iconst (0) d_BF_printed_51 (by decide +kernel) (by unfold mv_r; omega) ?_
      refine mx_zreturn d_BF_printed_52 rfl (by omega) ?_
      first | exact k1 hi (by omega) | exact k0 (fun h => by have := h.2; omega)
    · skip
      refine mx_iconst (1) d_BF_printed_47 (by decide +kernel) (by unfold mv_r; omega) ?_
      refine mx_goto 52 d_BF_printed_48 (by decide) ?_
      refine mx_zreturn d_BF_printed_52 rfl (by omega) ?_
      first | exact k1 hi (by omega) | exact k0 (fun h => by have := h.2; omega)
  · skip
    refine mx_n0 13 d_BF_printed_8 (by decide) ?_
    refine mx_iconst (0) d_BF_printed_11 (by decide +kernel) (by unfold mv_r; omega) ?_
    refine mx_zreturn d_BF_printed_12 rfl (by omega) ?_
    exact k0 (fun h => hi h.1)
theorem bf_turned {Q : List mv_V → mv_M → Prop} {M : mv_M} {W H t : Int} (hO : bf_O M W H t) (ht : t = 0 ∨ t = 1) (k : Q [.inl t] M)  : mv_J md_BF_turned [.inr 2] M Q := by
  refine mv_enter (by decide +kernel) (Nat.le_of_ble_eq_true rfl) ?_
  show mv_W md_BF_turned 0 [.inr 2] [] M (0, 0) Q
  refine mx_aload_n d_BF_turned_0 rfl (by omega) ?_
  refine mx_gl d_BF_turned_1 f_BF_57 hO rfl ?_
  refine mx_zreturn d_BF_turned_4 rfl (by omega) ?_
  exact k
theorem bf_blockOf {Q : List mv_V → mv_M → Prop} {M : mv_M} {W H t : Int} (hO : bf_O M W H t) {nb : Int} {BL BU BR BD : Int → Int} (hBx : bf_R M 3 64 nb BL BU BR BD) (hn : nb ≤ 64) {PB : Int → Int} (hPB : M.2 46 = .inl (64, PB)) {i : Int} (k1 : (0 ≤ i ∧ i < nb) → Q [.inl (PB i)] M) (k0 : ¬ (0 ≤ i ∧ i < nb) → Q [.inl (-11)] M)  : mv_J md_BF_blockOf [.inr 2, .inl i] M Q := by
  refine mv_enter (by decide +kernel) (Nat.le_of_ble_eq_true rfl) ?_
  show mv_W md_BF_blockOf 0 [.inr 2, .inl i] [] M (0, 0) Q
  refine mx_aload_n d_BF_blockOf_0 rfl (by omega) ?_
  refine mx_gl d_BF_blockOf_1 f_BF_14 hO rfl ?_
  refine mx_iload_n d_BF_blockOf_4 rfl ?_
  refine mx_cV1 d_BF_blockOf_5 c_BF_140 hBx.1 (by decide) (Nat.le_of_ble_eq_true rfl) ?_
  refine bf_has (by omega) hBx (fun hi => ?_) (fun hi => ?_)
  · skip
    refine mx_z1 20 d_BF_blockOf_8 (by decide) ?_
    refine mx_aload_n d_BF_blockOf_11 rfl (by omega) ?_
    refine mx_gl d_BF_blockOf_12 f_BF_54 hO rfl ?_
    refine mx_iload_n d_BF_blockOf_15 rfl ?_
    refine mx_iald d_BF_blockOf_16 hPB (by omega) (by omega) ?_
    refine mx_goto 22 d_BF_blockOf_17 (by decide) ?_
    refine mx_ireturn d_BF_blockOf_22 rfl ?_
    first | exact k1 hi | exact k0 hi
  · skip
    refine mx_z0 20 d_BF_blockOf_8 (by decide) ?_
    refine mx_bipush (-11) d_BF_blockOf_20 (by decide +kernel) (by unfold mv_r; omega) ?_
    refine mx_ireturn d_BF_blockOf_22 rfl ?_
    first | exact k1 hi | exact k0 hi
theorem bf_cand_l {Q : List mv_V → mv_M → Prop} {M : mv_M} {W H t : Int} (hO : bf_O M W H t) {nk : Int} {KL KU KR KD KP KM KZ KG KO KX : Int → Int} (hBk : bf_G M 31 nk KL KU KR KD KP KM KZ KG KO KX) (hnk : nk ≤ 64) (k : Q [.inl (pu_cnt (fun b => decide (0 < KZ b)) nk.toNat)] M) : ∀ (d : Nat) (b c : Int), nk - b < d → 0 ≤ b → b ≤ nk → c = pu_cnt (fun b => decide (0 < KZ b)) b.toNat → mv_W md_BF_candidates 4 [.inr 2, .inl c, .inl b] [] M (0, 0) Q := by
  intro d
  induction d with
  | zero =>
    intro b c hd b0 b1 hc
    exfalso; omega
  | succ d ih =>
    intro b c hd b0 b1 hc
    have hcb := pu_cnt_le (fun b => decide (0 < KZ b)) b.toNat
    rw [← hc] at hcb
    have hcs := pu_cnt_s (P := fun b => decide (0 < KZ b)) b0
    refine mx_iload_n d_BF_candidates_4 rfl ?_
    refine mx_aload_n d_BF_candidates_5 rfl (by omega) ?_
    refine mx_gl d_BF_candidates_6 f_BF_41 hO rfl ?_
    refine mx_cV0 d_BF_candidates_9 c_BF_96 hBk.1 (by decide) (Nat.le_of_ble_eq_true rfl) ?_
    refine bf_size (by omega) hBk ?_
    refine mx_icmp_ge 36 d_BF_candidates_12 (by decide) (fun c12 => ?_) (fun c12 => ?_)
    · skip
      refine mx_iload_n d_BF_candidates_36 rfl ?_
      refine mx_ireturn d_BF_candidates_37 rfl ?_
      rw [hc, show b = nk by omega]; exact k
    · skip
      refine mx_aload_n d_BF_candidates_15 rfl (by omega) ?_
      refine mx_gl d_BF_candidates_16 f_BF_41 hO rfl ?_
      refine mx_gl d_BF_candidates_19 f_BF_100 hBk.1 rfl ?_
      refine mx_iload_n d_BF_candidates_22 rfl ?_
      refine mx_iald d_BF_candidates_23 hBk.2.2.2.2.1 (by omega) (by omega) ?_
      refine mx_if_le 30 d_BF_candidates_24 (by decide) (fun c24 => ?_) (fun c24 => ?_)
      · skip
        refine mx_iinc d_BF_candidates_30 rfl (by unfold mv_r; omega) ?_
        refine mx_goto 4 d_BF_candidates_33 (by decide) ?_
        first | exact ih (b + 1) (c + 1) (by omega) (by omega) (by omega) (by rw [hcs, if_pos (by simp; omega), hc]) | exact ih (b + 1) c (by omega) (by omega) (by omega) (by rw [hcs, if_neg (by simp; omega), hc, Int.add_zero])
      · skip
        refine mx_iinc d_BF_candidates_27 rfl (by unfold mv_r; omega) ?_
        refine mx_iinc d_BF_candidates_30 rfl (by unfold mv_r; omega) ?_
        refine mx_goto 4 d_BF_candidates_33 (by decide) ?_
        first | exact ih (b + 1) (c + 1) (by omega) (by omega) (by omega) (by rw [hcs, if_pos (by simp; omega), hc]) | exact ih (b + 1) c (by omega) (by omega) (by omega) (by rw [hcs, if_neg (by simp; omega), hc, Int.add_zero])
theorem bf_candidates {Q : List mv_V → mv_M → Prop} {M : mv_M} {W H t : Int} (hO : bf_O M W H t) {nk : Int} {KL KU KR KD KP KM KZ KG KO KX : Int → Int} (hBk : bf_G M 31 nk KL KU KR KD KP KM KZ KG KO KX) (hnk : nk ≤ 64) (hnk0 : 0 ≤ nk) (k : Q [.inl (pu_cnt (fun b => decide (0 < KZ b)) nk.toNat)] M)  : mv_J md_BF_candidates [.inr 2] M Q := by
  refine mv_enter (by decide +kernel) (Nat.le_of_ble_eq_true rfl) ?_
  show mv_W md_BF_candidates 0 [.inr 2, .inr 0, .inr 0] [] M (0, 0) Q
  refine mx_iconst (0) d_BF_candidates_0 (by decide +kernel) (by unfold mv_r; omega) ?_
  refine mx_istore_n d_BF_candidates_1 (by decide) ?_
  refine mx_iconst (0) d_BF_candidates_2 (by decide +kernel) (by unfold mv_r; omega) ?_
  refine mx_istore_n d_BF_candidates_3 (by decide) ?_
  exact bf_cand_l hO hBk hnk k (nk.toNat + 1) 0 0 (by omega) (by omega) hnk0 rfl
theorem bf_clear {Q : List mv_V → mv_M → Prop} {M : mv_M} {W H t : Int} (hO : bf_O M W H t) {nb : Int} {BL BU BR BD : Int → Int} (hBx : bf_R M 3 64 nb BL BU BR BD) (k : ∀ M', bf_fr M M' 3 8 → bf_R M' 3 64 0 BL BU BR BD → Q [.inl nb] M')  : mv_J md_BF_clear [.inr 2] M Q := by
  refine mv_enter (by decide +kernel) (Nat.le_of_ble_eq_true rfl) ?_
  show mv_W md_BF_clear 0 [.inr 2, .inr 0] [] M (0, 0) Q
  refine mx_aload_n d_BF_clear_0 rfl (by omega) ?_
  refine mx_gl d_BF_clear_1 f_BF_14 hO rfl ?_
  refine mx_gl d_BF_clear_4 f_BF_110 hBx.1 rfl ?_
  refine mx_istore_n d_BF_clear_7 (by decide) ?_
  refine mx_aload_n d_BF_clear_8 rfl (by omega) ?_
  refine mx_gl d_BF_clear_9 f_BF_14 hO rfl ?_
  refine mx_iconst (0) d_BF_clear_12 (by decide +kernel) (by unfold mv_r; omega) ?_
  refine mx_pl d_BF_clear_13 g_BF_110 hBx.1 (mv_Vi _) (Nat.le_of_ble_eq_true rfl) ?_
  refine mx_iload_n d_BF_clear_16 rfl ?_
  refine mx_ireturn d_BF_clear_17 rfl ?_
  exact k _ (fun j hj => mv_pn (by omega)) ⟨mv_ps, by rw [mv_pn (by omega)]; exact hBx.2.1, by rw [mv_pn (by omega)]; exact hBx.2.2.1, by rw [mv_pn (by omega)]; exact hBx.2.2.2.1, by rw [mv_pn (by omega)]; exact hBx.2.2.2.2⟩
theorem bf_nearestSide {Q : List mv_V → mv_M → Prop} {M : mv_M} {x : Int} (k : Q [.inl (max 1 (min 4096 x))] M)  : mv_J md_BF_nearestSide [.inl x] M Q := by
  refine mv_enter (by decide +kernel) (Nat.le_of_ble_eq_true rfl) ?_
  show mv_W md_BF_nearestSide 0 [.inl x] [] M (0, 0) Q
  refine mx_iconst (1) d_BF_nearestSide_0 (by decide +kernel) (by unfold mv_r; omega) ?_
  refine mx_sipush (4096) d_BF_nearestSide_1 (by decide +kernel) (by unfold mv_r; omega) ?_
  refine mx_iload_n d_BF_nearestSide_4 rfl ?_
  refine mx_min d_BF_nearestSide_5 c_BF_141 (by decide) (Nat.le_of_ble_eq_true rfl) ?_
  refine mx_max d_BF_nearestSide_8 c_BF_146 (by decide) (Nat.le_of_ble_eq_true rfl) ?_
  refine mx_ireturn d_BF_nearestSide_11 rfl ?_
  exact k
def bf_on (W H x y w h : Int) : Prop := 1 ≤ w ∧ 1 ≤ h ∧ 0 ≤ x ∧ x + w ≤ W ∧ 0 ≤ y ∧ y + h ≤ H
theorem bf_liesOnSheet {Q : List mv_V → mv_M → Prop} {M : mv_M} {W H t : Int} (hO : bf_O M W H t) (w1 : 1 ≤ W) (w2 : W ≤ 4096) (h1 : 1 ≤ H) (h2 : H ≤ 4096) {x y w h : Int} (rw_ : mv_r w) (rh_ : mv_r h) (k1 : bf_on W H x y w h → Q [.inl 1] M) (k0 : ¬ bf_on W H x y w h → Q [.inl 0] M)  : mv_J md_BF_liesOnSheet [.inr 2, .inl x, .inl y, .inl w, .inl h] M Q := by
  refine mv_enter (by decide +kernel) (Nat.le_of_ble_eq_true rfl) ?_
  show mv_W md_BF_liesOnSheet 0 [.inr 2, .inl x, .inl y, .inl w, .inl h] [] M (0, 0) Q
  unfold mv_r at rw_ rh_
  refine mx_iload_n d_BF_liesOnSheet_0 rfl ?_
  refine mx_iconst (1) d_BF_liesOnSheet_1 (by decide +kernel) (by unfold mv_r; omega) ?_
  refine mx_icmp_lt 44 d_BF_liesOnSheet_2 (by decide) (fun c2 => ?_) (fun c2 => ?_)
  · skip
    refine mx_iconst (0) d_BF_liesOnSheet_44 (by decide +kernel) (by unfold mv_r; omega) ?_
    refine mx_zreturn d_BF_liesOnSheet_45 rfl (by omega) ?_
    first | exact k1 (by unfold bf_on; omega) | exact k0 (by unfold bf_on; omega)
  · skip
    refine mx_iload d_BF_liesOnSheet_5 rfl ?_
    refine mx_iconst (1) d_BF_liesOnSheet_7 (by decide +kernel) (by unfold mv_r; omega) ?_
    refine mx_icmp_lt 44 d_BF_liesOnSheet_8 (by decide) (fun c8 => ?_) (fun c8 => ?_)
    · skip
      refine mx_iconst (0) d_BF_liesOnSheet_44 (by decide +kernel) (by unfold mv_r; omega) ?_
      refine mx_zreturn d_BF_liesOnSheet_45 rfl (by omega) ?_
      first | exact k1 (by unfold bf_on; omega) | exact k0 (by unfold bf_on; omega)
    · skip
      refine mx_iload_n d_BF_liesOnSheet_11 rfl ?_
      refine mx_if_lt 44 d_BF_liesOnSheet_12 (by decide) (fun c12 => ?_) (fun c12 => ?_)
      · skip
        refine mx_iconst (0) d_BF_liesOnSheet_44 (by decide +kernel) (by unfold mv_r; omega) ?_
        refine mx_zreturn d_BF_liesOnSheet_45 rfl (by omega) ?_
        first | exact k1 (by unfold bf_on; omega) | exact k0 (by unfold bf_on; omega)
      · skip
        refine mx_iload_n d_BF_liesOnSheet_15 rfl ?_
        refine mx_aload_n d_BF_liesOnSheet_16 rfl (by omega) ?_
        refine mx_gl d_BF_liesOnSheet_17 f_BF_65 hO rfl ?_
        refine mx_iload_n d_BF_liesOnSheet_20 rfl ?_
        refine mx_isub d_BF_liesOnSheet_21 (by unfold mv_r; omega) ?_
        refine mx_icmp_gt 44 d_BF_liesOnSheet_22 (by decide) (fun c22 => ?_) (fun c22 => ?_)
        · skip
          refine mx_iconst (0) d_BF_liesOnSheet_44 (by decide +kernel) (by unfold mv_r; omega) ?_
          refine mx_zreturn d_BF_liesOnSheet_45 rfl (by omega) ?_
          first | exact k1 (by unfold bf_on; omega) | exact k0 (by unfold bf_on; omega)
        · skip
          refine mx_iload_n d_BF_liesOnSheet_25 rfl ?_
          refine mx_if_lt 44 d_BF_liesOnSheet_26 (by decide) (fun c26 => ?_) (fun c26 => ?_)
          · skip
            refine mx_iconst (0) d_BF_liesOnSheet_44 (by decide +kernel) (by unfold mv_r; omega) ?_
            refine mx_zreturn d_BF_liesOnSheet_45 rfl (by omega) ?_
            first | exact k1 (by unfold bf_on; omega) | exact k0 (by unfold bf_on; omega)
          · skip
            refine mx_iload_n d_BF_liesOnSheet_29 rfl ?_
            refine mx_aload_n d_BF_liesOnSheet_30 rfl (by omega) ?_
            refine mx_gl d_BF_liesOnSheet_31 f_BF_69 hO rfl ?_
            refine mx_iload d_BF_liesOnSheet_34 rfl ?_
            refine mx_isub d_BF_liesOnSheet_36 (by unfold mv_r; omega) ?_
            refine mx_icmp_gt 44 d_BF_liesOnSheet_37 (by decide) (fun c37 => ?_) (fun c37 => ?_)
            · skip
              refine mx_iconst (0) d_BF_liesOnSheet_44 (by decide +kernel) (by unfold mv_r; omega) ?_
              refine mx_zreturn d_BF_liesOnSheet_45 rfl (by omega) ?_
              first | exact k1 (by unfold bf_on; omega) | exact k0 (by unfold bf_on; omega)
            · skip
              refine mx_iconst (1) d_BF_liesOnSheet_40 (by decide +kernel) (by unfold mv_r; omega) ?_
              refine mx_goto 45 d_BF_liesOnSheet_41 (by decide) ?_
              refine mx_zreturn d_BF_liesOnSheet_45 rfl (by omega) ?_
              first | exact k1 (by unfold bf_on; omega) | exact k0 (by unfold bf_on; omega)
theorem bf_addTo {Q : List mv_V → mv_M → Prop} {M : mv_M} {W H t : Int} (hO : bf_O M W H t) (w1 : 1 ≤ W) (w2 : W ≤ 4096) (h1 : 1 ≤ H) (h2 : H ≤ 4096) {o n : Nat} {cnt : Int} {L U R D : Int → Int} (ho : 3 ≤ o) (hR : bf_R M o n cnt L U R D) (hn64 : n ≤ 64) (hc0 : 0 ≤ cnt) {x y w h : Int} (rw_ : mv_r w) (rh_ : mv_r h) (k1 : ¬ bf_on W H x y w h → Q [.inl (-12)] M) (k2 : bf_on W H x y w h → (n : Int) ≤ cnt → Q [.inl (-14)] M) (k3 : ∀ M', bf_on W H x y w h → cnt < n → bf_fr M M' o (o + 5) → bf_R M' o n (cnt + 1) (mv_s L cnt x) (mv_s U cnt y) (mv_s R cnt (x + w)) (mv_s D cnt (y + h)) → Q [.inl cnt] M')  : mv_J md_BF_addTo [.inr 2, .inr o, .inl x, .inl y, .inl w, .inl h] M Q := by
  refine mv_enter (by decide +kernel) (Nat.le_of_ble_eq_true rfl) ?_
  show mv_W md_BF_addTo 0 [.inr 2, .inr o, .inl x, .inl y, .inl w, .inl h] [] M (0, 0) Q
  refine mx_aload_n d_BF_addTo_0 rfl (by omega) ?_
  refine mx_iload_n d_BF_addTo_1 rfl ?_
  refine mx_iload_n d_BF_addTo_2 rfl ?_
  refine mx_iload d_BF_addTo_3 rfl ?_
  refine mx_iload d_BF_addTo_5 rfl ?_
  refine mx_cV4 d_BF_addTo_7 c_BF_149 hO (by decide) (Nat.le_of_ble_eq_true rfl) ?_
  refine bf_liesOnSheet hO w1 w2 h1 h2 rw_ rh_ (fun hon => ?_) (fun hon => ?_)
  · skip
    have hon' := hon
    unfold bf_on at hon'
    refine mx_z1 30 d_BF_addTo_10 (by decide) ?_
    refine mx_aload_n d_BF_addTo_13 rfl (by omega) ?_
    refine mx_iload_n d_BF_addTo_14 rfl ?_
    refine mx_iload_n d_BF_addTo_15 rfl ?_
    refine mx_iload_n d_BF_addTo_16 rfl ?_
    refine mx_iload d_BF_addTo_17 rfl ?_
    refine mx_iadd d_BF_addTo_19 (by unfold mv_r; omega) ?_
    refine mx_iload_n d_BF_addTo_20 rfl ?_
    refine mx_iload d_BF_addTo_21 rfl ?_
    refine mx_iadd d_BF_addTo_23 (by unfold mv_r; omega) ?_
    refine mx_cV4 d_BF_addTo_24 c_BF_153 hR.1 (by decide) (Nat.le_of_ble_eq_true rfl) ?_
    refine bf_add (by omega) hR hn64 hc0 (fun hful => ?_) (fun M' hlt hfr hR' => ?_)
    · skip
      refine mx_goto 32 d_BF_addTo_27 (by decide) ?_
      refine mx_ireturn d_BF_addTo_32 rfl ?_
      first | exact k1 hon | exact k2 hon hful | exact k3 M' hon hlt hfr hR'
    · skip
      refine mx_goto 32 d_BF_addTo_27 (by decide) ?_
      refine mx_ireturn d_BF_addTo_32 rfl ?_
      first | exact k1 hon | exact k2 hon hful | exact k3 M' hon hlt hfr hR'
  · skip
    refine mx_z0 30 d_BF_addTo_10 (by decide) ?_
    refine mx_bipush (-12) d_BF_addTo_30 (by decide +kernel) (by unfold mv_r; omega) ?_
    refine mx_ireturn d_BF_addTo_32 rfl ?_
    first | exact k1 hon | exact k2 hon hful | exact k3 M' hon hlt hfr hR'
theorem bf_box {Q : List mv_V → mv_M → Prop} {M : mv_M} {W H t : Int} (hO : bf_O M W H t) (w1 : 1 ≤ W) (w2 : W ≤ 4096) (h1 : 1 ≤ H) (h2 : H ≤ 4096) {nb : Int} {BL BU BR BD : Int → Int} (hBx : bf_R M 3 64 nb BL BU BR BD) (hn0 : 0 ≤ nb) (hn : nb ≤ 64) {PB : Int → Int} (hPB : M.2 46 = .inl (64, PB)) {x y w h : Int} (rw_ : mv_r w) (rh_ : mv_r h) (k1 : ¬ bf_on W H x y w h → Q [.inl (-12)] M) (k2 : bf_on W H x y w h → 64 ≤ nb → Q [.inl (-14)] M) (k3 : ∀ M', bf_on W H x y w h → nb < 64 → (∀ j, (j < 3 ∨ (8 ≤ j ∧ j ≠ 46)) → M'.2 j = M.2 j) → bf_R M' 3 64 (nb + 1) (mv_s BL nb x) (mv_s BU nb y) (mv_s BR nb (x + w)) (mv_s BD nb (y + h)) → M'.2 46 = .inl (64, mv_s PB nb (-1)) → Q [.inl nb] M')  : mv_J md_BF_box [.inr 2, .inl x, .inl y, .inl w, .inl h] M Q := by
  refine mv_enter (by decide +kernel) (Nat.le_of_ble_eq_true rfl) ?_
  show mv_W md_BF_box 0 [.inr 2, .inl x, .inl y, .inl w, .inl h, .inr 0] [] M (0, 0) Q
  refine mx_aload_n d_BF_box_0 rfl (by omega) ?_
  refine mx_aload_n d_BF_box_1 rfl (by omega) ?_
  refine mx_gl d_BF_box_2 f_BF_14 hO rfl ?_
  refine mx_iload_n d_BF_box_5 rfl ?_
  refine mx_iload_n d_BF_box_6 rfl ?_
  refine mx_iload_n d_BF_box_7 rfl ?_
  refine mx_iload d_BF_box_8 rfl ?_
  refine mx_cV5 d_BF_box_10 c_BF_72 hO (by decide) (Nat.le_of_ble_eq_true rfl) ?_
  refine bf_addTo hO w1 w2 h1 h2 (by omega) hBx (by omega) hn0 rw_ rh_ (fun hon => ?_) (fun hon hful => ?_) (fun M' hon hlt hfr hR' => ?_)
  · skip
    refine mx_istore d_BF_box_13 (by decide) ?_
    refine mx_iload d_BF_box_15 rfl ?_
    refine mx_if_lt 28 d_BF_box_17 (by decide) (fun c17 => ?_) (fun c17 => ?_)
    · skip
      refine mx_iload d_BF_box_28 rfl ?_
      refine mx_ireturn d_BF_box_30 rfl ?_
      exact k1 hon
    · skip
      exfalso; omega
  · skip
    refine mx_istore d_BF_box_13 (by decide) ?_
    refine mx_iload d_BF_box_15 rfl ?_
    refine mx_if_lt 28 d_BF_box_17 (by decide) (fun c17 => ?_) (fun c17 => ?_)
    · skip
      refine mx_iload d_BF_box_28 rfl ?_
      refine mx_ireturn d_BF_box_30 rfl ?_
      exact k2 hon (by omega)
    · skip
      exfalso; omega
  · skip
    have hO2 := hO.fr hfr (by omega)
    have hPB2 : M'.2 46 = .inl (64, PB) := by rw [hfr 46 (by omega)]; exact hPB
    refine mx_istore d_BF_box_13 (by decide) ?_
    refine mx_iload d_BF_box_15 rfl ?_
    refine mx_if_lt 28 d_BF_box_17 (by decide) (fun c17 => ?_) (fun c17 => ?_)
    · skip
      exfalso; omega
    · skip
      refine mx_aload_n d_BF_box_20 rfl (by omega) ?_
      refine mx_gl d_BF_box_21 f_BF_54 hO2 rfl ?_
      refine mx_iload d_BF_box_24 rfl ?_
      refine mx_iconst (-1) d_BF_box_26 (by decide +kernel) (by unfold mv_r; omega) ?_
      refine mx_iast d_BF_box_27 hPB2 (by omega) (by omega) (by omega) ?_
      refine mx_iload d_BF_box_28 rfl ?_
      refine mx_ireturn d_BF_box_30 rfl ?_
      exact k3 _ hon (by omega) (fun j hj => by rw [mv_pn (by omega)]; exact hfr j (by omega)) (hR'.fr bf_fr1 (by omega)) mv_ps
theorem bf_frame {Q : List mv_V → mv_M → Prop} {M : mv_M} {W H t : Int} (hO : bf_O M W H t) (w1 : 1 ≤ W) (w2 : W ≤ 4096) (h1 : 1 ≤ H) (h2 : H ≤ 4096) {np : Int} {NL NU NR ND : Int → Int} (hPn : bf_R M 8 8 np NL NU NR ND) (hn0 : 0 ≤ np) {x y w h : Int} (rw_ : mv_r w) (rh_ : mv_r h) (k1 : ¬ bf_on W H x y w h → Q [.inl (-12)] M) (k2 : bf_on W H x y w h → 8 ≤ np → Q [.inl (-14)] M) (k3 : ∀ M', bf_on W H x y w h → np < 8 → bf_fr M M' 8 13 → bf_R M' 8 8 (np + 1) (mv_s NL np x) (mv_s NU np y) (mv_s NR np (x + w)) (mv_s ND np (y + h)) → Q [.inl np] M')  : mv_J md_BF_frame [.inr 2, .inl x, .inl y, .inl w, .inl h] M Q := by
  refine mv_enter (by decide +kernel) (Nat.le_of_ble_eq_true rfl) ?_
  show mv_W md_BF_frame 0 [.inr 2, .inl x, .inl y, .inl w, .inl h] [] M (0, 0) Q
  refine mx_aload_n d_BF_frame_0 rfl (by omega) ?_
  refine mx_aload_n d_BF_frame_1 rfl (by omega) ?_
  refine mx_gl d_BF_frame_2 f_BF_18 hO rfl ?_
  refine mx_iload_n d_BF_frame_5 rfl ?_
  refine mx_iload_n d_BF_frame_6 rfl ?_
  refine mx_iload_n d_BF_frame_7 rfl ?_
  refine mx_iload d_BF_frame_8 rfl ?_
  refine mx_cV5 d_BF_frame_10 c_BF_72 hO (by decide) (Nat.le_of_ble_eq_true rfl) ?_
  refine bf_addTo hO w1 w2 h1 h2 (by omega) hPn (by omega) hn0 rw_ rh_ (fun hon => ?_) (fun hon hful => ?_) (fun M' hon hlt hfr hR' => ?_)
  · skip
    refine mx_ireturn d_BF_frame_13 rfl ?_
    first | exact k1 hon | exact k2 hon hful | exact k3 M' hon hlt hfr hR'
  · skip
    refine mx_ireturn d_BF_frame_13 rfl ?_
    first | exact k1 hon | exact k2 hon hful | exact k3 M' hon hlt hfr hR'
  · skip
    refine mx_ireturn d_BF_frame_13 rfl ?_
    first | exact k1 hon | exact k2 hon hful | exact k3 M' hon hlt hfr hR'
