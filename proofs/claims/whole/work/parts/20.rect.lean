/-! the class: rectangles -/
def bf_R (M : mv_M) (o n : Nat) (cnt : Int) (L U R D : Int → Int) : Prop :=
  M.2 o = .inr (ki_R, mv_l [.inr (o + 1), .inr (o + 2), .inr (o + 3), .inr (o + 4), .inl cnt]) ∧ M.2 (o + 1) = .inl (n, L) ∧ M.2 (o + 2) = .inl (n, U) ∧ M.2 (o + 3) = .inl (n, R) ∧ M.2 (o + 4) = .inl (n, D)
def bf_o (t : Int) (a b : Int → Int) (i : Int) : Int := if t = 1 then b i else a i
theorem bf_o0 {a b : Int → Int} {i : Int} : bf_o 0 a b i = a i := if_neg (by omega)
theorem bf_o1 {a b : Int → Int} {i : Int} : bf_o 1 a b i = b i := if_pos rfl
theorem bf_has {M : mv_M} {o n : Nat} {cnt : Int} {L U R D : Int → Int} (ho : 2 ≤ o) (hR : bf_R M o n cnt L U R D) {i : Int} {Q : List mv_V → mv_M → Prop} (k1 : (0 ≤ i ∧ i < cnt) → Q [.inl 1] M) (k0 : ¬ (0 ≤ i ∧ i < cnt) → Q [.inl 0] M)  : mv_J md_R_has [.inr o, .inl i] M Q := by
  refine mv_enter (by decide +kernel) (Nat.le_of_ble_eq_true rfl) ?_
  show mv_W md_R_has 0 [.inr o, .inl i] [] M (0, 0) Q
  refine mx_iload_n d_R_has_0 rfl ?_
  refine mx_if_lt 16 d_R_has_1 (by decide) (fun c1 => ?_) (fun c1 => ?_)
  · skip
    refine mx_iconst (0) d_R_has_16 (by decide +kernel) (by unfold mv_r; omega) ?_
    refine mx_zreturn d_R_has_17 rfl (by omega) ?_
    first | exact k1 (by omega) | exact k0 (by omega)
  · skip
    refine mx_iload_n d_R_has_4 rfl ?_
    refine mx_aload_n d_R_has_5 rfl (by omega) ?_
    refine mx_gl d_R_has_6 f_R_9 hR.1 rfl ?_
    refine mx_icmp_ge 16 d_R_has_9 (by decide) (fun c9 => ?_) (fun c9 => ?_)
    · skip
      refine mx_iconst (0) d_R_has_16 (by decide +kernel) (by unfold mv_r; omega) ?_
      refine mx_zreturn d_R_has_17 rfl (by omega) ?_
      first | exact k1 (by omega) | exact k0 (by omega)
    · skip
      refine mx_iconst (1) d_R_has_12 (by decide +kernel) (by unfold mv_r; omega) ?_
      refine mx_goto 17 d_R_has_13 (by decide) ?_
      refine mx_zreturn d_R_has_17 rfl (by omega) ?_
      first | exact k1 (by omega) | exact k0 (by omega)
theorem bf_leftEnd {M : mv_M} {o n : Nat} {cnt : Int} {L U R D : Int → Int} (ho : 2 ≤ o) (hR : bf_R M o n cnt L U R D) {i t : Int} (h0 : 0 ≤ i) (h1 : i < n) (ht : t = 0 ∨ t = 1) {Q : List mv_V → mv_M → Prop} (k : Q [.inl (bf_o t L U i)] M)  : mv_J md_R_leftEnd [.inr o, .inl i, .inl t] M Q := by
  refine mv_enter (by decide +kernel) (Nat.le_of_ble_eq_true rfl) ?_
  show mv_W md_R_leftEnd 0 [.inr o, .inl i, .inl t] [] M (0, 0) Q
  refine mx_iload_n d_R_leftEnd_0 rfl ?_
  refine mx_if_eq 13 d_R_leftEnd_1 (by decide) (fun c1 => ?_) (fun c1 => ?_)
  · skip
    refine mx_aload_n d_R_leftEnd_13 rfl (by omega) ?_
    refine mx_gl d_R_leftEnd_14 f_R_21 hR.1 rfl ?_
    refine mx_iload_n d_R_leftEnd_17 rfl ?_
    refine mx_iald d_R_leftEnd_18 hR.2.1 (by omega) (by omega) ?_
    refine mx_ireturn d_R_leftEnd_19 rfl ?_
    first | (rw [show bf_o t L U i = U i from if_pos (by omega)] at k; exact k) | (rw [show bf_o t L U i = L i from if_neg (by omega)] at k; exact k)
  · skip
    refine mx_aload_n d_R_leftEnd_4 rfl (by omega) ?_
    refine mx_gl d_R_leftEnd_5 f_R_25 hR.1 rfl ?_
    refine mx_iload_n d_R_leftEnd_8 rfl ?_
    refine mx_iald d_R_leftEnd_9 hR.2.2.1 (by omega) (by omega) ?_
    refine mx_goto 19 d_R_leftEnd_10 (by decide) ?_
    refine mx_ireturn d_R_leftEnd_19 rfl ?_
    first | (rw [show bf_o t L U i = U i from if_pos (by omega)] at k; exact k) | (rw [show bf_o t L U i = L i from if_neg (by omega)] at k; exact k)
theorem bf_upperEnd {M : mv_M} {o n : Nat} {cnt : Int} {L U R D : Int → Int} (ho : 2 ≤ o) (hR : bf_R M o n cnt L U R D) {i t : Int} (h0 : 0 ≤ i) (h1 : i < n) (ht : t = 0 ∨ t = 1) {Q : List mv_V → mv_M → Prop} (k : Q [.inl (bf_o t U L i)] M)  : mv_J md_R_upperEnd [.inr o, .inl i, .inl t] M Q := by
  refine mv_enter (by decide +kernel) (Nat.le_of_ble_eq_true rfl) ?_
  show mv_W md_R_upperEnd 0 [.inr o, .inl i, .inl t] [] M (0, 0) Q
  refine mx_iload_n d_R_upperEnd_0 rfl ?_
  refine mx_if_eq 13 d_R_upperEnd_1 (by decide) (fun c1 => ?_) (fun c1 => ?_)
  · skip
    refine mx_aload_n d_R_upperEnd_13 rfl (by omega) ?_
    refine mx_gl d_R_upperEnd_14 f_R_25 hR.1 rfl ?_
    refine mx_iload_n d_R_upperEnd_17 rfl ?_
    refine mx_iald d_R_upperEnd_18 hR.2.2.1 (by omega) (by omega) ?_
    refine mx_ireturn d_R_upperEnd_19 rfl ?_
    first | (rw [show bf_o t U L i = L i from if_pos (by omega)] at k; exact k) | (rw [show bf_o t U L i = U i from if_neg (by omega)] at k; exact k)
  · skip
    refine mx_aload_n d_R_upperEnd_4 rfl (by omega) ?_
    refine mx_gl d_R_upperEnd_5 f_R_21 hR.1 rfl ?_
    refine mx_iload_n d_R_upperEnd_8 rfl ?_
    refine mx_iald d_R_upperEnd_9 hR.2.1 (by omega) (by omega) ?_
    refine mx_goto 19 d_R_upperEnd_10 (by decide) ?_
    refine mx_ireturn d_R_upperEnd_19 rfl ?_
    first | (rw [show bf_o t U L i = L i from if_pos (by omega)] at k; exact k) | (rw [show bf_o t U L i = U i from if_neg (by omega)] at k; exact k)
theorem bf_rightEnd {M : mv_M} {o n : Nat} {cnt : Int} {L U R D : Int → Int} (ho : 2 ≤ o) (hR : bf_R M o n cnt L U R D) {i t : Int} (h0 : 0 ≤ i) (h1 : i < n) (ht : t = 0 ∨ t = 1) {Q : List mv_V → mv_M → Prop} (k : Q [.inl (bf_o t R D i)] M)  : mv_J md_R_rightEnd [.inr o, .inl i, .inl t] M Q := by
  refine mv_enter (by decide +kernel) (Nat.le_of_ble_eq_true rfl) ?_
  show mv_W md_R_rightEnd 0 [.inr o, .inl i, .inl t] [] M (0, 0) Q
  refine mx_iload_n d_R_rightEnd_0 rfl ?_
  refine mx_if_eq 13 d_R_rightEnd_1 (by decide) (fun c1 => ?_) (fun c1 => ?_)
  · skip
    refine mx_aload_n d_R_rightEnd_13 rfl (by omega) ?_
    refine mx_gl d_R_rightEnd_14 f_R_28 hR.1 rfl ?_
    refine mx_iload_n d_R_rightEnd_17 rfl ?_
    refine mx_iald d_R_rightEnd_18 hR.2.2.2.1 (by omega) (by omega) ?_
    refine mx_ireturn d_R_rightEnd_19 rfl ?_
    first | (rw [show bf_o t R D i = D i from if_pos (by omega)] at k; exact k) | (rw [show bf_o t R D i = R i from if_neg (by omega)] at k; exact k)
  · skip
    refine mx_aload_n d_R_rightEnd_4 rfl (by omega) ?_
    refine mx_gl d_R_rightEnd_5 f_R_31 hR.1 rfl ?_
    refine mx_iload_n d_R_rightEnd_8 rfl ?_
    refine mx_iald d_R_rightEnd_9 hR.2.2.2.2 (by omega) (by omega) ?_
    refine mx_goto 19 d_R_rightEnd_10 (by decide) ?_
    refine mx_ireturn d_R_rightEnd_19 rfl ?_
    first | (rw [show bf_o t R D i = D i from if_pos (by omega)] at k; exact k) | (rw [show bf_o t R D i = R i from if_neg (by omega)] at k; exact k)
theorem bf_lowerEnd {M : mv_M} {o n : Nat} {cnt : Int} {L U R D : Int → Int} (ho : 2 ≤ o) (hR : bf_R M o n cnt L U R D) {i t : Int} (h0 : 0 ≤ i) (h1 : i < n) (ht : t = 0 ∨ t = 1) {Q : List mv_V → mv_M → Prop} (k : Q [.inl (bf_o t D R i)] M)  : mv_J md_R_lowerEnd [.inr o, .inl i, .inl t] M Q := by
  refine mv_enter (by decide +kernel) (Nat.le_of_ble_eq_true rfl) ?_
  show mv_W md_R_lowerEnd 0 [.inr o, .inl i, .inl t] [] M (0, 0) Q
  refine mx_iload_n d_R_lowerEnd_0 rfl ?_
  refine mx_if_eq 13 d_R_lowerEnd_1 (by decide) (fun c1 => ?_) (fun c1 => ?_)
  · skip
    refine mx_aload_n d_R_lowerEnd_13 rfl (by omega) ?_
    refine mx_gl d_R_lowerEnd_14 f_R_31 hR.1 rfl ?_
    refine mx_iload_n d_R_lowerEnd_17 rfl ?_
    refine mx_iald d_R_lowerEnd_18 hR.2.2.2.2 (by omega) (by omega) ?_
    refine mx_ireturn d_R_lowerEnd_19 rfl ?_
    first | (rw [show bf_o t D R i = R i from if_pos (by omega)] at k; exact k) | (rw [show bf_o t D R i = D i from if_neg (by omega)] at k; exact k)
  · skip
    refine mx_aload_n d_R_lowerEnd_4 rfl (by omega) ?_
    refine mx_gl d_R_lowerEnd_5 f_R_28 hR.1 rfl ?_
    refine mx_iload_n d_R_lowerEnd_8 rfl ?_
    refine mx_iald d_R_lowerEnd_9 hR.2.2.2.1 (by omega) (by omega) ?_
    refine mx_goto 19 d_R_lowerEnd_10 (by decide) ?_
    refine mx_ireturn d_R_lowerEnd_19 rfl ?_
    first | (rw [show bf_o t D R i = R i from if_pos (by omega)] at k; exact k) | (rw [show bf_o t D R i = D i from if_neg (by omega)] at k; exact k)
/-- the first cnt rectangles lie on a sheet -/
def bf_ok (cnt : Int) (L U R D : Int → Int) : Prop := ∀ j, 0 ≤ j → j < cnt → 0 ≤ L j ∧ L j < R j ∧ R j ≤ 4096 ∧ 0 ≤ U j ∧ U j < D j ∧ D j ≤ 4096
theorem bf_ob {cnt : Int} {L U R D : Int → Int} (h : bf_ok cnt L U R D) {j : Int} (h0 : 0 ≤ j) (h1 : j < cnt) (t : Int) : 0 ≤ bf_o t L U j ∧ bf_o t L U j < bf_o t R D j ∧ bf_o t R D j ≤ 4096 ∧ 0 ≤ bf_o t U L j ∧ bf_o t U L j < bf_o t D R j ∧ bf_o t D R j ≤ 4096 := by
  have := h j h0 h1
  unfold bf_o
  split <;> omega
theorem bf_mul {a b : Int} (h1 : 0 ≤ a) (h2 : a ≤ 4096) (h3 : 0 ≤ b) (h4 : b ≤ 4096) : 0 ≤ a * b ∧ a * b ≤ 16777216 := by
  refine ⟨Int.mul_nonneg h1 h3, ?_⟩
  have h5 : a * b ≤ 4096 * b := Int.mul_le_mul_of_nonneg_right h2 h3
  omega
theorem bf_height {M : mv_M} {o n : Nat} {cnt : Int} {L U R D : Int → Int} (ho : 2 ≤ o) (hR : bf_R M o n cnt L U R D) (hcn : cnt ≤ n) (hb : bf_ok cnt L U R D) {i t : Int} (h0 : 0 ≤ i) (h1 : i < cnt) (ht : t = 0 ∨ t = 1) {Q : List mv_V → mv_M → Prop} (k : Q [.inl (bf_o t D R i - bf_o t U L i)] M)  : mv_J md_R_height [.inr o, .inl i, .inl t] M Q := by
  refine mv_enter (by decide +kernel) (Nat.le_of_ble_eq_true rfl) ?_
  show mv_W md_R_height 0 [.inr o, .inl i, .inl t] [] M (0, 0) Q
  have hbi := bf_ob hb h0 h1 t
  refine mx_aload_n d_R_height_0 rfl (by omega) ?_
  refine mx_iload_n d_R_height_1 rfl ?_
  refine mx_iload_n d_R_height_2 rfl ?_
  refine mx_cV2 d_R_height_3 c_R_37 hR.1 (by decide) (Nat.le_of_ble_eq_true rfl) ?_
  refine bf_lowerEnd ho hR h0 (by omega) ht ?_
  refine mx_aload_n d_R_height_6 rfl (by omega) ?_
  refine mx_iload_n d_R_height_7 rfl ?_
  refine mx_iload_n d_R_height_8 rfl ?_
  refine mx_cV2 d_R_height_9 c_R_41 hR.1 (by decide) (Nat.le_of_ble_eq_true rfl) ?_
  refine bf_upperEnd ho hR h0 (by omega) ht ?_
  refine mx_isub d_R_height_12 (by unfold mv_r; omega) ?_
  refine mx_ireturn d_R_height_13 rfl ?_
  exact k
theorem bf_gapDownwards {M : mv_M} {o n : Nat} {cnt : Int} {L U R D : Int → Int} (ho : 2 ≤ o) (hR : bf_R M o n cnt L U R D) (hcn : cnt ≤ n) (hb : bf_ok cnt L U R D) {i j t : Int} (h0 : 0 ≤ i) (h1 : i < cnt) (g0 : 0 ≤ j) (g1 : j < cnt) (ht : t = 0 ∨ t = 1) {Q : List mv_V → mv_M → Prop} (k : Q [.inl (max (bf_o t U L i) (bf_o t U L j) - min (bf_o t D R i) (bf_o t D R j))] M)  : mv_J md_R_gapDownwards [.inr o, .inl i, .inl j, .inl t] M Q := by
  refine mv_enter (by decide +kernel) (Nat.le_of_ble_eq_true rfl) ?_
  show mv_W md_R_gapDownwards 0 [.inr o, .inl i, .inl j, .inl t] [] M (0, 0) Q
  have hbi := bf_ob hb h0 h1 t
  have hbj := bf_ob hb g0 g1 t
  refine mx_aload_n d_R_gapDownwards_0 rfl (by omega) ?_
  refine mx_iload_n d_R_gapDownwards_1 rfl ?_
  refine mx_iload_n d_R_gapDownwards_2 rfl ?_
  refine mx_cV2 d_R_gapDownwards_3 c_R_41 hR.1 (by decide) (Nat.le_of_ble_eq_true rfl) ?_
  refine bf_upperEnd ho hR h0 (by omega) ht ?_
  refine mx_aload_n d_R_gapDownwards_6 rfl (by omega) ?_
  refine mx_iload_n d_R_gapDownwards_7 rfl ?_
  refine mx_iload_n d_R_gapDownwards_8 rfl ?_
  refine mx_cV2 d_R_gapDownwards_9 c_R_41 hR.1 (by decide) (Nat.le_of_ble_eq_true rfl) ?_
  refine bf_upperEnd ho hR g0 (by omega) ht ?_
  refine mx_max d_R_gapDownwards_12 c_R_15 (by decide) (Nat.le_of_ble_eq_true rfl) ?_
  refine mx_aload_n d_R_gapDownwards_15 rfl (by omega) ?_
  refine mx_iload_n d_R_gapDownwards_16 rfl ?_
  refine mx_iload_n d_R_gapDownwards_17 rfl ?_
  refine mx_cV2 d_R_gapDownwards_18 c_R_37 hR.1 (by decide) (Nat.le_of_ble_eq_true rfl) ?_
  refine bf_lowerEnd ho hR h0 (by omega) ht ?_
  refine mx_aload_n d_R_gapDownwards_21 rfl (by omega) ?_
  refine mx_iload_n d_R_gapDownwards_22 rfl ?_
  refine mx_iload_n d_R_gapDownwards_23 rfl ?_
  refine mx_cV2 d_R_gapDownwards_24 c_R_37 hR.1 (by decide) (Nat.le_of_ble_eq_true rfl) ?_
  refine bf_lowerEnd ho hR g0 (by omega) ht ?_
  refine mx_min d_R_gapDownwards_27 c_R_34 (by decide) (Nat.le_of_ble_eq_true rfl) ?_
  refine mx_isub d_R_gapDownwards_30 (by unfold mv_r; omega) ?_
  refine mx_ireturn d_R_gapDownwards_31 rfl ?_
  exact k
def bf_nb (t : Int) (L U R D : Int → Int) (i j : Int) : Prop := min (bf_o t D R i - bf_o t U L i) (bf_o t D R j - bf_o t U L j) ≤ 2 * (min (bf_o t D R i) (bf_o t D R j) - max (bf_o t U L i) (bf_o t U L j)) ∧ 2 * (max (bf_o t L U i) (bf_o t L U j) - min (bf_o t R D i) (bf_o t R D j)) ≤ 3 * max (bf_o t D R i - bf_o t U L i) (bf_o t D R j - bf_o t U L j)
def bf_nl (t : Int) (L U R D : Int → Int) (i j : Int) : Prop := max (bf_o t L U i - bf_o t L U j) (-(bf_o t L U i - bf_o t L U j)) ≤ max (bf_o t D R i - bf_o t U L i) (bf_o t D R j - bf_o t U L j) ∧ max (bf_o t U L i) (bf_o t U L j) - min (bf_o t D R i) (bf_o t D R j) ≤ 2 * min (bf_o t D R i - bf_o t U L i) (bf_o t D R j - bf_o t U L j)
theorem bf_areNearAsBoxes {M : mv_M} {o n : Nat} {cnt : Int} {L U R D : Int → Int} (ho : 2 ≤ o) (hR : bf_R M o n cnt L U R D) (hcn : cnt ≤ n) (hb : bf_ok cnt L U R D) {i j t : Int} (h0 : 0 ≤ i) (h1 : i < cnt) (g0 : 0 ≤ j) (g1 : j < cnt) (ht : t = 0 ∨ t = 1) {Q : List mv_V → mv_M → Prop} (k1 : bf_nb t L U R D i j → Q [.inl 1] M) (k0 : ¬ bf_nb t L U R D i j → Q [.inl 0] M)  : mv_J md_R_areNearAsBoxes [.inr o, .inl i, .inl j, .inl t] M Q := by
  refine mv_enter (by decide +kernel) (Nat.le_of_ble_eq_true rfl) ?_
  show mv_W md_R_areNearAsBoxes 0 [.inr o, .inl i, .inl j, .inl t, .inr 0, .inr 0, .inr 0, .inr 0] [] M (0, 0) Q
  have hbi := bf_ob hb h0 h1 t
  have hbj := bf_ob hb g0 g1 t
  refine mx_aload_n d_R_areNearAsBoxes_0 rfl (by omega) ?_
  refine mx_iload_n d_R_areNearAsBoxes_1 rfl ?_
  refine mx_iload_n d_R_areNearAsBoxes_2 rfl ?_
  refine mx_cV2 d_R_areNearAsBoxes_3 c_R_44 hR.1 (by decide) (Nat.le_of_ble_eq_true rfl) ?_
  refine bf_height ho hR hcn hb h0 h1 ht ?_
  refine mx_aload_n d_R_areNearAsBoxes_6 rfl (by omega) ?_
  refine mx_iload_n d_R_areNearAsBoxes_7 rfl ?_
  refine mx_iload_n d_R_areNearAsBoxes_8 rfl ?_
  refine mx_cV2 d_R_areNearAsBoxes_9 c_R_44 hR.1 (by decide) (Nat.le_of_ble_eq_true rfl) ?_
  refine bf_height ho hR hcn hb g0 g1 ht ?_
  refine mx_min d_R_areNearAsBoxes_12 c_R_34 (by decide) (Nat.le_of_ble_eq_true rfl) ?_
  refine mx_istore d_R_areNearAsBoxes_15 (by decide) ?_
  refine mx_aload_n d_R_areNearAsBoxes_17 rfl (by omega) ?_
  refine mx_iload_n d_R_areNearAsBoxes_18 rfl ?_
  refine mx_iload_n d_R_areNearAsBoxes_19 rfl ?_
  refine mx_cV2 d_R_areNearAsBoxes_20 c_R_44 hR.1 (by decide) (Nat.le_of_ble_eq_true rfl) ?_
  refine bf_height ho hR hcn hb h0 h1 ht ?_
  refine mx_aload_n d_R_areNearAsBoxes_23 rfl (by omega) ?_
  refine mx_iload_n d_R_areNearAsBoxes_24 rfl ?_
  refine mx_iload_n d_R_areNearAsBoxes_25 rfl ?_
  refine mx_cV2 d_R_areNearAsBoxes_26 c_R_44 hR.1 (by decide) (Nat.le_of_ble_eq_true rfl) ?_
  refine bf_height ho hR hcn hb g0 g1 ht ?_
  refine mx_max d_R_areNearAsBoxes_29 c_R_15 (by decide) (Nat.le_of_ble_eq_true rfl) ?_
  refine mx_istore d_R_areNearAsBoxes_32 (by decide) ?_
  refine mx_aload_n d_R_areNearAsBoxes_34 rfl (by omega) ?_
  refine mx_iload_n d_R_areNearAsBoxes_35 rfl ?_
  refine mx_iload_n d_R_areNearAsBoxes_36 rfl ?_
  refine mx_cV2 d_R_areNearAsBoxes_37 c_R_47 hR.1 (by decide) (Nat.le_of_ble_eq_true rfl) ?_
  refine bf_leftEnd ho hR h0 (by omega) ht ?_
  refine mx_aload_n d_R_areNearAsBoxes_40 rfl (by omega) ?_
  refine mx_iload_n d_R_areNearAsBoxes_41 rfl ?_
  refine mx_iload_n d_R_areNearAsBoxes_42 rfl ?_
  refine mx_cV2 d_R_areNearAsBoxes_43 c_R_47 hR.1 (by decide) (Nat.le_of_ble_eq_true rfl) ?_
  refine bf_leftEnd ho hR g0 (by omega) ht ?_
  refine mx_max d_R_areNearAsBoxes_46 c_R_15 (by decide) (Nat.le_of_ble_eq_true rfl) ?_
  refine mx_aload_n d_R_areNearAsBoxes_49 rfl (by omega) ?_
  refine mx_iload_n d_R_areNearAsBoxes_50 rfl ?_
  refine mx_iload_n d_R_areNearAsBoxes_51 rfl ?_
  refine mx_cV2 d_R_areNearAsBoxes_52 c_R_50 hR.1 (by decide) (Nat.le_of_ble_eq_true rfl) ?_
  refine bf_rightEnd ho hR h0 (by omega) ht ?_
  refine mx_aload_n d_R_areNearAsBoxes_55 rfl (by omega) ?_
  refine mx_iload_n d_R_areNearAsBoxes_56 rfl ?_
  refine mx_iload_n d_R_areNearAsBoxes_57 rfl ?_
  refine mx_cV2 d_R_areNearAsBoxes_58 c_R_50 hR.1 (by decide) (Nat.le_of_ble_eq_true rfl) ?_
  refine bf_rightEnd ho hR g0 (by omega) ht ?_
  refine mx_min d_R_areNearAsBoxes_61 c_R_34 (by decide) (Nat.le_of_ble_eq_true rfl) ?_
  refine mx_isub d_R_areNearAsBoxes_64 (by unfold mv_r; omega) ?_
  refine mx_istore d_R_areNearAsBoxes_65 (by decide) ?_
  refine mx_aload_n d_R_areNearAsBoxes_67 rfl (by omega) ?_
  refine mx_iload_n d_R_areNearAsBoxes_68 rfl ?_
  refine mx_iload_n d_R_areNearAsBoxes_69 rfl ?_
  refine mx_iload_n d_R_areNearAsBoxes_70 rfl ?_
  refine mx_cV3 d_R_areNearAsBoxes_71 c_R_53 hR.1 (by decide) (Nat.le_of_ble_eq_true rfl) ?_
  refine bf_gapDownwards ho hR hcn hb h0 h1 g0 g1 ht ?_
  refine mx_ineg d_R_areNearAsBoxes_74 (by unfold mv_r; omega) ?_
  refine mx_istore d_R_areNearAsBoxes_75 (by decide) ?_
  refine mx_iconst (2) d_R_areNearAsBoxes_77 (by decide +kernel) (by unfold mv_r; omega) ?_
  refine mx_iload d_R_areNearAsBoxes_78 rfl ?_
  refine mx_imul d_R_areNearAsBoxes_80 (by unfold mv_r; omega) ?_
  refine mx_iload d_R_areNearAsBoxes_81 rfl ?_
  refine mx_icmp_lt 101 d_R_areNearAsBoxes_83 (by decide) (fun c83 => ?_) (fun c83 => ?_)
  · skip
    refine mx_iconst (0) d_R_areNearAsBoxes_101 (by decide +kernel) (by unfold mv_r; omega) ?_
    refine mx_zreturn d_R_areNearAsBoxes_102 rfl (by omega) ?_
    first | exact k1 ⟨by omega, by omega⟩ | exact k0 (fun h => by have q1 := h.1; have q2 := h.2; omega)
  · skip
    refine mx_iconst (2) d_R_areNearAsBoxes_86 (by decide +kernel) (by unfold mv_r; omega) ?_
    refine mx_iload d_R_areNearAsBoxes_87 rfl ?_
    refine mx_imul d_R_areNearAsBoxes_89 (by unfold mv_r; omega) ?_
    refine mx_iconst (3) d_R_areNearAsBoxes_90 (by decide +kernel) (by unfold mv_r; omega) ?_
    refine mx_iload d_R_areNearAsBoxes_91 rfl ?_
    refine mx_imul d_R_areNearAsBoxes_93 (by unfold mv_r; omega) ?_
    refine mx_icmp_gt 101 d_R_areNearAsBoxes_94 (by decide) (fun c94 => ?_) (fun c94 => ?_)
    · skip
      refine mx_iconst (0) d_R_areNearAsBoxes_101 (by decide +kernel) (by unfold mv_r; omega) ?_
      refine mx_zreturn d_R_areNearAsBoxes_102 rfl (by omega) ?_
      first | exact k1 ⟨by omega, by omega⟩ | exact k0 (fun h => by have q1 := h.1; have q2 := h.2; omega)
    · skip
      refine mx_iconst (1) d_R_areNearAsBoxes_97 (by decide +kernel) (by unfold mv_r; omega) ?_
      refine mx_goto 102 d_R_areNearAsBoxes_98 (by decide) ?_
      refine mx_zreturn d_R_areNearAsBoxes_102 rfl (by omega) ?_
      first | exact k1 ⟨by omega, by omega⟩ | exact k0 (fun h => by have q1 := h.1; have q2 := h.2; omega)
theorem bf_areNearAsLines {M : mv_M} {o n : Nat} {cnt : Int} {L U R D : Int → Int} (ho : 2 ≤ o) (hR : bf_R M o n cnt L U R D) (hcn : cnt ≤ n) (hb : bf_ok cnt L U R D) {i j t : Int} (h0 : 0 ≤ i) (h1 : i < cnt) (g0 : 0 ≤ j) (g1 : j < cnt) (ht : t = 0 ∨ t = 1) {Q : List mv_V → mv_M → Prop} (k1 : bf_nl t L U R D i j → Q [.inl 1] M) (k0 : ¬ bf_nl t L U R D i j → Q [.inl 0] M)  : mv_J md_R_areNearAsLines [.inr o, .inl i, .inl j, .inl t] M Q := by
  refine mv_enter (by decide +kernel) (Nat.le_of_ble_eq_true rfl) ?_
  show mv_W md_R_areNearAsLines 0 [.inr o, .inl i, .inl j, .inl t, .inr 0, .inr 0, .inr 0] [] M (0, 0) Q
  have hbi := bf_ob hb h0 h1 t
  have hbj := bf_ob hb g0 g1 t
  refine mx_aload_n d_R_areNearAsLines_0 rfl (by omega) ?_
  refine mx_iload_n d_R_areNearAsLines_1 rfl ?_
  refine mx_iload_n d_R_areNearAsLines_2 rfl ?_
  refine mx_cV2 d_R_areNearAsLines_3 c_R_44 hR.1 (by decide) (Nat.le_of_ble_eq_true rfl) ?_
  refine bf_height ho hR hcn hb h0 h1 ht ?_
  refine mx_aload_n d_R_areNearAsLines_6 rfl (by omega) ?_
  refine mx_iload_n d_R_areNearAsLines_7 rfl ?_
  refine mx_iload_n d_R_areNearAsLines_8 rfl ?_
  refine mx_cV2 d_R_areNearAsLines_9 c_R_44 hR.1 (by decide) (Nat.le_of_ble_eq_true rfl) ?_
  refine bf_height ho hR hcn hb g0 g1 ht ?_
  refine mx_min d_R_areNearAsLines_12 c_R_34 (by decide) (Nat.le_of_ble_eq_true rfl) ?_
  refine mx_istore d_R_areNearAsLines_15 (by decide) ?_
  refine mx_aload_n d_R_areNearAsLines_17 rfl (by omega) ?_
  refine mx_iload_n d_R_areNearAsLines_18 rfl ?_
  refine mx_iload_n d_R_areNearAsLines_19 rfl ?_
  refine mx_cV2 d_R_areNearAsLines_20 c_R_44 hR.1 (by decide) (Nat.le_of_ble_eq_true rfl) ?_
  refine bf_height ho hR hcn hb h0 h1 ht ?_
  refine mx_aload_n d_R_areNearAsLines_23 rfl (by omega) ?_
  refine mx_iload_n d_R_areNearAsLines_24 rfl ?_
  refine mx_iload_n d_R_areNearAsLines_25 rfl ?_
  refine mx_cV2 d_R_areNearAsLines_26 c_R_44 hR.1 (by decide) (Nat.le_of_ble_eq_true rfl) ?_
  refine bf_height ho hR hcn hb g0 g1 ht ?_
  refine mx_max d_R_areNearAsLines_29 c_R_15 (by decide) (Nat.le_of_ble_eq_true rfl) ?_
  refine mx_istore d_R_areNearAsLines_32 (by decide) ?_
  refine mx_aload_n d_R_areNearAsLines_34 rfl (by omega) ?_
  refine mx_iload_n d_R_areNearAsLines_35 rfl ?_
  refine mx_iload_n d_R_areNearAsLines_36 rfl ?_
  refine mx_cV2 d_R_areNearAsLines_37 c_R_47 hR.1 (by decide) (Nat.le_of_ble_eq_true rfl) ?_
  refine bf_leftEnd ho hR h0 (by omega) ht ?_
  refine mx_aload_n d_R_areNearAsLines_40 rfl (by omega) ?_
  refine mx_iload_n d_R_areNearAsLines_41 rfl ?_
  refine mx_iload_n d_R_areNearAsLines_42 rfl ?_
  refine mx_cV2 d_R_areNearAsLines_43 c_R_47 hR.1 (by decide) (Nat.le_of_ble_eq_true rfl) ?_
  refine bf_leftEnd ho hR g0 (by omega) ht ?_
  refine mx_isub d_R_areNearAsLines_46 (by unfold mv_r; omega) ?_
  refine mx_abs d_R_areNearAsLines_47 c_R_57 (by decide) (Nat.le_of_ble_eq_true rfl) (by unfold mv_r; omega) ?_
  refine mx_istore d_R_areNearAsLines_50 (by decide) ?_
  refine mx_iload d_R_areNearAsLines_52 rfl ?_
  refine mx_iload d_R_areNearAsLines_54 rfl ?_
  refine mx_icmp_gt 77 d_R_areNearAsLines_56 (by decide) (fun c56 => ?_) (fun c56 => ?_)
  · skip
    refine mx_iconst (0) d_R_areNearAsLines_77 (by decide +kernel) (by unfold mv_r; omega) ?_
    refine mx_zreturn d_R_areNearAsLines_78 rfl (by omega) ?_
    first | exact k1 ⟨by omega, by omega⟩ | exact k0 (fun h => by have q1 := h.1; have q2 := h.2; omega)
  · skip
    refine mx_aload_n d_R_areNearAsLines_59 rfl (by omega) ?_
    refine mx_iload_n d_R_areNearAsLines_60 rfl ?_
    refine mx_iload_n d_R_areNearAsLines_61 rfl ?_
    refine mx_iload_n d_R_areNearAsLines_62 rfl ?_
    refine mx_cV3 d_R_areNearAsLines_63 c_R_53 hR.1 (by decide) (Nat.le_of_ble_eq_true rfl) ?_
    refine bf_gapDownwards ho hR hcn hb h0 h1 g0 g1 ht ?_
    refine mx_iconst (2) d_R_areNearAsLines_66 (by decide +kernel) (by unfold mv_r; omega) ?_
    refine mx_iload d_R_areNearAsLines_67 rfl ?_
    refine mx_imul d_R_areNearAsLines_69 (by unfold mv_r; omega) ?_
    refine mx_icmp_gt 77 d_R_areNearAsLines_70 (by decide) (fun c70 => ?_) (fun c70 => ?_)
    · skip
      refine mx_iconst (0) d_R_areNearAsLines_77 (by decide +kernel) (by unfold mv_r; omega) ?_
      refine mx_zreturn d_R_areNearAsLines_78 rfl (by omega) ?_
      first | exact k1 ⟨by omega, by omega⟩ | exact k0 (fun h => by have q1 := h.1; have q2 := h.2; omega)
    · skip
      refine mx_iconst (1) d_R_areNearAsLines_73 (by decide +kernel) (by unfold mv_r; omega) ?_
      refine mx_goto 78 d_R_areNearAsLines_74 (by decide) ?_
      refine mx_zreturn d_R_areNearAsLines_78 rfl (by omega) ?_
      first | exact k1 ⟨by omega, by omega⟩ | exact k0 (fun h => by have q1 := h.1; have q2 := h.2; omega)
theorem bf_area {M : mv_M} {o n : Nat} {cnt : Int} {L U R D : Int → Int} (ho : 2 ≤ o) (hR : bf_R M o n cnt L U R D) (hcn : cnt ≤ n) (hb : bf_ok cnt L U R D) {i : Int} (h0 : 0 ≤ i) (h1 : i < cnt) {Q : List mv_V → mv_M → Prop} (k : Q [.inl ((R i - L i) * (D i - U i))] M)  : mv_J md_R_area [.inr o, .inl i] M Q := by
  refine mv_enter (by decide +kernel) (Nat.le_of_ble_eq_true rfl) ?_
  show mv_W md_R_area 0 [.inr o, .inl i] [] M (0, 0) Q
  have hbi := hb i h0 h1
  refine mx_aload_n d_R_area_0 rfl (by omega) ?_
  refine mx_gl d_R_area_1 f_R_28 hR.1 rfl ?_
  refine mx_iload_n d_R_area_4 rfl ?_
  refine mx_iald d_R_area_5 hR.2.2.2.1 (by omega) (by omega) ?_
  refine mx_aload_n d_R_area_6 rfl (by omega) ?_
  refine mx_gl d_R_area_7 f_R_21 hR.1 rfl ?_
  refine mx_iload_n d_R_area_10 rfl ?_
  refine mx_iald d_R_area_11 hR.2.1 (by omega) (by omega) ?_
  refine mx_isub d_R_area_12 (by unfold mv_r; omega) ?_
  refine mx_aload_n d_R_area_13 rfl (by omega) ?_
  refine mx_gl d_R_area_14 f_R_31 hR.1 rfl ?_
  refine mx_iload_n d_R_area_17 rfl ?_
  refine mx_iald d_R_area_18 hR.2.2.2.2 (by omega) (by omega) ?_
  refine mx_aload_n d_R_area_19 rfl (by omega) ?_
  refine mx_gl d_R_area_20 f_R_25 hR.1 rfl ?_
  refine mx_iload_n d_R_area_23 rfl ?_
  refine mx_iald d_R_area_24 hR.2.2.1 (by omega) (by omega) ?_
  refine mx_isub d_R_area_25 (by unfold mv_r; omega) ?_
  refine mx_imul d_R_area_26 (by have q := bf_mul (a := R i - L i) (b := D i - U i) (by omega) (by omega) (by omega) (by omega); unfold mv_r; omega) ?_
  refine mx_ireturn d_R_area_27 rfl ?_
  exact k
theorem bf_side {M : mv_M} {o n : Nat} {cnt : Int} {L U R D : Int → Int} (ho : 2 ≤ o) (hR : bf_R M o n cnt L U R D) (hcn : cnt ≤ n) (hb : bf_ok cnt L U R D) {i w : Int} (h0 : 0 ≤ i) (h1 : i < cnt) {Q : List mv_V → mv_M → Prop} (k : Q [.inl (if w = 0 then L i else if w = 1 then U i else if w = 2 then R i - L i else D i - U i)] M)  : mv_J md_R_side [.inr o, .inl i, .inl w] M Q := by
  refine mv_enter (by decide +kernel) (Nat.le_of_ble_eq_true rfl) ?_
  show mv_W md_R_side 0 [.inr o, .inl i, .inl w] [] M (0, 0) Q
  have hbi := hb i h0 h1
  refine mx_iload_n d_R_side_0 rfl ?_
  rcases (show w = 0 ∨ w = 1 ∨ w = 2 ∨ (w < 0 ∨ 2 < w) by omega) with rfl | rfl | rfl | hsw
  · skip
    refine mx_tabIn 28 d_R_side_1 (by omega) (by omega) rfl (by decide) ?_
    refine mx_aload_n d_R_side_28 rfl (by omega) ?_
    refine mx_gl d_R_side_29 f_R_21 hR.1 rfl ?_
    refine mx_iload_n d_R_side_32 rfl ?_
    refine mx_iald d_R_side_33 hR.2.1 (by omega) (by omega) ?_
    refine mx_ireturn d_R_side_34 rfl ?_
    exact k
  · skip
    refine mx_tabIn 35 d_R_side_1 (by omega) (by omega) rfl (by decide) ?_
    refine mx_aload_n d_R_side_35 rfl (by omega) ?_
    refine mx_gl d_R_side_36 f_R_25 hR.1 rfl ?_
    refine mx_iload_n d_R_side_39 rfl ?_
    refine mx_iald d_R_side_40 hR.2.2.1 (by omega) (by omega) ?_
    refine mx_ireturn d_R_side_41 rfl ?_
    exact k
  · skip
    refine mx_tabIn 42 d_R_side_1 (by omega) (by omega) rfl (by decide) ?_
    refine mx_aload_n d_R_side_42 rfl (by omega) ?_
    refine mx_gl d_R_side_43 f_R_28 hR.1 rfl ?_
    refine mx_iload_n d_R_side_46 rfl ?_
    refine mx_iald d_R_side_47 hR.2.2.2.1 (by omega) (by omega) ?_
    refine mx_aload_n d_R_side_48 rfl (by omega) ?_
    refine mx_gl d_R_side_49 f_R_21 hR.1 rfl ?_
    refine mx_iload_n d_R_side_52 rfl ?_
    refine mx_iald d_R_side_53 hR.2.1 (by omega) (by omega) ?_
    refine mx_isub d_R_side_54 (by unfold mv_r; omega) ?_
    refine mx_ireturn d_R_side_55 rfl ?_
    exact k
  · skip
    refine mx_tabOut 56 d_R_side_1 hsw (by decide) ?_
    rw [if_neg (by omega), if_neg (by omega), if_neg (by omega)] at k
    refine mx_aload_n d_R_side_56 rfl (by omega) ?_
    refine mx_gl d_R_side_57 f_R_31 hR.1 rfl ?_
    refine mx_iload_n d_R_side_60 rfl ?_
    refine mx_iald d_R_side_61 hR.2.2.2.2 (by omega) (by omega) ?_
    refine mx_aload_n d_R_side_62 rfl (by omega) ?_
    refine mx_gl d_R_side_63 f_R_25 hR.1 rfl ?_
    refine mx_iload_n d_R_side_66 rfl ?_
    refine mx_iald d_R_side_67 hR.2.2.1 (by omega) (by omega) ?_
    refine mx_isub d_R_side_68 (by unfold mv_r; omega) ?_
    refine mx_ireturn d_R_side_69 rfl ?_
    exact k
theorem bf_encloses {M : mv_M} {o n : Nat} {cnt : Int} {L U R D : Int → Int} (ho : 2 ≤ o) (hR : bf_R M o n cnt L U R D) {o2 n2 : Nat} {cnt2 : Int} {L2 U2 R2 D2 : Int → Int} (ho2 : 2 ≤ o2) (hR2 : bf_R M o2 n2 cnt2 L2 U2 R2 D2) {i j : Int} (h0 : 0 ≤ i) (h1 : i < n) (g0 : 0 ≤ j) (g1 : j < n2) {Q : List mv_V → mv_M → Prop} (k1 : (L i ≤ L2 j ∧ R2 j ≤ R i ∧ U i ≤ U2 j ∧ D2 j ≤ D i) → Q [.inl 1] M) (k0 : ¬ (L i ≤ L2 j ∧ R2 j ≤ R i ∧ U i ≤ U2 j ∧ D2 j ≤ D i) → Q [.inl 0] M)  : mv_J md_R_encloses [.inr o, .inl i, .inr o2, .inl j] M Q := by
  refine mv_enter (by decide +kernel) (Nat.le_of_ble_eq_true rfl) ?_
  show mv_W md_R_encloses 0 [.inr o, .inl i, .inr o2, .inl j] [] M (0, 0) Q
  refine mx_aload_n d_R_encloses_0 rfl (by omega) ?_
  refine mx_gl d_R_encloses_1 f_R_21 hR.1 rfl ?_
  refine mx_iload_n d_R_encloses_4 rfl ?_
  refine mx_iald d_R_encloses_5 hR.2.1 (by omega) (by omega) ?_
  refine mx_aload_n d_R_encloses_6 rfl (by omega) ?_
  refine mx_gl d_R_encloses_7 f_R_21 hR2.1 rfl ?_
  refine mx_iload_n d_R_encloses_10 rfl ?_
  refine mx_iald d_R_encloses_11 hR2.2.1 (by omega) (by omega) ?_
  refine mx_icmp_gt 64 d_R_encloses_12 (by decide) (fun c12 => ?_) (fun c12 => ?_)
  · skip
    refine mx_iconst (0) d_R_encloses_64 (by decide +kernel) (by unfold mv_r; omega) ?_
    refine mx_zreturn d_R_encloses_65 rfl (by omega) ?_
    first | exact k1 (by omega) | exact k0 (by omega)
  · skip
    refine mx_aload_n d_R_encloses_15 rfl (by omega) ?_
    refine mx_gl d_R_encloses_16 f_R_28 hR.1 rfl ?_
    refine mx_iload_n d_R_encloses_19 rfl ?_
    refine mx_iald d_R_encloses_20 hR.2.2.2.1 (by omega) (by omega) ?_
    refine mx_aload_n d_R_encloses_21 rfl (by omega) ?_
    refine mx_gl d_R_encloses_22 f_R_28 hR2.1 rfl ?_
    refine mx_iload_n d_R_encloses_25 rfl ?_
    refine mx_iald d_R_encloses_26 hR2.2.2.2.1 (by omega) (by omega) ?_
    refine mx_icmp_lt 64 d_R_encloses_27 (by decide) (fun c27 => ?_) (fun c27 => ?_)
    · skip
      refine mx_iconst (0) d_R_encloses_64 (by decide +kernel) (by unfold mv_r; omega) ?_
      refine mx_zreturn d_R_encloses_65 rfl (by omega) ?_
      first | exact k1 (by omega) | exact k0 (by omega)
    · skip
      refine mx_aload_n d_R_encloses_30 rfl (by omega) ?_
      refine mx_gl d_R_encloses_31 f_R_25 hR.1 rfl ?_
      refine mx_iload_n d_R_encloses_34 rfl ?_
      refine mx_iald d_R_encloses_35 hR.2.2.1 (by omega) (by omega) ?_
      refine mx_aload_n d_R_encloses_36 rfl (by omega) ?_
      refine mx_gl d_R_encloses_37 f_R_25 hR2.1 rfl ?_
      refine mx_iload_n d_R_encloses_40 rfl ?_
      refine mx_iald d_R_encloses_41 hR2.2.2.1 (by omega) (by omega) ?_
      refine mx_icmp_gt 64 d_R_encloses_42 (by decide) (fun c42 => ?_) (fun c42 => ?_)
      · skip
        refine mx_iconst (0) d_R_encloses_64 (by decide +kernel) (by unfold mv_r; omega) ?_
        refine mx_zreturn d_R_encloses_65 rfl (by omega) ?_
        first | exact k1 (by omega) | exact k0 (by omega)
      · skip
        refine mx_aload_n d_R_encloses_45 rfl (by omega) ?_
        refine mx_gl d_R_encloses_46 f_R_31 hR.1 rfl ?_
        refine mx_iload_n d_R_encloses_49 rfl ?_
        refine mx_iald d_R_encloses_50 hR.2.2.2.2 (by omega) (by omega) ?_
        refine mx_aload_n d_R_encloses_51 rfl (by omega) ?_
        refine mx_gl d_R_encloses_52 f_R_31 hR2.1 rfl ?_
        refine mx_iload_n d_R_encloses_55 rfl ?_
        refine mx_iald d_R_encloses_56 hR2.2.2.2.2 (by omega) (by omega) ?_
        refine mx_icmp_lt 64 d_R_encloses_57 (by decide) (fun c57 => ?_) (fun c57 => ?_)
        · skip
          refine mx_iconst (0) d_R_encloses_64 (by decide +kernel) (by unfold mv_r; omega) ?_
          refine mx_zreturn d_R_encloses_65 rfl (by omega) ?_
          first | exact k1 (by omega) | exact k0 (by omega)
        · skip
          refine mx_iconst (1) d_R_encloses_60 (by decide +kernel) (by unfold mv_r; omega) ?_
          refine mx_goto 65 d_R_encloses_61 (by decide) ?_
          refine mx_zreturn d_R_encloses_65 rfl (by omega) ?_
          first | exact k1 (by omega) | exact k0 (by omega)
def bf_fr (M M' : mv_M) (a b : Nat) : Prop := ∀ j, (j < a ∨ b ≤ j) → M'.2 j = M.2 j
theorem bf_R.fr {M M' : mv_M} {o n : Nat} {cnt : Int} {L U R D : Int → Int} (h : bf_R M o n cnt L U R D) {a b : Nat} (hf : bf_fr M M' a b) (hd : o + 5 ≤ a ∨ b ≤ o) : bf_R M' o n cnt L U R D := by
  unfold bf_R
  rw [hf o (by omega), hf (o + 1) (by omega), hf (o + 2) (by omega), hf (o + 3) (by omega), hf (o + 4) (by omega)]
  exact h
theorem bf_add {M : mv_M} {o n : Nat} {cnt : Int} {L U R D : Int → Int} (ho : 2 ≤ o) (hR : bf_R M o n cnt L U R D) (hn64 : n ≤ 64) (hc0 : 0 ≤ cnt) {x1 x2 x3 x4 : Int} {Q : List mv_V → mv_M → Prop} (k1 : (n : Int) ≤ cnt → Q [.inl (-14)] M) (k2 : ∀ M', cnt < n → bf_fr M M' o (o + 5) → bf_R M' o n (cnt + 1) (mv_s L cnt x1) (mv_s U cnt x2) (mv_s R cnt x3) (mv_s D cnt x4) → Q [.inl cnt] M')  : mv_J md_R_add [.inr o, .inl x1, .inl x2, .inl x3, .inl x4] M Q := by
  refine mv_enter (by decide +kernel) (Nat.le_of_ble_eq_true rfl) ?_
  show mv_W md_R_add 0 [.inr o, .inl x1, .inl x2, .inl x3, .inl x4, .inr 0] [] M (0, 0) Q
  refine mx_aload_n d_R_add_0 rfl (by omega) ?_
  refine mx_gl d_R_add_1 f_R_9 hR.1 rfl ?_
  refine mx_aload_n d_R_add_4 rfl (by omega) ?_
  refine mx_gl d_R_add_5 f_R_21 hR.1 rfl ?_
  refine mx_alen d_R_add_8 hR.2.1 ?_
  refine mx_icmp_lt 15 d_R_add_9 (by decide) (fun c9 => ?_) (fun c9 => ?_)
  · skip
    refine mx_aload_n d_R_add_15 rfl (by omega) ?_
    refine mx_gl d_R_add_16 f_R_9 hR.1 rfl ?_
    refine mx_istore d_R_add_19 (by decide) ?_
    refine mx_aload_n d_R_add_21 rfl (by omega) ?_
    refine mx_gl d_R_add_22 f_R_21 hR.1 rfl ?_
    refine mx_iload d_R_add_25 rfl ?_
    refine mx_iload_n d_R_add_27 rfl ?_
    refine mx_iast d_R_add_28 hR.2.1 (by omega) (by omega) (by omega) ?_
    refine mx_aload_n d_R_add_29 rfl (by omega) ?_
    refine mx_gl d_R_add_30 f_R_25 (by rw [mv_pn (by omega)]; exact hR.1) rfl ?_
    refine mx_iload d_R_add_33 rfl ?_
    refine mx_iload_n d_R_add_35 rfl ?_
    refine mx_iast d_R_add_36 (by rw [mv_pn (by omega)]; exact hR.2.2.1) (by omega) (by omega) (by omega) ?_
    refine mx_aload_n d_R_add_37 rfl (by omega) ?_
    refine mx_gl d_R_add_38 f_R_28 (by rw [mv_pn (by omega), mv_pn (by omega)]; exact hR.1) rfl ?_
    refine mx_iload d_R_add_41 rfl ?_
    refine mx_iload_n d_R_add_43 rfl ?_
    refine mx_iast d_R_add_44 (by rw [mv_pn (by omega), mv_pn (by omega)]; exact hR.2.2.2.1) (by omega) (by omega) (by omega) ?_
    refine mx_aload_n d_R_add_45 rfl (by omega) ?_
    refine mx_gl d_R_add_46 f_R_31 (by rw [mv_pn (by omega), mv_pn (by omega), mv_pn (by omega)]; exact hR.1) rfl ?_
    refine mx_iload d_R_add_49 rfl ?_
    refine mx_iload d_R_add_51 rfl ?_
    refine mx_iast d_R_add_53 (by rw [mv_pn (by omega), mv_pn (by omega), mv_pn (by omega)]; exact hR.2.2.2.2) (by omega) (by omega) (by omega) ?_
    refine mx_aload_n d_R_add_54 rfl (by omega) ?_
    refine mx_dup d_R_add_55 ?_
    refine mx_gl d_R_add_56 f_R_9 (by rw [mv_pn (by omega), mv_pn (by omega), mv_pn (by omega), mv_pn (by omega)]; exact hR.1) rfl ?_
    refine mx_iconst (1) d_R_add_59 (by decide +kernel) (by unfold mv_r; omega) ?_
    refine mx_iadd d_R_add_60 (by unfold mv_r; omega) ?_
    refine mx_pl d_R_add_61 g_R_9 (by rw [mv_pn (by omega), mv_pn (by omega), mv_pn (by omega), mv_pn (by omega)]; exact hR.1) (mv_Vi _) (Nat.le_of_ble_eq_true rfl) ?_
    refine mx_iload d_R_add_64 rfl ?_
    refine mx_ireturn d_R_add_66 rfl ?_
    exact k2 _ (by omega)  (fun j hj => by rw [mv_pn (by omega), mv_pn (by omega), mv_pn (by omega), mv_pn (by omega), mv_pn (by omega)]) ⟨mv_ps, by rw [mv_pn (by omega), mv_pn (by omega), mv_pn (by omega), mv_pn (by omega), mv_ps], by rw [mv_pn (by omega), mv_pn (by omega), mv_pn (by omega), mv_ps], by rw [mv_pn (by omega), mv_pn (by omega), mv_ps], by rw [mv_pn (by omega), mv_ps]⟩
  · skip
    refine mx_bipush (-14) d_R_add_12 (by decide +kernel) (by unfold mv_r; omega) ?_
    refine mx_ireturn d_R_add_14 rfl ?_
    exact k1 (by omega)
theorem bf_stretchOver {M : mv_M} {o n : Nat} {cnt : Int} {L U R D : Int → Int} (ho : 2 ≤ o) (hR : bf_R M o n cnt L U R D) {o2 n2 : Nat} {cnt2 : Int} {L2 U2 R2 D2 : Int → Int} (ho2 : 2 ≤ o2) (hR2 : bf_R M o2 n2 cnt2 L2 U2 R2 D2) (hdj : o + 5 ≤ o2 ∨ o2 + 5 ≤ o) {i j : Int} (h0 : 0 ≤ i) (h1 : i < n) (g0 : 0 ≤ j) (g1 : j < n2) {Q : List mv_V → mv_M → Prop} (k : ∀ M', bf_fr M M' o (o + 5) → bf_R M' o n cnt (mv_s L i (min (L i) (L2 j))) (mv_s U i (min (U i) (U2 j))) (mv_s R i (max (R i) (R2 j))) (mv_s D i (max (D i) (D2 j))) → Q [] M')  : mv_J md_R_stretchOver [.inr o, .inl i, .inr o2, .inl j] M Q := by
  refine mv_enter (by decide +kernel) (Nat.le_of_ble_eq_true rfl) ?_
  show mv_W md_R_stretchOver 0 [.inr o, .inl i, .inr o2, .inl j] [] M (0, 0) Q
  refine mx_aload_n d_R_stretchOver_0 rfl (by omega) ?_
  refine mx_gl d_R_stretchOver_1 f_R_21 hR.1 rfl ?_
  refine mx_iload_n d_R_stretchOver_4 rfl ?_
  refine mx_aload_n d_R_stretchOver_5 rfl (by omega) ?_
  refine mx_gl d_R_stretchOver_6 f_R_21 hR.1 rfl ?_
  refine mx_iload_n d_R_stretchOver_9 rfl ?_
  refine mx_iald d_R_stretchOver_10 hR.2.1 (by omega) (by omega) ?_
  refine mx_aload_n d_R_stretchOver_11 rfl (by omega) ?_
  refine mx_gl d_R_stretchOver_12 f_R_21 hR2.1 rfl ?_
  refine mx_iload_n d_R_stretchOver_15 rfl ?_
  refine mx_iald d_R_stretchOver_16 hR2.2.1 (by omega) (by omega) ?_
  refine mx_min d_R_stretchOver_17 c_R_34 (by decide) (Nat.le_of_ble_eq_true rfl) ?_
  refine mx_iast d_R_stretchOver_20 hR.2.1 (by omega) (by omega) (by omega) ?_
  refine mx_aload_n d_R_stretchOver_21 rfl (by omega) ?_
  refine mx_gl d_R_stretchOver_22 f_R_25 (by rw [mv_pn (by omega)]; exact hR.1) rfl ?_
  refine mx_iload_n d_R_stretchOver_25 rfl ?_
  refine mx_aload_n d_R_stretchOver_26 rfl (by omega) ?_
  refine mx_gl d_R_stretchOver_27 f_R_25 (by rw [mv_pn (by omega)]; exact hR.1) rfl ?_
  refine mx_iload_n d_R_stretchOver_30 rfl ?_
  refine mx_iald d_R_stretchOver_31 (by rw [mv_pn (by omega)]; exact hR.2.2.1) (by omega) (by omega) ?_
  refine mx_aload_n d_R_stretchOver_32 rfl (by omega) ?_
  refine mx_gl d_R_stretchOver_33 f_R_25 (by rw [mv_pn (by omega)]; exact hR2.1) rfl ?_
  refine mx_iload_n d_R_stretchOver_36 rfl ?_
  refine mx_iald d_R_stretchOver_37 (by rw [mv_pn (by omega)]; exact hR2.2.2.1) (by omega) (by omega) ?_
  refine mx_min d_R_stretchOver_38 c_R_34 (by decide) (Nat.le_of_ble_eq_true rfl) ?_
  refine mx_iast d_R_stretchOver_41 (by rw [mv_pn (by omega)]; exact hR.2.2.1) (by omega) (by omega) (by omega) ?_
  refine mx_aload_n d_R_stretchOver_42 rfl (by omega) ?_
  refine mx_gl d_R_stretchOver_43 f_R_28 (by rw [mv_pn (by omega), mv_pn (by omega)]; exact hR.1) rfl ?_
  refine mx_iload_n d_R_stretchOver_46 rfl ?_
  refine mx_aload_n d_R_stretchOver_47 rfl (by omega) ?_
  refine mx_gl d_R_stretchOver_48 f_R_28 (by rw [mv_pn (by omega), mv_pn (by omega)]; exact hR.1) rfl ?_
  refine mx_iload_n d_R_stretchOver_51 rfl ?_
  refine mx_iald d_R_stretchOver_52 (by rw [mv_pn (by omega), mv_pn (by omega)]; exact hR.2.2.2.1) (by omega) (by omega) ?_
  refine mx_aload_n d_R_stretchOver_53 rfl (by omega) ?_
  refine mx_gl d_R_stretchOver_54 f_R_28 (by rw [mv_pn (by omega), mv_pn (by omega)]; exact hR2.1) rfl ?_
  refine mx_iload_n d_R_stretchOver_57 rfl ?_
  refine mx_iald d_R_stretchOver_58 (by rw [mv_pn (by omega), mv_pn (by omega)]; exact hR2.2.2.2.1) (by omega) (by omega) ?_
  refine mx_max d_R_stretchOver_59 c_R_15 (by decide) (Nat.le_of_ble_eq_true rfl) ?_
  refine mx_iast d_R_stretchOver_62 (by rw [mv_pn (by omega), mv_pn (by omega)]; exact hR.2.2.2.1) (by omega) (by omega) (by omega) ?_
  refine mx_aload_n d_R_stretchOver_63 rfl (by omega) ?_
  refine mx_gl d_R_stretchOver_64 f_R_31 (by rw [mv_pn (by omega), mv_pn (by omega), mv_pn (by omega)]; exact hR.1) rfl ?_
  refine mx_iload_n d_R_stretchOver_67 rfl ?_
  refine mx_aload_n d_R_stretchOver_68 rfl (by omega) ?_
  refine mx_gl d_R_stretchOver_69 f_R_31 (by rw [mv_pn (by omega), mv_pn (by omega), mv_pn (by omega)]; exact hR.1) rfl ?_
  refine mx_iload_n d_R_stretchOver_72 rfl ?_
  refine mx_iald d_R_stretchOver_73 (by rw [mv_pn (by omega), mv_pn (by omega), mv_pn (by omega)]; exact hR.2.2.2.2) (by omega) (by omega) ?_
  refine mx_aload_n d_R_stretchOver_74 rfl (by omega) ?_
  refine mx_gl d_R_stretchOver_75 f_R_31 (by rw [mv_pn (by omega), mv_pn (by omega), mv_pn (by omega)]; exact hR2.1) rfl ?_
  refine mx_iload_n d_R_stretchOver_78 rfl ?_
  refine mx_iald d_R_stretchOver_79 (by rw [mv_pn (by omega), mv_pn (by omega), mv_pn (by omega)]; exact hR2.2.2.2.2) (by omega) (by omega) ?_
  refine mx_max d_R_stretchOver_80 c_R_15 (by decide) (Nat.le_of_ble_eq_true rfl) ?_
  refine mx_iast d_R_stretchOver_83 (by rw [mv_pn (by omega), mv_pn (by omega), mv_pn (by omega)]; exact hR.2.2.2.2) (by omega) (by omega) (by omega) ?_
  refine mx_return d_R_stretchOver_84 rfl ?_
  exact k _ (fun j hj => by rw [mv_pn (by omega), mv_pn (by omega), mv_pn (by omega), mv_pn (by omega)]) ⟨by rw [mv_pn (by omega), mv_pn (by omega), mv_pn (by omega), mv_pn (by omega)]; exact hR.1, by rw [mv_pn (by omega), mv_pn (by omega), mv_pn (by omega), mv_ps], by rw [mv_pn (by omega), mv_pn (by omega), mv_ps], by rw [mv_pn (by omega), mv_ps], mv_ps⟩
