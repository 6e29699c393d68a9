/-! the reference: boxes on the sheet, their sides -/
def rf_O (M : mv_M) (co wi ta bo pa wy lc fo tu bl kl se ow : Int) : Prop := M.2 47 = .inr (ki_RM, mv_l [.inl co, .inl wi, .inl ta, .inl bo, .inr 48, .inl pa, .inr 49, .inl wy, .inr 50, .inl lc, .inr 51, .inr 52, .inr 53, .inl fo, .inl tu, .inl bl, .inr 54, .inr 55, .inr 56, .inr 57, .inr 58, .inl kl, .inr 59, .inr 60, .inr 61, .inr 62, .inl se, .inr 63, .inl ow])
def rf_l (A : Int → Int) (q : Int) : Int := A (4 * q)
def rf_u (A : Int → Int) (q : Int) : Int := A (4 * q + 1)
def rf_w (A : Int → Int) (q : Int) : Int := A (4 * q + 2)
def rf_h (A : Int → Int) (q : Int) : Int := A (4 * q + 3)
def rf_r (A : Int → Int) (q : Int) : Int := A (4 * q) + A (4 * q + 2)
def rf_d (A : Int → Int) (q : Int) : Int := A (4 * q + 1) + A (4 * q + 3)
abbrev rf_ok (cnt : Int) (A : Int → Int) : Prop := bf_ok cnt (rf_l A) (rf_u A) (rf_r A) (rf_d A)
theorem rf_or {t : Int} {A : Int → Int} {q : Int} : bf_o t (rf_l A) (rf_u A) q + bf_o t (rf_w A) (rf_h A) q = bf_o t (rf_r A) (rf_d A) q := by unfold bf_o rf_r rf_d; split <;> rfl
theorem rf_od {t : Int} {A : Int → Int} {q : Int} : bf_o t (rf_u A) (rf_l A) q + bf_o t (rf_h A) (rf_w A) q = bf_o t (rf_d A) (rf_r A) q := by unfold bf_o rf_r rf_d; split <;> rfl
theorem rf_oh {t : Int} {A : Int → Int} {q : Int} : bf_o t (rf_h A) (rf_w A) q = bf_o t (rf_d A) (rf_r A) q - bf_o t (rf_u A) (rf_l A) q := by have := rf_od (t := t) (A := A) (q := q); omega
theorem rf_ow {t : Int} {A : Int → Int} {q : Int} : bf_o t (rf_w A) (rf_h A) q = bf_o t (rf_r A) (rf_d A) q - bf_o t (rf_l A) (rf_u A) q := by have := rf_or (t := t) (A := A) (q := q); omega
theorem rf_least {Q : List mv_V → mv_M → Prop} {M : mv_M} {a b : Int} (k : Q [.inl (min a b)] M) : mv_J md_RM_least [.inl a, .inl b] M Q := by
  refine mv_enter (by decide +kernel) (Nat.le_of_ble_eq_true rfl) ?_
  show mv_W md_RM_least 0 [.inl a, .inl b] [] M (0, 0) Q
  refine mx_iload_n d_RM_least_0 rfl ?_
  refine mx_iload_n d_RM_least_1 rfl ?_
  refine mx_icmp_ge 9 d_RM_least_2 (by decide) (fun c2 => ?_) (fun c2 => ?_)
  · skip
    refine mx_iload_n d_RM_least_9 rfl ?_
    refine mx_ireturn d_RM_least_10 rfl ?_
    first | (rw [show min a b = a by omega] at k; exact k) | (rw [show min a b = b by omega] at k; exact k)
  · skip
    refine mx_iload_n d_RM_least_5 rfl ?_
    refine mx_goto 10 d_RM_least_6 (by decide) ?_
    refine mx_ireturn d_RM_least_10 rfl ?_
    first | (rw [show min a b = a by omega] at k; exact k) | (rw [show min a b = b by omega] at k; exact k)
theorem rf_most {Q : List mv_V → mv_M → Prop} {M : mv_M} {a b : Int} (k : Q [.inl (max a b)] M) : mv_J md_RM_most [.inl a, .inl b] M Q := by
  refine mv_enter (by decide +kernel) (Nat.le_of_ble_eq_true rfl) ?_
  show mv_W md_RM_most 0 [.inl a, .inl b] [] M (0, 0) Q
  refine mx_iload_n d_RM_most_0 rfl ?_
  refine mx_iload_n d_RM_most_1 rfl ?_
  refine mx_icmp_le 9 d_RM_most_2 (by decide) (fun c2 => ?_) (fun c2 => ?_)
  · skip
    refine mx_iload_n d_RM_most_9 rfl ?_
    refine mx_ireturn d_RM_most_10 rfl ?_
    first | (rw [show max a b = a by omega] at k; exact k) | (rw [show max a b = b by omega] at k; exact k)
  · skip
    refine mx_iload_n d_RM_most_5 rfl ?_
    refine mx_goto 10 d_RM_most_6 (by decide) ?_
    refine mx_ireturn d_RM_most_10 rfl ?_
    first | (rw [show max a b = a by omega] at k; exact k) | (rw [show max a b = b by omega] at k; exact k)
theorem rf_sb0 {Q : List mv_V → mv_M → Prop} {M : mv_M} {co wi ta bo pa wy lc fo tu bl kl se ow : Int} (hO : rf_O M co wi ta bo pa wy lc fo tu bl kl se ow) (hwy : wy = 0 ∨ wy = 1) {B : Int → Int} (hBox : M.2 48 = .inl (256, B)) {q : Int} (q0 : 0 ≤ q) (q1 : q < 64) (k : Q [.inl (bf_o wy (rf_l B) (rf_u B) q)] M) : mv_J md_RM_side [.inr 47, .inl q, .inl 0] M Q := by
  refine mv_enter (by decide +kernel) (Nat.le_of_ble_eq_true rfl) ?_
  show mv_W md_RM_side 0 [.inr 47, .inl q, .inl 0, .inr 0] [] M (0, 0) Q
  refine mx_aload_n d_RM_side_0 rfl (by omega) ?_
  refine mx_gl d_RM_side_1 f_RM_79 hO rfl ?_
  refine mx_if_eq 13 d_RM_side_4 (by decide) (fun c4 => ?_) (fun c4 => ?_)
  · skip
    refine mx_iload_n d_RM_side_13 rfl ?_
    refine mx_istore_n d_RM_side_14 (by decide) ?_
    refine mx_iload_n d_RM_side_15 rfl ?_
    refine mx_bipush (64) d_RM_side_16 (by decide +kernel) (by unfold mv_r; omega) ?_
    refine mx_icmp_ge 34 d_RM_side_18 (by decide) (fun c18 => ?_) (fun c18 => ?_)
    · skip
      exfalso; omega
    · skip
      refine mx_aload_n d_RM_side_21 rfl (by omega) ?_
      refine mx_gl d_RM_side_22 f_RM_7 hO rfl ?_
      refine mx_iconst (4) d_RM_side_25 (by decide +kernel) (by unfold mv_r; omega) ?_
      refine mx_iload_n d_RM_side_26 rfl ?_
      refine mx_imul d_RM_side_27 (by unfold mv_r; omega) ?_
      refine mx_iload_n d_RM_side_28 rfl ?_
      refine mx_iadd d_RM_side_29 (by unfold mv_r; omega) ?_
      try simp only [Int.add_zero]
      refine mx_iald d_RM_side_30 hBox (by omega) (by omega) ?_
      refine mx_goto 47 d_RM_side_31 (by decide) ?_
      refine mx_ireturn d_RM_side_47 rfl ?_
      first | (rw [show bf_o wy (rf_l B) (rf_u B) q = rf_l B q from if_neg (by omega)] at k; exact k) | (rw [show bf_o wy (rf_l B) (rf_u B) q = rf_u B q from if_pos (by omega)] at k; exact k)
  · skip
    refine mx_iload_n d_RM_side_7 rfl ?_
    refine mx_iconst (1) d_RM_side_8 (by decide +kernel) (by unfold mv_r; omega) ?_
    refine mx_ixor (1) d_RM_side_9 (by decide +kernel) (by unfold mv_r; omega) ?_
    refine mx_goto 14 d_RM_side_10 (by decide) ?_
    refine mx_istore_n d_RM_side_14 (by decide) ?_
    refine mx_iload_n d_RM_side_15 rfl ?_
    refine mx_bipush (64) d_RM_side_16 (by decide +kernel) (by unfold mv_r; omega) ?_
    refine mx_icmp_ge 34 d_RM_side_18 (by decide) (fun c18 => ?_) (fun c18 => ?_)
    · skip
      exfalso; omega
    · skip
      refine mx_aload_n d_RM_side_21 rfl (by omega) ?_
      refine mx_gl d_RM_side_22 f_RM_7 hO rfl ?_
      refine mx_iconst (4) d_RM_side_25 (by decide +kernel) (by unfold mv_r; omega) ?_
      refine mx_iload_n d_RM_side_26 rfl ?_
      refine mx_imul d_RM_side_27 (by unfold mv_r; omega) ?_
      refine mx_iload_n d_RM_side_28 rfl ?_
      refine mx_iadd d_RM_side_29 (by unfold mv_r; omega) ?_
      try simp only [Int.add_zero]
      refine mx_iald d_RM_side_30 hBox (by omega) (by omega) ?_
      refine mx_goto 47 d_RM_side_31 (by decide) ?_
      refine mx_ireturn d_RM_side_47 rfl ?_
      first | (rw [show bf_o wy (rf_l B) (rf_u B) q = rf_l B q from if_neg (by omega)] at k; exact k) | (rw [show bf_o wy (rf_l B) (rf_u B) q = rf_u B q from if_pos (by omega)] at k; exact k)
theorem rf_sb1 {Q : List mv_V → mv_M → Prop} {M : mv_M} {co wi ta bo pa wy lc fo tu bl kl se ow : Int} (hO : rf_O M co wi ta bo pa wy lc fo tu bl kl se ow) (hwy : wy = 0 ∨ wy = 1) {B : Int → Int} (hBox : M.2 48 = .inl (256, B)) {q : Int} (q0 : 0 ≤ q) (q1 : q < 64) (k : Q [.inl (bf_o wy (rf_u B) (rf_l B) q)] M) : mv_J md_RM_side [.inr 47, .inl q, .inl 1] M Q := by
  refine mv_enter (by decide +kernel) (Nat.le_of_ble_eq_true rfl) ?_
  show mv_W md_RM_side 0 [.inr 47, .inl q, .inl 1, .inr 0] [] M (0, 0) Q
  refine mx_aload_n d_RM_side_0 rfl (by omega) ?_
  refine mx_gl d_RM_side_1 f_RM_79 hO rfl ?_
  refine mx_if_eq 13 d_RM_side_4 (by decide) (fun c4 => ?_) (fun c4 => ?_)
  · skip
    refine mx_iload_n d_RM_side_13 rfl ?_
    refine mx_istore_n d_RM_side_14 (by decide) ?_
    refine mx_iload_n d_RM_side_15 rfl ?_
    refine mx_bipush (64) d_RM_side_16 (by decide +kernel) (by unfold mv_r; omega) ?_
    refine mx_icmp_ge 34 d_RM_side_18 (by decide) (fun c18 => ?_) (fun c18 => ?_)
    · skip
      exfalso; omega
    · skip
      refine mx_aload_n d_RM_side_21 rfl (by omega) ?_
      refine mx_gl d_RM_side_22 f_RM_7 hO rfl ?_
      refine mx_iconst (4) d_RM_side_25 (by decide +kernel) (by unfold mv_r; omega) ?_
      refine mx_iload_n d_RM_side_26 rfl ?_
      refine mx_imul d_RM_side_27 (by unfold mv_r; omega) ?_
      refine mx_iload_n d_RM_side_28 rfl ?_
      refine mx_iadd d_RM_side_29 (by unfold mv_r; omega) ?_
      try simp only [Int.add_zero]
      refine mx_iald d_RM_side_30 hBox (by omega) (by omega) ?_
      refine mx_goto 47 d_RM_side_31 (by decide) ?_
      refine mx_ireturn d_RM_side_47 rfl ?_
      first | (rw [show bf_o wy (rf_u B) (rf_l B) q = rf_u B q from if_neg (by omega)] at k; exact k) | (rw [show bf_o wy (rf_u B) (rf_l B) q = rf_l B q from if_pos (by omega)] at k; exact k)
  · skip
    refine mx_iload_n d_RM_side_7 rfl ?_
    refine mx_iconst (1) d_RM_side_8 (by decide +kernel) (by unfold mv_r; omega) ?_
    refine mx_ixor (0) d_RM_side_9 (by decide +kernel) (by unfold mv_r; omega) ?_
    refine mx_goto 14 d_RM_side_10 (by decide) ?_
    refine mx_istore_n d_RM_side_14 (by decide) ?_
    refine mx_iload_n d_RM_side_15 rfl ?_
    refine mx_bipush (64) d_RM_side_16 (by decide +kernel) (by unfold mv_r; omega) ?_
    refine mx_icmp_ge 34 d_RM_side_18 (by decide) (fun c18 => ?_) (fun c18 => ?_)
    · skip
      exfalso; omega
    · skip
      refine mx_aload_n d_RM_side_21 rfl (by omega) ?_
      refine mx_gl d_RM_side_22 f_RM_7 hO rfl ?_
      refine mx_iconst (4) d_RM_side_25 (by decide +kernel) (by unfold mv_r; omega) ?_
      refine mx_iload_n d_RM_side_26 rfl ?_
      refine mx_imul d_RM_side_27 (by unfold mv_r; omega) ?_
      refine mx_iload_n d_RM_side_28 rfl ?_
      refine mx_iadd d_RM_side_29 (by unfold mv_r; omega) ?_
      try simp only [Int.add_zero]
      refine mx_iald d_RM_side_30 hBox (by omega) (by omega) ?_
      refine mx_goto 47 d_RM_side_31 (by decide) ?_
      refine mx_ireturn d_RM_side_47 rfl ?_
      first | (rw [show bf_o wy (rf_u B) (rf_l B) q = rf_u B q from if_neg (by omega)] at k; exact k) | (rw [show bf_o wy (rf_u B) (rf_l B) q = rf_l B q from if_pos (by omega)] at k; exact k)
theorem rf_sb2 {Q : List mv_V → mv_M → Prop} {M : mv_M} {co wi ta bo pa wy lc fo tu bl kl se ow : Int} (hO : rf_O M co wi ta bo pa wy lc fo tu bl kl se ow) (hwy : wy = 0 ∨ wy = 1) {B : Int → Int} (hBox : M.2 48 = .inl (256, B)) {q : Int} (q0 : 0 ≤ q) (q1 : q < 64) (k : Q [.inl (bf_o wy (rf_w B) (rf_h B) q)] M) : mv_J md_RM_side [.inr 47, .inl q, .inl 2] M Q := by
  refine mv_enter (by decide +kernel) (Nat.le_of_ble_eq_true rfl) ?_
  show mv_W md_RM_side 0 [.inr 47, .inl q, .inl 2, .inr 0] [] M (0, 0) Q
  refine mx_aload_n d_RM_side_0 rfl (by omega) ?_
  refine mx_gl d_RM_side_1 f_RM_79 hO rfl ?_
  refine mx_if_eq 13 d_RM_side_4 (by decide) (fun c4 => ?_) (fun c4 => ?_)
  · skip
    refine mx_iload_n d_RM_side_13 rfl ?_
    refine mx_istore_n d_RM_side_14 (by decide) ?_
    refine mx_iload_n d_RM_side_15 rfl ?_
    refine mx_bipush (64) d_RM_side_16 (by decide +kernel) (by unfold mv_r; omega) ?_
    refine mx_icmp_ge 34 d_RM_side_18 (by decide) (fun c18 => ?_) (fun c18 => ?_)
    · skip
      exfalso; omega
    · skip
      refine mx_aload_n d_RM_side_21 rfl (by omega) ?_
      refine mx_gl d_RM_side_22 f_RM_7 hO rfl ?_
      refine mx_iconst (4) d_RM_side_25 (by decide +kernel) (by unfold mv_r; omega) ?_
      refine mx_iload_n d_RM_side_26 rfl ?_
      refine mx_imul d_RM_side_27 (by unfold mv_r; omega) ?_
      refine mx_iload_n d_RM_side_28 rfl ?_
      refine mx_iadd d_RM_side_29 (by unfold mv_r; omega) ?_
      try simp only [Int.add_zero]
      refine mx_iald d_RM_side_30 hBox (by omega) (by omega) ?_
      refine mx_goto 47 d_RM_side_31 (by decide) ?_
      refine mx_ireturn d_RM_side_47 rfl ?_
      first | (rw [show bf_o wy (rf_w B) (rf_h B) q = rf_w B q from if_neg (by omega)] at k; exact k) | (rw [show bf_o wy (rf_w B) (rf_h B) q = rf_h B q from if_pos (by omega)] at k; exact k)
  · skip
    refine mx_iload_n d_RM_side_7 rfl ?_
    refine mx_iconst (1) d_RM_side_8 (by decide +kernel) (by unfold mv_r; omega) ?_
    refine mx_ixor (3) d_RM_side_9 (by decide +kernel) (by unfold mv_r; omega) ?_
    refine mx_goto 14 d_RM_side_10 (by decide) ?_
    refine mx_istore_n d_RM_side_14 (by decide) ?_
    refine mx_iload_n d_RM_side_15 rfl ?_
    refine mx_bipush (64) d_RM_side_16 (by decide +kernel) (by unfold mv_r; omega) ?_
    refine mx_icmp_ge 34 d_RM_side_18 (by decide) (fun c18 => ?_) (fun c18 => ?_)
    · skip
      exfalso; omega
    · skip
      refine mx_aload_n d_RM_side_21 rfl (by omega) ?_
      refine mx_gl d_RM_side_22 f_RM_7 hO rfl ?_
      refine mx_iconst (4) d_RM_side_25 (by decide +kernel) (by unfold mv_r; omega) ?_
      refine mx_iload_n d_RM_side_26 rfl ?_
      refine mx_imul d_RM_side_27 (by unfold mv_r; omega) ?_
      refine mx_iload_n d_RM_side_28 rfl ?_
      refine mx_iadd d_RM_side_29 (by unfold mv_r; omega) ?_
      try simp only [Int.add_zero]
      refine mx_iald d_RM_side_30 hBox (by omega) (by omega) ?_
      refine mx_goto 47 d_RM_side_31 (by decide) ?_
      refine mx_ireturn d_RM_side_47 rfl ?_
      first | (rw [show bf_o wy (rf_w B) (rf_h B) q = rf_w B q from if_neg (by omega)] at k; exact k) | (rw [show bf_o wy (rf_w B) (rf_h B) q = rf_h B q from if_pos (by omega)] at k; exact k)
theorem rf_sb3 {Q : List mv_V → mv_M → Prop} {M : mv_M} {co wi ta bo pa wy lc fo tu bl kl se ow : Int} (hO : rf_O M co wi ta bo pa wy lc fo tu bl kl se ow) (hwy : wy = 0 ∨ wy = 1) {B : Int → Int} (hBox : M.2 48 = .inl (256, B)) {q : Int} (q0 : 0 ≤ q) (q1 : q < 64) (k : Q [.inl (bf_o wy (rf_h B) (rf_w B) q)] M) : mv_J md_RM_side [.inr 47, .inl q, .inl 3] M Q := by
  refine mv_enter (by decide +kernel) (Nat.le_of_ble_eq_true rfl) ?_
  show mv_W md_RM_side 0 [.inr 47, .inl q, .inl 3, .inr 0] [] M (0, 0) Q
  refine mx_aload_n d_RM_side_0 rfl (by omega) ?_
  refine mx_gl d_RM_side_1 f_RM_79 hO rfl ?_
  refine mx_if_eq 13 d_RM_side_4 (by decide) (fun c4 => ?_) (fun c4 => ?_)
  · skip
    refine mx_iload_n d_RM_side_13 rfl ?_
    refine mx_istore_n d_RM_side_14 (by decide) ?_
    refine mx_iload_n d_RM_side_15 rfl ?_
    refine mx_bipush (64) d_RM_side_16 (by decide +kernel) (by unfold mv_r; omega) ?_
    refine mx_icmp_ge 34 d_RM_side_18 (by decide) (fun c18 => ?_) (fun c18 => ?_)
    · skip
      exfalso; omega
    · skip
      refine mx_aload_n d_RM_side_21 rfl (by omega) ?_
      refine mx_gl d_RM_side_22 f_RM_7 hO rfl ?_
      refine mx_iconst (4) d_RM_side_25 (by decide +kernel) (by unfold mv_r; omega) ?_
      refine mx_iload_n d_RM_side_26 rfl ?_
      refine mx_imul d_RM_side_27 (by unfold mv_r; omega) ?_
      refine mx_iload_n d_RM_side_28 rfl ?_
      refine mx_iadd d_RM_side_29 (by unfold mv_r; omega) ?_
      try simp only [Int.add_zero]
      refine mx_iald d_RM_side_30 hBox (by omega) (by omega) ?_
      refine mx_goto 47 d_RM_side_31 (by decide) ?_
      refine mx_ireturn d_RM_side_47 rfl ?_
      first | (rw [show bf_o wy (rf_h B) (rf_w B) q = rf_h B q from if_neg (by omega)] at k; exact k) | (rw [show bf_o wy (rf_h B) (rf_w B) q = rf_w B q from if_pos (by omega)] at k; exact k)
  · skip
    refine mx_iload_n d_RM_side_7 rfl ?_
    refine mx_iconst (1) d_RM_side_8 (by decide +kernel) (by unfold mv_r; omega) ?_
    refine mx_ixor (2) d_RM_side_9 (by decide +kernel) (by unfold mv_r; omega) ?_
    refine mx_goto 14 d_RM_side_10 (by decide) ?_
    refine mx_istore_n d_RM_side_14 (by decide) ?_
    refine mx_iload_n d_RM_side_15 rfl ?_
    refine mx_bipush (64) d_RM_side_16 (by decide +kernel) (by unfold mv_r; omega) ?_
    refine mx_icmp_ge 34 d_RM_side_18 (by decide) (fun c18 => ?_) (fun c18 => ?_)
    · skip
      exfalso; omega
    · skip
      refine mx_aload_n d_RM_side_21 rfl (by omega) ?_
      refine mx_gl d_RM_side_22 f_RM_7 hO rfl ?_
      refine mx_iconst (4) d_RM_side_25 (by decide +kernel) (by unfold mv_r; omega) ?_
      refine mx_iload_n d_RM_side_26 rfl ?_
      refine mx_imul d_RM_side_27 (by unfold mv_r; omega) ?_
      refine mx_iload_n d_RM_side_28 rfl ?_
      refine mx_iadd d_RM_side_29 (by unfold mv_r; omega) ?_
      try simp only [Int.add_zero]
      refine mx_iald d_RM_side_30 hBox (by omega) (by omega) ?_
      refine mx_goto 47 d_RM_side_31 (by decide) ?_
      refine mx_ireturn d_RM_side_47 rfl ?_
      first | (rw [show bf_o wy (rf_h B) (rf_w B) q = rf_h B q from if_neg (by omega)] at k; exact k) | (rw [show bf_o wy (rf_h B) (rf_w B) q = rf_w B q from if_pos (by omega)] at k; exact k)
theorem rf_left_b {Q : List mv_V → mv_M → Prop} {M : mv_M} {co wi ta bo pa wy lc fo tu bl kl se ow : Int} (hO : rf_O M co wi ta bo pa wy lc fo tu bl kl se ow) (hwy : wy = 0 ∨ wy = 1) {B : Int → Int} (hBox : M.2 48 = .inl (256, B)) {q : Int} (q0 : 0 ≤ q) (q1 : q < 64) (k : Q [.inl (bf_o wy (rf_l B) (rf_u B) q)] M) : mv_J md_RM_left [.inr 47, .inl q] M Q := by
  refine mv_enter (by decide +kernel) (Nat.le_of_ble_eq_true rfl) ?_
  show mv_W md_RM_left 0 [.inr 47, .inl q] [] M (0, 0) Q
  refine mx_aload_n d_RM_left_0 rfl (by omega) ?_
  refine mx_iload_n d_RM_left_1 rfl ?_
  refine mx_iconst (0) d_RM_left_2 (by decide +kernel) (by unfold mv_r; omega) ?_
  refine mx_cV2 d_RM_left_3 c_RM_83 hO (by decide) (Nat.le_of_ble_eq_true rfl) ?_
  refine rf_sb0 hO hwy hBox q0 q1 ?_
  refine mx_ireturn d_RM_left_6 rfl ?_
  exact k
theorem rf_upper_b {Q : List mv_V → mv_M → Prop} {M : mv_M} {co wi ta bo pa wy lc fo tu bl kl se ow : Int} (hO : rf_O M co wi ta bo pa wy lc fo tu bl kl se ow) (hwy : wy = 0 ∨ wy = 1) {B : Int → Int} (hBox : M.2 48 = .inl (256, B)) {q : Int} (q0 : 0 ≤ q) (q1 : q < 64) (k : Q [.inl (bf_o wy (rf_u B) (rf_l B) q)] M) : mv_J md_RM_upper [.inr 47, .inl q] M Q := by
  refine mv_enter (by decide +kernel) (Nat.le_of_ble_eq_true rfl) ?_
  show mv_W md_RM_upper 0 [.inr 47, .inl q] [] M (0, 0) Q
  refine mx_aload_n d_RM_upper_0 rfl (by omega) ?_
  refine mx_iload_n d_RM_upper_1 rfl ?_
  refine mx_iconst (1) d_RM_upper_2 (by decide +kernel) (by unfold mv_r; omega) ?_
  refine mx_cV2 d_RM_upper_3 c_RM_83 hO (by decide) (Nat.le_of_ble_eq_true rfl) ?_
  refine rf_sb1 hO hwy hBox q0 q1 ?_
  refine mx_ireturn d_RM_upper_6 rfl ?_
  exact k
theorem rf_high_b {Q : List mv_V → mv_M → Prop} {M : mv_M} {co wi ta bo pa wy lc fo tu bl kl se ow : Int} (hO : rf_O M co wi ta bo pa wy lc fo tu bl kl se ow) (hwy : wy = 0 ∨ wy = 1) {B : Int → Int} (hBox : M.2 48 = .inl (256, B)) {q : Int} (q0 : 0 ≤ q) (q1 : q < 64) (k : Q [.inl (bf_o wy (rf_d B) (rf_r B) q - bf_o wy (rf_u B) (rf_l B) q)] M) : mv_J md_RM_high [.inr 47, .inl q] M Q := by
  refine mv_enter (by decide +kernel) (Nat.le_of_ble_eq_true rfl) ?_
  show mv_W md_RM_high 0 [.inr 47, .inl q] [] M (0, 0) Q
  refine mx_aload_n d_RM_high_0 rfl (by omega) ?_
  refine mx_iload_n d_RM_high_1 rfl ?_
  refine mx_iconst (3) d_RM_high_2 (by decide +kernel) (by unfold mv_r; omega) ?_
  refine mx_cV2 d_RM_high_3 c_RM_83 hO (by decide) (Nat.le_of_ble_eq_true rfl) ?_
  refine rf_sb3 hO hwy hBox q0 q1 ?_
  refine mx_ireturn d_RM_high_6 rfl ?_
  rw [rf_oh]
  exact k
theorem rf_right_b {Q : List mv_V → mv_M → Prop} {M : mv_M} {co wi ta bo pa wy lc fo tu bl kl se ow : Int} (hO : rf_O M co wi ta bo pa wy lc fo tu bl kl se ow) (hwy : wy = 0 ∨ wy = 1) {B : Int → Int} (hBox : M.2 48 = .inl (256, B)) {q : Int} (q0 : 0 ≤ q) (q1 : q < 64) {cnt : Int} (hok : rf_ok cnt B) (q2 : q < cnt) (k : Q [.inl (bf_o wy (rf_r B) (rf_d B) q)] M) : mv_J md_RM_right [.inr 47, .inl q] M Q := by
  refine mv_enter (by decide +kernel) (Nat.le_of_ble_eq_true rfl) ?_
  show mv_W md_RM_right 0 [.inr 47, .inl q] [] M (0, 0) Q
  have hbo := bf_ob hok q0 q2 wy
  have hr1 := rf_or (t := wy) (A := B) (q := q)
  have hr2 := rf_od (t := wy) (A := B) (q := q)
  refine mx_aload_n d_RM_right_0 rfl (by omega) ?_
  refine mx_iload_n d_RM_right_1 rfl ?_
  refine mx_iconst (0) d_RM_right_2 (by decide +kernel) (by unfold mv_r; omega) ?_
  refine mx_cV2 d_RM_right_3 c_RM_83 hO (by decide) (Nat.le_of_ble_eq_true rfl) ?_
  refine rf_sb0 hO hwy hBox q0 q1 ?_
  refine mx_aload_n d_RM_right_6 rfl (by omega) ?_
  refine mx_iload_n d_RM_right_7 rfl ?_
  refine mx_iconst (2) d_RM_right_8 (by decide +kernel) (by unfold mv_r; omega) ?_
  refine mx_cV2 d_RM_right_9 c_RM_83 hO (by decide) (Nat.le_of_ble_eq_true rfl) ?_
  refine rf_sb2 hO hwy hBox q0 q1 ?_
  refine mx_iadd d_RM_right_12 (by unfold mv_r; omega) ?_
  refine mx_ireturn d_RM_right_13 rfl ?_
  rw [rf_or]
  exact k
theorem rf_lower_b {Q : List mv_V → mv_M → Prop} {M : mv_M} {co wi ta bo pa wy lc fo tu bl kl se ow : Int} (hO : rf_O M co wi ta bo pa wy lc fo tu bl kl se ow) (hwy : wy = 0 ∨ wy = 1) {B : Int → Int} (hBox : M.2 48 = .inl (256, B)) {q : Int} (q0 : 0 ≤ q) (q1 : q < 64) {cnt : Int} (hok : rf_ok cnt B) (q2 : q < cnt) (k : Q [.inl (bf_o wy (rf_d B) (rf_r B) q)] M) : mv_J md_RM_lower [.inr 47, .inl q] M Q := by
  refine mv_enter (by decide +kernel) (Nat.le_of_ble_eq_true rfl) ?_
  show mv_W md_RM_lower 0 [.inr 47, .inl q] [] M (0, 0) Q
  have hbo := bf_ob hok q0 q2 wy
  have hr1 := rf_or (t := wy) (A := B) (q := q)
  have hr2 := rf_od (t := wy) (A := B) (q := q)
  refine mx_aload_n d_RM_lower_0 rfl (by omega) ?_
  refine mx_iload_n d_RM_lower_1 rfl ?_
  refine mx_iconst (1) d_RM_lower_2 (by decide +kernel) (by unfold mv_r; omega) ?_
  refine mx_cV2 d_RM_lower_3 c_RM_83 hO (by decide) (Nat.le_of_ble_eq_true rfl) ?_
  refine rf_sb1 hO hwy hBox q0 q1 ?_
  refine mx_aload_n d_RM_lower_6 rfl (by omega) ?_
  refine mx_iload_n d_RM_lower_7 rfl ?_
  refine mx_iconst (3) d_RM_lower_8 (by decide +kernel) (by unfold mv_r; omega) ?_
  refine mx_cV2 d_RM_lower_9 c_RM_83 hO (by decide) (Nat.le_of_ble_eq_true rfl) ?_
  refine rf_sb3 hO hwy hBox q0 q1 ?_
  refine mx_iadd d_RM_lower_12 (by unfold mv_r; omega) ?_
  refine mx_ireturn d_RM_lower_13 rfl ?_
  rw [rf_od]
  exact k
theorem rf_sl0 {Q : List mv_V → mv_M → Prop} {M : mv_M} {co wi ta bo pa wy lc fo tu bl kl se ow : Int} (hO : rf_O M co wi ta bo pa wy lc fo tu bl kl se ow) (hwy : wy = 0 ∨ wy = 1) {L : Int → Int} (hLin : M.2 51 = .inl (256, L)) {q : Int} (q0 : 0 ≤ q) (q1 : q < 64) (k : Q [.inl (bf_o wy (rf_l L) (rf_u L) q)] M) : mv_J md_RM_side [.inr 47, .inl (64 + q), .inl 0] M Q := by
  refine mv_enter (by decide +kernel) (Nat.le_of_ble_eq_true rfl) ?_
  show mv_W md_RM_side 0 [.inr 47, .inl (64 + q), .inl 0, .inr 0] [] M (0, 0) Q
  refine mx_aload_n d_RM_side_0 rfl (by omega) ?_
  refine mx_gl d_RM_side_1 f_RM_79 hO rfl ?_
  refine mx_if_eq 13 d_RM_side_4 (by decide) (fun c4 => ?_) (fun c4 => ?_)
  · skip
    refine mx_iload_n d_RM_side_13 rfl ?_
    refine mx_istore_n d_RM_side_14 (by decide) ?_
    refine mx_iload_n d_RM_side_15 rfl ?_
    refine mx_bipush (64) d_RM_side_16 (by decide +kernel) (by unfold mv_r; omega) ?_
    refine mx_icmp_ge 34 d_RM_side_18 (by decide) (fun c18 => ?_) (fun c18 => ?_)
    · skip
      refine mx_aload_n d_RM_side_34 rfl (by omega) ?_
      refine mx_gl d_RM_side_35 f_RM_19 hO rfl ?_
      refine mx_iconst (4) d_RM_side_38 (by decide +kernel) (by unfold mv_r; omega) ?_
      refine mx_iload_n d_RM_side_39 rfl ?_
      refine mx_bipush (64) d_RM_side_40 (by decide +kernel) (by unfold mv_r; omega) ?_
      refine mx_isub d_RM_side_42 (by unfold mv_r; omega) ?_
      rw [show 64 + q - 64 = q by omega]
      refine mx_imul d_RM_side_43 (by unfold mv_r; omega) ?_
      refine mx_iload_n d_RM_side_44 rfl ?_
      refine mx_iadd d_RM_side_45 (by unfold mv_r; omega) ?_
      try simp only [Int.add_zero]
      refine mx_iald d_RM_side_46 hLin (by omega) (by omega) ?_
      refine mx_ireturn d_RM_side_47 rfl ?_
      first | (rw [show bf_o wy (rf_l L) (rf_u L) q = rf_l L q from if_neg (by omega)] at k; exact k) | (rw [show bf_o wy (rf_l L) (rf_u L) q = rf_u L q from if_pos (by omega)] at k; exact k)
    · skip
      exfalso; omega
  · skip
    refine mx_iload_n d_RM_side_7 rfl ?_
    refine mx_iconst (1) d_RM_side_8 (by decide +kernel) (by unfold mv_r; omega) ?_
    refine mx_ixor (1) d_RM_side_9 (by decide +kernel) (by unfold mv_r; omega) ?_
    refine mx_goto 14 d_RM_side_10 (by decide) ?_
    refine mx_istore_n d_RM_side_14 (by decide) ?_
    refine mx_iload_n d_RM_side_15 rfl ?_
    refine mx_bipush (64) d_RM_side_16 (by decide +kernel) (by unfold mv_r; omega) ?_
    refine mx_icmp_ge 34 d_RM_side_18 (by decide) (fun c18 => ?_) (fun c18 => ?_)
    · skip
      refine mx_aload_n d_RM_side_34 rfl (by omega) ?_
      refine mx_gl d_RM_side_35 f_RM_19 hO rfl ?_
      refine mx_iconst (4) d_RM_side_38 (by decide +kernel) (by unfold mv_r; omega) ?_
      refine mx_iload_n d_RM_side_39 rfl ?_
      refine mx_bipush (64) d_RM_side_40 (by decide +kernel) (by unfold mv_r; omega) ?_
      refine mx_isub d_RM_side_42 (by unfold mv_r; omega) ?_
      rw [show 64 + q - 64 = q by omega]
      refine mx_imul d_RM_side_43 (by unfold mv_r; omega) ?_
      refine mx_iload_n d_RM_side_44 rfl ?_
      refine mx_iadd d_RM_side_45 (by unfold mv_r; omega) ?_
      try simp only [Int.add_zero]
      refine mx_iald d_RM_side_46 hLin (by omega) (by omega) ?_
      refine mx_ireturn d_RM_side_47 rfl ?_
      first | (rw [show bf_o wy (rf_l L) (rf_u L) q = rf_l L q from if_neg (by omega)] at k; exact k) | (rw [show bf_o wy (rf_l L) (rf_u L) q = rf_u L q from if_pos (by omega)] at k; exact k)
    · skip
      exfalso; omega
theorem rf_sl1 {Q : List mv_V → mv_M → Prop} {M : mv_M} {co wi ta bo pa wy lc fo tu bl kl se ow : Int} (hO : rf_O M co wi ta bo pa wy lc fo tu bl kl se ow) (hwy : wy = 0 ∨ wy = 1) {L : Int → Int} (hLin : M.2 51 = .inl (256, L)) {q : Int} (q0 : 0 ≤ q) (q1 : q < 64) (k : Q [.inl (bf_o wy (rf_u L) (rf_l L) q)] M) : mv_J md_RM_side [.inr 47, .inl (64 + q), .inl 1] M Q := by
  refine mv_enter (by decide +kernel) (Nat.le_of_ble_eq_true rfl) ?_
  show mv_W md_RM_side 0 [.inr 47, .inl (64 + q), .inl 1, .inr 0] [] M (0, 0) Q
  refine mx_aload_n d_RM_side_0 rfl (by omega) ?_
  refine mx_gl d_RM_side_1 f_RM_79 hO rfl ?_
  refine mx_if_eq 13 d_RM_side_4 (by decide) (fun c4 => ?_) (fun c4 => ?_)
  · skip
    refine mx_iload_n d_RM_side_13 rfl ?_
    refine mx_istore_n d_RM_side_14 (by decide) ?_
    refine mx_iload_n d_RM_side_15 rfl ?_
    refine mx_bipush (64) d_RM_side_16 (by decide +kernel) (by unfold mv_r; omega) ?_
    refine mx_icmp_ge 34 d_RM_side_18 (by decide) (fun c18 => ?_) (fun c18 => ?_)
    · skip
      refine mx_aload_n d_RM_side_34 rfl (by omega) ?_
      refine mx_gl d_RM_side_35 f_RM_19 hO rfl ?_
      refine mx_iconst (4) d_RM_side_38 (by decide +kernel) (by unfold mv_r; omega) ?_
      refine mx_iload_n d_RM_side_39 rfl ?_
      refine mx_bipush (64) d_RM_side_40 (by decide +kernel) (by unfold mv_r; omega) ?_
      refine mx_isub d_RM_side_42 (by unfold mv_r; omega) ?_
      rw [show 64 + q - 64 = q by omega]
      refine mx_imul d_RM_side_43 (by unfold mv_r; omega) ?_
      refine mx_iload_n d_RM_side_44 rfl ?_
      refine mx_iadd d_RM_side_45 (by unfold mv_r; omega) ?_
      try simp only [Int.add_zero]
      refine mx_iald d_RM_side_46 hLin (by omega) (by omega) ?_
      refine mx_ireturn d_RM_side_47 rfl ?_
      first | (rw [show bf_o wy (rf_u L) (rf_l L) q = rf_u L q from if_neg (by omega)] at k; exact k) | (rw [show bf_o wy (rf_u L) (rf_l L) q = rf_l L q from if_pos (by omega)] at k; exact k)
    · skip
      exfalso; omega
  · skip
    refine mx_iload_n d_RM_side_7 rfl ?_
    refine mx_iconst (1) d_RM_side_8 (by decide +kernel) (by unfold mv_r; omega) ?_
    refine mx_ixor (0) d_RM_side_9 (by decide +kernel) (by unfold mv_r; omega) ?_
    refine mx_goto 14 d_RM_side_10 (by decide) ?_
    refine mx_istore_n d_RM_side_14 (by decide) ?_
    refine mx_iload_n d_RM_side_15 rfl ?_
    refine mx_bipush (64) d_RM_side_16 (by decide +kernel) (by unfold mv_r; omega) ?_
    refine mx_icmp_ge 34 d_RM_side_18 (by decide) (fun c18 => ?_) (fun c18 => ?_)
    · skip
      refine mx_aload_n d_RM_side_34 rfl (by omega) ?_
      refine mx_gl d_RM_side_35 f_RM_19 hO rfl ?_
      refine mx_iconst (4) d_RM_side_38 (by decide +kernel) (by unfold mv_r; omega) ?_
      refine mx_iload_n d_RM_side_39 rfl ?_
      refine mx_bipush (64) d_RM_side_40 (by decide +kernel) (by unfold mv_r; omega) ?_
      refine mx_isub d_RM_side_42 (by unfold mv_r; omega) ?_
      rw [show 64 + q - 64 = q by omega]
      refine mx_imul d_RM_side_43 (by unfold mv_r; omega) ?_
      refine mx_iload_n d_RM_side_44 rfl ?_
      refine mx_iadd d_RM_side_45 (by unfold mv_r; omega) ?_
      try simp only [Int.add_zero]
      refine mx_iald d_RM_side_46 hLin (by omega) (by omega) ?_
      refine mx_ireturn d_RM_side_47 rfl ?_
      first | (rw [show bf_o wy (rf_u L) (rf_l L) q = rf_u L q from if_neg (by omega)] at k; exact k) | (rw [show bf_o wy (rf_u L) (rf_l L) q = rf_l L q from if_pos (by omega)] at k; exact k)
    · skip
      exfalso; omega
theorem rf_sl2 {Q : List mv_V → mv_M → Prop} {M : mv_M} {co wi ta bo pa wy lc fo tu bl kl se ow : Int} (hO : rf_O M co wi ta bo pa wy lc fo tu bl kl se ow) (hwy : wy = 0 ∨ wy = 1) {L : Int → Int} (hLin : M.2 51 = .inl (256, L)) {q : Int} (q0 : 0 ≤ q) (q1 : q < 64) (k : Q [.inl (bf_o wy (rf_w L) (rf_h L) q)] M) : mv_J md_RM_side [.inr 47, .inl (64 + q), .inl 2] M Q := by
  refine mv_enter (by decide +kernel) (Nat.le_of_ble_eq_true rfl) ?_
  show mv_W md_RM_side 0 [.inr 47, .inl (64 + q), .inl 2, .inr 0] [] M (0, 0) Q
  refine mx_aload_n d_RM_side_0 rfl (by omega) ?_
  refine mx_gl d_RM_side_1 f_RM_79 hO rfl ?_
  refine mx_if_eq 13 d_RM_side_4 (by decide) (fun c4 => ?_) (fun c4 => ?_)
  · skip
    refine mx_iload_n d_RM_side_13 rfl ?_
    refine mx_istore_n d_RM_side_14 (by decide) ?_
    refine mx_iload_n d_RM_side_15 rfl ?_
    refine mx_bipush (64) d_RM_side_16 (by decide +kernel) (by unfold mv_r; omega) ?_
    refine mx_icmp_ge 34 d_RM_side_18 (by decide) (fun c18 => ?_) (fun c18 => ?_)
    · skip
      refine mx_aload_n d_RM_side_34 rfl (by omega) ?_
      refine mx_gl d_RM_side_35 f_RM_19 hO rfl ?_
      refine mx_iconst (4) d_RM_side_38 (by decide +kernel) (by unfold mv_r; omega) ?_
      refine mx_iload_n d_RM_side_39 rfl ?_
      refine mx_bipush (64) d_RM_side_40 (by decide +kernel) (by unfold mv_r; omega) ?_
      refine mx_isub d_RM_side_42 (by unfold mv_r; omega) ?_
      rw [show 64 + q - 64 = q by omega]
      refine mx_imul d_RM_side_43 (by unfold mv_r; omega) ?_
      refine mx_iload_n d_RM_side_44 rfl ?_
      refine mx_iadd d_RM_side_45 (by unfold mv_r; omega) ?_
      try simp only [Int.add_zero]
      refine mx_iald d_RM_side_46 hLin (by omega) (by omega) ?_
      refine mx_ireturn d_RM_side_47 rfl ?_
      first | (rw [show bf_o wy (rf_w L) (rf_h L) q = rf_w L q from if_neg (by omega)] at k; exact k) | (rw [show bf_o wy (rf_w L) (rf_h L) q = rf_h L q from if_pos (by omega)] at k; exact k)
    · skip
      exfalso; omega
  · skip
    refine mx_iload_n d_RM_side_7 rfl ?_
    refine mx_iconst (1) d_RM_side_8 (by decide +kernel) (by unfold mv_r; omega) ?_
    refine mx_ixor (3) d_RM_side_9 (by decide +kernel) (by unfold mv_r; omega) ?_
    refine mx_goto 14 d_RM_side_10 (by decide) ?_
    refine mx_istore_n d_RM_side_14 (by decide) ?_
    refine mx_iload_n d_RM_side_15 rfl ?_
    refine mx_bipush (64) d_RM_side_16 (by decide +kernel) (by unfold mv_r; omega) ?_
    refine mx_icmp_ge 34 d_RM_side_18 (by decide) (fun c18 => ?_) (fun c18 => ?_)
    · skip
      refine mx_aload_n d_RM_side_34 rfl (by omega) ?_
      refine mx_gl d_RM_side_35 f_RM_19 hO rfl ?_
      refine mx_iconst (4) d_RM_side_38 (by decide +kernel) (by unfold mv_r; omega) ?_
      refine mx_iload_n d_RM_side_39 rfl ?_
      refine mx_bipush (64) d_RM_side_40 (by decide +kernel) (by unfold mv_r; omega) ?_
      refine mx_isub d_RM_side_42 (by unfold mv_r; omega) ?_
      rw [show 64 + q - 64 = q by omega]
      refine mx_imul d_RM_side_43 (by unfold mv_r; omega) ?_
      refine mx_iload_n d_RM_side_44 rfl ?_
      refine mx_iadd d_RM_side_45 (by unfold mv_r; omega) ?_
      try simp only [Int.add_zero]
      refine mx_iald d_RM_side_46 hLin (by omega) (by omega) ?_
      refine mx_ireturn d_RM_side_47 rfl ?_
      first | (rw [show bf_o wy (rf_w L) (rf_h L) q = rf_w L q from if_neg (by omega)] at k; exact k) | (rw [show bf_o wy (rf_w L) (rf_h L) q = rf_h L q from if_pos (by omega)] at k; exact k)
    · skip
      exfalso; omega
theorem rf_sl3 {Q : List mv_V → mv_M → Prop} {M : mv_M} {co wi ta bo pa wy lc fo tu bl kl se ow : Int} (hO : rf_O M co wi ta bo pa wy lc fo tu bl kl se ow) (hwy : wy = 0 ∨ wy = 1) {L : Int → Int} (hLin : M.2 51 = .inl (256, L)) {q : Int} (q0 : 0 ≤ q) (q1 : q < 64) (k : Q [.inl (bf_o wy (rf_h L) (rf_w L) q)] M) : mv_J md_RM_side [.inr 47, .inl (64 + q), .inl 3] M Q := by
  refine mv_enter (by decide +kernel) (Nat.le_of_ble_eq_true rfl) ?_
  show mv_W md_RM_side 0 [.inr 47, .inl (64 + q), .inl 3, .inr 0] [] M (0, 0) Q
  refine mx_aload_n d_RM_side_0 rfl (by omega) ?_
  refine mx_gl d_RM_side_1 f_RM_79 hO rfl ?_
  refine mx_if_eq 13 d_RM_side_4 (by decide) (fun c4 => ?_) (fun c4 => ?_)
  · skip
    refine mx_iload_n d_RM_side_13 rfl ?_
    refine mx_istore_n d_RM_side_14 (by decide) ?_
    refine mx_iload_n d_RM_side_15 rfl ?_
    refine mx_bipush (64) d_RM_side_16 (by decide +kernel) (by unfold mv_r; omega) ?_
    refine mx_icmp_ge 34 d_RM_side_18 (by decide) (fun c18 => ?_) (fun c18 => ?_)
    · skip
      refine mx_aload_n d_RM_side_34 rfl (by omega) ?_
      refine mx_gl d_RM_side_35 f_RM_19 hO rfl ?_
      refine mx_iconst (4) d_RM_side_38 (by decide +kernel) (by unfold mv_r; omega) ?_
      refine mx_iload_n d_RM_side_39 rfl ?_
      refine mx_bipush (64) d_RM_side_40 (by decide +kernel) (by unfold mv_r; omega) ?_
      refine mx_isub d_RM_side_42 (by unfold mv_r; omega) ?_
      rw [show 64 + q - 64 = q by omega]
      refine mx_imul d_RM_side_43 (by unfold mv_r; omega) ?_
      refine mx_iload_n d_RM_side_44 rfl ?_
      refine mx_iadd d_RM_side_45 (by unfold mv_r; omega) ?_
      try simp only [Int.add_zero]
      refine mx_iald d_RM_side_46 hLin (by omega) (by omega) ?_
      refine mx_ireturn d_RM_side_47 rfl ?_
      first | (rw [show bf_o wy (rf_h L) (rf_w L) q = rf_h L q from if_neg (by omega)] at k; exact k) | (rw [show bf_o wy (rf_h L) (rf_w L) q = rf_w L q from if_pos (by omega)] at k; exact k)
    · skip
      exfalso; omega
  · skip
    refine mx_iload_n d_RM_side_7 rfl ?_
    refine mx_iconst (1) d_RM_side_8 (by decide +kernel) (by unfold mv_r; omega) ?_
    refine mx_ixor (2) d_RM_side_9 (by decide +kernel) (by unfold mv_r; omega) ?_
    refine mx_goto 14 d_RM_side_10 (by decide) ?_
    refine mx_istore_n d_RM_side_14 (by decide) ?_
    refine mx_iload_n d_RM_side_15 rfl ?_
    refine mx_bipush (64) d_RM_side_16 (by decide +kernel) (by unfold mv_r; omega) ?_
    refine mx_icmp_ge 34 d_RM_side_18 (by decide) (fun c18 => ?_) (fun c18 => ?_)
    · skip
      refine mx_aload_n d_RM_side_34 rfl (by omega) ?_
      refine mx_gl d_RM_side_35 f_RM_19 hO rfl ?_
      refine mx_iconst (4) d_RM_side_38 (by decide +kernel) (by unfold mv_r; omega) ?_
      refine mx_iload_n d_RM_side_39 rfl ?_
      refine mx_bipush (64) d_RM_side_40 (by decide +kernel) (by unfold mv_r; omega) ?_
      refine mx_isub d_RM_side_42 (by unfold mv_r; omega) ?_
      rw [show 64 + q - 64 = q by omega]
      refine mx_imul d_RM_side_43 (by unfold mv_r; omega) ?_
      refine mx_iload_n d_RM_side_44 rfl ?_
      refine mx_iadd d_RM_side_45 (by unfold mv_r; omega) ?_
      try simp only [Int.add_zero]
      refine mx_iald d_RM_side_46 hLin (by omega) (by omega) ?_
      refine mx_ireturn d_RM_side_47 rfl ?_
      first | (rw [show bf_o wy (rf_h L) (rf_w L) q = rf_h L q from if_neg (by omega)] at k; exact k) | (rw [show bf_o wy (rf_h L) (rf_w L) q = rf_w L q from if_pos (by omega)] at k; exact k)
    · skip
      exfalso; omega
theorem rf_left_l {Q : List mv_V → mv_M → Prop} {M : mv_M} {co wi ta bo pa wy lc fo tu bl kl se ow : Int} (hO : rf_O M co wi ta bo pa wy lc fo tu bl kl se ow) (hwy : wy = 0 ∨ wy = 1) {L : Int → Int} (hLin : M.2 51 = .inl (256, L)) {q : Int} (q0 : 0 ≤ q) (q1 : q < 64) (k : Q [.inl (bf_o wy (rf_l L) (rf_u L) q)] M) : mv_J md_RM_left [.inr 47, .inl (64 + q)] M Q := by
  refine mv_enter (by decide +kernel) (Nat.le_of_ble_eq_true rfl) ?_
  show mv_W md_RM_left 0 [.inr 47, .inl (64 + q)] [] M (0, 0) Q
  refine mx_aload_n d_RM_left_0 rfl (by omega) ?_
  refine mx_iload_n d_RM_left_1 rfl ?_
  refine mx_iconst (0) d_RM_left_2 (by decide +kernel) (by unfold mv_r; omega) ?_
  refine mx_cV2 d_RM_left_3 c_RM_83 hO (by decide) (Nat.le_of_ble_eq_true rfl) ?_
  refine rf_sl0 hO hwy hLin q0 q1 ?_
  refine mx_ireturn d_RM_left_6 rfl ?_
  exact k
theorem rf_upper_l {Q : List mv_V → mv_M → Prop} {M : mv_M} {co wi ta bo pa wy lc fo tu bl kl se ow : Int} (hO : rf_O M co wi ta bo pa wy lc fo tu bl kl se ow) (hwy : wy = 0 ∨ wy = 1) {L : Int → Int} (hLin : M.2 51 = .inl (256, L)) {q : Int} (q0 : 0 ≤ q) (q1 : q < 64) (k : Q [.inl (bf_o wy (rf_u L) (rf_l L) q)] M) : mv_J md_RM_upper [.inr 47, .inl (64 + q)] M Q := by
  refine mv_enter (by decide +kernel) (Nat.le_of_ble_eq_true rfl) ?_
  show mv_W md_RM_upper 0 [.inr 47, .inl (64 + q)] [] M (0, 0) Q
  refine mx_aload_n d_RM_upper_0 rfl (by omega) ?_
  refine mx_iload_n d_RM_upper_1 rfl ?_
  refine mx_iconst (1) d_RM_upper_2 (by decide +kernel) (by unfold mv_r; omega) ?_
  refine mx_cV2 d_RM_upper_3 c_RM_83 hO (by decide) (Nat.le_of_ble_eq_true rfl) ?_
  refine rf_sl1 hO hwy hLin q0 q1 ?_
  refine mx_ireturn d_RM_upper_6 rfl ?_
  exact k
theorem rf_high_l {Q : List mv_V → mv_M → Prop} {M : mv_M} {co wi ta bo pa wy lc fo tu bl kl se ow : Int} (hO : rf_O M co wi ta bo pa wy lc fo tu bl kl se ow) (hwy : wy = 0 ∨ wy = 1) {L : Int → Int} (hLin : M.2 51 = .inl (256, L)) {q : Int} (q0 : 0 ≤ q) (q1 : q < 64) (k : Q [.inl (bf_o wy (rf_d L) (rf_r L) q - bf_o wy (rf_u L) (rf_l L) q)] M) : mv_J md_RM_high [.inr 47, .inl (64 + q)] M Q := by
  refine mv_enter (by decide +kernel) (Nat.le_of_ble_eq_true rfl) ?_
  show mv_W md_RM_high 0 [.inr 47, .inl (64 + q)] [] M (0, 0) Q
  refine mx_aload_n d_RM_high_0 rfl (by omega) ?_
  refine mx_iload_n d_RM_high_1 rfl ?_
  refine mx_iconst (3) d_RM_high_2 (by decide +kernel) (by unfold mv_r; omega) ?_
  refine mx_cV2 d_RM_high_3 c_RM_83 hO (by decide) (Nat.le_of_ble_eq_true rfl) ?_
  refine rf_sl3 hO hwy hLin q0 q1 ?_
  refine mx_ireturn d_RM_high_6 rfl ?_
  rw [rf_oh]
  exact k
theorem rf_right_l {Q : List mv_V → mv_M → Prop} {M : mv_M} {co wi ta bo pa wy lc fo tu bl kl se ow : Int} (hO : rf_O M co wi ta bo pa wy lc fo tu bl kl se ow) (hwy : wy = 0 ∨ wy = 1) {L : Int → Int} (hLin : M.2 51 = .inl (256, L)) {q : Int} (q0 : 0 ≤ q) (q1 : q < 64) {cnt : Int} (hok : rf_ok cnt L) (q2 : q < cnt) (k : Q [.inl (bf_o wy (rf_r L) (rf_d L) q)] M) : mv_J md_RM_right [.inr 47, .inl (64 + q)] M Q := by
  refine mv_enter (by decide +kernel) (Nat.le_of_ble_eq_true rfl) ?_
  show mv_W md_RM_right 0 [.inr 47, .inl (64 + q)] [] M (0, 0) Q
  have hbo := bf_ob hok q0 q2 wy
  have hr1 := rf_or (t := wy) (A := L) (q := q)
  have hr2 := rf_od (t := wy) (A := L) (q := q)
  refine mx_aload_n d_RM_right_0 rfl (by omega) ?_
  refine mx_iload_n d_RM_right_1 rfl ?_
  refine mx_iconst (0) d_RM_right_2 (by decide +kernel) (by unfold mv_r; omega) ?_
  refine mx_cV2 d_RM_right_3 c_RM_83 hO (by decide) (Nat.le_of_ble_eq_true rfl) ?_
  refine rf_sl0 hO hwy hLin q0 q1 ?_
  refine mx_aload_n d_RM_right_6 rfl (by omega) ?_
  refine mx_iload_n d_RM_right_7 rfl ?_
  refine mx_iconst (2) d_RM_right_8 (by decide +kernel) (by unfold mv_r; omega) ?_
  refine mx_cV2 d_RM_right_9 c_RM_83 hO (by decide) (Nat.le_of_ble_eq_true rfl) ?_
  refine rf_sl2 hO hwy hLin q0 q1 ?_
  refine mx_iadd d_RM_right_12 (by unfold mv_r; omega) ?_
  refine mx_ireturn d_RM_right_13 rfl ?_
  rw [rf_or]
  exact k
theorem rf_lower_l {Q : List mv_V → mv_M → Prop} {M : mv_M} {co wi ta bo pa wy lc fo tu bl kl se ow : Int} (hO : rf_O M co wi ta bo pa wy lc fo tu bl kl se ow) (hwy : wy = 0 ∨ wy = 1) {L : Int → Int} (hLin : M.2 51 = .inl (256, L)) {q : Int} (q0 : 0 ≤ q) (q1 : q < 64) {cnt : Int} (hok : rf_ok cnt L) (q2 : q < cnt) (k : Q [.inl (bf_o wy (rf_d L) (rf_r L) q)] M) : mv_J md_RM_lower [.inr 47, .inl (64 + q)] M Q := by
  refine mv_enter (by decide +kernel) (Nat.le_of_ble_eq_true rfl) ?_
  show mv_W md_RM_lower 0 [.inr 47, .inl (64 + q)] [] M (0, 0) Q
  have hbo := bf_ob hok q0 q2 wy
  have hr1 := rf_or (t := wy) (A := L) (q := q)
  have hr2 := rf_od (t := wy) (A := L) (q := q)
  refine mx_aload_n d_RM_lower_0 rfl (by omega) ?_
  refine mx_iload_n d_RM_lower_1 rfl ?_
  refine mx_iconst (1) d_RM_lower_2 (by decide +kernel) (by unfold mv_r; omega) ?_
  refine mx_cV2 d_RM_lower_3 c_RM_83 hO (by decide) (Nat.le_of_ble_eq_true rfl) ?_
  refine rf_sl1 hO hwy hLin q0 q1 ?_
  refine mx_aload_n d_RM_lower_6 rfl (by omega) ?_
  refine mx_iload_n d_RM_lower_7 rfl ?_
  refine mx_iconst (3) d_RM_lower_8 (by decide +kernel) (by unfold mv_r; omega) ?_
  refine mx_cV2 d_RM_lower_9 c_RM_83 hO (by decide) (Nat.le_of_ble_eq_true rfl) ?_
  refine rf_sl3 hO hwy hLin q0 q1 ?_
  refine mx_iadd d_RM_lower_12 (by unfold mv_r; omega) ?_
  refine mx_ireturn d_RM_lower_13 rfl ?_
  rw [rf_od]
  exact k
theorem rf_areBoxesNear {Q : List mv_V → mv_M → Prop} {M : mv_M} {co wi ta bo pa wy lc fo tu bl kl se ow : Int} (hO : rf_O M co wi ta bo pa wy lc fo tu bl kl se ow) (hwy : wy = 0 ∨ wy = 1) {B : Int → Int} (hBox : M.2 48 = .inl (256, B)) {cnt : Int} (hcn : cnt ≤ 64) (hok : rf_ok cnt B) {a b : Int} (a0 : 0 ≤ a) (a2 : a < cnt) (b0 : 0 ≤ b) (b2 : b < cnt) (k1 : bf_nb wy (rf_l B) (rf_u B) (rf_r B) (rf_d B) a b → Q [.inl 1] M) (k0 : ¬ bf_nb wy (rf_l B) (rf_u B) (rf_r B) (rf_d B) a b → Q [.inl 0] M) : mv_J md_RM_areBoxesNear [.inr 47, .inl a, .inl b] M Q := by
  refine mv_enter (by decide +kernel) (Nat.le_of_ble_eq_true rfl) ?_
  show mv_W md_RM_areBoxesNear 0 [.inr 47, .inl a, .inl b, .inr 0, .inr 0] [] M (0, 0) Q
  have a1 : a < 64 := by omega
  have b1 : b < 64 := by omega
  have hba := bf_ob hok a0 a2 wy
  have hbb := bf_ob hok b0 b2 wy
  refine mx_aload_n d_RM_areBoxesNear_0 rfl (by omega) ?_
  refine mx_iload_n d_RM_areBoxesNear_1 rfl ?_
  refine mx_cV1 d_RM_areBoxesNear_2 c_RM_87 hO (by decide) (Nat.le_of_ble_eq_true rfl) ?_
  refine rf_lower_b hO hwy hBox a0 a1 hok a2 ?_
  refine mx_aload_n d_RM_areBoxesNear_5 rfl (by omega) ?_
  refine mx_iload_n d_RM_areBoxesNear_6 rfl ?_
  refine mx_cV1 d_RM_areBoxesNear_7 c_RM_87 hO (by decide) (Nat.le_of_ble_eq_true rfl) ?_
  refine rf_lower_b hO hwy hBox b0 b1 hok b2 ?_
  refine mx_cS2 d_RM_areBoxesNear_10 c_RM_91 (by decide) (Nat.le_of_ble_eq_true rfl) ?_
  refine rf_least ?_
  refine mx_aload_n d_RM_areBoxesNear_13 rfl (by omega) ?_
  refine mx_iload_n d_RM_areBoxesNear_14 rfl ?_
  refine mx_cV1 d_RM_areBoxesNear_15 c_RM_94 hO (by decide) (Nat.le_of_ble_eq_true rfl) ?_
  refine rf_upper_b hO hwy hBox a0 a1 ?_
  refine mx_aload_n d_RM_areBoxesNear_18 rfl (by omega) ?_
  refine mx_iload_n d_RM_areBoxesNear_19 rfl ?_
  refine mx_cV1 d_RM_areBoxesNear_20 c_RM_94 hO (by decide) (Nat.le_of_ble_eq_true rfl) ?_
  refine rf_upper_b hO hwy hBox b0 b1 ?_
  refine mx_cS2 d_RM_areBoxesNear_23 c_RM_97 (by decide) (Nat.le_of_ble_eq_true rfl) ?_
  refine rf_most ?_
  refine mx_isub d_RM_areBoxesNear_26 (by unfold mv_r; omega) ?_
  refine mx_istore_n d_RM_areBoxesNear_27 (by decide) ?_
  refine mx_aload_n d_RM_areBoxesNear_28 rfl (by omega) ?_
  refine mx_iload_n d_RM_areBoxesNear_29 rfl ?_
  refine mx_cV1 d_RM_areBoxesNear_30 c_RM_100 hO (by decide) (Nat.le_of_ble_eq_true rfl) ?_
  refine rf_left_b hO hwy hBox a0 a1 ?_
  refine mx_aload_n d_RM_areBoxesNear_33 rfl (by omega) ?_
  refine mx_iload_n d_RM_areBoxesNear_34 rfl ?_
  refine mx_cV1 d_RM_areBoxesNear_35 c_RM_100 hO (by decide) (Nat.le_of_ble_eq_true rfl) ?_
  refine rf_left_b hO hwy hBox b0 b1 ?_
  refine mx_cS2 d_RM_areBoxesNear_38 c_RM_97 (by decide) (Nat.le_of_ble_eq_true rfl) ?_
  refine rf_most ?_
  refine mx_aload_n d_RM_areBoxesNear_41 rfl (by omega) ?_
  refine mx_iload_n d_RM_areBoxesNear_42 rfl ?_
  refine mx_cV1 d_RM_areBoxesNear_43 c_RM_103 hO (by decide) (Nat.le_of_ble_eq_true rfl) ?_
  refine rf_right_b hO hwy hBox a0 a1 hok a2 ?_
  refine mx_aload_n d_RM_areBoxesNear_46 rfl (by omega) ?_
  refine mx_iload_n d_RM_areBoxesNear_47 rfl ?_
  refine mx_cV1 d_RM_areBoxesNear_48 c_RM_103 hO (by decide) (Nat.le_of_ble_eq_true rfl) ?_
  refine rf_right_b hO hwy hBox b0 b1 hok b2 ?_
  refine mx_cS2 d_RM_areBoxesNear_51 c_RM_91 (by decide) (Nat.le_of_ble_eq_true rfl) ?_
  refine rf_least ?_
  refine mx_isub d_RM_areBoxesNear_54 (by unfold mv_r; omega) ?_
  refine mx_istore d_RM_areBoxesNear_55 (by decide) ?_
  refine mx_iconst (2) d_RM_areBoxesNear_57 (by decide +kernel) (by unfold mv_r; omega) ?_
  refine mx_iload_n d_RM_areBoxesNear_58 rfl ?_
  refine mx_imul d_RM_areBoxesNear_59 (by unfold mv_r; omega) ?_
  refine mx_aload_n d_RM_areBoxesNear_60 rfl (by omega) ?_
  refine mx_iload_n d_RM_areBoxesNear_61 rfl ?_
  refine mx_cV1 d_RM_areBoxesNear_62 c_RM_106 hO (by decide) (Nat.le_of_ble_eq_true rfl) ?_
  refine rf_high_b hO hwy hBox a0 a1 ?_
  refine mx_aload_n d_RM_areBoxesNear_65 rfl (by omega) ?_
  refine mx_iload_n d_RM_areBoxesNear_66 rfl ?_
  refine mx_cV1 d_RM_areBoxesNear_67 c_RM_106 hO (by decide) (Nat.le_of_ble_eq_true rfl) ?_
  refine rf_high_b hO hwy hBox b0 b1 ?_
  refine mx_cS2 d_RM_areBoxesNear_70 c_RM_91 (by decide) (Nat.le_of_ble_eq_true rfl) ?_
  refine rf_least ?_
  refine mx_icmp_lt 102 d_RM_areBoxesNear_73 (by decide) (fun c73 => ?_) (fun c73 => ?_)
  · skip
    refine mx_iconst (0) d_RM_areBoxesNear_102 (by decide +kernel) (by unfold mv_r; omega) ?_
    refine mx_zreturn d_RM_areBoxesNear_103 rfl (by omega) ?_
    first | exact k1 ⟨by omega, by omega⟩ | exact k0 (fun h => by have q1 := h.1; have q2 := h.2; omega)
  · skip
    refine mx_iconst (2) d_RM_areBoxesNear_76 (by decide +kernel) (by unfold mv_r; omega) ?_
    refine mx_iload d_RM_areBoxesNear_77 rfl ?_
    refine mx_imul d_RM_areBoxesNear_79 (by unfold mv_r; omega) ?_
    refine mx_iconst (3) d_RM_areBoxesNear_80 (by decide +kernel) (by unfold mv_r; omega) ?_
    refine mx_aload_n d_RM_areBoxesNear_81 rfl (by omega) ?_
    refine mx_iload_n d_RM_areBoxesNear_82 rfl ?_
    refine mx_cV1 d_RM_areBoxesNear_83 c_RM_106 hO (by decide) (Nat.le_of_ble_eq_true rfl) ?_
    refine rf_high_b hO hwy hBox a0 a1 ?_
    refine mx_aload_n d_RM_areBoxesNear_86 rfl (by omega) ?_
    refine mx_iload_n d_RM_areBoxesNear_87 rfl ?_
    refine mx_cV1 d_RM_areBoxesNear_88 c_RM_106 hO (by decide) (Nat.le_of_ble_eq_true rfl) ?_
    refine rf_high_b hO hwy hBox b0 b1 ?_
    refine mx_cS2 d_RM_areBoxesNear_91 c_RM_97 (by decide) (Nat.le_of_ble_eq_true rfl) ?_
    refine rf_most ?_
    refine mx_imul d_RM_areBoxesNear_94 (by unfold mv_r; omega) ?_
    refine mx_icmp_gt 102 d_RM_areBoxesNear_95 (by decide) (fun c95 => ?_) (fun c95 => ?_)
    · skip
      refine mx_iconst (0) d_RM_areBoxesNear_102 (by decide +kernel) (by unfold mv_r; omega) ?_
      refine mx_zreturn d_RM_areBoxesNear_103 rfl (by omega) ?_
      first | exact k1 ⟨by omega, by omega⟩ | exact k0 (fun h => by have q1 := h.1; have q2 := h.2; omega)
    · skip
      refine mx_iconst (1) d_RM_areBoxesNear_98 (by decide +kernel) (by unfold mv_r; omega) ?_
      refine mx_goto 103 d_RM_areBoxesNear_99 (by decide) ?_
      refine mx_zreturn d_RM_areBoxesNear_103 rfl (by omega) ?_
      first | exact k1 ⟨by omega, by omega⟩ | exact k0 (fun h => by have q1 := h.1; have q2 := h.2; omega)
theorem rf_areLinesNear {Q : List mv_V → mv_M → Prop} {M : mv_M} {co wi ta bo pa wy lc fo tu bl kl se ow : Int} (hO : rf_O M co wi ta bo pa wy lc fo tu bl kl se ow) (hwy : wy = 0 ∨ wy = 1) {L : Int → Int} (hLin : M.2 51 = .inl (256, L)) {cnt : Int} (hcn : cnt ≤ 64) (hok : rf_ok cnt L) {a b : Int} (a0 : 0 ≤ a) (a2 : a < cnt) (b0 : 0 ≤ b) (b2 : b < cnt) (k1 : bf_nl wy (rf_l L) (rf_u L) (rf_r L) (rf_d L) a b → Q [.inl 1] M) (k0 : ¬ bf_nl wy (rf_l L) (rf_u L) (rf_r L) (rf_d L) a b → Q [.inl 0] M) : mv_J md_RM_areLinesNear [.inr 47, .inl (64 + a), .inl (64 + b)] M Q := by
  refine mv_enter (by decide +kernel) (Nat.le_of_ble_eq_true rfl) ?_
  show mv_W md_RM_areLinesNear 0 [.inr 47, .inl (64 + a), .inl (64 + b), .inr 0, .inr 0] [] M (0, 0) Q
  have a1 : a < 64 := by omega
  have b1 : b < 64 := by omega
  have hba := bf_ob hok a0 a2 wy
  have hbb := bf_ob hok b0 b2 wy
  refine mx_aload_n d_RM_areLinesNear_0 rfl (by omega) ?_
  refine mx_iload_n d_RM_areLinesNear_1 rfl ?_
  refine mx_cV1 d_RM_areLinesNear_2 c_RM_100 hO (by decide) (Nat.le_of_ble_eq_true rfl) ?_
  refine rf_left_l hO hwy hLin a0 a1 ?_
  refine mx_aload_n d_RM_areLinesNear_5 rfl (by omega) ?_
  refine mx_iload_n d_RM_areLinesNear_6 rfl ?_
  refine mx_cV1 d_RM_areLinesNear_7 c_RM_100 hO (by decide) (Nat.le_of_ble_eq_true rfl) ?_
  refine rf_left_l hO hwy hLin b0 b1 ?_
  refine mx_isub d_RM_areLinesNear_10 (by unfold mv_r; omega) ?_
  refine mx_istore_n d_RM_areLinesNear_11 (by decide) ?_
  refine mx_aload_n d_RM_areLinesNear_12 rfl (by omega) ?_
  refine mx_iload_n d_RM_areLinesNear_13 rfl ?_
  refine mx_cV1 d_RM_areLinesNear_14 c_RM_94 hO (by decide) (Nat.le_of_ble_eq_true rfl) ?_
  refine rf_upper_l hO hwy hLin a0 a1 ?_
  refine mx_aload_n d_RM_areLinesNear_17 rfl (by omega) ?_
  refine mx_iload_n d_RM_areLinesNear_18 rfl ?_
  refine mx_cV1 d_RM_areLinesNear_19 c_RM_94 hO (by decide) (Nat.le_of_ble_eq_true rfl) ?_
  refine rf_upper_l hO hwy hLin b0 b1 ?_
  refine mx_cS2 d_RM_areLinesNear_22 c_RM_97 (by decide) (Nat.le_of_ble_eq_true rfl) ?_
  refine rf_most ?_
  refine mx_aload_n d_RM_areLinesNear_25 rfl (by omega) ?_
  refine mx_iload_n d_RM_areLinesNear_26 rfl ?_
  refine mx_cV1 d_RM_areLinesNear_27 c_RM_87 hO (by decide) (Nat.le_of_ble_eq_true rfl) ?_
  refine rf_lower_l hO hwy hLin a0 a1 hok a2 ?_
  refine mx_aload_n d_RM_areLinesNear_30 rfl (by omega) ?_
  refine mx_iload_n d_RM_areLinesNear_31 rfl ?_
  refine mx_cV1 d_RM_areLinesNear_32 c_RM_87 hO (by decide) (Nat.le_of_ble_eq_true rfl) ?_
  refine rf_lower_l hO hwy hLin b0 b1 hok b2 ?_
  refine mx_cS2 d_RM_areLinesNear_35 c_RM_91 (by decide) (Nat.le_of_ble_eq_true rfl) ?_
  refine rf_least ?_
  refine mx_isub d_RM_areLinesNear_38 (by unfold mv_r; omega) ?_
  refine mx_istore d_RM_areLinesNear_39 (by decide) ?_
  refine mx_iload_n d_RM_areLinesNear_41 rfl ?_
  refine mx_if_ge 50 d_RM_areLinesNear_42 (by decide) (fun c42 => ?_) (fun c42 => ?_)
  · skip
    refine mx_iload_n d_RM_areLinesNear_50 rfl ?_
    refine mx_aload_n d_RM_areLinesNear_51 rfl (by omega) ?_
    refine mx_iload_n d_RM_areLinesNear_52 rfl ?_
    refine mx_cV1 d_RM_areLinesNear_53 c_RM_106 hO (by decide) (Nat.le_of_ble_eq_true rfl) ?_
    refine rf_high_l hO hwy hLin a0 a1 ?_
    refine mx_aload_n d_RM_areLinesNear_56 rfl (by omega) ?_
    refine mx_iload_n d_RM_areLinesNear_57 rfl ?_
    refine mx_cV1 d_RM_areLinesNear_58 c_RM_106 hO (by decide) (Nat.le_of_ble_eq_true rfl) ?_
    refine rf_high_l hO hwy hLin b0 b1 ?_
    refine mx_cS2 d_RM_areLinesNear_61 c_RM_97 (by decide) (Nat.le_of_ble_eq_true rfl) ?_
    refine rf_most ?_
    refine mx_icmp_gt 91 d_RM_areLinesNear_64 (by decide) (fun c64 => ?_) (fun c64 => ?_)
    · skip
      refine mx_iconst (0) d_RM_areLinesNear_91 (by decide +kernel) (by unfold mv_r; omega) ?_
      refine mx_zreturn d_RM_areLinesNear_92 rfl (by omega) ?_
      first | exact k1 ⟨by omega, by omega⟩ | exact k0 (fun h => by have q1 := h.1; have q2 := h.2; omega)
    · skip
      refine mx_iload d_RM_areLinesNear_67 rfl ?_
      refine mx_iconst (2) d_RM_areLinesNear_69 (by decide +kernel) (by unfold mv_r; omega) ?_
      refine mx_aload_n d_RM_areLinesNear_70 rfl (by omega) ?_
      refine mx_iload_n d_RM_areLinesNear_71 rfl ?_
      refine mx_cV1 d_RM_areLinesNear_72 c_RM_106 hO (by decide) (Nat.le_of_ble_eq_true rfl) ?_
      refine rf_high_l hO hwy hLin a0 a1 ?_
      refine mx_aload_n d_RM_areLinesNear_75 rfl (by omega) ?_
      refine mx_iload_n d_RM_areLinesNear_76 rfl ?_
      refine mx_cV1 d_RM_areLinesNear_77 c_RM_106 hO (by decide) (Nat.le_of_ble_eq_true rfl) ?_
      refine rf_high_l hO hwy hLin b0 b1 ?_
      refine mx_cS2 d_RM_areLinesNear_80 c_RM_91 (by decide) (Nat.le_of_ble_eq_true rfl) ?_
      refine rf_least ?_
      refine mx_imul d_RM_areLinesNear_83 (by unfold mv_r; omega) ?_
      refine mx_icmp_gt 91 d_RM_areLinesNear_84 (by decide) (fun c84 => ?_) (fun c84 => ?_)
      · skip
        refine mx_iconst (0) d_RM_areLinesNear_91 (by decide +kernel) (by unfold mv_r; omega) ?_
        refine mx_zreturn d_RM_areLinesNear_92 rfl (by omega) ?_
        first | exact k1 ⟨by omega, by omega⟩ | exact k0 (fun h => by have q1 := h.1; have q2 := h.2; omega)
      · skip
        refine mx_iconst (1) d_RM_areLinesNear_87 (by decide +kernel) (by unfold mv_r; omega) ?_
        refine mx_goto 92 d_RM_areLinesNear_88 (by decide) ?_
        refine mx_zreturn d_RM_areLinesNear_92 rfl (by omega) ?_
        first | exact k1 ⟨by omega, by omega⟩ | exact k0 (fun h => by have q1 := h.1; have q2 := h.2; omega)
  · skip
    refine mx_iload_n d_RM_areLinesNear_45 rfl ?_
    refine mx_ineg d_RM_areLinesNear_46 (by unfold mv_r; omega) ?_
    refine mx_goto 51 d_RM_areLinesNear_47 (by decide) ?_
    refine mx_aload_n d_RM_areLinesNear_51 rfl (by omega) ?_
    refine mx_iload_n d_RM_areLinesNear_52 rfl ?_
    refine mx_cV1 d_RM_areLinesNear_53 c_RM_106 hO (by decide) (Nat.le_of_ble_eq_true rfl) ?_
    refine rf_high_l hO hwy hLin a0 a1 ?_
    refine mx_aload_n d_RM_areLinesNear_56 rfl (by omega) ?_
    refine mx_iload_n d_RM_areLinesNear_57 rfl ?_
    refine mx_cV1 d_RM_areLinesNear_58 c_RM_106 hO (by decide) (Nat.le_of_ble_eq_true rfl) ?_
    refine rf_high_l hO hwy hLin b0 b1 ?_
    refine mx_cS2 d_RM_areLinesNear_61 c_RM_97 (by decide) (Nat.le_of_ble_eq_true rfl) ?_
    refine rf_most ?_
    refine mx_icmp_gt 91 d_RM_areLinesNear_64 (by decide) (fun c64 => ?_) (fun c64 => ?_)
    · skip
      refine mx_iconst (0) d_RM_areLinesNear_91 (by decide +kernel) (by unfold mv_r; omega) ?_
      refine mx_zreturn d_RM_areLinesNear_92 rfl (by omega) ?_
      first | exact k1 ⟨by omega, by omega⟩ | exact k0 (fun h => by have q1 := h.1; have q2 := h.2; omega)
    · skip
      refine mx_iload d_RM_areLinesNear_67 rfl ?_
      refine mx_iconst (2) d_RM_areLinesNear_69 (by decide +kernel) (by unfold mv_r; omega) ?_
      refine mx_aload_n d_RM_areLinesNear_70 rfl (by omega) ?_
      refine mx_iload_n d_RM_areLinesNear_71 rfl ?_
      refine mx_cV1 d_RM_areLinesNear_72 c_RM_106 hO (by decide) (Nat.le_of_ble_eq_true rfl) ?_
      refine rf_high_l hO hwy hLin a0 a1 ?_
      refine mx_aload_n d_RM_areLinesNear_75 rfl (by omega) ?_
      refine mx_iload_n d_RM_areLinesNear_76 rfl ?_
      refine mx_cV1 d_RM_areLinesNear_77 c_RM_106 hO (by decide) (Nat.le_of_ble_eq_true rfl) ?_
      refine rf_high_l hO hwy hLin b0 b1 ?_
      refine mx_cS2 d_RM_areLinesNear_80 c_RM_91 (by decide) (Nat.le_of_ble_eq_true rfl) ?_
      refine rf_least ?_
      refine mx_imul d_RM_areLinesNear_83 (by unfold mv_r; omega) ?_
      refine mx_icmp_gt 91 d_RM_areLinesNear_84 (by decide) (fun c84 => ?_) (fun c84 => ?_)
      · skip
        refine mx_iconst (0) d_RM_areLinesNear_91 (by decide +kernel) (by unfold mv_r; omega) ?_
        refine mx_zreturn d_RM_areLinesNear_92 rfl (by omega) ?_
        first | exact k1 ⟨by omega, by omega⟩ | exact k0 (fun h => by have q1 := h.1; have q2 := h.2; omega)
      · skip
        refine mx_iconst (1) d_RM_areLinesNear_87 (by decide +kernel) (by unfold mv_r; omega) ?_
        refine mx_goto 92 d_RM_areLinesNear_88 (by decide) ?_
        refine mx_zreturn d_RM_areLinesNear_92 rfl (by omega) ?_
        first | exact k1 ⟨by omega, by omega⟩ | exact k0 (fun h => by have q1 := h.1; have q2 := h.2; omega)
def rf_bef (t : Int) (L : Int → Int) (a b la lb : Int) : Prop := bf_o t (rf_u L) (rf_l L) a < bf_o t (rf_u L) (rf_l L) b ∨ (bf_o t (rf_u L) (rf_l L) a = bf_o t (rf_u L) (rf_l L) b ∧ (bf_o t (rf_l L) (rf_u L) a < bf_o t (rf_l L) (rf_u L) b ∨ (bf_o t (rf_l L) (rf_u L) a = bf_o t (rf_l L) (rf_u L) b ∧ la < lb)))
theorem rf_isBefore {Q : List mv_V → mv_M → Prop} {M : mv_M} {co wi ta bo pa wy lc fo tu bl kl se ow : Int} (hO : rf_O M co wi ta bo pa wy lc fo tu bl kl se ow) (hwy : wy = 0 ∨ wy = 1) {L : Int → Int} (hLin : M.2 51 = .inl (256, L)) {a b la lb : Int} (a0 : 0 ≤ a) (a1 : a < 64) (b0 : 0 ≤ b) (b1 : b < 64) (k1 : rf_bef wy L a b la lb → Q [.inl 1] M) (k0 : ¬ rf_bef wy L a b la lb → Q [.inl 0] M) : mv_J md_RM_isBefore [.inr 47, .inl (64 + a), .inl (64 + b), .inl la, .inl lb] M Q := by
  refine mv_enter (by decide +kernel) (Nat.le_of_ble_eq_true rfl) ?_
  show mv_W md_RM_isBefore 0 [.inr 47, .inl (64 + a), .inl (64 + b), .inl la, .inl lb] [] M (0, 0) Q
  refine mx_aload_n d_RM_isBefore_0 rfl (by omega) ?_
  refine mx_iload_n d_RM_isBefore_1 rfl ?_
  refine mx_cV1 d_RM_isBefore_2 c_RM_94 hO (by decide) (Nat.le_of_ble_eq_true rfl) ?_
  refine rf_upper_l hO hwy hLin a0 a1 ?_
  refine mx_aload_n d_RM_isBefore_5 rfl (by omega) ?_
  refine mx_iload_n d_RM_isBefore_6 rfl ?_
  refine mx_cV1 d_RM_isBefore_7 c_RM_94 hO (by decide) (Nat.le_of_ble_eq_true rfl) ?_
  refine rf_upper_l hO hwy hLin b0 b1 ?_
  refine mx_icmp_eq 32 d_RM_isBefore_10 (by decide) (fun c10 => ?_) (fun c10 => ?_)
  · skip
    refine mx_aload_n d_RM_isBefore_32 rfl (by omega) ?_
    refine mx_iload_n d_RM_isBefore_33 rfl ?_
    refine mx_cV1 d_RM_isBefore_34 c_RM_100 hO (by decide) (Nat.le_of_ble_eq_true rfl) ?_
    refine rf_left_l hO hwy hLin a0 a1 ?_
    refine mx_aload_n d_RM_isBefore_37 rfl (by omega) ?_
    refine mx_iload_n d_RM_isBefore_38 rfl ?_
    refine mx_cV1 d_RM_isBefore_39 c_RM_100 hO (by decide) (Nat.le_of_ble_eq_true rfl) ?_
    refine rf_left_l hO hwy hLin b0 b1 ?_
    refine mx_icmp_eq 66 d_RM_isBefore_42 (by decide) (fun c42 => ?_) (fun c42 => ?_)
    · skip
      refine mx_iload_n d_RM_isBefore_66 rfl ?_
      refine mx_iload d_RM_isBefore_67 rfl ?_
      refine mx_icmp_ge 76 d_RM_isBefore_69 (by decide) (fun c69 => ?_) (fun c69 => ?_)
      · skip
        refine mx_iconst (0) d_RM_isBefore_76 (by decide +kernel) (by unfold mv_r; omega) ?_
        refine mx_zreturn d_RM_isBefore_77 rfl (by omega) ?_
        first | exact k1 (by unfold rf_bef; omega) | exact k0 (by unfold rf_bef; omega)
      · skip
        refine mx_iconst (1) d_RM_isBefore_72 (by decide +kernel) (by unfold mv_r; omega) ?_
        refine mx_goto 77 d_RM_isBefore_73 (by decide) ?_
        refine mx_zreturn d_RM_isBefore_77 rfl (by omega) ?_
        first | exact k1 (by unfold rf_bef; omega) | exact k0 (by unfold rf_bef; omega)
    · skip
      refine mx_aload_n d_RM_isBefore_45 rfl (by omega) ?_
      refine mx_iload_n d_RM_isBefore_46 rfl ?_
      refine mx_cV1 d_RM_isBefore_47 c_RM_100 hO (by decide) (Nat.le_of_ble_eq_true rfl) ?_
      refine rf_left_l hO hwy hLin a0 a1 ?_
      refine mx_aload_n d_RM_isBefore_50 rfl (by omega) ?_
      refine mx_iload_n d_RM_isBefore_51 rfl ?_
      refine mx_cV1 d_RM_isBefore_52 c_RM_100 hO (by decide) (Nat.le_of_ble_eq_true rfl) ?_
      refine rf_left_l hO hwy hLin b0 b1 ?_
      refine mx_icmp_ge 62 d_RM_isBefore_55 (by decide) (fun c55 => ?_) (fun c55 => ?_)
      · skip
        refine mx_iconst (0) d_RM_isBefore_62 (by decide +kernel) (by unfold mv_r; omega) ?_
        refine mx_goto 77 d_RM_isBefore_63 (by decide) ?_
        refine mx_zreturn d_RM_isBefore_77 rfl (by omega) ?_
        first | exact k1 (by unfold rf_bef; omega) | exact k0 (by unfold rf_bef; omega)
      · skip
        refine mx_iconst (1) d_RM_isBefore_58 (by decide +kernel) (by unfold mv_r; omega) ?_
        refine mx_goto 77 d_RM_isBefore_59 (by decide) ?_
        refine mx_zreturn d_RM_isBefore_77 rfl (by omega) ?_
        first | exact k1 (by unfold rf_bef; omega) | exact k0 (by unfold rf_bef; omega)
  · skip
    refine mx_aload_n d_RM_isBefore_13 rfl (by omega) ?_
    refine mx_iload_n d_RM_isBefore_14 rfl ?_
    refine mx_cV1 d_RM_isBefore_15 c_RM_94 hO (by decide) (Nat.le_of_ble_eq_true rfl) ?_
    refine rf_upper_l hO hwy hLin a0 a1 ?_
    refine mx_aload_n d_RM_isBefore_18 rfl (by omega) ?_
    refine mx_iload_n d_RM_isBefore_19 rfl ?_
    refine mx_cV1 d_RM_isBefore_20 c_RM_94 hO (by decide) (Nat.le_of_ble_eq_true rfl) ?_
    refine rf_upper_l hO hwy hLin b0 b1 ?_
    refine mx_icmp_ge 30 d_RM_isBefore_23 (by decide) (fun c23 => ?_) (fun c23 => ?_)
    · skip
      refine mx_iconst (0) d_RM_isBefore_30 (by decide +kernel) (by unfold mv_r; omega) ?_
      refine mx_zreturn d_RM_isBefore_31 rfl (by omega) ?_
      first | exact k1 (by unfold rf_bef; omega) | exact k0 (by unfold rf_bef; omega)
    · skip
      refine mx_iconst (1) d_RM_isBefore_26 (by decide +kernel) (by unfold mv_r; omega) ?_
      refine mx_goto 31 d_RM_isBefore_27 (by decide) ?_
      refine mx_zreturn d_RM_isBefore_31 rfl (by omega) ?_
      first | exact k1 (by unfold rf_bef; omega) | exact k0 (by unfold rf_bef; omega)
