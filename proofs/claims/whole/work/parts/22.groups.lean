/-! the class: groups -/
def bf_G (M : mv_M) (o : Nat) (cnt : Int) (L U R D P LP Z GO OR PL : Int → Int) : Prop :=
  M.2 o = .inr (ki_G, mv_l [.inr (o + 1), .inr (o + 6), .inr (o + 7), .inr (o + 8), .inr (o + 9), .inr (o + 10), .inr (o + 11)]) ∧ bf_R M (o + 1) 64 cnt L U R D ∧ M.2 (o + 6) = .inl (64, P) ∧ M.2 (o + 7) = .inl (64, LP) ∧ M.2 (o + 8) = .inl (64, Z) ∧ M.2 (o + 9) = .inl (64, GO) ∧ M.2 (o + 10) = .inl (64, OR) ∧ M.2 (o + 11) = .inl (64, PL)
theorem bf_G.fr {M M' : mv_M} {o : Nat} {cnt : Int} {L U R D P LP Z GO OR PL : Int → Int} (h : bf_G M o cnt L U R D P LP Z GO OR PL) {a b : Nat} (hf : bf_fr M M' a b) (hd : o + 12 ≤ a ∨ b ≤ o) : bf_G M' o cnt L U R D P LP Z GO OR PL := by
  refine ⟨?_, h.2.1.fr hf (by omega), ?_, ?_, ?_, ?_, ?_, ?_⟩
  · rw [hf o (by omega)]; exact h.1
  · rw [hf (o + 6) (by omega)]; exact h.2.2.1
  · rw [hf (o + 7) (by omega)]; exact h.2.2.2.1
  · rw [hf (o + 8) (by omega)]; exact h.2.2.2.2.1
  · rw [hf (o + 9) (by omega)]; exact h.2.2.2.2.2.1
  · rw [hf (o + 10) (by omega)]; exact h.2.2.2.2.2.2.1
  · rw [hf (o + 11) (by omega)]; exact h.2.2.2.2.2.2.2
/-- the rectangles of a group have changed, nothing else -/
theorem bf_G.rect {M M' : mv_M} {o : Nat} {cnt cnt' : Int} {L U R D P LP Z GO OR PL L' U' R' D' : Int → Int} (h : bf_G M o cnt L U R D P LP Z GO OR PL) (hf : bf_fr M M' (o + 1) (o + 6)) (hr : bf_R M' (o + 1) 64 cnt' L' U' R' D') : bf_G M' o cnt' L' U' R' D' P LP Z GO OR PL := by
  refine ⟨?_, hr, ?_, ?_, ?_, ?_, ?_, ?_⟩
  · rw [hf o (by omega)]; exact h.1
  · rw [hf (o + 6) (by omega)]; exact h.2.2.1
  · rw [hf (o + 7) (by omega)]; exact h.2.2.2.1
  · rw [hf (o + 8) (by omega)]; exact h.2.2.2.2.1
  · rw [hf (o + 9) (by omega)]; exact h.2.2.2.2.2.1
  · rw [hf (o + 10) (by omega)]; exact h.2.2.2.2.2.2.1
  · rw [hf (o + 11) (by omega)]; exact h.2.2.2.2.2.2.2
theorem bf_fr1 {M : mv_M} {k : Nat} {c : mv_C} : bf_fr M (mv_p M k c) k (k + 1) := fun j hj => mv_pn (by omega)
theorem bf_G.pP {M : mv_M} {o : Nat} {cnt : Int} {L U R D P LP Z GO OR PL X : Int → Int} (h : bf_G M o cnt L U R D P LP Z GO OR PL) : bf_G (mv_p M (o + 6) (.inl (64, X))) o cnt L U R D X LP Z GO OR PL := by
  refine ⟨?_, h.2.1.fr bf_fr1 (by omega), ?_, ?_, ?_, ?_, ?_, ?_⟩
  · rw [mv_pn (by omega)]; exact h.1
  · exact mv_ps
  · rw [mv_pn (by omega)]; exact h.2.2.2.1
  · rw [mv_pn (by omega)]; exact h.2.2.2.2.1
  · rw [mv_pn (by omega)]; exact h.2.2.2.2.2.1
  · rw [mv_pn (by omega)]; exact h.2.2.2.2.2.2.1
  · rw [mv_pn (by omega)]; exact h.2.2.2.2.2.2.2
theorem bf_G.pLP {M : mv_M} {o : Nat} {cnt : Int} {L U R D P LP Z GO OR PL X : Int → Int} (h : bf_G M o cnt L U R D P LP Z GO OR PL) : bf_G (mv_p M (o + 7) (.inl (64, X))) o cnt L U R D P X Z GO OR PL := by
  refine ⟨?_, h.2.1.fr bf_fr1 (by omega), ?_, ?_, ?_, ?_, ?_, ?_⟩
  · rw [mv_pn (by omega)]; exact h.1
  · rw [mv_pn (by omega)]; exact h.2.2.1
  · exact mv_ps
  · rw [mv_pn (by omega)]; exact h.2.2.2.2.1
  · rw [mv_pn (by omega)]; exact h.2.2.2.2.2.1
  · rw [mv_pn (by omega)]; exact h.2.2.2.2.2.2.1
  · rw [mv_pn (by omega)]; exact h.2.2.2.2.2.2.2
theorem bf_G.pZ {M : mv_M} {o : Nat} {cnt : Int} {L U R D P LP Z GO OR PL X : Int → Int} (h : bf_G M o cnt L U R D P LP Z GO OR PL) : bf_G (mv_p M (o + 8) (.inl (64, X))) o cnt L U R D P LP X GO OR PL := by
  refine ⟨?_, h.2.1.fr bf_fr1 (by omega), ?_, ?_, ?_, ?_, ?_, ?_⟩
  · rw [mv_pn (by omega)]; exact h.1
  · rw [mv_pn (by omega)]; exact h.2.2.1
  · rw [mv_pn (by omega)]; exact h.2.2.2.1
  · exact mv_ps
  · rw [mv_pn (by omega)]; exact h.2.2.2.2.2.1
  · rw [mv_pn (by omega)]; exact h.2.2.2.2.2.2.1
  · rw [mv_pn (by omega)]; exact h.2.2.2.2.2.2.2
theorem bf_G.pGO {M : mv_M} {o : Nat} {cnt : Int} {L U R D P LP Z GO OR PL X : Int → Int} (h : bf_G M o cnt L U R D P LP Z GO OR PL) : bf_G (mv_p M (o + 9) (.inl (64, X))) o cnt L U R D P LP Z X OR PL := by
  refine ⟨?_, h.2.1.fr bf_fr1 (by omega), ?_, ?_, ?_, ?_, ?_, ?_⟩
  · rw [mv_pn (by omega)]; exact h.1
  · rw [mv_pn (by omega)]; exact h.2.2.1
  · rw [mv_pn (by omega)]; exact h.2.2.2.1
  · rw [mv_pn (by omega)]; exact h.2.2.2.2.1
  · exact mv_ps
  · rw [mv_pn (by omega)]; exact h.2.2.2.2.2.2.1
  · rw [mv_pn (by omega)]; exact h.2.2.2.2.2.2.2
theorem bf_G.pOR {M : mv_M} {o : Nat} {cnt : Int} {L U R D P LP Z GO OR PL X : Int → Int} (h : bf_G M o cnt L U R D P LP Z GO OR PL) : bf_G (mv_p M (o + 10) (.inl (64, X))) o cnt L U R D P LP Z GO X PL := by
  refine ⟨?_, h.2.1.fr bf_fr1 (by omega), ?_, ?_, ?_, ?_, ?_, ?_⟩
  · rw [mv_pn (by omega)]; exact h.1
  · rw [mv_pn (by omega)]; exact h.2.2.1
  · rw [mv_pn (by omega)]; exact h.2.2.2.1
  · rw [mv_pn (by omega)]; exact h.2.2.2.2.1
  · rw [mv_pn (by omega)]; exact h.2.2.2.2.2.1
  · exact mv_ps
  · rw [mv_pn (by omega)]; exact h.2.2.2.2.2.2.2
theorem bf_G.pPL {M : mv_M} {o : Nat} {cnt : Int} {L U R D P LP Z GO OR PL X : Int → Int} (h : bf_G M o cnt L U R D P LP Z GO OR PL) : bf_G (mv_p M (o + 11) (.inl (64, X))) o cnt L U R D P LP Z GO OR X := by
  refine ⟨?_, h.2.1.fr bf_fr1 (by omega), ?_, ?_, ?_, ?_, ?_, ?_⟩
  · rw [mv_pn (by omega)]; exact h.1
  · rw [mv_pn (by omega)]; exact h.2.2.1
  · rw [mv_pn (by omega)]; exact h.2.2.2.1
  · rw [mv_pn (by omega)]; exact h.2.2.2.2.1
  · rw [mv_pn (by omega)]; exact h.2.2.2.2.2.1
  · rw [mv_pn (by omega)]; exact h.2.2.2.2.2.2.1
  · exact mv_ps
theorem bf_size {Q : List mv_V → mv_M → Prop} {M : mv_M} {o : Nat} {cnt : Int} {L U R D P LP Z GO OR PL : Int → Int} (ho : 2 ≤ o) (hG : bf_G M o cnt L U R D P LP Z GO OR PL) (k : Q [.inl cnt] M)  : mv_J md_G_size [.inr o] M Q := by
  refine mv_enter (by decide +kernel) (Nat.le_of_ble_eq_true rfl) ?_
  show mv_W md_G_size 0 [.inr o] [] M (0, 0) Q
  refine mx_aload_n d_G_size_0 rfl (by omega) ?_
  refine mx_gl d_G_size_1 f_G_14 hG.1 rfl ?_
  refine mx_gl d_G_size_4 f_G_39 hG.2.1.1 rfl ?_
  refine mx_ireturn d_G_size_7 rfl ?_
  exact k
theorem bf_ghas {M : mv_M} {o : Nat} {cnt : Int} {L U R D P LP Z GO OR PL : Int → Int} (ho : 2 ≤ o) (hG : bf_G M o cnt L U R D P LP Z GO OR PL) {i : Int} {Q : List mv_V → mv_M → Prop} (k1 : (0 ≤ i ∧ i < cnt) → Q [.inl 1] M) (k0 : ¬ (0 ≤ i ∧ i < cnt) → Q [.inl 0] M)  : mv_J md_G_has [.inr o, .inl i] M Q := by
  refine mv_enter (by decide +kernel) (Nat.le_of_ble_eq_true rfl) ?_
  show mv_W md_G_has 0 [.inr o, .inl i] [] M (0, 0) Q
  refine mx_aload_n d_G_has_0 rfl (by omega) ?_
  refine mx_gl d_G_has_1 f_G_14 hG.1 rfl ?_
  refine mx_iload_n d_G_has_4 rfl ?_
  refine mx_cV1 d_G_has_5 c_G_43 hG.2.1.1 (by decide) (Nat.le_of_ble_eq_true rfl) ?_
  refine bf_has (by omega) hG.2.1 (fun hh => ?_) (fun hh => ?_)
  · skip
    refine mx_zreturn d_G_has_8 rfl (by omega) ?_
    first | exact k1 hh | exact k0 hh
  · skip
    refine mx_zreturn d_G_has_8 rfl (by omega) ?_
    first | exact k1 hh | exact k0 hh
def bf_cb (t : Int) (L U Z : Int → Int) (a b : Int) : Prop := Z b < Z a ∨ (Z a = Z b ∧ (bf_o t U L a < bf_o t U L b ∨ (bf_o t U L a = bf_o t U L b ∧ (bf_o t L U a < bf_o t L U b ∨ (bf_o t L U a = bf_o t L U b ∧ a < b)))))
theorem bf_comesBefore {M : mv_M} {o : Nat} {cnt : Int} {L U R D P LP Z GO OR PL : Int → Int} (ho : 2 ≤ o) (hG : bf_G M o cnt L U R D P LP Z GO OR PL) (hcn : cnt ≤ 64) (hb : bf_ok cnt L U R D) {a b t : Int} (a0 : 0 ≤ a) (a1 : a < cnt) (b0 : 0 ≤ b) (b1 : b < cnt) (ht : t = 0 ∨ t = 1) {Q : List mv_V → mv_M → Prop} (k1 : bf_cb t L U Z a b → Q [.inl 1] M) (k0 : ¬ bf_cb t L U Z a b → Q [.inl 0] M)  : mv_J md_G_comesBefore [.inr o, .inl a, .inl b, .inl t] M Q := by
  refine mv_enter (by decide +kernel) (Nat.le_of_ble_eq_true rfl) ?_
  show mv_W md_G_comesBefore 0 [.inr o, .inl a, .inl b, .inl t, .inr 0, .inr 0] [] M (0, 0) Q
  have hba := bf_ob hb a0 a1 t
  have hbb := bf_ob hb b0 b1 t
  refine mx_aload_n d_G_comesBefore_0 rfl (by omega) ?_
  refine mx_gl d_G_comesBefore_1 f_G_27 hG.1 rfl ?_
  refine mx_iload_n d_G_comesBefore_4 rfl ?_
  refine mx_iald d_G_comesBefore_5 hG.2.2.2.2.1 (by omega) (by omega) ?_
  refine mx_aload_n d_G_comesBefore_6 rfl (by omega) ?_
  refine mx_gl d_G_comesBefore_7 f_G_27 hG.1 rfl ?_
  refine mx_iload_n d_G_comesBefore_10 rfl ?_
  refine mx_iald d_G_comesBefore_11 hG.2.2.2.2.1 (by omega) (by omega) ?_
  refine mx_icmp_eq 36 d_G_comesBefore_12 (by decide) (fun c12 => ?_) (fun c12 => ?_)
  · skip
    refine mx_aload_n d_G_comesBefore_36 rfl (by omega) ?_
    refine mx_gl d_G_comesBefore_37 f_G_14 hG.1 rfl ?_
    refine mx_iload_n d_G_comesBefore_40 rfl ?_
    refine mx_iload_n d_G_comesBefore_41 rfl ?_
    refine mx_cV2 d_G_comesBefore_42 c_G_87 hG.2.1.1 (by decide) (Nat.le_of_ble_eq_true rfl) ?_
    refine bf_upperEnd (by omega) hG.2.1 a0 (by omega) ht ?_
    refine mx_aload_n d_G_comesBefore_45 rfl (by omega) ?_
    refine mx_gl d_G_comesBefore_46 f_G_14 hG.1 rfl ?_
    refine mx_iload_n d_G_comesBefore_49 rfl ?_
    refine mx_iload_n d_G_comesBefore_50 rfl ?_
    refine mx_cV2 d_G_comesBefore_51 c_G_87 hG.2.1.1 (by decide) (Nat.le_of_ble_eq_true rfl) ?_
    refine bf_upperEnd (by omega) hG.2.1 b0 (by omega) ht ?_
    refine mx_isub d_G_comesBefore_54 (by unfold mv_r; omega) ?_
    refine mx_istore d_G_comesBefore_55 (by decide) ?_
    refine mx_iload d_G_comesBefore_57 rfl ?_
    refine mx_if_eq 73 d_G_comesBefore_59 (by decide) (fun c59 => ?_) (fun c59 => ?_)
    · skip
      refine mx_aload_n d_G_comesBefore_73 rfl (by omega) ?_
      refine mx_gl d_G_comesBefore_74 f_G_14 hG.1 rfl ?_
      refine mx_iload_n d_G_comesBefore_77 rfl ?_
      refine mx_iload_n d_G_comesBefore_78 rfl ?_
      refine mx_cV2 d_G_comesBefore_79 c_G_91 hG.2.1.1 (by decide) (Nat.le_of_ble_eq_true rfl) ?_
      refine bf_leftEnd (by omega) hG.2.1 a0 (by omega) ht ?_
      refine mx_aload_n d_G_comesBefore_82 rfl (by omega) ?_
      refine mx_gl d_G_comesBefore_83 f_G_14 hG.1 rfl ?_
      refine mx_iload_n d_G_comesBefore_86 rfl ?_
      refine mx_iload_n d_G_comesBefore_87 rfl ?_
      refine mx_cV2 d_G_comesBefore_88 c_G_91 hG.2.1.1 (by decide) (Nat.le_of_ble_eq_true rfl) ?_
      refine bf_leftEnd (by omega) hG.2.1 b0 (by omega) ht ?_
      refine mx_isub d_G_comesBefore_91 (by unfold mv_r; omega) ?_
      refine mx_istore d_G_comesBefore_92 (by decide) ?_
      refine mx_iload d_G_comesBefore_94 rfl ?_
      refine mx_if_eq 110 d_G_comesBefore_96 (by decide) (fun c96 => ?_) (fun c96 => ?_)
      · skip
        refine mx_iload_n d_G_comesBefore_110 rfl ?_
        refine mx_iload_n d_G_comesBefore_111 rfl ?_
        refine mx_icmp_ge 119 d_G_comesBefore_112 (by decide) (fun c112 => ?_) (fun c112 => ?_)
        · skip
          refine mx_iconst (0) d_G_comesBefore_119 (by decide +kernel) (by unfold mv_r; omega) ?_
          refine mx_zreturn d_G_comesBefore_120 rfl (by omega) ?_
          first | exact k1 (by unfold bf_cb; omega) | exact k0 (by unfold bf_cb; omega)
        · skip
          refine mx_iconst (1) d_G_comesBefore_115 (by decide +kernel) (by unfold mv_r; omega) ?_
          refine mx_goto 120 d_G_comesBefore_116 (by decide) ?_
          refine mx_zreturn d_G_comesBefore_120 rfl (by omega) ?_
          first | exact k1 (by unfold bf_cb; omega) | exact k0 (by unfold bf_cb; omega)
      · skip
        refine mx_iload d_G_comesBefore_99 rfl ?_
        refine mx_if_ge 108 d_G_comesBefore_101 (by decide) (fun c101 => ?_) (fun c101 => ?_)
        · skip
          refine mx_iconst (0) d_G_comesBefore_108 (by decide +kernel) (by unfold mv_r; omega) ?_
          refine mx_zreturn d_G_comesBefore_109 rfl (by omega) ?_
          first | exact k1 (by unfold bf_cb; omega) | exact k0 (by unfold bf_cb; omega)
        · skip
          refine mx_iconst (1) d_G_comesBefore_104 (by decide +kernel) (by unfold mv_r; omega) ?_
          refine mx_goto 109 d_G_comesBefore_105 (by decide) ?_
          refine mx_zreturn d_G_comesBefore_109 rfl (by omega) ?_
          first | exact k1 (by unfold bf_cb; omega) | exact k0 (by unfold bf_cb; omega)
    · skip
      refine mx_iload d_G_comesBefore_62 rfl ?_
      refine mx_if_ge 71 d_G_comesBefore_64 (by decide) (fun c64 => ?_) (fun c64 => ?_)
      · skip
        refine mx_iconst (0) d_G_comesBefore_71 (by decide +kernel) (by unfold mv_r; omega) ?_
        refine mx_zreturn d_G_comesBefore_72 rfl (by omega) ?_
        first | exact k1 (by unfold bf_cb; omega) | exact k0 (by unfold bf_cb; omega)
      · skip
        refine mx_iconst (1) d_G_comesBefore_67 (by decide +kernel) (by unfold mv_r; omega) ?_
        refine mx_goto 72 d_G_comesBefore_68 (by decide) ?_
        refine mx_zreturn d_G_comesBefore_72 rfl (by omega) ?_
        first | exact k1 (by unfold bf_cb; omega) | exact k0 (by unfold bf_cb; omega)
  · skip
    refine mx_aload_n d_G_comesBefore_15 rfl (by omega) ?_
    refine mx_gl d_G_comesBefore_16 f_G_27 hG.1 rfl ?_
    refine mx_iload_n d_G_comesBefore_19 rfl ?_
    refine mx_iald d_G_comesBefore_20 hG.2.2.2.2.1 (by omega) (by omega) ?_
    refine mx_aload_n d_G_comesBefore_21 rfl (by omega) ?_
    refine mx_gl d_G_comesBefore_22 f_G_27 hG.1 rfl ?_
    refine mx_iload_n d_G_comesBefore_25 rfl ?_
    refine mx_iald d_G_comesBefore_26 hG.2.2.2.2.1 (by omega) (by omega) ?_
    refine mx_icmp_le 34 d_G_comesBefore_27 (by decide) (fun c27 => ?_) (fun c27 => ?_)
    · skip
      refine mx_iconst (0) d_G_comesBefore_34 (by decide +kernel) (by unfold mv_r; omega) ?_
      refine mx_zreturn d_G_comesBefore_35 rfl (by omega) ?_
      first | exact k1 (by unfold bf_cb; omega) | exact k0 (by unfold bf_cb; omega)
    · skip
      refine mx_iconst (1) d_G_comesBefore_30 (by decide +kernel) (by unfold mv_r; omega) ?_
      refine mx_goto 35 d_G_comesBefore_31 (by decide) ?_
      refine mx_zreturn d_G_comesBefore_35 rfl (by omega) ?_
      first | exact k1 (by unfold bf_cb; omega) | exact k0 (by unfold bf_cb; omega)
theorem bf_begin {Q : List mv_V → mv_M → Prop} {M : mv_M} {o : Nat} {cnt : Int} {L U R D P LP Z GO OR PL : Int → Int} (ho : 2 ≤ o) (hG : bf_G M o cnt L U R D P LP Z GO OR PL) {o2 n2 : Nat} {cnt2 : Int} {L2 U2 R2 D2 : Int → Int} (ho2 : 2 ≤ o2) (hR2 : bf_R M o2 n2 cnt2 L2 U2 R2 D2) (hdj : o + 12 ≤ o2 ∨ o2 + 5 ≤ o) {i : Int} (hc0 : 0 ≤ cnt) (hc1 : cnt < 64) (h0 : 0 ≤ i) (h1 : i < n2) (h64 : i < 64) (k : ∀ M', bf_fr M M' o (o + 12) → bf_G M' o (cnt + 1) (mv_s L cnt (L2 i)) (mv_s U cnt (U2 i)) (mv_s R cnt (R2 i)) (mv_s D cnt (D2 i)) (mv_s P cnt 1) (mv_s LP cnt i) Z (mv_s GO i cnt) OR PL → Q [] M')  : mv_J md_G_begin [.inr o, .inr o2, .inl i] M Q := by
  refine mv_enter (by decide +kernel) (Nat.le_of_ble_eq_true rfl) ?_
  show mv_W md_G_begin 0 [.inr o, .inr o2, .inl i, .inr 0] [] M (0, 0) Q
  refine mx_aload_n d_G_begin_0 rfl (by omega) ?_
  refine mx_gl d_G_begin_1 f_G_14 hG.1 rfl ?_
  refine mx_aload_n d_G_begin_4 rfl (by omega) ?_
  refine mx_gl d_G_begin_5 f_G_60 hR2.1 rfl ?_
  refine mx_iload_n d_G_begin_8 rfl ?_
  refine mx_iald d_G_begin_9 hR2.2.1 (by omega) (by omega) ?_
  refine mx_aload_n d_G_begin_10 rfl (by omega) ?_
  refine mx_gl d_G_begin_11 f_G_63 hR2.1 rfl ?_
  refine mx_iload_n d_G_begin_14 rfl ?_
  refine mx_iald d_G_begin_15 hR2.2.2.1 (by omega) (by omega) ?_
  refine mx_aload_n d_G_begin_16 rfl (by omega) ?_
  refine mx_gl d_G_begin_17 f_G_66 hR2.1 rfl ?_
  refine mx_iload_n d_G_begin_20 rfl ?_
  refine mx_iald d_G_begin_21 hR2.2.2.2.1 (by omega) (by omega) ?_
  refine mx_aload_n d_G_begin_22 rfl (by omega) ?_
  refine mx_gl d_G_begin_23 f_G_69 hR2.1 rfl ?_
  refine mx_iload_n d_G_begin_26 rfl ?_
  refine mx_iald d_G_begin_27 hR2.2.2.2.2 (by omega) (by omega) ?_
  refine mx_cV4 d_G_begin_28 c_G_72 hG.2.1.1 (by decide) (Nat.le_of_ble_eq_true rfl) ?_
  refine bf_add (by omega) hG.2.1 (by omega) hc0 (fun q => by exfalso; omega) (fun M' _ hfr hr' => ?_)
  have hG1 := hG.rect (hfr.up (by omega) (by omega)) hr'
  refine mx_istore_n d_G_begin_31 (by decide) ?_
  refine mx_iload_n d_G_begin_32 rfl ?_
  refine mx_if_lt 57 d_G_begin_33 (by decide) (fun c33 => ?_) (fun c33 => ?_)
  · skip
    exfalso; omega
  · skip
    refine mx_aload_n d_G_begin_36 rfl (by omega) ?_
    refine mx_gl d_G_begin_37 f_G_20 hG1.1 rfl ?_
    refine mx_iload_n d_G_begin_40 rfl ?_
    refine mx_iconst (1) d_G_begin_41 (by decide +kernel) (by unfold mv_r; omega) ?_
    refine mx_iast d_G_begin_42 hG1.2.2.1 (by omega) (by omega) (by omega) ?_
    refine mx_aload_n d_G_begin_43 rfl (by omega) ?_
    refine mx_gl d_G_begin_44 f_G_24 (by rw [mv_pn (by omega)]; exact hG1.1) rfl ?_
    refine mx_iload_n d_G_begin_47 rfl ?_
    refine mx_iload_n d_G_begin_48 rfl ?_
    refine mx_iast d_G_begin_49 (by rw [mv_pn (by omega)]; exact hG1.2.2.2.1) (by omega) (by omega) (by omega) ?_
    refine mx_aload_n d_G_begin_50 rfl (by omega) ?_
    refine mx_gl d_G_begin_51 f_G_30 (by rw [mv_pn (by omega), mv_pn (by omega)]; exact hG1.1) rfl ?_
    refine mx_iload_n d_G_begin_54 rfl ?_
    refine mx_iload_n d_G_begin_55 rfl ?_
    refine mx_iast d_G_begin_56 (by rw [mv_pn (by omega), mv_pn (by omega)]; exact hG1.2.2.2.2.2.1) (by omega) (by omega) (by omega) ?_
    refine mx_return d_G_begin_57 rfl ?_
    exact k _ (((hfr.up (by omega) (by omega)).put (by omega) (by omega)).put (by omega) (by omega) |>.put (by omega) (by omega)) hG1.pP.pLP.pGO
theorem bf_extend {Q : List mv_V → mv_M → Prop} {M : mv_M} {o : Nat} {cnt : Int} {L U R D P LP Z GO OR PL : Int → Int} (ho : 2 ≤ o) (hG : bf_G M o cnt L U R D P LP Z GO OR PL) {o2 n2 : Nat} {cnt2 : Int} {L2 U2 R2 D2 : Int → Int} (ho2 : 2 ≤ o2) (hR2 : bf_R M o2 n2 cnt2 L2 U2 R2 D2) (hdj : o + 12 ≤ o2 ∨ o2 + 5 ≤ o) {g i : Int} (g0 : 0 ≤ g) (g1 : g < 64) (hp0 : 0 ≤ P g) (hp1 : P g ≤ 64) (h0 : 0 ≤ i) (h1 : i < n2) (h64 : i < 64) (k : ∀ M', bf_fr M M' o (o + 12) → bf_G M' o cnt (mv_s L g (min (L g) (L2 i))) (mv_s U g (min (U g) (U2 i))) (mv_s R g (max (R g) (R2 i))) (mv_s D g (max (D g) (D2 i))) (mv_s P g (P g + 1)) LP Z (mv_s GO i g) OR PL → Q [] M')  : mv_J md_G_extend [.inr o, .inl g, .inr o2, .inl i] M Q := by
  refine mv_enter (by decide +kernel) (Nat.le_of_ble_eq_true rfl) ?_
  show mv_W md_G_extend 0 [.inr o, .inl g, .inr o2, .inl i] [] M (0, 0) Q
  refine mx_aload_n d_G_extend_0 rfl (by omega) ?_
  refine mx_gl d_G_extend_1 f_G_14 hG.1 rfl ?_
  refine mx_iload_n d_G_extend_4 rfl ?_
  refine mx_aload_n d_G_extend_5 rfl (by omega) ?_
  refine mx_iload_n d_G_extend_6 rfl ?_
  refine mx_cV3 d_G_extend_7 c_G_76 hG.2.1.1 (by decide) (Nat.le_of_ble_eq_true rfl) ?_
  refine bf_stretchOver (by omega) hG.2.1 ho2 hR2 (by omega) g0 (by omega) h0 h1 (fun M' hfr hr' => ?_)
  have hG1 := hG.rect (hfr.up (by omega) (by omega)) hr'
  refine mx_aload_n d_G_extend_10 rfl (by omega) ?_
  refine mx_gl d_G_extend_11 f_G_20 hG1.1 rfl ?_
  refine mx_iload_n d_G_extend_14 rfl ?_
  refine mx_dup2 d_G_extend_15 ?_
  refine mx_iald d_G_extend_16 hG1.2.2.1 (by omega) (by omega) ?_
  refine mx_iconst (1) d_G_extend_17 (by decide +kernel) (by unfold mv_r; omega) ?_
  refine mx_iadd d_G_extend_18 (by unfold mv_r; omega) ?_
  refine mx_iast d_G_extend_19 hG1.2.2.1 (by omega) (by omega) (by omega) ?_
  refine mx_aload_n d_G_extend_20 rfl (by omega) ?_
  refine mx_gl d_G_extend_21 f_G_30 (by rw [mv_pn (by omega)]; exact hG1.1) rfl ?_
  refine mx_iload_n d_G_extend_24 rfl ?_
  refine mx_iload_n d_G_extend_25 rfl ?_
  refine mx_iast d_G_extend_26 (by rw [mv_pn (by omega)]; exact hG1.2.2.2.2.2.1) (by omega) (by omega) (by omega) ?_
  refine mx_return d_G_extend_27 rfl ?_
  exact k _ (((hfr.up (by omega) (by omega)).put (by omega) (by omega)).put (by omega) (by omega)) hG1.pP.pGO
theorem bf_gather_l {Q : List mv_V → mv_M → Prop} {M0 : mv_M} {o o2 n2 o3 : Nat} {n sc : Int} {mem : Int} {f FL FU FR FD Z OR PL : Int → Int} (ho : 2 ≤ o) (ho2 : 2 ≤ o2) (ho3 : 2 ≤ o3) (hdj : o + 12 ≤ o2 ∨ o2 + 5 ≤ o) (hdj3 : o + 12 ≤ o3 ∨ o3 + 2 ≤ o) (hR2 : bf_R M0 o2 n2 n FL FU FR FD) (hS : bf_S M0 o3 mem sc f) (hn : n ≤ 64) (hn2 : n ≤ n2) (hf : ∀ j, 0 ≤ j → j < n → 0 ≤ f j ∧ f j ≤ j ∧ f (f j) = f j) (k : ∀ M' cnt' L' U' R' D' P' LP' GO', bf_fr M0 M' o (o + 12) → bf_G M' o cnt' L' U' R' D' P' LP' Z GO' OR PL → pu_grp n f FL FU FR FD cnt' L' U' R' D' P' LP' GO' → Q [] M') : ∀ (d : Nat) (i : Int) (M : mv_M) (cnt : Int) (L U R D P LP GO : Int → Int), n - i < d → 0 ≤ i → i ≤ n → bf_fr M0 M o (o + 12) → bf_G M o cnt L U R D P LP Z GO OR PL → pu_grp i f FL FU FR FD cnt L U R D P LP GO → mv_W md_G_gather 10 [.inr o, .inr o2, .inr o3, .inl i] [] M (0, 0) Q := by
  intro d
  induction d with
  | zero =>
    intro i M cnt L U R D P LP GO hd h0 hi hfr hG hI
    exfalso; omega
  | succ d ih =>
    intro i M cnt L U R D P LP GO hd h0 hi hfr hG hI
    have hcc := hI.1
    have hA := hR2.fr hfr (by omega)
    have hB := hS.fr hfr (by omega)
    refine mx_iload_n d_G_gather_10 rfl ?_
    refine mx_aload_n d_G_gather_11 rfl (by omega) ?_
    refine mx_gl d_G_gather_12 f_G_39 hA.1 rfl ?_
    refine mx_icmp_ge 60 d_G_gather_15 (by decide) (fun c15 => ?_) (fun c15 => ?_)
    · skip
      refine mx_return d_G_gather_60 rfl ?_
      exact k M cnt L U R D P LP GO hfr hG ((show i = n by omega) ▸ hI)
    · skip
      refine mx_aload_n d_G_gather_18 rfl (by omega) ?_
      refine mx_gl d_G_gather_19 f_G_47 hB.1 rfl ?_
      refine mx_iload_n d_G_gather_22 rfl ?_
      refine mx_iald d_G_gather_23 hB.2 (by omega) (by omega) ?_
      refine mx_iload_n d_G_gather_24 rfl ?_
      refine mx_icmp_ne 37 d_G_gather_25 (by decide) (fun c25 => ?_) (fun c25 => ?_)
      · skip
        have hfi := hf i h0 (by omega)
        have hgo := hI.2.1 (f i) (by omega) (by omega)
        have hpp := pu_cnt_le (fun j => decide (f j = LP (GO (f i)))) i.toNat
        rw [← hI.2.2.2.2.2.1 (GO (f i)) (by omega) (by omega)] at hpp
        refine mx_aload_n d_G_gather_37 rfl (by omega) ?_
        refine mx_aload_n d_G_gather_38 rfl (by omega) ?_
        refine mx_gl d_G_gather_39 f_G_30 hG.1 rfl ?_
        refine mx_aload_n d_G_gather_42 rfl (by omega) ?_
        refine mx_gl d_G_gather_43 f_G_47 hB.1 rfl ?_
        refine mx_iload_n d_G_gather_46 rfl ?_
        refine mx_iald d_G_gather_47 hB.2 (by omega) (by omega) ?_
        refine mx_iald d_G_gather_48 hG.2.2.2.2.2.1 (by omega) (by omega) ?_
        refine mx_aload_n d_G_gather_49 rfl (by omega) ?_
        refine mx_iload_n d_G_gather_50 rfl ?_
        refine mx_cV3 d_G_gather_51 c_G_56 hG.1 (by decide) (Nat.le_of_ble_eq_true rfl) ?_
        refine bf_extend ho hG ho2 hA hdj (by omega) (by omega) (by omega) (by omega) h0 (by omega) (by omega) (fun M' hfr' hG' => ?_)
        have hI' := pu_grp_extend hI h0 (fun j j0 j1 => hf j j0 (by omega)) (by omega) rfl
        refine mx_iinc d_G_gather_54 rfl (by unfold mv_r; omega) ?_
        refine mx_goto 10 d_G_gather_57 (by decide) ?_
        exact ih (i + 1) M' _ _ _ _ _ _ _ _ (by omega) (by omega) (by omega) (hfr.trans hfr') hG' hI'
      · skip
        refine mx_aload_n d_G_gather_28 rfl (by omega) ?_
        refine mx_aload_n d_G_gather_29 rfl (by omega) ?_
        refine mx_iload_n d_G_gather_30 rfl ?_
        refine mx_cV2 d_G_gather_31 c_G_52 hG.1 (by decide) (Nat.le_of_ble_eq_true rfl) ?_
        refine bf_begin ho hG ho2 hA hdj (by omega) (by omega) h0 (by omega) (by omega) (fun M' hfr' hG' => ?_)
        have hI' := pu_grp_begin hI h0 (fun j j0 j1 => hf j j0 (by omega)) (by omega)
        refine mx_goto 54 d_G_gather_34 (by decide) ?_
        refine mx_iinc d_G_gather_54 rfl (by unfold mv_r; omega) ?_
        refine mx_goto 10 d_G_gather_57 (by decide) ?_
        exact ih (i + 1) M' _ _ _ _ _ _ _ _ (by omega) (by omega) (by omega) (hfr.trans hfr') hG' hI'
theorem bf_gather {Q : List mv_V → mv_M → Prop} {M : mv_M} {o : Nat} {cnt : Int} {L U R D P LP Z GO OR PL : Int → Int} (ho : 2 ≤ o) (hG : bf_G M o cnt L U R D P LP Z GO OR PL) {o2 n2 o3 : Nat} {n sc : Int} {mem : Int} {f FL FU FR FD : Int → Int} (ho2 : 2 ≤ o2) (ho3 : 2 ≤ o3) (hdj : o + 12 ≤ o2 ∨ o2 + 5 ≤ o) (hdj3 : o + 12 ≤ o3 ∨ o3 + 2 ≤ o) (hR2 : bf_R M o2 n2 n FL FU FR FD) (hS : bf_S M o3 mem sc f) (hn0 : 0 ≤ n) (hn : n ≤ 64) (hn2 : n ≤ n2) (hf : ∀ j, 0 ≤ j → j < n → 0 ≤ f j ∧ f j ≤ j ∧ f (f j) = f j) (k : ∀ M' cnt' L' U' R' D' P' LP' GO', bf_fr M M' o (o + 12) → bf_G M' o cnt' L' U' R' D' P' LP' Z GO' OR PL → pu_grp n f FL FU FR FD cnt' L' U' R' D' P' LP' GO' → Q [] M')  : mv_J md_G_gather [.inr o, .inr o2, .inr o3] M Q := by
  refine mv_enter (by decide +kernel) (Nat.le_of_ble_eq_true rfl) ?_
  show mv_W md_G_gather 0 [.inr o, .inr o2, .inr o3, .inr 0] [] M (0, 0) Q
  refine mx_aload_n d_G_gather_0 rfl (by omega) ?_
  refine mx_gl d_G_gather_1 f_G_14 hG.1 rfl ?_
  refine mx_iconst (0) d_G_gather_4 (by decide +kernel) (by unfold mv_r; omega) ?_
  refine mx_pl d_G_gather_5 g_G_39 hG.2.1.1 (mv_Vi _) (Nat.le_of_ble_eq_true rfl) ?_
  refine mx_iconst (0) d_G_gather_8 (by decide +kernel) (by unfold mv_r; omega) ?_
  refine mx_istore_n d_G_gather_9 (by decide) ?_
  have hG1 : bf_G (mv_p M (o + 1) (.inr (ki_R, mv_l [.inr (o + 1 + 1), .inr (o + 1 + 2), .inr (o + 1 + 3), .inr (o + 1 + 4), .inl 0]))) o 0 L U R D P LP Z GO OR PL := hG.rect (fun j hj => mv_pn (by omega)) ⟨mv_ps, by rw [mv_pn (by omega)]; exact hG.2.1.2.1, by rw [mv_pn (by omega)]; exact hG.2.1.2.2.1, by rw [mv_pn (by omega)]; exact hG.2.1.2.2.2.1, by rw [mv_pn (by omega)]; exact hG.2.1.2.2.2.2⟩
  exact bf_gather_l (M0 := M) ho ho2 ho3 hdj hdj3 hR2 hS hn hn2 hf k (n.toNat + 1) 0 _ 0 L U R D P LP GO (by omega) (by omega) (by omega) (bf_fr.refl.put (by omega) (by omega)) hG1 pu_grp0
