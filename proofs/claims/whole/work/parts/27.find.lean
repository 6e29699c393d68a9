/-! the class: find -/
theorem pu_grp_ok {n : Int} {f FL FU FR FD : Int → Int} {cnt : Int} {L U R D P LP GO : Int → Int} (h : pu_grp n f FL FU FR FD cnt L U R D P LP GO) (hb : bf_ok n FL FU FR FD) : bf_ok cnt L U R D := by
  intro g g0 g1
  obtain ⟨⟨a1, a, a2, a3, a4, a5⟩, ⟨b1, b, b2, b3, b4, b5⟩, ⟨c1, c, c2, c3, c4, c5⟩, ⟨d1, d, d2, d3, d4, d5⟩⟩ := h.2.2.2.2.2.2 g g0 g1
  have ha := hb a a2 a3
  have hb' := hb b b2 b3
  have hc := hb c c2 c3
  have hd := hb d d2 d3
  have e1 := c1 a a2 a3 a4
  have e2 := d1 b b2 b3 b4
  omega
def bf_3 (M : mv_M) (BS HB LB : Int → Int) : Prop := M.2 43 = .inl (64, BS) ∧ M.2 44 = .inl (64, HB) ∧ M.2 45 = .inl (64, LB)
theorem bf_3.fr {M M' : mv_M} {BS HB LB : Int → Int} (h : bf_3 M BS HB LB) {a b : Nat} (hf : bf_fr M M' a b) (hd : 46 ≤ a ∨ b ≤ 43) : bf_3 M' BS HB LB := by unfold bf_3; rw [hf 43 (by omega), hf 44 (by omega), hf 45 (by omega)]; exact h
theorem bf_ms2 {Q : List mv_V → mv_M → Prop} {M0 : mv_M} {W H t : Int} (hO0 : bf_O M0 W H t) {nb : Int} {BL BU BR BD : Int → Int} (hB0 : bf_R M0 3 64 nb BL BU BR BD) (hb : bf_ok nb BL BU BR BD) (hn0 : 0 ≤ nb) (hn : nb ≤ 64) {nl : Int} {LL LU LR LD LP LM LZ LG LO LX : Int → Int} (hL0 : bf_G M0 19 nl LL LU LR LD LP LM LZ LG LO LX) {nk : Int} {KL KU KR KD KP KM KZ KG KO KX : Int → Int} (hK0 : bf_G M0 31 nk KL KU KR KD KP KM KZ KG KO KX) (hnk0 : 0 ≤ nk) (hnk : nk ≤ 64) (ht : t = 0 ∨ t = 1) (hlg : ∀ j, 0 ≤ j → j < nb → 0 ≤ LG j ∧ LG j < 64 ∧ 0 ≤ KG (LG j) ∧ KG (LG j) < nk) (k : ∀ M' BS HB LB, bf_fr M0 M' 43 46 → bf_3 M' BS HB LB → pu_msr nb nk (fun j => KG (LG j)) (fun j => bf_o t BD BR j - bf_o t BU BL j) BS HB LB → Q [] M') : ∀ (d : Nat) (i : Int) (M : mv_M) (BS HB LB : Int → Int) (v2 v3 : mv_V), nb - i < d → 0 ≤ i → i ≤ nb → bf_fr M0 M 43 46 → bf_3 M BS HB LB → pu_msr i nk (fun j => KG (LG j)) (fun j => bf_o t BD BR j - bf_o t BU BL j) BS HB LB → mv_W md_BF_measureBoxesOfBlocks 44 [.inr 2, .inl i, v2, v3] [] M (0, 0) Q := by
  intro d
  induction d with
  | zero =>
    intro i M BS HB LB v2 v3 hd i0 i1 hfr h3 hI
    exfalso; omega
  | succ d ih =>
    intro i M BS HB LB v2 v3 hd i0 i1 hfr h3 hI
    have hO := hO0.fr hfr (by omega)
    have hBx := hB0.fr hfr (by omega)
    have hLn := hL0.fr hfr (by omega)
    have hBk := hK0.fr hfr (by omega)
    refine mx_iload_n d_BF_measureBoxesOfBlocks_44 rfl ?_
    refine mx_aload_n d_BF_measureBoxesOfBlocks_45 rfl (by omega) ?_
    refine mx_gl d_BF_measureBoxesOfBlocks_46 f_BF_14 hO rfl ?_
    refine mx_gl d_BF_measureBoxesOfBlocks_49 f_BF_110 hBx.1 rfl ?_
    refine mx_icmp_ge 122 d_BF_measureBoxesOfBlocks_52 (by decide) (fun c52 => ?_) (fun c52 => ?_)
    · skip
      refine mx_return d_BF_measureBoxesOfBlocks_122 rfl ?_
      exact k M BS HB LB hfr h3 ((show i = nb by omega) ▸ hI)
    · skip
      refine mx_aload_n d_BF_measureBoxesOfBlocks_55 rfl (by omega) ?_
      refine mx_iload_n d_BF_measureBoxesOfBlocks_56 rfl ?_
      refine mx_cV1 d_BF_measureBoxesOfBlocks_57 c_BF_114 hO (by decide) (Nat.le_of_ble_eq_true rfl) ?_
      have hgi := hlg i i0 (by omega)
      have hms := hI (KG (LG i)) hgi.2.2.1 hgi.2.2.2
      have hcl := pu_cnt_le (fun j => decide (KG (LG j) = KG (LG i))) i.toNat
      have hbo := bf_ob hb i0 (by omega) t
      refine bf_groupOfBox hO hLn hBk i0 (by omega) hgi.1 hgi.2.1 ?_
      refine mx_istore_n d_BF_measureBoxesOfBlocks_60 (by decide) ?_
      refine mx_aload_n d_BF_measureBoxesOfBlocks_61 rfl (by omega) ?_
      refine mx_gl d_BF_measureBoxesOfBlocks_62 f_BF_14 hO rfl ?_
      refine mx_iload_n d_BF_measureBoxesOfBlocks_65 rfl ?_
      refine mx_aload_n d_BF_measureBoxesOfBlocks_66 rfl (by omega) ?_
      refine mx_gl d_BF_measureBoxesOfBlocks_67 f_BF_57 hO rfl ?_
      refine mx_cV2 d_BF_measureBoxesOfBlocks_70 c_BF_174 hBx.1 (by decide) (Nat.le_of_ble_eq_true rfl) ?_
      refine bf_height (by omega) hBx hn hb i0 (by omega) ht ?_
      refine mx_istore_n d_BF_measureBoxesOfBlocks_73 (by decide) ?_
      refine mx_aload_n d_BF_measureBoxesOfBlocks_74 rfl (by omega) ?_
      refine mx_gl d_BF_measureBoxesOfBlocks_75 f_BF_44 hO rfl ?_
      refine mx_iload_n d_BF_measureBoxesOfBlocks_78 rfl ?_
      refine mx_dup2 d_BF_measureBoxesOfBlocks_79 ?_
      refine mx_iald d_BF_measureBoxesOfBlocks_80 h3.1 (by omega) (by omega) ?_
      refine mx_iconst (1) d_BF_measureBoxesOfBlocks_81 (by decide +kernel) (by unfold mv_r; omega) ?_
      refine mx_iadd d_BF_measureBoxesOfBlocks_82 (by have q1 : BS (KG (LG i)) = pu_cnt (fun j => decide (KG (LG j) = KG (LG i))) i.toNat := hms.1; unfold mv_r; omega) ?_
      refine mx_iast d_BF_measureBoxesOfBlocks_83 h3.1 (by omega) (by omega) (by omega) ?_
      refine mx_aload_n d_BF_measureBoxesOfBlocks_84 rfl (by omega) ?_
      refine mx_gl d_BF_measureBoxesOfBlocks_85 f_BF_48 (by rw [mv_pn (by omega)]; exact hO) rfl ?_
      refine mx_iload_n d_BF_measureBoxesOfBlocks_88 rfl ?_
      refine mx_aload_n d_BF_measureBoxesOfBlocks_89 rfl (by omega) ?_
      refine mx_gl d_BF_measureBoxesOfBlocks_90 f_BF_48 (by rw [mv_pn (by omega)]; exact hO) rfl ?_
      refine mx_iload_n d_BF_measureBoxesOfBlocks_93 rfl ?_
      refine mx_iald d_BF_measureBoxesOfBlocks_94 (by rw [mv_pn (by omega)]; exact h3.2.1) (by omega) (by omega) ?_
      refine mx_iload_n d_BF_measureBoxesOfBlocks_95 rfl ?_
      refine mx_max d_BF_measureBoxesOfBlocks_96 c_BF_146 (by decide) (Nat.le_of_ble_eq_true rfl) ?_
      refine mx_iast d_BF_measureBoxesOfBlocks_99 (by rw [mv_pn (by omega)]; exact h3.2.1) (by omega) (by omega) (by omega) ?_
      refine mx_aload_n d_BF_measureBoxesOfBlocks_100 rfl (by omega) ?_
      refine mx_gl d_BF_measureBoxesOfBlocks_101 f_BF_51 (by rw [mv_pn (by omega), mv_pn (by omega)]; exact hO) rfl ?_
      refine mx_iload_n d_BF_measureBoxesOfBlocks_104 rfl ?_
      refine mx_aload_n d_BF_measureBoxesOfBlocks_105 rfl (by omega) ?_
      refine mx_gl d_BF_measureBoxesOfBlocks_106 f_BF_51 (by rw [mv_pn (by omega), mv_pn (by omega)]; exact hO) rfl ?_
      refine mx_iload_n d_BF_measureBoxesOfBlocks_109 rfl ?_
      refine mx_iald d_BF_measureBoxesOfBlocks_110 (by rw [mv_pn (by omega), mv_pn (by omega)]; exact h3.2.2) (by omega) (by omega) ?_
      refine mx_iload_n d_BF_measureBoxesOfBlocks_111 rfl ?_
      refine mx_min d_BF_measureBoxesOfBlocks_112 c_BF_141 (by decide) (Nat.le_of_ble_eq_true rfl) ?_
      refine mx_iast d_BF_measureBoxesOfBlocks_115 (by rw [mv_pn (by omega), mv_pn (by omega)]; exact h3.2.2) (by omega) (by omega) (by omega) ?_
      refine mx_iinc d_BF_measureBoxesOfBlocks_116 rfl (by unfold mv_r; omega) ?_
      refine mx_goto 44 d_BF_measureBoxesOfBlocks_119 (by decide) ?_
      exact ih (i + 1) _ _ _ _ _ _ (by omega) (by omega) (by omega) (((hfr.put (by omega) (by omega)).put (by omega) (by omega)).put (by omega) (by omega)) ⟨by rw [mv_pn (by omega), mv_pn (by omega), mv_ps], by rw [mv_pn (by omega), mv_ps], mv_ps⟩ (pu_msr_s hI i0 rfl rfl (by omega) (by omega))
theorem bf_ms1 {Q : List mv_V → mv_M → Prop} {M0 : mv_M} {W H t : Int} (hO0 : bf_O M0 W H t) {nb : Int} {BL BU BR BD : Int → Int} (hB0 : bf_R M0 3 64 nb BL BU BR BD) (hb : bf_ok nb BL BU BR BD) (hn0 : 0 ≤ nb) (hn : nb ≤ 64) {nl : Int} {LL LU LR LD LP LM LZ LG LO LX : Int → Int} (hL0 : bf_G M0 19 nl LL LU LR LD LP LM LZ LG LO LX) {nk : Int} {KL KU KR KD KP KM KZ KG KO KX : Int → Int} (hK0 : bf_G M0 31 nk KL KU KR KD KP KM KZ KG KO KX) (hnk0 : 0 ≤ nk) (hnk : nk ≤ 64) (ht : t = 0 ∨ t = 1) (hlg : ∀ j, 0 ≤ j → j < nb → 0 ≤ LG j ∧ LG j < 64 ∧ 0 ≤ KG (LG j) ∧ KG (LG j) < nk) {v2 v3 : mv_V} (k : ∀ M' BS HB LB, bf_fr M0 M' 43 46 → bf_3 M' BS HB LB → (∀ b, 0 ≤ b → b < nk → BS b = 0 ∧ HB b = 0 ∧ LB b = 4096) → mv_W md_BF_measureBoxesOfBlocks 44 [.inr 2, .inl 0, v2, v3] [] M' (0, 0) Q) : ∀ (d : Nat) (i : Int) (M : mv_M) (BS HB LB : Int → Int), nk - i < d → 0 ≤ i → i ≤ nk → bf_fr M0 M 43 46 → bf_3 M BS HB LB → (∀ b, 0 ≤ b → b < i → BS b = 0 ∧ HB b = 0 ∧ LB b = 4096) → mv_W md_BF_measureBoxesOfBlocks 2 [.inr 2, .inl i, v2, v3] [] M (0, 0) Q := by
  intro d
  induction d with
  | zero =>
    intro i M BS HB LB hd i0 i1 hfr h3 hI
    exfalso; omega
  | succ d ih =>
    intro i M BS HB LB hd i0 i1 hfr h3 hI
    have hO := hO0.fr hfr (by omega)
    have hBx := hB0.fr hfr (by omega)
    have hLn := hL0.fr hfr (by omega)
    have hBk := hK0.fr hfr (by omega)
    refine mx_iload_n d_BF_measureBoxesOfBlocks_2 rfl ?_
    refine mx_aload_n d_BF_measureBoxesOfBlocks_3 rfl (by omega) ?_
    refine mx_gl d_BF_measureBoxesOfBlocks_4 f_BF_41 hO rfl ?_
    refine mx_cV0 d_BF_measureBoxesOfBlocks_7 c_BF_96 hBk.1 (by decide) (Nat.le_of_ble_eq_true rfl) ?_
    refine bf_size (by omega) hBk ?_
    refine mx_icmp_ge 42 d_BF_measureBoxesOfBlocks_10 (by decide) (fun c10 => ?_) (fun c10 => ?_)
    · skip
      refine mx_iconst (0) d_BF_measureBoxesOfBlocks_42 (by decide +kernel) (by unfold mv_r; omega) ?_
      refine mx_istore_n d_BF_measureBoxesOfBlocks_43 (by decide) ?_
      exact k M BS HB LB hfr h3 (fun b b0 b1 => hI b b0 (by omega))
    · skip
      refine mx_aload_n d_BF_measureBoxesOfBlocks_13 rfl (by omega) ?_
      refine mx_gl d_BF_measureBoxesOfBlocks_14 f_BF_44 hO rfl ?_
      refine mx_iload_n d_BF_measureBoxesOfBlocks_17 rfl ?_
      refine mx_iconst (0) d_BF_measureBoxesOfBlocks_18 (by decide +kernel) (by unfold mv_r; omega) ?_
      refine mx_iast d_BF_measureBoxesOfBlocks_19 h3.1 (by omega) (by omega) (by omega) ?_
      refine mx_aload_n d_BF_measureBoxesOfBlocks_20 rfl (by omega) ?_
      refine mx_gl d_BF_measureBoxesOfBlocks_21 f_BF_48 (by rw [mv_pn (by omega)]; exact hO) rfl ?_
      refine mx_iload_n d_BF_measureBoxesOfBlocks_24 rfl ?_
      refine mx_iconst (0) d_BF_measureBoxesOfBlocks_25 (by decide +kernel) (by unfold mv_r; omega) ?_
      refine mx_iast d_BF_measureBoxesOfBlocks_26 (by rw [mv_pn (by omega)]; exact h3.2.1) (by omega) (by omega) (by omega) ?_
      refine mx_aload_n d_BF_measureBoxesOfBlocks_27 rfl (by omega) ?_
      refine mx_gl d_BF_measureBoxesOfBlocks_28 f_BF_51 (by rw [mv_pn (by omega), mv_pn (by omega)]; exact hO) rfl ?_
      refine mx_iload_n d_BF_measureBoxesOfBlocks_31 rfl ?_
      refine mx_sipush (4096) d_BF_measureBoxesOfBlocks_32 (by decide +kernel) (by unfold mv_r; omega) ?_
      refine mx_iast d_BF_measureBoxesOfBlocks_35 (by rw [mv_pn (by omega), mv_pn (by omega)]; exact h3.2.2) (by omega) (by omega) (by omega) ?_
      refine mx_iinc d_BF_measureBoxesOfBlocks_36 rfl (by unfold mv_r; omega) ?_
      refine mx_goto 2 d_BF_measureBoxesOfBlocks_39 (by decide) ?_
      exact ih (i + 1) _ _ _ _ (by omega) (by omega) (by omega) (((hfr.put (by omega) (by omega)).put (by omega) (by omega)).put (by omega) (by omega)) ⟨by rw [mv_pn (by omega), mv_pn (by omega), mv_ps], by rw [mv_pn (by omega), mv_ps], mv_ps⟩ (fun b b0 b1 => by
        by_cases hbi : b = i
        · rw [hbi, mv_ss, mv_ss, mv_ss]; exact ⟨rfl, rfl, rfl⟩
        · rw [mv_sn hbi, mv_sn hbi, mv_sn hbi]; exact hI b b0 (by omega))
theorem bf_measure {Q : List mv_V → mv_M → Prop} {M : mv_M} {W H t : Int} (hO0 : bf_O M W H t) {nb : Int} {BL BU BR BD : Int → Int} (hB0 : bf_R M 3 64 nb BL BU BR BD) (hb : bf_ok nb BL BU BR BD) (hn0 : 0 ≤ nb) (hn : nb ≤ 64) {nl : Int} {LL LU LR LD LP LM LZ LG LO LX : Int → Int} (hL0 : bf_G M 19 nl LL LU LR LD LP LM LZ LG LO LX) {nk : Int} {KL KU KR KD KP KM KZ KG KO KX : Int → Int} (hK0 : bf_G M 31 nk KL KU KR KD KP KM KZ KG KO KX) (hnk0 : 0 ≤ nk) (hnk : nk ≤ 64) (ht : t = 0 ∨ t = 1) (hlg : ∀ j, 0 ≤ j → j < nb → 0 ≤ LG j ∧ LG j < 64 ∧ 0 ≤ KG (LG j) ∧ KG (LG j) < nk) {BS0 HB0 LB0 : Int → Int} (h3 : bf_3 M BS0 HB0 LB0) (k : ∀ M' BS HB LB, bf_fr M M' 43 46 → bf_3 M' BS HB LB → pu_msr nb nk (fun j => KG (LG j)) (fun j => bf_o t BD BR j - bf_o t BU BL j) BS HB LB → Q [] M') : mv_J md_BF_measureBoxesOfBlocks [.inr 2] M Q := by
  refine mv_enter (by decide +kernel) (Nat.le_of_ble_eq_true rfl) ?_
  show mv_W md_BF_measureBoxesOfBlocks 0 [.inr 2, .inr 0, .inr 0, .inr 0] [] M (0, 0) Q
  refine mx_iconst (0) d_BF_measureBoxesOfBlocks_0 (by decide +kernel) (by unfold mv_r; omega) ?_
  refine mx_istore_n d_BF_measureBoxesOfBlocks_1 (by decide) ?_
  refine bf_ms1 hO0 hB0 hb hn0 hn hL0 hK0 hnk0 hnk ht hlg (fun M' BS HB LB hfr h3' hz => ?_) (nk.toNat + 1) 0 M BS0 HB0 LB0 (by omega) (by omega) hnk0 bf_fr.refl h3 (fun b b0 b1 => by omega)
  exact bf_ms2 hO0 hB0 hb hn0 hn hL0 hK0 hnk0 hnk ht hlg k (nb.toNat + 1) 0 M' BS HB LB _ _ (by omega) (by omega) hn0 hfr h3' (pu_msr0 hz)
theorem bf_fp {Q : List mv_V → mv_M → Prop} {M0 : mv_M} {W H t : Int} (hO0 : bf_O M0 W H t) {nb : Int} {BL BU BR BD : Int → Int} (hB0 : bf_R M0 3 64 nb BL BU BR BD) (hb : bf_ok nb BL BU BR BD) (hn0 : 0 ≤ nb) (hn : nb ≤ 64) {nl : Int} {LL LU LR LD LP LM LZ LG LO LX : Int → Int} (hL0 : bf_G M0 19 nl LL LU LR LD LP LM LZ LG LO LX) {nk : Int} {KL KU KR KD KP KM KZ KG KO KX : Int → Int} (hK0 : bf_G M0 31 nk KL KU KR KD KP KM KZ KG KO KX) (hnk0 : 0 ≤ nk) (hnk : nk ≤ 64) (ht : t = 0 ∨ t = 1) (hlg : ∀ j, 0 ≤ j → j < nb → 0 ≤ LG j ∧ LG j < 64 ∧ 0 ≤ KG (LG j) ∧ KG (LG j) < nk) (k : ∀ M' PB, bf_fr M0 M' 46 47 → M'.2 46 = .inl (64, PB) → (∀ j, 0 ≤ j → j < nb → PB j = KX (KG (LG j))) → Q [.inl nk] M') : ∀ (d : Nat) (i : Int) (M : mv_M) (PB : Int → Int), nb - i < d → 0 ≤ i → i ≤ nb → bf_fr M0 M 46 47 → M.2 46 = .inl (64, PB) → (∀ j, 0 ≤ j → j < i → PB j = KX (KG (LG j))) → mv_W md_BF_find 156 [.inr 2, .inl i] [] M (0, 0) Q := by
  intro d
  induction d with
  | zero =>
    intro i M PB hd i0 i1 hfr hPB hI
    exfalso; omega
  | succ d ih =>
    intro i M PB hd i0 i1 hfr hPB hI
    have hO := hO0.fr hfr (by omega)
    have hBx := hB0.fr hfr (by omega)
    have hLn := hL0.fr hfr (by omega)
    have hBk := hK0.fr hfr (by omega)
    refine mx_iload_n d_BF_find_156 rfl ?_
    refine mx_aload_n d_BF_find_157 rfl (by omega) ?_
    refine mx_gl d_BF_find_158 f_BF_14 hO rfl ?_
    refine mx_gl d_BF_find_161 f_BF_110 hBx.1 rfl ?_
    refine mx_icmp_ge 192 d_BF_find_164 (by decide) (fun c164 => ?_) (fun c164 => ?_)
    · skip
      refine mx_aload_n d_BF_find_192 rfl (by omega) ?_
      refine mx_gl d_BF_find_193 f_BF_41 hO rfl ?_
      refine mx_cV0 d_BF_find_196 c_BF_96 hBk.1 (by decide) (Nat.le_of_ble_eq_true rfl) ?_
      refine bf_size (by omega) hBk ?_
      refine mx_ireturn d_BF_find_199 rfl ?_
      exact k M PB hfr hPB (fun j j0 j1 => hI j j0 (by omega))
    · skip
      refine mx_aload_n d_BF_find_167 rfl (by omega) ?_
      refine mx_gl d_BF_find_168 f_BF_54 hO rfl ?_
      refine mx_iload_n d_BF_find_171 rfl ?_
      refine mx_aload_n d_BF_find_172 rfl (by omega) ?_
      refine mx_gl d_BF_find_173 f_BF_41 hO rfl ?_
      refine mx_gl d_BF_find_176 f_BF_111 hBk.1 rfl ?_
      refine mx_aload_n d_BF_find_179 rfl (by omega) ?_
      refine mx_iload_n d_BF_find_180 rfl ?_
      refine mx_cV1 d_BF_find_181 c_BF_114 hO (by decide) (Nat.le_of_ble_eq_true rfl) ?_
      have hgi := hlg i i0 (by omega)
      refine bf_groupOfBox hO hLn hBk i0 (by omega) hgi.1 hgi.2.1 ?_
      refine mx_iald d_BF_find_184 hBk.2.2.2.2.2.2.2 (by omega) (by omega) ?_
      refine mx_iast d_BF_find_185 hPB (by omega) (by omega) (by omega) ?_
      refine mx_iinc d_BF_find_186 rfl (by unfold mv_r; omega) ?_
      refine mx_goto 156 d_BF_find_189 (by decide) ?_
      exact ih (i + 1) _ _ (by omega) (by omega) (by omega) (hfr.put (by omega) (by omega)) mv_ps (fun j j0 j1 => by
        by_cases hj : j = i
        · rw [hj, mv_ss]
        · rw [mv_sn hj]; exact hI j j0 (by omega))
