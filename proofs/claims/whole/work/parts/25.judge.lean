/-! the class: joining lines; judging -/
theorem bf_jl_in {Q : List mv_V → mv_M → Prop} {M0 : mv_M} {W H nl t : Int} {LL LU LR LD LP LM LZ LG LO LX : Int → Int} (hO0 : bf_O M0 W H t) (hL0 : bf_G M0 19 nl LL LU LR LD LP LM LZ LG LO LX) (hb : bf_ok nl LL LU LR LD) (hn0 : 0 ≤ nl) (hn : nl ≤ 64) (ht : t = 0 ∨ t = 1) {i : Int} (i0 : 0 ≤ i) (i1 : i < nl) (k : ∀ M' c f j, bf_fr M0 M' 17 19 → bf_S M' 17 nl c f → nl ≤ j → pu_lab nl (fun a b => (a < i ∨ (a = i ∧ b < j)) ∧ a < b ∧ bf_nl t LL LU LR LD a b) f → c = pu_cnt (fun m => decide (f m = m)) nl.toNat → mv_W md_BF_joinLines 76 [.inr 2, .inl i, .inl j] [] M' (0, 0) Q) : ∀ (d : Nat) (j : Int) (M : mv_M) (c : Int) (f : Int → Int), nl - j < d → i < j → j ≤ nl → bf_fr M0 M 17 19 → bf_S M 17 nl c f → pu_lab nl (fun a b => (a < i ∨ (a = i ∧ b < j)) ∧ a < b ∧ bf_nl t LL LU LR LD a b) f → c = pu_cnt (fun m => decide (f m = m)) nl.toNat → mv_W md_BF_joinLines 31 [.inr 2, .inl i, .inl j] [] M (0, 0) Q := by
  intro d
  induction d with
  | zero =>
    intro j M c f h1 h2 h3
    exfalso; omega
  | succ d ih =>
    intro j M c f hd ij j1 hfr hS hI hc
    have hO := hO0.fr hfr (by omega)
    have hLn := hL0.fr hfr (by omega)
    have hcb := pu_cnt_le (fun m => decide (f m = m)) nl.toNat
    rw [← hc] at hcb
    refine mx_iload_n d_BF_joinLines_31 rfl ?_
    refine mx_aload_n d_BF_joinLines_32 rfl (by omega) ?_
    refine mx_gl d_BF_joinLines_33 f_BF_37 hO rfl ?_
    refine mx_cV0 d_BF_joinLines_36 c_BF_96 hLn.1 (by decide) (Nat.le_of_ble_eq_true rfl) ?_
    refine bf_size (by omega) hLn ?_
    refine mx_icmp_ge 76 d_BF_joinLines_39 (by decide) (fun c39 => ?_) (fun c39 => ?_)
    · skip
      exact k M c f j hfr hS (by omega) hI hc
    · skip
      refine mx_aload_n d_BF_joinLines_42 rfl (by omega) ?_
      refine mx_gl d_BF_joinLines_43 f_BF_37 hO rfl ?_
      refine mx_gl d_BF_joinLines_46 f_BF_90 hLn.1 rfl ?_
      refine mx_iload_n d_BF_joinLines_49 rfl ?_
      refine mx_iload_n d_BF_joinLines_50 rfl ?_
      refine mx_aload_n d_BF_joinLines_51 rfl (by omega) ?_
      refine mx_gl d_BF_joinLines_52 f_BF_57 hO rfl ?_
      refine mx_cV3 d_BF_joinLines_55 c_BF_168 hLn.2.1.1 (by decide) (Nat.le_of_ble_eq_true rfl) ?_
      refine bf_areNearAsLines (by omega) hLn.2.1 hn hb i0 i1 (by omega) (by omega) ht (fun hnb => ?_) (fun hnb => ?_)
      · skip
        refine mx_z1 70 d_BF_joinLines_58 (by decide) ?_
        refine mx_aload_n d_BF_joinLines_61 rfl (by omega) ?_
        refine mx_gl d_BF_joinLines_62 f_BF_31 hO rfl ?_
        refine mx_iload_n d_BF_joinLines_65 rfl ?_
        refine mx_iload_n d_BF_joinLines_66 rfl ?_
        refine mx_cV2 d_BF_joinLines_67 c_BF_164 hS.1 (by decide) (Nat.le_of_ble_eq_true rfl) ?_
        have hlab := hI.1
        have hli := hlab i i0 i1
        have hlj := hlab j (by omega) (by omega)
        refine bf_join (by omega) hS hn (by omega) (by omega) i0 i1 (by omega) (by omega) (by unfold mv_r; omega) (by unfold mv_r; omega) (fun hs => ?_) (fun M' f' hne hfr' hS' hf' => ?_)
        · skip
          have hfr2 := hfr
          have hS2 := hS
          have hI2 := (pu_lab_same hI i0 ij (by omega) hs).resolve_right (fun h => h hnb)
          have hc2 := hc
          refine mx_iinc d_BF_joinLines_70 rfl (by unfold mv_r; omega) ?_
          refine mx_goto 31 d_BF_joinLines_73 (by decide) ?_
          exact ih (j + 1) _ _ _ (by omega) (by omega) (by omega) hfr2 hS2 hI2 hc2
        · skip
          have hfr2 := hfr.trans hfr'
          have hS2 := hS'
          have hI2 := pu_lab_next hI i0 ij (by omega) hnb hf'
          have hc2 : c - 1 = pu_cnt (fun m => decide (f' m = m)) nl.toNat := by
            rw [hc, ← pu_join_cnt hI i0 i1 (by omega) (by omega) hne]
            exact pu_cnt_congr (fun m m0 m1 => by rw [hf' m m0 (by omega)])
          refine mx_iinc d_BF_joinLines_70 rfl (by unfold mv_r; omega) ?_
          refine mx_goto 31 d_BF_joinLines_73 (by decide) ?_
          exact ih (j + 1) _ _ _ (by omega) (by omega) (by omega) hfr2 hS2 hI2 hc2
      · skip
        have hfr2 := hfr
        have hS2 := hS
        have hI2 := pu_lab_not hI hnb
        have hc2 := hc
        refine mx_z0 70 d_BF_joinLines_58 (by decide) ?_
        refine mx_iinc d_BF_joinLines_70 rfl (by unfold mv_r; omega) ?_
        refine mx_goto 31 d_BF_joinLines_73 (by decide) ?_
        exact ih (j + 1) _ _ _ (by omega) (by omega) (by omega) hfr2 hS2 hI2 hc2
theorem bf_jl_out {Q : List mv_V → mv_M → Prop} {M0 : mv_M} {W H nl t : Int} {LL LU LR LD LP LM LZ LG LO LX : Int → Int} (hO0 : bf_O M0 W H t) (hL0 : bf_G M0 19 nl LL LU LR LD LP LM LZ LG LO LX) (hb : bf_ok nl LL LU LR LD) (hn0 : 0 ≤ nl) (hn : nl ≤ 64) (ht : t = 0 ∨ t = 1) (k : ∀ M' c f, bf_fr M0 M' 17 19 → bf_S M' 17 nl c f → pu_lab nl (fun a b => a < b ∧ bf_nl t LL LU LR LD a b) f → c = pu_cnt (fun m => decide (f m = m)) nl.toNat → Q [] M') : ∀ (d : Nat) (i : Int) (M : mv_M) (c : Int) (f : Int → Int) (jv : mv_V), nl - i < d → 0 ≤ i → i ≤ nl → bf_fr M0 M 17 19 → bf_S M 17 nl c f → pu_lab nl (fun a b => (a < i ∨ (a = i ∧ b < i + 1)) ∧ a < b ∧ bf_nl t LL LU LR LD a b) f → c = pu_cnt (fun m => decide (f m = m)) nl.toNat → mv_W md_BF_joinLines 16 [.inr 2, .inl i, jv] [] M (0, 0) Q := by
  intro d
  induction d with
  | zero =>
    intro i M c f jv h1 h2 h3
    exfalso; omega
  | succ d ih =>
    intro i M c f jv hd i0 i1 hfr hS hI hc
    have hO := hO0.fr hfr (by omega)
    have hLn := hL0.fr hfr (by omega)
    have hcb := pu_cnt_le (fun m => decide (f m = m)) nl.toNat
    rw [← hc] at hcb
    refine mx_iload_n d_BF_joinLines_16 rfl ?_
    refine mx_aload_n d_BF_joinLines_17 rfl (by omega) ?_
    refine mx_gl d_BF_joinLines_18 f_BF_37 hO rfl ?_
    refine mx_cV0 d_BF_joinLines_21 c_BF_96 hLn.1 (by decide) (Nat.le_of_ble_eq_true rfl) ?_
    refine bf_size (by omega) hLn ?_
    refine mx_icmp_ge 82 d_BF_joinLines_24 (by decide) (fun c24 => ?_) (fun c24 => ?_)
    · skip
      refine mx_return d_BF_joinLines_82 rfl ?_
      exact k M c f hfr hS (pu_lab_all hI (by omega)) hc
    · skip
      refine mx_iload_n d_BF_joinLines_27 rfl ?_
      refine mx_iconst (1) d_BF_joinLines_28 (by decide +kernel) (by unfold mv_r; omega) ?_
      refine mx_iadd d_BF_joinLines_29 (by unfold mv_r; omega) ?_
      refine mx_istore_n d_BF_joinLines_30 (by decide) ?_
      refine bf_jl_in hO0 hL0 hb hn0 hn ht i0 (by omega) ?_ (nl.toNat + 1) (i + 1) M c f (by omega) (by omega) (by omega) hfr hS hI hc
      intro M' c' f' j' hfr' hS' hj' hI' hc'
      refine mx_iinc d_BF_joinLines_76 rfl (by unfold mv_r; omega) ?_
      refine mx_goto 16 d_BF_joinLines_79 (by decide) ?_
      exact ih (i + 1) M' c' f' _ (by omega) (by omega) (by omega) hfr' hS' (pu_lab_row hI' hj') hc'
theorem bf_joinLines {Q : List mv_V → mv_M → Prop} {M : mv_M} {W H nl t : Int} {LL LU LR LD LP LM LZ LG LO LX : Int → Int} (hO : bf_O M W H t) (hLn : bf_G M 19 nl LL LU LR LD LP LM LZ LG LO LX) (hb : bf_ok nl LL LU LR LD) (hn0 : 0 ≤ nl) (hn : nl ≤ 64) (ht : t = 0 ∨ t = 1) {mem sc : Int} {f0 : Int → Int} (hS : bf_S M 17 mem sc f0) (k : ∀ M' c f, bf_fr M M' 17 19 → bf_S M' 17 nl c f → pu_lab nl (fun a b => a < b ∧ bf_nl t LL LU LR LD a b) f → c = pu_cnt (fun m => decide (f m = m)) nl.toNat → Q [] M') : mv_J md_BF_joinLines [.inr 2] M Q := by
  refine mv_enter (by decide +kernel) (Nat.le_of_ble_eq_true rfl) ?_
  show mv_W md_BF_joinLines 0 [.inr 2, .inr 0, .inr 0] [] M (0, 0) Q
  refine mx_aload_n d_BF_joinLines_0 rfl (by omega) ?_
  refine mx_gl d_BF_joinLines_1 f_BF_31 hO rfl ?_
  refine mx_aload_n d_BF_joinLines_4 rfl (by omega) ?_
  refine mx_gl d_BF_joinLines_5 f_BF_37 hO rfl ?_
  refine mx_cV0 d_BF_joinLines_8 c_BF_96 hLn.1 (by decide) (Nat.le_of_ble_eq_true rfl) ?_
  refine bf_size (by omega) hLn ?_
  refine mx_cV1 d_BF_joinLines_11 c_BF_157 hS.1 (by decide) (Nat.le_of_ble_eq_true rfl) ?_
  refine bf_scatter (by omega) hS hn0 hn (fun M' f hfr hS' hf => ?_)
  refine mx_iconst (0) d_BF_joinLines_14 (by decide +kernel) (by unfold mv_r; omega) ?_
  refine mx_istore_n d_BF_joinLines_15 (by decide) ?_
  exact bf_jl_out hO hLn hb hn0 hn ht k (nl.toNat + 1) 0 M' nl f (.inr 0) (by omega) (by omega) hn0 hfr hS' (pu_lab_begin hf) (by rw [pu_cnt_id (fun j j0 j1 => hf j j0 (by omega))]; omega)
theorem bf_groupOfBox {Q : List mv_V → mv_M → Prop} {M : mv_M} {W H t : Int} (hO : bf_O M W H t) {nl : Int} {LL LU LR LD LP LM LZ LG LO LX : Int → Int} (hLn : bf_G M 19 nl LL LU LR LD LP LM LZ LG LO LX) {nk : Int} {KL KU KR KD KP KM KZ KG KO KX : Int → Int} (hBk : bf_G M 31 nk KL KU KR KD KP KM KZ KG KO KX) {i : Int} (i0 : 0 ≤ i) (i1 : i < 64) (g0 : 0 ≤ LG i) (g1 : LG i < 64) (k : Q [.inl (KG (LG i))] M)  : mv_J md_BF_groupOfBox [.inr 2, .inl i] M Q := by
  refine mv_enter (by decide +kernel) (Nat.le_of_ble_eq_true rfl) ?_
  show mv_W md_BF_groupOfBox 0 [.inr 2, .inl i] [] M (0, 0) Q
  refine mx_aload_n d_BF_groupOfBox_0 rfl (by omega) ?_
  refine mx_gl d_BF_groupOfBox_1 f_BF_41 hO rfl ?_
  refine mx_gl d_BF_groupOfBox_4 f_BF_171 hBk.1 rfl ?_
  refine mx_aload_n d_BF_groupOfBox_7 rfl (by omega) ?_
  refine mx_gl d_BF_groupOfBox_8 f_BF_37 hO rfl ?_
  refine mx_gl d_BF_groupOfBox_11 f_BF_171 hLn.1 rfl ?_
  refine mx_iload_n d_BF_groupOfBox_14 rfl ?_
  refine mx_iald d_BF_groupOfBox_15 hLn.2.2.2.2.2.1 (by omega) (by omega) ?_
  refine mx_iald d_BF_groupOfBox_16 hBk.2.2.2.2.2.1 (by omega) (by omega) ?_
  refine mx_ireturn d_BF_groupOfBox_17 rfl ?_
  exact k
def bf_stamp (W H : Int) (KL KD : Int → Int) (b : Int) : Prop := 3 * W ≤ 4 * KL b ∧ 3 * KD b ≤ H
def bf_sender (W H : Int) (KR KD : Int → Int) (b : Int) : Prop := 2 * KR b ≤ W ∧ 4 * KD b ≤ H
theorem bf_isStamp {Q : List mv_V → mv_M → Prop} {M : mv_M} {W H t : Int} (hO : bf_O M W H t) {nk : Int} {KL KU KR KD KP KM KZ KG KO KX : Int → Int} (hBk : bf_G M 31 nk KL KU KR KD KP KM KZ KG KO KX) (w1 : 1 ≤ W) (w2 : W ≤ 4096) (h1 : 1 ≤ H) (h2 : H ≤ 4096) {b : Int} (b0 : 0 ≤ b) (b1 : b < nk) (hnk : nk ≤ 64) (hb : bf_ok nk KL KU KR KD) (k1 : bf_stamp W H KL KD b → Q [.inl 1] M) (k0 : ¬ bf_stamp W H KL KD b → Q [.inl 0] M)  : mv_J md_BF_isStamp [.inr 2, .inl b] M Q := by
  refine mv_enter (by decide +kernel) (Nat.le_of_ble_eq_true rfl) ?_
  show mv_W md_BF_isStamp 0 [.inr 2, .inl b] [] M (0, 0) Q
  have hbb := hb b b0 b1
  refine mx_iconst (4) d_BF_isStamp_0 (by decide +kernel) (by unfold mv_r; omega) ?_
  refine mx_aload_n d_BF_isStamp_1 rfl (by omega) ?_
  refine mx_gl d_BF_isStamp_2 f_BF_41 hO rfl ?_
  refine mx_gl d_BF_isStamp_5 f_BF_90 hBk.1 rfl ?_
  refine mx_gl d_BF_isStamp_8 f_BF_187 hBk.2.1.1 rfl ?_
  refine mx_iload_n d_BF_isStamp_11 rfl ?_
  refine mx_iald d_BF_isStamp_12 hBk.2.1.2.1 (by omega) (by omega) ?_
  refine mx_imul d_BF_isStamp_13 (by unfold mv_r; omega) ?_
  refine mx_iconst (3) d_BF_isStamp_14 (by decide +kernel) (by unfold mv_r; omega) ?_
  refine mx_aload_n d_BF_isStamp_15 rfl (by omega) ?_
  refine mx_gl d_BF_isStamp_16 f_BF_65 hO rfl ?_
  refine mx_imul d_BF_isStamp_19 (by unfold mv_r; omega) ?_
  refine mx_icmp_lt 48 d_BF_isStamp_20 (by decide) (fun c20 => ?_) (fun c20 => ?_)
  · skip
    refine mx_iconst (0) d_BF_isStamp_48 (by decide +kernel) (by unfold mv_r; omega) ?_
    refine mx_zreturn d_BF_isStamp_49 rfl (by omega) ?_
    first | exact k1 (by unfold bf_stamp; omega) | exact k0 (by unfold bf_stamp; omega)
  · skip
    refine mx_iconst (3) d_BF_isStamp_23 (by decide +kernel) (by unfold mv_r; omega) ?_
    refine mx_aload_n d_BF_isStamp_24 rfl (by omega) ?_
    refine mx_gl d_BF_isStamp_25 f_BF_41 hO rfl ?_
    refine mx_gl d_BF_isStamp_28 f_BF_90 hBk.1 rfl ?_
    refine mx_gl d_BF_isStamp_31 f_BF_196 hBk.2.1.1 rfl ?_
    refine mx_iload_n d_BF_isStamp_34 rfl ?_
    refine mx_iald d_BF_isStamp_35 hBk.2.1.2.2.2.2 (by omega) (by omega) ?_
    refine mx_imul d_BF_isStamp_36 (by unfold mv_r; omega) ?_
    refine mx_aload_n d_BF_isStamp_37 rfl (by omega) ?_
    refine mx_gl d_BF_isStamp_38 f_BF_69 hO rfl ?_
    refine mx_icmp_gt 48 d_BF_isStamp_41 (by decide) (fun c41 => ?_) (fun c41 => ?_)
    · skip
      refine mx_iconst (0) d_BF_isStamp_48 (by decide +kernel) (by unfold mv_r; omega) ?_
      refine mx_zreturn d_BF_isStamp_49 rfl (by omega) ?_
      first | exact k1 (by unfold bf_stamp; omega) | exact k0 (by unfold bf_stamp; omega)
    · skip
      refine mx_iconst (1) d_BF_isStamp_44 (by decide +kernel) (by unfold mv_r; omega) ?_
      refine mx_goto 49 d_BF_isStamp_45 (by decide) ?_
      refine mx_zreturn d_BF_isStamp_49 rfl (by omega) ?_
      first | exact k1 (by unfold bf_stamp; omega) | exact k0 (by unfold bf_stamp; omega)
theorem bf_isSender {Q : List mv_V → mv_M → Prop} {M : mv_M} {W H t : Int} (hO : bf_O M W H t) {nk : Int} {KL KU KR KD KP KM KZ KG KO KX : Int → Int} (hBk : bf_G M 31 nk KL KU KR KD KP KM KZ KG KO KX) (w1 : 1 ≤ W) (w2 : W ≤ 4096) (h1 : 1 ≤ H) (h2 : H ≤ 4096) {b : Int} (b0 : 0 ≤ b) (b1 : b < nk) (hnk : nk ≤ 64) (hb : bf_ok nk KL KU KR KD) (k1 : bf_sender W H KR KD b → Q [.inl 1] M) (k0 : ¬ bf_sender W H KR KD b → Q [.inl 0] M)  : mv_J md_BF_isSender [.inr 2, .inl b] M Q := by
  refine mv_enter (by decide +kernel) (Nat.le_of_ble_eq_true rfl) ?_
  show mv_W md_BF_isSender 0 [.inr 2, .inl b] [] M (0, 0) Q
  have hbb := hb b b0 b1
  refine mx_iconst (2) d_BF_isSender_0 (by decide +kernel) (by unfold mv_r; omega) ?_
  refine mx_aload_n d_BF_isSender_1 rfl (by omega) ?_
  refine mx_gl d_BF_isSender_2 f_BF_41 hO rfl ?_
  refine mx_gl d_BF_isSender_5 f_BF_90 hBk.1 rfl ?_
  refine mx_gl d_BF_isSender_8 f_BF_190 hBk.2.1.1 rfl ?_
  refine mx_iload_n d_BF_isSender_11 rfl ?_
  refine mx_iald d_BF_isSender_12 hBk.2.1.2.2.2.1 (by omega) (by omega) ?_
  refine mx_imul d_BF_isSender_13 (by unfold mv_r; omega) ?_
  refine mx_aload_n d_BF_isSender_14 rfl (by omega) ?_
  refine mx_gl d_BF_isSender_15 f_BF_65 hO rfl ?_
  refine mx_icmp_gt 46 d_BF_isSender_18 (by decide) (fun c18 => ?_) (fun c18 => ?_)
  · skip
    refine mx_iconst (0) d_BF_isSender_46 (by decide +kernel) (by unfold mv_r; omega) ?_
    refine mx_zreturn d_BF_isSender_47 rfl (by omega) ?_
    first | exact k1 (by unfold bf_sender; omega) | exact k0 (by unfold bf_sender; omega)
  · skip
    refine mx_iconst (4) d_BF_isSender_21 (by decide +kernel) (by unfold mv_r; omega) ?_
    refine mx_aload_n d_BF_isSender_22 rfl (by omega) ?_
    refine mx_gl d_BF_isSender_23 f_BF_41 hO rfl ?_
    refine mx_gl d_BF_isSender_26 f_BF_90 hBk.1 rfl ?_
    refine mx_gl d_BF_isSender_29 f_BF_196 hBk.2.1.1 rfl ?_
    refine mx_iload_n d_BF_isSender_32 rfl ?_
    refine mx_iald d_BF_isSender_33 hBk.2.1.2.2.2.2 (by omega) (by omega) ?_
    refine mx_imul d_BF_isSender_34 (by unfold mv_r; omega) ?_
    refine mx_aload_n d_BF_isSender_35 rfl (by omega) ?_
    refine mx_gl d_BF_isSender_36 f_BF_69 hO rfl ?_
    refine mx_icmp_gt 46 d_BF_isSender_39 (by decide) (fun c39 => ?_) (fun c39 => ?_)
    · skip
      refine mx_iconst (0) d_BF_isSender_46 (by decide +kernel) (by unfold mv_r; omega) ?_
      refine mx_zreturn d_BF_isSender_47 rfl (by omega) ?_
      first | exact k1 (by unfold bf_sender; omega) | exact k0 (by unfold bf_sender; omega)
    · skip
      refine mx_iconst (1) d_BF_isSender_42 (by decide +kernel) (by unfold mv_r; omega) ?_
      refine mx_goto 47 d_BF_isSender_43 (by decide) ?_
      refine mx_zreturn d_BF_isSender_47 rfl (by omega) ?_
      first | exact k1 (by unfold bf_sender; omega) | exact k0 (by unfold bf_sender; omega)
def bf_enc (NL NU NR ND KL KU KR KD : Int → Int) (p b : Int) : Prop := NL p ≤ KL b ∧ KR b ≤ NR p ∧ NU p ≤ KU b ∧ KD b ≤ ND p
def bf_inp (np : Int) (NL NU NR ND KL KU KR KD : Int → Int) (b : Int) : Prop := ∃ p, 0 ≤ p ∧ p < np ∧ bf_enc NL NU NR ND KL KU KR KD p b
theorem bf_lip_l {Q : List mv_V → mv_M → Prop} {W H t : Int} {M : mv_M} (hO : bf_O M W H t) {nk : Int} {KL KU KR KD KP KM KZ KG KO KX : Int → Int} (hBk : bf_G M 31 nk KL KU KR KD KP KM KZ KG KO KX) {np : Int} {NL NU NR ND : Int → Int} (hPn : bf_R M 8 8 np NL NU NR ND) (np0 : 0 ≤ np) (np8 : np ≤ 8) {b : Int} (b0 : 0 ≤ b) (b1 : b < 64) (k1 : bf_inp np NL NU NR ND KL KU KR KD b → Q [.inl 1] M) (k0 : ¬ bf_inp np NL NU NR ND KL KU KR KD b → Q [.inl 0] M) : ∀ (d : Nat) (p : Int), np - p < d → 0 ≤ p → p ≤ np → (∀ q, 0 ≤ q → q < p → ¬ bf_enc NL NU NR ND KL KU KR KD q b) → mv_W md_BF_liesInPane 2 [.inr 2, .inl b, .inl p] [] M (0, 0) Q := by
  intro d
  induction d with
  | zero =>
    intro p hd p0 p1 hp
    exfalso; omega
  | succ d ih =>
    intro p hd p0 p1 hp
    refine mx_iload_n d_BF_liesInPane_2 rfl ?_
    refine mx_aload_n d_BF_liesInPane_3 rfl (by omega) ?_
    refine mx_gl d_BF_liesInPane_4 f_BF_18 hO rfl ?_
    refine mx_gl d_BF_liesInPane_7 f_BF_110 hPn.1 rfl ?_
    refine mx_icmp_ge 40 d_BF_liesInPane_10 (by decide) (fun c10 => ?_) (fun c10 => ?_)
    · skip
      refine mx_iconst (0) d_BF_liesInPane_40 (by decide +kernel) (by unfold mv_r; omega) ?_
      refine mx_zreturn d_BF_liesInPane_41 rfl (by omega) ?_
      exact k0 (fun ⟨q, q0, q1, he⟩ => hp q q0 (by omega) he)
    · skip
      refine mx_aload_n d_BF_liesInPane_13 rfl (by omega) ?_
      refine mx_gl d_BF_liesInPane_14 f_BF_18 hO rfl ?_
      refine mx_iload_n d_BF_liesInPane_17 rfl ?_
      refine mx_aload_n d_BF_liesInPane_18 rfl (by omega) ?_
      refine mx_gl d_BF_liesInPane_19 f_BF_41 hO rfl ?_
      refine mx_gl d_BF_liesInPane_22 f_BF_90 hBk.1 rfl ?_
      refine mx_iload_n d_BF_liesInPane_25 rfl ?_
      refine mx_cV3 d_BF_liesInPane_26 c_BF_202 hPn.1 (by decide) (Nat.le_of_ble_eq_true rfl) ?_
      refine bf_encloses (by omega) hPn (by omega) hBk.2.1 p0 (by omega) b0 (by omega) (fun he => ?_) (fun he => ?_)
      · skip
        refine mx_z1 34 d_BF_liesInPane_29 (by decide) ?_
        refine mx_iconst (1) d_BF_liesInPane_32 (by decide +kernel) (by unfold mv_r; omega) ?_
        refine mx_zreturn d_BF_liesInPane_33 rfl (by omega) ?_
        exact k1 ⟨p, p0, by omega, he⟩
      · skip
        refine mx_z0 34 d_BF_liesInPane_29 (by decide) ?_
        refine mx_iinc d_BF_liesInPane_34 rfl (by unfold mv_r; omega) ?_
        refine mx_goto 2 d_BF_liesInPane_37 (by decide) ?_
        exact ih (p + 1) (by omega) (by omega) (by omega) (fun q q0 q1 => by
          by_cases hq : q = p
          · rw [hq]; exact he
          · exact hp q q0 (by omega))
theorem bf_liesInPane {Q : List mv_V → mv_M → Prop} {M : mv_M} {W H t : Int} (hO : bf_O M W H t) {nk : Int} {KL KU KR KD KP KM KZ KG KO KX : Int → Int} (hBk : bf_G M 31 nk KL KU KR KD KP KM KZ KG KO KX) {np : Int} {NL NU NR ND : Int → Int} (hPn : bf_R M 8 8 np NL NU NR ND) (np0 : 0 ≤ np) (np8 : np ≤ 8) {b : Int} (b0 : 0 ≤ b) (b1 : b < 64) (k1 : bf_inp np NL NU NR ND KL KU KR KD b → Q [.inl 1] M) (k0 : ¬ bf_inp np NL NU NR ND KL KU KR KD b → Q [.inl 0] M)  : mv_J md_BF_liesInPane [.inr 2, .inl b] M Q := by
  refine mv_enter (by decide +kernel) (Nat.le_of_ble_eq_true rfl) ?_
  show mv_W md_BF_liesInPane 0 [.inr 2, .inl b, .inr 0] [] M (0, 0) Q
  refine mx_iconst (0) d_BF_liesInPane_0 (by decide +kernel) (by unfold mv_r; omega) ?_
  refine mx_istore_n d_BF_liesInPane_1 (by decide) ?_
  exact bf_lip_l hO hBk hPn np0 np8 b0 b1 k1 k0 (np.toNat + 1) 0 (by omega) (by omega) np0 (fun q q0 q1 => by omega)
def bf_if (c : Prop) (x : Int) (r : Int) : Prop := (c ∧ r = x) ∨ (¬ c ∧ r = 0)
theorem bf_j161 {Q : List mv_V → mv_M → Prop} {M : mv_M} {W H t : Int} (hO : bf_O M W H t) {nk : Int} {KL KU KR KD KP KM KZ KG KO KX : Int → Int} (hBk : bf_G M 31 nk KL KU KR KD KP KM KZ KG KO KX) (w1 : 1 ≤ W) (w2 : W ≤ 4096) (h1 : 1 ≤ H) (h2 : H ≤ 4096) {b : Int} (b0 : 0 ≤ b) (b1 : b < nk) (hnk : nk ≤ 64) (hb : bf_ok nk KL KU KR KD) {ip sm : Int} (s0 : 0 ≤ sm) (s1 : sm ≤ 1000)  (k : ∀ r, bf_if (ip ≠ 0) 25 r → Q [.inl (sm + r)] M) : mv_W md_BF_judge 161 [.inr 2, .inl b, .inl ip, .inl sm] [] M (0, 0) Q := by
  have hbb := hb b b0 b1
  refine mx_iload_n d_BF_judge_161 rfl ?_
  refine mx_if_eq 172 d_BF_judge_162 (by decide) (fun c162 => ?_) (fun c162 => ?_)
  · skip
    refine mx_iload_n d_BF_judge_172 rfl ?_
    refine mx_ireturn d_BF_judge_173 rfl ?_
    first | (have q := k 25 (Or.inl ⟨by omega, rfl⟩); exact q) | (have q := k 0 (Or.inr ⟨by omega, rfl⟩); rw [Int.add_zero] at q; exact q)
  · skip
    refine mx_iload_n d_BF_judge_165 rfl ?_
    refine mx_bipush (25) d_BF_judge_166 (by decide +kernel) (by unfold mv_r; omega) ?_
    refine mx_iadd d_BF_judge_168 (by unfold mv_r; omega) ?_
    refine mx_goto 173 d_BF_judge_169 (by decide) ?_
    refine mx_ireturn d_BF_judge_173 rfl ?_
    first | (have q := k 25 (Or.inl ⟨by omega, rfl⟩); exact q) | (have q := k 0 (Or.inr ⟨by omega, rfl⟩); rw [Int.add_zero] at q; exact q)
theorem bf_j133 {Q : List mv_V → mv_M → Prop} {M : mv_M} {W H t : Int} (hO : bf_O M W H t) {nk : Int} {KL KU KR KD KP KM KZ KG KO KX : Int → Int} (hBk : bf_G M 31 nk KL KU KR KD KP KM KZ KG KO KX) (w1 : 1 ≤ W) (w2 : W ≤ 4096) (h1 : 1 ≤ H) (h2 : H ≤ 4096) {b : Int} (b0 : 0 ≤ b) (b1 : b < nk) (hnk : nk ≤ 64) (hb : bf_ok nk KL KU KR KD) {ip sm : Int} (s0 : 0 ≤ sm) (s1 : sm ≤ 1000)  (k : ∀ r, bf_if (2 * ((KR b - KL b) * (KD b - KU b)) ≤ W * H) 10 r → mv_W md_BF_judge 161 [.inr 2, .inl b, .inl ip, .inl (sm + r)] [] M (0, 0) Q) : mv_W md_BF_judge 133 [.inr 2, .inl b, .inl ip, .inl sm] [] M (0, 0) Q := by
  have hbb := hb b b0 b1
  refine mx_iconst (2) d_BF_judge_133 (by decide +kernel) (by unfold mv_r; omega) ?_
  refine mx_aload_n d_BF_judge_134 rfl (by omega) ?_
  refine mx_gl d_BF_judge_135 f_BF_41 hO rfl ?_
  refine mx_gl d_BF_judge_138 f_BF_90 hBk.1 rfl ?_
  refine mx_iload_n d_BF_judge_141 rfl ?_
  refine mx_cV1 d_BF_judge_142 c_BF_199 hBk.2.1.1 (by decide) (Nat.le_of_ble_eq_true rfl) ?_
  refine bf_area (by omega) hBk.2.1 hnk hb b0 b1 ?_
  refine mx_imul d_BF_judge_145 (by have q := bf_mul (a := KR b - KL b) (b := KD b - KU b) (by omega) (by omega) (by omega) (by omega); unfold mv_r; omega) ?_
  refine mx_aload_n d_BF_judge_146 rfl (by omega) ?_
  refine mx_gl d_BF_judge_147 f_BF_65 hO rfl ?_
  refine mx_aload_n d_BF_judge_150 rfl (by omega) ?_
  refine mx_gl d_BF_judge_151 f_BF_69 hO rfl ?_
  refine mx_imul d_BF_judge_154 (by have q := bf_mul (a := W) (b := H) (by omega) (by omega) (by omega) (by omega); unfold mv_r; omega) ?_
  refine mx_icmp_gt 161 d_BF_judge_155 (by decide) (fun c155 => ?_) (fun c155 => ?_)
  · skip
    first | exact k 10 (Or.inl ⟨by omega, rfl⟩) | (have q := k 0 (Or.inr ⟨by omega, rfl⟩); rw [Int.add_zero] at q; exact q)
  · skip
    refine mx_iinc d_BF_judge_158 rfl (by unfold mv_r; omega) ?_
    first | exact k 10 (Or.inl ⟨by omega, rfl⟩) | (have q := k 0 (Or.inr ⟨by omega, rfl⟩); rw [Int.add_zero] at q; exact q)
theorem bf_j98 {Q : List mv_V → mv_M → Prop} {M : mv_M} {W H t : Int} (hO : bf_O M W H t) {nk : Int} {KL KU KR KD KP KM KZ KG KO KX : Int → Int} (hBk : bf_G M 31 nk KL KU KR KD KP KM KZ KG KO KX) (w1 : 1 ≤ W) (w2 : W ≤ 4096) (h1 : 1 ≤ H) (h2 : H ≤ 4096) {b : Int} (b0 : 0 ≤ b) (b1 : b < nk) (hnk : nk ≤ 64) (hb : bf_ok nk KL KU KR KD) {ip sm : Int} (s0 : 0 ≤ sm) (s1 : sm ≤ 1000)  (k : ∀ r, bf_if (H ≤ KU b + KD b) 15 r → mv_W md_BF_judge 133 [.inr 2, .inl b, .inl ip, .inl (sm + r)] [] M (0, 0) Q) : mv_W md_BF_judge 98 [.inr 2, .inl b, .inl ip, .inl sm] [] M (0, 0) Q := by
  have hbb := hb b b0 b1
  refine mx_aload_n d_BF_judge_98 rfl (by omega) ?_
  refine mx_gl d_BF_judge_99 f_BF_41 hO rfl ?_
  refine mx_gl d_BF_judge_102 f_BF_90 hBk.1 rfl ?_
  refine mx_gl d_BF_judge_105 f_BF_193 hBk.2.1.1 rfl ?_
  refine mx_iload_n d_BF_judge_108 rfl ?_
  refine mx_iald d_BF_judge_109 hBk.2.1.2.2.1 (by omega) (by omega) ?_
  refine mx_aload_n d_BF_judge_110 rfl (by omega) ?_
  refine mx_gl d_BF_judge_111 f_BF_41 hO rfl ?_
  refine mx_gl d_BF_judge_114 f_BF_90 hBk.1 rfl ?_
  refine mx_gl d_BF_judge_117 f_BF_196 hBk.2.1.1 rfl ?_
  refine mx_iload_n d_BF_judge_120 rfl ?_
  refine mx_iald d_BF_judge_121 hBk.2.1.2.2.2.2 (by omega) (by omega) ?_
  refine mx_iadd d_BF_judge_122 (by unfold mv_r; omega) ?_
  refine mx_aload_n d_BF_judge_123 rfl (by omega) ?_
  refine mx_gl d_BF_judge_124 f_BF_69 hO rfl ?_
  refine mx_icmp_lt 133 d_BF_judge_127 (by decide) (fun c127 => ?_) (fun c127 => ?_)
  · skip
    first | exact k 15 (Or.inl ⟨by omega, rfl⟩) | (have q := k 0 (Or.inr ⟨by omega, rfl⟩); rw [Int.add_zero] at q; exact q)
  · skip
    refine mx_iinc d_BF_judge_130 rfl (by unfold mv_r; omega) ?_
    first | exact k 15 (Or.inl ⟨by omega, rfl⟩) | (have q := k 0 (Or.inr ⟨by omega, rfl⟩); rw [Int.add_zero] at q; exact q)
theorem bf_j63 {Q : List mv_V → mv_M → Prop} {M : mv_M} {W H t : Int} (hO : bf_O M W H t) {nk : Int} {KL KU KR KD KP KM KZ KG KO KX : Int → Int} (hBk : bf_G M 31 nk KL KU KR KD KP KM KZ KG KO KX) (w1 : 1 ≤ W) (w2 : W ≤ 4096) (h1 : 1 ≤ H) (h2 : H ≤ 4096) {b : Int} (b0 : 0 ≤ b) (b1 : b < nk) (hnk : nk ≤ 64) (hb : bf_ok nk KL KU KR KD) {ip sm : Int} (s0 : 0 ≤ sm) (s1 : sm ≤ 1000)  (k : ∀ r, bf_if (W ≤ KL b + KR b) 15 r → mv_W md_BF_judge 98 [.inr 2, .inl b, .inl ip, .inl (sm + r)] [] M (0, 0) Q) : mv_W md_BF_judge 63 [.inr 2, .inl b, .inl ip, .inl sm] [] M (0, 0) Q := by
  have hbb := hb b b0 b1
  refine mx_aload_n d_BF_judge_63 rfl (by omega) ?_
  refine mx_gl d_BF_judge_64 f_BF_41 hO rfl ?_
  refine mx_gl d_BF_judge_67 f_BF_90 hBk.1 rfl ?_
  refine mx_gl d_BF_judge_70 f_BF_187 hBk.2.1.1 rfl ?_
  refine mx_iload_n d_BF_judge_73 rfl ?_
  refine mx_iald d_BF_judge_74 hBk.2.1.2.1 (by omega) (by omega) ?_
  refine mx_aload_n d_BF_judge_75 rfl (by omega) ?_
  refine mx_gl d_BF_judge_76 f_BF_41 hO rfl ?_
  refine mx_gl d_BF_judge_79 f_BF_90 hBk.1 rfl ?_
  refine mx_gl d_BF_judge_82 f_BF_190 hBk.2.1.1 rfl ?_
  refine mx_iload_n d_BF_judge_85 rfl ?_
  refine mx_iald d_BF_judge_86 hBk.2.1.2.2.2.1 (by omega) (by omega) ?_
  refine mx_iadd d_BF_judge_87 (by unfold mv_r; omega) ?_
  refine mx_aload_n d_BF_judge_88 rfl (by omega) ?_
  refine mx_gl d_BF_judge_89 f_BF_65 hO rfl ?_
  refine mx_icmp_lt 98 d_BF_judge_92 (by decide) (fun c92 => ?_) (fun c92 => ?_)
  · skip
    first | exact k 15 (Or.inl ⟨by omega, rfl⟩) | (have q := k 0 (Or.inr ⟨by omega, rfl⟩); rw [Int.add_zero] at q; exact q)
  · skip
    refine mx_iinc d_BF_judge_95 rfl (by unfold mv_r; omega) ?_
    first | exact k 15 (Or.inl ⟨by omega, rfl⟩) | (have q := k 0 (Or.inr ⟨by omega, rfl⟩); rw [Int.add_zero] at q; exact q)
/-- the points of block b -/
def bf_pts (W H : Int) (np : Int) (NL NU NR ND KL KU KR KD KP : Int → Int) (b r : Int) : Prop := (¬ bf_inp np NL NU NR ND KL KU KR KD b ∧ (bf_stamp W H KL KD b ∨ bf_sender W H KR KD b) ∧ r = 0) ∨ ((bf_inp np NL NU NR ND KL KU KR KD b ∨ ¬ (bf_stamp W H KL KD b ∨ bf_sender W H KR KD b)) ∧ ∃ r0 r1 r2 r3 r4, ((2 ≤ KP b ∧ KP b ≤ 6 ∧ r0 = 30) ∨ (¬ (2 ≤ KP b ∧ KP b ≤ 6) ∧ r0 = 10)) ∧ bf_if (W ≤ KL b + KR b) 15 r1 ∧ bf_if (H ≤ KU b + KD b) 15 r2 ∧ bf_if (2 * ((KR b - KL b) * (KD b - KU b)) ≤ W * H) 10 r3 ∧ bf_if (bf_inp np NL NU NR ND KL KU KR KD b) 25 r4 ∧ r = r0 + r1 + r2 + r3 + r4)
theorem bf_if_b {c : Prop} {x r : Int} (h : bf_if c x r) (hx : 0 ≤ x) (hx2 : x ≤ 25) : 0 ≤ r ∧ r ≤ 25 := by rcases h with ⟨_, rfl⟩ | ⟨_, rfl⟩ <;> omega
theorem bf_j28 {Q : List mv_V → mv_M → Prop} {M : mv_M} {W H t : Int} (hO : bf_O M W H t) {nk : Int} {KL KU KR KD KP KM KZ KG KO KX : Int → Int} (hBk : bf_G M 31 nk KL KU KR KD KP KM KZ KG KO KX) (w1 : 1 ≤ W) (w2 : W ≤ 4096) (h1 : 1 ≤ H) (h2 : H ≤ 4096) {b : Int} (b0 : 0 ≤ b) (b1 : b < nk) (hnk : nk ≤ 64) (hb : bf_ok nk KL KU KR KD) {ip : Int} {sv : mv_V} {IP : Prop} (hip : ip ≠ 0 ↔ IP) (k : ∀ r0 r1 r2 r3 r4, ((2 ≤ KP b ∧ KP b ≤ 6 ∧ r0 = 30) ∨ (¬ (2 ≤ KP b ∧ KP b ≤ 6) ∧ r0 = 10)) → bf_if (W ≤ KL b + KR b) 15 r1 → bf_if (H ≤ KU b + KD b) 15 r2 → bf_if (2 * ((KR b - KL b) * (KD b - KU b)) ≤ W * H) 10 r3 → bf_if IP 25 r4 → Q [.inl (r0 + r1 + r2 + r3 + r4)] M) : mv_W md_BF_judge 28 [.inr 2, .inl b, .inl ip, sv] [] M (0, 0) Q := by
  have K : ∀ r0, ((2 ≤ KP b ∧ KP b ≤ 6 ∧ r0 = 30) ∨ (¬ (2 ≤ KP b ∧ KP b ≤ 6) ∧ r0 = 10)) → mv_W md_BF_judge 63 [.inr 2, .inl b, .inl ip, .inl r0] [] M (0, 0) Q := by
    intro r0 h0
    have hr0 : 0 ≤ r0 ∧ r0 ≤ 30 := by omega
    refine bf_j63 hO hBk w1 w2 h1 h2 b0 b1 hnk hb (by omega) (by omega) (fun r1 e1 => ?_)
    have q1 := bf_if_b e1 (by omega) (by omega)
    refine bf_j98 hO hBk w1 w2 h1 h2 b0 b1 hnk hb (by omega) (by omega) (fun r2 e2 => ?_)
    have q2 := bf_if_b e2 (by omega) (by omega)
    refine bf_j133 hO hBk w1 w2 h1 h2 b0 b1 hnk hb (by omega) (by omega) (fun r3 e3 => ?_)
    have q3 := bf_if_b e3 (by omega) (by omega)
    refine bf_j161 hO hBk w1 w2 h1 h2 b0 b1 hnk hb (by omega) (by omega) (fun r4 e4 => ?_)
    exact k r0 r1 r2 r3 r4 h0 e1 e2 e3 (by unfold bf_if at e4 ⊢; rw [hip] at e4; exact e4)
  refine mx_aload_n d_BF_judge_28 rfl (by omega) ?_
  refine mx_gl d_BF_judge_29 f_BF_41 hO rfl ?_
  refine mx_gl d_BF_judge_32 f_BF_127 hBk.1 rfl ?_
  refine mx_iload_n d_BF_judge_35 rfl ?_
  refine mx_iald d_BF_judge_36 hBk.2.2.1 (by omega) (by omega) ?_
  refine mx_iconst (2) d_BF_judge_37 (by decide +kernel) (by unfold mv_r; omega) ?_
  refine mx_icmp_lt 60 d_BF_judge_38 (by decide) (fun c38 => ?_) (fun c38 => ?_)
  · skip
    refine mx_bipush (10) d_BF_judge_60 (by decide +kernel) (by unfold mv_r; omega) ?_
    refine mx_istore_n d_BF_judge_62 (by decide) ?_
    first | exact K 30 (Or.inl ⟨by omega, by omega, rfl⟩) | exact K 10 (Or.inr ⟨by omega, rfl⟩)
  · skip
    refine mx_aload_n d_BF_judge_41 rfl (by omega) ?_
    refine mx_gl d_BF_judge_42 f_BF_41 hO rfl ?_
    refine mx_gl d_BF_judge_45 f_BF_127 hBk.1 rfl ?_
    refine mx_iload_n d_BF_judge_48 rfl ?_
    refine mx_iald d_BF_judge_49 hBk.2.2.1 (by omega) (by omega) ?_
    refine mx_bipush (6) d_BF_judge_50 (by decide +kernel) (by unfold mv_r; omega) ?_
    refine mx_icmp_gt 60 d_BF_judge_52 (by decide) (fun c52 => ?_) (fun c52 => ?_)
    · skip
      refine mx_bipush (10) d_BF_judge_60 (by decide +kernel) (by unfold mv_r; omega) ?_
      refine mx_istore_n d_BF_judge_62 (by decide) ?_
      first | exact K 30 (Or.inl ⟨by omega, by omega, rfl⟩) | exact K 10 (Or.inr ⟨by omega, rfl⟩)
    · skip
      refine mx_bipush (30) d_BF_judge_55 (by decide +kernel) (by unfold mv_r; omega) ?_
      refine mx_goto 62 d_BF_judge_57 (by decide) ?_
      refine mx_istore_n d_BF_judge_62 (by decide) ?_
      first | exact K 30 (Or.inl ⟨by omega, by omega, rfl⟩) | exact K 10 (Or.inr ⟨by omega, rfl⟩)
theorem bf_judge {M : mv_M} {W H t : Int} (hO : bf_O M W H t) {nk : Int} {KL KU KR KD KP KM KZ KG KO KX : Int → Int} (hBk : bf_G M 31 nk KL KU KR KD KP KM KZ KG KO KX) {np : Int} {NL NU NR ND : Int → Int} (hPn : bf_R M 8 8 np NL NU NR ND) (np0 : 0 ≤ np) (np8 : np ≤ 8) (w1 : 1 ≤ W) (w2 : W ≤ 4096) (h1 : 1 ≤ H) (h2 : H ≤ 4096) {b : Int} (b0 : 0 ≤ b) (b1 : b < nk) (hnk : nk ≤ 64) (hb : bf_ok nk KL KU KR KD) {Q : List mv_V → mv_M → Prop} (k : ∀ r, bf_pts W H np NL NU NR ND KL KU KR KD KP b r → Q [.inl r] M)  : mv_J md_BF_judge [.inr 2, .inl b] M Q := by
  refine mv_enter (by decide +kernel) (Nat.le_of_ble_eq_true rfl) ?_
  show mv_W md_BF_judge 0 [.inr 2, .inl b, .inr 0, .inr 0] [] M (0, 0) Q
  refine mx_aload_n d_BF_judge_0 rfl (by omega) ?_
  refine mx_iload_n d_BF_judge_1 rfl ?_
  refine mx_cV1 d_BF_judge_2 c_BF_178 hO (by decide) (Nat.le_of_ble_eq_true rfl) ?_
  refine bf_liesInPane hO hBk hPn np0 np8 b0 (by omega) (fun hin => ?_) (fun hin => ?_)
  · skip
    refine mx_istore_n d_BF_judge_5 (by decide) ?_
    refine mx_iload_n d_BF_judge_6 rfl ?_
    refine mx_n1 28 d_BF_judge_7 (by decide) ?_
    first
      | exact bf_j28 hO hBk w1 w2 h1 h2 b0 b1 hnk hb (ip := 1) (IP := bf_inp np NL NU NR ND KL KU KR KD b) ⟨fun _ => hin, fun _ => by omega⟩ (fun r0 r1 r2 r3 r4 e0 e1 e2 e3 e4 => k _ (Or.inr ⟨Or.inl hin, r0, r1, r2, r3, r4, e0, e1, e2, e3, e4, rfl⟩))
      | exact bf_j28 hO hBk w1 w2 h1 h2 b0 b1 hnk hb (ip := 0) (IP := bf_inp np NL NU NR ND KL KU KR KD b) ⟨fun h => absurd rfl h, fun h => absurd h hin⟩ (fun r0 r1 r2 r3 r4 e0 e1 e2 e3 e4 => k _ (Or.inr ⟨Or.inr (fun q => q.elim hst hse), r0, r1, r2, r3, r4, e0, e1, e2, e3, e4, rfl⟩))
  · skip
    refine mx_istore_n d_BF_judge_5 (by decide) ?_
    refine mx_iload_n d_BF_judge_6 rfl ?_
    refine mx_n0 28 d_BF_judge_7 (by decide) ?_
    refine mx_aload_n d_BF_judge_10 rfl (by omega) ?_
    refine mx_iload_n d_BF_judge_11 rfl ?_
    refine mx_cV1 d_BF_judge_12 c_BF_181 hO (by decide) (Nat.le_of_ble_eq_true rfl) ?_
    refine bf_isStamp hO hBk w1 w2 h1 h2 b0 b1 hnk hb (fun hst => ?_) (fun hst => ?_)
    · skip
      refine mx_n1 26 d_BF_judge_15 (by decide) ?_
      refine mx_iconst (0) d_BF_judge_26 (by decide +kernel) (by unfold mv_r; omega) ?_
      refine mx_ireturn d_BF_judge_27 rfl ?_
      first | exact k 0 (Or.inl ⟨hin, Or.inl hst, rfl⟩) | exact k 0 (Or.inl ⟨hin, Or.inr hse, rfl⟩)
    · skip
      refine mx_n0 26 d_BF_judge_15 (by decide) ?_
      refine mx_aload_n d_BF_judge_18 rfl (by omega) ?_
      refine mx_iload_n d_BF_judge_19 rfl ?_
      refine mx_cV1 d_BF_judge_20 c_BF_184 hO (by decide) (Nat.le_of_ble_eq_true rfl) ?_
      refine bf_isSender hO hBk w1 w2 h1 h2 b0 b1 hnk hb (fun hse => ?_) (fun hse => ?_)
      · skip
        refine mx_z1 28 d_BF_judge_23 (by decide) ?_
        refine mx_iconst (0) d_BF_judge_26 (by decide +kernel) (by unfold mv_r; omega) ?_
        refine mx_ireturn d_BF_judge_27 rfl ?_
        first | exact k 0 (Or.inl ⟨hin, Or.inl hst, rfl⟩) | exact k 0 (Or.inl ⟨hin, Or.inr hse, rfl⟩)
      · skip
        refine mx_z0 28 d_BF_judge_23 (by decide) ?_
        first
          | exact bf_j28 hO hBk w1 w2 h1 h2 b0 b1 hnk hb (ip := 1) (IP := bf_inp np NL NU NR ND KL KU KR KD b) ⟨fun _ => hin, fun _ => by omega⟩ (fun r0 r1 r2 r3 r4 e0 e1 e2 e3 e4 => k _ (Or.inr ⟨Or.inl hin, r0, r1, r2, r3, r4, e0, e1, e2, e3, e4, rfl⟩))
          | exact bf_j28 hO hBk w1 w2 h1 h2 b0 b1 hnk hb (ip := 0) (IP := bf_inp np NL NU NR ND KL KU KR KD b) ⟨fun h => absurd rfl h, fun h => absurd h hin⟩ (fun r0 r1 r2 r3 r4 e0 e1 e2 e3 e4 => k _ (Or.inr ⟨Or.inr (fun q => q.elim hst hse), r0, r1, r2, r3, r4, e0, e1, e2, e3, e4, rfl⟩))
