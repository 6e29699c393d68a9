/-! the class: joining -/
def bf_O (M : mv_M) (W H t : Int) : Prop := M.2 2 = .inr (ki_BF, mv_l [.inl W, .inl H, .inr 3, .inr 8, .inr 13, .inr 15, .inr 17, .inr 19, .inr 31, .inr 43, .inr 44, .inr 45, .inr 46, .inl t])
theorem bf_O.fr {M M' : mv_M} {W H t : Int} (h : bf_O M W H t) {a b : Nat} (hf : bf_fr M M' a b) (hd : 3 ≤ a ∨ b ≤ 2) : bf_O M' W H t := by unfold bf_O; rw [hf 2 (by omega)]; exact h
theorem bf_jb_in {Q : List mv_V → mv_M → Prop} {M0 : mv_M} {W H t0 nb t : Int} {BL BU BR BD : Int → Int} {o3 : Nat} (hO0 : bf_O M0 W H t0) (hB0 : bf_R M0 3 64 nb BL BU BR BD) (hb : bf_ok nb BL BU BR BD) (hn0 : 0 ≤ nb) (hn : nb ≤ 64) (h3 : 8 ≤ o3) (ht : t = 0 ∨ t = 1) {i : Int} (i0 : 0 ≤ i) (i1 : i < nb) (k : ∀ M' c f j, bf_fr M0 M' o3 (o3 + 2) → bf_S M' o3 nb c f → nb ≤ j → pu_lab nb (fun a b => (a < i ∨ (a = i ∧ b < j)) ∧ a < b ∧ bf_nb t BL BU BR BD a b) f → c = pu_cnt (fun m => decide (f m = m)) nb.toNat → mv_W md_BF_joinBoxes 68 [.inr 2, .inr o3, .inl t, .inl i, .inl j] [] M' (0, 0) Q) : ∀ (d : Nat) (j : Int) (M : mv_M) (c : Int) (f : Int → Int), nb - j < d → i < j → j ≤ nb → bf_fr M0 M o3 (o3 + 2) → bf_S M o3 nb c f → pu_lab nb (fun a b => (a < i ∨ (a = i ∧ b < j)) ∧ a < b ∧ bf_nb t BL BU BR BD a b) f → c = pu_cnt (fun m => decide (f m = m)) nb.toNat → mv_W md_BF_joinBoxes 29 [.inr 2, .inr o3, .inl t, .inl i, .inl j] [] M (0, 0) Q := by
  intro d
  induction d with
  | zero =>
    intro j M c f h1 h2 h3
    exfalso; omega
  | succ d ih =>
    intro j M c f hd ij j1 hfr hS hI hc
    have hO := hO0.fr hfr (by omega)
    have hBx := hB0.fr hfr (by omega)
    have hcb := pu_cnt_le (fun m => decide (f m = m)) nb.toNat
    rw [← hc] at hcb
    refine mx_iload d_BF_joinBoxes_29 rfl ?_
    refine mx_aload_n d_BF_joinBoxes_31 rfl (by omega) ?_
    refine mx_gl d_BF_joinBoxes_32 f_BF_14 hO rfl ?_
    refine mx_gl d_BF_joinBoxes_35 f_BF_110 hBx.1 rfl ?_
    refine mx_icmp_ge 68 d_BF_joinBoxes_38 (by decide) (fun c38 => ?_) (fun c38 => ?_)
    · skip
      exact k M c f j hfr hS (by omega) hI hc
    · skip
      refine mx_aload_n d_BF_joinBoxes_41 rfl (by omega) ?_
      refine mx_gl d_BF_joinBoxes_42 f_BF_14 hO rfl ?_
      refine mx_iload_n d_BF_joinBoxes_45 rfl ?_
      refine mx_iload d_BF_joinBoxes_46 rfl ?_
      refine mx_iload_n d_BF_joinBoxes_48 rfl ?_
      refine mx_cV3 d_BF_joinBoxes_49 c_BF_160 hBx.1 (by decide) (Nat.le_of_ble_eq_true rfl) ?_
      refine bf_areNearAsBoxes (by omega) hBx hn hb i0 i1 (by omega) (by omega) ht (fun hnb => ?_) (fun hnb => ?_)
      · skip
        refine mx_z1 62 d_BF_joinBoxes_52 (by decide) ?_
        refine mx_aload_n d_BF_joinBoxes_55 rfl (by omega) ?_
        refine mx_iload_n d_BF_joinBoxes_56 rfl ?_
        refine mx_iload d_BF_joinBoxes_57 rfl ?_
        refine mx_cV2 d_BF_joinBoxes_59 c_BF_164 hS.1 (by decide) (Nat.le_of_ble_eq_true rfl) ?_
        have hlab := hI.1
        have hli := hlab i i0 i1
        have hlj := hlab j (by omega) (by omega)
        refine bf_join (by omega) hS hn (by omega) (by omega) i0 i1 (by omega) (by omega) (by unfold mv_r; omega) (by unfold mv_r; omega) (fun hs => ?_) (fun M' f' hne hfr' hS' hf' => ?_)
        · skip
          have hfr2 := hfr
          have hS2 := hS
          have hI2 := (pu_lab_same hI i0 ij (by omega) hs).resolve_right (fun h => h hnb)
          have hc2 := hc
          refine mx_iinc d_BF_joinBoxes_62 rfl (by unfold mv_r; omega) ?_
          refine mx_goto 29 d_BF_joinBoxes_65 (by decide) ?_
          exact ih (j + 1) _ _ _ (by omega) (by omega) (by omega) hfr2 hS2 hI2 hc2
        · skip
          have hfr2 := hfr.trans hfr'
          have hS2 := hS'
          have hI2 := pu_lab_next hI i0 ij (by omega) hnb hf'
          have hc2 : c - 1 = pu_cnt (fun m => decide (f' m = m)) nb.toNat := by
            rw [hc, ← pu_join_cnt hI i0 i1 (by omega) (by omega) hne]
            exact pu_cnt_congr (fun m m0 m1 => by rw [hf' m m0 (by omega)])
          refine mx_iinc d_BF_joinBoxes_62 rfl (by unfold mv_r; omega) ?_
          refine mx_goto 29 d_BF_joinBoxes_65 (by decide) ?_
          exact ih (j + 1) _ _ _ (by omega) (by omega) (by omega) hfr2 hS2 hI2 hc2
      · skip
        have hfr2 := hfr
        have hS2 := hS
        have hI2 := pu_lab_not hI hnb
        have hc2 := hc
        refine mx_z0 62 d_BF_joinBoxes_52 (by decide) ?_
        refine mx_iinc d_BF_joinBoxes_62 rfl (by unfold mv_r; omega) ?_
        refine mx_goto 29 d_BF_joinBoxes_65 (by decide) ?_
        exact ih (j + 1) _ _ _ (by omega) (by omega) (by omega) hfr2 hS2 hI2 hc2
theorem bf_jb_out {Q : List mv_V → mv_M → Prop} {M0 : mv_M} {W H t0 nb t : Int} {BL BU BR BD : Int → Int} {o3 : Nat} (hO0 : bf_O M0 W H t0) (hB0 : bf_R M0 3 64 nb BL BU BR BD) (hb : bf_ok nb BL BU BR BD) (hn0 : 0 ≤ nb) (hn : nb ≤ 64) (h3 : 8 ≤ o3) (ht : t = 0 ∨ t = 1) (k : ∀ M' c f, bf_fr M0 M' o3 (o3 + 2) → bf_S M' o3 nb c f → pu_lab nb (fun a b => a < b ∧ bf_nb t BL BU BR BD a b) f → c = pu_cnt (fun m => decide (f m = m)) nb.toNat → Q [] M') : ∀ (d : Nat) (i : Int) (M : mv_M) (c : Int) (f : Int → Int) (jv : mv_V), nb - i < d → 0 ≤ i → i ≤ nb → bf_fr M0 M o3 (o3 + 2) → bf_S M o3 nb c f → pu_lab nb (fun a b => (a < i ∨ (a = i ∧ b < i + 1)) ∧ a < b ∧ bf_nb t BL BU BR BD a b) f → c = pu_cnt (fun m => decide (f m = m)) nb.toNat → mv_W md_BF_joinBoxes 13 [.inr 2, .inr o3, .inl t, .inl i, jv] [] M (0, 0) Q := by
  intro d
  induction d with
  | zero =>
    intro i M c f jv h1 h2 h3
    exfalso; omega
  | succ d ih =>
    intro i M c f jv hd i0 i1 hfr hS hI hc
    have hO := hO0.fr hfr (by omega)
    have hBx := hB0.fr hfr (by omega)
    have hcb := pu_cnt_le (fun m => decide (f m = m)) nb.toNat
    rw [← hc] at hcb
    refine mx_iload_n d_BF_joinBoxes_13 rfl ?_
    refine mx_aload_n d_BF_joinBoxes_14 rfl (by omega) ?_
    refine mx_gl d_BF_joinBoxes_15 f_BF_14 hO rfl ?_
    refine mx_gl d_BF_joinBoxes_18 f_BF_110 hBx.1 rfl ?_
    refine mx_icmp_ge 74 d_BF_joinBoxes_21 (by decide) (fun c21 => ?_) (fun c21 => ?_)
    · skip
      refine mx_return d_BF_joinBoxes_74 rfl ?_
      exact k M c f hfr hS (pu_lab_all hI (by omega)) hc
    · skip
      refine mx_iload_n d_BF_joinBoxes_24 rfl ?_
      refine mx_iconst (1) d_BF_joinBoxes_25 (by decide +kernel) (by unfold mv_r; omega) ?_
      refine mx_iadd d_BF_joinBoxes_26 (by unfold mv_r; omega) ?_
      refine mx_istore d_BF_joinBoxes_27 (by decide) ?_
      refine bf_jb_in hO0 hB0 hb hn0 hn h3 ht i0 (by omega) ?_ (nb.toNat + 1) (i + 1) M c f (by omega) (by omega) (by omega) hfr hS hI hc
      intro M' c' f' j' hfr' hS' hj' hI' hc'
      refine mx_iinc d_BF_joinBoxes_68 rfl (by unfold mv_r; omega) ?_
      refine mx_goto 13 d_BF_joinBoxes_71 (by decide) ?_
      exact ih (i + 1) M' c' f' _ (by omega) (by omega) (by omega) hfr' hS' (pu_lab_row hI' hj') hc'
theorem bf_joinBoxes {Q : List mv_V → mv_M → Prop} {M : mv_M} {W H t0 nb t : Int} {BL BU BR BD : Int → Int} {o3 : Nat} (hO : bf_O M W H t0) (hBx : bf_R M 3 64 nb BL BU BR BD) (hb : bf_ok nb BL BU BR BD) (hn0 : 0 ≤ nb) (hn : nb ≤ 64) (h3 : 8 ≤ o3) (ht : t = 0 ∨ t = 1) {mem sc : Int} {f0 : Int → Int} (hS : bf_S M o3 mem sc f0) (k : ∀ M' c f, bf_fr M M' o3 (o3 + 2) → bf_S M' o3 nb c f → pu_lab nb (fun a b => a < b ∧ bf_nb t BL BU BR BD a b) f → c = pu_cnt (fun m => decide (f m = m)) nb.toNat → Q [] M') : mv_J md_BF_joinBoxes [.inr 2, .inr o3, .inl t] M Q := by
  refine mv_enter (by decide +kernel) (Nat.le_of_ble_eq_true rfl) ?_
  show mv_W md_BF_joinBoxes 0 [.inr 2, .inr o3, .inl t, .inr 0, .inr 0] [] M (0, 0) Q
  refine mx_aload_n d_BF_joinBoxes_0 rfl (by omega) ?_
  refine mx_aload_n d_BF_joinBoxes_1 rfl (by omega) ?_
  refine mx_gl d_BF_joinBoxes_2 f_BF_14 hO rfl ?_
  refine mx_gl d_BF_joinBoxes_5 f_BF_110 hBx.1 rfl ?_
  refine mx_cV1 d_BF_joinBoxes_8 c_BF_157 hS.1 (by decide) (Nat.le_of_ble_eq_true rfl) ?_
  refine bf_scatter (by omega) hS hn0 hn (fun M' f hfr hS' hf => ?_)
  refine mx_iconst (0) d_BF_joinBoxes_11 (by decide +kernel) (by unfold mv_r; omega) ?_
  refine mx_istore_n d_BF_joinBoxes_12 (by decide) ?_
  exact bf_jb_out hO hBx hb hn0 hn h3 ht k (nb.toNat + 1) 0 M' nb f (.inr 0) (by omega) (by omega) hn0 hfr hS' (pu_lab_begin hf) (by rw [pu_cnt_id (fun j j0 j1 => hf j j0 (by omega))]; omega)
