/-! the class: find, put together -/
theorem bf_O.of {M M' : mv_M} {W H t : Int} (h : bf_O M W H t) (e : M'.2 2 = M.2 2) : bf_O M' W H t := by unfold bf_O; rw [e]; exact h
theorem bf_S.of {M M' : mv_M} {o : Nat} {m c : Int} {f : Int → Int} (h : bf_S M o m c f) (e : M'.2 o = M.2 o) (e2 : M'.2 (o + 1) = M.2 (o + 1)) : bf_S M' o m c f := by unfold bf_S; rw [e, e2]; exact h
theorem bf_f132 {Q : List mv_V → mv_M → Prop} {M : mv_M} {W H t : Int} (hO : bf_O M W H t) {nb : Int} {BL BU BR BD : Int → Int} (hBx : bf_R M 3 64 nb BL BU BR BD) (hb : bf_ok nb BL BU BR BD) (hn0 : 0 ≤ nb) (hn : nb ≤ 64) {nl : Int} {LL LU LR LD LP LM LG LO LX : Int → Int} (hLn : bf_G M 19 nl LL LU LR LD LP LM (fun _ => 0) LG LO LX) (hnl0 : 0 ≤ nl) (hnl : nl ≤ 64) (hbl : bf_ok nl LL LU LR LD) (ht : t = 0 ∨ t = 1) {nk : Int} {KL KU KR KD KP KM KZ KG KO KX : Int → Int} (hBk : bf_G M 31 nk KL KU KR KD KP KM KZ KG KO KX) (hnk0 : 0 ≤ nk) (hnk : nk ≤ 64) (hbk : bf_ok nk KL KU KR KD) (hlg : ∀ j, 0 ≤ j → j < nb → 0 ≤ LG j ∧ LG j < 64 ∧ 0 ≤ KG (LG j) ∧ KG (LG j) < nk) {PB0 : Int → Int} (hPB : M.2 46 = .inl (64, PB0)) {v1 : mv_V} (k : ∀ M' LO' LX' KO' KX' PB, (∀ j, (j < 19 ∨ (43 ≤ j ∧ j ≠ 46)) → M'.2 j = M.2 j) → bf_G M' 19 nl LL LU LR LD LP LM (fun _ => 0) LG LO' LX' → bf_G M' 31 nk KL KU KR KD KP KM KZ KG KO' KX' → M'.2 46 = .inl (64, PB) → pu_ord nl LO' (bf_cb t LL LU (fun _ => 0)) → (∀ p, 0 ≤ p → p < nl → LX' (LO' p) = p) → pu_ord nk KO' (bf_cb t KL KU KZ) → (∀ p, 0 ≤ p → p < nk → KX' (KO' p) = p) → (∀ j, 0 ≤ j → j < nb → PB j = KX' (KG (LG j))) → Q [.inl nk] M') : mv_W md_BF_find 132 [.inr 2, v1] [] M (0, 0) Q := by
  refine mx_aload_n d_BF_find_132 rfl (by omega) ?_
  refine mx_gl d_BF_find_133 f_BF_37 hO rfl ?_
  refine mx_aload_n d_BF_find_136 rfl (by omega) ?_
  refine mx_gl d_BF_find_137 f_BF_57 hO rfl ?_
  refine mx_cV1 d_BF_find_140 c_BF_106 hLn.1 (by decide) (Nat.le_of_ble_eq_true rfl) ?_
  refine bf_putInOrder (by omega) hLn hnl hnl0 hbl ht (fun M1 LO1 LX1 hfr1 hLn1 hor1 hpl1 => ?_)
  have hOa := hO.fr hfr1 (by omega)
  have hBka := hBk.fr hfr1 (by omega)
  refine mx_aload_n d_BF_find_143 rfl (by omega) ?_
  refine mx_gl d_BF_find_144 f_BF_41 hOa rfl ?_
  refine mx_aload_n d_BF_find_147 rfl (by omega) ?_
  refine mx_gl d_BF_find_148 f_BF_57 hOa rfl ?_
  refine mx_cV1 d_BF_find_151 c_BF_106 hBka.1 (by decide) (Nat.le_of_ble_eq_true rfl) ?_
  refine bf_putInOrder (by omega) hBka hnk hnk0 hbk ht (fun M2 KO2 KX2 hfr2 hBk2 hor2 hpl2 => ?_)
  have hOb := hOa.fr hfr2 (by omega)
  have hLnb := hLn1.fr hfr2 (by omega)
  have hBxb := (hBx.fr hfr1 (by omega)).fr hfr2 (by omega)
  have hPBb : M2.2 46 = .inl (64, PB0) := by rw [hfr2 46 (by omega), hfr1 46 (by omega)]; exact hPB
  refine mx_iconst (0) d_BF_find_154 (by decide +kernel) (by unfold mv_r; omega) ?_
  refine mx_istore_n d_BF_find_155 (by decide) ?_
  exact bf_fp hOb hBxb hb hn0 hn hLnb hBk2 hnk0 hnk ht hlg (fun M3 PB3 hfr3 hPB3 hpb3 => k M3 LO1 LX1 KO2 KX2 PB3 (fun j hj => by rw [hfr3 j (by omega), hfr2 j (by omega), hfr1 j (by omega)]) (hLnb.fr hfr3 (by omega)) (hBk2.fr hfr3 (by omega)) hPB3 hor1 hpl1 hor2 hpl2 hpb3) (nb.toNat + 1) 0 M2 PB0 (by omega) (by omega) hn0 bf_fr.refl hPBb (fun j j0 j1 => by omega)
theorem bf_f101 {Q : List mv_V → mv_M → Prop} {M0 : mv_M} {W H t : Int} (hO0 : bf_O M0 W H t) {nb : Int} {BL BU BR BD : Int → Int} (hB0 : bf_R M0 3 64 nb BL BU BR BD) (hb : bf_ok nb BL BU BR BD) (hn0 : 0 ≤ nb) (hn : nb ≤ 64) {nl : Int} {LL LU LR LD LP LM LG LO LX : Int → Int} (hL0 : bf_G M0 19 nl LL LU LR LD LP LM (fun _ => 0) LG LO LX) (hnl0 : 0 ≤ nl) (hnl : nl ≤ 64) (hbl : bf_ok nl LL LU LR LD) (ht : t = 0 ∨ t = 1) {np : Int} {NL NU NR ND : Int → Int} (hPn : bf_R M0 8 8 np NL NU NR ND) (np0 : 0 ≤ np) (np8 : np ≤ 8) (w1 : 1 ≤ W) (w2 : W ≤ 4096) (h1 : 1 ≤ H) (h2 : H ≤ 4096) {nk : Int} {KL KU KR KD KP KM KG KO KX : Int → Int} (hnk0 : 0 ≤ nk) (hnk : nk ≤ 64) (hbk : bf_ok nk KL KU KR KD) (hlg : ∀ j, 0 ≤ j → j < nb → 0 ≤ LG j ∧ LG j < 64 ∧ 0 ≤ KG (LG j) ∧ KG (LG j) < nk) {PB0 : Int → Int} (hPB0 : M0.2 46 = .inl (64, PB0)) (k : ∀ M' LO' LX' KZ' KO' KX' PB, (∀ j, (j < 19 ∨ (43 ≤ j ∧ j ≠ 46)) → M'.2 j = M0.2 j) → (∀ b, 0 ≤ b → b < nk → bf_pts W H np NL NU NR ND KL KU KR KD KP b (KZ' b)) → bf_G M' 19 nl LL LU LR LD LP LM (fun _ => 0) LG LO' LX' → bf_G M' 31 nk KL KU KR KD KP KM KZ' KG KO' KX' → M'.2 46 = .inl (64, PB) → pu_ord nl LO' (bf_cb t LL LU (fun _ => 0)) → (∀ p, 0 ≤ p → p < nl → LX' (LO' p) = p) → pu_ord nk KO' (bf_cb t KL KU KZ') → (∀ p, 0 ≤ p → p < nk → KX' (KO' p) = p) → (∀ j, 0 ≤ j → j < nb → PB j = KX' (KG (LG j))) → Q [.inl nk] M') : ∀ (d : Nat) (i : Int) (M : mv_M) (KZ : Int → Int), nk - i < d → 0 ≤ i → i ≤ nk → bf_fr M0 M 31 43 → bf_G M 31 nk KL KU KR KD KP KM KZ KG KO KX → (∀ b, 0 ≤ b → b < i → bf_pts W H np NL NU NR ND KL KU KR KD KP b (KZ b)) → mv_W md_BF_find 101 [.inr 2, .inl i] [] M (0, 0) Q := by
  intro d
  induction d with
  | zero =>
    intro i M KZ hd i0 i1 hfr hBk hI
    exfalso; omega
  | succ d ih =>
    intro i M KZ hd i0 i1 hfr hBk hI
    have hO := hO0.fr hfr (by omega)
    have hBx := hB0.fr hfr (by omega)
    have hLn := hL0.fr hfr (by omega)
    have hPn' := hPn.fr hfr (by omega)
    have hPB : M.2 46 = .inl (64, PB0) := by rw [hfr 46 (by omega)]; exact hPB0
    refine mx_iload_n d_BF_find_101 rfl ?_
    refine mx_aload_n d_BF_find_102 rfl (by omega) ?_
    refine mx_gl d_BF_find_103 f_BF_41 hO rfl ?_
    refine mx_cV0 d_BF_find_106 c_BF_96 hBk.1 (by decide) (Nat.le_of_ble_eq_true rfl) ?_
    refine bf_size (by omega) hBk ?_
    refine mx_icmp_ge 132 d_BF_find_109 (by decide) (fun c109 => ?_) (fun c109 => ?_)
    · skip
      exact bf_f132 hO hBx hb hn0 hn hLn hnl0 hnl hbl ht hBk hnk0 hnk hbk hlg hPB (fun M' LO' LX' KO' KX' PB hf => k M' LO' LX' KZ KO' KX' PB (fun j hj => by rw [hf j hj, hfr j (by omega)]) (fun b b0 b1 => hI b b0 (by omega)))
    · skip
      refine mx_aload_n d_BF_find_112 rfl (by omega) ?_
      refine mx_gl d_BF_find_113 f_BF_41 hO rfl ?_
      refine mx_gl d_BF_find_116 f_BF_100 hBk.1 rfl ?_
      refine mx_iload_n d_BF_find_119 rfl ?_
      refine mx_aload_n d_BF_find_120 rfl (by omega) ?_
      refine mx_iload_n d_BF_find_121 rfl ?_
      refine mx_cV1 d_BF_find_122 c_BF_103 hO (by decide) (Nat.le_of_ble_eq_true rfl) ?_
      refine bf_judge hO hBk hPn' np0 np8 w1 w2 h1 h2 i0 (by omega) hnk hbk (fun r hr => ?_)
      refine mx_iast d_BF_find_125 hBk.2.2.2.2.1 (by omega) (by omega) (by omega) ?_
      refine mx_iinc d_BF_find_126 rfl (by unfold mv_r; omega) ?_
      refine mx_goto 101 d_BF_find_129 (by decide) ?_
      exact ih (i + 1) _ _ (by omega) (by omega) (by omega) (hfr.put (by omega) (by omega)) hBk.pZ (fun b b0 b1 => by
        by_cases hbi : b = i
        · rw [hbi, mv_ss]; exact hr
        · rw [mv_sn hbi]; exact hI b b0 (by omega))
/-- what find leaves behind, lines being of the labels ft -/
def bf_F2 (W H nb : Int) (BL BU BR BD : Int → Int) (np : Int) (NL NU NR ND : Int → Int) (t : Int) (ft : Int → Int) (nl : Int) (LL LU LR LD LP LM LG LO LX : Int → Int) (nk : Int) (KL KU KR KD KP KM KZ KG KO KX BS HB LB : Int → Int) : Prop :=
  pu_grp nb ft BL BU BR BD nl LL LU LR LD LP LM LG ∧ (∃ fl, pu_lab nl (fun a b => a < b ∧ bf_nl t LL LU LR LD a b) fl ∧ pu_grp nl fl LL LU LR LD nk KL KU KR KD KP KM KG) ∧ pu_msr nb nk (fun j => KG (LG j)) (fun j => bf_o t BD BR j - bf_o t BU BL j) BS HB LB ∧ (∀ b, 0 ≤ b → b < nk → bf_pts W H np NL NU NR ND KL KU KR KD KP b (KZ b)) ∧ pu_ord nl LO (bf_cb t LL LU (fun _ => 0)) ∧ (∀ p, 0 ≤ p → p < nl → LX (LO p) = p) ∧ pu_ord nk KO (bf_cb t KL KU KZ) ∧ (∀ p, 0 ≤ p → p < nk → KX (KO p) = p)
theorem bf_f73 {Q : List mv_V → mv_M → Prop} {M : mv_M} {W H t : Int} (hO : bf_O M W H t) {nb : Int} {BL BU BR BD : Int → Int} (hBx : bf_R M 3 64 nb BL BU BR BD) (hb : bf_ok nb BL BU BR BD) (hn0 : 0 ≤ nb) (hn : nb ≤ 64) {nl : Int} {LL LU LR LD LP LM LG LO LX : Int → Int} (hLn : bf_G M 19 nl LL LU LR LD LP LM (fun _ => 0) LG LO LX) (hnl0 : 0 ≤ nl) (hnl : nl ≤ 64) (hbl : bf_ok nl LL LU LR LD) (ht : t = 0 ∨ t = 1) {np : Int} {NL NU NR ND : Int → Int} (hPn : bf_R M 8 8 np NL NU NR ND) (np0 : 0 ≤ np) (np8 : np ≤ 8) (w1 : 1 ≤ W) (w2 : W ≤ 4096) (h1 : 1 ≤ H) (h2 : H ≤ 4096) {mem sc : Int} {fs : Int → Int} (hS3 : bf_S M 17 mem sc fs) {nk0 : Int} {KL KU KR KD KP KM KZ KG KO KX : Int → Int} (hBk : bf_G M 31 nk0 KL KU KR KD KP KM KZ KG KO KX) {BS HB LB PB0 : Int → Int} (h3 : bf_3 M BS HB LB) (hPB : M.2 46 = .inl (64, PB0)) {ft : Int → Int} (hgr : pu_grp nb ft BL BU BR BD nl LL LU LR LD LP LM LG) (k : ∀ M' LO' LX' nk' KL' KU' KR' KD' KP' KM' KZ' KG' KO' KX' BS' HB' LB' PB, (∀ j, (j < 17 ∨ 47 ≤ j) → M'.2 j = M.2 j) → (∃ m c f, bf_S M' 17 m c f) → bf_G M' 19 nl LL LU LR LD LP LM (fun _ => 0) LG LO' LX' → bf_G M' 31 nk' KL' KU' KR' KD' KP' KM' KZ' KG' KO' KX' → bf_3 M' BS' HB' LB' → M'.2 46 = .inl (64, PB) → (∀ j, 0 ≤ j → j < nb → PB j = KX' (KG' (LG j))) → bf_F2 W H nb BL BU BR BD np NL NU NR ND t ft nl LL LU LR LD LP LM LG LO' LX' nk' KL' KU' KR' KD' KP' KM' KZ' KG' KO' KX' BS' HB' LB' → Q [.inl nk'] M') : mv_W md_BF_find 73 [.inr 2, .inr 0] [] M (0, 0) Q := by
  refine mx_aload_n d_BF_find_73 rfl (by omega) ?_
  refine mx_cV0 d_BF_find_74 c_BF_87 hO (by decide) (Nat.le_of_ble_eq_true rfl) ?_
  refine bf_joinLines hO hLn hbl hnl0 hnl ht hS3 (fun M1 c1 fl hfr1 hS31 hlab1 _ => ?_)
  have hO1 := hO.fr hfr1 (by omega)
  have hLn1 := hLn.fr hfr1 (by omega)
  have hBk1 := hBk.fr hfr1 (by omega)
  refine mx_aload_n d_BF_find_77 rfl (by omega) ?_
  refine mx_gl d_BF_find_78 f_BF_41 hO1 rfl ?_
  refine mx_aload_n d_BF_find_81 rfl (by omega) ?_
  refine mx_gl d_BF_find_82 f_BF_37 hO1 rfl ?_
  refine mx_gl d_BF_find_85 f_BF_90 hLn1.1 rfl ?_
  refine mx_aload_n d_BF_find_88 rfl (by omega) ?_
  refine mx_gl d_BF_find_89 f_BF_31 hO1 rfl ?_
  refine mx_cV2 d_BF_find_92 c_BF_83 hBk1.1 (by decide) (Nat.le_of_ble_eq_true rfl) ?_
  refine bf_gather (by omega) hBk1 (by omega) (by omega) (by omega) (by omega) hLn1.2.1 hS31 hnl0 hnl (by omega) hlab1.1 (fun M2 nk KL2 KU2 KR2 KD2 KP2 KM2 KG2 hfr2 hBk2 hgr2 => ?_)
  have hO2 := hO1.fr hfr2 (by omega)
  have hLn2 := hLn1.fr hfr2 (by omega)
  have hbk2 := pu_grp_ok hgr2 hbl
  have hnk2 := hgr2.1
  have hlg2 : ∀ j, 0 ≤ j → j < nb → 0 ≤ LG j ∧ LG j < 64 ∧ 0 ≤ KG2 (LG j) ∧ KG2 (LG j) < nk := fun j j0 j1 => by
    have q1 := hgr.2.1 j j0 j1
    have q2 := hgr2.2.1 (LG j) q1.1 q1.2.1
    exact ⟨q1.1, by omega, q2.1, q2.2.1⟩
  refine mx_aload_n d_BF_find_95 rfl (by omega) ?_
  refine mx_cV0 d_BF_find_96 c_BF_93 hO2 (by decide) (Nat.le_of_ble_eq_true rfl) ?_
  refine bf_measure hO2 ((hBx.fr hfr1 (by omega)).fr hfr2 (by omega)) hb hn0 hn hLn2 hBk2 hnk2.1 (by omega) ht hlg2 ((h3.fr hfr1 (by omega)).fr hfr2 (by omega)) (fun M3 BS3 HB3 LB3 hfr3 h33 hms3 => ?_)
  have hO3 := hO2.fr hfr3 (by omega)
  refine mx_iconst (0) d_BF_find_99 (by decide +kernel) (by unfold mv_r; omega) ?_
  refine mx_istore_n d_BF_find_100 (by decide) ?_
  have hPB3 : M3.2 46 = .inl (64, PB0) := by rw [hfr3 46 (by omega), hfr2 46 (by omega), hfr1 46 (by omega)]; exact hPB
  refine bf_f101 hO3 (((hBx.fr hfr1 (by omega)).fr hfr2 (by omega)).fr hfr3 (by omega)) hb hn0 hn (hLn2.fr hfr3 (by omega)) hnl0 hnl hbl ht (((hPn.fr hfr1 (by omega)).fr hfr2 (by omega)).fr hfr3 (by omega)) np0 np8 w1 w2 h1 h2 hnk2.1 (by omega) hbk2 hlg2 hPB3 (fun M' LO' LX' KZ' KO' KX' PB hf hpt e1 e2 e3 e4 e5 e6 e7 e8 => ?_) (nk.toNat + 1) 0 M3 KZ (by omega) (by omega) hnk2.1 bf_fr.refl (hBk2.fr hfr3 (by omega)) (fun b b0 b1 => by omega)
  exact k M' LO' LX' nk KL2 KU2 KR2 KD2 KP2 KM2 KZ' KG2 KO' KX' BS3 HB3 LB3 PB (fun j hj => by rw [hf j (by omega), hfr3 j (by omega), hfr2 j (by omega), hfr1 j (by omega)]) ⟨_, _, _, ((hS31.fr hfr2 (by omega)).fr hfr3 (by omega)).of (hf 17 (by omega)) (hf 18 (by omega))⟩ e1 e2 ⟨by rw [hf 43 (by omega)]; exact h33.1, by rw [hf 44 (by omega)]; exact h33.2.1, by rw [hf 45 (by omega)]; exact h33.2.2⟩ e3 e8 ⟨hgr, ⟨fl, hlab1, hgr2⟩, hms3, hpt, e4, e5, e6, e7⟩
def bf_lab2 (nb : Int) (BL BU BR BD : Int → Int) (t : Int) (ft : Int → Int) : Prop := ∃ f0 f1, pu_lab nb (fun a b => a < b ∧ bf_nb 0 BL BU BR BD a b) f0 ∧ pu_lab nb (fun a b => a < b ∧ bf_nb 1 BL BU BR BD a b) f1 ∧ ((pu_cnt (fun m => decide (f1 m = m)) nb.toNat < pu_cnt (fun m => decide (f0 m = m)) nb.toNat ∧ t = 1 ∧ ft = f1) ∨ (¬ pu_cnt (fun m => decide (f1 m = m)) nb.toNat < pu_cnt (fun m => decide (f0 m = m)) nb.toNat ∧ t = 0 ∧ ft = f0))
theorem bf_find {Q : List mv_V → mv_M → Prop} {M : mv_M} {W H t : Int} (hO : bf_O M W H t) {nb : Int} {BL BU BR BD : Int → Int} (hBx : bf_R M 3 64 nb BL BU BR BD) (hb : bf_ok nb BL BU BR BD) (hn0 : 0 ≤ nb) (hn : nb ≤ 64) {np : Int} {NL NU NR ND : Int → Int} (hPn : bf_R M 8 8 np NL NU NR ND) (np0 : 0 ≤ np) (np8 : np ≤ 8) (w1 : 1 ≤ W) (w2 : W ≤ 4096) (h1 : 1 ≤ H) (h2 : H ≤ 4096) {m1 c1 m2 c2 m3 c3 : Int} {s1 s2 s3 : Int → Int} (hS1 : bf_S M 13 m1 c1 s1) (hS2 : bf_S M 15 m2 c2 s2) (hS3 : bf_S M 17 m3 c3 s3) {nl0 : Int} {L1 L2 L3 L4 L5 L6 L7 L8 L9 : Int → Int} (hLn : bf_G M 19 nl0 L1 L2 L3 L4 L5 L6 (fun _ => 0) L7 L8 L9) {nk0 : Int} {KL KU KR KD KP KM KZ KG KO KX : Int → Int} (hBk : bf_G M 31 nk0 KL KU KR KD KP KM KZ KG KO KX) {BS HB LB PB0 : Int → Int} (h3 : bf_3 M BS HB LB) (hPB : M.2 46 = .inl (64, PB0)) (k : ∀ M' t' ft nl' LL LU LR LD LP LM LG LO' LX' nk' KL' KU' KR' KD' KP' KM' KZ' KG' KO' KX' BS' HB' LB' PB, (∀ j, (j < 2 ∨ (3 ≤ j ∧ j < 13) ∨ 47 ≤ j) → M'.2 j = M.2 j) → bf_O M' W H t' → (∃ m c f, bf_S M' 13 m c f) → (∃ m c f, bf_S M' 15 m c f) → (∃ m c f, bf_S M' 17 m c f) → bf_lab2 nb BL BU BR BD t' ft → bf_G M' 19 nl' LL LU LR LD LP LM (fun _ => 0) LG LO' LX' → bf_G M' 31 nk' KL' KU' KR' KD' KP' KM' KZ' KG' KO' KX' → bf_3 M' BS' HB' LB' → M'.2 46 = .inl (64, PB) → (∀ j, 0 ≤ j → j < nb → PB j = KX' (KG' (LG j))) → bf_F2 W H nb BL BU BR BD np NL NU NR ND t' ft nl' LL LU LR LD LP LM LG LO' LX' nk' KL' KU' KR' KD' KP' KM' KZ' KG' KO' KX' BS' HB' LB' → Q [.inl nk'] M') : mv_J md_BF_find [.inr 2] M Q := by
  refine mv_enter (by decide +kernel) (Nat.le_of_ble_eq_true rfl) ?_
  show mv_W md_BF_find 0 [.inr 2, .inr 0] [] M (0, 0) Q
  refine mx_aload_n d_BF_find_0 rfl (by omega) ?_
  refine mx_aload_n d_BF_find_1 rfl (by omega) ?_
  refine mx_gl d_BF_find_2 f_BF_24 hO rfl ?_
  refine mx_iconst (0) d_BF_find_5 (by decide +kernel) (by unfold mv_r; omega) ?_
  refine mx_cV2 d_BF_find_6 c_BF_76 hO (by decide) (Nat.le_of_ble_eq_true rfl) ?_
  refine bf_joinBoxes hO hBx hb hn0 hn (by omega) (Or.inl rfl) hS1 (fun Ma c0 f0 hfa hS1a hlab0 hc0 => ?_)
  have hOa := hO.fr hfa (by omega)
  have hS2a := hS2.fr hfa (by omega)
  refine mx_aload_n d_BF_find_9 rfl (by omega) ?_
  refine mx_aload_n d_BF_find_10 rfl (by omega) ?_
  refine mx_gl d_BF_find_11 f_BF_28 hOa rfl ?_
  refine mx_iconst (1) d_BF_find_14 (by decide +kernel) (by unfold mv_r; omega) ?_
  refine mx_cV2 d_BF_find_15 c_BF_76 hOa (by decide) (Nat.le_of_ble_eq_true rfl) ?_
  refine bf_joinBoxes hOa (hBx.fr hfa (by omega)) hb hn0 hn (by omega) (Or.inr rfl) hS2a (fun Mb c1 f1 hfb hS2b hlab1 hc1 => ?_)
  have hOb := hOa.fr hfb (by omega)
  have hS1b := hS1a.fr hfb (by omega)
  refine mx_aload_n d_BF_find_18 rfl (by omega) ?_
  refine mx_aload_n d_BF_find_19 rfl (by omega) ?_
  refine mx_gl d_BF_find_20 f_BF_28 hOb rfl ?_
  refine mx_gl d_BF_find_23 f_BF_80 hS2b.1 rfl ?_
  refine mx_aload_n d_BF_find_26 rfl (by omega) ?_
  refine mx_gl d_BF_find_27 f_BF_24 hOb rfl ?_
  refine mx_gl d_BF_find_30 f_BF_80 hS1b.1 rfl ?_
  refine mx_icmp_ge 40 d_BF_find_33 (by decide) (fun c33 => ?_) (fun c33 => ?_)
  · skip
    refine mx_iconst (0) d_BF_find_40 (by decide +kernel) (by unfold mv_r; omega) ?_
    refine mx_pl d_BF_find_41 g_BF_57 hOb (mv_Vz (by omega)) (Nat.le_of_ble_eq_true rfl) ?_
    have hfc : bf_fr Mb (mv_p Mb 2 (.inr (ki_BF, mv_l [.inl W, .inl H, .inr 3, .inr 8, .inr 13, .inr 15, .inr 17, .inr 19, .inr 31, .inr 43, .inr 44, .inr 45, .inr 46, .inl 0]))) 2 3 := fun j hj => mv_pn (by omega)
    have hOc : bf_O (mv_p Mb 2 (.inr (ki_BF, mv_l [.inl W, .inl H, .inr 3, .inr 8, .inr 13, .inr 15, .inr 17, .inr 19, .inr 31, .inr 43, .inr 44, .inr 45, .inr 46, .inl 0]))) W H 0 := mv_ps
    show mv_W md_BF_find 44 [.inr 2, .inr 0] [] (mv_p Mb 2 (.inr (ki_BF, mv_l [.inl W, .inl H, .inr 3, .inr 8, .inr 13, .inr 15, .inr 17, .inr 19, .inr 31, .inr 43, .inr 44, .inr 45, .inr 46, .inl 0]))) (0, 0) Q
    generalize mv_p Mb 2 _ = Mc at hfc hOc ⊢
    have hS1c := hS1b.fr hfc (by omega)
    have hS2c := hS2b.fr hfc (by omega)
    have hBxc := ((hBx.fr hfa (by omega)).fr hfb (by omega)).fr hfc (by omega)
    have hLnc := ((hLn.fr hfa (by omega)).fr hfb (by omega)).fr hfc (by omega)
    refine mx_aload_n d_BF_find_44 rfl (by omega) ?_
    refine mx_gl d_BF_find_45 f_BF_37 hOc rfl ?_
    refine mx_aload_n d_BF_find_48 rfl (by omega) ?_
    refine mx_gl d_BF_find_49 f_BF_14 hOc rfl ?_
    refine mx_aload_n d_BF_find_52 rfl (by omega) ?_
    refine mx_gl d_BF_find_53 f_BF_57 hOc rfl ?_
    refine mx_if_eq 66 d_BF_find_56 (by decide) (fun c56 => ?_) (fun c56 => ?_)
    · skip
      refine mx_aload_n d_BF_find_66 rfl (by omega) ?_
      refine mx_gl d_BF_find_67 f_BF_24 hOc rfl ?_
      refine mx_cV2 d_BF_find_70 c_BF_83 hLnc.1 (by decide) (Nat.le_of_ble_eq_true rfl) ?_
      refine bf_gather (by omega) hLnc (by omega) (by omega) (by omega) (by omega) hBxc hS1c hn0 hn (by omega) hlab0.1 (fun Md nl LL LU LR LD LP LM LG hfrd hLnd hgrd => ?_)
      have hbl := pu_grp_ok hgrd hb
      have hnl := hgrd.1
      exact bf_f73 (t := 0) (hOc.fr hfrd (by omega)) (hBxc.fr hfrd (by omega)) hb hn0 hn hLnd hnl.1 (by omega) hbl (by omega) ((((hPn.fr hfa (by omega)).fr hfb (by omega)).fr hfc (by omega)).fr hfrd (by omega)) np0 np8 w1 w2 h1 h2 ((((hS3.fr hfa (by omega)).fr hfb (by omega)).fr hfc (by omega)).fr hfrd (by omega)) ((((hBk.fr hfa (by omega)).fr hfb (by omega)).fr hfc (by omega)).fr hfrd (by omega)) ((((h3.fr hfa (by omega)).fr hfb (by omega)).fr hfc (by omega)).fr hfrd (by omega)) (by rw [hfrd 46 (by omega), hfc 46 (by omega), hfb 46 (by omega), hfa 46 (by omega)]; exact hPB) hgrd (fun M' LO' LX' nk' KL' KU' KR' KD' KP' KM' KZ' KG' KO' KX' BS' HB' LB' PB hf hs3 e1 e2 e3 e4 e5 e6 => k M' 0 f0 nl LL LU LR LD LP LM LG LO' LX' nk' KL' KU' KR' KD' KP' KM' KZ' KG' KO' KX' BS' HB' LB' PB (fun j hj => by rw [hf j (by omega), hfrd j (by omega), hfc j (by omega), hfb j (by omega), hfa j (by omega)]) ((hOc.fr hfrd (by omega)).of (hf 2 (by omega))) ⟨_, _, _, (hS1c.fr hfrd (by omega)).of (hf 13 (by omega)) (hf 14 (by omega))⟩ ⟨_, _, _, (hS2c.fr hfrd (by omega)).of (hf 15 (by omega)) (hf 16 (by omega))⟩ hs3 ⟨f0, f1, hlab0, hlab1, Or.inr ⟨by omega, rfl, rfl⟩⟩ e1 e2 e3 e4 e5 e6)
    · skip
      exfalso; omega
  · skip
    refine mx_iconst (1) d_BF_find_36 (by decide +kernel) (by unfold mv_r; omega) ?_
    refine mx_goto 41 d_BF_find_37 (by decide) ?_
    refine mx_pl d_BF_find_41 g_BF_57 hOb (mv_Vz (by omega)) (Nat.le_of_ble_eq_true rfl) ?_
    have hfc : bf_fr Mb (mv_p Mb 2 (.inr (ki_BF, mv_l [.inl W, .inl H, .inr 3, .inr 8, .inr 13, .inr 15, .inr 17, .inr 19, .inr 31, .inr 43, .inr 44, .inr 45, .inr 46, .inl 1]))) 2 3 := fun j hj => mv_pn (by omega)
    have hOc : bf_O (mv_p Mb 2 (.inr (ki_BF, mv_l [.inl W, .inl H, .inr 3, .inr 8, .inr 13, .inr 15, .inr 17, .inr 19, .inr 31, .inr 43, .inr 44, .inr 45, .inr 46, .inl 1]))) W H 1 := mv_ps
    show mv_W md_BF_find 44 [.inr 2, .inr 0] [] (mv_p Mb 2 (.inr (ki_BF, mv_l [.inl W, .inl H, .inr 3, .inr 8, .inr 13, .inr 15, .inr 17, .inr 19, .inr 31, .inr 43, .inr 44, .inr 45, .inr 46, .inl 1]))) (0, 0) Q
    generalize mv_p Mb 2 _ = Mc at hfc hOc ⊢
    have hS1c := hS1b.fr hfc (by omega)
    have hS2c := hS2b.fr hfc (by omega)
    have hBxc := ((hBx.fr hfa (by omega)).fr hfb (by omega)).fr hfc (by omega)
    have hLnc := ((hLn.fr hfa (by omega)).fr hfb (by omega)).fr hfc (by omega)
    refine mx_aload_n d_BF_find_44 rfl (by omega) ?_
    refine mx_gl d_BF_find_45 f_BF_37 hOc rfl ?_
    refine mx_aload_n d_BF_find_48 rfl (by omega) ?_
    refine mx_gl d_BF_find_49 f_BF_14 hOc rfl ?_
    refine mx_aload_n d_BF_find_52 rfl (by omega) ?_
    refine mx_gl d_BF_find_53 f_BF_57 hOc rfl ?_
    refine mx_if_eq 66 d_BF_find_56 (by decide) (fun c56 => ?_) (fun c56 => ?_)
    · skip
      exfalso; omega
    · skip
      refine mx_aload_n d_BF_find_59 rfl (by omega) ?_
      refine mx_gl d_BF_find_60 f_BF_28 hOc rfl ?_
      refine mx_goto 70 d_BF_find_63 (by decide) ?_
      refine mx_cV2 d_BF_find_70 c_BF_83 hLnc.1 (by decide) (Nat.le_of_ble_eq_true rfl) ?_
      refine bf_gather (by omega) hLnc (by omega) (by omega) (by omega) (by omega) hBxc hS2c hn0 hn (by omega) hlab1.1 (fun Md nl LL LU LR LD LP LM LG hfrd hLnd hgrd => ?_)
      have hbl := pu_grp_ok hgrd hb
      have hnl := hgrd.1
      exact bf_f73 (t := 1) (hOc.fr hfrd (by omega)) (hBxc.fr hfrd (by omega)) hb hn0 hn hLnd hnl.1 (by omega) hbl (by omega) ((((hPn.fr hfa (by omega)).fr hfb (by omega)).fr hfc (by omega)).fr hfrd (by omega)) np0 np8 w1 w2 h1 h2 ((((hS3.fr hfa (by omega)).fr hfb (by omega)).fr hfc (by omega)).fr hfrd (by omega)) ((((hBk.fr hfa (by omega)).fr hfb (by omega)).fr hfc (by omega)).fr hfrd (by omega)) ((((h3.fr hfa (by omega)).fr hfb (by omega)).fr hfc (by omega)).fr hfrd (by omega)) (by rw [hfrd 46 (by omega), hfc 46 (by omega), hfb 46 (by omega), hfa 46 (by omega)]; exact hPB) hgrd (fun M' LO' LX' nk' KL' KU' KR' KD' KP' KM' KZ' KG' KO' KX' BS' HB' LB' PB hf hs3 e1 e2 e3 e4 e5 e6 => k M' 1 f1 nl LL LU LR LD LP LM LG LO' LX' nk' KL' KU' KR' KD' KP' KM' KZ' KG' KO' KX' BS' HB' LB' PB (fun j hj => by rw [hf j (by omega), hfrd j (by omega), hfc j (by omega), hfb j (by omega), hfa j (by omega)]) ((hOc.fr hfrd (by omega)).of (hf 2 (by omega))) ⟨_, _, _, (hS1c.fr hfrd (by omega)).of (hf 13 (by omega)) (hf 14 (by omega))⟩ ⟨_, _, _, (hS2c.fr hfrd (by omega)).of (hf 15 (by omega)) (hf 16 (by omega))⟩ hs3 ⟨f0, f1, hlab0, hlab1, Or.inl ⟨by omega, rfl, rfl⟩⟩ e1 e2 e3 e4 e5 e6)
