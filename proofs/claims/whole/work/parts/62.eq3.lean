/-! both sides held together: sizes, places, points, what is printed -/
theorem eq_sizes {nl nk : Int} {cb : Int → Int → Prop} {LL LU LR LD LP LM LO fl fb KL KU KR KD KP KM KG RB KB L E K S f ph : Int → Int} {nb : Int} {LG P : Int → Int} (hnl : 0 ≤ nl) (hor : pu_ord nl LO cb) (irr : ∀ a, ¬ cb a a) (hln : eq_ln nb nl f LL LU LR LD LP LM LG LO L E P) (hlm : ∀ g g', 0 ≤ g → g < g' → g' < nl → LM g < LM g') (hfl : ∀ i, 0 ≤ i → i < nl → 0 ≤ fl i ∧ fl i ≤ i ∧ fl (fl i) = fl i) (hg : pu_grp nl fl LL LU LR LD nk KL KU KR KD KP KM KG) (hph : eq_ph nl nk fl fb KM KG LO RB KB ph) {b : Int} (b0 : 0 ≤ b) (b1 : b < nk) (hbx : rf_bx nl fb L (RB b) K b) (hS : pu_min nl fb (RB b) E (S b)) :
    (KL (ph b) = rf_l K b ∧ KU (ph b) = rf_u K b ∧ KR (ph b) = rf_r K b ∧ KD (ph b) = rf_d K b) ∧ KP (ph b) = pu_cnt (fun q => decide (fb q = RB b)) nl.toNat ∧ S b = LM (KM (ph b)) := by
  obtain ⟨hc01, hG, hM, hI, hc, hPP, hSS⟩ := hg
  obtain ⟨p1, p2, p3, p4, p5⟩ := hph
  obtain ⟨q0, q1⟩ := p1 b b0 b1
  obtain ⟨s1, s2, s3, s4⟩ := hSS _ q0 q1
  obtain ⟨x1, x2, x3, x4⟩ := hbx
  have hf : ∀ p, 0 ≤ p → p < nl → (fl (LO p) = KM (ph b) ↔ fb p = RB b) := fun p a0 a1 => (p5 p b a0 a1 b0 b1).1
  refine ⟨⟨?_, ?_, ?_, ?_⟩, ?_, ?_⟩
  · exact pu_min_uniq (pu_min_tr s1 hor.1 hor.2.2 hf (fun p a0 a1 => (hln.1 p a0 a1).2.2.1.1)) x1
  · exact pu_min_uniq (pu_min_tr s2 hor.1 hor.2.2 hf (fun p a0 a1 => (hln.1 p a0 a1).2.2.1.2.1)) x2
  · exact pu_max_uniq (pu_max_tr s3 hor.1 hor.2.2 hf (fun p a0 a1 => (hln.1 p a0 a1).2.2.1.2.2.1)) x3
  · exact pu_max_uniq (pu_max_tr s4 hor.1 hor.2.2 hf (fun p a0 a1 => (hln.1 p a0 a1).2.2.1.2.2.2)) x4
  · have hp := pu_cnt_perm nl.toNat LO (fun j => decide (fl j = KM (ph b))) (fun i i0 i1 => by have := hor.1 i i0 (by omega); omega) (fun i j i0 i1 j0 j1 e => pu_inj irr hor i j i0 (by omega) j0 (by omega) e) (fun x x0 x1 => by
      obtain ⟨i, i0, i1, i2⟩ := hor.2.2 x x0 (by omega)
      exact ⟨i, i0, by omega, i2⟩)
    rw [hPP _ q0 q1, ← hp]
    refine pu_cnt_congr (fun i i0 i1 => ?_)
    show decide (fl (LO i) = KM (ph b)) = decide (fb i = RB b)
    exact decide_eq_decide.mpr (hf i i0 (by omega))
  · obtain ⟨m0, m1, m2, m3⟩ := hM _ q0 q1
    have hmin : pu_min nl fl (KM (ph b)) LM (LM (KM (ph b))) := by
      refine ⟨fun j j0 j1 e => ?_, KM (ph b), m0, m1, m2, rfl⟩
      have := hfl j j0 j1
      have h1 := (eq_mono hlm j0 j1 m0 m1).1
      omega
    exact pu_min_uniq hS (pu_min_tr hmin hor.1 hor.2.2 hf (fun p a0 a1 => (hln.1 p a0 a1).2.1))
theorem eq_order {nl nk t : Int} {fl fb LM LO KL KU KZ KM KG KO RB KB K S Z O ph : Int → Int} (hph : eq_ph nl nk fl fb KM KG LO RB KB ph) (hlm : ∀ g g', 0 ≤ g → g < g' → g' < nl → LM g < LM g') (hkm : ∀ g g', 0 ≤ g → g < g' → g' < nk → KM g < KM g') (hkr : ∀ g, 0 ≤ g → g < nk → 0 ≤ KM g ∧ KM g < nl) (hb : ∀ b, 0 ≤ b → b < nk → KL (ph b) = rf_l K b ∧ KU (ph b) = rf_u K b ∧ S b = LM (KM (ph b)) ∧ KZ (ph b) = Z b) (hko : pu_ord nk KO (bf_cb t KL KU KZ)) (ho : pu_ord nk O (rf_cb t K Z S)) : ∀ i, 0 ≤ i → i < nk → KO i = ph (O i) := by
  obtain ⟨p1, p2, p3, p4, p5⟩ := hph
  refine pu_ord_uniq bf_cb_ir bf_cb_tr hko ⟨fun p p0 p1' => p1 _ (ho.1 p p0 p1').1 (ho.1 p p0 p1').2, fun p q a0 a1 a2 => ?_, fun x x0 x1 => ?_⟩
  · have r1 := ho.1 p a0 (by omega)
    have r2 := ho.1 q (by omega) a2
    have hs : rf_cb t K Z S (O p) (O q) := ho.2.1 p q a0 a1 a2
    obtain ⟨c1, c2, c3, c4⟩ := hb _ r1.1 r1.2
    obtain ⟨d1, d2, d3, d4⟩ := hb _ r2.1 r2.2
    have u1 := p1 _ r1.1 r1.2
    have u2 := p1 _ r2.1 r2.2
    have v1 := hkr _ u1.1 u1.2
    have v2 := hkr _ u2.1 u2.2
    have e1 := (eq_mono hlm v1.1 v1.2 v2.1 v2.2).1
    have e2 := (eq_mono hkm u1.1 u1.2 u2.1 u2.2).1
    have e3 : S (O p) < S (O q) ↔ ph (O p) < ph (O q) := by rw [c3, d3, e1, e2]
    show bf_cb t KL KU KZ (ph (O p)) (ph (O q))
    unfold rf_cb bf_o at hs
    unfold bf_cb bf_o
    rw [c1, c2, c4, d1, d2, d4, ← e3]
    exact hs
  · obtain ⟨b, b0, b1, rfl⟩ := p3 x x0 x1
    obtain ⟨i, i0, i1, rfl⟩ := ho.2.2 b b0 b1
    exact ⟨i, i0, i1, rfl⟩
/-- the highest and the lowest box -/
theorem eq_hl {nb nk b hi lo r x : Int} {gb hh BS HB LB g h : Int → Int} (hm : pu_msr nb nk gb hh BS HB LB) (x0 : 0 ≤ x) (x1 : x < nk) (hl : pu_hl nb g h r hi lo) (hg : ∀ j, 0 ≤ j → j < nb → (gb j = x ↔ g j = r)) (hh' : ∀ j, 0 ≤ j → j < nb → hh j = h j ∧ 1 ≤ h j ∧ h j ≤ 4096) (hne : ∃ j, 0 ≤ j ∧ j < nb ∧ g j = r) : HB x = hi ∧ LB x = lo := by
  obtain ⟨_, m1, m2, m3, m4, m5⟩ := hm x x0 x1
  obtain ⟨l1, l2, l3, l4, l5⟩ := hl
  obtain ⟨j, j0, j1, j2⟩ := hne
  have a1 := m3 j j0 j1 ((hg j j0 j1).mpr j2)
  have a2 := l3 j j0 j1 j2
  have a3 := hh' j j0 j1
  constructor
  · rcases m4 with m4 | ⟨i, i0, i1, i2, i3⟩
    · omega
    · rcases l4 with l4 | ⟨k, k0, k1, k2, k3⟩
      · omega
      · have := l3 i i0 i1 ((hg i i0 i1).mp i2)
        have := m3 k k0 k1 ((hg k k0 k1).mpr k2)
        have := hh' i i0 i1
        have := hh' k k0 k1
        omega
  · rcases l5 with l5 | ⟨k, k0, k1, k2, k3⟩
    · omega
    · have b1 := m3 k k0 k1 ((hg k k0 k1).mpr k2)
      have b2 := hh' k k0 k1
      rcases m5 with m5 | ⟨i, i0, i1, i2, i3⟩
      · omega
      · have := l3 i i0 i1 ((hg i i0 i1).mp i2)
        have := hh' i i0 i1
        omega
theorem eq_sum {nb nl : Int} {P KB XB : Int → Int} {b : Int} (hXB : ∀ l, 0 ≤ l → l < nl → XB l = pu_cnt (fun k => decide (P k = l)) nb.toNat) : ∀ m : Nat, (m : Int) ≤ nl → (∀ k, 0 ≤ k → k < nb → 0 ≤ P k) → pu_sum (fun l => decide (KB l = b)) XB m = pu_cnt (fun k => decide (P k < m ∧ KB (P k) = b)) nb.toNat := by
  intro m
  induction m with
  | zero =>
    intro _ hP
    refine Eq.symm (pu_cnt_0 (fun i i0 i1 => ?_))
    have := hP i i0 (by omega)
    simp only [decide_eq_false_iff_not]
    omega
  | succ m ih =>
    intro hm hP
    show pu_sum _ XB m + (if decide (KB (m : Int) = b) then XB m else 0) = _
    rw [ih (by omega) hP]
    by_cases hb : KB (m : Int) = b
    · rw [if_pos (by simpa using hb), hXB m (by omega) (by omega)]
      refine Eq.symm (pu_cnt_or (fun i i0 i1 => ?_))
      simp only [decide_eq_true_eq]
      constructor
      · constructor
        · rintro ⟨h1, h2⟩
          by_cases hi : P i = m
          · exact Or.inr hi
          · exact Or.inl ⟨by omega, h2⟩
        · rintro (⟨h1, h2⟩ | h1)
          · exact ⟨by omega, h2⟩
          · exact ⟨by omega, by rw [h1]; exact hb⟩
      · omega
    · rw [if_neg (by simpa using hb)]
      rw [Int.add_zero]
      refine pu_cnt_congr (fun i i0 i1 => decide_eq_decide.mpr ?_)
      constructor
      · rintro ⟨h1, h2⟩
        exact ⟨by omega, h2⟩
      · rintro ⟨h1, h2⟩
        refine ⟨?_, h2⟩
        by_cases hi : P i = m
        · rw [hi] at h2; exact absurd h2 hb
        · omega
theorem eq_bs {nb nl : Int} {P KB XB f E : Int → Int} {b : Int} (hnl : 0 ≤ nl) (hXB : ∀ l, 0 ≤ l → l < nl → XB l = pu_cnt (fun k => decide (f k = E l)) nb.toNat) (hP : ∀ k, 0 ≤ k → k < nb → 0 ≤ P k ∧ P k < nl ∧ E (P k) = f k) (hEd : ∀ p q, 0 ≤ p → p < nl → 0 ≤ q → q < nl → E p = E q → p = q) : pu_sum (fun l => decide (KB l = b)) XB nl.toNat = pu_cnt (fun k => decide (KB (P k) = b)) nb.toNat := by
  rw [eq_sum (nb := nb) (nl := nl) (P := P) (fun l l0 l1 => ?_) nl.toNat (by omega) (fun k k0 k1 => (hP k k0 k1).1)]
  · refine pu_cnt_congr (fun i i0 i1 => decide_eq_decide.mpr ?_)
    have := hP i i0 (by omega)
    constructor
    · exact fun h => h.2
    · exact fun h => ⟨by omega, h⟩
  · rw [hXB l l0 l1]
    refine pu_cnt_congr (fun i i0 i1 => decide_eq_decide.mpr ?_)
    obtain ⟨q0, q1, q2⟩ := hP i i0 (by omega)
    rw [← q2]
    constructor
    · exact fun h => hEd _ _ q0 q1 l0 l1 h
    · exact fun h => by rw [h]
/-- what was found, the class's and the reference's -/
def eq_fb (nk nl : Int) (KL KU KR KD KP KO BS KZ HB LB K O KB XB Z : Int → Int) (PR : Nat → mv_V) : Prop :=
  ∀ i, 0 ≤ i → i < nk → ((0 ≤ KO i ∧ KO i < nk) ∧ (0 ≤ O i ∧ O i < nk)) ∧ (KL (KO i) = rf_l K (O i) ∧ KU (KO i) = rf_u K (O i) ∧ KR (KO i) = rf_r K (O i) ∧ KD (KO i) = rf_d K (O i)) ∧ KP (KO i) = pu_cnt (fun l => decide (KB l = O i)) nl.toNat ∧ BS (KO i) = pu_sum (fun l => decide (KB l = O i)) XB nl.toNat ∧ KZ (KO i) = Z (O i) ∧ (PR (O i).toNat = .inl 1 ↔ 4 * (HB (KO i) - LB (KO i)) ≤ HB (KO i))
def eq_fl (nk nl : Int) (LL LU LR LD LP LM LO KG KO KB O X XL XB : Int → Int) : Prop :=
  ∀ p, 0 ≤ p → p < nl → (0 ≤ LO p ∧ LO p < nl) ∧ (LL (LO p) = rf_l X p ∧ LU (LO p) = rf_u X p ∧ LR (LO p) = rf_r X p ∧ LD (LO p) = rf_d X p) ∧ LP (LO p) = XB p ∧ LM (LO p) = XL p ∧ (0 ≤ XB p ∧ XB p ≤ 64) ∧ ∀ i, 0 ≤ i → i < nk → (KG (LO p) = KO i ↔ KB p = O i)
def eq_fr (nl : Int) (LL LU LR LD LP LM LO : Int → Int) (nk : Int) (KL KU KR KD KP KZ KG KO BS HB LB K O KB X XL XB Z : Int → Int) (PR : Nat → mv_V) : Prop :=
  (0 ≤ nl ∧ nl ≤ 64 ∧ 0 ≤ nk ∧ nk ≤ 64) ∧ bf_ok nl LL LU LR LD ∧ bf_ok nk KL KU KR KD ∧ eq_fb nk nl KL KU KR KD KP KO BS KZ HB LB K O KB XB Z PR ∧ eq_fl nk nl LL LU LR LD LP LM LO KG KO KB O X XL XB ∧ (∀ b, 0 ≤ b → b < nk → 0 ≤ HB b ∧ HB b ≤ 4096 ∧ 0 ≤ LB b ∧ LB b ≤ 4096) ∧ (∀ b, 0 ≤ b → b < nk → PR b.toNat = .inl 0 ∨ PR b.toNat = .inl 1) ∧ pu_cnt (fun b => decide (0 < KZ b)) nk.toNat = pu_cnt (fun b => decide (0 < Z b)) nk.toNat
/-- in which block each box was found -/
def eq_pl (nb se nk : Int) (PB O IB : Int → Int) : Prop := (0 ≤ se ∧ se ≤ nb) ∧ (∀ i, 0 ≤ i → i < se → 0 ≤ PB i ∧ PB i < nk ∧ O (PB i) = IB i) ∧ (∀ i, se ≤ i → i < nb → PB i = -1) ∧ ∀ p q, 0 ≤ p → p < nk → 0 ≤ q → q < nk → O p = O q → p = q
theorem eq_main {W H nb np t t' : Int} {BL BU BR BD B NL NU NR ND N : Int → Int} (hn0 : 0 ≤ nb) (hn : nb ≤ 64) (hb : bf_ok nb BL BU BR BD) (he : eq_b nb BL BU BR BD B) (hen : eq_b np NL NU NR ND N) {ft : Int → Int} (hl2 : bf_lab2 nb BL BU BR BD t ft) {nl nk : Int} {LL LU LR LD LP LM LG LO LX KL KU KR KD KP KM KZ KG KO KX BS HB LB PB : Int → Int} (hF : bf_F2 W H nb BL BU BR BD np NL NU NR ND t ft nl LL LU LR LD LP LM LG LO LX nk KL KU KR KD KP KM KZ KG KO KX BS HB LB) (hPB : ∀ j, 0 ≤ j → j < nb → PB j = KX (KG (LG j)))
    {f0 f1 : Int → Int} (h0 : pu_lab nb (fun a b => a < b ∧ bf_nb 0 (rf_l B) (rf_u B) (rf_r B) (rf_d B) a b) f0) (h1 : pu_lab nb (fun a b => a < b ∧ bf_nb 1 (rf_l B) (rf_u B) (rf_r B) (rf_d B) a b) f1) (hc : (pu_cnt (fun m => decide (f1 m = m)) nb.toNat < pu_cnt (fun m => decide (f0 m = m)) nb.toNat ∧ t' = 1) ∨ (¬ pu_cnt (fun m => decide (f1 m = m)) nb.toNat < pu_cnt (fun m => decide (f0 m = m)) nb.toNat ∧ t' = 0)) {lc c : Int} {f L E fb P RB K S Z KB O X XL XB IB : Int → Int} {PR : Nat → mv_V} (hR : rf_F nb lc W H np t' B N f L E fb P c RB K S Z KB O X XL XB IB PR) :
    t = t' ∧ nl = lc ∧ nk = c ∧ eq_fr nl LL LU LR LD LP LM LO nk KL KU KR KD KP KZ KG KO BS HB LB K O KB X XL XB Z PR ∧ eq_pl nb nb nk PB O IB := by
  obtain ⟨r1, r2, r3, r4, r5, r6, r7, r8, ⟨r9, r10, r11⟩, r12⟩ := hR
  obtain ⟨g1, ⟨fl, g2, g3⟩, g4, g5, g6, g7, g8, g9⟩ := hF
  obtain ⟨ht, hft⟩ := eq_t he hl2 h0 h1 hc r1
  subst ht
  obtain ⟨hnl, hln⟩ := eq_lines he g1 hft g6 r2 r3 r4 r6
  subst hnl
  have hbl := pu_grp_ok g1 hb
  have hbk := pu_grp_ok g3 hbl
  have hnl0 : 0 ≤ nl ∧ nl ≤ nb := g1.1
  have hnk0 : 0 ≤ nk ∧ nk ≤ nl := g3.1
  have hsm := eq_same g6 g7 (fun p p0 p1 => (hln.1 p p0 p1).2.2.1) g2 r5
  obtain ⟨hrt, hKB, hBK⟩ := r7
  obtain ⟨hnk, hph⟩ := eq_blocks g6 g7 hsm g3 r5.1 hrt hKB
  subst hnk
  generalize (fun b => KG (LO (RB b))) = ph at hph
  have hlm := g1.2.2.2.1
  have hkm := g3.2.2.2.1
  have hsz : ∀ b, 0 ≤ b → b < nk → _ := fun b b0 b1 => eq_sizes hnl0.1 g6 bf_cb_ir hln hlm g2.1 g3 hph b0 b1 (hBK b b0 b1).1 (hBK b b0 b1).2.1
  have hZ : ∀ b, 0 ≤ b → b < nk → KZ (ph b) = Z b := fun b b0 b1 => by
    obtain ⟨s1, s2, s3⟩ := hsz b b0 b1
    have q := hph.1 b b0 b1
    exact bf_pts_u (g5 _ q.1 q.2) (hBK b b0 b1).2.2.1 s1 s2 rfl hen
  have hko := eq_order hph hlm hkm (fun g a0 a1 => ⟨(g3.2.2.1 g a0 a1).1, (g3.2.2.1 g a0 a1).2.1⟩) (fun b b0 b1 => ⟨(hsz b b0 b1).1.1, (hsz b b0 b1).1.2.1, (hsz b b0 b1).2.2, hZ b b0 b1⟩) g8 r8
  obtain ⟨p1, p2, p3, p4, p5⟩ := hph
  have hPk : ∀ k, 0 ≤ k → k < nb → KG (LG k) = ph (KB (P k)) := fun k k0 k1 => by
    obtain ⟨a0, a1, a2⟩ := r6 k k0 k1
    rw [hln.2 k k0 k1, p4 _ a0 a1]
  have hKBr : ∀ q, 0 ≤ q → q < nl → 0 ≤ KB q ∧ KB q < nk ∧ RB (KB q) = fb q := fun q q0 q1 => hKB q q0 q1 (by have := r5.1 q q0 q1; omega)
  have hphi : ∀ b b', 0 ≤ b → b < nk → 0 ≤ b' → b' < nk → (ph b = ph b' ↔ b = b') := fun b b' a0 a1 a2 a3 => ⟨p2 b b' a0 a1 a2 a3, fun e => by rw [e]⟩
  have hPkb : ∀ b, 0 ≤ b → b < nk → ∀ k, 0 ≤ k → k < nb → (KG (LG k) = ph b ↔ KB (P k) = b) := fun b b0 b1 k k0 k1 => by
    obtain ⟨a0, a1, a2⟩ := r6 k k0 k1
    have := hKBr _ a0 a1
    rw [hPk k k0 k1]
    exact hphi _ _ this.1 this.2.1 b0 b1
  have hcnt : ∀ b, 0 ≤ b → b < nk → KP (ph b) = pu_cnt (fun l => decide (KB l = b)) nl.toNat := fun b b0 b1 => by
    rw [(hsz b b0 b1).2.1]
    exact pu_cnt_congr (fun i i0 i1 => decide_eq_decide.mpr (p5 i b i0 (by omega) b0 b1).2)
  have hBS : ∀ b, 0 ≤ b → b < nk → BS (ph b) = pu_sum (fun l => decide (KB l = b)) XB nl.toNat := fun b b0 b1 => by
    have q := p1 b b0 b1
    rw [eq_bs hnl0.1 r11 r6 r3.2.1, (g4 _ q.1 q.2).1]
    exact pu_cnt_congr (fun i i0 i1 => decide_eq_decide.mpr (hPkb b b0 b1 i i0 (by omega)))
  have hpr : ∀ b, 0 ≤ b → b < nk → (PR b.toNat = .inl 0 ∨ PR b.toNat = .inl 1) ∧ (PR b.toNat = .inl 1 ↔ 4 * (HB (ph b) - LB (ph b)) ≤ HB (ph b)) := fun b b0 b1 => by
    obtain ⟨v, hi, lo, v1, v2, v3⟩ := (hBK b b0 b1).2.2.2
    have q := p1 b b0 b1
    obtain ⟨w1, w2⟩ := eq_hl (b := b) g4 q.1 q.2 v2 (fun j j0 j1 => by
      obtain ⟨a0, a1, a2⟩ := r6 j j0 j1
      show KG (LG j) = ph b ↔ fb (P j) = RB b
      rw [hPkb b b0 b1 j j0 j1]
      exact (p5 _ b a0 a1 b0 b1).2.symm) (fun j j0 j1 => by
      obtain ⟨c1, c2, c3, c4⟩ := he j j0 j1
      have := hb j j0 j1
      show bf_o t BD BR j - bf_o t BU BL j = bf_o t (rf_d B) (rf_r B) j - bf_o t (rf_u B) (rf_l B) j ∧ 1 ≤ bf_o t (rf_d B) (rf_r B) j - bf_o t (rf_u B) (rf_l B) j ∧ bf_o t (rf_d B) (rf_r B) j - bf_o t (rf_u B) (rf_l B) j ≤ 4096
      unfold bf_o
      rw [← c1, ← c2, ← c3, ← c4]
      split <;> omega) (by
      obtain ⟨a0, a1, a2⟩ := hrt.2.1 b b0 b1
      obtain ⟨e0, e1, e2, _⟩ := r3.1 _ a0 a1
      obtain ⟨x0, x1, x2⟩ := r6 _ e0 e1
      refine ⟨E (RB b), e0, e1, ?_⟩
      show fb (P (E (RB b))) = RB b
      have : P (E (RB b)) = RB b := r3.2.1 _ _ x0 x1 a0 a1 (by rw [x2, e2])
      rw [this, a2])
    rw [w1, w2, v1]
    rcases v3 with ⟨rfl, v3⟩ | ⟨rfl, v3⟩
    · exact ⟨Or.inr rfl, fun _ => v3, fun _ => rfl⟩
    · exact ⟨Or.inl rfl, fun e => absurd (Sum.inl.inj e) (by decide), fun e => absurd e v3⟩
  refine ⟨rfl, rfl, rfl, ⟨by omega, hbl, hbk, fun i i0 i1 => ?_, fun p q0 q1 => ?_, fun b b0 b1 => ?_, fun b b0 b1 => (hpr b b0 b1).1, ?_⟩, by omega, fun i i0 i1 => ?_, fun i i0 i1 => by omega, ?_⟩
  · obtain ⟨o0, o1⟩ := r8.1 i i0 i1
    have q := p1 _ o0 o1
    rw [hko i i0 i1]
    exact ⟨⟨q, o0, o1⟩, (hsz _ o0 o1).1, hcnt _ o0 o1, hBS _ o0 o1, hZ _ o0 o1, (hpr _ o0 o1).2⟩
  · obtain ⟨a1, a2, a3, a4⟩ := hln.1 p q0 q1
    have x4 : rf_l X p = rf_l L p ∧ rf_u X p = rf_u L p ∧ rf_r X p = rf_r L p ∧ rf_d X p = rf_d L p := by
      unfold rf_l rf_u rf_r rf_d
      rw [r9 (4 * p) (by omega) (by omega), r9 (4 * p + 1) (by omega) (by omega), r9 (4 * p + 2) (by omega) (by omega), r9 (4 * p + 3) (by omega) (by omega)]
      exact ⟨rfl, rfl, rfl, rfl⟩
    rw [x4.1, x4.2.1, x4.2.2.1, x4.2.2.2, r10 p q0 q1]
    have xb := r11 p q0 q1
    have xc := pu_cnt_le (fun k => decide (f k = E p)) nb.toNat
    refine ⟨a1, a3, by rw [a4, xb], a2, by omega, fun i i0 i1 => ?_⟩
    obtain ⟨o0, o1⟩ := r8.1 i i0 i1
    have := hKBr p q0 q1
    rw [hko i i0 i1, p4 p q0 q1]
    exact hphi _ _ this.1 this.2.1 o0 o1
  · have := (g4 b b0 b1).2
    omega
  · rw [← pu_cnt_perm nk.toNat ph (fun b => decide (0 < KZ b)) (fun i i0 i1 => by have := p1 i i0 (by omega); omega) (fun i j i0 i1 j0 j1 e => p2 i j i0 (by omega) j0 (by omega) e) (fun x x0 x1 => by
      obtain ⟨i, i0, i1, i2⟩ := p3 x x0 (by omega)
      exact ⟨i, i0, by omega, i2⟩)]
    refine pu_cnt_congr (fun i i0 i1 => ?_)
    show decide (0 < KZ (ph i)) = decide (0 < Z i)
    rw [hZ i i0 (by omega)]
  · obtain ⟨a0, a1, a2⟩ := r6 i i0 i1
    obtain ⟨k0, k1, _⟩ := hKBr _ a0 a1
    obtain ⟨p, q0, q1, q2⟩ := r8.2.2 _ k0 k1
    have e : PB i = p := by rw [hPB i i0 i1, hPk i i0 i1, ← q2, ← hko p q0 q1, g9 p q0 q1]
    rw [e, q2, r12 i i0 i1]
    exact ⟨q0, q1, rfl⟩
  · exact pu_inj rf_cb_ir r8
