/-! both sides held together: lines and blocks -/
/-- the same boxes -/
def eq_b (n : Int) (L U R D A : Int → Int) : Prop := ∀ j, 0 ≤ j → j < n → L j = rf_l A j ∧ U j = rf_u A j ∧ R j = rf_r A j ∧ D j = rf_d A j
theorem eq_lab {n t : Int} {L U R D A f f' : Int → Int} (he : eq_b n L U R D A) (h : pu_lab n (fun a b => a < b ∧ bf_nb t L U R D a b) f) (h' : pu_lab n (fun a b => a < b ∧ bf_nb t (rf_l A) (rf_u A) (rf_r A) (rf_d A) a b) f') : ∀ a, 0 ≤ a → a < n → f a = f' a := by
  refine pu_uniq (pu_labC h (fun i j i0 i1 j0 j1 => ?_) (fun i _ _ => rfl)) h'
  rw [bf_nb_cg (he i i0 i1) (he j j0 j1)]
theorem eq_cc {n : Int} {f f' : Int → Int} (h : ∀ a, 0 ≤ a → a < n → f a = f' a) : pu_cnt (fun m => decide (f m = m)) n.toNat = pu_cnt (fun m => decide (f' m = m)) n.toNat :=
  pu_cnt_congr (fun i i0 i1 => by rw [h i i0 (by omega)])
theorem eq_t {n t t' : Int} {L U R D A ft f0' f1' f : Int → Int} (he : eq_b n L U R D A) (h : bf_lab2 n L U R D t ft) (h0 : pu_lab n (fun a b => a < b ∧ bf_nb 0 (rf_l A) (rf_u A) (rf_r A) (rf_d A) a b) f0') (h1 : pu_lab n (fun a b => a < b ∧ bf_nb 1 (rf_l A) (rf_u A) (rf_r A) (rf_d A) a b) f1') (hc : (pu_cnt (fun m => decide (f1' m = m)) n.toNat < pu_cnt (fun m => decide (f0' m = m)) n.toNat ∧ t' = 1) ∨ (¬ pu_cnt (fun m => decide (f1' m = m)) n.toNat < pu_cnt (fun m => decide (f0' m = m)) n.toNat ∧ t' = 0)) (hf : pu_lab n (fun a b => a < b ∧ bf_nb t' (rf_l A) (rf_u A) (rf_r A) (rf_d A) a b) f) : t = t' ∧ ∀ a, 0 ≤ a → a < n → ft a = f a := by
  obtain ⟨f0, f1, g0, g1, g⟩ := h
  have e0 := eq_lab he g0 h0
  have e1 := eq_lab he g1 h1
  have c0 := eq_cc e0
  have c1 := eq_cc e1
  have ht : t = t' := by omega
  refine ⟨ht, ?_⟩
  subst ht
  rcases g with ⟨_, rfl, rfl⟩ | ⟨_, rfl, rfl⟩
  · exact eq_lab he g1 hf
  · exact eq_lab he g0 hf
/-- numbers of lines: the class's LO p is the reference's p -/
def eq_ln (nb nl : Int) (f LL LU LR LD LP LM LG LO L E P : Int → Int) : Prop :=
  (∀ p, 0 ≤ p → p < nl → (0 ≤ LO p ∧ LO p < nl) ∧ LM (LO p) = E p ∧ (LL (LO p) = rf_l L p ∧ LU (LO p) = rf_u L p ∧ LR (LO p) = rf_r L p ∧ LD (LO p) = rf_d L p) ∧ LP (LO p) = pu_cnt (fun k => decide (f k = E p)) nb.toNat) ∧ (∀ k, 0 ≤ k → k < nb → LG k = LO (P k))
theorem eq_mono {n : Int} {K : Int → Int} (h : ∀ g g', 0 ≤ g → g < g' → g' < n → K g < K g') {a b : Int} (a0 : 0 ≤ a) (a1 : a < n) (b0 : 0 ≤ b) (b1 : b < n) : (K a < K b ↔ a < b) ∧ (K a = K b ↔ a = b) := by
  rcases Int.lt_trichotomy a b with w | w | w
  · have := h a b a0 w b1; omega
  · subst w; omega
  · have := h b a b0 w a1; omega
theorem eq_lines {nb nl lc t : Int} {BL BU BR BD B ft f LL LU LR LD LP LM LG LO L E P : Int → Int} (he : eq_b nb BL BU BR BD B) (hg : pu_grp nb ft BL BU BR BD nl LL LU LR LD LP LM LG) (hft : ∀ a, 0 ≤ a → a < nb → ft a = f a) (hor : pu_ord nl LO (bf_cb t LL LU (fun _ => 0))) (hlc : lc = pu_cnt (fun m => decide (f m = m)) nb.toNat) (hinv : rf_inv lc nb f B L E) (hsrt : rf_srt t L E lc) (hP : ∀ k, 0 ≤ k → k < nb → 0 ≤ P k ∧ P k < lc ∧ E (P k) = f k) : nl = lc ∧ eq_ln nb nl f LL LU LR LD LP LM LG LO L E P := by
  obtain ⟨hc01, hG, hM, hI, hc, hPP, hS⟩ := hg
  have hnl : nl = lc := by rw [hc, hlc]; exact eq_cc hft
  subst hnl
  obtain ⟨hE, hEd, hEs⟩ := hinv
  have key : ∀ p, 0 ≤ p → p < nl → (0 ≤ LG (E p) ∧ LG (E p) < nl) ∧ LM (LG (E p)) = E p ∧ (LL (LG (E p)) = rf_l L p ∧ LU (LG (E p)) = rf_u L p ∧ LR (LG (E p)) = rf_r L p ∧ LD (LG (E p)) = rf_d L p) ∧ LP (LG (E p)) = pu_cnt (fun k => decide (f k = E p)) nb.toNat := by
    intro p p0 p1
    obtain ⟨e0, e1, e2, e3⟩ := hE p p0 p1
    obtain ⟨g0, g1, g2⟩ := hG (E p) e0 e1
    have g3 : LM (LG (E p)) = E p := by rw [g2, hft _ e0 e1, e2]
    obtain ⟨s1, s2, s3, s4⟩ := hS (LG (E p)) g0 g1
    rw [g3] at s1 s2 s3 s4
    obtain ⟨b1, b2, b3, b4⟩ := e3
    have hf : ∀ j, 0 ≤ j → j < nb → (ft j = E p ↔ f j = E p) := fun j j0 j1 => by rw [hft j j0 j1]
    refine ⟨⟨g0, g1⟩, g3, ⟨?_, ?_, ?_, ?_⟩, ?_⟩
    · exact pu_min_uniq (pu_min_cg s1 hf (fun j j0 j1 => (he j j0 j1).1)) b1
    · exact pu_min_uniq (pu_min_cg s2 hf (fun j j0 j1 => (he j j0 j1).2.1)) b2
    · exact pu_max_uniq (pu_max_cg s3 hf (fun j j0 j1 => (he j j0 j1).2.2.1)) b3
    · exact pu_max_uniq (pu_max_cg s4 hf (fun j j0 j1 => (he j j0 j1).2.2.2)) b4
    · rw [hPP _ g0 g1, g3]
      exact pu_cnt_congr (fun i i0 i1 => by rw [hft i i0 (by omega)])
  have hor' : pu_ord nl (fun p => LG (E p)) (bf_cb t LL LU (fun _ => 0)) := by
    refine ⟨fun p p0 p1 => (key p p0 p1).1, fun p q p0 p1 q1 => ?_, fun x x0 x1 => ?_⟩
    · obtain ⟨⟨a0, a1⟩, a2, ⟨a3, a4, a5, a6⟩, a7⟩ := key p p0 (by omega)
      obtain ⟨⟨c0, c1⟩, c2, ⟨c3, c4, c5, c6⟩, c7⟩ := key q (by omega) q1
      have hs : rf_bef t L p q (E p) (E q) := hsrt p q p0 p1 q1
      have hm := (eq_mono hI a0 a1 c0 c1).1
      rw [a2, c2] at hm
      show bf_cb t LL LU (fun _ => 0) (LG (E p)) (LG (E q))
      unfold rf_bef bf_o at hs
      unfold bf_cb bf_o
      rw [a3, a4, c3, c4, ← hm]
      exact Or.inr ⟨rfl, hs⟩
    · obtain ⟨m0, m1, m2, m3⟩ := hM x x0 x1
      obtain ⟨p, p0, p1, p2⟩ := hEs (LM x) m0 m1 (by rw [← hft _ m0 m1]; exact m2)
      exact ⟨p, p0, p1, by show LG (E p) = x; rw [p2, m3]⟩
  have hu := pu_ord_uniq bf_cb_ir bf_cb_tr hor hor'
  have hln : ∀ p, 0 ≤ p → p < nl → (0 ≤ LO p ∧ LO p < nl) ∧ LM (LO p) = E p ∧ (LL (LO p) = rf_l L p ∧ LU (LO p) = rf_u L p ∧ LR (LO p) = rf_r L p ∧ LD (LO p) = rf_d L p) ∧ LP (LO p) = pu_cnt (fun k => decide (f k = E p)) nb.toNat := fun p p0 p1 => by
    have e : LO p = LG (E p) := hu p p0 p1
    rw [e]
    exact key p p0 p1
  refine ⟨rfl, hln, fun k k0 k1 => ?_⟩
  obtain ⟨q0, q1, q2⟩ := hP k k0 k1
  obtain ⟨g0, g1, g2⟩ := hG k k0 k1
  obtain ⟨⟨r0, r1⟩, r2, _⟩ := hln (P k) q0 q1
  refine (eq_mono hI g0 g1 r0 r1).2.mp ?_
  rw [g2, r2, q2, hft k k0 k1]
theorem eq_same {n t : Int} {LL LU LR LD LO LX L fl fb : Int → Int} {cb : Int → Int → Prop} (hor : pu_ord n LO cb) (hX : ∀ p, 0 ≤ p → p < n → LX (LO p) = p) (hb : ∀ p, 0 ≤ p → p < n → LL (LO p) = rf_l L p ∧ LU (LO p) = rf_u L p ∧ LR (LO p) = rf_r L p ∧ LD (LO p) = rf_d L p) (hfl : pu_lab n (fun a b => a < b ∧ bf_nl t LL LU LR LD a b) fl) (hfb : pu_lab n (fun a b => a < b ∧ bf_nl t (rf_l L) (rf_u L) (rf_r L) (rf_d L) a b) fb) : ∀ p q, 0 ≤ p → p < n → 0 ≤ q → q < n → (fl (LO p) = fl (LO q) ↔ fb p = fb q) := by
  intro p q p0 p1 q0 q1
  constructor
  · intro h
    have := hfl.2.2 (fun x => fb (LX x)) (fun i j i0 i1 j0 j1 hij => ?_) (LO p) (LO q) (hor.1 p p0 p1).1 (hor.1 p p0 p1).2 (hor.1 q q0 q1).1 (hor.1 q q0 q1).2 h
    · have e : fb (LX (LO p)) = fb (LX (LO q)) := this
      rw [hX p p0 p1, hX q q0 q1] at e
      exact e
    · obtain ⟨a, a0, a1, rfl⟩ := hor.2.2 i i0 i1
      obtain ⟨b, b0, b1, rfl⟩ := hor.2.2 j j0 j1
      show fb (LX (LO a)) = fb (LX (LO b))
      rw [hX a a0 a1, hX b b0 b1]
      exact pu_sym hfb bf_nl_sym a0 a1 b0 b1 ((bf_nl_cg (hb a a0 a1) (hb b b0 b1)).mp hij.2)
  · intro h
    exact hfb.2.2 (fun x => fl (LO x)) (fun i j i0 i1 j0 j1 hij => by
      show fl (LO i) = fl (LO j)
      exact pu_sym hfl bf_nl_sym (hor.1 i i0 i1).1 (hor.1 i i0 i1).2 (hor.1 j j0 j1).1 (hor.1 j j0 j1).2 ((bf_nl_cg (hb i i0 i1) (hb j j0 j1)).mpr hij.2)) p q p0 p1 q0 q1 h
/-- numbers of blocks: the class's ph b is the reference's b -/
def eq_ph (nl nk : Int) (fl fb KM KG LO RB KB ph : Int → Int) : Prop :=
  (∀ b, 0 ≤ b → b < nk → (0 ≤ ph b ∧ ph b < nk)) ∧ (∀ b b', 0 ≤ b → b < nk → 0 ≤ b' → b' < nk → ph b = ph b' → b = b') ∧ (∀ x, 0 ≤ x → x < nk → ∃ b, 0 ≤ b ∧ b < nk ∧ ph b = x) ∧ (∀ p, 0 ≤ p → p < nl → KG (LO p) = ph (KB p)) ∧ (∀ p b, 0 ≤ p → p < nl → 0 ≤ b → b < nk → (fl (LO p) = KM (ph b) ↔ fb p = RB b) ∧ (fb p = RB b ↔ KB p = b))
theorem eq_blocks {nl nk c : Int} {cb : Int → Int → Prop} {LL LU LR LD LO LX fl fb KL KU KR KD KP KM KG RB KB : Int → Int} (hor : pu_ord nl LO cb) (hX : ∀ p, 0 ≤ p → p < nl → LX (LO p) = p) (hs : ∀ p q, 0 ≤ p → p < nl → 0 ≤ q → q < nl → (fl (LO p) = fl (LO q) ↔ fb p = fb q)) (hg : pu_grp nl fl LL LU LR LD nk KL KU KR KD KP KM KG) (hfb : ∀ i, 0 ≤ i → i < nl → 0 ≤ fb i ∧ fb i ≤ i ∧ fb (fb i) = fb i) (hrt : pu_rts nl fb c RB) (hKB : ∀ q, 0 ≤ q → q < nl → fb q < nl → 0 ≤ KB q ∧ KB q < c ∧ RB (KB q) = fb q) : nk = c ∧ eq_ph nl nk fl fb KM KG LO RB KB (fun b => KG (LO (RB b))) := by
  obtain ⟨hc01, hG, hM, hI, hc, hPP, hS⟩ := hg
  obtain ⟨hcc, hR, hRI, hRs⟩ := hrt
  have hc0 := pu_cnt_le (fun m => decide (fb m = m)) nl.toNat
  rw [← hcc] at hc0
  have hKB' : ∀ q, 0 ≤ q → q < nl → 0 ≤ KB q ∧ KB q < c ∧ RB (KB q) = fb q := fun q q0 q1 => hKB q q0 q1 (by have := hfb q q0 q1; omega)
  have kg : ∀ x y, 0 ≤ x → x < nl → 0 ≤ y → y < nl → (KG x = KG y ↔ fl x = fl y) := fun x y x0 x1 y0 y1 => by
    obtain ⟨a0, a1, a2⟩ := hG x x0 x1
    obtain ⟨b0, b1, b2⟩ := hG y y0 y1
    rw [← a2, ← b2]
    exact (eq_mono hI a0 a1 b0 b1).2.symm
  have kgl : ∀ p q, 0 ≤ p → p < nl → 0 ≤ q → q < nl → (KG (LO p) = KG (LO q) ↔ fb p = fb q) := fun p q p0 p1 q0 q1 => by
    rw [kg _ _ (hor.1 p p0 p1).1 (hor.1 p p0 p1).2 (hor.1 q q0 q1).1 (hor.1 q q0 q1).2]
    exact hs p q p0 p1 q0 q1
  have f1 : ∀ b, 0 ≤ b → b < c → (0 ≤ KG (LO (RB b)) ∧ KG (LO (RB b)) < nk) := fun b b0 b1 => by
    obtain ⟨r0, r1, _⟩ := hR b b0 b1
    obtain ⟨a0, a1, a2⟩ := hG _ (hor.1 _ r0 r1).1 (hor.1 _ r0 r1).2
    exact ⟨a0, a1⟩
  have f2 : ∀ b b', 0 ≤ b → b < c → 0 ≤ b' → b' < c → KG (LO (RB b)) = KG (LO (RB b')) → b = b' := fun b b' b0 b1 c0 c1 e => by
    obtain ⟨r0, r1, r2⟩ := hR b b0 b1
    obtain ⟨s0, s1, s2⟩ := hR b' c0 c1
    have := (kgl _ _ r0 r1 s0 s1).mp e
    rw [r2, s2] at this
    exact (eq_mono hRI b0 b1 c0 c1).2.mp this
  have f4 : ∀ p, 0 ≤ p → p < nl → KG (LO p) = KG (LO (RB (KB p))) := fun p p0 p1 => by
    obtain ⟨k0, k1, k2⟩ := hKB' p p0 p1
    obtain ⟨g0, g1, g2⟩ := hfb p p0 p1
    rw [k2, kgl p (fb p) p0 p1 g0 (by omega)]
    exact g2.symm
  have f3 : ∀ x, 0 ≤ x → x < nk → ∃ p, 0 ≤ p ∧ p < nl ∧ KG (LO p) = x ∧ LX (KM x) = p := fun x x0 x1 => by
    obtain ⟨m0, m1, m2, m3⟩ := hM x x0 x1
    obtain ⟨p, p0, p1, p2⟩ := hor.2.2 _ m0 m1
    exact ⟨p, p0, p1, by rw [p2, m3], by rw [← p2, hX p p0 p1]⟩
  have l1 : c ≤ nk := by
    have := pu_pig nk.toNat c.toNat (fun b => KG (LO (RB b))) (fun i i0 i1 => by
      show 0 ≤ KG (LO (RB i)) ∧ KG (LO (RB i)) < (nk.toNat : Int)
      have := f1 i i0 (by omega)
      omega) (fun i j i0 i1 j0 j1 e => f2 i j i0 (by omega) j0 (by omega) e)
    omega
  have l2 : nk ≤ c := by
    have := pu_pig c.toNat nk.toNat (fun x => KB (LX (KM x))) (fun i i0 i1 => by
      obtain ⟨p, p0, p1, p2, p3⟩ := f3 i i0 (by omega)
      show 0 ≤ KB (LX (KM i)) ∧ KB (LX (KM i)) < (c.toNat : Int)
      rw [p3]
      have := hKB' p p0 p1
      omega) (fun i j i0 i1 j0 j1 e => by
      obtain ⟨p, p0, p1, p2, p3⟩ := f3 i i0 (by omega)
      obtain ⟨q, q0, q1, q2, q3⟩ := f3 j j0 (by omega)
      have e' : KB (LX (KM i)) = KB (LX (KM j)) := e
      rw [p3, q3] at e'
      rw [← p2, ← q2, f4 p p0 p1, f4 q q0 q1, e'])
    omega
  have hnk : nk = c := by omega
  subst hnk
  refine ⟨rfl, f1, f2, fun x x0 x1 => ?_, f4, fun p b p0 p1 b0 b1 => ⟨?_, ?_⟩⟩
  · obtain ⟨p, p0, p1, p2, p3⟩ := f3 x x0 x1
    obtain ⟨k0, k1, k2⟩ := hKB' p p0 p1
    exact ⟨KB p, k0, k1, by show KG (LO (RB (KB p))) = x; rw [← f4 p p0 p1, p2]⟩
  · obtain ⟨r0, r1, r2⟩ := hR b b0 b1
    obtain ⟨a0, a1, a2⟩ := hG _ (hor.1 _ r0 r1).1 (hor.1 _ r0 r1).2
    show fl (LO p) = KM (KG (LO (RB b))) ↔ fb p = RB b
    rw [a2, hs p (RB b) p0 p1 r0 r1, r2]
  · obtain ⟨k0, k1, k2⟩ := hKB' p p0 p1
    rw [← k2]
    exact (eq_mono hRI k0 k1 b0 b1).2
