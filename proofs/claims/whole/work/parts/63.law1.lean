/-! the law: what holds between two calls -/
def la_C (M : mv_M) (W H t nb : Int) (BL BU BR BD : Int → Int) (np : Int) (NL NU NR ND : Int → Int) (nl : Int) (LL LU LR LD LP LM LO : Int → Int) (nk : Int) (KL KU KR KD KP KZ KG KO BS HB LB PB : Int → Int) : Prop :=
  bf_O M W H t ∧ bf_R M 3 64 nb BL BU BR BD ∧ bf_R M 8 8 np NL NU NR ND ∧ (∃ m c f, bf_S M 13 m c f) ∧ (∃ m c f, bf_S M 15 m c f) ∧ (∃ m c f, bf_S M 17 m c f) ∧ (∃ LG LX, bf_G M 19 nl LL LU LR LD LP LM (fun _ => 0) LG LO LX) ∧ (∃ KM KX, bf_G M 31 nk KL KU KR KD KP KM KZ KG KO KX) ∧ bf_3 M BS HB LB ∧ M.2 46 = .inl (64, PB)
def la_R (M : mv_M) (wi ta bo pa fo tu bl kl se : Int) (B N K O KB X XL XB Z IB : Int → Int) (PR : Nat → mv_V) : Prop :=
  (∃ co wy lc ow, rf_O M co wi ta bo pa wy lc fo tu bl kl se ow) ∧ M.2 48 = .inl (256, B) ∧ M.2 49 = .inl (32, N) ∧ (∃ f, M.2 50 = .inl (64, f)) ∧ (∃ f, M.2 51 = .inl (256, f)) ∧ (∃ f, M.2 52 = .inl (64, f)) ∧ (∃ f, M.2 53 = .inl (64, f)) ∧ M.2 54 = .inl (256, K) ∧ (∃ f, M.2 55 = .inl (64, f)) ∧ M.2 56 = .inl (64, Z) ∧ M.2 57 = .inr (5000 + 64, PR) ∧ M.2 58 = .inl (64, O) ∧ M.2 59 = .inl (256, X) ∧ M.2 60 = .inl (64, XL) ∧ M.2 61 = .inl (64, XB) ∧ M.2 62 = .inl (64, KB) ∧ M.2 63 = .inl (64, IB)
theorem la_C.of {M M' : mv_M} {W H t nb : Int} {BL BU BR BD : Int → Int} {np : Int} {NL NU NR ND : Int → Int} {nl : Int} {LL LU LR LD LP LM LO : Int → Int} {nk : Int} {KL KU KR KD KP KZ KG KO BS HB LB PB : Int → Int} (h : la_C M W H t nb BL BU BR BD np NL NU NR ND nl LL LU LR LD LP LM LO nk KL KU KR KD KP KZ KG KO BS HB LB PB) (e : ∀ j, j < 47 → M'.2 j = M.2 j) : la_C M' W H t nb BL BU BR BD np NL NU NR ND nl LL LU LR LD LP LM LO nk KL KU KR KD KP KZ KG KO BS HB LB PB := by
  obtain ⟨h1, h2, h3, ⟨a1, b1, c1, h4⟩, ⟨a2, b2, c2, h5⟩, ⟨a3, b3, c3, h6⟩, ⟨a4, b4, h7⟩, ⟨a5, b5, h8⟩, h9, h10⟩ := h
  exact ⟨h1.of (e 2 (by omega)), h2.cg (fun j _ hj => e j (by omega)), h3.cg (fun j _ hj => e j (by omega)), ⟨a1, b1, c1, h4.cg (fun j _ hj => e j (by omega))⟩, ⟨a2, b2, c2, h5.cg (fun j _ hj => e j (by omega))⟩, ⟨a3, b3, c3, h6.cg (fun j _ hj => e j (by omega))⟩, ⟨a4, b4, h7.cg (fun j _ hj => e j (by omega))⟩, ⟨a5, b5, h8.cg (fun j _ hj => e j (by omega))⟩, ⟨by rw [e 43 (by omega)]; exact h9.1, by rw [e 44 (by omega)]; exact h9.2.1, by rw [e 45 (by omega)]; exact h9.2.2⟩, by rw [e 46 (by omega)]; exact h10⟩
theorem la_R.co {M M' : mv_M} {wi ta bo pa fo tu bl kl se : Int} {B N K O KB X XL XB Z IB : Int → Int} {PR : Nat → mv_V} (h : la_R M wi ta bo pa fo tu bl kl se B N K O KB X XL XB Z IB PR) {bo' se' co wy lc ow : Int} (hO : rf_O M' co wi ta bo' pa wy lc fo tu bl kl se' ow) (e : ∀ j, 48 ≤ j → M'.2 j = M.2 j) : la_R M' wi ta bo' pa fo tu bl kl se' B N K O KB X XL XB Z IB PR := by
  obtain ⟨_, g48, g49, g50, g51, g52, g53, g54, g55, g56, g57, g58, g59, g60, g61, g62, g63⟩ := h
  exact ⟨⟨_, _, _, _, hO⟩, by rw [e 48 (by omega)]; exact g48, by rw [e 49 (by omega)]; exact g49, by rw [e 50 (by omega)]; exact g50, by rw [e 51 (by omega)]; exact g51, by rw [e 52 (by omega)]; exact g52, by rw [e 53 (by omega)]; exact g53, by rw [e 54 (by omega)]; exact g54, by rw [e 55 (by omega)]; exact g55, by rw [e 56 (by omega)]; exact g56, by rw [e 57 (by omega)]; exact g57, by rw [e 58 (by omega)]; exact g58, by rw [e 59 (by omega)]; exact g59, by rw [e 60 (by omega)]; exact g60, by rw [e 61 (by omega)]; exact g61, by rw [e 62 (by omega)]; exact g62, by rw [e 63 (by omega)]; exact g63⟩
theorem la_R.of {M M' : mv_M} {wi ta bo pa fo tu bl kl se : Int} {B N K O KB X XL XB Z IB : Int → Int} {PR : Nat → mv_V} (h : la_R M wi ta bo pa fo tu bl kl se B N K O KB X XL XB Z IB PR) (e : ∀ j, 47 ≤ j → M'.2 j = M.2 j) : la_R M' wi ta bo pa fo tu bl kl se B N K O KB X XL XB Z IB PR := by
  obtain ⟨co, wy, lc, ow, hO⟩ := h.1
  exact h.co (show rf_O M' co wi ta bo pa wy lc fo tu bl kl se ow by unfold rf_O; rw [e 47 (by omega)]; exact hO) (fun j hj => e j (by omega))
def la_N (W H nb np t fo nk : Int) : Prop := (1 ≤ W ∧ W ≤ 4096 ∧ 1 ≤ H ∧ H ≤ 4096) ∧ (0 ≤ nb ∧ nb ≤ 64 ∧ 0 ≤ np ∧ np ≤ 8) ∧ (t = 0 ∨ t = 1) ∧ (fo = 0 ∨ fo = 1) ∧ (0 < nk → fo = 1)
/-- both sides stand alike -/
def la_I (L : Nat) (f : Int → Int) (M : mv_M) : Prop := M.2 1 = .inl (L, f) ∧ ∃ (W H t nb : Int) (BL BU BR BD : Int → Int) (np : Int) (NL NU NR ND : Int → Int) (nl : Int) (LL LU LR LD LP LM LO : Int → Int) (nk : Int) (KL KU KR KD KP KZ KG KO BS HB LB PB : Int → Int) (fo se : Int) (B N K O KB X XL XB Z IB : Int → Int) (PR : Nat → mv_V), la_C M W H t nb BL BU BR BD np NL NU NR ND nl LL LU LR LD LP LM LO nk KL KU KR KD KP KZ KG KO BS HB LB PB ∧ la_R M W H nb np fo t nk nl se B N K O KB X XL XB Z IB PR ∧ la_N W H nb np t fo nk ∧ (bf_ok nb BL BU BR BD ∧ bf_ok np NL NU NR ND ∧ eq_b nb BL BU BR BD B ∧ eq_b np NL NU NR ND N) ∧ eq_fr nl LL LU LR LD LP LM LO nk KL KU KR KD KP KZ KG KO BS HB LB K O KB X XL XB Z PR ∧ eq_pl nb se nk PB O IB
theorem eq_ok {n : Int} {L U R D A : Int → Int} (h : bf_ok n L U R D) (he : eq_b n L U R D A) : rf_ok n A := by
  intro j j0 j1
  obtain ⟨e1, e2, e3, e4⟩ := he j j0 j1
  rw [← e1, ← e2, ← e3, ← e4]
  exact h j j0 j1
theorem pu_cnt_at {P : Int → Bool} {i l : Int} (i0 : 0 ≤ i) (l0 : 0 ≤ l) (hi : P i = true) (hl : P l = true) (h : pu_cnt P i.toNat = pu_cnt P l.toNat) : i = l := by
  rcases Int.lt_trichotomy i l with w | w | w
  · have a := pu_cnt_s (P := P) i0
    rw [if_pos hi] at a
    have b := pu_cnt_mono (P := P) (show (i + 1).toNat ≤ l.toNat by omega)
    omega
  · exact w
  · have a := pu_cnt_s (P := P) l0
    rw [if_pos hl] at a
    have b := pu_cnt_mono (P := P) (show (l + 1).toNat ≤ i.toNat by omega)
    omega
theorem la_blk {nk nl : Int} {KL KU KR KD KP KO BS KZ HB LB K O KB XB Z : Int → Int} {PR : Nat → mv_V} (h : eq_fb nk nl KL KU KR KD KP KO BS KZ HB LB K O KB XB Z PR) {i w r r' : Int} (h1 : bf_blk nk KL KU KR KD KP KO BS i w r) (h2 : rf_blk nk nl K O KB XB i w r') : r = r' := by
  rcases h1 with ⟨a, rfl⟩ | ⟨a, b, rfl⟩ | ⟨a, b, h1⟩
  · rcases h2 with ⟨c, rfl⟩ | ⟨c, d, rfl⟩ | ⟨c, h2⟩
    · rfl
    · exact absurd c a
    · exact absurd c a
  · rcases h2 with ⟨c, rfl⟩ | ⟨c, d, rfl⟩ | ⟨c, h2⟩
    · exact absurd a c
    · rfl
    · exfalso; omega
  · obtain ⟨_, ⟨e1, e2, e3, e4⟩, e5, e6, _⟩ := h i a.1 a.2
    unfold rf_l at e1
    unfold rf_u at e2
    unfold rf_r at e3
    unfold rf_d at e4
    rcases h2 with ⟨c, rfl⟩ | ⟨c, d, rfl⟩ | ⟨c, h2⟩
    · exact absurd a c
    · exact absurd b d
    · have z0 : K (4 * O i + 0) = K (4 * O i) := by rw [Int.add_zero]
      rcases h1 with ⟨rfl, h1⟩ | ⟨rfl, h1⟩ | ⟨rfl, h1⟩ | ⟨rfl, h1⟩ | ⟨rfl, h1⟩ | ⟨rfl, h1⟩ <;> rcases h2 with ⟨_, _, h2⟩ | ⟨_, h2⟩ | ⟨_, h2⟩ <;> omega
theorem la_lin {nk nl : Int} {LL LU LR LD LP LM LO KG KO KB O X XL XB : Int → Int} (h : eq_fl nk nl LL LU LR LD LP LM LO KG KO KB O X XL XB) {b kk w r r' : Int} (h1 : bf_lin nk nl LL LU LR LD LP LM LO KG KO b kk w r) (h2 : rf_lin nk nl O KB X XL XB b kk w r') : r = r' := by
  rcases h1 with ⟨a, rfl⟩ | ⟨a, c, rfl⟩ | ⟨a, c, g, hg, h1⟩
  · rcases h2 with ⟨d, rfl⟩ | ⟨d, e, rfl⟩ | ⟨d, e, h2⟩
    · rfl
    · exact absurd d a
    · exact absurd d a
  · rcases h2 with ⟨d, rfl⟩ | ⟨d, e, rfl⟩ | ⟨d, e, h2⟩
    · exact absurd a d
    · rfl
    · exact absurd e c
  · rcases h2 with ⟨d, rfl⟩ | ⟨d, e, rfl⟩ | ⟨d, e, h2⟩
    · exact absurd a d
    · exact absurd c e
    · have hs : ∀ p, 0 ≤ p → p < nl → (KG (LO p) = KO b ↔ KB p = O b) := fun p p0 p1 => (h p p0 p1).2.2.2.2.2 b a.1 a.2
      have hc : ∀ p, p ≤ nl → pu_cnt (fun q => decide (KG (LO q) = KO b)) p.toNat = pu_cnt (fun q => decide (KB q = O b)) p.toNat := fun p p1 => pu_cnt_congr (fun q q0 q1 => decide_eq_decide.mpr (hs q q0 (by omega)))
      rcases hg with ⟨i, i0, i1, i2, i3, rfl⟩ | ⟨hn, rfl⟩
      · rcases h2 with ⟨l, l0, l1, l2, l3, h2⟩ | ⟨hn, rfl⟩
        · have il : i = l := pu_cnt_at (P := fun q => decide (KB q = O b)) i0 l0 (by simpa using (hs i i0 i1).mp i2) (by simpa using l2) (by rw [← hc i (by omega), i3, l3])
          subst il
          obtain ⟨⟨u0, u1⟩, ⟨e1, e2, e3, e4⟩, e5, e6, _⟩ := h i i0 i1
          unfold rf_l at e1
          unfold rf_u at e2
          unfold rf_r at e3
          unfold rf_d at e4
          have z0 : X (4 * i + 0) = X (4 * i) := by rw [Int.add_zero]
          rcases h1 with ⟨h1, _⟩ | ⟨_, _, h1⟩
          · exfalso; omega
          · rcases h1 with ⟨rfl, h1⟩ | ⟨rfl, h1⟩ | ⟨rfl, h1⟩ | ⟨rfl, h1⟩ | ⟨rfl, h1⟩ | ⟨rfl, h1⟩ <;> rcases h2 with ⟨_, _, h2⟩ | ⟨_, h2⟩ | ⟨_, h2⟩ <;> omega
        · exact absurd (by rw [← hc i (by omega), i3]) (hn i i0 i1 ((hs i i0 i1).mp i2))
      · have hr : r = -1 := by
          rcases h1 with ⟨_, h1⟩ | ⟨h1, _⟩
          · exact h1
          · exfalso; omega
        rcases h2 with ⟨l, l0, l1, l2, l3, h2⟩ | ⟨_, rfl⟩
        · exact absurd (by rw [hc l (by omega), l3]) (hn l l0 l1 ((hs l l0 l1).mpr l2))
        · exact hr
theorem eq_b_s {n : Int} {L U R D A : Int → Int} (he : eq_b n L U R D A) {x y w h : Int} : eq_b (n + 1) (mv_s L n x) (mv_s U n y) (mv_s R n (x + w)) (mv_s D n (y + h)) (mv_s (mv_s (mv_s (mv_s A (4 * n) x) (4 * n + 1) y) (4 * n + 2) w) (4 * n + 3) h) := by
  intro j j0 j1
  unfold rf_l rf_u rf_r rf_d
  by_cases hj : j = n
  · subst hj
    rw [mv_ss, mv_ss, mv_ss, mv_ss, mv_sn (show 4 * j ≠ 4 * j + 3 by omega), mv_sn (show 4 * j ≠ 4 * j + 2 by omega), mv_sn (show 4 * j ≠ 4 * j + 1 by omega), mv_ss, mv_sn (show 4 * j + 1 ≠ 4 * j + 3 by omega), mv_sn (show 4 * j + 1 ≠ 4 * j + 2 by omega), mv_ss, mv_sn (show 4 * j + 2 ≠ 4 * j + 3 by omega), mv_ss, mv_ss]
    exact ⟨rfl, rfl, rfl, rfl⟩
  · have key : ∀ k, k < 4 * n → mv_s (mv_s (mv_s (mv_s A (4 * n) x) (4 * n + 1) y) (4 * n + 2) w) (4 * n + 3) h k = A k := fun k hk => by
      rw [mv_sn (by omega), mv_sn (by omega), mv_sn (by omega), mv_sn (by omega)]
    rw [mv_sn hj, mv_sn hj, mv_sn hj, mv_sn hj, key (4 * j) (by omega), key (4 * j + 1) (by omega), key (4 * j + 2) (by omega), key (4 * j + 3) (by omega)]
    exact he j j0 (by omega)
theorem bf_ok_s {W H n : Int} {L U R D : Int → Int} (h : bf_ok n L U R D) {x y w h' : Int} (hon : bf_on W H x y w h') (w2 : W ≤ 4096) (h2 : H ≤ 4096) : bf_ok (n + 1) (mv_s L n x) (mv_s U n y) (mv_s R n (x + w)) (mv_s D n (y + h')) := by
  intro j j0 j1
  by_cases hj : j = n
  · subst hj
    rw [mv_ss, mv_ss, mv_ss, mv_ss]
    unfold bf_on at hon
    omega
  · rw [mv_sn hj, mv_sn hj, mv_sn hj, mv_sn hj]
    exact h j j0 (by omega)
theorem eq_pl_s {nb se nk : Int} {PB O IB : Int → Int} (h : eq_pl nb se nk PB O IB) : eq_pl (nb + 1) se nk (mv_s PB nb (-1)) O IB := by
  obtain ⟨h1, h2, h3, h4⟩ := h
  refine ⟨by omega, fun i i0 i1 => ?_, fun i i0 i1 => ?_, h4⟩
  · rw [mv_sn (by omega)]
    exact h2 i i0 i1
  · by_cases hi : i = nb
    · rw [hi, mv_ss]
    · rw [mv_sn hi]
      exact h3 i i0 (by omega)
theorem la_eq {md : mv_D} {pc : Nat} {lo st : List mv_V} {M : mv_M} {bu : Nat × Nat} {Q : List mv_V → mv_M → Prop} {x y : Int} {off : Int} (tgt : Nat) (hd : decode md.2.1 pc = .ok (.if_icmp .eq off, 3)) (ht : (pc : Int) + off = (tgt : Int)) (h : x = y) (k : mv_W md tgt lo st M bu Q) : mv_W md pc lo (.inl y :: .inl x :: st) M bu Q :=
  mx_icmp_eq tgt hd ht (fun _ => k) (fun c => absurd h c)
