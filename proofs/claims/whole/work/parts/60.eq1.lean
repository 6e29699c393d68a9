/-! both sides held together: general rows -/
theorem pu_min_cg {n : Int} {f f' F F' : Int → Int} {r r' v : Int} (h : pu_min n f r F v) (hf : ∀ j, 0 ≤ j → j < n → (f j = r ↔ f' j = r')) (hF : ∀ j, 0 ≤ j → j < n → F j = F' j) : pu_min n f' r' F' v := by
  obtain ⟨a, j, j0, j1, j2, j3⟩ := h
  refine ⟨fun l l0 l1 l2 => ?_, j, j0, j1, (hf j j0 j1).mp j2, by rw [← hF j j0 j1]; exact j3⟩
  rw [← hF l l0 l1]
  exact a l l0 l1 ((hf l l0 l1).mpr l2)
theorem pu_max_cg {n : Int} {f f' F F' : Int → Int} {r r' v : Int} (h : pu_max n f r F v) (hf : ∀ j, 0 ≤ j → j < n → (f j = r ↔ f' j = r')) (hF : ∀ j, 0 ≤ j → j < n → F j = F' j) : pu_max n f' r' F' v := by
  obtain ⟨a, j, j0, j1, j2, j3⟩ := h
  refine ⟨fun l l0 l1 l2 => ?_, j, j0, j1, (hf j j0 j1).mp j2, by rw [← hF j j0 j1]; exact j3⟩
  rw [← hF l l0 l1]
  exact a l l0 l1 ((hf l l0 l1).mpr l2)
/-- over another numbering of the same things -/
theorem pu_min_tr {n : Int} {f f' F F' O : Int → Int} {r r' v : Int} (h : pu_min n f r F v) (hO : ∀ p, 0 ≤ p → p < n → 0 ≤ O p ∧ O p < n) (hs : ∀ x, 0 ≤ x → x < n → ∃ p, 0 ≤ p ∧ p < n ∧ O p = x) (hf : ∀ p, 0 ≤ p → p < n → (f (O p) = r ↔ f' p = r')) (hF : ∀ p, 0 ≤ p → p < n → F (O p) = F' p) : pu_min n f' r' F' v := by
  obtain ⟨a, j, j0, j1, j2, j3⟩ := h
  obtain ⟨p, p0, p1, p2⟩ := hs j j0 j1
  refine ⟨fun l l0 l1 l2 => ?_, p, p0, p1, (hf p p0 p1).mp (by rw [p2]; exact j2), by rw [← hF p p0 p1, p2]; exact j3⟩
  rw [← hF l l0 l1]
  exact a (O l) (hO l l0 l1).1 (hO l l0 l1).2 ((hf l l0 l1).mpr l2)
theorem pu_max_tr {n : Int} {f f' F F' O : Int → Int} {r r' v : Int} (h : pu_max n f r F v) (hO : ∀ p, 0 ≤ p → p < n → 0 ≤ O p ∧ O p < n) (hs : ∀ x, 0 ≤ x → x < n → ∃ p, 0 ≤ p ∧ p < n ∧ O p = x) (hf : ∀ p, 0 ≤ p → p < n → (f (O p) = r ↔ f' p = r')) (hF : ∀ p, 0 ≤ p → p < n → F (O p) = F' p) : pu_max n f' r' F' v := by
  obtain ⟨a, j, j0, j1, j2, j3⟩ := h
  obtain ⟨p, p0, p1, p2⟩ := hs j j0 j1
  refine ⟨fun l l0 l1 l2 => ?_, p, p0, p1, (hf p p0 p1).mp (by rw [p2]; exact j2), by rw [← hF p p0 p1, p2]; exact j3⟩
  rw [← hF l l0 l1]
  exact a (O l) (hO l l0 l1).1 (hO l l0 l1).2 ((hf l l0 l1).mpr l2)
/-- no more pigeons than holes -/
theorem pu_pig : ∀ (m n : Nat) (g : Int → Int), (∀ i : Int, 0 ≤ i → i < n → 0 ≤ g i ∧ g i < m) → (∀ i j : Int, 0 ≤ i → i < n → 0 ≤ j → j < n → g i = g j → i = j) → n ≤ m := by
  intro m
  induction m with
  | zero =>
    intro n g h1 h2
    rcases Nat.eq_zero_or_pos n with hn | hn
    · omega
    · have := h1 0 (by omega) (by omega); omega
  | succ m ih =>
    intro n g h1 h2
    by_cases hx : ∃ i : Int, 0 ≤ i ∧ i < n ∧ g i = m
    · obtain ⟨i0, a0, a1, a2⟩ := hx
      have := ih (n - 1) (fun i => if i = i0 then g (n - 1 : Int) else g i) (fun i b0 b1 => ?_) (fun i j b0 b1 c0 c1 e => ?_)
      · omega
      · show 0 ≤ (if i = i0 then g (n - 1 : Int) else g i) ∧ (if i = i0 then g (n - 1 : Int) else g i) < (m : Int)
        by_cases hi : i = i0
        · rw [if_pos hi]
          have q := h1 (n - 1) (by omega) (by omega)
          have : g (n - 1 : Int) ≠ m := fun e => by have := h2 (n - 1) i0 (by omega) (by omega) a0 a1 (by omega); omega
          omega
        · rw [if_neg hi]
          have q := h1 i b0 (by omega)
          have : g i ≠ m := fun e => hi (h2 i i0 b0 (by omega) a0 a1 (by omega))
          omega
      · have e' : (if i = i0 then g (n - 1 : Int) else g i) = (if j = i0 then g (n - 1 : Int) else g j) := e
        by_cases hi : i = i0
        · by_cases hj : j = i0
          · omega
          · rw [if_pos hi, if_neg hj] at e'
            have := h2 (n - 1) j (by omega) (by omega) c0 (by omega) e'; omega
        · by_cases hj : j = i0
          · rw [if_neg hi, if_pos hj] at e'
            have := h2 i (n - 1) b0 (by omega) (by omega) (by omega) e'; omega
          · rw [if_neg hi, if_neg hj] at e'
            exact h2 i j b0 (by omega) c0 (by omega) e'
    · have := ih n g (fun i b0 b1 => by
        have q := h1 i b0 b1
        have : g i ≠ m := fun e => hx ⟨i, b0, b1, e⟩
        omega) h2
      omega
theorem pu_cnt_one {P P' : Int → Bool} {z : Int} (z0 : 0 ≤ z) : ∀ {n : Nat}, z < n → (∀ i : Int, 0 ≤ i → i < n → i ≠ z → P i = P' i) → pu_cnt P n - (if P z then 1 else 0) = pu_cnt P' n - (if P' z then 1 else 0) := by
  intro n
  induction n with
  | zero => intro h; omega
  | succ n ih =>
    intro h1 h
    unfold pu_cnt
    by_cases hn : z = n
    · subst hn
      rw [pu_cnt_congr (P := P) (P' := P') (fun i a1 a2 => h i a1 (by omega) (by omega))]
      omega
    · have := ih (by omega) (fun i a1 a2 a3 => h i a1 (by omega) a3)
      rw [h n (by omega) (by omega) (fun e => hn e.symm)]
      omega
theorem pu_cnt_perm : ∀ (n : Nat) (O : Int → Int) (P : Int → Bool), (∀ i : Int, 0 ≤ i → i < n → 0 ≤ O i ∧ O i < n) → (∀ i j : Int, 0 ≤ i → i < n → 0 ≤ j → j < n → O i = O j → i = j) → (∀ x : Int, 0 ≤ x → x < n → ∃ i : Int, 0 ≤ i ∧ i < n ∧ O i = x) → pu_cnt (fun i => P (O i)) n = pu_cnt P n := by
  intro n
  induction n with
  | zero => intro O P _ _ _; rfl
  | succ n ih =>
    intro O P h1 h2 h3
    show pu_cnt (fun i => P (O i)) n + (if P (O n) then 1 else 0) = pu_cnt P n + (if P n then 1 else 0)
    have hv := h1 n (by omega) (by omega)
    by_cases hvn : O n = n
    · rw [hvn, ih O P (fun i i0 i1 => by
        have := h1 i i0 (by omega)
        have : O i ≠ n := fun e => by have := h2 i n i0 (by omega) (by omega) (by omega) (by omega); omega
        omega) (fun i j i0 i1 j0 j1 e => h2 i j i0 (by omega) j0 (by omega) e) (fun x x0 x1 => by
        obtain ⟨i, i0, i1, i2⟩ := h3 x x0 (by omega)
        refine ⟨i, i0, ?_, i2⟩
        by_cases e : i = n
        · rw [e] at i2; omega
        · omega)]
    · obtain ⟨m, m0, m1, m2⟩ := h3 n (by omega) (by omega)
      have hmn : m < n := by
        by_cases e : m = n
        · rw [e] at m2; exact absurd m2 hvn
        · omega
      have key := ih (fun i => if i = m then O n else O i) P (fun i i0 i1 => by
        show 0 ≤ (if i = m then O n else O i) ∧ (if i = m then O n else O i) < (n : Int)
        by_cases hi : i = m
        · rw [if_pos hi]; omega
        · rw [if_neg hi]
          have := h1 i i0 (by omega)
          have : O i ≠ n := fun e => hi (h2 i m i0 (by omega) m0 m1 (by omega))
          omega) (fun i j i0 i1 j0 j1 e => by
        have e' : (if i = m then O n else O i) = (if j = m then O n else O j) := e
        by_cases hi : i = m
        · by_cases hj : j = m
          · omega
          · rw [if_pos hi, if_neg hj] at e'
            have := h2 n j (by omega) (by omega) j0 (by omega) e'; omega
        · by_cases hj : j = m
          · rw [if_neg hi, if_pos hj] at e'
            have := h2 i n i0 (by omega) (by omega) (by omega) e'; omega
          · rw [if_neg hi, if_neg hj] at e'
            exact h2 i j i0 (by omega) j0 (by omega) e') (fun x x0 x1 => by
        by_cases hx : x = O n
        · exact ⟨m, m0, hmn, by show (if m = m then O n else O m) = x; rw [if_pos rfl, hx]⟩
        · obtain ⟨i, i0, i1, i2⟩ := h3 x x0 (by omega)
          have hin : i ≠ n := fun e => by rw [e] at i2; exact hx i2.symm
          have him : i ≠ m := fun e => by rw [e, m2] at i2; omega
          exact ⟨i, i0, by omega, by show (if i = m then O n else O i) = x; rw [if_neg him, i2]⟩)
      have one := pu_cnt_one (P := fun i => P (O i)) (P' := fun i => P (if i = m then O n else O i)) (z := m) m0 (n := n) (by omega) (fun i i0 i1 hi => by
        show P (O i) = P (if i = m then O n else O i)
        rw [if_neg hi])
      have e1 : (if P (O m) then (1 : Int) else 0) = (if P n then 1 else 0) := by rw [m2]
      have e2 : (if P (if m = m then O n else O m) then (1 : Int) else 0) = (if P (O n) then 1 else 0) := by rw [if_pos rfl]
      have one' : pu_cnt (fun i => P (O i)) n - (if P (O m) then 1 else 0) = pu_cnt (fun i => P (if i = m then O n else O i)) n - (if P (if m = m then O n else O m) then 1 else 0) := one
      rw [e1, e2, key] at one'
      omega
theorem pu_cnt_or {P A B : Int → Bool} : ∀ {n : Nat}, (∀ i : Int, 0 ≤ i → i < n → (P i = true ↔ (A i = true ∨ B i = true)) ∧ ¬ (A i = true ∧ B i = true)) → pu_cnt P n = pu_cnt A n + pu_cnt B n := by
  intro n
  induction n with
  | zero => intro _; rfl
  | succ n ih =>
    intro h
    have h1 := ih (fun i i0 i1 => h i i0 (by omega))
    have h2 := h n (by omega) (by omega)
    unfold pu_cnt
    cases hp : P n <;> cases ha : A n <;> cases hb : B n <;> simp [hp, ha, hb] at h2 ⊢ <;> omega
theorem bf_nb_cg {t : Int} {L U R D L' U' R' D' : Int → Int} {a b a' b' : Int} (ha : L a = L' a' ∧ U a = U' a' ∧ R a = R' a' ∧ D a = D' a') (hb : L b = L' b' ∧ U b = U' b' ∧ R b = R' b' ∧ D b = D' b') : bf_nb t L U R D a b ↔ bf_nb t L' U' R' D' a' b' := by
  obtain ⟨a1, a2, a3, a4⟩ := ha
  obtain ⟨b1, b2, b3, b4⟩ := hb
  unfold bf_nb bf_o
  rw [a1, a2, a3, a4, b1, b2, b3, b4]
theorem bf_nl_cg {t : Int} {L U R D L' U' R' D' : Int → Int} {a b a' b' : Int} (ha : L a = L' a' ∧ U a = U' a' ∧ R a = R' a' ∧ D a = D' a') (hb : L b = L' b' ∧ U b = U' b' ∧ R b = R' b' ∧ D b = D' b') : bf_nl t L U R D a b ↔ bf_nl t L' U' R' D' a' b' := by
  obtain ⟨a1, a2, a3, a4⟩ := ha
  obtain ⟨b1, b2, b3, b4⟩ := hb
  unfold bf_nl bf_o
  rw [a1, a2, a3, a4, b1, b2, b3, b4]
theorem bf_if_u {c c' : Prop} {x r r' : Int} (h : bf_if c x r) (h' : bf_if c' x r') (e : c ↔ c') : r = r' := by
  rcases h with ⟨a, rfl⟩ | ⟨a, rfl⟩ <;> rcases h' with ⟨b, rfl⟩ | ⟨b, rfl⟩
  · rfl
  · exact absurd (e.mp a) b
  · exact absurd (e.mpr b) a
  · rfl
theorem bf_pts_u {W H np np' : Int} {NL NU NR ND KL KU KR KD KP NL' NU' NR' ND' KL' KU' KR' KD' KP' : Int → Int} {b b' r r' : Int} (h : bf_pts W H np NL NU NR ND KL KU KR KD KP b r) (h' : bf_pts W H np' NL' NU' NR' ND' KL' KU' KR' KD' KP' b' r') (e : KL b = KL' b' ∧ KU b = KU' b' ∧ KR b = KR' b' ∧ KD b = KD' b') (ep : KP b = KP' b') (en : np = np') (hn : ∀ p, 0 ≤ p → p < np → NL p = NL' p ∧ NU p = NU' p ∧ NR p = NR' p ∧ ND p = ND' p) : r = r' := by
  obtain ⟨e1, e2, e3, e4⟩ := e
  subst en
  have hin : bf_inp np NL NU NR ND KL KU KR KD b ↔ bf_inp np NL' NU' NR' ND' KL' KU' KR' KD' b' := by
    unfold bf_inp bf_enc
    rw [e1, e2, e3, e4]
    constructor
    · rintro ⟨p, p0, p1, p2⟩
      obtain ⟨q1, q2, q3, q4⟩ := hn p p0 p1
      rw [q1, q2, q3, q4] at p2
      exact ⟨p, p0, p1, p2⟩
    · rintro ⟨p, p0, p1, p2⟩
      obtain ⟨q1, q2, q3, q4⟩ := hn p p0 p1
      rw [← q1, ← q2, ← q3, ← q4] at p2
      exact ⟨p, p0, p1, p2⟩
  have hss : (bf_stamp W H KL KD b ∨ bf_sender W H KR KD b) ↔ (bf_stamp W H KL' KD' b' ∨ bf_sender W H KR' KD' b') := by
    unfold bf_stamp bf_sender
    rw [e1, e3, e4]
  rcases h with ⟨a1, a2, rfl⟩ | ⟨a1, r0, r1, r2, r3, r4, a2, a3, a4, a5, a6, rfl⟩ <;> rcases h' with ⟨b1, b2, rfl⟩ | ⟨b1, s0, s1, s2, s3, s4, b2, b3, b4, b5, b6, rfl⟩
  · rfl
  · rcases b1 with b1 | b1
    · exact absurd (hin.mpr b1) a1
    · exact absurd (hss.mp a2) b1
  · rcases a1 with a1 | a1
    · exact absurd (hin.mp a1) b1
    · exact absurd (hss.mpr b2) a1
  · have c1 := bf_if_u a3 b3 (by rw [e1, e3])
    have c2 := bf_if_u a4 b4 (by rw [e2, e4])
    have c3 := bf_if_u a5 b5 (by rw [e1, e2, e3, e4])
    have c4 := bf_if_u a6 b6 hin
    rw [ep] at a2
    omega
