/-! pure rows: how groups are gathered -/
theorem pu_cnt_s {P : Int → Bool} {i : Int} (h : 0 ≤ i) : pu_cnt P (i + 1).toNat = pu_cnt P i.toNat + (if P i then 1 else 0) := by
  rw [show (i + 1).toNat = i.toNat + 1 by omega]
  show pu_cnt P i.toNat + (if P ((i.toNat : Nat) : Int) then 1 else 0) = _
  rw [show ((i.toNat : Nat) : Int) = i by omega]
theorem pu_cnt_0 {P : Int → Bool} : ∀ {n : Nat}, (∀ i : Int, 0 ≤ i → i < n → P i = false) → pu_cnt P n = 0 := by
  intro n
  induction n with
  | zero => intro _; rfl
  | succ n ih =>
    intro h
    unfold pu_cnt
    rw [ih (fun i h0 h1 => h i h0 (by omega)), h n (by omega) (by omega)]
    rfl
def pu_min (i : Int) (f : Int → Int) (r : Int) (F : Int → Int) (v : Int) : Prop := (∀ j, 0 ≤ j → j < i → f j = r → v ≤ F j) ∧ ∃ j, 0 ≤ j ∧ j < i ∧ f j = r ∧ v = F j
def pu_max (i : Int) (f : Int → Int) (r : Int) (F : Int → Int) (v : Int) : Prop := (∀ j, 0 ≤ j → j < i → f j = r → F j ≤ v) ∧ ∃ j, 0 ≤ j ∧ j < i ∧ f j = r ∧ v = F j
theorem pu_min_uniq {i : Int} {f : Int → Int} {r : Int} {F : Int → Int} {v v' : Int} (h : pu_min i f r F v) (h' : pu_min i f r F v') : v = v' := by
  obtain ⟨a, j, j0, j1, j2, j3⟩ := h
  obtain ⟨b, l, l0, l1, l2, l3⟩ := h'
  have := a l l0 l1 l2
  have := b j j0 j1 j2
  omega
theorem pu_max_uniq {i : Int} {f : Int → Int} {r : Int} {F : Int → Int} {v v' : Int} (h : pu_max i f r F v) (h' : pu_max i f r F v') : v = v' := by
  obtain ⟨a, j, j0, j1, j2, j3⟩ := h
  obtain ⟨b, l, l0, l1, l2, l3⟩ := h'
  have := a l l0 l1 l2
  have := b j j0 j1 j2
  omega
theorem pu_min_skip {i : Int} {f : Int → Int} {r : Int} {F : Int → Int} {v : Int} (h : pu_min i f r F v) (hi : f i ≠ r) : pu_min (i + 1) f r F v := by
  obtain ⟨a, j, j0, j1, j2, j3⟩ := h
  refine ⟨fun l l0 l1 l2 => ?_, j, j0, by omega, j2, j3⟩
  by_cases hl : l = i
  · subst hl; exact absurd l2 hi
  · exact a l l0 (by omega) l2
theorem pu_max_skip {i : Int} {f : Int → Int} {r : Int} {F : Int → Int} {v : Int} (h : pu_max i f r F v) (hi : f i ≠ r) : pu_max (i + 1) f r F v := by
  obtain ⟨a, j, j0, j1, j2, j3⟩ := h
  refine ⟨fun l l0 l1 l2 => ?_, j, j0, by omega, j2, j3⟩
  by_cases hl : l = i
  · subst hl; exact absurd l2 hi
  · exact a l l0 (by omega) l2
theorem pu_min_one {i : Int} {f : Int → Int} {F : Int → Int} (h0 : 0 ≤ i) (hf : ∀ j, 0 ≤ j → j < i → f j ≠ i) (hi : f i = i) : pu_min (i + 1) f i F (F i) := by
  refine ⟨fun l l0 l1 l2 => ?_, i, h0, by omega, hi, rfl⟩
  by_cases hl : l = i
  · subst hl; exact Int.le_refl _
  · exact absurd l2 (hf l l0 (by omega))
theorem pu_max_one {i : Int} {f : Int → Int} {F : Int → Int} (h0 : 0 ≤ i) (hf : ∀ j, 0 ≤ j → j < i → f j ≠ i) (hi : f i = i) : pu_max (i + 1) f i F (F i) := by
  refine ⟨fun l l0 l1 l2 => ?_, i, h0, by omega, hi, rfl⟩
  by_cases hl : l = i
  · subst hl; exact Int.le_refl _
  · exact absurd l2 (hf l l0 (by omega))
theorem pu_min_more {i : Int} {f : Int → Int} {r : Int} {F : Int → Int} {v : Int} (h0 : 0 ≤ i) (h : pu_min i f r F v) (hi : f i = r) : pu_min (i + 1) f r F (min v (F i)) := by
  obtain ⟨a, j, j0, j1, j2, j3⟩ := h
  refine ⟨fun l l0 l1 l2 => ?_, ?_⟩
  · by_cases hl : l = i
    · subst hl; omega
    · have := a l l0 (by omega) l2
      omega
  · by_cases hv : v ≤ F i
    · exact ⟨j, j0, by omega, j2, by omega⟩
    · exact ⟨i, h0, by omega, hi, by omega⟩
theorem pu_max_more {i : Int} {f : Int → Int} {r : Int} {F : Int → Int} {v : Int} (h0 : 0 ≤ i) (h : pu_max i f r F v) (hi : f i = r) : pu_max (i + 1) f r F (max v (F i)) := by
  obtain ⟨a, j, j0, j1, j2, j3⟩ := h
  refine ⟨fun l l0 l1 l2 => ?_, ?_⟩
  · by_cases hl : l = i
    · subst hl; omega
    · have := a l l0 (by omega) l2
      omega
  · by_cases hv : F i ≤ v
    · exact ⟨j, j0, by omega, j2, by omega⟩
    · exact ⟨i, h0, by omega, hi, by omega⟩
/-- the groups of the first i things: f is their labels, F* their ends -/
def pu_grp (i : Int) (f FL FU FR FD : Int → Int) (cnt : Int) (L U R D P LP GO : Int → Int) : Prop :=
  (0 ≤ cnt ∧ cnt ≤ i) ∧
  (∀ j, 0 ≤ j → j < i → 0 ≤ GO j ∧ GO j < cnt ∧ LP (GO j) = f j) ∧
  (∀ g, 0 ≤ g → g < cnt → 0 ≤ LP g ∧ LP g < i ∧ f (LP g) = LP g ∧ GO (LP g) = g) ∧
  (∀ g h, 0 ≤ g → g < h → h < cnt → LP g < LP h) ∧
  cnt = pu_cnt (fun m => decide (f m = m)) i.toNat ∧
  (∀ g, 0 ≤ g → g < cnt → P g = pu_cnt (fun j => decide (f j = LP g)) i.toNat) ∧
  (∀ g, 0 ≤ g → g < cnt → pu_min i f (LP g) FL (L g) ∧ pu_min i f (LP g) FU (U g) ∧ pu_max i f (LP g) FR (R g) ∧ pu_max i f (LP g) FD (D g))
theorem pu_grp0 {f FL FU FR FD L U R D P LP GO : Int → Int} : pu_grp 0 f FL FU FR FD 0 L U R D P LP GO :=
  ⟨⟨Int.le_refl _, Int.le_refl _⟩, fun j _ _ => by omega, fun j _ _ => by omega, fun j _ _ _ _ => by omega, rfl, fun j _ _ => by omega, fun j _ _ => by omega⟩
theorem pu_grp_begin {i : Int} {f FL FU FR FD : Int → Int} {cnt : Int} {L U R D P LP GO : Int → Int} (h : pu_grp i f FL FU FR FD cnt L U R D P LP GO) (h0 : 0 ≤ i) (hf : ∀ j, 0 ≤ j → j < i + 1 → 0 ≤ f j ∧ f j ≤ j ∧ f (f j) = f j) (hi : f i = i) :
    pu_grp (i + 1) f FL FU FR FD (cnt + 1) (mv_s L cnt (FL i)) (mv_s U cnt (FU i)) (mv_s R cnt (FR i)) (mv_s D cnt (FD i)) (mv_s P cnt 1) (mv_s LP cnt i) (mv_s GO i cnt) := by
  obtain ⟨⟨c0, c1⟩, hG, hL, hI, hc, hP, hM⟩ := h
  have hne : ∀ j, 0 ≤ j → j < i → f j ≠ i := fun j j0 j1 => by have := hf j j0 (by omega); omega
  refine ⟨⟨by omega, by omega⟩, fun j j0 j1 => ?_, fun g g0 g1 => ?_, fun g g' g0 g1 g2 => ?_, ?_, fun g g0 g1 => ?_, fun g g0 g1 => ?_⟩
  · by_cases hj : j = i
    · subst hj
      rw [mv_ss, mv_ss]
      exact ⟨c0, by omega, hi.symm⟩
    · rw [mv_sn hj]
      obtain ⟨a, b, c⟩ := hG j j0 (by omega)
      rw [mv_sn (by omega)]
      exact ⟨a, by omega, c⟩
  · by_cases hg : g = cnt
    · subst hg
      rw [mv_ss, mv_ss]
      exact ⟨h0, by omega, hi, rfl⟩
    · rw [mv_sn hg]
      obtain ⟨a, b, c, d⟩ := hL g g0 (by omega)
      rw [mv_sn (by omega)]
      exact ⟨a, by omega, c, d⟩
  · rw [mv_sn (show g ≠ cnt by omega)]
    by_cases hg : g' = cnt
    · subst hg
      rw [mv_ss]
      exact (hL g g0 g1).2.1
    · rw [mv_sn hg]
      exact hI g g' g0 g1 (by omega)
  · rw [pu_cnt_s h0, ← hc, if_pos (by simpa using hi)]
  · rw [pu_cnt_s h0]
    by_cases hg : g = cnt
    · subst hg
      rw [mv_ss, mv_ss, if_pos (by simpa using hi), pu_cnt_0 (fun j j0 j1 => by simpa using hne j j0 (by omega))]
      rfl
    · rw [mv_sn hg, mv_sn hg, hP g g0 (by omega), if_neg]
      · omega
      · have := hL g g0 (by omega)
        simp only [decide_eq_true_eq]
        omega
  · by_cases hg : g = cnt
    · subst hg
      rw [mv_ss, mv_ss, mv_ss, mv_ss, mv_ss]
      exact ⟨pu_min_one h0 hne hi, pu_min_one h0 hne hi, pu_max_one h0 hne hi, pu_max_one h0 hne hi⟩
    · rw [mv_sn hg, mv_sn hg, mv_sn hg, mv_sn hg, mv_sn hg]
      obtain ⟨a, b, c, d⟩ := hM g g0 (by omega)
      have hq := hL g g0 (by omega)
      have hq2 : f i ≠ LP g := by omega
      exact ⟨pu_min_skip a hq2, pu_min_skip b hq2, pu_max_skip c hq2, pu_max_skip d hq2⟩
theorem pu_grp_extend {i : Int} {f FL FU FR FD : Int → Int} {cnt : Int} {L U R D P LP GO : Int → Int} (h : pu_grp i f FL FU FR FD cnt L U R D P LP GO) (h0 : 0 ≤ i) (hf : ∀ j, 0 ≤ j → j < i + 1 → 0 ≤ f j ∧ f j ≤ j ∧ f (f j) = f j) (hi : f i ≠ i) {g : Int} (hg : GO (f i) = g) :
    pu_grp (i + 1) f FL FU FR FD cnt (mv_s L g (min (L g) (FL i))) (mv_s U g (min (U g) (FU i))) (mv_s R g (max (R g) (FR i))) (mv_s D g (max (D g) (FD i))) (mv_s P g (P g + 1)) LP (mv_s GO i g) := by
  obtain ⟨⟨c0, c1⟩, hG, hL, hI, hc, hP, hM⟩ := h
  obtain ⟨f1, f2, f3⟩ := hf i h0 (by omega)
  obtain ⟨k1, k2, k3⟩ := hG (f i) f1 (by omega)
  rw [hg] at k1 k2 k3
  rw [f3] at k3
  have hinj : ∀ x, 0 ≤ x → x < cnt → LP x = LP g → x = g := fun x x0 x1 hx => by
    rcases Int.lt_trichotomy x g with q | q | q
    · have := hI x g x0 q k2; omega
    · exact q
    · have := hI g x k1 q x1; omega
  refine ⟨⟨c0, by omega⟩, fun j j0 j1 => ?_, fun x x0 x1 => ?_, hI, ?_, fun x x0 x1 => ?_, fun x x0 x1 => ?_⟩
  · by_cases hj : j = i
    · subst hj
      rw [mv_ss]
      exact ⟨k1, k2, k3⟩
    · rw [mv_sn hj]
      exact hG j j0 (by omega)
  · obtain ⟨a, b, c, d⟩ := hL x x0 x1
    rw [mv_sn (by omega)]
    exact ⟨a, by omega, c, d⟩
  · rw [pu_cnt_s h0, ← hc, if_neg (by simpa using hi)]
    omega
  · rw [pu_cnt_s h0]
    by_cases hx : x = g
    · subst hx
      rw [mv_ss, if_pos (by simpa using k3.symm), hP x x0 x1]
    · rw [mv_sn hx, if_neg, hP x x0 x1]
      · omega
      · simp only [decide_eq_true_eq]
        intro q
        exact hx (hinj x x0 x1 (by omega))
  · obtain ⟨a, b, c, d⟩ := hM x x0 x1
    by_cases hx : x = g
    · subst hx
      rw [mv_ss, mv_ss, mv_ss, mv_ss]
      exact ⟨pu_min_more h0 a k3.symm, pu_min_more h0 b k3.symm, pu_max_more h0 c k3.symm, pu_max_more h0 d k3.symm⟩
    · rw [mv_sn hx, mv_sn hx, mv_sn hx, mv_sn hx]
      have hq2 : f i ≠ LP x := fun q => hx (hinj x x0 x1 (by omega))
      exact ⟨pu_min_skip a hq2, pu_min_skip b hq2, pu_max_skip c hq2, pu_max_skip d hq2⟩
