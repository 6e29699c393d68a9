/-! pure rows: fields as lists, sets that hang together, counts -/
/-- g is the same along every edge -/
def pu_E (n : Int) (e : Int → Int → Prop) (g : Int → Int) : Prop := ∀ i j, 0 ≤ i → i < n → 0 ≤ j → j < n → e i j → g i = g j
/-- f gives everybody the least one of those that it hangs together with -/
def pu_lab (n : Int) (e : Int → Int → Prop) (f : Int → Int) : Prop :=
  (∀ i, 0 ≤ i → i < n → 0 ≤ f i ∧ f i ≤ i ∧ f (f i) = f i) ∧ pu_E n e f ∧ ∀ g, pu_E n e g → ∀ a b, 0 ≤ a → a < n → 0 ≤ b → b < n → f a = f b → g a = g b
theorem pu_uniq {n : Int} {e : Int → Int → Prop} {f f' : Int → Int} (h : pu_lab n e f) (h' : pu_lab n e f') : ∀ a, 0 ≤ a → a < n → f a = f' a := by
  intro a h0 h1
  obtain ⟨b1, b2, b3⟩ := h.1 a h0 h1
  obtain ⟨c1, c2, c3⟩ := h'.1 a h0 h1
  have e1 : f' (f a) = f' a := h.2.2 f' h'.2.1 (f a) a b1 (by omega) h0 h1 b3
  have e2 : f (f' a) = f a := h'.2.2 f h.2.1 (f' a) a c1 (by omega) h0 h1 c3
  obtain ⟨d1, d2, d3⟩ := h'.1 (f a) b1 (by omega)
  obtain ⟨g1, g2, g3⟩ := h.1 (f' a) c1 (by omega)
  omega
theorem pu_lab0 {n : Int} : pu_lab n (fun _ _ => False) (fun i => i) :=
  ⟨fun i h0 h1 => ⟨h0, Int.le_refl _, rfl⟩, fun i j _ _ _ _ h => h.elim, fun g _ a b _ _ _ _ h => congrArg g (show a = b from h)⟩
theorem pu_labC {n : Int} {e e' : Int → Int → Prop} {f f' : Int → Int} (h : pu_lab n e f) (he : ∀ i j, 0 ≤ i → i < n → 0 ≤ j → j < n → (e i j ↔ e' i j)) (hf : ∀ i, 0 ≤ i → i < n → f i = f' i) : pu_lab n e' f' := by
  refine ⟨fun i h0 h1 => ?_, fun i j a1 a2 a3 a4 hij => ?_, fun g hg a b a1 a2 a3 a4 hab => ?_⟩
  · obtain ⟨b1, b2, b3⟩ := h.1 i h0 h1
    rw [← hf i h0 h1, ← hf (f i) b1 (by omega)]
    exact ⟨b1, b2, b3⟩
  · rw [← hf i a1 a2, ← hf j a3 a4]
    exact h.2.1 i j a1 a2 a3 a4 ((he i j a1 a2 a3 a4).mpr hij)
  · rw [← hf a a1 a2, ← hf b a3 a4] at hab
    exact h.2.2 g (fun i j c1 c2 c3 c4 hij => hg i j c1 c2 c3 c4 ((he i j c1 c2 c3 c4).mp hij)) a b a1 a2 a3 a4 hab
def pu_join (f : Int → Int) (x y : Int) : Int → Int := fun m => if f m = max (f x) (f y) then min (f x) (f y) else f m
theorem pu_lab_join {n : Int} {e : Int → Int → Prop} {f : Int → Int} (h : pu_lab n e f) {x y : Int} (x0 : 0 ≤ x) (x1 : x < n) (y0 : 0 ≤ y) (y1 : y < n) : pu_lab n (fun a b => e a b ∨ (a = x ∧ b = y)) (pu_join f x y) := by
  obtain ⟨p1, p2, p3⟩ := h.1 x x0 x1
  obtain ⟨q1, q2, q3⟩ := h.1 y y0 y1
  have hx : pu_join f x y x = min (f x) (f y) := by unfold pu_join; split <;> omega
  have hy : pu_join f x y y = min (f x) (f y) := by unfold pu_join; split <;> omega
  have hk : f (min (f x) (f y)) = min (f x) (f y) := by
    rcases (show min (f x) (f y) = f x ∨ min (f x) (f y) = f y by omega) with h | h <;> rw [h] <;> assumption
  refine ⟨fun i h0 h1 => ?_, fun i j a1 a2 a3 a4 hij => ?_, fun g hg a b a1 a2 a3 a4 hab => ?_⟩
  · obtain ⟨b1, b2, b3⟩ := h.1 i h0 h1
    by_cases hi : f i = max (f x) (f y)
    · have e1 : pu_join f x y i = min (f x) (f y) := if_pos hi
      rw [e1]
      refine ⟨by omega, by omega, ?_⟩
      unfold pu_join
      rw [hk]
      split <;> omega
    · have e1 : pu_join f x y i = f i := if_neg hi
      rw [e1]
      refine ⟨b1, b2, ?_⟩
      unfold pu_join
      rw [b3, if_neg hi]
  · rcases hij with hij | ⟨rfl, rfl⟩
    · have := h.2.1 i j a1 a2 a3 a4 hij
      unfold pu_join
      rw [this]
    · rw [hx, hy]
  · have g1 : pu_E n e g := fun i j c1 c2 c3 c4 hij => hg i j c1 c2 c3 c4 (Or.inl hij)
    have g2 : g x = g y := hg x y x0 x1 y0 y1 (Or.inr ⟨rfl, rfl⟩)
    have gx : ∀ c, 0 ≤ c → c < n → f c = f x → g c = g x := fun c c0 c1 hc => h.2.2 g g1 c x c0 c1 x0 x1 hc
    have gy : ∀ c, 0 ≤ c → c < n → f c = f y → g c = g y := fun c c0 c1 hc => h.2.2 g g1 c y c0 c1 y0 y1 hc
    have gm : ∀ c, 0 ≤ c → c < n → (f c = max (f x) (f y) ∨ f c = min (f x) (f y)) → g c = g x := fun c c0 c1 hc => by
      rcases (show f c = f x ∨ f c = f y by omega) with hc | hc
      · exact gx c c0 c1 hc
      · rw [gy c c0 c1 hc, g2]
    by_cases ha : f a = max (f x) (f y)
    · by_cases hb : f b = max (f x) (f y)
      · rw [gm a a1 a2 (Or.inl ha), gm b a3 a4 (Or.inl hb)]
      · have e1 : pu_join f x y a = min (f x) (f y) := if_pos ha
        have e2 : pu_join f x y b = f b := if_neg hb
        rw [e1, e2] at hab
        rw [gm a a1 a2 (Or.inl ha), gm b a3 a4 (Or.inr hab.symm)]
    · have e1 : pu_join f x y a = f a := if_neg ha
      by_cases hb : f b = max (f x) (f y)
      · have e2 : pu_join f x y b = min (f x) (f y) := if_pos hb
        rw [e1, e2] at hab
        rw [gm a a1 a2 (Or.inr hab), gm b a3 a4 (Or.inl hb)]
      · have e2 : pu_join f x y b = f b := if_neg hb
        rw [e1, e2] at hab
        exact h.2.2 g g1 a b a1 a2 a3 a4 hab
/-- how many below n are so -/
def pu_cnt (P : Int → Bool) : Nat → Int
  | 0 => 0
  | n + 1 => pu_cnt P n + (if P n then 1 else 0)
theorem pu_cnt_le (P : Int → Bool) : ∀ n : Nat, 0 ≤ pu_cnt P n ∧ pu_cnt P n ≤ n := by
  intro n
  induction n with
  | zero => exact ⟨Int.le_refl _, Int.le_refl _⟩
  | succ n ih =>
    unfold pu_cnt
    split <;> omega
theorem pu_cnt_congr {P P' : Int → Bool} : ∀ {n : Nat}, (∀ i : Int, 0 ≤ i → i < n → P i = P' i) → pu_cnt P n = pu_cnt P' n := by
  intro n
  induction n with
  | zero => intro _; rfl
  | succ n ih =>
    intro h
    unfold pu_cnt
    rw [ih (fun i h0 h1 => h i h0 (by omega)), h n (by omega) (by omega)]
theorem pu_cnt_drop {P P' : Int → Bool} {z : Int} (h0 : 0 ≤ z) (hz : P z = true) (hz' : P' z = false) : ∀ {n : Nat}, z < n → (∀ i : Int, 0 ≤ i → i < n → i ≠ z → P i = P' i) → pu_cnt P' n = pu_cnt P n - 1 := by
  intro n
  induction n with
  | zero => intro h; omega
  | succ n ih =>
    intro h1 h
    unfold pu_cnt
    by_cases hn : z = n
    · subst hn
      rw [hz, hz', pu_cnt_congr (P := P) (P' := P') (fun i a1 a2 => h i a1 (by omega) (by omega))]
      simp
    · rw [ih (by omega) (fun i a1 a2 a3 => h i a1 (by omega) a3), h n (by omega) (by omega) (fun e => hn e.symm)]
      omega
theorem pu_cnt_mono {P : Int → Bool} {a b : Nat} (h : a ≤ b) : pu_cnt P a ≤ pu_cnt P b := by
  induction b with
  | zero =>
    rw [show a = 0 by omega]
    exact Int.le_refl _
  | succ b ih =>
    by_cases hb : a = b + 1
    · rw [hb]; exact Int.le_refl _
    · have := ih (by omega)
      have h2 : pu_cnt P b ≤ pu_cnt P (b + 1) := by
        show _ ≤ pu_cnt P b + _
        split <;> omega
      omega
theorem pu_join_cnt {n : Int} {e : Int → Int → Prop} {f : Int → Int} (h : pu_lab n e f) {x y : Int} (x0 : 0 ≤ x) (x1 : x < n) (y0 : 0 ≤ y) (y1 : y < n) (hne : f x ≠ f y) : pu_cnt (fun m => decide (pu_join f x y m = m)) n.toNat = pu_cnt (fun m => decide (f m = m)) n.toNat - 1 := by
  obtain ⟨p1, p2, p3⟩ := h.1 x x0 x1
  obtain ⟨q1, q2, q3⟩ := h.1 y y0 y1
  have hz : f (max (f x) (f y)) = max (f x) (f y) := by
    rcases (show max (f x) (f y) = f x ∨ max (f x) (f y) = f y by omega) with h | h <;> rw [h] <;> assumption
  have hk : f (min (f x) (f y)) = min (f x) (f y) := by
    rcases (show min (f x) (f y) = f x ∨ min (f x) (f y) = f y by omega) with h | h <;> rw [h] <;> assumption
  refine pu_cnt_drop (z := max (f x) (f y)) (by omega) (by simpa using hz) ?_ (by omega) (fun m m0 m1 hm => ?_)
  · have e1 : pu_join f x y (max (f x) (f y)) = min (f x) (f y) := if_pos hz
    rw [e1]
    simp only [decide_eq_false_iff_not]
    omega
  · by_cases hf : f m = max (f x) (f y)
    · have e1 : pu_join f x y m = min (f x) (f y) := if_pos hf
      rw [e1]
      have a1 : ¬ f m = m := by omega
      have a2 : ¬ min (f x) (f y) = m := fun q => by rw [← q] at hf; omega
      simp only [a1, a2, decide_false]
    · have e1 : pu_join f x y m = f m := if_neg hf
      rw [e1]
/-- joining the next pair -/
theorem pu_lab_next {n : Int} {nb : Int → Int → Prop} {f f' : Int → Int} {i j : Int} (h : pu_lab n (fun a b => (a < i ∨ (a = i ∧ b < j)) ∧ a < b ∧ nb a b) f) (i0 : 0 ≤ i) (ij : i < j) (j1 : j < n) (hnb : nb i j) (hf : ∀ t, 0 ≤ t → t < n → f' t = pu_join f i j t) : pu_lab n (fun a b => (a < i ∨ (a = i ∧ b < j + 1)) ∧ a < b ∧ nb a b) f' := by
  refine pu_labC (pu_lab_join h i0 (by omega) (by omega) j1) (fun a b a0 a1 b0 b1 => ?_) (fun t t0 t1 => (hf t t0 t1).symm)
  constructor
  · rintro (⟨h1, h2, h3⟩ | ⟨rfl, rfl⟩)
    · exact ⟨by omega, h2, h3⟩
    · exact ⟨by omega, ij, hnb⟩
  · rintro ⟨h1, h2, h3⟩
    by_cases hj : a = i ∧ b = j
    · exact Or.inr hj
    · exact Or.inl ⟨by omega, h2, h3⟩
theorem pu_lab_same {n : Int} {nb : Int → Int → Prop} {f : Int → Int} {i j : Int} (h : pu_lab n (fun a b => (a < i ∨ (a = i ∧ b < j)) ∧ a < b ∧ nb a b) f) (i0 : 0 ≤ i) (ij : i < j) (j1 : j < n) (hs : f i = f j) : pu_lab n (fun a b => (a < i ∨ (a = i ∧ b < j + 1)) ∧ a < b ∧ nb a b) f ∨ ¬ nb i j := by
  by_cases hnb : nb i j
  · refine Or.inl (pu_lab_next h i0 ij j1 hnb (fun t t0 t1 => ?_))
    unfold pu_join
    rw [hs]
    split <;> omega
  · exact Or.inr hnb
theorem pu_lab_not {n : Int} {nb : Int → Int → Prop} {f : Int → Int} {i j : Int} (h : pu_lab n (fun a b => (a < i ∨ (a = i ∧ b < j)) ∧ a < b ∧ nb a b) f) (hnb : ¬ nb i j) : pu_lab n (fun a b => (a < i ∨ (a = i ∧ b < j + 1)) ∧ a < b ∧ nb a b) f := by
  refine pu_labC h (fun a b a0 a1 b0 b1 => ?_) (fun t _ _ => rfl)
  constructor
  · rintro ⟨h1, h2, h3⟩
    exact ⟨by omega, h2, h3⟩
  · rintro ⟨h1, h2, h3⟩
    by_cases hj : a = i ∧ b = j
    · exact absurd (hj.1 ▸ hj.2 ▸ h3) hnb
    · exact ⟨by omega, h2, h3⟩
theorem pu_lab_row {n : Int} {nb : Int → Int → Prop} {f : Int → Int} {i j : Int} (h : pu_lab n (fun a b => (a < i ∨ (a = i ∧ b < j)) ∧ a < b ∧ nb a b) f) (hj : n ≤ j) : pu_lab n (fun a b => (a < i + 1 ∨ (a = i + 1 ∧ b < i + 1 + 1)) ∧ a < b ∧ nb a b) f := by
  refine pu_labC h (fun a b a0 a1 b0 b1 => ?_) (fun t _ _ => rfl)
  constructor
  · rintro ⟨h1, h2, h3⟩
    exact ⟨by omega, h2, h3⟩
  · rintro ⟨h1, h2, h3⟩
    exact ⟨by omega, h2, h3⟩
theorem pu_lab_begin {n : Int} {nb : Int → Int → Prop} {f : Int → Int} (hf : ∀ j, 0 ≤ j → j < n → f j = j) : pu_lab n (fun a b => (a < 0 ∨ (a = 0 ∧ b < 0 + 1)) ∧ a < b ∧ nb a b) f := by
  refine pu_labC pu_lab0 (fun a b a0 a1 b0 b1 => ?_) (fun t t0 t1 => (hf t t0 t1).symm)
  constructor
  · exact fun h => h.elim
  · rintro ⟨h1, h2, h3⟩
    omega
theorem pu_lab_all {n : Int} {nb : Int → Int → Prop} {f : Int → Int} {i j : Int} (h : pu_lab n (fun a b => (a < i ∨ (a = i ∧ b < j)) ∧ a < b ∧ nb a b) f) (hi : n ≤ i) : pu_lab n (fun a b => a < b ∧ nb a b) f := by
  refine pu_labC h (fun a b a0 a1 b0 b1 => ?_) (fun t _ _ => rfl)
  constructor
  · rintro ⟨h1, h2⟩
    exact h2
  · intro h2
    exact ⟨by omega, h2⟩
theorem pu_cnt_id {f : Int → Int} : ∀ {n : Nat}, (∀ j : Int, 0 ≤ j → j < n → f j = j) → pu_cnt (fun m => decide (f m = m)) n = n := by
  intro n
  induction n with
  | zero => intro _; rfl
  | succ n ih =>
    intro h
    unfold pu_cnt
    rw [ih (fun j j0 j1 => h j j0 (by omega)), if_pos (by simpa using h n (by omega) (by omega))]
    omega
