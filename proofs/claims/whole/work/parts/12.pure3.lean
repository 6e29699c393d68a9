/-! pure rows: things put in order -/
def pu_ord (n : Int) (O : Int → Int) (cb : Int → Int → Prop) : Prop :=
  (∀ p, 0 ≤ p → p < n → 0 ≤ O p ∧ O p < n) ∧ (∀ p q, 0 ≤ p → p < q → q < n → cb (O p) (O q)) ∧ ∀ x, 0 ≤ x → x < n → ∃ p, 0 ≤ p ∧ p < n ∧ O p = x
theorem pu_ord0 {O : Int → Int} {cb : Int → Int → Prop} : pu_ord 0 O cb := ⟨fun p _ _ => by omega, fun p q _ _ _ => by omega, fun x _ _ => by omega⟩
theorem pu_ins {g fr : Int} {O0 O : Int → Int} {cb : Int → Int → Prop} (h : pu_ord g O0 cb) (g0 : 0 ≤ g) (f0 : 0 ≤ fr) (f1 : fr ≤ g) (tr : ∀ a b c, cb a b → cb b c → cb a c) (to : ∀ a b, a ≠ b → ¬ cb a b → cb b a)
    (h1 : ∀ p, 0 ≤ p → p < fr → O p = O0 p) (h2 : ∀ p, fr ≤ p → p < g → O (p + 1) = O0 p) (h3 : ∀ p, fr ≤ p → p < g → cb g (O0 p)) (h4 : fr = 0 ∨ ¬ cb g (O0 (fr - 1))) : pu_ord (g + 1) (mv_s O fr g) cb := by
  obtain ⟨ha, hb, hc⟩ := h
  have hlow : ∀ p, 0 ≤ p → p < fr → cb (O0 p) g := fun p p0 p1 => by
    have hl : cb (O0 (fr - 1)) g := by
      rcases h4 with h4 | h4
      · omega
      · exact to g (O0 (fr - 1)) (by have := ha (fr - 1) (by omega) (by omega); omega) h4
    by_cases hp : p = fr - 1
    · rw [hp]; exact hl
    · exact tr _ _ _ (hb p (fr - 1) p0 (by omega) (by omega)) hl
  have e1 : ∀ p, 0 ≤ p → p < fr → mv_s O fr g p = O0 p := fun p p0 p1 => by rw [mv_sn (by omega)]; exact h1 p p0 p1
  have e2 : ∀ p, fr < p → p < g + 1 → mv_s O fr g p = O0 (p - 1) := fun p p0 p1 => by
    rw [mv_sn (by omega)]
    have := h2 (p - 1) (by omega) (by omega)
    rw [show p - 1 + 1 = p by omega] at this
    exact this
  have e3 : mv_s O fr g fr = g := mv_ss
  refine ⟨fun p p0 p1 => ?_, fun p q p0 p1 q1 => ?_, fun x x0 x1 => ?_⟩
  · rcases Int.lt_trichotomy p fr with q | q | q
    · rw [e1 p p0 q]; have := ha p p0 (by omega); omega
    · rw [q, e3]; omega
    · rw [e2 p q p1]; have := ha (p - 1) (by omega) (by omega); omega
  · rcases Int.lt_trichotomy q fr with hq | hq | hq
    · rw [e1 p p0 (by omega), e1 q (by omega) hq]; exact hb p q p0 p1 (by omega)
    · rw [e1 p p0 (by omega), hq, e3]; exact hlow p p0 (by omega)
    · rw [e2 q hq q1]
      rcases Int.lt_trichotomy p fr with hp | hp | hp
      · rw [e1 p p0 hp]; exact hb p (q - 1) p0 (by omega) (by omega)
      · rw [hp, e3]; exact h3 (q - 1) (by omega) (by omega)
      · rw [e2 p hp (by omega)]; exact hb (p - 1) (q - 1) (by omega) (by omega) (by omega)
  · by_cases hx : x = g
    · exact ⟨fr, f0, by omega, by rw [e3, hx]⟩
    · obtain ⟨p, p0, p1, p2⟩ := hc x x0 (by omega)
      by_cases hp : p < fr
      · exact ⟨p, p0, by omega, by rw [e1 p p0 hp, p2]⟩
      · exact ⟨p + 1, by omega, by omega, by rw [e2 (p + 1) (by omega) (by omega), show p + 1 - 1 = p by omega, p2]⟩
theorem pu_inj {n : Int} {A : Int → Int} {cb : Int → Int → Prop} (irr : ∀ a, ¬ cb a a) (hA : pu_ord n A cb) : ∀ p q, 0 ≤ p → p < n → 0 ≤ q → q < n → A p = A q → p = q := by
  intro p q p0 p1 q0 q1 e
  rcases Int.lt_trichotomy p q with w | w | w
  · exact absurd (e ▸ hA.2.1 p q p0 w q1) (irr _)
  · exact w
  · exact absurd (e ▸ hA.2.1 q p q0 w p1) (irr _)
/-- two orders of the same things are the same -/
theorem pu_ord_uniq {n : Int} {O O' : Int → Int} {cb : Int → Int → Prop} (irr : ∀ a, ¬ cb a a) (tr : ∀ a b c, cb a b → cb b c → cb a c) (h : pu_ord n O cb) (h' : pu_ord n O' cb) : ∀ p, 0 ≤ p → p < n → O p = O' p := by
  have main : ∀ m : Nat, ∀ p : Int, 0 ≤ p → p < m → p < n → O p = O' p := by
    intro m
    induction m with
    | zero => intro p h0 h1; omega
    | succ m ih =>
      intro p p0 p1 pn
      have low : ∀ q, 0 ≤ q → q < p → O q = O' q := fun q q0 q1 => ih q q0 (by omega) (by omega)
      obtain ⟨a, a0, a1, a2⟩ := h'.2.2 (O p) (h.1 p p0 pn).1 (h.1 p p0 pn).2
      obtain ⟨b, b0, b1, b2⟩ := h.2.2 (O' p) (h'.1 p p0 pn).1 (h'.1 p p0 pn).2
      rcases Int.lt_trichotomy a p with w | w | w
      · have := pu_inj irr h a p a0 a1 p0 pn (by rw [low a a0 w, a2])
        omega
      · rw [← a2, w]
      · rcases Int.lt_trichotomy b p with v | v | v
        · have := pu_inj irr h' b p b0 b1 p0 pn (by rw [← low b b0 v, b2])
          omega
        · rw [← b2, v]
        · have c1 := h'.2.1 p a p0 w a1
          have c2 := h.2.1 p b p0 v b1
          rw [a2] at c1
          rw [b2] at c2
          exact absurd (tr _ _ _ c1 c2) (irr _)
  intro p p0 p1
  exact main (p.toNat + 1) p p0 (by omega) p1
