/-! pure rows: labels that become less, round by round -/
theorem pu_ex_in {n : Int} {nb : Int → Int → Prop} : ∀ (d : Nat) (i j : Int) (f : Int → Int), n - j ≤ d → 0 ≤ i → i < j → j ≤ n → pu_lab n (fun a b => (a < i ∨ (a = i ∧ b < j)) ∧ a < b ∧ nb a b) f → ∃ f', pu_lab n (fun a b => (a < i ∨ (a = i ∧ b < n)) ∧ a < b ∧ nb a b) f' := by
  intro d
  induction d with
  | zero =>
    intro i j f h1 h2 h3 h4 h
    rw [show j = n by omega] at h
    exact ⟨f, h⟩
  | succ d ih =>
    intro i j f h1 h2 h3 h4 h
    by_cases hj : j = n
    · rw [hj] at h; exact ⟨f, h⟩
    · by_cases hnb : nb i j
      · exact ih i (j + 1) (pu_join f i j) (by omega) h2 (by omega) (by omega) (pu_lab_next h h2 h3 (by omega) hnb (fun t _ _ => rfl))
      · exact ih i (j + 1) f (by omega) h2 (by omega) (by omega) (pu_lab_not h hnb)
theorem pu_ex {n : Int} (nb : Int → Int → Prop) (n0 : 0 ≤ n) : ∃ F, pu_lab n (fun a b => a < b ∧ nb a b) F := by
  have outer : ∀ (d : Nat) (i : Int) (f : Int → Int), n - i ≤ d → 0 ≤ i → i ≤ n → pu_lab n (fun a b => (a < i ∨ (a = i ∧ b < i + 1)) ∧ a < b ∧ nb a b) f → ∃ F, pu_lab n (fun a b => a < b ∧ nb a b) F := by
    intro d
    induction d with
    | zero =>
      intro i f h1 h2 h3 h
      exact ⟨f, pu_lab_all h (by omega)⟩
    | succ d ih =>
      intro i f h1 h2 h3 h
      by_cases hi : i = n
      · exact ⟨f, pu_lab_all h (by omega)⟩
      · obtain ⟨f', h'⟩ := pu_ex_in (n - (i + 1)).toNat i (i + 1) f (by omega) h2 (by omega) (by omega) h
        exact ih (i + 1) f' (by omega) (by omega) (by omega) (pu_lab_row h' (Int.le_refl n))
  exact outer n.toNat 0 (fun i => i) (by omega) (by omega) n0 (pu_lab_begin (fun j _ _ => rfl))
theorem pu_sym {n : Int} {nb : Int → Int → Prop} {F : Int → Int} (h : pu_lab n (fun a b => a < b ∧ nb a b) F) (hs : ∀ a b, nb a b → nb b a) {a b : Int} (a0 : 0 ≤ a) (a1 : a < n) (b0 : 0 ≤ b) (b1 : b < n) (hnb : nb a b) : F a = F b := by
  rcases Int.lt_trichotomy a b with q | q | q
  · exact h.2.1 a b a0 a1 b0 b1 ⟨q, hnb⟩
  · rw [q]
  · exact (h.2.1 b a b0 b1 a0 a1 ⟨q, hs a b hnb⟩).symm
def pu_rx (n : Int) (F f : Int → Int) : Prop := ∀ a, 0 ≤ a → a < n → F a ≤ f a ∧ f a ≤ a
def pu_rnd (n : Int) (nb : Int → Int → Prop) (F : Int → Int) (S0 : Int → Prop) (a b : Int) (f : Int → Int) : Prop :=
  pu_rx n F f ∧ (∀ x, 0 ≤ x → x < n → S0 x → f x = F x) ∧ ∀ x y, 0 ≤ x → x < n → 0 ≤ y → y < n → (x < a ∨ (x = a ∧ y < b)) → nb x y → S0 y → f x = F x
theorem pu_rnd0 {n : Int} {nb : Int → Int → Prop} {F f : Int → Int} (h : pu_rx n F f) : pu_rnd n nb F (fun x => f x = F x) 0 0 f :=
  ⟨h, fun x _ _ e => e, fun x y _ _ _ _ q => by omega⟩
theorem pu_rnd_row {n : Int} {nb : Int → Int → Prop} {F f : Int → Int} {S0 : Int → Prop} {a b : Int} (h : pu_rnd n nb F S0 a b f) (hb : n ≤ b) : pu_rnd n nb F S0 (a + 1) 0 f :=
  ⟨h.1, h.2.1, fun x y x0 x1 y0 y1 q => h.2.2 x y x0 x1 y0 y1 (by omega)⟩
theorem pu_rnd_s {n : Int} {nb : Int → Int → Prop} {F f : Int → Int} {S0 : Int → Prop} {a b v : Int} (hF : pu_lab n (fun a b => a < b ∧ nb a b) F) (hs : ∀ a b, nb a b → nb b a) (h : pu_rnd n nb F S0 a b f) (a0 : 0 ≤ a) (a1 : a < n) (b0 : 0 ≤ b) (b1 : b < n)
    (hv : (v = f b ∧ f b < f a ∧ nb a b) ∨ (v = f a ∧ ¬ (f b < f a ∧ nb a b))) : pu_rnd n nb F S0 a (b + 1) (mv_s f a v) := by
  obtain ⟨h1, h2, h3⟩ := h
  have ha := h1 a a0 a1
  have hb := h1 b b0 b1
  have hstay : f a = F a → v = F a := fun e => by
    rcases hv with ⟨e1, e2, e3⟩ | ⟨e1, e2⟩
    · have := pu_sym hF hs a0 a1 b0 b1 e3
      omega
    · omega
  refine ⟨fun x x0 x1 => ?_, fun x x0 x1 hx => ?_, fun x y x0 x1 y0 y1 hxy hn hy => ?_⟩
  · by_cases hx : x = a
    · subst hx
      rw [mv_ss]
      rcases hv with ⟨e1, e2, e3⟩ | ⟨e1, e2⟩
      · have := pu_sym hF hs x0 x1 b0 b1 e3
        omega
      · omega
    · rw [mv_sn hx]; exact h1 x x0 x1
  · by_cases hxa : x = a
    · subst hxa
      rw [mv_ss]; exact hstay (h2 x x0 x1 hx)
    · rw [mv_sn hxa]; exact h2 x x0 x1 hx
  · by_cases hxa : x = a
    · subst hxa
      rw [mv_ss]
      by_cases hyb : y = b
      · subst hyb
        have e1 := h2 y y0 y1 hy
        have e2 := pu_sym hF hs x0 x1 y0 y1 hn
        rcases hv with ⟨e3, e4, e5⟩ | ⟨e3, e4⟩
        · omega
        · have : ¬ f y < f x := fun q => e4 ⟨q, hn⟩
          omega
      · exact hstay (h3 x y x0 x1 y0 y1 (by omega) hn hy)
    · rw [mv_sn hxa]; exact h3 x y x0 x1 y0 y1 (by omega) hn hy
theorem pu_cnt_sub {P P' : Int → Bool} {z : Int} (h0 : 0 ≤ z) (hz : P z = true) (hz' : P' z = false) : ∀ {n : Nat}, z < n → (∀ i : Int, 0 ≤ i → i < n → P' i = true → P i = true) → pu_cnt P' n ≤ pu_cnt P n - 1 := by
  have le : ∀ {n : Nat}, (∀ i : Int, 0 ≤ i → i < n → P' i = true → P i = true) → pu_cnt P' n ≤ pu_cnt P n := by
    intro n
    induction n with
    | zero => intro _; exact Int.le_refl _
    | succ n ih =>
      intro h
      have h1 := ih (fun i i0 i1 => h i i0 (by omega))
      have h2 := h n (by omega) (by omega)
      unfold pu_cnt
      cases hp : P' n with
      | false =>
        have e : (0 : Int) ≤ (if P n = true then 1 else 0) := by split <;> omega
        simp only [Bool.false_eq_true, ↓reduceIte]
        omega
      | true => rw [h2 hp]; simp; omega
  intro n
  induction n with
  | zero => intro h; omega
  | succ n ih =>
    intro h1 h
    unfold pu_cnt
    by_cases hn : z = n
    · subst hn
      rw [hz, hz']
      have := le (n := n) (fun i i0 i1 => h i i0 (by omega))
      simp; omega
    · have h3 := ih (by omega) (fun i i0 i1 => h i i0 (by omega))
      have h2 := h n (by omega) (by omega)
      cases hp : P' n with
      | false =>
        have e : (0 : Int) ≤ (if P n = true then 1 else 0) := by split <;> omega
        simp only [Bool.false_eq_true, ↓reduceIte]
        omega
      | true => rw [h2 hp]; simp; omega
theorem pu_cnt_none {P : Int → Bool} : ∀ {n : Nat}, pu_cnt P n ≤ 0 → ∀ i : Int, 0 ≤ i → i < n → P i = false := by
  intro n
  induction n with
  | zero => intro _ i h0 h1; omega
  | succ n ih =>
    intro h i h0 h1
    have h2 := pu_cnt_le P n
    have h3 : pu_cnt P (n + 1) = pu_cnt P n + (if P n then 1 else 0) := rfl
    by_cases hp : P n = true
    · rw [hp] at h3; simp at h3; omega
    · have hpf : P n = false := by simpa using hp
      rw [hpf] at h3
      simp at h3
      by_cases hi : i = n
      · rw [hi]; exact hpf
      · exact ih (by omega) i h0 (by omega)
/-- somebody who isn't done has a neighbour who is -/
theorem pu_edge {n : Int} {nb : Int → Int → Prop} {F f : Int → Int} (hF : pu_lab n (fun a b => a < b ∧ nb a b) F) (hs : ∀ a b, nb a b → nb b a) (h : pu_rx n F f) {v : Int} (v0 : 0 ≤ v) (v1 : v < n) (hv : f v ≠ F v) : ∃ x y, 0 ≤ x ∧ x < n ∧ 0 ≤ y ∧ y < n ∧ nb x y ∧ f y = F y ∧ f x ≠ F x := by
  refine Classical.byContradiction fun hno => ?_
  have all : ∀ x y, 0 ≤ x → x < n → 0 ≤ y → y < n → nb x y → f y = F y → f x = F x := fun x y x0 x1 y0 y1 hn hy =>
    Classical.byContradiction fun hx => hno ⟨x, y, x0, x1, y0, y1, hn, hy, hx⟩
  have hg : pu_E n (fun a b => a < b ∧ nb a b) (fun x => if f x = F x then F x else F x + n + 1) := by
    intro a b a0 a1 b0 b1 hab
    have e := hF.2.1 a b a0 a1 b0 b1 hab
    show (if f a = F a then F a else F a + n + 1) = (if f b = F b then F b else F b + n + 1)
    by_cases ha : f a = F a
    · have hb := all b a b0 b1 a0 a1 (hs _ _ hab.2) ha
      rw [if_pos ha, if_pos hb, e]
    · have hb : ¬ f b = F b := fun q => ha (all a b a0 a1 b0 b1 hab.2 q)
      rw [if_neg ha, if_neg hb, e]
  obtain ⟨r0, r1, r2⟩ := hF.1 v v0 v1
  have hr := h (F v) r0 (by omega)
  have hfr : f (F v) = F (F v) := by omega
  have := hF.2.2 _ hg v (F v) v0 v1 r0 (by omega) r2.symm
  have e2 : (if f v = F v then F v else F v + n + 1) = (if f (F v) = F (F v) then F (F v) else F (F v) + n + 1) := this
  rw [if_neg hv, if_pos hfr] at e2
  omega
theorem pu_nf {n : Int} {nb : Int → Int → Prop} {F f f' : Int → Int} (n0 : 0 ≤ n) (hF : pu_lab n (fun a b => a < b ∧ nb a b) F) (hs : ∀ a b, nb a b → nb b a) (h : pu_rx n F f) {a : Int} (ha : n ≤ a) (hr : pu_rnd n nb F (fun x => f x = F x) a 0 f') {r : Int} (hr1 : r < n) (hc : pu_cnt (fun x => decide (f x ≠ F x)) n.toNat ≤ n - r) :
    pu_cnt (fun x => decide (f' x ≠ F x)) n.toNat ≤ n - (r + 1) := by
  by_cases hall : ∀ x, 0 ≤ x → x < n → f x = F x
  · rw [pu_cnt_0 (fun i i0 i1 => by simpa using hr.2.1 i i0 (by omega) (hall i i0 (by omega)))]
    omega
  · have : ∃ v, 0 ≤ v ∧ v < n ∧ f v ≠ F v := Classical.byContradiction fun q => hall (fun x x0 x1 => Classical.byContradiction fun e => q ⟨x, x0, x1, e⟩)
    obtain ⟨v, v0, v1, v2⟩ := this
    obtain ⟨x, y, x0, x1, y0, y1, e1, e2, e3⟩ := pu_edge hF hs h v0 v1 v2
    have := pu_cnt_sub (P := fun x => decide (f x ≠ F x)) (P' := fun x => decide (f' x ≠ F x)) x0 (by simpa using e3) (by simpa using hr.2.2 x y x0 x1 y0 y1 (by omega) e1 e2) (n := n.toNat) (by omega) (fun i i0 i1 hp => by
      have hp' : f' i ≠ F i := by simpa using hp
      have : f i ≠ F i := fun q => hp' (hr.2.1 i i0 (by omega) q)
      simpa using this)
    omega
theorem pu_done {n : Int} {nb : Int → Int → Prop} {F f : Int → Int} (hF : pu_lab n (fun a b => a < b ∧ nb a b) F) (hc : pu_cnt (fun x => decide (f x ≠ F x)) n.toNat ≤ 0) : pu_lab n (fun a b => a < b ∧ nb a b) f :=
  pu_labC hF (fun _ _ _ _ _ _ => Iff.rfl) (fun i i0 i1 => by
    have h2 : f i = F i := by simpa using pu_cnt_none hc i i0 (by omega)
    exact h2.symm)
theorem bf_nb_sym {t : Int} {L U R D : Int → Int} : ∀ a b, bf_nb t L U R D a b → bf_nb t L U R D b a := by
  intro a b h
  have h1 := h.1
  have h2 := h.2
  exact ⟨by omega, by omega⟩
theorem bf_nl_sym {t : Int} {L U R D : Int → Int} : ∀ a b, bf_nl t L U R D a b → bf_nl t L U R D b a := by
  intro a b h
  have h1 := h.1
  have h2 := h.2
  exact ⟨by omega, by omega⟩
