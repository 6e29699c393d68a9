/-! pure rows: boxes measured block by block -/
def pu_msr (i nk : Int) (gb hh BS HB LB : Int → Int) : Prop := ∀ b, 0 ≤ b → b < nk → BS b = pu_cnt (fun j => decide (gb j = b)) i.toNat ∧ (0 ≤ HB b ∧ HB b ≤ 4096) ∧ (0 ≤ LB b ∧ LB b ≤ 4096) ∧ (∀ j, 0 ≤ j → j < i → gb j = b → hh j ≤ HB b ∧ LB b ≤ hh j) ∧ (HB b = 0 ∨ ∃ j, 0 ≤ j ∧ j < i ∧ gb j = b ∧ HB b = hh j) ∧ (LB b = 4096 ∨ ∃ j, 0 ≤ j ∧ j < i ∧ gb j = b ∧ LB b = hh j)
theorem pu_msr0 {nk : Int} {gb hh BS HB LB : Int → Int} (h : ∀ b, 0 ≤ b → b < nk → BS b = 0 ∧ HB b = 0 ∧ LB b = 4096) : pu_msr 0 nk gb hh BS HB LB := by
  intro b b0 b1
  obtain ⟨h1, h2, h3⟩ := h b b0 b1
  exact ⟨h1, by omega, by omega, fun j j0 j1 => by omega, Or.inl h2, Or.inl h3⟩
theorem pu_msr_s {i nk : Int} {gb hh BS HB LB : Int → Int} (h : pu_msr i nk gb hh BS HB LB) (i0 : 0 ≤ i) {g v : Int} (hg : gb i = g) (hv : hh i = v) (v0 : 0 ≤ v) (v1 : v ≤ 4096) : pu_msr (i + 1) nk gb hh (mv_s BS g (BS g + 1)) (mv_s HB g (max (HB g) v)) (mv_s LB g (min (LB g) v)) := by
  intro b b0 b1
  obtain ⟨h1, h2, h3, h4, h5, h6⟩ := h b b0 b1
  rw [pu_cnt_s i0]
  by_cases hb : b = g
  · subst hb
    rw [mv_ss, mv_ss, mv_ss, if_pos (by simpa using hg), h1]
    refine ⟨rfl, by omega, by omega, fun j j0 j1 e => ?_, ?_, ?_⟩
    · by_cases hj : j = i
      · subst hj; omega
      · have := h4 j j0 (by omega) e; omega
    · by_cases hm : HB b ≤ v
      · exact Or.inr ⟨i, i0, by omega, hg, by omega⟩
      · rcases h5 with h5 | ⟨j, j0, j1, j2, j3⟩
        · omega
        · exact Or.inr ⟨j, j0, by omega, j2, by omega⟩
    · by_cases hm : v ≤ LB b
      · exact Or.inr ⟨i, i0, by omega, hg, by omega⟩
      · rcases h6 with h6 | ⟨j, j0, j1, j2, j3⟩
        · omega
        · exact Or.inr ⟨j, j0, by omega, j2, by omega⟩
  · have hgb : ¬ gb i = b := fun e => hb (by omega)
    rw [mv_sn hb, mv_sn hb, mv_sn hb, if_neg (by simpa using hgb), h1]
    refine ⟨by omega, h2, h3, fun j j0 j1 e => ?_, ?_, ?_⟩
    · by_cases hj : j = i
      · subst hj; exact absurd e hgb
      · exact h4 j j0 (by omega) e
    · rcases h5 with h5 | ⟨j, j0, j1, j2, j3⟩
      · exact Or.inl h5
      · exact Or.inr ⟨j, j0, by omega, j2, j3⟩
    · rcases h6 with h6 | ⟨j, j0, j1, j2, j3⟩
      · exact Or.inl h6
      · exact Or.inr ⟨j, j0, by omega, j2, j3⟩
