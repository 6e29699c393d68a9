/-! the law: its loop and its beginning -/
def la_at (L : Nat) (f : Int → Int) (x : Int) : Int := if x < (L : Int) then f x else 0
theorem la_cell {Q : List mv_V → mv_M → Prop} {M : mv_M} {L : Nat} {f : Int → Int} (hs : M.2 1 = .inl (L, f)) {x : Int} (x0 : 0 ≤ x) (k : Q [.inl (la_at L f x)] M) : mv_J md_LW_cell [.inr 1, .inl x] M Q := by
  refine mv_enter (by decide +kernel) (Nat.le_of_ble_eq_true rfl) ?_
  show mv_W md_LW_cell 0 [.inr 1, .inl x] [] M (0, 0) Q
  refine mx_iload_n d_LW_cell_0 rfl ?_
  refine mx_aload_n d_LW_cell_1 rfl (by omega) ?_
  refine mx_alen d_LW_cell_2 hs ?_
  refine mx_icmp_ge 12 d_LW_cell_3 (by decide) (fun c3 => ?_) (fun c3 => ?_)
  · skip
    refine mx_iconst (0) d_LW_cell_12 (by decide +kernel) (by unfold mv_r; omega) ?_
    refine mx_ireturn d_LW_cell_13 rfl ?_
    have e : la_at L f x = 0 := if_neg (by omega)
    rw [e] at k
    exact k
  · skip
    refine mx_aload_n d_LW_cell_6 rfl (by omega) ?_
    refine mx_iload_n d_LW_cell_7 rfl ?_
    refine mx_iald d_LW_cell_8 hs (by omega) (by omega) ?_
    refine mx_goto 13 d_LW_cell_9 (by decide) ?_
    refine mx_ireturn d_LW_cell_13 rfl ?_
    have e : la_at L f x = f x := if_pos (by omega)
    rw [e] at k
    exact k
theorem la_loop {Q : List mv_V → mv_M → Prop} {L : Nat} {f : Int → Int} {bu : Nat × Nat} (hL : (L : Int) ≤ 2562) (hr : ∀ j, mv_r (f j)) (k : ∀ M, Q [.inl 1] M) : ∀ (d : Nat) (i : Int) (M : mv_M), (L : Int) - i < d → 2 ≤ i → i ≤ 2600 → la_I L f M → mv_W md_law 38 [.inr 1, .inr 2, .inr 47, .inl i] [] M bu Q := by
  intro d
  induction d with
  | zero =>
    intro i M hd i0 i9 hI
    have hs := hI.1
    refine mx_iload_n d_LW_law_38 rfl ?_
    refine mx_aload_n d_LW_law_39 rfl (by omega) ?_
    refine mx_alen d_LW_law_40 hs ?_
    refine mx_iconst (5) d_LW_law_41 (by decide +kernel) (by unfold mv_r; omega) ?_
    refine mx_isub d_LW_law_42 (by unfold mv_r; omega) ?_
    refine mx_icmp_gt 421 d_LW_law_43 (by decide) (fun c43 => ?_) (fun c43 => ?_)
    · skip
      refine mx_iconst (1) d_LW_law_421 (by decide +kernel) (by unfold mv_r; omega) ?_
      refine mx_zreturn d_LW_law_422 rfl (by omega) ?_
      exact k M
    · skip
      exfalso; omega
  | succ d ih =>
    intro i M hd i0 i9 hI
    have hs := hI.1
    refine mx_iload_n d_LW_law_38 rfl ?_
    refine mx_aload_n d_LW_law_39 rfl (by omega) ?_
    refine mx_alen d_LW_law_40 hs ?_
    refine mx_iconst (5) d_LW_law_41 (by decide +kernel) (by unfold mv_r; omega) ?_
    refine mx_isub d_LW_law_42 (by unfold mv_r; omega) ?_
    refine mx_icmp_gt 421 d_LW_law_43 (by decide) (fun c43 => ?_) (fun c43 => ?_)
    · skip
      refine mx_iconst (1) d_LW_law_421 (by decide +kernel) (by unfold mv_r; omega) ?_
      refine mx_zreturn d_LW_law_422 rfl (by omega) ?_
      exact k M
    · skip
      have i1 : i + 5 ≤ (L : Int) := by omega
      have nx : ∀ M', la_I L f M' → mv_W md_law 415 [.inr 1, .inr 2, .inr 47, .inl i] [] M' bu Q := fun M' hI' => by
        refine mx_iinc d_LW_law_415 rfl (by unfold mv_r; omega) ?_
        refine mx_goto 38 d_LW_law_418 (by decide) ?_
        exact ih (i + 5) M' (by omega) (by omega) (by omega) hI'
      refine mx_aload_n d_LW_law_46 rfl (by omega) ?_
      refine mx_iload_n d_LW_law_47 rfl ?_
      refine mx_iald d_LW_law_48 hs (by omega) (by omega) ?_
      refine mx_bipush (15) d_LW_law_49 (by decide +kernel) (by unfold mv_r; omega) ?_
      refine mx_iand15 d_LW_law_51 ?_
      have hv : 0 ≤ f i % 16 := by omega
      generalize f i % 16 = v at hv ⊢
      rcases (show v = 0 ∨ v = 1 ∨ v = 2 ∨ v = 3 ∨ v = 4 ∨ v = 5 ∨ v = 6 ∨ v = 7 ∨ v = 8 ∨ v = 9 ∨ v = 10 ∨ (v < 0 ∨ 10 < v) by omega) with rfl | rfl | rfl | rfl | rfl | rfl | rfl | rfl | rfl | rfl | rfl | hsw
      · skip
        refine mx_tabIn 112 d_LW_law_52 (by omega) (by omega) rfl (by decide) ?_
        exact la_c0 hI i0 i1 hL hr nx
      · skip
        refine mx_tabIn 165 d_LW_law_52 (by omega) (by omega) rfl (by decide) ?_
        exact la_c1 hI i0 i1 hL hr nx
      · skip
        refine mx_tabIn 218 d_LW_law_52 (by omega) (by omega) rfl (by decide) ?_
        exact la_c2 hI i0 i1 hL hr nx
      · skip
        refine mx_tabIn 231 d_LW_law_52 (by omega) (by omega) rfl (by decide) ?_
        exact la_c3 hI i0 i1 hL hr nx
      · skip
        refine mx_tabIn 264 d_LW_law_52 (by omega) (by omega) rfl (by decide) ?_
        exact la_c4 hI i0 i1 hL hr nx
      · skip
        refine mx_tabIn 307 d_LW_law_52 (by omega) (by omega) rfl (by decide) ?_
        exact la_c5 hI i0 i1 hL hr nx
      · skip
        refine mx_tabIn 330 d_LW_law_52 (by omega) (by omega) rfl (by decide) ?_
        exact la_c6 hI i0 i1 hL hr nx
      · skip
        refine mx_tabIn 353 d_LW_law_52 (by omega) (by omega) rfl (by decide) ?_
        exact la_c7 hI i0 i1 hL hr nx
      · skip
        refine mx_tabIn 366 d_LW_law_52 (by omega) (by omega) rfl (by decide) ?_
        exact la_c8 hI i0 i1 hL hr nx
      · skip
        refine mx_tabIn 389 d_LW_law_52 (by omega) (by omega) rfl (by decide) ?_
        exact la_c9 hI i0 i1 hL hr nx
      · skip
        refine mx_tabIn 402 d_LW_law_52 (by omega) (by omega) rfl (by decide) ?_
        exact la_c10 hI i0 i1 hL hr nx
      · skip
        refine mx_tabOut 415 d_LW_law_52 hsw (by decide) ?_
        exact nx M hI
/-- the script alone -/
def la_M (L : Nat) (f : Int → Int) : mv_M := (2, fun j => if j = 1 then .inl (L, f) else mv_dead)
theorem la_law {Q : List mv_V → mv_M → Prop} {L : Nat} {f : Int → Int} (hL : (L : Int) ≤ 2562) (hr : ∀ j, mv_r (f j)) (k : ∀ M, Q [.inl 1] M) : mv_W md_law 0 [.inr 1, .inr 0, .inr 0, .inr 0] [] (la_M L f) (0, 0) Q := by
  have hs : (la_M L f).2 1 = .inl (L, f) := rfl
  refine mx_nw d_LW_law_0 w_LW_7 (n := 2) rfl (by decide) (by decide) ?_
  have hs1 : (mv_a 2 (la_M L f) (.inr (ki_BF, mv_l [.inl 0, .inl 0, .inr 0, .inr 0, .inr 0, .inr 0, .inr 0, .inr 0, .inr 0, .inr 0, .inr 0, .inr 0, .inr 0, .inl 0]))).2 1 = .inl (L, f) := by rw [mv_an (by omega)]; exact hs
  refine mx_dup d_LW_law_3 ?_
  refine mx_aload_n d_LW_law_4 rfl (by omega) ?_
  refine mx_iconst (0) d_LW_law_5 (by decide +kernel) (by unfold mv_r; omega) ?_
  refine mx_cS2 d_LW_law_6 c_LW_9 (by decide) (Nat.le_of_ble_eq_true rfl) ?_
  refine la_cell hs1 (by omega) ?_
  refine mx_aload_n d_LW_law_9 rfl (by omega) ?_
  refine mx_iconst (1) d_LW_law_10 (by decide +kernel) (by unfold mv_r; omega) ?_
  refine mx_cS2 d_LW_law_11 c_LW_9 (by decide) (Nat.le_of_ble_eq_true rfl) ?_
  refine la_cell hs1 (by omega) ?_
  refine mx_cI2 d_LW_law_14 c_LW_15 (by decide +kernel) (by decide) (by decide) (by omega) (Nat.le_of_ble_eq_true rfl) ?_
  refine bf_init rfl mv_as (fun M1 hM1 e1 hO1 hBx1 hPn1 hS1 hS2 hS3 hLn1 hBk1 h31 hPB1 => ?_)
  refine mx_astore_n d_LW_law_17 (by decide) (by omega) ?_
  have hs2 : M1.2 1 = .inl (L, f) := by rw [e1 1 (by omega)]; exact hs1
  refine mx_nw d_LW_law_18 w_LW_18 (n := 47) hM1 (by decide) (by decide) ?_
  refine mx_dup d_LW_law_21 ?_
  refine mx_aload_n d_LW_law_22 rfl (by omega) ?_
  refine mx_iconst (0) d_LW_law_23 (by decide +kernel) (by unfold mv_r; omega) ?_
  refine mx_cS2 d_LW_law_24 c_LW_9 (by decide) (Nat.le_of_ble_eq_true rfl) ?_
  refine la_cell (by rw [mv_an (by omega)]; exact hs2) (by omega) ?_
  refine mx_aload_n d_LW_law_27 rfl (by omega) ?_
  refine mx_iconst (1) d_LW_law_28 (by decide +kernel) (by unfold mv_r; omega) ?_
  refine mx_cS2 d_LW_law_29 c_LW_9 (by decide) (Nat.le_of_ble_eq_true rfl) ?_
  refine la_cell (by rw [mv_an (by omega)]; exact hs2) (by omega) ?_
  refine mx_cI2 d_LW_law_32 c_LW_20 (by decide +kernel) (by decide) (by decide) (by omega) (Nat.le_of_ble_eq_true rfl) ?_
  refine rf_init rfl mv_as (fun M' hM' e' hO' k48 k49 k50 k51 k52 k53 k54 k55 k56 k57 k58 k59 k60 k61 k62 k63 => ?_)
  refine mx_astore_n d_LW_law_35 (by decide) (by omega) ?_
  refine mx_iconst (2) d_LW_law_36 (by decide +kernel) (by unfold mv_r; omega) ?_
  refine mx_istore_n d_LW_law_37 (by decide) ?_
  have eC : ∀ j, j < 47 → M'.2 j = M1.2 j := fun j hj => by rw [e' j hj, mv_an (by omega)]
  exact la_loop hL hr k (L + 1) 2 M' (by omega) (by omega) (by omega) ⟨by rw [eC 1 (by omega)]; exact hs2, _, _, _, _, _, _, _, _, _, _, _, _, _, _, _, _, _, _, _, _, _, _, _, _, _, _, _, _, _, _, _, _, _, _, _, _, _, _, _, _, _, _, _, _, _, _, _, ⟨hO1.of (eC 2 (by omega)), hBx1.cg (fun j _ hj => eC j (by omega)), hPn1.cg (fun j _ hj => eC j (by omega)), ⟨_, _, _, hS1.cg (fun j _ hj => eC j (by omega))⟩, ⟨_, _, _, hS2.cg (fun j _ hj => eC j (by omega))⟩, ⟨_, _, _, hS3.cg (fun j _ hj => eC j (by omega))⟩, ⟨_, _, hLn1.cg (fun j _ hj => eC j (by omega))⟩, ⟨_, _, hBk1.cg (fun j _ hj => eC j (by omega))⟩, ⟨by rw [eC 43 (by omega)]; exact h31.1, by rw [eC 44 (by omega)]; exact h31.2.1, by rw [eC 45 (by omega)]; exact h31.2.2⟩, by rw [eC 46 (by omega)]; exact hPB1⟩, ⟨⟨_, _, _, _, hO'⟩, k48, k49, ⟨_, k50⟩, ⟨_, k51⟩, ⟨_, k52⟩, ⟨_, k53⟩, k54, ⟨_, k55⟩, k56, k57, k58, k59, k60, k61, k62, k63⟩, ⟨by omega, by omega, by omega, by omega, by omega⟩, ⟨fun j _ _ => by omega, fun j _ _ => by omega, fun j _ _ => by omega, fun j _ _ => by omega⟩, ⟨by omega, fun j _ _ => by omega, fun j _ _ => by omega, fun j _ _ => by omega, fun j _ _ => by omega, fun j _ _ => by omega, fun j _ _ => by omega, rfl⟩, by omega, fun j _ _ => by omega, fun j _ _ => by omega, fun p q _ _ => by omega⟩
