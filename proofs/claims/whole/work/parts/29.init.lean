/-! the class: constructors -/
theorem bf_R.cg {M M' : mv_M} {o : Nat} {n : Nat} {cnt : Int} {L U R D : Int → Int} (h : bf_R M o n cnt L U R D) (e : ∀ j, o ≤ j → j < o + 5 → M'.2 j = M.2 j) : bf_R M' o n cnt L U R D := by
  unfold bf_R
  rw [e o (by omega) (by omega), e (o + 1) (by omega) (by omega), e (o + 2) (by omega) (by omega), e (o + 3) (by omega) (by omega), e (o + 4) (by omega) (by omega)]
  exact h
theorem bf_S.cg {M M' : mv_M} {o : Nat} {m c : Int} {f : Int → Int} (h : bf_S M o m c f) (e : ∀ j, o ≤ j → j < o + 2 → M'.2 j = M.2 j) : bf_S M' o m c f := by
  unfold bf_S
  rw [e o (by omega) (by omega), e (o + 1) (by omega) (by omega)]
  exact h
theorem bf_G.cg {M M' : mv_M} {o : Nat} {cnt : Int} {L U R D P LP Z GO OR PL : Int → Int} (h : bf_G M o cnt L U R D P LP Z GO OR PL) (e : ∀ j, o ≤ j → j < o + 12 → M'.2 j = M.2 j) : bf_G M' o cnt L U R D P LP Z GO OR PL := by
  refine ⟨?_, h.2.1.cg (fun j a b => e j (by omega) (by omega)), ?_, ?_, ?_, ?_, ?_, ?_⟩
  · rw [e o (by omega) (by omega)]; exact h.1
  · rw [e (o + 6) (by omega) (by omega)]; exact h.2.2.1
  · rw [e (o + 7) (by omega) (by omega)]; exact h.2.2.2.1
  · rw [e (o + 8) (by omega) (by omega)]; exact h.2.2.2.2.1
  · rw [e (o + 9) (by omega) (by omega)]; exact h.2.2.2.2.2.1
  · rw [e (o + 10) (by omega) (by omega)]; exact h.2.2.2.2.2.2.1
  · rw [e (o + 11) (by omega) (by omega)]; exact h.2.2.2.2.2.2.2
theorem bf_Rinit {Q : List mv_V → mv_M → Prop} {M : mv_M} {o n : Nat} (ho : 2 ≤ o) (hn : n ≤ 64) (hM : M.1 = o + 1) (h0 : M.2 o = .inr (ki_R, mv_l [.inr 0, .inr 0, .inr 0, .inr 0, .inl 0])) (k : ∀ M', M'.1 = o + 5 → (∀ j, j < o → M'.2 j = M.2 j) → bf_R M' o n 0 (fun _ => 0) (fun _ => 0) (fun _ => 0) (fun _ => 0) → Q [] M') : mv_J md_R_init [.inr o, .inl n] M Q := by
  refine mv_enter (by decide +kernel) (Nat.le_of_ble_eq_true rfl) ?_
  show mv_W md_R_init 0 [.inr o, .inl n, .inr 0] [] M (0, 0) Q
  refine mx_aload_n d_R_init_0 rfl (by omega) ?_
  refine mx_obj d_R_init_1 c_R_3 (by omega) (by decide) (Nat.le_of_ble_eq_true rfl) ?_
  refine mx_aload_n d_R_init_4 rfl (by omega) ?_
  refine mx_iconst (0) d_R_init_5 (by decide +kernel) (by unfold mv_r; omega) ?_
  refine mx_pl d_R_init_6 g_R_9 h0 (mv_Vi _) (Nat.le_of_ble_eq_true rfl) ?_
  refine mx_iconst (0) d_R_init_9 (by decide +kernel) (by unfold mv_r; omega) ?_
  refine mx_iload_n d_R_init_10 rfl ?_
  refine mx_max d_R_init_11 c_R_15 (by decide) (Nat.le_of_ble_eq_true rfl) ?_
  rw [show max (0 : Int) (n : Int) = n by omega]
  refine mx_istore_n d_R_init_14 (by decide) ?_
  refine mx_aload_n d_R_init_15 rfl (by omega) ?_
  refine mx_iload_n d_R_init_16 rfl ?_
  refine mx_na d_R_init_17 w_int (n := o + 1) (N := n) hM (by omega) (by omega) rfl (Nat.le_of_ble_eq_true rfl) (by show 0 + n ≤ 256; omega) ?_
  refine mx_plF d_R_init_19 rfl g_R_21 (by rw [mv_an (by omega), mv_ps]) (mv_Va _ _) (Nat.le_of_ble_eq_true rfl) ?_
  refine mx_aload_n d_R_init_22 rfl (by omega) ?_
  refine mx_iload_n d_R_init_23 rfl ?_
  refine mx_na d_R_init_24 w_int (n := o + 2) (N := n) rfl (by omega) (by omega) rfl (Nat.le_of_ble_eq_true rfl) (by show 0 + n + n ≤ 256; omega) ?_
  refine mx_plF d_R_init_26 rfl g_R_25 (by rw [mv_an (by omega), mv_ps]) (mv_Va _ _) (Nat.le_of_ble_eq_true rfl) ?_
  refine mx_aload_n d_R_init_29 rfl (by omega) ?_
  refine mx_iload_n d_R_init_30 rfl ?_
  refine mx_na d_R_init_31 w_int (n := o + 3) (N := n) rfl (by omega) (by omega) rfl (Nat.le_of_ble_eq_true rfl) (by show 0 + n + n + n ≤ 256; omega) ?_
  refine mx_plF d_R_init_33 rfl g_R_28 (by rw [mv_an (by omega), mv_ps]) (mv_Va _ _) (Nat.le_of_ble_eq_true rfl) ?_
  refine mx_aload_n d_R_init_36 rfl (by omega) ?_
  refine mx_iload_n d_R_init_37 rfl ?_
  refine mx_na d_R_init_38 w_int (n := o + 4) (N := n) rfl (by omega) (by omega) rfl (Nat.le_of_ble_eq_true rfl) (by show 0 + n + n + n + n ≤ 256; omega) ?_
  refine mx_plF d_R_init_40 rfl g_R_31 (by rw [mv_an (by omega), mv_ps]) (mv_Va _ _) (Nat.le_of_ble_eq_true rfl) ?_
  refine mx_return d_R_init_43 rfl ?_
  exact k _ rfl (fun j hj => by rw [mv_pn (by omega), mv_an (by omega), mv_pn (by omega), mv_an (by omega), mv_pn (by omega), mv_an (by omega), mv_pn (by omega), mv_an (by omega), mv_pn (by omega)]) ⟨mv_ps, by rw [mv_pn (by omega), mv_an (by omega), mv_pn (by omega), mv_an (by omega), mv_pn (by omega), mv_an (by omega), mv_pn (by omega), mv_as], by rw [mv_pn (by omega), mv_an (by omega), mv_pn (by omega), mv_an (by omega), mv_pn (by omega), mv_as], by rw [mv_pn (by omega), mv_an (by omega), mv_pn (by omega), mv_as], by rw [mv_pn (by omega), mv_as]⟩
theorem bf_Sinit {Q : List mv_V → mv_M → Prop} {M : mv_M} {o : Nat} (ho : 2 ≤ o) (hM : M.1 = o + 1) (h0 : M.2 o = .inr (ki_S, mv_l [.inr 0, .inl 0, .inl 0])) (k : ∀ M', M'.1 = o + 2 → (∀ j, j < o → M'.2 j = M.2 j) → bf_S M' o 0 0 (fun _ => 0) → Q [] M') : mv_J md_S_init [.inr o] M Q := by
  refine mv_enter (by decide +kernel) (Nat.le_of_ble_eq_true rfl) ?_
  show mv_W md_S_init 0 [.inr o] [] M (0, 0) Q
  refine mx_aload_n d_S_init_0 rfl (by omega) ?_
  refine mx_obj d_S_init_1 c_S_3 (by omega) (by decide) (Nat.le_of_ble_eq_true rfl) ?_
  refine mx_aload_n d_S_init_4 rfl (by omega) ?_
  refine mx_bipush (64) d_S_init_5 (by decide +kernel) (by unfold mv_r; omega) ?_
  refine mx_na d_S_init_7 w_int (n := o + 1) (N := 64) hM (by omega) (by omega) rfl (by decide) (by decide) ?_
  refine mx_plF d_S_init_9 rfl g_S_9 (by rw [mv_an (by omega)]; exact h0) (mv_Va _ _) (Nat.le_of_ble_eq_true rfl) ?_
  refine mx_aload_n d_S_init_12 rfl (by omega) ?_
  refine mx_iconst (0) d_S_init_13 (by decide +kernel) (by unfold mv_r; omega) ?_
  refine mx_pl d_S_init_14 g_S_15 (by rw [mv_ps]) (mv_Vi _) (Nat.le_of_ble_eq_true rfl) ?_
  refine mx_aload_n d_S_init_17 rfl (by omega) ?_
  refine mx_iconst (0) d_S_init_18 (by decide +kernel) (by unfold mv_r; omega) ?_
  refine mx_pl d_S_init_19 g_S_19 (by rw [mv_ps]) (mv_Vi _) (Nat.le_of_ble_eq_true rfl) ?_
  refine mx_return d_S_init_22 rfl ?_
  exact k _ rfl (fun j hj => by rw [mv_pn (by omega), mv_pn (by omega), mv_pn (by omega), mv_an (by omega)]) ⟨mv_ps, by rw [mv_pn (by omega), mv_pn (by omega), mv_pn (by omega), mv_as]⟩
theorem bf_Ginit {Q : List mv_V → mv_M → Prop} {M : mv_M} {o : Nat} (ho : 2 ≤ o) (hM : M.1 = o + 1) (h0 : M.2 o = .inr (ki_G, mv_l [.inr 0, .inr 0, .inr 0, .inr 0, .inr 0, .inr 0, .inr 0])) (k : ∀ M', M'.1 = o + 12 → (∀ j, j < o → M'.2 j = M.2 j) → bf_G M' o 0 (fun _ => 0) (fun _ => 0) (fun _ => 0) (fun _ => 0) (fun _ => 0) (fun _ => 0) (fun _ => 0) (fun _ => 0) (fun _ => 0) (fun _ => 0) → Q [] M') : mv_J md_G_init [.inr o] M Q := by
  refine mv_enter (by decide +kernel) (Nat.le_of_ble_eq_true rfl) ?_
  show mv_W md_G_init 0 [.inr o] [] M (0, 0) Q
  refine mx_aload_n d_G_init_0 rfl (by omega) ?_
  refine mx_obj d_G_init_1 c_G_3 (by omega) (by decide) (Nat.le_of_ble_eq_true rfl) ?_
  refine mx_aload_n d_G_init_4 rfl (by omega) ?_
  refine mx_nw d_G_init_5 w_G_9 (n := o + 1) hM (by decide) (by decide) ?_
  refine mx_dup d_G_init_8 ?_
  refine mx_bipush (64) d_G_init_9 (by decide +kernel) (by unfold mv_r; omega) ?_
  refine mx_cI1 d_G_init_11 c_G_11 (by decide +kernel) (by decide) (by decide) (by omega) (Nat.le_of_ble_eq_true rfl) ?_
  refine bf_Rinit (n := 64) (by omega) (by omega) rfl mv_as (fun M1 hM1 hf1 hR1 => ?_)
  have h1 : M1.2 o = .inr (ki_G, mv_l [.inr 0, .inr 0, .inr 0, .inr 0, .inr 0, .inr 0, .inr 0]) := by rw [hf1 o (by omega), mv_an (by omega)]; exact h0
  refine mx_plF d_G_init_14 rfl g_G_14 h1 (mv_Vo _ _) (Nat.le_of_ble_eq_true rfl) ?_
  refine mx_aload_n d_G_init_17 rfl (by omega) ?_
  refine mx_bipush (64) d_G_init_18 (by decide +kernel) (by unfold mv_r; omega) ?_
  refine mx_na d_G_init_20 w_int (n := o + 6) (N := 64) hM1 (by omega) (by omega) rfl (by decide) (by decide) ?_
  refine mx_plF d_G_init_22 rfl g_G_20 (by rw [mv_an (by omega), mv_ps]) (mv_Va _ _) (Nat.le_of_ble_eq_true rfl) ?_
  refine mx_aload_n d_G_init_25 rfl (by omega) ?_
  refine mx_bipush (64) d_G_init_26 (by decide +kernel) (by unfold mv_r; omega) ?_
  refine mx_na d_G_init_28 w_int (n := o + 7) (N := 64) rfl (by omega) (by omega) rfl (by decide) (by decide) ?_
  refine mx_plF d_G_init_30 rfl g_G_24 (by rw [mv_an (by omega), mv_ps]) (mv_Va _ _) (Nat.le_of_ble_eq_true rfl) ?_
  refine mx_aload_n d_G_init_33 rfl (by omega) ?_
  refine mx_bipush (64) d_G_init_34 (by decide +kernel) (by unfold mv_r; omega) ?_
  refine mx_na d_G_init_36 w_int (n := o + 8) (N := 64) rfl (by omega) (by omega) rfl (by decide) (by decide) ?_
  refine mx_plF d_G_init_38 rfl g_G_27 (by rw [mv_an (by omega), mv_ps]) (mv_Va _ _) (Nat.le_of_ble_eq_true rfl) ?_
  refine mx_aload_n d_G_init_41 rfl (by omega) ?_
  refine mx_bipush (64) d_G_init_42 (by decide +kernel) (by unfold mv_r; omega) ?_
  refine mx_na d_G_init_44 w_int (n := o + 9) (N := 64) rfl (by omega) (by omega) rfl (by decide) (by decide) ?_
  refine mx_plF d_G_init_46 rfl g_G_30 (by rw [mv_an (by omega), mv_ps]) (mv_Va _ _) (Nat.le_of_ble_eq_true rfl) ?_
  refine mx_aload_n d_G_init_49 rfl (by omega) ?_
  refine mx_bipush (64) d_G_init_50 (by decide +kernel) (by unfold mv_r; omega) ?_
  refine mx_na d_G_init_52 w_int (n := o + 10) (N := 64) rfl (by omega) (by omega) rfl (by decide) (by decide) ?_
  refine mx_plF d_G_init_54 rfl g_G_33 (by rw [mv_an (by omega), mv_ps]) (mv_Va _ _) (Nat.le_of_ble_eq_true rfl) ?_
  refine mx_aload_n d_G_init_57 rfl (by omega) ?_
  refine mx_bipush (64) d_G_init_58 (by decide +kernel) (by unfold mv_r; omega) ?_
  refine mx_na d_G_init_60 w_int (n := o + 11) (N := 64) rfl (by omega) (by omega) rfl (by decide) (by decide) ?_
  refine mx_plF d_G_init_62 rfl g_G_36 (by rw [mv_an (by omega), mv_ps]) (mv_Va _ _) (Nat.le_of_ble_eq_true rfl) ?_
  refine mx_return d_G_init_65 rfl ?_
  exact k _ rfl (fun j hj => by rw [mv_pn (by omega), mv_an (by omega), mv_pn (by omega), mv_an (by omega), mv_pn (by omega), mv_an (by omega), mv_pn (by omega), mv_an (by omega), mv_pn (by omega), mv_an (by omega), mv_pn (by omega), mv_an (by omega), mv_pn (by omega), hf1 j (by omega), mv_an (by omega)]) ⟨mv_ps, hR1.cg (fun j a b => by rw [mv_pn (by omega), mv_an (by omega), mv_pn (by omega), mv_an (by omega), mv_pn (by omega), mv_an (by omega), mv_pn (by omega), mv_an (by omega), mv_pn (by omega), mv_an (by omega), mv_pn (by omega), mv_an (by omega), mv_pn (by omega)]), by rw [mv_pn (by omega), mv_an (by omega), mv_pn (by omega), mv_an (by omega), mv_pn (by omega), mv_an (by omega), mv_pn (by omega), mv_an (by omega), mv_pn (by omega), mv_an (by omega), mv_pn (by omega), mv_as], by rw [mv_pn (by omega), mv_an (by omega), mv_pn (by omega), mv_an (by omega), mv_pn (by omega), mv_an (by omega), mv_pn (by omega), mv_an (by omega), mv_pn (by omega), mv_as], by rw [mv_pn (by omega), mv_an (by omega), mv_pn (by omega), mv_an (by omega), mv_pn (by omega), mv_an (by omega), mv_pn (by omega), mv_as], by rw [mv_pn (by omega), mv_an (by omega), mv_pn (by omega), mv_an (by omega), mv_pn (by omega), mv_as], by rw [mv_pn (by omega), mv_an (by omega), mv_pn (by omega), mv_as], by rw [mv_pn (by omega), mv_as]⟩
theorem bf_init {Q : List mv_V → mv_M → Prop} {M : mv_M} {x y : Int} (hM : M.1 = 3) (h0 : M.2 2 = .inr (ki_BF, mv_l [.inl 0, .inl 0, .inr 0, .inr 0, .inr 0, .inr 0, .inr 0, .inr 0, .inr 0, .inr 0, .inr 0, .inr 0, .inr 0, .inl 0])) (k : ∀ M', M'.1 = 47 → (∀ j, j < 2 → M'.2 j = M.2 j) → bf_O M' (max 1 (min 4096 x)) (max 1 (min 4096 y)) 0 → bf_R M' 3 64 0 (fun _ => 0) (fun _ => 0) (fun _ => 0) (fun _ => 0) → bf_R M' 8 8 0 (fun _ => 0) (fun _ => 0) (fun _ => 0) (fun _ => 0) → bf_S M' 13 0 0 (fun _ => 0) → bf_S M' 15 0 0 (fun _ => 0) → bf_S M' 17 0 0 (fun _ => 0) → bf_G M' 19 0 (fun _ => 0) (fun _ => 0) (fun _ => 0) (fun _ => 0) (fun _ => 0) (fun _ => 0) (fun _ => 0) (fun _ => 0) (fun _ => 0) (fun _ => 0) → bf_G M' 31 0 (fun _ => 0) (fun _ => 0) (fun _ => 0) (fun _ => 0) (fun _ => 0) (fun _ => 0) (fun _ => 0) (fun _ => 0) (fun _ => 0) (fun _ => 0) → bf_3 M' (fun _ => 0) (fun _ => 0) (fun _ => 0) → M'.2 46 = .inl (64, (fun _ => 0)) → Q [] M') : mv_J md_BF_init [.inr 2, .inl x, .inl y] M Q := by
  refine mv_enter (by decide +kernel) (Nat.le_of_ble_eq_true rfl) ?_
  show mv_W md_BF_init 0 [.inr 2, .inl x, .inl y] [] M (0, 0) Q
  refine mx_aload_n d_BF_init_0 rfl (by omega) ?_
  refine mx_obj d_BF_init_1 c_BF_1 (by omega) (by decide) (Nat.le_of_ble_eq_true rfl) ?_
  refine mx_aload_n d_BF_init_4 rfl (by omega) ?_
  refine mx_nw d_BF_init_5 w_BF_7 (n := 3) hM (by decide) (by decide) ?_
  refine mx_dup d_BF_init_8 ?_
  refine mx_bipush (64) d_BF_init_9 (by decide +kernel) (by unfold mv_r; omega) ?_
  refine mx_cI1 d_BF_init_11 c_BF_11 (by decide +kernel) (by decide) (by decide) (by omega) (Nat.le_of_ble_eq_true rfl) ?_
  refine bf_Rinit (n := 64) (by omega) (by omega) rfl mv_as (fun M0 hM0 hf0 hBx => ?_)
  have hb0 : M0.2 2 = .inr (ki_BF, mv_l [.inl 0, .inl 0, .inr 0, .inr 0, .inr 0, .inr 0, .inr 0, .inr 0, .inr 0, .inr 0, .inr 0, .inr 0, .inr 0, .inl 0]) := by rw [hf0 2 (by omega), mv_an (by omega)]; exact h0
  have hlo0 : ∀ j, j < 2 → M0.2 j = M.2 j := fun j hj => by rw [hf0 j (by omega), mv_an (by omega)]
  refine mx_plF d_BF_init_14 rfl g_BF_14 hb0 (mv_Vo _ _) (Nat.le_of_ble_eq_true rfl) ?_
  refine mx_aload_n d_BF_init_17 rfl (by omega) ?_
  refine mx_nw d_BF_init_18 w_BF_7 (n := 8) hM0 (by decide) (by decide) ?_
  refine mx_dup d_BF_init_21 ?_
  refine mx_bipush (8) d_BF_init_22 (by decide +kernel) (by unfold mv_r; omega) ?_
  refine mx_cI1 d_BF_init_24 c_BF_11 (by decide +kernel) (by decide) (by decide) (by omega) (Nat.le_of_ble_eq_true rfl) ?_
  refine bf_Rinit (n := 8) (by omega) (by omega) rfl mv_as (fun M1 hM1 hf1 hPn => ?_)
  have hb1 : M1.2 2 = .inr (ki_BF, mv_l [.inl 0, .inl 0, .inr 3, .inr 0, .inr 0, .inr 0, .inr 0, .inr 0, .inr 0, .inr 0, .inr 0, .inr 0, .inr 0, .inl 0]) := by rw [hf1 2 (by omega), mv_an (by omega)]; exact mv_ps
  have hlo1 : ∀ j, j < 2 → M1.2 j = M.2 j := fun j hj => by rw [hf1 j (by omega), mv_an (by omega), mv_pn (by omega), hlo0 j hj]
  have he1 : ∀ j, 3 ≤ j → j < 8 → M1.2 j = M0.2 j := fun j a b => by rw [hf1 j (by omega), mv_an (by omega), mv_pn (by omega)]
  replace hBx := hBx.cg (M' := M1) (fun j a b => he1 j (by omega) (by omega))
  refine mx_plF d_BF_init_27 rfl g_BF_18 hb1 (mv_Vo _ _) (Nat.le_of_ble_eq_true rfl) ?_
  refine mx_aload_n d_BF_init_30 rfl (by omega) ?_
  refine mx_nw d_BF_init_31 w_BF_21 (n := 13) hM1 (by decide) (by decide) ?_
  refine mx_dup d_BF_init_34 ?_
  refine mx_cN0 d_BF_init_35 c_BF_23 (by decide +kernel) (by decide) (by decide) (by omega) (Nat.le_of_ble_eq_true rfl) ?_
  refine bf_Sinit (by omega) rfl mv_as (fun M2 hM2 hf2 hS1 => ?_)
  have hb2 : M2.2 2 = .inr (ki_BF, mv_l [.inl 0, .inl 0, .inr 3, .inr 8, .inr 0, .inr 0, .inr 0, .inr 0, .inr 0, .inr 0, .inr 0, .inr 0, .inr 0, .inl 0]) := by rw [hf2 2 (by omega), mv_an (by omega)]; exact mv_ps
  have hlo2 : ∀ j, j < 2 → M2.2 j = M.2 j := fun j hj => by rw [hf2 j (by omega), mv_an (by omega), mv_pn (by omega), hlo1 j hj]
  have he2 : ∀ j, 3 ≤ j → j < 13 → M2.2 j = M1.2 j := fun j a b => by rw [hf2 j (by omega), mv_an (by omega), mv_pn (by omega)]
  replace hBx := hBx.cg (M' := M2) (fun j a b => he2 j (by omega) (by omega))
  replace hPn := hPn.cg (M' := M2) (fun j a b => he2 j (by omega) (by omega))
  refine mx_plF d_BF_init_38 rfl g_BF_24 hb2 (mv_Vo _ _) (Nat.le_of_ble_eq_true rfl) ?_
  refine mx_aload_n d_BF_init_41 rfl (by omega) ?_
  refine mx_nw d_BF_init_42 w_BF_21 (n := 15) hM2 (by decide) (by decide) ?_
  refine mx_dup d_BF_init_45 ?_
  refine mx_cN0 d_BF_init_46 c_BF_23 (by decide +kernel) (by decide) (by decide) (by omega) (Nat.le_of_ble_eq_true rfl) ?_
  refine bf_Sinit (by omega) rfl mv_as (fun M3 hM3 hf3 hS2 => ?_)
  have hb3 : M3.2 2 = .inr (ki_BF, mv_l [.inl 0, .inl 0, .inr 3, .inr 8, .inr 13, .inr 0, .inr 0, .inr 0, .inr 0, .inr 0, .inr 0, .inr 0, .inr 0, .inl 0]) := by rw [hf3 2 (by omega), mv_an (by omega)]; exact mv_ps
  have hlo3 : ∀ j, j < 2 → M3.2 j = M.2 j := fun j hj => by rw [hf3 j (by omega), mv_an (by omega), mv_pn (by omega), hlo2 j hj]
  have he3 : ∀ j, 3 ≤ j → j < 15 → M3.2 j = M2.2 j := fun j a b => by rw [hf3 j (by omega), mv_an (by omega), mv_pn (by omega)]
  replace hBx := hBx.cg (M' := M3) (fun j a b => he3 j (by omega) (by omega))
  replace hPn := hPn.cg (M' := M3) (fun j a b => he3 j (by omega) (by omega))
  replace hS1 := hS1.cg (M' := M3) (fun j a b => he3 j (by omega) (by omega))
  refine mx_plF d_BF_init_49 rfl g_BF_28 hb3 (mv_Vo _ _) (Nat.le_of_ble_eq_true rfl) ?_
  refine mx_aload_n d_BF_init_52 rfl (by omega) ?_
  refine mx_nw d_BF_init_53 w_BF_21 (n := 17) hM3 (by decide) (by decide) ?_
  refine mx_dup d_BF_init_56 ?_
  refine mx_cN0 d_BF_init_57 c_BF_23 (by decide +kernel) (by decide) (by decide) (by omega) (Nat.le_of_ble_eq_true rfl) ?_
  refine bf_Sinit (by omega) rfl mv_as (fun M4 hM4 hf4 hS3 => ?_)
  have hb4 : M4.2 2 = .inr (ki_BF, mv_l [.inl 0, .inl 0, .inr 3, .inr 8, .inr 13, .inr 15, .inr 0, .inr 0, .inr 0, .inr 0, .inr 0, .inr 0, .inr 0, .inl 0]) := by rw [hf4 2 (by omega), mv_an (by omega)]; exact mv_ps
  have hlo4 : ∀ j, j < 2 → M4.2 j = M.2 j := fun j hj => by rw [hf4 j (by omega), mv_an (by omega), mv_pn (by omega), hlo3 j hj]
  have he4 : ∀ j, 3 ≤ j → j < 17 → M4.2 j = M3.2 j := fun j a b => by rw [hf4 j (by omega), mv_an (by omega), mv_pn (by omega)]
  replace hBx := hBx.cg (M' := M4) (fun j a b => he4 j (by omega) (by omega))
  replace hPn := hPn.cg (M' := M4) (fun j a b => he4 j (by omega) (by omega))
  replace hS1 := hS1.cg (M' := M4) (fun j a b => he4 j (by omega) (by omega))
  replace hS2 := hS2.cg (M' := M4) (fun j a b => he4 j (by omega) (by omega))
  refine mx_plF d_BF_init_60 rfl g_BF_31 hb4 (mv_Vo _ _) (Nat.le_of_ble_eq_true rfl) ?_
  refine mx_aload_n d_BF_init_63 rfl (by omega) ?_
  refine mx_nw d_BF_init_64 w_BF_34 (n := 19) hM4 (by decide) (by decide) ?_
  refine mx_dup d_BF_init_67 ?_
  refine mx_cN0 d_BF_init_68 c_BF_36 (by decide +kernel) (by decide) (by decide) (by omega) (Nat.le_of_ble_eq_true rfl) ?_
  refine bf_Ginit (by omega) rfl mv_as (fun M5 hM5 hf5 hLn => ?_)
  have hb5 : M5.2 2 = .inr (ki_BF, mv_l [.inl 0, .inl 0, .inr 3, .inr 8, .inr 13, .inr 15, .inr 17, .inr 0, .inr 0, .inr 0, .inr 0, .inr 0, .inr 0, .inl 0]) := by rw [hf5 2 (by omega), mv_an (by omega)]; exact mv_ps
  have hlo5 : ∀ j, j < 2 → M5.2 j = M.2 j := fun j hj => by rw [hf5 j (by omega), mv_an (by omega), mv_pn (by omega), hlo4 j hj]
  have he5 : ∀ j, 3 ≤ j → j < 19 → M5.2 j = M4.2 j := fun j a b => by rw [hf5 j (by omega), mv_an (by omega), mv_pn (by omega)]
  replace hBx := hBx.cg (M' := M5) (fun j a b => he5 j (by omega) (by omega))
  replace hPn := hPn.cg (M' := M5) (fun j a b => he5 j (by omega) (by omega))
  replace hS1 := hS1.cg (M' := M5) (fun j a b => he5 j (by omega) (by omega))
  replace hS2 := hS2.cg (M' := M5) (fun j a b => he5 j (by omega) (by omega))
  replace hS3 := hS3.cg (M' := M5) (fun j a b => he5 j (by omega) (by omega))
  refine mx_plF d_BF_init_71 rfl g_BF_37 hb5 (mv_Vo _ _) (Nat.le_of_ble_eq_true rfl) ?_
  refine mx_aload_n d_BF_init_74 rfl (by omega) ?_
  refine mx_nw d_BF_init_75 w_BF_34 (n := 31) hM5 (by decide) (by decide) ?_
  refine mx_dup d_BF_init_78 ?_
  refine mx_cN0 d_BF_init_79 c_BF_36 (by decide +kernel) (by decide) (by decide) (by omega) (Nat.le_of_ble_eq_true rfl) ?_
  refine bf_Ginit (by omega) rfl mv_as (fun M6 hM6 hf6 hBk => ?_)
  have hb6 : M6.2 2 = .inr (ki_BF, mv_l [.inl 0, .inl 0, .inr 3, .inr 8, .inr 13, .inr 15, .inr 17, .inr 19, .inr 0, .inr 0, .inr 0, .inr 0, .inr 0, .inl 0]) := by rw [hf6 2 (by omega), mv_an (by omega)]; exact mv_ps
  have hlo6 : ∀ j, j < 2 → M6.2 j = M.2 j := fun j hj => by rw [hf6 j (by omega), mv_an (by omega), mv_pn (by omega), hlo5 j hj]
  have he6 : ∀ j, 3 ≤ j → j < 31 → M6.2 j = M5.2 j := fun j a b => by rw [hf6 j (by omega), mv_an (by omega), mv_pn (by omega)]
  replace hBx := hBx.cg (M' := M6) (fun j a b => he6 j (by omega) (by omega))
  replace hPn := hPn.cg (M' := M6) (fun j a b => he6 j (by omega) (by omega))
  replace hS1 := hS1.cg (M' := M6) (fun j a b => he6 j (by omega) (by omega))
  replace hS2 := hS2.cg (M' := M6) (fun j a b => he6 j (by omega) (by omega))
  replace hS3 := hS3.cg (M' := M6) (fun j a b => he6 j (by omega) (by omega))
  replace hLn := hLn.cg (M' := M6) (fun j a b => he6 j (by omega) (by omega))
  refine mx_plF d_BF_init_82 rfl g_BF_41 hb6 (mv_Vo _ _) (Nat.le_of_ble_eq_true rfl) ?_
  refine mx_aload_n d_BF_init_85 rfl (by omega) ?_
  refine mx_bipush (64) d_BF_init_86 (by decide +kernel) (by unfold mv_r; omega) ?_
  refine mx_na d_BF_init_88 w_int (n := 43) (N := 64) hM6 (by omega) (by omega) rfl (by decide) (by decide) ?_
  refine mx_plF d_BF_init_90 rfl g_BF_44 (by rw [mv_an (by omega), mv_ps]) (mv_Va _ _) (Nat.le_of_ble_eq_true rfl) ?_
  refine mx_aload_n d_BF_init_93 rfl (by omega) ?_
  refine mx_bipush (64) d_BF_init_94 (by decide +kernel) (by unfold mv_r; omega) ?_
  refine mx_na d_BF_init_96 w_int (n := 44) (N := 64) rfl (by omega) (by omega) rfl (by decide) (by decide) ?_
  refine mx_plF d_BF_init_98 rfl g_BF_48 (by rw [mv_an (by omega), mv_ps]) (mv_Va _ _) (Nat.le_of_ble_eq_true rfl) ?_
  refine mx_aload_n d_BF_init_101 rfl (by omega) ?_
  refine mx_bipush (64) d_BF_init_102 (by decide +kernel) (by unfold mv_r; omega) ?_
  refine mx_na d_BF_init_104 w_int (n := 45) (N := 64) rfl (by omega) (by omega) rfl (by decide) (by decide) ?_
  refine mx_plF d_BF_init_106 rfl g_BF_51 (by rw [mv_an (by omega), mv_ps]) (mv_Va _ _) (Nat.le_of_ble_eq_true rfl) ?_
  refine mx_aload_n d_BF_init_109 rfl (by omega) ?_
  refine mx_bipush (64) d_BF_init_110 (by decide +kernel) (by unfold mv_r; omega) ?_
  refine mx_na d_BF_init_112 w_int (n := 46) (N := 64) rfl (by omega) (by omega) rfl (by decide) (by decide) ?_
  refine mx_plF d_BF_init_114 rfl g_BF_54 (by rw [mv_an (by omega), mv_ps]) (mv_Va _ _) (Nat.le_of_ble_eq_true rfl) ?_
  refine mx_aload_n d_BF_init_117 rfl (by omega) ?_
  refine mx_iconst (0) d_BF_init_118 (by decide +kernel) (by unfold mv_r; omega) ?_
  refine mx_pl d_BF_init_119 g_BF_57 (by rw [mv_ps]) (mv_Vz (by omega)) (Nat.le_of_ble_eq_true rfl) ?_
  refine mx_aload_n d_BF_init_122 rfl (by omega) ?_
  refine mx_iload_n d_BF_init_123 rfl ?_
  refine mx_cS1 d_BF_init_124 c_BF_61 (by decide) (Nat.le_of_ble_eq_true rfl) ?_
  refine bf_nearestSide ?_
  refine mx_plF d_BF_init_127 rfl g_BF_65 (by rw [mv_ps]) (mv_Vi _) (Nat.le_of_ble_eq_true rfl) ?_
  refine mx_aload_n d_BF_init_130 rfl (by omega) ?_
  refine mx_iload_n d_BF_init_131 rfl ?_
  refine mx_cS1 d_BF_init_132 c_BF_61 (by decide) (Nat.le_of_ble_eq_true rfl) ?_
  refine bf_nearestSide ?_
  refine mx_plF d_BF_init_135 rfl g_BF_69 (by rw [mv_ps]) (mv_Vi _) (Nat.le_of_ble_eq_true rfl) ?_
  refine mx_return d_BF_init_138 rfl ?_
  exact k _ rfl (fun j hj => by rw [mv_pn (by omega), mv_pn (by omega), mv_pn (by omega), mv_pn (by omega), mv_an (by omega), mv_pn (by omega), mv_an (by omega), mv_pn (by omega), mv_an (by omega), mv_pn (by omega), mv_an (by omega), mv_pn (by omega), hlo6 j hj]) mv_ps (hBx.cg (fun j a b => by rw [mv_pn (by omega), mv_pn (by omega), mv_pn (by omega), mv_pn (by omega), mv_an (by omega), mv_pn (by omega), mv_an (by omega), mv_pn (by omega), mv_an (by omega), mv_pn (by omega), mv_an (by omega), mv_pn (by omega)])) (hPn.cg (fun j a b => by rw [mv_pn (by omega), mv_pn (by omega), mv_pn (by omega), mv_pn (by omega), mv_an (by omega), mv_pn (by omega), mv_an (by omega), mv_pn (by omega), mv_an (by omega), mv_pn (by omega), mv_an (by omega), mv_pn (by omega)])) (hS1.cg (fun j a b => by rw [mv_pn (by omega), mv_pn (by omega), mv_pn (by omega), mv_pn (by omega), mv_an (by omega), mv_pn (by omega), mv_an (by omega), mv_pn (by omega), mv_an (by omega), mv_pn (by omega), mv_an (by omega), mv_pn (by omega)])) (hS2.cg (fun j a b => by rw [mv_pn (by omega), mv_pn (by omega), mv_pn (by omega), mv_pn (by omega), mv_an (by omega), mv_pn (by omega), mv_an (by omega), mv_pn (by omega), mv_an (by omega), mv_pn (by omega), mv_an (by omega), mv_pn (by omega)])) (hS3.cg (fun j a b => by rw [mv_pn (by omega), mv_pn (by omega), mv_pn (by omega), mv_pn (by omega), mv_an (by omega), mv_pn (by omega), mv_an (by omega), mv_pn (by omega), mv_an (by omega), mv_pn (by omega), mv_an (by omega), mv_pn (by omega)])) (hLn.cg (fun j a b => by rw [mv_pn (by omega), mv_pn (by omega), mv_pn (by omega), mv_pn (by omega), mv_an (by omega), mv_pn (by omega), mv_an (by omega), mv_pn (by omega), mv_an (by omega), mv_pn (by omega), mv_an (by omega), mv_pn (by omega)])) (hBk.cg (fun j a b => by rw [mv_pn (by omega), mv_pn (by omega), mv_pn (by omega), mv_pn (by omega), mv_an (by omega), mv_pn (by omega), mv_an (by omega), mv_pn (by omega), mv_an (by omega), mv_pn (by omega), mv_an (by omega), mv_pn (by omega)])) ⟨by rw [mv_pn (by omega), mv_pn (by omega), mv_pn (by omega), mv_pn (by omega), mv_an (by omega), mv_pn (by omega), mv_an (by omega), mv_pn (by omega), mv_an (by omega), mv_pn (by omega), mv_as], by rw [mv_pn (by omega), mv_pn (by omega), mv_pn (by omega), mv_pn (by omega), mv_an (by omega), mv_pn (by omega), mv_an (by omega), mv_pn (by omega), mv_as], by rw [mv_pn (by omega), mv_pn (by omega), mv_pn (by omega), mv_pn (by omega), mv_an (by omega), mv_pn (by omega), mv_as]⟩ (by rw [mv_pn (by omega), mv_pn (by omega), mv_pn (by omega), mv_pn (by omega), mv_as])
