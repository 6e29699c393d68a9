/-! the class: sets -/
def bf_S (M : mv_M) (o : Nat) (mem cnt : Int) (f : Int → Int) : Prop := M.2 o = .inr (ki_S, mv_l [.inr (o + 1), .inl mem, .inl cnt]) ∧ M.2 (o + 1) = .inl (64, f)
theorem bf_S.fr {M M' : mv_M} {o : Nat} {mem cnt : Int} {f : Int → Int} (h : bf_S M o mem cnt f) {a b : Nat} (hf : bf_fr M M' a b) (hd : o + 2 ≤ a ∨ b ≤ o) : bf_S M' o mem cnt f := by
  unfold bf_S
  rw [hf o (by omega), hf (o + 1) (by omega)]
  exact h
theorem bf_fr.refl {M : mv_M} {a b : Nat} : bf_fr M M a b := fun _ _ => rfl
theorem bf_fr.trans {M M' M2 : mv_M} {a b : Nat} (h : bf_fr M M' a b) (h2 : bf_fr M' M2 a b) : bf_fr M M2 a b := fun j hj => (h2 j hj).trans (h j hj)
theorem bf_fr.up {M M' : mv_M} {a b a' b' : Nat} (h : bf_fr M M' a b) (h1 : a' ≤ a) (h2 : b ≤ b') : bf_fr M M' a' b' := fun j hj => h j (by omega)
theorem bf_fr.put {M M' : mv_M} {a b k : Nat} {c : mv_C} (h : bf_fr M M' a b) (h1 : a ≤ k) (h2 : k < b) : bf_fr M (mv_p M' k c) a b := fun j hj => by rw [mv_pn (by omega)]; exact h j hj
theorem bf_scatter_l {Q : List mv_V → mv_M → Prop} {M0 : mv_M} {o : Nat} {n : Int} (ho : 2 ≤ o) (hn : n ≤ 64) (k : ∀ M' f', bf_fr M0 M' o (o + 2) → bf_S M' o n n f' → (∀ j, 0 ≤ j → j < n → f' j = j) → Q [] M') : ∀ (d : Nat) (i : Int) (M : mv_M) (f : Int → Int), n - i < d → 0 ≤ i → i ≤ n → bf_fr M0 M o (o + 2) → bf_S M o n n f → (∀ j, 0 ≤ j → j < i → f j = j) → mv_W md_S_scatter 27 [.inr o, .inl n, .inl i] [] M (0, 0) Q := by
  intro d
  induction d with
  | zero =>
    intro i M f hd h0 hi hfr hS hf
    exfalso; omega
  | succ d ih =>
    intro i M f hd h0 hi hfr hS hf
    refine mx_iload_n d_S_scatter_27 rfl ?_
    refine mx_aload_n d_S_scatter_28 rfl (by omega) ?_
    refine mx_gl d_S_scatter_29 f_S_15 hS.1 rfl ?_
    refine mx_icmp_ge 48 d_S_scatter_32 (by decide) (fun c32 => ?_) (fun c32 => ?_)
    · skip
      refine mx_return d_S_scatter_48 rfl ?_
      exact k M f hfr hS (fun j g0 g1 => hf j g0 (by omega))
    · skip
      refine mx_aload_n d_S_scatter_35 rfl (by omega) ?_
      refine mx_gl d_S_scatter_36 f_S_9 hS.1 rfl ?_
      refine mx_iload_n d_S_scatter_39 rfl ?_
      refine mx_iload_n d_S_scatter_40 rfl ?_
      refine mx_iast d_S_scatter_41 hS.2 (by omega) (by omega) (by omega) ?_
      refine mx_iinc d_S_scatter_42 rfl (by unfold mv_r; omega) ?_
      refine mx_goto 27 d_S_scatter_45 (by decide) ?_
      exact ih (i + 1) _ _ (by omega) (by omega) (by omega) (hfr.put (by omega) (by omega)) ⟨by rw [mv_pn (by omega)]; exact hS.1, mv_ps⟩ (fun j g0 g1 => by
        by_cases hj : j = i
        · rw [hj, mv_ss]
        · rw [mv_sn hj]; exact hf j g0 (by omega))
theorem bf_scatter {Q : List mv_V → mv_M → Prop} {M : mv_M} {o : Nat} {mem cnt n : Int} {f : Int → Int} (ho : 2 ≤ o) (hS : bf_S M o mem cnt f) (hn0 : 0 ≤ n) (hn : n ≤ 64) (k : ∀ M' f', bf_fr M M' o (o + 2) → bf_S M' o n n f' → (∀ j, 0 ≤ j → j < n → f' j = j) → Q [] M')  : mv_J md_S_scatter [.inr o, .inl n] M Q := by
  refine mv_enter (by decide +kernel) (Nat.le_of_ble_eq_true rfl) ?_
  show mv_W md_S_scatter 0 [.inr o, .inl n, .inr 0] [] M (0, 0) Q
  refine mx_aload_n d_S_scatter_0 rfl (by omega) ?_
  refine mx_iconst (0) d_S_scatter_1 (by decide +kernel) (by unfold mv_r; omega) ?_
  refine mx_aload_n d_S_scatter_2 rfl (by omega) ?_
  refine mx_gl d_S_scatter_3 f_S_9 hS.1 rfl ?_
  refine mx_alen d_S_scatter_6 hS.2 ?_
  refine mx_iload_n d_S_scatter_7 rfl ?_
  refine mx_min d_S_scatter_8 c_S_22 (by decide) (Nat.le_of_ble_eq_true rfl) ?_
  refine mx_max d_S_scatter_11 c_S_28 (by decide) (Nat.le_of_ble_eq_true rfl) ?_
  rw [show max (0 : Int) (min ((64 : Nat) : Int) n) = n by omega]
  refine mx_pl d_S_scatter_14 g_S_15 hS.1 (mv_Vi _) (Nat.le_of_ble_eq_true rfl) ?_
  refine mx_aload_n d_S_scatter_17 rfl (by omega) ?_
  refine mx_aload_n d_S_scatter_18 rfl (by omega) ?_
  refine mx_gl d_S_scatter_19 f_S_15 (by rw [mv_ps]) rfl ?_
  refine mx_pl d_S_scatter_22 g_S_19 (by rw [mv_ps]) (mv_Vi _) (Nat.le_of_ble_eq_true rfl) ?_
  refine mx_iconst (0) d_S_scatter_25 (by decide +kernel) (by unfold mv_r; omega) ?_
  refine mx_istore_n d_S_scatter_26 (by decide) ?_
  exact bf_scatter_l ho hn k (n.toNat + 1) 0 _ f (by omega) (by omega) (by omega) ((bf_fr.refl.put (by omega) (by omega)).put (by omega) (by omega)) ⟨mv_ps, by rw [mv_pn (by omega), mv_pn (by omega)]; exact hS.2⟩ (fun j g0 g1 => by omega)
theorem bf_join_l {Q : List mv_V → mv_M → Prop} {M0 : mv_M} {o : Nat} {n cnt x y kp gv : Int} {f0 : Int → Int} (ho : 2 ≤ o) (hn : n ≤ 64) (hc0 : 0 ≤ cnt) (hc1 : cnt ≤ 64) (hkp : mv_r kp) (k : ∀ M' f', bf_fr M0 M' o (o + 2) → bf_S M' o n (cnt - 1) f' → (∀ t, 0 ≤ t → t < n → f' t = if f0 t = gv then kp else f0 t) → Q [] M') : ∀ (d : Nat) (i : Int) (M : mv_M) (f : Int → Int), n - i < d → 0 ≤ i → i ≤ n → bf_fr M0 M o (o + 2) → bf_S M o n cnt f → (∀ t, 0 ≤ t → t < i → f t = if f0 t = gv then kp else f0 t) → (∀ t, i ≤ t → t < n → f t = f0 t) → mv_W md_S_join 43 [.inr o, .inl x, .inl y, .inl kp, .inl gv, .inl i] [] M (0, 0) Q := by
  intro d
  induction d with
  | zero =>
    intro i M f hd h0 hi hfr hS hf hg
    exfalso; omega
  | succ d ih =>
    intro i M f hd h0 hi hfr hS hf hg
    refine mx_iload d_S_join_43 rfl ?_
    refine mx_aload_n d_S_join_45 rfl (by omega) ?_
    refine mx_gl d_S_join_46 f_S_15 hS.1 rfl ?_
    refine mx_icmp_ge 78 d_S_join_49 (by decide) (fun c49 => ?_) (fun c49 => ?_)
    · skip
      refine mx_aload_n d_S_join_78 rfl (by omega) ?_
      refine mx_dup d_S_join_79 ?_
      refine mx_gl d_S_join_80 f_S_19 hS.1 rfl ?_
      refine mx_iconst (1) d_S_join_83 (by decide +kernel) (by unfold mv_r; omega) ?_
      refine mx_isub d_S_join_84 (by unfold mv_r; omega) ?_
      refine mx_pl d_S_join_85 g_S_19 hS.1 (mv_Vi _) (Nat.le_of_ble_eq_true rfl) ?_
      refine mx_return d_S_join_88 rfl ?_
      exact k _ f (hfr.put (by omega) (by omega)) ⟨mv_ps, by rw [mv_pn (by omega)]; exact hS.2⟩ (fun t g0 g1 => hf t g0 (by omega))
    · skip
      refine mx_aload_n d_S_join_52 rfl (by omega) ?_
      refine mx_gl d_S_join_53 f_S_9 hS.1 rfl ?_
      refine mx_iload d_S_join_56 rfl ?_
      refine mx_iald d_S_join_58 hS.2 (by omega) (by omega) ?_
      refine mx_iload d_S_join_59 rfl ?_
      refine mx_icmp_ne 72 d_S_join_61 (by decide) (fun c61 => ?_) (fun c61 => ?_)
      · skip
        have hstay : f i = if f0 i = gv then kp else f0 i := by rw [← hg i (by omega) (by omega), if_neg c61]
        refine mx_iinc d_S_join_72 rfl (by unfold mv_r; omega) ?_
        refine mx_goto 43 d_S_join_75 (by decide) ?_
        exact ih (i + 1) M f (by omega) (by omega) (by omega) hfr hS (fun t g0 g1 => by
          by_cases ht : t = i
          · rw [ht]; exact hstay
          · exact hf t g0 (by omega)) (fun t g0 g1 => hg t (by omega) g1)
      · skip
        have hchg : kp = if f0 i = gv then kp else f0 i := by rw [← hg i (by omega) (by omega), if_pos (by omega)]
        refine mx_aload_n d_S_join_64 rfl (by omega) ?_
        refine mx_gl d_S_join_65 f_S_9 hS.1 rfl ?_
        refine mx_iload d_S_join_68 rfl ?_
        refine mx_iload_n d_S_join_70 rfl ?_
        refine mx_iast d_S_join_71 hS.2 (by omega) (by omega) (by omega) ?_
        refine mx_iinc d_S_join_72 rfl (by unfold mv_r; omega) ?_
        refine mx_goto 43 d_S_join_75 (by decide) ?_
        exact ih (i + 1) _ (mv_s f i kp) (by omega) (by omega) (by omega) (hfr.put (by omega) (by omega)) ⟨by rw [mv_pn (by omega)]; exact hS.1, mv_ps⟩ (fun t g0 g1 => by
          by_cases ht : t = i
          · rw [ht, mv_ss]; exact hchg
          · rw [mv_sn ht]; exact hf t g0 (by omega)) (fun t g0 g1 => by rw [mv_sn (by omega)]; exact hg t (by omega) g1)
theorem bf_join {M : mv_M} {o : Nat} {n cnt x y : Int} {f : Int → Int} (ho : 2 ≤ o) (hS : bf_S M o n cnt f) (hn : n ≤ 64) (hc0 : 0 ≤ cnt) (hc1 : cnt ≤ 64) (x0 : 0 ≤ x) (x1 : x < n) (y0 : 0 ≤ y) (y1 : y < n) (hfx : mv_r (f x)) (hfy : mv_r (f y)) {Q : List mv_V → mv_M → Prop} (k1 : f x = f y → Q [] M) (k2 : ∀ M' f', f x ≠ f y → bf_fr M M' o (o + 2) → bf_S M' o n (cnt - 1) f' → (∀ t, 0 ≤ t → t < n → f' t = pu_join f x y t) → Q [] M')  : mv_J md_S_join [.inr o, .inl x, .inl y] M Q := by
  refine mv_enter (by decide +kernel) (Nat.le_of_ble_eq_true rfl) ?_
  show mv_W md_S_join 0 [.inr o, .inl x, .inl y, .inr 0, .inr 0, .inr 0] [] M (0, 0) Q
  refine mx_aload_n d_S_join_0 rfl (by omega) ?_
  refine mx_gl d_S_join_1 f_S_9 hS.1 rfl ?_
  refine mx_iload_n d_S_join_4 rfl ?_
  refine mx_iald d_S_join_5 hS.2 (by omega) (by omega) ?_
  refine mx_aload_n d_S_join_6 rfl (by omega) ?_
  refine mx_gl d_S_join_7 f_S_9 hS.1 rfl ?_
  refine mx_iload_n d_S_join_10 rfl ?_
  refine mx_iald d_S_join_11 hS.2 (by omega) (by omega) ?_
  refine mx_min d_S_join_12 c_S_22 (by decide) (Nat.le_of_ble_eq_true rfl) ?_
  refine mx_istore_n d_S_join_15 (by decide) ?_
  refine mx_aload_n d_S_join_16 rfl (by omega) ?_
  refine mx_gl d_S_join_17 f_S_9 hS.1 rfl ?_
  refine mx_iload_n d_S_join_20 rfl ?_
  refine mx_iald d_S_join_21 hS.2 (by omega) (by omega) ?_
  refine mx_aload_n d_S_join_22 rfl (by omega) ?_
  refine mx_gl d_S_join_23 f_S_9 hS.1 rfl ?_
  refine mx_iload_n d_S_join_26 rfl ?_
  refine mx_iald d_S_join_27 hS.2 (by omega) (by omega) ?_
  refine mx_max d_S_join_28 c_S_28 (by decide) (Nat.le_of_ble_eq_true rfl) ?_
  refine mx_istore d_S_join_31 (by decide) ?_
  refine mx_iload_n d_S_join_33 rfl ?_
  refine mx_iload d_S_join_34 rfl ?_
  refine mx_icmp_ne 40 d_S_join_36 (by decide) (fun c36 => ?_) (fun c36 => ?_)
  · skip
    refine mx_iconst (0) d_S_join_40 (by decide +kernel) (by unfold mv_r; omega) ?_
    refine mx_istore d_S_join_41 (by decide) ?_
    exact bf_join_l (f0 := f) (gv := max (f x) (f y)) (kp := min (f x) (f y)) ho hn hc0 hc1 (by unfold mv_r at *; omega) (fun M' f' a b c => k2 M' f' (by omega) a b c) (n.toNat + 1) 0 M f (by omega) (by omega) (by omega) bf_fr.refl hS (fun t g0 g1 => by omega) (fun t _ _ => rfl)
  · skip
    refine mx_return d_S_join_39 rfl ?_
    exact k1 (by omega)
