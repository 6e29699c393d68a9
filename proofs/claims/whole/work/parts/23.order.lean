/-! the class: groups put in order -/
theorem bf_cb_tr {t : Int} {L U Z : Int → Int} : ∀ a b c, bf_cb t L U Z a b → bf_cb t L U Z b c → bf_cb t L U Z a c := by intro a b c; unfold bf_cb; omega
theorem bf_cb_to {t : Int} {L U Z : Int → Int} : ∀ a b, a ≠ b → ¬ bf_cb t L U Z a b → bf_cb t L U Z b a := by intro a b; unfold bf_cb; omega
theorem bf_cb_ir {t : Int} {L U Z : Int → Int} : ∀ a, ¬ bf_cb t L U Z a a := by intro a; unfold bf_cb; omega
theorem bf_put_in {Q : List mv_V → mv_M → Prop} {M0 : mv_M} {o : Nat} {cnt t : Int} {L U R D P LP Z GO PL : Int → Int} (ho : 2 ≤ o) (hcn : cnt ≤ 64) (hb : bf_ok cnt L U R D) (ht : t = 0 ∨ t = 1) {g : Int} {O0 : Int → Int} (g0 : 0 ≤ g) (g1 : g < cnt) (hO : pu_ord g O0 (bf_cb t L U Z)) (k : ∀ M' O fr, bf_fr M0 M' o (o + 12) → bf_G M' o cnt L U R D P LP Z GO O PL → 0 ≤ fr → fr ≤ g → pu_ord (g + 1) (mv_s O fr g) (bf_cb t L U Z) → mv_W md_G_putInOrder 53 [.inr o, .inl t, .inl g, .inl fr] [] M' (0, 0) Q) : ∀ (d : Nat) (fr : Int) (M : mv_M) (O : Int → Int), fr < d → 0 ≤ fr → fr ≤ g → bf_fr M0 M o (o + 12) → bf_G M o cnt L U R D P LP Z GO O PL → (∀ p, 0 ≤ p → p < fr → O p = O0 p) → (∀ p, fr ≤ p → p < g → O (p + 1) = O0 p) → (∀ p, fr ≤ p → p < g → bf_cb t L U Z g (O0 p)) → mv_W md_G_putInOrder 12 [.inr o, .inl t, .inl g, .inl fr] [] M (0, 0) Q := by
  intro d
  induction d with
  | zero =>
    intro fr M O h1 h2
    exfalso; omega
  | succ d ih =>
    intro fr M O hd f0 f1 hfr hG e1 e2 e3
    refine mx_iload_n d_G_putInOrder_12 rfl ?_
    refine mx_if_le 53 d_G_putInOrder_13 (by decide) (fun c13 => ?_) (fun c13 => ?_)
    · skip
      have HH : fr = 0 ∨ ¬ bf_cb t L U Z g (O0 (fr - 1)) := Or.inl (by omega)
      exact k M O fr hfr hG f0 f1 (pu_ins hO g0 f0 f1 bf_cb_tr bf_cb_to e1 e2 e3 HH)
    · skip
      refine mx_aload_n d_G_putInOrder_16 rfl (by omega) ?_
      refine mx_iload_n d_G_putInOrder_17 rfl ?_
      refine mx_aload_n d_G_putInOrder_18 rfl (by omega) ?_
      refine mx_gl d_G_putInOrder_19 f_G_33 hG.1 rfl ?_
      refine mx_iload_n d_G_putInOrder_22 rfl ?_
      refine mx_iconst (1) d_G_putInOrder_23 (by decide +kernel) (by unfold mv_r; omega) ?_
      refine mx_isub d_G_putInOrder_24 (by unfold mv_r; omega) ?_
      refine mx_iald d_G_putInOrder_25 hG.2.2.2.2.2.2.1 (by omega) (by omega) ?_
      have hof := hO.1 (fr - 1) (by omega) (by omega)
      have eO := e1 (fr - 1) (by omega) (by omega)
      rw [eO]
      refine mx_iload_n d_G_putInOrder_26 rfl ?_
      refine mx_cV3 d_G_putInOrder_27 c_G_83 hG.1 (by decide) (Nat.le_of_ble_eq_true rfl) ?_
      refine bf_comesBefore ho hG hcn hb g0 g1 (by omega) (by omega) ht (fun hcb => ?_) (fun hcb => ?_)
      · skip
        refine mx_z1 53 d_G_putInOrder_30 (by decide) ?_
        refine mx_aload_n d_G_putInOrder_33 rfl (by omega) ?_
        refine mx_gl d_G_putInOrder_34 f_G_33 hG.1 rfl ?_
        refine mx_iload_n d_G_putInOrder_37 rfl ?_
        refine mx_aload_n d_G_putInOrder_38 rfl (by omega) ?_
        refine mx_gl d_G_putInOrder_39 f_G_33 hG.1 rfl ?_
        refine mx_iload_n d_G_putInOrder_42 rfl ?_
        refine mx_iconst (1) d_G_putInOrder_43 (by decide +kernel) (by unfold mv_r; omega) ?_
        refine mx_isub d_G_putInOrder_44 (by unfold mv_r; omega) ?_
        refine mx_iald d_G_putInOrder_45 hG.2.2.2.2.2.2.1 (by omega) (by omega) ?_
        refine mx_iast d_G_putInOrder_46 hG.2.2.2.2.2.2.1 (by omega) (by omega) (by omega) ?_
        refine mx_iinc d_G_putInOrder_47 rfl (by unfold mv_r; omega) ?_
        refine mx_goto 12 d_G_putInOrder_50 (by decide) ?_
        exact ih (fr - 1) _ _ (by omega) (by omega) (by omega) (hfr.put (by omega) (by omega)) hG.pOR (fun p p0 p1 => by rw [mv_sn (by omega)]; exact e1 p p0 (by omega)) (fun p p0 p1 => by
          by_cases hp : p = fr - 1
          · rw [hp, show fr - 1 + 1 = fr by omega, mv_ss, eO]
          · rw [mv_sn (by omega)]; exact e2 p (by omega) p1) (fun p p0 p1 => by
          by_cases hp : p = fr - 1
          · rw [hp]; exact hcb
          · exact e3 p (by omega) p1)
      · skip
        have HH : fr = 0 ∨ ¬ bf_cb t L U Z g (O0 (fr - 1)) := Or.inr hcb
        refine mx_z0 53 d_G_putInOrder_30 (by decide) ?_
        exact k M O fr hfr hG f0 f1 (pu_ins hO g0 f0 f1 bf_cb_tr bf_cb_to e1 e2 e3 HH)
theorem bf_put_plv {Q : List mv_V → mv_M → Prop} {M0 : mv_M} {o : Nat} {cnt t : Int} {L U R D P LP Z GO O : Int → Int} (ho : 2 ≤ o) (hcn : cnt ≤ 64) (hO : pu_ord cnt O (bf_cb t L U Z)) (k : ∀ M' PL', bf_fr M0 M' o (o + 12) → bf_G M' o cnt L U R D P LP Z GO O PL' → pu_ord cnt O (bf_cb t L U Z) → (∀ p, 0 ≤ p → p < cnt → PL' (O p) = p) → Q [] M') (frv : mv_V) : ∀ (d : Nat) (p : Int) (M : mv_M) (PL : Int → Int), cnt - p < d → 0 ≤ p → p ≤ cnt → bf_fr M0 M o (o + 12) → bf_G M o cnt L U R D P LP Z GO O PL → (∀ q, 0 ≤ q → q < p → PL (O q) = q) → mv_W md_G_putInOrder 68 [.inr o, .inl t, .inl p, frv] [] M (0, 0) Q := by
  intro d
  induction d with
  | zero =>
    intro p M PL hd p0 p1 hfr hG hp
    exfalso; omega
  | succ d ih =>
    intro p M PL hd p0 p1 hfr hG hp
    have hinj := pu_inj bf_cb_ir hO
    refine mx_iload_n d_G_putInOrder_68 rfl ?_
    refine mx_aload_n d_G_putInOrder_69 rfl (by omega) ?_
    refine mx_cV0 d_G_putInOrder_70 c_G_79 hG.1 (by decide) (Nat.le_of_ble_eq_true rfl) ?_
    refine bf_size ho hG ?_
    refine mx_icmp_ge 94 d_G_putInOrder_73 (by decide) (fun c73 => ?_) (fun c73 => ?_)
    · skip
      refine mx_return d_G_putInOrder_94 rfl ?_
      exact k M PL hfr hG hO (fun q q0 q1 => hp q q0 (by omega))
    · skip
      have hop := hO.1 p p0 (by omega)
      refine mx_aload_n d_G_putInOrder_76 rfl (by omega) ?_
      refine mx_gl d_G_putInOrder_77 f_G_36 hG.1 rfl ?_
      refine mx_aload_n d_G_putInOrder_80 rfl (by omega) ?_
      refine mx_gl d_G_putInOrder_81 f_G_33 hG.1 rfl ?_
      refine mx_iload_n d_G_putInOrder_84 rfl ?_
      refine mx_iald d_G_putInOrder_85 hG.2.2.2.2.2.2.1 (by omega) (by omega) ?_
      refine mx_iload_n d_G_putInOrder_86 rfl ?_
      refine mx_iast d_G_putInOrder_87 hG.2.2.2.2.2.2.2 (by omega) (by omega) (by omega) ?_
      refine mx_iinc d_G_putInOrder_88 rfl (by unfold mv_r; omega) ?_
      refine mx_goto 68 d_G_putInOrder_91 (by decide) ?_
      exact ih (p + 1) _ _ (by omega) (by omega) (by omega) (hfr.put (by omega) (by omega)) hG.pPL (fun q q0 q1 => by
        by_cases hq : q = p
        · rw [hq, mv_ss]
        · rw [mv_sn (fun e => hq (hinj q p q0 (by omega) p0 (by omega) e))]; exact hp q q0 (by omega))
theorem bf_put_l {Q : List mv_V → mv_M → Prop} {M0 : mv_M} {o : Nat} {cnt t : Int} {L U R D P LP Z GO PL : Int → Int} (ho : 2 ≤ o) (hcn : cnt ≤ 64) (hb : bf_ok cnt L U R D) (ht : t = 0 ∨ t = 1) (k : ∀ M' O PL', bf_fr M0 M' o (o + 12) → bf_G M' o cnt L U R D P LP Z GO O PL' → pu_ord cnt O (bf_cb t L U Z) → (∀ p, 0 ≤ p → p < cnt → PL' (O p) = p) → Q [] M') : ∀ (d : Nat) (g fr : Int) (M : mv_M) (O : Int → Int) (frv : mv_V), cnt - g < d → 0 ≤ g → g ≤ cnt → bf_fr M0 M o (o + 12) → bf_G M o cnt L U R D P LP Z GO O PL → pu_ord g O (bf_cb t L U Z) → mv_W md_G_putInOrder 2 [.inr o, .inl t, .inl g, frv] [] M (0, 0) Q := by
  intro d
  induction d with
  | zero =>
    intro g fr M O frv hd g0 g1 hfr hG hO
    exfalso; omega
  | succ d ih =>
    intro g fr M O frv hd g0 g1 hfr hG hO
    refine mx_iload_n d_G_putInOrder_2 rfl ?_
    refine mx_aload_n d_G_putInOrder_3 rfl (by omega) ?_
    refine mx_cV0 d_G_putInOrder_4 c_G_79 hG.1 (by decide) (Nat.le_of_ble_eq_true rfl) ?_
    refine bf_size ho hG ?_
    refine mx_icmp_ge 66 d_G_putInOrder_7 (by decide) (fun c7 => ?_) (fun c7 => ?_)
    · skip
      refine mx_iconst (0) d_G_putInOrder_66 (by decide +kernel) (by unfold mv_r; omega) ?_
      refine mx_istore_n d_G_putInOrder_67 (by decide) ?_
      obtain rfl : g = cnt := by omega
      exact bf_put_plv (M0 := M0) ho hcn hO (fun M' PL' => k M' O PL') frv (g.toNat + 1) 0 M PL (by omega) (by omega) (by omega) hfr hG (fun q q0 q1 => by omega)
    · skip
      refine mx_iload_n d_G_putInOrder_10 rfl ?_
      refine mx_istore_n d_G_putInOrder_11 (by decide) ?_
      refine bf_put_in (M0 := M0) ho hcn hb ht g0 (by omega) hO ?_ (g.toNat + 1) g M O (by omega) g0 (by omega) hfr hG (fun p _ _ => rfl) (fun p q1 q2 => by omega) (fun p q1 q2 => by omega)
      intro M' O' fr' hfr' hG' f0 f1 hO'
      clear hG hfr
      refine mx_aload_n d_G_putInOrder_53 rfl (by omega) ?_
      refine mx_gl d_G_putInOrder_54 f_G_33 hG'.1 rfl ?_
      refine mx_iload_n d_G_putInOrder_57 rfl ?_
      refine mx_iload_n d_G_putInOrder_58 rfl ?_
      refine mx_iast d_G_putInOrder_59 hG'.2.2.2.2.2.2.1 (by omega) (by omega) (by omega) ?_
      refine mx_iinc d_G_putInOrder_60 rfl (by unfold mv_r; omega) ?_
      refine mx_goto 2 d_G_putInOrder_63 (by decide) ?_
      exact ih (g + 1) 0 _ _ _ (by omega) (by omega) (by omega) (hfr'.put (by omega) (by omega)) hG'.pOR hO'
theorem bf_putInOrder {Q : List mv_V → mv_M → Prop} {M : mv_M} {o : Nat} {cnt : Int} {L U R D P LP Z GO OR PL : Int → Int} (ho : 2 ≤ o) (hG : bf_G M o cnt L U R D P LP Z GO OR PL) (hcn : cnt ≤ 64) (hc0 : 0 ≤ cnt) (hb : bf_ok cnt L U R D) {t : Int} (ht : t = 0 ∨ t = 1) (k : ∀ M' O PL', bf_fr M M' o (o + 12) → bf_G M' o cnt L U R D P LP Z GO O PL' → pu_ord cnt O (bf_cb t L U Z) → (∀ p, 0 ≤ p → p < cnt → PL' (O p) = p) → Q [] M')  : mv_J md_G_putInOrder [.inr o, .inl t] M Q := by
  refine mv_enter (by decide +kernel) (Nat.le_of_ble_eq_true rfl) ?_
  show mv_W md_G_putInOrder 0 [.inr o, .inl t, .inr 0, .inr 0] [] M (0, 0) Q
  refine mx_iconst (0) d_G_putInOrder_0 (by decide +kernel) (by unfold mv_r; omega) ?_
  refine mx_istore_n d_G_putInOrder_1 (by decide) ?_
  exact bf_put_l (M0 := M) ho hcn hb ht k (cnt.toNat + 1) 0 0 M OR (.inr 0) (by omega) (by omega) (by omega) bf_fr.refl hG pu_ord0
