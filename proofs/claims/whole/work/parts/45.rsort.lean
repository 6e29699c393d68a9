/-! the reference: lines sorted -/
def rf_sg (j p : Int) : Int := if p = j then j - 1 else if p = j - 1 then j else p
theorem rf_sg1 {j : Int} : rf_sg j j = j - 1 := if_pos rfl
theorem rf_sg2 {j : Int} : rf_sg j (j - 1) = j := by unfold rf_sg; rw [if_neg (by omega), if_pos rfl]
theorem rf_sg3 {j p : Int} (h1 : p ≠ j) (h2 : p ≠ j - 1) : rf_sg j p = p := by unfold rf_sg; rw [if_neg h1, if_neg h2]
/-- rows j and j - 1 have changed places -/
def rf_sw (L L' E E' : Int → Int) (j : Int) : Prop := (∀ x, 0 ≤ x → x < 4 → L' (4 * j + x) = L (4 * j - 4 + x) ∧ L' (4 * j - 4 + x) = L (4 * j + x)) ∧ (∀ i, (i < 4 * j - 4 ∨ 4 * j + 4 ≤ i) → L' i = L i) ∧ E' = mv_s (mv_s E j (E (j - 1))) (j - 1) (E j)
theorem rf_sw_at {L L' E E' : Int → Int} {j : Int} (h : rf_sw L L' E E' j) (p : Int) : L' (4 * p) = L (4 * rf_sg j p) ∧ L' (4 * p + 1) = L (4 * rf_sg j p + 1) ∧ L' (4 * p + 2) = L (4 * rf_sg j p + 2) ∧ L' (4 * p + 3) = L (4 * rf_sg j p + 3) ∧ E' p = E (rf_sg j p) := by
  obtain ⟨h1, h2, h3⟩ := h
  have a0 := h1 0 (by omega) (by omega)
  have a1 := h1 1 (by omega) (by omega)
  have a2 := h1 2 (by omega) (by omega)
  have a3 := h1 3 (by omega) (by omega)
  simp only [Int.add_zero] at a0
  by_cases p1 : p = j
  · subst p1
    rw [rf_sg1, show 4 * (p - 1) = 4 * p - 4 by omega, h3, mv_sn (by omega), mv_ss]
    exact ⟨a0.1, a1.1, a2.1, a3.1, rfl⟩
  · by_cases p2 : p = j - 1
    · subst p2
      rw [rf_sg2, show 4 * (j - 1) = 4 * j - 4 by omega, h3, mv_ss]
      exact ⟨a0.2, a1.2, a2.2, a3.2, rfl⟩
    · rw [rf_sg3 p1 p2, h3, mv_sn p2, mv_sn p1]
      exact ⟨h2 _ (by omega), h2 _ (by omega), h2 _ (by omega), h2 _ (by omega), rfl⟩
theorem rf_sw_rows {L L' E E' : Int → Int} {j : Int} (h : rf_sw L L' E E' j) (p : Int) : rf_l L' p = rf_l L (rf_sg j p) ∧ rf_u L' p = rf_u L (rf_sg j p) ∧ rf_r L' p = rf_r L (rf_sg j p) ∧ rf_d L' p = rf_d L (rf_sg j p) ∧ E' p = E (rf_sg j p) := by
  obtain ⟨h0, h1, h2, h3, h4⟩ := rf_sw_at h p
  unfold rf_l rf_u rf_r rf_d
  rw [h0, h1, h2, h3]
  exact ⟨rfl, rfl, rfl, rfl, h4⟩
/-- rows with their roots -/
def rf_inv (n bo : Int) (f B L E : Int → Int) : Prop := (∀ p, 0 ≤ p → p < n → 0 ≤ E p ∧ E p < bo ∧ f (E p) = E p ∧ rf_bx bo f B (E p) L p) ∧ (∀ p q, 0 ≤ p → p < n → 0 ≤ q → q < n → E p = E q → p = q) ∧ ∀ r, 0 ≤ r → r < bo → f r = r → ∃ p, 0 ≤ p ∧ p < n ∧ E p = r
theorem rf_sg_in {j p n : Int} (j0 : 0 < j) (j1 : j < n) (p0 : 0 ≤ p) (p1 : p < n) : 0 ≤ rf_sg j p ∧ rf_sg j p < n := by
  unfold rf_sg
  split
  · omega
  · split <;> omega
theorem rf_sg_inv {j p : Int} : rf_sg j (rf_sg j p) = p := by
  by_cases p1 : p = j
  · subst p1; rw [rf_sg1, rf_sg2]
  · by_cases p2 : p = j - 1
    · subst p2; rw [rf_sg2, rf_sg1]
    · rw [rf_sg3 p1 p2, rf_sg3 p1 p2]
theorem rf_inv_sw {n bo : Int} {f B L L' E E' : Int → Int} {j : Int} (h : rf_inv n bo f B L E) (hs : rf_sw L L' E E' j) (j0 : 0 < j) (j1 : j < n) : rf_inv n bo f B L' E' := by
  obtain ⟨h1, h2, h3⟩ := h
  refine ⟨fun p p0 p1 => ?_, fun p q p0 p1 q0 q1 e => ?_, fun r r0 r1 hr => ?_⟩
  · obtain ⟨e1, e2, e3, e4, e5⟩ := rf_sw_rows hs p
    obtain ⟨i0, i1⟩ := rf_sg_in j0 j1 p0 p1
    obtain ⟨g1, g2, g3, g4⟩ := h1 _ i0 i1
    rw [e5]
    refine ⟨g1, g2, g3, ?_⟩
    unfold rf_bx at g4 ⊢
    rw [e1, e2, e3, e4]
    exact g4
  · rw [(rf_sw_rows hs p).2.2.2.2, (rf_sw_rows hs q).2.2.2.2] at e
    obtain ⟨i0, i1⟩ := rf_sg_in j0 j1 p0 p1
    obtain ⟨k0, k1⟩ := rf_sg_in j0 j1 q0 q1
    have := h2 _ _ i0 i1 k0 k1 e
    have e2 := congrArg (rf_sg j) this
    rw [rf_sg_inv, rf_sg_inv] at e2
    exact e2
  · obtain ⟨p, p0, p1, p2⟩ := h3 r r0 r1 hr
    obtain ⟨i0, i1⟩ := rf_sg_in j0 j1 p0 p1
    exact ⟨rf_sg j p, i0, i1, by rw [(rf_sw_rows hs _).2.2.2.2, rf_sg_inv, p2]⟩
abbrev rf_bf (t : Int) (L E : Int → Int) (a b : Int) : Prop := rf_bef t L a b (E a) (E b)
theorem rf_bf_sw {t : Int} {L L' E E' : Int → Int} {j : Int} (hs : rf_sw L L' E E' j) (a b : Int) : rf_bf t L' E' a b ↔ rf_bf t L E (rf_sg j a) (rf_sg j b) := by
  obtain ⟨a1, a2, -, -, a5⟩ := rf_sw_rows hs a
  obtain ⟨b1, b2, -, -, b5⟩ := rf_sw_rows hs b
  unfold rf_bf rf_bef bf_o
  rw [a1, a2, a5, b1, b2, b5]
theorem rf_bf_tr {t : Int} {L E : Int → Int} {a b c : Int} : rf_bf t L E a b → rf_bf t L E b c → rf_bf t L E a c := by unfold rf_bf rf_bef; omega
theorem rf_bf_to {t : Int} {L E : Int → Int} {a b : Int} (h : E a ≠ E b) : ¬ rf_bf t L E a b → rf_bf t L E b a := by unfold rf_bf rf_bef; omega
/-- rows 0 to i are in order, but for row j on its way down -/
def rf_mid (t : Int) (L E : Int → Int) (i j : Int) : Prop := (∀ p q, 0 ≤ p → p < q → q ≤ i → p ≠ j → q ≠ j → rf_bf t L E p q) ∧ ∀ q, j < q → q ≤ i → rf_bf t L E j q
theorem rf_mid_sw {t : Int} {L L' E E' : Int → Int} {i j : Int} (h : rf_mid t L E i j) (hs : rf_sw L L' E E' j) (j0 : 0 < j) (j1 : j ≤ i) (hb : rf_bf t L E j (j - 1)) : rf_mid t L' E' i (j - 1) := by
  obtain ⟨h1, h2⟩ := h
  refine ⟨fun p q p0 pq qi hp hq => ?_, fun q hq qi => ?_⟩
  · rw [rf_bf_sw hs]
    by_cases pj : p = j
    · subst pj
      rw [rf_sg1, rf_sg3 (by omega) (by omega)]
      exact h1 (p - 1) q (by omega) (by omega) qi (by omega) (by omega)
    · rw [rf_sg3 pj hp]
      by_cases qj : q = j
      · subst qj
        rw [rf_sg1]
        exact h1 p (q - 1) p0 (by omega) (by omega) (by omega) (by omega)
      · rw [rf_sg3 qj hq]
        exact h1 p q p0 pq qi pj qj
  · rw [rf_bf_sw hs, rf_sg2]
    by_cases qj : q = j
    · subst qj; rw [rf_sg1]; exact hb
    · rw [rf_sg3 qj (by omega)]; exact h2 q (by omega) qi
def rf_srt (t : Int) (L E : Int → Int) (i : Int) : Prop := ∀ p q, 0 ≤ p → p < q → q < i → rf_bf t L E p q
theorem rf_mid_end {t n bo : Int} {f B L E : Int → Int} {i j : Int} (h : rf_mid t L E i j) (hI : rf_inv n bo f B L E) (j0 : 0 ≤ j) (j1 : j ≤ i) (i1 : i < n) (hj : j = 0 ∨ ¬ rf_bf t L E j (j - 1)) : rf_srt t L E (i + 1) := by
  obtain ⟨h1, h2⟩ := h
  intro p q p0 pq qi
  by_cases pj : p = j
  · subst pj; exact h2 q pq (by omega)
  · by_cases qj : q = j
    · subst qj
      have hl : rf_bf t L E (q - 1) q := by
        rcases hj with hj | hj
        · omega
        · exact rf_bf_to (fun e => by have := hI.2.1 q (q - 1) j0 (by omega) (by omega) (by omega) e; omega) hj
      by_cases pq1 : p = q - 1
      · rw [pq1]; exact hl
      · exact rf_bf_tr (h1 p (q - 1) p0 (by omega) (by omega) pj (by omega)) hl
    · exact h1 p q p0 pq (by omega) pj qj
theorem rf_so_s {Q : List mv_V → mv_M → Prop} {M0 : mv_M} {co wi ta bo pa wy lc fo tu bl kl se ow : Int} (hO0 : rf_O M0 co wi ta bo pa wy lc fo tu bl kl se ow) (hwy : wy = 0 ∨ wy = 1) (hlc : lc ≤ 64) {i j : Int} (j0 : 0 < j) (j1 : j < lc) {L0 E : Int → Int} {v4 : mv_V} (k : ∀ M' L sv v4, bf_fr M0 M' 51 53 → M'.2 51 = .inl (256, L) → M'.2 52 = .inl (64, E) → (∀ x, 0 ≤ x → x < 4 → L (4 * j + x) = L0 (4 * j - 4 + x) ∧ L (4 * j - 4 + x) = L0 (4 * j + x)) → (∀ q, (q < 4 * j - 4 ∨ 4 * j + 4 ≤ q) → L q = L0 q) → mv_W md_RM_sortLines 108 [.inr 47, .inl i, .inl j, sv, v4] [] M' (0, 0) Q) : ∀ (d : Nat) (s : Int) (M : mv_M) (L : Int → Int) (v4 : mv_V), 4 - s < d → 0 ≤ s → s ≤ 4 → bf_fr M0 M 51 53 → M.2 51 = .inl (256, L) → M.2 52 = .inl (64, E) → (∀ x, 0 ≤ x → x < s → L (4 * j + x) = L0 (4 * j - 4 + x) ∧ L (4 * j - 4 + x) = L0 (4 * j + x)) → (∀ q, (q < 4 * j - 4 ∨ 4 * j + 4 ≤ q ∨ (4 * j - 4 + s ≤ q ∧ q < 4 * j) ∨ 4 * j + s ≤ q) → L q = L0 q) → mv_W md_RM_sortLines 49 [.inr 47, .inl i, .inl j, .inl s, v4] [] M (0, 0) Q := by
  intro d
  induction d with
  | zero =>
    intro s M L v4 hd s0 s1 hfr hLin hLle hI1 hI2
    exfalso; omega
  | succ d ih =>
    intro s M L v4 hd s0 s1 hfr hLin hLle hI1 hI2
    have hO : rf_O M co wi ta bo pa wy lc fo tu bl kl se ow := by unfold rf_O; rw [hfr 47 (by omega)]; exact hO0
    refine mx_iload_n d_RM_sortLines_49 rfl ?_
    refine mx_iconst (4) d_RM_sortLines_50 (by decide +kernel) (by unfold mv_r; omega) ?_
    refine mx_icmp_ge 108 d_RM_sortLines_51 (by decide) (fun c51 => ?_) (fun c51 => ?_)
    · skip
      exact k M L _ v4 hfr hLin hLle (fun x x0 x1 => hI1 x x0 (by omega)) (fun q hq => hI2 q (by omega))
    · skip
      refine mx_aload_n d_RM_sortLines_54 rfl (by omega) ?_
      refine mx_gl d_RM_sortLines_55 f_RM_19 hO rfl ?_
      refine mx_iconst (4) d_RM_sortLines_58 (by decide +kernel) (by unfold mv_r; omega) ?_
      refine mx_iload_n d_RM_sortLines_59 rfl ?_
      refine mx_imul d_RM_sortLines_60 (by unfold mv_r; omega) ?_
      refine mx_iload_n d_RM_sortLines_61 rfl ?_
      refine mx_iadd d_RM_sortLines_62 (by unfold mv_r; omega) ?_
      refine mx_iald d_RM_sortLines_63 hLin (by omega) (by omega) ?_
      refine mx_istore d_RM_sortLines_64 (by decide) ?_
      refine mx_aload_n d_RM_sortLines_66 rfl (by omega) ?_
      refine mx_gl d_RM_sortLines_67 f_RM_19 hO rfl ?_
      refine mx_iconst (4) d_RM_sortLines_70 (by decide +kernel) (by unfold mv_r; omega) ?_
      refine mx_iload_n d_RM_sortLines_71 rfl ?_
      refine mx_imul d_RM_sortLines_72 (by unfold mv_r; omega) ?_
      refine mx_iload_n d_RM_sortLines_73 rfl ?_
      refine mx_iadd d_RM_sortLines_74 (by unfold mv_r; omega) ?_
      refine mx_aload_n d_RM_sortLines_75 rfl (by omega) ?_
      refine mx_gl d_RM_sortLines_76 f_RM_19 hO rfl ?_
      refine mx_iconst (4) d_RM_sortLines_79 (by decide +kernel) (by unfold mv_r; omega) ?_
      refine mx_iload_n d_RM_sortLines_80 rfl ?_
      refine mx_imul d_RM_sortLines_81 (by unfold mv_r; omega) ?_
      refine mx_iconst (4) d_RM_sortLines_82 (by decide +kernel) (by unfold mv_r; omega) ?_
      refine mx_isub d_RM_sortLines_83 (by unfold mv_r; omega) ?_
      refine mx_iload_n d_RM_sortLines_84 rfl ?_
      refine mx_iadd d_RM_sortLines_85 (by unfold mv_r; omega) ?_
      refine mx_iald d_RM_sortLines_86 hLin (by omega) (by omega) ?_
      refine mx_iast d_RM_sortLines_87 hLin (by omega) (by omega) (by omega) ?_
      refine mx_aload_n d_RM_sortLines_88 rfl (by omega) ?_
      refine mx_gl d_RM_sortLines_89 f_RM_19 (by rw [mv_pn (by omega)]; exact hO) rfl ?_
      refine mx_iconst (4) d_RM_sortLines_92 (by decide +kernel) (by unfold mv_r; omega) ?_
      refine mx_iload_n d_RM_sortLines_93 rfl ?_
      refine mx_imul d_RM_sortLines_94 (by unfold mv_r; omega) ?_
      refine mx_iconst (4) d_RM_sortLines_95 (by decide +kernel) (by unfold mv_r; omega) ?_
      refine mx_isub d_RM_sortLines_96 (by unfold mv_r; omega) ?_
      refine mx_iload_n d_RM_sortLines_97 rfl ?_
      refine mx_iadd d_RM_sortLines_98 (by unfold mv_r; omega) ?_
      refine mx_iload d_RM_sortLines_99 rfl ?_
      refine mx_iast d_RM_sortLines_101 (by rw [mv_ps]) (by omega) (by omega) (by omega) ?_
      refine mx_iinc d_RM_sortLines_102 rfl (by unfold mv_r; omega) ?_
      refine mx_goto 49 d_RM_sortLines_105 (by decide) ?_
      refine ih (s + 1) _ _ _ (by omega) (by omega) (by omega) ((hfr.put (by omega) (by omega)).put (by omega) (by omega)) mv_ps (by rw [mv_pn (by omega), mv_pn (by omega)]; exact hLle) (fun x x0 x1 => ?_) (fun q hq => ?_)
      · by_cases hx : x = s
        · subst hx
          rw [mv_sn (by omega), mv_ss, mv_ss, hI2 _ (by omega), hI2 _ (by omega)]
          exact ⟨rfl, rfl⟩
        · rw [mv_sn (by omega), mv_sn (by omega), mv_sn (by omega), mv_sn (by omega)]
          exact hI1 x x0 (by omega)
      · rw [mv_sn (by omega), mv_sn (by omega)]
        exact hI2 q (by omega)
theorem rf_so_j {Q : List mv_V → mv_M → Prop} {M0 : mv_M} {co wi ta bo pa wy lc fo tu bl kl se ow : Int} (hO0 : rf_O M0 co wi ta bo pa wy lc fo tu bl kl se ow) (hwy : wy = 0 ∨ wy = 1) (hlc : lc ≤ 64) {f B : Int → Int} {i : Int} (i0 : 0 < i) (i1 : i < lc) (k : ∀ M' L E jv v3 v4, bf_fr M0 M' 51 53 → M'.2 51 = .inl (256, L) → M'.2 52 = .inl (64, E) → rf_inv lc bo f B L E → rf_srt wy L E (i + 1) → mv_W md_RM_sortLines 144 [.inr 47, .inl i, jv, v3, v4] [] M' (0, 0) Q) : ∀ (d : Nat) (j : Int) (M : mv_M) (L E : Int → Int) (v3 v4 : mv_V), j < d → 0 ≤ j → j ≤ i → bf_fr M0 M 51 53 → M.2 51 = .inl (256, L) → M.2 52 = .inl (64, E) → rf_inv lc bo f B L E → rf_mid wy L E i j → mv_W md_RM_sortLines 12 [.inr 47, .inl i, .inl j, v3, v4] [] M (0, 0) Q := by
  intro d
  induction d with
  | zero =>
    intro j M L E v3 v4 hd j0 j1 hfr hLin hLle hI hm
    exfalso; omega
  | succ d ih =>
    intro j M L E v3 v4 hd j0 j1 hfr hLin hLle hI hm
    have hO : rf_O M co wi ta bo pa wy lc fo tu bl kl se ow := by unfold rf_O; rw [hfr 47 (by omega)]; exact hO0
    refine mx_iload_n d_RM_sortLines_12 rfl ?_
    refine mx_if_le 144 d_RM_sortLines_13 (by decide) (fun c13 => ?_) (fun c13 => ?_)
    · skip
      have HJ : j = 0 ∨ ¬ rf_bf wy L E j (j - 1) := Or.inl (by omega)
      exact k M L E _ v3 v4 hfr hLin hLle hI (rf_mid_end hm hI j0 j1 i1 HJ)
    · skip
      refine mx_aload_n d_RM_sortLines_16 rfl (by omega) ?_
      refine mx_bipush (64) d_RM_sortLines_17 (by decide +kernel) (by unfold mv_r; omega) ?_
      refine mx_iload_n d_RM_sortLines_19 rfl ?_
      refine mx_iadd d_RM_sortLines_20 (by unfold mv_r; omega) ?_
      refine mx_bipush (64) d_RM_sortLines_21 (by decide +kernel) (by unfold mv_r; omega) ?_
      refine mx_iload_n d_RM_sortLines_23 rfl ?_
      refine mx_iadd d_RM_sortLines_24 (by unfold mv_r; omega) ?_
      refine mx_iconst (1) d_RM_sortLines_25 (by decide +kernel) (by unfold mv_r; omega) ?_
      refine mx_isub d_RM_sortLines_26 (by unfold mv_r; omega) ?_
      rw [show 64 + j - 1 = 64 + (j - 1) by omega]
      refine mx_aload_n d_RM_sortLines_27 rfl (by omega) ?_
      refine mx_gl d_RM_sortLines_28 f_RM_22 hO rfl ?_
      refine mx_iload_n d_RM_sortLines_31 rfl ?_
      refine mx_iald d_RM_sortLines_32 hLle (by omega) (by omega) ?_
      refine mx_aload_n d_RM_sortLines_33 rfl (by omega) ?_
      refine mx_gl d_RM_sortLines_34 f_RM_22 hO rfl ?_
      refine mx_iload_n d_RM_sortLines_37 rfl ?_
      refine mx_iconst (1) d_RM_sortLines_38 (by decide +kernel) (by unfold mv_r; omega) ?_
      refine mx_isub d_RM_sortLines_39 (by unfold mv_r; omega) ?_
      refine mx_iald d_RM_sortLines_40 hLle (by omega) (by omega) ?_
      refine mx_cV4 d_RM_sortLines_41 c_RM_120 hO (by decide) (Nat.le_of_ble_eq_true rfl) ?_
      refine rf_isBefore hO hwy hLin j0 (by omega) (by omega) (by omega) (fun hb => ?_) (fun hb => ?_)
      · skip
        refine mx_z1 144 d_RM_sortLines_44 (by decide) ?_
        refine mx_iconst (0) d_RM_sortLines_47 (by decide +kernel) (by unfold mv_r; omega) ?_
        refine mx_istore_n d_RM_sortLines_48 (by decide) ?_
        refine rf_so_s hO0 hwy hlc (by omega) (by omega) (L0 := L) (E := E) (v4 := v4) ?_ 5 0 M L v4 (by omega) (by omega) (by omega) hfr hLin hLle (fun x _ _ => by omega) (fun q _ => rfl)
        intro M' L' sv v4' hfr' hLin' hLle' hx' ho'
        have hO' : rf_O M' co wi ta bo pa wy lc fo tu bl kl se ow := by unfold rf_O; rw [hfr' 47 (by omega)]; exact hO0
        refine mx_aload_n d_RM_sortLines_108 rfl (by omega) ?_
        refine mx_gl d_RM_sortLines_109 f_RM_22 hO' rfl ?_
        refine mx_iload_n d_RM_sortLines_112 rfl ?_
        refine mx_iald d_RM_sortLines_113 hLle' (by omega) (by omega) ?_
        refine mx_istore_n d_RM_sortLines_114 (by decide) ?_
        refine mx_aload_n d_RM_sortLines_115 rfl (by omega) ?_
        refine mx_gl d_RM_sortLines_116 f_RM_22 hO' rfl ?_
        refine mx_iload_n d_RM_sortLines_119 rfl ?_
        refine mx_aload_n d_RM_sortLines_120 rfl (by omega) ?_
        refine mx_gl d_RM_sortLines_121 f_RM_22 hO' rfl ?_
        refine mx_iload_n d_RM_sortLines_124 rfl ?_
        refine mx_iconst (1) d_RM_sortLines_125 (by decide +kernel) (by unfold mv_r; omega) ?_
        refine mx_isub d_RM_sortLines_126 (by unfold mv_r; omega) ?_
        refine mx_iald d_RM_sortLines_127 hLle' (by omega) (by omega) ?_
        refine mx_iast d_RM_sortLines_128 hLle' (by omega) (by omega) (by omega) ?_
        skip
        refine mx_aload_n d_RM_sortLines_129 rfl (by omega) ?_
        refine mx_gl d_RM_sortLines_130 f_RM_22 (by rw [mv_pn (by omega)]; exact hO') rfl ?_
        refine mx_iload_n d_RM_sortLines_133 rfl ?_
        refine mx_iconst (1) d_RM_sortLines_134 (by decide +kernel) (by unfold mv_r; omega) ?_
        refine mx_isub d_RM_sortLines_135 (by unfold mv_r; omega) ?_
        refine mx_iload_n d_RM_sortLines_136 rfl ?_
        refine mx_iast d_RM_sortLines_137 (by rw [mv_ps]) (by omega) (by omega) (by omega) ?_
        refine mx_iinc d_RM_sortLines_138 rfl (by unfold mv_r; omega) ?_
        refine mx_goto 12 d_RM_sortLines_141 (by decide) ?_
        have hsw : rf_sw L L' E (mv_s (mv_s E j (E (j - 1))) (j - 1) (E j)) j := ⟨hx', ho', rfl⟩
        exact ih (j - 1) _ L' _ _ _ (by omega) (by omega) (by omega) ((hfr'.put (by omega) (by omega)).put (by omega) (by omega)) (by rw [mv_pn (by omega), mv_pn (by omega)]; exact hLin') mv_ps (rf_inv_sw hI hsw (by omega) (by omega)) (rf_mid_sw hm hsw (by omega) j1 hb)
      · skip
        have HJ : j = 0 ∨ ¬ rf_bf wy L E j (j - 1) := Or.inr hb
        refine mx_z0 144 d_RM_sortLines_44 (by decide) ?_
        exact k M L E _ v3 v4 hfr hLin hLle hI (rf_mid_end hm hI j0 j1 i1 HJ)
theorem rf_so_i {Q : List mv_V → mv_M → Prop} {M0 : mv_M} {co wi ta bo pa wy lc fo tu bl kl se ow : Int} (hO0 : rf_O M0 co wi ta bo pa wy lc fo tu bl kl se ow) (hwy : wy = 0 ∨ wy = 1) (hlc : lc ≤ 64) {f B : Int → Int} (k : ∀ M' L E, bf_fr M0 M' 51 53 → M'.2 51 = .inl (256, L) → M'.2 52 = .inl (64, E) → rf_inv lc bo f B L E → rf_srt wy L E lc → Q [] M') : ∀ (d : Nat) (i : Int) (M : mv_M) (L E : Int → Int) (v2 v3 v4 : mv_V), max (lc - i) 0 < d → 0 < i → (i ≤ lc ∨ lc ≤ 0) → bf_fr M0 M 51 53 → M.2 51 = .inl (256, L) → M.2 52 = .inl (64, E) → rf_inv lc bo f B L E → rf_srt wy L E i → mv_W md_RM_sortLines 2 [.inr 47, .inl i, v2, v3, v4] [] M (0, 0) Q := by
  intro d
  induction d with
  | zero =>
    intro i M L E v2 v3 v4 hd i0 i1 hfr hLin hLle hI hs
    exfalso; omega
  | succ d ih =>
    intro i M L E v2 v3 v4 hd i0 i1 hfr hLin hLle hI hs
    have hO : rf_O M co wi ta bo pa wy lc fo tu bl kl se ow := by unfold rf_O; rw [hfr 47 (by omega)]; exact hO0
    refine mx_iload_n d_RM_sortLines_2 rfl ?_
    refine mx_aload_n d_RM_sortLines_3 rfl (by omega) ?_
    refine mx_gl d_RM_sortLines_4 f_RM_113 hO rfl ?_
    refine mx_icmp_ge 150 d_RM_sortLines_7 (by decide) (fun c7 => ?_) (fun c7 => ?_)
    · skip
      refine mx_return d_RM_sortLines_150 rfl ?_
      exact k M L E hfr hLin hLle hI (fun p q p0 pq ql => hs p q p0 pq (by omega))
    · skip
      refine mx_iload_n d_RM_sortLines_10 rfl ?_
      refine mx_istore_n d_RM_sortLines_11 (by decide) ?_
      refine rf_so_j hO0 hwy hlc i0 (by omega) ?_ (i.toNat + 1) i M L E v3 v4 (by omega) (by omega) (by omega) hfr hLin hLle hI ⟨fun p q p0 pq qi pj qj => hs p q p0 pq (by omega), fun q q0 q1 => by omega⟩
      intro M' L' E' jv v3' v4' hfr' hLin' hLle' hI' hs'
      refine mx_iinc d_RM_sortLines_144 rfl (by unfold mv_r; omega) ?_
      refine mx_goto 2 d_RM_sortLines_147 (by decide) ?_
      exact ih (i + 1) M' L' E' _ _ _ (by omega) (by omega) (by omega) hfr' hLin' hLle' hI' hs'
theorem rf_sortLines {Q : List mv_V → mv_M → Prop} {M : mv_M} {co wi ta bo pa wy lc fo tu bl kl se ow : Int} (hO0 : rf_O M co wi ta bo pa wy lc fo tu bl kl se ow) (hwy : wy = 0 ∨ wy = 1) (hlc : lc ≤ 64) {f B L E : Int → Int} (hL0 : M.2 51 = .inl (256, L)) (hE0 : M.2 52 = .inl (64, E)) (hI : rf_inv lc bo f B L E) (k : ∀ M' L E, bf_fr M M' 51 53 → M'.2 51 = .inl (256, L) → M'.2 52 = .inl (64, E) → rf_inv lc bo f B L E → rf_srt wy L E lc → Q [] M') : mv_J md_RM_sortLines [.inr 47] M Q := by
  refine mv_enter (by decide +kernel) (Nat.le_of_ble_eq_true rfl) ?_
  show mv_W md_RM_sortLines 0 [.inr 47, .inr 0, .inr 0, .inr 0, .inr 0] [] M (0, 0) Q
  refine mx_iconst (1) d_RM_sortLines_0 (by decide +kernel) (by unfold mv_r; omega) ?_
  refine mx_istore_n d_RM_sortLines_1 (by decide) ?_
  exact rf_so_i hO0 hwy hlc k (lc.toNat + 1) 1 M L E _ _ _ (by omega) (by omega) (by omega) bf_fr.refl hL0 hE0 hI (fun p q p0 pq q1 => by omega)
