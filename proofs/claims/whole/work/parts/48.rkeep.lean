/-! the reference: a block kept -/
theorem pu_min_first {k : Int} {f : Int → Int} {F : Int → Int} (k0 : 0 ≤ k) (hf : ∀ j, 0 ≤ j → j < k → f j ≠ k) (hk : f k = k) : pu_min (k + 1) f k F (F k) := pu_min_one k0 hf hk
/-- the highest and the lowest of the things below k that g sends to r -/
def pu_hl (k : Int) (g h : Int → Int) (r hi lo : Int) : Prop := (0 ≤ hi ∧ hi ≤ 4096) ∧ (0 ≤ lo ∧ lo ≤ 4097) ∧ (∀ j, 0 ≤ j → j < k → g j = r → h j ≤ hi ∧ lo ≤ h j) ∧ (hi = 0 ∨ ∃ j, 0 ≤ j ∧ j < k ∧ g j = r ∧ hi = h j) ∧ (lo = 4097 ∨ ∃ j, 0 ≤ j ∧ j < k ∧ g j = r ∧ lo = h j)
theorem pu_hl0 {g h : Int → Int} {r : Int} : pu_hl 0 g h r 0 4097 := ⟨by omega, by omega, fun j _ _ => by omega, Or.inl rfl, Or.inl rfl⟩
theorem pu_hl_y {k : Int} {g h : Int → Int} {r hi lo : Int} (H : pu_hl k g h r hi lo) (k0 : 0 ≤ k) (hk : g k = r) (h0 : 0 ≤ h k) (h1 : h k ≤ 4096) : pu_hl (k + 1) g h r (max hi (h k)) (min lo (h k)) := by
  obtain ⟨a, b, c, d, e⟩ := H
  refine ⟨by omega, by omega, fun j j0 j1 hj => ?_, ?_, ?_⟩
  · by_cases hjk : j = k
    · subst hjk; omega
    · have := c j j0 (by omega) hj; omega
  · by_cases hm : hi ≤ h k
    · exact Or.inr ⟨k, k0, by omega, hk, by omega⟩
    · rcases d with d | ⟨j, j0, j1, j2, j3⟩
      · omega
      · exact Or.inr ⟨j, j0, by omega, j2, by omega⟩
  · by_cases hm : h k ≤ lo
    · exact Or.inr ⟨k, k0, by omega, hk, by omega⟩
    · rcases e with e | ⟨j, j0, j1, j2, j3⟩
      · omega
      · exact Or.inr ⟨j, j0, by omega, j2, by omega⟩
theorem pu_hl_n {k : Int} {g h : Int → Int} {r hi lo : Int} (H : pu_hl k g h r hi lo) (hk : g k ≠ r) : pu_hl (k + 1) g h r hi lo := by
  obtain ⟨a, b, c, d, e⟩ := H
  refine ⟨a, b, fun j j0 j1 hj => ?_, ?_, ?_⟩
  · by_cases hjk : j = k
    · subst hjk; exact absurd hj hk
    · exact c j j0 (by omega) hj
  · rcases d with d | ⟨j, j0, j1, j2, j3⟩
    · exact Or.inl d
    · exact Or.inr ⟨j, j0, by omega, j2, j3⟩
  · rcases e with e | ⟨j, j0, j1, j2, j3⟩
    · exact Or.inl e
    · exact Or.inr ⟨j, j0, by omega, j2, j3⟩
theorem rf_kb3 {Q : List mv_V → mv_M → Prop} {M : mv_M} {co wi ta bo pa wy lc fo tu bl kl se ow : Int} (hO : rf_O M co wi ta bo pa wy lc fo tu bl kl se ow) (hwy : wy = 0 ∨ wy = 1) {B f E fb P : Int → Int} (hBox : M.2 48 = .inl (256, B)) (hLof : M.2 50 = .inl (64, f)) (hLle : M.2 52 = .inl (64, E)) (hBof : M.2 53 = .inl (64, fb)) (hn0 : 0 ≤ bo) (hn : bo ≤ 64) (hok : rf_ok bo B) (hlc : lc ≤ 64) (hP : ∀ k, 0 ≤ k → k < bo → 0 ≤ P k ∧ P k < lc ∧ E (P k) = f k) (hEd : ∀ p q, 0 ≤ p → p < lc → 0 ≤ q → q < lc → E p = E q → p = q) {PR : Nat → mv_V} (hPri : M.2 57 = .inr (5000 + 64, PR)) {fi c : Int} (c0 : 0 ≤ c) (c1 : c < 64) (k : ∀ M' v hi lo, bf_fr M M' 57 58 → M'.2 57 = .inr (5000 + 64, mv_u PR c.toNat (.inl v)) → pu_hl bo (fun j => fb (P j)) (fun j => bf_o wy (rf_d B) (rf_r B) j - bf_o wy (rf_u B) (rf_l B) j) fi hi lo → ((v = 1 ∧ 4 * (hi - lo) ≤ hi) ∨ (v = 0 ∧ ¬ 4 * (hi - lo) ≤ hi)) → Q [] M') : ∀ (d : Nat) (q hi lo : Int), bo - q < d → 0 ≤ q → q ≤ bo → pu_hl q (fun j => fb (P j)) (fun j => bf_o wy (rf_d B) (rf_r B) j - bf_o wy (rf_u B) (rf_l B) j) fi hi lo → mv_W md_RM_keepBlock 199 [.inr 47, .inl fi, .inl c, .inl hi, .inl lo, .inl q] [] M (0, 0) Q := by
  intro d
  induction d with
  | zero =>
    intro q hi lo h1 h2 h3
    exfalso; omega
  | succ d ih =>
    intro q hi lo hd q0 q1 hI
    have hIa := hI.1
    have hIb := hI.2.1
    refine mx_iload d_RM_keepBlock_199 rfl ?_
    refine mx_aload_n d_RM_keepBlock_201 rfl (by omega) ?_
    refine mx_gl d_RM_keepBlock_202 f_RM_73 hO rfl ?_
    refine mx_icmp_ge 253 d_RM_keepBlock_205 (by decide) (fun c205 => ?_) (fun c205 => ?_)
    · skip
      refine mx_aload_n d_RM_keepBlock_253 rfl (by omega) ?_
      refine mx_gl d_RM_keepBlock_254 f_RM_37 hO rfl ?_
      refine mx_iload_n d_RM_keepBlock_257 rfl ?_
      refine mx_iconst (4) d_RM_keepBlock_258 (by decide +kernel) (by unfold mv_r; omega) ?_
      refine mx_iload_n d_RM_keepBlock_259 rfl ?_
      refine mx_iload d_RM_keepBlock_260 rfl ?_
      refine mx_isub d_RM_keepBlock_262 (by unfold mv_r; omega) ?_
      refine mx_imul d_RM_keepBlock_263 (by unfold mv_r; omega) ?_
      refine mx_iload_n d_RM_keepBlock_264 rfl ?_
      refine mx_icmp_gt 272 d_RM_keepBlock_265 (by decide) (fun c265 => ?_) (fun c265 => ?_)
      · skip
        refine mx_iconst (0) d_RM_keepBlock_272 (by decide +kernel) (by unfold mv_r; omega) ?_
        refine mx_bast d_RM_keepBlock_273 hPri (by omega) (by omega) (by omega) ?_
        refine mx_return d_RM_keepBlock_274 rfl ?_
        first | exact k _ 1 hi lo (bf_fr.refl.put (by omega) (by omega)) mv_ps ((show q = bo by omega) ▸ hI) (Or.inl ⟨rfl, by omega⟩) | exact k _ 0 hi lo (bf_fr.refl.put (by omega) (by omega)) mv_ps ((show q = bo by omega) ▸ hI) (Or.inr ⟨rfl, by omega⟩)
      · skip
        refine mx_iconst (1) d_RM_keepBlock_268 (by decide +kernel) (by unfold mv_r; omega) ?_
        refine mx_goto 273 d_RM_keepBlock_269 (by decide) ?_
        refine mx_bast d_RM_keepBlock_273 hPri (by omega) (by omega) (by omega) ?_
        refine mx_return d_RM_keepBlock_274 rfl ?_
        first | exact k _ 1 hi lo (bf_fr.refl.put (by omega) (by omega)) mv_ps ((show q = bo by omega) ▸ hI) (Or.inl ⟨rfl, by omega⟩) | exact k _ 0 hi lo (bf_fr.refl.put (by omega) (by omega)) mv_ps ((show q = bo by omega) ▸ hI) (Or.inr ⟨rfl, by omega⟩)
    · skip
      refine mx_aload_n d_RM_keepBlock_208 rfl (by omega) ?_
      refine mx_gl d_RM_keepBlock_209 f_RM_25 hO rfl ?_
      refine mx_aload_n d_RM_keepBlock_212 rfl (by omega) ?_
      refine mx_iload d_RM_keepBlock_213 rfl ?_
      refine mx_cV1 d_RM_keepBlock_215 c_RM_139 hO (by decide) (Nat.le_of_ble_eq_true rfl) ?_
      have hPq := hP q q0 (by omega)
      have hbo := bf_ob hok q0 (by omega) wy
      refine rf_lineAt hO hLof hLle q0 (by omega) hPq.1 (by omega) hPq.2.2 (fun l l0 l1 hl => ?_)
      obtain rfl : l = P q := hEd l (P q) l0 (by omega) hPq.1 hPq.2.1 (hl.trans hPq.2.2.symm)
      refine mx_iald d_RM_keepBlock_218 hBof (by omega) (by omega) ?_
      refine mx_iload_n d_RM_keepBlock_219 rfl ?_
      refine mx_icmp_ne 247 d_RM_keepBlock_220 (by decide) (fun c220 => ?_) (fun c220 => ?_)
      · skip
        refine mx_iinc d_RM_keepBlock_247 rfl (by unfold mv_r; omega) ?_
        refine mx_goto 199 d_RM_keepBlock_250 (by decide) ?_
        first | exact ih (q + 1) _ _ (by omega) (by omega) (by omega) (pu_hl_y hI q0 (by omega) (by omega) (by omega)) | exact ih (q + 1) _ _ (by omega) (by omega) (by omega) (pu_hl_n hI c220)
      · skip
        refine mx_iload_n d_RM_keepBlock_223 rfl ?_
        refine mx_aload_n d_RM_keepBlock_224 rfl (by omega) ?_
        refine mx_iload d_RM_keepBlock_225 rfl ?_
        refine mx_cV1 d_RM_keepBlock_227 c_RM_106 hO (by decide) (Nat.le_of_ble_eq_true rfl) ?_
        refine rf_high_b hO hwy hBox q0 (by omega) ?_
        refine mx_cS2 d_RM_keepBlock_230 c_RM_97 (by decide) (Nat.le_of_ble_eq_true rfl) ?_
        refine rf_most ?_
        refine mx_istore_n d_RM_keepBlock_233 (by decide) ?_
        refine mx_iload d_RM_keepBlock_234 rfl ?_
        refine mx_aload_n d_RM_keepBlock_236 rfl (by omega) ?_
        refine mx_iload d_RM_keepBlock_237 rfl ?_
        refine mx_cV1 d_RM_keepBlock_239 c_RM_106 hO (by decide) (Nat.le_of_ble_eq_true rfl) ?_
        refine rf_high_b hO hwy hBox q0 (by omega) ?_
        refine mx_cS2 d_RM_keepBlock_242 c_RM_91 (by decide) (Nat.le_of_ble_eq_true rfl) ?_
        refine rf_least ?_
        refine mx_istore d_RM_keepBlock_245 (by decide) ?_
        refine mx_iinc d_RM_keepBlock_247 rfl (by unfold mv_r; omega) ?_
        refine mx_goto 199 d_RM_keepBlock_250 (by decide) ?_
        first | exact ih (q + 1) _ _ (by omega) (by omega) (by omega) (pu_hl_y hI q0 (by omega) (by omega) (by omega)) | exact ih (q + 1) _ _ (by omega) (by omega) (by omega) (pu_hl_n hI c220)
theorem rf_kb2 {Q : List mv_V → mv_M → Prop} {M0 : mv_M} {co wi ta bo pa wy lc fo tu bl kl se : Int} {fb : Int → Int} (hB0 : M0.2 53 = .inl (64, fb)) (hlc : lc ≤ 64) {fi c : Int} (fi0 : 0 ≤ fi) {v4 v5 : mv_V} (k : ∀ M' l o, bf_fr M0 M' 47 48 → rf_O M' co wi ta bo pa wy lc fo tu bl kl se o → o = pu_cnt (fun q => decide (fb q = fi)) lc.toNat → mv_W md_RM_keepBlock 178 [.inr 47, .inl fi, .inl c, .inl l, v4, v5] [] M' (0, 0) Q) : ∀ (d : Nat) (l : Int) (M : mv_M) (o : Int), lc - l < d → fi ≤ l → l ≤ lc → bf_fr M0 M 47 48 → rf_O M co wi ta bo pa wy lc fo tu bl kl se o → o = pu_cnt (fun q => decide (fb q = fi)) l.toNat → mv_W md_RM_keepBlock 140 [.inr 47, .inl fi, .inl c, .inl l, v4, v5] [] M (0, 0) Q := by
  intro d
  induction d with
  | zero =>
    intro l M o h1 h2 h3
    exfalso; omega
  | succ d ih =>
    intro l M o hd l0 l1 hfr hO ho
    have hBof : M.2 53 = .inl (64, fb) := by rw [hfr 53 (by omega)]; exact hB0
    have hcc := pu_cnt_le (fun q => decide (fb q = fi)) l.toNat
    rw [← ho] at hcc
    have hcs := pu_cnt_s (P := fun q => decide (fb q = fi)) (show 0 ≤ l by omega)
    refine mx_iload_n d_RM_keepBlock_140 rfl ?_
    refine mx_aload_n d_RM_keepBlock_141 rfl (by omega) ?_
    refine mx_gl d_RM_keepBlock_142 f_RM_113 hO rfl ?_
    refine mx_icmp_ge 178 d_RM_keepBlock_145 (by decide) (fun c145 => ?_) (fun c145 => ?_)
    · skip
      exact k M l o hfr hO (by rw [ho, show l = lc by omega])
    · skip
      refine mx_aload_n d_RM_keepBlock_148 rfl (by omega) ?_
      refine mx_dup d_RM_keepBlock_149 ?_
      refine mx_gl d_RM_keepBlock_150 f_RM_142 hO rfl ?_
      refine mx_aload_n d_RM_keepBlock_153 rfl (by omega) ?_
      refine mx_gl d_RM_keepBlock_154 f_RM_25 hO rfl ?_
      refine mx_iload_n d_RM_keepBlock_157 rfl ?_
      refine mx_iald d_RM_keepBlock_158 hBof (by omega) (by omega) ?_
      refine mx_iload_n d_RM_keepBlock_159 rfl ?_
      refine mx_icmp_ne 167 d_RM_keepBlock_160 (by decide) (fun c160 => ?_) (fun c160 => ?_)
      · skip
        refine mx_iconst (0) d_RM_keepBlock_167 (by decide +kernel) (by unfold mv_r; omega) ?_
        refine mx_iadd d_RM_keepBlock_168 (by unfold mv_r; omega) ?_
        refine mx_pl d_RM_keepBlock_169 g_RM_142 hO (mv_Vi _) (Nat.le_of_ble_eq_true rfl) ?_
        refine mx_iinc d_RM_keepBlock_172 rfl (by unfold mv_r; omega) ?_
        refine mx_goto 140 d_RM_keepBlock_175 (by decide) ?_
        first | exact ih (l + 1) _ (o + 1) (by omega) (by omega) (by omega) (hfr.put (by omega) (by omega)) mv_ps (by rw [hcs, if_pos (by simp; omega), ho]) | exact ih (l + 1) _ (o + 0) (by omega) (by omega) (by omega) (hfr.put (by omega) (by omega)) mv_ps (by rw [hcs, if_neg (by simp; omega), ho])
      · skip
        refine mx_iconst (1) d_RM_keepBlock_163 (by decide +kernel) (by unfold mv_r; omega) ?_
        refine mx_goto 168 d_RM_keepBlock_164 (by decide) ?_
        refine mx_iadd d_RM_keepBlock_168 (by unfold mv_r; omega) ?_
        refine mx_pl d_RM_keepBlock_169 g_RM_142 hO (mv_Vi _) (Nat.le_of_ble_eq_true rfl) ?_
        refine mx_iinc d_RM_keepBlock_172 rfl (by unfold mv_r; omega) ?_
        refine mx_goto 140 d_RM_keepBlock_175 (by decide) ?_
        first | exact ih (l + 1) _ (o + 1) (by omega) (by omega) (by omega) (hfr.put (by omega) (by omega)) mv_ps (by rw [hcs, if_pos (by simp; omega), ho]) | exact ih (l + 1) _ (o + 0) (by omega) (by omega) (by omega) (hfr.put (by omega) (by omega)) mv_ps (by rw [hcs, if_neg (by simp; omega), ho])
theorem rf_kb1 {Q : List mv_V → mv_M → Prop} {M0 : mv_M} {co wi ta bo pa wy lc fo tu bl kl se ow : Int} (hO0 : rf_O M0 co wi ta bo pa wy lc fo tu bl kl se ow) {L E fb : Int → Int} (hL0 : M0.2 51 = .inl (256, L)) (hE0 : M0.2 52 = .inl (64, E)) (hB0 : M0.2 53 = .inl (64, fb)) (hlc : lc ≤ 64) (hok : rf_ok lc L) (hE : ∀ p, 0 ≤ p → p < lc → 0 ≤ E p ∧ E p < 64) (hlab : ∀ i, 0 ≤ i → i < lc → 0 ≤ fb i ∧ fb i ≤ i ∧ fb (fb i) = fb i) {fi c : Int} (fi0 : 0 ≤ fi) (fi1 : fi < lc) (hfi : fb fi = fi) (c0 : 0 ≤ c) (c1 : c < 64) {K0 S0 KB0 : Int → Int} {v4 v5 : mv_V} (k : ∀ M' K S KB l, (∀ j, j ≠ 54 → j ≠ 55 → j ≠ 62 → M'.2 j = M0.2 j) → M'.2 54 = .inl (256, K) → M'.2 55 = .inl (64, S) → M'.2 62 = .inl (64, KB) → (∀ j, (j < 4 * c ∨ 4 * c + 4 ≤ j) → K j = K0 j) → (∀ q, q ≠ c → S q = S0 q) → (∀ q, 0 ≤ q → q < lc → fb q = fi → KB q = c) → (∀ q, 0 ≤ q → q < lc → fb q ≠ fi → KB q = KB0 q) → rf_bx lc fb L fi K c → pu_min lc fb fi E (S c) → mv_W md_RM_keepBlock 133 [.inr 47, .inl fi, .inl c, .inl l, v4, v5] [] M' (0, 0) Q) : ∀ (d : Nat) (l : Int) (M : mv_M) (K S KB : Int → Int), lc - l < d → fi ≤ l → l ≤ lc → (∀ j, j ≠ 54 → j ≠ 55 → j ≠ 62 → M.2 j = M0.2 j) → M.2 54 = .inl (256, K) → M.2 55 = .inl (64, S) → M.2 62 = .inl (64, KB) → (∀ j, (j < 4 * c ∨ 4 * c + 4 ≤ j) → K j = K0 j) → (∀ q, q ≠ c → S q = S0 q) → (∀ q, fi ≤ q → q < l → fb q = fi → KB q = c) → (∀ q, (q < fi ∨ l ≤ q ∨ fb q ≠ fi) → KB q = KB0 q) → (fi < l → rf_bx l fb L fi K c ∧ pu_min l fb fi E (S c)) → (l = fi → S c = 64) → mv_W md_RM_keepBlock 25 [.inr 47, .inl fi, .inl c, .inl l, v4, v5] [] M (0, 0) Q := by
  intro d
  induction d with
  | zero =>
    intro l M K S KB h1 h2 h3
    exfalso; omega
  | succ d ih =>
    intro l M K S KB hd l0 l1 hfr hBlk hBle hKbl i1 i2 i3 i4 i5 i6
    have hO : rf_O M co wi ta bo pa wy lc fo tu bl kl se ow := by unfold rf_O; rw [hfr 47 (by omega) (by omega) (by omega)]; exact hO0
    have hLin : M.2 51 = .inl (256, L) := by rw [hfr 51 (by omega) (by omega) (by omega)]; exact hL0
    have hLle : M.2 52 = .inl (64, E) := by rw [hfr 52 (by omega) (by omega) (by omega)]; exact hE0
    have hBof : M.2 53 = .inl (64, fb) := by rw [hfr 53 (by omega) (by omega) (by omega)]; exact hB0
    refine mx_iload_n d_RM_keepBlock_25 rfl ?_
    refine mx_aload_n d_RM_keepBlock_26 rfl (by omega) ?_
    refine mx_gl d_RM_keepBlock_27 f_RM_113 hO rfl ?_
    refine mx_icmp_ge 133 d_RM_keepBlock_30 (by decide) (fun c30 => ?_) (fun c30 => ?_)
    · skip
      have hfl : fi < l := by omega
      obtain rfl : l = lc := by omega
      exact k M K S KB l hfr hBlk hBle hKbl i1 i2 (fun q q0 q1 e => i3 q (by have := hlab q q0 q1; omega) q1 e) (fun q q0 q1 e => i4 q (Or.inr (Or.inr e))) (i5 hfl).1 (i5 hfl).2
    · skip
      refine mx_aload_n d_RM_keepBlock_33 rfl (by omega) ?_
      refine mx_gl d_RM_keepBlock_34 f_RM_25 hO rfl ?_
      refine mx_iload_n d_RM_keepBlock_37 rfl ?_
      refine mx_iald d_RM_keepBlock_38 hBof (by omega) (by omega) ?_
      refine mx_iload_n d_RM_keepBlock_39 rfl ?_
      refine mx_icmp_ne 127 d_RM_keepBlock_40 (by decide) (fun c40 => ?_) (fun c40 => ?_)
      · skip
        refine mx_iinc d_RM_keepBlock_127 rfl (by unfold mv_r; omega) ?_
        refine mx_goto 25 d_RM_keepBlock_130 (by decide) ?_
        exact ih (l + 1) M K S KB (by omega) (by omega) (by omega) hfr hBlk hBle hKbl i1 i2 (fun q q0 q1 e => by
          by_cases hq : q = l
          · rw [hq] at e; exact absurd e c40
          · exact i3 q q0 (by omega) e) (fun q hq => by
          by_cases hq2 : q = l
          · exact i4 q (by omega)
          · exact i4 q (by omega)) (fun hlt => by
          have hne : fi < l := by
            by_cases e : l = fi
            · rw [e] at c40; exact absurd hfi c40
            · omega
          exact ⟨rf_bx_s (i5 hne).1 c40, pu_min_skip (i5 hne).2 c40⟩) (fun e => by omega)
      · skip
        have hw : rf_l L l = L (4 * l) ∧ rf_u L l = L (4 * l + 1) ∧ rf_r L l = L (4 * l) + L (4 * l + 2) ∧ rf_d L l = L (4 * l + 1) + L (4 * l + 3) := ⟨rfl, rfl, rfl, rfl⟩
        have hbk := hok l (by omega) (by omega)
        have hEl := hE l (by omega) (by omega)
        refine mx_aload_n d_RM_keepBlock_43 rfl (by omega) ?_
        refine mx_gl d_RM_keepBlock_44 f_RM_53 hO rfl ?_
        refine mx_iload_n d_RM_keepBlock_47 rfl ?_
        refine mx_iload_n d_RM_keepBlock_48 rfl ?_
        refine mx_iast d_RM_keepBlock_49 hKbl (by omega) (by omega) (by omega) ?_
        refine mx_aload_n d_RM_keepBlock_50 rfl (by omega) ?_
        refine mx_gl d_RM_keepBlock_51 f_RM_28 (by rw [mv_pn (by omega)]; exact hO) rfl ?_
        refine mx_iload_n d_RM_keepBlock_54 rfl ?_
        refine mx_aload_n d_RM_keepBlock_55 rfl (by omega) ?_
        refine mx_gl d_RM_keepBlock_56 f_RM_19 (by rw [mv_pn (by omega)]; exact hO) rfl ?_
        refine mx_iconst (4) d_RM_keepBlock_59 (by decide +kernel) (by unfold mv_r; omega) ?_
        refine mx_iload_n d_RM_keepBlock_60 rfl ?_
        refine mx_imul d_RM_keepBlock_61 (by unfold mv_r; omega) ?_
        refine mx_iald d_RM_keepBlock_62 (by rw [mv_pn (by omega)]; exact hLin) (by omega) (by omega) ?_
        refine mx_aload_n d_RM_keepBlock_63 rfl (by omega) ?_
        refine mx_gl d_RM_keepBlock_64 f_RM_19 (by rw [mv_pn (by omega)]; exact hO) rfl ?_
        refine mx_iconst (4) d_RM_keepBlock_67 (by decide +kernel) (by unfold mv_r; omega) ?_
        refine mx_iload_n d_RM_keepBlock_68 rfl ?_
        refine mx_imul d_RM_keepBlock_69 (by unfold mv_r; omega) ?_
        refine mx_iconst (1) d_RM_keepBlock_70 (by decide +kernel) (by unfold mv_r; omega) ?_
        refine mx_iadd d_RM_keepBlock_71 (by unfold mv_r; omega) ?_
        refine mx_iald d_RM_keepBlock_72 (by rw [mv_pn (by omega)]; exact hLin) (by omega) (by omega) ?_
        refine mx_aload_n d_RM_keepBlock_73 rfl (by omega) ?_
        refine mx_gl d_RM_keepBlock_74 f_RM_19 (by rw [mv_pn (by omega)]; exact hO) rfl ?_
        refine mx_iconst (4) d_RM_keepBlock_77 (by decide +kernel) (by unfold mv_r; omega) ?_
        refine mx_iload_n d_RM_keepBlock_78 rfl ?_
        refine mx_imul d_RM_keepBlock_79 (by unfold mv_r; omega) ?_
        refine mx_iconst (2) d_RM_keepBlock_80 (by decide +kernel) (by unfold mv_r; omega) ?_
        refine mx_iadd d_RM_keepBlock_81 (by unfold mv_r; omega) ?_
        refine mx_iald d_RM_keepBlock_82 (by rw [mv_pn (by omega)]; exact hLin) (by omega) (by omega) ?_
        refine mx_aload_n d_RM_keepBlock_83 rfl (by omega) ?_
        refine mx_gl d_RM_keepBlock_84 f_RM_19 (by rw [mv_pn (by omega)]; exact hO) rfl ?_
        refine mx_iconst (4) d_RM_keepBlock_87 (by decide +kernel) (by unfold mv_r; omega) ?_
        refine mx_iload_n d_RM_keepBlock_88 rfl ?_
        refine mx_imul d_RM_keepBlock_89 (by unfold mv_r; omega) ?_
        refine mx_iconst (3) d_RM_keepBlock_90 (by decide +kernel) (by unfold mv_r; omega) ?_
        refine mx_iadd d_RM_keepBlock_91 (by unfold mv_r; omega) ?_
        refine mx_iald d_RM_keepBlock_92 (by rw [mv_pn (by omega)]; exact hLin) (by omega) (by omega) ?_
        refine mx_iload_n d_RM_keepBlock_93 rfl ?_
        refine mx_iload_n d_RM_keepBlock_94 rfl ?_
        refine mx_icmp_ne 102 d_RM_keepBlock_95 (by decide) (fun c95 => ?_) (fun c95 => ?_)
        · skip
          refine mx_iconst (0) d_RM_keepBlock_102 (by decide +kernel) (by unfold mv_r; omega) ?_
          refine mx_cS7 d_RM_keepBlock_103 c_RM_116 (by decide) (Nat.le_of_ble_eq_true rfl) ?_
          have hprev := i5 (by omega)
          have hpb := rf_bx_ok hprev.1 (fun j j0 j1 => hok j j0 (by omega))
          refine rf_join0 (by omega) (by rw [mv_pn (by omega)]; exact hBlk) c0 (by omega) (by omega) (by omega) (by omega) (by omega) (by omega) (by omega) hpb (fun M' K' hfr' hBlk' hj => ?_)
          have hj2 : rf_jn K K' c (min (rf_l K c) (rf_l L l)) (min (rf_u K c) (rf_u L l)) (max (rf_r K c) (rf_r L l)) (max (rf_d K c) (rf_d L l)) := hj
          have hbx : rf_bx (l + 1) fb L fi K' c := rf_bx_m (by omega) hprev.1 (by omega) hj2
          have hmn : pu_min (l + 1) fb fi E (min (S c) (E l)) := pu_min_more (by omega) hprev.2 (by omega)
          have hO' : rf_O M' co wi ta bo pa wy lc fo tu bl kl se ow := by unfold rf_O; rw [hfr' 47 (by omega), mv_pn (by omega)]; exact hO
          have hLle' : M'.2 52 = .inl (64, E) := by rw [hfr' 52 (by omega), mv_pn (by omega)]; exact hLle
          have hBle' : M'.2 55 = .inl (64, S) := by rw [hfr' 55 (by omega), mv_pn (by omega)]; exact hBle
          have hKbl' : M'.2 62 = .inl (64, mv_s KB l c) := by rw [hfr' 62 (by omega), mv_ps]
          have hfr2 : ∀ j, j ≠ 54 → j ≠ 55 → j ≠ 62 → M'.2 j = M0.2 j := fun j j1 j2 j3 => by rw [hfr' j (by omega), mv_pn j3]; exact hfr j j1 j2 j3
          refine mx_aload_n d_RM_keepBlock_106 rfl (by omega) ?_
          refine mx_gl d_RM_keepBlock_107 f_RM_31 hO' rfl ?_
          refine mx_iload_n d_RM_keepBlock_110 rfl ?_
          refine mx_aload_n d_RM_keepBlock_111 rfl (by omega) ?_
          refine mx_gl d_RM_keepBlock_112 f_RM_31 hO' rfl ?_
          refine mx_iload_n d_RM_keepBlock_115 rfl ?_
          refine mx_iald d_RM_keepBlock_116 hBle' (by omega) (by omega) ?_
          refine mx_aload_n d_RM_keepBlock_117 rfl (by omega) ?_
          refine mx_gl d_RM_keepBlock_118 f_RM_22 hO' rfl ?_
          refine mx_iload_n d_RM_keepBlock_121 rfl ?_
          refine mx_iald d_RM_keepBlock_122 hLle' (by omega) (by omega) ?_
          refine mx_cS2 d_RM_keepBlock_123 c_RM_91 (by decide) (Nat.le_of_ble_eq_true rfl) ?_
          refine rf_least ?_
          refine mx_iast d_RM_keepBlock_126 hBle' (by omega) (by omega) (by omega) ?_
          refine mx_iinc d_RM_keepBlock_127 rfl (by unfold mv_r; omega) ?_
          refine mx_goto 25 d_RM_keepBlock_130 (by decide) ?_
          exact ih (l + 1) _ K' _ _ (by omega) (by omega) (by omega) (fun j j1 j2 j3 => by rw [mv_pn j2]; exact hfr2 j j1 j2 j3) (by rw [mv_pn (by omega)]; exact hBlk') mv_ps (by rw [mv_pn (by omega)]; exact hKbl') (fun j hj' => by rw [hj.1 j hj']; exact i1 j hj') (fun q hq => by rw [mv_sn hq]; exact i2 q hq) (fun q q0 q1 e => by
            by_cases hq : q = l
            · rw [hq, mv_ss]
            · rw [mv_sn hq]; exact i3 q q0 (by omega) e) (fun q hq => by
            rw [mv_sn (fun e => by rw [e] at hq; omega)]
            exact i4 q (by omega)) (fun _ => ⟨hbx, by rw [mv_ss]; exact hmn⟩) (fun e => by omega)
        · skip
          refine mx_iconst (1) d_RM_keepBlock_98 (by decide +kernel) (by unfold mv_r; omega) ?_
          refine mx_goto 103 d_RM_keepBlock_99 (by decide) ?_
          refine mx_cS7 d_RM_keepBlock_103 c_RM_116 (by decide) (Nat.le_of_ble_eq_true rfl) ?_
          refine rf_join1 (by omega) (by rw [mv_pn (by omega)]; exact hBlk) c0 (by omega) (by omega) (by omega) (by omega) (by omega) (by omega) (by omega) (fun M' K' hfr' hBlk' hj => ?_)
          obtain rfl : l = fi := by omega
          have hj2 : rf_jn K K' c (rf_l L l) (rf_u L l) (rf_r L l) (rf_d L l) := hj
          have hbx : rf_bx (l + 1) fb L l K' c := rf_bx_1 fi0 (fun j j0 j1 => by have := hlab j j0 (by omega); omega) hfi hj2
          have hmn : pu_min (l + 1) fb l E (min (S c) (E l)) := by
            rw [i6 rfl, show min 64 (E l) = E l by omega]
            exact pu_min_one fi0 (fun j j0 j1 => by have := hlab j j0 (by omega); omega) hfi
          have hO' : rf_O M' co wi ta bo pa wy lc fo tu bl kl se ow := by unfold rf_O; rw [hfr' 47 (by omega), mv_pn (by omega)]; exact hO
          have hLle' : M'.2 52 = .inl (64, E) := by rw [hfr' 52 (by omega), mv_pn (by omega)]; exact hLle
          have hBle' : M'.2 55 = .inl (64, S) := by rw [hfr' 55 (by omega), mv_pn (by omega)]; exact hBle
          have hKbl' : M'.2 62 = .inl (64, mv_s KB l c) := by rw [hfr' 62 (by omega), mv_ps]
          have hfr2 : ∀ j, j ≠ 54 → j ≠ 55 → j ≠ 62 → M'.2 j = M0.2 j := fun j j1 j2 j3 => by rw [hfr' j (by omega), mv_pn j3]; exact hfr j j1 j2 j3
          refine mx_aload_n d_RM_keepBlock_106 rfl (by omega) ?_
          refine mx_gl d_RM_keepBlock_107 f_RM_31 hO' rfl ?_
          refine mx_iload_n d_RM_keepBlock_110 rfl ?_
          refine mx_aload_n d_RM_keepBlock_111 rfl (by omega) ?_
          refine mx_gl d_RM_keepBlock_112 f_RM_31 hO' rfl ?_
          refine mx_iload_n d_RM_keepBlock_115 rfl ?_
          refine mx_iald d_RM_keepBlock_116 hBle' (by omega) (by omega) ?_
          refine mx_aload_n d_RM_keepBlock_117 rfl (by omega) ?_
          refine mx_gl d_RM_keepBlock_118 f_RM_22 hO' rfl ?_
          refine mx_iload_n d_RM_keepBlock_121 rfl ?_
          refine mx_iald d_RM_keepBlock_122 hLle' (by omega) (by omega) ?_
          refine mx_cS2 d_RM_keepBlock_123 c_RM_91 (by decide) (Nat.le_of_ble_eq_true rfl) ?_
          refine rf_least ?_
          refine mx_iast d_RM_keepBlock_126 hBle' (by omega) (by omega) (by omega) ?_
          refine mx_iinc d_RM_keepBlock_127 rfl (by unfold mv_r; omega) ?_
          refine mx_goto 25 d_RM_keepBlock_130 (by decide) ?_
          exact ih (l + 1) _ K' _ _ (by omega) (by omega) (by omega) (fun j j1 j2 j3 => by rw [mv_pn j2]; exact hfr2 j j1 j2 j3) (by rw [mv_pn (by omega)]; exact hBlk') mv_ps (by rw [mv_pn (by omega)]; exact hKbl') (fun j hj' => by rw [hj.1 j hj']; exact i1 j hj') (fun q hq => by rw [mv_sn hq]; exact i2 q hq) (fun q q0 q1 e => by
            by_cases hq : q = l
            · rw [hq, mv_ss]
            · rw [mv_sn hq]; exact i3 q q0 (by omega) e) (fun q hq => by
            rw [mv_sn (fun e => by rw [e] at hq; omega)]
            exact i4 q (by omega)) (fun _ => ⟨hbx, by rw [mv_ss]; exact hmn⟩) (fun e => by omega)
