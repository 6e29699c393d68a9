/-! the reference: find -/
theorem pu_ch {n : Int} {R : Int → Int → Prop} (h : ∀ k, 0 ≤ k → k < n → ∃ p, R k p) : ∃ P : Int → Int, ∀ k, 0 ≤ k → k < n → R k (P k) :=
  ⟨fun k => Classical.epsilon (fun p => R k p), fun k k0 k1 => Classical.epsilon_spec (h k k0 k1)⟩
/-- what the reference's find leaves behind -/
def rf_F (bo lc wi ta pa t : Int) (B N f L E fb P : Int → Int) (c : Int) (RB K S Z KB O X XL XB IB : Int → Int) (PR : Nat → mv_V) : Prop := pu_lab bo (fun a b => a < b ∧ bf_nb t (rf_l B) (rf_u B) (rf_r B) (rf_d B) a b) f ∧ lc = pu_cnt (fun m => decide (f m = m)) bo.toNat ∧ rf_inv lc bo f B L E ∧ rf_srt t L E lc ∧ pu_lab lc (fun a b => a < b ∧ bf_nl t (rf_l L) (rf_u L) (rf_r L) (rf_d L) a b) fb ∧ (∀ k, 0 ≤ k → k < bo → 0 ≤ P k ∧ P k < lc ∧ E (P k) = f k) ∧ rf_BK bo lc wi ta pa t B N L E fb P c RB K S Z KB PR lc ∧ pu_ord c O (rf_cb t K Z S) ∧ ((∀ j, 0 ≤ j → j < 4 * lc → X j = L j) ∧ (∀ q, 0 ≤ q → q < lc → XL q = E q) ∧ (∀ q, 0 ≤ q → q < lc → XB q = pu_cnt (fun k => decide (f k = E q)) bo.toNat)) ∧ ∀ q, 0 ≤ q → q < bo → IB q = KB (P q)
theorem rf_BK_S {bo lc wi ta pa wy : Int} {B N L E fb P : Int → Int} {c : Int} {RB K S Z KB : Int → Int} {PR : Nat → mv_V} (h : rf_BK bo lc wi ta pa wy B N L E fb P c RB K S Z KB PR lc) (hEd : ∀ p q, 0 ≤ p → p < lc → 0 ≤ q → q < lc → E p = E q → p = q) : ∀ a b, 0 ≤ a → a < c → 0 ≤ b → b < c → S a = S b → a = b := by
  intro a b a0 a1 b0 b1 e
  obtain ⟨-, ⟨-, q, q0, q1, q2, q3⟩, -⟩ := h.2.2 a a0 a1
  obtain ⟨-, ⟨-, r, r0, r1, r2, r3⟩, -⟩ := h.2.2 b b0 b1
  have := hEd q r q0 q1 r0 r1 (by omega)
  subst this
  rcases Int.lt_trichotomy a b with w | w | w
  · have := h.1.2.2.1 a b a0 w b1; omega
  · exact w
  · have := h.1.2.2.1 b a b0 w a1; omega
theorem rf_mk_inv {bo lc : Int} {f B L E : Int → Int} (hr : pu_rts bo f lc E) (hb : ∀ l, 0 ≤ l → l < lc → rf_bx bo f B (E l) L l) : rf_inv lc bo f B L E := by
  refine ⟨fun p p0 p1 => ?_, fun p q p0 p1 q0 q1 e => ?_, hr.2.2.2⟩
  · have := hr.2.1 p p0 p1
    exact ⟨this.1, this.2.1, this.2.2, hb p p0 p1⟩
  · rcases Int.lt_trichotomy p q with w | w | w
    · have := hr.2.2.1 p q p0 w q1; omega
    · exact w
    · have := hr.2.2.1 q p q0 w p1; omega
theorem rf_f29 {Q : List mv_V → mv_M → Prop} {M : mv_M} {co wi ta bo pa wy lc fo tu bl kl se ow : Int} (hO : rf_O M co wi ta bo pa wy lc fo tu bl kl se ow) (htu : tu = 0 ∨ tu = 1) (w1 : 1 ≤ wi) (w2 : wi ≤ 4096) (t1 : 1 ≤ ta) (t2 : ta ≤ 4096) (hn0 : 0 ≤ bo) (hn : bo ≤ 64) (pa0 : 0 ≤ pa) (pa8 : pa ≤ 8) {B N f0 L0 E0 fb0 K0 S0 Z0 O0 X0 XL0 XB0 KB0 IB0 : Int → Int} {PR0 : Nat → mv_V} (hBox : M.2 48 = .inl (256, B)) (hPan : M.2 49 = .inl (32, N)) (hLof : M.2 50 = .inl (64, f0)) (hLin : M.2 51 = .inl (256, L0)) (hLle : M.2 52 = .inl (64, E0)) (hBof : M.2 53 = .inl (64, fb0)) (hBlk : M.2 54 = .inl (256, K0)) (hBle : M.2 55 = .inl (64, S0)) (hPts : M.2 56 = .inl (64, Z0)) (hOrd : M.2 58 = .inl (64, O0)) (hKep : M.2 59 = .inl (256, X0)) (hKle : M.2 60 = .inl (64, XL0)) (hKbo : M.2 61 = .inl (64, XB0)) (hKbl : M.2 62 = .inl (64, KB0)) (hInb : M.2 63 = .inl (64, IB0)) (hPri : M.2 57 = .inr (5000 + 64, PR0)) (hok : rf_ok bo B) (hpo : rf_ok pa N) {v1 : mv_V} (k : ∀ M' lc1 c o f L E fb P RB K S Z KB O X XL XB IB PR, (∀ j, (j < 47 ∨ 64 ≤ j ∨ j = 48 ∨ j = 49) → M'.2 j = M.2 j) → rf_O M' co wi ta bo pa tu lc1 1 tu c lc1 bo o → M'.2 50 = .inl (64, f) → M'.2 51 = .inl (256, L) → M'.2 52 = .inl (64, E) → M'.2 53 = .inl (64, fb) → M'.2 54 = .inl (256, K) → M'.2 55 = .inl (64, S) → M'.2 56 = .inl (64, Z) → M'.2 57 = .inr (5000 + 64, PR) → M'.2 58 = .inl (64, O) → M'.2 59 = .inl (256, X) → M'.2 60 = .inl (64, XL) → M'.2 61 = .inl (64, XB) → M'.2 62 = .inl (64, KB) → M'.2 63 = .inl (64, IB) → rf_F bo lc1 wi ta pa tu B N f L E fb P c RB K S Z KB O X XL XB IB PR → Q [.inl c] M') : mv_W md_RM_find 29 [.inr 47, v1] [] M (0, 0) Q := by
  refine mx_aload_n d_RM_find_29 rfl (by omega) ?_
  refine mx_aload_n d_RM_find_30 rfl (by omega) ?_
  refine mx_gl d_RM_find_31 f_RM_152 hO rfl ?_
  refine mx_cV1 d_RM_find_34 c_RM_158 hO (by decide) (Nat.le_of_ble_eq_true rfl) ?_
  refine rf_findLines hO hBox hLof hLle hn0 hn hok htu (fun M1 f E1 c1 e1 hO1 hLof1 hLle1 hlab1 hrt1 => ?_)
  have hcl := pu_cnt_le (fun m => decide (f m = m)) bo.toNat
  rw [← hrt1.1] at hcl
  have hBox1 : M1.2 48 = .inl (256, B) := by rw [e1 48 (by omega) (by omega) (by omega)]; exact hBox
  refine mx_pop d_RM_find_37 ?_
  refine mx_aload_n d_RM_find_38 rfl (by omega) ?_
  refine mx_cV0 d_RM_find_39 c_RM_162 hO1 (by decide) (Nat.le_of_ble_eq_true rfl) ?_
  refine rf_rectangles hO1 hBox1 hLof1 hLle1 hn0 hn hok hlab1.1 hrt1 (by omega) (L0 := L0) (by rw [e1 51 (by omega) (by omega) (by omega)]; exact hLin) hcl.1 (fun M2 L2 e2 hLin2 hbx2 => ?_)
  have hO2 : rf_O M2 co wi ta bo pa tu c1 fo tu bl kl se ow := by unfold rf_O; rw [e2 47 (by omega)]; exact hO1
  have hinv2 := rf_mk_inv hrt1 hbx2
  refine mx_aload_n d_RM_find_42 rfl (by omega) ?_
  refine mx_cV0 d_RM_find_43 c_RM_165 hO2 (by decide) (Nat.le_of_ble_eq_true rfl) ?_
  refine rf_sortLines hO2 htu (by omega) hLin2 (by rw [e2 52 (by omega)]; exact hLle1) hinv2 (fun M3 L E e3 hLin3 hLle3 hinv3 hsrt3 => ?_)
  have hO3 : rf_O M3 co wi ta bo pa tu c1 fo tu bl kl se ow := by unfold rf_O; rw [e3 47 (by omega)]; exact hO2
  have hokl : rf_ok c1 L := fun p p0 p1 => rf_bx_ok (hinv3.1 p p0 p1).2.2.2 hok
  refine mx_aload_n d_RM_find_46 rfl (by omega) ?_
  refine mx_cV0 d_RM_find_47 c_RM_168 hO3 (by decide) (Nat.le_of_ble_eq_true rfl) ?_
  refine rf_findBlocks hO3 htu hLin3 hcl.1 (by omega) hokl (by rw [e3 53 (by omega), e2 53 (by omega), e1 53 (by omega) (by omega) (by omega)]; exact hBof) (fun M4 fb e4 hBof4 hlab4 => ?_)
  have hO4 : rf_O M4 co wi ta bo pa tu c1 fo tu bl kl se ow := by unfold rf_O; rw [e4 47 (by omega)]; exact hO3
  refine mx_aload_n d_RM_find_50 rfl (by omega) ?_
  refine mx_iconst (1) d_RM_find_51 (by decide +kernel) (by unfold mv_r; omega) ?_
  refine mx_pl d_RM_find_52 g_RM_171 hO4 (mv_Vz (by omega)) (Nat.le_of_ble_eq_true rfl) ?_
  have hO5 : rf_O (mv_p M4 47 (.inr (ki_RM, mv_l [.inl co, .inl wi, .inl ta, .inl bo, .inr 48, .inl pa, .inr 49, .inl tu, .inr 50, .inl c1, .inr 51, .inr 52, .inr 53, .inl 1, .inl tu, .inl bl, .inr 54, .inr 55, .inr 56, .inr 57, .inr 58, .inl kl, .inr 59, .inr 60, .inr 61, .inr 62, .inl se, .inr 63, .inl ow]))) co wi ta bo pa tu c1 1 tu bl kl se ow := mv_ps
  have e5 : ∀ j, j ≠ 47 → (mv_p M4 47 (.inr (ki_RM, mv_l [.inl co, .inl wi, .inl ta, .inl bo, .inr 48, .inl pa, .inr 49, .inl tu, .inr 50, .inl c1, .inr 51, .inr 52, .inr 53, .inl 1, .inl tu, .inl bl, .inr 54, .inr 55, .inr 56, .inr 57, .inr 58, .inl kl, .inr 59, .inr 60, .inr 61, .inr 62, .inl se, .inr 63, .inl ow]))).2 j = M4.2 j := fun j hj => mv_pn hj
  show mv_W md_RM_find 55 [.inr 47, v1] [] (mv_p M4 47 (.inr (ki_RM, mv_l [.inl co, .inl wi, .inl ta, .inl bo, .inr 48, .inl pa, .inr 49, .inl tu, .inr 50, .inl c1, .inr 51, .inr 52, .inr 53, .inl 1, .inl tu, .inl bl, .inr 54, .inr 55, .inr 56, .inr 57, .inr 58, .inl kl, .inr 59, .inr 60, .inr 61, .inr 62, .inl se, .inr 63, .inl ow]))) (0, 0) Q
  generalize mv_p M4 47 _ = M5 at hO5 e5 ⊢
  have hEd := hinv3.2.1
  have hE : ∀ p, 0 ≤ p → p < c1 → 0 ≤ E p ∧ E p < 64 := fun p p0 p1 => by have := hinv3.1 p p0 p1; omega
  obtain ⟨P, hP⟩ := pu_ch (n := bo) (R := fun k p => 0 ≤ p ∧ p < c1 ∧ E p = f k) (fun k k0 k1 => by
    have q := hlab1.1 k k0 k1
    obtain ⟨p, p0, p1, p2⟩ := hinv3.2.2 (f k) q.1 (by omega) q.2.2
    exact ⟨p, p0, p1, p2⟩)
  refine mx_aload_n d_RM_find_55 rfl (by omega) ?_
  refine mx_cV0 d_RM_find_56 c_RM_174 hO5 (by decide) (Nat.le_of_ble_eq_true rfl) ?_
  refine rf_keepLines hO5 htu w1 w2 t1 t2 hn0 hn hok pa0 pa8 hpo hcl.1 (by omega) hokl hE hEd hP hlab4.1 (by rw [e5 48 (by omega), e4 48 (by omega), e3 48 (by omega), e2 48 (by omega), e1 48 (by omega) (by omega) (by omega)]; exact hBox) (by rw [e5 49 (by omega), e4 49 (by omega), e3 49 (by omega), e2 49 (by omega), e1 49 (by omega) (by omega) (by omega)]; exact hPan) (by rw [e5 50 (by omega), e4 50 (by omega), e3 50 (by omega), e2 50 (by omega)]; exact hLof1) (by rw [e5 51 (by omega), e4 51 (by omega)]; exact hLin3) (by rw [e5 52 (by omega), e4 52 (by omega)]; exact hLle3) (by rw [e5 53 (by omega)]; exact hBof4) (by rw [e5 54 (by omega), e4 54 (by omega), e3 54 (by omega), e2 54 (by omega), e1 54 (by omega) (by omega) (by omega)]; exact hBlk) (by rw [e5 55 (by omega), e4 55 (by omega), e3 55 (by omega), e2 55 (by omega), e1 55 (by omega) (by omega) (by omega)]; exact hBle) (by rw [e5 56 (by omega), e4 56 (by omega), e3 56 (by omega), e2 56 (by omega), e1 56 (by omega) (by omega) (by omega)]; exact hPts) (by rw [e5 57 (by omega), e4 57 (by omega), e3 57 (by omega), e2 57 (by omega), e1 57 (by omega) (by omega) (by omega)]; exact hPri) (by rw [e5 59 (by omega), e4 59 (by omega), e3 59 (by omega), e2 59 (by omega), e1 59 (by omega) (by omega) (by omega)]; exact hKep) (by rw [e5 60 (by omega), e4 60 (by omega), e3 60 (by omega), e2 60 (by omega), e1 60 (by omega) (by omega) (by omega)]; exact hKle) (by rw [e5 61 (by omega), e4 61 (by omega), e3 61 (by omega), e2 61 (by omega), e1 61 (by omega) (by omega) (by omega)]; exact hKbo) (by rw [e5 62 (by omega), e4 62 (by omega), e3 62 (by omega), e2 62 (by omega), e1 62 (by omega) (by omega) (by omega)]; exact hKbl) (by rw [e5 63 (by omega), e4 63 (by omega), e3 63 (by omega), e2 63 (by omega), e1 63 (by omega) (by omega) (by omega)]; exact hInb) (fun M6 X XL XB c o RB K S Z KB PR IB e6 hO6 g1 g2 g3 g4 g5 g6 g7 g8 g9 q1 q2 q3 hBK hib => ?_)
  have hcb := pu_cnt_le (fun m => decide (fb m = m)) c1.toNat
  rw [← hBK.1.1] at hcb
  refine mx_aload_n d_RM_find_59 rfl (by omega) ?_
  refine mx_cV0 d_RM_find_60 c_RM_177 hO6 (by decide) (Nat.le_of_ble_eq_true rfl) ?_
  refine rf_rank hO6 htu g3 g1 g2 (by omega) (rf_BK_S hBK hEd) hcb.1 (O0 := O0) (by rw [e6 58 (by omega)]; exact (by rw [e5 58 (by omega), e4 58 (by omega), e3 58 (by omega), e2 58 (by omega), e1 58 (by omega) (by omega) (by omega)]; exact hOrd)) (fun M7 O e7 hOrd7 hor7 => ?_)
  have hO7 : rf_O M7 co wi ta bo pa tu c1 1 tu c c1 bo o := by unfold rf_O; rw [e7 47 (by omega)]; exact hO6
  refine mx_aload_n d_RM_find_63 rfl (by omega) ?_
  refine mx_gl d_RM_find_64 f_RM_129 hO7 rfl ?_
  refine mx_ireturn d_RM_find_67 rfl ?_
  exact k M7 c1 c o f L E fb P RB K S Z KB O X XL XB IB PR (fun j hj => by rw [e7 j (by omega), e6 j (by omega), e5 j (by omega), e4 j (by omega), e3 j (by omega), e2 j (by omega), e1 j (by omega) (by omega) (by omega)]) hO7 (by rw [e7 50 (by omega), e6 50 (by omega), e5 50 (by omega), e4 50 (by omega), e3 50 (by omega), e2 50 (by omega)]; exact hLof1) (by rw [e7 51 (by omega), e6 51 (by omega), e5 51 (by omega), e4 51 (by omega)]; exact hLin3) (by rw [e7 52 (by omega), e6 52 (by omega), e5 52 (by omega), e4 52 (by omega)]; exact hLle3) (by rw [e7 53 (by omega), e6 53 (by omega), e5 53 (by omega)]; exact hBof4) (by rw [e7 54 (by omega)]; exact g1) (by rw [e7 55 (by omega)]; exact g2) (by rw [e7 56 (by omega)]; exact g3) (by rw [e7 57 (by omega)]; exact g4) hOrd7 (by rw [e7 59 (by omega)]; exact g6) (by rw [e7 60 (by omega)]; exact g7) (by rw [e7 61 (by omega)]; exact g8) (by rw [e7 62 (by omega)]; exact g5) (by rw [e7 63 (by omega)]; exact g9) ⟨hlab1, hrt1.1, hinv3, hsrt3, hlab4, hP, hBK, hor7, ⟨q1, q2, q3⟩, hib⟩
theorem rf_find {Q : List mv_V → mv_M → Prop} {M : mv_M} {co wi ta bo pa wy lc fo tu bl kl se ow : Int} (hO : rf_O M co wi ta bo pa wy lc fo tu bl kl se ow) (w1 : 1 ≤ wi) (w2 : wi ≤ 4096) (t1 : 1 ≤ ta) (t2 : ta ≤ 4096) (hn0 : 0 ≤ bo) (hn : bo ≤ 64) (pa0 : 0 ≤ pa) (pa8 : pa ≤ 8) {B N f0 L0 E0 fb0 K0 S0 Z0 O0 X0 XL0 XB0 KB0 IB0 : Int → Int} {PR0 : Nat → mv_V} (hBox : M.2 48 = .inl (256, B)) (hPan : M.2 49 = .inl (32, N)) (hLof : M.2 50 = .inl (64, f0)) (hLin : M.2 51 = .inl (256, L0)) (hLle : M.2 52 = .inl (64, E0)) (hBof : M.2 53 = .inl (64, fb0)) (hBlk : M.2 54 = .inl (256, K0)) (hBle : M.2 55 = .inl (64, S0)) (hPts : M.2 56 = .inl (64, Z0)) (hOrd : M.2 58 = .inl (64, O0)) (hKep : M.2 59 = .inl (256, X0)) (hKle : M.2 60 = .inl (64, XL0)) (hKbo : M.2 61 = .inl (64, XB0)) (hKbl : M.2 62 = .inl (64, KB0)) (hInb : M.2 63 = .inl (64, IB0)) (hPri : M.2 57 = .inr (5000 + 64, PR0)) (hok : rf_ok bo B) (hpo : rf_ok pa N) (k : ∀ t f0 f1 M' lc1 c o f L E fb P RB K S Z KB O X XL XB IB PR, pu_lab bo (fun a b => a < b ∧ bf_nb 0 (rf_l B) (rf_u B) (rf_r B) (rf_d B) a b) f0 → pu_lab bo (fun a b => a < b ∧ bf_nb 1 (rf_l B) (rf_u B) (rf_r B) (rf_d B) a b) f1 → ((pu_cnt (fun m => decide (f1 m = m)) bo.toNat < pu_cnt (fun m => decide (f0 m = m)) bo.toNat ∧ t = 1) ∨ (¬ pu_cnt (fun m => decide (f1 m = m)) bo.toNat < pu_cnt (fun m => decide (f0 m = m)) bo.toNat ∧ t = 0)) → (∀ j, (j < 47 ∨ 64 ≤ j ∨ j = 48 ∨ j = 49) → M'.2 j = M.2 j) → rf_O M' 0 wi ta bo pa t lc1 1 t c lc1 bo o → M'.2 50 = .inl (64, f) → M'.2 51 = .inl (256, L) → M'.2 52 = .inl (64, E) → M'.2 53 = .inl (64, fb) → M'.2 54 = .inl (256, K) → M'.2 55 = .inl (64, S) → M'.2 56 = .inl (64, Z) → M'.2 57 = .inr (5000 + 64, PR) → M'.2 58 = .inl (64, O) → M'.2 59 = .inl (256, X) → M'.2 60 = .inl (64, XL) → M'.2 61 = .inl (64, XB) → M'.2 62 = .inl (64, KB) → M'.2 63 = .inl (64, IB) → rf_F bo lc1 wi ta pa t B N f L E fb P c RB K S Z KB O X XL XB IB PR → Q [.inl c] M') : mv_J md_RM_find [.inr 47] M Q := by
  refine mv_enter (by decide +kernel) (Nat.le_of_ble_eq_true rfl) ?_
  show mv_W md_RM_find 0 [.inr 47, .inr 0] [] M (0, 0) Q
  refine mx_aload_n d_RM_find_0 rfl (by omega) ?_
  refine mx_iconst (0) d_RM_find_1 (by decide +kernel) (by unfold mv_r; omega) ?_
  refine mx_pl d_RM_find_2 g_RM_66 hO (mv_Vi _) (Nat.le_of_ble_eq_true rfl) ?_
  have hO0 : rf_O (mv_p M 47 (.inr (ki_RM, mv_l [.inl 0, .inl wi, .inl ta, .inl bo, .inr 48, .inl pa, .inr 49, .inl wy, .inr 50, .inl lc, .inr 51, .inr 52, .inr 53, .inl fo, .inl tu, .inl bl, .inr 54, .inr 55, .inr 56, .inr 57, .inr 58, .inl kl, .inr 59, .inr 60, .inr 61, .inr 62, .inl se, .inr 63, .inl ow]))) 0 wi ta bo pa wy lc fo tu bl kl se ow := mv_ps
  have e0 : ∀ j, j ≠ 47 → (mv_p M 47 (.inr (ki_RM, mv_l [.inl 0, .inl wi, .inl ta, .inl bo, .inr 48, .inl pa, .inr 49, .inl wy, .inr 50, .inl lc, .inr 51, .inr 52, .inr 53, .inl fo, .inl tu, .inl bl, .inr 54, .inr 55, .inr 56, .inr 57, .inr 58, .inl kl, .inr 59, .inr 60, .inr 61, .inr 62, .inl se, .inr 63, .inl ow]))).2 j = M.2 j := fun j hj => mv_pn hj
  show mv_W md_RM_find 5 [.inr 47, .inr 0] [] (mv_p M 47 (.inr (ki_RM, mv_l [.inl 0, .inl wi, .inl ta, .inl bo, .inr 48, .inl pa, .inr 49, .inl wy, .inr 50, .inl lc, .inr 51, .inr 52, .inr 53, .inl fo, .inl tu, .inl bl, .inr 54, .inr 55, .inr 56, .inr 57, .inr 58, .inl kl, .inr 59, .inr 60, .inr 61, .inr 62, .inl se, .inr 63, .inl ow]))) (0, 0) Q
  generalize mv_p M 47 _ = M0 at hO0 e0 ⊢
  refine mx_aload_n d_RM_find_5 rfl (by omega) ?_
  refine mx_iconst (0) d_RM_find_6 (by decide +kernel) (by unfold mv_r; omega) ?_
  refine mx_cV1 d_RM_find_7 c_RM_158 hO0 (by decide) (Nat.le_of_ble_eq_true rfl) ?_
  refine rf_findLines hO0 (by rw [e0 48 (by omega)]; exact hBox) (by rw [e0 50 (by omega)]; exact hLof) (by rw [e0 52 (by omega)]; exact hLle) hn0 hn hok (Or.inl rfl) (fun Ma f0' Ea ca ea hOa hLofa hLlea hlaba hrta => ?_)
  refine mx_istore_n d_RM_find_10 (by decide) ?_
  refine mx_aload_n d_RM_find_11 rfl (by omega) ?_
  refine mx_aload_n d_RM_find_12 rfl (by omega) ?_
  refine mx_iconst (1) d_RM_find_13 (by decide +kernel) (by unfold mv_r; omega) ?_
  refine mx_cV1 d_RM_find_14 c_RM_158 hOa (by decide) (Nat.le_of_ble_eq_true rfl) ?_
  refine rf_findLines hOa (by rw [ea 48 (by omega) (by omega) (by omega), e0 48 (by omega)]; exact hBox) hLofa hLlea hn0 hn hok (Or.inr rfl) (fun Mb f1' Eb cb eb hOb hLofb hLleb hlabb hrtb => ?_)
  refine mx_iload_n d_RM_find_17 rfl ?_
  refine mx_icmp_ge 25 d_RM_find_18 (by decide) (fun c18 => ?_) (fun c18 => ?_)
  · skip
    refine mx_iconst (0) d_RM_find_25 (by decide +kernel) (by unfold mv_r; omega) ?_
    refine mx_pl d_RM_find_26 g_RM_152 hOb (mv_Vz (by omega)) (Nat.le_of_ble_eq_true rfl) ?_
    have hOc : rf_O (mv_p Mb 47 (.inr (ki_RM, mv_l [.inl 0, .inl wi, .inl ta, .inl bo, .inr 48, .inl pa, .inr 49, .inl 1, .inr 50, .inl cb, .inr 51, .inr 52, .inr 53, .inl fo, .inl 0, .inl bl, .inr 54, .inr 55, .inr 56, .inr 57, .inr 58, .inl kl, .inr 59, .inr 60, .inr 61, .inr 62, .inl se, .inr 63, .inl ow]))) 0 wi ta bo pa 1 cb fo 0 bl kl se ow := mv_ps
    have ec : ∀ j, j ≠ 47 → (mv_p Mb 47 (.inr (ki_RM, mv_l [.inl 0, .inl wi, .inl ta, .inl bo, .inr 48, .inl pa, .inr 49, .inl 1, .inr 50, .inl cb, .inr 51, .inr 52, .inr 53, .inl fo, .inl 0, .inl bl, .inr 54, .inr 55, .inr 56, .inr 57, .inr 58, .inl kl, .inr 59, .inr 60, .inr 61, .inr 62, .inl se, .inr 63, .inl ow]))).2 j = Mb.2 j := fun j hj => mv_pn hj
    show mv_W md_RM_find 29 [.inr 47, .inl ca] [] (mv_p Mb 47 (.inr (ki_RM, mv_l [.inl 0, .inl wi, .inl ta, .inl bo, .inr 48, .inl pa, .inr 49, .inl 1, .inr 50, .inl cb, .inr 51, .inr 52, .inr 53, .inl fo, .inl 0, .inl bl, .inr 54, .inr 55, .inr 56, .inr 57, .inr 58, .inl kl, .inr 59, .inr 60, .inr 61, .inr 62, .inl se, .inr 63, .inl ow]))) (0, 0) Q
    generalize mv_p Mb 47 _ = Mc at hOc ec ⊢
    refine rf_f29 hOc (by omega) w1 w2 t1 t2 hn0 hn pa0 pa8 (by rw [ec 48 (by omega), eb 48 (by omega) (by omega) (by omega), ea 48 (by omega) (by omega) (by omega), e0 48 (by omega)]; exact hBox) (by rw [ec 49 (by omega), eb 49 (by omega) (by omega) (by omega), ea 49 (by omega) (by omega) (by omega), e0 49 (by omega)]; exact hPan) (by rw [ec 50 (by omega)]; exact hLofb) (by rw [ec 51 (by omega), eb 51 (by omega) (by omega) (by omega), ea 51 (by omega) (by omega) (by omega), e0 51 (by omega)]; exact hLin) (by rw [ec 52 (by omega)]; exact hLleb) (by rw [ec 53 (by omega), eb 53 (by omega) (by omega) (by omega), ea 53 (by omega) (by omega) (by omega), e0 53 (by omega)]; exact hBof) (by rw [ec 54 (by omega), eb 54 (by omega) (by omega) (by omega), ea 54 (by omega) (by omega) (by omega), e0 54 (by omega)]; exact hBlk) (by rw [ec 55 (by omega), eb 55 (by omega) (by omega) (by omega), ea 55 (by omega) (by omega) (by omega), e0 55 (by omega)]; exact hBle) (by rw [ec 56 (by omega), eb 56 (by omega) (by omega) (by omega), ea 56 (by omega) (by omega) (by omega), e0 56 (by omega)]; exact hPts) (by rw [ec 58 (by omega), eb 58 (by omega) (by omega) (by omega), ea 58 (by omega) (by omega) (by omega), e0 58 (by omega)]; exact hOrd) (by rw [ec 59 (by omega), eb 59 (by omega) (by omega) (by omega), ea 59 (by omega) (by omega) (by omega), e0 59 (by omega)]; exact hKep) (by rw [ec 60 (by omega), eb 60 (by omega) (by omega) (by omega), ea 60 (by omega) (by omega) (by omega), e0 60 (by omega)]; exact hKle) (by rw [ec 61 (by omega), eb 61 (by omega) (by omega) (by omega), ea 61 (by omega) (by omega) (by omega), e0 61 (by omega)]; exact hKbo) (by rw [ec 62 (by omega), eb 62 (by omega) (by omega) (by omega), ea 62 (by omega) (by omega) (by omega), e0 62 (by omega)]; exact hKbl) (by rw [ec 63 (by omega), eb 63 (by omega) (by omega) (by omega), ea 63 (by omega) (by omega) (by omega), e0 63 (by omega)]; exact hInb) (by rw [ec 57 (by omega), eb 57 (by omega) (by omega) (by omega), ea 57 (by omega) (by omega) (by omega), e0 57 (by omega)]; exact hPri) hok hpo ?_
    intro M' lc1 c o f L E fb P RB K S Z KB O X XL XB IB PR ef hOf
    exact k 0 f0' f1' M' lc1 c o f L E fb P RB K S Z KB O X XL XB IB PR hlaba hlabb (by rw [← hrta.1, ← hrtb.1]; omega) (fun j hj => by rw [ef j hj, ec j (by omega), eb j (by omega) (by omega) (by omega), ea j (by omega) (by omega) (by omega), e0 j (by omega)]) hOf
  · skip
    refine mx_iconst (1) d_RM_find_21 (by decide +kernel) (by unfold mv_r; omega) ?_
    refine mx_goto 26 d_RM_find_22 (by decide) ?_
    refine mx_pl d_RM_find_26 g_RM_152 hOb (mv_Vz (by omega)) (Nat.le_of_ble_eq_true rfl) ?_
    have hOc : rf_O (mv_p Mb 47 (.inr (ki_RM, mv_l [.inl 0, .inl wi, .inl ta, .inl bo, .inr 48, .inl pa, .inr 49, .inl 1, .inr 50, .inl cb, .inr 51, .inr 52, .inr 53, .inl fo, .inl 1, .inl bl, .inr 54, .inr 55, .inr 56, .inr 57, .inr 58, .inl kl, .inr 59, .inr 60, .inr 61, .inr 62, .inl se, .inr 63, .inl ow]))) 0 wi ta bo pa 1 cb fo 1 bl kl se ow := mv_ps
    have ec : ∀ j, j ≠ 47 → (mv_p Mb 47 (.inr (ki_RM, mv_l [.inl 0, .inl wi, .inl ta, .inl bo, .inr 48, .inl pa, .inr 49, .inl 1, .inr 50, .inl cb, .inr 51, .inr 52, .inr 53, .inl fo, .inl 1, .inl bl, .inr 54, .inr 55, .inr 56, .inr 57, .inr 58, .inl kl, .inr 59, .inr 60, .inr 61, .inr 62, .inl se, .inr 63, .inl ow]))).2 j = Mb.2 j := fun j hj => mv_pn hj
    show mv_W md_RM_find 29 [.inr 47, .inl ca] [] (mv_p Mb 47 (.inr (ki_RM, mv_l [.inl 0, .inl wi, .inl ta, .inl bo, .inr 48, .inl pa, .inr 49, .inl 1, .inr 50, .inl cb, .inr 51, .inr 52, .inr 53, .inl fo, .inl 1, .inl bl, .inr 54, .inr 55, .inr 56, .inr 57, .inr 58, .inl kl, .inr 59, .inr 60, .inr 61, .inr 62, .inl se, .inr 63, .inl ow]))) (0, 0) Q
    generalize mv_p Mb 47 _ = Mc at hOc ec ⊢
    refine rf_f29 hOc (by omega) w1 w2 t1 t2 hn0 hn pa0 pa8 (by rw [ec 48 (by omega), eb 48 (by omega) (by omega) (by omega), ea 48 (by omega) (by omega) (by omega), e0 48 (by omega)]; exact hBox) (by rw [ec 49 (by omega), eb 49 (by omega) (by omega) (by omega), ea 49 (by omega) (by omega) (by omega), e0 49 (by omega)]; exact hPan) (by rw [ec 50 (by omega)]; exact hLofb) (by rw [ec 51 (by omega), eb 51 (by omega) (by omega) (by omega), ea 51 (by omega) (by omega) (by omega), e0 51 (by omega)]; exact hLin) (by rw [ec 52 (by omega)]; exact hLleb) (by rw [ec 53 (by omega), eb 53 (by omega) (by omega) (by omega), ea 53 (by omega) (by omega) (by omega), e0 53 (by omega)]; exact hBof) (by rw [ec 54 (by omega), eb 54 (by omega) (by omega) (by omega), ea 54 (by omega) (by omega) (by omega), e0 54 (by omega)]; exact hBlk) (by rw [ec 55 (by omega), eb 55 (by omega) (by omega) (by omega), ea 55 (by omega) (by omega) (by omega), e0 55 (by omega)]; exact hBle) (by rw [ec 56 (by omega), eb 56 (by omega) (by omega) (by omega), ea 56 (by omega) (by omega) (by omega), e0 56 (by omega)]; exact hPts) (by rw [ec 58 (by omega), eb 58 (by omega) (by omega) (by omega), ea 58 (by omega) (by omega) (by omega), e0 58 (by omega)]; exact hOrd) (by rw [ec 59 (by omega), eb 59 (by omega) (by omega) (by omega), ea 59 (by omega) (by omega) (by omega), e0 59 (by omega)]; exact hKep) (by rw [ec 60 (by omega), eb 60 (by omega) (by omega) (by omega), ea 60 (by omega) (by omega) (by omega), e0 60 (by omega)]; exact hKle) (by rw [ec 61 (by omega), eb 61 (by omega) (by omega) (by omega), ea 61 (by omega) (by omega) (by omega), e0 61 (by omega)]; exact hKbo) (by rw [ec 62 (by omega), eb 62 (by omega) (by omega) (by omega), ea 62 (by omega) (by omega) (by omega), e0 62 (by omega)]; exact hKbl) (by rw [ec 63 (by omega), eb 63 (by omega) (by omega) (by omega), ea 63 (by omega) (by omega) (by omega), e0 63 (by omega)]; exact hInb) (by rw [ec 57 (by omega), eb 57 (by omega) (by omega) (by omega), ea 57 (by omega) (by omega) (by omega), e0 57 (by omega)]; exact hPri) hok hpo ?_
    intro M' lc1 c o f L E fb P RB K S Z KB O X XL XB IB PR ef hOf
    exact k 1 f0' f1' M' lc1 c o f L E fb P RB K S Z KB O X XL XB IB PR hlaba hlabb (by rw [← hrta.1, ← hrtb.1]; omega) (fun j hj => by rw [ef j hj, ec j (by omega), eb j (by omega) (by omega) (by omega), ea j (by omega) (by omega) (by omega), e0 j (by omega)]) hOf
