/-! the reference: points, order -/
theorem rf_p235 {Q : List mv_V → mv_M → Prop} {M : mv_M} {co wi ta bo pa wy lc fo tu bl kl se ow : Int} (hO : rf_O M co wi ta bo pa wy lc fo tu bl kl se ow) {N K : Int → Int} (hPan : M.2 49 = .inl (32, N)) (hBlk : M.2 54 = .inl (256, K)) (pa0 : 0 ≤ pa) (pa8 : pa ≤ 8) (hpo : rf_ok pa N) {b : Int} (b0 : 0 ≤ b) (b1 : b < 64) (hbb : 0 ≤ rf_l K b ∧ rf_l K b < rf_r K b ∧ rf_r K b ≤ 4096 ∧ 0 ≤ rf_u K b ∧ rf_u K b < rf_d K b ∧ rf_d K b ≤ 4096) (w1 : 1 ≤ wi) (w2 : wi ≤ 4096) (t1 : 1 ≤ ta) (t2 : ta ≤ 4096) {s6 s7 v8 : mv_V} {sm : Int} (s0 : 0 ≤ sm) (s1 : sm ≤ 1000) (k : ∀ r, bf_if (bf_inp pa (rf_l N) (rf_u N) (rf_r N) (rf_d N) (rf_l K) (rf_u K) (rf_r K) (rf_d K) b) 25 r → Q [.inl (sm + r)] M) : mv_W md_RM_pointsOf 235 [.inr 47, .inl b, .inl (K (4 * b)), .inl (K (4 * b + 1)), .inl (K (4 * b + 2)), .inl (K (4 * b + 3)), s6, s7, v8, .inl sm] [] M (0, 0) Q := by
  have hu1 : rf_l K b = K (4 * b) ∧ rf_u K b = K (4 * b + 1) ∧ rf_r K b = K (4 * b) + K (4 * b + 2) ∧ rf_d K b = K (4 * b + 1) + K (4 * b + 3) := ⟨rfl, rfl, rfl, rfl⟩
  refine mx_iload d_RM_pointsOf_235 rfl ?_
  refine mx_aload_n d_RM_pointsOf_237 rfl (by omega) ?_
  refine mx_iload_n d_RM_pointsOf_238 rfl ?_
  refine mx_cV1 d_RM_pointsOf_239 c_RM_148 hO (by decide) (Nat.le_of_ble_eq_true rfl) ?_
  refine rf_isInPane hO hPan hBlk pa0 pa8 hpo b0 b1 hbb (fun hin => ?_) (fun hin => ?_)
  · skip
    refine mx_z1 250 d_RM_pointsOf_242 (by decide) ?_
    refine mx_bipush (25) d_RM_pointsOf_245 (by decide +kernel) (by unfold mv_r; omega) ?_
    refine mx_goto 251 d_RM_pointsOf_247 (by decide) ?_
    refine mx_iadd d_RM_pointsOf_251 (by unfold mv_r; omega) ?_
    refine mx_ireturn d_RM_pointsOf_252 rfl ?_
    first | exact k 25 (Or.inl ⟨hin, rfl⟩) | exact k 0 (Or.inr ⟨hin, rfl⟩)
  · skip
    refine mx_z0 250 d_RM_pointsOf_242 (by decide) ?_
    refine mx_iconst (0) d_RM_pointsOf_250 (by decide +kernel) (by unfold mv_r; omega) ?_
    refine mx_iadd d_RM_pointsOf_251 (by unfold mv_r; omega) ?_
    refine mx_ireturn d_RM_pointsOf_252 rfl ?_
    first | exact k 25 (Or.inl ⟨hin, rfl⟩) | exact k 0 (Or.inr ⟨hin, rfl⟩)
theorem rf_p205 {Q : List mv_V → mv_M → Prop} {M : mv_M} {co wi ta bo pa wy lc fo tu bl kl se ow : Int} (hO : rf_O M co wi ta bo pa wy lc fo tu bl kl se ow) {N K : Int → Int} (hPan : M.2 49 = .inl (32, N)) (hBlk : M.2 54 = .inl (256, K)) (pa0 : 0 ≤ pa) (pa8 : pa ≤ 8) (hpo : rf_ok pa N) {b : Int} (b0 : 0 ≤ b) (b1 : b < 64) (hbb : 0 ≤ rf_l K b ∧ rf_l K b < rf_r K b ∧ rf_r K b ≤ 4096 ∧ 0 ≤ rf_u K b ∧ rf_u K b < rf_d K b ∧ rf_d K b ≤ 4096) (w1 : 1 ≤ wi) (w2 : wi ≤ 4096) (t1 : 1 ≤ ta) (t2 : ta ≤ 4096) {s6 s7 v8 : mv_V} {sm : Int} (s0 : 0 ≤ sm) (s1 : sm ≤ 1000) (k : ∀ r, bf_if (2 * ((rf_r K b - rf_l K b) * (rf_d K b - rf_u K b)) ≤ wi * ta) 10 r → mv_W md_RM_pointsOf 235 [.inr 47, .inl b, .inl (K (4 * b)), .inl (K (4 * b + 1)), .inl (K (4 * b + 2)), .inl (K (4 * b + 3)), s6, s7, v8, .inl (sm + r)] [] M (0, 0) Q) : mv_W md_RM_pointsOf 205 [.inr 47, .inl b, .inl (K (4 * b)), .inl (K (4 * b + 1)), .inl (K (4 * b + 2)), .inl (K (4 * b + 3)), s6, s7, v8, .inl sm] [] M (0, 0) Q := by
  have hu1 : rf_l K b = K (4 * b) ∧ rf_u K b = K (4 * b + 1) ∧ rf_r K b = K (4 * b) + K (4 * b + 2) ∧ rf_d K b = K (4 * b + 1) + K (4 * b + 3) := ⟨rfl, rfl, rfl, rfl⟩
  have hw : rf_r K b - rf_l K b = K (4 * b + 2) := by omega
  have hh : rf_d K b - rf_u K b = K (4 * b + 3) := by omega
  have em := Int.mul_assoc 2 (K (4 * b + 2)) (K (4 * b + 3))
  refine mx_iload d_RM_pointsOf_205 rfl ?_
  refine mx_iconst (2) d_RM_pointsOf_207 (by decide +kernel) (by unfold mv_r; omega) ?_
  refine mx_iload d_RM_pointsOf_208 rfl ?_
  refine mx_imul d_RM_pointsOf_210 (by unfold mv_r; omega) ?_
  refine mx_iload d_RM_pointsOf_211 rfl ?_
  refine mx_imul d_RM_pointsOf_213 (by have q := bf_mul (a := K (4 * b + 2)) (b := K (4 * b + 3)) (by omega) (by omega) (by omega) (by omega); unfold mv_r; omega) ?_
  refine mx_aload_n d_RM_pointsOf_214 rfl (by omega) ?_
  refine mx_gl d_RM_pointsOf_215 f_RM_59 hO rfl ?_
  refine mx_aload_n d_RM_pointsOf_218 rfl (by omega) ?_
  refine mx_gl d_RM_pointsOf_219 f_RM_63 hO rfl ?_
  refine mx_imul d_RM_pointsOf_222 (by have q := bf_mul (a := wi) (b := ta) (by omega) (by omega) (by omega) (by omega); unfold mv_r; omega) ?_
  refine mx_icmp_gt 231 d_RM_pointsOf_223 (by decide) (fun c223 => ?_) (fun c223 => ?_)
  · skip
    refine mx_iconst (0) d_RM_pointsOf_231 (by decide +kernel) (by unfold mv_r; omega) ?_
    refine mx_iadd d_RM_pointsOf_232 (by unfold mv_r; omega) ?_
    refine mx_istore d_RM_pointsOf_233 (by decide) ?_
    first | exact k 10 (Or.inl ⟨by rw [hw, hh]; omega, rfl⟩) | exact k 0 (Or.inr ⟨by rw [hw, hh]; omega, rfl⟩)
  · skip
    refine mx_bipush (10) d_RM_pointsOf_226 (by decide +kernel) (by unfold mv_r; omega) ?_
    refine mx_goto 232 d_RM_pointsOf_228 (by decide) ?_
    refine mx_iadd d_RM_pointsOf_232 (by unfold mv_r; omega) ?_
    refine mx_istore d_RM_pointsOf_233 (by decide) ?_
    first | exact k 10 (Or.inl ⟨by rw [hw, hh]; omega, rfl⟩) | exact k 0 (Or.inr ⟨by rw [hw, hh]; omega, rfl⟩)
theorem rf_p181 {Q : List mv_V → mv_M → Prop} {M : mv_M} {co wi ta bo pa wy lc fo tu bl kl se ow : Int} (hO : rf_O M co wi ta bo pa wy lc fo tu bl kl se ow) {N K : Int → Int} (hPan : M.2 49 = .inl (32, N)) (hBlk : M.2 54 = .inl (256, K)) (pa0 : 0 ≤ pa) (pa8 : pa ≤ 8) (hpo : rf_ok pa N) {b : Int} (b0 : 0 ≤ b) (b1 : b < 64) (hbb : 0 ≤ rf_l K b ∧ rf_l K b < rf_r K b ∧ rf_r K b ≤ 4096 ∧ 0 ≤ rf_u K b ∧ rf_u K b < rf_d K b ∧ rf_d K b ≤ 4096) (w1 : 1 ≤ wi) (w2 : wi ≤ 4096) (t1 : 1 ≤ ta) (t2 : ta ≤ 4096) {s6 s7 v8 : mv_V} {sm : Int} (s0 : 0 ≤ sm) (s1 : sm ≤ 1000) (k : ∀ r, bf_if (ta ≤ rf_u K b + rf_d K b) 15 r → mv_W md_RM_pointsOf 205 [.inr 47, .inl b, .inl (K (4 * b)), .inl (K (4 * b + 1)), .inl (K (4 * b + 2)), .inl (K (4 * b + 3)), s6, s7, v8, .inl (sm + r)] [] M (0, 0) Q) : mv_W md_RM_pointsOf 181 [.inr 47, .inl b, .inl (K (4 * b)), .inl (K (4 * b + 1)), .inl (K (4 * b + 2)), .inl (K (4 * b + 3)), s6, s7, v8, .inl sm] [] M (0, 0) Q := by
  have hu1 : rf_l K b = K (4 * b) ∧ rf_u K b = K (4 * b + 1) ∧ rf_r K b = K (4 * b) + K (4 * b + 2) ∧ rf_d K b = K (4 * b + 1) + K (4 * b + 3) := ⟨rfl, rfl, rfl, rfl⟩
  refine mx_iload d_RM_pointsOf_181 rfl ?_
  refine mx_iconst (2) d_RM_pointsOf_183 (by decide +kernel) (by unfold mv_r; omega) ?_
  refine mx_iload_n d_RM_pointsOf_184 rfl ?_
  refine mx_imul d_RM_pointsOf_185 (by unfold mv_r; omega) ?_
  refine mx_iload d_RM_pointsOf_186 rfl ?_
  refine mx_iadd d_RM_pointsOf_188 (by unfold mv_r; omega) ?_
  refine mx_aload_n d_RM_pointsOf_189 rfl (by omega) ?_
  refine mx_gl d_RM_pointsOf_190 f_RM_63 hO rfl ?_
  refine mx_icmp_lt 201 d_RM_pointsOf_193 (by decide) (fun c193 => ?_) (fun c193 => ?_)
  · skip
    refine mx_iconst (0) d_RM_pointsOf_201 (by decide +kernel) (by unfold mv_r; omega) ?_
    refine mx_iadd d_RM_pointsOf_202 (by unfold mv_r; omega) ?_
    refine mx_istore d_RM_pointsOf_203 (by decide) ?_
    first | exact k 15 (Or.inl ⟨by omega, rfl⟩) | exact k 0 (Or.inr ⟨by omega, rfl⟩)
  · skip
    refine mx_bipush (15) d_RM_pointsOf_196 (by decide +kernel) (by unfold mv_r; omega) ?_
    refine mx_goto 202 d_RM_pointsOf_198 (by decide) ?_
    refine mx_iadd d_RM_pointsOf_202 (by unfold mv_r; omega) ?_
    refine mx_istore d_RM_pointsOf_203 (by decide) ?_
    first | exact k 15 (Or.inl ⟨by omega, rfl⟩) | exact k 0 (Or.inr ⟨by omega, rfl⟩)
theorem rf_p157 {Q : List mv_V → mv_M → Prop} {M : mv_M} {co wi ta bo pa wy lc fo tu bl kl se ow : Int} (hO : rf_O M co wi ta bo pa wy lc fo tu bl kl se ow) {N K : Int → Int} (hPan : M.2 49 = .inl (32, N)) (hBlk : M.2 54 = .inl (256, K)) (pa0 : 0 ≤ pa) (pa8 : pa ≤ 8) (hpo : rf_ok pa N) {b : Int} (b0 : 0 ≤ b) (b1 : b < 64) (hbb : 0 ≤ rf_l K b ∧ rf_l K b < rf_r K b ∧ rf_r K b ≤ 4096 ∧ 0 ≤ rf_u K b ∧ rf_u K b < rf_d K b ∧ rf_d K b ≤ 4096) (w1 : 1 ≤ wi) (w2 : wi ≤ 4096) (t1 : 1 ≤ ta) (t2 : ta ≤ 4096) {s6 s7 v8 : mv_V} {sm : Int} (s0 : 0 ≤ sm) (s1 : sm ≤ 1000) (k : ∀ r, bf_if (wi ≤ rf_l K b + rf_r K b) 15 r → mv_W md_RM_pointsOf 181 [.inr 47, .inl b, .inl (K (4 * b)), .inl (K (4 * b + 1)), .inl (K (4 * b + 2)), .inl (K (4 * b + 3)), s6, s7, v8, .inl (sm + r)] [] M (0, 0) Q) : mv_W md_RM_pointsOf 157 [.inr 47, .inl b, .inl (K (4 * b)), .inl (K (4 * b + 1)), .inl (K (4 * b + 2)), .inl (K (4 * b + 3)), s6, s7, v8, .inl sm] [] M (0, 0) Q := by
  have hu1 : rf_l K b = K (4 * b) ∧ rf_u K b = K (4 * b + 1) ∧ rf_r K b = K (4 * b) + K (4 * b + 2) ∧ rf_d K b = K (4 * b + 1) + K (4 * b + 3) := ⟨rfl, rfl, rfl, rfl⟩
  refine mx_iload d_RM_pointsOf_157 rfl ?_
  refine mx_iconst (2) d_RM_pointsOf_159 (by decide +kernel) (by unfold mv_r; omega) ?_
  refine mx_iload_n d_RM_pointsOf_160 rfl ?_
  refine mx_imul d_RM_pointsOf_161 (by unfold mv_r; omega) ?_
  refine mx_iload d_RM_pointsOf_162 rfl ?_
  refine mx_iadd d_RM_pointsOf_164 (by unfold mv_r; omega) ?_
  refine mx_aload_n d_RM_pointsOf_165 rfl (by omega) ?_
  refine mx_gl d_RM_pointsOf_166 f_RM_59 hO rfl ?_
  refine mx_icmp_lt 177 d_RM_pointsOf_169 (by decide) (fun c169 => ?_) (fun c169 => ?_)
  · skip
    refine mx_iconst (0) d_RM_pointsOf_177 (by decide +kernel) (by unfold mv_r; omega) ?_
    refine mx_iadd d_RM_pointsOf_178 (by unfold mv_r; omega) ?_
    refine mx_istore d_RM_pointsOf_179 (by decide) ?_
    first | exact k 15 (Or.inl ⟨by omega, rfl⟩) | exact k 0 (Or.inr ⟨by omega, rfl⟩)
  · skip
    refine mx_bipush (15) d_RM_pointsOf_172 (by decide +kernel) (by unfold mv_r; omega) ?_
    refine mx_goto 178 d_RM_pointsOf_174 (by decide) ?_
    refine mx_iadd d_RM_pointsOf_178 (by unfold mv_r; omega) ?_
    refine mx_istore d_RM_pointsOf_179 (by decide) ?_
    first | exact k 15 (Or.inl ⟨by omega, rfl⟩) | exact k 0 (Or.inr ⟨by omega, rfl⟩)
theorem rf_p129 {Q : List mv_V → mv_M → Prop} {M : mv_M} {co wi ta bo pa wy lc fo tu bl kl se ow : Int} (hO : rf_O M co wi ta bo pa wy lc fo tu bl kl se ow) {N K : Int → Int} (hPan : M.2 49 = .inl (32, N)) (hBlk : M.2 54 = .inl (256, K)) (pa0 : 0 ≤ pa) (pa8 : pa ≤ 8) (hpo : rf_ok pa N) {b : Int} (b0 : 0 ≤ b) (b1 : b < 64) (hbb : 0 ≤ rf_l K b ∧ rf_l K b < rf_r K b ∧ rf_r K b ≤ 4096 ∧ 0 ≤ rf_u K b ∧ rf_u K b < rf_d K b ∧ rf_d K b ≤ 4096) (w1 : 1 ≤ wi) (w2 : wi ≤ 4096) (t1 : 1 ≤ ta) (t2 : ta ≤ 4096) {s6 s7 v8 v9 : mv_V} (hc : bf_inp pa (rf_l N) (rf_u N) (rf_r N) (rf_d N) (rf_l K) (rf_u K) (rf_r K) (rf_d K) b ∨ ¬ (bf_stamp wi ta (rf_l K) (rf_d K) b ∨ bf_sender wi ta (rf_r K) (rf_d K) b)) (k : ∀ r, bf_pts wi ta pa (rf_l N) (rf_u N) (rf_r N) (rf_d N) (rf_l K) (rf_u K) (rf_r K) (rf_d K) (fun _ => ow) b r → Q [.inl r] M) : mv_W md_RM_pointsOf 129 [.inr 47, .inl b, .inl (K (4 * b)), .inl (K (4 * b + 1)), .inl (K (4 * b + 2)), .inl (K (4 * b + 3)), s6, s7, v8, v9] [] M (0, 0) Q := by
  have KK : ∀ r0 (v8 : mv_V), ((2 ≤ ow ∧ ow ≤ 6 ∧ r0 = 30) ∨ (¬ (2 ≤ ow ∧ ow ≤ 6) ∧ r0 = 10)) → mv_W md_RM_pointsOf 157 [.inr 47, .inl b, .inl (K (4 * b)), .inl (K (4 * b + 1)), .inl (K (4 * b + 2)), .inl (K (4 * b + 3)), s6, s7, v8, .inl r0] [] M (0, 0) Q := by
    intro r0 v8 h0
    have hr0 : 0 ≤ r0 ∧ r0 ≤ 30 := by omega
    refine rf_p157 hO hPan hBlk pa0 pa8 hpo b0 b1 hbb w1 w2 t1 t2 (by omega) (by omega) (fun r1 e1 => ?_)
    have q1 := bf_if_b e1 (by omega) (by omega)
    refine rf_p181 hO hPan hBlk pa0 pa8 hpo b0 b1 hbb w1 w2 t1 t2 (by omega) (by omega) (fun r2 e2 => ?_)
    have q2 := bf_if_b e2 (by omega) (by omega)
    refine rf_p205 hO hPan hBlk pa0 pa8 hpo b0 b1 hbb w1 w2 t1 t2 (by omega) (by omega) (fun r3 e3 => ?_)
    have q3 := bf_if_b e3 (by omega) (by omega)
    refine rf_p235 hO hPan hBlk pa0 pa8 hpo b0 b1 hbb w1 w2 t1 t2 (by omega) (by omega) (fun r4 e4 => ?_)
    exact k _ (Or.inr ⟨hc, r0, r1, r2, r3, r4, h0, e1, e2, e3, e4, rfl⟩)
  refine mx_aload_n d_RM_pointsOf_129 rfl (by omega) ?_
  refine mx_gl d_RM_pointsOf_130 f_RM_142 hO rfl ?_
  refine mx_istore d_RM_pointsOf_133 (by decide) ?_
  refine mx_iload d_RM_pointsOf_135 rfl ?_
  refine mx_iconst (2) d_RM_pointsOf_137 (by decide +kernel) (by unfold mv_r; omega) ?_
  refine mx_icmp_lt 153 d_RM_pointsOf_138 (by decide) (fun c138 => ?_) (fun c138 => ?_)
  · skip
    refine mx_bipush (10) d_RM_pointsOf_153 (by decide +kernel) (by unfold mv_r; omega) ?_
    refine mx_istore d_RM_pointsOf_155 (by decide) ?_
    first | exact KK 30 _ (Or.inl ⟨by omega, by omega, rfl⟩) | exact KK 10 _ (Or.inr ⟨by omega, rfl⟩)
  · skip
    refine mx_iload d_RM_pointsOf_141 rfl ?_
    refine mx_bipush (6) d_RM_pointsOf_143 (by decide +kernel) (by unfold mv_r; omega) ?_
    refine mx_icmp_gt 153 d_RM_pointsOf_145 (by decide) (fun c145 => ?_) (fun c145 => ?_)
    · skip
      refine mx_bipush (10) d_RM_pointsOf_153 (by decide +kernel) (by unfold mv_r; omega) ?_
      refine mx_istore d_RM_pointsOf_155 (by decide) ?_
      first | exact KK 30 _ (Or.inl ⟨by omega, by omega, rfl⟩) | exact KK 10 _ (Or.inr ⟨by omega, rfl⟩)
    · skip
      refine mx_bipush (30) d_RM_pointsOf_148 (by decide +kernel) (by unfold mv_r; omega) ?_
      refine mx_goto 155 d_RM_pointsOf_150 (by decide) ?_
      refine mx_istore d_RM_pointsOf_155 (by decide) ?_
      first | exact KK 30 _ (Or.inl ⟨by omega, by omega, rfl⟩) | exact KK 10 _ (Or.inr ⟨by omega, rfl⟩)
theorem rf_pointsOf {Q : List mv_V → mv_M → Prop} {M : mv_M} {co wi ta bo pa wy lc fo tu bl kl se ow : Int} (hO : rf_O M co wi ta bo pa wy lc fo tu bl kl se ow) {N K : Int → Int} (hPan : M.2 49 = .inl (32, N)) (hBlk : M.2 54 = .inl (256, K)) (pa0 : 0 ≤ pa) (pa8 : pa ≤ 8) (hpo : rf_ok pa N) {b : Int} (b0 : 0 ≤ b) (b1 : b < 64) (hbb : 0 ≤ rf_l K b ∧ rf_l K b < rf_r K b ∧ rf_r K b ≤ 4096 ∧ 0 ≤ rf_u K b ∧ rf_u K b < rf_d K b ∧ rf_d K b ≤ 4096) (w1 : 1 ≤ wi) (w2 : wi ≤ 4096) (t1 : 1 ≤ ta) (t2 : ta ≤ 4096) (k : ∀ r, bf_pts wi ta pa (rf_l N) (rf_u N) (rf_r N) (rf_d N) (rf_l K) (rf_u K) (rf_r K) (rf_d K) (fun _ => ow) b r → Q [.inl r] M) : mv_J md_RM_pointsOf [.inr 47, .inl b] M Q := by
  refine mv_enter (by decide +kernel) (Nat.le_of_ble_eq_true rfl) ?_
  show mv_W md_RM_pointsOf 0 [.inr 47, .inl b, .inr 0, .inr 0, .inr 0, .inr 0, .inr 0, .inr 0, .inr 0, .inr 0] [] M (0, 0) Q
  have hu1 : rf_l K b = K (4 * b) ∧ rf_u K b = K (4 * b + 1) ∧ rf_r K b = K (4 * b) + K (4 * b + 2) ∧ rf_d K b = K (4 * b + 1) + K (4 * b + 3) := ⟨rfl, rfl, rfl, rfl⟩
  refine mx_aload_n d_RM_pointsOf_0 rfl (by omega) ?_
  refine mx_gl d_RM_pointsOf_1 f_RM_28 hO rfl ?_
  refine mx_iconst (4) d_RM_pointsOf_4 (by decide +kernel) (by unfold mv_r; omega) ?_
  refine mx_iload_n d_RM_pointsOf_5 rfl ?_
  refine mx_imul d_RM_pointsOf_6 (by unfold mv_r; omega) ?_
  refine mx_iald d_RM_pointsOf_7 hBlk (by omega) (by omega) ?_
  refine mx_istore_n d_RM_pointsOf_8 (by decide) ?_
  refine mx_aload_n d_RM_pointsOf_9 rfl (by omega) ?_
  refine mx_gl d_RM_pointsOf_10 f_RM_28 hO rfl ?_
  refine mx_iconst (4) d_RM_pointsOf_13 (by decide +kernel) (by unfold mv_r; omega) ?_
  refine mx_iload_n d_RM_pointsOf_14 rfl ?_
  refine mx_imul d_RM_pointsOf_15 (by unfold mv_r; omega) ?_
  refine mx_iconst (1) d_RM_pointsOf_16 (by decide +kernel) (by unfold mv_r; omega) ?_
  refine mx_iadd d_RM_pointsOf_17 (by unfold mv_r; omega) ?_
  refine mx_iald d_RM_pointsOf_18 hBlk (by omega) (by omega) ?_
  refine mx_istore_n d_RM_pointsOf_19 (by decide) ?_
  refine mx_aload_n d_RM_pointsOf_20 rfl (by omega) ?_
  refine mx_gl d_RM_pointsOf_21 f_RM_28 hO rfl ?_
  refine mx_iconst (4) d_RM_pointsOf_24 (by decide +kernel) (by unfold mv_r; omega) ?_
  refine mx_iload_n d_RM_pointsOf_25 rfl ?_
  refine mx_imul d_RM_pointsOf_26 (by unfold mv_r; omega) ?_
  refine mx_iconst (2) d_RM_pointsOf_27 (by decide +kernel) (by unfold mv_r; omega) ?_
  refine mx_iadd d_RM_pointsOf_28 (by unfold mv_r; omega) ?_
  refine mx_iald d_RM_pointsOf_29 hBlk (by omega) (by omega) ?_
  refine mx_istore d_RM_pointsOf_30 (by decide) ?_
  refine mx_aload_n d_RM_pointsOf_32 rfl (by omega) ?_
  refine mx_gl d_RM_pointsOf_33 f_RM_28 hO rfl ?_
  refine mx_iconst (4) d_RM_pointsOf_36 (by decide +kernel) (by unfold mv_r; omega) ?_
  refine mx_iload_n d_RM_pointsOf_37 rfl ?_
  refine mx_imul d_RM_pointsOf_38 (by unfold mv_r; omega) ?_
  refine mx_iconst (3) d_RM_pointsOf_39 (by decide +kernel) (by unfold mv_r; omega) ?_
  refine mx_iadd d_RM_pointsOf_40 (by unfold mv_r; omega) ?_
  refine mx_iald d_RM_pointsOf_41 hBlk (by omega) (by omega) ?_
  refine mx_istore d_RM_pointsOf_42 (by decide) ?_
  refine mx_iconst (4) d_RM_pointsOf_44 (by decide +kernel) (by unfold mv_r; omega) ?_
  refine mx_iload_n d_RM_pointsOf_45 rfl ?_
  refine mx_imul d_RM_pointsOf_46 (by unfold mv_r; omega) ?_
  refine mx_iconst (3) d_RM_pointsOf_47 (by decide +kernel) (by unfold mv_r; omega) ?_
  refine mx_aload_n d_RM_pointsOf_48 rfl (by omega) ?_
  refine mx_gl d_RM_pointsOf_49 f_RM_59 hO rfl ?_
  refine mx_imul d_RM_pointsOf_52 (by unfold mv_r; omega) ?_
  refine mx_icmp_lt 73 d_RM_pointsOf_53 (by decide) (fun c53 => ?_) (fun c53 => ?_)
  · skip
    refine mx_iconst (0) d_RM_pointsOf_73 (by decide +kernel) (by unfold mv_r; omega) ?_
    refine mx_istore d_RM_pointsOf_74 (by decide) ?_
    refine mx_iconst (2) d_RM_pointsOf_76 (by decide +kernel) (by unfold mv_r; omega) ?_
    refine mx_iload_n d_RM_pointsOf_77 rfl ?_
    refine mx_iload d_RM_pointsOf_78 rfl ?_
    refine mx_iadd d_RM_pointsOf_80 (by unfold mv_r; omega) ?_
    refine mx_imul d_RM_pointsOf_81 (by unfold mv_r; omega) ?_
    refine mx_aload_n d_RM_pointsOf_82 rfl (by omega) ?_
    refine mx_gl d_RM_pointsOf_83 f_RM_59 hO rfl ?_
    refine mx_icmp_gt 106 d_RM_pointsOf_86 (by decide) (fun c86 => ?_) (fun c86 => ?_)
    · skip
      refine mx_iconst (0) d_RM_pointsOf_106 (by decide +kernel) (by unfold mv_r; omega) ?_
      refine mx_istore d_RM_pointsOf_107 (by decide) ?_
      refine mx_iload d_RM_pointsOf_109 rfl ?_
      refine mx_n0 119 d_RM_pointsOf_111 (by decide) ?_
      refine mx_iload d_RM_pointsOf_114 rfl ?_
      refine mx_z0 129 d_RM_pointsOf_116 (by decide) ?_
      first | exact rf_p129 hO hPan hBlk pa0 pa8 hpo b0 b1 hbb w1 w2 t1 t2 (Or.inl hin) k | exact rf_p129 hO hPan hBlk pa0 pa8 hpo b0 b1 hbb w1 w2 t1 t2 (Or.inr (by unfold bf_stamp bf_sender; omega)) k
    · skip
      refine mx_iconst (4) d_RM_pointsOf_89 (by decide +kernel) (by unfold mv_r; omega) ?_
      refine mx_iload_n d_RM_pointsOf_90 rfl ?_
      refine mx_iload d_RM_pointsOf_91 rfl ?_
      refine mx_iadd d_RM_pointsOf_93 (by unfold mv_r; omega) ?_
      refine mx_imul d_RM_pointsOf_94 (by unfold mv_r; omega) ?_
      refine mx_aload_n d_RM_pointsOf_95 rfl (by omega) ?_
      refine mx_gl d_RM_pointsOf_96 f_RM_63 hO rfl ?_
      refine mx_icmp_gt 106 d_RM_pointsOf_99 (by decide) (fun c99 => ?_) (fun c99 => ?_)
      · skip
        refine mx_iconst (0) d_RM_pointsOf_106 (by decide +kernel) (by unfold mv_r; omega) ?_
        refine mx_istore d_RM_pointsOf_107 (by decide) ?_
        refine mx_iload d_RM_pointsOf_109 rfl ?_
        refine mx_n0 119 d_RM_pointsOf_111 (by decide) ?_
        refine mx_iload d_RM_pointsOf_114 rfl ?_
        refine mx_z0 129 d_RM_pointsOf_116 (by decide) ?_
        first | exact rf_p129 hO hPan hBlk pa0 pa8 hpo b0 b1 hbb w1 w2 t1 t2 (Or.inl hin) k | exact rf_p129 hO hPan hBlk pa0 pa8 hpo b0 b1 hbb w1 w2 t1 t2 (Or.inr (by unfold bf_stamp bf_sender; omega)) k
      · skip
        refine mx_iconst (1) d_RM_pointsOf_102 (by decide +kernel) (by unfold mv_r; omega) ?_
        refine mx_goto 107 d_RM_pointsOf_103 (by decide) ?_
        refine mx_istore d_RM_pointsOf_107 (by decide) ?_
        refine mx_iload d_RM_pointsOf_109 rfl ?_
        refine mx_n0 119 d_RM_pointsOf_111 (by decide) ?_
        refine mx_iload d_RM_pointsOf_114 rfl ?_
        refine mx_z1 129 d_RM_pointsOf_116 (by decide) ?_
        refine mx_aload_n d_RM_pointsOf_119 rfl (by omega) ?_
        refine mx_iload_n d_RM_pointsOf_120 rfl ?_
        refine mx_cV1 d_RM_pointsOf_121 c_RM_148 hO (by decide) (Nat.le_of_ble_eq_true rfl) ?_
        refine rf_isInPane hO hPan hBlk pa0 pa8 hpo b0 b1 hbb (fun hin => ?_) (fun hin => ?_)
        · skip
          refine mx_n1 129 d_RM_pointsOf_124 (by decide) ?_
          first | exact rf_p129 hO hPan hBlk pa0 pa8 hpo b0 b1 hbb w1 w2 t1 t2 (Or.inl hin) k | exact rf_p129 hO hPan hBlk pa0 pa8 hpo b0 b1 hbb w1 w2 t1 t2 (Or.inr (by unfold bf_stamp bf_sender; omega)) k
        · skip
          refine mx_n0 129 d_RM_pointsOf_124 (by decide) ?_
          refine mx_iconst (0) d_RM_pointsOf_127 (by decide +kernel) (by unfold mv_r; omega) ?_
          refine mx_ireturn d_RM_pointsOf_128 rfl ?_
          exact k 0 (Or.inl ⟨hin, by unfold bf_stamp bf_sender; omega, rfl⟩)
  · skip
    refine mx_iconst (3) d_RM_pointsOf_56 (by decide +kernel) (by unfold mv_r; omega) ?_
    refine mx_iload_n d_RM_pointsOf_57 rfl ?_
    refine mx_iload d_RM_pointsOf_58 rfl ?_
    refine mx_iadd d_RM_pointsOf_60 (by unfold mv_r; omega) ?_
    refine mx_imul d_RM_pointsOf_61 (by unfold mv_r; omega) ?_
    refine mx_aload_n d_RM_pointsOf_62 rfl (by omega) ?_
    refine mx_gl d_RM_pointsOf_63 f_RM_63 hO rfl ?_
    refine mx_icmp_gt 73 d_RM_pointsOf_66 (by decide) (fun c66 => ?_) (fun c66 => ?_)
    · skip
      refine mx_iconst (0) d_RM_pointsOf_73 (by decide +kernel) (by unfold mv_r; omega) ?_
      refine mx_istore d_RM_pointsOf_74 (by decide) ?_
      refine mx_iconst (2) d_RM_pointsOf_76 (by decide +kernel) (by unfold mv_r; omega) ?_
      refine mx_iload_n d_RM_pointsOf_77 rfl ?_
      refine mx_iload d_RM_pointsOf_78 rfl ?_
      refine mx_iadd d_RM_pointsOf_80 (by unfold mv_r; omega) ?_
      refine mx_imul d_RM_pointsOf_81 (by unfold mv_r; omega) ?_
      refine mx_aload_n d_RM_pointsOf_82 rfl (by omega) ?_
      refine mx_gl d_RM_pointsOf_83 f_RM_59 hO rfl ?_
      refine mx_icmp_gt 106 d_RM_pointsOf_86 (by decide) (fun c86 => ?_) (fun c86 => ?_)
      · skip
        refine mx_iconst (0) d_RM_pointsOf_106 (by decide +kernel) (by unfold mv_r; omega) ?_
        refine mx_istore d_RM_pointsOf_107 (by decide) ?_
        refine mx_iload d_RM_pointsOf_109 rfl ?_
        refine mx_n0 119 d_RM_pointsOf_111 (by decide) ?_
        refine mx_iload d_RM_pointsOf_114 rfl ?_
        refine mx_z0 129 d_RM_pointsOf_116 (by decide) ?_
        first | exact rf_p129 hO hPan hBlk pa0 pa8 hpo b0 b1 hbb w1 w2 t1 t2 (Or.inl hin) k | exact rf_p129 hO hPan hBlk pa0 pa8 hpo b0 b1 hbb w1 w2 t1 t2 (Or.inr (by unfold bf_stamp bf_sender; omega)) k
      · skip
        refine mx_iconst (4) d_RM_pointsOf_89 (by decide +kernel) (by unfold mv_r; omega) ?_
        refine mx_iload_n d_RM_pointsOf_90 rfl ?_
        refine mx_iload d_RM_pointsOf_91 rfl ?_
        refine mx_iadd d_RM_pointsOf_93 (by unfold mv_r; omega) ?_
        refine mx_imul d_RM_pointsOf_94 (by unfold mv_r; omega) ?_
        refine mx_aload_n d_RM_pointsOf_95 rfl (by omega) ?_
        refine mx_gl d_RM_pointsOf_96 f_RM_63 hO rfl ?_
        refine mx_icmp_gt 106 d_RM_pointsOf_99 (by decide) (fun c99 => ?_) (fun c99 => ?_)
        · skip
          refine mx_iconst (0) d_RM_pointsOf_106 (by decide +kernel) (by unfold mv_r; omega) ?_
          refine mx_istore d_RM_pointsOf_107 (by decide) ?_
          refine mx_iload d_RM_pointsOf_109 rfl ?_
          refine mx_n0 119 d_RM_pointsOf_111 (by decide) ?_
          refine mx_iload d_RM_pointsOf_114 rfl ?_
          refine mx_z0 129 d_RM_pointsOf_116 (by decide) ?_
          first | exact rf_p129 hO hPan hBlk pa0 pa8 hpo b0 b1 hbb w1 w2 t1 t2 (Or.inl hin) k | exact rf_p129 hO hPan hBlk pa0 pa8 hpo b0 b1 hbb w1 w2 t1 t2 (Or.inr (by unfold bf_stamp bf_sender; omega)) k
        · skip
          refine mx_iconst (1) d_RM_pointsOf_102 (by decide +kernel) (by unfold mv_r; omega) ?_
          refine mx_goto 107 d_RM_pointsOf_103 (by decide) ?_
          refine mx_istore d_RM_pointsOf_107 (by decide) ?_
          refine mx_iload d_RM_pointsOf_109 rfl ?_
          refine mx_n0 119 d_RM_pointsOf_111 (by decide) ?_
          refine mx_iload d_RM_pointsOf_114 rfl ?_
          refine mx_z1 129 d_RM_pointsOf_116 (by decide) ?_
          refine mx_aload_n d_RM_pointsOf_119 rfl (by omega) ?_
          refine mx_iload_n d_RM_pointsOf_120 rfl ?_
          refine mx_cV1 d_RM_pointsOf_121 c_RM_148 hO (by decide) (Nat.le_of_ble_eq_true rfl) ?_
          refine rf_isInPane hO hPan hBlk pa0 pa8 hpo b0 b1 hbb (fun hin => ?_) (fun hin => ?_)
          · skip
            refine mx_n1 129 d_RM_pointsOf_124 (by decide) ?_
            first | exact rf_p129 hO hPan hBlk pa0 pa8 hpo b0 b1 hbb w1 w2 t1 t2 (Or.inl hin) k | exact rf_p129 hO hPan hBlk pa0 pa8 hpo b0 b1 hbb w1 w2 t1 t2 (Or.inr (by unfold bf_stamp bf_sender; omega)) k
          · skip
            refine mx_n0 129 d_RM_pointsOf_124 (by decide) ?_
            refine mx_iconst (0) d_RM_pointsOf_127 (by decide +kernel) (by unfold mv_r; omega) ?_
            refine mx_ireturn d_RM_pointsOf_128 rfl ?_
            exact k 0 (Or.inl ⟨hin, by unfold bf_stamp bf_sender; omega, rfl⟩)
    · skip
      refine mx_iconst (1) d_RM_pointsOf_69 (by decide +kernel) (by unfold mv_r; omega) ?_
      refine mx_goto 74 d_RM_pointsOf_70 (by decide) ?_
      refine mx_istore d_RM_pointsOf_74 (by decide) ?_
      refine mx_iconst (2) d_RM_pointsOf_76 (by decide +kernel) (by unfold mv_r; omega) ?_
      refine mx_iload_n d_RM_pointsOf_77 rfl ?_
      refine mx_iload d_RM_pointsOf_78 rfl ?_
      refine mx_iadd d_RM_pointsOf_80 (by unfold mv_r; omega) ?_
      refine mx_imul d_RM_pointsOf_81 (by unfold mv_r; omega) ?_
      refine mx_aload_n d_RM_pointsOf_82 rfl (by omega) ?_
      refine mx_gl d_RM_pointsOf_83 f_RM_59 hO rfl ?_
      refine mx_icmp_gt 106 d_RM_pointsOf_86 (by decide) (fun c86 => ?_) (fun c86 => ?_)
      · skip
        refine mx_iconst (0) d_RM_pointsOf_106 (by decide +kernel) (by unfold mv_r; omega) ?_
        refine mx_istore d_RM_pointsOf_107 (by decide) ?_
        refine mx_iload d_RM_pointsOf_109 rfl ?_
        refine mx_n1 119 d_RM_pointsOf_111 (by decide) ?_
        refine mx_aload_n d_RM_pointsOf_119 rfl (by omega) ?_
        refine mx_iload_n d_RM_pointsOf_120 rfl ?_
        refine mx_cV1 d_RM_pointsOf_121 c_RM_148 hO (by decide) (Nat.le_of_ble_eq_true rfl) ?_
        refine rf_isInPane hO hPan hBlk pa0 pa8 hpo b0 b1 hbb (fun hin => ?_) (fun hin => ?_)
        · skip
          refine mx_n1 129 d_RM_pointsOf_124 (by decide) ?_
          first | exact rf_p129 hO hPan hBlk pa0 pa8 hpo b0 b1 hbb w1 w2 t1 t2 (Or.inl hin) k | exact rf_p129 hO hPan hBlk pa0 pa8 hpo b0 b1 hbb w1 w2 t1 t2 (Or.inr (by unfold bf_stamp bf_sender; omega)) k
        · skip
          refine mx_n0 129 d_RM_pointsOf_124 (by decide) ?_
          refine mx_iconst (0) d_RM_pointsOf_127 (by decide +kernel) (by unfold mv_r; omega) ?_
          refine mx_ireturn d_RM_pointsOf_128 rfl ?_
          exact k 0 (Or.inl ⟨hin, by unfold bf_stamp bf_sender; omega, rfl⟩)
      · skip
        refine mx_iconst (4) d_RM_pointsOf_89 (by decide +kernel) (by unfold mv_r; omega) ?_
        refine mx_iload_n d_RM_pointsOf_90 rfl ?_
        refine mx_iload d_RM_pointsOf_91 rfl ?_
        refine mx_iadd d_RM_pointsOf_93 (by unfold mv_r; omega) ?_
        refine mx_imul d_RM_pointsOf_94 (by unfold mv_r; omega) ?_
        refine mx_aload_n d_RM_pointsOf_95 rfl (by omega) ?_
        refine mx_gl d_RM_pointsOf_96 f_RM_63 hO rfl ?_
        refine mx_icmp_gt 106 d_RM_pointsOf_99 (by decide) (fun c99 => ?_) (fun c99 => ?_)
        · skip
          refine mx_iconst (0) d_RM_pointsOf_106 (by decide +kernel) (by unfold mv_r; omega) ?_
          refine mx_istore d_RM_pointsOf_107 (by decide) ?_
          refine mx_iload d_RM_pointsOf_109 rfl ?_
          refine mx_n1 119 d_RM_pointsOf_111 (by decide) ?_
          refine mx_aload_n d_RM_pointsOf_119 rfl (by omega) ?_
          refine mx_iload_n d_RM_pointsOf_120 rfl ?_
          refine mx_cV1 d_RM_pointsOf_121 c_RM_148 hO (by decide) (Nat.le_of_ble_eq_true rfl) ?_
          refine rf_isInPane hO hPan hBlk pa0 pa8 hpo b0 b1 hbb (fun hin => ?_) (fun hin => ?_)
          · skip
            refine mx_n1 129 d_RM_pointsOf_124 (by decide) ?_
            first | exact rf_p129 hO hPan hBlk pa0 pa8 hpo b0 b1 hbb w1 w2 t1 t2 (Or.inl hin) k | exact rf_p129 hO hPan hBlk pa0 pa8 hpo b0 b1 hbb w1 w2 t1 t2 (Or.inr (by unfold bf_stamp bf_sender; omega)) k
          · skip
            refine mx_n0 129 d_RM_pointsOf_124 (by decide) ?_
            refine mx_iconst (0) d_RM_pointsOf_127 (by decide +kernel) (by unfold mv_r; omega) ?_
            refine mx_ireturn d_RM_pointsOf_128 rfl ?_
            exact k 0 (Or.inl ⟨hin, by unfold bf_stamp bf_sender; omega, rfl⟩)
        · skip
          refine mx_iconst (1) d_RM_pointsOf_102 (by decide +kernel) (by unfold mv_r; omega) ?_
          refine mx_goto 107 d_RM_pointsOf_103 (by decide) ?_
          refine mx_istore d_RM_pointsOf_107 (by decide) ?_
          refine mx_iload d_RM_pointsOf_109 rfl ?_
          refine mx_n1 119 d_RM_pointsOf_111 (by decide) ?_
          refine mx_aload_n d_RM_pointsOf_119 rfl (by omega) ?_
          refine mx_iload_n d_RM_pointsOf_120 rfl ?_
          refine mx_cV1 d_RM_pointsOf_121 c_RM_148 hO (by decide) (Nat.le_of_ble_eq_true rfl) ?_
          refine rf_isInPane hO hPan hBlk pa0 pa8 hpo b0 b1 hbb (fun hin => ?_) (fun hin => ?_)
          · skip
            refine mx_n1 129 d_RM_pointsOf_124 (by decide) ?_
            first | exact rf_p129 hO hPan hBlk pa0 pa8 hpo b0 b1 hbb w1 w2 t1 t2 (Or.inl hin) k | exact rf_p129 hO hPan hBlk pa0 pa8 hpo b0 b1 hbb w1 w2 t1 t2 (Or.inr (by unfold bf_stamp bf_sender; omega)) k
          · skip
            refine mx_n0 129 d_RM_pointsOf_124 (by decide) ?_
            refine mx_iconst (0) d_RM_pointsOf_127 (by decide +kernel) (by unfold mv_r; omega) ?_
            refine mx_ireturn d_RM_pointsOf_128 rfl ?_
            exact k 0 (Or.inl ⟨hin, by unfold bf_stamp bf_sender; omega, rfl⟩)
def rf_cb (t : Int) (K Z S : Int → Int) (a b : Int) : Prop := Z b < Z a ∨ (Z a = Z b ∧ (bf_o t (rf_u K) (rf_l K) a < bf_o t (rf_u K) (rf_l K) b ∨ (bf_o t (rf_u K) (rf_l K) a = bf_o t (rf_u K) (rf_l K) b ∧ (bf_o t (rf_l K) (rf_u K) a < bf_o t (rf_l K) (rf_u K) b ∨ (bf_o t (rf_l K) (rf_u K) a = bf_o t (rf_l K) (rf_u K) b ∧ S a < S b)))))
theorem rf_isFirst {Q : List mv_V → mv_M → Prop} {M : mv_M} {co wi ta bo pa wy lc fo tu bl kl se ow : Int} (hO : rf_O M co wi ta bo pa wy lc fo tu bl kl se ow) (htu : tu = 0 ∨ tu = 1) {K Z S : Int → Int} (hPts : M.2 56 = .inl (64, Z)) (hBlk : M.2 54 = .inl (256, K)) (hBle : M.2 55 = .inl (64, S)) {a b : Int} (a0 : 0 ≤ a) (a1 : a < 64) (b0 : 0 ≤ b) (b1 : b < 64) (k1 : rf_cb tu K Z S a b → Q [.inl 1] M) (k0 : ¬ rf_cb tu K Z S a b → Q [.inl 0] M) : mv_J md_RM_isFirst [.inr 47, .inl a, .inl b] M Q := by
  refine mv_enter (by decide +kernel) (Nat.le_of_ble_eq_true rfl) ?_
  show mv_W md_RM_isFirst 0 [.inr 47, .inl a, .inl b, .inr 0, .inr 0, .inr 0, .inr 0, .inr 0] [] M (0, 0) Q
  have hza : bf_o 0 (rf_u K) (rf_l K) a = K (4 * a + 1) ∧ bf_o 0 (rf_l K) (rf_u K) a = K (4 * a) ∧ bf_o 1 (rf_u K) (rf_l K) a = K (4 * a) ∧ bf_o 1 (rf_l K) (rf_u K) a = K (4 * a + 1) := ⟨bf_o0, bf_o0, bf_o1, bf_o1⟩
  have hzb : bf_o 0 (rf_u K) (rf_l K) b = K (4 * b + 1) ∧ bf_o 0 (rf_l K) (rf_u K) b = K (4 * b) ∧ bf_o 1 (rf_u K) (rf_l K) b = K (4 * b) ∧ bf_o 1 (rf_l K) (rf_u K) b = K (4 * b + 1) := ⟨bf_o0, bf_o0, bf_o1, bf_o1⟩
  refine mx_aload_n d_RM_isFirst_0 rfl (by omega) ?_
  refine mx_gl d_RM_isFirst_1 f_RM_34 hO rfl ?_
  refine mx_iload_n d_RM_isFirst_4 rfl ?_
  refine mx_iald d_RM_isFirst_5 hPts (by omega) (by omega) ?_
  refine mx_aload_n d_RM_isFirst_6 rfl (by omega) ?_
  refine mx_gl d_RM_isFirst_7 f_RM_34 hO rfl ?_
  refine mx_iload_n d_RM_isFirst_10 rfl ?_
  refine mx_iald d_RM_isFirst_11 hPts (by omega) (by omega) ?_
  refine mx_icmp_eq 36 d_RM_isFirst_12 (by decide) (fun c12 => ?_) (fun c12 => ?_)
  · skip
    refine mx_aload_n d_RM_isFirst_36 rfl (by omega) ?_
    refine mx_gl d_RM_isFirst_37 f_RM_152 hO rfl ?_
    refine mx_if_eq 47 d_RM_isFirst_40 (by decide) (fun c40 => ?_) (fun c40 => ?_)
    · skip
      obtain rfl : tu = 0 := c40
      refine mx_iconst (1) d_RM_isFirst_47 (by decide +kernel) (by unfold mv_r; omega) ?_
      refine mx_istore_n d_RM_isFirst_48 (by decide) ?_
      refine mx_aload_n d_RM_isFirst_49 rfl (by omega) ?_
      refine mx_gl d_RM_isFirst_50 f_RM_28 hO rfl ?_
      refine mx_iconst (4) d_RM_isFirst_53 (by decide +kernel) (by unfold mv_r; omega) ?_
      refine mx_iload_n d_RM_isFirst_54 rfl ?_
      refine mx_imul d_RM_isFirst_55 (by unfold mv_r; omega) ?_
      refine mx_iload_n d_RM_isFirst_56 rfl ?_
      refine mx_iadd d_RM_isFirst_57 (by unfold mv_r; omega) ?_
      try simp only [Int.add_zero, Int.sub_zero]
      refine mx_iald d_RM_isFirst_58 hBlk (by omega) (by omega) ?_
      refine mx_istore d_RM_isFirst_59 (by decide) ?_
      refine mx_aload_n d_RM_isFirst_61 rfl (by omega) ?_
      refine mx_gl d_RM_isFirst_62 f_RM_28 hO rfl ?_
      refine mx_iconst (4) d_RM_isFirst_65 (by decide +kernel) (by unfold mv_r; omega) ?_
      refine mx_iload_n d_RM_isFirst_66 rfl ?_
      refine mx_imul d_RM_isFirst_67 (by unfold mv_r; omega) ?_
      refine mx_iload_n d_RM_isFirst_68 rfl ?_
      refine mx_iadd d_RM_isFirst_69 (by unfold mv_r; omega) ?_
      try simp only [Int.add_zero, Int.sub_zero]
      refine mx_iald d_RM_isFirst_70 hBlk (by omega) (by omega) ?_
      refine mx_istore d_RM_isFirst_71 (by decide) ?_
      refine mx_iload d_RM_isFirst_73 rfl ?_
      refine mx_iload d_RM_isFirst_75 rfl ?_
      refine mx_icmp_eq 93 d_RM_isFirst_77 (by decide) (fun c77 => ?_) (fun c77 => ?_)
      · skip
        refine mx_aload_n d_RM_isFirst_93 rfl (by omega) ?_
        refine mx_gl d_RM_isFirst_94 f_RM_28 hO rfl ?_
        refine mx_iconst (4) d_RM_isFirst_97 (by decide +kernel) (by unfold mv_r; omega) ?_
        refine mx_iload_n d_RM_isFirst_98 rfl ?_
        refine mx_imul d_RM_isFirst_99 (by unfold mv_r; omega) ?_
        refine mx_iconst (1) d_RM_isFirst_100 (by decide +kernel) (by unfold mv_r; omega) ?_
        refine mx_iadd d_RM_isFirst_101 (by unfold mv_r; omega) ?_
        refine mx_iload_n d_RM_isFirst_102 rfl ?_
        refine mx_isub d_RM_isFirst_103 (by unfold mv_r; omega) ?_
        try simp only [Int.add_zero, Int.sub_zero]
        try rw [show 4 * a + 1 - 1 = 4 * a by omega]
        refine mx_iald d_RM_isFirst_104 hBlk (by omega) (by omega) ?_
        refine mx_istore d_RM_isFirst_105 (by decide) ?_
        refine mx_aload_n d_RM_isFirst_107 rfl (by omega) ?_
        refine mx_gl d_RM_isFirst_108 f_RM_28 hO rfl ?_
        refine mx_iconst (4) d_RM_isFirst_111 (by decide +kernel) (by unfold mv_r; omega) ?_
        refine mx_iload_n d_RM_isFirst_112 rfl ?_
        refine mx_imul d_RM_isFirst_113 (by unfold mv_r; omega) ?_
        refine mx_iconst (1) d_RM_isFirst_114 (by decide +kernel) (by unfold mv_r; omega) ?_
        refine mx_iadd d_RM_isFirst_115 (by unfold mv_r; omega) ?_
        refine mx_iload_n d_RM_isFirst_116 rfl ?_
        refine mx_isub d_RM_isFirst_117 (by unfold mv_r; omega) ?_
        try simp only [Int.add_zero, Int.sub_zero]
        try rw [show 4 * b + 1 - 1 = 4 * b by omega]
        refine mx_iald d_RM_isFirst_118 hBlk (by omega) (by omega) ?_
        refine mx_istore d_RM_isFirst_119 (by decide) ?_
        refine mx_iload d_RM_isFirst_121 rfl ?_
        refine mx_iload d_RM_isFirst_123 rfl ?_
        refine mx_icmp_eq 143 d_RM_isFirst_125 (by decide) (fun c125 => ?_) (fun c125 => ?_)
        · skip
          refine mx_aload_n d_RM_isFirst_143 rfl (by omega) ?_
          refine mx_gl d_RM_isFirst_144 f_RM_31 hO rfl ?_
          refine mx_iload_n d_RM_isFirst_147 rfl ?_
          refine mx_iald d_RM_isFirst_148 hBle (by omega) (by omega) ?_
          refine mx_aload_n d_RM_isFirst_149 rfl (by omega) ?_
          refine mx_gl d_RM_isFirst_150 f_RM_31 hO rfl ?_
          refine mx_iload_n d_RM_isFirst_153 rfl ?_
          refine mx_iald d_RM_isFirst_154 hBle (by omega) (by omega) ?_
          refine mx_icmp_ge 162 d_RM_isFirst_155 (by decide) (fun c155 => ?_) (fun c155 => ?_)
          · skip
            refine mx_iconst (0) d_RM_isFirst_162 (by decide +kernel) (by unfold mv_r; omega) ?_
            refine mx_zreturn d_RM_isFirst_163 rfl (by omega) ?_
            first | exact k1 (by unfold rf_cb; omega) | exact k0 (by unfold rf_cb; omega)
          · skip
            refine mx_iconst (1) d_RM_isFirst_158 (by decide +kernel) (by unfold mv_r; omega) ?_
            refine mx_goto 163 d_RM_isFirst_159 (by decide) ?_
            refine mx_zreturn d_RM_isFirst_163 rfl (by omega) ?_
            first | exact k1 (by unfold rf_cb; omega) | exact k0 (by unfold rf_cb; omega)
        · skip
          refine mx_iload d_RM_isFirst_128 rfl ?_
          refine mx_iload d_RM_isFirst_130 rfl ?_
          refine mx_icmp_ge 139 d_RM_isFirst_132 (by decide) (fun c132 => ?_) (fun c132 => ?_)
          · skip
            refine mx_iconst (0) d_RM_isFirst_139 (by decide +kernel) (by unfold mv_r; omega) ?_
            refine mx_goto 163 d_RM_isFirst_140 (by decide) ?_
            refine mx_zreturn d_RM_isFirst_163 rfl (by omega) ?_
            first | exact k1 (by unfold rf_cb; omega) | exact k0 (by unfold rf_cb; omega)
          · skip
            refine mx_iconst (1) d_RM_isFirst_135 (by decide +kernel) (by unfold mv_r; omega) ?_
            refine mx_goto 163 d_RM_isFirst_136 (by decide) ?_
            refine mx_zreturn d_RM_isFirst_163 rfl (by omega) ?_
            first | exact k1 (by unfold rf_cb; omega) | exact k0 (by unfold rf_cb; omega)
      · skip
        refine mx_iload d_RM_isFirst_80 rfl ?_
        refine mx_iload d_RM_isFirst_82 rfl ?_
        refine mx_icmp_ge 91 d_RM_isFirst_84 (by decide) (fun c84 => ?_) (fun c84 => ?_)
        · skip
          refine mx_iconst (0) d_RM_isFirst_91 (by decide +kernel) (by unfold mv_r; omega) ?_
          refine mx_zreturn d_RM_isFirst_92 rfl (by omega) ?_
          first | exact k1 (by unfold rf_cb; omega) | exact k0 (by unfold rf_cb; omega)
        · skip
          refine mx_iconst (1) d_RM_isFirst_87 (by decide +kernel) (by unfold mv_r; omega) ?_
          refine mx_goto 92 d_RM_isFirst_88 (by decide) ?_
          refine mx_zreturn d_RM_isFirst_92 rfl (by omega) ?_
          first | exact k1 (by unfold rf_cb; omega) | exact k0 (by unfold rf_cb; omega)
    · skip
      obtain rfl : tu = 1 := by omega
      refine mx_iconst (0) d_RM_isFirst_43 (by decide +kernel) (by unfold mv_r; omega) ?_
      refine mx_goto 48 d_RM_isFirst_44 (by decide) ?_
      refine mx_istore_n d_RM_isFirst_48 (by decide) ?_
      refine mx_aload_n d_RM_isFirst_49 rfl (by omega) ?_
      refine mx_gl d_RM_isFirst_50 f_RM_28 hO rfl ?_
      refine mx_iconst (4) d_RM_isFirst_53 (by decide +kernel) (by unfold mv_r; omega) ?_
      refine mx_iload_n d_RM_isFirst_54 rfl ?_
      refine mx_imul d_RM_isFirst_55 (by unfold mv_r; omega) ?_
      refine mx_iload_n d_RM_isFirst_56 rfl ?_
      refine mx_iadd d_RM_isFirst_57 (by unfold mv_r; omega) ?_
      try simp only [Int.add_zero, Int.sub_zero]
      refine mx_iald d_RM_isFirst_58 hBlk (by omega) (by omega) ?_
      refine mx_istore d_RM_isFirst_59 (by decide) ?_
      refine mx_aload_n d_RM_isFirst_61 rfl (by omega) ?_
      refine mx_gl d_RM_isFirst_62 f_RM_28 hO rfl ?_
      refine mx_iconst (4) d_RM_isFirst_65 (by decide +kernel) (by unfold mv_r; omega) ?_
      refine mx_iload_n d_RM_isFirst_66 rfl ?_
      refine mx_imul d_RM_isFirst_67 (by unfold mv_r; omega) ?_
      refine mx_iload_n d_RM_isFirst_68 rfl ?_
      refine mx_iadd d_RM_isFirst_69 (by unfold mv_r; omega) ?_
      try simp only [Int.add_zero, Int.sub_zero]
      refine mx_iald d_RM_isFirst_70 hBlk (by omega) (by omega) ?_
      refine mx_istore d_RM_isFirst_71 (by decide) ?_
      refine mx_iload d_RM_isFirst_73 rfl ?_
      refine mx_iload d_RM_isFirst_75 rfl ?_
      refine mx_icmp_eq 93 d_RM_isFirst_77 (by decide) (fun c77 => ?_) (fun c77 => ?_)
      · skip
        refine mx_aload_n d_RM_isFirst_93 rfl (by omega) ?_
        refine mx_gl d_RM_isFirst_94 f_RM_28 hO rfl ?_
        refine mx_iconst (4) d_RM_isFirst_97 (by decide +kernel) (by unfold mv_r; omega) ?_
        refine mx_iload_n d_RM_isFirst_98 rfl ?_
        refine mx_imul d_RM_isFirst_99 (by unfold mv_r; omega) ?_
        refine mx_iconst (1) d_RM_isFirst_100 (by decide +kernel) (by unfold mv_r; omega) ?_
        refine mx_iadd d_RM_isFirst_101 (by unfold mv_r; omega) ?_
        refine mx_iload_n d_RM_isFirst_102 rfl ?_
        refine mx_isub d_RM_isFirst_103 (by unfold mv_r; omega) ?_
        try simp only [Int.add_zero, Int.sub_zero]
        try rw [show 4 * a + 1 - 1 = 4 * a by omega]
        refine mx_iald d_RM_isFirst_104 hBlk (by omega) (by omega) ?_
        refine mx_istore d_RM_isFirst_105 (by decide) ?_
        refine mx_aload_n d_RM_isFirst_107 rfl (by omega) ?_
        refine mx_gl d_RM_isFirst_108 f_RM_28 hO rfl ?_
        refine mx_iconst (4) d_RM_isFirst_111 (by decide +kernel) (by unfold mv_r; omega) ?_
        refine mx_iload_n d_RM_isFirst_112 rfl ?_
        refine mx_imul d_RM_isFirst_113 (by unfold mv_r; omega) ?_
        refine mx_iconst (1) d_RM_isFirst_114 (by decide +kernel) (by unfold mv_r; omega) ?_
        refine mx_iadd d_RM_isFirst_115 (by unfold mv_r; omega) ?_
        refine mx_iload_n d_RM_isFirst_116 rfl ?_
        refine mx_isub d_RM_isFirst_117 (by unfold mv_r; omega) ?_
        try simp only [Int.add_zero, Int.sub_zero]
        try rw [show 4 * b + 1 - 1 = 4 * b by omega]
        refine mx_iald d_RM_isFirst_118 hBlk (by omega) (by omega) ?_
        refine mx_istore d_RM_isFirst_119 (by decide) ?_
        refine mx_iload d_RM_isFirst_121 rfl ?_
        refine mx_iload d_RM_isFirst_123 rfl ?_
        refine mx_icmp_eq 143 d_RM_isFirst_125 (by decide) (fun c125 => ?_) (fun c125 => ?_)
        · skip
          refine mx_aload_n d_RM_isFirst_143 rfl (by omega) ?_
          refine mx_gl d_RM_isFirst_144 f_RM_31 hO rfl ?_
          refine mx_iload_n d_RM_isFirst_147 rfl ?_
          refine mx_iald d_RM_isFirst_148 hBle (by omega) (by omega) ?_
          refine mx_aload_n d_RM_isFirst_149 rfl (by omega) ?_
          refine mx_gl d_RM_isFirst_150 f_RM_31 hO rfl ?_
          refine mx_iload_n d_RM_isFirst_153 rfl ?_
          refine mx_iald d_RM_isFirst_154 hBle (by omega) (by omega) ?_
          refine mx_icmp_ge 162 d_RM_isFirst_155 (by decide) (fun c155 => ?_) (fun c155 => ?_)
          · skip
            refine mx_iconst (0) d_RM_isFirst_162 (by decide +kernel) (by unfold mv_r; omega) ?_
            refine mx_zreturn d_RM_isFirst_163 rfl (by omega) ?_
            first | exact k1 (by unfold rf_cb; omega) | exact k0 (by unfold rf_cb; omega)
          · skip
            refine mx_iconst (1) d_RM_isFirst_158 (by decide +kernel) (by unfold mv_r; omega) ?_
            refine mx_goto 163 d_RM_isFirst_159 (by decide) ?_
            refine mx_zreturn d_RM_isFirst_163 rfl (by omega) ?_
            first | exact k1 (by unfold rf_cb; omega) | exact k0 (by unfold rf_cb; omega)
        · skip
          refine mx_iload d_RM_isFirst_128 rfl ?_
          refine mx_iload d_RM_isFirst_130 rfl ?_
          refine mx_icmp_ge 139 d_RM_isFirst_132 (by decide) (fun c132 => ?_) (fun c132 => ?_)
          · skip
            refine mx_iconst (0) d_RM_isFirst_139 (by decide +kernel) (by unfold mv_r; omega) ?_
            refine mx_goto 163 d_RM_isFirst_140 (by decide) ?_
            refine mx_zreturn d_RM_isFirst_163 rfl (by omega) ?_
            first | exact k1 (by unfold rf_cb; omega) | exact k0 (by unfold rf_cb; omega)
          · skip
            refine mx_iconst (1) d_RM_isFirst_135 (by decide +kernel) (by unfold mv_r; omega) ?_
            refine mx_goto 163 d_RM_isFirst_136 (by decide) ?_
            refine mx_zreturn d_RM_isFirst_163 rfl (by omega) ?_
            first | exact k1 (by unfold rf_cb; omega) | exact k0 (by unfold rf_cb; omega)
      · skip
        refine mx_iload d_RM_isFirst_80 rfl ?_
        refine mx_iload d_RM_isFirst_82 rfl ?_
        refine mx_icmp_ge 91 d_RM_isFirst_84 (by decide) (fun c84 => ?_) (fun c84 => ?_)
        · skip
          refine mx_iconst (0) d_RM_isFirst_91 (by decide +kernel) (by unfold mv_r; omega) ?_
          refine mx_zreturn d_RM_isFirst_92 rfl (by omega) ?_
          first | exact k1 (by unfold rf_cb; omega) | exact k0 (by unfold rf_cb; omega)
        · skip
          refine mx_iconst (1) d_RM_isFirst_87 (by decide +kernel) (by unfold mv_r; omega) ?_
          refine mx_goto 92 d_RM_isFirst_88 (by decide) ?_
          refine mx_zreturn d_RM_isFirst_92 rfl (by omega) ?_
          first | exact k1 (by unfold rf_cb; omega) | exact k0 (by unfold rf_cb; omega)
  · skip
    refine mx_aload_n d_RM_isFirst_15 rfl (by omega) ?_
    refine mx_gl d_RM_isFirst_16 f_RM_34 hO rfl ?_
    refine mx_iload_n d_RM_isFirst_19 rfl ?_
    refine mx_iald d_RM_isFirst_20 hPts (by omega) (by omega) ?_
    refine mx_aload_n d_RM_isFirst_21 rfl (by omega) ?_
    refine mx_gl d_RM_isFirst_22 f_RM_34 hO rfl ?_
    refine mx_iload_n d_RM_isFirst_25 rfl ?_
    refine mx_iald d_RM_isFirst_26 hPts (by omega) (by omega) ?_
    refine mx_icmp_le 34 d_RM_isFirst_27 (by decide) (fun c27 => ?_) (fun c27 => ?_)
    · skip
      refine mx_iconst (0) d_RM_isFirst_34 (by decide +kernel) (by unfold mv_r; omega) ?_
      refine mx_zreturn d_RM_isFirst_35 rfl (by omega) ?_
      first | exact k1 (by unfold rf_cb; omega) | exact k0 (by unfold rf_cb; omega)
    · skip
      refine mx_iconst (1) d_RM_isFirst_30 (by decide +kernel) (by unfold mv_r; omega) ?_
      refine mx_goto 35 d_RM_isFirst_31 (by decide) ?_
      refine mx_zreturn d_RM_isFirst_35 rfl (by omega) ?_
      first | exact k1 (by unfold rf_cb; omega) | exact k0 (by unfold rf_cb; omega)
theorem rf_cb_tr {t : Int} {K Z S : Int → Int} : ∀ a b c, rf_cb t K Z S a b → rf_cb t K Z S b c → rf_cb t K Z S a c := by intro a b c; unfold rf_cb; omega
theorem rf_cb_ir {t : Int} {K Z S : Int → Int} : ∀ a, ¬ rf_cb t K Z S a a := by intro a; unfold rf_cb; omega
/-- putting one more in its place; the order is total on what there is -/
theorem pu_ins2 {g fr : Int} {O0 O : Int → Int} {cb : Int → Int → Prop} (h : pu_ord g O0 cb) (g0 : 0 ≤ g) (f0 : 0 ≤ fr) (f1 : fr ≤ g) (tr : ∀ a b c, cb a b → cb b c → cb a c) (to : ∀ a, 0 ≤ a → a < g → ¬ cb g a → cb a g)
    (h1 : ∀ p, 0 ≤ p → p < fr → O p = O0 p) (h2 : ∀ p, fr ≤ p → p < g → O (p + 1) = O0 p) (h3 : ∀ p, fr ≤ p → p < g → cb g (O0 p)) (h4 : fr = 0 ∨ ¬ cb g (O0 (fr - 1))) : pu_ord (g + 1) (mv_s O fr g) cb := by
  obtain ⟨ha, hb, hc⟩ := h
  have hlow : ∀ p, 0 ≤ p → p < fr → cb (O0 p) g := fun p p0 p1 => by
    have hl : cb (O0 (fr - 1)) g := by
      rcases h4 with h4 | h4
      · omega
      · have := ha (fr - 1) (by omega) (by omega)
        exact to (O0 (fr - 1)) this.1 this.2 h4
    by_cases hp : p = fr - 1
    · rw [hp]; exact hl
    · exact tr _ _ _ (hb p (fr - 1) p0 (by omega) (by omega)) hl
  have e1 : ∀ p, 0 ≤ p → p < fr → mv_s O fr g p = O0 p := fun p p0 p1 => by rw [mv_sn (by omega)]; exact h1 p p0 p1
  have e2 : ∀ p, fr < p → p < g + 1 → mv_s O fr g p = O0 (p - 1) := fun p p0 p1 => by
    rw [mv_sn (by omega)]
    have := h2 (p - 1) (by omega) (by omega)
    rw [show p - 1 + 1 = p by omega] at this
    exact this
  have e3 : mv_s O fr g fr = g := mv_ss
  refine ⟨fun p p0 p1 => ?_, fun p q p0 p1 q1 => ?_, fun x x0 x1 => ?_⟩
  · rcases Int.lt_trichotomy p fr with q | q | q
    · rw [e1 p p0 q]; have := ha p p0 (by omega); omega
    · rw [q, e3]; omega
    · rw [e2 p q p1]; have := ha (p - 1) (by omega) (by omega); omega
  · rcases Int.lt_trichotomy q fr with hq | hq | hq
    · rw [e1 p p0 (by omega), e1 q (by omega) hq]; exact hb p q p0 p1 (by omega)
    · rw [e1 p p0 (by omega), hq, e3]; exact hlow p p0 (by omega)
    · rw [e2 q hq q1]
      rcases Int.lt_trichotomy p fr with hp | hp | hp
      · rw [e1 p p0 hp]; exact hb p (q - 1) p0 (by omega) (by omega)
      · rw [hp, e3]; exact h3 (q - 1) (by omega) (by omega)
      · rw [e2 p hp (by omega)]; exact hb (p - 1) (q - 1) (by omega) (by omega) (by omega)
  · by_cases hx : x = g
    · exact ⟨fr, f0, by omega, by rw [e3, hx]⟩
    · obtain ⟨p, p0, p1, p2⟩ := hc x x0 (by omega)
      by_cases hp : p < fr
      · exact ⟨p, p0, by omega, by rw [e1 p p0 hp, p2]⟩
      · exact ⟨p + 1, by omega, by omega, by rw [e2 (p + 1) (by omega) (by omega), show p + 1 - 1 = p by omega, p2]⟩
theorem rf_rk_j {Q : List mv_V → mv_M → Prop} {M0 : mv_M} {co wi ta bo pa wy lc fo tu bl kl se ow : Int} (hO0 : rf_O M0 co wi ta bo pa wy lc fo tu bl kl se ow) (htu : tu = 0 ∨ tu = 1) {K Z S : Int → Int} (hZ0 : M0.2 56 = .inl (64, Z)) (hK0 : M0.2 54 = .inl (256, K)) (hS0 : M0.2 55 = .inl (64, S)) (hbl : bl ≤ 64) (hSd : ∀ a b, 0 ≤ a → a < bl → 0 ≤ b → b < bl → S a = S b → a = b) {g : Int} {O0 : Int → Int} (g0 : 0 ≤ g) (g1 : g < bl) (hor : pu_ord g O0 (rf_cb tu K Z S)) (k : ∀ M' O fr, bf_fr M0 M' 58 59 → M'.2 58 = .inl (64, O) → 0 ≤ fr → fr ≤ g → pu_ord (g + 1) (mv_s O fr g) (rf_cb tu K Z S) → mv_W md_RM_rank 52 [.inr 47, .inl g, .inl fr] [] M' (0, 0) Q) : ∀ (d : Nat) (fr : Int) (M : mv_M) (O : Int → Int), fr < d → 0 ≤ fr → fr ≤ g → bf_fr M0 M 58 59 → M.2 58 = .inl (64, O) → (∀ p, 0 ≤ p → p < fr → O p = O0 p) → (∀ p, fr ≤ p → p < g → O (p + 1) = O0 p) → (∀ p, fr ≤ p → p < g → (rf_cb tu K Z S) g (O0 p)) → mv_W md_RM_rank 12 [.inr 47, .inl g, .inl fr] [] M (0, 0) Q := by
  intro d
  induction d with
  | zero =>
    intro fr M O hd f0 f1 hfr hOrd e1 e2 e3
    exfalso; omega
  | succ d ih =>
    intro fr M O hd f0 f1 hfr hOrd e1 e2 e3
    have hO : rf_O M co wi ta bo pa wy lc fo tu bl kl se ow := by unfold rf_O; rw [hfr 47 (by omega)]; exact hO0
    have hPts : M.2 56 = .inl (64, Z) := by rw [hfr 56 (by omega)]; exact hZ0
    have hBlk : M.2 54 = .inl (256, K) := by rw [hfr 54 (by omega)]; exact hK0
    have hBle : M.2 55 = .inl (64, S) := by rw [hfr 55 (by omega)]; exact hS0
    have hto : ∀ a, 0 ≤ a → a < g → ¬ (rf_cb tu K Z S) g a → (rf_cb tu K Z S) a g := fun a a0 a1 hn => by
      have hd : S a ≠ S g := fun e => by have := hSd a g a0 (by omega) g0 g1 e; omega
      unfold rf_cb at *
      omega
    refine mx_iload_n d_RM_rank_12 rfl ?_
    refine mx_if_le 52 d_RM_rank_13 (by decide) (fun c13 => ?_) (fun c13 => ?_)
    · skip
      have HH : fr = 0 ∨ ¬ (rf_cb tu K Z S) g (O0 (fr - 1)) := Or.inl (by omega)
      exact k M O fr hfr hOrd f0 f1 (pu_ins2 hor g0 f0 f1 rf_cb_tr hto e1 e2 e3 HH)
    · skip
      refine mx_aload_n d_RM_rank_16 rfl (by omega) ?_
      refine mx_iload_n d_RM_rank_17 rfl ?_
      refine mx_aload_n d_RM_rank_18 rfl (by omega) ?_
      refine mx_gl d_RM_rank_19 f_RM_41 hO rfl ?_
      refine mx_iload_n d_RM_rank_22 rfl ?_
      refine mx_iconst (1) d_RM_rank_23 (by decide +kernel) (by unfold mv_r; omega) ?_
      refine mx_isub d_RM_rank_24 (by unfold mv_r; omega) ?_
      refine mx_iald d_RM_rank_25 hOrd (by omega) (by omega) ?_
      have hof := hor.1 (fr - 1) (by omega) (by omega)
      have eO := e1 (fr - 1) (by omega) (by omega)
      rw [eO]
      refine mx_cV2 d_RM_rank_26 c_RM_155 hO (by decide) (Nat.le_of_ble_eq_true rfl) ?_
      refine rf_isFirst hO htu hPts hBlk hBle g0 (by omega) (by omega) (by omega) (fun hcb => ?_) (fun hcb => ?_)
      · skip
        refine mx_z1 52 d_RM_rank_29 (by decide) ?_
        refine mx_aload_n d_RM_rank_32 rfl (by omega) ?_
        refine mx_gl d_RM_rank_33 f_RM_41 hO rfl ?_
        refine mx_iload_n d_RM_rank_36 rfl ?_
        refine mx_aload_n d_RM_rank_37 rfl (by omega) ?_
        refine mx_gl d_RM_rank_38 f_RM_41 hO rfl ?_
        refine mx_iload_n d_RM_rank_41 rfl ?_
        refine mx_iconst (1) d_RM_rank_42 (by decide +kernel) (by unfold mv_r; omega) ?_
        refine mx_isub d_RM_rank_43 (by unfold mv_r; omega) ?_
        refine mx_iald d_RM_rank_44 hOrd (by omega) (by omega) ?_
        refine mx_iast d_RM_rank_45 hOrd (by omega) (by omega) (by omega) ?_
        refine mx_iinc d_RM_rank_46 rfl (by unfold mv_r; omega) ?_
        refine mx_goto 12 d_RM_rank_49 (by decide) ?_
        exact ih (fr - 1) _ _ (by omega) (by omega) (by omega) (hfr.put (by omega) (by omega)) mv_ps (fun p p0 p1 => by rw [mv_sn (by omega)]; exact e1 p p0 (by omega)) (fun p p0 p1 => by
          by_cases hp : p = fr - 1
          · rw [hp, show fr - 1 + 1 = fr by omega, mv_ss, eO]
          · rw [mv_sn (by omega)]; exact e2 p (by omega) p1) (fun p p0 p1 => by
          by_cases hp : p = fr - 1
          · rw [hp]; exact hcb
          · exact e3 p (by omega) p1)
      · skip
        have HH : fr = 0 ∨ ¬ (rf_cb tu K Z S) g (O0 (fr - 1)) := Or.inr hcb
        refine mx_z0 52 d_RM_rank_29 (by decide) ?_
        exact k M O fr hfr hOrd f0 f1 (pu_ins2 hor g0 f0 f1 rf_cb_tr hto e1 e2 e3 HH)
theorem rf_rk_i {Q : List mv_V → mv_M → Prop} {M0 : mv_M} {co wi ta bo pa wy lc fo tu bl kl se ow : Int} (hO0 : rf_O M0 co wi ta bo pa wy lc fo tu bl kl se ow) (htu : tu = 0 ∨ tu = 1) {K Z S : Int → Int} (hZ0 : M0.2 56 = .inl (64, Z)) (hK0 : M0.2 54 = .inl (256, K)) (hS0 : M0.2 55 = .inl (64, S)) (hbl : bl ≤ 64) (hSd : ∀ a b, 0 ≤ a → a < bl → 0 ≤ b → b < bl → S a = S b → a = b) (k : ∀ M' O, bf_fr M0 M' 58 59 → M'.2 58 = .inl (64, O) → pu_ord bl O (rf_cb tu K Z S) → Q [] M') : ∀ (d : Nat) (g : Int) (M : mv_M) (O : Int → Int) (v : mv_V), bl - g < d → 0 ≤ g → g ≤ bl → bf_fr M0 M 58 59 → M.2 58 = .inl (64, O) → pu_ord g O (rf_cb tu K Z S) → mv_W md_RM_rank 2 [.inr 47, .inl g, v] [] M (0, 0) Q := by
  intro d
  induction d with
  | zero =>
    intro g M O v hd g0 g1 hfr hOrd hor
    exfalso; omega
  | succ d ih =>
    intro g M O v hd g0 g1 hfr hOrd hor
    have hO : rf_O M co wi ta bo pa wy lc fo tu bl kl se ow := by unfold rf_O; rw [hfr 47 (by omega)]; exact hO0
    have hPts : M.2 56 = .inl (64, Z) := by rw [hfr 56 (by omega)]; exact hZ0
    have hBlk : M.2 54 = .inl (256, K) := by rw [hfr 54 (by omega)]; exact hK0
    have hBle : M.2 55 = .inl (64, S) := by rw [hfr 55 (by omega)]; exact hS0
    refine mx_iload_n d_RM_rank_2 rfl ?_
    refine mx_aload_n d_RM_rank_3 rfl (by omega) ?_
    refine mx_gl d_RM_rank_4 f_RM_129 hO rfl ?_
    refine mx_icmp_ge 65 d_RM_rank_7 (by decide) (fun c7 => ?_) (fun c7 => ?_)
    · skip
      refine mx_return d_RM_rank_65 rfl ?_
      exact k M O hfr hOrd ((show g = bl by omega) ▸ hor)
    · skip
      refine mx_iload_n d_RM_rank_10 rfl ?_
      refine mx_istore_n d_RM_rank_11 (by decide) ?_
      refine rf_rk_j hO0 htu hZ0 hK0 hS0 hbl hSd g0 (by omega) hor ?_ (g.toNat + 1) g M O (by omega) g0 (by omega) hfr hOrd (fun p _ _ => rfl) (fun p q1 q2 => by omega) (fun p q1 q2 => by omega)
      intro M' O' fr' hfr' hOrd' f0 f1 hor'
      have hO' : rf_O M' co wi ta bo pa wy lc fo tu bl kl se ow := by unfold rf_O; rw [hfr' 47 (by omega)]; exact hO0
      refine mx_aload_n d_RM_rank_52 rfl (by omega) ?_
      refine mx_gl d_RM_rank_53 f_RM_41 hO' rfl ?_
      refine mx_iload_n d_RM_rank_56 rfl ?_
      refine mx_iload_n d_RM_rank_57 rfl ?_
      refine mx_iast d_RM_rank_58 hOrd' (by omega) (by omega) (by omega) ?_
      refine mx_iinc d_RM_rank_59 rfl (by unfold mv_r; omega) ?_
      refine mx_goto 2 d_RM_rank_62 (by decide) ?_
      exact ih (g + 1) _ _ _ (by omega) (by omega) (by omega) (hfr'.put (by omega) (by omega)) mv_ps hor'
theorem rf_rank {Q : List mv_V → mv_M → Prop} {M : mv_M} {co wi ta bo pa wy lc fo tu bl kl se ow : Int} (hO0 : rf_O M co wi ta bo pa wy lc fo tu bl kl se ow) (htu : tu = 0 ∨ tu = 1) {K Z S : Int → Int} (hZ0 : M.2 56 = .inl (64, Z)) (hK0 : M.2 54 = .inl (256, K)) (hS0 : M.2 55 = .inl (64, S)) (hbl : bl ≤ 64) (hSd : ∀ a b, 0 ≤ a → a < bl → 0 ≤ b → b < bl → S a = S b → a = b) (hbl0 : 0 ≤ bl) {O0 : Int → Int} (hOrd0 : M.2 58 = .inl (64, O0)) (k : ∀ M' O, bf_fr M M' 58 59 → M'.2 58 = .inl (64, O) → pu_ord bl O (rf_cb tu K Z S) → Q [] M') : mv_J md_RM_rank [.inr 47] M Q := by
  refine mv_enter (by decide +kernel) (Nat.le_of_ble_eq_true rfl) ?_
  show mv_W md_RM_rank 0 [.inr 47, .inr 0, .inr 0] [] M (0, 0) Q
  refine mx_iconst (0) d_RM_rank_0 (by decide +kernel) (by unfold mv_r; omega) ?_
  refine mx_istore_n d_RM_rank_1 (by decide) ?_
  exact rf_rk_i hO0 htu hZ0 hK0 hS0 hbl hSd k (bl.toNat + 1) 0 M O0 _ (by omega) (by omega) hbl0 bf_fr.refl hOrd0 pu_ord0
