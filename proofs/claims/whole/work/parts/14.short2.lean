/-! more short rows: calls of constructors, new cells -/
/-- a cell more, of the number n -/
def mv_a (n : Nat) (M : mv_M) (c : mv_C) : mv_M := (n + 1, mv_u M.2 n c)
theorem mv_as {n : Nat} {M : mv_M} {c : mv_C} : (mv_a n M c).2 n = c := mv_us
theorem mv_an {n j : Nat} {M : mv_M} {c : mv_C} (h : j ≠ n) : (mv_a n M c).2 j = M.2 j := mv_un h
section MZ
variable {md : mv_D} {pc : Nat} {lo st : List mv_V} {M : mv_M} {bu : Nat × Nat} {Q : List mv_V → mv_M → Prop}
theorem mx_cI0 {md' : mv_D} {o ix : Nat} (hd : decode md.2.1 pc = .ok (.invokespecial ix, 3)) (hw : mv_cI md.1.cls ix md') (hn : (parseMethodDescriptor md'.1.desc).map (fun d => d.parameters.length) = some 0) (hfit : mv_fit md md') (hbu : bu.1 + md'.2.2.2.2.cells ≤ md.2.2.2.2.cells ∧ bu.2 + md'.2.2.2.2.slots ≤ md.2.2.2.2.slots) (ho : o ≠ 0) (h8 : st.length ≤ 8) (k : mv_J md' [.inr o] M (fun r M' => mv_W md (pc + 3) lo (r ++ st) M' (bu.1 + md'.2.2.2.2.cells, bu.2 + md'.2.2.2.2.slots) Q)) : mv_W md pc lo (.inr o :: st) M bu Q :=
  mx_callI (as := []) hd hw hn hfit hbu ho rfl h8 k
theorem mx_cI1 {md' : mv_D} {a1 : mv_V} {o ix : Nat} (hd : decode md.2.1 pc = .ok (.invokespecial ix, 3)) (hw : mv_cI md.1.cls ix md') (hn : (parseMethodDescriptor md'.1.desc).map (fun d => d.parameters.length) = some 1) (hfit : mv_fit md md') (hbu : bu.1 + md'.2.2.2.2.cells ≤ md.2.2.2.2.cells ∧ bu.2 + md'.2.2.2.2.slots ≤ md.2.2.2.2.slots) (ho : o ≠ 0) (h8 : st.length ≤ 8) (k : mv_J md' [.inr o, a1] M (fun r M' => mv_W md (pc + 3) lo (r ++ st) M' (bu.1 + md'.2.2.2.2.cells, bu.2 + md'.2.2.2.2.slots) Q)) : mv_W md pc lo (a1 :: .inr o :: st) M bu Q :=
  mx_callI (as := [a1]) hd hw hn hfit hbu ho rfl h8 k
theorem mx_cI2 {md' : mv_D} {a1 a2 : mv_V} {o ix : Nat} (hd : decode md.2.1 pc = .ok (.invokespecial ix, 3)) (hw : mv_cI md.1.cls ix md') (hn : (parseMethodDescriptor md'.1.desc).map (fun d => d.parameters.length) = some 2) (hfit : mv_fit md md') (hbu : bu.1 + md'.2.2.2.2.cells ≤ md.2.2.2.2.cells ∧ bu.2 + md'.2.2.2.2.slots ≤ md.2.2.2.2.slots) (ho : o ≠ 0) (h8 : st.length ≤ 8) (k : mv_J md' [.inr o, a1, a2] M (fun r M' => mv_W md (pc + 3) lo (r ++ st) M' (bu.1 + md'.2.2.2.2.cells, bu.2 + md'.2.2.2.2.slots) Q)) : mv_W md pc lo (a2 :: a1 :: .inr o :: st) M bu Q :=
  mx_callI (as := [a1, a2]) hd hw hn hfit hbu ho rfl h8 k
theorem mx_cN0 {md' : mv_D} {o ix : Nat} (hd : decode md.2.1 pc = .ok (.invokespecial ix, 3)) (hw : mv_cN md.1.cls ix md') (hn : (parseMethodDescriptor md'.1.desc).map (fun d => d.parameters.length) = some 0) (hfit : mv_fit md md') (hbu : bu.1 + md'.2.2.2.2.cells ≤ md.2.2.2.2.cells ∧ bu.2 + md'.2.2.2.2.slots ≤ md.2.2.2.2.slots) (ho : o ≠ 0) (h8 : st.length ≤ 8) (k : mv_J md' [.inr o] M (fun r M' => mv_W md (pc + 3) lo (r ++ st) M' (bu.1 + md'.2.2.2.2.cells, bu.2 + md'.2.2.2.2.slots) Q)) : mv_W md pc lo (.inr o :: st) M bu Q :=
  mx_callN (as := []) hd hw hn hfit hbu ho rfl h8 k
theorem mx_cN1 {md' : mv_D} {a1 : mv_V} {o ix : Nat} (hd : decode md.2.1 pc = .ok (.invokespecial ix, 3)) (hw : mv_cN md.1.cls ix md') (hn : (parseMethodDescriptor md'.1.desc).map (fun d => d.parameters.length) = some 1) (hfit : mv_fit md md') (hbu : bu.1 + md'.2.2.2.2.cells ≤ md.2.2.2.2.cells ∧ bu.2 + md'.2.2.2.2.slots ≤ md.2.2.2.2.slots) (ho : o ≠ 0) (h8 : st.length ≤ 8) (k : mv_J md' [.inr o, a1] M (fun r M' => mv_W md (pc + 3) lo (r ++ st) M' (bu.1 + md'.2.2.2.2.cells, bu.2 + md'.2.2.2.2.slots) Q)) : mv_W md pc lo (a1 :: .inr o :: st) M bu Q :=
  mx_callN (as := [a1]) hd hw hn hfit hbu ho rfl h8 k
theorem mx_cN2 {md' : mv_D} {a1 a2 : mv_V} {o ix : Nat} (hd : decode md.2.1 pc = .ok (.invokespecial ix, 3)) (hw : mv_cN md.1.cls ix md') (hn : (parseMethodDescriptor md'.1.desc).map (fun d => d.parameters.length) = some 2) (hfit : mv_fit md md') (hbu : bu.1 + md'.2.2.2.2.cells ≤ md.2.2.2.2.cells ∧ bu.2 + md'.2.2.2.2.slots ≤ md.2.2.2.2.slots) (ho : o ≠ 0) (h8 : st.length ≤ 8) (k : mv_J md' [.inr o, a1, a2] M (fun r M' => mv_W md (pc + 3) lo (r ++ st) M' (bu.1 + md'.2.2.2.2.cells, bu.2 + md'.2.2.2.2.slots) Q)) : mv_W md pc lo (a2 :: a1 :: .inr o :: st) M bu Q :=
  mx_callN (as := [a1, a2]) hd hw hn hfit hbu ho rfl h8 k
theorem mx_na {n N : Nat} {x : Int} (hd : decode md.2.1 pc = .ok (.newarray .int, 2)) (hw : Cond.arrayClass .int ∈ mv_tb) (hM : M.1 = n) (h0 : 0 ≤ x) (hx : x ≤ 100000) (hN : x.toNat = N) (hc1 : bu.1 + 1 ≤ md.2.2.2.2.cells) (hc2 : bu.2 + N ≤ md.2.2.2.2.slots) (k : mv_W md (pc + 2) lo (.inr n :: st) (mv_a n M (.inl (N, fun _ => 0))) (bu.1 + 1, bu.2 + N) Q) : mv_W md pc lo (.inl x :: st) M bu Q := by
  subst hM; subst hN
  exact mx_newa hd hw h0 hx hc1 hc2 k
theorem mx_nz {n N : Nat} {x : Int} (hd : decode md.2.1 pc = .ok (.newarray .boolean, 2)) (hw : Cond.arrayClass .boolean ∈ mv_tb) (hM : M.1 = n) (h0 : 0 ≤ x) (hx : x ≤ 100000) (hN : x.toNat = N) (hc1 : bu.1 + 1 ≤ md.2.2.2.2.cells) (hc2 : bu.2 + N ≤ md.2.2.2.2.slots) (k : mv_W md (pc + 2) lo (.inr n :: st) (mv_a n M (.inr (5000 + N, fun _ => .inl 0))) (bu.1 + 1, bu.2 + N) Q) : mv_W md pc lo (.inl x :: st) M bu Q := by
  subst hM; subst hN
  exact mx_newz hd hw h0 hx hc1 hc2 k
theorem mx_nw {ix ci n : Nat} {df : Nat → mv_V} (hd : decode md.2.1 pc = .ok (.new ix, 3)) (hw : mv_Nw md.1.cls ix ci df) (hM : M.1 = n) (hc1 : bu.1 + 1 ≤ md.2.2.2.2.cells) (hc2 : bu.2 + mv_N ci ≤ md.2.2.2.2.slots) (k : mv_W md (pc + 3) lo (.inr n :: st) (mv_a n M (.inr (ci, df))) (bu.1 + 1, bu.2 + mv_N ci) Q) : mv_W md pc lo st M bu Q := by
  subst hM
  exact mx_new hd hw hc1 hc2 k
theorem mx_bu {bu' : Nat × Nat} (h : bu = bu') (k : mv_W md pc lo st M bu' Q) : mv_W md pc lo st M bu Q := h ▸ k
end MZ
