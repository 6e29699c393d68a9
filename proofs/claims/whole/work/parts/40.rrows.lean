/-! rows for the reference: a long sum compared, xor, calls of seven -/
section MR
variable {md : mv_D} {pc : Nat} {lo st : List mv_V} {M : mv_M} {bu : Nat × Nat} {Q : List mv_V → mv_M → Prop}
theorem mx_ixor {x y : Int} (z : Int) (hd : decode md.2.1 pc = .ok (.ixor, 1)) (hz : mv_i x ^^^ mv_i y = mv_i z) (hr : mv_r z) (k : mv_W md (pc + 1) lo (.inl z :: st) M bu Q) : mv_W md pc lo (.inl y :: .inl x :: st) M bu Q := by
  intro p l e R s m args below meth c D cA A Qr G ad ls H locs S L hst hbu E
  refine lv_ixor (x := mv_i x) (y := mv_i y) G.1 G.2.1 hd ?_
  rw [hz]
  exact k p l e R s m args below meth c D cA A Qr G ad ls H locs S L (mx_cc hr (mx_c2 (mx_c2 hst))) hbu E
theorem mx_lc {x w z : Int} (hx : mv_r x) (hw : mv_r w) (hz : mv_r z) : lg_cmp ((mv_i x).toInt64 + (mv_i w).toInt64) (mv_i z).toInt64 = mv_i (if z < x + w then 1 else if x + w = z then 0 else -1) := by
  have e1 : ((mv_i x).toInt64 + (mv_i w).toInt64).toInt = x + w := by
    rw [Int64.toInt_add, Int32.toInt_toInt64, Int32.toInt_toInt64, mv_to hx, mv_to hw]
    unfold mv_r at hx hw
    exact Int.bmod_eq_of_le (by omega) (by omega)
  have e2 : (mv_i z).toInt64.toInt = z := by rw [Int32.toInt_toInt64, mv_to hz]
  unfold lg_cmp
  simp only [gt_iff_lt, Int64.lt_iff_toInt_lt, ← Int64.toInt_inj, e1, e2]
  by_cases h1 : z < x + w
  · rw [if_pos h1, if_pos h1]; decide +kernel
  · rw [if_neg h1, if_neg h1]
    by_cases h2 : x + w = z
    · rw [if_pos h2, if_pos h2]; decide +kernel
    · rw [if_neg h2, if_neg h2]; decide +kernel
/-- x + w as longs, held against a field: what lcmp leaves -/
theorem mx_lsum {j1 : Fin 4} {x w z : Int} {ix ci k0 o p2 : Nat} {vs : List mv_V} (h1 : decode md.2.1 pc = .ok (.iload_n j1, 1)) (h2 : decode md.2.1 (pc + 1) = .ok (.i2l, 1)) (h3 : (∃ j2 : Fin 4, decode md.2.1 (pc + 2) = .ok (.iload_n j2, 1) ∧ lo[(j2 : Nat)]? = some (.inl w) ∧ p2 = pc + 3) ∨ (∃ j2 : Nat, decode md.2.1 (pc + 2) = .ok (.iload j2, 2) ∧ lo[j2]? = some (.inl w) ∧ p2 = pc + 4))
    (h4 : decode md.2.1 p2 = .ok (.i2l, 1)) (h5 : decode md.2.1 (p2 + 1) = .ok (.ladd, 1)) (h6 : decode md.2.1 (p2 + 2) = .ok (.aload_n 0, 1)) (h7 : decode md.2.1 (p2 + 3) = .ok (.getfield ix, 3)) (h8 : decode md.2.1 (p2 + 6) = .ok (.i2l, 1)) (h9 : decode md.2.1 (p2 + 7) = .ok (.lcmp, 1))
    (g1 : lo[(j1 : Nat)]? = some (.inl x)) (g0 : lo[0]? = some (.inr o)) (ho0 : o ≠ 0) (hf : mv_F md.1.cls ix ci k0) (ho : M.2 o = .inr (ci, mv_l vs)) (hv : vs[k0]? = some (.inl z))
    (k : mv_W md (p2 + 8) lo (.inl (if z < x + w then 1 else if x + w = z then 0 else -1) :: st) M bu Q) : mv_W md pc lo st M bu Q := by
  intro p l e R s m args below meth c D cA A Qr G ad ls H locs S L hst hbu E
  obtain ⟨hci, C, T, N, hc, hk, hu, hl⟩ := hf
  obtain ⟨i2, i3⟩ := mv_liveO S.1 S.2.2.2.2.2.1 ho (by omega)
  have he := mv_w_at (cA := cA) (ad := ad) i2 i3
  rw [ho, mv_e_o hci] at he
  have hfz : mv_l vs k0 = .inl z := mv_lg hv
  have hfs : ((List.range (mv_N ci)).map (fun k => mv_t ad (mv_l vs k)))[k0]? = some (.int (mv_i z)) := by
    rw [mv_Nof hc, List.getElem?_map, List.getElem?_range hk]
    show some (mv_t ad (mv_l vs k0)) = _
    rw [hfz]; rfl
  have hz : mv_r z := by
    have := S.1.2.1 o
    rw [ho] at this
    have h4 : mv_ok M.1 (mv_l vs k0) := this k0
    rw [hfz] at h4
    exact h4
  have hx : mv_r x := L.ok g1
  have hw : mv_r w := by
    rcases h3 with ⟨j2, -, a2, -⟩ | ⟨j2, -, a2, -⟩
    · exact L.ok a2
    · exact L.ok a2
  have hr : mv_r (if z < x + w then 1 else if x + w = z then 0 else -1) := by
    unfold mv_r
    split
    · omega
    · split <;> omega
  have hkk := k p l e R s m args below meth c D cA A Qr G ad ls H locs S L (mx_cc hr hst) hbu E
  have tail : W p l e R s m args below meth c H locs bu.1 bu.2 Qr (F0 m p2 ls (Value.int (mv_i w) :: Value.long (mv_i x).toInt64 :: st.map (mv_t ad))) := by
    refine lv_i2l G.1 G.2.1 h4 rfl ?_
    refine lv_ladd G.1 G.2.1 h5 ?_
    have hg := L.get g0 (by intro h; exact ho0 (Sum.inr.inj h))
    rw [mv_tr ho0] at hg
    refine lv_aload_n G.1 G.2.1 h6 rfl hg ?_
    refine va_get G.1 G.2.1 G.2.2.2.2.1 hu G.2.2.2.1 G.2.2.2.2.2.2.1 S.2.1 (o - 2) he hc k0 hk (G.2.2.2.2.1 _ hl) (fun _ h => h) hfs h7 ?_
    refine lv_i2l G.1 G.2.1 h8 rfl ?_
    refine W.lcmp G.1 G.2.1 h9 ?_
    rw [mx_lc hx hw hz]
    exact hkk
  refine lv_iload_n G.1 G.2.1 h1 rfl (L.get g1 (by intro h; cases h)) ?_
  refine lv_i2l G.1 G.2.1 h2 rfl ?_
  rcases h3 with ⟨j2, a1, a2, rfl⟩ | ⟨j2, a1, a2, rfl⟩
  · exact lv_iload_n G.1 G.2.1 a1 rfl (L.get a2 (by intro h; cases h)) tail
  · exact lv_iload G.1 G.2.1 a1 (L.get a2 (by intro h; cases h)) tail
theorem mx_cS7 {md' : mv_D} {a1 a2 a3 a4 a5 a6 a7 : mv_V} {ix : Nat} (hd : decode md.2.1 pc = .ok (.invokestatic ix, 3)) (hw : mv_kS md.1.cls ix 7 md') (hfit : mv_fit md md') (h8 : st.length ≤ 8) (k : mv_J md' [a1, a2, a3, a4, a5, a6, a7] M (fun r M' => mv_W md (pc + 3) lo (r ++ st) M' bu Q)) : mv_W md pc lo (a7 :: a6 :: a5 :: a4 :: a3 :: a2 :: a1 :: st) M bu Q :=
  mx_kS (as := [a1, a2, a3, a4, a5, a6, a7]) hd hw hfit h8 rfl k
end MR
