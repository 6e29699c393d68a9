/-! rows of the small machine that touch cells -/
def mv_F (own : String) (ix ci k : Nat) : Prop := ci < 4096 ∧ ∃ (C : String) (T : u_T) (N : Nat), classes[ci]? = some (C, T, N) ∧ k < N ∧ (∀ w ∈ u_ws C T N, w ∈ mv_tb) ∧ Cond.fieldLink own ix (T k).1 (T k).2.1 (T k).2.2.1 ∈ mv_tb
def mv_Pf (own : String) (ix ci k : Nat) (fin : Bool) (ty : FieldType) : Prop := ci < 4096 ∧ ∃ (C : String) (T : u_T) (N : Nat) (ty0 : Nat → FieldType), classes[ci]? = some (C, T, N) ∧ k < N ∧ (∀ w ∈ u_ws C T N, w ∈ mv_tb) ∧ Cond.fieldLink own ix (T k).1 (T k).2.1 (T k).2.2.1 ∈ mv_tb ∧
  (∀ k, k < N → parseFieldDescriptor (T k).2.2.1 = some (ty0 k)) ∧ (∀ a, a < N → ∀ b, b < N → a ≠ b → (T a).2.1 ≠ (T b).2.1) ∧ (T k).2.2.2 = fin ∧ parseFieldDescriptor (T k).2.2.1 = some ty ∧ (fin = true → (T k).1 = own)
/-- v may be written to a field of this type -/
def mv_Vt (ty : FieldType) (v : mv_V) : Prop := ∀ ad : Nat → Nat, narrow ty (mv_t ad v) = mv_t ad v ∧ fits ty (mv_t ad v) = true
theorem mv_Vi (x : Int) : mv_Vt .int (.inl x) := fun _ => ⟨rfl, rfl⟩
theorem mv_Vz {x : Int} (h : x = 0 ∨ x = 1) : mv_Vt .boolean (.inl x) := fun ad => by
  rcases h with rfl | rfl
  · show narrow .boolean (.int (mv_i 0)) = .int (mv_i 0) ∧ fits .boolean (.int (mv_i 0)) = true
    exact ⟨by decide +kernel, by decide +kernel⟩
  · show narrow .boolean (.int (mv_i 1)) = .int (mv_i 1) ∧ fits .boolean (.int (mv_i 1)) = true
    exact ⟨by decide +kernel, by decide +kernel⟩
theorem mv_Vo (C : String) (k : Nat) : mv_Vt (.object C) (.inr k) := fun ad => by
  cases k <;> exact ⟨rfl, rfl⟩
theorem mv_Va (t : FieldType) (k : Nat) : mv_Vt (.array t) (.inr k) := fun ad => by
  cases k <;> exact ⟨rfl, rfl⟩
def mv_s (f : Int → Int) (i v : Int) : Int → Int := fun j => if j = i then v else f j
theorem mv_ss {f : Int → Int} {i v : Int} : mv_s f i v i = v := if_pos rfl
theorem mv_sn {f : Int → Int} {i v j : Int} (h : j ≠ i) : mv_s f i v j = f j := if_neg h
theorem mv_rset {N k0 : Nat} {f : Nat → mv_V} {ad : Nat → Nat} {v : mv_V} : ((List.range N).map (fun k => mv_t ad (f k))).set k0 (mv_t ad v) = (List.range N).map (fun k => mv_t ad (mv_u f k0 v k)) := by
  apply List.ext_getElem?
  intro j
  rw [List.getElem?_set, List.getElem?_map, List.getElem?_map, List.length_map, List.length_range]
  by_cases hj : j < N
  · rw [List.getElem?_range hj]
    by_cases h : k0 = j
    · subst h
      rw [if_pos rfl, if_pos hj]
      show some _ = some (mv_t ad (mv_u f k0 v k0))
      rw [mv_us]
    · rw [if_neg h]
      show some _ = some (mv_t ad (mv_u f k0 v j))
      rw [mv_un (fun e => h e.symm)]
  · rw [List.getElem?_eq_none (by rw [List.length_range]; omega)]
    by_cases h : k0 = j
    · subst h
      rw [if_pos rfl, if_neg hj]; rfl
    · rw [if_neg h]; rfl
theorem mv_X_put {ad : Nat → Nat} {M : mv_M} {U : State} {H : Heap} (h : mv_X ad M U H) {k : Nat} {c : mv_C} (hk : 1 ≠ k) : mv_X ad (mv_p M k c) U H := by
  obtain ⟨L, f, h1, h2⟩ := h
  exact ⟨L, f, by rw [mv_pn hk]; exact h1, h2⟩
section MH
variable {md : mv_D} {pc : Nat} {lo st : List mv_V} {M : mv_M} {bu : Nat × Nat} {Q : List mv_V → mv_M → Prop}
theorem mx_get {ix ci k0 o : Nat} {fs : Nat → mv_V} (hd : decode md.2.1 pc = .ok (.getfield ix, 3)) (hf : mv_F md.1.cls ix ci k0) (ho : M.2 o = .inr (ci, fs)) (k : mv_W md (pc + 3) lo (fs k0 :: st) M bu Q) : mv_W md pc lo (.inr o :: st) M bu Q := by
  intro p l e R s m args below meth c D cA A Qr G ad ls H locs S L hst hbu E
  obtain ⟨hci, C, T, N, hc, hk, hu, hl⟩ := hf
  obtain ⟨h2, h3⟩ := mv_liveO S.1 S.2.2.2.2.2.1 ho (by omega)
  have he := mv_w_at (cA := cA) (ad := ad) h2 h3
  rw [ho, mv_e_o hci] at he
  have hfs : ((List.range (mv_N ci)).map (fun k => mv_t ad (fs k)))[k0]? = some (mv_t ad (fs k0)) := by
    rw [mv_Nof hc, List.getElem?_map, List.getElem?_range hk]; rfl
  have hok : mv_ok M.1 (fs k0) := by
    have := S.1.2.1 o
    rw [ho] at this
    exact this k0
  rw [List.map_cons, mv_tr (show o ≠ 0 by omega)]
  exact va_get G.1 G.2.1 G.2.2.2.2.1 hu G.2.2.2.1 G.2.2.2.2.2.2.1 S.2.1 (o - 2) he hc k0 hk (G.2.2.2.2.1 _ hl) (fun _ h => h) hfs hd (k p l e R s m args below meth c D cA A Qr G ad ls H locs S L (mx_cc hok (mx_c2 hst)) hbu E)
theorem mx_put {ix ci k0 o : Nat} {fs : Nat → mv_V} {ty : FieldType} {v : mv_V} (hd : decode md.2.1 pc = .ok (.putfield ix, 3)) (hf : mv_Pf md.1.cls ix ci k0 false ty) (ho : M.2 o = .inr (ci, fs)) (hv : mv_Vt ty v) (k : mv_W md (pc + 3) lo st (mv_p M o (.inr (ci, mv_u fs k0 v))) bu Q) : mv_W md pc lo (v :: .inr o :: st) M bu Q := by
  intro p l e R s m args below meth c D cA A Qr G ad ls H locs S L hst hbu E
  obtain ⟨hci, C, T, N, ty0, hc, hk, hu, hl, hty, hnm, hfin, hpd, -⟩ := hf
  obtain ⟨h2, h3⟩ := mv_liveO S.1 S.2.2.2.2.2.1 ho (by omega)
  have he := mv_w_at (cA := cA) (ad := ad) h2 h3
  rw [ho, mv_e_o hci] at he
  have hok : mv_okc M.1 (.inr (ci, mv_u fs k0 v)) := by
    have := S.1.2.1 o
    rw [ho] at this
    intro j
    show mv_ok M.1 (mv_u fs k0 v j)
    by_cases hj : j = k0
    · subst hj; rw [mv_us]; exact mx_c1 hst
    · rw [mv_un hj]; exact this j
  rw [List.map_cons, List.map_cons, mv_tr (show o ≠ 0 by omega)]
  refine va_put G.1 G.2.1 G.2.2.2.2.1 hu ty0 hty hnm G.2.2.2.1 G.2.2.2.2.2.2.1 S.2.1 S.2.2.1 S.2.2.2.1 (o - 2) he hc k0 hk (G.2.2.2.2.1 _ hl) (fun _ h => h) hfin hpd (hv ad).1 (hv ad).2 (by rw [List.length_map, List.length_range, mv_Nof hc]; exact hk) hd (fun H1 locs1 hP1 hD1 hS1 => ?_)
  rw [mv_rset] at hP1 hD1
  have e1 := mv_w_set (cA := cA) (ad := ad) (M := M) (c := .inr (ci, mv_u fs k0 v)) h2 h3
  rw [mv_e_o hci] at e1
  have hP2 : va_P D classes (mv_w cA ad (mv_p M o (.inr (ci, mv_u fs k0 v)))) H1 := e1 ▸ hP1
  have hD2 : va_D A (mv_w cA ad (mv_p M o (.inr (ci, mv_u fs k0 v)))) := e1 ▸ hD1
  exact k p l e R s m args below meth c D cA A Qr G ad ls H1 locs1 ⟨mv_wf_put S.1 (by omega) h3 hok, hP2, hD2, hS1, S.2.2.2.2.1, mv_X_put S.2.2.2.2.2.1 (by omega), S.2.2.2.2.2.2⟩ L (mx_c2 (mx_c2 hst)) hbu E
theorem mx_putF {ix ci k0 o : Nat} {fs : Nat → mv_V} {ty : FieldType} {v : mv_V} (hd : decode md.2.1 pc = .ok (.putfield ix, 3)) (hi : md.1.name = "<init>") (hf : mv_Pf md.1.cls ix ci k0 true ty) (ho : M.2 o = .inr (ci, fs)) (hv : mv_Vt ty v) (k : mv_W md (pc + 3) lo st (mv_p M o (.inr (ci, mv_u fs k0 v))) bu Q) : mv_W md pc lo (v :: .inr o :: st) M bu Q := by
  intro p l e R s m args below meth c D cA A Qr G ad ls H locs S L hst hbu E
  obtain ⟨hci, C, T, N, ty0, hc, hk, hu, hl, hty, hnm, hfin, hpd, hown⟩ := hf
  obtain ⟨h2, h3⟩ := mv_liveO S.1 S.2.2.2.2.2.1 ho (by omega)
  have he := mv_w_at (cA := cA) (ad := ad) h2 h3
  rw [ho, mv_e_o hci] at he
  have hok : mv_okc M.1 (.inr (ci, mv_u fs k0 v)) := by
    have := S.1.2.1 o
    rw [ho] at this
    intro j
    show mv_ok M.1 (mv_u fs k0 v j)
    by_cases hj : j = k0
    · subst hj; rw [mv_us]; exact mx_c1 hst
    · rw [mv_un hj]; exact this j
  rw [List.map_cons, List.map_cons, mv_tr (show o ≠ 0 by omega)]
  refine va_putF G.1 G.2.1 G.2.2.2.2.1 hu ty0 hty hnm G.2.2.2.1 G.2.2.2.2.2.2.1 S.2.1 S.2.2.1 S.2.2.2.1 (o - 2) he hc k0 hk (G.2.2.2.2.1 _ hl) (fun _ h => h) hfin (G.2.2.2.2.2.1.trans hi) (hown rfl) hpd (hv ad).1 (hv ad).2 (by rw [List.length_map, List.length_range, mv_Nof hc]; exact hk) hd (fun H1 locs1 hP1 hD1 hS1 => ?_)
  rw [mv_rset] at hP1 hD1
  have e1 := mv_w_set (cA := cA) (ad := ad) (M := M) (c := .inr (ci, mv_u fs k0 v)) h2 h3
  rw [mv_e_o hci] at e1
  have hP2 : va_P D classes (mv_w cA ad (mv_p M o (.inr (ci, mv_u fs k0 v)))) H1 := e1 ▸ hP1
  have hD2 : va_D A (mv_w cA ad (mv_p M o (.inr (ci, mv_u fs k0 v)))) := e1 ▸ hD1
  exact k p l e R s m args below meth c D cA A Qr G ad ls H1 locs1 ⟨mv_wf_put S.1 (by omega) h3 hok, hP2, hD2, hS1, S.2.2.2.2.1, mv_X_put S.2.2.2.2.2.1 (by omega), S.2.2.2.2.2.2⟩ L (mx_c2 (mx_c2 hst)) hbu E
theorem mx_iald {a n : Nat} {f : Int → Int} {x : Int} (hd : decode md.2.1 pc = .ok (.iaload, 1)) (ha : M.2 a = .inl (n, f)) (h0 : 0 ≤ x) (hx : x < n) (k : mv_W md (pc + 1) lo (.inl (f x) :: st) M bu Q) : mv_W md pc lo (.inl x :: .inr a :: st) M bu Q := by
  intro p l e R s m args below meth c D cA A Qr G ad ls H locs S L hst hbu E
  obtain ⟨h2, h3⟩ := mv_liveA S.1 ha
  have hr : mv_r x := mx_c1 hst
  have e0 : (((mv_i x).toNatClampNeg : Nat) : Int) = x := by rw [mv_cl hr]; omega
  have hok : mv_ok M.1 (.inl (f x)) := by
    have := S.1.2.1 a
    rw [ha] at this
    exact this.2 x
  have hk := k p l e R s m args below meth c D cA A Qr G ad ls H locs S L (mx_cc hok (mx_c2 (mx_c2 hst))) hbu E
  rw [List.map_cons, List.map_cons, mv_tr (show a ≠ 0 by omega)]
  have hk2 : W p l e R s m args below meth c H locs bu.1 bu.2 Qr (F0 m (pc + 1) ls (Value.int (mv_i (f (((mv_i x).toNatClampNeg : Nat) : Int))) :: st.map (mv_t ad))) := by
    rw [e0]; exact hk
  by_cases h1 : a = 1
  · subst h1
    obtain ⟨L', f', g1, g2⟩ := S.2.2.2.2.2.1
    rw [ha] at g1
    cases g1
    exact va_sld G.1 G.2.1 g2 S.2.2.2.2.2.2.1 S.2.2.2.2.2.2.2 S.2.2.2.1 (mv_vin hr h0 hx) hd hk2
  · have he := mv_w_at (cA := cA) (ad := ad) (show 2 ≤ a by omega) h3
    rw [ha] at he
    exact va_iald (f := fun j => mv_i (f (j : Int))) G.1 G.2.1 G.2.2.2.2.2.2.1 S.2.1 (a - 2) 0 he rfl (mv_vin hr h0 hx) hd hk2
theorem mx_iast {a n : Nat} {f : Int → Int} {x y : Int} (hd : decode md.2.1 pc = .ok (.iastore, 1)) (ha : M.2 a = .inl (n, f)) (h1 : a ≠ 1) (h0 : 0 ≤ x) (hx : x < n) (k : mv_W md (pc + 1) lo st (mv_p M a (.inl (n, mv_s f x y))) bu Q) : mv_W md pc lo (.inl y :: .inl x :: .inr a :: st) M bu Q := by
  intro p l e R s m args below meth c D cA A Qr G ad ls H locs S L hst hbu E
  obtain ⟨h2, h3⟩ := mv_liveA S.1 ha
  have hr : mv_r x := mx_c1 (mx_c2 hst)
  have hy : mv_r y := mx_c1 hst
  have hok := S.1.2.1 a
  rw [ha] at hok
  have he := mv_w_at (cA := cA) (ad := ad) (show 2 ≤ a by omega) h3
  rw [ha] at he
  rw [List.map_cons, List.map_cons, List.map_cons, mv_tr (show a ≠ 0 by omega)]
  refine va_iast (f := fun j => mv_i (f (j : Int))) (x := mv_i y) G.1 G.2.1 G.2.2.2.2.2.2.1 S.2.1 S.2.2.1 S.2.2.2.1 (a - 2) 0 he rfl (mv_vin hr h0 hx) hd (fun H1 locs1 hP1 hD1 hS1 => ?_)
  have e0 : upd (fun j : Nat => mv_i (f (j : Int))) (mv_i x).toNatClampNeg (mv_i y) = fun j : Nat => mv_i (mv_s f x y (j : Int)) := by
    funext j
    rw [mv_cl hr]
    unfold upd mv_s
    by_cases hj : j = x.toNat
    · rw [if_pos hj, if_pos (by omega)]
    · rw [if_neg hj, if_neg (by omega)]
  rw [e0] at hP1 hD1
  have e1 := mv_w_set (cA := cA) (ad := ad) (M := M) (c := .inl (n, mv_s f x y)) (show 2 ≤ a by omega) h3
  have hP2 : va_P D classes (mv_w cA ad (mv_p M a (.inl (n, mv_s f x y)))) H1 := e1 ▸ hP1
  have hD2 : va_D A (mv_w cA ad (mv_p M a (.inl (n, mv_s f x y)))) := e1 ▸ hD1
  have hok2 : mv_okc M.1 (.inl (n, mv_s f x y)) := ⟨hok.1, fun j => by
    show mv_r (mv_s f x y j)
    unfold mv_s
    by_cases hj : j = x
    · rw [if_pos hj]; exact hy
    · rw [if_neg hj]; exact hok.2 j⟩
  exact k p l e R s m args below meth c D cA A Qr G ad ls H1 locs1 ⟨mv_wf_put S.1 (by omega) h3 hok2, hP2, hD2, hS1, S.2.2.2.2.1, mv_X_put S.2.2.2.2.2.1 (fun h => h1 h.symm), S.2.2.2.2.2.2⟩ L (mx_c2 (mx_c2 (mx_c2 hst))) hbu E
theorem mx_alen {a n : Nat} {f : Int → Int} (hd : decode md.2.1 pc = .ok (.arraylength, 1)) (ha : M.2 a = .inl (n, f)) (k : mv_W md (pc + 1) lo (.inl (n : Int) :: st) M bu Q) : mv_W md pc lo (.inr a :: st) M bu Q := by
  intro p l e R s m args below meth c D cA A Qr G ad ls H locs S L hst hbu E
  obtain ⟨h2, h3⟩ := mv_liveA S.1 ha
  have hok := S.1.2.1 a
  rw [ha] at hok
  have hn : n < 2147483648 := hok.1
  have hr : mv_r (n : Int) := by unfold mv_r; omega
  have hk := k p l e R s m args below meth c D cA A Qr G ad ls H locs S L (mx_cc hr (mx_c2 hst)) hbu E
  have e0 : Int32.ofNat n = mv_i (n : Int) := (Int32.ofInt_eq_ofNat).symm
  rw [List.map_cons, mv_tr (show a ≠ 0 by omega)]
  by_cases h1 : a = 1
  · subst h1
    obtain ⟨L', f', g1, g2⟩ := S.2.2.2.2.2.1
    rw [ha] at g1
    cases g1
    refine va_slen G.1 G.2.1 g2 S.2.2.2.2.2.2.1 S.2.2.2.2.2.2.2 S.2.2.2.1 hd ?_
    rw [e0]; exact hk
  · have he := mv_w_at (cA := cA) (ad := ad) (show 2 ≤ a by omega) h3
    rw [ha] at he
    exact va_alen (v := mv_i (n : Int)) G.1 G.2.1 G.2.2.2.2.2.2.1 S.2.1 (a - 2) 0 he rfl e0 hd hk
/-- a new array of ints -/
theorem mx_newa {x : Int} (hd : decode md.2.1 pc = .ok (.newarray .int, 2)) (hw : Cond.arrayClass .int ∈ mv_tb) (h0 : 0 ≤ x) (hx : x ≤ 100000) (hc1 : bu.1 + 1 ≤ md.2.2.2.2.cells) (hc2 : bu.2 + x.toNat ≤ md.2.2.2.2.slots)
    (k : mv_W md (pc + 2) lo (.inr M.1 :: st) (M.1 + 1, mv_u M.2 M.1 (.inl (x.toNat, fun _ => 0))) (bu.1 + 1, bu.2 + x.toNat) Q) : mv_W md pc lo (.inl x :: st) M bu Q := by
  intro p l e R s m args below meth c D cA A Qr G ad ls H locs S L hst hbu E
  have hr : mv_r x := mx_c1 hst
  have hR := G.2.2.2.2.2.2.2.1
  have hwf2 := S.1.1
  refine va_newa (ty := .int) (N' := x.toNat) (a0 := (x.toNat, .inl (fun j => mv_i ((fun _ => 0 : Int → Int) (j : Int))))) G.1 G.2.1 (atype := .int) (G.2.2.2.2.1 _ hw) rfl G.2.2.2.2.2.2.1 S.2.1 S.2.2.1 S.2.2.2.1 S.2.2.2.2.1 (fun cA' => by rw [vp_cell_i]; rfl) (n := mv_i x) ?_ (mv_cl hr) ?_ (by rw [hR]; exact hc1) (by rw [hR]; exact hc2) hd (fun q cA' H1 hK1 hP1 hD1 hS1 => ?_)
  · intro hlt
    rw [← mv_i0, mv_lt hr mv_r0] at hlt
    omega
  · show x.toNat * 4 ≤ 536870912
    omega
  · have hcA : cA' = cA.1 := by
      have a1 : s.vm.findClass ("[" ++ FieldType.int.toString) = some cA.1 := (hK1.2 0 (cA.1, .int) rfl).2
      have a2 : s.vm.findClass ("[" ++ FieldType.int.toString) = some cA' := (hK1.2 2 (cA', .int) rfl).2
      exact Option.some.inj (a2.symm.trans a1)
    subst hcA
    have had : ∀ j, j < M.1 → mv_u ad M.1 q j = ad j := fun j hj => mv_un (by omega)
    have e1 := mv_w_new (cA := cA) (ad := ad) S.1 (c := .inl (x.toNat, fun _ => 0)) (q := q) (e := .inl (cA.1, x.toNat, .inl (fun j => mv_i ((fun _ => 0 : Int → Int) (j : Int))))) rfl
    rw [e1] at hP1 hD1
    have hk := k p l e R s m args below meth c D cA A Qr G (mv_u ad M.1 q) ls H1 locs ⟨mv_wf_new S.1 ⟨by show x.toNat < _; omega, fun _ => mv_r0⟩, hP1, hD1, hS1, S.2.2.2.2.1, ?_, ?_⟩ (L.ad (Nat.le_succ _) had) (mx_cc (show M.1 < M.1 + 1 by omega) (fun v hv => mv_ok_up (Nat.le_succ _) (mx_c2 hst v hv))) ⟨by rw [hR]; exact hc1, by rw [hR]; exact hc2⟩ (E.up (Nat.le_succ _) had)
    · rw [List.map_cons, mv_tr (show M.1 ≠ 0 by omega), mv_us, mv_ts_ad had (mx_c2 hst)] at hk
      exact hk
    · obtain ⟨L', f', g1, g2⟩ := S.2.2.2.2.2.1
      refine ⟨L', f', ?_, by rw [had 1 (by omega)]; exact g2⟩
      show mv_u M.2 M.1 _ 1 = _
      rw [mv_un (by omega)]; exact g1
    · rw [had 1 (by omega)]; exact S.2.2.2.2.2.2
def mv_Nw (own : String) (ix ci : Nat) (df : Nat → mv_V) : Prop := ci < 4096 ∧ (∀ j, df j = .inl 0 ∨ df j = .inr 0) ∧ ∃ (C : String) (T : u_T) (N : Nat) (ty : Nat → FieldType), classes[ci]? = some (C, T, N) ∧ (∀ w ∈ u_ws C T N, w ∈ mv_tb) ∧ (∀ k, k < N → parseFieldDescriptor (T k).2.2.1 = some (ty k)) ∧ Cond.classLink own ix C ∈ mv_tb ∧ Cond.instantiable C N ∈ mv_tb ∧ Cond.initialized C ∈ mv_tb ∧ ∀ j, j < N → defaultValue (ty j) = mv_t (fun _ => 0) (df j)
/-- a new object -/
theorem mx_new {ix ci : Nat} {df : Nat → mv_V} (hd : decode md.2.1 pc = .ok (.new ix, 3)) (hw : mv_Nw md.1.cls ix ci df) (hc1 : bu.1 + 1 ≤ md.2.2.2.2.cells) (hc2 : bu.2 + mv_N ci ≤ md.2.2.2.2.slots)
    (k : mv_W md (pc + 3) lo (.inr M.1 :: st) (M.1 + 1, mv_u M.2 M.1 (.inr (ci, df))) (bu.1 + 1, bu.2 + mv_N ci) Q) : mv_W md pc lo st M bu Q := by
  intro p l e R s m args below meth c D cA A Qr G ad ls H locs S L hst hbu E
  obtain ⟨hci, hdf, C, T, N, ty, hc, hu, hty, hl, hin, hini, hdv⟩ := hw
  have hR := G.2.2.2.2.2.2.2.1
  have hwf2 := S.1.1
  have hN := mv_Nof hc
  have hdt : ∀ (ad : Nat → Nat) (j : Nat), mv_t ad (df j) = mv_t (fun _ => 0) (df j) := fun ad j => by
    rcases hdf j with h | h <;> rw [h] <;> rfl
  refine va_new (ci := ci) (fs := (List.range (mv_N ci)).map (fun k => mv_t ad (df k))) G.1 G.2.1 G.2.2.2.2.1 hu ty hty G.2.2.2.1 (G.2.2.2.2.1 _ hl) (G.2.2.2.2.1 _ hin) (G.2.2.2.2.1 _ hini) G.2.2.2.2.2.2.1 S.2.1 S.2.2.1 S.2.2.2.1 S.2.2.2.2.1 hc (fun j hj => ?_) (by rw [hR]; exact hc1) (by rw [hR, ← hN]; exact hc2) hd (fun q H1 hP1 hD1 hS1 => ?_)
  · unfold vp_V
    rw [List.getD_eq_getElem?_getD, List.getElem?_map, hN, List.getElem?_range hj, hdv j hj]
    show _ = mv_t ad (df j)
    rw [hdt ad j]
  · have had : ∀ j, j < M.1 → mv_u ad M.1 q j = ad j := fun j hj => mv_un (by omega)
    have e1 := mv_w_new (cA := cA) (ad := ad) S.1 (c := .inr (ci, df)) (q := q) (e := .inr (ci, (List.range (mv_N ci)).map (fun k => mv_t ad (df k)))) (by
      rw [mv_e_o hci]
      rw [List.map_congr_left (fun k _ => (hdt (mv_u ad M.1 q) k).trans (hdt ad k).symm)])
    rw [e1] at hP1 hD1
    have hk := k p l e R s m args below meth c D cA A Qr G (mv_u ad M.1 q) ls H1 locs ⟨mv_wf_new S.1 (fun j => by
        show mv_ok (M.1 + 1) (df j)
        rcases hdf j with h | h <;> rw [h]
        · exact mv_r0
        · show 0 < M.1 + 1; omega), hP1, hD1, hS1, S.2.2.2.2.1, ?_, ?_⟩ (L.ad (Nat.le_succ _) had) (mx_cc (show M.1 < M.1 + 1 by omega) (fun v hv => mv_ok_up (Nat.le_succ _) (hst v hv))) ⟨by rw [hR]; exact hc1, by rw [hR]; exact hc2⟩ (E.up (Nat.le_succ _) had)
    · rw [List.map_cons, mv_tr (show M.1 ≠ 0 by omega), mv_us, mv_ts_ad had hst] at hk
      rw [← hN]
      exact hk
    · obtain ⟨L', f', g1, g2⟩ := S.2.2.2.2.2.1
      refine ⟨L', f', ?_, by rw [had 1 (by omega)]; exact g2⟩
      show mv_u M.2 M.1 _ 1 = _
      rw [mv_un (by omega)]; exact g1
    · rw [had 1 (by omega)]; exact S.2.2.2.2.2.2
/-- rows of booleans -/
theorem mx_newz {x : Int} (hd : decode md.2.1 pc = .ok (.newarray .boolean, 2)) (hw : Cond.arrayClass .boolean ∈ mv_tb) (h0 : 0 ≤ x) (hx : x ≤ 100000) (hc1 : bu.1 + 1 ≤ md.2.2.2.2.cells) (hc2 : bu.2 + x.toNat ≤ md.2.2.2.2.slots)
    (k : mv_W md (pc + 2) lo (.inr M.1 :: st) (M.1 + 1, mv_u M.2 M.1 (.inr (5000 + x.toNat, fun _ => .inl 0))) (bu.1 + 1, bu.2 + x.toNat) Q) : mv_W md pc lo (.inl x :: st) M bu Q := by
  intro p l e R s m args below meth c D cA A Qr G ad ls H locs S L hst hbu E
  have hr : mv_r x := mx_c1 hst
  have hR := G.2.2.2.2.2.2.2.1
  have hwf2 := S.1.1
  refine va_newa (ty := .boolean) (N' := x.toNat) (a0 := (x.toNat, .inl (fun j => mv_b ((fun _ => .inl 0 : Nat → mv_V) j)))) G.1 G.2.1 (atype := .boolean) (G.2.2.2.2.1 _ hw) rfl G.2.2.2.2.2.2.1 S.2.1 S.2.2.1 S.2.2.2.1 S.2.2.2.2.1 (fun cA' => by rw [vp_cell_i]; rfl) (n := mv_i x) ?_ (mv_cl hr) ?_ (by rw [hR]; exact hc1) (by rw [hR]; exact hc2) hd (fun q cA' H1 hK1 hP1 hD1 hS1 => ?_)
  · intro hlt
    rw [← mv_i0, mv_lt hr mv_r0] at hlt
    omega
  · show x.toNat * 1 ≤ 536870912
    omega
  · have hcA : cA' = cA.2 := by
      have a1 : s.vm.findClass ("[" ++ FieldType.boolean.toString) = some cA.2 := (hK1.2 1 (cA.2, .boolean) rfl).2
      have a2 : s.vm.findClass ("[" ++ FieldType.boolean.toString) = some cA' := (hK1.2 2 (cA', .boolean) rfl).2
      exact Option.some.inj (a2.symm.trans a1)
    subst hcA
    have had : ∀ j, j < M.1 → mv_u ad M.1 q j = ad j := fun j hj => mv_un (by omega)
    have e1 := mv_w_new (cA := cA) (ad := ad) S.1 (c := .inr (5000 + x.toNat, fun _ => .inl 0)) (q := q) (e := .inl (cA.2, x.toNat, .inl (fun j => mv_b ((fun _ => .inl 0 : Nat → mv_V) j)))) mv_e_z
    rw [e1] at hP1 hD1
    have hk := k p l e R s m args below meth c D cA A Qr G (mv_u ad M.1 q) ls H1 locs ⟨mv_wf_new S.1 (fun _ => mv_r0), hP1, hD1, hS1, S.2.2.2.2.1, ?_, ?_⟩ (L.ad (Nat.le_succ _) had) (mx_cc (show M.1 < M.1 + 1 by omega) (fun v hv => mv_ok_up (Nat.le_succ _) (mx_c2 hst v hv))) ⟨by rw [hR]; exact hc1, by rw [hR]; exact hc2⟩ (E.up (Nat.le_succ _) had)
    · rw [List.map_cons, mv_tr (show M.1 ≠ 0 by omega), mv_us, mv_ts_ad had (mx_c2 hst)] at hk
      exact hk
    · obtain ⟨L', f', g1, g2⟩ := S.2.2.2.2.2.1
      refine ⟨L', f', ?_, by rw [had 1 (by omega)]; exact g2⟩
      show mv_u M.2 M.1 _ 1 = _
      rw [mv_un (by omega)]; exact g1
    · rw [had 1 (by omega)]; exact S.2.2.2.2.2.2
theorem mx_bald {a n : Nat} {fs : Nat → mv_V} {x y : Int} (hd : decode md.2.1 pc = .ok (.baload, 1)) (ha : M.2 a = .inr (5000 + n, fs)) (h0 : 0 ≤ x) (hx : x < n) (hy : fs x.toNat = .inl y) (k : mv_W md (pc + 1) lo (.inl y :: st) M bu Q) : mv_W md pc lo (.inl x :: .inr a :: st) M bu Q := by
  intro p l e R s m args below meth c D cA A Qr G ad ls H locs S L hst hbu E
  obtain ⟨h2, h3⟩ := mv_liveO S.1 S.2.2.2.2.2.1 ha (by omega)
  have hr : mv_r x := mx_c1 hst
  have hok : mv_ok M.1 (.inl y) := by
    have := S.1.2.1 a
    rw [ha] at this
    have h4 : mv_ok M.1 (fs x.toNat) := this x.toNat
    rw [hy] at h4
    exact h4
  have hk := k p l e R s m args below meth c D cA A Qr G ad ls H locs S L (mx_cc hok (mx_c2 (mx_c2 hst))) hbu E
  have he := mv_w_at (cA := cA) (ad := ad) h2 h3
  rw [ha, mv_e_z] at he
  rw [List.map_cons, List.map_cons, mv_tr (show a ≠ 0 by omega)]
  have hk2 : W p l e R s m args below meth c H locs bu.1 bu.2 Qr (F0 m (pc + 1) ls (Value.int (mv_b (fs (mv_i x).toNatClampNeg)) :: st.map (mv_t ad))) := by
    rw [mv_cl hr, hy]; exact hk
  exact va_zald (f := fun j => mv_b (fs j)) G.1 G.2.1 G.2.2.2.2.2.2.1 S.2.1 (a - 2) 1 he rfl (mv_vin hr h0 hx) hd hk2
theorem mx_bast {a n : Nat} {fs : Nat → mv_V} {x y : Int} (hd : decode md.2.1 pc = .ok (.bastore, 1)) (ha : M.2 a = .inr (5000 + n, fs)) (h0 : 0 ≤ x) (hx : x < n) (hy : y = 0 ∨ y = 1) (k : mv_W md (pc + 1) lo st (mv_p M a (.inr (5000 + n, mv_u fs x.toNat (.inl y)))) bu Q) : mv_W md pc lo (.inl y :: .inl x :: .inr a :: st) M bu Q := by
  intro p l e R s m args below meth c D cA A Qr G ad ls H locs S L hst hbu E
  obtain ⟨h2, h3⟩ := mv_liveO S.1 S.2.2.2.2.2.1 ha (by omega)
  have hr : mv_r x := mx_c1 (mx_c2 hst)
  have hok := S.1.2.1 a
  rw [ha] at hok
  have he := mv_w_at (cA := cA) (ad := ad) h2 h3
  rw [ha, mv_e_z] at he
  rw [List.map_cons, List.map_cons, List.map_cons, mv_tr (show a ≠ 0 by omega)]
  refine va_zast (f := fun j => mv_b (fs j)) (x := mv_i y) G.1 G.2.1 G.2.2.2.2.2.2.1 S.2.1 S.2.2.1 S.2.2.2.1 (a - 2) 1 he rfl (mv_vin hr h0 hx) hd (fun H1 locs1 hP1 hD1 hS1 => ?_)
  have e0 : upd (fun j : Nat => mv_b (fs j)) (mv_i x).toNatClampNeg (vp_nar .boolean (mv_i y)) = fun j : Nat => mv_b (mv_u fs x.toNat (.inl y) j) := by
    funext j
    rw [mv_cl hr]
    unfold upd
    by_cases hj : j = x.toNat
    · rw [if_pos hj, hj, mv_us]
      rcases hy with rfl | rfl <;> decide +kernel
    · rw [if_neg hj, mv_un hj]
  rw [e0] at hP1 hD1
  have e1 := mv_w_set (cA := cA) (ad := ad) (M := M) (c := .inr (5000 + n, mv_u fs x.toNat (.inl y))) h2 h3
  rw [mv_e_z] at e1
  have hP2 : va_P D classes (mv_w cA ad (mv_p M a (.inr (5000 + n, mv_u fs x.toNat (.inl y))))) H1 := e1 ▸ hP1
  have hD2 : va_D A (mv_w cA ad (mv_p M a (.inr (5000 + n, mv_u fs x.toNat (.inl y))))) := e1 ▸ hD1
  have hok2 : mv_okc M.1 (.inr (5000 + n, mv_u fs x.toNat (.inl y))) := fun j => by
    show mv_ok M.1 (mv_u fs x.toNat (.inl y) j)
    by_cases hj : j = x.toNat
    · rw [hj, mv_us]; exact mx_c1 hst
    · rw [mv_un hj]; exact hok j
  exact k p l e R s m args below meth c D cA A Qr G ad ls H1 locs1 ⟨mv_wf_put S.1 (by omega) h3 hok2, hP2, hD2, hS1, S.2.2.2.2.1, mv_X_put S.2.2.2.2.2.1 (by omega), S.2.2.2.2.2.2⟩ L (mx_c2 (mx_c2 (mx_c2 hst))) hbu E
end MH
