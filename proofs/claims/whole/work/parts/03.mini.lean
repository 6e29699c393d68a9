/-! THE SMALL MACHINE: a method walked over a pure memory. Ints are Ints in range, cells have numbers (0 null, 1 the script, then as they are made). -/
abbrev mv_V : Type := Int ⊕ Nat
abbrev mv_C : Type := (Nat × (Int → Int)) ⊕ (Nat × (Nat → mv_V))
abbrev mv_M : Type := Nat × (Nat → mv_C)
def mv_r (x : Int) : Prop := -2147483648 ≤ x ∧ x ≤ 2147483647
def mv_i (x : Int) : Int32 := Int32.ofInt x
theorem mv_to {x : Int} (h : mv_r x) : (mv_i x).toInt = x := by
  unfold mv_r at h
  exact Int32.toInt_ofInt_of_le (by omega) (by omega)
theorem mv_lt {x y : Int} (hx : mv_r x) (hy : mv_r y) : mv_i x < mv_i y ↔ x < y := by
  rw [Int32.lt_iff_toInt_lt, mv_to hx, mv_to hy]
theorem mv_le {x y : Int} (hx : mv_r x) (hy : mv_r y) : mv_i x ≤ mv_i y ↔ x ≤ y := by
  rw [Int32.le_iff_toInt_le, mv_to hx, mv_to hy]
theorem mv_eq {x y : Int} (hx : mv_r x) (hy : mv_r y) : mv_i x = mv_i y ↔ x = y := by
  rw [← Int32.toInt_inj, mv_to hx, mv_to hy]
theorem mv_r0 : mv_r 0 := by unfold mv_r; omega
theorem mv_i0 : mv_i 0 = 0 := by decide +kernel
theorem mv_cl {x : Int} (h : mv_r x) : (mv_i x).toNatClampNeg = x.toNat := by
  rw [← Int32.toNat_toInt, mv_to h]
theorem mv_vin {x : Int} {n : Nat} (h : mv_r x) (h0 : 0 ≤ x) (hn : x < n) : vp_in (mv_i x) n := by
  rw [vp_in_iff, mv_to h]; exact ⟨h0, hn⟩
theorem mv_rz (z : Int32) : mv_r z.toInt := by
  have h1 := Int32.toInt_lt z
  have h2 := Int32.le_toInt z
  unfold mv_r; omega
theorem mv_iz (z : Int32) : mv_i z.toInt = z := Int32.ofInt_toInt z
def mv_t (ad : Nat → Nat) : mv_V → Value
  | .inl x => .int (mv_i x)
  | .inr 0 => .null
  | .inr (k + 1) => .ref (ad (k + 1))
theorem mv_tr {ad : Nat → Nat} {k : Nat} (h : k ≠ 0) : mv_t ad (.inr k) = .ref (ad k) := by
  cases k with
  | zero => exact absurd rfl h
  | succ k => rfl
theorem mv_cat (ad : Nat → Nat) (v : mv_V) : (mv_t ad v).category = 1 := by
  rcases v with x | k
  · rfl
  · cases k <;> rfl
theorem mv_cats (ad : Nat → Nat) (st : List mv_V) : ((st.map (mv_t ad)).map fun v => v.category).sum = st.length := by
  induction st with
  | nil => rfl
  | cons v st ih =>
    rw [List.map_cons, List.map_cons, List.sum_cons, ih, mv_cat, List.length_cons]
    omega
def mv_N (ci : Nat) : Nat := match classes[ci]? with
  | some q => q.2.2
  | none => 0
theorem mv_Nof {ci : Nat} {C : String} {T : u_T} {N : Nat} (h : classes[ci]? = some (C, T, N)) : mv_N ci = N := by
  unfold mv_N; rw [h]
def mv_b : mv_V → Int32
  | .inl x => mv_i x
  | .inr _ => 0
/-- an object's class has a number below 4096; 5000 and n: a row of n booleans -/
def mv_e (cA : ClassId × ClassId) (ad : Nat → Nat) : mv_C → va_E
  | .inl a => .inl (cA.1, a.1, .inl (fun j => mv_i (a.2 (j : Int))))
  | .inr o => if 5000 ≤ o.1 then .inl (cA.2, o.1 - 5000, .inl (fun j => mv_b (o.2 j))) else .inr (o.1, (List.range (mv_N o.1)).map (fun k => mv_t ad (o.2 k)))
theorem mv_e_o {cA : ClassId × ClassId} {ad : Nat → Nat} {ci : Nat} {fs : Nat → mv_V} (h : ci < 4096) : mv_e cA ad (.inr (ci, fs)) = .inr (ci, (List.range (mv_N ci)).map (fun k => mv_t ad (fs k))) := by
  show (if 5000 ≤ ci then _ else _) = _
  rw [if_neg (by omega)]
theorem mv_e_z {cA : ClassId × ClassId} {ad : Nat → Nat} {n : Nat} {fs : Nat → mv_V} : mv_e cA ad (.inr (5000 + n, fs)) = .inl (cA.2, n, .inl (fun j => mv_b (fs j))) := by
  show (if 5000 ≤ 5000 + n then _ else _) = _
  rw [if_pos (by omega)]
  show Sum.inl (cA.2, 5000 + n - 5000, _) = _
  rw [show 5000 + n - 5000 = n by omega]
def mv_w (cA : ClassId × ClassId) (ad : Nat → Nat) (M : mv_M) : va_W := (List.range (M.1 - 2)).map (fun k => (ad (k + 2), mv_e cA ad (M.2 (k + 2))))
theorem mv_w_get {cA : ClassId × ClassId} {ad : Nat → Nat} {M : mv_M} (j : Nat) : (mv_w cA ad M)[j]? = if j < M.1 - 2 then some (ad (j + 2), mv_e cA ad (M.2 (j + 2))) else none := by
  unfold mv_w
  rw [List.getElem?_map]
  by_cases h : j < M.1 - 2
  · rw [List.getElem?_range h, if_pos h]; rfl
  · rw [if_neg h, List.getElem?_eq_none (by rw [List.length_range]; omega)]; rfl
theorem mv_w_at {cA : ClassId × ClassId} {ad : Nat → Nat} {M : mv_M} {k : Nat} (h2 : 2 ≤ k) (hk : k < M.1) : (mv_w cA ad M)[k - 2]? = some (ad k, mv_e cA ad (M.2 k)) := by
  rw [mv_w_get, if_pos (by omega), show k - 2 + 2 = k by omega]
theorem mv_w_of {cA : ClassId × ClassId} {ad : Nat → Nat} {M : mv_M} {j : Nat} {q : Nat × va_E} (h : (mv_w cA ad M)[j]? = some q) : ∃ k, k = j + 2 ∧ 2 ≤ k ∧ k < M.1 ∧ q = (ad k, mv_e cA ad (M.2 k)) := by
  rw [mv_w_get] at h
  by_cases hj : j < M.1 - 2
  · rw [if_pos hj] at h
    exact ⟨j + 2, rfl, by omega, by omega, (Option.some.inj h).symm⟩
  · rw [if_neg hj] at h; cases h
def mv_u {α : Type} (f : Nat → α) (k : Nat) (x : α) : Nat → α := fun j => cond (Nat.beq j k) x (f j)
theorem mv_us {α : Type} {f : Nat → α} {k : Nat} {x : α} : mv_u f k x k = x := by
  unfold mv_u
  rw [show Nat.beq k k = true from Nat.beq_refl k]; rfl
theorem mv_un {α : Type} {f : Nat → α} {k j : Nat} {x : α} (h : j ≠ k) : mv_u f k x j = f j := by
  unfold mv_u
  rw [show Nat.beq j k = false from by
    cases hb : Nat.beq j k with
    | false => rfl
    | true => exact absurd (Nat.eq_of_beq_eq_true hb) h]
  rfl
def mv_p (M : mv_M) (k : Nat) (c : mv_C) : mv_M := (M.1, mv_u M.2 k c)
theorem mv_ps {M : mv_M} {k : Nat} {c : mv_C} : (mv_p M k c).2 k = c := mv_us
theorem mv_pn {M : mv_M} {k j : Nat} {c : mv_C} (h : j ≠ k) : (mv_p M k c).2 j = M.2 j := mv_un h
theorem mv_w_set {cA : ClassId × ClassId} {ad : Nat → Nat} {M : mv_M} {k : Nat} {c : mv_C} (h2 : 2 ≤ k) (hk : k < M.1) : (mv_w cA ad M).set (k - 2) (ad k, mv_e cA ad c) = mv_w cA ad (mv_p M k c) := by
  apply List.ext_getElem?
  intro j
  rw [List.getElem?_set, mv_w_get, mv_w_get]
  have hlen : (mv_w cA ad M).length = M.1 - 2 := by simp [mv_w]
  have h1 : (mv_p M k c).1 = M.1 := rfl
  rw [h1, hlen]
  by_cases hj : k - 2 = j
  · subst hj
    rw [if_pos rfl, if_pos (by omega), if_pos (by omega), show k - 2 + 2 = k by omega, mv_ps]
  · rw [if_neg hj]
    by_cases hl : j < M.1 - 2
    · rw [if_pos hl, if_pos hl, mv_pn (by omega)]
    · rw [if_neg hl, if_neg hl]
def mv_ok (n : Nat) : mv_V → Prop
  | .inl x => mv_r x
  | .inr k => k < n
def mv_okc (n : Nat) : mv_C → Prop
  | .inl a => a.1 < 2147483648 ∧ ∀ j, mv_r (a.2 j)
  | .inr o => ∀ k, mv_ok n (o.2 k)
def mv_dead : mv_C := .inr (4096, fun _ => .inr 0)
def mv_wf (M : mv_M) : Prop := 2 ≤ M.1 ∧ (∀ k, mv_okc M.1 (M.2 k)) ∧ ∀ k, (k = 0 ∨ M.1 ≤ k) → M.2 k = mv_dead
theorem mv_ok_up {n n' : Nat} (h : n ≤ n') {v : mv_V} (hv : mv_ok n v) : mv_ok n' v := by
  rcases v with x | k
  · exact hv
  · exact Nat.lt_of_lt_of_le hv h
theorem mv_okc_up {n n' : Nat} (h : n ≤ n') {v : mv_C} (hv : mv_okc n v) : mv_okc n' v := by
  rcases v with a | o
  · exact hv
  · exact fun k => mv_ok_up h (hv k)
theorem mv_t_ad {n : Nat} {ad ad' : Nat → Nat} (h : ∀ k, k < n → ad' k = ad k) {v : mv_V} (hv : mv_ok n v) : mv_t ad' v = mv_t ad v := by
  rcases v with x | k
  · rfl
  · cases k with
    | zero => rfl
    | succ k => show Value.ref _ = Value.ref _; rw [h _ hv]
theorem mv_ts_ad {n : Nat} {ad ad' : Nat → Nat} (h : ∀ k, k < n → ad' k = ad k) {st : List mv_V} (hv : ∀ v ∈ st, mv_ok n v) : st.map (mv_t ad') = st.map (mv_t ad) :=
  List.map_congr_left (fun v hm => mv_t_ad h (hv v hm))
theorem mv_e_ad {cA : ClassId × ClassId} {n : Nat} {ad ad' : Nat → Nat} (h : ∀ k, k < n → ad' k = ad k) {c : mv_C} (hv : mv_okc n c) : mv_e cA ad' c = mv_e cA ad c := by
  rcases c with a | o
  · rfl
  · show (if 5000 ≤ o.1 then _ else Sum.inr (o.1, (List.range (mv_N o.1)).map (fun k => mv_t ad' (o.2 k)))) = (if 5000 ≤ o.1 then _ else _)
    rw [List.map_congr_left (fun k _ => mv_t_ad h (hv k))]
theorem mv_wf_put {M : mv_M} (h : mv_wf M) {k : Nat} {c : mv_C} (h1 : 1 ≤ k) (h2 : k < M.1) (hc : mv_okc M.1 c) : mv_wf (mv_p M k c) := by
  refine ⟨h.1, fun j => ?_, fun j hj => ?_⟩
  · show mv_okc M.1 _
    by_cases hj : j = k
    · subst hj; rw [mv_ps]; exact hc
    · rw [mv_pn hj]; exact h.2.1 j
  · have hj' : j = 0 ∨ M.1 ≤ j := hj
    rw [mv_pn (by omega)]; exact h.2.2 j hj'
theorem mv_wf_new {M : mv_M} (h : mv_wf M) {c : mv_C} (hc : mv_okc (M.1 + 1) c) : mv_wf (M.1 + 1, mv_u M.2 M.1 c) := by
  refine ⟨by have := h.1; show 2 ≤ M.1 + 1; omega, fun j => ?_, fun j hj => ?_⟩
  · show mv_okc (M.1 + 1) (mv_u M.2 M.1 c j)
    by_cases hj : j = M.1
    · subst hj; rw [mv_us]; exact hc
    · rw [mv_un hj]; exact mv_okc_up (Nat.le_succ _) (h.2.1 j)
  · have hj' : j = 0 ∨ M.1 + 1 ≤ j := hj
    have := h.1
    show mv_u M.2 M.1 c j = mv_dead
    rw [mv_un (by omega)]; exact h.2.2 j (by omega)
theorem mv_w_new {cA : ClassId × ClassId} {ad : Nat → Nat} {M : mv_M} (h : mv_wf M) {c : mv_C} {q : Nat} {e : va_E} (he : mv_e cA (mv_u ad M.1 q) c = e) : mv_w cA ad M ++ [(q, e)] = mv_w cA (mv_u ad M.1 q) (M.1 + 1, mv_u M.2 M.1 c) := by
  have h2 := h.1
  have had : ∀ k, k < M.1 → mv_u ad M.1 q k = ad k := fun k hk => mv_un (by omega)
  apply List.ext_getElem?
  intro j
  have hlen : (mv_w cA ad M).length = M.1 - 2 := by simp [mv_w]
  rw [List.getElem?_append, hlen, mv_w_get, mv_w_get]
  show _ = if j < M.1 + 1 - 2 then _ else none
  by_cases hj : j < M.1 - 2
  · rw [if_pos hj, if_pos hj, if_pos (by omega)]
    show some (ad (j + 2), _) = some (mv_u ad M.1 q (j + 2), mv_e cA (mv_u ad M.1 q) (mv_u M.2 M.1 c (j + 2)))
    rw [had _ (by omega), mv_un (show j + 2 ≠ M.1 by omega), mv_e_ad had (h.2.1 (j + 2))]
  · rw [if_neg hj]
    by_cases hj2 : j = M.1 - 2
    · subst hj2
      rw [if_pos (by omega), Nat.sub_self]
      show some (q, e) = some (mv_u ad M.1 q (M.1 - 2 + 2), mv_e cA (mv_u ad M.1 q) (mv_u M.2 M.1 c (M.1 - 2 + 2)))
      rw [show M.1 - 2 + 2 = M.1 by omega, mv_us, mv_us, he]
    · rw [if_neg (by omega), List.getElem?_eq_none (by simp; omega)]
def mv_X (ad : Nat → Nat) (M : mv_M) (U : State) (H : Heap) : Prop := ∃ (L : Nat) (f : Int → Int), M.2 1 = .inl (L, f) ∧ va_X (ad 1) L (fun j => mv_i (f (j : Int))) U H
def mv_S (D : va_G) (cA : ClassId × ClassId) (A : Nat → Prop) (s : State) (ad : Nat → Nat) (M : mv_M) (H : Heap) (locs : List Loc) : Prop :=
  mv_wf M ∧ va_P D classes (mv_w cA ad M) H ∧ va_D A (mv_w cA ad M) ∧ va_S A s.heap H locs ∧ (∀ q, s.heap.size ≤ q → A q) ∧ mv_X ad M s s.heap ∧ ad 1 < s.heap.size ∧ ¬ A (ad 1)
/-- an object that is in the memory has a number of its own -/
theorem mv_liveO {M : mv_M} (hwf : mv_wf M) {ad : Nat → Nat} {U : State} {H : Heap} (hX : mv_X ad M U H) {k ci : Nat} {fs : Nat → mv_V} (h : M.2 k = .inr (ci, fs)) (hci : ci ≠ 4096) : 2 ≤ k ∧ k < M.1 := by
  obtain ⟨L, f, h1, -⟩ := hX
  have hne : M.2 k ≠ mv_dead := by
    intro hd
    rw [h] at hd
    have := (Sum.inr.inj hd)
    have := (Prod.mk.inj this).1
    omega
  refine ⟨?_, ?_⟩
  · rcases Nat.lt_or_ge k 2 with hk | hk
    · exfalso
      rcases (show k = 0 ∨ k = 1 by omega) with rfl | rfl
      · exact hne (hwf.2.2 0 (Or.inl rfl))
      · rw [h1] at h; cases h
    · exact hk
  · rcases Nat.lt_or_ge k M.1 with hk | hk
    · exact hk
    · exact absurd (hwf.2.2 k (Or.inr hk)) hne
theorem mv_liveA {M : mv_M} (hwf : mv_wf M) {k n : Nat} {f : Int → Int} (h : M.2 k = .inl (n, f)) : 1 ≤ k ∧ k < M.1 := by
  have hne : M.2 k ≠ mv_dead := by
    intro hd
    rw [h] at hd
    cases hd
  refine ⟨?_, ?_⟩
  · rcases Nat.eq_zero_or_pos k with hk | hk
    · exact absurd (hwf.2.2 k (Or.inl hk)) hne
    · exact hk
  · rcases Nat.lt_or_ge k M.1 with hk | hk
    · exact hk
    · exact absurd (hwf.2.2 k (Or.inr hk)) hne
def mv_L (nL : Nat) (ad : Nat → Nat) (n : Nat) (ls : Array Slot) (lo : List mv_V) : Prop :=
  (∃ l : List (Nat × Value), lv_has ls nL l ∧ ∀ k v, lo[k]? = some v → v ≠ .inr 0 → (k, mv_t ad v) ∈ l) ∧ lo.length = nL ∧ ∀ v ∈ lo, mv_ok n v
theorem mv_L.size {nL : Nat} {ad : Nat → Nat} {n : Nat} {ls : Array Slot} {lo : List mv_V} (h : mv_L nL ad n ls lo) : ls.size = nL := by
  obtain ⟨⟨l, h1, -⟩, -⟩ := h
  exact h1.1
theorem mv_L.get {nL : Nat} {ad : Nat → Nat} {n : Nat} {ls : Array Slot} {lo : List mv_V} (h : mv_L nL ad n ls lo) {k : Nat} {v : mv_V} (hk : lo[k]? = some v) (hv : v ≠ .inr 0) : ls[k]? = some (.val (mv_t ad v)) := by
  obtain ⟨⟨l, h1, h2⟩, -⟩ := h
  exact h1.2.2 _ (h2 k v hk hv)
theorem mv_L.ok {nL : Nat} {ad : Nat → Nat} {n : Nat} {ls : Array Slot} {lo : List mv_V} (h : mv_L nL ad n ls lo) {k : Nat} {v : mv_V} (hk : lo[k]? = some v) : mv_ok n v := h.2.2 v (List.mem_of_getElem? hk)
theorem mv_L.ad {nL : Nat} {ad ad' : Nat → Nat} {n n' : Nat} {ls : Array Slot} {lo : List mv_V} (h : mv_L nL ad n ls lo) (hn : n ≤ n') (ha : ∀ k, k < n → ad' k = ad k) : mv_L nL ad' n' ls lo := by
  obtain ⟨⟨l, h1, h2⟩, h3, h4⟩ := h
  refine ⟨⟨l, h1, fun k v hk hv => ?_⟩, h3, fun v hv => mv_ok_up hn (h4 v hv)⟩
  rw [mv_t_ad ha (h4 v (List.mem_of_getElem? hk))]
  exact h2 k v hk hv
/-- what lv_istore and its like give back -/
theorem mv_L.set {nL : Nat} {ad : Nat → Nat} {n : Nat} {ls' : Array Slot} {lo : List mv_V} {l : List (Nat × Value)} {i : Nat} {v : mv_V} (h2 : ∀ k v, lo[k]? = some v → v ≠ .inr 0 → (k, mv_t ad v) ∈ l) (h3 : lo.length = nL) (h4 : ∀ v ∈ lo, mv_ok n v)
    (hv : mv_ok n v) (h' : lv_has ls' nL ((i, mv_t ad v) :: l.filter (fun q => !(q.1 == i) && !(q.1 + 1 == i && q.2.category == 2)))) : mv_L nL ad n ls' (lo.set i v) := by
  refine ⟨⟨_, h', fun k w hk hw => ?_⟩, by rw [List.length_set]; exact h3, fun w hw => ?_⟩
  · rw [List.getElem?_set] at hk
    by_cases hik : i = k
    · subst hik
      rw [if_pos rfl] at hk
      by_cases hl : i < lo.length
      · rw [if_pos hl] at hk
        rw [← Option.some.inj hk]
        exact List.mem_cons_self
      · rw [if_neg hl] at hk; cases hk
    · rw [if_neg hik] at hk
      refine List.mem_cons_of_mem _ (List.mem_filter.mpr ⟨h2 k w hk hw, ?_⟩)
      have e1 : (k == i) = false := by simpa using fun h => hik h.symm
      have e2 : ((mv_t ad w).category == 2) = false := by rw [mv_cat]; rfl
      simp only [e1, e2, Bool.and_false, Bool.not_false, Bool.and_self]
  · rcases List.mem_or_eq_of_mem_set hw with h | h
    · exact h4 w h
    · rw [h]; exact hv
/-- a method: its name, bytes, locals, answer's type, room -/
abbrev mv_D : Type := MethodName × ByteArray × Nat × Option FieldType × Room
def mv_G (md : mv_D) (D : va_G) (cA : ClassId × ClassId) (p : Program) (R : Room) (s : State) (m : MethodId) (args : Array Value) (meth : Method) (c : Code) : Prop :=
  p.tables.exec = Jvm.exec ∧ c.code = md.2.1 ∧ c.maxLocals = md.2.2.1 ∧ s.vm.findClass md.1.cls = some m.cls ∧ (∀ w ∈ mv_tb, w.before args s = true) ∧ meth.name = md.1.name ∧ va_K D classes [(cA.1, .int), (cA.2, .boolean)] s ∧ R = md.2.2.2.2 ∧ mv_nw s
/-- how a method may end -/
def mv_Rt (md : mv_D) (pc : Nat) (r : List mv_V) : Prop :=
  (r = [] ∧ md.2.2.2.1 = none ∧ decode md.2.1 pc = .ok (.return_, 1)) ∨ ∃ (x : Int) (ty : FieldType), r = [.inl x] ∧ md.2.2.2.1 = some ty ∧ narrow ty (.int (mv_i x)) = .int (mv_i x) ∧ decode md.2.1 pc = .ok (.ireturn, 1)
def mv_E (md : mv_D) (D : va_G) (cA : ClassId × ClassId) (A : Nat → Prop) (p : Program) (l : Launch) (e : Env) (R : Room) (s : State) (m : MethodId) (args : Array Value) (below : List Frame) (meth : Method) (c : Code) (Qr : State → Prop) (ad : Nat → Nat) (n : Nat) (Q : List mv_V → mv_M → Prop) : Prop :=
  ∀ (r : List mv_V) (M' : mv_M) (ad' : Nat → Nat) (ls' : Array Slot) (H' : Heap) (locs' : List Loc) (k1 k2 pc' : Nat), Q r M' → n ≤ M'.1 → (∀ k, k < n → ad' k = ad k) → mv_S D cA A s ad' M' H' locs' → (∀ v ∈ r, mv_ok M'.1 v) → k1 ≤ R.cells → k2 ≤ R.slots → mv_Rt md pc' r →
    W p l e R s m args below meth c H' locs' k1 k2 Qr (F0 m pc' ls' (r.map (mv_t ad')))
theorem mv_E.up {md : mv_D} {D : va_G} {cA : ClassId × ClassId} {A : Nat → Prop} {p : Program} {l : Launch} {e : Env} {R : Room} {s : State} {m : MethodId} {args : Array Value} {below : List Frame} {meth : Method} {c : Code} {Qr : State → Prop} {ad ad' : Nat → Nat} {n n' : Nat} {Q : List mv_V → mv_M → Prop}
    (h : mv_E md D cA A p l e R s m args below meth c Qr ad n Q) (hn : n ≤ n') (ha : ∀ k, k < n → ad' k = ad k) : mv_E md D cA A p l e R s m args below meth c Qr ad' n' Q := by
  intro r M' ad2 ls' H' locs' k1 k2 pc' hQ h1 h2 hS hr g1 g2 hR
  exact h r M' ad2 ls' H' locs' k1 k2 pc' hQ (Nat.le_trans hn h1) (fun k hk => by rw [h2 k (Nat.lt_of_lt_of_le hk hn), ha k hk]) hS hr g1 g2 hR
/-- the method md, at pc, with these locals and stack over the memory M, comes to an end with Q -/
def mv_W (md : mv_D) (pc : Nat) (lo st : List mv_V) (M : mv_M) (bu : Nat × Nat) (Q : List mv_V → mv_M → Prop) : Prop :=
  ∀ (p : Program) (l : Launch) (e : Env) (R : Room) (s : State) (m : MethodId) (args : Array Value) (below : List Frame) (meth : Method) (c : Code) (D : va_G) (cA : ClassId × ClassId) (A : Nat → Prop) (Qr : State → Prop), mv_G md D cA p R s m args meth c →
    ∀ (ad : Nat → Nat) (ls : Array Slot) (H : Heap) (locs : List Loc), mv_S D cA A s ad M H locs → mv_L md.2.2.1 ad M.1 ls lo → (∀ v ∈ st, mv_ok M.1 v) → bu.1 ≤ R.cells ∧ bu.2 ≤ R.slots → mv_E md D cA A p l e R s m args below meth c Qr ad M.1 Q →
      W p l e R s m args below meth c H locs bu.1 bu.2 Qr (F0 m pc ls (st.map (mv_t ad)))
