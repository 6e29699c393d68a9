/-! rows of the small machine for calls -/
section MM
variable {md : mv_D} {pc : Nat} {lo st : List mv_V} {M : mv_M} {bu : Nat × Nat} {Q : List mv_V → mv_M → Prop}
theorem mx_max {ix : Nat} {x y : Int} (hd : decode md.2.1 pc = .ok (.invokestatic ix, 3)) (hw : Cond.methodLink md.1.cls ix Lib.Math.max.name ∈ mv_tb ∧ Cond.static Lib.Math.max.name ∈ mv_tb ∧ Cond.initialized "java/lang/Math" ∈ mv_tb ∧ Cond.code Lib.Math.max.name Lib.Math.max.code 2 (some .int) ∈ mv_tb)
    (hfr : 1 ≤ md.2.2.2.2.frames) (hlo : st.length + 13 ≤ md.2.2.2.2.locals) (k : mv_W md (pc + 3) lo (.inl (max x y) :: st) M bu Q) : mv_W md pc lo (.inl y :: .inl x :: st) M bu Q := by
  intro p l e R s m args below meth c D cA A Qr G ad ls H locs S L hst hbu E
  have hR := G.2.2.2.2.2.2.2.1
  have hy : mv_r y := mx_c1 hst
  have hx : mv_r x := mx_c1 (mx_c2 hst)
  have hm : mv_r (max x y) := by unfold mv_r at *; omega
  have hk := k p l e R s m args below meth c D cA A Qr G ad ls H locs S L (mx_cc hm (mx_c2 (mx_c2 hst))) hbu E
  have hts := G.2.2.2.2.1
  refine va_mmax (x := mv_i x) (y := mv_i y) G.1 G.2.1 (by rw [G.2.2.1, L.size]) G.2.2.2.1 (hts _ hw.1) (hts _ hw.2.1) (hts _ hw.2.2.1) (hts _ hw.2.2.2) (by rw [hR]; exact hfr) (by rw [hR, mv_cats]; exact hlo) hbu.1 hbu.2 hd ?_
  rw [show (if mv_i x < mv_i y then mv_i y else mv_i x) = mv_i (max x y) by
    by_cases h : x < y
    · rw [if_pos ((mv_lt hx hy).mpr h), show max x y = y by omega]
    · rw [if_neg (fun q => h ((mv_lt hx hy).mp q)), show max x y = x by omega]]
  exact hk
theorem mx_min {ix : Nat} {x y : Int} (hd : decode md.2.1 pc = .ok (.invokestatic ix, 3)) (hw : Cond.methodLink md.1.cls ix Lib.Math.min.name ∈ mv_tb ∧ Cond.static Lib.Math.min.name ∈ mv_tb ∧ Cond.initialized "java/lang/Math" ∈ mv_tb ∧ Cond.code Lib.Math.min.name Lib.Math.min.code 2 (some .int) ∈ mv_tb)
    (hfr : 1 ≤ md.2.2.2.2.frames) (hlo : st.length + 13 ≤ md.2.2.2.2.locals) (k : mv_W md (pc + 3) lo (.inl (min x y) :: st) M bu Q) : mv_W md pc lo (.inl y :: .inl x :: st) M bu Q := by
  intro p l e R s m args below meth c D cA A Qr G ad ls H locs S L hst hbu E
  have hR := G.2.2.2.2.2.2.2.1
  have hy : mv_r y := mx_c1 hst
  have hx : mv_r x := mx_c1 (mx_c2 hst)
  have hm : mv_r (min x y) := by unfold mv_r at *; omega
  have hk := k p l e R s m args below meth c D cA A Qr G ad ls H locs S L (mx_cc hm (mx_c2 (mx_c2 hst))) hbu E
  have hts := G.2.2.2.2.1
  refine va_mmin (x := mv_i x) (y := mv_i y) G.1 G.2.1 (by rw [G.2.2.1, L.size]) G.2.2.2.1 (hts _ hw.1) (hts _ hw.2.1) (hts _ hw.2.2.1) (hts _ hw.2.2.2) (by rw [hR]; exact hfr) (by rw [hR, mv_cats]; exact hlo) hbu.1 hbu.2 hd ?_
  rw [show (if mv_i y < mv_i x then mv_i y else mv_i x) = mv_i (min x y) by
    by_cases h : y < x
    · rw [if_pos ((mv_lt hy hx).mpr h), show min x y = y by omega]
    · rw [if_neg (fun q => h ((mv_lt hy hx).mp q)), show min x y = x by omega]]
  exact hk
theorem mx_abs {ix : Nat} {x : Int} (hd : decode md.2.1 pc = .ok (.invokestatic ix, 3)) (hw : Cond.methodLink md.1.cls ix Lib.Math.abs.name ∈ mv_tb ∧ Cond.static Lib.Math.abs.name ∈ mv_tb ∧ Cond.initialized "java/lang/Math" ∈ mv_tb ∧ Cond.code Lib.Math.abs.name Lib.Math.abs.code 1 (some .int) ∈ mv_tb)
    (hfr : 1 ≤ md.2.2.2.2.frames) (hlo : st.length + 13 ≤ md.2.2.2.2.locals) (hr : mv_r (max x (-x))) (k : mv_W md (pc + 3) lo (.inl (max x (-x)) :: st) M bu Q) : mv_W md pc lo (.inl x :: st) M bu Q := by
  intro p l e R s m args below meth c D cA A Qr G ad ls H locs S L hst hbu E
  have hR := G.2.2.2.2.2.2.2.1
  have hx : mv_r x := mx_c1 hst
  have hk := k p l e R s m args below meth c D cA A Qr G ad ls H locs S L (mx_cc hr (mx_c2 hst)) hbu E
  have hts := G.2.2.2.2.1
  refine va_mabs (x := mv_i x) G.1 G.2.1 (by rw [G.2.2.1, L.size]) G.2.2.2.1 (hts _ hw.1) (hts _ hw.2.1) (hts _ hw.2.2.1) (hts _ hw.2.2.2) (by rw [hR]; exact hfr) (by rw [hR, mv_cats]; exact hlo) hbu.1 hbu.2 hd ?_
  rw [show (if 0 ≤ mv_i x then mv_i x else 0 - mv_i x) = mv_i (max x (-x)) by
    by_cases h : 0 ≤ x
    · rw [if_pos (by rw [← mv_i0]; exact (mv_le mv_r0 hx).mpr h), show max x (-x) = x by omega]
    · rw [if_neg (fun q => h ((mv_le mv_r0 hx).mp (by rw [mv_i0]; exact q))), show max x (-x) = 0 - x by omega, ← mv_i0]
      exact (Int32.ofInt_sub 0 x).symm]
  exact hk
/-- Object's constructor -/
theorem mx_obj {ix o : Nat} (hd : decode md.2.1 pc = .ok (.invokespecial ix, 3)) (hw : Cond.methodLink md.1.cls ix Lib.objectInit ∈ mv_tb ∧ Cond.instanceMethod Lib.objectInit ∈ mv_tb ∧ Cond.code Lib.objectInit ⟨#[0xb1]⟩ 1 none ∈ mv_tb)
    (ho : o ≠ 0) (hfr : 1 ≤ md.2.2.2.2.frames) (hlo : st.length + 12 ≤ md.2.2.2.2.locals) (k : mv_W md (pc + 3) lo st M bu Q) : mv_W md pc lo (.inr o :: st) M bu Q := by
  intro p l e R s m args below meth c D cA A Qr G ad ls H locs S L hst hbu E
  have hR := G.2.2.2.2.2.2.2.1
  have hk := k p l e R s m args below meth c D cA A Qr G ad ls H locs S L (mx_c2 hst) hbu E
  have hts := G.2.2.2.2.1
  rw [List.map_cons, mv_tr ho]
  exact W.objInit G.1 G.2.1 G.2.2.2.1 (hts _ hw.1) (hts _ hw.2.1) (hts _ hw.2.2) rfl (by rw [G.2.2.1]; exact L.size) rfl hd (by rw [hR]; exact hfr) (by rw [hR, mv_cats]; show 2 * 0 + _ + 12 ≤ _; omega) hk
end MM
/-- a call, whatever it answers -/
theorem mv_call {p : Program} {l : Launch} {e : Env} {R : Room} {s : State} {m : MethodId} {args : Array Value} {below : List Frame} {meth : Method} {c : Code} {H : Heap} {locs : List Loc} {cells slots : Nat} {Q : State → Prop} {pc : Nat} {ls : Array Slot} {rest st0 : List Value} {A0 A1 : Nat → Prop} {H0 : Heap} {mc ms : Nat} {free : Addr → Prop} {Qa : State → Outcome → State → Prop}
    (hr : va_Run p l e R s m args below meth c H locs cells slots mc ms (F0 m pc ls st0) rest Qa free) (hS : va_S A0 H0 H locs) (hf : ∀ q, free q → A0 q) (hF : ∀ st o t, Qa st o t → va_F A1 st t) (hA : ∀ q, q < H.size → A1 q → A0 q)
    (kk : ∀ (v : Option Value) (st₀ t : State) (H1 : Heap) (locs1 : List Loc), st₀.heap = H → t.heap = H1 → s.vm.Alike t.vm → Qa st₀ (.returned v) t → va_S A0 H0 H1 locs1 → W p l e R s m args below meth c H1 locs1 (cells + mc) (slots + ms) Q (F0 m (pc + 3) ls (v.toList ++ rest))) : W p l e R s m args below meth c H locs cells slots Q (F0 m pc ls st0) := by
  intro T hT X
  obtain ⟨v, st₀, t, T', L, h0, X', hL, e1, e2, hq, st⟩ := hr T hT X
  obtain ⟨hz, hk⟩ := hF _ _ _ hq
  rw [h0] at hz hk
  obtain ⟨t2, a1, b1⟩ := kk v st₀ t T'.heap (locs ++ L) h0 e1.symm (by rw [← e2]; exact X'.warmed.alike) hq
    ⟨Nat.le_trans hS.1 (by rw [e1]; exact hz), fun q h1 h2 => by rw [e1, hk q (Nat.lt_of_lt_of_le h1 hS.1) (fun z => h2 (hA q (Nat.lt_of_lt_of_le h1 hS.1) z))]; exact hS.2.1 q h1 h2, fun q hq' => by
      rcases List.mem_append.mp hq' with h | h
      · exact hS.2.2 q h
      · exact hf _ (hL q h)⟩ T' rfl X'
  exact ⟨t2, st t2 a1, b1⟩
def mv_B (D : va_G) (cA : ClassId × ClassId) (ad : Nat → Nat) (M : mv_M) (U : State) : Prop :=
  va_P D classes (mv_w cA ad M) U.heap ∧ va_K D classes [(cA.1, .int), (cA.2, .boolean)] U ∧ va_D (fun _ => True) (mv_w cA ad M) ∧ mv_X ad M U U.heap ∧ ad 1 < U.heap.size ∧ (∀ k, 2 ≤ k → k < M.1 → ad k ≠ ad 1) ∧ mv_nw U
def mv_Q (D : va_G) (cA : ClassId × ClassId) (ad : Nat → Nat) (M : mv_M) (sz : Nat) (Q : List mv_V → mv_M → Prop) : Array Value → State → Outcome → State → Prop := fun _ st oc t =>
  (∃ (r : List mv_V) (M' : mv_M) (ad' : Nat → Nat), oc = .returned ((r.map (mv_t ad')).head?) ∧ r.length ≤ 1 ∧ Q r M' ∧ M.1 ≤ M'.1 ∧ (∀ k, k < M.1 → ad' k = ad k) ∧ mv_wf M' ∧ (∀ v ∈ r, mv_ok M'.1 v) ∧ va_P D classes (mv_w cA ad' M') t.heap ∧ va_D (va_A (mv_w cA ad M) sz) (mv_w cA ad' M') ∧ mv_X ad' M' t st.heap) ∧ va_F (va_A (mv_w cA ad M) sz) st t
/-- the method md, called with these over the memory M, ends with Q -/
def mv_J (md : mv_D) (vs : List mv_V) (M : mv_M) (Q : List mv_V → mv_M → Prop) : Prop :=
  ∀ (l : Launch) (D : va_G) (cA : ClassId × ClassId) (ad : Nat → Nat) (sz : Nat), mv_wf M → (∀ v ∈ vs, mv_ok M.1 v) →
    Met l md.1 (Cond.code md.1 md.2.1 md.2.2.1 md.2.2.2.1 :: mv_tb) md.2.2.2.2 (va_Pc (vs.map (mv_t ad)) (fun U => U.heap.size = sz ∧ mv_B D cA ad M U)) (mv_Q D cA ad M sz Q) md.2.2.2.2.cells md.2.2.2.2.slots (va_A (mv_w cA ad M) sz)
theorem mv_sl (ad : Nat → Nat) (vs : List mv_V) : (lg_sl (vs.map (mv_t ad))).length = vs.length := by
  induction vs with
  | nil => rfl
  | cons v vs ih =>
    have hc : ¬ (mv_t ad v).category = 2 := by rw [mv_cat]; decide
    have h1 : lg_sl ((v :: vs).map (mv_t ad)) = [Slot.val (mv_t ad v)] ++ lg_sl (vs.map (mv_t ad)) := by
      unfold lg_sl
      rw [List.map_cons, List.flatMap_cons, if_neg hc]
    rw [h1, List.length_append, ih]
    simp only [List.length_cons, List.length_nil]
    omega
theorem mv_args (ad : Nat → Nat) (vs : List mv_V) : ∀ (i k : Nat) (v : mv_V), vs[k]? = some v → (i + k, mv_t ad v) ∈ lv_args i (vs.map (mv_t ad)) := by
  induction vs with
  | nil => intro i k v h; simp at h
  | cons w vs ih =>
    intro i k v h
    have hc : ¬ (mv_t ad w).category = 2 := by rw [mv_cat]; decide
    have h1 : lv_args i ((w :: vs).map (mv_t ad)) = (i, mv_t ad w) :: lv_args (i + 1) (vs.map (mv_t ad)) := by
      rw [List.map_cons, lv_args, if_neg hc]
    rw [h1]
    cases k with
    | zero =>
      rw [List.getElem?_cons_zero] at h
      rw [Option.some.inj h]
      exact List.mem_cons_self
    | succ k =>
      rw [List.getElem?_cons_succ] at h
      have := ih (i + 1) k v h
      rw [show i + 1 + k = i + (k + 1) by omega] at this
      exact List.mem_cons_of_mem _ this
def mv_ent (md : mv_D) (vs : List mv_V) : List mv_V := vs ++ List.replicate (md.2.2.1 - vs.length) (.inr 0)
set_option maxHeartbeats 1000000 in
/-- a method is what its walk is -/
theorem mv_enter {md : mv_D} {vs : List mv_V} {M : mv_M} {Q : List mv_V → mv_M → Prop} (hpl : plainName md.1.cls = true) (hlen : vs.length ≤ md.2.2.1) (k : mv_W md 0 (mv_ent md vs) [] M (0, 0) Q) : mv_J md vs M Q := by
  intro l D cA ad sz hwf hvs
  refine Met.ofW (cc := md.2.1) (maxL := md.2.2.1) (ret := md.2.2.2.1) hpl rfl ?_
  intro p e s m args below meth c s₁ B hml hv
  obtain ⟨rfl, hsz, hP, hK, hD0, hX, hb1, hne, hnw⟩ := hv
  have hx := B.exec
  have hb := B.bytes
  have hr := B.returns
  have hts0 := atoms_spec (ws := Cond.code md.1 md.2.1 md.2.2.1 md.2.2.2.1 :: mv_tb) B.pre
  have hts : ∀ w ∈ mv_tb, w.before (vs.map (mv_t ad)).toArray s = true := fun w hw => hts0 w (List.mem_cons_of_mem _ hw)
  have hown : s.vm.findClass md.1.cls = some m.cls := findClass_of_methodNamed B.named
  have hlocks := B.notSynchronized
  have hin : meth.name = md.1.name := (name_of_methodNamed B.named B.method).1
  subst hsz
  have hD : va_D (va_A (mv_w cA ad M) s.heap.size) (mv_w cA ad M) := hD0.self (sz := s.heap.size)
  have hnA : ¬ va_A (mv_w cA ad M) s.heap.size (ad 1) := by
    rintro (⟨j, e', hj⟩ | h)
    · obtain ⟨k', -, g2, g3, g4⟩ := mv_w_of hj
      exact hne k' g2 g3 (Prod.mk.inj g4).1.symm
    · omega
  have hl := lv_entry (vs.map (mv_t ad)) (n := md.2.2.1) (by rw [mv_sl]; exact hlen)
  rw [lg_entry_eq]
  generalize (lg_sl (vs.map (mv_t ad)) ++ List.replicate (md.2.2.1 - (lg_sl (vs.map (mv_t ad))).length) Slot.unset).toArray = ls at hl ⊢
  have hL : mv_L md.2.2.1 ad M.1 ls (mv_ent md vs) := by
    refine ⟨⟨_, hl, fun j v hj hv => ?_⟩, by unfold mv_ent; rw [List.length_append, List.length_replicate]; omega, fun v hv => ?_⟩
    · unfold mv_ent at hj
      rw [List.getElem?_append] at hj
      by_cases hjl : j < vs.length
      · rw [if_pos hjl] at hj
        have := mv_args ad vs 0 j v hj
        rw [Nat.zero_add] at this
        exact this
      · rw [if_neg hjl] at hj
        exact absurd (List.eq_of_mem_replicate (List.mem_of_getElem? hj)) hv
    · rcases List.mem_append.mp hv with h | h
      · exact hvs v h
      · rw [List.eq_of_mem_replicate h]
        show 0 < M.1
        have := hwf.1
        omega
  refine k p l e _ s m _ below meth c D cA (va_A (mv_w cA ad M) s.heap.size) _ ⟨hx, hb, hml, hown, hts, hin, hK, rfl, hnw⟩ ad ls s.heap [] ⟨hwf, hP, hD, va_S.rf, fun q h => Or.inr h, hX, hb1, hnA⟩ hL (fun v hv => absurd hv List.not_mem_nil) ⟨Nat.zero_le _, Nat.zero_le _⟩ ?_
  intro r M' ad' ls' H' locs' k1 k2 pc' hQ hn had hS' hr' h1 h2 hrt
  refine W.widen (k := md.2.2.2.2.cells) (n := md.2.2.2.2.slots) h1 h2 ?_
  have hXt : ∀ t : State, s.WarmedH t.vm → mv_X ad' M' t s.heap := fun t hW => by
    obtain ⟨L', f', g1, g2⟩ := hS'.2.2.2.2.2.1
    exact ⟨L', f', g1, g2.moved hW.alike⟩
  rcases hrt with ⟨rfl, hret, hdec⟩ | ⟨x, ty, rfl, hret, hnar, hdec⟩
  · exact W.vret hx hb (hr.trans hret) (fun t ht hW => ⟨⟨[], M', ad', rfl, Nat.zero_le _, hQ, hn, had, hS'.1, hr', by rw [ht]; exact hS'.2.1, hS'.2.2.1, hXt t hW⟩, hS'.2.2.2.1.F ht⟩) hS'.2.2.2.1.2.2 hdec
  · exact W.zret (v := mv_i x) hx hb (hr.trans hret) hnar (fun t ht hW => ⟨⟨[.inl x], M', ad', rfl, Nat.le_refl _, hQ, hn, had, hS'.1, hr', by rw [ht]; exact hS'.2.1, hS'.2.2.1, hXt t hW⟩, hS'.2.2.2.1.F ht⟩) hS'.2.2.2.1.2.2 hdec
def mv_Md (md : mv_D) : Prop := GoodIn mv_tb (Cond.code md.1 md.2.1 md.2.2.1 md.2.2.2.1 :: mv_tb) ∧ Cond.initialized md.1.cls ∈ mv_tb ∧ md.1.cls ≠ "java/lang/invoke/MethodHandle" ∧ md.1.cls ≠ "java/lang/invoke/VarHandle"
abbrev mv_fit (md md' : mv_D) : Prop := md'.2.2.2.2.frames + 1 ≤ md.2.2.2.2.frames ∧ 8 + (md'.2.2.1 + 11) + md'.2.2.2.2.locals ≤ md.2.2.2.2.locals
section MC
variable {md : mv_D} {pc : Nat} {lo st : List mv_V} {M : mv_M} {bu : Nat × Nat} {Q : List mv_V → mv_M → Prop}
theorem mv_after {md' : mv_D} {stk : List mv_V} {a : Array Value} {p : Program} {l : Launch} {e : Env} {R : Room} {s : State} {m : MethodId} {args : Array Value} {below : List Frame} {meth : Method} {c : Code} {D : va_G} {cA : ClassId × ClassId} {A : Nat → Prop} {Qr : State → Prop} (G : mv_G md D cA p R s m args meth c) {ad : Nat → Nat} {ls : Array Slot} {H : Heap} {locs : List Loc} (S : mv_S D cA A s ad M H locs) (L : mv_L md.2.2.1 ad M.1 ls lo) (hst : ∀ v ∈ st, mv_ok M.1 v) (E : mv_E md D cA A p l e R s m args below meth c Qr ad M.1 Q)
    (hbu : bu.1 + md'.2.2.2.2.cells ≤ md.2.2.2.2.cells ∧ bu.2 + md'.2.2.2.2.slots ≤ md.2.2.2.2.slots)
    (hrun : va_Run p l e R s m args below meth c H locs bu.1 bu.2 md'.2.2.2.2.cells md'.2.2.2.2.slots (F0 m pc ls (stk.map (mv_t ad))) (st.map (mv_t ad)) (mv_Q D cA ad M H.size (fun r M' => mv_W md (pc + 3) lo (r ++ st) M' (bu.1 + md'.2.2.2.2.cells, bu.2 + md'.2.2.2.2.slots) Q) a) (va_A (mv_w cA ad M) H.size)) :
    W p l e R s m args below meth c H locs bu.1 bu.2 Qr (F0 m pc ls (stk.map (mv_t ad))) := by
  have hR := G.2.2.2.2.2.2.2.1
  have hfree : ∀ q, va_A (mv_w cA ad M) H.size q → A q := by
    rintro q (⟨j, e', hj⟩ | h)
    · exact S.2.2.1.2 j (q, e') hj
    · exact S.2.2.2.2.1 q (Nat.le_trans S.2.2.2.1.1 h)
  refine mv_call hrun S.2.2.2.1 hfree (fun _ _ _ h => h.2) (fun q _ h => hfree q h) (fun v st₀ t H1 locs1 h0 h1 hal hq hS1 => ?_)
  obtain ⟨⟨r, M', ad', hv, hlen, hQ, hn, had, hwf, hr, hP, hD, hX⟩, hF⟩ := hq
  have h2 := S.1.1
  have had1 : ad' 1 = ad 1 := had 1 (by omega)
  have hS' : mv_S D cA A s ad' M' H1 locs1 := by
    refine ⟨hwf, by rw [← h1]; exact hP, ⟨hD.1, fun j q hj => hfree _ (hD.2 j q hj)⟩, hS1, S.2.2.2.2.1, ?_, by rw [had1]; exact S.2.2.2.2.2.2.1, by rw [had1]; exact S.2.2.2.2.2.2.2⟩
    obtain ⟨L', f', g1, g2⟩ := hX
    rw [h0, had1] at g2
    refine ⟨L', f', g1, ?_⟩
    rw [had1]
    exact (g2.moved hal.symm).kept (S.2.2.2.1.2.1 (ad 1) S.2.2.2.2.2.2.1 S.2.2.2.2.2.2.2).symm
  have hk := hQ p l e R s m args below meth c D cA A Qr G ad' ls H1 locs1 hS' (L.ad hn had) (fun v hv => by
    rcases List.mem_append.mp hv with h | h
    · exact hr v h
    · exact mv_ok_up hn (hst v h)) ⟨by rw [hR]; exact hbu.1, by rw [hR]; exact hbu.2⟩ (E.up hn had)
  rw [List.map_append, mv_ts_ad had hst] at hk
  have hv2 : v.toList = r.map (mv_t ad') := by
    have hv' : v = (r.map (mv_t ad')).head? := by
      injection hv
    rw [hv']
    match r, hlen with
    | [], _ => rfl
    | [x], _ => rfl
  rw [hv2]
  exact hk
theorem mv_blind {D : va_G} {cA : ClassId × ClassId} {ad : Nat → Nat} {sz : Nat} {vs : List Value} : FrameBlind (va_Pc vs (fun U => U.heap.size = sz ∧ mv_B D cA ad M U)) := by
  intro a U g mk q
  obtain ⟨q0, q1, qP, qK, qD, qX, qr, qr2, qn⟩ := q
  refine ⟨q0, q1, qP, va_K.moved (u := U) (U := U.calling g mk a) (Vm.Alike.refl U.vm) qK, qD, ?_, qr, qr2, fun z hz => va_Nw.same rfl (rfl : U.vm = (U.calling g mk a).vm) (qn z hz)⟩
  obtain ⟨L', f', g1, g2⟩ := qX
  exact ⟨L', f', g1, va_X.moved (u := U) (U := U.calling g mk a) (Vm.Alike.refl U.vm) g2⟩
theorem mv_pre {p : Program} {R : Room} {s : State} {m : MethodId} {args : Array Value} {meth : Method} {c : Code} {D : va_G} {cA : ClassId × ClassId} {A : Nat → Prop} (G : mv_G md D cA p R s m args meth c) {ad : Nat → Nat} {H : Heap} {locs : List Loc} (S : mv_S D cA A s ad M H locs) (U : State) (hU : U.heap = H) (hW : s.WarmedH U.vm) : U.heap.size = H.size ∧ mv_B D cA ad M U := by
  have hs := S.2.2.2.1
  refine ⟨by rw [hU], by rw [hU]; exact S.2.1, va_K.moved hW.alike G.2.2.2.2.2.2.1, ⟨S.2.2.1.1, fun _ _ _ => trivial⟩, ?_, by rw [hU]; exact Nat.lt_of_lt_of_le S.2.2.2.2.2.2.1 hs.1, fun k h1 h2 he => ?_, fun z hz => va_Nw.warmM hW (G.2.2.2.2.2.2.2.2 z hz)⟩
  · obtain ⟨L', f', g1, g2⟩ := S.2.2.2.2.2.1
    rw [hU]
    exact ⟨L', f', g1, (g2.kept (hs.2.1 (ad 1) S.2.2.2.2.2.2.1 S.2.2.2.2.2.2.2)).moved hW.alike⟩
  · have := S.2.2.1.2 _ _ (mv_w_at (cA := cA) (ad := ad) h1 h2)
    exact S.2.2.2.2.2.2.2 (by rw [← he]; exact this)
/-- a method of an object -/
def mv_cV (own : String) (ix : Nat) (md' : mv_D) : Prop := mv_Md md' ∧ Cond.methodLink own ix md'.1 ∈ mv_tb ∧ Cond.instanceMethod md'.1 ∈ mv_tb ∧ Cond.selects md'.1.cls md'.1 md'.1 ∈ mv_tb
theorem mx_callV {md' : mv_D} {as : List mv_V} {o ci ix : Nat} {fs : Nat → mv_V} {T : u_T} {N : Nat} {stk : List mv_V} (hd : decode md.2.1 pc = .ok (.invokevirtual ix, 3)) (hw : mv_cV md.1.cls ix md') (hn : (parseMethodDescriptor md'.1.desc).map (fun d => d.parameters.length) = some as.length)
    (hfit : mv_fit md md') (hbu : bu.1 + md'.2.2.2.2.cells ≤ md.2.2.2.2.cells ∧ bu.2 + md'.2.2.2.2.slots ≤ md.2.2.2.2.slots) (ho : M.2 o = .inr (ci, fs)) (hci : ci < 4096) (hc : classes[ci]? = some (md'.1.cls, T, N)) (hs : stk = as.reverse ++ .inr o :: st) (h8 : st.length ≤ 8)
    (k : mv_J md' (.inr o :: as) M (fun r M' => mv_W md (pc + 3) lo (r ++ st) M' (bu.1 + md'.2.2.2.2.cells, bu.2 + md'.2.2.2.2.slots) Q)) : mv_W md pc lo stk M bu Q := by
  intro p l e R s m args below meth c D cA A Qr G ad ls H locs S L hst hb E
  subst hs
  have hR := G.2.2.2.2.2.2.2.1
  have hts := G.2.2.2.2.1
  obtain ⟨⟨w1, w2, w3, w4⟩, w5, w6, w7⟩ := hw
  obtain ⟨h2, h3⟩ := mv_liveO S.1 S.2.2.2.2.2.1 ho (by omega)
  have he := mv_w_at (cA := cA) (ad := ad) h2 h3
  rw [ho, mv_e_o hci] at he
  have hst2 : ∀ v ∈ st, mv_ok M.1 v := fun v hv => hst v (List.mem_append_right _ (List.mem_cons_of_mem _ hv))
  have hargs : ∀ v ∈ (.inr o :: as : List mv_V), mv_ok M.1 v := fun v hv => by
    rcases List.mem_cons.mp hv with rfl | h
    · exact h3
    · exact hst v (List.mem_append_left _ (List.mem_reverse.mpr h))
  have htr : mv_t ad (.inr o) = .ref (ad o) := mv_tr (by omega)
  have hM := k l D cA ad H.size S.1 hargs
  rw [List.map_cons, htr] at hM
  refine mv_after (md' := md') (stk := as.reverse ++ .inr o :: st) (a := (Value.ref (ad o) :: as.map (mv_t ad)).toArray) G S L hst2 E hbu ?_
  exact va_runV (rest := st.map (mv_t ad)) (As := as.map (mv_t ad)) ⟨G.1, G.2.1, G.2.2.1, G.2.2.2.1, hts⟩ hM ⟨callB_of as.length hts w1 rfl rfl rfl (hts _ w2) (hts _ w5) ⟨w3, w4, hn⟩ ⟨by rw [hR]; exact hfit.1, by rw [hR]; exact hfit.2⟩, hts _ w6, hts _ w7⟩
    ⟨mv_blind, va_recv G.2.2.2.2.2.2.1 S.2.1 hc he, fun U hU hW => ⟨rfl, mv_pre G S U hU hW⟩⟩ rfl (by rw [List.length_map]) L.size (by
      show (as.reverse ++ .inr o :: st).map (mv_t ad) = _
      rw [List.map_append, List.map_reverse, List.map_cons, htr]) (by
      show 2 * 0 + _ ≤ 8
      rw [mv_cats]; omega) hd ⟨by rw [hR]; exact hbu.1, by rw [hR]; exact hbu.2⟩
/-- a method of a class -/
def mv_cS (own : String) (ix : Nat) (md' : mv_D) : Prop := mv_Md md' ∧ Cond.methodLink own ix md'.1 ∈ mv_tb ∧ Cond.static md'.1 ∈ mv_tb
theorem mx_callS {md' : mv_D} {as : List mv_V} {ix : Nat} {stk : List mv_V} (hd : decode md.2.1 pc = .ok (.invokestatic ix, 3)) (hw : mv_cS md.1.cls ix md') (hn : (parseMethodDescriptor md'.1.desc).map (fun d => d.parameters.length) = some as.length)
    (hfit : mv_fit md md') (hbu : bu.1 + md'.2.2.2.2.cells ≤ md.2.2.2.2.cells ∧ bu.2 + md'.2.2.2.2.slots ≤ md.2.2.2.2.slots) (hs : stk = as.reverse ++ st) (h8 : st.length ≤ 8)
    (k : mv_J md' as M (fun r M' => mv_W md (pc + 3) lo (r ++ st) M' (bu.1 + md'.2.2.2.2.cells, bu.2 + md'.2.2.2.2.slots) Q)) : mv_W md pc lo stk M bu Q := by
  intro p l e R s m args below meth c D cA A Qr G ad ls H locs S L hst hb E
  subst hs
  have hR := G.2.2.2.2.2.2.2.1
  have hts := G.2.2.2.2.1
  obtain ⟨⟨w1, w2, w3, w4⟩, w5, w6⟩ := hw
  have hst2 : ∀ v ∈ st, mv_ok M.1 v := fun v hv => hst v (List.mem_append_right _ hv)
  have hargs : ∀ v ∈ as, mv_ok M.1 v := fun v hv => hst v (List.mem_append_left _ (List.mem_reverse.mpr hv))
  have hM := k l D cA ad H.size S.1 hargs
  refine mv_after (md' := md') (stk := as.reverse ++ st) (a := (as.map (mv_t ad)).toArray) G S L hst2 E hbu ?_
  exact va_runS (rest := st.map (mv_t ad)) (As := as.map (mv_t ad)) ⟨G.1, G.2.1, G.2.2.1, G.2.2.2.1, hts⟩ hM ⟨callB_of as.length hts w1 rfl rfl rfl (hts _ w2) (hts _ w5) ⟨w3, w4, hn⟩ ⟨by rw [hR]; exact hfit.1, by rw [hR]; exact hfit.2⟩, hts _ w6⟩
    ⟨mv_blind, fun U hU hW => ⟨rfl, mv_pre G S U hU hW⟩⟩ rfl (by rw [List.length_map]) L.size (by
      show (as.reverse ++ st).map (mv_t ad) = _
      rw [List.map_append, List.map_reverse]) (by
      show 2 * 0 + _ ≤ 8
      rw [mv_cats]; omega) hd ⟨by rw [hR]; exact hbu.1, by rw [hR]; exact hbu.2⟩
/-- a constructor -/
def mv_cI (own : String) (ix : Nat) (md' : mv_D) : Prop := mv_Md md' ∧ Cond.methodLink own ix md'.1 ∈ mv_tb ∧ Cond.instanceMethod md'.1 ∈ mv_tb ∧ md'.1.name = "<init>" ∧ md'.2.2.2.1 = none
theorem mx_callI {md' : mv_D} {as : List mv_V} {o ix : Nat} {stk : List mv_V} (hd : decode md.2.1 pc = .ok (.invokespecial ix, 3)) (hw : mv_cI md.1.cls ix md') (hn : (parseMethodDescriptor md'.1.desc).map (fun d => d.parameters.length) = some as.length)
    (hfit : mv_fit md md') (hbu : bu.1 + md'.2.2.2.2.cells ≤ md.2.2.2.2.cells ∧ bu.2 + md'.2.2.2.2.slots ≤ md.2.2.2.2.slots) (ho : o ≠ 0) (hs : stk = as.reverse ++ .inr o :: st) (h8 : st.length ≤ 8)
    (k : mv_J md' (.inr o :: as) M (fun r M' => mv_W md (pc + 3) lo (r ++ st) M' (bu.1 + md'.2.2.2.2.cells, bu.2 + md'.2.2.2.2.slots) Q)) : mv_W md pc lo stk M bu Q := by
  intro p l e R s m args below meth c D cA A Qr G ad ls H locs S L hst hb E
  subst hs
  have hR := G.2.2.2.2.2.2.2.1
  have hts := G.2.2.2.2.1
  obtain ⟨⟨w1, w2, w3, w4⟩, w5, w6, w7, w8⟩ := hw
  have hst2 : ∀ v ∈ st, mv_ok M.1 v := fun v hv => hst v (List.mem_append_right _ (List.mem_cons_of_mem _ hv))
  have hargs : ∀ v ∈ (.inr o :: as : List mv_V), mv_ok M.1 v := fun v hv => by
    rcases List.mem_cons.mp hv with rfl | h
    · exact hst _ (List.mem_append_right _ List.mem_cons_self)
    · exact hst v (List.mem_append_left _ (List.mem_reverse.mpr h))
  have htr : mv_t ad (.inr o) = .ref (ad o) := mv_tr ho
  have hM := k l D cA ad H.size S.1 hargs
  rw [List.map_cons, htr] at hM
  rw [w8] at hM w1
  refine mv_after (md' := md') (stk := as.reverse ++ .inr o :: st) (a := (Value.ref (ad o) :: as.map (mv_t ad)).toArray) G S L hst2 E hbu ?_
  exact va_runI (rest := st.map (mv_t ad)) (As := as.map (mv_t ad)) ⟨G.1, G.2.1, G.2.2.1, G.2.2.2.1, hts⟩ hM ⟨callB_of as.length hts w1 rfl rfl rfl (hts _ w2) (hts _ w5) ⟨w3, w4, hn⟩ ⟨by rw [hR]; exact hfit.1, by rw [hR]; exact hfit.2⟩, w7, hts _ w6⟩
    ⟨mv_blind, fun U hU hW => ⟨rfl, mv_pre G S U hU hW⟩⟩ rfl (by rw [List.length_map]) L.size (by
      show (as.reverse ++ .inr o :: st).map (mv_t ad) = _
      rw [List.map_append, List.map_reverse, List.map_cons, htr]) (by
      show 2 * 0 + _ ≤ 8
      rw [mv_cats]; omega) hd ⟨by rw [hR]; exact hbu.1, by rw [hR]; exact hbu.2⟩
/-- a private constructor of a nest mate -/
def mv_cN (own : String) (ix : Nat) (md' : mv_D) : Prop := mv_Md md' ∧ (∃ host : String, (own, ix, md'.1, host) ∈ mv_ne) ∧ Cond.instanceMethod md'.1 ∈ mv_tb ∧ md'.1.name = "<init>" ∧ md'.2.2.2.1 = none
theorem mx_callN {md' : mv_D} {as : List mv_V} {o ix : Nat} {stk : List mv_V} (hd : decode md.2.1 pc = .ok (.invokespecial ix, 3)) (hw : mv_cN md.1.cls ix md') (hn : (parseMethodDescriptor md'.1.desc).map (fun d => d.parameters.length) = some as.length)
    (hfit : mv_fit md md') (hbu : bu.1 + md'.2.2.2.2.cells ≤ md.2.2.2.2.cells ∧ bu.2 + md'.2.2.2.2.slots ≤ md.2.2.2.2.slots) (ho : o ≠ 0) (hs : stk = as.reverse ++ .inr o :: st) (h8 : st.length ≤ 8)
    (k : mv_J md' (.inr o :: as) M (fun r M' => mv_W md (pc + 3) lo (r ++ st) M' (bu.1 + md'.2.2.2.2.cells, bu.2 + md'.2.2.2.2.slots) Q)) : mv_W md pc lo stk M bu Q := by
  intro p l e R s m args below meth c D cA A Qr G ad ls H locs S L hst hb E
  subst hs
  have hR := G.2.2.2.2.2.2.2.1
  have hts := G.2.2.2.2.1
  obtain ⟨⟨w1, w2, w3, w4⟩, ⟨host, w5⟩, w6, w7, w8⟩ := hw
  have hst2 : ∀ v ∈ st, mv_ok M.1 v := fun v hv => hst v (List.mem_append_right _ (List.mem_cons_of_mem _ hv))
  have hargs : ∀ v ∈ (.inr o :: as : List mv_V), mv_ok M.1 v := fun v hv => by
    rcases List.mem_cons.mp hv with rfl | h
    · exact hst _ (List.mem_append_right _ List.mem_cons_self)
    · exact hst v (List.mem_append_left _ (List.mem_reverse.mpr h))
  have htr : mv_t ad (.inr o) = .ref (ad o) := mv_tr ho
  have hM := k l D cA ad H.size S.1 hargs
  rw [List.map_cons, htr] at hM
  rw [w8] at hM w1
  refine mv_after (md' := md') (stk := as.reverse ++ .inr o :: st) (a := (Value.ref (ad o) :: as.map (mv_t ad)).toArray) G S L hst2 E hbu ?_
  exact va_runIN (host := host) (rest := st.map (mv_t ad)) (As := as.map (mv_t ad)) ⟨G.1, G.2.1, G.2.2.1, G.2.2.2.1, hts⟩ hM ⟨⟨⟨rfl, rfl, by rw [hR]; exact hfit.1, by rw [hR]; exact hfit.2, pay_in hts w1, List.mem_cons_self⟩, hts _ (w1 _ List.mem_cons_self).1, hts _ w2, ⟨w3, w4⟩, fun sig h => (by rw [h] at hn; exact (Option.some.inj hn).symm), va_Nw.use rfl (G.2.2.2.2.2.2.2.2 _ w5)⟩, w7, hts _ w6⟩
    ⟨mv_blind, fun U hU hW => ⟨rfl, mv_pre G S U hU hW⟩⟩ rfl (by rw [List.length_map]) L.size (by
      show (as.reverse ++ .inr o :: st).map (mv_t ad) = _
      rw [List.map_append, List.map_reverse, List.map_cons, htr]) (by
      show 2 * 0 + _ ≤ 8
      rw [mv_cats]; omega) hd ⟨by rw [hR]; exact hbu.1, by rw [hR]; exact hbu.2⟩
end MC
