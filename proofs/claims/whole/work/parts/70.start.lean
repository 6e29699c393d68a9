/-! the law's claim: what holds at its entry -/
def R_law : String := "BlockFinderLaw"
def lw_P (b : Addr) (xs : List Int32) (args : Array Value) (s : State) : Prop := args = #[.ref b] ∧ s.IntsAt b xs ∧ xs.length ≤ 2562 ∧ (Jvm.Cond.and given_1 narrow_1).before args s = true
def lw_Q (_ : Array Value) (s : State) (o : Outcome) (t : State) : Prop := o = .returned (some (.int 1)) ∧ Framed s o t [] 600000 7302250
def lw_Z (below : List Frame) (a : Array Value) (s : State) : State → Prop := fun t => ∃ o, t.status = .running ∧ Ended t below o ∧ lw_Q a s o t
/-- the law's own end, with 1 on the stack, nothing written that was there before, its room as the claim has it -/
theorem lw_ret {p : Program} {l : Launch} {e : Env} {s : State} {m : MethodId} {below : List Frame} {meth : Method} {c : Code} {b : Nat} (hx : p.tables.exec = Jvm.exec) (hb : c.code = code) (hr : meth.sig.returnType = ret) (hlocks : meth.locks = false) {pc : Nat} {H : Heap} {ls : Array Slot} (hdg : decode code pc = .ok (.ireturn, 1)) : W p l e room_1 s m #[Value.ref b] below meth c H [] 600000 7302250 (lw_Z below #[Value.ref b] s) (F0 m pc ls [.int 1]) := by
  intro T hT X
  obtain ⟨fs, hret, hrun, hended, hW, hframe⟩ := X.leave (v := some (.int 1)) (hlocks := hlocks) (fun h => by rw [hr] at h; cases h)
  have hmeth' : T.vm.method? m = some meth := X.method'
  refine ⟨T.setFrames fs, ?_, .returned (some (.int 1)), hrun, hended, rfl, ⟨_, rfl⟩, hW, hframe⟩
  jvm_step X.here [X.here.top, hx, hb, hdg, hmeth', hr, ret, narrow_b1]
  (try refine ⟨rfl, ?_⟩); (try refine ⟨rfl, ?_⟩)
  first | (intro acts; rw [hret _ acts rfl rfl rfl]) | rw [hret _ _ rfl rfl rfl]
  exact Steps.refl _
/-- what holds at the law's entry: the machine, the code, the tables' words (any of lw_tbl by 'hts w (by decide +kernel)'), the script of L ints xs at the cell b, what the Statement gives of the start (any of its parts by flat_of_before) -/
def lw_At (p : Program) (s : State) (m : MethodId) (meth : Method) (c : Code) (b L : Nat) (xs : Nat → Int32) : Prop :=
  p.tables.exec = Jvm.exec ∧ c.code = code ∧ meth.sig.returnType = ret ∧ c.maxLocals = 4 ∧ s.vm.findClass R_law = some m.cls ∧ (∀ w ∈ lw_tbl, w.before #[Value.ref b] s = true) ∧ va_X b L xs s s.heap ∧ b < s.heap.size ∧ meth.locks = false ∧ (Jvm.Cond.and given_1 narrow_1).before #[Value.ref b] s = true
/-- from the entry, for every script of at most 2562 ints, the law comes to its end with true -/
theorem whole_start {p : Program} {e : Env} {s : State} {m : MethodId} {below : List Frame} {meth : Method} {c : Code} (l : Launch) {b L : Nat} {xs : Nat → Int32} (hL : L ≤ 2562) (hnm : meth.name = md_law.1.name) (C0 : lw_At p s m meth c b L xs) : W p l e room_1 s m #[Value.ref b] below meth c s.heap [] 0 0 (lw_Z below #[Value.ref b] s) (entryFrame m ([Value.ref b] : List Value).toArray 4) := by
  obtain ⟨hx, hb, hr, hml, hown, hts, hX, hbl, hlocks, hgv⟩ := id C0
  have hmt : ∀ w ∈ mv_tb, w.before #[Value.ref b] s = true := fun w hw => hts w (List.mem_filter.mp hw).1
  have hnw : mv_nw s := fun q hq => va_Nw.of rfl (hts _ (mv_ne_in q hq))
  obtain ⟨c0, i0, k0⟩ := u_known (C := nR_G) (T := nT_G) (N := 7) (n := 7) hmt ni_G (hts (.instantiable nR_G 7) (by decide +kernel))
  obtain ⟨c1, i1, k1⟩ := u_known (C := nR_R) (T := nT_R) (N := 5) (n := 5) hmt ni_R (hts (.instantiable nR_R 5) (by decide +kernel))
  obtain ⟨c2, i2, k2⟩ := u_known (C := nR_S) (T := nT_S) (N := 3) (n := 3) hmt ni_S (hts (.instantiable nR_S 3) (by decide +kernel))
  obtain ⟨c3, i3, k3⟩ := u_known (C := nR_BF) (T := nT_BF) (N := 14) (n := 14) hmt ni_BF (hts (.instantiable nR_BF 14) (by decide +kernel))
  obtain ⟨c4, i4, k4⟩ := u_known (C := nR_RM) (T := nT_RM) (N := 29) (n := 29) hmt ni_RM (hts (.instantiable nR_RM 29) (by decide +kernel))
  obtain ⟨dC, dI, hKc⟩ : ∃ (dC : Nat → ClassId) (dI : Nat → Nat → Nat), ∀ (k : Nat) (q : vw_C), classes[k]? = some q → u_Kn s q.1 q.2.1 q.2.2 (dC k) (dI k) := by
    refine ⟨fun k => if k = 0 then c0 else if k = 1 then c1 else if k = 2 then c2 else if k = 3 then c3 else c4, fun k => if k = 0 then i0 else if k = 1 then i1 else if k = 2 then i2 else if k = 3 then i3 else i4, ?_⟩
    intro k q hq
    match k, hq with
    | 0, hq => cases hq; exact k0
    | 1, hq => cases hq; exact k1
    | 2, hq => cases hq; exact k2
    | 3, hq => cases hq; exact k3
    | 4, hq => cases hq; exact k4
    | k + 5, hq => simp [classes] at hq
  obtain ⟨cI, kI, coI, a1, a2, a3⟩ := Cond.arrayClass_spec (hmt _ w_int)
  obtain ⟨cZ, kZ, coZ, b1, b2, b3⟩ := Cond.arrayClass_spec (hmt _ w_bool)
  have hK : va_K (dC, dI) classes [(cI, .int), (cZ, .boolean)] s := by
    refine ⟨hKc, fun k q hq => ?_⟩
    match k, hq with
    | 0, hq => cases hq; exact ⟨fun n z => ⟨fun k h => (by cases h), kI, a2, coI, a3⟩, a1⟩
    | 1, hq => cases hq; exact ⟨fun n z => ⟨fun k h => (by cases h), kZ, b2, coZ, b3⟩, b1⟩
    | k + 2, hq => simp at hq
  have hwf : mv_wf (la_M L (fun j => (xs j.toNat).toInt)) := by
    refine ⟨Nat.le_refl _, fun k => ?_, fun k hk => ?_⟩
    · show mv_okc 2 (if k = 1 then _ else _)
      by_cases h : k = 1
      · rw [if_pos h]
        exact ⟨by omega, fun j => mv_rz _⟩
      · rw [if_neg h]
        exact fun j => (by decide : (0 : Nat) < 2)
    · have hk' : k = 0 ∨ 2 ≤ k := hk
      show (if k = 1 then _ else mv_dead) = mv_dead
      rw [if_neg (by omega)]
  have hX' : mv_X (fun _ => b) (la_M L (fun j => (xs j.toNat).toInt)) s s.heap := by
    refine ⟨L, fun j => (xs j.toNat).toInt, rfl, ?_⟩
    have e : (fun j : Nat => mv_i ((fun j : Int => (xs j.toNat).toInt) (j : Int))) = xs := by
      funext j
      show mv_i ((xs ((j : Int)).toNat).toInt) = xs j
      rw [mv_iz, Int.toNat_natCast]
    rw [e]
    exact hX
  have hl := lv_entry ([.ref b]) (n := 4) (Nat.le_of_ble_eq_true rfl)
  rw [lg_entry_eq]
  generalize (lg_sl ([.ref b]) ++ List.replicate (4 - (lg_sl ([.ref b])).length) Slot.unset).toArray = ls at hl ⊢
  have hl : lv_has ls 4 [(0, .ref b)] := hl
  have hLl : mv_L 4 (fun _ => b) 2 ls [.inr 1, .inr 0, .inr 0, .inr 0] := by
    refine ⟨⟨_, hl, fun k v hk hv => ?_⟩, rfl, fun v hv => ?_⟩
    · match k, hk with
      | 0, hk => cases hk; exact List.mem_cons_self
      | 1, hk => cases hk; exact absurd rfl hv
      | 2, hk => cases hk; exact absurd rfl hv
      | 3, hk => cases hk; exact absurd rfl hv
      | k + 4, hk => simp at hk
    · rcases List.mem_cons.mp hv with rfl | hv
      · exact (by decide : (1 : Nat) < 2)
      · have hv' : v = .inr 0 := by simpa using hv
        rw [hv']
        exact (by decide : (0 : Nat) < 2)
  refine la_law (L := L) (f := fun j => (xs j.toNat).toInt) (Q := fun r _ => r = [.inl 1]) (by omega) (fun j => mv_rz _) (fun _ => rfl) p l e room_1 s m #[Value.ref b] below meth c (dC, dI) (cI, cZ) (fun q => s.heap.size ≤ q) (lw_Z below #[Value.ref b] s) ⟨hx, hb, hml, hown, hmt, hnm, hK, rfl, hnw⟩ (fun _ => b) ls s.heap [] ⟨hwf, fun k q h => absurd h (by simp [mv_w, la_M]), ⟨fun i j p q h => absurd h (by simp [mv_w, la_M]), fun k q h => absurd h (by simp [mv_w, la_M])⟩, va_S.rf, fun _ h => h, hX', hbl, Nat.not_le.mpr hbl⟩ hLl (fun v hv => absurd hv List.not_mem_nil) ⟨Nat.zero_le _, Nat.zero_le _⟩ ?_
  intro r M' ad' ls' H' locs' k1 k2 pc' hQ hn had hS' hr' h1 h2 hrt
  subst hQ
  rcases hrt with ⟨h, _⟩ | ⟨x, ty, hxe, hret, hnar, hdec⟩
  · cases h
  · have e1 : ([.inl 1] : List mv_V).map (mv_t ad') = [.int 1] := by
      show [Value.int (mv_i 1)] = [.int 1]
      rw [show mv_i 1 = 1 by decide +kernel]
    rw [e1]
    refine va_forget (fun q hq => hS'.2.2.2.1.2.2 q hq) ?_
    refine W.widen (k := 600000) (n := 7302250) h1 h2 ?_
    exact lw_ret hx hb hr hlocks hdec
