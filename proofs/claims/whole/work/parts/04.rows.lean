section MX
variable {md : mv_D} {pc : Nat} {lo st : List mv_V} {M : mv_M} {bu : Nat × Nat} {Q : List mv_V → mv_M → Prop}
theorem mx_c1 {a : mv_V} {st : List mv_V} {n : Nat} (h : ∀ v ∈ a :: st, mv_ok n v) : mv_ok n a := (List.forall_mem_cons.mp h).1
theorem mx_c2 {a : mv_V} {st : List mv_V} {n : Nat} (h : ∀ v ∈ a :: st, mv_ok n v) : ∀ v ∈ st, mv_ok n v := (List.forall_mem_cons.mp h).2
theorem mx_cc {a : mv_V} {st : List mv_V} {n : Nat} (h1 : mv_ok n a) (h : ∀ v ∈ st, mv_ok n v) : ∀ v ∈ a :: st, mv_ok n v := List.forall_mem_cons.mpr ⟨h1, h⟩
theorem mx_pc {pc pc' : Nat} (h : pc = pc') (k : mv_W md pc' lo st M bu Q) : mv_W md pc lo st M bu Q := h ▸ k
theorem mx_iconst {n : Int} (x : Int) (hd : decode md.2.1 pc = .ok (.iconst n, 1)) (hv : Int32.ofInt n = mv_i x) (hr : mv_r x) (k : mv_W md (pc + 1) lo (.inl x :: st) M bu Q) : mv_W md pc lo st M bu Q := by
  intro p l e R s m args below meth c D cA A Qr G ad ls H locs S L hst hbu E
  exact lv_iconst (v := mv_i x) G.1 G.2.1 hd hv (k p l e R s m args below meth c D cA A Qr G ad ls H locs S L (mx_cc hr hst) hbu E)
theorem mx_bipush {n : Int} (x : Int) (hd : decode md.2.1 pc = .ok (.bipush n, 2)) (hv : (Int8.ofInt n).toInt32 = mv_i x) (hr : mv_r x) (k : mv_W md (pc + 2) lo (.inl x :: st) M bu Q) : mv_W md pc lo st M bu Q := by
  intro p l e R s m args below meth c D cA A Qr G ad ls H locs S L hst hbu E
  exact lv_bipush (v := mv_i x) G.1 G.2.1 hd hv (k p l e R s m args below meth c D cA A Qr G ad ls H locs S L (mx_cc hr hst) hbu E)
theorem mx_sipush {n : Int} (x : Int) (hd : decode md.2.1 pc = .ok (.sipush n, 3)) (hv : (Int16.ofInt n).toInt32 = mv_i x) (hr : mv_r x) (k : mv_W md (pc + 3) lo (.inl x :: st) M bu Q) : mv_W md pc lo st M bu Q := by
  intro p l e R s m args below meth c D cA A Qr G ad ls H locs S L hst hbu E
  exact lv_sipush (v := mv_i x) G.1 G.2.1 hd hv (k p l e R s m args below meth c D cA A Qr G ad ls H locs S L (mx_cc hr hst) hbu E)
theorem mx_ldc {ix : Nat} (x : Int) (hd : decode md.2.1 pc = .ok (.ldc ix, 2)) (hv : Jvm.Cond.constant md.1.cls ix (mv_i x) ∈ mv_tb) (hr : mv_r x) (k : mv_W md (pc + 2) lo (.inl x :: st) M bu Q) : mv_W md pc lo st M bu Q := by
  intro p l e R s m args below meth c D cA A Qr G ad ls H locs S L hst hbu E
  exact lv_ldc (v := mv_i x) G.1 G.2.1 G.2.2.2.1 (G.2.2.2.2.1 _ hv) hd (k p l e R s m args below meth c D cA A Qr G ad ls H locs S L (mx_cc hr hst) hbu E)
theorem mx_iload_n {j : Fin 4} {x : Int} (hd : decode md.2.1 pc = .ok (.iload_n j, 1)) (hl : lo[(j : Nat)]? = some (.inl x)) (k : mv_W md (pc + 1) lo (.inl x :: st) M bu Q) : mv_W md pc lo st M bu Q := by
  intro p l e R s m args below meth c D cA A Qr G ad ls H locs S L hst hbu E
  exact lv_iload_n G.1 G.2.1 hd rfl (L.get hl (by intro h; cases h)) (k p l e R s m args below meth c D cA A Qr G ad ls H locs S L (mx_cc (L.ok hl) hst) hbu E)
theorem mx_iload {j : Nat} {x : Int} (hd : decode md.2.1 pc = .ok (.iload j, 2)) (hl : lo[j]? = some (.inl x)) (k : mv_W md (pc + 2) lo (.inl x :: st) M bu Q) : mv_W md pc lo st M bu Q := by
  intro p l e R s m args below meth c D cA A Qr G ad ls H locs S L hst hbu E
  exact lv_iload G.1 G.2.1 hd (L.get hl (by intro h; cases h)) (k p l e R s m args below meth c D cA A Qr G ad ls H locs S L (mx_cc (L.ok hl) hst) hbu E)
theorem mx_aload_n {j : Fin 4} {x : Nat} (hd : decode md.2.1 pc = .ok (.aload_n j, 1)) (hl : lo[(j : Nat)]? = some (.inr x)) (hx : x ≠ 0) (k : mv_W md (pc + 1) lo (.inr x :: st) M bu Q) : mv_W md pc lo st M bu Q := by
  intro p l e R s m args below meth c D cA A Qr G ad ls H locs S L hst hbu E
  have hg := L.get hl (by intro h; exact hx (Sum.inr.inj h))
  have hk := k p l e R s m args below meth c D cA A Qr G ad ls H locs S L (mx_cc (L.ok hl) hst) hbu E
  rw [mv_tr hx] at hg
  rw [List.map_cons, mv_tr hx] at hk
  exact lv_aload_n G.1 G.2.1 hd rfl hg hk
theorem mx_aload {j : Nat} {x : Nat} (hd : decode md.2.1 pc = .ok (.aload j, 2)) (hl : lo[j]? = some (.inr x)) (hx : x ≠ 0) (k : mv_W md (pc + 2) lo (.inr x :: st) M bu Q) : mv_W md pc lo st M bu Q := by
  intro p l e R s m args below meth c D cA A Qr G ad ls H locs S L hst hbu E
  have hg := L.get hl (by intro h; exact hx (Sum.inr.inj h))
  have hk := k p l e R s m args below meth c D cA A Qr G ad ls H locs S L (mx_cc (L.ok hl) hst) hbu E
  rw [mv_tr hx] at hg
  rw [List.map_cons, mv_tr hx] at hk
  exact lv_aload G.1 G.2.1 hd hg hk
theorem mx_istore_n {j : Fin 4} {x : Int} (hd : decode md.2.1 pc = .ok (.istore_n j, 1)) (hj : (j : Nat) < md.2.2.1) (k : mv_W md (pc + 1) (lo.set (j : Nat) (.inl x)) st M bu Q) : mv_W md pc lo (.inl x :: st) M bu Q := by
  intro p l e R s m args below meth c D cA A Qr G ad ls H locs S L hst hbu E
  obtain ⟨⟨lv, g1, g2⟩, g3, g4⟩ := L
  exact lv_istore_n (x := mv_i x) G.1 G.2.1 hd rfl g1 hj rfl (fun ls' h' => k p l e R s m args below meth c D cA A Qr G ad ls' H locs S (mv_L.set (v := .inl x) g2 g3 g4 (mx_c1 hst) h') (mx_c2 hst) hbu E)
theorem mx_istore {j : Nat} {x : Int} (hd : decode md.2.1 pc = .ok (.istore j, 2)) (hj : j < md.2.2.1) (k : mv_W md (pc + 2) (lo.set j (.inl x)) st M bu Q) : mv_W md pc lo (.inl x :: st) M bu Q := by
  intro p l e R s m args below meth c D cA A Qr G ad ls H locs S L hst hbu E
  obtain ⟨⟨lv, g1, g2⟩, g3, g4⟩ := L
  exact lv_istore (x := mv_i x) G.1 G.2.1 hd g1 hj rfl (fun ls' h' => k p l e R s m args below meth c D cA A Qr G ad ls' H locs S (mv_L.set (v := .inl x) g2 g3 g4 (mx_c1 hst) h') (mx_c2 hst) hbu E)
theorem mx_astore_n {j : Fin 4} {x : Nat} (hd : decode md.2.1 pc = .ok (.astore_n j, 1)) (hj : (j : Nat) < md.2.2.1) (hx : x ≠ 0) (k : mv_W md (pc + 1) (lo.set (j : Nat) (.inr x)) st M bu Q) : mv_W md pc lo (.inr x :: st) M bu Q := by
  intro p l e R s m args below meth c D cA A Qr G ad ls H locs S L hst hbu E
  obtain ⟨⟨lv, g1, g2⟩, g3, g4⟩ := L
  rw [List.map_cons, mv_tr hx]
  exact lv_astore_n (x := ad x) G.1 G.2.1 hd rfl g1 hj rfl (fun ls' h' => k p l e R s m args below meth c D cA A Qr G ad ls' H locs S (mv_L.set (v := .inr x) g2 g3 g4 (mx_c1 hst) (by rw [mv_tr hx]; exact h')) (mx_c2 hst) hbu E)
theorem mx_astore {j : Nat} {x : Nat} (hd : decode md.2.1 pc = .ok (.astore j, 2)) (hj : j < md.2.2.1) (hx : x ≠ 0) (k : mv_W md (pc + 2) (lo.set j (.inr x)) st M bu Q) : mv_W md pc lo (.inr x :: st) M bu Q := by
  intro p l e R s m args below meth c D cA A Qr G ad ls H locs S L hst hbu E
  obtain ⟨⟨lv, g1, g2⟩, g3, g4⟩ := L
  rw [List.map_cons, mv_tr hx]
  exact lv_astore (x := ad x) G.1 G.2.1 hd g1 hj rfl (fun ls' h' => k p l e R s m args below meth c D cA A Qr G ad ls' H locs S (mv_L.set (v := .inr x) g2 g3 g4 (mx_c1 hst) (by rw [mv_tr hx]; exact h')) (mx_c2 hst) hbu E)
theorem mx_iinc {j : Nat} {n : Int} {x : Int} (hd : decode md.2.1 pc = .ok (.iinc j n, 3)) (hl : lo[j]? = some (.inl x)) (hr : mv_r (x + n)) (k : mv_W md (pc + 3) (lo.set j (.inl (x + n))) st M bu Q) : mv_W md pc lo st M bu Q := by
  intro p l e R s m args below meth c D cA A Qr G ad ls H locs S L hst hbu E
  have hjl : j < lo.length := (List.getElem?_eq_some_iff.mp hl).1
  obtain ⟨⟨lv, g1, g2⟩, g3, g4⟩ := L
  have hm := g2 j _ hl (by intro h; cases h)
  obtain ⟨kk, hkk⟩ := List.getElem?_of_mem hm
  refine lv_iinc (x := mv_i x) (v := mv_i (x + n)) G.1 G.2.1 hd g1 hkk (Int32.ofInt_add x n).symm (by rw [← g3]; exact hjl) rfl (fun ls' h' => ?_)
  exact k p l e R s m args below meth c D cA A Qr G ad ls' H locs S (mv_L.set (v := .inl (x + n)) g2 g3 g4 hr h') hst hbu E
theorem mx_iadd {x y : Int} (hd : decode md.2.1 pc = .ok (.iadd, 1)) (hr : mv_r (x + y)) (k : mv_W md (pc + 1) lo (.inl (x + y) :: st) M bu Q) : mv_W md pc lo (.inl y :: .inl x :: st) M bu Q := by
  intro p l e R s m args below meth c D cA A Qr G ad ls H locs S L hst hbu E
  refine lv_iadd (x := mv_i x) (y := mv_i y) G.1 G.2.1 hd ?_
  rw [show mv_i x + mv_i y = mv_i (x + y) from (Int32.ofInt_add x y).symm]
  exact k p l e R s m args below meth c D cA A Qr G ad ls H locs S L (mx_cc hr (mx_c2 (mx_c2 hst))) hbu E
theorem mx_isub {x y : Int} (hd : decode md.2.1 pc = .ok (.isub, 1)) (hr : mv_r (x - y)) (k : mv_W md (pc + 1) lo (.inl (x - y) :: st) M bu Q) : mv_W md pc lo (.inl y :: .inl x :: st) M bu Q := by
  intro p l e R s m args below meth c D cA A Qr G ad ls H locs S L hst hbu E
  refine lv_isub (x := mv_i x) (y := mv_i y) G.1 G.2.1 hd ?_
  rw [show mv_i x - mv_i y = mv_i (x - y) from (Int32.ofInt_sub x y).symm]
  exact k p l e R s m args below meth c D cA A Qr G ad ls H locs S L (mx_cc hr (mx_c2 (mx_c2 hst))) hbu E
theorem mx_imul {x y : Int} (hd : decode md.2.1 pc = .ok (.imul, 1)) (hr : mv_r (x * y)) (k : mv_W md (pc + 1) lo (.inl (x * y) :: st) M bu Q) : mv_W md pc lo (.inl y :: .inl x :: st) M bu Q := by
  intro p l e R s m args below meth c D cA A Qr G ad ls H locs S L hst hbu E
  refine lv_imul (x := mv_i x) (y := mv_i y) G.1 G.2.1 hd ?_
  rw [show mv_i x * mv_i y = mv_i (x * y) from (Int32.ofInt_mul x y).symm]
  exact k p l e R s m args below meth c D cA A Qr G ad ls H locs S L (mx_cc hr (mx_c2 (mx_c2 hst))) hbu E
theorem mx_ineg {x : Int} (hd : decode md.2.1 pc = .ok (.ineg, 1)) (hr : mv_r (-x)) (k : mv_W md (pc + 1) lo (.inl (-x) :: st) M bu Q) : mv_W md pc lo (.inl x :: st) M bu Q := by
  intro p l e R s m args below meth c D cA A Qr G ad ls H locs S L hst hbu E
  refine lv_ineg (x := mv_i x) G.1 G.2.1 hd ?_
  rw [show -mv_i x = mv_i (-x) from (Int32.ofInt_neg x).symm]
  exact k p l e R s m args below meth c D cA A Qr G ad ls H locs S L (mx_cc hr (mx_c2 hst)) hbu E
theorem mx_and15 {x : Int} (h : mv_r x) : mv_i x &&& mv_i 15 = mv_i (x % 16) := by
  rw [show mv_i 15 = (15 : Int32) by decide +kernel, pk_and (mv_i x) (m := 15) 4 (by decide +kernel)]
  have h1 : ((mv_i x).toBitVec.toNat % 2 ^ 4 : Int) = x % 16 := by
    have h2 := mv_to h
    have h3 : (mv_i x).toInt = (mv_i x).toBitVec.toInt := rfl
    rw [h3, BitVec.toInt_eq_toNat_cond] at h2
    have h4 := (mv_i x).toBitVec.isLt
    split at h2 <;> omega
  apply Int32.toInt_inj.mp
  rw [nI_toInt (by omega), mv_to (by unfold mv_r; omega)]
  rw [← h1]; rfl
theorem mx_iand15 {x : Int} (hd : decode md.2.1 pc = .ok (.iand, 1)) (k : mv_W md (pc + 1) lo (.inl (x % 16) :: st) M bu Q) : mv_W md pc lo (.inl 15 :: .inl x :: st) M bu Q := by
  intro p l e R s m args below meth c D cA A Qr G ad ls H locs S L hst hbu E
  refine lv_iand (x := mv_i x) (y := mv_i 15) G.1 G.2.1 hd ?_
  rw [mx_and15 (mx_c1 (mx_c2 hst))]
  exact k p l e R s m args below meth c D cA A Qr G ad ls H locs S L (mx_cc (show mv_r (x % 16) by unfold mv_r; omega) (mx_c2 (mx_c2 hst))) hbu E
theorem mx_dup {a : mv_V} (hd : decode md.2.1 pc = .ok (.dup, 1)) (k : mv_W md (pc + 1) lo (a :: a :: st) M bu Q) : mv_W md pc lo (a :: st) M bu Q := by
  intro p l e R s m args below meth c D cA A Qr G ad ls H locs S L hst hbu E
  exact lv_dup G.1 G.2.1 hd (mv_cat ad a) (k p l e R s m args below meth c D cA A Qr G ad ls H locs S L (mx_cc (mx_c1 hst) hst) hbu E)
theorem mx_pop {a : mv_V} (hd : decode md.2.1 pc = .ok (.pop, 1)) (k : mv_W md (pc + 1) lo st M bu Q) : mv_W md pc lo (a :: st) M bu Q := by
  intro p l e R s m args below meth c D cA A Qr G ad ls H locs S L hst hbu E
  exact lv_pop G.1 G.2.1 hd (mv_cat ad a) (k p l e R s m args below meth c D cA A Qr G ad ls H locs S L (mx_c2 hst) hbu E)
theorem mx_dup_x1 {a b : mv_V} (hd : decode md.2.1 pc = .ok (.dup_x1, 1)) (k : mv_W md (pc + 1) lo (a :: b :: a :: st) M bu Q) : mv_W md pc lo (a :: b :: st) M bu Q := by
  intro p l e R s m args below meth c D cA A Qr G ad ls H locs S L hst hbu E
  exact lv_dup_x1 G.1 G.2.1 hd (mv_cat ad a) (mv_cat ad b) (k p l e R s m args below meth c D cA A Qr G ad ls H locs S L (mx_cc (mx_c1 hst) (mx_cc (mx_c1 (mx_c2 hst)) (mx_cc (mx_c1 hst) (mx_c2 (mx_c2 hst))))) hbu E)
theorem mx_dup_x2 {a b d : mv_V} (hd : decode md.2.1 pc = .ok (.dup_x2, 1)) (k : mv_W md (pc + 1) lo (a :: b :: d :: a :: st) M bu Q) : mv_W md pc lo (a :: b :: d :: st) M bu Q := by
  intro p l e R s m args below meth c D cA A Qr G ad ls H locs S L hst hbu E
  exact lv_dup_x2 G.1 G.2.1 hd (mv_cat ad a) (mv_cat ad b) (mv_cat ad d) (k p l e R s m args below meth c D cA A Qr G ad ls H locs S L (mx_cc (mx_c1 hst) (mx_cc (mx_c1 (mx_c2 hst)) (mx_cc (mx_c1 (mx_c2 (mx_c2 hst))) (mx_cc (mx_c1 hst) (mx_c2 (mx_c2 (mx_c2 hst))))))) hbu E)
theorem mx_dup2 {a b : mv_V} (hd : decode md.2.1 pc = .ok (.dup2, 1)) (k : mv_W md (pc + 1) lo (a :: b :: a :: b :: st) M bu Q) : mv_W md pc lo (a :: b :: st) M bu Q := by
  intro p l e R s m args below meth c D cA A Qr G ad ls H locs S L hst hbu E
  exact lv_dup2_11 G.1 G.2.1 hd (mv_cat ad a) (mv_cat ad b) (k p l e R s m args below meth c D cA A Qr G ad ls H locs S L (mx_cc (mx_c1 hst) (mx_cc (mx_c1 (mx_c2 hst)) hst)) hbu E)
theorem mx_icmp_eq {x y : Int} {off : Int} (tgt : Nat) (hd : decode md.2.1 pc = .ok (.if_icmp .eq off, 3)) (ht : (pc : Int) + off = (tgt : Int)) (kt : x = y → mv_W md tgt lo st M bu Q) (kf : ¬ x = y → mv_W md (pc + 3) lo st M bu Q) : mv_W md pc lo (.inl y :: .inl x :: st) M bu Q := by
  intro p l e R s m args below meth c D cA A Qr G ad ls H locs S L hst hbu E
  exact lv_icmp_eq (x := mv_i x) (y := mv_i y) G.1 G.2.1 hd ht (fun h => kt ((mv_eq (mx_c1 (mx_c2 hst)) (mx_c1 hst)).mp h) p l e R s m args below meth c D cA A Qr G ad ls H locs S L (mx_c2 (mx_c2 hst)) hbu E) (fun h => kf (fun e => h (by rw [e])) p l e R s m args below meth c D cA A Qr G ad ls H locs S L (mx_c2 (mx_c2 hst)) hbu E)
theorem mx_if_eq {x : Int} {off : Int} (tgt : Nat) (hd : decode md.2.1 pc = .ok (.ifCond .eq off, 3)) (ht : (pc : Int) + off = (tgt : Int)) (kt : x = 0 → mv_W md tgt lo st M bu Q) (kf : ¬ x = 0 → mv_W md (pc + 3) lo st M bu Q) : mv_W md pc lo (.inl x :: st) M bu Q := by
  intro p l e R s m args below meth c D cA A Qr G ad ls H locs S L hst hbu E
  exact lv_if_eq (x := mv_i x) G.1 G.2.1 hd ht (fun h => kt ((mv_eq (mx_c1 hst) mv_r0).mp (by rw [h, mv_i0])) p l e R s m args below meth c D cA A Qr G ad ls H locs S L (mx_c2 hst) hbu E) (fun h => kf (fun e => h (by rw [e, mv_i0])) p l e R s m args below meth c D cA A Qr G ad ls H locs S L (mx_c2 hst) hbu E)
theorem mx_icmp_ne {x y : Int} {off : Int} (tgt : Nat) (hd : decode md.2.1 pc = .ok (.if_icmp .ne off, 3)) (ht : (pc : Int) + off = (tgt : Int)) (kt : ¬ x = y → mv_W md tgt lo st M bu Q) (kf : x = y → mv_W md (pc + 3) lo st M bu Q) : mv_W md pc lo (.inl y :: .inl x :: st) M bu Q := by
  intro p l e R s m args below meth c D cA A Qr G ad ls H locs S L hst hbu E
  exact lv_icmp_ne (x := mv_i x) (y := mv_i y) G.1 G.2.1 hd ht (fun h => kt (fun e => h (by rw [e])) p l e R s m args below meth c D cA A Qr G ad ls H locs S L (mx_c2 (mx_c2 hst)) hbu E) (fun h => kf ((mv_eq (mx_c1 (mx_c2 hst)) (mx_c1 hst)).mp h) p l e R s m args below meth c D cA A Qr G ad ls H locs S L (mx_c2 (mx_c2 hst)) hbu E)
theorem mx_if_ne {x : Int} {off : Int} (tgt : Nat) (hd : decode md.2.1 pc = .ok (.ifCond .ne off, 3)) (ht : (pc : Int) + off = (tgt : Int)) (kt : ¬ x = 0 → mv_W md tgt lo st M bu Q) (kf : x = 0 → mv_W md (pc + 3) lo st M bu Q) : mv_W md pc lo (.inl x :: st) M bu Q := by
  intro p l e R s m args below meth c D cA A Qr G ad ls H locs S L hst hbu E
  exact lv_if_ne (x := mv_i x) G.1 G.2.1 hd ht (fun h => kt (fun e => h (by rw [e, mv_i0])) p l e R s m args below meth c D cA A Qr G ad ls H locs S L (mx_c2 hst) hbu E) (fun h => kf ((mv_eq (mx_c1 hst) mv_r0).mp (by rw [h, mv_i0])) p l e R s m args below meth c D cA A Qr G ad ls H locs S L (mx_c2 hst) hbu E)
theorem mx_icmp_lt {x y : Int} {off : Int} (tgt : Nat) (hd : decode md.2.1 pc = .ok (.if_icmp .lt off, 3)) (ht : (pc : Int) + off = (tgt : Int)) (kt : x < y → mv_W md tgt lo st M bu Q) (kf : ¬ x < y → mv_W md (pc + 3) lo st M bu Q) : mv_W md pc lo (.inl y :: .inl x :: st) M bu Q := by
  intro p l e R s m args below meth c D cA A Qr G ad ls H locs S L hst hbu E
  exact lv_icmp_lt (x := mv_i x) (y := mv_i y) G.1 G.2.1 hd ht (fun h => kt ((mv_lt (mx_c1 (mx_c2 hst)) (mx_c1 hst)).mp h) p l e R s m args below meth c D cA A Qr G ad ls H locs S L (mx_c2 (mx_c2 hst)) hbu E) (fun h => kf (fun e => h ((mv_lt (mx_c1 (mx_c2 hst)) (mx_c1 hst)).mpr e)) p l e R s m args below meth c D cA A Qr G ad ls H locs S L (mx_c2 (mx_c2 hst)) hbu E)
theorem mx_if_lt {x : Int} {off : Int} (tgt : Nat) (hd : decode md.2.1 pc = .ok (.ifCond .lt off, 3)) (ht : (pc : Int) + off = (tgt : Int)) (kt : x < 0 → mv_W md tgt lo st M bu Q) (kf : ¬ x < 0 → mv_W md (pc + 3) lo st M bu Q) : mv_W md pc lo (.inl x :: st) M bu Q := by
  intro p l e R s m args below meth c D cA A Qr G ad ls H locs S L hst hbu E
  exact lv_if_lt (x := mv_i x) G.1 G.2.1 hd ht (fun h => kt ((mv_lt (mx_c1 hst) mv_r0).mp (by rw [mv_i0]; exact h)) p l e R s m args below meth c D cA A Qr G ad ls H locs S L (mx_c2 hst) hbu E) (fun h => kf (fun e => h (by rw [← mv_i0]; exact (mv_lt (mx_c1 hst) mv_r0).mpr e)) p l e R s m args below meth c D cA A Qr G ad ls H locs S L (mx_c2 hst) hbu E)
theorem mx_icmp_ge {x y : Int} {off : Int} (tgt : Nat) (hd : decode md.2.1 pc = .ok (.if_icmp .ge off, 3)) (ht : (pc : Int) + off = (tgt : Int)) (kt : y ≤ x → mv_W md tgt lo st M bu Q) (kf : ¬ y ≤ x → mv_W md (pc + 3) lo st M bu Q) : mv_W md pc lo (.inl y :: .inl x :: st) M bu Q := by
  intro p l e R s m args below meth c D cA A Qr G ad ls H locs S L hst hbu E
  exact lv_icmp_ge (x := mv_i x) (y := mv_i y) G.1 G.2.1 hd ht (fun h => kt ((mv_le (mx_c1 hst) (mx_c1 (mx_c2 hst))).mp h) p l e R s m args below meth c D cA A Qr G ad ls H locs S L (mx_c2 (mx_c2 hst)) hbu E) (fun h => kf (fun e => h ((mv_le (mx_c1 hst) (mx_c1 (mx_c2 hst))).mpr e)) p l e R s m args below meth c D cA A Qr G ad ls H locs S L (mx_c2 (mx_c2 hst)) hbu E)
theorem mx_if_ge {x : Int} {off : Int} (tgt : Nat) (hd : decode md.2.1 pc = .ok (.ifCond .ge off, 3)) (ht : (pc : Int) + off = (tgt : Int)) (kt : 0 ≤ x → mv_W md tgt lo st M bu Q) (kf : ¬ 0 ≤ x → mv_W md (pc + 3) lo st M bu Q) : mv_W md pc lo (.inl x :: st) M bu Q := by
  intro p l e R s m args below meth c D cA A Qr G ad ls H locs S L hst hbu E
  exact lv_if_ge (x := mv_i x) G.1 G.2.1 hd ht (fun h => kt ((mv_le mv_r0 (mx_c1 hst)).mp (by rw [mv_i0]; exact h)) p l e R s m args below meth c D cA A Qr G ad ls H locs S L (mx_c2 hst) hbu E) (fun h => kf (fun e => h (by rw [← mv_i0]; exact (mv_le mv_r0 (mx_c1 hst)).mpr e)) p l e R s m args below meth c D cA A Qr G ad ls H locs S L (mx_c2 hst) hbu E)
theorem mx_icmp_gt {x y : Int} {off : Int} (tgt : Nat) (hd : decode md.2.1 pc = .ok (.if_icmp .gt off, 3)) (ht : (pc : Int) + off = (tgt : Int)) (kt : y < x → mv_W md tgt lo st M bu Q) (kf : ¬ y < x → mv_W md (pc + 3) lo st M bu Q) : mv_W md pc lo (.inl y :: .inl x :: st) M bu Q := by
  intro p l e R s m args below meth c D cA A Qr G ad ls H locs S L hst hbu E
  exact lv_icmp_gt (x := mv_i x) (y := mv_i y) G.1 G.2.1 hd ht (fun h => kt ((mv_lt (mx_c1 hst) (mx_c1 (mx_c2 hst))).mp h) p l e R s m args below meth c D cA A Qr G ad ls H locs S L (mx_c2 (mx_c2 hst)) hbu E) (fun h => kf (fun e => h ((mv_lt (mx_c1 hst) (mx_c1 (mx_c2 hst))).mpr e)) p l e R s m args below meth c D cA A Qr G ad ls H locs S L (mx_c2 (mx_c2 hst)) hbu E)
theorem mx_if_gt {x : Int} {off : Int} (tgt : Nat) (hd : decode md.2.1 pc = .ok (.ifCond .gt off, 3)) (ht : (pc : Int) + off = (tgt : Int)) (kt : 0 < x → mv_W md tgt lo st M bu Q) (kf : ¬ 0 < x → mv_W md (pc + 3) lo st M bu Q) : mv_W md pc lo (.inl x :: st) M bu Q := by
  intro p l e R s m args below meth c D cA A Qr G ad ls H locs S L hst hbu E
  exact lv_if_gt (x := mv_i x) G.1 G.2.1 hd ht (fun h => kt ((mv_lt mv_r0 (mx_c1 hst)).mp (by rw [mv_i0]; exact h)) p l e R s m args below meth c D cA A Qr G ad ls H locs S L (mx_c2 hst) hbu E) (fun h => kf (fun e => h (by rw [← mv_i0]; exact (mv_lt mv_r0 (mx_c1 hst)).mpr e)) p l e R s m args below meth c D cA A Qr G ad ls H locs S L (mx_c2 hst) hbu E)
theorem mx_icmp_le {x y : Int} {off : Int} (tgt : Nat) (hd : decode md.2.1 pc = .ok (.if_icmp .le off, 3)) (ht : (pc : Int) + off = (tgt : Int)) (kt : x ≤ y → mv_W md tgt lo st M bu Q) (kf : ¬ x ≤ y → mv_W md (pc + 3) lo st M bu Q) : mv_W md pc lo (.inl y :: .inl x :: st) M bu Q := by
  intro p l e R s m args below meth c D cA A Qr G ad ls H locs S L hst hbu E
  exact lv_icmp_le (x := mv_i x) (y := mv_i y) G.1 G.2.1 hd ht (fun h => kt ((mv_le (mx_c1 (mx_c2 hst)) (mx_c1 hst)).mp h) p l e R s m args below meth c D cA A Qr G ad ls H locs S L (mx_c2 (mx_c2 hst)) hbu E) (fun h => kf (fun e => h ((mv_le (mx_c1 (mx_c2 hst)) (mx_c1 hst)).mpr e)) p l e R s m args below meth c D cA A Qr G ad ls H locs S L (mx_c2 (mx_c2 hst)) hbu E)
theorem mx_if_le {x : Int} {off : Int} (tgt : Nat) (hd : decode md.2.1 pc = .ok (.ifCond .le off, 3)) (ht : (pc : Int) + off = (tgt : Int)) (kt : x ≤ 0 → mv_W md tgt lo st M bu Q) (kf : ¬ x ≤ 0 → mv_W md (pc + 3) lo st M bu Q) : mv_W md pc lo (.inl x :: st) M bu Q := by
  intro p l e R s m args below meth c D cA A Qr G ad ls H locs S L hst hbu E
  exact lv_if_le (x := mv_i x) G.1 G.2.1 hd ht (fun h => kt ((mv_le (mx_c1 hst) mv_r0).mp (by rw [mv_i0]; exact h)) p l e R s m args below meth c D cA A Qr G ad ls H locs S L (mx_c2 hst) hbu E) (fun h => kf (fun e => h (by rw [← mv_i0]; exact (mv_le (mx_c1 hst) mv_r0).mpr e)) p l e R s m args below meth c D cA A Qr G ad ls H locs S L (mx_c2 hst) hbu E)
theorem mx_goto {off : Int} (tgt : Nat) (hd : decode md.2.1 pc = .ok (.goto off, 3)) (ht : (pc : Int) + off = (tgt : Int)) (k : mv_W md tgt lo st M bu Q) : mv_W md pc lo st M bu Q := by
  intro p l e R s m args below meth c D cA A Qr G ad ls H locs S L hst hbu E
  exact lv_goto G.1 G.2.1 hd ht (k p l e R s m args below meth c D cA A Qr G ad ls H locs S L hst hbu E)
theorem mx_tabOut {dflt a b : Int} {offs : Array Int} {len : Nat} {x : Int} (tgt : Nat) (hd : decode md.2.1 pc = .ok (.tableswitch dflt a b offs, len)) (h : x < a ∨ b < x) (ht : (pc : Int) + dflt = (tgt : Int)) (k : mv_W md tgt lo st M bu Q) : mv_W md pc lo (.inl x :: st) M bu Q := by
  intro p l e R s m args below meth c D cA A Qr G ad ls H locs S L hst hbu E
  exact lv_tableOut (x := mv_i x) G.1 G.2.1 hd (by rw [mv_to (mx_c1 hst)]; exact h) ht (k p l e R s m args below meth c D cA A Qr G ad ls H locs S L (mx_c2 hst) hbu E)
theorem mx_tabIn {dflt a b : Int} {offs : Array Int} {len : Nat} {x off : Int} (tgt : Nat) (hd : decode md.2.1 pc = .ok (.tableswitch dflt a b offs, len)) (h1 : a ≤ x) (h2 : x ≤ b) (ho : offs[(x - a).toNat]? = some off) (ht : (pc : Int) + off = (tgt : Int)) (k : mv_W md tgt lo st M bu Q) : mv_W md pc lo (.inl x :: st) M bu Q := by
  intro p l e R s m args below meth c D cA A Qr G ad ls H locs S L hst hbu E
  exact lv_tableIn (x := mv_i x) G.1 G.2.1 hd (by rw [mv_to (mx_c1 hst)]; omega) (by rw [mv_to (mx_c1 hst)]; omega) (by rw [mv_to (mx_c1 hst)]; exact ho) ht (k p l e R s m args below meth c D cA A Qr G ad ls H locs S L (mx_c2 hst) hbu E)
theorem mx_look {dflt : Int} {ps : Array (Int × Int)} {len : Nat} {x off : Int} (tgt : Nat) (hd : decode md.2.1 pc = .ok (.lookupswitch dflt ps, len)) (hp : (ps.toList.zip (ps.toList.drop 1)).all (fun (a, next) => a.1 < next.1) = true) (ho : Op.lookupswitch.offset ps.toList dflt x = off) (ht : (pc : Int) + off = (tgt : Int)) (k : mv_W md tgt lo st M bu Q) : mv_W md pc lo (.inl x :: st) M bu Q := by
  intro p l e R s m args below meth c D cA A Qr G ad ls H locs S L hst hbu E
  exact lv_lookup (x := mv_i x) G.1 G.2.1 hd hp (by rw [mv_to (mx_c1 hst)]; exact ho) ht (k p l e R s m args below meth c D cA A Qr G ad ls H locs S L (mx_c2 hst) hbu E)
theorem mx_return (hd : decode md.2.1 pc = .ok (.return_, 1)) (hr : md.2.2.2.1 = none) (k : Q [] M) : mv_W md pc lo [] M bu Q := by
  intro p l e R s m args below meth c D cA A Qr G ad ls H locs S L hst hbu E
  exact E [] M ad ls H locs bu.1 bu.2 pc k (Nat.le_refl _) (fun _ _ => rfl) S hst hbu.1 hbu.2 (Or.inl ⟨rfl, hr, hd⟩)
theorem mx_ireturn {x : Int} (hd : decode md.2.1 pc = .ok (.ireturn, 1)) (hr : md.2.2.2.1 = some .int) (k : Q [.inl x] M) : mv_W md pc lo [.inl x] M bu Q := by
  intro p l e R s m args below meth c D cA A Qr G ad ls H locs S L hst hbu E
  exact E [.inl x] M ad ls H locs bu.1 bu.2 pc k (Nat.le_refl _) (fun _ _ => rfl) S hst hbu.1 hbu.2 (Or.inr ⟨x, .int, rfl, hr, rfl, hd⟩)
theorem mx_zreturn {x : Int} (hd : decode md.2.1 pc = .ok (.ireturn, 1)) (hr : md.2.2.2.1 = some .boolean) (hx : x = 0 ∨ x = 1) (k : Q [.inl x] M) : mv_W md pc lo [.inl x] M bu Q := by
  intro p l e R s m args below meth c D cA A Qr G ad ls H locs S L hst hbu E
  exact E [.inl x] M ad ls H locs bu.1 bu.2 pc k (Nat.le_refl _) (fun _ _ => rfl) S hst hbu.1 hbu.2 (Or.inr ⟨x, .boolean, rfl, hr, by rcases hx with rfl | rfl <;> decide +kernel, hd⟩)
end MX
