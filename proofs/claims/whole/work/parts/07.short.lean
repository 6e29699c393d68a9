/-! rows of the small machine in their short forms -/
def mv_l : List mv_V → Nat → mv_V
  | [], _ => .inr 0
  | v :: _, 0 => v
  | _ :: vs, k + 1 => mv_l vs k
theorem mv_lg : ∀ {vs : List mv_V} {k : Nat} {v : mv_V}, vs[k]? = some v → mv_l vs k = v := by
  intro vs
  induction vs with
  | nil => intro k v h; simp at h
  | cons w vs ih =>
    intro k v h
    cases k with
    | zero => rw [List.getElem?_cons_zero] at h; exact Option.some.inj h
    | succ k => rw [List.getElem?_cons_succ] at h; exact ih h
theorem mv_ul : ∀ {vs : List mv_V} {k : Nat} {v : mv_V}, k < vs.length → mv_u (mv_l vs) k v = mv_l (vs.set k v) := by
  intro vs
  induction vs with
  | nil => intro k v h; simp at h
  | cons w vs ih =>
    intro k v h
    funext j
    cases k with
    | zero =>
      cases j with
      | zero => rfl
      | succ j => rw [mv_un (by omega)]; rfl
    | succ k =>
      cases j with
      | zero => rw [mv_un (by omega)]; rfl
      | succ j =>
        have h2 := congrFun (ih (k := k) (v := v) (by simpa using h)) j
        show mv_u (mv_l (w :: vs)) (k + 1) v (j + 1) = mv_l (vs.set k v) j
        rw [← h2]
        by_cases hj : j = k
        · subst hj; rw [mv_us, mv_us]
        · rw [mv_un hj, mv_un (by omega)]; rfl
theorem mv_ld : ∀ {vs : List mv_V}, (∀ v ∈ vs, v = .inl 0 ∨ v = .inr 0) → ∀ j, mv_l vs j = .inl 0 ∨ mv_l vs j = .inr 0 := by
  intro vs
  induction vs with
  | nil => intro _ j; exact Or.inr rfl
  | cons w vs ih =>
    intro h j
    cases j with
    | zero => exact h w List.mem_cons_self
    | succ j => exact ih (fun v hv => h v (List.mem_cons_of_mem _ hv)) j
section MZ
variable {md : mv_D} {pc : Nat} {lo st : List mv_V} {M : mv_M} {bu : Nat × Nat} {Q : List mv_V → mv_M → Prop}
theorem mx_gl {ix ci k0 o : Nat} {vs : List mv_V} {v : mv_V} (hd : decode md.2.1 pc = .ok (.getfield ix, 3)) (hf : mv_F md.1.cls ix ci k0) (ho : M.2 o = .inr (ci, mv_l vs)) (hv : vs[k0]? = some v) (k : mv_W md (pc + 3) lo (v :: st) M bu Q) : mv_W md pc lo (.inr o :: st) M bu Q :=
  mx_get hd hf ho (by rw [mv_lg hv]; exact k)
theorem mx_pl {ix ci k0 o : Nat} {vs : List mv_V} {ty : FieldType} {v : mv_V} (hd : decode md.2.1 pc = .ok (.putfield ix, 3)) (hf : mv_Pf md.1.cls ix ci k0 false ty) (ho : M.2 o = .inr (ci, mv_l vs)) (hv : mv_Vt ty v) (hk : k0 < vs.length) (k : mv_W md (pc + 3) lo st (mv_p M o (.inr (ci, mv_l (vs.set k0 v)))) bu Q) : mv_W md pc lo (v :: .inr o :: st) M bu Q :=
  mx_put hd hf ho hv (by rw [mv_ul hk]; exact k)
theorem mx_plF {ix ci k0 o : Nat} {vs : List mv_V} {ty : FieldType} {v : mv_V} (hd : decode md.2.1 pc = .ok (.putfield ix, 3)) (hi : md.1.name = "<init>") (hf : mv_Pf md.1.cls ix ci k0 true ty) (ho : M.2 o = .inr (ci, mv_l vs)) (hv : mv_Vt ty v) (hk : k0 < vs.length) (k : mv_W md (pc + 3) lo st (mv_p M o (.inr (ci, mv_l (vs.set k0 v)))) bu Q) : mv_W md pc lo (v :: .inr o :: st) M bu Q :=
  mx_putF hd hi hf ho hv (by rw [mv_ul hk]; exact k)
theorem mx_z0 {off : Int} (tgt : Nat) (hd : decode md.2.1 pc = .ok (.ifCond .eq off, 3)) (ht : (pc : Int) + off = (tgt : Int)) (k : mv_W md tgt lo st M bu Q) : mv_W md pc lo (.inl 0 :: st) M bu Q := mx_if_eq tgt hd ht (fun _ => k) (fun h => absurd rfl h)
theorem mx_z1 {off : Int} (tgt : Nat) (hd : decode md.2.1 pc = .ok (.ifCond .eq off, 3)) (ht : (pc : Int) + off = (tgt : Int)) (k : mv_W md (pc + 3) lo st M bu Q) : mv_W md pc lo (.inl 1 :: st) M bu Q := mx_if_eq tgt hd ht (fun h => absurd h (by omega)) (fun _ => k)
theorem mx_n0 {off : Int} (tgt : Nat) (hd : decode md.2.1 pc = .ok (.ifCond .ne off, 3)) (ht : (pc : Int) + off = (tgt : Int)) (k : mv_W md (pc + 3) lo st M bu Q) : mv_W md pc lo (.inl 0 :: st) M bu Q := mx_if_ne tgt hd ht (fun h => absurd rfl h) (fun _ => k)
theorem mx_n1 {off : Int} (tgt : Nat) (hd : decode md.2.1 pc = .ok (.ifCond .ne off, 3)) (ht : (pc : Int) + off = (tgt : Int)) (k : mv_W md tgt lo st M bu Q) : mv_W md pc lo (.inl 1 :: st) M bu Q := mx_if_ne tgt hd ht (fun _ => k) (fun h => absurd h (by omega))
/-- a call of a method that makes no cells -/
def mv_kV (own : String) (ix ci n : Nat) (md' : mv_D) : Prop := mv_cV own ix md' ∧ md'.2.2.2.2.cells = 0 ∧ md'.2.2.2.2.slots = 0 ∧ ci < 4096 ∧ (∃ (T : u_T) (N : Nat), classes[ci]? = some (md'.1.cls, T, N)) ∧ (parseMethodDescriptor md'.1.desc).map (fun d => d.parameters.length) = some n
def mv_kS (own : String) (ix n : Nat) (md' : mv_D) : Prop := mv_cS own ix md' ∧ md'.2.2.2.2.cells = 0 ∧ md'.2.2.2.2.slots = 0 ∧ (parseMethodDescriptor md'.1.desc).map (fun d => d.parameters.length) = some n
theorem mx_kV {md' : mv_D} {as : List mv_V} {o ci ix : Nat} {fs : Nat → mv_V} {stk : List mv_V} (hd : decode md.2.1 pc = .ok (.invokevirtual ix, 3)) (hw : mv_kV md.1.cls ix ci as.length md') (ho : M.2 o = .inr (ci, fs)) (hfit : mv_fit md md') (h8 : st.length ≤ 8) (hs : stk = as.reverse ++ .inr o :: st)
    (k : mv_J md' (.inr o :: as) M (fun r M' => mv_W md (pc + 3) lo (r ++ st) M' bu Q)) : mv_W md pc lo stk M bu Q := by
  intro p l e R s m args below meth c D cA A Qr G ad ls H locs S L hst hb E
  have hR := G.2.2.2.2.2.2.2.1
  obtain ⟨w, h1, h2, hci, ⟨T, N, hc⟩, hn⟩ := hw
  refine mx_callV hd w hn hfit ⟨by rw [h1]; rw [hR] at hb; exact hb.1, by rw [h2]; rw [hR] at hb; exact hb.2⟩ ho hci hc hs h8 ?_ p l e R s m args below meth c D cA A Qr G ad ls H locs S L hst hb E
  rw [h1, h2]; exact k
theorem mx_kS {md' : mv_D} {as : List mv_V} {ix : Nat} {stk : List mv_V} (hd : decode md.2.1 pc = .ok (.invokestatic ix, 3)) (hw : mv_kS md.1.cls ix as.length md') (hfit : mv_fit md md') (h8 : st.length ≤ 8) (hs : stk = as.reverse ++ st)
    (k : mv_J md' as M (fun r M' => mv_W md (pc + 3) lo (r ++ st) M' bu Q)) : mv_W md pc lo stk M bu Q := by
  intro p l e R s m args below meth c D cA A Qr G ad ls H locs S L hst hb E
  have hR := G.2.2.2.2.2.2.2.1
  obtain ⟨w, h1, h2, hn⟩ := hw
  refine mx_callS hd w hn hfit ⟨by rw [h1]; rw [hR] at hb; exact hb.1, by rw [h2]; rw [hR] at hb; exact hb.2⟩ hs h8 ?_ p l e R s m args below meth c D cA A Qr G ad ls H locs S L hst hb E
  rw [h1, h2]; exact k
theorem mx_cV0 {md' : mv_D} {o ci ix : Nat} {fs : Nat → mv_V} (hd : decode md.2.1 pc = .ok (.invokevirtual ix, 3)) (hw : mv_kV md.1.cls ix ci 0 md') (ho : M.2 o = .inr (ci, fs)) (hfit : mv_fit md md') (h8 : st.length ≤ 8) (k : mv_J md' [.inr o] M (fun r M' => mv_W md (pc + 3) lo (r ++ st) M' bu Q)) : mv_W md pc lo (.inr o :: st) M bu Q :=
  mx_kV (as := []) hd hw ho hfit h8 rfl k
theorem mx_cV1 {md' : mv_D} {a1 : mv_V} {o ci ix : Nat} {fs : Nat → mv_V} (hd : decode md.2.1 pc = .ok (.invokevirtual ix, 3)) (hw : mv_kV md.1.cls ix ci 1 md') (ho : M.2 o = .inr (ci, fs)) (hfit : mv_fit md md') (h8 : st.length ≤ 8) (k : mv_J md' [.inr o, a1] M (fun r M' => mv_W md (pc + 3) lo (r ++ st) M' bu Q)) : mv_W md pc lo (a1 :: .inr o :: st) M bu Q :=
  mx_kV (as := [a1]) hd hw ho hfit h8 rfl k
theorem mx_cV2 {md' : mv_D} {a1 a2 : mv_V} {o ci ix : Nat} {fs : Nat → mv_V} (hd : decode md.2.1 pc = .ok (.invokevirtual ix, 3)) (hw : mv_kV md.1.cls ix ci 2 md') (ho : M.2 o = .inr (ci, fs)) (hfit : mv_fit md md') (h8 : st.length ≤ 8) (k : mv_J md' [.inr o, a1, a2] M (fun r M' => mv_W md (pc + 3) lo (r ++ st) M' bu Q)) : mv_W md pc lo (a2 :: a1 :: .inr o :: st) M bu Q :=
  mx_kV (as := [a1, a2]) hd hw ho hfit h8 rfl k
theorem mx_cV3 {md' : mv_D} {a1 a2 a3 : mv_V} {o ci ix : Nat} {fs : Nat → mv_V} (hd : decode md.2.1 pc = .ok (.invokevirtual ix, 3)) (hw : mv_kV md.1.cls ix ci 3 md') (ho : M.2 o = .inr (ci, fs)) (hfit : mv_fit md md') (h8 : st.length ≤ 8) (k : mv_J md' [.inr o, a1, a2, a3] M (fun r M' => mv_W md (pc + 3) lo (r ++ st) M' bu Q)) : mv_W md pc lo (a3 :: a2 :: a1 :: .inr o :: st) M bu Q :=
  mx_kV (as := [a1, a2, a3]) hd hw ho hfit h8 rfl k
theorem mx_cV4 {md' : mv_D} {a1 a2 a3 a4 : mv_V} {o ci ix : Nat} {fs : Nat → mv_V} (hd : decode md.2.1 pc = .ok (.invokevirtual ix, 3)) (hw : mv_kV md.1.cls ix ci 4 md') (ho : M.2 o = .inr (ci, fs)) (hfit : mv_fit md md') (h8 : st.length ≤ 8) (k : mv_J md' [.inr o, a1, a2, a3, a4] M (fun r M' => mv_W md (pc + 3) lo (r ++ st) M' bu Q)) : mv_W md pc lo (a4 :: a3 :: a2 :: a1 :: .inr o :: st) M bu Q :=
  mx_kV (as := [a1, a2, a3, a4]) hd hw ho hfit h8 rfl k
theorem mx_cV5 {md' : mv_D} {a1 a2 a3 a4 a5 : mv_V} {o ci ix : Nat} {fs : Nat → mv_V} (hd : decode md.2.1 pc = .ok (.invokevirtual ix, 3)) (hw : mv_kV md.1.cls ix ci 5 md') (ho : M.2 o = .inr (ci, fs)) (hfit : mv_fit md md') (h8 : st.length ≤ 8) (k : mv_J md' [.inr o, a1, a2, a3, a4, a5] M (fun r M' => mv_W md (pc + 3) lo (r ++ st) M' bu Q)) : mv_W md pc lo (a5 :: a4 :: a3 :: a2 :: a1 :: .inr o :: st) M bu Q :=
  mx_kV (as := [a1, a2, a3, a4, a5]) hd hw ho hfit h8 rfl k
theorem mx_cS0 {md' : mv_D} {ix : Nat} (hd : decode md.2.1 pc = .ok (.invokestatic ix, 3)) (hw : mv_kS md.1.cls ix 0 md') (hfit : mv_fit md md') (h8 : st.length ≤ 8) (k : mv_J md' [] M (fun r M' => mv_W md (pc + 3) lo (r ++ st) M' bu Q)) : mv_W md pc lo (st) M bu Q :=
  mx_kS (as := []) hd hw hfit h8 rfl k
theorem mx_cS1 {md' : mv_D} {a1 : mv_V} {ix : Nat} (hd : decode md.2.1 pc = .ok (.invokestatic ix, 3)) (hw : mv_kS md.1.cls ix 1 md') (hfit : mv_fit md md') (h8 : st.length ≤ 8) (k : mv_J md' [a1] M (fun r M' => mv_W md (pc + 3) lo (r ++ st) M' bu Q)) : mv_W md pc lo (a1 :: st) M bu Q :=
  mx_kS (as := [a1]) hd hw hfit h8 rfl k
theorem mx_cS2 {md' : mv_D} {a1 a2 : mv_V} {ix : Nat} (hd : decode md.2.1 pc = .ok (.invokestatic ix, 3)) (hw : mv_kS md.1.cls ix 2 md') (hfit : mv_fit md md') (h8 : st.length ≤ 8) (k : mv_J md' [a1, a2] M (fun r M' => mv_W md (pc + 3) lo (r ++ st) M' bu Q)) : mv_W md pc lo (a2 :: a1 :: st) M bu Q :=
  mx_kS (as := [a1, a2]) hd hw hfit h8 rfl k
theorem mx_cS3 {md' : mv_D} {a1 a2 a3 : mv_V} {ix : Nat} (hd : decode md.2.1 pc = .ok (.invokestatic ix, 3)) (hw : mv_kS md.1.cls ix 3 md') (hfit : mv_fit md md') (h8 : st.length ≤ 8) (k : mv_J md' [a1, a2, a3] M (fun r M' => mv_W md (pc + 3) lo (r ++ st) M' bu Q)) : mv_W md pc lo (a3 :: a2 :: a1 :: st) M bu Q :=
  mx_kS (as := [a1, a2, a3]) hd hw hfit h8 rfl k
theorem mx_cS4 {md' : mv_D} {a1 a2 a3 a4 : mv_V} {ix : Nat} (hd : decode md.2.1 pc = .ok (.invokestatic ix, 3)) (hw : mv_kS md.1.cls ix 4 md') (hfit : mv_fit md md') (h8 : st.length ≤ 8) (k : mv_J md' [a1, a2, a3, a4] M (fun r M' => mv_W md (pc + 3) lo (r ++ st) M' bu Q)) : mv_W md pc lo (a4 :: a3 :: a2 :: a1 :: st) M bu Q :=
  mx_kS (as := [a1, a2, a3, a4]) hd hw hfit h8 rfl k
theorem mx_cS5 {md' : mv_D} {a1 a2 a3 a4 a5 : mv_V} {ix : Nat} (hd : decode md.2.1 pc = .ok (.invokestatic ix, 3)) (hw : mv_kS md.1.cls ix 5 md') (hfit : mv_fit md md') (h8 : st.length ≤ 8) (k : mv_J md' [a1, a2, a3, a4, a5] M (fun r M' => mv_W md (pc + 3) lo (r ++ st) M' bu Q)) : mv_W md pc lo (a5 :: a4 :: a3 :: a2 :: a1 :: st) M bu Q :=
  mx_kS (as := [a1, a2, a3, a4, a5]) hd hw hfit h8 rfl k
end MZ
