/-! what is looked at, and what is decided: shared with the class -/
def olab (has : Nat → Bool) (lab : Nat → Nat) (S : Nat) : Option Nat := if has S = true then some (lab S) else none
theorem olab_t {has : Nat → Bool} {lab : Nat → Nat} {S : Nat} (h : has S = true) : olab has lab S = some (lab S) := if_pos h
theorem olab_f {has : Nat → Bool} {lab : Nat → Nat} {S : Nat} (h : has S = false) : olab has lab S = none := if_neg (by rw [h]; decide)
def listD (was on : Bool) (lc : Nat) : Nat := if was = true then (if on = true then 0 else 1) else (if on = true then (if lc = 32 then 3 else 2) else 0)
def folOk (fo : Option Nat) (L : Nat) : Bool := match fo with
  | none => true
  | some x => mayN (x / 16) L
def makeD (lbl : Option Nat) (L : Nat) (fo : Option Nat) (there full : Bool) (nf : Nat) : Nat := match lbl with
  | none => 0
  | some o => if (mayN o L && folOk fo L) = false then 1 else if o = L then (if there = true then 2 else if full = true then 3 else if nf = 200 then 4 else 5) else (if full = true then 3 else if there = true then 7 else if nf = 200 then 4 else 6)
def setD (lbl : Option Nat) (fnd : Option Nat) (i : Nat) (full : Bool) : Nat := match lbl with
  | none => 0
  | some _ => match fnd with
    | none => 1
    | some z => if z < i then 1 else if i < z then 2 else if full = true then 3 else 4
def giveD (lbl : Option Nat) (L : Nat) (fnd : Option Nat) (full : Bool) : Nat := match lbl with
  | none => 0
  | some o => if L = o then 1 else if mayN o L = false then 1 else if full = true then 2 else match fnd with
    | none => 3
    | some z => if z < 24 then 4 else 3
def trimD (lbl : Option Nat) (fnd : Option Nat) (i : Nat) : Nat := match lbl with
  | none => 0
  | some _ => match fnd with
    | none => 1
    | some z => if i < z then 2 else 1
def remD (lbl : Option Nat) (fnd : Option Nat) : Nat := match lbl with
  | none => 0
  | some _ => match fnd with
    | none => 1
    | some _ => 2
def lookD (lbl : Option Nat) (L : Nat) : Nat := match lbl with
  | none => 0
  | some o => if mayN L o = true then 2 else 1
def relD (lbl : Option Nat) (was : Bool) (fnd : Option Nat) (fits told : Bool) (nf : Nat) : Nat := match lbl with
  | none => 0
  | some _ => if was = false then 1 else match fnd with
    | none => 2
    | some _ => if fits = false then 3 else if told = true then 6 else if nf = 200 then 4 else 5
theorem lookV_eq {has : Nat → Bool} {lab : Nat → Nat} {S L : Nat} : lookV has lab S L = (match lookD (olab has lab S) L with
  | 0 => -1
  | 1 => -2
  | _ => nI 0) := by
  unfold lookV olab lookD
  cases has S <;> simp
  cases mayN L (lab S) <;> simp
theorem va_up_same {α : Type} {f : Nat → α} {k : Nat} {v : α} (h : f k = v) : va_up f k v = f := by
  funext i
  unfold va_up
  split
  · next e => rw [e, h]
  · rfl
def delL (lis : Nat → Nat) (k m : Nat) : Nat → Nat := va_up (va_up (va_up lis (3 * k + 0) (lis (3 * m + 0))) (3 * k + 1) ((va_up lis (3 * k + 0) (lis (3 * m + 0))) (3 * m + 1))) (3 * k + 2) ((va_up (va_up lis (3 * k + 0) (lis (3 * m + 0))) (3 * k + 1) ((va_up lis (3 * k + 0) (lis (3 * m + 0))) (3 * m + 1))) (3 * m + 2))
abbrev rmX2_subject : Room := { frames := 2, cells := 0, slots := 0, locals := 41 }
theorem ydX2_subject : yX2_subject.cls ≠ "java/lang/invoke/MethodHandle" ∧ yX2_subject.cls ≠ "java/lang/invoke/VarHandle" ∧ (parseMethodDescriptor yX2_subject.desc).map (fun d => d.parameters.length) = some 2 := by decide +kernel
theorem iwX2_subject_X2 : ∀ w ∈ u_ws RX2 TX2 16, w ∈ wsX2_subject := fun _ h => (List.mem_cons_of_mem _ (List.mem_append_right _ h))
set_option maxRecDepth 100000 in
set_option maxHeartbeats 4000000 in
theorem k_X2_subject (l : Launch) (D : va_G) (cy : Nat → ClassId) (zs : Nat → Nat) (a : Nat → Nat) (lab : Nat → Nat) (has : Nat → Bool) (quo : Nat → Nat) (spe : Nat → Nat) (nam : Nat → Nat) (gif : Nat → Bool) (fol : Nat → Int32) (siz : Nat → Nat) (cel : Nat → Int32) (giv : Nat → Bool) (nf : Nat) (lis : Nat → Nat) (lc : Nat) (see : Nat → Int32) (cnt : Nat → Nat) (thr : Nat) (hI : MI lab quo spe nam siz cnt lis nf lc) (p0 : Int32) (p1 : Int32)  : Mi l D cy zs yX2_subject wsX2_subject rmX2_subject [.ref (a 0), .int p0, .int p1] (wM cy a lab has quo spe nam gif fol siz cel giv nf lis lc see cnt thr) ((fun (r : Int32) (w : va_W) => ((!inB p0 16 || !inB p1 1024) = true ∧ r = nI 0 ∧ w = wM cy a lab has quo spe nam gif fol siz cel giv nf lis lc see cnt 1) ∨ ∃ S L, p0 = nI S ∧ S < 16 ∧ p1 = nI L ∧ L < 1024 ∧ ((has S = true ∧ r = nI 0 ∧ w = wM cy a lab has quo spe nam gif fol siz cel giv nf lis lc see cnt 0) ∨ (has S = false ∧ r = nI 1 ∧ w = wM cy a (va_up lab S L) (va_up has S true) quo spe nam gif fol siz cel giv nf lis lc see cnt 0)))) := by
  refine Mi.of (lv := [(0, .ref (a 0)), (1, .int p0), (2, .int p1)]) RX2 ⟨by decide, rfl⟩ rfl (Nat.le_of_ble_eq_true rfl) rfl ?_
  intro p e s m args below meth c A C hnm
  obtain ⟨hnf, hlc, hlab, hquo, hspe, hnam, hsiz, hcnt, hlis⟩ := id hI
  refine g_aload_n C dX2_subject_0 rfl 0 rfl ?_
  refine g_join (fun v20 : Bool => v20 = (!inB p0 16 || !inB p1 1024)) 20 (wM cy a lab has quo spe nam gif fol siz cel giv nf lis lc see cnt thr) [(0, .ref (a 0)), (1, .int p0), (2, .int p1)] (fun v20 => [.int (bI v20), .ref (a 0)]) (fun v20 h20 => ?_) (fun J20 => ?_)
  · skip
    refine g_iconst (v := nI 1) C dX2_subject_20 (by decide +kernel) ?_
    refine g_Vi (ci := 3) (st := []) C (k_X2_fails l D cy zs a lab has quo spe nam gif fol siz cel giv nf lis lc see cnt thr ⟨hnf, hlc, hlab, hquo, hspe, hnam, hsiz, hcnt, hlis⟩ v20 1) gX2_subject_X2_fails rfl ⟨rfl, ydX2_fails⟩ 0 rfl rfl ⟨Nat.le_of_ble_eq_true rfl, Nat.le_of_ble_eq_true rfl⟩ ⟨Nat.le_of_ble_eq_true rfl, Nat.le_of_ble_eq_true rfl⟩ rfl (Nat.le_of_ble_eq_true rfl) dX2_subject_21 (fun r21 w21 h21 => ?_)
    obtain ⟨h21a, h21b⟩ := h21
    subst h21a
    subst h21b
    refine g_if_ne (tgt := 36) C dX2_subject_24 (by decide) (fun c24 => ?_) (fun c24 => ?_)
    · skip
      have c24 := cb_eq1 c24
      subst c24
      refine g_iconst (v := nI 0) C dX2_subject_36 (by decide +kernel) ?_
      exact g_zret C rfl (Or.inl rfl) (Or.inl ⟨h20.symm, rfl, rfl⟩) (Nat.le_of_ble_eq_true rfl) (Nat.le_of_ble_eq_true rfl) dX2_subject_37
    · skip
      have c24 := cb_eq0 c24
      subst c24
      obtain ⟨qp0, qp1⟩ : inB p0 16 = true ∧ inB p1 1024 = true := by revert h20; cases inB p0 16 <;> cases inB p1 1024 <;> simp
      obtain ⟨S, hS, eS⟩ := inB_of (Nat.le_of_ble_eq_true rfl) qp0
      subst eS
      obtain ⟨L, hL, eL⟩ := inB_of (Nat.le_of_ble_eq_true rfl) qp1
      subst eL
      refine g_aload_n C dX2_subject_27 rfl 0 rfl ?_
      refine g_get (ci := 3) (v := .ref (a 2)) C iwX2_subject_X2 0 rfl rfl 1 (by decide) (C.hw (List.mem_cons_of_mem _ (List.mem_append_left _ (List.mem_of_getElem? (i := 0) rfl)))) (fun _ h9 => h9) rfl dX2_subject_28 ?_
      refine g_iload_n C dX2_subject_31 rfl 1 rfl ?_
      refine g_zaldB (nn := 16) (j := S) (f := has) C 2 rfl (by omega) n31_16 dX2_subject_32 ?_
      refine g_if_eq (tgt := 38) C dX2_subject_33 (by decide) (fun c33 => ?_) (fun c33 => ?_)
      · skip
        have c33 := cb_eq0 c33
        refine g_aload_n C dX2_subject_38 rfl 0 rfl ?_
        refine g_get (ci := 3) (v := .ref (a 2)) C iwX2_subject_X2 0 rfl rfl 1 (by decide) (C.hw (List.mem_cons_of_mem _ (List.mem_append_left _ (List.mem_of_getElem? (i := 0) rfl)))) (fun _ h9 => h9) rfl dX2_subject_39 ?_
        refine g_iload_n C dX2_subject_42 rfl 1 rfl ?_
        refine g_iconst (v := nI 1) C dX2_subject_43 (by decide +kernel) ?_
        refine g_zastB (nn := 16) (j := S) (v := true) (f := has) (ws' := wM cy a lab (va_up has S true) quo spe nam gif fol siz cel giv nf lis lc see cnt 0) C 2 rfl (by omega) n31_16 rfl dX2_subject_44 ?_
        refine g_aload_n C dX2_subject_45 rfl 0 rfl ?_
        refine g_get (ci := 3) (v := .ref (a 1)) C iwX2_subject_X2 0 rfl rfl 0 (by decide) (C.hw (List.mem_cons_of_mem _ (List.mem_append_left _ (List.mem_of_getElem? (i := 1) rfl)))) (fun _ h9 => h9) rfl dX2_subject_46 ?_
        refine g_iload_n C dX2_subject_49 rfl 1 rfl ?_
        refine g_iload_n C dX2_subject_50 rfl 2 rfl ?_
        refine g_iastN (nn := 16) (j := S) (v := L) (f := lab) (ws' := wM cy a (va_up lab S L) (va_up has S true) quo spe nam gif fol siz cel giv nf lis lc see cnt 0) C 1 rfl (by omega) n31_16 rfl dX2_subject_51 ?_
        have hlab51 : ∀ i9, (va_up lab S L) i9 < 1024 := va_up_lt hlab (by omega)
        refine g_iconst (v := nI 1) C dX2_subject_52 (by decide +kernel) ?_
        exact g_zret C rfl (Or.inr rfl) (Or.inr ⟨S, L, rfl, hS, rfl, hL, Or.inr (⟨c33, rfl, rfl⟩)⟩) (Nat.le_of_ble_eq_true rfl) (Nat.le_of_ble_eq_true rfl) dX2_subject_53
      · skip
        have c33 := cb_eq1 c33
        refine g_iconst (v := nI 0) C dX2_subject_36 (by decide +kernel) ?_
        exact g_zret C rfl (Or.inl rfl) (Or.inr ⟨S, L, rfl, hS, rfl, hL, Or.inl (⟨c33, rfl, rfl⟩)⟩) (Nat.le_of_ble_eq_true rfl) (Nat.le_of_ble_eq_true rfl) dX2_subject_37
  · skip
    refine g_iload_n C dX2_subject_1 rfl 1 rfl ?_
    refine g_Si (st := [.ref (a 0)]) C (k_X2_isSubject l D cy zs (wM cy a lab has quo spe nam gif fol siz cel giv nf lis lc see cnt thr) p0) gX2_subject_X2_isSubject rfl ydX2_isSubject ⟨Nat.le_of_ble_eq_true rfl, Nat.le_of_ble_eq_true rfl⟩ ⟨Nat.le_of_ble_eq_true rfl, Nat.le_of_ble_eq_true rfl⟩ rfl (Nat.le_of_ble_eq_true rfl) dX2_subject_2 (fun r2 w2 h2 => ?_)
    obtain ⟨h2a, h2b⟩ := h2
    subst h2a
    subst h2b
    refine g_if_eq (tgt := 15) C dX2_subject_5 (by decide) (fun c5 => ?_) (fun c5 => ?_)
    · skip
      have c5 := cb_eq0 c5
      refine g_iconst (v := nI 1) C dX2_subject_15 (by decide +kernel) ?_
      refine g_goto (tgt := 20) C dX2_subject_16 (by decide) ?_
      exact g_sub (lv' := [(0, .ref (a 0)), (1, .int p0), (2, .int p1)]) [0, 1, 2] rfl (J20 true (by simp [c5]))
    · skip
      have c5 := cb_eq1 c5
      refine g_iload_n C dX2_subject_8 rfl 2 rfl ?_
      refine g_Si (st := [.ref (a 0)]) C (k_X2_isLabel l D cy zs (wM cy a lab has quo spe nam gif fol siz cel giv nf lis lc see cnt thr) p1) gX2_subject_X2_isLabel rfl ydX2_isLabel ⟨Nat.le_of_ble_eq_true rfl, Nat.le_of_ble_eq_true rfl⟩ ⟨Nat.le_of_ble_eq_true rfl, Nat.le_of_ble_eq_true rfl⟩ rfl (Nat.le_of_ble_eq_true rfl) dX2_subject_9 (fun r9 w9 h9 => ?_)
      obtain ⟨h9a, h9b⟩ := h9
      subst h9a
      subst h9b
      refine g_if_ne (tgt := 19) C dX2_subject_12 (by decide) (fun c12 => ?_) (fun c12 => ?_)
      · skip
        have c12 := cb_eq1 c12
        refine g_iconst (v := nI 0) C dX2_subject_19 (by decide +kernel) ?_
        exact g_sub (lv' := [(0, .ref (a 0)), (1, .int p0), (2, .int p1)]) [0, 1, 2] rfl (J20 false (by simp [c5, c12]))
      · skip
        have c12 := cb_eq0 c12
        refine g_iconst (v := nI 1) C dX2_subject_15 (by decide +kernel) ?_
        refine g_goto (tgt := 20) C dX2_subject_16 (by decide) ?_
        exact g_sub (lv' := [(0, .ref (a 0)), (1, .int p0), (2, .int p1)]) [0, 1, 2] rfl (J20 true (by simp [c5, c12]))
abbrev rmX2_quota : Room := { frames := 2, cells := 0, slots := 0, locals := 41 }
theorem ydX2_quota : yX2_quota.cls ≠ "java/lang/invoke/MethodHandle" ∧ yX2_quota.cls ≠ "java/lang/invoke/VarHandle" ∧ (parseMethodDescriptor yX2_quota.desc).map (fun d => d.parameters.length) = some 2 := by decide +kernel
theorem iwX2_quota_X2 : ∀ w ∈ u_ws RX2 TX2 16, w ∈ wsX2_quota := fun _ h => (List.mem_cons_of_mem _ (List.mem_append_right _ h))
set_option maxRecDepth 100000 in
set_option maxHeartbeats 4000000 in
theorem k_X2_quota (l : Launch) (D : va_G) (cy : Nat → ClassId) (zs : Nat → Nat) (a : Nat → Nat) (lab : Nat → Nat) (has : Nat → Bool) (quo : Nat → Nat) (spe : Nat → Nat) (nam : Nat → Nat) (gif : Nat → Bool) (fol : Nat → Int32) (siz : Nat → Nat) (cel : Nat → Int32) (giv : Nat → Bool) (nf : Nat) (lis : Nat → Nat) (lc : Nat) (see : Nat → Int32) (cnt : Nat → Nat) (thr : Nat) (hI : MI lab quo spe nam siz cnt lis nf lc) (p0 : Int32) (p1 : Int32)  : Mi l D cy zs yX2_quota wsX2_quota rmX2_quota [.ref (a 0), .int p0, .int p1] (wM cy a lab has quo spe nam gif fol siz cel giv nf lis lc see cnt thr) ((fun (r : Int32) (w : va_W) => ((!inB p0 1024 || !inB p1 1001) = true ∧ r = nI 0 ∧ w = wM cy a lab has quo spe nam gif fol siz cel giv nf lis lc see cnt 1) ∨ ∃ L N, p0 = nI L ∧ L < 1024 ∧ p1 = nI N ∧ N < 1001 ∧ ((r = nI (quo L) ∧ w = wM cy a lab has (va_up quo L N) spe nam gif fol siz cel giv nf lis lc see cnt 0)))) := by
  refine Mi.of (lv := [(0, .ref (a 0)), (1, .int p0), (2, .int p1)]) RX2 ⟨by decide, rfl⟩ rfl (Nat.le_of_ble_eq_true rfl) rfl ?_
  intro p e s m args below meth c A C hnm
  obtain ⟨hnf, hlc, hlab, hquo, hspe, hnam, hsiz, hcnt, hlis⟩ := id hI
  refine g_aload_n C dX2_quota_0 rfl 0 rfl ?_
  refine g_join (fun v23 : Bool => v23 = (!inB p0 1024 || !inB p1 1001)) 23 (wM cy a lab has quo spe nam gif fol siz cel giv nf lis lc see cnt thr) [(0, .ref (a 0)), (1, .int p0), (2, .int p1)] (fun v23 => [.int (bI v23), .ref (a 0)]) (fun v23 h23 => ?_) (fun J23 => ?_)
  · skip
    refine g_iconst (v := nI 1) C dX2_quota_23 (by decide +kernel) ?_
    refine g_Vi (ci := 3) (st := []) C (k_X2_fails l D cy zs a lab has quo spe nam gif fol siz cel giv nf lis lc see cnt thr ⟨hnf, hlc, hlab, hquo, hspe, hnam, hsiz, hcnt, hlis⟩ v23 1) gX2_quota_X2_fails rfl ⟨rfl, ydX2_fails⟩ 0 rfl rfl ⟨Nat.le_of_ble_eq_true rfl, Nat.le_of_ble_eq_true rfl⟩ ⟨Nat.le_of_ble_eq_true rfl, Nat.le_of_ble_eq_true rfl⟩ rfl (Nat.le_of_ble_eq_true rfl) dX2_quota_24 (fun r24 w24 h24 => ?_)
    obtain ⟨h24a, h24b⟩ := h24
    subst h24a
    subst h24b
    refine g_if_eq (tgt := 32) C dX2_quota_27 (by decide) (fun c27 => ?_) (fun c27 => ?_)
    · skip
      have c27 := cb_eq0 c27
      subst c27
      obtain ⟨qp0, qp1⟩ : inB p0 1024 = true ∧ inB p1 1001 = true := by revert h23; cases inB p0 1024 <;> cases inB p1 1001 <;> simp
      obtain ⟨L, hL, eL⟩ := inB_of (Nat.le_of_ble_eq_true rfl) qp0
      subst eL
      obtain ⟨N, hN, eN⟩ := inB_of (Nat.le_of_ble_eq_true rfl) qp1
      subst eN
      refine g_aload_n C dX2_quota_32 rfl 0 rfl ?_
      refine g_get (ci := 3) (v := .ref (a 3)) C iwX2_quota_X2 0 rfl rfl 2 (by decide) (C.hw (List.mem_cons_of_mem _ (List.mem_append_left _ (List.mem_of_getElem? (i := 0) rfl)))) (fun _ h9 => h9) rfl dX2_quota_33 ?_
      refine g_iload_n C dX2_quota_36 rfl 1 rfl ?_
      refine g_ialdN (nn := 1024) (j := L) (f := quo) C 3 rfl (by omega) n31_1024 dX2_quota_37 ?_
      have b37 := hquo L
      refine g_istore_n (lv' := [(3, .int (nI (quo L))), (0, .ref (a 0)), (1, .int (nI L)), (2, .int (nI N))]) C dX2_quota_38 rfl (by decide) rfl ?_
      refine g_aload_n C dX2_quota_39 rfl 1 rfl ?_
      refine g_get (ci := 3) (v := .ref (a 3)) C iwX2_quota_X2 0 rfl rfl 2 (by decide) (C.hw (List.mem_cons_of_mem _ (List.mem_append_left _ (List.mem_of_getElem? (i := 0) rfl)))) (fun _ h9 => h9) rfl dX2_quota_40 ?_
      refine g_iload_n C dX2_quota_43 rfl 2 rfl ?_
      refine g_iload_n C dX2_quota_44 rfl 3 rfl ?_
      refine g_iastN (nn := 1024) (j := L) (v := N) (f := quo) (ws' := wM cy a lab has (va_up quo L N) spe nam gif fol siz cel giv nf lis lc see cnt 0) C 3 rfl (by omega) n31_1024 rfl dX2_quota_45 ?_
      have hquo45 : ∀ i9, (va_up quo L N) i9 ≤ 1000 := va_up_le hquo (by omega)
      refine g_iload_n C dX2_quota_46 rfl 0 rfl ?_
      exact g_iret C rfl (Or.inr ⟨L, N, rfl, hL, rfl, hN, ⟨rfl, rfl⟩⟩) (Nat.le_of_ble_eq_true rfl) (Nat.le_of_ble_eq_true rfl) dX2_quota_47
    · skip
      have c27 := cb_eq1 c27
      subst c27
      refine g_iconst (v := nI 0) C dX2_quota_30 (by decide +kernel) ?_
      exact g_iret C rfl (Or.inl ⟨h23.symm, rfl, rfl⟩) (Nat.le_of_ble_eq_true rfl) (Nat.le_of_ble_eq_true rfl) dX2_quota_31
  · skip
    refine g_iload_n C dX2_quota_1 rfl 1 rfl ?_
    refine g_Si (st := [.ref (a 0)]) C (k_X2_isLabel l D cy zs (wM cy a lab has quo spe nam gif fol siz cel giv nf lis lc see cnt thr) p0) gX2_quota_X2_isLabel rfl ydX2_isLabel ⟨Nat.le_of_ble_eq_true rfl, Nat.le_of_ble_eq_true rfl⟩ ⟨Nat.le_of_ble_eq_true rfl, Nat.le_of_ble_eq_true rfl⟩ rfl (Nat.le_of_ble_eq_true rfl) dX2_quota_2 (fun r2 w2 h2 => ?_)
    obtain ⟨h2a, h2b⟩ := h2
    subst h2a
    subst h2b
    refine g_if_eq (tgt := 18) C dX2_quota_5 (by decide) (fun c5 => ?_) (fun c5 => ?_)
    · skip
      have c5 := cb_eq0 c5
      refine g_iconst (v := nI 1) C dX2_quota_18 (by decide +kernel) ?_
      refine g_goto (tgt := 23) C dX2_quota_19 (by decide) ?_
      exact g_sub (lv' := [(0, .ref (a 0)), (1, .int p0), (2, .int p1)]) [0, 1, 2] rfl (J23 true (by simp [c5]))
    · skip
      have c5 := cb_eq1 c5
      refine g_iload_n C dX2_quota_8 rfl 2 rfl ?_
      refine g_sipush (v := nI 1001) C dX2_quota_9 (by decide +kernel) ?_
      refine g_Si (st := [.ref (a 0)]) C (k_X2_within l D cy zs (wM cy a lab has quo spe nam gif fol siz cel giv nf lis lc see cnt thr) p1 1001) gX2_quota_X2_within rfl ydX2_within ⟨Nat.le_of_ble_eq_true rfl, Nat.le_of_ble_eq_true rfl⟩ ⟨Nat.le_of_ble_eq_true rfl, Nat.le_of_ble_eq_true rfl⟩ rfl (Nat.le_of_ble_eq_true rfl) dX2_quota_12 (fun r12 w12 h12 => ?_)
      obtain ⟨h12a, h12b⟩ := h12
      subst h12a
      subst h12b
      refine g_if_ne (tgt := 22) C dX2_quota_15 (by decide) (fun c15 => ?_) (fun c15 => ?_)
      · skip
        have c15 := cb_eq1 c15
        refine g_iconst (v := nI 0) C dX2_quota_22 (by decide +kernel) ?_
        exact g_sub (lv' := [(0, .ref (a 0)), (1, .int p0), (2, .int p1)]) [0, 1, 2] rfl (J23 false (by simp [c5, c15]))
      · skip
        have c15 := cb_eq0 c15
        refine g_iconst (v := nI 1) C dX2_quota_18 (by decide +kernel) ?_
        refine g_goto (tgt := 23) C dX2_quota_19 (by decide) ?_
        exact g_sub (lv' := [(0, .ref (a 0)), (1, .int p0), (2, .int p1)]) [0, 1, 2] rfl (J23 true (by simp [c5, c15]))
abbrev rmX2_flows : Room := { frames := 2, cells := 0, slots := 0, locals := 41 }
theorem ydX2_flows : yX2_flows.cls ≠ "java/lang/invoke/MethodHandle" ∧ yX2_flows.cls ≠ "java/lang/invoke/VarHandle" ∧ (parseMethodDescriptor yX2_flows.desc).map (fun d => d.parameters.length) = some 2 := by decide +kernel
theorem iwX2_flows_X2 : ∀ w ∈ u_ws RX2 TX2 16, w ∈ wsX2_flows := fun _ h => (List.mem_cons_of_mem _ (List.mem_append_right _ h))
set_option maxRecDepth 100000 in
set_option maxHeartbeats 4000000 in
theorem k_X2_flows (l : Launch) (D : va_G) (cy : Nat → ClassId) (zs : Nat → Nat) (a : Nat → Nat) (lab : Nat → Nat) (has : Nat → Bool) (quo : Nat → Nat) (spe : Nat → Nat) (nam : Nat → Nat) (gif : Nat → Bool) (fol : Nat → Int32) (siz : Nat → Nat) (cel : Nat → Int32) (giv : Nat → Bool) (nf : Nat) (lis : Nat → Nat) (lc : Nat) (see : Nat → Int32) (cnt : Nat → Nat) (thr : Nat) (hI : MI lab quo spe nam siz cnt lis nf lc) (p0 : Int32) (p1 : Int32)  : Mi l D cy zs yX2_flows wsX2_flows rmX2_flows [.ref (a 0), .int p0, .int p1] (wM cy a lab has quo spe nam gif fol siz cel giv nf lis lc see cnt thr) ((fun (r : Int32) (w : va_W) => ((!inB p0 1024 || !inB p1 1024) = true ∧ r = nI 0 ∧ w = wM cy a lab has quo spe nam gif fol siz cel giv nf lis lc see cnt 1) ∨ ∃ L N, p0 = nI L ∧ L < 1024 ∧ p1 = nI N ∧ N < 1024 ∧ ((r = bI (mayN L N) ∧ w = wM cy a lab has quo spe nam gif fol siz cel giv nf lis lc see cnt 0)))) := by
  refine Mi.of (lv := [(0, .ref (a 0)), (1, .int p0), (2, .int p1)]) RX2 ⟨by decide, rfl⟩ rfl (Nat.le_of_ble_eq_true rfl) rfl ?_
  intro p e s m args below meth c A C hnm
  obtain ⟨hnf, hlc, hlab, hquo, hspe, hnam, hsiz, hcnt, hlis⟩ := id hI
  refine g_aload_n C dX2_flows_0 rfl 0 rfl ?_
  refine g_join (fun v20 : Bool => v20 = (!inB p0 1024 || !inB p1 1024)) 20 (wM cy a lab has quo spe nam gif fol siz cel giv nf lis lc see cnt thr) [(0, .ref (a 0)), (1, .int p0), (2, .int p1)] (fun v20 => [.int (bI v20), .ref (a 0)]) (fun v20 h20 => ?_) (fun J20 => ?_)
  · skip
    refine g_iconst (v := nI 1) C dX2_flows_20 (by decide +kernel) ?_
    refine g_Vi (ci := 3) (st := []) C (k_X2_fails l D cy zs a lab has quo spe nam gif fol siz cel giv nf lis lc see cnt thr ⟨hnf, hlc, hlab, hquo, hspe, hnam, hsiz, hcnt, hlis⟩ v20 1) gX2_flows_X2_fails rfl ⟨rfl, ydX2_fails⟩ 0 rfl rfl ⟨Nat.le_of_ble_eq_true rfl, Nat.le_of_ble_eq_true rfl⟩ ⟨Nat.le_of_ble_eq_true rfl, Nat.le_of_ble_eq_true rfl⟩ rfl (Nat.le_of_ble_eq_true rfl) dX2_flows_21 (fun r21 w21 h21 => ?_)
    obtain ⟨h21a, h21b⟩ := h21
    subst h21a
    subst h21b
    refine g_if_eq (tgt := 29) C dX2_flows_24 (by decide) (fun c24 => ?_) (fun c24 => ?_)
    · skip
      have c24 := cb_eq0 c24
      subst c24
      obtain ⟨qp0, qp1⟩ : inB p0 1024 = true ∧ inB p1 1024 = true := by revert h20; cases inB p0 1024 <;> cases inB p1 1024 <;> simp
      obtain ⟨L, hL, eL⟩ := inB_of (Nat.le_of_ble_eq_true rfl) qp0
      subst eL
      obtain ⟨N, hN, eN⟩ := inB_of (Nat.le_of_ble_eq_true rfl) qp1
      subst eN
      refine g_iload_n C dX2_flows_29 rfl 1 rfl ?_
      refine g_iload_n C dX2_flows_30 rfl 2 rfl ?_
      refine g_Si (st := []) C (k_X2_may l D cy zs (wM cy a lab has quo spe nam gif fol siz cel giv nf lis lc see cnt 0) L N (by omega) (by omega)) gX2_flows_X2_may rfl ydX2_may ⟨Nat.le_of_ble_eq_true rfl, Nat.le_of_ble_eq_true rfl⟩ ⟨Nat.le_of_ble_eq_true rfl, Nat.le_of_ble_eq_true rfl⟩ rfl (Nat.le_of_ble_eq_true rfl) dX2_flows_31 (fun r31 w31 h31 => ?_)
      obtain ⟨h31a, h31b⟩ := h31
      subst h31a
      subst h31b
      exact g_zret C rfl (bI_01 (mayN L N)) (Or.inr ⟨L, N, rfl, hL, rfl, hN, ⟨rfl, rfl⟩⟩) (Nat.le_of_ble_eq_true rfl) (Nat.le_of_ble_eq_true rfl) dX2_flows_34
    · skip
      have c24 := cb_eq1 c24
      subst c24
      refine g_iconst (v := nI 0) C dX2_flows_27 (by decide +kernel) ?_
      exact g_zret C rfl (Or.inl rfl) (Or.inl ⟨h20.symm, rfl, rfl⟩) (Nat.le_of_ble_eq_true rfl) (Nat.le_of_ble_eq_true rfl) dX2_flows_28
  · skip
    refine g_iload_n C dX2_flows_1 rfl 1 rfl ?_
    refine g_Si (st := [.ref (a 0)]) C (k_X2_isLabel l D cy zs (wM cy a lab has quo spe nam gif fol siz cel giv nf lis lc see cnt thr) p0) gX2_flows_X2_isLabel rfl ydX2_isLabel ⟨Nat.le_of_ble_eq_true rfl, Nat.le_of_ble_eq_true rfl⟩ ⟨Nat.le_of_ble_eq_true rfl, Nat.le_of_ble_eq_true rfl⟩ rfl (Nat.le_of_ble_eq_true rfl) dX2_flows_2 (fun r2 w2 h2 => ?_)
    obtain ⟨h2a, h2b⟩ := h2
    subst h2a
    subst h2b
    refine g_if_eq (tgt := 15) C dX2_flows_5 (by decide) (fun c5 => ?_) (fun c5 => ?_)
    · skip
      have c5 := cb_eq0 c5
      refine g_iconst (v := nI 1) C dX2_flows_15 (by decide +kernel) ?_
      refine g_goto (tgt := 20) C dX2_flows_16 (by decide) ?_
      exact g_sub (lv' := [(0, .ref (a 0)), (1, .int p0), (2, .int p1)]) [0, 1, 2] rfl (J20 true (by simp [c5]))
    · skip
      have c5 := cb_eq1 c5
      refine g_iload_n C dX2_flows_8 rfl 2 rfl ?_
      refine g_Si (st := [.ref (a 0)]) C (k_X2_isLabel l D cy zs (wM cy a lab has quo spe nam gif fol siz cel giv nf lis lc see cnt thr) p1) gX2_flows_X2_isLabel rfl ydX2_isLabel ⟨Nat.le_of_ble_eq_true rfl, Nat.le_of_ble_eq_true rfl⟩ ⟨Nat.le_of_ble_eq_true rfl, Nat.le_of_ble_eq_true rfl⟩ rfl (Nat.le_of_ble_eq_true rfl) dX2_flows_9 (fun r9 w9 h9 => ?_)
      obtain ⟨h9a, h9b⟩ := h9
      subst h9a
      subst h9b
      refine g_if_ne (tgt := 19) C dX2_flows_12 (by decide) (fun c12 => ?_) (fun c12 => ?_)
      · skip
        have c12 := cb_eq1 c12
        refine g_iconst (v := nI 0) C dX2_flows_19 (by decide +kernel) ?_
        exact g_sub (lv' := [(0, .ref (a 0)), (1, .int p0), (2, .int p1)]) [0, 1, 2] rfl (J20 false (by simp [c5, c12]))
      · skip
        have c12 := cb_eq0 c12
        refine g_iconst (v := nI 1) C dX2_flows_15 (by decide +kernel) ?_
        refine g_goto (tgt := 20) C dX2_flows_16 (by decide) ?_
        exact g_sub (lv' := [(0, .ref (a 0)), (1, .int p0), (2, .int p1)]) [0, 1, 2] rfl (J20 true (by simp [c5, c12]))
abbrev rmX2_list : Room := { frames := 2, cells := 0, slots := 0, locals := 41 }
theorem ydX2_list : yX2_list.cls ≠ "java/lang/invoke/MethodHandle" ∧ yX2_list.cls ≠ "java/lang/invoke/VarHandle" ∧ (parseMethodDescriptor yX2_list.desc).map (fun d => d.parameters.length) = some 4 := by decide +kernel
theorem iwX2_list_X2 : ∀ w ∈ u_ws RX2 TX2 16, w ∈ wsX2_list := fun _ h => (List.mem_cons_of_mem _ (List.mem_append_right _ h))
set_option maxRecDepth 100000 in
set_option maxHeartbeats 4000000 in
theorem k_X2_list (l : Launch) (D : va_G) (cy : Nat → ClassId) (zs : Nat → Nat) (a : Nat → Nat) (lab : Nat → Nat) (has : Nat → Bool) (quo : Nat → Nat) (spe : Nat → Nat) (nam : Nat → Nat) (gif : Nat → Bool) (fol : Nat → Int32) (siz : Nat → Nat) (cel : Nat → Int32) (giv : Nat → Bool) (nf : Nat) (lis : Nat → Nat) (lc : Nat) (see : Nat → Int32) (cnt : Nat → Nat) (thr : Nat) (hI : MI lab quo spe nam siz cnt lis nf lc) (p0 : Int32) (p1 : Int32) (p2 : Int32) (on : Bool)  : Mi l D cy zs yX2_list wsX2_list rmX2_list [.ref (a 0), .int p0, .int p1, .int p2, .int (bI on)] (wM cy a lab has quo spe nam gif fol siz cel giv nf lis lc see cnt thr) ((fun (r : Int32) (w : va_W) => ((!inB p0 16 || !inB p1 1024 || !inB p2 1024 || decide (p1 = p2)) = true ∧ r = nI 0 ∧ w = wM cy a lab has quo spe nam gif fol siz cel giv nf lis lc see cnt 1) ∨ ∃ S f t, p0 = nI S ∧ S < 16 ∧ p1 = nI f ∧ f < 1024 ∧ p2 = nI t ∧ t < 1024 ∧ ¬ f = t ∧ ((listD (lisN lis lc S f t).isSome on lc = 0 ∧ r = bI (lisN lis lc S f t).isSome ∧ w = wM cy a lab has quo spe nam gif fol siz cel giv nf lis lc see cnt 0) ∨ (∃ k, lisN lis lc S f t = some k ∧ listD (lisN lis lc S f t).isSome on lc = 1 ∧ r = nI 1 ∧ w = wM cy a lab has quo spe nam gif fol siz cel giv nf (delL lis k (lc - 1)) (lc - 1) see cnt 0) ∨ (listD (lisN lis lc S f t).isSome on lc = 2 ∧ r = nI 0 ∧ w = wM cy a lab has quo spe nam gif fol siz cel giv nf (va_up (va_up (va_up lis (3 * lc) S) (3 * lc + 1) f) (3 * lc + 2) t) (lc + 1) see cnt 0) ∨ (listD (lisN lis lc S f t).isSome on lc = 3 ∧ r = nI 0 ∧ w = wM cy a lab has quo spe nam gif fol siz cel giv nf lis lc see cnt 2)))) := by
  refine Mi.of (lv := [(0, .ref (a 0)), (1, .int p0), (2, .int p1), (3, .int p2), (4, .int (bI on))]) RX2 ⟨by decide, rfl⟩ rfl (Nat.le_of_ble_eq_true rfl) rfl ?_
  intro p e s m args below meth c A C hnm
  obtain ⟨hnf, hlc, hlab, hquo, hspe, hnam, hsiz, hcnt, hlis⟩ := id hI
  refine g_aload_n C dX2_list_0 rfl 0 rfl ?_
  refine g_join (fun v32 : Bool => v32 = (!inB p0 16 || !inB p1 1024 || !inB p2 1024 || decide (p1 = p2))) 32 (wM cy a lab has quo spe nam gif fol siz cel giv nf lis lc see cnt thr) [(0, .ref (a 0)), (1, .int p0), (2, .int p1), (3, .int p2), (4, .int (bI on))] (fun v32 => [.int (bI v32), .ref (a 0)]) (fun v32 h32 => ?_) (fun J32 => ?_)
  · skip
    refine g_iconst (v := nI 1) C dX2_list_32 (by decide +kernel) ?_
    refine g_Vi (ci := 3) (st := []) C (k_X2_fails l D cy zs a lab has quo spe nam gif fol siz cel giv nf lis lc see cnt thr ⟨hnf, hlc, hlab, hquo, hspe, hnam, hsiz, hcnt, hlis⟩ v32 1) gX2_list_X2_fails rfl ⟨rfl, ydX2_fails⟩ 0 rfl rfl ⟨Nat.le_of_ble_eq_true rfl, Nat.le_of_ble_eq_true rfl⟩ ⟨Nat.le_of_ble_eq_true rfl, Nat.le_of_ble_eq_true rfl⟩ rfl (Nat.le_of_ble_eq_true rfl) dX2_list_33 (fun r33 w33 h33 => ?_)
    obtain ⟨h33a, h33b⟩ := h33
    subst h33a
    subst h33b
    refine g_if_eq (tgt := 41) C dX2_list_36 (by decide) (fun c36 => ?_) (fun c36 => ?_)
    · skip
      have c36 := cb_eq0 c36
      subst c36
      obtain ⟨qp0, qp1, qp2, qne⟩ : inB p0 16 = true ∧ inB p1 1024 = true ∧ inB p2 1024 = true ∧ decide (p1 = p2) = false := by revert h32; cases inB p0 16 <;> cases inB p1 1024 <;> cases inB p2 1024 <;> simp
      obtain ⟨S, hS, eS⟩ := inB_of (Nat.le_of_ble_eq_true rfl) qp0
      subst eS
      obtain ⟨f, hf, ef⟩ := inB_of (Nat.le_of_ble_eq_true rfl) qp1
      subst ef
      obtain ⟨t, ht, et⟩ := inB_of (Nat.le_of_ble_eq_true rfl) qp2
      subst et
      have hft : ¬ f = t := fun h => absurd (congrArg nI h) (of_decide_eq_false qne)
      refine g_aload_n C dX2_list_41 rfl 0 rfl ?_
      refine g_iload_n C dX2_list_42 rfl 1 rfl ?_
      refine g_iload_n C dX2_list_43 rfl 2 rfl ?_
      refine g_iload_n C dX2_list_44 rfl 3 rfl ?_
      refine g_Vi (ci := 3) (st := []) C (k_X2_listOf l D cy zs a lab has quo spe nam gif fol siz cel giv nf lis lc see cnt 0 ⟨hnf, hlc, hlab, hquo, hspe, hnam, hsiz, hcnt, hlis⟩ S f t (by omega) (by omega) (by omega)) gX2_list_X2_listOf rfl ⟨rfl, ydX2_listOf⟩ 0 rfl rfl ⟨Nat.le_of_ble_eq_true rfl, Nat.le_of_ble_eq_true rfl⟩ ⟨Nat.le_of_ble_eq_true rfl, Nat.le_of_ble_eq_true rfl⟩ rfl (Nat.le_of_ble_eq_true rfl) dX2_list_45 (fun r45 w45 h45 => ?_)
      obtain ⟨h45a, h45b⟩ := h45
      subst h45a
      subst h45b
      rcases e45 : lisN lis lc S f t with _ | k
      · skip
        refine g_istore (lv' := [(5, .int (-1)), (0, .ref (a 0)), (1, .int (nI S)), (2, .int (nI f)), (3, .int (nI t)), (4, .int (bI on))]) C dX2_list_48 (by decide) rfl ?_
        refine g_aload_n C dX2_list_50 rfl 1 rfl ?_
        refine g_iload C dX2_list_51 5 rfl ?_
        refine g_if_eq (tgt := 75) C dX2_list_53 (by decide) (fun c53 => ?_) (fun c53 => ?_)
        · skip
          have c53 := cb_eq0 c53
          refine g_iconst (v := nI 0) C dX2_list_75 (by decide +kernel) ?_
          refine g_iconst (v := nI 2) C dX2_list_76 (by decide +kernel) ?_
          refine g_Vi (ci := 3) (st := []) C (k_X2_fails l D cy zs a lab has quo spe nam gif fol siz cel giv nf lis lc see cnt 0 ⟨hnf, hlc, hlab, hquo, hspe, hnam, hsiz, hcnt, hlis⟩ false 2) gX2_list_X2_fails rfl ⟨rfl, ydX2_fails⟩ 0 rfl rfl ⟨Nat.le_of_ble_eq_true rfl, Nat.le_of_ble_eq_true rfl⟩ ⟨Nat.le_of_ble_eq_true rfl, Nat.le_of_ble_eq_true rfl⟩ rfl (Nat.le_of_ble_eq_true rfl) dX2_list_77 (fun r77 w77 h77 => ?_)
          obtain ⟨h77a, h77b⟩ := h77
          subst h77a
          subst h77b
          refine g_if_eq (tgt := 85) C dX2_list_80 (by decide) (fun c80 => ?_) (fun c80 => ?_)
          · skip
            have c80 := cb_eq0 c80
            refine g_iload C dX2_list_85 5 rfl ?_
            refine g_if_eq (tgt := 146) C dX2_list_87 (by decide) (fun c87 => ?_) (fun c87 => ?_)
            · skip
              have c87 := cb_eq0 c87
              refine g_iload C dX2_list_146 5 rfl ?_
              refine g_if_ne (tgt := 208) C dX2_list_148 (by decide) (fun c148 => ?_) (fun c148 => ?_)
              · skip
                cases c87.symm.trans (cb_eq1 c148)
              · skip
                have c148 := cb_eq0 c148
                refine g_iload C dX2_list_151 0 rfl ?_
                refine g_iconst (v := (-1)) C dX2_list_153 (by decide +kernel) ?_
                refine g_icmp_eq (tgt := 208) C dX2_list_154 (by decide) (fun c154 => ?_) (fun c154 => ?_)
                · skip
                  refine g_iload C dX2_list_208 0 rfl ?_
                  refine g_iconst (v := (-1)) C dX2_list_210 (by decide +kernel) ?_
                  refine g_icmp_eq (tgt := 218) C dX2_list_211 (by decide) (fun c211 => ?_) (fun c211 => ?_)
                  · skip
                    refine g_iconst (v := nI 0) C dX2_list_218 (by decide +kernel) ?_
                    exact g_zret C rfl (Or.inl rfl) (Or.inr ⟨S, f, t, rfl, hS, rfl, hf, rfl, ht, hft, Or.inl (⟨(by simp only [listD, e45, c148, Option.map_none, Option.map_some, Option.isSome_none, Option.isSome_some, Bool.false_eq_true, Bool.true_eq_false, eq_self, if_true, if_false]; repeat (first | rw [if_pos (by first | assumption | omega)] | rw [if_neg (by first | assumption | omega)])), by rw [e45]; rfl, rfl⟩)⟩) (Nat.le_of_ble_eq_true rfl) (Nat.le_of_ble_eq_true rfl) dX2_list_219
                  · skip
                    exact absurd rfl c211
                · skip
                  exact absurd rfl c154
            · skip
              cases c53.symm.trans (cb_eq1 c87)
          · skip
            exact absurd c80 (by decide +kernel)
        · skip
          have c53 := cb_eq1 c53
          refine g_iload C dX2_list_56 0 rfl ?_
          refine g_iconst (v := (-1)) C dX2_list_58 (by decide +kernel) ?_
          refine g_icmp_ne (tgt := 75) C dX2_list_59 (by decide) (fun c59 => ?_) (fun c59 => ?_)
          · skip
            exact absurd rfl c59
          · skip
            refine g_aload_n C dX2_list_62 rfl 1 rfl ?_
            refine g_get (ci := 3) (v := .int (nI lc)) C iwX2_list_X2 0 rfl rfl 12 (by decide) (C.hw (List.mem_cons_of_mem _ (List.mem_append_left _ (List.mem_of_getElem? (i := 0) rfl)))) (fun _ h9 => h9) rfl dX2_list_63 ?_
            refine g_bipush (v := nI 32) C dX2_list_66 (by decide +kernel) ?_
            refine g_icmp_ne (tgt := 75) C dX2_list_68 (by decide) (fun c68 => ?_) (fun c68 => ?_)
            · skip
              have c68 := c_eq1 (by omega) (by omega) c68
              refine g_iconst (v := nI 0) C dX2_list_75 (by decide +kernel) ?_
              refine g_iconst (v := nI 2) C dX2_list_76 (by decide +kernel) ?_
              refine g_Vi (ci := 3) (st := []) C (k_X2_fails l D cy zs a lab has quo spe nam gif fol siz cel giv nf lis lc see cnt 0 ⟨hnf, hlc, hlab, hquo, hspe, hnam, hsiz, hcnt, hlis⟩ false 2) gX2_list_X2_fails rfl ⟨rfl, ydX2_fails⟩ 0 rfl rfl ⟨Nat.le_of_ble_eq_true rfl, Nat.le_of_ble_eq_true rfl⟩ ⟨Nat.le_of_ble_eq_true rfl, Nat.le_of_ble_eq_true rfl⟩ rfl (Nat.le_of_ble_eq_true rfl) dX2_list_77 (fun r77 w77 h77 => ?_)
              obtain ⟨h77a, h77b⟩ := h77
              subst h77a
              subst h77b
              refine g_if_eq (tgt := 85) C dX2_list_80 (by decide) (fun c80 => ?_) (fun c80 => ?_)
              · skip
                have c80 := cb_eq0 c80
                refine g_iload C dX2_list_85 5 rfl ?_
                refine g_if_eq (tgt := 146) C dX2_list_87 (by decide) (fun c87 => ?_) (fun c87 => ?_)
                · skip
                  cases c53.symm.trans (cb_eq0 c87)
                · skip
                  have c87 := cb_eq1 c87
                  refine g_iload C dX2_list_90 0 rfl ?_
                  refine g_iconst (v := (-1)) C dX2_list_92 (by decide +kernel) ?_
                  refine g_icmp_ne (tgt := 146) C dX2_list_93 (by decide) (fun c93 => ?_) (fun c93 => ?_)
                  · skip
                    exact absurd rfl c93
                  · skip
                    refine g_aload_n C dX2_list_96 rfl 1 rfl ?_
                    refine g_get (ci := 3) (v := .ref (a 11)) C iwX2_list_X2 0 rfl rfl 11 (by decide) (C.hw (List.mem_cons_of_mem _ (List.mem_append_left _ (List.mem_of_getElem? (i := 1) rfl)))) (fun _ h9 => h9) rfl dX2_list_97 ?_
                    refine g_iconst (v := nI 3) C dX2_list_100 (by decide +kernel) ?_
                    refine g_aload_n C dX2_list_101 rfl 1 rfl ?_
                    refine g_get (ci := 3) (v := .int (nI lc)) C iwX2_list_X2 0 rfl rfl 12 (by decide) (C.hw (List.mem_cons_of_mem _ (List.mem_append_left _ (List.mem_of_getElem? (i := 0) rfl)))) (fun _ h9 => h9) rfl dX2_list_102 ?_
                    refine g_imul (v := nI (3 * lc)) C dX2_list_105 (pk_mul _ _) ?_
                    refine g_iload_n C dX2_list_106 rfl 2 rfl ?_
                    refine g_iastN (nn := 96) (j := (3 * lc)) (v := S) (f := lis) (ws' := wM cy a lab has quo spe nam gif fol siz cel giv nf (va_up lis (3 * lc) S) lc see cnt 0) C 11 rfl (by omega) n31_96 rfl dX2_list_107 ?_
                    have hlis107 : ∀ i9, (va_up lis (3 * lc) S) i9 < 1024 := va_up_lt hlis (by omega)
                    refine g_aload_n C dX2_list_108 rfl 1 rfl ?_
                    refine g_get (ci := 3) (v := .ref (a 11)) C iwX2_list_X2 0 rfl rfl 11 (by decide) (C.hw (List.mem_cons_of_mem _ (List.mem_append_left _ (List.mem_of_getElem? (i := 1) rfl)))) (fun _ h9 => h9) rfl dX2_list_109 ?_
                    refine g_iconst (v := nI 3) C dX2_list_112 (by decide +kernel) ?_
                    refine g_aload_n C dX2_list_113 rfl 1 rfl ?_
                    refine g_get (ci := 3) (v := .int (nI lc)) C iwX2_list_X2 0 rfl rfl 12 (by decide) (C.hw (List.mem_cons_of_mem _ (List.mem_append_left _ (List.mem_of_getElem? (i := 0) rfl)))) (fun _ h9 => h9) rfl dX2_list_114 ?_
                    refine g_imul (v := nI (3 * lc)) C dX2_list_117 (pk_mul _ _) ?_
                    refine g_iconst (v := nI 1) C dX2_list_118 (by decide +kernel) ?_
                    refine g_iadd (v := nI ((3 * lc) + 1)) C dX2_list_119 (nI_add _ _) ?_
                    refine g_iload_n C dX2_list_120 rfl 3 rfl ?_
                    refine g_iastN (nn := 96) (j := ((3 * lc) + 1)) (v := f) (f := (va_up lis (3 * lc) S)) (ws' := wM cy a lab has quo spe nam gif fol siz cel giv nf (va_up (va_up lis (3 * lc) S) ((3 * lc) + 1) f) lc see cnt 0) C 11 rfl (by omega) n31_96 rfl dX2_list_121 ?_
                    have hlis121 : ∀ i9, (va_up (va_up lis (3 * lc) S) ((3 * lc) + 1) f) i9 < 1024 := va_up_lt hlis107 (by omega)
                    refine g_aload_n C dX2_list_122 rfl 1 rfl ?_
                    refine g_get (ci := 3) (v := .ref (a 11)) C iwX2_list_X2 0 rfl rfl 11 (by decide) (C.hw (List.mem_cons_of_mem _ (List.mem_append_left _ (List.mem_of_getElem? (i := 1) rfl)))) (fun _ h9 => h9) rfl dX2_list_123 ?_
                    refine g_iconst (v := nI 3) C dX2_list_126 (by decide +kernel) ?_
                    refine g_aload_n C dX2_list_127 rfl 1 rfl ?_
                    refine g_get (ci := 3) (v := .int (nI lc)) C iwX2_list_X2 0 rfl rfl 12 (by decide) (C.hw (List.mem_cons_of_mem _ (List.mem_append_left _ (List.mem_of_getElem? (i := 0) rfl)))) (fun _ h9 => h9) rfl dX2_list_128 ?_
                    refine g_imul (v := nI (3 * lc)) C dX2_list_131 (pk_mul _ _) ?_
                    refine g_iconst (v := nI 2) C dX2_list_132 (by decide +kernel) ?_
                    refine g_iadd (v := nI ((3 * lc) + 2)) C dX2_list_133 (nI_add _ _) ?_
                    refine g_iload_n C dX2_list_134 rfl 4 rfl ?_
                    refine g_iastN (nn := 96) (j := ((3 * lc) + 2)) (v := t) (f := (va_up (va_up lis (3 * lc) S) ((3 * lc) + 1) f)) (ws' := wM cy a lab has quo spe nam gif fol siz cel giv nf (va_up (va_up (va_up lis (3 * lc) S) ((3 * lc) + 1) f) ((3 * lc) + 2) t) lc see cnt 0) C 11 rfl (by omega) n31_96 rfl dX2_list_135 ?_
                    have hlis135 : ∀ i9, (va_up (va_up (va_up lis (3 * lc) S) ((3 * lc) + 1) f) ((3 * lc) + 2) t) i9 < 1024 := va_up_lt hlis121 (by omega)
                    refine g_aload_n C dX2_list_136 rfl 1 rfl ?_
                    refine g_dup C dX2_list_137 rfl ?_
                    refine g_get (ci := 3) (v := .int (nI lc)) C iwX2_list_X2 0 rfl rfl 12 (by decide) (C.hw (List.mem_cons_of_mem _ (List.mem_append_left _ (List.mem_of_getElem? (i := 0) rfl)))) (fun _ h9 => h9) rfl dX2_list_138 ?_
                    refine g_iconst (v := nI 1) C dX2_list_141 (by decide +kernel) ?_
                    refine g_iadd (v := nI (lc + 1)) C dX2_list_142 (nI_add _ _) ?_
                    have hlc143 : lc + 1 ≤ 32 := by omega
                    refine g_put (ci := 3) (ty := .int) (v := .int (nI (lc + 1))) (ws' := wM cy a lab has quo spe nam gif fol siz cel giv nf (va_up (va_up (va_up lis (3 * lc) S) ((3 * lc) + 1) f) ((3 * lc) + 2) t) (lc + 1) see cnt 0) C iwX2_list_X2 tyX2 tyX2_ok nmX2 0 rfl rfl 12 (by decide) (C.hw (List.mem_cons_of_mem _ (List.mem_append_left _ (List.mem_of_getElem? (i := 0) rfl)))) (fun _ h9 => h9) rfl (by decide +kernel) rfl rfl (Nat.le_of_ble_eq_true rfl) rfl dX2_list_143 ?_
                    refine g_iload C dX2_list_146 5 rfl ?_
                    refine g_if_ne (tgt := 208) C dX2_list_148 (by decide) (fun c148 => ?_) (fun c148 => ?_)
                    · skip
                      have c148 := cb_eq1 c148
                      refine g_iload C dX2_list_208 0 rfl ?_
                      refine g_iconst (v := (-1)) C dX2_list_210 (by decide +kernel) ?_
                      refine g_icmp_eq (tgt := 218) C dX2_list_211 (by decide) (fun c211 => ?_) (fun c211 => ?_)
                      · skip
                        refine g_iconst (v := nI 0) C dX2_list_218 (by decide +kernel) ?_
                        exact g_zret C rfl (Or.inl rfl) (Or.inr ⟨S, f, t, rfl, hS, rfl, hf, rfl, ht, hft, Or.inr (Or.inr (Or.inl (⟨(by simp only [listD, e45, c148, Option.map_none, Option.map_some, Option.isSome_none, Option.isSome_some, Bool.false_eq_true, Bool.true_eq_false, eq_self, if_true, if_false]; repeat (first | rw [if_pos (by first | assumption | omega)] | rw [if_neg (by first | assumption | omega)])), rfl, rfl⟩)))⟩) (Nat.le_of_ble_eq_true rfl) (Nat.le_of_ble_eq_true rfl) dX2_list_219
                      · skip
                        exact absurd rfl c211
                    · skip
                      cases c87.symm.trans (cb_eq0 c148)
              · skip
                exact absurd c80 (by decide +kernel)
            · skip
              have c68 := c_eq0 (by omega) (by omega) c68
              refine g_iconst (v := nI 1) C dX2_list_71 (by decide +kernel) ?_
              refine g_goto (tgt := 76) C dX2_list_72 (by decide) ?_
              refine g_iconst (v := nI 2) C dX2_list_76 (by decide +kernel) ?_
              refine g_Vi (ci := 3) (st := []) C (k_X2_fails l D cy zs a lab has quo spe nam gif fol siz cel giv nf lis lc see cnt 0 ⟨hnf, hlc, hlab, hquo, hspe, hnam, hsiz, hcnt, hlis⟩ true 2) gX2_list_X2_fails rfl ⟨rfl, ydX2_fails⟩ 0 rfl rfl ⟨Nat.le_of_ble_eq_true rfl, Nat.le_of_ble_eq_true rfl⟩ ⟨Nat.le_of_ble_eq_true rfl, Nat.le_of_ble_eq_true rfl⟩ rfl (Nat.le_of_ble_eq_true rfl) dX2_list_77 (fun r77 w77 h77 => ?_)
              obtain ⟨h77a, h77b⟩ := h77
              subst h77a
              subst h77b
              refine g_if_eq (tgt := 85) C dX2_list_80 (by decide) (fun c80 => ?_) (fun c80 => ?_)
              · skip
                exact absurd c80 (by decide +kernel)
              · skip
                have c80 := cb_eq1 c80
                refine g_iconst (v := nI 0) C dX2_list_83 (by decide +kernel) ?_
                exact g_zret C rfl (Or.inl rfl) (Or.inr ⟨S, f, t, rfl, hS, rfl, hf, rfl, ht, hft, Or.inr (Or.inr (Or.inr (⟨(by simp only [listD, e45, c53, Option.map_none, Option.map_some, Option.isSome_none, Option.isSome_some, Bool.false_eq_true, Bool.true_eq_false, eq_self, if_true, if_false]; repeat (first | rw [if_pos (by first | assumption | omega)] | rw [if_neg (by first | assumption | omega)])), rfl, rfl⟩)))⟩) (Nat.le_of_ble_eq_true rfl) (Nat.le_of_ble_eq_true rfl) dX2_list_84
      · skip
        have q45 := lisN_spec e45
        refine g_istore (lv' := [(5, .int (nI k)), (0, .ref (a 0)), (1, .int (nI S)), (2, .int (nI f)), (3, .int (nI t)), (4, .int (bI on))]) C dX2_list_48 (by decide) rfl ?_
        refine g_aload_n C dX2_list_50 rfl 1 rfl ?_
        refine g_iload C dX2_list_51 5 rfl ?_
        refine g_if_eq (tgt := 75) C dX2_list_53 (by decide) (fun c53 => ?_) (fun c53 => ?_)
        · skip
          have c53 := cb_eq0 c53
          refine g_iconst (v := nI 0) C dX2_list_75 (by decide +kernel) ?_
          refine g_iconst (v := nI 2) C dX2_list_76 (by decide +kernel) ?_
          refine g_Vi (ci := 3) (st := []) C (k_X2_fails l D cy zs a lab has quo spe nam gif fol siz cel giv nf lis lc see cnt 0 ⟨hnf, hlc, hlab, hquo, hspe, hnam, hsiz, hcnt, hlis⟩ false 2) gX2_list_X2_fails rfl ⟨rfl, ydX2_fails⟩ 0 rfl rfl ⟨Nat.le_of_ble_eq_true rfl, Nat.le_of_ble_eq_true rfl⟩ ⟨Nat.le_of_ble_eq_true rfl, Nat.le_of_ble_eq_true rfl⟩ rfl (Nat.le_of_ble_eq_true rfl) dX2_list_77 (fun r77 w77 h77 => ?_)
          obtain ⟨h77a, h77b⟩ := h77
          subst h77a
          subst h77b
          refine g_if_eq (tgt := 85) C dX2_list_80 (by decide) (fun c80 => ?_) (fun c80 => ?_)
          · skip
            have c80 := cb_eq0 c80
            refine g_iload C dX2_list_85 5 rfl ?_
            refine g_if_eq (tgt := 146) C dX2_list_87 (by decide) (fun c87 => ?_) (fun c87 => ?_)
            · skip
              have c87 := cb_eq0 c87
              refine g_iload C dX2_list_146 5 rfl ?_
              refine g_if_ne (tgt := 208) C dX2_list_148 (by decide) (fun c148 => ?_) (fun c148 => ?_)
              · skip
                cases c87.symm.trans (cb_eq1 c148)
              · skip
                have c148 := cb_eq0 c148
                refine g_iload C dX2_list_151 0 rfl ?_
                refine g_iconst (v := (-1)) C dX2_list_153 (by decide +kernel) ?_
                refine g_icmp_eq (tgt := 208) C dX2_list_154 (by decide) (fun c154 => ?_) (fun c154 => ?_)
                · skip
                  exact absurd c154 (nI_nem1 (by omega))
                · skip
                  refine g_aload_n C dX2_list_157 rfl 1 rfl ?_
                  refine g_dup C dX2_list_158 rfl ?_
                  refine g_get (ci := 3) (v := .int (nI lc)) C iwX2_list_X2 0 rfl rfl 12 (by decide) (C.hw (List.mem_cons_of_mem _ (List.mem_append_left _ (List.mem_of_getElem? (i := 0) rfl)))) (fun _ h9 => h9) rfl dX2_list_159 ?_
                  refine g_iconst (v := nI 1) C dX2_list_162 (by decide +kernel) ?_
                  refine g_isub (v := nI (lc - 1)) C dX2_list_163 (pk_sub (by omega)) ?_
                  have hlc164 : lc - 1 ≤ 32 := by omega
                  refine g_put (ci := 3) (ty := .int) (v := .int (nI (lc - 1))) (ws' := wM cy a lab has quo spe nam gif fol siz cel giv nf lis (lc - 1) see cnt 0) C iwX2_list_X2 tyX2 tyX2_ok nmX2 0 rfl rfl 12 (by decide) (C.hw (List.mem_cons_of_mem _ (List.mem_append_left _ (List.mem_of_getElem? (i := 0) rfl)))) (fun _ h9 => h9) rfl (by decide +kernel) rfl rfl (Nat.le_of_ble_eq_true rfl) rfl dX2_list_164 ?_
                  refine g_iconst (v := nI 0) C dX2_list_167 (by decide +kernel) ?_
                  refine g_istore (lv' := [(6, .int (nI 0)), (5, .int (nI k)), (0, .ref (a 0)), (1, .int (nI S)), (2, .int (nI f)), (3, .int (nI t)), (4, .int (bI on))]) C dX2_list_168 (by decide) rfl ?_
                  refine g_iload C dX2_list_170 0 rfl ?_
                  refine g_iconst (v := nI 3) C dX2_list_172 (by decide +kernel) ?_
                  refine g_icmp_ge (tgt := 208) C dX2_list_173 (by decide) (fun c173 => ?_) (fun c173 => ?_)
                  · skip
                    exact absurd c173 (by decide +kernel)
                  · skip
                    have c173 := c_ge1 (by omega) (by omega) c173
                    refine g_aload_n C dX2_list_176 rfl 2 rfl ?_
                    refine g_get (ci := 3) (v := .ref (a 11)) C iwX2_list_X2 0 rfl rfl 11 (by decide) (C.hw (List.mem_cons_of_mem _ (List.mem_append_left _ (List.mem_of_getElem? (i := 1) rfl)))) (fun _ h9 => h9) rfl dX2_list_177 ?_
                    refine g_iconst (v := nI 3) C dX2_list_180 (by decide +kernel) ?_
                    refine g_iload C dX2_list_181 1 rfl ?_
                    refine g_imul (v := nI (3 * k)) C dX2_list_183 (pk_mul _ _) ?_
                    refine g_iload C dX2_list_184 0 rfl ?_
                    refine g_iadd (v := nI ((3 * k) + 0)) C dX2_list_186 (nI_add _ _) ?_
                    refine g_aload_n C dX2_list_187 rfl 2 rfl ?_
                    refine g_get (ci := 3) (v := .ref (a 11)) C iwX2_list_X2 0 rfl rfl 11 (by decide) (C.hw (List.mem_cons_of_mem _ (List.mem_append_left _ (List.mem_of_getElem? (i := 1) rfl)))) (fun _ h9 => h9) rfl dX2_list_188 ?_
                    refine g_iconst (v := nI 3) C dX2_list_191 (by decide +kernel) ?_
                    refine g_aload_n C dX2_list_192 rfl 2 rfl ?_
                    refine g_get (ci := 3) (v := .int (nI (lc - 1))) C iwX2_list_X2 0 rfl rfl 12 (by decide) (C.hw (List.mem_cons_of_mem _ (List.mem_append_left _ (List.mem_of_getElem? (i := 0) rfl)))) (fun _ h9 => h9) rfl dX2_list_193 ?_
                    refine g_imul (v := nI (3 * (lc - 1))) C dX2_list_196 (pk_mul _ _) ?_
                    refine g_iload C dX2_list_197 0 rfl ?_
                    refine g_iadd (v := nI ((3 * (lc - 1)) + 0)) C dX2_list_199 (nI_add _ _) ?_
                    refine g_ialdN (nn := 96) (j := ((3 * (lc - 1)) + 0)) (f := lis) C 11 rfl (by omega) n31_96 dX2_list_200 ?_
                    have b200 := hlis ((3 * (lc - 1)) + 0)
                    refine g_iastN (nn := 96) (j := ((3 * k) + 0)) (v := (lis ((3 * (lc - 1)) + 0))) (f := lis) (ws' := wM cy a lab has quo spe nam gif fol siz cel giv nf (va_up lis ((3 * k) + 0) (lis ((3 * (lc - 1)) + 0))) (lc - 1) see cnt 0) C 11 rfl (by omega) n31_96 rfl dX2_list_201 ?_
                    have hlis201 : ∀ i9, (va_up lis ((3 * k) + 0) (lis ((3 * (lc - 1)) + 0))) i9 < 1024 := va_up_lt hlis (by omega)
                    refine g_iinc (q := 0) (v := nI 1) (lv' := [(6, .int (nI 1)), (5, .int (nI k)), (0, .ref (a 0)), (1, .int (nI S)), (2, .int (nI f)), (3, .int (nI t)), (4, .int (bI on))]) C dX2_list_202 rfl (by decide +kernel) (by decide) rfl ?_
                    refine g_goto (tgt := 170) C dX2_list_205 (by decide) ?_
                    refine g_iload C dX2_list_170 0 rfl ?_
                    refine g_iconst (v := nI 3) C dX2_list_172 (by decide +kernel) ?_
                    refine g_icmp_ge (tgt := 208) C dX2_list_173 (by decide) (fun c173 => ?_) (fun c173 => ?_)
                    · skip
                      exact absurd c173 (by decide +kernel)
                    · skip
                      have c173 := c_ge1 (by omega) (by omega) c173
                      refine g_aload_n C dX2_list_176 rfl 2 rfl ?_
                      refine g_get (ci := 3) (v := .ref (a 11)) C iwX2_list_X2 0 rfl rfl 11 (by decide) (C.hw (List.mem_cons_of_mem _ (List.mem_append_left _ (List.mem_of_getElem? (i := 1) rfl)))) (fun _ h9 => h9) rfl dX2_list_177 ?_
                      refine g_iconst (v := nI 3) C dX2_list_180 (by decide +kernel) ?_
                      refine g_iload C dX2_list_181 1 rfl ?_
                      refine g_imul (v := nI (3 * k)) C dX2_list_183 (pk_mul _ _) ?_
                      refine g_iload C dX2_list_184 0 rfl ?_
                      refine g_iadd (v := nI ((3 * k) + 1)) C dX2_list_186 (nI_add _ _) ?_
                      refine g_aload_n C dX2_list_187 rfl 2 rfl ?_
                      refine g_get (ci := 3) (v := .ref (a 11)) C iwX2_list_X2 0 rfl rfl 11 (by decide) (C.hw (List.mem_cons_of_mem _ (List.mem_append_left _ (List.mem_of_getElem? (i := 1) rfl)))) (fun _ h9 => h9) rfl dX2_list_188 ?_
                      refine g_iconst (v := nI 3) C dX2_list_191 (by decide +kernel) ?_
                      refine g_aload_n C dX2_list_192 rfl 2 rfl ?_
                      refine g_get (ci := 3) (v := .int (nI (lc - 1))) C iwX2_list_X2 0 rfl rfl 12 (by decide) (C.hw (List.mem_cons_of_mem _ (List.mem_append_left _ (List.mem_of_getElem? (i := 0) rfl)))) (fun _ h9 => h9) rfl dX2_list_193 ?_
                      refine g_imul (v := nI (3 * (lc - 1))) C dX2_list_196 (pk_mul _ _) ?_
                      refine g_iload C dX2_list_197 0 rfl ?_
                      refine g_iadd (v := nI ((3 * (lc - 1)) + 1)) C dX2_list_199 (nI_add _ _) ?_
                      refine g_ialdN (nn := 96) (j := ((3 * (lc - 1)) + 1)) (f := (va_up lis ((3 * k) + 0) (lis ((3 * (lc - 1)) + 0)))) C 11 rfl (by omega) n31_96 dX2_list_200 ?_
                      have b200 := hlis201 ((3 * (lc - 1)) + 1)
                      refine g_iastN (nn := 96) (j := ((3 * k) + 1)) (v := ((va_up lis ((3 * k) + 0) (lis ((3 * (lc - 1)) + 0))) ((3 * (lc - 1)) + 1))) (f := (va_up lis ((3 * k) + 0) (lis ((3 * (lc - 1)) + 0)))) (ws' := wM cy a lab has quo spe nam gif fol siz cel giv nf (va_up (va_up lis ((3 * k) + 0) (lis ((3 * (lc - 1)) + 0))) ((3 * k) + 1) ((va_up lis ((3 * k) + 0) (lis ((3 * (lc - 1)) + 0))) ((3 * (lc - 1)) + 1))) (lc - 1) see cnt 0) C 11 rfl (by omega) n31_96 rfl dX2_list_201 ?_
                      have hlis201 : ∀ i9, (va_up (va_up lis ((3 * k) + 0) (lis ((3 * (lc - 1)) + 0))) ((3 * k) + 1) ((va_up lis ((3 * k) + 0) (lis ((3 * (lc - 1)) + 0))) ((3 * (lc - 1)) + 1))) i9 < 1024 := va_up_lt hlis201 (by omega)
                      refine g_iinc (q := 0) (v := nI 2) (lv' := [(6, .int (nI 2)), (5, .int (nI k)), (0, .ref (a 0)), (1, .int (nI S)), (2, .int (nI f)), (3, .int (nI t)), (4, .int (bI on))]) C dX2_list_202 rfl (by decide +kernel) (by decide) rfl ?_
                      refine g_goto (tgt := 170) C dX2_list_205 (by decide) ?_
                      refine g_iload C dX2_list_170 0 rfl ?_
                      refine g_iconst (v := nI 3) C dX2_list_172 (by decide +kernel) ?_
                      refine g_icmp_ge (tgt := 208) C dX2_list_173 (by decide) (fun c173 => ?_) (fun c173 => ?_)
                      · skip
                        exact absurd c173 (by decide +kernel)
                      · skip
                        have c173 := c_ge1 (by omega) (by omega) c173
                        refine g_aload_n C dX2_list_176 rfl 2 rfl ?_
                        refine g_get (ci := 3) (v := .ref (a 11)) C iwX2_list_X2 0 rfl rfl 11 (by decide) (C.hw (List.mem_cons_of_mem _ (List.mem_append_left _ (List.mem_of_getElem? (i := 1) rfl)))) (fun _ h9 => h9) rfl dX2_list_177 ?_
                        refine g_iconst (v := nI 3) C dX2_list_180 (by decide +kernel) ?_
                        refine g_iload C dX2_list_181 1 rfl ?_
                        refine g_imul (v := nI (3 * k)) C dX2_list_183 (pk_mul _ _) ?_
                        refine g_iload C dX2_list_184 0 rfl ?_
                        refine g_iadd (v := nI ((3 * k) + 2)) C dX2_list_186 (nI_add _ _) ?_
                        refine g_aload_n C dX2_list_187 rfl 2 rfl ?_
                        refine g_get (ci := 3) (v := .ref (a 11)) C iwX2_list_X2 0 rfl rfl 11 (by decide) (C.hw (List.mem_cons_of_mem _ (List.mem_append_left _ (List.mem_of_getElem? (i := 1) rfl)))) (fun _ h9 => h9) rfl dX2_list_188 ?_
                        refine g_iconst (v := nI 3) C dX2_list_191 (by decide +kernel) ?_
                        refine g_aload_n C dX2_list_192 rfl 2 rfl ?_
                        refine g_get (ci := 3) (v := .int (nI (lc - 1))) C iwX2_list_X2 0 rfl rfl 12 (by decide) (C.hw (List.mem_cons_of_mem _ (List.mem_append_left _ (List.mem_of_getElem? (i := 0) rfl)))) (fun _ h9 => h9) rfl dX2_list_193 ?_
                        refine g_imul (v := nI (3 * (lc - 1))) C dX2_list_196 (pk_mul _ _) ?_
                        refine g_iload C dX2_list_197 0 rfl ?_
                        refine g_iadd (v := nI ((3 * (lc - 1)) + 2)) C dX2_list_199 (nI_add _ _) ?_
                        refine g_ialdN (nn := 96) (j := ((3 * (lc - 1)) + 2)) (f := (va_up (va_up lis ((3 * k) + 0) (lis ((3 * (lc - 1)) + 0))) ((3 * k) + 1) ((va_up lis ((3 * k) + 0) (lis ((3 * (lc - 1)) + 0))) ((3 * (lc - 1)) + 1)))) C 11 rfl (by omega) n31_96 dX2_list_200 ?_
                        have b200 := hlis201 ((3 * (lc - 1)) + 2)
                        refine g_iastN (nn := 96) (j := ((3 * k) + 2)) (v := ((va_up (va_up lis ((3 * k) + 0) (lis ((3 * (lc - 1)) + 0))) ((3 * k) + 1) ((va_up lis ((3 * k) + 0) (lis ((3 * (lc - 1)) + 0))) ((3 * (lc - 1)) + 1))) ((3 * (lc - 1)) + 2))) (f := (va_up (va_up lis ((3 * k) + 0) (lis ((3 * (lc - 1)) + 0))) ((3 * k) + 1) ((va_up lis ((3 * k) + 0) (lis ((3 * (lc - 1)) + 0))) ((3 * (lc - 1)) + 1)))) (ws' := wM cy a lab has quo spe nam gif fol siz cel giv nf (va_up (va_up (va_up lis ((3 * k) + 0) (lis ((3 * (lc - 1)) + 0))) ((3 * k) + 1) ((va_up lis ((3 * k) + 0) (lis ((3 * (lc - 1)) + 0))) ((3 * (lc - 1)) + 1))) ((3 * k) + 2) ((va_up (va_up lis ((3 * k) + 0) (lis ((3 * (lc - 1)) + 0))) ((3 * k) + 1) ((va_up lis ((3 * k) + 0) (lis ((3 * (lc - 1)) + 0))) ((3 * (lc - 1)) + 1))) ((3 * (lc - 1)) + 2))) (lc - 1) see cnt 0) C 11 rfl (by omega) n31_96 rfl dX2_list_201 ?_
                        have hlis201 : ∀ i9, (va_up (va_up (va_up lis ((3 * k) + 0) (lis ((3 * (lc - 1)) + 0))) ((3 * k) + 1) ((va_up lis ((3 * k) + 0) (lis ((3 * (lc - 1)) + 0))) ((3 * (lc - 1)) + 1))) ((3 * k) + 2) ((va_up (va_up lis ((3 * k) + 0) (lis ((3 * (lc - 1)) + 0))) ((3 * k) + 1) ((va_up lis ((3 * k) + 0) (lis ((3 * (lc - 1)) + 0))) ((3 * (lc - 1)) + 1))) ((3 * (lc - 1)) + 2))) i9 < 1024 := va_up_lt hlis201 (by omega)
                        refine g_iinc (q := 0) (v := nI 3) (lv' := [(6, .int (nI 3)), (5, .int (nI k)), (0, .ref (a 0)), (1, .int (nI S)), (2, .int (nI f)), (3, .int (nI t)), (4, .int (bI on))]) C dX2_list_202 rfl (by decide +kernel) (by decide) rfl ?_
                        refine g_goto (tgt := 170) C dX2_list_205 (by decide) ?_
                        refine g_iload C dX2_list_170 0 rfl ?_
                        refine g_iconst (v := nI 3) C dX2_list_172 (by decide +kernel) ?_
                        refine g_icmp_ge (tgt := 208) C dX2_list_173 (by decide) (fun c173 => ?_) (fun c173 => ?_)
                        · skip
                          have c173 := c_ge0 (by omega) (by omega) c173
                          refine g_iload C dX2_list_208 1 rfl ?_
                          refine g_iconst (v := (-1)) C dX2_list_210 (by decide +kernel) ?_
                          refine g_icmp_eq (tgt := 218) C dX2_list_211 (by decide) (fun c211 => ?_) (fun c211 => ?_)
                          · skip
                            exact absurd c211 (nI_nem1 (by omega))
                          · skip
                            refine g_iconst (v := nI 1) C dX2_list_214 (by decide +kernel) ?_
                            refine g_goto (tgt := 219) C dX2_list_215 (by decide) ?_
                            exact g_zret C rfl (Or.inr rfl) (Or.inr ⟨S, f, t, rfl, hS, rfl, hf, rfl, ht, hft, Or.inr (Or.inl (⟨k, e45, (by simp only [listD, e45, c148, Option.map_none, Option.map_some, Option.isSome_none, Option.isSome_some, Bool.false_eq_true, Bool.true_eq_false, eq_self, if_true, if_false]; repeat (first | rw [if_pos (by first | assumption | omega)] | rw [if_neg (by first | assumption | omega)])), rfl, rfl⟩))⟩) (Nat.le_of_ble_eq_true rfl) (Nat.le_of_ble_eq_true rfl) dX2_list_219
                        · skip
                          exact absurd c173 (by decide +kernel)
            · skip
              cases c53.symm.trans (cb_eq1 c87)
          · skip
            exact absurd c80 (by decide +kernel)
        · skip
          have c53 := cb_eq1 c53
          refine g_iload C dX2_list_56 0 rfl ?_
          refine g_iconst (v := (-1)) C dX2_list_58 (by decide +kernel) ?_
          refine g_icmp_ne (tgt := 75) C dX2_list_59 (by decide) (fun c59 => ?_) (fun c59 => ?_)
          · skip
            refine g_iconst (v := nI 0) C dX2_list_75 (by decide +kernel) ?_
            refine g_iconst (v := nI 2) C dX2_list_76 (by decide +kernel) ?_
            refine g_Vi (ci := 3) (st := []) C (k_X2_fails l D cy zs a lab has quo spe nam gif fol siz cel giv nf lis lc see cnt 0 ⟨hnf, hlc, hlab, hquo, hspe, hnam, hsiz, hcnt, hlis⟩ false 2) gX2_list_X2_fails rfl ⟨rfl, ydX2_fails⟩ 0 rfl rfl ⟨Nat.le_of_ble_eq_true rfl, Nat.le_of_ble_eq_true rfl⟩ ⟨Nat.le_of_ble_eq_true rfl, Nat.le_of_ble_eq_true rfl⟩ rfl (Nat.le_of_ble_eq_true rfl) dX2_list_77 (fun r77 w77 h77 => ?_)
            obtain ⟨h77a, h77b⟩ := h77
            subst h77a
            subst h77b
            refine g_if_eq (tgt := 85) C dX2_list_80 (by decide) (fun c80 => ?_) (fun c80 => ?_)
            · skip
              have c80 := cb_eq0 c80
              refine g_iload C dX2_list_85 5 rfl ?_
              refine g_if_eq (tgt := 146) C dX2_list_87 (by decide) (fun c87 => ?_) (fun c87 => ?_)
              · skip
                cases c53.symm.trans (cb_eq0 c87)
              · skip
                have c87 := cb_eq1 c87
                refine g_iload C dX2_list_90 0 rfl ?_
                refine g_iconst (v := (-1)) C dX2_list_92 (by decide +kernel) ?_
                refine g_icmp_ne (tgt := 146) C dX2_list_93 (by decide) (fun c93 => ?_) (fun c93 => ?_)
                · skip
                  refine g_iload C dX2_list_146 5 rfl ?_
                  refine g_if_ne (tgt := 208) C dX2_list_148 (by decide) (fun c148 => ?_) (fun c148 => ?_)
                  · skip
                    have c148 := cb_eq1 c148
                    refine g_iload C dX2_list_208 0 rfl ?_
                    refine g_iconst (v := (-1)) C dX2_list_210 (by decide +kernel) ?_
                    refine g_icmp_eq (tgt := 218) C dX2_list_211 (by decide) (fun c211 => ?_) (fun c211 => ?_)
                    · skip
                      exact absurd c211 (nI_nem1 (by omega))
                    · skip
                      refine g_iconst (v := nI 1) C dX2_list_214 (by decide +kernel) ?_
                      refine g_goto (tgt := 219) C dX2_list_215 (by decide) ?_
                      exact g_zret C rfl (Or.inr rfl) (Or.inr ⟨S, f, t, rfl, hS, rfl, hf, rfl, ht, hft, Or.inl (⟨(by simp only [listD, e45, c148, Option.map_none, Option.map_some, Option.isSome_none, Option.isSome_some, Bool.false_eq_true, Bool.true_eq_false, eq_self, if_true, if_false]; repeat (first | rw [if_pos (by first | assumption | omega)] | rw [if_neg (by first | assumption | omega)])), by rw [e45]; rfl, rfl⟩)⟩) (Nat.le_of_ble_eq_true rfl) (Nat.le_of_ble_eq_true rfl) dX2_list_219
                  · skip
                    cases c87.symm.trans (cb_eq0 c148)
                · skip
                  exact absurd c93 (nI_nem1 (by omega))
            · skip
              exact absurd c80 (by decide +kernel)
          · skip
            exact absurd c59 (nI_nem1 (by omega))
    · skip
      have c36 := cb_eq1 c36
      subst c36
      refine g_iconst (v := nI 0) C dX2_list_39 (by decide +kernel) ?_
      exact g_zret C rfl (Or.inl rfl) (Or.inl ⟨h32.symm, rfl, rfl⟩) (Nat.le_of_ble_eq_true rfl) (Nat.le_of_ble_eq_true rfl) dX2_list_40
  · skip
    refine g_iload_n C dX2_list_1 rfl 1 rfl ?_
    refine g_Si (st := [.ref (a 0)]) C (k_X2_isSubject l D cy zs (wM cy a lab has quo spe nam gif fol siz cel giv nf lis lc see cnt thr) p0) gX2_list_X2_isSubject rfl ydX2_isSubject ⟨Nat.le_of_ble_eq_true rfl, Nat.le_of_ble_eq_true rfl⟩ ⟨Nat.le_of_ble_eq_true rfl, Nat.le_of_ble_eq_true rfl⟩ rfl (Nat.le_of_ble_eq_true rfl) dX2_list_2 (fun r2 w2 h2 => ?_)
    obtain ⟨h2a, h2b⟩ := h2
    subst h2a
    subst h2b
    refine g_if_eq (tgt := 27) C dX2_list_5 (by decide) (fun c5 => ?_) (fun c5 => ?_)
    · skip
      have c5 := cb_eq0 c5
      refine g_iconst (v := nI 1) C dX2_list_27 (by decide +kernel) ?_
      refine g_goto (tgt := 32) C dX2_list_28 (by decide) ?_
      exact g_sub (lv' := [(0, .ref (a 0)), (1, .int p0), (2, .int p1), (3, .int p2), (4, .int (bI on))]) [0, 1, 2, 3, 4] rfl (J32 true (by simp [c5]))
    · skip
      have c5 := cb_eq1 c5
      refine g_iload_n C dX2_list_8 rfl 2 rfl ?_
      refine g_Si (st := [.ref (a 0)]) C (k_X2_isLabel l D cy zs (wM cy a lab has quo spe nam gif fol siz cel giv nf lis lc see cnt thr) p1) gX2_list_X2_isLabel rfl ydX2_isLabel ⟨Nat.le_of_ble_eq_true rfl, Nat.le_of_ble_eq_true rfl⟩ ⟨Nat.le_of_ble_eq_true rfl, Nat.le_of_ble_eq_true rfl⟩ rfl (Nat.le_of_ble_eq_true rfl) dX2_list_9 (fun r9 w9 h9 => ?_)
      obtain ⟨h9a, h9b⟩ := h9
      subst h9a
      subst h9b
      refine g_if_eq (tgt := 27) C dX2_list_12 (by decide) (fun c12 => ?_) (fun c12 => ?_)
      · skip
        have c12 := cb_eq0 c12
        refine g_iconst (v := nI 1) C dX2_list_27 (by decide +kernel) ?_
        refine g_goto (tgt := 32) C dX2_list_28 (by decide) ?_
        exact g_sub (lv' := [(0, .ref (a 0)), (1, .int p0), (2, .int p1), (3, .int p2), (4, .int (bI on))]) [0, 1, 2, 3, 4] rfl (J32 true (by simp [c5, c12]))
      · skip
        have c12 := cb_eq1 c12
        refine g_iload_n C dX2_list_15 rfl 3 rfl ?_
        refine g_Si (st := [.ref (a 0)]) C (k_X2_isLabel l D cy zs (wM cy a lab has quo spe nam gif fol siz cel giv nf lis lc see cnt thr) p2) gX2_list_X2_isLabel rfl ydX2_isLabel ⟨Nat.le_of_ble_eq_true rfl, Nat.le_of_ble_eq_true rfl⟩ ⟨Nat.le_of_ble_eq_true rfl, Nat.le_of_ble_eq_true rfl⟩ rfl (Nat.le_of_ble_eq_true rfl) dX2_list_16 (fun r16 w16 h16 => ?_)
        obtain ⟨h16a, h16b⟩ := h16
        subst h16a
        subst h16b
        refine g_if_eq (tgt := 27) C dX2_list_19 (by decide) (fun c19 => ?_) (fun c19 => ?_)
        · skip
          have c19 := cb_eq0 c19
          refine g_iconst (v := nI 1) C dX2_list_27 (by decide +kernel) ?_
          refine g_goto (tgt := 32) C dX2_list_28 (by decide) ?_
          exact g_sub (lv' := [(0, .ref (a 0)), (1, .int p0), (2, .int p1), (3, .int p2), (4, .int (bI on))]) [0, 1, 2, 3, 4] rfl (J32 true (by simp [c5, c12, c19]))
        · skip
          have c19 := cb_eq1 c19
          refine g_iload_n C dX2_list_22 rfl 2 rfl ?_
          refine g_iload_n C dX2_list_23 rfl 3 rfl ?_
          refine g_icmp_ne (tgt := 31) C dX2_list_24 (by decide) (fun c24 => ?_) (fun c24 => ?_)
          · skip
            refine g_iconst (v := nI 0) C dX2_list_31 (by decide +kernel) ?_
            exact g_sub (lv' := [(0, .ref (a 0)), (1, .int p0), (2, .int p1), (3, .int p2), (4, .int (bI on))]) [0, 1, 2, 3, 4] rfl (J32 false (by simp [c5, c12, c19, c24]))
          · skip
            refine g_iconst (v := nI 1) C dX2_list_27 (by decide +kernel) ?_
            refine g_goto (tgt := 32) C dX2_list_28 (by decide) ?_
            exact g_sub (lv' := [(0, .ref (a 0)), (1, .int p0), (2, .int p1), (3, .int p2), (4, .int (bI on))]) [0, 1, 2, 3, 4] rfl (J32 true (by simp [c5, c12, c19, c24]))
