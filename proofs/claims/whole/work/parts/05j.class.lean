def szF (Fs : List FT) (key : Nat) : Option Nat := ((plF Fs key).bind (fun i => Fs[i]?)).map (fun F => F.2.2.2.2.2.1)
theorem sz_none {Fs : List FT} {key : Nat} (h : plF Fs key = none) : szF Fs key = none := by
  unfold szF
  rw [h]
  rfl
theorem sz_some {Fs : List FT} {key i : Nat} {F : FT} (h : plF Fs key = some i) (hF : Fs[i]? = some F) : szF Fs key = some F.2.2.2.2.2.1 := by
  unfold szF
  rw [h, Option.bind_some, hF]
  rfl
theorem look_cases (lbl : Option Nat) (L : Nat) : (lookD lbl L = 0 ∧ lookR lbl L = -1) ∨ (lookD lbl L = 1 ∧ lookR lbl L = -2) ∨ ∃ o, lbl = some o ∧ lookD lbl L = 2 ∧ lookR lbl L = nI 0 := by
  cases lbl with
  | none => exact Or.inl ⟨rfl, rfl⟩
  | some o =>
    cases h : mayN L o
    · refine Or.inr (Or.inl ⟨?_, ?_⟩)
      · simp [lookD, h]
      · simp [lookR, lookD, h]
    · refine Or.inr (Or.inr ⟨o, rfl, ?_, ?_⟩)
      · simp [lookD, h]
      · simp [lookR, lookD, h]
theorem tsw (v : Int32) : v = nI 0 ∨ v = nI 1 ∨ v = nI 2 ∨ v = nI 3 ∨ ((v.toInt < 0 ∨ 3 < v.toInt) ∧ inB v 4 = false) := by
  by_cases h : v < 0
  · refine Or.inr (Or.inr (Or.inr (Or.inr ⟨Or.inl ?_, inB_n1 h⟩)))
    have := Int32.lt_iff_toInt_lt.mp h
    simpa using this
  · obtain ⟨k, hk, rfl⟩ := nI_of h
    by_cases h4 : k < 4
    · rcases (by omega : k = 0 ∨ k = 1 ∨ k = 2 ∨ k = 3) with rfl | rfl | rfl | rfl
      · exact Or.inl rfl
      · exact Or.inr (Or.inl rfl)
      · exact Or.inr (Or.inr (Or.inl rfl))
      · exact Or.inr (Or.inr (Or.inr (Or.inl rfl)))
    · refine Or.inr (Or.inr (Or.inr (Or.inr ⟨Or.inr ?_, inB_n2 fun q => ?_⟩)))
      · rw [nI_toInt hk]
        omega
      · exact h4 (c_lt0 hk (by omega) q)
theorem reqF {v x : Int32} (h : (inB v 1024 && inB x 16) = false) : (!inB v 1024 || !inB x 16) = true := by
  revert h
  cases inB v 1024 <;> cases inB x 16 <;> decide
abbrev rmX1_subject : Room := { frames := 7, cells := 12, slots := 500, locals := 120 }
theorem ydX1_subject : yX1_subject.cls ≠ "java/lang/invoke/MethodHandle" ∧ yX1_subject.cls ≠ "java/lang/invoke/VarHandle" ∧ (parseMethodDescriptor yX1_subject.desc).map (fun d => d.parameters.length) = some 2 := by decide +kernel
theorem iwX1_subject_X1 : ∀ w ∈ u_ws RX1 TX1 8, w ∈ wsX1_subject := fun _ h => (List.mem_cons_of_mem _ (List.mem_append_left _ (List.mem_append_right _ h)))
set_option maxRecDepth 100000 in
set_option maxHeartbeats 4000000 in
theorem k_X1_subject (l : Launch) (D : va_G) (cy : Nat → ClassId) (zs : Nat → Nat) (hst : l.stackTraces = false) (a : Nat → Nat) (lab : Nat → Option Nat) (quo : Nat → Nat) (spe : Nat → Nat) (md : Int32) (ed : Option (Nat × Nat)) (lis : Nat → Nat) (lc : Nat) (see : Nat → Nat → Int32) (cnt : Nat → Nat) (Fs : List FT) (hI : CI lab quo spe ed lis lc cnt Fs)  (p0 : Int32) (p1 : Int32)  : Xi l D cy zs yX1_subject wsX1_subject rmX1_subject [.ref (a 0), .int p0, .int p1] (wC cy a (zs 0) lab quo spe md ed lis lc see cnt Fs) (fun r w => ∃ (S : Nat) (L : Nat), p0 = nI S ∧ S < 16 ∧ p1 = nI L ∧ L < 1024 ∧ (((∃ o, lab S = some o) ∧ r = nI 0 ∧ w = (wC cy a (zs 0) lab quo spe md ed lis lc see cnt Fs)) ∨ (lab S = none ∧ r = nI 1 ∧ w = (wC cy a (zs 0) (va_up lab S (some L)) quo spe md ed lis lc see cnt Fs)))) (fun E w => ((!inB p0 16 || !inB p1 1024) = true ∧ E = "java/lang/IllegalArgumentException" ∧ w = (wC cy a (zs 0) lab quo spe md ed lis lc see cnt Fs))) := by
  refine Xi.of (lv := [(0, .ref (a 0)), (1, .int p0), (2, .int p1)]) RX1 ⟨by decide, rfl⟩ rfl (Nat.le_of_ble_eq_true rfl) rfl ?_
  intro p e s m args below meth c A C hnm hno
  have hlc := hI.lcP
  have hln := hI.lenP
  refine g_iload_n C dX1_subject_0 rfl 1 rfl ?_
  refine g_XSv (st := []) C (k_X1_requireSubject l D cy zs hst (wC cy a (zs 0) lab quo spe md ed lis lc see cnt Fs) p0 ) gX1_subject_X1_requireSubject rfl ydX1_requireSubject ⟨Nat.le_of_ble_eq_true rfl, Nat.le_of_ble_eq_true rfl⟩ ⟨Nat.le_of_ble_eq_true rfl, Nat.le_of_ble_eq_true rfl⟩ rfl (Nat.le_of_ble_eq_true rfl) dX1_subject_1 (fun E1 w1 h1 => ?_) (fun w1 h1 => ?_)
  · skip
    obtain ⟨h1a, h1b, h1c⟩ := h1
    subst h1b
    subst h1c
    exact g_xout C hno (⟨(by simp [h1a]), rfl, rfl⟩) (Nat.le_of_ble_eq_true rfl) (Nat.le_of_ble_eq_true rfl)
  obtain ⟨h1, h1b⟩ := h1
  have h1b := h1b.symm
  subst h1b
  obtain ⟨S, hS, eS⟩ := inB_of (Nat.le_of_ble_eq_true rfl) h1
  subst eS
  refine g_iload_n C dX1_subject_4 rfl 2 rfl ?_
  refine g_XSv (st := []) C (k_X1_requireLabel l D cy zs hst (wC cy a (zs 0) lab quo spe md ed lis lc see cnt Fs) p1 ) gX1_subject_X1_requireLabel rfl ydX1_requireLabel ⟨Nat.le_of_ble_eq_true rfl, Nat.le_of_ble_eq_true rfl⟩ ⟨Nat.le_of_ble_eq_true rfl, Nat.le_of_ble_eq_true rfl⟩ rfl (Nat.le_of_ble_eq_true rfl) dX1_subject_5 (fun E5 w5 h5 => ?_) (fun w5 h5 => ?_)
  · skip
    obtain ⟨h5a, h5b, h5c⟩ := h5
    subst h5b
    subst h5c
    exact g_xout C hno (⟨(by simp [h5a]), rfl, rfl⟩) (Nat.le_of_ble_eq_true rfl) (Nat.le_of_ble_eq_true rfl)
  obtain ⟨h5, h5b⟩ := h5
  have h5b := h5b.symm
  subst h5b
  obtain ⟨L, hL, eL⟩ := inB_of (Nat.le_of_ble_eq_true rfl) h5
  subst eL
  refine g_aload_n C dX1_subject_8 rfl 0 rfl ?_
  refine g_get (ci := 2) (v := .ref (a 1)) C iwX1_subject_X1 0 rfl rfl 0 (by decide) (C.hw (List.mem_cons_of_mem _ (List.mem_append_left _ (List.mem_append_left _ (List.mem_of_getElem? (i := 0) rfl))))) (fun _ h9 => h9) rfl dX1_subject_9 ?_
  refine g_iload_n C dX1_subject_12 rfl 1 rfl ?_
  refine g_ialdF (nn := 16) (j := S) (f := lab) C 1 rfl (by omega) n31_16 dX1_subject_13 ?_
  rcases e13 : lab S with _ | o
  · skip
    refine g_iconst (v := (-1)) C dX1_subject_14 (by decide +kernel) ?_
    refine g_icmp_eq (tgt := 20) C dX1_subject_15 (by decide) (fun c15 => ?_) (fun c15 => ?_)
    · skip
      refine g_aload_n C dX1_subject_20 rfl 0 rfl ?_
      refine g_get (ci := 2) (v := .ref (a 1)) C iwX1_subject_X1 0 rfl rfl 0 (by decide) (C.hw (List.mem_cons_of_mem _ (List.mem_append_left _ (List.mem_append_left _ (List.mem_of_getElem? (i := 0) rfl))))) (fun _ h9 => h9) rfl dX1_subject_21 ?_
      refine g_iload_n C dX1_subject_24 rfl 1 rfl ?_
      refine g_iload_n C dX1_subject_25 rfl 2 rfl ?_
      refine g_iastF (nn := 16) (j := S) (v := L) (f := lab) (ws' := (wC cy a (zs 0) (va_up lab S (some L)) quo spe md ed lis lc see cnt Fs)) C 1 rfl (by omega) n31_16 rfl dX1_subject_26 ?_
      have hI26 : CI (va_up lab S (some L)) quo spe ed lis lc cnt Fs := hI.upLab (by omega)
      refine g_iconst (v := nI 1) C dX1_subject_27 (by decide +kernel) ?_
      exact g_xzret C rfl (Or.inr rfl) (⟨S, L, rfl, hS, rfl, hL, Or.inr (⟨e13, rfl, rfl⟩)⟩) (Nat.le_of_ble_eq_true rfl) (Nat.le_of_ble_eq_true rfl) dX1_subject_28
    · skip
      exact absurd rfl c15
  · skip
    have ho13 := hI.labP e13
    refine g_iconst (v := (-1)) C dX1_subject_14 (by decide +kernel) ?_
    refine g_icmp_eq (tgt := 20) C dX1_subject_15 (by decide) (fun c15 => ?_) (fun c15 => ?_)
    · skip
      exact absurd c15 (nI_nem1 (by omega))
    · skip
      refine g_iconst (v := nI 0) C dX1_subject_18 (by decide +kernel) ?_
      exact g_xzret C rfl (Or.inl rfl) (⟨S, L, rfl, hS, rfl, hL, Or.inl (⟨⟨o, e13⟩, rfl, rfl⟩)⟩) (Nat.le_of_ble_eq_true rfl) (Nat.le_of_ble_eq_true rfl) dX1_subject_19
abbrev rmX1_quota : Room := { frames := 7, cells := 12, slots := 500, locals := 121 }
theorem ydX1_quota : yX1_quota.cls ≠ "java/lang/invoke/MethodHandle" ∧ yX1_quota.cls ≠ "java/lang/invoke/VarHandle" ∧ (parseMethodDescriptor yX1_quota.desc).map (fun d => d.parameters.length) = some 2 := by decide +kernel
theorem iwX1_quota_X1 : ∀ w ∈ u_ws RX1 TX1 8, w ∈ wsX1_quota := fun _ h => (List.mem_cons_of_mem _ (List.mem_append_left _ (List.mem_append_right _ h)))
set_option maxRecDepth 100000 in
set_option maxHeartbeats 4000000 in
theorem k_X1_quota (l : Launch) (D : va_G) (cy : Nat → ClassId) (zs : Nat → Nat) (hst : l.stackTraces = false) (a : Nat → Nat) (lab : Nat → Option Nat) (quo : Nat → Nat) (spe : Nat → Nat) (md : Int32) (ed : Option (Nat × Nat)) (lis : Nat → Nat) (lc : Nat) (see : Nat → Nat → Int32) (cnt : Nat → Nat) (Fs : List FT) (hI : CI lab quo spe ed lis lc cnt Fs)  (p0 : Int32) (p1 : Int32)  : Xi l D cy zs yX1_quota wsX1_quota rmX1_quota [.ref (a 0), .int p0, .int p1] (wC cy a (zs 0) lab quo spe md ed lis lc see cnt Fs) (fun r w => ∃ (L : Nat) (N : Nat), p0 = nI L ∧ L < 1024 ∧ p1 = nI N ∧ N < (1000 + 1) ∧ ((r = nI (quo L) ∧ w = (wC cy a (zs 0) lab (va_up quo L N) spe md ed lis lc see cnt Fs)))) (fun E w => ((!inB p0 1024 || !inB p1 (1000 + 1)) = true ∧ E = "java/lang/IllegalArgumentException" ∧ w = (wC cy a (zs 0) lab quo spe md ed lis lc see cnt Fs))) := by
  refine Xi.of (lv := [(0, .ref (a 0)), (1, .int p0), (2, .int p1)]) RX1 ⟨by decide, rfl⟩ rfl (Nat.le_of_ble_eq_true rfl) rfl ?_
  intro p e s m args below meth c A C hnm hno
  have hlc := hI.lcP
  have hln := hI.lenP
  refine g_iload_n C dX1_quota_0 rfl 1 rfl ?_
  refine g_XSv (st := []) C (k_X1_requireLabel l D cy zs hst (wC cy a (zs 0) lab quo spe md ed lis lc see cnt Fs) p0 ) gX1_quota_X1_requireLabel rfl ydX1_requireLabel ⟨Nat.le_of_ble_eq_true rfl, Nat.le_of_ble_eq_true rfl⟩ ⟨Nat.le_of_ble_eq_true rfl, Nat.le_of_ble_eq_true rfl⟩ rfl (Nat.le_of_ble_eq_true rfl) dX1_quota_1 (fun E1 w1 h1 => ?_) (fun w1 h1 => ?_)
  · skip
    obtain ⟨h1a, h1b, h1c⟩ := h1
    subst h1b
    subst h1c
    exact g_xout C hno (⟨(by simp [h1a]), rfl, rfl⟩) (Nat.le_of_ble_eq_true rfl) (Nat.le_of_ble_eq_true rfl)
  obtain ⟨h1, h1b⟩ := h1
  have h1b := h1b.symm
  subst h1b
  obtain ⟨L, hL, eL⟩ := inB_of (Nat.le_of_ble_eq_true rfl) h1
  subst eL
  refine g_sipush (v := nI 1000) C dX1_quota_4 (by decide +kernel) ?_
  refine g_iload_n C dX1_quota_7 rfl 2 rfl ?_
  refine g_XSv (st := []) C (k_X1_requireAtMost l D cy zs hst (wC cy a (zs 0) lab quo spe md ed lis lc see cnt Fs) 1000 p1 (by omega)) gX1_quota_X1_requireAtMost rfl ydX1_requireAtMost ⟨Nat.le_of_ble_eq_true rfl, Nat.le_of_ble_eq_true rfl⟩ ⟨Nat.le_of_ble_eq_true rfl, Nat.le_of_ble_eq_true rfl⟩ rfl (Nat.le_of_ble_eq_true rfl) dX1_quota_8 (fun E8 w8 h8 => ?_) (fun w8 h8 => ?_)
  · skip
    obtain ⟨h8a, h8b, h8c⟩ := h8
    subst h8b
    subst h8c
    exact g_xout C hno (⟨(by simp [h8a]), rfl, rfl⟩) (Nat.le_of_ble_eq_true rfl) (Nat.le_of_ble_eq_true rfl)
  obtain ⟨h8, h8b⟩ := h8
  have h8b := h8b.symm
  subst h8b
  obtain ⟨N, hN, eN⟩ := inB_of (Nat.le_of_ble_eq_true rfl) h8
  subst eN
  refine g_aload_n C dX1_quota_11 rfl 0 rfl ?_
  refine g_get (ci := 2) (v := .ref (a 2)) C iwX1_quota_X1 0 rfl rfl 1 (by decide) (C.hw (List.mem_cons_of_mem _ (List.mem_append_left _ (List.mem_append_left _ (List.mem_of_getElem? (i := 0) rfl))))) (fun _ h9 => h9) rfl dX1_quota_12 ?_
  refine g_iload_n C dX1_quota_15 rfl 1 rfl ?_
  refine g_ialdN (nn := 1024) (j := L) (f := quo) C 2 rfl (by omega) n31_1024 dX1_quota_16 ?_
  have b16 := hI.quoP L
  refine g_istore_n (lv' := [(3, .int (nI (quo L))), (0, .ref (a 0)), (1, .int (nI L)), (2, .int (nI N))]) C dX1_quota_17 rfl (by decide) rfl ?_
  refine g_aload_n C dX1_quota_18 rfl 1 rfl ?_
  refine g_get (ci := 2) (v := .ref (a 2)) C iwX1_quota_X1 0 rfl rfl 1 (by decide) (C.hw (List.mem_cons_of_mem _ (List.mem_append_left _ (List.mem_append_left _ (List.mem_of_getElem? (i := 0) rfl))))) (fun _ h9 => h9) rfl dX1_quota_19 ?_
  refine g_iload_n C dX1_quota_22 rfl 2 rfl ?_
  refine g_iload_n C dX1_quota_23 rfl 3 rfl ?_
  refine g_iastN (nn := 1024) (j := L) (v := N) (f := quo) (ws' := (wC cy a (zs 0) lab (va_up quo L N) spe md ed lis lc see cnt Fs)) C 2 rfl (by omega) n31_1024 rfl dX1_quota_24 ?_
  have hI24 : CI lab (va_up quo L N) spe ed lis lc cnt Fs := hI.upQuo (by omega)
  refine g_iload_n C dX1_quota_25 rfl 0 rfl ?_
  exact g_xiret C rfl (⟨L, N, rfl, hL, rfl, hN, ⟨rfl, rfl⟩⟩) (Nat.le_of_ble_eq_true rfl) (Nat.le_of_ble_eq_true rfl) dX1_quota_26
abbrev rmX1_list : Room := { frames := 7, cells := 12, slots := 500, locals := 120 }
theorem ydX1_list : yX1_list.cls ≠ "java/lang/invoke/MethodHandle" ∧ yX1_list.cls ≠ "java/lang/invoke/VarHandle" ∧ (parseMethodDescriptor yX1_list.desc).map (fun d => d.parameters.length) = some 4 := by decide +kernel
theorem iwX1_list_X1 : ∀ w ∈ u_ws RX1 TX1 8, w ∈ wsX1_list := fun _ h => (List.mem_cons_of_mem _ (List.mem_append_left _ (List.mem_append_left _ (List.mem_append_right _ h))))
set_option maxRecDepth 100000 in
set_option maxHeartbeats 4000000 in
theorem k_X1_list (l : Launch) (D : va_G) (cy : Nat → ClassId) (zs : Nat → Nat) (hst : l.stackTraces = false) (a : Nat → Nat) (lab : Nat → Option Nat) (quo : Nat → Nat) (spe : Nat → Nat) (md : Int32) (ed : Option (Nat × Nat)) (lis : Nat → Nat) (lc : Nat) (see : Nat → Nat → Int32) (cnt : Nat → Nat) (Fs : List FT) (hI : CI lab quo spe ed lis lc cnt Fs)  (p0 : Int32) (p1 : Int32) (p2 : Int32) (on : Bool)  : Xi l D cy zs yX1_list wsX1_list rmX1_list [.ref (a 0), .int p0, .int p1, .int p2, .int (bI on)] (wC cy a (zs 0) lab quo spe md ed lis lc see cnt Fs) (fun r w => ∃ (S : Nat) (f : Nat) (t : Nat), p0 = nI S ∧ S < 16 ∧ p1 = nI f ∧ f < 1024 ∧ p2 = nI t ∧ t < 1024 ∧ ¬ f = t ∧ ((on = true ∧ isC lis lc (((((S * 1024) + f) * 1024) + t)) = true ∧ r = nI 1 ∧ w = (wC cy a (zs 0) lab quo spe md ed lis lc see cnt Fs)) ∨ (on = false ∧ r = bI (isC lis lc (((((S * 1024) + f) * 1024) + t))) ∧ ∃ lis1 n0, drI lis1 lis (((((S * 1024) + f) * 1024) + t)) n0 lc ∧ w = (wC cy a (zs 0) lab quo spe md ed lis1 n0 see cnt Fs)) ∨ (on = true ∧ isC lis lc (((((S * 1024) + f) * 1024) + t)) = false ∧ lc < 32 ∧ r = nI 0 ∧ w = (wC cy a (zs 0) lab quo spe md ed (va_up lis lc (((((S * 1024) + f) * 1024) + t))) (lc + 1) see cnt Fs)))) (fun E w => ((!inB p0 16 || !inB p1 1024 || !inB p2 1024 || decide (p1 = p2)) = true ∧ E = "java/lang/IllegalArgumentException" ∧ w = (wC cy a (zs 0) lab quo spe md ed lis lc see cnt Fs)) ∨ (E = "java/lang/UnsupportedOperationException" ∧ w = (wC cy a (zs 0) lab quo spe md ed lis lc see cnt Fs) ∧ ∃ (S : Nat) (f : Nat) (t : Nat), p0 = nI S ∧ S < 16 ∧ p1 = nI f ∧ f < 1024 ∧ p2 = nI t ∧ t < 1024 ∧ ¬ f = t ∧ (on = true ∧ isC lis lc (((((S * 1024) + f) * 1024) + t)) = false ∧ 32 ≤ lc))) := by
  refine Xi.of (lv := [(0, .ref (a 0)), (1, .int p0), (2, .int p1), (3, .int p2), (4, .int (bI on))]) RX1 ⟨by decide, rfl⟩ rfl (Nat.le_of_ble_eq_true rfl) rfl ?_
  intro p e s m args below meth c A C hnm hno
  have hlc := hI.lcP
  have hln := hI.lenP
  refine g_iload_n C dX1_list_0 rfl 1 rfl ?_
  refine g_XSv (st := []) C (k_X1_requireSubject l D cy zs hst (wC cy a (zs 0) lab quo spe md ed lis lc see cnt Fs) p0 ) gX1_list_X1_requireSubject rfl ydX1_requireSubject ⟨Nat.le_of_ble_eq_true rfl, Nat.le_of_ble_eq_true rfl⟩ ⟨Nat.le_of_ble_eq_true rfl, Nat.le_of_ble_eq_true rfl⟩ rfl (Nat.le_of_ble_eq_true rfl) dX1_list_1 (fun E1 w1 h1 => ?_) (fun w1 h1 => ?_)
  · skip
    obtain ⟨h1a, h1b, h1c⟩ := h1
    subst h1b
    subst h1c
    exact g_xout C hno (Or.inl ⟨(by simp [h1a]), rfl, rfl⟩) (Nat.le_of_ble_eq_true rfl) (Nat.le_of_ble_eq_true rfl)
  obtain ⟨h1, h1b⟩ := h1
  have h1b := h1b.symm
  subst h1b
  obtain ⟨S, hS, eS⟩ := inB_of (Nat.le_of_ble_eq_true rfl) h1
  subst eS
  refine g_iload_n C dX1_list_4 rfl 2 rfl ?_
  refine g_XSv (st := []) C (k_X1_requireLabel l D cy zs hst (wC cy a (zs 0) lab quo spe md ed lis lc see cnt Fs) p1 ) gX1_list_X1_requireLabel rfl ydX1_requireLabel ⟨Nat.le_of_ble_eq_true rfl, Nat.le_of_ble_eq_true rfl⟩ ⟨Nat.le_of_ble_eq_true rfl, Nat.le_of_ble_eq_true rfl⟩ rfl (Nat.le_of_ble_eq_true rfl) dX1_list_5 (fun E5 w5 h5 => ?_) (fun w5 h5 => ?_)
  · skip
    obtain ⟨h5a, h5b, h5c⟩ := h5
    subst h5b
    subst h5c
    exact g_xout C hno (Or.inl ⟨(by simp [h5a]), rfl, rfl⟩) (Nat.le_of_ble_eq_true rfl) (Nat.le_of_ble_eq_true rfl)
  obtain ⟨h5, h5b⟩ := h5
  have h5b := h5b.symm
  subst h5b
  obtain ⟨f, hf, ef⟩ := inB_of (Nat.le_of_ble_eq_true rfl) h5
  subst ef
  refine g_iload_n C dX1_list_8 rfl 3 rfl ?_
  refine g_XSv (st := []) C (k_X1_requireLabel l D cy zs hst (wC cy a (zs 0) lab quo spe md ed lis lc see cnt Fs) p2 ) gX1_list_X1_requireLabel rfl ydX1_requireLabel ⟨Nat.le_of_ble_eq_true rfl, Nat.le_of_ble_eq_true rfl⟩ ⟨Nat.le_of_ble_eq_true rfl, Nat.le_of_ble_eq_true rfl⟩ rfl (Nat.le_of_ble_eq_true rfl) dX1_list_9 (fun E9 w9 h9 => ?_) (fun w9 h9 => ?_)
  · skip
    obtain ⟨h9a, h9b, h9c⟩ := h9
    subst h9b
    subst h9c
    exact g_xout C hno (Or.inl ⟨(by simp [h9a]), rfl, rfl⟩) (Nat.le_of_ble_eq_true rfl) (Nat.le_of_ble_eq_true rfl)
  obtain ⟨h9, h9b⟩ := h9
  have h9b := h9b.symm
  subst h9b
  obtain ⟨t, ht, et⟩ := inB_of (Nat.le_of_ble_eq_true rfl) h9
  subst et
  refine g_iload_n C dX1_list_12 rfl 2 rfl ?_
  refine g_iload_n C dX1_list_13 rfl 3 rfl ?_
  refine g_icmp_ne (tgt := 27) C dX1_list_14 (by decide) (fun c14 => ?_) (fun c14 => ?_)
  · skip
    have c14 := c_eq1 (by omega) (by omega) c14
    refine g_iload_n C dX1_list_27 rfl 1 rfl ?_
    refine g_iload_n C dX1_list_28 rfl 2 rfl ?_
    refine g_iload_n C dX1_list_29 rfl 3 rfl ?_
    refine g_Si (st := []) C (k_X1_listingOf l D cy zs (wC cy a (zs 0) lab quo spe md ed lis lc see cnt Fs) S f t ) gX1_list_X1_listingOf rfl ydX1_listingOf ⟨Nat.le_of_ble_eq_true rfl, Nat.le_of_ble_eq_true rfl⟩ ⟨Nat.le_of_ble_eq_true rfl, Nat.le_of_ble_eq_true rfl⟩ rfl (Nat.le_of_ble_eq_true rfl) dX1_list_30 (fun r30 w30 h30 => ?_)
    obtain ⟨h30a, h30b⟩ := h30
    subst h30a
    have h30b := h30b.symm
    subst h30b
    refine g_istore (lv' := [(5, .int (nI ((((S * 1024) + f) * 1024) + t))), (0, .ref (a 0)), (1, .int (nI S)), (2, .int (nI f)), (3, .int (nI t)), (4, .int (bI on))]) C dX1_list_33 (by decide) rfl ?_
    refine g_aload_n C dX1_list_35 rfl 1 rfl ?_
    refine g_iload C dX1_list_36 0 rfl ?_
    refine g_Vi (ci := 2) (st := []) C (k_X1_isListed l D cy zs a lab quo spe md ed lis lc see cnt Fs hI ((((S * 1024) + f) * 1024) + t) (by omega)) gX1_list_X1_isListed rfl ⟨rfl, ydX1_isListed⟩ 0 rfl rfl ⟨Nat.le_of_ble_eq_true rfl, Nat.le_of_ble_eq_true rfl⟩ ⟨Nat.le_of_ble_eq_true rfl, Nat.le_of_ble_eq_true rfl⟩ rfl (Nat.le_of_ble_eq_true rfl) dX1_list_38 (fun r38 w38 h38 => ?_)
    obtain ⟨h38a, h38b⟩ := h38
    subst h38a
    have h38b := h38b.symm
    subst h38b
    refine g_istore (lv' := [(6, .int (bI (isC lis lc ((((S * 1024) + f) * 1024) + t)))), (5, .int (nI ((((S * 1024) + f) * 1024) + t))), (0, .ref (a 0)), (1, .int (nI S)), (2, .int (nI f)), (3, .int (nI t)), (4, .int (bI on))]) C dX1_list_41 (by decide) rfl ?_
    refine g_iload C dX1_list_43 6 rfl ?_
    refine g_if_eq (tgt := 78) C dX1_list_45 (by decide) (fun c45 => ?_) (fun c45 => ?_)
    · skip
      have c45 := cb_eq0 c45
      refine g_iload C dX1_list_78 6 rfl ?_
      refine g_if_ne (tgt := 89) C dX1_list_80 (by decide) (fun c80 => ?_) (fun c80 => ?_)
      · skip
        cases c45.symm.trans (cb_eq1 c80)
      · skip
        have c80 := cb_eq0 c80
        refine g_aload_n C dX1_list_83 rfl 2 rfl ?_
        refine g_iload C dX1_list_84 1 rfl ?_
        refine g_Vv (ci := 2) (st := []) C (k_X1_dropListing l D cy zs a lab quo spe md ed lis lc see cnt Fs hI ((((S * 1024) + f) * 1024) + t) (by omega)) gX1_list_X1_dropListing rfl ⟨rfl, ydX1_dropListing⟩ 0 rfl rfl ⟨Nat.le_of_ble_eq_true rfl, Nat.le_of_ble_eq_true rfl⟩ ⟨Nat.le_of_ble_eq_true rfl, Nat.le_of_ble_eq_true rfl⟩ rfl (Nat.le_of_ble_eq_true rfl) dX1_list_86 (fun w86 h86 => ?_)
        obtain ⟨lis1, n0, hdr, h86⟩ := h86
        subst h86
        refine g_iload C dX1_list_89 0 rfl ?_
        exact g_xzret C rfl (bI_01 (isC lis lc ((((S * 1024) + f) * 1024) + t))) (⟨S, f, t, rfl, hS, rfl, hf, rfl, ht, c14, Or.inr (Or.inl (⟨c45, rfl, lis1, n0, hdr, rfl⟩))⟩) (Nat.le_of_ble_eq_true rfl) (Nat.le_of_ble_eq_true rfl) dX1_list_91
    · skip
      have c45 := cb_eq1 c45
      refine g_iload C dX1_list_48 0 rfl ?_
      refine g_if_ne (tgt := 78) C dX1_list_50 (by decide) (fun c50 => ?_) (fun c50 => ?_)
      · skip
        have c50 := cb_eq1 c50
        refine g_iload C dX1_list_78 6 rfl ?_
        refine g_if_ne (tgt := 89) C dX1_list_80 (by decide) (fun c80 => ?_) (fun c80 => ?_)
        · skip
          have c80 := cb_eq1 c80
          refine g_iload C dX1_list_89 0 rfl ?_
          exact g_xzret C rfl (bI_01 (isC lis lc ((((S * 1024) + f) * 1024) + t))) (⟨S, f, t, rfl, hS, rfl, hf, rfl, ht, c14, Or.inl (⟨c45, c50, by rw [c50]; rfl, rfl⟩)⟩) (Nat.le_of_ble_eq_true rfl) (Nat.le_of_ble_eq_true rfl) dX1_list_91
        · skip
          cases c45.symm.trans (cb_eq0 c80)
      · skip
        have c50 := cb_eq0 c50
        refine g_aload_n C dX1_list_53 rfl 2 rfl ?_
        refine g_get (ci := 2) (v := .int (nI lc)) C iwX1_list_X1 0 rfl rfl 5 (by decide) (C.hw (List.mem_cons_of_mem _ (List.mem_append_left _ (List.mem_append_left _ (List.mem_append_left _ (List.mem_append_left _ (List.mem_of_getElem? (i := 4) rfl))))))) (fun _ h9 => h9) rfl dX1_list_54 ?_
        refine g_bipush (v := nI 32) C dX1_list_57 (by decide +kernel) ?_
        refine g_icmp_lt (tgt := 72) C dX1_list_59 (by decide) (fun c59 => ?_) (fun c59 => ?_)
        · skip
          have c59 := c_lt0 (by omega) (by omega) c59
          refine g_aload_n C dX1_list_72 rfl 2 rfl ?_
          refine g_iload C dX1_list_73 1 rfl ?_
          refine g_Vv (ci := 2) (st := []) C (k_X1_addListing l D cy zs a lab quo spe md ed lis lc see cnt Fs hI ((((S * 1024) + f) * 1024) + t) (by omega) (by omega)) gX1_list_X1_addListing rfl ⟨rfl, ydX1_addListing⟩ 0 rfl rfl ⟨Nat.le_of_ble_eq_true rfl, Nat.le_of_ble_eq_true rfl⟩ ⟨Nat.le_of_ble_eq_true rfl, Nat.le_of_ble_eq_true rfl⟩ rfl (Nat.le_of_ble_eq_true rfl) dX1_list_75 (fun w75 h75 => ?_)
          subst h75
          have hI75 : CI lab quo spe ed (va_up lis lc ((((S * 1024) + f) * 1024) + t)) (lc + 1) cnt Fs := hI.upLis (by omega) (va_up_lt (fun i9 => hI.lisP i9) (by omega))
          refine g_iload C dX1_list_78 6 rfl ?_
          refine g_if_ne (tgt := 89) C dX1_list_80 (by decide) (fun c80 => ?_) (fun c80 => ?_)
          · skip
            have c80 := cb_eq1 c80
            refine g_iload C dX1_list_89 0 rfl ?_
            exact g_xzret C rfl (bI_01 (isC lis lc ((((S * 1024) + f) * 1024) + t))) (⟨S, f, t, rfl, hS, rfl, hf, rfl, ht, c14, Or.inr (Or.inr (⟨c45, c50, c59, by rw [c50]; rfl, rfl⟩))⟩) (Nat.le_of_ble_eq_true rfl) (Nat.le_of_ble_eq_true rfl) dX1_list_91
          · skip
            cases c45.symm.trans (cb_eq0 c80)
        · skip
          have c59 := c_lt1 (by omega) (by omega) c59
          exact g_throwU C rfl hst 1 (by decide) hno (C.hw (List.mem_cons_of_mem _ (List.mem_append_left _ (List.mem_append_left _ (List.mem_append_left _ (List.mem_append_left _ (List.mem_of_getElem? (i := 2) rfl))))))) (C.hw (List.mem_cons_of_mem _ (List.mem_append_left _ (List.mem_append_left _ (List.mem_append_left _ (List.mem_append_left _ (List.mem_of_getElem? (i := 3) rfl))))))) (fun _ h9 => (List.mem_cons_of_mem _ (List.mem_append_right _ h9))) dX1_list_62 dX1_list_65 dX1_list_66 dX1_list_68 dX1_list_71 (Nat.le_of_ble_eq_true rfl) (Nat.le_of_ble_eq_true rfl) (Nat.le_of_ble_eq_true rfl) (Nat.le_of_ble_eq_true rfl) (Or.inr ⟨rfl, rfl, S, f, t, rfl, hS, rfl, hf, rfl, ht, c14, c45, c50, c59⟩) (Nat.le_of_ble_eq_true rfl) (Nat.le_of_ble_eq_true rfl)
  · skip
    have c14 := c_eq0 (by omega) (by omega) c14
    exact g_throwI C rfl hst 0 (by decide) hno (C.hw (List.mem_cons_of_mem _ (List.mem_append_left _ (List.mem_append_left _ (List.mem_append_left _ (List.mem_append_left _ (List.mem_of_getElem? (i := 0) rfl))))))) (C.hw (List.mem_cons_of_mem _ (List.mem_append_left _ (List.mem_append_left _ (List.mem_append_left _ (List.mem_append_left _ (List.mem_of_getElem? (i := 1) rfl))))))) (fun _ h9 => (List.mem_cons_of_mem _ (List.mem_append_left _ (List.mem_append_right _ h9)))) dX1_list_17 dX1_list_20 dX1_list_21 dX1_list_23 dX1_list_26 (Nat.le_of_ble_eq_true rfl) (Nat.le_of_ble_eq_true rfl) (Nat.le_of_ble_eq_true rfl) (Nat.le_of_ble_eq_true rfl) (Or.inl ⟨(by rw [c14]; simp), rfl, rfl⟩) (Nat.le_of_ble_eq_true rfl) (Nat.le_of_ble_eq_true rfl)
abbrev rmX1_flows : Room := { frames := 7, cells := 12, slots := 500, locals := 120 }
theorem ydX1_flows : yX1_flows.cls ≠ "java/lang/invoke/MethodHandle" ∧ yX1_flows.cls ≠ "java/lang/invoke/VarHandle" ∧ (parseMethodDescriptor yX1_flows.desc).map (fun d => d.parameters.length) = some 2 := by decide +kernel
set_option maxRecDepth 100000 in
set_option maxHeartbeats 4000000 in
theorem k_X1_flows (l : Launch) (D : va_G) (cy : Nat → ClassId) (zs : Nat → Nat) (hst : l.stackTraces = false) (a : Nat → Nat) (lab : Nat → Option Nat) (quo : Nat → Nat) (spe : Nat → Nat) (md : Int32) (ed : Option (Nat × Nat)) (lis : Nat → Nat) (lc : Nat) (see : Nat → Nat → Int32) (cnt : Nat → Nat) (Fs : List FT) (hI : CI lab quo spe ed lis lc cnt Fs)  (p0 : Int32) (p1 : Int32)  : Xi l D cy zs yX1_flows wsX1_flows rmX1_flows [.ref (a 0), .int p0, .int p1] (wC cy a (zs 0) lab quo spe md ed lis lc see cnt Fs) (fun r w => ∃ (L : Nat) (N : Nat), p0 = nI L ∧ L < 1024 ∧ p1 = nI N ∧ N < 1024 ∧ ((r = bI (mayN L N) ∧ w = (wC cy a (zs 0) lab quo spe md ed lis lc see cnt Fs)))) (fun E w => ((!inB p0 1024 || !inB p1 1024) = true ∧ E = "java/lang/IllegalArgumentException" ∧ w = (wC cy a (zs 0) lab quo spe md ed lis lc see cnt Fs))) := by
  refine Xi.of (lv := [(0, .ref (a 0)), (1, .int p0), (2, .int p1)]) RX1 ⟨by decide, rfl⟩ rfl (Nat.le_of_ble_eq_true rfl) rfl ?_
  intro p e s m args below meth c A C hnm hno
  have hlc := hI.lcP
  have hln := hI.lenP
  refine g_iload_n C dX1_flows_0 rfl 1 rfl ?_
  refine g_XSv (st := []) C (k_X1_requireLabel l D cy zs hst (wC cy a (zs 0) lab quo spe md ed lis lc see cnt Fs) p0 ) gX1_flows_X1_requireLabel rfl ydX1_requireLabel ⟨Nat.le_of_ble_eq_true rfl, Nat.le_of_ble_eq_true rfl⟩ ⟨Nat.le_of_ble_eq_true rfl, Nat.le_of_ble_eq_true rfl⟩ rfl (Nat.le_of_ble_eq_true rfl) dX1_flows_1 (fun E1 w1 h1 => ?_) (fun w1 h1 => ?_)
  · skip
    obtain ⟨h1a, h1b, h1c⟩ := h1
    subst h1b
    subst h1c
    exact g_xout C hno (⟨(by simp [h1a]), rfl, rfl⟩) (Nat.le_of_ble_eq_true rfl) (Nat.le_of_ble_eq_true rfl)
  obtain ⟨h1, h1b⟩ := h1
  have h1b := h1b.symm
  subst h1b
  obtain ⟨L, hL, eL⟩ := inB_of (Nat.le_of_ble_eq_true rfl) h1
  subst eL
  refine g_iload_n C dX1_flows_4 rfl 2 rfl ?_
  refine g_XSv (st := []) C (k_X1_requireLabel l D cy zs hst (wC cy a (zs 0) lab quo spe md ed lis lc see cnt Fs) p1 ) gX1_flows_X1_requireLabel rfl ydX1_requireLabel ⟨Nat.le_of_ble_eq_true rfl, Nat.le_of_ble_eq_true rfl⟩ ⟨Nat.le_of_ble_eq_true rfl, Nat.le_of_ble_eq_true rfl⟩ rfl (Nat.le_of_ble_eq_true rfl) dX1_flows_5 (fun E5 w5 h5 => ?_) (fun w5 h5 => ?_)
  · skip
    obtain ⟨h5a, h5b, h5c⟩ := h5
    subst h5b
    subst h5c
    exact g_xout C hno (⟨(by simp [h5a]), rfl, rfl⟩) (Nat.le_of_ble_eq_true rfl) (Nat.le_of_ble_eq_true rfl)
  obtain ⟨h5, h5b⟩ := h5
  have h5b := h5b.symm
  subst h5b
  obtain ⟨N, hN, eN⟩ := inB_of (Nat.le_of_ble_eq_true rfl) h5
  subst eN
  refine g_iload_n C dX1_flows_8 rfl 1 rfl ?_
  refine g_iload_n C dX1_flows_9 rfl 2 rfl ?_
  refine g_Si (st := []) C (k_X1_mayFlow l D cy zs (wC cy a (zs 0) lab quo spe md ed lis lc see cnt Fs) L N (by omega) (by omega)) gX1_flows_X1_mayFlow rfl ydX1_mayFlow ⟨Nat.le_of_ble_eq_true rfl, Nat.le_of_ble_eq_true rfl⟩ ⟨Nat.le_of_ble_eq_true rfl, Nat.le_of_ble_eq_true rfl⟩ rfl (Nat.le_of_ble_eq_true rfl) dX1_flows_10 (fun r10 w10 h10 => ?_)
  obtain ⟨h10a, h10b⟩ := h10
  subst h10a
  have h10b := h10b.symm
  subst h10b
  exact g_xzret C rfl (bI_01 (mayN L N)) (⟨L, N, rfl, hL, rfl, hN, ⟨rfl, rfl⟩⟩) (Nat.le_of_ble_eq_true rfl) (Nat.le_of_ble_eq_true rfl) dX1_flows_13
theorem makeD_nf {lbl : Option Nat} {L : Nat} {fo : Option Nat} {th full : Bool} {nf k : Nat} (h : makeD lbl L fo th full nf = k) (hk : k = 5 ∨ k = 6) (hn : nf ≤ 200) : nf < 200 := by
  unfold makeD at h
  rcases Nat.lt_or_ge nf 200 with g | g
  · exact g
  · have e : nf = 200 := by omega
    subst e
    split at h
    · omega
    · repeat (first | (split at h) | omega)
theorem makeD_room {lbl : Option Nat} {L : Nat} {fo : Option Nat} {th full : Bool} {nf k : Nat} (h : makeD lbl L fo th full nf = k) (hk : k = 6 ∨ k = 7) : full = false := by
  unfold makeD at h
  cases full
  · rfl
  · split at h
    · omega
    · simp only [if_true] at h
      repeat (first | (split at h) | omega)
abbrev rmX1_make : Room := { frames := 9, cells := 12, slots := 500, locals := 243 }
theorem ydX1_make : yX1_make.cls ≠ "java/lang/invoke/MethodHandle" ∧ yX1_make.cls ≠ "java/lang/invoke/VarHandle" ∧ (parseMethodDescriptor yX1_make.desc).map (fun d => d.parameters.length) = some 4 := by decide +kernel
theorem iwX1_make_X1 : ∀ w ∈ u_ws RX1 TX1 8, w ∈ wsX1_make := fun _ h => (List.mem_cons_of_mem _ (List.mem_append_left _ (List.mem_append_left _ (List.mem_append_left _ (List.mem_append_left _ (List.mem_append_right _ h))))))
theorem iwX1_make_X0 : ∀ w ∈ u_ws RX0 TX0 6, w ∈ wsX1_make := fun _ h => (List.mem_cons_of_mem _ (List.mem_append_left _ (List.mem_append_left _ (List.mem_append_left _ (List.mem_append_right _ h)))))
set_option maxRecDepth 100000 in
set_option maxHeartbeats 4000000 in
theorem k_X1_make (l : Launch) (D : va_G) (cy : Nat → ClassId) (zs : Nat → Nat) (hst : l.stackTraces = false) (a : Nat → Nat) (lab : Nat → Option Nat) (quo : Nat → Nat) (spe : Nat → Nat) (md : Int32) (ed : Option (Nat × Nat)) (lis : Nat → Nat) (lc : Nat) (see : Nat → Nat → Int32) (cnt : Nat → Nat) (Fs : List FT) (hI : CI lab quo spe ed lis lc cnt Fs)  (p0 : Int32) (p1 : Int32) (p2 : Int32) (p3 : Int32)  : Xi l D cy zs yX1_make wsX1_make rmX1_make [.ref (a 0), .int p0, .int p1, .int p2, .int p3] (wC cy a (zs 0) lab quo spe md ed lis lc see cnt Fs) (fun r w => ∃ (S : Nat) (L : Nat) (q : Nat) (fo : Option Nat), p0 = nI S ∧ S < 16 ∧ p1 = nI L ∧ L < 1024 ∧ p2 = nI q ∧ q < 16 ∧ p3 = fI fo ∧ (∀ x, fo = some x → x < 16384) ∧ ((makeD (lab S) L fo (plF Fs (16 * L + q)).isSome (!(decide ((usF spe Fs ((lab S).getD 0)) + 1 ≤ quo ((lab S).getD 0)))) Fs.length = 0 ∧ r = -1 ∧ w = (wC cy a (zs 0) lab quo spe md ed lis lc see (va_up cnt S 0) Fs)) ∨ (makeD (lab S) L fo (plF Fs (16 * L + q)).isSome (!(decide ((usF spe Fs ((lab S).getD 0)) + 1 ≤ quo ((lab S).getD 0)))) Fs.length = 1 ∧ r = -2 ∧ w = (wC cy a (zs 0) lab quo spe md ed lis lc see (va_up cnt S 0) Fs)) ∨ (makeD (lab S) L fo (plF Fs (16 * L + q)).isSome (!(decide ((usF spe Fs ((lab S).getD 0)) + 1 ≤ quo ((lab S).getD 0)))) Fs.length = 2 ∧ r = nI 0 ∧ w = (wC cy a (zs 0) lab quo spe md ed lis lc see (va_up cnt S 0) Fs)) ∨ (makeD (lab S) L fo (plF Fs (16 * L + q)).isSome (!(decide ((usF spe Fs ((lab S).getD 0)) + 1 ≤ quo ((lab S).getD 0)))) Fs.length = 3 ∧ r = -3 ∧ w = (wC cy a (zs 0) lab quo spe md ed lis lc see (va_up cnt S 0) Fs)) ∨ (makeD (lab S) L fo (plF Fs (16 * L + q)).isSome (!(decide ((usF spe Fs ((lab S).getD 0)) + 1 ≤ quo ((lab S).getD 0)))) Fs.length = 5 ∧ r = nI 1 ∧ ∃ pl ed9 q1 q2, insAt Fs (16 * L + q) pl ∧ edOk ed9 (Fs.length + 1) ∧ w = (wC cy a (zs 0) lab quo spe (md + nI 1) ed9 lis lc see (va_up cnt S 0) (Fs.insertIdx pl (q1, q2, (16 * L + q), (fI fo), (fun _ => 0), 0, false, (fun _ => false))))) ∨ (∃ o, lab S = some o ∧ makeD (lab S) L fo (plF Fs (16 * L + q)).isSome (!(decide ((usF spe Fs ((lab S).getD 0)) + 1 ≤ quo ((lab S).getD 0)))) Fs.length = 6 ∧ r = nI 2 ∧ ∃ pl ed9 q1 q2, insAt Fs (16 * L + q) pl ∧ edOk ed9 (Fs.length + 1) ∧ w = (wC cy a (zs 0) lab quo (va_up spe o (spe o + 1)) (md + nI 1) ed9 lis lc see (va_up cnt S 0) (Fs.insertIdx pl (q1, q2, (16 * L + q), (fI fo), (fun _ => 0), 0, true, (fun _ => false))))) ∨ (∃ o, lab S = some o ∧ makeD (lab S) L fo (plF Fs (16 * L + q)).isSome (!(decide ((usF spe Fs ((lab S).getD 0)) + 1 ≤ quo ((lab S).getD 0)))) Fs.length = 7 ∧ r = nI 2 ∧ w = (wC cy a (zs 0) lab quo (va_up spe o (spe o + 1)) md ed lis lc see (va_up cnt S 0) Fs)))) (fun E w => ((!inB p0 16 || !inB p1 1024 || !inB p2 16 || !inO p3 16384) = true ∧ E = "java/lang/IllegalArgumentException" ∧ w = (wC cy a (zs 0) lab quo spe md ed lis lc see cnt Fs)) ∨ (E = "java/lang/UnsupportedOperationException" ∧ w = (wC cy a (zs 0) lab quo spe md ed lis lc see cnt Fs) ∧ ∃ (S : Nat) (L : Nat) (q : Nat) (fo : Option Nat), p0 = nI S ∧ S < 16 ∧ p1 = nI L ∧ L < 1024 ∧ p2 = nI q ∧ q < 16 ∧ p3 = fI fo ∧ (∀ x, fo = some x → x < 16384) ∧ (makeD (lab S) L fo (plF Fs (16 * L + q)).isSome (!(decide ((usF spe Fs ((lab S).getD 0)) + 1 ≤ quo ((lab S).getD 0)))) Fs.length = 4))) := by
  refine Xi.of (lv := [(0, .ref (a 0)), (1, .int p0), (2, .int p1), (3, .int p2), (4, .int p3)]) RX1 ⟨by decide, rfl⟩ rfl (Nat.le_of_ble_eq_true rfl) rfl ?_
  intro p e s m args below meth c A C hnm hno
  have hlc := hI.lcP
  have hln := hI.lenP
  refine g_iload_n C dX1_make_0 rfl 1 rfl ?_
  refine g_XSv (st := []) C (k_X1_requireSubject l D cy zs hst (wC cy a (zs 0) lab quo spe md ed lis lc see cnt Fs) p0 ) gX1_make_X1_requireSubject rfl ydX1_requireSubject ⟨Nat.le_of_ble_eq_true rfl, Nat.le_of_ble_eq_true rfl⟩ ⟨Nat.le_of_ble_eq_true rfl, Nat.le_of_ble_eq_true rfl⟩ rfl (Nat.le_of_ble_eq_true rfl) dX1_make_1 (fun E1 w1 h1 => ?_) (fun w1 h1 => ?_)
  · skip
    obtain ⟨h1a, h1b, h1c⟩ := h1
    subst h1b
    subst h1c
    exact g_xout C hno (Or.inl ⟨(by simp [h1a]), rfl, rfl⟩) (Nat.le_of_ble_eq_true rfl) (Nat.le_of_ble_eq_true rfl)
  obtain ⟨h1, h1b⟩ := h1
  have h1b := h1b.symm
  subst h1b
  obtain ⟨S, hS, eS⟩ := inB_of (Nat.le_of_ble_eq_true rfl) h1
  subst eS
  refine g_iload_n C dX1_make_4 rfl 2 rfl ?_
  refine g_iload_n C dX1_make_5 rfl 3 rfl ?_
  refine g_XSv (st := []) C (k_X1_requireFile l D cy zs hst (wC cy a (zs 0) lab quo spe md ed lis lc see cnt Fs) p1 p2 ) gX1_make_X1_requireFile rfl ydX1_requireFile ⟨Nat.le_of_ble_eq_true rfl, Nat.le_of_ble_eq_true rfl⟩ ⟨Nat.le_of_ble_eq_true rfl, Nat.le_of_ble_eq_true rfl⟩ rfl (Nat.le_of_ble_eq_true rfl) dX1_make_6 (fun E6 w6 h6 => ?_) (fun w6 h6 => ?_)
  · skip
    obtain ⟨h6a, h6b, h6c⟩ := h6
    subst h6b
    subst h6c
    exact g_xout C hno (Or.inl ⟨(by have h8 := reqF h6a; simp only [Bool.or_eq_true] at h8 ⊢; rcases h8 with h8 | h8 <;> simp [h8]), rfl, rfl⟩) (Nat.le_of_ble_eq_true rfl) (Nat.le_of_ble_eq_true rfl)
  obtain ⟨h6, h6b⟩ := h6
  have h6b := h6b.symm
  subst h6b
  obtain ⟨g6a, g6b⟩ := (Bool.and_eq_true _ _).mp h6
  obtain ⟨L, hL, eL⟩ := inB_of (Nat.le_of_ble_eq_true rfl) g6a
  subst eL
  obtain ⟨q, hq, eq⟩ := inB_of (Nat.le_of_ble_eq_true rfl) g6b
  subst eq
  refine g_iload C dX1_make_9 4 rfl ?_
  refine g_XSv (st := []) C (k_X1_requireFolder l D cy zs hst (wC cy a (zs 0) lab quo spe md ed lis lc see cnt Fs) p3 ) gX1_make_X1_requireFolder rfl ydX1_requireFolder ⟨Nat.le_of_ble_eq_true rfl, Nat.le_of_ble_eq_true rfl⟩ ⟨Nat.le_of_ble_eq_true rfl, Nat.le_of_ble_eq_true rfl⟩ rfl (Nat.le_of_ble_eq_true rfl) dX1_make_11 (fun E11 w11 h11 => ?_) (fun w11 h11 => ?_)
  · skip
    obtain ⟨h11a, h11b, h11c⟩ := h11
    subst h11b
    subst h11c
    exact g_xout C hno (Or.inl ⟨(by simp [h11a]), rfl, rfl⟩) (Nat.le_of_ble_eq_true rfl) (Nat.le_of_ble_eq_true rfl)
  obtain ⟨h11, h11b⟩ := h11
  have h11b := h11b.symm
  subst h11b
  obtain ⟨fo, efo, hfo⟩ := inO_of (Nat.le_of_ble_eq_true rfl) h11
  subst efo
  refine g_aload_n C dX1_make_14 rfl 0 rfl ?_
  refine g_iload_n C dX1_make_15 rfl 1 rfl ?_
  refine g_iload_n C dX1_make_16 rfl 2 rfl ?_
  refine g_iload_n C dX1_make_17 rfl 3 rfl ?_
  refine g_iload C dX1_make_18 4 rfl ?_
  refine g_Vi (ci := 2) (st := []) C (k_X1_answerMake l D cy zs a lab quo spe md ed lis lc see cnt Fs hI S L q fo hS hL hq hfo) gX1_make_X1_answerMake rfl ⟨rfl, ydX1_answerMake⟩ 0 rfl rfl ⟨Nat.le_of_ble_eq_true rfl, Nat.le_of_ble_eq_true rfl⟩ ⟨Nat.le_of_ble_eq_true rfl, Nat.le_of_ble_eq_true rfl⟩ rfl (Nat.le_of_ble_eq_true rfl) dX1_make_20 (fun r20 w20 h20 => ?_)
  rcases h20 with h20 | h20 | h20 | h20 | h20 | h20 | h20 | h20
  · skip
    obtain ⟨hd9, hrA, hwA⟩ := h20
    subst hrA hwA
    refine g_istore (lv' := [(5, .int (-1)), (0, .ref (a 0)), (1, .int (nI S)), (2, .int (nI L)), (3, .int (nI q)), (4, .int (fI fo))]) C dX1_make_23 (by decide) rfl ?_
    refine g_iload C dX1_make_25 0 rfl ?_
    refine g_bipush (v := (-4)) C dX1_make_27 (by decide +kernel) ?_
    refine g_icmp_ne (tgt := 42) C dX1_make_29 (by decide) (fun c29 => ?_) (fun c29 => ?_)
    · skip
      refine g_aload_n C dX1_make_42 rfl 1 rfl ?_
      refine g_iload_n C dX1_make_43 rfl 2 rfl ?_
      refine g_Vv (ci := 2) (st := []) C (k_X1_forgetSeen l D cy zs a lab quo spe md ed lis lc see cnt Fs hI S (by omega)) gX1_make_X1_forgetSeen rfl ⟨rfl, ydX1_forgetSeen⟩ 0 rfl rfl ⟨Nat.le_of_ble_eq_true rfl, Nat.le_of_ble_eq_true rfl⟩ ⟨Nat.le_of_ble_eq_true rfl, Nat.le_of_ble_eq_true rfl⟩ rfl (Nat.le_of_ble_eq_true rfl) dX1_make_44 (fun w44 h44 => ?_)
      subst h44
      have hI44 : CI lab quo spe ed lis lc (va_up cnt S 0) Fs := hI.upCnt (by omega)
      refine g_iload C dX1_make_47 0 rfl ?_
      exact g_xiret C rfl (⟨S, L, q, fo, rfl, hS, rfl, hL, rfl, hq, rfl, hfo, Or.inl (⟨hd9, rfl, rfl⟩)⟩) (Nat.le_of_ble_eq_true rfl) (Nat.le_of_ble_eq_true rfl) dX1_make_49
    · skip
      exact absurd c29 (by decide +kernel)
  · skip
    obtain ⟨hd9, hrA, hwA⟩ := h20
    subst hrA hwA
    refine g_istore (lv' := [(5, .int (-2)), (0, .ref (a 0)), (1, .int (nI S)), (2, .int (nI L)), (3, .int (nI q)), (4, .int (fI fo))]) C dX1_make_23 (by decide) rfl ?_
    refine g_iload C dX1_make_25 0 rfl ?_
    refine g_bipush (v := (-4)) C dX1_make_27 (by decide +kernel) ?_
    refine g_icmp_ne (tgt := 42) C dX1_make_29 (by decide) (fun c29 => ?_) (fun c29 => ?_)
    · skip
      refine g_aload_n C dX1_make_42 rfl 1 rfl ?_
      refine g_iload_n C dX1_make_43 rfl 2 rfl ?_
      refine g_Vv (ci := 2) (st := []) C (k_X1_forgetSeen l D cy zs a lab quo spe md ed lis lc see cnt Fs hI S (by omega)) gX1_make_X1_forgetSeen rfl ⟨rfl, ydX1_forgetSeen⟩ 0 rfl rfl ⟨Nat.le_of_ble_eq_true rfl, Nat.le_of_ble_eq_true rfl⟩ ⟨Nat.le_of_ble_eq_true rfl, Nat.le_of_ble_eq_true rfl⟩ rfl (Nat.le_of_ble_eq_true rfl) dX1_make_44 (fun w44 h44 => ?_)
      subst h44
      have hI44 : CI lab quo spe ed lis lc (va_up cnt S 0) Fs := hI.upCnt (by omega)
      refine g_iload C dX1_make_47 0 rfl ?_
      exact g_xiret C rfl (⟨S, L, q, fo, rfl, hS, rfl, hL, rfl, hq, rfl, hfo, Or.inr (Or.inl (⟨hd9, rfl, rfl⟩))⟩) (Nat.le_of_ble_eq_true rfl) (Nat.le_of_ble_eq_true rfl) dX1_make_49
    · skip
      exact absurd c29 (by decide +kernel)
  · skip
    obtain ⟨hd9, hrA, hwA⟩ := h20
    subst hrA hwA
    refine g_istore (lv' := [(5, .int (nI 0)), (0, .ref (a 0)), (1, .int (nI S)), (2, .int (nI L)), (3, .int (nI q)), (4, .int (fI fo))]) C dX1_make_23 (by decide) rfl ?_
    refine g_iload C dX1_make_25 0 rfl ?_
    refine g_bipush (v := (-4)) C dX1_make_27 (by decide +kernel) ?_
    refine g_icmp_ne (tgt := 42) C dX1_make_29 (by decide) (fun c29 => ?_) (fun c29 => ?_)
    · skip
      refine g_aload_n C dX1_make_42 rfl 1 rfl ?_
      refine g_iload_n C dX1_make_43 rfl 2 rfl ?_
      refine g_Vv (ci := 2) (st := []) C (k_X1_forgetSeen l D cy zs a lab quo spe md ed lis lc see cnt Fs hI S (by omega)) gX1_make_X1_forgetSeen rfl ⟨rfl, ydX1_forgetSeen⟩ 0 rfl rfl ⟨Nat.le_of_ble_eq_true rfl, Nat.le_of_ble_eq_true rfl⟩ ⟨Nat.le_of_ble_eq_true rfl, Nat.le_of_ble_eq_true rfl⟩ rfl (Nat.le_of_ble_eq_true rfl) dX1_make_44 (fun w44 h44 => ?_)
      subst h44
      have hI44 : CI lab quo spe ed lis lc (va_up cnt S 0) Fs := hI.upCnt (by omega)
      refine g_iload C dX1_make_47 0 rfl ?_
      exact g_xiret C rfl (⟨S, L, q, fo, rfl, hS, rfl, hL, rfl, hq, rfl, hfo, Or.inr (Or.inr (Or.inl (⟨hd9, rfl, rfl⟩)))⟩) (Nat.le_of_ble_eq_true rfl) (Nat.le_of_ble_eq_true rfl) dX1_make_49
    · skip
      exact absurd c29 (by decide +kernel)
  · skip
    obtain ⟨hd9, hrA, hwA⟩ := h20
    subst hrA hwA
    refine g_istore (lv' := [(5, .int (-3)), (0, .ref (a 0)), (1, .int (nI S)), (2, .int (nI L)), (3, .int (nI q)), (4, .int (fI fo))]) C dX1_make_23 (by decide) rfl ?_
    refine g_iload C dX1_make_25 0 rfl ?_
    refine g_bipush (v := (-4)) C dX1_make_27 (by decide +kernel) ?_
    refine g_icmp_ne (tgt := 42) C dX1_make_29 (by decide) (fun c29 => ?_) (fun c29 => ?_)
    · skip
      refine g_aload_n C dX1_make_42 rfl 1 rfl ?_
      refine g_iload_n C dX1_make_43 rfl 2 rfl ?_
      refine g_Vv (ci := 2) (st := []) C (k_X1_forgetSeen l D cy zs a lab quo spe md ed lis lc see cnt Fs hI S (by omega)) gX1_make_X1_forgetSeen rfl ⟨rfl, ydX1_forgetSeen⟩ 0 rfl rfl ⟨Nat.le_of_ble_eq_true rfl, Nat.le_of_ble_eq_true rfl⟩ ⟨Nat.le_of_ble_eq_true rfl, Nat.le_of_ble_eq_true rfl⟩ rfl (Nat.le_of_ble_eq_true rfl) dX1_make_44 (fun w44 h44 => ?_)
      subst h44
      have hI44 : CI lab quo spe ed lis lc (va_up cnt S 0) Fs := hI.upCnt (by omega)
      refine g_iload C dX1_make_47 0 rfl ?_
      exact g_xiret C rfl (⟨S, L, q, fo, rfl, hS, rfl, hL, rfl, hq, rfl, hfo, Or.inr (Or.inr (Or.inr (Or.inl (⟨hd9, rfl, rfl⟩))))⟩) (Nat.le_of_ble_eq_true rfl) (Nat.le_of_ble_eq_true rfl) dX1_make_49
    · skip
      exact absurd c29 (by decide +kernel)
  · skip
    obtain ⟨hd9, hrA, hwA⟩ := h20
    subst hrA hwA
    refine g_istore (lv' := [(5, .int (-4)), (0, .ref (a 0)), (1, .int (nI S)), (2, .int (nI L)), (3, .int (nI q)), (4, .int (fI fo))]) C dX1_make_23 (by decide) rfl ?_
    refine g_iload C dX1_make_25 0 rfl ?_
    refine g_bipush (v := (-4)) C dX1_make_27 (by decide +kernel) ?_
    refine g_icmp_ne (tgt := 42) C dX1_make_29 (by decide) (fun c29 => ?_) (fun c29 => ?_)
    · skip
      exact absurd rfl c29
    · skip
      exact g_throwU C rfl hst 2 (by decide) hno (C.hw (List.mem_cons_of_mem _ (List.mem_append_left _ (List.mem_append_left _ (List.mem_append_left _ (List.mem_append_left _ (List.mem_append_left _ (List.mem_append_left _ (List.mem_of_getElem? (i := 0) rfl))))))))) (C.hw (List.mem_cons_of_mem _ (List.mem_append_left _ (List.mem_append_left _ (List.mem_append_left _ (List.mem_append_left _ (List.mem_append_left _ (List.mem_append_left _ (List.mem_of_getElem? (i := 1) rfl))))))))) (fun _ h9 => (List.mem_cons_of_mem _ (List.mem_append_left _ (List.mem_append_right _ h9)))) dX1_make_32 dX1_make_35 dX1_make_36 dX1_make_38 dX1_make_41 (Nat.le_of_ble_eq_true rfl) (Nat.le_of_ble_eq_true rfl) (Nat.le_of_ble_eq_true rfl) (Nat.le_of_ble_eq_true rfl) (Or.inr ⟨rfl, rfl, S, L, q, fo, rfl, hS, rfl, hL, rfl, hq, rfl, hfo, hd9⟩) (Nat.le_of_ble_eq_true rfl) (Nat.le_of_ble_eq_true rfl)
  · skip
    obtain ⟨hd9, hrA, pl, ed9, q1, q2, hins, hek, hwA⟩ := h20
    subst hrA hwA
    have hn9 := makeD_nf hd9 (by omega) hI.lenP
    have hI9 : CI lab quo spe ed9 lis lc cnt (Fs.insertIdx pl (q1, q2, (16 * L + q), (fI fo), (fun _ => 0), 0, false, (fun _ => false))) := hI.ins hins.1 (hn9) ⟨(show 16 * L + q < 16384 by omega), (by show 0 ≤ 24; omega)⟩ hek
    refine g_istore (lv' := [(5, .int (nI 1)), (0, .ref (a 0)), (1, .int (nI S)), (2, .int (nI L)), (3, .int (nI q)), (4, .int (fI fo))]) C dX1_make_23 (by decide) rfl ?_
    refine g_iload C dX1_make_25 0 rfl ?_
    refine g_bipush (v := (-4)) C dX1_make_27 (by decide +kernel) ?_
    refine g_icmp_ne (tgt := 42) C dX1_make_29 (by decide) (fun c29 => ?_) (fun c29 => ?_)
    · skip
      refine g_aload_n C dX1_make_42 rfl 1 rfl ?_
      refine g_iload_n C dX1_make_43 rfl 2 rfl ?_
      refine g_Vv (ci := 2) (st := []) C (k_X1_forgetSeen l D cy zs a lab quo spe (md + nI 1) ed9 lis lc see cnt (Fs.insertIdx pl (q1, q2, (16 * L + q), (fI fo), (fun _ => 0), 0, false, (fun _ => false))) hI9 S (by omega)) gX1_make_X1_forgetSeen rfl ⟨rfl, ydX1_forgetSeen⟩ 0 rfl rfl ⟨Nat.le_of_ble_eq_true rfl, Nat.le_of_ble_eq_true rfl⟩ ⟨Nat.le_of_ble_eq_true rfl, Nat.le_of_ble_eq_true rfl⟩ rfl (Nat.le_of_ble_eq_true rfl) dX1_make_44 (fun w44 h44 => ?_)
      subst h44
      have hI44 : CI lab quo spe ed9 lis lc (va_up cnt S 0) (Fs.insertIdx pl (q1, q2, (16 * L + q), (fI fo), (fun _ => 0), 0, false, (fun _ => false))) := hI9.upCnt (by omega)
      refine g_iload C dX1_make_47 0 rfl ?_
      exact g_xiret C rfl (⟨S, L, q, fo, rfl, hS, rfl, hL, rfl, hq, rfl, hfo, Or.inr (Or.inr (Or.inr (Or.inr (Or.inl (⟨hd9, rfl, pl, ed9, q1, q2, hins, hek, rfl⟩)))))⟩) (Nat.le_of_ble_eq_true rfl) (Nat.le_of_ble_eq_true rfl) dX1_make_49
    · skip
      exact absurd c29 (by decide +kernel)
  · skip
    obtain ⟨o, ho9, hd9, hrA, pl, ed9, q1, q2, hins, hek, hwA⟩ := h20
    subst hrA hwA
    have hn9 := makeD_nf hd9 (by omega) hI.lenP
    have hI8 : CI lab quo spe ed9 lis lc cnt (Fs.insertIdx pl (q1, q2, (16 * L + q), (fI fo), (fun _ => 0), 0, true, (fun _ => false))) := hI.ins hins.1 (by omega) ⟨(show 16 * L + q < 16384 by omega), (by show 0 ≤ 24; omega)⟩ hek
    have hr9 := makeD_room hd9 (by omega)
    rw [ho9, Option.getD_some, Bool.not_eq_false'] at hr9
    have hr8 := of_decide_eq_true hr9
    have hu := hI.usP o
    have hqo := hI.quoP o
    have hI9 : CI lab quo (va_up spe o (spe o + 1)) ed9 lis lc cnt (Fs.insertIdx pl (q1, q2, (16 * L + q), (fI fo), (fun _ => 0), 0, true, (fun _ => false))) := hI8.upSpe (by omega)
    refine g_istore (lv' := [(5, .int (nI 2)), (0, .ref (a 0)), (1, .int (nI S)), (2, .int (nI L)), (3, .int (nI q)), (4, .int (fI fo))]) C dX1_make_23 (by decide) rfl ?_
    refine g_iload C dX1_make_25 0 rfl ?_
    refine g_bipush (v := (-4)) C dX1_make_27 (by decide +kernel) ?_
    refine g_icmp_ne (tgt := 42) C dX1_make_29 (by decide) (fun c29 => ?_) (fun c29 => ?_)
    · skip
      refine g_aload_n C dX1_make_42 rfl 1 rfl ?_
      refine g_iload_n C dX1_make_43 rfl 2 rfl ?_
      refine g_Vv (ci := 2) (st := []) C (k_X1_forgetSeen l D cy zs a lab quo (va_up spe o (spe o + 1)) (md + nI 1) ed9 lis lc see cnt (Fs.insertIdx pl (q1, q2, (16 * L + q), (fI fo), (fun _ => 0), 0, true, (fun _ => false))) hI9 S (by omega)) gX1_make_X1_forgetSeen rfl ⟨rfl, ydX1_forgetSeen⟩ 0 rfl rfl ⟨Nat.le_of_ble_eq_true rfl, Nat.le_of_ble_eq_true rfl⟩ ⟨Nat.le_of_ble_eq_true rfl, Nat.le_of_ble_eq_true rfl⟩ rfl (Nat.le_of_ble_eq_true rfl) dX1_make_44 (fun w44 h44 => ?_)
      subst h44
      have hI44 : CI lab quo (va_up spe o (spe o + 1)) ed9 lis lc (va_up cnt S 0) (Fs.insertIdx pl (q1, q2, (16 * L + q), (fI fo), (fun _ => 0), 0, true, (fun _ => false))) := hI9.upCnt (by omega)
      refine g_iload C dX1_make_47 0 rfl ?_
      exact g_xiret C rfl (⟨S, L, q, fo, rfl, hS, rfl, hL, rfl, hq, rfl, hfo, Or.inr (Or.inr (Or.inr (Or.inr (Or.inr (Or.inl (⟨o, ho9, hd9, rfl, pl, ed9, q1, q2, hins, hek, rfl⟩))))))⟩) (Nat.le_of_ble_eq_true rfl) (Nat.le_of_ble_eq_true rfl) dX1_make_49
    · skip
      exact absurd c29 (by decide +kernel)
  · skip
    obtain ⟨o, ho9, hd9, hrA, hwA⟩ := h20
    subst hrA hwA
    have hr9 := makeD_room hd9 (by omega)
    rw [ho9, Option.getD_some, Bool.not_eq_false'] at hr9
    have hr8 := of_decide_eq_true hr9
    have hu := hI.usP o
    have hqo := hI.quoP o
    have hI9 : CI lab quo (va_up spe o (spe o + 1)) ed lis lc cnt Fs := hI.upSpe (by omega)
    refine g_istore (lv' := [(5, .int (nI 2)), (0, .ref (a 0)), (1, .int (nI S)), (2, .int (nI L)), (3, .int (nI q)), (4, .int (fI fo))]) C dX1_make_23 (by decide) rfl ?_
    refine g_iload C dX1_make_25 0 rfl ?_
    refine g_bipush (v := (-4)) C dX1_make_27 (by decide +kernel) ?_
    refine g_icmp_ne (tgt := 42) C dX1_make_29 (by decide) (fun c29 => ?_) (fun c29 => ?_)
    · skip
      refine g_aload_n C dX1_make_42 rfl 1 rfl ?_
      refine g_iload_n C dX1_make_43 rfl 2 rfl ?_
      refine g_Vv (ci := 2) (st := []) C (k_X1_forgetSeen l D cy zs a lab quo (va_up spe o (spe o + 1)) md ed lis lc see cnt Fs hI9 S (by omega)) gX1_make_X1_forgetSeen rfl ⟨rfl, ydX1_forgetSeen⟩ 0 rfl rfl ⟨Nat.le_of_ble_eq_true rfl, Nat.le_of_ble_eq_true rfl⟩ ⟨Nat.le_of_ble_eq_true rfl, Nat.le_of_ble_eq_true rfl⟩ rfl (Nat.le_of_ble_eq_true rfl) dX1_make_44 (fun w44 h44 => ?_)
      subst h44
      have hI44 : CI lab quo (va_up spe o (spe o + 1)) ed lis lc (va_up cnt S 0) Fs := hI9.upCnt (by omega)
      refine g_iload C dX1_make_47 0 rfl ?_
      exact g_xiret C rfl (⟨S, L, q, fo, rfl, hS, rfl, hL, rfl, hq, rfl, hfo, Or.inr (Or.inr (Or.inr (Or.inr (Or.inr (Or.inr (⟨o, ho9, hd9, rfl, rfl⟩))))))⟩) (Nat.le_of_ble_eq_true rfl) (Nat.le_of_ble_eq_true rfl) dX1_make_49
    · skip
      exact absurd c29 (by decide +kernel)
