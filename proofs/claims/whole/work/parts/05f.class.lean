theorem inB_y {v : Int32} {N : Nat} (h1 : ¬ v < 0) (h2 : v < nI N) : inB v N = true := by
  unfold inB
  rw [decide_eq_false h1, decide_eq_true h2]
  rfl
theorem inB_n1 {v : Int32} {N : Nat} (h1 : v < 0) : inB v N = false := by
  unfold inB
  rw [decide_eq_true h1]
  rfl
theorem inB_n2 {v : Int32} {N : Nat} (h2 : ¬ v < nI N) : inB v N = false := by
  unfold inB
  rw [decide_eq_false h2, Bool.and_false]
abbrev rmX1_requireSubject : Room := { frames := 6, cells := 1, slots := 6, locals := 100 }
theorem ydX1_requireSubject : yX1_requireSubject.cls ≠ "java/lang/invoke/MethodHandle" ∧ yX1_requireSubject.cls ≠ "java/lang/invoke/VarHandle" ∧ (parseMethodDescriptor yX1_requireSubject.desc).map (fun d => d.parameters.length) = some 1 := by decide +kernel
set_option maxRecDepth 100000 in
set_option maxHeartbeats 4000000 in
theorem k_X1_requireSubject (l : Launch) (D : va_G) (cy : Nat → ClassId) (zs : Nat → Nat) (hst : l.stackTraces = false) (ws : va_W)  (v : Int32)  : Xv l D cy zs yX1_requireSubject wsX1_requireSubject rmX1_requireSubject [.int v] ws (fun w => inB v 16 = true ∧ w = ws) (fun E w => inB v 16 = false ∧ E = "java/lang/IllegalArgumentException" ∧ w = ws) := by
  refine Xv.of (lv := [(0, .int v)]) RX1 ⟨by decide, rfl⟩ rfl (Nat.le_of_ble_eq_true rfl) rfl ?_
  intro p e s m args below meth c A C hnm hno
  refine g_iload_n C dX1_requireSubject_0 rfl 0 rfl ?_
  refine g_if_lt (tgt := 10) C dX1_requireSubject_1 (by decide) (fun c1 => ?_) (fun c1 => ?_)
  · skip
    exact g_throwI C rfl hst 4 (by decide) hno (C.hw (List.mem_cons_of_mem _ (List.mem_append_left _ (List.mem_of_getElem? (i := 0) rfl)))) (C.hw (List.mem_cons_of_mem _ (List.mem_append_left _ (List.mem_of_getElem? (i := 1) rfl)))) (fun _ h9 => (List.mem_cons_of_mem _ (List.mem_append_right _ h9))) dX1_requireSubject_10 dX1_requireSubject_13 dX1_requireSubject_14 dX1_requireSubject_16 dX1_requireSubject_19 (Nat.le_of_ble_eq_true rfl) (Nat.le_of_ble_eq_true rfl) (Nat.le_of_ble_eq_true rfl) (Nat.le_of_ble_eq_true rfl) (⟨inB_n1 c1, rfl, rfl⟩) (Nat.le_of_ble_eq_true rfl) (Nat.le_of_ble_eq_true rfl)
  · skip
    refine g_iload_n C dX1_requireSubject_4 rfl 0 rfl ?_
    refine g_bipush (v := nI 16) C dX1_requireSubject_5 (by decide +kernel) ?_
    refine g_icmp_lt (tgt := 20) C dX1_requireSubject_7 (by decide) (fun c7 => ?_) (fun c7 => ?_)
    · skip
      exact g_xvret C rfl (⟨inB_y c1 c7, rfl⟩) (Nat.le_of_ble_eq_true rfl) (Nat.le_of_ble_eq_true rfl) dX1_requireSubject_20
    · skip
      exact g_throwI C rfl hst 4 (by decide) hno (C.hw (List.mem_cons_of_mem _ (List.mem_append_left _ (List.mem_of_getElem? (i := 0) rfl)))) (C.hw (List.mem_cons_of_mem _ (List.mem_append_left _ (List.mem_of_getElem? (i := 1) rfl)))) (fun _ h9 => (List.mem_cons_of_mem _ (List.mem_append_right _ h9))) dX1_requireSubject_10 dX1_requireSubject_13 dX1_requireSubject_14 dX1_requireSubject_16 dX1_requireSubject_19 (Nat.le_of_ble_eq_true rfl) (Nat.le_of_ble_eq_true rfl) (Nat.le_of_ble_eq_true rfl) (Nat.le_of_ble_eq_true rfl) (⟨inB_n2 c7, rfl, rfl⟩) (Nat.le_of_ble_eq_true rfl) (Nat.le_of_ble_eq_true rfl)
abbrev rmX1_requireLabel : Room := { frames := 6, cells := 1, slots := 6, locals := 100 }
theorem ydX1_requireLabel : yX1_requireLabel.cls ≠ "java/lang/invoke/MethodHandle" ∧ yX1_requireLabel.cls ≠ "java/lang/invoke/VarHandle" ∧ (parseMethodDescriptor yX1_requireLabel.desc).map (fun d => d.parameters.length) = some 1 := by decide +kernel
set_option maxRecDepth 100000 in
set_option maxHeartbeats 4000000 in
theorem k_X1_requireLabel (l : Launch) (D : va_G) (cy : Nat → ClassId) (zs : Nat → Nat) (hst : l.stackTraces = false) (ws : va_W)  (v : Int32)  : Xv l D cy zs yX1_requireLabel wsX1_requireLabel rmX1_requireLabel [.int v] ws (fun w => inB v 1024 = true ∧ w = ws) (fun E w => inB v 1024 = false ∧ E = "java/lang/IllegalArgumentException" ∧ w = ws) := by
  refine Xv.of (lv := [(0, .int v)]) RX1 ⟨by decide, rfl⟩ rfl (Nat.le_of_ble_eq_true rfl) rfl ?_
  intro p e s m args below meth c A C hnm hno
  refine g_iload_n C dX1_requireLabel_0 rfl 0 rfl ?_
  refine g_if_lt (tgt := 11) C dX1_requireLabel_1 (by decide) (fun c1 => ?_) (fun c1 => ?_)
  · skip
    exact g_throwI C rfl hst 5 (by decide) hno (C.hw (List.mem_cons_of_mem _ (List.mem_append_left _ (List.mem_of_getElem? (i := 0) rfl)))) (C.hw (List.mem_cons_of_mem _ (List.mem_append_left _ (List.mem_of_getElem? (i := 1) rfl)))) (fun _ h9 => (List.mem_cons_of_mem _ (List.mem_append_right _ h9))) dX1_requireLabel_11 dX1_requireLabel_14 dX1_requireLabel_15 dX1_requireLabel_17 dX1_requireLabel_20 (Nat.le_of_ble_eq_true rfl) (Nat.le_of_ble_eq_true rfl) (Nat.le_of_ble_eq_true rfl) (Nat.le_of_ble_eq_true rfl) (⟨inB_n1 c1, rfl, rfl⟩) (Nat.le_of_ble_eq_true rfl) (Nat.le_of_ble_eq_true rfl)
  · skip
    refine g_iload_n C dX1_requireLabel_4 rfl 0 rfl ?_
    refine g_sipush (v := nI 1024) C dX1_requireLabel_5 (by decide +kernel) ?_
    refine g_icmp_lt (tgt := 21) C dX1_requireLabel_8 (by decide) (fun c8 => ?_) (fun c8 => ?_)
    · skip
      exact g_xvret C rfl (⟨inB_y c1 c8, rfl⟩) (Nat.le_of_ble_eq_true rfl) (Nat.le_of_ble_eq_true rfl) dX1_requireLabel_21
    · skip
      exact g_throwI C rfl hst 5 (by decide) hno (C.hw (List.mem_cons_of_mem _ (List.mem_append_left _ (List.mem_of_getElem? (i := 0) rfl)))) (C.hw (List.mem_cons_of_mem _ (List.mem_append_left _ (List.mem_of_getElem? (i := 1) rfl)))) (fun _ h9 => (List.mem_cons_of_mem _ (List.mem_append_right _ h9))) dX1_requireLabel_11 dX1_requireLabel_14 dX1_requireLabel_15 dX1_requireLabel_17 dX1_requireLabel_20 (Nat.le_of_ble_eq_true rfl) (Nat.le_of_ble_eq_true rfl) (Nat.le_of_ble_eq_true rfl) (Nat.le_of_ble_eq_true rfl) (⟨inB_n2 c8, rfl, rfl⟩) (Nat.le_of_ble_eq_true rfl) (Nat.le_of_ble_eq_true rfl)
abbrev rmX1_requireNumber : Room := { frames := 6, cells := 1, slots := 6, locals := 100 }
theorem ydX1_requireNumber : yX1_requireNumber.cls ≠ "java/lang/invoke/MethodHandle" ∧ yX1_requireNumber.cls ≠ "java/lang/invoke/VarHandle" ∧ (parseMethodDescriptor yX1_requireNumber.desc).map (fun d => d.parameters.length) = some 1 := by decide +kernel
set_option maxRecDepth 100000 in
set_option maxHeartbeats 4000000 in
theorem k_X1_requireNumber (l : Launch) (D : va_G) (cy : Nat → ClassId) (zs : Nat → Nat) (hst : l.stackTraces = false) (ws : va_W)  (v : Int32)  : Xv l D cy zs yX1_requireNumber wsX1_requireNumber rmX1_requireNumber [.int v] ws (fun w => inB v 16 = true ∧ w = ws) (fun E w => inB v 16 = false ∧ E = "java/lang/IllegalArgumentException" ∧ w = ws) := by
  refine Xv.of (lv := [(0, .int v)]) RX1 ⟨by decide, rfl⟩ rfl (Nat.le_of_ble_eq_true rfl) rfl ?_
  intro p e s m args below meth c A C hnm hno
  refine g_iload_n C dX1_requireNumber_0 rfl 0 rfl ?_
  refine g_if_lt (tgt := 10) C dX1_requireNumber_1 (by decide) (fun c1 => ?_) (fun c1 => ?_)
  · skip
    exact g_throwI C rfl hst 6 (by decide) hno (C.hw (List.mem_cons_of_mem _ (List.mem_append_left _ (List.mem_of_getElem? (i := 0) rfl)))) (C.hw (List.mem_cons_of_mem _ (List.mem_append_left _ (List.mem_of_getElem? (i := 1) rfl)))) (fun _ h9 => (List.mem_cons_of_mem _ (List.mem_append_right _ h9))) dX1_requireNumber_10 dX1_requireNumber_13 dX1_requireNumber_14 dX1_requireNumber_16 dX1_requireNumber_19 (Nat.le_of_ble_eq_true rfl) (Nat.le_of_ble_eq_true rfl) (Nat.le_of_ble_eq_true rfl) (Nat.le_of_ble_eq_true rfl) (⟨inB_n1 c1, rfl, rfl⟩) (Nat.le_of_ble_eq_true rfl) (Nat.le_of_ble_eq_true rfl)
  · skip
    refine g_iload_n C dX1_requireNumber_4 rfl 0 rfl ?_
    refine g_bipush (v := nI 16) C dX1_requireNumber_5 (by decide +kernel) ?_
    refine g_icmp_lt (tgt := 20) C dX1_requireNumber_7 (by decide) (fun c7 => ?_) (fun c7 => ?_)
    · skip
      exact g_xvret C rfl (⟨inB_y c1 c7, rfl⟩) (Nat.le_of_ble_eq_true rfl) (Nat.le_of_ble_eq_true rfl) dX1_requireNumber_20
    · skip
      exact g_throwI C rfl hst 6 (by decide) hno (C.hw (List.mem_cons_of_mem _ (List.mem_append_left _ (List.mem_of_getElem? (i := 0) rfl)))) (C.hw (List.mem_cons_of_mem _ (List.mem_append_left _ (List.mem_of_getElem? (i := 1) rfl)))) (fun _ h9 => (List.mem_cons_of_mem _ (List.mem_append_right _ h9))) dX1_requireNumber_10 dX1_requireNumber_13 dX1_requireNumber_14 dX1_requireNumber_16 dX1_requireNumber_19 (Nat.le_of_ble_eq_true rfl) (Nat.le_of_ble_eq_true rfl) (Nat.le_of_ble_eq_true rfl) (Nat.le_of_ble_eq_true rfl) (⟨inB_n2 c7, rfl, rfl⟩) (Nat.le_of_ble_eq_true rfl) (Nat.le_of_ble_eq_true rfl)
abbrev rmX1_requireCell : Room := { frames := 6, cells := 1, slots := 6, locals := 100 }
theorem ydX1_requireCell : yX1_requireCell.cls ≠ "java/lang/invoke/MethodHandle" ∧ yX1_requireCell.cls ≠ "java/lang/invoke/VarHandle" ∧ (parseMethodDescriptor yX1_requireCell.desc).map (fun d => d.parameters.length) = some 1 := by decide +kernel
set_option maxRecDepth 100000 in
set_option maxHeartbeats 4000000 in
theorem k_X1_requireCell (l : Launch) (D : va_G) (cy : Nat → ClassId) (zs : Nat → Nat) (hst : l.stackTraces = false) (ws : va_W)  (v : Int32)  : Xv l D cy zs yX1_requireCell wsX1_requireCell rmX1_requireCell [.int v] ws (fun w => inB v 24 = true ∧ w = ws) (fun E w => inB v 24 = false ∧ E = "java/lang/IllegalArgumentException" ∧ w = ws) := by
  refine Xv.of (lv := [(0, .int v)]) RX1 ⟨by decide, rfl⟩ rfl (Nat.le_of_ble_eq_true rfl) rfl ?_
  intro p e s m args below meth c A C hnm hno
  refine g_iload_n C dX1_requireCell_0 rfl 0 rfl ?_
  refine g_if_lt (tgt := 10) C dX1_requireCell_1 (by decide) (fun c1 => ?_) (fun c1 => ?_)
  · skip
    exact g_throwI C rfl hst 7 (by decide) hno (C.hw (List.mem_cons_of_mem _ (List.mem_append_left _ (List.mem_of_getElem? (i := 0) rfl)))) (C.hw (List.mem_cons_of_mem _ (List.mem_append_left _ (List.mem_of_getElem? (i := 1) rfl)))) (fun _ h9 => (List.mem_cons_of_mem _ (List.mem_append_right _ h9))) dX1_requireCell_10 dX1_requireCell_13 dX1_requireCell_14 dX1_requireCell_16 dX1_requireCell_19 (Nat.le_of_ble_eq_true rfl) (Nat.le_of_ble_eq_true rfl) (Nat.le_of_ble_eq_true rfl) (Nat.le_of_ble_eq_true rfl) (⟨inB_n1 c1, rfl, rfl⟩) (Nat.le_of_ble_eq_true rfl) (Nat.le_of_ble_eq_true rfl)
  · skip
    refine g_iload_n C dX1_requireCell_4 rfl 0 rfl ?_
    refine g_bipush (v := nI 24) C dX1_requireCell_5 (by decide +kernel) ?_
    refine g_icmp_lt (tgt := 20) C dX1_requireCell_7 (by decide) (fun c7 => ?_) (fun c7 => ?_)
    · skip
      exact g_xvret C rfl (⟨inB_y c1 c7, rfl⟩) (Nat.le_of_ble_eq_true rfl) (Nat.le_of_ble_eq_true rfl) dX1_requireCell_20
    · skip
      exact g_throwI C rfl hst 7 (by decide) hno (C.hw (List.mem_cons_of_mem _ (List.mem_append_left _ (List.mem_of_getElem? (i := 0) rfl)))) (C.hw (List.mem_cons_of_mem _ (List.mem_append_left _ (List.mem_of_getElem? (i := 1) rfl)))) (fun _ h9 => (List.mem_cons_of_mem _ (List.mem_append_right _ h9))) dX1_requireCell_10 dX1_requireCell_13 dX1_requireCell_14 dX1_requireCell_16 dX1_requireCell_19 (Nat.le_of_ble_eq_true rfl) (Nat.le_of_ble_eq_true rfl) (Nat.le_of_ble_eq_true rfl) (Nat.le_of_ble_eq_true rfl) (⟨inB_n2 c7, rfl, rfl⟩) (Nat.le_of_ble_eq_true rfl) (Nat.le_of_ble_eq_true rfl)
theorem inB_le {v : Int32} {N : Nat} (hN : N + 1 < 2 ^ 31) (h1 : ¬ v < 0) (h2 : v ≤ nI N) : inB v (N + 1) = true := by
  obtain ⟨k, hk, rfl⟩ := nI_of h1
  exact inB_nI (by have := (nI_leI hk (by omega)).mp h2; omega) hN
theorem inB_gt {v : Int32} {N : Nat} (hN : N + 1 < 2 ^ 31) (h2 : ¬ v ≤ nI N) : inB v (N + 1) = false := by
  by_cases h1 : v < 0
  · exact inB_n1 h1
  · obtain ⟨k, hk, rfl⟩ := nI_of h1
    exact inB_n2 fun q => h2 ((nI_leI hk (by omega)).mpr (by have := (nI_ltI hk hN).mp q; omega))
def inO (v : Int32) (N : Nat) : Bool := decide (v = -1) || inB v N
theorem inO_1 {v : Int32} {N : Nat} (h : v = -1) : inO v N = true := by
  unfold inO
  rw [decide_eq_true h]
  rfl
theorem inO_2 {v : Int32} {N : Nat} (h : inB v N = true) : inO v N = true := by
  unfold inO
  rw [h, Bool.or_true]
theorem inO_n {v : Int32} {N : Nat} (h : ¬ v = -1) (h2 : inB v N = false) : inO v N = false := by
  unfold inO
  rw [h2, decide_eq_false h]
  rfl
theorem inO_of {v : Int32} {N : Nat} (hN : N < 2 ^ 31) (h : inO v N = true) : ∃ fo : Option Nat, v = fI fo ∧ ∀ x, fo = some x → x < N := by
  unfold inO at h
  by_cases e : v = -1
  · exact ⟨none, e, fun x h9 => by cases h9⟩
  · rw [decide_eq_false e, Bool.false_or] at h
    obtain ⟨k, hk, e2⟩ := inB_of hN h
    exact ⟨some k, e2, fun x h9 => by cases h9; exact hk⟩
abbrev rmX1_requireAtMost : Room := { frames := 6, cells := 1, slots := 6, locals := 100 }
theorem ydX1_requireAtMost : yX1_requireAtMost.cls ≠ "java/lang/invoke/MethodHandle" ∧ yX1_requireAtMost.cls ≠ "java/lang/invoke/VarHandle" ∧ (parseMethodDescriptor yX1_requireAtMost.desc).map (fun d => d.parameters.length) = some 2 := by decide +kernel
set_option maxRecDepth 100000 in
set_option maxHeartbeats 4000000 in
theorem k_X1_requireAtMost (l : Launch) (D : va_G) (cy : Nat → ClassId) (zs : Nat → Nat) (hst : l.stackTraces = false) (ws : va_W)  (m0 : Nat) (v : Int32) (hm : m0 + 1 < 2 ^ 31) : Xv l D cy zs yX1_requireAtMost wsX1_requireAtMost rmX1_requireAtMost [.int (nI m0), .int v] ws (fun w => inB v (m0 + 1) = true ∧ w = ws) (fun E w => inB v (m0 + 1) = false ∧ E = "java/lang/IllegalArgumentException" ∧ w = ws) := by
  refine Xv.of (lv := [(0, .int (nI m0)), (1, .int v)]) RX1 ⟨by decide, rfl⟩ rfl (Nat.le_of_ble_eq_true rfl) rfl ?_
  intro p e s m args below meth c A C hnm hno
  refine g_iload_n C dX1_requireAtMost_0 rfl 1 rfl ?_
  refine g_if_lt (tgt := 9) C dX1_requireAtMost_1 (by decide) (fun c1 => ?_) (fun c1 => ?_)
  · skip
    exact g_throwI C rfl hst 9 (by decide) hno (C.hw (List.mem_cons_of_mem _ (List.mem_append_left _ (List.mem_of_getElem? (i := 0) rfl)))) (C.hw (List.mem_cons_of_mem _ (List.mem_append_left _ (List.mem_of_getElem? (i := 1) rfl)))) (fun _ h9 => (List.mem_cons_of_mem _ (List.mem_append_right _ h9))) dX1_requireAtMost_9 dX1_requireAtMost_12 dX1_requireAtMost_13 dX1_requireAtMost_15 dX1_requireAtMost_18 (Nat.le_of_ble_eq_true rfl) (Nat.le_of_ble_eq_true rfl) (Nat.le_of_ble_eq_true rfl) (Nat.le_of_ble_eq_true rfl) (⟨inB_n1 c1, rfl, rfl⟩) (Nat.le_of_ble_eq_true rfl) (Nat.le_of_ble_eq_true rfl)
  · skip
    refine g_iload_n C dX1_requireAtMost_4 rfl 1 rfl ?_
    refine g_iload_n C dX1_requireAtMost_5 rfl 0 rfl ?_
    refine g_icmp_le (tgt := 19) C dX1_requireAtMost_6 (by decide) (fun c6 => ?_) (fun c6 => ?_)
    · skip
      exact g_xvret C rfl (⟨inB_le hm c1 c6, rfl⟩) (Nat.le_of_ble_eq_true rfl) (Nat.le_of_ble_eq_true rfl) dX1_requireAtMost_19
    · skip
      exact g_throwI C rfl hst 9 (by decide) hno (C.hw (List.mem_cons_of_mem _ (List.mem_append_left _ (List.mem_of_getElem? (i := 0) rfl)))) (C.hw (List.mem_cons_of_mem _ (List.mem_append_left _ (List.mem_of_getElem? (i := 1) rfl)))) (fun _ h9 => (List.mem_cons_of_mem _ (List.mem_append_right _ h9))) dX1_requireAtMost_9 dX1_requireAtMost_12 dX1_requireAtMost_13 dX1_requireAtMost_15 dX1_requireAtMost_18 (Nat.le_of_ble_eq_true rfl) (Nat.le_of_ble_eq_true rfl) (Nat.le_of_ble_eq_true rfl) (Nat.le_of_ble_eq_true rfl) (⟨inB_gt hm c6, rfl, rfl⟩) (Nat.le_of_ble_eq_true rfl) (Nat.le_of_ble_eq_true rfl)
abbrev rmX1_requireFolder : Room := { frames := 6, cells := 1, slots := 6, locals := 100 }
theorem ydX1_requireFolder : yX1_requireFolder.cls ≠ "java/lang/invoke/MethodHandle" ∧ yX1_requireFolder.cls ≠ "java/lang/invoke/VarHandle" ∧ (parseMethodDescriptor yX1_requireFolder.desc).map (fun d => d.parameters.length) = some 1 := by decide +kernel
set_option maxRecDepth 100000 in
set_option maxHeartbeats 4000000 in
theorem k_X1_requireFolder (l : Launch) (D : va_G) (cy : Nat → ClassId) (zs : Nat → Nat) (hst : l.stackTraces = false) (ws : va_W)  (v : Int32)  : Xv l D cy zs yX1_requireFolder wsX1_requireFolder rmX1_requireFolder [.int v] ws (fun w => inO v 16384 = true ∧ w = ws) (fun E w => inO v 16384 = false ∧ E = "java/lang/IllegalArgumentException" ∧ w = ws) := by
  refine Xv.of (lv := [(0, .int v)]) RX1 ⟨by decide, rfl⟩ rfl (Nat.le_of_ble_eq_true rfl) rfl ?_
  intro p e s m args below meth c A C hnm hno
  refine g_iload_n C dX1_requireFolder_0 rfl 0 rfl ?_
  refine g_iconst (v := (-1)) C dX1_requireFolder_1 (by decide +kernel) ?_
  refine g_icmp_eq (tgt := 26) C dX1_requireFolder_2 (by decide) (fun c2 => ?_) (fun c2 => ?_)
  · skip
    exact g_xvret C rfl (⟨inO_1 c2, rfl⟩) (Nat.le_of_ble_eq_true rfl) (Nat.le_of_ble_eq_true rfl) dX1_requireFolder_26
  · skip
    refine g_iload_n C dX1_requireFolder_5 rfl 0 rfl ?_
    refine g_if_lt (tgt := 16) C dX1_requireFolder_6 (by decide) (fun c6 => ?_) (fun c6 => ?_)
    · skip
      exact g_throwI C rfl hst 8 (by decide) hno (C.hw (List.mem_cons_of_mem _ (List.mem_append_left _ (List.mem_of_getElem? (i := 0) rfl)))) (C.hw (List.mem_cons_of_mem _ (List.mem_append_left _ (List.mem_of_getElem? (i := 1) rfl)))) (fun _ h9 => (List.mem_cons_of_mem _ (List.mem_append_right _ h9))) dX1_requireFolder_16 dX1_requireFolder_19 dX1_requireFolder_20 dX1_requireFolder_22 dX1_requireFolder_25 (Nat.le_of_ble_eq_true rfl) (Nat.le_of_ble_eq_true rfl) (Nat.le_of_ble_eq_true rfl) (Nat.le_of_ble_eq_true rfl) (⟨inO_n c2 (inB_n1 c6), rfl, rfl⟩) (Nat.le_of_ble_eq_true rfl) (Nat.le_of_ble_eq_true rfl)
    · skip
      refine g_iload_n C dX1_requireFolder_9 rfl 0 rfl ?_
      refine g_sipush (v := nI 16384) C dX1_requireFolder_10 (by decide +kernel) ?_
      refine g_icmp_lt (tgt := 26) C dX1_requireFolder_13 (by decide) (fun c13 => ?_) (fun c13 => ?_)
      · skip
        exact g_xvret C rfl (⟨inO_2 (inB_y c6 c13), rfl⟩) (Nat.le_of_ble_eq_true rfl) (Nat.le_of_ble_eq_true rfl) dX1_requireFolder_26
      · skip
        exact g_throwI C rfl hst 8 (by decide) hno (C.hw (List.mem_cons_of_mem _ (List.mem_append_left _ (List.mem_of_getElem? (i := 0) rfl)))) (C.hw (List.mem_cons_of_mem _ (List.mem_append_left _ (List.mem_of_getElem? (i := 1) rfl)))) (fun _ h9 => (List.mem_cons_of_mem _ (List.mem_append_right _ h9))) dX1_requireFolder_16 dX1_requireFolder_19 dX1_requireFolder_20 dX1_requireFolder_22 dX1_requireFolder_25 (Nat.le_of_ble_eq_true rfl) (Nat.le_of_ble_eq_true rfl) (Nat.le_of_ble_eq_true rfl) (Nat.le_of_ble_eq_true rfl) (⟨inO_n c2 (inB_n2 c13), rfl, rfl⟩) (Nat.le_of_ble_eq_true rfl) (Nat.le_of_ble_eq_true rfl)
abbrev rmX1_requireFile : Room := { frames := 7, cells := 2, slots := 12, locals := 120 }
theorem ydX1_requireFile : yX1_requireFile.cls ≠ "java/lang/invoke/MethodHandle" ∧ yX1_requireFile.cls ≠ "java/lang/invoke/VarHandle" ∧ (parseMethodDescriptor yX1_requireFile.desc).map (fun d => d.parameters.length) = some 2 := by decide +kernel
set_option maxRecDepth 100000 in
set_option maxHeartbeats 4000000 in
theorem k_X1_requireFile (l : Launch) (D : va_G) (cy : Nat → ClassId) (zs : Nat → Nat) (hst : l.stackTraces = false) (ws : va_W)  (v : Int32) (x : Int32)  : Xv l D cy zs yX1_requireFile wsX1_requireFile rmX1_requireFile [.int v, .int x] ws (fun w => (inB v 1024 && inB x 16) = true ∧ w = ws) (fun E w => (inB v 1024 && inB x 16) = false ∧ E = "java/lang/IllegalArgumentException" ∧ w = ws) := by
  refine Xv.of (lv := [(0, .int v), (1, .int x)]) RX1 ⟨by decide, rfl⟩ rfl (Nat.le_of_ble_eq_true rfl) rfl ?_
  intro p e s m args below meth c A C hnm hno
  refine g_iload_n C dX1_requireFile_0 rfl 0 rfl ?_
  refine g_XSv (st := []) C (k_X1_requireLabel l D cy zs hst ws v ) gX1_requireFile_X1_requireLabel rfl ydX1_requireLabel ⟨Nat.le_of_ble_eq_true rfl, Nat.le_of_ble_eq_true rfl⟩ ⟨Nat.le_of_ble_eq_true rfl, Nat.le_of_ble_eq_true rfl⟩ rfl (Nat.le_of_ble_eq_true rfl) dX1_requireFile_1 (fun E1 w1 h1 => ?_) (fun w1 h1 => ?_)
  · skip
    obtain ⟨h1a, h1b, h1c⟩ := h1
    subst h1b
    have h1c := h1c.symm
    subst h1c
    exact g_xout C hno ⟨(by rw [h1a, Bool.false_and]), rfl, rfl⟩ (Nat.le_of_ble_eq_true rfl) (Nat.le_of_ble_eq_true rfl)
  obtain ⟨h1, h1b⟩ := h1
  have h1b := h1b.symm
  subst h1b
  refine g_iload_n C dX1_requireFile_4 rfl 1 rfl ?_
  refine g_XSv (st := []) C (k_X1_requireNumber l D cy zs hst ws x ) gX1_requireFile_X1_requireNumber rfl ydX1_requireNumber ⟨Nat.le_of_ble_eq_true rfl, Nat.le_of_ble_eq_true rfl⟩ ⟨Nat.le_of_ble_eq_true rfl, Nat.le_of_ble_eq_true rfl⟩ rfl (Nat.le_of_ble_eq_true rfl) dX1_requireFile_5 (fun E5 w5 h5 => ?_) (fun w5 h5 => ?_)
  · skip
    obtain ⟨h5a, h5b, h5c⟩ := h5
    subst h5b
    have h5c := h5c.symm
    subst h5c
    exact g_xout C hno ⟨(by rw [h5a, Bool.and_false]), rfl, rfl⟩ (Nat.le_of_ble_eq_true rfl) (Nat.le_of_ble_eq_true rfl)
  obtain ⟨h5, h5b⟩ := h5
  have h5b := h5b.symm
  subst h5b
  exact g_xvret C rfl (⟨by rw [h1, h5]; rfl, rfl⟩) (Nat.le_of_ble_eq_true rfl) (Nat.le_of_ble_eq_true rfl) dX1_requireFile_8
