section FOPT
variable {p : Program} {l : Launch} {e : Env} {R : Room} {s : State} {m : MethodId} {args : Array Value} {below : List Frame} {meth : Method} {c : Code} {cc : ByteArray} {nL : Nat} {own : String} {Ts : List Cond} {D : va_G} {cy : Nat → ClassId} {zs : Nat → Nat} {A : Nat → Prop} {ret : Option FieldType} {Q : State → Prop} {ws : va_W} {k n : Nat} {lv : List (Nat × Value)} {pc : Nat} {st : List Value}
theorem g_ialdF (C : Cx p s m args meth c cc nL own Ts D cy zs A ret) {a nn j : Nat} {f : Nat → Option Nat} (q0 : Nat) (ha : ws[q0]? = some (a, .inl (cy 0, nn, .inl (fun i => fI (f i))))) (hj : j < nn) (hn : nn < 2 ^ 31) (hdg : decode cc pc = .ok (.iaload, 1)) (K : GG p l e R s m args below meth c D A nL Q ws k n lv (pc + 1) (.int (fI (f j)) :: st)) : GG p l e R s m args below meth c D A nL Q ws k n lv (pc) (.int (nI j) :: .ref a :: st) := g_iald C q0 ha (vp_in_nI hj hn) (by rw [nI_clamp (by omega)]) hdg K
theorem up_fI {f : Nat → Option Nat} {k v : Nat} (hk : k < 2 ^ 31) : upd (fun i => fI (f i)) (nI k).toNatClampNeg (nI v) = fun i => fI (va_up f k (some v) i) := by
  funext i
  rw [nI_clamp hk]
  unfold upd va_up
  split <;> rfl
theorem g_iastF (C : Cx p s m args meth c cc nL own Ts D cy zs A ret) {a nn j v : Nat} {f : Nat → Option Nat} {ws' : va_W} (q0 : Nat) (ha : ws[q0]? = some (a, .inl (cy 0, nn, .inl (fun i => fI (f i))))) (hj : j < nn) (hn : nn < 2 ^ 31) (hw : ws.set q0 (a, .inl (cy 0, nn, .inl (fun i => fI (va_up f j (some v) i)))) = ws') (hdg : decode cc pc = .ok (.iastore, 1)) (K : GG p l e R s m args below meth c D A nL Q ws' k n lv (pc + 1) (st)) : GG p l e R s m args below meth c D A nL Q ws k n lv (pc) (.int (nI v) :: .int (nI j) :: .ref a :: st) := g_iast C q0 ha (vp_in_nI hj hn) (by rw [up_fI (by omega)]; exact hw) hdg K
end FOPT
def wiN (i o : Nat) : Bool := decide (i % 2 ≤ o % 2 ∧ i / 2 % 2 ≤ o / 2 % 2 ∧ i / 4 % 2 ≤ o / 4 % 2 ∧ i / 8 % 2 ≤ o / 8 % 2)
theorem wi_t : ∀ i, i < 16 → ∀ o, o < 16 → nI i &&& (nI o ^^^ (-1)) = 0 → wiN i o = true := by decide +kernel
theorem wi_f : ∀ i, i < 16 → ∀ o, o < 16 → ¬ nI i &&& (nI o ^^^ (-1)) = 0 → wiN i o = false := by decide +kernel
theorem fs_s {Fs : List FT} {k key : Nat} {F : FT} (h : ∀ (j : Nat) (G : FT), j < k → Fs[j]? = some G → ¬ G.2.2.1 = key) (hF : Fs[k]? = some F) (hn : ¬ F.2.2.1 = key) : ∀ (j : Nat) (G : FT), j < k + 1 → Fs[j]? = some G → ¬ G.2.2.1 = key := by
  intro j G hj hG
  by_cases e : j = k
  · subst e
    cases hF.symm.trans hG
    exact hn
  · exact h j G (by omega) hG
theorem fs_e {Fs : List FT} {k key : Nat} (h : ∀ (j : Nat) (G : FT), j < k → Fs[j]? = some G → ¬ G.2.2.1 = key) (hk : Fs.length ≤ k) : plF Fs key = none := plF_none fun j F hF => h j F (Nat.lt_of_lt_of_le (List.getElem?_eq_some_iff.mp hF).1 hk) hF
theorem unF_t {L ob ar ky : Nat} {fo : Int32} {ce : Nat → Int32} {ct : Nat} {gi : Bool} {gv : Nat → Bool} (h : ky / 16 = L) : unF L (ob, ar, ky, fo, ce, ct, gi, gv) = untN gi gv ct := if_pos h
theorem unF_f {L ob ar ky : Nat} {fo : Int32} {ce : Nat → Int32} {ct : Nat} {gi : Bool} {gv : Nat → Bool} (h : ¬ ky / 16 = L) : unF L (ob, ar, ky, fo, ce, ct, gi, gv) = 0 := if_neg h
theorem oneF_t {L ob ar ky : Nat} {fo : Int32} {ce : Nat → Int32} {ct : Nat} {gi : Bool} {gv : Nat → Bool} (h : ky / 16 = L) : oneF L (ob, ar, ky, fo, ce, ct, gi, gv) = 1 := if_pos h
theorem oneF_f {L ob ar ky : Nat} {fo : Int32} {ce : Nat → Int32} {ct : Nat} {gi : Bool} {gv : Nat → Bool} (h : ¬ ky / 16 = L) : oneF L (ob, ar, ky, fo, ce, ct, gi, gv) = 0 := if_neg h
theorem plF_lt {Fs : List FT} {key i : Nat} (h : plF Fs key = some i) : i < Fs.length := by
  obtain ⟨F, hF, -⟩ := plF_spec h
  exact (List.getElem?_eq_some_iff.mp hF).1
theorem nI_as {a b c : Nat} (h : c ≤ a + b) : nI a + (nI b - nI c) = nI (a + b - c) := by
  rw [← pk_sub h, ← nI_add]
  simp only [Int32.sub_eq_add_neg, Int32.add_assoc]
theorem may_eq (x y : Nat) : mayN x y = (((decide (x % 4 ≤ y % 4) && wiN (x / 4 % 16) (y / 4 % 16)) && decide (y / 64 % 4 ≤ x / 64 % 4)) && wiN (y / 256 % 4) (x / 256 % 4)) := by
  have b1 : ∀ z, z / 4 % 16 % 2 = z / 4 % 2 := fun z => by omega
  have b2 : ∀ z, z / 4 % 16 / 2 % 2 = z / 8 % 2 := fun z => by omega
  have b3 : ∀ z, z / 4 % 16 / 4 % 2 = z / 16 % 2 := fun z => by omega
  have b4 : ∀ z, z / 4 % 16 / 8 % 2 = z / 32 % 2 := fun z => by omega
  have w1 : ∀ z, z / 256 % 4 % 2 = z / 256 % 2 := fun z => by omega
  have w2 : ∀ z, z / 256 % 4 / 2 % 2 = z / 512 % 2 := fun z => by omega
  have w3 : ∀ z, z / 256 % 4 / 4 % 2 = 0 := fun z => by omega
  have w4 : ∀ z, z / 256 % 4 / 8 % 2 = 0 := fun z => by omega
  unfold mayN wiN
  rw [b1, b1, b2, b2, b3, b3, b4, b4, w1, w1, w2, w2, w3, w3, w4, w4, Bool.eq_iff_iff]
  simp only [decide_eq_true_eq, Bool.and_eq_true]
  constructor
  · rintro ⟨a1, a2, a3, a4, a5, a6, a7, a8⟩
    exact ⟨⟨⟨a1, a2, a3, a4, a5⟩, a6⟩, a7, a8, Nat.le_refl _, Nat.le_refl _⟩
  · rintro ⟨⟨⟨a1, a2, a3, a4, a5⟩, a6⟩, a7, a8, -, -⟩
    exact ⟨a1, a2, a3, a4, a5, a6, a7, a8⟩
def lookR (lbl : Option Nat) (L : Nat) : Int32 := match lookD lbl L with
  | 0 => -1
  | 1 => -2
  | _ => nI 0
abbrev rmX1_secrecyOf : Room := { frames := 0, cells := 0, slots := 0, locals := 0 }
theorem ydX1_secrecyOf : yX1_secrecyOf.cls ≠ "java/lang/invoke/MethodHandle" ∧ yX1_secrecyOf.cls ≠ "java/lang/invoke/VarHandle" ∧ (parseMethodDescriptor yX1_secrecyOf.desc).map (fun d => d.parameters.length) = some 1 := by decide +kernel
set_option maxRecDepth 100000 in
set_option maxHeartbeats 4000000 in
theorem k_X1_secrecyOf (l : Launch) (D : va_G) (cy : Nat → ClassId) (zs : Nat → Nat) (ws : va_W)  (x : Nat) (hx : x < 2 ^ 31) : Mi l D cy zs yX1_secrecyOf wsX1_secrecyOf rmX1_secrecyOf [.int (nI x)] ws (PQ (nI (x % 4)) ws) := by
  refine Mi.of (lv := [(0, .int (nI x))]) RX1 ⟨by decide, rfl⟩ rfl (Nat.le_of_ble_eq_true rfl) rfl ?_
  intro p e s m args below meth c A C hnm
  refine g_iload_n C dX1_secrecyOf_0 rfl 0 rfl ?_
  refine g_iconst (v := nI 3) C dX1_secrecyOf_1 (by decide +kernel) ?_
  refine g_iand (v := nI (x % 4)) C dX1_secrecyOf_2 (pk_andN (by omega) 2 (by decide +kernel)) ?_
  exact g_iret C rfl (⟨rfl, rfl⟩) (Nat.le_of_ble_eq_true rfl) (Nat.le_of_ble_eq_true rfl) dX1_secrecyOf_3
abbrev rmX1_secretsOf : Room := { frames := 0, cells := 0, slots := 0, locals := 0 }
theorem ydX1_secretsOf : yX1_secretsOf.cls ≠ "java/lang/invoke/MethodHandle" ∧ yX1_secretsOf.cls ≠ "java/lang/invoke/VarHandle" ∧ (parseMethodDescriptor yX1_secretsOf.desc).map (fun d => d.parameters.length) = some 1 := by decide +kernel
set_option maxRecDepth 100000 in
set_option maxHeartbeats 4000000 in
theorem k_X1_secretsOf (l : Launch) (D : va_G) (cy : Nat → ClassId) (zs : Nat → Nat) (ws : va_W)  (x : Nat) (hx : x < 2 ^ 31) : Mi l D cy zs yX1_secretsOf wsX1_secretsOf rmX1_secretsOf [.int (nI x)] ws (PQ (nI (x / 4 % 16)) ws) := by
  refine Mi.of (lv := [(0, .int (nI x))]) RX1 ⟨by decide, rfl⟩ rfl (Nat.le_of_ble_eq_true rfl) rfl ?_
  intro p e s m args below meth c A C hnm
  refine g_iload_n C dX1_secretsOf_0 rfl 0 rfl ?_
  refine g_iconst (v := nI 2) C dX1_secretsOf_1 (by decide +kernel) ?_
  refine g_ishr (v := nI (x / 4)) C dX1_secretsOf_2 (pk_shrN (by omega) _ 2 (by decide +kernel)) ?_
  refine g_bipush (v := nI 15) C dX1_secretsOf_3 (by decide +kernel) ?_
  refine g_iand (v := nI ((x / 4) % 16)) C dX1_secretsOf_5 (pk_andN (by omega) 4 (by decide +kernel)) ?_
  exact g_iret C rfl (⟨rfl, rfl⟩) (Nat.le_of_ble_eq_true rfl) (Nat.le_of_ble_eq_true rfl) dX1_secretsOf_6
abbrev rmX1_trustOf : Room := { frames := 0, cells := 0, slots := 0, locals := 0 }
theorem ydX1_trustOf : yX1_trustOf.cls ≠ "java/lang/invoke/MethodHandle" ∧ yX1_trustOf.cls ≠ "java/lang/invoke/VarHandle" ∧ (parseMethodDescriptor yX1_trustOf.desc).map (fun d => d.parameters.length) = some 1 := by decide +kernel
set_option maxRecDepth 100000 in
set_option maxHeartbeats 4000000 in
theorem k_X1_trustOf (l : Launch) (D : va_G) (cy : Nat → ClassId) (zs : Nat → Nat) (ws : va_W)  (x : Nat) (hx : x < 2 ^ 31) : Mi l D cy zs yX1_trustOf wsX1_trustOf rmX1_trustOf [.int (nI x)] ws (PQ (nI (x / 64 % 4)) ws) := by
  refine Mi.of (lv := [(0, .int (nI x))]) RX1 ⟨by decide, rfl⟩ rfl (Nat.le_of_ble_eq_true rfl) rfl ?_
  intro p e s m args below meth c A C hnm
  refine g_iload_n C dX1_trustOf_0 rfl 0 rfl ?_
  refine g_bipush (v := nI 6) C dX1_trustOf_1 (by decide +kernel) ?_
  refine g_ishr (v := nI (x / 64)) C dX1_trustOf_3 (pk_shrN (by omega) _ 6 (by decide +kernel)) ?_
  refine g_iconst (v := nI 3) C dX1_trustOf_4 (by decide +kernel) ?_
  refine g_iand (v := nI ((x / 64) % 4)) C dX1_trustOf_5 (pk_andN (by omega) 2 (by decide +kernel)) ?_
  exact g_iret C rfl (⟨rfl, rfl⟩) (Nat.le_of_ble_eq_true rfl) (Nat.le_of_ble_eq_true rfl) dX1_trustOf_6
abbrev rmX1_warrantsOf : Room := { frames := 0, cells := 0, slots := 0, locals := 0 }
theorem ydX1_warrantsOf : yX1_warrantsOf.cls ≠ "java/lang/invoke/MethodHandle" ∧ yX1_warrantsOf.cls ≠ "java/lang/invoke/VarHandle" ∧ (parseMethodDescriptor yX1_warrantsOf.desc).map (fun d => d.parameters.length) = some 1 := by decide +kernel
set_option maxRecDepth 100000 in
set_option maxHeartbeats 4000000 in
theorem k_X1_warrantsOf (l : Launch) (D : va_G) (cy : Nat → ClassId) (zs : Nat → Nat) (ws : va_W)  (x : Nat) (hx : x < 2 ^ 31) : Mi l D cy zs yX1_warrantsOf wsX1_warrantsOf rmX1_warrantsOf [.int (nI x)] ws (PQ (nI (x / 256 % 4)) ws) := by
  refine Mi.of (lv := [(0, .int (nI x))]) RX1 ⟨by decide, rfl⟩ rfl (Nat.le_of_ble_eq_true rfl) rfl ?_
  intro p e s m args below meth c A C hnm
  refine g_iload_n C dX1_warrantsOf_0 rfl 0 rfl ?_
  refine g_bipush (v := nI 8) C dX1_warrantsOf_1 (by decide +kernel) ?_
  refine g_ishr (v := nI (x / 256)) C dX1_warrantsOf_3 (pk_shrN (by omega) _ 8 (by decide +kernel)) ?_
  refine g_iconst (v := nI 3) C dX1_warrantsOf_4 (by decide +kernel) ?_
  refine g_iand (v := nI ((x / 256) % 4)) C dX1_warrantsOf_5 (pk_andN (by omega) 2 (by decide +kernel)) ?_
  exact g_iret C rfl (⟨rfl, rfl⟩) (Nat.le_of_ble_eq_true rfl) (Nat.le_of_ble_eq_true rfl) dX1_warrantsOf_6
abbrev rmX1_isWithin : Room := { frames := 0, cells := 0, slots := 0, locals := 0 }
theorem ydX1_isWithin : yX1_isWithin.cls ≠ "java/lang/invoke/MethodHandle" ∧ yX1_isWithin.cls ≠ "java/lang/invoke/VarHandle" ∧ (parseMethodDescriptor yX1_isWithin.desc).map (fun d => d.parameters.length) = some 2 := by decide +kernel
set_option maxRecDepth 100000 in
set_option maxHeartbeats 4000000 in
theorem k_X1_isWithin (l : Launch) (D : va_G) (cy : Nat → ClassId) (zs : Nat → Nat) (ws : va_W)  (i : Nat) (o : Nat) (hi : i < 16) (ho : o < 16) : Mi l D cy zs yX1_isWithin wsX1_isWithin rmX1_isWithin [.int (nI i), .int (nI o)] ws (PQ (bI (wiN i o)) ws) := by
  refine Mi.of (lv := [(0, .int (nI i)), (1, .int (nI o))]) RX1 ⟨by decide, rfl⟩ rfl (Nat.le_of_ble_eq_true rfl) rfl ?_
  intro p e s m args below meth c A C hnm
  refine g_iload_n C dX1_isWithin_0 rfl 0 rfl ?_
  refine g_iload_n C dX1_isWithin_1 rfl 1 rfl ?_
  refine g_iconst (v := (-1)) C dX1_isWithin_2 (by decide +kernel) ?_
  refine g_ixor (v := (nI o) ^^^ (-1)) C dX1_isWithin_3 rfl ?_
  refine g_iand (v := (nI i) &&& ((nI o) ^^^ (-1))) C dX1_isWithin_4 rfl ?_
  refine g_if_ne (tgt := 12) C dX1_isWithin_5 (by decide) (fun c5 => ?_) (fun c5 => ?_)
  · skip
    refine g_iconst (v := nI 0) C dX1_isWithin_12 (by decide +kernel) ?_
    exact g_zret C rfl (Or.inl rfl) (⟨by rw [wi_f i hi o ho c5]; rfl, rfl⟩) (Nat.le_of_ble_eq_true rfl) (Nat.le_of_ble_eq_true rfl) dX1_isWithin_13
  · skip
    refine g_iconst (v := nI 1) C dX1_isWithin_8 (by decide +kernel) ?_
    refine g_goto (tgt := 13) C dX1_isWithin_9 (by decide) ?_
    exact g_zret C rfl (Or.inr rfl) (⟨by rw [wi_t i hi o ho c5]; rfl, rfl⟩) (Nat.le_of_ble_eq_true rfl) (Nat.le_of_ble_eq_true rfl) dX1_isWithin_13
abbrev rmX1_mayFlow : Room := { frames := 1, cells := 0, slots := 0, locals := 21 }
theorem ydX1_mayFlow : yX1_mayFlow.cls ≠ "java/lang/invoke/MethodHandle" ∧ yX1_mayFlow.cls ≠ "java/lang/invoke/VarHandle" ∧ (parseMethodDescriptor yX1_mayFlow.desc).map (fun d => d.parameters.length) = some 2 := by decide +kernel
set_option maxRecDepth 100000 in
set_option maxHeartbeats 4000000 in
theorem k_X1_mayFlow (l : Launch) (D : va_G) (cy : Nat → ClassId) (zs : Nat → Nat) (ws : va_W)  (x : Nat) (y : Nat) (hx : x < 2 ^ 31) (hy : y < 2 ^ 31) : Mi l D cy zs yX1_mayFlow wsX1_mayFlow rmX1_mayFlow [.int (nI x), .int (nI y)] ws (PQ (bI (mayN x y)) ws) := by
  refine Mi.of (lv := [(0, .int (nI x)), (1, .int (nI y))]) RX1 ⟨by decide, rfl⟩ rfl (Nat.le_of_ble_eq_true rfl) rfl ?_
  intro p e s m args below meth c A C hnm
  refine g_iload_n C dX1_mayFlow_0 rfl 0 rfl ?_
  refine g_Si (st := []) C (k_X1_secrecyOf l D cy zs ws x (by omega)) gX1_mayFlow_X1_secrecyOf rfl ydX1_secrecyOf ⟨Nat.le_of_ble_eq_true rfl, Nat.le_of_ble_eq_true rfl⟩ ⟨Nat.le_of_ble_eq_true rfl, Nat.le_of_ble_eq_true rfl⟩ rfl (Nat.le_of_ble_eq_true rfl) dX1_mayFlow_1 (fun r1 w1 h1 => ?_)
  obtain ⟨h1a, h1b⟩ := h1
  subst h1a
  have h1b := h1b.symm
  subst h1b
  refine g_iload_n C dX1_mayFlow_4 rfl 1 rfl ?_
  refine g_Si (st := [.int (nI (x % 4))]) C (k_X1_secrecyOf l D cy zs ws y (by omega)) gX1_mayFlow_X1_secrecyOf rfl ydX1_secrecyOf ⟨Nat.le_of_ble_eq_true rfl, Nat.le_of_ble_eq_true rfl⟩ ⟨Nat.le_of_ble_eq_true rfl, Nat.le_of_ble_eq_true rfl⟩ rfl (Nat.le_of_ble_eq_true rfl) dX1_mayFlow_5 (fun r5 w5 h5 => ?_)
  obtain ⟨h5a, h5b⟩ := h5
  subst h5a
  have h5b := h5b.symm
  subst h5b
  refine g_icmp_gt (tgt := 54) C dX1_mayFlow_8 (by decide) (fun c8 => ?_) (fun c8 => ?_)
  · skip
    have c8 := c_gt0 (by omega) (by omega) c8
    refine g_iconst (v := nI 0) C dX1_mayFlow_54 (by decide +kernel) ?_
    exact g_zret C rfl (Or.inl rfl) (⟨by rw [may_eq, decide_eq_false (Nat.not_le.mpr c8)]; rfl, rfl⟩) (Nat.le_of_ble_eq_true rfl) (Nat.le_of_ble_eq_true rfl) dX1_mayFlow_55
  · skip
    have c8 := c_gt1 (by omega) (by omega) c8
    refine g_iload_n C dX1_mayFlow_11 rfl 0 rfl ?_
    refine g_Si (st := []) C (k_X1_secretsOf l D cy zs ws x (by omega)) gX1_mayFlow_X1_secretsOf rfl ydX1_secretsOf ⟨Nat.le_of_ble_eq_true rfl, Nat.le_of_ble_eq_true rfl⟩ ⟨Nat.le_of_ble_eq_true rfl, Nat.le_of_ble_eq_true rfl⟩ rfl (Nat.le_of_ble_eq_true rfl) dX1_mayFlow_12 (fun r12 w12 h12 => ?_)
    obtain ⟨h12a, h12b⟩ := h12
    subst h12a
    have h12b := h12b.symm
    subst h12b
    refine g_iload_n C dX1_mayFlow_15 rfl 1 rfl ?_
    refine g_Si (st := [.int (nI (x / 4 % 16))]) C (k_X1_secretsOf l D cy zs ws y (by omega)) gX1_mayFlow_X1_secretsOf rfl ydX1_secretsOf ⟨Nat.le_of_ble_eq_true rfl, Nat.le_of_ble_eq_true rfl⟩ ⟨Nat.le_of_ble_eq_true rfl, Nat.le_of_ble_eq_true rfl⟩ rfl (Nat.le_of_ble_eq_true rfl) dX1_mayFlow_16 (fun r16 w16 h16 => ?_)
    obtain ⟨h16a, h16b⟩ := h16
    subst h16a
    have h16b := h16b.symm
    subst h16b
    refine g_Si (st := []) C (k_X1_isWithin l D cy zs ws (x / 4 % 16) (y / 4 % 16) (by omega) (by omega)) gX1_mayFlow_X1_isWithin rfl ydX1_isWithin ⟨Nat.le_of_ble_eq_true rfl, Nat.le_of_ble_eq_true rfl⟩ ⟨Nat.le_of_ble_eq_true rfl, Nat.le_of_ble_eq_true rfl⟩ rfl (Nat.le_of_ble_eq_true rfl) dX1_mayFlow_19 (fun r19 w19 h19 => ?_)
    obtain ⟨h19a, h19b⟩ := h19
    subst h19a
    have h19b := h19b.symm
    subst h19b
    refine g_if_eq (tgt := 54) C dX1_mayFlow_22 (by decide) (fun c22 => ?_) (fun c22 => ?_)
    · skip
      have c22 := cb_eq0 c22
      refine g_iconst (v := nI 0) C dX1_mayFlow_54 (by decide +kernel) ?_
      exact g_zret C rfl (Or.inl rfl) (⟨by rw [may_eq, c22, Bool.and_false]; rfl, rfl⟩) (Nat.le_of_ble_eq_true rfl) (Nat.le_of_ble_eq_true rfl) dX1_mayFlow_55
    · skip
      have c22 := cb_eq1 c22
      refine g_iload_n C dX1_mayFlow_25 rfl 0 rfl ?_
      refine g_Si (st := []) C (k_X1_trustOf l D cy zs ws x (by omega)) gX1_mayFlow_X1_trustOf rfl ydX1_trustOf ⟨Nat.le_of_ble_eq_true rfl, Nat.le_of_ble_eq_true rfl⟩ ⟨Nat.le_of_ble_eq_true rfl, Nat.le_of_ble_eq_true rfl⟩ rfl (Nat.le_of_ble_eq_true rfl) dX1_mayFlow_26 (fun r26 w26 h26 => ?_)
      obtain ⟨h26a, h26b⟩ := h26
      subst h26a
      have h26b := h26b.symm
      subst h26b
      refine g_iload_n C dX1_mayFlow_29 rfl 1 rfl ?_
      refine g_Si (st := [.int (nI (x / 64 % 4))]) C (k_X1_trustOf l D cy zs ws y (by omega)) gX1_mayFlow_X1_trustOf rfl ydX1_trustOf ⟨Nat.le_of_ble_eq_true rfl, Nat.le_of_ble_eq_true rfl⟩ ⟨Nat.le_of_ble_eq_true rfl, Nat.le_of_ble_eq_true rfl⟩ rfl (Nat.le_of_ble_eq_true rfl) dX1_mayFlow_30 (fun r30 w30 h30 => ?_)
      obtain ⟨h30a, h30b⟩ := h30
      subst h30a
      have h30b := h30b.symm
      subst h30b
      refine g_icmp_lt (tgt := 54) C dX1_mayFlow_33 (by decide) (fun c33 => ?_) (fun c33 => ?_)
      · skip
        have c33 := c_lt0 (by omega) (by omega) c33
        refine g_iconst (v := nI 0) C dX1_mayFlow_54 (by decide +kernel) ?_
        exact g_zret C rfl (Or.inl rfl) (⟨by rw [may_eq, decide_eq_false (Nat.not_le.mpr c33), Bool.and_false]; rfl, rfl⟩) (Nat.le_of_ble_eq_true rfl) (Nat.le_of_ble_eq_true rfl) dX1_mayFlow_55
      · skip
        have c33 := c_lt1 (by omega) (by omega) c33
        refine g_iload_n C dX1_mayFlow_36 rfl 1 rfl ?_
        refine g_Si (st := []) C (k_X1_warrantsOf l D cy zs ws y (by omega)) gX1_mayFlow_X1_warrantsOf rfl ydX1_warrantsOf ⟨Nat.le_of_ble_eq_true rfl, Nat.le_of_ble_eq_true rfl⟩ ⟨Nat.le_of_ble_eq_true rfl, Nat.le_of_ble_eq_true rfl⟩ rfl (Nat.le_of_ble_eq_true rfl) dX1_mayFlow_37 (fun r37 w37 h37 => ?_)
        obtain ⟨h37a, h37b⟩ := h37
        subst h37a
        have h37b := h37b.symm
        subst h37b
        refine g_iload_n C dX1_mayFlow_40 rfl 0 rfl ?_
        refine g_Si (st := [.int (nI (y / 256 % 4))]) C (k_X1_warrantsOf l D cy zs ws x (by omega)) gX1_mayFlow_X1_warrantsOf rfl ydX1_warrantsOf ⟨Nat.le_of_ble_eq_true rfl, Nat.le_of_ble_eq_true rfl⟩ ⟨Nat.le_of_ble_eq_true rfl, Nat.le_of_ble_eq_true rfl⟩ rfl (Nat.le_of_ble_eq_true rfl) dX1_mayFlow_41 (fun r41 w41 h41 => ?_)
        obtain ⟨h41a, h41b⟩ := h41
        subst h41a
        have h41b := h41b.symm
        subst h41b
        refine g_Si (st := []) C (k_X1_isWithin l D cy zs ws (y / 256 % 4) (x / 256 % 4) (by omega) (by omega)) gX1_mayFlow_X1_isWithin rfl ydX1_isWithin ⟨Nat.le_of_ble_eq_true rfl, Nat.le_of_ble_eq_true rfl⟩ ⟨Nat.le_of_ble_eq_true rfl, Nat.le_of_ble_eq_true rfl⟩ rfl (Nat.le_of_ble_eq_true rfl) dX1_mayFlow_44 (fun r44 w44 h44 => ?_)
        obtain ⟨h44a, h44b⟩ := h44
        subst h44a
        have h44b := h44b.symm
        subst h44b
        refine g_if_eq (tgt := 54) C dX1_mayFlow_47 (by decide) (fun c47 => ?_) (fun c47 => ?_)
        · skip
          have c47 := cb_eq0 c47
          refine g_iconst (v := nI 0) C dX1_mayFlow_54 (by decide +kernel) ?_
          exact g_zret C rfl (Or.inl rfl) (⟨by rw [may_eq, c47, Bool.and_false]; rfl, rfl⟩) (Nat.le_of_ble_eq_true rfl) (Nat.le_of_ble_eq_true rfl) dX1_mayFlow_55
        · skip
          have c47 := cb_eq1 c47
          refine g_iconst (v := nI 1) C dX1_mayFlow_50 (by decide +kernel) ?_
          refine g_goto (tgt := 55) C dX1_mayFlow_51 (by decide) ?_
          exact g_zret C rfl (Or.inr rfl) (⟨by rw [may_eq, decide_eq_true c8, c22, decide_eq_true c33, c47]; rfl, rfl⟩) (Nat.le_of_ble_eq_true rfl) (Nat.le_of_ble_eq_true rfl) dX1_mayFlow_55
abbrev rmX1_addressOf : Room := { frames := 0, cells := 0, slots := 0, locals := 0 }
theorem ydX1_addressOf : yX1_addressOf.cls ≠ "java/lang/invoke/MethodHandle" ∧ yX1_addressOf.cls ≠ "java/lang/invoke/VarHandle" ∧ (parseMethodDescriptor yX1_addressOf.desc).map (fun d => d.parameters.length) = some 2 := by decide +kernel
set_option maxRecDepth 100000 in
set_option maxHeartbeats 4000000 in
theorem k_X1_addressOf (l : Launch) (D : va_G) (cy : Nat → ClassId) (zs : Nat → Nat) (ws : va_W)  (L : Nat) (q : Nat)  : Mi l D cy zs yX1_addressOf wsX1_addressOf rmX1_addressOf [.int (nI L), .int (nI q)] ws (PQ (nI (16 * L + q)) ws) := by
  refine Mi.of (lv := [(0, .int (nI L)), (1, .int (nI q))]) RX1 ⟨by decide, rfl⟩ rfl (Nat.le_of_ble_eq_true rfl) rfl ?_
  intro p e s m args below meth c A C hnm
  refine g_bipush (v := nI 16) C dX1_addressOf_0 (by decide +kernel) ?_
  refine g_iload_n C dX1_addressOf_2 rfl 0 rfl ?_
  refine g_imul (v := nI (16 * L)) C dX1_addressOf_3 (pk_mul _ _) ?_
  refine g_iload_n C dX1_addressOf_4 rfl 1 rfl ?_
  refine g_iadd (v := nI ((16 * L) + q)) C dX1_addressOf_5 (nI_add _ _) ?_
  exact g_iret C rfl (⟨rfl, rfl⟩) (Nat.le_of_ble_eq_true rfl) (Nat.le_of_ble_eq_true rfl) dX1_addressOf_6
abbrev rmX1_labelOfAddress : Room := { frames := 0, cells := 0, slots := 0, locals := 0 }
theorem ydX1_labelOfAddress : yX1_labelOfAddress.cls ≠ "java/lang/invoke/MethodHandle" ∧ yX1_labelOfAddress.cls ≠ "java/lang/invoke/VarHandle" ∧ (parseMethodDescriptor yX1_labelOfAddress.desc).map (fun d => d.parameters.length) = some 1 := by decide +kernel
set_option maxRecDepth 100000 in
set_option maxHeartbeats 4000000 in
theorem k_X1_labelOfAddress (l : Launch) (D : va_G) (cy : Nat → ClassId) (zs : Nat → Nat) (ws : va_W)  (x : Nat) (hx : x < 2 ^ 31) : Mi l D cy zs yX1_labelOfAddress wsX1_labelOfAddress rmX1_labelOfAddress [.int (nI x)] ws (PQ (nI (x / 16)) ws) := by
  refine Mi.of (lv := [(0, .int (nI x))]) RX1 ⟨by decide, rfl⟩ rfl (Nat.le_of_ble_eq_true rfl) rfl ?_
  intro p e s m args below meth c A C hnm
  refine g_iload_n C dX1_labelOfAddress_0 rfl 0 rfl ?_
  refine g_bipush (v := nI 16) C dX1_labelOfAddress_1 (by decide +kernel) ?_
  refine g_idiv (v := nI (x / 16)) C dX1_labelOfAddress_3 (by decide +kernel) (pk_div (by omega) (by omega) (by omega)) ?_
  exact g_iret C rfl (⟨rfl, rfl⟩) (Nat.le_of_ble_eq_true rfl) (Nat.le_of_ble_eq_true rfl) dX1_labelOfAddress_4
abbrev rmX1_listingOf : Room := { frames := 0, cells := 0, slots := 0, locals := 0 }
theorem ydX1_listingOf : yX1_listingOf.cls ≠ "java/lang/invoke/MethodHandle" ∧ yX1_listingOf.cls ≠ "java/lang/invoke/VarHandle" ∧ (parseMethodDescriptor yX1_listingOf.desc).map (fun d => d.parameters.length) = some 3 := by decide +kernel
set_option maxRecDepth 100000 in
set_option maxHeartbeats 4000000 in
theorem k_X1_listingOf (l : Launch) (D : va_G) (cy : Nat → ClassId) (zs : Nat → Nat) (ws : va_W)  (s0 : Nat) (f : Nat) (t : Nat)  : Mi l D cy zs yX1_listingOf wsX1_listingOf rmX1_listingOf [.int (nI s0), .int (nI f), .int (nI t)] ws (PQ (nI ((s0 * 1024 + f) * 1024 + t)) ws) := by
  refine Mi.of (lv := [(0, .int (nI s0)), (1, .int (nI f)), (2, .int (nI t))]) RX1 ⟨by decide, rfl⟩ rfl (Nat.le_of_ble_eq_true rfl) rfl ?_
  intro p e s m args below meth c A C hnm
  refine g_iload_n C dX1_listingOf_0 rfl 0 rfl ?_
  refine g_sipush (v := nI 1024) C dX1_listingOf_1 (by decide +kernel) ?_
  refine g_imul (v := nI (s0 * 1024)) C dX1_listingOf_4 (pk_mul _ _) ?_
  refine g_iload_n C dX1_listingOf_5 rfl 1 rfl ?_
  refine g_iadd (v := nI ((s0 * 1024) + f)) C dX1_listingOf_6 (nI_add _ _) ?_
  refine g_sipush (v := nI 1024) C dX1_listingOf_7 (by decide +kernel) ?_
  refine g_imul (v := nI (((s0 * 1024) + f) * 1024)) C dX1_listingOf_10 (pk_mul _ _) ?_
  refine g_iload_n C dX1_listingOf_11 rfl 2 rfl ?_
  refine g_iadd (v := nI ((((s0 * 1024) + f) * 1024) + t)) C dX1_listingOf_12 (nI_add _ _) ?_
  exact g_iret C rfl (⟨rfl, rfl⟩) (Nat.le_of_ble_eq_true rfl) (Nat.le_of_ble_eq_true rfl) dX1_listingOf_13
abbrev rmX1_forgetSeen : Room := { frames := 0, cells := 0, slots := 0, locals := 0 }
theorem ydX1_forgetSeen : yX1_forgetSeen.cls ≠ "java/lang/invoke/MethodHandle" ∧ yX1_forgetSeen.cls ≠ "java/lang/invoke/VarHandle" ∧ (parseMethodDescriptor yX1_forgetSeen.desc).map (fun d => d.parameters.length) = some 1 := by decide +kernel
theorem iwX1_forgetSeen_X1 : ∀ w ∈ u_ws RX1 TX1 8, w ∈ wsX1_forgetSeen := fun _ h => (List.mem_cons_of_mem _ (List.mem_append_right _ h))
set_option maxRecDepth 100000 in
set_option maxHeartbeats 4000000 in
theorem k_X1_forgetSeen (l : Launch) (D : va_G) (cy : Nat → ClassId) (zs : Nat → Nat) (a : Nat → Nat) (lab : Nat → Option Nat) (quo : Nat → Nat) (spe : Nat → Nat) (md : Int32) (ed : Option (Nat × Nat)) (lis : Nat → Nat) (lc : Nat) (see : Nat → Nat → Int32) (cnt : Nat → Nat) (Fs : List FT) (hI : CI lab quo spe ed lis lc cnt Fs)  (S : Nat) (hS : S < 16) : Mv l D cy zs yX1_forgetSeen wsX1_forgetSeen rmX1_forgetSeen [.ref (a 0), .int (nI S)] (wC cy a (zs 0) lab quo spe md ed lis lc see cnt Fs) (fun w => w = (wC cy a (zs 0) lab quo spe md ed lis lc see (va_up cnt S 0) Fs)) := by
  refine Mv.of (lv := [(0, .ref (a 0)), (1, .int (nI S))]) RX1 ⟨by decide, rfl⟩ rfl (Nat.le_of_ble_eq_true rfl) rfl ?_
  intro p e s m args below meth c A C hnm
  have hlc := hI.lcP
  have hln := hI.lenP
  refine g_aload_n C dX1_forgetSeen_0 rfl 0 rfl ?_
  refine g_get (ci := 2) (v := .ref (a 7)) C iwX1_forgetSeen_X1 0 rfl rfl 7 (by decide) (C.hw (List.mem_cons_of_mem _ (List.mem_append_left _ (List.mem_of_getElem? (i := 0) rfl)))) (fun _ h9 => h9) rfl dX1_forgetSeen_1 ?_
  refine g_iload_n C dX1_forgetSeen_4 rfl 1 rfl ?_
  refine g_iconst (v := nI 0) C dX1_forgetSeen_5 (by decide +kernel) ?_
  refine g_iastN (nn := 16) (j := S) (v := 0) (f := cnt) (ws' := (wC cy a (zs 0) lab quo spe md ed lis lc see (va_up cnt S 0) Fs)) C 7 rfl (by omega) n31_16 rfl dX1_forgetSeen_6 ?_
  have hI6 : CI lab quo spe ed lis lc (va_up cnt S 0) Fs := hI.upCnt (by omega)
  exact g_vret C rfl rfl (Nat.le_of_ble_eq_true rfl) (Nat.le_of_ble_eq_true rfl) dX1_forgetSeen_7
abbrev rmX1_isListed : Room := { frames := 0, cells := 0, slots := 0, locals := 0 }
theorem ydX1_isListed : yX1_isListed.cls ≠ "java/lang/invoke/MethodHandle" ∧ yX1_isListed.cls ≠ "java/lang/invoke/VarHandle" ∧ (parseMethodDescriptor yX1_isListed.desc).map (fun d => d.parameters.length) = some 1 := by decide +kernel
theorem iwX1_isListed_X1 : ∀ w ∈ u_ws RX1 TX1 8, w ∈ wsX1_isListed := fun _ h => (List.mem_cons_of_mem _ (List.mem_append_right _ h))
set_option maxRecDepth 100000 in
set_option maxHeartbeats 4000000 in
theorem k_X1_isListed (l : Launch) (D : va_G) (cy : Nat → ClassId) (zs : Nat → Nat) (a : Nat → Nat) (lab : Nat → Option Nat) (quo : Nat → Nat) (spe : Nat → Nat) (md : Int32) (ed : Option (Nat × Nat)) (lis : Nat → Nat) (lc : Nat) (see : Nat → Nat → Int32) (cnt : Nat → Nat) (Fs : List FT) (hI : CI lab quo spe ed lis lc cnt Fs)  (code : Nat) (hc : code < 2 ^ 31) : Mi l D cy zs yX1_isListed wsX1_isListed rmX1_isListed [.ref (a 0), .int (nI code)] (wC cy a (zs 0) lab quo spe md ed lis lc see cnt Fs) (PQ (bI (isC lis lc code)) (wC cy a (zs 0) lab quo spe md ed lis lc see cnt Fs)) := by
  refine Mi.of (lv := [(0, .ref (a 0)), (1, .int (nI code))]) RX1 ⟨by decide, rfl⟩ rfl (Nat.le_of_ble_eq_true rfl) rfl ?_
  intro p e s m args below meth c A C hnm
  have hlc := hI.lcP
  have hln := hI.lenP
  refine g_iconst (v := nI 0) C dX1_isListed_0 (by decide +kernel) ?_
  refine g_istore_n (lv' := [(2, .int (nI 0)), (0, .ref (a 0)), (1, .int (nI code))]) C dX1_isListed_1 rfl (by decide) rfl ?_
  refine g_sub (lv' := [(0, .ref (a 0)), (1, .int (nI code)), (2, .int (nI 0))]) [1, 2, 0] rfl ?_
  refine g_loop1 (jp := 2) (fun (k : Nat) => (k ≤ lc) ∧ (∀ j, j < k → ¬ lis j = code)) (fun (k : Nat) => lc - k) (fun (k : Nat) => (wC cy a (zs 0) lab quo spe md ed lis lc see cnt Fs)) (fun (k : Nat) => [(0, .ref (a 0)), (1, .int (nI code)), (2, .int (nI k))]) (fun (k : Nat) => []) (fun k hI2 ih2 => ?_) 0 (⟨Nat.zero_le _, fun j h9 => absurd h9 (Nat.not_lt_zero _)⟩)
  obtain ⟨hk, hj⟩ := hI2
  refine g_iload_n C dX1_isListed_2 rfl 2 rfl ?_
  refine g_aload_n C dX1_isListed_3 rfl 0 rfl ?_
  refine g_get (ci := 2) (v := .int (nI lc)) C iwX1_isListed_X1 0 rfl rfl 5 (by decide) (C.hw (List.mem_cons_of_mem _ (List.mem_append_left _ (List.mem_of_getElem? (i := 0) rfl)))) (fun _ h9 => h9) rfl dX1_isListed_4 ?_
  refine g_icmp_ge (tgt := 28) C dX1_isListed_7 (by decide) (fun c7 => ?_) (fun c7 => ?_)
  · skip
    have c7 := c_ge0 (by omega) (by omega) c7
    refine g_iconst (v := nI 0) C dX1_isListed_28 (by decide +kernel) ?_
    exact g_zret C rfl (Or.inl rfl) (⟨isC_f (fun j h9 => hj j (by omega)), rfl⟩) (Nat.le_of_ble_eq_true rfl) (Nat.le_of_ble_eq_true rfl) dX1_isListed_29
  · skip
    have c7 := c_ge1 (by omega) (by omega) c7
    refine g_aload_n C dX1_isListed_10 rfl 0 rfl ?_
    refine g_get (ci := 2) (v := .ref (a 5)) C iwX1_isListed_X1 0 rfl rfl 4 (by decide) (C.hw (List.mem_cons_of_mem _ (List.mem_append_left _ (List.mem_of_getElem? (i := 1) rfl)))) (fun _ h9 => h9) rfl dX1_isListed_11 ?_
    refine g_iload_n C dX1_isListed_14 rfl 2 rfl ?_
    refine g_ialdN (nn := 32) (j := k) (f := lis) C 5 rfl (by omega) n31_32 dX1_isListed_15 ?_
    have b15 := hI.lisP k
    refine g_iload_n C dX1_isListed_16 rfl 1 rfl ?_
    refine g_icmp_ne (tgt := 22) C dX1_isListed_17 (by decide) (fun c17 => ?_) (fun c17 => ?_)
    · skip
      have c17 := c_eq1 (by omega) (by omega) c17
      refine g_iinc (q := 2) (v := nI (k + 1)) (lv' := [(2, .int (nI (k + 1))), (0, .ref (a 0)), (1, .int (nI code))]) C dX1_isListed_22 rfl (nI_inc1 _) (by decide) rfl ?_
      refine g_goto (tgt := 2) C dX1_isListed_25 (by decide) ?_
      exact g_sub (lv' := [(0, .ref (a 0)), (1, .int (nI code)), (2, .int (nI (k + 1)))]) [1, 2, 0] rfl (ih2 (k + 1) (⟨by omega, fun j h9 => by rcases Nat.lt_succ_iff_lt_or_eq.mp h9 with h8 | h8; exact hj j h8; subst h8; exact c17⟩) (by omega))
    · skip
      have c17 := c_eq0 (by omega) (by omega) c17
      refine g_iconst (v := nI 1) C dX1_isListed_20 (by decide +kernel) ?_
      exact g_zret C rfl (Or.inr rfl) (⟨isC_t c7 c17, rfl⟩) (Nat.le_of_ble_eq_true rfl) (Nat.le_of_ble_eq_true rfl) dX1_isListed_21
abbrev rmX1_addListing : Room := { frames := 0, cells := 0, slots := 0, locals := 0 }
theorem ydX1_addListing : yX1_addListing.cls ≠ "java/lang/invoke/MethodHandle" ∧ yX1_addListing.cls ≠ "java/lang/invoke/VarHandle" ∧ (parseMethodDescriptor yX1_addListing.desc).map (fun d => d.parameters.length) = some 1 := by decide +kernel
theorem iwX1_addListing_X1 : ∀ w ∈ u_ws RX1 TX1 8, w ∈ wsX1_addListing := fun _ h => (List.mem_cons_of_mem _ (List.mem_append_right _ h))
set_option maxRecDepth 100000 in
set_option maxHeartbeats 4000000 in
theorem k_X1_addListing (l : Launch) (D : va_G) (cy : Nat → ClassId) (zs : Nat → Nat) (a : Nat → Nat) (lab : Nat → Option Nat) (quo : Nat → Nat) (spe : Nat → Nat) (md : Int32) (ed : Option (Nat × Nat)) (lis : Nat → Nat) (lc : Nat) (see : Nat → Nat → Int32) (cnt : Nat → Nat) (Fs : List FT) (hI : CI lab quo spe ed lis lc cnt Fs)  (code : Nat) (hc : code < 16777216) (hl : lc < 32) : Mv l D cy zs yX1_addListing wsX1_addListing rmX1_addListing [.ref (a 0), .int (nI code)] (wC cy a (zs 0) lab quo spe md ed lis lc see cnt Fs) (fun w => w = (wC cy a (zs 0) lab quo spe md ed (va_up lis lc code) (lc + 1) see cnt Fs)) := by
  refine Mv.of (lv := [(0, .ref (a 0)), (1, .int (nI code))]) RX1 ⟨by decide, rfl⟩ rfl (Nat.le_of_ble_eq_true rfl) rfl ?_
  intro p e s m args below meth c A C hnm
  have hlc := hI.lcP
  have hln := hI.lenP
  refine g_aload_n C dX1_addListing_0 rfl 0 rfl ?_
  refine g_get (ci := 2) (v := .ref (a 5)) C iwX1_addListing_X1 0 rfl rfl 4 (by decide) (C.hw (List.mem_cons_of_mem _ (List.mem_append_left _ (List.mem_of_getElem? (i := 0) rfl)))) (fun _ h9 => h9) rfl dX1_addListing_1 ?_
  refine g_aload_n C dX1_addListing_4 rfl 0 rfl ?_
  refine g_get (ci := 2) (v := .int (nI lc)) C iwX1_addListing_X1 0 rfl rfl 5 (by decide) (C.hw (List.mem_cons_of_mem _ (List.mem_append_left _ (List.mem_of_getElem? (i := 1) rfl)))) (fun _ h9 => h9) rfl dX1_addListing_5 ?_
  refine g_iload_n C dX1_addListing_8 rfl 1 rfl ?_
  refine g_iastN (nn := 32) (j := lc) (v := code) (f := lis) (ws' := (wC cy a (zs 0) lab quo spe md ed (va_up lis lc code) lc see cnt Fs)) C 5 rfl (by omega) n31_32 rfl dX1_addListing_9 ?_
  refine g_aload_n C dX1_addListing_10 rfl 0 rfl ?_
  refine g_dup C dX1_addListing_11 rfl ?_
  refine g_get (ci := 2) (v := .int (nI lc)) C iwX1_addListing_X1 0 rfl rfl 5 (by decide) (C.hw (List.mem_cons_of_mem _ (List.mem_append_left _ (List.mem_of_getElem? (i := 1) rfl)))) (fun _ h9 => h9) rfl dX1_addListing_12 ?_
  refine g_iconst (v := nI 1) C dX1_addListing_15 (by decide +kernel) ?_
  refine g_iadd (v := nI (lc + 1)) C dX1_addListing_16 (nI_add _ _) ?_
  refine g_put (ci := 2) (ty := .int) (v := .int (nI (lc + 1))) (ws' := (wC cy a (zs 0) lab quo spe md ed (va_up lis lc code) (lc + 1) see cnt Fs)) C iwX1_addListing_X1 tyX1 tyX1_ok nmX1 0 rfl rfl 5 (by decide) (C.hw (List.mem_cons_of_mem _ (List.mem_append_left _ (List.mem_of_getElem? (i := 1) rfl)))) (fun _ h9 => h9) rfl (by decide +kernel) rfl rfl (Nat.le_of_ble_eq_true rfl) rfl dX1_addListing_17 ?_
  exact g_vret C rfl rfl (Nat.le_of_ble_eq_true rfl) (Nat.le_of_ble_eq_true rfl) dX1_addListing_20
abbrev rmX1_dropListing : Room := { frames := 0, cells := 0, slots := 0, locals := 0 }
theorem ydX1_dropListing : yX1_dropListing.cls ≠ "java/lang/invoke/MethodHandle" ∧ yX1_dropListing.cls ≠ "java/lang/invoke/VarHandle" ∧ (parseMethodDescriptor yX1_dropListing.desc).map (fun d => d.parameters.length) = some 1 := by decide +kernel
theorem iwX1_dropListing_X1 : ∀ w ∈ u_ws RX1 TX1 8, w ∈ wsX1_dropListing := fun _ h => (List.mem_cons_of_mem _ (List.mem_append_right _ h))
set_option maxRecDepth 100000 in
set_option maxHeartbeats 4000000 in
theorem k_X1_dropListing (l : Launch) (D : va_G) (cy : Nat → ClassId) (zs : Nat → Nat) (a : Nat → Nat) (lab : Nat → Option Nat) (quo : Nat → Nat) (spe : Nat → Nat) (md : Int32) (ed : Option (Nat × Nat)) (lis : Nat → Nat) (lc : Nat) (see : Nat → Nat → Int32) (cnt : Nat → Nat) (Fs : List FT) (hI : CI lab quo spe ed lis lc cnt Fs)  (code : Nat) (hc : code < 2 ^ 31) : Mv l D cy zs yX1_dropListing wsX1_dropListing rmX1_dropListing [.ref (a 0), .int (nI code)] (wC cy a (zs 0) lab quo spe md ed lis lc see cnt Fs) (fun w => ∃ lis1 n0, drI lis1 lis code n0 lc ∧ w = (wC cy a (zs 0) lab quo spe md ed lis1 n0 see cnt Fs)) := by
  refine Mv.of (lv := [(0, .ref (a 0)), (1, .int (nI code))]) RX1 ⟨by decide, rfl⟩ rfl (Nat.le_of_ble_eq_true rfl) rfl ?_
  intro p e s m args below meth c A C hnm
  have hlc := hI.lcP
  have hln := hI.lenP
  refine g_iconst (v := nI 0) C dX1_dropListing_0 (by decide +kernel) ?_
  refine g_istore_n (lv' := [(2, .int (nI 0)), (0, .ref (a 0)), (1, .int (nI code))]) C dX1_dropListing_1 rfl (by decide) rfl ?_
  refine g_iconst (v := nI 0) C dX1_dropListing_2 (by decide +kernel) ?_
  refine g_istore_n (lv' := [(3, .int (nI 0)), (2, .int (nI 0)), (0, .ref (a 0)), (1, .int (nI code))]) C dX1_dropListing_3 rfl (by decide) rfl ?_
  refine g_sub (lv' := [(0, .ref (a 0)), (1, .int (nI code)), (2, .int (nI 0)), (3, .int (nI 0))]) [2, 3, 1, 0] rfl ?_
  refine g_loop3 (jp := 4) (fun (n0 : Nat) (k : Nat) (lis1 : Nat → Nat) => (k ≤ lc) ∧ (drI lis1 lis code n0 k)) (fun (n0 : Nat) (k : Nat) (lis1 : Nat → Nat) => lc - k) (fun (n0 : Nat) (k : Nat) (lis1 : Nat → Nat) => (wC cy a (zs 0) lab quo spe md ed lis1 lc see cnt Fs)) (fun (n0 : Nat) (k : Nat) (lis1 : Nat → Nat) => [(0, .ref (a 0)), (1, .int (nI code)), (2, .int (nI n0)), (3, .int (nI k))]) (fun (n0 : Nat) (k : Nat) (lis1 : Nat → Nat) => []) (fun n0 k lis1 hI4 ih4 => ?_) 0 0 lis (⟨Nat.zero_le _, drI_0 (fun j => hI.lisP j)⟩)
  obtain ⟨hk, hd⟩ := hI4
  have hnk := hd.1
  have hI9 : CI lab quo spe ed lis1 lc cnt Fs := hI.upLis (by omega) hd.2.2.2
  refine g_iload_n C dX1_dropListing_4 rfl 3 rfl ?_
  refine g_aload_n C dX1_dropListing_5 rfl 0 rfl ?_
  refine g_get (ci := 2) (v := .int (nI lc)) C iwX1_dropListing_X1 0 rfl rfl 5 (by decide) (C.hw (List.mem_cons_of_mem _ (List.mem_append_left _ (List.mem_of_getElem? (i := 0) rfl)))) (fun _ h9 => h9) rfl dX1_dropListing_6 ?_
  refine g_icmp_ge (tgt := 43) C dX1_dropListing_9 (by decide) (fun c9 => ?_) (fun c9 => ?_)
  · skip
    have c9 := c_ge0 (by omega) (by omega) c9
    refine g_aload_n C dX1_dropListing_43 rfl 0 rfl ?_
    refine g_iload_n C dX1_dropListing_44 rfl 2 rfl ?_
    refine g_put (ci := 2) (ty := .int) (v := .int (nI n0)) (ws' := (wC cy a (zs 0) lab quo spe md ed lis1 n0 see cnt Fs)) C iwX1_dropListing_X1 tyX1 tyX1_ok nmX1 0 rfl rfl 5 (by decide) (C.hw (List.mem_cons_of_mem _ (List.mem_append_left _ (List.mem_of_getElem? (i := 0) rfl)))) (fun _ h9 => h9) rfl (by decide +kernel) rfl rfl (Nat.le_of_ble_eq_true rfl) rfl dX1_dropListing_45 ?_
    exact g_vret C rfl (⟨lis1, n0, by rw [show lc = k by omega]; exact hd, rfl⟩) (Nat.le_of_ble_eq_true rfl) (Nat.le_of_ble_eq_true rfl) dX1_dropListing_48
  · skip
    have c9 := c_ge1 (by omega) (by omega) c9
    refine g_aload_n C dX1_dropListing_12 rfl 0 rfl ?_
    refine g_get (ci := 2) (v := .ref (a 5)) C iwX1_dropListing_X1 0 rfl rfl 4 (by decide) (C.hw (List.mem_cons_of_mem _ (List.mem_append_left _ (List.mem_of_getElem? (i := 1) rfl)))) (fun _ h9 => h9) rfl dX1_dropListing_13 ?_
    refine g_iload_n C dX1_dropListing_16 rfl 3 rfl ?_
    refine g_ialdN (nn := 32) (j := k) (f := lis1) C 5 rfl (by omega) n31_32 dX1_dropListing_17 ?_
    have b17 := hI9.lisP k
    refine g_iload_n C dX1_dropListing_18 rfl 1 rfl ?_
    refine g_icmp_eq (tgt := 37) C dX1_dropListing_19 (by decide) (fun c19 => ?_) (fun c19 => ?_)
    · skip
      have c19 := c_eq0 (by omega) (by omega) c19
      refine g_iinc (q := 3) (v := nI (k + 1)) (lv' := [(3, .int (nI (k + 1))), (0, .ref (a 0)), (1, .int (nI code)), (2, .int (nI n0))]) C dX1_dropListing_37 rfl (nI_inc1 _) (by decide) rfl ?_
      refine g_goto (tgt := 4) C dX1_dropListing_40 (by decide) ?_
      exact g_sub (lv' := [(0, .ref (a 0)), (1, .int (nI code)), (2, .int (nI n0)), (3, .int (nI (k + 1)))]) [1, 2, 3, 0] rfl (ih4 n0 (k + 1) lis1 (⟨by omega, drI_n hd c19⟩) (by omega))
    · skip
      have c19 := c_eq1 (by omega) (by omega) c19
      refine g_aload_n C dX1_dropListing_22 rfl 0 rfl ?_
      refine g_get (ci := 2) (v := .ref (a 5)) C iwX1_dropListing_X1 0 rfl rfl 4 (by decide) (C.hw (List.mem_cons_of_mem _ (List.mem_append_left _ (List.mem_of_getElem? (i := 1) rfl)))) (fun _ h9 => h9) rfl dX1_dropListing_23 ?_
      refine g_iload_n C dX1_dropListing_26 rfl 2 rfl ?_
      refine g_aload_n C dX1_dropListing_27 rfl 0 rfl ?_
      refine g_get (ci := 2) (v := .ref (a 5)) C iwX1_dropListing_X1 0 rfl rfl 4 (by decide) (C.hw (List.mem_cons_of_mem _ (List.mem_append_left _ (List.mem_of_getElem? (i := 1) rfl)))) (fun _ h9 => h9) rfl dX1_dropListing_28 ?_
      refine g_iload_n C dX1_dropListing_31 rfl 3 rfl ?_
      refine g_ialdN (nn := 32) (j := k) (f := lis1) C 5 rfl (by omega) n31_32 dX1_dropListing_32 ?_
      have b32 := hI9.lisP k
      refine g_iastN (nn := 32) (j := n0) (v := (lis1 k)) (f := lis1) (ws' := (wC cy a (zs 0) lab quo spe md ed (va_up lis1 n0 (lis1 k)) lc see cnt Fs)) C 5 rfl (by omega) n31_32 rfl dX1_dropListing_33 ?_
      refine g_iinc (q := 2) (v := nI (n0 + 1)) (lv' := [(2, .int (nI (n0 + 1))), (0, .ref (a 0)), (1, .int (nI code)), (3, .int (nI k))]) C dX1_dropListing_34 rfl (nI_inc1 _) (by decide) rfl ?_
      refine g_iinc (q := 3) (v := nI (k + 1)) (lv' := [(3, .int (nI (k + 1))), (2, .int (nI (n0 + 1))), (0, .ref (a 0)), (1, .int (nI code))]) C dX1_dropListing_37 rfl (nI_inc1 _) (by decide) rfl ?_
      refine g_goto (tgt := 4) C dX1_dropListing_40 (by decide) ?_
      exact g_sub (lv' := [(0, .ref (a 0)), (1, .int (nI code)), (2, .int (nI (n0 + 1))), (3, .int (nI (k + 1)))]) [2, 3, 1, 0] rfl (ih4 (n0 + 1) (k + 1) (va_up lis1 n0 (lis1 k)) (⟨by omega, drI_y hd c19⟩) (by omega))
abbrev rmX1_show : Room := { frames := 0, cells := 0, slots := 0, locals := 0 }
theorem ydX1_show : yX1_show.cls ≠ "java/lang/invoke/MethodHandle" ∧ yX1_show.cls ≠ "java/lang/invoke/VarHandle" ∧ (parseMethodDescriptor yX1_show.desc).map (fun d => d.parameters.length) = some 2 := by decide +kernel
theorem iwX1_show_X1 : ∀ w ∈ u_ws RX1 TX1 8, w ∈ wsX1_show := fun _ h => (List.mem_cons_of_mem _ (List.mem_append_right _ h))
set_option maxRecDepth 100000 in
set_option maxHeartbeats 4000000 in
theorem k_X1_show (l : Launch) (D : va_G) (cy : Nat → ClassId) (zs : Nat → Nat) (a : Nat → Nat) (lab : Nat → Option Nat) (quo : Nat → Nat) (spe : Nat → Nat) (md : Int32) (ed : Option (Nat × Nat)) (lis : Nat → Nat) (lc : Nat) (see : Nat → Nat → Int32) (cnt : Nat → Nat) (Fs : List FT) (hI : CI lab quo spe ed lis lc cnt Fs)  (S : Nat) (v : Int32) (hS : S < 16) : Mv l D cy zs yX1_show wsX1_show rmX1_show [.ref (a 0), .int (nI S), .int v] (wC cy a (zs 0) lab quo spe md ed lis lc see cnt Fs) (fun w => (cnt S = 200 ∧ w = (wC cy a (zs 0) lab quo spe md ed lis lc see cnt Fs)) ∨ (cnt S < 200 ∧ w = (wC cy a (zs 0) lab quo spe md ed lis lc (va_up see S (upd (see S) (cnt S) v)) (va_up cnt S (cnt S + 1)) Fs))) := by
  refine Mv.of (lv := [(0, .ref (a 0)), (1, .int (nI S)), (2, .int v)]) RX1 ⟨by decide, rfl⟩ rfl (Nat.le_of_ble_eq_true rfl) rfl ?_
  intro p e s m args below meth c A C hnm
  have hlc := hI.lcP
  have hln := hI.lenP
  refine g_aload_n C dX1_show_0 rfl 0 rfl ?_
  refine g_get (ci := 2) (v := .ref (a 7)) C iwX1_show_X1 0 rfl rfl 7 (by decide) (C.hw (List.mem_cons_of_mem _ (List.mem_append_left _ (List.mem_of_getElem? (i := 0) rfl)))) (fun _ h9 => h9) rfl dX1_show_1 ?_
  refine g_iload_n C dX1_show_4 rfl 1 rfl ?_
  refine g_ialdN (nn := 16) (j := S) (f := cnt) C 7 rfl (by omega) n31_16 dX1_show_5 ?_
  have b5 := hI.cntP S
  refine g_sipush (v := nI 200) C dX1_show_6 (by decide +kernel) ?_
  refine g_icmp_ge (tgt := 36) C dX1_show_9 (by decide) (fun c9 => ?_) (fun c9 => ?_)
  · skip
    have c9 := c_ge0 (by omega) (by omega) c9
    exact g_vret C rfl (Or.inl ⟨by omega, rfl⟩) (Nat.le_of_ble_eq_true rfl) (Nat.le_of_ble_eq_true rfl) dX1_show_36
  · skip
    have c9 := c_ge1 (by omega) (by omega) c9
    refine g_aload_n C dX1_show_12 rfl 0 rfl ?_
    refine g_get (ci := 2) (v := .ref (a 6)) C iwX1_show_X1 0 rfl rfl 6 (by decide) (C.hw (List.mem_cons_of_mem _ (List.mem_append_left _ (List.mem_of_getElem? (i := 1) rfl)))) (fun _ h9 => h9) rfl dX1_show_13 ?_
    refine g_iload_n C dX1_show_16 rfl 1 rfl ?_
    refine g_aldA (nn := 16) (i := nI S) (r := some (a (8 + S))) C 6 rfl (vp_in_nI (by omega) (by omega)) (by rw [nI_clamp (by omega)]; exact if_pos (by omega)) dX1_show_17 ?_
    refine g_aload_n C dX1_show_18 rfl 0 rfl ?_
    refine g_get (ci := 2) (v := .ref (a 7)) C iwX1_show_X1 0 rfl rfl 7 (by decide) (C.hw (List.mem_cons_of_mem _ (List.mem_append_left _ (List.mem_of_getElem? (i := 0) rfl)))) (fun _ h9 => h9) rfl dX1_show_19 ?_
    refine g_iload_n C dX1_show_22 rfl 1 rfl ?_
    refine g_ialdN (nn := 16) (j := S) (f := cnt) C 7 rfl (by omega) n31_16 dX1_show_23 ?_
    have b23 := hI.cntP S
    refine g_iload_n C dX1_show_24 rfl 2 rfl ?_
    refine g_iastR (nn := 200) (j := (cnt S)) (v := v) (f := see S) (ws' := (wC cy a (zs 0) lab quo spe md ed lis lc (va_up see S (upd (see S) (cnt S) v)) cnt Fs)) C (8 + S) (wC_row (by omega)) (by omega) n31_200 (wC_rset (by omega)) dX1_show_25 ?_
    refine g_aload_n C dX1_show_26 rfl 0 rfl ?_
    refine g_get (ci := 2) (v := .ref (a 7)) C iwX1_show_X1 0 rfl rfl 7 (by decide) (C.hw (List.mem_cons_of_mem _ (List.mem_append_left _ (List.mem_of_getElem? (i := 0) rfl)))) (fun _ h9 => h9) rfl dX1_show_27 ?_
    refine g_iload_n C dX1_show_30 rfl 1 rfl ?_
    refine g_dup2_11 C dX1_show_31 rfl rfl ?_
    refine g_ialdN (nn := 16) (j := S) (f := cnt) C 7 rfl (by omega) n31_16 dX1_show_32 ?_
    have b32 := hI.cntP S
    refine g_iconst (v := nI 1) C dX1_show_33 (by decide +kernel) ?_
    refine g_iadd (v := nI ((cnt S) + 1)) C dX1_show_34 (nI_add _ _) ?_
    refine g_iastN (nn := 16) (j := S) (v := ((cnt S) + 1)) (f := cnt) (ws' := (wC cy a (zs 0) lab quo spe md ed lis lc (va_up see S (upd (see S) (cnt S) v)) (va_up cnt S ((cnt S) + 1)) Fs)) C 7 rfl (by omega) n31_16 rfl dX1_show_35 ?_
    have hI35 : CI lab quo spe ed lis lc (va_up cnt S ((cnt S) + 1)) Fs := hI.upCnt (by omega)
    exact g_vret C rfl (Or.inr ⟨c9, rfl⟩) (Nat.le_of_ble_eq_true rfl) (Nat.le_of_ble_eq_true rfl) dX1_show_36
abbrev rmX1_isFull : Room := { frames := 1, cells := 0, slots := 0, locals := 20 }
theorem ydX1_isFull : yX1_isFull.cls ≠ "java/lang/invoke/MethodHandle" ∧ yX1_isFull.cls ≠ "java/lang/invoke/VarHandle" ∧ (parseMethodDescriptor yX1_isFull.desc).map (fun d => d.parameters.length) = some 0 := by decide +kernel
theorem iwX1_isFull_X1 : ∀ w ∈ u_ws RX1 TX1 8, w ∈ wsX1_isFull := fun _ h => (List.mem_cons_of_mem _ (List.mem_append_left _ (List.mem_append_right _ h)))
set_option maxRecDepth 100000 in
set_option maxHeartbeats 4000000 in
theorem k_X1_isFull (l : Launch) (D : va_G) (cy : Nat → ClassId) (zs : Nat → Nat) (a : Nat → Nat) (lab : Nat → Option Nat) (quo : Nat → Nat) (spe : Nat → Nat) (md : Int32) (ed : Option (Nat × Nat)) (lis : Nat → Nat) (lc : Nat) (see : Nat → Nat → Int32) (cnt : Nat → Nat) (Fs : List FT) (hI : CI lab quo spe ed lis lc cnt Fs)    : Mi l D cy zs yX1_isFull wsX1_isFull rmX1_isFull [.ref (a 0)] (wC cy a (zs 0) lab quo spe md ed lis lc see cnt Fs) (PQ (bI (decide (200 ≤ Fs.length))) (wC cy a (zs 0) lab quo spe md ed lis lc see cnt Fs)) := by
  refine Mi.of (lv := [(0, .ref (a 0))]) RX1 ⟨by decide, rfl⟩ rfl (Nat.le_of_ble_eq_true rfl) rfl ?_
  intro p e s m args below meth c A C hnm
  have hlc := hI.lcP
  have hln := hI.lenP
  refine g_aload_n C dX1_isFull_0 rfl 0 rfl ?_
  refine g_get (ci := 2) (v := .ref (a 4)) C iwX1_isFull_X1 0 rfl rfl 3 (by decide) (C.hw (List.mem_cons_of_mem _ (List.mem_append_left _ (List.mem_append_left _ (List.mem_of_getElem? (i := 0) rfl))))) (fun _ h9 => h9) rfl dX1_isFull_1 ?_
  refine g_Vi (ci := 0) (st := []) C (k_Jx4a65c_size_8abf5 l D cy zs (wC cy a (zs 0) lab quo spe md ed lis lc see cnt Fs)  (show (wC cy a (zs 0) lab quo spe md ed lis lc see cnt Fs)[4]? = some (a 4, .inr (0, [.int md, .ref (edr (zs 0) ed), .int (nI Fs.length)])) from rfl) ) gX1_isFull_Jx4a65c_size_8abf5 rfl ⟨rfl, ydJx4a65c_size_8abf5⟩ 4 rfl rfl ⟨Nat.le_of_ble_eq_true rfl, Nat.le_of_ble_eq_true rfl⟩ ⟨Nat.le_of_ble_eq_true rfl, Nat.le_of_ble_eq_true rfl⟩ rfl (Nat.le_of_ble_eq_true rfl) dX1_isFull_4 (fun r4 w4 h4 => ?_)
  obtain ⟨h4a, h4b⟩ := h4
  subst h4a
  have h4b := h4b.symm
  subst h4b
  refine g_sipush (v := nI 200) C dX1_isFull_7 (by decide +kernel) ?_
  refine g_icmp_lt (tgt := 17) C dX1_isFull_10 (by decide) (fun c10 => ?_) (fun c10 => ?_)
  · skip
    have c10 := c_lt0 (by omega) (by omega) c10
    refine g_iconst (v := nI 0) C dX1_isFull_17 (by decide +kernel) ?_
    exact g_zret C rfl (Or.inl rfl) (⟨bI_f (by omega), rfl⟩) (Nat.le_of_ble_eq_true rfl) (Nat.le_of_ble_eq_true rfl) dX1_isFull_18
  · skip
    have c10 := c_lt1 (by omega) (by omega) c10
    refine g_iconst (v := nI 1) C dX1_isFull_13 (by decide +kernel) ?_
    refine g_goto (tgt := 18) C dX1_isFull_14 (by decide) ?_
    exact g_zret C rfl (Or.inr rfl) (⟨bI_t (by omega), rfl⟩) (Nat.le_of_ble_eq_true rfl) (Nat.le_of_ble_eq_true rfl) dX1_isFull_18
abbrev rmX1_placeOf : Room := { frames := 3, cells := 0, slots := 0, locals := 64 }
theorem ydX1_placeOf : yX1_placeOf.cls ≠ "java/lang/invoke/MethodHandle" ∧ yX1_placeOf.cls ≠ "java/lang/invoke/VarHandle" ∧ (parseMethodDescriptor yX1_placeOf.desc).map (fun d => d.parameters.length) = some 1 := by decide +kernel
theorem iwX1_placeOf_X1 : ∀ w ∈ u_ws RX1 TX1 8, w ∈ wsX1_placeOf := fun _ h => (List.mem_cons_of_mem _ (List.mem_append_left _ (List.mem_append_left _ (List.mem_append_right _ h))))
theorem iwX1_placeOf_X0 : ∀ w ∈ u_ws RX0 TX0 6, w ∈ wsX1_placeOf := fun _ h => (List.mem_cons_of_mem _ (List.mem_append_left _ (List.mem_append_right _ h)))
set_option maxRecDepth 100000 in
set_option maxHeartbeats 4000000 in
theorem k_X1_placeOf (l : Launch) (D : va_G) (cy : Nat → ClassId) (zs : Nat → Nat) (a : Nat → Nat) (lab : Nat → Option Nat) (quo : Nat → Nat) (spe : Nat → Nat) (md : Int32) (ed : Option (Nat × Nat)) (lis : Nat → Nat) (lc : Nat) (see : Nat → Nat → Int32) (cnt : Nat → Nat) (Fs : List FT) (hI : CI lab quo spe ed lis lc cnt Fs)  (key : Nat) (hkey : key < 2 ^ 31) : Mi l D cy zs yX1_placeOf wsX1_placeOf rmX1_placeOf [.ref (a 0), .int (nI key)] (wC cy a (zs 0) lab quo spe md ed lis lc see cnt Fs) (PQ (fI (plF Fs key)) (wC cy a (zs 0) lab quo spe md ed lis lc see cnt Fs)) := by
  refine Mi.of (lv := [(0, .ref (a 0)), (1, .int (nI key))]) RX1 ⟨by decide, rfl⟩ rfl (Nat.le_of_ble_eq_true rfl) rfl ?_
  intro p e s m args below meth c A C hnm
  have hlc := hI.lcP
  have hln := hI.lenP
  refine g_iconst (v := nI 0) C dX1_placeOf_0 (by decide +kernel) ?_
  refine g_istore_n (lv' := [(2, .int (nI 0)), (0, .ref (a 0)), (1, .int (nI key))]) C dX1_placeOf_1 rfl (by decide) rfl ?_
  refine g_sub (lv' := [(0, .ref (a 0)), (1, .int (nI key)), (2, .int (nI 0))]) [1, 2, 0] rfl ?_
  refine g_loop1 (jp := 2) (fun (k : Nat) => (k ≤ Fs.length) ∧ (∀ (j : Nat) (G : FT), j < k → Fs[j]? = some G → ¬ G.2.2.1 = key)) (fun (k : Nat) => Fs.length - k) (fun (k : Nat) => (wC cy a (zs 0) lab quo spe md ed lis lc see cnt Fs)) (fun (k : Nat) => [(0, .ref (a 0)), (1, .int (nI key)), (2, .int (nI k))]) (fun (k : Nat) => []) (fun k hI2 ih2 => ?_) 0 (⟨Nat.zero_le _, fun j G h9 => absurd h9 (Nat.not_lt_zero _)⟩)
  obtain ⟨hk, hj⟩ := hI2
  refine g_iload_n C dX1_placeOf_2 rfl 2 rfl ?_
  refine g_aload_n C dX1_placeOf_3 rfl 0 rfl ?_
  refine g_get (ci := 2) (v := .ref (a 4)) C iwX1_placeOf_X1 0 rfl rfl 3 (by decide) (C.hw (List.mem_cons_of_mem _ (List.mem_append_left _ (List.mem_append_left _ (List.mem_append_left _ (List.mem_append_left _ (List.mem_of_getElem? (i := 0) rfl))))))) (fun _ h9 => h9) rfl dX1_placeOf_4 ?_
  refine g_Vi (ci := 0) (st := [.int (nI k)]) C (k_Jx4a65c_size_8abf5 l D cy zs (wC cy a (zs 0) lab quo spe md ed lis lc see cnt Fs)  (show (wC cy a (zs 0) lab quo spe md ed lis lc see cnt Fs)[4]? = some (a 4, .inr (0, [.int md, .ref (edr (zs 0) ed), .int (nI Fs.length)])) from rfl) ) gX1_placeOf_Jx4a65c_size_8abf5 rfl ⟨rfl, ydJx4a65c_size_8abf5⟩ 4 rfl rfl ⟨Nat.le_of_ble_eq_true rfl, Nat.le_of_ble_eq_true rfl⟩ ⟨Nat.le_of_ble_eq_true rfl, Nat.le_of_ble_eq_true rfl⟩ rfl (Nat.le_of_ble_eq_true rfl) dX1_placeOf_7 (fun r7 w7 h7 => ?_)
  obtain ⟨h7a, h7b⟩ := h7
  subst h7a
  have h7b := h7b.symm
  subst h7b
  refine g_icmp_ge (tgt := 39) C dX1_placeOf_10 (by decide) (fun c10 => ?_) (fun c10 => ?_)
  · skip
    have c10 := c_ge0 (by omega) (by omega) c10
    refine g_iconst (v := (-1)) C dX1_placeOf_39 (by decide +kernel) ?_
    exact g_iret C rfl (⟨(congrArg fI (fs_e hj (by omega))).symm, rfl⟩) (Nat.le_of_ble_eq_true rfl) (Nat.le_of_ble_eq_true rfl) dX1_placeOf_40
  · skip
    have c10 := c_ge1 (by omega) (by omega) c10
    refine g_aload_n C dX1_placeOf_13 rfl 0 rfl ?_
    refine g_get (ci := 2) (v := .ref (a 4)) C iwX1_placeOf_X1 0 rfl rfl 3 (by decide) (C.hw (List.mem_cons_of_mem _ (List.mem_append_left _ (List.mem_append_left _ (List.mem_append_left _ (List.mem_append_left _ (List.mem_of_getElem? (i := 0) rfl))))))) (fun _ h9 => h9) rfl dX1_placeOf_14 ?_
    refine g_iload_n C dX1_placeOf_17 rfl 2 rfl ?_
    obtain ⟨⟨ob18, ar18, ky18, fo18, ce18, ct18, gi18, gv18⟩, hF18⟩ : ∃ F, Fs[k]? = some F := ⟨_, List.getElem?_eq_getElem (by omega)⟩
    obtain ⟨hk18, hct18⟩ := hI.flP hF18
    obtain ⟨eq18, cap18, hed18, hca18, hcb18⟩ := hI.edP (show 0 < Fs.length by omega)
    refine g_Vq (ci := 0) (st := []) C (k_Jx4a65c_get_915e3 l D cy zs (wC cy a (zs 0) lab quo spe md ed lis lc see cnt Fs) k (show (wC cy a (zs 0) lab quo spe md ed lis lc see cnt Fs)[4]? = some (a 4, .inr (0, [.int md, .ref (edr (zs 0) ed), .int (nI Fs.length)])) from rfl) (wC_ed hed18) (by omega) hca18 (by omega) (show obF Fs k = some ob18 by unfold obF; rw [hF18]; rfl)) gX1_placeOf_Jx4a65c_get_915e3 rfl ⟨rfl, ydJx4a65c_get_915e3⟩ 4 rfl rfl ⟨Nat.le_of_ble_eq_true rfl, Nat.le_of_ble_eq_true rfl⟩ ⟨Nat.le_of_ble_eq_true rfl, Nat.le_of_ble_eq_true rfl⟩ rfl (Nat.le_of_ble_eq_true rfl) dX1_placeOf_18 (fun r18 w18 h18 => ?_)
    obtain ⟨h18a, h18b⟩ := h18
    subst h18a
    have h18b := h18b.symm
    subst h18b
    refine g_castS (ci := 1) C (C.hw (List.mem_cons_of_mem _ (List.mem_append_left _ (List.mem_append_left _ (List.mem_append_left _ (List.mem_append_left _ (List.mem_of_getElem? (i := 1) rfl))))))) (24 + 2 * k) (wC_obj hF18) rfl dX1_placeOf_21 ?_
    refine g_get (ci := 1) (v := .int (nI ky18)) C iwX1_placeOf_X0 (24 + 2 * k) (wC_obj hF18) rfl 0 (by decide) (C.hw (List.mem_cons_of_mem _ (List.mem_append_left _ (List.mem_append_left _ (List.mem_append_left _ (List.mem_append_left _ (List.mem_of_getElem? (i := 2) rfl))))))) (fun _ h9 => h9) rfl dX1_placeOf_24 ?_
    refine g_iload_n C dX1_placeOf_27 rfl 1 rfl ?_
    refine g_icmp_ne (tgt := 33) C dX1_placeOf_28 (by decide) (fun c28 => ?_) (fun c28 => ?_)
    · skip
      have c28 := c_eq1 (by omega) (by omega) c28
      refine g_iinc (q := 2) (v := nI (k + 1)) (lv' := [(2, .int (nI (k + 1))), (0, .ref (a 0)), (1, .int (nI key))]) C dX1_placeOf_33 rfl (nI_inc1 _) (by decide) rfl ?_
      refine g_goto (tgt := 2) C dX1_placeOf_36 (by decide) ?_
      exact g_sub (lv' := [(0, .ref (a 0)), (1, .int (nI key)), (2, .int (nI (k + 1)))]) [1, 2, 0] rfl (ih2 (k + 1) (⟨by omega, fs_s hj hF18 c28⟩) (by omega))
    · skip
      have c28 := c_eq0 (by omega) (by omega) c28
      refine g_iload_n C dX1_placeOf_31 rfl 2 rfl ?_
      exact g_iret C rfl (⟨(congrArg fI (plF_some hF18 c28 hj)).symm, rfl⟩) (Nat.le_of_ble_eq_true rfl) (Nat.le_of_ble_eq_true rfl) dX1_placeOf_32
abbrev rmX1_usedBy : Room := { frames := 3, cells := 0, slots := 0, locals := 64 }
theorem ydX1_usedBy : yX1_usedBy.cls ≠ "java/lang/invoke/MethodHandle" ∧ yX1_usedBy.cls ≠ "java/lang/invoke/VarHandle" ∧ (parseMethodDescriptor yX1_usedBy.desc).map (fun d => d.parameters.length) = some 1 := by decide +kernel
theorem iwX1_usedBy_X1 : ∀ w ∈ u_ws RX1 TX1 8, w ∈ wsX1_usedBy := fun _ h => (List.mem_cons_of_mem _ (List.mem_append_left _ (List.mem_append_left _ (List.mem_append_right _ h))))
theorem iwX1_usedBy_X0 : ∀ w ∈ u_ws RX0 TX0 6, w ∈ wsX1_usedBy := fun _ h => (List.mem_cons_of_mem _ (List.mem_append_left _ (List.mem_append_right _ h)))
set_option maxRecDepth 100000 in
set_option maxHeartbeats 4000000 in
theorem k_X1_usedBy (l : Launch) (D : va_G) (cy : Nat → ClassId) (zs : Nat → Nat) (a : Nat → Nat) (lab : Nat → Option Nat) (quo : Nat → Nat) (spe : Nat → Nat) (md : Int32) (ed : Option (Nat × Nat)) (lis : Nat → Nat) (lc : Nat) (see : Nat → Nat → Int32) (cnt : Nat → Nat) (Fs : List FT) (hI : CI lab quo spe ed lis lc cnt Fs)  (L : Nat) (hL : L < 1024) : Mi l D cy zs yX1_usedBy wsX1_usedBy rmX1_usedBy [.ref (a 0), .int (nI L)] (wC cy a (zs 0) lab quo spe md ed lis lc see cnt Fs) (PQ (nI (usF spe Fs L)) (wC cy a (zs 0) lab quo spe md ed lis lc see cnt Fs)) := by
  refine Mi.of (lv := [(0, .ref (a 0)), (1, .int (nI L))]) RX1 ⟨by decide, rfl⟩ rfl (Nat.le_of_ble_eq_true rfl) rfl ?_
  intro p e s m args below meth c A C hnm
  have hlc := hI.lcP
  have hln := hI.lenP
  refine g_aload_n C dX1_usedBy_0 rfl 0 rfl ?_
  refine g_get (ci := 2) (v := .ref (a 3)) C iwX1_usedBy_X1 0 rfl rfl 2 (by decide) (C.hw (List.mem_cons_of_mem _ (List.mem_append_left _ (List.mem_append_left _ (List.mem_append_left _ (List.mem_append_left _ (List.mem_of_getElem? (i := 0) rfl))))))) (fun _ h9 => h9) rfl dX1_usedBy_1 ?_
  refine g_iload_n C dX1_usedBy_4 rfl 1 rfl ?_
  refine g_ialdN (nn := 1024) (j := L) (f := spe) C 3 rfl (by omega) n31_1024 dX1_usedBy_5 ?_
  have b5 := hI.speP L
  refine g_istore_n (lv' := [(2, .int (nI (spe L))), (0, .ref (a 0)), (1, .int (nI L))]) C dX1_usedBy_6 rfl (by decide) rfl ?_
  refine g_iconst (v := nI 0) C dX1_usedBy_7 (by decide +kernel) ?_
  refine g_istore_n (lv' := [(3, .int (nI 0)), (2, .int (nI (spe L))), (0, .ref (a 0)), (1, .int (nI L))]) C dX1_usedBy_8 rfl (by decide) rfl ?_
  refine g_sub (lv' := [(0, .ref (a 0)), (1, .int (nI L)), (2, .int (nI (spe L))), (3, .int (nI 0))]) [2, 3, 1, 0] rfl ?_
  refine g_loop2 (jp := 9) (fun (u : Nat) (k : Nat) => (k ≤ Fs.length) ∧ (u = spe L + ((Fs.take k).map (unF L)).sum)) (fun (u : Nat) (k : Nat) => Fs.length - k) (fun (u : Nat) (k : Nat) => (wC cy a (zs 0) lab quo spe md ed lis lc see cnt Fs)) (fun (u : Nat) (k : Nat) => [(0, .ref (a 0)), (1, .int (nI L)), (2, .int (nI u)), (3, .int (nI k))]) (fun (u : Nat) (k : Nat) => []) (fun u k hI9 ih9 => ?_) (spe L) 0 (⟨Nat.zero_le _, rfl⟩)
  obtain ⟨hk, hu⟩ := hI9
  have hs := hI.speP L
  have hus := hI.us L k
  refine g_iload_n C dX1_usedBy_9 rfl 3 rfl ?_
  refine g_aload_n C dX1_usedBy_10 rfl 0 rfl ?_
  refine g_get (ci := 2) (v := .ref (a 4)) C iwX1_usedBy_X1 0 rfl rfl 3 (by decide) (C.hw (List.mem_cons_of_mem _ (List.mem_append_left _ (List.mem_append_left _ (List.mem_append_left _ (List.mem_append_left _ (List.mem_of_getElem? (i := 1) rfl))))))) (fun _ h9 => h9) rfl dX1_usedBy_11 ?_
  refine g_Vi (ci := 0) (st := [.int (nI k)]) C (k_Jx4a65c_size_8abf5 l D cy zs (wC cy a (zs 0) lab quo spe md ed lis lc see cnt Fs)  (show (wC cy a (zs 0) lab quo spe md ed lis lc see cnt Fs)[4]? = some (a 4, .inr (0, [.int md, .ref (edr (zs 0) ed), .int (nI Fs.length)])) from rfl) ) gX1_usedBy_Jx4a65c_size_8abf5 rfl ⟨rfl, ydJx4a65c_size_8abf5⟩ 4 rfl rfl ⟨Nat.le_of_ble_eq_true rfl, Nat.le_of_ble_eq_true rfl⟩ ⟨Nat.le_of_ble_eq_true rfl, Nat.le_of_ble_eq_true rfl⟩ rfl (Nat.le_of_ble_eq_true rfl) dX1_usedBy_14 (fun r14 w14 h14 => ?_)
  obtain ⟨h14a, h14b⟩ := h14
  subst h14a
  have h14b := h14b.symm
  subst h14b
  refine g_icmp_ge (tgt := 59) C dX1_usedBy_17 (by decide) (fun c17 => ?_) (fun c17 => ?_)
  · skip
    have c17 := c_ge0 (by omega) (by omega) c17
    refine g_iload_n C dX1_usedBy_59 rfl 2 rfl ?_
    exact g_iret C rfl (⟨by rw [hu, show k = Fs.length by omega, List.take_length]; rfl, rfl⟩) (Nat.le_of_ble_eq_true rfl) (Nat.le_of_ble_eq_true rfl) dX1_usedBy_60
  · skip
    have c17 := c_ge1 (by omega) (by omega) c17
    refine g_aload_n C dX1_usedBy_20 rfl 0 rfl ?_
    refine g_get (ci := 2) (v := .ref (a 4)) C iwX1_usedBy_X1 0 rfl rfl 3 (by decide) (C.hw (List.mem_cons_of_mem _ (List.mem_append_left _ (List.mem_append_left _ (List.mem_append_left _ (List.mem_append_left _ (List.mem_of_getElem? (i := 1) rfl))))))) (fun _ h9 => h9) rfl dX1_usedBy_21 ?_
    refine g_iload_n C dX1_usedBy_24 rfl 3 rfl ?_
    obtain ⟨⟨ob25, ar25, ky25, fo25, ce25, ct25, gi25, gv25⟩, hF25⟩ : ∃ F, Fs[k]? = some F := ⟨_, List.getElem?_eq_getElem (by omega)⟩
    obtain ⟨hk25, hct25⟩ := hI.flP hF25
    obtain ⟨eq25, cap25, hed25, hca25, hcb25⟩ := hI.edP (show 0 < Fs.length by omega)
    refine g_Vq (ci := 0) (st := []) C (k_Jx4a65c_get_915e3 l D cy zs (wC cy a (zs 0) lab quo spe md ed lis lc see cnt Fs) k (show (wC cy a (zs 0) lab quo spe md ed lis lc see cnt Fs)[4]? = some (a 4, .inr (0, [.int md, .ref (edr (zs 0) ed), .int (nI Fs.length)])) from rfl) (wC_ed hed25) (by omega) hca25 (by omega) (show obF Fs k = some ob25 by unfold obF; rw [hF25]; rfl)) gX1_usedBy_Jx4a65c_get_915e3 rfl ⟨rfl, ydJx4a65c_get_915e3⟩ 4 rfl rfl ⟨Nat.le_of_ble_eq_true rfl, Nat.le_of_ble_eq_true rfl⟩ ⟨Nat.le_of_ble_eq_true rfl, Nat.le_of_ble_eq_true rfl⟩ rfl (Nat.le_of_ble_eq_true rfl) dX1_usedBy_25 (fun r25 w25 h25 => ?_)
    obtain ⟨h25a, h25b⟩ := h25
    subst h25a
    have h25b := h25b.symm
    subst h25b
    refine g_castS (ci := 1) C (C.hw (List.mem_cons_of_mem _ (List.mem_append_left _ (List.mem_append_left _ (List.mem_append_left _ (List.mem_append_left _ (List.mem_of_getElem? (i := 2) rfl))))))) (24 + 2 * k) (wC_obj hF25) rfl dX1_usedBy_28 ?_
    refine g_astore (lv' := [(4, .ref ob25), (0, .ref (a 0)), (1, .int (nI L)), (2, .int (nI u)), (3, .int (nI k))]) C dX1_usedBy_31 (by decide) rfl ?_
    refine g_aload C dX1_usedBy_33 0 rfl ?_
    refine g_get (ci := 1) (v := .int (nI ky25)) C iwX1_usedBy_X0 (24 + 2 * k) (wC_obj hF25) rfl 0 (by decide) (C.hw (List.mem_cons_of_mem _ (List.mem_append_left _ (List.mem_append_left _ (List.mem_append_left _ (List.mem_append_left _ (List.mem_of_getElem? (i := 3) rfl))))))) (fun _ h9 => h9) rfl dX1_usedBy_35 ?_
    refine g_Si (st := []) C (k_X1_labelOfAddress l D cy zs (wC cy a (zs 0) lab quo spe md ed lis lc see cnt Fs) ky25 (by omega)) gX1_usedBy_X1_labelOfAddress rfl ydX1_labelOfAddress ⟨Nat.le_of_ble_eq_true rfl, Nat.le_of_ble_eq_true rfl⟩ ⟨Nat.le_of_ble_eq_true rfl, Nat.le_of_ble_eq_true rfl⟩ rfl (Nat.le_of_ble_eq_true rfl) dX1_usedBy_38 (fun r38 w38 h38 => ?_)
    obtain ⟨h38a, h38b⟩ := h38
    subst h38a
    have h38b := h38b.symm
    subst h38b
    refine g_iload_n C dX1_usedBy_41 rfl 2 rfl ?_
    refine g_icmp_ne (tgt := 53) C dX1_usedBy_42 (by decide) (fun c42 => ?_) (fun c42 => ?_)
    · skip
      have c42 := c_eq1 (by omega) (by omega) c42
      refine g_iinc (q := 4) (v := nI (k + 1)) (lv' := [(3, .int (nI (k + 1))), (4, .ref ob25), (0, .ref (a 0)), (1, .int (nI L)), (2, .int (nI u))]) C dX1_usedBy_53 rfl (nI_inc1 _) (by decide) rfl ?_
      refine g_goto (tgt := 9) C dX1_usedBy_56 (by decide) ?_
      exact g_sub (lv' := [(0, .ref (a 0)), (1, .int (nI L)), (2, .int (nI u)), (3, .int (nI (k + 1)))]) [2, 3, 4, 0] rfl (ih9 u (k + 1) (⟨by omega, by have h9 := sum_take (f := unF L) hF25; rw [unF_f c42] at h9; omega⟩) (by omega))
    · skip
      have c42 := c_eq0 (by omega) (by omega) c42
      refine g_iload_n C dX1_usedBy_45 rfl 3 rfl ?_
      refine g_aload C dX1_usedBy_46 0 rfl ?_
      refine g_Vi (ci := 1) (st := [.int (nI u)]) C (k_X0_use l D cy zs (wC cy a (zs 0) lab quo spe md ed lis lc see cnt Fs)  (wC_obj hF25) (by omega)) gX1_usedBy_X0_use rfl ⟨rfl, ydX0_use⟩ (24 + 2 * k) (wC_obj hF25) rfl ⟨Nat.le_of_ble_eq_true rfl, Nat.le_of_ble_eq_true rfl⟩ ⟨Nat.le_of_ble_eq_true rfl, Nat.le_of_ble_eq_true rfl⟩ rfl (Nat.le_of_ble_eq_true rfl) dX1_usedBy_48 (fun r48 w48 h48 => ?_)
      obtain ⟨h48a, h48b⟩ := h48
      subst h48a
      have h48b := h48b.symm
      subst h48b
      have hun := untN_le (gb := gi25) (g := gv25) hct25
      refine g_iadd (v := nI (u + (untN gi25 gv25 ct25))) C dX1_usedBy_51 (nI_add _ _) ?_
      refine g_istore_n (lv' := [(2, .int (nI (u + (untN gi25 gv25 ct25)))), (4, .ref ob25), (0, .ref (a 0)), (1, .int (nI L)), (3, .int (nI k))]) C dX1_usedBy_52 rfl (by decide) rfl ?_
      refine g_iinc (q := 4) (v := nI (k + 1)) (lv' := [(3, .int (nI (k + 1))), (2, .int (nI (u + (untN gi25 gv25 ct25)))), (4, .ref ob25), (0, .ref (a 0)), (1, .int (nI L))]) C dX1_usedBy_53 rfl (nI_inc1 _) (by decide) rfl ?_
      refine g_goto (tgt := 9) C dX1_usedBy_56 (by decide) ?_
      exact g_sub (lv' := [(0, .ref (a 0)), (1, .int (nI L)), (2, .int (nI (u + (untN gi25 gv25 ct25)))), (3, .int (nI (k + 1)))]) [3, 4, 1, 0] rfl (ih9 (u + (untN gi25 gv25 ct25)) (k + 1) (⟨by omega, by have h9 := sum_take (f := unF L) hF25; rw [unF_t c42] at h9; omega⟩) (by omega))
abbrev rmX1_countFilesAt : Room := { frames := 3, cells := 0, slots := 0, locals := 64 }
theorem ydX1_countFilesAt : yX1_countFilesAt.cls ≠ "java/lang/invoke/MethodHandle" ∧ yX1_countFilesAt.cls ≠ "java/lang/invoke/VarHandle" ∧ (parseMethodDescriptor yX1_countFilesAt.desc).map (fun d => d.parameters.length) = some 1 := by decide +kernel
theorem iwX1_countFilesAt_X1 : ∀ w ∈ u_ws RX1 TX1 8, w ∈ wsX1_countFilesAt := fun _ h => (List.mem_cons_of_mem _ (List.mem_append_left _ (List.mem_append_left _ (List.mem_append_right _ h))))
theorem iwX1_countFilesAt_X0 : ∀ w ∈ u_ws RX0 TX0 6, w ∈ wsX1_countFilesAt := fun _ h => (List.mem_cons_of_mem _ (List.mem_append_left _ (List.mem_append_right _ h)))
set_option maxRecDepth 100000 in
set_option maxHeartbeats 4000000 in
theorem k_X1_countFilesAt (l : Launch) (D : va_G) (cy : Nat → ClassId) (zs : Nat → Nat) (a : Nat → Nat) (lab : Nat → Option Nat) (quo : Nat → Nat) (spe : Nat → Nat) (md : Int32) (ed : Option (Nat × Nat)) (lis : Nat → Nat) (lc : Nat) (see : Nat → Nat → Int32) (cnt : Nat → Nat) (Fs : List FT) (hI : CI lab quo spe ed lis lc cnt Fs)  (L : Nat) (hL : L < 1024) : Mi l D cy zs yX1_countFilesAt wsX1_countFilesAt rmX1_countFilesAt [.ref (a 0), .int (nI L)] (wC cy a (zs 0) lab quo spe md ed lis lc see cnt Fs) (PQ (nI (cnF Fs L)) (wC cy a (zs 0) lab quo spe md ed lis lc see cnt Fs)) := by
  refine Mi.of (lv := [(0, .ref (a 0)), (1, .int (nI L))]) RX1 ⟨by decide, rfl⟩ rfl (Nat.le_of_ble_eq_true rfl) rfl ?_
  intro p e s m args below meth c A C hnm
  have hlc := hI.lcP
  have hln := hI.lenP
  refine g_iconst (v := nI 0) C dX1_countFilesAt_0 (by decide +kernel) ?_
  refine g_istore_n (lv' := [(2, .int (nI 0)), (0, .ref (a 0)), (1, .int (nI L))]) C dX1_countFilesAt_1 rfl (by decide) rfl ?_
  refine g_iconst (v := nI 0) C dX1_countFilesAt_2 (by decide +kernel) ?_
  refine g_istore_n (lv' := [(3, .int (nI 0)), (2, .int (nI 0)), (0, .ref (a 0)), (1, .int (nI L))]) C dX1_countFilesAt_3 rfl (by decide) rfl ?_
  refine g_sub (lv' := [(0, .ref (a 0)), (1, .int (nI L)), (2, .int (nI 0)), (3, .int (nI 0))]) [2, 3, 1, 0] rfl ?_
  refine g_loop2 (jp := 4) (fun (u : Nat) (k : Nat) => (k ≤ Fs.length) ∧ (u = ((Fs.take k).map (oneF L)).sum)) (fun (u : Nat) (k : Nat) => Fs.length - k) (fun (u : Nat) (k : Nat) => (wC cy a (zs 0) lab quo spe md ed lis lc see cnt Fs)) (fun (u : Nat) (k : Nat) => [(0, .ref (a 0)), (1, .int (nI L)), (2, .int (nI u)), (3, .int (nI k))]) (fun (u : Nat) (k : Nat) => []) (fun u k hI4 ih4 => ?_) 0 0 (⟨Nat.zero_le _, rfl⟩)
  obtain ⟨hk, hu⟩ := hI4
  have hus := hI.cn L k
  refine g_iload_n C dX1_countFilesAt_4 rfl 3 rfl ?_
  refine g_aload_n C dX1_countFilesAt_5 rfl 0 rfl ?_
  refine g_get (ci := 2) (v := .ref (a 4)) C iwX1_countFilesAt_X1 0 rfl rfl 3 (by decide) (C.hw (List.mem_cons_of_mem _ (List.mem_append_left _ (List.mem_append_left _ (List.mem_append_left _ (List.mem_append_left _ (List.mem_of_getElem? (i := 0) rfl))))))) (fun _ h9 => h9) rfl dX1_countFilesAt_6 ?_
  refine g_Vi (ci := 0) (st := [.int (nI k)]) C (k_Jx4a65c_size_8abf5 l D cy zs (wC cy a (zs 0) lab quo spe md ed lis lc see cnt Fs)  (show (wC cy a (zs 0) lab quo spe md ed lis lc see cnt Fs)[4]? = some (a 4, .inr (0, [.int md, .ref (edr (zs 0) ed), .int (nI Fs.length)])) from rfl) ) gX1_countFilesAt_Jx4a65c_size_8abf5 rfl ⟨rfl, ydJx4a65c_size_8abf5⟩ 4 rfl rfl ⟨Nat.le_of_ble_eq_true rfl, Nat.le_of_ble_eq_true rfl⟩ ⟨Nat.le_of_ble_eq_true rfl, Nat.le_of_ble_eq_true rfl⟩ rfl (Nat.le_of_ble_eq_true rfl) dX1_countFilesAt_9 (fun r9 w9 h9 => ?_)
  obtain ⟨h9a, h9b⟩ := h9
  subst h9a
  have h9b := h9b.symm
  subst h9b
  refine g_icmp_ge (tgt := 45) C dX1_countFilesAt_12 (by decide) (fun c12 => ?_) (fun c12 => ?_)
  · skip
    have c12 := c_ge0 (by omega) (by omega) c12
    refine g_iload_n C dX1_countFilesAt_45 rfl 2 rfl ?_
    exact g_iret C rfl (⟨by rw [hu, show k = Fs.length by omega, List.take_length]; rfl, rfl⟩) (Nat.le_of_ble_eq_true rfl) (Nat.le_of_ble_eq_true rfl) dX1_countFilesAt_46
  · skip
    have c12 := c_ge1 (by omega) (by omega) c12
    refine g_aload_n C dX1_countFilesAt_15 rfl 0 rfl ?_
    refine g_get (ci := 2) (v := .ref (a 4)) C iwX1_countFilesAt_X1 0 rfl rfl 3 (by decide) (C.hw (List.mem_cons_of_mem _ (List.mem_append_left _ (List.mem_append_left _ (List.mem_append_left _ (List.mem_append_left _ (List.mem_of_getElem? (i := 0) rfl))))))) (fun _ h9 => h9) rfl dX1_countFilesAt_16 ?_
    refine g_iload_n C dX1_countFilesAt_19 rfl 3 rfl ?_
    obtain ⟨⟨ob20, ar20, ky20, fo20, ce20, ct20, gi20, gv20⟩, hF20⟩ : ∃ F, Fs[k]? = some F := ⟨_, List.getElem?_eq_getElem (by omega)⟩
    obtain ⟨hk20, hct20⟩ := hI.flP hF20
    obtain ⟨eq20, cap20, hed20, hca20, hcb20⟩ := hI.edP (show 0 < Fs.length by omega)
    refine g_Vq (ci := 0) (st := []) C (k_Jx4a65c_get_915e3 l D cy zs (wC cy a (zs 0) lab quo spe md ed lis lc see cnt Fs) k (show (wC cy a (zs 0) lab quo spe md ed lis lc see cnt Fs)[4]? = some (a 4, .inr (0, [.int md, .ref (edr (zs 0) ed), .int (nI Fs.length)])) from rfl) (wC_ed hed20) (by omega) hca20 (by omega) (show obF Fs k = some ob20 by unfold obF; rw [hF20]; rfl)) gX1_countFilesAt_Jx4a65c_get_915e3 rfl ⟨rfl, ydJx4a65c_get_915e3⟩ 4 rfl rfl ⟨Nat.le_of_ble_eq_true rfl, Nat.le_of_ble_eq_true rfl⟩ ⟨Nat.le_of_ble_eq_true rfl, Nat.le_of_ble_eq_true rfl⟩ rfl (Nat.le_of_ble_eq_true rfl) dX1_countFilesAt_20 (fun r20 w20 h20 => ?_)
    obtain ⟨h20a, h20b⟩ := h20
    subst h20a
    have h20b := h20b.symm
    subst h20b
    refine g_castS (ci := 1) C (C.hw (List.mem_cons_of_mem _ (List.mem_append_left _ (List.mem_append_left _ (List.mem_append_left _ (List.mem_append_left _ (List.mem_of_getElem? (i := 1) rfl))))))) (24 + 2 * k) (wC_obj hF20) rfl dX1_countFilesAt_23 ?_
    refine g_get (ci := 1) (v := .int (nI ky20)) C iwX1_countFilesAt_X0 (24 + 2 * k) (wC_obj hF20) rfl 0 (by decide) (C.hw (List.mem_cons_of_mem _ (List.mem_append_left _ (List.mem_append_left _ (List.mem_append_left _ (List.mem_append_left _ (List.mem_of_getElem? (i := 2) rfl))))))) (fun _ h9 => h9) rfl dX1_countFilesAt_26 ?_
    refine g_Si (st := []) C (k_X1_labelOfAddress l D cy zs (wC cy a (zs 0) lab quo spe md ed lis lc see cnt Fs) ky20 (by omega)) gX1_countFilesAt_X1_labelOfAddress rfl ydX1_labelOfAddress ⟨Nat.le_of_ble_eq_true rfl, Nat.le_of_ble_eq_true rfl⟩ ⟨Nat.le_of_ble_eq_true rfl, Nat.le_of_ble_eq_true rfl⟩ rfl (Nat.le_of_ble_eq_true rfl) dX1_countFilesAt_29 (fun r29 w29 h29 => ?_)
    obtain ⟨h29a, h29b⟩ := h29
    subst h29a
    have h29b := h29b.symm
    subst h29b
    refine g_iload_n C dX1_countFilesAt_32 rfl 1 rfl ?_
    refine g_icmp_ne (tgt := 39) C dX1_countFilesAt_33 (by decide) (fun c33 => ?_) (fun c33 => ?_)
    · skip
      have c33 := c_eq1 (by omega) (by omega) c33
      refine g_iinc (q := 3) (v := nI (k + 1)) (lv' := [(3, .int (nI (k + 1))), (0, .ref (a 0)), (1, .int (nI L)), (2, .int (nI u))]) C dX1_countFilesAt_39 rfl (nI_inc1 _) (by decide) rfl ?_
      refine g_goto (tgt := 4) C dX1_countFilesAt_42 (by decide) ?_
      exact g_sub (lv' := [(0, .ref (a 0)), (1, .int (nI L)), (2, .int (nI u)), (3, .int (nI (k + 1)))]) [1, 2, 3, 0] rfl (ih4 u (k + 1) (⟨by omega, by have h9 := sum_take (f := oneF L) hF20; rw [oneF_f c33] at h9; omega⟩) (by omega))
    · skip
      have c33 := c_eq0 (by omega) (by omega) c33
      refine g_iinc (q := 2) (v := nI (u + 1)) (lv' := [(2, .int (nI (u + 1))), (0, .ref (a 0)), (1, .int (nI L)), (3, .int (nI k))]) C dX1_countFilesAt_36 rfl (nI_inc1 _) (by decide) rfl ?_
      refine g_iinc (q := 3) (v := nI (k + 1)) (lv' := [(3, .int (nI (k + 1))), (2, .int (nI (u + 1))), (0, .ref (a 0)), (1, .int (nI L))]) C dX1_countFilesAt_39 rfl (nI_inc1 _) (by decide) rfl ?_
      refine g_goto (tgt := 4) C dX1_countFilesAt_42 (by decide) ?_
      exact g_sub (lv' := [(0, .ref (a 0)), (1, .int (nI L)), (2, .int (nI (u + 1))), (3, .int (nI (k + 1)))]) [2, 3, 1, 0] rfl (ih4 (u + 1) (k + 1) (⟨by omega, by have h9 := sum_take (f := oneF L) hF20; rw [oneF_t c33] at h9; omega⟩) (by omega))
abbrev rmX1_find : Room := { frames := 4, cells := 0, slots := 0, locals := 86 }
theorem ydX1_find : yX1_find.cls ≠ "java/lang/invoke/MethodHandle" ∧ yX1_find.cls ≠ "java/lang/invoke/VarHandle" ∧ (parseMethodDescriptor yX1_find.desc).map (fun d => d.parameters.length) = some 2 := by decide +kernel
theorem iwX1_find_X1 : ∀ w ∈ u_ws RX1 TX1 8, w ∈ wsX1_find := fun _ h => (List.mem_cons_of_mem _ (List.mem_append_left _ (List.mem_append_left _ (List.mem_append_right _ h))))
theorem iwX1_find_X0 : ∀ w ∈ u_ws RX0 TX0 6, w ∈ wsX1_find := fun _ h => (List.mem_cons_of_mem _ (List.mem_append_left _ (List.mem_append_right _ h)))
set_option maxRecDepth 100000 in
set_option maxHeartbeats 4000000 in
theorem k_X1_find (l : Launch) (D : va_G) (cy : Nat → ClassId) (zs : Nat → Nat) (a : Nat → Nat) (lab : Nat → Option Nat) (quo : Nat → Nat) (spe : Nat → Nat) (md : Int32) (ed : Option (Nat × Nat)) (lis : Nat → Nat) (lc : Nat) (see : Nat → Nat → Int32) (cnt : Nat → Nat) (Fs : List FT) (hI : CI lab quo spe ed lis lc cnt Fs)  (L : Nat) (q : Nat) (hL : L < 1024) (hq : q < 16) : Mq l D cy zs yX1_find wsX1_find rmX1_find [.ref (a 0), .int (nI L), .int (nI q)] (wC cy a (zs 0) lab quo spe md ed lis lc see cnt Fs) (fun r w => w = (wC cy a (zs 0) lab quo spe md ed lis lc see cnt Fs) ∧ ((plF Fs (16 * L + q) = none ∧ r = none) ∨ ∃ (i : Nat) (F : FT), plF Fs (16 * L + q) = some i ∧ Fs[i]? = some F ∧ F.2.2.1 = 16 * L + q ∧ r = some F.1)) := by
  refine Mq.of (lv := [(0, .ref (a 0)), (1, .int (nI L)), (2, .int (nI q))]) RX1 ⟨by decide, rfl⟩ rfl (Nat.le_of_ble_eq_true rfl) rfl ?_
  intro p e s m args below meth c A C hnm
  have hlc := hI.lcP
  have hln := hI.lenP
  refine g_aload_n C dX1_find_0 rfl 0 rfl ?_
  refine g_iload_n C dX1_find_1 rfl 1 rfl ?_
  refine g_iload_n C dX1_find_2 rfl 2 rfl ?_
  refine g_Si (st := [.ref (a 0)]) C (k_X1_addressOf l D cy zs (wC cy a (zs 0) lab quo spe md ed lis lc see cnt Fs) L q ) gX1_find_X1_addressOf rfl ydX1_addressOf ⟨Nat.le_of_ble_eq_true rfl, Nat.le_of_ble_eq_true rfl⟩ ⟨Nat.le_of_ble_eq_true rfl, Nat.le_of_ble_eq_true rfl⟩ rfl (Nat.le_of_ble_eq_true rfl) dX1_find_3 (fun r3 w3 h3 => ?_)
  obtain ⟨h3a, h3b⟩ := h3
  subst h3a
  have h3b := h3b.symm
  subst h3b
  refine g_Vi (ci := 2) (st := []) C (k_X1_placeOf l D cy zs a lab quo spe md ed lis lc see cnt Fs hI ((16 * L) + q) (by omega)) gX1_find_X1_placeOf rfl ⟨rfl, ydX1_placeOf⟩ 0 rfl rfl ⟨Nat.le_of_ble_eq_true rfl, Nat.le_of_ble_eq_true rfl⟩ ⟨Nat.le_of_ble_eq_true rfl, Nat.le_of_ble_eq_true rfl⟩ rfl (Nat.le_of_ble_eq_true rfl) dX1_find_6 (fun r6 w6 h6 => ?_)
  obtain ⟨h6a, h6b⟩ := h6
  subst h6a
  have h6b := h6b.symm
  subst h6b
  rcases e6 : plF Fs ((16 * L) + q) with _ | i6
  · skip
    refine g_istore_n (lv' := [(3, .int (-1)), (0, .ref (a 0)), (1, .int (nI L)), (2, .int (nI q))]) C dX1_find_9 rfl (by decide) rfl ?_
    refine g_iload_n C dX1_find_10 rfl 0 rfl ?_
    refine g_iconst (v := (-1)) C dX1_find_11 (by decide +kernel) ?_
    refine g_icmp_ne (tgt := 19) C dX1_find_12 (by decide) (fun c12 => ?_) (fun c12 => ?_)
    · skip
      exact absurd rfl c12
    · skip
      refine g_null C dX1_find_15 ?_
      refine g_goto (tgt := 30) C dX1_find_16 (by decide) ?_
      exact g_aret (r := none) C rfl (Or.inl ⟨_, rfl⟩) rfl (⟨rfl, Or.inl ⟨rfl, rfl⟩⟩) (Nat.le_of_ble_eq_true rfl) (Nat.le_of_ble_eq_true rfl) dX1_find_30
  · skip
    obtain ⟨⟨ob6, ar6, ky6, fo6, ce6, ct6, gi6, gv6⟩, hF6, hq6⟩ := plF_spec e6
    have hl6 := plF_lt e6
    obtain ⟨hk6, hct6⟩ := hI.flP hF6
    refine g_istore_n (lv' := [(3, .int (nI i6)), (0, .ref (a 0)), (1, .int (nI L)), (2, .int (nI q))]) C dX1_find_9 rfl (by decide) rfl ?_
    refine g_iload_n C dX1_find_10 rfl 0 rfl ?_
    refine g_iconst (v := (-1)) C dX1_find_11 (by decide +kernel) ?_
    refine g_icmp_ne (tgt := 19) C dX1_find_12 (by decide) (fun c12 => ?_) (fun c12 => ?_)
    · skip
      refine g_aload_n C dX1_find_19 rfl 1 rfl ?_
      refine g_get (ci := 2) (v := .ref (a 4)) C iwX1_find_X1 0 rfl rfl 3 (by decide) (C.hw (List.mem_cons_of_mem _ (List.mem_append_left _ (List.mem_append_left _ (List.mem_append_left _ (List.mem_append_left _ (List.mem_of_getElem? (i := 0) rfl))))))) (fun _ h9 => h9) rfl dX1_find_20 ?_
      refine g_iload_n C dX1_find_23 rfl 0 rfl ?_
      obtain ⟨eq24, cap24, hed24, hca24, hcb24⟩ := hI.edP (show 0 < Fs.length by omega)
      refine g_Vq (ci := 0) (st := []) C (k_Jx4a65c_get_915e3 l D cy zs (wC cy a (zs 0) lab quo spe md ed lis lc see cnt Fs) i6 (show (wC cy a (zs 0) lab quo spe md ed lis lc see cnt Fs)[4]? = some (a 4, .inr (0, [.int md, .ref (edr (zs 0) ed), .int (nI Fs.length)])) from rfl) (wC_ed hed24) (by omega) hca24 (by omega) (show obF Fs i6 = some ob6 by unfold obF; rw [hF6]; rfl)) gX1_find_Jx4a65c_get_915e3 rfl ⟨rfl, ydJx4a65c_get_915e3⟩ 4 rfl rfl ⟨Nat.le_of_ble_eq_true rfl, Nat.le_of_ble_eq_true rfl⟩ ⟨Nat.le_of_ble_eq_true rfl, Nat.le_of_ble_eq_true rfl⟩ rfl (Nat.le_of_ble_eq_true rfl) dX1_find_24 (fun r24 w24 h24 => ?_)
      obtain ⟨h24a, h24b⟩ := h24
      subst h24a
      have h24b := h24b.symm
      subst h24b
      refine g_castS (ci := 1) C (C.hw (List.mem_cons_of_mem _ (List.mem_append_left _ (List.mem_append_left _ (List.mem_append_left _ (List.mem_append_left _ (List.mem_of_getElem? (i := 1) rfl))))))) (24 + 2 * i6) (wC_obj hF6) rfl dX1_find_27 ?_
      exact g_aret (r := (some ob6)) C rfl (Or.inl ⟨_, rfl⟩) rfl (⟨rfl, Or.inr ⟨i6, _, rfl, hF6, hq6, rfl⟩⟩) (Nat.le_of_ble_eq_true rfl) (Nat.le_of_ble_eq_true rfl) dX1_find_30
    · skip
      exact absurd c12 (nI_nem1 (by omega))
abbrev rmX1_hasRoom : Room := { frames := 4, cells := 0, slots := 0, locals := 88 }
theorem ydX1_hasRoom : yX1_hasRoom.cls ≠ "java/lang/invoke/MethodHandle" ∧ yX1_hasRoom.cls ≠ "java/lang/invoke/VarHandle" ∧ (parseMethodDescriptor yX1_hasRoom.desc).map (fun d => d.parameters.length) = some 2 := by decide +kernel
theorem iwX1_hasRoom_X1 : ∀ w ∈ u_ws RX1 TX1 8, w ∈ wsX1_hasRoom := fun _ h => (List.mem_cons_of_mem _ (List.mem_append_left _ (List.mem_append_left _ (List.mem_append_right _ h))))
theorem iwX1_hasRoom_X0 : ∀ w ∈ u_ws RX0 TX0 6, w ∈ wsX1_hasRoom := fun _ h => (List.mem_cons_of_mem _ (List.mem_append_left _ (List.mem_append_right _ h)))
set_option maxRecDepth 100000 in
set_option maxHeartbeats 4000000 in
theorem k_X1_hasRoom (l : Launch) (D : va_G) (cy : Nat → ClassId) (zs : Nat → Nat) (a : Nat → Nat) (lab : Nat → Option Nat) (quo : Nat → Nat) (spe : Nat → Nat) (md : Int32) (ed : Option (Nat × Nat)) (lis : Nat → Nat) (lc : Nat) (see : Nat → Nat → Int32) (cnt : Nat → Nat) (Fs : List FT) (hI : CI lab quo spe ed lis lc cnt Fs) {t : Nat} (L : Nat) (v : Int32) (hL : L < 1024) (hv : nI (usF spe Fs L) + v = nI t) (ht : t < 2 ^ 31) : Mi l D cy zs yX1_hasRoom wsX1_hasRoom rmX1_hasRoom [.ref (a 0), .int (nI L), .int v] (wC cy a (zs 0) lab quo spe md ed lis lc see cnt Fs) (PQ (bI (decide (t ≤ quo L))) (wC cy a (zs 0) lab quo spe md ed lis lc see cnt Fs)) := by
  refine Mi.of (lv := [(0, .ref (a 0)), (1, .int (nI L)), (2, .int v)]) RX1 ⟨by decide, rfl⟩ rfl (Nat.le_of_ble_eq_true rfl) rfl ?_
  intro p e s m args below meth c A C hnm
  have hlc := hI.lcP
  have hln := hI.lenP
  refine g_aload_n C dX1_hasRoom_0 rfl 0 rfl ?_
  refine g_iload_n C dX1_hasRoom_1 rfl 1 rfl ?_
  refine g_Vi (ci := 2) (st := []) C (k_X1_usedBy l D cy zs a lab quo spe md ed lis lc see cnt Fs hI L (by omega)) gX1_hasRoom_X1_usedBy rfl ⟨rfl, ydX1_usedBy⟩ 0 rfl rfl ⟨Nat.le_of_ble_eq_true rfl, Nat.le_of_ble_eq_true rfl⟩ ⟨Nat.le_of_ble_eq_true rfl, Nat.le_of_ble_eq_true rfl⟩ rfl (Nat.le_of_ble_eq_true rfl) dX1_hasRoom_2 (fun r2 w2 h2 => ?_)
  obtain ⟨h2a, h2b⟩ := h2
  subst h2a
  have h2b := h2b.symm
  subst h2b
  refine g_iload_n C dX1_hasRoom_5 rfl 2 rfl ?_
  refine g_iadd (v := nI t) C dX1_hasRoom_6 hv ?_
  refine g_aload_n C dX1_hasRoom_7 rfl 0 rfl ?_
  refine g_get (ci := 2) (v := .ref (a 2)) C iwX1_hasRoom_X1 0 rfl rfl 1 (by decide) (C.hw (List.mem_cons_of_mem _ (List.mem_append_left _ (List.mem_append_left _ (List.mem_append_left _ (List.mem_append_left _ (List.mem_of_getElem? (i := 0) rfl))))))) (fun _ h9 => h9) rfl dX1_hasRoom_8 ?_
  refine g_iload_n C dX1_hasRoom_11 rfl 1 rfl ?_
  refine g_ialdN (nn := 1024) (j := L) (f := quo) C 2 rfl (by omega) n31_1024 dX1_hasRoom_12 ?_
  have b12 := hI.quoP L
  refine g_icmp_gt (tgt := 20) C dX1_hasRoom_13 (by decide) (fun c13 => ?_) (fun c13 => ?_)
  · skip
    have c13 := c_gt0 (by omega) (by omega) c13
    refine g_iconst (v := nI 0) C dX1_hasRoom_20 (by decide +kernel) ?_
    exact g_zret C rfl (Or.inl rfl) (⟨bI_f (by omega), rfl⟩) (Nat.le_of_ble_eq_true rfl) (Nat.le_of_ble_eq_true rfl) dX1_hasRoom_21
  · skip
    have c13 := c_gt1 (by omega) (by omega) c13
    refine g_iconst (v := nI 1) C dX1_hasRoom_16 (by decide +kernel) ?_
    refine g_goto (tgt := 21) C dX1_hasRoom_17 (by decide) ?_
    exact g_zret C rfl (Or.inr rfl) (⟨bI_t (by omega), rfl⟩) (Nat.le_of_ble_eq_true rfl) (Nat.le_of_ble_eq_true rfl) dX1_hasRoom_21
abbrev rmX1_verdictOnReading : Room := { frames := 2, cells := 0, slots := 0, locals := 42 }
theorem ydX1_verdictOnReading : yX1_verdictOnReading.cls ≠ "java/lang/invoke/MethodHandle" ∧ yX1_verdictOnReading.cls ≠ "java/lang/invoke/VarHandle" ∧ (parseMethodDescriptor yX1_verdictOnReading.desc).map (fun d => d.parameters.length) = some 2 := by decide +kernel
theorem iwX1_verdictOnReading_X1 : ∀ w ∈ u_ws RX1 TX1 8, w ∈ wsX1_verdictOnReading := fun _ h => (List.mem_cons_of_mem _ (List.mem_append_right _ h))
set_option maxRecDepth 100000 in
set_option maxHeartbeats 4000000 in
theorem k_X1_verdictOnReading (l : Launch) (D : va_G) (cy : Nat → ClassId) (zs : Nat → Nat) (a : Nat → Nat) (lab : Nat → Option Nat) (quo : Nat → Nat) (spe : Nat → Nat) (md : Int32) (ed : Option (Nat × Nat)) (lis : Nat → Nat) (lc : Nat) (see : Nat → Nat → Int32) (cnt : Nat → Nat) (Fs : List FT) (hI : CI lab quo spe ed lis lc cnt Fs)  (S : Nat) (L : Nat) (hS : S < 16) (hL : L < 1024) : Mi l D cy zs yX1_verdictOnReading wsX1_verdictOnReading rmX1_verdictOnReading [.ref (a 0), .int (nI S), .int (nI L)] (wC cy a (zs 0) lab quo spe md ed lis lc see cnt Fs) (PQ (lookR (lab S) L) (wC cy a (zs 0) lab quo spe md ed lis lc see cnt Fs)) := by
  refine Mi.of (lv := [(0, .ref (a 0)), (1, .int (nI S)), (2, .int (nI L))]) RX1 ⟨by decide, rfl⟩ rfl (Nat.le_of_ble_eq_true rfl) rfl ?_
  intro p e s m args below meth c A C hnm
  have hlc := hI.lcP
  have hln := hI.lenP
  refine g_aload_n C dX1_verdictOnReading_0 rfl 0 rfl ?_
  refine g_get (ci := 2) (v := .ref (a 1)) C iwX1_verdictOnReading_X1 0 rfl rfl 0 (by decide) (C.hw (List.mem_cons_of_mem _ (List.mem_append_left _ (List.mem_of_getElem? (i := 0) rfl)))) (fun _ h9 => h9) rfl dX1_verdictOnReading_1 ?_
  refine g_iload_n C dX1_verdictOnReading_4 rfl 1 rfl ?_
  refine g_ialdF (nn := 16) (j := S) (f := lab) C 1 rfl (by omega) n31_16 dX1_verdictOnReading_5 ?_
  rcases e5 : lab S with _ | o
  · skip
    refine g_istore_n (lv' := [(3, .int (-1)), (0, .ref (a 0)), (1, .int (nI S)), (2, .int (nI L))]) C dX1_verdictOnReading_6 rfl (by decide) rfl ?_
    refine g_iload_n C dX1_verdictOnReading_7 rfl 0 rfl ?_
    refine g_iconst (v := (-1)) C dX1_verdictOnReading_8 (by decide +kernel) ?_
    refine g_icmp_ne (tgt := 14) C dX1_verdictOnReading_9 (by decide) (fun c9 => ?_) (fun c9 => ?_)
    · skip
      exact absurd rfl c9
    · skip
      refine g_iconst (v := (-1)) C dX1_verdictOnReading_12 (by decide +kernel) ?_
      exact g_iret C rfl (⟨rfl, rfl⟩) (Nat.le_of_ble_eq_true rfl) (Nat.le_of_ble_eq_true rfl) dX1_verdictOnReading_13
  · skip
    have ho5 := hI.labP e5
    refine g_istore_n (lv' := [(3, .int (nI o)), (0, .ref (a 0)), (1, .int (nI S)), (2, .int (nI L))]) C dX1_verdictOnReading_6 rfl (by decide) rfl ?_
    refine g_iload_n C dX1_verdictOnReading_7 rfl 0 rfl ?_
    refine g_iconst (v := (-1)) C dX1_verdictOnReading_8 (by decide +kernel) ?_
    refine g_icmp_ne (tgt := 14) C dX1_verdictOnReading_9 (by decide) (fun c9 => ?_) (fun c9 => ?_)
    · skip
      refine g_iload_n C dX1_verdictOnReading_14 rfl 3 rfl ?_
      refine g_iload_n C dX1_verdictOnReading_15 rfl 0 rfl ?_
      refine g_Si (st := []) C (k_X1_mayFlow l D cy zs (wC cy a (zs 0) lab quo spe md ed lis lc see cnt Fs) L o (by omega) (by omega)) gX1_verdictOnReading_X1_mayFlow rfl ydX1_mayFlow ⟨Nat.le_of_ble_eq_true rfl, Nat.le_of_ble_eq_true rfl⟩ ⟨Nat.le_of_ble_eq_true rfl, Nat.le_of_ble_eq_true rfl⟩ rfl (Nat.le_of_ble_eq_true rfl) dX1_verdictOnReading_16 (fun r16 w16 h16 => ?_)
      obtain ⟨h16a, h16b⟩ := h16
      subst h16a
      have h16b := h16b.symm
      subst h16b
      refine g_if_eq (tgt := 26) C dX1_verdictOnReading_19 (by decide) (fun c19 => ?_) (fun c19 => ?_)
      · skip
        have c19 := cb_eq0 c19
        refine g_bipush (v := (-2)) C dX1_verdictOnReading_26 (by decide +kernel) ?_
        exact g_iret C rfl (⟨by unfold lookR lookD; simp only [c19, Bool.false_eq_true, if_false], rfl⟩) (Nat.le_of_ble_eq_true rfl) (Nat.le_of_ble_eq_true rfl) dX1_verdictOnReading_28
      · skip
        have c19 := cb_eq1 c19
        refine g_iconst (v := nI 0) C dX1_verdictOnReading_22 (by decide +kernel) ?_
        refine g_goto (tgt := 28) C dX1_verdictOnReading_23 (by decide) ?_
        exact g_iret C rfl (⟨by unfold lookR lookD; simp only [c19, if_true], rfl⟩) (Nat.le_of_ble_eq_true rfl) (Nat.le_of_ble_eq_true rfl) dX1_verdictOnReading_28
    · skip
      exact absurd c9 (nI_nem1 (by omega))
