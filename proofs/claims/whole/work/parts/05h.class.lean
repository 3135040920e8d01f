theorem ins_set {F F' : FT} : ∀ {Fs : List FT} {p : Nat}, p ≤ Fs.length → (Fs.insertIdx p F).set p F' = Fs.insertIdx p F'
  | Fs, 0, _ => rfl
  | [], p + 1, h => absurd h (Nat.not_succ_le_zero _)
  | G :: Gs, p + 1, h => by
    rw [List.insertIdx_succ_cons, List.insertIdx_succ_cons, List.set_cons_succ, ins_set (Nat.le_of_succ_le_succ h)]
theorem ins_new {F : FT} {Fs : List FT} {p : Nat} (h : p ≤ Fs.length) : (Fs.insertIdx p F)[p]? = some F := by
  rw [List.getElem?_insertIdx_self, if_pos h]
theorem ins_old {F G : FT} {Fs : List FT} {p i : Nat} (h : p ≤ Fs.length) (hG : Fs[i]? = some G) : ∃ j, (Fs.insertIdx p F)[j]? = some G ∧ ¬ p = j := by
  by_cases e : i < p
  · exact ⟨i, by rw [List.getElem?_insertIdx_of_lt e]; exact hG, by omega⟩
  · exact ⟨i + 1, by rw [List.getElem?_insertIdx_of_gt (by omega)]; exact hG, by omega⟩
theorem msk_0 : ∀ c, mskN (fun _ => false) c = 0
  | 0 => rfl
  | c + 1 => by
    show mskN (fun _ => false) c + 0 = 0
    rw [msk_0 c]
theorem obj_0 {ob ar ky ct : Nat} {fo : Int32} {ce : Nat → Int32} : ((ob, .inr (1, [.int (nI ky), .int fo, .ref ar, .int (nI ct), .int (nI 0), .int (nI 0)])) : Nat × va_E) = objc (ob, ar, ky, fo, ce, ct, false, fun _ => false) := by
  unfold objc
  rw [msk_0]
  rfl
def repF (Fs : List FT) (key : Nat) : Nat := match (plF Fs key).bind (fun i => Fs[i]?) with
  | none => 0
  | some F => untN F.2.2.2.2.2.2.1 F.2.2.2.2.2.2.2 F.2.2.2.2.2.1
theorem rep_none {Fs : List FT} {key : Nat} (h : plF Fs key = none) : repF Fs key = 0 := by
  unfold repF
  rw [h]
  rfl
theorem rep_some {Fs : List FT} {key i : Nat} {F : FT} (h : plF Fs key = some i) (hF : Fs[i]? = some F) : repF Fs key = untN F.2.2.2.2.2.2.1 F.2.2.2.2.2.2.2 F.2.2.2.2.2.1 := by
  unfold repF
  rw [h, Option.bind_some, hF]
theorem le_sum {f : FT → Nat} {F : FT} : ∀ {Fs : List FT}, F ∈ Fs → f F ≤ (Fs.map f).sum
  | G :: Gs, h => by
    rw [List.map_cons, List.sum_cons]
    rcases List.mem_cons.mp h with e | e
    · subst e
      omega
    · have := le_sum (f := f) e
      omega
theorem un_le_us {spe : Nat → Nat} {Fs : List FT} {i L q : Nat} {F : FT} (hF : Fs[i]? = some F) (hk : F.2.2.1 = 16 * L + q) (hq : q < 16) : untN F.2.2.2.2.2.2.1 F.2.2.2.2.2.2.2 F.2.2.2.2.2.1 ≤ usF spe Fs L := by
  have h1 := le_sum (f := unF L) (List.mem_of_getElem? hF)
  have h2 : unF L F = untN F.2.2.2.2.2.2.1 F.2.2.2.2.2.2.2 F.2.2.2.2.2.1 := if_pos (by rw [hk]; omega)
  unfold usF
  omega
/-- the numbers of the files of a folder that may be seen from a label -/
def shF (Fs : List FT) (key o : Nat) : List Nat := (Fs.filter (fun F => decide (F.2.2.2.1 = nI key) && mayN (F.2.2.1 / 16) o)).map (fun F => F.2.2.1)
theorem shF_s {Fs : List FT} {key o k : Nat} {F : FT} (h : Fs[k]? = some F) : shF (Fs.take (k + 1)) key o = shF (Fs.take k) key o ++ (if (decide (F.2.2.2.1 = nI key) && mayN (F.2.2.1 / 16) o) = true then [F.2.2.1] else []) := by
  unfold shF
  rw [List.take_add_one, h, List.filter_append, List.map_append]
  congr 1
  show List.map _ (List.filter _ [F]) = _
  rw [List.filter_cons]
  split <;> rfl
theorem shF_le {Fs : List FT} {key o : Nat} (k : Nat) : (shF (Fs.take k) key o).length ≤ k := by
  unfold shF
  rw [List.length_map]
  have h1 := List.length_filter_le (fun F : FT => decide (F.2.2.2.1 = nI key) && mayN (F.2.2.1 / 16) o) (Fs.take k)
  rw [List.length_take] at h1
  omega
def segF (f : Nat → Int32) (ls : List Nat) : Prop := ∀ j, j < ls.length → f j = nI (ls.getD j 0)
theorem segF_s {f : Nat → Int32} {ls : List Nat} {x : Nat} (h : segF f ls) : segF (upd f ls.length (nI x)) (ls ++ [x]) := by
  intro j hj
  rw [List.length_append, List.length_singleton] at hj
  unfold upd
  by_cases e : j = ls.length
  · rw [if_pos e, e, List.getD_eq_getElem?_getD, List.getElem?_concat_length]
    rfl
  · rw [if_neg e, h j (by omega), List.getD_eq_getElem?_getD, List.getD_eq_getElem?_getD, List.getElem?_append_left (by omega)]
theorem up_up {α : Type} {f : Nat → α} {k : Nat} {x y : α} : va_up (va_up f k x) k y = va_up f k y := by
  funext i
  unfold va_up
  split <;> rfl
abbrev rmX1_makeOwn : Room := { frames := 7, cells := 3, slots := 330, locals := 193 }
theorem ydX1_makeOwn : yX1_makeOwn.cls ≠ "java/lang/invoke/MethodHandle" ∧ yX1_makeOwn.cls ≠ "java/lang/invoke/VarHandle" ∧ (parseMethodDescriptor yX1_makeOwn.desc).map (fun d => d.parameters.length) = some 3 := by decide +kernel
theorem iwX1_makeOwn_X1 : ∀ w ∈ u_ws RX1 TX1 8, w ∈ wsX1_makeOwn := fun _ h => (List.mem_cons_of_mem _ (List.mem_append_left _ (List.mem_append_right _ h)))
theorem iwX1_makeOwn_X0 : ∀ w ∈ u_ws RX0 TX0 6, w ∈ wsX1_makeOwn := fun _ h => (List.mem_cons_of_mem _ (List.mem_append_left _ (List.mem_append_left _ (List.mem_append_right _ h))))
set_option maxRecDepth 100000 in
set_option maxHeartbeats 4000000 in
theorem k_X1_makeOwn (l : Launch) (D : va_G) (cy : Nat → ClassId) (zs : Nat → Nat) (a : Nat → Nat) (lab : Nat → Option Nat) (quo : Nat → Nat) (spe : Nat → Nat) (md : Int32) (ed : Option (Nat × Nat)) (lis : Nat → Nat) (lc : Nat) (see : Nat → Nat → Int32) (cnt : Nat → Nat) (Fs : List FT) (hI : CI lab quo spe ed lis lc cnt Fs)  (own : Nat) (key : Nat) (x : Int32) (ho : own < 1024) (hkey : key < 16384) : Mi l D cy zs yX1_makeOwn wsX1_makeOwn rmX1_makeOwn [.ref (a 0), .int (nI own), .int (nI key), .int x] (wC cy a (zs 0) lab quo spe md ed lis lc see cnt Fs) (fun r w => (∃ i, plF Fs key = some i ∧ r = nI 0 ∧ w = (wC cy a (zs 0) lab quo spe md ed lis lc see cnt Fs)) ∨ (plF Fs key = none ∧ decide ((usF spe Fs own) + 1 ≤ quo own) = false ∧ r = -3 ∧ w = (wC cy a (zs 0) lab quo spe md ed lis lc see cnt Fs)) ∨ (plF Fs key = none ∧ decide ((usF spe Fs own) + 1 ≤ quo own) = true ∧ 200 ≤ Fs.length ∧ r = -4 ∧ w = (wC cy a (zs 0) lab quo spe md ed lis lc see cnt Fs)) ∨ (plF Fs key = none ∧ decide ((usF spe Fs own) + 1 ≤ quo own) = true ∧ Fs.length < 200 ∧ r = nI 1 ∧ ∃ pl ed9 q1 q2, insAt Fs key pl ∧ edOk ed9 (Fs.length + 1) ∧ w = (wC cy a (zs 0) lab quo spe (md + nI 1) ed9 lis lc see cnt (Fs.insertIdx pl (q1, q2, key, x, (fun _ => 0), 0, false, (fun _ => false)))))) := by
  refine Mi.of (lv := [(0, .ref (a 0)), (1, .int (nI own)), (2, .int (nI key)), (3, .int x)]) RX1 ⟨by decide, rfl⟩ rfl (Nat.le_of_ble_eq_true rfl) rfl ?_
  intro p e s m args below meth c A C hnm
  have hlc := hI.lcP
  have hln := hI.lenP
  have hu := hI.usP own
  refine g_aload_n C dX1_makeOwn_0 rfl 0 rfl ?_
  refine g_iload_n C dX1_makeOwn_1 rfl 2 rfl ?_
  refine g_Vi (ci := 2) (st := []) C (k_X1_placeOf l D cy zs a lab quo spe md ed lis lc see cnt Fs hI key (by omega)) gX1_makeOwn_X1_placeOf rfl ⟨rfl, ydX1_placeOf⟩ 0 rfl rfl ⟨Nat.le_of_ble_eq_true rfl, Nat.le_of_ble_eq_true rfl⟩ ⟨Nat.le_of_ble_eq_true rfl, Nat.le_of_ble_eq_true rfl⟩ rfl (Nat.le_of_ble_eq_true rfl) dX1_makeOwn_2 (fun r2 w2 h2 => ?_)
  obtain ⟨h2a, h2b⟩ := h2
  subst h2a
  have h2b := h2b.symm
  subst h2b
  rcases e2 : plF Fs key with _ | i2
  · skip
    refine g_iconst (v := (-1)) C dX1_makeOwn_5 (by decide +kernel) ?_
    refine g_icmp_eq (tgt := 11) C dX1_makeOwn_6 (by decide) (fun c6 => ?_) (fun c6 => ?_)
    · skip
      refine g_aload_n C dX1_makeOwn_11 rfl 0 rfl ?_
      refine g_iload_n C dX1_makeOwn_12 rfl 1 rfl ?_
      refine g_iconst (v := nI 1) C dX1_makeOwn_13 (by decide +kernel) ?_
      refine g_Vi (ci := 2) (st := []) C (k_X1_hasRoom l D cy zs a lab quo spe md ed lis lc see cnt Fs hI own (nI 1) (by omega) (nI_add _ _) (by omega)) gX1_makeOwn_X1_hasRoom rfl ⟨rfl, ydX1_hasRoom⟩ 0 rfl rfl ⟨Nat.le_of_ble_eq_true rfl, Nat.le_of_ble_eq_true rfl⟩ ⟨Nat.le_of_ble_eq_true rfl, Nat.le_of_ble_eq_true rfl⟩ rfl (Nat.le_of_ble_eq_true rfl) dX1_makeOwn_14 (fun r14 w14 h14 => ?_)
      obtain ⟨h14a, h14b⟩ := h14
      subst h14a
      have h14b := h14b.symm
      subst h14b
      refine g_if_ne (tgt := 23) C dX1_makeOwn_17 (by decide) (fun c17 => ?_) (fun c17 => ?_)
      · skip
        have c17 := cb_eq1 c17
        refine g_aload_n C dX1_makeOwn_23 rfl 0 rfl ?_
        refine g_Vi (ci := 2) (st := []) C (k_X1_isFull l D cy zs a lab quo spe md ed lis lc see cnt Fs hI  ) gX1_makeOwn_X1_isFull rfl ⟨rfl, ydX1_isFull⟩ 0 rfl rfl ⟨Nat.le_of_ble_eq_true rfl, Nat.le_of_ble_eq_true rfl⟩ ⟨Nat.le_of_ble_eq_true rfl, Nat.le_of_ble_eq_true rfl⟩ rfl (Nat.le_of_ble_eq_true rfl) dX1_makeOwn_24 (fun r24 w24 h24 => ?_)
        obtain ⟨h24a, h24b⟩ := h24
        subst h24a
        have h24b := h24b.symm
        subst h24b
        refine g_if_eq (tgt := 33) C dX1_makeOwn_27 (by decide) (fun c27 => ?_) (fun c27 => ?_)
        · skip
          have c27 := cb_eq0 c27
          have hlt9 : Fs.length < 200 := Nat.not_le.mp (of_decide_eq_false c27)
          refine g_aload_n C dX1_makeOwn_33 rfl 0 rfl ?_
          refine g_new (ci := 1) (fs := [.int 0, .int 0, .null, .int 0, .int 0, .int 0]) C iwX1_makeOwn_X0 tyX0 tyX0_ok (C.hw (List.mem_cons_of_mem _ (List.mem_append_left _ (List.mem_append_left _ (List.mem_append_left _ (List.mem_append_left _ (List.mem_of_getElem? (i := 0) rfl))))))) (C.hw (List.mem_cons_of_mem _ (List.mem_append_left _ (List.mem_append_left _ (List.mem_append_left _ (List.mem_append_left _ (List.mem_of_getElem? (i := 1) rfl))))))) (C.hw (List.mem_cons_of_mem _ (List.mem_append_left _ (List.mem_append_left _ (List.mem_append_left _ (List.mem_append_left _ (List.mem_of_getElem? (i := 2) rfl))))))) rfl (fun j9 hj9 => by rcases (by omega : j9 = 0 ∨ j9 = 1 ∨ j9 = 2 ∨ j9 = 3 ∨ j9 = 4 ∨ j9 = 5) with rfl | rfl | rfl | rfl | rfl | rfl <;> rfl) (Nat.le_of_ble_eq_true rfl) (Nat.le_of_ble_eq_true rfl) dX1_makeOwn_34 (fun q1 => ?_)
          refine g_dup C dX1_makeOwn_37 rfl ?_
          refine g_iload_n C dX1_makeOwn_38 rfl 2 rfl ?_
          refine g_iload_n C dX1_makeOwn_39 rfl 3 rfl ?_
          refine g_iconst (v := nI 0) C dX1_makeOwn_40 (by decide +kernel) ?_
          refine g_Iv (st := [.ref q1, .ref (a 0)]) C (k_X0_init l D cy zs (wC cy a (zs 0) lab quo spe md ed lis lc see cnt Fs ++ [((q1, .inr (1, [.int 0, .int 0, .null, .int 0, .int 0, .int 0])) : Nat × va_E)]) key x false (tl_at rfl) ) gX1_makeOwn_X0_init rfl (C.hw (List.mem_cons_of_mem _ (List.mem_append_left _ (List.mem_append_left _ (List.mem_append_left _ (List.mem_append_left _ (List.mem_of_getElem? (i := 2) rfl))))))) (C.hw (List.mem_cons_of_mem _ (List.mem_append_left _ (List.mem_append_left _ (List.mem_append_left _ (List.mem_append_right _ (List.mem_append_right _ (List.mem_append_left _ (List.mem_of_getElem? (i := 17) rfl))))))))) (C.hw (List.mem_cons_of_mem _ (List.mem_append_left _ (List.mem_append_left _ (List.mem_append_left _ (List.mem_append_right _ (List.mem_append_right _ (List.mem_append_left _ (List.mem_of_getElem? (i := 18) rfl))))))))) rfl ydX0_init ⟨by exact Nat.le_of_ble_eq_true rfl, by exact Nat.le_of_ble_eq_true rfl⟩ ⟨by exact Nat.le_of_ble_eq_true rfl, by exact Nat.le_of_ble_eq_true rfl⟩ rfl (Nat.le_of_ble_eq_true rfl) dX1_makeOwn_41 (fun w41 h41 => ?_)
          obtain ⟨q2, h41⟩ := h41
          rw [show w41 = (wC cy a (zs 0) lab quo spe md ed lis lc see cnt Fs ++ [objc (q1, q2, key, x, (fun _ => 0), 0, false, (fun _ => false)), arrc cy (q1, q2, key, x, (fun _ => 0), 0, false, (fun _ => false))]) from h41.trans (by rw [tl_set rfl, List.append_assoc]; rfl)]
          refine g_Vv (ci := 2) (st := []) C (k_X1_store l D cy zs a lab quo spe md ed lis lc see cnt Fs hI  hlt9 (by omega)) gX1_makeOwn_X1_store rfl ⟨rfl, ydX1_store⟩ 0 rfl rfl ⟨Nat.le_of_ble_eq_true rfl, Nat.le_of_ble_eq_true rfl⟩ ⟨Nat.le_of_ble_eq_true rfl, Nat.le_of_ble_eq_true rfl⟩ rfl (Nat.le_of_ble_eq_true rfl) dX1_makeOwn_44 (fun w44 h44 => ?_)
          obtain ⟨pl, ed9, hins, hek, h44⟩ := h44
          subst h44
          have hI44 : CI lab quo spe ed9 lis lc cnt (Fs.insertIdx pl (q1, q2, key, x, (fun _ => 0), 0, false, (fun _ => false))) := hI.ins (F := (q1, q2, key, x, (fun _ => 0), 0, false, (fun _ => false))) hins.1 (by omega) ⟨(show key < 16384 by omega), (by show 0 ≤ 24; omega)⟩ hek
          refine g_iconst (v := nI 1) C dX1_makeOwn_47 (by decide +kernel) ?_
          exact g_iret C rfl (Or.inr (Or.inr (Or.inr (⟨rfl, c17, Nat.not_le.mp (of_decide_eq_false c27), rfl, pl, ed9, q1, q2, hins, hek, rfl⟩)))) (Nat.le_of_ble_eq_true rfl) (Nat.le_of_ble_eq_true rfl) dX1_makeOwn_48
        · skip
          have c27 := cb_eq1 c27
          refine g_bipush (v := (-4)) C dX1_makeOwn_30 (by decide +kernel) ?_
          exact g_iret C rfl (Or.inr (Or.inr (Or.inl (⟨rfl, c17, of_decide_eq_true c27, rfl, rfl⟩)))) (Nat.le_of_ble_eq_true rfl) (Nat.le_of_ble_eq_true rfl) dX1_makeOwn_32
      · skip
        have c17 := cb_eq0 c17
        refine g_bipush (v := (-3)) C dX1_makeOwn_20 (by decide +kernel) ?_
        exact g_iret C rfl (Or.inr (Or.inl (⟨rfl, c17, rfl, rfl⟩))) (Nat.le_of_ble_eq_true rfl) (Nat.le_of_ble_eq_true rfl) dX1_makeOwn_22
    · skip
      exact absurd rfl c6
  · skip
    obtain ⟨⟨ob2, ar2, ky2, fo2, ce2, ct2, gi2, gv2⟩, hF2, hq2⟩ := plF_spec e2
    have hl2 := plF_lt e2
    obtain ⟨hk2, hct2⟩ := hI.flP hF2
    refine g_iconst (v := (-1)) C dX1_makeOwn_5 (by decide +kernel) ?_
    refine g_icmp_eq (tgt := 11) C dX1_makeOwn_6 (by decide) (fun c6 => ?_) (fun c6 => ?_)
    · skip
      exact absurd c6 (nI_nem1 (by omega))
    · skip
      refine g_iconst (v := nI 0) C dX1_makeOwn_9 (by decide +kernel) ?_
      exact g_iret C rfl (Or.inl (⟨_, rfl, rfl, rfl⟩)) (Nat.le_of_ble_eq_true rfl) (Nat.le_of_ble_eq_true rfl) dX1_makeOwn_10
abbrev rmX1_makeAbove : Room := { frames := 7, cells := 3, slots := 330, locals := 193 }
theorem ydX1_makeAbove : yX1_makeAbove.cls ≠ "java/lang/invoke/MethodHandle" ∧ yX1_makeAbove.cls ≠ "java/lang/invoke/VarHandle" ∧ (parseMethodDescriptor yX1_makeAbove.desc).map (fun d => d.parameters.length) = some 3 := by decide +kernel
theorem iwX1_makeAbove_X1 : ∀ w ∈ u_ws RX1 TX1 8, w ∈ wsX1_makeAbove := fun _ h => (List.mem_cons_of_mem _ (List.mem_append_left _ (List.mem_append_right _ h)))
theorem iwX1_makeAbove_X0 : ∀ w ∈ u_ws RX0 TX0 6, w ∈ wsX1_makeAbove := fun _ h => (List.mem_cons_of_mem _ (List.mem_append_left _ (List.mem_append_left _ (List.mem_append_right _ h))))
set_option maxRecDepth 100000 in
set_option maxHeartbeats 4000000 in
theorem k_X1_makeAbove (l : Launch) (D : va_G) (cy : Nat → ClassId) (zs : Nat → Nat) (a : Nat → Nat) (lab : Nat → Option Nat) (quo : Nat → Nat) (spe : Nat → Nat) (md : Int32) (ed : Option (Nat × Nat)) (lis : Nat → Nat) (lc : Nat) (see : Nat → Nat → Int32) (cnt : Nat → Nat) (Fs : List FT) (hI : CI lab quo spe ed lis lc cnt Fs)  (own : Nat) (key : Nat) (x : Int32) (ho : own < 1024) (hkey : key < 16384) : Mi l D cy zs yX1_makeAbove wsX1_makeAbove rmX1_makeAbove [.ref (a 0), .int (nI own), .int (nI key), .int x] (wC cy a (zs 0) lab quo spe md ed lis lc see cnt Fs) (fun r w => (decide ((usF spe Fs own) + 1 ≤ quo own) = false ∧ r = -3 ∧ w = (wC cy a (zs 0) lab quo spe md ed lis lc see cnt Fs)) ∨ (decide ((usF spe Fs own) + 1 ≤ quo own) = true ∧ plF Fs key = none ∧ 200 ≤ Fs.length ∧ r = -4 ∧ w = (wC cy a (zs 0) lab quo spe md ed lis lc see cnt Fs)) ∨ (decide ((usF spe Fs own) + 1 ≤ quo own) = true ∧ plF Fs key = none ∧ Fs.length < 200 ∧ r = nI 2 ∧ ∃ pl ed9 q1 q2, insAt Fs key pl ∧ edOk ed9 (Fs.length + 1) ∧ w = (wC cy a (zs 0) lab quo (va_up spe own (spe own + 1)) (md + nI 1) ed9 lis lc see cnt (Fs.insertIdx pl (q1, q2, key, x, (fun _ => 0), 0, true, (fun _ => false))))) ∨ (decide ((usF spe Fs own) + 1 ≤ quo own) = true ∧ ∃ i, plF Fs key = some i ∧ r = nI 2 ∧ w = (wC cy a (zs 0) lab quo (va_up spe own (spe own + 1)) md ed lis lc see cnt Fs))) := by
  refine Mi.of (lv := [(0, .ref (a 0)), (1, .int (nI own)), (2, .int (nI key)), (3, .int x)]) RX1 ⟨by decide, rfl⟩ rfl (Nat.le_of_ble_eq_true rfl) rfl ?_
  intro p e s m args below meth c A C hnm
  have hlc := hI.lcP
  have hln := hI.lenP
  have hu := hI.usP own
  have hqo := hI.quoP own
  refine g_aload_n C dX1_makeAbove_0 rfl 0 rfl ?_
  refine g_iload_n C dX1_makeAbove_1 rfl 1 rfl ?_
  refine g_iconst (v := nI 1) C dX1_makeAbove_2 (by decide +kernel) ?_
  refine g_Vi (ci := 2) (st := []) C (k_X1_hasRoom l D cy zs a lab quo spe md ed lis lc see cnt Fs hI own (nI 1) (by omega) (nI_add _ _) (by omega)) gX1_makeAbove_X1_hasRoom rfl ⟨rfl, ydX1_hasRoom⟩ 0 rfl rfl ⟨Nat.le_of_ble_eq_true rfl, Nat.le_of_ble_eq_true rfl⟩ ⟨Nat.le_of_ble_eq_true rfl, Nat.le_of_ble_eq_true rfl⟩ rfl (Nat.le_of_ble_eq_true rfl) dX1_makeAbove_3 (fun r3 w3 h3 => ?_)
  obtain ⟨h3a, h3b⟩ := h3
  subst h3a
  have h3b := h3b.symm
  subst h3b
  refine g_if_ne (tgt := 12) C dX1_makeAbove_6 (by decide) (fun c6 => ?_) (fun c6 => ?_)
  · skip
    have c6 := cb_eq1 c6
    have hr9 := of_decide_eq_true c6
    refine g_aload_n C dX1_makeAbove_12 rfl 0 rfl ?_
    refine g_iload_n C dX1_makeAbove_13 rfl 2 rfl ?_
    refine g_Vi (ci := 2) (st := []) C (k_X1_placeOf l D cy zs a lab quo spe md ed lis lc see cnt Fs hI key (by omega)) gX1_makeAbove_X1_placeOf rfl ⟨rfl, ydX1_placeOf⟩ 0 rfl rfl ⟨Nat.le_of_ble_eq_true rfl, Nat.le_of_ble_eq_true rfl⟩ ⟨Nat.le_of_ble_eq_true rfl, Nat.le_of_ble_eq_true rfl⟩ rfl (Nat.le_of_ble_eq_true rfl) dX1_makeAbove_14 (fun r14 w14 h14 => ?_)
    obtain ⟨h14a, h14b⟩ := h14
    subst h14a
    have h14b := h14b.symm
    subst h14b
    rcases e14 : plF Fs key with _ | i14
    · skip
      refine g_iconst (v := (-1)) C dX1_makeAbove_17 (by decide +kernel) ?_
      refine g_icmp_ne (tgt := 45) C dX1_makeAbove_18 (by decide) (fun c18 => ?_) (fun c18 => ?_)
      · skip
        exact absurd rfl c18
      · skip
        refine g_aload_n C dX1_makeAbove_21 rfl 0 rfl ?_
        refine g_Vi (ci := 2) (st := []) C (k_X1_isFull l D cy zs a lab quo spe md ed lis lc see cnt Fs hI  ) gX1_makeAbove_X1_isFull rfl ⟨rfl, ydX1_isFull⟩ 0 rfl rfl ⟨Nat.le_of_ble_eq_true rfl, Nat.le_of_ble_eq_true rfl⟩ ⟨Nat.le_of_ble_eq_true rfl, Nat.le_of_ble_eq_true rfl⟩ rfl (Nat.le_of_ble_eq_true rfl) dX1_makeAbove_22 (fun r22 w22 h22 => ?_)
        obtain ⟨h22a, h22b⟩ := h22
        subst h22a
        have h22b := h22b.symm
        subst h22b
        refine g_if_eq (tgt := 31) C dX1_makeAbove_25 (by decide) (fun c25 => ?_) (fun c25 => ?_)
        · skip
          have c25 := cb_eq0 c25
          have hlt9 : Fs.length < 200 := Nat.not_le.mp (of_decide_eq_false c25)
          refine g_aload_n C dX1_makeAbove_31 rfl 0 rfl ?_
          refine g_new (ci := 1) (fs := [.int 0, .int 0, .null, .int 0, .int 0, .int 0]) C iwX1_makeAbove_X0 tyX0 tyX0_ok (C.hw (List.mem_cons_of_mem _ (List.mem_append_left _ (List.mem_append_left _ (List.mem_append_left _ (List.mem_append_left _ (List.mem_of_getElem? (i := 0) rfl))))))) (C.hw (List.mem_cons_of_mem _ (List.mem_append_left _ (List.mem_append_left _ (List.mem_append_left _ (List.mem_append_left _ (List.mem_of_getElem? (i := 1) rfl))))))) (C.hw (List.mem_cons_of_mem _ (List.mem_append_left _ (List.mem_append_left _ (List.mem_append_left _ (List.mem_append_left _ (List.mem_of_getElem? (i := 2) rfl))))))) rfl (fun j9 hj9 => by rcases (by omega : j9 = 0 ∨ j9 = 1 ∨ j9 = 2 ∨ j9 = 3 ∨ j9 = 4 ∨ j9 = 5) with rfl | rfl | rfl | rfl | rfl | rfl <;> rfl) (Nat.le_of_ble_eq_true rfl) (Nat.le_of_ble_eq_true rfl) dX1_makeAbove_32 (fun q1 => ?_)
          refine g_dup C dX1_makeAbove_35 rfl ?_
          refine g_iload_n C dX1_makeAbove_36 rfl 2 rfl ?_
          refine g_iload_n C dX1_makeAbove_37 rfl 3 rfl ?_
          refine g_iconst (v := nI 1) C dX1_makeAbove_38 (by decide +kernel) ?_
          refine g_Iv (st := [.ref q1, .ref (a 0)]) C (k_X0_init l D cy zs (wC cy a (zs 0) lab quo spe md ed lis lc see cnt Fs ++ [((q1, .inr (1, [.int 0, .int 0, .null, .int 0, .int 0, .int 0])) : Nat × va_E)]) key x true (tl_at rfl) ) gX1_makeAbove_X0_init rfl (C.hw (List.mem_cons_of_mem _ (List.mem_append_left _ (List.mem_append_left _ (List.mem_append_left _ (List.mem_append_left _ (List.mem_of_getElem? (i := 2) rfl))))))) (C.hw (List.mem_cons_of_mem _ (List.mem_append_left _ (List.mem_append_left _ (List.mem_append_left _ (List.mem_append_right _ (List.mem_append_right _ (List.mem_append_left _ (List.mem_of_getElem? (i := 17) rfl))))))))) (C.hw (List.mem_cons_of_mem _ (List.mem_append_left _ (List.mem_append_left _ (List.mem_append_left _ (List.mem_append_right _ (List.mem_append_right _ (List.mem_append_left _ (List.mem_of_getElem? (i := 18) rfl))))))))) rfl ydX0_init ⟨by exact Nat.le_of_ble_eq_true rfl, by exact Nat.le_of_ble_eq_true rfl⟩ ⟨by exact Nat.le_of_ble_eq_true rfl, by exact Nat.le_of_ble_eq_true rfl⟩ rfl (Nat.le_of_ble_eq_true rfl) dX1_makeAbove_39 (fun w39 h39 => ?_)
          obtain ⟨q2, h39⟩ := h39
          rw [show w39 = (wC cy a (zs 0) lab quo spe md ed lis lc see cnt Fs ++ [objc (q1, q2, key, x, (fun _ => 0), 0, true, (fun _ => false)), arrc cy (q1, q2, key, x, (fun _ => 0), 0, true, (fun _ => false))]) from h39.trans (by rw [tl_set rfl, List.append_assoc]; rfl)]
          refine g_Vv (ci := 2) (st := []) C (k_X1_store l D cy zs a lab quo spe md ed lis lc see cnt Fs hI  hlt9 (by omega)) gX1_makeAbove_X1_store rfl ⟨rfl, ydX1_store⟩ 0 rfl rfl ⟨Nat.le_of_ble_eq_true rfl, Nat.le_of_ble_eq_true rfl⟩ ⟨Nat.le_of_ble_eq_true rfl, Nat.le_of_ble_eq_true rfl⟩ rfl (Nat.le_of_ble_eq_true rfl) dX1_makeAbove_42 (fun w42 h42 => ?_)
          obtain ⟨pl, ed9, hins, hek, h42⟩ := h42
          subst h42
          have hI42 : CI lab quo spe ed9 lis lc cnt (Fs.insertIdx pl (q1, q2, key, x, (fun _ => 0), 0, true, (fun _ => false))) := hI.ins (F := (q1, q2, key, x, (fun _ => 0), 0, true, (fun _ => false))) hins.1 (by omega) ⟨(show key < 16384 by omega), (by show 0 ≤ 24; omega)⟩ hek
          refine g_aload_n C dX1_makeAbove_45 rfl 0 rfl ?_
          refine g_get (ci := 2) (v := .ref (a 3)) C iwX1_makeAbove_X1 0 rfl rfl 2 (by decide) (C.hw (List.mem_cons_of_mem _ (List.mem_append_left _ (List.mem_append_left _ (List.mem_append_left _ (List.mem_append_left _ (List.mem_of_getElem? (i := 3) rfl))))))) (fun _ h9 => h9) rfl dX1_makeAbove_46 ?_
          refine g_iload_n C dX1_makeAbove_49 rfl 1 rfl ?_
          refine g_dup2_11 C dX1_makeAbove_50 rfl rfl ?_
          refine g_ialdN (nn := 1024) (j := own) (f := spe) C 3 rfl (by omega) n31_1024 dX1_makeAbove_51 ?_
          have b51 := hI42.speP own
          refine g_iconst (v := nI 1) C dX1_makeAbove_52 (by decide +kernel) ?_
          refine g_iadd (v := nI ((spe own) + 1)) C dX1_makeAbove_53 (nI_add _ _) ?_
          refine g_iastN (nn := 1024) (j := own) (v := ((spe own) + 1)) (f := spe) (ws' := (wC cy a (zs 0) lab quo (va_up spe own ((spe own) + 1)) (md + nI 1) ed9 lis lc see cnt (Fs.insertIdx pl (q1, q2, key, x, (fun _ => 0), 0, true, (fun _ => false))))) C 3 rfl (by omega) n31_1024 rfl dX1_makeAbove_54 ?_
          have hI54 : CI lab quo (va_up spe own ((spe own) + 1)) ed9 lis lc cnt (Fs.insertIdx pl (q1, q2, key, x, (fun _ => 0), 0, true, (fun _ => false))) := hI42.upSpe (by omega)
          refine g_iconst (v := nI 2) C dX1_makeAbove_55 (by decide +kernel) ?_
          exact g_iret C rfl (Or.inr (Or.inr (Or.inl (⟨c6, rfl, Nat.not_le.mp (of_decide_eq_false c25), rfl, pl, ed9, q1, q2, hins, hek, rfl⟩)))) (Nat.le_of_ble_eq_true rfl) (Nat.le_of_ble_eq_true rfl) dX1_makeAbove_56
        · skip
          have c25 := cb_eq1 c25
          refine g_bipush (v := (-4)) C dX1_makeAbove_28 (by decide +kernel) ?_
          exact g_iret C rfl (Or.inr (Or.inl (⟨c6, rfl, of_decide_eq_true c25, rfl, rfl⟩))) (Nat.le_of_ble_eq_true rfl) (Nat.le_of_ble_eq_true rfl) dX1_makeAbove_30
    · skip
      obtain ⟨⟨ob14, ar14, ky14, fo14, ce14, ct14, gi14, gv14⟩, hF14, hq14⟩ := plF_spec e14
      have hl14 := plF_lt e14
      obtain ⟨hk14, hct14⟩ := hI.flP hF14
      refine g_iconst (v := (-1)) C dX1_makeAbove_17 (by decide +kernel) ?_
      refine g_icmp_ne (tgt := 45) C dX1_makeAbove_18 (by decide) (fun c18 => ?_) (fun c18 => ?_)
      · skip
        refine g_aload_n C dX1_makeAbove_45 rfl 0 rfl ?_
        refine g_get (ci := 2) (v := .ref (a 3)) C iwX1_makeAbove_X1 0 rfl rfl 2 (by decide) (C.hw (List.mem_cons_of_mem _ (List.mem_append_left _ (List.mem_append_left _ (List.mem_append_left _ (List.mem_append_left _ (List.mem_of_getElem? (i := 3) rfl))))))) (fun _ h9 => h9) rfl dX1_makeAbove_46 ?_
        refine g_iload_n C dX1_makeAbove_49 rfl 1 rfl ?_
        refine g_dup2_11 C dX1_makeAbove_50 rfl rfl ?_
        refine g_ialdN (nn := 1024) (j := own) (f := spe) C 3 rfl (by omega) n31_1024 dX1_makeAbove_51 ?_
        have b51 := hI.speP own
        refine g_iconst (v := nI 1) C dX1_makeAbove_52 (by decide +kernel) ?_
        refine g_iadd (v := nI ((spe own) + 1)) C dX1_makeAbove_53 (nI_add _ _) ?_
        refine g_iastN (nn := 1024) (j := own) (v := ((spe own) + 1)) (f := spe) (ws' := (wC cy a (zs 0) lab quo (va_up spe own ((spe own) + 1)) md ed lis lc see cnt Fs)) C 3 rfl (by omega) n31_1024 rfl dX1_makeAbove_54 ?_
        have hI54 : CI lab quo (va_up spe own ((spe own) + 1)) ed lis lc cnt Fs := hI.upSpe (by omega)
        refine g_iconst (v := nI 2) C dX1_makeAbove_55 (by decide +kernel) ?_
        exact g_iret C rfl (Or.inr (Or.inr (Or.inr (⟨c6, _, rfl, rfl, rfl⟩)))) (Nat.le_of_ble_eq_true rfl) (Nat.le_of_ble_eq_true rfl) dX1_makeAbove_56
      · skip
        exact absurd c18 (nI_nem1 (by omega))
  · skip
    have c6 := cb_eq0 c6
    refine g_bipush (v := (-3)) C dX1_makeAbove_9 (by decide +kernel) ?_
    exact g_iret C rfl (Or.inl (⟨c6, rfl, rfl⟩)) (Nat.le_of_ble_eq_true rfl) (Nat.le_of_ble_eq_true rfl) dX1_makeAbove_11
abbrev rmX1_answerMake : Room := { frames := 8, cells := 3, slots := 330, locals := 216 }
theorem ydX1_answerMake : yX1_answerMake.cls ≠ "java/lang/invoke/MethodHandle" ∧ yX1_answerMake.cls ≠ "java/lang/invoke/VarHandle" ∧ (parseMethodDescriptor yX1_answerMake.desc).map (fun d => d.parameters.length) = some 4 := by decide +kernel
theorem iwX1_answerMake_X1 : ∀ w ∈ u_ws RX1 TX1 8, w ∈ wsX1_answerMake := fun _ h => (List.mem_cons_of_mem _ (List.mem_append_left _ (List.mem_append_left _ (List.mem_append_right _ h))))
theorem iwX1_answerMake_X0 : ∀ w ∈ u_ws RX0 TX0 6, w ∈ wsX1_answerMake := fun _ h => (List.mem_cons_of_mem _ (List.mem_append_left _ (List.mem_append_right _ h)))
set_option maxRecDepth 100000 in
set_option maxHeartbeats 4000000 in
theorem k_X1_answerMake (l : Launch) (D : va_G) (cy : Nat → ClassId) (zs : Nat → Nat) (a : Nat → Nat) (lab : Nat → Option Nat) (quo : Nat → Nat) (spe : Nat → Nat) (md : Int32) (ed : Option (Nat × Nat)) (lis : Nat → Nat) (lc : Nat) (see : Nat → Nat → Int32) (cnt : Nat → Nat) (Fs : List FT) (hI : CI lab quo spe ed lis lc cnt Fs)  (S : Nat) (L : Nat) (q : Nat) (fo : Option Nat) (hS : S < 16) (hL : L < 1024) (hq : q < 16) (hfo : ∀ x, fo = some x → x < 16384) : Mi l D cy zs yX1_answerMake wsX1_answerMake rmX1_answerMake [.ref (a 0), .int (nI S), .int (nI L), .int (nI q), .int (fI fo)] (wC cy a (zs 0) lab quo spe md ed lis lc see cnt Fs) (fun r w => (makeD (lab S) L fo (plF Fs (16 * L + q)).isSome (!(decide ((usF spe Fs ((lab S).getD 0)) + 1 ≤ quo ((lab S).getD 0)))) Fs.length = 0 ∧ r = -1 ∧ w = (wC cy a (zs 0) lab quo spe md ed lis lc see cnt Fs)) ∨ (makeD (lab S) L fo (plF Fs (16 * L + q)).isSome (!(decide ((usF spe Fs ((lab S).getD 0)) + 1 ≤ quo ((lab S).getD 0)))) Fs.length = 1 ∧ r = -2 ∧ w = (wC cy a (zs 0) lab quo spe md ed lis lc see cnt Fs)) ∨ (makeD (lab S) L fo (plF Fs (16 * L + q)).isSome (!(decide ((usF spe Fs ((lab S).getD 0)) + 1 ≤ quo ((lab S).getD 0)))) Fs.length = 2 ∧ r = nI 0 ∧ w = (wC cy a (zs 0) lab quo spe md ed lis lc see cnt Fs)) ∨ (makeD (lab S) L fo (plF Fs (16 * L + q)).isSome (!(decide ((usF spe Fs ((lab S).getD 0)) + 1 ≤ quo ((lab S).getD 0)))) Fs.length = 3 ∧ r = -3 ∧ w = (wC cy a (zs 0) lab quo spe md ed lis lc see cnt Fs)) ∨ (makeD (lab S) L fo (plF Fs (16 * L + q)).isSome (!(decide ((usF spe Fs ((lab S).getD 0)) + 1 ≤ quo ((lab S).getD 0)))) Fs.length = 4 ∧ r = -4 ∧ w = (wC cy a (zs 0) lab quo spe md ed lis lc see cnt Fs)) ∨ (makeD (lab S) L fo (plF Fs (16 * L + q)).isSome (!(decide ((usF spe Fs ((lab S).getD 0)) + 1 ≤ quo ((lab S).getD 0)))) Fs.length = 5 ∧ r = nI 1 ∧ ∃ pl ed9 q1 q2, insAt Fs (16 * L + q) pl ∧ edOk ed9 (Fs.length + 1) ∧ w = (wC cy a (zs 0) lab quo spe (md + nI 1) ed9 lis lc see cnt (Fs.insertIdx pl (q1, q2, (16 * L + q), (fI fo), (fun _ => 0), 0, false, (fun _ => false))))) ∨ (∃ o, lab S = some o ∧ makeD (lab S) L fo (plF Fs (16 * L + q)).isSome (!(decide ((usF spe Fs ((lab S).getD 0)) + 1 ≤ quo ((lab S).getD 0)))) Fs.length = 6 ∧ r = nI 2 ∧ ∃ pl ed9 q1 q2, insAt Fs (16 * L + q) pl ∧ edOk ed9 (Fs.length + 1) ∧ w = (wC cy a (zs 0) lab quo (va_up spe o (spe o + 1)) (md + nI 1) ed9 lis lc see cnt (Fs.insertIdx pl (q1, q2, (16 * L + q), (fI fo), (fun _ => 0), 0, true, (fun _ => false))))) ∨ (∃ o, lab S = some o ∧ makeD (lab S) L fo (plF Fs (16 * L + q)).isSome (!(decide ((usF spe Fs ((lab S).getD 0)) + 1 ≤ quo ((lab S).getD 0)))) Fs.length = 7 ∧ r = nI 2 ∧ w = (wC cy a (zs 0) lab quo (va_up spe o (spe o + 1)) md ed lis lc see cnt Fs))) := by
  refine Mi.of (lv := [(0, .ref (a 0)), (1, .int (nI S)), (2, .int (nI L)), (3, .int (nI q)), (4, .int (fI fo))]) RX1 ⟨by decide, rfl⟩ rfl (Nat.le_of_ble_eq_true rfl) rfl ?_
  intro p e s m args below meth c A C hnm
  have hlc := hI.lcP
  have hln := hI.lenP
  refine g_aload_n C dX1_answerMake_0 rfl 0 rfl ?_
  refine g_get (ci := 2) (v := .ref (a 1)) C iwX1_answerMake_X1 0 rfl rfl 0 (by decide) (C.hw (List.mem_cons_of_mem _ (List.mem_append_left _ (List.mem_append_left _ (List.mem_append_left _ (List.mem_append_left _ (List.mem_of_getElem? (i := 0) rfl))))))) (fun _ h9 => h9) rfl dX1_answerMake_1 ?_
  refine g_iload_n C dX1_answerMake_4 rfl 1 rfl ?_
  refine g_ialdF (nn := 16) (j := S) (f := lab) C 1 rfl (by omega) n31_16 dX1_answerMake_5 ?_
  rcases e5 : lab S with _ | o
  · skip
    refine g_istore (lv' := [(5, .int (-1)), (0, .ref (a 0)), (1, .int (nI S)), (2, .int (nI L)), (3, .int (nI q)), (4, .int (fI fo))]) C dX1_answerMake_6 (by decide) rfl ?_
    refine g_iload C dX1_answerMake_8 0 rfl ?_
    refine g_iconst (v := (-1)) C dX1_answerMake_10 (by decide +kernel) ?_
    refine g_icmp_ne (tgt := 16) C dX1_answerMake_11 (by decide) (fun c11 => ?_) (fun c11 => ?_)
    · skip
      exact absurd rfl c11
    · skip
      refine g_iconst (v := (-1)) C dX1_answerMake_14 (by decide +kernel) ?_
      exact g_iret C rfl (Or.inl (⟨rfl, rfl, rfl⟩)) (Nat.le_of_ble_eq_true rfl) (Nat.le_of_ble_eq_true rfl) dX1_answerMake_15
  · skip
    have ho5 := hI.labP e5
    refine g_istore (lv' := [(5, .int (nI o)), (0, .ref (a 0)), (1, .int (nI S)), (2, .int (nI L)), (3, .int (nI q)), (4, .int (fI fo))]) C dX1_answerMake_6 (by decide) rfl ?_
    refine g_iload C dX1_answerMake_8 0 rfl ?_
    refine g_iconst (v := (-1)) C dX1_answerMake_10 (by decide +kernel) ?_
    refine g_icmp_ne (tgt := 16) C dX1_answerMake_11 (by decide) (fun c11 => ?_) (fun c11 => ?_)
    · skip
      rcases fo with _ | x
      · skip
        refine g_iload C dX1_answerMake_16 5 rfl ?_
        refine g_iconst (v := (-1)) C dX1_answerMake_18 (by decide +kernel) ?_
        refine g_icmp_eq (tgt := 34) C dX1_answerMake_19 (by decide) (fun c19 => ?_) (fun c19 => ?_)
        · skip
          refine g_iconst (v := nI 1) C dX1_answerMake_34 (by decide +kernel) ?_
          refine g_goto (tgt := 39) C dX1_answerMake_35 (by decide) ?_
          refine g_istore (lv' := [(6, .int (nI 1)), (5, .int (nI o)), (0, .ref (a 0)), (1, .int (nI S)), (2, .int (nI L)), (3, .int (nI q)), (4, .int (-1))]) C dX1_answerMake_39 (by decide) rfl ?_
          refine g_iload C dX1_answerMake_41 1 rfl ?_
          refine g_iload_n C dX1_answerMake_43 rfl 4 rfl ?_
          refine g_Si (st := []) C (k_X1_mayFlow l D cy zs (wC cy a (zs 0) lab quo spe md ed lis lc see cnt Fs) o L (by omega) (by omega)) gX1_answerMake_X1_mayFlow rfl ydX1_mayFlow ⟨Nat.le_of_ble_eq_true rfl, Nat.le_of_ble_eq_true rfl⟩ ⟨Nat.le_of_ble_eq_true rfl, Nat.le_of_ble_eq_true rfl⟩ rfl (Nat.le_of_ble_eq_true rfl) dX1_answerMake_44 (fun r44 w44 h44 => ?_)
          obtain ⟨h44a, h44b⟩ := h44
          subst h44a
          have h44b := h44b.symm
          subst h44b
          refine g_if_eq (tgt := 55) C dX1_answerMake_47 (by decide) (fun c47 => ?_) (fun c47 => ?_)
          · skip
            have c47 := cb_eq0 c47
            refine g_bipush (v := (-2)) C dX1_answerMake_55 (by decide +kernel) ?_
            exact g_iret C rfl (Or.inr (Or.inl (⟨(by simp only [makeD, folOk, Option.getD_some, c47, Option.isSome_none, Option.isSome_some, Bool.false_eq_true, Bool.true_eq_false, Bool.not_true, Bool.not_false, Bool.and_true, Bool.and_false, Bool.true_and, Bool.false_and, eq_self, if_true, if_false]; repeat (first | rw [if_pos (by first | assumption | omega)] | rw [if_neg (by first | assumption | omega)])), rfl, rfl⟩))) (Nat.le_of_ble_eq_true rfl) (Nat.le_of_ble_eq_true rfl) dX1_answerMake_57
          · skip
            have c47 := cb_eq1 c47
            refine g_iload C dX1_answerMake_50 0 rfl ?_
            refine g_if_ne (tgt := 58) C dX1_answerMake_52 (by decide) (fun c52 => ?_) (fun c52 => ?_)
            · skip
              have c52 := cz_eq1 (by omega) c52
              refine g_iload_n C dX1_answerMake_58 rfl 4 rfl ?_
              refine g_iload_n C dX1_answerMake_59 rfl 5 rfl ?_
              refine g_Si (st := []) C (k_X1_addressOf l D cy zs (wC cy a (zs 0) lab quo spe md ed lis lc see cnt Fs) L q ) gX1_answerMake_X1_addressOf rfl ydX1_addressOf ⟨Nat.le_of_ble_eq_true rfl, Nat.le_of_ble_eq_true rfl⟩ ⟨Nat.le_of_ble_eq_true rfl, Nat.le_of_ble_eq_true rfl⟩ rfl (Nat.le_of_ble_eq_true rfl) dX1_answerMake_60 (fun r60 w60 h60 => ?_)
              obtain ⟨h60a, h60b⟩ := h60
              subst h60a
              have h60b := h60b.symm
              subst h60b
              refine g_istore (lv' := [(7, .int (nI ((16 * L) + q))), (6, .int (nI 1)), (5, .int (nI o)), (0, .ref (a 0)), (1, .int (nI S)), (2, .int (nI L)), (3, .int (nI q)), (4, .int (-1))]) C dX1_answerMake_63 (by decide) rfl ?_
              refine g_iload C dX1_answerMake_65 2 rfl ?_
              refine g_iload_n C dX1_answerMake_67 rfl 5 rfl ?_
              refine g_icmp_ne (tgt := 84) C dX1_answerMake_68 (by decide) (fun c68 => ?_) (fun c68 => ?_)
              · skip
                have c68 := c_eq1 (by omega) (by omega) c68
                refine g_aload_n C dX1_answerMake_84 rfl 3 rfl ?_
                refine g_iload C dX1_answerMake_85 2 rfl ?_
                refine g_iload C dX1_answerMake_87 0 rfl ?_
                refine g_iload C dX1_answerMake_89 7 rfl ?_
                refine g_Vi (ci := 2) (st := []) C (k_X1_makeAbove l D cy zs a lab quo spe md ed lis lc see cnt Fs hI o ((16 * L) + q) (-1) (by omega) (by omega)) gX1_answerMake_X1_makeAbove rfl ⟨rfl, ydX1_makeAbove⟩ 0 rfl rfl ⟨Nat.le_of_ble_eq_true rfl, Nat.le_of_ble_eq_true rfl⟩ ⟨Nat.le_of_ble_eq_true rfl, Nat.le_of_ble_eq_true rfl⟩ rfl (Nat.le_of_ble_eq_true rfl) dX1_answerMake_91 (fun r91 w91 h91 => ?_)
                rcases h91 with h91 | h91 | h91 | h91
                · skip
                  obtain ⟨hm9, hrM, hwM⟩ := h91
                  subst hrM hwM
                  exact g_iret C rfl (Or.inr (Or.inr (Or.inr (Or.inl (⟨(by simp only [makeD, folOk, Option.getD_some, c47, hm9, Option.isSome_none, Option.isSome_some, Bool.false_eq_true, Bool.true_eq_false, Bool.not_true, Bool.not_false, Bool.and_true, Bool.and_false, Bool.true_and, Bool.false_and, eq_self, if_true, if_false]; repeat (first | rw [if_pos (by first | assumption | omega)] | rw [if_neg (by first | assumption | omega)])), rfl, rfl⟩))))) (Nat.le_of_ble_eq_true rfl) (Nat.le_of_ble_eq_true rfl) dX1_answerMake_94
                · skip
                  obtain ⟨hm9, hp9, hl9, hrM, hwM⟩ := h91
                  subst hrM hwM
                  exact g_iret C rfl (Or.inr (Or.inr (Or.inr (Or.inr (Or.inl (⟨(by simp only [makeD, folOk, Option.getD_some, c47, hm9, hp9, Option.isSome_none, Option.isSome_some, Bool.false_eq_true, Bool.true_eq_false, Bool.not_true, Bool.not_false, Bool.and_true, Bool.and_false, Bool.true_and, Bool.false_and, eq_self, if_true, if_false]; repeat (first | rw [if_pos (by first | assumption | omega)] | rw [if_neg (by first | assumption | omega)])), rfl, rfl⟩)))))) (Nat.le_of_ble_eq_true rfl) (Nat.le_of_ble_eq_true rfl) dX1_answerMake_94
                · skip
                  obtain ⟨hm9, hp9, hl9, hrM, pl, ed9, q1, q2, hins, hek, hwM⟩ := h91
                  subst hrM hwM
                  exact g_iret C rfl (Or.inr (Or.inr (Or.inr (Or.inr (Or.inr (Or.inr (Or.inl (⟨o, rfl, (by simp only [makeD, folOk, Option.getD_some, c47, hm9, hp9, Option.isSome_none, Option.isSome_some, Bool.false_eq_true, Bool.true_eq_false, Bool.not_true, Bool.not_false, Bool.and_true, Bool.and_false, Bool.true_and, Bool.false_and, eq_self, if_true, if_false]; repeat (first | rw [if_pos (by first | assumption | omega)] | rw [if_neg (by first | assumption | omega)])), rfl, pl, ed9, q1, q2, hins, hek, rfl⟩)))))))) (Nat.le_of_ble_eq_true rfl) (Nat.le_of_ble_eq_true rfl) dX1_answerMake_94
                · skip
                  obtain ⟨hm9, i9, hp9, hrM, hwM⟩ := h91
                  subst hrM hwM
                  exact g_iret C rfl (Or.inr (Or.inr (Or.inr (Or.inr (Or.inr (Or.inr (Or.inr (⟨o, rfl, (by simp only [makeD, folOk, Option.getD_some, c47, hm9, hp9, Option.isSome_none, Option.isSome_some, Bool.false_eq_true, Bool.true_eq_false, Bool.not_true, Bool.not_false, Bool.and_true, Bool.and_false, Bool.true_and, Bool.false_and, eq_self, if_true, if_false]; repeat (first | rw [if_pos (by first | assumption | omega)] | rw [if_neg (by first | assumption | omega)])), rfl, rfl⟩)))))))) (Nat.le_of_ble_eq_true rfl) (Nat.le_of_ble_eq_true rfl) dX1_answerMake_94
              · skip
                have c68 := c_eq0 (by omega) (by omega) c68
                refine g_aload_n C dX1_answerMake_71 rfl 3 rfl ?_
                refine g_iload C dX1_answerMake_72 2 rfl ?_
                refine g_iload C dX1_answerMake_74 0 rfl ?_
                refine g_iload C dX1_answerMake_76 7 rfl ?_
                refine g_Vi (ci := 2) (st := []) C (k_X1_makeOwn l D cy zs a lab quo spe md ed lis lc see cnt Fs hI o ((16 * L) + q) (-1) (by omega) (by omega)) gX1_answerMake_X1_makeOwn rfl ⟨rfl, ydX1_makeOwn⟩ 0 rfl rfl ⟨Nat.le_of_ble_eq_true rfl, Nat.le_of_ble_eq_true rfl⟩ ⟨Nat.le_of_ble_eq_true rfl, Nat.le_of_ble_eq_true rfl⟩ rfl (Nat.le_of_ble_eq_true rfl) dX1_answerMake_78 (fun r78 w78 h78 => ?_)
                rcases h78 with h78 | h78 | h78 | h78
                · skip
                  obtain ⟨i9, hp9, hrM, hwM⟩ := h78
                  subst hrM hwM
                  refine g_goto (tgt := 94) C dX1_answerMake_81 (by decide) ?_
                  exact g_iret C rfl (Or.inr (Or.inr (Or.inl (⟨(by simp only [makeD, folOk, Option.getD_some, c47, hp9, Option.isSome_none, Option.isSome_some, Bool.false_eq_true, Bool.true_eq_false, Bool.not_true, Bool.not_false, Bool.and_true, Bool.and_false, Bool.true_and, Bool.false_and, eq_self, if_true, if_false]; repeat (first | rw [if_pos (by first | assumption | omega)] | rw [if_neg (by first | assumption | omega)])), rfl, rfl⟩)))) (Nat.le_of_ble_eq_true rfl) (Nat.le_of_ble_eq_true rfl) dX1_answerMake_94
                · skip
                  obtain ⟨hp9, hm9, hrM, hwM⟩ := h78
                  subst hrM hwM
                  refine g_goto (tgt := 94) C dX1_answerMake_81 (by decide) ?_
                  exact g_iret C rfl (Or.inr (Or.inr (Or.inr (Or.inl (⟨(by simp only [makeD, folOk, Option.getD_some, c47, hm9, hp9, Option.isSome_none, Option.isSome_some, Bool.false_eq_true, Bool.true_eq_false, Bool.not_true, Bool.not_false, Bool.and_true, Bool.and_false, Bool.true_and, Bool.false_and, eq_self, if_true, if_false]; repeat (first | rw [if_pos (by first | assumption | omega)] | rw [if_neg (by first | assumption | omega)])), rfl, rfl⟩))))) (Nat.le_of_ble_eq_true rfl) (Nat.le_of_ble_eq_true rfl) dX1_answerMake_94
                · skip
                  obtain ⟨hp9, hm9, hl9, hrM, hwM⟩ := h78
                  subst hrM hwM
                  refine g_goto (tgt := 94) C dX1_answerMake_81 (by decide) ?_
                  exact g_iret C rfl (Or.inr (Or.inr (Or.inr (Or.inr (Or.inl (⟨(by simp only [makeD, folOk, Option.getD_some, c47, hm9, hp9, Option.isSome_none, Option.isSome_some, Bool.false_eq_true, Bool.true_eq_false, Bool.not_true, Bool.not_false, Bool.and_true, Bool.and_false, Bool.true_and, Bool.false_and, eq_self, if_true, if_false]; repeat (first | rw [if_pos (by first | assumption | omega)] | rw [if_neg (by first | assumption | omega)])), rfl, rfl⟩)))))) (Nat.le_of_ble_eq_true rfl) (Nat.le_of_ble_eq_true rfl) dX1_answerMake_94
                · skip
                  obtain ⟨hp9, hm9, hl9, hrM, pl, ed9, q1, q2, hins, hek, hwM⟩ := h78
                  subst hrM hwM
                  refine g_goto (tgt := 94) C dX1_answerMake_81 (by decide) ?_
                  exact g_iret C rfl (Or.inr (Or.inr (Or.inr (Or.inr (Or.inr (Or.inl (⟨(by simp only [makeD, folOk, Option.getD_some, c47, hm9, hp9, Option.isSome_none, Option.isSome_some, Bool.false_eq_true, Bool.true_eq_false, Bool.not_true, Bool.not_false, Bool.and_true, Bool.and_false, Bool.true_and, Bool.false_and, eq_self, if_true, if_false]; repeat (first | rw [if_pos (by first | assumption | omega)] | rw [if_neg (by first | assumption | omega)])), rfl, pl, ed9, q1, q2, hins, hek, rfl⟩))))))) (Nat.le_of_ble_eq_true rfl) (Nat.le_of_ble_eq_true rfl) dX1_answerMake_94
            · skip
              exact absurd c52 (by decide +kernel)
        · skip
          exact absurd rfl c19
      · skip
        have hx := hfo x rfl
        refine g_iload C dX1_answerMake_16 5 rfl ?_
        refine g_iconst (v := (-1)) C dX1_answerMake_18 (by decide +kernel) ?_
        refine g_icmp_eq (tgt := 34) C dX1_answerMake_19 (by decide) (fun c19 => ?_) (fun c19 => ?_)
        · skip
          exact absurd c19 (nI_nem1 (by omega))
        · skip
          refine g_iload C dX1_answerMake_22 5 rfl ?_
          refine g_Si (st := []) C (k_X1_labelOfAddress l D cy zs (wC cy a (zs 0) lab quo spe md ed lis lc see cnt Fs) x (by omega)) gX1_answerMake_X1_labelOfAddress rfl ydX1_labelOfAddress ⟨Nat.le_of_ble_eq_true rfl, Nat.le_of_ble_eq_true rfl⟩ ⟨Nat.le_of_ble_eq_true rfl, Nat.le_of_ble_eq_true rfl⟩ rfl (Nat.le_of_ble_eq_true rfl) dX1_answerMake_24 (fun r24 w24 h24 => ?_)
          obtain ⟨h24a, h24b⟩ := h24
          subst h24a
          have h24b := h24b.symm
          subst h24b
          refine g_iload_n C dX1_answerMake_27 rfl 3 rfl ?_
          refine g_Si (st := []) C (k_X1_mayFlow l D cy zs (wC cy a (zs 0) lab quo spe md ed lis lc see cnt Fs) (x / 16) L (by omega) (by omega)) gX1_answerMake_X1_mayFlow rfl ydX1_mayFlow ⟨Nat.le_of_ble_eq_true rfl, Nat.le_of_ble_eq_true rfl⟩ ⟨Nat.le_of_ble_eq_true rfl, Nat.le_of_ble_eq_true rfl⟩ rfl (Nat.le_of_ble_eq_true rfl) dX1_answerMake_28 (fun r28 w28 h28 => ?_)
          obtain ⟨h28a, h28b⟩ := h28
          subst h28a
          have h28b := h28b.symm
          subst h28b
          refine g_if_eq (tgt := 38) C dX1_answerMake_31 (by decide) (fun c31 => ?_) (fun c31 => ?_)
          · skip
            have c31 := cb_eq0 c31
            refine g_iconst (v := nI 0) C dX1_answerMake_38 (by decide +kernel) ?_
            refine g_istore (lv' := [(6, .int (nI 0)), (5, .int (nI o)), (0, .ref (a 0)), (1, .int (nI S)), (2, .int (nI L)), (3, .int (nI q)), (4, .int (nI x))]) C dX1_answerMake_39 (by decide) rfl ?_
            refine g_iload C dX1_answerMake_41 1 rfl ?_
            refine g_iload_n C dX1_answerMake_43 rfl 4 rfl ?_
            refine g_Si (st := []) C (k_X1_mayFlow l D cy zs (wC cy a (zs 0) lab quo spe md ed lis lc see cnt Fs) o L (by omega) (by omega)) gX1_answerMake_X1_mayFlow rfl ydX1_mayFlow ⟨Nat.le_of_ble_eq_true rfl, Nat.le_of_ble_eq_true rfl⟩ ⟨Nat.le_of_ble_eq_true rfl, Nat.le_of_ble_eq_true rfl⟩ rfl (Nat.le_of_ble_eq_true rfl) dX1_answerMake_44 (fun r44 w44 h44 => ?_)
            obtain ⟨h44a, h44b⟩ := h44
            subst h44a
            have h44b := h44b.symm
            subst h44b
            refine g_if_eq (tgt := 55) C dX1_answerMake_47 (by decide) (fun c47 => ?_) (fun c47 => ?_)
            · skip
              have c47 := cb_eq0 c47
              refine g_bipush (v := (-2)) C dX1_answerMake_55 (by decide +kernel) ?_
              exact g_iret C rfl (Or.inr (Or.inl (⟨(by simp only [makeD, folOk, Option.getD_some, c31, c47, Option.isSome_none, Option.isSome_some, Bool.false_eq_true, Bool.true_eq_false, Bool.not_true, Bool.not_false, Bool.and_true, Bool.and_false, Bool.true_and, Bool.false_and, eq_self, if_true, if_false]; repeat (first | rw [if_pos (by first | assumption | omega)] | rw [if_neg (by first | assumption | omega)])), rfl, rfl⟩))) (Nat.le_of_ble_eq_true rfl) (Nat.le_of_ble_eq_true rfl) dX1_answerMake_57
            · skip
              have c47 := cb_eq1 c47
              refine g_iload C dX1_answerMake_50 0 rfl ?_
              refine g_if_ne (tgt := 58) C dX1_answerMake_52 (by decide) (fun c52 => ?_) (fun c52 => ?_)
              · skip
                exact absurd c52 (by decide +kernel)
              · skip
                have c52 := cz_eq0 (by omega) c52
                refine g_bipush (v := (-2)) C dX1_answerMake_55 (by decide +kernel) ?_
                exact g_iret C rfl (Or.inr (Or.inl (⟨(by simp only [makeD, folOk, Option.getD_some, c31, c47, Option.isSome_none, Option.isSome_some, Bool.false_eq_true, Bool.true_eq_false, Bool.not_true, Bool.not_false, Bool.and_true, Bool.and_false, Bool.true_and, Bool.false_and, eq_self, if_true, if_false]; repeat (first | rw [if_pos (by first | assumption | omega)] | rw [if_neg (by first | assumption | omega)])), rfl, rfl⟩))) (Nat.le_of_ble_eq_true rfl) (Nat.le_of_ble_eq_true rfl) dX1_answerMake_57
          · skip
            have c31 := cb_eq1 c31
            refine g_iconst (v := nI 1) C dX1_answerMake_34 (by decide +kernel) ?_
            refine g_goto (tgt := 39) C dX1_answerMake_35 (by decide) ?_
            refine g_istore (lv' := [(6, .int (nI 1)), (5, .int (nI o)), (0, .ref (a 0)), (1, .int (nI S)), (2, .int (nI L)), (3, .int (nI q)), (4, .int (nI x))]) C dX1_answerMake_39 (by decide) rfl ?_
            refine g_iload C dX1_answerMake_41 1 rfl ?_
            refine g_iload_n C dX1_answerMake_43 rfl 4 rfl ?_
            refine g_Si (st := []) C (k_X1_mayFlow l D cy zs (wC cy a (zs 0) lab quo spe md ed lis lc see cnt Fs) o L (by omega) (by omega)) gX1_answerMake_X1_mayFlow rfl ydX1_mayFlow ⟨Nat.le_of_ble_eq_true rfl, Nat.le_of_ble_eq_true rfl⟩ ⟨Nat.le_of_ble_eq_true rfl, Nat.le_of_ble_eq_true rfl⟩ rfl (Nat.le_of_ble_eq_true rfl) dX1_answerMake_44 (fun r44 w44 h44 => ?_)
            obtain ⟨h44a, h44b⟩ := h44
            subst h44a
            have h44b := h44b.symm
            subst h44b
            refine g_if_eq (tgt := 55) C dX1_answerMake_47 (by decide) (fun c47 => ?_) (fun c47 => ?_)
            · skip
              have c47 := cb_eq0 c47
              refine g_bipush (v := (-2)) C dX1_answerMake_55 (by decide +kernel) ?_
              exact g_iret C rfl (Or.inr (Or.inl (⟨(by simp only [makeD, folOk, Option.getD_some, c31, c47, Option.isSome_none, Option.isSome_some, Bool.false_eq_true, Bool.true_eq_false, Bool.not_true, Bool.not_false, Bool.and_true, Bool.and_false, Bool.true_and, Bool.false_and, eq_self, if_true, if_false]; repeat (first | rw [if_pos (by first | assumption | omega)] | rw [if_neg (by first | assumption | omega)])), rfl, rfl⟩))) (Nat.le_of_ble_eq_true rfl) (Nat.le_of_ble_eq_true rfl) dX1_answerMake_57
            · skip
              have c47 := cb_eq1 c47
              refine g_iload C dX1_answerMake_50 0 rfl ?_
              refine g_if_ne (tgt := 58) C dX1_answerMake_52 (by decide) (fun c52 => ?_) (fun c52 => ?_)
              · skip
                have c52 := cz_eq1 (by omega) c52
                refine g_iload_n C dX1_answerMake_58 rfl 4 rfl ?_
                refine g_iload_n C dX1_answerMake_59 rfl 5 rfl ?_
                refine g_Si (st := []) C (k_X1_addressOf l D cy zs (wC cy a (zs 0) lab quo spe md ed lis lc see cnt Fs) L q ) gX1_answerMake_X1_addressOf rfl ydX1_addressOf ⟨Nat.le_of_ble_eq_true rfl, Nat.le_of_ble_eq_true rfl⟩ ⟨Nat.le_of_ble_eq_true rfl, Nat.le_of_ble_eq_true rfl⟩ rfl (Nat.le_of_ble_eq_true rfl) dX1_answerMake_60 (fun r60 w60 h60 => ?_)
                obtain ⟨h60a, h60b⟩ := h60
                subst h60a
                have h60b := h60b.symm
                subst h60b
                refine g_istore (lv' := [(7, .int (nI ((16 * L) + q))), (6, .int (nI 1)), (5, .int (nI o)), (0, .ref (a 0)), (1, .int (nI S)), (2, .int (nI L)), (3, .int (nI q)), (4, .int (nI x))]) C dX1_answerMake_63 (by decide) rfl ?_
                refine g_iload C dX1_answerMake_65 2 rfl ?_
                refine g_iload_n C dX1_answerMake_67 rfl 5 rfl ?_
                refine g_icmp_ne (tgt := 84) C dX1_answerMake_68 (by decide) (fun c68 => ?_) (fun c68 => ?_)
                · skip
                  have c68 := c_eq1 (by omega) (by omega) c68
                  refine g_aload_n C dX1_answerMake_84 rfl 3 rfl ?_
                  refine g_iload C dX1_answerMake_85 2 rfl ?_
                  refine g_iload C dX1_answerMake_87 0 rfl ?_
                  refine g_iload C dX1_answerMake_89 7 rfl ?_
                  refine g_Vi (ci := 2) (st := []) C (k_X1_makeAbove l D cy zs a lab quo spe md ed lis lc see cnt Fs hI o ((16 * L) + q) (nI x) (by omega) (by omega)) gX1_answerMake_X1_makeAbove rfl ⟨rfl, ydX1_makeAbove⟩ 0 rfl rfl ⟨Nat.le_of_ble_eq_true rfl, Nat.le_of_ble_eq_true rfl⟩ ⟨Nat.le_of_ble_eq_true rfl, Nat.le_of_ble_eq_true rfl⟩ rfl (Nat.le_of_ble_eq_true rfl) dX1_answerMake_91 (fun r91 w91 h91 => ?_)
                  rcases h91 with h91 | h91 | h91 | h91
                  · skip
                    obtain ⟨hm9, hrM, hwM⟩ := h91
                    subst hrM hwM
                    exact g_iret C rfl (Or.inr (Or.inr (Or.inr (Or.inl (⟨(by simp only [makeD, folOk, Option.getD_some, c31, c47, hm9, Option.isSome_none, Option.isSome_some, Bool.false_eq_true, Bool.true_eq_false, Bool.not_true, Bool.not_false, Bool.and_true, Bool.and_false, Bool.true_and, Bool.false_and, eq_self, if_true, if_false]; repeat (first | rw [if_pos (by first | assumption | omega)] | rw [if_neg (by first | assumption | omega)])), rfl, rfl⟩))))) (Nat.le_of_ble_eq_true rfl) (Nat.le_of_ble_eq_true rfl) dX1_answerMake_94
                  · skip
                    obtain ⟨hm9, hp9, hl9, hrM, hwM⟩ := h91
                    subst hrM hwM
                    exact g_iret C rfl (Or.inr (Or.inr (Or.inr (Or.inr (Or.inl (⟨(by simp only [makeD, folOk, Option.getD_some, c31, c47, hm9, hp9, Option.isSome_none, Option.isSome_some, Bool.false_eq_true, Bool.true_eq_false, Bool.not_true, Bool.not_false, Bool.and_true, Bool.and_false, Bool.true_and, Bool.false_and, eq_self, if_true, if_false]; repeat (first | rw [if_pos (by first | assumption | omega)] | rw [if_neg (by first | assumption | omega)])), rfl, rfl⟩)))))) (Nat.le_of_ble_eq_true rfl) (Nat.le_of_ble_eq_true rfl) dX1_answerMake_94
                  · skip
                    obtain ⟨hm9, hp9, hl9, hrM, pl, ed9, q1, q2, hins, hek, hwM⟩ := h91
                    subst hrM hwM
                    exact g_iret C rfl (Or.inr (Or.inr (Or.inr (Or.inr (Or.inr (Or.inr (Or.inl (⟨o, rfl, (by simp only [makeD, folOk, Option.getD_some, c31, c47, hm9, hp9, Option.isSome_none, Option.isSome_some, Bool.false_eq_true, Bool.true_eq_false, Bool.not_true, Bool.not_false, Bool.and_true, Bool.and_false, Bool.true_and, Bool.false_and, eq_self, if_true, if_false]; repeat (first | rw [if_pos (by first | assumption | omega)] | rw [if_neg (by first | assumption | omega)])), rfl, pl, ed9, q1, q2, hins, hek, rfl⟩)))))))) (Nat.le_of_ble_eq_true rfl) (Nat.le_of_ble_eq_true rfl) dX1_answerMake_94
                  · skip
                    obtain ⟨hm9, i9, hp9, hrM, hwM⟩ := h91
                    subst hrM hwM
                    exact g_iret C rfl (Or.inr (Or.inr (Or.inr (Or.inr (Or.inr (Or.inr (Or.inr (⟨o, rfl, (by simp only [makeD, folOk, Option.getD_some, c31, c47, hm9, hp9, Option.isSome_none, Option.isSome_some, Bool.false_eq_true, Bool.true_eq_false, Bool.not_true, Bool.not_false, Bool.and_true, Bool.and_false, Bool.true_and, Bool.false_and, eq_self, if_true, if_false]; repeat (first | rw [if_pos (by first | assumption | omega)] | rw [if_neg (by first | assumption | omega)])), rfl, rfl⟩)))))))) (Nat.le_of_ble_eq_true rfl) (Nat.le_of_ble_eq_true rfl) dX1_answerMake_94
                · skip
                  have c68 := c_eq0 (by omega) (by omega) c68
                  refine g_aload_n C dX1_answerMake_71 rfl 3 rfl ?_
                  refine g_iload C dX1_answerMake_72 2 rfl ?_
                  refine g_iload C dX1_answerMake_74 0 rfl ?_
                  refine g_iload C dX1_answerMake_76 7 rfl ?_
                  refine g_Vi (ci := 2) (st := []) C (k_X1_makeOwn l D cy zs a lab quo spe md ed lis lc see cnt Fs hI o ((16 * L) + q) (nI x) (by omega) (by omega)) gX1_answerMake_X1_makeOwn rfl ⟨rfl, ydX1_makeOwn⟩ 0 rfl rfl ⟨Nat.le_of_ble_eq_true rfl, Nat.le_of_ble_eq_true rfl⟩ ⟨Nat.le_of_ble_eq_true rfl, Nat.le_of_ble_eq_true rfl⟩ rfl (Nat.le_of_ble_eq_true rfl) dX1_answerMake_78 (fun r78 w78 h78 => ?_)
                  rcases h78 with h78 | h78 | h78 | h78
                  · skip
                    obtain ⟨i9, hp9, hrM, hwM⟩ := h78
                    subst hrM hwM
                    refine g_goto (tgt := 94) C dX1_answerMake_81 (by decide) ?_
                    exact g_iret C rfl (Or.inr (Or.inr (Or.inl (⟨(by simp only [makeD, folOk, Option.getD_some, c31, c47, hp9, Option.isSome_none, Option.isSome_some, Bool.false_eq_true, Bool.true_eq_false, Bool.not_true, Bool.not_false, Bool.and_true, Bool.and_false, Bool.true_and, Bool.false_and, eq_self, if_true, if_false]; repeat (first | rw [if_pos (by first | assumption | omega)] | rw [if_neg (by first | assumption | omega)])), rfl, rfl⟩)))) (Nat.le_of_ble_eq_true rfl) (Nat.le_of_ble_eq_true rfl) dX1_answerMake_94
                  · skip
                    obtain ⟨hp9, hm9, hrM, hwM⟩ := h78
                    subst hrM hwM
                    refine g_goto (tgt := 94) C dX1_answerMake_81 (by decide) ?_
                    exact g_iret C rfl (Or.inr (Or.inr (Or.inr (Or.inl (⟨(by simp only [makeD, folOk, Option.getD_some, c31, c47, hm9, hp9, Option.isSome_none, Option.isSome_some, Bool.false_eq_true, Bool.true_eq_false, Bool.not_true, Bool.not_false, Bool.and_true, Bool.and_false, Bool.true_and, Bool.false_and, eq_self, if_true, if_false]; repeat (first | rw [if_pos (by first | assumption | omega)] | rw [if_neg (by first | assumption | omega)])), rfl, rfl⟩))))) (Nat.le_of_ble_eq_true rfl) (Nat.le_of_ble_eq_true rfl) dX1_answerMake_94
                  · skip
                    obtain ⟨hp9, hm9, hl9, hrM, hwM⟩ := h78
                    subst hrM hwM
                    refine g_goto (tgt := 94) C dX1_answerMake_81 (by decide) ?_
                    exact g_iret C rfl (Or.inr (Or.inr (Or.inr (Or.inr (Or.inl (⟨(by simp only [makeD, folOk, Option.getD_some, c31, c47, hm9, hp9, Option.isSome_none, Option.isSome_some, Bool.false_eq_true, Bool.true_eq_false, Bool.not_true, Bool.not_false, Bool.and_true, Bool.and_false, Bool.true_and, Bool.false_and, eq_self, if_true, if_false]; repeat (first | rw [if_pos (by first | assumption | omega)] | rw [if_neg (by first | assumption | omega)])), rfl, rfl⟩)))))) (Nat.le_of_ble_eq_true rfl) (Nat.le_of_ble_eq_true rfl) dX1_answerMake_94
                  · skip
                    obtain ⟨hp9, hm9, hl9, hrM, pl, ed9, q1, q2, hins, hek, hwM⟩ := h78
                    subst hrM hwM
                    refine g_goto (tgt := 94) C dX1_answerMake_81 (by decide) ?_
                    exact g_iret C rfl (Or.inr (Or.inr (Or.inr (Or.inr (Or.inr (Or.inl (⟨(by simp only [makeD, folOk, Option.getD_some, c31, c47, hm9, hp9, Option.isSome_none, Option.isSome_some, Bool.false_eq_true, Bool.true_eq_false, Bool.not_true, Bool.not_false, Bool.and_true, Bool.and_false, Bool.true_and, Bool.false_and, eq_self, if_true, if_false]; repeat (first | rw [if_pos (by first | assumption | omega)] | rw [if_neg (by first | assumption | omega)])), rfl, pl, ed9, q1, q2, hins, hek, rfl⟩))))))) (Nat.le_of_ble_eq_true rfl) (Nat.le_of_ble_eq_true rfl) dX1_answerMake_94
              · skip
                exact absurd c52 (by decide +kernel)
    · skip
      exact absurd c11 (nI_nem1 (by omega))
