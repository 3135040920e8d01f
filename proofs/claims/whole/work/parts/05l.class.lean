def aC (h q1 q2 q3 q4 q5 q6 q7 : Nat) (r : Nat → Nat) : Nat → Nat := fun k => if 8 ≤ k then r (k - 8) else match k with
  | 0 => h
  | 1 => q1
  | 2 => q2
  | 3 => q3
  | 4 => q4
  | 5 => q5
  | 6 => q6
  | _ => q7
theorem aC_row {h q1 q2 q3 q4 q5 q6 q7 : Nat} {r : Nat → Nat} (S : Nat) : aC h q1 q2 q3 q4 q5 q6 q7 r (8 + S) = r S := by
  unfold aC
  rw [if_pos (by omega), Nat.add_sub_cancel_left]
theorem fx_new {cy : Nat → ClassId} {h q1 q2 q3 q4 q5 q6 q7 er : Nat} {r : Nat → Nat} {lab : Nat → Option Nat} {quo spe : Nat → Nat} {md : Int32} {nf : Nat} {lis : Nat → Nat} {lc : Nat} {cnt : Nat → Nat} : fx cy (aC h q1 q2 q3 q4 q5 q6 q7 r) er lab quo spe md nf lis lc (fun _ _ => 0) cnt =
  (h, .inr (2, [.ref q1, .ref q2, .ref q3, .ref q4, .ref q5, .int (nI lc), .ref q6, .ref q7])) :: (q1, .inl (cy 0, 16, .inl (fun i => fI (lab i)))) :: (q2, .inl (cy 0, 1024, .inl (fun i => nI (quo i)))) :: (q3, .inl (cy 0, 1024, .inl (fun i => nI (spe i)))) :: (q4, .inr (0, [.int md, .ref er, .int (nI nf)])) :: (q5, .inl (cy 0, 32, .inl (fun i => nI (lis i)))) :: (q6, .inl (cy 4, 16, .inr (.inr (.inr (.inr (fun i => if i < 16 then some (r i) else none)))))) :: (q7, .inl (cy 0, 16, .inl (fun i => nI (cnt i)))) :: (List.range 16).map (fun S => ((r S, .inl (cy 0, 200, .inl (fun _ => 0))) : Nat × va_E)) := by
  unfold fx
  have e1 : (fun i => if i < 16 then some (aC h q1 q2 q3 q4 q5 q6 q7 r (8 + i)) else none) = fun i => if i < 16 then some (r i) else none := by
    funext i
    rw [aC_row]
  have e2 : (fun S => ((aC h q1 q2 q3 q4 q5 q6 q7 r (8 + S), .inl (cy 0, 200, .inl (fun _ => 0))) : Nat × va_E)) = fun S => ((r S, .inl (cy 0, 200, .inl (fun _ => 0))) : Nat × va_E) := by
    funext S
    rw [aC_row]
  rw [e1, e2]
  rfl
theorem fill_lab : fillF (fun _ => 0) (-1) 16 = fun i => fI ((fun i => if i < 16 then none else some 0) i) := by
  funext i
  unfold fillF
  by_cases h : i < 16
  · rw [if_pos h]
    show -1 = fI (if i < 16 then none else some 0)
    rw [if_pos h]
    rfl
  · rw [if_neg h]
    show 0 = fI (if i < 16 then none else some 0)
    rw [if_neg h]
    rfl
theorem fill_quo : fillF (fun _ => 0) (nI 40) 1024 = fun i => nI ((fun i => if i < 1024 then 40 else 0) i) := by
  funext i
  unfold fillF
  by_cases h : i < 1024
  · rw [if_pos h]
    show nI 40 = nI (if i < 1024 then 40 else 0)
    rw [if_pos h]
  · rw [if_neg h]
    show 0 = nI (if i < 1024 then 40 else 0)
    rw [if_neg h]
    rfl
theorem perm_n {α : Type} {A B : List α} {x y : α} : ((A ++ (x :: y :: B)) ++ []).Perm ((A ++ ([x] ++ B)) ++ [y]) := by
  rw [List.append_nil, List.append_assoc]
  refine List.Perm.append_left A ?_
  refine List.Perm.cons x ?_
  exact List.perm_append_comm (l₁ := [y]) (l₂ := B)
abbrev rmX1_init : Room := { frames := 4, cells := 23, slots := 5400, locals := 100 }
theorem ydX1_init : yX1_init.cls ≠ "java/lang/invoke/MethodHandle" ∧ yX1_init.cls ≠ "java/lang/invoke/VarHandle" ∧ (parseMethodDescriptor yX1_init.desc).map (fun d => d.parameters.length) = some 0 := by decide +kernel
theorem iwX1_init_X1 : ∀ w ∈ u_ws RX1 TX1 8, w ∈ wsX1_init := fun _ h => (List.mem_cons_of_mem _ (List.mem_append_left _ (List.mem_append_right _ h)))
theorem iwX1_init_J : ∀ w ∈ u_ws RJx4a65c TJx4a65c 3, w ∈ wsX1_init := fun _ h => (List.mem_cons_of_mem _ (List.mem_append_right _ h))
set_option maxRecDepth 100000 in
set_option maxHeartbeats 4000000 in
theorem k_X1_init (l : Launch) (D : va_G) (cy : Nat → ClassId) (zs : Nat → Nat) (h : Nat) : Mv l D cy zs yX1_init wsX1_init rmX1_init [.ref h] [(h, .inr (2, [.null, .null, .null, .null, .null, .int 0, .null, .null]))] (fun w => ∃ a : Nat → Nat, a 0 = h ∧ w = wC cy a (zs 0) (fun i => if i < 16 then none else some 0) (fun i => if i < 1024 then 40 else 0) (fun _ => 0) (nI 0) none (fun _ => 0) 0 (fun _ _ => 0) (fun _ => 0) []) := by
  refine Mv.of (lv := [(0, .ref h)]) RX1 ⟨by decide, rfl⟩ rfl (Nat.le_of_ble_eq_true rfl) rfl ?_
  intro p e s m args below meth c A C hnm
  refine g_aload_n C dX1_init_0 rfl 0 rfl ?_
  refine g_init C (C.hw (List.mem_cons_of_mem _ (List.mem_append_left _ (List.mem_append_left _ (List.mem_append_left _ (List.mem_of_getElem? (i := 0) rfl)))))) (C.hw (List.mem_cons_of_mem _ (List.mem_append_left _ (List.mem_append_left _ (List.mem_append_left _ (List.mem_of_getElem? (i := 1) rfl)))))) (C.hw (List.mem_cons_of_mem _ (List.mem_append_left _ (List.mem_append_left _ (List.mem_append_left _ (List.mem_of_getElem? (i := 2) rfl)))))) dX1_init_1 (by decide) (by decide) ?_
  refine g_aload_n C dX1_init_4 rfl 0 rfl ?_
  refine g_bipush (v := nI 16) C dX1_init_5 (by decide +kernel) ?_
  refine g_newI C 16 (C.hw (List.mem_cons_of_mem _ (List.mem_append_left _ (List.mem_append_left _ (List.mem_append_left _ (List.mem_of_getElem? (i := 3) rfl)))))) (by decide +kernel) (by decide +kernel) (Nat.le_of_ble_eq_true rfl) (Nat.le_of_ble_eq_true rfl) (Nat.le_of_ble_eq_true rfl) dX1_init_7 (fun q1 => ?_)
  refine g_putF (ci := 2) (ty := .array .int) (v := .ref q1) (ws' := ([(h, .inr (2, [.ref q1, .null, .null, .null, .null, .int 0, .null, .null])), (q1, .inl (cy 0, 16, .inl (fun _ => 0)))] : va_W)) C iwX1_init_X1 tyX1 tyX1_ok nmX1 0 rfl rfl 0 (by decide) (C.hw (List.mem_cons_of_mem _ (List.mem_append_left _ (List.mem_append_left _ (List.mem_append_left _ (List.mem_of_getElem? (i := 4) rfl)))))) (fun _ h9 => h9) rfl hnm rfl (by decide +kernel) rfl rfl (Nat.le_of_ble_eq_true rfl) rfl dX1_init_9 ?_
  refine g_aload_n C dX1_init_12 rfl 0 rfl ?_
  refine g_sipush (v := nI 1024) C dX1_init_13 (by decide +kernel) ?_
  refine g_newI C 1024 (C.hw (List.mem_cons_of_mem _ (List.mem_append_left _ (List.mem_append_left _ (List.mem_append_left _ (List.mem_of_getElem? (i := 3) rfl)))))) (by decide +kernel) (by decide +kernel) (Nat.le_of_ble_eq_true rfl) (Nat.le_of_ble_eq_true rfl) (Nat.le_of_ble_eq_true rfl) dX1_init_16 (fun q2 => ?_)
  refine g_putF (ci := 2) (ty := .array .int) (v := .ref q2) (ws' := ([(h, .inr (2, [.ref q1, .ref q2, .null, .null, .null, .int 0, .null, .null])), (q1, .inl (cy 0, 16, .inl (fun _ => 0))), (q2, .inl (cy 0, 1024, .inl (fun _ => 0)))] : va_W)) C iwX1_init_X1 tyX1 tyX1_ok nmX1 0 rfl rfl 1 (by decide) (C.hw (List.mem_cons_of_mem _ (List.mem_append_left _ (List.mem_append_left _ (List.mem_append_left _ (List.mem_of_getElem? (i := 5) rfl)))))) (fun _ h9 => h9) rfl hnm rfl (by decide +kernel) rfl rfl (Nat.le_of_ble_eq_true rfl) rfl dX1_init_18 ?_
  refine g_aload_n C dX1_init_21 rfl 0 rfl ?_
  refine g_sipush (v := nI 1024) C dX1_init_22 (by decide +kernel) ?_
  refine g_newI C 1024 (C.hw (List.mem_cons_of_mem _ (List.mem_append_left _ (List.mem_append_left _ (List.mem_append_left _ (List.mem_of_getElem? (i := 3) rfl)))))) (by decide +kernel) (by decide +kernel) (Nat.le_of_ble_eq_true rfl) (Nat.le_of_ble_eq_true rfl) (Nat.le_of_ble_eq_true rfl) dX1_init_25 (fun q3 => ?_)
  refine g_putF (ci := 2) (ty := .array .int) (v := .ref q3) (ws' := ([(h, .inr (2, [.ref q1, .ref q2, .ref q3, .null, .null, .int 0, .null, .null])), (q1, .inl (cy 0, 16, .inl (fun _ => 0))), (q2, .inl (cy 0, 1024, .inl (fun _ => 0))), (q3, .inl (cy 0, 1024, .inl (fun _ => 0)))] : va_W)) C iwX1_init_X1 tyX1 tyX1_ok nmX1 0 rfl rfl 2 (by decide) (C.hw (List.mem_cons_of_mem _ (List.mem_append_left _ (List.mem_append_left _ (List.mem_append_left _ (List.mem_of_getElem? (i := 6) rfl)))))) (fun _ h9 => h9) rfl hnm rfl (by decide +kernel) rfl rfl (Nat.le_of_ble_eq_true rfl) rfl dX1_init_27 ?_
  refine g_aload_n C dX1_init_30 rfl 0 rfl ?_
  refine g_new (ci := 0) (fs := [.int (nI 0), .null, .int (nI 0)]) C iwX1_init_J tyJx4a65c tyJx4a65c_ok (C.hw (List.mem_cons_of_mem _ (List.mem_append_left _ (List.mem_append_left _ (List.mem_append_left _ (List.mem_of_getElem? (i := 7) rfl)))))) (C.hw (List.mem_cons_of_mem _ (List.mem_append_left _ (List.mem_append_left _ (List.mem_append_left _ (List.mem_of_getElem? (i := 8) rfl)))))) (C.hw (List.mem_cons_of_mem _ (List.mem_append_left _ (List.mem_append_left _ (List.mem_append_left _ (List.mem_of_getElem? (i := 9) rfl)))))) rfl (fun j9 hj9 => by rcases (by omega : j9 = 0 ∨ j9 = 1 ∨ j9 = 2) with rfl | rfl | rfl <;> rfl) (Nat.le_of_ble_eq_true rfl) (Nat.le_of_ble_eq_true rfl) dX1_init_31 (fun q4 => ?_)
  refine g_dup C dX1_init_34 rfl ?_
  refine g_Iv (st := [.ref q4, .ref h]) C (k_Jx4a65c_init_da8c8 l D cy zs ([(h, .inr (2, [.ref q1, .ref q2, .ref q3, .null, .null, .int 0, .null, .null])), (q1, .inl (cy 0, 16, .inl (fun _ => 0))), (q2, .inl (cy 0, 1024, .inl (fun _ => 0))), (q3, .inl (cy 0, 1024, .inl (fun _ => 0))), (q4, .inr (0, [.int (nI 0), .null, .int (nI 0)]))] : va_W)  (show ([(h, .inr (2, [.ref q1, .ref q2, .ref q3, .null, .null, .int 0, .null, .null])), (q1, .inl (cy 0, 16, .inl (fun _ => 0))), (q2, .inl (cy 0, 1024, .inl (fun _ => 0))), (q3, .inl (cy 0, 1024, .inl (fun _ => 0))), (q4, .inr (0, [.int (nI 0), .null, .int (nI 0)]))] : va_W)[4]? = some (q4, .inr (0, [.int (nI 0), .null, .int (nI 0)])) from rfl) ) gX1_init_Jx4a65c_init_da8c8 rfl (C.hw (List.mem_cons_of_mem _ (List.mem_append_left _ (List.mem_append_left _ (List.mem_append_left _ (List.mem_of_getElem? (i := 9) rfl)))))) (C.hw (List.mem_cons_of_mem _ (List.mem_append_left _ (List.mem_append_left _ (List.mem_append_left _ (List.mem_of_getElem? (i := 16) rfl)))))) (C.hw (List.mem_cons_of_mem _ (List.mem_append_left _ (List.mem_append_left _ (List.mem_append_left _ (List.mem_of_getElem? (i := 17) rfl)))))) rfl ydJx4a65c_init_da8c8 ⟨by exact Nat.le_of_ble_eq_true rfl, by exact Nat.le_of_ble_eq_true rfl⟩ ⟨by exact Nat.le_of_ble_eq_true rfl, by exact Nat.le_of_ble_eq_true rfl⟩ rfl (Nat.le_of_ble_eq_true rfl) dX1_init_35 (fun w35 h35 => ?_)
  subst h35
  refine g_weq (ws' := ([(h, .inr (2, [.ref q1, .ref q2, .ref q3, .null, .null, .int 0, .null, .null])), (q1, .inl (cy 0, 16, .inl (fun _ => 0))), (q2, .inl (cy 0, 1024, .inl (fun _ => 0))), (q3, .inl (cy 0, 1024, .inl (fun _ => 0))), (q4, .inr (0, [.int (nI 0), .ref (zs 0), .int (nI 0)]))] : va_W)) rfl ?_
  refine g_putF (ci := 2) (ty := .object "java/util/ArrayList") (v := .ref q4) (ws' := ([(h, .inr (2, [.ref q1, .ref q2, .ref q3, .ref q4, .null, .int 0, .null, .null])), (q1, .inl (cy 0, 16, .inl (fun _ => 0))), (q2, .inl (cy 0, 1024, .inl (fun _ => 0))), (q3, .inl (cy 0, 1024, .inl (fun _ => 0))), (q4, .inr (0, [.int (nI 0), .ref (zs 0), .int (nI 0)]))] : va_W)) C iwX1_init_X1 tyX1 tyX1_ok nmX1 0 rfl rfl 3 (by decide) (C.hw (List.mem_cons_of_mem _ (List.mem_append_left _ (List.mem_append_left _ (List.mem_append_left _ (List.mem_of_getElem? (i := 10) rfl)))))) (fun _ h9 => h9) rfl hnm rfl (by decide +kernel) rfl rfl (Nat.le_of_ble_eq_true rfl) rfl dX1_init_38 ?_
  refine g_aload_n C dX1_init_41 rfl 0 rfl ?_
  refine g_bipush (v := nI 32) C dX1_init_42 (by decide +kernel) ?_
  refine g_newI C 32 (C.hw (List.mem_cons_of_mem _ (List.mem_append_left _ (List.mem_append_left _ (List.mem_append_left _ (List.mem_of_getElem? (i := 3) rfl)))))) (by decide +kernel) (by decide +kernel) (Nat.le_of_ble_eq_true rfl) (Nat.le_of_ble_eq_true rfl) (Nat.le_of_ble_eq_true rfl) dX1_init_44 (fun q5 => ?_)
  refine g_putF (ci := 2) (ty := .array .int) (v := .ref q5) (ws' := ([(h, .inr (2, [.ref q1, .ref q2, .ref q3, .ref q4, .ref q5, .int 0, .null, .null])), (q1, .inl (cy 0, 16, .inl (fun _ => 0))), (q2, .inl (cy 0, 1024, .inl (fun _ => 0))), (q3, .inl (cy 0, 1024, .inl (fun _ => 0))), (q4, .inr (0, [.int (nI 0), .ref (zs 0), .int (nI 0)])), (q5, .inl (cy 0, 32, .inl (fun _ => 0)))] : va_W)) C iwX1_init_X1 tyX1 tyX1_ok nmX1 0 rfl rfl 4 (by decide) (C.hw (List.mem_cons_of_mem _ (List.mem_append_left _ (List.mem_append_left _ (List.mem_append_left _ (List.mem_of_getElem? (i := 11) rfl)))))) (fun _ h9 => h9) rfl hnm rfl (by decide +kernel) rfl rfl (Nat.le_of_ble_eq_true rfl) rfl dX1_init_46 ?_
  refine g_aload_n C dX1_init_49 rfl 0 rfl ?_
  refine g_iconst (v := nI 0) C dX1_init_50 (by decide +kernel) ?_
  refine g_put (ci := 2) (ty := .int) (v := .int (nI 0)) (ws' := ([(h, .inr (2, [.ref q1, .ref q2, .ref q3, .ref q4, .ref q5, .int (nI 0), .null, .null])), (q1, .inl (cy 0, 16, .inl (fun _ => 0))), (q2, .inl (cy 0, 1024, .inl (fun _ => 0))), (q3, .inl (cy 0, 1024, .inl (fun _ => 0))), (q4, .inr (0, [.int (nI 0), .ref (zs 0), .int (nI 0)])), (q5, .inl (cy 0, 32, .inl (fun _ => 0)))] : va_W)) C iwX1_init_X1 tyX1 tyX1_ok nmX1 0 rfl rfl 5 (by decide) (C.hw (List.mem_cons_of_mem _ (List.mem_append_left _ (List.mem_append_left _ (List.mem_append_left _ (List.mem_of_getElem? (i := 12) rfl)))))) (fun _ h9 => h9) rfl (by decide +kernel) rfl rfl (Nat.le_of_ble_eq_true rfl) rfl dX1_init_51 ?_
  refine g_aload_n C dX1_init_54 rfl 0 rfl ?_
  refine g_bipush (v := nI 16) C dX1_init_55 (by decide +kernel) ?_
  refine g_sipush (v := nI 200) C dX1_init_57 (by decide +kernel) ?_
  refine g_mna C (C.hw (List.mem_cons_of_mem _ (List.mem_append_left _ (List.mem_append_left _ (List.mem_append_left _ (List.mem_of_getElem? (i := 13) rfl)))))) (C.hw (List.mem_cons_of_mem _ (List.mem_append_left _ (List.mem_append_left _ (List.mem_append_left _ (List.mem_of_getElem? (i := 3) rfl)))))) 16 200 (by decide) (by decide) (by decide) (by decide) (Nat.le_of_ble_eq_true rfl) (Nat.le_of_ble_eq_true rfl) dX1_init_60 (fun q6 r => ?_)
  refine g_putF (ci := 2) (ty := .array (.array .int)) (v := .ref q6) (ws' := (([(h, .inr (2, [.ref q1, .ref q2, .ref q3, .ref q4, .ref q5, .int (nI 0), .ref q6, .null])), (q1, .inl (cy 0, 16, .inl (fun _ => 0))), (q2, .inl (cy 0, 1024, .inl (fun _ => 0))), (q3, .inl (cy 0, 1024, .inl (fun _ => 0))), (q4, .inr (0, [.int (nI 0), .ref (zs 0), .int (nI 0)])), (q5, .inl (cy 0, 32, .inl (fun _ => 0)))] : va_W) ++ (([(q6, .inl (cy 4, 16, .inr (.inr (.inr (.inr (fun i => if i < 16 then some (r i) else none))))))] : va_W) ++ ((List.range 16).map (fun j => ((r j, .inl (cy 0, 200, .inl (fun _ => 0))) : Nat × va_E)))))) C iwX1_init_X1 tyX1 tyX1_ok nmX1 0 rfl rfl 6 (by decide) (C.hw (List.mem_cons_of_mem _ (List.mem_append_left _ (List.mem_append_left _ (List.mem_append_left _ (List.mem_of_getElem? (i := 14) rfl)))))) (fun _ h9 => h9) rfl hnm rfl (by decide +kernel) rfl rfl (Nat.le_of_ble_eq_true rfl) rfl dX1_init_64 ?_
  refine g_aload_n C dX1_init_67 rfl 0 rfl ?_
  refine g_bipush (v := nI 16) C dX1_init_68 (by decide +kernel) ?_
  refine g_newI C 16 (C.hw (List.mem_cons_of_mem _ (List.mem_append_left _ (List.mem_append_left _ (List.mem_append_left _ (List.mem_of_getElem? (i := 3) rfl)))))) (by decide +kernel) (by decide +kernel) (Nat.le_of_ble_eq_true rfl) (Nat.le_of_ble_eq_true rfl) (Nat.le_of_ble_eq_true rfl) dX1_init_70 (fun q7 => ?_)
  refine g_putF (ci := 2) (ty := .array .int) (v := .ref q7) (ws' := ((([(h, .inr (2, [.ref q1, .ref q2, .ref q3, .ref q4, .ref q5, .int (nI 0), .ref q6, .ref q7])), (q1, .inl (cy 0, 16, .inl (fun _ => 0))), (q2, .inl (cy 0, 1024, .inl (fun _ => 0))), (q3, .inl (cy 0, 1024, .inl (fun _ => 0))), (q4, .inr (0, [.int (nI 0), .ref (zs 0), .int (nI 0)])), (q5, .inl (cy 0, 32, .inl (fun _ => 0)))] : va_W) ++ (([(q6, .inl (cy 4, 16, .inr (.inr (.inr (.inr (fun i => if i < 16 then some (r i) else none))))))] : va_W) ++ ((List.range 16).map (fun j => ((r j, .inl (cy 0, 200, .inl (fun _ => 0))) : Nat × va_E))))) ++ ([(q7, .inl (cy 0, 16, .inl (fun _ => 0)))] : va_W))) C iwX1_init_X1 tyX1 tyX1_ok nmX1 0 rfl rfl 7 (by decide) (C.hw (List.mem_cons_of_mem _ (List.mem_append_left _ (List.mem_append_left _ (List.mem_append_left _ (List.mem_of_getElem? (i := 15) rfl)))))) (fun _ h9 => h9) rfl hnm rfl (by decide +kernel) rfl rfl (Nat.le_of_ble_eq_true rfl) rfl dX1_init_72 ?_
  refine g_aload_n C dX1_init_75 rfl 0 rfl ?_
  refine g_get (ci := 2) (v := .ref q1) C iwX1_init_X1 0 rfl rfl 0 (by decide) (C.hw (List.mem_cons_of_mem _ (List.mem_append_left _ (List.mem_append_left _ (List.mem_append_left _ (List.mem_of_getElem? (i := 4) rfl)))))) (fun _ h9 => h9) rfl dX1_init_76 ?_
  refine g_iconst (v := (-1)) C dX1_init_79 (by decide +kernel) ?_
  refine g_Sv (st := []) C (k_J7_fill_53178 l D cy zs ((([(h, .inr (2, [.ref q1, .ref q2, .ref q3, .ref q4, .ref q5, .int (nI 0), .ref q6, .ref q7])), (q1, .inl (cy 0, 16, .inl (fun _ => 0))), (q2, .inl (cy 0, 1024, .inl (fun _ => 0))), (q3, .inl (cy 0, 1024, .inl (fun _ => 0))), (q4, .inr (0, [.int (nI 0), .ref (zs 0), .int (nI 0)])), (q5, .inl (cy 0, 32, .inl (fun _ => 0)))] : va_W) ++ (([(q6, .inl (cy 4, 16, .inr (.inr (.inr (.inr (fun i => if i < 16 then some (r i) else none))))))] : va_W) ++ ((List.range 16).map (fun j => ((r j, .inl (cy 0, 200, .inl (fun _ => 0))) : Nat × va_E))))) ++ ([(q7, .inl (cy 0, 16, .inl (fun _ => 0)))] : va_W)) (-1) (show ((([(h, .inr (2, [.ref q1, .ref q2, .ref q3, .ref q4, .ref q5, .int (nI 0), .ref q6, .ref q7])), (q1, .inl (cy 0, 16, .inl (fun _ => 0))), (q2, .inl (cy 0, 1024, .inl (fun _ => 0))), (q3, .inl (cy 0, 1024, .inl (fun _ => 0))), (q4, .inr (0, [.int (nI 0), .ref (zs 0), .int (nI 0)])), (q5, .inl (cy 0, 32, .inl (fun _ => 0)))] : va_W) ++ (([(q6, .inl (cy 4, 16, .inr (.inr (.inr (.inr (fun i => if i < 16 then some (r i) else none))))))] : va_W) ++ ((List.range 16).map (fun j => ((r j, .inl (cy 0, 200, .inl (fun _ => 0))) : Nat × va_E))))) ++ ([(q7, .inl (cy 0, 16, .inl (fun _ => 0)))] : va_W))[1]? = some (q1, .inl (cy 0, 16, .inl (fun _ => 0))) from rfl) (by omega)) gX1_init_J7_fill_53178 rfl ydJ7_fill_53178 ⟨Nat.le_of_ble_eq_true rfl, Nat.le_of_ble_eq_true rfl⟩ ⟨Nat.le_of_ble_eq_true rfl, Nat.le_of_ble_eq_true rfl⟩ rfl (Nat.le_of_ble_eq_true rfl) dX1_init_80 (fun w80 h80 => ?_)
  subst h80
  refine g_weq (ws' := ((([(h, .inr (2, [.ref q1, .ref q2, .ref q3, .ref q4, .ref q5, .int (nI 0), .ref q6, .ref q7])), (q1, .inl (cy 0, 16, .inl (fillF (fun _ => 0) (-1) 16))), (q2, .inl (cy 0, 1024, .inl (fun _ => 0))), (q3, .inl (cy 0, 1024, .inl (fun _ => 0))), (q4, .inr (0, [.int (nI 0), .ref (zs 0), .int (nI 0)])), (q5, .inl (cy 0, 32, .inl (fun _ => 0)))] : va_W) ++ (([(q6, .inl (cy 4, 16, .inr (.inr (.inr (.inr (fun i => if i < 16 then some (r i) else none))))))] : va_W) ++ ((List.range 16).map (fun j => ((r j, .inl (cy 0, 200, .inl (fun _ => 0))) : Nat × va_E))))) ++ ([(q7, .inl (cy 0, 16, .inl (fun _ => 0)))] : va_W))) rfl ?_
  refine g_aload_n C dX1_init_83 rfl 0 rfl ?_
  refine g_get (ci := 2) (v := .ref q2) C iwX1_init_X1 0 rfl rfl 1 (by decide) (C.hw (List.mem_cons_of_mem _ (List.mem_append_left _ (List.mem_append_left _ (List.mem_append_left _ (List.mem_of_getElem? (i := 5) rfl)))))) (fun _ h9 => h9) rfl dX1_init_84 ?_
  refine g_bipush (v := nI 40) C dX1_init_87 (by decide +kernel) ?_
  refine g_Sv (st := []) C (k_J7_fill_53178 l D cy zs ((([(h, .inr (2, [.ref q1, .ref q2, .ref q3, .ref q4, .ref q5, .int (nI 0), .ref q6, .ref q7])), (q1, .inl (cy 0, 16, .inl (fillF (fun _ => 0) (-1) 16))), (q2, .inl (cy 0, 1024, .inl (fun _ => 0))), (q3, .inl (cy 0, 1024, .inl (fun _ => 0))), (q4, .inr (0, [.int (nI 0), .ref (zs 0), .int (nI 0)])), (q5, .inl (cy 0, 32, .inl (fun _ => 0)))] : va_W) ++ (([(q6, .inl (cy 4, 16, .inr (.inr (.inr (.inr (fun i => if i < 16 then some (r i) else none))))))] : va_W) ++ ((List.range 16).map (fun j => ((r j, .inl (cy 0, 200, .inl (fun _ => 0))) : Nat × va_E))))) ++ ([(q7, .inl (cy 0, 16, .inl (fun _ => 0)))] : va_W)) (nI 40) (show ((([(h, .inr (2, [.ref q1, .ref q2, .ref q3, .ref q4, .ref q5, .int (nI 0), .ref q6, .ref q7])), (q1, .inl (cy 0, 16, .inl (fillF (fun _ => 0) (-1) 16))), (q2, .inl (cy 0, 1024, .inl (fun _ => 0))), (q3, .inl (cy 0, 1024, .inl (fun _ => 0))), (q4, .inr (0, [.int (nI 0), .ref (zs 0), .int (nI 0)])), (q5, .inl (cy 0, 32, .inl (fun _ => 0)))] : va_W) ++ (([(q6, .inl (cy 4, 16, .inr (.inr (.inr (.inr (fun i => if i < 16 then some (r i) else none))))))] : va_W) ++ ((List.range 16).map (fun j => ((r j, .inl (cy 0, 200, .inl (fun _ => 0))) : Nat × va_E))))) ++ ([(q7, .inl (cy 0, 16, .inl (fun _ => 0)))] : va_W))[2]? = some (q2, .inl (cy 0, 1024, .inl (fun _ => 0))) from rfl) (by omega)) gX1_init_J7_fill_53178 rfl ydJ7_fill_53178 ⟨Nat.le_of_ble_eq_true rfl, Nat.le_of_ble_eq_true rfl⟩ ⟨Nat.le_of_ble_eq_true rfl, Nat.le_of_ble_eq_true rfl⟩ rfl (Nat.le_of_ble_eq_true rfl) dX1_init_89 (fun w89 h89 => ?_)
  subst h89
  refine g_weq (ws' := ((([(h, .inr (2, [.ref q1, .ref q2, .ref q3, .ref q4, .ref q5, .int (nI 0), .ref q6, .ref q7])), (q1, .inl (cy 0, 16, .inl (fillF (fun _ => 0) (-1) 16))), (q2, .inl (cy 0, 1024, .inl (fillF (fun _ => 0) (nI 40) 1024))), (q3, .inl (cy 0, 1024, .inl (fun _ => 0))), (q4, .inr (0, [.int (nI 0), .ref (zs 0), .int (nI 0)])), (q5, .inl (cy 0, 32, .inl (fun _ => 0)))] : va_W) ++ (([(q6, .inl (cy 4, 16, .inr (.inr (.inr (.inr (fun i => if i < 16 then some (r i) else none))))))] : va_W) ++ ((List.range 16).map (fun j => ((r j, .inl (cy 0, 200, .inl (fun _ => 0))) : Nat × va_E))))) ++ ([(q7, .inl (cy 0, 16, .inl (fun _ => 0)))] : va_W))) rfl ?_
  refine g_perm (ws' := wC cy (aC h q1 q2 q3 q4 q5 q6 q7 r) (zs 0) (fun i => if i < 16 then none else some 0) (fun i => if i < 1024 then 40 else 0) (fun _ => 0) (nI 0) none (fun _ => 0) 0 (fun _ _ => 0) (fun _ => 0) []) (X := []) (by rw [fill_lab, fill_quo]; unfold wC; rw [fx_new]; exact perm_n (A := [_, _, _, _, _, _])) ?_
  have haa : (aC h q1 q2 q3 q4 q5 q6 q7 r) 0 = h := rfl
  exact g_vret C rfl (⟨_, haa, rfl⟩) (Nat.le_of_ble_eq_true rfl) (Nat.le_of_ble_eq_true rfl) dX1_init_92
