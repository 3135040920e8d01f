section LAW1
theorem va_fr {D : va_G} {A : Nat → Prop} {ws0 X ws1 : va_W} {H H1 : Heap} (hP : va_P D vwCl (ws0 ++ X) H) (hD : va_D A (ws0 ++ X)) (hk : ∀ q : Nat, q < H.size → ¬ va_A ws0 H.size q → H1[q]? = H[q]?) (hP1 : va_P D vwCl ws1 H1) (hD1 : va_D (va_A ws0 H.size) ws1) (hF : ∀ q, va_A ws0 H.size q → A q) : va_P D vwCl (ws1 ++ X) H1 ∧ va_D A (ws1 ++ X) := by
  have hX : ∀ (j : Nat) (q : Nat × va_E), X[j]? = some q → (ws0 ++ X)[ws0.length + j]? = some q := fun j q h => by
    rw [List.getElem?_append_right (by omega), Nat.add_sub_cancel_left]
    exact h
  have hn : ∀ (j : Nat) (q : Nat × va_E), X[j]? = some q → q.1 < H.size ∧ ¬ va_A ws0 H.size q.1 := fun j q h => by
    have hlt := (hP _ q (hX j q h)).lt
    refine ⟨hlt, fun ha => ?_⟩
    rcases ha with ⟨k, e, h9⟩ | h9
    · have h8 : (ws0 ++ X)[k]? = some (q.1, e) := app_at h9
      have h7 := hD.1 k (ws0.length + j) _ _ h8 (hX j q h) rfl
      have h6 := (List.getElem?_eq_some_iff.mp h9).1
      omega
    · omega
  have hPX : va_P D vwCl X H := fun j q h => hP _ q (hX j q h)
  have hPX1 : va_P D vwCl X H1 := hPX.kept (fun j q h => hk q.1 (hn j q h).1 (hn j q h).2)
  refine ⟨fun k q hq => ?_, ?_⟩
  · by_cases e : k < ws1.length
    · rw [List.getElem?_append_left e] at hq
      exact hP1 k q hq
    · rw [List.getElem?_append_right (by omega)] at hq
      exact hPX1 _ q hq
  · rw [va_D_iff] at hD hD1 ⊢
    rw [List.map_append] at hD ⊢
    obtain ⟨h1, h2, h3⟩ := List.nodup_append.mp hD.1
    refine ⟨List.nodup_append.mpr ⟨hD1.1, h2, fun x hx y hy exy => ?_⟩, fun q hq => ?_⟩
    · obtain ⟨q, hq, rfl⟩ := List.mem_map.mp hx
      obtain ⟨r, hr, rfl⟩ := List.mem_map.mp hy
      obtain ⟨j, hj⟩ := List.mem_iff_getElem?.mp hr
      exact (hn j r hj).2 (exy ▸ hD1.2 q hq)
    · rcases List.mem_append.mp hq with h9 | h9
      · exact hF _ (hD1.2 q h9)
      · exact hD.2 q (List.mem_append_right _ h9)
theorem va_P_l {D : va_G} {ws X : va_W} {H : Heap} (h : va_P D vwCl (ws ++ X) H) : va_P D vwCl ws H := fun k q hq => h k q (app_at hq)
theorem va_D_l {A : Nat → Prop} {ws X : va_W} (h : va_D A (ws ++ X)) : va_D A ws := ⟨fun i j p q hp hq e => h.1 i j p q (app_at hp) (app_at hq) e, fun k q hq => h.2 k q (app_at hq)⟩
variable {p : Program} {l : Launch} {e : Env} {R : Room} {s : State} {m : MethodId} {args : Array Value} {below : List Frame} {meth : Method} {c : Code} {cc : ByteArray} {nL : Nat} {own : String} {Ts : List Cond} {D : va_G} {cy : Nat → ClassId} {zs : Nat → Nat} {A : Nat → Prop} {ret : Option FieldType} {Q : State → Prop} {ws X : va_W} {k n : Nat} {lv : List (Nat × Value)} {pc : Nat} {st : List Value}
theorem g_FVi (C : Cx p s m args meth c cc nL own Ts D cy zs A ret) {y : MethodName} {wy wy' : List Cond} {rm : Room} {bytes : ByteArray} {maxL i : Nat} {rt : Option FieldType} {Cn : String} {T : u_T} {N ci b : Nat} {fs As : List Value} {post : Int32 → va_W → Prop} (hM : Mi l D cy zs y wy rm (.ref b :: As) ws post) (hT : GoodIn Ts (wsV own i Cn y wy)) (hw : wy = Cond.code y bytes maxL rt :: wy') (hd : y.cls = Cn ∧ y.cls ≠ "java/lang/invoke/MethodHandle" ∧ y.cls ≠ "java/lang/invoke/VarHandle" ∧ (parseMethodDescriptor y.desc).map (fun d => d.parameters.length) = some As.length) (q0 : Nat) (he : ws[q0]? = some (b, .inr (ci, fs))) (hc : vwCl[ci]? = some (Cn, T, N)) (hR : rm.frames + 1 ≤ R.frames ∧ 8 + (maxL + 11) + rm.locals ≤ R.locals) (hf : k + rm.cells ≤ R.cells ∧ n + rm.slots ≤ R.slots) {st0 : List Value} (hst : st0 = As.reverse ++ .ref b :: st) (hW : (st.map fun v => v.category).sum ≤ 8) (hdg : decode cc pc = .ok (.invokevirtual i, 3)) (K : ∀ (r : Int32) (ws1 : va_W), post r ws1 → GG p l e R s m args below meth c D A nL Q (ws1 ++ X) (k + rm.cells) (n + rm.slots) lv (pc + 3) (.int r :: st)) : GG p l e R s m args below meth c D A nL Q (ws ++ X) k n lv (pc) (st0) := by
  intro H locs ls hP hD hS hl
  subst hst
  have hP0 := va_P_l hP
  have hD0 := va_D_l hD
  have hF : ∀ q, va_A ws H.size q → A q := fun q h => by
    rcases h with ⟨k9, e9, h9⟩ | h9
    · exact hD0.2 k9 _ h9
    · exact C.2.2.1 q (Nat.le_trans hS.1 h9)
  exact va_calli (va_runV (As := As) (rest := st) C.1 (hM H.size) (cwV As.length C.1.2.2.2.2 hT hw rfl rfl hd hR) ⟨PR.blind, va_recv C.2.1 hP0 hc he, fun U hU hW => ⟨rfl, by rw [hU], by rw [hU]; exact hP0, va_K.moved hW.alike C.2.1, hD0.weaken (fun _ _ _ _ => trivial), C.2.2.2.2.2.next hS hU hW hF⟩⟩ rfl rfl hl.1 rfl (lv_room hW) hdg hf) hS (fun q _ h => hF q h) hF (fun r ws1 t H1 locs1 ht hvm hw hB hz1 hk1 hS1 => by
    obtain ⟨hP9, hD9⟩ := va_fr hP hD hk1 (ht ▸ hB.1) hB.2.2 hF
    exact K r ws1 hw H1 locs1 ls hP9 hD9 hS1 hl)
theorem g_FSi (C : Cx p s m args meth c cc nL own Ts D cy zs A ret) {y : MethodName} {wy wy' : List Cond} {rm : Room} {bytes : ByteArray} {maxL i : Nat} {rt : Option FieldType} {hh : List (Nat × Nat × Nat × Nat)} {As : List Value} {post : Int32 → va_W → Prop} (hM : Mi l D cy zs y wy rm As ws post) (hT : GoodIn Ts (va_wsS own i y wy)) (hw : wy = Cond.codeWith y bytes maxL rt hh :: wy') (hd : y.cls ≠ "java/lang/invoke/MethodHandle" ∧ y.cls ≠ "java/lang/invoke/VarHandle" ∧ (parseMethodDescriptor y.desc).map (fun d => d.parameters.length) = some As.length) (hR : rm.frames + 1 ≤ R.frames ∧ 8 + (maxL + 11) + rm.locals ≤ R.locals) (hf : k + rm.cells ≤ R.cells ∧ n + rm.slots ≤ R.slots) {st0 : List Value} (hst : st0 = As.reverse ++ st) (hW : (st.map fun v => v.category).sum ≤ 8) (hdg : decode cc pc = .ok (.invokestatic i, 3)) (K : ∀ (r : Int32) (ws1 : va_W), post r ws1 → GG p l e R s m args below meth c D A nL Q (ws1 ++ X) (k + rm.cells) (n + rm.slots) lv (pc + 3) (.int r :: st)) : GG p l e R s m args below meth c D A nL Q (ws ++ X) k n lv (pc) (st0) := by
  intro H locs ls hP hD hS hl
  subst hst
  have hP0 := va_P_l hP
  have hD0 := va_D_l hD
  have hF : ∀ q, va_A ws H.size q → A q := fun q h => by
    rcases h with ⟨k9, e9, h9⟩ | h9
    · exact hD0.2 k9 _ h9
    · exact C.2.2.1 q (Nat.le_trans hS.1 h9)
  exact va_calli (vx_runSW (As := As) (rest := st) C.1 (hM H.size) (vx_cwSW As.length C.1.2.2.2.2 hT hw rfl rfl hd hR) ⟨PR.blind, fun U hU hW => ⟨rfl, by rw [hU], by rw [hU]; exact hP0, va_K.moved hW.alike C.2.1, hD0.weaken (fun _ _ _ _ => trivial), C.2.2.2.2.2.next hS hU hW hF⟩⟩ rfl rfl hl.1 rfl (lv_room hW) hdg hf) hS (fun q _ h => hF q h) hF (fun r ws1 t H1 locs1 ht hvm hw hB hz1 hk1 hS1 => by
    obtain ⟨hP9, hD9⟩ := va_fr hP hD hk1 (ht ▸ hB.1) hB.2.2 hF
    exact K r ws1 hw H1 locs1 ls hP9 hD9 hS1 hl)
theorem g_FIv (C : Cx p s m args meth c cc nL own Ts D cy zs A ret) {y : MethodName} {wy wy' : List Cond} {rm : Room} {bytes : ByteArray} {maxL i : Nat} {As : List Value} {b : Nat} {post : va_W → Prop} (hM : Mv l D cy zs y wy rm (.ref b :: As) ws post) (hG : GoodIn Ts wy) (hw : wy = Cond.code y bytes maxL none :: wy') (hini : (Cond.initialized y.cls).before args s = true) (hlk : (Cond.methodLink own i y).before args s = true) (hinm : (Cond.instanceMethod y).before args s = true) (hy1 : y.name = "<init>") (hd : y.cls ≠ "java/lang/invoke/MethodHandle" ∧ y.cls ≠ "java/lang/invoke/VarHandle" ∧ (parseMethodDescriptor y.desc).map (fun d => d.parameters.length) = some As.length) (hR : rm.frames + 1 ≤ R.frames ∧ 8 + (maxL + 11) + rm.locals ≤ R.locals) (hf : k + rm.cells ≤ R.cells ∧ n + rm.slots ≤ R.slots) {st0 : List Value} (hst : st0 = As.reverse ++ .ref b :: st) (hW : (st.map fun v => v.category).sum ≤ 8) (hdg : decode cc pc = .ok (.invokespecial i, 3)) (K : ∀ ws1 : va_W, post ws1 → GG p l e R s m args below meth c D A nL Q (ws1 ++ X) (k + rm.cells) (n + rm.slots) lv (pc + 3) (st)) : GG p l e R s m args below meth c D A nL Q (ws ++ X) k n lv (pc) (st0) := by
  intro H locs ls hP hD hS hl
  subst hst
  have hP0 := va_P_l hP
  have hD0 := va_D_l hD
  have hF : ∀ q, va_A ws H.size q → A q := fun q h => by
    rcases h with ⟨k9, e9, h9⟩ | h9
    · exact hD0.2 k9 _ h9
    · exact C.2.2.1 q (Nat.le_trans hS.1 h9)
  exact va_callv (va_runI (As := As) (rest := st) C.1 (hM H.size) (cwI As.length C.1.2.2.2.2 hG hw rfl rfl hini hlk hinm hy1 hd hR) ⟨PR.blind, fun U hU hW => ⟨rfl, by rw [hU], by rw [hU]; exact hP0, va_K.moved hW.alike C.2.1, hD0.weaken (fun _ _ _ _ => trivial), C.2.2.2.2.2.next hS hU hW hF⟩⟩ rfl rfl hl.1 rfl (lv_room hW) hdg hf) hS (fun q _ h => hF q h) hF (fun ws1 t H1 locs1 ht hvm hw hB hz1 hk1 hS1 => by
    obtain ⟨hP9, hD9⟩ := va_fr hP hD hk1 (ht ▸ hB.1) hB.2.2 hF
    exact K ws1 hw H1 locs1 ls hP9 hD9 hS1 hl)
theorem g_FXVi (C : Cx p s m args meth c cc nL own Ts D cy zs A ret) {y : MethodName} {wy wy' : List Cond} {rm : Room} {bytes : ByteArray} {maxL i : Nat} {rt : Option FieldType} {Cn : String} {T : u_T} {N ci b : Nat} {fs As : List Value} {post : Int32 → va_W → Prop} {xp : String → va_W → Prop} (hM : Xi l D cy zs y wy rm (.ref b :: As) ws post xp) (hT : GoodIn Ts (wsV own i Cn y wy)) (hw : wy = Cond.code y bytes maxL rt :: wy') (hd : y.cls = Cn ∧ y.cls ≠ "java/lang/invoke/MethodHandle" ∧ y.cls ≠ "java/lang/invoke/VarHandle" ∧ (parseMethodDescriptor y.desc).map (fun d => d.parameters.length) = some As.length) (q0 : Nat) (he : ws[q0]? = some (b, .inr (ci, fs))) (hc : vwCl[ci]? = some (Cn, T, N)) (hR : rm.frames + 1 ≤ R.frames ∧ 8 + (maxL + 11) + rm.locals ≤ R.locals) (hf : k + rm.cells ≤ R.cells ∧ n + rm.slots ≤ R.slots) {st0 : List Value} (hst : st0 = As.reverse ++ .ref b :: st) (hW : (st.map fun v => v.category).sum ≤ 8) (hdg : decode cc pc = .ok (.invokevirtual i, 3)) (KX : ∀ (E : String) (ws1 : va_W), xp E ws1 → GX p l e R s m args below meth c D A nL Q (ws1 ++ X) (k + rm.cells) (n + rm.slots) lv pc st E) (K : ∀ (r : Int32) (ws1 : va_W), post r ws1 → GG p l e R s m args below meth c D A nL Q (ws1 ++ X) (k + rm.cells) (n + rm.slots) lv (pc + 3) (.int r :: st)) : GG p l e R s m args below meth c D A nL Q (ws ++ X) k n lv (pc) (st0) := by
  intro H locs ls hP hD hS hl
  subst hst
  have hP0 := va_P_l hP
  have hD0 := va_D_l hD
  have hF : ∀ q, va_A ws H.size q → A q := fun q h => by
    rcases h with ⟨k9, e9, h9⟩ | h9
    · exact hD0.2 k9 _ h9
    · exact C.2.2.1 q (Nat.le_trans hS.1 h9)
  exact vx_calli (vx_runV (As := As) (rest := st) C.1 (hM H.size) (cwV As.length C.1.2.2.2.2 hT hw rfl rfl hd hR) ⟨PR.blind, va_recv C.2.1 hP0 hc he, fun U hU hW => ⟨rfl, by rw [hU], by rw [hU]; exact hP0, va_K.moved hW.alike C.2.1, hD0.weaken (fun _ _ _ _ => trivial), C.2.2.2.2.2.next hS hU hW hF⟩⟩ rfl rfl hl.1 rfl (lv_room hW) hdg hf) hS (fun q _ h => hF q h) hF (fun q _ h => hF q h) (fun E ce q9 u t H1 locs1 ht hvm hw hB hz1 hk1 hS1 hce hcv hcl => by
    obtain ⟨he9, hB⟩ := hB
    subst he9
    obtain ⟨hP9, hD9⟩ := va_fr hP hD hk1 (ht ▸ hB.1) hB.2.2 hF
    exact KX u.1 u.2 hw H1 locs1 ls ce q9 hP9 hD9 hS1 hl hce hcv hcl) (fun r ws1 t H1 locs1 ht hvm hw hB hz1 hk1 hS1 => by
    obtain ⟨hP9, hD9⟩ := va_fr hP hD hk1 (ht ▸ hB.1) hB.2.2 hF
    exact K r ws1 hw H1 locs1 ls hP9 hD9 hS1 hl)
theorem g_catch (C : Cx p s m args meth c cc nL own Ts D cy zs A ret) {name : String} {E : String} (pre : List ExceptionTableEntry) (x : ExceptionTableEntry) (suf : List ExceptionTableEntry) (hsplit : c.exceptionTable.toList = pre ++ x :: suf) (hpass : ∀ z ∈ pre, covers z pc = false ∨ (z.catchType ≠ 0 ∧ ∃ nm : String, (Cond.classLink own z.catchType nm).before args s = true ∧ va_Nc E nm s)) (hx : covers x pc = true) (h0 : x.catchType ≠ 0) (hlink : (Cond.classLink own x.catchType name).before args s = true) (hcast : (Cond.castable E name).before args s = true) (K : ∀ q : Nat, GG p l e R s m args below meth c D A nL Q ws k n lv (x.handlerPc) ([.ref q])) : GX p l e R s m args below meth c D A nL Q ws k n lv pc st E := fun H locs ls ce q hP hD hS hl hce hcv hcl => vx_catch C.1.2.2.2.1 pre x suf hsplit hpass hx h0 hlink hcast hce hcv hcl (K q H locs ls hP hD hS hl)
theorem MiW.of {y : MethodName} {wy wy' : List Cond} {rm : Room} {av : List Value} {ws : va_W} {post : Int32 → va_W → Prop} {cc : ByteArray} {maxL : Nat} {ret : Option FieldType} {hh : List (Nat × Nat × Nat × Nat)} {lv : List (Nat × Value)} (own : String) (hy : plainName y.cls = true ∧ y.cls = own) (hw : wy = Cond.codeWith y cc maxL ret hh :: wy') (hlen : (lg_sl av).length ≤ maxL) (hlv : lv_args 0 av = lv)
    (body : ∀ (p : Program) (e : Env) (s : State) (m : MethodId) (args : Array Value) (below : List Frame) (meth : Method) (c : Code) (A : Nat → Prop), Cx p s m args meth c cc maxL own wy D cy zs A ret → c.exceptionTable.toList = tableOf hh → GG p l e rm s m args below meth c D A maxL (MQ below (va_Qi post (PO D cy A) A) args s rm.cells rm.slots A) ws 0 0 lv 0 []) : Mi l D cy zs y wy rm av ws post := by
  intro sz
  refine va_MetW (cc := cc) (maxL := maxL) (ret := ret) hy.1 hw ?_
  intro p e s m args below meth c s₁ B hml hv
  obtain ⟨rfl, hsz, hP, hK, hD0, hZ⟩ := hv
  subst hsz
  have hD := hD0.self (sz := s.heap.size)
  have hts := atoms_spec (ws := wy) B.pre
  have htab := vx_table (x := y) B (hts (Cond.codeWith y cc maxL ret hh) (by rw [hw]; exact List.mem_cons_self))
  have hown : s.vm.findClass own = some m.cls := hy.2 ▸ findClass_of_methodNamed B.named
  have hA : ∀ q : Nat, s.heap.size ≤ q → va_A ws s.heap.size q := fun q h => Or.inr h
  have hl := lv_entry av (n := maxL) hlen
  rw [lg_entry_eq]
  exact body p e s m av.toArray below meth c _ ⟨⟨B.exec, B.bytes, hml, hown, hts⟩, hK, hA, B.returns, B.notSynchronized, hZ⟩ htab s.heap [] _ hP hD va_S.rf (hlv ▸ hl)
end LAW1
def outB (r : Int32) : Int64 := if r = 0 then 0 else 1
abbrev rmL_subject : Room := { frames := 8, cells := 12, slots := 500, locals := 142 }
theorem ydL_subject : yL_subject.cls ≠ "java/lang/invoke/MethodHandle" ∧ yL_subject.cls ≠ "java/lang/invoke/VarHandle" ∧ (parseMethodDescriptor yL_subject.desc).map (fun d => d.parameters.length) = some 4 := by decide +kernel
set_option maxRecDepth 100000 in
set_option maxHeartbeats 4000000 in
theorem k_L_subject (l : Launch) (D : va_G) (cy : Nat → ClassId) (zs : Nat → Nat) (hst : l.stackTraces = false) (a : Nat → Nat) (lab : Nat → Option Nat) (quo : Nat → Nat) (spe : Nat → Nat) (md : Int32) (ed : Option (Nat × Nat)) (lis : Nat → Nat) (lc : Nat) (see : Nat → Nat → Int32) (cnt : Nat → Nat) (Fs : List FT) (hI : CI lab quo spe ed lis lc cnt Fs) (o : Nat) (g : Nat → Int64) (p0 : Int32) (p1 : Int32) : Mi l D cy zs yL_subject wsL_subject rmL_subject [.ref (a 0), .int p0, .int p1, .ref o] ((wC cy a (zs 0) lab quo spe md ed lis lc see cnt Fs) ++ [((o, .inl (cy 2, 1, .inr (.inl g))) : Nat × va_E)]) (fun r w => (∃ r1 w1, PC_subject cy zs a lab quo spe md ed lis lc see cnt Fs p0 p1 r1 w1 ∧ r = nI 0 ∧ w = w1 ++ [((o, .inl (cy 2, 1, .inr (.inl (vp_updL g 0 (outB r1))))) : Nat × va_E)]) ∨ (∃ w1, XC_subject cy zs a lab quo spe md ed lis lc see cnt Fs p0 p1 "java/lang/IllegalArgumentException" w1 ∧ r = nI 1 ∧ w = w1 ++ [((o, .inl (cy 2, 1, .inr (.inl g))) : Nat × va_E)])) := by
  refine MiW.of (lv := [(0, .ref (a 0)), (1, .int p0), (2, .int p1), (3, .ref o)]) RL ⟨by decide, rfl⟩ rfl (Nat.le_of_ble_eq_true rfl) rfl ?_
  intro p e s m args below meth c A C htab
  refine g_aload_n C dL_subject_0 rfl 3 rfl ?_
  refine g_iconst (v := nI 0) C dL_subject_1 (by decide +kernel) ?_
  refine g_aload_n C dL_subject_2 rfl 0 rfl ?_
  refine g_iload_n C dL_subject_3 rfl 1 rfl ?_
  refine g_iload_n C dL_subject_4 rfl 2 rfl ?_
  refine g_FXVi (ci := 2) (st := [.int (nI 0), .ref o]) C (k_X1_subject l D cy zs hst a lab quo spe md ed lis lc see cnt Fs hI p0 p1) gL_subject_X1_subject rfl ⟨rfl, ydX1_subject⟩ 0 rfl rfl ⟨Nat.le_of_ble_eq_true rfl, Nat.le_of_ble_eq_true rfl⟩ ⟨Nat.le_of_ble_eq_true rfl, Nat.le_of_ble_eq_true rfl⟩ rfl (Nat.le_of_ble_eq_true rfl) dL_subject_5 (fun E5 w5 h5 => ?_) (fun r5 w5 h5 => ?_)
  · skip
    have hE : E5 = "java/lang/IllegalArgumentException" := h5.2.1
    subst hE
    refine g_catch C [] ⟨0, 17, 20, 13⟩ [] htab (fun z9 h9 => by cases h9) rfl (by decide) (C.hw (List.mem_cons_of_mem _ (List.mem_append_left _ (List.mem_append_left _ (List.mem_of_getElem? (i := 0) rfl))))) (va_Nw.use rfl C.2.2.2.2.2.1.2.2.2.2.2.2.1) (fun q9 => ?_)
    refine g_astore (lv' := [(4, .ref q9), (0, .ref (a 0)), (1, .int p0), (2, .int p1), (3, .ref o)]) C dL_subject_20 (by decide) rfl ?_
    refine g_iconst (v := nI 1) C dL_subject_22 (by decide +kernel) ?_
    exact g_iret C rfl (Or.inr (⟨w5, h5, rfl, rfl⟩)) (Nat.le_of_ble_eq_true rfl) (Nat.le_of_ble_eq_true rfl) dL_subject_23
  · skip
    refine g_if_eq (tgt := 15) C dL_subject_8 (by decide) (fun c8 => ?_) (fun c8 => ?_)
    · skip
      refine g_lconst (v := 0) C dL_subject_15 (by decide +kernel) ?_
      refine g_last (nn := 1) (f := g) (i := nI 0) (ws' := (w5 ++ [((o, .inl (cy 2, 1, .inr (.inl (vp_updL g 0 (0 : Int64))))) : Nat × va_E)])) C (w5).length (tl_at rfl) (vp_in_nI (by omega) (by omega)) (by rw [nI_clamp (by omega)]; exact tl_set rfl) dL_subject_16 ?_
      refine g_goto (tgt := 24) C dL_subject_17 (by decide) ?_
      refine g_iconst (v := nI 0) C dL_subject_24 (by decide +kernel) ?_
      exact g_iret C rfl (Or.inl (⟨r5, w5, h5, rfl, (by unfold outB; rw [if_pos c8])⟩)) (Nat.le_of_ble_eq_true rfl) (Nat.le_of_ble_eq_true rfl) dL_subject_25
    · skip
      refine g_lconst (v := 1) C dL_subject_11 (by decide +kernel) ?_
      refine g_goto (tgt := 16) C dL_subject_12 (by decide) ?_
      refine g_last (nn := 1) (f := g) (i := nI 0) (ws' := (w5 ++ [((o, .inl (cy 2, 1, .inr (.inl (vp_updL g 0 (1 : Int64))))) : Nat × va_E)])) C (w5).length (tl_at rfl) (vp_in_nI (by omega) (by omega)) (by rw [nI_clamp (by omega)]; exact tl_set rfl) dL_subject_16 ?_
      refine g_goto (tgt := 24) C dL_subject_17 (by decide) ?_
      refine g_iconst (v := nI 0) C dL_subject_24 (by decide +kernel) ?_
      exact g_iret C rfl (Or.inl (⟨r5, w5, h5, rfl, (by unfold outB; rw [if_neg c8])⟩)) (Nat.le_of_ble_eq_true rfl) (Nat.le_of_ble_eq_true rfl) dL_subject_25
abbrev rmL_quota : Room := { frames := 8, cells := 12, slots := 500, locals := 144 }
theorem ydL_quota : yL_quota.cls ≠ "java/lang/invoke/MethodHandle" ∧ yL_quota.cls ≠ "java/lang/invoke/VarHandle" ∧ (parseMethodDescriptor yL_quota.desc).map (fun d => d.parameters.length) = some 4 := by decide +kernel
set_option maxRecDepth 100000 in
set_option maxHeartbeats 4000000 in
theorem k_L_quota (l : Launch) (D : va_G) (cy : Nat → ClassId) (zs : Nat → Nat) (hst : l.stackTraces = false) (a : Nat → Nat) (lab : Nat → Option Nat) (quo : Nat → Nat) (spe : Nat → Nat) (md : Int32) (ed : Option (Nat × Nat)) (lis : Nat → Nat) (lc : Nat) (see : Nat → Nat → Int32) (cnt : Nat → Nat) (Fs : List FT) (hI : CI lab quo spe ed lis lc cnt Fs) (o : Nat) (g : Nat → Int64) (p0 : Int32) (p1 : Int32) : Mi l D cy zs yL_quota wsL_quota rmL_quota [.ref (a 0), .int p0, .int p1, .ref o] ((wC cy a (zs 0) lab quo spe md ed lis lc see cnt Fs) ++ [((o, .inl (cy 2, 1, .inr (.inl g))) : Nat × va_E)]) (fun r w => (∃ r1 w1, PC_quota cy zs a lab quo spe md ed lis lc see cnt Fs p0 p1 r1 w1 ∧ r = nI 0 ∧ w = w1 ++ [((o, .inl (cy 2, 1, .inr (.inl (vp_updL g 0 (r1).toInt64)))) : Nat × va_E)]) ∨ (∃ w1, XC_quota cy zs a lab quo spe md ed lis lc see cnt Fs p0 p1 "java/lang/IllegalArgumentException" w1 ∧ r = nI 1 ∧ w = w1 ++ [((o, .inl (cy 2, 1, .inr (.inl g))) : Nat × va_E)])) := by
  refine MiW.of (lv := [(0, .ref (a 0)), (1, .int p0), (2, .int p1), (3, .ref o)]) RL ⟨by decide, rfl⟩ rfl (Nat.le_of_ble_eq_true rfl) rfl ?_
  intro p e s m args below meth c A C htab
  refine g_aload_n C dL_quota_0 rfl 3 rfl ?_
  refine g_iconst (v := nI 0) C dL_quota_1 (by decide +kernel) ?_
  refine g_aload_n C dL_quota_2 rfl 0 rfl ?_
  refine g_iload_n C dL_quota_3 rfl 1 rfl ?_
  refine g_iload_n C dL_quota_4 rfl 2 rfl ?_
  refine g_FXVi (ci := 2) (st := [.int (nI 0), .ref o]) C (k_X1_quota l D cy zs hst a lab quo spe md ed lis lc see cnt Fs hI p0 p1) gL_quota_X1_quota rfl ⟨rfl, ydX1_quota⟩ 0 rfl rfl ⟨Nat.le_of_ble_eq_true rfl, Nat.le_of_ble_eq_true rfl⟩ ⟨Nat.le_of_ble_eq_true rfl, Nat.le_of_ble_eq_true rfl⟩ rfl (Nat.le_of_ble_eq_true rfl) dL_quota_5 (fun E5 w5 h5 => ?_) (fun r5 w5 h5 => ?_)
  · skip
    have hE : E5 = "java/lang/IllegalArgumentException" := h5.2.1
    subst hE
    refine g_catch C [] ⟨0, 10, 13, 13⟩ [] htab (fun z9 h9 => by cases h9) rfl (by decide) (C.hw (List.mem_cons_of_mem _ (List.mem_append_left _ (List.mem_append_left _ (List.mem_of_getElem? (i := 0) rfl))))) (va_Nw.use rfl C.2.2.2.2.2.1.2.2.2.2.2.2.1) (fun q9 => ?_)
    refine g_astore (lv' := [(4, .ref q9), (0, .ref (a 0)), (1, .int p0), (2, .int p1), (3, .ref o)]) C dL_quota_13 (by decide) rfl ?_
    refine g_iconst (v := nI 1) C dL_quota_15 (by decide +kernel) ?_
    exact g_iret C rfl (Or.inr (⟨w5, h5, rfl, rfl⟩)) (Nat.le_of_ble_eq_true rfl) (Nat.le_of_ble_eq_true rfl) dL_quota_16
  · skip
    refine g_i2l (v := (r5).toInt64) C dL_quota_8 rfl ?_
    refine g_last (nn := 1) (f := g) (i := nI 0) (ws' := (w5 ++ [((o, .inl (cy 2, 1, .inr (.inl (vp_updL g 0 ((r5).toInt64))))) : Nat × va_E)])) C (w5).length (tl_at rfl) (vp_in_nI (by omega) (by omega)) (by rw [nI_clamp (by omega)]; exact tl_set rfl) dL_quota_9 ?_
    refine g_goto (tgt := 17) C dL_quota_10 (by decide) ?_
    refine g_iconst (v := nI 0) C dL_quota_17 (by decide +kernel) ?_
    exact g_iret C rfl (Or.inl (⟨r5, w5, h5, rfl, rfl⟩)) (Nat.le_of_ble_eq_true rfl) (Nat.le_of_ble_eq_true rfl) dL_quota_18
abbrev rmL_list : Room := { frames := 8, cells := 12, slots := 500, locals := 146 }
theorem ydL_list : yL_list.cls ≠ "java/lang/invoke/MethodHandle" ∧ yL_list.cls ≠ "java/lang/invoke/VarHandle" ∧ (parseMethodDescriptor yL_list.desc).map (fun d => d.parameters.length) = some 6 := by decide +kernel
set_option maxRecDepth 100000 in
set_option maxHeartbeats 4000000 in
theorem k_L_list (l : Launch) (D : va_G) (cy : Nat → ClassId) (zs : Nat → Nat) (hst : l.stackTraces = false) (a : Nat → Nat) (lab : Nat → Option Nat) (quo : Nat → Nat) (spe : Nat → Nat) (md : Int32) (ed : Option (Nat × Nat)) (lis : Nat → Nat) (lc : Nat) (see : Nat → Nat → Int32) (cnt : Nat → Nat) (Fs : List FT) (hI : CI lab quo spe ed lis lc cnt Fs) (o : Nat) (g : Nat → Int64) (p0 : Int32) (p1 : Int32) (p2 : Int32) (on : Bool) : Mi l D cy zs yL_list wsL_list rmL_list [.ref (a 0), .int p0, .int p1, .int p2, .int (bI on), .ref o] ((wC cy a (zs 0) lab quo spe md ed lis lc see cnt Fs) ++ [((o, .inl (cy 2, 1, .inr (.inl g))) : Nat × va_E)]) (fun r w => (∃ r1 w1, PC_list cy zs a lab quo spe md ed lis lc see cnt Fs p0 p1 p2 on r1 w1 ∧ r = nI 0 ∧ w = w1 ++ [((o, .inl (cy 2, 1, .inr (.inl (vp_updL g 0 (outB r1))))) : Nat × va_E)]) ∨ (∃ w1, XC_list cy zs a lab quo spe md ed lis lc see cnt Fs p0 p1 p2 on "java/lang/IllegalArgumentException" w1 ∧ r = nI 1 ∧ w = w1 ++ [((o, .inl (cy 2, 1, .inr (.inl g))) : Nat × va_E)]) ∨ (∃ w1, XC_list cy zs a lab quo spe md ed lis lc see cnt Fs p0 p1 p2 on "java/lang/UnsupportedOperationException" w1 ∧ r = nI 2 ∧ w = w1 ++ [((o, .inl (cy 2, 1, .inr (.inl g))) : Nat × va_E)])) := by
  refine MiW.of (lv := [(0, .ref (a 0)), (1, .int p0), (2, .int p1), (3, .int p2), (4, .int (bI on)), (5, .ref o)]) RL ⟨by decide, rfl⟩ rfl (Nat.le_of_ble_eq_true rfl) rfl ?_
  intro p e s m args below meth c A C htab
  refine g_aload C dL_list_0 5 rfl ?_
  refine g_iconst (v := nI 0) C dL_list_2 (by decide +kernel) ?_
  refine g_aload_n C dL_list_3 rfl 0 rfl ?_
  refine g_iload_n C dL_list_4 rfl 1 rfl ?_
  refine g_iload_n C dL_list_5 rfl 2 rfl ?_
  refine g_iload_n C dL_list_6 rfl 3 rfl ?_
  refine g_iload C dL_list_7 4 rfl ?_
  refine g_FXVi (ci := 2) (st := [.int (nI 0), .ref o]) C (k_X1_list l D cy zs hst a lab quo spe md ed lis lc see cnt Fs hI p0 p1 p2 on) gL_list_X1_list rfl ⟨rfl, ydX1_list⟩ 0 rfl rfl ⟨Nat.le_of_ble_eq_true rfl, Nat.le_of_ble_eq_true rfl⟩ ⟨Nat.le_of_ble_eq_true rfl, Nat.le_of_ble_eq_true rfl⟩ rfl (Nat.le_of_ble_eq_true rfl) dL_list_9 (fun E9 w9 h9 => ?_) (fun r9 w9 h9 => ?_)
  · skip
    have hE : E9 = "java/lang/IllegalArgumentException" ∨ E9 = "java/lang/UnsupportedOperationException" := by rcases h9 with h9 | h9; exact Or.inl h9.2.1; exact Or.inr h9.1
    rcases hE with hE | hE <;> subst hE
    · skip
      refine g_catch C [] ⟨0, 21, 24, 13⟩ [⟨0, 21, 28, 23⟩] htab (fun z9 h9 => by cases h9) rfl (by decide) (C.hw (List.mem_cons_of_mem _ (List.mem_append_left _ (List.mem_append_left _ (List.mem_append_left _ (List.mem_append_left _ (List.mem_of_getElem? (i := 0) rfl))))))) (va_Nw.use rfl C.2.2.2.2.2.1.2.2.2.2.2.2.1) (fun q9 => ?_)
      refine g_astore (lv' := [(6, .ref q9), (0, .ref (a 0)), (1, .int p0), (2, .int p1), (3, .int p2), (4, .int (bI on)), (5, .ref o)]) C dL_list_24 (by decide) rfl ?_
      refine g_iconst (v := nI 1) C dL_list_26 (by decide +kernel) ?_
      exact g_iret C rfl (Or.inr (Or.inl (⟨w9, h9, rfl, rfl⟩))) (Nat.le_of_ble_eq_true rfl) (Nat.le_of_ble_eq_true rfl) dL_list_27
    · skip
      refine g_catch C [⟨0, 21, 24, 13⟩] ⟨0, 21, 28, 23⟩ [] htab (fun z9 h9 => by rw [List.mem_singleton] at h9; subst h9; exact Or.inr ⟨by decide, _, (C.hw (List.mem_cons_of_mem _ (List.mem_append_left _ (List.mem_append_left _ (List.mem_append_left _ (List.mem_append_left _ (List.mem_of_getElem? (i := 0) rfl))))))), C.2.2.2.2.2.1.2.2.2.2.2.2.2.2.2.2.2⟩) rfl (by decide) (C.hw (List.mem_cons_of_mem _ (List.mem_append_left _ (List.mem_append_left _ (List.mem_append_left _ (List.mem_append_left _ (List.mem_of_getElem? (i := 1) rfl))))))) (va_Nw.use rfl C.2.2.2.2.2.1.2.2.2.2.2.2.2.1) (fun q9 => ?_)
      refine g_astore (lv' := [(6, .ref q9), (0, .ref (a 0)), (1, .int p0), (2, .int p1), (3, .int p2), (4, .int (bI on)), (5, .ref o)]) C dL_list_28 (by decide) rfl ?_
      refine g_iconst (v := nI 2) C dL_list_30 (by decide +kernel) ?_
      exact g_iret C rfl (Or.inr (Or.inr (⟨w9, h9, rfl, rfl⟩))) (Nat.le_of_ble_eq_true rfl) (Nat.le_of_ble_eq_true rfl) dL_list_31
  · skip
    refine g_if_eq (tgt := 19) C dL_list_12 (by decide) (fun c12 => ?_) (fun c12 => ?_)
    · skip
      refine g_lconst (v := 0) C dL_list_19 (by decide +kernel) ?_
      refine g_last (nn := 1) (f := g) (i := nI 0) (ws' := (w9 ++ [((o, .inl (cy 2, 1, .inr (.inl (vp_updL g 0 (0 : Int64))))) : Nat × va_E)])) C (w9).length (tl_at rfl) (vp_in_nI (by omega) (by omega)) (by rw [nI_clamp (by omega)]; exact tl_set rfl) dL_list_20 ?_
      refine g_goto (tgt := 32) C dL_list_21 (by decide) ?_
      refine g_iconst (v := nI 0) C dL_list_32 (by decide +kernel) ?_
      exact g_iret C rfl (Or.inl (⟨r9, w9, h9, rfl, (by unfold outB; rw [if_pos c12])⟩)) (Nat.le_of_ble_eq_true rfl) (Nat.le_of_ble_eq_true rfl) dL_list_33
    · skip
      refine g_lconst (v := 1) C dL_list_15 (by decide +kernel) ?_
      refine g_goto (tgt := 20) C dL_list_16 (by decide) ?_
      refine g_last (nn := 1) (f := g) (i := nI 0) (ws' := (w9 ++ [((o, .inl (cy 2, 1, .inr (.inl (vp_updL g 0 (1 : Int64))))) : Nat × va_E)])) C (w9).length (tl_at rfl) (vp_in_nI (by omega) (by omega)) (by rw [nI_clamp (by omega)]; exact tl_set rfl) dL_list_20 ?_
      refine g_goto (tgt := 32) C dL_list_21 (by decide) ?_
      refine g_iconst (v := nI 0) C dL_list_32 (by decide +kernel) ?_
      exact g_iret C rfl (Or.inl (⟨r9, w9, h9, rfl, (by unfold outB; rw [if_neg c12])⟩)) (Nat.le_of_ble_eq_true rfl) (Nat.le_of_ble_eq_true rfl) dL_list_33
abbrev rmL_flows : Room := { frames := 8, cells := 12, slots := 500, locals := 142 }
theorem ydL_flows : yL_flows.cls ≠ "java/lang/invoke/MethodHandle" ∧ yL_flows.cls ≠ "java/lang/invoke/VarHandle" ∧ (parseMethodDescriptor yL_flows.desc).map (fun d => d.parameters.length) = some 4 := by decide +kernel
set_option maxRecDepth 100000 in
set_option maxHeartbeats 4000000 in
theorem k_L_flows (l : Launch) (D : va_G) (cy : Nat → ClassId) (zs : Nat → Nat) (hst : l.stackTraces = false) (a : Nat → Nat) (lab : Nat → Option Nat) (quo : Nat → Nat) (spe : Nat → Nat) (md : Int32) (ed : Option (Nat × Nat)) (lis : Nat → Nat) (lc : Nat) (see : Nat → Nat → Int32) (cnt : Nat → Nat) (Fs : List FT) (hI : CI lab quo spe ed lis lc cnt Fs) (o : Nat) (g : Nat → Int64) (p0 : Int32) (p1 : Int32) : Mi l D cy zs yL_flows wsL_flows rmL_flows [.ref (a 0), .int p0, .int p1, .ref o] ((wC cy a (zs 0) lab quo spe md ed lis lc see cnt Fs) ++ [((o, .inl (cy 2, 1, .inr (.inl g))) : Nat × va_E)]) (fun r w => (∃ r1 w1, PC_flows cy zs a lab quo spe md ed lis lc see cnt Fs p0 p1 r1 w1 ∧ r = nI 0 ∧ w = w1 ++ [((o, .inl (cy 2, 1, .inr (.inl (vp_updL g 0 (outB r1))))) : Nat × va_E)]) ∨ (∃ w1, XC_flows cy zs a lab quo spe md ed lis lc see cnt Fs p0 p1 "java/lang/IllegalArgumentException" w1 ∧ r = nI 1 ∧ w = w1 ++ [((o, .inl (cy 2, 1, .inr (.inl g))) : Nat × va_E)])) := by
  refine MiW.of (lv := [(0, .ref (a 0)), (1, .int p0), (2, .int p1), (3, .ref o)]) RL ⟨by decide, rfl⟩ rfl (Nat.le_of_ble_eq_true rfl) rfl ?_
  intro p e s m args below meth c A C htab
  refine g_aload_n C dL_flows_0 rfl 3 rfl ?_
  refine g_iconst (v := nI 0) C dL_flows_1 (by decide +kernel) ?_
  refine g_aload_n C dL_flows_2 rfl 0 rfl ?_
  refine g_iload_n C dL_flows_3 rfl 1 rfl ?_
  refine g_iload_n C dL_flows_4 rfl 2 rfl ?_
  refine g_FXVi (ci := 2) (st := [.int (nI 0), .ref o]) C (k_X1_flows l D cy zs hst a lab quo spe md ed lis lc see cnt Fs hI p0 p1) gL_flows_X1_flows rfl ⟨rfl, ydX1_flows⟩ 0 rfl rfl ⟨Nat.le_of_ble_eq_true rfl, Nat.le_of_ble_eq_true rfl⟩ ⟨Nat.le_of_ble_eq_true rfl, Nat.le_of_ble_eq_true rfl⟩ rfl (Nat.le_of_ble_eq_true rfl) dL_flows_5 (fun E5 w5 h5 => ?_) (fun r5 w5 h5 => ?_)
  · skip
    have hE : E5 = "java/lang/IllegalArgumentException" := h5.2.1
    subst hE
    refine g_catch C [] ⟨0, 17, 20, 13⟩ [] htab (fun z9 h9 => by cases h9) rfl (by decide) (C.hw (List.mem_cons_of_mem _ (List.mem_append_left _ (List.mem_append_left _ (List.mem_of_getElem? (i := 0) rfl))))) (va_Nw.use rfl C.2.2.2.2.2.1.2.2.2.2.2.2.1) (fun q9 => ?_)
    refine g_astore (lv' := [(4, .ref q9), (0, .ref (a 0)), (1, .int p0), (2, .int p1), (3, .ref o)]) C dL_flows_20 (by decide) rfl ?_
    refine g_iconst (v := nI 1) C dL_flows_22 (by decide +kernel) ?_
    exact g_iret C rfl (Or.inr (⟨w5, h5, rfl, rfl⟩)) (Nat.le_of_ble_eq_true rfl) (Nat.le_of_ble_eq_true rfl) dL_flows_23
  · skip
    refine g_if_eq (tgt := 15) C dL_flows_8 (by decide) (fun c8 => ?_) (fun c8 => ?_)
    · skip
      refine g_lconst (v := 0) C dL_flows_15 (by decide +kernel) ?_
      refine g_last (nn := 1) (f := g) (i := nI 0) (ws' := (w5 ++ [((o, .inl (cy 2, 1, .inr (.inl (vp_updL g 0 (0 : Int64))))) : Nat × va_E)])) C (w5).length (tl_at rfl) (vp_in_nI (by omega) (by omega)) (by rw [nI_clamp (by omega)]; exact tl_set rfl) dL_flows_16 ?_
      refine g_goto (tgt := 24) C dL_flows_17 (by decide) ?_
      refine g_iconst (v := nI 0) C dL_flows_24 (by decide +kernel) ?_
      exact g_iret C rfl (Or.inl (⟨r5, w5, h5, rfl, (by unfold outB; rw [if_pos c8])⟩)) (Nat.le_of_ble_eq_true rfl) (Nat.le_of_ble_eq_true rfl) dL_flows_25
    · skip
      refine g_lconst (v := 1) C dL_flows_11 (by decide +kernel) ?_
      refine g_goto (tgt := 16) C dL_flows_12 (by decide) ?_
      refine g_last (nn := 1) (f := g) (i := nI 0) (ws' := (w5 ++ [((o, .inl (cy 2, 1, .inr (.inl (vp_updL g 0 (1 : Int64))))) : Nat × va_E)])) C (w5).length (tl_at rfl) (vp_in_nI (by omega) (by omega)) (by rw [nI_clamp (by omega)]; exact tl_set rfl) dL_flows_16 ?_
      refine g_goto (tgt := 24) C dL_flows_17 (by decide) ?_
      refine g_iconst (v := nI 0) C dL_flows_24 (by decide +kernel) ?_
      exact g_iret C rfl (Or.inl (⟨r5, w5, h5, rfl, (by unfold outB; rw [if_neg c8])⟩)) (Nat.le_of_ble_eq_true rfl) (Nat.le_of_ble_eq_true rfl) dL_flows_25
abbrev rmL_make : Room := { frames := 10, cells := 12, slots := 500, locals := 268 }
theorem ydL_make : yL_make.cls ≠ "java/lang/invoke/MethodHandle" ∧ yL_make.cls ≠ "java/lang/invoke/VarHandle" ∧ (parseMethodDescriptor yL_make.desc).map (fun d => d.parameters.length) = some 6 := by decide +kernel
set_option maxRecDepth 100000 in
set_option maxHeartbeats 4000000 in
theorem k_L_make (l : Launch) (D : va_G) (cy : Nat → ClassId) (zs : Nat → Nat) (hst : l.stackTraces = false) (a : Nat → Nat) (lab : Nat → Option Nat) (quo : Nat → Nat) (spe : Nat → Nat) (md : Int32) (ed : Option (Nat × Nat)) (lis : Nat → Nat) (lc : Nat) (see : Nat → Nat → Int32) (cnt : Nat → Nat) (Fs : List FT) (hI : CI lab quo spe ed lis lc cnt Fs) (o : Nat) (g : Nat → Int64) (p0 : Int32) (p1 : Int32) (p2 : Int32) (p3 : Int32) : Mi l D cy zs yL_make wsL_make rmL_make [.ref (a 0), .int p0, .int p1, .int p2, .int p3, .ref o] ((wC cy a (zs 0) lab quo spe md ed lis lc see cnt Fs) ++ [((o, .inl (cy 2, 1, .inr (.inl g))) : Nat × va_E)]) (fun r w => (∃ r1 w1, PC_make cy zs a lab quo spe md ed lis lc see cnt Fs p0 p1 p2 p3 r1 w1 ∧ r = nI 0 ∧ w = w1 ++ [((o, .inl (cy 2, 1, .inr (.inl (vp_updL g 0 (r1).toInt64)))) : Nat × va_E)]) ∨ (∃ w1, XC_make cy zs a lab quo spe md ed lis lc see cnt Fs p0 p1 p2 p3 "java/lang/IllegalArgumentException" w1 ∧ r = nI 1 ∧ w = w1 ++ [((o, .inl (cy 2, 1, .inr (.inl g))) : Nat × va_E)]) ∨ (∃ w1, XC_make cy zs a lab quo spe md ed lis lc see cnt Fs p0 p1 p2 p3 "java/lang/UnsupportedOperationException" w1 ∧ r = nI 2 ∧ w = w1 ++ [((o, .inl (cy 2, 1, .inr (.inl g))) : Nat × va_E)])) := by
  refine MiW.of (lv := [(0, .ref (a 0)), (1, .int p0), (2, .int p1), (3, .int p2), (4, .int p3), (5, .ref o)]) RL ⟨by decide, rfl⟩ rfl (Nat.le_of_ble_eq_true rfl) rfl ?_
  intro p e s m args below meth c A C htab
  refine g_aload C dL_make_0 5 rfl ?_
  refine g_iconst (v := nI 0) C dL_make_2 (by decide +kernel) ?_
  refine g_aload_n C dL_make_3 rfl 0 rfl ?_
  refine g_iload_n C dL_make_4 rfl 1 rfl ?_
  refine g_iload_n C dL_make_5 rfl 2 rfl ?_
  refine g_iload_n C dL_make_6 rfl 3 rfl ?_
  refine g_iload C dL_make_7 4 rfl ?_
  refine g_FXVi (ci := 2) (st := [.int (nI 0), .ref o]) C (k_X1_make l D cy zs hst a lab quo spe md ed lis lc see cnt Fs hI p0 p1 p2 p3) gL_make_X1_make rfl ⟨rfl, ydX1_make⟩ 0 rfl rfl ⟨Nat.le_of_ble_eq_true rfl, Nat.le_of_ble_eq_true rfl⟩ ⟨Nat.le_of_ble_eq_true rfl, Nat.le_of_ble_eq_true rfl⟩ rfl (Nat.le_of_ble_eq_true rfl) dL_make_9 (fun E9 w9 h9 => ?_) (fun r9 w9 h9 => ?_)
  · skip
    have hE : E9 = "java/lang/IllegalArgumentException" ∨ E9 = "java/lang/UnsupportedOperationException" := by rcases h9 with h9 | h9; exact Or.inl h9.2.1; exact Or.inr h9.1
    rcases hE with hE | hE <;> subst hE
    · skip
      refine g_catch C [] ⟨0, 14, 17, 13⟩ [⟨0, 14, 21, 23⟩] htab (fun z9 h9 => by cases h9) rfl (by decide) (C.hw (List.mem_cons_of_mem _ (List.mem_append_left _ (List.mem_append_left _ (List.mem_append_left _ (List.mem_append_left _ (List.mem_append_left _ (List.mem_append_left _ (List.mem_of_getElem? (i := 0) rfl))))))))) (va_Nw.use rfl C.2.2.2.2.2.1.2.2.2.2.2.2.1) (fun q9 => ?_)
      refine g_astore (lv' := [(6, .ref q9), (0, .ref (a 0)), (1, .int p0), (2, .int p1), (3, .int p2), (4, .int p3), (5, .ref o)]) C dL_make_17 (by decide) rfl ?_
      refine g_iconst (v := nI 1) C dL_make_19 (by decide +kernel) ?_
      exact g_iret C rfl (Or.inr (Or.inl (⟨w9, h9, rfl, rfl⟩))) (Nat.le_of_ble_eq_true rfl) (Nat.le_of_ble_eq_true rfl) dL_make_20
    · skip
      refine g_catch C [⟨0, 14, 17, 13⟩] ⟨0, 14, 21, 23⟩ [] htab (fun z9 h9 => by rw [List.mem_singleton] at h9; subst h9; exact Or.inr ⟨by decide, _, (C.hw (List.mem_cons_of_mem _ (List.mem_append_left _ (List.mem_append_left _ (List.mem_append_left _ (List.mem_append_left _ (List.mem_append_left _ (List.mem_append_left _ (List.mem_of_getElem? (i := 0) rfl))))))))), C.2.2.2.2.2.1.2.2.2.2.2.2.2.2.2.2.2⟩) rfl (by decide) (C.hw (List.mem_cons_of_mem _ (List.mem_append_left _ (List.mem_append_left _ (List.mem_append_left _ (List.mem_append_left _ (List.mem_append_left _ (List.mem_append_left _ (List.mem_of_getElem? (i := 1) rfl))))))))) (va_Nw.use rfl C.2.2.2.2.2.1.2.2.2.2.2.2.2.1) (fun q9 => ?_)
      refine g_astore (lv' := [(6, .ref q9), (0, .ref (a 0)), (1, .int p0), (2, .int p1), (3, .int p2), (4, .int p3), (5, .ref o)]) C dL_make_21 (by decide) rfl ?_
      refine g_iconst (v := nI 2) C dL_make_23 (by decide +kernel) ?_
      exact g_iret C rfl (Or.inr (Or.inr (⟨w9, h9, rfl, rfl⟩))) (Nat.le_of_ble_eq_true rfl) (Nat.le_of_ble_eq_true rfl) dL_make_24
  · skip
    refine g_i2l (v := (r9).toInt64) C dL_make_12 rfl ?_
    refine g_last (nn := 1) (f := g) (i := nI 0) (ws' := (w9 ++ [((o, .inl (cy 2, 1, .inr (.inl (vp_updL g 0 ((r9).toInt64))))) : Nat × va_E)])) C (w9).length (tl_at rfl) (vp_in_nI (by omega) (by omega)) (by rw [nI_clamp (by omega)]; exact tl_set rfl) dL_make_13 ?_
    refine g_goto (tgt := 25) C dL_make_14 (by decide) ?_
    refine g_iconst (v := nI 0) C dL_make_25 (by decide +kernel) ?_
    exact g_iret C rfl (Or.inl (⟨r9, w9, h9, rfl, rfl⟩)) (Nat.le_of_ble_eq_true rfl) (Nat.le_of_ble_eq_true rfl) dL_make_26
abbrev rmL_set : Room := { frames := 8, cells := 12, slots := 500, locals := 146 }
theorem ydL_set : yL_set.cls ≠ "java/lang/invoke/MethodHandle" ∧ yL_set.cls ≠ "java/lang/invoke/VarHandle" ∧ (parseMethodDescriptor yL_set.desc).map (fun d => d.parameters.length) = some 6 := by decide +kernel
set_option maxRecDepth 100000 in
set_option maxHeartbeats 4000000 in
theorem k_L_set (l : Launch) (D : va_G) (cy : Nat → ClassId) (zs : Nat → Nat) (hst : l.stackTraces = false) (a : Nat → Nat) (lab : Nat → Option Nat) (quo : Nat → Nat) (spe : Nat → Nat) (md : Int32) (ed : Option (Nat × Nat)) (lis : Nat → Nat) (lc : Nat) (see : Nat → Nat → Int32) (cnt : Nat → Nat) (Fs : List FT) (hI : CI lab quo spe ed lis lc cnt Fs) (o : Nat) (g : Nat → Int64) (p0 : Int32) (p1 : Int32) (p2 : Int32) (v : Int32) : Mi l D cy zs yL_set wsL_set rmL_set [.ref (a 0), .int p0, .int p1, .int p2, .int v, .ref o] ((wC cy a (zs 0) lab quo spe md ed lis lc see cnt Fs) ++ [((o, .inl (cy 2, 1, .inr (.inl g))) : Nat × va_E)]) (fun r w => (∃ r1 w1, PC_set cy zs a lab quo spe md ed lis lc see cnt Fs p0 p1 p2 v r1 w1 ∧ r = nI 0 ∧ w = w1 ++ [((o, .inl (cy 2, 1, .inr (.inl (vp_updL g 0 (r1).toInt64)))) : Nat × va_E)]) ∨ (∃ w1, XC_set cy zs a lab quo spe md ed lis lc see cnt Fs p0 p1 p2 v "java/lang/IllegalArgumentException" w1 ∧ r = nI 1 ∧ w = w1 ++ [((o, .inl (cy 2, 1, .inr (.inl g))) : Nat × va_E)])) := by
  refine MiW.of (lv := [(0, .ref (a 0)), (1, .int p0), (2, .int p1), (3, .int p2), (4, .int v), (5, .ref o)]) RL ⟨by decide, rfl⟩ rfl (Nat.le_of_ble_eq_true rfl) rfl ?_
  intro p e s m args below meth c A C htab
  refine g_aload C dL_set_0 5 rfl ?_
  refine g_iconst (v := nI 0) C dL_set_2 (by decide +kernel) ?_
  refine g_aload_n C dL_set_3 rfl 0 rfl ?_
  refine g_iload_n C dL_set_4 rfl 1 rfl ?_
  refine g_iload_n C dL_set_5 rfl 2 rfl ?_
  refine g_iload_n C dL_set_6 rfl 3 rfl ?_
  refine g_iload C dL_set_7 4 rfl ?_
  refine g_FXVi (ci := 2) (st := [.int (nI 0), .ref o]) C (k_X1_set l D cy zs hst a lab quo spe md ed lis lc see cnt Fs hI p0 p1 p2 v) gL_set_X1_set rfl ⟨rfl, ydX1_set⟩ 0 rfl rfl ⟨Nat.le_of_ble_eq_true rfl, Nat.le_of_ble_eq_true rfl⟩ ⟨Nat.le_of_ble_eq_true rfl, Nat.le_of_ble_eq_true rfl⟩ rfl (Nat.le_of_ble_eq_true rfl) dL_set_9 (fun E9 w9 h9 => ?_) (fun r9 w9 h9 => ?_)
  · skip
    have hE : E9 = "java/lang/IllegalArgumentException" := h9.2.1
    subst hE
    refine g_catch C [] ⟨0, 14, 17, 13⟩ [] htab (fun z9 h9 => by cases h9) rfl (by decide) (C.hw (List.mem_cons_of_mem _ (List.mem_append_left _ (List.mem_append_left _ (List.mem_append_left _ (List.mem_append_left _ (List.mem_append_left _ (List.mem_of_getElem? (i := 0) rfl)))))))) (va_Nw.use rfl C.2.2.2.2.2.1.2.2.2.2.2.2.1) (fun q9 => ?_)
    refine g_astore (lv' := [(6, .ref q9), (0, .ref (a 0)), (1, .int p0), (2, .int p1), (3, .int p2), (4, .int v), (5, .ref o)]) C dL_set_17 (by decide) rfl ?_
    refine g_iconst (v := nI 1) C dL_set_19 (by decide +kernel) ?_
    exact g_iret C rfl (Or.inr (⟨w9, h9, rfl, rfl⟩)) (Nat.le_of_ble_eq_true rfl) (Nat.le_of_ble_eq_true rfl) dL_set_20
  · skip
    refine g_i2l (v := (r9).toInt64) C dL_set_12 rfl ?_
    refine g_last (nn := 1) (f := g) (i := nI 0) (ws' := (w9 ++ [((o, .inl (cy 2, 1, .inr (.inl (vp_updL g 0 ((r9).toInt64))))) : Nat × va_E)])) C (w9).length (tl_at rfl) (vp_in_nI (by omega) (by omega)) (by rw [nI_clamp (by omega)]; exact tl_set rfl) dL_set_13 ?_
    refine g_goto (tgt := 21) C dL_set_14 (by decide) ?_
    refine g_iconst (v := nI 0) C dL_set_21 (by decide +kernel) ?_
    exact g_iret C rfl (Or.inl (⟨r9, w9, h9, rfl, rfl⟩)) (Nat.le_of_ble_eq_true rfl) (Nat.le_of_ble_eq_true rfl) dL_set_22
abbrev rmL_give : Room := { frames := 9, cells := 12, slots := 500, locals := 167 }
theorem ydL_give : yL_give.cls ≠ "java/lang/invoke/MethodHandle" ∧ yL_give.cls ≠ "java/lang/invoke/VarHandle" ∧ (parseMethodDescriptor yL_give.desc).map (fun d => d.parameters.length) = some 6 := by decide +kernel
set_option maxRecDepth 100000 in
set_option maxHeartbeats 4000000 in
theorem k_L_give (l : Launch) (D : va_G) (cy : Nat → ClassId) (zs : Nat → Nat) (hst : l.stackTraces = false) (a : Nat → Nat) (lab : Nat → Option Nat) (quo : Nat → Nat) (spe : Nat → Nat) (md : Int32) (ed : Option (Nat × Nat)) (lis : Nat → Nat) (lc : Nat) (see : Nat → Nat → Int32) (cnt : Nat → Nat) (Fs : List FT) (hI : CI lab quo spe ed lis lc cnt Fs) (o : Nat) (g : Nat → Int64) (p0 : Int32) (p1 : Int32) (p2 : Int32) (v : Int32) : Mi l D cy zs yL_give wsL_give rmL_give [.ref (a 0), .int p0, .int p1, .int p2, .int v, .ref o] ((wC cy a (zs 0) lab quo spe md ed lis lc see cnt Fs) ++ [((o, .inl (cy 2, 1, .inr (.inl g))) : Nat × va_E)]) (fun r w => (∃ r1 w1, PC_give cy zs a lab quo spe md ed lis lc see cnt Fs p0 p1 p2 v r1 w1 ∧ r = nI 0 ∧ w = w1 ++ [((o, .inl (cy 2, 1, .inr (.inl (vp_updL g 0 (r1).toInt64)))) : Nat × va_E)]) ∨ (∃ w1, XC_give cy zs a lab quo spe md ed lis lc see cnt Fs p0 p1 p2 v "java/lang/IllegalArgumentException" w1 ∧ r = nI 1 ∧ w = w1 ++ [((o, .inl (cy 2, 1, .inr (.inl g))) : Nat × va_E)])) := by
  refine MiW.of (lv := [(0, .ref (a 0)), (1, .int p0), (2, .int p1), (3, .int p2), (4, .int v), (5, .ref o)]) RL ⟨by decide, rfl⟩ rfl (Nat.le_of_ble_eq_true rfl) rfl ?_
  intro p e s m args below meth c A C htab
  refine g_aload C dL_give_0 5 rfl ?_
  refine g_iconst (v := nI 0) C dL_give_2 (by decide +kernel) ?_
  refine g_aload_n C dL_give_3 rfl 0 rfl ?_
  refine g_iload_n C dL_give_4 rfl 1 rfl ?_
  refine g_iload_n C dL_give_5 rfl 2 rfl ?_
  refine g_iload_n C dL_give_6 rfl 3 rfl ?_
  refine g_iload C dL_give_7 4 rfl ?_
  refine g_FXVi (ci := 2) (st := [.int (nI 0), .ref o]) C (k_X1_give l D cy zs hst a lab quo spe md ed lis lc see cnt Fs hI p0 p1 p2 v) gL_give_X1_give rfl ⟨rfl, ydX1_give⟩ 0 rfl rfl ⟨Nat.le_of_ble_eq_true rfl, Nat.le_of_ble_eq_true rfl⟩ ⟨Nat.le_of_ble_eq_true rfl, Nat.le_of_ble_eq_true rfl⟩ rfl (Nat.le_of_ble_eq_true rfl) dL_give_9 (fun E9 w9 h9 => ?_) (fun r9 w9 h9 => ?_)
  · skip
    have hE : E9 = "java/lang/IllegalArgumentException" := h9.2.1
    subst hE
    refine g_catch C [] ⟨0, 14, 17, 13⟩ [] htab (fun z9 h9 => by cases h9) rfl (by decide) (C.hw (List.mem_cons_of_mem _ (List.mem_append_left _ (List.mem_append_left _ (List.mem_append_left _ (List.mem_append_left _ (List.mem_append_left _ (List.mem_of_getElem? (i := 0) rfl)))))))) (va_Nw.use rfl C.2.2.2.2.2.1.2.2.2.2.2.2.1) (fun q9 => ?_)
    refine g_astore (lv' := [(6, .ref q9), (0, .ref (a 0)), (1, .int p0), (2, .int p1), (3, .int p2), (4, .int v), (5, .ref o)]) C dL_give_17 (by decide) rfl ?_
    refine g_iconst (v := nI 1) C dL_give_19 (by decide +kernel) ?_
    exact g_iret C rfl (Or.inr (⟨w9, h9, rfl, rfl⟩)) (Nat.le_of_ble_eq_true rfl) (Nat.le_of_ble_eq_true rfl) dL_give_20
  · skip
    refine g_i2l (v := (r9).toInt64) C dL_give_12 rfl ?_
    refine g_last (nn := 1) (f := g) (i := nI 0) (ws' := (w9 ++ [((o, .inl (cy 2, 1, .inr (.inl (vp_updL g 0 ((r9).toInt64))))) : Nat × va_E)])) C (w9).length (tl_at rfl) (vp_in_nI (by omega) (by omega)) (by rw [nI_clamp (by omega)]; exact tl_set rfl) dL_give_13 ?_
    refine g_goto (tgt := 21) C dL_give_14 (by decide) ?_
    refine g_iconst (v := nI 0) C dL_give_21 (by decide +kernel) ?_
    exact g_iret C rfl (Or.inl (⟨r9, w9, h9, rfl, rfl⟩)) (Nat.le_of_ble_eq_true rfl) (Nat.le_of_ble_eq_true rfl) dL_give_22
abbrev rmL_trim : Room := { frames := 8, cells := 12, slots := 500, locals := 146 }
theorem ydL_trim : yL_trim.cls ≠ "java/lang/invoke/MethodHandle" ∧ yL_trim.cls ≠ "java/lang/invoke/VarHandle" ∧ (parseMethodDescriptor yL_trim.desc).map (fun d => d.parameters.length) = some 5 := by decide +kernel
set_option maxRecDepth 100000 in
set_option maxHeartbeats 4000000 in
theorem k_L_trim (l : Launch) (D : va_G) (cy : Nat → ClassId) (zs : Nat → Nat) (hst : l.stackTraces = false) (a : Nat → Nat) (lab : Nat → Option Nat) (quo : Nat → Nat) (spe : Nat → Nat) (md : Int32) (ed : Option (Nat × Nat)) (lis : Nat → Nat) (lc : Nat) (see : Nat → Nat → Int32) (cnt : Nat → Nat) (Fs : List FT) (hI : CI lab quo spe ed lis lc cnt Fs) (o : Nat) (g : Nat → Int64) (p0 : Int32) (p1 : Int32) (p2 : Int32) : Mi l D cy zs yL_trim wsL_trim rmL_trim [.ref (a 0), .int p0, .int p1, .int p2, .ref o] ((wC cy a (zs 0) lab quo spe md ed lis lc see cnt Fs) ++ [((o, .inl (cy 2, 1, .inr (.inl g))) : Nat × va_E)]) (fun r w => (∃ r1 w1, PC_trim cy zs a lab quo spe md ed lis lc see cnt Fs p0 p1 p2 r1 w1 ∧ r = nI 0 ∧ w = w1 ++ [((o, .inl (cy 2, 1, .inr (.inl (vp_updL g 0 (r1).toInt64)))) : Nat × va_E)]) ∨ (∃ w1, XC_trim cy zs a lab quo spe md ed lis lc see cnt Fs p0 p1 p2 "java/lang/IllegalArgumentException" w1 ∧ r = nI 1 ∧ w = w1 ++ [((o, .inl (cy 2, 1, .inr (.inl g))) : Nat × va_E)])) := by
  refine MiW.of (lv := [(0, .ref (a 0)), (1, .int p0), (2, .int p1), (3, .int p2), (4, .ref o)]) RL ⟨by decide, rfl⟩ rfl (Nat.le_of_ble_eq_true rfl) rfl ?_
  intro p e s m args below meth c A C htab
  refine g_aload C dL_trim_0 4 rfl ?_
  refine g_iconst (v := nI 0) C dL_trim_2 (by decide +kernel) ?_
  refine g_aload_n C dL_trim_3 rfl 0 rfl ?_
  refine g_iload_n C dL_trim_4 rfl 1 rfl ?_
  refine g_iload_n C dL_trim_5 rfl 2 rfl ?_
  refine g_iload_n C dL_trim_6 rfl 3 rfl ?_
  refine g_FXVi (ci := 2) (st := [.int (nI 0), .ref o]) C (k_X1_trim l D cy zs hst a lab quo spe md ed lis lc see cnt Fs hI p0 p1 p2) gL_trim_X1_trim rfl ⟨rfl, ydX1_trim⟩ 0 rfl rfl ⟨Nat.le_of_ble_eq_true rfl, Nat.le_of_ble_eq_true rfl⟩ ⟨Nat.le_of_ble_eq_true rfl, Nat.le_of_ble_eq_true rfl⟩ rfl (Nat.le_of_ble_eq_true rfl) dL_trim_7 (fun E7 w7 h7 => ?_) (fun r7 w7 h7 => ?_)
  · skip
    have hE : E7 = "java/lang/IllegalArgumentException" := h7.2.1
    subst hE
    refine g_catch C [] ⟨0, 12, 15, 13⟩ [] htab (fun z9 h9 => by cases h9) rfl (by decide) (C.hw (List.mem_cons_of_mem _ (List.mem_append_left _ (List.mem_append_left _ (List.mem_append_left _ (List.mem_append_left _ (List.mem_append_left _ (List.mem_of_getElem? (i := 0) rfl)))))))) (va_Nw.use rfl C.2.2.2.2.2.1.2.2.2.2.2.2.1) (fun q9 => ?_)
    refine g_astore (lv' := [(5, .ref q9), (0, .ref (a 0)), (1, .int p0), (2, .int p1), (3, .int p2), (4, .ref o)]) C dL_trim_15 (by decide) rfl ?_
    refine g_iconst (v := nI 1) C dL_trim_17 (by decide +kernel) ?_
    exact g_iret C rfl (Or.inr (⟨w7, h7, rfl, rfl⟩)) (Nat.le_of_ble_eq_true rfl) (Nat.le_of_ble_eq_true rfl) dL_trim_18
  · skip
    refine g_i2l (v := (r7).toInt64) C dL_trim_10 rfl ?_
    refine g_last (nn := 1) (f := g) (i := nI 0) (ws' := (w7 ++ [((o, .inl (cy 2, 1, .inr (.inl (vp_updL g 0 ((r7).toInt64))))) : Nat × va_E)])) C (w7).length (tl_at rfl) (vp_in_nI (by omega) (by omega)) (by rw [nI_clamp (by omega)]; exact tl_set rfl) dL_trim_11 ?_
    refine g_goto (tgt := 19) C dL_trim_12 (by decide) ?_
    refine g_iconst (v := nI 0) C dL_trim_19 (by decide +kernel) ?_
    exact g_iret C rfl (Or.inl (⟨r7, w7, h7, rfl, rfl⟩)) (Nat.le_of_ble_eq_true rfl) (Nat.le_of_ble_eq_true rfl) dL_trim_20
abbrev rmL_remove : Room := { frames := 8, cells := 12, slots := 500, locals := 144 }
theorem ydL_remove : yL_remove.cls ≠ "java/lang/invoke/MethodHandle" ∧ yL_remove.cls ≠ "java/lang/invoke/VarHandle" ∧ (parseMethodDescriptor yL_remove.desc).map (fun d => d.parameters.length) = some 4 := by decide +kernel
set_option maxRecDepth 100000 in
set_option maxHeartbeats 4000000 in
theorem k_L_remove (l : Launch) (D : va_G) (cy : Nat → ClassId) (zs : Nat → Nat) (hst : l.stackTraces = false) (a : Nat → Nat) (lab : Nat → Option Nat) (quo : Nat → Nat) (spe : Nat → Nat) (md : Int32) (ed : Option (Nat × Nat)) (lis : Nat → Nat) (lc : Nat) (see : Nat → Nat → Int32) (cnt : Nat → Nat) (Fs : List FT) (hI : CI lab quo spe ed lis lc cnt Fs) (o : Nat) (g : Nat → Int64) (p0 : Int32) (p1 : Int32) : Mi l D cy zs yL_remove wsL_remove rmL_remove [.ref (a 0), .int p0, .int p1, .ref o] ((wC cy a (zs 0) lab quo spe md ed lis lc see cnt Fs) ++ [((o, .inl (cy 2, 1, .inr (.inl g))) : Nat × va_E)]) (fun r w => (∃ r1 w1, PC_remove cy zs a lab quo spe md ed lis lc see cnt Fs p0 p1 r1 w1 ∧ r = nI 0 ∧ w = w1 ++ [((o, .inl (cy 2, 1, .inr (.inl (vp_updL g 0 (r1).toInt64)))) : Nat × va_E)]) ∨ (∃ w1, XC_remove cy zs a lab quo spe md ed lis lc see cnt Fs p0 p1 "java/lang/IllegalArgumentException" w1 ∧ r = nI 1 ∧ w = w1 ++ [((o, .inl (cy 2, 1, .inr (.inl g))) : Nat × va_E)])) := by
  refine MiW.of (lv := [(0, .ref (a 0)), (1, .int p0), (2, .int p1), (3, .ref o)]) RL ⟨by decide, rfl⟩ rfl (Nat.le_of_ble_eq_true rfl) rfl ?_
  intro p e s m args below meth c A C htab
  refine g_aload_n C dL_remove_0 rfl 3 rfl ?_
  refine g_iconst (v := nI 0) C dL_remove_1 (by decide +kernel) ?_
  refine g_aload_n C dL_remove_2 rfl 0 rfl ?_
  refine g_iload_n C dL_remove_3 rfl 1 rfl ?_
  refine g_iload_n C dL_remove_4 rfl 2 rfl ?_
  refine g_FXVi (ci := 2) (st := [.int (nI 0), .ref o]) C (k_X1_remove l D cy zs hst a lab quo spe md ed lis lc see cnt Fs hI p0 p1) gL_remove_X1_remove rfl ⟨rfl, ydX1_remove⟩ 0 rfl rfl ⟨Nat.le_of_ble_eq_true rfl, Nat.le_of_ble_eq_true rfl⟩ ⟨Nat.le_of_ble_eq_true rfl, Nat.le_of_ble_eq_true rfl⟩ rfl (Nat.le_of_ble_eq_true rfl) dL_remove_5 (fun E5 w5 h5 => ?_) (fun r5 w5 h5 => ?_)
  · skip
    have hE : E5 = "java/lang/IllegalArgumentException" := h5.2.1
    subst hE
    refine g_catch C [] ⟨0, 10, 13, 13⟩ [] htab (fun z9 h9 => by cases h9) rfl (by decide) (C.hw (List.mem_cons_of_mem _ (List.mem_append_left _ (List.mem_append_left _ (List.mem_append_left _ (List.mem_append_left _ (List.mem_append_left _ (List.mem_of_getElem? (i := 0) rfl)))))))) (va_Nw.use rfl C.2.2.2.2.2.1.2.2.2.2.2.2.1) (fun q9 => ?_)
    refine g_astore (lv' := [(4, .ref q9), (0, .ref (a 0)), (1, .int p0), (2, .int p1), (3, .ref o)]) C dL_remove_13 (by decide) rfl ?_
    refine g_iconst (v := nI 1) C dL_remove_15 (by decide +kernel) ?_
    exact g_iret C rfl (Or.inr (⟨w5, h5, rfl, rfl⟩)) (Nat.le_of_ble_eq_true rfl) (Nat.le_of_ble_eq_true rfl) dL_remove_16
  · skip
    refine g_i2l (v := (r5).toInt64) C dL_remove_8 rfl ?_
    refine g_last (nn := 1) (f := g) (i := nI 0) (ws' := (w5 ++ [((o, .inl (cy 2, 1, .inr (.inl (vp_updL g 0 ((r5).toInt64))))) : Nat × va_E)])) C (w5).length (tl_at rfl) (vp_in_nI (by omega) (by omega)) (by rw [nI_clamp (by omega)]; exact tl_set rfl) dL_remove_9 ?_
    refine g_goto (tgt := 17) C dL_remove_10 (by decide) ?_
    refine g_iconst (v := nI 0) C dL_remove_17 (by decide +kernel) ?_
    exact g_iret C rfl (Or.inl (⟨r5, w5, h5, rfl, rfl⟩)) (Nat.le_of_ble_eq_true rfl) (Nat.le_of_ble_eq_true rfl) dL_remove_18
abbrev rmL_read : Room := { frames := 9, cells := 12, slots := 500, locals := 167 }
theorem ydL_read : yL_read.cls ≠ "java/lang/invoke/MethodHandle" ∧ yL_read.cls ≠ "java/lang/invoke/VarHandle" ∧ (parseMethodDescriptor yL_read.desc).map (fun d => d.parameters.length) = some 6 := by decide +kernel
set_option maxRecDepth 100000 in
set_option maxHeartbeats 4000000 in
theorem k_L_read (l : Launch) (D : va_G) (cy : Nat → ClassId) (zs : Nat → Nat) (hst : l.stackTraces = false) (a : Nat → Nat) (lab : Nat → Option Nat) (quo : Nat → Nat) (spe : Nat → Nat) (md : Int32) (ed : Option (Nat × Nat)) (lis : Nat → Nat) (lc : Nat) (see : Nat → Nat → Int32) (cnt : Nat → Nat) (Fs : List FT) (hI : CI lab quo spe ed lis lc cnt Fs) (o : Nat) (g : Nat → Int64) (p0 : Int32) (p1 : Int32) (p2 : Int32) (p3 : Int32) : Mi l D cy zs yL_read wsL_read rmL_read [.ref (a 0), .int p0, .int p1, .int p2, .int p3, .ref o] ((wC cy a (zs 0) lab quo spe md ed lis lc see cnt Fs) ++ [((o, .inl (cy 2, 1, .inr (.inl g))) : Nat × va_E)]) (fun r w => (∃ r1 w1, PC_read cy zs a lab quo spe md ed lis lc see cnt Fs p0 p1 p2 p3 r1 w1 ∧ r = nI 0 ∧ w = w1 ++ [((o, .inl (cy 2, 1, .inr (.inl (vp_updL g 0 (r1).toInt64)))) : Nat × va_E)]) ∨ (∃ w1, XC_read cy zs a lab quo spe md ed lis lc see cnt Fs p0 p1 p2 p3 "java/lang/IllegalArgumentException" w1 ∧ r = nI 1 ∧ w = w1 ++ [((o, .inl (cy 2, 1, .inr (.inl g))) : Nat × va_E)])) := by
  refine MiW.of (lv := [(0, .ref (a 0)), (1, .int p0), (2, .int p1), (3, .int p2), (4, .int p3), (5, .ref o)]) RL ⟨by decide, rfl⟩ rfl (Nat.le_of_ble_eq_true rfl) rfl ?_
  intro p e s m args below meth c A C htab
  refine g_aload C dL_read_0 5 rfl ?_
  refine g_iconst (v := nI 0) C dL_read_2 (by decide +kernel) ?_
  refine g_aload_n C dL_read_3 rfl 0 rfl ?_
  refine g_iload_n C dL_read_4 rfl 1 rfl ?_
  refine g_iload_n C dL_read_5 rfl 2 rfl ?_
  refine g_iload_n C dL_read_6 rfl 3 rfl ?_
  refine g_iload C dL_read_7 4 rfl ?_
  refine g_FXVi (ci := 2) (st := [.int (nI 0), .ref o]) C (k_X1_read l D cy zs hst a lab quo spe md ed lis lc see cnt Fs hI p0 p1 p2 p3) gL_read_X1_read rfl ⟨rfl, ydX1_read⟩ 0 rfl rfl ⟨Nat.le_of_ble_eq_true rfl, Nat.le_of_ble_eq_true rfl⟩ ⟨Nat.le_of_ble_eq_true rfl, Nat.le_of_ble_eq_true rfl⟩ rfl (Nat.le_of_ble_eq_true rfl) dL_read_9 (fun E9 w9 h9 => ?_) (fun r9 w9 h9 => ?_)
  · skip
    have hE : E9 = "java/lang/IllegalArgumentException" := h9.2.1
    subst hE
    refine g_catch C [] ⟨0, 14, 17, 13⟩ [] htab (fun z9 h9 => by cases h9) rfl (by decide) (C.hw (List.mem_cons_of_mem _ (List.mem_append_left _ (List.mem_append_left _ (List.mem_append_left _ (List.mem_append_left _ (List.mem_append_left _ (List.mem_of_getElem? (i := 0) rfl)))))))) (va_Nw.use rfl C.2.2.2.2.2.1.2.2.2.2.2.2.1) (fun q9 => ?_)
    refine g_astore (lv' := [(6, .ref q9), (0, .ref (a 0)), (1, .int p0), (2, .int p1), (3, .int p2), (4, .int p3), (5, .ref o)]) C dL_read_17 (by decide) rfl ?_
    refine g_iconst (v := nI 1) C dL_read_19 (by decide +kernel) ?_
    exact g_iret C rfl (Or.inr (⟨w9, h9, rfl, rfl⟩)) (Nat.le_of_ble_eq_true rfl) (Nat.le_of_ble_eq_true rfl) dL_read_20
  · skip
    refine g_i2l (v := (r9).toInt64) C dL_read_12 rfl ?_
    refine g_last (nn := 1) (f := g) (i := nI 0) (ws' := (w9 ++ [((o, .inl (cy 2, 1, .inr (.inl (vp_updL g 0 ((r9).toInt64))))) : Nat × va_E)])) C (w9).length (tl_at rfl) (vp_in_nI (by omega) (by omega)) (by rw [nI_clamp (by omega)]; exact tl_set rfl) dL_read_13 ?_
    refine g_goto (tgt := 21) C dL_read_14 (by decide) ?_
    refine g_iconst (v := nI 0) C dL_read_21 (by decide +kernel) ?_
    exact g_iret C rfl (Or.inl (⟨r9, w9, h9, rfl, rfl⟩)) (Nat.le_of_ble_eq_true rfl) (Nat.le_of_ble_eq_true rfl) dL_read_22
abbrev rmL_size : Room := { frames := 9, cells := 12, slots := 500, locals := 166 }
theorem ydL_size : yL_size.cls ≠ "java/lang/invoke/MethodHandle" ∧ yL_size.cls ≠ "java/lang/invoke/VarHandle" ∧ (parseMethodDescriptor yL_size.desc).map (fun d => d.parameters.length) = some 5 := by decide +kernel
set_option maxRecDepth 100000 in
set_option maxHeartbeats 4000000 in
theorem k_L_size (l : Launch) (D : va_G) (cy : Nat → ClassId) (zs : Nat → Nat) (hst : l.stackTraces = false) (a : Nat → Nat) (lab : Nat → Option Nat) (quo : Nat → Nat) (spe : Nat → Nat) (md : Int32) (ed : Option (Nat × Nat)) (lis : Nat → Nat) (lc : Nat) (see : Nat → Nat → Int32) (cnt : Nat → Nat) (Fs : List FT) (hI : CI lab quo spe ed lis lc cnt Fs) (o : Nat) (g : Nat → Int64) (p0 : Int32) (p1 : Int32) (p2 : Int32) : Mi l D cy zs yL_size wsL_size rmL_size [.ref (a 0), .int p0, .int p1, .int p2, .ref o] ((wC cy a (zs 0) lab quo spe md ed lis lc see cnt Fs) ++ [((o, .inl (cy 2, 1, .inr (.inl g))) : Nat × va_E)]) (fun r w => (∃ r1 w1, PC_size cy zs a lab quo spe md ed lis lc see cnt Fs p0 p1 p2 r1 w1 ∧ r = nI 0 ∧ w = w1 ++ [((o, .inl (cy 2, 1, .inr (.inl (vp_updL g 0 (r1).toInt64)))) : Nat × va_E)]) ∨ (∃ w1, XC_size cy zs a lab quo spe md ed lis lc see cnt Fs p0 p1 p2 "java/lang/IllegalArgumentException" w1 ∧ r = nI 1 ∧ w = w1 ++ [((o, .inl (cy 2, 1, .inr (.inl g))) : Nat × va_E)])) := by
  refine MiW.of (lv := [(0, .ref (a 0)), (1, .int p0), (2, .int p1), (3, .int p2), (4, .ref o)]) RL ⟨by decide, rfl⟩ rfl (Nat.le_of_ble_eq_true rfl) rfl ?_
  intro p e s m args below meth c A C htab
  refine g_aload C dL_size_0 4 rfl ?_
  refine g_iconst (v := nI 0) C dL_size_2 (by decide +kernel) ?_
  refine g_aload_n C dL_size_3 rfl 0 rfl ?_
  refine g_iload_n C dL_size_4 rfl 1 rfl ?_
  refine g_iload_n C dL_size_5 rfl 2 rfl ?_
  refine g_iload_n C dL_size_6 rfl 3 rfl ?_
  refine g_FXVi (ci := 2) (st := [.int (nI 0), .ref o]) C (k_X1_size l D cy zs hst a lab quo spe md ed lis lc see cnt Fs hI p0 p1 p2) gL_size_X1_size rfl ⟨rfl, ydX1_size⟩ 0 rfl rfl ⟨Nat.le_of_ble_eq_true rfl, Nat.le_of_ble_eq_true rfl⟩ ⟨Nat.le_of_ble_eq_true rfl, Nat.le_of_ble_eq_true rfl⟩ rfl (Nat.le_of_ble_eq_true rfl) dL_size_7 (fun E7 w7 h7 => ?_) (fun r7 w7 h7 => ?_)
  · skip
    have hE : E7 = "java/lang/IllegalArgumentException" := h7.2.1
    subst hE
    refine g_catch C [] ⟨0, 12, 15, 13⟩ [] htab (fun z9 h9 => by cases h9) rfl (by decide) (C.hw (List.mem_cons_of_mem _ (List.mem_append_left _ (List.mem_append_left _ (List.mem_append_left _ (List.mem_append_left _ (List.mem_append_left _ (List.mem_of_getElem? (i := 0) rfl)))))))) (va_Nw.use rfl C.2.2.2.2.2.1.2.2.2.2.2.2.1) (fun q9 => ?_)
    refine g_astore (lv' := [(5, .ref q9), (0, .ref (a 0)), (1, .int p0), (2, .int p1), (3, .int p2), (4, .ref o)]) C dL_size_15 (by decide) rfl ?_
    refine g_iconst (v := nI 1) C dL_size_17 (by decide +kernel) ?_
    exact g_iret C rfl (Or.inr (⟨w7, h7, rfl, rfl⟩)) (Nat.le_of_ble_eq_true rfl) (Nat.le_of_ble_eq_true rfl) dL_size_18
  · skip
    refine g_i2l (v := (r7).toInt64) C dL_size_10 rfl ?_
    refine g_last (nn := 1) (f := g) (i := nI 0) (ws' := (w7 ++ [((o, .inl (cy 2, 1, .inr (.inl (vp_updL g 0 ((r7).toInt64))))) : Nat × va_E)])) C (w7).length (tl_at rfl) (vp_in_nI (by omega) (by omega)) (by rw [nI_clamp (by omega)]; exact tl_set rfl) dL_size_11 ?_
    refine g_goto (tgt := 19) C dL_size_12 (by decide) ?_
    refine g_iconst (v := nI 0) C dL_size_19 (by decide +kernel) ?_
    exact g_iret C rfl (Or.inl (⟨r7, w7, h7, rfl, rfl⟩)) (Nat.le_of_ble_eq_true rfl) (Nat.le_of_ble_eq_true rfl) dL_size_20
abbrev rmL_there : Room := { frames := 9, cells := 12, slots := 500, locals := 165 }
theorem ydL_there : yL_there.cls ≠ "java/lang/invoke/MethodHandle" ∧ yL_there.cls ≠ "java/lang/invoke/VarHandle" ∧ (parseMethodDescriptor yL_there.desc).map (fun d => d.parameters.length) = some 5 := by decide +kernel
set_option maxRecDepth 100000 in
set_option maxHeartbeats 4000000 in
theorem k_L_there (l : Launch) (D : va_G) (cy : Nat → ClassId) (zs : Nat → Nat) (hst : l.stackTraces = false) (a : Nat → Nat) (lab : Nat → Option Nat) (quo : Nat → Nat) (spe : Nat → Nat) (md : Int32) (ed : Option (Nat × Nat)) (lis : Nat → Nat) (lc : Nat) (see : Nat → Nat → Int32) (cnt : Nat → Nat) (Fs : List FT) (hI : CI lab quo spe ed lis lc cnt Fs) (o : Nat) (g : Nat → Int64) (p0 : Int32) (p1 : Int32) (p2 : Int32) : Mi l D cy zs yL_there wsL_there rmL_there [.ref (a 0), .int p0, .int p1, .int p2, .ref o] ((wC cy a (zs 0) lab quo spe md ed lis lc see cnt Fs) ++ [((o, .inl (cy 2, 1, .inr (.inl g))) : Nat × va_E)]) (fun r w => (∃ r1 w1, PC_there cy zs a lab quo spe md ed lis lc see cnt Fs p0 p1 p2 r1 w1 ∧ r = nI 0 ∧ w = w1 ++ [((o, .inl (cy 2, 1, .inr (.inl (vp_updL g 0 (r1).toInt64)))) : Nat × va_E)]) ∨ (∃ w1, XC_there cy zs a lab quo spe md ed lis lc see cnt Fs p0 p1 p2 "java/lang/IllegalArgumentException" w1 ∧ r = nI 1 ∧ w = w1 ++ [((o, .inl (cy 2, 1, .inr (.inl g))) : Nat × va_E)])) := by
  refine MiW.of (lv := [(0, .ref (a 0)), (1, .int p0), (2, .int p1), (3, .int p2), (4, .ref o)]) RL ⟨by decide, rfl⟩ rfl (Nat.le_of_ble_eq_true rfl) rfl ?_
  intro p e s m args below meth c A C htab
  refine g_aload C dL_there_0 4 rfl ?_
  refine g_iconst (v := nI 0) C dL_there_2 (by decide +kernel) ?_
  refine g_aload_n C dL_there_3 rfl 0 rfl ?_
  refine g_iload_n C dL_there_4 rfl 1 rfl ?_
  refine g_iload_n C dL_there_5 rfl 2 rfl ?_
  refine g_iload_n C dL_there_6 rfl 3 rfl ?_
  refine g_FXVi (ci := 2) (st := [.int (nI 0), .ref o]) C (k_X1_there l D cy zs hst a lab quo spe md ed lis lc see cnt Fs hI p0 p1 p2) gL_there_X1_there rfl ⟨rfl, ydX1_there⟩ 0 rfl rfl ⟨Nat.le_of_ble_eq_true rfl, Nat.le_of_ble_eq_true rfl⟩ ⟨Nat.le_of_ble_eq_true rfl, Nat.le_of_ble_eq_true rfl⟩ rfl (Nat.le_of_ble_eq_true rfl) dL_there_7 (fun E7 w7 h7 => ?_) (fun r7 w7 h7 => ?_)
  · skip
    have hE : E7 = "java/lang/IllegalArgumentException" := h7.2.1
    subst hE
    refine g_catch C [] ⟨0, 12, 15, 13⟩ [] htab (fun z9 h9 => by cases h9) rfl (by decide) (C.hw (List.mem_cons_of_mem _ (List.mem_append_left _ (List.mem_append_left _ (List.mem_append_left _ (List.mem_append_left _ (List.mem_append_left _ (List.mem_of_getElem? (i := 0) rfl)))))))) (va_Nw.use rfl C.2.2.2.2.2.1.2.2.2.2.2.2.1) (fun q9 => ?_)
    refine g_astore (lv' := [(5, .ref q9), (0, .ref (a 0)), (1, .int p0), (2, .int p1), (3, .int p2), (4, .ref o)]) C dL_there_15 (by decide) rfl ?_
    refine g_iconst (v := nI 1) C dL_there_17 (by decide +kernel) ?_
    exact g_iret C rfl (Or.inr (⟨w7, h7, rfl, rfl⟩)) (Nat.le_of_ble_eq_true rfl) (Nat.le_of_ble_eq_true rfl) dL_there_18
  · skip
    refine g_i2l (v := (r7).toInt64) C dL_there_10 rfl ?_
    refine g_last (nn := 1) (f := g) (i := nI 0) (ws' := (w7 ++ [((o, .inl (cy 2, 1, .inr (.inl (vp_updL g 0 ((r7).toInt64))))) : Nat × va_E)])) C (w7).length (tl_at rfl) (vp_in_nI (by omega) (by omega)) (by rw [nI_clamp (by omega)]; exact tl_set rfl) dL_there_11 ?_
    refine g_goto (tgt := 19) C dL_there_12 (by decide) ?_
    refine g_iconst (v := nI 0) C dL_there_19 (by decide +kernel) ?_
    exact g_iret C rfl (Or.inl (⟨r7, w7, h7, rfl, rfl⟩)) (Nat.le_of_ble_eq_true rfl) (Nat.le_of_ble_eq_true rfl) dL_there_20
abbrev rmL_listed : Room := { frames := 9, cells := 12, slots := 500, locals := 165 }
theorem ydL_listed : yL_listed.cls ≠ "java/lang/invoke/MethodHandle" ∧ yL_listed.cls ≠ "java/lang/invoke/VarHandle" ∧ (parseMethodDescriptor yL_listed.desc).map (fun d => d.parameters.length) = some 5 := by decide +kernel
set_option maxRecDepth 100000 in
set_option maxHeartbeats 4000000 in
theorem k_L_listed (l : Launch) (D : va_G) (cy : Nat → ClassId) (zs : Nat → Nat) (hst : l.stackTraces = false) (a : Nat → Nat) (lab : Nat → Option Nat) (quo : Nat → Nat) (spe : Nat → Nat) (md : Int32) (ed : Option (Nat × Nat)) (lis : Nat → Nat) (lc : Nat) (see : Nat → Nat → Int32) (cnt : Nat → Nat) (Fs : List FT) (hI : CI lab quo spe ed lis lc cnt Fs) (o : Nat) (g : Nat → Int64) (p0 : Int32) (p1 : Int32) (p2 : Int32) : Mi l D cy zs yL_listed wsL_listed rmL_listed [.ref (a 0), .int p0, .int p1, .int p2, .ref o] ((wC cy a (zs 0) lab quo spe md ed lis lc see cnt Fs) ++ [((o, .inl (cy 2, 1, .inr (.inl g))) : Nat × va_E)]) (fun r w => (∃ r1 w1, PC_listed cy zs a lab quo spe md ed lis lc see cnt Fs p0 p1 p2 r1 w1 ∧ r = nI 0 ∧ w = w1 ++ [((o, .inl (cy 2, 1, .inr (.inl (vp_updL g 0 (r1).toInt64)))) : Nat × va_E)]) ∨ (∃ w1, XC_listed cy zs a lab quo spe md ed lis lc see cnt Fs p0 p1 p2 "java/lang/IllegalArgumentException" w1 ∧ r = nI 1 ∧ w = w1 ++ [((o, .inl (cy 2, 1, .inr (.inl g))) : Nat × va_E)])) := by
  refine MiW.of (lv := [(0, .ref (a 0)), (1, .int p0), (2, .int p1), (3, .int p2), (4, .ref o)]) RL ⟨by decide, rfl⟩ rfl (Nat.le_of_ble_eq_true rfl) rfl ?_
  intro p e s m args below meth c A C htab
  refine g_aload C dL_listed_0 4 rfl ?_
  refine g_iconst (v := nI 0) C dL_listed_2 (by decide +kernel) ?_
  refine g_aload_n C dL_listed_3 rfl 0 rfl ?_
  refine g_iload_n C dL_listed_4 rfl 1 rfl ?_
  refine g_iload_n C dL_listed_5 rfl 2 rfl ?_
  refine g_iload_n C dL_listed_6 rfl 3 rfl ?_
  refine g_FXVi (ci := 2) (st := [.int (nI 0), .ref o]) C (k_X1_listed l D cy zs hst a lab quo spe md ed lis lc see cnt Fs hI p0 p1 p2) gL_listed_X1_listed rfl ⟨rfl, ydX1_listed⟩ 0 rfl rfl ⟨Nat.le_of_ble_eq_true rfl, Nat.le_of_ble_eq_true rfl⟩ ⟨Nat.le_of_ble_eq_true rfl, Nat.le_of_ble_eq_true rfl⟩ rfl (Nat.le_of_ble_eq_true rfl) dL_listed_7 (fun E7 w7 h7 => ?_) (fun r7 w7 h7 => ?_)
  · skip
    have hE : E7 = "java/lang/IllegalArgumentException" := h7.2.1
    subst hE
    refine g_catch C [] ⟨0, 12, 15, 13⟩ [] htab (fun z9 h9 => by cases h9) rfl (by decide) (C.hw (List.mem_cons_of_mem _ (List.mem_append_left _ (List.mem_append_left _ (List.mem_append_left _ (List.mem_append_left _ (List.mem_append_left _ (List.mem_of_getElem? (i := 0) rfl)))))))) (va_Nw.use rfl C.2.2.2.2.2.1.2.2.2.2.2.2.1) (fun q9 => ?_)
    refine g_astore (lv' := [(5, .ref q9), (0, .ref (a 0)), (1, .int p0), (2, .int p1), (3, .int p2), (4, .ref o)]) C dL_listed_15 (by decide) rfl ?_
    refine g_iconst (v := nI 1) C dL_listed_17 (by decide +kernel) ?_
    exact g_iret C rfl (Or.inr (⟨w7, h7, rfl, rfl⟩)) (Nat.le_of_ble_eq_true rfl) (Nat.le_of_ble_eq_true rfl) dL_listed_18
  · skip
    refine g_i2l (v := (r7).toInt64) C dL_listed_10 rfl ?_
    refine g_last (nn := 1) (f := g) (i := nI 0) (ws' := (w7 ++ [((o, .inl (cy 2, 1, .inr (.inl (vp_updL g 0 ((r7).toInt64))))) : Nat × va_E)])) C (w7).length (tl_at rfl) (vp_in_nI (by omega) (by omega)) (by rw [nI_clamp (by omega)]; exact tl_set rfl) dL_listed_11 ?_
    refine g_goto (tgt := 19) C dL_listed_12 (by decide) ?_
    refine g_iconst (v := nI 0) C dL_listed_19 (by decide +kernel) ?_
    exact g_iret C rfl (Or.inl (⟨r7, w7, h7, rfl, rfl⟩)) (Nat.le_of_ble_eq_true rfl) (Nat.le_of_ble_eq_true rfl) dL_listed_20
abbrev rmL_release : Room := { frames := 9, cells := 12, slots := 500, locals := 245 }
theorem ydL_release : yL_release.cls ≠ "java/lang/invoke/MethodHandle" ∧ yL_release.cls ≠ "java/lang/invoke/VarHandle" ∧ (parseMethodDescriptor yL_release.desc).map (fun d => d.parameters.length) = some 6 := by decide +kernel
set_option maxRecDepth 100000 in
set_option maxHeartbeats 4000000 in
theorem k_L_release (l : Launch) (D : va_G) (cy : Nat → ClassId) (zs : Nat → Nat) (hst : l.stackTraces = false) (a : Nat → Nat) (lab : Nat → Option Nat) (quo : Nat → Nat) (spe : Nat → Nat) (md : Int32) (ed : Option (Nat × Nat)) (lis : Nat → Nat) (lc : Nat) (see : Nat → Nat → Int32) (cnt : Nat → Nat) (Fs : List FT) (hI : CI lab quo spe ed lis lc cnt Fs) (o : Nat) (g : Nat → Int64) (p0 : Int32) (p1 : Int32) (p2 : Int32) (p3 : Int32) (hne : ∀ S L T, isC lis lc ((((S * 1024) + L) * 1024) + T) = true → L < 1024 → T < 1024 → ¬ L = T) : Mi l D cy zs yL_release wsL_release rmL_release [.ref (a 0), .int p0, .int p1, .int p2, .int p3, .ref o] ((wC cy a (zs 0) lab quo spe md ed lis lc see cnt Fs) ++ [((o, .inl (cy 2, 1, .inr (.inl g))) : Nat × va_E)]) (fun r w => (∃ r1 w1, PC_release cy zs a lab quo spe md ed lis lc see cnt Fs p0 p1 p2 p3 r1 w1 ∧ r = nI 0 ∧ w = w1 ++ [((o, .inl (cy 2, 1, .inr (.inl (vp_updL g 0 (r1).toInt64)))) : Nat × va_E)]) ∨ (∃ w1, XC_release cy zs a lab quo spe md ed lis lc see cnt Fs p0 p1 p2 p3 "java/lang/IllegalArgumentException" w1 ∧ r = nI 1 ∧ w = w1 ++ [((o, .inl (cy 2, 1, .inr (.inl g))) : Nat × va_E)]) ∨ (∃ w1, XC_release cy zs a lab quo spe md ed lis lc see cnt Fs p0 p1 p2 p3 "java/lang/UnsupportedOperationException" w1 ∧ r = nI 2 ∧ w = w1 ++ [((o, .inl (cy 2, 1, .inr (.inl g))) : Nat × va_E)])) := by
  refine MiW.of (lv := [(0, .ref (a 0)), (1, .int p0), (2, .int p1), (3, .int p2), (4, .int p3), (5, .ref o)]) RL ⟨by decide, rfl⟩ rfl (Nat.le_of_ble_eq_true rfl) rfl ?_
  intro p e s m args below meth c A C htab
  refine g_aload C dL_release_0 5 rfl ?_
  refine g_iconst (v := nI 0) C dL_release_2 (by decide +kernel) ?_
  refine g_aload_n C dL_release_3 rfl 0 rfl ?_
  refine g_iload_n C dL_release_4 rfl 1 rfl ?_
  refine g_iload_n C dL_release_5 rfl 2 rfl ?_
  refine g_iload_n C dL_release_6 rfl 3 rfl ?_
  refine g_iload C dL_release_7 4 rfl ?_
  refine g_FXVi (ci := 2) (st := [.int (nI 0), .ref o]) C (k_X1_release l D cy zs hst a lab quo spe md ed lis lc see cnt Fs hI p0 p1 p2 p3 hne) gL_release_X1_release rfl ⟨rfl, ydX1_release⟩ 0 rfl rfl ⟨Nat.le_of_ble_eq_true rfl, Nat.le_of_ble_eq_true rfl⟩ ⟨Nat.le_of_ble_eq_true rfl, Nat.le_of_ble_eq_true rfl⟩ rfl (Nat.le_of_ble_eq_true rfl) dL_release_9 (fun E9 w9 h9 => ?_) (fun r9 w9 h9 => ?_)
  · skip
    have hE : E9 = "java/lang/IllegalArgumentException" ∨ E9 = "java/lang/UnsupportedOperationException" := by rcases h9 with h9 | h9; exact Or.inl h9.2.1; exact Or.inr h9.1
    rcases hE with hE | hE <;> subst hE
    · skip
      refine g_catch C [] ⟨0, 14, 17, 13⟩ [⟨0, 14, 21, 23⟩] htab (fun z9 h9 => by cases h9) rfl (by decide) (C.hw (List.mem_cons_of_mem _ (List.mem_append_left _ (List.mem_append_left _ (List.mem_append_left _ (List.mem_append_left _ (List.mem_append_left _ (List.mem_append_left _ (List.mem_of_getElem? (i := 0) rfl))))))))) (va_Nw.use rfl C.2.2.2.2.2.1.2.2.2.2.2.2.1) (fun q9 => ?_)
      refine g_astore (lv' := [(6, .ref q9), (0, .ref (a 0)), (1, .int p0), (2, .int p1), (3, .int p2), (4, .int p3), (5, .ref o)]) C dL_release_17 (by decide) rfl ?_
      refine g_iconst (v := nI 1) C dL_release_19 (by decide +kernel) ?_
      exact g_iret C rfl (Or.inr (Or.inl (⟨w9, h9, rfl, rfl⟩))) (Nat.le_of_ble_eq_true rfl) (Nat.le_of_ble_eq_true rfl) dL_release_20
    · skip
      refine g_catch C [⟨0, 14, 17, 13⟩] ⟨0, 14, 21, 23⟩ [] htab (fun z9 h9 => by rw [List.mem_singleton] at h9; subst h9; exact Or.inr ⟨by decide, _, (C.hw (List.mem_cons_of_mem _ (List.mem_append_left _ (List.mem_append_left _ (List.mem_append_left _ (List.mem_append_left _ (List.mem_append_left _ (List.mem_append_left _ (List.mem_of_getElem? (i := 0) rfl))))))))), C.2.2.2.2.2.1.2.2.2.2.2.2.2.2.2.2.2⟩) rfl (by decide) (C.hw (List.mem_cons_of_mem _ (List.mem_append_left _ (List.mem_append_left _ (List.mem_append_left _ (List.mem_append_left _ (List.mem_append_left _ (List.mem_append_left _ (List.mem_of_getElem? (i := 1) rfl))))))))) (va_Nw.use rfl C.2.2.2.2.2.1.2.2.2.2.2.2.2.1) (fun q9 => ?_)
      refine g_astore (lv' := [(6, .ref q9), (0, .ref (a 0)), (1, .int p0), (2, .int p1), (3, .int p2), (4, .int p3), (5, .ref o)]) C dL_release_21 (by decide) rfl ?_
      refine g_iconst (v := nI 2) C dL_release_23 (by decide +kernel) ?_
      exact g_iret C rfl (Or.inr (Or.inr (⟨w9, h9, rfl, rfl⟩))) (Nat.le_of_ble_eq_true rfl) (Nat.le_of_ble_eq_true rfl) dL_release_24
  · skip
    refine g_i2l (v := (r9).toInt64) C dL_release_12 rfl ?_
    refine g_last (nn := 1) (f := g) (i := nI 0) (ws' := (w9 ++ [((o, .inl (cy 2, 1, .inr (.inl (vp_updL g 0 ((r9).toInt64))))) : Nat × va_E)])) C (w9).length (tl_at rfl) (vp_in_nI (by omega) (by omega)) (by rw [nI_clamp (by omega)]; exact tl_set rfl) dL_release_13 ?_
    refine g_goto (tgt := 25) C dL_release_14 (by decide) ?_
    refine g_iconst (v := nI 0) C dL_release_25 (by decide +kernel) ?_
    exact g_iret C rfl (Or.inl (⟨r9, w9, h9, rfl, rfl⟩)) (Nat.le_of_ble_eq_true rfl) (Nat.le_of_ble_eq_true rfl) dL_release_26
abbrev rmL_seen : Room := { frames := 8, cells := 12, slots := 500, locals := 142 }
theorem ydL_seen : yL_seen.cls ≠ "java/lang/invoke/MethodHandle" ∧ yL_seen.cls ≠ "java/lang/invoke/VarHandle" ∧ (parseMethodDescriptor yL_seen.desc).map (fun d => d.parameters.length) = some 4 := by decide +kernel
set_option maxRecDepth 100000 in
set_option maxHeartbeats 4000000 in
theorem k_L_seen (l : Launch) (D : va_G) (cy : Nat → ClassId) (zs : Nat → Nat) (hst : l.stackTraces = false) (a : Nat → Nat) (lab : Nat → Option Nat) (quo : Nat → Nat) (spe : Nat → Nat) (md : Int32) (ed : Option (Nat × Nat)) (lis : Nat → Nat) (lc : Nat) (see : Nat → Nat → Int32) (cnt : Nat → Nat) (Fs : List FT) (hI : CI lab quo spe ed lis lc cnt Fs) (o : Nat) (g : Nat → Int64) (p0 : Int32) (p1 : Int32) : Mi l D cy zs yL_seen wsL_seen rmL_seen [.ref (a 0), .int p0, .int p1, .ref o] ((wC cy a (zs 0) lab quo spe md ed lis lc see cnt Fs) ++ [((o, .inl (cy 2, 1, .inr (.inl g))) : Nat × va_E)]) (fun r w => (∃ r1 w1, PC_seen cy zs a lab quo spe md ed lis lc see cnt Fs p0 p1 r1 w1 ∧ r = nI 0 ∧ w = w1 ++ [((o, .inl (cy 2, 1, .inr (.inl (vp_updL g 0 (r1).toInt64)))) : Nat × va_E)]) ∨ (∃ w1, XC_seen cy zs a lab quo spe md ed lis lc see cnt Fs p0 p1 "java/lang/IllegalArgumentException" w1 ∧ r = nI 1 ∧ w = w1 ++ [((o, .inl (cy 2, 1, .inr (.inl g))) : Nat × va_E)])) := by
  refine MiW.of (lv := [(0, .ref (a 0)), (1, .int p0), (2, .int p1), (3, .ref o)]) RL ⟨by decide, rfl⟩ rfl (Nat.le_of_ble_eq_true rfl) rfl ?_
  intro p e s m args below meth c A C htab
  refine g_aload_n C dL_seen_0 rfl 3 rfl ?_
  refine g_iconst (v := nI 0) C dL_seen_1 (by decide +kernel) ?_
  refine g_aload_n C dL_seen_2 rfl 0 rfl ?_
  refine g_iload_n C dL_seen_3 rfl 1 rfl ?_
  refine g_iload_n C dL_seen_4 rfl 2 rfl ?_
  refine g_FXVi (ci := 2) (st := [.int (nI 0), .ref o]) C (k_X1_seen l D cy zs hst a lab quo spe md ed lis lc see cnt Fs hI p0 p1) gL_seen_X1_seen rfl ⟨rfl, ydX1_seen⟩ 0 rfl rfl ⟨Nat.le_of_ble_eq_true rfl, Nat.le_of_ble_eq_true rfl⟩ ⟨Nat.le_of_ble_eq_true rfl, Nat.le_of_ble_eq_true rfl⟩ rfl (Nat.le_of_ble_eq_true rfl) dL_seen_5 (fun E5 w5 h5 => ?_) (fun r5 w5 h5 => ?_)
  · skip
    have hE : E5 = "java/lang/IllegalArgumentException" := h5.2.1
    subst hE
    refine g_catch C [] ⟨0, 10, 13, 13⟩ [] htab (fun z9 h9 => by cases h9) rfl (by decide) (C.hw (List.mem_cons_of_mem _ (List.mem_append_left _ (List.mem_append_left _ (List.mem_of_getElem? (i := 0) rfl))))) (va_Nw.use rfl C.2.2.2.2.2.1.2.2.2.2.2.2.1) (fun q9 => ?_)
    refine g_astore (lv' := [(4, .ref q9), (0, .ref (a 0)), (1, .int p0), (2, .int p1), (3, .ref o)]) C dL_seen_13 (by decide) rfl ?_
    refine g_iconst (v := nI 1) C dL_seen_15 (by decide +kernel) ?_
    exact g_iret C rfl (Or.inr (⟨w5, h5, rfl, rfl⟩)) (Nat.le_of_ble_eq_true rfl) (Nat.le_of_ble_eq_true rfl) dL_seen_16
  · skip
    refine g_i2l (v := (r5).toInt64) C dL_seen_8 rfl ?_
    refine g_last (nn := 1) (f := g) (i := nI 0) (ws' := (w5 ++ [((o, .inl (cy 2, 1, .inr (.inl (vp_updL g 0 ((r5).toInt64))))) : Nat × va_E)])) C (w5).length (tl_at rfl) (vp_in_nI (by omega) (by omega)) (by rw [nI_clamp (by omega)]; exact tl_set rfl) dL_seen_9 ?_
    refine g_goto (tgt := 17) C dL_seen_10 (by decide) ?_
    refine g_iconst (v := nI 0) C dL_seen_17 (by decide +kernel) ?_
    exact g_iret C rfl (Or.inl (⟨r5, w5, h5, rfl, rfl⟩)) (Nat.le_of_ble_eq_true rfl) (Nat.le_of_ble_eq_true rfl) dL_seen_18
abbrev rmL_told : Room := { frames := 8, cells := 12, slots := 500, locals := 142 }
theorem ydL_told : yL_told.cls ≠ "java/lang/invoke/MethodHandle" ∧ yL_told.cls ≠ "java/lang/invoke/VarHandle" ∧ (parseMethodDescriptor yL_told.desc).map (fun d => d.parameters.length) = some 4 := by decide +kernel
set_option maxRecDepth 100000 in
set_option maxHeartbeats 4000000 in
theorem k_L_told (l : Launch) (D : va_G) (cy : Nat → ClassId) (zs : Nat → Nat) (hst : l.stackTraces = false) (a : Nat → Nat) (lab : Nat → Option Nat) (quo : Nat → Nat) (spe : Nat → Nat) (md : Int32) (ed : Option (Nat × Nat)) (lis : Nat → Nat) (lc : Nat) (see : Nat → Nat → Int32) (cnt : Nat → Nat) (Fs : List FT) (hI : CI lab quo spe ed lis lc cnt Fs) (o : Nat) (g : Nat → Int64) (p0 : Int32) (p1 : Int32) : Mi l D cy zs yL_told wsL_told rmL_told [.ref (a 0), .int p0, .int p1, .ref o] ((wC cy a (zs 0) lab quo spe md ed lis lc see cnt Fs) ++ [((o, .inl (cy 2, 1, .inr (.inl g))) : Nat × va_E)]) (fun r w => (∃ r1 w1, PC_told cy zs a lab quo spe md ed lis lc see cnt Fs p0 p1 r1 w1 ∧ r = nI 0 ∧ w = w1 ++ [((o, .inl (cy 2, 1, .inr (.inl (vp_updL g 0 (r1).toInt64)))) : Nat × va_E)]) ∨ (∃ w1, XC_told cy zs a lab quo spe md ed lis lc see cnt Fs p0 p1 "java/lang/IllegalArgumentException" w1 ∧ r = nI 1 ∧ w = w1 ++ [((o, .inl (cy 2, 1, .inr (.inl g))) : Nat × va_E)])) := by
  refine MiW.of (lv := [(0, .ref (a 0)), (1, .int p0), (2, .int p1), (3, .ref o)]) RL ⟨by decide, rfl⟩ rfl (Nat.le_of_ble_eq_true rfl) rfl ?_
  intro p e s m args below meth c A C htab
  refine g_aload_n C dL_told_0 rfl 3 rfl ?_
  refine g_iconst (v := nI 0) C dL_told_1 (by decide +kernel) ?_
  refine g_aload_n C dL_told_2 rfl 0 rfl ?_
  refine g_iload_n C dL_told_3 rfl 1 rfl ?_
  refine g_iload_n C dL_told_4 rfl 2 rfl ?_
  refine g_FXVi (ci := 2) (st := [.int (nI 0), .ref o]) C (k_X1_told l D cy zs hst a lab quo spe md ed lis lc see cnt Fs hI p0 p1) gL_told_X1_told rfl ⟨rfl, ydX1_told⟩ 0 rfl rfl ⟨Nat.le_of_ble_eq_true rfl, Nat.le_of_ble_eq_true rfl⟩ ⟨Nat.le_of_ble_eq_true rfl, Nat.le_of_ble_eq_true rfl⟩ rfl (Nat.le_of_ble_eq_true rfl) dL_told_5 (fun E5 w5 h5 => ?_) (fun r5 w5 h5 => ?_)
  · skip
    have hE : E5 = "java/lang/IllegalArgumentException" := h5.2.1
    subst hE
    refine g_catch C [] ⟨0, 10, 13, 13⟩ [] htab (fun z9 h9 => by cases h9) rfl (by decide) (C.hw (List.mem_cons_of_mem _ (List.mem_append_left _ (List.mem_append_left _ (List.mem_append_left _ (List.mem_append_left _ (List.mem_append_left _ (List.mem_of_getElem? (i := 0) rfl)))))))) (va_Nw.use rfl C.2.2.2.2.2.1.2.2.2.2.2.2.1) (fun q9 => ?_)
    refine g_astore (lv' := [(4, .ref q9), (0, .ref (a 0)), (1, .int p0), (2, .int p1), (3, .ref o)]) C dL_told_13 (by decide) rfl ?_
    refine g_iconst (v := nI 1) C dL_told_15 (by decide +kernel) ?_
    exact g_iret C rfl (Or.inr (⟨w5, h5, rfl, rfl⟩)) (Nat.le_of_ble_eq_true rfl) (Nat.le_of_ble_eq_true rfl) dL_told_16
  · skip
    refine g_i2l (v := (r5).toInt64) C dL_told_8 rfl ?_
    refine g_last (nn := 1) (f := g) (i := nI 0) (ws' := (w5 ++ [((o, .inl (cy 2, 1, .inr (.inl (vp_updL g 0 ((r5).toInt64))))) : Nat × va_E)])) C (w5).length (tl_at rfl) (vp_in_nI (by omega) (by omega)) (by rw [nI_clamp (by omega)]; exact tl_set rfl) dL_told_9 ?_
    refine g_goto (tgt := 17) C dL_told_10 (by decide) ?_
    refine g_iconst (v := nI 0) C dL_told_17 (by decide +kernel) ?_
    exact g_iret C rfl (Or.inl (⟨r5, w5, h5, rfl, rfl⟩)) (Nat.le_of_ble_eq_true rfl) (Nat.le_of_ble_eq_true rfl) dL_told_18
