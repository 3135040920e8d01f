section BASE2
variable {p : Program} {l : Launch} {e : Env} {R : Room} {s : State} {m : MethodId} {args : Array Value} {below : List Frame} {meth : Method} {c : Code} {cc : ByteArray} {nL : Nat} {own : String} {Ts : List Cond} {D : va_G} {cy : Nat → ClassId} {zs : Nat → Nat} {A : Nat → Prop} {ret : Option FieldType} {Q : State → Prop} {ws : va_W} {k n : Nat} {lv : List (Nat × Value)} {pc : Nat} {st : List Value}
theorem g_gets (C : Cx p s m args meth c cc nL own Ts D cy zs A ret) {i : Nat} (hlink : (Cond.fieldLink own i "java/util/ArrayList" "DEFAULTCAPACITY_EMPTY_ELEMENTDATA" "[Ljava/lang/Object;").before args s = true) (hdg : decode cc pc = .ok (.getstatic i, 3)) (K : GG p l e R s m args below meth c D A nL Q ws k n lv (pc + 3) (.ref (zs 0) :: st)) : GG p l e R s m args below meth c D A nL Q ws k n lv (pc) (st) := fun H locs ls hP hD hS hl => va_gets C.1.1 C.1.2.1 C.2.2.2.2.2.2.1 hS C.1.2.2.2.1 hlink (fun _ h9 => h9) hdg (K H locs ls hP hD hS hl)
theorem g_tlen (C : Cx p s m args meth c cc nL own Ts D cy zs A ret) (hdg : decode cc pc = .ok (.arraylength, 1)) (K : GG p l e R s m args below meth c D A nL Q ws k n lv (pc + 1) (.int (nI 0) :: st)) : GG p l e R s m args below meth c D A nL Q ws k n lv (pc) (.ref (zs 0) :: st) := fun H locs ls hP hD hS hl => va_tlen C.1.1 C.1.2.1 C.2.2.2.2.2.2.2.1 hS rfl hdg (K H locs ls hP hD hS hl)
theorem g_max (C : Cx p s m args meth c cc nL own Ts D cy zs A ret) {i : Nat} {x y v : Int32} (hlink : (Cond.methodLink own i Lib.Math.max.name).before args s = true) (hstat : (Cond.static Lib.Math.max.name).before args s = true) (hini : (Cond.initialized "java/lang/Math").before args s = true) (hcode : (Cond.code Lib.Math.max.name Lib.Math.max.code 2 (some .int)).before args s = true) (hf : 1 ≤ R.frames) (hlo : (st.map fun v => v.category).sum + 13 ≤ R.locals) (hc : k ≤ R.cells) (hs : n ≤ R.slots) (hv : (if x < y then y else x) = v) (hdg : decode cc pc = .ok (.invokestatic i, 3)) (K : GG p l e R s m args below meth c D A nL Q ws k n lv (pc + 3) (.int v :: st)) : GG p l e R s m args below meth c D A nL Q ws k n lv (pc) (.int y :: .int x :: st) := fun H locs ls hP hD hS hl => va_mmax C.1.1 C.1.2.1 (by rw [C.1.2.2.1]; exact hl.1.symm) C.1.2.2.2.1 hlink hstat hini hcode hf hlo hc hs hdg (hv ▸ K H locs ls hP hD hS hl)
theorem g_min (C : Cx p s m args meth c cc nL own Ts D cy zs A ret) {i : Nat} {x y v : Int32} (hlink : (Cond.methodLink own i Lib.Math.min.name).before args s = true) (hstat : (Cond.static Lib.Math.min.name).before args s = true) (hini : (Cond.initialized "java/lang/Math").before args s = true) (hcode : (Cond.code Lib.Math.min.name Lib.Math.min.code 2 (some .int)).before args s = true) (hf : 1 ≤ R.frames) (hlo : (st.map fun v => v.category).sum + 13 ≤ R.locals) (hc : k ≤ R.cells) (hs : n ≤ R.slots) (hv : (if y < x then y else x) = v) (hdg : decode cc pc = .ok (.invokestatic i, 3)) (K : GG p l e R s m args below meth c D A nL Q ws k n lv (pc + 3) (.int v :: st)) : GG p l e R s m args below meth c D A nL Q ws k n lv (pc) (.int y :: .int x :: st) := fun H locs ls hP hD hS hl => va_mmin C.1.1 C.1.2.1 (by rw [C.1.2.2.1]; exact hl.1.symm) C.1.2.2.2.1 hlink hstat hini hcode hf hlo hc hs hdg (hv ▸ K H locs ls hP hD hS hl)
theorem g_ldcM (C : Cx p s m args meth c cc nL own Ts D cy zs A ret) {i : Nat} (hlink : (Cond.classLink own i "[Ljava/lang/Object;").before args s = true) (hdg : decode cc pc = .ok (.ldc i, 2)) (K : GG p l e R s m args below meth c D A nL Q ws k n lv (pc + 2) (.ref (zs 1) :: st)) : GG p l e R s m args below meth c D A nL Q ws k n lv (pc) (st) := fun H locs ls hP hD hS hl => va_ldcM C.1.1 C.1.2.1 C.1.2.2.2.1 hlink C.2.2.2.2.2.1.2.2.2.1 hdg (K H locs ls hP hD hS hl)
theorem g_getC (C : Cx p s m args meth c cc nL own Ts D cy zs A ret) {i a nn : Nat} {f : Nat → Option Nat} (q0 : Nat) (ha : ws[q0]? = some (a, .inl (cy 3, nn, .inr (.inr (.inr (.inr f)))))) (hlink : (Cond.methodLink own i ⟨"java/lang/Object", "getClass", "()Ljava/lang/Class;"⟩).before args s = true) (hsel : (Cond.selects "[Ljava/lang/Object;" ⟨"java/lang/Object", "getClass", "()Ljava/lang/Class;"⟩ ⟨"java/lang/Object", "getClass", "()Ljava/lang/Class;"⟩).before args s = true) (hinst : (Cond.instanceMethod ⟨"java/lang/Object", "getClass", "()Ljava/lang/Class;"⟩).before args s = true) (hnat : (Cond.native ⟨"java/lang/Object", "getClass", "()Ljava/lang/Class;"⟩).before args s = true) (hf : 1 ≤ R.frames) (hlo : (st.map fun v => v.category).sum + 14 ≤ R.locals) (hdg : decode cc pc = .ok (.invokevirtual i, 3)) (K : GG p l e R s m args below meth c D A nL Q ws k n lv (pc + 3) (.ref (zs 1) :: st)) : GG p l e R s m args below meth c D A nL Q ws k n lv (pc) (.ref a :: st) := by
  intro H locs ls hP hD hS hl
  have hcl : s.vm.findClass "[Ljava/lang/Object;" = some (cy 3) := va_nmO (C.2.1.2 3 _ rfl).2 (by decide +kernel)
  exact va_getC C.1.1 C.1.2.1 (by rw [C.1.2.2.1]; exact hl.1.symm) C.1.2.2.2.1 hlink C.2.2.2.2.2.1.2.2.2.2.1.use hsel hinst hnat C.2.2.2.2.2.1.2.2.2.1 ⟨_, hP q0 _ ha, rfl, hcl⟩ hf hlo hdg (K H locs ls hP hD hS hl)
/-- at y stands a file's object -/
def isF (ws : va_W) (y : Nat) : Prop := ∃ (p : Nat) (vs : List Value), ws[p]? = some (y, .inr (1, vs))
theorem isF.set {ws : va_W} {y j a : Nat} {z z' : va_E} (h : isF ws y) (hj : ws[j]? = some (a, z)) (hz : ∀ vs, ¬ z = .inr (1, vs)) : isF (ws.set j (a, z')) y := by
  obtain ⟨p, vs, hp⟩ := h
  refine ⟨p, vs, ?_⟩
  by_cases e : j = p
  · subst e
    rw [hp] at hj
    cases hj
    exact absurd rfl (hz vs)
  · rw [List.getElem?_set_ne e]
    exact hp
theorem isF.app {ws X : va_W} {y : Nat} (h : isF ws y) : isF (ws ++ X) y := by
  obtain ⟨p, vs, hp⟩ := h
  exact ⟨p, vs, by rw [List.getElem?_append_left (List.getElem?_eq_some_iff.mp hp).1]; exact hp⟩
theorem g_copyq (C : Cx p s m args meth c cc nL own Ts D cy zs A ret) {i a0 a n0 n1 sp dp z : Nat} {f g : Nat → Option Nat} {ws' : va_W} (q0 q1 : Nat) (ha0 : ws[q0]? = some (a0, .inl (cy 3, n0, .inr (.inr (.inr (.inr f)))))) (ha1 : ws[q1]? = some (a, .inl (cy 3, n1, .inr (.inr (.inr (.inr g)))))) (hlink : (Cond.methodLink own i arraycopyName).before args s = true) (hnat : (Cond.native arraycopyName).before args s = true) (hstat : (Cond.static arraycopyName).before args s = true) (hini : (Cond.initialized "java/lang/System").before args s = true) (h1 : sp < 2 ^ 31) (h2 : dp < 2 ^ 31) (h3 : z < 2 ^ 31) (h4 : sp + z ≤ n0) (h5 : dp + z ≤ n1) (hel : ∀ j, j < z → ∀ y : Nat, f (sp + j) = some y → isF ws y) (hca : va_Nw (.castable RX0 "java/lang/Object") s) (hf : 1 ≤ R.frames) (hlo : (st.map fun v => v.category).sum + (nativeFrameWords "java/lang/System" "arraycopy" 5 + 11) ≤ R.locals) (hw : ws.set q1 (a, .inl (cy 3, n1, .inr (.inr (.inr (.inr (va_cpy f g sp dp z)))))) = ws') (hdg : decode cc pc = .ok (.invokestatic i, 3)) (K : GG p l e R s m args below meth c D A nL Q ws' k n lv (pc + 3) (st)) : GG p l e R s m args below meth c D A nL Q ws k n lv (pc) (.int (nI z) :: .int (nI dp) :: .ref a :: .int (nI sp) :: .ref a0 :: st) := by
  intro H locs ls hP hD hS hl
  refine va_copyq C.1.1 C.1.2.1 (by rw [C.1.2.2.1]; exact hl.1.symm) C.1.2.2.2.1 hlink hnat hstat hini C.2.1 hP hD hS q0 q1 3 3 (C := RX0) ha0 ha1 rfl rfl (nI_pos h1) (nI_pos h2) (nI_pos h3) (by rw [nI_clamp h1, nI_clamp h3]; exact h4) (by rw [nI_clamp h2, nI_clamp h3]; exact h5) (fun j hj y hy => ?_) (fun comp c0 e1 e2 => ?_) hf hlo hdg (fun H1 locs1 hP1 hD1 hS1 => ?_)
  · rw [nI_clamp h3] at hj
    rw [nI_clamp h1] at hy
    obtain ⟨p9, vs, hp⟩ := hel j hj y hy
    exact va_recv C.2.1 hP (q := (RX0, TX0, 6)) rfl hp
  · obtain ⟨c0', t0, f1, f2, f3⟩ := Cond.castable_spec (va_Nw.use (A := args) rfl hca)
    cases e2.symm.trans f1
    cases e1.symm.trans f2
    exact f3
  · rw [nI_clamp h1, nI_clamp h2, nI_clamp h3] at hP1 hD1
    exact K H1 locs1 ls (hw ▸ hP1) (hw ▸ hD1) hS1 hl
theorem g_copyi (C : Cx p s m args meth c cc nL own Ts D cy zs A ret) {i a0 a n0 n1 sp dp z : Nat} {f g : Nat → Int32} {ws' : va_W} (q0 q1 : Nat) (ha0 : ws[q0]? = some (a0, .inl (cy 0, n0, .inl f))) (ha1 : ws[q1]? = some (a, .inl (cy 0, n1, .inl g))) (hlink : (Cond.methodLink own i arraycopyName).before args s = true) (hnat : (Cond.native arraycopyName).before args s = true) (hstat : (Cond.static arraycopyName).before args s = true) (hini : (Cond.initialized "java/lang/System").before args s = true) (h1 : sp < 2 ^ 31) (h2 : dp < 2 ^ 31) (h3 : z < 2 ^ 31) (h4 : sp + z ≤ n0) (h5 : dp + z ≤ n1) (hf : 1 ≤ R.frames) (hlo : (st.map fun v => v.category).sum + (nativeFrameWords "java/lang/System" "arraycopy" 5 + 11) ≤ R.locals) (hw : ws.set q1 (a, .inl (cy 0, n1, .inl (va_cpy f g sp dp z))) = ws') (hdg : decode cc pc = .ok (.invokestatic i, 3)) (K : GG p l e R s m args below meth c D A nL Q ws' k n lv (pc + 3) (st)) : GG p l e R s m args below meth c D A nL Q ws k n lv (pc) (.int (nI z) :: .int (nI dp) :: .ref a :: .int (nI sp) :: .ref a0 :: st) := by
  intro H locs ls hP hD hS hl
  refine va_copyi C.1.1 C.1.2.1 (by rw [C.1.2.2.1]; exact hl.1.symm) C.1.2.2.2.1 hlink hnat hstat hini C.2.1 hP hD hS q0 q1 0 0 ha0 ha1 rfl rfl rfl (nI_pos h1) (nI_pos h2) (nI_pos h3) (by rw [nI_clamp h1, nI_clamp h3]; exact h4) (by rw [nI_clamp h2, nI_clamp h3]; exact h5) (fun j hj => rfl) hf hlo hdg (fun H1 locs1 hP1 hD1 hS1 => ?_)
  rw [nI_clamp h1, nI_clamp h2, nI_clamp h3] at hP1 hD1
  exact K H1 locs1 ls (hw ▸ hP1) (hw ▸ hD1) hS1 hl
theorem g_tin (C : Cx p s m args meth c cc nL own Ts D cy zs A ret) {dflt lo hi : Int} {offs : Array Int} {len : Nat} {x : Int32} {off : Int} {tgt : Nat} (hdg : decode cc pc = .ok (.tableswitch dflt lo hi offs, len)) (h1 : ¬ x.toInt < lo) (h2 : ¬ hi < x.toInt) (ho : offs[(x.toInt - lo).toNat]? = some off) (ht : (pc : Int) + off = (tgt : Int)) (K : GG p l e R s m args below meth c D A nL Q ws k n lv (tgt) (st)) : GG p l e R s m args below meth c D A nL Q ws k n lv (pc) (.int x :: st) := fun H locs ls hP hD hS hl => lv_tableIn C.1.1 C.1.2.1 hdg h1 h2 ho ht (K H locs ls hP hD hS hl)
theorem g_tout (C : Cx p s m args meth c cc nL own Ts D cy zs A ret) {dflt lo hi : Int} {offs : Array Int} {len : Nat} {x : Int32} {tgt : Nat} (hdg : decode cc pc = .ok (.tableswitch dflt lo hi offs, len)) (h : x.toInt < lo ∨ hi < x.toInt) (ht : (pc : Int) + dflt = (tgt : Int)) (K : GG p l e R s m args below meth c D A nL Q ws k n lv (tgt) (st)) : GG p l e R s m args below meth c D A nL Q ws k n lv (pc) (.int x :: st) := fun H locs ls hP hD hS hl => lv_tableOut C.1.1 C.1.2.1 hdg h ht (K H locs ls hP hD hS hl)
theorem g_mna (C : Cx p s m args meth c cc nL own Ts D cy zs A ret) {i : Nat} (hcl : (Cond.classLink own i ("[" ++ (FieldType.array .int).toString)).before args s = true) (harr : (Cond.arrayClass .int).before args s = true) (N' K' : Nat) (h1 : N' < 2 ^ 31) (h2 : K' < 2 ^ 31) (hb1 : N' * 4 ≤ 536870912) (hb2 : K' * 4 ≤ 536870912) (hcells : k + (1 + N') ≤ R.cells) (hslots : n + (N' + N' * K') ≤ R.slots) (hdg : decode cc pc = .ok (.multianewarray i 2, 4)) (K : ∀ (q : Nat) (r : Nat → Nat), GG p l e R s m args below meth c D A nL Q (ws ++ ([(q, .inl (cy 4, N', .inr (.inr (.inr (.inr (fun i => if i < N' then some (r i) else none))))))] ++ (List.range N').map (fun j => (r j, .inl (cy 0, K', .inl (fun _ => 0)))))) (k + 1 + N') (n + N' + N' * K') lv (pc + 4) (.ref q :: st)) : GG p l e R s m args below meth c D A nL Q ws k n lv (pc) (.int (nI K') :: .int (nI N') :: st) := by
  intro H locs ls hP hD hS hl
  have e0 : s.vm.findClass (FieldType.array .int).toString = some (cy 0) := (C.2.1.2 0 _ rfl).2
  have e4 : s.vm.findClass ("[" ++ (FieldType.array .int).toString) = some (cy 4) := (C.2.1.2 4 _ rfl).2
  refine va_mna (X := ws) (L := []) (f := fun _ => .inr (0, [])) (cy := cy 0) (z := (K', .inl (fun _ => 0))) C.1.1 C.1.2.1 C.1.2.2.2.1 hcl C.2.2.2.2.2.1.1 harr e0 C.2.1 (by show va_P D vwCl (ws ++ []) H; rw [List.append_nil]; exact hP) (by show va_D A (ws ++ []); rw [List.append_nil]; exact hD) hS C.2.2.1 (nI_pos h1) (nI_pos h2) (nI_clamp h1) (nI_clamp h2) hb1 (by show K' * 4 ≤ _; exact hb2) (by omega) rfl rfl hcells hslots (fun cA => ?_) hdg (fun q r cA H1 hr1 hr2 hK1 hP1 hD1 hS1 => ?_)
  · show ({ cls := cA, slots := Array.replicate K' (defaultValue .int), vm := .none } : Cell) = arrV cA K' (fun j => .int 0)
    rw [← arrV_new]
    rfl
  · have e5 : s.vm.findClass ("[" ++ (FieldType.array .int).toString) = some cA := (hK1.2 5 _ rfl).2
    have e6 : cA = cy 4 := Option.some.inj (e5.symm.trans e4)
    subst e6
    have er : va_pl ([] ++ (List.range N').map r) (vr_up (fun _ => .inr (0, [])) ((List.range N').map r) (.inl (cy 0, K', .inl (fun _ => 0)))) = (List.range N').map (fun j => ((r j, .inl (cy 0, K', .inl (fun _ => 0))) : Nat × va_E)) := by
      unfold va_pl
      rw [List.nil_append, List.map_map]
      refine List.map_congr_left fun j hj => ?_
      show (r j, _) = (r j, _)
      rw [vr_up_in (List.mem_map.mpr ⟨j, hj, rfl⟩)]
    rw [er, List.append_assoc] at hP1 hD1
    exact K q r H1 locs ls hP1 hD1 hS1 hl
end BASE2
