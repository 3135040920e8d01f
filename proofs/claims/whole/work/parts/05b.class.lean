theorem set_at {α : Type} {ws : List α} {i : Nat} {x y : α} (h : ws[i]? = some x) : (ws.set i y)[i]? = some y := List.getElem?_set_self (List.getElem?_eq_some_iff.mp h).1
theorem set_off {α : Type} {ws : List α} {i j : Nat} {x y : α} (hne : i ≠ j) (h : ws[j]? = some x) : (ws.set i y)[j]? = some x := by rw [List.getElem?_set_ne hne]; exact h
theorem app_at {α : Type} {ws X : List α} {i : Nat} {x : α} (h : ws[i]? = some x) : (ws ++ X)[i]? = some x := by rw [List.getElem?_append_left (List.getElem?_eq_some_iff.mp h).1]; exact h
theorem tl_at {α : Type} {L : List α} {k : Nat} {c : α} (h : k = L.length) : (L ++ [c])[k]? = some c := by subst h; exact List.getElem?_concat_length
theorem tl_set {α : Type} {L : List α} {k : Nat} {c d : α} (h : k = L.length) : (L ++ [c]).set k d = L ++ [d] := by
  subst h
  rw [List.set_append_right _ _ (Nat.le_refl _), Nat.sub_self]
  rfl
theorem ap_set {α : Type} {L X L' : List α} {k : Nat} {y d : α} (h : L[k]? = some y) (e : L.set k d = L') : (L ++ X).set k d = L' ++ X := by
  rw [List.set_append_left _ _ (List.getElem?_eq_some_iff.mp h).1, e]
theorem set_self {α : Type} {L : List α} {k : Nat} {y : α} (h : L[k]? = some y) : L = L.set k y := by
  obtain ⟨h1, h2⟩ := List.getElem?_eq_some_iff.mp h
  rw [← h2, List.set_getElem_self]
theorem pos_ne {α : Type} {L : List α} {i j : Nat} {x y : α} (h1 : L[i]? = some x) (h2 : L[j]? = some y) (h : ¬ x = y) : i ≠ j := fun e => h (Option.some.inj (h1.symm.trans (e ▸ h2)))
/-- the elements after one has gone, one has come -/
def remF (f : Nat → Option Nat) (j n : Nat) : Nat → Option Nat := fun x => if x < j then f x else if x < n - 1 then f (x + 1) else if x = n - 1 then none else f x
theorem remF_c {f : Nat → Option Nat} {j n : Nat} (h : j < n - 1) : va_up (va_cpy f f (j + 1) j (n - 1 - j)) (n - 1) none = remF f j n := by
  funext x
  unfold remF va_up va_cpy
  by_cases e : x = n - 1
  · rw [if_pos e, if_neg (by omega), if_neg (by omega), if_pos e]
  · rw [if_neg e]
    by_cases g : x < j
    · rw [if_neg (by omega), if_pos g]
    · rw [if_neg g]
      by_cases k : x < n - 1
      · rw [if_pos (by omega), if_pos k]
        congr 1
        omega
      · rw [if_neg (by omega), if_neg k, if_neg e]
theorem remF_n {f : Nat → Option Nat} {j n : Nat} (h : n - 1 ≤ j) (hj : j < n) : va_up f (n - 1) none = remF f j n := by
  funext x
  unfold remF va_up
  by_cases e : x = n - 1
  · rw [if_pos e, if_neg (by omega), if_neg (by omega)]
  · rw [if_neg e]
    by_cases g : x < j
    · rw [if_pos g]
    · rw [if_neg g, if_neg (by omega)]
def insF (f : Nat → Option Nat) (j n e : Nat) : Nat → Option Nat := va_up (va_cpy f f j (j + 1) (n - j)) j (some e)
theorem mx_nI {a b : Nat} (ha : a < 2 ^ 31) (hb : b < 2 ^ 31) : (if nI a < nI b then nI b else nI a) = nI (max a b) := by
  by_cases h : a < b
  · rw [if_pos ((nI_ltI ha hb).mpr h), Nat.max_eq_right (by omega)]
  · rw [if_neg (fun q => h ((nI_ltI ha hb).mp q)), Nat.max_eq_left (by omega)]
theorem mn_nI {a b : Nat} (ha : a < 2 ^ 31) (hb : b < 2 ^ 31) : (if nI b < nI a then nI b else nI a) = nI (min a b) := by
  by_cases h : b < a
  · rw [if_pos ((nI_ltI hb ha).mpr h), Nat.min_eq_right (by omega)]
  · rw [if_neg (fun q => h ((nI_ltI hb ha).mp q)), Nat.min_eq_left (by omega)]
theorem cpy_full {f : Nat → Option Nat} {c m : Nat} (h : ∀ x, c ≤ x → f x = none) (hm : c ≤ m) : va_cpy f (fun _ => none) 0 0 (min c m) = f := by
  funext x
  unfold va_cpy
  rw [Nat.min_eq_left hm]
  by_cases e : x < c
  · rw [if_pos (by omega)]
    congr 1
    omega
  · rw [if_neg (by omega), h x (by omega)]
def fillF (f : Nat → Int32) (v : Int32) (j : Nat) : Nat → Int32 := fun x => if x < j then v else f x
theorem fill_0 {f : Nat → Int32} {v : Int32} : fillF f v 0 = f := funext fun x => if_neg (Nat.not_lt_zero _)
theorem fill_s {f : Nat → Int32} {v : Int32} {j : Nat} : upd (fillF f v j) j v = fillF f v (j + 1) := by
  funext x
  unfold upd fillF
  by_cases e : x = j
  · rw [if_pos e, if_pos (by omega)]
  · rw [if_neg e]
    by_cases g : x < j
    · rw [if_pos g, if_pos (by omega)]
    · rw [if_neg g, if_neg (by omega)]
abbrev rmJ3_checkIndex_8e157 : Room := { frames := 0, cells := 0, slots := 0, locals := 0 }
theorem ydJ3_checkIndex_8e157 : yJ3_checkIndex_8e157.cls ≠ "java/lang/invoke/MethodHandle" ∧ yJ3_checkIndex_8e157.cls ≠ "java/lang/invoke/VarHandle" ∧ (parseMethodDescriptor yJ3_checkIndex_8e157.desc).map (fun d => d.parameters.length) = some 3 := by decide +kernel
set_option maxRecDepth 100000 in
set_option maxHeartbeats 4000000 in
theorem k_J3_checkIndex_8e157 (l : Launch) (D : va_G) (cy : Nat → ClassId) (zs : Nat → Nat) (ws : va_W)  (j : Nat) (n : Nat)  (hj : j < n) (hn : n < 2 ^ 31) : Mi l D cy zs yJ3_checkIndex_8e157 wsJ3_checkIndex_8e157 rmJ3_checkIndex_8e157 [.int (nI j), .int (nI n), .null] ws (PQ (nI j) ws) := by
  refine Mi.of (lv := [(0, .int (nI j)), (1, .int (nI n)), (2, .null)]) RJ3 ⟨by decide, rfl⟩ rfl (Nat.le_of_ble_eq_true rfl) rfl ?_
  intro p e s m args below meth c A C hnm
  refine g_iload_n C dJ3_checkIndex_8e157_0 rfl 0 rfl ?_
  refine g_if_lt (tgt := 9) C dJ3_checkIndex_8e157_1 (by decide) (fun c1 => ?_) (fun c1 => ?_)
  · skip
    exact absurd c1 (nI_pos (by omega))
  · skip
    have c1 := cz_lt1 (by omega) c1
    refine g_iload_n C dJ3_checkIndex_8e157_4 rfl 0 rfl ?_
    refine g_iload_n C dJ3_checkIndex_8e157_5 rfl 1 rfl ?_
    refine g_icmp_lt (tgt := 16) C dJ3_checkIndex_8e157_6 (by decide) (fun c6 => ?_) (fun c6 => ?_)
    · skip
      have c6 := c_lt0 (by omega) (by omega) c6
      refine g_iload_n C dJ3_checkIndex_8e157_16 rfl 0 rfl ?_
      exact g_iret C rfl (⟨rfl, rfl⟩) (Nat.le_of_ble_eq_true rfl) (Nat.le_of_ble_eq_true rfl) dJ3_checkIndex_8e157_17
    · skip
      have c6 := c_lt1 (by omega) (by omega) c6
      omega -- conv
abbrev rmJ15_checkIndex_7cf53 : Room := { frames := 1, cells := 0, slots := 0, locals := 22 }
theorem ydJ15_checkIndex_7cf53 : yJ15_checkIndex_7cf53.cls ≠ "java/lang/invoke/MethodHandle" ∧ yJ15_checkIndex_7cf53.cls ≠ "java/lang/invoke/VarHandle" ∧ (parseMethodDescriptor yJ15_checkIndex_7cf53.desc).map (fun d => d.parameters.length) = some 2 := by decide +kernel
set_option maxRecDepth 100000 in
set_option maxHeartbeats 4000000 in
theorem k_J15_checkIndex_7cf53 (l : Launch) (D : va_G) (cy : Nat → ClassId) (zs : Nat → Nat) (ws : va_W)  (j : Nat) (n : Nat)  (hj : j < n) (hn : n < 2 ^ 31) : Mi l D cy zs yJ15_checkIndex_7cf53 wsJ15_checkIndex_7cf53 rmJ15_checkIndex_7cf53 [.int (nI j), .int (nI n)] ws (PQ (nI j) ws) := by
  refine Mi.of (lv := [(0, .int (nI j)), (1, .int (nI n))]) RJ15 ⟨by decide, rfl⟩ rfl (Nat.le_of_ble_eq_true rfl) rfl ?_
  intro p e s m args below meth c A C hnm
  refine g_iload_n C dJ15_checkIndex_7cf53_0 rfl 0 rfl ?_
  refine g_iload_n C dJ15_checkIndex_7cf53_1 rfl 1 rfl ?_
  refine g_null C dJ15_checkIndex_7cf53_2 ?_
  refine g_Si (st := []) C (k_J3_checkIndex_8e157 l D cy zs ws j n  hj hn) gJ15_checkIndex_7cf53_J3_checkIndex_8e157 rfl ydJ3_checkIndex_8e157 ⟨Nat.le_of_ble_eq_true rfl, Nat.le_of_ble_eq_true rfl⟩ ⟨Nat.le_of_ble_eq_true rfl, Nat.le_of_ble_eq_true rfl⟩ rfl (Nat.le_of_ble_eq_true rfl) dJ15_checkIndex_7cf53_3 (fun r3 w3 h3 => ?_)
  obtain ⟨h3a, h3b⟩ := h3
  subst h3a
  have h3b := h3b.symm
  subst h3b
  exact g_iret C rfl (⟨rfl, rfl⟩) (Nat.le_of_ble_eq_true rfl) (Nat.le_of_ble_eq_true rfl) dJ15_checkIndex_7cf53_6
abbrev rmJx4a65c_size_8abf5 : Room := { frames := 0, cells := 0, slots := 0, locals := 0 }
theorem ydJx4a65c_size_8abf5 : yJx4a65c_size_8abf5.cls ≠ "java/lang/invoke/MethodHandle" ∧ yJx4a65c_size_8abf5.cls ≠ "java/lang/invoke/VarHandle" ∧ (parseMethodDescriptor yJx4a65c_size_8abf5.desc).map (fun d => d.parameters.length) = some 0 := by decide +kernel
theorem iwJx4a65c_size_8abf5_J : ∀ w ∈ u_ws RJx4a65c TJx4a65c 3, w ∈ wsJx4a65c_size_8abf5 := fun _ h => (List.mem_cons_of_mem _ (List.mem_append_right _ h))
set_option maxRecDepth 100000 in
set_option maxHeartbeats 4000000 in
theorem k_Jx4a65c_size_8abf5 (l : Launch) (D : va_G) (cy : Nat → ClassId) (zs : Nat → Nat) (ws : va_W) {i a ed n : Nat} {md : Int32}   (hi : ws[i]? = some (a, .inr (0, [.int md, .ref ed, .int (nI n)])))  : Mi l D cy zs yJx4a65c_size_8abf5 wsJx4a65c_size_8abf5 rmJx4a65c_size_8abf5 [.ref a] ws (PQ (nI n) ws) := by
  refine Mi.of (lv := [(0, .ref a)]) RJx4a65c ⟨by decide, rfl⟩ rfl (Nat.le_of_ble_eq_true rfl) rfl ?_
  intro p e s m args below meth c A C hnm
  refine g_aload_n C dJx4a65c_size_8abf5_0 rfl 0 rfl ?_
  refine g_get (ci := 0) (v := .int (nI n)) C iwJx4a65c_size_8abf5_J i hi rfl 2 (by decide) (C.hw (List.mem_cons_of_mem _ (List.mem_append_left _ (List.mem_of_getElem? (i := 0) rfl)))) (fun _ h9 => h9) rfl dJx4a65c_size_8abf5_1 ?_
  exact g_iret C rfl (⟨rfl, rfl⟩) (Nat.le_of_ble_eq_true rfl) (Nat.le_of_ble_eq_true rfl) dJx4a65c_size_8abf5_4
abbrev rmJx4a65c_elementData_915e3 : Room := { frames := 0, cells := 0, slots := 0, locals := 0 }
theorem ydJx4a65c_elementData_915e3 : yJx4a65c_elementData_915e3.cls ≠ "java/lang/invoke/MethodHandle" ∧ yJx4a65c_elementData_915e3.cls ≠ "java/lang/invoke/VarHandle" ∧ (parseMethodDescriptor yJx4a65c_elementData_915e3.desc).map (fun d => d.parameters.length) = some 1 := by decide +kernel
theorem iwJx4a65c_elementData_915e3_J : ∀ w ∈ u_ws RJx4a65c TJx4a65c 3, w ∈ wsJx4a65c_elementData_915e3 := fun _ h => (List.mem_cons_of_mem _ (List.mem_append_right _ h))
set_option maxRecDepth 100000 in
set_option maxHeartbeats 4000000 in
theorem k_Jx4a65c_elementData_915e3 (l : Launch) (D : va_G) (cy : Nat → ClassId) (zs : Nat → Nat) (ws : va_W) {i a ed n : Nat} {md : Int32} {k cap : Nat} {f : Nat → Option Nat} {y : Nat}  (j : Nat) (hi : ws[i]? = some (a, .inr (0, [.int md, .ref ed, .int (nI n)]))) (hk : ws[k]? = some (ed, .inl (cy 3, cap, .inr (.inr (.inr (.inr f)))))) (hj : j < cap) (hc : cap < 2 ^ 31) (hy : f j = some y) : Mq l D cy zs yJx4a65c_elementData_915e3 wsJx4a65c_elementData_915e3 rmJx4a65c_elementData_915e3 [.ref a, .int (nI j)] ws (fun r w => r = some y ∧ w = ws) := by
  refine Mq.of (lv := [(0, .ref a), (1, .int (nI j))]) RJx4a65c ⟨by decide, rfl⟩ rfl (Nat.le_of_ble_eq_true rfl) rfl ?_
  intro p e s m args below meth c A C hnm
  refine g_aload_n C dJx4a65c_elementData_915e3_0 rfl 0 rfl ?_
  refine g_get (ci := 0) (v := .ref ed) C iwJx4a65c_elementData_915e3_J i hi rfl 1 (by decide) (C.hw (List.mem_cons_of_mem _ (List.mem_append_left _ (List.mem_of_getElem? (i := 0) rfl)))) (fun _ h9 => h9) rfl dJx4a65c_elementData_915e3_1 ?_
  refine g_iload_n C dJx4a65c_elementData_915e3_4 rfl 1 rfl ?_
  refine g_aldq (nn := cap) (i := nI j) (f := f) (r := some y) C k hk (vp_in_nI (by omega) (by omega)) (by rw [nI_clamp (by omega)]; exact hy) dJx4a65c_elementData_915e3_5 ?_
  exact g_aret (r := (some y)) C rfl (Or.inl ⟨_, rfl⟩) rfl (⟨rfl, rfl⟩) (Nat.le_of_ble_eq_true rfl) (Nat.le_of_ble_eq_true rfl) dJx4a65c_elementData_915e3_6
abbrev rmJx4a65c_get_915e3 : Room := { frames := 2, cells := 0, slots := 0, locals := 43 }
theorem ydJx4a65c_get_915e3 : yJx4a65c_get_915e3.cls ≠ "java/lang/invoke/MethodHandle" ∧ yJx4a65c_get_915e3.cls ≠ "java/lang/invoke/VarHandle" ∧ (parseMethodDescriptor yJx4a65c_get_915e3.desc).map (fun d => d.parameters.length) = some 1 := by decide +kernel
theorem iwJx4a65c_get_915e3_J : ∀ w ∈ u_ws RJx4a65c TJx4a65c 3, w ∈ wsJx4a65c_get_915e3 := fun _ h => (List.mem_cons_of_mem _ (List.mem_append_right _ h))
set_option maxRecDepth 100000 in
set_option maxHeartbeats 4000000 in
theorem k_Jx4a65c_get_915e3 (l : Launch) (D : va_G) (cy : Nat → ClassId) (zs : Nat → Nat) (ws : va_W) {i a ed n : Nat} {md : Int32} {k cap : Nat} {f : Nat → Option Nat} {y : Nat}  (j : Nat) (hi : ws[i]? = some (a, .inr (0, [.int md, .ref ed, .int (nI n)]))) (hk : ws[k]? = some (ed, .inl (cy 3, cap, .inr (.inr (.inr (.inr f)))))) (hj : j < n) (hn : n ≤ cap) (hc : cap < 2 ^ 31) (hy : f j = some y) : Mq l D cy zs yJx4a65c_get_915e3 wsJx4a65c_get_915e3 rmJx4a65c_get_915e3 [.ref a, .int (nI j)] ws (fun r w => r = some y ∧ w = ws) := by
  refine Mq.of (lv := [(0, .ref a), (1, .int (nI j))]) RJx4a65c ⟨by decide, rfl⟩ rfl (Nat.le_of_ble_eq_true rfl) rfl ?_
  intro p e s m args below meth c A C hnm
  refine g_iload_n C dJx4a65c_get_915e3_0 rfl 1 rfl ?_
  refine g_aload_n C dJx4a65c_get_915e3_1 rfl 0 rfl ?_
  refine g_get (ci := 0) (v := .int (nI n)) C iwJx4a65c_get_915e3_J i hi rfl 2 (by decide) (C.hw (List.mem_cons_of_mem _ (List.mem_append_left _ (List.mem_of_getElem? (i := 0) rfl)))) (fun _ h9 => h9) rfl dJx4a65c_get_915e3_2 ?_
  refine g_Si (st := []) C (k_J15_checkIndex_7cf53 l D cy zs ws j n  hj (by omega)) gJx4a65c_get_915e3_J15_checkIndex_7cf53 rfl ydJ15_checkIndex_7cf53 ⟨Nat.le_of_ble_eq_true rfl, Nat.le_of_ble_eq_true rfl⟩ ⟨Nat.le_of_ble_eq_true rfl, Nat.le_of_ble_eq_true rfl⟩ rfl (Nat.le_of_ble_eq_true rfl) dJx4a65c_get_915e3_5 (fun r5 w5 h5 => ?_)
  obtain ⟨h5a, h5b⟩ := h5
  subst h5a
  have h5b := h5b.symm
  subst h5b
  refine g_pop C dJx4a65c_get_915e3_8 rfl ?_
  refine g_aload_n C dJx4a65c_get_915e3_9 rfl 0 rfl ?_
  refine g_iload_n C dJx4a65c_get_915e3_10 rfl 1 rfl ?_
  refine g_Vq (ci := 0) (st := []) C (k_Jx4a65c_elementData_915e3 l D cy zs ws j hi hk (by omega) hc hy) gJx4a65c_get_915e3_Jx4a65c_elementData_915e3 rfl ⟨rfl, ydJx4a65c_elementData_915e3⟩ i hi rfl ⟨Nat.le_of_ble_eq_true rfl, Nat.le_of_ble_eq_true rfl⟩ ⟨Nat.le_of_ble_eq_true rfl, Nat.le_of_ble_eq_true rfl⟩ rfl (Nat.le_of_ble_eq_true rfl) dJx4a65c_get_915e3_11 (fun r11 w11 h11 => ?_)
  obtain ⟨h11a, h11b⟩ := h11
  subst h11a
  have h11b := h11b.symm
  subst h11b
  exact g_aret (r := (some y)) C rfl (Or.inl ⟨_, rfl⟩) rfl (⟨rfl, rfl⟩) (Nat.le_of_ble_eq_true rfl) (Nat.le_of_ble_eq_true rfl) dJx4a65c_get_915e3_14
abbrev rmJx4a65c_rangeCheckForAdd_d00df : Room := { frames := 0, cells := 0, slots := 0, locals := 0 }
theorem ydJx4a65c_rangeCheckForAdd_d00df : yJx4a65c_rangeCheckForAdd_d00df.cls ≠ "java/lang/invoke/MethodHandle" ∧ yJx4a65c_rangeCheckForAdd_d00df.cls ≠ "java/lang/invoke/VarHandle" ∧ (parseMethodDescriptor yJx4a65c_rangeCheckForAdd_d00df.desc).map (fun d => d.parameters.length) = some 1 := by decide +kernel
theorem iwJx4a65c_rangeCheckForAdd_d00df_J : ∀ w ∈ u_ws RJx4a65c TJx4a65c 3, w ∈ wsJx4a65c_rangeCheckForAdd_d00df := fun _ h => (List.mem_cons_of_mem _ (List.mem_append_right _ h))
set_option maxRecDepth 100000 in
set_option maxHeartbeats 4000000 in
theorem k_Jx4a65c_rangeCheckForAdd_d00df (l : Launch) (D : va_G) (cy : Nat → ClassId) (zs : Nat → Nat) (ws : va_W) {i a ed n : Nat} {md : Int32}  (j : Nat) (hi : ws[i]? = some (a, .inr (0, [.int md, .ref ed, .int (nI n)]))) (hj : j ≤ n) (hn : n < 2 ^ 31) : Mv l D cy zs yJx4a65c_rangeCheckForAdd_d00df wsJx4a65c_rangeCheckForAdd_d00df rmJx4a65c_rangeCheckForAdd_d00df [.ref a, .int (nI j)] ws (fun w => w = ws) := by
  refine Mv.of (lv := [(0, .ref a), (1, .int (nI j))]) RJx4a65c ⟨by decide, rfl⟩ rfl (Nat.le_of_ble_eq_true rfl) rfl ?_
  intro p e s m args below meth c A C hnm
  refine g_iload_n C dJx4a65c_rangeCheckForAdd_d00df_0 rfl 1 rfl ?_
  refine g_aload_n C dJx4a65c_rangeCheckForAdd_d00df_1 rfl 0 rfl ?_
  refine g_get (ci := 0) (v := .int (nI n)) C iwJx4a65c_rangeCheckForAdd_d00df_J i hi rfl 2 (by decide) (C.hw (List.mem_cons_of_mem _ (List.mem_append_left _ (List.mem_of_getElem? (i := 0) rfl)))) (fun _ h9 => h9) rfl dJx4a65c_rangeCheckForAdd_d00df_2 ?_
  refine g_icmp_gt (tgt := 12) C dJx4a65c_rangeCheckForAdd_d00df_5 (by decide) (fun c5 => ?_) (fun c5 => ?_)
  · skip
    have c5 := c_gt0 (by omega) (by omega) c5
    omega -- conv
  · skip
    have c5 := c_gt1 (by omega) (by omega) c5
    refine g_iload_n C dJx4a65c_rangeCheckForAdd_d00df_8 rfl 1 rfl ?_
    refine g_if_ge (tgt := 25) C dJx4a65c_rangeCheckForAdd_d00df_9 (by decide) (fun c9 => ?_) (fun c9 => ?_)
    · skip
      have c9 := cz_ge0 (by omega) c9
      exact g_vret C rfl rfl (Nat.le_of_ble_eq_true rfl) (Nat.le_of_ble_eq_true rfl) dJx4a65c_rangeCheckForAdd_d00df_25
    · skip
      exact absurd (nI_pos' (by omega)) c9
abbrev rmJx4a65c_fastRemove_b59b0 : Room := { frames := 1, cells := 0, slots := 0, locals := 60 }
theorem ydJx4a65c_fastRemove_b59b0 : yJx4a65c_fastRemove_b59b0.cls ≠ "java/lang/invoke/MethodHandle" ∧ yJx4a65c_fastRemove_b59b0.cls ≠ "java/lang/invoke/VarHandle" ∧ (parseMethodDescriptor yJx4a65c_fastRemove_b59b0.desc).map (fun d => d.parameters.length) = some 2 := by decide +kernel
theorem iwJx4a65c_fastRemove_b59b0_J : ∀ w ∈ u_ws RJx4a65c TJx4a65c 3, w ∈ wsJx4a65c_fastRemove_b59b0 := fun _ h => (List.mem_cons_of_mem _ (List.mem_append_right _ h))
set_option maxRecDepth 100000 in
set_option maxHeartbeats 4000000 in
theorem k_Jx4a65c_fastRemove_b59b0 (l : Launch) (D : va_G) (cy : Nat → ClassId) (zs : Nat → Nat) (ws : va_W) {i a ed n : Nat} {md : Int32} {k cap : Nat} {f : Nat → Option Nat}  (j : Nat) (hi : ws[i]? = some (a, .inr (0, [.int md, .ref ed, .int (nI n)]))) (hk : ws[k]? = some (ed, .inl (cy 3, cap, .inr (.inr (.inr (.inr f)))))) (hj : j < n) (hn : n ≤ cap) (hc : cap < 2 ^ 31) (hel : ∀ j9 y9, f j9 = some y9 → isF ws y9) : Mv l D cy zs yJx4a65c_fastRemove_b59b0 wsJx4a65c_fastRemove_b59b0 rmJx4a65c_fastRemove_b59b0 [.ref a, .ref ed, .int (nI j)] ws (fun w => w = (ws.set i (a, .inr (0, [.int (md + (nI 1)), .ref ed, .int (nI (n - 1))]))).set k (ed, .inl (cy 3, cap, .inr (.inr (.inr (.inr (remF f j n))))))) := by
  refine Mv.of (lv := [(0, .ref a), (1, .ref ed), (2, .int (nI j))]) RJx4a65c ⟨by decide, rfl⟩ rfl (Nat.le_of_ble_eq_true rfl) rfl ?_
  intro p e s m args below meth c A C hnm
  refine g_aload_n C dJx4a65c_fastRemove_b59b0_0 rfl 0 rfl ?_
  refine g_dup C dJx4a65c_fastRemove_b59b0_1 rfl ?_
  refine g_get (ci := 0) (v := .int md) C iwJx4a65c_fastRemove_b59b0_J i hi rfl 0 (by decide) (C.hw (List.mem_cons_of_mem _ (List.mem_append_left _ (List.mem_of_getElem? (i := 0) rfl)))) (u_same (C.hw (List.mem_cons_of_mem _ (List.mem_append_left _ (List.mem_of_getElem? (i := 1) rfl))))) rfl dJx4a65c_fastRemove_b59b0_2 ?_
  refine g_iconst (v := nI 1) C dJx4a65c_fastRemove_b59b0_5 (by decide +kernel) ?_
  refine g_iadd (v := md + (nI 1)) C dJx4a65c_fastRemove_b59b0_6 rfl ?_
  refine g_put (ci := 0) (ty := .int) (v := .int (md + (nI 1))) (ws' := (ws.set i (a, .inr (0, [.int (md + (nI 1)), .ref ed, .int (nI n)])))) C iwJx4a65c_fastRemove_b59b0_J tyJx4a65c tyJx4a65c_ok nmJx4a65c i hi rfl 0 (by decide) (C.hw (List.mem_cons_of_mem _ (List.mem_append_left _ (List.mem_of_getElem? (i := 0) rfl)))) (u_same (C.hw (List.mem_cons_of_mem _ (List.mem_append_left _ (List.mem_of_getElem? (i := 1) rfl))))) rfl (by decide +kernel) rfl rfl (Nat.le_of_ble_eq_true rfl) rfl dJx4a65c_fastRemove_b59b0_7 ?_
  have u1 : (ws.set i (a, .inr (0, [.int (md + (nI 1)), .ref ed, .int (nI n)])))[i]? = some (a, .inr (0, [.int (md + (nI 1)), .ref ed, .int (nI n)])) := (set_at hi)
  have u2 : (ws.set i (a, .inr (0, [.int (md + (nI 1)), .ref ed, .int (nI n)])))[k]? = some (ed, .inl (cy 3, cap, .inr (.inr (.inr (.inr f))))) := (set_off (pos_ne hi hk (by simp)) hk)
  refine g_aload_n C dJx4a65c_fastRemove_b59b0_10 rfl 0 rfl ?_
  refine g_get (ci := 0) (v := .int (nI n)) C iwJx4a65c_fastRemove_b59b0_J i u1 rfl 2 (by decide) (C.hw (List.mem_cons_of_mem _ (List.mem_append_left _ (List.mem_of_getElem? (i := 2) rfl)))) (fun _ h9 => h9) rfl dJx4a65c_fastRemove_b59b0_11 ?_
  refine g_iconst (v := nI 1) C dJx4a65c_fastRemove_b59b0_14 (by decide +kernel) ?_
  refine g_isub (v := nI (n - 1)) C dJx4a65c_fastRemove_b59b0_15 (pk_sub (by omega)) ?_
  refine g_dup C dJx4a65c_fastRemove_b59b0_16 rfl ?_
  refine g_istore_n (lv' := [(3, .int (nI (n - 1))), (0, .ref a), (1, .ref ed), (2, .int (nI j))]) C dJx4a65c_fastRemove_b59b0_17 rfl (by decide) rfl ?_
  refine g_iload_n C dJx4a65c_fastRemove_b59b0_18 rfl 3 rfl ?_
  refine g_icmp_le (tgt := 34) C dJx4a65c_fastRemove_b59b0_19 (by decide) (fun c19 => ?_) (fun c19 => ?_)
  · skip
    have c19 := c_le0 (by omega) (by omega) c19
    refine g_aload_n C dJx4a65c_fastRemove_b59b0_34 rfl 2 rfl ?_
    refine g_aload_n C dJx4a65c_fastRemove_b59b0_35 rfl 1 rfl ?_
    refine g_iload_n C dJx4a65c_fastRemove_b59b0_36 rfl 0 rfl ?_
    refine g_dup_x1 C dJx4a65c_fastRemove_b59b0_37 rfl rfl ?_
    refine g_put (ci := 0) (ty := .int) (v := .int (nI (n - 1))) (ws' := (ws.set i (a, .inr (0, [.int (md + (nI 1)), .ref ed, .int (nI (n - 1))])))) C iwJx4a65c_fastRemove_b59b0_J tyJx4a65c tyJx4a65c_ok nmJx4a65c i u1 rfl 2 (by decide) (C.hw (List.mem_cons_of_mem _ (List.mem_append_left _ (List.mem_of_getElem? (i := 2) rfl)))) (fun _ h9 => h9) rfl (by decide +kernel) rfl rfl (Nat.le_of_ble_eq_true rfl) (by rw [List.set_set] <;> rfl) dJx4a65c_fastRemove_b59b0_38 ?_
    have u3 : (ws.set i (a, .inr (0, [.int (md + (nI 1)), .ref ed, .int (nI (n - 1))])))[i]? = some (a, .inr (0, [.int (md + (nI 1)), .ref ed, .int (nI (n - 1))])) := (set_at hi)
    have u4 : (ws.set i (a, .inr (0, [.int (md + (nI 1)), .ref ed, .int (nI (n - 1))])))[k]? = some (ed, .inl (cy 3, cap, .inr (.inr (.inr (.inr f))))) := (set_off (pos_ne hi hk (by simp)) hk)
    refine g_null C dJx4a65c_fastRemove_b59b0_41 ?_
    refine g_astqN (nn := cap) (i := nI (n - 1)) (f := f) (ws' := ((ws.set i (a, .inr (0, [.int (md + (nI 1)), .ref ed, .int (nI (n - 1))]))).set k (ed, .inl (cy 3, cap, .inr (.inr (.inr (.inr (va_up f (n - 1) none)))))))) C k u4 (vp_in_nI (by omega) (by omega)) (by rw [nI_clamp (by omega)] <;> exact rfl) dJx4a65c_fastRemove_b59b0_42 ?_
    have u5 : ((ws.set i (a, .inr (0, [.int (md + (nI 1)), .ref ed, .int (nI (n - 1))]))).set k (ed, .inl (cy 3, cap, .inr (.inr (.inr (.inr (va_up f (n - 1) none)))))))[i]? = some (a, .inr (0, [.int (md + (nI 1)), .ref ed, .int (nI (n - 1))])) := (set_off (pos_ne hk hi (by simp)) (set_at hi))
    have u6 : ((ws.set i (a, .inr (0, [.int (md + (nI 1)), .ref ed, .int (nI (n - 1))]))).set k (ed, .inl (cy 3, cap, .inr (.inr (.inr (.inr (va_up f (n - 1) none)))))))[k]? = some (ed, .inl (cy 3, cap, .inr (.inr (.inr (.inr (va_up f (n - 1) none)))))) := (set_at (set_off (pos_ne hi hk (by simp)) hk))
    exact g_vret C rfl (by rw [remF_n (by omega) (by omega)]) (Nat.le_of_ble_eq_true rfl) (Nat.le_of_ble_eq_true rfl) dJx4a65c_fastRemove_b59b0_43
  · skip
    have c19 := c_le1 (by omega) (by omega) c19
    refine g_aload_n C dJx4a65c_fastRemove_b59b0_22 rfl 2 rfl ?_
    refine g_iload_n C dJx4a65c_fastRemove_b59b0_23 rfl 3 rfl ?_
    refine g_iconst (v := nI 1) C dJx4a65c_fastRemove_b59b0_24 (by decide +kernel) ?_
    refine g_iadd (v := nI (j + 1)) C dJx4a65c_fastRemove_b59b0_25 (nI_add _ _) ?_
    refine g_aload_n C dJx4a65c_fastRemove_b59b0_26 rfl 2 rfl ?_
    refine g_iload_n C dJx4a65c_fastRemove_b59b0_27 rfl 3 rfl ?_
    refine g_iload_n C dJx4a65c_fastRemove_b59b0_28 rfl 0 rfl ?_
    refine g_iload_n C dJx4a65c_fastRemove_b59b0_29 rfl 3 rfl ?_
    refine g_isub (v := nI ((n - 1) - j)) C dJx4a65c_fastRemove_b59b0_30 (pk_sub (by omega)) ?_
    refine g_copyq (sp := (j + 1)) (dp := j) (z := ((n - 1) - j)) (ws' := ((ws.set i (a, .inr (0, [.int (md + (nI 1)), .ref ed, .int (nI n)]))).set k (ed, .inl (cy 3, cap, .inr (.inr (.inr (.inr (va_cpy f f (j + 1) j ((n - 1) - j))))))))) C k k u2 u2 (C.hw (List.mem_cons_of_mem _ (List.mem_append_left _ (List.mem_of_getElem? (i := 3) rfl)))) (C.hw (List.mem_cons_of_mem _ (List.mem_append_left _ (List.mem_of_getElem? (i := 4) rfl)))) (C.hw (List.mem_cons_of_mem _ (List.mem_append_left _ (List.mem_of_getElem? (i := 5) rfl)))) (C.hw (List.mem_cons_of_mem _ (List.mem_append_left _ (List.mem_of_getElem? (i := 6) rfl)))) (by omega) (by omega) (by omega) (by omega) (by omega) (fun j9 hj9 y9 hy9 => (isF.set (hel _ _ hy9) hi (fun _ h8 => by simp at h8))) C.2.2.2.2.2.1.2.2.1 (Nat.le_of_ble_eq_true rfl) (Nat.le_of_ble_eq_true rfl) rfl dJx4a65c_fastRemove_b59b0_31 ?_
    have u7 : ((ws.set i (a, .inr (0, [.int (md + (nI 1)), .ref ed, .int (nI n)]))).set k (ed, .inl (cy 3, cap, .inr (.inr (.inr (.inr (va_cpy f f (j + 1) j ((n - 1) - j))))))))[i]? = some (a, .inr (0, [.int (md + (nI 1)), .ref ed, .int (nI n)])) := (set_off (pos_ne hk hi (by simp)) (set_at hi))
    have u8 : ((ws.set i (a, .inr (0, [.int (md + (nI 1)), .ref ed, .int (nI n)]))).set k (ed, .inl (cy 3, cap, .inr (.inr (.inr (.inr (va_cpy f f (j + 1) j ((n - 1) - j))))))))[k]? = some (ed, .inl (cy 3, cap, .inr (.inr (.inr (.inr (va_cpy f f (j + 1) j ((n - 1) - j))))))) := (set_at (set_off (pos_ne hi hk (by simp)) hk))
    refine g_aload_n C dJx4a65c_fastRemove_b59b0_34 rfl 2 rfl ?_
    refine g_aload_n C dJx4a65c_fastRemove_b59b0_35 rfl 1 rfl ?_
    refine g_iload_n C dJx4a65c_fastRemove_b59b0_36 rfl 0 rfl ?_
    refine g_dup_x1 C dJx4a65c_fastRemove_b59b0_37 rfl rfl ?_
    refine g_put (ci := 0) (ty := .int) (v := .int (nI (n - 1))) (ws' := ((ws.set i (a, .inr (0, [.int (md + (nI 1)), .ref ed, .int (nI (n - 1))]))).set k (ed, .inl (cy 3, cap, .inr (.inr (.inr (.inr (va_cpy f f (j + 1) j ((n - 1) - j))))))))) C iwJx4a65c_fastRemove_b59b0_J tyJx4a65c tyJx4a65c_ok nmJx4a65c i u7 rfl 2 (by decide) (C.hw (List.mem_cons_of_mem _ (List.mem_append_left _ (List.mem_of_getElem? (i := 2) rfl)))) (fun _ h9 => h9) rfl (by decide +kernel) rfl rfl (Nat.le_of_ble_eq_true rfl) (by rw [List.set_comm _ _ (pos_ne hk hi (by simp)), List.set_set] <;> rfl) dJx4a65c_fastRemove_b59b0_38 ?_
    have u9 : ((ws.set i (a, .inr (0, [.int (md + (nI 1)), .ref ed, .int (nI (n - 1))]))).set k (ed, .inl (cy 3, cap, .inr (.inr (.inr (.inr (va_cpy f f (j + 1) j ((n - 1) - j))))))))[i]? = some (a, .inr (0, [.int (md + (nI 1)), .ref ed, .int (nI (n - 1))])) := (set_off (pos_ne hk hi (by simp)) (set_at hi))
    have u10 : ((ws.set i (a, .inr (0, [.int (md + (nI 1)), .ref ed, .int (nI (n - 1))]))).set k (ed, .inl (cy 3, cap, .inr (.inr (.inr (.inr (va_cpy f f (j + 1) j ((n - 1) - j))))))))[k]? = some (ed, .inl (cy 3, cap, .inr (.inr (.inr (.inr (va_cpy f f (j + 1) j ((n - 1) - j))))))) := (set_at (set_off (pos_ne hi hk (by simp)) hk))
    refine g_null C dJx4a65c_fastRemove_b59b0_41 ?_
    refine g_astqN (nn := cap) (i := nI (n - 1)) (f := (va_cpy f f (j + 1) j ((n - 1) - j))) (ws' := ((ws.set i (a, .inr (0, [.int (md + (nI 1)), .ref ed, .int (nI (n - 1))]))).set k (ed, .inl (cy 3, cap, .inr (.inr (.inr (.inr (va_up (va_cpy f f (j + 1) j ((n - 1) - j)) (n - 1) none)))))))) C k u10 (vp_in_nI (by omega) (by omega)) (by rw [nI_clamp (by omega)] <;> exact (by rw [List.set_set] <;> rfl)) dJx4a65c_fastRemove_b59b0_42 ?_
    have u11 : ((ws.set i (a, .inr (0, [.int (md + (nI 1)), .ref ed, .int (nI (n - 1))]))).set k (ed, .inl (cy 3, cap, .inr (.inr (.inr (.inr (va_up (va_cpy f f (j + 1) j ((n - 1) - j)) (n - 1) none)))))))[i]? = some (a, .inr (0, [.int (md + (nI 1)), .ref ed, .int (nI (n - 1))])) := (set_off (pos_ne hk hi (by simp)) (set_at hi))
    have u12 : ((ws.set i (a, .inr (0, [.int (md + (nI 1)), .ref ed, .int (nI (n - 1))]))).set k (ed, .inl (cy 3, cap, .inr (.inr (.inr (.inr (va_up (va_cpy f f (j + 1) j ((n - 1) - j)) (n - 1) none)))))))[k]? = some (ed, .inl (cy 3, cap, .inr (.inr (.inr (.inr (va_up (va_cpy f f (j + 1) j ((n - 1) - j)) (n - 1) none)))))) := (set_at (set_off (pos_ne hi hk (by simp)) hk))
    exact g_vret C rfl (by rw [remF_c (by omega)]) (Nat.le_of_ble_eq_true rfl) (Nat.le_of_ble_eq_true rfl) dJx4a65c_fastRemove_b59b0_43
abbrev rmJx4a65c_remove_915e3 : Room := { frames := 2, cells := 0, slots := 0, locals := 83 }
theorem ydJx4a65c_remove_915e3 : yJx4a65c_remove_915e3.cls ≠ "java/lang/invoke/MethodHandle" ∧ yJx4a65c_remove_915e3.cls ≠ "java/lang/invoke/VarHandle" ∧ (parseMethodDescriptor yJx4a65c_remove_915e3.desc).map (fun d => d.parameters.length) = some 1 := by decide +kernel
theorem iwJx4a65c_remove_915e3_J : ∀ w ∈ u_ws RJx4a65c TJx4a65c 3, w ∈ wsJx4a65c_remove_915e3 := fun _ h => (List.mem_cons_of_mem _ (List.mem_append_right _ h))
set_option maxRecDepth 100000 in
set_option maxHeartbeats 4000000 in
theorem k_Jx4a65c_remove_915e3 (l : Launch) (D : va_G) (cy : Nat → ClassId) (zs : Nat → Nat) (ws : va_W) {i a ed n : Nat} {md : Int32} {k cap : Nat} {f : Nat → Option Nat} {y : Nat}  (j : Nat) (hi : ws[i]? = some (a, .inr (0, [.int md, .ref ed, .int (nI n)]))) (hk : ws[k]? = some (ed, .inl (cy 3, cap, .inr (.inr (.inr (.inr f)))))) (hj : j < n) (hn : n ≤ cap) (hc : cap < 2 ^ 31) (hel : ∀ j9 y9, f j9 = some y9 → isF ws y9) (hy : f j = some y) : Mq l D cy zs yJx4a65c_remove_915e3 wsJx4a65c_remove_915e3 rmJx4a65c_remove_915e3 [.ref a, .int (nI j)] ws (fun r w => r = some y ∧ w = (ws.set i (a, .inr (0, [.int (md + (nI 1)), .ref ed, .int (nI (n - 1))]))).set k (ed, .inl (cy 3, cap, .inr (.inr (.inr (.inr (remF f j n))))))) := by
  refine Mq.of (lv := [(0, .ref a), (1, .int (nI j))]) RJx4a65c ⟨by decide, rfl⟩ rfl (Nat.le_of_ble_eq_true rfl) rfl ?_
  intro p e s m args below meth c A C hnm
  refine g_iload_n C dJx4a65c_remove_915e3_0 rfl 1 rfl ?_
  refine g_aload_n C dJx4a65c_remove_915e3_1 rfl 0 rfl ?_
  refine g_get (ci := 0) (v := .int (nI n)) C iwJx4a65c_remove_915e3_J i hi rfl 2 (by decide) (C.hw (List.mem_cons_of_mem _ (List.mem_append_left _ (List.mem_of_getElem? (i := 0) rfl)))) (fun _ h9 => h9) rfl dJx4a65c_remove_915e3_2 ?_
  refine g_Si (st := []) C (k_J15_checkIndex_7cf53 l D cy zs ws j n  hj (by omega)) gJx4a65c_remove_915e3_J15_checkIndex_7cf53 rfl ydJ15_checkIndex_7cf53 ⟨Nat.le_of_ble_eq_true rfl, Nat.le_of_ble_eq_true rfl⟩ ⟨Nat.le_of_ble_eq_true rfl, Nat.le_of_ble_eq_true rfl⟩ rfl (Nat.le_of_ble_eq_true rfl) dJx4a65c_remove_915e3_5 (fun r5 w5 h5 => ?_)
  obtain ⟨h5a, h5b⟩ := h5
  subst h5a
  have h5b := h5b.symm
  subst h5b
  refine g_pop C dJx4a65c_remove_915e3_8 rfl ?_
  refine g_aload_n C dJx4a65c_remove_915e3_9 rfl 0 rfl ?_
  refine g_get (ci := 0) (v := .ref ed) C iwJx4a65c_remove_915e3_J i hi rfl 1 (by decide) (C.hw (List.mem_cons_of_mem _ (List.mem_append_left _ (List.mem_of_getElem? (i := 1) rfl)))) (fun _ h9 => h9) rfl dJx4a65c_remove_915e3_10 ?_
  refine g_astore_n (lv' := [(2, .ref ed), (0, .ref a), (1, .int (nI j))]) C dJx4a65c_remove_915e3_13 rfl (by decide) rfl ?_
  refine g_aload_n C dJx4a65c_remove_915e3_14 rfl 0 rfl ?_
  refine g_iload_n C dJx4a65c_remove_915e3_15 rfl 2 rfl ?_
  refine g_aldq (nn := cap) (i := nI j) (f := f) (r := some y) C k hk (vp_in_nI (by omega) (by omega)) (by rw [nI_clamp (by omega)]; exact hy) dJx4a65c_remove_915e3_16 ?_
  refine g_astore_n (lv' := [(3, .ref y), (2, .ref ed), (0, .ref a), (1, .int (nI j))]) C dJx4a65c_remove_915e3_17 rfl (by decide) rfl ?_
  refine g_aload_n C dJx4a65c_remove_915e3_18 rfl 2 rfl ?_
  refine g_aload_n C dJx4a65c_remove_915e3_19 rfl 1 rfl ?_
  refine g_iload_n C dJx4a65c_remove_915e3_20 rfl 3 rfl ?_
  refine g_Vv (ci := 0) (st := []) C (k_Jx4a65c_fastRemove_b59b0 l D cy zs ws j hi hk hj hn hc hel) gJx4a65c_remove_915e3_Jx4a65c_fastRemove_b59b0 rfl ⟨rfl, ydJx4a65c_fastRemove_b59b0⟩ i hi rfl ⟨Nat.le_of_ble_eq_true rfl, Nat.le_of_ble_eq_true rfl⟩ ⟨Nat.le_of_ble_eq_true rfl, Nat.le_of_ble_eq_true rfl⟩ rfl (Nat.le_of_ble_eq_true rfl) dJx4a65c_remove_915e3_21 (fun w21 h21 => ?_)
  subst h21
  refine g_aload_n C dJx4a65c_remove_915e3_24 rfl 0 rfl ?_
  exact g_aret (r := (some y)) C rfl (Or.inl ⟨_, rfl⟩) rfl (⟨rfl, rfl⟩) (Nat.le_of_ble_eq_true rfl) (Nat.le_of_ble_eq_true rfl) dJx4a65c_remove_915e3_25
abbrev rmJ8_newLength_cabcc : Room := { frames := 1, cells := 0, slots := 0, locals := 40 }
theorem ydJ8_newLength_cabcc : yJ8_newLength_cabcc.cls ≠ "java/lang/invoke/MethodHandle" ∧ yJ8_newLength_cabcc.cls ≠ "java/lang/invoke/VarHandle" ∧ (parseMethodDescriptor yJ8_newLength_cabcc.desc).map (fun d => d.parameters.length) = some 3 := by decide +kernel
set_option maxRecDepth 100000 in
set_option maxHeartbeats 4000000 in
theorem k_J8_newLength_cabcc (l : Launch) (D : va_G) (cy : Nat → ClassId) (zs : Nat → Nat) (ws : va_W)  (c0 : Nat) (d0 : Nat) (h0 : Nat)  (h1 : 0 < c0) (h2 : c0 < 2 ^ 20) (h3 : d0 < 2 ^ 20) (h4 : h0 < 2 ^ 20) : Mi l D cy zs yJ8_newLength_cabcc wsJ8_newLength_cabcc rmJ8_newLength_cabcc [.int (nI c0), .int (nI d0), .int (nI h0)] ws (PQ (nI (c0 + (max d0 h0))) ws) := by
  refine Mi.of (lv := [(0, .int (nI c0)), (1, .int (nI d0)), (2, .int (nI h0))]) RJ8 ⟨by decide, rfl⟩ rfl (Nat.le_of_ble_eq_true rfl) rfl ?_
  intro p e s m args below meth c A C hnm
  refine g_iload_n C dJ8_newLength_cabcc_0 rfl 0 rfl ?_
  refine g_iload_n C dJ8_newLength_cabcc_1 rfl 1 rfl ?_
  refine g_iload_n C dJ8_newLength_cabcc_2 rfl 2 rfl ?_
  refine g_max (v := nI (max d0 h0)) C (C.hw (List.mem_cons_of_mem _ (List.mem_of_getElem? (i := 0) rfl))) (C.hw (List.mem_cons_of_mem _ (List.mem_of_getElem? (i := 1) rfl))) (C.hw (List.mem_cons_of_mem _ (List.mem_of_getElem? (i := 2) rfl))) (C.hw (List.mem_cons_of_mem _ (List.mem_of_getElem? (i := 3) rfl))) (Nat.le_of_ble_eq_true rfl) (Nat.le_of_ble_eq_true rfl) (Nat.le_of_ble_eq_true rfl) (Nat.le_of_ble_eq_true rfl) (mx_nI (by omega) (by omega)) dJ8_newLength_cabcc_3 ?_
  refine g_iadd (v := nI (c0 + (max d0 h0))) C dJ8_newLength_cabcc_6 (nI_add _ _) ?_
  refine g_istore_n (lv' := [(3, .int (nI (c0 + (max d0 h0)))), (0, .int (nI c0)), (1, .int (nI d0)), (2, .int (nI h0))]) C dJ8_newLength_cabcc_7 rfl (by decide) rfl ?_
  refine g_iconst (v := nI 0) C dJ8_newLength_cabcc_8 (by decide +kernel) ?_
  refine g_iload_n C dJ8_newLength_cabcc_9 rfl 0 rfl ?_
  refine g_icmp_ge (tgt := 21) C dJ8_newLength_cabcc_10 (by decide) (fun c10 => ?_) (fun c10 => ?_)
  · skip
    have c10 := c_ge0 (by omega) (by omega) c10
    omega -- conv
  · skip
    have c10 := c_ge1 (by omega) (by omega) c10
    refine g_iload_n C dJ8_newLength_cabcc_13 rfl 0 rfl ?_
    refine g_ldc (v := 2147483639) C (C.hw (List.mem_cons_of_mem _ (List.mem_of_getElem? (i := 4) rfl))) dJ8_newLength_cabcc_14 ?_
    refine g_icmp_gt (tgt := 21) C dJ8_newLength_cabcc_16 (by decide) (fun c16 => ?_) (fun c16 => ?_)
    · skip
      exact absurd c16 (by rw [show (2147483639 : Int32) = nI 2147483639 by decide +kernel]; exact fun q9 => absurd (c_lt0 (by omega) (by omega) q9) (by omega))
    · skip
      refine g_iload_n C dJ8_newLength_cabcc_19 rfl 0 rfl ?_
      exact g_iret C rfl (⟨rfl, rfl⟩) (Nat.le_of_ble_eq_true rfl) (Nat.le_of_ble_eq_true rfl) dJ8_newLength_cabcc_20
abbrev rmJ7_copyOf_6403c : Room := { frames := 1, cells := 1, slots := 300, locals := 60 }
theorem ydJ7_copyOf_6403c : yJ7_copyOf_6403c.cls ≠ "java/lang/invoke/MethodHandle" ∧ yJ7_copyOf_6403c.cls ≠ "java/lang/invoke/VarHandle" ∧ (parseMethodDescriptor yJ7_copyOf_6403c.desc).map (fun d => d.parameters.length) = some 3 := by decide +kernel
set_option maxRecDepth 100000 in
set_option maxHeartbeats 4000000 in
theorem k_J7_copyOf_6403c (l : Launch) (D : va_G) (cy : Nat → ClassId) (zs : Nat → Nat) (ws : va_W) {k cap b : Nat} {f : Nat → Option Nat}  (m0 : Nat) (hk : ws[k]? = some (b, .inl (cy 3, cap, .inr (.inr (.inr (.inr f)))))) (h1 : cap ≤ m0) (h2 : m0 ≤ 300) (hf : ∀ x, cap ≤ x → f x = none) (hel : ∀ j9 y9, f j9 = some y9 → isF ws y9) : Mq l D cy zs yJ7_copyOf_6403c wsJ7_copyOf_6403c rmJ7_copyOf_6403c [.ref b, .int (nI m0), .ref (zs 1)] ws (fun r w => ∃ q, r = some q ∧ w = ws ++ [(q, .inl (cy 3, m0, .inr (.inr (.inr (.inr f)))))]) := by
  refine Mq.of (lv := [(0, .ref b), (1, .int (nI m0)), (2, .ref (zs 1))]) RJ7 ⟨by decide, rfl⟩ rfl (Nat.le_of_ble_eq_true rfl) rfl ?_
  intro p e s m args below meth c A C hnm
  refine g_aload_n C dJ7_copyOf_6403c_0 rfl 2 rfl ?_
  refine g_ldcM C (C.hw (List.mem_cons_of_mem _ (List.mem_of_getElem? (i := 0) rfl))) dJ7_copyOf_6403c_1 ?_
  refine g_acmp_ne (rx := some (zs 1)) (ry := some (zs 1)) (tgt := 13) C dJ7_copyOf_6403c_3 (by decide) (fun h9 => absurd rfl h9) (fun _ => ?_)
  refine g_iload_n C dJ7_copyOf_6403c_6 rfl 1 rfl ?_
  refine g_newq (N' := m0) C (C.hw (List.mem_cons_of_mem _ (List.mem_of_getElem? (i := 1) rfl))) (nI_pos (by omega)) (nI_clamp (by omega)) (by omega) (Nat.le_of_ble_eq_true rfl) (show 0 + m0 ≤ 300 by omega) dJ7_copyOf_6403c_7 (fun q => ?_)
  refine g_widen (k' := 1) (n' := 300) (Nat.le_of_ble_eq_true rfl) (show 0 + m0 ≤ 300 by omega) ?_
  have u13 : (ws ++ [(q, .inl (cy 3, m0, .inr (.inr (.inr (.inr (fun _ => none))))))])[k]? = some (b, .inl (cy 3, cap, .inr (.inr (.inr (.inr f))))) := (app_at hk)
  have u14 : (ws ++ [(q, .inl (cy 3, m0, .inr (.inr (.inr (.inr (fun _ => none))))))])[ws.length]? = some (q, .inl (cy 3, m0, .inr (.inr (.inr (.inr (fun _ => none)))))) := (tl_at (by simp))
  refine g_goto (tgt := 24) C dJ7_copyOf_6403c_10 (by decide) ?_
  refine g_astore_n (lv' := [(3, .ref q), (0, .ref b), (1, .int (nI m0)), (2, .ref (zs 1))]) C dJ7_copyOf_6403c_24 rfl (by decide) rfl ?_
  refine g_aload_n C dJ7_copyOf_6403c_25 rfl 1 rfl ?_
  refine g_iconst (v := nI 0) C dJ7_copyOf_6403c_26 (by decide +kernel) ?_
  refine g_aload_n C dJ7_copyOf_6403c_27 rfl 0 rfl ?_
  refine g_iconst (v := nI 0) C dJ7_copyOf_6403c_28 (by decide +kernel) ?_
  refine g_aload_n C dJ7_copyOf_6403c_29 rfl 1 rfl ?_
  refine g_alen (v := nI cap) C k 3 u13 rfl rfl dJ7_copyOf_6403c_30 ?_
  refine g_iload_n C dJ7_copyOf_6403c_31 rfl 2 rfl ?_
  refine g_min (v := nI (min cap m0)) C (C.hw (List.mem_cons_of_mem _ (List.mem_of_getElem? (i := 2) rfl))) (C.hw (List.mem_cons_of_mem _ (List.mem_of_getElem? (i := 3) rfl))) (C.hw (List.mem_cons_of_mem _ (List.mem_of_getElem? (i := 4) rfl))) (C.hw (List.mem_cons_of_mem _ (List.mem_of_getElem? (i := 5) rfl))) (Nat.le_of_ble_eq_true rfl) (Nat.le_of_ble_eq_true rfl) (Nat.le_of_ble_eq_true rfl) (Nat.le_of_ble_eq_true rfl) (mn_nI (by omega) (by omega)) dJ7_copyOf_6403c_32 ?_
  refine g_copyq (sp := 0) (dp := 0) (z := (min cap m0)) (ws' := (ws ++ [(q, .inl (cy 3, m0, .inr (.inr (.inr (.inr (va_cpy f (fun _ => none) 0 0 (min cap m0)))))))])) C k ws.length u13 u14 (C.hw (List.mem_cons_of_mem _ (List.mem_of_getElem? (i := 6) rfl))) (C.hw (List.mem_cons_of_mem _ (List.mem_of_getElem? (i := 7) rfl))) (C.hw (List.mem_cons_of_mem _ (List.mem_of_getElem? (i := 8) rfl))) (C.hw (List.mem_cons_of_mem _ (List.mem_of_getElem? (i := 9) rfl))) (by omega) (by omega) (by omega) (by omega) (by omega) (fun j9 hj9 y9 hy9 => (isF.app (hel _ _ hy9))) C.2.2.2.2.2.1.2.2.1 (Nat.le_of_ble_eq_true rfl) (Nat.le_of_ble_eq_true rfl) (tl_set (by simp)) dJ7_copyOf_6403c_35 ?_
  have u15 : (ws ++ [(q, .inl (cy 3, m0, .inr (.inr (.inr (.inr (va_cpy f (fun _ => none) 0 0 (min cap m0)))))))])[k]? = some (b, .inl (cy 3, cap, .inr (.inr (.inr (.inr f))))) := (app_at hk)
  have u16 : (ws ++ [(q, .inl (cy 3, m0, .inr (.inr (.inr (.inr (va_cpy f (fun _ => none) 0 0 (min cap m0)))))))])[ws.length]? = some (q, .inl (cy 3, m0, .inr (.inr (.inr (.inr (va_cpy f (fun _ => none) 0 0 (min cap m0))))))) := (tl_at (by simp))
  refine g_aload_n C dJ7_copyOf_6403c_38 rfl 0 rfl ?_
  exact g_aret (r := (some q)) C rfl (Or.inr ⟨_, rfl⟩) rfl (⟨q, rfl, by rw [cpy_full hf h1]⟩) (Nat.le_of_ble_eq_true rfl) (Nat.le_of_ble_eq_true rfl) dJ7_copyOf_6403c_39
abbrev rmJ7_copyOf_1904c : Room := { frames := 2, cells := 1, slots := 300, locals := 83 }
theorem ydJ7_copyOf_1904c : yJ7_copyOf_1904c.cls ≠ "java/lang/invoke/MethodHandle" ∧ yJ7_copyOf_1904c.cls ≠ "java/lang/invoke/VarHandle" ∧ (parseMethodDescriptor yJ7_copyOf_1904c.desc).map (fun d => d.parameters.length) = some 2 := by decide +kernel
set_option maxRecDepth 100000 in
set_option maxHeartbeats 4000000 in
theorem k_J7_copyOf_1904c (l : Launch) (D : va_G) (cy : Nat → ClassId) (zs : Nat → Nat) (ws : va_W) {k cap b : Nat} {f : Nat → Option Nat}  (m0 : Nat) (hk : ws[k]? = some (b, .inl (cy 3, cap, .inr (.inr (.inr (.inr f)))))) (h1 : cap ≤ m0) (h2 : m0 ≤ 300) (hf : ∀ x, cap ≤ x → f x = none) (hel : ∀ j9 y9, f j9 = some y9 → isF ws y9) : Mq l D cy zs yJ7_copyOf_1904c wsJ7_copyOf_1904c rmJ7_copyOf_1904c [.ref b, .int (nI m0)] ws (fun r w => ∃ q, r = some q ∧ w = ws ++ [(q, .inl (cy 3, m0, .inr (.inr (.inr (.inr f)))))]) := by
  refine Mq.of (lv := [(0, .ref b), (1, .int (nI m0))]) RJ7 ⟨by decide, rfl⟩ rfl (Nat.le_of_ble_eq_true rfl) rfl ?_
  intro p e s m args below meth c A C hnm
  refine g_aload_n C dJ7_copyOf_1904c_0 rfl 0 rfl ?_
  refine g_iload_n C dJ7_copyOf_1904c_1 rfl 1 rfl ?_
  refine g_aload_n C dJ7_copyOf_1904c_2 rfl 0 rfl ?_
  refine g_getC C k hk (C.hw (List.mem_cons_of_mem _ (List.mem_of_getElem? (i := 0) rfl))) (C.hw (List.mem_cons_of_mem _ (List.mem_of_getElem? (i := 1) rfl))) (C.hw (List.mem_cons_of_mem _ (List.mem_of_getElem? (i := 2) rfl))) (C.hw (List.mem_cons_of_mem _ (List.mem_of_getElem? (i := 3) rfl))) (Nat.le_of_ble_eq_true rfl) (Nat.le_of_ble_eq_true rfl) dJ7_copyOf_1904c_3 ?_
  refine g_Sq (st := []) C (k_J7_copyOf_6403c l D cy zs ws m0 hk h1 h2 hf hel) gJ7_copyOf_1904c_J7_copyOf_6403c rfl ydJ7_copyOf_6403c ⟨Nat.le_of_ble_eq_true rfl, Nat.le_of_ble_eq_true rfl⟩ ⟨Nat.le_of_ble_eq_true rfl, Nat.le_of_ble_eq_true rfl⟩ rfl (Nat.le_of_ble_eq_true rfl) dJ7_copyOf_1904c_6 (fun r6 w6 h6 => ?_)
  obtain ⟨q, h6a, h6b⟩ := h6
  subst h6a
  subst h6b
  have u17 : (ws ++ [(q, .inl (cy 3, m0, .inr (.inr (.inr (.inr f)))))])[k]? = some (b, .inl (cy 3, cap, .inr (.inr (.inr (.inr f))))) := (app_at hk)
  have u18 : (ws ++ [(q, .inl (cy 3, m0, .inr (.inr (.inr (.inr f)))))])[ws.length]? = some (q, .inl (cy 3, m0, .inr (.inr (.inr (.inr f))))) := (tl_at (by simp))
  exact g_aret (r := (some q)) C rfl (Or.inr ⟨_, rfl⟩) rfl (⟨q, rfl, rfl⟩) (Nat.le_of_ble_eq_true rfl) (Nat.le_of_ble_eq_true rfl) dJ7_copyOf_1904c_9
abbrev rmJx4a65c_grow_92f84 : Room := { frames := 3, cells := 1, slots := 300, locals := 104 }
theorem ydJx4a65c_grow_92f84 : yJx4a65c_grow_92f84.cls ≠ "java/lang/invoke/MethodHandle" ∧ yJx4a65c_grow_92f84.cls ≠ "java/lang/invoke/VarHandle" ∧ (parseMethodDescriptor yJx4a65c_grow_92f84.desc).map (fun d => d.parameters.length) = some 1 := by decide +kernel
theorem iwJx4a65c_grow_92f84_J : ∀ w ∈ u_ws RJx4a65c TJx4a65c 3, w ∈ wsJx4a65c_grow_92f84 := fun _ h => (List.mem_cons_of_mem _ (List.mem_append_right _ h))
set_option maxRecDepth 100000 in
set_option maxHeartbeats 4000000 in
theorem k_Jx4a65c_grow_92f84 (l : Launch) (D : va_G) (cy : Nat → ClassId) (zs : Nat → Nat) (ws : va_W) {i a ed n : Nat} {md : Int32} {k : Nat} {f : Nat → Option Nat}  (m1 : Nat) (hi : ws[i]? = some (a, .inr (0, [.int md, .ref ed, .int (nI n)]))) (hk : ws[k]? = some (ed, .inl (cy 3, n, .inr (.inr (.inr (.inr f)))))) (hm : m1 = n + 1) (h0 : 0 < n) (h1 : n < 200) (hf : ∀ x, n ≤ x → f x = none) (hel : ∀ j9 y9, f j9 = some y9 → isF ws y9) : Mq l D cy zs yJx4a65c_grow_92f84 wsJx4a65c_grow_92f84 rmJx4a65c_grow_92f84 [.ref a, .int (nI m1)] ws (fun r w => ∃ q m0, n < m0 ∧ m0 ≤ 300 ∧ r = some q ∧ w = (ws.set i (a, .inr (0, [.int md, .ref q, .int (nI n)]))) ++ [(q, .inl (cy 3, m0, .inr (.inr (.inr (.inr f)))))]) := by
  refine Mq.of (lv := [(0, .ref a), (1, .int (nI m1))]) RJx4a65c ⟨by decide, rfl⟩ rfl (Nat.le_of_ble_eq_true rfl) rfl ?_
  intro p e s m args below meth c A C hnm
  refine g_aload_n C dJx4a65c_grow_92f84_0 rfl 0 rfl ?_
  refine g_get (ci := 0) (v := .ref ed) C iwJx4a65c_grow_92f84_J i hi rfl 1 (by decide) (C.hw (List.mem_cons_of_mem _ (List.mem_append_left _ (List.mem_append_left _ (List.mem_of_getElem? (i := 0) rfl))))) (fun _ h9 => h9) rfl dJx4a65c_grow_92f84_1 ?_
  refine g_alen (v := nI n) C k 3 hk rfl rfl dJx4a65c_grow_92f84_4 ?_
  refine g_istore_n (lv' := [(2, .int (nI n)), (0, .ref a), (1, .int (nI m1))]) C dJx4a65c_grow_92f84_5 rfl (by decide) rfl ?_
  refine g_iload_n C dJx4a65c_grow_92f84_6 rfl 0 rfl ?_
  refine g_if_gt (tgt := 20) C dJx4a65c_grow_92f84_7 (by decide) (fun c7 => ?_) (fun c7 => ?_)
  · skip
    have c7 := cz_gt0 (by omega) c7
    refine g_iload_n C dJx4a65c_grow_92f84_20 rfl 0 rfl ?_
    refine g_iload_n C dJx4a65c_grow_92f84_21 rfl 2 rfl ?_
    refine g_iload_n C dJx4a65c_grow_92f84_22 rfl 0 rfl ?_
    refine g_isub (v := nI (m1 - n)) C dJx4a65c_grow_92f84_23 (pk_sub (by omega)) ?_
    refine g_iload_n C dJx4a65c_grow_92f84_24 rfl 0 rfl ?_
    refine g_iconst (v := nI 1) C dJx4a65c_grow_92f84_25 (by decide +kernel) ?_
    refine g_ishr (v := nI (n / 2)) C dJx4a65c_grow_92f84_26 (pk_shrN (by omega) _ 1 (by decide +kernel)) ?_
    refine g_Si (st := []) C (k_J8_newLength_cabcc l D cy zs ws n (m1 - n) (n / 2)  h0 (by omega) (by omega) (by omega)) gJx4a65c_grow_92f84_J8_newLength_cabcc rfl ydJ8_newLength_cabcc ⟨Nat.le_of_ble_eq_true rfl, Nat.le_of_ble_eq_true rfl⟩ ⟨Nat.le_of_ble_eq_true rfl, Nat.le_of_ble_eq_true rfl⟩ rfl (Nat.le_of_ble_eq_true rfl) dJx4a65c_grow_92f84_27 (fun r27 w27 h27 => ?_)
    obtain ⟨h27a, h27b⟩ := h27
    subst h27a
    have h27b := h27b.symm
    subst h27b
    refine g_istore_n (lv' := [(3, .int (nI (n + (max (m1 - n) (n / 2))))), (2, .int (nI n)), (0, .ref a), (1, .int (nI m1))]) C dJx4a65c_grow_92f84_30 rfl (by decide) rfl ?_
    refine g_aload_n C dJx4a65c_grow_92f84_31 rfl 2 rfl ?_
    refine g_aload_n C dJx4a65c_grow_92f84_32 rfl 2 rfl ?_
    refine g_get (ci := 0) (v := .ref ed) C iwJx4a65c_grow_92f84_J i hi rfl 1 (by decide) (C.hw (List.mem_cons_of_mem _ (List.mem_append_left _ (List.mem_append_left _ (List.mem_of_getElem? (i := 0) rfl))))) (fun _ h9 => h9) rfl dJx4a65c_grow_92f84_33 ?_
    refine g_iload_n C dJx4a65c_grow_92f84_36 rfl 0 rfl ?_
    refine g_Sq (st := [.ref a]) C (k_J7_copyOf_1904c l D cy zs ws (n + (max (m1 - n) (n / 2))) hk (by omega) (by omega) hf hel) gJx4a65c_grow_92f84_J7_copyOf_1904c rfl ydJ7_copyOf_1904c ⟨Nat.le_of_ble_eq_true rfl, Nat.le_of_ble_eq_true rfl⟩ ⟨Nat.le_of_ble_eq_true rfl, Nat.le_of_ble_eq_true rfl⟩ rfl (Nat.le_of_ble_eq_true rfl) dJx4a65c_grow_92f84_37 (fun r37 w37 h37 => ?_)
    obtain ⟨q, h37a, h37b⟩ := h37
    subst h37a
    have h37b := h37b.symm
    subst h37b
    have u19 : (ws ++ [(q, .inl (cy 3, n + (max (m1 - n) (n / 2)), .inr (.inr (.inr (.inr f)))))])[i]? = some (a, .inr (0, [.int md, .ref ed, .int (nI n)])) := (app_at hi)
    have u20 : (ws ++ [(q, .inl (cy 3, n + (max (m1 - n) (n / 2)), .inr (.inr (.inr (.inr f)))))])[k]? = some (ed, .inl (cy 3, n, .inr (.inr (.inr (.inr f))))) := (app_at hk)
    have u21 : (ws ++ [(q, .inl (cy 3, n + (max (m1 - n) (n / 2)), .inr (.inr (.inr (.inr f)))))])[ws.length]? = some (q, .inl (cy 3, n + (max (m1 - n) (n / 2)), .inr (.inr (.inr (.inr f))))) := (tl_at (by simp))
    refine g_dup_x1 C dJx4a65c_grow_92f84_40 rfl rfl ?_
    refine g_put (ci := 0) (ty := .array (.object "java/lang/Object")) (v := .ref q) (ws' := (ws.set i (a, .inr (0, [.int md, .ref q, .int (nI n)])) ++ [(q, .inl (cy 3, n + (max (m1 - n) (n / 2)), .inr (.inr (.inr (.inr f)))))])) C iwJx4a65c_grow_92f84_J tyJx4a65c tyJx4a65c_ok nmJx4a65c i u19 rfl 1 (by decide) (C.hw (List.mem_cons_of_mem _ (List.mem_append_left _ (List.mem_append_left _ (List.mem_of_getElem? (i := 0) rfl))))) (fun _ h9 => h9) rfl (by decide +kernel) rfl rfl (Nat.le_of_ble_eq_true rfl) (ap_set hi rfl) dJx4a65c_grow_92f84_41 ?_
    have u22 : (ws.set i (a, .inr (0, [.int md, .ref q, .int (nI n)])) ++ [(q, .inl (cy 3, n + (max (m1 - n) (n / 2)), .inr (.inr (.inr (.inr f)))))])[i]? = some (a, .inr (0, [.int md, .ref q, .int (nI n)])) := (app_at (set_at hi))
    have u23 : (ws.set i (a, .inr (0, [.int md, .ref q, .int (nI n)])) ++ [(q, .inl (cy 3, n + (max (m1 - n) (n / 2)), .inr (.inr (.inr (.inr f)))))])[k]? = some (ed, .inl (cy 3, n, .inr (.inr (.inr (.inr f))))) := (app_at (set_off (pos_ne hi hk (by simp)) hk))
    have u24 : (ws.set i (a, .inr (0, [.int md, .ref q, .int (nI n)])) ++ [(q, .inl (cy 3, n + (max (m1 - n) (n / 2)), .inr (.inr (.inr (.inr f)))))])[ws.length]? = some (q, .inl (cy 3, n + (max (m1 - n) (n / 2)), .inr (.inr (.inr (.inr f))))) := (tl_at (by simp))
    exact g_aret (r := (some q)) C rfl (Or.inr ⟨_, rfl⟩) rfl (⟨q, _, (by omega), (by omega), rfl, rfl⟩) (Nat.le_of_ble_eq_true rfl) (Nat.le_of_ble_eq_true rfl) dJx4a65c_grow_92f84_44
  · skip
    have c7 := cz_gt1 (by omega) c7
    omega -- conv
set_option maxRecDepth 100000 in
set_option maxHeartbeats 4000000 in
theorem k_Jx4a65c_grow_92f840 (l : Launch) (D : va_G) (cy : Nat → ClassId) (zs : Nat → Nat) (ws : va_W) {i a : Nat} {md : Int32}  (m1 : Nat) (hi : ws[i]? = some (a, .inr (0, [.int md, .ref (zs 0), .int (nI 0)]))) (hm : m1 = 1) : Mq l D cy zs yJx4a65c_grow_92f84 wsJx4a65c_grow_92f84 rmJx4a65c_grow_92f84 [.ref a, .int (nI m1)] ws (fun r w => ∃ q m0, 0 < m0 ∧ m0 ≤ 300 ∧ r = some q ∧ w = (ws.set i (a, .inr (0, [.int md, .ref q, .int (nI 0)]))) ++ [(q, .inl (cy 3, m0, .inr (.inr (.inr (.inr (fun _ => none))))))]) := by
  refine Mq.of (lv := [(0, .ref a), (1, .int (nI m1))]) RJx4a65c ⟨by decide, rfl⟩ rfl (Nat.le_of_ble_eq_true rfl) rfl ?_
  intro p e s m args below meth c A C hnm
  refine g_aload_n C dJx4a65c_grow_92f84_0 rfl 0 rfl ?_
  refine g_get (ci := 0) (v := .ref (zs 0)) C iwJx4a65c_grow_92f84_J i hi rfl 1 (by decide) (C.hw (List.mem_cons_of_mem _ (List.mem_append_left _ (List.mem_append_left _ (List.mem_of_getElem? (i := 0) rfl))))) (fun _ h9 => h9) rfl dJx4a65c_grow_92f84_1 ?_
  refine g_tlen C dJx4a65c_grow_92f84_4 ?_
  refine g_istore_n (lv' := [(2, .int (nI 0)), (0, .ref a), (1, .int (nI m1))]) C dJx4a65c_grow_92f84_5 rfl (by decide) rfl ?_
  refine g_iload_n C dJx4a65c_grow_92f84_6 rfl 0 rfl ?_
  refine g_if_gt (tgt := 20) C dJx4a65c_grow_92f84_7 (by decide) (fun c7 => ?_) (fun c7 => ?_)
  · skip
    exact absurd c7 (by decide +kernel)
  · skip
    have c7 := cz_gt1 (by omega) c7
    refine g_aload_n C dJx4a65c_grow_92f84_10 rfl 1 rfl ?_
    refine g_get (ci := 0) (v := .ref (zs 0)) C iwJx4a65c_grow_92f84_J i hi rfl 1 (by decide) (C.hw (List.mem_cons_of_mem _ (List.mem_append_left _ (List.mem_append_left _ (List.mem_of_getElem? (i := 0) rfl))))) (fun _ h9 => h9) rfl dJx4a65c_grow_92f84_11 ?_
    refine g_gets C (C.hw (List.mem_cons_of_mem _ (List.mem_append_left _ (List.mem_append_left _ (List.mem_of_getElem? (i := 1) rfl))))) dJx4a65c_grow_92f84_14 ?_
    refine g_acmp_eq (rx := some (zs 0)) (ry := some (zs 0)) (tgt := 45) C dJx4a65c_grow_92f84_17 (by decide) (fun _ => ?_) (fun h9 => absurd rfl h9)
    refine g_aload_n C dJx4a65c_grow_92f84_45 rfl 1 rfl ?_
    refine g_bipush (v := nI 10) C dJx4a65c_grow_92f84_46 (by decide +kernel) ?_
    refine g_iload_n C dJx4a65c_grow_92f84_48 rfl 2 rfl ?_
    refine g_max (v := nI 10) C (C.hw (List.mem_cons_of_mem _ (List.mem_append_left _ (List.mem_append_left _ (List.mem_of_getElem? (i := 2) rfl))))) (C.hw (List.mem_cons_of_mem _ (List.mem_append_left _ (List.mem_append_left _ (List.mem_of_getElem? (i := 3) rfl))))) (C.hw (List.mem_cons_of_mem _ (List.mem_append_left _ (List.mem_append_left _ (List.mem_of_getElem? (i := 4) rfl))))) (C.hw (List.mem_cons_of_mem _ (List.mem_append_left _ (List.mem_append_left _ (List.mem_of_getElem? (i := 5) rfl))))) (Nat.le_of_ble_eq_true rfl) (Nat.le_of_ble_eq_true rfl) (Nat.le_of_ble_eq_true rfl) (Nat.le_of_ble_eq_true rfl) (by rw [hm]; decide +kernel) dJx4a65c_grow_92f84_49 ?_
    refine g_newq (N' := 10) C (C.hw (List.mem_cons_of_mem _ (List.mem_append_left _ (List.mem_append_left _ (List.mem_of_getElem? (i := 6) rfl))))) (nI_pos (by omega)) (nI_clamp (by omega)) (by omega) (Nat.le_of_ble_eq_true rfl) (show 0 + 10 ≤ 300 by omega) dJx4a65c_grow_92f84_52 (fun q => ?_)
    refine g_widen (k' := 1) (n' := 300) (Nat.le_of_ble_eq_true rfl) (show 0 + 10 ≤ 300 by omega) ?_
    have u25 : (ws ++ [(q, .inl (cy 3, 10, .inr (.inr (.inr (.inr (fun _ => none))))))])[i]? = some (a, .inr (0, [.int md, .ref (zs 0), .int (nI 0)])) := (app_at hi)
    have u26 : (ws ++ [(q, .inl (cy 3, 10, .inr (.inr (.inr (.inr (fun _ => none))))))])[ws.length]? = some (q, .inl (cy 3, 10, .inr (.inr (.inr (.inr (fun _ => none)))))) := (tl_at (by simp))
    refine g_dup_x1 C dJx4a65c_grow_92f84_55 rfl rfl ?_
    refine g_put (ci := 0) (ty := .array (.object "java/lang/Object")) (v := .ref q) (ws' := (ws.set i (a, .inr (0, [.int md, .ref q, .int (nI 0)])) ++ [(q, .inl (cy 3, 10, .inr (.inr (.inr (.inr (fun _ => none))))))])) C iwJx4a65c_grow_92f84_J tyJx4a65c tyJx4a65c_ok nmJx4a65c i u25 rfl 1 (by decide) (C.hw (List.mem_cons_of_mem _ (List.mem_append_left _ (List.mem_append_left _ (List.mem_of_getElem? (i := 0) rfl))))) (fun _ h9 => h9) rfl (by decide +kernel) rfl rfl (Nat.le_of_ble_eq_true rfl) (ap_set hi rfl) dJx4a65c_grow_92f84_56 ?_
    have u27 : (ws.set i (a, .inr (0, [.int md, .ref q, .int (nI 0)])) ++ [(q, .inl (cy 3, 10, .inr (.inr (.inr (.inr (fun _ => none))))))])[i]? = some (a, .inr (0, [.int md, .ref q, .int (nI 0)])) := (app_at (set_at hi))
    have u28 : (ws.set i (a, .inr (0, [.int md, .ref q, .int (nI 0)])) ++ [(q, .inl (cy 3, 10, .inr (.inr (.inr (.inr (fun _ => none))))))])[ws.length]? = some (q, .inl (cy 3, 10, .inr (.inr (.inr (.inr (fun _ => none)))))) := (tl_at (by simp))
    exact g_aret (r := (some q)) C rfl (Or.inr ⟨_, rfl⟩) rfl (⟨q, 10, (by omega), (by omega), rfl, rfl⟩) (Nat.le_of_ble_eq_true rfl) (Nat.le_of_ble_eq_true rfl) dJx4a65c_grow_92f84_59
abbrev rmJx4a65c_grow_d5877 : Room := { frames := 4, cells := 1, slots := 300, locals := 127 }
theorem ydJx4a65c_grow_d5877 : yJx4a65c_grow_d5877.cls ≠ "java/lang/invoke/MethodHandle" ∧ yJx4a65c_grow_d5877.cls ≠ "java/lang/invoke/VarHandle" ∧ (parseMethodDescriptor yJx4a65c_grow_d5877.desc).map (fun d => d.parameters.length) = some 0 := by decide +kernel
theorem iwJx4a65c_grow_d5877_J : ∀ w ∈ u_ws RJx4a65c TJx4a65c 3, w ∈ wsJx4a65c_grow_d5877 := fun _ h => (List.mem_cons_of_mem _ (List.mem_append_right _ h))
set_option maxRecDepth 100000 in
set_option maxHeartbeats 4000000 in
theorem k_Jx4a65c_grow_d5877 (l : Launch) (D : va_G) (cy : Nat → ClassId) (zs : Nat → Nat) (ws : va_W) {i a ed n : Nat} {md : Int32} {k : Nat} {f : Nat → Option Nat}   (hi : ws[i]? = some (a, .inr (0, [.int md, .ref ed, .int (nI n)]))) (hk : ws[k]? = some (ed, .inl (cy 3, n, .inr (.inr (.inr (.inr f)))))) (h0 : 0 < n) (h1 : n < 200) (hf : ∀ x, n ≤ x → f x = none) (hel : ∀ j9 y9, f j9 = some y9 → isF ws y9) : Mq l D cy zs yJx4a65c_grow_d5877 wsJx4a65c_grow_d5877 rmJx4a65c_grow_d5877 [.ref a] ws (fun r w => ∃ q m0, n < m0 ∧ m0 ≤ 300 ∧ r = some q ∧ w = (ws.set i (a, .inr (0, [.int md, .ref q, .int (nI n)]))) ++ [(q, .inl (cy 3, m0, .inr (.inr (.inr (.inr f)))))]) := by
  refine Mq.of (lv := [(0, .ref a)]) RJx4a65c ⟨by decide, rfl⟩ rfl (Nat.le_of_ble_eq_true rfl) rfl ?_
  intro p e s m args below meth c A C hnm
  refine g_aload_n C dJx4a65c_grow_d5877_0 rfl 0 rfl ?_
  refine g_aload_n C dJx4a65c_grow_d5877_1 rfl 0 rfl ?_
  refine g_get (ci := 0) (v := .int (nI n)) C iwJx4a65c_grow_d5877_J i hi rfl 2 (by decide) (C.hw (List.mem_cons_of_mem _ (List.mem_append_left _ (List.mem_append_left _ (List.mem_of_getElem? (i := 0) rfl))))) (fun _ h9 => h9) rfl dJx4a65c_grow_d5877_2 ?_
  refine g_iconst (v := nI 1) C dJx4a65c_grow_d5877_5 (by decide +kernel) ?_
  refine g_iadd (v := nI (n + 1)) C dJx4a65c_grow_d5877_6 (nI_add _ _) ?_
  refine g_Vq (ci := 0) (st := []) C (k_Jx4a65c_grow_92f84 l D cy zs ws (n + 1) hi hk rfl h0 h1 hf hel) gJx4a65c_grow_d5877_Jx4a65c_grow_92f84 rfl ⟨rfl, ydJx4a65c_grow_92f84⟩ i hi rfl ⟨Nat.le_of_ble_eq_true rfl, Nat.le_of_ble_eq_true rfl⟩ ⟨Nat.le_of_ble_eq_true rfl, Nat.le_of_ble_eq_true rfl⟩ rfl (Nat.le_of_ble_eq_true rfl) dJx4a65c_grow_d5877_7 (fun r7 w7 h7 => ?_)
  obtain ⟨q, m0, hq1, hq2, h7a, h7b⟩ := h7
  subst h7a
  have h7b := h7b.symm
  rw [show w7 = (ws.set i (a, .inr (0, [.int md, .ref q, .int (nI n)])) ++ [(q, .inl (cy 3, m0, .inr (.inr (.inr (.inr f)))))]) from (by rw [← h7b] <;> first | rfl | (rw [List.set_set] <;> rfl))]
  have u29 : (ws.set i (a, .inr (0, [.int md, .ref q, .int (nI n)])) ++ [(q, .inl (cy 3, m0, .inr (.inr (.inr (.inr f)))))])[i]? = some (a, .inr (0, [.int md, .ref q, .int (nI n)])) := (app_at (set_at hi))
  have u30 : (ws.set i (a, .inr (0, [.int md, .ref q, .int (nI n)])) ++ [(q, .inl (cy 3, m0, .inr (.inr (.inr (.inr f)))))])[k]? = some (ed, .inl (cy 3, n, .inr (.inr (.inr (.inr f))))) := (app_at (set_off (pos_ne hi hk (by simp)) hk))
  have u31 : (ws.set i (a, .inr (0, [.int md, .ref q, .int (nI n)])) ++ [(q, .inl (cy 3, m0, .inr (.inr (.inr (.inr f)))))])[ws.length]? = some (q, .inl (cy 3, m0, .inr (.inr (.inr (.inr f))))) := (tl_at (by simp))
  exact g_aret (r := (some q)) C rfl (Or.inr ⟨_, rfl⟩) rfl (⟨q, m0, hq1, hq2, rfl, rfl⟩) (Nat.le_of_ble_eq_true rfl) (Nat.le_of_ble_eq_true rfl) dJx4a65c_grow_d5877_10
set_option maxRecDepth 100000 in
set_option maxHeartbeats 4000000 in
theorem k_Jx4a65c_grow_d58770 (l : Launch) (D : va_G) (cy : Nat → ClassId) (zs : Nat → Nat) (ws : va_W) {i a : Nat} {md : Int32}   (hi : ws[i]? = some (a, .inr (0, [.int md, .ref (zs 0), .int (nI 0)])))  : Mq l D cy zs yJx4a65c_grow_d5877 wsJx4a65c_grow_d5877 rmJx4a65c_grow_d5877 [.ref a] ws (fun r w => ∃ q m0, 0 < m0 ∧ m0 ≤ 300 ∧ r = some q ∧ w = (ws.set i (a, .inr (0, [.int md, .ref q, .int (nI 0)]))) ++ [(q, .inl (cy 3, m0, .inr (.inr (.inr (.inr (fun _ => none))))))]) := by
  refine Mq.of (lv := [(0, .ref a)]) RJx4a65c ⟨by decide, rfl⟩ rfl (Nat.le_of_ble_eq_true rfl) rfl ?_
  intro p e s m args below meth c A C hnm
  refine g_aload_n C dJx4a65c_grow_d5877_0 rfl 0 rfl ?_
  refine g_aload_n C dJx4a65c_grow_d5877_1 rfl 0 rfl ?_
  refine g_get (ci := 0) (v := .int (nI 0)) C iwJx4a65c_grow_d5877_J i hi rfl 2 (by decide) (C.hw (List.mem_cons_of_mem _ (List.mem_append_left _ (List.mem_append_left _ (List.mem_of_getElem? (i := 0) rfl))))) (fun _ h9 => h9) rfl dJx4a65c_grow_d5877_2 ?_
  refine g_iconst (v := nI 1) C dJx4a65c_grow_d5877_5 (by decide +kernel) ?_
  refine g_iadd (v := nI 1) C dJx4a65c_grow_d5877_6 (by decide +kernel) ?_
  refine g_Vq (ci := 0) (st := []) C (k_Jx4a65c_grow_92f840 l D cy zs ws 1 hi rfl) gJx4a65c_grow_d5877_Jx4a65c_grow_92f84 rfl ⟨rfl, ydJx4a65c_grow_92f84⟩ i hi rfl ⟨Nat.le_of_ble_eq_true rfl, Nat.le_of_ble_eq_true rfl⟩ ⟨Nat.le_of_ble_eq_true rfl, Nat.le_of_ble_eq_true rfl⟩ rfl (Nat.le_of_ble_eq_true rfl) dJx4a65c_grow_d5877_7 (fun r7 w7 h7 => ?_)
  obtain ⟨q, m0, hq1, hq2, h7a, h7b⟩ := h7
  subst h7a
  have h7b := h7b.symm
  rw [show w7 = (ws.set i (a, .inr (0, [.int md, .ref q, .int (nI 0)])) ++ [(q, .inl (cy 3, m0, .inr (.inr (.inr (.inr (fun _ => none))))))]) from (by rw [← h7b] <;> first | rfl | (rw [List.set_set] <;> rfl))]
  have u32 : (ws.set i (a, .inr (0, [.int md, .ref q, .int (nI 0)])) ++ [(q, .inl (cy 3, m0, .inr (.inr (.inr (.inr (fun _ => none))))))])[i]? = some (a, .inr (0, [.int md, .ref q, .int (nI 0)])) := (app_at (set_at hi))
  have u33 : (ws.set i (a, .inr (0, [.int md, .ref q, .int (nI 0)])) ++ [(q, .inl (cy 3, m0, .inr (.inr (.inr (.inr (fun _ => none))))))])[ws.length]? = some (q, .inl (cy 3, m0, .inr (.inr (.inr (.inr (fun _ => none)))))) := (tl_at (by simp))
  exact g_aret (r := (some q)) C rfl (Or.inr ⟨_, rfl⟩) rfl (⟨q, m0, hq1, hq2, rfl, rfl⟩) (Nat.le_of_ble_eq_true rfl) (Nat.le_of_ble_eq_true rfl) dJx4a65c_grow_d5877_10
abbrev rmJx4a65c_add_7a177 : Room := { frames := 5, cells := 1, slots := 300, locals := 147 }
theorem ydJx4a65c_add_7a177 : yJx4a65c_add_7a177.cls ≠ "java/lang/invoke/MethodHandle" ∧ yJx4a65c_add_7a177.cls ≠ "java/lang/invoke/VarHandle" ∧ (parseMethodDescriptor yJx4a65c_add_7a177.desc).map (fun d => d.parameters.length) = some 2 := by decide +kernel
theorem iwJx4a65c_add_7a177_J : ∀ w ∈ u_ws RJx4a65c TJx4a65c 3, w ∈ wsJx4a65c_add_7a177 := fun _ h => (List.mem_cons_of_mem _ (List.mem_append_right _ h))
set_option maxRecDepth 100000 in
set_option maxHeartbeats 4000000 in
theorem k_Jx4a65c_add_7a177 (l : Launch) (D : va_G) (cy : Nat → ClassId) (zs : Nat → Nat) (ws : va_W) {i a ed n : Nat} {md : Int32} {k cap : Nat} {f : Nat → Option Nat} {z e0 v2 : Nat} {v0 v1 v3 v4 v5 : Int32}  (j : Nat) (hi : ws[i]? = some (a, .inr (0, [.int md, .ref ed, .int (nI n)]))) (hk : ws[k]? = some (ed, .inl (cy 3, cap, .inr (.inr (.inr (.inr f)))))) (hz : ws[z]? = some (e0, .inr (1, [.int v0, .int v1, .ref v2, .int v3, .int v4, .int v5]))) (hj : j ≤ n) (hn : n < cap) (hc : cap ≤ 300) (hel : ∀ j9 y9, f j9 = some y9 → isF ws y9) : Mv l D cy zs yJx4a65c_add_7a177 wsJx4a65c_add_7a177 rmJx4a65c_add_7a177 [.ref a, .int (nI j), .ref e0] ws (fun w => w = (ws.set i (a, .inr (0, [.int (md + (nI 1)), .ref ed, .int (nI (n + 1))]))).set k (ed, .inl (cy 3, cap, .inr (.inr (.inr (.inr (insF f j n e0))))))) := by
  refine Mv.of (lv := [(0, .ref a), (1, .int (nI j)), (2, .ref e0)]) RJx4a65c ⟨by decide, rfl⟩ rfl (Nat.le_of_ble_eq_true rfl) rfl ?_
  intro p e s m args below meth c A C hnm
  refine g_aload_n C dJx4a65c_add_7a177_0 rfl 0 rfl ?_
  refine g_iload_n C dJx4a65c_add_7a177_1 rfl 1 rfl ?_
  refine g_Vv (ci := 0) (st := []) C (k_Jx4a65c_rangeCheckForAdd_d00df l D cy zs ws j hi hj (by omega)) gJx4a65c_add_7a177_Jx4a65c_rangeCheckForAdd_d00df rfl ⟨rfl, ydJx4a65c_rangeCheckForAdd_d00df⟩ i hi rfl ⟨Nat.le_of_ble_eq_true rfl, Nat.le_of_ble_eq_true rfl⟩ ⟨Nat.le_of_ble_eq_true rfl, Nat.le_of_ble_eq_true rfl⟩ rfl (Nat.le_of_ble_eq_true rfl) dJx4a65c_add_7a177_2 (fun w2 h2 => ?_)
  have h2 := h2.symm
  subst h2
  refine g_aload_n C dJx4a65c_add_7a177_5 rfl 0 rfl ?_
  refine g_dup C dJx4a65c_add_7a177_6 rfl ?_
  refine g_get (ci := 0) (v := .int md) C iwJx4a65c_add_7a177_J i hi rfl 0 (by decide) (C.hw (List.mem_cons_of_mem _ (List.mem_append_left _ (List.mem_append_left _ (List.mem_of_getElem? (i := 0) rfl))))) (u_same (C.hw (List.mem_cons_of_mem _ (List.mem_append_left _ (List.mem_append_left _ (List.mem_of_getElem? (i := 1) rfl)))))) rfl dJx4a65c_add_7a177_7 ?_
  refine g_iconst (v := nI 1) C dJx4a65c_add_7a177_10 (by decide +kernel) ?_
  refine g_iadd (v := md + (nI 1)) C dJx4a65c_add_7a177_11 rfl ?_
  refine g_put (ci := 0) (ty := .int) (v := .int (md + (nI 1))) (ws' := (ws.set i (a, .inr (0, [.int (md + (nI 1)), .ref ed, .int (nI n)])))) C iwJx4a65c_add_7a177_J tyJx4a65c tyJx4a65c_ok nmJx4a65c i hi rfl 0 (by decide) (C.hw (List.mem_cons_of_mem _ (List.mem_append_left _ (List.mem_append_left _ (List.mem_of_getElem? (i := 0) rfl))))) (u_same (C.hw (List.mem_cons_of_mem _ (List.mem_append_left _ (List.mem_append_left _ (List.mem_of_getElem? (i := 1) rfl)))))) rfl (by decide +kernel) rfl rfl (Nat.le_of_ble_eq_true rfl) rfl dJx4a65c_add_7a177_12 ?_
  have u34 : (ws.set i (a, .inr (0, [.int (md + (nI 1)), .ref ed, .int (nI n)])))[i]? = some (a, .inr (0, [.int (md + (nI 1)), .ref ed, .int (nI n)])) := (set_at hi)
  have u35 : (ws.set i (a, .inr (0, [.int (md + (nI 1)), .ref ed, .int (nI n)])))[k]? = some (ed, .inl (cy 3, cap, .inr (.inr (.inr (.inr f))))) := (set_off (pos_ne hi hk (by simp)) hk)
  have u36 : (ws.set i (a, .inr (0, [.int (md + (nI 1)), .ref ed, .int (nI n)])))[z]? = some (e0, .inr (1, [.int v0, .int v1, .ref v2, .int v3, .int v4, .int v5])) := (set_off (pos_ne hi hz (by simp)) hz)
  refine g_aload_n C dJx4a65c_add_7a177_15 rfl 0 rfl ?_
  refine g_get (ci := 0) (v := .int (nI n)) C iwJx4a65c_add_7a177_J i u34 rfl 2 (by decide) (C.hw (List.mem_cons_of_mem _ (List.mem_append_left _ (List.mem_append_left _ (List.mem_of_getElem? (i := 2) rfl))))) (fun _ h9 => h9) rfl dJx4a65c_add_7a177_16 ?_
  refine g_dup C dJx4a65c_add_7a177_19 rfl ?_
  refine g_istore_n (lv' := [(3, .int (nI n)), (0, .ref a), (1, .int (nI j)), (2, .ref e0)]) C dJx4a65c_add_7a177_20 rfl (by decide) rfl ?_
  refine g_aload_n C dJx4a65c_add_7a177_21 rfl 1 rfl ?_
  refine g_get (ci := 0) (v := .ref ed) C iwJx4a65c_add_7a177_J i u34 rfl 1 (by decide) (C.hw (List.mem_cons_of_mem _ (List.mem_append_left _ (List.mem_append_left _ (List.mem_of_getElem? (i := 3) rfl))))) (fun _ h9 => h9) rfl dJx4a65c_add_7a177_22 ?_
  refine g_dup C dJx4a65c_add_7a177_25 rfl ?_
  refine g_astore (lv' := [(4, .ref ed), (3, .int (nI n)), (0, .ref a), (1, .int (nI j)), (2, .ref e0)]) C dJx4a65c_add_7a177_26 (by decide) rfl ?_
  refine g_alen (v := nI cap) C k 3 u35 rfl rfl dJx4a65c_add_7a177_28 ?_
  refine g_icmp_ne (tgt := 38) C dJx4a65c_add_7a177_29 (by decide) (fun c29 => ?_) (fun c29 => ?_)
  · skip
    have c29 := c_eq1 (by omega) (by omega) c29
    refine g_aload C dJx4a65c_add_7a177_38 0 rfl ?_
    refine g_iload_n C dJx4a65c_add_7a177_40 rfl 3 rfl ?_
    refine g_aload C dJx4a65c_add_7a177_41 0 rfl ?_
    refine g_iload_n C dJx4a65c_add_7a177_43 rfl 3 rfl ?_
    refine g_iconst (v := nI 1) C dJx4a65c_add_7a177_44 (by decide +kernel) ?_
    refine g_iadd (v := nI (j + 1)) C dJx4a65c_add_7a177_45 (nI_add _ _) ?_
    refine g_iload_n C dJx4a65c_add_7a177_46 rfl 1 rfl ?_
    refine g_iload_n C dJx4a65c_add_7a177_47 rfl 3 rfl ?_
    refine g_isub (v := nI (n - j)) C dJx4a65c_add_7a177_48 (pk_sub (by omega)) ?_
    refine g_copyq (sp := j) (dp := (j + 1)) (z := (n - j)) (ws' := ((ws.set i (a, .inr (0, [.int (md + (nI 1)), .ref ed, .int (nI n)]))).set k (ed, .inl (cy 3, cap, .inr (.inr (.inr (.inr (va_cpy f f j (j + 1) (n - j))))))))) C k k u35 u35 (C.hw (List.mem_cons_of_mem _ (List.mem_append_left _ (List.mem_append_left _ (List.mem_of_getElem? (i := 4) rfl))))) (C.hw (List.mem_cons_of_mem _ (List.mem_append_left _ (List.mem_append_left _ (List.mem_of_getElem? (i := 5) rfl))))) (C.hw (List.mem_cons_of_mem _ (List.mem_append_left _ (List.mem_append_left _ (List.mem_of_getElem? (i := 6) rfl))))) (C.hw (List.mem_cons_of_mem _ (List.mem_append_left _ (List.mem_append_left _ (List.mem_of_getElem? (i := 7) rfl))))) (by omega) (by omega) (by omega) (by omega) (by omega) (fun j9 hj9 y9 hy9 => (isF.set (hel _ _ hy9) hi (fun _ h8 => by simp at h8))) C.2.2.2.2.2.1.2.2.1 (Nat.le_of_ble_eq_true rfl) (Nat.le_of_ble_eq_true rfl) rfl dJx4a65c_add_7a177_49 ?_
    have u37 : ((ws.set i (a, .inr (0, [.int (md + (nI 1)), .ref ed, .int (nI n)]))).set k (ed, .inl (cy 3, cap, .inr (.inr (.inr (.inr (va_cpy f f j (j + 1) (n - j))))))))[i]? = some (a, .inr (0, [.int (md + (nI 1)), .ref ed, .int (nI n)])) := (set_off (pos_ne hk hi (by simp)) (set_at hi))
    have u38 : ((ws.set i (a, .inr (0, [.int (md + (nI 1)), .ref ed, .int (nI n)]))).set k (ed, .inl (cy 3, cap, .inr (.inr (.inr (.inr (va_cpy f f j (j + 1) (n - j))))))))[k]? = some (ed, .inl (cy 3, cap, .inr (.inr (.inr (.inr (va_cpy f f j (j + 1) (n - j))))))) := (set_at (set_off (pos_ne hi hk (by simp)) hk))
    have u39 : ((ws.set i (a, .inr (0, [.int (md + (nI 1)), .ref ed, .int (nI n)]))).set k (ed, .inl (cy 3, cap, .inr (.inr (.inr (.inr (va_cpy f f j (j + 1) (n - j))))))))[z]? = some (e0, .inr (1, [.int v0, .int v1, .ref v2, .int v3, .int v4, .int v5])) := (set_off (pos_ne hk hz (by simp)) (set_off (pos_ne hi hz (by simp)) hz))
    refine g_aload C dJx4a65c_add_7a177_52 0 rfl ?_
    refine g_iload_n C dJx4a65c_add_7a177_54 rfl 3 rfl ?_
    refine g_aload_n C dJx4a65c_add_7a177_55 rfl 4 rfl ?_
    refine g_astq (nn := cap) (ci := 1) (i := nI j) (f := (va_cpy f f j (j + 1) (n - j))) (ws' := ((ws.set i (a, .inr (0, [.int (md + (nI 1)), .ref ed, .int (nI n)]))).set k (ed, .inl (cy 3, cap, .inr (.inr (.inr (.inr (va_up (va_cpy f f j (j + 1) (n - j)) j (some e0))))))))) C k z u38 C.2.2.2.2.2.1.2.2.1 u39 rfl (vp_in_nI (by omega) (by omega)) (by rw [nI_clamp (by omega)] <;> exact (by rw [List.set_set] <;> rfl)) dJx4a65c_add_7a177_56 ?_
    have u40 : ((ws.set i (a, .inr (0, [.int (md + (nI 1)), .ref ed, .int (nI n)]))).set k (ed, .inl (cy 3, cap, .inr (.inr (.inr (.inr (va_up (va_cpy f f j (j + 1) (n - j)) j (some e0))))))))[i]? = some (a, .inr (0, [.int (md + (nI 1)), .ref ed, .int (nI n)])) := (set_off (pos_ne hk hi (by simp)) (set_at hi))
    have u41 : ((ws.set i (a, .inr (0, [.int (md + (nI 1)), .ref ed, .int (nI n)]))).set k (ed, .inl (cy 3, cap, .inr (.inr (.inr (.inr (va_up (va_cpy f f j (j + 1) (n - j)) j (some e0))))))))[k]? = some (ed, .inl (cy 3, cap, .inr (.inr (.inr (.inr (va_up (va_cpy f f j (j + 1) (n - j)) j (some e0))))))) := (set_at (set_off (pos_ne hi hk (by simp)) hk))
    have u42 : ((ws.set i (a, .inr (0, [.int (md + (nI 1)), .ref ed, .int (nI n)]))).set k (ed, .inl (cy 3, cap, .inr (.inr (.inr (.inr (va_up (va_cpy f f j (j + 1) (n - j)) j (some e0))))))))[z]? = some (e0, .inr (1, [.int v0, .int v1, .ref v2, .int v3, .int v4, .int v5])) := (set_off (pos_ne hk hz (by simp)) (set_off (pos_ne hi hz (by simp)) hz))
    refine g_aload_n C dJx4a65c_add_7a177_57 rfl 2 rfl ?_
    refine g_iload_n C dJx4a65c_add_7a177_58 rfl 1 rfl ?_
    refine g_iconst (v := nI 1) C dJx4a65c_add_7a177_59 (by decide +kernel) ?_
    refine g_iadd (v := nI (n + 1)) C dJx4a65c_add_7a177_60 (nI_add _ _) ?_
    refine g_put (ci := 0) (ty := .int) (v := .int (nI (n + 1))) (ws' := ((ws.set i (a, .inr (0, [.int (md + (nI 1)), .ref ed, .int (nI (n + 1))]))).set k (ed, .inl (cy 3, cap, .inr (.inr (.inr (.inr (va_up (va_cpy f f j (j + 1) (n - j)) j (some e0))))))))) C iwJx4a65c_add_7a177_J tyJx4a65c tyJx4a65c_ok nmJx4a65c i u40 rfl 2 (by decide) (C.hw (List.mem_cons_of_mem _ (List.mem_append_left _ (List.mem_append_left _ (List.mem_of_getElem? (i := 2) rfl))))) (fun _ h9 => h9) rfl (by decide +kernel) rfl rfl (Nat.le_of_ble_eq_true rfl) (by rw [List.set_comm _ _ (pos_ne hk hi (by simp)), List.set_set] <;> rfl) dJx4a65c_add_7a177_61 ?_
    have u43 : ((ws.set i (a, .inr (0, [.int (md + (nI 1)), .ref ed, .int (nI (n + 1))]))).set k (ed, .inl (cy 3, cap, .inr (.inr (.inr (.inr (va_up (va_cpy f f j (j + 1) (n - j)) j (some e0))))))))[i]? = some (a, .inr (0, [.int (md + (nI 1)), .ref ed, .int (nI (n + 1))])) := (set_off (pos_ne hk hi (by simp)) (set_at hi))
    have u44 : ((ws.set i (a, .inr (0, [.int (md + (nI 1)), .ref ed, .int (nI (n + 1))]))).set k (ed, .inl (cy 3, cap, .inr (.inr (.inr (.inr (va_up (va_cpy f f j (j + 1) (n - j)) j (some e0))))))))[k]? = some (ed, .inl (cy 3, cap, .inr (.inr (.inr (.inr (va_up (va_cpy f f j (j + 1) (n - j)) j (some e0))))))) := (set_at (set_off (pos_ne hi hk (by simp)) hk))
    have u45 : ((ws.set i (a, .inr (0, [.int (md + (nI 1)), .ref ed, .int (nI (n + 1))]))).set k (ed, .inl (cy 3, cap, .inr (.inr (.inr (.inr (va_up (va_cpy f f j (j + 1) (n - j)) j (some e0))))))))[z]? = some (e0, .inr (1, [.int v0, .int v1, .ref v2, .int v3, .int v4, .int v5])) := (set_off (pos_ne hk hz (by simp)) (set_off (pos_ne hi hz (by simp)) hz))
    exact g_vret C rfl rfl (Nat.le_of_ble_eq_true rfl) (Nat.le_of_ble_eq_true rfl) dJx4a65c_add_7a177_64
  · skip
    have c29 := c_eq0 (by omega) (by omega) c29
    omega -- conv
set_option maxRecDepth 100000 in
set_option maxHeartbeats 4000000 in
theorem k_Jx4a65c_add_7a1771 (l : Launch) (D : va_G) (cy : Nat → ClassId) (zs : Nat → Nat) (ws : va_W) {i a ed n : Nat} {md : Int32} {k : Nat} {f : Nat → Option Nat} {z e0 v2 : Nat} {v0 v1 v3 v4 v5 : Int32}  (j : Nat) (hi : ws[i]? = some (a, .inr (0, [.int md, .ref ed, .int (nI n)]))) (hk : ws[k]? = some (ed, .inl (cy 3, n, .inr (.inr (.inr (.inr f)))))) (hz : ws[z]? = some (e0, .inr (1, [.int v0, .int v1, .ref v2, .int v3, .int v4, .int v5]))) (hj : j ≤ n) (h0 : 0 < n) (h1 : n < 200) (hf : ∀ x, n ≤ x → f x = none) (hel : ∀ j9 y9, f j9 = some y9 → isF ws y9) : Mv l D cy zs yJx4a65c_add_7a177 wsJx4a65c_add_7a177 rmJx4a65c_add_7a177 [.ref a, .int (nI j), .ref e0] ws (fun w => ∃ q m0, n < m0 ∧ m0 ≤ 300 ∧ w = (ws.set i (a, .inr (0, [.int (md + (nI 1)), .ref q, .int (nI (n + 1))]))) ++ [(q, .inl (cy 3, m0, .inr (.inr (.inr (.inr (insF f j n e0))))))]) := by
  refine Mv.of (lv := [(0, .ref a), (1, .int (nI j)), (2, .ref e0)]) RJx4a65c ⟨by decide, rfl⟩ rfl (Nat.le_of_ble_eq_true rfl) rfl ?_
  intro p e s m args below meth c A C hnm
  refine g_aload_n C dJx4a65c_add_7a177_0 rfl 0 rfl ?_
  refine g_iload_n C dJx4a65c_add_7a177_1 rfl 1 rfl ?_
  refine g_Vv (ci := 0) (st := []) C (k_Jx4a65c_rangeCheckForAdd_d00df l D cy zs ws j hi hj (by omega)) gJx4a65c_add_7a177_Jx4a65c_rangeCheckForAdd_d00df rfl ⟨rfl, ydJx4a65c_rangeCheckForAdd_d00df⟩ i hi rfl ⟨Nat.le_of_ble_eq_true rfl, Nat.le_of_ble_eq_true rfl⟩ ⟨Nat.le_of_ble_eq_true rfl, Nat.le_of_ble_eq_true rfl⟩ rfl (Nat.le_of_ble_eq_true rfl) dJx4a65c_add_7a177_2 (fun w2 h2 => ?_)
  have h2 := h2.symm
  subst h2
  refine g_aload_n C dJx4a65c_add_7a177_5 rfl 0 rfl ?_
  refine g_dup C dJx4a65c_add_7a177_6 rfl ?_
  refine g_get (ci := 0) (v := .int md) C iwJx4a65c_add_7a177_J i hi rfl 0 (by decide) (C.hw (List.mem_cons_of_mem _ (List.mem_append_left _ (List.mem_append_left _ (List.mem_of_getElem? (i := 0) rfl))))) (u_same (C.hw (List.mem_cons_of_mem _ (List.mem_append_left _ (List.mem_append_left _ (List.mem_of_getElem? (i := 1) rfl)))))) rfl dJx4a65c_add_7a177_7 ?_
  refine g_iconst (v := nI 1) C dJx4a65c_add_7a177_10 (by decide +kernel) ?_
  refine g_iadd (v := md + (nI 1)) C dJx4a65c_add_7a177_11 rfl ?_
  refine g_put (ci := 0) (ty := .int) (v := .int (md + (nI 1))) (ws' := (ws.set i (a, .inr (0, [.int (md + (nI 1)), .ref ed, .int (nI n)])))) C iwJx4a65c_add_7a177_J tyJx4a65c tyJx4a65c_ok nmJx4a65c i hi rfl 0 (by decide) (C.hw (List.mem_cons_of_mem _ (List.mem_append_left _ (List.mem_append_left _ (List.mem_of_getElem? (i := 0) rfl))))) (u_same (C.hw (List.mem_cons_of_mem _ (List.mem_append_left _ (List.mem_append_left _ (List.mem_of_getElem? (i := 1) rfl)))))) rfl (by decide +kernel) rfl rfl (Nat.le_of_ble_eq_true rfl) rfl dJx4a65c_add_7a177_12 ?_
  have u46 : (ws.set i (a, .inr (0, [.int (md + (nI 1)), .ref ed, .int (nI n)])))[i]? = some (a, .inr (0, [.int (md + (nI 1)), .ref ed, .int (nI n)])) := (set_at hi)
  have u47 : (ws.set i (a, .inr (0, [.int (md + (nI 1)), .ref ed, .int (nI n)])))[k]? = some (ed, .inl (cy 3, n, .inr (.inr (.inr (.inr f))))) := (set_off (pos_ne hi hk (by simp)) hk)
  have u48 : (ws.set i (a, .inr (0, [.int (md + (nI 1)), .ref ed, .int (nI n)])))[z]? = some (e0, .inr (1, [.int v0, .int v1, .ref v2, .int v3, .int v4, .int v5])) := (set_off (pos_ne hi hz (by simp)) hz)
  refine g_aload_n C dJx4a65c_add_7a177_15 rfl 0 rfl ?_
  refine g_get (ci := 0) (v := .int (nI n)) C iwJx4a65c_add_7a177_J i u46 rfl 2 (by decide) (C.hw (List.mem_cons_of_mem _ (List.mem_append_left _ (List.mem_append_left _ (List.mem_of_getElem? (i := 2) rfl))))) (fun _ h9 => h9) rfl dJx4a65c_add_7a177_16 ?_
  refine g_dup C dJx4a65c_add_7a177_19 rfl ?_
  refine g_istore_n (lv' := [(3, .int (nI n)), (0, .ref a), (1, .int (nI j)), (2, .ref e0)]) C dJx4a65c_add_7a177_20 rfl (by decide) rfl ?_
  refine g_aload_n C dJx4a65c_add_7a177_21 rfl 1 rfl ?_
  refine g_get (ci := 0) (v := .ref ed) C iwJx4a65c_add_7a177_J i u46 rfl 1 (by decide) (C.hw (List.mem_cons_of_mem _ (List.mem_append_left _ (List.mem_append_left _ (List.mem_of_getElem? (i := 3) rfl))))) (fun _ h9 => h9) rfl dJx4a65c_add_7a177_22 ?_
  refine g_dup C dJx4a65c_add_7a177_25 rfl ?_
  refine g_astore (lv' := [(4, .ref ed), (3, .int (nI n)), (0, .ref a), (1, .int (nI j)), (2, .ref e0)]) C dJx4a65c_add_7a177_26 (by decide) rfl ?_
  refine g_alen (v := nI n) C k 3 u47 rfl rfl dJx4a65c_add_7a177_28 ?_
  refine g_icmp_ne (tgt := 38) C dJx4a65c_add_7a177_29 (by decide) (fun c29 => ?_) (fun c29 => ?_)
  · skip
    have c29 := c_eq1 (by omega) (by omega) c29
    omega -- conv
  · skip
    have c29 := c_eq0 (by omega) (by omega) c29
    refine g_aload_n C dJx4a65c_add_7a177_32 rfl 2 rfl ?_
    refine g_Vq (ci := 0) (st := []) C (k_Jx4a65c_grow_d5877 l D cy zs (ws.set i (a, .inr (0, [.int (md + (nI 1)), .ref ed, .int (nI n)])))  u46 u47 h0 h1 hf (fun _ _ h9 => isF.set (hel _ _ h9) hi (fun _ h8 => by simp at h8))) gJx4a65c_add_7a177_Jx4a65c_grow_d5877 rfl ⟨rfl, ydJx4a65c_grow_d5877⟩ i u46 rfl ⟨Nat.le_of_ble_eq_true rfl, Nat.le_of_ble_eq_true rfl⟩ ⟨Nat.le_of_ble_eq_true rfl, Nat.le_of_ble_eq_true rfl⟩ rfl (Nat.le_of_ble_eq_true rfl) dJx4a65c_add_7a177_33 (fun r33 w33 h33 => ?_)
    obtain ⟨q, m0, hq1, hq2, h33a, h33b⟩ := h33
    subst h33a
    have h33b := h33b.symm
    rw [show w33 = (ws.set i (a, .inr (0, [.int (md + (nI 1)), .ref q, .int (nI n)])) ++ [(q, .inl (cy 3, m0, .inr (.inr (.inr (.inr f)))))]) from (by rw [← h33b] <;> first | rfl | (rw [List.set_set] <;> rfl))]
    have u49 : (ws.set i (a, .inr (0, [.int (md + (nI 1)), .ref q, .int (nI n)])) ++ [(q, .inl (cy 3, m0, .inr (.inr (.inr (.inr f)))))])[i]? = some (a, .inr (0, [.int (md + (nI 1)), .ref q, .int (nI n)])) := (app_at (set_at hi))
    have u50 : (ws.set i (a, .inr (0, [.int (md + (nI 1)), .ref q, .int (nI n)])) ++ [(q, .inl (cy 3, m0, .inr (.inr (.inr (.inr f)))))])[k]? = some (ed, .inl (cy 3, n, .inr (.inr (.inr (.inr f))))) := (app_at (set_off (pos_ne hi hk (by simp)) hk))
    have u51 : (ws.set i (a, .inr (0, [.int (md + (nI 1)), .ref q, .int (nI n)])) ++ [(q, .inl (cy 3, m0, .inr (.inr (.inr (.inr f)))))])[z]? = some (e0, .inr (1, [.int v0, .int v1, .ref v2, .int v3, .int v4, .int v5])) := (app_at (set_off (pos_ne hi hz (by simp)) hz))
    have u52 : (ws.set i (a, .inr (0, [.int (md + (nI 1)), .ref q, .int (nI n)])) ++ [(q, .inl (cy 3, m0, .inr (.inr (.inr (.inr f)))))])[ws.length]? = some (q, .inl (cy 3, m0, .inr (.inr (.inr (.inr f))))) := (tl_at (by simp))
    refine g_astore (lv' := [(4, .ref q), (3, .int (nI n)), (0, .ref a), (1, .int (nI j)), (2, .ref e0)]) C dJx4a65c_add_7a177_36 (by decide) rfl ?_
    refine g_aload C dJx4a65c_add_7a177_38 0 rfl ?_
    refine g_iload_n C dJx4a65c_add_7a177_40 rfl 3 rfl ?_
    refine g_aload C dJx4a65c_add_7a177_41 0 rfl ?_
    refine g_iload_n C dJx4a65c_add_7a177_43 rfl 3 rfl ?_
    refine g_iconst (v := nI 1) C dJx4a65c_add_7a177_44 (by decide +kernel) ?_
    refine g_iadd (v := nI (j + 1)) C dJx4a65c_add_7a177_45 (nI_add _ _) ?_
    refine g_iload_n C dJx4a65c_add_7a177_46 rfl 1 rfl ?_
    refine g_iload_n C dJx4a65c_add_7a177_47 rfl 3 rfl ?_
    refine g_isub (v := nI (n - j)) C dJx4a65c_add_7a177_48 (pk_sub (by omega)) ?_
    refine g_copyq (sp := j) (dp := (j + 1)) (z := (n - j)) (ws' := (ws.set i (a, .inr (0, [.int (md + (nI 1)), .ref q, .int (nI n)])) ++ [(q, .inl (cy 3, m0, .inr (.inr (.inr (.inr (va_cpy f f j (j + 1) (n - j)))))))])) C ws.length ws.length u52 u52 (C.hw (List.mem_cons_of_mem _ (List.mem_append_left _ (List.mem_append_left _ (List.mem_of_getElem? (i := 4) rfl))))) (C.hw (List.mem_cons_of_mem _ (List.mem_append_left _ (List.mem_append_left _ (List.mem_of_getElem? (i := 5) rfl))))) (C.hw (List.mem_cons_of_mem _ (List.mem_append_left _ (List.mem_append_left _ (List.mem_of_getElem? (i := 6) rfl))))) (C.hw (List.mem_cons_of_mem _ (List.mem_append_left _ (List.mem_append_left _ (List.mem_of_getElem? (i := 7) rfl))))) (by omega) (by omega) (by omega) (by omega) (by omega) (fun j9 hj9 y9 hy9 => (isF.app (isF.set (hel _ _ hy9) hi (fun _ h8 => by simp at h8)))) C.2.2.2.2.2.1.2.2.1 (Nat.le_of_ble_eq_true rfl) (Nat.le_of_ble_eq_true rfl) (tl_set (by simp)) dJx4a65c_add_7a177_49 ?_
    have u53 : (ws.set i (a, .inr (0, [.int (md + (nI 1)), .ref q, .int (nI n)])) ++ [(q, .inl (cy 3, m0, .inr (.inr (.inr (.inr (va_cpy f f j (j + 1) (n - j)))))))])[i]? = some (a, .inr (0, [.int (md + (nI 1)), .ref q, .int (nI n)])) := (app_at (set_at hi))
    have u54 : (ws.set i (a, .inr (0, [.int (md + (nI 1)), .ref q, .int (nI n)])) ++ [(q, .inl (cy 3, m0, .inr (.inr (.inr (.inr (va_cpy f f j (j + 1) (n - j)))))))])[k]? = some (ed, .inl (cy 3, n, .inr (.inr (.inr (.inr f))))) := (app_at (set_off (pos_ne hi hk (by simp)) hk))
    have u55 : (ws.set i (a, .inr (0, [.int (md + (nI 1)), .ref q, .int (nI n)])) ++ [(q, .inl (cy 3, m0, .inr (.inr (.inr (.inr (va_cpy f f j (j + 1) (n - j)))))))])[z]? = some (e0, .inr (1, [.int v0, .int v1, .ref v2, .int v3, .int v4, .int v5])) := (app_at (set_off (pos_ne hi hz (by simp)) hz))
    have u56 : (ws.set i (a, .inr (0, [.int (md + (nI 1)), .ref q, .int (nI n)])) ++ [(q, .inl (cy 3, m0, .inr (.inr (.inr (.inr (va_cpy f f j (j + 1) (n - j)))))))])[ws.length]? = some (q, .inl (cy 3, m0, .inr (.inr (.inr (.inr (va_cpy f f j (j + 1) (n - j))))))) := (tl_at (by simp))
    refine g_aload C dJx4a65c_add_7a177_52 0 rfl ?_
    refine g_iload_n C dJx4a65c_add_7a177_54 rfl 3 rfl ?_
    refine g_aload_n C dJx4a65c_add_7a177_55 rfl 4 rfl ?_
    refine g_astq (nn := m0) (ci := 1) (i := nI j) (f := (va_cpy f f j (j + 1) (n - j))) (ws' := (ws.set i (a, .inr (0, [.int (md + (nI 1)), .ref q, .int (nI n)])) ++ [(q, .inl (cy 3, m0, .inr (.inr (.inr (.inr (va_up (va_cpy f f j (j + 1) (n - j)) j (some e0)))))))])) C ws.length z u56 C.2.2.2.2.2.1.2.2.1 u55 rfl (vp_in_nI (by omega) (by omega)) (by rw [nI_clamp (by omega)] <;> exact (tl_set (by simp))) dJx4a65c_add_7a177_56 ?_
    have u57 : (ws.set i (a, .inr (0, [.int (md + (nI 1)), .ref q, .int (nI n)])) ++ [(q, .inl (cy 3, m0, .inr (.inr (.inr (.inr (va_up (va_cpy f f j (j + 1) (n - j)) j (some e0)))))))])[i]? = some (a, .inr (0, [.int (md + (nI 1)), .ref q, .int (nI n)])) := (app_at (set_at hi))
    have u58 : (ws.set i (a, .inr (0, [.int (md + (nI 1)), .ref q, .int (nI n)])) ++ [(q, .inl (cy 3, m0, .inr (.inr (.inr (.inr (va_up (va_cpy f f j (j + 1) (n - j)) j (some e0)))))))])[k]? = some (ed, .inl (cy 3, n, .inr (.inr (.inr (.inr f))))) := (app_at (set_off (pos_ne hi hk (by simp)) hk))
    have u59 : (ws.set i (a, .inr (0, [.int (md + (nI 1)), .ref q, .int (nI n)])) ++ [(q, .inl (cy 3, m0, .inr (.inr (.inr (.inr (va_up (va_cpy f f j (j + 1) (n - j)) j (some e0)))))))])[z]? = some (e0, .inr (1, [.int v0, .int v1, .ref v2, .int v3, .int v4, .int v5])) := (app_at (set_off (pos_ne hi hz (by simp)) hz))
    have u60 : (ws.set i (a, .inr (0, [.int (md + (nI 1)), .ref q, .int (nI n)])) ++ [(q, .inl (cy 3, m0, .inr (.inr (.inr (.inr (va_up (va_cpy f f j (j + 1) (n - j)) j (some e0)))))))])[ws.length]? = some (q, .inl (cy 3, m0, .inr (.inr (.inr (.inr (va_up (va_cpy f f j (j + 1) (n - j)) j (some e0))))))) := (tl_at (by simp))
    refine g_aload_n C dJx4a65c_add_7a177_57 rfl 2 rfl ?_
    refine g_iload_n C dJx4a65c_add_7a177_58 rfl 1 rfl ?_
    refine g_iconst (v := nI 1) C dJx4a65c_add_7a177_59 (by decide +kernel) ?_
    refine g_iadd (v := nI (n + 1)) C dJx4a65c_add_7a177_60 (nI_add _ _) ?_
    refine g_put (ci := 0) (ty := .int) (v := .int (nI (n + 1))) (ws' := (ws.set i (a, .inr (0, [.int (md + (nI 1)), .ref q, .int (nI (n + 1))])) ++ [(q, .inl (cy 3, m0, .inr (.inr (.inr (.inr (va_up (va_cpy f f j (j + 1) (n - j)) j (some e0)))))))])) C iwJx4a65c_add_7a177_J tyJx4a65c tyJx4a65c_ok nmJx4a65c i u57 rfl 2 (by decide) (C.hw (List.mem_cons_of_mem _ (List.mem_append_left _ (List.mem_append_left _ (List.mem_of_getElem? (i := 2) rfl))))) (fun _ h9 => h9) rfl (by decide +kernel) rfl rfl (Nat.le_of_ble_eq_true rfl) (ap_set (set_at hi) (by rw [List.set_set] <;> rfl)) dJx4a65c_add_7a177_61 ?_
    have u61 : (ws.set i (a, .inr (0, [.int (md + (nI 1)), .ref q, .int (nI (n + 1))])) ++ [(q, .inl (cy 3, m0, .inr (.inr (.inr (.inr (va_up (va_cpy f f j (j + 1) (n - j)) j (some e0)))))))])[i]? = some (a, .inr (0, [.int (md + (nI 1)), .ref q, .int (nI (n + 1))])) := (app_at (set_at hi))
    have u62 : (ws.set i (a, .inr (0, [.int (md + (nI 1)), .ref q, .int (nI (n + 1))])) ++ [(q, .inl (cy 3, m0, .inr (.inr (.inr (.inr (va_up (va_cpy f f j (j + 1) (n - j)) j (some e0)))))))])[k]? = some (ed, .inl (cy 3, n, .inr (.inr (.inr (.inr f))))) := (app_at (set_off (pos_ne hi hk (by simp)) hk))
    have u63 : (ws.set i (a, .inr (0, [.int (md + (nI 1)), .ref q, .int (nI (n + 1))])) ++ [(q, .inl (cy 3, m0, .inr (.inr (.inr (.inr (va_up (va_cpy f f j (j + 1) (n - j)) j (some e0)))))))])[z]? = some (e0, .inr (1, [.int v0, .int v1, .ref v2, .int v3, .int v4, .int v5])) := (app_at (set_off (pos_ne hi hz (by simp)) hz))
    have u64 : (ws.set i (a, .inr (0, [.int (md + (nI 1)), .ref q, .int (nI (n + 1))])) ++ [(q, .inl (cy 3, m0, .inr (.inr (.inr (.inr (va_up (va_cpy f f j (j + 1) (n - j)) j (some e0)))))))])[ws.length]? = some (q, .inl (cy 3, m0, .inr (.inr (.inr (.inr (va_up (va_cpy f f j (j + 1) (n - j)) j (some e0))))))) := (tl_at (by simp))
    exact g_vret C rfl (⟨q, m0, hq1, hq2, rfl⟩) (Nat.le_of_ble_eq_true rfl) (Nat.le_of_ble_eq_true rfl) dJx4a65c_add_7a177_64
set_option maxRecDepth 100000 in
set_option maxHeartbeats 4000000 in
theorem k_Jx4a65c_add_7a1770 (l : Launch) (D : va_G) (cy : Nat → ClassId) (zs : Nat → Nat) (ws : va_W) {i a : Nat} {md : Int32} {z e0 v2 : Nat} {v0 v1 v3 v4 v5 : Int32}  (j : Nat) (hi : ws[i]? = some (a, .inr (0, [.int md, .ref (zs 0), .int (nI 0)]))) (hz : ws[z]? = some (e0, .inr (1, [.int v0, .int v1, .ref v2, .int v3, .int v4, .int v5]))) (hj : j ≤ 0) : Mv l D cy zs yJx4a65c_add_7a177 wsJx4a65c_add_7a177 rmJx4a65c_add_7a177 [.ref a, .int (nI j), .ref e0] ws (fun w => ∃ q m0, 0 < m0 ∧ m0 ≤ 300 ∧ w = (ws.set i (a, .inr (0, [.int (md + (nI 1)), .ref q, .int (nI (0 + 1))]))) ++ [(q, .inl (cy 3, m0, .inr (.inr (.inr (.inr (insF (fun _ => none) j 0 e0))))))]) := by
  refine Mv.of (lv := [(0, .ref a), (1, .int (nI j)), (2, .ref e0)]) RJx4a65c ⟨by decide, rfl⟩ rfl (Nat.le_of_ble_eq_true rfl) rfl ?_
  intro p e s m args below meth c A C hnm
  refine g_aload_n C dJx4a65c_add_7a177_0 rfl 0 rfl ?_
  refine g_iload_n C dJx4a65c_add_7a177_1 rfl 1 rfl ?_
  refine g_Vv (ci := 0) (st := []) C (k_Jx4a65c_rangeCheckForAdd_d00df l D cy zs ws j hi hj (by omega)) gJx4a65c_add_7a177_Jx4a65c_rangeCheckForAdd_d00df rfl ⟨rfl, ydJx4a65c_rangeCheckForAdd_d00df⟩ i hi rfl ⟨Nat.le_of_ble_eq_true rfl, Nat.le_of_ble_eq_true rfl⟩ ⟨Nat.le_of_ble_eq_true rfl, Nat.le_of_ble_eq_true rfl⟩ rfl (Nat.le_of_ble_eq_true rfl) dJx4a65c_add_7a177_2 (fun w2 h2 => ?_)
  have h2 := h2.symm
  subst h2
  refine g_aload_n C dJx4a65c_add_7a177_5 rfl 0 rfl ?_
  refine g_dup C dJx4a65c_add_7a177_6 rfl ?_
  refine g_get (ci := 0) (v := .int md) C iwJx4a65c_add_7a177_J i hi rfl 0 (by decide) (C.hw (List.mem_cons_of_mem _ (List.mem_append_left _ (List.mem_append_left _ (List.mem_of_getElem? (i := 0) rfl))))) (u_same (C.hw (List.mem_cons_of_mem _ (List.mem_append_left _ (List.mem_append_left _ (List.mem_of_getElem? (i := 1) rfl)))))) rfl dJx4a65c_add_7a177_7 ?_
  refine g_iconst (v := nI 1) C dJx4a65c_add_7a177_10 (by decide +kernel) ?_
  refine g_iadd (v := md + (nI 1)) C dJx4a65c_add_7a177_11 rfl ?_
  refine g_put (ci := 0) (ty := .int) (v := .int (md + (nI 1))) (ws' := (ws.set i (a, .inr (0, [.int (md + (nI 1)), .ref (zs 0), .int (nI 0)])))) C iwJx4a65c_add_7a177_J tyJx4a65c tyJx4a65c_ok nmJx4a65c i hi rfl 0 (by decide) (C.hw (List.mem_cons_of_mem _ (List.mem_append_left _ (List.mem_append_left _ (List.mem_of_getElem? (i := 0) rfl))))) (u_same (C.hw (List.mem_cons_of_mem _ (List.mem_append_left _ (List.mem_append_left _ (List.mem_of_getElem? (i := 1) rfl)))))) rfl (by decide +kernel) rfl rfl (Nat.le_of_ble_eq_true rfl) rfl dJx4a65c_add_7a177_12 ?_
  have u65 : (ws.set i (a, .inr (0, [.int (md + (nI 1)), .ref (zs 0), .int (nI 0)])))[i]? = some (a, .inr (0, [.int (md + (nI 1)), .ref (zs 0), .int (nI 0)])) := (set_at hi)
  have u66 : (ws.set i (a, .inr (0, [.int (md + (nI 1)), .ref (zs 0), .int (nI 0)])))[z]? = some (e0, .inr (1, [.int v0, .int v1, .ref v2, .int v3, .int v4, .int v5])) := (set_off (pos_ne hi hz (by simp)) hz)
  refine g_aload_n C dJx4a65c_add_7a177_15 rfl 0 rfl ?_
  refine g_get (ci := 0) (v := .int (nI 0)) C iwJx4a65c_add_7a177_J i u65 rfl 2 (by decide) (C.hw (List.mem_cons_of_mem _ (List.mem_append_left _ (List.mem_append_left _ (List.mem_of_getElem? (i := 2) rfl))))) (fun _ h9 => h9) rfl dJx4a65c_add_7a177_16 ?_
  refine g_dup C dJx4a65c_add_7a177_19 rfl ?_
  refine g_istore_n (lv' := [(3, .int (nI 0)), (0, .ref a), (1, .int (nI j)), (2, .ref e0)]) C dJx4a65c_add_7a177_20 rfl (by decide) rfl ?_
  refine g_aload_n C dJx4a65c_add_7a177_21 rfl 1 rfl ?_
  refine g_get (ci := 0) (v := .ref (zs 0)) C iwJx4a65c_add_7a177_J i u65 rfl 1 (by decide) (C.hw (List.mem_cons_of_mem _ (List.mem_append_left _ (List.mem_append_left _ (List.mem_of_getElem? (i := 3) rfl))))) (fun _ h9 => h9) rfl dJx4a65c_add_7a177_22 ?_
  refine g_dup C dJx4a65c_add_7a177_25 rfl ?_
  refine g_astore (lv' := [(4, .ref (zs 0)), (3, .int (nI 0)), (0, .ref a), (1, .int (nI j)), (2, .ref e0)]) C dJx4a65c_add_7a177_26 (by decide) rfl ?_
  refine g_tlen C dJx4a65c_add_7a177_28 ?_
  refine g_icmp_ne (tgt := 38) C dJx4a65c_add_7a177_29 (by decide) (fun c29 => ?_) (fun c29 => ?_)
  · skip
    exact absurd c29 (by decide +kernel)
  · skip
    have c29 := c_eq0 (by omega) (by omega) c29
    refine g_aload_n C dJx4a65c_add_7a177_32 rfl 2 rfl ?_
    refine g_Vq (ci := 0) (st := []) C (k_Jx4a65c_grow_d58770 l D cy zs (ws.set i (a, .inr (0, [.int (md + (nI 1)), .ref (zs 0), .int (nI 0)])))  u65 ) gJx4a65c_add_7a177_Jx4a65c_grow_d5877 rfl ⟨rfl, ydJx4a65c_grow_d5877⟩ i u65 rfl ⟨Nat.le_of_ble_eq_true rfl, Nat.le_of_ble_eq_true rfl⟩ ⟨Nat.le_of_ble_eq_true rfl, Nat.le_of_ble_eq_true rfl⟩ rfl (Nat.le_of_ble_eq_true rfl) dJx4a65c_add_7a177_33 (fun r33 w33 h33 => ?_)
    obtain ⟨q, m0, hq1, hq2, h33a, h33b⟩ := h33
    subst h33a
    have h33b := h33b.symm
    rw [show w33 = (ws.set i (a, .inr (0, [.int (md + (nI 1)), .ref q, .int (nI 0)])) ++ [(q, .inl (cy 3, m0, .inr (.inr (.inr (.inr (fun _ => none))))))]) from (by rw [← h33b] <;> first | rfl | (rw [List.set_set] <;> rfl))]
    have u67 : (ws.set i (a, .inr (0, [.int (md + (nI 1)), .ref q, .int (nI 0)])) ++ [(q, .inl (cy 3, m0, .inr (.inr (.inr (.inr (fun _ => none))))))])[i]? = some (a, .inr (0, [.int (md + (nI 1)), .ref q, .int (nI 0)])) := (app_at (set_at hi))
    have u68 : (ws.set i (a, .inr (0, [.int (md + (nI 1)), .ref q, .int (nI 0)])) ++ [(q, .inl (cy 3, m0, .inr (.inr (.inr (.inr (fun _ => none))))))])[z]? = some (e0, .inr (1, [.int v0, .int v1, .ref v2, .int v3, .int v4, .int v5])) := (app_at (set_off (pos_ne hi hz (by simp)) hz))
    have u69 : (ws.set i (a, .inr (0, [.int (md + (nI 1)), .ref q, .int (nI 0)])) ++ [(q, .inl (cy 3, m0, .inr (.inr (.inr (.inr (fun _ => none))))))])[ws.length]? = some (q, .inl (cy 3, m0, .inr (.inr (.inr (.inr (fun _ => none)))))) := (tl_at (by simp))
    refine g_astore (lv' := [(4, .ref q), (3, .int (nI 0)), (0, .ref a), (1, .int (nI j)), (2, .ref e0)]) C dJx4a65c_add_7a177_36 (by decide) rfl ?_
    refine g_aload C dJx4a65c_add_7a177_38 0 rfl ?_
    refine g_iload_n C dJx4a65c_add_7a177_40 rfl 3 rfl ?_
    refine g_aload C dJx4a65c_add_7a177_41 0 rfl ?_
    refine g_iload_n C dJx4a65c_add_7a177_43 rfl 3 rfl ?_
    refine g_iconst (v := nI 1) C dJx4a65c_add_7a177_44 (by decide +kernel) ?_
    refine g_iadd (v := nI (j + 1)) C dJx4a65c_add_7a177_45 (nI_add _ _) ?_
    refine g_iload_n C dJx4a65c_add_7a177_46 rfl 1 rfl ?_
    refine g_iload_n C dJx4a65c_add_7a177_47 rfl 3 rfl ?_
    refine g_isub (v := nI (0 - j)) C dJx4a65c_add_7a177_48 (pk_sub (by omega)) ?_
    refine g_copyq (sp := j) (dp := (j + 1)) (z := (0 - j)) (ws' := (ws.set i (a, .inr (0, [.int (md + (nI 1)), .ref q, .int (nI 0)])) ++ [(q, .inl (cy 3, m0, .inr (.inr (.inr (.inr (va_cpy (fun _ => none) (fun _ => none) j (j + 1) (0 - j)))))))])) C ws.length ws.length u69 u69 (C.hw (List.mem_cons_of_mem _ (List.mem_append_left _ (List.mem_append_left _ (List.mem_of_getElem? (i := 4) rfl))))) (C.hw (List.mem_cons_of_mem _ (List.mem_append_left _ (List.mem_append_left _ (List.mem_of_getElem? (i := 5) rfl))))) (C.hw (List.mem_cons_of_mem _ (List.mem_append_left _ (List.mem_append_left _ (List.mem_of_getElem? (i := 6) rfl))))) (C.hw (List.mem_cons_of_mem _ (List.mem_append_left _ (List.mem_append_left _ (List.mem_of_getElem? (i := 7) rfl))))) (by omega) (by omega) (by omega) (by omega) (by omega) (fun j9 hj9 y9 hy9 => (by cases hy9)) C.2.2.2.2.2.1.2.2.1 (Nat.le_of_ble_eq_true rfl) (Nat.le_of_ble_eq_true rfl) (tl_set (by simp)) dJx4a65c_add_7a177_49 ?_
    have u70 : (ws.set i (a, .inr (0, [.int (md + (nI 1)), .ref q, .int (nI 0)])) ++ [(q, .inl (cy 3, m0, .inr (.inr (.inr (.inr (va_cpy (fun _ => none) (fun _ => none) j (j + 1) (0 - j)))))))])[i]? = some (a, .inr (0, [.int (md + (nI 1)), .ref q, .int (nI 0)])) := (app_at (set_at hi))
    have u71 : (ws.set i (a, .inr (0, [.int (md + (nI 1)), .ref q, .int (nI 0)])) ++ [(q, .inl (cy 3, m0, .inr (.inr (.inr (.inr (va_cpy (fun _ => none) (fun _ => none) j (j + 1) (0 - j)))))))])[z]? = some (e0, .inr (1, [.int v0, .int v1, .ref v2, .int v3, .int v4, .int v5])) := (app_at (set_off (pos_ne hi hz (by simp)) hz))
    have u72 : (ws.set i (a, .inr (0, [.int (md + (nI 1)), .ref q, .int (nI 0)])) ++ [(q, .inl (cy 3, m0, .inr (.inr (.inr (.inr (va_cpy (fun _ => none) (fun _ => none) j (j + 1) (0 - j)))))))])[ws.length]? = some (q, .inl (cy 3, m0, .inr (.inr (.inr (.inr (va_cpy (fun _ => none) (fun _ => none) j (j + 1) (0 - j))))))) := (tl_at (by simp))
    refine g_aload C dJx4a65c_add_7a177_52 0 rfl ?_
    refine g_iload_n C dJx4a65c_add_7a177_54 rfl 3 rfl ?_
    refine g_aload_n C dJx4a65c_add_7a177_55 rfl 4 rfl ?_
    refine g_astq (nn := m0) (ci := 1) (i := nI j) (f := (va_cpy (fun _ => none) (fun _ => none) j (j + 1) (0 - j))) (ws' := (ws.set i (a, .inr (0, [.int (md + (nI 1)), .ref q, .int (nI 0)])) ++ [(q, .inl (cy 3, m0, .inr (.inr (.inr (.inr (va_up (va_cpy (fun _ => none) (fun _ => none) j (j + 1) (0 - j)) j (some e0)))))))])) C ws.length z u72 C.2.2.2.2.2.1.2.2.1 u71 rfl (vp_in_nI (by omega) (by omega)) (by rw [nI_clamp (by omega)] <;> exact (tl_set (by simp))) dJx4a65c_add_7a177_56 ?_
    have u73 : (ws.set i (a, .inr (0, [.int (md + (nI 1)), .ref q, .int (nI 0)])) ++ [(q, .inl (cy 3, m0, .inr (.inr (.inr (.inr (va_up (va_cpy (fun _ => none) (fun _ => none) j (j + 1) (0 - j)) j (some e0)))))))])[i]? = some (a, .inr (0, [.int (md + (nI 1)), .ref q, .int (nI 0)])) := (app_at (set_at hi))
    have u74 : (ws.set i (a, .inr (0, [.int (md + (nI 1)), .ref q, .int (nI 0)])) ++ [(q, .inl (cy 3, m0, .inr (.inr (.inr (.inr (va_up (va_cpy (fun _ => none) (fun _ => none) j (j + 1) (0 - j)) j (some e0)))))))])[z]? = some (e0, .inr (1, [.int v0, .int v1, .ref v2, .int v3, .int v4, .int v5])) := (app_at (set_off (pos_ne hi hz (by simp)) hz))
    have u75 : (ws.set i (a, .inr (0, [.int (md + (nI 1)), .ref q, .int (nI 0)])) ++ [(q, .inl (cy 3, m0, .inr (.inr (.inr (.inr (va_up (va_cpy (fun _ => none) (fun _ => none) j (j + 1) (0 - j)) j (some e0)))))))])[ws.length]? = some (q, .inl (cy 3, m0, .inr (.inr (.inr (.inr (va_up (va_cpy (fun _ => none) (fun _ => none) j (j + 1) (0 - j)) j (some e0))))))) := (tl_at (by simp))
    refine g_aload_n C dJx4a65c_add_7a177_57 rfl 2 rfl ?_
    refine g_iload_n C dJx4a65c_add_7a177_58 rfl 1 rfl ?_
    refine g_iconst (v := nI 1) C dJx4a65c_add_7a177_59 (by decide +kernel) ?_
    refine g_iadd (v := nI 1) C dJx4a65c_add_7a177_60 (by decide +kernel) ?_
    refine g_put (ci := 0) (ty := .int) (v := .int (nI 1)) (ws' := (ws.set i (a, .inr (0, [.int (md + (nI 1)), .ref q, .int (nI 1)])) ++ [(q, .inl (cy 3, m0, .inr (.inr (.inr (.inr (va_up (va_cpy (fun _ => none) (fun _ => none) j (j + 1) (0 - j)) j (some e0)))))))])) C iwJx4a65c_add_7a177_J tyJx4a65c tyJx4a65c_ok nmJx4a65c i u73 rfl 2 (by decide) (C.hw (List.mem_cons_of_mem _ (List.mem_append_left _ (List.mem_append_left _ (List.mem_of_getElem? (i := 2) rfl))))) (fun _ h9 => h9) rfl (by decide +kernel) rfl rfl (Nat.le_of_ble_eq_true rfl) (ap_set (set_at hi) (by rw [List.set_set] <;> rfl)) dJx4a65c_add_7a177_61 ?_
    have u76 : (ws.set i (a, .inr (0, [.int (md + (nI 1)), .ref q, .int (nI 1)])) ++ [(q, .inl (cy 3, m0, .inr (.inr (.inr (.inr (va_up (va_cpy (fun _ => none) (fun _ => none) j (j + 1) (0 - j)) j (some e0)))))))])[i]? = some (a, .inr (0, [.int (md + (nI 1)), .ref q, .int (nI 1)])) := (app_at (set_at hi))
    have u77 : (ws.set i (a, .inr (0, [.int (md + (nI 1)), .ref q, .int (nI 1)])) ++ [(q, .inl (cy 3, m0, .inr (.inr (.inr (.inr (va_up (va_cpy (fun _ => none) (fun _ => none) j (j + 1) (0 - j)) j (some e0)))))))])[z]? = some (e0, .inr (1, [.int v0, .int v1, .ref v2, .int v3, .int v4, .int v5])) := (app_at (set_off (pos_ne hi hz (by simp)) hz))
    have u78 : (ws.set i (a, .inr (0, [.int (md + (nI 1)), .ref q, .int (nI 1)])) ++ [(q, .inl (cy 3, m0, .inr (.inr (.inr (.inr (va_up (va_cpy (fun _ => none) (fun _ => none) j (j + 1) (0 - j)) j (some e0)))))))])[ws.length]? = some (q, .inl (cy 3, m0, .inr (.inr (.inr (.inr (va_up (va_cpy (fun _ => none) (fun _ => none) j (j + 1) (0 - j)) j (some e0))))))) := (tl_at (by simp))
    exact g_vret C rfl (⟨q, m0, hq1, hq2, rfl⟩) (Nat.le_of_ble_eq_true rfl) (Nat.le_of_ble_eq_true rfl) dJx4a65c_add_7a177_64
abbrev rmJxa1e45_init_da8c8 : Room := { frames := 1, cells := 0, slots := 0, locals := 40 }
theorem ydJxa1e45_init_da8c8 : yJxa1e45_init_da8c8.cls ≠ "java/lang/invoke/MethodHandle" ∧ yJxa1e45_init_da8c8.cls ≠ "java/lang/invoke/VarHandle" ∧ (parseMethodDescriptor yJxa1e45_init_da8c8.desc).map (fun d => d.parameters.length) = some 0 := by decide +kernel
set_option maxRecDepth 100000 in
set_option maxHeartbeats 4000000 in
theorem k_Jxa1e45_init_da8c8 (l : Launch) (D : va_G) (cy : Nat → ClassId) (zs : Nat → Nat) (ws : va_W) {a : Nat}    : Mv l D cy zs yJxa1e45_init_da8c8 wsJxa1e45_init_da8c8 rmJxa1e45_init_da8c8 [.ref a] ws (fun w => w = ws) := by
  refine Mv.of (lv := [(0, .ref a)]) RJxa1e45 ⟨by decide, rfl⟩ rfl (Nat.le_of_ble_eq_true rfl) rfl ?_
  intro p e s m args below meth c A C hnm
  refine g_aload_n C dJxa1e45_init_da8c8_0 rfl 0 rfl ?_
  refine g_init C (C.hw (List.mem_cons_of_mem _ (List.mem_of_getElem? (i := 0) rfl))) (C.hw (List.mem_cons_of_mem _ (List.mem_of_getElem? (i := 1) rfl))) (C.hw (List.mem_cons_of_mem _ (List.mem_of_getElem? (i := 2) rfl))) dJxa1e45_init_da8c8_1 (by decide) (by decide) ?_
  exact g_vret C rfl rfl (Nat.le_of_ble_eq_true rfl) (Nat.le_of_ble_eq_true rfl) dJxa1e45_init_da8c8_4
abbrev rmJxc12de_init_da8c8 : Room := { frames := 2, cells := 0, slots := 0, locals := 60 }
theorem ydJxc12de_init_da8c8 : yJxc12de_init_da8c8.cls ≠ "java/lang/invoke/MethodHandle" ∧ yJxc12de_init_da8c8.cls ≠ "java/lang/invoke/VarHandle" ∧ (parseMethodDescriptor yJxc12de_init_da8c8.desc).map (fun d => d.parameters.length) = some 0 := by decide +kernel
theorem iwJxc12de_init_da8c8_J : ∀ w ∈ u_ws RJx4a65c TJx4a65c 3, w ∈ wsJxc12de_init_da8c8 := fun _ h => (List.mem_cons_of_mem _ (List.mem_append_right _ h))
set_option maxRecDepth 100000 in
set_option maxHeartbeats 4000000 in
theorem k_Jxc12de_init_da8c8 (l : Launch) (D : va_G) (cy : Nat → ClassId) (zs : Nat → Nat) (ws : va_W) {i a : Nat} {md : Int32}  (hi : ws[i]? = some (a, .inr (0, [.int md, .null, .int (nI 0)])))  : Mv l D cy zs yJxc12de_init_da8c8 wsJxc12de_init_da8c8 rmJxc12de_init_da8c8 [.ref a] ws (fun w => w = ws.set i (a, .inr (0, [.int (nI 0), .null, .int (nI 0)]))) := by
  refine Mv.of (lv := [(0, .ref a)]) RJxc12de ⟨by decide, rfl⟩ rfl (Nat.le_of_ble_eq_true rfl) rfl ?_
  intro p e s m args below meth c A C hnm
  refine g_aload_n C dJxc12de_init_da8c8_0 rfl 0 rfl ?_
  refine g_Iv (st := []) C (k_Jxa1e45_init_da8c8 l D cy zs ws   ) gJxc12de_init_da8c8_Jxa1e45_init_da8c8 rfl (C.hw (List.mem_cons_of_mem _ (List.mem_append_left _ (List.mem_of_getElem? (i := 3) rfl)))) (C.hw (List.mem_cons_of_mem _ (List.mem_append_left _ (List.mem_of_getElem? (i := 1) rfl)))) (C.hw (List.mem_cons_of_mem _ (List.mem_append_left _ (List.mem_of_getElem? (i := 2) rfl)))) rfl ydJxa1e45_init_da8c8 ⟨Nat.le_of_ble_eq_true rfl, Nat.le_of_ble_eq_true rfl⟩ ⟨Nat.le_of_ble_eq_true rfl, Nat.le_of_ble_eq_true rfl⟩ rfl (Nat.le_of_ble_eq_true rfl) dJxc12de_init_da8c8_1 (fun w1 h1 => ?_)
  have h1 := h1.symm
  subst h1
  refine g_aload_n C dJxc12de_init_da8c8_4 rfl 0 rfl ?_
  refine g_iconst (v := nI 0) C dJxc12de_init_da8c8_5 (by decide +kernel) ?_
  refine g_put (ci := 0) (ty := .int) (v := .int (nI 0)) (ws' := (ws.set i (a, .inr (0, [.int (nI 0), .null, .int (nI 0)])))) C iwJxc12de_init_da8c8_J tyJx4a65c tyJx4a65c_ok nmJx4a65c i hi rfl 0 (by decide) (C.hw (List.mem_cons_of_mem _ (List.mem_append_left _ (List.mem_of_getElem? (i := 0) rfl)))) (fun _ h9 => h9) rfl (by decide +kernel) rfl rfl (Nat.le_of_ble_eq_true rfl) rfl dJxc12de_init_da8c8_6 ?_
  have u79 : (ws.set i (a, .inr (0, [.int (nI 0), .null, .int (nI 0)])))[i]? = some (a, .inr (0, [.int (nI 0), .null, .int (nI 0)])) := (set_at hi)
  exact g_vret C rfl rfl (Nat.le_of_ble_eq_true rfl) (Nat.le_of_ble_eq_true rfl) dJxc12de_init_da8c8_9
abbrev rmJx4a65c_init_da8c8 : Room := { frames := 3, cells := 0, slots := 0, locals := 80 }
theorem ydJx4a65c_init_da8c8 : yJx4a65c_init_da8c8.cls ≠ "java/lang/invoke/MethodHandle" ∧ yJx4a65c_init_da8c8.cls ≠ "java/lang/invoke/VarHandle" ∧ (parseMethodDescriptor yJx4a65c_init_da8c8.desc).map (fun d => d.parameters.length) = some 0 := by decide +kernel
theorem iwJx4a65c_init_da8c8_J : ∀ w ∈ u_ws RJx4a65c TJx4a65c 3, w ∈ wsJx4a65c_init_da8c8 := fun _ h => (List.mem_cons_of_mem _ (List.mem_append_right _ h))
set_option maxRecDepth 100000 in
set_option maxHeartbeats 4000000 in
theorem k_Jx4a65c_init_da8c8 (l : Launch) (D : va_G) (cy : Nat → ClassId) (zs : Nat → Nat) (ws : va_W) {i a : Nat} {md : Int32}  (hi : ws[i]? = some (a, .inr (0, [.int md, .null, .int (nI 0)])))  : Mv l D cy zs yJx4a65c_init_da8c8 wsJx4a65c_init_da8c8 rmJx4a65c_init_da8c8 [.ref a] ws (fun w => w = ws.set i (a, .inr (0, [.int (nI 0), .ref (zs 0), .int (nI 0)]))) := by
  refine Mv.of (lv := [(0, .ref a)]) RJx4a65c ⟨by decide, rfl⟩ rfl (Nat.le_of_ble_eq_true rfl) rfl ?_
  intro p e s m args below meth c A C hnm
  refine g_aload_n C dJx4a65c_init_da8c8_0 rfl 0 rfl ?_
  refine g_Iv (st := []) C (k_Jxc12de_init_da8c8 l D cy zs ws  hi ) gJx4a65c_init_da8c8_Jxc12de_init_da8c8 rfl (C.hw (List.mem_cons_of_mem _ (List.mem_append_left _ (List.mem_of_getElem? (i := 4) rfl)))) (C.hw (List.mem_cons_of_mem _ (List.mem_append_left _ (List.mem_of_getElem? (i := 2) rfl)))) (C.hw (List.mem_cons_of_mem _ (List.mem_append_left _ (List.mem_of_getElem? (i := 3) rfl)))) rfl ydJxc12de_init_da8c8 ⟨Nat.le_of_ble_eq_true rfl, Nat.le_of_ble_eq_true rfl⟩ ⟨Nat.le_of_ble_eq_true rfl, Nat.le_of_ble_eq_true rfl⟩ rfl (Nat.le_of_ble_eq_true rfl) dJx4a65c_init_da8c8_1 (fun w1 h1 => ?_)
  rw [show w1 = (ws.set i (a, .inr (0, [.int (nI 0), .null, .int (nI 0)]))) from h1]
  have u80 : (ws.set i (a, .inr (0, [.int (nI 0), .null, .int (nI 0)])))[i]? = some (a, .inr (0, [.int (nI 0), .null, .int (nI 0)])) := (set_at hi)
  refine g_aload_n C dJx4a65c_init_da8c8_4 rfl 0 rfl ?_
  refine g_gets C (C.hw (List.mem_cons_of_mem _ (List.mem_append_left _ (List.mem_of_getElem? (i := 0) rfl)))) dJx4a65c_init_da8c8_5 ?_
  refine g_put (ci := 0) (ty := .array (.object "java/lang/Object")) (v := .ref (zs 0)) (ws' := (ws.set i (a, .inr (0, [.int (nI 0), .ref (zs 0), .int (nI 0)])))) C iwJx4a65c_init_da8c8_J tyJx4a65c tyJx4a65c_ok nmJx4a65c i u80 rfl 1 (by decide) (C.hw (List.mem_cons_of_mem _ (List.mem_append_left _ (List.mem_of_getElem? (i := 1) rfl)))) (fun _ h9 => h9) rfl (by decide +kernel) rfl rfl (Nat.le_of_ble_eq_true rfl) (by rw [List.set_set] <;> rfl) dJx4a65c_init_da8c8_8 ?_
  have u81 : (ws.set i (a, .inr (0, [.int (nI 0), .ref (zs 0), .int (nI 0)])))[i]? = some (a, .inr (0, [.int (nI 0), .ref (zs 0), .int (nI 0)])) := (set_at hi)
  exact g_vret C rfl rfl (Nat.le_of_ble_eq_true rfl) (Nat.le_of_ble_eq_true rfl) dJx4a65c_init_da8c8_11
abbrev rmJ7_fill_53178 : Room := { frames := 0, cells := 0, slots := 0, locals := 0 }
theorem ydJ7_fill_53178 : yJ7_fill_53178.cls ≠ "java/lang/invoke/MethodHandle" ∧ yJ7_fill_53178.cls ≠ "java/lang/invoke/VarHandle" ∧ (parseMethodDescriptor yJ7_fill_53178.desc).map (fun d => d.parameters.length) = some 2 := by decide +kernel
set_option maxRecDepth 100000 in
set_option maxHeartbeats 4000000 in
theorem k_J7_fill_53178 (l : Launch) (D : va_G) (cy : Nat → ClassId) (zs : Nat → Nat) (ws : va_W) {k b N : Nat} {f : Nat → Int32} (v : Int32) (hk : ws[k]? = some (b, .inl (cy 0, N, .inl f))) (hN : N < 2 ^ 31) : Mv l D cy zs yJ7_fill_53178 wsJ7_fill_53178 rmJ7_fill_53178 [.ref b, .int v] ws (fun w => w = ws.set k (b, .inl (cy 0, N, .inl (fillF f v N)))) := by
  refine Mv.of (lv := [(0, .ref b), (1, .int v)]) RJ7 ⟨by decide, rfl⟩ rfl (Nat.le_of_ble_eq_true rfl) rfl ?_
  intro p e s m args below meth c A C hnm
  refine g_iconst (v := nI 0) C dJ7_fill_53178_0 (by decide +kernel) ?_
  refine g_istore_n (lv' := [(2, .int (nI 0)), (0, .ref b), (1, .int v)]) C dJ7_fill_53178_1 rfl (by decide) rfl ?_
  refine g_aload_n C dJ7_fill_53178_2 rfl 1 rfl ?_
  refine g_alen (v := nI N) C k 0 hk rfl rfl dJ7_fill_53178_3 ?_
  refine g_weq (ws' := (ws.set k (b, .inl (cy 0, N, .inl (fillF f v 0))))) (by rw [fill_0]; exact set_self hk) ?_
  refine g_istore_n (lv' := [(3, .int (nI N)), (2, .int (nI 0)), (0, .ref b), (1, .int v)]) C dJ7_fill_53178_4 rfl (by decide) rfl ?_
  refine g_sub (lv' := [(0, .ref b), (1, .int v), (2, .int (nI 0)), (3, .int (nI N))]) [2, 3, 1, 0] rfl ?_
  refine g_loop1 (jp := 5) (fun (x : Nat) => (x ≤ N)) (fun (x : Nat) => N - x) (fun (x : Nat) => (ws.set k (b, .inl (cy 0, N, .inl (fillF f v x))))) (fun (x : Nat) => [(0, .ref b), (1, .int v), (2, .int (nI x)), (3, .int (nI N))]) (fun (x : Nat) => []) (fun x hI5 ih5 => ?_) 0 (Nat.zero_le _)
  have hx := hI5
  refine g_iload_n C dJ7_fill_53178_5 rfl 2 rfl ?_
  refine g_iload_n C dJ7_fill_53178_6 rfl 3 rfl ?_
  refine g_icmp_ge (tgt := 20) C dJ7_fill_53178_7 (by decide) (fun c7 => ?_) (fun c7 => ?_)
  · skip
    have c7 := c_ge0 (by omega) (by omega) c7
    exact g_vret C rfl (by rw [show x = N by omega]) (Nat.le_of_ble_eq_true rfl) (Nat.le_of_ble_eq_true rfl) dJ7_fill_53178_20
  · skip
    have c7 := c_ge1 (by omega) (by omega) c7
    have u82 : (ws.set k (b, .inl (cy 0, N, .inl (fillF f v x))))[k]? = some (b, .inl (cy 0, N, .inl (fillF f v x))) := (set_at hk)
    refine g_aload_n C dJ7_fill_53178_10 rfl 0 rfl ?_
    refine g_iload_n C dJ7_fill_53178_11 rfl 2 rfl ?_
    refine g_iload_n C dJ7_fill_53178_12 rfl 1 rfl ?_
    refine g_iastR (nn := N) (j := x) (v := v) (f := (fillF f v x)) (ws' := (ws.set k (b, .inl (cy 0, N, .inl (upd (fillF f v x) x v))))) C k u82 (by omega) (by omega) (by rw [List.set_set] <;> rfl) dJ7_fill_53178_13 ?_
    have u83 : (ws.set k (b, .inl (cy 0, N, .inl (upd (fillF f v x) x v))))[k]? = some (b, .inl (cy 0, N, .inl (upd (fillF f v x) x v))) := (set_at hk)
    refine g_weq (ws' := (ws.set k (b, .inl (cy 0, N, .inl (fillF f v (x + 1)))))) (by rw [fill_s]) ?_
    refine g_iinc (q := 2) (v := nI (x + 1)) (lv' := [(2, .int (nI (x + 1))), (0, .ref b), (1, .int v), (3, .int (nI N))]) C dJ7_fill_53178_14 rfl (nI_inc1 _) (by decide) rfl ?_
    refine g_goto (tgt := 5) C dJ7_fill_53178_17 (by decide) ?_
    exact g_sub (lv' := [(0, .ref b), (1, .int v), (2, .int (nI (x + 1))), (3, .int (nI N))]) [1, 2, 0, 3] rfl (ih5 (x + 1) (by omega) (by omega))
