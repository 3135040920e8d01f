def bI (b : Bool) : Int32 := if b = true then 1 else 0
def fI (o : Option Nat) : Int32 := match o with
  | none => -1
  | some k => nI k
def PQ (v : Int32) (w0 : va_W) : Int32 → va_W → Prop := fun r w => r = v ∧ w = w0
theorem bI_01 (b : Bool) : bI b = 0 ∨ bI b = 1 := by cases b <;> simp [bI]
theorem cb_eq0 {b : Bool} (h : bI b = 0) : b = false := by
  cases b
  · rfl
  · exact absurd h (by decide)
theorem cb_eq1 {b : Bool} (h : ¬ bI b = 0) : b = true := by
  cases b
  · exact absurd rfl h
  · rfl
theorem nI_nem1 {k : Nat} (h : k < 2 ^ 31) : ¬ nI k = (-1) := by
  intro q
  have a := nI_toInt h
  rw [q] at a
  have b : ((-1 : Int32)).toInt = -1 := by decide
  omega
theorem nI_inc1 (a : Nat) : nI a + Int32.ofInt 1 = nI (a + 1) := nI_1 a
theorem nI_inc5 (a : Nat) : nI a + Int32.ofInt 5 = nI (a + 5) := by
  rw [show Int32.ofInt 5 = nI 5 by decide, nI_add]
theorem nI_dec {a : Nat} (h : 0 < a) : nI a + Int32.ofInt (-1) = nI (a - 1) := by
  obtain ⟨b, rfl⟩ : ∃ b, a = b + 1 := ⟨a - 1, by omega⟩
  rw [show Int32.ofInt (-1) = (-1 : Int32) by decide, Nat.add_sub_cancel]
  exact pk_m1 b
theorem c_eq0 {a b : Nat} (ha : a < 2 ^ 31) (hb : b < 2 ^ 31) (h : nI a = nI b) : a = b := (nI_eq ha hb).mp h
theorem c_eq1 {a b : Nat} (ha : a < 2 ^ 31) (hb : b < 2 ^ 31) (h : ¬ nI a = nI b) : ¬ a = b := fun q => h ((nI_eq ha hb).mpr q)
theorem c_lt0 {a b : Nat} (ha : a < 2 ^ 31) (hb : b < 2 ^ 31) (h : nI a < nI b) : a < b := (nI_ltI ha hb).mp h
theorem c_lt1 {a b : Nat} (ha : a < 2 ^ 31) (hb : b < 2 ^ 31) (h : ¬ nI a < nI b) : b ≤ a := Nat.not_lt.mp fun q => h ((nI_ltI ha hb).mpr q)
theorem c_ge0 {a b : Nat} (ha : a < 2 ^ 31) (hb : b < 2 ^ 31) (h : nI b ≤ nI a) : b ≤ a := (nI_leI hb ha).mp h
theorem c_ge1 {a b : Nat} (ha : a < 2 ^ 31) (hb : b < 2 ^ 31) (h : ¬ nI b ≤ nI a) : a < b := Nat.not_le.mp fun q => h ((nI_leI hb ha).mpr q)
theorem c_gt0 {a b : Nat} (ha : a < 2 ^ 31) (hb : b < 2 ^ 31) (h : nI b < nI a) : b < a := (nI_ltI hb ha).mp h
theorem c_gt1 {a b : Nat} (ha : a < 2 ^ 31) (hb : b < 2 ^ 31) (h : ¬ nI b < nI a) : a ≤ b := Nat.not_lt.mp fun q => h ((nI_ltI hb ha).mpr q)
theorem c_le0 {a b : Nat} (ha : a < 2 ^ 31) (hb : b < 2 ^ 31) (h : nI a ≤ nI b) : a ≤ b := (nI_leI ha hb).mp h
theorem c_le1 {a b : Nat} (ha : a < 2 ^ 31) (hb : b < 2 ^ 31) (h : ¬ nI a ≤ nI b) : b < a := Nat.not_le.mp fun q => h ((nI_leI ha hb).mpr q)
theorem cz_eq0 {a : Nat} (ha : a < 2 ^ 31) (h : nI a = 0) : a = 0 := c_eq0 ha (by decide) (h.trans nI_0.symm)
theorem cz_eq1 {a : Nat} (ha : a < 2 ^ 31) (h : ¬ nI a = 0) : 0 < a := by
  rcases Nat.eq_zero_or_pos a with rfl | q
  · exact absurd nI_0 h
  · exact q
theorem cz_lt1 {a : Nat} (ha : a < 2 ^ 31) (h : ¬ nI a < 0) : True := trivial
theorem cz_ge0 {a : Nat} (ha : a < 2 ^ 31) (h : 0 ≤ nI a) : True := trivial
theorem cz_gt0 {a : Nat} (ha : a < 2 ^ 31) (h : 0 < nI a) : 0 < a := c_lt0 (a := 0) (by decide) ha (nI_0.symm ▸ h)
theorem cz_gt1 {a : Nat} (ha : a < 2 ^ 31) (h : ¬ 0 < nI a) : a = 0 := Nat.le_zero.mp (c_lt1 (a := 0) (by decide) ha (nI_0.symm ▸ h))
theorem cz_le0 {a : Nat} (ha : a < 2 ^ 31) (h : nI a ≤ 0) : a = 0 := Nat.le_zero.mp (c_le0 (b := 0) ha (by decide) (nI_0.symm ▸ h))
theorem cz_le1 {a : Nat} (ha : a < 2 ^ 31) (h : ¬ nI a ≤ 0) : 0 < a := c_le1 (b := 0) ha (by decide) (nI_0.symm ▸ h)
/-- an int that is one of 0 .. N - 1 -/
def inB (v : Int32) (N : Nat) : Bool := !(decide (v < 0)) && decide (v < nI N)
theorem inB_nI {k N : Nat} (h : k < N) (hN : N < 2 ^ 31) : inB (nI k) N = true := by
  simp only [inB, Bool.and_eq_true, Bool.not_eq_true', decide_eq_false_iff_not, decide_eq_true_eq]
  exact ⟨nI_pos (by omega), nI_lt h hN⟩
theorem inB_of {v : Int32} {N : Nat} (hN : N < 2 ^ 31) (h : inB v N = true) : ∃ k : Nat, k < N ∧ v = nI k := by
  simp only [inB, Bool.and_eq_true, Bool.not_eq_true', decide_eq_false_iff_not, decide_eq_true_eq] at h
  obtain ⟨k, hk, rfl⟩ := nI_of h.1
  exact ⟨k, (nI_ltI hk hN).mp h.2, rfl⟩
theorem va_up_le {f : Nat → Nat} {B k v : Nat} (h : ∀ i, f i ≤ B) (hv : v ≤ B) : ∀ i, va_up f k v i ≤ B := fun i => by
  unfold va_up
  split
  · exact hv
  · exact h i
theorem va_up_lt {f : Nat → Nat} {B k v : Nat} (h : ∀ i, f i < B) (hv : v < B) : ∀ i, va_up f k v i < B := fun i => by
  unfold va_up
  split
  · exact hv
  · exact h i
theorem up_nI {f : Nat → Nat} {k v : Nat} (hk : k < 2 ^ 31) : upd (fun i => nI (f i)) (nI k).toNatClampNeg (nI v) = fun i => nI (va_up f k v i) := by
  funext i
  rw [nI_clamp hk]
  unfold upd va_up
  split <;> rfl
theorem vp_nar_b (b : Bool) : vp_nar .boolean (bI b) = bI b := by cases b <;> rfl
theorem up_bI {f : Nat → Bool} {k : Nat} {v : Bool} (hk : k < 2 ^ 31) : upd (fun i => bI (f i)) (nI k).toNatClampNeg (vp_nar .boolean (bI v)) = fun i => bI (va_up f k v i) := by
  funext i
  rw [nI_clamp hk, vp_nar_b]
  unfold upd va_up
  split <;> rfl
section HELP
variable {p : Program} {l : Launch} {e : Env} {R : Room} {s : State} {m : MethodId} {args : Array Value} {below : List Frame} {meth : Method} {c : Code} {cc : ByteArray} {nL : Nat} {own : String} {Ts : List Cond} {D : va_G} {cy : Nat → ClassId} {zs : Nat → Nat} {A : Nat → Prop} {ret : Option FieldType} {Q : State → Prop} {ws : va_W} {k n : Nat} {lv : List (Nat × Value)} {pc : Nat} {st : List Value}
theorem Cx.hw (C : Cx p s m args meth c cc nL own Ts D cy zs A ret) {w : Cond} (h : w ∈ Ts) : w.before args s = true := C.1.2.2.2.2 w h
theorem g_sub {lv' : List (Nat × Value)} (ks : List Nat) (h : lv_pick lv ks = lv') (K : GG p l e R s m args below meth c D A nL Q ws k n lv' pc st) : GG p l e R s m args below meth c D A nL Q ws k n lv pc st := fun H locs ls hP hD hS hl => K H locs ls hP hD hS (lv_sub hl ks h)
theorem g_ialdN (C : Cx p s m args meth c cc nL own Ts D cy zs A ret) {a nn j : Nat} {f : Nat → Nat} (q0 : Nat) (ha : ws[q0]? = some (a, .inl (cy 0, nn, .inl (fun i => nI (f i))))) (hj : j < nn) (hn : nn < 2 ^ 31) (hdg : decode cc pc = .ok (.iaload, 1)) (K : GG p l e R s m args below meth c D A nL Q ws k n lv (pc + 1) (.int (nI (f j)) :: st)) : GG p l e R s m args below meth c D A nL Q ws k n lv (pc) (.int (nI j) :: .ref a :: st) := g_iald C q0 ha (vp_in_nI hj hn) (by rw [nI_clamp (by omega)]) hdg K
theorem g_ialdR (C : Cx p s m args meth c cc nL own Ts D cy zs A ret) {a nn j : Nat} {f : Nat → Int32} (q0 : Nat) (ha : ws[q0]? = some (a, .inl (cy 0, nn, .inl f))) (hj : j < nn) (hn : nn < 2 ^ 31) (hdg : decode cc pc = .ok (.iaload, 1)) (K : GG p l e R s m args below meth c D A nL Q ws k n lv (pc + 1) (.int (f j) :: st)) : GG p l e R s m args below meth c D A nL Q ws k n lv (pc) (.int (nI j) :: .ref a :: st) := g_iald C q0 ha (vp_in_nI hj hn) (by rw [nI_clamp (by omega)]) hdg K
theorem g_zaldB (C : Cx p s m args meth c cc nL own Ts D cy zs A ret) {a nn j : Nat} {f : Nat → Bool} (q0 : Nat) (ha : ws[q0]? = some (a, .inl (cy 1, nn, .inl (fun i => bI (f i))))) (hj : j < nn) (hn : nn < 2 ^ 31) (hdg : decode cc pc = .ok (.baload, 1)) (K : GG p l e R s m args below meth c D A nL Q ws k n lv (pc + 1) (.int (bI (f j)) :: st)) : GG p l e R s m args below meth c D A nL Q ws k n lv (pc) (.int (nI j) :: .ref a :: st) := g_zald C q0 ha (vp_in_nI hj hn) (by rw [nI_clamp (by omega)]) hdg K
theorem g_iastN (C : Cx p s m args meth c cc nL own Ts D cy zs A ret) {a nn j v : Nat} {f : Nat → Nat} {ws' : va_W} (q0 : Nat) (ha : ws[q0]? = some (a, .inl (cy 0, nn, .inl (fun i => nI (f i))))) (hj : j < nn) (hn : nn < 2 ^ 31) (hw : ws.set q0 (a, .inl (cy 0, nn, .inl (fun i => nI (va_up f j v i)))) = ws') (hdg : decode cc pc = .ok (.iastore, 1)) (K : GG p l e R s m args below meth c D A nL Q ws' k n lv (pc + 1) (st)) : GG p l e R s m args below meth c D A nL Q ws k n lv (pc) (.int (nI v) :: .int (nI j) :: .ref a :: st) := g_iast C q0 ha (vp_in_nI hj hn) (by rw [up_nI (by omega)]; exact hw) hdg K
theorem g_iastR (C : Cx p s m args meth c cc nL own Ts D cy zs A ret) {a nn j : Nat} {v : Int32} {f : Nat → Int32} {ws' : va_W} (q0 : Nat) (ha : ws[q0]? = some (a, .inl (cy 0, nn, .inl f))) (hj : j < nn) (hn : nn < 2 ^ 31) (hw : ws.set q0 (a, .inl (cy 0, nn, .inl (upd f j v))) = ws') (hdg : decode cc pc = .ok (.iastore, 1)) (K : GG p l e R s m args below meth c D A nL Q ws' k n lv (pc + 1) (st)) : GG p l e R s m args below meth c D A nL Q ws k n lv (pc) (.int v :: .int (nI j) :: .ref a :: st) := g_iast C q0 ha (vp_in_nI hj hn) (by rw [nI_clamp (by omega)]; exact hw) hdg K
theorem g_zastB (C : Cx p s m args meth c cc nL own Ts D cy zs A ret) {a nn j : Nat} {v : Bool} {f : Nat → Bool} {ws' : va_W} (q0 : Nat) (ha : ws[q0]? = some (a, .inl (cy 1, nn, .inl (fun i => bI (f i))))) (hj : j < nn) (hn : nn < 2 ^ 31) (hw : ws.set q0 (a, .inl (cy 1, nn, .inl (fun i => bI (va_up f j v i)))) = ws') (hdg : decode cc pc = .ok (.bastore, 1)) (K : GG p l e R s m args below meth c D A nL Q ws' k n lv (pc + 1) (st)) : GG p l e R s m args below meth c D A nL Q ws k n lv (pc) (.int (bI v) :: .int (nI j) :: .ref a :: st) := g_zast C q0 ha (vp_in_nI hj hn) (by rw [up_bI (by omega)]; exact hw) hdg K

theorem g_join {α : Type} (I : α → Prop) (jp : Nat) (jws : va_W) (jlv : List (Nat × Value)) (jst : α → List Value) (J : ∀ x : α, I x → GG p l e R s m args below meth c D A nL Q jws k n jlv jp (jst x)) (K : (∀ x : α, I x → GG p l e R s m args below meth c D A nL Q jws k n jlv jp (jst x)) → GG p l e R s m args below meth c D A nL Q ws k n lv pc st) : GG p l e R s m args below meth c D A nL Q ws k n lv pc st := K J
theorem g_loop1 {α0 : Type} {jp : Nat} (I : α0 → Prop) (μ : α0 → Nat) (jws : α0 → va_W) (jlv : α0 → List (Nat × Value)) (jst : α0 → List Value) (S : ∀ (x0 : α0), I x0 → (∀ (y0 : α0), I y0 → μ y0 < μ x0 → GG p l e R s m args below meth c D A nL Q (jws y0) k n (jlv y0) jp (jst y0)) → GG p l e R s m args below meth c D A nL Q (jws x0) k n (jlv x0) jp (jst x0)) : ∀ (x0 : α0), I x0 → GG p l e R s m args below meth c D A nL Q (jws x0) k n (jlv x0) jp (jst x0) := by
  have key : ∀ (d : Nat) (x0 : α0), μ x0 < d → I x0 → GG p l e R s m args below meth c D A nL Q (jws x0) k n (jlv x0) jp (jst x0) := by
    intro d
    induction d with
    | zero => intro x0 h; exact absurd h (Nat.not_lt_zero _)
    | succ d ih =>
      intro x0 h hI
      exact S x0 hI (fun y0 hy hm => ih y0 (by omega) hy)
  intro x0 hI
  exact key (μ x0 + 1) x0 (Nat.lt_succ_self _) hI
theorem g_loop2 {α0 α1 : Type} {jp : Nat} (I : α0 → α1 → Prop) (μ : α0 → α1 → Nat) (jws : α0 → α1 → va_W) (jlv : α0 → α1 → List (Nat × Value)) (jst : α0 → α1 → List Value) (S : ∀ (x0 : α0) (x1 : α1), I x0 x1 → (∀ (y0 : α0) (y1 : α1), I y0 y1 → μ y0 y1 < μ x0 x1 → GG p l e R s m args below meth c D A nL Q (jws y0 y1) k n (jlv y0 y1) jp (jst y0 y1)) → GG p l e R s m args below meth c D A nL Q (jws x0 x1) k n (jlv x0 x1) jp (jst x0 x1)) : ∀ (x0 : α0) (x1 : α1), I x0 x1 → GG p l e R s m args below meth c D A nL Q (jws x0 x1) k n (jlv x0 x1) jp (jst x0 x1) := by
  have key : ∀ (d : Nat) (x0 : α0) (x1 : α1), μ x0 x1 < d → I x0 x1 → GG p l e R s m args below meth c D A nL Q (jws x0 x1) k n (jlv x0 x1) jp (jst x0 x1) := by
    intro d
    induction d with
    | zero => intro x0 x1 h; exact absurd h (Nat.not_lt_zero _)
    | succ d ih =>
      intro x0 x1 h hI
      exact S x0 x1 hI (fun y0 y1 hy hm => ih y0 y1 (by omega) hy)
  intro x0 x1 hI
  exact key (μ x0 x1 + 1) x0 x1 (Nat.lt_succ_self _) hI
theorem g_loop3 {α0 α1 α2 : Type} {jp : Nat} (I : α0 → α1 → α2 → Prop) (μ : α0 → α1 → α2 → Nat) (jws : α0 → α1 → α2 → va_W) (jlv : α0 → α1 → α2 → List (Nat × Value)) (jst : α0 → α1 → α2 → List Value) (S : ∀ (x0 : α0) (x1 : α1) (x2 : α2), I x0 x1 x2 → (∀ (y0 : α0) (y1 : α1) (y2 : α2), I y0 y1 y2 → μ y0 y1 y2 < μ x0 x1 x2 → GG p l e R s m args below meth c D A nL Q (jws y0 y1 y2) k n (jlv y0 y1 y2) jp (jst y0 y1 y2)) → GG p l e R s m args below meth c D A nL Q (jws x0 x1 x2) k n (jlv x0 x1 x2) jp (jst x0 x1 x2)) : ∀ (x0 : α0) (x1 : α1) (x2 : α2), I x0 x1 x2 → GG p l e R s m args below meth c D A nL Q (jws x0 x1 x2) k n (jlv x0 x1 x2) jp (jst x0 x1 x2) := by
  have key : ∀ (d : Nat) (x0 : α0) (x1 : α1) (x2 : α2), μ x0 x1 x2 < d → I x0 x1 x2 → GG p l e R s m args below meth c D A nL Q (jws x0 x1 x2) k n (jlv x0 x1 x2) jp (jst x0 x1 x2) := by
    intro d
    induction d with
    | zero => intro x0 x1 x2 h; exact absurd h (Nat.not_lt_zero _)
    | succ d ih =>
      intro x0 x1 x2 h hI
      exact S x0 x1 x2 hI (fun y0 y1 y2 hy hm => ih y0 y1 y2 (by omega) hy)
  intro x0 x1 x2 hI
  exact key (μ x0 x1 x2 + 1) x0 x1 x2 (Nat.lt_succ_self _) hI
theorem g_loop4 {α0 α1 α2 α3 : Type} {jp : Nat} (I : α0 → α1 → α2 → α3 → Prop) (μ : α0 → α1 → α2 → α3 → Nat) (jws : α0 → α1 → α2 → α3 → va_W) (jlv : α0 → α1 → α2 → α3 → List (Nat × Value)) (jst : α0 → α1 → α2 → α3 → List Value) (S : ∀ (x0 : α0) (x1 : α1) (x2 : α2) (x3 : α3), I x0 x1 x2 x3 → (∀ (y0 : α0) (y1 : α1) (y2 : α2) (y3 : α3), I y0 y1 y2 y3 → μ y0 y1 y2 y3 < μ x0 x1 x2 x3 → GG p l e R s m args below meth c D A nL Q (jws y0 y1 y2 y3) k n (jlv y0 y1 y2 y3) jp (jst y0 y1 y2 y3)) → GG p l e R s m args below meth c D A nL Q (jws x0 x1 x2 x3) k n (jlv x0 x1 x2 x3) jp (jst x0 x1 x2 x3)) : ∀ (x0 : α0) (x1 : α1) (x2 : α2) (x3 : α3), I x0 x1 x2 x3 → GG p l e R s m args below meth c D A nL Q (jws x0 x1 x2 x3) k n (jlv x0 x1 x2 x3) jp (jst x0 x1 x2 x3) := by
  have key : ∀ (d : Nat) (x0 : α0) (x1 : α1) (x2 : α2) (x3 : α3), μ x0 x1 x2 x3 < d → I x0 x1 x2 x3 → GG p l e R s m args below meth c D A nL Q (jws x0 x1 x2 x3) k n (jlv x0 x1 x2 x3) jp (jst x0 x1 x2 x3) := by
    intro d
    induction d with
    | zero => intro x0 x1 x2 x3 h; exact absurd h (Nat.not_lt_zero _)
    | succ d ih =>
      intro x0 x1 x2 x3 h hI
      exact S x0 x1 x2 x3 hI (fun y0 y1 y2 y3 hy hm => ih y0 y1 y2 y3 (by omega) hy)
  intro x0 x1 x2 x3 hI
  exact key (μ x0 x1 x2 x3 + 1) x0 x1 x2 x3 (Nat.lt_succ_self _) hI
theorem g_loop5 {α0 α1 α2 α3 α4 : Type} {jp : Nat} (I : α0 → α1 → α2 → α3 → α4 → Prop) (μ : α0 → α1 → α2 → α3 → α4 → Nat) (jws : α0 → α1 → α2 → α3 → α4 → va_W) (jlv : α0 → α1 → α2 → α3 → α4 → List (Nat × Value)) (jst : α0 → α1 → α2 → α3 → α4 → List Value) (S : ∀ (x0 : α0) (x1 : α1) (x2 : α2) (x3 : α3) (x4 : α4), I x0 x1 x2 x3 x4 → (∀ (y0 : α0) (y1 : α1) (y2 : α2) (y3 : α3) (y4 : α4), I y0 y1 y2 y3 y4 → μ y0 y1 y2 y3 y4 < μ x0 x1 x2 x3 x4 → GG p l e R s m args below meth c D A nL Q (jws y0 y1 y2 y3 y4) k n (jlv y0 y1 y2 y3 y4) jp (jst y0 y1 y2 y3 y4)) → GG p l e R s m args below meth c D A nL Q (jws x0 x1 x2 x3 x4) k n (jlv x0 x1 x2 x3 x4) jp (jst x0 x1 x2 x3 x4)) : ∀ (x0 : α0) (x1 : α1) (x2 : α2) (x3 : α3) (x4 : α4), I x0 x1 x2 x3 x4 → GG p l e R s m args below meth c D A nL Q (jws x0 x1 x2 x3 x4) k n (jlv x0 x1 x2 x3 x4) jp (jst x0 x1 x2 x3 x4) := by
  have key : ∀ (d : Nat) (x0 : α0) (x1 : α1) (x2 : α2) (x3 : α3) (x4 : α4), μ x0 x1 x2 x3 x4 < d → I x0 x1 x2 x3 x4 → GG p l e R s m args below meth c D A nL Q (jws x0 x1 x2 x3 x4) k n (jlv x0 x1 x2 x3 x4) jp (jst x0 x1 x2 x3 x4) := by
    intro d
    induction d with
    | zero => intro x0 x1 x2 x3 x4 h; exact absurd h (Nat.not_lt_zero _)
    | succ d ih =>
      intro x0 x1 x2 x3 x4 h hI
      exact S x0 x1 x2 x3 x4 hI (fun y0 y1 y2 y3 y4 hy hm => ih y0 y1 y2 y3 y4 (by omega) hy)
  intro x0 x1 x2 x3 x4 hI
  exact key (μ x0 x1 x2 x3 x4 + 1) x0 x1 x2 x3 x4 (Nat.lt_succ_self _) hI
theorem g_loop6 {α0 α1 α2 α3 α4 α5 : Type} {jp : Nat} (I : α0 → α1 → α2 → α3 → α4 → α5 → Prop) (μ : α0 → α1 → α2 → α3 → α4 → α5 → Nat) (jws : α0 → α1 → α2 → α3 → α4 → α5 → va_W) (jlv : α0 → α1 → α2 → α3 → α4 → α5 → List (Nat × Value)) (jst : α0 → α1 → α2 → α3 → α4 → α5 → List Value) (S : ∀ (x0 : α0) (x1 : α1) (x2 : α2) (x3 : α3) (x4 : α4) (x5 : α5), I x0 x1 x2 x3 x4 x5 → (∀ (y0 : α0) (y1 : α1) (y2 : α2) (y3 : α3) (y4 : α4) (y5 : α5), I y0 y1 y2 y3 y4 y5 → μ y0 y1 y2 y3 y4 y5 < μ x0 x1 x2 x3 x4 x5 → GG p l e R s m args below meth c D A nL Q (jws y0 y1 y2 y3 y4 y5) k n (jlv y0 y1 y2 y3 y4 y5) jp (jst y0 y1 y2 y3 y4 y5)) → GG p l e R s m args below meth c D A nL Q (jws x0 x1 x2 x3 x4 x5) k n (jlv x0 x1 x2 x3 x4 x5) jp (jst x0 x1 x2 x3 x4 x5)) : ∀ (x0 : α0) (x1 : α1) (x2 : α2) (x3 : α3) (x4 : α4) (x5 : α5), I x0 x1 x2 x3 x4 x5 → GG p l e R s m args below meth c D A nL Q (jws x0 x1 x2 x3 x4 x5) k n (jlv x0 x1 x2 x3 x4 x5) jp (jst x0 x1 x2 x3 x4 x5) := by
  have key : ∀ (d : Nat) (x0 : α0) (x1 : α1) (x2 : α2) (x3 : α3) (x4 : α4) (x5 : α5), μ x0 x1 x2 x3 x4 x5 < d → I x0 x1 x2 x3 x4 x5 → GG p l e R s m args below meth c D A nL Q (jws x0 x1 x2 x3 x4 x5) k n (jlv x0 x1 x2 x3 x4 x5) jp (jst x0 x1 x2 x3 x4 x5) := by
    intro d
    induction d with
    | zero => intro x0 x1 x2 x3 x4 x5 h; exact absurd h (Nat.not_lt_zero _)
    | succ d ih =>
      intro x0 x1 x2 x3 x4 x5 h hI
      exact S x0 x1 x2 x3 x4 x5 hI (fun y0 y1 y2 y3 y4 y5 hy hm => ih y0 y1 y2 y3 y4 y5 (by omega) hy)
  intro x0 x1 x2 x3 x4 x5 hI
  exact key (μ x0 x1 x2 x3 x4 x5 + 1) x0 x1 x2 x3 x4 x5 (Nat.lt_succ_self _) hI
theorem g_loop7 {α0 α1 α2 α3 α4 α5 α6 : Type} {jp : Nat} (I : α0 → α1 → α2 → α3 → α4 → α5 → α6 → Prop) (μ : α0 → α1 → α2 → α3 → α4 → α5 → α6 → Nat) (jws : α0 → α1 → α2 → α3 → α4 → α5 → α6 → va_W) (jlv : α0 → α1 → α2 → α3 → α4 → α5 → α6 → List (Nat × Value)) (jst : α0 → α1 → α2 → α3 → α4 → α5 → α6 → List Value) (S : ∀ (x0 : α0) (x1 : α1) (x2 : α2) (x3 : α3) (x4 : α4) (x5 : α5) (x6 : α6), I x0 x1 x2 x3 x4 x5 x6 → (∀ (y0 : α0) (y1 : α1) (y2 : α2) (y3 : α3) (y4 : α4) (y5 : α5) (y6 : α6), I y0 y1 y2 y3 y4 y5 y6 → μ y0 y1 y2 y3 y4 y5 y6 < μ x0 x1 x2 x3 x4 x5 x6 → GG p l e R s m args below meth c D A nL Q (jws y0 y1 y2 y3 y4 y5 y6) k n (jlv y0 y1 y2 y3 y4 y5 y6) jp (jst y0 y1 y2 y3 y4 y5 y6)) → GG p l e R s m args below meth c D A nL Q (jws x0 x1 x2 x3 x4 x5 x6) k n (jlv x0 x1 x2 x3 x4 x5 x6) jp (jst x0 x1 x2 x3 x4 x5 x6)) : ∀ (x0 : α0) (x1 : α1) (x2 : α2) (x3 : α3) (x4 : α4) (x5 : α5) (x6 : α6), I x0 x1 x2 x3 x4 x5 x6 → GG p l e R s m args below meth c D A nL Q (jws x0 x1 x2 x3 x4 x5 x6) k n (jlv x0 x1 x2 x3 x4 x5 x6) jp (jst x0 x1 x2 x3 x4 x5 x6) := by
  have key : ∀ (d : Nat) (x0 : α0) (x1 : α1) (x2 : α2) (x3 : α3) (x4 : α4) (x5 : α5) (x6 : α6), μ x0 x1 x2 x3 x4 x5 x6 < d → I x0 x1 x2 x3 x4 x5 x6 → GG p l e R s m args below meth c D A nL Q (jws x0 x1 x2 x3 x4 x5 x6) k n (jlv x0 x1 x2 x3 x4 x5 x6) jp (jst x0 x1 x2 x3 x4 x5 x6) := by
    intro d
    induction d with
    | zero => intro x0 x1 x2 x3 x4 x5 x6 h; exact absurd h (Nat.not_lt_zero _)
    | succ d ih =>
      intro x0 x1 x2 x3 x4 x5 x6 h hI
      exact S x0 x1 x2 x3 x4 x5 x6 hI (fun y0 y1 y2 y3 y4 y5 y6 hy hm => ih y0 y1 y2 y3 y4 y5 y6 (by omega) hy)
  intro x0 x1 x2 x3 x4 x5 x6 hI
  exact key (μ x0 x1 x2 x3 x4 x5 x6 + 1) x0 x1 x2 x3 x4 x5 x6 (Nat.lt_succ_self _) hI
end HELP
