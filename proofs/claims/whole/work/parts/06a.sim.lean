/-! the two states side by side -/
theorem upd_self {f : Nat → Int32} {k : Nat} {x : Int32} : upd f k x k = x := if_pos rfl
theorem upd_ne {f : Nat → Int32} {k j : Nat} {x : Int32} (h : ¬ j = k) : upd f k x j = f j := if_neg h
abbrev AF : Type := Nat × Int32 × Bool × Nat × (Nat → Int32) × (Nat → Bool)
def mA (nam : Nat → Nat) (gif : Nat → Bool) (fol : Nat → Int32) (siz : Nat → Nat) (cel : Nat → Int32) (giv : Nat → Bool) (k : Nat) : AF := (nam k, fol k, gif k, siz k, (fun i => if i < siz k then cel (24 * k + i) else 0), fun i => if i < siz k then giv (24 * k + i) else false)
def cA (F : FT) : AF := (F.2.2.1, F.2.2.2.1, F.2.2.2.2.2.2.1, F.2.2.2.2.2.1, (fun i => if i < F.2.2.2.2.2.1 then F.2.2.2.2.1 i else 0), fun i => if i < F.2.2.2.2.2.1 then F.2.2.2.2.2.2.2 i else false)
def mL (nam : Nat → Nat) (gif : Nat → Bool) (fol : Nat → Int32) (siz : Nat → Nat) (cel : Nat → Int32) (giv : Nat → Bool) (nf : Nat) : List AF := (List.range nf).map (mA nam gif fol siz cel giv)
def kyL (Fs : List FT) : List Nat := Fs.map (fun F => F.2.2.1)
def RF (nam : Nat → Nat) (gif : Nat → Bool) (fol : Nat → Int32) (siz : Nat → Nat) (cel : Nat → Int32) (giv : Nat → Bool) (nf : Nat) (Fs : List FT) : Prop := (mL nam gif fol siz cel giv nf).Perm (Fs.map cA) ∧ (kyL Fs).Pairwise (fun x y => x < y)
theorem cons_erase {α : Type} {a : α} : ∀ {l : List α} {i : Nat}, l[i]? = some a → (a :: l.eraseIdx i).Perm l
  | x :: xs, 0, h => by cases h; exact List.Perm.refl _
  | x :: xs, i + 1, h => by
    have ih := cons_erase (l := xs) (i := i) (a := a) h
    exact (List.Perm.swap x a _).trans (ih.cons x)
theorem set_erase {α : Type} {a b : α} : ∀ {l : List α} {i : Nat}, l[i]? = some a → (l.set i b).Perm (b :: l.eraseIdx i)
  | x :: xs, 0, h => by cases h; exact List.Perm.refl _
  | x :: xs, i + 1, h => by
    have ih := set_erase (l := xs) (i := i) (a := a) (b := b) h
    exact (ih.cons x).trans (List.Perm.swap b x _)
theorem perm_erase {α : Type} {a : α} {l1 l2 : List α} {i j : Nat} (h : l1.Perm l2) (h1 : l1[i]? = some a) (h2 : l2[j]? = some a) : (l1.eraseIdx i).Perm (l2.eraseIdx j) := ((cons_erase h1).trans (h.trans (cons_erase h2).symm)).cons_inv
theorem perm_set {α : Type} {a b : α} {l1 l2 : List α} {i j : Nat} (h : l1.Perm l2) (h1 : l1[i]? = some a) (h2 : l2[j]? = some a) : (l1.set i b).Perm (l2.set j b) := (set_erase h1).trans (((perm_erase h h1 h2).cons b).trans (set_erase h2).symm)
theorem mL_get {nam : Nat → Nat} {gif : Nat → Bool} {fol : Nat → Int32} {siz : Nat → Nat} {cel : Nat → Int32} {giv : Nat → Bool} {nf k : Nat} (h : k < nf) : (mL nam gif fol siz cel giv nf)[k]? = some (mA nam gif fol siz cel giv k) := by
  unfold mL
  rw [List.getElem?_map, List.getElem?_range h]
  rfl
theorem mA_eq {nam nam' : Nat → Nat} {gif gif' : Nat → Bool} {fol fol' : Nat → Int32} {siz siz' : Nat → Nat} {cel cel' : Nat → Int32} {giv giv' : Nat → Bool} {j k : Nat} (h1 : nam' j = nam k) (h2 : gif' j = gif k) (h3 : fol' j = fol k) (h4 : siz' j = siz k) (h5 : ∀ i, i < siz k → cel' (24 * j + i) = cel (24 * k + i)) (h6 : ∀ i, i < siz k → giv' (24 * j + i) = giv (24 * k + i)) : mA nam' gif' fol' siz' cel' giv' j = mA nam gif fol siz cel giv k := by
  unfold mA
  rw [h1, h2, h3, h4]
  have e1 : (fun i => if i < siz k then cel' (24 * j + i) else 0) = fun i => if i < siz k then cel (24 * k + i) else 0 := by
    funext i
    split
    · next g => exact h5 i g
    · rfl
  have e2 : (fun i => if i < siz k then giv' (24 * j + i) else false) = fun i => if i < siz k then giv (24 * k + i) else false := by
    funext i
    split
    · next g => exact h6 i g
    · rfl
  rw [e1, e2]
theorem mA_cA {nam : Nat → Nat} {gif : Nat → Bool} {fol : Nat → Int32} {siz : Nat → Nat} {cel : Nat → Int32} {giv : Nat → Bool} {f ob ar ky ct : Nat} {fo : Int32} {ce : Nat → Int32} {gi : Bool} {gv : Nat → Bool} (h1 : nam f = ky) (h2 : gif f = gi) (h3 : fol f = fo) (h4 : siz f = ct) (h5 : ∀ i, i < ct → cel (24 * f + i) = ce i) (h6 : ∀ i, i < ct → giv (24 * f + i) = gv i) : mA nam gif fol siz cel giv f = cA (ob, ar, ky, fo, ce, ct, gi, gv) := by
  unfold mA cA
  rw [h1, h2, h3, h4]
  have e1 : (fun i => if i < ct then cel (24 * f + i) else 0) = fun i => if i < ct then ce i else 0 := by
    funext i
    split
    · next g => exact h5 i g
    · rfl
  have e2 : (fun i => if i < ct then giv (24 * f + i) else false) = fun i => if i < ct then gv i else false := by
    funext i
    split
    · next g => exact h6 i g
    · rfl
  rw [e1, e2]
theorem mA_inv {nam : Nat → Nat} {gif : Nat → Bool} {fol : Nat → Int32} {siz : Nat → Nat} {cel : Nat → Int32} {giv : Nat → Bool} {f ob ar ky ct : Nat} {fo : Int32} {ce : Nat → Int32} {gi : Bool} {gv : Nat → Bool} (h : mA nam gif fol siz cel giv f = cA (ob, ar, ky, fo, ce, ct, gi, gv)) : nam f = ky ∧ gif f = gi ∧ fol f = fo ∧ siz f = ct ∧ (∀ i, i < ct → cel (24 * f + i) = ce i) ∧ ∀ i, i < ct → giv (24 * f + i) = gv i := by
  unfold mA cA at h
  simp only [Prod.mk.injEq] at h
  obtain ⟨h1, h3, h2, h4, h5, h6⟩ := h
  refine ⟨h1, h2, h3, h4, fun i hi => ?_, fun i hi => ?_⟩
  · have e := congrFun h5 i
    simp only [h4, if_pos hi] at e
    exact e
  · have e := congrFun h6 i
    simp only [h4, if_pos hi] at e
    exact e
section RFS
variable {nam : Nat → Nat} {gif gif' : Nat → Bool} {fol : Nat → Int32} {siz siz' : Nat → Nat} {cel cel' : Nat → Int32} {giv giv' : Nat → Bool} {nf : Nat} {Fs : List FT}
theorem RF.len (h : RF nam gif fol siz cel giv nf Fs) : nf = Fs.length := by
  have := h.1.length_eq
  unfold mL at this
  rw [List.length_map, List.length_map, List.length_range] at this
  exact this
theorem RF.find (h : RF nam gif fol siz cel giv nf Fs) (key : Nat) : (findN nam nf key = none ∧ plF Fs key = none) ∨ ∃ (f i ob ar ky : Nat) (fo : Int32) (ce : Nat → Int32) (ct : Nat) (gi : Bool) (gv : Nat → Bool), findN nam nf key = some f ∧ f < nf ∧ plF Fs key = some i ∧ Fs[i]? = some (ob, ar, ky, fo, ce, ct, gi, gv) ∧ mA nam gif fol siz cel giv f = cA (ob, ar, ky, fo, ce, ct, gi, gv) ∧ ky = key := by
  cases e : findN nam nf key with
  | none =>
    refine Or.inl ⟨rfl, plF_none fun j F hF hk => ?_⟩
    have h1 : cA F ∈ mL nam gif fol siz cel giv nf := h.1.mem_iff.mpr (List.mem_map.mpr ⟨F, List.mem_of_getElem? hF, rfl⟩)
    unfold mL at h1
    obtain ⟨k, hk1, hk2⟩ := List.mem_map.mp h1
    have h2 : nam k = F.2.2.1 := congrArg (fun z => z.1) hk2
    exact findN_no e k (List.mem_range.mp hk1) (h2.trans hk)
  | some f =>
    obtain ⟨h1, h2⟩ := findN_spec e
    have h3 : mA nam gif fol siz cel giv f ∈ Fs.map cA := h.1.mem_iff.mp (List.mem_of_getElem? (mL_get h1))
    obtain ⟨G, hG1, hG2⟩ := List.mem_map.mp h3
    have hG3 : G.2.2.1 = key := (congrArg (fun z => z.1) hG2).trans h2
    cases e2 : plF Fs key with
    | none =>
      unfold plF at e2
      rw [List.findIdx?_eq_none_iff] at e2
      have := e2 G hG1
      rw [hG3] at this
      simp at this
    | some i =>
      obtain ⟨F, hF, hFk⟩ := plF_spec e2
      obtain ⟨j, hj⟩ := List.mem_iff_getElem?.mp hG1
      have hij : i = j := by
        have hp := h.2
        unfold kyL at hp
        rw [List.pairwise_iff_getElem] at hp
        obtain ⟨ai, bi⟩ := List.getElem?_eq_some_iff.mp hF
        obtain ⟨aj, bj⟩ := List.getElem?_eq_some_iff.mp hj
        rcases Nat.lt_trichotomy i j with g | g | g
        · have := hp i j (by rw [List.length_map]; exact ai) (by rw [List.length_map]; exact aj) g
          rw [List.getElem_map, List.getElem_map, bi, bj, hFk, hG3] at this
          omega
        · exact g
        · have := hp j i (by rw [List.length_map]; exact aj) (by rw [List.length_map]; exact ai) g
          rw [List.getElem_map, List.getElem_map, bi, bj, hFk, hG3] at this
          omega
      subst hij
      cases hF.symm.trans hj
      exact Or.inr ⟨f, i, G.1, G.2.1, G.2.2.1, G.2.2.2.1, G.2.2.2.2.1, G.2.2.2.2.2.1, G.2.2.2.2.2.2.1, G.2.2.2.2.2.2.2, rfl, h1, rfl, hF, hG2.symm, hFk⟩
theorem RF.set (h : RF nam gif fol siz cel giv nf Fs) {f i : Nat} {F F' : FT} (hf : f < nf) (hF : Fs[i]? = some F) (he : mA nam gif fol siz cel giv f = cA F) (hk : F'.2.2.1 = F.2.2.1) (ho : ∀ j, j < nf → ¬ j = f → mA nam gif' fol siz' cel' giv' j = mA nam gif fol siz cel giv j) (hn : mA nam gif' fol siz' cel' giv' f = cA F') : RF nam gif' fol siz' cel' giv' nf (Fs.set i F') := by
  have e1 : mL nam gif' fol siz' cel' giv' nf = (mL nam gif fol siz cel giv nf).set f (cA F') := by
    apply List.ext_getElem?
    intro k
    by_cases hk9 : k < nf
    · rw [mL_get hk9]
      by_cases e : f = k
      · subst e
        rw [set_at (mL_get hk9), hn]
      · rw [set_off e (mL_get hk9), ho k hk9 (fun q => e q.symm)]
    · have hl : (mL nam gif' fol siz' cel' giv' nf).length = nf := by unfold mL; rw [List.length_map, List.length_range]
      have hl2 : (mL nam gif fol siz cel giv nf).length = nf := by unfold mL; rw [List.length_map, List.length_range]
      rw [List.getElem?_eq_none (by omega), List.getElem?_eq_none (by rw [List.length_set]; omega)]
  refine ⟨?_, ?_⟩
  · rw [e1, List.map_set]
    exact perm_set h.1 (mL_get hf) (by rw [List.getElem?_map, hF]; exact congrArg some he.symm)
  · unfold kyL
    rw [List.map_set, hk]
    have e2 : (Fs.map (fun F => F.2.2.1)).set i F.2.2.1 = Fs.map (fun F => F.2.2.1) := (set_self (by rw [List.getElem?_map, hF]; rfl)).symm
    rw [e2]
    exact h.2
theorem pw_ins {α : Type} {R : α → α → Prop} {x : α} : ∀ {l : List α} {p : Nat}, l.Pairwise R → (∀ j y, j < p → l[j]? = some y → R y x) → (∀ j y, p ≤ j → l[j]? = some y → R x y) → (l.insertIdx p x).Pairwise R
  | l, 0, h, _, h2 => by
    rw [List.insertIdx_zero]
    refine List.pairwise_cons.mpr ⟨fun y hy => ?_, h⟩
    obtain ⟨j, hj⟩ := List.mem_iff_getElem?.mp hy
    exact h2 j y (Nat.zero_le _) hj
  | [], p + 1, _, _, _ => by
    rw [List.insertIdx_succ_nil]
    exact List.Pairwise.nil
  | y :: ys, p + 1, h, h1, h2 => by
    rw [List.insertIdx_succ_cons]
    obtain ⟨g1, g2⟩ := List.pairwise_cons.mp h
    refine List.pairwise_cons.mpr ⟨fun z hz => ?_, pw_ins g2 (fun j w hj hw => h1 (j + 1) w (by omega) hw) (fun j w hj hw => h2 (j + 1) w (by omega) hw)⟩
    by_cases hp : p ≤ ys.length
    · rcases (List.mem_insertIdx hp).mp hz with e | e
      · subst e
        exact h1 0 y (by omega) rfl
      · exact g1 z e
    · rw [List.insertIdx_of_length_lt (by omega)] at hz
      exact g1 z hz
theorem map_ins {α β : Type} {f : α → β} {x : α} : ∀ {l : List α} {p : Nat}, (l.insertIdx p x).map f = (l.map f).insertIdx p (f x)
  | l, 0 => rfl
  | [], p + 1 => rfl
  | y :: ys, p + 1 => by
    rw [List.insertIdx_succ_cons, List.map_cons, map_ins, List.map_cons, List.insertIdx_succ_cons]
theorem RF.new (h : RF nam gif fol siz cel giv nf Fs) {p q1 q2 key : Nat} {x : Int32} {g : Bool} {ce : Nat → Int32} {gv : Nat → Bool} (hp : insAt Fs key p) (hno : plF Fs key = none) : RF (va_up nam nf key) (va_up gif nf g) (upd fol nf x) (va_up siz nf 0) cel giv (nf + 1) (Fs.insertIdx p (q1, q2, key, x, ce, 0, g, gv)) := by
  have e1 : mL (va_up nam nf key) (va_up gif nf g) (upd fol nf x) (va_up siz nf 0) cel giv (nf + 1) = mL nam gif fol siz cel giv nf ++ [cA (q1, q2, key, x, ce, 0, g, gv)] := by
    unfold mL
    rw [List.range_succ, List.map_append]
    congr 1
    · refine List.map_congr_left fun k hk => ?_
      have := List.mem_range.mp hk
      exact mA_eq (va_up_ne _ _ (by omega)) (va_up_ne _ _ (by omega)) (upd_ne (by omega)) (va_up_ne _ _ (by omega)) (fun _ _ => rfl) (fun _ _ => rfl)
    · show [mA _ _ _ _ _ _ nf] = _
      rw [mA_cA (va_up_self _ _ _) (va_up_self _ _ _) upd_self (va_up_self _ _ _) (fun i hi => absurd hi (Nat.not_lt_zero _)) (fun i hi => absurd hi (Nat.not_lt_zero _))]
  have hno2 : ∀ (j : Nat) (G : FT), Fs[j]? = some G → ¬ G.2.2.1 = key := by
    intro j G hG e
    unfold plF at hno
    rw [List.findIdx?_eq_none_iff] at hno
    have := hno G (List.mem_of_getElem? hG)
    rw [e] at this
    simp at this
  refine ⟨?_, ?_⟩
  · rw [e1, map_ins]
    refine List.Perm.trans ?_ (List.perm_insertIdx (cA (q1, q2, key, x, ce, 0, g, gv)) (Fs.map cA) (by rw [List.length_map]; exact hp.1)).symm
    exact (List.perm_append_comm (l₂ := [cA (q1, q2, key, x, ce, 0, g, gv)])).trans (h.1.cons _)
  · unfold kyL
    rw [map_ins]
    refine pw_ins h.2 (fun j y hj hy => ?_) (fun j y hj hy => ?_)
    · show y < key
      rw [List.getElem?_map] at hy
      cases eG : Fs[j]? with
      | none => rw [eG] at hy; cases hy
      | some G =>
        rw [eG] at hy
        cases hy
        obtain ⟨G2, hG2, hle⟩ := hp.2.2 (by omega)
        have hne := hno2 j G eG
        by_cases e : j = p - 1
        · subst e
          cases eG.symm.trans hG2
          show G.2.2.1 < key
          omega
        · have hs := h.2
          unfold kyL at hs
          rw [List.pairwise_iff_getElem] at hs
          obtain ⟨a1, b1⟩ := List.getElem?_eq_some_iff.mp eG
          obtain ⟨a2, b2⟩ := List.getElem?_eq_some_iff.mp hG2
          have := hs j (p - 1) (by rw [List.length_map]; exact a1) (by rw [List.length_map]; exact a2) (by omega)
          rw [List.getElem_map, List.getElem_map, b1, b2] at this
          show G.2.2.1 < key
          omega
    · show key < y
      rw [List.getElem?_map] at hy
      cases eG : Fs[j]? with
      | none => rw [eG] at hy; cases hy
      | some G =>
        rw [eG] at hy
        cases hy
        exact hp.2.1 j G hj eG
end RFS
