/-! the house's world: 24 cells that stay, then the files, two cells each, then the list's array -/
abbrev FT : Type := Nat × Nat × Nat × Int32 × (Nat → Int32) × Nat × Bool × (Nat → Bool)
def objc (F : FT) : Nat × va_E := (F.1, .inr (1, [.int (nI F.2.2.1), .int F.2.2.2.1, .ref F.2.1, .int (nI F.2.2.2.2.2.1), .int (bI F.2.2.2.2.2.2.1), .int (nI (mskN F.2.2.2.2.2.2.2 F.2.2.2.2.2.1))]))
def arrc (cy : Nat → ClassId) (F : FT) : Nat × va_E := (F.2.1, .inl (cy 0, 24, .inl F.2.2.2.2.1))
def flC (cy : Nat → ClassId) : List FT → va_W
  | [] => []
  | F :: Fs => objc F :: arrc cy F :: flC cy Fs
def obF (Fs : List FT) : Nat → Option Nat := fun i => (Fs[i]?).map (fun F => F.1)
def edr (z0 : Nat) (ed : Option (Nat × Nat)) : Nat := match ed with
  | none => z0
  | some p => p.1
def edc (cy : Nat → ClassId) (ed : Option (Nat × Nat)) (Fs : List FT) : va_W := match ed with
  | none => []
  | some p => [(p.1, .inl (cy 3, p.2, .inr (.inr (.inr (.inr (obF Fs))))))]
def fx (cy : Nat → ClassId) (a : Nat → Nat) (er : Nat) (lab : Nat → Option Nat) (quo spe : Nat → Nat) (md : Int32) (nf : Nat) (lis : Nat → Nat) (lc : Nat) (see : Nat → Nat → Int32) (cnt : Nat → Nat) : va_W :=
  (a 0, .inr (2, [.ref (a 1), .ref (a 2), .ref (a 3), .ref (a 4), .ref (a 5), .int (nI lc), .ref (a 6), .ref (a 7)])) :: (a 1, .inl (cy 0, 16, .inl (fun i => fI (lab i)))) :: (a 2, .inl (cy 0, 1024, .inl (fun i => nI (quo i)))) :: (a 3, .inl (cy 0, 1024, .inl (fun i => nI (spe i)))) :: (a 4, .inr (0, [.int md, .ref er, .int (nI nf)])) :: (a 5, .inl (cy 0, 32, .inl (fun i => nI (lis i)))) :: (a 6, .inl (cy 4, 16, .inr (.inr (.inr (.inr (fun i => if i < 16 then some (a (8 + i)) else none)))))) :: (a 7, .inl (cy 0, 16, .inl (fun i => nI (cnt i)))) :: (List.range 16).map (fun S => ((a (8 + S), .inl (cy 0, 200, .inl (see S))) : Nat × va_E))
def wC (cy : Nat → ClassId) (a : Nat → Nat) (z0 : Nat) (lab : Nat → Option Nat) (quo spe : Nat → Nat) (md : Int32) (ed : Option (Nat × Nat)) (lis : Nat → Nat) (lc : Nat) (see : Nat → Nat → Int32) (cnt : Nat → Nat) (Fs : List FT) : va_W := fx cy a (edr z0 ed) lab quo spe md Fs.length lis lc see cnt ++ (flC cy Fs ++ edc cy ed Fs)
def edOk (ed : Option (Nat × Nat)) (n : Nat) : Prop := match ed with
  | none => n = 0
  | some p => n ≤ p.2 ∧ 0 < p.2 ∧ p.2 ≤ 300
def CI (lab : Nat → Option Nat) (quo spe : Nat → Nat) (ed : Option (Nat × Nat)) (lis : Nat → Nat) (lc : Nat) (cnt : Nat → Nat) (Fs : List FT) : Prop := (∀ i L, lab i = some L → L < 1024) ∧ (∀ i, quo i ≤ 1000) ∧ (∀ i, spe i ≤ 1000) ∧ lc ≤ 32 ∧ (∀ i, lis i < 16777216) ∧ (∀ i, cnt i ≤ 200) ∧ Fs.length ≤ 200 ∧ (∀ F ∈ Fs, F.2.2.1 < 16384 ∧ F.2.2.2.2.2.1 ≤ 24) ∧ edOk ed Fs.length
section CINV
variable {lab : Nat → Option Nat} {quo spe : Nat → Nat} {ed : Option (Nat × Nat)} {lis : Nat → Nat} {lc : Nat} {cnt : Nat → Nat} {Fs : List FT}
theorem CI.labP (h : CI lab quo spe ed lis lc cnt Fs) {S L : Nat} (e : lab S = some L) : L < 1024 := h.1 _ _ e
theorem CI.quoP (h : CI lab quo spe ed lis lc cnt Fs) (i : Nat) : quo i ≤ 1000 := h.2.1 i
theorem CI.speP (h : CI lab quo spe ed lis lc cnt Fs) (i : Nat) : spe i ≤ 1000 := h.2.2.1 i
theorem CI.lcP (h : CI lab quo spe ed lis lc cnt Fs) : lc ≤ 32 := h.2.2.2.1
theorem CI.lisP (h : CI lab quo spe ed lis lc cnt Fs) (i : Nat) : lis i < 16777216 := h.2.2.2.2.1 i
theorem CI.cntP (h : CI lab quo spe ed lis lc cnt Fs) (i : Nat) : cnt i ≤ 200 := h.2.2.2.2.2.1 i
theorem CI.lenP (h : CI lab quo spe ed lis lc cnt Fs) : Fs.length ≤ 200 := h.2.2.2.2.2.2.1
theorem CI.flP (h : CI lab quo spe ed lis lc cnt Fs) {i ob ar ky : Nat} {fo : Int32} {ce : Nat → Int32} {ct : Nat} {gi : Bool} {gv : Nat → Bool} (hF : Fs[i]? = some (ob, ar, ky, fo, ce, ct, gi, gv)) : ky < 16384 ∧ ct ≤ 24 := h.2.2.2.2.2.2.2.1 _ (List.mem_of_getElem? hF)
theorem CI.edP (h : CI lab quo spe ed lis lc cnt Fs) (hn : 0 < Fs.length) : ∃ q c, ed = some (q, c) ∧ Fs.length ≤ c ∧ c ≤ 300 := by
  have h9 := h.2.2.2.2.2.2.2.2
  cases e : ed with
  | none => rw [e] at h9; exact absurd h9 (by show ¬ Fs.length = 0; omega)
  | some p => rw [e] at h9; exact ⟨p.1, p.2, rfl, h9.1, h9.2.2⟩
theorem CI.upCnt (h : CI lab quo spe ed lis lc cnt Fs) {S v : Nat} (hv : v ≤ 200) : CI lab quo spe ed lis lc (va_up cnt S v) Fs := ⟨h.1, h.2.1, h.2.2.1, h.2.2.2.1, h.2.2.2.2.1, va_up_le h.2.2.2.2.2.1 hv, h.2.2.2.2.2.2⟩
theorem CI.upLab (h : CI lab quo spe ed lis lc cnt Fs) {S L : Nat} (hL : L < 1024) : CI (va_up lab S (some L)) quo spe ed lis lc cnt Fs := by
  refine ⟨fun i M e => ?_, h.2⟩
  unfold va_up at e
  split at e
  · cases e; exact hL
  · exact h.1 _ _ e
theorem CI.upQuo (h : CI lab quo spe ed lis lc cnt Fs) {L v : Nat} (hv : v ≤ 1000) : CI lab (va_up quo L v) spe ed lis lc cnt Fs := ⟨h.1, va_up_le h.2.1 hv, h.2.2⟩
theorem CI.upSpe (h : CI lab quo spe ed lis lc cnt Fs) {L v : Nat} (hv : v ≤ 1000) : CI lab quo (va_up spe L v) ed lis lc cnt Fs := ⟨h.1, h.2.1, va_up_le h.2.2.1 hv, h.2.2.2⟩
theorem CI.upLis (h : CI lab quo spe ed lis lc cnt Fs) {lis' : Nat → Nat} {lc' : Nat} (h1 : lc' ≤ 32) (h2 : ∀ i, lis' i < 16777216) : CI lab quo spe ed lis' lc' cnt Fs := ⟨h.1, h.2.1, h.2.2.1, h1, h2, h.2.2.2.2.2⟩
theorem CI.upF (h : CI lab quo spe ed lis lc cnt Fs) {i ob ar ky : Nat} {fo : Int32} {ce : Nat → Int32} {ct : Nat} {gi : Bool} {gv : Nat → Bool} (h1 : ky < 16384) (h2 : ct ≤ 24) : CI lab quo spe ed lis lc cnt (Fs.set i (ob, ar, ky, fo, ce, ct, gi, gv)) := by
  refine ⟨h.1, h.2.1, h.2.2.1, h.2.2.2.1, h.2.2.2.2.1, h.2.2.2.2.2.1, by rw [List.length_set]; exact h.lenP, fun F hF => ?_, by rw [List.length_set]; exact h.2.2.2.2.2.2.2.2⟩
  rcases List.mem_or_eq_of_mem_set hF with h9 | h9
  · exact h.2.2.2.2.2.2.2.1 F h9
  · subst h9
    exact ⟨h1, h2⟩
end CINV
theorem flC_len {cy : Nat → ClassId} : ∀ Fs : List FT, (flC cy Fs).length = 2 * Fs.length
  | [] => rfl
  | F :: Fs => by
    simp only [flC, List.length_cons, flC_len Fs]
    omega
theorem flC_obj {cy : Nat → ClassId} {F : FT} : ∀ {Fs : List FT} {i : Nat}, Fs[i]? = some F → (flC cy Fs)[2 * i]? = some (objc F)
  | G :: Fs, 0, h => by cases h; rfl
  | G :: Fs, i + 1, h => flC_obj (Fs := Fs) (i := i) h
theorem flC_arr {cy : Nat → ClassId} {F : FT} : ∀ {Fs : List FT} {i : Nat}, Fs[i]? = some F → (flC cy Fs)[2 * i + 1]? = some (arrc cy F)
  | G :: Fs, 0, h => by cases h; rfl
  | G :: Fs, i + 1, h => flC_arr (Fs := Fs) (i := i) h
theorem flC_sobj {cy : Nat → ClassId} {F F' : FT} (e : arrc cy F' = arrc cy F) : ∀ {Fs : List FT} {i : Nat}, Fs[i]? = some F → (flC cy Fs).set (2 * i) (objc F') = flC cy (Fs.set i F')
  | G :: Fs, 0, h => by
    cases h
    show objc F' :: arrc cy F :: flC cy Fs = objc F' :: arrc cy F' :: flC cy Fs
    rw [e]
  | G :: Fs, i + 1, h => by
    show objc G :: arrc cy G :: (flC cy Fs).set (2 * i) (objc F') = objc G :: arrc cy G :: flC cy (Fs.set i F')
    rw [flC_sobj e (Fs := Fs) (i := i) h]
theorem flC_sarr {cy : Nat → ClassId} {F F' : FT} (e : objc F' = objc F) : ∀ {Fs : List FT} {i : Nat}, Fs[i]? = some F → (flC cy Fs).set (2 * i + 1) (arrc cy F') = flC cy (Fs.set i F')
  | G :: Fs, 0, h => by
    cases h
    show objc F :: arrc cy F' :: flC cy Fs = objc F' :: arrc cy F' :: flC cy Fs
    rw [e]
  | G :: Fs, i + 1, h => by
    show objc G :: arrc cy G :: (flC cy Fs).set (2 * i + 1) (arrc cy F') = objc G :: arrc cy G :: flC cy (Fs.set i F')
    rw [flC_sarr e (Fs := Fs) (i := i) h]
theorem flC_sboth {cy : Nat → ClassId} {F F' : FT} : ∀ {Fs : List FT} {i : Nat}, Fs[i]? = some F → ((flC cy Fs).set (2 * i) (objc F')).set (2 * i + 1) (arrc cy F') = flC cy (Fs.set i F')
  | G :: Fs, 0, h => rfl
  | G :: Fs, i + 1, h => by
    show objc G :: arrc cy G :: ((flC cy Fs).set (2 * i) (objc F')).set (2 * i + 1) (arrc cy F') = objc G :: arrc cy G :: flC cy (Fs.set i F')
    rw [flC_sboth (Fs := Fs) (i := i) h]
theorem obF_set {Fs : List FT} {i : Nat} {F F' : FT} (h : Fs[i]? = some F) (e : F'.1 = F.1) : obF (Fs.set i F') = obF Fs := by
  funext x
  unfold obF
  by_cases g : i = x
  · subst g
    rw [set_at h, h]
    exact congrArg some e
  · rw [List.getElem?_set_ne g]
theorem edc_set {cy : Nat → ClassId} {ed : Option (Nat × Nat)} {Fs : List FT} {i : Nat} {F F' : FT} (h : Fs[i]? = some F) (e : F'.1 = F.1) : edc cy ed (Fs.set i F') = edc cy ed Fs := by
  unfold edc
  rw [obF_set h e]
section WC
variable {cy : Nat → ClassId} {a : Nat → Nat} {z0 er nf : Nat} {lab : Nat → Option Nat} {quo spe : Nat → Nat} {md : Int32} {ed : Option (Nat × Nat)} {lis : Nat → Nat} {lc : Nat} {see : Nat → Nat → Int32} {cnt : Nat → Nat} {Fs : List FT}
theorem fx_len : (fx cy a er lab quo spe md nf lis lc see cnt).length = 24 := by simp [fx]
theorem fx_at {X : va_W} {k : Nat} : (fx cy a er lab quo spe md nf lis lc see cnt ++ X)[24 + k]? = X[k]? := by
  rw [List.getElem?_append_right (by rw [fx_len]; omega), fx_len, Nat.add_sub_cancel_left]
theorem fx_set {X : va_W} {k : Nat} {q : Nat × va_E} : (fx cy a er lab quo spe md nf lis lc see cnt ++ X).set (24 + k) q = fx cy a er lab quo spe md nf lis lc see cnt ++ X.set k q := by
  rw [List.set_append_right _ _ (by rw [fx_len]; omega), fx_len, Nat.add_sub_cancel_left]
theorem fx_row {S : Nat} (hS : S < 16) : (fx cy a er lab quo spe md nf lis lc see cnt)[8 + S]? = some (a (8 + S), .inl (cy 0, 200, .inl (see S))) := by
  refine (congrArg (fun k => (fx cy a er lab quo spe md nf lis lc see cnt)[k]?) (Nat.add_comm 8 S)).trans ?_
  show ((List.range 16).map (fun S => ((a (8 + S), .inl (cy 0, 200, .inl (see S))) : Nat × va_E)))[S]? = _
  rw [List.getElem?_map, List.getElem?_range hS]
  rfl
theorem fx_rset {S : Nat} {f : Nat → Int32} : (fx cy a er lab quo spe md nf lis lc see cnt).set (8 + S) (a (8 + S), .inl (cy 0, 200, .inl f)) = fx cy a er lab quo spe md nf lis lc (va_up see S f) cnt := by
  apply List.ext_getElem?
  intro k
  by_cases hk : k < 8
  · rw [List.getElem?_set_ne (by omega)]
    rcases (by omega : k = 0 ∨ k = 1 ∨ k = 2 ∨ k = 3 ∨ k = 4 ∨ k = 5 ∨ k = 6 ∨ k = 7) with rfl | rfl | rfl | rfl | rfl | rfl | rfl | rfl <;> rfl
  · obtain ⟨j, rfl⟩ : ∃ j, k = 8 + j := ⟨k - 8, by omega⟩
    by_cases hj : j < 16
    · by_cases e : S = j
      · subst e
        rw [set_at (fx_row hj), fx_row hj, va_up_self]
      · rw [set_off (by omega) (fx_row hj), fx_row hj, va_up_ne _ _ (by omega)]
    · rw [List.getElem?_eq_none (by rw [List.length_set, fx_len]; omega), List.getElem?_eq_none (by rw [fx_len]; omega)]
theorem wC_row {S : Nat} (hS : S < 16) : (wC cy a z0 lab quo spe md ed lis lc see cnt Fs)[8 + S]? = some (a (8 + S), .inl (cy 0, 200, .inl (see S))) := app_at (fx_row hS)
theorem wC_rset {S : Nat} {f : Nat → Int32} (hS : S < 16) : (wC cy a z0 lab quo spe md ed lis lc see cnt Fs).set (8 + S) (a (8 + S), .inl (cy 0, 200, .inl f)) = wC cy a z0 lab quo spe md ed lis lc (va_up see S f) cnt Fs := ap_set (fx_row hS) fx_rset
theorem wC_obj {i : Nat} {F : FT} (h : Fs[i]? = some F) : (wC cy a z0 lab quo spe md ed lis lc see cnt Fs)[24 + 2 * i]? = some (objc F) := by
  unfold wC
  rw [fx_at]
  exact app_at (flC_obj h)
theorem wC_arr {i : Nat} {F : FT} (h : Fs[i]? = some F) : (wC cy a z0 lab quo spe md ed lis lc see cnt Fs)[24 + (2 * i + 1)]? = some (arrc cy F) := by
  unfold wC
  rw [fx_at]
  exact app_at (flC_arr h)
theorem wC_ed {q c : Nat} (h : ed = some (q, c)) : (wC cy a z0 lab quo spe md ed lis lc see cnt Fs)[24 + 2 * Fs.length]? = some (edr z0 ed, .inl (cy 3, c, .inr (.inr (.inr (.inr (obF Fs)))))) := by
  unfold wC
  rw [fx_at, List.getElem?_append_right (by rw [flC_len]; omega), flC_len, Nat.sub_self]
  subst h
  rfl
theorem wC_sobj {i : Nat} {F F' : FT} (h : Fs[i]? = some F) (e : arrc cy F' = arrc cy F) (e1 : F'.1 = F.1) : (wC cy a z0 lab quo spe md ed lis lc see cnt Fs).set (24 + 2 * i) (objc F') = wC cy a z0 lab quo spe md ed lis lc see cnt (Fs.set i F') := by
  unfold wC
  rw [fx_set, ap_set (flC_obj h) (flC_sobj e h), edc_set h e1, List.length_set]
theorem wC_sarr {i : Nat} {F F' : FT} (h : Fs[i]? = some F) (e : objc F' = objc F) (e1 : F'.1 = F.1) : (wC cy a z0 lab quo spe md ed lis lc see cnt Fs).set (24 + (2 * i + 1)) (arrc cy F') = wC cy a z0 lab quo spe md ed lis lc see cnt (Fs.set i F') := by
  unfold wC
  rw [fx_set, ap_set (flC_arr h) (flC_sarr e h), edc_set h e1, List.length_set]
theorem wC_sboth {i : Nat} {F F' : FT} (h : Fs[i]? = some F) (e1 : F'.1 = F.1) : ((wC cy a z0 lab quo spe md ed lis lc see cnt Fs).set (24 + 2 * i) (objc F')).set (24 + (2 * i + 1)) (arrc cy F') = wC cy a z0 lab quo spe md ed lis lc see cnt (Fs.set i F') := by
  unfold wC
  rw [fx_set, fx_set, ap_set (flC_obj h) rfl, ap_set (set_off (by omega) (flC_arr h)) (flC_sboth h), edc_set h e1, List.length_set]
theorem wC_isF {j y : Nat} (h : obF Fs j = some y) : isF (wC cy a z0 lab quo spe md ed lis lc see cnt Fs) y := by
  unfold obF at h
  cases e : Fs[j]? with
  | none => rw [e] at h; cases h
  | some F =>
    rw [e] at h
    cases h
    exact ⟨24 + 2 * j, _, wC_obj e⟩
end WC
/-! worlds that hold the same cells, or fewer -/
theorem va_D_iff {A : Nat → Prop} {ws : va_W} : va_D A ws ↔ (ws.map (fun q => q.1)).Nodup ∧ ∀ q ∈ ws, A q.1 := by
  constructor
  · intro h
    refine ⟨?_, fun q hq => ?_⟩
    · rw [List.Nodup, List.pairwise_iff_getElem]
      intro i j hi hj hij e
      rw [List.length_map] at hi hj
      rw [List.getElem_map, List.getElem_map] at e
      have := h.1 i j _ _ (List.getElem?_eq_getElem hi) (List.getElem?_eq_getElem hj) e
      omega
    · obtain ⟨k, hk⟩ := List.mem_iff_getElem?.mp hq
      exact h.2 k q hk
  · intro h
    refine ⟨fun i j p q hp hq e => ?_, fun k q hq => h.2 q (List.mem_of_getElem? hq)⟩
    have hn := h.1
    rw [List.Nodup, List.pairwise_iff_getElem] at hn
    obtain ⟨hi, ei⟩ := List.getElem?_eq_some_iff.mp hp
    obtain ⟨hj, ej⟩ := List.getElem?_eq_some_iff.mp hq
    rcases Nat.lt_trichotomy i j with g | g | g
    · exact absurd (by rw [List.getElem_map, List.getElem_map, ei, ej]; exact e) (hn i j (by rw [List.length_map]; exact hi) (by rw [List.length_map]; exact hj) g)
    · exact g
    · exact absurd (by rw [List.getElem_map, List.getElem_map, ei, ej]; exact e.symm) (hn j i (by rw [List.length_map]; exact hj) (by rw [List.length_map]; exact hi) g)
theorem va_D_perm {A : Nat → Prop} {ws ws' X : va_W} (h : (ws' ++ X).Perm ws) (hd : va_D A ws) : va_D A ws' := by
  rw [va_D_iff] at hd ⊢
  have h1 := (h.map (fun q => q.1)).nodup_iff.mpr hd.1
  rw [List.map_append] at h1
  exact ⟨(List.nodup_append.mp h1).1, fun q hq => hd.2 q (h.mem_iff.mp (List.mem_append_left _ hq))⟩
theorem va_P_perm {D : va_G} {ws ws' X : va_W} {H : Heap} (h : (ws' ++ X).Perm ws) (hp : va_P D vwCl ws H) : va_P D vwCl ws' H := by
  intro k q hq
  obtain ⟨j, hj⟩ := List.mem_iff_getElem?.mp (h.mem_iff.mp (List.mem_append_left X (List.mem_of_getElem? hq)))
  exact hp j q hj
section PERM
variable {p : Program} {l : Launch} {e : Env} {R : Room} {s : State} {m : MethodId} {args : Array Value} {below : List Frame} {meth : Method} {c : Code} {D : va_G} {A : Nat → Prop} {nL : Nat} {Q : State → Prop} {ws ws' X : va_W} {k n : Nat} {lv : List (Nat × Value)} {pc : Nat} {st : List Value}
theorem g_perm (h : (ws' ++ X).Perm ws) (K : GG p l e R s m args below meth c D A nL Q ws' k n lv pc st) : GG p l e R s m args below meth c D A nL Q ws k n lv pc st := g_ws (fun _ hp => va_P_perm h hp) (fun hd => va_D_perm h hd) K
end PERM
/-! what is looked at -/
def plF (Fs : List FT) (key : Nat) : Option Nat := Fs.findIdx? (fun F => F.2.2.1 == key)
theorem plF_none {Fs : List FT} {key : Nat} (h : ∀ (j : Nat) (F : FT), Fs[j]? = some F → ¬ F.2.2.1 = key) : plF Fs key = none := by
  unfold plF
  rw [List.findIdx?_eq_none_iff]
  intro F hF
  obtain ⟨j, hj⟩ := List.mem_iff_getElem?.mp hF
  simpa using h j F hj
theorem plF_some {Fs : List FT} {key k : Nat} {F : FT} (hk : Fs[k]? = some F) (he : F.2.2.1 = key) (h : ∀ (j : Nat) (G : FT), j < k → Fs[j]? = some G → ¬ G.2.2.1 = key) : plF Fs key = some k := by
  unfold plF
  rw [List.findIdx?_eq_some_iff_getElem]
  obtain ⟨h1, h2⟩ := List.getElem?_eq_some_iff.mp hk
  refine ⟨h1, by rw [h2]; simpa using he, fun j hj => ?_⟩
  have := h j _ hj (List.getElem?_eq_getElem (by omega))
  simpa using this
theorem plF_spec {Fs : List FT} {key k : Nat} (h : plF Fs key = some k) : ∃ F, Fs[k]? = some F ∧ F.2.2.1 = key := by
  unfold plF at h
  rw [List.findIdx?_eq_some_iff_getElem] at h
  obtain ⟨h1, h2, -⟩ := h
  exact ⟨Fs[k], List.getElem?_eq_getElem h1, by simpa using h2⟩
def unF (L : Nat) (F : FT) : Nat := if F.2.2.1 / 16 = L then untN F.2.2.2.2.2.2.1 F.2.2.2.2.2.2.2 F.2.2.2.2.2.1 else 0
def oneF (L : Nat) (F : FT) : Nat := if F.2.2.1 / 16 = L then 1 else 0
def usF (spe : Nat → Nat) (Fs : List FT) (L : Nat) : Nat := spe L + (Fs.map (unF L)).sum
def cnF (Fs : List FT) (L : Nat) : Nat := (Fs.map (oneF L)).sum
theorem sum_take {Fs : List FT} {f : FT → Nat} {k : Nat} {F : FT} (h : Fs[k]? = some F) : ((Fs.take (k + 1)).map f).sum = ((Fs.take k).map f).sum + f F := by
  rw [List.take_add_one, h, List.map_append, List.sum_append]
  rfl
theorem sum_le {f : FT → Nat} {B : Nat} : ∀ {Fs : List FT}, (∀ F ∈ Fs, f F ≤ B) → (Fs.map f).sum ≤ B * Fs.length
  | [], _ => Nat.zero_le _
  | F :: Fs, h => by
    have h1 := sum_le (Fs := Fs) (f := f) (B := B) (fun G hG => h G (List.mem_cons_of_mem _ hG))
    have h2 := h F List.mem_cons_self
    rw [List.map_cons, List.sum_cons, List.length_cons, Nat.mul_add, Nat.mul_one]
    omega
theorem unF_le {L : Nat} {F : FT} (h : F.2.2.2.2.2.1 ≤ 24) : unF L F ≤ 25 := by
  unfold unF
  split
  · exact untN_le h
  · omega
theorem oneF_le {L : Nat} {F : FT} : oneF L F ≤ 1 := by
  unfold oneF
  split <;> omega
theorem CI.us {lab : Nat → Option Nat} {quo spe : Nat → Nat} {ed : Option (Nat × Nat)} {lis : Nat → Nat} {lc : Nat} {cnt : Nat → Nat} {Fs : List FT} (h : CI lab quo spe ed lis lc cnt Fs) (L k : Nat) : ((Fs.take k).map (unF L)).sum ≤ 5000 := by
  have h1 := sum_le (Fs := Fs.take k) (f := unF L) (B := 25) (fun F hF => unF_le (h.2.2.2.2.2.2.2.1 F (List.mem_of_mem_take hF)).2)
  have h2 := h.lenP
  rw [List.length_take] at h1
  omega
theorem CI.usP {lab : Nat → Option Nat} {quo spe : Nat → Nat} {ed : Option (Nat × Nat)} {lis : Nat → Nat} {lc : Nat} {cnt : Nat → Nat} {Fs : List FT} (h : CI lab quo spe ed lis lc cnt Fs) (L : Nat) : usF spe Fs L ≤ 6000 ∧ spe L ≤ usF spe Fs L := by
  have h1 := h.us L Fs.length
  rw [List.take_length] at h1
  have h2 := h.speP L
  unfold usF
  omega
theorem CI.cn {lab : Nat → Option Nat} {quo spe : Nat → Nat} {ed : Option (Nat × Nat)} {lis : Nat → Nat} {lc : Nat} {cnt : Nat → Nat} {Fs : List FT} (h : CI lab quo spe ed lis lc cnt Fs) (L k : Nat) : ((Fs.take k).map (oneF L)).sum ≤ 200 := by
  have h1 := sum_le (Fs := Fs.take k) (f := oneF L) (B := 1) (fun F hF => oneF_le)
  have h2 := h.lenP
  rw [List.length_take] at h1
  omega
def isC (lis : Nat → Nat) (lc code : Nat) : Bool := (List.range lc).any (fun k => lis k == code)
theorem isC_t {lis : Nat → Nat} {lc code k : Nat} (hk : k < lc) (h : lis k = code) : nI 1 = bI (isC lis lc code) := by
  have : isC lis lc code = true := by
    unfold isC
    rw [List.any_eq_true]
    exact ⟨k, List.mem_range.mpr hk, by simpa using h⟩
  rw [this]
  rfl
theorem isC_f {lis : Nat → Nat} {lc code : Nat} (h : ∀ k, k < lc → ¬ lis k = code) : nI 0 = bI (isC lis lc code) := by
  have : isC lis lc code = false := by
    unfold isC
    rw [List.any_eq_false]
    intro k hk
    have := h k (List.mem_range.mp hk)
    simpa using this
  rw [this]
  rfl
def lsC (lis : Nat → Nat) (lc : Nat) : List Nat := (List.range lc).map lis
theorem lsC_s {lis : Nat → Nat} {lc : Nat} : lsC lis (lc + 1) = lsC lis lc ++ [lis lc] := by
  unfold lsC
  rw [List.range_succ, List.map_append]
  rfl
theorem lsC_up {lis : Nat → Nat} {lc v : Nat} : lsC (va_up lis lc v) (lc + 1) = lsC lis lc ++ [v] := by
  rw [lsC_s, va_up_self]
  congr 1
  unfold lsC
  refine List.map_congr_left fun k hk => ?_
  have := List.mem_range.mp hk
  exact va_up_ne _ _ (by omega)
/-- of the first k listings, those that are not this one stand first, n of them -/
def drI (lis1 lis : Nat → Nat) (code n k : Nat) : Prop := n ≤ k ∧ lsC lis1 n = (lsC lis k).filter (fun x => !(x == code)) ∧ (∀ j, k ≤ j → lis1 j = lis j) ∧ ∀ j, lis1 j < 16777216
theorem drI_0 {lis : Nat → Nat} {code : Nat} (h : ∀ j, lis j < 16777216) : drI lis lis code 0 0 := ⟨Nat.le_refl _, rfl, fun _ _ => rfl, h⟩
theorem drI_y {lis1 lis : Nat → Nat} {code n k : Nat} (h : drI lis1 lis code n k) (e : ¬ lis1 k = code) : drI (va_up lis1 n (lis1 k)) lis code (n + 1) (k + 1) := by
  obtain ⟨h1, h2, h3, h4⟩ := h
  refine ⟨by omega, ?_, fun j hj => ?_, va_up_lt h4 (h4 _)⟩
  · rw [lsC_up, lsC_s, List.filter_append, h2, h3 k (Nat.le_refl _)]
    congr 1
    rw [h3 k (Nat.le_refl _)] at e
    simp [e]
  · rw [va_up_ne _ _ (by omega)]
    exact h3 j (by omega)
theorem drI_n {lis1 lis : Nat → Nat} {code n k : Nat} (h : drI lis1 lis code n k) (e : lis1 k = code) : drI lis1 lis code n (k + 1) := by
  obtain ⟨h1, h2, h3, h4⟩ := h
  refine ⟨by omega, ?_, fun j hj => h3 j (by omega), h4⟩
  rw [lsC_s, List.filter_append, h2]
  rw [h3 k (Nat.le_refl _)] at e
  simp [e]
