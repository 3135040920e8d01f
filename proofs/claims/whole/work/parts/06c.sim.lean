/-! the listings -/
def cdM (lis : Nat → Nat) (k : Nat) : Nat := (lis (3 * k) * 1024 + lis (3 * k + 1)) * 1024 + lis (3 * k + 2)
def cdL (lis : Nat → Nat) (lc : Nat) : List Nat := (List.range lc).map (cdM lis)
def RS (lis : Nat → Nat) (lc : Nat) (lisC : Nat → Nat) (lcC : Nat) : Prop := (cdL lis lc).Perm (lsC lisC lcC) ∧ (cdL lis lc).Nodup ∧ ∀ k, k < lc → ¬ lis (3 * k + 1) = lis (3 * k + 2)
theorem isC_mem {lis : Nat → Nat} {lc code : Nat} : isC lis lc code = true ↔ code ∈ lsC lis lc := by
  unfold isC lsC
  rw [List.any_eq_true, List.mem_map]
  constructor
  · rintro ⟨k, h1, h2⟩
    exact ⟨k, h1, by simpa using h2⟩
  · rintro ⟨k, h1, h2⟩
    exact ⟨k, h1, by simpa using h2⟩
theorem cd_inj {s f t s' f' t' : Nat} (h1 : f < 1024) (h2 : t < 1024) (h3 : f' < 1024) (h4 : t' < 1024) (h : (s * 1024 + f) * 1024 + t = (s' * 1024 + f') * 1024 + t') : s = s' ∧ f = f' ∧ t = t' := by omega
section RSS
variable {lis : Nat → Nat} {lc : Nat} {lisC : Nat → Nat} {lcC : Nat}
theorem RS.len (h : RS lis lc lisC lcC) : lc = lcC := by
  have := h.1.length_eq
  unfold cdL lsC at this
  rw [List.length_map, List.length_map, List.length_range, List.length_range] at this
  exact this
theorem cd_find (hb : ∀ i, lis i < 1024) {S f t : Nat} (hf : f < 1024) (ht : t < 1024) : (lisN lis lc S f t = none ∧ ¬ (S * 1024 + f) * 1024 + t ∈ cdL lis lc) ∨ ∃ k, lisN lis lc S f t = some k ∧ k < lc ∧ cdM lis k = (S * 1024 + f) * 1024 + t := by
  cases e : lisN lis lc S f t with
  | none =>
    refine Or.inl ⟨rfl, fun hm => ?_⟩
    unfold cdL at hm
    obtain ⟨k, hk1, hk2⟩ := List.mem_map.mp hm
    have hk := List.mem_range.mp hk1
    unfold cdM at hk2
    obtain ⟨a1, a2, a3⟩ := cd_inj (hb _) (hb _) hf ht hk2
    exact lisN_no e k hk ⟨a1, a2, a3⟩
  | some k =>
    obtain ⟨h1, h2, h3, h4⟩ := lisN_spec e
    exact Or.inr ⟨k, rfl, h1, by unfold cdM; rw [h2, h3, h4]⟩
theorem RS.is (h : RS lis lc lisC lcC) (hb : ∀ i, lis i < 1024) {S f t : Nat} (hf : f < 1024) (ht : t < 1024) : (lisN lis lc S f t).isSome = isC lisC lcC ((S * 1024 + f) * 1024 + t) := by
  rcases cd_find (lc := lc) (S := S) hb hf ht with ⟨h1, h2⟩ | ⟨k, h1, h2, h3⟩
  · rw [h1]
    symm
    rw [Option.isSome_none, Bool.eq_false_iff]
    intro q
    exact h2 (h.1.mem_iff.mpr (isC_mem.mp q))
  · rw [h1]
    symm
    refine isC_mem.mpr (h.1.mem_iff.mp ?_)
    unfold cdL
    exact List.mem_map.mpr ⟨k, List.mem_range.mpr h2, h3⟩
theorem RS.ne (h : RS lis lc lisC lcC) (hb : ∀ i, lis i < 1024) {S f t : Nat} (q : isC lisC lcC ((S * 1024 + f) * 1024 + t) = true) (hf : f < 1024) (ht : t < 1024) : ¬ f = t := by
  have h1 := h.1.mem_iff.mpr (isC_mem.mp q)
  unfold cdL at h1
  obtain ⟨k, hk1, hk2⟩ := List.mem_map.mp h1
  have hk := List.mem_range.mp hk1
  unfold cdM at hk2
  obtain ⟨a1, a2, a3⟩ := cd_inj (hb _) (hb _) hf ht hk2
  have := h.2.2 k hk
  rw [a2, a3] at this
  exact this
theorem cdM_up {S f t j : Nat} : cdM (va_up (va_up (va_up lis (3 * lc) S) (3 * lc + 1) f) (3 * lc + 2) t) j = if j = lc then (S * 1024 + f) * 1024 + t else cdM lis j := by
  unfold cdM
  by_cases e : j = lc
  · subst e
    have a1 : va_up (va_up (va_up lis (3 * j) S) (3 * j + 1) f) (3 * j + 2) t (3 * j) = S := by rw [va_up_ne _ _ (by omega), va_up_ne _ _ (by omega), va_up_self]
    have a2 : va_up (va_up (va_up lis (3 * j) S) (3 * j + 1) f) (3 * j + 2) t (3 * j + 1) = f := by rw [va_up_ne _ _ (by omega), va_up_self]
    rw [if_pos rfl, va_up_self, a1, a2]
  · rw [if_neg e, va_up_ne _ _ (by omega), va_up_ne _ _ (by omega), va_up_ne _ _ (by omega), va_up_ne _ _ (by omega), va_up_ne _ _ (by omega), va_up_ne _ _ (by omega), va_up_ne _ _ (by omega), va_up_ne _ _ (by omega), va_up_ne _ _ (by omega)]
theorem RS.add (h : RS lis lc lisC lcC) (hb : ∀ i, lis i < 1024) {S f t : Nat} (hf : f < 1024) (ht : t < 1024) (hft : ¬ f = t) (hno : isC lisC lcC ((S * 1024 + f) * 1024 + t) = false) : RS (va_up (va_up (va_up lis (3 * lc) S) (3 * lc + 1) f) (3 * lc + 2) t) (lc + 1) (va_up lisC lcC ((S * 1024 + f) * 1024 + t)) (lcC + 1) := by
  have e1 : cdL (va_up (va_up (va_up lis (3 * lc) S) (3 * lc + 1) f) (3 * lc + 2) t) (lc + 1) = cdL lis lc ++ [(S * 1024 + f) * 1024 + t] := by
    unfold cdL
    have a1 : (List.range lc).map (cdM (va_up (va_up (va_up lis (3 * lc) S) (3 * lc + 1) f) (3 * lc + 2) t)) = (List.range lc).map (cdM lis) := List.map_congr_left fun k hk => by
      have := List.mem_range.mp hk
      rw [cdM_up, if_neg (by omega)]
    have a2 : [lc].map (cdM (va_up (va_up (va_up lis (3 * lc) S) (3 * lc + 1) f) (3 * lc + 2) t)) = [(S * 1024 + f) * 1024 + t] := by
      show [cdM _ lc] = _
      rw [cdM_up, if_pos rfl]
    rw [List.range_succ, List.map_append, a1, a2]
  have hn : ¬ (S * 1024 + f) * 1024 + t ∈ cdL lis lc := fun q => by
    have := isC_mem.mpr (h.1.mem_iff.mp q)
    rw [hno] at this
    cases this
  refine ⟨?_, ?_, fun k hk => ?_⟩
  · rw [e1, lsC_up]
    exact h.1.append_right _
  · rw [e1]
    refine List.nodup_append.mpr ⟨h.2.1, by simp, fun x hx y hy e => ?_⟩
    rw [List.mem_singleton] at hy
    subst hy
    subst e
    exact hn hx
  · by_cases e : k = lc
    · subst e
      rw [va_up_ne _ _ (by omega), va_up_self, va_up_self]
      exact hft
    · rw [va_up_ne _ _ (by omega), va_up_ne _ _ (by omega), va_up_ne _ _ (by omega), va_up_ne _ _ (by omega), va_up_ne _ _ (by omega), va_up_ne _ _ (by omega)]
      exact h.2.2 k (by omega)
theorem filter_ne_self {c : Nat} {l : List Nat} (h : ¬ c ∈ l) : l.filter (fun x => !(x == c)) = l := by
  rw [List.filter_eq_self]
  intro x hx
  have : ¬ x = c := fun e => h (e ▸ hx)
  simp [this]
theorem RS.drop0 (h : RS lis lc lisC lcC) {lis1 : Nat → Nat} {n0 code : Nat} (hno : isC lisC lcC code = false) (hd : drI lis1 lisC code n0 lcC) : RS lis lc lis1 n0 := by
  refine ⟨?_, h.2⟩
  rw [hd.2.1, filter_ne_self]
  · exact h.1
  · intro q
    have := isC_mem.mpr q
    rw [hno] at this
    cases this
theorem delL_o {k m j : Nat} (hj : ¬ j = k) : delL lis k m (3 * j) = lis (3 * j) ∧ delL lis k m (3 * j + 1) = lis (3 * j + 1) ∧ delL lis k m (3 * j + 2) = lis (3 * j + 2) := by
  unfold delL
  refine ⟨?_, ?_, ?_⟩ <;> rw [va_up_ne _ _ (by omega), va_up_ne _ _ (by omega), va_up_ne _ _ (by omega)]
theorem delL_k {k m : Nat} (hkm : ¬ k = m) : delL lis k m (3 * k) = lis (3 * m) ∧ delL lis k m (3 * k + 1) = lis (3 * m + 1) ∧ delL lis k m (3 * k + 2) = lis (3 * m + 2) := by
  unfold delL
  refine ⟨?_, ?_, ?_⟩
  · rw [va_up_ne _ _ (by omega), va_up_ne _ _ (by omega), Nat.add_zero, va_up_self]
    rfl
  · rw [va_up_ne _ _ (by omega), va_up_self, va_up_ne _ _ (by omega)]
  · rw [va_up_self, va_up_ne _ _ (by omega), va_up_ne _ _ (by omega)]
theorem RS.del (h : RS lis lc lisC lcC) {lis1 : Nat → Nat} {n0 code k : Nat} (hk : k < lc) (hc : cdM lis k = code) (hd : drI lis1 lisC code n0 lcC) : RS (delL lis k (lc - 1)) (lc - 1) lis1 n0 := by
  have h1 : (cdM lis k :: cdL (delL lis k (lc - 1)) (lc - 1)).Perm (cdL lis lc) := by
    refine last_perm hk (fun j hj hjk => ?_) (fun hlt => ?_)
    · obtain ⟨a1, a2, a3⟩ := delL_o (lis := lis) (m := lc - 1) hjk
      unfold cdM
      rw [a1, a2, a3]
    · obtain ⟨a1, a2, a3⟩ := delL_k (lis := lis) (k := k) (m := lc - 1) (by omega)
      unfold cdM
      rw [a1, a2, a3]
  rw [hc] at h1
  have hn := h1.nodup_iff.mpr h.2.1
  obtain ⟨hn1, hn2⟩ := List.nodup_cons.mp hn
  refine ⟨?_, hn2, fun j hj => ?_⟩
  · rw [hd.2.1]
    have h2 := (h1.trans h.1).filter (fun x => !(x == code))
    rw [List.filter_cons_of_neg (by simp), filter_ne_self hn1] at h2
    exact h2
  · by_cases e : j = k
    · subst e
      obtain ⟨a1, a2, a3⟩ := delL_k (lis := lis) (k := j) (m := lc - 1) (by omega)
      rw [a2, a3]
      exact h.2.2 _ (by omega)
    · obtain ⟨a1, a2, a3⟩ := delL_o (lis := lis) (m := lc - 1) e
      rw [a2, a3]
      exact h.2.2 _ (by omega)
theorem delL_lt {k m : Nat} (hb : ∀ i, lis i < 1024) : ∀ i, delL lis k m i < 1024 := by
  unfold delL
  exact va_up_lt (va_up_lt (va_up_lt hb (hb _)) (va_up_lt hb (hb _) _)) (va_up_lt (va_up_lt hb (hb _)) (va_up_lt hb (hb _) _) _)
end RSS
/-! all of it -/
def RE (see : Nat → Int32) (cnt : Nat → Nat) (seeC : Nat → Nat → Int32) (cntC : Nat → Nat) : Prop := ∀ S, S < 16 → cnt S = cntC S ∧ ∀ j, j < cnt S → see (200 * S + j) = seeC S j
abbrev MS : Type := (Nat → Nat) × (Nat → Bool) × (Nat → Nat) × (Nat → Nat) × (Nat → Nat) × (Nat → Bool) × (Nat → Int32) × (Nat → Nat) × (Nat → Int32) × (Nat → Bool) × Nat × (Nat → Nat) × Nat × (Nat → Int32) × (Nat → Nat)
abbrev CS : Type := (Nat → Option Nat) × (Nat → Nat) × (Nat → Nat) × Int32 × Option (Nat × Nat) × (Nat → Nat) × Nat × (Nat → Nat → Int32) × (Nat → Nat) × List FT
def wMt (cy : Nat → ClassId) (a : Nat → Nat) (m : MS) (thr : Nat) : va_W := match m with
  | (lab, has, quo, spe, nam, gif, fol, siz, cel, giv, nf, lis, lc, see, cnt) => wM cy a lab has quo spe nam gif fol siz cel giv nf lis lc see cnt thr
def wCt (cy : Nat → ClassId) (a : Nat → Nat) (z0 : Nat) (c : CS) : va_W := match c with
  | (lab, quo, spe, md, ed, lis, lc, see, cnt, Fs) => wC cy a z0 lab quo spe md ed lis lc see cnt Fs
def RR (lab : Nat → Nat) (has : Nat → Bool) (quo spe nam : Nat → Nat) (gif : Nat → Bool) (fol : Nat → Int32) (siz : Nat → Nat) (cel : Nat → Int32) (giv : Nat → Bool) (nf : Nat) (lis : Nat → Nat) (lc : Nat) (see : Nat → Int32) (cnt : Nat → Nat) (labC : Nat → Option Nat) (quoC speC : Nat → Nat) (ed : Option (Nat × Nat)) (lisC : Nat → Nat) (lcC : Nat) (seeC : Nat → Nat → Int32) (cntC : Nat → Nat) (Fs : List FT) : Prop :=
  MI lab quo spe nam siz cnt lis nf lc ∧ CI labC quoC speC ed lisC lcC cntC Fs ∧ (∀ S, S < 16 → olab has lab S = labC S) ∧ (∀ L, L < 1024 → quo L = quoC L) ∧ (∀ L, L < 1024 → spe L = speC L) ∧ RF nam gif fol siz cel giv nf Fs ∧ RS lis lc lisC lcC ∧ RE see cnt seeC cntC
def RT (m : MS) (c : CS) : Prop := match m, c with
  | (lab, has, quo, spe, nam, gif, fol, siz, cel, giv, nf, lis, lc, see, cnt), (labC, quoC, speC, _, ed, lisC, lcC, seeC, cntC, Fs) => RR lab has quo spe nam gif fol siz cel giv nf lis lc see cnt labC quoC speC ed lisC lcC seeC cntC Fs
/-- an answer on both sides, and the states after it -/
def AGN (cy : Nat → ClassId) (am ac : Nat → Nat) (z0 : Nat) (r : Int32) (w : va_W) (r' : Int32) (w' : va_W) : Prop := ∃ (m : MS) (c : CS), RT m c ∧ w = wCt cy ac z0 c ∧ w' = wMt cy am m 0 ∧ r = r'
def AGX (cy : Nat → ClassId) (am ac : Nat → Nat) (z0 : Nat) (E : String) (w w' : va_W) : Prop := ∃ (m : MS) (c : CS) (k : Nat), RT m c ∧ w = wCt cy ac z0 c ∧ w' = wMt cy am m k ∧ ((E = "java/lang/IllegalArgumentException" ∧ k = 1) ∨ (E = "java/lang/UnsupportedOperationException" ∧ k = 2))
section RES
variable {see : Nat → Int32} {cnt : Nat → Nat} {seeC : Nat → Nat → Int32} {cntC : Nat → Nat}
theorem RE.up0 (h : RE see cnt seeC cntC) {S : Nat} : RE see (va_up cnt S 0) seeC (va_up cntC S 0) := by
  intro T hT
  by_cases e : T = S
  · subst e
    rw [va_up_self, va_up_self]
    exact ⟨rfl, fun j hj => absurd hj (Nat.not_lt_zero _)⟩
  · rw [va_up_ne _ _ e, va_up_ne _ _ e]
    exact h T hT
theorem RE.upN (h : RE see cnt seeC cntC) {S n : Nat} {see1 : Nat → Int32} {f : Nat → Int32} (h1 : ∀ j, j < n → see1 (200 * S + j) = f j) (hn : ∀ i, cnt i ≤ 200) (h2 : ∀ i, (i < 200 * S ∨ 200 * S + 200 ≤ i) → see1 i = see i) : RE see1 (va_up cnt S n) (va_up seeC S f) (va_up cntC S n) := by
  intro T hT
  by_cases e : T = S
  · subst e
    rw [va_up_self, va_up_self, va_up_self]
    exact ⟨rfl, h1⟩
  · rw [va_up_ne _ _ e, va_up_ne _ _ e, va_up_ne _ _ e]
    obtain ⟨a1, a2⟩ := h T hT
    refine ⟨a1, fun j hj => ?_⟩
    have := hn T
    rw [h2 _ (by omega)]
    exact a2 j hj
end RES
