section RFT
variable {nam : Nat → Nat} {gif : Nat → Bool} {fol : Nat → Int32} {siz : Nat → Nat} {cel : Nat → Int32} {giv : Nat → Bool} {nf : Nat} {Fs : List FT}
/-! sums over the files -/
theorem cntG_congr {g h : Nat → Bool} : ∀ c, (∀ i, i < c → g i = h i) → cntG g c = cntG h c
  | 0, _ => rfl
  | c + 1, e => by
    simp only [cntG]
    rw [cntG_congr c (fun i hi => e i (by omega)), e c (by omega)]
theorem cntU_G {giv : Nat → Bool} {b : Nat} : ∀ c, cntU giv b c = cntG (fun i => giv (b + i)) c
  | 0 => rfl
  | c + 1 => by
    simp only [cntU, cntG]
    rw [cntU_G c]
def unA (L : Nat) (a : AF) : Nat := if a.1 / 16 = L then (if a.2.2.1 = true then 0 else 1) + cntG a.2.2.2.2.2 a.2.2.2.1 else 0
def oneA (L : Nat) (a : AF) : Nat := if a.1 / 16 = L then 1 else 0
theorem unA_c (L : Nat) (F : FT) : unA L (cA F) = unF L F := by
  unfold unA unF untN cA
  show (if F.2.2.1 / 16 = L then _ else 0) = _
  split
  · congr 1
    exact cntG_congr _ (fun i hi => if_pos hi)
  · rfl
theorem unA_m (L k : Nat) : unA L (mA nam gif fol siz cel giv k) = if nam k / 16 = L then countN gif siz giv k else 0 := by
  unfold unA countN mA
  show (if nam k / 16 = L then _ else 0) = _
  split
  · congr 1
    rw [cntU_G]
    exact cntG_congr _ (fun i hi => if_pos hi)
  · rfl
theorem sumU_l {L : Nat} : ∀ n, sumU nam gif siz giv L n = ((mL nam gif fol siz cel giv n).map (unA L)).sum
  | 0 => rfl
  | n + 1 => by
    have ih := sumU_l (L := L) n
    unfold mL at ih ⊢
    simp only [sumU]
    rw [ih, List.range_succ, List.map_append, List.map_append, List.sum_append]
    show _ = _ + ([unA L (mA nam gif fol siz cel giv n)]).sum
    rw [List.sum_singleton, unA_m]
theorem cntF_l {L : Nat} : ∀ n, cntF nam L n = ((mL nam gif fol siz cel giv n).map (oneA L)).sum
  | 0 => rfl
  | n + 1 => by
    have ih := cntF_l (L := L) n
    unfold mL at ih ⊢
    simp only [cntF]
    rw [ih, List.range_succ, List.map_append, List.map_append, List.sum_append]
    show _ = _ + ([oneA L (mA nam gif fol siz cel giv n)]).sum
    rw [List.sum_singleton]
    rfl
theorem RF.us (h : RF nam gif fol siz cel giv nf Fs) {spe speC : Nat → Nat} {L : Nat} (hs : spe L = speC L) : usesN spe nam gif siz giv nf L = usF speC Fs L := by
  unfold usesN usF
  rw [hs, sumU_l (fol := fol) (cel := cel), (h.1.map (unA L)).sum_nat, List.map_map]
  congr 2
  exact List.map_congr_left fun F _ => unA_c L F
theorem RF.cn (h : RF nam gif fol siz cel giv nf Fs) {L : Nat} : cntF nam L nf = cnF Fs L := by
  unfold cnF
  rw [cntF_l (gif := gif) (fol := fol) (siz := siz) (cel := cel) (giv := giv), (h.1.map (oneA L)).sum_nat, List.map_map]
  rfl
theorem RF.sz (h : RF nam gif fol siz cel giv nf Fs) (key : Nat) : (findN nam nf key).map siz = szF Fs key := by
  rcases h.find key with ⟨h1, h2⟩ | ⟨f, i, ob, ar, ky, fo, ce, ct, gi, gv, h1, h2, h3, h4, h5, h6⟩
  · rw [h1, sz_none h2]
    rfl
  · rw [h1, sz_some h3 h4]
    exact congrArg some (mA_inv h5).2.2.2.1
theorem RF.is (h : RF nam gif fol siz cel giv nf Fs) (key : Nat) : (findN nam nf key).isSome = (plF Fs key).isSome := by
  rcases h.find key with ⟨h1, h2⟩ | ⟨f, i, ob, ar, ky, fo, ce, ct, gi, gv, h1, h2, h3, h4, h5, h6⟩
  · rw [h1, h2]
  · rw [h1, h3]
    rfl
theorem cnt_m {f ob ar ky ct : Nat} {fo : Int32} {ce : Nat → Int32} {gi : Bool} {gv : Nat → Bool} (h : mA nam gif fol siz cel giv f = cA (ob, ar, ky, fo, ce, ct, gi, gv)) : countN gif siz giv f = untN gi gv ct := by
  obtain ⟨h1, h2, h3, h4, h5, h6⟩ := mA_inv h
  unfold countN untN
  rw [h2, h4, cntU_G]
  congr 1
  exact cntG_congr _ h6
theorem RF.rep (h : RF nam gif fol siz cel giv nf Fs) (key : Nat) : ((findN nam nf key).map (countN gif siz giv)).getD 0 = repF Fs key := by
  rcases h.find key with ⟨h1, h2⟩ | ⟨f, i, ob, ar, ky, fo, ce, ct, gi, gv, h1, h2, h3, h4, h5, h6⟩
  · rw [h1, rep_none h2]
    rfl
  · rw [h1, rep_some h3 h4]
    exact cnt_m h5
/-! what a folder shows -/
theorem filN_l {key own : Nat} {P : AF → Bool} (hP : ∀ k, P (mA nam gif fol siz cel giv k) = (decide (fol k = nI key) && mayN (nam k / 16) own)) : ∀ n, filN nam fol key own n = ((mL nam gif fol siz cel giv n).filter P).map (fun a => a.1)
  | n => by
    unfold filN mL
    rw [List.filter_map, List.map_map]
    congr 1
    exact List.filter_congr fun k _ => (hP k).symm
theorem RF.sh (h : RF nam gif fol siz cel giv nf Fs) {key o : Nat} {ls : List Nat} (h1 : srt ls) (h2 : ls.Perm (filN nam fol key o nf)) : ls = shF Fs key o := by
  have e1 := filN_l (nam := nam) (gif := gif) (fol := fol) (siz := siz) (cel := cel) (giv := giv) (key := key) (own := o) (P := fun a => decide (a.2.1 = nI key) && mayN (a.1 / 16) o) (fun k => rfl) nf
  have e2 : shF Fs key o = ((Fs.map cA).filter (fun a => decide (a.2.1 = nI key) && mayN (a.1 / 16) o)).map (fun a => a.1) := by
    unfold shF
    rw [List.filter_map, List.map_map]
    rfl
  have hp : ls.Perm (shF Fs key o) := by
    rw [e2]
    rw [e1] at h2
    exact h2.trans ((h.1.filter _).map _)
  have hs : (shF Fs key o).Pairwise (fun x y => x ≤ y) := by
    unfold shF
    have h3 := h.2
    unfold kyL at h3
    rw [List.pairwise_map] at h3 ⊢
    exact (h3.filter _).imp (fun h => Nat.le_of_lt h)
  exact List.Perm.eq_of_pairwise (fun a b _ _ g1 g2 => Nat.le_antisymm g1 g2) h1 hs hp
/-! removing -/
theorem mvC_o {cel : Nat → Int32} {t f j : Nat} (h : j < 24 * t ∨ 24 * t + 24 ≤ j) : ∀ n, n ≤ 24 → mvC cel t f n j = cel j
  | 0, _ => rfl
  | n + 1, hn => by
    simp only [mvC]
    rw [upd_ne (by omega)]
    exact mvC_o h n (by omega)
theorem mvC_i {cel : Nat → Int32} {t f i : Nat} (hft : ¬ t = f) : ∀ n, n ≤ 24 → i < n → mvC cel t f n (24 * t + i) = cel (24 * f + i)
  | 0, _, h => absurd h (Nat.not_lt_zero _)
  | n + 1, hn, hi => by
    simp only [mvC]
    by_cases e : i = n
    · subst e
      rw [upd_self]
      exact mvC_o (by omega) i (by omega)
    · rw [upd_ne (by omega)]
      exact mvC_i hft n (by omega) (by omega)
theorem mvG_o {giv : Nat → Bool} {t f j : Nat} (h : j < 24 * t ∨ 24 * t + 24 ≤ j) : ∀ n, n ≤ 24 → mvG giv t f n j = giv j
  | 0, _ => rfl
  | n + 1, hn => by
    simp only [mvG]
    rw [va_up_ne _ _ (by omega)]
    exact mvG_o h n (by omega)
theorem mvG_i {giv : Nat → Bool} {t f i : Nat} (hft : ¬ t = f) : ∀ n, n ≤ 24 → i < n → mvG giv t f n (24 * t + i) = giv (24 * f + i)
  | 0, _, h => absurd h (Nat.not_lt_zero _)
  | n + 1, hn, hi => by
    simp only [mvG]
    by_cases e : i = n
    · subst e
      rw [va_up_self]
      exact mvG_o (by omega) i (by omega)
    · rw [va_up_ne _ _ (by omega)]
      exact mvG_i hft n (by omega) (by omega)
theorem mvC_s {cel : Nat → Int32} {t : Nat} : ∀ n, mvC cel t t n = cel
  | 0 => rfl
  | n + 1 => by
    simp only [mvC]
    rw [mvC_s n]
    funext i
    unfold upd
    split
    · next e => rw [e]
    · rfl
theorem mvG_s {giv : Nat → Bool} {t : Nat} : ∀ n, mvG giv t t n = giv
  | 0 => rfl
  | n + 1 => by
    simp only [mvG]
    rw [mvG_s n]
    exact va_up_same rfl
theorem last_perm {α : Type} {g g' : Nat → α} {n k : Nat} (hk : k < n) (h1 : ∀ j, j < n - 1 → ¬ j = k → g' j = g j) (h2 : k < n - 1 → g' k = g (n - 1)) : (g k :: (List.range (n - 1)).map g').Perm ((List.range n).map g) := by
  obtain ⟨m, rfl⟩ : ∃ m, n = m + 1 := ⟨n - 1, by omega⟩
  rw [Nat.add_sub_cancel] at h1 h2 ⊢
  rw [List.range_succ, List.map_append]
  by_cases e : k = m
  · subst e
    have e1 : (List.range k).map g' = (List.range k).map g := List.map_congr_left fun j hj => by
      have := List.mem_range.mp hj
      exact h1 j this (by omega)
    rw [e1]
    exact (List.perm_append_comm (l₁ := [g k]) (l₂ := (List.range k).map g))
  · have hkm : k < m := by omega
    have e1 : (List.range m).map g' = ((List.range m).map g).set k (g m) := by
      apply List.ext_getElem?
      intro j
      by_cases hj : j < m
      · by_cases ej : k = j
        · subst ej
          rw [set_at (x := g k) (by rw [List.getElem?_map, List.getElem?_range hj]; rfl), List.getElem?_map, List.getElem?_range hj]
          exact congrArg some (h2 hj)
        · rw [set_off (x := g j) ej (by rw [List.getElem?_map, List.getElem?_range hj]; rfl), List.getElem?_map, List.getElem?_range hj]
          exact congrArg some (h1 j hj (fun q => ej q.symm))
      · rw [List.getElem?_eq_none (by rw [List.length_map, List.length_range]; omega), List.getElem?_eq_none (by rw [List.length_set, List.length_map, List.length_range]; omega)]
    have hg : ((List.range m).map g)[k]? = some (g k) := by rw [List.getElem?_map, List.getElem?_range hkm]; rfl
    rw [e1]
    refine ((set_erase hg).cons (g k)).trans ?_
    refine (List.Perm.swap (g m) (g k) _).trans ?_
    refine ((cons_erase hg).cons (g m)).trans ?_
    exact (List.perm_append_comm (l₁ := [g m]) (l₂ := (List.range m).map g))
theorem er_map {α β : Type} {f : α → β} : ∀ {l : List α} {i : Nat}, (l.map f).eraseIdx i = (l.eraseIdx i).map f
  | [], _ => rfl
  | x :: xs, 0 => rfl
  | x :: xs, i + 1 => by
    rw [List.map_cons, List.eraseIdx_cons_succ, er_map, List.eraseIdx_cons_succ, List.map_cons]
theorem RF.del (h : RF nam gif fol siz cel giv nf Fs) (hs : ∀ i, siz i ≤ 24) {f i : Nat} {F : FT} (hf : f < nf) (hF : Fs[i]? = some F) (he : mA nam gif fol siz cel giv f = cA F) : RF (va_up nam f (nam (nf - 1))) (va_up gif f (gif (nf - 1))) (upd fol f (fol (nf - 1))) (va_up siz f (siz (nf - 1))) (mvC cel f (nf - 1) 24) (mvG giv f (nf - 1) 24) (nf - 1) (Fs.eraseIdx i) := by
  refine ⟨?_, ?_⟩
  · have h1 : (mA nam gif fol siz cel giv f :: mL (va_up nam f (nam (nf - 1))) (va_up gif f (gif (nf - 1))) (upd fol f (fol (nf - 1))) (va_up siz f (siz (nf - 1))) (mvC cel f (nf - 1) 24) (mvG giv f (nf - 1) 24) (nf - 1)).Perm (mL nam gif fol siz cel giv nf) := by
      refine last_perm hf (fun j hj hjf => ?_) (fun hlt => ?_)
      · have := hs j
        exact mA_eq (va_up_ne _ _ hjf) (va_up_ne _ _ hjf) (upd_ne hjf) (va_up_ne _ _ hjf) (fun t ht => mvC_o (by omega) 24 (Nat.le_refl _)) (fun t ht => mvG_o (by omega) 24 (Nat.le_refl _))
      · have := hs (nf - 1)
        exact mA_eq (va_up_self _ _ _) (va_up_self _ _ _) upd_self (va_up_self _ _ _) (fun t ht => mvC_i (by omega) 24 (Nat.le_refl _) (by omega)) (fun t ht => mvG_i (by omega) 24 (Nat.le_refl _) (by omega))
    have h2 : (Fs.map cA)[i]? = some (cA F) := by rw [List.getElem?_map, hF]; rfl
    have h3 := h1.trans (h.1.trans (cons_erase h2).symm)
    rw [he] at h3
    have h4 := h3.cons_inv
    rw [er_map] at h4
    exact h4
  · unfold kyL
    rw [← er_map]
    exact h.2.eraseIdx i
end RFT
