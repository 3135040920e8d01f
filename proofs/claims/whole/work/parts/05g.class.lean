theorem tl2_0 {α : Type} {L : List α} {k : Nat} {x y : α} (h : k = L.length) : (L ++ [x, y])[k]? = some x := by
  subst h
  rw [List.getElem?_append_right (Nat.le_refl _), Nat.sub_self]
  rfl
theorem tl2_1 {α : Type} {L : List α} {k : Nat} {x y : α} (h : k = L.length + 1) : (L ++ [x, y])[k]? = some y := by
  subst h
  rw [List.getElem?_append_right (Nat.le_add_right _ 1), Nat.add_sub_cancel_left]
  rfl
theorem obF_ins {Fs : List FT} {p : Nat} {F : FT} (h : p ≤ Fs.length) : insF (obF Fs) p Fs.length F.1 = obF (Fs.insertIdx p F) := by
  funext x
  unfold insF va_up va_cpy obF
  rw [List.getElem?_insertIdx]
  by_cases e : x = p
  · rw [if_pos e, if_neg (by omega), if_pos e, if_pos (by omega)]
    rfl
  · rw [if_neg e, if_neg e]
    by_cases g : x < p
    · rw [if_neg (by omega), if_pos g]
    · rw [if_neg g]
      by_cases k : x < p + 1 + (Fs.length - p)
      · rw [if_pos (by omega), show p + (x - (p + 1)) = x - 1 by omega]
      · rw [if_neg (by omega), List.getElem?_eq_none (by omega), List.getElem?_eq_none (by omega)]
theorem obF_ge {Fs : List FT} {x : Nat} (h : Fs.length ≤ x) : obF Fs x = none := by
  unfold obF
  rw [List.getElem?_eq_none h]
  rfl
theorem obF_nil : obF [] = fun _ => none := by
  funext x
  exact obF_ge (Nat.zero_le _)
theorem flC_ins {cy : Nat → ClassId} {F : FT} : ∀ {Fs : List FT} {p : Nat}, p ≤ Fs.length → (flC cy (Fs.insertIdx p F)).Perm (objc F :: arrc cy F :: flC cy Fs)
  | Fs, 0, _ => by rw [List.insertIdx_zero]; exact List.Perm.refl _
  | [], p + 1, h => absurd h (Nat.not_succ_le_zero _)
  | G :: Gs, p + 1, h => by
    rw [List.insertIdx_succ_cons]
    have ih := flC_ins (cy := cy) (F := F) (Fs := Gs) (p := p) (Nat.le_of_succ_le_succ h)
    refine ((ih.cons (arrc cy G)).cons (objc G)).trans ?_
    exact List.perm_append_comm (l₁ := [objc G, arrc cy G]) (l₂ := [objc F, arrc cy F]) |>.append_right (flC cy Gs)
theorem flC_del {cy : Nat → ClassId} {F : FT} : ∀ {Fs : List FT} {p : Nat}, Fs[p]? = some F → (objc F :: arrc cy F :: flC cy (Fs.eraseIdx p)).Perm (flC cy Fs)
  | G :: Gs, 0, h => by cases h; exact List.Perm.refl _
  | G :: Gs, p + 1, h => by
    have ih := flC_del (cy := cy) (F := F) (Fs := Gs) (p := p) h
    refine List.Perm.trans ?_ ((ih.cons (arrc cy G)).cons (objc G))
    exact List.perm_append_comm (l₁ := [objc F, arrc cy F]) (l₂ := [objc G, arrc cy G]) |>.append_right (flC cy (Gs.eraseIdx p))
theorem obF_del {Fs : List FT} {p : Nat} (h : p < Fs.length) : remF (obF Fs) p Fs.length = obF (Fs.eraseIdx p) := by
  funext x
  unfold remF obF
  rw [List.getElem?_eraseIdx]
  by_cases g : x < p
  · rw [if_pos g, if_pos g]
  · rw [if_neg g, if_neg g]
    by_cases k : x < Fs.length - 1
    · rw [if_pos k]
    · rw [if_neg k, List.getElem?_eq_none (l := Fs) (i := x + 1) (by omega)]
      by_cases e : x = Fs.length - 1
      · rw [if_pos e]
        rfl
      · rw [if_neg e, List.getElem?_eq_none (by omega)]
theorem perm_f {α : Type} {A B V I : List α} {o r : α} (h : I.Perm (o :: r :: B)) : ((A ++ (I ++ V)) ++ []).Perm ((A ++ (B ++ V)) ++ [o, r]) := by
  rw [List.append_nil, List.append_assoc A]
  refine List.Perm.append_left A ?_
  refine (h.append_right V).trans ?_
  exact List.perm_append_comm (l₁ := [o, r]) (l₂ := B ++ V)
theorem perm_g {α : Type} {A B E I : List α} {o r v : α} (h : I.Perm (o :: r :: B)) : ((A ++ (I ++ [v])) ++ E).Perm (((A ++ (B ++ E)) ++ [o, r]) ++ [v]) := by
  rw [List.append_assoc A, List.append_assoc A, List.append_assoc A]
  refine List.Perm.append_left A ?_
  refine ((h.append_right [v]).append_right E).trans ?_
  have h1 : ((o :: r :: B) ++ [v] ++ E).Perm ((B ++ ([v] ++ E)) ++ [o, r]) := by
    have := List.perm_append_comm (l₁ := [o, r]) (l₂ := B ++ ([v] ++ E))
    simpa using this
  refine h1.trans ?_
  simp only [List.append_assoc]
  refine List.Perm.append_left B ?_
  have := List.perm_append_comm (l₁ := [v]) (l₂ := E ++ [o, r])
  simpa using this
section WS
variable {cy : Nat → ClassId} {a : Nat → Nat} {z0 er' nf' : Nat} {lab : Nat → Option Nat} {quo spe : Nat → Nat} {md md' : Int32} {ed : Option (Nat × Nat)} {lis : Nat → Nat} {lc : Nat} {see : Nat → Nat → Int32} {cnt : Nat → Nat} {Fs : List FT} {X : va_W}
theorem wC_s4 : (wC cy a z0 lab quo spe md ed lis lc see cnt Fs ++ X).set 4 (a 4, .inr (0, [.int md', .ref er', .int (nI nf')])) = (fx cy a er' lab quo spe md' nf' lis lc see cnt ++ (flC cy Fs ++ edc cy ed Fs)) ++ X := rfl
theorem wC_s5 {q c : Nat} {v : Nat × va_E} : ((fx cy a er' lab quo spe md' nf' lis lc see cnt ++ (flC cy Fs ++ edc cy (some (q, c)) Fs)) ++ X).set (24 + 2 * Fs.length) v = (fx cy a er' lab quo spe md' nf' lis lc see cnt ++ (flC cy Fs ++ [v])) ++ X := by
  have h1 : (flC cy Fs ++ edc cy (some (q, c)) Fs).set (2 * Fs.length) v = flC cy Fs ++ [v] := tl_set (flC_len Fs).symm
  have h2 : ((fx cy a er' lab quo spe md' nf' lis lc see cnt ++ (flC cy Fs ++ edc cy (some (q, c)) Fs)))[24 + 2 * Fs.length]? = some (q, .inl (cy 3, c, .inr (.inr (.inr (.inr (obF Fs)))))) := by
    rw [fx_at]
    exact tl_at (flC_len Fs).symm
  exact ap_set h2 (by rw [fx_set, h1])
end WS
/-- where a file of this number goes: behind all that are not above it -/
def insAt (Fs : List FT) (ky p : Nat) : Prop := p ≤ Fs.length ∧ (∀ (j : Nat) (G : FT), p ≤ j → Fs[j]? = some G → ky < G.2.2.1) ∧ (0 < p → ∃ G : FT, Fs[p - 1]? = some G ∧ G.2.2.1 ≤ ky)
theorem ins_0 {Fs : List FT} {ky : Nat} : ∀ (j : Nat) (G : FT), Fs.length ≤ j → Fs[j]? = some G → ky < G.2.2.1 := fun j G h1 h2 => absurd (List.getElem?_eq_some_iff.mp h2).1 (Nat.not_lt.mpr h1)
theorem ins_s {Fs : List FT} {ky p : Nat} {F : FT} (h : ∀ (j : Nat) (G : FT), p ≤ j → Fs[j]? = some G → ky < G.2.2.1) (hF : Fs[p - 1]? = some F) (hp : 0 < p) (hk : ky < F.2.2.1) : ∀ (j : Nat) (G : FT), p - 1 ≤ j → Fs[j]? = some G → ky < G.2.2.1 := by
  intro j G hj hG
  by_cases e : j = p - 1
  · subst e
    cases hF.symm.trans hG
    exact hk
  · exact h j G (by omega) hG
theorem CI.ins {lab : Nat → Option Nat} {quo spe : Nat → Nat} {ed ed' : Option (Nat × Nat)} {lis : Nat → Nat} {lc : Nat} {cnt : Nat → Nat} {Fs : List FT} (h : CI lab quo spe ed lis lc cnt Fs) {p : Nat} {F : FT} (hp : p ≤ Fs.length) (hn : Fs.length < 200) (hF : F.2.2.1 < 16384 ∧ F.2.2.2.2.2.1 ≤ 24) (he : edOk ed' (Fs.length + 1)) : CI lab quo spe ed' lis lc cnt (Fs.insertIdx p F) := by
  have hl : (Fs.insertIdx p F).length = Fs.length + 1 := List.length_insertIdx_of_le_length hp F
  refine ⟨h.1, h.2.1, h.2.2.1, h.2.2.2.1, h.2.2.2.2.1, h.2.2.2.2.2.1, by rw [hl]; omega, fun G hG => ?_, by rw [hl]; exact he⟩
  rcases (List.mem_insertIdx hp).mp hG with h9 | h9
  · subst h9
    exact hF
  · exact h.2.2.2.2.2.2.2.1 G h9
abbrev rmX1_store : Room := { frames := 6, cells := 1, slots := 300, locals := 171 }
theorem ydX1_store : yX1_store.cls ≠ "java/lang/invoke/MethodHandle" ∧ yX1_store.cls ≠ "java/lang/invoke/VarHandle" ∧ (parseMethodDescriptor yX1_store.desc).map (fun d => d.parameters.length) = some 1 := by decide +kernel
theorem iwX1_store_X1 : ∀ w ∈ u_ws RX1 TX1 8, w ∈ wsX1_store := fun _ h => (List.mem_cons_of_mem _ (List.mem_append_left _ (List.mem_append_left _ (List.mem_append_right _ h))))
theorem iwX1_store_X0 : ∀ w ∈ u_ws RX0 TX0 6, w ∈ wsX1_store := fun _ h => (List.mem_cons_of_mem _ (List.mem_append_left _ (List.mem_append_right _ h)))
set_option maxRecDepth 100000 in
set_option maxHeartbeats 4000000 in
theorem k_X1_store (l : Launch) (D : va_G) (cy : Nat → ClassId) (zs : Nat → Nat) (a : Nat → Nat) (lab : Nat → Option Nat) (quo : Nat → Nat) (spe : Nat → Nat) (md : Int32) (ed : Option (Nat × Nat)) (lis : Nat → Nat) (lc : Nat) (see : Nat → Nat → Int32) (cnt : Nat → Nat) (Fs : List FT) (hI : CI lab quo spe ed lis lc cnt Fs) {ob ar ky : Nat} {fo : Int32} {ce : Nat → Int32} {ct : Nat} {gi : Bool} {gv : Nat → Bool}  (hlen : Fs.length < 200) (hky : ky < 16384) : Mv l D cy zs yX1_store wsX1_store rmX1_store [.ref (a 0), .ref ob] (wC cy a (zs 0) lab quo spe md ed lis lc see cnt Fs ++ [objc (ob, ar, ky, fo, ce, ct, gi, gv), arrc cy (ob, ar, ky, fo, ce, ct, gi, gv)]) (fun w => ∃ pl ed9, insAt Fs ky pl ∧ edOk ed9 (Fs.length + 1) ∧ w = (wC cy a (zs 0) lab quo spe (md + nI 1) ed9 lis lc see cnt (Fs.insertIdx pl (ob, ar, ky, fo, ce, ct, gi, gv)))) := by
  refine Mv.of (lv := [(0, .ref (a 0)), (1, .ref ob)]) RX1 ⟨by decide, rfl⟩ rfl (Nat.le_of_ble_eq_true rfl) rfl ?_
  intro p e s m args below meth c A C hnm
  have hlc := hI.lcP
  have hln := hI.lenP
  refine g_aload_n C dX1_store_0 rfl 0 rfl ?_
  refine g_get (ci := 2) (v := .ref (a 4)) C iwX1_store_X1 0 rfl rfl 3 (by decide) (C.hw (List.mem_cons_of_mem _ (List.mem_append_left _ (List.mem_append_left _ (List.mem_append_left _ (List.mem_append_left _ (List.mem_of_getElem? (i := 0) rfl))))))) (fun _ h9 => h9) rfl dX1_store_1 ?_
  refine g_Vi (ci := 0) (st := []) C (k_Jx4a65c_size_8abf5 l D cy zs (wC cy a (zs 0) lab quo spe md ed lis lc see cnt Fs ++ [objc (ob, ar, ky, fo, ce, ct, gi, gv), arrc cy (ob, ar, ky, fo, ce, ct, gi, gv)])  (show (wC cy a (zs 0) lab quo spe md ed lis lc see cnt Fs ++ [objc (ob, ar, ky, fo, ce, ct, gi, gv), arrc cy (ob, ar, ky, fo, ce, ct, gi, gv)])[4]? = some (a 4, .inr (0, [.int md, .ref (edr (zs 0) ed), .int (nI Fs.length)])) from rfl) ) gX1_store_Jx4a65c_size_8abf5 rfl ⟨rfl, ydJx4a65c_size_8abf5⟩ 4 rfl rfl ⟨Nat.le_of_ble_eq_true rfl, Nat.le_of_ble_eq_true rfl⟩ ⟨Nat.le_of_ble_eq_true rfl, Nat.le_of_ble_eq_true rfl⟩ rfl (Nat.le_of_ble_eq_true rfl) dX1_store_4 (fun r4 w4 h4 => ?_)
  obtain ⟨h4a, h4b⟩ := h4
  subst h4a
  have h4b := h4b.symm
  subst h4b
  refine g_istore_n (lv' := [(2, .int (nI Fs.length)), (0, .ref (a 0)), (1, .ref ob)]) C dX1_store_7 rfl (by decide) rfl ?_
  refine g_sub (lv' := [(0, .ref (a 0)), (1, .ref ob), (2, .int (nI Fs.length))]) [1, 2, 0] rfl ?_
  refine g_loop1 (jp := 8) (fun (pl : Nat) => (pl ≤ Fs.length) ∧ (∀ (j : Nat) (G : FT), pl ≤ j → Fs[j]? = some G → ky < G.2.2.1)) (fun (pl : Nat) => pl) (fun (pl : Nat) => (wC cy a (zs 0) lab quo spe md ed lis lc see cnt Fs ++ [objc (ob, ar, ky, fo, ce, ct, gi, gv), arrc cy (ob, ar, ky, fo, ce, ct, gi, gv)])) (fun (pl : Nat) => [(0, .ref (a 0)), (1, .ref ob), (2, .int (nI pl))]) (fun (pl : Nat) => []) (fun pl hI8 ih8 => ?_) Fs.length (⟨Nat.le_refl _, ins_0⟩)
  obtain ⟨hp, hg⟩ := hI8
  refine g_iload_n C dX1_store_8 rfl 2 rfl ?_
  refine g_if_le (tgt := 41) C dX1_store_9 (by decide) (fun c9 => ?_) (fun c9 => ?_)
  · skip
    have c9 := cz_le0 (by omega) c9
    refine g_aload_n C dX1_store_41 rfl 0 rfl ?_
    refine g_get (ci := 2) (v := .ref (a 4)) C iwX1_store_X1 0 rfl rfl 3 (by decide) (C.hw (List.mem_cons_of_mem _ (List.mem_append_left _ (List.mem_append_left _ (List.mem_append_left _ (List.mem_append_left _ (List.mem_of_getElem? (i := 0) rfl))))))) (fun _ h9 => h9) rfl dX1_store_42 ?_
    refine g_iload_n C dX1_store_45 rfl 2 rfl ?_
    refine g_aload_n C dX1_store_46 rfl 1 rfl ?_
    rcases hed : ed with _ | ⟨q9, c9⟩
    · skip
      have hz : Fs = [] := List.eq_nil_of_length_eq_zero (by have h9 := hI.2.2.2.2.2.2.2.2; rw [hed] at h9; exact h9)
      subst hz
      skip
      refine g_Vv (ci := 0) (st := []) C (k_Jx4a65c_add_7a1770 l D cy zs (wC cy a (zs 0) lab quo spe md none lis lc see cnt ([] : List FT) ++ [objc (ob, ar, ky, fo, ce, ct, gi, gv), arrc cy (ob, ar, ky, fo, ce, ct, gi, gv)]) pl (show (wC cy a (zs 0) lab quo spe md none lis lc see cnt ([] : List FT) ++ [objc (ob, ar, ky, fo, ce, ct, gi, gv), arrc cy (ob, ar, ky, fo, ce, ct, gi, gv)])[4]? = some (a 4, .inr (0, [.int md, .ref (zs 0), .int (nI 0)])) from rfl) (show (wC cy a (zs 0) lab quo spe md none lis lc see cnt ([] : List FT) ++ [objc (ob, ar, ky, fo, ce, ct, gi, gv), arrc cy (ob, ar, ky, fo, ce, ct, gi, gv)])[(wC cy a (zs 0) lab quo spe md none lis lc see cnt ([] : List FT)).length]? = some (ob, .inr (1, [.int (nI ky), .int fo, .ref ar, .int (nI ct), .int (bI gi), .int (nI (mskN gv ct))])) from tl2_0 rfl) (by have h9 := hp; simpa using h9)) gX1_store_Jx4a65c_add_7a177 rfl ⟨rfl, ydJx4a65c_add_7a177⟩ 4 rfl rfl ⟨Nat.le_of_ble_eq_true rfl, Nat.le_of_ble_eq_true rfl⟩ ⟨Nat.le_of_ble_eq_true rfl, Nat.le_of_ble_eq_true rfl⟩ rfl (Nat.le_of_ble_eq_true rfl) dX1_store_47 (fun w47 h47 => ?_)
      obtain ⟨q8, m8, h8a, h8b, h47⟩ := h47
      refine g_perm (ws' := (wC cy a (zs 0) lab quo spe (md + (nI 1)) (some (q8, m8)) lis lc see cnt (([] : List FT).insertIdx pl (ob, ar, ky, fo, ce, ct, gi, gv)))) (X := []) (by rw [h47, wC_s4, ← obF_nil, (show insF (obF []) pl 0 ob = obF (([] : List FT).insertIdx pl (ob, ar, ky, fo, ce, ct, gi, gv)) from obF_ins (Fs := []) (F := (ob, ar, ky, fo, ce, ct, gi, gv)) hp)]; unfold wC; rw [List.length_insertIdx_of_le_length hp]; exact perm_g (E := []) (flC_ins hp)) ?_
      exact g_vret C rfl (⟨_, _, ⟨hp, hg, (fun h9 => absurd h9 (by omega))⟩, (show edOk (some (q8, m8)) (0 + 1) from ⟨by show 0 + 1 ≤ m8; omega, by show 0 < m8; omega, h8b⟩), rfl⟩) (Nat.le_of_ble_eq_true rfl) (Nat.le_of_ble_eq_true rfl) dX1_store_50
    · skip
      obtain ⟨hc1, hc2, hc3⟩ : Fs.length ≤ c9 ∧ 0 < c9 ∧ c9 ≤ 300 := by have h9 := hI.2.2.2.2.2.2.2.2; rw [hed] at h9; exact h9
      rcases Nat.lt_or_ge Fs.length c9 with hlt | hge
      · skip
        skip
        refine g_Vv (ci := 0) (st := []) C (k_Jx4a65c_add_7a177 l D cy zs (wC cy a (zs 0) lab quo spe md (some (q9, c9)) lis lc see cnt Fs ++ [objc (ob, ar, ky, fo, ce, ct, gi, gv), arrc cy (ob, ar, ky, fo, ce, ct, gi, gv)]) pl (show (wC cy a (zs 0) lab quo spe md (some (q9, c9)) lis lc see cnt Fs ++ [objc (ob, ar, ky, fo, ce, ct, gi, gv), arrc cy (ob, ar, ky, fo, ce, ct, gi, gv)])[4]? = some (a 4, .inr (0, [.int md, .ref q9, .int (nI Fs.length)])) from rfl) (app_at (wC_ed rfl)) (show (wC cy a (zs 0) lab quo spe md (some (q9, c9)) lis lc see cnt Fs ++ [objc (ob, ar, ky, fo, ce, ct, gi, gv), arrc cy (ob, ar, ky, fo, ce, ct, gi, gv)])[(wC cy a (zs 0) lab quo spe md (some (q9, c9)) lis lc see cnt Fs).length]? = some (ob, .inr (1, [.int (nI ky), .int fo, .ref ar, .int (nI ct), .int (bI gi), .int (nI (mskN gv ct))])) from tl2_0 rfl) hp hlt hc3 (fun j9 y9 h9 => isF.app (wC_isF h9))) gX1_store_Jx4a65c_add_7a177 rfl ⟨rfl, ydJx4a65c_add_7a177⟩ 4 rfl rfl ⟨Nat.le_of_ble_eq_true rfl, Nat.le_of_ble_eq_true rfl⟩ ⟨Nat.le_of_ble_eq_true rfl, Nat.le_of_ble_eq_true rfl⟩ rfl (Nat.le_of_ble_eq_true rfl) dX1_store_47 (fun w47 h47 => ?_)
        refine g_perm (ws' := (wC cy a (zs 0) lab quo spe (md + (nI 1)) (some (q9, c9)) lis lc see cnt (Fs.insertIdx pl (ob, ar, ky, fo, ce, ct, gi, gv)))) (X := []) (by rw [h47, wC_s4, wC_s5, obF_ins (F := (ob, ar, ky, fo, ce, ct, gi, gv)) hp]; unfold wC; rw [List.length_insertIdx_of_le_length hp]; exact perm_f (flC_ins hp)) ?_
        exact g_vret C rfl (⟨_, _, ⟨hp, hg, (fun h9 => absurd h9 (by omega))⟩, (show edOk (some (q9, c9)) (Fs.length + 1) from ⟨hlt, hc2, hc3⟩), rfl⟩) (Nat.le_of_ble_eq_true rfl) (Nat.le_of_ble_eq_true rfl) dX1_store_50
      · skip
        obtain rfl : c9 = Fs.length := by omega
        skip
        refine g_Vv (ci := 0) (st := []) C (k_Jx4a65c_add_7a1771 l D cy zs (wC cy a (zs 0) lab quo spe md (some (q9, Fs.length)) lis lc see cnt Fs ++ [objc (ob, ar, ky, fo, ce, ct, gi, gv), arrc cy (ob, ar, ky, fo, ce, ct, gi, gv)]) pl (show (wC cy a (zs 0) lab quo spe md (some (q9, Fs.length)) lis lc see cnt Fs ++ [objc (ob, ar, ky, fo, ce, ct, gi, gv), arrc cy (ob, ar, ky, fo, ce, ct, gi, gv)])[4]? = some (a 4, .inr (0, [.int md, .ref q9, .int (nI Fs.length)])) from rfl) (app_at (wC_ed rfl)) (show (wC cy a (zs 0) lab quo spe md (some (q9, Fs.length)) lis lc see cnt Fs ++ [objc (ob, ar, ky, fo, ce, ct, gi, gv), arrc cy (ob, ar, ky, fo, ce, ct, gi, gv)])[(wC cy a (zs 0) lab quo spe md (some (q9, Fs.length)) lis lc see cnt Fs).length]? = some (ob, .inr (1, [.int (nI ky), .int fo, .ref ar, .int (nI ct), .int (bI gi), .int (nI (mskN gv ct))])) from tl2_0 rfl) hp hc2 hlen (fun x h9 => obF_ge h9) (fun j9 y9 h9 => isF.app (wC_isF h9))) gX1_store_Jx4a65c_add_7a177 rfl ⟨rfl, ydJx4a65c_add_7a177⟩ 4 rfl rfl ⟨Nat.le_of_ble_eq_true rfl, Nat.le_of_ble_eq_true rfl⟩ ⟨Nat.le_of_ble_eq_true rfl, Nat.le_of_ble_eq_true rfl⟩ rfl (Nat.le_of_ble_eq_true rfl) dX1_store_47 (fun w47 h47 => ?_)
        obtain ⟨q8, m8, h8a, h8b, h47⟩ := h47
        refine g_perm (ws' := (wC cy a (zs 0) lab quo spe (md + (nI 1)) (some (q8, m8)) lis lc see cnt (Fs.insertIdx pl (ob, ar, ky, fo, ce, ct, gi, gv)))) (X := edc cy (some (q9, Fs.length)) Fs) (by rw [h47, wC_s4, obF_ins (F := (ob, ar, ky, fo, ce, ct, gi, gv)) hp]; unfold wC; rw [List.length_insertIdx_of_le_length hp]; exact perm_g (flC_ins hp)) ?_
        exact g_vret C rfl (⟨_, _, ⟨hp, hg, (fun h9 => absurd h9 (by omega))⟩, (show edOk (some (q8, m8)) (Fs.length + 1) from ⟨by show Fs.length + 1 ≤ m8; omega, by show 0 < m8; omega, h8b⟩), rfl⟩) (Nat.le_of_ble_eq_true rfl) (Nat.le_of_ble_eq_true rfl) dX1_store_50
  · skip
    have c9 := cz_le1 (by omega) c9
    refine g_aload_n C dX1_store_12 rfl 0 rfl ?_
    refine g_get (ci := 2) (v := .ref (a 4)) C iwX1_store_X1 0 rfl rfl 3 (by decide) (C.hw (List.mem_cons_of_mem _ (List.mem_append_left _ (List.mem_append_left _ (List.mem_append_left _ (List.mem_append_left _ (List.mem_of_getElem? (i := 0) rfl))))))) (fun _ h9 => h9) rfl dX1_store_13 ?_
    refine g_iload_n C dX1_store_16 rfl 2 rfl ?_
    refine g_iconst (v := nI 1) C dX1_store_17 (by decide +kernel) ?_
    refine g_isub (v := nI (pl - 1)) C dX1_store_18 (pk_sub (by omega)) ?_
    obtain ⟨⟨ob19, ar19, ky19, fo19, ce19, ct19, gi19, gv19⟩, hF19⟩ : ∃ F, Fs[pl - 1]? = some F := ⟨_, List.getElem?_eq_getElem (by omega)⟩
    obtain ⟨hk19, hct19⟩ := hI.flP hF19
    obtain ⟨eq19, cap19, hed19, hca19, hcb19⟩ := hI.edP (show 0 < Fs.length by omega)
    refine g_Vq (ci := 0) (st := []) C (k_Jx4a65c_get_915e3 l D cy zs (wC cy a (zs 0) lab quo spe md ed lis lc see cnt Fs ++ [objc (ob, ar, ky, fo, ce, ct, gi, gv), arrc cy (ob, ar, ky, fo, ce, ct, gi, gv)]) (pl - 1) (show (wC cy a (zs 0) lab quo spe md ed lis lc see cnt Fs ++ [objc (ob, ar, ky, fo, ce, ct, gi, gv), arrc cy (ob, ar, ky, fo, ce, ct, gi, gv)])[4]? = some (a 4, .inr (0, [.int md, .ref (edr (zs 0) ed), .int (nI Fs.length)])) from rfl) (app_at (wC_ed hed19)) (by omega) hca19 (by omega) (show obF Fs (pl - 1) = some ob19 by unfold obF; rw [hF19]; rfl)) gX1_store_Jx4a65c_get_915e3 rfl ⟨rfl, ydJx4a65c_get_915e3⟩ 4 rfl rfl ⟨Nat.le_of_ble_eq_true rfl, Nat.le_of_ble_eq_true rfl⟩ ⟨Nat.le_of_ble_eq_true rfl, Nat.le_of_ble_eq_true rfl⟩ rfl (Nat.le_of_ble_eq_true rfl) dX1_store_19 (fun r19 w19 h19 => ?_)
    obtain ⟨h19a, h19b⟩ := h19
    subst h19a
    have h19b := h19b.symm
    subst h19b
    refine g_castS (ci := 1) C (C.hw (List.mem_cons_of_mem _ (List.mem_append_left _ (List.mem_append_left _ (List.mem_append_left _ (List.mem_append_left _ (List.mem_of_getElem? (i := 1) rfl))))))) (24 + 2 * (pl - 1)) (app_at (wC_obj hF19)) rfl dX1_store_22 ?_
    refine g_get (ci := 1) (v := .int (nI ky19)) C iwX1_store_X0 (24 + 2 * (pl - 1)) (app_at (wC_obj hF19)) rfl 0 (by decide) (C.hw (List.mem_cons_of_mem _ (List.mem_append_left _ (List.mem_append_left _ (List.mem_append_left _ (List.mem_append_left _ (List.mem_of_getElem? (i := 2) rfl))))))) (fun _ h9 => h9) rfl dX1_store_25 ?_
    refine g_aload_n C dX1_store_28 rfl 1 rfl ?_
    refine g_get (ci := 1) (v := .int (nI ky)) C iwX1_store_X0 ((wC cy a (zs 0) lab quo spe md ed lis lc see cnt Fs).length) (tl2_0 rfl) rfl 0 (by decide) (C.hw (List.mem_cons_of_mem _ (List.mem_append_left _ (List.mem_append_left _ (List.mem_append_left _ (List.mem_append_left _ (List.mem_of_getElem? (i := 2) rfl))))))) (fun _ h9 => h9) rfl dX1_store_29 ?_
    refine g_icmp_le (tgt := 41) C dX1_store_32 (by decide) (fun c32 => ?_) (fun c32 => ?_)
    · skip
      have c32 := c_le0 (by omega) (by omega) c32
      refine g_aload_n C dX1_store_41 rfl 0 rfl ?_
      refine g_get (ci := 2) (v := .ref (a 4)) C iwX1_store_X1 0 rfl rfl 3 (by decide) (C.hw (List.mem_cons_of_mem _ (List.mem_append_left _ (List.mem_append_left _ (List.mem_append_left _ (List.mem_append_left _ (List.mem_of_getElem? (i := 0) rfl))))))) (fun _ h9 => h9) rfl dX1_store_42 ?_
      refine g_iload_n C dX1_store_45 rfl 2 rfl ?_
      refine g_aload_n C dX1_store_46 rfl 1 rfl ?_
      rcases hed : ed with _ | ⟨q9, c9⟩
      · skip
        have hz : Fs = [] := List.eq_nil_of_length_eq_zero (by have h9 := hI.2.2.2.2.2.2.2.2; rw [hed] at h9; exact h9)
        subst hz
        skip
        refine g_Vv (ci := 0) (st := []) C (k_Jx4a65c_add_7a1770 l D cy zs (wC cy a (zs 0) lab quo spe md none lis lc see cnt ([] : List FT) ++ [objc (ob, ar, ky, fo, ce, ct, gi, gv), arrc cy (ob, ar, ky, fo, ce, ct, gi, gv)]) pl (show (wC cy a (zs 0) lab quo spe md none lis lc see cnt ([] : List FT) ++ [objc (ob, ar, ky, fo, ce, ct, gi, gv), arrc cy (ob, ar, ky, fo, ce, ct, gi, gv)])[4]? = some (a 4, .inr (0, [.int md, .ref (zs 0), .int (nI 0)])) from rfl) (show (wC cy a (zs 0) lab quo spe md none lis lc see cnt ([] : List FT) ++ [objc (ob, ar, ky, fo, ce, ct, gi, gv), arrc cy (ob, ar, ky, fo, ce, ct, gi, gv)])[(wC cy a (zs 0) lab quo spe md none lis lc see cnt ([] : List FT)).length]? = some (ob, .inr (1, [.int (nI ky), .int fo, .ref ar, .int (nI ct), .int (bI gi), .int (nI (mskN gv ct))])) from tl2_0 rfl) (by have h9 := hp; simpa using h9)) gX1_store_Jx4a65c_add_7a177 rfl ⟨rfl, ydJx4a65c_add_7a177⟩ 4 rfl rfl ⟨Nat.le_of_ble_eq_true rfl, Nat.le_of_ble_eq_true rfl⟩ ⟨Nat.le_of_ble_eq_true rfl, Nat.le_of_ble_eq_true rfl⟩ rfl (Nat.le_of_ble_eq_true rfl) dX1_store_47 (fun w47 h47 => ?_)
        obtain ⟨q8, m8, h8a, h8b, h47⟩ := h47
        refine g_perm (ws' := (wC cy a (zs 0) lab quo spe (md + (nI 1)) (some (q8, m8)) lis lc see cnt (([] : List FT).insertIdx pl (ob, ar, ky, fo, ce, ct, gi, gv)))) (X := []) (by rw [h47, wC_s4, ← obF_nil, (show insF (obF []) pl 0 ob = obF (([] : List FT).insertIdx pl (ob, ar, ky, fo, ce, ct, gi, gv)) from obF_ins (Fs := []) (F := (ob, ar, ky, fo, ce, ct, gi, gv)) hp)]; unfold wC; rw [List.length_insertIdx_of_le_length hp]; exact perm_g (E := []) (flC_ins hp)) ?_
        exact g_vret C rfl (⟨_, _, ⟨hp, hg, (fun _ => ⟨_, hF19, c32⟩)⟩, (show edOk (some (q8, m8)) (0 + 1) from ⟨by show 0 + 1 ≤ m8; omega, by show 0 < m8; omega, h8b⟩), rfl⟩) (Nat.le_of_ble_eq_true rfl) (Nat.le_of_ble_eq_true rfl) dX1_store_50
      · skip
        obtain ⟨hc1, hc2, hc3⟩ : Fs.length ≤ c9 ∧ 0 < c9 ∧ c9 ≤ 300 := by have h9 := hI.2.2.2.2.2.2.2.2; rw [hed] at h9; exact h9
        rcases Nat.lt_or_ge Fs.length c9 with hlt | hge
        · skip
          skip
          refine g_Vv (ci := 0) (st := []) C (k_Jx4a65c_add_7a177 l D cy zs (wC cy a (zs 0) lab quo spe md (some (q9, c9)) lis lc see cnt Fs ++ [objc (ob, ar, ky, fo, ce, ct, gi, gv), arrc cy (ob, ar, ky, fo, ce, ct, gi, gv)]) pl (show (wC cy a (zs 0) lab quo spe md (some (q9, c9)) lis lc see cnt Fs ++ [objc (ob, ar, ky, fo, ce, ct, gi, gv), arrc cy (ob, ar, ky, fo, ce, ct, gi, gv)])[4]? = some (a 4, .inr (0, [.int md, .ref q9, .int (nI Fs.length)])) from rfl) (app_at (wC_ed rfl)) (show (wC cy a (zs 0) lab quo spe md (some (q9, c9)) lis lc see cnt Fs ++ [objc (ob, ar, ky, fo, ce, ct, gi, gv), arrc cy (ob, ar, ky, fo, ce, ct, gi, gv)])[(wC cy a (zs 0) lab quo spe md (some (q9, c9)) lis lc see cnt Fs).length]? = some (ob, .inr (1, [.int (nI ky), .int fo, .ref ar, .int (nI ct), .int (bI gi), .int (nI (mskN gv ct))])) from tl2_0 rfl) hp hlt hc3 (fun j9 y9 h9 => isF.app (wC_isF h9))) gX1_store_Jx4a65c_add_7a177 rfl ⟨rfl, ydJx4a65c_add_7a177⟩ 4 rfl rfl ⟨Nat.le_of_ble_eq_true rfl, Nat.le_of_ble_eq_true rfl⟩ ⟨Nat.le_of_ble_eq_true rfl, Nat.le_of_ble_eq_true rfl⟩ rfl (Nat.le_of_ble_eq_true rfl) dX1_store_47 (fun w47 h47 => ?_)
          refine g_perm (ws' := (wC cy a (zs 0) lab quo spe (md + (nI 1)) (some (q9, c9)) lis lc see cnt (Fs.insertIdx pl (ob, ar, ky, fo, ce, ct, gi, gv)))) (X := []) (by rw [h47, wC_s4, wC_s5, obF_ins (F := (ob, ar, ky, fo, ce, ct, gi, gv)) hp]; unfold wC; rw [List.length_insertIdx_of_le_length hp]; exact perm_f (flC_ins hp)) ?_
          exact g_vret C rfl (⟨_, _, ⟨hp, hg, (fun _ => ⟨_, hF19, c32⟩)⟩, (show edOk (some (q9, c9)) (Fs.length + 1) from ⟨hlt, hc2, hc3⟩), rfl⟩) (Nat.le_of_ble_eq_true rfl) (Nat.le_of_ble_eq_true rfl) dX1_store_50
        · skip
          obtain rfl : c9 = Fs.length := by omega
          skip
          refine g_Vv (ci := 0) (st := []) C (k_Jx4a65c_add_7a1771 l D cy zs (wC cy a (zs 0) lab quo spe md (some (q9, Fs.length)) lis lc see cnt Fs ++ [objc (ob, ar, ky, fo, ce, ct, gi, gv), arrc cy (ob, ar, ky, fo, ce, ct, gi, gv)]) pl (show (wC cy a (zs 0) lab quo spe md (some (q9, Fs.length)) lis lc see cnt Fs ++ [objc (ob, ar, ky, fo, ce, ct, gi, gv), arrc cy (ob, ar, ky, fo, ce, ct, gi, gv)])[4]? = some (a 4, .inr (0, [.int md, .ref q9, .int (nI Fs.length)])) from rfl) (app_at (wC_ed rfl)) (show (wC cy a (zs 0) lab quo spe md (some (q9, Fs.length)) lis lc see cnt Fs ++ [objc (ob, ar, ky, fo, ce, ct, gi, gv), arrc cy (ob, ar, ky, fo, ce, ct, gi, gv)])[(wC cy a (zs 0) lab quo spe md (some (q9, Fs.length)) lis lc see cnt Fs).length]? = some (ob, .inr (1, [.int (nI ky), .int fo, .ref ar, .int (nI ct), .int (bI gi), .int (nI (mskN gv ct))])) from tl2_0 rfl) hp hc2 hlen (fun x h9 => obF_ge h9) (fun j9 y9 h9 => isF.app (wC_isF h9))) gX1_store_Jx4a65c_add_7a177 rfl ⟨rfl, ydJx4a65c_add_7a177⟩ 4 rfl rfl ⟨Nat.le_of_ble_eq_true rfl, Nat.le_of_ble_eq_true rfl⟩ ⟨Nat.le_of_ble_eq_true rfl, Nat.le_of_ble_eq_true rfl⟩ rfl (Nat.le_of_ble_eq_true rfl) dX1_store_47 (fun w47 h47 => ?_)
          obtain ⟨q8, m8, h8a, h8b, h47⟩ := h47
          refine g_perm (ws' := (wC cy a (zs 0) lab quo spe (md + (nI 1)) (some (q8, m8)) lis lc see cnt (Fs.insertIdx pl (ob, ar, ky, fo, ce, ct, gi, gv)))) (X := edc cy (some (q9, Fs.length)) Fs) (by rw [h47, wC_s4, obF_ins (F := (ob, ar, ky, fo, ce, ct, gi, gv)) hp]; unfold wC; rw [List.length_insertIdx_of_le_length hp]; exact perm_g (flC_ins hp)) ?_
          exact g_vret C rfl (⟨_, _, ⟨hp, hg, (fun _ => ⟨_, hF19, c32⟩)⟩, (show edOk (some (q8, m8)) (Fs.length + 1) from ⟨by show Fs.length + 1 ≤ m8; omega, by show 0 < m8; omega, h8b⟩), rfl⟩) (Nat.le_of_ble_eq_true rfl) (Nat.le_of_ble_eq_true rfl) dX1_store_50
    · skip
      have c32 := c_le1 (by omega) (by omega) c32
      refine g_iinc (q := 2) (v := nI (pl - 1)) (lv' := [(2, .int (nI (pl - 1))), (0, .ref (a 0)), (1, .ref ob)]) C dX1_store_35 rfl (nI_dec (by omega)) (by decide) rfl ?_
      refine g_goto (tgt := 8) C dX1_store_38 (by decide) ?_
      exact g_sub (lv' := [(0, .ref (a 0)), (1, .ref ob), (2, .int (nI (pl - 1)))]) [1, 2, 0] rfl (ih8 (pl - 1) (⟨by omega, ins_s hg hF19 c9 c32⟩) (by omega))
