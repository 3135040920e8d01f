theorem fol_of {v : Int32} (h1 : decide (v < -1) = false) (h2 : decide (v < nI 16384) = true) : ∃ fo : Option Nat, v = fI fo ∧ ∀ x, fo = some x → x < 16384 := by
  have h1 := of_decide_eq_false h1
  have h2 := of_decide_eq_true h2
  by_cases h3 : v < 0
  · refine ⟨none, ?_, fun x h => nomatch h⟩
    have a1 : ¬ v.toInt < -1 := fun q => h1 (Int32.lt_iff_toInt_lt.mpr (by rw [show ((-1 : Int32)).toInt = -1 by decide]; exact q))
    have a2 : v.toInt < 0 := by
      have := Int32.lt_iff_toInt_lt.mp h3
      rwa [Int32.toInt_zero] at this
    show v = -1
    exact Int32.toInt_inj.mp (by rw [show ((-1 : Int32)).toInt = -1 by decide]; omega)
  · obtain ⟨j, hj, rfl⟩ := nI_of h3
    exact ⟨some j, rfl, fun x h => by cases h; exact c_lt0 hj (Nat.le_of_ble_eq_true rfl) h2⟩
def segOK (see : Nat → Int32) (b : Nat) (ls : List Nat) : Prop := ∀ i, i < ls.length → see (b + i) = nI (ls.getD i 0)
def srt (ls : List Nat) : Prop := ls.Pairwise (fun x y => x ≤ y)
def filN (nam : Nat → Nat) (fol : Nat → Int32) (key own k : Nat) : List Nat := ((List.range k).filter (fun j => decide (fol j = nI key) && mayN (nam j / 16) own)).map nam
theorem filN_t {nam : Nat → Nat} {fol : Nat → Int32} {key own k : Nat} (h1 : fol k = nI key) (h2 : mayN (nam k / 16) own = true) : filN nam fol key own (k + 1) = filN nam fol key own k ++ [nam k] := by
  unfold filN
  rw [List.range_succ, List.filter_append, List.map_append]
  simp [h1, h2]
theorem filN_f {nam : Nat → Nat} {fol : Nat → Int32} {key own k : Nat} (h : ¬ fol k = nI key ∨ mayN (nam k / 16) own = false) : filN nam fol key own (k + 1) = filN nam fol key own k := by
  unfold filN
  rw [List.range_succ, List.filter_append, List.map_append]
  rcases h with h | h <;> simp [h]
theorem getD_ins_lt {ls : List Nat} {at_ x i : Nat} (hl : at_ ≤ ls.length) (h : i < at_) : (ls.take at_ ++ x :: ls.drop at_).getD i 0 = ls.getD i 0 := by
  rw [List.getD_eq_getElem?_getD, List.getD_eq_getElem?_getD, List.getElem?_append_left (by rw [List.length_take]; omega), List.getElem?_take_of_lt h]
theorem getD_ins_eq {ls : List Nat} {at_ x : Nat} (hl : at_ ≤ ls.length) : (ls.take at_ ++ x :: ls.drop at_).getD at_ 0 = x := by
  rw [List.getD_eq_getElem?_getD, List.getElem?_append_right (by rw [List.length_take]; omega)]
  rw [show at_ - (List.take at_ ls).length = 0 by rw [List.length_take]; omega]
  rfl
theorem getD_ins_gt {ls : List Nat} {at_ x i : Nat} (hl : at_ ≤ ls.length) (h : at_ < i) : (ls.take at_ ++ x :: ls.drop at_).getD i 0 = ls.getD (i - 1) 0 := by
  rw [List.getD_eq_getElem?_getD, List.getD_eq_getElem?_getD, List.getElem?_append_right (by rw [List.length_take]; omega)]
  rw [show i - (List.take at_ ls).length = (i - at_ - 1) + 1 by rw [List.length_take]; omega, List.getElem?_cons_succ, List.getElem?_drop]
  rw [show at_ + (i - at_ - 1) = i - 1 by omega]
theorem ins_len {ls : List Nat} {at_ x : Nat} (hl : at_ ≤ ls.length) : (ls.take at_ ++ x :: ls.drop at_).length = ls.length + 1 := by
  rw [List.length_append, List.length_take, List.length_cons, List.length_drop]
  omega
theorem ins_perm {ls : List Nat} {at_ x : Nat} : (ls.take at_ ++ x :: ls.drop at_).Perm (ls ++ [x]) := by
  have h1 : (ls.take at_ ++ x :: ls.drop at_).Perm (x :: (ls.take at_ ++ ls.drop at_)) := List.perm_middle
  rw [List.take_append_drop] at h1
  exact h1.trans (List.perm_append_comm (l₁ := [x]) (l₂ := ls))
theorem srt_getD {ls : List Nat} (h : srt ls) {i j : Nat} (hij : i ≤ j) (hj : j < ls.length) : ls.getD i 0 ≤ ls.getD j 0 := by
  rcases Nat.lt_or_ge i j with g | g
  · have := (List.pairwise_iff_getElem.mp h) i j (by omega) hj g
    rw [List.getD_eq_getElem?_getD, List.getD_eq_getElem?_getD, List.getElem?_eq_getElem (by omega), List.getElem?_eq_getElem hj]
    exact this
  · rw [show i = j by omega]
    exact Nat.le_refl _
theorem ins_srt {ls : List Nat} {at_ x : Nat} (hs : srt ls) (hl : at_ ≤ ls.length) (h1 : ∀ i, i < at_ → ls.getD i 0 ≤ x) (h2 : ∀ i, at_ ≤ i → i < ls.length → x < ls.getD i 0) : srt (ls.take at_ ++ x :: ls.drop at_) := by
  refine List.pairwise_iff_getElem.mpr fun i j hi hj hij => ?_
  have hlen := ins_len (x := x) hl
  have gi : ∀ (i : Nat) (hi : i < (ls.take at_ ++ x :: ls.drop at_).length), (ls.take at_ ++ x :: ls.drop at_)[i] = (ls.take at_ ++ x :: ls.drop at_).getD i 0 := fun i hi => by
    rw [List.getD_eq_getElem?_getD, List.getElem?_eq_getElem hi]
    rfl
  rw [gi i hi, gi j hj]
  rw [hlen] at hi hj
  rcases Nat.lt_trichotomy i at_ with a | a | a <;> rcases Nat.lt_trichotomy j at_ with b | b | b
  · rw [getD_ins_lt hl a, getD_ins_lt hl b]
    exact srt_getD hs (by omega) (by omega)
  · rw [getD_ins_lt hl a, b, getD_ins_eq hl]
    exact h1 i a
  · rw [getD_ins_lt hl a, getD_ins_gt hl b]
    exact srt_getD hs (by omega) (by omega)
  · omega
  · omega
  · rw [a, getD_ins_eq hl, getD_ins_gt hl b]
    exact Nat.le_of_lt (h2 (j - 1) (by omega) (by omega))
  · omega
  · omega
  · rw [getD_ins_gt hl a, getD_ins_gt hl b]
    exact srt_getD hs (by omega) (by omega)
/-- the walk of one insertion, at the place at_ -/
def insI (see : Nat → Int32) (b x : Nat) (ls : List Nat) (at_ : Nat) : Prop := at_ ≤ ls.length ∧ (∀ i, i < at_ → see (b + i) = nI (ls.getD i 0)) ∧ (∀ i, at_ < i → i ≤ ls.length → see (b + i) = nI (ls.getD (i - 1) 0)) ∧ ∀ i, at_ ≤ i → i < ls.length → x < ls.getD i 0
theorem insI_0 {see : Nat → Int32} {b x : Nat} {ls : List Nat} (h : segOK see b ls) : insI see b x ls ls.length := ⟨Nat.le_refl _, h, fun i h1 h2 => by omega, fun i h1 h2 => by omega⟩
theorem insI_s {see : Nat → Int32} {b x : Nat} {ls : List Nat} {at_ : Nat} (h : insI see b x ls at_) (h0 : 0 < at_) (hx : x < ls.getD (at_ - 1) 0) : insI (upd see (b + at_) (see (b + at_ - 1))) b x ls (at_ - 1) := by
  obtain ⟨a1, a2, a3, a4⟩ := h
  refine ⟨by omega, fun i hi => ?_, fun i h1 h2 => ?_, fun i h1 h2 => ?_⟩
  · unfold upd
    rw [if_neg (by omega)]
    exact a2 i (by omega)
  · unfold upd
    rcases Nat.lt_or_ge at_ i with g | g
    · rw [if_neg (by omega)]
      exact a3 i g h2
    · rw [if_pos (by omega), show b + at_ - 1 = b + (at_ - 1) by omega, show i - 1 = at_ - 1 by omega]
      exact a2 (at_ - 1) (by omega)
  · rcases Nat.lt_or_ge i at_ with g | g
    · rw [show i = at_ - 1 by omega]
      exact hx
    · exact a4 i g h2
theorem insI_e {see : Nat → Int32} {b x : Nat} {ls : List Nat} {at_ : Nat} (h : insI see b x ls at_) : segOK (upd see (b + at_) (nI x)) b (ls.take at_ ++ x :: ls.drop at_) := by
  obtain ⟨a1, a2, a3, a4⟩ := h
  intro i hi
  rw [ins_len a1] at hi
  unfold upd
  rcases Nat.lt_trichotomy i at_ with g | g | g
  · rw [if_neg (by omega), getD_ins_lt a1 g]
    exact a2 i g
  · rw [if_pos (by omega), g, getD_ins_eq a1]
  · rw [if_neg (by omega), getD_ins_gt a1 g]
    exact a3 i g (by omega)
theorem insI_srt {see : Nat → Int32} {b x : Nat} {ls : List Nat} {at_ : Nat} (h : insI see b x ls at_) (hs : srt ls) (hx : at_ = 0 ∨ ls.getD (at_ - 1) 0 ≤ x) : srt (ls.take at_ ++ x :: ls.drop at_) := by
  obtain ⟨a1, a2, a3, a4⟩ := h
  refine ins_srt hs a1 (fun i hi => ?_) a4
  rcases hx with hx | hx
  · omega
  · exact Nat.le_trans (srt_getD hs (show i ≤ at_ - 1 by omega) (by omega)) hx
theorem segOK_upd {see : Nat → Int32} {b j : Nat} {ls : List Nat} {v : Int32} (h : segOK see b ls) (hj : j < b ∨ b + ls.length ≤ j) : segOK (upd see j v) b ls := by
  intro i hi
  unfold upd
  rw [if_neg (by omega)]
  exact h i hi
def outS (see see0 : Nat → Int32) (b : Nat) : Prop := ∀ i, (i < b ∨ b + 200 ≤ i) → see i = see0 i
theorem outS_upd {see see0 : Nat → Int32} {b j : Nat} {v : Int32} (h : outS see see0 b) (h1 : b ≤ j) (h2 : j < b + 200) : outS (upd see j v) see0 b := by
  intro i hi
  unfold upd
  rw [if_neg (by omega)]
  exact h i hi
theorem getD_le {ls : List Nat} {B : Nat} (h : ∀ x, x ∈ ls → x < B) (hB : 0 < B) (i : Nat) : ls.getD i 0 < B := by
  rw [List.getD_eq_getElem?_getD]
  cases e : ls[i]? with
  | none => exact hB
  | some y => exact h y (List.mem_of_getElem? e)
theorem filN_le {nam : Nat → Nat} {fol : Nat → Int32} {key own k : Nat} (h : ∀ i, nam i < 16384) {x : Nat} (hx : x ∈ filN nam fol key own k) : x < 16384 := by
  unfold filN at hx
  obtain ⟨j, -, rfl⟩ := List.mem_map.mp hx
  exact h j
theorem filN_len {nam : Nat → Nat} {fol : Nat → Int32} {key own k : Nat} : (filN nam fol key own k).length ≤ k := by
  unfold filN
  rw [List.length_map]
  exact Nat.le_trans (List.length_filter_le _ _) (by rw [List.length_range]; exact Nat.le_refl _)
/-- what the seen row holds when k files have been looked at -/
def lstI (see see0 : Nat → Int32) (nam : Nat → Nat) (fol : Nat → Int32) (b key own n k : Nat) : Prop := ∃ ls : List Nat, ls.length = n ∧ segOK see b ls ∧ srt ls ∧ ls.Perm (filN nam fol key own k) ∧ outS see see0 b
theorem lstI_0 {see : Nat → Int32} {nam : Nat → Nat} {fol : Nat → Int32} {b key own : Nat} : lstI see see nam fol b key own 0 0 := ⟨[], rfl, (fun i h => absurd h (Nat.not_lt_zero _)), List.Pairwise.nil, List.Perm.refl _, fun _ _ => rfl⟩
theorem lstI_f {see see0 : Nat → Int32} {nam : Nat → Nat} {fol : Nat → Int32} {b key own n k : Nat} (h : lstI see see0 nam fol b key own n k) (hc : ¬ fol k = nI key ∨ mayN (nam k / 16) own = false) : lstI see see0 nam fol b key own n (k + 1) := by
  obtain ⟨ls, h1, h2, h3, h4, h5⟩ := h
  exact ⟨ls, h1, h2, h3, by rw [filN_f hc]; exact h4, h5⟩
theorem lstI_t {see see0 : Nat → Int32} {nam : Nat → Nat} {fol : Nat → Int32} {b key own k at_ : Nat} {ls : List Nat} (h : insI see b (nam k) ls at_) (hs : srt ls) (hx : at_ = 0 ∨ ls.getD (at_ - 1) 0 ≤ nam k) (h4 : ls.Perm (filN nam fol key own k)) (h5 : outS see see0 b) (hc1 : fol k = nI key) (hc2 : mayN (nam k / 16) own = true) (hl : ls.length < 200) : lstI (upd see (b + at_) (nI (nam k))) see0 nam fol b key own (ls.length + 1) (k + 1) := by
  refine ⟨_, ins_len h.1, insI_e h, insI_srt h hs hx, ?_, outS_upd h5 (by omega) (by have := h.1; omega)⟩
  rw [filN_t hc1 hc2]
  exact ins_perm.trans (h4.append_right _)
theorem filN_lt {nam : Nat → Nat} {fol : Nat → Int32} {key own n k nf : Nat} {ls : List Nat} (h : ls.Perm (filN nam fol key own k)) (hk : k < nf) (hn : nf ≤ 200) : ls.length < 200 := by
  have := h.length_eq
  have := filN_len (nam := nam) (fol := fol) (key := key) (own := own) (k := k)
  omega
abbrev rmX2_make : Room := { frames := 3, cells := 0, slots := 0, locals := 68 }
theorem ydX2_make : yX2_make.cls ≠ "java/lang/invoke/MethodHandle" ∧ yX2_make.cls ≠ "java/lang/invoke/VarHandle" ∧ (parseMethodDescriptor yX2_make.desc).map (fun d => d.parameters.length) = some 4 := by decide +kernel
theorem iwX2_make_X2 : ∀ w ∈ u_ws RX2 TX2 16, w ∈ wsX2_make := fun _ h => (List.mem_cons_of_mem _ (List.mem_append_right _ h))
set_option maxRecDepth 100000 in
set_option maxHeartbeats 4000000 in
theorem k_X2_make (l : Launch) (D : va_G) (cy : Nat → ClassId) (zs : Nat → Nat) (a : Nat → Nat) (lab : Nat → Nat) (has : Nat → Bool) (quo : Nat → Nat) (spe : Nat → Nat) (nam : Nat → Nat) (gif : Nat → Bool) (fol : Nat → Int32) (siz : Nat → Nat) (cel : Nat → Int32) (giv : Nat → Bool) (nf : Nat) (lis : Nat → Nat) (lc : Nat) (see : Nat → Int32) (cnt : Nat → Nat) (thr : Nat) (hI : MI lab quo spe nam siz cnt lis nf lc) (p0 : Int32) (p1 : Int32) (p2 : Int32) (p3 : Int32)  : Mi l D cy zs yX2_make wsX2_make rmX2_make [.ref (a 0), .int p0, .int p1, .int p2, .int p3] (wM cy a lab has quo spe nam gif fol siz cel giv nf lis lc see cnt thr) ((fun (r : Int32) (w : va_W) => ((!inB p0 16 || !inB p1 1024 || !inB p2 16 || decide (p3 < -1) || !decide (p3 < nI 16384)) = true ∧ r = nI 0 ∧ w = wM cy a lab has quo spe nam gif fol siz cel giv nf lis lc see cnt 1) ∨ ∃ S L q, ∃ fo : Option Nat, p0 = nI S ∧ S < 16 ∧ p1 = nI L ∧ L < 1024 ∧ p2 = nI q ∧ q < 16 ∧ p3 = fI fo ∧ (∀ x, fo = some x → x < 16384) ∧ ((makeD (olab has lab S) L fo (findN nam nf (16 * L + q)).isSome (fulN lab quo spe nam gif siz giv nf S 1) nf = 0 ∧ r = -1 ∧ w = wM cy a lab has quo spe nam gif fol siz cel giv nf lis lc see (va_up cnt S 0) 0) ∨ (makeD (olab has lab S) L fo (findN nam nf (16 * L + q)).isSome (fulN lab quo spe nam gif siz giv nf S 1) nf = 1 ∧ r = -2 ∧ w = wM cy a lab has quo spe nam gif fol siz cel giv nf lis lc see (va_up cnt S 0) 0) ∨ (makeD (olab has lab S) L fo (findN nam nf (16 * L + q)).isSome (fulN lab quo spe nam gif siz giv nf S 1) nf = 2 ∧ r = nI 0 ∧ w = wM cy a lab has quo spe nam gif fol siz cel giv nf lis lc see (va_up cnt S 0) 0) ∨ (makeD (olab has lab S) L fo (findN nam nf (16 * L + q)).isSome (fulN lab quo spe nam gif siz giv nf S 1) nf = 3 ∧ r = -3 ∧ w = wM cy a lab has quo spe nam gif fol siz cel giv nf lis lc see (va_up cnt S 0) 0) ∨ (makeD (olab has lab S) L fo (findN nam nf (16 * L + q)).isSome (fulN lab quo spe nam gif siz giv nf S 1) nf = 4 ∧ r = nI 0 ∧ w = wM cy a lab has quo spe nam gif fol siz cel giv nf lis lc see cnt 2) ∨ (makeD (olab has lab S) L fo (findN nam nf (16 * L + q)).isSome (fulN lab quo spe nam gif siz giv nf S 1) nf = 5 ∧ r = nI 1 ∧ w = wM cy a lab has quo spe (va_up nam nf (16 * L + q)) (va_up gif nf false) (upd fol nf (fI fo)) (va_up siz nf 0) cel giv (nf + 1) lis lc see (va_up cnt S 0) 0) ∨ (makeD (olab has lab S) L fo (findN nam nf (16 * L + q)).isSome (fulN lab quo spe nam gif siz giv nf S 1) nf = 6 ∧ r = nI 2 ∧ w = wM cy a lab has quo (va_up spe (lab S) (spe (lab S) + 1)) (va_up nam nf (16 * L + q)) (va_up gif nf true) (upd fol nf (fI fo)) (va_up siz nf 0) cel giv (nf + 1) lis lc see (va_up cnt S 0) 0) ∨ (makeD (olab has lab S) L fo (findN nam nf (16 * L + q)).isSome (fulN lab quo spe nam gif siz giv nf S 1) nf = 7 ∧ r = nI 2 ∧ w = wM cy a lab has quo (va_up spe (lab S) (spe (lab S) + 1)) nam gif fol siz cel giv nf lis lc see (va_up cnt S 0) 0)))) := by
  refine Mi.of (lv := [(0, .ref (a 0)), (1, .int p0), (2, .int p1), (3, .int p2), (4, .int p3)]) RX2 ⟨by decide, rfl⟩ rfl (Nat.le_of_ble_eq_true rfl) rfl ?_
  intro p e s m args below meth c A C hnm
  obtain ⟨hnf, hlc, hlab, hquo, hspe, hnam, hsiz, hcnt, hlis⟩ := id hI
  refine g_aload_n C dX2_make_0 rfl 0 rfl ?_
  refine g_join (fun v41 : Bool => v41 = (!inB p0 16 || !inB p1 1024 || !inB p2 16 || decide (p3 < -1) || !decide (p3 < nI 16384))) 41 (wM cy a lab has quo spe nam gif fol siz cel giv nf lis lc see cnt thr) [(0, .ref (a 0)), (1, .int p0), (2, .int p1), (3, .int p2), (4, .int p3)] (fun v41 => [.int (bI v41), .ref (a 0)]) (fun v41 h41 => ?_) (fun J41 => ?_)
  · skip
    refine g_iconst (v := nI 1) C dX2_make_41 (by decide +kernel) ?_
    refine g_Vi (ci := 3) (st := []) C (k_X2_fails l D cy zs a lab has quo spe nam gif fol siz cel giv nf lis lc see cnt thr ⟨hnf, hlc, hlab, hquo, hspe, hnam, hsiz, hcnt, hlis⟩ v41 1) gX2_make_X2_fails rfl ⟨rfl, ydX2_fails⟩ 0 rfl rfl ⟨Nat.le_of_ble_eq_true rfl, Nat.le_of_ble_eq_true rfl⟩ ⟨Nat.le_of_ble_eq_true rfl, Nat.le_of_ble_eq_true rfl⟩ rfl (Nat.le_of_ble_eq_true rfl) dX2_make_42 (fun r42 w42 h42 => ?_)
    obtain ⟨h42a, h42b⟩ := h42
    subst h42a
    subst h42b
    refine g_if_eq (tgt := 50) C dX2_make_45 (by decide) (fun c45 => ?_) (fun c45 => ?_)
    · skip
      have c45 := cb_eq0 c45
      subst c45
      obtain ⟨qp0, qp1, qp2, qf⟩ : inB p0 16 = true ∧ inB p1 1024 = true ∧ inB p2 16 = true ∧ (decide (p3 < -1) = false ∧ decide (p3 < nI 16384) = true) := by revert h41; cases decide (p3 < -1) <;> cases decide (p3 < nI 16384) <;> cases inB p0 16 <;> cases inB p1 1024 <;> cases inB p2 16 <;> simp
      obtain ⟨S, hS, eS⟩ := inB_of (Nat.le_of_ble_eq_true rfl) qp0
      subst eS
      obtain ⟨L, hL, eL⟩ := inB_of (Nat.le_of_ble_eq_true rfl) qp1
      subst eL
      obtain ⟨q, hq, eq⟩ := inB_of (Nat.le_of_ble_eq_true rfl) qp2
      subst eq
      obtain ⟨fo, efo, hfo⟩ := fol_of qf.1 qf.2
      subst efo
      refine g_join (fun v95 : Bool => v95 = (has S && (mayN (lab S) L && folOk fo L))) 95 (wM cy a lab has quo spe nam gif fol siz cel giv nf lis lc see cnt 0) [(0, .ref (a 0)), (1, .int (nI S)), (2, .int (nI L)), (3, .int (nI q)), (4, .int (fI fo))] (fun v95 => [.int (bI v95)]) (fun v95 h95 => ?_) (fun J95 => ?_)
      · skip
        refine g_istore (lv' := [(5, .int (bI v95)), (0, .ref (a 0)), (1, .int (nI S)), (2, .int (nI L)), (3, .int (nI q)), (4, .int (fI fo))]) C dX2_make_95 (by decide) rfl ?_
        refine g_join (fun v121 : Bool => v121 = (has S && decide (lab S = L))) 121 (wM cy a lab has quo spe nam gif fol siz cel giv nf lis lc see cnt 0) [(0, .ref (a 0)), (1, .int (nI S)), (2, .int (nI L)), (3, .int (nI q)), (4, .int (fI fo)), (5, .int (bI v95))] (fun v121 => [.int (bI v121)]) (fun v121 h121 => ?_) (fun J121 => ?_)
        · skip
          refine g_istore (lv' := [(6, .int (bI v121)), (0, .ref (a 0)), (1, .int (nI S)), (2, .int (nI L)), (3, .int (nI q)), (4, .int (fI fo)), (5, .int (bI v95))]) C dX2_make_121 (by decide) rfl ?_
          refine g_join (fun v138 : Bool => v138 = ((findN nam nf (16 * L + q)).isSome)) 138 (wM cy a lab has quo spe nam gif fol siz cel giv nf lis lc see cnt 0) [(0, .ref (a 0)), (1, .int (nI S)), (2, .int (nI L)), (3, .int (nI q)), (4, .int (fI fo)), (5, .int (bI v95)), (6, .int (bI v121))] (fun v138 => [.int (bI v138)]) (fun v138 h138 => ?_) (fun J138 => ?_)
          · skip
            refine g_istore (lv' := [(7, .int (bI v138)), (0, .ref (a 0)), (1, .int (nI S)), (2, .int (nI L)), (3, .int (nI q)), (4, .int (fI fo)), (5, .int (bI v95)), (6, .int (bI v121))]) C dX2_make_138 (by decide) rfl ?_
            refine g_join (fun v164 : Bool => v164 = (v95 && (!v138 && !fulN lab quo spe nam gif siz giv nf S 1))) 164 (wM cy a lab has quo spe nam gif fol siz cel giv nf lis lc see cnt 0) [(0, .ref (a 0)), (1, .int (nI S)), (2, .int (nI L)), (3, .int (nI q)), (4, .int (fI fo)), (5, .int (bI v95)), (6, .int (bI v121)), (7, .int (bI v138))] (fun v164 => [.int (bI v164)]) (fun v164 h164 => ?_) (fun J164 => ?_)
            · skip
              refine g_istore (lv' := [(8, .int (bI v164)), (0, .ref (a 0)), (1, .int (nI S)), (2, .int (nI L)), (3, .int (nI q)), (4, .int (fI fo)), (5, .int (bI v95)), (6, .int (bI v121)), (7, .int (bI v138))]) C dX2_make_164 (by decide) rfl ?_
              refine g_aload_n C dX2_make_166 rfl 1 rfl ?_
              refine g_join (fun v187 : Bool => v187 = (v164 && decide (nf = 200))) 187 (wM cy a lab has quo spe nam gif fol siz cel giv nf lis lc see cnt 0) [(0, .ref (a 0)), (1, .int (nI S)), (2, .int (nI L)), (3, .int (nI q)), (4, .int (fI fo)), (5, .int (bI v95)), (6, .int (bI v121)), (7, .int (bI v138)), (8, .int (bI v164))] (fun v187 => [.int (bI v187), .ref (a 0)]) (fun v187 h187 => ?_) (fun J187 => ?_)
              · skip
                refine g_iconst (v := nI 2) C dX2_make_187 (by decide +kernel) ?_
                refine g_Vi (ci := 3) (st := []) C (k_X2_fails l D cy zs a lab has quo spe nam gif fol siz cel giv nf lis lc see cnt 0 ⟨hnf, hlc, hlab, hquo, hspe, hnam, hsiz, hcnt, hlis⟩ v187 2) gX2_make_X2_fails rfl ⟨rfl, ydX2_fails⟩ 0 rfl rfl ⟨Nat.le_of_ble_eq_true rfl, Nat.le_of_ble_eq_true rfl⟩ ⟨Nat.le_of_ble_eq_true rfl, Nat.le_of_ble_eq_true rfl⟩ rfl (Nat.le_of_ble_eq_true rfl) dX2_make_188 (fun r188 w188 h188 => ?_)
                obtain ⟨h188a, h188b⟩ := h188
                subst h188a
                subst h188b
                refine g_if_eq (tgt := 196) C dX2_make_191 (by decide) (fun c191 => ?_) (fun c191 => ?_)
                · skip
                  have c191 := cb_eq0 c191
                  subst c191
                  refine g_aload_n C dX2_make_196 rfl 0 rfl ?_
                  refine g_iload_n C dX2_make_197 rfl 1 rfl ?_
                  refine g_Vv (ci := 3) (st := []) C (k_X2_begin l D cy zs a lab has quo spe nam gif fol siz cel giv nf lis lc see cnt 0 ⟨hnf, hlc, hlab, hquo, hspe, hnam, hsiz, hcnt, hlis⟩ S (by omega)) gX2_make_X2_begin rfl ⟨rfl, ydX2_begin⟩ 0 rfl rfl ⟨Nat.le_of_ble_eq_true rfl, Nat.le_of_ble_eq_true rfl⟩ ⟨Nat.le_of_ble_eq_true rfl, Nat.le_of_ble_eq_true rfl⟩ rfl (Nat.le_of_ble_eq_true rfl) dX2_make_198 (fun w198 h198 => ?_)
                  have hcnt198 : ∀ i, va_up cnt S 0 i ≤ 200 := va_up_le hcnt (Nat.zero_le _)
                  subst h198
                  refine g_aload_n C dX2_make_201 rfl 0 rfl ?_
                  refine g_get (ci := 3) (v := .ref (a 2)) C iwX2_make_X2 0 rfl rfl 1 (by decide) (C.hw (List.mem_cons_of_mem _ (List.mem_append_left _ (List.mem_append_left _ (List.mem_of_getElem? (i := 0) rfl))))) (fun _ h9 => h9) rfl dX2_make_202 ?_
                  refine g_iload_n C dX2_make_205 rfl 1 rfl ?_
                  refine g_zaldB (nn := 16) (j := S) (f := has) C 2 rfl (by omega) n31_16 dX2_make_206 ?_
                  refine g_if_ne (tgt := 212) C dX2_make_207 (by decide) (fun c207 => ?_) (fun c207 => ?_)
                  · skip
                    have c207 := cb_eq1 c207
                    refine g_iload C dX2_make_212 5 rfl ?_
                    refine g_if_ne (tgt := 220) C dX2_make_214 (by decide) (fun c214 => ?_) (fun c214 => ?_)
                    · skip
                      have c214 := cb_eq1 c214
                      have m1 : (mayN (lab S) L && folOk fo L) = true := by rw [h95, c207, Bool.true_and] at c214; exact c214
                      refine g_iload C dX2_make_220 6 rfl ?_
                      refine g_if_eq (tgt := 232) C dX2_make_222 (by decide) (fun c222 => ?_) (fun c222 => ?_)
                      · skip
                        have c222 := cb_eq0 c222
                        have o1 : ¬ lab S = L := by rw [h121, c207, Bool.true_and] at c222; exact of_decide_eq_false c222
                        refine g_aload_n C dX2_make_232 rfl 0 rfl ?_
                        refine g_iload_n C dX2_make_233 rfl 1 rfl ?_
                        refine g_iconst (v := nI 1) C dX2_make_234 (by decide +kernel) ?_
                        refine g_Vi (ci := 3) (st := []) C (k_X2_isFull l D cy zs a lab has quo spe nam gif fol siz cel giv nf lis lc see (va_up cnt S 0) 0 ⟨hnf, hlc, hlab, hquo, hspe, hnam, hsiz, hcnt198, hlis⟩ S 1 (by omega) (by omega)) gX2_make_X2_isFull rfl ⟨rfl, ydX2_isFull⟩ 0 rfl rfl ⟨Nat.le_of_ble_eq_true rfl, Nat.le_of_ble_eq_true rfl⟩ ⟨Nat.le_of_ble_eq_true rfl, Nat.le_of_ble_eq_true rfl⟩ rfl (Nat.le_of_ble_eq_true rfl) dX2_make_235 (fun r235 w235 h235 => ?_)
                        obtain ⟨h235a, h235b⟩ := h235
                        subst h235a
                        subst h235b
                        refine g_if_eq (tgt := 244) C dX2_make_238 (by decide) (fun c238 => ?_) (fun c238 => ?_)
                        · skip
                          have c238 := cb_eq0 c238
                          have qf := fulN_no c238
                          have qs := usesN_spe spe nam gif siz giv nf (lab S)
                          have qq := hquo (lab S)
                          refine g_iload C dX2_make_244 7 rfl ?_
                          refine g_if_ne (tgt := 268) C dX2_make_246 (by decide) (fun c246 => ?_) (fun c246 => ?_)
                          · skip
                            have c246 := cb_eq1 c246
                            have t1 : (findN nam nf (16 * L + q)).isSome = true := h138 ▸ c246
                            refine g_iload C dX2_make_268 6 rfl ?_
                            refine g_if_ne (tgt := 288) C dX2_make_270 (by decide) (fun c270 => ?_) (fun c270 => ?_)
                            · skip
                              cases c222.symm.trans (cb_eq1 c270)
                            · skip
                              have c270 := cb_eq0 c270
                              refine g_aload_n C dX2_make_273 rfl 0 rfl ?_
                              refine g_get (ci := 3) (v := .ref (a 4)) C iwX2_make_X2 0 rfl rfl 3 (by decide) (C.hw (List.mem_cons_of_mem _ (List.mem_append_left _ (List.mem_append_left _ (List.mem_of_getElem? (i := 3) rfl))))) (fun _ h9 => h9) rfl dX2_make_274 ?_
                              refine g_aload_n C dX2_make_277 rfl 0 rfl ?_
                              refine g_get (ci := 3) (v := .ref (a 1)) C iwX2_make_X2 0 rfl rfl 0 (by decide) (C.hw (List.mem_cons_of_mem _ (List.mem_append_left _ (List.mem_append_left _ (List.mem_of_getElem? (i := 1) rfl))))) (fun _ h9 => h9) rfl dX2_make_278 ?_
                              refine g_iload_n C dX2_make_281 rfl 1 rfl ?_
                              refine g_ialdN (nn := 16) (j := S) (f := lab) C 1 rfl (by omega) n31_16 dX2_make_282 ?_
                              have b282 := hlab S
                              refine g_dup2_11 C dX2_make_283 rfl rfl ?_
                              refine g_ialdN (nn := 1024) (j := (lab S)) (f := spe) C 4 rfl (by omega) n31_1024 dX2_make_284 ?_
                              have b284 := hspe (lab S)
                              refine g_iconst (v := nI 1) C dX2_make_285 (by decide +kernel) ?_
                              refine g_iadd (v := nI ((spe (lab S)) + 1)) C dX2_make_286 (nI_add _ _) ?_
                              refine g_iastN (nn := 1024) (j := (lab S)) (v := ((spe (lab S)) + 1)) (f := spe) (ws' := wM cy a lab has quo (va_up spe (lab S) ((spe (lab S)) + 1)) nam gif fol siz cel giv nf lis lc see (va_up cnt S 0) 0) C 4 rfl (by omega) n31_1024 rfl dX2_make_287 ?_
                              have hspe287 : ∀ i9, (va_up spe (lab S) ((spe (lab S)) + 1)) i9 ≤ 1000 := va_up_le hspe (by omega)
                              refine g_iload C dX2_make_288 6 rfl ?_
                              refine g_if_eq (tgt := 297) C dX2_make_290 (by decide) (fun c290 => ?_) (fun c290 => ?_)
                              · skip
                                have c290 := cb_eq0 c290
                                refine g_iconst (v := nI 2) C dX2_make_297 (by decide +kernel) ?_
                                exact g_iret C rfl (Or.inr ⟨S, L, q, fo, rfl, hS, rfl, hL, rfl, hq, rfl, hfo, Or.inr (Or.inr (Or.inr (Or.inr (Or.inr (Or.inr (Or.inr (⟨(by simp only [makeD, olab_t c207, m1, c238, t1, Option.map_none, Option.map_some, Option.isSome_none, Option.isSome_some, Bool.false_eq_true, Bool.true_eq_false, eq_self, if_true, if_false]; repeat (first | rw [if_pos (by first | assumption | omega)] | rw [if_neg (by first | assumption | omega)])), rfl, rfl⟩)))))))⟩) (Nat.le_of_ble_eq_true rfl) (Nat.le_of_ble_eq_true rfl) dX2_make_298
                              · skip
                                cases c270.symm.trans (cb_eq1 c290)
                          · skip
                            have c246 := cb_eq0 c246
                            have t1 : (findN nam nf (16 * L + q)).isSome = false := h138 ▸ c246
                            have z : v164 = true := by simp [h164, c214, c246, c238]
                            rw [z, Bool.true_and] at h187
                            have n1 : nf < 200 := by have := of_decide_eq_false h187.symm; omega
                            refine g_aload_n C dX2_make_249 rfl 0 rfl ?_
                            refine g_iload_n C dX2_make_250 rfl 2 rfl ?_
                            refine g_iload_n C dX2_make_251 rfl 3 rfl ?_
                            refine g_iload C dX2_make_252 4 rfl ?_
                            refine g_iload C dX2_make_254 6 rfl ?_
                            refine g_if_ne (tgt := 263) C dX2_make_256 (by decide) (fun c256 => ?_) (fun c256 => ?_)
                            · skip
                              cases c222.symm.trans (cb_eq1 c256)
                            · skip
                              have c256 := cb_eq0 c256
                              refine g_iconst (v := nI 1) C dX2_make_259 (by decide +kernel) ?_
                              refine g_goto (tgt := 264) C dX2_make_260 (by decide) ?_
                              refine g_Vi (ci := 3) (st := []) C (k_X2_add l D cy zs a lab has quo spe nam gif fol siz cel giv nf lis lc see (va_up cnt S 0) 0 ⟨hnf, hlc, hlab, hquo, hspe, hnam, hsiz, hcnt198, hlis⟩ L q (fI fo) true (by omega) (by omega) (by omega)) gX2_make_X2_add rfl ⟨rfl, ydX2_add⟩ 0 rfl rfl ⟨Nat.le_of_ble_eq_true rfl, Nat.le_of_ble_eq_true rfl⟩ ⟨Nat.le_of_ble_eq_true rfl, Nat.le_of_ble_eq_true rfl⟩ rfl (Nat.le_of_ble_eq_true rfl) dX2_make_264 (fun r264 w264 h264 => ?_)
                              have hnam264 : ∀ i, va_up nam nf (16 * L + q) i < 16384 := va_up_lt hnam (by omega)
                              have hsiz264 : ∀ i, va_up siz nf 0 i ≤ 24 := va_up_le hsiz (by omega)
                              have hnf264 : nf + 1 ≤ 200 := by omega
                              obtain ⟨h264a, h264b⟩ := h264
                              subst h264a
                              subst h264b
                              refine g_pop C dX2_make_267 rfl ?_
                              refine g_iload C dX2_make_268 6 rfl ?_
                              refine g_if_ne (tgt := 288) C dX2_make_270 (by decide) (fun c270 => ?_) (fun c270 => ?_)
                              · skip
                                cases c256.symm.trans (cb_eq1 c270)
                              · skip
                                have c270 := cb_eq0 c270
                                refine g_aload_n C dX2_make_273 rfl 0 rfl ?_
                                refine g_get (ci := 3) (v := .ref (a 4)) C iwX2_make_X2 0 rfl rfl 3 (by decide) (C.hw (List.mem_cons_of_mem _ (List.mem_append_left _ (List.mem_append_left _ (List.mem_of_getElem? (i := 3) rfl))))) (fun _ h9 => h9) rfl dX2_make_274 ?_
                                refine g_aload_n C dX2_make_277 rfl 0 rfl ?_
                                refine g_get (ci := 3) (v := .ref (a 1)) C iwX2_make_X2 0 rfl rfl 0 (by decide) (C.hw (List.mem_cons_of_mem _ (List.mem_append_left _ (List.mem_append_left _ (List.mem_of_getElem? (i := 1) rfl))))) (fun _ h9 => h9) rfl dX2_make_278 ?_
                                refine g_iload_n C dX2_make_281 rfl 1 rfl ?_
                                refine g_ialdN (nn := 16) (j := S) (f := lab) C 1 rfl (by omega) n31_16 dX2_make_282 ?_
                                have b282 := hlab S
                                refine g_dup2_11 C dX2_make_283 rfl rfl ?_
                                refine g_ialdN (nn := 1024) (j := (lab S)) (f := spe) C 4 rfl (by omega) n31_1024 dX2_make_284 ?_
                                have b284 := hspe (lab S)
                                refine g_iconst (v := nI 1) C dX2_make_285 (by decide +kernel) ?_
                                refine g_iadd (v := nI ((spe (lab S)) + 1)) C dX2_make_286 (nI_add _ _) ?_
                                refine g_iastN (nn := 1024) (j := (lab S)) (v := ((spe (lab S)) + 1)) (f := spe) (ws' := wM cy a lab has quo (va_up spe (lab S) ((spe (lab S)) + 1)) (va_up nam nf (16 * L + q)) (va_up gif nf true) (upd fol nf (fI fo)) (va_up siz nf 0) cel giv (nf + 1) lis lc see (va_up cnt S 0) 0) C 4 rfl (by omega) n31_1024 rfl dX2_make_287 ?_
                                have hspe287 : ∀ i9, (va_up spe (lab S) ((spe (lab S)) + 1)) i9 ≤ 1000 := va_up_le hspe (by omega)
                                refine g_iload C dX2_make_288 6 rfl ?_
                                refine g_if_eq (tgt := 297) C dX2_make_290 (by decide) (fun c290 => ?_) (fun c290 => ?_)
                                · skip
                                  have c290 := cb_eq0 c290
                                  refine g_iconst (v := nI 2) C dX2_make_297 (by decide +kernel) ?_
                                  exact g_iret C rfl (Or.inr ⟨S, L, q, fo, rfl, hS, rfl, hL, rfl, hq, rfl, hfo, Or.inr (Or.inr (Or.inr (Or.inr (Or.inr (Or.inr (Or.inl (⟨(by simp only [makeD, olab_t c207, m1, c238, t1, Option.map_none, Option.map_some, Option.isSome_none, Option.isSome_some, Bool.false_eq_true, Bool.true_eq_false, eq_self, if_true, if_false]; repeat (first | rw [if_pos (by first | assumption | omega)] | rw [if_neg (by first | assumption | omega)])), rfl, rfl⟩)))))))⟩) (Nat.le_of_ble_eq_true rfl) (Nat.le_of_ble_eq_true rfl) dX2_make_298
                                · skip
                                  cases c270.symm.trans (cb_eq1 c290)
                        · skip
                          have c238 := cb_eq1 c238
                          refine g_bipush (v := (-3)) C dX2_make_241 (by decide +kernel) ?_
                          exact g_iret C rfl (Or.inr ⟨S, L, q, fo, rfl, hS, rfl, hL, rfl, hq, rfl, hfo, Or.inr (Or.inr (Or.inr (Or.inl (⟨(by simp only [makeD, olab_t c207, m1, c238, Option.map_none, Option.map_some, Option.isSome_none, Option.isSome_some, Bool.false_eq_true, Bool.true_eq_false, eq_self, if_true, if_false]; repeat (first | rw [if_pos (by first | assumption | omega)] | rw [if_neg (by first | assumption | omega)])), rfl, rfl⟩))))⟩) (Nat.le_of_ble_eq_true rfl) (Nat.le_of_ble_eq_true rfl) dX2_make_243
                      · skip
                        have c222 := cb_eq1 c222
                        have o1 : lab S = L := by rw [h121, c207, Bool.true_and] at c222; exact of_decide_eq_true c222
                        refine g_iload C dX2_make_225 7 rfl ?_
                        refine g_if_eq (tgt := 232) C dX2_make_227 (by decide) (fun c227 => ?_) (fun c227 => ?_)
                        · skip
                          have c227 := cb_eq0 c227
                          have t1 : (findN nam nf (16 * L + q)).isSome = false := h138 ▸ c227
                          refine g_aload_n C dX2_make_232 rfl 0 rfl ?_
                          refine g_iload_n C dX2_make_233 rfl 1 rfl ?_
                          refine g_iconst (v := nI 1) C dX2_make_234 (by decide +kernel) ?_
                          refine g_Vi (ci := 3) (st := []) C (k_X2_isFull l D cy zs a lab has quo spe nam gif fol siz cel giv nf lis lc see (va_up cnt S 0) 0 ⟨hnf, hlc, hlab, hquo, hspe, hnam, hsiz, hcnt198, hlis⟩ S 1 (by omega) (by omega)) gX2_make_X2_isFull rfl ⟨rfl, ydX2_isFull⟩ 0 rfl rfl ⟨Nat.le_of_ble_eq_true rfl, Nat.le_of_ble_eq_true rfl⟩ ⟨Nat.le_of_ble_eq_true rfl, Nat.le_of_ble_eq_true rfl⟩ rfl (Nat.le_of_ble_eq_true rfl) dX2_make_235 (fun r235 w235 h235 => ?_)
                          obtain ⟨h235a, h235b⟩ := h235
                          subst h235a
                          subst h235b
                          refine g_if_eq (tgt := 244) C dX2_make_238 (by decide) (fun c238 => ?_) (fun c238 => ?_)
                          · skip
                            have c238 := cb_eq0 c238
                            have qf := fulN_no c238
                            have qs := usesN_spe spe nam gif siz giv nf (lab S)
                            have qq := hquo (lab S)
                            refine g_iload C dX2_make_244 7 rfl ?_
                            refine g_if_ne (tgt := 268) C dX2_make_246 (by decide) (fun c246 => ?_) (fun c246 => ?_)
                            · skip
                              cases c227.symm.trans (cb_eq1 c246)
                            · skip
                              have c246 := cb_eq0 c246
                              have t1 : (findN nam nf (16 * L + q)).isSome = false := h138 ▸ c246
                              have z : v164 = true := by simp [h164, c214, c246, c238]
                              rw [z, Bool.true_and] at h187
                              have n1 : nf < 200 := by have := of_decide_eq_false h187.symm; omega
                              refine g_aload_n C dX2_make_249 rfl 0 rfl ?_
                              refine g_iload_n C dX2_make_250 rfl 2 rfl ?_
                              refine g_iload_n C dX2_make_251 rfl 3 rfl ?_
                              refine g_iload C dX2_make_252 4 rfl ?_
                              refine g_iload C dX2_make_254 6 rfl ?_
                              refine g_if_ne (tgt := 263) C dX2_make_256 (by decide) (fun c256 => ?_) (fun c256 => ?_)
                              · skip
                                have c256 := cb_eq1 c256
                                refine g_iconst (v := nI 0) C dX2_make_263 (by decide +kernel) ?_
                                refine g_Vi (ci := 3) (st := []) C (k_X2_add l D cy zs a lab has quo spe nam gif fol siz cel giv nf lis lc see (va_up cnt S 0) 0 ⟨hnf, hlc, hlab, hquo, hspe, hnam, hsiz, hcnt198, hlis⟩ L q (fI fo) false (by omega) (by omega) (by omega)) gX2_make_X2_add rfl ⟨rfl, ydX2_add⟩ 0 rfl rfl ⟨Nat.le_of_ble_eq_true rfl, Nat.le_of_ble_eq_true rfl⟩ ⟨Nat.le_of_ble_eq_true rfl, Nat.le_of_ble_eq_true rfl⟩ rfl (Nat.le_of_ble_eq_true rfl) dX2_make_264 (fun r264 w264 h264 => ?_)
                                have hnam264 : ∀ i, va_up nam nf (16 * L + q) i < 16384 := va_up_lt hnam (by omega)
                                have hsiz264 : ∀ i, va_up siz nf 0 i ≤ 24 := va_up_le hsiz (by omega)
                                have hnf264 : nf + 1 ≤ 200 := by omega
                                obtain ⟨h264a, h264b⟩ := h264
                                subst h264a
                                subst h264b
                                refine g_pop C dX2_make_267 rfl ?_
                                refine g_iload C dX2_make_268 6 rfl ?_
                                refine g_if_ne (tgt := 288) C dX2_make_270 (by decide) (fun c270 => ?_) (fun c270 => ?_)
                                · skip
                                  have c270 := cb_eq1 c270
                                  refine g_iload C dX2_make_288 6 rfl ?_
                                  refine g_if_eq (tgt := 297) C dX2_make_290 (by decide) (fun c290 => ?_) (fun c290 => ?_)
                                  · skip
                                    cases c270.symm.trans (cb_eq0 c290)
                                  · skip
                                    have c290 := cb_eq1 c290
                                    refine g_iconst (v := nI 1) C dX2_make_293 (by decide +kernel) ?_
                                    refine g_goto (tgt := 298) C dX2_make_294 (by decide) ?_
                                    exact g_iret C rfl (Or.inr ⟨S, L, q, fo, rfl, hS, rfl, hL, rfl, hq, rfl, hfo, Or.inr (Or.inr (Or.inr (Or.inr (Or.inr (Or.inl (⟨(by simp only [makeD, olab_t c207, m1, t1, c238, Option.map_none, Option.map_some, Option.isSome_none, Option.isSome_some, Bool.false_eq_true, Bool.true_eq_false, eq_self, if_true, if_false]; repeat (first | rw [if_pos (by first | assumption | omega)] | rw [if_neg (by first | assumption | omega)])), rfl, rfl⟩))))))⟩) (Nat.le_of_ble_eq_true rfl) (Nat.le_of_ble_eq_true rfl) dX2_make_298
                                · skip
                                  cases c256.symm.trans (cb_eq0 c270)
                              · skip
                                cases c222.symm.trans (cb_eq0 c256)
                          · skip
                            have c238 := cb_eq1 c238
                            refine g_bipush (v := (-3)) C dX2_make_241 (by decide +kernel) ?_
                            exact g_iret C rfl (Or.inr ⟨S, L, q, fo, rfl, hS, rfl, hL, rfl, hq, rfl, hfo, Or.inr (Or.inr (Or.inr (Or.inl (⟨(by simp only [makeD, olab_t c207, m1, t1, c238, Option.map_none, Option.map_some, Option.isSome_none, Option.isSome_some, Bool.false_eq_true, Bool.true_eq_false, eq_self, if_true, if_false]; repeat (first | rw [if_pos (by first | assumption | omega)] | rw [if_neg (by first | assumption | omega)])), rfl, rfl⟩))))⟩) (Nat.le_of_ble_eq_true rfl) (Nat.le_of_ble_eq_true rfl) dX2_make_243
                        · skip
                          have c227 := cb_eq1 c227
                          have t1 : (findN nam nf (16 * L + q)).isSome = true := h138 ▸ c227
                          refine g_iconst (v := nI 0) C dX2_make_230 (by decide +kernel) ?_
                          exact g_iret C rfl (Or.inr ⟨S, L, q, fo, rfl, hS, rfl, hL, rfl, hq, rfl, hfo, Or.inr (Or.inr (Or.inl (⟨(by simp only [makeD, olab_t c207, m1, t1, Option.map_none, Option.map_some, Option.isSome_none, Option.isSome_some, Bool.false_eq_true, Bool.true_eq_false, eq_self, if_true, if_false]; repeat (first | rw [if_pos (by first | assumption | omega)] | rw [if_neg (by first | assumption | omega)])), rfl, rfl⟩)))⟩) (Nat.le_of_ble_eq_true rfl) (Nat.le_of_ble_eq_true rfl) dX2_make_231
                    · skip
                      have c214 := cb_eq0 c214
                      have m1 : (mayN (lab S) L && folOk fo L) = false := by rw [h95, c207, Bool.true_and] at c214; exact c214
                      refine g_bipush (v := (-2)) C dX2_make_217 (by decide +kernel) ?_
                      exact g_iret C rfl (Or.inr ⟨S, L, q, fo, rfl, hS, rfl, hL, rfl, hq, rfl, hfo, Or.inr (Or.inl (⟨(by simp only [makeD, olab_t c207, m1, Option.map_none, Option.map_some, Option.isSome_none, Option.isSome_some, Bool.false_eq_true, Bool.true_eq_false, eq_self, if_true, if_false]; repeat (first | rw [if_pos (by first | assumption | omega)] | rw [if_neg (by first | assumption | omega)])), rfl, rfl⟩))⟩) (Nat.le_of_ble_eq_true rfl) (Nat.le_of_ble_eq_true rfl) dX2_make_219
                  · skip
                    have c207 := cb_eq0 c207
                    refine g_iconst (v := (-1)) C dX2_make_210 (by decide +kernel) ?_
                    exact g_iret C rfl (Or.inr ⟨S, L, q, fo, rfl, hS, rfl, hL, rfl, hq, rfl, hfo, Or.inl (⟨(by simp only [makeD, olab_f c207, Option.map_none, Option.map_some, Option.isSome_none, Option.isSome_some, Bool.false_eq_true, Bool.true_eq_false, eq_self, if_true, if_false]; repeat (first | rw [if_pos (by first | assumption | omega)] | rw [if_neg (by first | assumption | omega)])), rfl, rfl⟩)⟩) (Nat.le_of_ble_eq_true rfl) (Nat.le_of_ble_eq_true rfl) dX2_make_211
                · skip
                  have c191 := cb_eq1 c191
                  subst c191
                  obtain ⟨z1, z2⟩ : v164 = true ∧ nf = 200 := by simpa using h187.symm
                  obtain ⟨z3, z4, z5⟩ : v95 = true ∧ v138 = false ∧ fulN lab quo spe nam gif siz giv nf S 1 = false := by rw [h164] at z1; simpa using z1
                  obtain ⟨z6, z7⟩ : has S = true ∧ (mayN (lab S) L && folOk fo L) = true := by rw [h95] at z3; revert z3; cases has S <;> cases (mayN (lab S) L && folOk fo L) <;> simp
                  have z8 : (findN nam nf (16 * L + q)).isSome = false := h138 ▸ z4
                  have d4 : makeD (olab has lab S) L fo (findN nam nf (16 * L + q)).isSome (fulN lab quo spe nam gif siz giv nf S 1) nf = 4 := by by_cases o1 : lab S = L <;> (simp only [makeD, olab_t z6, z7, z8, z5, Bool.true_eq_false, Bool.false_eq_true, if_false, if_true]; first | rw [if_pos o1] | rw [if_neg o1]) <;> rw [if_pos z2]
                  refine g_iconst (v := nI 0) C dX2_make_194 (by decide +kernel) ?_
                  exact g_iret C rfl (Or.inr ⟨S, L, q, fo, rfl, hS, rfl, hL, rfl, hq, rfl, hfo, Or.inr (Or.inr (Or.inr (Or.inr (Or.inl (⟨d4, rfl, rfl⟩)))))⟩) (Nat.le_of_ble_eq_true rfl) (Nat.le_of_ble_eq_true rfl) dX2_make_195
              · skip
                refine g_iload C dX2_make_167 0 rfl ?_
                refine g_if_eq (tgt := 186) C dX2_make_169 (by decide) (fun c169 => ?_) (fun c169 => ?_)
                · skip
                  have c169 := cb_eq0 c169
                  refine g_iconst (v := nI 0) C dX2_make_186 (by decide +kernel) ?_
                  exact g_sub (lv' := [(0, .ref (a 0)), (1, .int (nI S)), (2, .int (nI L)), (3, .int (nI q)), (4, .int (fI fo)), (5, .int (bI v95)), (6, .int (bI v121)), (7, .int (bI v138)), (8, .int (bI v164))]) [1, 2, 3, 4, 5, 6, 7, 8, 0] rfl (J187 false (by simp [c169]))
                · skip
                  have c169 := cb_eq1 c169
                  refine g_aload_n C dX2_make_172 rfl 1 rfl ?_
                  refine g_get (ci := 3) (v := .int (nI nf)) C iwX2_make_X2 0 rfl rfl 10 (by decide) (C.hw (List.mem_cons_of_mem _ (List.mem_append_left _ (List.mem_append_left _ (List.mem_of_getElem? (i := 2) rfl))))) (fun _ h9 => h9) rfl dX2_make_173 ?_
                  refine g_sipush (v := nI 200) C dX2_make_176 (by decide +kernel) ?_
                  refine g_icmp_ne (tgt := 186) C dX2_make_179 (by decide) (fun c179 => ?_) (fun c179 => ?_)
                  · skip
                    have c179 := c_eq1 (by omega) (by omega) c179
                    refine g_iconst (v := nI 0) C dX2_make_186 (by decide +kernel) ?_
                    exact g_sub (lv' := [(0, .ref (a 0)), (1, .int (nI S)), (2, .int (nI L)), (3, .int (nI q)), (4, .int (fI fo)), (5, .int (bI v95)), (6, .int (bI v121)), (7, .int (bI v138)), (8, .int (bI v164))]) [1, 2, 3, 4, 5, 6, 7, 8, 0] rfl (J187 false (by simp [c169, c179]))
                  · skip
                    have c179 := c_eq0 (by omega) (by omega) c179
                    refine g_iconst (v := nI 1) C dX2_make_182 (by decide +kernel) ?_
                    refine g_goto (tgt := 187) C dX2_make_183 (by decide) ?_
                    exact g_sub (lv' := [(0, .ref (a 0)), (1, .int (nI S)), (2, .int (nI L)), (3, .int (nI q)), (4, .int (fI fo)), (5, .int (bI v95)), (6, .int (bI v121)), (7, .int (bI v138)), (8, .int (bI v164))]) [1, 2, 3, 4, 5, 6, 7, 8, 0] rfl (J187 true (by simp [c169, c179]))
            · skip
              refine g_iload C dX2_make_140 6 rfl ?_
              refine g_if_eq (tgt := 163) C dX2_make_142 (by decide) (fun c142 => ?_) (fun c142 => ?_)
              · skip
                have c142 := cb_eq0 c142
                refine g_iconst (v := nI 0) C dX2_make_163 (by decide +kernel) ?_
                exact g_sub (lv' := [(0, .ref (a 0)), (1, .int (nI S)), (2, .int (nI L)), (3, .int (nI q)), (4, .int (fI fo)), (5, .int (bI v95)), (6, .int (bI v121)), (7, .int (bI v138))]) [1, 2, 3, 4, 5, 6, 7, 0] rfl (J164 false (by simp [c142]))
              · skip
                have c142 := cb_eq1 c142
                refine g_iload C dX2_make_145 0 rfl ?_
                refine g_if_ne (tgt := 163) C dX2_make_147 (by decide) (fun c147 => ?_) (fun c147 => ?_)
                · skip
                  have c147 := cb_eq1 c147
                  refine g_iconst (v := nI 0) C dX2_make_163 (by decide +kernel) ?_
                  exact g_sub (lv' := [(0, .ref (a 0)), (1, .int (nI S)), (2, .int (nI L)), (3, .int (nI q)), (4, .int (fI fo)), (5, .int (bI v95)), (6, .int (bI v121)), (7, .int (bI v138))]) [1, 2, 3, 4, 5, 6, 7, 0] rfl (J164 false (by simp [c142, c147]))
                · skip
                  have c147 := cb_eq0 c147
                  refine g_aload_n C dX2_make_150 rfl 1 rfl ?_
                  refine g_iload_n C dX2_make_151 rfl 2 rfl ?_
                  refine g_iconst (v := nI 1) C dX2_make_152 (by decide +kernel) ?_
                  refine g_Vi (ci := 3) (st := []) C (k_X2_isFull l D cy zs a lab has quo spe nam gif fol siz cel giv nf lis lc see cnt 0 ⟨hnf, hlc, hlab, hquo, hspe, hnam, hsiz, hcnt, hlis⟩ S 1 (by omega) (by omega)) gX2_make_X2_isFull rfl ⟨rfl, ydX2_isFull⟩ 0 rfl rfl ⟨Nat.le_of_ble_eq_true rfl, Nat.le_of_ble_eq_true rfl⟩ ⟨Nat.le_of_ble_eq_true rfl, Nat.le_of_ble_eq_true rfl⟩ rfl (Nat.le_of_ble_eq_true rfl) dX2_make_153 (fun r153 w153 h153 => ?_)
                  obtain ⟨h153a, h153b⟩ := h153
                  subst h153a
                  subst h153b
                  refine g_if_ne (tgt := 163) C dX2_make_156 (by decide) (fun c156 => ?_) (fun c156 => ?_)
                  · skip
                    have c156 := cb_eq1 c156
                    refine g_iconst (v := nI 0) C dX2_make_163 (by decide +kernel) ?_
                    exact g_sub (lv' := [(0, .ref (a 0)), (1, .int (nI S)), (2, .int (nI L)), (3, .int (nI q)), (4, .int (fI fo)), (5, .int (bI v95)), (6, .int (bI v121)), (7, .int (bI v138))]) [1, 2, 3, 4, 5, 6, 7, 0] rfl (J164 false (by simp [c142, c147, c156]))
                  · skip
                    have c156 := cb_eq0 c156
                    refine g_iconst (v := nI 1) C dX2_make_159 (by decide +kernel) ?_
                    refine g_goto (tgt := 164) C dX2_make_160 (by decide) ?_
                    exact g_sub (lv' := [(0, .ref (a 0)), (1, .int (nI S)), (2, .int (nI L)), (3, .int (nI q)), (4, .int (fI fo)), (5, .int (bI v95)), (6, .int (bI v121)), (7, .int (bI v138))]) [1, 2, 3, 4, 5, 6, 7, 0] rfl (J164 true (by simp [c142, c147, c156]))
          · skip
            refine g_aload_n C dX2_make_123 rfl 1 rfl ?_
            refine g_iload_n C dX2_make_124 rfl 3 rfl ?_
            refine g_iload_n C dX2_make_125 rfl 4 rfl ?_
            refine g_Vi (ci := 3) (st := []) C (k_X2_find l D cy zs a lab has quo spe nam gif fol siz cel giv nf lis lc see cnt 0 ⟨hnf, hlc, hlab, hquo, hspe, hnam, hsiz, hcnt, hlis⟩ L q (by omega) (by omega)) gX2_make_X2_find rfl ⟨rfl, ydX2_find⟩ 0 rfl rfl ⟨Nat.le_of_ble_eq_true rfl, Nat.le_of_ble_eq_true rfl⟩ ⟨Nat.le_of_ble_eq_true rfl, Nat.le_of_ble_eq_true rfl⟩ rfl (Nat.le_of_ble_eq_true rfl) dX2_make_126 (fun r126 w126 h126 => ?_)
            obtain ⟨h126a, h126b⟩ := h126
            subst h126a
            subst h126b
            rcases e126 : findN nam nf (16 * L + q) with _ | f
            · skip
              refine g_iconst (v := (-1)) C dX2_make_129 (by decide +kernel) ?_
              refine g_icmp_eq (tgt := 137) C dX2_make_130 (by decide) (fun c130 => ?_) (fun c130 => ?_)
              · skip
                refine g_iconst (v := nI 0) C dX2_make_137 (by decide +kernel) ?_
                exact g_sub (lv' := [(0, .ref (a 0)), (1, .int (nI S)), (2, .int (nI L)), (3, .int (nI q)), (4, .int (fI fo)), (5, .int (bI v95)), (6, .int (bI v121))]) [1, 2, 3, 4, 5, 6, 0] rfl (J138 false (by simp [e126, c130]))
              · skip
                exact absurd rfl c130
            · skip
              have q126 := findN_spec e126
              refine g_iconst (v := (-1)) C dX2_make_129 (by decide +kernel) ?_
              refine g_icmp_eq (tgt := 137) C dX2_make_130 (by decide) (fun c130 => ?_) (fun c130 => ?_)
              · skip
                exact absurd c130 (nI_nem1 (by omega))
              · skip
                refine g_iconst (v := nI 1) C dX2_make_133 (by decide +kernel) ?_
                refine g_goto (tgt := 138) C dX2_make_134 (by decide) ?_
                exact g_sub (lv' := [(0, .ref (a 0)), (1, .int (nI S)), (2, .int (nI L)), (3, .int (nI q)), (4, .int (fI fo)), (5, .int (bI v95)), (6, .int (bI v121))]) [1, 2, 3, 4, 5, 6, 0] rfl (J138 true (by simp [e126, c130]))
        · skip
          refine g_aload_n C dX2_make_97 rfl 1 rfl ?_
          refine g_get (ci := 3) (v := .ref (a 2)) C iwX2_make_X2 0 rfl rfl 1 (by decide) (C.hw (List.mem_cons_of_mem _ (List.mem_append_left _ (List.mem_append_left _ (List.mem_of_getElem? (i := 0) rfl))))) (fun _ h9 => h9) rfl dX2_make_98 ?_
          refine g_iload_n C dX2_make_101 rfl 2 rfl ?_
          refine g_zaldB (nn := 16) (j := S) (f := has) C 2 rfl (by omega) n31_16 dX2_make_102 ?_
          refine g_if_eq (tgt := 120) C dX2_make_103 (by decide) (fun c103 => ?_) (fun c103 => ?_)
          · skip
            have c103 := cb_eq0 c103
            refine g_iconst (v := nI 0) C dX2_make_120 (by decide +kernel) ?_
            exact g_sub (lv' := [(0, .ref (a 0)), (1, .int (nI S)), (2, .int (nI L)), (3, .int (nI q)), (4, .int (fI fo)), (5, .int (bI v95))]) [1, 2, 3, 4, 5, 0] rfl (J121 false (by simp [c103]))
          · skip
            have c103 := cb_eq1 c103
            refine g_aload_n C dX2_make_106 rfl 1 rfl ?_
            refine g_get (ci := 3) (v := .ref (a 1)) C iwX2_make_X2 0 rfl rfl 0 (by decide) (C.hw (List.mem_cons_of_mem _ (List.mem_append_left _ (List.mem_append_left _ (List.mem_of_getElem? (i := 1) rfl))))) (fun _ h9 => h9) rfl dX2_make_107 ?_
            refine g_iload_n C dX2_make_110 rfl 2 rfl ?_
            refine g_ialdN (nn := 16) (j := S) (f := lab) C 1 rfl (by omega) n31_16 dX2_make_111 ?_
            have b111 := hlab S
            refine g_iload_n C dX2_make_112 rfl 3 rfl ?_
            refine g_icmp_ne (tgt := 120) C dX2_make_113 (by decide) (fun c113 => ?_) (fun c113 => ?_)
            · skip
              have c113 := c_eq1 (by omega) (by omega) c113
              refine g_iconst (v := nI 0) C dX2_make_120 (by decide +kernel) ?_
              exact g_sub (lv' := [(0, .ref (a 0)), (1, .int (nI S)), (2, .int (nI L)), (3, .int (nI q)), (4, .int (fI fo)), (5, .int (bI v95))]) [1, 2, 3, 4, 5, 0] rfl (J121 false (by simp [c103, c113]))
            · skip
              have c113 := c_eq0 (by omega) (by omega) c113
              refine g_iconst (v := nI 1) C dX2_make_116 (by decide +kernel) ?_
              refine g_goto (tgt := 121) C dX2_make_117 (by decide) ?_
              exact g_sub (lv' := [(0, .ref (a 0)), (1, .int (nI S)), (2, .int (nI L)), (3, .int (nI q)), (4, .int (fI fo)), (5, .int (bI v95))]) [1, 2, 3, 4, 5, 0] rfl (J121 true (by simp [c103, c113]))
      · skip
        refine g_aload_n C dX2_make_50 rfl 0 rfl ?_
        refine g_get (ci := 3) (v := .ref (a 2)) C iwX2_make_X2 0 rfl rfl 1 (by decide) (C.hw (List.mem_cons_of_mem _ (List.mem_append_left _ (List.mem_append_left _ (List.mem_of_getElem? (i := 0) rfl))))) (fun _ h9 => h9) rfl dX2_make_51 ?_
        refine g_iload_n C dX2_make_54 rfl 1 rfl ?_
        refine g_zaldB (nn := 16) (j := S) (f := has) C 2 rfl (by omega) n31_16 dX2_make_55 ?_
        refine g_if_eq (tgt := 94) C dX2_make_56 (by decide) (fun c56 => ?_) (fun c56 => ?_)
        · skip
          have c56 := cb_eq0 c56
          refine g_iconst (v := nI 0) C dX2_make_94 (by decide +kernel) ?_
          exact g_sub (lv' := [(0, .ref (a 0)), (1, .int (nI S)), (2, .int (nI L)), (3, .int (nI q)), (4, .int (fI fo))]) [0, 1, 2, 3, 4] rfl (J95 false (by simp [folOk, c56]))
        · skip
          have c56 := cb_eq1 c56
          refine g_aload_n C dX2_make_59 rfl 0 rfl ?_
          refine g_get (ci := 3) (v := .ref (a 1)) C iwX2_make_X2 0 rfl rfl 0 (by decide) (C.hw (List.mem_cons_of_mem _ (List.mem_append_left _ (List.mem_append_left _ (List.mem_of_getElem? (i := 1) rfl))))) (fun _ h9 => h9) rfl dX2_make_60 ?_
          refine g_iload_n C dX2_make_63 rfl 1 rfl ?_
          refine g_ialdN (nn := 16) (j := S) (f := lab) C 1 rfl (by omega) n31_16 dX2_make_64 ?_
          have b64 := hlab S
          refine g_iload_n C dX2_make_65 rfl 2 rfl ?_
          refine g_Si (st := []) C (k_X2_may l D cy zs (wM cy a lab has quo spe nam gif fol siz cel giv nf lis lc see cnt 0) (lab S) L (by omega) (by omega)) gX2_make_X2_may rfl ydX2_may ⟨Nat.le_of_ble_eq_true rfl, Nat.le_of_ble_eq_true rfl⟩ ⟨Nat.le_of_ble_eq_true rfl, Nat.le_of_ble_eq_true rfl⟩ rfl (Nat.le_of_ble_eq_true rfl) dX2_make_66 (fun r66 w66 h66 => ?_)
          obtain ⟨h66a, h66b⟩ := h66
          subst h66a
          subst h66b
          refine g_if_eq (tgt := 94) C dX2_make_69 (by decide) (fun c69 => ?_) (fun c69 => ?_)
          · skip
            have c69 := cb_eq0 c69
            refine g_iconst (v := nI 0) C dX2_make_94 (by decide +kernel) ?_
            exact g_sub (lv' := [(0, .ref (a 0)), (1, .int (nI S)), (2, .int (nI L)), (3, .int (nI q)), (4, .int (fI fo))]) [0, 1, 2, 3, 4] rfl (J95 false (by simp [folOk, c56, c69]))
          · skip
            have c69 := cb_eq1 c69
            rcases fo with _ | x
            · skip
              refine g_iload C dX2_make_72 4 rfl ?_
              refine g_iconst (v := (-1)) C dX2_make_74 (by decide +kernel) ?_
              refine g_icmp_eq (tgt := 90) C dX2_make_75 (by decide) (fun c75 => ?_) (fun c75 => ?_)
              · skip
                refine g_iconst (v := nI 1) C dX2_make_90 (by decide +kernel) ?_
                refine g_goto (tgt := 95) C dX2_make_91 (by decide) ?_
                exact g_sub (lv' := [(0, .ref (a 0)), (1, .int (nI S)), (2, .int (nI L)), (3, .int (nI q)), (4, .int (-1))]) [0, 1, 2, 3, 4] rfl (J95 true (by simp [folOk, c56, c69, c75]))
              · skip
                exact absurd rfl c75
            · have hx := hfo x rfl
              refine g_iload C dX2_make_72 4 rfl ?_
              refine g_iconst (v := (-1)) C dX2_make_74 (by decide +kernel) ?_
              refine g_icmp_eq (tgt := 90) C dX2_make_75 (by decide) (fun c75 => ?_) (fun c75 => ?_)
              · skip
                exact absurd c75 (nI_nem1 (by omega))
              · skip
                refine g_iload C dX2_make_78 4 rfl ?_
                refine g_bipush (v := nI 16) C dX2_make_80 (by decide +kernel) ?_
                refine g_idiv (v := nI (x / 16)) C dX2_make_82 (by decide +kernel) (pk_div (by omega) (by omega) (by omega)) ?_
                refine g_iload_n C dX2_make_83 rfl 2 rfl ?_
                refine g_Si (st := []) C (k_X2_may l D cy zs (wM cy a lab has quo spe nam gif fol siz cel giv nf lis lc see cnt 0) (x / 16) L (by omega) (by omega)) gX2_make_X2_may rfl ydX2_may ⟨Nat.le_of_ble_eq_true rfl, Nat.le_of_ble_eq_true rfl⟩ ⟨Nat.le_of_ble_eq_true rfl, Nat.le_of_ble_eq_true rfl⟩ rfl (Nat.le_of_ble_eq_true rfl) dX2_make_84 (fun r84 w84 h84 => ?_)
                obtain ⟨h84a, h84b⟩ := h84
                subst h84a
                subst h84b
                refine g_if_eq (tgt := 94) C dX2_make_87 (by decide) (fun c87 => ?_) (fun c87 => ?_)
                · skip
                  have c87 := cb_eq0 c87
                  refine g_iconst (v := nI 0) C dX2_make_94 (by decide +kernel) ?_
                  exact g_sub (lv' := [(0, .ref (a 0)), (1, .int (nI S)), (2, .int (nI L)), (3, .int (nI q)), (4, .int (nI x))]) [0, 1, 2, 3, 4] rfl (J95 false (by simp [folOk, c56, c69, c75, c87]))
                · skip
                  have c87 := cb_eq1 c87
                  refine g_iconst (v := nI 1) C dX2_make_90 (by decide +kernel) ?_
                  refine g_goto (tgt := 95) C dX2_make_91 (by decide) ?_
                  exact g_sub (lv' := [(0, .ref (a 0)), (1, .int (nI S)), (2, .int (nI L)), (3, .int (nI q)), (4, .int (nI x))]) [0, 1, 2, 3, 4] rfl (J95 true (by simp [folOk, c56, c69, c75, c87]))
    · skip
      have c45 := cb_eq1 c45
      subst c45
      refine g_iconst (v := nI 0) C dX2_make_48 (by decide +kernel) ?_
      exact g_iret C rfl (Or.inl ⟨h41.symm, rfl, rfl⟩) (Nat.le_of_ble_eq_true rfl) (Nat.le_of_ble_eq_true rfl) dX2_make_49
  · skip
    refine g_iload_n C dX2_make_1 rfl 1 rfl ?_
    refine g_Si (st := [.ref (a 0)]) C (k_X2_isSubject l D cy zs (wM cy a lab has quo spe nam gif fol siz cel giv nf lis lc see cnt thr) p0) gX2_make_X2_isSubject rfl ydX2_isSubject ⟨Nat.le_of_ble_eq_true rfl, Nat.le_of_ble_eq_true rfl⟩ ⟨Nat.le_of_ble_eq_true rfl, Nat.le_of_ble_eq_true rfl⟩ rfl (Nat.le_of_ble_eq_true rfl) dX2_make_2 (fun r2 w2 h2 => ?_)
    obtain ⟨h2a, h2b⟩ := h2
    subst h2a
    subst h2b
    refine g_if_eq (tgt := 36) C dX2_make_5 (by decide) (fun c5 => ?_) (fun c5 => ?_)
    · skip
      have c5 := cb_eq0 c5
      refine g_iconst (v := nI 1) C dX2_make_36 (by decide +kernel) ?_
      refine g_goto (tgt := 41) C dX2_make_37 (by decide) ?_
      exact g_sub (lv' := [(0, .ref (a 0)), (1, .int p0), (2, .int p1), (3, .int p2), (4, .int p3)]) [0, 1, 2, 3, 4] rfl (J41 true (by simp [c5]))
    · skip
      have c5 := cb_eq1 c5
      refine g_iload_n C dX2_make_8 rfl 2 rfl ?_
      refine g_Si (st := [.ref (a 0)]) C (k_X2_isLabel l D cy zs (wM cy a lab has quo spe nam gif fol siz cel giv nf lis lc see cnt thr) p1) gX2_make_X2_isLabel rfl ydX2_isLabel ⟨Nat.le_of_ble_eq_true rfl, Nat.le_of_ble_eq_true rfl⟩ ⟨Nat.le_of_ble_eq_true rfl, Nat.le_of_ble_eq_true rfl⟩ rfl (Nat.le_of_ble_eq_true rfl) dX2_make_9 (fun r9 w9 h9 => ?_)
      obtain ⟨h9a, h9b⟩ := h9
      subst h9a
      subst h9b
      refine g_if_eq (tgt := 36) C dX2_make_12 (by decide) (fun c12 => ?_) (fun c12 => ?_)
      · skip
        have c12 := cb_eq0 c12
        refine g_iconst (v := nI 1) C dX2_make_36 (by decide +kernel) ?_
        refine g_goto (tgt := 41) C dX2_make_37 (by decide) ?_
        exact g_sub (lv' := [(0, .ref (a 0)), (1, .int p0), (2, .int p1), (3, .int p2), (4, .int p3)]) [0, 1, 2, 3, 4] rfl (J41 true (by simp [c5, c12]))
      · skip
        have c12 := cb_eq1 c12
        refine g_iload_n C dX2_make_15 rfl 3 rfl ?_
        refine g_Si (st := [.ref (a 0)]) C (k_X2_isNumber l D cy zs (wM cy a lab has quo spe nam gif fol siz cel giv nf lis lc see cnt thr) p2) gX2_make_X2_isNumber rfl ydX2_isNumber ⟨Nat.le_of_ble_eq_true rfl, Nat.le_of_ble_eq_true rfl⟩ ⟨Nat.le_of_ble_eq_true rfl, Nat.le_of_ble_eq_true rfl⟩ rfl (Nat.le_of_ble_eq_true rfl) dX2_make_16 (fun r16 w16 h16 => ?_)
        obtain ⟨h16a, h16b⟩ := h16
        subst h16a
        subst h16b
        refine g_if_eq (tgt := 36) C dX2_make_19 (by decide) (fun c19 => ?_) (fun c19 => ?_)
        · skip
          have c19 := cb_eq0 c19
          refine g_iconst (v := nI 1) C dX2_make_36 (by decide +kernel) ?_
          refine g_goto (tgt := 41) C dX2_make_37 (by decide) ?_
          exact g_sub (lv' := [(0, .ref (a 0)), (1, .int p0), (2, .int p1), (3, .int p2), (4, .int p3)]) [0, 1, 2, 3, 4] rfl (J41 true (by simp [c5, c12, c19]))
        · skip
          have c19 := cb_eq1 c19
          refine g_iload C dX2_make_22 4 rfl ?_
          refine g_iconst (v := (-1)) C dX2_make_24 (by decide +kernel) ?_
          refine g_icmp_lt (tgt := 36) C dX2_make_25 (by decide) (fun c25 => ?_) (fun c25 => ?_)
          · skip
            refine g_iconst (v := nI 1) C dX2_make_36 (by decide +kernel) ?_
            refine g_goto (tgt := 41) C dX2_make_37 (by decide) ?_
            exact g_sub (lv' := [(0, .ref (a 0)), (1, .int p0), (2, .int p1), (3, .int p2), (4, .int p3)]) [0, 1, 2, 3, 4] rfl (J41 true (by simp [c5, c12, c19, c25]))
          · skip
            refine g_iload C dX2_make_28 4 rfl ?_
            refine g_sipush (v := nI 16384) C dX2_make_30 (by decide +kernel) ?_
            refine g_icmp_lt (tgt := 40) C dX2_make_33 (by decide) (fun c33 => ?_) (fun c33 => ?_)
            · skip
              refine g_iconst (v := nI 0) C dX2_make_40 (by decide +kernel) ?_
              exact g_sub (lv' := [(0, .ref (a 0)), (1, .int p0), (2, .int p1), (3, .int p2), (4, .int p3)]) [0, 1, 2, 3, 4] rfl (J41 false (by simp [c5, c12, c19, c25, c33]))
            · skip
              refine g_iconst (v := nI 1) C dX2_make_36 (by decide +kernel) ?_
              refine g_goto (tgt := 41) C dX2_make_37 (by decide) ?_
              exact g_sub (lv' := [(0, .ref (a 0)), (1, .int p0), (2, .int p1), (3, .int p2), (4, .int p3)]) [0, 1, 2, 3, 4] rfl (J41 true (by simp [c5, c12, c19, c25, c33]))
abbrev rmX2_listed : Room := { frames := 2, cells := 0, slots := 0, locals := 44 }
theorem ydX2_listed : yX2_listed.cls ≠ "java/lang/invoke/MethodHandle" ∧ yX2_listed.cls ≠ "java/lang/invoke/VarHandle" ∧ (parseMethodDescriptor yX2_listed.desc).map (fun d => d.parameters.length) = some 3 := by decide +kernel
theorem iwX2_listed_X2 : ∀ w ∈ u_ws RX2 TX2 16, w ∈ wsX2_listed := fun _ h => (List.mem_cons_of_mem _ (List.mem_append_right _ h))
set_option maxRecDepth 100000 in
set_option maxHeartbeats 4000000 in
theorem k_X2_listed (l : Launch) (D : va_G) (cy : Nat → ClassId) (zs : Nat → Nat) (a : Nat → Nat) (lab : Nat → Nat) (has : Nat → Bool) (quo : Nat → Nat) (spe : Nat → Nat) (nam : Nat → Nat) (gif : Nat → Bool) (fol : Nat → Int32) (siz : Nat → Nat) (cel : Nat → Int32) (giv : Nat → Bool) (nf : Nat) (lis : Nat → Nat) (lc : Nat) (see : Nat → Int32) (cnt : Nat → Nat) (thr : Nat) (hI : MI lab quo spe nam siz cnt lis nf lc) (p0 : Int32) (p1 : Int32) (p2 : Int32)  : Mi l D cy zs yX2_listed wsX2_listed rmX2_listed [.ref (a 0), .int p0, .int p1, .int p2] (wM cy a lab has quo spe nam gif fol siz cel giv nf lis lc see cnt thr) ((fun (r : Int32) (w : va_W) => ((!inB p0 16 || !inB p1 1024 || !inB p2 16) = true ∧ r = nI 0 ∧ w = wM cy a lab has quo spe nam gif fol siz cel giv nf lis lc see cnt 1) ∨ ∃ S L q, p0 = nI S ∧ S < 16 ∧ p1 = nI L ∧ L < 1024 ∧ p2 = nI q ∧ q < 16 ∧ ((lookD (olab has lab S) L = 0 ∧ r = -1 ∧ w = wM cy a lab has quo spe nam gif fol siz cel giv nf lis lc see (va_up cnt S 0) 0) ∨ (lookD (olab has lab S) L = 1 ∧ r = -2 ∧ w = wM cy a lab has quo spe nam gif fol siz cel giv nf lis lc see (va_up cnt S 0) 0) ∨ (lookD (olab has lab S) L = 2 ∧ ∃ (see1 : Nat → Int32) (n : Nat), lstI see1 see nam fol (200 * S) (16 * L + q) (lab S) n nf ∧ n ≤ 200 ∧ r = nI n ∧ w = wM cy a lab has quo spe nam gif fol siz cel giv nf lis lc see1 (va_up (va_up cnt S 0) S n) 0)))) := by
  refine Mi.of (lv := [(0, .ref (a 0)), (1, .int p0), (2, .int p1), (3, .int p2)]) RX2 ⟨by decide, rfl⟩ rfl (Nat.le_of_ble_eq_true rfl) rfl ?_
  intro p e s m args below meth c A C hnm
  obtain ⟨hnf, hlc, hlab, hquo, hspe, hnam, hsiz, hcnt, hlis⟩ := id hI
  refine g_aload_n C dX2_listed_0 rfl 0 rfl ?_
  refine g_join (fun v27 : Bool => v27 = (!inB p0 16 || !inB p1 1024 || !inB p2 16)) 27 (wM cy a lab has quo spe nam gif fol siz cel giv nf lis lc see cnt thr) [(0, .ref (a 0)), (1, .int p0), (2, .int p1), (3, .int p2)] (fun v27 => [.int (bI v27), .ref (a 0)]) (fun v27 h27 => ?_) (fun J27 => ?_)
  · skip
    refine g_iconst (v := nI 1) C dX2_listed_27 (by decide +kernel) ?_
    refine g_Vi (ci := 3) (st := []) C (k_X2_fails l D cy zs a lab has quo spe nam gif fol siz cel giv nf lis lc see cnt thr ⟨hnf, hlc, hlab, hquo, hspe, hnam, hsiz, hcnt, hlis⟩ v27 1) gX2_listed_X2_fails rfl ⟨rfl, ydX2_fails⟩ 0 rfl rfl ⟨Nat.le_of_ble_eq_true rfl, Nat.le_of_ble_eq_true rfl⟩ ⟨Nat.le_of_ble_eq_true rfl, Nat.le_of_ble_eq_true rfl⟩ rfl (Nat.le_of_ble_eq_true rfl) dX2_listed_28 (fun r28 w28 h28 => ?_)
    obtain ⟨h28a, h28b⟩ := h28
    subst h28a
    subst h28b
    refine g_if_eq (tgt := 36) C dX2_listed_31 (by decide) (fun c31 => ?_) (fun c31 => ?_)
    · skip
      have c31 := cb_eq0 c31
      subst c31
      obtain ⟨qp0, qp1, qp2⟩ : inB p0 16 = true ∧ inB p1 1024 = true ∧ inB p2 16 = true := by revert h27; cases inB p0 16 <;> cases inB p1 1024 <;> cases inB p2 16 <;> simp
      obtain ⟨S, hS, eS⟩ := inB_of (Nat.le_of_ble_eq_true rfl) qp0
      subst eS
      obtain ⟨L, hL, eL⟩ := inB_of (Nat.le_of_ble_eq_true rfl) qp1
      subst eL
      obtain ⟨q, hq, eq⟩ := inB_of (Nat.le_of_ble_eq_true rfl) qp2
      subst eq
      refine g_aload_n C dX2_listed_36 rfl 0 rfl ?_
      refine g_iload_n C dX2_listed_37 rfl 1 rfl ?_
      refine g_iload_n C dX2_listed_38 rfl 2 rfl ?_
      refine g_Vi (ci := 3) (st := []) C (k_X2_look l D cy zs a lab has quo spe nam gif fol siz cel giv nf lis lc see cnt 0 ⟨hnf, hlc, hlab, hquo, hspe, hnam, hsiz, hcnt, hlis⟩ S L (by omega) (by omega)) gX2_listed_X2_look rfl ⟨rfl, ydX2_look⟩ 0 rfl rfl ⟨Nat.le_of_ble_eq_true rfl, Nat.le_of_ble_eq_true rfl⟩ ⟨Nat.le_of_ble_eq_true rfl, Nat.le_of_ble_eq_true rfl⟩ rfl (Nat.le_of_ble_eq_true rfl) dX2_listed_39 (fun r39 w39 h39 => ?_)
      have hcnt39 : ∀ i, va_up cnt S 0 i ≤ 200 := va_up_le hcnt (Nat.zero_le _)
      obtain ⟨h39a, h39b⟩ := h39
      subst h39a
      subst h39b
      by_cases g1 : has S = true
      · by_cases g2 : mayN L (lab S) = true
        · rw [show lookV has lab S L = nI 0 from by unfold lookV; rw [if_pos g1, if_pos g2]]
          refine g_istore (lv' := [(4, .int (nI 0)), (0, .ref (a 0)), (1, .int (nI S)), (2, .int (nI L)), (3, .int (nI q))]) C dX2_listed_42 (by decide) rfl ?_
          refine g_iload C dX2_listed_44 0 rfl ?_
          refine g_if_ge (tgt := 52) C dX2_listed_46 (by decide) (fun c46 => ?_) (fun c46 => ?_)
          · skip
            have c46 := cz_ge0 (by omega) c46
            refine g_iconst (v := nI 0) C dX2_listed_52 (by decide +kernel) ?_
            refine g_istore (lv' := [(5, .int (nI 0)), (4, .int (nI 0)), (0, .ref (a 0)), (1, .int (nI S)), (2, .int (nI L)), (3, .int (nI q))]) C dX2_listed_53 (by decide) rfl ?_
            refine g_iconst (v := nI 0) C dX2_listed_55 (by decide +kernel) ?_
            refine g_istore (lv' := [(6, .int (nI 0)), (5, .int (nI 0)), (4, .int (nI 0)), (0, .ref (a 0)), (1, .int (nI S)), (2, .int (nI L)), (3, .int (nI q))]) C dX2_listed_56 (by decide) rfl ?_
            refine g_sub (lv' := [(0, .ref (a 0)), (1, .int (nI S)), (2, .int (nI L)), (3, .int (nI q)), (4, .int (nI 0)), (5, .int (nI 0)), (6, .int (nI 0))]) [3, 4, 5, 6, 2, 1, 0] rfl ?_
            refine g_loop3 (jp := 58) (fun (n : Nat) (k : Nat) (see1 : Nat → Int32) => (k ≤ nf) ∧ (n ≤ k) ∧ (lstI see1 see nam fol (200 * S) (16 * L + q) (lab S) n k)) (fun (n : Nat) (k : Nat) (see1 : Nat → Int32) => nf - k) (fun (n : Nat) (k : Nat) (see1 : Nat → Int32) => wM cy a lab has quo spe nam gif fol siz cel giv nf lis lc see1 (va_up cnt S 0) 0) (fun (n : Nat) (k : Nat) (see1 : Nat → Int32) => [(0, .ref (a 0)), (1, .int (nI S)), (2, .int (nI L)), (3, .int (nI q)), (4, .int (nI 0)), (5, .int (nI n)), (6, .int (nI k))]) (fun (n : Nat) (k : Nat) (see1 : Nat → Int32) => []) (fun n k see1 hI58 ih58 => ?_) 0 0 see (⟨Nat.zero_le _, Nat.le_refl _, lstI_0⟩)
            obtain ⟨hk, hnk, hls⟩ := hI58
            refine g_iload C dX2_listed_58 6 rfl ?_
            refine g_aload_n C dX2_listed_60 rfl 0 rfl ?_
            refine g_get (ci := 3) (v := .int (nI nf)) C iwX2_listed_X2 0 rfl rfl 10 (by decide) (C.hw (List.mem_cons_of_mem _ (List.mem_append_left _ (List.mem_append_left _ (List.mem_of_getElem? (i := 0) rfl))))) (fun _ h9 => h9) rfl dX2_listed_61 ?_
            refine g_icmp_ge (tgt := 205) C dX2_listed_64 (by decide) (fun c64 => ?_) (fun c64 => ?_)
            · skip
              have c64 := c_ge0 (by omega) (by omega) c64
              refine g_aload_n C dX2_listed_205 rfl 0 rfl ?_
              refine g_get (ci := 3) (v := .ref (a 13)) C iwX2_listed_X2 0 rfl rfl 14 (by decide) (C.hw (List.mem_cons_of_mem _ (List.mem_append_left _ (List.mem_append_left _ (List.mem_of_getElem? (i := 5) rfl))))) (fun _ h9 => h9) rfl dX2_listed_206 ?_
              refine g_iload_n C dX2_listed_209 rfl 1 rfl ?_
              refine g_iload C dX2_listed_210 5 rfl ?_
              refine g_iastN (nn := 16) (j := S) (v := n) (f := (va_up cnt S 0)) (ws' := wM cy a lab has quo spe nam gif fol siz cel giv nf lis lc see1 (va_up (va_up cnt S 0) S n) 0) C 13 rfl (by omega) n31_16 rfl dX2_listed_212 ?_
              have hcnt212 : ∀ i9, (va_up (va_up cnt S 0) S n) i9 ≤ 200 := va_up_le hcnt39 (by omega)
              refine g_iload C dX2_listed_213 5 rfl ?_
              exact g_iret C rfl (Or.inr ⟨S, L, q, rfl, hS, rfl, hL, rfl, hq, Or.inr (Or.inr (⟨(by simp only [lookD, olab_t g1, g2, Option.map_none, Option.map_some, Option.isSome_none, Option.isSome_some, Bool.false_eq_true, Bool.true_eq_false, eq_self, if_true, if_false]; repeat (first | rw [if_pos (by first | assumption | omega)] | rw [if_neg (by first | assumption | omega)])), see1, n, by rw [← show k = nf by omega]; exact hls, by omega, rfl, rfl⟩))⟩) (Nat.le_of_ble_eq_true rfl) (Nat.le_of_ble_eq_true rfl) dX2_listed_215
            · skip
              have c64 := c_ge1 (by omega) (by omega) c64
              refine g_aload_n C dX2_listed_67 rfl 0 rfl ?_
              refine g_get (ci := 3) (v := .ref (a 7)) C iwX2_listed_X2 0 rfl rfl 6 (by decide) (C.hw (List.mem_cons_of_mem _ (List.mem_append_left _ (List.mem_append_left _ (List.mem_of_getElem? (i := 1) rfl))))) (fun _ h9 => h9) rfl dX2_listed_68 ?_
              refine g_iload C dX2_listed_71 6 rfl ?_
              refine g_ialdR (nn := 200) (j := k) (f := fol) C 7 rfl (by omega) n31_200 dX2_listed_73 ?_
              refine g_bipush (v := nI 16) C dX2_listed_74 (by decide +kernel) ?_
              refine g_iload_n C dX2_listed_76 rfl 2 rfl ?_
              refine g_imul (v := nI (16 * L)) C dX2_listed_77 (pk_mul _ _) ?_
              refine g_iload_n C dX2_listed_78 rfl 3 rfl ?_
              refine g_iadd (v := nI ((16 * L) + q)) C dX2_listed_79 (nI_add _ _) ?_
              refine g_icmp_ne (tgt := 199) C dX2_listed_80 (by decide) (fun c80 => ?_) (fun c80 => ?_)
              · skip
                refine g_iinc (q := 6) (v := nI (k + 1)) (lv' := [(6, .int (nI (k + 1))), (0, .ref (a 0)), (1, .int (nI S)), (2, .int (nI L)), (3, .int (nI q)), (4, .int (nI 0)), (5, .int (nI n))]) C dX2_listed_199 rfl (nI_inc1 _) (by decide) rfl ?_
                refine g_goto (tgt := 58) C dX2_listed_202 (by decide) ?_
                exact g_sub (lv' := [(0, .ref (a 0)), (1, .int (nI S)), (2, .int (nI L)), (3, .int (nI q)), (4, .int (nI 0)), (5, .int (nI n)), (6, .int (nI (k + 1)))]) [1, 2, 3, 4, 5, 6, 0] rfl (ih58 n (k + 1) see1 (⟨by omega, by omega, lstI_f hls (Or.inl c80)⟩) (by omega))
              · skip
                refine g_aload_n C dX2_listed_83 rfl 0 rfl ?_
                refine g_get (ci := 3) (v := .ref (a 5)) C iwX2_listed_X2 0 rfl rfl 4 (by decide) (C.hw (List.mem_cons_of_mem _ (List.mem_append_left _ (List.mem_append_left _ (List.mem_of_getElem? (i := 2) rfl))))) (fun _ h9 => h9) rfl dX2_listed_84 ?_
                refine g_iload C dX2_listed_87 6 rfl ?_
                refine g_ialdN (nn := 200) (j := k) (f := nam) C 5 rfl (by omega) n31_200 dX2_listed_89 ?_
                have b89 := hnam k
                refine g_bipush (v := nI 16) C dX2_listed_90 (by decide +kernel) ?_
                refine g_idiv (v := nI ((nam k) / 16)) C dX2_listed_92 (by decide +kernel) (pk_div (by omega) (by omega) (by omega)) ?_
                refine g_aload_n C dX2_listed_93 rfl 0 rfl ?_
                refine g_get (ci := 3) (v := .ref (a 1)) C iwX2_listed_X2 0 rfl rfl 0 (by decide) (C.hw (List.mem_cons_of_mem _ (List.mem_append_left _ (List.mem_append_left _ (List.mem_of_getElem? (i := 3) rfl))))) (fun _ h9 => h9) rfl dX2_listed_94 ?_
                refine g_iload_n C dX2_listed_97 rfl 1 rfl ?_
                refine g_ialdN (nn := 16) (j := S) (f := lab) C 1 rfl (by omega) n31_16 dX2_listed_98 ?_
                have b98 := hlab S
                refine g_Si (st := []) C (k_X2_may l D cy zs (wM cy a lab has quo spe nam gif fol siz cel giv nf lis lc see1 (va_up cnt S 0) 0) ((nam k) / 16) (lab S) (by omega) (by omega)) gX2_listed_X2_may rfl ydX2_may ⟨Nat.le_of_ble_eq_true rfl, Nat.le_of_ble_eq_true rfl⟩ ⟨Nat.le_of_ble_eq_true rfl, Nat.le_of_ble_eq_true rfl⟩ rfl (Nat.le_of_ble_eq_true rfl) dX2_listed_99 (fun r99 w99 h99 => ?_)
                obtain ⟨h99a, h99b⟩ := h99
                subst h99a
                subst h99b
                refine g_if_ne (tgt := 108) C dX2_listed_102 (by decide) (fun c102 => ?_) (fun c102 => ?_)
                · skip
                  have c102 := cb_eq1 c102
                  obtain ⟨ls, hln, hsg, hsr, hp, hou0⟩ := id hls
                  have hl2 := filN_lt (n := n) hp c64 hnf
                  refine g_iload C dX2_listed_108 5 rfl ?_
                  refine g_istore (lv' := [(7, .int (nI n)), (0, .ref (a 0)), (1, .int (nI S)), (2, .int (nI L)), (3, .int (nI q)), (4, .int (nI 0)), (5, .int (nI n)), (6, .int (nI k))]) C dX2_listed_110 (by decide) rfl ?_
                  refine g_sub (lv' := [(0, .ref (a 0)), (1, .int (nI S)), (2, .int (nI L)), (3, .int (nI q)), (4, .int (nI 0)), (5, .int (nI n)), (6, .int (nI k)), (7, .int (nI n))]) [1, 2, 3, 4, 5, 6, 7, 0] rfl ?_
                  refine g_loop2 (jp := 112) (fun (at_ : Nat) (see2 : Nat → Int32) => (insI see2 (200 * S) (nam k) ls at_) ∧ (outS see2 see (200 * S))) (fun (at_ : Nat) (see2 : Nat → Int32) => at_) (fun (at_ : Nat) (see2 : Nat → Int32) => wM cy a lab has quo spe nam gif fol siz cel giv nf lis lc see2 (va_up cnt S 0) 0) (fun (at_ : Nat) (see2 : Nat → Int32) => [(0, .ref (a 0)), (1, .int (nI S)), (2, .int (nI L)), (3, .int (nI q)), (4, .int (nI 0)), (5, .int (nI n)), (6, .int (nI k)), (7, .int (nI at_))]) (fun (at_ : Nat) (see2 : Nat → Int32) => []) (fun at_ see2 hI112 ih112 => ?_) n see1 (⟨by rw [← hln]; exact insI_0 hsg, hou0⟩)
                  obtain ⟨hin, hou⟩ := hI112
                  have hin1 := hin.1
                  refine g_iload C dX2_listed_112 7 rfl ?_
                  refine g_if_le (tgt := 176) C dX2_listed_114 (by decide) (fun c114 => ?_) (fun c114 => ?_)
                  · skip
                    have c114 := cz_le0 (by omega) c114
                    refine g_aload_n C dX2_listed_176 rfl 0 rfl ?_
                    refine g_get (ci := 3) (v := .ref (a 12)) C iwX2_listed_X2 0 rfl rfl 13 (by decide) (C.hw (List.mem_cons_of_mem _ (List.mem_append_left _ (List.mem_append_left _ (List.mem_of_getElem? (i := 4) rfl))))) (fun _ h9 => h9) rfl dX2_listed_177 ?_
                    refine g_sipush (v := nI 200) C dX2_listed_180 (by decide +kernel) ?_
                    refine g_iload_n C dX2_listed_183 rfl 1 rfl ?_
                    refine g_imul (v := nI (200 * S)) C dX2_listed_184 (pk_mul _ _) ?_
                    refine g_iload C dX2_listed_185 7 rfl ?_
                    refine g_iadd (v := nI ((200 * S) + at_)) C dX2_listed_187 (nI_add _ _) ?_
                    refine g_aload_n C dX2_listed_188 rfl 0 rfl ?_
                    refine g_get (ci := 3) (v := .ref (a 5)) C iwX2_listed_X2 0 rfl rfl 4 (by decide) (C.hw (List.mem_cons_of_mem _ (List.mem_append_left _ (List.mem_append_left _ (List.mem_of_getElem? (i := 2) rfl))))) (fun _ h9 => h9) rfl dX2_listed_189 ?_
                    refine g_iload C dX2_listed_192 6 rfl ?_
                    refine g_ialdN (nn := 200) (j := k) (f := nam) C 5 rfl (by omega) n31_200 dX2_listed_194 ?_
                    have b194 := hnam k
                    refine g_iastR (nn := 3200) (j := ((200 * S) + at_)) (v := nI (nam k)) (f := see2) (ws' := wM cy a lab has quo spe nam gif fol siz cel giv nf lis lc (upd see2 ((200 * S) + at_) (nI (nam k))) (va_up cnt S 0) 0) C 12 rfl (by omega) n31_3200 rfl dX2_listed_195 ?_
                    refine g_iinc (q := 5) (v := nI (n + 1)) (lv' := [(5, .int (nI (n + 1))), (0, .ref (a 0)), (1, .int (nI S)), (2, .int (nI L)), (3, .int (nI q)), (4, .int (nI 0)), (6, .int (nI k)), (7, .int (nI at_))]) C dX2_listed_196 rfl (nI_inc1 _) (by decide) rfl ?_
                    refine g_iinc (q := 6) (v := nI (k + 1)) (lv' := [(6, .int (nI (k + 1))), (5, .int (nI (n + 1))), (0, .ref (a 0)), (1, .int (nI S)), (2, .int (nI L)), (3, .int (nI q)), (4, .int (nI 0)), (7, .int (nI at_))]) C dX2_listed_199 rfl (nI_inc1 _) (by decide) rfl ?_
                    refine g_goto (tgt := 58) C dX2_listed_202 (by decide) ?_
                    exact g_sub (lv' := [(0, .ref (a 0)), (1, .int (nI S)), (2, .int (nI L)), (3, .int (nI q)), (4, .int (nI 0)), (5, .int (nI (n + 1))), (6, .int (nI (k + 1)))]) [2, 3, 4, 5, 6, 1, 0] rfl (ih58 (n + 1) (k + 1) (upd see2 ((200 * S) + at_) (nI (nam k))) (⟨by omega, by omega, by rw [← hln]; exact lstI_t hin hsr (Or.inl (by omega)) hp hou c80 c102 hl2⟩) (by omega))
                  · skip
                    have c114 := cz_le1 (by omega) c114
                    refine g_aload_n C dX2_listed_117 rfl 0 rfl ?_
                    refine g_get (ci := 3) (v := .ref (a 12)) C iwX2_listed_X2 0 rfl rfl 13 (by decide) (C.hw (List.mem_cons_of_mem _ (List.mem_append_left _ (List.mem_append_left _ (List.mem_of_getElem? (i := 4) rfl))))) (fun _ h9 => h9) rfl dX2_listed_118 ?_
                    refine g_sipush (v := nI 200) C dX2_listed_121 (by decide +kernel) ?_
                    refine g_iload_n C dX2_listed_124 rfl 1 rfl ?_
                    refine g_imul (v := nI (200 * S)) C dX2_listed_125 (pk_mul _ _) ?_
                    refine g_iload C dX2_listed_126 7 rfl ?_
                    refine g_iadd (v := nI ((200 * S) + at_)) C dX2_listed_128 (nI_add _ _) ?_
                    refine g_iconst (v := nI 1) C dX2_listed_129 (by decide +kernel) ?_
                    refine g_isub (v := nI (((200 * S) + at_) - 1)) C dX2_listed_130 (pk_sub (by omega)) ?_
                    refine g_ialdR (nn := 3200) (j := (((200 * S) + at_) - 1)) (f := see2) C 12 rfl (by omega) n31_3200 dX2_listed_131 ?_
                    have bls := getD_le (fun x hx => filN_le hnam (hp.mem_iff.mp hx)) (by decide) (at_ - 1)
                    rw [show see2 (200 * S + at_ - 1) = nI (ls.getD (at_ - 1) 0) from by rw [show 200 * S + at_ - 1 = 200 * S + (at_ - 1) by omega]; exact hin.2.1 (at_ - 1) (by omega)]
                    refine g_aload_n C dX2_listed_132 rfl 0 rfl ?_
                    refine g_get (ci := 3) (v := .ref (a 5)) C iwX2_listed_X2 0 rfl rfl 4 (by decide) (C.hw (List.mem_cons_of_mem _ (List.mem_append_left _ (List.mem_append_left _ (List.mem_of_getElem? (i := 2) rfl))))) (fun _ h9 => h9) rfl dX2_listed_133 ?_
                    refine g_iload C dX2_listed_136 6 rfl ?_
                    refine g_ialdN (nn := 200) (j := k) (f := nam) C 5 rfl (by omega) n31_200 dX2_listed_138 ?_
                    have b138 := hnam k
                    refine g_icmp_le (tgt := 176) C dX2_listed_139 (by decide) (fun c139 => ?_) (fun c139 => ?_)
                    · skip
                      have c139 := c_le0 (by omega) (by omega) c139
                      refine g_aload_n C dX2_listed_176 rfl 0 rfl ?_
                      refine g_get (ci := 3) (v := .ref (a 12)) C iwX2_listed_X2 0 rfl rfl 13 (by decide) (C.hw (List.mem_cons_of_mem _ (List.mem_append_left _ (List.mem_append_left _ (List.mem_of_getElem? (i := 4) rfl))))) (fun _ h9 => h9) rfl dX2_listed_177 ?_
                      refine g_sipush (v := nI 200) C dX2_listed_180 (by decide +kernel) ?_
                      refine g_iload_n C dX2_listed_183 rfl 1 rfl ?_
                      refine g_imul (v := nI (200 * S)) C dX2_listed_184 (pk_mul _ _) ?_
                      refine g_iload C dX2_listed_185 7 rfl ?_
                      refine g_iadd (v := nI ((200 * S) + at_)) C dX2_listed_187 (nI_add _ _) ?_
                      refine g_aload_n C dX2_listed_188 rfl 0 rfl ?_
                      refine g_get (ci := 3) (v := .ref (a 5)) C iwX2_listed_X2 0 rfl rfl 4 (by decide) (C.hw (List.mem_cons_of_mem _ (List.mem_append_left _ (List.mem_append_left _ (List.mem_of_getElem? (i := 2) rfl))))) (fun _ h9 => h9) rfl dX2_listed_189 ?_
                      refine g_iload C dX2_listed_192 6 rfl ?_
                      refine g_ialdN (nn := 200) (j := k) (f := nam) C 5 rfl (by omega) n31_200 dX2_listed_194 ?_
                      have b194 := hnam k
                      refine g_iastR (nn := 3200) (j := ((200 * S) + at_)) (v := nI (nam k)) (f := see2) (ws' := wM cy a lab has quo spe nam gif fol siz cel giv nf lis lc (upd see2 ((200 * S) + at_) (nI (nam k))) (va_up cnt S 0) 0) C 12 rfl (by omega) n31_3200 rfl dX2_listed_195 ?_
                      refine g_iinc (q := 5) (v := nI (n + 1)) (lv' := [(5, .int (nI (n + 1))), (0, .ref (a 0)), (1, .int (nI S)), (2, .int (nI L)), (3, .int (nI q)), (4, .int (nI 0)), (6, .int (nI k)), (7, .int (nI at_))]) C dX2_listed_196 rfl (nI_inc1 _) (by decide) rfl ?_
                      refine g_iinc (q := 6) (v := nI (k + 1)) (lv' := [(6, .int (nI (k + 1))), (5, .int (nI (n + 1))), (0, .ref (a 0)), (1, .int (nI S)), (2, .int (nI L)), (3, .int (nI q)), (4, .int (nI 0)), (7, .int (nI at_))]) C dX2_listed_199 rfl (nI_inc1 _) (by decide) rfl ?_
                      refine g_goto (tgt := 58) C dX2_listed_202 (by decide) ?_
                      exact g_sub (lv' := [(0, .ref (a 0)), (1, .int (nI S)), (2, .int (nI L)), (3, .int (nI q)), (4, .int (nI 0)), (5, .int (nI (n + 1))), (6, .int (nI (k + 1)))]) [2, 3, 4, 5, 6, 1, 0] rfl (ih58 (n + 1) (k + 1) (upd see2 ((200 * S) + at_) (nI (nam k))) (⟨by omega, by omega, by rw [← hln]; exact lstI_t hin hsr (Or.inr c139) hp hou c80 c102 hl2⟩) (by omega))
                    · skip
                      have c139 := c_le1 (by omega) (by omega) c139
                      refine g_aload_n C dX2_listed_142 rfl 0 rfl ?_
                      refine g_get (ci := 3) (v := .ref (a 12)) C iwX2_listed_X2 0 rfl rfl 13 (by decide) (C.hw (List.mem_cons_of_mem _ (List.mem_append_left _ (List.mem_append_left _ (List.mem_of_getElem? (i := 4) rfl))))) (fun _ h9 => h9) rfl dX2_listed_143 ?_
                      refine g_sipush (v := nI 200) C dX2_listed_146 (by decide +kernel) ?_
                      refine g_iload_n C dX2_listed_149 rfl 1 rfl ?_
                      refine g_imul (v := nI (200 * S)) C dX2_listed_150 (pk_mul _ _) ?_
                      refine g_iload C dX2_listed_151 7 rfl ?_
                      refine g_iadd (v := nI ((200 * S) + at_)) C dX2_listed_153 (nI_add _ _) ?_
                      refine g_aload_n C dX2_listed_154 rfl 0 rfl ?_
                      refine g_get (ci := 3) (v := .ref (a 12)) C iwX2_listed_X2 0 rfl rfl 13 (by decide) (C.hw (List.mem_cons_of_mem _ (List.mem_append_left _ (List.mem_append_left _ (List.mem_of_getElem? (i := 4) rfl))))) (fun _ h9 => h9) rfl dX2_listed_155 ?_
                      refine g_sipush (v := nI 200) C dX2_listed_158 (by decide +kernel) ?_
                      refine g_iload_n C dX2_listed_161 rfl 1 rfl ?_
                      refine g_imul (v := nI (200 * S)) C dX2_listed_162 (pk_mul _ _) ?_
                      refine g_iload C dX2_listed_163 7 rfl ?_
                      refine g_iadd (v := nI ((200 * S) + at_)) C dX2_listed_165 (nI_add _ _) ?_
                      refine g_iconst (v := nI 1) C dX2_listed_166 (by decide +kernel) ?_
                      refine g_isub (v := nI (((200 * S) + at_) - 1)) C dX2_listed_167 (pk_sub (by omega)) ?_
                      refine g_ialdR (nn := 3200) (j := (((200 * S) + at_) - 1)) (f := see2) C 12 rfl (by omega) n31_3200 dX2_listed_168 ?_
                      refine g_iastR (nn := 3200) (j := ((200 * S) + at_)) (v := see2 (((200 * S) + at_) - 1)) (f := see2) (ws' := wM cy a lab has quo spe nam gif fol siz cel giv nf lis lc (upd see2 ((200 * S) + at_) (see2 (((200 * S) + at_) - 1))) (va_up cnt S 0) 0) C 12 rfl (by omega) n31_3200 rfl dX2_listed_169 ?_
                      refine g_iinc (q := 7) (v := nI (at_ - 1)) (lv' := [(7, .int (nI (at_ - 1))), (0, .ref (a 0)), (1, .int (nI S)), (2, .int (nI L)), (3, .int (nI q)), (4, .int (nI 0)), (5, .int (nI n)), (6, .int (nI k))]) C dX2_listed_170 rfl (nI_dec (by omega)) (by decide) rfl ?_
                      refine g_goto (tgt := 112) C dX2_listed_173 (by decide) ?_
                      exact g_sub (lv' := [(0, .ref (a 0)), (1, .int (nI S)), (2, .int (nI L)), (3, .int (nI q)), (4, .int (nI 0)), (5, .int (nI n)), (6, .int (nI k)), (7, .int (nI (at_ - 1)))]) [1, 2, 3, 4, 5, 6, 7, 0] rfl (ih112 (at_ - 1) (upd see2 ((200 * S) + at_) (see2 (((200 * S) + at_) - 1))) (⟨by first | exact insI_s hin c114 c139 | (have := insI_s hin c114 c139; rwa [show 200 * S + at_ - 1 = (200 * S + at_) - 1 by omega] at this), outS_upd hou (by omega) (by have := hin.1; omega)⟩) (by omega))
                · skip
                  have c102 := cb_eq0 c102
                  refine g_goto (tgt := 199) C dX2_listed_105 (by decide) ?_
                  refine g_iinc (q := 6) (v := nI (k + 1)) (lv' := [(6, .int (nI (k + 1))), (0, .ref (a 0)), (1, .int (nI S)), (2, .int (nI L)), (3, .int (nI q)), (4, .int (nI 0)), (5, .int (nI n))]) C dX2_listed_199 rfl (nI_inc1 _) (by decide) rfl ?_
                  refine g_goto (tgt := 58) C dX2_listed_202 (by decide) ?_
                  exact g_sub (lv' := [(0, .ref (a 0)), (1, .int (nI S)), (2, .int (nI L)), (3, .int (nI q)), (4, .int (nI 0)), (5, .int (nI n)), (6, .int (nI (k + 1)))]) [1, 2, 3, 4, 5, 6, 0] rfl (ih58 n (k + 1) see1 (⟨by omega, by omega, lstI_f hls (Or.inr c102)⟩) (by omega))
          · skip
            exact absurd c46 (by decide +kernel)
        · rw [show lookV has lab S L = -2 from by unfold lookV; rw [if_pos g1, if_neg g2]]
          rw [Bool.not_eq_true] at g2
          refine g_istore (lv' := [(4, .int (-2)), (0, .ref (a 0)), (1, .int (nI S)), (2, .int (nI L)), (3, .int (nI q))]) C dX2_listed_42 (by decide) rfl ?_
          refine g_iload C dX2_listed_44 0 rfl ?_
          refine g_if_ge (tgt := 52) C dX2_listed_46 (by decide) (fun c46 => ?_) (fun c46 => ?_)
          · skip
            exact absurd c46 (by decide +kernel)
          · skip
            refine g_iload C dX2_listed_49 0 rfl ?_
            exact g_iret C rfl (Or.inr ⟨S, L, q, rfl, hS, rfl, hL, rfl, hq, Or.inr (Or.inl (⟨(by simp only [lookD, olab_t g1, g2, Option.map_none, Option.map_some, Option.isSome_none, Option.isSome_some, Bool.false_eq_true, Bool.true_eq_false, eq_self, if_true, if_false]; repeat (first | rw [if_pos (by first | assumption | omega)] | rw [if_neg (by first | assumption | omega)])), rfl, rfl⟩))⟩) (Nat.le_of_ble_eq_true rfl) (Nat.le_of_ble_eq_true rfl) dX2_listed_51
      · rw [show lookV has lab S L = -1 from by unfold lookV; rw [if_neg g1]]
        rw [Bool.not_eq_true] at g1
        refine g_istore (lv' := [(4, .int (-1)), (0, .ref (a 0)), (1, .int (nI S)), (2, .int (nI L)), (3, .int (nI q))]) C dX2_listed_42 (by decide) rfl ?_
        refine g_iload C dX2_listed_44 0 rfl ?_
        refine g_if_ge (tgt := 52) C dX2_listed_46 (by decide) (fun c46 => ?_) (fun c46 => ?_)
        · skip
          exact absurd c46 (by decide +kernel)
        · skip
          refine g_iload C dX2_listed_49 0 rfl ?_
          exact g_iret C rfl (Or.inr ⟨S, L, q, rfl, hS, rfl, hL, rfl, hq, Or.inl (⟨(by simp only [lookD, olab_f g1, Option.map_none, Option.map_some, Option.isSome_none, Option.isSome_some, Bool.false_eq_true, Bool.true_eq_false, eq_self, if_true, if_false]; repeat (first | rw [if_pos (by first | assumption | omega)] | rw [if_neg (by first | assumption | omega)])), rfl, rfl⟩)⟩) (Nat.le_of_ble_eq_true rfl) (Nat.le_of_ble_eq_true rfl) dX2_listed_51
    · skip
      have c31 := cb_eq1 c31
      subst c31
      refine g_iconst (v := nI 0) C dX2_listed_34 (by decide +kernel) ?_
      exact g_iret C rfl (Or.inl ⟨h27.symm, rfl, rfl⟩) (Nat.le_of_ble_eq_true rfl) (Nat.le_of_ble_eq_true rfl) dX2_listed_35
  · skip
    refine g_iload_n C dX2_listed_1 rfl 1 rfl ?_
    refine g_Si (st := [.ref (a 0)]) C (k_X2_isSubject l D cy zs (wM cy a lab has quo spe nam gif fol siz cel giv nf lis lc see cnt thr) p0) gX2_listed_X2_isSubject rfl ydX2_isSubject ⟨Nat.le_of_ble_eq_true rfl, Nat.le_of_ble_eq_true rfl⟩ ⟨Nat.le_of_ble_eq_true rfl, Nat.le_of_ble_eq_true rfl⟩ rfl (Nat.le_of_ble_eq_true rfl) dX2_listed_2 (fun r2 w2 h2 => ?_)
    obtain ⟨h2a, h2b⟩ := h2
    subst h2a
    subst h2b
    refine g_if_eq (tgt := 22) C dX2_listed_5 (by decide) (fun c5 => ?_) (fun c5 => ?_)
    · skip
      have c5 := cb_eq0 c5
      refine g_iconst (v := nI 1) C dX2_listed_22 (by decide +kernel) ?_
      refine g_goto (tgt := 27) C dX2_listed_23 (by decide) ?_
      exact g_sub (lv' := [(0, .ref (a 0)), (1, .int p0), (2, .int p1), (3, .int p2)]) [0, 1, 2, 3] rfl (J27 true (by simp [c5]))
    · skip
      have c5 := cb_eq1 c5
      refine g_iload_n C dX2_listed_8 rfl 2 rfl ?_
      refine g_Si (st := [.ref (a 0)]) C (k_X2_isLabel l D cy zs (wM cy a lab has quo spe nam gif fol siz cel giv nf lis lc see cnt thr) p1) gX2_listed_X2_isLabel rfl ydX2_isLabel ⟨Nat.le_of_ble_eq_true rfl, Nat.le_of_ble_eq_true rfl⟩ ⟨Nat.le_of_ble_eq_true rfl, Nat.le_of_ble_eq_true rfl⟩ rfl (Nat.le_of_ble_eq_true rfl) dX2_listed_9 (fun r9 w9 h9 => ?_)
      obtain ⟨h9a, h9b⟩ := h9
      subst h9a
      subst h9b
      refine g_if_eq (tgt := 22) C dX2_listed_12 (by decide) (fun c12 => ?_) (fun c12 => ?_)
      · skip
        have c12 := cb_eq0 c12
        refine g_iconst (v := nI 1) C dX2_listed_22 (by decide +kernel) ?_
        refine g_goto (tgt := 27) C dX2_listed_23 (by decide) ?_
        exact g_sub (lv' := [(0, .ref (a 0)), (1, .int p0), (2, .int p1), (3, .int p2)]) [0, 1, 2, 3] rfl (J27 true (by simp [c5, c12]))
      · skip
        have c12 := cb_eq1 c12
        refine g_iload_n C dX2_listed_15 rfl 3 rfl ?_
        refine g_Si (st := [.ref (a 0)]) C (k_X2_isNumber l D cy zs (wM cy a lab has quo spe nam gif fol siz cel giv nf lis lc see cnt thr) p2) gX2_listed_X2_isNumber rfl ydX2_isNumber ⟨Nat.le_of_ble_eq_true rfl, Nat.le_of_ble_eq_true rfl⟩ ⟨Nat.le_of_ble_eq_true rfl, Nat.le_of_ble_eq_true rfl⟩ rfl (Nat.le_of_ble_eq_true rfl) dX2_listed_16 (fun r16 w16 h16 => ?_)
        obtain ⟨h16a, h16b⟩ := h16
        subst h16a
        subst h16b
        refine g_if_ne (tgt := 26) C dX2_listed_19 (by decide) (fun c19 => ?_) (fun c19 => ?_)
        · skip
          have c19 := cb_eq1 c19
          refine g_iconst (v := nI 0) C dX2_listed_26 (by decide +kernel) ?_
          exact g_sub (lv' := [(0, .ref (a 0)), (1, .int p0), (2, .int p1), (3, .int p2)]) [0, 1, 2, 3] rfl (J27 false (by simp [c5, c12, c19]))
        · skip
          have c19 := cb_eq0 c19
          refine g_iconst (v := nI 1) C dX2_listed_22 (by decide +kernel) ?_
          refine g_goto (tgt := 27) C dX2_listed_23 (by decide) ?_
          exact g_sub (lv' := [(0, .ref (a 0)), (1, .int p0), (2, .int p1), (3, .int p2)]) [0, 1, 2, 3] rfl (J27 true (by simp [c5, c12, c19]))
