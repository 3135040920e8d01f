theorem fulN_no {lab quo spe nam : Nat → Nat} {gif : Nat → Bool} {siz : Nat → Nat} {giv : Nat → Bool} {nf S m1 : Nat} (h : fulN lab quo spe nam gif siz giv nf S m1 = false) : usesN spe nam gif siz giv nf (lab S) + m1 ≤ quo (lab S) := Nat.not_lt.mp (of_decide_eq_false h)
theorem usesN_spe (spe nam : Nat → Nat) (gif : Nat → Bool) (siz : Nat → Nat) (giv : Nat → Bool) (nf L : Nat) : spe L ≤ usesN spe nam gif siz giv nf L := Nat.le_add_right _ _
def readD (fnd : Option Nat) (i : Nat) : Nat := match fnd with
  | none => 0
  | some z => if i < z then 1 else 0
def seenV (v : Int32) (n : Nat) (f : Nat → Int32) : Int32 := if v < 0 then 0 else if v.toNatClampNeg < n then f v.toNatClampNeg else 0
theorem seenV_f {v : Int32} {n : Nat} {f : Nat → Int32} (h : v < 0) : nI 0 = seenV v n f := by
  unfold seenV
  rw [if_pos h]
  rfl
theorem seenV_n {j n : Nat} {f : Nat → Int32} (hj : j < 2 ^ 31) (h : n ≤ j) : nI 0 = seenV (nI j) n f := by
  unfold seenV
  rw [if_neg (nI_pos hj), nI_clamp hj, if_neg (by omega)]
  rfl
theorem seenV_t {j n : Nat} {f : Nat → Int32} (hj : j < 2 ^ 31) (h : j < n) : f j = seenV (nI j) n f := by
  unfold seenV
  rw [if_neg (nI_pos hj), nI_clamp hj, if_pos h]
def cntF (nam : Nat → Nat) (L : Nat) : Nat → Nat
  | 0 => 0
  | k + 1 => cntF nam L k + (if nam k / 16 = L then 1 else 0)
def toldV (h u s q c : Nat) : Nat := if h = 0 then u else if h = 1 then s else if h = 2 then q else c
abbrev rmX2_set : Room := { frames := 3, cells := 0, slots := 0, locals := 68 }
theorem ydX2_set : yX2_set.cls ≠ "java/lang/invoke/MethodHandle" ∧ yX2_set.cls ≠ "java/lang/invoke/VarHandle" ∧ (parseMethodDescriptor yX2_set.desc).map (fun d => d.parameters.length) = some 4 := by decide +kernel
theorem iwX2_set_X2 : ∀ w ∈ u_ws RX2 TX2 16, w ∈ wsX2_set := fun _ h => (List.mem_cons_of_mem _ (List.mem_append_right _ h))
set_option maxRecDepth 100000 in
set_option maxHeartbeats 4000000 in
theorem k_X2_set (l : Launch) (D : va_G) (cy : Nat → ClassId) (zs : Nat → Nat) (a : Nat → Nat) (lab : Nat → Nat) (has : Nat → Bool) (quo : Nat → Nat) (spe : Nat → Nat) (nam : Nat → Nat) (gif : Nat → Bool) (fol : Nat → Int32) (siz : Nat → Nat) (cel : Nat → Int32) (giv : Nat → Bool) (nf : Nat) (lis : Nat → Nat) (lc : Nat) (see : Nat → Int32) (cnt : Nat → Nat) (thr : Nat) (hI : MI lab quo spe nam siz cnt lis nf lc) (p0 : Int32) (p1 : Int32) (p2 : Int32) (v : Int32)  : Mi l D cy zs yX2_set wsX2_set rmX2_set [.ref (a 0), .int p0, .int p1, .int p2, .int v] (wM cy a lab has quo spe nam gif fol siz cel giv nf lis lc see cnt thr) ((fun (r : Int32) (w : va_W) => ((!inB p0 16 || !inB p1 16 || !inB p2 24) = true ∧ r = nI 0 ∧ w = wM cy a lab has quo spe nam gif fol siz cel giv nf lis lc see cnt 1) ∨ ∃ S q i, p0 = nI S ∧ S < 16 ∧ p1 = nI q ∧ q < 16 ∧ p2 = nI i ∧ i < 24 ∧ ((setD (olab has lab S) ((findN nam nf (16 * lab S + q)).map siz) i (fulN lab quo spe nam gif siz giv nf S 1) = 0 ∧ r = -1 ∧ w = wM cy a lab has quo spe nam gif fol siz cel giv nf lis lc see (va_up cnt S 0) 0) ∨ (setD (olab has lab S) ((findN nam nf (16 * lab S + q)).map siz) i (fulN lab quo spe nam gif siz giv nf S 1) = 1 ∧ r = nI 0 ∧ w = wM cy a lab has quo spe nam gif fol siz cel giv nf lis lc see (va_up cnt S 0) 0) ∨ (∃ f, (findN nam nf (16 * lab S + q)) = some f ∧ setD (olab has lab S) ((findN nam nf (16 * lab S + q)).map siz) i (fulN lab quo spe nam gif siz giv nf S 1) = 2 ∧ r = nI 1 ∧ w = wM cy a lab has quo spe nam gif fol siz (upd cel (24 * f + i) v) giv nf lis lc see (va_up cnt S 0) 0) ∨ (setD (olab has lab S) ((findN nam nf (16 * lab S + q)).map siz) i (fulN lab quo spe nam gif siz giv nf S 1) = 3 ∧ r = -3 ∧ w = wM cy a lab has quo spe nam gif fol siz cel giv nf lis lc see (va_up cnt S 0) 0) ∨ (∃ f, (findN nam nf (16 * lab S + q)) = some f ∧ setD (olab has lab S) ((findN nam nf (16 * lab S + q)).map siz) i (fulN lab quo spe nam gif siz giv nf S 1) = 4 ∧ r = nI 1 ∧ w = wM cy a lab has quo spe nam gif fol (va_up siz f (siz f + 1)) (upd cel (24 * f + siz f) v) (va_up giv (24 * f + siz f) false) nf lis lc see (va_up cnt S 0) 0)))) := by
  refine Mi.of (lv := [(0, .ref (a 0)), (1, .int p0), (2, .int p1), (3, .int p2), (4, .int v)]) RX2 ⟨by decide, rfl⟩ rfl (Nat.le_of_ble_eq_true rfl) rfl ?_
  intro p e s m args below meth c A C hnm
  obtain ⟨hnf, hlc, hlab, hquo, hspe, hnam, hsiz, hcnt, hlis⟩ := id hI
  refine g_aload_n C dX2_set_0 rfl 0 rfl ?_
  refine g_join (fun v29 : Bool => v29 = (!inB p0 16 || !inB p1 16 || !inB p2 24)) 29 (wM cy a lab has quo spe nam gif fol siz cel giv nf lis lc see cnt thr) [(0, .ref (a 0)), (1, .int p0), (2, .int p1), (3, .int p2), (4, .int v)] (fun v29 => [.int (bI v29), .ref (a 0)]) (fun v29 h29 => ?_) (fun J29 => ?_)
  · skip
    refine g_iconst (v := nI 1) C dX2_set_29 (by decide +kernel) ?_
    refine g_Vi (ci := 3) (st := []) C (k_X2_fails l D cy zs a lab has quo spe nam gif fol siz cel giv nf lis lc see cnt thr ⟨hnf, hlc, hlab, hquo, hspe, hnam, hsiz, hcnt, hlis⟩ v29 1) gX2_set_X2_fails rfl ⟨rfl, ydX2_fails⟩ 0 rfl rfl ⟨Nat.le_of_ble_eq_true rfl, Nat.le_of_ble_eq_true rfl⟩ ⟨Nat.le_of_ble_eq_true rfl, Nat.le_of_ble_eq_true rfl⟩ rfl (Nat.le_of_ble_eq_true rfl) dX2_set_30 (fun r30 w30 h30 => ?_)
    obtain ⟨h30a, h30b⟩ := h30
    subst h30a
    subst h30b
    refine g_if_eq (tgt := 38) C dX2_set_33 (by decide) (fun c33 => ?_) (fun c33 => ?_)
    · skip
      have c33 := cb_eq0 c33
      subst c33
      obtain ⟨qp0, qp1, qp2⟩ : inB p0 16 = true ∧ inB p1 16 = true ∧ inB p2 24 = true := by revert h29; cases inB p0 16 <;> cases inB p1 16 <;> cases inB p2 24 <;> simp
      obtain ⟨S, hS, eS⟩ := inB_of (Nat.le_of_ble_eq_true rfl) qp0
      subst eS
      obtain ⟨q, hq, eq⟩ := inB_of (Nat.le_of_ble_eq_true rfl) qp1
      subst eq
      obtain ⟨i, hi, ei⟩ := inB_of (Nat.le_of_ble_eq_true rfl) qp2
      subst ei
      refine g_aload_n C dX2_set_38 rfl 0 rfl ?_
      refine g_iload_n C dX2_set_39 rfl 1 rfl ?_
      refine g_Vv (ci := 3) (st := []) C (k_X2_begin l D cy zs a lab has quo spe nam gif fol siz cel giv nf lis lc see cnt 0 ⟨hnf, hlc, hlab, hquo, hspe, hnam, hsiz, hcnt, hlis⟩ S (by omega)) gX2_set_X2_begin rfl ⟨rfl, ydX2_begin⟩ 0 rfl rfl ⟨Nat.le_of_ble_eq_true rfl, Nat.le_of_ble_eq_true rfl⟩ ⟨Nat.le_of_ble_eq_true rfl, Nat.le_of_ble_eq_true rfl⟩ rfl (Nat.le_of_ble_eq_true rfl) dX2_set_40 (fun w40 h40 => ?_)
      have hcnt40 : ∀ i, va_up cnt S 0 i ≤ 200 := va_up_le hcnt (Nat.zero_le _)
      subst h40
      refine g_aload_n C dX2_set_43 rfl 0 rfl ?_
      refine g_get (ci := 3) (v := .ref (a 2)) C iwX2_set_X2 0 rfl rfl 1 (by decide) (C.hw (List.mem_cons_of_mem _ (List.mem_append_left _ (List.mem_append_left _ (List.mem_of_getElem? (i := 0) rfl))))) (fun _ h9 => h9) rfl dX2_set_44 ?_
      refine g_iload_n C dX2_set_47 rfl 1 rfl ?_
      refine g_zaldB (nn := 16) (j := S) (f := has) C 2 rfl (by omega) n31_16 dX2_set_48 ?_
      refine g_if_ne (tgt := 54) C dX2_set_49 (by decide) (fun c49 => ?_) (fun c49 => ?_)
      · skip
        have c49 := cb_eq1 c49
        refine g_aload_n C dX2_set_54 rfl 0 rfl ?_
        refine g_aload_n C dX2_set_55 rfl 0 rfl ?_
        refine g_get (ci := 3) (v := .ref (a 1)) C iwX2_set_X2 0 rfl rfl 0 (by decide) (C.hw (List.mem_cons_of_mem _ (List.mem_append_left _ (List.mem_append_left _ (List.mem_of_getElem? (i := 1) rfl))))) (fun _ h9 => h9) rfl dX2_set_56 ?_
        refine g_iload_n C dX2_set_59 rfl 1 rfl ?_
        refine g_ialdN (nn := 16) (j := S) (f := lab) C 1 rfl (by omega) n31_16 dX2_set_60 ?_
        have b60 := hlab S
        refine g_iload_n C dX2_set_61 rfl 2 rfl ?_
        refine g_Vi (ci := 3) (st := []) C (k_X2_find l D cy zs a lab has quo spe nam gif fol siz cel giv nf lis lc see (va_up cnt S 0) 0 ⟨hnf, hlc, hlab, hquo, hspe, hnam, hsiz, hcnt40, hlis⟩ (lab S) q (by omega) (by omega)) gX2_set_X2_find rfl ⟨rfl, ydX2_find⟩ 0 rfl rfl ⟨Nat.le_of_ble_eq_true rfl, Nat.le_of_ble_eq_true rfl⟩ ⟨Nat.le_of_ble_eq_true rfl, Nat.le_of_ble_eq_true rfl⟩ rfl (Nat.le_of_ble_eq_true rfl) dX2_set_62 (fun r62 w62 h62 => ?_)
        obtain ⟨h62a, h62b⟩ := h62
        subst h62a
        subst h62b
        rcases e62 : findN nam nf (16 * (lab S) + q) with _ | f
        · skip
          refine g_istore (lv' := [(5, .int (-1)), (0, .ref (a 0)), (1, .int (nI S)), (2, .int (nI q)), (3, .int (nI i)), (4, .int v)]) C dX2_set_65 (by decide) rfl ?_
          refine g_iload C dX2_set_67 0 rfl ?_
          refine g_iconst (v := (-1)) C dX2_set_69 (by decide +kernel) ?_
          refine g_icmp_eq (tgt := 84) C dX2_set_70 (by decide) (fun c70 => ?_) (fun c70 => ?_)
          · skip
            refine g_iconst (v := nI 0) C dX2_set_84 (by decide +kernel) ?_
            exact g_iret C rfl (Or.inr ⟨S, q, i, rfl, hS, rfl, hq, rfl, hi, Or.inr (Or.inl (⟨(by simp only [setD, olab_t c49, e62, Option.map_none, Option.map_some, Option.isSome_none, Option.isSome_some, Bool.false_eq_true, Bool.true_eq_false, eq_self, if_true, if_false]; repeat (first | rw [if_pos (by first | assumption | omega)] | rw [if_neg (by first | assumption | omega)])), rfl, rfl⟩))⟩) (Nat.le_of_ble_eq_true rfl) (Nat.le_of_ble_eq_true rfl) dX2_set_85
          · skip
            exact absurd rfl c70
        · skip
          have q62 := findN_spec e62
          refine g_istore (lv' := [(5, .int (nI f)), (0, .ref (a 0)), (1, .int (nI S)), (2, .int (nI q)), (3, .int (nI i)), (4, .int v)]) C dX2_set_65 (by decide) rfl ?_
          refine g_iload C dX2_set_67 0 rfl ?_
          refine g_iconst (v := (-1)) C dX2_set_69 (by decide +kernel) ?_
          refine g_icmp_eq (tgt := 84) C dX2_set_70 (by decide) (fun c70 => ?_) (fun c70 => ?_)
          · skip
            exact absurd c70 (nI_nem1 (by omega))
          · skip
            refine g_iload_n C dX2_set_73 rfl 4 rfl ?_
            refine g_aload_n C dX2_set_74 rfl 1 rfl ?_
            refine g_get (ci := 3) (v := .ref (a 8)) C iwX2_set_X2 0 rfl rfl 7 (by decide) (C.hw (List.mem_cons_of_mem _ (List.mem_append_left _ (List.mem_append_left _ (List.mem_of_getElem? (i := 2) rfl))))) (fun _ h9 => h9) rfl dX2_set_75 ?_
            refine g_iload C dX2_set_78 0 rfl ?_
            refine g_ialdN (nn := 200) (j := f) (f := siz) C 8 rfl (by omega) n31_200 dX2_set_80 ?_
            have b80 := hsiz f
            refine g_icmp_le (tgt := 86) C dX2_set_81 (by decide) (fun c81 => ?_) (fun c81 => ?_)
            · skip
              have c81 := c_le0 (by omega) (by omega) c81
              refine g_iload_n C dX2_set_86 rfl 4 rfl ?_
              refine g_aload_n C dX2_set_87 rfl 1 rfl ?_
              refine g_get (ci := 3) (v := .ref (a 8)) C iwX2_set_X2 0 rfl rfl 7 (by decide) (C.hw (List.mem_cons_of_mem _ (List.mem_append_left _ (List.mem_append_left _ (List.mem_of_getElem? (i := 2) rfl))))) (fun _ h9 => h9) rfl dX2_set_88 ?_
              refine g_iload C dX2_set_91 0 rfl ?_
              refine g_ialdN (nn := 200) (j := f) (f := siz) C 8 rfl (by omega) n31_200 dX2_set_93 ?_
              have b93 := hsiz f
              refine g_icmp_ge (tgt := 113) C dX2_set_94 (by decide) (fun c94 => ?_) (fun c94 => ?_)
              · skip
                have c94 := c_ge0 (by omega) (by omega) c94
                refine g_aload_n C dX2_set_113 rfl 1 rfl ?_
                refine g_iload_n C dX2_set_114 rfl 2 rfl ?_
                refine g_iconst (v := nI 1) C dX2_set_115 (by decide +kernel) ?_
                refine g_Vi (ci := 3) (st := []) C (k_X2_isFull l D cy zs a lab has quo spe nam gif fol siz cel giv nf lis lc see (va_up cnt S 0) 0 ⟨hnf, hlc, hlab, hquo, hspe, hnam, hsiz, hcnt40, hlis⟩ S 1 (by omega) (by omega)) gX2_set_X2_isFull rfl ⟨rfl, ydX2_isFull⟩ 0 rfl rfl ⟨Nat.le_of_ble_eq_true rfl, Nat.le_of_ble_eq_true rfl⟩ ⟨Nat.le_of_ble_eq_true rfl, Nat.le_of_ble_eq_true rfl⟩ rfl (Nat.le_of_ble_eq_true rfl) dX2_set_116 (fun r116 w116 h116 => ?_)
                obtain ⟨h116a, h116b⟩ := h116
                subst h116a
                subst h116b
                refine g_if_eq (tgt := 125) C dX2_set_119 (by decide) (fun c119 => ?_) (fun c119 => ?_)
                · skip
                  have c119 := cb_eq0 c119
                  refine g_aload_n C dX2_set_125 rfl 1 rfl ?_
                  refine g_iload C dX2_set_126 0 rfl ?_
                  refine g_iload C dX2_set_128 5 rfl ?_
                  refine g_iconst (v := nI 0) C dX2_set_130 (by decide +kernel) ?_
                  refine g_Vv (ci := 3) (st := []) C (k_X2_append l D cy zs a lab has quo spe nam gif fol siz cel giv nf lis lc see (va_up cnt S 0) 0 ⟨hnf, hlc, hlab, hquo, hspe, hnam, hsiz, hcnt40, hlis⟩ f v false (by omega) (by omega)) gX2_set_X2_append rfl ⟨rfl, ydX2_append⟩ 0 rfl rfl ⟨Nat.le_of_ble_eq_true rfl, Nat.le_of_ble_eq_true rfl⟩ ⟨Nat.le_of_ble_eq_true rfl, Nat.le_of_ble_eq_true rfl⟩ rfl (Nat.le_of_ble_eq_true rfl) dX2_set_131 (fun w131 h131 => ?_)
                  have hsiz131 : ∀ i, va_up siz f (siz f + 1) i ≤ 24 := va_up_le hsiz (by omega)
                  subst h131
                  refine g_iconst (v := nI 1) C dX2_set_134 (by decide +kernel) ?_
                  exact g_iret C rfl (Or.inr ⟨S, q, i, rfl, hS, rfl, hq, rfl, hi, Or.inr (Or.inr (Or.inr (Or.inr (⟨f, e62, (by simp only [setD, olab_t c49, e62, c119, Option.map_none, Option.map_some, Option.isSome_none, Option.isSome_some, Bool.false_eq_true, Bool.true_eq_false, eq_self, if_true, if_false]; repeat (first | rw [if_pos (by first | assumption | omega)] | rw [if_neg (by first | assumption | omega)])), rfl, rfl⟩))))⟩) (Nat.le_of_ble_eq_true rfl) (Nat.le_of_ble_eq_true rfl) dX2_set_135
                · skip
                  have c119 := cb_eq1 c119
                  refine g_bipush (v := (-3)) C dX2_set_122 (by decide +kernel) ?_
                  exact g_iret C rfl (Or.inr ⟨S, q, i, rfl, hS, rfl, hq, rfl, hi, Or.inr (Or.inr (Or.inr (Or.inl (⟨(by simp only [setD, olab_t c49, e62, c119, Option.map_none, Option.map_some, Option.isSome_none, Option.isSome_some, Bool.false_eq_true, Bool.true_eq_false, eq_self, if_true, if_false]; repeat (first | rw [if_pos (by first | assumption | omega)] | rw [if_neg (by first | assumption | omega)])), rfl, rfl⟩))))⟩) (Nat.le_of_ble_eq_true rfl) (Nat.le_of_ble_eq_true rfl) dX2_set_124
              · skip
                have c94 := c_ge1 (by omega) (by omega) c94
                refine g_aload_n C dX2_set_97 rfl 1 rfl ?_
                refine g_get (ci := 3) (v := .ref (a 9)) C iwX2_set_X2 0 rfl rfl 8 (by decide) (C.hw (List.mem_cons_of_mem _ (List.mem_append_left _ (List.mem_append_left _ (List.mem_of_getElem? (i := 3) rfl))))) (fun _ h9 => h9) rfl dX2_set_98 ?_
                refine g_bipush (v := nI 24) C dX2_set_101 (by decide +kernel) ?_
                refine g_iload C dX2_set_103 0 rfl ?_
                refine g_imul (v := nI (24 * f)) C dX2_set_105 (pk_mul _ _) ?_
                refine g_iload_n C dX2_set_106 rfl 4 rfl ?_
                refine g_iadd (v := nI ((24 * f) + i)) C dX2_set_107 (nI_add _ _) ?_
                refine g_iload C dX2_set_108 5 rfl ?_
                refine g_iastR (nn := 4800) (j := ((24 * f) + i)) (v := v) (f := cel) (ws' := wM cy a lab has quo spe nam gif fol siz (upd cel ((24 * f) + i) v) giv nf lis lc see (va_up cnt S 0) 0) C 9 rfl (by omega) n31_4800 rfl dX2_set_110 ?_
                refine g_iconst (v := nI 1) C dX2_set_111 (by decide +kernel) ?_
                exact g_iret C rfl (Or.inr ⟨S, q, i, rfl, hS, rfl, hq, rfl, hi, Or.inr (Or.inr (Or.inl (⟨f, e62, (by simp only [setD, olab_t c49, e62, Option.map_none, Option.map_some, Option.isSome_none, Option.isSome_some, Bool.false_eq_true, Bool.true_eq_false, eq_self, if_true, if_false]; repeat (first | rw [if_pos (by first | assumption | omega)] | rw [if_neg (by first | assumption | omega)])), rfl, rfl⟩)))⟩) (Nat.le_of_ble_eq_true rfl) (Nat.le_of_ble_eq_true rfl) dX2_set_112
            · skip
              have c81 := c_le1 (by omega) (by omega) c81
              refine g_iconst (v := nI 0) C dX2_set_84 (by decide +kernel) ?_
              exact g_iret C rfl (Or.inr ⟨S, q, i, rfl, hS, rfl, hq, rfl, hi, Or.inr (Or.inl (⟨(by simp only [setD, olab_t c49, e62, Option.map_none, Option.map_some, Option.isSome_none, Option.isSome_some, Bool.false_eq_true, Bool.true_eq_false, eq_self, if_true, if_false]; repeat (first | rw [if_pos (by first | assumption | omega)] | rw [if_neg (by first | assumption | omega)])), rfl, rfl⟩))⟩) (Nat.le_of_ble_eq_true rfl) (Nat.le_of_ble_eq_true rfl) dX2_set_85
      · skip
        have c49 := cb_eq0 c49
        refine g_iconst (v := (-1)) C dX2_set_52 (by decide +kernel) ?_
        exact g_iret C rfl (Or.inr ⟨S, q, i, rfl, hS, rfl, hq, rfl, hi, Or.inl (⟨(by simp only [setD, olab_f c49, Option.map_none, Option.map_some, Option.isSome_none, Option.isSome_some, Bool.false_eq_true, Bool.true_eq_false, eq_self, if_true, if_false]; repeat (first | rw [if_pos (by first | assumption | omega)] | rw [if_neg (by first | assumption | omega)])), rfl, rfl⟩)⟩) (Nat.le_of_ble_eq_true rfl) (Nat.le_of_ble_eq_true rfl) dX2_set_53
    · skip
      have c33 := cb_eq1 c33
      subst c33
      refine g_iconst (v := nI 0) C dX2_set_36 (by decide +kernel) ?_
      exact g_iret C rfl (Or.inl ⟨h29.symm, rfl, rfl⟩) (Nat.le_of_ble_eq_true rfl) (Nat.le_of_ble_eq_true rfl) dX2_set_37
  · skip
    refine g_iload_n C dX2_set_1 rfl 1 rfl ?_
    refine g_Si (st := [.ref (a 0)]) C (k_X2_isSubject l D cy zs (wM cy a lab has quo spe nam gif fol siz cel giv nf lis lc see cnt thr) p0) gX2_set_X2_isSubject rfl ydX2_isSubject ⟨Nat.le_of_ble_eq_true rfl, Nat.le_of_ble_eq_true rfl⟩ ⟨Nat.le_of_ble_eq_true rfl, Nat.le_of_ble_eq_true rfl⟩ rfl (Nat.le_of_ble_eq_true rfl) dX2_set_2 (fun r2 w2 h2 => ?_)
    obtain ⟨h2a, h2b⟩ := h2
    subst h2a
    subst h2b
    refine g_if_eq (tgt := 24) C dX2_set_5 (by decide) (fun c5 => ?_) (fun c5 => ?_)
    · skip
      have c5 := cb_eq0 c5
      refine g_iconst (v := nI 1) C dX2_set_24 (by decide +kernel) ?_
      refine g_goto (tgt := 29) C dX2_set_25 (by decide) ?_
      exact g_sub (lv' := [(0, .ref (a 0)), (1, .int p0), (2, .int p1), (3, .int p2), (4, .int v)]) [0, 1, 2, 3, 4] rfl (J29 true (by simp [c5]))
    · skip
      have c5 := cb_eq1 c5
      refine g_iload_n C dX2_set_8 rfl 2 rfl ?_
      refine g_Si (st := [.ref (a 0)]) C (k_X2_isNumber l D cy zs (wM cy a lab has quo spe nam gif fol siz cel giv nf lis lc see cnt thr) p1) gX2_set_X2_isNumber rfl ydX2_isNumber ⟨Nat.le_of_ble_eq_true rfl, Nat.le_of_ble_eq_true rfl⟩ ⟨Nat.le_of_ble_eq_true rfl, Nat.le_of_ble_eq_true rfl⟩ rfl (Nat.le_of_ble_eq_true rfl) dX2_set_9 (fun r9 w9 h9 => ?_)
      obtain ⟨h9a, h9b⟩ := h9
      subst h9a
      subst h9b
      refine g_if_eq (tgt := 24) C dX2_set_12 (by decide) (fun c12 => ?_) (fun c12 => ?_)
      · skip
        have c12 := cb_eq0 c12
        refine g_iconst (v := nI 1) C dX2_set_24 (by decide +kernel) ?_
        refine g_goto (tgt := 29) C dX2_set_25 (by decide) ?_
        exact g_sub (lv' := [(0, .ref (a 0)), (1, .int p0), (2, .int p1), (3, .int p2), (4, .int v)]) [0, 1, 2, 3, 4] rfl (J29 true (by simp [c5, c12]))
      · skip
        have c12 := cb_eq1 c12
        refine g_iload_n C dX2_set_15 rfl 3 rfl ?_
        refine g_bipush (v := nI 24) C dX2_set_16 (by decide +kernel) ?_
        refine g_Si (st := [.ref (a 0)]) C (k_X2_within l D cy zs (wM cy a lab has quo spe nam gif fol siz cel giv nf lis lc see cnt thr) p2 24) gX2_set_X2_within rfl ydX2_within ⟨Nat.le_of_ble_eq_true rfl, Nat.le_of_ble_eq_true rfl⟩ ⟨Nat.le_of_ble_eq_true rfl, Nat.le_of_ble_eq_true rfl⟩ rfl (Nat.le_of_ble_eq_true rfl) dX2_set_18 (fun r18 w18 h18 => ?_)
        obtain ⟨h18a, h18b⟩ := h18
        subst h18a
        subst h18b
        refine g_if_ne (tgt := 28) C dX2_set_21 (by decide) (fun c21 => ?_) (fun c21 => ?_)
        · skip
          have c21 := cb_eq1 c21
          refine g_iconst (v := nI 0) C dX2_set_28 (by decide +kernel) ?_
          exact g_sub (lv' := [(0, .ref (a 0)), (1, .int p0), (2, .int p1), (3, .int p2), (4, .int v)]) [0, 1, 2, 3, 4] rfl (J29 false (by simp [c5, c12, c21]))
        · skip
          have c21 := cb_eq0 c21
          refine g_iconst (v := nI 1) C dX2_set_24 (by decide +kernel) ?_
          refine g_goto (tgt := 29) C dX2_set_25 (by decide) ?_
          exact g_sub (lv' := [(0, .ref (a 0)), (1, .int p0), (2, .int p1), (3, .int p2), (4, .int v)]) [0, 1, 2, 3, 4] rfl (J29 true (by simp [c5, c12, c21]))
abbrev rmX2_give : Room := { frames := 3, cells := 0, slots := 0, locals := 68 }
theorem ydX2_give : yX2_give.cls ≠ "java/lang/invoke/MethodHandle" ∧ yX2_give.cls ≠ "java/lang/invoke/VarHandle" ∧ (parseMethodDescriptor yX2_give.desc).map (fun d => d.parameters.length) = some 4 := by decide +kernel
theorem iwX2_give_X2 : ∀ w ∈ u_ws RX2 TX2 16, w ∈ wsX2_give := fun _ h => (List.mem_cons_of_mem _ (List.mem_append_right _ h))
set_option maxRecDepth 100000 in
set_option maxHeartbeats 4000000 in
theorem k_X2_give (l : Launch) (D : va_G) (cy : Nat → ClassId) (zs : Nat → Nat) (a : Nat → Nat) (lab : Nat → Nat) (has : Nat → Bool) (quo : Nat → Nat) (spe : Nat → Nat) (nam : Nat → Nat) (gif : Nat → Bool) (fol : Nat → Int32) (siz : Nat → Nat) (cel : Nat → Int32) (giv : Nat → Bool) (nf : Nat) (lis : Nat → Nat) (lc : Nat) (see : Nat → Int32) (cnt : Nat → Nat) (thr : Nat) (hI : MI lab quo spe nam siz cnt lis nf lc) (p0 : Int32) (p1 : Int32) (p2 : Int32) (v : Int32)  : Mi l D cy zs yX2_give wsX2_give rmX2_give [.ref (a 0), .int p0, .int p1, .int p2, .int v] (wM cy a lab has quo spe nam gif fol siz cel giv nf lis lc see cnt thr) ((fun (r : Int32) (w : va_W) => ((!inB p0 16 || !inB p1 1024 || !inB p2 16) = true ∧ r = nI 0 ∧ w = wM cy a lab has quo spe nam gif fol siz cel giv nf lis lc see cnt 1) ∨ ∃ S L q, p0 = nI S ∧ S < 16 ∧ p1 = nI L ∧ L < 1024 ∧ p2 = nI q ∧ q < 16 ∧ ((giveD (olab has lab S) L ((findN nam nf (16 * L + q)).map siz) (fulN lab quo spe nam gif siz giv nf S 1) = 0 ∧ r = -1 ∧ w = wM cy a lab has quo spe nam gif fol siz cel giv nf lis lc see (va_up cnt S 0) 0) ∨ (giveD (olab has lab S) L ((findN nam nf (16 * L + q)).map siz) (fulN lab quo spe nam gif siz giv nf S 1) = 1 ∧ r = -2 ∧ w = wM cy a lab has quo spe nam gif fol siz cel giv nf lis lc see (va_up cnt S 0) 0) ∨ (giveD (olab has lab S) L ((findN nam nf (16 * L + q)).map siz) (fulN lab quo spe nam gif siz giv nf S 1) = 2 ∧ r = -3 ∧ w = wM cy a lab has quo spe nam gif fol siz cel giv nf lis lc see (va_up cnt S 0) 0) ∨ (giveD (olab has lab S) L ((findN nam nf (16 * L + q)).map siz) (fulN lab quo spe nam gif siz giv nf S 1) = 3 ∧ r = nI 2 ∧ w = wM cy a lab has quo (va_up spe (lab S) (spe (lab S) + 1)) nam gif fol siz cel giv nf lis lc see (va_up cnt S 0) 0) ∨ (∃ f, (findN nam nf (16 * L + q)) = some f ∧ giveD (olab has lab S) L ((findN nam nf (16 * L + q)).map siz) (fulN lab quo spe nam gif siz giv nf S 1) = 4 ∧ r = nI 2 ∧ w = wM cy a lab has quo (va_up spe (lab S) (spe (lab S) + 1)) nam gif fol (va_up siz f (siz f + 1)) (upd cel (24 * f + siz f) v) (va_up giv (24 * f + siz f) true) nf lis lc see (va_up cnt S 0) 0)))) := by
  refine Mi.of (lv := [(0, .ref (a 0)), (1, .int p0), (2, .int p1), (3, .int p2), (4, .int v)]) RX2 ⟨by decide, rfl⟩ rfl (Nat.le_of_ble_eq_true rfl) rfl ?_
  intro p e s m args below meth c A C hnm
  obtain ⟨hnf, hlc, hlab, hquo, hspe, hnam, hsiz, hcnt, hlis⟩ := id hI
  refine g_aload_n C dX2_give_0 rfl 0 rfl ?_
  refine g_join (fun v27 : Bool => v27 = (!inB p0 16 || !inB p1 1024 || !inB p2 16)) 27 (wM cy a lab has quo spe nam gif fol siz cel giv nf lis lc see cnt thr) [(0, .ref (a 0)), (1, .int p0), (2, .int p1), (3, .int p2), (4, .int v)] (fun v27 => [.int (bI v27), .ref (a 0)]) (fun v27 h27 => ?_) (fun J27 => ?_)
  · skip
    refine g_iconst (v := nI 1) C dX2_give_27 (by decide +kernel) ?_
    refine g_Vi (ci := 3) (st := []) C (k_X2_fails l D cy zs a lab has quo spe nam gif fol siz cel giv nf lis lc see cnt thr ⟨hnf, hlc, hlab, hquo, hspe, hnam, hsiz, hcnt, hlis⟩ v27 1) gX2_give_X2_fails rfl ⟨rfl, ydX2_fails⟩ 0 rfl rfl ⟨Nat.le_of_ble_eq_true rfl, Nat.le_of_ble_eq_true rfl⟩ ⟨Nat.le_of_ble_eq_true rfl, Nat.le_of_ble_eq_true rfl⟩ rfl (Nat.le_of_ble_eq_true rfl) dX2_give_28 (fun r28 w28 h28 => ?_)
    obtain ⟨h28a, h28b⟩ := h28
    subst h28a
    subst h28b
    refine g_if_eq (tgt := 36) C dX2_give_31 (by decide) (fun c31 => ?_) (fun c31 => ?_)
    · skip
      have c31 := cb_eq0 c31
      subst c31
      obtain ⟨qp0, qp1, qp2⟩ : inB p0 16 = true ∧ inB p1 1024 = true ∧ inB p2 16 = true := by revert h27; cases inB p0 16 <;> cases inB p1 1024 <;> cases inB p2 16 <;> simp
      obtain ⟨S, hS, eS⟩ := inB_of (Nat.le_of_ble_eq_true rfl) qp0
      subst eS
      obtain ⟨L, hL, eL⟩ := inB_of (Nat.le_of_ble_eq_true rfl) qp1
      subst eL
      obtain ⟨q, hq, eq⟩ := inB_of (Nat.le_of_ble_eq_true rfl) qp2
      subst eq
      refine g_aload_n C dX2_give_36 rfl 0 rfl ?_
      refine g_iload_n C dX2_give_37 rfl 1 rfl ?_
      refine g_Vv (ci := 3) (st := []) C (k_X2_begin l D cy zs a lab has quo spe nam gif fol siz cel giv nf lis lc see cnt 0 ⟨hnf, hlc, hlab, hquo, hspe, hnam, hsiz, hcnt, hlis⟩ S (by omega)) gX2_give_X2_begin rfl ⟨rfl, ydX2_begin⟩ 0 rfl rfl ⟨Nat.le_of_ble_eq_true rfl, Nat.le_of_ble_eq_true rfl⟩ ⟨Nat.le_of_ble_eq_true rfl, Nat.le_of_ble_eq_true rfl⟩ rfl (Nat.le_of_ble_eq_true rfl) dX2_give_38 (fun w38 h38 => ?_)
      have hcnt38 : ∀ i, va_up cnt S 0 i ≤ 200 := va_up_le hcnt (Nat.zero_le _)
      subst h38
      refine g_aload_n C dX2_give_41 rfl 0 rfl ?_
      refine g_get (ci := 3) (v := .ref (a 2)) C iwX2_give_X2 0 rfl rfl 1 (by decide) (C.hw (List.mem_cons_of_mem _ (List.mem_append_left _ (List.mem_append_left _ (List.mem_of_getElem? (i := 0) rfl))))) (fun _ h9 => h9) rfl dX2_give_42 ?_
      refine g_iload_n C dX2_give_45 rfl 1 rfl ?_
      refine g_zaldB (nn := 16) (j := S) (f := has) C 2 rfl (by omega) n31_16 dX2_give_46 ?_
      refine g_if_ne (tgt := 52) C dX2_give_47 (by decide) (fun c47 => ?_) (fun c47 => ?_)
      · skip
        have c47 := cb_eq1 c47
        refine g_iload_n C dX2_give_52 rfl 2 rfl ?_
        refine g_aload_n C dX2_give_53 rfl 0 rfl ?_
        refine g_get (ci := 3) (v := .ref (a 1)) C iwX2_give_X2 0 rfl rfl 0 (by decide) (C.hw (List.mem_cons_of_mem _ (List.mem_append_left _ (List.mem_append_left _ (List.mem_of_getElem? (i := 1) rfl))))) (fun _ h9 => h9) rfl dX2_give_54 ?_
        refine g_iload_n C dX2_give_57 rfl 1 rfl ?_
        refine g_ialdN (nn := 16) (j := S) (f := lab) C 1 rfl (by omega) n31_16 dX2_give_58 ?_
        have b58 := hlab S
        refine g_icmp_eq (tgt := 75) C dX2_give_59 (by decide) (fun c59 => ?_) (fun c59 => ?_)
        · skip
          have c59 := c_eq0 (by omega) (by omega) c59
          refine g_bipush (v := (-2)) C dX2_give_75 (by decide +kernel) ?_
          exact g_iret C rfl (Or.inr ⟨S, L, q, rfl, hS, rfl, hL, rfl, hq, Or.inr (Or.inl (⟨(by simp only [giveD, olab_t c47, Option.map_none, Option.map_some, Option.isSome_none, Option.isSome_some, Bool.false_eq_true, Bool.true_eq_false, eq_self, if_true, if_false]; repeat (first | rw [if_pos (by first | assumption | omega)] | rw [if_neg (by first | assumption | omega)])), rfl, rfl⟩))⟩) (Nat.le_of_ble_eq_true rfl) (Nat.le_of_ble_eq_true rfl) dX2_give_77
        · skip
          have c59 := c_eq1 (by omega) (by omega) c59
          refine g_aload_n C dX2_give_62 rfl 0 rfl ?_
          refine g_get (ci := 3) (v := .ref (a 1)) C iwX2_give_X2 0 rfl rfl 0 (by decide) (C.hw (List.mem_cons_of_mem _ (List.mem_append_left _ (List.mem_append_left _ (List.mem_of_getElem? (i := 1) rfl))))) (fun _ h9 => h9) rfl dX2_give_63 ?_
          refine g_iload_n C dX2_give_66 rfl 1 rfl ?_
          refine g_ialdN (nn := 16) (j := S) (f := lab) C 1 rfl (by omega) n31_16 dX2_give_67 ?_
          have b67 := hlab S
          refine g_iload_n C dX2_give_68 rfl 2 rfl ?_
          refine g_Si (st := []) C (k_X2_may l D cy zs (wM cy a lab has quo spe nam gif fol siz cel giv nf lis lc see (va_up cnt S 0) 0) (lab S) L (by omega) (by omega)) gX2_give_X2_may rfl ydX2_may ⟨Nat.le_of_ble_eq_true rfl, Nat.le_of_ble_eq_true rfl⟩ ⟨Nat.le_of_ble_eq_true rfl, Nat.le_of_ble_eq_true rfl⟩ rfl (Nat.le_of_ble_eq_true rfl) dX2_give_69 (fun r69 w69 h69 => ?_)
          obtain ⟨h69a, h69b⟩ := h69
          subst h69a
          subst h69b
          refine g_if_ne (tgt := 78) C dX2_give_72 (by decide) (fun c72 => ?_) (fun c72 => ?_)
          · skip
            have c72 := cb_eq1 c72
            refine g_aload_n C dX2_give_78 rfl 0 rfl ?_
            refine g_iload_n C dX2_give_79 rfl 1 rfl ?_
            refine g_iconst (v := nI 1) C dX2_give_80 (by decide +kernel) ?_
            refine g_Vi (ci := 3) (st := []) C (k_X2_isFull l D cy zs a lab has quo spe nam gif fol siz cel giv nf lis lc see (va_up cnt S 0) 0 ⟨hnf, hlc, hlab, hquo, hspe, hnam, hsiz, hcnt38, hlis⟩ S 1 (by omega) (by omega)) gX2_give_X2_isFull rfl ⟨rfl, ydX2_isFull⟩ 0 rfl rfl ⟨Nat.le_of_ble_eq_true rfl, Nat.le_of_ble_eq_true rfl⟩ ⟨Nat.le_of_ble_eq_true rfl, Nat.le_of_ble_eq_true rfl⟩ rfl (Nat.le_of_ble_eq_true rfl) dX2_give_81 (fun r81 w81 h81 => ?_)
            obtain ⟨h81a, h81b⟩ := h81
            subst h81a
            subst h81b
            refine g_if_eq (tgt := 90) C dX2_give_84 (by decide) (fun c84 => ?_) (fun c84 => ?_)
            · skip
              have c84 := cb_eq0 c84
              have qf := fulN_no c84
              have qs := usesN_spe spe nam gif siz giv nf (lab S)
              have qq := hquo (lab S)
              refine g_aload_n C dX2_give_90 rfl 0 rfl ?_
              refine g_get (ci := 3) (v := .ref (a 4)) C iwX2_give_X2 0 rfl rfl 3 (by decide) (C.hw (List.mem_cons_of_mem _ (List.mem_append_left _ (List.mem_append_left _ (List.mem_of_getElem? (i := 2) rfl))))) (fun _ h9 => h9) rfl dX2_give_91 ?_
              refine g_aload_n C dX2_give_94 rfl 0 rfl ?_
              refine g_get (ci := 3) (v := .ref (a 1)) C iwX2_give_X2 0 rfl rfl 0 (by decide) (C.hw (List.mem_cons_of_mem _ (List.mem_append_left _ (List.mem_append_left _ (List.mem_of_getElem? (i := 1) rfl))))) (fun _ h9 => h9) rfl dX2_give_95 ?_
              refine g_iload_n C dX2_give_98 rfl 1 rfl ?_
              refine g_ialdN (nn := 16) (j := S) (f := lab) C 1 rfl (by omega) n31_16 dX2_give_99 ?_
              have b99 := hlab S
              refine g_dup2_11 C dX2_give_100 rfl rfl ?_
              refine g_ialdN (nn := 1024) (j := (lab S)) (f := spe) C 4 rfl (by omega) n31_1024 dX2_give_101 ?_
              have b101 := hspe (lab S)
              refine g_iconst (v := nI 1) C dX2_give_102 (by decide +kernel) ?_
              refine g_iadd (v := nI ((spe (lab S)) + 1)) C dX2_give_103 (nI_add _ _) ?_
              refine g_iastN (nn := 1024) (j := (lab S)) (v := ((spe (lab S)) + 1)) (f := spe) (ws' := wM cy a lab has quo (va_up spe (lab S) ((spe (lab S)) + 1)) nam gif fol siz cel giv nf lis lc see (va_up cnt S 0) 0) C 4 rfl (by omega) n31_1024 rfl dX2_give_104 ?_
              have hspe104 : ∀ i9, (va_up spe (lab S) ((spe (lab S)) + 1)) i9 ≤ 1000 := va_up_le hspe (by omega)
              refine g_aload_n C dX2_give_105 rfl 0 rfl ?_
              refine g_iload_n C dX2_give_106 rfl 2 rfl ?_
              refine g_iload_n C dX2_give_107 rfl 3 rfl ?_
              refine g_Vi (ci := 3) (st := []) C (k_X2_find l D cy zs a lab has quo (va_up spe (lab S) ((spe (lab S)) + 1)) nam gif fol siz cel giv nf lis lc see (va_up cnt S 0) 0 ⟨hnf, hlc, hlab, hquo, hspe104, hnam, hsiz, hcnt38, hlis⟩ L q (by omega) (by omega)) gX2_give_X2_find rfl ⟨rfl, ydX2_find⟩ 0 rfl rfl ⟨Nat.le_of_ble_eq_true rfl, Nat.le_of_ble_eq_true rfl⟩ ⟨Nat.le_of_ble_eq_true rfl, Nat.le_of_ble_eq_true rfl⟩ rfl (Nat.le_of_ble_eq_true rfl) dX2_give_108 (fun r108 w108 h108 => ?_)
              obtain ⟨h108a, h108b⟩ := h108
              subst h108a
              subst h108b
              rcases e108 : findN nam nf (16 * L + q) with _ | f
              · skip
                refine g_istore (lv' := [(5, .int (-1)), (0, .ref (a 0)), (1, .int (nI S)), (2, .int (nI L)), (3, .int (nI q)), (4, .int v)]) C dX2_give_111 (by decide) rfl ?_
                refine g_iload C dX2_give_113 0 rfl ?_
                refine g_iconst (v := (-1)) C dX2_give_115 (by decide +kernel) ?_
                refine g_icmp_eq (tgt := 140) C dX2_give_116 (by decide) (fun c116 => ?_) (fun c116 => ?_)
                · skip
                  refine g_iconst (v := nI 2) C dX2_give_140 (by decide +kernel) ?_
                  exact g_iret C rfl (Or.inr ⟨S, L, q, rfl, hS, rfl, hL, rfl, hq, Or.inr (Or.inr (Or.inr (Or.inl (⟨(by simp only [giveD, olab_t c47, c72, c84, e108, Option.map_none, Option.map_some, Option.isSome_none, Option.isSome_some, Bool.false_eq_true, Bool.true_eq_false, eq_self, if_true, if_false]; repeat (first | rw [if_pos (by first | assumption | omega)] | rw [if_neg (by first | assumption | omega)])), rfl, rfl⟩))))⟩) (Nat.le_of_ble_eq_true rfl) (Nat.le_of_ble_eq_true rfl) dX2_give_141
                · skip
                  exact absurd rfl c116
              · skip
                have q108 := findN_spec e108
                refine g_istore (lv' := [(5, .int (nI f)), (0, .ref (a 0)), (1, .int (nI S)), (2, .int (nI L)), (3, .int (nI q)), (4, .int v)]) C dX2_give_111 (by decide) rfl ?_
                refine g_iload C dX2_give_113 0 rfl ?_
                refine g_iconst (v := (-1)) C dX2_give_115 (by decide +kernel) ?_
                refine g_icmp_eq (tgt := 140) C dX2_give_116 (by decide) (fun c116 => ?_) (fun c116 => ?_)
                · skip
                  exact absurd c116 (nI_nem1 (by omega))
                · skip
                  refine g_aload_n C dX2_give_119 rfl 1 rfl ?_
                  refine g_get (ci := 3) (v := .ref (a 8)) C iwX2_give_X2 0 rfl rfl 7 (by decide) (C.hw (List.mem_cons_of_mem _ (List.mem_append_left _ (List.mem_append_left _ (List.mem_of_getElem? (i := 3) rfl))))) (fun _ h9 => h9) rfl dX2_give_120 ?_
                  refine g_iload C dX2_give_123 0 rfl ?_
                  refine g_ialdN (nn := 200) (j := f) (f := siz) C 8 rfl (by omega) n31_200 dX2_give_125 ?_
                  have b125 := hsiz f
                  refine g_bipush (v := nI 24) C dX2_give_126 (by decide +kernel) ?_
                  refine g_icmp_ge (tgt := 140) C dX2_give_128 (by decide) (fun c128 => ?_) (fun c128 => ?_)
                  · skip
                    have c128 := c_ge0 (by omega) (by omega) c128
                    refine g_iconst (v := nI 2) C dX2_give_140 (by decide +kernel) ?_
                    exact g_iret C rfl (Or.inr ⟨S, L, q, rfl, hS, rfl, hL, rfl, hq, Or.inr (Or.inr (Or.inr (Or.inl (⟨(by simp only [giveD, olab_t c47, c72, c84, e108, Option.map_none, Option.map_some, Option.isSome_none, Option.isSome_some, Bool.false_eq_true, Bool.true_eq_false, eq_self, if_true, if_false]; repeat (first | rw [if_pos (by first | assumption | omega)] | rw [if_neg (by first | assumption | omega)])), rfl, rfl⟩))))⟩) (Nat.le_of_ble_eq_true rfl) (Nat.le_of_ble_eq_true rfl) dX2_give_141
                  · skip
                    have c128 := c_ge1 (by omega) (by omega) c128
                    refine g_aload_n C dX2_give_131 rfl 1 rfl ?_
                    refine g_iload C dX2_give_132 0 rfl ?_
                    refine g_iload C dX2_give_134 5 rfl ?_
                    refine g_iconst (v := nI 1) C dX2_give_136 (by decide +kernel) ?_
                    refine g_Vv (ci := 3) (st := []) C (k_X2_append l D cy zs a lab has quo (va_up spe (lab S) ((spe (lab S)) + 1)) nam gif fol siz cel giv nf lis lc see (va_up cnt S 0) 0 ⟨hnf, hlc, hlab, hquo, hspe104, hnam, hsiz, hcnt38, hlis⟩ f v true (by omega) (by omega)) gX2_give_X2_append rfl ⟨rfl, ydX2_append⟩ 0 rfl rfl ⟨Nat.le_of_ble_eq_true rfl, Nat.le_of_ble_eq_true rfl⟩ ⟨Nat.le_of_ble_eq_true rfl, Nat.le_of_ble_eq_true rfl⟩ rfl (Nat.le_of_ble_eq_true rfl) dX2_give_137 (fun w137 h137 => ?_)
                    have hsiz137 : ∀ i, va_up siz f (siz f + 1) i ≤ 24 := va_up_le hsiz (by omega)
                    subst h137
                    refine g_iconst (v := nI 2) C dX2_give_140 (by decide +kernel) ?_
                    exact g_iret C rfl (Or.inr ⟨S, L, q, rfl, hS, rfl, hL, rfl, hq, Or.inr (Or.inr (Or.inr (Or.inr (⟨f, e108, (by simp only [giveD, olab_t c47, c72, c84, e108, Option.map_none, Option.map_some, Option.isSome_none, Option.isSome_some, Bool.false_eq_true, Bool.true_eq_false, eq_self, if_true, if_false]; repeat (first | rw [if_pos (by first | assumption | omega)] | rw [if_neg (by first | assumption | omega)])), rfl, rfl⟩))))⟩) (Nat.le_of_ble_eq_true rfl) (Nat.le_of_ble_eq_true rfl) dX2_give_141
            · skip
              have c84 := cb_eq1 c84
              refine g_bipush (v := (-3)) C dX2_give_87 (by decide +kernel) ?_
              exact g_iret C rfl (Or.inr ⟨S, L, q, rfl, hS, rfl, hL, rfl, hq, Or.inr (Or.inr (Or.inl (⟨(by simp only [giveD, olab_t c47, c72, c84, Option.map_none, Option.map_some, Option.isSome_none, Option.isSome_some, Bool.false_eq_true, Bool.true_eq_false, eq_self, if_true, if_false]; repeat (first | rw [if_pos (by first | assumption | omega)] | rw [if_neg (by first | assumption | omega)])), rfl, rfl⟩)))⟩) (Nat.le_of_ble_eq_true rfl) (Nat.le_of_ble_eq_true rfl) dX2_give_89
          · skip
            have c72 := cb_eq0 c72
            refine g_bipush (v := (-2)) C dX2_give_75 (by decide +kernel) ?_
            exact g_iret C rfl (Or.inr ⟨S, L, q, rfl, hS, rfl, hL, rfl, hq, Or.inr (Or.inl (⟨(by simp only [giveD, olab_t c47, c72, Option.map_none, Option.map_some, Option.isSome_none, Option.isSome_some, Bool.false_eq_true, Bool.true_eq_false, eq_self, if_true, if_false]; repeat (first | rw [if_pos (by first | assumption | omega)] | rw [if_neg (by first | assumption | omega)])), rfl, rfl⟩))⟩) (Nat.le_of_ble_eq_true rfl) (Nat.le_of_ble_eq_true rfl) dX2_give_77
      · skip
        have c47 := cb_eq0 c47
        refine g_iconst (v := (-1)) C dX2_give_50 (by decide +kernel) ?_
        exact g_iret C rfl (Or.inr ⟨S, L, q, rfl, hS, rfl, hL, rfl, hq, Or.inl (⟨(by simp only [giveD, olab_f c47, Option.map_none, Option.map_some, Option.isSome_none, Option.isSome_some, Bool.false_eq_true, Bool.true_eq_false, eq_self, if_true, if_false]; repeat (first | rw [if_pos (by first | assumption | omega)] | rw [if_neg (by first | assumption | omega)])), rfl, rfl⟩)⟩) (Nat.le_of_ble_eq_true rfl) (Nat.le_of_ble_eq_true rfl) dX2_give_51
    · skip
      have c31 := cb_eq1 c31
      subst c31
      refine g_iconst (v := nI 0) C dX2_give_34 (by decide +kernel) ?_
      exact g_iret C rfl (Or.inl ⟨h27.symm, rfl, rfl⟩) (Nat.le_of_ble_eq_true rfl) (Nat.le_of_ble_eq_true rfl) dX2_give_35
  · skip
    refine g_iload_n C dX2_give_1 rfl 1 rfl ?_
    refine g_Si (st := [.ref (a 0)]) C (k_X2_isSubject l D cy zs (wM cy a lab has quo spe nam gif fol siz cel giv nf lis lc see cnt thr) p0) gX2_give_X2_isSubject rfl ydX2_isSubject ⟨Nat.le_of_ble_eq_true rfl, Nat.le_of_ble_eq_true rfl⟩ ⟨Nat.le_of_ble_eq_true rfl, Nat.le_of_ble_eq_true rfl⟩ rfl (Nat.le_of_ble_eq_true rfl) dX2_give_2 (fun r2 w2 h2 => ?_)
    obtain ⟨h2a, h2b⟩ := h2
    subst h2a
    subst h2b
    refine g_if_eq (tgt := 22) C dX2_give_5 (by decide) (fun c5 => ?_) (fun c5 => ?_)
    · skip
      have c5 := cb_eq0 c5
      refine g_iconst (v := nI 1) C dX2_give_22 (by decide +kernel) ?_
      refine g_goto (tgt := 27) C dX2_give_23 (by decide) ?_
      exact g_sub (lv' := [(0, .ref (a 0)), (1, .int p0), (2, .int p1), (3, .int p2), (4, .int v)]) [0, 1, 2, 3, 4] rfl (J27 true (by simp [c5]))
    · skip
      have c5 := cb_eq1 c5
      refine g_iload_n C dX2_give_8 rfl 2 rfl ?_
      refine g_Si (st := [.ref (a 0)]) C (k_X2_isLabel l D cy zs (wM cy a lab has quo spe nam gif fol siz cel giv nf lis lc see cnt thr) p1) gX2_give_X2_isLabel rfl ydX2_isLabel ⟨Nat.le_of_ble_eq_true rfl, Nat.le_of_ble_eq_true rfl⟩ ⟨Nat.le_of_ble_eq_true rfl, Nat.le_of_ble_eq_true rfl⟩ rfl (Nat.le_of_ble_eq_true rfl) dX2_give_9 (fun r9 w9 h9 => ?_)
      obtain ⟨h9a, h9b⟩ := h9
      subst h9a
      subst h9b
      refine g_if_eq (tgt := 22) C dX2_give_12 (by decide) (fun c12 => ?_) (fun c12 => ?_)
      · skip
        have c12 := cb_eq0 c12
        refine g_iconst (v := nI 1) C dX2_give_22 (by decide +kernel) ?_
        refine g_goto (tgt := 27) C dX2_give_23 (by decide) ?_
        exact g_sub (lv' := [(0, .ref (a 0)), (1, .int p0), (2, .int p1), (3, .int p2), (4, .int v)]) [0, 1, 2, 3, 4] rfl (J27 true (by simp [c5, c12]))
      · skip
        have c12 := cb_eq1 c12
        refine g_iload_n C dX2_give_15 rfl 3 rfl ?_
        refine g_Si (st := [.ref (a 0)]) C (k_X2_isNumber l D cy zs (wM cy a lab has quo spe nam gif fol siz cel giv nf lis lc see cnt thr) p2) gX2_give_X2_isNumber rfl ydX2_isNumber ⟨Nat.le_of_ble_eq_true rfl, Nat.le_of_ble_eq_true rfl⟩ ⟨Nat.le_of_ble_eq_true rfl, Nat.le_of_ble_eq_true rfl⟩ rfl (Nat.le_of_ble_eq_true rfl) dX2_give_16 (fun r16 w16 h16 => ?_)
        obtain ⟨h16a, h16b⟩ := h16
        subst h16a
        subst h16b
        refine g_if_ne (tgt := 26) C dX2_give_19 (by decide) (fun c19 => ?_) (fun c19 => ?_)
        · skip
          have c19 := cb_eq1 c19
          refine g_iconst (v := nI 0) C dX2_give_26 (by decide +kernel) ?_
          exact g_sub (lv' := [(0, .ref (a 0)), (1, .int p0), (2, .int p1), (3, .int p2), (4, .int v)]) [0, 1, 2, 3, 4] rfl (J27 false (by simp [c5, c12, c19]))
        · skip
          have c19 := cb_eq0 c19
          refine g_iconst (v := nI 1) C dX2_give_22 (by decide +kernel) ?_
          refine g_goto (tgt := 27) C dX2_give_23 (by decide) ?_
          exact g_sub (lv' := [(0, .ref (a 0)), (1, .int p0), (2, .int p1), (3, .int p2), (4, .int v)]) [0, 1, 2, 3, 4] rfl (J27 true (by simp [c5, c12, c19]))
abbrev rmX2_trim : Room := { frames := 2, cells := 0, slots := 0, locals := 41 }
theorem ydX2_trim : yX2_trim.cls ≠ "java/lang/invoke/MethodHandle" ∧ yX2_trim.cls ≠ "java/lang/invoke/VarHandle" ∧ (parseMethodDescriptor yX2_trim.desc).map (fun d => d.parameters.length) = some 3 := by decide +kernel
theorem iwX2_trim_X2 : ∀ w ∈ u_ws RX2 TX2 16, w ∈ wsX2_trim := fun _ h => (List.mem_cons_of_mem _ (List.mem_append_right _ h))
set_option maxRecDepth 100000 in
set_option maxHeartbeats 4000000 in
theorem k_X2_trim (l : Launch) (D : va_G) (cy : Nat → ClassId) (zs : Nat → Nat) (a : Nat → Nat) (lab : Nat → Nat) (has : Nat → Bool) (quo : Nat → Nat) (spe : Nat → Nat) (nam : Nat → Nat) (gif : Nat → Bool) (fol : Nat → Int32) (siz : Nat → Nat) (cel : Nat → Int32) (giv : Nat → Bool) (nf : Nat) (lis : Nat → Nat) (lc : Nat) (see : Nat → Int32) (cnt : Nat → Nat) (thr : Nat) (hI : MI lab quo spe nam siz cnt lis nf lc) (p0 : Int32) (p1 : Int32) (p2 : Int32)  : Mi l D cy zs yX2_trim wsX2_trim rmX2_trim [.ref (a 0), .int p0, .int p1, .int p2] (wM cy a lab has quo spe nam gif fol siz cel giv nf lis lc see cnt thr) ((fun (r : Int32) (w : va_W) => ((!inB p0 16 || !inB p1 16 || !inB p2 25) = true ∧ r = nI 0 ∧ w = wM cy a lab has quo spe nam gif fol siz cel giv nf lis lc see cnt 1) ∨ ∃ S q i, p0 = nI S ∧ S < 16 ∧ p1 = nI q ∧ q < 16 ∧ p2 = nI i ∧ i < 25 ∧ ((trimD (olab has lab S) ((findN nam nf (16 * lab S + q)).map siz) i = 0 ∧ r = -1 ∧ w = wM cy a lab has quo spe nam gif fol siz cel giv nf lis lc see (va_up cnt S 0) 0) ∨ (trimD (olab has lab S) ((findN nam nf (16 * lab S + q)).map siz) i = 1 ∧ r = nI 0 ∧ w = wM cy a lab has quo spe nam gif fol siz cel giv nf lis lc see (va_up cnt S 0) 0) ∨ (∃ f, (findN nam nf (16 * lab S + q)) = some f ∧ trimD (olab has lab S) ((findN nam nf (16 * lab S + q)).map siz) i = 2 ∧ r = nI (siz f - i) ∧ w = wM cy a lab has quo spe nam gif fol (va_up siz f i) cel giv nf lis lc see (va_up cnt S 0) 0)))) := by
  refine Mi.of (lv := [(0, .ref (a 0)), (1, .int p0), (2, .int p1), (3, .int p2)]) RX2 ⟨by decide, rfl⟩ rfl (Nat.le_of_ble_eq_true rfl) rfl ?_
  intro p e s m args below meth c A C hnm
  obtain ⟨hnf, hlc, hlab, hquo, hspe, hnam, hsiz, hcnt, hlis⟩ := id hI
  refine g_aload_n C dX2_trim_0 rfl 0 rfl ?_
  refine g_join (fun v29 : Bool => v29 = (!inB p0 16 || !inB p1 16 || !inB p2 25)) 29 (wM cy a lab has quo spe nam gif fol siz cel giv nf lis lc see cnt thr) [(0, .ref (a 0)), (1, .int p0), (2, .int p1), (3, .int p2)] (fun v29 => [.int (bI v29), .ref (a 0)]) (fun v29 h29 => ?_) (fun J29 => ?_)
  · skip
    refine g_iconst (v := nI 1) C dX2_trim_29 (by decide +kernel) ?_
    refine g_Vi (ci := 3) (st := []) C (k_X2_fails l D cy zs a lab has quo spe nam gif fol siz cel giv nf lis lc see cnt thr ⟨hnf, hlc, hlab, hquo, hspe, hnam, hsiz, hcnt, hlis⟩ v29 1) gX2_trim_X2_fails rfl ⟨rfl, ydX2_fails⟩ 0 rfl rfl ⟨Nat.le_of_ble_eq_true rfl, Nat.le_of_ble_eq_true rfl⟩ ⟨Nat.le_of_ble_eq_true rfl, Nat.le_of_ble_eq_true rfl⟩ rfl (Nat.le_of_ble_eq_true rfl) dX2_trim_30 (fun r30 w30 h30 => ?_)
    obtain ⟨h30a, h30b⟩ := h30
    subst h30a
    subst h30b
    refine g_if_eq (tgt := 38) C dX2_trim_33 (by decide) (fun c33 => ?_) (fun c33 => ?_)
    · skip
      have c33 := cb_eq0 c33
      subst c33
      obtain ⟨qp0, qp1, qp2⟩ : inB p0 16 = true ∧ inB p1 16 = true ∧ inB p2 25 = true := by revert h29; cases inB p0 16 <;> cases inB p1 16 <;> cases inB p2 25 <;> simp
      obtain ⟨S, hS, eS⟩ := inB_of (Nat.le_of_ble_eq_true rfl) qp0
      subst eS
      obtain ⟨q, hq, eq⟩ := inB_of (Nat.le_of_ble_eq_true rfl) qp1
      subst eq
      obtain ⟨i, hi, ei⟩ := inB_of (Nat.le_of_ble_eq_true rfl) qp2
      subst ei
      refine g_aload_n C dX2_trim_38 rfl 0 rfl ?_
      refine g_iload_n C dX2_trim_39 rfl 1 rfl ?_
      refine g_Vv (ci := 3) (st := []) C (k_X2_begin l D cy zs a lab has quo spe nam gif fol siz cel giv nf lis lc see cnt 0 ⟨hnf, hlc, hlab, hquo, hspe, hnam, hsiz, hcnt, hlis⟩ S (by omega)) gX2_trim_X2_begin rfl ⟨rfl, ydX2_begin⟩ 0 rfl rfl ⟨Nat.le_of_ble_eq_true rfl, Nat.le_of_ble_eq_true rfl⟩ ⟨Nat.le_of_ble_eq_true rfl, Nat.le_of_ble_eq_true rfl⟩ rfl (Nat.le_of_ble_eq_true rfl) dX2_trim_40 (fun w40 h40 => ?_)
      have hcnt40 : ∀ i, va_up cnt S 0 i ≤ 200 := va_up_le hcnt (Nat.zero_le _)
      subst h40
      refine g_aload_n C dX2_trim_43 rfl 0 rfl ?_
      refine g_get (ci := 3) (v := .ref (a 2)) C iwX2_trim_X2 0 rfl rfl 1 (by decide) (C.hw (List.mem_cons_of_mem _ (List.mem_append_left _ (List.mem_append_left _ (List.mem_of_getElem? (i := 0) rfl))))) (fun _ h9 => h9) rfl dX2_trim_44 ?_
      refine g_iload_n C dX2_trim_47 rfl 1 rfl ?_
      refine g_zaldB (nn := 16) (j := S) (f := has) C 2 rfl (by omega) n31_16 dX2_trim_48 ?_
      refine g_if_ne (tgt := 54) C dX2_trim_49 (by decide) (fun c49 => ?_) (fun c49 => ?_)
      · skip
        have c49 := cb_eq1 c49
        refine g_aload_n C dX2_trim_54 rfl 0 rfl ?_
        refine g_aload_n C dX2_trim_55 rfl 0 rfl ?_
        refine g_get (ci := 3) (v := .ref (a 1)) C iwX2_trim_X2 0 rfl rfl 0 (by decide) (C.hw (List.mem_cons_of_mem _ (List.mem_append_left _ (List.mem_append_left _ (List.mem_of_getElem? (i := 1) rfl))))) (fun _ h9 => h9) rfl dX2_trim_56 ?_
        refine g_iload_n C dX2_trim_59 rfl 1 rfl ?_
        refine g_ialdN (nn := 16) (j := S) (f := lab) C 1 rfl (by omega) n31_16 dX2_trim_60 ?_
        have b60 := hlab S
        refine g_iload_n C dX2_trim_61 rfl 2 rfl ?_
        refine g_Vi (ci := 3) (st := []) C (k_X2_find l D cy zs a lab has quo spe nam gif fol siz cel giv nf lis lc see (va_up cnt S 0) 0 ⟨hnf, hlc, hlab, hquo, hspe, hnam, hsiz, hcnt40, hlis⟩ (lab S) q (by omega) (by omega)) gX2_trim_X2_find rfl ⟨rfl, ydX2_find⟩ 0 rfl rfl ⟨Nat.le_of_ble_eq_true rfl, Nat.le_of_ble_eq_true rfl⟩ ⟨Nat.le_of_ble_eq_true rfl, Nat.le_of_ble_eq_true rfl⟩ rfl (Nat.le_of_ble_eq_true rfl) dX2_trim_62 (fun r62 w62 h62 => ?_)
        obtain ⟨h62a, h62b⟩ := h62
        subst h62a
        subst h62b
        rcases e62 : findN nam nf (16 * (lab S) + q) with _ | f
        · skip
          refine g_istore (lv' := [(4, .int (-1)), (0, .ref (a 0)), (1, .int (nI S)), (2, .int (nI q)), (3, .int (nI i))]) C dX2_trim_65 (by decide) rfl ?_
          refine g_iload C dX2_trim_67 0 rfl ?_
          refine g_iconst (v := (-1)) C dX2_trim_69 (by decide +kernel) ?_
          refine g_icmp_eq (tgt := 84) C dX2_trim_70 (by decide) (fun c70 => ?_) (fun c70 => ?_)
          · skip
            refine g_iconst (v := nI 0) C dX2_trim_84 (by decide +kernel) ?_
            exact g_iret C rfl (Or.inr ⟨S, q, i, rfl, hS, rfl, hq, rfl, hi, Or.inr (Or.inl (⟨(by simp only [trimD, olab_t c49, e62, Option.map_none, Option.map_some, Option.isSome_none, Option.isSome_some, Bool.false_eq_true, Bool.true_eq_false, eq_self, if_true, if_false]; repeat (first | rw [if_pos (by first | assumption | omega)] | rw [if_neg (by first | assumption | omega)])), rfl, rfl⟩))⟩) (Nat.le_of_ble_eq_true rfl) (Nat.le_of_ble_eq_true rfl) dX2_trim_85
          · skip
            exact absurd rfl c70
        · skip
          have q62 := findN_spec e62
          refine g_istore (lv' := [(4, .int (nI f)), (0, .ref (a 0)), (1, .int (nI S)), (2, .int (nI q)), (3, .int (nI i))]) C dX2_trim_65 (by decide) rfl ?_
          refine g_iload C dX2_trim_67 0 rfl ?_
          refine g_iconst (v := (-1)) C dX2_trim_69 (by decide +kernel) ?_
          refine g_icmp_eq (tgt := 84) C dX2_trim_70 (by decide) (fun c70 => ?_) (fun c70 => ?_)
          · skip
            exact absurd c70 (nI_nem1 (by omega))
          · skip
            refine g_aload_n C dX2_trim_73 rfl 1 rfl ?_
            refine g_get (ci := 3) (v := .ref (a 8)) C iwX2_trim_X2 0 rfl rfl 7 (by decide) (C.hw (List.mem_cons_of_mem _ (List.mem_append_left _ (List.mem_append_left _ (List.mem_of_getElem? (i := 2) rfl))))) (fun _ h9 => h9) rfl dX2_trim_74 ?_
            refine g_iload C dX2_trim_77 0 rfl ?_
            refine g_ialdN (nn := 200) (j := f) (f := siz) C 8 rfl (by omega) n31_200 dX2_trim_79 ?_
            have b79 := hsiz f
            refine g_iload_n C dX2_trim_80 rfl 4 rfl ?_
            refine g_icmp_ge (tgt := 86) C dX2_trim_81 (by decide) (fun c81 => ?_) (fun c81 => ?_)
            · skip
              have c81 := c_ge0 (by omega) (by omega) c81
              refine g_aload_n C dX2_trim_86 rfl 1 rfl ?_
              refine g_get (ci := 3) (v := .ref (a 8)) C iwX2_trim_X2 0 rfl rfl 7 (by decide) (C.hw (List.mem_cons_of_mem _ (List.mem_append_left _ (List.mem_append_left _ (List.mem_of_getElem? (i := 2) rfl))))) (fun _ h9 => h9) rfl dX2_trim_87 ?_
              refine g_iload C dX2_trim_90 0 rfl ?_
              refine g_ialdN (nn := 200) (j := f) (f := siz) C 8 rfl (by omega) n31_200 dX2_trim_92 ?_
              have b92 := hsiz f
              refine g_iload_n C dX2_trim_93 rfl 4 rfl ?_
              refine g_isub (v := nI ((siz f) - i)) C dX2_trim_94 (pk_sub (by omega)) ?_
              refine g_istore (lv' := [(5, .int (nI ((siz f) - i))), (4, .int (nI f)), (0, .ref (a 0)), (1, .int (nI S)), (2, .int (nI q)), (3, .int (nI i))]) C dX2_trim_95 (by decide) rfl ?_
              refine g_aload_n C dX2_trim_97 rfl 2 rfl ?_
              refine g_get (ci := 3) (v := .ref (a 8)) C iwX2_trim_X2 0 rfl rfl 7 (by decide) (C.hw (List.mem_cons_of_mem _ (List.mem_append_left _ (List.mem_append_left _ (List.mem_of_getElem? (i := 2) rfl))))) (fun _ h9 => h9) rfl dX2_trim_98 ?_
              refine g_iload C dX2_trim_101 1 rfl ?_
              refine g_iload_n C dX2_trim_103 rfl 5 rfl ?_
              refine g_iastN (nn := 200) (j := f) (v := i) (f := siz) (ws' := wM cy a lab has quo spe nam gif fol (va_up siz f i) cel giv nf lis lc see (va_up cnt S 0) 0) C 8 rfl (by omega) n31_200 rfl dX2_trim_104 ?_
              have hsiz104 : ∀ i9, (va_up siz f i) i9 ≤ 24 := va_up_le hsiz (by omega)
              refine g_iload C dX2_trim_105 0 rfl ?_
              exact g_iret C rfl (by rcases Nat.lt_or_ge i (siz f) with g9 | g9; exact Or.inr ⟨S, q, i, rfl, hS, rfl, hq, rfl, hi, Or.inr (Or.inr (⟨f, e62, (by simp only [trimD, olab_t c49, e62, Option.map_none, Option.map_some, Option.isSome_none, Option.isSome_some, Bool.false_eq_true, Bool.true_eq_false, eq_self, if_true, if_false]; repeat (first | rw [if_pos (by first | assumption | omega)] | rw [if_neg (by first | assumption | omega)])), rfl, rfl⟩))⟩; exact Or.inr ⟨S, q, i, rfl, hS, rfl, hq, rfl, hi, Or.inr (Or.inl (⟨(by simp only [trimD, olab_t c49, e62, Option.map_none, Option.map_some, Option.isSome_none, Option.isSome_some, Bool.false_eq_true, Bool.true_eq_false, eq_self, if_true, if_false]; repeat (first | rw [if_pos (by first | assumption | omega)] | rw [if_neg (by first | assumption | omega)])), by rw [show siz f - i = 0 by omega], by rw [va_up_same (show siz f = i by omega)]⟩))⟩) (Nat.le_of_ble_eq_true rfl) (Nat.le_of_ble_eq_true rfl) dX2_trim_107
            · skip
              have c81 := c_ge1 (by omega) (by omega) c81
              refine g_iconst (v := nI 0) C dX2_trim_84 (by decide +kernel) ?_
              exact g_iret C rfl (Or.inr ⟨S, q, i, rfl, hS, rfl, hq, rfl, hi, Or.inr (Or.inl (⟨(by simp only [trimD, olab_t c49, e62, Option.map_none, Option.map_some, Option.isSome_none, Option.isSome_some, Bool.false_eq_true, Bool.true_eq_false, eq_self, if_true, if_false]; repeat (first | rw [if_pos (by first | assumption | omega)] | rw [if_neg (by first | assumption | omega)])), rfl, rfl⟩))⟩) (Nat.le_of_ble_eq_true rfl) (Nat.le_of_ble_eq_true rfl) dX2_trim_85
      · skip
        have c49 := cb_eq0 c49
        refine g_iconst (v := (-1)) C dX2_trim_52 (by decide +kernel) ?_
        exact g_iret C rfl (Or.inr ⟨S, q, i, rfl, hS, rfl, hq, rfl, hi, Or.inl (⟨(by simp only [trimD, olab_f c49, Option.map_none, Option.map_some, Option.isSome_none, Option.isSome_some, Bool.false_eq_true, Bool.true_eq_false, eq_self, if_true, if_false]; repeat (first | rw [if_pos (by first | assumption | omega)] | rw [if_neg (by first | assumption | omega)])), rfl, rfl⟩)⟩) (Nat.le_of_ble_eq_true rfl) (Nat.le_of_ble_eq_true rfl) dX2_trim_53
    · skip
      have c33 := cb_eq1 c33
      subst c33
      refine g_iconst (v := nI 0) C dX2_trim_36 (by decide +kernel) ?_
      exact g_iret C rfl (Or.inl ⟨h29.symm, rfl, rfl⟩) (Nat.le_of_ble_eq_true rfl) (Nat.le_of_ble_eq_true rfl) dX2_trim_37
  · skip
    refine g_iload_n C dX2_trim_1 rfl 1 rfl ?_
    refine g_Si (st := [.ref (a 0)]) C (k_X2_isSubject l D cy zs (wM cy a lab has quo spe nam gif fol siz cel giv nf lis lc see cnt thr) p0) gX2_trim_X2_isSubject rfl ydX2_isSubject ⟨Nat.le_of_ble_eq_true rfl, Nat.le_of_ble_eq_true rfl⟩ ⟨Nat.le_of_ble_eq_true rfl, Nat.le_of_ble_eq_true rfl⟩ rfl (Nat.le_of_ble_eq_true rfl) dX2_trim_2 (fun r2 w2 h2 => ?_)
    obtain ⟨h2a, h2b⟩ := h2
    subst h2a
    subst h2b
    refine g_if_eq (tgt := 24) C dX2_trim_5 (by decide) (fun c5 => ?_) (fun c5 => ?_)
    · skip
      have c5 := cb_eq0 c5
      refine g_iconst (v := nI 1) C dX2_trim_24 (by decide +kernel) ?_
      refine g_goto (tgt := 29) C dX2_trim_25 (by decide) ?_
      exact g_sub (lv' := [(0, .ref (a 0)), (1, .int p0), (2, .int p1), (3, .int p2)]) [0, 1, 2, 3] rfl (J29 true (by simp [c5]))
    · skip
      have c5 := cb_eq1 c5
      refine g_iload_n C dX2_trim_8 rfl 2 rfl ?_
      refine g_Si (st := [.ref (a 0)]) C (k_X2_isNumber l D cy zs (wM cy a lab has quo spe nam gif fol siz cel giv nf lis lc see cnt thr) p1) gX2_trim_X2_isNumber rfl ydX2_isNumber ⟨Nat.le_of_ble_eq_true rfl, Nat.le_of_ble_eq_true rfl⟩ ⟨Nat.le_of_ble_eq_true rfl, Nat.le_of_ble_eq_true rfl⟩ rfl (Nat.le_of_ble_eq_true rfl) dX2_trim_9 (fun r9 w9 h9 => ?_)
      obtain ⟨h9a, h9b⟩ := h9
      subst h9a
      subst h9b
      refine g_if_eq (tgt := 24) C dX2_trim_12 (by decide) (fun c12 => ?_) (fun c12 => ?_)
      · skip
        have c12 := cb_eq0 c12
        refine g_iconst (v := nI 1) C dX2_trim_24 (by decide +kernel) ?_
        refine g_goto (tgt := 29) C dX2_trim_25 (by decide) ?_
        exact g_sub (lv' := [(0, .ref (a 0)), (1, .int p0), (2, .int p1), (3, .int p2)]) [0, 1, 2, 3] rfl (J29 true (by simp [c5, c12]))
      · skip
        have c12 := cb_eq1 c12
        refine g_iload_n C dX2_trim_15 rfl 3 rfl ?_
        refine g_bipush (v := nI 25) C dX2_trim_16 (by decide +kernel) ?_
        refine g_Si (st := [.ref (a 0)]) C (k_X2_within l D cy zs (wM cy a lab has quo spe nam gif fol siz cel giv nf lis lc see cnt thr) p2 25) gX2_trim_X2_within rfl ydX2_within ⟨Nat.le_of_ble_eq_true rfl, Nat.le_of_ble_eq_true rfl⟩ ⟨Nat.le_of_ble_eq_true rfl, Nat.le_of_ble_eq_true rfl⟩ rfl (Nat.le_of_ble_eq_true rfl) dX2_trim_18 (fun r18 w18 h18 => ?_)
        obtain ⟨h18a, h18b⟩ := h18
        subst h18a
        subst h18b
        refine g_if_ne (tgt := 28) C dX2_trim_21 (by decide) (fun c21 => ?_) (fun c21 => ?_)
        · skip
          have c21 := cb_eq1 c21
          refine g_iconst (v := nI 0) C dX2_trim_28 (by decide +kernel) ?_
          exact g_sub (lv' := [(0, .ref (a 0)), (1, .int p0), (2, .int p1), (3, .int p2)]) [0, 1, 2, 3] rfl (J29 false (by simp [c5, c12, c21]))
        · skip
          have c21 := cb_eq0 c21
          refine g_iconst (v := nI 1) C dX2_trim_24 (by decide +kernel) ?_
          refine g_goto (tgt := 29) C dX2_trim_25 (by decide) ?_
          exact g_sub (lv' := [(0, .ref (a 0)), (1, .int p0), (2, .int p1), (3, .int p2)]) [0, 1, 2, 3] rfl (J29 true (by simp [c5, c12, c21]))
abbrev rmX2_remove : Room := { frames := 2, cells := 0, slots := 0, locals := 41 }
theorem ydX2_remove : yX2_remove.cls ≠ "java/lang/invoke/MethodHandle" ∧ yX2_remove.cls ≠ "java/lang/invoke/VarHandle" ∧ (parseMethodDescriptor yX2_remove.desc).map (fun d => d.parameters.length) = some 2 := by decide +kernel
theorem iwX2_remove_X2 : ∀ w ∈ u_ws RX2 TX2 16, w ∈ wsX2_remove := fun _ h => (List.mem_cons_of_mem _ (List.mem_append_right _ h))
set_option maxRecDepth 100000 in
set_option maxHeartbeats 4000000 in
theorem k_X2_remove (l : Launch) (D : va_G) (cy : Nat → ClassId) (zs : Nat → Nat) (a : Nat → Nat) (lab : Nat → Nat) (has : Nat → Bool) (quo : Nat → Nat) (spe : Nat → Nat) (nam : Nat → Nat) (gif : Nat → Bool) (fol : Nat → Int32) (siz : Nat → Nat) (cel : Nat → Int32) (giv : Nat → Bool) (nf : Nat) (lis : Nat → Nat) (lc : Nat) (see : Nat → Int32) (cnt : Nat → Nat) (thr : Nat) (hI : MI lab quo spe nam siz cnt lis nf lc) (p0 : Int32) (p1 : Int32)  : Mi l D cy zs yX2_remove wsX2_remove rmX2_remove [.ref (a 0), .int p0, .int p1] (wM cy a lab has quo spe nam gif fol siz cel giv nf lis lc see cnt thr) ((fun (r : Int32) (w : va_W) => ((!inB p0 16 || !inB p1 16) = true ∧ r = nI 0 ∧ w = wM cy a lab has quo spe nam gif fol siz cel giv nf lis lc see cnt 1) ∨ ∃ S q, p0 = nI S ∧ S < 16 ∧ p1 = nI q ∧ q < 16 ∧ ((remD (olab has lab S) ((findN nam nf (16 * lab S + q)).map siz) = 0 ∧ r = -1 ∧ w = wM cy a lab has quo spe nam gif fol siz cel giv nf lis lc see (va_up cnt S 0) 0) ∨ (remD (olab has lab S) ((findN nam nf (16 * lab S + q)).map siz) = 1 ∧ r = nI 0 ∧ w = wM cy a lab has quo spe nam gif fol siz cel giv nf lis lc see (va_up cnt S 0) 0) ∨ (∃ f, (findN nam nf (16 * lab S + q)) = some f ∧ remD (olab has lab S) ((findN nam nf (16 * lab S + q)).map siz) = 2 ∧ r = nI 1 ∧ w = wM cy a lab has quo spe (va_up nam f (nam (nf - 1))) (va_up gif f (gif (nf - 1))) (upd fol f (fol (nf - 1))) (va_up siz f (siz (nf - 1))) (mvC cel f (nf - 1) 24) (mvG giv f (nf - 1) 24) (nf - 1) lis lc see (va_up cnt S 0) 0)))) := by
  refine Mi.of (lv := [(0, .ref (a 0)), (1, .int p0), (2, .int p1)]) RX2 ⟨by decide, rfl⟩ rfl (Nat.le_of_ble_eq_true rfl) rfl ?_
  intro p e s m args below meth c A C hnm
  obtain ⟨hnf, hlc, hlab, hquo, hspe, hnam, hsiz, hcnt, hlis⟩ := id hI
  refine g_aload_n C dX2_remove_0 rfl 0 rfl ?_
  refine g_join (fun v20 : Bool => v20 = (!inB p0 16 || !inB p1 16)) 20 (wM cy a lab has quo spe nam gif fol siz cel giv nf lis lc see cnt thr) [(0, .ref (a 0)), (1, .int p0), (2, .int p1)] (fun v20 => [.int (bI v20), .ref (a 0)]) (fun v20 h20 => ?_) (fun J20 => ?_)
  · skip
    refine g_iconst (v := nI 1) C dX2_remove_20 (by decide +kernel) ?_
    refine g_Vi (ci := 3) (st := []) C (k_X2_fails l D cy zs a lab has quo spe nam gif fol siz cel giv nf lis lc see cnt thr ⟨hnf, hlc, hlab, hquo, hspe, hnam, hsiz, hcnt, hlis⟩ v20 1) gX2_remove_X2_fails rfl ⟨rfl, ydX2_fails⟩ 0 rfl rfl ⟨Nat.le_of_ble_eq_true rfl, Nat.le_of_ble_eq_true rfl⟩ ⟨Nat.le_of_ble_eq_true rfl, Nat.le_of_ble_eq_true rfl⟩ rfl (Nat.le_of_ble_eq_true rfl) dX2_remove_21 (fun r21 w21 h21 => ?_)
    obtain ⟨h21a, h21b⟩ := h21
    subst h21a
    subst h21b
    refine g_if_eq (tgt := 29) C dX2_remove_24 (by decide) (fun c24 => ?_) (fun c24 => ?_)
    · skip
      have c24 := cb_eq0 c24
      subst c24
      obtain ⟨qp0, qp1⟩ : inB p0 16 = true ∧ inB p1 16 = true := by revert h20; cases inB p0 16 <;> cases inB p1 16 <;> simp
      obtain ⟨S, hS, eS⟩ := inB_of (Nat.le_of_ble_eq_true rfl) qp0
      subst eS
      obtain ⟨q, hq, eq⟩ := inB_of (Nat.le_of_ble_eq_true rfl) qp1
      subst eq
      refine g_aload_n C dX2_remove_29 rfl 0 rfl ?_
      refine g_iload_n C dX2_remove_30 rfl 1 rfl ?_
      refine g_Vv (ci := 3) (st := []) C (k_X2_begin l D cy zs a lab has quo spe nam gif fol siz cel giv nf lis lc see cnt 0 ⟨hnf, hlc, hlab, hquo, hspe, hnam, hsiz, hcnt, hlis⟩ S (by omega)) gX2_remove_X2_begin rfl ⟨rfl, ydX2_begin⟩ 0 rfl rfl ⟨Nat.le_of_ble_eq_true rfl, Nat.le_of_ble_eq_true rfl⟩ ⟨Nat.le_of_ble_eq_true rfl, Nat.le_of_ble_eq_true rfl⟩ rfl (Nat.le_of_ble_eq_true rfl) dX2_remove_31 (fun w31 h31 => ?_)
      have hcnt31 : ∀ i, va_up cnt S 0 i ≤ 200 := va_up_le hcnt (Nat.zero_le _)
      subst h31
      refine g_aload_n C dX2_remove_34 rfl 0 rfl ?_
      refine g_get (ci := 3) (v := .ref (a 2)) C iwX2_remove_X2 0 rfl rfl 1 (by decide) (C.hw (List.mem_cons_of_mem _ (List.mem_append_left _ (List.mem_append_left _ (List.mem_of_getElem? (i := 0) rfl))))) (fun _ h9 => h9) rfl dX2_remove_35 ?_
      refine g_iload_n C dX2_remove_38 rfl 1 rfl ?_
      refine g_zaldB (nn := 16) (j := S) (f := has) C 2 rfl (by omega) n31_16 dX2_remove_39 ?_
      refine g_if_ne (tgt := 45) C dX2_remove_40 (by decide) (fun c40 => ?_) (fun c40 => ?_)
      · skip
        have c40 := cb_eq1 c40
        refine g_aload_n C dX2_remove_45 rfl 0 rfl ?_
        refine g_aload_n C dX2_remove_46 rfl 0 rfl ?_
        refine g_get (ci := 3) (v := .ref (a 1)) C iwX2_remove_X2 0 rfl rfl 0 (by decide) (C.hw (List.mem_cons_of_mem _ (List.mem_append_left _ (List.mem_append_left _ (List.mem_of_getElem? (i := 1) rfl))))) (fun _ h9 => h9) rfl dX2_remove_47 ?_
        refine g_iload_n C dX2_remove_50 rfl 1 rfl ?_
        refine g_ialdN (nn := 16) (j := S) (f := lab) C 1 rfl (by omega) n31_16 dX2_remove_51 ?_
        have b51 := hlab S
        refine g_iload_n C dX2_remove_52 rfl 2 rfl ?_
        refine g_Vi (ci := 3) (st := []) C (k_X2_find l D cy zs a lab has quo spe nam gif fol siz cel giv nf lis lc see (va_up cnt S 0) 0 ⟨hnf, hlc, hlab, hquo, hspe, hnam, hsiz, hcnt31, hlis⟩ (lab S) q (by omega) (by omega)) gX2_remove_X2_find rfl ⟨rfl, ydX2_find⟩ 0 rfl rfl ⟨Nat.le_of_ble_eq_true rfl, Nat.le_of_ble_eq_true rfl⟩ ⟨Nat.le_of_ble_eq_true rfl, Nat.le_of_ble_eq_true rfl⟩ rfl (Nat.le_of_ble_eq_true rfl) dX2_remove_53 (fun r53 w53 h53 => ?_)
        obtain ⟨h53a, h53b⟩ := h53
        subst h53a
        subst h53b
        rcases e53 : findN nam nf (16 * (lab S) + q) with _ | f
        · skip
          refine g_istore_n (lv' := [(3, .int (-1)), (0, .ref (a 0)), (1, .int (nI S)), (2, .int (nI q))]) C dX2_remove_56 rfl (by decide) rfl ?_
          refine g_iload_n C dX2_remove_57 rfl 0 rfl ?_
          refine g_iconst (v := (-1)) C dX2_remove_58 (by decide +kernel) ?_
          refine g_icmp_ne (tgt := 64) C dX2_remove_59 (by decide) (fun c59 => ?_) (fun c59 => ?_)
          · skip
            exact absurd rfl c59
          · skip
            refine g_iconst (v := nI 0) C dX2_remove_62 (by decide +kernel) ?_
            exact g_iret C rfl (Or.inr ⟨S, q, rfl, hS, rfl, hq, Or.inr (Or.inl (⟨(by simp only [remD, olab_t c40, e53, Option.map_none, Option.map_some, Option.isSome_none, Option.isSome_some, Bool.false_eq_true, Bool.true_eq_false, eq_self, if_true, if_false]; repeat (first | rw [if_pos (by first | assumption | omega)] | rw [if_neg (by first | assumption | omega)])), rfl, rfl⟩))⟩) (Nat.le_of_ble_eq_true rfl) (Nat.le_of_ble_eq_true rfl) dX2_remove_63
        · skip
          have q53 := findN_spec e53
          refine g_istore_n (lv' := [(3, .int (nI f)), (0, .ref (a 0)), (1, .int (nI S)), (2, .int (nI q))]) C dX2_remove_56 rfl (by decide) rfl ?_
          refine g_iload_n C dX2_remove_57 rfl 0 rfl ?_
          refine g_iconst (v := (-1)) C dX2_remove_58 (by decide +kernel) ?_
          refine g_icmp_ne (tgt := 64) C dX2_remove_59 (by decide) (fun c59 => ?_) (fun c59 => ?_)
          · skip
            refine g_aload_n C dX2_remove_64 rfl 1 rfl ?_
            refine g_dup C dX2_remove_65 rfl ?_
            refine g_get (ci := 3) (v := .int (nI nf)) C iwX2_remove_X2 0 rfl rfl 10 (by decide) (C.hw (List.mem_cons_of_mem _ (List.mem_append_left _ (List.mem_append_left _ (List.mem_of_getElem? (i := 2) rfl))))) (fun _ h9 => h9) rfl dX2_remove_66 ?_
            refine g_iconst (v := nI 1) C dX2_remove_69 (by decide +kernel) ?_
            refine g_isub (v := nI (nf - 1)) C dX2_remove_70 (pk_sub (by omega)) ?_
            have hnf71 : nf - 1 ≤ 200 := by omega
            refine g_put (ci := 3) (ty := .int) (v := .int (nI (nf - 1))) (ws' := wM cy a lab has quo spe nam gif fol siz cel giv (nf - 1) lis lc see (va_up cnt S 0) 0) C iwX2_remove_X2 tyX2 tyX2_ok nmX2 0 rfl rfl 10 (by decide) (C.hw (List.mem_cons_of_mem _ (List.mem_append_left _ (List.mem_append_left _ (List.mem_of_getElem? (i := 2) rfl))))) (fun _ h9 => h9) rfl (by decide +kernel) rfl rfl (Nat.le_of_ble_eq_true rfl) rfl dX2_remove_71 ?_
            refine g_aload_n C dX2_remove_74 rfl 1 rfl ?_
            refine g_iload_n C dX2_remove_75 rfl 0 rfl ?_
            refine g_aload_n C dX2_remove_76 rfl 1 rfl ?_
            refine g_get (ci := 3) (v := .int (nI (nf - 1))) C iwX2_remove_X2 0 rfl rfl 10 (by decide) (C.hw (List.mem_cons_of_mem _ (List.mem_append_left _ (List.mem_append_left _ (List.mem_of_getElem? (i := 2) rfl))))) (fun _ h9 => h9) rfl dX2_remove_77 ?_
            refine g_Vv (ci := 3) (st := []) C (k_X2_move l D cy zs a lab has quo spe nam gif fol siz cel giv (nf - 1) lis lc see (va_up cnt S 0) 0 ⟨hnf71, hlc, hlab, hquo, hspe, hnam, hsiz, hcnt31, hlis⟩ f (nf - 1) (by omega) (by omega)) gX2_remove_X2_move rfl ⟨rfl, ydX2_move⟩ 0 rfl rfl ⟨Nat.le_of_ble_eq_true rfl, Nat.le_of_ble_eq_true rfl⟩ ⟨Nat.le_of_ble_eq_true rfl, Nat.le_of_ble_eq_true rfl⟩ rfl (Nat.le_of_ble_eq_true rfl) dX2_remove_80 (fun w80 h80 => ?_)
            have hnam80 : ∀ i, va_up nam f (nam (nf - 1)) i < 16384 := va_up_lt hnam (hnam _)
            have hsiz80 : ∀ i, va_up siz f (siz (nf - 1)) i ≤ 24 := va_up_le hsiz (hsiz _)
            subst h80
            refine g_iconst (v := nI 1) C dX2_remove_83 (by decide +kernel) ?_
            exact g_iret C rfl (Or.inr ⟨S, q, rfl, hS, rfl, hq, Or.inr (Or.inr (⟨f, e53, (by simp only [remD, olab_t c40, e53, Option.map_none, Option.map_some, Option.isSome_none, Option.isSome_some, Bool.false_eq_true, Bool.true_eq_false, eq_self, if_true, if_false]; repeat (first | rw [if_pos (by first | assumption | omega)] | rw [if_neg (by first | assumption | omega)])), rfl, rfl⟩))⟩) (Nat.le_of_ble_eq_true rfl) (Nat.le_of_ble_eq_true rfl) dX2_remove_84
          · skip
            exact absurd c59 (nI_nem1 (by omega))
      · skip
        have c40 := cb_eq0 c40
        refine g_iconst (v := (-1)) C dX2_remove_43 (by decide +kernel) ?_
        exact g_iret C rfl (Or.inr ⟨S, q, rfl, hS, rfl, hq, Or.inl (⟨(by simp only [remD, olab_f c40, Option.map_none, Option.map_some, Option.isSome_none, Option.isSome_some, Bool.false_eq_true, Bool.true_eq_false, eq_self, if_true, if_false]; repeat (first | rw [if_pos (by first | assumption | omega)] | rw [if_neg (by first | assumption | omega)])), rfl, rfl⟩)⟩) (Nat.le_of_ble_eq_true rfl) (Nat.le_of_ble_eq_true rfl) dX2_remove_44
    · skip
      have c24 := cb_eq1 c24
      subst c24
      refine g_iconst (v := nI 0) C dX2_remove_27 (by decide +kernel) ?_
      exact g_iret C rfl (Or.inl ⟨h20.symm, rfl, rfl⟩) (Nat.le_of_ble_eq_true rfl) (Nat.le_of_ble_eq_true rfl) dX2_remove_28
  · skip
    refine g_iload_n C dX2_remove_1 rfl 1 rfl ?_
    refine g_Si (st := [.ref (a 0)]) C (k_X2_isSubject l D cy zs (wM cy a lab has quo spe nam gif fol siz cel giv nf lis lc see cnt thr) p0) gX2_remove_X2_isSubject rfl ydX2_isSubject ⟨Nat.le_of_ble_eq_true rfl, Nat.le_of_ble_eq_true rfl⟩ ⟨Nat.le_of_ble_eq_true rfl, Nat.le_of_ble_eq_true rfl⟩ rfl (Nat.le_of_ble_eq_true rfl) dX2_remove_2 (fun r2 w2 h2 => ?_)
    obtain ⟨h2a, h2b⟩ := h2
    subst h2a
    subst h2b
    refine g_if_eq (tgt := 15) C dX2_remove_5 (by decide) (fun c5 => ?_) (fun c5 => ?_)
    · skip
      have c5 := cb_eq0 c5
      refine g_iconst (v := nI 1) C dX2_remove_15 (by decide +kernel) ?_
      refine g_goto (tgt := 20) C dX2_remove_16 (by decide) ?_
      exact g_sub (lv' := [(0, .ref (a 0)), (1, .int p0), (2, .int p1)]) [0, 1, 2] rfl (J20 true (by simp [c5]))
    · skip
      have c5 := cb_eq1 c5
      refine g_iload_n C dX2_remove_8 rfl 2 rfl ?_
      refine g_Si (st := [.ref (a 0)]) C (k_X2_isNumber l D cy zs (wM cy a lab has quo spe nam gif fol siz cel giv nf lis lc see cnt thr) p1) gX2_remove_X2_isNumber rfl ydX2_isNumber ⟨Nat.le_of_ble_eq_true rfl, Nat.le_of_ble_eq_true rfl⟩ ⟨Nat.le_of_ble_eq_true rfl, Nat.le_of_ble_eq_true rfl⟩ rfl (Nat.le_of_ble_eq_true rfl) dX2_remove_9 (fun r9 w9 h9 => ?_)
      obtain ⟨h9a, h9b⟩ := h9
      subst h9a
      subst h9b
      refine g_if_ne (tgt := 19) C dX2_remove_12 (by decide) (fun c12 => ?_) (fun c12 => ?_)
      · skip
        have c12 := cb_eq1 c12
        refine g_iconst (v := nI 0) C dX2_remove_19 (by decide +kernel) ?_
        exact g_sub (lv' := [(0, .ref (a 0)), (1, .int p0), (2, .int p1)]) [0, 1, 2] rfl (J20 false (by simp [c5, c12]))
      · skip
        have c12 := cb_eq0 c12
        refine g_iconst (v := nI 1) C dX2_remove_15 (by decide +kernel) ?_
        refine g_goto (tgt := 20) C dX2_remove_16 (by decide) ?_
        exact g_sub (lv' := [(0, .ref (a 0)), (1, .int p0), (2, .int p1)]) [0, 1, 2] rfl (J20 true (by simp [c5, c12]))
abbrev rmX2_read : Room := { frames := 2, cells := 0, slots := 0, locals := 44 }
theorem ydX2_read : yX2_read.cls ≠ "java/lang/invoke/MethodHandle" ∧ yX2_read.cls ≠ "java/lang/invoke/VarHandle" ∧ (parseMethodDescriptor yX2_read.desc).map (fun d => d.parameters.length) = some 4 := by decide +kernel
theorem iwX2_read_X2 : ∀ w ∈ u_ws RX2 TX2 16, w ∈ wsX2_read := fun _ h => (List.mem_cons_of_mem _ (List.mem_append_right _ h))
set_option maxRecDepth 100000 in
set_option maxHeartbeats 4000000 in
theorem k_X2_read (l : Launch) (D : va_G) (cy : Nat → ClassId) (zs : Nat → Nat) (a : Nat → Nat) (lab : Nat → Nat) (has : Nat → Bool) (quo : Nat → Nat) (spe : Nat → Nat) (nam : Nat → Nat) (gif : Nat → Bool) (fol : Nat → Int32) (siz : Nat → Nat) (cel : Nat → Int32) (giv : Nat → Bool) (nf : Nat) (lis : Nat → Nat) (lc : Nat) (see : Nat → Int32) (cnt : Nat → Nat) (thr : Nat) (hI : MI lab quo spe nam siz cnt lis nf lc) (p0 : Int32) (p1 : Int32) (p2 : Int32) (p3 : Int32)  : Mi l D cy zs yX2_read wsX2_read rmX2_read [.ref (a 0), .int p0, .int p1, .int p2, .int p3] (wM cy a lab has quo spe nam gif fol siz cel giv nf lis lc see cnt thr) ((fun (r : Int32) (w : va_W) => ((!inB p0 16 || !inB p1 1024 || !inB p2 16 || !inB p3 24) = true ∧ r = nI 0 ∧ w = wM cy a lab has quo spe nam gif fol siz cel giv nf lis lc see cnt 1) ∨ ∃ S L q i, p0 = nI S ∧ S < 16 ∧ p1 = nI L ∧ L < 1024 ∧ p2 = nI q ∧ q < 16 ∧ p3 = nI i ∧ i < 24 ∧ ((lookD (olab has lab S) L = 0 ∧ r = -1 ∧ w = wM cy a lab has quo spe nam gif fol siz cel giv nf lis lc see (va_up cnt S 0) 0) ∨ (lookD (olab has lab S) L = 1 ∧ r = -2 ∧ w = wM cy a lab has quo spe nam gif fol siz cel giv nf lis lc see (va_up cnt S 0) 0) ∨ (lookD (olab has lab S) L = 2 ∧ readD ((findN nam nf (16 * L + q)).map siz) i = 0 ∧ r = nI 0 ∧ w = wM cy a lab has quo spe nam gif fol siz cel giv nf lis lc see (va_up cnt S 0) 0) ∨ (∃ f, (findN nam nf (16 * L + q)) = some f ∧ lookD (olab has lab S) L = 2 ∧ readD ((findN nam nf (16 * L + q)).map siz) i = 1 ∧ r = nI 1 ∧ w = wM cy a lab has quo spe nam gif fol siz cel giv nf lis lc (upd see (200 * S) (cel (24 * f + i))) (va_up (va_up cnt S 0) S 1) 0)))) := by
  refine Mi.of (lv := [(0, .ref (a 0)), (1, .int p0), (2, .int p1), (3, .int p2), (4, .int p3)]) RX2 ⟨by decide, rfl⟩ rfl (Nat.le_of_ble_eq_true rfl) rfl ?_
  intro p e s m args below meth c A C hnm
  obtain ⟨hnf, hlc, hlab, hquo, hspe, hnam, hsiz, hcnt, hlis⟩ := id hI
  refine g_aload_n C dX2_read_0 rfl 0 rfl ?_
  refine g_join (fun v37 : Bool => v37 = (!inB p0 16 || !inB p1 1024 || !inB p2 16 || !inB p3 24)) 37 (wM cy a lab has quo spe nam gif fol siz cel giv nf lis lc see cnt thr) [(0, .ref (a 0)), (1, .int p0), (2, .int p1), (3, .int p2), (4, .int p3)] (fun v37 => [.int (bI v37), .ref (a 0)]) (fun v37 h37 => ?_) (fun J37 => ?_)
  · skip
    refine g_iconst (v := nI 1) C dX2_read_37 (by decide +kernel) ?_
    refine g_Vi (ci := 3) (st := []) C (k_X2_fails l D cy zs a lab has quo spe nam gif fol siz cel giv nf lis lc see cnt thr ⟨hnf, hlc, hlab, hquo, hspe, hnam, hsiz, hcnt, hlis⟩ v37 1) gX2_read_X2_fails rfl ⟨rfl, ydX2_fails⟩ 0 rfl rfl ⟨Nat.le_of_ble_eq_true rfl, Nat.le_of_ble_eq_true rfl⟩ ⟨Nat.le_of_ble_eq_true rfl, Nat.le_of_ble_eq_true rfl⟩ rfl (Nat.le_of_ble_eq_true rfl) dX2_read_38 (fun r38 w38 h38 => ?_)
    obtain ⟨h38a, h38b⟩ := h38
    subst h38a
    subst h38b
    refine g_if_eq (tgt := 46) C dX2_read_41 (by decide) (fun c41 => ?_) (fun c41 => ?_)
    · skip
      have c41 := cb_eq0 c41
      subst c41
      obtain ⟨qp0, qp1, qp2, qp3⟩ : inB p0 16 = true ∧ inB p1 1024 = true ∧ inB p2 16 = true ∧ inB p3 24 = true := by revert h37; cases inB p0 16 <;> cases inB p1 1024 <;> cases inB p2 16 <;> cases inB p3 24 <;> simp
      obtain ⟨S, hS, eS⟩ := inB_of (Nat.le_of_ble_eq_true rfl) qp0
      subst eS
      obtain ⟨L, hL, eL⟩ := inB_of (Nat.le_of_ble_eq_true rfl) qp1
      subst eL
      obtain ⟨q, hq, eq⟩ := inB_of (Nat.le_of_ble_eq_true rfl) qp2
      subst eq
      obtain ⟨i, hi, ei⟩ := inB_of (Nat.le_of_ble_eq_true rfl) qp3
      subst ei
      refine g_aload_n C dX2_read_46 rfl 0 rfl ?_
      refine g_iload_n C dX2_read_47 rfl 1 rfl ?_
      refine g_iload_n C dX2_read_48 rfl 2 rfl ?_
      refine g_Vi (ci := 3) (st := []) C (k_X2_look l D cy zs a lab has quo spe nam gif fol siz cel giv nf lis lc see cnt 0 ⟨hnf, hlc, hlab, hquo, hspe, hnam, hsiz, hcnt, hlis⟩ S L (by omega) (by omega)) gX2_read_X2_look rfl ⟨rfl, ydX2_look⟩ 0 rfl rfl ⟨Nat.le_of_ble_eq_true rfl, Nat.le_of_ble_eq_true rfl⟩ ⟨Nat.le_of_ble_eq_true rfl, Nat.le_of_ble_eq_true rfl⟩ rfl (Nat.le_of_ble_eq_true rfl) dX2_read_49 (fun r49 w49 h49 => ?_)
      have hcnt49 : ∀ i, va_up cnt S 0 i ≤ 200 := va_up_le hcnt (Nat.zero_le _)
      obtain ⟨h49a, h49b⟩ := h49
      subst h49a
      subst h49b
      by_cases g1 : has S = true
      · by_cases g2 : mayN L (lab S) = true
        · rw [show lookV has lab S L = nI 0 from by unfold lookV; rw [if_pos g1, if_pos g2]]
          refine g_istore (lv' := [(5, .int (nI 0)), (0, .ref (a 0)), (1, .int (nI S)), (2, .int (nI L)), (3, .int (nI q)), (4, .int (nI i))]) C dX2_read_52 (by decide) rfl ?_
          refine g_iload C dX2_read_54 0 rfl ?_
          refine g_if_ge (tgt := 62) C dX2_read_56 (by decide) (fun c56 => ?_) (fun c56 => ?_)
          · skip
            have c56 := cz_ge0 (by omega) c56
            refine g_aload_n C dX2_read_62 rfl 1 rfl ?_
            refine g_iload_n C dX2_read_63 rfl 3 rfl ?_
            refine g_iload_n C dX2_read_64 rfl 4 rfl ?_
            refine g_Vi (ci := 3) (st := []) C (k_X2_find l D cy zs a lab has quo spe nam gif fol siz cel giv nf lis lc see (va_up cnt S 0) 0 ⟨hnf, hlc, hlab, hquo, hspe, hnam, hsiz, hcnt49, hlis⟩ L q (by omega) (by omega)) gX2_read_X2_find rfl ⟨rfl, ydX2_find⟩ 0 rfl rfl ⟨Nat.le_of_ble_eq_true rfl, Nat.le_of_ble_eq_true rfl⟩ ⟨Nat.le_of_ble_eq_true rfl, Nat.le_of_ble_eq_true rfl⟩ rfl (Nat.le_of_ble_eq_true rfl) dX2_read_65 (fun r65 w65 h65 => ?_)
            obtain ⟨h65a, h65b⟩ := h65
            subst h65a
            subst h65b
            rcases e65 : findN nam nf (16 * L + q) with _ | f
            · skip
              refine g_istore (lv' := [(6, .int (-1)), (5, .int (nI 0)), (0, .ref (a 0)), (1, .int (nI S)), (2, .int (nI L)), (3, .int (nI q)), (4, .int (nI i))]) C dX2_read_68 (by decide) rfl ?_
              refine g_iload C dX2_read_70 0 rfl ?_
              refine g_iconst (v := (-1)) C dX2_read_72 (by decide +kernel) ?_
              refine g_icmp_eq (tgt := 88) C dX2_read_73 (by decide) (fun c73 => ?_) (fun c73 => ?_)
              · skip
                refine g_iconst (v := nI 0) C dX2_read_88 (by decide +kernel) ?_
                exact g_iret C rfl (Or.inr ⟨S, L, q, i, rfl, hS, rfl, hL, rfl, hq, rfl, hi, Or.inr (Or.inr (Or.inl (⟨(by simp only [lookD, olab_t g1, g2, Option.map_none, Option.map_some, Option.isSome_none, Option.isSome_some, Bool.false_eq_true, Bool.true_eq_false, eq_self, if_true, if_false]; repeat (first | rw [if_pos (by first | assumption | omega)] | rw [if_neg (by first | assumption | omega)])), (by simp only [readD, e65, Option.map_none, Option.map_some, Option.isSome_none, Option.isSome_some, Bool.false_eq_true, Bool.true_eq_false, eq_self, if_true, if_false]; repeat (first | rw [if_pos (by first | assumption | omega)] | rw [if_neg (by first | assumption | omega)])), rfl, rfl⟩)))⟩) (Nat.le_of_ble_eq_true rfl) (Nat.le_of_ble_eq_true rfl) dX2_read_89
              · skip
                exact absurd rfl c73
            · skip
              have q65 := findN_spec e65
              refine g_istore (lv' := [(6, .int (nI f)), (5, .int (nI 0)), (0, .ref (a 0)), (1, .int (nI S)), (2, .int (nI L)), (3, .int (nI q)), (4, .int (nI i))]) C dX2_read_68 (by decide) rfl ?_
              refine g_iload C dX2_read_70 0 rfl ?_
              refine g_iconst (v := (-1)) C dX2_read_72 (by decide +kernel) ?_
              refine g_icmp_eq (tgt := 88) C dX2_read_73 (by decide) (fun c73 => ?_) (fun c73 => ?_)
              · skip
                exact absurd c73 (nI_nem1 (by omega))
              · skip
                refine g_iload C dX2_read_76 6 rfl ?_
                refine g_aload_n C dX2_read_78 rfl 2 rfl ?_
                refine g_get (ci := 3) (v := .ref (a 8)) C iwX2_read_X2 0 rfl rfl 7 (by decide) (C.hw (List.mem_cons_of_mem _ (List.mem_append_left _ (List.mem_append_left _ (List.mem_of_getElem? (i := 0) rfl))))) (fun _ h9 => h9) rfl dX2_read_79 ?_
                refine g_iload C dX2_read_82 0 rfl ?_
                refine g_ialdN (nn := 200) (j := f) (f := siz) C 8 rfl (by omega) n31_200 dX2_read_84 ?_
                have b84 := hsiz f
                refine g_icmp_lt (tgt := 90) C dX2_read_85 (by decide) (fun c85 => ?_) (fun c85 => ?_)
                · skip
                  have c85 := c_lt0 (by omega) (by omega) c85
                  refine g_aload_n C dX2_read_90 rfl 2 rfl ?_
                  refine g_get (ci := 3) (v := .ref (a 12)) C iwX2_read_X2 0 rfl rfl 13 (by decide) (C.hw (List.mem_cons_of_mem _ (List.mem_append_left _ (List.mem_append_left _ (List.mem_of_getElem? (i := 1) rfl))))) (fun _ h9 => h9) rfl dX2_read_91 ?_
                  refine g_sipush (v := nI 200) C dX2_read_94 (by decide +kernel) ?_
                  refine g_iload_n C dX2_read_97 rfl 3 rfl ?_
                  refine g_imul (v := nI (200 * S)) C dX2_read_98 (pk_mul _ _) ?_
                  refine g_aload_n C dX2_read_99 rfl 2 rfl ?_
                  refine g_get (ci := 3) (v := .ref (a 9)) C iwX2_read_X2 0 rfl rfl 8 (by decide) (C.hw (List.mem_cons_of_mem _ (List.mem_append_left _ (List.mem_append_left _ (List.mem_of_getElem? (i := 2) rfl))))) (fun _ h9 => h9) rfl dX2_read_100 ?_
                  refine g_bipush (v := nI 24) C dX2_read_103 (by decide +kernel) ?_
                  refine g_iload C dX2_read_105 0 rfl ?_
                  refine g_imul (v := nI (24 * f)) C dX2_read_107 (pk_mul _ _) ?_
                  refine g_iload C dX2_read_108 6 rfl ?_
                  refine g_iadd (v := nI ((24 * f) + i)) C dX2_read_110 (nI_add _ _) ?_
                  refine g_ialdR (nn := 4800) (j := ((24 * f) + i)) (f := cel) C 9 rfl (by omega) n31_4800 dX2_read_111 ?_
                  refine g_iastR (nn := 3200) (j := (200 * S)) (v := cel ((24 * f) + i)) (f := see) (ws' := wM cy a lab has quo spe nam gif fol siz cel giv nf lis lc (upd see (200 * S) (cel ((24 * f) + i))) (va_up cnt S 0) 0) C 12 rfl (by omega) n31_3200 rfl dX2_read_112 ?_
                  refine g_aload_n C dX2_read_113 rfl 2 rfl ?_
                  refine g_get (ci := 3) (v := .ref (a 13)) C iwX2_read_X2 0 rfl rfl 14 (by decide) (C.hw (List.mem_cons_of_mem _ (List.mem_append_left _ (List.mem_append_left _ (List.mem_of_getElem? (i := 3) rfl))))) (fun _ h9 => h9) rfl dX2_read_114 ?_
                  refine g_iload_n C dX2_read_117 rfl 3 rfl ?_
                  refine g_iconst (v := nI 1) C dX2_read_118 (by decide +kernel) ?_
                  refine g_iastN (nn := 16) (j := S) (v := 1) (f := (va_up cnt S 0)) (ws' := wM cy a lab has quo spe nam gif fol siz cel giv nf lis lc (upd see (200 * S) (cel ((24 * f) + i))) (va_up (va_up cnt S 0) S 1) 0) C 13 rfl (by omega) n31_16 rfl dX2_read_119 ?_
                  have hcnt119 : ∀ i9, (va_up (va_up cnt S 0) S 1) i9 ≤ 200 := va_up_le hcnt49 (by omega)
                  refine g_iconst (v := nI 1) C dX2_read_120 (by decide +kernel) ?_
                  exact g_iret C rfl (Or.inr ⟨S, L, q, i, rfl, hS, rfl, hL, rfl, hq, rfl, hi, Or.inr (Or.inr (Or.inr (⟨f, e65, (by simp only [lookD, olab_t g1, g2, Option.map_none, Option.map_some, Option.isSome_none, Option.isSome_some, Bool.false_eq_true, Bool.true_eq_false, eq_self, if_true, if_false]; repeat (first | rw [if_pos (by first | assumption | omega)] | rw [if_neg (by first | assumption | omega)])), (by simp only [readD, e65, Option.map_none, Option.map_some, Option.isSome_none, Option.isSome_some, Bool.false_eq_true, Bool.true_eq_false, eq_self, if_true, if_false]; repeat (first | rw [if_pos (by first | assumption | omega)] | rw [if_neg (by first | assumption | omega)])), rfl, rfl⟩)))⟩) (Nat.le_of_ble_eq_true rfl) (Nat.le_of_ble_eq_true rfl) dX2_read_121
                · skip
                  have c85 := c_lt1 (by omega) (by omega) c85
                  refine g_iconst (v := nI 0) C dX2_read_88 (by decide +kernel) ?_
                  exact g_iret C rfl (Or.inr ⟨S, L, q, i, rfl, hS, rfl, hL, rfl, hq, rfl, hi, Or.inr (Or.inr (Or.inl (⟨(by simp only [lookD, olab_t g1, g2, Option.map_none, Option.map_some, Option.isSome_none, Option.isSome_some, Bool.false_eq_true, Bool.true_eq_false, eq_self, if_true, if_false]; repeat (first | rw [if_pos (by first | assumption | omega)] | rw [if_neg (by first | assumption | omega)])), (by simp only [readD, e65, Option.map_none, Option.map_some, Option.isSome_none, Option.isSome_some, Bool.false_eq_true, Bool.true_eq_false, eq_self, if_true, if_false]; repeat (first | rw [if_pos (by first | assumption | omega)] | rw [if_neg (by first | assumption | omega)])), rfl, rfl⟩)))⟩) (Nat.le_of_ble_eq_true rfl) (Nat.le_of_ble_eq_true rfl) dX2_read_89
          · skip
            exact absurd c56 (by decide +kernel)
        · rw [show lookV has lab S L = -2 from by unfold lookV; rw [if_pos g1, if_neg g2]]
          rw [Bool.not_eq_true] at g2
          refine g_istore (lv' := [(5, .int (-2)), (0, .ref (a 0)), (1, .int (nI S)), (2, .int (nI L)), (3, .int (nI q)), (4, .int (nI i))]) C dX2_read_52 (by decide) rfl ?_
          refine g_iload C dX2_read_54 0 rfl ?_
          refine g_if_ge (tgt := 62) C dX2_read_56 (by decide) (fun c56 => ?_) (fun c56 => ?_)
          · skip
            exact absurd c56 (by decide +kernel)
          · skip
            refine g_iload C dX2_read_59 0 rfl ?_
            exact g_iret C rfl (Or.inr ⟨S, L, q, i, rfl, hS, rfl, hL, rfl, hq, rfl, hi, Or.inr (Or.inl (⟨(by simp only [lookD, olab_t g1, g2, Option.map_none, Option.map_some, Option.isSome_none, Option.isSome_some, Bool.false_eq_true, Bool.true_eq_false, eq_self, if_true, if_false]; repeat (first | rw [if_pos (by first | assumption | omega)] | rw [if_neg (by first | assumption | omega)])), rfl, rfl⟩))⟩) (Nat.le_of_ble_eq_true rfl) (Nat.le_of_ble_eq_true rfl) dX2_read_61
      · rw [show lookV has lab S L = -1 from by unfold lookV; rw [if_neg g1]]
        rw [Bool.not_eq_true] at g1
        refine g_istore (lv' := [(5, .int (-1)), (0, .ref (a 0)), (1, .int (nI S)), (2, .int (nI L)), (3, .int (nI q)), (4, .int (nI i))]) C dX2_read_52 (by decide) rfl ?_
        refine g_iload C dX2_read_54 0 rfl ?_
        refine g_if_ge (tgt := 62) C dX2_read_56 (by decide) (fun c56 => ?_) (fun c56 => ?_)
        · skip
          exact absurd c56 (by decide +kernel)
        · skip
          refine g_iload C dX2_read_59 0 rfl ?_
          exact g_iret C rfl (Or.inr ⟨S, L, q, i, rfl, hS, rfl, hL, rfl, hq, rfl, hi, Or.inl (⟨(by simp only [lookD, olab_f g1, Option.map_none, Option.map_some, Option.isSome_none, Option.isSome_some, Bool.false_eq_true, Bool.true_eq_false, eq_self, if_true, if_false]; repeat (first | rw [if_pos (by first | assumption | omega)] | rw [if_neg (by first | assumption | omega)])), rfl, rfl⟩)⟩) (Nat.le_of_ble_eq_true rfl) (Nat.le_of_ble_eq_true rfl) dX2_read_61
    · skip
      have c41 := cb_eq1 c41
      subst c41
      refine g_iconst (v := nI 0) C dX2_read_44 (by decide +kernel) ?_
      exact g_iret C rfl (Or.inl ⟨h37.symm, rfl, rfl⟩) (Nat.le_of_ble_eq_true rfl) (Nat.le_of_ble_eq_true rfl) dX2_read_45
  · skip
    refine g_iload_n C dX2_read_1 rfl 1 rfl ?_
    refine g_Si (st := [.ref (a 0)]) C (k_X2_isSubject l D cy zs (wM cy a lab has quo spe nam gif fol siz cel giv nf lis lc see cnt thr) p0) gX2_read_X2_isSubject rfl ydX2_isSubject ⟨Nat.le_of_ble_eq_true rfl, Nat.le_of_ble_eq_true rfl⟩ ⟨Nat.le_of_ble_eq_true rfl, Nat.le_of_ble_eq_true rfl⟩ rfl (Nat.le_of_ble_eq_true rfl) dX2_read_2 (fun r2 w2 h2 => ?_)
    obtain ⟨h2a, h2b⟩ := h2
    subst h2a
    subst h2b
    refine g_if_eq (tgt := 32) C dX2_read_5 (by decide) (fun c5 => ?_) (fun c5 => ?_)
    · skip
      have c5 := cb_eq0 c5
      refine g_iconst (v := nI 1) C dX2_read_32 (by decide +kernel) ?_
      refine g_goto (tgt := 37) C dX2_read_33 (by decide) ?_
      exact g_sub (lv' := [(0, .ref (a 0)), (1, .int p0), (2, .int p1), (3, .int p2), (4, .int p3)]) [0, 1, 2, 3, 4] rfl (J37 true (by simp [c5]))
    · skip
      have c5 := cb_eq1 c5
      refine g_iload_n C dX2_read_8 rfl 2 rfl ?_
      refine g_Si (st := [.ref (a 0)]) C (k_X2_isLabel l D cy zs (wM cy a lab has quo spe nam gif fol siz cel giv nf lis lc see cnt thr) p1) gX2_read_X2_isLabel rfl ydX2_isLabel ⟨Nat.le_of_ble_eq_true rfl, Nat.le_of_ble_eq_true rfl⟩ ⟨Nat.le_of_ble_eq_true rfl, Nat.le_of_ble_eq_true rfl⟩ rfl (Nat.le_of_ble_eq_true rfl) dX2_read_9 (fun r9 w9 h9 => ?_)
      obtain ⟨h9a, h9b⟩ := h9
      subst h9a
      subst h9b
      refine g_if_eq (tgt := 32) C dX2_read_12 (by decide) (fun c12 => ?_) (fun c12 => ?_)
      · skip
        have c12 := cb_eq0 c12
        refine g_iconst (v := nI 1) C dX2_read_32 (by decide +kernel) ?_
        refine g_goto (tgt := 37) C dX2_read_33 (by decide) ?_
        exact g_sub (lv' := [(0, .ref (a 0)), (1, .int p0), (2, .int p1), (3, .int p2), (4, .int p3)]) [0, 1, 2, 3, 4] rfl (J37 true (by simp [c5, c12]))
      · skip
        have c12 := cb_eq1 c12
        refine g_iload_n C dX2_read_15 rfl 3 rfl ?_
        refine g_Si (st := [.ref (a 0)]) C (k_X2_isNumber l D cy zs (wM cy a lab has quo spe nam gif fol siz cel giv nf lis lc see cnt thr) p2) gX2_read_X2_isNumber rfl ydX2_isNumber ⟨Nat.le_of_ble_eq_true rfl, Nat.le_of_ble_eq_true rfl⟩ ⟨Nat.le_of_ble_eq_true rfl, Nat.le_of_ble_eq_true rfl⟩ rfl (Nat.le_of_ble_eq_true rfl) dX2_read_16 (fun r16 w16 h16 => ?_)
        obtain ⟨h16a, h16b⟩ := h16
        subst h16a
        subst h16b
        refine g_if_eq (tgt := 32) C dX2_read_19 (by decide) (fun c19 => ?_) (fun c19 => ?_)
        · skip
          have c19 := cb_eq0 c19
          refine g_iconst (v := nI 1) C dX2_read_32 (by decide +kernel) ?_
          refine g_goto (tgt := 37) C dX2_read_33 (by decide) ?_
          exact g_sub (lv' := [(0, .ref (a 0)), (1, .int p0), (2, .int p1), (3, .int p2), (4, .int p3)]) [0, 1, 2, 3, 4] rfl (J37 true (by simp [c5, c12, c19]))
        · skip
          have c19 := cb_eq1 c19
          refine g_iload C dX2_read_22 4 rfl ?_
          refine g_bipush (v := nI 24) C dX2_read_24 (by decide +kernel) ?_
          refine g_Si (st := [.ref (a 0)]) C (k_X2_within l D cy zs (wM cy a lab has quo spe nam gif fol siz cel giv nf lis lc see cnt thr) p3 24) gX2_read_X2_within rfl ydX2_within ⟨Nat.le_of_ble_eq_true rfl, Nat.le_of_ble_eq_true rfl⟩ ⟨Nat.le_of_ble_eq_true rfl, Nat.le_of_ble_eq_true rfl⟩ rfl (Nat.le_of_ble_eq_true rfl) dX2_read_26 (fun r26 w26 h26 => ?_)
          obtain ⟨h26a, h26b⟩ := h26
          subst h26a
          subst h26b
          refine g_if_ne (tgt := 36) C dX2_read_29 (by decide) (fun c29 => ?_) (fun c29 => ?_)
          · skip
            have c29 := cb_eq1 c29
            refine g_iconst (v := nI 0) C dX2_read_36 (by decide +kernel) ?_
            exact g_sub (lv' := [(0, .ref (a 0)), (1, .int p0), (2, .int p1), (3, .int p2), (4, .int p3)]) [0, 1, 2, 3, 4] rfl (J37 false (by simp [c5, c12, c19, c29]))
          · skip
            have c29 := cb_eq0 c29
            refine g_iconst (v := nI 1) C dX2_read_32 (by decide +kernel) ?_
            refine g_goto (tgt := 37) C dX2_read_33 (by decide) ?_
            exact g_sub (lv' := [(0, .ref (a 0)), (1, .int p0), (2, .int p1), (3, .int p2), (4, .int p3)]) [0, 1, 2, 3, 4] rfl (J37 true (by simp [c5, c12, c19, c29]))
abbrev rmX2_size : Room := { frames := 2, cells := 0, slots := 0, locals := 44 }
theorem ydX2_size : yX2_size.cls ≠ "java/lang/invoke/MethodHandle" ∧ yX2_size.cls ≠ "java/lang/invoke/VarHandle" ∧ (parseMethodDescriptor yX2_size.desc).map (fun d => d.parameters.length) = some 3 := by decide +kernel
theorem iwX2_size_X2 : ∀ w ∈ u_ws RX2 TX2 16, w ∈ wsX2_size := fun _ h => (List.mem_cons_of_mem _ (List.mem_append_right _ h))
set_option maxRecDepth 100000 in
set_option maxHeartbeats 4000000 in
theorem k_X2_size (l : Launch) (D : va_G) (cy : Nat → ClassId) (zs : Nat → Nat) (a : Nat → Nat) (lab : Nat → Nat) (has : Nat → Bool) (quo : Nat → Nat) (spe : Nat → Nat) (nam : Nat → Nat) (gif : Nat → Bool) (fol : Nat → Int32) (siz : Nat → Nat) (cel : Nat → Int32) (giv : Nat → Bool) (nf : Nat) (lis : Nat → Nat) (lc : Nat) (see : Nat → Int32) (cnt : Nat → Nat) (thr : Nat) (hI : MI lab quo spe nam siz cnt lis nf lc) (p0 : Int32) (p1 : Int32) (p2 : Int32)  : Mi l D cy zs yX2_size wsX2_size rmX2_size [.ref (a 0), .int p0, .int p1, .int p2] (wM cy a lab has quo spe nam gif fol siz cel giv nf lis lc see cnt thr) ((fun (r : Int32) (w : va_W) => ((!inB p0 16 || !inB p1 1024 || !inB p2 16) = true ∧ r = nI 0 ∧ w = wM cy a lab has quo spe nam gif fol siz cel giv nf lis lc see cnt 1) ∨ ∃ S L q, p0 = nI S ∧ S < 16 ∧ p1 = nI L ∧ L < 1024 ∧ p2 = nI q ∧ q < 16 ∧ ((lookD (olab has lab S) L = 0 ∧ r = -1 ∧ w = wM cy a lab has quo spe nam gif fol siz cel giv nf lis lc see (va_up cnt S 0) 0) ∨ (lookD (olab has lab S) L = 1 ∧ r = -2 ∧ w = wM cy a lab has quo spe nam gif fol siz cel giv nf lis lc see (va_up cnt S 0) 0) ∨ (lookD (olab has lab S) L = 2 ∧ r = nI (((findN nam nf (16 * L + q)).map siz).getD 0) ∧ w = wM cy a lab has quo spe nam gif fol siz cel giv nf lis lc see (va_up cnt S 0) 0)))) := by
  refine Mi.of (lv := [(0, .ref (a 0)), (1, .int p0), (2, .int p1), (3, .int p2)]) RX2 ⟨by decide, rfl⟩ rfl (Nat.le_of_ble_eq_true rfl) rfl ?_
  intro p e s m args below meth c A C hnm
  obtain ⟨hnf, hlc, hlab, hquo, hspe, hnam, hsiz, hcnt, hlis⟩ := id hI
  refine g_aload_n C dX2_size_0 rfl 0 rfl ?_
  refine g_join (fun v27 : Bool => v27 = (!inB p0 16 || !inB p1 1024 || !inB p2 16)) 27 (wM cy a lab has quo spe nam gif fol siz cel giv nf lis lc see cnt thr) [(0, .ref (a 0)), (1, .int p0), (2, .int p1), (3, .int p2)] (fun v27 => [.int (bI v27), .ref (a 0)]) (fun v27 h27 => ?_) (fun J27 => ?_)
  · skip
    refine g_iconst (v := nI 1) C dX2_size_27 (by decide +kernel) ?_
    refine g_Vi (ci := 3) (st := []) C (k_X2_fails l D cy zs a lab has quo spe nam gif fol siz cel giv nf lis lc see cnt thr ⟨hnf, hlc, hlab, hquo, hspe, hnam, hsiz, hcnt, hlis⟩ v27 1) gX2_size_X2_fails rfl ⟨rfl, ydX2_fails⟩ 0 rfl rfl ⟨Nat.le_of_ble_eq_true rfl, Nat.le_of_ble_eq_true rfl⟩ ⟨Nat.le_of_ble_eq_true rfl, Nat.le_of_ble_eq_true rfl⟩ rfl (Nat.le_of_ble_eq_true rfl) dX2_size_28 (fun r28 w28 h28 => ?_)
    obtain ⟨h28a, h28b⟩ := h28
    subst h28a
    subst h28b
    refine g_if_eq (tgt := 36) C dX2_size_31 (by decide) (fun c31 => ?_) (fun c31 => ?_)
    · skip
      have c31 := cb_eq0 c31
      subst c31
      obtain ⟨qp0, qp1, qp2⟩ : inB p0 16 = true ∧ inB p1 1024 = true ∧ inB p2 16 = true := by revert h27; cases inB p0 16 <;> cases inB p1 1024 <;> cases inB p2 16 <;> simp
      obtain ⟨S, hS, eS⟩ := inB_of (Nat.le_of_ble_eq_true rfl) qp0
      subst eS
      obtain ⟨L, hL, eL⟩ := inB_of (Nat.le_of_ble_eq_true rfl) qp1
      subst eL
      obtain ⟨q, hq, eq⟩ := inB_of (Nat.le_of_ble_eq_true rfl) qp2
      subst eq
      refine g_aload_n C dX2_size_36 rfl 0 rfl ?_
      refine g_iload_n C dX2_size_37 rfl 1 rfl ?_
      refine g_iload_n C dX2_size_38 rfl 2 rfl ?_
      refine g_Vi (ci := 3) (st := []) C (k_X2_look l D cy zs a lab has quo spe nam gif fol siz cel giv nf lis lc see cnt 0 ⟨hnf, hlc, hlab, hquo, hspe, hnam, hsiz, hcnt, hlis⟩ S L (by omega) (by omega)) gX2_size_X2_look rfl ⟨rfl, ydX2_look⟩ 0 rfl rfl ⟨Nat.le_of_ble_eq_true rfl, Nat.le_of_ble_eq_true rfl⟩ ⟨Nat.le_of_ble_eq_true rfl, Nat.le_of_ble_eq_true rfl⟩ rfl (Nat.le_of_ble_eq_true rfl) dX2_size_39 (fun r39 w39 h39 => ?_)
      have hcnt39 : ∀ i, va_up cnt S 0 i ≤ 200 := va_up_le hcnt (Nat.zero_le _)
      obtain ⟨h39a, h39b⟩ := h39
      subst h39a
      subst h39b
      by_cases g1 : has S = true
      · by_cases g2 : mayN L (lab S) = true
        · rw [show lookV has lab S L = nI 0 from by unfold lookV; rw [if_pos g1, if_pos g2]]
          refine g_istore (lv' := [(4, .int (nI 0)), (0, .ref (a 0)), (1, .int (nI S)), (2, .int (nI L)), (3, .int (nI q))]) C dX2_size_42 (by decide) rfl ?_
          refine g_iload C dX2_size_44 0 rfl ?_
          refine g_if_ge (tgt := 52) C dX2_size_46 (by decide) (fun c46 => ?_) (fun c46 => ?_)
          · skip
            have c46 := cz_ge0 (by omega) c46
            refine g_aload_n C dX2_size_52 rfl 1 rfl ?_
            refine g_iload_n C dX2_size_53 rfl 3 rfl ?_
            refine g_iload_n C dX2_size_54 rfl 4 rfl ?_
            refine g_Vi (ci := 3) (st := []) C (k_X2_find l D cy zs a lab has quo spe nam gif fol siz cel giv nf lis lc see (va_up cnt S 0) 0 ⟨hnf, hlc, hlab, hquo, hspe, hnam, hsiz, hcnt39, hlis⟩ L q (by omega) (by omega)) gX2_size_X2_find rfl ⟨rfl, ydX2_find⟩ 0 rfl rfl ⟨Nat.le_of_ble_eq_true rfl, Nat.le_of_ble_eq_true rfl⟩ ⟨Nat.le_of_ble_eq_true rfl, Nat.le_of_ble_eq_true rfl⟩ rfl (Nat.le_of_ble_eq_true rfl) dX2_size_55 (fun r55 w55 h55 => ?_)
            obtain ⟨h55a, h55b⟩ := h55
            subst h55a
            subst h55b
            rcases e55 : findN nam nf (16 * L + q) with _ | f
            · skip
              refine g_istore (lv' := [(5, .int (-1)), (4, .int (nI 0)), (0, .ref (a 0)), (1, .int (nI S)), (2, .int (nI L)), (3, .int (nI q))]) C dX2_size_58 (by decide) rfl ?_
              refine g_iload C dX2_size_60 0 rfl ?_
              refine g_iconst (v := (-1)) C dX2_size_62 (by decide +kernel) ?_
              refine g_icmp_ne (tgt := 70) C dX2_size_63 (by decide) (fun c63 => ?_) (fun c63 => ?_)
              · skip
                exact absurd rfl c63
              · skip
                refine g_iconst (v := nI 0) C dX2_size_66 (by decide +kernel) ?_
                refine g_goto (tgt := 77) C dX2_size_67 (by decide) ?_
                exact g_iret C rfl (Or.inr ⟨S, L, q, rfl, hS, rfl, hL, rfl, hq, Or.inr (Or.inr (⟨(by simp only [lookD, olab_t g1, g2, Option.map_none, Option.map_some, Option.isSome_none, Option.isSome_some, Bool.false_eq_true, Bool.true_eq_false, eq_self, if_true, if_false]; repeat (first | rw [if_pos (by first | assumption | omega)] | rw [if_neg (by first | assumption | omega)])), by rw [e55]; rfl, rfl⟩))⟩) (Nat.le_of_ble_eq_true rfl) (Nat.le_of_ble_eq_true rfl) dX2_size_77
            · skip
              have q55 := findN_spec e55
              refine g_istore (lv' := [(5, .int (nI f)), (4, .int (nI 0)), (0, .ref (a 0)), (1, .int (nI S)), (2, .int (nI L)), (3, .int (nI q))]) C dX2_size_58 (by decide) rfl ?_
              refine g_iload C dX2_size_60 0 rfl ?_
              refine g_iconst (v := (-1)) C dX2_size_62 (by decide +kernel) ?_
              refine g_icmp_ne (tgt := 70) C dX2_size_63 (by decide) (fun c63 => ?_) (fun c63 => ?_)
              · skip
                refine g_aload_n C dX2_size_70 rfl 2 rfl ?_
                refine g_get (ci := 3) (v := .ref (a 8)) C iwX2_size_X2 0 rfl rfl 7 (by decide) (C.hw (List.mem_cons_of_mem _ (List.mem_append_left _ (List.mem_append_left _ (List.mem_of_getElem? (i := 0) rfl))))) (fun _ h9 => h9) rfl dX2_size_71 ?_
                refine g_iload C dX2_size_74 0 rfl ?_
                refine g_ialdN (nn := 200) (j := f) (f := siz) C 8 rfl (by omega) n31_200 dX2_size_76 ?_
                have b76 := hsiz f
                exact g_iret C rfl (Or.inr ⟨S, L, q, rfl, hS, rfl, hL, rfl, hq, Or.inr (Or.inr (⟨(by simp only [lookD, olab_t g1, g2, Option.map_none, Option.map_some, Option.isSome_none, Option.isSome_some, Bool.false_eq_true, Bool.true_eq_false, eq_self, if_true, if_false]; repeat (first | rw [if_pos (by first | assumption | omega)] | rw [if_neg (by first | assumption | omega)])), by rw [e55]; rfl, rfl⟩))⟩) (Nat.le_of_ble_eq_true rfl) (Nat.le_of_ble_eq_true rfl) dX2_size_77
              · skip
                exact absurd c63 (nI_nem1 (by omega))
          · skip
            exact absurd c46 (by decide +kernel)
        · rw [show lookV has lab S L = -2 from by unfold lookV; rw [if_pos g1, if_neg g2]]
          rw [Bool.not_eq_true] at g2
          refine g_istore (lv' := [(4, .int (-2)), (0, .ref (a 0)), (1, .int (nI S)), (2, .int (nI L)), (3, .int (nI q))]) C dX2_size_42 (by decide) rfl ?_
          refine g_iload C dX2_size_44 0 rfl ?_
          refine g_if_ge (tgt := 52) C dX2_size_46 (by decide) (fun c46 => ?_) (fun c46 => ?_)
          · skip
            exact absurd c46 (by decide +kernel)
          · skip
            refine g_iload C dX2_size_49 0 rfl ?_
            exact g_iret C rfl (Or.inr ⟨S, L, q, rfl, hS, rfl, hL, rfl, hq, Or.inr (Or.inl (⟨(by simp only [lookD, olab_t g1, g2, Option.map_none, Option.map_some, Option.isSome_none, Option.isSome_some, Bool.false_eq_true, Bool.true_eq_false, eq_self, if_true, if_false]; repeat (first | rw [if_pos (by first | assumption | omega)] | rw [if_neg (by first | assumption | omega)])), rfl, rfl⟩))⟩) (Nat.le_of_ble_eq_true rfl) (Nat.le_of_ble_eq_true rfl) dX2_size_51
      · rw [show lookV has lab S L = -1 from by unfold lookV; rw [if_neg g1]]
        rw [Bool.not_eq_true] at g1
        refine g_istore (lv' := [(4, .int (-1)), (0, .ref (a 0)), (1, .int (nI S)), (2, .int (nI L)), (3, .int (nI q))]) C dX2_size_42 (by decide) rfl ?_
        refine g_iload C dX2_size_44 0 rfl ?_
        refine g_if_ge (tgt := 52) C dX2_size_46 (by decide) (fun c46 => ?_) (fun c46 => ?_)
        · skip
          exact absurd c46 (by decide +kernel)
        · skip
          refine g_iload C dX2_size_49 0 rfl ?_
          exact g_iret C rfl (Or.inr ⟨S, L, q, rfl, hS, rfl, hL, rfl, hq, Or.inl (⟨(by simp only [lookD, olab_f g1, Option.map_none, Option.map_some, Option.isSome_none, Option.isSome_some, Bool.false_eq_true, Bool.true_eq_false, eq_self, if_true, if_false]; repeat (first | rw [if_pos (by first | assumption | omega)] | rw [if_neg (by first | assumption | omega)])), rfl, rfl⟩)⟩) (Nat.le_of_ble_eq_true rfl) (Nat.le_of_ble_eq_true rfl) dX2_size_51
    · skip
      have c31 := cb_eq1 c31
      subst c31
      refine g_iconst (v := nI 0) C dX2_size_34 (by decide +kernel) ?_
      exact g_iret C rfl (Or.inl ⟨h27.symm, rfl, rfl⟩) (Nat.le_of_ble_eq_true rfl) (Nat.le_of_ble_eq_true rfl) dX2_size_35
  · skip
    refine g_iload_n C dX2_size_1 rfl 1 rfl ?_
    refine g_Si (st := [.ref (a 0)]) C (k_X2_isSubject l D cy zs (wM cy a lab has quo spe nam gif fol siz cel giv nf lis lc see cnt thr) p0) gX2_size_X2_isSubject rfl ydX2_isSubject ⟨Nat.le_of_ble_eq_true rfl, Nat.le_of_ble_eq_true rfl⟩ ⟨Nat.le_of_ble_eq_true rfl, Nat.le_of_ble_eq_true rfl⟩ rfl (Nat.le_of_ble_eq_true rfl) dX2_size_2 (fun r2 w2 h2 => ?_)
    obtain ⟨h2a, h2b⟩ := h2
    subst h2a
    subst h2b
    refine g_if_eq (tgt := 22) C dX2_size_5 (by decide) (fun c5 => ?_) (fun c5 => ?_)
    · skip
      have c5 := cb_eq0 c5
      refine g_iconst (v := nI 1) C dX2_size_22 (by decide +kernel) ?_
      refine g_goto (tgt := 27) C dX2_size_23 (by decide) ?_
      exact g_sub (lv' := [(0, .ref (a 0)), (1, .int p0), (2, .int p1), (3, .int p2)]) [0, 1, 2, 3] rfl (J27 true (by simp [c5]))
    · skip
      have c5 := cb_eq1 c5
      refine g_iload_n C dX2_size_8 rfl 2 rfl ?_
      refine g_Si (st := [.ref (a 0)]) C (k_X2_isLabel l D cy zs (wM cy a lab has quo spe nam gif fol siz cel giv nf lis lc see cnt thr) p1) gX2_size_X2_isLabel rfl ydX2_isLabel ⟨Nat.le_of_ble_eq_true rfl, Nat.le_of_ble_eq_true rfl⟩ ⟨Nat.le_of_ble_eq_true rfl, Nat.le_of_ble_eq_true rfl⟩ rfl (Nat.le_of_ble_eq_true rfl) dX2_size_9 (fun r9 w9 h9 => ?_)
      obtain ⟨h9a, h9b⟩ := h9
      subst h9a
      subst h9b
      refine g_if_eq (tgt := 22) C dX2_size_12 (by decide) (fun c12 => ?_) (fun c12 => ?_)
      · skip
        have c12 := cb_eq0 c12
        refine g_iconst (v := nI 1) C dX2_size_22 (by decide +kernel) ?_
        refine g_goto (tgt := 27) C dX2_size_23 (by decide) ?_
        exact g_sub (lv' := [(0, .ref (a 0)), (1, .int p0), (2, .int p1), (3, .int p2)]) [0, 1, 2, 3] rfl (J27 true (by simp [c5, c12]))
      · skip
        have c12 := cb_eq1 c12
        refine g_iload_n C dX2_size_15 rfl 3 rfl ?_
        refine g_Si (st := [.ref (a 0)]) C (k_X2_isNumber l D cy zs (wM cy a lab has quo spe nam gif fol siz cel giv nf lis lc see cnt thr) p2) gX2_size_X2_isNumber rfl ydX2_isNumber ⟨Nat.le_of_ble_eq_true rfl, Nat.le_of_ble_eq_true rfl⟩ ⟨Nat.le_of_ble_eq_true rfl, Nat.le_of_ble_eq_true rfl⟩ rfl (Nat.le_of_ble_eq_true rfl) dX2_size_16 (fun r16 w16 h16 => ?_)
        obtain ⟨h16a, h16b⟩ := h16
        subst h16a
        subst h16b
        refine g_if_ne (tgt := 26) C dX2_size_19 (by decide) (fun c19 => ?_) (fun c19 => ?_)
        · skip
          have c19 := cb_eq1 c19
          refine g_iconst (v := nI 0) C dX2_size_26 (by decide +kernel) ?_
          exact g_sub (lv' := [(0, .ref (a 0)), (1, .int p0), (2, .int p1), (3, .int p2)]) [0, 1, 2, 3] rfl (J27 false (by simp [c5, c12, c19]))
        · skip
          have c19 := cb_eq0 c19
          refine g_iconst (v := nI 1) C dX2_size_22 (by decide +kernel) ?_
          refine g_goto (tgt := 27) C dX2_size_23 (by decide) ?_
          exact g_sub (lv' := [(0, .ref (a 0)), (1, .int p0), (2, .int p1), (3, .int p2)]) [0, 1, 2, 3] rfl (J27 true (by simp [c5, c12, c19]))
abbrev rmX2_there : Room := { frames := 2, cells := 0, slots := 0, locals := 44 }
theorem ydX2_there : yX2_there.cls ≠ "java/lang/invoke/MethodHandle" ∧ yX2_there.cls ≠ "java/lang/invoke/VarHandle" ∧ (parseMethodDescriptor yX2_there.desc).map (fun d => d.parameters.length) = some 3 := by decide +kernel
theorem iwX2_there_X2 : ∀ w ∈ u_ws RX2 TX2 16, w ∈ wsX2_there := fun _ h => (List.mem_cons_of_mem _ (List.mem_append_right _ h))
set_option maxRecDepth 100000 in
set_option maxHeartbeats 4000000 in
theorem k_X2_there (l : Launch) (D : va_G) (cy : Nat → ClassId) (zs : Nat → Nat) (a : Nat → Nat) (lab : Nat → Nat) (has : Nat → Bool) (quo : Nat → Nat) (spe : Nat → Nat) (nam : Nat → Nat) (gif : Nat → Bool) (fol : Nat → Int32) (siz : Nat → Nat) (cel : Nat → Int32) (giv : Nat → Bool) (nf : Nat) (lis : Nat → Nat) (lc : Nat) (see : Nat → Int32) (cnt : Nat → Nat) (thr : Nat) (hI : MI lab quo spe nam siz cnt lis nf lc) (p0 : Int32) (p1 : Int32) (p2 : Int32)  : Mi l D cy zs yX2_there wsX2_there rmX2_there [.ref (a 0), .int p0, .int p1, .int p2] (wM cy a lab has quo spe nam gif fol siz cel giv nf lis lc see cnt thr) ((fun (r : Int32) (w : va_W) => ((!inB p0 16 || !inB p1 1024 || !inB p2 16) = true ∧ r = nI 0 ∧ w = wM cy a lab has quo spe nam gif fol siz cel giv nf lis lc see cnt 1) ∨ ∃ S L q, p0 = nI S ∧ S < 16 ∧ p1 = nI L ∧ L < 1024 ∧ p2 = nI q ∧ q < 16 ∧ ((lookD (olab has lab S) L = 0 ∧ r = -1 ∧ w = wM cy a lab has quo spe nam gif fol siz cel giv nf lis lc see (va_up cnt S 0) 0) ∨ (lookD (olab has lab S) L = 1 ∧ r = -2 ∧ w = wM cy a lab has quo spe nam gif fol siz cel giv nf lis lc see (va_up cnt S 0) 0) ∨ (lookD (olab has lab S) L = 2 ∧ r = bI (findN nam nf (16 * L + q)).isSome ∧ w = wM cy a lab has quo spe nam gif fol siz cel giv nf lis lc see (va_up cnt S 0) 0)))) := by
  refine Mi.of (lv := [(0, .ref (a 0)), (1, .int p0), (2, .int p1), (3, .int p2)]) RX2 ⟨by decide, rfl⟩ rfl (Nat.le_of_ble_eq_true rfl) rfl ?_
  intro p e s m args below meth c A C hnm
  obtain ⟨hnf, hlc, hlab, hquo, hspe, hnam, hsiz, hcnt, hlis⟩ := id hI
  refine g_aload_n C dX2_there_0 rfl 0 rfl ?_
  refine g_join (fun v27 : Bool => v27 = (!inB p0 16 || !inB p1 1024 || !inB p2 16)) 27 (wM cy a lab has quo spe nam gif fol siz cel giv nf lis lc see cnt thr) [(0, .ref (a 0)), (1, .int p0), (2, .int p1), (3, .int p2)] (fun v27 => [.int (bI v27), .ref (a 0)]) (fun v27 h27 => ?_) (fun J27 => ?_)
  · skip
    refine g_iconst (v := nI 1) C dX2_there_27 (by decide +kernel) ?_
    refine g_Vi (ci := 3) (st := []) C (k_X2_fails l D cy zs a lab has quo spe nam gif fol siz cel giv nf lis lc see cnt thr ⟨hnf, hlc, hlab, hquo, hspe, hnam, hsiz, hcnt, hlis⟩ v27 1) gX2_there_X2_fails rfl ⟨rfl, ydX2_fails⟩ 0 rfl rfl ⟨Nat.le_of_ble_eq_true rfl, Nat.le_of_ble_eq_true rfl⟩ ⟨Nat.le_of_ble_eq_true rfl, Nat.le_of_ble_eq_true rfl⟩ rfl (Nat.le_of_ble_eq_true rfl) dX2_there_28 (fun r28 w28 h28 => ?_)
    obtain ⟨h28a, h28b⟩ := h28
    subst h28a
    subst h28b
    refine g_if_eq (tgt := 36) C dX2_there_31 (by decide) (fun c31 => ?_) (fun c31 => ?_)
    · skip
      have c31 := cb_eq0 c31
      subst c31
      obtain ⟨qp0, qp1, qp2⟩ : inB p0 16 = true ∧ inB p1 1024 = true ∧ inB p2 16 = true := by revert h27; cases inB p0 16 <;> cases inB p1 1024 <;> cases inB p2 16 <;> simp
      obtain ⟨S, hS, eS⟩ := inB_of (Nat.le_of_ble_eq_true rfl) qp0
      subst eS
      obtain ⟨L, hL, eL⟩ := inB_of (Nat.le_of_ble_eq_true rfl) qp1
      subst eL
      obtain ⟨q, hq, eq⟩ := inB_of (Nat.le_of_ble_eq_true rfl) qp2
      subst eq
      refine g_aload_n C dX2_there_36 rfl 0 rfl ?_
      refine g_iload_n C dX2_there_37 rfl 1 rfl ?_
      refine g_iload_n C dX2_there_38 rfl 2 rfl ?_
      refine g_Vi (ci := 3) (st := []) C (k_X2_look l D cy zs a lab has quo spe nam gif fol siz cel giv nf lis lc see cnt 0 ⟨hnf, hlc, hlab, hquo, hspe, hnam, hsiz, hcnt, hlis⟩ S L (by omega) (by omega)) gX2_there_X2_look rfl ⟨rfl, ydX2_look⟩ 0 rfl rfl ⟨Nat.le_of_ble_eq_true rfl, Nat.le_of_ble_eq_true rfl⟩ ⟨Nat.le_of_ble_eq_true rfl, Nat.le_of_ble_eq_true rfl⟩ rfl (Nat.le_of_ble_eq_true rfl) dX2_there_39 (fun r39 w39 h39 => ?_)
      have hcnt39 : ∀ i, va_up cnt S 0 i ≤ 200 := va_up_le hcnt (Nat.zero_le _)
      obtain ⟨h39a, h39b⟩ := h39
      subst h39a
      subst h39b
      by_cases g1 : has S = true
      · by_cases g2 : mayN L (lab S) = true
        · rw [show lookV has lab S L = nI 0 from by unfold lookV; rw [if_pos g1, if_pos g2]]
          refine g_istore (lv' := [(4, .int (nI 0)), (0, .ref (a 0)), (1, .int (nI S)), (2, .int (nI L)), (3, .int (nI q))]) C dX2_there_42 (by decide) rfl ?_
          refine g_iload C dX2_there_44 0 rfl ?_
          refine g_if_ge (tgt := 52) C dX2_there_46 (by decide) (fun c46 => ?_) (fun c46 => ?_)
          · skip
            have c46 := cz_ge0 (by omega) c46
            refine g_aload_n C dX2_there_52 rfl 1 rfl ?_
            refine g_iload_n C dX2_there_53 rfl 3 rfl ?_
            refine g_iload_n C dX2_there_54 rfl 4 rfl ?_
            refine g_Vi (ci := 3) (st := []) C (k_X2_find l D cy zs a lab has quo spe nam gif fol siz cel giv nf lis lc see (va_up cnt S 0) 0 ⟨hnf, hlc, hlab, hquo, hspe, hnam, hsiz, hcnt39, hlis⟩ L q (by omega) (by omega)) gX2_there_X2_find rfl ⟨rfl, ydX2_find⟩ 0 rfl rfl ⟨Nat.le_of_ble_eq_true rfl, Nat.le_of_ble_eq_true rfl⟩ ⟨Nat.le_of_ble_eq_true rfl, Nat.le_of_ble_eq_true rfl⟩ rfl (Nat.le_of_ble_eq_true rfl) dX2_there_55 (fun r55 w55 h55 => ?_)
            obtain ⟨h55a, h55b⟩ := h55
            subst h55a
            subst h55b
            rcases e55 : findN nam nf (16 * L + q) with _ | f
            · skip
              refine g_iconst (v := (-1)) C dX2_there_58 (by decide +kernel) ?_
              refine g_icmp_ne (tgt := 66) C dX2_there_59 (by decide) (fun c59 => ?_) (fun c59 => ?_)
              · skip
                exact absurd rfl c59
              · skip
                refine g_iconst (v := nI 0) C dX2_there_62 (by decide +kernel) ?_
                refine g_goto (tgt := 67) C dX2_there_63 (by decide) ?_
                exact g_iret C rfl (Or.inr ⟨S, L, q, rfl, hS, rfl, hL, rfl, hq, Or.inr (Or.inr (⟨(by simp only [lookD, olab_t g1, g2, Option.map_none, Option.map_some, Option.isSome_none, Option.isSome_some, Bool.false_eq_true, Bool.true_eq_false, eq_self, if_true, if_false]; repeat (first | rw [if_pos (by first | assumption | omega)] | rw [if_neg (by first | assumption | omega)])), by rw [e55]; rfl, rfl⟩))⟩) (Nat.le_of_ble_eq_true rfl) (Nat.le_of_ble_eq_true rfl) dX2_there_67
            · skip
              have q55 := findN_spec e55
              refine g_iconst (v := (-1)) C dX2_there_58 (by decide +kernel) ?_
              refine g_icmp_ne (tgt := 66) C dX2_there_59 (by decide) (fun c59 => ?_) (fun c59 => ?_)
              · skip
                refine g_iconst (v := nI 1) C dX2_there_66 (by decide +kernel) ?_
                exact g_iret C rfl (Or.inr ⟨S, L, q, rfl, hS, rfl, hL, rfl, hq, Or.inr (Or.inr (⟨(by simp only [lookD, olab_t g1, g2, Option.map_none, Option.map_some, Option.isSome_none, Option.isSome_some, Bool.false_eq_true, Bool.true_eq_false, eq_self, if_true, if_false]; repeat (first | rw [if_pos (by first | assumption | omega)] | rw [if_neg (by first | assumption | omega)])), by rw [e55]; rfl, rfl⟩))⟩) (Nat.le_of_ble_eq_true rfl) (Nat.le_of_ble_eq_true rfl) dX2_there_67
              · skip
                exact absurd c59 (nI_nem1 (by omega))
          · skip
            exact absurd c46 (by decide +kernel)
        · rw [show lookV has lab S L = -2 from by unfold lookV; rw [if_pos g1, if_neg g2]]
          rw [Bool.not_eq_true] at g2
          refine g_istore (lv' := [(4, .int (-2)), (0, .ref (a 0)), (1, .int (nI S)), (2, .int (nI L)), (3, .int (nI q))]) C dX2_there_42 (by decide) rfl ?_
          refine g_iload C dX2_there_44 0 rfl ?_
          refine g_if_ge (tgt := 52) C dX2_there_46 (by decide) (fun c46 => ?_) (fun c46 => ?_)
          · skip
            exact absurd c46 (by decide +kernel)
          · skip
            refine g_iload C dX2_there_49 0 rfl ?_
            exact g_iret C rfl (Or.inr ⟨S, L, q, rfl, hS, rfl, hL, rfl, hq, Or.inr (Or.inl (⟨(by simp only [lookD, olab_t g1, g2, Option.map_none, Option.map_some, Option.isSome_none, Option.isSome_some, Bool.false_eq_true, Bool.true_eq_false, eq_self, if_true, if_false]; repeat (first | rw [if_pos (by first | assumption | omega)] | rw [if_neg (by first | assumption | omega)])), rfl, rfl⟩))⟩) (Nat.le_of_ble_eq_true rfl) (Nat.le_of_ble_eq_true rfl) dX2_there_51
      · rw [show lookV has lab S L = -1 from by unfold lookV; rw [if_neg g1]]
        rw [Bool.not_eq_true] at g1
        refine g_istore (lv' := [(4, .int (-1)), (0, .ref (a 0)), (1, .int (nI S)), (2, .int (nI L)), (3, .int (nI q))]) C dX2_there_42 (by decide) rfl ?_
        refine g_iload C dX2_there_44 0 rfl ?_
        refine g_if_ge (tgt := 52) C dX2_there_46 (by decide) (fun c46 => ?_) (fun c46 => ?_)
        · skip
          exact absurd c46 (by decide +kernel)
        · skip
          refine g_iload C dX2_there_49 0 rfl ?_
          exact g_iret C rfl (Or.inr ⟨S, L, q, rfl, hS, rfl, hL, rfl, hq, Or.inl (⟨(by simp only [lookD, olab_f g1, Option.map_none, Option.map_some, Option.isSome_none, Option.isSome_some, Bool.false_eq_true, Bool.true_eq_false, eq_self, if_true, if_false]; repeat (first | rw [if_pos (by first | assumption | omega)] | rw [if_neg (by first | assumption | omega)])), rfl, rfl⟩)⟩) (Nat.le_of_ble_eq_true rfl) (Nat.le_of_ble_eq_true rfl) dX2_there_51
    · skip
      have c31 := cb_eq1 c31
      subst c31
      refine g_iconst (v := nI 0) C dX2_there_34 (by decide +kernel) ?_
      exact g_iret C rfl (Or.inl ⟨h27.symm, rfl, rfl⟩) (Nat.le_of_ble_eq_true rfl) (Nat.le_of_ble_eq_true rfl) dX2_there_35
  · skip
    refine g_iload_n C dX2_there_1 rfl 1 rfl ?_
    refine g_Si (st := [.ref (a 0)]) C (k_X2_isSubject l D cy zs (wM cy a lab has quo spe nam gif fol siz cel giv nf lis lc see cnt thr) p0) gX2_there_X2_isSubject rfl ydX2_isSubject ⟨Nat.le_of_ble_eq_true rfl, Nat.le_of_ble_eq_true rfl⟩ ⟨Nat.le_of_ble_eq_true rfl, Nat.le_of_ble_eq_true rfl⟩ rfl (Nat.le_of_ble_eq_true rfl) dX2_there_2 (fun r2 w2 h2 => ?_)
    obtain ⟨h2a, h2b⟩ := h2
    subst h2a
    subst h2b
    refine g_if_eq (tgt := 22) C dX2_there_5 (by decide) (fun c5 => ?_) (fun c5 => ?_)
    · skip
      have c5 := cb_eq0 c5
      refine g_iconst (v := nI 1) C dX2_there_22 (by decide +kernel) ?_
      refine g_goto (tgt := 27) C dX2_there_23 (by decide) ?_
      exact g_sub (lv' := [(0, .ref (a 0)), (1, .int p0), (2, .int p1), (3, .int p2)]) [0, 1, 2, 3] rfl (J27 true (by simp [c5]))
    · skip
      have c5 := cb_eq1 c5
      refine g_iload_n C dX2_there_8 rfl 2 rfl ?_
      refine g_Si (st := [.ref (a 0)]) C (k_X2_isLabel l D cy zs (wM cy a lab has quo spe nam gif fol siz cel giv nf lis lc see cnt thr) p1) gX2_there_X2_isLabel rfl ydX2_isLabel ⟨Nat.le_of_ble_eq_true rfl, Nat.le_of_ble_eq_true rfl⟩ ⟨Nat.le_of_ble_eq_true rfl, Nat.le_of_ble_eq_true rfl⟩ rfl (Nat.le_of_ble_eq_true rfl) dX2_there_9 (fun r9 w9 h9 => ?_)
      obtain ⟨h9a, h9b⟩ := h9
      subst h9a
      subst h9b
      refine g_if_eq (tgt := 22) C dX2_there_12 (by decide) (fun c12 => ?_) (fun c12 => ?_)
      · skip
        have c12 := cb_eq0 c12
        refine g_iconst (v := nI 1) C dX2_there_22 (by decide +kernel) ?_
        refine g_goto (tgt := 27) C dX2_there_23 (by decide) ?_
        exact g_sub (lv' := [(0, .ref (a 0)), (1, .int p0), (2, .int p1), (3, .int p2)]) [0, 1, 2, 3] rfl (J27 true (by simp [c5, c12]))
      · skip
        have c12 := cb_eq1 c12
        refine g_iload_n C dX2_there_15 rfl 3 rfl ?_
        refine g_Si (st := [.ref (a 0)]) C (k_X2_isNumber l D cy zs (wM cy a lab has quo spe nam gif fol siz cel giv nf lis lc see cnt thr) p2) gX2_there_X2_isNumber rfl ydX2_isNumber ⟨Nat.le_of_ble_eq_true rfl, Nat.le_of_ble_eq_true rfl⟩ ⟨Nat.le_of_ble_eq_true rfl, Nat.le_of_ble_eq_true rfl⟩ rfl (Nat.le_of_ble_eq_true rfl) dX2_there_16 (fun r16 w16 h16 => ?_)
        obtain ⟨h16a, h16b⟩ := h16
        subst h16a
        subst h16b
        refine g_if_ne (tgt := 26) C dX2_there_19 (by decide) (fun c19 => ?_) (fun c19 => ?_)
        · skip
          have c19 := cb_eq1 c19
          refine g_iconst (v := nI 0) C dX2_there_26 (by decide +kernel) ?_
          exact g_sub (lv' := [(0, .ref (a 0)), (1, .int p0), (2, .int p1), (3, .int p2)]) [0, 1, 2, 3] rfl (J27 false (by simp [c5, c12, c19]))
        · skip
          have c19 := cb_eq0 c19
          refine g_iconst (v := nI 1) C dX2_there_22 (by decide +kernel) ?_
          refine g_goto (tgt := 27) C dX2_there_23 (by decide) ?_
          exact g_sub (lv' := [(0, .ref (a 0)), (1, .int p0), (2, .int p1), (3, .int p2)]) [0, 1, 2, 3] rfl (J27 true (by simp [c5, c12, c19]))
abbrev rmX2_seen : Room := { frames := 2, cells := 0, slots := 0, locals := 41 }
theorem ydX2_seen : yX2_seen.cls ≠ "java/lang/invoke/MethodHandle" ∧ yX2_seen.cls ≠ "java/lang/invoke/VarHandle" ∧ (parseMethodDescriptor yX2_seen.desc).map (fun d => d.parameters.length) = some 2 := by decide +kernel
theorem iwX2_seen_X2 : ∀ w ∈ u_ws RX2 TX2 16, w ∈ wsX2_seen := fun _ h => (List.mem_cons_of_mem _ (List.mem_append_right _ h))
set_option maxRecDepth 100000 in
set_option maxHeartbeats 4000000 in
theorem k_X2_seen (l : Launch) (D : va_G) (cy : Nat → ClassId) (zs : Nat → Nat) (a : Nat → Nat) (lab : Nat → Nat) (has : Nat → Bool) (quo : Nat → Nat) (spe : Nat → Nat) (nam : Nat → Nat) (gif : Nat → Bool) (fol : Nat → Int32) (siz : Nat → Nat) (cel : Nat → Int32) (giv : Nat → Bool) (nf : Nat) (lis : Nat → Nat) (lc : Nat) (see : Nat → Int32) (cnt : Nat → Nat) (thr : Nat) (hI : MI lab quo spe nam siz cnt lis nf lc) (p0 : Int32) (p1 : Int32)  : Mi l D cy zs yX2_seen wsX2_seen rmX2_seen [.ref (a 0), .int p0, .int p1] (wM cy a lab has quo spe nam gif fol siz cel giv nf lis lc see cnt thr) ((fun (r : Int32) (w : va_W) => ((!inB p0 16) = true ∧ r = nI 0 ∧ w = wM cy a lab has quo spe nam gif fol siz cel giv nf lis lc see cnt 1) ∨ ∃ S, p0 = nI S ∧ S < 16 ∧ ((r = seenV p1 (cnt S) (fun j => see (200 * S + j)) ∧ w = wM cy a lab has quo spe nam gif fol siz cel giv nf lis lc see cnt 0)))) := by
  refine Mi.of (lv := [(0, .ref (a 0)), (1, .int p0), (2, .int p1)]) RX2 ⟨by decide, rfl⟩ rfl (Nat.le_of_ble_eq_true rfl) rfl ?_
  intro p e s m args below meth c A C hnm
  obtain ⟨hnf, hlc, hlab, hquo, hspe, hnam, hsiz, hcnt, hlis⟩ := id hI
  refine g_aload_n C dX2_seen_0 rfl 0 rfl ?_
  refine g_join (fun v13 : Bool => v13 = (!inB p0 16)) 13 (wM cy a lab has quo spe nam gif fol siz cel giv nf lis lc see cnt thr) [(0, .ref (a 0)), (1, .int p0), (2, .int p1)] (fun v13 => [.int (bI v13), .ref (a 0)]) (fun v13 h13 => ?_) (fun J13 => ?_)
  · skip
    refine g_iconst (v := nI 1) C dX2_seen_13 (by decide +kernel) ?_
    refine g_Vi (ci := 3) (st := []) C (k_X2_fails l D cy zs a lab has quo spe nam gif fol siz cel giv nf lis lc see cnt thr ⟨hnf, hlc, hlab, hquo, hspe, hnam, hsiz, hcnt, hlis⟩ v13 1) gX2_seen_X2_fails rfl ⟨rfl, ydX2_fails⟩ 0 rfl rfl ⟨Nat.le_of_ble_eq_true rfl, Nat.le_of_ble_eq_true rfl⟩ ⟨Nat.le_of_ble_eq_true rfl, Nat.le_of_ble_eq_true rfl⟩ rfl (Nat.le_of_ble_eq_true rfl) dX2_seen_14 (fun r14 w14 h14 => ?_)
    obtain ⟨h14a, h14b⟩ := h14
    subst h14a
    subst h14b
    refine g_if_eq (tgt := 22) C dX2_seen_17 (by decide) (fun c17 => ?_) (fun c17 => ?_)
    · skip
      have c17 := cb_eq0 c17
      subst c17
      have qp0 : inB p0 16 = true := by revert h13; cases inB p0 16 <;> simp
      obtain ⟨S, hS, eS⟩ := inB_of (Nat.le_of_ble_eq_true rfl) qp0
      subst eS
      refine g_iload_n C dX2_seen_22 rfl 2 rfl ?_
      refine g_if_lt (tgt := 51) C dX2_seen_23 (by decide) (fun c23 => ?_) (fun c23 => ?_)
      · skip
        refine g_iconst (v := nI 0) C dX2_seen_51 (by decide +kernel) ?_
        exact g_iret C rfl (Or.inr ⟨S, rfl, hS, ⟨seenV_f c23, rfl⟩⟩) (Nat.le_of_ble_eq_true rfl) (Nat.le_of_ble_eq_true rfl) dX2_seen_52
      · skip
        obtain ⟨j, hj, ej⟩ := nI_of c23
        subst ej
        refine g_iload_n C dX2_seen_26 rfl 2 rfl ?_
        refine g_aload_n C dX2_seen_27 rfl 0 rfl ?_
        refine g_get (ci := 3) (v := .ref (a 13)) C iwX2_seen_X2 0 rfl rfl 14 (by decide) (C.hw (List.mem_cons_of_mem _ (List.mem_append_left _ (List.mem_of_getElem? (i := 0) rfl)))) (fun _ h9 => h9) rfl dX2_seen_28 ?_
        refine g_iload_n C dX2_seen_31 rfl 1 rfl ?_
        refine g_ialdN (nn := 16) (j := S) (f := cnt) C 13 rfl (by omega) n31_16 dX2_seen_32 ?_
        have b32 := hcnt S
        refine g_icmp_ge (tgt := 51) C dX2_seen_33 (by decide) (fun c33 => ?_) (fun c33 => ?_)
        · skip
          have c33 := c_ge0 (by omega) (by omega) c33
          refine g_iconst (v := nI 0) C dX2_seen_51 (by decide +kernel) ?_
          exact g_iret C rfl (Or.inr ⟨S, rfl, hS, ⟨seenV_n hj c33, rfl⟩⟩) (Nat.le_of_ble_eq_true rfl) (Nat.le_of_ble_eq_true rfl) dX2_seen_52
        · skip
          have c33 := c_ge1 (by omega) (by omega) c33
          refine g_aload_n C dX2_seen_36 rfl 0 rfl ?_
          refine g_get (ci := 3) (v := .ref (a 12)) C iwX2_seen_X2 0 rfl rfl 13 (by decide) (C.hw (List.mem_cons_of_mem _ (List.mem_append_left _ (List.mem_of_getElem? (i := 1) rfl)))) (fun _ h9 => h9) rfl dX2_seen_37 ?_
          refine g_sipush (v := nI 200) C dX2_seen_40 (by decide +kernel) ?_
          refine g_iload_n C dX2_seen_43 rfl 1 rfl ?_
          refine g_imul (v := nI (200 * S)) C dX2_seen_44 (pk_mul _ _) ?_
          refine g_iload_n C dX2_seen_45 rfl 2 rfl ?_
          refine g_iadd (v := nI ((200 * S) + j)) C dX2_seen_46 (nI_add _ _) ?_
          refine g_ialdR (nn := 3200) (j := ((200 * S) + j)) (f := see) C 12 rfl (by omega) n31_3200 dX2_seen_47 ?_
          refine g_goto (tgt := 52) C dX2_seen_48 (by decide) ?_
          exact g_iret C rfl (Or.inr ⟨S, rfl, hS, ⟨seenV_t (f := fun j => see (200 * S + j)) hj c33, rfl⟩⟩) (Nat.le_of_ble_eq_true rfl) (Nat.le_of_ble_eq_true rfl) dX2_seen_52
    · skip
      have c17 := cb_eq1 c17
      subst c17
      refine g_iconst (v := nI 0) C dX2_seen_20 (by decide +kernel) ?_
      exact g_iret C rfl (Or.inl ⟨h13.symm, rfl, rfl⟩) (Nat.le_of_ble_eq_true rfl) (Nat.le_of_ble_eq_true rfl) dX2_seen_21
  · skip
    refine g_iload_n C dX2_seen_1 rfl 1 rfl ?_
    refine g_Si (st := [.ref (a 0)]) C (k_X2_isSubject l D cy zs (wM cy a lab has quo spe nam gif fol siz cel giv nf lis lc see cnt thr) p0) gX2_seen_X2_isSubject rfl ydX2_isSubject ⟨Nat.le_of_ble_eq_true rfl, Nat.le_of_ble_eq_true rfl⟩ ⟨Nat.le_of_ble_eq_true rfl, Nat.le_of_ble_eq_true rfl⟩ rfl (Nat.le_of_ble_eq_true rfl) dX2_seen_2 (fun r2 w2 h2 => ?_)
    obtain ⟨h2a, h2b⟩ := h2
    subst h2a
    subst h2b
    refine g_if_ne (tgt := 12) C dX2_seen_5 (by decide) (fun c5 => ?_) (fun c5 => ?_)
    · skip
      have c5 := cb_eq1 c5
      refine g_iconst (v := nI 0) C dX2_seen_12 (by decide +kernel) ?_
      exact g_sub (lv' := [(0, .ref (a 0)), (1, .int p0), (2, .int p1)]) [0, 1, 2] rfl (J13 false (by simp [c5]))
    · skip
      have c5 := cb_eq0 c5
      refine g_iconst (v := nI 1) C dX2_seen_8 (by decide +kernel) ?_
      refine g_goto (tgt := 13) C dX2_seen_9 (by decide) ?_
      exact g_sub (lv' := [(0, .ref (a 0)), (1, .int p0), (2, .int p1)]) [0, 1, 2] rfl (J13 true (by simp [c5]))
abbrev rmX2_told : Room := { frames := 2, cells := 0, slots := 0, locals := 46 }
theorem ydX2_told : yX2_told.cls ≠ "java/lang/invoke/MethodHandle" ∧ yX2_told.cls ≠ "java/lang/invoke/VarHandle" ∧ (parseMethodDescriptor yX2_told.desc).map (fun d => d.parameters.length) = some 2 := by decide +kernel
theorem iwX2_told_X2 : ∀ w ∈ u_ws RX2 TX2 16, w ∈ wsX2_told := fun _ h => (List.mem_cons_of_mem _ (List.mem_append_right _ h))
set_option maxRecDepth 100000 in
set_option maxHeartbeats 4000000 in
theorem k_X2_told (l : Launch) (D : va_G) (cy : Nat → ClassId) (zs : Nat → Nat) (a : Nat → Nat) (lab : Nat → Nat) (has : Nat → Bool) (quo : Nat → Nat) (spe : Nat → Nat) (nam : Nat → Nat) (gif : Nat → Bool) (fol : Nat → Int32) (siz : Nat → Nat) (cel : Nat → Int32) (giv : Nat → Bool) (nf : Nat) (lis : Nat → Nat) (lc : Nat) (see : Nat → Int32) (cnt : Nat → Nat) (thr : Nat) (hI : MI lab quo spe nam siz cnt lis nf lc) (p0 : Int32) (p1 : Int32)  : Mi l D cy zs yX2_told wsX2_told rmX2_told [.ref (a 0), .int p0, .int p1] (wM cy a lab has quo spe nam gif fol siz cel giv nf lis lc see cnt thr) ((fun (r : Int32) (w : va_W) => ((!inB p0 1024 || !inB p1 4) = true ∧ r = nI 0 ∧ w = wM cy a lab has quo spe nam gif fol siz cel giv nf lis lc see cnt 1) ∨ ∃ L h, p0 = nI L ∧ L < 1024 ∧ p1 = nI h ∧ h < 4 ∧ ((r = nI (toldV h (usesN spe nam gif siz giv nf L) (spe L) (quo L) (cntF nam L nf)) ∧ w = wM cy a lab has quo spe nam gif fol siz cel giv nf lis lc see cnt 0)))) := by
  refine Mi.of (lv := [(0, .ref (a 0)), (1, .int p0), (2, .int p1)]) RX2 ⟨by decide, rfl⟩ rfl (Nat.le_of_ble_eq_true rfl) rfl ?_
  intro p e s m args below meth c A C hnm
  obtain ⟨hnf, hlc, hlab, hquo, hspe, hnam, hsiz, hcnt, hlis⟩ := id hI
  refine g_aload_n C dX2_told_0 rfl 0 rfl ?_
  refine g_join (fun v21 : Bool => v21 = (!inB p0 1024 || !inB p1 4)) 21 (wM cy a lab has quo spe nam gif fol siz cel giv nf lis lc see cnt thr) [(0, .ref (a 0)), (1, .int p0), (2, .int p1)] (fun v21 => [.int (bI v21), .ref (a 0)]) (fun v21 h21 => ?_) (fun J21 => ?_)
  · skip
    refine g_iconst (v := nI 1) C dX2_told_21 (by decide +kernel) ?_
    refine g_Vi (ci := 3) (st := []) C (k_X2_fails l D cy zs a lab has quo spe nam gif fol siz cel giv nf lis lc see cnt thr ⟨hnf, hlc, hlab, hquo, hspe, hnam, hsiz, hcnt, hlis⟩ v21 1) gX2_told_X2_fails rfl ⟨rfl, ydX2_fails⟩ 0 rfl rfl ⟨Nat.le_of_ble_eq_true rfl, Nat.le_of_ble_eq_true rfl⟩ ⟨Nat.le_of_ble_eq_true rfl, Nat.le_of_ble_eq_true rfl⟩ rfl (Nat.le_of_ble_eq_true rfl) dX2_told_22 (fun r22 w22 h22 => ?_)
    obtain ⟨h22a, h22b⟩ := h22
    subst h22a
    subst h22b
    refine g_if_eq (tgt := 30) C dX2_told_25 (by decide) (fun c25 => ?_) (fun c25 => ?_)
    · skip
      have c25 := cb_eq0 c25
      subst c25
      obtain ⟨qp0, qp1⟩ : inB p0 1024 = true ∧ inB p1 4 = true := by revert h21; cases inB p0 1024 <;> cases inB p1 4 <;> simp
      obtain ⟨L, hL, eL⟩ := inB_of (Nat.le_of_ble_eq_true rfl) qp0
      subst eL
      obtain ⟨h, hh, eh⟩ := inB_of (Nat.le_of_ble_eq_true rfl) qp1
      subst eh
      refine g_iconst (v := nI 0) C dX2_told_30 (by decide +kernel) ?_
      refine g_istore_n (lv' := [(3, .int (nI 0)), (0, .ref (a 0)), (1, .int (nI L)), (2, .int (nI h))]) C dX2_told_31 rfl (by decide) rfl ?_
      refine g_iconst (v := nI 0) C dX2_told_32 (by decide +kernel) ?_
      refine g_istore (lv' := [(4, .int (nI 0)), (3, .int (nI 0)), (0, .ref (a 0)), (1, .int (nI L)), (2, .int (nI h))]) C dX2_told_33 (by decide) rfl ?_
      refine g_sub (lv' := [(0, .ref (a 0)), (1, .int (nI L)), (2, .int (nI h)), (3, .int (nI 0)), (4, .int (nI 0))]) [2, 3, 4, 1, 0] rfl ?_
      refine g_loop2 (jp := 35) (fun (u : Nat) (k : Nat) => (k ≤ nf) ∧ (u = cntF nam L k)) (fun (u : Nat) (k : Nat) => nf - k) (fun (u : Nat) (k : Nat) => wM cy a lab has quo spe nam gif fol siz cel giv nf lis lc see cnt 0) (fun (u : Nat) (k : Nat) => [(0, .ref (a 0)), (1, .int (nI L)), (2, .int (nI h)), (3, .int (nI u)), (4, .int (nI k))]) (fun (u : Nat) (k : Nat) => []) (fun u k hI35 ih35 => ?_) 0 0 (⟨Nat.zero_le _, rfl⟩)
      obtain ⟨hk, hu⟩ := hI35
      refine g_iload C dX2_told_35 4 rfl ?_
      refine g_aload_n C dX2_told_37 rfl 0 rfl ?_
      refine g_get (ci := 3) (v := .int (nI nf)) C iwX2_told_X2 0 rfl rfl 10 (by decide) (C.hw (List.mem_cons_of_mem _ (List.mem_append_left _ (List.mem_append_left _ (List.mem_of_getElem? (i := 0) rfl))))) (fun _ h9 => h9) rfl dX2_told_38 ?_
      refine g_icmp_ge (tgt := 72) C dX2_told_41 (by decide) (fun c41 => ?_) (fun c41 => ?_)
      · skip
        have c41 := c_ge0 (by omega) (by omega) c41
        refine g_iload_n C dX2_told_72 rfl 2 rfl ?_
        refine g_if_ne (tgt := 84) C dX2_told_73 (by decide) (fun c73 => ?_) (fun c73 => ?_)
        · skip
          have c73 := cz_eq1 (by omega) c73
          refine g_iload_n C dX2_told_84 rfl 2 rfl ?_
          refine g_iconst (v := nI 1) C dX2_told_85 (by decide +kernel) ?_
          refine g_icmp_ne (tgt := 98) C dX2_told_86 (by decide) (fun c86 => ?_) (fun c86 => ?_)
          · skip
            have c86 := c_eq1 (by omega) (by omega) c86
            refine g_iload_n C dX2_told_98 rfl 2 rfl ?_
            refine g_iconst (v := nI 2) C dX2_told_99 (by decide +kernel) ?_
            refine g_icmp_ne (tgt := 112) C dX2_told_100 (by decide) (fun c100 => ?_) (fun c100 => ?_)
            · skip
              have c100 := c_eq1 (by omega) (by omega) c100
              refine g_iload_n C dX2_told_112 rfl 3 rfl ?_
              exact g_iret C rfl (Or.inr ⟨L, h, rfl, hL, rfl, hh, ⟨by unfold toldV; repeat (first | rw [if_pos (by omega)] | rw [if_neg (by omega)]); try rw [hu, show k = nf by omega], rfl⟩⟩) (Nat.le_of_ble_eq_true rfl) (Nat.le_of_ble_eq_true rfl) dX2_told_113
            · skip
              have c100 := c_eq0 (by omega) (by omega) c100
              refine g_aload_n C dX2_told_103 rfl 0 rfl ?_
              refine g_get (ci := 3) (v := .ref (a 3)) C iwX2_told_X2 0 rfl rfl 2 (by decide) (C.hw (List.mem_cons_of_mem _ (List.mem_append_left _ (List.mem_append_left _ (List.mem_of_getElem? (i := 3) rfl))))) (fun _ h9 => h9) rfl dX2_told_104 ?_
              refine g_iload_n C dX2_told_107 rfl 1 rfl ?_
              refine g_ialdN (nn := 1024) (j := L) (f := quo) C 3 rfl (by omega) n31_1024 dX2_told_108 ?_
              have b108 := hquo L
              refine g_goto (tgt := 113) C dX2_told_109 (by decide) ?_
              exact g_iret C rfl (Or.inr ⟨L, h, rfl, hL, rfl, hh, ⟨by unfold toldV; repeat (first | rw [if_pos (by omega)] | rw [if_neg (by omega)]); try rw [hu, show k = nf by omega], rfl⟩⟩) (Nat.le_of_ble_eq_true rfl) (Nat.le_of_ble_eq_true rfl) dX2_told_113
          · skip
            have c86 := c_eq0 (by omega) (by omega) c86
            refine g_aload_n C dX2_told_89 rfl 0 rfl ?_
            refine g_get (ci := 3) (v := .ref (a 4)) C iwX2_told_X2 0 rfl rfl 3 (by decide) (C.hw (List.mem_cons_of_mem _ (List.mem_append_left _ (List.mem_append_left _ (List.mem_of_getElem? (i := 2) rfl))))) (fun _ h9 => h9) rfl dX2_told_90 ?_
            refine g_iload_n C dX2_told_93 rfl 1 rfl ?_
            refine g_ialdN (nn := 1024) (j := L) (f := spe) C 4 rfl (by omega) n31_1024 dX2_told_94 ?_
            have b94 := hspe L
            refine g_goto (tgt := 113) C dX2_told_95 (by decide) ?_
            exact g_iret C rfl (Or.inr ⟨L, h, rfl, hL, rfl, hh, ⟨by unfold toldV; repeat (first | rw [if_pos (by omega)] | rw [if_neg (by omega)]); try rw [hu, show k = nf by omega], rfl⟩⟩) (Nat.le_of_ble_eq_true rfl) (Nat.le_of_ble_eq_true rfl) dX2_told_113
        · skip
          have c73 := cz_eq0 (by omega) c73
          refine g_aload_n C dX2_told_76 rfl 0 rfl ?_
          refine g_iload_n C dX2_told_77 rfl 1 rfl ?_
          refine g_Vi (ci := 3) (st := []) C (k_X2_uses l D cy zs a lab has quo spe nam gif fol siz cel giv nf lis lc see cnt 0 ⟨hnf, hlc, hlab, hquo, hspe, hnam, hsiz, hcnt, hlis⟩ L (by omega)) gX2_told_X2_uses rfl ⟨rfl, ydX2_uses⟩ 0 rfl rfl ⟨Nat.le_of_ble_eq_true rfl, Nat.le_of_ble_eq_true rfl⟩ ⟨Nat.le_of_ble_eq_true rfl, Nat.le_of_ble_eq_true rfl⟩ rfl (Nat.le_of_ble_eq_true rfl) dX2_told_78 (fun r78 w78 h78 => ?_)
          obtain ⟨h78a, h78b⟩ := h78
          subst h78a
          subst h78b
          refine g_goto (tgt := 113) C dX2_told_81 (by decide) ?_
          exact g_iret C rfl (Or.inr ⟨L, h, rfl, hL, rfl, hh, ⟨by unfold toldV; repeat (first | rw [if_pos (by omega)] | rw [if_neg (by omega)]); try rw [hu, show k = nf by omega], rfl⟩⟩) (Nat.le_of_ble_eq_true rfl) (Nat.le_of_ble_eq_true rfl) dX2_told_113
      · skip
        have c41 := c_ge1 (by omega) (by omega) c41
        refine g_iload_n C dX2_told_44 rfl 3 rfl ?_
        refine g_aload_n C dX2_told_45 rfl 0 rfl ?_
        refine g_get (ci := 3) (v := .ref (a 5)) C iwX2_told_X2 0 rfl rfl 4 (by decide) (C.hw (List.mem_cons_of_mem _ (List.mem_append_left _ (List.mem_append_left _ (List.mem_of_getElem? (i := 1) rfl))))) (fun _ h9 => h9) rfl dX2_told_46 ?_
        refine g_iload C dX2_told_49 4 rfl ?_
        refine g_ialdN (nn := 200) (j := k) (f := nam) C 5 rfl (by omega) n31_200 dX2_told_51 ?_
        have b51 := hnam k
        refine g_bipush (v := nI 16) C dX2_told_52 (by decide +kernel) ?_
        refine g_idiv (v := nI ((nam k) / 16)) C dX2_told_54 (by decide +kernel) (pk_div (by omega) (by omega) (by omega)) ?_
        refine g_iload_n C dX2_told_55 rfl 1 rfl ?_
        refine g_icmp_ne (tgt := 63) C dX2_told_56 (by decide) (fun c56 => ?_) (fun c56 => ?_)
        · skip
          have c56 := c_eq1 (by omega) (by omega) c56
          refine g_iconst (v := nI 0) C dX2_told_63 (by decide +kernel) ?_
          refine g_iadd (v := nI (u + 0)) C dX2_told_64 (nI_add _ _) ?_
          refine g_istore_n (lv' := [(3, .int (nI (u + 0))), (0, .ref (a 0)), (1, .int (nI L)), (2, .int (nI h)), (4, .int (nI k))]) C dX2_told_65 rfl (by decide) rfl ?_
          refine g_iinc (q := 4) (v := nI (k + 1)) (lv' := [(4, .int (nI (k + 1))), (3, .int (nI (u + 0))), (0, .ref (a 0)), (1, .int (nI L)), (2, .int (nI h))]) C dX2_told_66 rfl (nI_inc1 _) (by decide) rfl ?_
          refine g_goto (tgt := 35) C dX2_told_69 (by decide) ?_
          exact g_sub (lv' := [(0, .ref (a 0)), (1, .int (nI L)), (2, .int (nI h)), (3, .int (nI (u + 0))), (4, .int (nI (k + 1)))]) [2, 3, 4, 1, 0] rfl (ih35 (u + 0) (k + 1) (⟨by omega, by simp only [cntF]; split <;> omega⟩) (by omega))
        · skip
          have c56 := c_eq0 (by omega) (by omega) c56
          refine g_iconst (v := nI 1) C dX2_told_59 (by decide +kernel) ?_
          refine g_goto (tgt := 64) C dX2_told_60 (by decide) ?_
          refine g_iadd (v := nI (u + 1)) C dX2_told_64 (nI_add _ _) ?_
          refine g_istore_n (lv' := [(3, .int (nI (u + 1))), (0, .ref (a 0)), (1, .int (nI L)), (2, .int (nI h)), (4, .int (nI k))]) C dX2_told_65 rfl (by decide) rfl ?_
          refine g_iinc (q := 4) (v := nI (k + 1)) (lv' := [(4, .int (nI (k + 1))), (3, .int (nI (u + 1))), (0, .ref (a 0)), (1, .int (nI L)), (2, .int (nI h))]) C dX2_told_66 rfl (nI_inc1 _) (by decide) rfl ?_
          refine g_goto (tgt := 35) C dX2_told_69 (by decide) ?_
          exact g_sub (lv' := [(0, .ref (a 0)), (1, .int (nI L)), (2, .int (nI h)), (3, .int (nI (u + 1))), (4, .int (nI (k + 1)))]) [2, 3, 4, 1, 0] rfl (ih35 (u + 1) (k + 1) (⟨by omega, by simp only [cntF]; split <;> omega⟩) (by omega))
    · skip
      have c25 := cb_eq1 c25
      subst c25
      refine g_iconst (v := nI 0) C dX2_told_28 (by decide +kernel) ?_
      exact g_iret C rfl (Or.inl ⟨h21.symm, rfl, rfl⟩) (Nat.le_of_ble_eq_true rfl) (Nat.le_of_ble_eq_true rfl) dX2_told_29
  · skip
    refine g_iload_n C dX2_told_1 rfl 1 rfl ?_
    refine g_Si (st := [.ref (a 0)]) C (k_X2_isLabel l D cy zs (wM cy a lab has quo spe nam gif fol siz cel giv nf lis lc see cnt thr) p0) gX2_told_X2_isLabel rfl ydX2_isLabel ⟨Nat.le_of_ble_eq_true rfl, Nat.le_of_ble_eq_true rfl⟩ ⟨Nat.le_of_ble_eq_true rfl, Nat.le_of_ble_eq_true rfl⟩ rfl (Nat.le_of_ble_eq_true rfl) dX2_told_2 (fun r2 w2 h2 => ?_)
    obtain ⟨h2a, h2b⟩ := h2
    subst h2a
    subst h2b
    refine g_if_eq (tgt := 16) C dX2_told_5 (by decide) (fun c5 => ?_) (fun c5 => ?_)
    · skip
      have c5 := cb_eq0 c5
      refine g_iconst (v := nI 1) C dX2_told_16 (by decide +kernel) ?_
      refine g_goto (tgt := 21) C dX2_told_17 (by decide) ?_
      exact g_sub (lv' := [(0, .ref (a 0)), (1, .int p0), (2, .int p1)]) [0, 1, 2] rfl (J21 true (by simp [c5]))
    · skip
      have c5 := cb_eq1 c5
      refine g_iload_n C dX2_told_8 rfl 2 rfl ?_
      refine g_iconst (v := nI 4) C dX2_told_9 (by decide +kernel) ?_
      refine g_Si (st := [.ref (a 0)]) C (k_X2_within l D cy zs (wM cy a lab has quo spe nam gif fol siz cel giv nf lis lc see cnt thr) p1 4) gX2_told_X2_within rfl ydX2_within ⟨Nat.le_of_ble_eq_true rfl, Nat.le_of_ble_eq_true rfl⟩ ⟨Nat.le_of_ble_eq_true rfl, Nat.le_of_ble_eq_true rfl⟩ rfl (Nat.le_of_ble_eq_true rfl) dX2_told_10 (fun r10 w10 h10 => ?_)
      obtain ⟨h10a, h10b⟩ := h10
      subst h10a
      subst h10b
      refine g_if_ne (tgt := 20) C dX2_told_13 (by decide) (fun c13 => ?_) (fun c13 => ?_)
      · skip
        have c13 := cb_eq1 c13
        refine g_iconst (v := nI 0) C dX2_told_20 (by decide +kernel) ?_
        exact g_sub (lv' := [(0, .ref (a 0)), (1, .int p0), (2, .int p1)]) [0, 1, 2] rfl (J21 false (by simp [c5, c13]))
      · skip
        have c13 := cb_eq0 c13
        refine g_iconst (v := nI 1) C dX2_told_16 (by decide +kernel) ?_
        refine g_goto (tgt := 21) C dX2_told_17 (by decide) ?_
        exact g_sub (lv' := [(0, .ref (a 0)), (1, .int p0), (2, .int p1)]) [0, 1, 2] rfl (J21 true (by simp [c5, c13]))
