abbrev rmX1_answerRelease : Room := { frames := 7, cells := 3, slots := 330, locals := 193 }
theorem ydX1_answerRelease : yX1_answerRelease.cls ≠ "java/lang/invoke/MethodHandle" ∧ yX1_answerRelease.cls ≠ "java/lang/invoke/VarHandle" ∧ (parseMethodDescriptor yX1_answerRelease.desc).map (fun d => d.parameters.length) = some 4 := by decide +kernel
theorem iwX1_answerRelease_X1 : ∀ w ∈ u_ws RX1 TX1 8, w ∈ wsX1_answerRelease := fun _ h => (List.mem_cons_of_mem _ (List.mem_append_left _ (List.mem_append_left _ (List.mem_append_right _ h))))
theorem iwX1_answerRelease_X0 : ∀ w ∈ u_ws RX0 TX0 6, w ∈ wsX1_answerRelease := fun _ h => (List.mem_cons_of_mem _ (List.mem_append_left _ (List.mem_append_right _ h)))
set_option maxRecDepth 100000 in
set_option maxHeartbeats 4000000 in
theorem k_X1_answerRelease (l : Launch) (D : va_G) (cy : Nat → ClassId) (zs : Nat → Nat) (a : Nat → Nat) (lab : Nat → Option Nat) (quo : Nat → Nat) (spe : Nat → Nat) (md : Int32) (ed : Option (Nat × Nat)) (lis : Nat → Nat) (lc : Nat) (see : Nat → Nat → Int32) (cnt : Nat → Nat) (Fs : List FT) (hI : CI lab quo spe ed lis lc cnt Fs)  (S : Nat) (L : Nat) (q : Nat) (T : Nat) (hS : S < 16) (hL : L < 1024) (hq : q < 16) (hT : T < 1024) (hne : isC lis lc ((((S * 1024) + L) * 1024) + T) = true → ¬ L = T) : Mi l D cy zs yX1_answerRelease wsX1_answerRelease rmX1_answerRelease [.ref (a 0), .int (nI S), .int (nI L), .int (nI q), .int (nI T)] (wC cy a (zs 0) lab quo spe md ed lis lc see cnt Fs) (fun r w => (lab S = none ∧ r = -1 ∧ w = (wC cy a (zs 0) lab quo spe md ed lis lc see cnt Fs)) ∨ ((lab S).isSome = true ∧ isC lis lc ((((S * 1024) + L) * 1024) + T) = false ∧ r = -2 ∧ w = (wC cy a (zs 0) lab quo spe md ed lis lc see cnt Fs)) ∨ ((lab S).isSome = true ∧ isC lis lc ((((S * 1024) + L) * 1024) + T) = true ∧ plF Fs (16 * L + q) = none ∧ r = nI 0 ∧ w = (wC cy a (zs 0) lab quo spe md ed lis lc see cnt Fs)) ∨ (∃ (i1 ob1 ar1 ky1 : Nat) (fo1 : Int32) (ce1 : Nat → Int32) (ct1 : Nat) (gi1 : Bool) (gv1 : Nat → Bool), (lab S).isSome = true ∧ isC lis lc ((((S * 1024) + L) * 1024) + T) = true ∧ plF Fs (16 * L + q) = some i1 ∧ Fs[i1]? = some (ob1, ar1, ky1, fo1, ce1, ct1, gi1, gv1) ∧ decide ((usF spe Fs T + (1 + ct1)) - repF Fs (16 * T + q) ≤ quo T) = false ∧ r = -3 ∧ w = (wC cy a (zs 0) lab quo spe md ed lis lc see cnt Fs)) ∨ (∃ (i1 ob1 ar1 ky1 : Nat) (fo1 : Int32) (ce1 : Nat → Int32) (ct1 : Nat) (gi1 : Bool) (gv1 : Nat → Bool), (lab S).isSome = true ∧ isC lis lc ((((S * 1024) + L) * 1024) + T) = true ∧ plF Fs (16 * L + q) = some i1 ∧ Fs[i1]? = some (ob1, ar1, ky1, fo1, ce1, ct1, gi1, gv1) ∧ decide ((usF spe Fs T + (1 + ct1)) - repF Fs (16 * T + q) ≤ quo T) = true ∧ plF Fs (16 * T + q) = none ∧ 200 ≤ Fs.length ∧ r = -4 ∧ w = (wC cy a (zs 0) lab quo spe md ed lis lc see cnt Fs)) ∨ (∃ (i1 ob1 ar1 ky1 : Nat) (fo1 : Int32) (ce1 : Nat → Int32) (ct1 : Nat) (gi1 : Bool) (gv1 : Nat → Bool), (lab S).isSome = true ∧ isC lis lc ((((S * 1024) + L) * 1024) + T) = true ∧ plF Fs (16 * L + q) = some i1 ∧ Fs[i1]? = some (ob1, ar1, ky1, fo1, ce1, ct1, gi1, gv1) ∧ decide ((usF spe Fs T + (1 + ct1)) - repF Fs (16 * T + q) ≤ quo T) = true ∧ plF Fs (16 * T + q) = none ∧ Fs.length < 200 ∧ r = nI 1 ∧ ∃ pl ed9 q1 q2, insAt Fs (16 * T + q) pl ∧ edOk ed9 (Fs.length + 1) ∧ w = (wC cy a (zs 0) lab quo spe (md + nI 1) ed9 lis lc see cnt (Fs.insertIdx pl (q1, q2, (16 * T + q), -1, va_cpy ce1 (fun _ => 0) 0 0 ct1, ct1, false, (fun _ => false))))) ∨ (∃ (i1 ob1 ar1 ky1 : Nat) (fo1 : Int32) (ce1 : Nat → Int32) (ct1 : Nat) (gi1 : Bool) (gv1 : Nat → Bool), (lab S).isSome = true ∧ isC lis lc ((((S * 1024) + L) * 1024) + T) = true ∧ plF Fs (16 * L + q) = some i1 ∧ Fs[i1]? = some (ob1, ar1, ky1, fo1, ce1, ct1, gi1, gv1) ∧ decide ((usF spe Fs T + (1 + ct1)) - repF Fs (16 * T + q) ≤ quo T) = true ∧ ∃ (i2 ob2 ar2 ky2 : Nat) (fo2 : Int32) (ce2 : Nat → Int32) (ct2 : Nat) (gi2 : Bool) (gv2 : Nat → Bool), plF Fs (16 * T + q) = some i2 ∧ Fs[i2]? = some (ob2, ar2, ky2, fo2, ce2, ct2, gi2, gv2) ∧ r = nI 1 ∧ w = (wC cy a (zs 0) lab quo spe md ed lis lc see cnt (Fs.set i2 (ob2, ar2, ky2, fo2, va_cpy ce1 ce2 0 0 ct1, ct1, false, (fun _ => false)))))) := by
  refine Mi.of (lv := [(0, .ref (a 0)), (1, .int (nI S)), (2, .int (nI L)), (3, .int (nI q)), (4, .int (nI T))]) RX1 ⟨by decide, rfl⟩ rfl (Nat.le_of_ble_eq_true rfl) rfl ?_
  intro p e s m args below meth c A C hnm
  have hlc := hI.lcP
  have hln := hI.lenP
  refine g_aload_n C dX1_answerRelease_0 rfl 0 rfl ?_
  refine g_get (ci := 2) (v := .ref (a 1)) C iwX1_answerRelease_X1 0 rfl rfl 0 (by decide) (C.hw (List.mem_cons_of_mem _ (List.mem_append_left _ (List.mem_append_left _ (List.mem_append_left _ (List.mem_append_left _ (List.mem_of_getElem? (i := 0) rfl))))))) (fun _ h9 => h9) rfl dX1_answerRelease_1 ?_
  refine g_iload_n C dX1_answerRelease_4 rfl 1 rfl ?_
  refine g_ialdF (nn := 16) (j := S) (f := lab) C 1 rfl (by omega) n31_16 dX1_answerRelease_5 ?_
  rcases e5 : lab S with _ | o
  · skip
    refine g_iconst (v := (-1)) C dX1_answerRelease_6 (by decide +kernel) ?_
    refine g_icmp_ne (tgt := 12) C dX1_answerRelease_7 (by decide) (fun c7 => ?_) (fun c7 => ?_)
    · skip
      exact absurd rfl c7
    · skip
      refine g_iconst (v := (-1)) C dX1_answerRelease_10 (by decide +kernel) ?_
      exact g_iret C rfl (Or.inl (⟨rfl, rfl, rfl⟩)) (Nat.le_of_ble_eq_true rfl) (Nat.le_of_ble_eq_true rfl) dX1_answerRelease_11
  · skip
    have ho5 := hI.labP e5
    refine g_iconst (v := (-1)) C dX1_answerRelease_6 (by decide +kernel) ?_
    refine g_icmp_ne (tgt := 12) C dX1_answerRelease_7 (by decide) (fun c7 => ?_) (fun c7 => ?_)
    · skip
      refine g_aload_n C dX1_answerRelease_12 rfl 0 rfl ?_
      refine g_iload_n C dX1_answerRelease_13 rfl 1 rfl ?_
      refine g_iload_n C dX1_answerRelease_14 rfl 2 rfl ?_
      refine g_iload C dX1_answerRelease_15 4 rfl ?_
      refine g_Si (st := [.ref (a 0)]) C (k_X1_listingOf l D cy zs (wC cy a (zs 0) lab quo spe md ed lis lc see cnt Fs) S L T ) gX1_answerRelease_X1_listingOf rfl ydX1_listingOf ⟨Nat.le_of_ble_eq_true rfl, Nat.le_of_ble_eq_true rfl⟩ ⟨Nat.le_of_ble_eq_true rfl, Nat.le_of_ble_eq_true rfl⟩ rfl (Nat.le_of_ble_eq_true rfl) dX1_answerRelease_17 (fun r17 w17 h17 => ?_)
      obtain ⟨h17a, h17b⟩ := h17
      subst h17a
      have h17b := h17b.symm
      subst h17b
      refine g_Vi (ci := 2) (st := []) C (k_X1_isListed l D cy zs a lab quo spe md ed lis lc see cnt Fs hI ((((S * 1024) + L) * 1024) + T) (by omega)) gX1_answerRelease_X1_isListed rfl ⟨rfl, ydX1_isListed⟩ 0 rfl rfl ⟨Nat.le_of_ble_eq_true rfl, Nat.le_of_ble_eq_true rfl⟩ ⟨Nat.le_of_ble_eq_true rfl, Nat.le_of_ble_eq_true rfl⟩ rfl (Nat.le_of_ble_eq_true rfl) dX1_answerRelease_20 (fun r20 w20 h20 => ?_)
      obtain ⟨h20a, h20b⟩ := h20
      subst h20a
      have h20b := h20b.symm
      subst h20b
      refine g_if_ne (tgt := 29) C dX1_answerRelease_23 (by decide) (fun c23 => ?_) (fun c23 => ?_)
      · skip
        have c23 := cb_eq1 c23
        refine g_aload_n C dX1_answerRelease_29 rfl 0 rfl ?_
        refine g_iload_n C dX1_answerRelease_30 rfl 2 rfl ?_
        refine g_iload_n C dX1_answerRelease_31 rfl 3 rfl ?_
        refine g_Vq (ci := 2) (st := []) C (k_X1_find l D cy zs a lab quo spe md ed lis lc see cnt Fs hI L q (by omega) (by omega)) gX1_answerRelease_X1_find rfl ⟨rfl, ydX1_find⟩ 0 rfl rfl ⟨Nat.le_of_ble_eq_true rfl, Nat.le_of_ble_eq_true rfl⟩ ⟨Nat.le_of_ble_eq_true rfl, Nat.le_of_ble_eq_true rfl⟩ rfl (Nat.le_of_ble_eq_true rfl) dX1_answerRelease_32 (fun r32 w32 h32 => ?_)
        obtain ⟨h32b, h32⟩ := h32
        subst h32b
        rcases h32 with ⟨e32, h32⟩ | ⟨i32, ⟨ob32, ar32, ky32, fo32, ce32, ct32, gi32, gv32⟩, e32, hF32, hq32, h32⟩ <;> subst h32
        · skip
          refine g_astoreN (lv' := [(5, .null), (0, .ref (a 0)), (1, .int (nI S)), (2, .int (nI L)), (3, .int (nI q)), (4, .int (nI T))]) C dX1_answerRelease_35 (by decide) rfl ?_
          refine g_aloadN C dX1_answerRelease_37 0 rfl ?_
          refine g_ifnonnullN C dX1_answerRelease_39 ?_
          refine g_iconst (v := nI 0) C dX1_answerRelease_42 (by decide +kernel) ?_
          exact g_iret C rfl (Or.inr (Or.inr (Or.inl (⟨rfl, c23, e32, rfl, rfl⟩)))) (Nat.le_of_ble_eq_true rfl) (Nat.le_of_ble_eq_true rfl) dX1_answerRelease_43
        · skip
          have hl32 := plF_lt e32
          have hq32 : ky32 = 16 * L + q := hq32
          obtain ⟨hk32, hct32⟩ := hI.flP hF32
          refine g_astore (lv' := [(5, .ref ob32), (0, .ref (a 0)), (1, .int (nI S)), (2, .int (nI L)), (3, .int (nI q)), (4, .int (nI T))]) C dX1_answerRelease_35 (by decide) rfl ?_
          refine g_aload C dX1_answerRelease_37 0 rfl ?_
          refine g_ifnonnull (tgt := 44) C dX1_answerRelease_39 (by decide) ?_
          refine g_aload_n C dX1_answerRelease_44 rfl 1 rfl ?_
          refine g_iload C dX1_answerRelease_45 5 rfl ?_
          refine g_iload_n C dX1_answerRelease_47 rfl 4 rfl ?_
          refine g_Vq (ci := 2) (st := []) C (k_X1_find l D cy zs a lab quo spe md ed lis lc see cnt Fs hI T q (by omega) (by omega)) gX1_answerRelease_X1_find rfl ⟨rfl, ydX1_find⟩ 0 rfl rfl ⟨Nat.le_of_ble_eq_true rfl, Nat.le_of_ble_eq_true rfl⟩ ⟨Nat.le_of_ble_eq_true rfl, Nat.le_of_ble_eq_true rfl⟩ rfl (Nat.le_of_ble_eq_true rfl) dX1_answerRelease_48 (fun r48 w48 h48 => ?_)
          obtain ⟨h48b, h48⟩ := h48
          subst h48b
          rcases h48 with ⟨e48, h48⟩ | ⟨i48, ⟨ob48, ar48, ky48, fo48, ce48, ct48, gi48, gv48⟩, e48, hF48, hq48, h48⟩ <;> subst h48
          · skip
            refine g_astoreN (lv' := [(6, .null), (5, .ref ob32), (0, .ref (a 0)), (1, .int (nI S)), (2, .int (nI L)), (3, .int (nI q)), (4, .int (nI T))]) C dX1_answerRelease_51 (by decide) rfl ?_
            refine g_aloadN C dX1_answerRelease_53 0 rfl ?_
            refine g_ifnonnullN C dX1_answerRelease_55 ?_
            refine g_iconst (v := nI 0) C dX1_answerRelease_58 (by decide +kernel) ?_
            refine g_goto (tgt := 67) C dX1_answerRelease_59 (by decide) ?_
            refine g_istore (lv' := [(7, .int (nI 0)), (6, .null), (5, .ref ob32), (0, .ref (a 0)), (1, .int (nI S)), (2, .int (nI L)), (3, .int (nI q)), (4, .int (nI T))]) C dX1_answerRelease_67 (by decide) rfl ?_
            refine g_aload_n C dX1_answerRelease_69 rfl 3 rfl ?_
            refine g_iload C dX1_answerRelease_70 7 rfl ?_
            refine g_iconst (v := nI 1) C dX1_answerRelease_72 (by decide +kernel) ?_
            refine g_aload C dX1_answerRelease_73 2 rfl ?_
            refine g_get (ci := 1) (v := .int (nI ct32)) C iwX1_answerRelease_X0 (24 + 2 * i32) (wC_obj hF32) rfl 3 (by decide) (C.hw (List.mem_cons_of_mem _ (List.mem_append_left _ (List.mem_append_left _ (List.mem_append_left _ (List.mem_append_left _ (List.mem_of_getElem? (i := 1) rfl))))))) (fun _ h9 => h9) rfl dX1_answerRelease_75 ?_
            refine g_iadd (v := nI (1 + ct32)) C dX1_answerRelease_78 (nI_add _ _) ?_
            refine g_iload C dX1_answerRelease_79 0 rfl ?_
            refine g_isub (v := nI (1 + ct32) - nI 0) C dX1_answerRelease_81 rfl ?_
            have hu := hI.usP T
            refine g_Vi (ci := 2) (st := []) C (k_X1_hasRoom l D cy zs a lab quo spe md ed lis lc see cnt Fs hI T (nI (1 + ct32) - nI 0) hT (nI_as (by omega)) (by omega)) gX1_answerRelease_X1_hasRoom rfl ⟨rfl, ydX1_hasRoom⟩ 0 rfl rfl ⟨Nat.le_of_ble_eq_true rfl, Nat.le_of_ble_eq_true rfl⟩ ⟨Nat.le_of_ble_eq_true rfl, Nat.le_of_ble_eq_true rfl⟩ rfl (Nat.le_of_ble_eq_true rfl) dX1_answerRelease_82 (fun r82 w82 h82 => ?_)
            obtain ⟨h82a, h82b⟩ := h82
            subst h82a
            have h82b := h82b.symm
            subst h82b
            refine g_if_ne (tgt := 91) C dX1_answerRelease_85 (by decide) (fun c85 => ?_) (fun c85 => ?_)
            · skip
              have c85 := cb_eq1 c85
              refine g_aloadN C dX1_answerRelease_91 1 rfl ?_
              refine g_ifnonnullN C dX1_answerRelease_93 ?_
              refine g_aload_n C dX1_answerRelease_96 rfl 3 rfl ?_
              refine g_Vi (ci := 2) (st := []) C (k_X1_isFull l D cy zs a lab quo spe md ed lis lc see cnt Fs hI  ) gX1_answerRelease_X1_isFull rfl ⟨rfl, ydX1_isFull⟩ 0 rfl rfl ⟨Nat.le_of_ble_eq_true rfl, Nat.le_of_ble_eq_true rfl⟩ ⟨Nat.le_of_ble_eq_true rfl, Nat.le_of_ble_eq_true rfl⟩ rfl (Nat.le_of_ble_eq_true rfl) dX1_answerRelease_97 (fun r97 w97 h97 => ?_)
              obtain ⟨h97a, h97b⟩ := h97
              subst h97a
              have h97b := h97b.symm
              subst h97b
              refine g_if_eq (tgt := 106) C dX1_answerRelease_100 (by decide) (fun c100 => ?_) (fun c100 => ?_)
              · skip
                have c100 := cb_eq0 c100
                have hlt9 : Fs.length < 200 := Nat.not_le.mp (of_decide_eq_false c100)
                refine g_new (ci := 1) (fs := [.int 0, .int 0, .null, .int 0, .int 0, .int 0]) C iwX1_answerRelease_X0 tyX0 tyX0_ok (C.hw (List.mem_cons_of_mem _ (List.mem_append_left _ (List.mem_append_left _ (List.mem_append_left _ (List.mem_append_left _ (List.mem_of_getElem? (i := 2) rfl))))))) (C.hw (List.mem_cons_of_mem _ (List.mem_append_left _ (List.mem_append_left _ (List.mem_append_left _ (List.mem_append_left _ (List.mem_of_getElem? (i := 3) rfl))))))) (C.hw (List.mem_cons_of_mem _ (List.mem_append_left _ (List.mem_append_left _ (List.mem_append_left _ (List.mem_append_left _ (List.mem_of_getElem? (i := 4) rfl))))))) rfl (fun j9 hj9 => by rcases (by omega : j9 = 0 ∨ j9 = 1 ∨ j9 = 2 ∨ j9 = 3 ∨ j9 = 4 ∨ j9 = 5) with rfl | rfl | rfl | rfl | rfl | rfl <;> rfl) (Nat.le_of_ble_eq_true rfl) (Nat.le_of_ble_eq_true rfl) dX1_answerRelease_106 (fun q1 => ?_)
                refine g_dup C dX1_answerRelease_109 rfl ?_
                refine g_iload C dX1_answerRelease_110 7 rfl ?_
                refine g_iload_n C dX1_answerRelease_112 rfl 6 rfl ?_
                refine g_Si (st := [.ref q1, .ref q1]) C (k_X1_addressOf l D cy zs (wC cy a (zs 0) lab quo spe md ed lis lc see cnt Fs ++ [((q1, .inr (1, [.int 0, .int 0, .null, .int 0, .int 0, .int 0])) : Nat × va_E)]) T q ) gX1_answerRelease_X1_addressOf rfl ydX1_addressOf ⟨Nat.le_of_ble_eq_true rfl, Nat.le_of_ble_eq_true rfl⟩ ⟨Nat.le_of_ble_eq_true rfl, Nat.le_of_ble_eq_true rfl⟩ rfl (Nat.le_of_ble_eq_true rfl) dX1_answerRelease_113 (fun r113 w113 h113 => ?_)
                obtain ⟨h113a, h113b⟩ := h113
                subst h113a
                have h113b := h113b.symm
                subst h113b
                refine g_iconst (v := (-1)) C dX1_answerRelease_116 (by decide +kernel) ?_
                refine g_iconst (v := nI 0) C dX1_answerRelease_117 (by decide +kernel) ?_
                refine g_Iv (st := [.ref q1]) C (k_X0_init l D cy zs (wC cy a (zs 0) lab quo spe md ed lis lc see cnt Fs ++ [((q1, .inr (1, [.int 0, .int 0, .null, .int 0, .int 0, .int 0])) : Nat × va_E)]) ((16 * T) + q) (-1) false (tl_at rfl) ) gX1_answerRelease_X0_init rfl (C.hw (List.mem_cons_of_mem _ (List.mem_append_left _ (List.mem_append_left _ (List.mem_append_left _ (List.mem_append_left _ (List.mem_of_getElem? (i := 4) rfl))))))) (C.hw (List.mem_cons_of_mem _ (List.mem_append_left _ (List.mem_append_left _ (List.mem_append_left _ (List.mem_append_right _ (List.mem_append_right _ (List.mem_append_right _ (List.mem_append_left _ (List.mem_of_getElem? (i := 11) rfl)))))))))) (C.hw (List.mem_cons_of_mem _ (List.mem_append_left _ (List.mem_append_left _ (List.mem_append_left _ (List.mem_append_right _ (List.mem_append_right _ (List.mem_append_right _ (List.mem_append_left _ (List.mem_of_getElem? (i := 12) rfl)))))))))) rfl ydX0_init ⟨by exact Nat.le_of_ble_eq_true rfl, by exact Nat.le_of_ble_eq_true rfl⟩ ⟨by exact Nat.le_of_ble_eq_true rfl, by exact Nat.le_of_ble_eq_true rfl⟩ rfl (Nat.le_of_ble_eq_true rfl) dX1_answerRelease_118 (fun w118 h118 => ?_)
                obtain ⟨q2, h118⟩ := h118
                rw [show w118 = (wC cy a (zs 0) lab quo spe md ed lis lc see cnt Fs ++ [objc (q1, q2, (16 * T) + q, (-1), (fun _ => 0), 0, false, (fun _ => false)), arrc cy (q1, q2, (16 * T) + q, (-1), (fun _ => 0), 0, false, (fun _ => false))]) from h118.trans (by rw [tl_set rfl, List.append_assoc]; rfl)]
                refine g_astore (lv' := [(6, .ref q1), (7, .int (nI 0)), (5, .ref ob32), (0, .ref (a 0)), (1, .int (nI S)), (2, .int (nI L)), (3, .int (nI q)), (4, .int (nI T))]) C dX1_answerRelease_121 (by decide) rfl ?_
                refine g_aload_n C dX1_answerRelease_123 rfl 3 rfl ?_
                refine g_aload C dX1_answerRelease_124 0 rfl ?_
                refine g_Vv (ci := 2) (st := []) C (k_X1_store l D cy zs a lab quo spe md ed lis lc see cnt Fs hI  hlt9 (by omega)) gX1_answerRelease_X1_store rfl ⟨rfl, ydX1_store⟩ 0 rfl rfl ⟨Nat.le_of_ble_eq_true rfl, Nat.le_of_ble_eq_true rfl⟩ ⟨Nat.le_of_ble_eq_true rfl, Nat.le_of_ble_eq_true rfl⟩ rfl (Nat.le_of_ble_eq_true rfl) dX1_answerRelease_126 (fun w126 h126 => ?_)
                obtain ⟨pl, ed9, hins, hek, h126⟩ := h126
                subst h126
                have hI126 : CI lab quo spe ed9 lis lc cnt (Fs.insertIdx pl (q1, q2, (16 * T) + q, (-1), (fun _ => 0), 0, false, (fun _ => false))) := hI.ins (F := (q1, q2, (16 * T) + q, (-1), (fun _ => 0), 0, false, (fun _ => false))) hins.1 (by omega) ⟨(show (16 * T) + q < 16384 by omega), (by show 0 ≤ 24; omega)⟩ hek
                obtain ⟨j9, hj9, hne9⟩ := ins_old (F := (q1, q2, (16 * T) + q, (-1), (fun _ => 0), 0, false, (fun _ => false))) hins.1 hF32
                refine g_aload C dX1_answerRelease_129 0 rfl ?_
                refine g_aload C dX1_answerRelease_131 2 rfl ?_
                refine g_Vv (ci := 1) (st := []) C (k_X0_becomeCopyOf l D cy zs (wC cy a (zs 0) lab quo spe (md + nI 1) ed9 lis lc see cnt (Fs.insertIdx pl (q1, q2, (16 * T) + q, (-1), (fun _ => 0), 0, false, (fun _ => false))))  (wC_obj (ins_new hins.1)) (wC_arr (ins_new hins.1)) (wC_obj hj9) (wC_arr hj9) hct32 (by omega) (by omega)) gX1_answerRelease_X0_becomeCopyOf rfl ⟨rfl, ydX0_becomeCopyOf⟩ (24 + 2 * pl) (wC_obj (ins_new hins.1)) rfl ⟨Nat.le_of_ble_eq_true rfl, Nat.le_of_ble_eq_true rfl⟩ ⟨Nat.le_of_ble_eq_true rfl, Nat.le_of_ble_eq_true rfl⟩ rfl (Nat.le_of_ble_eq_true rfl) dX1_answerRelease_133 (fun w133 h133 => ?_)
                rw [show w133 = (wC cy a (zs 0) lab quo spe (md + nI 1) ed9 lis lc see cnt ((Fs.insertIdx pl (q1, q2, (16 * T) + q, (-1), (fun _ => 0), 0, false, (fun _ => false))).set pl (q1, q2, (16 * T) + q, (-1), va_cpy ce32 (fun _ => 0) 0 0 ct32, ct32, false, (fun _ => false)))) from h133.trans (by rw [obj_0 (ce := va_cpy ce32 (fun _ => 0) 0 0 ct32)]; exact wC_sboth (F' := (q1, q2, (16 * T) + q, (-1), va_cpy ce32 (fun _ => 0) 0 0 ct32, ct32, false, (fun _ => false))) (ins_new hins.1) rfl)]
                rw [ins_set hins.1]
                refine g_iconst (v := nI 1) C dX1_answerRelease_136 (by decide +kernel) ?_
                exact g_iret C rfl (Or.inr (Or.inr (Or.inr (Or.inr (Or.inr (Or.inl (⟨i32, ob32, ar32, ky32, fo32, ce32, ct32, gi32, gv32, rfl, c23, e32, hF32, by rw [rep_none e48]; exact c85, e48, hlt9, rfl, pl, ed9, q1, q2, hins, hek, rfl⟩))))))) (Nat.le_of_ble_eq_true rfl) (Nat.le_of_ble_eq_true rfl) dX1_answerRelease_137
              · skip
                have c100 := cb_eq1 c100
                refine g_bipush (v := (-4)) C dX1_answerRelease_103 (by decide +kernel) ?_
                exact g_iret C rfl (Or.inr (Or.inr (Or.inr (Or.inr (Or.inl (⟨i32, ob32, ar32, ky32, fo32, ce32, ct32, gi32, gv32, rfl, c23, e32, hF32, by rw [rep_none e48]; exact c85, e48, of_decide_eq_true c100, rfl, rfl⟩)))))) (Nat.le_of_ble_eq_true rfl) (Nat.le_of_ble_eq_true rfl) dX1_answerRelease_105
            · skip
              have c85 := cb_eq0 c85
              refine g_bipush (v := (-3)) C dX1_answerRelease_88 (by decide +kernel) ?_
              exact g_iret C rfl (Or.inr (Or.inr (Or.inr (Or.inl (⟨i32, ob32, ar32, ky32, fo32, ce32, ct32, gi32, gv32, rfl, c23, e32, hF32, by rw [rep_none e48]; exact c85, rfl, rfl⟩))))) (Nat.le_of_ble_eq_true rfl) (Nat.le_of_ble_eq_true rfl) dX1_answerRelease_90
          · skip
            have hl48 := plF_lt e48
            have hq48 : ky48 = 16 * T + q := hq48
            obtain ⟨hk48, hct48⟩ := hI.flP hF48
            refine g_astore (lv' := [(6, .ref ob48), (5, .ref ob32), (0, .ref (a 0)), (1, .int (nI S)), (2, .int (nI L)), (3, .int (nI q)), (4, .int (nI T))]) C dX1_answerRelease_51 (by decide) rfl ?_
            refine g_aload C dX1_answerRelease_53 0 rfl ?_
            refine g_ifnonnull (tgt := 62) C dX1_answerRelease_55 (by decide) ?_
            refine g_aload C dX1_answerRelease_62 0 rfl ?_
            refine g_Vi (ci := 1) (st := []) C (k_X0_use l D cy zs (wC cy a (zs 0) lab quo spe md ed lis lc see cnt Fs)  (wC_obj hF48) (by omega)) gX1_answerRelease_X0_use rfl ⟨rfl, ydX0_use⟩ (24 + 2 * i48) (wC_obj hF48) rfl ⟨Nat.le_of_ble_eq_true rfl, Nat.le_of_ble_eq_true rfl⟩ ⟨Nat.le_of_ble_eq_true rfl, Nat.le_of_ble_eq_true rfl⟩ rfl (Nat.le_of_ble_eq_true rfl) dX1_answerRelease_64 (fun r64 w64 h64 => ?_)
            obtain ⟨h64a, h64b⟩ := h64
            subst h64a
            have h64b := h64b.symm
            subst h64b
            refine g_istore (lv' := [(7, .int (nI (untN gi48 gv48 ct48))), (6, .ref ob48), (5, .ref ob32), (0, .ref (a 0)), (1, .int (nI S)), (2, .int (nI L)), (3, .int (nI q)), (4, .int (nI T))]) C dX1_answerRelease_67 (by decide) rfl ?_
            refine g_aload_n C dX1_answerRelease_69 rfl 3 rfl ?_
            refine g_iload C dX1_answerRelease_70 7 rfl ?_
            refine g_iconst (v := nI 1) C dX1_answerRelease_72 (by decide +kernel) ?_
            refine g_aload C dX1_answerRelease_73 2 rfl ?_
            refine g_get (ci := 1) (v := .int (nI ct32)) C iwX1_answerRelease_X0 (24 + 2 * i32) (wC_obj hF32) rfl 3 (by decide) (C.hw (List.mem_cons_of_mem _ (List.mem_append_left _ (List.mem_append_left _ (List.mem_append_left _ (List.mem_append_left _ (List.mem_of_getElem? (i := 1) rfl))))))) (fun _ h9 => h9) rfl dX1_answerRelease_75 ?_
            refine g_iadd (v := nI (1 + ct32)) C dX1_answerRelease_78 (nI_add _ _) ?_
            refine g_iload C dX1_answerRelease_79 0 rfl ?_
            refine g_isub (v := nI (1 + ct32) - nI (untN gi48 gv48 ct48)) C dX1_answerRelease_81 rfl ?_
            have hu := hI.usP T
            have hr9 : untN gi48 gv48 ct48 ≤ usF spe Fs T := un_le_us hF48 hq48 hq
            have hun := untN_le (gb := gi48) (g := gv48) hct48
            refine g_Vi (ci := 2) (st := []) C (k_X1_hasRoom l D cy zs a lab quo spe md ed lis lc see cnt Fs hI T (nI (1 + ct32) - nI (untN gi48 gv48 ct48)) hT (nI_as (by omega)) (by omega)) gX1_answerRelease_X1_hasRoom rfl ⟨rfl, ydX1_hasRoom⟩ 0 rfl rfl ⟨Nat.le_of_ble_eq_true rfl, Nat.le_of_ble_eq_true rfl⟩ ⟨Nat.le_of_ble_eq_true rfl, Nat.le_of_ble_eq_true rfl⟩ rfl (Nat.le_of_ble_eq_true rfl) dX1_answerRelease_82 (fun r82 w82 h82 => ?_)
            obtain ⟨h82a, h82b⟩ := h82
            subst h82a
            have h82b := h82b.symm
            subst h82b
            refine g_if_ne (tgt := 91) C dX1_answerRelease_85 (by decide) (fun c85 => ?_) (fun c85 => ?_)
            · skip
              have c85 := cb_eq1 c85
              refine g_aload C dX1_answerRelease_91 1 rfl ?_
              refine g_ifnonnull (tgt := 129) C dX1_answerRelease_93 (by decide) ?_
              refine g_aload C dX1_answerRelease_129 1 rfl ?_
              refine g_aload C dX1_answerRelease_131 2 rfl ?_
              have hij : ¬ i48 = i32 := by
                intro h9
                rw [h9] at hF48
                have h8 := hF32.symm.trans hF48
                simp only [Option.some.injEq, Prod.mk.injEq] at h8
                have h7 := hne c23
                omega
              refine g_Vv (ci := 1) (st := []) C (k_X0_becomeCopyOf l D cy zs (wC cy a (zs 0) lab quo spe md ed lis lc see cnt Fs)  (wC_obj hF48) (wC_arr hF48) (wC_obj hF32) (wC_arr hF32) hct32 (by omega) (by omega)) gX1_answerRelease_X0_becomeCopyOf rfl ⟨rfl, ydX0_becomeCopyOf⟩ (24 + 2 * i48) (wC_obj hF48) rfl ⟨Nat.le_of_ble_eq_true rfl, Nat.le_of_ble_eq_true rfl⟩ ⟨Nat.le_of_ble_eq_true rfl, Nat.le_of_ble_eq_true rfl⟩ rfl (Nat.le_of_ble_eq_true rfl) dX1_answerRelease_133 (fun w133 h133 => ?_)
              rw [show w133 = (wC cy a (zs 0) lab quo spe md ed lis lc see cnt (Fs.set i48 (ob48, ar48, ky48, fo48, va_cpy ce32 ce48 0 0 ct32, ct32, false, (fun _ => false)))) from h133.trans (by rw [obj_0 (ce := va_cpy ce32 ce48 0 0 ct32)]; exact wC_sboth (F' := (ob48, ar48, ky48, fo48, va_cpy ce32 ce48 0 0 ct32, ct32, false, (fun _ => false))) hF48 rfl)]
              refine g_iconst (v := nI 1) C dX1_answerRelease_136 (by decide +kernel) ?_
              exact g_iret C rfl (Or.inr (Or.inr (Or.inr (Or.inr (Or.inr (Or.inr (⟨i32, ob32, ar32, ky32, fo32, ce32, ct32, gi32, gv32, rfl, c23, e32, hF32, by rw [rep_some e48 hF48]; exact c85, i48, ob48, ar48, ky48, fo48, ce48, ct48, gi48, gv48, e48, hF48, rfl, rfl⟩))))))) (Nat.le_of_ble_eq_true rfl) (Nat.le_of_ble_eq_true rfl) dX1_answerRelease_137
            · skip
              have c85 := cb_eq0 c85
              refine g_bipush (v := (-3)) C dX1_answerRelease_88 (by decide +kernel) ?_
              exact g_iret C rfl (Or.inr (Or.inr (Or.inr (Or.inl (⟨i32, ob32, ar32, ky32, fo32, ce32, ct32, gi32, gv32, rfl, c23, e32, hF32, by rw [rep_some e48 hF48]; exact c85, rfl, rfl⟩))))) (Nat.le_of_ble_eq_true rfl) (Nat.le_of_ble_eq_true rfl) dX1_answerRelease_90
      · skip
        have c23 := cb_eq0 c23
        refine g_bipush (v := (-2)) C dX1_answerRelease_26 (by decide +kernel) ?_
        exact g_iret C rfl (Or.inr (Or.inl (⟨rfl, c23, rfl, rfl⟩))) (Nat.le_of_ble_eq_true rfl) (Nat.le_of_ble_eq_true rfl) dX1_answerRelease_28
    · skip
      exact absurd c7 (nI_nem1 (by omega))
abbrev rmX1_showFilesIn : Room := { frames := 3, cells := 0, slots := 0, locals := 64 }
theorem ydX1_showFilesIn : yX1_showFilesIn.cls ≠ "java/lang/invoke/MethodHandle" ∧ yX1_showFilesIn.cls ≠ "java/lang/invoke/VarHandle" ∧ (parseMethodDescriptor yX1_showFilesIn.desc).map (fun d => d.parameters.length) = some 2 := by decide +kernel
theorem iwX1_showFilesIn_X1 : ∀ w ∈ u_ws RX1 TX1 8, w ∈ wsX1_showFilesIn := fun _ h => (List.mem_cons_of_mem _ (List.mem_append_left _ (List.mem_append_left _ (List.mem_append_right _ h))))
theorem iwX1_showFilesIn_X0 : ∀ w ∈ u_ws RX0 TX0 6, w ∈ wsX1_showFilesIn := fun _ h => (List.mem_cons_of_mem _ (List.mem_append_left _ (List.mem_append_right _ h)))
set_option maxRecDepth 100000 in
set_option maxHeartbeats 4000000 in
theorem k_X1_showFilesIn (l : Launch) (D : va_G) (cy : Nat → ClassId) (zs : Nat → Nat) (a : Nat → Nat) (lab : Nat → Option Nat) (quo : Nat → Nat) (spe : Nat → Nat) (md : Int32) (ed : Option (Nat × Nat)) (lis : Nat → Nat) (lc : Nat) (see : Nat → Nat → Int32) (cnt : Nat → Nat) (Fs : List FT) (hI : CI lab quo spe ed lis lc cnt Fs) {o : Nat} (key : Nat) (S : Nat) (hS : S < 16) (hkey : key < 16384) (hlab : lab S = some o) (ho : o < 1024) (hc0 : cnt S = 0) : Mv l D cy zs yX1_showFilesIn wsX1_showFilesIn rmX1_showFilesIn [.ref (a 0), .int (nI key), .int (nI S)] (wC cy a (zs 0) lab quo spe md ed lis lc see cnt Fs) (fun w => ∃ f, segF f (shF Fs key o) ∧ w = (wC cy a (zs 0) lab quo spe md ed lis lc (va_up see S f) (va_up cnt S (shF Fs key o).length) Fs)) := by
  refine Mv.of (lv := [(0, .ref (a 0)), (1, .int (nI key)), (2, .int (nI S))]) RX1 ⟨by decide, rfl⟩ rfl (Nat.le_of_ble_eq_true rfl) rfl ?_
  intro p e s m args below meth c A C hnm
  have hlc := hI.lcP
  have hln := hI.lenP
  refine g_aload_n C dX1_showFilesIn_0 rfl 0 rfl ?_
  refine g_get (ci := 2) (v := .ref (a 1)) C iwX1_showFilesIn_X1 0 rfl rfl 0 (by decide) (C.hw (List.mem_cons_of_mem _ (List.mem_append_left _ (List.mem_append_left _ (List.mem_append_left _ (List.mem_append_left _ (List.mem_of_getElem? (i := 0) rfl))))))) (fun _ h9 => h9) rfl dX1_showFilesIn_1 ?_
  refine g_iload_n C dX1_showFilesIn_4 rfl 2 rfl ?_
  refine g_ialdF (nn := 16) (j := S) (f := lab) C 1 rfl (by omega) n31_16 dX1_showFilesIn_5 ?_
  rw [hlab]
  refine g_istore_n (lv' := [(3, .int (nI o)), (0, .ref (a 0)), (1, .int (nI key)), (2, .int (nI S))]) C dX1_showFilesIn_6 rfl (by decide) rfl ?_
  refine g_iconst (v := nI 0) C dX1_showFilesIn_7 (by decide +kernel) ?_
  refine g_weq (ws' := (wC cy a (zs 0) lab quo spe md ed lis lc (va_up see S (see S)) (va_up cnt S 0) Fs)) (by rw [va_up_same rfl, va_up_same hc0]) ?_
  have hI7 : CI lab quo spe ed lis lc (va_up cnt S 0) Fs := hI.upCnt (by omega)
  refine g_istore (lv' := [(4, .int (nI 0)), (3, .int (nI o)), (0, .ref (a 0)), (1, .int (nI key)), (2, .int (nI S))]) C dX1_showFilesIn_8 (by decide) rfl ?_
  refine g_sub (lv' := [(0, .ref (a 0)), (1, .int (nI key)), (2, .int (nI S)), (3, .int (nI o)), (4, .int (nI 0))]) [2, 3, 4, 1, 0] rfl ?_
  refine g_loop3 (jp := 10) (fun (k : Nat) (n0 : Nat) (f : Nat → Int32) => k ≤ Fs.length ∧ n0 = (shF (Fs.take k) key o).length ∧ segF f (shF (Fs.take k) key o)) (fun (k : Nat) (n0 : Nat) (f : Nat → Int32) => Fs.length - k) (fun (k : Nat) (n0 : Nat) (f : Nat → Int32) => (wC cy a (zs 0) lab quo spe md ed lis lc (va_up see S f) (va_up cnt S n0) Fs)) (fun (k : Nat) (n0 : Nat) (f : Nat → Int32) => [(0, .ref (a 0)), (1, .int (nI key)), (2, .int (nI S)), (3, .int (nI o)), (4, .int (nI k))]) (fun (k : Nat) (n0 : Nat) (f : Nat → Int32) => []) (fun k n0 f hI10 ih10 => ?_) 0 0 (see S) ⟨Nat.zero_le _, rfl, fun j h9 => absurd h9 (Nat.not_lt_zero _)⟩
  obtain ⟨hk, hn0, hsg⟩ := hI10
  have hle := shF_le (Fs := Fs) (key := key) (o := o) k
  have hI8 : CI lab quo spe ed lis lc (va_up cnt S n0) Fs := hI.upCnt (by omega)
  refine g_iload C dX1_showFilesIn_10 4 rfl ?_
  refine g_aload_n C dX1_showFilesIn_12 rfl 0 rfl ?_
  refine g_get (ci := 2) (v := .ref (a 4)) C iwX1_showFilesIn_X1 0 rfl rfl 3 (by decide) (C.hw (List.mem_cons_of_mem _ (List.mem_append_left _ (List.mem_append_left _ (List.mem_append_left _ (List.mem_append_left _ (List.mem_of_getElem? (i := 1) rfl))))))) (fun _ h9 => h9) rfl dX1_showFilesIn_13 ?_
  refine g_Vi (ci := 0) (st := [.int (nI k)]) C (k_Jx4a65c_size_8abf5 l D cy zs (wC cy a (zs 0) lab quo spe md ed lis lc (va_up see S f) (va_up cnt S n0) Fs)  (show (wC cy a (zs 0) lab quo spe md ed lis lc (va_up see S f) (va_up cnt S n0) Fs)[4]? = some (a 4, .inr (0, [.int md, .ref (edr (zs 0) ed), .int (nI Fs.length)])) from rfl) ) gX1_showFilesIn_Jx4a65c_size_8abf5 rfl ⟨rfl, ydJx4a65c_size_8abf5⟩ 4 rfl rfl ⟨Nat.le_of_ble_eq_true rfl, Nat.le_of_ble_eq_true rfl⟩ ⟨Nat.le_of_ble_eq_true rfl, Nat.le_of_ble_eq_true rfl⟩ rfl (Nat.le_of_ble_eq_true rfl) dX1_showFilesIn_16 (fun r16 w16 h16 => ?_)
  obtain ⟨h16a, h16b⟩ := h16
  subst h16a
  have h16b := h16b.symm
  subst h16b
  refine g_icmp_ge (tgt := 76) C dX1_showFilesIn_19 (by decide) (fun c19 => ?_) (fun c19 => ?_)
  · skip
    have c19 := c_ge0 (by omega) (by omega) c19
    exact g_vret C rfl (⟨f, by have h9 := hsg; rw [show k = Fs.length by omega, List.take_length] at h9; exact h9, by rw [hn0, show k = Fs.length by omega, List.take_length]⟩) (Nat.le_of_ble_eq_true rfl) (Nat.le_of_ble_eq_true rfl) dX1_showFilesIn_76
  · skip
    have c19 := c_ge1 (by omega) (by omega) c19
    refine g_aload_n C dX1_showFilesIn_22 rfl 0 rfl ?_
    refine g_get (ci := 2) (v := .ref (a 4)) C iwX1_showFilesIn_X1 0 rfl rfl 3 (by decide) (C.hw (List.mem_cons_of_mem _ (List.mem_append_left _ (List.mem_append_left _ (List.mem_append_left _ (List.mem_append_left _ (List.mem_of_getElem? (i := 1) rfl))))))) (fun _ h9 => h9) rfl dX1_showFilesIn_23 ?_
    refine g_iload C dX1_showFilesIn_26 4 rfl ?_
    obtain ⟨⟨ob28, ar28, ky28, fo28, ce28, ct28, gi28, gv28⟩, hF28⟩ : ∃ F, Fs[k]? = some F := ⟨_, List.getElem?_eq_getElem (by omega)⟩
    obtain ⟨hk28, hct28⟩ := hI8.flP hF28
    obtain ⟨eq28, cap28, hed28, hca28, hcb28⟩ := hI8.edP (show 0 < Fs.length by omega)
    refine g_Vq (ci := 0) (st := []) C (k_Jx4a65c_get_915e3 l D cy zs (wC cy a (zs 0) lab quo spe md ed lis lc (va_up see S f) (va_up cnt S n0) Fs) k (show (wC cy a (zs 0) lab quo spe md ed lis lc (va_up see S f) (va_up cnt S n0) Fs)[4]? = some (a 4, .inr (0, [.int md, .ref (edr (zs 0) ed), .int (nI Fs.length)])) from rfl) (wC_ed hed28) (by omega) hca28 (by omega) (show obF Fs k = some ob28 by unfold obF; rw [hF28]; rfl)) gX1_showFilesIn_Jx4a65c_get_915e3 rfl ⟨rfl, ydJx4a65c_get_915e3⟩ 4 rfl rfl ⟨Nat.le_of_ble_eq_true rfl, Nat.le_of_ble_eq_true rfl⟩ ⟨Nat.le_of_ble_eq_true rfl, Nat.le_of_ble_eq_true rfl⟩ rfl (Nat.le_of_ble_eq_true rfl) dX1_showFilesIn_28 (fun r28 w28 h28 => ?_)
    obtain ⟨h28a, h28b⟩ := h28
    subst h28a
    have h28b := h28b.symm
    subst h28b
    refine g_castS (ci := 1) C (C.hw (List.mem_cons_of_mem _ (List.mem_append_left _ (List.mem_append_left _ (List.mem_append_left _ (List.mem_append_left _ (List.mem_of_getElem? (i := 2) rfl))))))) (24 + 2 * k) (wC_obj hF28) rfl dX1_showFilesIn_31 ?_
    refine g_astore (lv' := [(5, .ref ob28), (0, .ref (a 0)), (1, .int (nI key)), (2, .int (nI S)), (3, .int (nI o)), (4, .int (nI k))]) C dX1_showFilesIn_34 (by decide) rfl ?_
    refine g_aload C dX1_showFilesIn_36 0 rfl ?_
    refine g_get (ci := 1) (v := .int fo28) C iwX1_showFilesIn_X0 (24 + 2 * k) (wC_obj hF28) rfl 1 (by decide) (C.hw (List.mem_cons_of_mem _ (List.mem_append_left _ (List.mem_append_left _ (List.mem_append_left _ (List.mem_append_left _ (List.mem_of_getElem? (i := 3) rfl))))))) (fun _ h9 => h9) rfl dX1_showFilesIn_38 ?_
    refine g_iload_n C dX1_showFilesIn_41 rfl 2 rfl ?_
    refine g_icmp_ne (tgt := 70) C dX1_showFilesIn_42 (by decide) (fun c42 => ?_) (fun c42 => ?_)
    · skip
      refine g_iinc (q := 5) (v := nI (k + 1)) (lv' := [(4, .int (nI (k + 1))), (5, .ref ob28), (0, .ref (a 0)), (1, .int (nI key)), (2, .int (nI S)), (3, .int (nI o))]) C dX1_showFilesIn_70 rfl (nI_inc1 _) (by decide) rfl ?_
      refine g_goto (tgt := 10) C dX1_showFilesIn_73 (by decide) ?_
      exact g_sub (lv' := [(0, .ref (a 0)), (1, .int (nI key)), (2, .int (nI S)), (3, .int (nI o)), (4, .int (nI (k + 1)))]) [2, 3, 4, 5, 0] rfl (ih10 (k + 1) n0 f ⟨by omega, by rw [shF_s hF28, if_neg (by rw [decide_eq_false c42, Bool.false_and]; decide), List.append_nil]; exact hn0, by rw [shF_s hF28, if_neg (by rw [decide_eq_false c42, Bool.false_and]; decide), List.append_nil]; exact hsg⟩ (by omega))
    · skip
      refine g_aload C dX1_showFilesIn_45 0 rfl ?_
      refine g_get (ci := 1) (v := .int (nI ky28)) C iwX1_showFilesIn_X0 (24 + 2 * k) (wC_obj hF28) rfl 0 (by decide) (C.hw (List.mem_cons_of_mem _ (List.mem_append_left _ (List.mem_append_left _ (List.mem_append_left _ (List.mem_append_left _ (List.mem_of_getElem? (i := 4) rfl))))))) (fun _ h9 => h9) rfl dX1_showFilesIn_47 ?_
      refine g_Si (st := []) C (k_X1_labelOfAddress l D cy zs (wC cy a (zs 0) lab quo spe md ed lis lc (va_up see S f) (va_up cnt S n0) Fs) ky28 (by omega)) gX1_showFilesIn_X1_labelOfAddress rfl ydX1_labelOfAddress ⟨Nat.le_of_ble_eq_true rfl, Nat.le_of_ble_eq_true rfl⟩ ⟨Nat.le_of_ble_eq_true rfl, Nat.le_of_ble_eq_true rfl⟩ rfl (Nat.le_of_ble_eq_true rfl) dX1_showFilesIn_50 (fun r50 w50 h50 => ?_)
      obtain ⟨h50a, h50b⟩ := h50
      subst h50a
      have h50b := h50b.symm
      subst h50b
      refine g_iload_n C dX1_showFilesIn_53 rfl 4 rfl ?_
      refine g_Si (st := []) C (k_X1_mayFlow l D cy zs (wC cy a (zs 0) lab quo spe md ed lis lc (va_up see S f) (va_up cnt S n0) Fs) (ky28 / 16) o (by omega) (by omega)) gX1_showFilesIn_X1_mayFlow rfl ydX1_mayFlow ⟨Nat.le_of_ble_eq_true rfl, Nat.le_of_ble_eq_true rfl⟩ ⟨Nat.le_of_ble_eq_true rfl, Nat.le_of_ble_eq_true rfl⟩ rfl (Nat.le_of_ble_eq_true rfl) dX1_showFilesIn_54 (fun r54 w54 h54 => ?_)
      obtain ⟨h54a, h54b⟩ := h54
      subst h54a
      have h54b := h54b.symm
      subst h54b
      refine g_if_eq (tgt := 70) C dX1_showFilesIn_57 (by decide) (fun c57 => ?_) (fun c57 => ?_)
      · skip
        have c57 := cb_eq0 c57
        refine g_iinc (q := 5) (v := nI (k + 1)) (lv' := [(4, .int (nI (k + 1))), (5, .ref ob28), (0, .ref (a 0)), (1, .int (nI key)), (2, .int (nI S)), (3, .int (nI o))]) C dX1_showFilesIn_70 rfl (nI_inc1 _) (by decide) rfl ?_
        refine g_goto (tgt := 10) C dX1_showFilesIn_73 (by decide) ?_
        exact g_sub (lv' := [(0, .ref (a 0)), (1, .int (nI key)), (2, .int (nI S)), (3, .int (nI o)), (4, .int (nI (k + 1)))]) [2, 3, 4, 5, 0] rfl (ih10 (k + 1) n0 f ⟨by omega, by rw [shF_s hF28, if_neg (by rw [c57, Bool.and_false]; decide), List.append_nil]; exact hn0, by rw [shF_s hF28, if_neg (by rw [c57, Bool.and_false]; decide), List.append_nil]; exact hsg⟩ (by omega))
      · skip
        have c57 := cb_eq1 c57
        refine g_aload_n C dX1_showFilesIn_60 rfl 1 rfl ?_
        refine g_iload_n C dX1_showFilesIn_61 rfl 3 rfl ?_
        refine g_aload C dX1_showFilesIn_62 0 rfl ?_
        refine g_get (ci := 1) (v := .int (nI ky28)) C iwX1_showFilesIn_X0 (24 + 2 * k) (wC_obj hF28) rfl 0 (by decide) (C.hw (List.mem_cons_of_mem _ (List.mem_append_left _ (List.mem_append_left _ (List.mem_append_left _ (List.mem_append_left _ (List.mem_of_getElem? (i := 4) rfl))))))) (fun _ h9 => h9) rfl dX1_showFilesIn_64 ?_
        refine g_Vv (ci := 2) (st := []) C (k_X1_show l D cy zs a lab quo spe md ed lis lc (va_up see S f) (va_up cnt S n0) Fs hI8 S (nI ky28) (by omega)) gX1_showFilesIn_X1_show rfl ⟨rfl, ydX1_show⟩ 0 rfl rfl ⟨Nat.le_of_ble_eq_true rfl, Nat.le_of_ble_eq_true rfl⟩ ⟨Nat.le_of_ble_eq_true rfl, Nat.le_of_ble_eq_true rfl⟩ rfl (Nat.le_of_ble_eq_true rfl) dX1_showFilesIn_67 (fun w67 h67 => ?_)
        rw [va_up_self, va_up_self, up_up, up_up] at h67
        rcases h67 with ⟨h67a, h67⟩ | ⟨h67a, h67⟩
        · omega
        subst h67
        refine g_iinc (q := 5) (v := nI (k + 1)) (lv' := [(4, .int (nI (k + 1))), (5, .ref ob28), (0, .ref (a 0)), (1, .int (nI key)), (2, .int (nI S)), (3, .int (nI o))]) C dX1_showFilesIn_70 rfl (nI_inc1 _) (by decide) rfl ?_
        refine g_goto (tgt := 10) C dX1_showFilesIn_73 (by decide) ?_
        exact g_sub (lv' := [(0, .ref (a 0)), (1, .int (nI key)), (2, .int (nI S)), (3, .int (nI o)), (4, .int (nI (k + 1)))]) [2, 3, 4, 5, 0] rfl (ih10 (k + 1) (n0 + 1) (upd f n0 (nI ky28)) ⟨by omega, by rw [shF_s hF28, if_pos (by rw [decide_eq_true c42, c57]; rfl), List.length_append, hn0]; rfl, by rw [shF_s hF28, if_pos (by rw [decide_eq_true c42, c57]; rfl), hn0]; exact segF_s hsg⟩ (by omega))
