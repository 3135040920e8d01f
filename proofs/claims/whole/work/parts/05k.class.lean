abbrev rmX1_set : Room := { frames := 7, cells := 12, slots := 500, locals := 120 }
theorem ydX1_set : yX1_set.cls ≠ "java/lang/invoke/MethodHandle" ∧ yX1_set.cls ≠ "java/lang/invoke/VarHandle" ∧ (parseMethodDescriptor yX1_set.desc).map (fun d => d.parameters.length) = some 4 := by decide +kernel
theorem iwX1_set_X1 : ∀ w ∈ u_ws RX1 TX1 8, w ∈ wsX1_set := fun _ h => (List.mem_cons_of_mem _ (List.mem_append_left _ (List.mem_append_left _ (List.mem_append_left _ (List.mem_append_right _ h)))))
theorem iwX1_set_X0 : ∀ w ∈ u_ws RX0 TX0 6, w ∈ wsX1_set := fun _ h => (List.mem_cons_of_mem _ (List.mem_append_left _ (List.mem_append_left _ (List.mem_append_right _ h))))
set_option maxRecDepth 100000 in
set_option maxHeartbeats 4000000 in
theorem k_X1_set (l : Launch) (D : va_G) (cy : Nat → ClassId) (zs : Nat → Nat) (hst : l.stackTraces = false) (a : Nat → Nat) (lab : Nat → Option Nat) (quo : Nat → Nat) (spe : Nat → Nat) (md : Int32) (ed : Option (Nat × Nat)) (lis : Nat → Nat) (lc : Nat) (see : Nat → Nat → Int32) (cnt : Nat → Nat) (Fs : List FT) (hI : CI lab quo spe ed lis lc cnt Fs)  (p0 : Int32) (p1 : Int32) (p2 : Int32) (v : Int32)  : Xi l D cy zs yX1_set wsX1_set rmX1_set [.ref (a 0), .int p0, .int p1, .int p2, .int v] (wC cy a (zs 0) lab quo spe md ed lis lc see cnt Fs) (fun r w => ∃ (S : Nat) (q : Nat) (i : Nat), p0 = nI S ∧ S < 16 ∧ p1 = nI q ∧ q < 16 ∧ p2 = nI i ∧ i < 24 ∧ ((setD (lab S) (szF Fs (16 * ((lab S).getD 0) + q)) i (!(decide ((usF spe Fs ((lab S).getD 0)) + 1 ≤ quo ((lab S).getD 0)))) = 0 ∧ r = -1 ∧ w = (wC cy a (zs 0) lab quo spe md ed lis lc see (va_up cnt S 0) Fs)) ∨ (setD (lab S) (szF Fs (16 * ((lab S).getD 0) + q)) i (!(decide ((usF spe Fs ((lab S).getD 0)) + 1 ≤ quo ((lab S).getD 0)))) = 1 ∧ r = nI 0 ∧ w = (wC cy a (zs 0) lab quo spe md ed lis lc see (va_up cnt S 0) Fs)) ∨ (∃ (i1 ob1 ar1 ky1 : Nat) (fo1 : Int32) (ce1 : Nat → Int32) (ct1 : Nat) (gi1 : Bool) (gv1 : Nat → Bool), plF Fs (16 * ((lab S).getD 0) + q) = some i1 ∧ Fs[i1]? = some (ob1, ar1, ky1, fo1, ce1, ct1, gi1, gv1) ∧ setD (lab S) (szF Fs (16 * ((lab S).getD 0) + q)) i (!(decide ((usF spe Fs ((lab S).getD 0)) + 1 ≤ quo ((lab S).getD 0)))) = 2 ∧ r = nI 1 ∧ w = (wC cy a (zs 0) lab quo spe md ed lis lc see (va_up cnt S 0) (Fs.set i1 (ob1, ar1, ky1, fo1, upd ce1 i v, ct1, gi1, gv1)))) ∨ (setD (lab S) (szF Fs (16 * ((lab S).getD 0) + q)) i (!(decide ((usF spe Fs ((lab S).getD 0)) + 1 ≤ quo ((lab S).getD 0)))) = 3 ∧ r = -3 ∧ w = (wC cy a (zs 0) lab quo spe md ed lis lc see (va_up cnt S 0) Fs)) ∨ (∃ (i1 ob1 ar1 ky1 : Nat) (fo1 : Int32) (ce1 : Nat → Int32) (ct1 : Nat) (gi1 : Bool) (gv1 : Nat → Bool), plF Fs (16 * ((lab S).getD 0) + q) = some i1 ∧ Fs[i1]? = some (ob1, ar1, ky1, fo1, ce1, ct1, gi1, gv1) ∧ setD (lab S) (szF Fs (16 * ((lab S).getD 0) + q)) i (!(decide ((usF spe Fs ((lab S).getD 0)) + 1 ≤ quo ((lab S).getD 0)))) = 4 ∧ r = nI 1 ∧ w = (wC cy a (zs 0) lab quo spe md ed lis lc see (va_up cnt S 0) (Fs.set i1 (ob1, ar1, ky1, fo1, upd ce1 ct1 v, ct1 + 1, gi1, va_up gv1 ct1 false)))))) (fun E w => ((!inB p0 16 || !inB p1 16 || !inB p2 24) = true ∧ E = "java/lang/IllegalArgumentException" ∧ w = (wC cy a (zs 0) lab quo spe md ed lis lc see cnt Fs))) := by
  refine Xi.of (lv := [(0, .ref (a 0)), (1, .int p0), (2, .int p1), (3, .int p2), (4, .int v)]) RX1 ⟨by decide, rfl⟩ rfl (Nat.le_of_ble_eq_true rfl) rfl ?_
  intro p e s m args below meth c A C hnm hno
  have hlc := hI.lcP
  have hln := hI.lenP
  refine g_iload_n C dX1_set_0 rfl 1 rfl ?_
  refine g_XSv (st := []) C (k_X1_requireSubject l D cy zs hst (wC cy a (zs 0) lab quo spe md ed lis lc see cnt Fs) p0 ) gX1_set_X1_requireSubject rfl ydX1_requireSubject ⟨Nat.le_of_ble_eq_true rfl, Nat.le_of_ble_eq_true rfl⟩ ⟨Nat.le_of_ble_eq_true rfl, Nat.le_of_ble_eq_true rfl⟩ rfl (Nat.le_of_ble_eq_true rfl) dX1_set_1 (fun E1 w1 h1 => ?_) (fun w1 h1 => ?_)
  · skip
    obtain ⟨h1a, h1b, h1c⟩ := h1
    subst h1b
    subst h1c
    exact g_xout C hno (⟨(by simp [h1a]), rfl, rfl⟩) (Nat.le_of_ble_eq_true rfl) (Nat.le_of_ble_eq_true rfl)
  obtain ⟨h1, h1b⟩ := h1
  have h1b := h1b.symm
  subst h1b
  obtain ⟨S, hS, eS⟩ := inB_of (Nat.le_of_ble_eq_true rfl) h1
  subst eS
  refine g_iload_n C dX1_set_4 rfl 2 rfl ?_
  refine g_XSv (st := []) C (k_X1_requireNumber l D cy zs hst (wC cy a (zs 0) lab quo spe md ed lis lc see cnt Fs) p1 ) gX1_set_X1_requireNumber rfl ydX1_requireNumber ⟨Nat.le_of_ble_eq_true rfl, Nat.le_of_ble_eq_true rfl⟩ ⟨Nat.le_of_ble_eq_true rfl, Nat.le_of_ble_eq_true rfl⟩ rfl (Nat.le_of_ble_eq_true rfl) dX1_set_5 (fun E5 w5 h5 => ?_) (fun w5 h5 => ?_)
  · skip
    obtain ⟨h5a, h5b, h5c⟩ := h5
    subst h5b
    subst h5c
    exact g_xout C hno (⟨(by simp [h5a]), rfl, rfl⟩) (Nat.le_of_ble_eq_true rfl) (Nat.le_of_ble_eq_true rfl)
  obtain ⟨h5, h5b⟩ := h5
  have h5b := h5b.symm
  subst h5b
  obtain ⟨q, hq, eq⟩ := inB_of (Nat.le_of_ble_eq_true rfl) h5
  subst eq
  refine g_iload_n C dX1_set_8 rfl 3 rfl ?_
  refine g_XSv (st := []) C (k_X1_requireCell l D cy zs hst (wC cy a (zs 0) lab quo spe md ed lis lc see cnt Fs) p2 ) gX1_set_X1_requireCell rfl ydX1_requireCell ⟨Nat.le_of_ble_eq_true rfl, Nat.le_of_ble_eq_true rfl⟩ ⟨Nat.le_of_ble_eq_true rfl, Nat.le_of_ble_eq_true rfl⟩ rfl (Nat.le_of_ble_eq_true rfl) dX1_set_9 (fun E9 w9 h9 => ?_) (fun w9 h9 => ?_)
  · skip
    obtain ⟨h9a, h9b, h9c⟩ := h9
    subst h9b
    subst h9c
    exact g_xout C hno (⟨(by simp [h9a]), rfl, rfl⟩) (Nat.le_of_ble_eq_true rfl) (Nat.le_of_ble_eq_true rfl)
  obtain ⟨h9, h9b⟩ := h9
  have h9b := h9b.symm
  subst h9b
  obtain ⟨i, hi, ei⟩ := inB_of (Nat.le_of_ble_eq_true rfl) h9
  subst ei
  refine g_aload_n C dX1_set_12 rfl 0 rfl ?_
  refine g_iload_n C dX1_set_13 rfl 1 rfl ?_
  refine g_Vv (ci := 2) (st := []) C (k_X1_forgetSeen l D cy zs a lab quo spe md ed lis lc see cnt Fs hI S (by omega)) gX1_set_X1_forgetSeen rfl ⟨rfl, ydX1_forgetSeen⟩ 0 rfl rfl ⟨Nat.le_of_ble_eq_true rfl, Nat.le_of_ble_eq_true rfl⟩ ⟨Nat.le_of_ble_eq_true rfl, Nat.le_of_ble_eq_true rfl⟩ rfl (Nat.le_of_ble_eq_true rfl) dX1_set_14 (fun w14 h14 => ?_)
  subst h14
  have hI14 : CI lab quo spe ed lis lc (va_up cnt S 0) Fs := hI.upCnt (by omega)
  refine g_aload_n C dX1_set_17 rfl 0 rfl ?_
  refine g_get (ci := 2) (v := .ref (a 1)) C iwX1_set_X1 0 rfl rfl 0 (by decide) (C.hw (List.mem_cons_of_mem _ (List.mem_append_left _ (List.mem_append_left _ (List.mem_append_left _ (List.mem_append_left _ (List.mem_append_left _ (List.mem_of_getElem? (i := 0) rfl)))))))) (fun _ h9 => h9) rfl dX1_set_18 ?_
  refine g_iload_n C dX1_set_21 rfl 1 rfl ?_
  refine g_ialdF (nn := 16) (j := S) (f := lab) C 1 rfl (by omega) n31_16 dX1_set_22 ?_
  rcases e22 : lab S with _ | o
  · skip
    refine g_istore (lv' := [(5, .int (-1)), (0, .ref (a 0)), (1, .int (nI S)), (2, .int (nI q)), (3, .int (nI i)), (4, .int v)]) C dX1_set_23 (by decide) rfl ?_
    refine g_iload C dX1_set_25 0 rfl ?_
    refine g_iconst (v := (-1)) C dX1_set_27 (by decide +kernel) ?_
    refine g_icmp_ne (tgt := 33) C dX1_set_28 (by decide) (fun c28 => ?_) (fun c28 => ?_)
    · skip
      exact absurd rfl c28
    · skip
      refine g_iconst (v := (-1)) C dX1_set_31 (by decide +kernel) ?_
      exact g_xiret C rfl (⟨S, q, i, rfl, hS, rfl, hq, rfl, hi, Or.inl (⟨(by simp only [setD, e22, Option.getD_some, Option.isSome_none, Option.isSome_some, Bool.false_eq_true, Bool.true_eq_false, Bool.not_true, Bool.not_false, Bool.and_true, Bool.and_false, Bool.true_and, Bool.false_and, eq_self, if_true, if_false]; try (repeat (first | rw [if_pos (by first | assumption | omega)] | rw [if_neg (by first | assumption | omega)]))), rfl, rfl⟩)⟩) (Nat.le_of_ble_eq_true rfl) (Nat.le_of_ble_eq_true rfl) dX1_set_32
  · skip
    have ho22 := hI14.labP e22
    refine g_istore (lv' := [(5, .int (nI o)), (0, .ref (a 0)), (1, .int (nI S)), (2, .int (nI q)), (3, .int (nI i)), (4, .int v)]) C dX1_set_23 (by decide) rfl ?_
    refine g_iload C dX1_set_25 0 rfl ?_
    refine g_iconst (v := (-1)) C dX1_set_27 (by decide +kernel) ?_
    refine g_icmp_ne (tgt := 33) C dX1_set_28 (by decide) (fun c28 => ?_) (fun c28 => ?_)
    · skip
      refine g_aload_n C dX1_set_33 rfl 1 rfl ?_
      refine g_iload C dX1_set_34 0 rfl ?_
      refine g_iload_n C dX1_set_36 rfl 3 rfl ?_
      refine g_Vq (ci := 2) (st := []) C (k_X1_find l D cy zs a lab quo spe md ed lis lc see (va_up cnt S 0) Fs hI14 o q (by omega) hq) gX1_set_X1_find rfl ⟨rfl, ydX1_find⟩ 0 rfl rfl ⟨Nat.le_of_ble_eq_true rfl, Nat.le_of_ble_eq_true rfl⟩ ⟨Nat.le_of_ble_eq_true rfl, Nat.le_of_ble_eq_true rfl⟩ rfl (Nat.le_of_ble_eq_true rfl) dX1_set_37 (fun r37 w37 h37 => ?_)
      obtain ⟨h37b, h37⟩ := h37
      subst h37b
      rcases h37 with ⟨e37, h37⟩ | ⟨i37, ⟨ob37, ar37, ky37, fo37, ce37, ct37, gi37, gv37⟩, e37, hF37, hq37, h37⟩ <;> subst h37
      · skip
        refine g_astoreN (lv' := [(6, .null), (5, .int (nI o)), (0, .ref (a 0)), (1, .int (nI S)), (2, .int (nI q)), (3, .int (nI i)), (4, .int v)]) C dX1_set_40 (by decide) rfl ?_
        refine g_aloadN C dX1_set_42 0 rfl ?_
        refine g_ifnullN (tgt := 56) C dX1_set_44 (by decide) ?_
        refine g_iconst (v := nI 0) C dX1_set_56 (by decide +kernel) ?_
        exact g_xiret C rfl (⟨S, q, i, rfl, hS, rfl, hq, rfl, hi, Or.inr (Or.inl (⟨(by simp only [setD, e22, sz_none e37, Option.getD_some, Option.isSome_none, Option.isSome_some, Bool.false_eq_true, Bool.true_eq_false, Bool.not_true, Bool.not_false, Bool.and_true, Bool.and_false, Bool.true_and, Bool.false_and, eq_self, if_true, if_false]; try (repeat (first | rw [if_pos (by first | assumption | omega)] | rw [if_neg (by first | assumption | omega)]))), rfl, rfl⟩))⟩) (Nat.le_of_ble_eq_true rfl) (Nat.le_of_ble_eq_true rfl) dX1_set_57
      · skip
        have hl37 := plF_lt e37
        have hq37 : ky37 = 16 * o + q := hq37
        obtain ⟨hk37, hct37⟩ := hI14.flP hF37
        refine g_astore (lv' := [(6, .ref ob37), (5, .int (nI o)), (0, .ref (a 0)), (1, .int (nI S)), (2, .int (nI q)), (3, .int (nI i)), (4, .int v)]) C dX1_set_40 (by decide) rfl ?_
        refine g_aload C dX1_set_42 0 rfl ?_
        refine g_ifnull C dX1_set_44 ?_
        refine g_iload_n C dX1_set_47 rfl 5 rfl ?_
        refine g_aload C dX1_set_48 0 rfl ?_
        refine g_get (ci := 1) (v := .int (nI ct37)) C iwX1_set_X0 (24 + 2 * i37) (wC_obj hF37) rfl 3 (by decide) (C.hw (List.mem_cons_of_mem _ (List.mem_append_left _ (List.mem_append_left _ (List.mem_append_left _ (List.mem_append_left _ (List.mem_append_left _ (List.mem_of_getElem? (i := 1) rfl)))))))) (fun _ h9 => h9) rfl dX1_set_50 ?_
        refine g_icmp_le (tgt := 58) C dX1_set_53 (by decide) (fun c53 => ?_) (fun c53 => ?_)
        · skip
          have c53 := c_le0 (by omega) (by omega) c53
          refine g_iload_n C dX1_set_58 rfl 5 rfl ?_
          refine g_aload C dX1_set_59 0 rfl ?_
          refine g_get (ci := 1) (v := .int (nI ct37)) C iwX1_set_X0 (24 + 2 * i37) (wC_obj hF37) rfl 3 (by decide) (C.hw (List.mem_cons_of_mem _ (List.mem_append_left _ (List.mem_append_left _ (List.mem_append_left _ (List.mem_append_left _ (List.mem_append_left _ (List.mem_of_getElem? (i := 1) rfl)))))))) (fun _ h9 => h9) rfl dX1_set_61 ?_
          refine g_icmp_ge (tgt := 78) C dX1_set_64 (by decide) (fun c64 => ?_) (fun c64 => ?_)
          · skip
            have c64 := c_ge0 (by omega) (by omega) c64
            refine g_aload_n C dX1_set_78 rfl 2 rfl ?_
            refine g_iload C dX1_set_79 1 rfl ?_
            refine g_iconst (v := nI 1) C dX1_set_81 (by decide +kernel) ?_
            have hu := hI.usP o
            refine g_Vi (ci := 2) (st := []) C (k_X1_hasRoom l D cy zs a lab quo spe md ed lis lc see (va_up cnt S 0) Fs hI14 o (nI 1) (by omega) (nI_add _ _) (by omega)) gX1_set_X1_hasRoom rfl ⟨rfl, ydX1_hasRoom⟩ 0 rfl rfl ⟨Nat.le_of_ble_eq_true rfl, Nat.le_of_ble_eq_true rfl⟩ ⟨Nat.le_of_ble_eq_true rfl, Nat.le_of_ble_eq_true rfl⟩ rfl (Nat.le_of_ble_eq_true rfl) dX1_set_82 (fun r82 w82 h82 => ?_)
            obtain ⟨h82a, h82b⟩ := h82
            subst h82a
            have h82b := h82b.symm
            subst h82b
            refine g_if_ne (tgt := 91) C dX1_set_85 (by decide) (fun c85 => ?_) (fun c85 => ?_)
            · skip
              have c85 := cb_eq1 c85
              refine g_aload C dX1_set_91 0 rfl ?_
              refine g_iload C dX1_set_93 6 rfl ?_
              refine g_iconst (v := nI 0) C dX1_set_95 (by decide +kernel) ?_
              refine g_Vv (ci := 1) (st := []) C (k_X0_append l D cy zs (wC cy a (zs 0) lab quo spe md ed lis lc see (va_up cnt S 0) Fs) v false (wC_obj hF37) (wC_arr hF37) (by omega)) gX1_set_X0_append rfl ⟨rfl, ydX0_append⟩ (24 + 2 * i37) (wC_obj hF37) rfl ⟨Nat.le_of_ble_eq_true rfl, Nat.le_of_ble_eq_true rfl⟩ ⟨Nat.le_of_ble_eq_true rfl, Nat.le_of_ble_eq_true rfl⟩ rfl (Nat.le_of_ble_eq_true rfl) dX1_set_96 (fun w96 h96 => ?_)
              rcases h96 with ⟨h96a, h96⟩ | ⟨h96a, h96⟩
              · skip
                have h96a : 24 ≤ ct37 := h96a
                omega
              · skip
                have h96a : ct37 < 24 := h96a
                rw [show w96 = (wC cy a (zs 0) lab quo spe md ed lis lc see (va_up cnt S 0) (Fs.set i37 (ob37, ar37, ky37, fo37, upd ce37 ct37 v, ct37 + 1, gi37, va_up gv37 ct37 false))) from h96.trans (wC_sboth (F' := (ob37, ar37, ky37, fo37, upd ce37 ct37 v, ct37 + 1, gi37, va_up gv37 ct37 false)) hF37 rfl)]
                refine g_iconst (v := nI 1) C dX1_set_99 (by decide +kernel) ?_
                exact g_xiret C rfl (⟨S, q, i, rfl, hS, rfl, hq, rfl, hi, Or.inr (Or.inr (Or.inr (Or.inr (⟨i37, ob37, ar37, ky37, fo37, ce37, ct37, gi37, gv37, by rw [e22]; exact e37, hF37, (by simp only [setD, e22, sz_some e37 hF37, c85, Option.getD_some, Option.isSome_none, Option.isSome_some, Bool.false_eq_true, Bool.true_eq_false, Bool.not_true, Bool.not_false, Bool.and_true, Bool.and_false, Bool.true_and, Bool.false_and, eq_self, if_true, if_false]; try (repeat (first | rw [if_pos (by first | assumption | omega)] | rw [if_neg (by first | assumption | omega)]))), rfl, rfl⟩))))⟩) (Nat.le_of_ble_eq_true rfl) (Nat.le_of_ble_eq_true rfl) dX1_set_100
            · skip
              have c85 := cb_eq0 c85
              refine g_bipush (v := (-3)) C dX1_set_88 (by decide +kernel) ?_
              exact g_xiret C rfl (⟨S, q, i, rfl, hS, rfl, hq, rfl, hi, Or.inr (Or.inr (Or.inr (Or.inl (⟨(by simp only [setD, e22, sz_some e37 hF37, c85, Option.getD_some, Option.isSome_none, Option.isSome_some, Bool.false_eq_true, Bool.true_eq_false, Bool.not_true, Bool.not_false, Bool.and_true, Bool.and_false, Bool.true_and, Bool.false_and, eq_self, if_true, if_false]; try (repeat (first | rw [if_pos (by first | assumption | omega)] | rw [if_neg (by first | assumption | omega)]))), rfl, rfl⟩))))⟩) (Nat.le_of_ble_eq_true rfl) (Nat.le_of_ble_eq_true rfl) dX1_set_90
          · skip
            have c64 := c_ge1 (by omega) (by omega) c64
            refine g_aload C dX1_set_67 0 rfl ?_
            refine g_get (ci := 1) (v := .ref ar37) C iwX1_set_X0 (24 + 2 * i37) (wC_obj hF37) rfl 2 (by decide) (C.hw (List.mem_cons_of_mem _ (List.mem_append_left _ (List.mem_append_left _ (List.mem_append_left _ (List.mem_append_left _ (List.mem_append_left _ (List.mem_of_getElem? (i := 2) rfl)))))))) (fun _ h9 => h9) rfl dX1_set_69 ?_
            refine g_iload_n C dX1_set_72 rfl 5 rfl ?_
            refine g_iload C dX1_set_73 6 rfl ?_
            refine g_iastR (nn := 24) (j := i) (v := v) (f := ce37) (ws' := (wC cy a (zs 0) lab quo spe md ed lis lc see (va_up cnt S 0) (Fs.set i37 (ob37, ar37, ky37, fo37, upd ce37 i v, ct37, gi37, gv37)))) C (24 + (2 * i37 + 1)) (wC_arr hF37) (by omega) n31_24 (wC_sarr (F' := (ob37, ar37, ky37, fo37, upd ce37 i v, ct37, gi37, gv37)) hF37 rfl rfl) dX1_set_75 ?_
            refine g_iconst (v := nI 1) C dX1_set_76 (by decide +kernel) ?_
            exact g_xiret C rfl (⟨S, q, i, rfl, hS, rfl, hq, rfl, hi, Or.inr (Or.inr (Or.inl (⟨i37, ob37, ar37, ky37, fo37, ce37, ct37, gi37, gv37, by rw [e22]; exact e37, hF37, (by simp only [setD, e22, sz_some e37 hF37, Option.getD_some, Option.isSome_none, Option.isSome_some, Bool.false_eq_true, Bool.true_eq_false, Bool.not_true, Bool.not_false, Bool.and_true, Bool.and_false, Bool.true_and, Bool.false_and, eq_self, if_true, if_false]; try (repeat (first | rw [if_pos (by first | assumption | omega)] | rw [if_neg (by first | assumption | omega)]))), rfl, rfl⟩)))⟩) (Nat.le_of_ble_eq_true rfl) (Nat.le_of_ble_eq_true rfl) dX1_set_77
        · skip
          have c53 := c_le1 (by omega) (by omega) c53
          refine g_iconst (v := nI 0) C dX1_set_56 (by decide +kernel) ?_
          exact g_xiret C rfl (⟨S, q, i, rfl, hS, rfl, hq, rfl, hi, Or.inr (Or.inl (⟨(by simp only [setD, e22, sz_some e37 hF37, Option.getD_some, Option.isSome_none, Option.isSome_some, Bool.false_eq_true, Bool.true_eq_false, Bool.not_true, Bool.not_false, Bool.and_true, Bool.and_false, Bool.true_and, Bool.false_and, eq_self, if_true, if_false]; try (repeat (first | rw [if_pos (by first | assumption | omega)] | rw [if_neg (by first | assumption | omega)]))), rfl, rfl⟩))⟩) (Nat.le_of_ble_eq_true rfl) (Nat.le_of_ble_eq_true rfl) dX1_set_57
    · skip
      exact absurd c28 (nI_nem1 (by omega))
abbrev rmX1_give : Room := { frames := 8, cells := 12, slots := 500, locals := 141 }
theorem ydX1_give : yX1_give.cls ≠ "java/lang/invoke/MethodHandle" ∧ yX1_give.cls ≠ "java/lang/invoke/VarHandle" ∧ (parseMethodDescriptor yX1_give.desc).map (fun d => d.parameters.length) = some 4 := by decide +kernel
theorem iwX1_give_X1 : ∀ w ∈ u_ws RX1 TX1 8, w ∈ wsX1_give := fun _ h => (List.mem_cons_of_mem _ (List.mem_append_left _ (List.mem_append_left _ (List.mem_append_left _ (List.mem_append_right _ h)))))
theorem iwX1_give_X0 : ∀ w ∈ u_ws RX0 TX0 6, w ∈ wsX1_give := fun _ h => (List.mem_cons_of_mem _ (List.mem_append_left _ (List.mem_append_left _ (List.mem_append_right _ h))))
set_option maxRecDepth 100000 in
set_option maxHeartbeats 4000000 in
theorem k_X1_give (l : Launch) (D : va_G) (cy : Nat → ClassId) (zs : Nat → Nat) (hst : l.stackTraces = false) (a : Nat → Nat) (lab : Nat → Option Nat) (quo : Nat → Nat) (spe : Nat → Nat) (md : Int32) (ed : Option (Nat × Nat)) (lis : Nat → Nat) (lc : Nat) (see : Nat → Nat → Int32) (cnt : Nat → Nat) (Fs : List FT) (hI : CI lab quo spe ed lis lc cnt Fs)  (p0 : Int32) (p1 : Int32) (p2 : Int32) (v : Int32)  : Xi l D cy zs yX1_give wsX1_give rmX1_give [.ref (a 0), .int p0, .int p1, .int p2, .int v] (wC cy a (zs 0) lab quo spe md ed lis lc see cnt Fs) (fun r w => ∃ (S : Nat) (L : Nat) (q : Nat), p0 = nI S ∧ S < 16 ∧ p1 = nI L ∧ L < 1024 ∧ p2 = nI q ∧ q < 16 ∧ ((giveD (lab S) L (szF Fs (16 * L + q)) (!(decide ((usF spe Fs ((lab S).getD 0)) + 1 ≤ quo ((lab S).getD 0)))) = 0 ∧ r = -1 ∧ w = (wC cy a (zs 0) lab quo spe md ed lis lc see (va_up cnt S 0) Fs)) ∨ (giveD (lab S) L (szF Fs (16 * L + q)) (!(decide ((usF spe Fs ((lab S).getD 0)) + 1 ≤ quo ((lab S).getD 0)))) = 1 ∧ r = -2 ∧ w = (wC cy a (zs 0) lab quo spe md ed lis lc see (va_up cnt S 0) Fs)) ∨ (giveD (lab S) L (szF Fs (16 * L + q)) (!(decide ((usF spe Fs ((lab S).getD 0)) + 1 ≤ quo ((lab S).getD 0)))) = 2 ∧ r = -3 ∧ w = (wC cy a (zs 0) lab quo spe md ed lis lc see (va_up cnt S 0) Fs)) ∨ (∃ o, lab S = some o ∧ giveD (lab S) L (szF Fs (16 * L + q)) (!(decide ((usF spe Fs ((lab S).getD 0)) + 1 ≤ quo ((lab S).getD 0)))) = 3 ∧ r = nI 2 ∧ w = (wC cy a (zs 0) lab quo (va_up spe o (spe o + 1)) md ed lis lc see (va_up cnt S 0) Fs)) ∨ (∃ o, lab S = some o ∧ ∃ (i1 ob1 ar1 ky1 : Nat) (fo1 : Int32) (ce1 : Nat → Int32) (ct1 : Nat) (gi1 : Bool) (gv1 : Nat → Bool), plF Fs (16 * L + q) = some i1 ∧ Fs[i1]? = some (ob1, ar1, ky1, fo1, ce1, ct1, gi1, gv1) ∧ giveD (lab S) L (szF Fs (16 * L + q)) (!(decide ((usF spe Fs ((lab S).getD 0)) + 1 ≤ quo ((lab S).getD 0)))) = 4 ∧ r = nI 2 ∧ w = (wC cy a (zs 0) lab quo (va_up spe o (spe o + 1)) md ed lis lc see (va_up cnt S 0) (Fs.set i1 (ob1, ar1, ky1, fo1, upd ce1 ct1 v, ct1 + 1, gi1, va_up gv1 ct1 true)))))) (fun E w => ((!inB p0 16 || !inB p1 1024 || !inB p2 16) = true ∧ E = "java/lang/IllegalArgumentException" ∧ w = (wC cy a (zs 0) lab quo spe md ed lis lc see cnt Fs))) := by
  refine Xi.of (lv := [(0, .ref (a 0)), (1, .int p0), (2, .int p1), (3, .int p2), (4, .int v)]) RX1 ⟨by decide, rfl⟩ rfl (Nat.le_of_ble_eq_true rfl) rfl ?_
  intro p e s m args below meth c A C hnm hno
  have hlc := hI.lcP
  have hln := hI.lenP
  refine g_iload_n C dX1_give_0 rfl 1 rfl ?_
  refine g_XSv (st := []) C (k_X1_requireSubject l D cy zs hst (wC cy a (zs 0) lab quo spe md ed lis lc see cnt Fs) p0 ) gX1_give_X1_requireSubject rfl ydX1_requireSubject ⟨Nat.le_of_ble_eq_true rfl, Nat.le_of_ble_eq_true rfl⟩ ⟨Nat.le_of_ble_eq_true rfl, Nat.le_of_ble_eq_true rfl⟩ rfl (Nat.le_of_ble_eq_true rfl) dX1_give_1 (fun E1 w1 h1 => ?_) (fun w1 h1 => ?_)
  · skip
    obtain ⟨h1a, h1b, h1c⟩ := h1
    subst h1b
    subst h1c
    exact g_xout C hno (⟨(by simp [h1a]), rfl, rfl⟩) (Nat.le_of_ble_eq_true rfl) (Nat.le_of_ble_eq_true rfl)
  obtain ⟨h1, h1b⟩ := h1
  have h1b := h1b.symm
  subst h1b
  obtain ⟨S, hS, eS⟩ := inB_of (Nat.le_of_ble_eq_true rfl) h1
  subst eS
  refine g_iload_n C dX1_give_4 rfl 2 rfl ?_
  refine g_iload_n C dX1_give_5 rfl 3 rfl ?_
  refine g_XSv (st := []) C (k_X1_requireFile l D cy zs hst (wC cy a (zs 0) lab quo spe md ed lis lc see cnt Fs) p1 p2 ) gX1_give_X1_requireFile rfl ydX1_requireFile ⟨Nat.le_of_ble_eq_true rfl, Nat.le_of_ble_eq_true rfl⟩ ⟨Nat.le_of_ble_eq_true rfl, Nat.le_of_ble_eq_true rfl⟩ rfl (Nat.le_of_ble_eq_true rfl) dX1_give_6 (fun E6 w6 h6 => ?_) (fun w6 h6 => ?_)
  · skip
    obtain ⟨h6a, h6b, h6c⟩ := h6
    subst h6b
    subst h6c
    exact g_xout C hno (⟨(by have h8 := reqF h6a; simp only [Bool.or_eq_true] at h8 ⊢; rcases h8 with h8 | h8 <;> simp [h8]), rfl, rfl⟩) (Nat.le_of_ble_eq_true rfl) (Nat.le_of_ble_eq_true rfl)
  obtain ⟨h6, h6b⟩ := h6
  have h6b := h6b.symm
  subst h6b
  obtain ⟨g6a, g6b⟩ := (Bool.and_eq_true _ _).mp h6
  obtain ⟨L, hL, eL⟩ := inB_of (Nat.le_of_ble_eq_true rfl) g6a
  subst eL
  obtain ⟨q, hq, eq⟩ := inB_of (Nat.le_of_ble_eq_true rfl) g6b
  subst eq
  refine g_aload_n C dX1_give_9 rfl 0 rfl ?_
  refine g_iload_n C dX1_give_10 rfl 1 rfl ?_
  refine g_Vv (ci := 2) (st := []) C (k_X1_forgetSeen l D cy zs a lab quo spe md ed lis lc see cnt Fs hI S (by omega)) gX1_give_X1_forgetSeen rfl ⟨rfl, ydX1_forgetSeen⟩ 0 rfl rfl ⟨Nat.le_of_ble_eq_true rfl, Nat.le_of_ble_eq_true rfl⟩ ⟨Nat.le_of_ble_eq_true rfl, Nat.le_of_ble_eq_true rfl⟩ rfl (Nat.le_of_ble_eq_true rfl) dX1_give_11 (fun w11 h11 => ?_)
  subst h11
  have hI11 : CI lab quo spe ed lis lc (va_up cnt S 0) Fs := hI.upCnt (by omega)
  refine g_aload_n C dX1_give_14 rfl 0 rfl ?_
  refine g_get (ci := 2) (v := .ref (a 1)) C iwX1_give_X1 0 rfl rfl 0 (by decide) (C.hw (List.mem_cons_of_mem _ (List.mem_append_left _ (List.mem_append_left _ (List.mem_append_left _ (List.mem_append_left _ (List.mem_append_left _ (List.mem_of_getElem? (i := 0) rfl)))))))) (fun _ h9 => h9) rfl dX1_give_15 ?_
  refine g_iload_n C dX1_give_18 rfl 1 rfl ?_
  refine g_ialdF (nn := 16) (j := S) (f := lab) C 1 rfl (by omega) n31_16 dX1_give_19 ?_
  rcases e19 : lab S with _ | o
  · skip
    refine g_istore (lv' := [(5, .int (-1)), (0, .ref (a 0)), (1, .int (nI S)), (2, .int (nI L)), (3, .int (nI q)), (4, .int v)]) C dX1_give_20 (by decide) rfl ?_
    refine g_iload C dX1_give_22 0 rfl ?_
    refine g_iconst (v := (-1)) C dX1_give_24 (by decide +kernel) ?_
    refine g_icmp_ne (tgt := 30) C dX1_give_25 (by decide) (fun c25 => ?_) (fun c25 => ?_)
    · skip
      exact absurd rfl c25
    · skip
      refine g_iconst (v := (-1)) C dX1_give_28 (by decide +kernel) ?_
      exact g_xiret C rfl (⟨S, L, q, rfl, hS, rfl, hL, rfl, hq, Or.inl (⟨(by simp only [giveD, e19, Option.getD_some, Option.isSome_none, Option.isSome_some, Bool.false_eq_true, Bool.true_eq_false, Bool.not_true, Bool.not_false, Bool.and_true, Bool.and_false, Bool.true_and, Bool.false_and, eq_self, if_true, if_false]; try (repeat (first | rw [if_pos (by first | assumption | omega)] | rw [if_neg (by first | assumption | omega)]))), rfl, rfl⟩)⟩) (Nat.le_of_ble_eq_true rfl) (Nat.le_of_ble_eq_true rfl) dX1_give_29
  · skip
    have ho19 := hI11.labP e19
    refine g_istore (lv' := [(5, .int (nI o)), (0, .ref (a 0)), (1, .int (nI S)), (2, .int (nI L)), (3, .int (nI q)), (4, .int v)]) C dX1_give_20 (by decide) rfl ?_
    refine g_iload C dX1_give_22 0 rfl ?_
    refine g_iconst (v := (-1)) C dX1_give_24 (by decide +kernel) ?_
    refine g_icmp_ne (tgt := 30) C dX1_give_25 (by decide) (fun c25 => ?_) (fun c25 => ?_)
    · skip
      refine g_iload C dX1_give_30 0 rfl ?_
      refine g_iload_n C dX1_give_32 rfl 3 rfl ?_
      refine g_icmp_eq (tgt := 45) C dX1_give_33 (by decide) (fun c33 => ?_) (fun c33 => ?_)
      · skip
        have c33 := c_eq0 (by omega) (by omega) c33
        refine g_bipush (v := (-2)) C dX1_give_45 (by decide +kernel) ?_
        exact g_xiret C rfl (⟨S, L, q, rfl, hS, rfl, hL, rfl, hq, Or.inr (Or.inl (⟨(by simp only [giveD, e19, Option.getD_some, Option.isSome_none, Option.isSome_some, Bool.false_eq_true, Bool.true_eq_false, Bool.not_true, Bool.not_false, Bool.and_true, Bool.and_false, Bool.true_and, Bool.false_and, eq_self, if_true, if_false]; try (repeat (first | rw [if_pos (by first | assumption | omega)] | rw [if_neg (by first | assumption | omega)]))), rfl, rfl⟩))⟩) (Nat.le_of_ble_eq_true rfl) (Nat.le_of_ble_eq_true rfl) dX1_give_47
      · skip
        have c33 := c_eq1 (by omega) (by omega) c33
        refine g_iload C dX1_give_36 0 rfl ?_
        refine g_iload_n C dX1_give_38 rfl 3 rfl ?_
        refine g_Si (st := []) C (k_X1_mayFlow l D cy zs (wC cy a (zs 0) lab quo spe md ed lis lc see (va_up cnt S 0) Fs) o L (by omega) (by omega)) gX1_give_X1_mayFlow rfl ydX1_mayFlow ⟨Nat.le_of_ble_eq_true rfl, Nat.le_of_ble_eq_true rfl⟩ ⟨Nat.le_of_ble_eq_true rfl, Nat.le_of_ble_eq_true rfl⟩ rfl (Nat.le_of_ble_eq_true rfl) dX1_give_39 (fun r39 w39 h39 => ?_)
        obtain ⟨h39a, h39b⟩ := h39
        subst h39a
        have h39b := h39b.symm
        subst h39b
        refine g_if_ne (tgt := 48) C dX1_give_42 (by decide) (fun c42 => ?_) (fun c42 => ?_)
        · skip
          have c42 := cb_eq1 c42
          refine g_aload_n C dX1_give_48 rfl 1 rfl ?_
          refine g_iload C dX1_give_49 0 rfl ?_
          refine g_iconst (v := nI 1) C dX1_give_51 (by decide +kernel) ?_
          have hu := hI.usP o
          have hqo := hI.quoP o
          refine g_Vi (ci := 2) (st := []) C (k_X1_hasRoom l D cy zs a lab quo spe md ed lis lc see (va_up cnt S 0) Fs hI11 o (nI 1) (by omega) (nI_add _ _) (by omega)) gX1_give_X1_hasRoom rfl ⟨rfl, ydX1_hasRoom⟩ 0 rfl rfl ⟨Nat.le_of_ble_eq_true rfl, Nat.le_of_ble_eq_true rfl⟩ ⟨Nat.le_of_ble_eq_true rfl, Nat.le_of_ble_eq_true rfl⟩ rfl (Nat.le_of_ble_eq_true rfl) dX1_give_52 (fun r52 w52 h52 => ?_)
          obtain ⟨h52a, h52b⟩ := h52
          subst h52a
          have h52b := h52b.symm
          subst h52b
          refine g_if_ne (tgt := 61) C dX1_give_55 (by decide) (fun c55 => ?_) (fun c55 => ?_)
          · skip
            have c55 := cb_eq1 c55
            have hr9 := of_decide_eq_true c55
            refine g_aload_n C dX1_give_61 rfl 1 rfl ?_
            refine g_get (ci := 2) (v := .ref (a 3)) C iwX1_give_X1 0 rfl rfl 2 (by decide) (C.hw (List.mem_cons_of_mem _ (List.mem_append_left _ (List.mem_append_left _ (List.mem_append_left _ (List.mem_append_left _ (List.mem_append_left _ (List.mem_of_getElem? (i := 1) rfl)))))))) (fun _ h9 => h9) rfl dX1_give_62 ?_
            refine g_iload C dX1_give_65 0 rfl ?_
            refine g_dup2_11 C dX1_give_67 rfl rfl ?_
            refine g_ialdN (nn := 1024) (j := o) (f := spe) C 3 rfl (by omega) n31_1024 dX1_give_68 ?_
            have b68 := hI11.speP o
            refine g_iconst (v := nI 1) C dX1_give_69 (by decide +kernel) ?_
            refine g_iadd (v := nI ((spe o) + 1)) C dX1_give_70 (nI_add _ _) ?_
            refine g_iastN (nn := 1024) (j := o) (v := ((spe o) + 1)) (f := spe) (ws' := (wC cy a (zs 0) lab quo (va_up spe o ((spe o) + 1)) md ed lis lc see (va_up cnt S 0) Fs)) C 3 rfl (by omega) n31_1024 rfl dX1_give_71 ?_
            have hI71 : CI lab quo (va_up spe o ((spe o) + 1)) ed lis lc (va_up cnt S 0) Fs := hI11.upSpe (by omega)
            refine g_aload_n C dX1_give_72 rfl 1 rfl ?_
            refine g_iload_n C dX1_give_73 rfl 3 rfl ?_
            refine g_iload_n C dX1_give_74 rfl 4 rfl ?_
            refine g_Vq (ci := 2) (st := []) C (k_X1_find l D cy zs a lab quo (va_up spe o ((spe o) + 1)) md ed lis lc see (va_up cnt S 0) Fs hI71 L q (by omega) (by omega)) gX1_give_X1_find rfl ⟨rfl, ydX1_find⟩ 0 rfl rfl ⟨Nat.le_of_ble_eq_true rfl, Nat.le_of_ble_eq_true rfl⟩ ⟨Nat.le_of_ble_eq_true rfl, Nat.le_of_ble_eq_true rfl⟩ rfl (Nat.le_of_ble_eq_true rfl) dX1_give_75 (fun r75 w75 h75 => ?_)
            obtain ⟨h75b, h75⟩ := h75
            subst h75b
            rcases h75 with ⟨e75, h75⟩ | ⟨i75, ⟨ob75, ar75, ky75, fo75, ce75, ct75, gi75, gv75⟩, e75, hF75, hq75, h75⟩ <;> subst h75
            · skip
              refine g_astoreN (lv' := [(6, .null), (5, .int (nI o)), (0, .ref (a 0)), (1, .int (nI S)), (2, .int (nI L)), (3, .int (nI q)), (4, .int v)]) C dX1_give_78 (by decide) rfl ?_
              refine g_aloadN C dX1_give_80 0 rfl ?_
              refine g_ifnullN (tgt := 93) C dX1_give_82 (by decide) ?_
              refine g_iconst (v := nI 2) C dX1_give_93 (by decide +kernel) ?_
              exact g_xiret C rfl (⟨S, L, q, rfl, hS, rfl, hL, rfl, hq, Or.inr (Or.inr (Or.inr (Or.inl (⟨o, e19, (by simp only [giveD, e19, c42, c55, sz_none e75, Option.getD_some, Option.isSome_none, Option.isSome_some, Bool.false_eq_true, Bool.true_eq_false, Bool.not_true, Bool.not_false, Bool.and_true, Bool.and_false, Bool.true_and, Bool.false_and, eq_self, if_true, if_false]; try (repeat (first | rw [if_pos (by first | assumption | omega)] | rw [if_neg (by first | assumption | omega)]))), rfl, rfl⟩))))⟩) (Nat.le_of_ble_eq_true rfl) (Nat.le_of_ble_eq_true rfl) dX1_give_94
            · skip
              have hl75 := plF_lt e75
              have hq75 : ky75 = 16 * L + q := hq75
              obtain ⟨hk75, hct75⟩ := hI71.flP hF75
              refine g_astore (lv' := [(6, .ref ob75), (5, .int (nI o)), (0, .ref (a 0)), (1, .int (nI S)), (2, .int (nI L)), (3, .int (nI q)), (4, .int v)]) C dX1_give_78 (by decide) rfl ?_
              refine g_aload C dX1_give_80 0 rfl ?_
              refine g_ifnull C dX1_give_82 ?_
              refine g_aload C dX1_give_85 0 rfl ?_
              refine g_iload C dX1_give_87 6 rfl ?_
              refine g_iconst (v := nI 1) C dX1_give_89 (by decide +kernel) ?_
              refine g_Vv (ci := 1) (st := []) C (k_X0_append l D cy zs (wC cy a (zs 0) lab quo (va_up spe o ((spe o) + 1)) md ed lis lc see (va_up cnt S 0) Fs) v true (wC_obj hF75) (wC_arr hF75) (by omega)) gX1_give_X0_append rfl ⟨rfl, ydX0_append⟩ (24 + 2 * i75) (wC_obj hF75) rfl ⟨Nat.le_of_ble_eq_true rfl, Nat.le_of_ble_eq_true rfl⟩ ⟨Nat.le_of_ble_eq_true rfl, Nat.le_of_ble_eq_true rfl⟩ rfl (Nat.le_of_ble_eq_true rfl) dX1_give_90 (fun w90 h90 => ?_)
              rcases h90 with ⟨h90a, h90⟩ | ⟨h90a, h90⟩
              · skip
                have h90a : 24 ≤ ct75 := h90a
                have h90 := h90.symm
                subst h90
                refine g_iconst (v := nI 2) C dX1_give_93 (by decide +kernel) ?_
                exact g_xiret C rfl (⟨S, L, q, rfl, hS, rfl, hL, rfl, hq, Or.inr (Or.inr (Or.inr (Or.inl (⟨o, e19, (by simp only [giveD, e19, c42, c55, sz_some e75 hF75, Option.getD_some, Option.isSome_none, Option.isSome_some, Bool.false_eq_true, Bool.true_eq_false, Bool.not_true, Bool.not_false, Bool.and_true, Bool.and_false, Bool.true_and, Bool.false_and, eq_self, if_true, if_false]; try (repeat (first | rw [if_pos (by first | assumption | omega)] | rw [if_neg (by first | assumption | omega)]))), rfl, rfl⟩))))⟩) (Nat.le_of_ble_eq_true rfl) (Nat.le_of_ble_eq_true rfl) dX1_give_94
              · skip
                have h90a : ct75 < 24 := h90a
                rw [show w90 = (wC cy a (zs 0) lab quo (va_up spe o ((spe o) + 1)) md ed lis lc see (va_up cnt S 0) (Fs.set i75 (ob75, ar75, ky75, fo75, upd ce75 ct75 v, ct75 + 1, gi75, va_up gv75 ct75 true))) from h90.trans (wC_sboth (F' := (ob75, ar75, ky75, fo75, upd ce75 ct75 v, ct75 + 1, gi75, va_up gv75 ct75 true)) hF75 rfl)]
                refine g_iconst (v := nI 2) C dX1_give_93 (by decide +kernel) ?_
                exact g_xiret C rfl (⟨S, L, q, rfl, hS, rfl, hL, rfl, hq, Or.inr (Or.inr (Or.inr (Or.inr (⟨o, e19, i75, ob75, ar75, ky75, fo75, ce75, ct75, gi75, gv75, e75, hF75, (by simp only [giveD, e19, c42, c55, sz_some e75 hF75, Option.getD_some, Option.isSome_none, Option.isSome_some, Bool.false_eq_true, Bool.true_eq_false, Bool.not_true, Bool.not_false, Bool.and_true, Bool.and_false, Bool.true_and, Bool.false_and, eq_self, if_true, if_false]; try (repeat (first | rw [if_pos (by first | assumption | omega)] | rw [if_neg (by first | assumption | omega)]))), rfl, rfl⟩))))⟩) (Nat.le_of_ble_eq_true rfl) (Nat.le_of_ble_eq_true rfl) dX1_give_94
          · skip
            have c55 := cb_eq0 c55
            refine g_bipush (v := (-3)) C dX1_give_58 (by decide +kernel) ?_
            exact g_xiret C rfl (⟨S, L, q, rfl, hS, rfl, hL, rfl, hq, Or.inr (Or.inr (Or.inl (⟨(by simp only [giveD, e19, c42, c55, Option.getD_some, Option.isSome_none, Option.isSome_some, Bool.false_eq_true, Bool.true_eq_false, Bool.not_true, Bool.not_false, Bool.and_true, Bool.and_false, Bool.true_and, Bool.false_and, eq_self, if_true, if_false]; try (repeat (first | rw [if_pos (by first | assumption | omega)] | rw [if_neg (by first | assumption | omega)]))), rfl, rfl⟩)))⟩) (Nat.le_of_ble_eq_true rfl) (Nat.le_of_ble_eq_true rfl) dX1_give_60
        · skip
          have c42 := cb_eq0 c42
          refine g_bipush (v := (-2)) C dX1_give_45 (by decide +kernel) ?_
          exact g_xiret C rfl (⟨S, L, q, rfl, hS, rfl, hL, rfl, hq, Or.inr (Or.inl (⟨(by simp only [giveD, e19, c42, Option.getD_some, Option.isSome_none, Option.isSome_some, Bool.false_eq_true, Bool.true_eq_false, Bool.not_true, Bool.not_false, Bool.and_true, Bool.and_false, Bool.true_and, Bool.false_and, eq_self, if_true, if_false]; try (repeat (first | rw [if_pos (by first | assumption | omega)] | rw [if_neg (by first | assumption | omega)]))), rfl, rfl⟩))⟩) (Nat.le_of_ble_eq_true rfl) (Nat.le_of_ble_eq_true rfl) dX1_give_47
    · skip
      exact absurd c25 (nI_nem1 (by omega))
abbrev rmX1_trim : Room := { frames := 7, cells := 12, slots := 500, locals := 121 }
theorem ydX1_trim : yX1_trim.cls ≠ "java/lang/invoke/MethodHandle" ∧ yX1_trim.cls ≠ "java/lang/invoke/VarHandle" ∧ (parseMethodDescriptor yX1_trim.desc).map (fun d => d.parameters.length) = some 3 := by decide +kernel
theorem iwX1_trim_X1 : ∀ w ∈ u_ws RX1 TX1 8, w ∈ wsX1_trim := fun _ h => (List.mem_cons_of_mem _ (List.mem_append_left _ (List.mem_append_left _ (List.mem_append_left _ (List.mem_append_right _ h)))))
theorem iwX1_trim_X0 : ∀ w ∈ u_ws RX0 TX0 6, w ∈ wsX1_trim := fun _ h => (List.mem_cons_of_mem _ (List.mem_append_left _ (List.mem_append_left _ (List.mem_append_right _ h))))
set_option maxRecDepth 100000 in
set_option maxHeartbeats 4000000 in
theorem k_X1_trim (l : Launch) (D : va_G) (cy : Nat → ClassId) (zs : Nat → Nat) (hst : l.stackTraces = false) (a : Nat → Nat) (lab : Nat → Option Nat) (quo : Nat → Nat) (spe : Nat → Nat) (md : Int32) (ed : Option (Nat × Nat)) (lis : Nat → Nat) (lc : Nat) (see : Nat → Nat → Int32) (cnt : Nat → Nat) (Fs : List FT) (hI : CI lab quo spe ed lis lc cnt Fs)  (p0 : Int32) (p1 : Int32) (p2 : Int32)  : Xi l D cy zs yX1_trim wsX1_trim rmX1_trim [.ref (a 0), .int p0, .int p1, .int p2] (wC cy a (zs 0) lab quo spe md ed lis lc see cnt Fs) (fun r w => ∃ (S : Nat) (q : Nat) (i : Nat), p0 = nI S ∧ S < 16 ∧ p1 = nI q ∧ q < 16 ∧ p2 = nI i ∧ i < (24 + 1) ∧ ((trimD (lab S) (szF Fs (16 * ((lab S).getD 0) + q)) i = 0 ∧ r = -1 ∧ w = (wC cy a (zs 0) lab quo spe md ed lis lc see (va_up cnt S 0) Fs)) ∨ (trimD (lab S) (szF Fs (16 * ((lab S).getD 0) + q)) i = 1 ∧ r = nI 0 ∧ w = (wC cy a (zs 0) lab quo spe md ed lis lc see (va_up cnt S 0) Fs)) ∨ (∃ (i1 ob1 ar1 ky1 : Nat) (fo1 : Int32) (ce1 : Nat → Int32) (ct1 : Nat) (gi1 : Bool) (gv1 : Nat → Bool), plF Fs (16 * ((lab S).getD 0) + q) = some i1 ∧ Fs[i1]? = some (ob1, ar1, ky1, fo1, ce1, ct1, gi1, gv1) ∧ trimD (lab S) (szF Fs (16 * ((lab S).getD 0) + q)) i = 2 ∧ r = nI (ct1 - i) ∧ w = (wC cy a (zs 0) lab quo spe md ed lis lc see (va_up cnt S 0) (Fs.set i1 (ob1, ar1, ky1, fo1, ce1, i, gi1, gv1)))))) (fun E w => ((!inB p0 16 || !inB p1 16 || !inB p2 (24 + 1)) = true ∧ E = "java/lang/IllegalArgumentException" ∧ w = (wC cy a (zs 0) lab quo spe md ed lis lc see cnt Fs))) := by
  refine Xi.of (lv := [(0, .ref (a 0)), (1, .int p0), (2, .int p1), (3, .int p2)]) RX1 ⟨by decide, rfl⟩ rfl (Nat.le_of_ble_eq_true rfl) rfl ?_
  intro p e s m args below meth c A C hnm hno
  have hlc := hI.lcP
  have hln := hI.lenP
  refine g_iload_n C dX1_trim_0 rfl 1 rfl ?_
  refine g_XSv (st := []) C (k_X1_requireSubject l D cy zs hst (wC cy a (zs 0) lab quo spe md ed lis lc see cnt Fs) p0 ) gX1_trim_X1_requireSubject rfl ydX1_requireSubject ⟨Nat.le_of_ble_eq_true rfl, Nat.le_of_ble_eq_true rfl⟩ ⟨Nat.le_of_ble_eq_true rfl, Nat.le_of_ble_eq_true rfl⟩ rfl (Nat.le_of_ble_eq_true rfl) dX1_trim_1 (fun E1 w1 h1 => ?_) (fun w1 h1 => ?_)
  · skip
    obtain ⟨h1a, h1b, h1c⟩ := h1
    subst h1b
    subst h1c
    exact g_xout C hno (⟨(by simp [h1a]), rfl, rfl⟩) (Nat.le_of_ble_eq_true rfl) (Nat.le_of_ble_eq_true rfl)
  obtain ⟨h1, h1b⟩ := h1
  have h1b := h1b.symm
  subst h1b
  obtain ⟨S, hS, eS⟩ := inB_of (Nat.le_of_ble_eq_true rfl) h1
  subst eS
  refine g_iload_n C dX1_trim_4 rfl 2 rfl ?_
  refine g_XSv (st := []) C (k_X1_requireNumber l D cy zs hst (wC cy a (zs 0) lab quo spe md ed lis lc see cnt Fs) p1 ) gX1_trim_X1_requireNumber rfl ydX1_requireNumber ⟨Nat.le_of_ble_eq_true rfl, Nat.le_of_ble_eq_true rfl⟩ ⟨Nat.le_of_ble_eq_true rfl, Nat.le_of_ble_eq_true rfl⟩ rfl (Nat.le_of_ble_eq_true rfl) dX1_trim_5 (fun E5 w5 h5 => ?_) (fun w5 h5 => ?_)
  · skip
    obtain ⟨h5a, h5b, h5c⟩ := h5
    subst h5b
    subst h5c
    exact g_xout C hno (⟨(by simp [h5a]), rfl, rfl⟩) (Nat.le_of_ble_eq_true rfl) (Nat.le_of_ble_eq_true rfl)
  obtain ⟨h5, h5b⟩ := h5
  have h5b := h5b.symm
  subst h5b
  obtain ⟨q, hq, eq⟩ := inB_of (Nat.le_of_ble_eq_true rfl) h5
  subst eq
  refine g_bipush (v := nI 24) C dX1_trim_8 (by decide +kernel) ?_
  refine g_iload_n C dX1_trim_10 rfl 3 rfl ?_
  refine g_XSv (st := []) C (k_X1_requireAtMost l D cy zs hst (wC cy a (zs 0) lab quo spe md ed lis lc see cnt Fs) 24 p2 (by omega)) gX1_trim_X1_requireAtMost rfl ydX1_requireAtMost ⟨Nat.le_of_ble_eq_true rfl, Nat.le_of_ble_eq_true rfl⟩ ⟨Nat.le_of_ble_eq_true rfl, Nat.le_of_ble_eq_true rfl⟩ rfl (Nat.le_of_ble_eq_true rfl) dX1_trim_11 (fun E11 w11 h11 => ?_) (fun w11 h11 => ?_)
  · skip
    obtain ⟨h11a, h11b, h11c⟩ := h11
    subst h11b
    subst h11c
    exact g_xout C hno (⟨(by simp [h11a]), rfl, rfl⟩) (Nat.le_of_ble_eq_true rfl) (Nat.le_of_ble_eq_true rfl)
  obtain ⟨h11, h11b⟩ := h11
  have h11b := h11b.symm
  subst h11b
  obtain ⟨i, hi, ei⟩ := inB_of (Nat.le_of_ble_eq_true rfl) h11
  subst ei
  refine g_aload_n C dX1_trim_14 rfl 0 rfl ?_
  refine g_iload_n C dX1_trim_15 rfl 1 rfl ?_
  refine g_Vv (ci := 2) (st := []) C (k_X1_forgetSeen l D cy zs a lab quo spe md ed lis lc see cnt Fs hI S (by omega)) gX1_trim_X1_forgetSeen rfl ⟨rfl, ydX1_forgetSeen⟩ 0 rfl rfl ⟨Nat.le_of_ble_eq_true rfl, Nat.le_of_ble_eq_true rfl⟩ ⟨Nat.le_of_ble_eq_true rfl, Nat.le_of_ble_eq_true rfl⟩ rfl (Nat.le_of_ble_eq_true rfl) dX1_trim_16 (fun w16 h16 => ?_)
  subst h16
  have hI16 : CI lab quo spe ed lis lc (va_up cnt S 0) Fs := hI.upCnt (by omega)
  refine g_aload_n C dX1_trim_19 rfl 0 rfl ?_
  refine g_get (ci := 2) (v := .ref (a 1)) C iwX1_trim_X1 0 rfl rfl 0 (by decide) (C.hw (List.mem_cons_of_mem _ (List.mem_append_left _ (List.mem_append_left _ (List.mem_append_left _ (List.mem_append_left _ (List.mem_append_left _ (List.mem_of_getElem? (i := 0) rfl)))))))) (fun _ h9 => h9) rfl dX1_trim_20 ?_
  refine g_iload_n C dX1_trim_23 rfl 1 rfl ?_
  refine g_ialdF (nn := 16) (j := S) (f := lab) C 1 rfl (by omega) n31_16 dX1_trim_24 ?_
  rcases e24 : lab S with _ | o
  · skip
    refine g_istore (lv' := [(4, .int (-1)), (0, .ref (a 0)), (1, .int (nI S)), (2, .int (nI q)), (3, .int (nI i))]) C dX1_trim_25 (by decide) rfl ?_
    refine g_iload C dX1_trim_27 0 rfl ?_
    refine g_iconst (v := (-1)) C dX1_trim_29 (by decide +kernel) ?_
    refine g_icmp_ne (tgt := 35) C dX1_trim_30 (by decide) (fun c30 => ?_) (fun c30 => ?_)
    · skip
      exact absurd rfl c30
    · skip
      refine g_iconst (v := (-1)) C dX1_trim_33 (by decide +kernel) ?_
      exact g_xiret C rfl (⟨S, q, i, rfl, hS, rfl, hq, rfl, hi, Or.inl (⟨(by simp only [trimD, e24, Option.getD_some, Option.isSome_none, Option.isSome_some, Bool.false_eq_true, Bool.true_eq_false, Bool.not_true, Bool.not_false, Bool.and_true, Bool.and_false, Bool.true_and, Bool.false_and, eq_self, if_true, if_false]; try (repeat (first | rw [if_pos (by first | assumption | omega)] | rw [if_neg (by first | assumption | omega)]))), rfl, rfl⟩)⟩) (Nat.le_of_ble_eq_true rfl) (Nat.le_of_ble_eq_true rfl) dX1_trim_34
  · skip
    have ho24 := hI16.labP e24
    refine g_istore (lv' := [(4, .int (nI o)), (0, .ref (a 0)), (1, .int (nI S)), (2, .int (nI q)), (3, .int (nI i))]) C dX1_trim_25 (by decide) rfl ?_
    refine g_iload C dX1_trim_27 0 rfl ?_
    refine g_iconst (v := (-1)) C dX1_trim_29 (by decide +kernel) ?_
    refine g_icmp_ne (tgt := 35) C dX1_trim_30 (by decide) (fun c30 => ?_) (fun c30 => ?_)
    · skip
      refine g_aload_n C dX1_trim_35 rfl 1 rfl ?_
      refine g_iload C dX1_trim_36 0 rfl ?_
      refine g_iload_n C dX1_trim_38 rfl 3 rfl ?_
      refine g_Vq (ci := 2) (st := []) C (k_X1_find l D cy zs a lab quo spe md ed lis lc see (va_up cnt S 0) Fs hI16 o q (by omega) hq) gX1_trim_X1_find rfl ⟨rfl, ydX1_find⟩ 0 rfl rfl ⟨Nat.le_of_ble_eq_true rfl, Nat.le_of_ble_eq_true rfl⟩ ⟨Nat.le_of_ble_eq_true rfl, Nat.le_of_ble_eq_true rfl⟩ rfl (Nat.le_of_ble_eq_true rfl) dX1_trim_39 (fun r39 w39 h39 => ?_)
      obtain ⟨h39b, h39⟩ := h39
      subst h39b
      rcases h39 with ⟨e39, h39⟩ | ⟨i39, ⟨ob39, ar39, ky39, fo39, ce39, ct39, gi39, gv39⟩, e39, hF39, hq39, h39⟩ <;> subst h39
      · skip
        refine g_astoreN (lv' := [(5, .null), (4, .int (nI o)), (0, .ref (a 0)), (1, .int (nI S)), (2, .int (nI q)), (3, .int (nI i))]) C dX1_trim_42 (by decide) rfl ?_
        refine g_aloadN C dX1_trim_44 0 rfl ?_
        refine g_ifnonnullN C dX1_trim_46 ?_
        refine g_iconst (v := nI 0) C dX1_trim_49 (by decide +kernel) ?_
        refine g_goto (tgt := 59) C dX1_trim_50 (by decide) ?_
        exact g_xiret C rfl (⟨S, q, i, rfl, hS, rfl, hq, rfl, hi, Or.inr (Or.inl (⟨(by simp only [trimD, e24, sz_none e39, Option.getD_some, Option.isSome_none, Option.isSome_some, Bool.false_eq_true, Bool.true_eq_false, Bool.not_true, Bool.not_false, Bool.and_true, Bool.and_false, Bool.true_and, Bool.false_and, eq_self, if_true, if_false]; try (repeat (first | rw [if_pos (by first | assumption | omega)] | rw [if_neg (by first | assumption | omega)]))), rfl, rfl⟩))⟩) (Nat.le_of_ble_eq_true rfl) (Nat.le_of_ble_eq_true rfl) dX1_trim_59
      · skip
        have hl39 := plF_lt e39
        have hq39 : ky39 = 16 * o + q := hq39
        obtain ⟨hk39, hct39⟩ := hI16.flP hF39
        refine g_astore (lv' := [(5, .ref ob39), (4, .int (nI o)), (0, .ref (a 0)), (1, .int (nI S)), (2, .int (nI q)), (3, .int (nI i))]) C dX1_trim_42 (by decide) rfl ?_
        refine g_aload C dX1_trim_44 0 rfl ?_
        refine g_ifnonnull (tgt := 53) C dX1_trim_46 (by decide) ?_
        refine g_aload C dX1_trim_53 0 rfl ?_
        refine g_iload_n C dX1_trim_55 rfl 5 rfl ?_
        refine g_Vi (ci := 1) (st := []) C (k_X0_cutTo l D cy zs (wC cy a (zs 0) lab quo spe md ed lis lc see (va_up cnt S 0) Fs) i (wC_obj hF39) hct39 (by omega)) gX1_trim_X0_cutTo rfl ⟨rfl, ydX0_cutTo⟩ (24 + 2 * i39) (wC_obj hF39) rfl ⟨Nat.le_of_ble_eq_true rfl, Nat.le_of_ble_eq_true rfl⟩ ⟨Nat.le_of_ble_eq_true rfl, Nat.le_of_ble_eq_true rfl⟩ rfl (Nat.le_of_ble_eq_true rfl) dX1_trim_56 (fun r56 w56 h56 => ?_)
        rcases h56 with ⟨h56a, h56r, h56⟩ | ⟨h56a, h56r, h56⟩ <;> subst h56r
        · skip
          have h56a : ct39 ≤ i := h56a
          have h56 := h56.symm
          subst h56
          exact g_xiret C rfl (⟨S, q, i, rfl, hS, rfl, hq, rfl, hi, Or.inr (Or.inl (⟨(by simp only [trimD, e24, sz_some e39 hF39, Option.getD_some, Option.isSome_none, Option.isSome_some, Bool.false_eq_true, Bool.true_eq_false, Bool.not_true, Bool.not_false, Bool.and_true, Bool.and_false, Bool.true_and, Bool.false_and, eq_self, if_true, if_false]; try (repeat (first | rw [if_pos (by first | assumption | omega)] | rw [if_neg (by first | assumption | omega)]))), rfl, rfl⟩))⟩) (Nat.le_of_ble_eq_true rfl) (Nat.le_of_ble_eq_true rfl) dX1_trim_59
        · skip
          have h56a : i < ct39 := h56a
          rw [show w56 = (wC cy a (zs 0) lab quo spe md ed lis lc see (va_up cnt S 0) (Fs.set i39 (ob39, ar39, ky39, fo39, ce39, i, gi39, gv39))) from h56.trans (wC_sobj (F' := (ob39, ar39, ky39, fo39, ce39, i, gi39, gv39)) hF39 rfl rfl)]
          exact g_xiret C rfl (⟨S, q, i, rfl, hS, rfl, hq, rfl, hi, Or.inr (Or.inr (⟨i39, ob39, ar39, ky39, fo39, ce39, ct39, gi39, gv39, by rw [e24]; exact e39, hF39, (by simp only [trimD, e24, sz_some e39 hF39, Option.getD_some, Option.isSome_none, Option.isSome_some, Bool.false_eq_true, Bool.true_eq_false, Bool.not_true, Bool.not_false, Bool.and_true, Bool.and_false, Bool.true_and, Bool.false_and, eq_self, if_true, if_false]; try (repeat (first | rw [if_pos (by first | assumption | omega)] | rw [if_neg (by first | assumption | omega)]))), rfl, rfl⟩))⟩) (Nat.le_of_ble_eq_true rfl) (Nat.le_of_ble_eq_true rfl) dX1_trim_59
    · skip
      exact absurd c30 (nI_nem1 (by omega))
theorem perm_d {α : Type} {A B I V : List α} {o r : α} (h : (o :: r :: I).Perm B) : ((A ++ (I ++ V)) ++ [o, r]).Perm (A ++ (B ++ V)) := by
  rw [List.append_assoc]
  refine List.Perm.append_left A ?_
  refine List.Perm.trans ?_ (h.append_right V)
  exact List.perm_append_comm (l₁ := I ++ V) (l₂ := [o, r])
section WR
variable {cy : Nat → ClassId} {a : Nat → Nat} {z0 er' nf' : Nat} {lab : Nat → Option Nat} {quo spe : Nat → Nat} {md md' : Int32} {ed : Option (Nat × Nat)} {lis : Nat → Nat} {lc : Nat} {see : Nat → Nat → Int32} {cnt : Nat → Nat} {Fs : List FT}
theorem wC_r4 : (wC cy a z0 lab quo spe md ed lis lc see cnt Fs).set 4 (a 4, .inr (0, [.int md', .ref er', .int (nI nf')])) = fx cy a er' lab quo spe md' nf' lis lc see cnt ++ (flC cy Fs ++ edc cy ed Fs) := rfl
theorem wC_r5 {q c : Nat} {v : Nat × va_E} (h : ed = some (q, c)) : (fx cy a er' lab quo spe md' nf' lis lc see cnt ++ (flC cy Fs ++ edc cy ed Fs)).set (24 + 2 * Fs.length) v = fx cy a er' lab quo spe md' nf' lis lc see cnt ++ (flC cy Fs ++ [v]) := by
  subst h
  rw [fx_set]
  congr 1
  exact tl_set (flC_len Fs).symm
theorem CI.del {h9 : Nat} (h : CI lab quo spe ed lis lc cnt Fs) {p : Nat} (hp : p < Fs.length) : CI lab quo spe ed lis lc cnt (Fs.eraseIdx p) := by
  have hl : (Fs.eraseIdx p).length = Fs.length - 1 := List.length_eraseIdx_of_lt hp
  refine ⟨h.1, h.2.1, h.2.2.1, h.2.2.2.1, h.2.2.2.2.1, h.2.2.2.2.2.1, by rw [hl]; have := h.lenP; omega, fun G hG => h.2.2.2.2.2.2.2.1 G (List.mem_of_mem_eraseIdx hG), ?_⟩
  obtain ⟨q, c, e, h1, h2⟩ := h.edP (by omega)
  subst e
  rw [hl]
  exact ⟨by show Fs.length - 1 ≤ c; omega, by show 0 < c; omega, h2⟩
end WR
abbrev rmX1_remove : Room := { frames := 7, cells := 12, slots := 500, locals := 120 }
theorem ydX1_remove : yX1_remove.cls ≠ "java/lang/invoke/MethodHandle" ∧ yX1_remove.cls ≠ "java/lang/invoke/VarHandle" ∧ (parseMethodDescriptor yX1_remove.desc).map (fun d => d.parameters.length) = some 2 := by decide +kernel
theorem iwX1_remove_X1 : ∀ w ∈ u_ws RX1 TX1 8, w ∈ wsX1_remove := fun _ h => (List.mem_cons_of_mem _ (List.mem_append_left _ (List.mem_append_left _ (List.mem_append_left _ (List.mem_append_right _ h)))))
theorem iwX1_remove_X0 : ∀ w ∈ u_ws RX0 TX0 6, w ∈ wsX1_remove := fun _ h => (List.mem_cons_of_mem _ (List.mem_append_left _ (List.mem_append_left _ (List.mem_append_right _ h))))
set_option maxRecDepth 100000 in
set_option maxHeartbeats 4000000 in
theorem k_X1_remove (l : Launch) (D : va_G) (cy : Nat → ClassId) (zs : Nat → Nat) (hst : l.stackTraces = false) (a : Nat → Nat) (lab : Nat → Option Nat) (quo : Nat → Nat) (spe : Nat → Nat) (md : Int32) (ed : Option (Nat × Nat)) (lis : Nat → Nat) (lc : Nat) (see : Nat → Nat → Int32) (cnt : Nat → Nat) (Fs : List FT) (hI : CI lab quo spe ed lis lc cnt Fs)  (p0 : Int32) (p1 : Int32)  : Xi l D cy zs yX1_remove wsX1_remove rmX1_remove [.ref (a 0), .int p0, .int p1] (wC cy a (zs 0) lab quo spe md ed lis lc see cnt Fs) (fun r w => ∃ (S : Nat) (q : Nat), p0 = nI S ∧ S < 16 ∧ p1 = nI q ∧ q < 16 ∧ ((remD (lab S) (szF Fs (16 * ((lab S).getD 0) + q)) = 0 ∧ r = -1 ∧ w = (wC cy a (zs 0) lab quo spe md ed lis lc see (va_up cnt S 0) Fs)) ∨ (remD (lab S) (szF Fs (16 * ((lab S).getD 0) + q)) = 1 ∧ r = nI 0 ∧ w = (wC cy a (zs 0) lab quo spe md ed lis lc see (va_up cnt S 0) Fs)) ∨ (∃ (i1 ob1 ar1 ky1 : Nat) (fo1 : Int32) (ce1 : Nat → Int32) (ct1 : Nat) (gi1 : Bool) (gv1 : Nat → Bool), plF Fs (16 * ((lab S).getD 0) + q) = some i1 ∧ Fs[i1]? = some (ob1, ar1, ky1, fo1, ce1, ct1, gi1, gv1) ∧ remD (lab S) (szF Fs (16 * ((lab S).getD 0) + q)) = 2 ∧ r = nI 1 ∧ w = (wC cy a (zs 0) lab quo spe (md + (nI 1)) ed lis lc see (va_up cnt S 0) (Fs.eraseIdx i1))))) (fun E w => ((!inB p0 16 || !inB p1 16) = true ∧ E = "java/lang/IllegalArgumentException" ∧ w = (wC cy a (zs 0) lab quo spe md ed lis lc see cnt Fs))) := by
  refine Xi.of (lv := [(0, .ref (a 0)), (1, .int p0), (2, .int p1)]) RX1 ⟨by decide, rfl⟩ rfl (Nat.le_of_ble_eq_true rfl) rfl ?_
  intro p e s m args below meth c A C hnm hno
  have hlc := hI.lcP
  have hln := hI.lenP
  refine g_iload_n C dX1_remove_0 rfl 1 rfl ?_
  refine g_XSv (st := []) C (k_X1_requireSubject l D cy zs hst (wC cy a (zs 0) lab quo spe md ed lis lc see cnt Fs) p0 ) gX1_remove_X1_requireSubject rfl ydX1_requireSubject ⟨Nat.le_of_ble_eq_true rfl, Nat.le_of_ble_eq_true rfl⟩ ⟨Nat.le_of_ble_eq_true rfl, Nat.le_of_ble_eq_true rfl⟩ rfl (Nat.le_of_ble_eq_true rfl) dX1_remove_1 (fun E1 w1 h1 => ?_) (fun w1 h1 => ?_)
  · skip
    obtain ⟨h1a, h1b, h1c⟩ := h1
    subst h1b
    subst h1c
    exact g_xout C hno (⟨(by simp [h1a]), rfl, rfl⟩) (Nat.le_of_ble_eq_true rfl) (Nat.le_of_ble_eq_true rfl)
  obtain ⟨h1, h1b⟩ := h1
  have h1b := h1b.symm
  subst h1b
  obtain ⟨S, hS, eS⟩ := inB_of (Nat.le_of_ble_eq_true rfl) h1
  subst eS
  refine g_iload_n C dX1_remove_4 rfl 2 rfl ?_
  refine g_XSv (st := []) C (k_X1_requireNumber l D cy zs hst (wC cy a (zs 0) lab quo spe md ed lis lc see cnt Fs) p1 ) gX1_remove_X1_requireNumber rfl ydX1_requireNumber ⟨Nat.le_of_ble_eq_true rfl, Nat.le_of_ble_eq_true rfl⟩ ⟨Nat.le_of_ble_eq_true rfl, Nat.le_of_ble_eq_true rfl⟩ rfl (Nat.le_of_ble_eq_true rfl) dX1_remove_5 (fun E5 w5 h5 => ?_) (fun w5 h5 => ?_)
  · skip
    obtain ⟨h5a, h5b, h5c⟩ := h5
    subst h5b
    subst h5c
    exact g_xout C hno (⟨(by simp [h5a]), rfl, rfl⟩) (Nat.le_of_ble_eq_true rfl) (Nat.le_of_ble_eq_true rfl)
  obtain ⟨h5, h5b⟩ := h5
  have h5b := h5b.symm
  subst h5b
  obtain ⟨q, hq, eq⟩ := inB_of (Nat.le_of_ble_eq_true rfl) h5
  subst eq
  refine g_aload_n C dX1_remove_8 rfl 0 rfl ?_
  refine g_iload_n C dX1_remove_9 rfl 1 rfl ?_
  refine g_Vv (ci := 2) (st := []) C (k_X1_forgetSeen l D cy zs a lab quo spe md ed lis lc see cnt Fs hI S (by omega)) gX1_remove_X1_forgetSeen rfl ⟨rfl, ydX1_forgetSeen⟩ 0 rfl rfl ⟨Nat.le_of_ble_eq_true rfl, Nat.le_of_ble_eq_true rfl⟩ ⟨Nat.le_of_ble_eq_true rfl, Nat.le_of_ble_eq_true rfl⟩ rfl (Nat.le_of_ble_eq_true rfl) dX1_remove_10 (fun w10 h10 => ?_)
  subst h10
  have hI10 : CI lab quo spe ed lis lc (va_up cnt S 0) Fs := hI.upCnt (by omega)
  refine g_aload_n C dX1_remove_13 rfl 0 rfl ?_
  refine g_get (ci := 2) (v := .ref (a 1)) C iwX1_remove_X1 0 rfl rfl 0 (by decide) (C.hw (List.mem_cons_of_mem _ (List.mem_append_left _ (List.mem_append_left _ (List.mem_append_left _ (List.mem_append_left _ (List.mem_append_left _ (List.mem_of_getElem? (i := 0) rfl)))))))) (fun _ h9 => h9) rfl dX1_remove_14 ?_
  refine g_iload_n C dX1_remove_17 rfl 1 rfl ?_
  refine g_ialdF (nn := 16) (j := S) (f := lab) C 1 rfl (by omega) n31_16 dX1_remove_18 ?_
  rcases e18 : lab S with _ | o
  · skip
    refine g_istore_n (lv' := [(3, .int (-1)), (0, .ref (a 0)), (1, .int (nI S)), (2, .int (nI q))]) C dX1_remove_19 rfl (by decide) rfl ?_
    refine g_iload_n C dX1_remove_20 rfl 0 rfl ?_
    refine g_iconst (v := (-1)) C dX1_remove_21 (by decide +kernel) ?_
    refine g_icmp_ne (tgt := 27) C dX1_remove_22 (by decide) (fun c22 => ?_) (fun c22 => ?_)
    · skip
      exact absurd rfl c22
    · skip
      refine g_iconst (v := (-1)) C dX1_remove_25 (by decide +kernel) ?_
      exact g_xiret C rfl (⟨S, q, rfl, hS, rfl, hq, Or.inl (⟨(by simp only [remD, e18, Option.getD_some, Option.isSome_none, Option.isSome_some, Bool.false_eq_true, Bool.true_eq_false, Bool.not_true, Bool.not_false, Bool.and_true, Bool.and_false, Bool.true_and, Bool.false_and, eq_self, if_true, if_false]; try (repeat (first | rw [if_pos (by first | assumption | omega)] | rw [if_neg (by first | assumption | omega)]))), rfl, rfl⟩)⟩) (Nat.le_of_ble_eq_true rfl) (Nat.le_of_ble_eq_true rfl) dX1_remove_26
  · skip
    have ho18 := hI10.labP e18
    refine g_istore_n (lv' := [(3, .int (nI o)), (0, .ref (a 0)), (1, .int (nI S)), (2, .int (nI q))]) C dX1_remove_19 rfl (by decide) rfl ?_
    refine g_iload_n C dX1_remove_20 rfl 0 rfl ?_
    refine g_iconst (v := (-1)) C dX1_remove_21 (by decide +kernel) ?_
    refine g_icmp_ne (tgt := 27) C dX1_remove_22 (by decide) (fun c22 => ?_) (fun c22 => ?_)
    · skip
      refine g_aload_n C dX1_remove_27 rfl 1 rfl ?_
      refine g_iload_n C dX1_remove_28 rfl 0 rfl ?_
      refine g_iload_n C dX1_remove_29 rfl 3 rfl ?_
      refine g_Si (st := [.ref (a 0)]) C (k_X1_addressOf l D cy zs (wC cy a (zs 0) lab quo spe md ed lis lc see (va_up cnt S 0) Fs) o q ) gX1_remove_X1_addressOf rfl ydX1_addressOf ⟨Nat.le_of_ble_eq_true rfl, Nat.le_of_ble_eq_true rfl⟩ ⟨Nat.le_of_ble_eq_true rfl, Nat.le_of_ble_eq_true rfl⟩ rfl (Nat.le_of_ble_eq_true rfl) dX1_remove_30 (fun r30 w30 h30 => ?_)
      obtain ⟨h30a, h30b⟩ := h30
      subst h30a
      have h30b := h30b.symm
      subst h30b
      refine g_Vi (ci := 2) (st := []) C (k_X1_placeOf l D cy zs a lab quo spe md ed lis lc see (va_up cnt S 0) Fs hI10 ((16 * o) + q) (by omega)) gX1_remove_X1_placeOf rfl ⟨rfl, ydX1_placeOf⟩ 0 rfl rfl ⟨Nat.le_of_ble_eq_true rfl, Nat.le_of_ble_eq_true rfl⟩ ⟨Nat.le_of_ble_eq_true rfl, Nat.le_of_ble_eq_true rfl⟩ rfl (Nat.le_of_ble_eq_true rfl) dX1_remove_33 (fun r33 w33 h33 => ?_)
      obtain ⟨h33a, h33b⟩ := h33
      subst h33a
      have h33b := h33b.symm
      subst h33b
      rcases e33 : plF Fs ((16 * o) + q) with _ | i33
      · skip
        refine g_istore (lv' := [(4, .int (-1)), (3, .int (nI o)), (0, .ref (a 0)), (1, .int (nI S)), (2, .int (nI q))]) C dX1_remove_36 (by decide) rfl ?_
        refine g_iload C dX1_remove_38 0 rfl ?_
        refine g_iconst (v := (-1)) C dX1_remove_40 (by decide +kernel) ?_
        refine g_icmp_ne (tgt := 46) C dX1_remove_41 (by decide) (fun c41 => ?_) (fun c41 => ?_)
        · skip
          exact absurd rfl c41
        · skip
          refine g_iconst (v := nI 0) C dX1_remove_44 (by decide +kernel) ?_
          exact g_xiret C rfl (⟨S, q, rfl, hS, rfl, hq, Or.inr (Or.inl (⟨(by simp only [remD, e18, sz_none e33, Option.getD_some, Option.isSome_none, Option.isSome_some, Bool.false_eq_true, Bool.true_eq_false, Bool.not_true, Bool.not_false, Bool.and_true, Bool.and_false, Bool.true_and, Bool.false_and, eq_self, if_true, if_false]; try (repeat (first | rw [if_pos (by first | assumption | omega)] | rw [if_neg (by first | assumption | omega)]))), rfl, rfl⟩))⟩) (Nat.le_of_ble_eq_true rfl) (Nat.le_of_ble_eq_true rfl) dX1_remove_45
      · skip
        obtain ⟨⟨ob33, ar33, ky33, fo33, ce33, ct33, gi33, gv33⟩, hF33, hq33⟩ := plF_spec e33
        have hl33 := plF_lt e33
        obtain ⟨hk33, hct33⟩ := hI10.flP hF33
        refine g_istore (lv' := [(4, .int (nI i33)), (3, .int (nI o)), (0, .ref (a 0)), (1, .int (nI S)), (2, .int (nI q))]) C dX1_remove_36 (by decide) rfl ?_
        refine g_iload C dX1_remove_38 0 rfl ?_
        refine g_iconst (v := (-1)) C dX1_remove_40 (by decide +kernel) ?_
        refine g_icmp_ne (tgt := 46) C dX1_remove_41 (by decide) (fun c41 => ?_) (fun c41 => ?_)
        · skip
          refine g_aload_n C dX1_remove_46 rfl 2 rfl ?_
          refine g_get (ci := 2) (v := .ref (a 4)) C iwX1_remove_X1 0 rfl rfl 3 (by decide) (C.hw (List.mem_cons_of_mem _ (List.mem_append_left _ (List.mem_append_left _ (List.mem_append_left _ (List.mem_append_left _ (List.mem_append_left _ (List.mem_of_getElem? (i := 1) rfl)))))))) (fun _ h9 => h9) rfl dX1_remove_47 ?_
          refine g_iload C dX1_remove_50 0 rfl ?_
          obtain ⟨eq52, cap52, hed52, hca52, hcb52⟩ := hI10.edP (show 0 < Fs.length by omega)
          refine g_Vq (ci := 0) (st := []) C (k_Jx4a65c_remove_915e3 l D cy zs (wC cy a (zs 0) lab quo spe md ed lis lc see (va_up cnt S 0) Fs) i33 (show (wC cy a (zs 0) lab quo spe md ed lis lc see (va_up cnt S 0) Fs)[4]? = some (a 4, .inr (0, [.int md, .ref (edr (zs 0) ed), .int (nI Fs.length)])) from rfl) (wC_ed hed52) (by omega) hca52 (by omega) (fun j9 y9 h9 => wC_isF h9) (show obF Fs i33 = some ob33 by unfold obF; rw [hF33]; rfl)) gX1_remove_Jx4a65c_remove_915e3 rfl ⟨rfl, ydJx4a65c_remove_915e3⟩ 4 rfl rfl ⟨Nat.le_of_ble_eq_true rfl, Nat.le_of_ble_eq_true rfl⟩ ⟨Nat.le_of_ble_eq_true rfl, Nat.le_of_ble_eq_true rfl⟩ rfl (Nat.le_of_ble_eq_true rfl) dX1_remove_52 (fun r52 w52 h52 => ?_)
          obtain ⟨h52a, h52⟩ := h52
          subst h52a
          refine g_perm (ws' := (wC cy a (zs 0) lab quo spe (md + (nI 1)) ed lis lc see (va_up cnt S 0) (Fs.eraseIdx i33))) (X := [objc (ob33, ar33, ky33, fo33, ce33, ct33, gi33, gv33), arrc cy (ob33, ar33, ky33, fo33, ce33, ct33, gi33, gv33)]) (by rw [h52, wC_r4, wC_r5 hed52, obF_del (by omega)]; unfold wC; rw [List.length_eraseIdx_of_lt (by omega), hed52]; exact perm_d (flC_del hF33)) ?_
          refine g_pop C dX1_remove_55 rfl ?_
          refine g_iconst (v := nI 1) C dX1_remove_56 (by decide +kernel) ?_
          exact g_xiret C rfl (⟨S, q, rfl, hS, rfl, hq, Or.inr (Or.inr (⟨i33, ob33, ar33, ky33, fo33, ce33, ct33, gi33, gv33, by rw [e18]; exact e33, hF33, (by simp only [remD, e18, sz_some e33 hF33, Option.getD_some, Option.isSome_none, Option.isSome_some, Bool.false_eq_true, Bool.true_eq_false, Bool.not_true, Bool.not_false, Bool.and_true, Bool.and_false, Bool.true_and, Bool.false_and, eq_self, if_true, if_false]; try (repeat (first | rw [if_pos (by first | assumption | omega)] | rw [if_neg (by first | assumption | omega)]))), rfl, rfl⟩))⟩) (Nat.le_of_ble_eq_true rfl) (Nat.le_of_ble_eq_true rfl) dX1_remove_57
        · skip
          exact absurd c41 (nI_nem1 (by omega))
    · skip
      exact absurd c22 (nI_nem1 (by omega))
abbrev rmX1_read : Room := { frames := 8, cells := 12, slots := 500, locals := 141 }
theorem ydX1_read : yX1_read.cls ≠ "java/lang/invoke/MethodHandle" ∧ yX1_read.cls ≠ "java/lang/invoke/VarHandle" ∧ (parseMethodDescriptor yX1_read.desc).map (fun d => d.parameters.length) = some 4 := by decide +kernel
theorem iwX1_read_X1 : ∀ w ∈ u_ws RX1 TX1 8, w ∈ wsX1_read := fun _ h => (List.mem_cons_of_mem _ (List.mem_append_left _ (List.mem_append_left _ (List.mem_append_right _ h))))
theorem iwX1_read_X0 : ∀ w ∈ u_ws RX0 TX0 6, w ∈ wsX1_read := fun _ h => (List.mem_cons_of_mem _ (List.mem_append_left _ (List.mem_append_left _ (List.mem_append_left _ (List.mem_append_right _ h)))))
set_option maxRecDepth 100000 in
set_option maxHeartbeats 4000000 in
theorem k_X1_read (l : Launch) (D : va_G) (cy : Nat → ClassId) (zs : Nat → Nat) (hst : l.stackTraces = false) (a : Nat → Nat) (lab : Nat → Option Nat) (quo : Nat → Nat) (spe : Nat → Nat) (md : Int32) (ed : Option (Nat × Nat)) (lis : Nat → Nat) (lc : Nat) (see : Nat → Nat → Int32) (cnt : Nat → Nat) (Fs : List FT) (hI : CI lab quo spe ed lis lc cnt Fs)  (p0 : Int32) (p1 : Int32) (p2 : Int32) (p3 : Int32)  : Xi l D cy zs yX1_read wsX1_read rmX1_read [.ref (a 0), .int p0, .int p1, .int p2, .int p3] (wC cy a (zs 0) lab quo spe md ed lis lc see cnt Fs) (fun r w => ∃ (S : Nat) (L : Nat) (q : Nat) (i : Nat), p0 = nI S ∧ S < 16 ∧ p1 = nI L ∧ L < 1024 ∧ p2 = nI q ∧ q < 16 ∧ p3 = nI i ∧ i < 24 ∧ ((lookD (lab S) L = 0 ∧ r = -1 ∧ w = (wC cy a (zs 0) lab quo spe md ed lis lc see (va_up cnt S 0) Fs)) ∨ (lookD (lab S) L = 1 ∧ r = -2 ∧ w = (wC cy a (zs 0) lab quo spe md ed lis lc see (va_up cnt S 0) Fs)) ∨ (lookD (lab S) L = 2 ∧ readD (szF Fs (16 * L + q)) i = 0 ∧ r = nI 0 ∧ w = (wC cy a (zs 0) lab quo spe md ed lis lc see (va_up cnt S 0) Fs)) ∨ (∃ (i1 ob1 ar1 ky1 : Nat) (fo1 : Int32) (ce1 : Nat → Int32) (ct1 : Nat) (gi1 : Bool) (gv1 : Nat → Bool), plF Fs (16 * L + q) = some i1 ∧ Fs[i1]? = some (ob1, ar1, ky1, fo1, ce1, ct1, gi1, gv1) ∧ lookD (lab S) L = 2 ∧ readD (szF Fs (16 * L + q)) i = 1 ∧ r = nI 1 ∧ w = (wC cy a (zs 0) lab quo spe md ed lis lc (va_up see S (upd (see S) 0 (ce1 i))) (va_up cnt S (0 + 1)) Fs)))) (fun E w => ((!inB p0 16 || !inB p1 1024 || !inB p2 16 || !inB p3 24) = true ∧ E = "java/lang/IllegalArgumentException" ∧ w = (wC cy a (zs 0) lab quo spe md ed lis lc see cnt Fs))) := by
  refine Xi.of (lv := [(0, .ref (a 0)), (1, .int p0), (2, .int p1), (3, .int p2), (4, .int p3)]) RX1 ⟨by decide, rfl⟩ rfl (Nat.le_of_ble_eq_true rfl) rfl ?_
  intro p e s m args below meth c A C hnm hno
  have hlc := hI.lcP
  have hln := hI.lenP
  refine g_iload_n C dX1_read_0 rfl 1 rfl ?_
  refine g_XSv (st := []) C (k_X1_requireSubject l D cy zs hst (wC cy a (zs 0) lab quo spe md ed lis lc see cnt Fs) p0 ) gX1_read_X1_requireSubject rfl ydX1_requireSubject ⟨Nat.le_of_ble_eq_true rfl, Nat.le_of_ble_eq_true rfl⟩ ⟨Nat.le_of_ble_eq_true rfl, Nat.le_of_ble_eq_true rfl⟩ rfl (Nat.le_of_ble_eq_true rfl) dX1_read_1 (fun E1 w1 h1 => ?_) (fun w1 h1 => ?_)
  · skip
    obtain ⟨h1a, h1b, h1c⟩ := h1
    subst h1b
    subst h1c
    exact g_xout C hno (⟨(by simp [h1a]), rfl, rfl⟩) (Nat.le_of_ble_eq_true rfl) (Nat.le_of_ble_eq_true rfl)
  obtain ⟨h1, h1b⟩ := h1
  have h1b := h1b.symm
  subst h1b
  obtain ⟨S, hS, eS⟩ := inB_of (Nat.le_of_ble_eq_true rfl) h1
  subst eS
  refine g_iload_n C dX1_read_4 rfl 2 rfl ?_
  refine g_iload_n C dX1_read_5 rfl 3 rfl ?_
  refine g_XSv (st := []) C (k_X1_requireFile l D cy zs hst (wC cy a (zs 0) lab quo spe md ed lis lc see cnt Fs) p1 p2 ) gX1_read_X1_requireFile rfl ydX1_requireFile ⟨Nat.le_of_ble_eq_true rfl, Nat.le_of_ble_eq_true rfl⟩ ⟨Nat.le_of_ble_eq_true rfl, Nat.le_of_ble_eq_true rfl⟩ rfl (Nat.le_of_ble_eq_true rfl) dX1_read_6 (fun E6 w6 h6 => ?_) (fun w6 h6 => ?_)
  · skip
    obtain ⟨h6a, h6b, h6c⟩ := h6
    subst h6b
    subst h6c
    exact g_xout C hno (⟨(by have h8 := reqF h6a; simp only [Bool.or_eq_true] at h8 ⊢; rcases h8 with h8 | h8 <;> simp [h8]), rfl, rfl⟩) (Nat.le_of_ble_eq_true rfl) (Nat.le_of_ble_eq_true rfl)
  obtain ⟨h6, h6b⟩ := h6
  have h6b := h6b.symm
  subst h6b
  obtain ⟨g6a, g6b⟩ := (Bool.and_eq_true _ _).mp h6
  obtain ⟨L, hL, eL⟩ := inB_of (Nat.le_of_ble_eq_true rfl) g6a
  subst eL
  obtain ⟨q, hq, eq⟩ := inB_of (Nat.le_of_ble_eq_true rfl) g6b
  subst eq
  refine g_iload C dX1_read_9 4 rfl ?_
  refine g_XSv (st := []) C (k_X1_requireCell l D cy zs hst (wC cy a (zs 0) lab quo spe md ed lis lc see cnt Fs) p3 ) gX1_read_X1_requireCell rfl ydX1_requireCell ⟨Nat.le_of_ble_eq_true rfl, Nat.le_of_ble_eq_true rfl⟩ ⟨Nat.le_of_ble_eq_true rfl, Nat.le_of_ble_eq_true rfl⟩ rfl (Nat.le_of_ble_eq_true rfl) dX1_read_11 (fun E11 w11 h11 => ?_) (fun w11 h11 => ?_)
  · skip
    obtain ⟨h11a, h11b, h11c⟩ := h11
    subst h11b
    subst h11c
    exact g_xout C hno (⟨(by simp [h11a]), rfl, rfl⟩) (Nat.le_of_ble_eq_true rfl) (Nat.le_of_ble_eq_true rfl)
  obtain ⟨h11, h11b⟩ := h11
  have h11b := h11b.symm
  subst h11b
  obtain ⟨i, hi, ei⟩ := inB_of (Nat.le_of_ble_eq_true rfl) h11
  subst ei
  refine g_aload_n C dX1_read_14 rfl 0 rfl ?_
  refine g_iload_n C dX1_read_15 rfl 1 rfl ?_
  refine g_Vv (ci := 2) (st := []) C (k_X1_forgetSeen l D cy zs a lab quo spe md ed lis lc see cnt Fs hI S (by omega)) gX1_read_X1_forgetSeen rfl ⟨rfl, ydX1_forgetSeen⟩ 0 rfl rfl ⟨Nat.le_of_ble_eq_true rfl, Nat.le_of_ble_eq_true rfl⟩ ⟨Nat.le_of_ble_eq_true rfl, Nat.le_of_ble_eq_true rfl⟩ rfl (Nat.le_of_ble_eq_true rfl) dX1_read_16 (fun w16 h16 => ?_)
  subst h16
  have hI16 : CI lab quo spe ed lis lc (va_up cnt S 0) Fs := hI.upCnt (by omega)
  refine g_aload_n C dX1_read_19 rfl 0 rfl ?_
  refine g_iload_n C dX1_read_20 rfl 1 rfl ?_
  refine g_iload_n C dX1_read_21 rfl 2 rfl ?_
  refine g_Vi (ci := 2) (st := []) C (k_X1_verdictOnReading l D cy zs a lab quo spe md ed lis lc see (va_up cnt S 0) Fs hI16 S L (by omega) (by omega)) gX1_read_X1_verdictOnReading rfl ⟨rfl, ydX1_verdictOnReading⟩ 0 rfl rfl ⟨Nat.le_of_ble_eq_true rfl, Nat.le_of_ble_eq_true rfl⟩ ⟨Nat.le_of_ble_eq_true rfl, Nat.le_of_ble_eq_true rfl⟩ rfl (Nat.le_of_ble_eq_true rfl) dX1_read_22 (fun r22 w22 h22 => ?_)
  obtain ⟨h22a, h22b⟩ := h22
  subst h22b
  rcases look_cases (lab S) L with ⟨d9, v9⟩ | ⟨d9, v9⟩ | ⟨o, e9, d9, v9⟩
  · skip
    rw [v9] at h22a
    subst h22a
    refine g_istore (lv' := [(5, .int (-1)), (0, .ref (a 0)), (1, .int (nI S)), (2, .int (nI L)), (3, .int (nI q)), (4, .int (nI i))]) C dX1_read_25 (by decide) rfl ?_
    refine g_iload C dX1_read_27 0 rfl ?_
    refine g_if_eq (tgt := 35) C dX1_read_29 (by decide) (fun c29 => ?_) (fun c29 => ?_)
    · skip
      exact absurd c29 (by decide +kernel)
    · skip
      refine g_iload C dX1_read_32 0 rfl ?_
      exact g_xiret C rfl (⟨S, L, q, i, rfl, hS, rfl, hL, rfl, hq, rfl, hi, Or.inl (⟨d9, rfl, rfl⟩)⟩) (Nat.le_of_ble_eq_true rfl) (Nat.le_of_ble_eq_true rfl) dX1_read_34
  · skip
    rw [v9] at h22a
    subst h22a
    refine g_istore (lv' := [(5, .int (-2)), (0, .ref (a 0)), (1, .int (nI S)), (2, .int (nI L)), (3, .int (nI q)), (4, .int (nI i))]) C dX1_read_25 (by decide) rfl ?_
    refine g_iload C dX1_read_27 0 rfl ?_
    refine g_if_eq (tgt := 35) C dX1_read_29 (by decide) (fun c29 => ?_) (fun c29 => ?_)
    · skip
      exact absurd c29 (by decide +kernel)
    · skip
      refine g_iload C dX1_read_32 0 rfl ?_
      exact g_xiret C rfl (⟨S, L, q, i, rfl, hS, rfl, hL, rfl, hq, rfl, hi, Or.inr (Or.inl (⟨d9, rfl, rfl⟩))⟩) (Nat.le_of_ble_eq_true rfl) (Nat.le_of_ble_eq_true rfl) dX1_read_34
  · skip
    rw [v9] at h22a
    subst h22a
    have ho9 := hI.labP e9
    refine g_istore (lv' := [(5, .int (nI 0)), (0, .ref (a 0)), (1, .int (nI S)), (2, .int (nI L)), (3, .int (nI q)), (4, .int (nI i))]) C dX1_read_25 (by decide) rfl ?_
    refine g_iload C dX1_read_27 0 rfl ?_
    refine g_if_eq (tgt := 35) C dX1_read_29 (by decide) (fun c29 => ?_) (fun c29 => ?_)
    · skip
      have c29 := cz_eq0 (by omega) c29
      refine g_aload_n C dX1_read_35 rfl 1 rfl ?_
      refine g_iload_n C dX1_read_36 rfl 3 rfl ?_
      refine g_iload_n C dX1_read_37 rfl 4 rfl ?_
      refine g_Vq (ci := 2) (st := []) C (k_X1_find l D cy zs a lab quo spe md ed lis lc see (va_up cnt S 0) Fs hI16 L q hL hq) gX1_read_X1_find rfl ⟨rfl, ydX1_find⟩ 0 rfl rfl ⟨Nat.le_of_ble_eq_true rfl, Nat.le_of_ble_eq_true rfl⟩ ⟨Nat.le_of_ble_eq_true rfl, Nat.le_of_ble_eq_true rfl⟩ rfl (Nat.le_of_ble_eq_true rfl) dX1_read_38 (fun r38 w38 h38 => ?_)
      obtain ⟨h38b, h38⟩ := h38
      subst h38b
      rcases h38 with ⟨e38, h38⟩ | ⟨i38, ⟨ob38, ar38, ky38, fo38, ce38, ct38, gi38, gv38⟩, e38, hF38, hq38, h38⟩ <;> subst h38
      · skip
        refine g_astoreN (lv' := [(6, .null), (5, .int (nI 0)), (0, .ref (a 0)), (1, .int (nI S)), (2, .int (nI L)), (3, .int (nI q)), (4, .int (nI i))]) C dX1_read_41 (by decide) rfl ?_
        refine g_aloadN C dX1_read_43 0 rfl ?_
        refine g_ifnullN (tgt := 58) C dX1_read_45 (by decide) ?_
        refine g_iconst (v := nI 0) C dX1_read_58 (by decide +kernel) ?_
        exact g_xiret C rfl (⟨S, L, q, i, rfl, hS, rfl, hL, rfl, hq, rfl, hi, Or.inr (Or.inr (Or.inl (⟨d9, (by simp only [readD, sz_none e38, Option.getD_some, Option.isSome_none, Option.isSome_some, Bool.false_eq_true, Bool.true_eq_false, Bool.not_true, Bool.not_false, Bool.and_true, Bool.and_false, Bool.true_and, Bool.false_and, eq_self, if_true, if_false]; try (repeat (first | rw [if_pos (by first | assumption | omega)] | rw [if_neg (by first | assumption | omega)]))), rfl, rfl⟩)))⟩) (Nat.le_of_ble_eq_true rfl) (Nat.le_of_ble_eq_true rfl) dX1_read_59
      · skip
        have hl38 := plF_lt e38
        have hq38 : ky38 = 16 * L + q := hq38
        obtain ⟨hk38, hct38⟩ := hI16.flP hF38
        refine g_astore (lv' := [(6, .ref ob38), (5, .int (nI 0)), (0, .ref (a 0)), (1, .int (nI S)), (2, .int (nI L)), (3, .int (nI q)), (4, .int (nI i))]) C dX1_read_41 (by decide) rfl ?_
        refine g_aload C dX1_read_43 0 rfl ?_
        refine g_ifnull C dX1_read_45 ?_
        refine g_iload C dX1_read_48 6 rfl ?_
        refine g_aload C dX1_read_50 0 rfl ?_
        refine g_get (ci := 1) (v := .int (nI ct38)) C iwX1_read_X0 (24 + 2 * i38) (wC_obj hF38) rfl 3 (by decide) (C.hw (List.mem_cons_of_mem _ (List.mem_append_left _ (List.mem_append_left _ (List.mem_append_left _ (List.mem_append_left _ (List.mem_append_left _ (List.mem_of_getElem? (i := 0) rfl)))))))) (fun _ h9 => h9) rfl dX1_read_52 ?_
        refine g_icmp_lt (tgt := 60) C dX1_read_55 (by decide) (fun c55 => ?_) (fun c55 => ?_)
        · skip
          have c55 := c_lt0 (by omega) (by omega) c55
          refine g_aload_n C dX1_read_60 rfl 2 rfl ?_
          refine g_iload_n C dX1_read_61 rfl 3 rfl ?_
          refine g_aload C dX1_read_62 0 rfl ?_
          refine g_get (ci := 1) (v := .ref ar38) C iwX1_read_X0 (24 + 2 * i38) (wC_obj hF38) rfl 2 (by decide) (C.hw (List.mem_cons_of_mem _ (List.mem_append_left _ (List.mem_append_left _ (List.mem_append_left _ (List.mem_append_left _ (List.mem_append_left _ (List.mem_of_getElem? (i := 1) rfl)))))))) (fun _ h9 => h9) rfl dX1_read_64 ?_
          refine g_iload C dX1_read_67 6 rfl ?_
          refine g_ialdR (nn := 24) (j := i) (f := ce38) C (24 + (2 * i38 + 1)) (wC_arr hF38) (by omega) n31_24 dX1_read_69 ?_
          refine g_Vv (ci := 2) (st := []) C (k_X1_show l D cy zs a lab quo spe md ed lis lc see (va_up cnt S 0) Fs hI16 S (ce38 i) (by omega)) gX1_read_X1_show rfl ⟨rfl, ydX1_show⟩ 0 rfl rfl ⟨Nat.le_of_ble_eq_true rfl, Nat.le_of_ble_eq_true rfl⟩ ⟨Nat.le_of_ble_eq_true rfl, Nat.le_of_ble_eq_true rfl⟩ rfl (Nat.le_of_ble_eq_true rfl) dX1_read_70 (fun w70 h70 => ?_)
          rw [va_up_self, up_up] at h70
          rcases h70 with ⟨h70a, h70⟩ | ⟨h70a, h70⟩
          · omega
          subst h70
          refine g_iconst (v := nI 1) C dX1_read_73 (by decide +kernel) ?_
          exact g_xiret C rfl (⟨S, L, q, i, rfl, hS, rfl, hL, rfl, hq, rfl, hi, Or.inr (Or.inr (Or.inr (⟨i38, ob38, ar38, ky38, fo38, ce38, ct38, gi38, gv38, e38, hF38, d9, (by simp only [readD, sz_some e38 hF38, Option.getD_some, Option.isSome_none, Option.isSome_some, Bool.false_eq_true, Bool.true_eq_false, Bool.not_true, Bool.not_false, Bool.and_true, Bool.and_false, Bool.true_and, Bool.false_and, eq_self, if_true, if_false]; try (repeat (first | rw [if_pos (by first | assumption | omega)] | rw [if_neg (by first | assumption | omega)]))), rfl, rfl⟩)))⟩) (Nat.le_of_ble_eq_true rfl) (Nat.le_of_ble_eq_true rfl) dX1_read_74
        · skip
          have c55 := c_lt1 (by omega) (by omega) c55
          refine g_iconst (v := nI 0) C dX1_read_58 (by decide +kernel) ?_
          exact g_xiret C rfl (⟨S, L, q, i, rfl, hS, rfl, hL, rfl, hq, rfl, hi, Or.inr (Or.inr (Or.inl (⟨d9, (by simp only [readD, sz_some e38 hF38, Option.getD_some, Option.isSome_none, Option.isSome_some, Bool.false_eq_true, Bool.true_eq_false, Bool.not_true, Bool.not_false, Bool.and_true, Bool.and_false, Bool.true_and, Bool.false_and, eq_self, if_true, if_false]; try (repeat (first | rw [if_pos (by first | assumption | omega)] | rw [if_neg (by first | assumption | omega)]))), rfl, rfl⟩)))⟩) (Nat.le_of_ble_eq_true rfl) (Nat.le_of_ble_eq_true rfl) dX1_read_59
    · skip
      exact absurd rfl c29
abbrev rmX1_size : Room := { frames := 8, cells := 12, slots := 500, locals := 141 }
theorem ydX1_size : yX1_size.cls ≠ "java/lang/invoke/MethodHandle" ∧ yX1_size.cls ≠ "java/lang/invoke/VarHandle" ∧ (parseMethodDescriptor yX1_size.desc).map (fun d => d.parameters.length) = some 3 := by decide +kernel
theorem iwX1_size_X1 : ∀ w ∈ u_ws RX1 TX1 8, w ∈ wsX1_size := fun _ h => (List.mem_cons_of_mem _ (List.mem_append_left _ (List.mem_append_left _ (List.mem_append_right _ h))))
theorem iwX1_size_X0 : ∀ w ∈ u_ws RX0 TX0 6, w ∈ wsX1_size := fun _ h => (List.mem_cons_of_mem _ (List.mem_append_left _ (List.mem_append_left _ (List.mem_append_left _ (List.mem_append_right _ h)))))
set_option maxRecDepth 100000 in
set_option maxHeartbeats 4000000 in
theorem k_X1_size (l : Launch) (D : va_G) (cy : Nat → ClassId) (zs : Nat → Nat) (hst : l.stackTraces = false) (a : Nat → Nat) (lab : Nat → Option Nat) (quo : Nat → Nat) (spe : Nat → Nat) (md : Int32) (ed : Option (Nat × Nat)) (lis : Nat → Nat) (lc : Nat) (see : Nat → Nat → Int32) (cnt : Nat → Nat) (Fs : List FT) (hI : CI lab quo spe ed lis lc cnt Fs)  (p0 : Int32) (p1 : Int32) (p2 : Int32)  : Xi l D cy zs yX1_size wsX1_size rmX1_size [.ref (a 0), .int p0, .int p1, .int p2] (wC cy a (zs 0) lab quo spe md ed lis lc see cnt Fs) (fun r w => ∃ (S : Nat) (L : Nat) (q : Nat), p0 = nI S ∧ S < 16 ∧ p1 = nI L ∧ L < 1024 ∧ p2 = nI q ∧ q < 16 ∧ ((lookD (lab S) L = 0 ∧ r = -1 ∧ w = (wC cy a (zs 0) lab quo spe md ed lis lc see (va_up cnt S 0) Fs)) ∨ (lookD (lab S) L = 1 ∧ r = -2 ∧ w = (wC cy a (zs 0) lab quo spe md ed lis lc see (va_up cnt S 0) Fs)) ∨ (lookD (lab S) L = 2 ∧ r = nI ((szF Fs (16 * L + q)).getD 0) ∧ w = (wC cy a (zs 0) lab quo spe md ed lis lc see (va_up cnt S 0) Fs)))) (fun E w => ((!inB p0 16 || !inB p1 1024 || !inB p2 16) = true ∧ E = "java/lang/IllegalArgumentException" ∧ w = (wC cy a (zs 0) lab quo spe md ed lis lc see cnt Fs))) := by
  refine Xi.of (lv := [(0, .ref (a 0)), (1, .int p0), (2, .int p1), (3, .int p2)]) RX1 ⟨by decide, rfl⟩ rfl (Nat.le_of_ble_eq_true rfl) rfl ?_
  intro p e s m args below meth c A C hnm hno
  have hlc := hI.lcP
  have hln := hI.lenP
  refine g_iload_n C dX1_size_0 rfl 1 rfl ?_
  refine g_XSv (st := []) C (k_X1_requireSubject l D cy zs hst (wC cy a (zs 0) lab quo spe md ed lis lc see cnt Fs) p0 ) gX1_size_X1_requireSubject rfl ydX1_requireSubject ⟨Nat.le_of_ble_eq_true rfl, Nat.le_of_ble_eq_true rfl⟩ ⟨Nat.le_of_ble_eq_true rfl, Nat.le_of_ble_eq_true rfl⟩ rfl (Nat.le_of_ble_eq_true rfl) dX1_size_1 (fun E1 w1 h1 => ?_) (fun w1 h1 => ?_)
  · skip
    obtain ⟨h1a, h1b, h1c⟩ := h1
    subst h1b
    subst h1c
    exact g_xout C hno (⟨(by simp [h1a]), rfl, rfl⟩) (Nat.le_of_ble_eq_true rfl) (Nat.le_of_ble_eq_true rfl)
  obtain ⟨h1, h1b⟩ := h1
  have h1b := h1b.symm
  subst h1b
  obtain ⟨S, hS, eS⟩ := inB_of (Nat.le_of_ble_eq_true rfl) h1
  subst eS
  refine g_iload_n C dX1_size_4 rfl 2 rfl ?_
  refine g_iload_n C dX1_size_5 rfl 3 rfl ?_
  refine g_XSv (st := []) C (k_X1_requireFile l D cy zs hst (wC cy a (zs 0) lab quo spe md ed lis lc see cnt Fs) p1 p2 ) gX1_size_X1_requireFile rfl ydX1_requireFile ⟨Nat.le_of_ble_eq_true rfl, Nat.le_of_ble_eq_true rfl⟩ ⟨Nat.le_of_ble_eq_true rfl, Nat.le_of_ble_eq_true rfl⟩ rfl (Nat.le_of_ble_eq_true rfl) dX1_size_6 (fun E6 w6 h6 => ?_) (fun w6 h6 => ?_)
  · skip
    obtain ⟨h6a, h6b, h6c⟩ := h6
    subst h6b
    subst h6c
    exact g_xout C hno (⟨(by have h8 := reqF h6a; simp only [Bool.or_eq_true] at h8 ⊢; rcases h8 with h8 | h8 <;> simp [h8]), rfl, rfl⟩) (Nat.le_of_ble_eq_true rfl) (Nat.le_of_ble_eq_true rfl)
  obtain ⟨h6, h6b⟩ := h6
  have h6b := h6b.symm
  subst h6b
  obtain ⟨g6a, g6b⟩ := (Bool.and_eq_true _ _).mp h6
  obtain ⟨L, hL, eL⟩ := inB_of (Nat.le_of_ble_eq_true rfl) g6a
  subst eL
  obtain ⟨q, hq, eq⟩ := inB_of (Nat.le_of_ble_eq_true rfl) g6b
  subst eq
  refine g_aload_n C dX1_size_9 rfl 0 rfl ?_
  refine g_iload_n C dX1_size_10 rfl 1 rfl ?_
  refine g_Vv (ci := 2) (st := []) C (k_X1_forgetSeen l D cy zs a lab quo spe md ed lis lc see cnt Fs hI S (by omega)) gX1_size_X1_forgetSeen rfl ⟨rfl, ydX1_forgetSeen⟩ 0 rfl rfl ⟨Nat.le_of_ble_eq_true rfl, Nat.le_of_ble_eq_true rfl⟩ ⟨Nat.le_of_ble_eq_true rfl, Nat.le_of_ble_eq_true rfl⟩ rfl (Nat.le_of_ble_eq_true rfl) dX1_size_11 (fun w11 h11 => ?_)
  subst h11
  have hI11 : CI lab quo spe ed lis lc (va_up cnt S 0) Fs := hI.upCnt (by omega)
  refine g_aload_n C dX1_size_14 rfl 0 rfl ?_
  refine g_iload_n C dX1_size_15 rfl 1 rfl ?_
  refine g_iload_n C dX1_size_16 rfl 2 rfl ?_
  refine g_Vi (ci := 2) (st := []) C (k_X1_verdictOnReading l D cy zs a lab quo spe md ed lis lc see (va_up cnt S 0) Fs hI11 S L (by omega) (by omega)) gX1_size_X1_verdictOnReading rfl ⟨rfl, ydX1_verdictOnReading⟩ 0 rfl rfl ⟨Nat.le_of_ble_eq_true rfl, Nat.le_of_ble_eq_true rfl⟩ ⟨Nat.le_of_ble_eq_true rfl, Nat.le_of_ble_eq_true rfl⟩ rfl (Nat.le_of_ble_eq_true rfl) dX1_size_17 (fun r17 w17 h17 => ?_)
  obtain ⟨h17a, h17b⟩ := h17
  subst h17b
  rcases look_cases (lab S) L with ⟨d9, v9⟩ | ⟨d9, v9⟩ | ⟨o, e9, d9, v9⟩
  · skip
    rw [v9] at h17a
    subst h17a
    refine g_istore (lv' := [(4, .int (-1)), (0, .ref (a 0)), (1, .int (nI S)), (2, .int (nI L)), (3, .int (nI q))]) C dX1_size_20 (by decide) rfl ?_
    refine g_iload C dX1_size_22 0 rfl ?_
    refine g_if_eq (tgt := 30) C dX1_size_24 (by decide) (fun c24 => ?_) (fun c24 => ?_)
    · skip
      exact absurd c24 (by decide +kernel)
    · skip
      refine g_iload C dX1_size_27 0 rfl ?_
      exact g_xiret C rfl (⟨S, L, q, rfl, hS, rfl, hL, rfl, hq, Or.inl (⟨d9, rfl, rfl⟩)⟩) (Nat.le_of_ble_eq_true rfl) (Nat.le_of_ble_eq_true rfl) dX1_size_29
  · skip
    rw [v9] at h17a
    subst h17a
    refine g_istore (lv' := [(4, .int (-2)), (0, .ref (a 0)), (1, .int (nI S)), (2, .int (nI L)), (3, .int (nI q))]) C dX1_size_20 (by decide) rfl ?_
    refine g_iload C dX1_size_22 0 rfl ?_
    refine g_if_eq (tgt := 30) C dX1_size_24 (by decide) (fun c24 => ?_) (fun c24 => ?_)
    · skip
      exact absurd c24 (by decide +kernel)
    · skip
      refine g_iload C dX1_size_27 0 rfl ?_
      exact g_xiret C rfl (⟨S, L, q, rfl, hS, rfl, hL, rfl, hq, Or.inr (Or.inl (⟨d9, rfl, rfl⟩))⟩) (Nat.le_of_ble_eq_true rfl) (Nat.le_of_ble_eq_true rfl) dX1_size_29
  · skip
    rw [v9] at h17a
    subst h17a
    have ho9 := hI.labP e9
    refine g_istore (lv' := [(4, .int (nI 0)), (0, .ref (a 0)), (1, .int (nI S)), (2, .int (nI L)), (3, .int (nI q))]) C dX1_size_20 (by decide) rfl ?_
    refine g_iload C dX1_size_22 0 rfl ?_
    refine g_if_eq (tgt := 30) C dX1_size_24 (by decide) (fun c24 => ?_) (fun c24 => ?_)
    · skip
      have c24 := cz_eq0 (by omega) c24
      refine g_aload_n C dX1_size_30 rfl 1 rfl ?_
      refine g_iload_n C dX1_size_31 rfl 3 rfl ?_
      refine g_iload_n C dX1_size_32 rfl 4 rfl ?_
      refine g_Vq (ci := 2) (st := []) C (k_X1_find l D cy zs a lab quo spe md ed lis lc see (va_up cnt S 0) Fs hI11 L q hL hq) gX1_size_X1_find rfl ⟨rfl, ydX1_find⟩ 0 rfl rfl ⟨Nat.le_of_ble_eq_true rfl, Nat.le_of_ble_eq_true rfl⟩ ⟨Nat.le_of_ble_eq_true rfl, Nat.le_of_ble_eq_true rfl⟩ rfl (Nat.le_of_ble_eq_true rfl) dX1_size_33 (fun r33 w33 h33 => ?_)
      obtain ⟨h33b, h33⟩ := h33
      subst h33b
      rcases h33 with ⟨e33, h33⟩ | ⟨i33, ⟨ob33, ar33, ky33, fo33, ce33, ct33, gi33, gv33⟩, e33, hF33, hq33, h33⟩ <;> subst h33
      · skip
        refine g_astoreN (lv' := [(5, .null), (4, .int (nI 0)), (0, .ref (a 0)), (1, .int (nI S)), (2, .int (nI L)), (3, .int (nI q))]) C dX1_size_36 (by decide) rfl ?_
        refine g_aloadN C dX1_size_38 0 rfl ?_
        refine g_ifnonnullN C dX1_size_40 ?_
        refine g_iconst (v := nI 0) C dX1_size_43 (by decide +kernel) ?_
        refine g_goto (tgt := 52) C dX1_size_44 (by decide) ?_
        exact g_xiret C rfl (⟨S, L, q, rfl, hS, rfl, hL, rfl, hq, Or.inr (Or.inr (⟨d9, by rw [sz_none e33]; rfl, rfl⟩))⟩) (Nat.le_of_ble_eq_true rfl) (Nat.le_of_ble_eq_true rfl) dX1_size_52
      · skip
        have hl33 := plF_lt e33
        have hq33 : ky33 = 16 * L + q := hq33
        obtain ⟨hk33, hct33⟩ := hI11.flP hF33
        refine g_astore (lv' := [(5, .ref ob33), (4, .int (nI 0)), (0, .ref (a 0)), (1, .int (nI S)), (2, .int (nI L)), (3, .int (nI q))]) C dX1_size_36 (by decide) rfl ?_
        refine g_aload C dX1_size_38 0 rfl ?_
        refine g_ifnonnull (tgt := 47) C dX1_size_40 (by decide) ?_
        refine g_aload C dX1_size_47 0 rfl ?_
        refine g_get (ci := 1) (v := .int (nI ct33)) C iwX1_size_X0 (24 + 2 * i33) (wC_obj hF33) rfl 3 (by decide) (C.hw (List.mem_cons_of_mem _ (List.mem_append_left _ (List.mem_append_left _ (List.mem_append_left _ (List.mem_append_left _ (List.mem_append_left _ (List.mem_of_getElem? (i := 0) rfl)))))))) (fun _ h9 => h9) rfl dX1_size_49 ?_
        exact g_xiret C rfl (⟨S, L, q, rfl, hS, rfl, hL, rfl, hq, Or.inr (Or.inr (⟨d9, by rw [sz_some e33 hF33]; rfl, rfl⟩))⟩) (Nat.le_of_ble_eq_true rfl) (Nat.le_of_ble_eq_true rfl) dX1_size_52
    · skip
      exact absurd rfl c24
abbrev rmX1_there : Room := { frames := 8, cells := 12, slots := 500, locals := 141 }
theorem ydX1_there : yX1_there.cls ≠ "java/lang/invoke/MethodHandle" ∧ yX1_there.cls ≠ "java/lang/invoke/VarHandle" ∧ (parseMethodDescriptor yX1_there.desc).map (fun d => d.parameters.length) = some 3 := by decide +kernel
theorem iwX1_there_X1 : ∀ w ∈ u_ws RX1 TX1 8, w ∈ wsX1_there := fun _ h => (List.mem_cons_of_mem _ (List.mem_append_left _ (List.mem_append_left _ (List.mem_append_left _ (List.mem_append_right _ h)))))
theorem iwX1_there_X0 : ∀ w ∈ u_ws RX0 TX0 6, w ∈ wsX1_there := fun _ h => (List.mem_cons_of_mem _ (List.mem_append_left _ (List.mem_append_left _ (List.mem_append_right _ h))))
set_option maxRecDepth 100000 in
set_option maxHeartbeats 4000000 in
theorem k_X1_there (l : Launch) (D : va_G) (cy : Nat → ClassId) (zs : Nat → Nat) (hst : l.stackTraces = false) (a : Nat → Nat) (lab : Nat → Option Nat) (quo : Nat → Nat) (spe : Nat → Nat) (md : Int32) (ed : Option (Nat × Nat)) (lis : Nat → Nat) (lc : Nat) (see : Nat → Nat → Int32) (cnt : Nat → Nat) (Fs : List FT) (hI : CI lab quo spe ed lis lc cnt Fs)  (p0 : Int32) (p1 : Int32) (p2 : Int32)  : Xi l D cy zs yX1_there wsX1_there rmX1_there [.ref (a 0), .int p0, .int p1, .int p2] (wC cy a (zs 0) lab quo spe md ed lis lc see cnt Fs) (fun r w => ∃ (S : Nat) (L : Nat) (q : Nat), p0 = nI S ∧ S < 16 ∧ p1 = nI L ∧ L < 1024 ∧ p2 = nI q ∧ q < 16 ∧ ((lookD (lab S) L = 0 ∧ r = -1 ∧ w = (wC cy a (zs 0) lab quo spe md ed lis lc see (va_up cnt S 0) Fs)) ∨ (lookD (lab S) L = 1 ∧ r = -2 ∧ w = (wC cy a (zs 0) lab quo spe md ed lis lc see (va_up cnt S 0) Fs)) ∨ (lookD (lab S) L = 2 ∧ r = bI (plF Fs (16 * L + q)).isSome ∧ w = (wC cy a (zs 0) lab quo spe md ed lis lc see (va_up cnt S 0) Fs)))) (fun E w => ((!inB p0 16 || !inB p1 1024 || !inB p2 16) = true ∧ E = "java/lang/IllegalArgumentException" ∧ w = (wC cy a (zs 0) lab quo spe md ed lis lc see cnt Fs))) := by
  refine Xi.of (lv := [(0, .ref (a 0)), (1, .int p0), (2, .int p1), (3, .int p2)]) RX1 ⟨by decide, rfl⟩ rfl (Nat.le_of_ble_eq_true rfl) rfl ?_
  intro p e s m args below meth c A C hnm hno
  have hlc := hI.lcP
  have hln := hI.lenP
  refine g_iload_n C dX1_there_0 rfl 1 rfl ?_
  refine g_XSv (st := []) C (k_X1_requireSubject l D cy zs hst (wC cy a (zs 0) lab quo spe md ed lis lc see cnt Fs) p0 ) gX1_there_X1_requireSubject rfl ydX1_requireSubject ⟨Nat.le_of_ble_eq_true rfl, Nat.le_of_ble_eq_true rfl⟩ ⟨Nat.le_of_ble_eq_true rfl, Nat.le_of_ble_eq_true rfl⟩ rfl (Nat.le_of_ble_eq_true rfl) dX1_there_1 (fun E1 w1 h1 => ?_) (fun w1 h1 => ?_)
  · skip
    obtain ⟨h1a, h1b, h1c⟩ := h1
    subst h1b
    subst h1c
    exact g_xout C hno (⟨(by simp [h1a]), rfl, rfl⟩) (Nat.le_of_ble_eq_true rfl) (Nat.le_of_ble_eq_true rfl)
  obtain ⟨h1, h1b⟩ := h1
  have h1b := h1b.symm
  subst h1b
  obtain ⟨S, hS, eS⟩ := inB_of (Nat.le_of_ble_eq_true rfl) h1
  subst eS
  refine g_iload_n C dX1_there_4 rfl 2 rfl ?_
  refine g_iload_n C dX1_there_5 rfl 3 rfl ?_
  refine g_XSv (st := []) C (k_X1_requireFile l D cy zs hst (wC cy a (zs 0) lab quo spe md ed lis lc see cnt Fs) p1 p2 ) gX1_there_X1_requireFile rfl ydX1_requireFile ⟨Nat.le_of_ble_eq_true rfl, Nat.le_of_ble_eq_true rfl⟩ ⟨Nat.le_of_ble_eq_true rfl, Nat.le_of_ble_eq_true rfl⟩ rfl (Nat.le_of_ble_eq_true rfl) dX1_there_6 (fun E6 w6 h6 => ?_) (fun w6 h6 => ?_)
  · skip
    obtain ⟨h6a, h6b, h6c⟩ := h6
    subst h6b
    subst h6c
    exact g_xout C hno (⟨(by have h8 := reqF h6a; simp only [Bool.or_eq_true] at h8 ⊢; rcases h8 with h8 | h8 <;> simp [h8]), rfl, rfl⟩) (Nat.le_of_ble_eq_true rfl) (Nat.le_of_ble_eq_true rfl)
  obtain ⟨h6, h6b⟩ := h6
  have h6b := h6b.symm
  subst h6b
  obtain ⟨g6a, g6b⟩ := (Bool.and_eq_true _ _).mp h6
  obtain ⟨L, hL, eL⟩ := inB_of (Nat.le_of_ble_eq_true rfl) g6a
  subst eL
  obtain ⟨q, hq, eq⟩ := inB_of (Nat.le_of_ble_eq_true rfl) g6b
  subst eq
  refine g_aload_n C dX1_there_9 rfl 0 rfl ?_
  refine g_iload_n C dX1_there_10 rfl 1 rfl ?_
  refine g_Vv (ci := 2) (st := []) C (k_X1_forgetSeen l D cy zs a lab quo spe md ed lis lc see cnt Fs hI S (by omega)) gX1_there_X1_forgetSeen rfl ⟨rfl, ydX1_forgetSeen⟩ 0 rfl rfl ⟨Nat.le_of_ble_eq_true rfl, Nat.le_of_ble_eq_true rfl⟩ ⟨Nat.le_of_ble_eq_true rfl, Nat.le_of_ble_eq_true rfl⟩ rfl (Nat.le_of_ble_eq_true rfl) dX1_there_11 (fun w11 h11 => ?_)
  subst h11
  have hI11 : CI lab quo spe ed lis lc (va_up cnt S 0) Fs := hI.upCnt (by omega)
  refine g_aload_n C dX1_there_14 rfl 0 rfl ?_
  refine g_iload_n C dX1_there_15 rfl 1 rfl ?_
  refine g_iload_n C dX1_there_16 rfl 2 rfl ?_
  refine g_Vi (ci := 2) (st := []) C (k_X1_verdictOnReading l D cy zs a lab quo spe md ed lis lc see (va_up cnt S 0) Fs hI11 S L (by omega) (by omega)) gX1_there_X1_verdictOnReading rfl ⟨rfl, ydX1_verdictOnReading⟩ 0 rfl rfl ⟨Nat.le_of_ble_eq_true rfl, Nat.le_of_ble_eq_true rfl⟩ ⟨Nat.le_of_ble_eq_true rfl, Nat.le_of_ble_eq_true rfl⟩ rfl (Nat.le_of_ble_eq_true rfl) dX1_there_17 (fun r17 w17 h17 => ?_)
  obtain ⟨h17a, h17b⟩ := h17
  subst h17b
  rcases look_cases (lab S) L with ⟨d9, v9⟩ | ⟨d9, v9⟩ | ⟨o, e9, d9, v9⟩
  · skip
    rw [v9] at h17a
    subst h17a
    refine g_istore (lv' := [(4, .int (-1)), (0, .ref (a 0)), (1, .int (nI S)), (2, .int (nI L)), (3, .int (nI q))]) C dX1_there_20 (by decide) rfl ?_
    refine g_iload C dX1_there_22 0 rfl ?_
    refine g_if_eq (tgt := 30) C dX1_there_24 (by decide) (fun c24 => ?_) (fun c24 => ?_)
    · skip
      exact absurd c24 (by decide +kernel)
    · skip
      refine g_iload C dX1_there_27 0 rfl ?_
      exact g_xiret C rfl (⟨S, L, q, rfl, hS, rfl, hL, rfl, hq, Or.inl (⟨d9, rfl, rfl⟩)⟩) (Nat.le_of_ble_eq_true rfl) (Nat.le_of_ble_eq_true rfl) dX1_there_29
  · skip
    rw [v9] at h17a
    subst h17a
    refine g_istore (lv' := [(4, .int (-2)), (0, .ref (a 0)), (1, .int (nI S)), (2, .int (nI L)), (3, .int (nI q))]) C dX1_there_20 (by decide) rfl ?_
    refine g_iload C dX1_there_22 0 rfl ?_
    refine g_if_eq (tgt := 30) C dX1_there_24 (by decide) (fun c24 => ?_) (fun c24 => ?_)
    · skip
      exact absurd c24 (by decide +kernel)
    · skip
      refine g_iload C dX1_there_27 0 rfl ?_
      exact g_xiret C rfl (⟨S, L, q, rfl, hS, rfl, hL, rfl, hq, Or.inr (Or.inl (⟨d9, rfl, rfl⟩))⟩) (Nat.le_of_ble_eq_true rfl) (Nat.le_of_ble_eq_true rfl) dX1_there_29
  · skip
    rw [v9] at h17a
    subst h17a
    have ho9 := hI.labP e9
    refine g_istore (lv' := [(4, .int (nI 0)), (0, .ref (a 0)), (1, .int (nI S)), (2, .int (nI L)), (3, .int (nI q))]) C dX1_there_20 (by decide) rfl ?_
    refine g_iload C dX1_there_22 0 rfl ?_
    refine g_if_eq (tgt := 30) C dX1_there_24 (by decide) (fun c24 => ?_) (fun c24 => ?_)
    · skip
      have c24 := cz_eq0 (by omega) c24
      refine g_aload_n C dX1_there_30 rfl 1 rfl ?_
      refine g_iload_n C dX1_there_31 rfl 3 rfl ?_
      refine g_iload_n C dX1_there_32 rfl 4 rfl ?_
      refine g_Vq (ci := 2) (st := []) C (k_X1_find l D cy zs a lab quo spe md ed lis lc see (va_up cnt S 0) Fs hI11 L q hL hq) gX1_there_X1_find rfl ⟨rfl, ydX1_find⟩ 0 rfl rfl ⟨Nat.le_of_ble_eq_true rfl, Nat.le_of_ble_eq_true rfl⟩ ⟨Nat.le_of_ble_eq_true rfl, Nat.le_of_ble_eq_true rfl⟩ rfl (Nat.le_of_ble_eq_true rfl) dX1_there_33 (fun r33 w33 h33 => ?_)
      obtain ⟨h33b, h33⟩ := h33
      subst h33b
      rcases h33 with ⟨e33, h33⟩ | ⟨i33, ⟨ob33, ar33, ky33, fo33, ce33, ct33, gi33, gv33⟩, e33, hF33, hq33, h33⟩ <;> subst h33
      · skip
        refine g_ifnonnullN C dX1_there_36 ?_
        refine g_iconst (v := nI 0) C dX1_there_39 (by decide +kernel) ?_
        refine g_goto (tgt := 44) C dX1_there_40 (by decide) ?_
        exact g_xiret C rfl (⟨S, L, q, rfl, hS, rfl, hL, rfl, hq, Or.inr (Or.inr (⟨d9, by rw [e33]; rfl, rfl⟩))⟩) (Nat.le_of_ble_eq_true rfl) (Nat.le_of_ble_eq_true rfl) dX1_there_44
      · skip
        have hl33 := plF_lt e33
        have hq33 : ky33 = 16 * L + q := hq33
        obtain ⟨hk33, hct33⟩ := hI11.flP hF33
        refine g_ifnonnull (tgt := 43) C dX1_there_36 (by decide) ?_
        refine g_iconst (v := nI 1) C dX1_there_43 (by decide +kernel) ?_
        exact g_xiret C rfl (⟨S, L, q, rfl, hS, rfl, hL, rfl, hq, Or.inr (Or.inr (⟨d9, by rw [e33]; rfl, rfl⟩))⟩) (Nat.le_of_ble_eq_true rfl) (Nat.le_of_ble_eq_true rfl) dX1_there_44
    · skip
      exact absurd rfl c24
abbrev rmX1_listed : Room := { frames := 8, cells := 12, slots := 500, locals := 141 }
theorem ydX1_listed : yX1_listed.cls ≠ "java/lang/invoke/MethodHandle" ∧ yX1_listed.cls ≠ "java/lang/invoke/VarHandle" ∧ (parseMethodDescriptor yX1_listed.desc).map (fun d => d.parameters.length) = some 3 := by decide +kernel
theorem iwX1_listed_X1 : ∀ w ∈ u_ws RX1 TX1 8, w ∈ wsX1_listed := fun _ h => (List.mem_cons_of_mem _ (List.mem_append_left _ (List.mem_append_left _ (List.mem_append_left _ (List.mem_append_right _ h)))))
theorem iwX1_listed_X0 : ∀ w ∈ u_ws RX0 TX0 6, w ∈ wsX1_listed := fun _ h => (List.mem_cons_of_mem _ (List.mem_append_left _ (List.mem_append_left _ (List.mem_append_right _ h))))
set_option maxRecDepth 100000 in
set_option maxHeartbeats 4000000 in
theorem k_X1_listed (l : Launch) (D : va_G) (cy : Nat → ClassId) (zs : Nat → Nat) (hst : l.stackTraces = false) (a : Nat → Nat) (lab : Nat → Option Nat) (quo : Nat → Nat) (spe : Nat → Nat) (md : Int32) (ed : Option (Nat × Nat)) (lis : Nat → Nat) (lc : Nat) (see : Nat → Nat → Int32) (cnt : Nat → Nat) (Fs : List FT) (hI : CI lab quo spe ed lis lc cnt Fs)  (p0 : Int32) (p1 : Int32) (p2 : Int32)  : Xi l D cy zs yX1_listed wsX1_listed rmX1_listed [.ref (a 0), .int p0, .int p1, .int p2] (wC cy a (zs 0) lab quo spe md ed lis lc see cnt Fs) (fun r w => ∃ (S : Nat) (L : Nat) (q : Nat), p0 = nI S ∧ S < 16 ∧ p1 = nI L ∧ L < 1024 ∧ p2 = nI q ∧ q < 16 ∧ ((lookD (lab S) L = 0 ∧ r = -1 ∧ w = (wC cy a (zs 0) lab quo spe md ed lis lc see (va_up cnt S 0) Fs)) ∨ (lookD (lab S) L = 1 ∧ r = -2 ∧ w = (wC cy a (zs 0) lab quo spe md ed lis lc see (va_up cnt S 0) Fs)) ∨ (∃ o, lab S = some o ∧ lookD (lab S) L = 2 ∧ r = nI (shF Fs (16 * L + q) o).length ∧ ∃ f9, segF f9 (shF Fs (16 * L + q) o) ∧ w = (wC cy a (zs 0) lab quo spe md ed lis lc (va_up see S f9) (va_up cnt S (shF Fs (16 * L + q) o).length) Fs)))) (fun E w => ((!inB p0 16 || !inB p1 1024 || !inB p2 16) = true ∧ E = "java/lang/IllegalArgumentException" ∧ w = (wC cy a (zs 0) lab quo spe md ed lis lc see cnt Fs))) := by
  refine Xi.of (lv := [(0, .ref (a 0)), (1, .int p0), (2, .int p1), (3, .int p2)]) RX1 ⟨by decide, rfl⟩ rfl (Nat.le_of_ble_eq_true rfl) rfl ?_
  intro p e s m args below meth c A C hnm hno
  have hlc := hI.lcP
  have hln := hI.lenP
  refine g_iload_n C dX1_listed_0 rfl 1 rfl ?_
  refine g_XSv (st := []) C (k_X1_requireSubject l D cy zs hst (wC cy a (zs 0) lab quo spe md ed lis lc see cnt Fs) p0 ) gX1_listed_X1_requireSubject rfl ydX1_requireSubject ⟨Nat.le_of_ble_eq_true rfl, Nat.le_of_ble_eq_true rfl⟩ ⟨Nat.le_of_ble_eq_true rfl, Nat.le_of_ble_eq_true rfl⟩ rfl (Nat.le_of_ble_eq_true rfl) dX1_listed_1 (fun E1 w1 h1 => ?_) (fun w1 h1 => ?_)
  · skip
    obtain ⟨h1a, h1b, h1c⟩ := h1
    subst h1b
    subst h1c
    exact g_xout C hno (⟨(by simp [h1a]), rfl, rfl⟩) (Nat.le_of_ble_eq_true rfl) (Nat.le_of_ble_eq_true rfl)
  obtain ⟨h1, h1b⟩ := h1
  have h1b := h1b.symm
  subst h1b
  obtain ⟨S, hS, eS⟩ := inB_of (Nat.le_of_ble_eq_true rfl) h1
  subst eS
  refine g_iload_n C dX1_listed_4 rfl 2 rfl ?_
  refine g_iload_n C dX1_listed_5 rfl 3 rfl ?_
  refine g_XSv (st := []) C (k_X1_requireFile l D cy zs hst (wC cy a (zs 0) lab quo spe md ed lis lc see cnt Fs) p1 p2 ) gX1_listed_X1_requireFile rfl ydX1_requireFile ⟨Nat.le_of_ble_eq_true rfl, Nat.le_of_ble_eq_true rfl⟩ ⟨Nat.le_of_ble_eq_true rfl, Nat.le_of_ble_eq_true rfl⟩ rfl (Nat.le_of_ble_eq_true rfl) dX1_listed_6 (fun E6 w6 h6 => ?_) (fun w6 h6 => ?_)
  · skip
    obtain ⟨h6a, h6b, h6c⟩ := h6
    subst h6b
    subst h6c
    exact g_xout C hno (⟨(by have h8 := reqF h6a; simp only [Bool.or_eq_true] at h8 ⊢; rcases h8 with h8 | h8 <;> simp [h8]), rfl, rfl⟩) (Nat.le_of_ble_eq_true rfl) (Nat.le_of_ble_eq_true rfl)
  obtain ⟨h6, h6b⟩ := h6
  have h6b := h6b.symm
  subst h6b
  obtain ⟨g6a, g6b⟩ := (Bool.and_eq_true _ _).mp h6
  obtain ⟨L, hL, eL⟩ := inB_of (Nat.le_of_ble_eq_true rfl) g6a
  subst eL
  obtain ⟨q, hq, eq⟩ := inB_of (Nat.le_of_ble_eq_true rfl) g6b
  subst eq
  refine g_aload_n C dX1_listed_9 rfl 0 rfl ?_
  refine g_iload_n C dX1_listed_10 rfl 1 rfl ?_
  refine g_Vv (ci := 2) (st := []) C (k_X1_forgetSeen l D cy zs a lab quo spe md ed lis lc see cnt Fs hI S (by omega)) gX1_listed_X1_forgetSeen rfl ⟨rfl, ydX1_forgetSeen⟩ 0 rfl rfl ⟨Nat.le_of_ble_eq_true rfl, Nat.le_of_ble_eq_true rfl⟩ ⟨Nat.le_of_ble_eq_true rfl, Nat.le_of_ble_eq_true rfl⟩ rfl (Nat.le_of_ble_eq_true rfl) dX1_listed_11 (fun w11 h11 => ?_)
  subst h11
  have hI11 : CI lab quo spe ed lis lc (va_up cnt S 0) Fs := hI.upCnt (by omega)
  refine g_aload_n C dX1_listed_14 rfl 0 rfl ?_
  refine g_iload_n C dX1_listed_15 rfl 1 rfl ?_
  refine g_iload_n C dX1_listed_16 rfl 2 rfl ?_
  refine g_Vi (ci := 2) (st := []) C (k_X1_verdictOnReading l D cy zs a lab quo spe md ed lis lc see (va_up cnt S 0) Fs hI11 S L (by omega) (by omega)) gX1_listed_X1_verdictOnReading rfl ⟨rfl, ydX1_verdictOnReading⟩ 0 rfl rfl ⟨Nat.le_of_ble_eq_true rfl, Nat.le_of_ble_eq_true rfl⟩ ⟨Nat.le_of_ble_eq_true rfl, Nat.le_of_ble_eq_true rfl⟩ rfl (Nat.le_of_ble_eq_true rfl) dX1_listed_17 (fun r17 w17 h17 => ?_)
  obtain ⟨h17a, h17b⟩ := h17
  subst h17b
  rcases look_cases (lab S) L with ⟨d9, v9⟩ | ⟨d9, v9⟩ | ⟨o, e9, d9, v9⟩
  · skip
    rw [v9] at h17a
    subst h17a
    refine g_istore (lv' := [(4, .int (-1)), (0, .ref (a 0)), (1, .int (nI S)), (2, .int (nI L)), (3, .int (nI q))]) C dX1_listed_20 (by decide) rfl ?_
    refine g_iload C dX1_listed_22 0 rfl ?_
    refine g_if_eq (tgt := 30) C dX1_listed_24 (by decide) (fun c24 => ?_) (fun c24 => ?_)
    · skip
      exact absurd c24 (by decide +kernel)
    · skip
      refine g_iload C dX1_listed_27 0 rfl ?_
      exact g_xiret C rfl (⟨S, L, q, rfl, hS, rfl, hL, rfl, hq, Or.inl (⟨d9, rfl, rfl⟩)⟩) (Nat.le_of_ble_eq_true rfl) (Nat.le_of_ble_eq_true rfl) dX1_listed_29
  · skip
    rw [v9] at h17a
    subst h17a
    refine g_istore (lv' := [(4, .int (-2)), (0, .ref (a 0)), (1, .int (nI S)), (2, .int (nI L)), (3, .int (nI q))]) C dX1_listed_20 (by decide) rfl ?_
    refine g_iload C dX1_listed_22 0 rfl ?_
    refine g_if_eq (tgt := 30) C dX1_listed_24 (by decide) (fun c24 => ?_) (fun c24 => ?_)
    · skip
      exact absurd c24 (by decide +kernel)
    · skip
      refine g_iload C dX1_listed_27 0 rfl ?_
      exact g_xiret C rfl (⟨S, L, q, rfl, hS, rfl, hL, rfl, hq, Or.inr (Or.inl (⟨d9, rfl, rfl⟩))⟩) (Nat.le_of_ble_eq_true rfl) (Nat.le_of_ble_eq_true rfl) dX1_listed_29
  · skip
    rw [v9] at h17a
    subst h17a
    have ho9 := hI.labP e9
    refine g_istore (lv' := [(4, .int (nI 0)), (0, .ref (a 0)), (1, .int (nI S)), (2, .int (nI L)), (3, .int (nI q))]) C dX1_listed_20 (by decide) rfl ?_
    refine g_iload C dX1_listed_22 0 rfl ?_
    refine g_if_eq (tgt := 30) C dX1_listed_24 (by decide) (fun c24 => ?_) (fun c24 => ?_)
    · skip
      have c24 := cz_eq0 (by omega) c24
      refine g_aload_n C dX1_listed_30 rfl 1 rfl ?_
      refine g_iload_n C dX1_listed_31 rfl 3 rfl ?_
      refine g_iload_n C dX1_listed_32 rfl 4 rfl ?_
      refine g_Si (st := [.ref (a 0)]) C (k_X1_addressOf l D cy zs (wC cy a (zs 0) lab quo spe md ed lis lc see (va_up cnt S 0) Fs) L q ) gX1_listed_X1_addressOf rfl ydX1_addressOf ⟨Nat.le_of_ble_eq_true rfl, Nat.le_of_ble_eq_true rfl⟩ ⟨Nat.le_of_ble_eq_true rfl, Nat.le_of_ble_eq_true rfl⟩ rfl (Nat.le_of_ble_eq_true rfl) dX1_listed_33 (fun r33 w33 h33 => ?_)
      obtain ⟨h33a, h33b⟩ := h33
      subst h33a
      have h33b := h33b.symm
      subst h33b
      refine g_iload_n C dX1_listed_36 rfl 2 rfl ?_
      refine g_Vv (ci := 2) (st := []) C (k_X1_showFilesIn l D cy zs a lab quo spe md ed lis lc see (va_up cnt S 0) Fs hI11 ((16 * L) + q) S hS (by omega) e9 ho9 (va_up_self _ _ _)) gX1_listed_X1_showFilesIn rfl ⟨rfl, ydX1_showFilesIn⟩ 0 rfl rfl ⟨Nat.le_of_ble_eq_true rfl, Nat.le_of_ble_eq_true rfl⟩ ⟨Nat.le_of_ble_eq_true rfl, Nat.le_of_ble_eq_true rfl⟩ rfl (Nat.le_of_ble_eq_true rfl) dX1_listed_37 (fun w37 h37 => ?_)
      obtain ⟨f9, hsg, h37⟩ := h37
      rw [up_up] at h37
      subst h37
      have hl9 : (shF Fs (16 * L + q) o).length ≤ 200 := by have h8 := shF_le (Fs := Fs) (key := (16 * L + q)) (o := o) Fs.length; rw [List.take_length] at h8; omega
      have hI9 : CI lab quo spe ed lis lc (va_up cnt S (shF Fs (16 * L + q) o).length) Fs := hI.upCnt hl9
      refine g_aload_n C dX1_listed_40 rfl 1 rfl ?_
      refine g_get (ci := 2) (v := .ref (a 7)) C iwX1_listed_X1 0 rfl rfl 7 (by decide) (C.hw (List.mem_cons_of_mem _ (List.mem_append_left _ (List.mem_append_left _ (List.mem_append_left _ (List.mem_append_left _ (List.mem_append_left _ (List.mem_of_getElem? (i := 0) rfl)))))))) (fun _ h9 => h9) rfl dX1_listed_41 ?_
      refine g_iload_n C dX1_listed_44 rfl 2 rfl ?_
      refine g_ialdN (nn := 16) (j := S) (f := (va_up cnt S (shF Fs (16 * L + q) o).length)) C 7 rfl (by omega) n31_16 dX1_listed_45 ?_
      have b45 := hI9.cntP S
      exact g_xiret C rfl (⟨S, L, q, rfl, hS, rfl, hL, rfl, hq, Or.inr (Or.inr (⟨o, e9, d9, by rw [va_up_self], f9, hsg, rfl⟩))⟩) (Nat.le_of_ble_eq_true rfl) (Nat.le_of_ble_eq_true rfl) dX1_listed_46
    · skip
      exact absurd rfl c24
abbrev rmX1_release : Room := { frames := 8, cells := 12, slots := 500, locals := 220 }
theorem ydX1_release : yX1_release.cls ≠ "java/lang/invoke/MethodHandle" ∧ yX1_release.cls ≠ "java/lang/invoke/VarHandle" ∧ (parseMethodDescriptor yX1_release.desc).map (fun d => d.parameters.length) = some 4 := by decide +kernel
theorem iwX1_release_X1 : ∀ w ∈ u_ws RX1 TX1 8, w ∈ wsX1_release := fun _ h => (List.mem_cons_of_mem _ (List.mem_append_left _ (List.mem_append_left _ (List.mem_append_left _ (List.mem_append_left _ (List.mem_append_right _ h))))))
theorem iwX1_release_X0 : ∀ w ∈ u_ws RX0 TX0 6, w ∈ wsX1_release := fun _ h => (List.mem_cons_of_mem _ (List.mem_append_left _ (List.mem_append_left _ (List.mem_append_left _ (List.mem_append_right _ h)))))
set_option maxRecDepth 100000 in
set_option maxHeartbeats 4000000 in
theorem k_X1_release (l : Launch) (D : va_G) (cy : Nat → ClassId) (zs : Nat → Nat) (hst : l.stackTraces = false) (a : Nat → Nat) (lab : Nat → Option Nat) (quo : Nat → Nat) (spe : Nat → Nat) (md : Int32) (ed : Option (Nat × Nat)) (lis : Nat → Nat) (lc : Nat) (see : Nat → Nat → Int32) (cnt : Nat → Nat) (Fs : List FT) (hI : CI lab quo spe ed lis lc cnt Fs)  (p0 : Int32) (p1 : Int32) (p2 : Int32) (p3 : Int32) (hne : ∀ S L T, isC lis lc ((((S * 1024) + L) * 1024) + T) = true → L < 1024 → T < 1024 → ¬ L = T) : Xi l D cy zs yX1_release wsX1_release rmX1_release [.ref (a 0), .int p0, .int p1, .int p2, .int p3] (wC cy a (zs 0) lab quo spe md ed lis lc see cnt Fs) (fun r w => ∃ (S : Nat) (L : Nat) (q : Nat) (T : Nat), p0 = nI S ∧ S < 16 ∧ p1 = nI L ∧ L < 1024 ∧ p2 = nI q ∧ q < 16 ∧ p3 = nI T ∧ T < 1024 ∧ ((lab S = none ∧ r = -1 ∧ w = (wC cy a (zs 0) lab quo spe md ed lis lc see (va_up cnt S 0) Fs)) ∨ ((lab S).isSome = true ∧ isC lis lc ((((S * 1024) + L) * 1024) + T) = false ∧ r = -2 ∧ w = (wC cy a (zs 0) lab quo spe md ed lis lc see (va_up cnt S 0) Fs)) ∨ ((lab S).isSome = true ∧ isC lis lc ((((S * 1024) + L) * 1024) + T) = true ∧ plF Fs (16 * L + q) = none ∧ r = nI 0 ∧ w = (wC cy a (zs 0) lab quo spe md ed lis lc see (va_up cnt S 0) Fs)) ∨ (∃ (i1 ob1 ar1 ky1 : Nat) (fo1 : Int32) (ce1 : Nat → Int32) (ct1 : Nat) (gi1 : Bool) (gv1 : Nat → Bool), (lab S).isSome = true ∧ isC lis lc ((((S * 1024) + L) * 1024) + T) = true ∧ plF Fs (16 * L + q) = some i1 ∧ Fs[i1]? = some (ob1, ar1, ky1, fo1, ce1, ct1, gi1, gv1) ∧ decide ((usF spe Fs T + (1 + ct1)) - repF Fs (16 * T + q) ≤ quo T) = false ∧ r = -3 ∧ w = (wC cy a (zs 0) lab quo spe md ed lis lc see (va_up cnt S 0) Fs)) ∨ (∃ (i1 ob1 ar1 ky1 : Nat) (fo1 : Int32) (ce1 : Nat → Int32) (ct1 : Nat) (gi1 : Bool) (gv1 : Nat → Bool), (lab S).isSome = true ∧ isC lis lc ((((S * 1024) + L) * 1024) + T) = true ∧ plF Fs (16 * L + q) = some i1 ∧ Fs[i1]? = some (ob1, ar1, ky1, fo1, ce1, ct1, gi1, gv1) ∧ decide ((usF spe Fs T + (1 + ct1)) - repF Fs (16 * T + q) ≤ quo T) = true ∧ plF Fs (16 * T + q) = none ∧ Fs.length < 200 ∧ r = nI 1 ∧ ∃ pl ed9 q1 q2, insAt Fs (16 * T + q) pl ∧ edOk ed9 (Fs.length + 1) ∧ w = (wC cy a (zs 0) lab quo spe (md + nI 1) ed9 lis lc see (va_up cnt S 0) (Fs.insertIdx pl (q1, q2, (16 * T + q), -1, va_cpy ce1 (fun _ => 0) 0 0 ct1, ct1, false, (fun _ => false))))) ∨ (∃ (i1 ob1 ar1 ky1 : Nat) (fo1 : Int32) (ce1 : Nat → Int32) (ct1 : Nat) (gi1 : Bool) (gv1 : Nat → Bool), (lab S).isSome = true ∧ isC lis lc ((((S * 1024) + L) * 1024) + T) = true ∧ plF Fs (16 * L + q) = some i1 ∧ Fs[i1]? = some (ob1, ar1, ky1, fo1, ce1, ct1, gi1, gv1) ∧ decide ((usF spe Fs T + (1 + ct1)) - repF Fs (16 * T + q) ≤ quo T) = true ∧ ∃ (i2 ob2 ar2 ky2 : Nat) (fo2 : Int32) (ce2 : Nat → Int32) (ct2 : Nat) (gi2 : Bool) (gv2 : Nat → Bool), plF Fs (16 * T + q) = some i2 ∧ Fs[i2]? = some (ob2, ar2, ky2, fo2, ce2, ct2, gi2, gv2) ∧ r = nI 1 ∧ w = (wC cy a (zs 0) lab quo spe md ed lis lc see (va_up cnt S 0) (Fs.set i2 (ob2, ar2, ky2, fo2, va_cpy ce1 ce2 0 0 ct1, ct1, false, (fun _ => false))))))) (fun E w => ((!inB p0 16 || !inB p1 1024 || !inB p2 16 || !inB p3 1024) = true ∧ E = "java/lang/IllegalArgumentException" ∧ w = (wC cy a (zs 0) lab quo spe md ed lis lc see cnt Fs)) ∨ (E = "java/lang/UnsupportedOperationException" ∧ w = (wC cy a (zs 0) lab quo spe md ed lis lc see cnt Fs) ∧ ∃ (S : Nat) (L : Nat) (q : Nat) (T : Nat), p0 = nI S ∧ S < 16 ∧ p1 = nI L ∧ L < 1024 ∧ p2 = nI q ∧ q < 16 ∧ p3 = nI T ∧ T < 1024 ∧ (∃ (i1 ob1 ar1 ky1 : Nat) (fo1 : Int32) (ce1 : Nat → Int32) (ct1 : Nat) (gi1 : Bool) (gv1 : Nat → Bool), (lab S).isSome = true ∧ isC lis lc ((((S * 1024) + L) * 1024) + T) = true ∧ plF Fs (16 * L + q) = some i1 ∧ Fs[i1]? = some (ob1, ar1, ky1, fo1, ce1, ct1, gi1, gv1) ∧ decide ((usF spe Fs T + (1 + ct1)) - repF Fs (16 * T + q) ≤ quo T) = true ∧ plF Fs (16 * T + q) = none ∧ 200 ≤ Fs.length))) := by
  refine Xi.of (lv := [(0, .ref (a 0)), (1, .int p0), (2, .int p1), (3, .int p2), (4, .int p3)]) RX1 ⟨by decide, rfl⟩ rfl (Nat.le_of_ble_eq_true rfl) rfl ?_
  intro p e s m args below meth c A C hnm hno
  have hlc := hI.lcP
  have hln := hI.lenP
  refine g_iload_n C dX1_release_0 rfl 1 rfl ?_
  refine g_XSv (st := []) C (k_X1_requireSubject l D cy zs hst (wC cy a (zs 0) lab quo spe md ed lis lc see cnt Fs) p0 ) gX1_release_X1_requireSubject rfl ydX1_requireSubject ⟨Nat.le_of_ble_eq_true rfl, Nat.le_of_ble_eq_true rfl⟩ ⟨Nat.le_of_ble_eq_true rfl, Nat.le_of_ble_eq_true rfl⟩ rfl (Nat.le_of_ble_eq_true rfl) dX1_release_1 (fun E1 w1 h1 => ?_) (fun w1 h1 => ?_)
  · skip
    obtain ⟨h1a, h1b, h1c⟩ := h1
    subst h1b
    subst h1c
    exact g_xout C hno (Or.inl ⟨(by simp [h1a]), rfl, rfl⟩) (Nat.le_of_ble_eq_true rfl) (Nat.le_of_ble_eq_true rfl)
  obtain ⟨h1, h1b⟩ := h1
  have h1b := h1b.symm
  subst h1b
  obtain ⟨S, hS, eS⟩ := inB_of (Nat.le_of_ble_eq_true rfl) h1
  subst eS
  refine g_iload_n C dX1_release_4 rfl 2 rfl ?_
  refine g_iload_n C dX1_release_5 rfl 3 rfl ?_
  refine g_XSv (st := []) C (k_X1_requireFile l D cy zs hst (wC cy a (zs 0) lab quo spe md ed lis lc see cnt Fs) p1 p2 ) gX1_release_X1_requireFile rfl ydX1_requireFile ⟨Nat.le_of_ble_eq_true rfl, Nat.le_of_ble_eq_true rfl⟩ ⟨Nat.le_of_ble_eq_true rfl, Nat.le_of_ble_eq_true rfl⟩ rfl (Nat.le_of_ble_eq_true rfl) dX1_release_6 (fun E6 w6 h6 => ?_) (fun w6 h6 => ?_)
  · skip
    obtain ⟨h6a, h6b, h6c⟩ := h6
    subst h6b
    subst h6c
    exact g_xout C hno (Or.inl ⟨(by have h8 := reqF h6a; simp only [Bool.or_eq_true] at h8 ⊢; rcases h8 with h8 | h8 <;> simp [h8]), rfl, rfl⟩) (Nat.le_of_ble_eq_true rfl) (Nat.le_of_ble_eq_true rfl)
  obtain ⟨h6, h6b⟩ := h6
  have h6b := h6b.symm
  subst h6b
  obtain ⟨g6a, g6b⟩ := (Bool.and_eq_true _ _).mp h6
  obtain ⟨L, hL, eL⟩ := inB_of (Nat.le_of_ble_eq_true rfl) g6a
  subst eL
  obtain ⟨q, hq, eq⟩ := inB_of (Nat.le_of_ble_eq_true rfl) g6b
  subst eq
  refine g_iload C dX1_release_9 4 rfl ?_
  refine g_XSv (st := []) C (k_X1_requireLabel l D cy zs hst (wC cy a (zs 0) lab quo spe md ed lis lc see cnt Fs) p3 ) gX1_release_X1_requireLabel rfl ydX1_requireLabel ⟨Nat.le_of_ble_eq_true rfl, Nat.le_of_ble_eq_true rfl⟩ ⟨Nat.le_of_ble_eq_true rfl, Nat.le_of_ble_eq_true rfl⟩ rfl (Nat.le_of_ble_eq_true rfl) dX1_release_11 (fun E11 w11 h11 => ?_) (fun w11 h11 => ?_)
  · skip
    obtain ⟨h11a, h11b, h11c⟩ := h11
    subst h11b
    subst h11c
    exact g_xout C hno (Or.inl ⟨(by simp [h11a]), rfl, rfl⟩) (Nat.le_of_ble_eq_true rfl) (Nat.le_of_ble_eq_true rfl)
  obtain ⟨h11, h11b⟩ := h11
  have h11b := h11b.symm
  subst h11b
  obtain ⟨T, hT, eT⟩ := inB_of (Nat.le_of_ble_eq_true rfl) h11
  subst eT
  refine g_aload_n C dX1_release_14 rfl 0 rfl ?_
  refine g_iload_n C dX1_release_15 rfl 1 rfl ?_
  refine g_iload_n C dX1_release_16 rfl 2 rfl ?_
  refine g_iload_n C dX1_release_17 rfl 3 rfl ?_
  refine g_iload C dX1_release_18 4 rfl ?_
  refine g_Vi (ci := 2) (st := []) C (k_X1_answerRelease l D cy zs a lab quo spe md ed lis lc see cnt Fs hI S L q T hS hL hq hT (fun h9 => hne S L T h9 hL hT)) gX1_release_X1_answerRelease rfl ⟨rfl, ydX1_answerRelease⟩ 0 rfl rfl ⟨Nat.le_of_ble_eq_true rfl, Nat.le_of_ble_eq_true rfl⟩ ⟨Nat.le_of_ble_eq_true rfl, Nat.le_of_ble_eq_true rfl⟩ rfl (Nat.le_of_ble_eq_true rfl) dX1_release_20 (fun r20 w20 h20 => ?_)
  rcases h20 with h20 | h20 | h20 | h20 | h20 | h20 | h20
  · skip
    obtain ⟨y1, hrR, hwR⟩ := h20
    subst hrR hwR
    refine g_istore (lv' := [(5, .int (-1)), (0, .ref (a 0)), (1, .int (nI S)), (2, .int (nI L)), (3, .int (nI q)), (4, .int (nI T))]) C dX1_release_23 (by decide) rfl ?_
    refine g_iload C dX1_release_25 0 rfl ?_
    refine g_bipush (v := (-4)) C dX1_release_27 (by decide +kernel) ?_
    refine g_icmp_ne (tgt := 42) C dX1_release_29 (by decide) (fun c29 => ?_) (fun c29 => ?_)
    · skip
      refine g_aload_n C dX1_release_42 rfl 1 rfl ?_
      refine g_iload_n C dX1_release_43 rfl 2 rfl ?_
      refine g_Vv (ci := 2) (st := []) C (k_X1_forgetSeen l D cy zs a lab quo spe md ed lis lc see cnt Fs hI S (by omega)) gX1_release_X1_forgetSeen rfl ⟨rfl, ydX1_forgetSeen⟩ 0 rfl rfl ⟨Nat.le_of_ble_eq_true rfl, Nat.le_of_ble_eq_true rfl⟩ ⟨Nat.le_of_ble_eq_true rfl, Nat.le_of_ble_eq_true rfl⟩ rfl (Nat.le_of_ble_eq_true rfl) dX1_release_44 (fun w44 h44 => ?_)
      subst h44
      have hI44 : CI lab quo spe ed lis lc (va_up cnt S 0) Fs := hI.upCnt (by omega)
      refine g_iload C dX1_release_47 0 rfl ?_
      exact g_xiret C rfl (⟨S, L, q, T, rfl, hS, rfl, hL, rfl, hq, rfl, hT, Or.inl (⟨y1, rfl, rfl⟩)⟩) (Nat.le_of_ble_eq_true rfl) (Nat.le_of_ble_eq_true rfl) dX1_release_49
    · skip
      exact absurd c29 (by decide +kernel)
  · skip
    obtain ⟨y1, y2, hrR, hwR⟩ := h20
    subst hrR hwR
    refine g_istore (lv' := [(5, .int (-2)), (0, .ref (a 0)), (1, .int (nI S)), (2, .int (nI L)), (3, .int (nI q)), (4, .int (nI T))]) C dX1_release_23 (by decide) rfl ?_
    refine g_iload C dX1_release_25 0 rfl ?_
    refine g_bipush (v := (-4)) C dX1_release_27 (by decide +kernel) ?_
    refine g_icmp_ne (tgt := 42) C dX1_release_29 (by decide) (fun c29 => ?_) (fun c29 => ?_)
    · skip
      refine g_aload_n C dX1_release_42 rfl 1 rfl ?_
      refine g_iload_n C dX1_release_43 rfl 2 rfl ?_
      refine g_Vv (ci := 2) (st := []) C (k_X1_forgetSeen l D cy zs a lab quo spe md ed lis lc see cnt Fs hI S (by omega)) gX1_release_X1_forgetSeen rfl ⟨rfl, ydX1_forgetSeen⟩ 0 rfl rfl ⟨Nat.le_of_ble_eq_true rfl, Nat.le_of_ble_eq_true rfl⟩ ⟨Nat.le_of_ble_eq_true rfl, Nat.le_of_ble_eq_true rfl⟩ rfl (Nat.le_of_ble_eq_true rfl) dX1_release_44 (fun w44 h44 => ?_)
      subst h44
      have hI44 : CI lab quo spe ed lis lc (va_up cnt S 0) Fs := hI.upCnt (by omega)
      refine g_iload C dX1_release_47 0 rfl ?_
      exact g_xiret C rfl (⟨S, L, q, T, rfl, hS, rfl, hL, rfl, hq, rfl, hT, Or.inr (Or.inl (⟨y1, y2, rfl, rfl⟩))⟩) (Nat.le_of_ble_eq_true rfl) (Nat.le_of_ble_eq_true rfl) dX1_release_49
    · skip
      exact absurd c29 (by decide +kernel)
  · skip
    obtain ⟨y1, y2, y3, hrR, hwR⟩ := h20
    subst hrR hwR
    refine g_istore (lv' := [(5, .int (nI 0)), (0, .ref (a 0)), (1, .int (nI S)), (2, .int (nI L)), (3, .int (nI q)), (4, .int (nI T))]) C dX1_release_23 (by decide) rfl ?_
    refine g_iload C dX1_release_25 0 rfl ?_
    refine g_bipush (v := (-4)) C dX1_release_27 (by decide +kernel) ?_
    refine g_icmp_ne (tgt := 42) C dX1_release_29 (by decide) (fun c29 => ?_) (fun c29 => ?_)
    · skip
      refine g_aload_n C dX1_release_42 rfl 1 rfl ?_
      refine g_iload_n C dX1_release_43 rfl 2 rfl ?_
      refine g_Vv (ci := 2) (st := []) C (k_X1_forgetSeen l D cy zs a lab quo spe md ed lis lc see cnt Fs hI S (by omega)) gX1_release_X1_forgetSeen rfl ⟨rfl, ydX1_forgetSeen⟩ 0 rfl rfl ⟨Nat.le_of_ble_eq_true rfl, Nat.le_of_ble_eq_true rfl⟩ ⟨Nat.le_of_ble_eq_true rfl, Nat.le_of_ble_eq_true rfl⟩ rfl (Nat.le_of_ble_eq_true rfl) dX1_release_44 (fun w44 h44 => ?_)
      subst h44
      have hI44 : CI lab quo spe ed lis lc (va_up cnt S 0) Fs := hI.upCnt (by omega)
      refine g_iload C dX1_release_47 0 rfl ?_
      exact g_xiret C rfl (⟨S, L, q, T, rfl, hS, rfl, hL, rfl, hq, rfl, hT, Or.inr (Or.inr (Or.inl (⟨y1, y2, y3, rfl, rfl⟩)))⟩) (Nat.le_of_ble_eq_true rfl) (Nat.le_of_ble_eq_true rfl) dX1_release_49
    · skip
      exact absurd c29 (by decide +kernel)
  · skip
    obtain ⟨i1, ob1, ar1, ky1, fo1, ce1, ct1, gi1, gv1, y1, y2, y3, y4, y5, hrR, hwR⟩ := h20
    subst hrR hwR
    refine g_istore (lv' := [(5, .int (-3)), (0, .ref (a 0)), (1, .int (nI S)), (2, .int (nI L)), (3, .int (nI q)), (4, .int (nI T))]) C dX1_release_23 (by decide) rfl ?_
    refine g_iload C dX1_release_25 0 rfl ?_
    refine g_bipush (v := (-4)) C dX1_release_27 (by decide +kernel) ?_
    refine g_icmp_ne (tgt := 42) C dX1_release_29 (by decide) (fun c29 => ?_) (fun c29 => ?_)
    · skip
      refine g_aload_n C dX1_release_42 rfl 1 rfl ?_
      refine g_iload_n C dX1_release_43 rfl 2 rfl ?_
      refine g_Vv (ci := 2) (st := []) C (k_X1_forgetSeen l D cy zs a lab quo spe md ed lis lc see cnt Fs hI S (by omega)) gX1_release_X1_forgetSeen rfl ⟨rfl, ydX1_forgetSeen⟩ 0 rfl rfl ⟨Nat.le_of_ble_eq_true rfl, Nat.le_of_ble_eq_true rfl⟩ ⟨Nat.le_of_ble_eq_true rfl, Nat.le_of_ble_eq_true rfl⟩ rfl (Nat.le_of_ble_eq_true rfl) dX1_release_44 (fun w44 h44 => ?_)
      subst h44
      have hI44 : CI lab quo spe ed lis lc (va_up cnt S 0) Fs := hI.upCnt (by omega)
      refine g_iload C dX1_release_47 0 rfl ?_
      exact g_xiret C rfl (⟨S, L, q, T, rfl, hS, rfl, hL, rfl, hq, rfl, hT, Or.inr (Or.inr (Or.inr (Or.inl (⟨i1, ob1, ar1, ky1, fo1, ce1, ct1, gi1, gv1, y1, y2, y3, y4, y5, rfl, rfl⟩))))⟩) (Nat.le_of_ble_eq_true rfl) (Nat.le_of_ble_eq_true rfl) dX1_release_49
    · skip
      exact absurd c29 (by decide +kernel)
  · skip
    obtain ⟨i1, ob1, ar1, ky1, fo1, ce1, ct1, gi1, gv1, y1, y2, y3, y4, y5, y6, y7, hrR, hwR⟩ := h20
    subst hrR hwR
    refine g_istore (lv' := [(5, .int (-4)), (0, .ref (a 0)), (1, .int (nI S)), (2, .int (nI L)), (3, .int (nI q)), (4, .int (nI T))]) C dX1_release_23 (by decide) rfl ?_
    refine g_iload C dX1_release_25 0 rfl ?_
    refine g_bipush (v := (-4)) C dX1_release_27 (by decide +kernel) ?_
    refine g_icmp_ne (tgt := 42) C dX1_release_29 (by decide) (fun c29 => ?_) (fun c29 => ?_)
    · skip
      exact absurd rfl c29
    · skip
      exact g_throwU C rfl hst 2 (by decide) hno (C.hw (List.mem_cons_of_mem _ (List.mem_append_left _ (List.mem_append_left _ (List.mem_append_left _ (List.mem_append_left _ (List.mem_append_left _ (List.mem_append_left _ (List.mem_of_getElem? (i := 0) rfl))))))))) (C.hw (List.mem_cons_of_mem _ (List.mem_append_left _ (List.mem_append_left _ (List.mem_append_left _ (List.mem_append_left _ (List.mem_append_left _ (List.mem_append_left _ (List.mem_of_getElem? (i := 1) rfl))))))))) (fun _ h9 => (List.mem_cons_of_mem _ (List.mem_append_left _ (List.mem_append_right _ h9)))) dX1_release_32 dX1_release_35 dX1_release_36 dX1_release_38 dX1_release_41 (Nat.le_of_ble_eq_true rfl) (Nat.le_of_ble_eq_true rfl) (Nat.le_of_ble_eq_true rfl) (Nat.le_of_ble_eq_true rfl) (Or.inr ⟨rfl, rfl, S, L, q, T, rfl, hS, rfl, hL, rfl, hq, rfl, hT, i1, ob1, ar1, ky1, fo1, ce1, ct1, gi1, gv1, y1, y2, y3, y4, y5, y6, y7⟩) (Nat.le_of_ble_eq_true rfl) (Nat.le_of_ble_eq_true rfl)
  · skip
    obtain ⟨i1, ob1, ar1, ky1, fo1, ce1, ct1, gi1, gv1, y1, y2, y3, y4, y5, y6, y7, hrR, pl, ed9, q1, q2, hins, hek, hwR⟩ := h20
    subst hrR hwR
    have hb9 := hI.flP y4
    have hI9 : CI lab quo spe ed9 lis lc cnt (Fs.insertIdx pl (q1, q2, (16 * T + q), -1, va_cpy ce1 (fun _ => 0) 0 0 ct1, ct1, false, (fun _ => false))) := hI.ins hins.1 y7 ⟨(show (16 * T + q) < 16384 by omega), (show ct1 ≤ 24 from hb9.2)⟩ hek
    refine g_istore (lv' := [(5, .int (nI 1)), (0, .ref (a 0)), (1, .int (nI S)), (2, .int (nI L)), (3, .int (nI q)), (4, .int (nI T))]) C dX1_release_23 (by decide) rfl ?_
    refine g_iload C dX1_release_25 0 rfl ?_
    refine g_bipush (v := (-4)) C dX1_release_27 (by decide +kernel) ?_
    refine g_icmp_ne (tgt := 42) C dX1_release_29 (by decide) (fun c29 => ?_) (fun c29 => ?_)
    · skip
      refine g_aload_n C dX1_release_42 rfl 1 rfl ?_
      refine g_iload_n C dX1_release_43 rfl 2 rfl ?_
      refine g_Vv (ci := 2) (st := []) C (k_X1_forgetSeen l D cy zs a lab quo spe (md + nI 1) ed9 lis lc see cnt (Fs.insertIdx pl (q1, q2, (16 * T + q), -1, va_cpy ce1 (fun _ => 0) 0 0 ct1, ct1, false, (fun _ => false))) hI9 S (by omega)) gX1_release_X1_forgetSeen rfl ⟨rfl, ydX1_forgetSeen⟩ 0 rfl rfl ⟨Nat.le_of_ble_eq_true rfl, Nat.le_of_ble_eq_true rfl⟩ ⟨Nat.le_of_ble_eq_true rfl, Nat.le_of_ble_eq_true rfl⟩ rfl (Nat.le_of_ble_eq_true rfl) dX1_release_44 (fun w44 h44 => ?_)
      subst h44
      have hI44 : CI lab quo spe ed9 lis lc (va_up cnt S 0) (Fs.insertIdx pl (q1, q2, (16 * T + q), -1, va_cpy ce1 (fun _ => 0) 0 0 ct1, ct1, false, (fun _ => false))) := hI9.upCnt (by omega)
      refine g_iload C dX1_release_47 0 rfl ?_
      exact g_xiret C rfl (⟨S, L, q, T, rfl, hS, rfl, hL, rfl, hq, rfl, hT, Or.inr (Or.inr (Or.inr (Or.inr (Or.inl (⟨i1, ob1, ar1, ky1, fo1, ce1, ct1, gi1, gv1, y1, y2, y3, y4, y5, y6, y7, rfl, pl, ed9, q1, q2, hins, hek, rfl⟩)))))⟩) (Nat.le_of_ble_eq_true rfl) (Nat.le_of_ble_eq_true rfl) dX1_release_49
    · skip
      exact absurd c29 (by decide +kernel)
  · skip
    obtain ⟨i1, ob1, ar1, ky1, fo1, ce1, ct1, gi1, gv1, y1, y2, y3, y4, y5, i2, ob2, ar2, ky2, fo2, ce2, ct2, gi2, gv2, y6, y7, hrR, hwR⟩ := h20
    subst hrR hwR
    have hb9 := hI.flP y4
    have hb8 := hI.flP y7
    have hI9 : CI lab quo spe ed lis lc cnt (Fs.set i2 (ob2, ar2, ky2, fo2, va_cpy ce1 ce2 0 0 ct1, ct1, false, (fun _ => false))) := hI.upF hb8.1 hb9.2
    refine g_istore (lv' := [(5, .int (nI 1)), (0, .ref (a 0)), (1, .int (nI S)), (2, .int (nI L)), (3, .int (nI q)), (4, .int (nI T))]) C dX1_release_23 (by decide) rfl ?_
    refine g_iload C dX1_release_25 0 rfl ?_
    refine g_bipush (v := (-4)) C dX1_release_27 (by decide +kernel) ?_
    refine g_icmp_ne (tgt := 42) C dX1_release_29 (by decide) (fun c29 => ?_) (fun c29 => ?_)
    · skip
      refine g_aload_n C dX1_release_42 rfl 1 rfl ?_
      refine g_iload_n C dX1_release_43 rfl 2 rfl ?_
      refine g_Vv (ci := 2) (st := []) C (k_X1_forgetSeen l D cy zs a lab quo spe md ed lis lc see cnt (Fs.set i2 (ob2, ar2, ky2, fo2, va_cpy ce1 ce2 0 0 ct1, ct1, false, (fun _ => false))) hI9 S (by omega)) gX1_release_X1_forgetSeen rfl ⟨rfl, ydX1_forgetSeen⟩ 0 rfl rfl ⟨Nat.le_of_ble_eq_true rfl, Nat.le_of_ble_eq_true rfl⟩ ⟨Nat.le_of_ble_eq_true rfl, Nat.le_of_ble_eq_true rfl⟩ rfl (Nat.le_of_ble_eq_true rfl) dX1_release_44 (fun w44 h44 => ?_)
      subst h44
      have hI44 : CI lab quo spe ed lis lc (va_up cnt S 0) (Fs.set i2 (ob2, ar2, ky2, fo2, va_cpy ce1 ce2 0 0 ct1, ct1, false, (fun _ => false))) := hI9.upCnt (by omega)
      refine g_iload C dX1_release_47 0 rfl ?_
      exact g_xiret C rfl (⟨S, L, q, T, rfl, hS, rfl, hL, rfl, hq, rfl, hT, Or.inr (Or.inr (Or.inr (Or.inr (Or.inr (⟨i1, ob1, ar1, ky1, fo1, ce1, ct1, gi1, gv1, y1, y2, y3, y4, y5, i2, ob2, ar2, ky2, fo2, ce2, ct2, gi2, gv2, y6, y7, rfl, rfl⟩)))))⟩) (Nat.le_of_ble_eq_true rfl) (Nat.le_of_ble_eq_true rfl) dX1_release_49
    · skip
      exact absurd c29 (by decide +kernel)
abbrev rmX1_seen : Room := { frames := 7, cells := 12, slots := 500, locals := 120 }
theorem ydX1_seen : yX1_seen.cls ≠ "java/lang/invoke/MethodHandle" ∧ yX1_seen.cls ≠ "java/lang/invoke/VarHandle" ∧ (parseMethodDescriptor yX1_seen.desc).map (fun d => d.parameters.length) = some 2 := by decide +kernel
theorem iwX1_seen_X1 : ∀ w ∈ u_ws RX1 TX1 8, w ∈ wsX1_seen := fun _ h => (List.mem_cons_of_mem _ (List.mem_append_left _ (List.mem_append_right _ h)))
set_option maxRecDepth 100000 in
set_option maxHeartbeats 4000000 in
theorem k_X1_seen (l : Launch) (D : va_G) (cy : Nat → ClassId) (zs : Nat → Nat) (hst : l.stackTraces = false) (a : Nat → Nat) (lab : Nat → Option Nat) (quo : Nat → Nat) (spe : Nat → Nat) (md : Int32) (ed : Option (Nat × Nat)) (lis : Nat → Nat) (lc : Nat) (see : Nat → Nat → Int32) (cnt : Nat → Nat) (Fs : List FT) (hI : CI lab quo spe ed lis lc cnt Fs)  (p0 : Int32) (p1 : Int32)  : Xi l D cy zs yX1_seen wsX1_seen rmX1_seen [.ref (a 0), .int p0, .int p1] (wC cy a (zs 0) lab quo spe md ed lis lc see cnt Fs) (fun r w => ∃ (S : Nat), p0 = nI S ∧ S < 16 ∧ ((r = seenV p1 (cnt S) (see S) ∧ w = (wC cy a (zs 0) lab quo spe md ed lis lc see cnt Fs)))) (fun E w => ((!inB p0 16) = true ∧ E = "java/lang/IllegalArgumentException" ∧ w = (wC cy a (zs 0) lab quo spe md ed lis lc see cnt Fs))) := by
  refine Xi.of (lv := [(0, .ref (a 0)), (1, .int p0), (2, .int p1)]) RX1 ⟨by decide, rfl⟩ rfl (Nat.le_of_ble_eq_true rfl) rfl ?_
  intro p e s m args below meth c A C hnm hno
  have hlc := hI.lcP
  have hln := hI.lenP
  refine g_iload_n C dX1_seen_0 rfl 1 rfl ?_
  refine g_XSv (st := []) C (k_X1_requireSubject l D cy zs hst (wC cy a (zs 0) lab quo spe md ed lis lc see cnt Fs) p0 ) gX1_seen_X1_requireSubject rfl ydX1_requireSubject ⟨Nat.le_of_ble_eq_true rfl, Nat.le_of_ble_eq_true rfl⟩ ⟨Nat.le_of_ble_eq_true rfl, Nat.le_of_ble_eq_true rfl⟩ rfl (Nat.le_of_ble_eq_true rfl) dX1_seen_1 (fun E1 w1 h1 => ?_) (fun w1 h1 => ?_)
  · skip
    obtain ⟨h1a, h1b, h1c⟩ := h1
    subst h1b
    subst h1c
    exact g_xout C hno (⟨(by simp [h1a]), rfl, rfl⟩) (Nat.le_of_ble_eq_true rfl) (Nat.le_of_ble_eq_true rfl)
  obtain ⟨h1, h1b⟩ := h1
  have h1b := h1b.symm
  subst h1b
  obtain ⟨S, hS, eS⟩ := inB_of (Nat.le_of_ble_eq_true rfl) h1
  subst eS
  refine g_iload_n C dX1_seen_4 rfl 2 rfl ?_
  refine g_if_lt (tgt := 29) C dX1_seen_5 (by decide) (fun c5 => ?_) (fun c5 => ?_)
  · skip
    refine g_iconst (v := nI 0) C dX1_seen_29 (by decide +kernel) ?_
    exact g_xiret C rfl (⟨S, rfl, hS, ⟨seenV_f c5, rfl⟩⟩) (Nat.le_of_ble_eq_true rfl) (Nat.le_of_ble_eq_true rfl) dX1_seen_30
  · skip
    obtain ⟨j, hj, ej⟩ := nI_of c5
    subst ej
    refine g_iload_n C dX1_seen_8 rfl 2 rfl ?_
    refine g_aload_n C dX1_seen_9 rfl 0 rfl ?_
    refine g_get (ci := 2) (v := .ref (a 7)) C iwX1_seen_X1 0 rfl rfl 7 (by decide) (C.hw (List.mem_cons_of_mem _ (List.mem_append_left _ (List.mem_append_left _ (List.mem_of_getElem? (i := 0) rfl))))) (fun _ h9 => h9) rfl dX1_seen_10 ?_
    refine g_iload_n C dX1_seen_13 rfl 1 rfl ?_
    refine g_ialdN (nn := 16) (j := S) (f := cnt) C 7 rfl (by omega) n31_16 dX1_seen_14 ?_
    have b14 := hI.cntP S
    have hcb := hI.cntP S
    refine g_icmp_ge (tgt := 29) C dX1_seen_15 (by decide) (fun c15 => ?_) (fun c15 => ?_)
    · skip
      have c15 := c_ge0 (by omega) (by omega) c15
      refine g_iconst (v := nI 0) C dX1_seen_29 (by decide +kernel) ?_
      exact g_xiret C rfl (⟨S, rfl, hS, ⟨seenV_n hj c15, rfl⟩⟩) (Nat.le_of_ble_eq_true rfl) (Nat.le_of_ble_eq_true rfl) dX1_seen_30
    · skip
      have c15 := c_ge1 (by omega) (by omega) c15
      refine g_aload_n C dX1_seen_18 rfl 0 rfl ?_
      refine g_get (ci := 2) (v := .ref (a 6)) C iwX1_seen_X1 0 rfl rfl 6 (by decide) (C.hw (List.mem_cons_of_mem _ (List.mem_append_left _ (List.mem_append_left _ (List.mem_of_getElem? (i := 1) rfl))))) (fun _ h9 => h9) rfl dX1_seen_19 ?_
      refine g_iload_n C dX1_seen_22 rfl 1 rfl ?_
      refine g_aldA (nn := 16) (i := nI S) (r := some (a (8 + S))) C 6 rfl (vp_in_nI (by omega) (by omega)) (by rw [nI_clamp (by omega)]; exact if_pos (by omega)) dX1_seen_23 ?_
      refine g_iload_n C dX1_seen_24 rfl 2 rfl ?_
      refine g_ialdR (nn := 200) (j := j) (f := see S) C (8 + S) (wC_row (by omega)) (by omega) n31_200 dX1_seen_25 ?_
      refine g_goto (tgt := 30) C dX1_seen_26 (by decide) ?_
      exact g_xiret C rfl (⟨S, rfl, hS, ⟨seenV_t hj c15, rfl⟩⟩) (Nat.le_of_ble_eq_true rfl) (Nat.le_of_ble_eq_true rfl) dX1_seen_30
abbrev rmX1_told : Room := { frames := 7, cells := 12, slots := 500, locals := 120 }
theorem ydX1_told : yX1_told.cls ≠ "java/lang/invoke/MethodHandle" ∧ yX1_told.cls ≠ "java/lang/invoke/VarHandle" ∧ (parseMethodDescriptor yX1_told.desc).map (fun d => d.parameters.length) = some 2 := by decide +kernel
theorem iwX1_told_X1 : ∀ w ∈ u_ws RX1 TX1 8, w ∈ wsX1_told := fun _ h => (List.mem_cons_of_mem _ (List.mem_append_left _ (List.mem_append_left _ (List.mem_append_left _ (List.mem_append_right _ h)))))
theorem iwX1_told_X0 : ∀ w ∈ u_ws RX0 TX0 6, w ∈ wsX1_told := fun _ h => (List.mem_cons_of_mem _ (List.mem_append_left _ (List.mem_append_left _ (List.mem_append_right _ h))))
set_option maxRecDepth 100000 in
set_option maxHeartbeats 4000000 in
theorem k_X1_told (l : Launch) (D : va_G) (cy : Nat → ClassId) (zs : Nat → Nat) (hst : l.stackTraces = false) (a : Nat → Nat) (lab : Nat → Option Nat) (quo : Nat → Nat) (spe : Nat → Nat) (md : Int32) (ed : Option (Nat × Nat)) (lis : Nat → Nat) (lc : Nat) (see : Nat → Nat → Int32) (cnt : Nat → Nat) (Fs : List FT) (hI : CI lab quo spe ed lis lc cnt Fs)  (p0 : Int32) (p1 : Int32)  : Xi l D cy zs yX1_told wsX1_told rmX1_told [.ref (a 0), .int p0, .int p1] (wC cy a (zs 0) lab quo spe md ed lis lc see cnt Fs) (fun r w => ∃ (L : Nat), p0 = nI L ∧ L < 1024 ∧ ((∃ h, p1 = nI h ∧ h < 4 ∧ r = nI (toldV h (usF spe Fs L) (spe L) (quo L) (cnF Fs L)) ∧ w = (wC cy a (zs 0) lab quo spe md ed lis lc see cnt Fs)))) (fun E w => ((!inB p0 1024 || !inB p1 4) = true ∧ E = "java/lang/IllegalArgumentException" ∧ w = (wC cy a (zs 0) lab quo spe md ed lis lc see cnt Fs))) := by
  refine Xi.of (lv := [(0, .ref (a 0)), (1, .int p0), (2, .int p1)]) RX1 ⟨by decide, rfl⟩ rfl (Nat.le_of_ble_eq_true rfl) rfl ?_
  intro p e s m args below meth c A C hnm hno
  have hlc := hI.lcP
  have hln := hI.lenP
  refine g_iload_n C dX1_told_0 rfl 1 rfl ?_
  refine g_XSv (st := []) C (k_X1_requireLabel l D cy zs hst (wC cy a (zs 0) lab quo spe md ed lis lc see cnt Fs) p0 ) gX1_told_X1_requireLabel rfl ydX1_requireLabel ⟨Nat.le_of_ble_eq_true rfl, Nat.le_of_ble_eq_true rfl⟩ ⟨Nat.le_of_ble_eq_true rfl, Nat.le_of_ble_eq_true rfl⟩ rfl (Nat.le_of_ble_eq_true rfl) dX1_told_1 (fun E1 w1 h1 => ?_) (fun w1 h1 => ?_)
  · skip
    obtain ⟨h1a, h1b, h1c⟩ := h1
    subst h1b
    subst h1c
    exact g_xout C hno (⟨(by simp [h1a]), rfl, rfl⟩) (Nat.le_of_ble_eq_true rfl) (Nat.le_of_ble_eq_true rfl)
  obtain ⟨h1, h1b⟩ := h1
  have h1b := h1b.symm
  subst h1b
  obtain ⟨L, hL, eL⟩ := inB_of (Nat.le_of_ble_eq_true rfl) h1
  subst eL
  refine g_iload_n C dX1_told_4 rfl 2 rfl ?_
  rcases tsw p1 with e9 | e9 | e9 | e9 | ⟨e9, e8⟩
  · skip
    subst e9
    refine g_tin (tgt := 36) C dX1_told_5 (by decide +kernel) (by decide +kernel) (off := 31) (by decide +kernel) (by decide) ?_
    refine g_aload_n C dX1_told_36 rfl 0 rfl ?_
    refine g_iload_n C dX1_told_37 rfl 1 rfl ?_
    refine g_Vi (ci := 2) (st := []) C (k_X1_usedBy l D cy zs a lab quo spe md ed lis lc see cnt Fs hI L (by omega)) gX1_told_X1_usedBy rfl ⟨rfl, ydX1_usedBy⟩ 0 rfl rfl ⟨Nat.le_of_ble_eq_true rfl, Nat.le_of_ble_eq_true rfl⟩ ⟨Nat.le_of_ble_eq_true rfl, Nat.le_of_ble_eq_true rfl⟩ rfl (Nat.le_of_ble_eq_true rfl) dX1_told_38 (fun r38 w38 h38 => ?_)
    obtain ⟨h38a, h38b⟩ := h38
    subst h38a
    have h38b := h38b.symm
    subst h38b
    exact g_xiret C rfl (⟨L, rfl, hL, ⟨0, rfl, by omega, rfl, rfl⟩⟩) (Nat.le_of_ble_eq_true rfl) (Nat.le_of_ble_eq_true rfl) dX1_told_41
  · skip
    subst e9
    refine g_tin (tgt := 42) C dX1_told_5 (by decide +kernel) (by decide +kernel) (off := 37) (by decide +kernel) (by decide) ?_
    refine g_aload_n C dX1_told_42 rfl 0 rfl ?_
    refine g_get (ci := 2) (v := .ref (a 3)) C iwX1_told_X1 0 rfl rfl 2 (by decide) (C.hw (List.mem_cons_of_mem _ (List.mem_append_left _ (List.mem_append_left _ (List.mem_append_left _ (List.mem_append_left _ (List.mem_append_left _ (List.mem_of_getElem? (i := 2) rfl)))))))) (fun _ h9 => h9) rfl dX1_told_43 ?_
    refine g_iload_n C dX1_told_46 rfl 1 rfl ?_
    refine g_ialdN (nn := 1024) (j := L) (f := spe) C 3 rfl (by omega) n31_1024 dX1_told_47 ?_
    have b47 := hI.speP L
    exact g_xiret C rfl (⟨L, rfl, hL, ⟨1, rfl, by omega, rfl, rfl⟩⟩) (Nat.le_of_ble_eq_true rfl) (Nat.le_of_ble_eq_true rfl) dX1_told_48
  · skip
    subst e9
    refine g_tin (tgt := 49) C dX1_told_5 (by decide +kernel) (by decide +kernel) (off := 44) (by decide +kernel) (by decide) ?_
    refine g_aload_n C dX1_told_49 rfl 0 rfl ?_
    refine g_get (ci := 2) (v := .ref (a 2)) C iwX1_told_X1 0 rfl rfl 1 (by decide) (C.hw (List.mem_cons_of_mem _ (List.mem_append_left _ (List.mem_append_left _ (List.mem_append_left _ (List.mem_append_left _ (List.mem_append_left _ (List.mem_of_getElem? (i := 3) rfl)))))))) (fun _ h9 => h9) rfl dX1_told_50 ?_
    refine g_iload_n C dX1_told_53 rfl 1 rfl ?_
    refine g_ialdN (nn := 1024) (j := L) (f := quo) C 2 rfl (by omega) n31_1024 dX1_told_54 ?_
    have b54 := hI.quoP L
    exact g_xiret C rfl (⟨L, rfl, hL, ⟨2, rfl, by omega, rfl, rfl⟩⟩) (Nat.le_of_ble_eq_true rfl) (Nat.le_of_ble_eq_true rfl) dX1_told_55
  · skip
    subst e9
    refine g_tin (tgt := 56) C dX1_told_5 (by decide +kernel) (by decide +kernel) (off := 51) (by decide +kernel) (by decide) ?_
    refine g_aload_n C dX1_told_56 rfl 0 rfl ?_
    refine g_iload_n C dX1_told_57 rfl 1 rfl ?_
    refine g_Vi (ci := 2) (st := []) C (k_X1_countFilesAt l D cy zs a lab quo spe md ed lis lc see cnt Fs hI L (by omega)) gX1_told_X1_countFilesAt rfl ⟨rfl, ydX1_countFilesAt⟩ 0 rfl rfl ⟨Nat.le_of_ble_eq_true rfl, Nat.le_of_ble_eq_true rfl⟩ ⟨Nat.le_of_ble_eq_true rfl, Nat.le_of_ble_eq_true rfl⟩ rfl (Nat.le_of_ble_eq_true rfl) dX1_told_58 (fun r58 w58 h58 => ?_)
    obtain ⟨h58a, h58b⟩ := h58
    subst h58a
    have h58b := h58b.symm
    subst h58b
    exact g_xiret C rfl (⟨L, rfl, hL, ⟨3, rfl, by omega, rfl, rfl⟩⟩) (Nat.le_of_ble_eq_true rfl) (Nat.le_of_ble_eq_true rfl) dX1_told_61
  · skip
    refine g_tout (tgt := 62) C dX1_told_5 e9 (by decide) ?_
    exact g_throwI C rfl hst 3 (by decide) hno (C.hw (List.mem_cons_of_mem _ (List.mem_append_left _ (List.mem_append_left _ (List.mem_append_left _ (List.mem_append_left _ (List.mem_append_left _ (List.mem_of_getElem? (i := 0) rfl)))))))) (C.hw (List.mem_cons_of_mem _ (List.mem_append_left _ (List.mem_append_left _ (List.mem_append_left _ (List.mem_append_left _ (List.mem_append_left _ (List.mem_of_getElem? (i := 1) rfl)))))))) (fun _ h9 => (List.mem_cons_of_mem _ (List.mem_append_right _ h9))) dX1_told_62 dX1_told_65 dX1_told_66 dX1_told_68 dX1_told_71 (Nat.le_of_ble_eq_true rfl) (Nat.le_of_ble_eq_true rfl) (Nat.le_of_ble_eq_true rfl) (Nat.le_of_ble_eq_true rfl) (⟨by rw [e8]; simp, rfl, rfl⟩) (Nat.le_of_ble_eq_true rfl) (Nat.le_of_ble_eq_true rfl)
