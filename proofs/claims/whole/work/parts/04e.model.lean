/-- i of f's cells have been laid into g -/
def relI (cel1 cel : Nat → Int32) (giv1 giv : Nat → Bool) (siz1 siz : Nat → Nat) (g f i : Nat) : Prop := (siz1 g = i ∧ ∀ j, ¬ j = g → siz1 j = siz j) ∧ ((∀ j, j < i → cel1 (24 * g + j) = cel (24 * f + j)) ∧ ∀ j, (j < 24 * g ∨ 24 * g + 24 ≤ j) → cel1 j = cel j) ∧ ((∀ j, j < i → giv1 (24 * g + j) = false) ∧ ∀ j, (j < 24 * g ∨ 24 * g + 24 ≤ j) → giv1 j = giv j)
theorem relI_0 {cel : Nat → Int32} {giv : Nat → Bool} {siz : Nat → Nat} {g f : Nat} : relI cel cel giv giv (va_up siz g 0) siz g f 0 := ⟨⟨va_up_self _ _ _, fun j h => va_up_ne _ _ h⟩, ⟨fun j h => absurd h (Nat.not_lt_zero _), fun _ _ => rfl⟩, ⟨fun j h => absurd h (Nat.not_lt_zero _), fun _ _ => rfl⟩⟩
theorem relI_s {cel1 cel : Nat → Int32} {giv1 giv : Nat → Bool} {siz1 siz : Nat → Nat} {g f i : Nat} (h : relI cel1 cel giv1 giv siz1 siz g f i) (hfg : ¬ f = g) (hi : i < 24) : relI (upd cel1 (24 * g + siz1 g) (cel1 (24 * f + i))) cel (va_up giv1 (24 * g + siz1 g) false) giv (va_up siz1 g (siz1 g + 1)) siz g f (i + 1) := by
  obtain ⟨⟨a1, a2⟩, ⟨b1, b2⟩, ⟨c1, c2⟩⟩ := h
  rw [a1]
  refine ⟨⟨va_up_self _ _ _, fun j hj => by rw [va_up_ne _ _ hj]; exact a2 j hj⟩, ⟨fun j hj => ?_, fun j hj => ?_⟩, ⟨fun j hj => ?_, fun j hj => ?_⟩⟩
  · unfold upd
    by_cases e : j = i
    · rw [if_pos (by omega), e]
      exact b2 _ (by omega)
    · rw [if_neg (by omega)]
      exact b1 j (by omega)
  · unfold upd
    rw [if_neg (by omega)]
    exact b2 j hj
  · unfold va_up
    by_cases e : j = i
    · rw [if_pos (by omega)]
    · rw [if_neg (by omega)]
      exact c1 j (by omega)
  · unfold va_up
    rw [if_neg (by omega)]
    exact c2 j hj
def fitN (used old z quo : Nat) : Bool := decide (used - old + 1 + z ≤ quo)
theorem countN_le_sumU {nam : Nat → Nat} {gif : Nat → Bool} {siz : Nat → Nat} {giv : Nat → Bool} {L : Nat} : ∀ {k j : Nat}, j < k → nam j / 16 = L → countN gif siz giv j ≤ sumU nam gif siz giv L k
  | 0, j, h, _ => absurd h (Nat.not_lt_zero _)
  | k + 1, j, h, hl => by
    simp only [sumU]
    by_cases e : j = k
    · subst e
      rw [if_pos hl]
      omega
    · have := countN_le_sumU (nam := nam) (gif := gif) (siz := siz) (giv := giv) (L := L) (k := k) (j := j) (by omega) hl
      omega
theorem countN_le_uses {spe nam : Nat → Nat} {gif : Nat → Bool} {siz : Nat → Nat} {giv : Nat → Bool} {nf L j q : Nat} (hq : q < 16) (h : j < nf ∧ nam j = 16 * L + q) : countN gif siz giv j ≤ usesN spe nam gif siz giv nf L := by
  have := countN_le_sumU (nam := nam) (gif := gif) (siz := siz) (giv := giv) (L := L) h.1 (by rw [h.2]; omega)
  unfold usesN
  omega
abbrev rmX2_release : Room := { frames := 2, cells := 0, slots := 0, locals := 46 }
theorem ydX2_release : yX2_release.cls ≠ "java/lang/invoke/MethodHandle" ∧ yX2_release.cls ≠ "java/lang/invoke/VarHandle" ∧ (parseMethodDescriptor yX2_release.desc).map (fun d => d.parameters.length) = some 4 := by decide +kernel
theorem iwX2_release_X2 : ∀ w ∈ u_ws RX2 TX2 16, w ∈ wsX2_release := fun _ h => (List.mem_cons_of_mem _ (List.mem_append_right _ h))
set_option maxRecDepth 100000 in
set_option maxHeartbeats 4000000 in
theorem k_X2_release (l : Launch) (D : va_G) (cy : Nat → ClassId) (zs : Nat → Nat) (a : Nat → Nat) (lab : Nat → Nat) (has : Nat → Bool) (quo : Nat → Nat) (spe : Nat → Nat) (nam : Nat → Nat) (gif : Nat → Bool) (fol : Nat → Int32) (siz : Nat → Nat) (cel : Nat → Int32) (giv : Nat → Bool) (nf : Nat) (lis : Nat → Nat) (lc : Nat) (see : Nat → Int32) (cnt : Nat → Nat) (thr : Nat) (hI : MI lab quo spe nam siz cnt lis nf lc) (p0 : Int32) (p1 : Int32) (p2 : Int32) (p3 : Int32) (hne : ∀ k, k < lc → ¬ lis (3 * k + 1) = lis (3 * k + 2)) : Mi l D cy zs yX2_release wsX2_release rmX2_release [.ref (a 0), .int p0, .int p1, .int p2, .int p3] (wM cy a lab has quo spe nam gif fol siz cel giv nf lis lc see cnt thr) ((fun (r : Int32) (w : va_W) => ((!inB p0 16 || !inB p1 1024 || !inB p2 16 || !inB p3 1024) = true ∧ r = nI 0 ∧ w = wM cy a lab has quo spe nam gif fol siz cel giv nf lis lc see cnt 1) ∨ ∃ S L q T, p0 = nI S ∧ S < 16 ∧ p1 = nI L ∧ L < 1024 ∧ p2 = nI q ∧ q < 16 ∧ p3 = nI T ∧ T < 1024 ∧ ((olab has lab S = none ∧ r = -1 ∧ w = wM cy a lab has quo spe nam gif fol siz cel giv nf lis lc see (va_up cnt S 0) 0) ∨ (has S = true ∧ (lisN lis lc S L T) = none ∧ r = -2 ∧ w = wM cy a lab has quo spe nam gif fol siz cel giv nf lis lc see (va_up cnt S 0) 0) ∨ (has S = true ∧ (lisN lis lc S L T).isSome = true ∧ (findN nam nf (16 * L + q)) = none ∧ r = nI 0 ∧ w = wM cy a lab has quo spe nam gif fol siz cel giv nf lis lc see (va_up cnt S 0) 0) ∨ (∃ f, has S = true ∧ (lisN lis lc S L T).isSome = true ∧ (findN nam nf (16 * L + q)) = some f ∧ fitN (usesN spe nam gif siz giv nf T) (((findN nam nf (16 * T + q)).map (countN gif siz giv)).getD 0) (siz f) (quo T) = false ∧ r = -3 ∧ w = wM cy a lab has quo spe nam gif fol siz cel giv nf lis lc see (va_up cnt S 0) 0) ∨ (∃ f, has S = true ∧ (lisN lis lc S L T).isSome = true ∧ (findN nam nf (16 * L + q)) = some f ∧ fitN (usesN spe nam gif siz giv nf T) (((findN nam nf (16 * T + q)).map (countN gif siz giv)).getD 0) (siz f) (quo T) = true ∧ (findN nam nf (16 * T + q)) = none ∧ nf = 200 ∧ r = nI 0 ∧ w = wM cy a lab has quo spe nam gif fol siz cel giv nf lis lc see cnt 2) ∨ (∃ f g, has S = true ∧ (lisN lis lc S L T).isSome = true ∧ (findN nam nf (16 * L + q)) = some f ∧ fitN (usesN spe nam gif siz giv nf T) (((findN nam nf (16 * T + q)).map (countN gif siz giv)).getD 0) (siz f) (quo T) = true ∧ (findN nam nf (16 * T + q)) = none ∧ nf < 200 ∧ g = nf ∧ ∃ cel1 giv1 siz1, relI cel1 cel giv1 giv siz1 siz g f (siz f) ∧ (∀ i, siz1 i ≤ 24) ∧ r = nI 1 ∧ w = wM cy a lab has quo spe (va_up nam nf (16 * T + q)) (va_up (va_up gif nf false) g false) (upd fol nf (-1)) siz1 cel1 giv1 (nf + 1) lis lc see (va_up cnt S 0) 0) ∨ (∃ f g, has S = true ∧ (lisN lis lc S L T).isSome = true ∧ (findN nam nf (16 * L + q)) = some f ∧ fitN (usesN spe nam gif siz giv nf T) (((findN nam nf (16 * T + q)).map (countN gif siz giv)).getD 0) (siz f) (quo T) = true ∧ (findN nam nf (16 * T + q)) = some g ∧ ∃ cel1 giv1 siz1, relI cel1 cel giv1 giv siz1 siz g f (siz f) ∧ (∀ i, siz1 i ≤ 24) ∧ r = nI 1 ∧ w = wM cy a lab has quo spe nam (va_up gif g false) fol siz1 cel1 giv1 nf lis lc see (va_up cnt S 0) 0)))) := by
  refine Mi.of (lv := [(0, .ref (a 0)), (1, .int p0), (2, .int p1), (3, .int p2), (4, .int p3)]) RX2 ⟨by decide, rfl⟩ rfl (Nat.le_of_ble_eq_true rfl) rfl ?_
  intro p e s m args below meth c A C hnm
  obtain ⟨hnf, hlc, hlab, hquo, hspe, hnam, hsiz, hcnt, hlis⟩ := id hI
  refine g_aload_n C dX2_release_0 rfl 0 rfl ?_
  refine g_join (fun v35 : Bool => v35 = (!inB p0 16 || !inB p1 1024 || !inB p2 16 || !inB p3 1024)) 35 (wM cy a lab has quo spe nam gif fol siz cel giv nf lis lc see cnt thr) [(0, .ref (a 0)), (1, .int p0), (2, .int p1), (3, .int p2), (4, .int p3)] (fun v35 => [.int (bI v35), .ref (a 0)]) (fun v35 h35 => ?_) (fun J35 => ?_)
  · skip
    refine g_iconst (v := nI 1) C dX2_release_35 (by decide +kernel) ?_
    refine g_Vi (ci := 3) (st := []) C (k_X2_fails l D cy zs a lab has quo spe nam gif fol siz cel giv nf lis lc see cnt thr ⟨hnf, hlc, hlab, hquo, hspe, hnam, hsiz, hcnt, hlis⟩ v35 1) gX2_release_X2_fails rfl ⟨rfl, ydX2_fails⟩ 0 rfl rfl ⟨Nat.le_of_ble_eq_true rfl, Nat.le_of_ble_eq_true rfl⟩ ⟨Nat.le_of_ble_eq_true rfl, Nat.le_of_ble_eq_true rfl⟩ rfl (Nat.le_of_ble_eq_true rfl) dX2_release_36 (fun r36 w36 h36 => ?_)
    obtain ⟨h36a, h36b⟩ := h36
    subst h36a
    subst h36b
    refine g_if_eq (tgt := 44) C dX2_release_39 (by decide) (fun c39 => ?_) (fun c39 => ?_)
    · skip
      have c39 := cb_eq0 c39
      subst c39
      obtain ⟨qp0, qp1, qp2, qp3⟩ : inB p0 16 = true ∧ inB p1 1024 = true ∧ inB p2 16 = true ∧ inB p3 1024 = true := by revert h35; cases inB p0 16 <;> cases inB p1 1024 <;> cases inB p2 16 <;> cases inB p3 1024 <;> simp
      obtain ⟨S, hS, eS⟩ := inB_of (Nat.le_of_ble_eq_true rfl) qp0
      subst eS
      obtain ⟨L, hL, eL⟩ := inB_of (Nat.le_of_ble_eq_true rfl) qp1
      subst eL
      obtain ⟨q, hq, eq⟩ := inB_of (Nat.le_of_ble_eq_true rfl) qp2
      subst eq
      obtain ⟨T, hT, eT⟩ := inB_of (Nat.le_of_ble_eq_true rfl) qp3
      subst eT
      refine g_join (fun v70 : Bool => v70 = (has S && (lisN lis lc S L T).isSome)) 70 (wM cy a lab has quo spe nam gif fol siz cel giv nf lis lc see cnt 0) [(0, .ref (a 0)), (1, .int (nI S)), (2, .int (nI L)), (3, .int (nI q)), (4, .int (nI T))] (fun v70 => [.int (bI v70)]) (fun v70 h70 => ?_) (fun J70 => ?_)
      · skip
        refine g_istore (lv' := [(5, .int (bI v70)), (0, .ref (a 0)), (1, .int (nI S)), (2, .int (nI L)), (3, .int (nI q)), (4, .int (nI T))]) C dX2_release_70 (by decide) rfl ?_
        refine g_aload_n C dX2_release_72 rfl 1 rfl ?_
        refine g_iload_n C dX2_release_73 rfl 3 rfl ?_
        refine g_iload_n C dX2_release_74 rfl 4 rfl ?_
        refine g_Vi (ci := 3) (st := []) C (k_X2_find l D cy zs a lab has quo spe nam gif fol siz cel giv nf lis lc see cnt 0 ⟨hnf, hlc, hlab, hquo, hspe, hnam, hsiz, hcnt, hlis⟩ L q (by omega) (by omega)) gX2_release_X2_find rfl ⟨rfl, ydX2_find⟩ 0 rfl rfl ⟨Nat.le_of_ble_eq_true rfl, Nat.le_of_ble_eq_true rfl⟩ ⟨Nat.le_of_ble_eq_true rfl, Nat.le_of_ble_eq_true rfl⟩ rfl (Nat.le_of_ble_eq_true rfl) dX2_release_75 (fun r75 w75 h75 => ?_)
        obtain ⟨h75a, h75b⟩ := h75
        subst h75a
        subst h75b
        rcases e75 : findN nam nf (16 * L + q) with _ | f
        · skip
          refine g_istore (lv' := [(6, .int (-1)), (5, .int (bI v70)), (0, .ref (a 0)), (1, .int (nI S)), (2, .int (nI L)), (3, .int (nI q)), (4, .int (nI T))]) C dX2_release_78 (by decide) rfl ?_
          refine g_aload_n C dX2_release_80 rfl 2 rfl ?_
          refine g_iload C dX2_release_81 6 rfl ?_
          refine g_iload_n C dX2_release_83 rfl 5 rfl ?_
          refine g_Vi (ci := 3) (st := []) C (k_X2_find l D cy zs a lab has quo spe nam gif fol siz cel giv nf lis lc see cnt 0 ⟨hnf, hlc, hlab, hquo, hspe, hnam, hsiz, hcnt, hlis⟩ T q (by omega) (by omega)) gX2_release_X2_find rfl ⟨rfl, ydX2_find⟩ 0 rfl rfl ⟨Nat.le_of_ble_eq_true rfl, Nat.le_of_ble_eq_true rfl⟩ ⟨Nat.le_of_ble_eq_true rfl, Nat.le_of_ble_eq_true rfl⟩ rfl (Nat.le_of_ble_eq_true rfl) dX2_release_84 (fun r84 w84 h84 => ?_)
          obtain ⟨h84a, h84b⟩ := h84
          subst h84a
          subst h84b
          rcases e84 : findN nam nf (16 * T + q) with _ | g
          · skip
            refine g_istore (lv' := [(7, .int (-1)), (6, .int (-1)), (5, .int (bI v70)), (0, .ref (a 0)), (1, .int (nI S)), (2, .int (nI L)), (3, .int (nI q)), (4, .int (nI T))]) C dX2_release_87 (by decide) rfl ?_
            refine g_join (fun v143 : Bool => v143 = false) 143 (wM cy a lab has quo spe nam gif fol siz cel giv nf lis lc see cnt 0) [(0, .ref (a 0)), (1, .int (nI S)), (2, .int (nI L)), (3, .int (nI q)), (4, .int (nI T)), (5, .int (bI v70)), (6, .int (-1)), (7, .int (-1))] (fun v143 => [.int (bI v143)]) (fun v143 h143 => ?_) (fun J143 => ?_)
            · skip
              refine g_istore (lv' := [(8, .int (bI v143)), (0, .ref (a 0)), (1, .int (nI S)), (2, .int (nI L)), (3, .int (nI q)), (4, .int (nI T)), (5, .int (bI v70)), (6, .int (-1)), (7, .int (-1))]) C dX2_release_143 (by decide) rfl ?_
              refine g_aload_n C dX2_release_145 rfl 1 rfl ?_
              refine g_join (fun v177 : Bool => v177 = false) 177 (wM cy a lab has quo spe nam gif fol siz cel giv nf lis lc see cnt 0) [(0, .ref (a 0)), (1, .int (nI S)), (2, .int (nI L)), (3, .int (nI q)), (4, .int (nI T)), (5, .int (bI v70)), (6, .int (-1)), (7, .int (-1)), (8, .int (bI v143))] (fun v177 => [.int (bI v177), .ref (a 0)]) (fun v177 h177 => ?_) (fun J177 => ?_)
              · skip
                refine g_iconst (v := nI 2) C dX2_release_177 (by decide +kernel) ?_
                refine g_Vi (ci := 3) (st := []) C (k_X2_fails l D cy zs a lab has quo spe nam gif fol siz cel giv nf lis lc see cnt 0 ⟨hnf, hlc, hlab, hquo, hspe, hnam, hsiz, hcnt, hlis⟩ v177 2) gX2_release_X2_fails rfl ⟨rfl, ydX2_fails⟩ 0 rfl rfl ⟨Nat.le_of_ble_eq_true rfl, Nat.le_of_ble_eq_true rfl⟩ ⟨Nat.le_of_ble_eq_true rfl, Nat.le_of_ble_eq_true rfl⟩ rfl (Nat.le_of_ble_eq_true rfl) dX2_release_178 (fun r178 w178 h178 => ?_)
                obtain ⟨h178a, h178b⟩ := h178
                subst h178a
                subst h178b
                refine g_if_eq (tgt := 186) C dX2_release_181 (by decide) (fun c181 => ?_) (fun c181 => ?_)
                · skip
                  have c181 := cb_eq0 c181
                  subst c181
                  refine g_aload_n C dX2_release_186 rfl 0 rfl ?_
                  refine g_iload_n C dX2_release_187 rfl 1 rfl ?_
                  refine g_Vv (ci := 3) (st := []) C (k_X2_begin l D cy zs a lab has quo spe nam gif fol siz cel giv nf lis lc see cnt 0 ⟨hnf, hlc, hlab, hquo, hspe, hnam, hsiz, hcnt, hlis⟩ S (by omega)) gX2_release_X2_begin rfl ⟨rfl, ydX2_begin⟩ 0 rfl rfl ⟨Nat.le_of_ble_eq_true rfl, Nat.le_of_ble_eq_true rfl⟩ ⟨Nat.le_of_ble_eq_true rfl, Nat.le_of_ble_eq_true rfl⟩ rfl (Nat.le_of_ble_eq_true rfl) dX2_release_188 (fun w188 h188 => ?_)
                  have hcnt188 : ∀ i, va_up cnt S 0 i ≤ 200 := va_up_le hcnt (Nat.zero_le _)
                  subst h188
                  refine g_aload_n C dX2_release_191 rfl 0 rfl ?_
                  refine g_get (ci := 3) (v := .ref (a 2)) C iwX2_release_X2 0 rfl rfl 1 (by decide) (C.hw (List.mem_cons_of_mem _ (List.mem_append_left _ (List.mem_append_left _ (List.mem_of_getElem? (i := 0) rfl))))) (fun _ h9 => h9) rfl dX2_release_192 ?_
                  refine g_iload_n C dX2_release_195 rfl 1 rfl ?_
                  refine g_zaldB (nn := 16) (j := S) (f := has) C 2 rfl (by omega) n31_16 dX2_release_196 ?_
                  refine g_if_ne (tgt := 202) C dX2_release_197 (by decide) (fun c197 => ?_) (fun c197 => ?_)
                  · skip
                    have c197 := cb_eq1 c197
                    refine g_iload C dX2_release_202 5 rfl ?_
                    refine g_if_ne (tgt := 210) C dX2_release_204 (by decide) (fun c204 => ?_) (fun c204 => ?_)
                    · skip
                      have c204 := cb_eq1 c204
                      have y1 : (lisN lis lc S L T).isSome = true := by rw [h70, c197, Bool.true_and] at c204; exact c204
                      refine g_iload C dX2_release_210 6 rfl ?_
                      refine g_iconst (v := (-1)) C dX2_release_212 (by decide +kernel) ?_
                      refine g_icmp_ne (tgt := 218) C dX2_release_213 (by decide) (fun c213 => ?_) (fun c213 => ?_)
                      · skip
                        exact absurd rfl c213
                      · skip
                        refine g_iconst (v := nI 0) C dX2_release_216 (by decide +kernel) ?_
                        exact g_iret C rfl (Or.inr ⟨S, L, q, T, rfl, hS, rfl, hL, rfl, hq, rfl, hT, Or.inr (Or.inr (Or.inl (⟨c197, y1, e75, rfl, rfl⟩)))⟩) (Nat.le_of_ble_eq_true rfl) (Nat.le_of_ble_eq_true rfl) dX2_release_217
                    · skip
                      have c204 := cb_eq0 c204
                      have y1 : (lisN lis lc S L T) = none := by rw [h70, c197, Bool.true_and] at c204; exact Option.not_isSome_iff_eq_none.mp (by rw [c204]; exact Bool.false_ne_true)
                      refine g_bipush (v := (-2)) C dX2_release_207 (by decide +kernel) ?_
                      exact g_iret C rfl (Or.inr ⟨S, L, q, T, rfl, hS, rfl, hL, rfl, hq, rfl, hT, Or.inr (Or.inl (⟨c197, y1, rfl, rfl⟩))⟩) (Nat.le_of_ble_eq_true rfl) (Nat.le_of_ble_eq_true rfl) dX2_release_209
                  · skip
                    have c197 := cb_eq0 c197
                    refine g_iconst (v := (-1)) C dX2_release_200 (by decide +kernel) ?_
                    exact g_iret C rfl (Or.inr ⟨S, L, q, T, rfl, hS, rfl, hL, rfl, hq, rfl, hT, Or.inl (⟨olab_f c197, rfl, rfl⟩)⟩) (Nat.le_of_ble_eq_true rfl) (Nat.le_of_ble_eq_true rfl) dX2_release_201
                · skip
                  cases h177.symm.trans (cb_eq1 c181)
              · skip
                refine g_iload C dX2_release_146 6 rfl ?_
                refine g_if_eq (tgt := 176) C dX2_release_148 (by decide) (fun c148 => ?_) (fun c148 => ?_)
                · skip
                  have c148 := cb_eq0 c148
                  refine g_iconst (v := nI 0) C dX2_release_176 (by decide +kernel) ?_
                  exact g_sub (lv' := [(0, .ref (a 0)), (1, .int (nI S)), (2, .int (nI L)), (3, .int (nI q)), (4, .int (nI T)), (5, .int (bI v70)), (6, .int (-1)), (7, .int (-1)), (8, .int (bI v143))]) [1, 2, 3, 4, 5, 6, 7, 8, 0] rfl (J177 false (by simp [c148]))
                · skip
                  have c148 := cb_eq1 c148
                  refine g_iload C dX2_release_151 0 rfl ?_
                  refine g_if_eq (tgt := 176) C dX2_release_153 (by decide) (fun c153 => ?_) (fun c153 => ?_)
                  · skip
                    have c153 := cb_eq0 c153
                    refine g_iconst (v := nI 0) C dX2_release_176 (by decide +kernel) ?_
                    exact g_sub (lv' := [(0, .ref (a 0)), (1, .int (nI S)), (2, .int (nI L)), (3, .int (nI q)), (4, .int (nI T)), (5, .int (bI v70)), (6, .int (-1)), (7, .int (-1)), (8, .int (bI v143))]) [1, 2, 3, 4, 5, 6, 7, 8, 0] rfl (J177 false (by simp [c148, c153]))
                  · skip
                    cases h143.symm.trans (cb_eq1 c153)
            · skip
              refine g_iload C dX2_release_89 1 rfl ?_
              refine g_iconst (v := (-1)) C dX2_release_91 (by decide +kernel) ?_
              refine g_icmp_eq (tgt := 142) C dX2_release_92 (by decide) (fun c92 => ?_) (fun c92 => ?_)
              · skip
                refine g_iconst (v := nI 0) C dX2_release_142 (by decide +kernel) ?_
                exact g_sub (lv' := [(0, .ref (a 0)), (1, .int (nI S)), (2, .int (nI L)), (3, .int (nI q)), (4, .int (nI T)), (5, .int (bI v70)), (6, .int (-1)), (7, .int (-1))]) [3, 4, 5, 6, 7, 2, 1, 0] rfl (J143 false (by rfl))
              · skip
                exact absurd rfl c92
          · skip
            have q84 := findN_spec e84
            refine g_istore (lv' := [(7, .int (nI g)), (6, .int (-1)), (5, .int (bI v70)), (0, .ref (a 0)), (1, .int (nI S)), (2, .int (nI L)), (3, .int (nI q)), (4, .int (nI T))]) C dX2_release_87 (by decide) rfl ?_
            refine g_join (fun v143 : Bool => v143 = false) 143 (wM cy a lab has quo spe nam gif fol siz cel giv nf lis lc see cnt 0) [(0, .ref (a 0)), (1, .int (nI S)), (2, .int (nI L)), (3, .int (nI q)), (4, .int (nI T)), (5, .int (bI v70)), (6, .int (-1)), (7, .int (nI g))] (fun v143 => [.int (bI v143)]) (fun v143 h143 => ?_) (fun J143 => ?_)
            · skip
              refine g_istore (lv' := [(8, .int (bI v143)), (0, .ref (a 0)), (1, .int (nI S)), (2, .int (nI L)), (3, .int (nI q)), (4, .int (nI T)), (5, .int (bI v70)), (6, .int (-1)), (7, .int (nI g))]) C dX2_release_143 (by decide) rfl ?_
              refine g_aload_n C dX2_release_145 rfl 1 rfl ?_
              refine g_join (fun v177 : Bool => v177 = false) 177 (wM cy a lab has quo spe nam gif fol siz cel giv nf lis lc see cnt 0) [(0, .ref (a 0)), (1, .int (nI S)), (2, .int (nI L)), (3, .int (nI q)), (4, .int (nI T)), (5, .int (bI v70)), (6, .int (-1)), (7, .int (nI g)), (8, .int (bI v143))] (fun v177 => [.int (bI v177), .ref (a 0)]) (fun v177 h177 => ?_) (fun J177 => ?_)
              · skip
                refine g_iconst (v := nI 2) C dX2_release_177 (by decide +kernel) ?_
                refine g_Vi (ci := 3) (st := []) C (k_X2_fails l D cy zs a lab has quo spe nam gif fol siz cel giv nf lis lc see cnt 0 ⟨hnf, hlc, hlab, hquo, hspe, hnam, hsiz, hcnt, hlis⟩ v177 2) gX2_release_X2_fails rfl ⟨rfl, ydX2_fails⟩ 0 rfl rfl ⟨Nat.le_of_ble_eq_true rfl, Nat.le_of_ble_eq_true rfl⟩ ⟨Nat.le_of_ble_eq_true rfl, Nat.le_of_ble_eq_true rfl⟩ rfl (Nat.le_of_ble_eq_true rfl) dX2_release_178 (fun r178 w178 h178 => ?_)
                obtain ⟨h178a, h178b⟩ := h178
                subst h178a
                subst h178b
                refine g_if_eq (tgt := 186) C dX2_release_181 (by decide) (fun c181 => ?_) (fun c181 => ?_)
                · skip
                  have c181 := cb_eq0 c181
                  subst c181
                  refine g_aload_n C dX2_release_186 rfl 0 rfl ?_
                  refine g_iload_n C dX2_release_187 rfl 1 rfl ?_
                  refine g_Vv (ci := 3) (st := []) C (k_X2_begin l D cy zs a lab has quo spe nam gif fol siz cel giv nf lis lc see cnt 0 ⟨hnf, hlc, hlab, hquo, hspe, hnam, hsiz, hcnt, hlis⟩ S (by omega)) gX2_release_X2_begin rfl ⟨rfl, ydX2_begin⟩ 0 rfl rfl ⟨Nat.le_of_ble_eq_true rfl, Nat.le_of_ble_eq_true rfl⟩ ⟨Nat.le_of_ble_eq_true rfl, Nat.le_of_ble_eq_true rfl⟩ rfl (Nat.le_of_ble_eq_true rfl) dX2_release_188 (fun w188 h188 => ?_)
                  have hcnt188 : ∀ i, va_up cnt S 0 i ≤ 200 := va_up_le hcnt (Nat.zero_le _)
                  subst h188
                  refine g_aload_n C dX2_release_191 rfl 0 rfl ?_
                  refine g_get (ci := 3) (v := .ref (a 2)) C iwX2_release_X2 0 rfl rfl 1 (by decide) (C.hw (List.mem_cons_of_mem _ (List.mem_append_left _ (List.mem_append_left _ (List.mem_of_getElem? (i := 0) rfl))))) (fun _ h9 => h9) rfl dX2_release_192 ?_
                  refine g_iload_n C dX2_release_195 rfl 1 rfl ?_
                  refine g_zaldB (nn := 16) (j := S) (f := has) C 2 rfl (by omega) n31_16 dX2_release_196 ?_
                  refine g_if_ne (tgt := 202) C dX2_release_197 (by decide) (fun c197 => ?_) (fun c197 => ?_)
                  · skip
                    have c197 := cb_eq1 c197
                    refine g_iload C dX2_release_202 5 rfl ?_
                    refine g_if_ne (tgt := 210) C dX2_release_204 (by decide) (fun c204 => ?_) (fun c204 => ?_)
                    · skip
                      have c204 := cb_eq1 c204
                      have y1 : (lisN lis lc S L T).isSome = true := by rw [h70, c197, Bool.true_and] at c204; exact c204
                      refine g_iload C dX2_release_210 6 rfl ?_
                      refine g_iconst (v := (-1)) C dX2_release_212 (by decide +kernel) ?_
                      refine g_icmp_ne (tgt := 218) C dX2_release_213 (by decide) (fun c213 => ?_) (fun c213 => ?_)
                      · skip
                        exact absurd rfl c213
                      · skip
                        refine g_iconst (v := nI 0) C dX2_release_216 (by decide +kernel) ?_
                        exact g_iret C rfl (Or.inr ⟨S, L, q, T, rfl, hS, rfl, hL, rfl, hq, rfl, hT, Or.inr (Or.inr (Or.inl (⟨c197, y1, e75, rfl, rfl⟩)))⟩) (Nat.le_of_ble_eq_true rfl) (Nat.le_of_ble_eq_true rfl) dX2_release_217
                    · skip
                      have c204 := cb_eq0 c204
                      have y1 : (lisN lis lc S L T) = none := by rw [h70, c197, Bool.true_and] at c204; exact Option.not_isSome_iff_eq_none.mp (by rw [c204]; exact Bool.false_ne_true)
                      refine g_bipush (v := (-2)) C dX2_release_207 (by decide +kernel) ?_
                      exact g_iret C rfl (Or.inr ⟨S, L, q, T, rfl, hS, rfl, hL, rfl, hq, rfl, hT, Or.inr (Or.inl (⟨c197, y1, rfl, rfl⟩))⟩) (Nat.le_of_ble_eq_true rfl) (Nat.le_of_ble_eq_true rfl) dX2_release_209
                  · skip
                    have c197 := cb_eq0 c197
                    refine g_iconst (v := (-1)) C dX2_release_200 (by decide +kernel) ?_
                    exact g_iret C rfl (Or.inr ⟨S, L, q, T, rfl, hS, rfl, hL, rfl, hq, rfl, hT, Or.inl (⟨olab_f c197, rfl, rfl⟩)⟩) (Nat.le_of_ble_eq_true rfl) (Nat.le_of_ble_eq_true rfl) dX2_release_201
                · skip
                  cases h177.symm.trans (cb_eq1 c181)
              · skip
                refine g_iload C dX2_release_146 6 rfl ?_
                refine g_if_eq (tgt := 176) C dX2_release_148 (by decide) (fun c148 => ?_) (fun c148 => ?_)
                · skip
                  have c148 := cb_eq0 c148
                  refine g_iconst (v := nI 0) C dX2_release_176 (by decide +kernel) ?_
                  exact g_sub (lv' := [(0, .ref (a 0)), (1, .int (nI S)), (2, .int (nI L)), (3, .int (nI q)), (4, .int (nI T)), (5, .int (bI v70)), (6, .int (-1)), (7, .int (nI g)), (8, .int (bI v143))]) [1, 2, 3, 4, 5, 6, 7, 8, 0] rfl (J177 false (by simp [c148]))
                · skip
                  have c148 := cb_eq1 c148
                  refine g_iload C dX2_release_151 0 rfl ?_
                  refine g_if_eq (tgt := 176) C dX2_release_153 (by decide) (fun c153 => ?_) (fun c153 => ?_)
                  · skip
                    have c153 := cb_eq0 c153
                    refine g_iconst (v := nI 0) C dX2_release_176 (by decide +kernel) ?_
                    exact g_sub (lv' := [(0, .ref (a 0)), (1, .int (nI S)), (2, .int (nI L)), (3, .int (nI q)), (4, .int (nI T)), (5, .int (bI v70)), (6, .int (-1)), (7, .int (nI g)), (8, .int (bI v143))]) [1, 2, 3, 4, 5, 6, 7, 8, 0] rfl (J177 false (by simp [c148, c153]))
                  · skip
                    cases h143.symm.trans (cb_eq1 c153)
            · skip
              refine g_iload C dX2_release_89 1 rfl ?_
              refine g_iconst (v := (-1)) C dX2_release_91 (by decide +kernel) ?_
              refine g_icmp_eq (tgt := 142) C dX2_release_92 (by decide) (fun c92 => ?_) (fun c92 => ?_)
              · skip
                refine g_iconst (v := nI 0) C dX2_release_142 (by decide +kernel) ?_
                exact g_sub (lv' := [(0, .ref (a 0)), (1, .int (nI S)), (2, .int (nI L)), (3, .int (nI q)), (4, .int (nI T)), (5, .int (bI v70)), (6, .int (-1)), (7, .int (nI g))]) [3, 4, 5, 6, 7, 2, 1, 0] rfl (J143 false (by rfl))
              · skip
                exact absurd rfl c92
        · skip
          have q75 := findN_spec e75
          refine g_istore (lv' := [(6, .int (nI f)), (5, .int (bI v70)), (0, .ref (a 0)), (1, .int (nI S)), (2, .int (nI L)), (3, .int (nI q)), (4, .int (nI T))]) C dX2_release_78 (by decide) rfl ?_
          refine g_aload_n C dX2_release_80 rfl 2 rfl ?_
          refine g_iload C dX2_release_81 6 rfl ?_
          refine g_iload_n C dX2_release_83 rfl 5 rfl ?_
          refine g_Vi (ci := 3) (st := []) C (k_X2_find l D cy zs a lab has quo spe nam gif fol siz cel giv nf lis lc see cnt 0 ⟨hnf, hlc, hlab, hquo, hspe, hnam, hsiz, hcnt, hlis⟩ T q (by omega) (by omega)) gX2_release_X2_find rfl ⟨rfl, ydX2_find⟩ 0 rfl rfl ⟨Nat.le_of_ble_eq_true rfl, Nat.le_of_ble_eq_true rfl⟩ ⟨Nat.le_of_ble_eq_true rfl, Nat.le_of_ble_eq_true rfl⟩ rfl (Nat.le_of_ble_eq_true rfl) dX2_release_84 (fun r84 w84 h84 => ?_)
          obtain ⟨h84a, h84b⟩ := h84
          subst h84a
          subst h84b
          rcases e84 : findN nam nf (16 * T + q) with _ | g
          · skip
            refine g_istore (lv' := [(7, .int (-1)), (6, .int (nI f)), (5, .int (bI v70)), (0, .ref (a 0)), (1, .int (nI S)), (2, .int (nI L)), (3, .int (nI q)), (4, .int (nI T))]) C dX2_release_87 (by decide) rfl ?_
            refine g_join (fun v143 : Bool => v143 = (fitN (usesN spe nam gif siz giv nf T) (((findN nam nf (16 * T + q)).map (countN gif siz giv)).getD 0) (siz f) (quo T))) 143 (wM cy a lab has quo spe nam gif fol siz cel giv nf lis lc see cnt 0) [(0, .ref (a 0)), (1, .int (nI S)), (2, .int (nI L)), (3, .int (nI q)), (4, .int (nI T)), (5, .int (bI v70)), (6, .int (nI f)), (7, .int (-1))] (fun v143 => [.int (bI v143)]) (fun v143 h143 => ?_) (fun J143 => ?_)
            · skip
              refine g_istore (lv' := [(8, .int (bI v143)), (0, .ref (a 0)), (1, .int (nI S)), (2, .int (nI L)), (3, .int (nI q)), (4, .int (nI T)), (5, .int (bI v70)), (6, .int (nI f)), (7, .int (-1))]) C dX2_release_143 (by decide) rfl ?_
              refine g_aload_n C dX2_release_145 rfl 1 rfl ?_
              refine g_join (fun v177 : Bool => v177 = (v70 && (v143 && decide (nf = 200)))) 177 (wM cy a lab has quo spe nam gif fol siz cel giv nf lis lc see cnt 0) [(0, .ref (a 0)), (1, .int (nI S)), (2, .int (nI L)), (3, .int (nI q)), (4, .int (nI T)), (5, .int (bI v70)), (6, .int (nI f)), (7, .int (-1)), (8, .int (bI v143))] (fun v177 => [.int (bI v177), .ref (a 0)]) (fun v177 h177 => ?_) (fun J177 => ?_)
              · skip
                refine g_iconst (v := nI 2) C dX2_release_177 (by decide +kernel) ?_
                refine g_Vi (ci := 3) (st := []) C (k_X2_fails l D cy zs a lab has quo spe nam gif fol siz cel giv nf lis lc see cnt 0 ⟨hnf, hlc, hlab, hquo, hspe, hnam, hsiz, hcnt, hlis⟩ v177 2) gX2_release_X2_fails rfl ⟨rfl, ydX2_fails⟩ 0 rfl rfl ⟨Nat.le_of_ble_eq_true rfl, Nat.le_of_ble_eq_true rfl⟩ ⟨Nat.le_of_ble_eq_true rfl, Nat.le_of_ble_eq_true rfl⟩ rfl (Nat.le_of_ble_eq_true rfl) dX2_release_178 (fun r178 w178 h178 => ?_)
                obtain ⟨h178a, h178b⟩ := h178
                subst h178a
                subst h178b
                refine g_if_eq (tgt := 186) C dX2_release_181 (by decide) (fun c181 => ?_) (fun c181 => ?_)
                · skip
                  have c181 := cb_eq0 c181
                  subst c181
                  refine g_aload_n C dX2_release_186 rfl 0 rfl ?_
                  refine g_iload_n C dX2_release_187 rfl 1 rfl ?_
                  refine g_Vv (ci := 3) (st := []) C (k_X2_begin l D cy zs a lab has quo spe nam gif fol siz cel giv nf lis lc see cnt 0 ⟨hnf, hlc, hlab, hquo, hspe, hnam, hsiz, hcnt, hlis⟩ S (by omega)) gX2_release_X2_begin rfl ⟨rfl, ydX2_begin⟩ 0 rfl rfl ⟨Nat.le_of_ble_eq_true rfl, Nat.le_of_ble_eq_true rfl⟩ ⟨Nat.le_of_ble_eq_true rfl, Nat.le_of_ble_eq_true rfl⟩ rfl (Nat.le_of_ble_eq_true rfl) dX2_release_188 (fun w188 h188 => ?_)
                  have hcnt188 : ∀ i, va_up cnt S 0 i ≤ 200 := va_up_le hcnt (Nat.zero_le _)
                  subst h188
                  refine g_aload_n C dX2_release_191 rfl 0 rfl ?_
                  refine g_get (ci := 3) (v := .ref (a 2)) C iwX2_release_X2 0 rfl rfl 1 (by decide) (C.hw (List.mem_cons_of_mem _ (List.mem_append_left _ (List.mem_append_left _ (List.mem_of_getElem? (i := 0) rfl))))) (fun _ h9 => h9) rfl dX2_release_192 ?_
                  refine g_iload_n C dX2_release_195 rfl 1 rfl ?_
                  refine g_zaldB (nn := 16) (j := S) (f := has) C 2 rfl (by omega) n31_16 dX2_release_196 ?_
                  refine g_if_ne (tgt := 202) C dX2_release_197 (by decide) (fun c197 => ?_) (fun c197 => ?_)
                  · skip
                    have c197 := cb_eq1 c197
                    refine g_iload C dX2_release_202 5 rfl ?_
                    refine g_if_ne (tgt := 210) C dX2_release_204 (by decide) (fun c204 => ?_) (fun c204 => ?_)
                    · skip
                      have c204 := cb_eq1 c204
                      have y1 : (lisN lis lc S L T).isSome = true := by rw [h70, c197, Bool.true_and] at c204; exact c204
                      refine g_iload C dX2_release_210 6 rfl ?_
                      refine g_iconst (v := (-1)) C dX2_release_212 (by decide +kernel) ?_
                      refine g_icmp_ne (tgt := 218) C dX2_release_213 (by decide) (fun c213 => ?_) (fun c213 => ?_)
                      · skip
                        refine g_iload C dX2_release_218 8 rfl ?_
                        refine g_if_ne (tgt := 226) C dX2_release_220 (by decide) (fun c220 => ?_) (fun c220 => ?_)
                        · skip
                          have c220 := cb_eq1 c220
                          have x1 := h143.symm.trans c220
                          refine g_iload C dX2_release_226 7 rfl ?_
                          refine g_iconst (v := (-1)) C dX2_release_228 (by decide +kernel) ?_
                          rw [c204, c220, Bool.true_and, Bool.true_and] at h177
                          have n1 : nf < 200 := by have := of_decide_eq_false h177.symm; omega
                          refine g_icmp_ne (tgt := 244) C dX2_release_229 (by decide) (fun c229 => ?_) (fun c229 => ?_)
                          · skip
                            exact absurd rfl c229
                          · skip
                            refine g_aload_n C dX2_release_232 rfl 0 rfl ?_
                            refine g_iload C dX2_release_233 4 rfl ?_
                            refine g_iload_n C dX2_release_235 rfl 3 rfl ?_
                            refine g_iconst (v := (-1)) C dX2_release_236 (by decide +kernel) ?_
                            refine g_iconst (v := nI 0) C dX2_release_237 (by decide +kernel) ?_
                            refine g_Vi (ci := 3) (st := []) C (k_X2_add l D cy zs a lab has quo spe nam gif fol siz cel giv nf lis lc see (va_up cnt S 0) 0 ⟨hnf, hlc, hlab, hquo, hspe, hnam, hsiz, hcnt188, hlis⟩ T q (-1) false (by omega) (by omega) (by omega)) gX2_release_X2_add rfl ⟨rfl, ydX2_add⟩ 0 rfl rfl ⟨Nat.le_of_ble_eq_true rfl, Nat.le_of_ble_eq_true rfl⟩ ⟨Nat.le_of_ble_eq_true rfl, Nat.le_of_ble_eq_true rfl⟩ rfl (Nat.le_of_ble_eq_true rfl) dX2_release_238 (fun r238 w238 h238 => ?_)
                            have hnam238 : ∀ i, va_up nam nf (16 * T + q) i < 16384 := va_up_lt hnam (by omega)
                            have hsiz238 : ∀ i, va_up siz nf 0 i ≤ 24 := va_up_le hsiz (by omega)
                            have hnf238 : nf + 1 ≤ 200 := by omega
                            obtain ⟨h238a, h238b⟩ := h238
                            subst h238a
                            subst h238b
                            refine g_goto (tgt := 246) C dX2_release_241 (by decide) ?_
                            have hfg : ¬ f = nf := by omega
                            refine g_istore (lv' := [(9, .int (nI nf)), (0, .ref (a 0)), (1, .int (nI S)), (2, .int (nI L)), (3, .int (nI q)), (4, .int (nI T)), (5, .int (bI v70)), (6, .int (nI f)), (7, .int (-1)), (8, .int (bI v143))]) C dX2_release_246 (by decide) rfl ?_
                            refine g_aload_n C dX2_release_248 rfl 1 rfl ?_
                            refine g_get (ci := 3) (v := .ref (a 6)) C iwX2_release_X2 0 rfl rfl 5 (by decide) (C.hw (List.mem_cons_of_mem _ (List.mem_append_left _ (List.mem_append_left _ (List.mem_of_getElem? (i := 4) rfl))))) (fun _ h9 => h9) rfl dX2_release_249 ?_
                            refine g_iload C dX2_release_252 0 rfl ?_
                            refine g_iconst (v := nI 0) C dX2_release_254 (by decide +kernel) ?_
                            refine g_zastB (nn := 200) (j := nf) (v := false) (f := (va_up gif nf false)) (ws' := wM cy a lab has quo spe (va_up nam nf (16 * T + q)) (va_up (va_up gif nf false) nf false) (upd fol nf (-1)) (va_up siz nf 0) cel giv (nf + 1) lis lc see (va_up cnt S 0) 0) C 6 rfl (by omega) n31_200 rfl dX2_release_255 ?_
                            refine g_aload_n C dX2_release_256 rfl 1 rfl ?_
                            refine g_get (ci := 3) (v := .ref (a 8)) C iwX2_release_X2 0 rfl rfl 7 (by decide) (C.hw (List.mem_cons_of_mem _ (List.mem_append_left _ (List.mem_append_left _ (List.mem_of_getElem? (i := 1) rfl))))) (fun _ h9 => h9) rfl dX2_release_257 ?_
                            refine g_iload C dX2_release_260 0 rfl ?_
                            refine g_iconst (v := nI 0) C dX2_release_262 (by decide +kernel) ?_
                            refine g_iastN (nn := 200) (j := nf) (v := 0) (f := (va_up siz nf 0)) (ws' := wM cy a lab has quo spe (va_up nam nf (16 * T + q)) (va_up (va_up gif nf false) nf false) (upd fol nf (-1)) (va_up (va_up siz nf 0) nf 0) cel giv (nf + 1) lis lc see (va_up cnt S 0) 0) C 8 rfl (by omega) n31_200 rfl dX2_release_263 ?_
                            have hsiz263 : ∀ i9, (va_up (va_up siz nf 0) nf 0) i9 ≤ 24 := va_up_le hsiz238 (by omega)
                            refine g_iconst (v := nI 0) C dX2_release_264 (by decide +kernel) ?_
                            refine g_istore (lv' := [(10, .int (nI 0)), (9, .int (nI nf)), (0, .ref (a 0)), (1, .int (nI S)), (2, .int (nI L)), (3, .int (nI q)), (4, .int (nI T)), (5, .int (bI v70)), (6, .int (nI f)), (7, .int (-1)), (8, .int (bI v143))]) C dX2_release_265 (by decide) rfl ?_
                            refine g_sub (lv' := [(0, .ref (a 0)), (1, .int (nI S)), (2, .int (nI L)), (3, .int (nI q)), (4, .int (nI T)), (5, .int (bI v70)), (6, .int (nI f)), (7, .int (-1)), (8, .int (bI v143)), (9, .int (nI nf)), (10, .int (nI 0))]) [2, 3, 4, 5, 6, 7, 8, 9, 10, 1, 0] rfl ?_
                            refine g_loop4 (jp := 267) (fun (i : Nat) (cel1 : Nat → Int32) (giv1 : Nat → Bool) (siz1 : Nat → Nat) => (i ≤ siz f) ∧ (relI cel1 cel giv1 giv siz1 siz nf f i) ∧ (∀ i9, siz1 i9 ≤ 24)) (fun (i : Nat) (cel1 : Nat → Int32) (giv1 : Nat → Bool) (siz1 : Nat → Nat) => siz f - i) (fun (i : Nat) (cel1 : Nat → Int32) (giv1 : Nat → Bool) (siz1 : Nat → Nat) => wM cy a lab has quo spe (va_up nam nf (16 * T + q)) (va_up (va_up gif nf false) nf false) (upd fol nf (-1)) siz1 cel1 giv1 (nf + 1) lis lc see (va_up cnt S 0) 0) (fun (i : Nat) (cel1 : Nat → Int32) (giv1 : Nat → Bool) (siz1 : Nat → Nat) => [(0, .ref (a 0)), (1, .int (nI S)), (2, .int (nI L)), (3, .int (nI q)), (4, .int (nI T)), (5, .int (bI v70)), (6, .int (nI f)), (7, .int (-1)), (8, .int (bI v143)), (9, .int (nI nf)), (10, .int (nI i))]) (fun (i : Nat) (cel1 : Nat → Int32) (giv1 : Nat → Bool) (siz1 : Nat → Nat) => []) (fun i cel1 giv1 siz1 hI267 ih267 => ?_) 0 cel giv (va_up (va_up siz nf 0) nf 0) (⟨Nat.zero_le _, by first | exact relI_0 | (rw [bx_uu]; exact relI_0), hsiz263⟩)
                            obtain ⟨hi, hrl, hsz1⟩ := hI267
                            have hsf := hrl.1.2 f hfg
                            have hsg := hrl.1.1
                            refine g_iload C dX2_release_267 10 rfl ?_
                            refine g_aload_n C dX2_release_269 rfl 0 rfl ?_
                            refine g_get (ci := 3) (v := .ref (a 8)) C iwX2_release_X2 0 rfl rfl 7 (by decide) (C.hw (List.mem_cons_of_mem _ (List.mem_append_left _ (List.mem_append_left _ (List.mem_of_getElem? (i := 1) rfl))))) (fun _ h9 => h9) rfl dX2_release_270 ?_
                            refine g_iload C dX2_release_273 6 rfl ?_
                            refine g_ialdN (nn := 200) (j := f) (f := siz1) C 8 rfl (by omega) n31_200 dX2_release_275 ?_
                            have b275 := hsz1 f
                            refine g_icmp_ge (tgt := 305) C dX2_release_276 (by decide) (fun c276 => ?_) (fun c276 => ?_)
                            · skip
                              have c276 := c_ge0 (by omega) (by omega) c276
                              refine g_iconst (v := nI 1) C dX2_release_305 (by decide +kernel) ?_
                              exact g_iret C rfl (Or.inr ⟨S, L, q, T, rfl, hS, rfl, hL, rfl, hq, rfl, hT, Or.inr (Or.inr (Or.inr (Or.inr (Or.inr (Or.inl (⟨f, nf, c197, y1, e75, x1, e84, n1, rfl, cel1, giv1, siz1, by rw [← show i = siz f by omega]; exact hrl, hsz1, rfl, rfl⟩))))))⟩) (Nat.le_of_ble_eq_true rfl) (Nat.le_of_ble_eq_true rfl) dX2_release_306
                            · skip
                              have c276 := c_ge1 (by omega) (by omega) c276
                              refine g_aload_n C dX2_release_279 rfl 0 rfl ?_
                              refine g_iload C dX2_release_280 9 rfl ?_
                              refine g_aload_n C dX2_release_282 rfl 0 rfl ?_
                              refine g_get (ci := 3) (v := .ref (a 9)) C iwX2_release_X2 0 rfl rfl 8 (by decide) (C.hw (List.mem_cons_of_mem _ (List.mem_append_left _ (List.mem_append_left _ (List.mem_of_getElem? (i := 5) rfl))))) (fun _ h9 => h9) rfl dX2_release_283 ?_
                              refine g_bipush (v := nI 24) C dX2_release_286 (by decide +kernel) ?_
                              refine g_iload C dX2_release_288 6 rfl ?_
                              refine g_imul (v := nI (24 * f)) C dX2_release_290 (pk_mul _ _) ?_
                              refine g_iload C dX2_release_291 10 rfl ?_
                              refine g_iadd (v := nI ((24 * f) + i)) C dX2_release_293 (nI_add _ _) ?_
                              refine g_ialdR (nn := 4800) (j := ((24 * f) + i)) (f := cel1) C 9 rfl (by omega) n31_4800 dX2_release_294 ?_
                              refine g_iconst (v := nI 0) C dX2_release_295 (by decide +kernel) ?_
                              refine g_Vv (ci := 3) (st := []) C (k_X2_append l D cy zs a lab has quo spe (va_up nam nf (16 * T + q)) (va_up (va_up gif nf false) nf false) (upd fol nf (-1)) siz1 cel1 giv1 (nf + 1) lis lc see (va_up cnt S 0) 0 ⟨hnf238, hlc, hlab, hquo, hspe, hnam238, hsz1, hcnt188, hlis⟩ nf (cel1 ((24 * f) + i)) false (by omega) (by omega)) gX2_release_X2_append rfl ⟨rfl, ydX2_append⟩ 0 rfl rfl ⟨Nat.le_of_ble_eq_true rfl, Nat.le_of_ble_eq_true rfl⟩ ⟨Nat.le_of_ble_eq_true rfl, Nat.le_of_ble_eq_true rfl⟩ rfl (Nat.le_of_ble_eq_true rfl) dX2_release_296 (fun w296 h296 => ?_)
                              have hsiz296 : ∀ i, va_up siz1 nf (siz1 nf + 1) i ≤ 24 := va_up_le hsz1 (by omega)
                              subst h296
                              refine g_iinc (q := 10) (v := nI (i + 1)) (lv' := [(10, .int (nI (i + 1))), (0, .ref (a 0)), (1, .int (nI S)), (2, .int (nI L)), (3, .int (nI q)), (4, .int (nI T)), (5, .int (bI v70)), (6, .int (nI f)), (7, .int (-1)), (8, .int (bI v143)), (9, .int (nI nf))]) C dX2_release_299 rfl (nI_inc1 _) (by decide) rfl ?_
                              refine g_goto (tgt := 267) C dX2_release_302 (by decide) ?_
                              exact g_sub (lv' := [(0, .ref (a 0)), (1, .int (nI S)), (2, .int (nI L)), (3, .int (nI q)), (4, .int (nI T)), (5, .int (bI v70)), (6, .int (nI f)), (7, .int (-1)), (8, .int (bI v143)), (9, .int (nI nf)), (10, .int (nI (i + 1)))]) [1, 2, 3, 4, 5, 6, 7, 8, 9, 10, 0] rfl (ih267 (i + 1) (upd cel1 (24 * nf + siz1 nf) (cel1 ((24 * f) + i))) (va_up giv1 (24 * nf + siz1 nf) false) (va_up siz1 nf (siz1 nf + 1)) (⟨by omega, relI_s hrl hfg (by omega), hsiz296⟩) (by omega))
                        · skip
                          have c220 := cb_eq0 c220
                          have x1 := h143.symm.trans c220
                          refine g_bipush (v := (-3)) C dX2_release_223 (by decide +kernel) ?_
                          exact g_iret C rfl (Or.inr ⟨S, L, q, T, rfl, hS, rfl, hL, rfl, hq, rfl, hT, Or.inr (Or.inr (Or.inr (Or.inl (⟨f, c197, y1, e75, x1, rfl, rfl⟩))))⟩) (Nat.le_of_ble_eq_true rfl) (Nat.le_of_ble_eq_true rfl) dX2_release_225
                      · skip
                        exact absurd c213 (nI_nem1 (by omega))
                    · skip
                      have c204 := cb_eq0 c204
                      have y1 : (lisN lis lc S L T) = none := by rw [h70, c197, Bool.true_and] at c204; exact Option.not_isSome_iff_eq_none.mp (by rw [c204]; exact Bool.false_ne_true)
                      refine g_bipush (v := (-2)) C dX2_release_207 (by decide +kernel) ?_
                      exact g_iret C rfl (Or.inr ⟨S, L, q, T, rfl, hS, rfl, hL, rfl, hq, rfl, hT, Or.inr (Or.inl (⟨c197, y1, rfl, rfl⟩))⟩) (Nat.le_of_ble_eq_true rfl) (Nat.le_of_ble_eq_true rfl) dX2_release_209
                  · skip
                    have c197 := cb_eq0 c197
                    refine g_iconst (v := (-1)) C dX2_release_200 (by decide +kernel) ?_
                    exact g_iret C rfl (Or.inr ⟨S, L, q, T, rfl, hS, rfl, hL, rfl, hq, rfl, hT, Or.inl (⟨olab_f c197, rfl, rfl⟩)⟩) (Nat.le_of_ble_eq_true rfl) (Nat.le_of_ble_eq_true rfl) dX2_release_201
                · skip
                  have c181 := cb_eq1 c181
                  subst c181
                  obtain ⟨z0, z7, z5⟩ : v70 = true ∧ v143 = true ∧ nf = 200 := by simpa using h177.symm
                  obtain ⟨z1, z2⟩ : has S = true ∧ (lisN lis lc S L T).isSome = true := by rw [h70] at z0; simpa using z0
                  have z3 := h143.symm.trans z7
                  refine g_iconst (v := nI 0) C dX2_release_184 (by decide +kernel) ?_
                  exact g_iret C rfl (Or.inr ⟨S, L, q, T, rfl, hS, rfl, hL, rfl, hq, rfl, hT, Or.inr (Or.inr (Or.inr (Or.inr (Or.inl (⟨f, z1, z2, e75, z3, e84, z5, rfl, rfl⟩)))))⟩) (Nat.le_of_ble_eq_true rfl) (Nat.le_of_ble_eq_true rfl) dX2_release_185
              · skip
                refine g_iload C dX2_release_146 6 rfl ?_
                refine g_if_eq (tgt := 176) C dX2_release_148 (by decide) (fun c148 => ?_) (fun c148 => ?_)
                · skip
                  have c148 := cb_eq0 c148
                  refine g_iconst (v := nI 0) C dX2_release_176 (by decide +kernel) ?_
                  exact g_sub (lv' := [(0, .ref (a 0)), (1, .int (nI S)), (2, .int (nI L)), (3, .int (nI q)), (4, .int (nI T)), (5, .int (bI v70)), (6, .int (nI f)), (7, .int (-1)), (8, .int (bI v143))]) [1, 2, 3, 4, 5, 6, 7, 8, 0] rfl (J177 false (by simp [c148]))
                · skip
                  have c148 := cb_eq1 c148
                  refine g_iload C dX2_release_151 0 rfl ?_
                  refine g_if_eq (tgt := 176) C dX2_release_153 (by decide) (fun c153 => ?_) (fun c153 => ?_)
                  · skip
                    have c153 := cb_eq0 c153
                    refine g_iconst (v := nI 0) C dX2_release_176 (by decide +kernel) ?_
                    exact g_sub (lv' := [(0, .ref (a 0)), (1, .int (nI S)), (2, .int (nI L)), (3, .int (nI q)), (4, .int (nI T)), (5, .int (bI v70)), (6, .int (nI f)), (7, .int (-1)), (8, .int (bI v143))]) [1, 2, 3, 4, 5, 6, 7, 8, 0] rfl (J177 false (by simp [c148, c153]))
                  · skip
                    have c153 := cb_eq1 c153
                    refine g_iload C dX2_release_156 8 rfl ?_
                    refine g_iconst (v := (-1)) C dX2_release_158 (by decide +kernel) ?_
                    refine g_icmp_ne (tgt := 176) C dX2_release_159 (by decide) (fun c159 => ?_) (fun c159 => ?_)
                    · skip
                      exact absurd rfl c159
                    · skip
                      refine g_aload_n C dX2_release_162 rfl 1 rfl ?_
                      refine g_get (ci := 3) (v := .int (nI nf)) C iwX2_release_X2 0 rfl rfl 10 (by decide) (C.hw (List.mem_cons_of_mem _ (List.mem_append_left _ (List.mem_append_left _ (List.mem_of_getElem? (i := 3) rfl))))) (fun _ h9 => h9) rfl dX2_release_163 ?_
                      refine g_sipush (v := nI 200) C dX2_release_166 (by decide +kernel) ?_
                      refine g_icmp_ne (tgt := 176) C dX2_release_169 (by decide) (fun c169 => ?_) (fun c169 => ?_)
                      · skip
                        have c169 := c_eq1 (by omega) (by omega) c169
                        refine g_iconst (v := nI 0) C dX2_release_176 (by decide +kernel) ?_
                        exact g_sub (lv' := [(0, .ref (a 0)), (1, .int (nI S)), (2, .int (nI L)), (3, .int (nI q)), (4, .int (nI T)), (5, .int (bI v70)), (6, .int (nI f)), (7, .int (-1)), (8, .int (bI v143))]) [1, 2, 3, 4, 5, 6, 7, 8, 0] rfl (J177 false (by simp [c148, c153, c159, c169]))
                      · skip
                        have c169 := c_eq0 (by omega) (by omega) c169
                        refine g_iconst (v := nI 1) C dX2_release_172 (by decide +kernel) ?_
                        refine g_goto (tgt := 177) C dX2_release_173 (by decide) ?_
                        exact g_sub (lv' := [(0, .ref (a 0)), (1, .int (nI S)), (2, .int (nI L)), (3, .int (nI q)), (4, .int (nI T)), (5, .int (bI v70)), (6, .int (nI f)), (7, .int (-1)), (8, .int (bI v143))]) [1, 2, 3, 4, 5, 6, 7, 8, 0] rfl (J177 true (by simp [c148, c153, c159, c169]))
            · skip
              refine g_iload C dX2_release_89 1 rfl ?_
              refine g_iconst (v := (-1)) C dX2_release_91 (by decide +kernel) ?_
              refine g_icmp_eq (tgt := 142) C dX2_release_92 (by decide) (fun c92 => ?_) (fun c92 => ?_)
              · skip
                exact absurd c92 (nI_nem1 (by omega))
              · skip
                have u1 := usesN_le (nam := nam) (gif := gif) (giv := giv) (L := T) hspe hsiz hnf
                have u4 := hsiz f
                refine g_aload_n C dX2_release_95 rfl 3 rfl ?_
                refine g_iload C dX2_release_96 7 rfl ?_
                refine g_Vi (ci := 3) (st := []) C (k_X2_uses l D cy zs a lab has quo spe nam gif fol siz cel giv nf lis lc see cnt 0 ⟨hnf, hlc, hlab, hquo, hspe, hnam, hsiz, hcnt, hlis⟩ T (by omega)) gX2_release_X2_uses rfl ⟨rfl, ydX2_uses⟩ 0 rfl rfl ⟨Nat.le_of_ble_eq_true rfl, Nat.le_of_ble_eq_true rfl⟩ ⟨Nat.le_of_ble_eq_true rfl, Nat.le_of_ble_eq_true rfl⟩ rfl (Nat.le_of_ble_eq_true rfl) dX2_release_98 (fun r98 w98 h98 => ?_)
                obtain ⟨h98a, h98b⟩ := h98
                subst h98a
                subst h98b
                refine g_iload C dX2_release_101 0 rfl ?_
                refine g_iconst (v := (-1)) C dX2_release_103 (by decide +kernel) ?_
                refine g_icmp_ne (tgt := 111) C dX2_release_104 (by decide) (fun c104 => ?_) (fun c104 => ?_)
                · skip
                  exact absurd rfl c104
                · skip
                  refine g_iconst (v := nI 0) C dX2_release_107 (by decide +kernel) ?_
                  refine g_goto (tgt := 117) C dX2_release_108 (by decide) ?_
                  refine g_isub (v := nI ((usesN spe nam gif siz giv nf T) - 0)) C dX2_release_117 (pk_sub (by omega)) ?_
                  refine g_iconst (v := nI 1) C dX2_release_118 (by decide +kernel) ?_
                  refine g_iadd (v := nI (((usesN spe nam gif siz giv nf T) - 0) + 1)) C dX2_release_119 (nI_add _ _) ?_
                  refine g_aload_n C dX2_release_120 rfl 3 rfl ?_
                  refine g_get (ci := 3) (v := .ref (a 8)) C iwX2_release_X2 0 rfl rfl 7 (by decide) (C.hw (List.mem_cons_of_mem _ (List.mem_append_left _ (List.mem_append_left _ (List.mem_of_getElem? (i := 1) rfl))))) (fun _ h9 => h9) rfl dX2_release_121 ?_
                  refine g_iload C dX2_release_124 1 rfl ?_
                  refine g_ialdN (nn := 200) (j := f) (f := siz) C 8 rfl (by omega) n31_200 dX2_release_126 ?_
                  have b126 := hsiz f
                  refine g_iadd (v := nI ((((usesN spe nam gif siz giv nf T) - 0) + 1) + (siz f))) C dX2_release_127 (nI_add _ _) ?_
                  refine g_aload_n C dX2_release_128 rfl 3 rfl ?_
                  refine g_get (ci := 3) (v := .ref (a 3)) C iwX2_release_X2 0 rfl rfl 2 (by decide) (C.hw (List.mem_cons_of_mem _ (List.mem_append_left _ (List.mem_append_left _ (List.mem_of_getElem? (i := 2) rfl))))) (fun _ h9 => h9) rfl dX2_release_129 ?_
                  refine g_iload C dX2_release_132 7 rfl ?_
                  refine g_ialdN (nn := 1024) (j := T) (f := quo) C 3 rfl (by omega) n31_1024 dX2_release_134 ?_
                  have b134 := hquo T
                  refine g_icmp_gt (tgt := 142) C dX2_release_135 (by decide) (fun c135 => ?_) (fun c135 => ?_)
                  · skip
                    have c135 := c_gt0 (by omega) (by omega) c135
                    refine g_iconst (v := nI 0) C dX2_release_142 (by decide +kernel) ?_
                    exact g_sub (lv' := [(0, .ref (a 0)), (1, .int (nI S)), (2, .int (nI L)), (3, .int (nI q)), (4, .int (nI T)), (5, .int (bI v70)), (6, .int (nI f)), (7, .int (-1))]) [3, 4, 5, 6, 7, 2, 1, 0] rfl (J143 false (show fitN (usesN spe nam gif siz giv nf T) (((findN nam nf (16 * T + q)).map (countN gif siz giv)).getD 0) (siz f) (quo T) = false from decide_eq_false (by rw [e84]; exact Nat.not_le.mpr c135)).symm)
                  · skip
                    have c135 := c_gt1 (by omega) (by omega) c135
                    refine g_iconst (v := nI 1) C dX2_release_138 (by decide +kernel) ?_
                    refine g_goto (tgt := 143) C dX2_release_139 (by decide) ?_
                    exact g_sub (lv' := [(0, .ref (a 0)), (1, .int (nI S)), (2, .int (nI L)), (3, .int (nI q)), (4, .int (nI T)), (5, .int (bI v70)), (6, .int (nI f)), (7, .int (-1))]) [3, 4, 5, 6, 7, 2, 1, 0] rfl (J143 true (show fitN (usesN spe nam gif siz giv nf T) (((findN nam nf (16 * T + q)).map (countN gif siz giv)).getD 0) (siz f) (quo T) = true from decide_eq_true (by rw [e84]; exact c135)).symm)
          · skip
            have q84 := findN_spec e84
            refine g_istore (lv' := [(7, .int (nI g)), (6, .int (nI f)), (5, .int (bI v70)), (0, .ref (a 0)), (1, .int (nI S)), (2, .int (nI L)), (3, .int (nI q)), (4, .int (nI T))]) C dX2_release_87 (by decide) rfl ?_
            refine g_join (fun v143 : Bool => v143 = (fitN (usesN spe nam gif siz giv nf T) (((findN nam nf (16 * T + q)).map (countN gif siz giv)).getD 0) (siz f) (quo T))) 143 (wM cy a lab has quo spe nam gif fol siz cel giv nf lis lc see cnt 0) [(0, .ref (a 0)), (1, .int (nI S)), (2, .int (nI L)), (3, .int (nI q)), (4, .int (nI T)), (5, .int (bI v70)), (6, .int (nI f)), (7, .int (nI g))] (fun v143 => [.int (bI v143)]) (fun v143 h143 => ?_) (fun J143 => ?_)
            · skip
              refine g_istore (lv' := [(8, .int (bI v143)), (0, .ref (a 0)), (1, .int (nI S)), (2, .int (nI L)), (3, .int (nI q)), (4, .int (nI T)), (5, .int (bI v70)), (6, .int (nI f)), (7, .int (nI g))]) C dX2_release_143 (by decide) rfl ?_
              refine g_aload_n C dX2_release_145 rfl 1 rfl ?_
              refine g_join (fun v177 : Bool => v177 = false) 177 (wM cy a lab has quo spe nam gif fol siz cel giv nf lis lc see cnt 0) [(0, .ref (a 0)), (1, .int (nI S)), (2, .int (nI L)), (3, .int (nI q)), (4, .int (nI T)), (5, .int (bI v70)), (6, .int (nI f)), (7, .int (nI g)), (8, .int (bI v143))] (fun v177 => [.int (bI v177), .ref (a 0)]) (fun v177 h177 => ?_) (fun J177 => ?_)
              · skip
                refine g_iconst (v := nI 2) C dX2_release_177 (by decide +kernel) ?_
                refine g_Vi (ci := 3) (st := []) C (k_X2_fails l D cy zs a lab has quo spe nam gif fol siz cel giv nf lis lc see cnt 0 ⟨hnf, hlc, hlab, hquo, hspe, hnam, hsiz, hcnt, hlis⟩ v177 2) gX2_release_X2_fails rfl ⟨rfl, ydX2_fails⟩ 0 rfl rfl ⟨Nat.le_of_ble_eq_true rfl, Nat.le_of_ble_eq_true rfl⟩ ⟨Nat.le_of_ble_eq_true rfl, Nat.le_of_ble_eq_true rfl⟩ rfl (Nat.le_of_ble_eq_true rfl) dX2_release_178 (fun r178 w178 h178 => ?_)
                obtain ⟨h178a, h178b⟩ := h178
                subst h178a
                subst h178b
                refine g_if_eq (tgt := 186) C dX2_release_181 (by decide) (fun c181 => ?_) (fun c181 => ?_)
                · skip
                  have c181 := cb_eq0 c181
                  subst c181
                  refine g_aload_n C dX2_release_186 rfl 0 rfl ?_
                  refine g_iload_n C dX2_release_187 rfl 1 rfl ?_
                  refine g_Vv (ci := 3) (st := []) C (k_X2_begin l D cy zs a lab has quo spe nam gif fol siz cel giv nf lis lc see cnt 0 ⟨hnf, hlc, hlab, hquo, hspe, hnam, hsiz, hcnt, hlis⟩ S (by omega)) gX2_release_X2_begin rfl ⟨rfl, ydX2_begin⟩ 0 rfl rfl ⟨Nat.le_of_ble_eq_true rfl, Nat.le_of_ble_eq_true rfl⟩ ⟨Nat.le_of_ble_eq_true rfl, Nat.le_of_ble_eq_true rfl⟩ rfl (Nat.le_of_ble_eq_true rfl) dX2_release_188 (fun w188 h188 => ?_)
                  have hcnt188 : ∀ i, va_up cnt S 0 i ≤ 200 := va_up_le hcnt (Nat.zero_le _)
                  subst h188
                  refine g_aload_n C dX2_release_191 rfl 0 rfl ?_
                  refine g_get (ci := 3) (v := .ref (a 2)) C iwX2_release_X2 0 rfl rfl 1 (by decide) (C.hw (List.mem_cons_of_mem _ (List.mem_append_left _ (List.mem_append_left _ (List.mem_of_getElem? (i := 0) rfl))))) (fun _ h9 => h9) rfl dX2_release_192 ?_
                  refine g_iload_n C dX2_release_195 rfl 1 rfl ?_
                  refine g_zaldB (nn := 16) (j := S) (f := has) C 2 rfl (by omega) n31_16 dX2_release_196 ?_
                  refine g_if_ne (tgt := 202) C dX2_release_197 (by decide) (fun c197 => ?_) (fun c197 => ?_)
                  · skip
                    have c197 := cb_eq1 c197
                    refine g_iload C dX2_release_202 5 rfl ?_
                    refine g_if_ne (tgt := 210) C dX2_release_204 (by decide) (fun c204 => ?_) (fun c204 => ?_)
                    · skip
                      have c204 := cb_eq1 c204
                      have y1 : (lisN lis lc S L T).isSome = true := by rw [h70, c197, Bool.true_and] at c204; exact c204
                      refine g_iload C dX2_release_210 6 rfl ?_
                      refine g_iconst (v := (-1)) C dX2_release_212 (by decide +kernel) ?_
                      refine g_icmp_ne (tgt := 218) C dX2_release_213 (by decide) (fun c213 => ?_) (fun c213 => ?_)
                      · skip
                        refine g_iload C dX2_release_218 8 rfl ?_
                        refine g_if_ne (tgt := 226) C dX2_release_220 (by decide) (fun c220 => ?_) (fun c220 => ?_)
                        · skip
                          have c220 := cb_eq1 c220
                          have x1 := h143.symm.trans c220
                          refine g_iload C dX2_release_226 7 rfl ?_
                          refine g_iconst (v := (-1)) C dX2_release_228 (by decide +kernel) ?_
                          refine g_icmp_ne (tgt := 244) C dX2_release_229 (by decide) (fun c229 => ?_) (fun c229 => ?_)
                          · skip
                            refine g_iload C dX2_release_244 7 rfl ?_
                            have hfg : ¬ f = g := by
                              intro e9
                              subst e9
                              obtain ⟨k9, hk9⟩ := Option.isSome_iff_exists.mp y1
                              obtain ⟨g1, g2, g3, g4⟩ := lisN_spec hk9
                              have g5 := q75.2
                              have g6 := q84.2
                              exact hne k9 g1 (by omega)
                            refine g_istore (lv' := [(9, .int (nI g)), (0, .ref (a 0)), (1, .int (nI S)), (2, .int (nI L)), (3, .int (nI q)), (4, .int (nI T)), (5, .int (bI v70)), (6, .int (nI f)), (7, .int (nI g)), (8, .int (bI v143))]) C dX2_release_246 (by decide) rfl ?_
                            refine g_aload_n C dX2_release_248 rfl 1 rfl ?_
                            refine g_get (ci := 3) (v := .ref (a 6)) C iwX2_release_X2 0 rfl rfl 5 (by decide) (C.hw (List.mem_cons_of_mem _ (List.mem_append_left _ (List.mem_append_left _ (List.mem_of_getElem? (i := 4) rfl))))) (fun _ h9 => h9) rfl dX2_release_249 ?_
                            refine g_iload C dX2_release_252 0 rfl ?_
                            refine g_iconst (v := nI 0) C dX2_release_254 (by decide +kernel) ?_
                            refine g_zastB (nn := 200) (j := g) (v := false) (f := gif) (ws' := wM cy a lab has quo spe nam (va_up gif g false) fol siz cel giv nf lis lc see (va_up cnt S 0) 0) C 6 rfl (by omega) n31_200 rfl dX2_release_255 ?_
                            refine g_aload_n C dX2_release_256 rfl 1 rfl ?_
                            refine g_get (ci := 3) (v := .ref (a 8)) C iwX2_release_X2 0 rfl rfl 7 (by decide) (C.hw (List.mem_cons_of_mem _ (List.mem_append_left _ (List.mem_append_left _ (List.mem_of_getElem? (i := 1) rfl))))) (fun _ h9 => h9) rfl dX2_release_257 ?_
                            refine g_iload C dX2_release_260 0 rfl ?_
                            refine g_iconst (v := nI 0) C dX2_release_262 (by decide +kernel) ?_
                            refine g_iastN (nn := 200) (j := g) (v := 0) (f := siz) (ws' := wM cy a lab has quo spe nam (va_up gif g false) fol (va_up siz g 0) cel giv nf lis lc see (va_up cnt S 0) 0) C 8 rfl (by omega) n31_200 rfl dX2_release_263 ?_
                            have hsiz263 : ∀ i9, (va_up siz g 0) i9 ≤ 24 := va_up_le hsiz (by omega)
                            refine g_iconst (v := nI 0) C dX2_release_264 (by decide +kernel) ?_
                            refine g_istore (lv' := [(10, .int (nI 0)), (9, .int (nI g)), (0, .ref (a 0)), (1, .int (nI S)), (2, .int (nI L)), (3, .int (nI q)), (4, .int (nI T)), (5, .int (bI v70)), (6, .int (nI f)), (7, .int (nI g)), (8, .int (bI v143))]) C dX2_release_265 (by decide) rfl ?_
                            refine g_sub (lv' := [(0, .ref (a 0)), (1, .int (nI S)), (2, .int (nI L)), (3, .int (nI q)), (4, .int (nI T)), (5, .int (bI v70)), (6, .int (nI f)), (7, .int (nI g)), (8, .int (bI v143)), (9, .int (nI g)), (10, .int (nI 0))]) [2, 3, 4, 5, 6, 7, 8, 9, 10, 1, 0] rfl ?_
                            refine g_loop4 (jp := 267) (fun (i : Nat) (cel1 : Nat → Int32) (giv1 : Nat → Bool) (siz1 : Nat → Nat) => (i ≤ siz f) ∧ (relI cel1 cel giv1 giv siz1 siz g f i) ∧ (∀ i9, siz1 i9 ≤ 24)) (fun (i : Nat) (cel1 : Nat → Int32) (giv1 : Nat → Bool) (siz1 : Nat → Nat) => siz f - i) (fun (i : Nat) (cel1 : Nat → Int32) (giv1 : Nat → Bool) (siz1 : Nat → Nat) => wM cy a lab has quo spe nam (va_up gif g false) fol siz1 cel1 giv1 nf lis lc see (va_up cnt S 0) 0) (fun (i : Nat) (cel1 : Nat → Int32) (giv1 : Nat → Bool) (siz1 : Nat → Nat) => [(0, .ref (a 0)), (1, .int (nI S)), (2, .int (nI L)), (3, .int (nI q)), (4, .int (nI T)), (5, .int (bI v70)), (6, .int (nI f)), (7, .int (nI g)), (8, .int (bI v143)), (9, .int (nI g)), (10, .int (nI i))]) (fun (i : Nat) (cel1 : Nat → Int32) (giv1 : Nat → Bool) (siz1 : Nat → Nat) => []) (fun i cel1 giv1 siz1 hI267 ih267 => ?_) 0 cel giv (va_up siz g 0) (⟨Nat.zero_le _, by first | exact relI_0 | (rw [bx_uu]; exact relI_0), hsiz263⟩)
                            obtain ⟨hi, hrl, hsz1⟩ := hI267
                            have hsf := hrl.1.2 f hfg
                            have hsg := hrl.1.1
                            refine g_iload C dX2_release_267 10 rfl ?_
                            refine g_aload_n C dX2_release_269 rfl 0 rfl ?_
                            refine g_get (ci := 3) (v := .ref (a 8)) C iwX2_release_X2 0 rfl rfl 7 (by decide) (C.hw (List.mem_cons_of_mem _ (List.mem_append_left _ (List.mem_append_left _ (List.mem_of_getElem? (i := 1) rfl))))) (fun _ h9 => h9) rfl dX2_release_270 ?_
                            refine g_iload C dX2_release_273 6 rfl ?_
                            refine g_ialdN (nn := 200) (j := f) (f := siz1) C 8 rfl (by omega) n31_200 dX2_release_275 ?_
                            have b275 := hsz1 f
                            refine g_icmp_ge (tgt := 305) C dX2_release_276 (by decide) (fun c276 => ?_) (fun c276 => ?_)
                            · skip
                              have c276 := c_ge0 (by omega) (by omega) c276
                              refine g_iconst (v := nI 1) C dX2_release_305 (by decide +kernel) ?_
                              exact g_iret C rfl (Or.inr ⟨S, L, q, T, rfl, hS, rfl, hL, rfl, hq, rfl, hT, Or.inr (Or.inr (Or.inr (Or.inr (Or.inr (Or.inr (⟨f, g, c197, y1, e75, x1, e84, cel1, giv1, siz1, by rw [← show i = siz f by omega]; exact hrl, hsz1, rfl, rfl⟩))))))⟩) (Nat.le_of_ble_eq_true rfl) (Nat.le_of_ble_eq_true rfl) dX2_release_306
                            · skip
                              have c276 := c_ge1 (by omega) (by omega) c276
                              refine g_aload_n C dX2_release_279 rfl 0 rfl ?_
                              refine g_iload C dX2_release_280 9 rfl ?_
                              refine g_aload_n C dX2_release_282 rfl 0 rfl ?_
                              refine g_get (ci := 3) (v := .ref (a 9)) C iwX2_release_X2 0 rfl rfl 8 (by decide) (C.hw (List.mem_cons_of_mem _ (List.mem_append_left _ (List.mem_append_left _ (List.mem_of_getElem? (i := 5) rfl))))) (fun _ h9 => h9) rfl dX2_release_283 ?_
                              refine g_bipush (v := nI 24) C dX2_release_286 (by decide +kernel) ?_
                              refine g_iload C dX2_release_288 6 rfl ?_
                              refine g_imul (v := nI (24 * f)) C dX2_release_290 (pk_mul _ _) ?_
                              refine g_iload C dX2_release_291 10 rfl ?_
                              refine g_iadd (v := nI ((24 * f) + i)) C dX2_release_293 (nI_add _ _) ?_
                              refine g_ialdR (nn := 4800) (j := ((24 * f) + i)) (f := cel1) C 9 rfl (by omega) n31_4800 dX2_release_294 ?_
                              refine g_iconst (v := nI 0) C dX2_release_295 (by decide +kernel) ?_
                              refine g_Vv (ci := 3) (st := []) C (k_X2_append l D cy zs a lab has quo spe nam (va_up gif g false) fol siz1 cel1 giv1 nf lis lc see (va_up cnt S 0) 0 ⟨hnf, hlc, hlab, hquo, hspe, hnam, hsz1, hcnt188, hlis⟩ g (cel1 ((24 * f) + i)) false (by omega) (by omega)) gX2_release_X2_append rfl ⟨rfl, ydX2_append⟩ 0 rfl rfl ⟨Nat.le_of_ble_eq_true rfl, Nat.le_of_ble_eq_true rfl⟩ ⟨Nat.le_of_ble_eq_true rfl, Nat.le_of_ble_eq_true rfl⟩ rfl (Nat.le_of_ble_eq_true rfl) dX2_release_296 (fun w296 h296 => ?_)
                              have hsiz296 : ∀ i, va_up siz1 g (siz1 g + 1) i ≤ 24 := va_up_le hsz1 (by omega)
                              subst h296
                              refine g_iinc (q := 10) (v := nI (i + 1)) (lv' := [(10, .int (nI (i + 1))), (0, .ref (a 0)), (1, .int (nI S)), (2, .int (nI L)), (3, .int (nI q)), (4, .int (nI T)), (5, .int (bI v70)), (6, .int (nI f)), (7, .int (nI g)), (8, .int (bI v143)), (9, .int (nI g))]) C dX2_release_299 rfl (nI_inc1 _) (by decide) rfl ?_
                              refine g_goto (tgt := 267) C dX2_release_302 (by decide) ?_
                              exact g_sub (lv' := [(0, .ref (a 0)), (1, .int (nI S)), (2, .int (nI L)), (3, .int (nI q)), (4, .int (nI T)), (5, .int (bI v70)), (6, .int (nI f)), (7, .int (nI g)), (8, .int (bI v143)), (9, .int (nI g)), (10, .int (nI (i + 1)))]) [1, 2, 3, 4, 5, 6, 7, 8, 9, 10, 0] rfl (ih267 (i + 1) (upd cel1 (24 * g + siz1 g) (cel1 ((24 * f) + i))) (va_up giv1 (24 * g + siz1 g) false) (va_up siz1 g (siz1 g + 1)) (⟨by omega, relI_s hrl hfg (by omega), hsiz296⟩) (by omega))
                          · skip
                            exact absurd c229 (nI_nem1 (by omega))
                        · skip
                          have c220 := cb_eq0 c220
                          have x1 := h143.symm.trans c220
                          refine g_bipush (v := (-3)) C dX2_release_223 (by decide +kernel) ?_
                          exact g_iret C rfl (Or.inr ⟨S, L, q, T, rfl, hS, rfl, hL, rfl, hq, rfl, hT, Or.inr (Or.inr (Or.inr (Or.inl (⟨f, c197, y1, e75, x1, rfl, rfl⟩))))⟩) (Nat.le_of_ble_eq_true rfl) (Nat.le_of_ble_eq_true rfl) dX2_release_225
                      · skip
                        exact absurd c213 (nI_nem1 (by omega))
                    · skip
                      have c204 := cb_eq0 c204
                      have y1 : (lisN lis lc S L T) = none := by rw [h70, c197, Bool.true_and] at c204; exact Option.not_isSome_iff_eq_none.mp (by rw [c204]; exact Bool.false_ne_true)
                      refine g_bipush (v := (-2)) C dX2_release_207 (by decide +kernel) ?_
                      exact g_iret C rfl (Or.inr ⟨S, L, q, T, rfl, hS, rfl, hL, rfl, hq, rfl, hT, Or.inr (Or.inl (⟨c197, y1, rfl, rfl⟩))⟩) (Nat.le_of_ble_eq_true rfl) (Nat.le_of_ble_eq_true rfl) dX2_release_209
                  · skip
                    have c197 := cb_eq0 c197
                    refine g_iconst (v := (-1)) C dX2_release_200 (by decide +kernel) ?_
                    exact g_iret C rfl (Or.inr ⟨S, L, q, T, rfl, hS, rfl, hL, rfl, hq, rfl, hT, Or.inl (⟨olab_f c197, rfl, rfl⟩)⟩) (Nat.le_of_ble_eq_true rfl) (Nat.le_of_ble_eq_true rfl) dX2_release_201
                · skip
                  cases h177.symm.trans (cb_eq1 c181)
              · skip
                refine g_iload C dX2_release_146 6 rfl ?_
                refine g_if_eq (tgt := 176) C dX2_release_148 (by decide) (fun c148 => ?_) (fun c148 => ?_)
                · skip
                  have c148 := cb_eq0 c148
                  refine g_iconst (v := nI 0) C dX2_release_176 (by decide +kernel) ?_
                  exact g_sub (lv' := [(0, .ref (a 0)), (1, .int (nI S)), (2, .int (nI L)), (3, .int (nI q)), (4, .int (nI T)), (5, .int (bI v70)), (6, .int (nI f)), (7, .int (nI g)), (8, .int (bI v143))]) [1, 2, 3, 4, 5, 6, 7, 8, 0] rfl (J177 false (by simp [c148]))
                · skip
                  have c148 := cb_eq1 c148
                  refine g_iload C dX2_release_151 0 rfl ?_
                  refine g_if_eq (tgt := 176) C dX2_release_153 (by decide) (fun c153 => ?_) (fun c153 => ?_)
                  · skip
                    have c153 := cb_eq0 c153
                    refine g_iconst (v := nI 0) C dX2_release_176 (by decide +kernel) ?_
                    exact g_sub (lv' := [(0, .ref (a 0)), (1, .int (nI S)), (2, .int (nI L)), (3, .int (nI q)), (4, .int (nI T)), (5, .int (bI v70)), (6, .int (nI f)), (7, .int (nI g)), (8, .int (bI v143))]) [1, 2, 3, 4, 5, 6, 7, 8, 0] rfl (J177 false (by simp [c148, c153]))
                  · skip
                    have c153 := cb_eq1 c153
                    refine g_iload C dX2_release_156 8 rfl ?_
                    refine g_iconst (v := (-1)) C dX2_release_158 (by decide +kernel) ?_
                    refine g_icmp_ne (tgt := 176) C dX2_release_159 (by decide) (fun c159 => ?_) (fun c159 => ?_)
                    · skip
                      refine g_iconst (v := nI 0) C dX2_release_176 (by decide +kernel) ?_
                      exact g_sub (lv' := [(0, .ref (a 0)), (1, .int (nI S)), (2, .int (nI L)), (3, .int (nI q)), (4, .int (nI T)), (5, .int (bI v70)), (6, .int (nI f)), (7, .int (nI g)), (8, .int (bI v143))]) [1, 2, 3, 4, 5, 6, 7, 8, 0] rfl (J177 false (by simp [c148, c153, c159]))
                    · skip
                      exact absurd c159 (nI_nem1 (by omega))
            · skip
              refine g_iload C dX2_release_89 1 rfl ?_
              refine g_iconst (v := (-1)) C dX2_release_91 (by decide +kernel) ?_
              refine g_icmp_eq (tgt := 142) C dX2_release_92 (by decide) (fun c92 => ?_) (fun c92 => ?_)
              · skip
                exact absurd c92 (nI_nem1 (by omega))
              · skip
                have u1 := usesN_le (nam := nam) (gif := gif) (giv := giv) (L := T) hspe hsiz hnf
                have u4 := hsiz f
                have u2 := countN_le (gif := gif) (giv := giv) (f := g) hsiz
                have u3 := countN_le_uses (spe := spe) (gif := gif) (siz := siz) (giv := giv) hq q84
                refine g_aload_n C dX2_release_95 rfl 3 rfl ?_
                refine g_iload C dX2_release_96 7 rfl ?_
                refine g_Vi (ci := 3) (st := []) C (k_X2_uses l D cy zs a lab has quo spe nam gif fol siz cel giv nf lis lc see cnt 0 ⟨hnf, hlc, hlab, hquo, hspe, hnam, hsiz, hcnt, hlis⟩ T (by omega)) gX2_release_X2_uses rfl ⟨rfl, ydX2_uses⟩ 0 rfl rfl ⟨Nat.le_of_ble_eq_true rfl, Nat.le_of_ble_eq_true rfl⟩ ⟨Nat.le_of_ble_eq_true rfl, Nat.le_of_ble_eq_true rfl⟩ rfl (Nat.le_of_ble_eq_true rfl) dX2_release_98 (fun r98 w98 h98 => ?_)
                obtain ⟨h98a, h98b⟩ := h98
                subst h98a
                subst h98b
                refine g_iload C dX2_release_101 0 rfl ?_
                refine g_iconst (v := (-1)) C dX2_release_103 (by decide +kernel) ?_
                refine g_icmp_ne (tgt := 111) C dX2_release_104 (by decide) (fun c104 => ?_) (fun c104 => ?_)
                · skip
                  refine g_aload_n C dX2_release_111 rfl 3 rfl ?_
                  refine g_iload C dX2_release_112 0 rfl ?_
                  refine g_Vi (ci := 3) (st := [.int (nI (usesN spe nam gif siz giv nf T))]) C (k_X2_countOf l D cy zs a lab has quo spe nam gif fol siz cel giv nf lis lc see cnt 0 ⟨hnf, hlc, hlab, hquo, hspe, hnam, hsiz, hcnt, hlis⟩ g (by omega)) gX2_release_X2_countOf rfl ⟨rfl, ydX2_countOf⟩ 0 rfl rfl ⟨Nat.le_of_ble_eq_true rfl, Nat.le_of_ble_eq_true rfl⟩ ⟨Nat.le_of_ble_eq_true rfl, Nat.le_of_ble_eq_true rfl⟩ rfl (Nat.le_of_ble_eq_true rfl) dX2_release_114 (fun r114 w114 h114 => ?_)
                  obtain ⟨h114a, h114b⟩ := h114
                  subst h114a
                  subst h114b
                  refine g_isub (v := nI ((usesN spe nam gif siz giv nf T) - (countN gif siz giv g))) C dX2_release_117 (pk_sub (by omega)) ?_
                  refine g_iconst (v := nI 1) C dX2_release_118 (by decide +kernel) ?_
                  refine g_iadd (v := nI (((usesN spe nam gif siz giv nf T) - (countN gif siz giv g)) + 1)) C dX2_release_119 (nI_add _ _) ?_
                  refine g_aload_n C dX2_release_120 rfl 3 rfl ?_
                  refine g_get (ci := 3) (v := .ref (a 8)) C iwX2_release_X2 0 rfl rfl 7 (by decide) (C.hw (List.mem_cons_of_mem _ (List.mem_append_left _ (List.mem_append_left _ (List.mem_of_getElem? (i := 1) rfl))))) (fun _ h9 => h9) rfl dX2_release_121 ?_
                  refine g_iload C dX2_release_124 1 rfl ?_
                  refine g_ialdN (nn := 200) (j := f) (f := siz) C 8 rfl (by omega) n31_200 dX2_release_126 ?_
                  have b126 := hsiz f
                  refine g_iadd (v := nI ((((usesN spe nam gif siz giv nf T) - (countN gif siz giv g)) + 1) + (siz f))) C dX2_release_127 (nI_add _ _) ?_
                  refine g_aload_n C dX2_release_128 rfl 3 rfl ?_
                  refine g_get (ci := 3) (v := .ref (a 3)) C iwX2_release_X2 0 rfl rfl 2 (by decide) (C.hw (List.mem_cons_of_mem _ (List.mem_append_left _ (List.mem_append_left _ (List.mem_of_getElem? (i := 2) rfl))))) (fun _ h9 => h9) rfl dX2_release_129 ?_
                  refine g_iload C dX2_release_132 7 rfl ?_
                  refine g_ialdN (nn := 1024) (j := T) (f := quo) C 3 rfl (by omega) n31_1024 dX2_release_134 ?_
                  have b134 := hquo T
                  refine g_icmp_gt (tgt := 142) C dX2_release_135 (by decide) (fun c135 => ?_) (fun c135 => ?_)
                  · skip
                    have c135 := c_gt0 (by omega) (by omega) c135
                    refine g_iconst (v := nI 0) C dX2_release_142 (by decide +kernel) ?_
                    exact g_sub (lv' := [(0, .ref (a 0)), (1, .int (nI S)), (2, .int (nI L)), (3, .int (nI q)), (4, .int (nI T)), (5, .int (bI v70)), (6, .int (nI f)), (7, .int (nI g))]) [3, 4, 5, 6, 7, 2, 1, 0] rfl (J143 false (show fitN (usesN spe nam gif siz giv nf T) (((findN nam nf (16 * T + q)).map (countN gif siz giv)).getD 0) (siz f) (quo T) = false from decide_eq_false (by rw [e84]; exact Nat.not_le.mpr c135)).symm)
                  · skip
                    have c135 := c_gt1 (by omega) (by omega) c135
                    refine g_iconst (v := nI 1) C dX2_release_138 (by decide +kernel) ?_
                    refine g_goto (tgt := 143) C dX2_release_139 (by decide) ?_
                    exact g_sub (lv' := [(0, .ref (a 0)), (1, .int (nI S)), (2, .int (nI L)), (3, .int (nI q)), (4, .int (nI T)), (5, .int (bI v70)), (6, .int (nI f)), (7, .int (nI g))]) [3, 4, 5, 6, 7, 2, 1, 0] rfl (J143 true (show fitN (usesN spe nam gif siz giv nf T) (((findN nam nf (16 * T + q)).map (countN gif siz giv)).getD 0) (siz f) (quo T) = true from decide_eq_true (by rw [e84]; exact c135)).symm)
                · skip
                  exact absurd c104 (nI_nem1 (by omega))
      · skip
        refine g_aload_n C dX2_release_44 rfl 0 rfl ?_
        refine g_get (ci := 3) (v := .ref (a 2)) C iwX2_release_X2 0 rfl rfl 1 (by decide) (C.hw (List.mem_cons_of_mem _ (List.mem_append_left _ (List.mem_append_left _ (List.mem_of_getElem? (i := 0) rfl))))) (fun _ h9 => h9) rfl dX2_release_45 ?_
        refine g_iload_n C dX2_release_48 rfl 1 rfl ?_
        refine g_zaldB (nn := 16) (j := S) (f := has) C 2 rfl (by omega) n31_16 dX2_release_49 ?_
        refine g_if_eq (tgt := 69) C dX2_release_50 (by decide) (fun c50 => ?_) (fun c50 => ?_)
        · skip
          have c50 := cb_eq0 c50
          refine g_iconst (v := nI 0) C dX2_release_69 (by decide +kernel) ?_
          exact g_sub (lv' := [(0, .ref (a 0)), (1, .int (nI S)), (2, .int (nI L)), (3, .int (nI q)), (4, .int (nI T))]) [0, 1, 2, 3, 4] rfl (J70 false (by simp [c50]))
        · skip
          have c50 := cb_eq1 c50
          refine g_aload_n C dX2_release_53 rfl 0 rfl ?_
          refine g_iload_n C dX2_release_54 rfl 1 rfl ?_
          refine g_iload_n C dX2_release_55 rfl 2 rfl ?_
          refine g_iload C dX2_release_56 4 rfl ?_
          refine g_Vi (ci := 3) (st := []) C (k_X2_listOf l D cy zs a lab has quo spe nam gif fol siz cel giv nf lis lc see cnt 0 ⟨hnf, hlc, hlab, hquo, hspe, hnam, hsiz, hcnt, hlis⟩ S L T (by omega) (by omega) (by omega)) gX2_release_X2_listOf rfl ⟨rfl, ydX2_listOf⟩ 0 rfl rfl ⟨Nat.le_of_ble_eq_true rfl, Nat.le_of_ble_eq_true rfl⟩ ⟨Nat.le_of_ble_eq_true rfl, Nat.le_of_ble_eq_true rfl⟩ rfl (Nat.le_of_ble_eq_true rfl) dX2_release_58 (fun r58 w58 h58 => ?_)
          obtain ⟨h58a, h58b⟩ := h58
          subst h58a
          subst h58b
          rcases e58 : lisN lis lc S L T with _ | k0
          · skip
            refine g_iconst (v := (-1)) C dX2_release_61 (by decide +kernel) ?_
            refine g_icmp_eq (tgt := 69) C dX2_release_62 (by decide) (fun c62 => ?_) (fun c62 => ?_)
            · skip
              refine g_iconst (v := nI 0) C dX2_release_69 (by decide +kernel) ?_
              exact g_sub (lv' := [(0, .ref (a 0)), (1, .int (nI S)), (2, .int (nI L)), (3, .int (nI q)), (4, .int (nI T))]) [0, 1, 2, 3, 4] rfl (J70 false (by simp [c50, e58, c62]))
            · skip
              exact absurd rfl c62
          · skip
            have q58 := lisN_spec e58
            refine g_iconst (v := (-1)) C dX2_release_61 (by decide +kernel) ?_
            refine g_icmp_eq (tgt := 69) C dX2_release_62 (by decide) (fun c62 => ?_) (fun c62 => ?_)
            · skip
              exact absurd c62 (nI_nem1 (by omega))
            · skip
              refine g_iconst (v := nI 1) C dX2_release_65 (by decide +kernel) ?_
              refine g_goto (tgt := 70) C dX2_release_66 (by decide) ?_
              exact g_sub (lv' := [(0, .ref (a 0)), (1, .int (nI S)), (2, .int (nI L)), (3, .int (nI q)), (4, .int (nI T))]) [0, 1, 2, 3, 4] rfl (J70 true (by simp [c50, e58, c62]))
    · skip
      have c39 := cb_eq1 c39
      subst c39
      refine g_iconst (v := nI 0) C dX2_release_42 (by decide +kernel) ?_
      exact g_iret C rfl (Or.inl ⟨h35.symm, rfl, rfl⟩) (Nat.le_of_ble_eq_true rfl) (Nat.le_of_ble_eq_true rfl) dX2_release_43
  · skip
    refine g_iload_n C dX2_release_1 rfl 1 rfl ?_
    refine g_Si (st := [.ref (a 0)]) C (k_X2_isSubject l D cy zs (wM cy a lab has quo spe nam gif fol siz cel giv nf lis lc see cnt thr) p0) gX2_release_X2_isSubject rfl ydX2_isSubject ⟨Nat.le_of_ble_eq_true rfl, Nat.le_of_ble_eq_true rfl⟩ ⟨Nat.le_of_ble_eq_true rfl, Nat.le_of_ble_eq_true rfl⟩ rfl (Nat.le_of_ble_eq_true rfl) dX2_release_2 (fun r2 w2 h2 => ?_)
    obtain ⟨h2a, h2b⟩ := h2
    subst h2a
    subst h2b
    refine g_if_eq (tgt := 30) C dX2_release_5 (by decide) (fun c5 => ?_) (fun c5 => ?_)
    · skip
      have c5 := cb_eq0 c5
      refine g_iconst (v := nI 1) C dX2_release_30 (by decide +kernel) ?_
      refine g_goto (tgt := 35) C dX2_release_31 (by decide) ?_
      exact g_sub (lv' := [(0, .ref (a 0)), (1, .int p0), (2, .int p1), (3, .int p2), (4, .int p3)]) [0, 1, 2, 3, 4] rfl (J35 true (by simp [c5]))
    · skip
      have c5 := cb_eq1 c5
      refine g_iload_n C dX2_release_8 rfl 2 rfl ?_
      refine g_Si (st := [.ref (a 0)]) C (k_X2_isLabel l D cy zs (wM cy a lab has quo spe nam gif fol siz cel giv nf lis lc see cnt thr) p1) gX2_release_X2_isLabel rfl ydX2_isLabel ⟨Nat.le_of_ble_eq_true rfl, Nat.le_of_ble_eq_true rfl⟩ ⟨Nat.le_of_ble_eq_true rfl, Nat.le_of_ble_eq_true rfl⟩ rfl (Nat.le_of_ble_eq_true rfl) dX2_release_9 (fun r9 w9 h9 => ?_)
      obtain ⟨h9a, h9b⟩ := h9
      subst h9a
      subst h9b
      refine g_if_eq (tgt := 30) C dX2_release_12 (by decide) (fun c12 => ?_) (fun c12 => ?_)
      · skip
        have c12 := cb_eq0 c12
        refine g_iconst (v := nI 1) C dX2_release_30 (by decide +kernel) ?_
        refine g_goto (tgt := 35) C dX2_release_31 (by decide) ?_
        exact g_sub (lv' := [(0, .ref (a 0)), (1, .int p0), (2, .int p1), (3, .int p2), (4, .int p3)]) [0, 1, 2, 3, 4] rfl (J35 true (by simp [c5, c12]))
      · skip
        have c12 := cb_eq1 c12
        refine g_iload_n C dX2_release_15 rfl 3 rfl ?_
        refine g_Si (st := [.ref (a 0)]) C (k_X2_isNumber l D cy zs (wM cy a lab has quo spe nam gif fol siz cel giv nf lis lc see cnt thr) p2) gX2_release_X2_isNumber rfl ydX2_isNumber ⟨Nat.le_of_ble_eq_true rfl, Nat.le_of_ble_eq_true rfl⟩ ⟨Nat.le_of_ble_eq_true rfl, Nat.le_of_ble_eq_true rfl⟩ rfl (Nat.le_of_ble_eq_true rfl) dX2_release_16 (fun r16 w16 h16 => ?_)
        obtain ⟨h16a, h16b⟩ := h16
        subst h16a
        subst h16b
        refine g_if_eq (tgt := 30) C dX2_release_19 (by decide) (fun c19 => ?_) (fun c19 => ?_)
        · skip
          have c19 := cb_eq0 c19
          refine g_iconst (v := nI 1) C dX2_release_30 (by decide +kernel) ?_
          refine g_goto (tgt := 35) C dX2_release_31 (by decide) ?_
          exact g_sub (lv' := [(0, .ref (a 0)), (1, .int p0), (2, .int p1), (3, .int p2), (4, .int p3)]) [0, 1, 2, 3, 4] rfl (J35 true (by simp [c5, c12, c19]))
        · skip
          have c19 := cb_eq1 c19
          refine g_iload C dX2_release_22 4 rfl ?_
          refine g_Si (st := [.ref (a 0)]) C (k_X2_isLabel l D cy zs (wM cy a lab has quo spe nam gif fol siz cel giv nf lis lc see cnt thr) p3) gX2_release_X2_isLabel rfl ydX2_isLabel ⟨Nat.le_of_ble_eq_true rfl, Nat.le_of_ble_eq_true rfl⟩ ⟨Nat.le_of_ble_eq_true rfl, Nat.le_of_ble_eq_true rfl⟩ rfl (Nat.le_of_ble_eq_true rfl) dX2_release_24 (fun r24 w24 h24 => ?_)
          obtain ⟨h24a, h24b⟩ := h24
          subst h24a
          subst h24b
          refine g_if_ne (tgt := 34) C dX2_release_27 (by decide) (fun c27 => ?_) (fun c27 => ?_)
          · skip
            have c27 := cb_eq1 c27
            refine g_iconst (v := nI 0) C dX2_release_34 (by decide +kernel) ?_
            exact g_sub (lv' := [(0, .ref (a 0)), (1, .int p0), (2, .int p1), (3, .int p2), (4, .int p3)]) [0, 1, 2, 3, 4] rfl (J35 false (by simp [c5, c12, c19, c27]))
          · skip
            have c27 := cb_eq0 c27
            refine g_iconst (v := nI 1) C dX2_release_30 (by decide +kernel) ?_
            refine g_goto (tgt := 35) C dX2_release_31 (by decide) ?_
            exact g_sub (lv' := [(0, .ref (a 0)), (1, .int p0), (2, .int p1), (3, .int p2), (4, .int p3)]) [0, 1, 2, 3, 4] rfl (J35 true (by simp [c5, c12, c19, c27]))
def aM (h q1 q2 q3 q4 q5 q6 q7 q8 q9 q10 q11 q12 q13 : Nat) : Nat → Nat := fun k => match k with
  | 0 => h
  | 1 => q1
  | 2 => q2
  | 3 => q3
  | 4 => q4
  | 5 => q5
  | 6 => q6
  | 7 => q7
  | 8 => q8
  | 9 => q9
  | 10 => q10
  | 11 => q11
  | 12 => q12
  | _ => q13
theorem g_weq {p : Program} {l : Launch} {e : Env} {R : Room} {s : State} {m : MethodId} {args : Array Value} {below : List Frame} {meth : Method} {c : Code} {D : va_G} {A : Nat → Prop} {nL : Nat} {Q : State → Prop} {ws ws' : va_W} {k n : Nat} {lv : List (Nat × Value)} {pc : Nat} {st : List Value} (h : ws = ws') (K : GG p l e R s m args below meth c D A nL Q ws' k n lv pc st) : GG p l e R s m args below meth c D A nL Q ws k n lv pc st := h ▸ K
theorem quo_s {k : Nat} : va_up (fun i => if i < k then 40 else 0) k 40 = fun i => if i < k + 1 then 40 else 0 := by
  funext i
  unfold va_up
  by_cases e : i = k
  · rw [if_pos e, if_pos (by omega)]
  · rw [if_neg e]
    show (if i < k then 40 else 0) = if i < k + 1 then 40 else 0
    by_cases f : i < k
    · rw [if_pos f, if_pos (by omega)]
    · rw [if_neg f, if_neg (by omega)]
abbrev rmX2_init : Room := { frames := 1, cells := 13, slots := 15792, locals := 40 }
theorem ydX2_init : yX2_init.cls ≠ "java/lang/invoke/MethodHandle" ∧ yX2_init.cls ≠ "java/lang/invoke/VarHandle" ∧ (parseMethodDescriptor yX2_init.desc).map (fun d => d.parameters.length) = some 0 := by decide +kernel
theorem iwX2_init_X2 : ∀ w ∈ u_ws RX2 TX2 16, w ∈ wsX2_init := fun _ h => (List.mem_cons_of_mem _ (List.mem_append_right _ h))
set_option maxRecDepth 100000 in
set_option maxHeartbeats 4000000 in
theorem k_X2_init (l : Launch) (D : va_G) (cy : Nat → ClassId) (zs : Nat → Nat) (h : Nat) : Mv l D cy zs yX2_init wsX2_init rmX2_init [.ref h] [(h, .inr (3, [.null, .null, .null, .null, .null, .null, .null, .null, .null, .null, .int 0, .null, .int 0, .null, .null, .int 0]))] (fun w => ∃ a : Nat → Nat, a 0 = h ∧ w = wM cy a (fun _ => 0) (fun _ => false) (fun i => if i < 1024 then 40 else 0) (fun _ => 0) (fun _ => 0) (fun _ => false) (fun _ => 0) (fun _ => 0) (fun _ => 0) (fun _ => false) 0 (fun _ => 0) 0 (fun _ => 0) (fun _ => 0) 0) := by
  refine Mv.of (lv := [(0, .ref h)]) RX2 ⟨by decide, rfl⟩ rfl (Nat.le_of_ble_eq_true rfl) rfl ?_
  intro p e s m args below meth c A C hnm
  refine g_aload_n C dX2_init_0 rfl 0 rfl ?_
  refine g_init C (C.hw (List.mem_cons_of_mem _ (List.mem_append_left _ (List.mem_of_getElem? (i := 0) rfl)))) (C.hw (List.mem_cons_of_mem _ (List.mem_append_left _ (List.mem_of_getElem? (i := 1) rfl)))) (C.hw (List.mem_cons_of_mem _ (List.mem_append_left _ (List.mem_of_getElem? (i := 2) rfl)))) dX2_init_1 (by decide) (by decide) ?_
  refine g_aload_n C dX2_init_4 rfl 0 rfl ?_
  refine g_bipush (v := nI 16) C dX2_init_5 (by decide +kernel) ?_
  refine g_newI C 16 (C.hw (List.mem_cons_of_mem _ (List.mem_append_left _ (List.mem_of_getElem? (i := 3) rfl)))) (by decide +kernel) (by decide +kernel) (Nat.le_of_ble_eq_true rfl) (Nat.le_of_ble_eq_true rfl) (Nat.le_of_ble_eq_true rfl) dX2_init_7 (fun q1 => ?_)
  refine g_putF (ci := 3) (ty := .array .int) (v := .ref q1) (ws' := [(h, .inr (3, [.ref q1, .null, .null, .null, .null, .null, .null, .null, .null, .null, .int 0, .null, .int 0, .null, .null, .int 0])), (q1, .inl (cy 0, 16, .inl (fun _ => 0)))]) C iwX2_init_X2 tyX2 tyX2_ok nmX2 0 rfl rfl 0 (by decide) (C.hw (List.mem_cons_of_mem _ (List.mem_append_left _ (List.mem_of_getElem? (i := 4) rfl)))) (fun _ h9 => h9) rfl hnm rfl (by decide +kernel) rfl rfl (Nat.le_of_ble_eq_true rfl) rfl dX2_init_9 ?_
  refine g_aload_n C dX2_init_12 rfl 0 rfl ?_
  refine g_bipush (v := nI 16) C dX2_init_13 (by decide +kernel) ?_
  refine g_newZ C 16 (C.hw (List.mem_cons_of_mem _ (List.mem_append_left _ (List.mem_of_getElem? (i := 5) rfl)))) (by decide +kernel) (by decide +kernel) (Nat.le_of_ble_eq_true rfl) (Nat.le_of_ble_eq_true rfl) (Nat.le_of_ble_eq_true rfl) dX2_init_15 (fun q2 => ?_)
  refine g_putF (ci := 3) (ty := .array .boolean) (v := .ref q2) (ws' := [(h, .inr (3, [.ref q1, .ref q2, .null, .null, .null, .null, .null, .null, .null, .null, .int 0, .null, .int 0, .null, .null, .int 0])), (q1, .inl (cy 0, 16, .inl (fun _ => 0))), (q2, .inl (cy 1, 16, .inl (fun _ => 0)))]) C iwX2_init_X2 tyX2 tyX2_ok nmX2 0 rfl rfl 1 (by decide) (C.hw (List.mem_cons_of_mem _ (List.mem_append_left _ (List.mem_of_getElem? (i := 6) rfl)))) (fun _ h9 => h9) rfl hnm rfl (by decide +kernel) rfl rfl (Nat.le_of_ble_eq_true rfl) rfl dX2_init_17 ?_
  refine g_aload_n C dX2_init_20 rfl 0 rfl ?_
  refine g_sipush (v := nI 1024) C dX2_init_21 (by decide +kernel) ?_
  refine g_newI C 1024 (C.hw (List.mem_cons_of_mem _ (List.mem_append_left _ (List.mem_of_getElem? (i := 3) rfl)))) (by decide +kernel) (by decide +kernel) (Nat.le_of_ble_eq_true rfl) (Nat.le_of_ble_eq_true rfl) (Nat.le_of_ble_eq_true rfl) dX2_init_24 (fun q3 => ?_)
  refine g_putF (ci := 3) (ty := .array .int) (v := .ref q3) (ws' := [(h, .inr (3, [.ref q1, .ref q2, .ref q3, .null, .null, .null, .null, .null, .null, .null, .int 0, .null, .int 0, .null, .null, .int 0])), (q1, .inl (cy 0, 16, .inl (fun _ => 0))), (q2, .inl (cy 1, 16, .inl (fun _ => 0))), (q3, .inl (cy 0, 1024, .inl (fun _ => 0)))]) C iwX2_init_X2 tyX2 tyX2_ok nmX2 0 rfl rfl 2 (by decide) (C.hw (List.mem_cons_of_mem _ (List.mem_append_left _ (List.mem_of_getElem? (i := 7) rfl)))) (fun _ h9 => h9) rfl hnm rfl (by decide +kernel) rfl rfl (Nat.le_of_ble_eq_true rfl) rfl dX2_init_26 ?_
  refine g_aload_n C dX2_init_29 rfl 0 rfl ?_
  refine g_sipush (v := nI 1024) C dX2_init_30 (by decide +kernel) ?_
  refine g_newI C 1024 (C.hw (List.mem_cons_of_mem _ (List.mem_append_left _ (List.mem_of_getElem? (i := 3) rfl)))) (by decide +kernel) (by decide +kernel) (Nat.le_of_ble_eq_true rfl) (Nat.le_of_ble_eq_true rfl) (Nat.le_of_ble_eq_true rfl) dX2_init_33 (fun q4 => ?_)
  refine g_putF (ci := 3) (ty := .array .int) (v := .ref q4) (ws' := [(h, .inr (3, [.ref q1, .ref q2, .ref q3, .ref q4, .null, .null, .null, .null, .null, .null, .int 0, .null, .int 0, .null, .null, .int 0])), (q1, .inl (cy 0, 16, .inl (fun _ => 0))), (q2, .inl (cy 1, 16, .inl (fun _ => 0))), (q3, .inl (cy 0, 1024, .inl (fun _ => 0))), (q4, .inl (cy 0, 1024, .inl (fun _ => 0)))]) C iwX2_init_X2 tyX2 tyX2_ok nmX2 0 rfl rfl 3 (by decide) (C.hw (List.mem_cons_of_mem _ (List.mem_append_left _ (List.mem_of_getElem? (i := 8) rfl)))) (fun _ h9 => h9) rfl hnm rfl (by decide +kernel) rfl rfl (Nat.le_of_ble_eq_true rfl) rfl dX2_init_35 ?_
  refine g_aload_n C dX2_init_38 rfl 0 rfl ?_
  refine g_sipush (v := nI 200) C dX2_init_39 (by decide +kernel) ?_
  refine g_newI C 200 (C.hw (List.mem_cons_of_mem _ (List.mem_append_left _ (List.mem_of_getElem? (i := 3) rfl)))) (by decide +kernel) (by decide +kernel) (Nat.le_of_ble_eq_true rfl) (Nat.le_of_ble_eq_true rfl) (Nat.le_of_ble_eq_true rfl) dX2_init_42 (fun q5 => ?_)
  refine g_putF (ci := 3) (ty := .array .int) (v := .ref q5) (ws' := [(h, .inr (3, [.ref q1, .ref q2, .ref q3, .ref q4, .ref q5, .null, .null, .null, .null, .null, .int 0, .null, .int 0, .null, .null, .int 0])), (q1, .inl (cy 0, 16, .inl (fun _ => 0))), (q2, .inl (cy 1, 16, .inl (fun _ => 0))), (q3, .inl (cy 0, 1024, .inl (fun _ => 0))), (q4, .inl (cy 0, 1024, .inl (fun _ => 0))), (q5, .inl (cy 0, 200, .inl (fun _ => 0)))]) C iwX2_init_X2 tyX2 tyX2_ok nmX2 0 rfl rfl 4 (by decide) (C.hw (List.mem_cons_of_mem _ (List.mem_append_left _ (List.mem_of_getElem? (i := 9) rfl)))) (fun _ h9 => h9) rfl hnm rfl (by decide +kernel) rfl rfl (Nat.le_of_ble_eq_true rfl) rfl dX2_init_44 ?_
  refine g_aload_n C dX2_init_47 rfl 0 rfl ?_
  refine g_sipush (v := nI 200) C dX2_init_48 (by decide +kernel) ?_
  refine g_newZ C 200 (C.hw (List.mem_cons_of_mem _ (List.mem_append_left _ (List.mem_of_getElem? (i := 5) rfl)))) (by decide +kernel) (by decide +kernel) (Nat.le_of_ble_eq_true rfl) (Nat.le_of_ble_eq_true rfl) (Nat.le_of_ble_eq_true rfl) dX2_init_51 (fun q6 => ?_)
  refine g_putF (ci := 3) (ty := .array .boolean) (v := .ref q6) (ws' := [(h, .inr (3, [.ref q1, .ref q2, .ref q3, .ref q4, .ref q5, .ref q6, .null, .null, .null, .null, .int 0, .null, .int 0, .null, .null, .int 0])), (q1, .inl (cy 0, 16, .inl (fun _ => 0))), (q2, .inl (cy 1, 16, .inl (fun _ => 0))), (q3, .inl (cy 0, 1024, .inl (fun _ => 0))), (q4, .inl (cy 0, 1024, .inl (fun _ => 0))), (q5, .inl (cy 0, 200, .inl (fun _ => 0))), (q6, .inl (cy 1, 200, .inl (fun _ => 0)))]) C iwX2_init_X2 tyX2 tyX2_ok nmX2 0 rfl rfl 5 (by decide) (C.hw (List.mem_cons_of_mem _ (List.mem_append_left _ (List.mem_of_getElem? (i := 10) rfl)))) (fun _ h9 => h9) rfl hnm rfl (by decide +kernel) rfl rfl (Nat.le_of_ble_eq_true rfl) rfl dX2_init_53 ?_
  refine g_aload_n C dX2_init_56 rfl 0 rfl ?_
  refine g_sipush (v := nI 200) C dX2_init_57 (by decide +kernel) ?_
  refine g_newI C 200 (C.hw (List.mem_cons_of_mem _ (List.mem_append_left _ (List.mem_of_getElem? (i := 3) rfl)))) (by decide +kernel) (by decide +kernel) (Nat.le_of_ble_eq_true rfl) (Nat.le_of_ble_eq_true rfl) (Nat.le_of_ble_eq_true rfl) dX2_init_60 (fun q7 => ?_)
  refine g_putF (ci := 3) (ty := .array .int) (v := .ref q7) (ws' := [(h, .inr (3, [.ref q1, .ref q2, .ref q3, .ref q4, .ref q5, .ref q6, .ref q7, .null, .null, .null, .int 0, .null, .int 0, .null, .null, .int 0])), (q1, .inl (cy 0, 16, .inl (fun _ => 0))), (q2, .inl (cy 1, 16, .inl (fun _ => 0))), (q3, .inl (cy 0, 1024, .inl (fun _ => 0))), (q4, .inl (cy 0, 1024, .inl (fun _ => 0))), (q5, .inl (cy 0, 200, .inl (fun _ => 0))), (q6, .inl (cy 1, 200, .inl (fun _ => 0))), (q7, .inl (cy 0, 200, .inl (fun _ => 0)))]) C iwX2_init_X2 tyX2 tyX2_ok nmX2 0 rfl rfl 6 (by decide) (C.hw (List.mem_cons_of_mem _ (List.mem_append_left _ (List.mem_of_getElem? (i := 11) rfl)))) (fun _ h9 => h9) rfl hnm rfl (by decide +kernel) rfl rfl (Nat.le_of_ble_eq_true rfl) rfl dX2_init_62 ?_
  refine g_aload_n C dX2_init_65 rfl 0 rfl ?_
  refine g_sipush (v := nI 200) C dX2_init_66 (by decide +kernel) ?_
  refine g_newI C 200 (C.hw (List.mem_cons_of_mem _ (List.mem_append_left _ (List.mem_of_getElem? (i := 3) rfl)))) (by decide +kernel) (by decide +kernel) (Nat.le_of_ble_eq_true rfl) (Nat.le_of_ble_eq_true rfl) (Nat.le_of_ble_eq_true rfl) dX2_init_69 (fun q8 => ?_)
  refine g_putF (ci := 3) (ty := .array .int) (v := .ref q8) (ws' := [(h, .inr (3, [.ref q1, .ref q2, .ref q3, .ref q4, .ref q5, .ref q6, .ref q7, .ref q8, .null, .null, .int 0, .null, .int 0, .null, .null, .int 0])), (q1, .inl (cy 0, 16, .inl (fun _ => 0))), (q2, .inl (cy 1, 16, .inl (fun _ => 0))), (q3, .inl (cy 0, 1024, .inl (fun _ => 0))), (q4, .inl (cy 0, 1024, .inl (fun _ => 0))), (q5, .inl (cy 0, 200, .inl (fun _ => 0))), (q6, .inl (cy 1, 200, .inl (fun _ => 0))), (q7, .inl (cy 0, 200, .inl (fun _ => 0))), (q8, .inl (cy 0, 200, .inl (fun _ => 0)))]) C iwX2_init_X2 tyX2 tyX2_ok nmX2 0 rfl rfl 7 (by decide) (C.hw (List.mem_cons_of_mem _ (List.mem_append_left _ (List.mem_of_getElem? (i := 12) rfl)))) (fun _ h9 => h9) rfl hnm rfl (by decide +kernel) rfl rfl (Nat.le_of_ble_eq_true rfl) rfl dX2_init_71 ?_
  refine g_aload_n C dX2_init_74 rfl 0 rfl ?_
  refine g_sipush (v := nI 4800) C dX2_init_75 (by decide +kernel) ?_
  refine g_newI C 4800 (C.hw (List.mem_cons_of_mem _ (List.mem_append_left _ (List.mem_of_getElem? (i := 3) rfl)))) (by decide +kernel) (by decide +kernel) (Nat.le_of_ble_eq_true rfl) (Nat.le_of_ble_eq_true rfl) (Nat.le_of_ble_eq_true rfl) dX2_init_78 (fun q9 => ?_)
  refine g_putF (ci := 3) (ty := .array .int) (v := .ref q9) (ws' := [(h, .inr (3, [.ref q1, .ref q2, .ref q3, .ref q4, .ref q5, .ref q6, .ref q7, .ref q8, .ref q9, .null, .int 0, .null, .int 0, .null, .null, .int 0])), (q1, .inl (cy 0, 16, .inl (fun _ => 0))), (q2, .inl (cy 1, 16, .inl (fun _ => 0))), (q3, .inl (cy 0, 1024, .inl (fun _ => 0))), (q4, .inl (cy 0, 1024, .inl (fun _ => 0))), (q5, .inl (cy 0, 200, .inl (fun _ => 0))), (q6, .inl (cy 1, 200, .inl (fun _ => 0))), (q7, .inl (cy 0, 200, .inl (fun _ => 0))), (q8, .inl (cy 0, 200, .inl (fun _ => 0))), (q9, .inl (cy 0, 4800, .inl (fun _ => 0)))]) C iwX2_init_X2 tyX2 tyX2_ok nmX2 0 rfl rfl 8 (by decide) (C.hw (List.mem_cons_of_mem _ (List.mem_append_left _ (List.mem_of_getElem? (i := 13) rfl)))) (fun _ h9 => h9) rfl hnm rfl (by decide +kernel) rfl rfl (Nat.le_of_ble_eq_true rfl) rfl dX2_init_80 ?_
  refine g_aload_n C dX2_init_83 rfl 0 rfl ?_
  refine g_sipush (v := nI 4800) C dX2_init_84 (by decide +kernel) ?_
  refine g_newZ C 4800 (C.hw (List.mem_cons_of_mem _ (List.mem_append_left _ (List.mem_of_getElem? (i := 5) rfl)))) (by decide +kernel) (by decide +kernel) (Nat.le_of_ble_eq_true rfl) (Nat.le_of_ble_eq_true rfl) (Nat.le_of_ble_eq_true rfl) dX2_init_87 (fun q10 => ?_)
  refine g_putF (ci := 3) (ty := .array .boolean) (v := .ref q10) (ws' := [(h, .inr (3, [.ref q1, .ref q2, .ref q3, .ref q4, .ref q5, .ref q6, .ref q7, .ref q8, .ref q9, .ref q10, .int 0, .null, .int 0, .null, .null, .int 0])), (q1, .inl (cy 0, 16, .inl (fun _ => 0))), (q2, .inl (cy 1, 16, .inl (fun _ => 0))), (q3, .inl (cy 0, 1024, .inl (fun _ => 0))), (q4, .inl (cy 0, 1024, .inl (fun _ => 0))), (q5, .inl (cy 0, 200, .inl (fun _ => 0))), (q6, .inl (cy 1, 200, .inl (fun _ => 0))), (q7, .inl (cy 0, 200, .inl (fun _ => 0))), (q8, .inl (cy 0, 200, .inl (fun _ => 0))), (q9, .inl (cy 0, 4800, .inl (fun _ => 0))), (q10, .inl (cy 1, 4800, .inl (fun _ => 0)))]) C iwX2_init_X2 tyX2 tyX2_ok nmX2 0 rfl rfl 9 (by decide) (C.hw (List.mem_cons_of_mem _ (List.mem_append_left _ (List.mem_of_getElem? (i := 14) rfl)))) (fun _ h9 => h9) rfl hnm rfl (by decide +kernel) rfl rfl (Nat.le_of_ble_eq_true rfl) rfl dX2_init_89 ?_
  refine g_aload_n C dX2_init_92 rfl 0 rfl ?_
  refine g_bipush (v := nI 96) C dX2_init_93 (by decide +kernel) ?_
  refine g_newI C 96 (C.hw (List.mem_cons_of_mem _ (List.mem_append_left _ (List.mem_of_getElem? (i := 3) rfl)))) (by decide +kernel) (by decide +kernel) (Nat.le_of_ble_eq_true rfl) (Nat.le_of_ble_eq_true rfl) (Nat.le_of_ble_eq_true rfl) dX2_init_95 (fun q11 => ?_)
  refine g_putF (ci := 3) (ty := .array .int) (v := .ref q11) (ws' := [(h, .inr (3, [.ref q1, .ref q2, .ref q3, .ref q4, .ref q5, .ref q6, .ref q7, .ref q8, .ref q9, .ref q10, .int 0, .ref q11, .int 0, .null, .null, .int 0])), (q1, .inl (cy 0, 16, .inl (fun _ => 0))), (q2, .inl (cy 1, 16, .inl (fun _ => 0))), (q3, .inl (cy 0, 1024, .inl (fun _ => 0))), (q4, .inl (cy 0, 1024, .inl (fun _ => 0))), (q5, .inl (cy 0, 200, .inl (fun _ => 0))), (q6, .inl (cy 1, 200, .inl (fun _ => 0))), (q7, .inl (cy 0, 200, .inl (fun _ => 0))), (q8, .inl (cy 0, 200, .inl (fun _ => 0))), (q9, .inl (cy 0, 4800, .inl (fun _ => 0))), (q10, .inl (cy 1, 4800, .inl (fun _ => 0))), (q11, .inl (cy 0, 96, .inl (fun _ => 0)))]) C iwX2_init_X2 tyX2 tyX2_ok nmX2 0 rfl rfl 11 (by decide) (C.hw (List.mem_cons_of_mem _ (List.mem_append_left _ (List.mem_of_getElem? (i := 15) rfl)))) (fun _ h9 => h9) rfl hnm rfl (by decide +kernel) rfl rfl (Nat.le_of_ble_eq_true rfl) rfl dX2_init_97 ?_
  refine g_aload_n C dX2_init_100 rfl 0 rfl ?_
  refine g_sipush (v := nI 3200) C dX2_init_101 (by decide +kernel) ?_
  refine g_newI C 3200 (C.hw (List.mem_cons_of_mem _ (List.mem_append_left _ (List.mem_of_getElem? (i := 3) rfl)))) (by decide +kernel) (by decide +kernel) (Nat.le_of_ble_eq_true rfl) (Nat.le_of_ble_eq_true rfl) (Nat.le_of_ble_eq_true rfl) dX2_init_104 (fun q12 => ?_)
  refine g_putF (ci := 3) (ty := .array .int) (v := .ref q12) (ws' := [(h, .inr (3, [.ref q1, .ref q2, .ref q3, .ref q4, .ref q5, .ref q6, .ref q7, .ref q8, .ref q9, .ref q10, .int 0, .ref q11, .int 0, .ref q12, .null, .int 0])), (q1, .inl (cy 0, 16, .inl (fun _ => 0))), (q2, .inl (cy 1, 16, .inl (fun _ => 0))), (q3, .inl (cy 0, 1024, .inl (fun _ => 0))), (q4, .inl (cy 0, 1024, .inl (fun _ => 0))), (q5, .inl (cy 0, 200, .inl (fun _ => 0))), (q6, .inl (cy 1, 200, .inl (fun _ => 0))), (q7, .inl (cy 0, 200, .inl (fun _ => 0))), (q8, .inl (cy 0, 200, .inl (fun _ => 0))), (q9, .inl (cy 0, 4800, .inl (fun _ => 0))), (q10, .inl (cy 1, 4800, .inl (fun _ => 0))), (q11, .inl (cy 0, 96, .inl (fun _ => 0))), (q12, .inl (cy 0, 3200, .inl (fun _ => 0)))]) C iwX2_init_X2 tyX2 tyX2_ok nmX2 0 rfl rfl 13 (by decide) (C.hw (List.mem_cons_of_mem _ (List.mem_append_left _ (List.mem_of_getElem? (i := 16) rfl)))) (fun _ h9 => h9) rfl hnm rfl (by decide +kernel) rfl rfl (Nat.le_of_ble_eq_true rfl) rfl dX2_init_106 ?_
  refine g_aload_n C dX2_init_109 rfl 0 rfl ?_
  refine g_bipush (v := nI 16) C dX2_init_110 (by decide +kernel) ?_
  refine g_newI C 16 (C.hw (List.mem_cons_of_mem _ (List.mem_append_left _ (List.mem_of_getElem? (i := 3) rfl)))) (by decide +kernel) (by decide +kernel) (Nat.le_of_ble_eq_true rfl) (Nat.le_of_ble_eq_true rfl) (Nat.le_of_ble_eq_true rfl) dX2_init_112 (fun q13 => ?_)
  refine g_putF (ci := 3) (ty := .array .int) (v := .ref q13) (ws' := [(h, .inr (3, [.ref q1, .ref q2, .ref q3, .ref q4, .ref q5, .ref q6, .ref q7, .ref q8, .ref q9, .ref q10, .int 0, .ref q11, .int 0, .ref q12, .ref q13, .int 0])), (q1, .inl (cy 0, 16, .inl (fun _ => 0))), (q2, .inl (cy 1, 16, .inl (fun _ => 0))), (q3, .inl (cy 0, 1024, .inl (fun _ => 0))), (q4, .inl (cy 0, 1024, .inl (fun _ => 0))), (q5, .inl (cy 0, 200, .inl (fun _ => 0))), (q6, .inl (cy 1, 200, .inl (fun _ => 0))), (q7, .inl (cy 0, 200, .inl (fun _ => 0))), (q8, .inl (cy 0, 200, .inl (fun _ => 0))), (q9, .inl (cy 0, 4800, .inl (fun _ => 0))), (q10, .inl (cy 1, 4800, .inl (fun _ => 0))), (q11, .inl (cy 0, 96, .inl (fun _ => 0))), (q12, .inl (cy 0, 3200, .inl (fun _ => 0))), (q13, .inl (cy 0, 16, .inl (fun _ => 0)))]) C iwX2_init_X2 tyX2 tyX2_ok nmX2 0 rfl rfl 14 (by decide) (C.hw (List.mem_cons_of_mem _ (List.mem_append_left _ (List.mem_of_getElem? (i := 17) rfl)))) (fun _ h9 => h9) rfl hnm rfl (by decide +kernel) rfl rfl (Nat.le_of_ble_eq_true rfl) rfl dX2_init_114 ?_
  refine g_weq (ws' := wM cy (aM h q1 q2 q3 q4 q5 q6 q7 q8 q9 q10 q11 q12 q13) (fun _ => 0) (fun _ => false) (fun _ => 0) (fun _ => 0) (fun _ => 0) (fun _ => false) (fun _ => 0) (fun _ => 0) (fun _ => 0) (fun _ => false) 0 (fun _ => 0) 0 (fun _ => 0) (fun _ => 0) 0) rfl ?_
  obtain ⟨a, ha⟩ : ∃ a, a = aM h q1 q2 q3 q4 q5 q6 q7 q8 q9 q10 q11 q12 q13 := ⟨_, rfl⟩
  rw [← ha]
  have h0 : h = a 0 := by rw [ha]; rfl
  clear ha
  subst h0
  refine g_iconst (v := nI 0) C dX2_init_117 (by decide +kernel) ?_
  refine g_istore_n (lv' := [(1, .int (nI 0)), (0, .ref (a 0))]) C dX2_init_118 rfl (by decide) rfl ?_
  refine g_sub (lv' := [(0, .ref (a 0)), (1, .int (nI 0))]) [1, 0] rfl ?_
  refine g_loop2 (jp := 119) (fun (k : Nat) (quo1 : Nat → Nat) => (k ≤ 1024) ∧ (quo1 = fun i => if i < k then 40 else 0)) (fun (k : Nat) (quo1 : Nat → Nat) => 1024 - k) (fun (k : Nat) (quo1 : Nat → Nat) => wM cy a (fun _ => 0) (fun _ => false) quo1 (fun _ => 0) (fun _ => 0) (fun _ => false) (fun _ => 0) (fun _ => 0) (fun _ => 0) (fun _ => false) 0 (fun _ => 0) 0 (fun _ => 0) (fun _ => 0) 0) (fun (k : Nat) (quo1 : Nat → Nat) => [(0, .ref (a 0)), (1, .int (nI k))]) (fun (k : Nat) (quo1 : Nat → Nat) => []) (fun k quo1 hI119 ih119 => ?_) 0 (fun _ => 0) (⟨Nat.zero_le _, funext (fun i => (if_neg (Nat.not_lt_zero _)).symm)⟩)
  obtain ⟨hk, hq⟩ := hI119
  refine g_iload_n C dX2_init_119 rfl 1 rfl ?_
  refine g_sipush (v := nI 1024) C dX2_init_120 (by decide +kernel) ?_
  refine g_icmp_ge (tgt := 140) C dX2_init_123 (by decide) (fun c123 => ?_) (fun c123 => ?_)
  · skip
    have c123 := c_ge0 (by omega) (by omega) c123
    exact g_vret C rfl (⟨a, rfl, by rw [hq, show k = 1024 by omega]⟩) (Nat.le_of_ble_eq_true rfl) (Nat.le_of_ble_eq_true rfl) dX2_init_140
  · skip
    have c123 := c_ge1 (by omega) (by omega) c123
    refine g_aload_n C dX2_init_126 rfl 0 rfl ?_
    refine g_get (ci := 3) (v := .ref (a 3)) C iwX2_init_X2 0 rfl rfl 2 (by decide) (C.hw (List.mem_cons_of_mem _ (List.mem_append_left _ (List.mem_of_getElem? (i := 7) rfl)))) (fun _ h9 => h9) rfl dX2_init_127 ?_
    refine g_iload_n C dX2_init_130 rfl 1 rfl ?_
    refine g_bipush (v := nI 40) C dX2_init_131 (by decide +kernel) ?_
    refine g_iastN (nn := 1024) (j := k) (v := 40) (f := quo1) (ws' := wM cy a (fun _ => 0) (fun _ => false) (va_up quo1 k 40) (fun _ => 0) (fun _ => 0) (fun _ => false) (fun _ => 0) (fun _ => 0) (fun _ => 0) (fun _ => false) 0 (fun _ => 0) 0 (fun _ => 0) (fun _ => 0) 0) C 3 rfl (by omega) n31_1024 rfl dX2_init_133 ?_
    refine g_iinc (q := 1) (v := nI (k + 1)) (lv' := [(1, .int (nI (k + 1))), (0, .ref (a 0))]) C dX2_init_134 rfl (nI_inc1 _) (by decide) rfl ?_
    refine g_goto (tgt := 119) C dX2_init_137 (by decide) ?_
    exact g_sub (lv' := [(0, .ref (a 0)), (1, .int (nI (k + 1)))]) [1, 0] rfl (ih119 (k + 1) (va_up quo1 k 40) (⟨by omega, by subst hq; exact quo_s⟩) (by omega))
