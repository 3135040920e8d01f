section LAW2
variable {p : Program} {l : Launch} {e : Env} {R : Room} {s : State} {m : MethodId} {args : Array Value} {below : List Frame} {meth : Method} {c : Code} {cc : ByteArray} {nL : Nat} {own : String} {Ts : List Cond} {D : va_G} {cy : Nat → ClassId} {zs : Nat → Nat} {A : Nat → Prop} {ret : Option FieldType} {Q : State → Prop} {ws : va_W} {k n : Nat} {lv : List (Nat × Value)} {pc : Nat} {st : List Value}
theorem g_sld (C : Cx p s m args meth c cc nL own Ts D cy zs A ret) {b L : Nat} {xs : Nat → Int32} (hX : va_X b L xs s s.heap) (hbl : b < s.heap.size) (hbA : ¬ A b) {j : Nat} (hj : j < L) (hn : L < 2 ^ 31) (hdg : decode cc pc = .ok (.iaload, 1)) (K : GG p l e R s m args below meth c D A nL Q ws k n lv (pc + 1) (.int (xs j) :: st)) : GG p l e R s m args below meth c D A nL Q ws k n lv (pc) (.int (nI j) :: .ref b :: st) := fun H locs ls hP hD hS hl => va_sld C.1.1 C.1.2.1 hX hbl hbA hS (vp_in_nI hj hn) hdg (by rw [nI_clamp (by omega)]; exact K H locs ls hP hD hS hl)
theorem g_slen (C : Cx p s m args meth c cc nL own Ts D cy zs A ret) {b L : Nat} {xs : Nat → Int32} (hX : va_X b L xs s s.heap) (hbl : b < s.heap.size) (hbA : ¬ A b) (hdg : decode cc pc = .ok (.arraylength, 1)) (K : GG p l e R s m args below meth c D A nL Q ws k n lv (pc + 1) (.int (nI L) :: st)) : GG p l e R s m args below meth c D A nL Q ws k n lv (pc) (.ref b :: st) := fun H locs ls hP hD hS hl => va_slen C.1.1 C.1.2.1 hX hbl hbA hS hdg (K H locs ls hP hD hS hl)
theorem lg_self (x : Int64) : lg_cmp x x = 0 := by
  unfold lg_cmp
  simp
theorem perm_ab {α : Type} (a b : List α) : ((b ++ a) ++ []).Perm (a ++ b) := by
  rw [List.append_nil]
  exact List.perm_append_comm
end LAW2
set_option maxRecDepth 100000 in
set_option maxHeartbeats 4000000 in
theorem b_subject {p : Program} {l : Launch} {e : Env} {s : State} {m : MethodId} {b : Nat} {below : List Frame} {meth : Method} {c : Code} {D : va_G} {cy : Nat → ClassId} {zs : Nat → Nat} {A : Nat → Prop} {Q : State → Prop} {k n L i : Nat} {xs : Nat → Int32} {rt : Option FieldType} (C : Cx p s m #[.ref b] meth c cL_law 7 RL wsL_law D cy zs A rt) (hst : l.stackTraces = false) (hX : va_X b L xs s s.heap) (hbl : b < s.heap.size) (hbA : ¬ A b) (hi : i + 5 ≤ L) (hL : L ≤ 2560) (am ac : Nat → Nat) (o : Nat) (g : Nat → Int64) (thr : Nat) {lab : Nat → Nat} {has : Nat → Bool} {quo spe nam : Nat → Nat} {gif : Nat → Bool} {fol : Nat → Int32} {siz : Nat → Nat} {cel : Nat → Int32} {giv : Nat → Bool} {nf : Nat} {lis : Nat → Nat} {lc : Nat} {see : Nat → Int32} {cnt : Nat → Nat} {labC : Nat → Option Nat} {quoC speC : Nat → Nat} {mdC : Int32} {edC : Option (Nat × Nat)} {lisC : Nat → Nat} {lcC : Nat} {seeC : Nat → Nat → Int32} {cntC : Nat → Nat} {Fs : List FT} (hRR : RR lab has quo spe nam gif fol siz cel giv nf lis lc see cnt labC quoC speC edC lisC lcC seeC cntC Fs) (hk : k + 12 ≤ room_1.cells) (hn : n + 500 ≤ room_1.slots) (next : ∀ (m9 : MS) (c9 : CS) (g9 : Nat → Int64) (thr9 : Nat), RT m9 c9 → GG p l e room_1 s m #[.ref b] below meth c D A 7 Q ((wCt cy ac (zs 0) c9 ++ [((o, .inl (cy 2, 1, .inr (.inl g9))) : Nat × va_E)]) ++ wMt cy am m9 thr9) (k + 12) (n + 500) [(0, .ref b), (1, .ref (ac 0)), (2, .ref (am 0)), (3, .ref o), (4, .int (nI i))] 1433 []) : GG p l e room_1 s m #[.ref b] below meth c D A 7 Q ((wC cy ac (zs 0) labC quoC speC mdC edC lisC lcC seeC cntC Fs ++ [((o, .inl (cy 2, 1, .inr (.inl g))) : Nat × va_E)]) ++ wM cy am lab has quo spe nam gif fol siz cel giv nf lis lc see cnt thr) k n [(0, .ref b), (1, .ref (ac 0)), (2, .ref (am 0)), (3, .ref o), (4, .int (nI i))] 116 [] := by
  obtain ⟨hM, hC, hl9, hqu, hsp, hfi, hls, he9⟩ := id hRR
  refine g_aload_n C dL_law_116 rfl 1 rfl ?_
  refine g_aload_n C dL_law_117 rfl 0 rfl ?_
  refine g_iload C dL_law_118 4 rfl ?_
  refine g_iconst (v := nI 1) C dL_law_120 (by decide +kernel) ?_
  refine g_iadd (v := nI (i + 1)) C dL_law_121 (nI_add _ _) ?_
  refine g_sld C hX hbl hbA (show i + 1 < L by omega) (by omega) dL_law_122 ?_
  refine g_aload_n C dL_law_123 rfl 0 rfl ?_
  refine g_iload C dL_law_124 4 rfl ?_
  refine g_iconst (v := nI 2) C dL_law_126 (by decide +kernel) ?_
  refine g_iadd (v := nI (i + 2)) C dL_law_127 (nI_add _ _) ?_
  refine g_sld C hX hbl hbA (show i + 2 < L by omega) (by omega) dL_law_128 ?_
  refine g_aload_n C dL_law_129 rfl 3 rfl ?_
  refine g_FSi (st := []) C (k_L_subject l D cy zs hst ac labC quoC speC mdC edC lisC lcC seeC cntC Fs hC o g (xs (i + 1)) (xs (i + 2))) gL_law_L_subject rfl ydL_subject ⟨Nat.le_of_ble_eq_true rfl, Nat.le_of_ble_eq_true rfl⟩ ⟨hk, hn⟩ rfl (Nat.le_of_ble_eq_true rfl) dL_law_130 (fun r8 w8 h8 => ?_)
  refine g_istore (lv' := [(5, .int r8), (0, .ref b), (1, .ref (ac 0)), (2, .ref (am 0)), (3, .ref o), (4, .int (nI i))]) C dL_law_133 (by decide) rfl ?_
  refine g_aload_n C dL_law_135 rfl 3 rfl ?_
  refine g_aload_n C dL_law_136 rfl 1 rfl ?_
  refine g_iload C dL_law_137 5 rfl ?_
  refine g_iconst (v := nI 1) C dL_law_139 (by decide +kernel) ?_
  refine g_iadd (v := nI (i + 1)) C dL_law_140 (nI_add _ _) ?_
  refine g_sld C hX hbl hbA (show i + 1 < L by omega) (by omega) dL_law_141 ?_
  refine g_aload_n C dL_law_142 rfl 1 rfl ?_
  refine g_iload C dL_law_143 5 rfl ?_
  refine g_iconst (v := nI 2) C dL_law_145 (by decide +kernel) ?_
  refine g_iadd (v := nI (i + 2)) C dL_law_146 (nI_add _ _) ?_
  refine g_sld C hX hbl hbA (show i + 2 < L by omega) (by omega) dL_law_147 ?_
  refine g_perm (ws' := wM cy am lab has quo spe nam gif fol siz cel giv nf lis lc see cnt thr ++ w8) (X := []) (perm_ab _ _) ?_
  refine g_FVi (ci := 3) (st := []) C (k_X2_subject l D cy zs am lab has quo spe nam gif fol siz cel giv nf lis lc see cnt thr hM (xs (i + 1)) (xs (i + 2))) gL_law_X2_subject rfl ⟨rfl, ydX2_subject⟩ 0 rfl rfl ⟨Nat.le_of_ble_eq_true rfl, Nat.le_of_ble_eq_true rfl⟩ ⟨hk, hn⟩ rfl (Nat.le_of_ble_eq_true rfl) dL_law_148 (fun r7 w7 h7 => ?_)
  have hs := sim_subject (zs := zs) (ac := ac) (mdC := mdC) hRR (show PM_subject cy am lab has quo spe nam gif fol siz cel giv nf lis lc see cnt (xs (i + 1)) (xs (i + 2)) r7 w7 from h7)
  rcases h8 with ⟨r1, w1, hp, hr8, hw8⟩ | ⟨w1, hp, hr8, hw8⟩
  · skip
    obtain ⟨⟨lab9, has9, quo9, spe9, nam9, gif9, fol9, siz9, cel9, giv9, nf9, lis9, lc9, see9, cnt9⟩, ⟨labC9, quoC9, speC9, mdC9, edC9, lisC9, lcC9, seeC9, cntC9, Fs9⟩, hR9, e1, e2, e3⟩ := hs.1 r1 w1 hp
    subst e3
    subst e1
    subst e2
    subst hr8
    subst hw8
    have hRR9 : RR lab9 has9 quo9 spe9 nam9 gif9 fol9 siz9 cel9 giv9 nf9 lis9 lc9 see9 cnt9 labC9 quoC9 speC9 edC9 lisC9 lcC9 seeC9 cntC9 Fs9 := hR9
    have hM9 : MI lab9 quo9 spe9 nam9 siz9 cnt9 lis9 nf9 lc9 := by obtain ⟨h9, -⟩ := id hRR9; exact h9
    refine g_weq (ws' := (wM cy am lab9 has9 quo9 spe9 nam9 gif9 fol9 siz9 cel9 giv9 nf9 lis9 lc9 see9 cnt9 0 ++ (wC cy ac (zs 0) labC9 quoC9 speC9 mdC9 edC9 lisC9 lcC9 seeC9 cntC9 Fs9 ++ [((o, .inl (cy 2, 1, .inr (.inl (vp_updL g 0 (outB r1))))) : Nat × va_E)]))) rfl ?_
    refine g_istore (lv' := [(6, .int r1), (5, .int (nI 0)), (0, .ref b), (1, .ref (ac 0)), (2, .ref (am 0)), (3, .ref o), (4, .int (nI i))]) C dL_law_151 (by decide) rfl ?_
    refine g_aload_n C dL_law_153 rfl 4 rfl ?_
    refine g_FVi (ci := 3) (st := []) C (k_X2_thrown l D cy zs am lab9 has9 quo9 spe9 nam9 gif9 fol9 siz9 cel9 giv9 nf9 lis9 lc9 see9 cnt9 0 hM9) gL_law_X2_thrown rfl ⟨rfl, ydX2_thrown⟩ 0 rfl rfl ⟨Nat.le_of_ble_eq_true rfl, Nat.le_of_ble_eq_true rfl⟩ ⟨hk, hn⟩ rfl (Nat.le_of_ble_eq_true rfl) dL_law_154 (fun r6 w6 h6 => ?_)
    obtain ⟨h6a, h6b⟩ := h6
    subst h6a
    subst h6b
    refine g_perm (ws' := ((wC cy ac (zs 0) labC9 quoC9 speC9 mdC9 edC9 lisC9 lcC9 seeC9 cntC9 Fs9 ++ [((o, .inl (cy 2, 1, .inr (.inl (vp_updL g 0 (outB r1))))) : Nat × va_E)]) ++ wM cy am lab9 has9 quo9 spe9 nam9 gif9 fol9 siz9 cel9 giv9 nf9 lis9 lc9 see9 cnt9 0)) (X := []) (perm_ab _ _) ?_
    refine g_iload C dL_law_157 1 rfl ?_
    refine g_icmp_eq (tgt := 164) C dL_law_159 (by decide) (fun c159 => ?_) (fun c159 => ?_)
    · skip
      have c159 := c_eq0 (by omega) (by omega) c159
      refine g_iload C dL_law_164 1 rfl ?_
      refine g_if_ne (tgt := 188) C dL_law_166 (by decide) (fun c166 => ?_) (fun c166 => ?_)
      · skip
        exact absurd c166 (by decide +kernel)
      · skip
        have c166 := cz_eq0 (by omega) c166
        refine g_aload_n C dL_law_169 rfl 5 rfl ?_
        refine g_iconst (v := nI 0) C dL_law_170 (by decide +kernel) ?_
        refine g_lald (nn := 1) (i := nI 0) (v := (outB r1)) C (wC cy ac (zs 0) labC9 quoC9 speC9 mdC9 edC9 lisC9 lcC9 seeC9 cntC9 Fs9).length (app_at (tl_at rfl)) (vp_in_nI (by omega) (by omega)) (by rw [nI_clamp (by omega)]; exact if_pos rfl) dL_law_171 ?_
        refine g_iload C dL_law_172 0 rfl ?_
        refine g_if_eq (tgt := 181) C dL_law_174 (by decide) (fun c174 => ?_) (fun c174 => ?_)
        · skip
          refine g_lconst (v := 0) C dL_law_181 (by decide +kernel) ?_
          refine g_lcmp (v := nI 0) C dL_law_182 (by unfold outB; rw [if_pos c174]; exact lg_self _) ?_
          refine g_if_eq (tgt := 188) C dL_law_183 (by decide) (fun c183 => ?_) (fun c183 => ?_)
          · skip
            have c183 := cz_eq0 (by omega) c183
            refine g_goto (tgt := 1433) C dL_law_188 (by decide) ?_
            exact g_sub (lv' := [(0, .ref b), (1, .ref (ac 0)), (2, .ref (am 0)), (3, .ref o), (4, .int (nI i))]) [2, 3, 4, 5, 6] rfl (next (lab9, has9, quo9, spe9, nam9, gif9, fol9, siz9, cel9, giv9, nf9, lis9, lc9, see9, cnt9) (labC9, quoC9, speC9, mdC9, edC9, lisC9, lcC9, seeC9, cntC9, Fs9) (vp_updL g 0 (outB r1)) 0 hR9)
          · skip
            exact absurd c183 (by decide +kernel)
        · skip
          refine g_lconst (v := 1) C dL_law_177 (by decide +kernel) ?_
          refine g_goto (tgt := 182) C dL_law_178 (by decide) ?_
          refine g_lcmp (v := nI 0) C dL_law_182 (by unfold outB; rw [if_neg c174]; exact lg_self _) ?_
          refine g_if_eq (tgt := 188) C dL_law_183 (by decide) (fun c183 => ?_) (fun c183 => ?_)
          · skip
            have c183 := cz_eq0 (by omega) c183
            refine g_goto (tgt := 1433) C dL_law_188 (by decide) ?_
            exact g_sub (lv' := [(0, .ref b), (1, .ref (ac 0)), (2, .ref (am 0)), (3, .ref o), (4, .int (nI i))]) [2, 3, 4, 5, 6] rfl (next (lab9, has9, quo9, spe9, nam9, gif9, fol9, siz9, cel9, giv9, nf9, lis9, lc9, see9, cnt9) (labC9, quoC9, speC9, mdC9, edC9, lisC9, lcC9, seeC9, cntC9, Fs9) (vp_updL g 0 (outB r1)) 0 hR9)
          · skip
            exact absurd c183 (by decide +kernel)
    · skip
      exact absurd c159 (by decide +kernel)
  · skip
    obtain ⟨⟨lab9, has9, quo9, spe9, nam9, gif9, fol9, siz9, cel9, giv9, nf9, lis9, lc9, see9, cnt9⟩, ⟨labC9, quoC9, speC9, mdC9, edC9, lisC9, lcC9, seeC9, cntC9, Fs9⟩, k9, hR9, e1, e2, e3⟩ := hs.2 "java/lang/IllegalArgumentException" w1 hp
    have hk9 : k9 = 1 := by rcases e3 with e3 | e3; exact e3.2; exact absurd e3.1 (by decide)
    subst hk9
    subst e1
    subst e2
    subst hr8
    subst hw8
    have hRR9 : RR lab9 has9 quo9 spe9 nam9 gif9 fol9 siz9 cel9 giv9 nf9 lis9 lc9 see9 cnt9 labC9 quoC9 speC9 edC9 lisC9 lcC9 seeC9 cntC9 Fs9 := hR9
    have hM9 : MI lab9 quo9 spe9 nam9 siz9 cnt9 lis9 nf9 lc9 := by obtain ⟨h9, -⟩ := id hRR9; exact h9
    refine g_weq (ws' := (wM cy am lab9 has9 quo9 spe9 nam9 gif9 fol9 siz9 cel9 giv9 nf9 lis9 lc9 see9 cnt9 1 ++ (wC cy ac (zs 0) labC9 quoC9 speC9 mdC9 edC9 lisC9 lcC9 seeC9 cntC9 Fs9 ++ [((o, .inl (cy 2, 1, .inr (.inl g))) : Nat × va_E)]))) rfl ?_
    refine g_istore (lv' := [(6, .int r7), (5, .int (nI 1)), (0, .ref b), (1, .ref (ac 0)), (2, .ref (am 0)), (3, .ref o), (4, .int (nI i))]) C dL_law_151 (by decide) rfl ?_
    refine g_aload_n C dL_law_153 rfl 4 rfl ?_
    refine g_FVi (ci := 3) (st := []) C (k_X2_thrown l D cy zs am lab9 has9 quo9 spe9 nam9 gif9 fol9 siz9 cel9 giv9 nf9 lis9 lc9 see9 cnt9 1 hM9) gL_law_X2_thrown rfl ⟨rfl, ydX2_thrown⟩ 0 rfl rfl ⟨Nat.le_of_ble_eq_true rfl, Nat.le_of_ble_eq_true rfl⟩ ⟨hk, hn⟩ rfl (Nat.le_of_ble_eq_true rfl) dL_law_154 (fun r6 w6 h6 => ?_)
    obtain ⟨h6a, h6b⟩ := h6
    subst h6a
    subst h6b
    refine g_perm (ws' := ((wC cy ac (zs 0) labC9 quoC9 speC9 mdC9 edC9 lisC9 lcC9 seeC9 cntC9 Fs9 ++ [((o, .inl (cy 2, 1, .inr (.inl g))) : Nat × va_E)]) ++ wM cy am lab9 has9 quo9 spe9 nam9 gif9 fol9 siz9 cel9 giv9 nf9 lis9 lc9 see9 cnt9 1)) (X := []) (perm_ab _ _) ?_
    refine g_iload C dL_law_157 1 rfl ?_
    refine g_icmp_eq (tgt := 164) C dL_law_159 (by decide) (fun c159 => ?_) (fun c159 => ?_)
    · skip
      have c159 := c_eq0 (by omega) (by omega) c159
      refine g_iload C dL_law_164 1 rfl ?_
      refine g_if_ne (tgt := 188) C dL_law_166 (by decide) (fun c166 => ?_) (fun c166 => ?_)
      · skip
        have c166 := cz_eq1 (by omega) c166
        refine g_goto (tgt := 1433) C dL_law_188 (by decide) ?_
        exact g_sub (lv' := [(0, .ref b), (1, .ref (ac 0)), (2, .ref (am 0)), (3, .ref o), (4, .int (nI i))]) [2, 3, 4, 5, 6] rfl (next (lab9, has9, quo9, spe9, nam9, gif9, fol9, siz9, cel9, giv9, nf9, lis9, lc9, see9, cnt9) (labC9, quoC9, speC9, mdC9, edC9, lisC9, lcC9, seeC9, cntC9, Fs9) g 1 hR9)
      · skip
        exact absurd c166 (by decide +kernel)
    · skip
      exact absurd c159 (by decide +kernel)
set_option maxRecDepth 100000 in
set_option maxHeartbeats 4000000 in
theorem b_quota {p : Program} {l : Launch} {e : Env} {s : State} {m : MethodId} {b : Nat} {below : List Frame} {meth : Method} {c : Code} {D : va_G} {cy : Nat → ClassId} {zs : Nat → Nat} {A : Nat → Prop} {Q : State → Prop} {k n L i : Nat} {xs : Nat → Int32} {rt : Option FieldType} (C : Cx p s m #[.ref b] meth c cL_law 7 RL wsL_law D cy zs A rt) (hst : l.stackTraces = false) (hX : va_X b L xs s s.heap) (hbl : b < s.heap.size) (hbA : ¬ A b) (hi : i + 5 ≤ L) (hL : L ≤ 2560) (am ac : Nat → Nat) (o : Nat) (g : Nat → Int64) (thr : Nat) {lab : Nat → Nat} {has : Nat → Bool} {quo spe nam : Nat → Nat} {gif : Nat → Bool} {fol : Nat → Int32} {siz : Nat → Nat} {cel : Nat → Int32} {giv : Nat → Bool} {nf : Nat} {lis : Nat → Nat} {lc : Nat} {see : Nat → Int32} {cnt : Nat → Nat} {labC : Nat → Option Nat} {quoC speC : Nat → Nat} {mdC : Int32} {edC : Option (Nat × Nat)} {lisC : Nat → Nat} {lcC : Nat} {seeC : Nat → Nat → Int32} {cntC : Nat → Nat} {Fs : List FT} (hRR : RR lab has quo spe nam gif fol siz cel giv nf lis lc see cnt labC quoC speC edC lisC lcC seeC cntC Fs) (hk : k + 12 ≤ room_1.cells) (hn : n + 500 ≤ room_1.slots) (next : ∀ (m9 : MS) (c9 : CS) (g9 : Nat → Int64) (thr9 : Nat), RT m9 c9 → GG p l e room_1 s m #[.ref b] below meth c D A 7 Q ((wCt cy ac (zs 0) c9 ++ [((o, .inl (cy 2, 1, .inr (.inl g9))) : Nat × va_E)]) ++ wMt cy am m9 thr9) (k + 12) (n + 500) [(0, .ref b), (1, .ref (ac 0)), (2, .ref (am 0)), (3, .ref o), (4, .int (nI i))] 1433 []) : GG p l e room_1 s m #[.ref b] below meth c D A 7 Q ((wC cy ac (zs 0) labC quoC speC mdC edC lisC lcC seeC cntC Fs ++ [((o, .inl (cy 2, 1, .inr (.inl g))) : Nat × va_E)]) ++ wM cy am lab has quo spe nam gif fol siz cel giv nf lis lc see cnt thr) k n [(0, .ref b), (1, .ref (ac 0)), (2, .ref (am 0)), (3, .ref o), (4, .int (nI i))] 191 [] := by
  obtain ⟨hM, hC, hl9, hqu, hsp, hfi, hls, he9⟩ := id hRR
  refine g_aload_n C dL_law_191 rfl 1 rfl ?_
  refine g_aload_n C dL_law_192 rfl 0 rfl ?_
  refine g_iload C dL_law_193 4 rfl ?_
  refine g_iconst (v := nI 1) C dL_law_195 (by decide +kernel) ?_
  refine g_iadd (v := nI (i + 1)) C dL_law_196 (nI_add _ _) ?_
  refine g_sld C hX hbl hbA (show i + 1 < L by omega) (by omega) dL_law_197 ?_
  refine g_aload_n C dL_law_198 rfl 0 rfl ?_
  refine g_iload C dL_law_199 4 rfl ?_
  refine g_iconst (v := nI 2) C dL_law_201 (by decide +kernel) ?_
  refine g_iadd (v := nI (i + 2)) C dL_law_202 (nI_add _ _) ?_
  refine g_sld C hX hbl hbA (show i + 2 < L by omega) (by omega) dL_law_203 ?_
  refine g_aload_n C dL_law_204 rfl 3 rfl ?_
  refine g_FSi (st := []) C (k_L_quota l D cy zs hst ac labC quoC speC mdC edC lisC lcC seeC cntC Fs hC o g (xs (i + 1)) (xs (i + 2))) gL_law_L_quota rfl ydL_quota ⟨Nat.le_of_ble_eq_true rfl, Nat.le_of_ble_eq_true rfl⟩ ⟨hk, hn⟩ rfl (Nat.le_of_ble_eq_true rfl) dL_law_205 (fun r8 w8 h8 => ?_)
  refine g_istore (lv' := [(5, .int r8), (0, .ref b), (1, .ref (ac 0)), (2, .ref (am 0)), (3, .ref o), (4, .int (nI i))]) C dL_law_208 (by decide) rfl ?_
  refine g_aload_n C dL_law_210 rfl 3 rfl ?_
  refine g_aload_n C dL_law_211 rfl 1 rfl ?_
  refine g_iload C dL_law_212 5 rfl ?_
  refine g_iconst (v := nI 1) C dL_law_214 (by decide +kernel) ?_
  refine g_iadd (v := nI (i + 1)) C dL_law_215 (nI_add _ _) ?_
  refine g_sld C hX hbl hbA (show i + 1 < L by omega) (by omega) dL_law_216 ?_
  refine g_aload_n C dL_law_217 rfl 1 rfl ?_
  refine g_iload C dL_law_218 5 rfl ?_
  refine g_iconst (v := nI 2) C dL_law_220 (by decide +kernel) ?_
  refine g_iadd (v := nI (i + 2)) C dL_law_221 (nI_add _ _) ?_
  refine g_sld C hX hbl hbA (show i + 2 < L by omega) (by omega) dL_law_222 ?_
  refine g_perm (ws' := wM cy am lab has quo spe nam gif fol siz cel giv nf lis lc see cnt thr ++ w8) (X := []) (perm_ab _ _) ?_
  refine g_FVi (ci := 3) (st := []) C (k_X2_quota l D cy zs am lab has quo spe nam gif fol siz cel giv nf lis lc see cnt thr hM (xs (i + 1)) (xs (i + 2))) gL_law_X2_quota rfl ⟨rfl, ydX2_quota⟩ 0 rfl rfl ⟨Nat.le_of_ble_eq_true rfl, Nat.le_of_ble_eq_true rfl⟩ ⟨hk, hn⟩ rfl (Nat.le_of_ble_eq_true rfl) dL_law_223 (fun r7 w7 h7 => ?_)
  have hs := sim_quota (zs := zs) (ac := ac) (mdC := mdC) hRR (show PM_quota cy am lab has quo spe nam gif fol siz cel giv nf lis lc see cnt (xs (i + 1)) (xs (i + 2)) r7 w7 from h7)
  rcases h8 with ⟨r1, w1, hp, hr8, hw8⟩ | ⟨w1, hp, hr8, hw8⟩
  · skip
    obtain ⟨⟨lab9, has9, quo9, spe9, nam9, gif9, fol9, siz9, cel9, giv9, nf9, lis9, lc9, see9, cnt9⟩, ⟨labC9, quoC9, speC9, mdC9, edC9, lisC9, lcC9, seeC9, cntC9, Fs9⟩, hR9, e1, e2, e3⟩ := hs.1 r1 w1 hp
    subst e3
    subst e1
    subst e2
    subst hr8
    subst hw8
    have hRR9 : RR lab9 has9 quo9 spe9 nam9 gif9 fol9 siz9 cel9 giv9 nf9 lis9 lc9 see9 cnt9 labC9 quoC9 speC9 edC9 lisC9 lcC9 seeC9 cntC9 Fs9 := hR9
    have hM9 : MI lab9 quo9 spe9 nam9 siz9 cnt9 lis9 nf9 lc9 := by obtain ⟨h9, -⟩ := id hRR9; exact h9
    refine g_weq (ws' := (wM cy am lab9 has9 quo9 spe9 nam9 gif9 fol9 siz9 cel9 giv9 nf9 lis9 lc9 see9 cnt9 0 ++ (wC cy ac (zs 0) labC9 quoC9 speC9 mdC9 edC9 lisC9 lcC9 seeC9 cntC9 Fs9 ++ [((o, .inl (cy 2, 1, .inr (.inl (vp_updL g 0 (r1).toInt64)))) : Nat × va_E)]))) rfl ?_
    refine g_istore (lv' := [(6, .int r1), (5, .int (nI 0)), (0, .ref b), (1, .ref (ac 0)), (2, .ref (am 0)), (3, .ref o), (4, .int (nI i))]) C dL_law_226 (by decide) rfl ?_
    refine g_aload_n C dL_law_228 rfl 4 rfl ?_
    refine g_FVi (ci := 3) (st := []) C (k_X2_thrown l D cy zs am lab9 has9 quo9 spe9 nam9 gif9 fol9 siz9 cel9 giv9 nf9 lis9 lc9 see9 cnt9 0 hM9) gL_law_X2_thrown rfl ⟨rfl, ydX2_thrown⟩ 0 rfl rfl ⟨Nat.le_of_ble_eq_true rfl, Nat.le_of_ble_eq_true rfl⟩ ⟨hk, hn⟩ rfl (Nat.le_of_ble_eq_true rfl) dL_law_229 (fun r6 w6 h6 => ?_)
    obtain ⟨h6a, h6b⟩ := h6
    subst h6a
    subst h6b
    refine g_perm (ws' := ((wC cy ac (zs 0) labC9 quoC9 speC9 mdC9 edC9 lisC9 lcC9 seeC9 cntC9 Fs9 ++ [((o, .inl (cy 2, 1, .inr (.inl (vp_updL g 0 (r1).toInt64)))) : Nat × va_E)]) ++ wM cy am lab9 has9 quo9 spe9 nam9 gif9 fol9 siz9 cel9 giv9 nf9 lis9 lc9 see9 cnt9 0)) (X := []) (perm_ab _ _) ?_
    refine g_iload C dL_law_232 1 rfl ?_
    refine g_icmp_eq (tgt := 239) C dL_law_234 (by decide) (fun c234 => ?_) (fun c234 => ?_)
    · skip
      have c234 := c_eq0 (by omega) (by omega) c234
      refine g_iload C dL_law_239 1 rfl ?_
      refine g_if_ne (tgt := 256) C dL_law_241 (by decide) (fun c241 => ?_) (fun c241 => ?_)
      · skip
        exact absurd c241 (by decide +kernel)
      · skip
        have c241 := cz_eq0 (by omega) c241
        refine g_aload_n C dL_law_244 rfl 5 rfl ?_
        refine g_iconst (v := nI 0) C dL_law_245 (by decide +kernel) ?_
        refine g_lald (nn := 1) (i := nI 0) (v := (r1).toInt64) C (wC cy ac (zs 0) labC9 quoC9 speC9 mdC9 edC9 lisC9 lcC9 seeC9 cntC9 Fs9).length (app_at (tl_at rfl)) (vp_in_nI (by omega) (by omega)) (by rw [nI_clamp (by omega)]; exact if_pos rfl) dL_law_246 ?_
        refine g_iload C dL_law_247 0 rfl ?_
        refine g_i2l (v := (r1).toInt64) C dL_law_249 rfl ?_
        refine g_lcmp (v := nI 0) C dL_law_250 (lg_self _) ?_
        refine g_if_eq (tgt := 256) C dL_law_251 (by decide) (fun c251 => ?_) (fun c251 => ?_)
        · skip
          have c251 := cz_eq0 (by omega) c251
          refine g_goto (tgt := 1433) C dL_law_256 (by decide) ?_
          exact g_sub (lv' := [(0, .ref b), (1, .ref (ac 0)), (2, .ref (am 0)), (3, .ref o), (4, .int (nI i))]) [2, 3, 4, 5, 6] rfl (next (lab9, has9, quo9, spe9, nam9, gif9, fol9, siz9, cel9, giv9, nf9, lis9, lc9, see9, cnt9) (labC9, quoC9, speC9, mdC9, edC9, lisC9, lcC9, seeC9, cntC9, Fs9) (vp_updL g 0 (r1).toInt64) 0 hR9)
        · skip
          exact absurd c251 (by decide +kernel)
    · skip
      exact absurd c234 (by decide +kernel)
  · skip
    obtain ⟨⟨lab9, has9, quo9, spe9, nam9, gif9, fol9, siz9, cel9, giv9, nf9, lis9, lc9, see9, cnt9⟩, ⟨labC9, quoC9, speC9, mdC9, edC9, lisC9, lcC9, seeC9, cntC9, Fs9⟩, k9, hR9, e1, e2, e3⟩ := hs.2 "java/lang/IllegalArgumentException" w1 hp
    have hk9 : k9 = 1 := by rcases e3 with e3 | e3; exact e3.2; exact absurd e3.1 (by decide)
    subst hk9
    subst e1
    subst e2
    subst hr8
    subst hw8
    have hRR9 : RR lab9 has9 quo9 spe9 nam9 gif9 fol9 siz9 cel9 giv9 nf9 lis9 lc9 see9 cnt9 labC9 quoC9 speC9 edC9 lisC9 lcC9 seeC9 cntC9 Fs9 := hR9
    have hM9 : MI lab9 quo9 spe9 nam9 siz9 cnt9 lis9 nf9 lc9 := by obtain ⟨h9, -⟩ := id hRR9; exact h9
    refine g_weq (ws' := (wM cy am lab9 has9 quo9 spe9 nam9 gif9 fol9 siz9 cel9 giv9 nf9 lis9 lc9 see9 cnt9 1 ++ (wC cy ac (zs 0) labC9 quoC9 speC9 mdC9 edC9 lisC9 lcC9 seeC9 cntC9 Fs9 ++ [((o, .inl (cy 2, 1, .inr (.inl g))) : Nat × va_E)]))) rfl ?_
    refine g_istore (lv' := [(6, .int r7), (5, .int (nI 1)), (0, .ref b), (1, .ref (ac 0)), (2, .ref (am 0)), (3, .ref o), (4, .int (nI i))]) C dL_law_226 (by decide) rfl ?_
    refine g_aload_n C dL_law_228 rfl 4 rfl ?_
    refine g_FVi (ci := 3) (st := []) C (k_X2_thrown l D cy zs am lab9 has9 quo9 spe9 nam9 gif9 fol9 siz9 cel9 giv9 nf9 lis9 lc9 see9 cnt9 1 hM9) gL_law_X2_thrown rfl ⟨rfl, ydX2_thrown⟩ 0 rfl rfl ⟨Nat.le_of_ble_eq_true rfl, Nat.le_of_ble_eq_true rfl⟩ ⟨hk, hn⟩ rfl (Nat.le_of_ble_eq_true rfl) dL_law_229 (fun r6 w6 h6 => ?_)
    obtain ⟨h6a, h6b⟩ := h6
    subst h6a
    subst h6b
    refine g_perm (ws' := ((wC cy ac (zs 0) labC9 quoC9 speC9 mdC9 edC9 lisC9 lcC9 seeC9 cntC9 Fs9 ++ [((o, .inl (cy 2, 1, .inr (.inl g))) : Nat × va_E)]) ++ wM cy am lab9 has9 quo9 spe9 nam9 gif9 fol9 siz9 cel9 giv9 nf9 lis9 lc9 see9 cnt9 1)) (X := []) (perm_ab _ _) ?_
    refine g_iload C dL_law_232 1 rfl ?_
    refine g_icmp_eq (tgt := 239) C dL_law_234 (by decide) (fun c234 => ?_) (fun c234 => ?_)
    · skip
      have c234 := c_eq0 (by omega) (by omega) c234
      refine g_iload C dL_law_239 1 rfl ?_
      refine g_if_ne (tgt := 256) C dL_law_241 (by decide) (fun c241 => ?_) (fun c241 => ?_)
      · skip
        have c241 := cz_eq1 (by omega) c241
        refine g_goto (tgt := 1433) C dL_law_256 (by decide) ?_
        exact g_sub (lv' := [(0, .ref b), (1, .ref (ac 0)), (2, .ref (am 0)), (3, .ref o), (4, .int (nI i))]) [2, 3, 4, 5, 6] rfl (next (lab9, has9, quo9, spe9, nam9, gif9, fol9, siz9, cel9, giv9, nf9, lis9, lc9, see9, cnt9) (labC9, quoC9, speC9, mdC9, edC9, lisC9, lcC9, seeC9, cntC9, Fs9) g 1 hR9)
      · skip
        exact absurd c241 (by decide +kernel)
    · skip
      exact absurd c234 (by decide +kernel)
set_option maxRecDepth 100000 in
set_option maxHeartbeats 4000000 in
theorem b_list {p : Program} {l : Launch} {e : Env} {s : State} {m : MethodId} {b : Nat} {below : List Frame} {meth : Method} {c : Code} {D : va_G} {cy : Nat → ClassId} {zs : Nat → Nat} {A : Nat → Prop} {Q : State → Prop} {k n L i : Nat} {xs : Nat → Int32} {rt : Option FieldType} (C : Cx p s m #[.ref b] meth c cL_law 7 RL wsL_law D cy zs A rt) (hst : l.stackTraces = false) (hX : va_X b L xs s s.heap) (hbl : b < s.heap.size) (hbA : ¬ A b) (hi : i + 5 ≤ L) (hL : L ≤ 2560) (am ac : Nat → Nat) (o : Nat) (g : Nat → Int64) (thr : Nat) {lab : Nat → Nat} {has : Nat → Bool} {quo spe nam : Nat → Nat} {gif : Nat → Bool} {fol : Nat → Int32} {siz : Nat → Nat} {cel : Nat → Int32} {giv : Nat → Bool} {nf : Nat} {lis : Nat → Nat} {lc : Nat} {see : Nat → Int32} {cnt : Nat → Nat} {labC : Nat → Option Nat} {quoC speC : Nat → Nat} {mdC : Int32} {edC : Option (Nat × Nat)} {lisC : Nat → Nat} {lcC : Nat} {seeC : Nat → Nat → Int32} {cntC : Nat → Nat} {Fs : List FT} (hRR : RR lab has quo spe nam gif fol siz cel giv nf lis lc see cnt labC quoC speC edC lisC lcC seeC cntC Fs) (hk : k + 12 ≤ room_1.cells) (hn : n + 500 ≤ room_1.slots) (next : ∀ (m9 : MS) (c9 : CS) (g9 : Nat → Int64) (thr9 : Nat), RT m9 c9 → GG p l e room_1 s m #[.ref b] below meth c D A 7 Q ((wCt cy ac (zs 0) c9 ++ [((o, .inl (cy 2, 1, .inr (.inl g9))) : Nat × va_E)]) ++ wMt cy am m9 thr9) (k + 12) (n + 500) [(0, .ref b), (1, .ref (ac 0)), (2, .ref (am 0)), (3, .ref o), (4, .int (nI i))] 1433 []) : GG p l e room_1 s m #[.ref b] below meth c D A 7 Q ((wC cy ac (zs 0) labC quoC speC mdC edC lisC lcC seeC cntC Fs ++ [((o, .inl (cy 2, 1, .inr (.inl g))) : Nat × va_E)]) ++ wM cy am lab has quo spe nam gif fol siz cel giv nf lis lc see cnt thr) k n [(0, .ref b), (1, .ref (ac 0)), (2, .ref (am 0)), (3, .ref o), (4, .int (nI i))] 259 [] := by
  obtain ⟨hM, hC, hl9, hqu, hsp, hfi, hls, he9⟩ := id hRR
  refine g_aload_n C dL_law_259 rfl 1 rfl ?_
  refine g_aload_n C dL_law_260 rfl 0 rfl ?_
  refine g_iload C dL_law_261 4 rfl ?_
  refine g_iconst (v := nI 1) C dL_law_263 (by decide +kernel) ?_
  refine g_iadd (v := nI (i + 1)) C dL_law_264 (nI_add _ _) ?_
  refine g_sld C hX hbl hbA (show i + 1 < L by omega) (by omega) dL_law_265 ?_
  refine g_aload_n C dL_law_266 rfl 0 rfl ?_
  refine g_iload C dL_law_267 4 rfl ?_
  refine g_iconst (v := nI 2) C dL_law_269 (by decide +kernel) ?_
  refine g_iadd (v := nI (i + 2)) C dL_law_270 (nI_add _ _) ?_
  refine g_sld C hX hbl hbA (show i + 2 < L by omega) (by omega) dL_law_271 ?_
  refine g_aload_n C dL_law_272 rfl 0 rfl ?_
  refine g_iload C dL_law_273 4 rfl ?_
  refine g_iconst (v := nI 3) C dL_law_275 (by decide +kernel) ?_
  refine g_iadd (v := nI (i + 3)) C dL_law_276 (nI_add _ _) ?_
  refine g_sld C hX hbl hbA (show i + 3 < L by omega) (by omega) dL_law_277 ?_
  refine g_aload_n C dL_law_278 rfl 0 rfl ?_
  refine g_iload C dL_law_279 4 rfl ?_
  refine g_iconst (v := nI 4) C dL_law_281 (by decide +kernel) ?_
  refine g_iadd (v := nI (i + 4)) C dL_law_282 (nI_add _ _) ?_
  refine g_sld C hX hbl hbA (show i + 4 < L by omega) (by omega) dL_law_283 ?_
  refine g_if_eq (tgt := 291) C dL_law_284 (by decide) (fun c284 => ?_) (fun c284 => ?_)
  · skip
    refine g_iconst (v := nI 0) C dL_law_291 (by decide +kernel) ?_
    refine g_aload_n C dL_law_292 rfl 3 rfl ?_
    refine g_FSi (st := []) C (k_L_list l D cy zs hst ac labC quoC speC mdC edC lisC lcC seeC cntC Fs hC o g (xs (i + 1)) (xs (i + 2)) (xs (i + 3)) false) gL_law_L_list rfl ydL_list ⟨Nat.le_of_ble_eq_true rfl, Nat.le_of_ble_eq_true rfl⟩ ⟨hk, hn⟩ rfl (Nat.le_of_ble_eq_true rfl) dL_law_293 (fun r8 w8 h8 => ?_)
    refine g_istore (lv' := [(5, .int r8), (0, .ref b), (1, .ref (ac 0)), (2, .ref (am 0)), (3, .ref o), (4, .int (nI i))]) C dL_law_296 (by decide) rfl ?_
    refine g_aload_n C dL_law_298 rfl 3 rfl ?_
    refine g_aload_n C dL_law_299 rfl 1 rfl ?_
    refine g_iload C dL_law_300 5 rfl ?_
    refine g_iconst (v := nI 1) C dL_law_302 (by decide +kernel) ?_
    refine g_iadd (v := nI (i + 1)) C dL_law_303 (nI_add _ _) ?_
    refine g_sld C hX hbl hbA (show i + 1 < L by omega) (by omega) dL_law_304 ?_
    refine g_aload_n C dL_law_305 rfl 1 rfl ?_
    refine g_iload C dL_law_306 5 rfl ?_
    refine g_iconst (v := nI 2) C dL_law_308 (by decide +kernel) ?_
    refine g_iadd (v := nI (i + 2)) C dL_law_309 (nI_add _ _) ?_
    refine g_sld C hX hbl hbA (show i + 2 < L by omega) (by omega) dL_law_310 ?_
    refine g_aload_n C dL_law_311 rfl 1 rfl ?_
    refine g_iload C dL_law_312 5 rfl ?_
    refine g_iconst (v := nI 3) C dL_law_314 (by decide +kernel) ?_
    refine g_iadd (v := nI (i + 3)) C dL_law_315 (nI_add _ _) ?_
    refine g_sld C hX hbl hbA (show i + 3 < L by omega) (by omega) dL_law_316 ?_
    refine g_aload_n C dL_law_317 rfl 1 rfl ?_
    refine g_iload C dL_law_318 5 rfl ?_
    refine g_iconst (v := nI 4) C dL_law_320 (by decide +kernel) ?_
    refine g_iadd (v := nI (i + 4)) C dL_law_321 (nI_add _ _) ?_
    refine g_sld C hX hbl hbA (show i + 4 < L by omega) (by omega) dL_law_322 ?_
    refine g_if_eq (tgt := 330) C dL_law_323 (by decide) (fun c323 => ?_) (fun c323 => ?_)
    · skip
      refine g_iconst (v := nI 0) C dL_law_330 (by decide +kernel) ?_
      refine g_perm (ws' := wM cy am lab has quo spe nam gif fol siz cel giv nf lis lc see cnt thr ++ w8) (X := []) (perm_ab _ _) ?_
      refine g_FVi (ci := 3) (st := []) C (k_X2_list l D cy zs am lab has quo spe nam gif fol siz cel giv nf lis lc see cnt thr hM (xs (i + 1)) (xs (i + 2)) (xs (i + 3)) false) gL_law_X2_list rfl ⟨rfl, ydX2_list⟩ 0 rfl rfl ⟨Nat.le_of_ble_eq_true rfl, Nat.le_of_ble_eq_true rfl⟩ ⟨hk, hn⟩ rfl (Nat.le_of_ble_eq_true rfl) dL_law_331 (fun r7 w7 h7 => ?_)
      have hs := sim_list (zs := zs) (ac := ac) (mdC := mdC) hRR (show PM_list cy am lab has quo spe nam gif fol siz cel giv nf lis lc see cnt (xs (i + 1)) (xs (i + 2)) (xs (i + 3)) false r7 w7 from h7)
      rcases h8 with ⟨r1, w1, hp, hr8, hw8⟩ | ⟨w1, hp, hr8, hw8⟩ | ⟨w1, hp, hr8, hw8⟩
      · skip
        obtain ⟨⟨lab9, has9, quo9, spe9, nam9, gif9, fol9, siz9, cel9, giv9, nf9, lis9, lc9, see9, cnt9⟩, ⟨labC9, quoC9, speC9, mdC9, edC9, lisC9, lcC9, seeC9, cntC9, Fs9⟩, hR9, e1, e2, e3⟩ := hs.1 r1 w1 hp
        subst e3
        subst e1
        subst e2
        subst hr8
        subst hw8
        have hRR9 : RR lab9 has9 quo9 spe9 nam9 gif9 fol9 siz9 cel9 giv9 nf9 lis9 lc9 see9 cnt9 labC9 quoC9 speC9 edC9 lisC9 lcC9 seeC9 cntC9 Fs9 := hR9
        have hM9 : MI lab9 quo9 spe9 nam9 siz9 cnt9 lis9 nf9 lc9 := by obtain ⟨h9, -⟩ := id hRR9; exact h9
        refine g_weq (ws' := (wM cy am lab9 has9 quo9 spe9 nam9 gif9 fol9 siz9 cel9 giv9 nf9 lis9 lc9 see9 cnt9 0 ++ (wC cy ac (zs 0) labC9 quoC9 speC9 mdC9 edC9 lisC9 lcC9 seeC9 cntC9 Fs9 ++ [((o, .inl (cy 2, 1, .inr (.inl (vp_updL g 0 (outB r1))))) : Nat × va_E)]))) rfl ?_
        refine g_istore (lv' := [(6, .int r1), (5, .int (nI 0)), (0, .ref b), (1, .ref (ac 0)), (2, .ref (am 0)), (3, .ref o), (4, .int (nI i))]) C dL_law_334 (by decide) rfl ?_
        refine g_aload_n C dL_law_336 rfl 4 rfl ?_
        refine g_FVi (ci := 3) (st := []) C (k_X2_thrown l D cy zs am lab9 has9 quo9 spe9 nam9 gif9 fol9 siz9 cel9 giv9 nf9 lis9 lc9 see9 cnt9 0 hM9) gL_law_X2_thrown rfl ⟨rfl, ydX2_thrown⟩ 0 rfl rfl ⟨Nat.le_of_ble_eq_true rfl, Nat.le_of_ble_eq_true rfl⟩ ⟨hk, hn⟩ rfl (Nat.le_of_ble_eq_true rfl) dL_law_337 (fun r6 w6 h6 => ?_)
        obtain ⟨h6a, h6b⟩ := h6
        subst h6a
        subst h6b
        refine g_perm (ws' := ((wC cy ac (zs 0) labC9 quoC9 speC9 mdC9 edC9 lisC9 lcC9 seeC9 cntC9 Fs9 ++ [((o, .inl (cy 2, 1, .inr (.inl (vp_updL g 0 (outB r1))))) : Nat × va_E)]) ++ wM cy am lab9 has9 quo9 spe9 nam9 gif9 fol9 siz9 cel9 giv9 nf9 lis9 lc9 see9 cnt9 0)) (X := []) (perm_ab _ _) ?_
        refine g_iload C dL_law_340 1 rfl ?_
        refine g_icmp_eq (tgt := 347) C dL_law_342 (by decide) (fun c342 => ?_) (fun c342 => ?_)
        · skip
          have c342 := c_eq0 (by omega) (by omega) c342
          refine g_iload C dL_law_347 1 rfl ?_
          refine g_if_ne (tgt := 371) C dL_law_349 (by decide) (fun c349 => ?_) (fun c349 => ?_)
          · skip
            exact absurd c349 (by decide +kernel)
          · skip
            have c349 := cz_eq0 (by omega) c349
            refine g_aload_n C dL_law_352 rfl 5 rfl ?_
            refine g_iconst (v := nI 0) C dL_law_353 (by decide +kernel) ?_
            refine g_lald (nn := 1) (i := nI 0) (v := (outB r1)) C (wC cy ac (zs 0) labC9 quoC9 speC9 mdC9 edC9 lisC9 lcC9 seeC9 cntC9 Fs9).length (app_at (tl_at rfl)) (vp_in_nI (by omega) (by omega)) (by rw [nI_clamp (by omega)]; exact if_pos rfl) dL_law_354 ?_
            refine g_iload C dL_law_355 0 rfl ?_
            refine g_if_eq (tgt := 364) C dL_law_357 (by decide) (fun c357 => ?_) (fun c357 => ?_)
            · skip
              refine g_lconst (v := 0) C dL_law_364 (by decide +kernel) ?_
              refine g_lcmp (v := nI 0) C dL_law_365 (by unfold outB; rw [if_pos c357]; exact lg_self _) ?_
              refine g_if_eq (tgt := 371) C dL_law_366 (by decide) (fun c366 => ?_) (fun c366 => ?_)
              · skip
                have c366 := cz_eq0 (by omega) c366
                refine g_goto (tgt := 1433) C dL_law_371 (by decide) ?_
                exact g_sub (lv' := [(0, .ref b), (1, .ref (ac 0)), (2, .ref (am 0)), (3, .ref o), (4, .int (nI i))]) [2, 3, 4, 5, 6] rfl (next (lab9, has9, quo9, spe9, nam9, gif9, fol9, siz9, cel9, giv9, nf9, lis9, lc9, see9, cnt9) (labC9, quoC9, speC9, mdC9, edC9, lisC9, lcC9, seeC9, cntC9, Fs9) (vp_updL g 0 (outB r1)) 0 hR9)
              · skip
                exact absurd c366 (by decide +kernel)
            · skip
              refine g_lconst (v := 1) C dL_law_360 (by decide +kernel) ?_
              refine g_goto (tgt := 365) C dL_law_361 (by decide) ?_
              refine g_lcmp (v := nI 0) C dL_law_365 (by unfold outB; rw [if_neg c357]; exact lg_self _) ?_
              refine g_if_eq (tgt := 371) C dL_law_366 (by decide) (fun c366 => ?_) (fun c366 => ?_)
              · skip
                have c366 := cz_eq0 (by omega) c366
                refine g_goto (tgt := 1433) C dL_law_371 (by decide) ?_
                exact g_sub (lv' := [(0, .ref b), (1, .ref (ac 0)), (2, .ref (am 0)), (3, .ref o), (4, .int (nI i))]) [2, 3, 4, 5, 6] rfl (next (lab9, has9, quo9, spe9, nam9, gif9, fol9, siz9, cel9, giv9, nf9, lis9, lc9, see9, cnt9) (labC9, quoC9, speC9, mdC9, edC9, lisC9, lcC9, seeC9, cntC9, Fs9) (vp_updL g 0 (outB r1)) 0 hR9)
              · skip
                exact absurd c366 (by decide +kernel)
        · skip
          exact absurd c342 (by decide +kernel)
      · skip
        obtain ⟨⟨lab9, has9, quo9, spe9, nam9, gif9, fol9, siz9, cel9, giv9, nf9, lis9, lc9, see9, cnt9⟩, ⟨labC9, quoC9, speC9, mdC9, edC9, lisC9, lcC9, seeC9, cntC9, Fs9⟩, k9, hR9, e1, e2, e3⟩ := hs.2 "java/lang/IllegalArgumentException" w1 hp
        have hk9 : k9 = 1 := by rcases e3 with e3 | e3; exact e3.2; exact absurd e3.1 (by decide)
        subst hk9
        subst e1
        subst e2
        subst hr8
        subst hw8
        have hRR9 : RR lab9 has9 quo9 spe9 nam9 gif9 fol9 siz9 cel9 giv9 nf9 lis9 lc9 see9 cnt9 labC9 quoC9 speC9 edC9 lisC9 lcC9 seeC9 cntC9 Fs9 := hR9
        have hM9 : MI lab9 quo9 spe9 nam9 siz9 cnt9 lis9 nf9 lc9 := by obtain ⟨h9, -⟩ := id hRR9; exact h9
        refine g_weq (ws' := (wM cy am lab9 has9 quo9 spe9 nam9 gif9 fol9 siz9 cel9 giv9 nf9 lis9 lc9 see9 cnt9 1 ++ (wC cy ac (zs 0) labC9 quoC9 speC9 mdC9 edC9 lisC9 lcC9 seeC9 cntC9 Fs9 ++ [((o, .inl (cy 2, 1, .inr (.inl g))) : Nat × va_E)]))) rfl ?_
        refine g_istore (lv' := [(6, .int r7), (5, .int (nI 1)), (0, .ref b), (1, .ref (ac 0)), (2, .ref (am 0)), (3, .ref o), (4, .int (nI i))]) C dL_law_334 (by decide) rfl ?_
        refine g_aload_n C dL_law_336 rfl 4 rfl ?_
        refine g_FVi (ci := 3) (st := []) C (k_X2_thrown l D cy zs am lab9 has9 quo9 spe9 nam9 gif9 fol9 siz9 cel9 giv9 nf9 lis9 lc9 see9 cnt9 1 hM9) gL_law_X2_thrown rfl ⟨rfl, ydX2_thrown⟩ 0 rfl rfl ⟨Nat.le_of_ble_eq_true rfl, Nat.le_of_ble_eq_true rfl⟩ ⟨hk, hn⟩ rfl (Nat.le_of_ble_eq_true rfl) dL_law_337 (fun r6 w6 h6 => ?_)
        obtain ⟨h6a, h6b⟩ := h6
        subst h6a
        subst h6b
        refine g_perm (ws' := ((wC cy ac (zs 0) labC9 quoC9 speC9 mdC9 edC9 lisC9 lcC9 seeC9 cntC9 Fs9 ++ [((o, .inl (cy 2, 1, .inr (.inl g))) : Nat × va_E)]) ++ wM cy am lab9 has9 quo9 spe9 nam9 gif9 fol9 siz9 cel9 giv9 nf9 lis9 lc9 see9 cnt9 1)) (X := []) (perm_ab _ _) ?_
        refine g_iload C dL_law_340 1 rfl ?_
        refine g_icmp_eq (tgt := 347) C dL_law_342 (by decide) (fun c342 => ?_) (fun c342 => ?_)
        · skip
          have c342 := c_eq0 (by omega) (by omega) c342
          refine g_iload C dL_law_347 1 rfl ?_
          refine g_if_ne (tgt := 371) C dL_law_349 (by decide) (fun c349 => ?_) (fun c349 => ?_)
          · skip
            have c349 := cz_eq1 (by omega) c349
            refine g_goto (tgt := 1433) C dL_law_371 (by decide) ?_
            exact g_sub (lv' := [(0, .ref b), (1, .ref (ac 0)), (2, .ref (am 0)), (3, .ref o), (4, .int (nI i))]) [2, 3, 4, 5, 6] rfl (next (lab9, has9, quo9, spe9, nam9, gif9, fol9, siz9, cel9, giv9, nf9, lis9, lc9, see9, cnt9) (labC9, quoC9, speC9, mdC9, edC9, lisC9, lcC9, seeC9, cntC9, Fs9) g 1 hR9)
          · skip
            exact absurd c349 (by decide +kernel)
        · skip
          exact absurd c342 (by decide +kernel)
      · skip
        obtain ⟨⟨lab9, has9, quo9, spe9, nam9, gif9, fol9, siz9, cel9, giv9, nf9, lis9, lc9, see9, cnt9⟩, ⟨labC9, quoC9, speC9, mdC9, edC9, lisC9, lcC9, seeC9, cntC9, Fs9⟩, k9, hR9, e1, e2, e3⟩ := hs.2 "java/lang/UnsupportedOperationException" w1 hp
        have hk9 : k9 = 2 := by rcases e3 with e3 | e3; exact absurd e3.1 (by decide); exact e3.2
        subst hk9
        subst e1
        subst e2
        subst hr8
        subst hw8
        have hRR9 : RR lab9 has9 quo9 spe9 nam9 gif9 fol9 siz9 cel9 giv9 nf9 lis9 lc9 see9 cnt9 labC9 quoC9 speC9 edC9 lisC9 lcC9 seeC9 cntC9 Fs9 := hR9
        have hM9 : MI lab9 quo9 spe9 nam9 siz9 cnt9 lis9 nf9 lc9 := by obtain ⟨h9, -⟩ := id hRR9; exact h9
        refine g_weq (ws' := (wM cy am lab9 has9 quo9 spe9 nam9 gif9 fol9 siz9 cel9 giv9 nf9 lis9 lc9 see9 cnt9 2 ++ (wC cy ac (zs 0) labC9 quoC9 speC9 mdC9 edC9 lisC9 lcC9 seeC9 cntC9 Fs9 ++ [((o, .inl (cy 2, 1, .inr (.inl g))) : Nat × va_E)]))) rfl ?_
        refine g_istore (lv' := [(6, .int r7), (5, .int (nI 2)), (0, .ref b), (1, .ref (ac 0)), (2, .ref (am 0)), (3, .ref o), (4, .int (nI i))]) C dL_law_334 (by decide) rfl ?_
        refine g_aload_n C dL_law_336 rfl 4 rfl ?_
        refine g_FVi (ci := 3) (st := []) C (k_X2_thrown l D cy zs am lab9 has9 quo9 spe9 nam9 gif9 fol9 siz9 cel9 giv9 nf9 lis9 lc9 see9 cnt9 2 hM9) gL_law_X2_thrown rfl ⟨rfl, ydX2_thrown⟩ 0 rfl rfl ⟨Nat.le_of_ble_eq_true rfl, Nat.le_of_ble_eq_true rfl⟩ ⟨hk, hn⟩ rfl (Nat.le_of_ble_eq_true rfl) dL_law_337 (fun r6 w6 h6 => ?_)
        obtain ⟨h6a, h6b⟩ := h6
        subst h6a
        subst h6b
        refine g_perm (ws' := ((wC cy ac (zs 0) labC9 quoC9 speC9 mdC9 edC9 lisC9 lcC9 seeC9 cntC9 Fs9 ++ [((o, .inl (cy 2, 1, .inr (.inl g))) : Nat × va_E)]) ++ wM cy am lab9 has9 quo9 spe9 nam9 gif9 fol9 siz9 cel9 giv9 nf9 lis9 lc9 see9 cnt9 2)) (X := []) (perm_ab _ _) ?_
        refine g_iload C dL_law_340 1 rfl ?_
        refine g_icmp_eq (tgt := 347) C dL_law_342 (by decide) (fun c342 => ?_) (fun c342 => ?_)
        · skip
          have c342 := c_eq0 (by omega) (by omega) c342
          refine g_iload C dL_law_347 1 rfl ?_
          refine g_if_ne (tgt := 371) C dL_law_349 (by decide) (fun c349 => ?_) (fun c349 => ?_)
          · skip
            have c349 := cz_eq1 (by omega) c349
            refine g_goto (tgt := 1433) C dL_law_371 (by decide) ?_
            exact g_sub (lv' := [(0, .ref b), (1, .ref (ac 0)), (2, .ref (am 0)), (3, .ref o), (4, .int (nI i))]) [2, 3, 4, 5, 6] rfl (next (lab9, has9, quo9, spe9, nam9, gif9, fol9, siz9, cel9, giv9, nf9, lis9, lc9, see9, cnt9) (labC9, quoC9, speC9, mdC9, edC9, lisC9, lcC9, seeC9, cntC9, Fs9) g 2 hR9)
          · skip
            exact absurd c349 (by decide +kernel)
        · skip
          exact absurd c342 (by decide +kernel)
    · skip
      exact absurd c284 c323
  · skip
    refine g_iconst (v := nI 1) C dL_law_287 (by decide +kernel) ?_
    refine g_goto (tgt := 292) C dL_law_288 (by decide) ?_
    refine g_aload_n C dL_law_292 rfl 3 rfl ?_
    refine g_FSi (st := []) C (k_L_list l D cy zs hst ac labC quoC speC mdC edC lisC lcC seeC cntC Fs hC o g (xs (i + 1)) (xs (i + 2)) (xs (i + 3)) true) gL_law_L_list rfl ydL_list ⟨Nat.le_of_ble_eq_true rfl, Nat.le_of_ble_eq_true rfl⟩ ⟨hk, hn⟩ rfl (Nat.le_of_ble_eq_true rfl) dL_law_293 (fun r8 w8 h8 => ?_)
    refine g_istore (lv' := [(5, .int r8), (0, .ref b), (1, .ref (ac 0)), (2, .ref (am 0)), (3, .ref o), (4, .int (nI i))]) C dL_law_296 (by decide) rfl ?_
    refine g_aload_n C dL_law_298 rfl 3 rfl ?_
    refine g_aload_n C dL_law_299 rfl 1 rfl ?_
    refine g_iload C dL_law_300 5 rfl ?_
    refine g_iconst (v := nI 1) C dL_law_302 (by decide +kernel) ?_
    refine g_iadd (v := nI (i + 1)) C dL_law_303 (nI_add _ _) ?_
    refine g_sld C hX hbl hbA (show i + 1 < L by omega) (by omega) dL_law_304 ?_
    refine g_aload_n C dL_law_305 rfl 1 rfl ?_
    refine g_iload C dL_law_306 5 rfl ?_
    refine g_iconst (v := nI 2) C dL_law_308 (by decide +kernel) ?_
    refine g_iadd (v := nI (i + 2)) C dL_law_309 (nI_add _ _) ?_
    refine g_sld C hX hbl hbA (show i + 2 < L by omega) (by omega) dL_law_310 ?_
    refine g_aload_n C dL_law_311 rfl 1 rfl ?_
    refine g_iload C dL_law_312 5 rfl ?_
    refine g_iconst (v := nI 3) C dL_law_314 (by decide +kernel) ?_
    refine g_iadd (v := nI (i + 3)) C dL_law_315 (nI_add _ _) ?_
    refine g_sld C hX hbl hbA (show i + 3 < L by omega) (by omega) dL_law_316 ?_
    refine g_aload_n C dL_law_317 rfl 1 rfl ?_
    refine g_iload C dL_law_318 5 rfl ?_
    refine g_iconst (v := nI 4) C dL_law_320 (by decide +kernel) ?_
    refine g_iadd (v := nI (i + 4)) C dL_law_321 (nI_add _ _) ?_
    refine g_sld C hX hbl hbA (show i + 4 < L by omega) (by omega) dL_law_322 ?_
    refine g_if_eq (tgt := 330) C dL_law_323 (by decide) (fun c323 => ?_) (fun c323 => ?_)
    · skip
      exact absurd c323 c284
    · skip
      refine g_iconst (v := nI 1) C dL_law_326 (by decide +kernel) ?_
      refine g_goto (tgt := 331) C dL_law_327 (by decide) ?_
      refine g_perm (ws' := wM cy am lab has quo spe nam gif fol siz cel giv nf lis lc see cnt thr ++ w8) (X := []) (perm_ab _ _) ?_
      refine g_FVi (ci := 3) (st := []) C (k_X2_list l D cy zs am lab has quo spe nam gif fol siz cel giv nf lis lc see cnt thr hM (xs (i + 1)) (xs (i + 2)) (xs (i + 3)) true) gL_law_X2_list rfl ⟨rfl, ydX2_list⟩ 0 rfl rfl ⟨Nat.le_of_ble_eq_true rfl, Nat.le_of_ble_eq_true rfl⟩ ⟨hk, hn⟩ rfl (Nat.le_of_ble_eq_true rfl) dL_law_331 (fun r7 w7 h7 => ?_)
      have hs := sim_list (zs := zs) (ac := ac) (mdC := mdC) hRR (show PM_list cy am lab has quo spe nam gif fol siz cel giv nf lis lc see cnt (xs (i + 1)) (xs (i + 2)) (xs (i + 3)) true r7 w7 from h7)
      rcases h8 with ⟨r1, w1, hp, hr8, hw8⟩ | ⟨w1, hp, hr8, hw8⟩ | ⟨w1, hp, hr8, hw8⟩
      · skip
        obtain ⟨⟨lab9, has9, quo9, spe9, nam9, gif9, fol9, siz9, cel9, giv9, nf9, lis9, lc9, see9, cnt9⟩, ⟨labC9, quoC9, speC9, mdC9, edC9, lisC9, lcC9, seeC9, cntC9, Fs9⟩, hR9, e1, e2, e3⟩ := hs.1 r1 w1 hp
        subst e3
        subst e1
        subst e2
        subst hr8
        subst hw8
        have hRR9 : RR lab9 has9 quo9 spe9 nam9 gif9 fol9 siz9 cel9 giv9 nf9 lis9 lc9 see9 cnt9 labC9 quoC9 speC9 edC9 lisC9 lcC9 seeC9 cntC9 Fs9 := hR9
        have hM9 : MI lab9 quo9 spe9 nam9 siz9 cnt9 lis9 nf9 lc9 := by obtain ⟨h9, -⟩ := id hRR9; exact h9
        refine g_weq (ws' := (wM cy am lab9 has9 quo9 spe9 nam9 gif9 fol9 siz9 cel9 giv9 nf9 lis9 lc9 see9 cnt9 0 ++ (wC cy ac (zs 0) labC9 quoC9 speC9 mdC9 edC9 lisC9 lcC9 seeC9 cntC9 Fs9 ++ [((o, .inl (cy 2, 1, .inr (.inl (vp_updL g 0 (outB r1))))) : Nat × va_E)]))) rfl ?_
        refine g_istore (lv' := [(6, .int r1), (5, .int (nI 0)), (0, .ref b), (1, .ref (ac 0)), (2, .ref (am 0)), (3, .ref o), (4, .int (nI i))]) C dL_law_334 (by decide) rfl ?_
        refine g_aload_n C dL_law_336 rfl 4 rfl ?_
        refine g_FVi (ci := 3) (st := []) C (k_X2_thrown l D cy zs am lab9 has9 quo9 spe9 nam9 gif9 fol9 siz9 cel9 giv9 nf9 lis9 lc9 see9 cnt9 0 hM9) gL_law_X2_thrown rfl ⟨rfl, ydX2_thrown⟩ 0 rfl rfl ⟨Nat.le_of_ble_eq_true rfl, Nat.le_of_ble_eq_true rfl⟩ ⟨hk, hn⟩ rfl (Nat.le_of_ble_eq_true rfl) dL_law_337 (fun r6 w6 h6 => ?_)
        obtain ⟨h6a, h6b⟩ := h6
        subst h6a
        subst h6b
        refine g_perm (ws' := ((wC cy ac (zs 0) labC9 quoC9 speC9 mdC9 edC9 lisC9 lcC9 seeC9 cntC9 Fs9 ++ [((o, .inl (cy 2, 1, .inr (.inl (vp_updL g 0 (outB r1))))) : Nat × va_E)]) ++ wM cy am lab9 has9 quo9 spe9 nam9 gif9 fol9 siz9 cel9 giv9 nf9 lis9 lc9 see9 cnt9 0)) (X := []) (perm_ab _ _) ?_
        refine g_iload C dL_law_340 1 rfl ?_
        refine g_icmp_eq (tgt := 347) C dL_law_342 (by decide) (fun c342 => ?_) (fun c342 => ?_)
        · skip
          have c342 := c_eq0 (by omega) (by omega) c342
          refine g_iload C dL_law_347 1 rfl ?_
          refine g_if_ne (tgt := 371) C dL_law_349 (by decide) (fun c349 => ?_) (fun c349 => ?_)
          · skip
            exact absurd c349 (by decide +kernel)
          · skip
            have c349 := cz_eq0 (by omega) c349
            refine g_aload_n C dL_law_352 rfl 5 rfl ?_
            refine g_iconst (v := nI 0) C dL_law_353 (by decide +kernel) ?_
            refine g_lald (nn := 1) (i := nI 0) (v := (outB r1)) C (wC cy ac (zs 0) labC9 quoC9 speC9 mdC9 edC9 lisC9 lcC9 seeC9 cntC9 Fs9).length (app_at (tl_at rfl)) (vp_in_nI (by omega) (by omega)) (by rw [nI_clamp (by omega)]; exact if_pos rfl) dL_law_354 ?_
            refine g_iload C dL_law_355 0 rfl ?_
            refine g_if_eq (tgt := 364) C dL_law_357 (by decide) (fun c357 => ?_) (fun c357 => ?_)
            · skip
              refine g_lconst (v := 0) C dL_law_364 (by decide +kernel) ?_
              refine g_lcmp (v := nI 0) C dL_law_365 (by unfold outB; rw [if_pos c357]; exact lg_self _) ?_
              refine g_if_eq (tgt := 371) C dL_law_366 (by decide) (fun c366 => ?_) (fun c366 => ?_)
              · skip
                have c366 := cz_eq0 (by omega) c366
                refine g_goto (tgt := 1433) C dL_law_371 (by decide) ?_
                exact g_sub (lv' := [(0, .ref b), (1, .ref (ac 0)), (2, .ref (am 0)), (3, .ref o), (4, .int (nI i))]) [2, 3, 4, 5, 6] rfl (next (lab9, has9, quo9, spe9, nam9, gif9, fol9, siz9, cel9, giv9, nf9, lis9, lc9, see9, cnt9) (labC9, quoC9, speC9, mdC9, edC9, lisC9, lcC9, seeC9, cntC9, Fs9) (vp_updL g 0 (outB r1)) 0 hR9)
              · skip
                exact absurd c366 (by decide +kernel)
            · skip
              refine g_lconst (v := 1) C dL_law_360 (by decide +kernel) ?_
              refine g_goto (tgt := 365) C dL_law_361 (by decide) ?_
              refine g_lcmp (v := nI 0) C dL_law_365 (by unfold outB; rw [if_neg c357]; exact lg_self _) ?_
              refine g_if_eq (tgt := 371) C dL_law_366 (by decide) (fun c366 => ?_) (fun c366 => ?_)
              · skip
                have c366 := cz_eq0 (by omega) c366
                refine g_goto (tgt := 1433) C dL_law_371 (by decide) ?_
                exact g_sub (lv' := [(0, .ref b), (1, .ref (ac 0)), (2, .ref (am 0)), (3, .ref o), (4, .int (nI i))]) [2, 3, 4, 5, 6] rfl (next (lab9, has9, quo9, spe9, nam9, gif9, fol9, siz9, cel9, giv9, nf9, lis9, lc9, see9, cnt9) (labC9, quoC9, speC9, mdC9, edC9, lisC9, lcC9, seeC9, cntC9, Fs9) (vp_updL g 0 (outB r1)) 0 hR9)
              · skip
                exact absurd c366 (by decide +kernel)
        · skip
          exact absurd c342 (by decide +kernel)
      · skip
        obtain ⟨⟨lab9, has9, quo9, spe9, nam9, gif9, fol9, siz9, cel9, giv9, nf9, lis9, lc9, see9, cnt9⟩, ⟨labC9, quoC9, speC9, mdC9, edC9, lisC9, lcC9, seeC9, cntC9, Fs9⟩, k9, hR9, e1, e2, e3⟩ := hs.2 "java/lang/IllegalArgumentException" w1 hp
        have hk9 : k9 = 1 := by rcases e3 with e3 | e3; exact e3.2; exact absurd e3.1 (by decide)
        subst hk9
        subst e1
        subst e2
        subst hr8
        subst hw8
        have hRR9 : RR lab9 has9 quo9 spe9 nam9 gif9 fol9 siz9 cel9 giv9 nf9 lis9 lc9 see9 cnt9 labC9 quoC9 speC9 edC9 lisC9 lcC9 seeC9 cntC9 Fs9 := hR9
        have hM9 : MI lab9 quo9 spe9 nam9 siz9 cnt9 lis9 nf9 lc9 := by obtain ⟨h9, -⟩ := id hRR9; exact h9
        refine g_weq (ws' := (wM cy am lab9 has9 quo9 spe9 nam9 gif9 fol9 siz9 cel9 giv9 nf9 lis9 lc9 see9 cnt9 1 ++ (wC cy ac (zs 0) labC9 quoC9 speC9 mdC9 edC9 lisC9 lcC9 seeC9 cntC9 Fs9 ++ [((o, .inl (cy 2, 1, .inr (.inl g))) : Nat × va_E)]))) rfl ?_
        refine g_istore (lv' := [(6, .int r7), (5, .int (nI 1)), (0, .ref b), (1, .ref (ac 0)), (2, .ref (am 0)), (3, .ref o), (4, .int (nI i))]) C dL_law_334 (by decide) rfl ?_
        refine g_aload_n C dL_law_336 rfl 4 rfl ?_
        refine g_FVi (ci := 3) (st := []) C (k_X2_thrown l D cy zs am lab9 has9 quo9 spe9 nam9 gif9 fol9 siz9 cel9 giv9 nf9 lis9 lc9 see9 cnt9 1 hM9) gL_law_X2_thrown rfl ⟨rfl, ydX2_thrown⟩ 0 rfl rfl ⟨Nat.le_of_ble_eq_true rfl, Nat.le_of_ble_eq_true rfl⟩ ⟨hk, hn⟩ rfl (Nat.le_of_ble_eq_true rfl) dL_law_337 (fun r6 w6 h6 => ?_)
        obtain ⟨h6a, h6b⟩ := h6
        subst h6a
        subst h6b
        refine g_perm (ws' := ((wC cy ac (zs 0) labC9 quoC9 speC9 mdC9 edC9 lisC9 lcC9 seeC9 cntC9 Fs9 ++ [((o, .inl (cy 2, 1, .inr (.inl g))) : Nat × va_E)]) ++ wM cy am lab9 has9 quo9 spe9 nam9 gif9 fol9 siz9 cel9 giv9 nf9 lis9 lc9 see9 cnt9 1)) (X := []) (perm_ab _ _) ?_
        refine g_iload C dL_law_340 1 rfl ?_
        refine g_icmp_eq (tgt := 347) C dL_law_342 (by decide) (fun c342 => ?_) (fun c342 => ?_)
        · skip
          have c342 := c_eq0 (by omega) (by omega) c342
          refine g_iload C dL_law_347 1 rfl ?_
          refine g_if_ne (tgt := 371) C dL_law_349 (by decide) (fun c349 => ?_) (fun c349 => ?_)
          · skip
            have c349 := cz_eq1 (by omega) c349
            refine g_goto (tgt := 1433) C dL_law_371 (by decide) ?_
            exact g_sub (lv' := [(0, .ref b), (1, .ref (ac 0)), (2, .ref (am 0)), (3, .ref o), (4, .int (nI i))]) [2, 3, 4, 5, 6] rfl (next (lab9, has9, quo9, spe9, nam9, gif9, fol9, siz9, cel9, giv9, nf9, lis9, lc9, see9, cnt9) (labC9, quoC9, speC9, mdC9, edC9, lisC9, lcC9, seeC9, cntC9, Fs9) g 1 hR9)
          · skip
            exact absurd c349 (by decide +kernel)
        · skip
          exact absurd c342 (by decide +kernel)
      · skip
        obtain ⟨⟨lab9, has9, quo9, spe9, nam9, gif9, fol9, siz9, cel9, giv9, nf9, lis9, lc9, see9, cnt9⟩, ⟨labC9, quoC9, speC9, mdC9, edC9, lisC9, lcC9, seeC9, cntC9, Fs9⟩, k9, hR9, e1, e2, e3⟩ := hs.2 "java/lang/UnsupportedOperationException" w1 hp
        have hk9 : k9 = 2 := by rcases e3 with e3 | e3; exact absurd e3.1 (by decide); exact e3.2
        subst hk9
        subst e1
        subst e2
        subst hr8
        subst hw8
        have hRR9 : RR lab9 has9 quo9 spe9 nam9 gif9 fol9 siz9 cel9 giv9 nf9 lis9 lc9 see9 cnt9 labC9 quoC9 speC9 edC9 lisC9 lcC9 seeC9 cntC9 Fs9 := hR9
        have hM9 : MI lab9 quo9 spe9 nam9 siz9 cnt9 lis9 nf9 lc9 := by obtain ⟨h9, -⟩ := id hRR9; exact h9
        refine g_weq (ws' := (wM cy am lab9 has9 quo9 spe9 nam9 gif9 fol9 siz9 cel9 giv9 nf9 lis9 lc9 see9 cnt9 2 ++ (wC cy ac (zs 0) labC9 quoC9 speC9 mdC9 edC9 lisC9 lcC9 seeC9 cntC9 Fs9 ++ [((o, .inl (cy 2, 1, .inr (.inl g))) : Nat × va_E)]))) rfl ?_
        refine g_istore (lv' := [(6, .int r7), (5, .int (nI 2)), (0, .ref b), (1, .ref (ac 0)), (2, .ref (am 0)), (3, .ref o), (4, .int (nI i))]) C dL_law_334 (by decide) rfl ?_
        refine g_aload_n C dL_law_336 rfl 4 rfl ?_
        refine g_FVi (ci := 3) (st := []) C (k_X2_thrown l D cy zs am lab9 has9 quo9 spe9 nam9 gif9 fol9 siz9 cel9 giv9 nf9 lis9 lc9 see9 cnt9 2 hM9) gL_law_X2_thrown rfl ⟨rfl, ydX2_thrown⟩ 0 rfl rfl ⟨Nat.le_of_ble_eq_true rfl, Nat.le_of_ble_eq_true rfl⟩ ⟨hk, hn⟩ rfl (Nat.le_of_ble_eq_true rfl) dL_law_337 (fun r6 w6 h6 => ?_)
        obtain ⟨h6a, h6b⟩ := h6
        subst h6a
        subst h6b
        refine g_perm (ws' := ((wC cy ac (zs 0) labC9 quoC9 speC9 mdC9 edC9 lisC9 lcC9 seeC9 cntC9 Fs9 ++ [((o, .inl (cy 2, 1, .inr (.inl g))) : Nat × va_E)]) ++ wM cy am lab9 has9 quo9 spe9 nam9 gif9 fol9 siz9 cel9 giv9 nf9 lis9 lc9 see9 cnt9 2)) (X := []) (perm_ab _ _) ?_
        refine g_iload C dL_law_340 1 rfl ?_
        refine g_icmp_eq (tgt := 347) C dL_law_342 (by decide) (fun c342 => ?_) (fun c342 => ?_)
        · skip
          have c342 := c_eq0 (by omega) (by omega) c342
          refine g_iload C dL_law_347 1 rfl ?_
          refine g_if_ne (tgt := 371) C dL_law_349 (by decide) (fun c349 => ?_) (fun c349 => ?_)
          · skip
            have c349 := cz_eq1 (by omega) c349
            refine g_goto (tgt := 1433) C dL_law_371 (by decide) ?_
            exact g_sub (lv' := [(0, .ref b), (1, .ref (ac 0)), (2, .ref (am 0)), (3, .ref o), (4, .int (nI i))]) [2, 3, 4, 5, 6] rfl (next (lab9, has9, quo9, spe9, nam9, gif9, fol9, siz9, cel9, giv9, nf9, lis9, lc9, see9, cnt9) (labC9, quoC9, speC9, mdC9, edC9, lisC9, lcC9, seeC9, cntC9, Fs9) g 2 hR9)
          · skip
            exact absurd c349 (by decide +kernel)
        · skip
          exact absurd c342 (by decide +kernel)
set_option maxRecDepth 100000 in
set_option maxHeartbeats 4000000 in
theorem b_flows {p : Program} {l : Launch} {e : Env} {s : State} {m : MethodId} {b : Nat} {below : List Frame} {meth : Method} {c : Code} {D : va_G} {cy : Nat → ClassId} {zs : Nat → Nat} {A : Nat → Prop} {Q : State → Prop} {k n L i : Nat} {xs : Nat → Int32} {rt : Option FieldType} (C : Cx p s m #[.ref b] meth c cL_law 7 RL wsL_law D cy zs A rt) (hst : l.stackTraces = false) (hX : va_X b L xs s s.heap) (hbl : b < s.heap.size) (hbA : ¬ A b) (hi : i + 5 ≤ L) (hL : L ≤ 2560) (am ac : Nat → Nat) (o : Nat) (g : Nat → Int64) (thr : Nat) {lab : Nat → Nat} {has : Nat → Bool} {quo spe nam : Nat → Nat} {gif : Nat → Bool} {fol : Nat → Int32} {siz : Nat → Nat} {cel : Nat → Int32} {giv : Nat → Bool} {nf : Nat} {lis : Nat → Nat} {lc : Nat} {see : Nat → Int32} {cnt : Nat → Nat} {labC : Nat → Option Nat} {quoC speC : Nat → Nat} {mdC : Int32} {edC : Option (Nat × Nat)} {lisC : Nat → Nat} {lcC : Nat} {seeC : Nat → Nat → Int32} {cntC : Nat → Nat} {Fs : List FT} (hRR : RR lab has quo spe nam gif fol siz cel giv nf lis lc see cnt labC quoC speC edC lisC lcC seeC cntC Fs) (hk : k + 12 ≤ room_1.cells) (hn : n + 500 ≤ room_1.slots) (next : ∀ (m9 : MS) (c9 : CS) (g9 : Nat → Int64) (thr9 : Nat), RT m9 c9 → GG p l e room_1 s m #[.ref b] below meth c D A 7 Q ((wCt cy ac (zs 0) c9 ++ [((o, .inl (cy 2, 1, .inr (.inl g9))) : Nat × va_E)]) ++ wMt cy am m9 thr9) (k + 12) (n + 500) [(0, .ref b), (1, .ref (ac 0)), (2, .ref (am 0)), (3, .ref o), (4, .int (nI i))] 1433 []) : GG p l e room_1 s m #[.ref b] below meth c D A 7 Q ((wC cy ac (zs 0) labC quoC speC mdC edC lisC lcC seeC cntC Fs ++ [((o, .inl (cy 2, 1, .inr (.inl g))) : Nat × va_E)]) ++ wM cy am lab has quo spe nam gif fol siz cel giv nf lis lc see cnt thr) k n [(0, .ref b), (1, .ref (ac 0)), (2, .ref (am 0)), (3, .ref o), (4, .int (nI i))] 374 [] := by
  obtain ⟨hM, hC, hl9, hqu, hsp, hfi, hls, he9⟩ := id hRR
  refine g_aload_n C dL_law_374 rfl 1 rfl ?_
  refine g_aload_n C dL_law_375 rfl 0 rfl ?_
  refine g_iload C dL_law_376 4 rfl ?_
  refine g_iconst (v := nI 1) C dL_law_378 (by decide +kernel) ?_
  refine g_iadd (v := nI (i + 1)) C dL_law_379 (nI_add _ _) ?_
  refine g_sld C hX hbl hbA (show i + 1 < L by omega) (by omega) dL_law_380 ?_
  refine g_aload_n C dL_law_381 rfl 0 rfl ?_
  refine g_iload C dL_law_382 4 rfl ?_
  refine g_iconst (v := nI 2) C dL_law_384 (by decide +kernel) ?_
  refine g_iadd (v := nI (i + 2)) C dL_law_385 (nI_add _ _) ?_
  refine g_sld C hX hbl hbA (show i + 2 < L by omega) (by omega) dL_law_386 ?_
  refine g_aload_n C dL_law_387 rfl 3 rfl ?_
  refine g_FSi (st := []) C (k_L_flows l D cy zs hst ac labC quoC speC mdC edC lisC lcC seeC cntC Fs hC o g (xs (i + 1)) (xs (i + 2))) gL_law_L_flows rfl ydL_flows ⟨Nat.le_of_ble_eq_true rfl, Nat.le_of_ble_eq_true rfl⟩ ⟨hk, hn⟩ rfl (Nat.le_of_ble_eq_true rfl) dL_law_388 (fun r8 w8 h8 => ?_)
  refine g_istore (lv' := [(5, .int r8), (0, .ref b), (1, .ref (ac 0)), (2, .ref (am 0)), (3, .ref o), (4, .int (nI i))]) C dL_law_391 (by decide) rfl ?_
  refine g_aload_n C dL_law_393 rfl 3 rfl ?_
  refine g_aload_n C dL_law_394 rfl 1 rfl ?_
  refine g_iload C dL_law_395 5 rfl ?_
  refine g_iconst (v := nI 1) C dL_law_397 (by decide +kernel) ?_
  refine g_iadd (v := nI (i + 1)) C dL_law_398 (nI_add _ _) ?_
  refine g_sld C hX hbl hbA (show i + 1 < L by omega) (by omega) dL_law_399 ?_
  refine g_aload_n C dL_law_400 rfl 1 rfl ?_
  refine g_iload C dL_law_401 5 rfl ?_
  refine g_iconst (v := nI 2) C dL_law_403 (by decide +kernel) ?_
  refine g_iadd (v := nI (i + 2)) C dL_law_404 (nI_add _ _) ?_
  refine g_sld C hX hbl hbA (show i + 2 < L by omega) (by omega) dL_law_405 ?_
  refine g_perm (ws' := wM cy am lab has quo spe nam gif fol siz cel giv nf lis lc see cnt thr ++ w8) (X := []) (perm_ab _ _) ?_
  refine g_FVi (ci := 3) (st := []) C (k_X2_flows l D cy zs am lab has quo spe nam gif fol siz cel giv nf lis lc see cnt thr hM (xs (i + 1)) (xs (i + 2))) gL_law_X2_flows rfl ⟨rfl, ydX2_flows⟩ 0 rfl rfl ⟨Nat.le_of_ble_eq_true rfl, Nat.le_of_ble_eq_true rfl⟩ ⟨hk, hn⟩ rfl (Nat.le_of_ble_eq_true rfl) dL_law_406 (fun r7 w7 h7 => ?_)
  have hs := sim_flows (zs := zs) (ac := ac) (mdC := mdC) hRR (show PM_flows cy am lab has quo spe nam gif fol siz cel giv nf lis lc see cnt (xs (i + 1)) (xs (i + 2)) r7 w7 from h7)
  rcases h8 with ⟨r1, w1, hp, hr8, hw8⟩ | ⟨w1, hp, hr8, hw8⟩
  · skip
    obtain ⟨⟨lab9, has9, quo9, spe9, nam9, gif9, fol9, siz9, cel9, giv9, nf9, lis9, lc9, see9, cnt9⟩, ⟨labC9, quoC9, speC9, mdC9, edC9, lisC9, lcC9, seeC9, cntC9, Fs9⟩, hR9, e1, e2, e3⟩ := hs.1 r1 w1 hp
    subst e3
    subst e1
    subst e2
    subst hr8
    subst hw8
    have hRR9 : RR lab9 has9 quo9 spe9 nam9 gif9 fol9 siz9 cel9 giv9 nf9 lis9 lc9 see9 cnt9 labC9 quoC9 speC9 edC9 lisC9 lcC9 seeC9 cntC9 Fs9 := hR9
    have hM9 : MI lab9 quo9 spe9 nam9 siz9 cnt9 lis9 nf9 lc9 := by obtain ⟨h9, -⟩ := id hRR9; exact h9
    refine g_weq (ws' := (wM cy am lab9 has9 quo9 spe9 nam9 gif9 fol9 siz9 cel9 giv9 nf9 lis9 lc9 see9 cnt9 0 ++ (wC cy ac (zs 0) labC9 quoC9 speC9 mdC9 edC9 lisC9 lcC9 seeC9 cntC9 Fs9 ++ [((o, .inl (cy 2, 1, .inr (.inl (vp_updL g 0 (outB r1))))) : Nat × va_E)]))) rfl ?_
    refine g_istore (lv' := [(6, .int r1), (5, .int (nI 0)), (0, .ref b), (1, .ref (ac 0)), (2, .ref (am 0)), (3, .ref o), (4, .int (nI i))]) C dL_law_409 (by decide) rfl ?_
    refine g_aload_n C dL_law_411 rfl 4 rfl ?_
    refine g_FVi (ci := 3) (st := []) C (k_X2_thrown l D cy zs am lab9 has9 quo9 spe9 nam9 gif9 fol9 siz9 cel9 giv9 nf9 lis9 lc9 see9 cnt9 0 hM9) gL_law_X2_thrown rfl ⟨rfl, ydX2_thrown⟩ 0 rfl rfl ⟨Nat.le_of_ble_eq_true rfl, Nat.le_of_ble_eq_true rfl⟩ ⟨hk, hn⟩ rfl (Nat.le_of_ble_eq_true rfl) dL_law_412 (fun r6 w6 h6 => ?_)
    obtain ⟨h6a, h6b⟩ := h6
    subst h6a
    subst h6b
    refine g_perm (ws' := ((wC cy ac (zs 0) labC9 quoC9 speC9 mdC9 edC9 lisC9 lcC9 seeC9 cntC9 Fs9 ++ [((o, .inl (cy 2, 1, .inr (.inl (vp_updL g 0 (outB r1))))) : Nat × va_E)]) ++ wM cy am lab9 has9 quo9 spe9 nam9 gif9 fol9 siz9 cel9 giv9 nf9 lis9 lc9 see9 cnt9 0)) (X := []) (perm_ab _ _) ?_
    refine g_iload C dL_law_415 1 rfl ?_
    refine g_icmp_eq (tgt := 422) C dL_law_417 (by decide) (fun c417 => ?_) (fun c417 => ?_)
    · skip
      have c417 := c_eq0 (by omega) (by omega) c417
      refine g_iload C dL_law_422 1 rfl ?_
      refine g_if_ne (tgt := 446) C dL_law_424 (by decide) (fun c424 => ?_) (fun c424 => ?_)
      · skip
        exact absurd c424 (by decide +kernel)
      · skip
        have c424 := cz_eq0 (by omega) c424
        refine g_aload_n C dL_law_427 rfl 5 rfl ?_
        refine g_iconst (v := nI 0) C dL_law_428 (by decide +kernel) ?_
        refine g_lald (nn := 1) (i := nI 0) (v := (outB r1)) C (wC cy ac (zs 0) labC9 quoC9 speC9 mdC9 edC9 lisC9 lcC9 seeC9 cntC9 Fs9).length (app_at (tl_at rfl)) (vp_in_nI (by omega) (by omega)) (by rw [nI_clamp (by omega)]; exact if_pos rfl) dL_law_429 ?_
        refine g_iload C dL_law_430 0 rfl ?_
        refine g_if_eq (tgt := 439) C dL_law_432 (by decide) (fun c432 => ?_) (fun c432 => ?_)
        · skip
          refine g_lconst (v := 0) C dL_law_439 (by decide +kernel) ?_
          refine g_lcmp (v := nI 0) C dL_law_440 (by unfold outB; rw [if_pos c432]; exact lg_self _) ?_
          refine g_if_eq (tgt := 446) C dL_law_441 (by decide) (fun c441 => ?_) (fun c441 => ?_)
          · skip
            have c441 := cz_eq0 (by omega) c441
            refine g_goto (tgt := 1433) C dL_law_446 (by decide) ?_
            exact g_sub (lv' := [(0, .ref b), (1, .ref (ac 0)), (2, .ref (am 0)), (3, .ref o), (4, .int (nI i))]) [2, 3, 4, 5, 6] rfl (next (lab9, has9, quo9, spe9, nam9, gif9, fol9, siz9, cel9, giv9, nf9, lis9, lc9, see9, cnt9) (labC9, quoC9, speC9, mdC9, edC9, lisC9, lcC9, seeC9, cntC9, Fs9) (vp_updL g 0 (outB r1)) 0 hR9)
          · skip
            exact absurd c441 (by decide +kernel)
        · skip
          refine g_lconst (v := 1) C dL_law_435 (by decide +kernel) ?_
          refine g_goto (tgt := 440) C dL_law_436 (by decide) ?_
          refine g_lcmp (v := nI 0) C dL_law_440 (by unfold outB; rw [if_neg c432]; exact lg_self _) ?_
          refine g_if_eq (tgt := 446) C dL_law_441 (by decide) (fun c441 => ?_) (fun c441 => ?_)
          · skip
            have c441 := cz_eq0 (by omega) c441
            refine g_goto (tgt := 1433) C dL_law_446 (by decide) ?_
            exact g_sub (lv' := [(0, .ref b), (1, .ref (ac 0)), (2, .ref (am 0)), (3, .ref o), (4, .int (nI i))]) [2, 3, 4, 5, 6] rfl (next (lab9, has9, quo9, spe9, nam9, gif9, fol9, siz9, cel9, giv9, nf9, lis9, lc9, see9, cnt9) (labC9, quoC9, speC9, mdC9, edC9, lisC9, lcC9, seeC9, cntC9, Fs9) (vp_updL g 0 (outB r1)) 0 hR9)
          · skip
            exact absurd c441 (by decide +kernel)
    · skip
      exact absurd c417 (by decide +kernel)
  · skip
    obtain ⟨⟨lab9, has9, quo9, spe9, nam9, gif9, fol9, siz9, cel9, giv9, nf9, lis9, lc9, see9, cnt9⟩, ⟨labC9, quoC9, speC9, mdC9, edC9, lisC9, lcC9, seeC9, cntC9, Fs9⟩, k9, hR9, e1, e2, e3⟩ := hs.2 "java/lang/IllegalArgumentException" w1 hp
    have hk9 : k9 = 1 := by rcases e3 with e3 | e3; exact e3.2; exact absurd e3.1 (by decide)
    subst hk9
    subst e1
    subst e2
    subst hr8
    subst hw8
    have hRR9 : RR lab9 has9 quo9 spe9 nam9 gif9 fol9 siz9 cel9 giv9 nf9 lis9 lc9 see9 cnt9 labC9 quoC9 speC9 edC9 lisC9 lcC9 seeC9 cntC9 Fs9 := hR9
    have hM9 : MI lab9 quo9 spe9 nam9 siz9 cnt9 lis9 nf9 lc9 := by obtain ⟨h9, -⟩ := id hRR9; exact h9
    refine g_weq (ws' := (wM cy am lab9 has9 quo9 spe9 nam9 gif9 fol9 siz9 cel9 giv9 nf9 lis9 lc9 see9 cnt9 1 ++ (wC cy ac (zs 0) labC9 quoC9 speC9 mdC9 edC9 lisC9 lcC9 seeC9 cntC9 Fs9 ++ [((o, .inl (cy 2, 1, .inr (.inl g))) : Nat × va_E)]))) rfl ?_
    refine g_istore (lv' := [(6, .int r7), (5, .int (nI 1)), (0, .ref b), (1, .ref (ac 0)), (2, .ref (am 0)), (3, .ref o), (4, .int (nI i))]) C dL_law_409 (by decide) rfl ?_
    refine g_aload_n C dL_law_411 rfl 4 rfl ?_
    refine g_FVi (ci := 3) (st := []) C (k_X2_thrown l D cy zs am lab9 has9 quo9 spe9 nam9 gif9 fol9 siz9 cel9 giv9 nf9 lis9 lc9 see9 cnt9 1 hM9) gL_law_X2_thrown rfl ⟨rfl, ydX2_thrown⟩ 0 rfl rfl ⟨Nat.le_of_ble_eq_true rfl, Nat.le_of_ble_eq_true rfl⟩ ⟨hk, hn⟩ rfl (Nat.le_of_ble_eq_true rfl) dL_law_412 (fun r6 w6 h6 => ?_)
    obtain ⟨h6a, h6b⟩ := h6
    subst h6a
    subst h6b
    refine g_perm (ws' := ((wC cy ac (zs 0) labC9 quoC9 speC9 mdC9 edC9 lisC9 lcC9 seeC9 cntC9 Fs9 ++ [((o, .inl (cy 2, 1, .inr (.inl g))) : Nat × va_E)]) ++ wM cy am lab9 has9 quo9 spe9 nam9 gif9 fol9 siz9 cel9 giv9 nf9 lis9 lc9 see9 cnt9 1)) (X := []) (perm_ab _ _) ?_
    refine g_iload C dL_law_415 1 rfl ?_
    refine g_icmp_eq (tgt := 422) C dL_law_417 (by decide) (fun c417 => ?_) (fun c417 => ?_)
    · skip
      have c417 := c_eq0 (by omega) (by omega) c417
      refine g_iload C dL_law_422 1 rfl ?_
      refine g_if_ne (tgt := 446) C dL_law_424 (by decide) (fun c424 => ?_) (fun c424 => ?_)
      · skip
        have c424 := cz_eq1 (by omega) c424
        refine g_goto (tgt := 1433) C dL_law_446 (by decide) ?_
        exact g_sub (lv' := [(0, .ref b), (1, .ref (ac 0)), (2, .ref (am 0)), (3, .ref o), (4, .int (nI i))]) [2, 3, 4, 5, 6] rfl (next (lab9, has9, quo9, spe9, nam9, gif9, fol9, siz9, cel9, giv9, nf9, lis9, lc9, see9, cnt9) (labC9, quoC9, speC9, mdC9, edC9, lisC9, lcC9, seeC9, cntC9, Fs9) g 1 hR9)
      · skip
        exact absurd c424 (by decide +kernel)
    · skip
      exact absurd c417 (by decide +kernel)
set_option maxRecDepth 100000 in
set_option maxHeartbeats 4000000 in
theorem b_make {p : Program} {l : Launch} {e : Env} {s : State} {m : MethodId} {b : Nat} {below : List Frame} {meth : Method} {c : Code} {D : va_G} {cy : Nat → ClassId} {zs : Nat → Nat} {A : Nat → Prop} {Q : State → Prop} {k n L i : Nat} {xs : Nat → Int32} {rt : Option FieldType} (C : Cx p s m #[.ref b] meth c cL_law 7 RL wsL_law D cy zs A rt) (hst : l.stackTraces = false) (hX : va_X b L xs s s.heap) (hbl : b < s.heap.size) (hbA : ¬ A b) (hi : i + 5 ≤ L) (hL : L ≤ 2560) (am ac : Nat → Nat) (o : Nat) (g : Nat → Int64) (thr : Nat) {lab : Nat → Nat} {has : Nat → Bool} {quo spe nam : Nat → Nat} {gif : Nat → Bool} {fol : Nat → Int32} {siz : Nat → Nat} {cel : Nat → Int32} {giv : Nat → Bool} {nf : Nat} {lis : Nat → Nat} {lc : Nat} {see : Nat → Int32} {cnt : Nat → Nat} {labC : Nat → Option Nat} {quoC speC : Nat → Nat} {mdC : Int32} {edC : Option (Nat × Nat)} {lisC : Nat → Nat} {lcC : Nat} {seeC : Nat → Nat → Int32} {cntC : Nat → Nat} {Fs : List FT} (hRR : RR lab has quo spe nam gif fol siz cel giv nf lis lc see cnt labC quoC speC edC lisC lcC seeC cntC Fs) (hk : k + 12 ≤ room_1.cells) (hn : n + 500 ≤ room_1.slots) (next : ∀ (m9 : MS) (c9 : CS) (g9 : Nat → Int64) (thr9 : Nat), RT m9 c9 → GG p l e room_1 s m #[.ref b] below meth c D A 7 Q ((wCt cy ac (zs 0) c9 ++ [((o, .inl (cy 2, 1, .inr (.inl g9))) : Nat × va_E)]) ++ wMt cy am m9 thr9) (k + 12) (n + 500) [(0, .ref b), (1, .ref (ac 0)), (2, .ref (am 0)), (3, .ref o), (4, .int (nI i))] 1433 []) : GG p l e room_1 s m #[.ref b] below meth c D A 7 Q ((wC cy ac (zs 0) labC quoC speC mdC edC lisC lcC seeC cntC Fs ++ [((o, .inl (cy 2, 1, .inr (.inl g))) : Nat × va_E)]) ++ wM cy am lab has quo spe nam gif fol siz cel giv nf lis lc see cnt thr) k n [(0, .ref b), (1, .ref (ac 0)), (2, .ref (am 0)), (3, .ref o), (4, .int (nI i))] 449 [] := by
  obtain ⟨hM, hC, hl9, hqu, hsp, hfi, hls, he9⟩ := id hRR
  refine g_aload_n C dL_law_449 rfl 1 rfl ?_
  refine g_aload_n C dL_law_450 rfl 0 rfl ?_
  refine g_iload C dL_law_451 4 rfl ?_
  refine g_iconst (v := nI 1) C dL_law_453 (by decide +kernel) ?_
  refine g_iadd (v := nI (i + 1)) C dL_law_454 (nI_add _ _) ?_
  refine g_sld C hX hbl hbA (show i + 1 < L by omega) (by omega) dL_law_455 ?_
  refine g_aload_n C dL_law_456 rfl 0 rfl ?_
  refine g_iload C dL_law_457 4 rfl ?_
  refine g_iconst (v := nI 2) C dL_law_459 (by decide +kernel) ?_
  refine g_iadd (v := nI (i + 2)) C dL_law_460 (nI_add _ _) ?_
  refine g_sld C hX hbl hbA (show i + 2 < L by omega) (by omega) dL_law_461 ?_
  refine g_aload_n C dL_law_462 rfl 0 rfl ?_
  refine g_iload C dL_law_463 4 rfl ?_
  refine g_iconst (v := nI 3) C dL_law_465 (by decide +kernel) ?_
  refine g_iadd (v := nI (i + 3)) C dL_law_466 (nI_add _ _) ?_
  refine g_sld C hX hbl hbA (show i + 3 < L by omega) (by omega) dL_law_467 ?_
  refine g_aload_n C dL_law_468 rfl 0 rfl ?_
  refine g_iload C dL_law_469 4 rfl ?_
  refine g_iconst (v := nI 4) C dL_law_471 (by decide +kernel) ?_
  refine g_iadd (v := nI (i + 4)) C dL_law_472 (nI_add _ _) ?_
  refine g_sld C hX hbl hbA (show i + 4 < L by omega) (by omega) dL_law_473 ?_
  refine g_aload_n C dL_law_474 rfl 3 rfl ?_
  refine g_FSi (st := []) C (k_L_make l D cy zs hst ac labC quoC speC mdC edC lisC lcC seeC cntC Fs hC o g (xs (i + 1)) (xs (i + 2)) (xs (i + 3)) (xs (i + 4))) gL_law_L_make rfl ydL_make ⟨Nat.le_of_ble_eq_true rfl, Nat.le_of_ble_eq_true rfl⟩ ⟨hk, hn⟩ rfl (Nat.le_of_ble_eq_true rfl) dL_law_475 (fun r8 w8 h8 => ?_)
  refine g_istore (lv' := [(5, .int r8), (0, .ref b), (1, .ref (ac 0)), (2, .ref (am 0)), (3, .ref o), (4, .int (nI i))]) C dL_law_478 (by decide) rfl ?_
  refine g_aload_n C dL_law_480 rfl 3 rfl ?_
  refine g_aload_n C dL_law_481 rfl 1 rfl ?_
  refine g_iload C dL_law_482 5 rfl ?_
  refine g_iconst (v := nI 1) C dL_law_484 (by decide +kernel) ?_
  refine g_iadd (v := nI (i + 1)) C dL_law_485 (nI_add _ _) ?_
  refine g_sld C hX hbl hbA (show i + 1 < L by omega) (by omega) dL_law_486 ?_
  refine g_aload_n C dL_law_487 rfl 1 rfl ?_
  refine g_iload C dL_law_488 5 rfl ?_
  refine g_iconst (v := nI 2) C dL_law_490 (by decide +kernel) ?_
  refine g_iadd (v := nI (i + 2)) C dL_law_491 (nI_add _ _) ?_
  refine g_sld C hX hbl hbA (show i + 2 < L by omega) (by omega) dL_law_492 ?_
  refine g_aload_n C dL_law_493 rfl 1 rfl ?_
  refine g_iload C dL_law_494 5 rfl ?_
  refine g_iconst (v := nI 3) C dL_law_496 (by decide +kernel) ?_
  refine g_iadd (v := nI (i + 3)) C dL_law_497 (nI_add _ _) ?_
  refine g_sld C hX hbl hbA (show i + 3 < L by omega) (by omega) dL_law_498 ?_
  refine g_aload_n C dL_law_499 rfl 1 rfl ?_
  refine g_iload C dL_law_500 5 rfl ?_
  refine g_iconst (v := nI 4) C dL_law_502 (by decide +kernel) ?_
  refine g_iadd (v := nI (i + 4)) C dL_law_503 (nI_add _ _) ?_
  refine g_sld C hX hbl hbA (show i + 4 < L by omega) (by omega) dL_law_504 ?_
  refine g_perm (ws' := wM cy am lab has quo spe nam gif fol siz cel giv nf lis lc see cnt thr ++ w8) (X := []) (perm_ab _ _) ?_
  refine g_FVi (ci := 3) (st := []) C (k_X2_make l D cy zs am lab has quo spe nam gif fol siz cel giv nf lis lc see cnt thr hM (xs (i + 1)) (xs (i + 2)) (xs (i + 3)) (xs (i + 4))) gL_law_X2_make rfl ⟨rfl, ydX2_make⟩ 0 rfl rfl ⟨Nat.le_of_ble_eq_true rfl, Nat.le_of_ble_eq_true rfl⟩ ⟨hk, hn⟩ rfl (Nat.le_of_ble_eq_true rfl) dL_law_505 (fun r7 w7 h7 => ?_)
  have hs := sim_make (zs := zs) (ac := ac) (mdC := mdC) hRR (show PM_make cy am lab has quo spe nam gif fol siz cel giv nf lis lc see cnt (xs (i + 1)) (xs (i + 2)) (xs (i + 3)) (xs (i + 4)) r7 w7 from h7)
  rcases h8 with ⟨r1, w1, hp, hr8, hw8⟩ | ⟨w1, hp, hr8, hw8⟩ | ⟨w1, hp, hr8, hw8⟩
  · skip
    obtain ⟨⟨lab9, has9, quo9, spe9, nam9, gif9, fol9, siz9, cel9, giv9, nf9, lis9, lc9, see9, cnt9⟩, ⟨labC9, quoC9, speC9, mdC9, edC9, lisC9, lcC9, seeC9, cntC9, Fs9⟩, hR9, e1, e2, e3⟩ := hs.1 r1 w1 hp
    subst e3
    subst e1
    subst e2
    subst hr8
    subst hw8
    have hRR9 : RR lab9 has9 quo9 spe9 nam9 gif9 fol9 siz9 cel9 giv9 nf9 lis9 lc9 see9 cnt9 labC9 quoC9 speC9 edC9 lisC9 lcC9 seeC9 cntC9 Fs9 := hR9
    have hM9 : MI lab9 quo9 spe9 nam9 siz9 cnt9 lis9 nf9 lc9 := by obtain ⟨h9, -⟩ := id hRR9; exact h9
    refine g_weq (ws' := (wM cy am lab9 has9 quo9 spe9 nam9 gif9 fol9 siz9 cel9 giv9 nf9 lis9 lc9 see9 cnt9 0 ++ (wC cy ac (zs 0) labC9 quoC9 speC9 mdC9 edC9 lisC9 lcC9 seeC9 cntC9 Fs9 ++ [((o, .inl (cy 2, 1, .inr (.inl (vp_updL g 0 (r1).toInt64)))) : Nat × va_E)]))) rfl ?_
    refine g_istore (lv' := [(6, .int r1), (5, .int (nI 0)), (0, .ref b), (1, .ref (ac 0)), (2, .ref (am 0)), (3, .ref o), (4, .int (nI i))]) C dL_law_508 (by decide) rfl ?_
    refine g_aload_n C dL_law_510 rfl 4 rfl ?_
    refine g_FVi (ci := 3) (st := []) C (k_X2_thrown l D cy zs am lab9 has9 quo9 spe9 nam9 gif9 fol9 siz9 cel9 giv9 nf9 lis9 lc9 see9 cnt9 0 hM9) gL_law_X2_thrown rfl ⟨rfl, ydX2_thrown⟩ 0 rfl rfl ⟨Nat.le_of_ble_eq_true rfl, Nat.le_of_ble_eq_true rfl⟩ ⟨hk, hn⟩ rfl (Nat.le_of_ble_eq_true rfl) dL_law_511 (fun r6 w6 h6 => ?_)
    obtain ⟨h6a, h6b⟩ := h6
    subst h6a
    subst h6b
    refine g_perm (ws' := ((wC cy ac (zs 0) labC9 quoC9 speC9 mdC9 edC9 lisC9 lcC9 seeC9 cntC9 Fs9 ++ [((o, .inl (cy 2, 1, .inr (.inl (vp_updL g 0 (r1).toInt64)))) : Nat × va_E)]) ++ wM cy am lab9 has9 quo9 spe9 nam9 gif9 fol9 siz9 cel9 giv9 nf9 lis9 lc9 see9 cnt9 0)) (X := []) (perm_ab _ _) ?_
    refine g_iload C dL_law_514 1 rfl ?_
    refine g_icmp_eq (tgt := 521) C dL_law_516 (by decide) (fun c516 => ?_) (fun c516 => ?_)
    · skip
      have c516 := c_eq0 (by omega) (by omega) c516
      refine g_iload C dL_law_521 1 rfl ?_
      refine g_if_ne (tgt := 538) C dL_law_523 (by decide) (fun c523 => ?_) (fun c523 => ?_)
      · skip
        exact absurd c523 (by decide +kernel)
      · skip
        have c523 := cz_eq0 (by omega) c523
        refine g_aload_n C dL_law_526 rfl 5 rfl ?_
        refine g_iconst (v := nI 0) C dL_law_527 (by decide +kernel) ?_
        refine g_lald (nn := 1) (i := nI 0) (v := (r1).toInt64) C (wC cy ac (zs 0) labC9 quoC9 speC9 mdC9 edC9 lisC9 lcC9 seeC9 cntC9 Fs9).length (app_at (tl_at rfl)) (vp_in_nI (by omega) (by omega)) (by rw [nI_clamp (by omega)]; exact if_pos rfl) dL_law_528 ?_
        refine g_iload C dL_law_529 0 rfl ?_
        refine g_i2l (v := (r1).toInt64) C dL_law_531 rfl ?_
        refine g_lcmp (v := nI 0) C dL_law_532 (lg_self _) ?_
        refine g_if_eq (tgt := 538) C dL_law_533 (by decide) (fun c533 => ?_) (fun c533 => ?_)
        · skip
          have c533 := cz_eq0 (by omega) c533
          refine g_goto (tgt := 1433) C dL_law_538 (by decide) ?_
          exact g_sub (lv' := [(0, .ref b), (1, .ref (ac 0)), (2, .ref (am 0)), (3, .ref o), (4, .int (nI i))]) [2, 3, 4, 5, 6] rfl (next (lab9, has9, quo9, spe9, nam9, gif9, fol9, siz9, cel9, giv9, nf9, lis9, lc9, see9, cnt9) (labC9, quoC9, speC9, mdC9, edC9, lisC9, lcC9, seeC9, cntC9, Fs9) (vp_updL g 0 (r1).toInt64) 0 hR9)
        · skip
          exact absurd c533 (by decide +kernel)
    · skip
      exact absurd c516 (by decide +kernel)
  · skip
    obtain ⟨⟨lab9, has9, quo9, spe9, nam9, gif9, fol9, siz9, cel9, giv9, nf9, lis9, lc9, see9, cnt9⟩, ⟨labC9, quoC9, speC9, mdC9, edC9, lisC9, lcC9, seeC9, cntC9, Fs9⟩, k9, hR9, e1, e2, e3⟩ := hs.2 "java/lang/IllegalArgumentException" w1 hp
    have hk9 : k9 = 1 := by rcases e3 with e3 | e3; exact e3.2; exact absurd e3.1 (by decide)
    subst hk9
    subst e1
    subst e2
    subst hr8
    subst hw8
    have hRR9 : RR lab9 has9 quo9 spe9 nam9 gif9 fol9 siz9 cel9 giv9 nf9 lis9 lc9 see9 cnt9 labC9 quoC9 speC9 edC9 lisC9 lcC9 seeC9 cntC9 Fs9 := hR9
    have hM9 : MI lab9 quo9 spe9 nam9 siz9 cnt9 lis9 nf9 lc9 := by obtain ⟨h9, -⟩ := id hRR9; exact h9
    refine g_weq (ws' := (wM cy am lab9 has9 quo9 spe9 nam9 gif9 fol9 siz9 cel9 giv9 nf9 lis9 lc9 see9 cnt9 1 ++ (wC cy ac (zs 0) labC9 quoC9 speC9 mdC9 edC9 lisC9 lcC9 seeC9 cntC9 Fs9 ++ [((o, .inl (cy 2, 1, .inr (.inl g))) : Nat × va_E)]))) rfl ?_
    refine g_istore (lv' := [(6, .int r7), (5, .int (nI 1)), (0, .ref b), (1, .ref (ac 0)), (2, .ref (am 0)), (3, .ref o), (4, .int (nI i))]) C dL_law_508 (by decide) rfl ?_
    refine g_aload_n C dL_law_510 rfl 4 rfl ?_
    refine g_FVi (ci := 3) (st := []) C (k_X2_thrown l D cy zs am lab9 has9 quo9 spe9 nam9 gif9 fol9 siz9 cel9 giv9 nf9 lis9 lc9 see9 cnt9 1 hM9) gL_law_X2_thrown rfl ⟨rfl, ydX2_thrown⟩ 0 rfl rfl ⟨Nat.le_of_ble_eq_true rfl, Nat.le_of_ble_eq_true rfl⟩ ⟨hk, hn⟩ rfl (Nat.le_of_ble_eq_true rfl) dL_law_511 (fun r6 w6 h6 => ?_)
    obtain ⟨h6a, h6b⟩ := h6
    subst h6a
    subst h6b
    refine g_perm (ws' := ((wC cy ac (zs 0) labC9 quoC9 speC9 mdC9 edC9 lisC9 lcC9 seeC9 cntC9 Fs9 ++ [((o, .inl (cy 2, 1, .inr (.inl g))) : Nat × va_E)]) ++ wM cy am lab9 has9 quo9 spe9 nam9 gif9 fol9 siz9 cel9 giv9 nf9 lis9 lc9 see9 cnt9 1)) (X := []) (perm_ab _ _) ?_
    refine g_iload C dL_law_514 1 rfl ?_
    refine g_icmp_eq (tgt := 521) C dL_law_516 (by decide) (fun c516 => ?_) (fun c516 => ?_)
    · skip
      have c516 := c_eq0 (by omega) (by omega) c516
      refine g_iload C dL_law_521 1 rfl ?_
      refine g_if_ne (tgt := 538) C dL_law_523 (by decide) (fun c523 => ?_) (fun c523 => ?_)
      · skip
        have c523 := cz_eq1 (by omega) c523
        refine g_goto (tgt := 1433) C dL_law_538 (by decide) ?_
        exact g_sub (lv' := [(0, .ref b), (1, .ref (ac 0)), (2, .ref (am 0)), (3, .ref o), (4, .int (nI i))]) [2, 3, 4, 5, 6] rfl (next (lab9, has9, quo9, spe9, nam9, gif9, fol9, siz9, cel9, giv9, nf9, lis9, lc9, see9, cnt9) (labC9, quoC9, speC9, mdC9, edC9, lisC9, lcC9, seeC9, cntC9, Fs9) g 1 hR9)
      · skip
        exact absurd c523 (by decide +kernel)
    · skip
      exact absurd c516 (by decide +kernel)
  · skip
    obtain ⟨⟨lab9, has9, quo9, spe9, nam9, gif9, fol9, siz9, cel9, giv9, nf9, lis9, lc9, see9, cnt9⟩, ⟨labC9, quoC9, speC9, mdC9, edC9, lisC9, lcC9, seeC9, cntC9, Fs9⟩, k9, hR9, e1, e2, e3⟩ := hs.2 "java/lang/UnsupportedOperationException" w1 hp
    have hk9 : k9 = 2 := by rcases e3 with e3 | e3; exact absurd e3.1 (by decide); exact e3.2
    subst hk9
    subst e1
    subst e2
    subst hr8
    subst hw8
    have hRR9 : RR lab9 has9 quo9 spe9 nam9 gif9 fol9 siz9 cel9 giv9 nf9 lis9 lc9 see9 cnt9 labC9 quoC9 speC9 edC9 lisC9 lcC9 seeC9 cntC9 Fs9 := hR9
    have hM9 : MI lab9 quo9 spe9 nam9 siz9 cnt9 lis9 nf9 lc9 := by obtain ⟨h9, -⟩ := id hRR9; exact h9
    refine g_weq (ws' := (wM cy am lab9 has9 quo9 spe9 nam9 gif9 fol9 siz9 cel9 giv9 nf9 lis9 lc9 see9 cnt9 2 ++ (wC cy ac (zs 0) labC9 quoC9 speC9 mdC9 edC9 lisC9 lcC9 seeC9 cntC9 Fs9 ++ [((o, .inl (cy 2, 1, .inr (.inl g))) : Nat × va_E)]))) rfl ?_
    refine g_istore (lv' := [(6, .int r7), (5, .int (nI 2)), (0, .ref b), (1, .ref (ac 0)), (2, .ref (am 0)), (3, .ref o), (4, .int (nI i))]) C dL_law_508 (by decide) rfl ?_
    refine g_aload_n C dL_law_510 rfl 4 rfl ?_
    refine g_FVi (ci := 3) (st := []) C (k_X2_thrown l D cy zs am lab9 has9 quo9 spe9 nam9 gif9 fol9 siz9 cel9 giv9 nf9 lis9 lc9 see9 cnt9 2 hM9) gL_law_X2_thrown rfl ⟨rfl, ydX2_thrown⟩ 0 rfl rfl ⟨Nat.le_of_ble_eq_true rfl, Nat.le_of_ble_eq_true rfl⟩ ⟨hk, hn⟩ rfl (Nat.le_of_ble_eq_true rfl) dL_law_511 (fun r6 w6 h6 => ?_)
    obtain ⟨h6a, h6b⟩ := h6
    subst h6a
    subst h6b
    refine g_perm (ws' := ((wC cy ac (zs 0) labC9 quoC9 speC9 mdC9 edC9 lisC9 lcC9 seeC9 cntC9 Fs9 ++ [((o, .inl (cy 2, 1, .inr (.inl g))) : Nat × va_E)]) ++ wM cy am lab9 has9 quo9 spe9 nam9 gif9 fol9 siz9 cel9 giv9 nf9 lis9 lc9 see9 cnt9 2)) (X := []) (perm_ab _ _) ?_
    refine g_iload C dL_law_514 1 rfl ?_
    refine g_icmp_eq (tgt := 521) C dL_law_516 (by decide) (fun c516 => ?_) (fun c516 => ?_)
    · skip
      have c516 := c_eq0 (by omega) (by omega) c516
      refine g_iload C dL_law_521 1 rfl ?_
      refine g_if_ne (tgt := 538) C dL_law_523 (by decide) (fun c523 => ?_) (fun c523 => ?_)
      · skip
        have c523 := cz_eq1 (by omega) c523
        refine g_goto (tgt := 1433) C dL_law_538 (by decide) ?_
        exact g_sub (lv' := [(0, .ref b), (1, .ref (ac 0)), (2, .ref (am 0)), (3, .ref o), (4, .int (nI i))]) [2, 3, 4, 5, 6] rfl (next (lab9, has9, quo9, spe9, nam9, gif9, fol9, siz9, cel9, giv9, nf9, lis9, lc9, see9, cnt9) (labC9, quoC9, speC9, mdC9, edC9, lisC9, lcC9, seeC9, cntC9, Fs9) g 2 hR9)
      · skip
        exact absurd c523 (by decide +kernel)
    · skip
      exact absurd c516 (by decide +kernel)
set_option maxRecDepth 100000 in
set_option maxHeartbeats 4000000 in
theorem b_set {p : Program} {l : Launch} {e : Env} {s : State} {m : MethodId} {b : Nat} {below : List Frame} {meth : Method} {c : Code} {D : va_G} {cy : Nat → ClassId} {zs : Nat → Nat} {A : Nat → Prop} {Q : State → Prop} {k n L i : Nat} {xs : Nat → Int32} {rt : Option FieldType} (C : Cx p s m #[.ref b] meth c cL_law 7 RL wsL_law D cy zs A rt) (hst : l.stackTraces = false) (hX : va_X b L xs s s.heap) (hbl : b < s.heap.size) (hbA : ¬ A b) (hi : i + 5 ≤ L) (hL : L ≤ 2560) (am ac : Nat → Nat) (o : Nat) (g : Nat → Int64) (thr : Nat) {lab : Nat → Nat} {has : Nat → Bool} {quo spe nam : Nat → Nat} {gif : Nat → Bool} {fol : Nat → Int32} {siz : Nat → Nat} {cel : Nat → Int32} {giv : Nat → Bool} {nf : Nat} {lis : Nat → Nat} {lc : Nat} {see : Nat → Int32} {cnt : Nat → Nat} {labC : Nat → Option Nat} {quoC speC : Nat → Nat} {mdC : Int32} {edC : Option (Nat × Nat)} {lisC : Nat → Nat} {lcC : Nat} {seeC : Nat → Nat → Int32} {cntC : Nat → Nat} {Fs : List FT} (hRR : RR lab has quo spe nam gif fol siz cel giv nf lis lc see cnt labC quoC speC edC lisC lcC seeC cntC Fs) (hk : k + 12 ≤ room_1.cells) (hn : n + 500 ≤ room_1.slots) (next : ∀ (m9 : MS) (c9 : CS) (g9 : Nat → Int64) (thr9 : Nat), RT m9 c9 → GG p l e room_1 s m #[.ref b] below meth c D A 7 Q ((wCt cy ac (zs 0) c9 ++ [((o, .inl (cy 2, 1, .inr (.inl g9))) : Nat × va_E)]) ++ wMt cy am m9 thr9) (k + 12) (n + 500) [(0, .ref b), (1, .ref (ac 0)), (2, .ref (am 0)), (3, .ref o), (4, .int (nI i))] 1433 []) : GG p l e room_1 s m #[.ref b] below meth c D A 7 Q ((wC cy ac (zs 0) labC quoC speC mdC edC lisC lcC seeC cntC Fs ++ [((o, .inl (cy 2, 1, .inr (.inl g))) : Nat × va_E)]) ++ wM cy am lab has quo spe nam gif fol siz cel giv nf lis lc see cnt thr) k n [(0, .ref b), (1, .ref (ac 0)), (2, .ref (am 0)), (3, .ref o), (4, .int (nI i))] 541 [] := by
  obtain ⟨hM, hC, hl9, hqu, hsp, hfi, hls, he9⟩ := id hRR
  refine g_aload_n C dL_law_541 rfl 1 rfl ?_
  refine g_aload_n C dL_law_542 rfl 0 rfl ?_
  refine g_iload C dL_law_543 4 rfl ?_
  refine g_iconst (v := nI 1) C dL_law_545 (by decide +kernel) ?_
  refine g_iadd (v := nI (i + 1)) C dL_law_546 (nI_add _ _) ?_
  refine g_sld C hX hbl hbA (show i + 1 < L by omega) (by omega) dL_law_547 ?_
  refine g_aload_n C dL_law_548 rfl 0 rfl ?_
  refine g_iload C dL_law_549 4 rfl ?_
  refine g_iconst (v := nI 2) C dL_law_551 (by decide +kernel) ?_
  refine g_iadd (v := nI (i + 2)) C dL_law_552 (nI_add _ _) ?_
  refine g_sld C hX hbl hbA (show i + 2 < L by omega) (by omega) dL_law_553 ?_
  refine g_aload_n C dL_law_554 rfl 0 rfl ?_
  refine g_iload C dL_law_555 4 rfl ?_
  refine g_iconst (v := nI 3) C dL_law_557 (by decide +kernel) ?_
  refine g_iadd (v := nI (i + 3)) C dL_law_558 (nI_add _ _) ?_
  refine g_sld C hX hbl hbA (show i + 3 < L by omega) (by omega) dL_law_559 ?_
  refine g_aload_n C dL_law_560 rfl 0 rfl ?_
  refine g_iload C dL_law_561 4 rfl ?_
  refine g_iconst (v := nI 4) C dL_law_563 (by decide +kernel) ?_
  refine g_iadd (v := nI (i + 4)) C dL_law_564 (nI_add _ _) ?_
  refine g_sld C hX hbl hbA (show i + 4 < L by omega) (by omega) dL_law_565 ?_
  refine g_aload_n C dL_law_566 rfl 3 rfl ?_
  refine g_FSi (st := []) C (k_L_set l D cy zs hst ac labC quoC speC mdC edC lisC lcC seeC cntC Fs hC o g (xs (i + 1)) (xs (i + 2)) (xs (i + 3)) (xs (i + 4))) gL_law_L_set rfl ydL_set ⟨Nat.le_of_ble_eq_true rfl, Nat.le_of_ble_eq_true rfl⟩ ⟨hk, hn⟩ rfl (Nat.le_of_ble_eq_true rfl) dL_law_567 (fun r8 w8 h8 => ?_)
  refine g_istore (lv' := [(5, .int r8), (0, .ref b), (1, .ref (ac 0)), (2, .ref (am 0)), (3, .ref o), (4, .int (nI i))]) C dL_law_570 (by decide) rfl ?_
  refine g_aload_n C dL_law_572 rfl 3 rfl ?_
  refine g_aload_n C dL_law_573 rfl 1 rfl ?_
  refine g_iload C dL_law_574 5 rfl ?_
  refine g_iconst (v := nI 1) C dL_law_576 (by decide +kernel) ?_
  refine g_iadd (v := nI (i + 1)) C dL_law_577 (nI_add _ _) ?_
  refine g_sld C hX hbl hbA (show i + 1 < L by omega) (by omega) dL_law_578 ?_
  refine g_aload_n C dL_law_579 rfl 1 rfl ?_
  refine g_iload C dL_law_580 5 rfl ?_
  refine g_iconst (v := nI 2) C dL_law_582 (by decide +kernel) ?_
  refine g_iadd (v := nI (i + 2)) C dL_law_583 (nI_add _ _) ?_
  refine g_sld C hX hbl hbA (show i + 2 < L by omega) (by omega) dL_law_584 ?_
  refine g_aload_n C dL_law_585 rfl 1 rfl ?_
  refine g_iload C dL_law_586 5 rfl ?_
  refine g_iconst (v := nI 3) C dL_law_588 (by decide +kernel) ?_
  refine g_iadd (v := nI (i + 3)) C dL_law_589 (nI_add _ _) ?_
  refine g_sld C hX hbl hbA (show i + 3 < L by omega) (by omega) dL_law_590 ?_
  refine g_aload_n C dL_law_591 rfl 1 rfl ?_
  refine g_iload C dL_law_592 5 rfl ?_
  refine g_iconst (v := nI 4) C dL_law_594 (by decide +kernel) ?_
  refine g_iadd (v := nI (i + 4)) C dL_law_595 (nI_add _ _) ?_
  refine g_sld C hX hbl hbA (show i + 4 < L by omega) (by omega) dL_law_596 ?_
  refine g_perm (ws' := wM cy am lab has quo spe nam gif fol siz cel giv nf lis lc see cnt thr ++ w8) (X := []) (perm_ab _ _) ?_
  refine g_FVi (ci := 3) (st := []) C (k_X2_set l D cy zs am lab has quo spe nam gif fol siz cel giv nf lis lc see cnt thr hM (xs (i + 1)) (xs (i + 2)) (xs (i + 3)) (xs (i + 4))) gL_law_X2_set rfl ⟨rfl, ydX2_set⟩ 0 rfl rfl ⟨Nat.le_of_ble_eq_true rfl, Nat.le_of_ble_eq_true rfl⟩ ⟨hk, hn⟩ rfl (Nat.le_of_ble_eq_true rfl) dL_law_597 (fun r7 w7 h7 => ?_)
  have hs := sim_set (zs := zs) (ac := ac) (mdC := mdC) hRR (show PM_set cy am lab has quo spe nam gif fol siz cel giv nf lis lc see cnt (xs (i + 1)) (xs (i + 2)) (xs (i + 3)) (xs (i + 4)) r7 w7 from h7)
  rcases h8 with ⟨r1, w1, hp, hr8, hw8⟩ | ⟨w1, hp, hr8, hw8⟩
  · skip
    obtain ⟨⟨lab9, has9, quo9, spe9, nam9, gif9, fol9, siz9, cel9, giv9, nf9, lis9, lc9, see9, cnt9⟩, ⟨labC9, quoC9, speC9, mdC9, edC9, lisC9, lcC9, seeC9, cntC9, Fs9⟩, hR9, e1, e2, e3⟩ := hs.1 r1 w1 hp
    subst e3
    subst e1
    subst e2
    subst hr8
    subst hw8
    have hRR9 : RR lab9 has9 quo9 spe9 nam9 gif9 fol9 siz9 cel9 giv9 nf9 lis9 lc9 see9 cnt9 labC9 quoC9 speC9 edC9 lisC9 lcC9 seeC9 cntC9 Fs9 := hR9
    have hM9 : MI lab9 quo9 spe9 nam9 siz9 cnt9 lis9 nf9 lc9 := by obtain ⟨h9, -⟩ := id hRR9; exact h9
    refine g_weq (ws' := (wM cy am lab9 has9 quo9 spe9 nam9 gif9 fol9 siz9 cel9 giv9 nf9 lis9 lc9 see9 cnt9 0 ++ (wC cy ac (zs 0) labC9 quoC9 speC9 mdC9 edC9 lisC9 lcC9 seeC9 cntC9 Fs9 ++ [((o, .inl (cy 2, 1, .inr (.inl (vp_updL g 0 (r1).toInt64)))) : Nat × va_E)]))) rfl ?_
    refine g_istore (lv' := [(6, .int r1), (5, .int (nI 0)), (0, .ref b), (1, .ref (ac 0)), (2, .ref (am 0)), (3, .ref o), (4, .int (nI i))]) C dL_law_600 (by decide) rfl ?_
    refine g_aload_n C dL_law_602 rfl 4 rfl ?_
    refine g_FVi (ci := 3) (st := []) C (k_X2_thrown l D cy zs am lab9 has9 quo9 spe9 nam9 gif9 fol9 siz9 cel9 giv9 nf9 lis9 lc9 see9 cnt9 0 hM9) gL_law_X2_thrown rfl ⟨rfl, ydX2_thrown⟩ 0 rfl rfl ⟨Nat.le_of_ble_eq_true rfl, Nat.le_of_ble_eq_true rfl⟩ ⟨hk, hn⟩ rfl (Nat.le_of_ble_eq_true rfl) dL_law_603 (fun r6 w6 h6 => ?_)
    obtain ⟨h6a, h6b⟩ := h6
    subst h6a
    subst h6b
    refine g_perm (ws' := ((wC cy ac (zs 0) labC9 quoC9 speC9 mdC9 edC9 lisC9 lcC9 seeC9 cntC9 Fs9 ++ [((o, .inl (cy 2, 1, .inr (.inl (vp_updL g 0 (r1).toInt64)))) : Nat × va_E)]) ++ wM cy am lab9 has9 quo9 spe9 nam9 gif9 fol9 siz9 cel9 giv9 nf9 lis9 lc9 see9 cnt9 0)) (X := []) (perm_ab _ _) ?_
    refine g_iload C dL_law_606 1 rfl ?_
    refine g_icmp_eq (tgt := 613) C dL_law_608 (by decide) (fun c608 => ?_) (fun c608 => ?_)
    · skip
      have c608 := c_eq0 (by omega) (by omega) c608
      refine g_iload C dL_law_613 1 rfl ?_
      refine g_if_ne (tgt := 630) C dL_law_615 (by decide) (fun c615 => ?_) (fun c615 => ?_)
      · skip
        exact absurd c615 (by decide +kernel)
      · skip
        have c615 := cz_eq0 (by omega) c615
        refine g_aload_n C dL_law_618 rfl 5 rfl ?_
        refine g_iconst (v := nI 0) C dL_law_619 (by decide +kernel) ?_
        refine g_lald (nn := 1) (i := nI 0) (v := (r1).toInt64) C (wC cy ac (zs 0) labC9 quoC9 speC9 mdC9 edC9 lisC9 lcC9 seeC9 cntC9 Fs9).length (app_at (tl_at rfl)) (vp_in_nI (by omega) (by omega)) (by rw [nI_clamp (by omega)]; exact if_pos rfl) dL_law_620 ?_
        refine g_iload C dL_law_621 0 rfl ?_
        refine g_i2l (v := (r1).toInt64) C dL_law_623 rfl ?_
        refine g_lcmp (v := nI 0) C dL_law_624 (lg_self _) ?_
        refine g_if_eq (tgt := 630) C dL_law_625 (by decide) (fun c625 => ?_) (fun c625 => ?_)
        · skip
          have c625 := cz_eq0 (by omega) c625
          refine g_goto (tgt := 1433) C dL_law_630 (by decide) ?_
          exact g_sub (lv' := [(0, .ref b), (1, .ref (ac 0)), (2, .ref (am 0)), (3, .ref o), (4, .int (nI i))]) [2, 3, 4, 5, 6] rfl (next (lab9, has9, quo9, spe9, nam9, gif9, fol9, siz9, cel9, giv9, nf9, lis9, lc9, see9, cnt9) (labC9, quoC9, speC9, mdC9, edC9, lisC9, lcC9, seeC9, cntC9, Fs9) (vp_updL g 0 (r1).toInt64) 0 hR9)
        · skip
          exact absurd c625 (by decide +kernel)
    · skip
      exact absurd c608 (by decide +kernel)
  · skip
    obtain ⟨⟨lab9, has9, quo9, spe9, nam9, gif9, fol9, siz9, cel9, giv9, nf9, lis9, lc9, see9, cnt9⟩, ⟨labC9, quoC9, speC9, mdC9, edC9, lisC9, lcC9, seeC9, cntC9, Fs9⟩, k9, hR9, e1, e2, e3⟩ := hs.2 "java/lang/IllegalArgumentException" w1 hp
    have hk9 : k9 = 1 := by rcases e3 with e3 | e3; exact e3.2; exact absurd e3.1 (by decide)
    subst hk9
    subst e1
    subst e2
    subst hr8
    subst hw8
    have hRR9 : RR lab9 has9 quo9 spe9 nam9 gif9 fol9 siz9 cel9 giv9 nf9 lis9 lc9 see9 cnt9 labC9 quoC9 speC9 edC9 lisC9 lcC9 seeC9 cntC9 Fs9 := hR9
    have hM9 : MI lab9 quo9 spe9 nam9 siz9 cnt9 lis9 nf9 lc9 := by obtain ⟨h9, -⟩ := id hRR9; exact h9
    refine g_weq (ws' := (wM cy am lab9 has9 quo9 spe9 nam9 gif9 fol9 siz9 cel9 giv9 nf9 lis9 lc9 see9 cnt9 1 ++ (wC cy ac (zs 0) labC9 quoC9 speC9 mdC9 edC9 lisC9 lcC9 seeC9 cntC9 Fs9 ++ [((o, .inl (cy 2, 1, .inr (.inl g))) : Nat × va_E)]))) rfl ?_
    refine g_istore (lv' := [(6, .int r7), (5, .int (nI 1)), (0, .ref b), (1, .ref (ac 0)), (2, .ref (am 0)), (3, .ref o), (4, .int (nI i))]) C dL_law_600 (by decide) rfl ?_
    refine g_aload_n C dL_law_602 rfl 4 rfl ?_
    refine g_FVi (ci := 3) (st := []) C (k_X2_thrown l D cy zs am lab9 has9 quo9 spe9 nam9 gif9 fol9 siz9 cel9 giv9 nf9 lis9 lc9 see9 cnt9 1 hM9) gL_law_X2_thrown rfl ⟨rfl, ydX2_thrown⟩ 0 rfl rfl ⟨Nat.le_of_ble_eq_true rfl, Nat.le_of_ble_eq_true rfl⟩ ⟨hk, hn⟩ rfl (Nat.le_of_ble_eq_true rfl) dL_law_603 (fun r6 w6 h6 => ?_)
    obtain ⟨h6a, h6b⟩ := h6
    subst h6a
    subst h6b
    refine g_perm (ws' := ((wC cy ac (zs 0) labC9 quoC9 speC9 mdC9 edC9 lisC9 lcC9 seeC9 cntC9 Fs9 ++ [((o, .inl (cy 2, 1, .inr (.inl g))) : Nat × va_E)]) ++ wM cy am lab9 has9 quo9 spe9 nam9 gif9 fol9 siz9 cel9 giv9 nf9 lis9 lc9 see9 cnt9 1)) (X := []) (perm_ab _ _) ?_
    refine g_iload C dL_law_606 1 rfl ?_
    refine g_icmp_eq (tgt := 613) C dL_law_608 (by decide) (fun c608 => ?_) (fun c608 => ?_)
    · skip
      have c608 := c_eq0 (by omega) (by omega) c608
      refine g_iload C dL_law_613 1 rfl ?_
      refine g_if_ne (tgt := 630) C dL_law_615 (by decide) (fun c615 => ?_) (fun c615 => ?_)
      · skip
        have c615 := cz_eq1 (by omega) c615
        refine g_goto (tgt := 1433) C dL_law_630 (by decide) ?_
        exact g_sub (lv' := [(0, .ref b), (1, .ref (ac 0)), (2, .ref (am 0)), (3, .ref o), (4, .int (nI i))]) [2, 3, 4, 5, 6] rfl (next (lab9, has9, quo9, spe9, nam9, gif9, fol9, siz9, cel9, giv9, nf9, lis9, lc9, see9, cnt9) (labC9, quoC9, speC9, mdC9, edC9, lisC9, lcC9, seeC9, cntC9, Fs9) g 1 hR9)
      · skip
        exact absurd c615 (by decide +kernel)
    · skip
      exact absurd c608 (by decide +kernel)
set_option maxRecDepth 100000 in
set_option maxHeartbeats 4000000 in
theorem b_give {p : Program} {l : Launch} {e : Env} {s : State} {m : MethodId} {b : Nat} {below : List Frame} {meth : Method} {c : Code} {D : va_G} {cy : Nat → ClassId} {zs : Nat → Nat} {A : Nat → Prop} {Q : State → Prop} {k n L i : Nat} {xs : Nat → Int32} {rt : Option FieldType} (C : Cx p s m #[.ref b] meth c cL_law 7 RL wsL_law D cy zs A rt) (hst : l.stackTraces = false) (hX : va_X b L xs s s.heap) (hbl : b < s.heap.size) (hbA : ¬ A b) (hi : i + 5 ≤ L) (hL : L ≤ 2560) (am ac : Nat → Nat) (o : Nat) (g : Nat → Int64) (thr : Nat) {lab : Nat → Nat} {has : Nat → Bool} {quo spe nam : Nat → Nat} {gif : Nat → Bool} {fol : Nat → Int32} {siz : Nat → Nat} {cel : Nat → Int32} {giv : Nat → Bool} {nf : Nat} {lis : Nat → Nat} {lc : Nat} {see : Nat → Int32} {cnt : Nat → Nat} {labC : Nat → Option Nat} {quoC speC : Nat → Nat} {mdC : Int32} {edC : Option (Nat × Nat)} {lisC : Nat → Nat} {lcC : Nat} {seeC : Nat → Nat → Int32} {cntC : Nat → Nat} {Fs : List FT} (hRR : RR lab has quo spe nam gif fol siz cel giv nf lis lc see cnt labC quoC speC edC lisC lcC seeC cntC Fs) (hk : k + 12 ≤ room_1.cells) (hn : n + 500 ≤ room_1.slots) (next : ∀ (m9 : MS) (c9 : CS) (g9 : Nat → Int64) (thr9 : Nat), RT m9 c9 → GG p l e room_1 s m #[.ref b] below meth c D A 7 Q ((wCt cy ac (zs 0) c9 ++ [((o, .inl (cy 2, 1, .inr (.inl g9))) : Nat × va_E)]) ++ wMt cy am m9 thr9) (k + 12) (n + 500) [(0, .ref b), (1, .ref (ac 0)), (2, .ref (am 0)), (3, .ref o), (4, .int (nI i))] 1433 []) : GG p l e room_1 s m #[.ref b] below meth c D A 7 Q ((wC cy ac (zs 0) labC quoC speC mdC edC lisC lcC seeC cntC Fs ++ [((o, .inl (cy 2, 1, .inr (.inl g))) : Nat × va_E)]) ++ wM cy am lab has quo spe nam gif fol siz cel giv nf lis lc see cnt thr) k n [(0, .ref b), (1, .ref (ac 0)), (2, .ref (am 0)), (3, .ref o), (4, .int (nI i))] 633 [] := by
  obtain ⟨hM, hC, hl9, hqu, hsp, hfi, hls, he9⟩ := id hRR
  refine g_aload_n C dL_law_633 rfl 1 rfl ?_
  refine g_aload_n C dL_law_634 rfl 0 rfl ?_
  refine g_iload C dL_law_635 4 rfl ?_
  refine g_iconst (v := nI 1) C dL_law_637 (by decide +kernel) ?_
  refine g_iadd (v := nI (i + 1)) C dL_law_638 (nI_add _ _) ?_
  refine g_sld C hX hbl hbA (show i + 1 < L by omega) (by omega) dL_law_639 ?_
  refine g_aload_n C dL_law_640 rfl 0 rfl ?_
  refine g_iload C dL_law_641 4 rfl ?_
  refine g_iconst (v := nI 2) C dL_law_643 (by decide +kernel) ?_
  refine g_iadd (v := nI (i + 2)) C dL_law_644 (nI_add _ _) ?_
  refine g_sld C hX hbl hbA (show i + 2 < L by omega) (by omega) dL_law_645 ?_
  refine g_aload_n C dL_law_646 rfl 0 rfl ?_
  refine g_iload C dL_law_647 4 rfl ?_
  refine g_iconst (v := nI 3) C dL_law_649 (by decide +kernel) ?_
  refine g_iadd (v := nI (i + 3)) C dL_law_650 (nI_add _ _) ?_
  refine g_sld C hX hbl hbA (show i + 3 < L by omega) (by omega) dL_law_651 ?_
  refine g_aload_n C dL_law_652 rfl 0 rfl ?_
  refine g_iload C dL_law_653 4 rfl ?_
  refine g_iconst (v := nI 4) C dL_law_655 (by decide +kernel) ?_
  refine g_iadd (v := nI (i + 4)) C dL_law_656 (nI_add _ _) ?_
  refine g_sld C hX hbl hbA (show i + 4 < L by omega) (by omega) dL_law_657 ?_
  refine g_aload_n C dL_law_658 rfl 3 rfl ?_
  refine g_FSi (st := []) C (k_L_give l D cy zs hst ac labC quoC speC mdC edC lisC lcC seeC cntC Fs hC o g (xs (i + 1)) (xs (i + 2)) (xs (i + 3)) (xs (i + 4))) gL_law_L_give rfl ydL_give ⟨Nat.le_of_ble_eq_true rfl, Nat.le_of_ble_eq_true rfl⟩ ⟨hk, hn⟩ rfl (Nat.le_of_ble_eq_true rfl) dL_law_659 (fun r8 w8 h8 => ?_)
  refine g_istore (lv' := [(5, .int r8), (0, .ref b), (1, .ref (ac 0)), (2, .ref (am 0)), (3, .ref o), (4, .int (nI i))]) C dL_law_662 (by decide) rfl ?_
  refine g_aload_n C dL_law_664 rfl 3 rfl ?_
  refine g_aload_n C dL_law_665 rfl 1 rfl ?_
  refine g_iload C dL_law_666 5 rfl ?_
  refine g_iconst (v := nI 1) C dL_law_668 (by decide +kernel) ?_
  refine g_iadd (v := nI (i + 1)) C dL_law_669 (nI_add _ _) ?_
  refine g_sld C hX hbl hbA (show i + 1 < L by omega) (by omega) dL_law_670 ?_
  refine g_aload_n C dL_law_671 rfl 1 rfl ?_
  refine g_iload C dL_law_672 5 rfl ?_
  refine g_iconst (v := nI 2) C dL_law_674 (by decide +kernel) ?_
  refine g_iadd (v := nI (i + 2)) C dL_law_675 (nI_add _ _) ?_
  refine g_sld C hX hbl hbA (show i + 2 < L by omega) (by omega) dL_law_676 ?_
  refine g_aload_n C dL_law_677 rfl 1 rfl ?_
  refine g_iload C dL_law_678 5 rfl ?_
  refine g_iconst (v := nI 3) C dL_law_680 (by decide +kernel) ?_
  refine g_iadd (v := nI (i + 3)) C dL_law_681 (nI_add _ _) ?_
  refine g_sld C hX hbl hbA (show i + 3 < L by omega) (by omega) dL_law_682 ?_
  refine g_aload_n C dL_law_683 rfl 1 rfl ?_
  refine g_iload C dL_law_684 5 rfl ?_
  refine g_iconst (v := nI 4) C dL_law_686 (by decide +kernel) ?_
  refine g_iadd (v := nI (i + 4)) C dL_law_687 (nI_add _ _) ?_
  refine g_sld C hX hbl hbA (show i + 4 < L by omega) (by omega) dL_law_688 ?_
  refine g_perm (ws' := wM cy am lab has quo spe nam gif fol siz cel giv nf lis lc see cnt thr ++ w8) (X := []) (perm_ab _ _) ?_
  refine g_FVi (ci := 3) (st := []) C (k_X2_give l D cy zs am lab has quo spe nam gif fol siz cel giv nf lis lc see cnt thr hM (xs (i + 1)) (xs (i + 2)) (xs (i + 3)) (xs (i + 4))) gL_law_X2_give rfl ⟨rfl, ydX2_give⟩ 0 rfl rfl ⟨Nat.le_of_ble_eq_true rfl, Nat.le_of_ble_eq_true rfl⟩ ⟨hk, hn⟩ rfl (Nat.le_of_ble_eq_true rfl) dL_law_689 (fun r7 w7 h7 => ?_)
  have hs := sim_give (zs := zs) (ac := ac) (mdC := mdC) hRR (show PM_give cy am lab has quo spe nam gif fol siz cel giv nf lis lc see cnt (xs (i + 1)) (xs (i + 2)) (xs (i + 3)) (xs (i + 4)) r7 w7 from h7)
  rcases h8 with ⟨r1, w1, hp, hr8, hw8⟩ | ⟨w1, hp, hr8, hw8⟩
  · skip
    obtain ⟨⟨lab9, has9, quo9, spe9, nam9, gif9, fol9, siz9, cel9, giv9, nf9, lis9, lc9, see9, cnt9⟩, ⟨labC9, quoC9, speC9, mdC9, edC9, lisC9, lcC9, seeC9, cntC9, Fs9⟩, hR9, e1, e2, e3⟩ := hs.1 r1 w1 hp
    subst e3
    subst e1
    subst e2
    subst hr8
    subst hw8
    have hRR9 : RR lab9 has9 quo9 spe9 nam9 gif9 fol9 siz9 cel9 giv9 nf9 lis9 lc9 see9 cnt9 labC9 quoC9 speC9 edC9 lisC9 lcC9 seeC9 cntC9 Fs9 := hR9
    have hM9 : MI lab9 quo9 spe9 nam9 siz9 cnt9 lis9 nf9 lc9 := by obtain ⟨h9, -⟩ := id hRR9; exact h9
    refine g_weq (ws' := (wM cy am lab9 has9 quo9 spe9 nam9 gif9 fol9 siz9 cel9 giv9 nf9 lis9 lc9 see9 cnt9 0 ++ (wC cy ac (zs 0) labC9 quoC9 speC9 mdC9 edC9 lisC9 lcC9 seeC9 cntC9 Fs9 ++ [((o, .inl (cy 2, 1, .inr (.inl (vp_updL g 0 (r1).toInt64)))) : Nat × va_E)]))) rfl ?_
    refine g_istore (lv' := [(6, .int r1), (5, .int (nI 0)), (0, .ref b), (1, .ref (ac 0)), (2, .ref (am 0)), (3, .ref o), (4, .int (nI i))]) C dL_law_692 (by decide) rfl ?_
    refine g_aload_n C dL_law_694 rfl 4 rfl ?_
    refine g_FVi (ci := 3) (st := []) C (k_X2_thrown l D cy zs am lab9 has9 quo9 spe9 nam9 gif9 fol9 siz9 cel9 giv9 nf9 lis9 lc9 see9 cnt9 0 hM9) gL_law_X2_thrown rfl ⟨rfl, ydX2_thrown⟩ 0 rfl rfl ⟨Nat.le_of_ble_eq_true rfl, Nat.le_of_ble_eq_true rfl⟩ ⟨hk, hn⟩ rfl (Nat.le_of_ble_eq_true rfl) dL_law_695 (fun r6 w6 h6 => ?_)
    obtain ⟨h6a, h6b⟩ := h6
    subst h6a
    subst h6b
    refine g_perm (ws' := ((wC cy ac (zs 0) labC9 quoC9 speC9 mdC9 edC9 lisC9 lcC9 seeC9 cntC9 Fs9 ++ [((o, .inl (cy 2, 1, .inr (.inl (vp_updL g 0 (r1).toInt64)))) : Nat × va_E)]) ++ wM cy am lab9 has9 quo9 spe9 nam9 gif9 fol9 siz9 cel9 giv9 nf9 lis9 lc9 see9 cnt9 0)) (X := []) (perm_ab _ _) ?_
    refine g_iload C dL_law_698 1 rfl ?_
    refine g_icmp_eq (tgt := 705) C dL_law_700 (by decide) (fun c700 => ?_) (fun c700 => ?_)
    · skip
      have c700 := c_eq0 (by omega) (by omega) c700
      refine g_iload C dL_law_705 1 rfl ?_
      refine g_if_ne (tgt := 722) C dL_law_707 (by decide) (fun c707 => ?_) (fun c707 => ?_)
      · skip
        exact absurd c707 (by decide +kernel)
      · skip
        have c707 := cz_eq0 (by omega) c707
        refine g_aload_n C dL_law_710 rfl 5 rfl ?_
        refine g_iconst (v := nI 0) C dL_law_711 (by decide +kernel) ?_
        refine g_lald (nn := 1) (i := nI 0) (v := (r1).toInt64) C (wC cy ac (zs 0) labC9 quoC9 speC9 mdC9 edC9 lisC9 lcC9 seeC9 cntC9 Fs9).length (app_at (tl_at rfl)) (vp_in_nI (by omega) (by omega)) (by rw [nI_clamp (by omega)]; exact if_pos rfl) dL_law_712 ?_
        refine g_iload C dL_law_713 0 rfl ?_
        refine g_i2l (v := (r1).toInt64) C dL_law_715 rfl ?_
        refine g_lcmp (v := nI 0) C dL_law_716 (lg_self _) ?_
        refine g_if_eq (tgt := 722) C dL_law_717 (by decide) (fun c717 => ?_) (fun c717 => ?_)
        · skip
          have c717 := cz_eq0 (by omega) c717
          refine g_goto (tgt := 1433) C dL_law_722 (by decide) ?_
          exact g_sub (lv' := [(0, .ref b), (1, .ref (ac 0)), (2, .ref (am 0)), (3, .ref o), (4, .int (nI i))]) [2, 3, 4, 5, 6] rfl (next (lab9, has9, quo9, spe9, nam9, gif9, fol9, siz9, cel9, giv9, nf9, lis9, lc9, see9, cnt9) (labC9, quoC9, speC9, mdC9, edC9, lisC9, lcC9, seeC9, cntC9, Fs9) (vp_updL g 0 (r1).toInt64) 0 hR9)
        · skip
          exact absurd c717 (by decide +kernel)
    · skip
      exact absurd c700 (by decide +kernel)
  · skip
    obtain ⟨⟨lab9, has9, quo9, spe9, nam9, gif9, fol9, siz9, cel9, giv9, nf9, lis9, lc9, see9, cnt9⟩, ⟨labC9, quoC9, speC9, mdC9, edC9, lisC9, lcC9, seeC9, cntC9, Fs9⟩, k9, hR9, e1, e2, e3⟩ := hs.2 "java/lang/IllegalArgumentException" w1 hp
    have hk9 : k9 = 1 := by rcases e3 with e3 | e3; exact e3.2; exact absurd e3.1 (by decide)
    subst hk9
    subst e1
    subst e2
    subst hr8
    subst hw8
    have hRR9 : RR lab9 has9 quo9 spe9 nam9 gif9 fol9 siz9 cel9 giv9 nf9 lis9 lc9 see9 cnt9 labC9 quoC9 speC9 edC9 lisC9 lcC9 seeC9 cntC9 Fs9 := hR9
    have hM9 : MI lab9 quo9 spe9 nam9 siz9 cnt9 lis9 nf9 lc9 := by obtain ⟨h9, -⟩ := id hRR9; exact h9
    refine g_weq (ws' := (wM cy am lab9 has9 quo9 spe9 nam9 gif9 fol9 siz9 cel9 giv9 nf9 lis9 lc9 see9 cnt9 1 ++ (wC cy ac (zs 0) labC9 quoC9 speC9 mdC9 edC9 lisC9 lcC9 seeC9 cntC9 Fs9 ++ [((o, .inl (cy 2, 1, .inr (.inl g))) : Nat × va_E)]))) rfl ?_
    refine g_istore (lv' := [(6, .int r7), (5, .int (nI 1)), (0, .ref b), (1, .ref (ac 0)), (2, .ref (am 0)), (3, .ref o), (4, .int (nI i))]) C dL_law_692 (by decide) rfl ?_
    refine g_aload_n C dL_law_694 rfl 4 rfl ?_
    refine g_FVi (ci := 3) (st := []) C (k_X2_thrown l D cy zs am lab9 has9 quo9 spe9 nam9 gif9 fol9 siz9 cel9 giv9 nf9 lis9 lc9 see9 cnt9 1 hM9) gL_law_X2_thrown rfl ⟨rfl, ydX2_thrown⟩ 0 rfl rfl ⟨Nat.le_of_ble_eq_true rfl, Nat.le_of_ble_eq_true rfl⟩ ⟨hk, hn⟩ rfl (Nat.le_of_ble_eq_true rfl) dL_law_695 (fun r6 w6 h6 => ?_)
    obtain ⟨h6a, h6b⟩ := h6
    subst h6a
    subst h6b
    refine g_perm (ws' := ((wC cy ac (zs 0) labC9 quoC9 speC9 mdC9 edC9 lisC9 lcC9 seeC9 cntC9 Fs9 ++ [((o, .inl (cy 2, 1, .inr (.inl g))) : Nat × va_E)]) ++ wM cy am lab9 has9 quo9 spe9 nam9 gif9 fol9 siz9 cel9 giv9 nf9 lis9 lc9 see9 cnt9 1)) (X := []) (perm_ab _ _) ?_
    refine g_iload C dL_law_698 1 rfl ?_
    refine g_icmp_eq (tgt := 705) C dL_law_700 (by decide) (fun c700 => ?_) (fun c700 => ?_)
    · skip
      have c700 := c_eq0 (by omega) (by omega) c700
      refine g_iload C dL_law_705 1 rfl ?_
      refine g_if_ne (tgt := 722) C dL_law_707 (by decide) (fun c707 => ?_) (fun c707 => ?_)
      · skip
        have c707 := cz_eq1 (by omega) c707
        refine g_goto (tgt := 1433) C dL_law_722 (by decide) ?_
        exact g_sub (lv' := [(0, .ref b), (1, .ref (ac 0)), (2, .ref (am 0)), (3, .ref o), (4, .int (nI i))]) [2, 3, 4, 5, 6] rfl (next (lab9, has9, quo9, spe9, nam9, gif9, fol9, siz9, cel9, giv9, nf9, lis9, lc9, see9, cnt9) (labC9, quoC9, speC9, mdC9, edC9, lisC9, lcC9, seeC9, cntC9, Fs9) g 1 hR9)
      · skip
        exact absurd c707 (by decide +kernel)
    · skip
      exact absurd c700 (by decide +kernel)
set_option maxRecDepth 100000 in
set_option maxHeartbeats 4000000 in
theorem b_trim {p : Program} {l : Launch} {e : Env} {s : State} {m : MethodId} {b : Nat} {below : List Frame} {meth : Method} {c : Code} {D : va_G} {cy : Nat → ClassId} {zs : Nat → Nat} {A : Nat → Prop} {Q : State → Prop} {k n L i : Nat} {xs : Nat → Int32} {rt : Option FieldType} (C : Cx p s m #[.ref b] meth c cL_law 7 RL wsL_law D cy zs A rt) (hst : l.stackTraces = false) (hX : va_X b L xs s s.heap) (hbl : b < s.heap.size) (hbA : ¬ A b) (hi : i + 5 ≤ L) (hL : L ≤ 2560) (am ac : Nat → Nat) (o : Nat) (g : Nat → Int64) (thr : Nat) {lab : Nat → Nat} {has : Nat → Bool} {quo spe nam : Nat → Nat} {gif : Nat → Bool} {fol : Nat → Int32} {siz : Nat → Nat} {cel : Nat → Int32} {giv : Nat → Bool} {nf : Nat} {lis : Nat → Nat} {lc : Nat} {see : Nat → Int32} {cnt : Nat → Nat} {labC : Nat → Option Nat} {quoC speC : Nat → Nat} {mdC : Int32} {edC : Option (Nat × Nat)} {lisC : Nat → Nat} {lcC : Nat} {seeC : Nat → Nat → Int32} {cntC : Nat → Nat} {Fs : List FT} (hRR : RR lab has quo spe nam gif fol siz cel giv nf lis lc see cnt labC quoC speC edC lisC lcC seeC cntC Fs) (hk : k + 12 ≤ room_1.cells) (hn : n + 500 ≤ room_1.slots) (next : ∀ (m9 : MS) (c9 : CS) (g9 : Nat → Int64) (thr9 : Nat), RT m9 c9 → GG p l e room_1 s m #[.ref b] below meth c D A 7 Q ((wCt cy ac (zs 0) c9 ++ [((o, .inl (cy 2, 1, .inr (.inl g9))) : Nat × va_E)]) ++ wMt cy am m9 thr9) (k + 12) (n + 500) [(0, .ref b), (1, .ref (ac 0)), (2, .ref (am 0)), (3, .ref o), (4, .int (nI i))] 1433 []) : GG p l e room_1 s m #[.ref b] below meth c D A 7 Q ((wC cy ac (zs 0) labC quoC speC mdC edC lisC lcC seeC cntC Fs ++ [((o, .inl (cy 2, 1, .inr (.inl g))) : Nat × va_E)]) ++ wM cy am lab has quo spe nam gif fol siz cel giv nf lis lc see cnt thr) k n [(0, .ref b), (1, .ref (ac 0)), (2, .ref (am 0)), (3, .ref o), (4, .int (nI i))] 725 [] := by
  obtain ⟨hM, hC, hl9, hqu, hsp, hfi, hls, he9⟩ := id hRR
  refine g_aload_n C dL_law_725 rfl 1 rfl ?_
  refine g_aload_n C dL_law_726 rfl 0 rfl ?_
  refine g_iload C dL_law_727 4 rfl ?_
  refine g_iconst (v := nI 1) C dL_law_729 (by decide +kernel) ?_
  refine g_iadd (v := nI (i + 1)) C dL_law_730 (nI_add _ _) ?_
  refine g_sld C hX hbl hbA (show i + 1 < L by omega) (by omega) dL_law_731 ?_
  refine g_aload_n C dL_law_732 rfl 0 rfl ?_
  refine g_iload C dL_law_733 4 rfl ?_
  refine g_iconst (v := nI 2) C dL_law_735 (by decide +kernel) ?_
  refine g_iadd (v := nI (i + 2)) C dL_law_736 (nI_add _ _) ?_
  refine g_sld C hX hbl hbA (show i + 2 < L by omega) (by omega) dL_law_737 ?_
  refine g_aload_n C dL_law_738 rfl 0 rfl ?_
  refine g_iload C dL_law_739 4 rfl ?_
  refine g_iconst (v := nI 3) C dL_law_741 (by decide +kernel) ?_
  refine g_iadd (v := nI (i + 3)) C dL_law_742 (nI_add _ _) ?_
  refine g_sld C hX hbl hbA (show i + 3 < L by omega) (by omega) dL_law_743 ?_
  refine g_aload_n C dL_law_744 rfl 3 rfl ?_
  refine g_FSi (st := []) C (k_L_trim l D cy zs hst ac labC quoC speC mdC edC lisC lcC seeC cntC Fs hC o g (xs (i + 1)) (xs (i + 2)) (xs (i + 3))) gL_law_L_trim rfl ydL_trim ⟨Nat.le_of_ble_eq_true rfl, Nat.le_of_ble_eq_true rfl⟩ ⟨hk, hn⟩ rfl (Nat.le_of_ble_eq_true rfl) dL_law_745 (fun r8 w8 h8 => ?_)
  refine g_istore (lv' := [(5, .int r8), (0, .ref b), (1, .ref (ac 0)), (2, .ref (am 0)), (3, .ref o), (4, .int (nI i))]) C dL_law_748 (by decide) rfl ?_
  refine g_aload_n C dL_law_750 rfl 3 rfl ?_
  refine g_aload_n C dL_law_751 rfl 1 rfl ?_
  refine g_iload C dL_law_752 5 rfl ?_
  refine g_iconst (v := nI 1) C dL_law_754 (by decide +kernel) ?_
  refine g_iadd (v := nI (i + 1)) C dL_law_755 (nI_add _ _) ?_
  refine g_sld C hX hbl hbA (show i + 1 < L by omega) (by omega) dL_law_756 ?_
  refine g_aload_n C dL_law_757 rfl 1 rfl ?_
  refine g_iload C dL_law_758 5 rfl ?_
  refine g_iconst (v := nI 2) C dL_law_760 (by decide +kernel) ?_
  refine g_iadd (v := nI (i + 2)) C dL_law_761 (nI_add _ _) ?_
  refine g_sld C hX hbl hbA (show i + 2 < L by omega) (by omega) dL_law_762 ?_
  refine g_aload_n C dL_law_763 rfl 1 rfl ?_
  refine g_iload C dL_law_764 5 rfl ?_
  refine g_iconst (v := nI 3) C dL_law_766 (by decide +kernel) ?_
  refine g_iadd (v := nI (i + 3)) C dL_law_767 (nI_add _ _) ?_
  refine g_sld C hX hbl hbA (show i + 3 < L by omega) (by omega) dL_law_768 ?_
  refine g_perm (ws' := wM cy am lab has quo spe nam gif fol siz cel giv nf lis lc see cnt thr ++ w8) (X := []) (perm_ab _ _) ?_
  refine g_FVi (ci := 3) (st := []) C (k_X2_trim l D cy zs am lab has quo spe nam gif fol siz cel giv nf lis lc see cnt thr hM (xs (i + 1)) (xs (i + 2)) (xs (i + 3))) gL_law_X2_trim rfl ⟨rfl, ydX2_trim⟩ 0 rfl rfl ⟨Nat.le_of_ble_eq_true rfl, Nat.le_of_ble_eq_true rfl⟩ ⟨hk, hn⟩ rfl (Nat.le_of_ble_eq_true rfl) dL_law_769 (fun r7 w7 h7 => ?_)
  have hs := sim_trim (zs := zs) (ac := ac) (mdC := mdC) hRR (show PM_trim cy am lab has quo spe nam gif fol siz cel giv nf lis lc see cnt (xs (i + 1)) (xs (i + 2)) (xs (i + 3)) r7 w7 from h7)
  rcases h8 with ⟨r1, w1, hp, hr8, hw8⟩ | ⟨w1, hp, hr8, hw8⟩
  · skip
    obtain ⟨⟨lab9, has9, quo9, spe9, nam9, gif9, fol9, siz9, cel9, giv9, nf9, lis9, lc9, see9, cnt9⟩, ⟨labC9, quoC9, speC9, mdC9, edC9, lisC9, lcC9, seeC9, cntC9, Fs9⟩, hR9, e1, e2, e3⟩ := hs.1 r1 w1 hp
    subst e3
    subst e1
    subst e2
    subst hr8
    subst hw8
    have hRR9 : RR lab9 has9 quo9 spe9 nam9 gif9 fol9 siz9 cel9 giv9 nf9 lis9 lc9 see9 cnt9 labC9 quoC9 speC9 edC9 lisC9 lcC9 seeC9 cntC9 Fs9 := hR9
    have hM9 : MI lab9 quo9 spe9 nam9 siz9 cnt9 lis9 nf9 lc9 := by obtain ⟨h9, -⟩ := id hRR9; exact h9
    refine g_weq (ws' := (wM cy am lab9 has9 quo9 spe9 nam9 gif9 fol9 siz9 cel9 giv9 nf9 lis9 lc9 see9 cnt9 0 ++ (wC cy ac (zs 0) labC9 quoC9 speC9 mdC9 edC9 lisC9 lcC9 seeC9 cntC9 Fs9 ++ [((o, .inl (cy 2, 1, .inr (.inl (vp_updL g 0 (r1).toInt64)))) : Nat × va_E)]))) rfl ?_
    refine g_istore (lv' := [(6, .int r1), (5, .int (nI 0)), (0, .ref b), (1, .ref (ac 0)), (2, .ref (am 0)), (3, .ref o), (4, .int (nI i))]) C dL_law_772 (by decide) rfl ?_
    refine g_aload_n C dL_law_774 rfl 4 rfl ?_
    refine g_FVi (ci := 3) (st := []) C (k_X2_thrown l D cy zs am lab9 has9 quo9 spe9 nam9 gif9 fol9 siz9 cel9 giv9 nf9 lis9 lc9 see9 cnt9 0 hM9) gL_law_X2_thrown rfl ⟨rfl, ydX2_thrown⟩ 0 rfl rfl ⟨Nat.le_of_ble_eq_true rfl, Nat.le_of_ble_eq_true rfl⟩ ⟨hk, hn⟩ rfl (Nat.le_of_ble_eq_true rfl) dL_law_775 (fun r6 w6 h6 => ?_)
    obtain ⟨h6a, h6b⟩ := h6
    subst h6a
    subst h6b
    refine g_perm (ws' := ((wC cy ac (zs 0) labC9 quoC9 speC9 mdC9 edC9 lisC9 lcC9 seeC9 cntC9 Fs9 ++ [((o, .inl (cy 2, 1, .inr (.inl (vp_updL g 0 (r1).toInt64)))) : Nat × va_E)]) ++ wM cy am lab9 has9 quo9 spe9 nam9 gif9 fol9 siz9 cel9 giv9 nf9 lis9 lc9 see9 cnt9 0)) (X := []) (perm_ab _ _) ?_
    refine g_iload C dL_law_778 1 rfl ?_
    refine g_icmp_eq (tgt := 785) C dL_law_780 (by decide) (fun c780 => ?_) (fun c780 => ?_)
    · skip
      have c780 := c_eq0 (by omega) (by omega) c780
      refine g_iload C dL_law_785 1 rfl ?_
      refine g_if_ne (tgt := 802) C dL_law_787 (by decide) (fun c787 => ?_) (fun c787 => ?_)
      · skip
        exact absurd c787 (by decide +kernel)
      · skip
        have c787 := cz_eq0 (by omega) c787
        refine g_aload_n C dL_law_790 rfl 5 rfl ?_
        refine g_iconst (v := nI 0) C dL_law_791 (by decide +kernel) ?_
        refine g_lald (nn := 1) (i := nI 0) (v := (r1).toInt64) C (wC cy ac (zs 0) labC9 quoC9 speC9 mdC9 edC9 lisC9 lcC9 seeC9 cntC9 Fs9).length (app_at (tl_at rfl)) (vp_in_nI (by omega) (by omega)) (by rw [nI_clamp (by omega)]; exact if_pos rfl) dL_law_792 ?_
        refine g_iload C dL_law_793 0 rfl ?_
        refine g_i2l (v := (r1).toInt64) C dL_law_795 rfl ?_
        refine g_lcmp (v := nI 0) C dL_law_796 (lg_self _) ?_
        refine g_if_eq (tgt := 802) C dL_law_797 (by decide) (fun c797 => ?_) (fun c797 => ?_)
        · skip
          have c797 := cz_eq0 (by omega) c797
          refine g_goto (tgt := 1433) C dL_law_802 (by decide) ?_
          exact g_sub (lv' := [(0, .ref b), (1, .ref (ac 0)), (2, .ref (am 0)), (3, .ref o), (4, .int (nI i))]) [2, 3, 4, 5, 6] rfl (next (lab9, has9, quo9, spe9, nam9, gif9, fol9, siz9, cel9, giv9, nf9, lis9, lc9, see9, cnt9) (labC9, quoC9, speC9, mdC9, edC9, lisC9, lcC9, seeC9, cntC9, Fs9) (vp_updL g 0 (r1).toInt64) 0 hR9)
        · skip
          exact absurd c797 (by decide +kernel)
    · skip
      exact absurd c780 (by decide +kernel)
  · skip
    obtain ⟨⟨lab9, has9, quo9, spe9, nam9, gif9, fol9, siz9, cel9, giv9, nf9, lis9, lc9, see9, cnt9⟩, ⟨labC9, quoC9, speC9, mdC9, edC9, lisC9, lcC9, seeC9, cntC9, Fs9⟩, k9, hR9, e1, e2, e3⟩ := hs.2 "java/lang/IllegalArgumentException" w1 hp
    have hk9 : k9 = 1 := by rcases e3 with e3 | e3; exact e3.2; exact absurd e3.1 (by decide)
    subst hk9
    subst e1
    subst e2
    subst hr8
    subst hw8
    have hRR9 : RR lab9 has9 quo9 spe9 nam9 gif9 fol9 siz9 cel9 giv9 nf9 lis9 lc9 see9 cnt9 labC9 quoC9 speC9 edC9 lisC9 lcC9 seeC9 cntC9 Fs9 := hR9
    have hM9 : MI lab9 quo9 spe9 nam9 siz9 cnt9 lis9 nf9 lc9 := by obtain ⟨h9, -⟩ := id hRR9; exact h9
    refine g_weq (ws' := (wM cy am lab9 has9 quo9 spe9 nam9 gif9 fol9 siz9 cel9 giv9 nf9 lis9 lc9 see9 cnt9 1 ++ (wC cy ac (zs 0) labC9 quoC9 speC9 mdC9 edC9 lisC9 lcC9 seeC9 cntC9 Fs9 ++ [((o, .inl (cy 2, 1, .inr (.inl g))) : Nat × va_E)]))) rfl ?_
    refine g_istore (lv' := [(6, .int r7), (5, .int (nI 1)), (0, .ref b), (1, .ref (ac 0)), (2, .ref (am 0)), (3, .ref o), (4, .int (nI i))]) C dL_law_772 (by decide) rfl ?_
    refine g_aload_n C dL_law_774 rfl 4 rfl ?_
    refine g_FVi (ci := 3) (st := []) C (k_X2_thrown l D cy zs am lab9 has9 quo9 spe9 nam9 gif9 fol9 siz9 cel9 giv9 nf9 lis9 lc9 see9 cnt9 1 hM9) gL_law_X2_thrown rfl ⟨rfl, ydX2_thrown⟩ 0 rfl rfl ⟨Nat.le_of_ble_eq_true rfl, Nat.le_of_ble_eq_true rfl⟩ ⟨hk, hn⟩ rfl (Nat.le_of_ble_eq_true rfl) dL_law_775 (fun r6 w6 h6 => ?_)
    obtain ⟨h6a, h6b⟩ := h6
    subst h6a
    subst h6b
    refine g_perm (ws' := ((wC cy ac (zs 0) labC9 quoC9 speC9 mdC9 edC9 lisC9 lcC9 seeC9 cntC9 Fs9 ++ [((o, .inl (cy 2, 1, .inr (.inl g))) : Nat × va_E)]) ++ wM cy am lab9 has9 quo9 spe9 nam9 gif9 fol9 siz9 cel9 giv9 nf9 lis9 lc9 see9 cnt9 1)) (X := []) (perm_ab _ _) ?_
    refine g_iload C dL_law_778 1 rfl ?_
    refine g_icmp_eq (tgt := 785) C dL_law_780 (by decide) (fun c780 => ?_) (fun c780 => ?_)
    · skip
      have c780 := c_eq0 (by omega) (by omega) c780
      refine g_iload C dL_law_785 1 rfl ?_
      refine g_if_ne (tgt := 802) C dL_law_787 (by decide) (fun c787 => ?_) (fun c787 => ?_)
      · skip
        have c787 := cz_eq1 (by omega) c787
        refine g_goto (tgt := 1433) C dL_law_802 (by decide) ?_
        exact g_sub (lv' := [(0, .ref b), (1, .ref (ac 0)), (2, .ref (am 0)), (3, .ref o), (4, .int (nI i))]) [2, 3, 4, 5, 6] rfl (next (lab9, has9, quo9, spe9, nam9, gif9, fol9, siz9, cel9, giv9, nf9, lis9, lc9, see9, cnt9) (labC9, quoC9, speC9, mdC9, edC9, lisC9, lcC9, seeC9, cntC9, Fs9) g 1 hR9)
      · skip
        exact absurd c787 (by decide +kernel)
    · skip
      exact absurd c780 (by decide +kernel)
set_option maxRecDepth 100000 in
set_option maxHeartbeats 4000000 in
theorem b_remove {p : Program} {l : Launch} {e : Env} {s : State} {m : MethodId} {b : Nat} {below : List Frame} {meth : Method} {c : Code} {D : va_G} {cy : Nat → ClassId} {zs : Nat → Nat} {A : Nat → Prop} {Q : State → Prop} {k n L i : Nat} {xs : Nat → Int32} {rt : Option FieldType} (C : Cx p s m #[.ref b] meth c cL_law 7 RL wsL_law D cy zs A rt) (hst : l.stackTraces = false) (hX : va_X b L xs s s.heap) (hbl : b < s.heap.size) (hbA : ¬ A b) (hi : i + 5 ≤ L) (hL : L ≤ 2560) (am ac : Nat → Nat) (o : Nat) (g : Nat → Int64) (thr : Nat) {lab : Nat → Nat} {has : Nat → Bool} {quo spe nam : Nat → Nat} {gif : Nat → Bool} {fol : Nat → Int32} {siz : Nat → Nat} {cel : Nat → Int32} {giv : Nat → Bool} {nf : Nat} {lis : Nat → Nat} {lc : Nat} {see : Nat → Int32} {cnt : Nat → Nat} {labC : Nat → Option Nat} {quoC speC : Nat → Nat} {mdC : Int32} {edC : Option (Nat × Nat)} {lisC : Nat → Nat} {lcC : Nat} {seeC : Nat → Nat → Int32} {cntC : Nat → Nat} {Fs : List FT} (hRR : RR lab has quo spe nam gif fol siz cel giv nf lis lc see cnt labC quoC speC edC lisC lcC seeC cntC Fs) (hk : k + 12 ≤ room_1.cells) (hn : n + 500 ≤ room_1.slots) (next : ∀ (m9 : MS) (c9 : CS) (g9 : Nat → Int64) (thr9 : Nat), RT m9 c9 → GG p l e room_1 s m #[.ref b] below meth c D A 7 Q ((wCt cy ac (zs 0) c9 ++ [((o, .inl (cy 2, 1, .inr (.inl g9))) : Nat × va_E)]) ++ wMt cy am m9 thr9) (k + 12) (n + 500) [(0, .ref b), (1, .ref (ac 0)), (2, .ref (am 0)), (3, .ref o), (4, .int (nI i))] 1433 []) : GG p l e room_1 s m #[.ref b] below meth c D A 7 Q ((wC cy ac (zs 0) labC quoC speC mdC edC lisC lcC seeC cntC Fs ++ [((o, .inl (cy 2, 1, .inr (.inl g))) : Nat × va_E)]) ++ wM cy am lab has quo spe nam gif fol siz cel giv nf lis lc see cnt thr) k n [(0, .ref b), (1, .ref (ac 0)), (2, .ref (am 0)), (3, .ref o), (4, .int (nI i))] 805 [] := by
  obtain ⟨hM, hC, hl9, hqu, hsp, hfi, hls, he9⟩ := id hRR
  refine g_aload_n C dL_law_805 rfl 1 rfl ?_
  refine g_aload_n C dL_law_806 rfl 0 rfl ?_
  refine g_iload C dL_law_807 4 rfl ?_
  refine g_iconst (v := nI 1) C dL_law_809 (by decide +kernel) ?_
  refine g_iadd (v := nI (i + 1)) C dL_law_810 (nI_add _ _) ?_
  refine g_sld C hX hbl hbA (show i + 1 < L by omega) (by omega) dL_law_811 ?_
  refine g_aload_n C dL_law_812 rfl 0 rfl ?_
  refine g_iload C dL_law_813 4 rfl ?_
  refine g_iconst (v := nI 2) C dL_law_815 (by decide +kernel) ?_
  refine g_iadd (v := nI (i + 2)) C dL_law_816 (nI_add _ _) ?_
  refine g_sld C hX hbl hbA (show i + 2 < L by omega) (by omega) dL_law_817 ?_
  refine g_aload_n C dL_law_818 rfl 3 rfl ?_
  refine g_FSi (st := []) C (k_L_remove l D cy zs hst ac labC quoC speC mdC edC lisC lcC seeC cntC Fs hC o g (xs (i + 1)) (xs (i + 2))) gL_law_L_remove rfl ydL_remove ⟨Nat.le_of_ble_eq_true rfl, Nat.le_of_ble_eq_true rfl⟩ ⟨hk, hn⟩ rfl (Nat.le_of_ble_eq_true rfl) dL_law_819 (fun r8 w8 h8 => ?_)
  refine g_istore (lv' := [(5, .int r8), (0, .ref b), (1, .ref (ac 0)), (2, .ref (am 0)), (3, .ref o), (4, .int (nI i))]) C dL_law_822 (by decide) rfl ?_
  refine g_aload_n C dL_law_824 rfl 3 rfl ?_
  refine g_aload_n C dL_law_825 rfl 1 rfl ?_
  refine g_iload C dL_law_826 5 rfl ?_
  refine g_iconst (v := nI 1) C dL_law_828 (by decide +kernel) ?_
  refine g_iadd (v := nI (i + 1)) C dL_law_829 (nI_add _ _) ?_
  refine g_sld C hX hbl hbA (show i + 1 < L by omega) (by omega) dL_law_830 ?_
  refine g_aload_n C dL_law_831 rfl 1 rfl ?_
  refine g_iload C dL_law_832 5 rfl ?_
  refine g_iconst (v := nI 2) C dL_law_834 (by decide +kernel) ?_
  refine g_iadd (v := nI (i + 2)) C dL_law_835 (nI_add _ _) ?_
  refine g_sld C hX hbl hbA (show i + 2 < L by omega) (by omega) dL_law_836 ?_
  refine g_perm (ws' := wM cy am lab has quo spe nam gif fol siz cel giv nf lis lc see cnt thr ++ w8) (X := []) (perm_ab _ _) ?_
  refine g_FVi (ci := 3) (st := []) C (k_X2_remove l D cy zs am lab has quo spe nam gif fol siz cel giv nf lis lc see cnt thr hM (xs (i + 1)) (xs (i + 2))) gL_law_X2_remove rfl ⟨rfl, ydX2_remove⟩ 0 rfl rfl ⟨Nat.le_of_ble_eq_true rfl, Nat.le_of_ble_eq_true rfl⟩ ⟨hk, hn⟩ rfl (Nat.le_of_ble_eq_true rfl) dL_law_837 (fun r7 w7 h7 => ?_)
  have hs := sim_remove (zs := zs) (ac := ac) (mdC := mdC) hRR (show PM_remove cy am lab has quo spe nam gif fol siz cel giv nf lis lc see cnt (xs (i + 1)) (xs (i + 2)) r7 w7 from h7)
  rcases h8 with ⟨r1, w1, hp, hr8, hw8⟩ | ⟨w1, hp, hr8, hw8⟩
  · skip
    obtain ⟨⟨lab9, has9, quo9, spe9, nam9, gif9, fol9, siz9, cel9, giv9, nf9, lis9, lc9, see9, cnt9⟩, ⟨labC9, quoC9, speC9, mdC9, edC9, lisC9, lcC9, seeC9, cntC9, Fs9⟩, hR9, e1, e2, e3⟩ := hs.1 r1 w1 hp
    subst e3
    subst e1
    subst e2
    subst hr8
    subst hw8
    have hRR9 : RR lab9 has9 quo9 spe9 nam9 gif9 fol9 siz9 cel9 giv9 nf9 lis9 lc9 see9 cnt9 labC9 quoC9 speC9 edC9 lisC9 lcC9 seeC9 cntC9 Fs9 := hR9
    have hM9 : MI lab9 quo9 spe9 nam9 siz9 cnt9 lis9 nf9 lc9 := by obtain ⟨h9, -⟩ := id hRR9; exact h9
    refine g_weq (ws' := (wM cy am lab9 has9 quo9 spe9 nam9 gif9 fol9 siz9 cel9 giv9 nf9 lis9 lc9 see9 cnt9 0 ++ (wC cy ac (zs 0) labC9 quoC9 speC9 mdC9 edC9 lisC9 lcC9 seeC9 cntC9 Fs9 ++ [((o, .inl (cy 2, 1, .inr (.inl (vp_updL g 0 (r1).toInt64)))) : Nat × va_E)]))) rfl ?_
    refine g_istore (lv' := [(6, .int r1), (5, .int (nI 0)), (0, .ref b), (1, .ref (ac 0)), (2, .ref (am 0)), (3, .ref o), (4, .int (nI i))]) C dL_law_840 (by decide) rfl ?_
    refine g_aload_n C dL_law_842 rfl 4 rfl ?_
    refine g_FVi (ci := 3) (st := []) C (k_X2_thrown l D cy zs am lab9 has9 quo9 spe9 nam9 gif9 fol9 siz9 cel9 giv9 nf9 lis9 lc9 see9 cnt9 0 hM9) gL_law_X2_thrown rfl ⟨rfl, ydX2_thrown⟩ 0 rfl rfl ⟨Nat.le_of_ble_eq_true rfl, Nat.le_of_ble_eq_true rfl⟩ ⟨hk, hn⟩ rfl (Nat.le_of_ble_eq_true rfl) dL_law_843 (fun r6 w6 h6 => ?_)
    obtain ⟨h6a, h6b⟩ := h6
    subst h6a
    subst h6b
    refine g_perm (ws' := ((wC cy ac (zs 0) labC9 quoC9 speC9 mdC9 edC9 lisC9 lcC9 seeC9 cntC9 Fs9 ++ [((o, .inl (cy 2, 1, .inr (.inl (vp_updL g 0 (r1).toInt64)))) : Nat × va_E)]) ++ wM cy am lab9 has9 quo9 spe9 nam9 gif9 fol9 siz9 cel9 giv9 nf9 lis9 lc9 see9 cnt9 0)) (X := []) (perm_ab _ _) ?_
    refine g_iload C dL_law_846 1 rfl ?_
    refine g_icmp_eq (tgt := 853) C dL_law_848 (by decide) (fun c848 => ?_) (fun c848 => ?_)
    · skip
      have c848 := c_eq0 (by omega) (by omega) c848
      refine g_iload C dL_law_853 1 rfl ?_
      refine g_if_ne (tgt := 870) C dL_law_855 (by decide) (fun c855 => ?_) (fun c855 => ?_)
      · skip
        exact absurd c855 (by decide +kernel)
      · skip
        have c855 := cz_eq0 (by omega) c855
        refine g_aload_n C dL_law_858 rfl 5 rfl ?_
        refine g_iconst (v := nI 0) C dL_law_859 (by decide +kernel) ?_
        refine g_lald (nn := 1) (i := nI 0) (v := (r1).toInt64) C (wC cy ac (zs 0) labC9 quoC9 speC9 mdC9 edC9 lisC9 lcC9 seeC9 cntC9 Fs9).length (app_at (tl_at rfl)) (vp_in_nI (by omega) (by omega)) (by rw [nI_clamp (by omega)]; exact if_pos rfl) dL_law_860 ?_
        refine g_iload C dL_law_861 0 rfl ?_
        refine g_i2l (v := (r1).toInt64) C dL_law_863 rfl ?_
        refine g_lcmp (v := nI 0) C dL_law_864 (lg_self _) ?_
        refine g_if_eq (tgt := 870) C dL_law_865 (by decide) (fun c865 => ?_) (fun c865 => ?_)
        · skip
          have c865 := cz_eq0 (by omega) c865
          refine g_goto (tgt := 1433) C dL_law_870 (by decide) ?_
          exact g_sub (lv' := [(0, .ref b), (1, .ref (ac 0)), (2, .ref (am 0)), (3, .ref o), (4, .int (nI i))]) [2, 3, 4, 5, 6] rfl (next (lab9, has9, quo9, spe9, nam9, gif9, fol9, siz9, cel9, giv9, nf9, lis9, lc9, see9, cnt9) (labC9, quoC9, speC9, mdC9, edC9, lisC9, lcC9, seeC9, cntC9, Fs9) (vp_updL g 0 (r1).toInt64) 0 hR9)
        · skip
          exact absurd c865 (by decide +kernel)
    · skip
      exact absurd c848 (by decide +kernel)
  · skip
    obtain ⟨⟨lab9, has9, quo9, spe9, nam9, gif9, fol9, siz9, cel9, giv9, nf9, lis9, lc9, see9, cnt9⟩, ⟨labC9, quoC9, speC9, mdC9, edC9, lisC9, lcC9, seeC9, cntC9, Fs9⟩, k9, hR9, e1, e2, e3⟩ := hs.2 "java/lang/IllegalArgumentException" w1 hp
    have hk9 : k9 = 1 := by rcases e3 with e3 | e3; exact e3.2; exact absurd e3.1 (by decide)
    subst hk9
    subst e1
    subst e2
    subst hr8
    subst hw8
    have hRR9 : RR lab9 has9 quo9 spe9 nam9 gif9 fol9 siz9 cel9 giv9 nf9 lis9 lc9 see9 cnt9 labC9 quoC9 speC9 edC9 lisC9 lcC9 seeC9 cntC9 Fs9 := hR9
    have hM9 : MI lab9 quo9 spe9 nam9 siz9 cnt9 lis9 nf9 lc9 := by obtain ⟨h9, -⟩ := id hRR9; exact h9
    refine g_weq (ws' := (wM cy am lab9 has9 quo9 spe9 nam9 gif9 fol9 siz9 cel9 giv9 nf9 lis9 lc9 see9 cnt9 1 ++ (wC cy ac (zs 0) labC9 quoC9 speC9 mdC9 edC9 lisC9 lcC9 seeC9 cntC9 Fs9 ++ [((o, .inl (cy 2, 1, .inr (.inl g))) : Nat × va_E)]))) rfl ?_
    refine g_istore (lv' := [(6, .int r7), (5, .int (nI 1)), (0, .ref b), (1, .ref (ac 0)), (2, .ref (am 0)), (3, .ref o), (4, .int (nI i))]) C dL_law_840 (by decide) rfl ?_
    refine g_aload_n C dL_law_842 rfl 4 rfl ?_
    refine g_FVi (ci := 3) (st := []) C (k_X2_thrown l D cy zs am lab9 has9 quo9 spe9 nam9 gif9 fol9 siz9 cel9 giv9 nf9 lis9 lc9 see9 cnt9 1 hM9) gL_law_X2_thrown rfl ⟨rfl, ydX2_thrown⟩ 0 rfl rfl ⟨Nat.le_of_ble_eq_true rfl, Nat.le_of_ble_eq_true rfl⟩ ⟨hk, hn⟩ rfl (Nat.le_of_ble_eq_true rfl) dL_law_843 (fun r6 w6 h6 => ?_)
    obtain ⟨h6a, h6b⟩ := h6
    subst h6a
    subst h6b
    refine g_perm (ws' := ((wC cy ac (zs 0) labC9 quoC9 speC9 mdC9 edC9 lisC9 lcC9 seeC9 cntC9 Fs9 ++ [((o, .inl (cy 2, 1, .inr (.inl g))) : Nat × va_E)]) ++ wM cy am lab9 has9 quo9 spe9 nam9 gif9 fol9 siz9 cel9 giv9 nf9 lis9 lc9 see9 cnt9 1)) (X := []) (perm_ab _ _) ?_
    refine g_iload C dL_law_846 1 rfl ?_
    refine g_icmp_eq (tgt := 853) C dL_law_848 (by decide) (fun c848 => ?_) (fun c848 => ?_)
    · skip
      have c848 := c_eq0 (by omega) (by omega) c848
      refine g_iload C dL_law_853 1 rfl ?_
      refine g_if_ne (tgt := 870) C dL_law_855 (by decide) (fun c855 => ?_) (fun c855 => ?_)
      · skip
        have c855 := cz_eq1 (by omega) c855
        refine g_goto (tgt := 1433) C dL_law_870 (by decide) ?_
        exact g_sub (lv' := [(0, .ref b), (1, .ref (ac 0)), (2, .ref (am 0)), (3, .ref o), (4, .int (nI i))]) [2, 3, 4, 5, 6] rfl (next (lab9, has9, quo9, spe9, nam9, gif9, fol9, siz9, cel9, giv9, nf9, lis9, lc9, see9, cnt9) (labC9, quoC9, speC9, mdC9, edC9, lisC9, lcC9, seeC9, cntC9, Fs9) g 1 hR9)
      · skip
        exact absurd c855 (by decide +kernel)
    · skip
      exact absurd c848 (by decide +kernel)
set_option maxRecDepth 100000 in
set_option maxHeartbeats 4000000 in
theorem b_read {p : Program} {l : Launch} {e : Env} {s : State} {m : MethodId} {b : Nat} {below : List Frame} {meth : Method} {c : Code} {D : va_G} {cy : Nat → ClassId} {zs : Nat → Nat} {A : Nat → Prop} {Q : State → Prop} {k n L i : Nat} {xs : Nat → Int32} {rt : Option FieldType} (C : Cx p s m #[.ref b] meth c cL_law 7 RL wsL_law D cy zs A rt) (hst : l.stackTraces = false) (hX : va_X b L xs s s.heap) (hbl : b < s.heap.size) (hbA : ¬ A b) (hi : i + 5 ≤ L) (hL : L ≤ 2560) (am ac : Nat → Nat) (o : Nat) (g : Nat → Int64) (thr : Nat) {lab : Nat → Nat} {has : Nat → Bool} {quo spe nam : Nat → Nat} {gif : Nat → Bool} {fol : Nat → Int32} {siz : Nat → Nat} {cel : Nat → Int32} {giv : Nat → Bool} {nf : Nat} {lis : Nat → Nat} {lc : Nat} {see : Nat → Int32} {cnt : Nat → Nat} {labC : Nat → Option Nat} {quoC speC : Nat → Nat} {mdC : Int32} {edC : Option (Nat × Nat)} {lisC : Nat → Nat} {lcC : Nat} {seeC : Nat → Nat → Int32} {cntC : Nat → Nat} {Fs : List FT} (hRR : RR lab has quo spe nam gif fol siz cel giv nf lis lc see cnt labC quoC speC edC lisC lcC seeC cntC Fs) (hk : k + 12 ≤ room_1.cells) (hn : n + 500 ≤ room_1.slots) (next : ∀ (m9 : MS) (c9 : CS) (g9 : Nat → Int64) (thr9 : Nat), RT m9 c9 → GG p l e room_1 s m #[.ref b] below meth c D A 7 Q ((wCt cy ac (zs 0) c9 ++ [((o, .inl (cy 2, 1, .inr (.inl g9))) : Nat × va_E)]) ++ wMt cy am m9 thr9) (k + 12) (n + 500) [(0, .ref b), (1, .ref (ac 0)), (2, .ref (am 0)), (3, .ref o), (4, .int (nI i))] 1433 []) : GG p l e room_1 s m #[.ref b] below meth c D A 7 Q ((wC cy ac (zs 0) labC quoC speC mdC edC lisC lcC seeC cntC Fs ++ [((o, .inl (cy 2, 1, .inr (.inl g))) : Nat × va_E)]) ++ wM cy am lab has quo spe nam gif fol siz cel giv nf lis lc see cnt thr) k n [(0, .ref b), (1, .ref (ac 0)), (2, .ref (am 0)), (3, .ref o), (4, .int (nI i))] 873 [] := by
  obtain ⟨hM, hC, hl9, hqu, hsp, hfi, hls, he9⟩ := id hRR
  refine g_aload_n C dL_law_873 rfl 1 rfl ?_
  refine g_aload_n C dL_law_874 rfl 0 rfl ?_
  refine g_iload C dL_law_875 4 rfl ?_
  refine g_iconst (v := nI 1) C dL_law_877 (by decide +kernel) ?_
  refine g_iadd (v := nI (i + 1)) C dL_law_878 (nI_add _ _) ?_
  refine g_sld C hX hbl hbA (show i + 1 < L by omega) (by omega) dL_law_879 ?_
  refine g_aload_n C dL_law_880 rfl 0 rfl ?_
  refine g_iload C dL_law_881 4 rfl ?_
  refine g_iconst (v := nI 2) C dL_law_883 (by decide +kernel) ?_
  refine g_iadd (v := nI (i + 2)) C dL_law_884 (nI_add _ _) ?_
  refine g_sld C hX hbl hbA (show i + 2 < L by omega) (by omega) dL_law_885 ?_
  refine g_aload_n C dL_law_886 rfl 0 rfl ?_
  refine g_iload C dL_law_887 4 rfl ?_
  refine g_iconst (v := nI 3) C dL_law_889 (by decide +kernel) ?_
  refine g_iadd (v := nI (i + 3)) C dL_law_890 (nI_add _ _) ?_
  refine g_sld C hX hbl hbA (show i + 3 < L by omega) (by omega) dL_law_891 ?_
  refine g_aload_n C dL_law_892 rfl 0 rfl ?_
  refine g_iload C dL_law_893 4 rfl ?_
  refine g_iconst (v := nI 4) C dL_law_895 (by decide +kernel) ?_
  refine g_iadd (v := nI (i + 4)) C dL_law_896 (nI_add _ _) ?_
  refine g_sld C hX hbl hbA (show i + 4 < L by omega) (by omega) dL_law_897 ?_
  refine g_aload_n C dL_law_898 rfl 3 rfl ?_
  refine g_FSi (st := []) C (k_L_read l D cy zs hst ac labC quoC speC mdC edC lisC lcC seeC cntC Fs hC o g (xs (i + 1)) (xs (i + 2)) (xs (i + 3)) (xs (i + 4))) gL_law_L_read rfl ydL_read ⟨Nat.le_of_ble_eq_true rfl, Nat.le_of_ble_eq_true rfl⟩ ⟨hk, hn⟩ rfl (Nat.le_of_ble_eq_true rfl) dL_law_899 (fun r8 w8 h8 => ?_)
  refine g_istore (lv' := [(5, .int r8), (0, .ref b), (1, .ref (ac 0)), (2, .ref (am 0)), (3, .ref o), (4, .int (nI i))]) C dL_law_902 (by decide) rfl ?_
  refine g_aload_n C dL_law_904 rfl 3 rfl ?_
  refine g_aload_n C dL_law_905 rfl 1 rfl ?_
  refine g_iload C dL_law_906 5 rfl ?_
  refine g_iconst (v := nI 1) C dL_law_908 (by decide +kernel) ?_
  refine g_iadd (v := nI (i + 1)) C dL_law_909 (nI_add _ _) ?_
  refine g_sld C hX hbl hbA (show i + 1 < L by omega) (by omega) dL_law_910 ?_
  refine g_aload_n C dL_law_911 rfl 1 rfl ?_
  refine g_iload C dL_law_912 5 rfl ?_
  refine g_iconst (v := nI 2) C dL_law_914 (by decide +kernel) ?_
  refine g_iadd (v := nI (i + 2)) C dL_law_915 (nI_add _ _) ?_
  refine g_sld C hX hbl hbA (show i + 2 < L by omega) (by omega) dL_law_916 ?_
  refine g_aload_n C dL_law_917 rfl 1 rfl ?_
  refine g_iload C dL_law_918 5 rfl ?_
  refine g_iconst (v := nI 3) C dL_law_920 (by decide +kernel) ?_
  refine g_iadd (v := nI (i + 3)) C dL_law_921 (nI_add _ _) ?_
  refine g_sld C hX hbl hbA (show i + 3 < L by omega) (by omega) dL_law_922 ?_
  refine g_aload_n C dL_law_923 rfl 1 rfl ?_
  refine g_iload C dL_law_924 5 rfl ?_
  refine g_iconst (v := nI 4) C dL_law_926 (by decide +kernel) ?_
  refine g_iadd (v := nI (i + 4)) C dL_law_927 (nI_add _ _) ?_
  refine g_sld C hX hbl hbA (show i + 4 < L by omega) (by omega) dL_law_928 ?_
  refine g_perm (ws' := wM cy am lab has quo spe nam gif fol siz cel giv nf lis lc see cnt thr ++ w8) (X := []) (perm_ab _ _) ?_
  refine g_FVi (ci := 3) (st := []) C (k_X2_read l D cy zs am lab has quo spe nam gif fol siz cel giv nf lis lc see cnt thr hM (xs (i + 1)) (xs (i + 2)) (xs (i + 3)) (xs (i + 4))) gL_law_X2_read rfl ⟨rfl, ydX2_read⟩ 0 rfl rfl ⟨Nat.le_of_ble_eq_true rfl, Nat.le_of_ble_eq_true rfl⟩ ⟨hk, hn⟩ rfl (Nat.le_of_ble_eq_true rfl) dL_law_929 (fun r7 w7 h7 => ?_)
  have hs := sim_read (zs := zs) (ac := ac) (mdC := mdC) hRR (show PM_read cy am lab has quo spe nam gif fol siz cel giv nf lis lc see cnt (xs (i + 1)) (xs (i + 2)) (xs (i + 3)) (xs (i + 4)) r7 w7 from h7)
  rcases h8 with ⟨r1, w1, hp, hr8, hw8⟩ | ⟨w1, hp, hr8, hw8⟩
  · skip
    obtain ⟨⟨lab9, has9, quo9, spe9, nam9, gif9, fol9, siz9, cel9, giv9, nf9, lis9, lc9, see9, cnt9⟩, ⟨labC9, quoC9, speC9, mdC9, edC9, lisC9, lcC9, seeC9, cntC9, Fs9⟩, hR9, e1, e2, e3⟩ := hs.1 r1 w1 hp
    subst e3
    subst e1
    subst e2
    subst hr8
    subst hw8
    have hRR9 : RR lab9 has9 quo9 spe9 nam9 gif9 fol9 siz9 cel9 giv9 nf9 lis9 lc9 see9 cnt9 labC9 quoC9 speC9 edC9 lisC9 lcC9 seeC9 cntC9 Fs9 := hR9
    have hM9 : MI lab9 quo9 spe9 nam9 siz9 cnt9 lis9 nf9 lc9 := by obtain ⟨h9, -⟩ := id hRR9; exact h9
    refine g_weq (ws' := (wM cy am lab9 has9 quo9 spe9 nam9 gif9 fol9 siz9 cel9 giv9 nf9 lis9 lc9 see9 cnt9 0 ++ (wC cy ac (zs 0) labC9 quoC9 speC9 mdC9 edC9 lisC9 lcC9 seeC9 cntC9 Fs9 ++ [((o, .inl (cy 2, 1, .inr (.inl (vp_updL g 0 (r1).toInt64)))) : Nat × va_E)]))) rfl ?_
    refine g_istore (lv' := [(6, .int r1), (5, .int (nI 0)), (0, .ref b), (1, .ref (ac 0)), (2, .ref (am 0)), (3, .ref o), (4, .int (nI i))]) C dL_law_932 (by decide) rfl ?_
    refine g_aload_n C dL_law_934 rfl 4 rfl ?_
    refine g_FVi (ci := 3) (st := []) C (k_X2_thrown l D cy zs am lab9 has9 quo9 spe9 nam9 gif9 fol9 siz9 cel9 giv9 nf9 lis9 lc9 see9 cnt9 0 hM9) gL_law_X2_thrown rfl ⟨rfl, ydX2_thrown⟩ 0 rfl rfl ⟨Nat.le_of_ble_eq_true rfl, Nat.le_of_ble_eq_true rfl⟩ ⟨hk, hn⟩ rfl (Nat.le_of_ble_eq_true rfl) dL_law_935 (fun r6 w6 h6 => ?_)
    obtain ⟨h6a, h6b⟩ := h6
    subst h6a
    subst h6b
    refine g_perm (ws' := ((wC cy ac (zs 0) labC9 quoC9 speC9 mdC9 edC9 lisC9 lcC9 seeC9 cntC9 Fs9 ++ [((o, .inl (cy 2, 1, .inr (.inl (vp_updL g 0 (r1).toInt64)))) : Nat × va_E)]) ++ wM cy am lab9 has9 quo9 spe9 nam9 gif9 fol9 siz9 cel9 giv9 nf9 lis9 lc9 see9 cnt9 0)) (X := []) (perm_ab _ _) ?_
    refine g_iload C dL_law_938 1 rfl ?_
    refine g_icmp_eq (tgt := 945) C dL_law_940 (by decide) (fun c940 => ?_) (fun c940 => ?_)
    · skip
      have c940 := c_eq0 (by omega) (by omega) c940
      refine g_iload C dL_law_945 1 rfl ?_
      refine g_if_ne (tgt := 962) C dL_law_947 (by decide) (fun c947 => ?_) (fun c947 => ?_)
      · skip
        exact absurd c947 (by decide +kernel)
      · skip
        have c947 := cz_eq0 (by omega) c947
        refine g_aload_n C dL_law_950 rfl 5 rfl ?_
        refine g_iconst (v := nI 0) C dL_law_951 (by decide +kernel) ?_
        refine g_lald (nn := 1) (i := nI 0) (v := (r1).toInt64) C (wC cy ac (zs 0) labC9 quoC9 speC9 mdC9 edC9 lisC9 lcC9 seeC9 cntC9 Fs9).length (app_at (tl_at rfl)) (vp_in_nI (by omega) (by omega)) (by rw [nI_clamp (by omega)]; exact if_pos rfl) dL_law_952 ?_
        refine g_iload C dL_law_953 0 rfl ?_
        refine g_i2l (v := (r1).toInt64) C dL_law_955 rfl ?_
        refine g_lcmp (v := nI 0) C dL_law_956 (lg_self _) ?_
        refine g_if_eq (tgt := 962) C dL_law_957 (by decide) (fun c957 => ?_) (fun c957 => ?_)
        · skip
          have c957 := cz_eq0 (by omega) c957
          refine g_goto (tgt := 1433) C dL_law_962 (by decide) ?_
          exact g_sub (lv' := [(0, .ref b), (1, .ref (ac 0)), (2, .ref (am 0)), (3, .ref o), (4, .int (nI i))]) [2, 3, 4, 5, 6] rfl (next (lab9, has9, quo9, spe9, nam9, gif9, fol9, siz9, cel9, giv9, nf9, lis9, lc9, see9, cnt9) (labC9, quoC9, speC9, mdC9, edC9, lisC9, lcC9, seeC9, cntC9, Fs9) (vp_updL g 0 (r1).toInt64) 0 hR9)
        · skip
          exact absurd c957 (by decide +kernel)
    · skip
      exact absurd c940 (by decide +kernel)
  · skip
    obtain ⟨⟨lab9, has9, quo9, spe9, nam9, gif9, fol9, siz9, cel9, giv9, nf9, lis9, lc9, see9, cnt9⟩, ⟨labC9, quoC9, speC9, mdC9, edC9, lisC9, lcC9, seeC9, cntC9, Fs9⟩, k9, hR9, e1, e2, e3⟩ := hs.2 "java/lang/IllegalArgumentException" w1 hp
    have hk9 : k9 = 1 := by rcases e3 with e3 | e3; exact e3.2; exact absurd e3.1 (by decide)
    subst hk9
    subst e1
    subst e2
    subst hr8
    subst hw8
    have hRR9 : RR lab9 has9 quo9 spe9 nam9 gif9 fol9 siz9 cel9 giv9 nf9 lis9 lc9 see9 cnt9 labC9 quoC9 speC9 edC9 lisC9 lcC9 seeC9 cntC9 Fs9 := hR9
    have hM9 : MI lab9 quo9 spe9 nam9 siz9 cnt9 lis9 nf9 lc9 := by obtain ⟨h9, -⟩ := id hRR9; exact h9
    refine g_weq (ws' := (wM cy am lab9 has9 quo9 spe9 nam9 gif9 fol9 siz9 cel9 giv9 nf9 lis9 lc9 see9 cnt9 1 ++ (wC cy ac (zs 0) labC9 quoC9 speC9 mdC9 edC9 lisC9 lcC9 seeC9 cntC9 Fs9 ++ [((o, .inl (cy 2, 1, .inr (.inl g))) : Nat × va_E)]))) rfl ?_
    refine g_istore (lv' := [(6, .int r7), (5, .int (nI 1)), (0, .ref b), (1, .ref (ac 0)), (2, .ref (am 0)), (3, .ref o), (4, .int (nI i))]) C dL_law_932 (by decide) rfl ?_
    refine g_aload_n C dL_law_934 rfl 4 rfl ?_
    refine g_FVi (ci := 3) (st := []) C (k_X2_thrown l D cy zs am lab9 has9 quo9 spe9 nam9 gif9 fol9 siz9 cel9 giv9 nf9 lis9 lc9 see9 cnt9 1 hM9) gL_law_X2_thrown rfl ⟨rfl, ydX2_thrown⟩ 0 rfl rfl ⟨Nat.le_of_ble_eq_true rfl, Nat.le_of_ble_eq_true rfl⟩ ⟨hk, hn⟩ rfl (Nat.le_of_ble_eq_true rfl) dL_law_935 (fun r6 w6 h6 => ?_)
    obtain ⟨h6a, h6b⟩ := h6
    subst h6a
    subst h6b
    refine g_perm (ws' := ((wC cy ac (zs 0) labC9 quoC9 speC9 mdC9 edC9 lisC9 lcC9 seeC9 cntC9 Fs9 ++ [((o, .inl (cy 2, 1, .inr (.inl g))) : Nat × va_E)]) ++ wM cy am lab9 has9 quo9 spe9 nam9 gif9 fol9 siz9 cel9 giv9 nf9 lis9 lc9 see9 cnt9 1)) (X := []) (perm_ab _ _) ?_
    refine g_iload C dL_law_938 1 rfl ?_
    refine g_icmp_eq (tgt := 945) C dL_law_940 (by decide) (fun c940 => ?_) (fun c940 => ?_)
    · skip
      have c940 := c_eq0 (by omega) (by omega) c940
      refine g_iload C dL_law_945 1 rfl ?_
      refine g_if_ne (tgt := 962) C dL_law_947 (by decide) (fun c947 => ?_) (fun c947 => ?_)
      · skip
        have c947 := cz_eq1 (by omega) c947
        refine g_goto (tgt := 1433) C dL_law_962 (by decide) ?_
        exact g_sub (lv' := [(0, .ref b), (1, .ref (ac 0)), (2, .ref (am 0)), (3, .ref o), (4, .int (nI i))]) [2, 3, 4, 5, 6] rfl (next (lab9, has9, quo9, spe9, nam9, gif9, fol9, siz9, cel9, giv9, nf9, lis9, lc9, see9, cnt9) (labC9, quoC9, speC9, mdC9, edC9, lisC9, lcC9, seeC9, cntC9, Fs9) g 1 hR9)
      · skip
        exact absurd c947 (by decide +kernel)
    · skip
      exact absurd c940 (by decide +kernel)
set_option maxRecDepth 100000 in
set_option maxHeartbeats 4000000 in
theorem b_size {p : Program} {l : Launch} {e : Env} {s : State} {m : MethodId} {b : Nat} {below : List Frame} {meth : Method} {c : Code} {D : va_G} {cy : Nat → ClassId} {zs : Nat → Nat} {A : Nat → Prop} {Q : State → Prop} {k n L i : Nat} {xs : Nat → Int32} {rt : Option FieldType} (C : Cx p s m #[.ref b] meth c cL_law 7 RL wsL_law D cy zs A rt) (hst : l.stackTraces = false) (hX : va_X b L xs s s.heap) (hbl : b < s.heap.size) (hbA : ¬ A b) (hi : i + 5 ≤ L) (hL : L ≤ 2560) (am ac : Nat → Nat) (o : Nat) (g : Nat → Int64) (thr : Nat) {lab : Nat → Nat} {has : Nat → Bool} {quo spe nam : Nat → Nat} {gif : Nat → Bool} {fol : Nat → Int32} {siz : Nat → Nat} {cel : Nat → Int32} {giv : Nat → Bool} {nf : Nat} {lis : Nat → Nat} {lc : Nat} {see : Nat → Int32} {cnt : Nat → Nat} {labC : Nat → Option Nat} {quoC speC : Nat → Nat} {mdC : Int32} {edC : Option (Nat × Nat)} {lisC : Nat → Nat} {lcC : Nat} {seeC : Nat → Nat → Int32} {cntC : Nat → Nat} {Fs : List FT} (hRR : RR lab has quo spe nam gif fol siz cel giv nf lis lc see cnt labC quoC speC edC lisC lcC seeC cntC Fs) (hk : k + 12 ≤ room_1.cells) (hn : n + 500 ≤ room_1.slots) (next : ∀ (m9 : MS) (c9 : CS) (g9 : Nat → Int64) (thr9 : Nat), RT m9 c9 → GG p l e room_1 s m #[.ref b] below meth c D A 7 Q ((wCt cy ac (zs 0) c9 ++ [((o, .inl (cy 2, 1, .inr (.inl g9))) : Nat × va_E)]) ++ wMt cy am m9 thr9) (k + 12) (n + 500) [(0, .ref b), (1, .ref (ac 0)), (2, .ref (am 0)), (3, .ref o), (4, .int (nI i))] 1433 []) : GG p l e room_1 s m #[.ref b] below meth c D A 7 Q ((wC cy ac (zs 0) labC quoC speC mdC edC lisC lcC seeC cntC Fs ++ [((o, .inl (cy 2, 1, .inr (.inl g))) : Nat × va_E)]) ++ wM cy am lab has quo spe nam gif fol siz cel giv nf lis lc see cnt thr) k n [(0, .ref b), (1, .ref (ac 0)), (2, .ref (am 0)), (3, .ref o), (4, .int (nI i))] 965 [] := by
  obtain ⟨hM, hC, hl9, hqu, hsp, hfi, hls, he9⟩ := id hRR
  refine g_aload_n C dL_law_965 rfl 1 rfl ?_
  refine g_aload_n C dL_law_966 rfl 0 rfl ?_
  refine g_iload C dL_law_967 4 rfl ?_
  refine g_iconst (v := nI 1) C dL_law_969 (by decide +kernel) ?_
  refine g_iadd (v := nI (i + 1)) C dL_law_970 (nI_add _ _) ?_
  refine g_sld C hX hbl hbA (show i + 1 < L by omega) (by omega) dL_law_971 ?_
  refine g_aload_n C dL_law_972 rfl 0 rfl ?_
  refine g_iload C dL_law_973 4 rfl ?_
  refine g_iconst (v := nI 2) C dL_law_975 (by decide +kernel) ?_
  refine g_iadd (v := nI (i + 2)) C dL_law_976 (nI_add _ _) ?_
  refine g_sld C hX hbl hbA (show i + 2 < L by omega) (by omega) dL_law_977 ?_
  refine g_aload_n C dL_law_978 rfl 0 rfl ?_
  refine g_iload C dL_law_979 4 rfl ?_
  refine g_iconst (v := nI 3) C dL_law_981 (by decide +kernel) ?_
  refine g_iadd (v := nI (i + 3)) C dL_law_982 (nI_add _ _) ?_
  refine g_sld C hX hbl hbA (show i + 3 < L by omega) (by omega) dL_law_983 ?_
  refine g_aload_n C dL_law_984 rfl 3 rfl ?_
  refine g_FSi (st := []) C (k_L_size l D cy zs hst ac labC quoC speC mdC edC lisC lcC seeC cntC Fs hC o g (xs (i + 1)) (xs (i + 2)) (xs (i + 3))) gL_law_L_size rfl ydL_size ⟨Nat.le_of_ble_eq_true rfl, Nat.le_of_ble_eq_true rfl⟩ ⟨hk, hn⟩ rfl (Nat.le_of_ble_eq_true rfl) dL_law_985 (fun r8 w8 h8 => ?_)
  refine g_istore (lv' := [(5, .int r8), (0, .ref b), (1, .ref (ac 0)), (2, .ref (am 0)), (3, .ref o), (4, .int (nI i))]) C dL_law_988 (by decide) rfl ?_
  refine g_aload_n C dL_law_990 rfl 3 rfl ?_
  refine g_aload_n C dL_law_991 rfl 1 rfl ?_
  refine g_iload C dL_law_992 5 rfl ?_
  refine g_iconst (v := nI 1) C dL_law_994 (by decide +kernel) ?_
  refine g_iadd (v := nI (i + 1)) C dL_law_995 (nI_add _ _) ?_
  refine g_sld C hX hbl hbA (show i + 1 < L by omega) (by omega) dL_law_996 ?_
  refine g_aload_n C dL_law_997 rfl 1 rfl ?_
  refine g_iload C dL_law_998 5 rfl ?_
  refine g_iconst (v := nI 2) C dL_law_1000 (by decide +kernel) ?_
  refine g_iadd (v := nI (i + 2)) C dL_law_1001 (nI_add _ _) ?_
  refine g_sld C hX hbl hbA (show i + 2 < L by omega) (by omega) dL_law_1002 ?_
  refine g_aload_n C dL_law_1003 rfl 1 rfl ?_
  refine g_iload C dL_law_1004 5 rfl ?_
  refine g_iconst (v := nI 3) C dL_law_1006 (by decide +kernel) ?_
  refine g_iadd (v := nI (i + 3)) C dL_law_1007 (nI_add _ _) ?_
  refine g_sld C hX hbl hbA (show i + 3 < L by omega) (by omega) dL_law_1008 ?_
  refine g_perm (ws' := wM cy am lab has quo spe nam gif fol siz cel giv nf lis lc see cnt thr ++ w8) (X := []) (perm_ab _ _) ?_
  refine g_FVi (ci := 3) (st := []) C (k_X2_size l D cy zs am lab has quo spe nam gif fol siz cel giv nf lis lc see cnt thr hM (xs (i + 1)) (xs (i + 2)) (xs (i + 3))) gL_law_X2_size rfl ⟨rfl, ydX2_size⟩ 0 rfl rfl ⟨Nat.le_of_ble_eq_true rfl, Nat.le_of_ble_eq_true rfl⟩ ⟨hk, hn⟩ rfl (Nat.le_of_ble_eq_true rfl) dL_law_1009 (fun r7 w7 h7 => ?_)
  have hs := sim_size (zs := zs) (ac := ac) (mdC := mdC) hRR (show PM_size cy am lab has quo spe nam gif fol siz cel giv nf lis lc see cnt (xs (i + 1)) (xs (i + 2)) (xs (i + 3)) r7 w7 from h7)
  rcases h8 with ⟨r1, w1, hp, hr8, hw8⟩ | ⟨w1, hp, hr8, hw8⟩
  · skip
    obtain ⟨⟨lab9, has9, quo9, spe9, nam9, gif9, fol9, siz9, cel9, giv9, nf9, lis9, lc9, see9, cnt9⟩, ⟨labC9, quoC9, speC9, mdC9, edC9, lisC9, lcC9, seeC9, cntC9, Fs9⟩, hR9, e1, e2, e3⟩ := hs.1 r1 w1 hp
    subst e3
    subst e1
    subst e2
    subst hr8
    subst hw8
    have hRR9 : RR lab9 has9 quo9 spe9 nam9 gif9 fol9 siz9 cel9 giv9 nf9 lis9 lc9 see9 cnt9 labC9 quoC9 speC9 edC9 lisC9 lcC9 seeC9 cntC9 Fs9 := hR9
    have hM9 : MI lab9 quo9 spe9 nam9 siz9 cnt9 lis9 nf9 lc9 := by obtain ⟨h9, -⟩ := id hRR9; exact h9
    refine g_weq (ws' := (wM cy am lab9 has9 quo9 spe9 nam9 gif9 fol9 siz9 cel9 giv9 nf9 lis9 lc9 see9 cnt9 0 ++ (wC cy ac (zs 0) labC9 quoC9 speC9 mdC9 edC9 lisC9 lcC9 seeC9 cntC9 Fs9 ++ [((o, .inl (cy 2, 1, .inr (.inl (vp_updL g 0 (r1).toInt64)))) : Nat × va_E)]))) rfl ?_
    refine g_istore (lv' := [(6, .int r1), (5, .int (nI 0)), (0, .ref b), (1, .ref (ac 0)), (2, .ref (am 0)), (3, .ref o), (4, .int (nI i))]) C dL_law_1012 (by decide) rfl ?_
    refine g_aload_n C dL_law_1014 rfl 4 rfl ?_
    refine g_FVi (ci := 3) (st := []) C (k_X2_thrown l D cy zs am lab9 has9 quo9 spe9 nam9 gif9 fol9 siz9 cel9 giv9 nf9 lis9 lc9 see9 cnt9 0 hM9) gL_law_X2_thrown rfl ⟨rfl, ydX2_thrown⟩ 0 rfl rfl ⟨Nat.le_of_ble_eq_true rfl, Nat.le_of_ble_eq_true rfl⟩ ⟨hk, hn⟩ rfl (Nat.le_of_ble_eq_true rfl) dL_law_1015 (fun r6 w6 h6 => ?_)
    obtain ⟨h6a, h6b⟩ := h6
    subst h6a
    subst h6b
    refine g_perm (ws' := ((wC cy ac (zs 0) labC9 quoC9 speC9 mdC9 edC9 lisC9 lcC9 seeC9 cntC9 Fs9 ++ [((o, .inl (cy 2, 1, .inr (.inl (vp_updL g 0 (r1).toInt64)))) : Nat × va_E)]) ++ wM cy am lab9 has9 quo9 spe9 nam9 gif9 fol9 siz9 cel9 giv9 nf9 lis9 lc9 see9 cnt9 0)) (X := []) (perm_ab _ _) ?_
    refine g_iload C dL_law_1018 1 rfl ?_
    refine g_icmp_eq (tgt := 1025) C dL_law_1020 (by decide) (fun c1020 => ?_) (fun c1020 => ?_)
    · skip
      have c1020 := c_eq0 (by omega) (by omega) c1020
      refine g_iload C dL_law_1025 1 rfl ?_
      refine g_if_ne (tgt := 1042) C dL_law_1027 (by decide) (fun c1027 => ?_) (fun c1027 => ?_)
      · skip
        exact absurd c1027 (by decide +kernel)
      · skip
        have c1027 := cz_eq0 (by omega) c1027
        refine g_aload_n C dL_law_1030 rfl 5 rfl ?_
        refine g_iconst (v := nI 0) C dL_law_1031 (by decide +kernel) ?_
        refine g_lald (nn := 1) (i := nI 0) (v := (r1).toInt64) C (wC cy ac (zs 0) labC9 quoC9 speC9 mdC9 edC9 lisC9 lcC9 seeC9 cntC9 Fs9).length (app_at (tl_at rfl)) (vp_in_nI (by omega) (by omega)) (by rw [nI_clamp (by omega)]; exact if_pos rfl) dL_law_1032 ?_
        refine g_iload C dL_law_1033 0 rfl ?_
        refine g_i2l (v := (r1).toInt64) C dL_law_1035 rfl ?_
        refine g_lcmp (v := nI 0) C dL_law_1036 (lg_self _) ?_
        refine g_if_eq (tgt := 1042) C dL_law_1037 (by decide) (fun c1037 => ?_) (fun c1037 => ?_)
        · skip
          have c1037 := cz_eq0 (by omega) c1037
          refine g_goto (tgt := 1433) C dL_law_1042 (by decide) ?_
          exact g_sub (lv' := [(0, .ref b), (1, .ref (ac 0)), (2, .ref (am 0)), (3, .ref o), (4, .int (nI i))]) [2, 3, 4, 5, 6] rfl (next (lab9, has9, quo9, spe9, nam9, gif9, fol9, siz9, cel9, giv9, nf9, lis9, lc9, see9, cnt9) (labC9, quoC9, speC9, mdC9, edC9, lisC9, lcC9, seeC9, cntC9, Fs9) (vp_updL g 0 (r1).toInt64) 0 hR9)
        · skip
          exact absurd c1037 (by decide +kernel)
    · skip
      exact absurd c1020 (by decide +kernel)
  · skip
    obtain ⟨⟨lab9, has9, quo9, spe9, nam9, gif9, fol9, siz9, cel9, giv9, nf9, lis9, lc9, see9, cnt9⟩, ⟨labC9, quoC9, speC9, mdC9, edC9, lisC9, lcC9, seeC9, cntC9, Fs9⟩, k9, hR9, e1, e2, e3⟩ := hs.2 "java/lang/IllegalArgumentException" w1 hp
    have hk9 : k9 = 1 := by rcases e3 with e3 | e3; exact e3.2; exact absurd e3.1 (by decide)
    subst hk9
    subst e1
    subst e2
    subst hr8
    subst hw8
    have hRR9 : RR lab9 has9 quo9 spe9 nam9 gif9 fol9 siz9 cel9 giv9 nf9 lis9 lc9 see9 cnt9 labC9 quoC9 speC9 edC9 lisC9 lcC9 seeC9 cntC9 Fs9 := hR9
    have hM9 : MI lab9 quo9 spe9 nam9 siz9 cnt9 lis9 nf9 lc9 := by obtain ⟨h9, -⟩ := id hRR9; exact h9
    refine g_weq (ws' := (wM cy am lab9 has9 quo9 spe9 nam9 gif9 fol9 siz9 cel9 giv9 nf9 lis9 lc9 see9 cnt9 1 ++ (wC cy ac (zs 0) labC9 quoC9 speC9 mdC9 edC9 lisC9 lcC9 seeC9 cntC9 Fs9 ++ [((o, .inl (cy 2, 1, .inr (.inl g))) : Nat × va_E)]))) rfl ?_
    refine g_istore (lv' := [(6, .int r7), (5, .int (nI 1)), (0, .ref b), (1, .ref (ac 0)), (2, .ref (am 0)), (3, .ref o), (4, .int (nI i))]) C dL_law_1012 (by decide) rfl ?_
    refine g_aload_n C dL_law_1014 rfl 4 rfl ?_
    refine g_FVi (ci := 3) (st := []) C (k_X2_thrown l D cy zs am lab9 has9 quo9 spe9 nam9 gif9 fol9 siz9 cel9 giv9 nf9 lis9 lc9 see9 cnt9 1 hM9) gL_law_X2_thrown rfl ⟨rfl, ydX2_thrown⟩ 0 rfl rfl ⟨Nat.le_of_ble_eq_true rfl, Nat.le_of_ble_eq_true rfl⟩ ⟨hk, hn⟩ rfl (Nat.le_of_ble_eq_true rfl) dL_law_1015 (fun r6 w6 h6 => ?_)
    obtain ⟨h6a, h6b⟩ := h6
    subst h6a
    subst h6b
    refine g_perm (ws' := ((wC cy ac (zs 0) labC9 quoC9 speC9 mdC9 edC9 lisC9 lcC9 seeC9 cntC9 Fs9 ++ [((o, .inl (cy 2, 1, .inr (.inl g))) : Nat × va_E)]) ++ wM cy am lab9 has9 quo9 spe9 nam9 gif9 fol9 siz9 cel9 giv9 nf9 lis9 lc9 see9 cnt9 1)) (X := []) (perm_ab _ _) ?_
    refine g_iload C dL_law_1018 1 rfl ?_
    refine g_icmp_eq (tgt := 1025) C dL_law_1020 (by decide) (fun c1020 => ?_) (fun c1020 => ?_)
    · skip
      have c1020 := c_eq0 (by omega) (by omega) c1020
      refine g_iload C dL_law_1025 1 rfl ?_
      refine g_if_ne (tgt := 1042) C dL_law_1027 (by decide) (fun c1027 => ?_) (fun c1027 => ?_)
      · skip
        have c1027 := cz_eq1 (by omega) c1027
        refine g_goto (tgt := 1433) C dL_law_1042 (by decide) ?_
        exact g_sub (lv' := [(0, .ref b), (1, .ref (ac 0)), (2, .ref (am 0)), (3, .ref o), (4, .int (nI i))]) [2, 3, 4, 5, 6] rfl (next (lab9, has9, quo9, spe9, nam9, gif9, fol9, siz9, cel9, giv9, nf9, lis9, lc9, see9, cnt9) (labC9, quoC9, speC9, mdC9, edC9, lisC9, lcC9, seeC9, cntC9, Fs9) g 1 hR9)
      · skip
        exact absurd c1027 (by decide +kernel)
    · skip
      exact absurd c1020 (by decide +kernel)
set_option maxRecDepth 100000 in
set_option maxHeartbeats 4000000 in
theorem b_there {p : Program} {l : Launch} {e : Env} {s : State} {m : MethodId} {b : Nat} {below : List Frame} {meth : Method} {c : Code} {D : va_G} {cy : Nat → ClassId} {zs : Nat → Nat} {A : Nat → Prop} {Q : State → Prop} {k n L i : Nat} {xs : Nat → Int32} {rt : Option FieldType} (C : Cx p s m #[.ref b] meth c cL_law 7 RL wsL_law D cy zs A rt) (hst : l.stackTraces = false) (hX : va_X b L xs s s.heap) (hbl : b < s.heap.size) (hbA : ¬ A b) (hi : i + 5 ≤ L) (hL : L ≤ 2560) (am ac : Nat → Nat) (o : Nat) (g : Nat → Int64) (thr : Nat) {lab : Nat → Nat} {has : Nat → Bool} {quo spe nam : Nat → Nat} {gif : Nat → Bool} {fol : Nat → Int32} {siz : Nat → Nat} {cel : Nat → Int32} {giv : Nat → Bool} {nf : Nat} {lis : Nat → Nat} {lc : Nat} {see : Nat → Int32} {cnt : Nat → Nat} {labC : Nat → Option Nat} {quoC speC : Nat → Nat} {mdC : Int32} {edC : Option (Nat × Nat)} {lisC : Nat → Nat} {lcC : Nat} {seeC : Nat → Nat → Int32} {cntC : Nat → Nat} {Fs : List FT} (hRR : RR lab has quo spe nam gif fol siz cel giv nf lis lc see cnt labC quoC speC edC lisC lcC seeC cntC Fs) (hk : k + 12 ≤ room_1.cells) (hn : n + 500 ≤ room_1.slots) (next : ∀ (m9 : MS) (c9 : CS) (g9 : Nat → Int64) (thr9 : Nat), RT m9 c9 → GG p l e room_1 s m #[.ref b] below meth c D A 7 Q ((wCt cy ac (zs 0) c9 ++ [((o, .inl (cy 2, 1, .inr (.inl g9))) : Nat × va_E)]) ++ wMt cy am m9 thr9) (k + 12) (n + 500) [(0, .ref b), (1, .ref (ac 0)), (2, .ref (am 0)), (3, .ref o), (4, .int (nI i))] 1433 []) : GG p l e room_1 s m #[.ref b] below meth c D A 7 Q ((wC cy ac (zs 0) labC quoC speC mdC edC lisC lcC seeC cntC Fs ++ [((o, .inl (cy 2, 1, .inr (.inl g))) : Nat × va_E)]) ++ wM cy am lab has quo spe nam gif fol siz cel giv nf lis lc see cnt thr) k n [(0, .ref b), (1, .ref (ac 0)), (2, .ref (am 0)), (3, .ref o), (4, .int (nI i))] 1045 [] := by
  obtain ⟨hM, hC, hl9, hqu, hsp, hfi, hls, he9⟩ := id hRR
  refine g_aload_n C dL_law_1045 rfl 1 rfl ?_
  refine g_aload_n C dL_law_1046 rfl 0 rfl ?_
  refine g_iload C dL_law_1047 4 rfl ?_
  refine g_iconst (v := nI 1) C dL_law_1049 (by decide +kernel) ?_
  refine g_iadd (v := nI (i + 1)) C dL_law_1050 (nI_add _ _) ?_
  refine g_sld C hX hbl hbA (show i + 1 < L by omega) (by omega) dL_law_1051 ?_
  refine g_aload_n C dL_law_1052 rfl 0 rfl ?_
  refine g_iload C dL_law_1053 4 rfl ?_
  refine g_iconst (v := nI 2) C dL_law_1055 (by decide +kernel) ?_
  refine g_iadd (v := nI (i + 2)) C dL_law_1056 (nI_add _ _) ?_
  refine g_sld C hX hbl hbA (show i + 2 < L by omega) (by omega) dL_law_1057 ?_
  refine g_aload_n C dL_law_1058 rfl 0 rfl ?_
  refine g_iload C dL_law_1059 4 rfl ?_
  refine g_iconst (v := nI 3) C dL_law_1061 (by decide +kernel) ?_
  refine g_iadd (v := nI (i + 3)) C dL_law_1062 (nI_add _ _) ?_
  refine g_sld C hX hbl hbA (show i + 3 < L by omega) (by omega) dL_law_1063 ?_
  refine g_aload_n C dL_law_1064 rfl 3 rfl ?_
  refine g_FSi (st := []) C (k_L_there l D cy zs hst ac labC quoC speC mdC edC lisC lcC seeC cntC Fs hC o g (xs (i + 1)) (xs (i + 2)) (xs (i + 3))) gL_law_L_there rfl ydL_there ⟨Nat.le_of_ble_eq_true rfl, Nat.le_of_ble_eq_true rfl⟩ ⟨hk, hn⟩ rfl (Nat.le_of_ble_eq_true rfl) dL_law_1065 (fun r8 w8 h8 => ?_)
  refine g_istore (lv' := [(5, .int r8), (0, .ref b), (1, .ref (ac 0)), (2, .ref (am 0)), (3, .ref o), (4, .int (nI i))]) C dL_law_1068 (by decide) rfl ?_
  refine g_aload_n C dL_law_1070 rfl 3 rfl ?_
  refine g_aload_n C dL_law_1071 rfl 1 rfl ?_
  refine g_iload C dL_law_1072 5 rfl ?_
  refine g_iconst (v := nI 1) C dL_law_1074 (by decide +kernel) ?_
  refine g_iadd (v := nI (i + 1)) C dL_law_1075 (nI_add _ _) ?_
  refine g_sld C hX hbl hbA (show i + 1 < L by omega) (by omega) dL_law_1076 ?_
  refine g_aload_n C dL_law_1077 rfl 1 rfl ?_
  refine g_iload C dL_law_1078 5 rfl ?_
  refine g_iconst (v := nI 2) C dL_law_1080 (by decide +kernel) ?_
  refine g_iadd (v := nI (i + 2)) C dL_law_1081 (nI_add _ _) ?_
  refine g_sld C hX hbl hbA (show i + 2 < L by omega) (by omega) dL_law_1082 ?_
  refine g_aload_n C dL_law_1083 rfl 1 rfl ?_
  refine g_iload C dL_law_1084 5 rfl ?_
  refine g_iconst (v := nI 3) C dL_law_1086 (by decide +kernel) ?_
  refine g_iadd (v := nI (i + 3)) C dL_law_1087 (nI_add _ _) ?_
  refine g_sld C hX hbl hbA (show i + 3 < L by omega) (by omega) dL_law_1088 ?_
  refine g_perm (ws' := wM cy am lab has quo spe nam gif fol siz cel giv nf lis lc see cnt thr ++ w8) (X := []) (perm_ab _ _) ?_
  refine g_FVi (ci := 3) (st := []) C (k_X2_there l D cy zs am lab has quo spe nam gif fol siz cel giv nf lis lc see cnt thr hM (xs (i + 1)) (xs (i + 2)) (xs (i + 3))) gL_law_X2_there rfl ⟨rfl, ydX2_there⟩ 0 rfl rfl ⟨Nat.le_of_ble_eq_true rfl, Nat.le_of_ble_eq_true rfl⟩ ⟨hk, hn⟩ rfl (Nat.le_of_ble_eq_true rfl) dL_law_1089 (fun r7 w7 h7 => ?_)
  have hs := sim_there (zs := zs) (ac := ac) (mdC := mdC) hRR (show PM_there cy am lab has quo spe nam gif fol siz cel giv nf lis lc see cnt (xs (i + 1)) (xs (i + 2)) (xs (i + 3)) r7 w7 from h7)
  rcases h8 with ⟨r1, w1, hp, hr8, hw8⟩ | ⟨w1, hp, hr8, hw8⟩
  · skip
    obtain ⟨⟨lab9, has9, quo9, spe9, nam9, gif9, fol9, siz9, cel9, giv9, nf9, lis9, lc9, see9, cnt9⟩, ⟨labC9, quoC9, speC9, mdC9, edC9, lisC9, lcC9, seeC9, cntC9, Fs9⟩, hR9, e1, e2, e3⟩ := hs.1 r1 w1 hp
    subst e3
    subst e1
    subst e2
    subst hr8
    subst hw8
    have hRR9 : RR lab9 has9 quo9 spe9 nam9 gif9 fol9 siz9 cel9 giv9 nf9 lis9 lc9 see9 cnt9 labC9 quoC9 speC9 edC9 lisC9 lcC9 seeC9 cntC9 Fs9 := hR9
    have hM9 : MI lab9 quo9 spe9 nam9 siz9 cnt9 lis9 nf9 lc9 := by obtain ⟨h9, -⟩ := id hRR9; exact h9
    refine g_weq (ws' := (wM cy am lab9 has9 quo9 spe9 nam9 gif9 fol9 siz9 cel9 giv9 nf9 lis9 lc9 see9 cnt9 0 ++ (wC cy ac (zs 0) labC9 quoC9 speC9 mdC9 edC9 lisC9 lcC9 seeC9 cntC9 Fs9 ++ [((o, .inl (cy 2, 1, .inr (.inl (vp_updL g 0 (r1).toInt64)))) : Nat × va_E)]))) rfl ?_
    refine g_istore (lv' := [(6, .int r1), (5, .int (nI 0)), (0, .ref b), (1, .ref (ac 0)), (2, .ref (am 0)), (3, .ref o), (4, .int (nI i))]) C dL_law_1092 (by decide) rfl ?_
    refine g_aload_n C dL_law_1094 rfl 4 rfl ?_
    refine g_FVi (ci := 3) (st := []) C (k_X2_thrown l D cy zs am lab9 has9 quo9 spe9 nam9 gif9 fol9 siz9 cel9 giv9 nf9 lis9 lc9 see9 cnt9 0 hM9) gL_law_X2_thrown rfl ⟨rfl, ydX2_thrown⟩ 0 rfl rfl ⟨Nat.le_of_ble_eq_true rfl, Nat.le_of_ble_eq_true rfl⟩ ⟨hk, hn⟩ rfl (Nat.le_of_ble_eq_true rfl) dL_law_1095 (fun r6 w6 h6 => ?_)
    obtain ⟨h6a, h6b⟩ := h6
    subst h6a
    subst h6b
    refine g_perm (ws' := ((wC cy ac (zs 0) labC9 quoC9 speC9 mdC9 edC9 lisC9 lcC9 seeC9 cntC9 Fs9 ++ [((o, .inl (cy 2, 1, .inr (.inl (vp_updL g 0 (r1).toInt64)))) : Nat × va_E)]) ++ wM cy am lab9 has9 quo9 spe9 nam9 gif9 fol9 siz9 cel9 giv9 nf9 lis9 lc9 see9 cnt9 0)) (X := []) (perm_ab _ _) ?_
    refine g_iload C dL_law_1098 1 rfl ?_
    refine g_icmp_eq (tgt := 1105) C dL_law_1100 (by decide) (fun c1100 => ?_) (fun c1100 => ?_)
    · skip
      have c1100 := c_eq0 (by omega) (by omega) c1100
      refine g_iload C dL_law_1105 1 rfl ?_
      refine g_if_ne (tgt := 1122) C dL_law_1107 (by decide) (fun c1107 => ?_) (fun c1107 => ?_)
      · skip
        exact absurd c1107 (by decide +kernel)
      · skip
        have c1107 := cz_eq0 (by omega) c1107
        refine g_aload_n C dL_law_1110 rfl 5 rfl ?_
        refine g_iconst (v := nI 0) C dL_law_1111 (by decide +kernel) ?_
        refine g_lald (nn := 1) (i := nI 0) (v := (r1).toInt64) C (wC cy ac (zs 0) labC9 quoC9 speC9 mdC9 edC9 lisC9 lcC9 seeC9 cntC9 Fs9).length (app_at (tl_at rfl)) (vp_in_nI (by omega) (by omega)) (by rw [nI_clamp (by omega)]; exact if_pos rfl) dL_law_1112 ?_
        refine g_iload C dL_law_1113 0 rfl ?_
        refine g_i2l (v := (r1).toInt64) C dL_law_1115 rfl ?_
        refine g_lcmp (v := nI 0) C dL_law_1116 (lg_self _) ?_
        refine g_if_eq (tgt := 1122) C dL_law_1117 (by decide) (fun c1117 => ?_) (fun c1117 => ?_)
        · skip
          have c1117 := cz_eq0 (by omega) c1117
          refine g_goto (tgt := 1433) C dL_law_1122 (by decide) ?_
          exact g_sub (lv' := [(0, .ref b), (1, .ref (ac 0)), (2, .ref (am 0)), (3, .ref o), (4, .int (nI i))]) [2, 3, 4, 5, 6] rfl (next (lab9, has9, quo9, spe9, nam9, gif9, fol9, siz9, cel9, giv9, nf9, lis9, lc9, see9, cnt9) (labC9, quoC9, speC9, mdC9, edC9, lisC9, lcC9, seeC9, cntC9, Fs9) (vp_updL g 0 (r1).toInt64) 0 hR9)
        · skip
          exact absurd c1117 (by decide +kernel)
    · skip
      exact absurd c1100 (by decide +kernel)
  · skip
    obtain ⟨⟨lab9, has9, quo9, spe9, nam9, gif9, fol9, siz9, cel9, giv9, nf9, lis9, lc9, see9, cnt9⟩, ⟨labC9, quoC9, speC9, mdC9, edC9, lisC9, lcC9, seeC9, cntC9, Fs9⟩, k9, hR9, e1, e2, e3⟩ := hs.2 "java/lang/IllegalArgumentException" w1 hp
    have hk9 : k9 = 1 := by rcases e3 with e3 | e3; exact e3.2; exact absurd e3.1 (by decide)
    subst hk9
    subst e1
    subst e2
    subst hr8
    subst hw8
    have hRR9 : RR lab9 has9 quo9 spe9 nam9 gif9 fol9 siz9 cel9 giv9 nf9 lis9 lc9 see9 cnt9 labC9 quoC9 speC9 edC9 lisC9 lcC9 seeC9 cntC9 Fs9 := hR9
    have hM9 : MI lab9 quo9 spe9 nam9 siz9 cnt9 lis9 nf9 lc9 := by obtain ⟨h9, -⟩ := id hRR9; exact h9
    refine g_weq (ws' := (wM cy am lab9 has9 quo9 spe9 nam9 gif9 fol9 siz9 cel9 giv9 nf9 lis9 lc9 see9 cnt9 1 ++ (wC cy ac (zs 0) labC9 quoC9 speC9 mdC9 edC9 lisC9 lcC9 seeC9 cntC9 Fs9 ++ [((o, .inl (cy 2, 1, .inr (.inl g))) : Nat × va_E)]))) rfl ?_
    refine g_istore (lv' := [(6, .int r7), (5, .int (nI 1)), (0, .ref b), (1, .ref (ac 0)), (2, .ref (am 0)), (3, .ref o), (4, .int (nI i))]) C dL_law_1092 (by decide) rfl ?_
    refine g_aload_n C dL_law_1094 rfl 4 rfl ?_
    refine g_FVi (ci := 3) (st := []) C (k_X2_thrown l D cy zs am lab9 has9 quo9 spe9 nam9 gif9 fol9 siz9 cel9 giv9 nf9 lis9 lc9 see9 cnt9 1 hM9) gL_law_X2_thrown rfl ⟨rfl, ydX2_thrown⟩ 0 rfl rfl ⟨Nat.le_of_ble_eq_true rfl, Nat.le_of_ble_eq_true rfl⟩ ⟨hk, hn⟩ rfl (Nat.le_of_ble_eq_true rfl) dL_law_1095 (fun r6 w6 h6 => ?_)
    obtain ⟨h6a, h6b⟩ := h6
    subst h6a
    subst h6b
    refine g_perm (ws' := ((wC cy ac (zs 0) labC9 quoC9 speC9 mdC9 edC9 lisC9 lcC9 seeC9 cntC9 Fs9 ++ [((o, .inl (cy 2, 1, .inr (.inl g))) : Nat × va_E)]) ++ wM cy am lab9 has9 quo9 spe9 nam9 gif9 fol9 siz9 cel9 giv9 nf9 lis9 lc9 see9 cnt9 1)) (X := []) (perm_ab _ _) ?_
    refine g_iload C dL_law_1098 1 rfl ?_
    refine g_icmp_eq (tgt := 1105) C dL_law_1100 (by decide) (fun c1100 => ?_) (fun c1100 => ?_)
    · skip
      have c1100 := c_eq0 (by omega) (by omega) c1100
      refine g_iload C dL_law_1105 1 rfl ?_
      refine g_if_ne (tgt := 1122) C dL_law_1107 (by decide) (fun c1107 => ?_) (fun c1107 => ?_)
      · skip
        have c1107 := cz_eq1 (by omega) c1107
        refine g_goto (tgt := 1433) C dL_law_1122 (by decide) ?_
        exact g_sub (lv' := [(0, .ref b), (1, .ref (ac 0)), (2, .ref (am 0)), (3, .ref o), (4, .int (nI i))]) [2, 3, 4, 5, 6] rfl (next (lab9, has9, quo9, spe9, nam9, gif9, fol9, siz9, cel9, giv9, nf9, lis9, lc9, see9, cnt9) (labC9, quoC9, speC9, mdC9, edC9, lisC9, lcC9, seeC9, cntC9, Fs9) g 1 hR9)
      · skip
        exact absurd c1107 (by decide +kernel)
    · skip
      exact absurd c1100 (by decide +kernel)
set_option maxRecDepth 100000 in
set_option maxHeartbeats 4000000 in
theorem b_listed {p : Program} {l : Launch} {e : Env} {s : State} {m : MethodId} {b : Nat} {below : List Frame} {meth : Method} {c : Code} {D : va_G} {cy : Nat → ClassId} {zs : Nat → Nat} {A : Nat → Prop} {Q : State → Prop} {k n L i : Nat} {xs : Nat → Int32} {rt : Option FieldType} (C : Cx p s m #[.ref b] meth c cL_law 7 RL wsL_law D cy zs A rt) (hst : l.stackTraces = false) (hX : va_X b L xs s s.heap) (hbl : b < s.heap.size) (hbA : ¬ A b) (hi : i + 5 ≤ L) (hL : L ≤ 2560) (am ac : Nat → Nat) (o : Nat) (g : Nat → Int64) (thr : Nat) {lab : Nat → Nat} {has : Nat → Bool} {quo spe nam : Nat → Nat} {gif : Nat → Bool} {fol : Nat → Int32} {siz : Nat → Nat} {cel : Nat → Int32} {giv : Nat → Bool} {nf : Nat} {lis : Nat → Nat} {lc : Nat} {see : Nat → Int32} {cnt : Nat → Nat} {labC : Nat → Option Nat} {quoC speC : Nat → Nat} {mdC : Int32} {edC : Option (Nat × Nat)} {lisC : Nat → Nat} {lcC : Nat} {seeC : Nat → Nat → Int32} {cntC : Nat → Nat} {Fs : List FT} (hRR : RR lab has quo spe nam gif fol siz cel giv nf lis lc see cnt labC quoC speC edC lisC lcC seeC cntC Fs) (hk : k + 12 ≤ room_1.cells) (hn : n + 500 ≤ room_1.slots) (next : ∀ (m9 : MS) (c9 : CS) (g9 : Nat → Int64) (thr9 : Nat), RT m9 c9 → GG p l e room_1 s m #[.ref b] below meth c D A 7 Q ((wCt cy ac (zs 0) c9 ++ [((o, .inl (cy 2, 1, .inr (.inl g9))) : Nat × va_E)]) ++ wMt cy am m9 thr9) (k + 12) (n + 500) [(0, .ref b), (1, .ref (ac 0)), (2, .ref (am 0)), (3, .ref o), (4, .int (nI i))] 1433 []) : GG p l e room_1 s m #[.ref b] below meth c D A 7 Q ((wC cy ac (zs 0) labC quoC speC mdC edC lisC lcC seeC cntC Fs ++ [((o, .inl (cy 2, 1, .inr (.inl g))) : Nat × va_E)]) ++ wM cy am lab has quo spe nam gif fol siz cel giv nf lis lc see cnt thr) k n [(0, .ref b), (1, .ref (ac 0)), (2, .ref (am 0)), (3, .ref o), (4, .int (nI i))] 1125 [] := by
  obtain ⟨hM, hC, hl9, hqu, hsp, hfi, hls, he9⟩ := id hRR
  refine g_aload_n C dL_law_1125 rfl 1 rfl ?_
  refine g_aload_n C dL_law_1126 rfl 0 rfl ?_
  refine g_iload C dL_law_1127 4 rfl ?_
  refine g_iconst (v := nI 1) C dL_law_1129 (by decide +kernel) ?_
  refine g_iadd (v := nI (i + 1)) C dL_law_1130 (nI_add _ _) ?_
  refine g_sld C hX hbl hbA (show i + 1 < L by omega) (by omega) dL_law_1131 ?_
  refine g_aload_n C dL_law_1132 rfl 0 rfl ?_
  refine g_iload C dL_law_1133 4 rfl ?_
  refine g_iconst (v := nI 2) C dL_law_1135 (by decide +kernel) ?_
  refine g_iadd (v := nI (i + 2)) C dL_law_1136 (nI_add _ _) ?_
  refine g_sld C hX hbl hbA (show i + 2 < L by omega) (by omega) dL_law_1137 ?_
  refine g_aload_n C dL_law_1138 rfl 0 rfl ?_
  refine g_iload C dL_law_1139 4 rfl ?_
  refine g_iconst (v := nI 3) C dL_law_1141 (by decide +kernel) ?_
  refine g_iadd (v := nI (i + 3)) C dL_law_1142 (nI_add _ _) ?_
  refine g_sld C hX hbl hbA (show i + 3 < L by omega) (by omega) dL_law_1143 ?_
  refine g_aload_n C dL_law_1144 rfl 3 rfl ?_
  refine g_FSi (st := []) C (k_L_listed l D cy zs hst ac labC quoC speC mdC edC lisC lcC seeC cntC Fs hC o g (xs (i + 1)) (xs (i + 2)) (xs (i + 3))) gL_law_L_listed rfl ydL_listed ⟨Nat.le_of_ble_eq_true rfl, Nat.le_of_ble_eq_true rfl⟩ ⟨hk, hn⟩ rfl (Nat.le_of_ble_eq_true rfl) dL_law_1145 (fun r8 w8 h8 => ?_)
  refine g_istore (lv' := [(5, .int r8), (0, .ref b), (1, .ref (ac 0)), (2, .ref (am 0)), (3, .ref o), (4, .int (nI i))]) C dL_law_1148 (by decide) rfl ?_
  refine g_aload_n C dL_law_1150 rfl 3 rfl ?_
  refine g_aload_n C dL_law_1151 rfl 1 rfl ?_
  refine g_iload C dL_law_1152 5 rfl ?_
  refine g_iconst (v := nI 1) C dL_law_1154 (by decide +kernel) ?_
  refine g_iadd (v := nI (i + 1)) C dL_law_1155 (nI_add _ _) ?_
  refine g_sld C hX hbl hbA (show i + 1 < L by omega) (by omega) dL_law_1156 ?_
  refine g_aload_n C dL_law_1157 rfl 1 rfl ?_
  refine g_iload C dL_law_1158 5 rfl ?_
  refine g_iconst (v := nI 2) C dL_law_1160 (by decide +kernel) ?_
  refine g_iadd (v := nI (i + 2)) C dL_law_1161 (nI_add _ _) ?_
  refine g_sld C hX hbl hbA (show i + 2 < L by omega) (by omega) dL_law_1162 ?_
  refine g_aload_n C dL_law_1163 rfl 1 rfl ?_
  refine g_iload C dL_law_1164 5 rfl ?_
  refine g_iconst (v := nI 3) C dL_law_1166 (by decide +kernel) ?_
  refine g_iadd (v := nI (i + 3)) C dL_law_1167 (nI_add _ _) ?_
  refine g_sld C hX hbl hbA (show i + 3 < L by omega) (by omega) dL_law_1168 ?_
  refine g_perm (ws' := wM cy am lab has quo spe nam gif fol siz cel giv nf lis lc see cnt thr ++ w8) (X := []) (perm_ab _ _) ?_
  refine g_FVi (ci := 3) (st := []) C (k_X2_listed l D cy zs am lab has quo spe nam gif fol siz cel giv nf lis lc see cnt thr hM (xs (i + 1)) (xs (i + 2)) (xs (i + 3))) gL_law_X2_listed rfl ⟨rfl, ydX2_listed⟩ 0 rfl rfl ⟨Nat.le_of_ble_eq_true rfl, Nat.le_of_ble_eq_true rfl⟩ ⟨hk, hn⟩ rfl (Nat.le_of_ble_eq_true rfl) dL_law_1169 (fun r7 w7 h7 => ?_)
  have hs := sim_listed (zs := zs) (ac := ac) (mdC := mdC) hRR (show PM_listed cy am lab has quo spe nam gif fol siz cel giv nf lis lc see cnt (xs (i + 1)) (xs (i + 2)) (xs (i + 3)) r7 w7 from h7)
  rcases h8 with ⟨r1, w1, hp, hr8, hw8⟩ | ⟨w1, hp, hr8, hw8⟩
  · skip
    obtain ⟨⟨lab9, has9, quo9, spe9, nam9, gif9, fol9, siz9, cel9, giv9, nf9, lis9, lc9, see9, cnt9⟩, ⟨labC9, quoC9, speC9, mdC9, edC9, lisC9, lcC9, seeC9, cntC9, Fs9⟩, hR9, e1, e2, e3⟩ := hs.1 r1 w1 hp
    subst e3
    subst e1
    subst e2
    subst hr8
    subst hw8
    have hRR9 : RR lab9 has9 quo9 spe9 nam9 gif9 fol9 siz9 cel9 giv9 nf9 lis9 lc9 see9 cnt9 labC9 quoC9 speC9 edC9 lisC9 lcC9 seeC9 cntC9 Fs9 := hR9
    have hM9 : MI lab9 quo9 spe9 nam9 siz9 cnt9 lis9 nf9 lc9 := by obtain ⟨h9, -⟩ := id hRR9; exact h9
    refine g_weq (ws' := (wM cy am lab9 has9 quo9 spe9 nam9 gif9 fol9 siz9 cel9 giv9 nf9 lis9 lc9 see9 cnt9 0 ++ (wC cy ac (zs 0) labC9 quoC9 speC9 mdC9 edC9 lisC9 lcC9 seeC9 cntC9 Fs9 ++ [((o, .inl (cy 2, 1, .inr (.inl (vp_updL g 0 (r1).toInt64)))) : Nat × va_E)]))) rfl ?_
    refine g_istore (lv' := [(6, .int r1), (5, .int (nI 0)), (0, .ref b), (1, .ref (ac 0)), (2, .ref (am 0)), (3, .ref o), (4, .int (nI i))]) C dL_law_1172 (by decide) rfl ?_
    refine g_aload_n C dL_law_1174 rfl 4 rfl ?_
    refine g_FVi (ci := 3) (st := []) C (k_X2_thrown l D cy zs am lab9 has9 quo9 spe9 nam9 gif9 fol9 siz9 cel9 giv9 nf9 lis9 lc9 see9 cnt9 0 hM9) gL_law_X2_thrown rfl ⟨rfl, ydX2_thrown⟩ 0 rfl rfl ⟨Nat.le_of_ble_eq_true rfl, Nat.le_of_ble_eq_true rfl⟩ ⟨hk, hn⟩ rfl (Nat.le_of_ble_eq_true rfl) dL_law_1175 (fun r6 w6 h6 => ?_)
    obtain ⟨h6a, h6b⟩ := h6
    subst h6a
    subst h6b
    refine g_perm (ws' := ((wC cy ac (zs 0) labC9 quoC9 speC9 mdC9 edC9 lisC9 lcC9 seeC9 cntC9 Fs9 ++ [((o, .inl (cy 2, 1, .inr (.inl (vp_updL g 0 (r1).toInt64)))) : Nat × va_E)]) ++ wM cy am lab9 has9 quo9 spe9 nam9 gif9 fol9 siz9 cel9 giv9 nf9 lis9 lc9 see9 cnt9 0)) (X := []) (perm_ab _ _) ?_
    refine g_iload C dL_law_1178 1 rfl ?_
    refine g_icmp_eq (tgt := 1185) C dL_law_1180 (by decide) (fun c1180 => ?_) (fun c1180 => ?_)
    · skip
      have c1180 := c_eq0 (by omega) (by omega) c1180
      refine g_iload C dL_law_1185 1 rfl ?_
      refine g_if_ne (tgt := 1202) C dL_law_1187 (by decide) (fun c1187 => ?_) (fun c1187 => ?_)
      · skip
        exact absurd c1187 (by decide +kernel)
      · skip
        have c1187 := cz_eq0 (by omega) c1187
        refine g_aload_n C dL_law_1190 rfl 5 rfl ?_
        refine g_iconst (v := nI 0) C dL_law_1191 (by decide +kernel) ?_
        refine g_lald (nn := 1) (i := nI 0) (v := (r1).toInt64) C (wC cy ac (zs 0) labC9 quoC9 speC9 mdC9 edC9 lisC9 lcC9 seeC9 cntC9 Fs9).length (app_at (tl_at rfl)) (vp_in_nI (by omega) (by omega)) (by rw [nI_clamp (by omega)]; exact if_pos rfl) dL_law_1192 ?_
        refine g_iload C dL_law_1193 0 rfl ?_
        refine g_i2l (v := (r1).toInt64) C dL_law_1195 rfl ?_
        refine g_lcmp (v := nI 0) C dL_law_1196 (lg_self _) ?_
        refine g_if_eq (tgt := 1202) C dL_law_1197 (by decide) (fun c1197 => ?_) (fun c1197 => ?_)
        · skip
          have c1197 := cz_eq0 (by omega) c1197
          refine g_goto (tgt := 1433) C dL_law_1202 (by decide) ?_
          exact g_sub (lv' := [(0, .ref b), (1, .ref (ac 0)), (2, .ref (am 0)), (3, .ref o), (4, .int (nI i))]) [2, 3, 4, 5, 6] rfl (next (lab9, has9, quo9, spe9, nam9, gif9, fol9, siz9, cel9, giv9, nf9, lis9, lc9, see9, cnt9) (labC9, quoC9, speC9, mdC9, edC9, lisC9, lcC9, seeC9, cntC9, Fs9) (vp_updL g 0 (r1).toInt64) 0 hR9)
        · skip
          exact absurd c1197 (by decide +kernel)
    · skip
      exact absurd c1180 (by decide +kernel)
  · skip
    obtain ⟨⟨lab9, has9, quo9, spe9, nam9, gif9, fol9, siz9, cel9, giv9, nf9, lis9, lc9, see9, cnt9⟩, ⟨labC9, quoC9, speC9, mdC9, edC9, lisC9, lcC9, seeC9, cntC9, Fs9⟩, k9, hR9, e1, e2, e3⟩ := hs.2 "java/lang/IllegalArgumentException" w1 hp
    have hk9 : k9 = 1 := by rcases e3 with e3 | e3; exact e3.2; exact absurd e3.1 (by decide)
    subst hk9
    subst e1
    subst e2
    subst hr8
    subst hw8
    have hRR9 : RR lab9 has9 quo9 spe9 nam9 gif9 fol9 siz9 cel9 giv9 nf9 lis9 lc9 see9 cnt9 labC9 quoC9 speC9 edC9 lisC9 lcC9 seeC9 cntC9 Fs9 := hR9
    have hM9 : MI lab9 quo9 spe9 nam9 siz9 cnt9 lis9 nf9 lc9 := by obtain ⟨h9, -⟩ := id hRR9; exact h9
    refine g_weq (ws' := (wM cy am lab9 has9 quo9 spe9 nam9 gif9 fol9 siz9 cel9 giv9 nf9 lis9 lc9 see9 cnt9 1 ++ (wC cy ac (zs 0) labC9 quoC9 speC9 mdC9 edC9 lisC9 lcC9 seeC9 cntC9 Fs9 ++ [((o, .inl (cy 2, 1, .inr (.inl g))) : Nat × va_E)]))) rfl ?_
    refine g_istore (lv' := [(6, .int r7), (5, .int (nI 1)), (0, .ref b), (1, .ref (ac 0)), (2, .ref (am 0)), (3, .ref o), (4, .int (nI i))]) C dL_law_1172 (by decide) rfl ?_
    refine g_aload_n C dL_law_1174 rfl 4 rfl ?_
    refine g_FVi (ci := 3) (st := []) C (k_X2_thrown l D cy zs am lab9 has9 quo9 spe9 nam9 gif9 fol9 siz9 cel9 giv9 nf9 lis9 lc9 see9 cnt9 1 hM9) gL_law_X2_thrown rfl ⟨rfl, ydX2_thrown⟩ 0 rfl rfl ⟨Nat.le_of_ble_eq_true rfl, Nat.le_of_ble_eq_true rfl⟩ ⟨hk, hn⟩ rfl (Nat.le_of_ble_eq_true rfl) dL_law_1175 (fun r6 w6 h6 => ?_)
    obtain ⟨h6a, h6b⟩ := h6
    subst h6a
    subst h6b
    refine g_perm (ws' := ((wC cy ac (zs 0) labC9 quoC9 speC9 mdC9 edC9 lisC9 lcC9 seeC9 cntC9 Fs9 ++ [((o, .inl (cy 2, 1, .inr (.inl g))) : Nat × va_E)]) ++ wM cy am lab9 has9 quo9 spe9 nam9 gif9 fol9 siz9 cel9 giv9 nf9 lis9 lc9 see9 cnt9 1)) (X := []) (perm_ab _ _) ?_
    refine g_iload C dL_law_1178 1 rfl ?_
    refine g_icmp_eq (tgt := 1185) C dL_law_1180 (by decide) (fun c1180 => ?_) (fun c1180 => ?_)
    · skip
      have c1180 := c_eq0 (by omega) (by omega) c1180
      refine g_iload C dL_law_1185 1 rfl ?_
      refine g_if_ne (tgt := 1202) C dL_law_1187 (by decide) (fun c1187 => ?_) (fun c1187 => ?_)
      · skip
        have c1187 := cz_eq1 (by omega) c1187
        refine g_goto (tgt := 1433) C dL_law_1202 (by decide) ?_
        exact g_sub (lv' := [(0, .ref b), (1, .ref (ac 0)), (2, .ref (am 0)), (3, .ref o), (4, .int (nI i))]) [2, 3, 4, 5, 6] rfl (next (lab9, has9, quo9, spe9, nam9, gif9, fol9, siz9, cel9, giv9, nf9, lis9, lc9, see9, cnt9) (labC9, quoC9, speC9, mdC9, edC9, lisC9, lcC9, seeC9, cntC9, Fs9) g 1 hR9)
      · skip
        exact absurd c1187 (by decide +kernel)
    · skip
      exact absurd c1180 (by decide +kernel)
set_option maxRecDepth 100000 in
set_option maxHeartbeats 4000000 in
theorem b_release {p : Program} {l : Launch} {e : Env} {s : State} {m : MethodId} {b : Nat} {below : List Frame} {meth : Method} {c : Code} {D : va_G} {cy : Nat → ClassId} {zs : Nat → Nat} {A : Nat → Prop} {Q : State → Prop} {k n L i : Nat} {xs : Nat → Int32} {rt : Option FieldType} (C : Cx p s m #[.ref b] meth c cL_law 7 RL wsL_law D cy zs A rt) (hst : l.stackTraces = false) (hX : va_X b L xs s s.heap) (hbl : b < s.heap.size) (hbA : ¬ A b) (hi : i + 5 ≤ L) (hL : L ≤ 2560) (am ac : Nat → Nat) (o : Nat) (g : Nat → Int64) (thr : Nat) {lab : Nat → Nat} {has : Nat → Bool} {quo spe nam : Nat → Nat} {gif : Nat → Bool} {fol : Nat → Int32} {siz : Nat → Nat} {cel : Nat → Int32} {giv : Nat → Bool} {nf : Nat} {lis : Nat → Nat} {lc : Nat} {see : Nat → Int32} {cnt : Nat → Nat} {labC : Nat → Option Nat} {quoC speC : Nat → Nat} {mdC : Int32} {edC : Option (Nat × Nat)} {lisC : Nat → Nat} {lcC : Nat} {seeC : Nat → Nat → Int32} {cntC : Nat → Nat} {Fs : List FT} (hRR : RR lab has quo spe nam gif fol siz cel giv nf lis lc see cnt labC quoC speC edC lisC lcC seeC cntC Fs) (hk : k + 12 ≤ room_1.cells) (hn : n + 500 ≤ room_1.slots) (next : ∀ (m9 : MS) (c9 : CS) (g9 : Nat → Int64) (thr9 : Nat), RT m9 c9 → GG p l e room_1 s m #[.ref b] below meth c D A 7 Q ((wCt cy ac (zs 0) c9 ++ [((o, .inl (cy 2, 1, .inr (.inl g9))) : Nat × va_E)]) ++ wMt cy am m9 thr9) (k + 12) (n + 500) [(0, .ref b), (1, .ref (ac 0)), (2, .ref (am 0)), (3, .ref o), (4, .int (nI i))] 1433 []) : GG p l e room_1 s m #[.ref b] below meth c D A 7 Q ((wC cy ac (zs 0) labC quoC speC mdC edC lisC lcC seeC cntC Fs ++ [((o, .inl (cy 2, 1, .inr (.inl g))) : Nat × va_E)]) ++ wM cy am lab has quo spe nam gif fol siz cel giv nf lis lc see cnt thr) k n [(0, .ref b), (1, .ref (ac 0)), (2, .ref (am 0)), (3, .ref o), (4, .int (nI i))] 1205 [] := by
  obtain ⟨hM, hC, hl9, hqu, hsp, hfi, hls, he9⟩ := id hRR
  refine g_aload_n C dL_law_1205 rfl 1 rfl ?_
  refine g_aload_n C dL_law_1206 rfl 0 rfl ?_
  refine g_iload C dL_law_1207 4 rfl ?_
  refine g_iconst (v := nI 1) C dL_law_1209 (by decide +kernel) ?_
  refine g_iadd (v := nI (i + 1)) C dL_law_1210 (nI_add _ _) ?_
  refine g_sld C hX hbl hbA (show i + 1 < L by omega) (by omega) dL_law_1211 ?_
  refine g_aload_n C dL_law_1212 rfl 0 rfl ?_
  refine g_iload C dL_law_1213 4 rfl ?_
  refine g_iconst (v := nI 2) C dL_law_1215 (by decide +kernel) ?_
  refine g_iadd (v := nI (i + 2)) C dL_law_1216 (nI_add _ _) ?_
  refine g_sld C hX hbl hbA (show i + 2 < L by omega) (by omega) dL_law_1217 ?_
  refine g_aload_n C dL_law_1218 rfl 0 rfl ?_
  refine g_iload C dL_law_1219 4 rfl ?_
  refine g_iconst (v := nI 3) C dL_law_1221 (by decide +kernel) ?_
  refine g_iadd (v := nI (i + 3)) C dL_law_1222 (nI_add _ _) ?_
  refine g_sld C hX hbl hbA (show i + 3 < L by omega) (by omega) dL_law_1223 ?_
  refine g_aload_n C dL_law_1224 rfl 0 rfl ?_
  refine g_iload C dL_law_1225 4 rfl ?_
  refine g_iconst (v := nI 4) C dL_law_1227 (by decide +kernel) ?_
  refine g_iadd (v := nI (i + 4)) C dL_law_1228 (nI_add _ _) ?_
  refine g_sld C hX hbl hbA (show i + 4 < L by omega) (by omega) dL_law_1229 ?_
  refine g_aload_n C dL_law_1230 rfl 3 rfl ?_
  refine g_FSi (st := []) C (k_L_release l D cy zs hst ac labC quoC speC mdC edC lisC lcC seeC cntC Fs hC o g (xs (i + 1)) (xs (i + 2)) (xs (i + 3)) (xs (i + 4)) (fun S9 L9 T9 h9 h8 h7 => hls.ne hM.2.2.2.2.2.2.2.2 h9 h8 h7)) gL_law_L_release rfl ydL_release ⟨Nat.le_of_ble_eq_true rfl, Nat.le_of_ble_eq_true rfl⟩ ⟨hk, hn⟩ rfl (Nat.le_of_ble_eq_true rfl) dL_law_1231 (fun r8 w8 h8 => ?_)
  refine g_istore (lv' := [(5, .int r8), (0, .ref b), (1, .ref (ac 0)), (2, .ref (am 0)), (3, .ref o), (4, .int (nI i))]) C dL_law_1234 (by decide) rfl ?_
  refine g_aload_n C dL_law_1236 rfl 3 rfl ?_
  refine g_aload_n C dL_law_1237 rfl 1 rfl ?_
  refine g_iload C dL_law_1238 5 rfl ?_
  refine g_iconst (v := nI 1) C dL_law_1240 (by decide +kernel) ?_
  refine g_iadd (v := nI (i + 1)) C dL_law_1241 (nI_add _ _) ?_
  refine g_sld C hX hbl hbA (show i + 1 < L by omega) (by omega) dL_law_1242 ?_
  refine g_aload_n C dL_law_1243 rfl 1 rfl ?_
  refine g_iload C dL_law_1244 5 rfl ?_
  refine g_iconst (v := nI 2) C dL_law_1246 (by decide +kernel) ?_
  refine g_iadd (v := nI (i + 2)) C dL_law_1247 (nI_add _ _) ?_
  refine g_sld C hX hbl hbA (show i + 2 < L by omega) (by omega) dL_law_1248 ?_
  refine g_aload_n C dL_law_1249 rfl 1 rfl ?_
  refine g_iload C dL_law_1250 5 rfl ?_
  refine g_iconst (v := nI 3) C dL_law_1252 (by decide +kernel) ?_
  refine g_iadd (v := nI (i + 3)) C dL_law_1253 (nI_add _ _) ?_
  refine g_sld C hX hbl hbA (show i + 3 < L by omega) (by omega) dL_law_1254 ?_
  refine g_aload_n C dL_law_1255 rfl 1 rfl ?_
  refine g_iload C dL_law_1256 5 rfl ?_
  refine g_iconst (v := nI 4) C dL_law_1258 (by decide +kernel) ?_
  refine g_iadd (v := nI (i + 4)) C dL_law_1259 (nI_add _ _) ?_
  refine g_sld C hX hbl hbA (show i + 4 < L by omega) (by omega) dL_law_1260 ?_
  refine g_perm (ws' := wM cy am lab has quo spe nam gif fol siz cel giv nf lis lc see cnt thr ++ w8) (X := []) (perm_ab _ _) ?_
  refine g_FVi (ci := 3) (st := []) C (k_X2_release l D cy zs am lab has quo spe nam gif fol siz cel giv nf lis lc see cnt thr hM (xs (i + 1)) (xs (i + 2)) (xs (i + 3)) (xs (i + 4)) hls.2.2) gL_law_X2_release rfl ⟨rfl, ydX2_release⟩ 0 rfl rfl ⟨Nat.le_of_ble_eq_true rfl, Nat.le_of_ble_eq_true rfl⟩ ⟨hk, hn⟩ rfl (Nat.le_of_ble_eq_true rfl) dL_law_1261 (fun r7 w7 h7 => ?_)
  have hs := sim_release (zs := zs) (ac := ac) (mdC := mdC) hRR (show PM_release cy am lab has quo spe nam gif fol siz cel giv nf lis lc see cnt (xs (i + 1)) (xs (i + 2)) (xs (i + 3)) (xs (i + 4)) r7 w7 from h7)
  rcases h8 with ⟨r1, w1, hp, hr8, hw8⟩ | ⟨w1, hp, hr8, hw8⟩ | ⟨w1, hp, hr8, hw8⟩
  · skip
    obtain ⟨⟨lab9, has9, quo9, spe9, nam9, gif9, fol9, siz9, cel9, giv9, nf9, lis9, lc9, see9, cnt9⟩, ⟨labC9, quoC9, speC9, mdC9, edC9, lisC9, lcC9, seeC9, cntC9, Fs9⟩, hR9, e1, e2, e3⟩ := hs.1 r1 w1 hp
    subst e3
    subst e1
    subst e2
    subst hr8
    subst hw8
    have hRR9 : RR lab9 has9 quo9 spe9 nam9 gif9 fol9 siz9 cel9 giv9 nf9 lis9 lc9 see9 cnt9 labC9 quoC9 speC9 edC9 lisC9 lcC9 seeC9 cntC9 Fs9 := hR9
    have hM9 : MI lab9 quo9 spe9 nam9 siz9 cnt9 lis9 nf9 lc9 := by obtain ⟨h9, -⟩ := id hRR9; exact h9
    refine g_weq (ws' := (wM cy am lab9 has9 quo9 spe9 nam9 gif9 fol9 siz9 cel9 giv9 nf9 lis9 lc9 see9 cnt9 0 ++ (wC cy ac (zs 0) labC9 quoC9 speC9 mdC9 edC9 lisC9 lcC9 seeC9 cntC9 Fs9 ++ [((o, .inl (cy 2, 1, .inr (.inl (vp_updL g 0 (r1).toInt64)))) : Nat × va_E)]))) rfl ?_
    refine g_istore (lv' := [(6, .int r1), (5, .int (nI 0)), (0, .ref b), (1, .ref (ac 0)), (2, .ref (am 0)), (3, .ref o), (4, .int (nI i))]) C dL_law_1264 (by decide) rfl ?_
    refine g_aload_n C dL_law_1266 rfl 4 rfl ?_
    refine g_FVi (ci := 3) (st := []) C (k_X2_thrown l D cy zs am lab9 has9 quo9 spe9 nam9 gif9 fol9 siz9 cel9 giv9 nf9 lis9 lc9 see9 cnt9 0 hM9) gL_law_X2_thrown rfl ⟨rfl, ydX2_thrown⟩ 0 rfl rfl ⟨Nat.le_of_ble_eq_true rfl, Nat.le_of_ble_eq_true rfl⟩ ⟨hk, hn⟩ rfl (Nat.le_of_ble_eq_true rfl) dL_law_1267 (fun r6 w6 h6 => ?_)
    obtain ⟨h6a, h6b⟩ := h6
    subst h6a
    subst h6b
    refine g_perm (ws' := ((wC cy ac (zs 0) labC9 quoC9 speC9 mdC9 edC9 lisC9 lcC9 seeC9 cntC9 Fs9 ++ [((o, .inl (cy 2, 1, .inr (.inl (vp_updL g 0 (r1).toInt64)))) : Nat × va_E)]) ++ wM cy am lab9 has9 quo9 spe9 nam9 gif9 fol9 siz9 cel9 giv9 nf9 lis9 lc9 see9 cnt9 0)) (X := []) (perm_ab _ _) ?_
    refine g_iload C dL_law_1270 1 rfl ?_
    refine g_icmp_eq (tgt := 1277) C dL_law_1272 (by decide) (fun c1272 => ?_) (fun c1272 => ?_)
    · skip
      have c1272 := c_eq0 (by omega) (by omega) c1272
      refine g_iload C dL_law_1277 1 rfl ?_
      refine g_if_ne (tgt := 1294) C dL_law_1279 (by decide) (fun c1279 => ?_) (fun c1279 => ?_)
      · skip
        exact absurd c1279 (by decide +kernel)
      · skip
        have c1279 := cz_eq0 (by omega) c1279
        refine g_aload_n C dL_law_1282 rfl 5 rfl ?_
        refine g_iconst (v := nI 0) C dL_law_1283 (by decide +kernel) ?_
        refine g_lald (nn := 1) (i := nI 0) (v := (r1).toInt64) C (wC cy ac (zs 0) labC9 quoC9 speC9 mdC9 edC9 lisC9 lcC9 seeC9 cntC9 Fs9).length (app_at (tl_at rfl)) (vp_in_nI (by omega) (by omega)) (by rw [nI_clamp (by omega)]; exact if_pos rfl) dL_law_1284 ?_
        refine g_iload C dL_law_1285 0 rfl ?_
        refine g_i2l (v := (r1).toInt64) C dL_law_1287 rfl ?_
        refine g_lcmp (v := nI 0) C dL_law_1288 (lg_self _) ?_
        refine g_if_eq (tgt := 1294) C dL_law_1289 (by decide) (fun c1289 => ?_) (fun c1289 => ?_)
        · skip
          have c1289 := cz_eq0 (by omega) c1289
          refine g_goto (tgt := 1433) C dL_law_1294 (by decide) ?_
          exact g_sub (lv' := [(0, .ref b), (1, .ref (ac 0)), (2, .ref (am 0)), (3, .ref o), (4, .int (nI i))]) [2, 3, 4, 5, 6] rfl (next (lab9, has9, quo9, spe9, nam9, gif9, fol9, siz9, cel9, giv9, nf9, lis9, lc9, see9, cnt9) (labC9, quoC9, speC9, mdC9, edC9, lisC9, lcC9, seeC9, cntC9, Fs9) (vp_updL g 0 (r1).toInt64) 0 hR9)
        · skip
          exact absurd c1289 (by decide +kernel)
    · skip
      exact absurd c1272 (by decide +kernel)
  · skip
    obtain ⟨⟨lab9, has9, quo9, spe9, nam9, gif9, fol9, siz9, cel9, giv9, nf9, lis9, lc9, see9, cnt9⟩, ⟨labC9, quoC9, speC9, mdC9, edC9, lisC9, lcC9, seeC9, cntC9, Fs9⟩, k9, hR9, e1, e2, e3⟩ := hs.2 "java/lang/IllegalArgumentException" w1 hp
    have hk9 : k9 = 1 := by rcases e3 with e3 | e3; exact e3.2; exact absurd e3.1 (by decide)
    subst hk9
    subst e1
    subst e2
    subst hr8
    subst hw8
    have hRR9 : RR lab9 has9 quo9 spe9 nam9 gif9 fol9 siz9 cel9 giv9 nf9 lis9 lc9 see9 cnt9 labC9 quoC9 speC9 edC9 lisC9 lcC9 seeC9 cntC9 Fs9 := hR9
    have hM9 : MI lab9 quo9 spe9 nam9 siz9 cnt9 lis9 nf9 lc9 := by obtain ⟨h9, -⟩ := id hRR9; exact h9
    refine g_weq (ws' := (wM cy am lab9 has9 quo9 spe9 nam9 gif9 fol9 siz9 cel9 giv9 nf9 lis9 lc9 see9 cnt9 1 ++ (wC cy ac (zs 0) labC9 quoC9 speC9 mdC9 edC9 lisC9 lcC9 seeC9 cntC9 Fs9 ++ [((o, .inl (cy 2, 1, .inr (.inl g))) : Nat × va_E)]))) rfl ?_
    refine g_istore (lv' := [(6, .int r7), (5, .int (nI 1)), (0, .ref b), (1, .ref (ac 0)), (2, .ref (am 0)), (3, .ref o), (4, .int (nI i))]) C dL_law_1264 (by decide) rfl ?_
    refine g_aload_n C dL_law_1266 rfl 4 rfl ?_
    refine g_FVi (ci := 3) (st := []) C (k_X2_thrown l D cy zs am lab9 has9 quo9 spe9 nam9 gif9 fol9 siz9 cel9 giv9 nf9 lis9 lc9 see9 cnt9 1 hM9) gL_law_X2_thrown rfl ⟨rfl, ydX2_thrown⟩ 0 rfl rfl ⟨Nat.le_of_ble_eq_true rfl, Nat.le_of_ble_eq_true rfl⟩ ⟨hk, hn⟩ rfl (Nat.le_of_ble_eq_true rfl) dL_law_1267 (fun r6 w6 h6 => ?_)
    obtain ⟨h6a, h6b⟩ := h6
    subst h6a
    subst h6b
    refine g_perm (ws' := ((wC cy ac (zs 0) labC9 quoC9 speC9 mdC9 edC9 lisC9 lcC9 seeC9 cntC9 Fs9 ++ [((o, .inl (cy 2, 1, .inr (.inl g))) : Nat × va_E)]) ++ wM cy am lab9 has9 quo9 spe9 nam9 gif9 fol9 siz9 cel9 giv9 nf9 lis9 lc9 see9 cnt9 1)) (X := []) (perm_ab _ _) ?_
    refine g_iload C dL_law_1270 1 rfl ?_
    refine g_icmp_eq (tgt := 1277) C dL_law_1272 (by decide) (fun c1272 => ?_) (fun c1272 => ?_)
    · skip
      have c1272 := c_eq0 (by omega) (by omega) c1272
      refine g_iload C dL_law_1277 1 rfl ?_
      refine g_if_ne (tgt := 1294) C dL_law_1279 (by decide) (fun c1279 => ?_) (fun c1279 => ?_)
      · skip
        have c1279 := cz_eq1 (by omega) c1279
        refine g_goto (tgt := 1433) C dL_law_1294 (by decide) ?_
        exact g_sub (lv' := [(0, .ref b), (1, .ref (ac 0)), (2, .ref (am 0)), (3, .ref o), (4, .int (nI i))]) [2, 3, 4, 5, 6] rfl (next (lab9, has9, quo9, spe9, nam9, gif9, fol9, siz9, cel9, giv9, nf9, lis9, lc9, see9, cnt9) (labC9, quoC9, speC9, mdC9, edC9, lisC9, lcC9, seeC9, cntC9, Fs9) g 1 hR9)
      · skip
        exact absurd c1279 (by decide +kernel)
    · skip
      exact absurd c1272 (by decide +kernel)
  · skip
    obtain ⟨⟨lab9, has9, quo9, spe9, nam9, gif9, fol9, siz9, cel9, giv9, nf9, lis9, lc9, see9, cnt9⟩, ⟨labC9, quoC9, speC9, mdC9, edC9, lisC9, lcC9, seeC9, cntC9, Fs9⟩, k9, hR9, e1, e2, e3⟩ := hs.2 "java/lang/UnsupportedOperationException" w1 hp
    have hk9 : k9 = 2 := by rcases e3 with e3 | e3; exact absurd e3.1 (by decide); exact e3.2
    subst hk9
    subst e1
    subst e2
    subst hr8
    subst hw8
    have hRR9 : RR lab9 has9 quo9 spe9 nam9 gif9 fol9 siz9 cel9 giv9 nf9 lis9 lc9 see9 cnt9 labC9 quoC9 speC9 edC9 lisC9 lcC9 seeC9 cntC9 Fs9 := hR9
    have hM9 : MI lab9 quo9 spe9 nam9 siz9 cnt9 lis9 nf9 lc9 := by obtain ⟨h9, -⟩ := id hRR9; exact h9
    refine g_weq (ws' := (wM cy am lab9 has9 quo9 spe9 nam9 gif9 fol9 siz9 cel9 giv9 nf9 lis9 lc9 see9 cnt9 2 ++ (wC cy ac (zs 0) labC9 quoC9 speC9 mdC9 edC9 lisC9 lcC9 seeC9 cntC9 Fs9 ++ [((o, .inl (cy 2, 1, .inr (.inl g))) : Nat × va_E)]))) rfl ?_
    refine g_istore (lv' := [(6, .int r7), (5, .int (nI 2)), (0, .ref b), (1, .ref (ac 0)), (2, .ref (am 0)), (3, .ref o), (4, .int (nI i))]) C dL_law_1264 (by decide) rfl ?_
    refine g_aload_n C dL_law_1266 rfl 4 rfl ?_
    refine g_FVi (ci := 3) (st := []) C (k_X2_thrown l D cy zs am lab9 has9 quo9 spe9 nam9 gif9 fol9 siz9 cel9 giv9 nf9 lis9 lc9 see9 cnt9 2 hM9) gL_law_X2_thrown rfl ⟨rfl, ydX2_thrown⟩ 0 rfl rfl ⟨Nat.le_of_ble_eq_true rfl, Nat.le_of_ble_eq_true rfl⟩ ⟨hk, hn⟩ rfl (Nat.le_of_ble_eq_true rfl) dL_law_1267 (fun r6 w6 h6 => ?_)
    obtain ⟨h6a, h6b⟩ := h6
    subst h6a
    subst h6b
    refine g_perm (ws' := ((wC cy ac (zs 0) labC9 quoC9 speC9 mdC9 edC9 lisC9 lcC9 seeC9 cntC9 Fs9 ++ [((o, .inl (cy 2, 1, .inr (.inl g))) : Nat × va_E)]) ++ wM cy am lab9 has9 quo9 spe9 nam9 gif9 fol9 siz9 cel9 giv9 nf9 lis9 lc9 see9 cnt9 2)) (X := []) (perm_ab _ _) ?_
    refine g_iload C dL_law_1270 1 rfl ?_
    refine g_icmp_eq (tgt := 1277) C dL_law_1272 (by decide) (fun c1272 => ?_) (fun c1272 => ?_)
    · skip
      have c1272 := c_eq0 (by omega) (by omega) c1272
      refine g_iload C dL_law_1277 1 rfl ?_
      refine g_if_ne (tgt := 1294) C dL_law_1279 (by decide) (fun c1279 => ?_) (fun c1279 => ?_)
      · skip
        have c1279 := cz_eq1 (by omega) c1279
        refine g_goto (tgt := 1433) C dL_law_1294 (by decide) ?_
        exact g_sub (lv' := [(0, .ref b), (1, .ref (ac 0)), (2, .ref (am 0)), (3, .ref o), (4, .int (nI i))]) [2, 3, 4, 5, 6] rfl (next (lab9, has9, quo9, spe9, nam9, gif9, fol9, siz9, cel9, giv9, nf9, lis9, lc9, see9, cnt9) (labC9, quoC9, speC9, mdC9, edC9, lisC9, lcC9, seeC9, cntC9, Fs9) g 2 hR9)
      · skip
        exact absurd c1279 (by decide +kernel)
    · skip
      exact absurd c1272 (by decide +kernel)
set_option maxRecDepth 100000 in
set_option maxHeartbeats 4000000 in
theorem b_seen {p : Program} {l : Launch} {e : Env} {s : State} {m : MethodId} {b : Nat} {below : List Frame} {meth : Method} {c : Code} {D : va_G} {cy : Nat → ClassId} {zs : Nat → Nat} {A : Nat → Prop} {Q : State → Prop} {k n L i : Nat} {xs : Nat → Int32} {rt : Option FieldType} (C : Cx p s m #[.ref b] meth c cL_law 7 RL wsL_law D cy zs A rt) (hst : l.stackTraces = false) (hX : va_X b L xs s s.heap) (hbl : b < s.heap.size) (hbA : ¬ A b) (hi : i + 5 ≤ L) (hL : L ≤ 2560) (am ac : Nat → Nat) (o : Nat) (g : Nat → Int64) (thr : Nat) {lab : Nat → Nat} {has : Nat → Bool} {quo spe nam : Nat → Nat} {gif : Nat → Bool} {fol : Nat → Int32} {siz : Nat → Nat} {cel : Nat → Int32} {giv : Nat → Bool} {nf : Nat} {lis : Nat → Nat} {lc : Nat} {see : Nat → Int32} {cnt : Nat → Nat} {labC : Nat → Option Nat} {quoC speC : Nat → Nat} {mdC : Int32} {edC : Option (Nat × Nat)} {lisC : Nat → Nat} {lcC : Nat} {seeC : Nat → Nat → Int32} {cntC : Nat → Nat} {Fs : List FT} (hRR : RR lab has quo spe nam gif fol siz cel giv nf lis lc see cnt labC quoC speC edC lisC lcC seeC cntC Fs) (hk : k + 12 ≤ room_1.cells) (hn : n + 500 ≤ room_1.slots) (next : ∀ (m9 : MS) (c9 : CS) (g9 : Nat → Int64) (thr9 : Nat), RT m9 c9 → GG p l e room_1 s m #[.ref b] below meth c D A 7 Q ((wCt cy ac (zs 0) c9 ++ [((o, .inl (cy 2, 1, .inr (.inl g9))) : Nat × va_E)]) ++ wMt cy am m9 thr9) (k + 12) (n + 500) [(0, .ref b), (1, .ref (ac 0)), (2, .ref (am 0)), (3, .ref o), (4, .int (nI i))] 1433 []) : GG p l e room_1 s m #[.ref b] below meth c D A 7 Q ((wC cy ac (zs 0) labC quoC speC mdC edC lisC lcC seeC cntC Fs ++ [((o, .inl (cy 2, 1, .inr (.inl g))) : Nat × va_E)]) ++ wM cy am lab has quo spe nam gif fol siz cel giv nf lis lc see cnt thr) k n [(0, .ref b), (1, .ref (ac 0)), (2, .ref (am 0)), (3, .ref o), (4, .int (nI i))] 1297 [] := by
  obtain ⟨hM, hC, hl9, hqu, hsp, hfi, hls, he9⟩ := id hRR
  refine g_aload_n C dL_law_1297 rfl 1 rfl ?_
  refine g_aload_n C dL_law_1298 rfl 0 rfl ?_
  refine g_iload C dL_law_1299 4 rfl ?_
  refine g_iconst (v := nI 1) C dL_law_1301 (by decide +kernel) ?_
  refine g_iadd (v := nI (i + 1)) C dL_law_1302 (nI_add _ _) ?_
  refine g_sld C hX hbl hbA (show i + 1 < L by omega) (by omega) dL_law_1303 ?_
  refine g_aload_n C dL_law_1304 rfl 0 rfl ?_
  refine g_iload C dL_law_1305 4 rfl ?_
  refine g_iconst (v := nI 2) C dL_law_1307 (by decide +kernel) ?_
  refine g_iadd (v := nI (i + 2)) C dL_law_1308 (nI_add _ _) ?_
  refine g_sld C hX hbl hbA (show i + 2 < L by omega) (by omega) dL_law_1309 ?_
  refine g_aload_n C dL_law_1310 rfl 3 rfl ?_
  refine g_FSi (st := []) C (k_L_seen l D cy zs hst ac labC quoC speC mdC edC lisC lcC seeC cntC Fs hC o g (xs (i + 1)) (xs (i + 2))) gL_law_L_seen rfl ydL_seen ⟨Nat.le_of_ble_eq_true rfl, Nat.le_of_ble_eq_true rfl⟩ ⟨hk, hn⟩ rfl (Nat.le_of_ble_eq_true rfl) dL_law_1311 (fun r8 w8 h8 => ?_)
  refine g_istore (lv' := [(5, .int r8), (0, .ref b), (1, .ref (ac 0)), (2, .ref (am 0)), (3, .ref o), (4, .int (nI i))]) C dL_law_1314 (by decide) rfl ?_
  refine g_aload_n C dL_law_1316 rfl 3 rfl ?_
  refine g_aload_n C dL_law_1317 rfl 1 rfl ?_
  refine g_iload C dL_law_1318 5 rfl ?_
  refine g_iconst (v := nI 1) C dL_law_1320 (by decide +kernel) ?_
  refine g_iadd (v := nI (i + 1)) C dL_law_1321 (nI_add _ _) ?_
  refine g_sld C hX hbl hbA (show i + 1 < L by omega) (by omega) dL_law_1322 ?_
  refine g_aload_n C dL_law_1323 rfl 1 rfl ?_
  refine g_iload C dL_law_1324 5 rfl ?_
  refine g_iconst (v := nI 2) C dL_law_1326 (by decide +kernel) ?_
  refine g_iadd (v := nI (i + 2)) C dL_law_1327 (nI_add _ _) ?_
  refine g_sld C hX hbl hbA (show i + 2 < L by omega) (by omega) dL_law_1328 ?_
  refine g_perm (ws' := wM cy am lab has quo spe nam gif fol siz cel giv nf lis lc see cnt thr ++ w8) (X := []) (perm_ab _ _) ?_
  refine g_FVi (ci := 3) (st := []) C (k_X2_seen l D cy zs am lab has quo spe nam gif fol siz cel giv nf lis lc see cnt thr hM (xs (i + 1)) (xs (i + 2))) gL_law_X2_seen rfl ⟨rfl, ydX2_seen⟩ 0 rfl rfl ⟨Nat.le_of_ble_eq_true rfl, Nat.le_of_ble_eq_true rfl⟩ ⟨hk, hn⟩ rfl (Nat.le_of_ble_eq_true rfl) dL_law_1329 (fun r7 w7 h7 => ?_)
  have hs := sim_seen (zs := zs) (ac := ac) (mdC := mdC) hRR (show PM_seen cy am lab has quo spe nam gif fol siz cel giv nf lis lc see cnt (xs (i + 1)) (xs (i + 2)) r7 w7 from h7)
  rcases h8 with ⟨r1, w1, hp, hr8, hw8⟩ | ⟨w1, hp, hr8, hw8⟩
  · skip
    obtain ⟨⟨lab9, has9, quo9, spe9, nam9, gif9, fol9, siz9, cel9, giv9, nf9, lis9, lc9, see9, cnt9⟩, ⟨labC9, quoC9, speC9, mdC9, edC9, lisC9, lcC9, seeC9, cntC9, Fs9⟩, hR9, e1, e2, e3⟩ := hs.1 r1 w1 hp
    subst e3
    subst e1
    subst e2
    subst hr8
    subst hw8
    have hRR9 : RR lab9 has9 quo9 spe9 nam9 gif9 fol9 siz9 cel9 giv9 nf9 lis9 lc9 see9 cnt9 labC9 quoC9 speC9 edC9 lisC9 lcC9 seeC9 cntC9 Fs9 := hR9
    have hM9 : MI lab9 quo9 spe9 nam9 siz9 cnt9 lis9 nf9 lc9 := by obtain ⟨h9, -⟩ := id hRR9; exact h9
    refine g_weq (ws' := (wM cy am lab9 has9 quo9 spe9 nam9 gif9 fol9 siz9 cel9 giv9 nf9 lis9 lc9 see9 cnt9 0 ++ (wC cy ac (zs 0) labC9 quoC9 speC9 mdC9 edC9 lisC9 lcC9 seeC9 cntC9 Fs9 ++ [((o, .inl (cy 2, 1, .inr (.inl (vp_updL g 0 (r1).toInt64)))) : Nat × va_E)]))) rfl ?_
    refine g_istore (lv' := [(6, .int r1), (5, .int (nI 0)), (0, .ref b), (1, .ref (ac 0)), (2, .ref (am 0)), (3, .ref o), (4, .int (nI i))]) C dL_law_1332 (by decide) rfl ?_
    refine g_aload_n C dL_law_1334 rfl 4 rfl ?_
    refine g_FVi (ci := 3) (st := []) C (k_X2_thrown l D cy zs am lab9 has9 quo9 spe9 nam9 gif9 fol9 siz9 cel9 giv9 nf9 lis9 lc9 see9 cnt9 0 hM9) gL_law_X2_thrown rfl ⟨rfl, ydX2_thrown⟩ 0 rfl rfl ⟨Nat.le_of_ble_eq_true rfl, Nat.le_of_ble_eq_true rfl⟩ ⟨hk, hn⟩ rfl (Nat.le_of_ble_eq_true rfl) dL_law_1335 (fun r6 w6 h6 => ?_)
    obtain ⟨h6a, h6b⟩ := h6
    subst h6a
    subst h6b
    refine g_perm (ws' := ((wC cy ac (zs 0) labC9 quoC9 speC9 mdC9 edC9 lisC9 lcC9 seeC9 cntC9 Fs9 ++ [((o, .inl (cy 2, 1, .inr (.inl (vp_updL g 0 (r1).toInt64)))) : Nat × va_E)]) ++ wM cy am lab9 has9 quo9 spe9 nam9 gif9 fol9 siz9 cel9 giv9 nf9 lis9 lc9 see9 cnt9 0)) (X := []) (perm_ab _ _) ?_
    refine g_iload C dL_law_1338 1 rfl ?_
    refine g_icmp_eq (tgt := 1345) C dL_law_1340 (by decide) (fun c1340 => ?_) (fun c1340 => ?_)
    · skip
      have c1340 := c_eq0 (by omega) (by omega) c1340
      refine g_iload C dL_law_1345 1 rfl ?_
      refine g_if_ne (tgt := 1362) C dL_law_1347 (by decide) (fun c1347 => ?_) (fun c1347 => ?_)
      · skip
        exact absurd c1347 (by decide +kernel)
      · skip
        have c1347 := cz_eq0 (by omega) c1347
        refine g_aload_n C dL_law_1350 rfl 5 rfl ?_
        refine g_iconst (v := nI 0) C dL_law_1351 (by decide +kernel) ?_
        refine g_lald (nn := 1) (i := nI 0) (v := (r1).toInt64) C (wC cy ac (zs 0) labC9 quoC9 speC9 mdC9 edC9 lisC9 lcC9 seeC9 cntC9 Fs9).length (app_at (tl_at rfl)) (vp_in_nI (by omega) (by omega)) (by rw [nI_clamp (by omega)]; exact if_pos rfl) dL_law_1352 ?_
        refine g_iload C dL_law_1353 0 rfl ?_
        refine g_i2l (v := (r1).toInt64) C dL_law_1355 rfl ?_
        refine g_lcmp (v := nI 0) C dL_law_1356 (lg_self _) ?_
        refine g_if_eq (tgt := 1362) C dL_law_1357 (by decide) (fun c1357 => ?_) (fun c1357 => ?_)
        · skip
          have c1357 := cz_eq0 (by omega) c1357
          refine g_goto (tgt := 1433) C dL_law_1362 (by decide) ?_
          exact g_sub (lv' := [(0, .ref b), (1, .ref (ac 0)), (2, .ref (am 0)), (3, .ref o), (4, .int (nI i))]) [2, 3, 4, 5, 6] rfl (next (lab9, has9, quo9, spe9, nam9, gif9, fol9, siz9, cel9, giv9, nf9, lis9, lc9, see9, cnt9) (labC9, quoC9, speC9, mdC9, edC9, lisC9, lcC9, seeC9, cntC9, Fs9) (vp_updL g 0 (r1).toInt64) 0 hR9)
        · skip
          exact absurd c1357 (by decide +kernel)
    · skip
      exact absurd c1340 (by decide +kernel)
  · skip
    obtain ⟨⟨lab9, has9, quo9, spe9, nam9, gif9, fol9, siz9, cel9, giv9, nf9, lis9, lc9, see9, cnt9⟩, ⟨labC9, quoC9, speC9, mdC9, edC9, lisC9, lcC9, seeC9, cntC9, Fs9⟩, k9, hR9, e1, e2, e3⟩ := hs.2 "java/lang/IllegalArgumentException" w1 hp
    have hk9 : k9 = 1 := by rcases e3 with e3 | e3; exact e3.2; exact absurd e3.1 (by decide)
    subst hk9
    subst e1
    subst e2
    subst hr8
    subst hw8
    have hRR9 : RR lab9 has9 quo9 spe9 nam9 gif9 fol9 siz9 cel9 giv9 nf9 lis9 lc9 see9 cnt9 labC9 quoC9 speC9 edC9 lisC9 lcC9 seeC9 cntC9 Fs9 := hR9
    have hM9 : MI lab9 quo9 spe9 nam9 siz9 cnt9 lis9 nf9 lc9 := by obtain ⟨h9, -⟩ := id hRR9; exact h9
    refine g_weq (ws' := (wM cy am lab9 has9 quo9 spe9 nam9 gif9 fol9 siz9 cel9 giv9 nf9 lis9 lc9 see9 cnt9 1 ++ (wC cy ac (zs 0) labC9 quoC9 speC9 mdC9 edC9 lisC9 lcC9 seeC9 cntC9 Fs9 ++ [((o, .inl (cy 2, 1, .inr (.inl g))) : Nat × va_E)]))) rfl ?_
    refine g_istore (lv' := [(6, .int r7), (5, .int (nI 1)), (0, .ref b), (1, .ref (ac 0)), (2, .ref (am 0)), (3, .ref o), (4, .int (nI i))]) C dL_law_1332 (by decide) rfl ?_
    refine g_aload_n C dL_law_1334 rfl 4 rfl ?_
    refine g_FVi (ci := 3) (st := []) C (k_X2_thrown l D cy zs am lab9 has9 quo9 spe9 nam9 gif9 fol9 siz9 cel9 giv9 nf9 lis9 lc9 see9 cnt9 1 hM9) gL_law_X2_thrown rfl ⟨rfl, ydX2_thrown⟩ 0 rfl rfl ⟨Nat.le_of_ble_eq_true rfl, Nat.le_of_ble_eq_true rfl⟩ ⟨hk, hn⟩ rfl (Nat.le_of_ble_eq_true rfl) dL_law_1335 (fun r6 w6 h6 => ?_)
    obtain ⟨h6a, h6b⟩ := h6
    subst h6a
    subst h6b
    refine g_perm (ws' := ((wC cy ac (zs 0) labC9 quoC9 speC9 mdC9 edC9 lisC9 lcC9 seeC9 cntC9 Fs9 ++ [((o, .inl (cy 2, 1, .inr (.inl g))) : Nat × va_E)]) ++ wM cy am lab9 has9 quo9 spe9 nam9 gif9 fol9 siz9 cel9 giv9 nf9 lis9 lc9 see9 cnt9 1)) (X := []) (perm_ab _ _) ?_
    refine g_iload C dL_law_1338 1 rfl ?_
    refine g_icmp_eq (tgt := 1345) C dL_law_1340 (by decide) (fun c1340 => ?_) (fun c1340 => ?_)
    · skip
      have c1340 := c_eq0 (by omega) (by omega) c1340
      refine g_iload C dL_law_1345 1 rfl ?_
      refine g_if_ne (tgt := 1362) C dL_law_1347 (by decide) (fun c1347 => ?_) (fun c1347 => ?_)
      · skip
        have c1347 := cz_eq1 (by omega) c1347
        refine g_goto (tgt := 1433) C dL_law_1362 (by decide) ?_
        exact g_sub (lv' := [(0, .ref b), (1, .ref (ac 0)), (2, .ref (am 0)), (3, .ref o), (4, .int (nI i))]) [2, 3, 4, 5, 6] rfl (next (lab9, has9, quo9, spe9, nam9, gif9, fol9, siz9, cel9, giv9, nf9, lis9, lc9, see9, cnt9) (labC9, quoC9, speC9, mdC9, edC9, lisC9, lcC9, seeC9, cntC9, Fs9) g 1 hR9)
      · skip
        exact absurd c1347 (by decide +kernel)
    · skip
      exact absurd c1340 (by decide +kernel)
set_option maxRecDepth 100000 in
set_option maxHeartbeats 4000000 in
theorem b_told {p : Program} {l : Launch} {e : Env} {s : State} {m : MethodId} {b : Nat} {below : List Frame} {meth : Method} {c : Code} {D : va_G} {cy : Nat → ClassId} {zs : Nat → Nat} {A : Nat → Prop} {Q : State → Prop} {k n L i : Nat} {xs : Nat → Int32} {rt : Option FieldType} (C : Cx p s m #[.ref b] meth c cL_law 7 RL wsL_law D cy zs A rt) (hst : l.stackTraces = false) (hX : va_X b L xs s s.heap) (hbl : b < s.heap.size) (hbA : ¬ A b) (hi : i + 5 ≤ L) (hL : L ≤ 2560) (am ac : Nat → Nat) (o : Nat) (g : Nat → Int64) (thr : Nat) {lab : Nat → Nat} {has : Nat → Bool} {quo spe nam : Nat → Nat} {gif : Nat → Bool} {fol : Nat → Int32} {siz : Nat → Nat} {cel : Nat → Int32} {giv : Nat → Bool} {nf : Nat} {lis : Nat → Nat} {lc : Nat} {see : Nat → Int32} {cnt : Nat → Nat} {labC : Nat → Option Nat} {quoC speC : Nat → Nat} {mdC : Int32} {edC : Option (Nat × Nat)} {lisC : Nat → Nat} {lcC : Nat} {seeC : Nat → Nat → Int32} {cntC : Nat → Nat} {Fs : List FT} (hRR : RR lab has quo spe nam gif fol siz cel giv nf lis lc see cnt labC quoC speC edC lisC lcC seeC cntC Fs) (hk : k + 12 ≤ room_1.cells) (hn : n + 500 ≤ room_1.slots) (next : ∀ (m9 : MS) (c9 : CS) (g9 : Nat → Int64) (thr9 : Nat), RT m9 c9 → GG p l e room_1 s m #[.ref b] below meth c D A 7 Q ((wCt cy ac (zs 0) c9 ++ [((o, .inl (cy 2, 1, .inr (.inl g9))) : Nat × va_E)]) ++ wMt cy am m9 thr9) (k + 12) (n + 500) [(0, .ref b), (1, .ref (ac 0)), (2, .ref (am 0)), (3, .ref o), (4, .int (nI i))] 1433 []) : GG p l e room_1 s m #[.ref b] below meth c D A 7 Q ((wC cy ac (zs 0) labC quoC speC mdC edC lisC lcC seeC cntC Fs ++ [((o, .inl (cy 2, 1, .inr (.inl g))) : Nat × va_E)]) ++ wM cy am lab has quo spe nam gif fol siz cel giv nf lis lc see cnt thr) k n [(0, .ref b), (1, .ref (ac 0)), (2, .ref (am 0)), (3, .ref o), (4, .int (nI i))] 1365 [] := by
  obtain ⟨hM, hC, hl9, hqu, hsp, hfi, hls, he9⟩ := id hRR
  refine g_aload_n C dL_law_1365 rfl 1 rfl ?_
  refine g_aload_n C dL_law_1366 rfl 0 rfl ?_
  refine g_iload C dL_law_1367 4 rfl ?_
  refine g_iconst (v := nI 1) C dL_law_1369 (by decide +kernel) ?_
  refine g_iadd (v := nI (i + 1)) C dL_law_1370 (nI_add _ _) ?_
  refine g_sld C hX hbl hbA (show i + 1 < L by omega) (by omega) dL_law_1371 ?_
  refine g_aload_n C dL_law_1372 rfl 0 rfl ?_
  refine g_iload C dL_law_1373 4 rfl ?_
  refine g_iconst (v := nI 2) C dL_law_1375 (by decide +kernel) ?_
  refine g_iadd (v := nI (i + 2)) C dL_law_1376 (nI_add _ _) ?_
  refine g_sld C hX hbl hbA (show i + 2 < L by omega) (by omega) dL_law_1377 ?_
  refine g_aload_n C dL_law_1378 rfl 3 rfl ?_
  refine g_FSi (st := []) C (k_L_told l D cy zs hst ac labC quoC speC mdC edC lisC lcC seeC cntC Fs hC o g (xs (i + 1)) (xs (i + 2))) gL_law_L_told rfl ydL_told ⟨Nat.le_of_ble_eq_true rfl, Nat.le_of_ble_eq_true rfl⟩ ⟨hk, hn⟩ rfl (Nat.le_of_ble_eq_true rfl) dL_law_1379 (fun r8 w8 h8 => ?_)
  refine g_istore (lv' := [(5, .int r8), (0, .ref b), (1, .ref (ac 0)), (2, .ref (am 0)), (3, .ref o), (4, .int (nI i))]) C dL_law_1382 (by decide) rfl ?_
  refine g_aload_n C dL_law_1384 rfl 3 rfl ?_
  refine g_aload_n C dL_law_1385 rfl 1 rfl ?_
  refine g_iload C dL_law_1386 5 rfl ?_
  refine g_iconst (v := nI 1) C dL_law_1388 (by decide +kernel) ?_
  refine g_iadd (v := nI (i + 1)) C dL_law_1389 (nI_add _ _) ?_
  refine g_sld C hX hbl hbA (show i + 1 < L by omega) (by omega) dL_law_1390 ?_
  refine g_aload_n C dL_law_1391 rfl 1 rfl ?_
  refine g_iload C dL_law_1392 5 rfl ?_
  refine g_iconst (v := nI 2) C dL_law_1394 (by decide +kernel) ?_
  refine g_iadd (v := nI (i + 2)) C dL_law_1395 (nI_add _ _) ?_
  refine g_sld C hX hbl hbA (show i + 2 < L by omega) (by omega) dL_law_1396 ?_
  refine g_perm (ws' := wM cy am lab has quo spe nam gif fol siz cel giv nf lis lc see cnt thr ++ w8) (X := []) (perm_ab _ _) ?_
  refine g_FVi (ci := 3) (st := []) C (k_X2_told l D cy zs am lab has quo spe nam gif fol siz cel giv nf lis lc see cnt thr hM (xs (i + 1)) (xs (i + 2))) gL_law_X2_told rfl ⟨rfl, ydX2_told⟩ 0 rfl rfl ⟨Nat.le_of_ble_eq_true rfl, Nat.le_of_ble_eq_true rfl⟩ ⟨hk, hn⟩ rfl (Nat.le_of_ble_eq_true rfl) dL_law_1397 (fun r7 w7 h7 => ?_)
  have hs := sim_told (zs := zs) (ac := ac) (mdC := mdC) hRR (show PM_told cy am lab has quo spe nam gif fol siz cel giv nf lis lc see cnt (xs (i + 1)) (xs (i + 2)) r7 w7 from h7)
  rcases h8 with ⟨r1, w1, hp, hr8, hw8⟩ | ⟨w1, hp, hr8, hw8⟩
  · skip
    obtain ⟨⟨lab9, has9, quo9, spe9, nam9, gif9, fol9, siz9, cel9, giv9, nf9, lis9, lc9, see9, cnt9⟩, ⟨labC9, quoC9, speC9, mdC9, edC9, lisC9, lcC9, seeC9, cntC9, Fs9⟩, hR9, e1, e2, e3⟩ := hs.1 r1 w1 hp
    subst e3
    subst e1
    subst e2
    subst hr8
    subst hw8
    have hRR9 : RR lab9 has9 quo9 spe9 nam9 gif9 fol9 siz9 cel9 giv9 nf9 lis9 lc9 see9 cnt9 labC9 quoC9 speC9 edC9 lisC9 lcC9 seeC9 cntC9 Fs9 := hR9
    have hM9 : MI lab9 quo9 spe9 nam9 siz9 cnt9 lis9 nf9 lc9 := by obtain ⟨h9, -⟩ := id hRR9; exact h9
    refine g_weq (ws' := (wM cy am lab9 has9 quo9 spe9 nam9 gif9 fol9 siz9 cel9 giv9 nf9 lis9 lc9 see9 cnt9 0 ++ (wC cy ac (zs 0) labC9 quoC9 speC9 mdC9 edC9 lisC9 lcC9 seeC9 cntC9 Fs9 ++ [((o, .inl (cy 2, 1, .inr (.inl (vp_updL g 0 (r1).toInt64)))) : Nat × va_E)]))) rfl ?_
    refine g_istore (lv' := [(6, .int r1), (5, .int (nI 0)), (0, .ref b), (1, .ref (ac 0)), (2, .ref (am 0)), (3, .ref o), (4, .int (nI i))]) C dL_law_1400 (by decide) rfl ?_
    refine g_aload_n C dL_law_1402 rfl 4 rfl ?_
    refine g_FVi (ci := 3) (st := []) C (k_X2_thrown l D cy zs am lab9 has9 quo9 spe9 nam9 gif9 fol9 siz9 cel9 giv9 nf9 lis9 lc9 see9 cnt9 0 hM9) gL_law_X2_thrown rfl ⟨rfl, ydX2_thrown⟩ 0 rfl rfl ⟨Nat.le_of_ble_eq_true rfl, Nat.le_of_ble_eq_true rfl⟩ ⟨hk, hn⟩ rfl (Nat.le_of_ble_eq_true rfl) dL_law_1403 (fun r6 w6 h6 => ?_)
    obtain ⟨h6a, h6b⟩ := h6
    subst h6a
    subst h6b
    refine g_perm (ws' := ((wC cy ac (zs 0) labC9 quoC9 speC9 mdC9 edC9 lisC9 lcC9 seeC9 cntC9 Fs9 ++ [((o, .inl (cy 2, 1, .inr (.inl (vp_updL g 0 (r1).toInt64)))) : Nat × va_E)]) ++ wM cy am lab9 has9 quo9 spe9 nam9 gif9 fol9 siz9 cel9 giv9 nf9 lis9 lc9 see9 cnt9 0)) (X := []) (perm_ab _ _) ?_
    refine g_iload C dL_law_1406 1 rfl ?_
    refine g_icmp_eq (tgt := 1413) C dL_law_1408 (by decide) (fun c1408 => ?_) (fun c1408 => ?_)
    · skip
      have c1408 := c_eq0 (by omega) (by omega) c1408
      refine g_iload C dL_law_1413 1 rfl ?_
      refine g_if_ne (tgt := 1430) C dL_law_1415 (by decide) (fun c1415 => ?_) (fun c1415 => ?_)
      · skip
        exact absurd c1415 (by decide +kernel)
      · skip
        have c1415 := cz_eq0 (by omega) c1415
        refine g_aload_n C dL_law_1418 rfl 5 rfl ?_
        refine g_iconst (v := nI 0) C dL_law_1419 (by decide +kernel) ?_
        refine g_lald (nn := 1) (i := nI 0) (v := (r1).toInt64) C (wC cy ac (zs 0) labC9 quoC9 speC9 mdC9 edC9 lisC9 lcC9 seeC9 cntC9 Fs9).length (app_at (tl_at rfl)) (vp_in_nI (by omega) (by omega)) (by rw [nI_clamp (by omega)]; exact if_pos rfl) dL_law_1420 ?_
        refine g_iload C dL_law_1421 0 rfl ?_
        refine g_i2l (v := (r1).toInt64) C dL_law_1423 rfl ?_
        refine g_lcmp (v := nI 0) C dL_law_1424 (lg_self _) ?_
        refine g_if_eq (tgt := 1430) C dL_law_1425 (by decide) (fun c1425 => ?_) (fun c1425 => ?_)
        · skip
          have c1425 := cz_eq0 (by omega) c1425
          refine g_goto (tgt := 1433) C dL_law_1430 (by decide) ?_
          exact g_sub (lv' := [(0, .ref b), (1, .ref (ac 0)), (2, .ref (am 0)), (3, .ref o), (4, .int (nI i))]) [2, 3, 4, 5, 6] rfl (next (lab9, has9, quo9, spe9, nam9, gif9, fol9, siz9, cel9, giv9, nf9, lis9, lc9, see9, cnt9) (labC9, quoC9, speC9, mdC9, edC9, lisC9, lcC9, seeC9, cntC9, Fs9) (vp_updL g 0 (r1).toInt64) 0 hR9)
        · skip
          exact absurd c1425 (by decide +kernel)
    · skip
      exact absurd c1408 (by decide +kernel)
  · skip
    obtain ⟨⟨lab9, has9, quo9, spe9, nam9, gif9, fol9, siz9, cel9, giv9, nf9, lis9, lc9, see9, cnt9⟩, ⟨labC9, quoC9, speC9, mdC9, edC9, lisC9, lcC9, seeC9, cntC9, Fs9⟩, k9, hR9, e1, e2, e3⟩ := hs.2 "java/lang/IllegalArgumentException" w1 hp
    have hk9 : k9 = 1 := by rcases e3 with e3 | e3; exact e3.2; exact absurd e3.1 (by decide)
    subst hk9
    subst e1
    subst e2
    subst hr8
    subst hw8
    have hRR9 : RR lab9 has9 quo9 spe9 nam9 gif9 fol9 siz9 cel9 giv9 nf9 lis9 lc9 see9 cnt9 labC9 quoC9 speC9 edC9 lisC9 lcC9 seeC9 cntC9 Fs9 := hR9
    have hM9 : MI lab9 quo9 spe9 nam9 siz9 cnt9 lis9 nf9 lc9 := by obtain ⟨h9, -⟩ := id hRR9; exact h9
    refine g_weq (ws' := (wM cy am lab9 has9 quo9 spe9 nam9 gif9 fol9 siz9 cel9 giv9 nf9 lis9 lc9 see9 cnt9 1 ++ (wC cy ac (zs 0) labC9 quoC9 speC9 mdC9 edC9 lisC9 lcC9 seeC9 cntC9 Fs9 ++ [((o, .inl (cy 2, 1, .inr (.inl g))) : Nat × va_E)]))) rfl ?_
    refine g_istore (lv' := [(6, .int r7), (5, .int (nI 1)), (0, .ref b), (1, .ref (ac 0)), (2, .ref (am 0)), (3, .ref o), (4, .int (nI i))]) C dL_law_1400 (by decide) rfl ?_
    refine g_aload_n C dL_law_1402 rfl 4 rfl ?_
    refine g_FVi (ci := 3) (st := []) C (k_X2_thrown l D cy zs am lab9 has9 quo9 spe9 nam9 gif9 fol9 siz9 cel9 giv9 nf9 lis9 lc9 see9 cnt9 1 hM9) gL_law_X2_thrown rfl ⟨rfl, ydX2_thrown⟩ 0 rfl rfl ⟨Nat.le_of_ble_eq_true rfl, Nat.le_of_ble_eq_true rfl⟩ ⟨hk, hn⟩ rfl (Nat.le_of_ble_eq_true rfl) dL_law_1403 (fun r6 w6 h6 => ?_)
    obtain ⟨h6a, h6b⟩ := h6
    subst h6a
    subst h6b
    refine g_perm (ws' := ((wC cy ac (zs 0) labC9 quoC9 speC9 mdC9 edC9 lisC9 lcC9 seeC9 cntC9 Fs9 ++ [((o, .inl (cy 2, 1, .inr (.inl g))) : Nat × va_E)]) ++ wM cy am lab9 has9 quo9 spe9 nam9 gif9 fol9 siz9 cel9 giv9 nf9 lis9 lc9 see9 cnt9 1)) (X := []) (perm_ab _ _) ?_
    refine g_iload C dL_law_1406 1 rfl ?_
    refine g_icmp_eq (tgt := 1413) C dL_law_1408 (by decide) (fun c1408 => ?_) (fun c1408 => ?_)
    · skip
      have c1408 := c_eq0 (by omega) (by omega) c1408
      refine g_iload C dL_law_1413 1 rfl ?_
      refine g_if_ne (tgt := 1430) C dL_law_1415 (by decide) (fun c1415 => ?_) (fun c1415 => ?_)
      · skip
        have c1415 := cz_eq1 (by omega) c1415
        refine g_goto (tgt := 1433) C dL_law_1430 (by decide) ?_
        exact g_sub (lv' := [(0, .ref b), (1, .ref (ac 0)), (2, .ref (am 0)), (3, .ref o), (4, .int (nI i))]) [2, 3, 4, 5, 6] rfl (next (lab9, has9, quo9, spe9, nam9, gif9, fol9, siz9, cel9, giv9, nf9, lis9, lc9, see9, cnt9) (labC9, quoC9, speC9, mdC9, edC9, lisC9, lcC9, seeC9, cntC9, Fs9) g 1 hR9)
      · skip
        exact absurd c1415 (by decide +kernel)
    · skip
      exact absurd c1408 (by decide +kernel)
