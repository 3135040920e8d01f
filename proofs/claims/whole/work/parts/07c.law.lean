/-! the law's start: what the tables and the claim's words say of it -/
theorem law_K {s : State} {b : Nat} (hts : ∀ w ∈ lw_tbl, w.before #[.ref b] s = true) : ∃ (D : va_G) (cy : Nat → ClassId), va_K D vwCl (TY cy) s := by
  obtain ⟨c0, i0, k0⟩ := u_known hts inJx4a65c (hts (.instantiable RJx4a65c 3) (by decide +kernel))
  obtain ⟨c1, i1, k1⟩ := u_known hts inX0 (hts (.instantiable RX0 6) (by decide +kernel))
  obtain ⟨c2, i2, k2⟩ := u_known hts inX1 (hts (.instantiable RX1 8) (by decide +kernel))
  obtain ⟨c3, i3, k3⟩ := u_known hts inX2 (hts (.instantiable RX2 16) (by decide +kernel))
  obtain ⟨a0, ka0, p0, f0, g0, h0⟩ := Cond.arrayClass_spec (hts (.arrayClass .int) (by decide +kernel))
  obtain ⟨a1, ka1, p1, f1, g1, h1⟩ := Cond.arrayClass_spec (hts (.arrayClass .boolean) (by decide +kernel))
  obtain ⟨a2, ka2, p2, f2, g2, h2⟩ := Cond.arrayClass_spec (hts (.arrayClass .long) (by decide +kernel))
  obtain ⟨p3, a3, ka3, e3, -, g3, h3, f3⟩ := Cond.arrayOver_spec (hts (.arrayOver (.object "java/lang/Object")) (by decide +kernel))
  obtain ⟨p4, a4, ka4, e4, g4, h4, f4⟩ := Cond.arrayOver_specA (hts (.arrayOver (.array .int)) (by decide +kernel))
  refine ⟨(fun k => match k with | 0 => c0 | 1 => c1 | 2 => c2 | _ => c3, fun k => match k with | 0 => i0 | 1 => i1 | 2 => i2 | _ => i3), fun k => match k with | 0 => a0 | 1 => a1 | 2 => a2 | 3 => a3 | _ => a4, fun c q h => ?_, fun k q h => ?_⟩
  · match c, h with
    | 0, h => cases h; exact k0
    | 1, h => cases h; exact k1
    | 2, h => cases h; exact k2
    | 3, h => cases h; exact k3
    | n + 4, h => exact absurd h (by simp)
  · match k, h with
    | 0, h => cases h; exact ⟨fun n z => ⟨(fun k h => by cases h), ka0, g0, p0, h0⟩, f0⟩
    | 1, h => cases h; exact ⟨fun n z => ⟨(fun k h => by cases h), ka1, g1, p1, h1⟩, f1⟩
    | 2, h => cases h; exact ⟨fun n z => ⟨(fun k h => by cases h), ka2, g2, p2, h2⟩, f2⟩
    | 3, h => cases h; exact ⟨fun n z => ⟨(fun k h => by cases h), ka3, g3, p3, h3⟩, ka3, p3, g3, h3, e3, f3⟩
    | 4, h => cases h; exact ⟨fun n z => ⟨(fun k h => by cases h), ka4, g4, p4, h4⟩, f4⟩
    | n + 5, h => exact absurd h (by simp)
theorem law_str {s : State} {args : Array Value} {k : Nat} {tx : String} (h1 : (Cond.stringRef RX1 k tx).before args s = true) (h2 : (Cond.exactly (.string RX1 k) "java/lang/String").before args s = true) : ∃ a : Nat, vk_R RX1 k tx a s := by
  obtain ⟨a, c, cell, kk, q1, -⟩ := Cond.exactly_spec h2
  exact ⟨a, vk_R.of h1 q1⟩
theorem law_Z {s : State} {b : Nat} (hts : ∀ w ∈ lw_tbl, w.before #[.ref b] s = true) (hgv : (Jvm.Cond.and given_1 narrow_1).before #[.ref b] s = true) : ∃ zs : Nat → Nat, ZS zs (fun q => s.heap.size ≤ q) s s.heap := by
  have hs := flat_of_before _ hgv
  have hA : ∀ a : Nat, a < s.heap.size → ¬ s.heap.size ≤ a := fun a h => Nat.not_le.mpr h
  obtain ⟨mi, hmi⟩ := va_Mi.of (hs (.isRef (.mirror "[Ljava/lang/Object;")) (by decide +kernel))
  obtain ⟨t0, ht0⟩ := law_str (hts (.stringRef RX1 60 "the labels are one") (by decide +kernel)) (hs (.exactly (.string RX1 60) "java/lang/String") (by decide +kernel))
  obtain ⟨t1, ht1⟩ := law_str (hts (.stringRef RX1 75 "32 are listed already") (by decide +kernel)) (hs (.exactly (.string RX1 75) "java/lang/String") (by decide +kernel))
  obtain ⟨t2, ht2⟩ := law_str (hts (.stringRef RX1 98 "200 files are there") (by decide +kernel)) (hs (.exactly (.string RX1 98) "java/lang/String") (by decide +kernel))
  obtain ⟨t3, ht3⟩ := law_str (hts (.stringRef RX1 161 "nothing such is told") (by decide +kernel)) (hs (.exactly (.string RX1 161) "java/lang/String") (by decide +kernel))
  obtain ⟨t4, ht4⟩ := law_str (hts (.stringRef RX1 163 "no subject") (by decide +kernel)) (hs (.exactly (.string RX1 163) "java/lang/String") (by decide +kernel))
  obtain ⟨t5, ht5⟩ := law_str (hts (.stringRef RX1 165 "no label") (by decide +kernel)) (hs (.exactly (.string RX1 165) "java/lang/String") (by decide +kernel))
  obtain ⟨t6, ht6⟩ := law_str (hts (.stringRef RX1 167 "no number of a file") (by decide +kernel)) (hs (.exactly (.string RX1 167) "java/lang/String") (by decide +kernel))
  obtain ⟨t7, ht7⟩ := law_str (hts (.stringRef RX1 169 "no cell") (by decide +kernel)) (hs (.exactly (.string RX1 169) "java/lang/String") (by decide +kernel))
  obtain ⟨t8, ht8⟩ := law_str (hts (.stringRef RX1 171 "no folder") (by decide +kernel)) (hs (.exactly (.string RX1 171) "java/lang/String") (by decide +kernel))
  obtain ⟨t9, ht9⟩ := law_str (hts (.stringRef RX1 173 "no such amount") (by decide +kernel)) (hs (.exactly (.string RX1 173) "java/lang/String") (by decide +kernel))
  have hlen := Cond.eq_int (n := 0) (hs (.eq (.length (.static "java/util/ArrayList" "DEFAULTCAPACITY_EMPTY_ELEMENTDATA" "[Ljava/lang/Object;")) (.int 0)) (by decide +kernel)) rfl
  obtain ⟨t, e1, e2⟩ := va_Tof (N := 0) (f := fun _ => .null) (by decide) (hs (.arrayOf (.static "java/util/ArrayList" "DEFAULTCAPACITY_EMPTY_ELEMENTDATA" "[Ljava/lang/Object;") (.object "java/lang/Object")) (by decide +kernel)) hlen (fun j hj => absurd hj (Nat.not_lt_zero _)) hA
  have e3 := va_Zof (hts (.laysStatic "java/util/ArrayList" "DEFAULTCAPACITY_EMPTY_ELEMENTDATA" "[Ljava/lang/Object;") (by decide +kernel)) (hts (.initialized "java/util/ArrayList") (by decide +kernel)) e1 hA
  have z1 := vx_Zqof (hts (.laysStatic Bundle.tN "UNASSIGNED_STACK" Bundle.steD) (by decide +kernel)) (hts (.initialized Bundle.tN) (by decide +kernel)) (hs (.isRef (.static Bundle.tN "UNASSIGNED_STACK" Bundle.steD)) (by decide +kernel)) hA
  have z2 := vx_Zqof (hts (.laysStatic Bundle.tN "SUPPRESSED_SENTINEL" Bundle.listD) (by decide +kernel)) (hts (.initialized Bundle.tN) (by decide +kernel)) (hs (.isRef (.static Bundle.tN "SUPPRESSED_SENTINEL" Bundle.listD)) (by decide +kernel)) hA
  refine ⟨fun k => match k with | 0 => t | 1 => mi | 2 => t0 | 3 => t1 | 4 => t2 | 5 => t3 | 6 => t4 | 7 => t5 | 8 => t6 | 9 => t7 | 10 => t8 | _ => t9, ⟨va_AOA.of (hts (.arrayOver (.array .int)) (by decide +kernel)), va_AO.of (hts (.arrayOver (.object "java/lang/Object")) (by decide +kernel)), va_Nw.of rfl (hts (.castable RX0 "java/lang/Object") (by decide +kernel)), hmi, va_Dc.of (hts (.declares ⟨"java/lang/Object", "getClass", "()Ljava/lang/Class;"⟩) (by decide +kernel)), fun k hk => ?_, va_Nw.of rfl (hts (.castable "java/lang/IllegalArgumentException" "java/lang/IllegalArgumentException") (by decide +kernel)), va_Nw.of rfl (hts (.castable "java/lang/UnsupportedOperationException" "java/lang/UnsupportedOperationException") (by decide +kernel)), va_Nw.of rfl (hts (.declares (Bundle.initS "java/lang/RuntimeException")) (by decide +kernel)), va_Nw.of rfl (hts (.declares (Bundle.initS "java/lang/Exception")) (by decide +kernel)), va_Nw.of rfl (hts (.declares (Bundle.initS Bundle.tN)) (by decide +kernel)), va_Nc.of (hs (.not (.castable "java/lang/UnsupportedOperationException" "java/lang/IllegalArgumentException")) (by decide +kernel))⟩, e3, e2, z1, z2⟩
  match k, hk with
  | 0, _ => exact ht0
  | 1, _ => exact ht1
  | 2, _ => exact ht2
  | 3, _ => exact ht3
  | 4, _ => exact ht4
  | 5, _ => exact ht5
  | 6, _ => exact ht6
  | 7, _ => exact ht7
  | 8, _ => exact ht8
  | 9, _ => exact ht9
  | n + 10, h => omega
set_option maxRecDepth 100000 in
set_option maxHeartbeats 4000000 in
theorem law_loop {p : Program} {l : Launch} {e : Env} {s : State} {m : MethodId} {b : Nat} {below : List Frame} {meth : Method} {c : Code} {D : va_G} {cy : Nat → ClassId} {zs : Nat → Nat} {A : Nat → Prop} {Q : State → Prop} {L : Nat} {xs : Nat → Int32} {rt : Option FieldType} (C : Cx p s m #[.ref b] meth c cL_law 7 RL wsL_law D cy zs A rt) (hst : l.stackTraces = false) (hX : va_X b L xs s s.heap) (hbl : b < s.heap.size) (hbA : ¬ A b) (hL : L ≤ 2560) (am ac : Nat → Nat) (o : Nat) (fin : ∀ (ws : va_W) (k n : Nat) (lv : List (Nat × Value)), k ≤ room_1.cells → n ≤ room_1.slots → GG p l e room_1 s m #[.ref b] below meth c D A 7 Q ws k n lv 1440 [.int (nI 1)]) : ∀ (d i : Nat) (k n : Nat) (m1 : MS) (c1 : CS) (g : Nat → Int64) (thr : Nat), L ≤ i + d → i ≤ L → RT m1 c1 → k + 12 * d ≤ room_1.cells → n + 500 * d ≤ room_1.slots → GG p l e room_1 s m #[.ref b] below meth c D A 7 Q ((wCt cy ac (zs 0) c1 ++ [((o, .inl (cy 2, 1, .inr (.inl g))) : Nat × va_E)]) ++ wMt cy am m1 thr) k n [(0, .ref b), (1, .ref (ac 0)), (2, .ref (am 0)), (3, .ref o), (4, .int (nI i))] 23 [] := by
  intro d
  induction d with
  | zero =>
    intro i k n m1 c1 g thr hd hi hR hk hn
    refine g_iload C dL_law_23 4 rfl ?_
    refine g_aload_n C dL_law_25 rfl 0 rfl ?_
    refine g_slen C hX hbl hbA dL_law_26 ?_
    refine g_iconst (v := nI 5) C dL_law_27 (by decide +kernel) ?_
    refine g_isub (v := nI L - nI 5) C dL_law_28 rfl ?_
    refine g_icmp_gt (tgt := 1439) C dL_law_29 (by decide) (fun h => ?_) (fun h => ?_)
    · refine g_iconst (v := nI 1) C dL_law_1439 (by decide +kernel) ?_
      exact fin _ _ _ _ (by omega) (by omega)
    · exfalso
      exact h (Int32.lt_iff_toInt_lt.mpr (by rw [pk_sub_toInt (by omega) (by omega), nI_toInt (by omega)]; omega))
  | succ d ih =>
    intro i k n m1 c1 g thr hd hi hR hk hn
    refine g_iload C dL_law_23 4 rfl ?_
    refine g_aload_n C dL_law_25 rfl 0 rfl ?_
    refine g_slen C hX hbl hbA dL_law_26 ?_
    refine g_iconst (v := nI 5) C dL_law_27 (by decide +kernel) ?_
    refine g_isub (v := nI L - nI 5) C dL_law_28 rfl ?_
    refine g_icmp_gt (tgt := 1439) C dL_law_29 (by decide) (fun h => ?_) (fun h => ?_)
    · refine g_iconst (v := nI 1) C dL_law_1439 (by decide +kernel) ?_
      exact fin _ _ _ _ (by omega) (by omega)
    · have hi5 : i + 5 ≤ L := by
        have h1 : ¬ (nI L - nI 5).toInt < (nI i).toInt := fun q => h (Int32.lt_iff_toInt_lt.mpr q)
        rw [pk_sub_toInt (by omega) (by omega), nI_toInt (by omega)] at h1
        omega
      refine g_aload_n C dL_law_32 rfl 0 rfl ?_
      refine g_iload C dL_law_33 4 rfl ?_
      refine g_sld C hX hbl hbA (show i < L by omega) (by omega) dL_law_35 ?_
      refine g_bipush (v := nI 15) C dL_law_36 (by decide +kernel) ?_
      obtain ⟨t, ht, et⟩ := pk_andE (xs i) (m := nI 15) 4 (by decide +kernel)
      refine g_iand (v := nI t) C dL_law_38 et ?_
      obtain ⟨lab, has, quo, spe, nam, gif, fol, siz, cel, giv, nf, lis, lc, see, cnt⟩ := m1
      obtain ⟨labC, quoC, speC, mdC, edC, lisC, lcC, seeC, cntC, Fs⟩ := c1
      have hRR : RR lab has quo spe nam gif fol siz cel giv nf lis lc see cnt labC quoC speC edC lisC lcC seeC cntC Fs := hR
      have next : ∀ (m9 : MS) (c9 : CS) (g9 : Nat → Int64) (thr9 : Nat), RT m9 c9 → GG p l e room_1 s m #[.ref b] below meth c D A 7 Q ((wCt cy ac (zs 0) c9 ++ [((o, .inl (cy 2, 1, .inr (.inl g9))) : Nat × va_E)]) ++ wMt cy am m9 thr9) (k + 12) (n + 500) [(0, .ref b), (1, .ref (ac 0)), (2, .ref (am 0)), (3, .ref o), (4, .int (nI i))] 1433 [] := by
        intro m9 c9 g9 thr9 hR9
        refine g_iinc (q := 4) (v := nI (i + 5)) (lv' := [(4, .int (nI (i + 5))), (0, .ref b), (1, .ref (ac 0)), (2, .ref (am 0)), (3, .ref o)]) C dL_law_1433 rfl (nI_inc5 i) (by decide) rfl ?_
        refine g_goto (tgt := 23) C dL_law_1436 (by decide) ?_
        exact g_sub (lv' := [(0, .ref b), (1, .ref (ac 0)), (2, .ref (am 0)), (3, .ref o), (4, .int (nI (i + 5)))]) [1, 2, 3, 4, 0] rfl (ih (i + 5) (k + 12) (n + 500) m9 c9 g9 thr9 (by omega) hi5 hR9 (by omega) (by omega))
      have hk1 : k + 12 ≤ room_1.cells := by omega
      have hn1 : n + 500 ≤ room_1.slots := by omega
      rcases (by omega : t = 0 ∨ t = 1 ∨ t = 2 ∨ t = 3 ∨ t = 4 ∨ t = 5 ∨ t = 6 ∨ t = 7 ∨ t = 8 ∨ t = 9 ∨ t = 10 ∨ t = 11 ∨ t = 12 ∨ t = 13 ∨ t = 14 ∨ t = 15) with rfl | rfl | rfl | rfl | rfl | rfl | rfl | rfl | rfl | rfl | rfl | rfl | rfl | rfl | rfl | rfl
      · refine g_tin (tgt := 116) C dL_law_39 (by decide +kernel) (by decide +kernel) (off := 77) (by decide +kernel) (by decide) ?_
        exact b_subject C hst hX hbl hbA hi5 hL am ac o g thr hRR hk1 hn1 next
      · refine g_tin (tgt := 191) C dL_law_39 (by decide +kernel) (by decide +kernel) (off := 152) (by decide +kernel) (by decide) ?_
        exact b_quota C hst hX hbl hbA hi5 hL am ac o g thr hRR hk1 hn1 next
      · refine g_tin (tgt := 259) C dL_law_39 (by decide +kernel) (by decide +kernel) (off := 220) (by decide +kernel) (by decide) ?_
        exact b_list C hst hX hbl hbA hi5 hL am ac o g thr hRR hk1 hn1 next
      · refine g_tin (tgt := 374) C dL_law_39 (by decide +kernel) (by decide +kernel) (off := 335) (by decide +kernel) (by decide) ?_
        exact b_flows C hst hX hbl hbA hi5 hL am ac o g thr hRR hk1 hn1 next
      · refine g_tin (tgt := 449) C dL_law_39 (by decide +kernel) (by decide +kernel) (off := 410) (by decide +kernel) (by decide) ?_
        exact b_make C hst hX hbl hbA hi5 hL am ac o g thr hRR hk1 hn1 next
      · refine g_tin (tgt := 541) C dL_law_39 (by decide +kernel) (by decide +kernel) (off := 502) (by decide +kernel) (by decide) ?_
        exact b_set C hst hX hbl hbA hi5 hL am ac o g thr hRR hk1 hn1 next
      · refine g_tin (tgt := 633) C dL_law_39 (by decide +kernel) (by decide +kernel) (off := 594) (by decide +kernel) (by decide) ?_
        exact b_give C hst hX hbl hbA hi5 hL am ac o g thr hRR hk1 hn1 next
      · refine g_tin (tgt := 725) C dL_law_39 (by decide +kernel) (by decide +kernel) (off := 686) (by decide +kernel) (by decide) ?_
        exact b_trim C hst hX hbl hbA hi5 hL am ac o g thr hRR hk1 hn1 next
      · refine g_tin (tgt := 805) C dL_law_39 (by decide +kernel) (by decide +kernel) (off := 766) (by decide +kernel) (by decide) ?_
        exact b_remove C hst hX hbl hbA hi5 hL am ac o g thr hRR hk1 hn1 next
      · refine g_tin (tgt := 873) C dL_law_39 (by decide +kernel) (by decide +kernel) (off := 834) (by decide +kernel) (by decide) ?_
        exact b_read C hst hX hbl hbA hi5 hL am ac o g thr hRR hk1 hn1 next
      · refine g_tin (tgt := 965) C dL_law_39 (by decide +kernel) (by decide +kernel) (off := 926) (by decide +kernel) (by decide) ?_
        exact b_size C hst hX hbl hbA hi5 hL am ac o g thr hRR hk1 hn1 next
      · refine g_tin (tgt := 1045) C dL_law_39 (by decide +kernel) (by decide +kernel) (off := 1006) (by decide +kernel) (by decide) ?_
        exact b_there C hst hX hbl hbA hi5 hL am ac o g thr hRR hk1 hn1 next
      · refine g_tin (tgt := 1125) C dL_law_39 (by decide +kernel) (by decide +kernel) (off := 1086) (by decide +kernel) (by decide) ?_
        exact b_listed C hst hX hbl hbA hi5 hL am ac o g thr hRR hk1 hn1 next
      · refine g_tin (tgt := 1205) C dL_law_39 (by decide +kernel) (by decide +kernel) (off := 1166) (by decide +kernel) (by decide) ?_
        exact b_release C hst hX hbl hbA hi5 hL am ac o g thr hRR hk1 hn1 next
      · refine g_tin (tgt := 1297) C dL_law_39 (by decide +kernel) (by decide +kernel) (off := 1258) (by decide +kernel) (by decide) ?_
        exact b_seen C hst hX hbl hbA hi5 hL am ac o g thr hRR hk1 hn1 next
      · refine g_tin (tgt := 1365) C dL_law_39 (by decide +kernel) (by decide +kernel) (off := 1326) (by decide +kernel) (by decide) ?_
        exact b_told C hst hX hbl hbA hi5 hL am ac o g thr hRR hk1 hn1 next
theorem rt_0 : RT ((fun _ => 0), (fun _ => false), (fun i => if i < 1024 then 40 else 0), (fun _ => 0), (fun _ => 0), (fun _ => false), (fun _ => 0), (fun _ => 0), (fun _ => 0), (fun _ => false), 0, (fun _ => 0), 0, (fun _ => 0), (fun _ => 0)) ((fun i => if i < 16 then none else some 0), (fun i => if i < 1024 then 40 else 0), (fun _ => 0), nI 0, none, (fun _ => 0), 0, (fun _ _ => 0), (fun _ => 0), []) := by
  refine rrm ⟨Nat.zero_le _, Nat.zero_le _, fun _ => (show 0 < 1024 by omega), fun i => ?_, fun _ => Nat.zero_le _, fun _ => (show 0 < 16384 by omega), fun _ => Nat.zero_le _, fun _ => Nat.zero_le _, fun _ => (show 0 < 1024 by omega)⟩ ⟨fun i L h => ?_, fun i => ?_, fun _ => Nat.zero_le _, Nat.zero_le _, fun _ => (show 0 < 16777216 by omega), fun _ => Nat.zero_le _, Nat.zero_le _, fun F hF => ?_, rfl⟩ (fun S hS => ?_) (fun _ _ => rfl) (fun _ _ => rfl) ⟨(show ([] : List AF).Perm [] from List.Perm.refl _), List.Pairwise.nil⟩ ⟨(show ([] : List Nat).Perm [] from List.Perm.refl _), (show ([] : List Nat).Nodup from List.nodup_nil), fun k hk => absurd hk (Nat.not_lt_zero _)⟩ (fun S hS => ⟨rfl, fun j hj => absurd hj (Nat.not_lt_zero _)⟩)
  · show (if i < 1024 then 40 else 0) ≤ 1000
    split <;> omega
  · have h : (if i < 16 then none else some 0) = some L := h
    by_cases e : i < 16
    · rw [if_pos e] at h
      cases h
    · rw [if_neg e] at h
      cases h
      omega
  · show (if i < 1024 then 40 else 0) ≤ 1000
    split <;> omega
  · cases hF
  · show none = if S < 16 then none else some 0
    rw [if_pos hS]
def I2 : Nat → FieldType := tyX2
theorem idle2 : ∀ j, j < 16 → defaultValue (tyX2 j) = vp_V [.null, .null, .null, .null, .null, .null, .null, .null, .null, .null, .int 0, .null, .int 0, .null, .null, .int 0] j := fun j hj => by
  rcases (by omega : j = 0 ∨ j = 1 ∨ j = 2 ∨ j = 3 ∨ j = 4 ∨ j = 5 ∨ j = 6 ∨ j = 7 ∨ j = 8 ∨ j = 9 ∨ j = 10 ∨ j = 11 ∨ j = 12 ∨ j = 13 ∨ j = 14 ∨ j = 15) with rfl | rfl | rfl | rfl | rfl | rfl | rfl | rfl | rfl | rfl | rfl | rfl | rfl | rfl | rfl | rfl <;> rfl
theorem idle1 : ∀ j, j < 8 → defaultValue (tyX1 j) = vp_V [.null, .null, .null, .null, .null, .int 0, .null, .null] j := fun j hj => by
  rcases (by omega : j = 0 ∨ j = 1 ∨ j = 2 ∨ j = 3 ∨ j = 4 ∨ j = 5 ∨ j = 6 ∨ j = 7) with rfl | rfl | rfl | rfl | rfl | rfl | rfl | rfl <;> rfl
theorem perm_abc {α : Type} (a b c : List α) : (((b ++ c) ++ a) ++ []).Perm ((a ++ b) ++ c) := by
  rw [List.append_nil, List.append_assoc a b c]
  exact List.perm_append_comm
set_option maxRecDepth 100000 in
set_option maxHeartbeats 4000000 in
theorem law_all {p : Program} {l : Launch} {e : Env} {s : State} {m : MethodId} {b : Nat} {below : List Frame} {meth : Method} {c : Code} {D : va_G} {cy : Nat → ClassId} {zs : Nat → Nat} {A : Nat → Prop} {Q : State → Prop} {L : Nat} {xs : Nat → Int32} {rt : Option FieldType} (C : Cx p s m #[.ref b] meth c cL_law 7 RL wsL_law D cy zs A rt) (hst : l.stackTraces = false) (hX : va_X b L xs s s.heap) (hbl : b < s.heap.size) (hbA : ¬ A b) (hL : L ≤ 2560) (fin : ∀ (ws : va_W) (k n : Nat) (lv : List (Nat × Value)), k ≤ room_1.cells → n ≤ room_1.slots → GG p l e room_1 s m #[.ref b] below meth c D A 7 Q ws k n lv 1440 [.int (nI 1)]) : GG p l e room_1 s m #[.ref b] below meth c D A 7 Q [] 0 0 [(0, .ref b)] 0 [] := by
  refine g_new (ci := 2) (fs := [.null, .null, .null, .null, .null, .int 0, .null, .null]) C inlX1 tyX1 tyX1_ok (C.hw (List.mem_append_left _ (List.mem_append_left _ (List.mem_append_left _ (List.mem_append_left _ (List.mem_append_left _ (List.mem_append_left _ (List.mem_append_left _ (List.mem_append_left _ (List.mem_of_getElem? (i := 0) rfl)))))))))) (C.hw (List.mem_append_left _ (List.mem_append_left _ (List.mem_append_left _ (List.mem_append_left _ (List.mem_append_left _ (List.mem_append_left _ (List.mem_append_left _ (List.mem_append_left _ (List.mem_of_getElem? (i := 1) rfl)))))))))) (C.hw (List.mem_append_left _ (List.mem_append_left _ (List.mem_append_left _ (List.mem_append_left _ (List.mem_append_left _ (List.mem_append_left _ (List.mem_append_left _ (List.mem_append_left _ (List.mem_of_getElem? (i := 2) rfl)))))))))) rfl idle1 (Nat.le_of_ble_eq_true rfl) (Nat.le_of_ble_eq_true rfl) dL_law_0 (fun h1 => ?_)
  refine g_dup C dL_law_3 rfl ?_
  refine g_Iv (ws := [(h1, .inr (2, [.null, .null, .null, .null, .null, .int 0, .null, .null]))]) (st := [.ref h1]) C (k_X1_init l D cy zs h1) gL_law_X1_init rfl (C.hw (List.mem_append_left _ (List.mem_append_left _ (List.mem_append_left _ (List.mem_append_left _ (List.mem_append_left _ (List.mem_append_left _ (List.mem_append_left _ (List.mem_append_left _ (List.mem_of_getElem? (i := 2) rfl)))))))))) (C.hw (List.mem_append_left _ (List.mem_append_left _ (List.mem_append_left _ (List.mem_append_left _ (List.mem_append_left _ (List.mem_append_left _ (List.mem_append_left _ (List.mem_append_left _ (List.mem_of_getElem? (i := 7) rfl)))))))))) (C.hw (List.mem_append_left _ (List.mem_append_left _ (List.mem_append_left _ (List.mem_append_left _ (List.mem_append_left _ (List.mem_append_left _ (List.mem_append_left _ (List.mem_append_left _ (List.mem_of_getElem? (i := 8) rfl)))))))))) rfl ydX1_init ⟨Nat.le_of_ble_eq_true rfl, Nat.le_of_ble_eq_true rfl⟩ ⟨Nat.le_of_ble_eq_true rfl, Nat.le_of_ble_eq_true rfl⟩ rfl (Nat.le_of_ble_eq_true rfl) dL_law_4 (fun w1 e1 => ?_)
  obtain ⟨ac, ea, ew⟩ := e1
  subst ea
  subst ew
  refine g_astore_n (lv' := [(1, .ref (ac 0)), (0, .ref b)]) C dL_law_7 rfl (by decide) rfl ?_
  refine g_new (ci := 3) (fs := [.null, .null, .null, .null, .null, .null, .null, .null, .null, .null, .int 0, .null, .int 0, .null, .null, .int 0]) C inlX2 tyX2 tyX2_ok (C.hw (List.mem_append_left _ (List.mem_append_left _ (List.mem_append_left _ (List.mem_append_left _ (List.mem_append_left _ (List.mem_append_left _ (List.mem_append_left _ (List.mem_append_left _ (List.mem_of_getElem? (i := 3) rfl)))))))))) (C.hw (List.mem_append_left _ (List.mem_append_left _ (List.mem_append_left _ (List.mem_append_left _ (List.mem_append_left _ (List.mem_append_left _ (List.mem_append_left _ (List.mem_append_left _ (List.mem_of_getElem? (i := 4) rfl)))))))))) (C.hw (List.mem_append_left _ (List.mem_append_left _ (List.mem_append_left _ (List.mem_append_left _ (List.mem_append_left _ (List.mem_append_left _ (List.mem_append_left _ (List.mem_append_left _ (List.mem_of_getElem? (i := 5) rfl)))))))))) rfl idle2 (Nat.le_of_ble_eq_true rfl) (Nat.le_of_ble_eq_true rfl) dL_law_8 (fun h2 => ?_)
  refine g_dup C dL_law_11 rfl ?_
  refine g_perm (ws' := ([(h2, .inr (3, [.null, .null, .null, .null, .null, .null, .null, .null, .null, .null, .int 0, .null, .int 0, .null, .null, .int 0]))] : va_W) ++ wC cy ac (zs 0) (fun i => if i < 16 then none else some 0) (fun i => if i < 1024 then 40 else 0) (fun _ => 0) (nI 0) none (fun _ => 0) 0 (fun _ _ => 0) (fun _ => 0) []) (X := []) (perm_ab _ _) ?_
  refine g_FIv (st := [.ref h2]) C (k_X2_init l D cy zs h2) gL_law_X2_init rfl (C.hw (List.mem_append_left _ (List.mem_append_left _ (List.mem_append_left _ (List.mem_append_left _ (List.mem_append_left _ (List.mem_append_left _ (List.mem_append_left _ (List.mem_append_left _ (List.mem_of_getElem? (i := 5) rfl)))))))))) (C.hw (List.mem_append_left _ (List.mem_append_left _ (List.mem_append_left _ (List.mem_append_left _ (List.mem_append_left _ (List.mem_append_left _ (List.mem_append_left _ (List.mem_append_right _ (List.mem_append_left _ (List.mem_of_getElem? (i := 21) rfl))))))))))) (C.hw (List.mem_append_left _ (List.mem_append_left _ (List.mem_append_left _ (List.mem_append_left _ (List.mem_append_left _ (List.mem_append_left _ (List.mem_append_left _ (List.mem_append_right _ (List.mem_append_left _ (List.mem_of_getElem? (i := 22) rfl))))))))))) rfl ydX2_init ⟨Nat.le_of_ble_eq_true rfl, Nat.le_of_ble_eq_true rfl⟩ ⟨Nat.le_of_ble_eq_true rfl, Nat.le_of_ble_eq_true rfl⟩ rfl (Nat.le_of_ble_eq_true rfl) dL_law_12 (fun w2 e2 => ?_)
  obtain ⟨am, eb, ev⟩ := e2
  subst eb
  subst ev
  refine g_astore_n (lv' := [(2, .ref (am 0)), (1, .ref (ac 0)), (0, .ref b)]) C dL_law_15 rfl (by decide) rfl ?_
  refine g_iconst (v := nI 1) C dL_law_16 (by decide +kernel) ?_
  refine g_newL C 1 (C.hw (List.mem_append_left _ (List.mem_append_left _ (List.mem_append_left _ (List.mem_append_left _ (List.mem_append_left _ (List.mem_append_left _ (List.mem_append_left _ (List.mem_append_left _ (List.mem_of_getElem? (i := 6) rfl)))))))))) (by decide +kernel) (by decide +kernel) (Nat.le_of_ble_eq_true rfl) (Nat.le_of_ble_eq_true rfl) (Nat.le_of_ble_eq_true rfl) dL_law_17 (fun o => ?_)
  refine g_astore_n (lv' := [(3, .ref o), (2, .ref (am 0)), (1, .ref (ac 0)), (0, .ref b)]) C dL_law_19 rfl (by decide) rfl ?_
  refine g_iconst (v := nI 0) C dL_law_20 (by decide +kernel) ?_
  refine g_istore (lv' := [(4, .int (nI 0)), (3, .ref o), (2, .ref (am 0)), (1, .ref (ac 0)), (0, .ref b)]) C dL_law_21 (by decide) rfl ?_
  refine g_perm (ws' := (wC cy ac (zs 0) (fun i => if i < 16 then none else some 0) (fun i => if i < 1024 then 40 else 0) (fun _ => 0) (nI 0) none (fun _ => 0) 0 (fun _ _ => 0) (fun _ => 0) [] ++ [((o, .inl (cy 2, 1, .inr (.inl (fun _ => 0)))) : Nat × va_E)]) ++ wM cy am (fun _ => 0) (fun _ => false) (fun i => if i < 1024 then 40 else 0) (fun _ => 0) (fun _ => 0) (fun _ => false) (fun _ => 0) (fun _ => 0) (fun _ => 0) (fun _ => false) 0 (fun _ => 0) 0 (fun _ => 0) (fun _ => 0) 0) (X := []) (perm_abc _ _ _) ?_
  refine g_sub (lv' := [(0, .ref b), (1, .ref (ac 0)), (2, .ref (am 0)), (3, .ref o), (4, .int (nI 0))]) [4, 3, 2, 1, 0] rfl ?_
  refine g_widen (k' := 100) (n' := 30000) (Nat.le_of_ble_eq_true rfl) (Nat.le_of_ble_eq_true rfl) ?_
  exact law_loop C hst hX hbl hbA hL am ac o fin 2560 0 100 30000 ((fun _ => 0), (fun _ => false), (fun i => if i < 1024 then 40 else 0), (fun _ => 0), (fun _ => 0), (fun _ => false), (fun _ => 0), (fun _ => 0), (fun _ => 0), (fun _ => false), 0, (fun _ => 0), 0, (fun _ => 0), (fun _ => 0)) ((fun i => if i < 16 then none else some 0), (fun i => if i < 1024 then 40 else 0), (fun _ => 0), nI 0, none, (fun _ => 0), 0, (fun _ _ => 0), (fun _ => 0), []) (fun _ => 0) 0 (by omega) (Nat.zero_le _) rt_0 (Nat.le_of_ble_eq_true rfl) (Nat.le_of_ble_eq_true rfl)
