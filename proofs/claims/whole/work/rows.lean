section
-- ===== PART A: goes FIRST, ahead of the names: the tables' words, and 'selects' of the private methods out of them =====
/-- a private method of a class that the tables say can be made, by its rows of tables_1 -/
def lw_okq (q : MethodName × Nat) : Prop := (q.1.cls ≠ "java/lang/invoke/MethodHandle" ∧ q.1.cls ≠ "java/lang/invoke/VarHandle") ∧ Cond.instantiable q.1.cls q.2 ∈ tables_1 ∧ Cond.privateMethod q.1 ∈ tables_1 ∧ Cond.instanceMethod q.1 ∈ tables_1
theorem lw_p0 : lw_okq (⟨"java/lang/Throwable", "fillInStackTrace", "(I)Ljava/lang/Throwable;"⟩, 6) := ⟨⟨by decide +kernel, by decide +kernel⟩, List.mem_of_getElem? (i := 133) (by decide +kernel), List.mem_of_getElem? (i := 131) (by decide +kernel), List.mem_of_getElem? (i := 132) (by decide +kernel)⟩
theorem lw_p1 : lw_okq (⟨"TierHouse", "isListed", "(I)Z"⟩, 8) := ⟨⟨by decide +kernel, by decide +kernel⟩, List.mem_of_getElem? (i := 20) (by decide +kernel), List.mem_of_getElem? (i := 190) (by decide +kernel), List.mem_of_getElem? (i := 191) (by decide +kernel)⟩
theorem lw_p2 : lw_okq (⟨"TierHouse", "addListing", "(I)V"⟩, 8) := ⟨⟨by decide +kernel, by decide +kernel⟩, List.mem_of_getElem? (i := 20) (by decide +kernel), List.mem_of_getElem? (i := 210) (by decide +kernel), List.mem_of_getElem? (i := 211) (by decide +kernel)⟩
theorem lw_p3 : lw_okq (⟨"TierHouse", "dropListing", "(I)V"⟩, 8) := ⟨⟨by decide +kernel, by decide +kernel⟩, List.mem_of_getElem? (i := 20) (by decide +kernel), List.mem_of_getElem? (i := 214) (by decide +kernel), List.mem_of_getElem? (i := 215) (by decide +kernel)⟩
theorem lw_p4 : lw_okq (⟨"TierHouse", "answerMake", "(IIII)I"⟩, 8) := ⟨⟨by decide +kernel, by decide +kernel⟩, List.mem_of_getElem? (i := 20) (by decide +kernel), List.mem_of_getElem? (i := 261) (by decide +kernel), List.mem_of_getElem? (i := 262) (by decide +kernel)⟩
theorem lw_p5 : lw_okq (⟨"TierHouse", "makeOwn", "(III)I"⟩, 8) := ⟨⟨by decide +kernel, by decide +kernel⟩, List.mem_of_getElem? (i := 20) (by decide +kernel), List.mem_of_getElem? (i := 271) (by decide +kernel), List.mem_of_getElem? (i := 272) (by decide +kernel)⟩
theorem lw_p6 : lw_okq (⟨"TierHouse", "placeOf", "(I)I"⟩, 8) := ⟨⟨by decide +kernel, by decide +kernel⟩, List.mem_of_getElem? (i := 20) (by decide +kernel), List.mem_of_getElem? (i := 275) (by decide +kernel), List.mem_of_getElem? (i := 276) (by decide +kernel)⟩
theorem lw_p7 : lw_okq (⟨"TierHouse", "hasRoom", "(II)Z"⟩, 8) := ⟨⟨by decide +kernel, by decide +kernel⟩, List.mem_of_getElem? (i := 20) (by decide +kernel), List.mem_of_getElem? (i := 298) (by decide +kernel), List.mem_of_getElem? (i := 299) (by decide +kernel)⟩
theorem lw_p8 : lw_okq (⟨"TierHouse", "usedBy", "(I)I"⟩, 8) := ⟨⟨by decide +kernel, by decide +kernel⟩, List.mem_of_getElem? (i := 20) (by decide +kernel), List.mem_of_getElem? (i := 302) (by decide +kernel), List.mem_of_getElem? (i := 303) (by decide +kernel)⟩
theorem lw_p9 : lw_okq (⟨"TierHouse", "isFull", "()Z"⟩, 8) := ⟨⟨by decide +kernel, by decide +kernel⟩, List.mem_of_getElem? (i := 20) (by decide +kernel), List.mem_of_getElem? (i := 316) (by decide +kernel), List.mem_of_getElem? (i := 317) (by decide +kernel)⟩
theorem lw_p10 : lw_okq (⟨"TierHouse", "store", "(LTierHouse$StoredFile;)V"⟩, 8) := ⟨⟨by decide +kernel, by decide +kernel⟩, List.mem_of_getElem? (i := 20) (by decide +kernel), List.mem_of_getElem? (i := 348) (by decide +kernel), List.mem_of_getElem? (i := 349) (by decide +kernel)⟩
theorem lw_p11 : lw_okq (⟨"java/util/ArrayList", "rangeCheckForAdd", "(I)V"⟩, 3) := ⟨⟨by decide +kernel, by decide +kernel⟩, List.mem_of_getElem? (i := 28) (by decide +kernel), List.mem_of_getElem? (i := 356) (by decide +kernel), List.mem_of_getElem? (i := 357) (by decide +kernel)⟩
theorem lw_p12 : lw_okq (⟨"java/util/ArrayList", "grow", "()[Ljava/lang/Object;"⟩, 3) := ⟨⟨by decide +kernel, by decide +kernel⟩, List.mem_of_getElem? (i := 28) (by decide +kernel), List.mem_of_getElem? (i := 360) (by decide +kernel), List.mem_of_getElem? (i := 361) (by decide +kernel)⟩
theorem lw_p13 : lw_okq (⟨"java/util/ArrayList", "grow", "(I)[Ljava/lang/Object;"⟩, 3) := ⟨⟨by decide +kernel, by decide +kernel⟩, List.mem_of_getElem? (i := 28) (by decide +kernel), List.mem_of_getElem? (i := 364) (by decide +kernel), List.mem_of_getElem? (i := 365) (by decide +kernel)⟩
theorem lw_p14 : lw_okq (⟨"TierHouse", "makeAbove", "(III)I"⟩, 8) := ⟨⟨by decide +kernel, by decide +kernel⟩, List.mem_of_getElem? (i := 20) (by decide +kernel), List.mem_of_getElem? (i := 406) (by decide +kernel), List.mem_of_getElem? (i := 407) (by decide +kernel)⟩
theorem lw_p15 : lw_okq (⟨"TierHouse", "forgetSeen", "(I)V"⟩, 8) := ⟨⟨by decide +kernel, by decide +kernel⟩, List.mem_of_getElem? (i := 20) (by decide +kernel), List.mem_of_getElem? (i := 411) (by decide +kernel), List.mem_of_getElem? (i := 412) (by decide +kernel)⟩
def lw_privs_1 : List (MethodName × Nat) := [(⟨"java/lang/Throwable", "fillInStackTrace", "(I)Ljava/lang/Throwable;"⟩, 6), (⟨"TierHouse", "isListed", "(I)Z"⟩, 8), (⟨"TierHouse", "addListing", "(I)V"⟩, 8), (⟨"TierHouse", "dropListing", "(I)V"⟩, 8), (⟨"TierHouse", "answerMake", "(IIII)I"⟩, 8), (⟨"TierHouse", "makeOwn", "(III)I"⟩, 8), (⟨"TierHouse", "placeOf", "(I)I"⟩, 8), (⟨"TierHouse", "hasRoom", "(II)Z"⟩, 8), (⟨"TierHouse", "usedBy", "(I)I"⟩, 8), (⟨"TierHouse", "isFull", "()Z"⟩, 8), (⟨"TierHouse", "store", "(LTierHouse$StoredFile;)V"⟩, 8), (⟨"java/util/ArrayList", "rangeCheckForAdd", "(I)V"⟩, 3), (⟨"java/util/ArrayList", "grow", "()[Ljava/lang/Object;"⟩, 3), (⟨"java/util/ArrayList", "grow", "(I)[Ljava/lang/Object;"⟩, 3), (⟨"TierHouse", "makeAbove", "(III)I"⟩, 8), (⟨"TierHouse", "forgetSeen", "(I)V"⟩, 8)]
theorem lw_r1 : ∀ q ∈ lw_privs_1, lw_okq q := List.forall_mem_cons.mpr ⟨lw_p0, List.forall_mem_cons.mpr ⟨lw_p1, List.forall_mem_cons.mpr ⟨lw_p2, List.forall_mem_cons.mpr ⟨lw_p3, List.forall_mem_cons.mpr ⟨lw_p4, List.forall_mem_cons.mpr ⟨lw_p5, List.forall_mem_cons.mpr ⟨lw_p6, List.forall_mem_cons.mpr ⟨lw_p7, List.forall_mem_cons.mpr ⟨lw_p8, List.forall_mem_cons.mpr ⟨lw_p9, List.forall_mem_cons.mpr ⟨lw_p10, List.forall_mem_cons.mpr ⟨lw_p11, List.forall_mem_cons.mpr ⟨lw_p12, List.forall_mem_cons.mpr ⟨lw_p13, List.forall_mem_cons.mpr ⟨lw_p14, List.forall_mem_cons.mpr ⟨lw_p15, fun _ h => absurd h List.not_mem_nil⟩⟩⟩⟩⟩⟩⟩⟩⟩⟩⟩⟩⟩⟩⟩⟩
theorem lw_p16 : lw_okq (⟨"TierHouse", "find", "(II)LTierHouse$StoredFile;"⟩, 8) := ⟨⟨by decide +kernel, by decide +kernel⟩, List.mem_of_getElem? (i := 20) (by decide +kernel), List.mem_of_getElem? (i := 426) (by decide +kernel), List.mem_of_getElem? (i := 427) (by decide +kernel)⟩
theorem lw_p17 : lw_okq (⟨"java/util/ArrayList", "fastRemove", "([Ljava/lang/Object;I)V"⟩, 3) := ⟨⟨by decide +kernel, by decide +kernel⟩, List.mem_of_getElem? (i := 28) (by decide +kernel), List.mem_of_getElem? (i := 463) (by decide +kernel), List.mem_of_getElem? (i := 464) (by decide +kernel)⟩
theorem lw_p18 : lw_okq (⟨"TierHouse", "verdictOnReading", "(II)I"⟩, 8) := ⟨⟨by decide +kernel, by decide +kernel⟩, List.mem_of_getElem? (i := 20) (by decide +kernel), List.mem_of_getElem? (i := 474) (by decide +kernel), List.mem_of_getElem? (i := 475) (by decide +kernel)⟩
theorem lw_p19 : lw_okq (⟨"TierHouse", "show", "(II)V"⟩, 8) := ⟨⟨by decide +kernel, by decide +kernel⟩, List.mem_of_getElem? (i := 20) (by decide +kernel), List.mem_of_getElem? (i := 478) (by decide +kernel), List.mem_of_getElem? (i := 479) (by decide +kernel)⟩
theorem lw_p20 : lw_okq (⟨"TierHouse", "showFilesIn", "(II)V"⟩, 8) := ⟨⟨by decide +kernel, by decide +kernel⟩, List.mem_of_getElem? (i := 20) (by decide +kernel), List.mem_of_getElem? (i := 503) (by decide +kernel), List.mem_of_getElem? (i := 504) (by decide +kernel)⟩
theorem lw_p21 : lw_okq (⟨"TierHouse", "answerRelease", "(IIII)I"⟩, 8) := ⟨⟨by decide +kernel, by decide +kernel⟩, List.mem_of_getElem? (i := 20) (by decide +kernel), List.mem_of_getElem? (i := 514) (by decide +kernel), List.mem_of_getElem? (i := 515) (by decide +kernel)⟩
theorem lw_p22 : lw_okq (⟨"TierHouse", "countFilesAt", "(I)I"⟩, 8) := ⟨⟨by decide +kernel, by decide +kernel⟩, List.mem_of_getElem? (i := 20) (by decide +kernel), List.mem_of_getElem? (i := 537) (by decide +kernel), List.mem_of_getElem? (i := 538) (by decide +kernel)⟩
theorem lw_p23 : lw_okq (⟨"TierHouseModel", "fails", "(ZI)Z"⟩, 16) := ⟨⟨by decide +kernel, by decide +kernel⟩, List.mem_of_getElem? (i := 542) (by decide +kernel), List.mem_of_getElem? (i := 615) (by decide +kernel), List.mem_of_getElem? (i := 616) (by decide +kernel)⟩
theorem lw_p24 : lw_okq (⟨"TierHouseModel", "listOf", "(III)I"⟩, 16) := ⟨⟨by decide +kernel, by decide +kernel⟩, List.mem_of_getElem? (i := 542) (by decide +kernel), List.mem_of_getElem? (i := 627) (by decide +kernel), List.mem_of_getElem? (i := 628) (by decide +kernel)⟩
theorem lw_p25 : lw_okq (⟨"TierHouseModel", "find", "(II)I"⟩, 16) := ⟨⟨by decide +kernel, by decide +kernel⟩, List.mem_of_getElem? (i := 542) (by decide +kernel), List.mem_of_getElem? (i := 645) (by decide +kernel), List.mem_of_getElem? (i := 646) (by decide +kernel)⟩
theorem lw_p26 : lw_okq (⟨"TierHouseModel", "isFull", "(II)Z"⟩, 16) := ⟨⟨by decide +kernel, by decide +kernel⟩, List.mem_of_getElem? (i := 542) (by decide +kernel), List.mem_of_getElem? (i := 649) (by decide +kernel), List.mem_of_getElem? (i := 650) (by decide +kernel)⟩
theorem lw_p27 : lw_okq (⟨"TierHouseModel", "uses", "(I)I"⟩, 16) := ⟨⟨by decide +kernel, by decide +kernel⟩, List.mem_of_getElem? (i := 542) (by decide +kernel), List.mem_of_getElem? (i := 653) (by decide +kernel), List.mem_of_getElem? (i := 654) (by decide +kernel)⟩
theorem lw_p28 : lw_okq (⟨"TierHouseModel", "countOf", "(I)I"⟩, 16) := ⟨⟨by decide +kernel, by decide +kernel⟩, List.mem_of_getElem? (i := 542) (by decide +kernel), List.mem_of_getElem? (i := 657) (by decide +kernel), List.mem_of_getElem? (i := 658) (by decide +kernel)⟩
theorem lw_p29 : lw_okq (⟨"TierHouseModel", "begin", "(I)V"⟩, 16) := ⟨⟨by decide +kernel, by decide +kernel⟩, List.mem_of_getElem? (i := 542) (by decide +kernel), List.mem_of_getElem? (i := 661) (by decide +kernel), List.mem_of_getElem? (i := 662) (by decide +kernel)⟩
theorem lw_p30 : lw_okq (⟨"TierHouseModel", "add", "(IIIZ)I"⟩, 16) := ⟨⟨by decide +kernel, by decide +kernel⟩, List.mem_of_getElem? (i := 542) (by decide +kernel), List.mem_of_getElem? (i := 665) (by decide +kernel), List.mem_of_getElem? (i := 666) (by decide +kernel)⟩
theorem lw_p31 : lw_okq (⟨"TierHouseModel", "append", "(IIZ)V"⟩, 16) := ⟨⟨by decide +kernel, by decide +kernel⟩, List.mem_of_getElem? (i := 542) (by decide +kernel), List.mem_of_getElem? (i := 673) (by decide +kernel), List.mem_of_getElem? (i := 674) (by decide +kernel)⟩
def lw_privs_2 : List (MethodName × Nat) := [(⟨"TierHouse", "find", "(II)LTierHouse$StoredFile;"⟩, 8), (⟨"java/util/ArrayList", "fastRemove", "([Ljava/lang/Object;I)V"⟩, 3), (⟨"TierHouse", "verdictOnReading", "(II)I"⟩, 8), (⟨"TierHouse", "show", "(II)V"⟩, 8), (⟨"TierHouse", "showFilesIn", "(II)V"⟩, 8), (⟨"TierHouse", "answerRelease", "(IIII)I"⟩, 8), (⟨"TierHouse", "countFilesAt", "(I)I"⟩, 8), (⟨"TierHouseModel", "fails", "(ZI)Z"⟩, 16), (⟨"TierHouseModel", "listOf", "(III)I"⟩, 16), (⟨"TierHouseModel", "find", "(II)I"⟩, 16), (⟨"TierHouseModel", "isFull", "(II)Z"⟩, 16), (⟨"TierHouseModel", "uses", "(I)I"⟩, 16), (⟨"TierHouseModel", "countOf", "(I)I"⟩, 16), (⟨"TierHouseModel", "begin", "(I)V"⟩, 16), (⟨"TierHouseModel", "add", "(IIIZ)I"⟩, 16), (⟨"TierHouseModel", "append", "(IIZ)V"⟩, 16)]
theorem lw_r2 : ∀ q ∈ lw_privs_2, lw_okq q := List.forall_mem_cons.mpr ⟨lw_p16, List.forall_mem_cons.mpr ⟨lw_p17, List.forall_mem_cons.mpr ⟨lw_p18, List.forall_mem_cons.mpr ⟨lw_p19, List.forall_mem_cons.mpr ⟨lw_p20, List.forall_mem_cons.mpr ⟨lw_p21, List.forall_mem_cons.mpr ⟨lw_p22, List.forall_mem_cons.mpr ⟨lw_p23, List.forall_mem_cons.mpr ⟨lw_p24, List.forall_mem_cons.mpr ⟨lw_p25, List.forall_mem_cons.mpr ⟨lw_p26, List.forall_mem_cons.mpr ⟨lw_p27, List.forall_mem_cons.mpr ⟨lw_p28, List.forall_mem_cons.mpr ⟨lw_p29, List.forall_mem_cons.mpr ⟨lw_p30, List.forall_mem_cons.mpr ⟨lw_p31, fun _ h => absurd h List.not_mem_nil⟩⟩⟩⟩⟩⟩⟩⟩⟩⟩⟩⟩⟩⟩⟩⟩
theorem lw_p32 : lw_okq (⟨"TierHouseModel", "move", "(II)V"⟩, 16) := ⟨⟨by decide +kernel, by decide +kernel⟩, List.mem_of_getElem? (i := 542) (by decide +kernel), List.mem_of_getElem? (i := 689) (by decide +kernel), List.mem_of_getElem? (i := 690) (by decide +kernel)⟩
theorem lw_p33 : lw_okq (⟨"TierHouseModel", "look", "(II)I"⟩, 16) := ⟨⟨by decide +kernel, by decide +kernel⟩, List.mem_of_getElem? (i := 542) (by decide +kernel), List.mem_of_getElem? (i := 697) (by decide +kernel), List.mem_of_getElem? (i := 698) (by decide +kernel)⟩
def lw_privs_3 : List (MethodName × Nat) := [(⟨"TierHouseModel", "move", "(II)V"⟩, 16), (⟨"TierHouseModel", "look", "(II)I"⟩, 16)]
theorem lw_r3 : ∀ q ∈ lw_privs_3, lw_okq q := List.forall_mem_cons.mpr ⟨lw_p32, List.forall_mem_cons.mpr ⟨lw_p33, fun _ h => absurd h List.not_mem_nil⟩⟩
def lw_privs : List (MethodName × Nat) := lw_privs_1 ++ (lw_privs_2 ++ (lw_privs_3))
def lw_tbl : List Cond := k2_sels lw_privs ++ tables_1
theorem lw_privs_ok : ∀ q ∈ lw_privs, lw_okq q := by
  show ∀ q ∈ lw_privs_1 ++ (lw_privs_2 ++ (lw_privs_3)), lw_okq q
  exact List.forall_mem_append.mpr ⟨lw_r1, List.forall_mem_append.mpr ⟨lw_r2, lw_r3⟩⟩
-- ===== end of PART A; then your names; then what follows =====
end
section
/-! ===== BEGIN words of one list among another's, by their places ===== -/
theorem goodIn_r {big : List Cond} (ws : List Cond) (ps : List Nat) (hp : ws = ps.filterMap (fun i => big[i]?)) (h : ws.all goodWord = true) : GoodIn big ws := by
  intro w hw
  have h1 := List.all_eq_true.mp h w hw
  rw [hp] at hw
  obtain ⟨i, -, hi⟩ := List.mem_filterMap.mp hw
  have hm : w ∈ big := by first | exact List.mem_of_getElem? hi | exact List.getElem?_mem hi
  exact ⟨hm, good_of_word h1⟩
theorem goodIn_app {big a b : List Cond} (ha : GoodIn big a) (hb : GoodIn big b) : GoodIn big (a ++ b) := fun w h => (List.mem_append.mp h).elim (ha w) (hb w)
theorem goodIn_ca {big a b : List Cond} {c : Cond} (ha : GoodIn big (c :: a)) (hb : GoodIn big b) : GoodIn big (c :: (a ++ b)) := fun w h => (List.mem_cons.mp h).elim (fun e => ha w (List.mem_cons.mpr (Or.inl e))) (fun h => (List.mem_append.mp h).elim (fun h => ha w (List.mem_cons.mpr (Or.inr h))) (hb w))
theorem goodIn_sub {big ws : List Cond} (hm : ∀ w ∈ ws, w ∈ big) (h : ws.all goodWord = true) : GoodIn big ws := fun w hw => ⟨hm w hw, good_of_word (List.all_eq_true.mp h w hw)⟩
/-! ===== END ===== -/

/-! ===== BEGIN new T[n][m]: the outer array a place, the inner ones among the pooled ===== -/
/-- 'arrayOver' of an array type, without arguments (the printed text names it, no text of the kit holds it: written here) -/
def va_AOA (ty : FieldType) (U : State) : Prop := (Cond.arrayOver (.array ty)).before #[] U = true
theorem va_AOA.use {ty : FieldType} {A : Array Value} {U : State} (h : va_AOA ty U) : (Cond.arrayOver (.array ty)).before A U = true := h
theorem va_AOA.of {ty : FieldType} {A : Array Value} {U : State} (h : (Cond.arrayOver (.array ty)).before A U = true) : va_AOA ty U := h
/-- f, but v at every address of l -/
def vr_up {α : Type} (f : Nat → α) (l : List Nat) (v : α) : Nat → α := fun a => if a ∈ l then v else f a
theorem vr_up_in {α : Type} {f : Nat → α} {l : List Nat} {v : α} {a : Nat} (h : a ∈ l) : vr_up f l v a = v := if_pos h
theorem vr_up_ne {α : Type} {f : Nat → α} {l : List Nat} {v : α} {a : Nat} (h : a ∉ l) : vr_up f l v a = f a := if_neg h
theorem vr_rows {L l : List Nat} {f : Nat → va_E} {e : va_E} (h : ∀ a, a ∈ l → a ∉ L) : va_pl L f ++ l.map (fun a => (a, e)) = va_pl (L ++ l) (vr_up f l e) := by
  unfold va_pl
  rw [List.map_append]
  congr 1
  · apply List.map_congr_left
    intro a ha
    rw [vr_up_ne (fun q => h a q ha)]
  · apply List.map_congr_left
    intro a ha
    rw [vr_up_in ha]
theorem vr_lay {X rows : va_W} {x : Nat × va_E} {pl : va_W} {D : va_G} {cl : List vw_C} {H : Heap} (hP : va_P D cl (((X ++ pl) ++ [x]) ++ rows) H) : va_P D cl ((X ++ [x]) ++ (pl ++ rows)) H := by
  rw [List.append_assoc (X ++ pl)] at hP
  have h := va_P.swap hP
  rw [← List.append_assoc X] at h
  have h2 := va_P.swap h
  rw [List.append_assoc (X ++ [x])] at h2
  exact h2
theorem vr_layD {X rows : va_W} {x : Nat × va_E} {pl : va_W} {A : Nat → Prop} (hD : va_D A (((X ++ pl) ++ [x]) ++ rows)) : va_D A ((X ++ [x]) ++ (pl ++ rows)) := by
  rw [List.append_assoc (X ++ pl)] at hD
  have h := va_D.swap hD
  rw [← List.append_assoc X] at h
  have h2 := va_D.swap h
  rw [List.append_assoc (X ++ [x])] at h2
  exact h2
theorem vr_outer (c : ClassId) (N h0 : Nat) : ∀ i : Nat, Jvm.Free.Multi.outerC c N h0 i = arrV c N (fun j => va_rf (if j < i then some (h0 + 1 + j) else none))
  | 0 => by
    show ({ cls := c, slots := Array.replicate N .null, vm := .none } : Cell) = _
    rw [arrV_new]
    refine congrArg (arrV c N) (funext fun j => ?_)
    simp [va_rf]
  | i + 1 => by
    show (Jvm.Free.Multi.outerC c N h0 i).setSlot i (.ref (h0 + 1 + i)) = _
    rw [vr_outer c N h0 i, arrV_store]
    refine congrArg (arrV c N) (funext fun j => ?_)
    by_cases e : j = i
    · subst e
      simp [updV, va_rf]
    · by_cases h : j < i
      · simp [updV, e, h, Nat.lt_succ_of_lt h]
      · simp [updV, e, h, show ¬ j < i + 1 by omega]
section VGM
variable {p : Program} {l : Launch} {e : Env} {R : Room} {s : State} {m : MethodId} {args : Array Value} {below : List Frame} {meth : Method} {c : Code} {H : Heap} {locs : List Loc} {cells slots : Nat} {Q : State → Prop}
variable {cc : ByteArray} {pc : Nat} {ls : Array Slot} {rest : List Value} {D : va_G} {cl : List vw_C} {A : Nat → Prop} {a : Nat} {tys : List (ClassId × FieldType)} {ws : va_W} {H0 : Heap}
theorem va_mna {X : va_W} {L : List Nat} {f : Nat → va_E} {cc : ByteArray} (hexec : p.tables.exec = Jvm.exec) (hb : c.code = cc) {own : String} {index : Nat} {ty : FieldType} {cy : ClassId} (hown : s.vm.findClass own = some m.cls) (hclink : (Cond.classLink own index ("[" ++ (FieldType.array ty).toString)).before args s = true) (hover : va_AOA ty s) (harr : (Cond.arrayClass ty).before args s = true) (hcy : s.vm.findClass (FieldType.array ty).toString = some cy)
    (hK : va_K D cl tys s) (hP : va_P D cl (X ++ va_pl L f) H) (hD : va_D A (X ++ va_pl L f)) (hS : va_S A H0 H locs) (hA : ∀ q, H0.size ≤ q → A q) {n k : Int32} {N' K' : Nat} {z : vp_A} (hn : ¬ n < 0) (hk : ¬ k < 0) (hN : n.toNatClampNeg = N') (hM : k.toNatClampNeg = K')
    (hb1 : N' * 4 ≤ 536870912) (hb2 : K' * componentBytes ty ≤ 536870912) (hb3 : K' ≤ 536870912) (hdf : fits ty (defaultValue ty) = true) (hdd : (defaultValue ty).isDefault = true) (hcells : cells + (1 + N') ≤ R.cells) (hslots : slots + (N' + N' * K') ≤ R.slots) (hz : ∀ c : ClassId, Jvm.Free.Multi.innerC c K' (defaultValue ty) = vp_cell c z) (hdg : decode cc pc = .ok (.multianewarray index 2, 4))
    (kk : ∀ (q : Nat) (r : Nat → Nat) (cA : ClassId) (H1 : Heap), (∀ i j : Nat, i < N' → j < N' → r i = r j → i = j) → (∀ i : Nat, i < N' → r i ∉ L) → va_K D cl (tys ++ [(cA, .array ty)]) s →
      va_P D cl ((X ++ [(q, .inl (cA, N', .inr (.inr (.inr (.inr (fun i => if i < N' then some (r i) else none))))))]) ++ va_pl (L ++ (List.range N').map r) (vr_up f ((List.range N').map r) (.inl (cy, z)))) H1 → va_D A ((X ++ [(q, .inl (cA, N', .inr (.inr (.inr (.inr (fun i => if i < N' then some (r i) else none))))))]) ++ va_pl (L ++ (List.range N').map r) (vr_up f ((List.range N').map r) (.inl (cy, z)))) → va_S A H0 H1 locs →
      W p l e R s m args below meth c H1 locs (cells + 1 + N') (slots + N' + N' * K') Q (F0 m (pc + 4) ls (.ref q :: rest))) : W p l e R s m args below meth c H locs cells slots Q (F0 m pc ls (.int k :: .int n :: rest)) := by
  subst hN
  subst hM
  intro T hT Xs
  obtain ⟨vm₁, cA, comp, -, fA, fC, hO, -, X', step⟩ := Xs.multianewarray2F hexec hown hclink (va_AOA.use hover) harr (g := F0 m pc ls (.int k :: .int n :: rest)) rfl (by rw [hb]; exact hdg) rfl hn hk hb1 hb2 hb3 hdf hdd hcells hslots
  have ec : some cy = some comp := hcy.symm.trans fC
  cases ec
  generalize hF : Jvm.Free.Multi.fill (T.setVm vm₁) cA cy n.toNatClampNeg k.toNatClampNeg (defaultValue ty) n.toNatClampNeg = F at X' step
  have hTh : (T.setVm vm₁).heap = H := hT
  obtain ⟨f1, f2, -, -⟩ := Jvm.Free.Multi.fill_facts (T.setVm vm₁) cA cy n.toNatClampNeg k.toNatClampNeg (defaultValue ty) n.toNatClampNeg
  rw [hF, hTh] at f1 f2
  have hold : ∀ x : Nat, x < H.size → F.heap[x]? = H[x]? := fun x hx => by
    have := Jvm.Free.Multi.fill_old (T.setVm vm₁) cA cy n.toNatClampNeg k.toNatClampNeg (defaultValue ty) (a := x) (by rw [hTh]; exact hx) n.toNatClampNeg
    rw [hF, hTh] at this
    exact this
  have hrow : ∀ j : Nat, j < n.toNatClampNeg → F.heap[H.size + 1 + j]? = some (vp_cell cy z) := fun j hj => by
    have := Jvm.Free.Multi.fill_inner (T.setVm vm₁) cA cy n.toNatClampNeg k.toNatClampNeg (defaultValue ty) n.toNatClampNeg j hj
    rw [hF, hTh, hz] at this
    exact this
  have hout : Jvm.Free.Multi.outerC cA n.toNatClampNeg H.size n.toNatClampNeg = vp_cell cA (n.toNatClampNeg, .inr (.inr (.inr (.inr (fun i => if i < n.toNatClampNeg then some (H.size + 1 + i) else none))))) := by
    rw [vp_cell_q]
    exact vr_outer cA n.toNatClampNeg H.size n.toNatClampNeg
  rw [hout] at f2
  have hlt : ∀ a, a ∈ L → a < H.size := fun a ha => by
    obtain ⟨k9, hk9⟩ := va_pl_get (X := X) (f := f) ha
    exact (hP k9 _ hk9).lt
  have hnl : ∀ i : Nat, i < n.toNatClampNeg → H.size + 1 + i ∉ L := fun i _ h => by
    have := hlt _ h
    omega
  have hnm : ∀ a, a ∈ (List.range n.toNatClampNeg).map (fun i => H.size + 1 + i) → a ∉ L := fun a ha h => by
    obtain ⟨i, -, rfl⟩ := List.mem_map.mp ha
    have := hlt _ h
    omega
  have hP0 : va_P D cl (X ++ va_pl L f) F.heap := hP.kept (fun k9 x hx => hold x.1 ((hP k9 x hx).lt))
  have hP1 : va_P D cl ((X ++ va_pl L f) ++ [(H.size, .inl (cA, n.toNatClampNeg, .inr (.inr (.inr (.inr (fun i => if i < n.toNatClampNeg then some (H.size + 1 + i) else none))))))]) F.heap := hP0.app (fun k9 x hx => by
    have h0 : k9 < 1 := (List.getElem?_eq_some_iff.mp hx).1
    rw [show k9 = 0 by omega] at hx
    cases hx
    exact f2)
  have hP2 : va_P D cl (((X ++ va_pl L f) ++ [(H.size, .inl (cA, n.toNatClampNeg, .inr (.inr (.inr (.inr (fun i => if i < n.toNatClampNeg then some (H.size + 1 + i) else none))))))]) ++ ((List.range n.toNatClampNeg).map (fun i => H.size + 1 + i)).map (fun a => (a, .inl (cy, z)))) F.heap := hP1.app (fun k9 x hx => by
    obtain ⟨a, ha, rfl⟩ := List.mem_map.mp (List.mem_of_getElem? hx)
    obtain ⟨i, hi, rfl⟩ := List.mem_map.mp ha
    exact hrow i (List.mem_range.mp hi))
  have hD2 : va_D A (((X ++ va_pl L f) ++ [(H.size, .inl (cA, n.toNatClampNeg, .inr (.inr (.inr (.inr (fun i => if i < n.toNatClampNeg then some (H.size + 1 + i) else none))))))]) ++ ((List.range n.toNatClampNeg).map (fun i => H.size + 1 + i)).map (fun a => (a, .inl (cy, z)))) := by
    have hD1 := hD.push (e := .inl (cA, n.toNatClampNeg, .inr (.inr (.inr (.inr (fun i => if i < n.toNatClampNeg then some (H.size + 1 + i) else none)))))) hP rfl (hA _ hS.1)
    generalize hW1 : (X ++ va_pl L f) ++ [(H.size, .inl (cA, n.toNatClampNeg, .inr (.inr (.inr (.inr (fun i => if i < n.toNatClampNeg then some (H.size + 1 + i) else none))))))] = W1 at hD1 hP1 ⊢
    have hle : ∀ (k9 : Nat) (x : Nat × va_E), W1[k9]? = some x → x.1 ≤ H.size := fun k9 x hx => by
      rw [← hW1] at hx
      by_cases hl : k9 < (X ++ va_pl L f).length
      · rw [List.getElem?_append_left hl] at hx
        exact Nat.le_of_lt ((hP k9 x hx).lt)
      · rw [List.getElem?_append_right (by omega)] at hx
        have h0 : k9 - (X ++ va_pl L f).length < 1 := (List.getElem?_eq_some_iff.mp hx).1
        rw [show k9 - (X ++ va_pl L f).length = 0 by omega] at hx
        cases hx
        exact Nat.le_refl _
    have hr : ∀ (k9 : Nat) (x : Nat × va_E), (((List.range n.toNatClampNeg).map (fun i => H.size + 1 + i)).map (fun a => ((a, .inl (cy, z)) : Nat × va_E)))[k9]? = some x → x.1 = H.size + 1 + k9 := fun k9 x hx => by
      rw [List.getElem?_map, List.getElem?_map] at hx
      by_cases h9 : k9 < n.toNatClampNeg
      · rw [List.getElem?_range h9] at hx
        cases hx
        rfl
      · have hn0 : (List.range n.toNatClampNeg)[k9]? = none := List.getElem?_eq_none (by rw [List.length_range]; omega)
        rw [hn0] at hx
        cases hx
    refine ⟨fun i j x y hi hj hxy => ?_, fun k9 x hx => ?_⟩
    · by_cases h1 : i < W1.length <;> by_cases h2 : j < W1.length
      · rw [List.getElem?_append_left h1] at hi
        rw [List.getElem?_append_left h2] at hj
        exact hD1.1 i j x y hi hj hxy
      · rw [List.getElem?_append_left h1] at hi
        rw [List.getElem?_append_right (by omega)] at hj
        have := hle _ _ hi
        have := hr _ _ hj
        omega
      · rw [List.getElem?_append_right (by omega)] at hi
        rw [List.getElem?_append_left h2] at hj
        have := hle _ _ hj
        have := hr _ _ hi
        omega
      · rw [List.getElem?_append_right (by omega)] at hi hj
        have := hr _ _ hi
        have := hr _ _ hj
        omega
    · by_cases h1 : k9 < W1.length
      · rw [List.getElem?_append_left h1] at hx
        exact hD1.2 k9 x hx
      · rw [List.getElem?_append_right (by omega)] at hx
        have := hr _ _ hx
        exact hA _ (by have := hS.1; omega)
  have hAr : ArrOfT s cA (.array ty) := fun N9 z9 => by
    obtain ⟨-, k9, hk9, cm9, hkk9⟩ := (hO 0 0 0).1
    exact ⟨(fun q hq => by cases hq), k9, hk9, cm9, hkk9⟩
  have hK2 : va_K D cl (tys ++ [(cA, .array ty)]) s := ⟨hK.1, fun k9 x hx => by
    by_cases hl : k9 < tys.length
    · rw [List.getElem?_append_left hl] at hx
      exact hK.2 k9 x hx
    · rw [List.getElem?_append_right (by omega)] at hx
      have h0 : k9 - tys.length < 1 := (List.getElem?_eq_some_iff.mp hx).1
      rw [show k9 - tys.length = 0 by omega] at hx
      cases hx
      exact ⟨hAr, fA⟩⟩
  obtain ⟨t, a1, b1⟩ := kk H.size (fun i => H.size + 1 + i) cA F.heap (fun i j _ _ h => by have h9 : H.size + 1 + i = H.size + 1 + j := h; omega) hnl hK2 (by rw [← vr_rows hnm]; exact vr_lay hP2) (by rw [← vr_rows hnm]; exact vr_layD hD2) ⟨by rw [f1]; have := hS.1; omega, fun x h1 h2 => (hold x (Nat.lt_of_lt_of_le h1 hS.1)).trans (hS.2.1 x h1 h2), hS.2.2⟩ F rfl X'
  refine ⟨t, step t ?_, b1⟩
  have e : T.heap.size = H.size := by rw [hT]
  rw [e]
  exact a1
end VGM
/-! ===== END ===== -/

/-! ===== BEGIN exceptions that leave a method, and their catching by the caller (launches without stack traces) ===== -/
section VXA
/-! The laws vx_back, vx_callV, vx_callS, vx_callSW, vx_throw0, vx_throwS follow proofs of the library, with one case more: JvmDerived/Free/Laws.lean (Back.of_free), Shelf42/LK1.lean (callV, callS), Shelf/KitTraced.lean (throwNew0V, throwNewS). -/
/-- where a method has thrown q: the class by its name, the cell, what was written, the world -/
def vx_T (XC : String → State → State → Prop) (st : State) (q : Addr) (t : State) (mc ms : Nat) (free : Addr → Prop) : Prop :=
  ∃ (E : String) (ce : Cell) (L : List Loc), XC E st t ∧ t.heap[q]? = some ce ∧ ce.vm = .none ∧ st.vm.findClass E = some ce.cls ∧ st.WarmedH t.vm ∧ st.sameButNew ({ t with vm := st.vm } : State) L mc ms ∧ ∀ z ∈ L, free z.base
def vx_Q (Qc : Array Value → State → Outcome → State → Prop) (XC : String → State → State → Prop) (mc ms : Nat) (free : Addr → Prop) : Array Value → State → Outcome → State → Prop := fun a st o t =>
  (Qc a st o t ∧ ∃ L, FrameEnd st o t L mc ms ∧ ∀ q ∈ L, free q.base) ∨ ∃ q, o = .threw q ∧ vx_T XC st q t mc ms free
/-- a callee that returns or throws -/
def vx_Met (l : Launch) (y : MethodName) (ws : List Cond) (rm : Room) (Pc : Array Value → State → Prop) (Qc : Array Value → State → Outcome → State → Prop) (XC : String → State → State → Prop) (mc ms : Nat) (free : Addr → Prop) : Prop :=
  MetFree l y (headSpec ws rm) Pc (fun _ _ _ _ _ => True) (vx_Q Qc XC mc ms free)
def vx_Post (XC : String → State → State → Prop) (mc ms : Nat) (free : Addr → Prop) : Pt → Array Value → Addr → Pt → Prop := fun A a q B =>
  ∃ (g : JFrame) (mk : MethodId) (t : State) (L : List Loc) (E : String) (ce : Cell), B.U.heap = t.heap ∧ B.U.vm = t.vm ∧ XC E (A.U.calling g mk a) t ∧ t.heap[q]? = some ce ∧ ce.vm = .none ∧ A.U.vm.findClass E = some ce.cls ∧ B.locs = A.locs ++ L ∧ (∀ z ∈ L, free z.base) ∧ B.cells = A.cells + mc ∧ B.slots = A.slots + ms
def vx_Back (l : Launch) (R : Room) (p : Program) (e : Env) (below : List Frame) (s : State) (sargs : Array Value) (y : MethodName) (len W9 : Nat)
    (Pre : Pt → Array Value → Prop) (Post : Pt → Array Value → Option Value → Pt → Prop) (PostX : Pt → Array Value → Addr → Pt → Prop) : Prop :=
  ∀ (m : MethodId) (meth : Method) (c : Code) (A : Pt) (g : JFrame) (ig : Instr) (mk : MethodId) (a : Array Value),
    Stand p l e R s m sargs below meth c A.U A.locs A.cells A.slots → g.method = m → g.locals.size = c.maxLocals → decode c.code g.pc = .ok (ig, len) →
    2 * g.monitorRoom + (g.stack.map fun v => v.category).sum ≤ W9 → A.U.methodNamed? y = some mk → Pre A a →
    (∃ (v : Option Value) (B : Pt), Stand p l e R s m sargs below meth c B.U B.locs B.cells B.slots ∧ Post A a v B ∧
      Steps p.tables e below (doInvoke e (A.U.setTop g) [] mk a).1 (B.U.setTop { g with pc := g.pc + len, stack := v.toList ++ g.stack })) ∨
    (∃ (q : Addr) (B : Pt), Stand p l e R s m sargs below meth c B.U B.locs B.cells B.slots ∧ PostX A a q B ∧
      Steps p.tables e below (doInvoke e (A.U.setTop g) [] mk a).1 ((B.U.setTop g).pushFrame (.throwing q)))
section Payer
variable {l : Launch} {R : Room} {p : Program} {e : Env} {below : List Frame} {s : State} {sargs : Array Value} {y : MethodName} {len W9 : Nat}
theorem vx_back {ws : List Cond} {rm : Room} {Pc : Array Value → State → Prop} {Qc : Array Value → State → Outcome → State → Prop} {XC : String → State → State → Prop} {mc ms : Nat} {free : Addr → Prop} {bytes : ByteArray} {maxL : Nat} {ret : Option FieldType}
    (hM : vx_Met l y ws rm Pc Qc XC mc ms free) (hblind : FrameBlind Pc) (hrc : rm.cells = mc) (hrs : rm.slots = ms)
    (hframes : rm.frames + 1 ≤ R.frames) (hlocals : W9 + (maxL + 11) + rm.locals ≤ R.locals)
    (hws : ∀ w ∈ ws, ∀ a' U, s.WarmedH U.vm → w.before a' U = true) (hcode : Cond.code y bytes maxL ret ∈ ws) (hinit : ∀ a' U, s.WarmedH U.vm → (Cond.initialized y.cls).before a' U = true) :
    vx_Back l R p e below s sargs y len W9 (PreOf R mc ms Pc) (PostOf Qc mc ms free) (vx_Post XC mc ms free) := by
  intro m meth c A g ig mk a X hg hsize hdg hW hn hp
  have h1 : (headSpec ws rm).pre.before a A.U = true := atoms_intro fun w hw => hws w hw _ _ X.warmed
  have h2 : (Cond.code y bytes maxL ret).before a A.U = true := hws _ hcode _ _ X.warmed
  have h3 : (Cond.initialized y.cls).before a A.U = true := hinit _ _ X.warmed
  have h4 : A.cells + (headSpec ws rm).room.cells ≤ R.cells := by rw [show (headSpec ws rm).room.cells = mc from hrc]; exact hp.1
  have h5 : A.slots + (headSpec ws rm).room.slots ≤ R.slots := by rw [show (headSpec ws rm).room.slots = ms from hrs]; exact hp.2.1
  have hPc : Pc a (A.U.calling g mk a) := hblind _ _ _ _ hp.2.2
  obtain ⟨U, Ls, c0, s0⟩ := A
  dsimp only [Pt.U, Pt.locs, Pt.cells, Pt.slots] at h1 h2 h3 h4 h5 X hn hPc ⊢
  obtain ⟨methY, cY, hmY, hcY, -, hlY, -, -, -, -⟩ := Cond.code_spec hn h2
  obtain ⟨kY, hkY, -⟩ := className_of_methodNamed hn
  have hinitY : kY.init = .initialized := Cond.initialized_spec (findClass_of_methodNamed hn) hkY h3
  have h : At U g.method c below := by rw [hg]; exact X.here
  have hlocals9 : W9 + (maxL + 11) + (headSpec ws rm).room.locals ≤ R.locals := hlocals
  have happ : (headSpec ws rm).appliesLoose y e.platform (U.calling g mk a) = true :=
    Spec.appliesLoose_calling (g := g) h hdg hn hkY hinitY
      (X.room_calling (g := g) (R' := (headSpec ws rm).room) hsize hmY hcY hframes (by rw [hlY]; omega) h4 h5) h1
  obtain ⟨mid, hmid⟩ := h.above
  have hfr : (U.setTop g).frames = (.java g :: mid) ++ below := by rw [State.frames_setTop' g h.top, hmid]; rfl
  obtain ⟨o, s₂, hsteps, -, hend, hq⟩ := Steps.callFree hM p X.admits X.cas X.clock (acts := []) hfr happ hPc trivial
  have hq' : vx_Q Qc XC mc ms free a (U.calling g mk a) o s₂ := hq
  rw [State.frames_setTop' g h.top] at hend
  obtain ⟨g₀, hg0⟩ := Option.isSome_iff_exists.mp h.top
  obtain ⟨r, hr⟩ := State.topJava?_eq_some.mp hg0
  have hr' : (({ U with heap := s₂.heap, slotsUsed := s₂.slotsUsed } : State).setVm s₂.vm).frames = .java g₀ :: r := hr
  rcases hq' with ⟨hqc, L, hfe, hL⟩ | ⟨q, rfl, E, ce, L, hx, hce, hcv, hcl, hW₂, hsm, hL⟩
  · obtain ⟨⟨v, rfl⟩, hW₂, e2, q2, q3, q4, q5, q6⟩ := id hfe
    have e3 : s₂ = ({ (U.calling g mk a).setFrames s₂.frames with heap := s₂.heap, slotsUsed := s₂.slotsUsed } : State).setVm s₂.vm := by
      have : s₂ = ({ s₂ with vm := (U.calling g mk a).vm } : State).setVm s₂.vm := rfl
      rw [e2] at this
      exact this
    obtain ⟨c₂, i₂, len₂, hc₂, hd₂, hf₂⟩ := hend
    have hW' : U.WarmedH s₂.vm := hW₂
    have hcc : c₂ = c := by
      have h1 : s₂.code? g.method = U.code? g.method := by
        rw [State.code?_eq, State.code?_eq, hW'.alike.method?]
      exact Option.some.inj (hc₂.symm.trans (h1.trans h.code))
    subst hcc
    have hlen : len₂ = len := by rw [hdg] at hd₂; cases hd₂; rfl
    subst hlen
    have hs₂ : s₂ = (({ U with heap := s₂.heap, slotsUsed := s₂.slotsUsed } : State).setVm s₂.vm).setTop { g with pc := g.pc + len₂, stack := v.toList ++ g.stack } := by
      refine e3.trans ?_
      rw [hf₂, State.calling_eq h.top, State.setFrames_setFrames, State.setTop_of_frames _ hr', hr]
      rfl
    have hsame : U.sameButNew ({ U with heap := s₂.heap, slotsUsed := s₂.slotsUsed } : State) L mc ms := by
      refine ⟨?_, q2, q3, q4, q5, q6⟩
      obtain ⟨t, ht, -⟩ := State.frames_cons hr
      show ({ U with heap := s₂.heap, slotsUsed := s₂.slotsUsed } : State) = { U.setFrames U.frames with heap := s₂.heap, slotsUsed := s₂.slotsUsed }
      rw [State.setFrames_self ht]
    subst hg
    refine Or.inl ⟨v, ⟨(({ U with heap := s₂.heap, slotsUsed := s₂.slotsUsed } : State).setVm s₂.vm), Ls ++ L, c0 + mc, s0 + ms⟩,
      ⟨X.admits, X.cas, X.clock, X.frames, X.room, X.hears, X.method, X.code, (X.here.setHeapUsed s₂.heap s₂.slotsUsed).setVm hW'.alike, X.tail, State.WarmedH.trans X.warmed hW', X.limits, X.bytes, X.same.trans (hsame.setVm s.vm)⟩,
      ⟨g, mk, s₂, L, rfl, rfl, hqc, rfl, hL, rfl, rfl⟩, ?_⟩
    show Steps p.tables e below _ ((({ U with heap := s₂.heap, slotsUsed := s₂.slotsUsed } : State).setVm s₂.vm).setTop { g with pc := g.pc + len₂, stack := v.toList ++ g.stack })
    rw [← hs₂]
    exact hsteps
  · obtain ⟨e2, q2, q3, q4, q5, q6⟩ := id hsm
    have e3 : s₂ = ({ (U.calling g mk a).setFrames s₂.frames with heap := s₂.heap, slotsUsed := s₂.slotsUsed } : State).setVm s₂.vm := by
      have : s₂ = ({ s₂ with vm := (U.calling g mk a).vm } : State).setVm s₂.vm := rfl
      rw [e2] at this
      exact this
    have hf₂ : s₂.frames = .throwing q :: .java g :: U.frames.tail := hend
    have hW' : U.WarmedH s₂.vm := hW₂
    have hs₂ : s₂ = ((({ U with heap := s₂.heap, slotsUsed := s₂.slotsUsed } : State).setVm s₂.vm).setTop g).pushFrame (.throwing q) := by
      refine e3.trans ?_
      rw [hf₂, State.calling_eq h.top, State.setFrames_setFrames, State.pushFrame, State.frames_setTop _ hr', State.setTop_of_frames _ hr', State.setFrames_setFrames, hr]
      rfl
    have hsame : U.sameButNew ({ U with heap := s₂.heap, slotsUsed := s₂.slotsUsed } : State) L mc ms := by
      refine ⟨?_, q2, q3, q4, q5, q6⟩
      obtain ⟨t, ht, -⟩ := State.frames_cons hr
      show ({ U with heap := s₂.heap, slotsUsed := s₂.slotsUsed } : State) = { U.setFrames U.frames with heap := s₂.heap, slotsUsed := s₂.slotsUsed }
      rw [State.setFrames_self ht]
    subst hg
    refine Or.inr ⟨q, ⟨(({ U with heap := s₂.heap, slotsUsed := s₂.slotsUsed } : State).setVm s₂.vm), Ls ++ L, c0 + mc, s0 + ms⟩,
      ⟨X.admits, X.cas, X.clock, X.frames, X.room, X.hears, X.method, X.code, (X.here.setHeapUsed s₂.heap s₂.slotsUsed).setVm hW'.alike, X.tail, State.WarmedH.trans X.warmed hW', X.limits, X.bytes, X.same.trans (hsame.setVm s.vm)⟩,
      ⟨g, mk, s₂, L, E, ce, rfl, rfl, hx, hce, hcv, hcl, rfl, hL, rfl, rfl⟩, ?_⟩
    show Steps p.tables e below _ (((({ U with heap := s₂.heap, slotsUsed := s₂.slotsUsed } : State).setVm s₂.vm).setTop g).pushFrame (.throwing q))
    rw [← hs₂]
    exact hsteps
end Payer
section Calls
variable {p : Program} {l : Launch} {e : Env} {R : Room} {s : State} {m : MethodId} {args : Array Value} {below : List Frame} {meth : Method} {c : Code} {T : State} {locs : List Loc} {cells slots : Nat}
theorem vx_callV (X : Stand p l e R s m args below meth c T locs cells slots) (hexec : p.tables.exec = Jvm.exec) {own C : String} {index : Nat} {y : MethodName} {bytes : ByteArray} {maxL : Nat} {ret : Option FieldType}
    (hown : s.vm.findClass own = some m.cls) (hlink : (Cond.methodLink own index y).before args s = true) (hinst : (Cond.instanceMethod y).before args s = true) (hsel : (Cond.selects C y y).before args s = true)
    (hcode : (Cond.code y bytes maxL ret).before args s = true) (hy : y.cls ≠ "java/lang/invoke/MethodHandle" ∧ y.cls ≠ "java/lang/invoke/VarHandle")
    {W9 : Nat} {Pre : Pt → Array Value → Prop} {Post : Pt → Array Value → Option Value → Pt → Prop} {PostX : Pt → Array Value → Addr → Pt → Prop} (hK : vx_Back l R p e below s args y 3 W9 Pre Post PostX)
    {b : Addr} {cellB : Cell} (hcell : T.heap[b]? = some cellB) (hobj : cellB.vm.isStatics = false) (hcls : s.vm.findClass C = some cellB.cls)
    {g : JFrame} (hg : g.method = m) (hsize : g.locals.size = c.maxLocals) {argsL rest : List Value} (hlen : ∀ sig, parseMethodDescriptor y.desc = some sig → argsL.length = sig.parameters.length)
    (hstack : g.stack = argsL.reverse ++ .ref b :: rest) (hW : 2 * g.monitorRoom + (rest.map fun v => v.category).sum ≤ W9) (hdg : decode c.code g.pc = .ok (.invokevirtual index, 3))
    (hpre : ∀ vm₁, s.WarmedH vm₁ → Pre ⟨T.setVm vm₁, locs, cells, slots⟩ (Value.ref b :: argsL).toArray) :
    (∃ (v : Option Value) (vm₁ : Vm) (B : Pt), s.WarmedH vm₁ ∧ Stand p l e R s m args below meth c B.U B.locs B.cells B.slots ∧ Post ⟨T.setVm vm₁, locs, cells, slots⟩ (Value.ref b :: argsL).toArray v B ∧
      ∀ target, Steps p.tables e below (B.U.setTop { g with pc := g.pc + 3, stack := v.toList ++ rest }) target → Steps p.tables e below (T.setTop g) target) ∨
    (∃ (q : Addr) (vm₁ : Vm) (B : Pt), s.WarmedH vm₁ ∧ Stand p l e R s m args below meth c B.U B.locs B.cells B.slots ∧ PostX ⟨T.setVm vm₁, locs, cells, slots⟩ (Value.ref b :: argsL).toArray q B ∧
      Steps p.tables e below (T.setTop g) ((B.U.setTop { g with stack := rest }).pushFrame (.throwing q))) := by
  obtain ⟨mk, methM, hnamed, hmethM, hstM, habM⟩ := Cond.instanceMethod_spec hinst
  obtain ⟨methM', cM, hmethM', -, -, -, -, -, -, hsigM⟩ := Cond.code_spec hnamed hcode
  cases hmethM.symm.trans hmethM'
  obtain ⟨c2, r2, m2, q1, q2, q3, q4, kP, hkP, hkPi⟩ := Cond.selects_spec hsel
  cases hcls.symm.trans q1
  cases (State.methodFound?_of_named hnamed hy).symm.trans q2
  cases hnamed.symm.trans q3
  have hselP : selectMethod e.platform s.vm cellB.cls mk = .method mk := by rw [Launch.admits_selectMethod X.admits]; exact q4
  obtain ⟨vm₁, X₁, hstep₁⟩ := X.invokevirtual hexec hown hlink hnamed hmethM hstM hkP hkPi hy (a := b) (cell := cellB) hcell
    (fun z h => by rw [h] at hobj; cases hobj) hselP hmethM habM hkP hkPi (g := g) hg (argsL := argsL) (rest := rest) (hlen _ hsigM) hstack hdg
  rcases hK m meth c ⟨T.setVm vm₁, locs, cells, slots⟩ { g with stack := rest } (.invokevirtual index) mk (Value.ref b :: argsL).toArray X₁ hg hsize hdg hW (X₁.named hnamed) (hpre vm₁ X₁.warmed) with ⟨v, B, X', hpost, hsteps⟩ | ⟨q, B, X', hpost, hsteps⟩
  · exact Or.inl ⟨v, vm₁, B, X₁.warmed, X', hpost, fun target h => hstep₁ _ fun acts => by rw [doInvoke_state]; exact hsteps.trans h⟩
  · exact Or.inr ⟨q, vm₁, B, X₁.warmed, X', hpost, hstep₁ _ fun acts => by rw [doInvoke_state]; exact hsteps⟩
theorem vx_callS (X : Stand p l e R s m args below meth c T locs cells slots) (hexec : p.tables.exec = Jvm.exec) {own : String} {index : Nat} {y : MethodName} {bytes : ByteArray} {maxL : Nat} {ret : Option FieldType}
    (hown : s.vm.findClass own = some m.cls) (hlink : (Cond.methodLink own index y).before args s = true) (hstat : (Cond.static y).before args s = true) (hinit : (Cond.initialized y.cls).before args s = true)
    (hcode : (Cond.code y bytes maxL ret).before args s = true) (hy : y.cls ≠ "java/lang/invoke/MethodHandle" ∧ y.cls ≠ "java/lang/invoke/VarHandle")
    {W9 : Nat} {Pre : Pt → Array Value → Prop} {Post : Pt → Array Value → Option Value → Pt → Prop} {PostX : Pt → Array Value → Addr → Pt → Prop} (hK : vx_Back l R p e below s args y 3 W9 Pre Post PostX)
    {g : JFrame} (hg : g.method = m) (hsize : g.locals.size = c.maxLocals) {argsL rest : List Value} (hlen : ∀ sig, parseMethodDescriptor y.desc = some sig → argsL.length = sig.parameters.length)
    (hstack : g.stack = argsL.reverse ++ rest) (hW : 2 * g.monitorRoom + (rest.map fun v => v.category).sum ≤ W9) (hdg : decode c.code g.pc = .ok (.invokestatic index, 3))
    (hpre : ∀ vm₁, s.WarmedH vm₁ → Pre ⟨T.setVm vm₁, locs, cells, slots⟩ argsL.toArray) :
    (∃ (v : Option Value) (vm₁ : Vm) (B : Pt), s.WarmedH vm₁ ∧ Stand p l e R s m args below meth c B.U B.locs B.cells B.slots ∧ Post ⟨T.setVm vm₁, locs, cells, slots⟩ argsL.toArray v B ∧
      ∀ target, Steps p.tables e below (B.U.setTop { g with pc := g.pc + 3, stack := v.toList ++ rest }) target → Steps p.tables e below (T.setTop g) target) ∨
    (∃ (q : Addr) (vm₁ : Vm) (B : Pt), s.WarmedH vm₁ ∧ Stand p l e R s m args below meth c B.U B.locs B.cells B.slots ∧ PostX ⟨T.setVm vm₁, locs, cells, slots⟩ argsL.toArray q B ∧
      Steps p.tables e below (T.setTop g) ((B.U.setTop { g with stack := rest }).pushFrame (.throwing q))) := by
  obtain ⟨mk, hnamed⟩ := Cond.code_named hcode
  obtain ⟨methM, cM, hmethM, -, -, -, -, -, -, hsigM⟩ := Cond.code_spec hnamed hcode
  have hstatic : methM.isStatic = true := Cond.static_spec hnamed hmethM hstat
  obtain ⟨kP, hkP, -⟩ := className_of_methodNamed hnamed
  have hinitP : kP.init = .initialized := Cond.initialized_spec (findClass_of_methodNamed hnamed) hkP hinit
  obtain ⟨vm₁, X₁, hstep₁⟩ := X.invokestatic hexec hown hlink hnamed hmethM hstatic hkP hinitP hy (g := g) hg (argsL := argsL) (rest := rest) (hlen _ hsigM) hstack hdg
  rcases hK m meth c ⟨T.setVm vm₁, locs, cells, slots⟩ { g with stack := rest } (.invokestatic index) mk argsL.toArray X₁ hg hsize hdg hW (X₁.named hnamed) (hpre vm₁ X₁.warmed) with ⟨v, B, X', hpost, hsteps⟩ | ⟨q, B, X', hpost, hsteps⟩
  · exact Or.inl ⟨v, vm₁, B, X₁.warmed, X', hpost, fun target h => hstep₁ _ fun acts => by rw [doInvoke_state]; exact hsteps.trans h⟩
  · exact Or.inr ⟨q, vm₁, B, X₁.warmed, X', hpost, hstep₁ _ fun acts => by rw [doInvoke_state]; exact hsteps⟩
end Calls
theorem vx_cls {s : State} {T : State} {vm₁ : Vm} {E : String} {k : ClassId} (hW : s.WarmedH vm₁) (h : (T.setVm vm₁).vm.findClass E = some k) : s.vm.findClass E = some k := by
  have h1 : vm₁.findClass E = some k := h
  rw [hW.alike.findClass] at h1
  exact h1
/-- the method's frame g, with q thrown over it -/
def vx_W (p : Program) (l : Launch) (e : Env) (R : Room) (s : State) (m : MethodId) (args : Array Value) (below : List Frame) (meth : Method) (c : Code) (H : Heap) (locs : List Loc) (cells slots : Nat) (Q : State → Prop) (g : JFrame) (q : Addr) : Prop :=
  ∀ T : State, T.heap = H → Stand p l e R s m args below meth c T locs cells slots → ∃ t, Steps p.tables e below ((T.setTop g).pushFrame (.throwing q)) t ∧ Q t
def vx_Run (p : Program) (l : Launch) (e : Env) (R : Room) (s : State) (m : MethodId) (args : Array Value) (below : List Frame) (meth : Method) (c : Code) (H : Heap) (locs : List Loc) (cells slots mc ms : Nat) (g : JFrame) (rest : List Value) (Qa : State → Outcome → State → Prop) (XC : String → State → State → Prop) (free : Addr → Prop) : Prop :=
  ∀ T : State, T.heap = H → Stand p l e R s m args below meth c T locs cells slots →
    (∃ (v : Option Value) (st₀ t T' : State) (L : List Loc), st₀.heap = H ∧ Stand p l e R s m args below meth c T' (locs ++ L) (cells + mc) (slots + ms) ∧ (∀ q ∈ L, free q.base) ∧ T'.heap = t.heap ∧ T'.vm = t.vm ∧ Qa st₀ (.returned v) t ∧
      Goes p e below T g T' { g with pc := g.pc + 3, stack := v.toList ++ rest }) ∨
    (∃ (q : Addr) (st₀ t T' : State) (L : List Loc) (E : String) (ce : Cell), st₀.heap = H ∧ Stand p l e R s m args below meth c T' (locs ++ L) (cells + mc) (slots + ms) ∧ (∀ z ∈ L, free z.base) ∧ T'.heap = t.heap ∧ T'.vm = t.vm ∧ XC E st₀ t ∧ t.heap[q]? = some ce ∧ ce.vm = .none ∧ s.vm.findClass E = some ce.cls ∧
      Steps p.tables e below (T.setTop g) ((T'.setTop { g with stack := rest }).pushFrame (.throwing q)))
def vx_X {S : Type} (px : S → Prop) (B : String → S → State → Prop) (A : Nat → Prop) : String → State → State → Prop := fun E st t => ∃ u : S, px u ∧ B E u t ∧ va_F A st t
section Runs
variable {p : Program} {l : Launch} {e : Env} {R : Room} {s : State} {m : MethodId} {args : Array Value} {below : List Frame} {meth : Method} {c : Code} {H : Heap} {locs : List Loc} {cells slots : Nat}
variable {y : MethodName} {bytes cc : ByteArray} {maxL nL mc ms n index : Nat} {ret : Option FieldType} {ws : List Cond} {rm : Room} {Pc : Array Value → State → Prop} {Qc : Array Value → State → Outcome → State → Prop} {XC : String → State → State → Prop} {free : Addr → Prop} {Ts : List Cond} {own C : String} {b : Addr} {As rest : List Value} {g : JFrame}
theorem vx_callBack (cb : CallB R s args own index y bytes maxL ret ws rm mc ms n) (hM : vx_Met l y ws rm Pc Qc XC mc ms free) (hbl : FrameBlind Pc) : vx_Back l R p e below s args y 3 8 (PreOf R mc ms Pc) (PostOf Qc mc ms free) (vx_Post XC mc ms free) := by
  obtain ⟨hrc, hrs, hfr, hlo, hws, hcw, -, hini, -⟩ := cb
  exact vx_back (bytes := bytes) (maxL := maxL) (ret := ret) hM hbl hrc hrs hfr hlo hws hcw (fun a' U hW => word_at hW (Or.inl (by first | rfl | simp [Cond.onTables, Cond.keeps, Cond.steady])) hini)
theorem vx_runV (S : CallFix p m c cc nL s args Ts own) (hM : vx_Met l y ws rm Pc Qc XC mc ms free) (cw : CallW R s args own C index y bytes maxL ret ws rm mc ms n) (hp : PreV s H C b Pc As)
    (hg : g.method = m) (hn : As.length = n) (hsize : g.locals.size = nL) (hstack : g.stack = As.reverse ++ .ref b :: rest) (hW : 2 * g.monitorRoom + (rest.map fun v => v.category).sum ≤ 8) (hdg : decode cc g.pc = .ok (.invokevirtual index, 3)) (hf : cells + mc ≤ R.cells ∧ slots + ms ≤ R.slots) :
    vx_Run p l e R s m args below meth c H locs cells slots mc ms g rest (Qc (Value.ref b :: As).toArray) XC free := by
  have hK : vx_Back l R p e below s args y 3 8 (PreOf R mc ms Pc) (PostOf Qc mc ms free) (vx_Post XC mc ms free) := vx_callBack cw.1 hM hp.1
  obtain ⟨⟨-, -, -, -, -, -, hcode, -, hy, hlen, hl⟩, hin, hse⟩ := cw
  obtain ⟨hx, hb, hml, ho, -⟩ := S
  obtain ⟨-, ⟨cellB, hcB, hoB, hclB⟩, hPc⟩ := hp
  intro T hT X
  rcases vx_callV X hx (C := C) (bytes := bytes) (maxL := maxL) (ret := ret) ho hl hin hse hcode hy hK (by rw [hT]; exact hcB) hoB hclB hg (hsize.trans hml.symm) (argsL := As) (rest := rest) (fun sig h => hn.trans (hlen sig h)) hstack hW (by rw [hb]; exact hdg)
    (fun vm₁ hW₁ => ⟨hf.1, hf.2, hPc (T.setVm vm₁) hT hW₁⟩) with ⟨v, vm₁, ⟨U', l2, c2, s2⟩, hW₁, X', ⟨g', mk, t, L, e1, e2, hq, h1, hL, h2, h3⟩, st⟩ | ⟨q, vm₁, ⟨U', l2, c2, s2⟩, hW₁, X', ⟨g', mk, t, L, E, ce, e1, e2, hq, hce, hcv, hcl, h1, hL, h2, h3⟩, st⟩
  · dsimp only [Pt.U, Pt.locs, Pt.cells, Pt.slots] at X' e1 e2 h1 h2 h3 st
    subst h1; subst h2; subst h3
    exact Or.inl ⟨v, (T.setVm vm₁).calling g' mk (Value.ref b :: As).toArray, t, U', L, hT, X', hL, e1, e2, hq, st⟩
  · dsimp only [Pt.U, Pt.locs, Pt.cells, Pt.slots] at X' e1 e2 h1 h2 h3 st hcl
    subst h1; subst h2; subst h3
    exact Or.inr ⟨q, (T.setVm vm₁).calling g' mk (Value.ref b :: As).toArray, t, U', L, E, ce, hT, X', hL, e1, e2, hq, hce, hcv, vx_cls hW₁ hcl, st⟩
theorem vx_runS (S : CallFix p m c cc nL s args Ts own) (hM : vx_Met l y ws rm Pc Qc XC mc ms free) (cw : CallB R s args own index y bytes maxL ret ws rm mc ms n ∧ (Cond.static y).before args s = true) (hp : PreS s H Pc As)
    (hg : g.method = m) (hn : As.length = n) (hsize : g.locals.size = nL) (hstack : g.stack = As.reverse ++ rest) (hW : 2 * g.monitorRoom + (rest.map fun v => v.category).sum ≤ 8) (hdg : decode cc g.pc = .ok (.invokestatic index, 3)) (hf : cells + mc ≤ R.cells ∧ slots + ms ≤ R.slots) :
    vx_Run p l e R s m args below meth c H locs cells slots mc ms g rest (Qc As.toArray) XC free := by
  have hK : vx_Back l R p e below s args y 3 8 (PreOf R mc ms Pc) (PostOf Qc mc ms free) (vx_Post XC mc ms free) := vx_callBack cw.1 hM hp.1
  obtain ⟨⟨-, -, -, -, -, -, hcode, hini, hy, hlen, hl⟩, hstt⟩ := cw
  obtain ⟨hx, hb, hml, ho, -⟩ := S
  intro T hT X
  rcases vx_callS X hx (bytes := bytes) (maxL := maxL) (ret := ret) ho hl hstt hini hcode hy hK hg (hsize.trans hml.symm) (argsL := As) (rest := rest) (fun sig h => hn.trans (hlen sig h)) hstack hW (by rw [hb]; exact hdg)
    (fun vm₁ hW₁ => ⟨hf.1, hf.2, hp.2 (T.setVm vm₁) hT hW₁⟩) with ⟨v, vm₁, ⟨U', l2, c2, s2⟩, hW₁, X', ⟨g', mk, t, L, e1, e2, hq, h1, hL, h2, h3⟩, st⟩ | ⟨q, vm₁, ⟨U', l2, c2, s2⟩, hW₁, X', ⟨g', mk, t, L, E, ce, e1, e2, hq, hce, hcv, hcl, h1, hL, h2, h3⟩, st⟩
  · dsimp only [Pt.U, Pt.locs, Pt.cells, Pt.slots] at X' e1 e2 h1 h2 h3 st
    subst h1; subst h2; subst h3
    exact Or.inl ⟨v, (T.setVm vm₁).calling g' mk As.toArray, t, U', L, hT, X', hL, e1, e2, hq, st⟩
  · dsimp only [Pt.U, Pt.locs, Pt.cells, Pt.slots] at X' e1 e2 h1 h2 h3 st hcl
    subst h1; subst h2; subst h3
    exact Or.inr ⟨q, (T.setVm vm₁).calling g' mk As.toArray, t, U', L, E, ce, hT, X', hL, e1, e2, hq, hce, hcv, vx_cls hW₁ hcl, st⟩
end Runs
section Rows
variable {p : Program} {l : Launch} {e : Env} {R : Room} {s : State} {m : MethodId} {args : Array Value} {below : List Frame} {meth : Method} {c : Code} {H : Heap} {locs : List Loc} {cells slots : Nat} {Q : State → Prop}
variable {mc ms : Nat} {free : Addr → Prop} {A0 A1 : Nat → Prop} {H0 : Heap} {a : Array Value} {pc : Nat} {ls : Array Slot} {st0 rest : List Value}
theorem vx_keep {st₀ t T' : State} {L : List Loc} (h0 : st₀.heap = H) (e1 : T'.heap = t.heap) (hS : va_S A0 H0 H locs) (hA : ∀ q, q < H.size → A1 q → A0 q) (hf : ∀ q, free q → A0 q) (hL : ∀ q ∈ L, free q.base) (hF : va_F A1 st₀ t) :
    H.size ≤ T'.heap.size ∧ (∀ q : Nat, q < H.size → ¬ A1 q → T'.heap[q]? = H[q]?) ∧ va_S A0 H0 T'.heap (locs ++ L) := by
  obtain ⟨hz, hk⟩ := hF
  rw [h0] at hz hk
  exact ⟨by rw [e1]; exact hz, fun q h1 h2 => by rw [e1]; exact hk q h1 h2,
    ⟨Nat.le_trans hS.1 (by rw [e1]; exact hz), fun q h1 h2 => by rw [e1, hk q (Nat.lt_of_lt_of_le h1 hS.1) (fun z => h2 (hA q (Nat.lt_of_lt_of_le h1 hS.1) z))]; exact hS.2.1 q h1 h2, fun q hq => by
      rcases List.mem_append.mp hq with h | h
      · exact hS.2.2 q h
      · exact hf _ (hL q h)⟩⟩
theorem vx_calli {S SX : Type} {post : Int32 → S → Prop} {px : SX → Prop} {B : S → State → Prop} {BX : String → SX → State → Prop} {AX : Nat → Prop} (hr : vx_Run p l e R s m args below meth c H locs cells slots mc ms (F0 m pc ls st0) rest (va_Qi post B A1 a) (vx_X px BX AX) free) (hS : va_S A0 H0 H locs) (hA : ∀ q, q < H.size → A1 q → A0 q) (hf : ∀ q, free q → A0 q) (hAX : ∀ q, q < H.size → AX q → A0 q)
    (kx : ∀ (E : String) (ce : Cell) (q9 : Addr) (u : SX) (t : State) (H1 : Heap) (locs1 : List Loc), t.heap = H1 → s.vm.Alike t.vm → px u → BX E u t → H.size ≤ H1.size → (∀ q : Nat, q < H.size → ¬ AX q → H1[q]? = H[q]?) → va_S A0 H0 H1 locs1 → H1[q9]? = some ce → ce.vm = .none → s.vm.findClass E = some ce.cls → vx_W p l e R s m args below meth c H1 locs1 (cells + mc) (slots + ms) Q (F0 m pc ls rest) q9)
    (kk : ∀ (r : Int32) (u : S) (t : State) (H1 : Heap) (locs1 : List Loc), t.heap = H1 → s.vm.Alike t.vm → post r u → B u t → H.size ≤ H1.size → (∀ q : Nat, q < H.size → ¬ A1 q → H1[q]? = H[q]?) → va_S A0 H0 H1 locs1 → W p l e R s m args below meth c H1 locs1 (cells + mc) (slots + ms) Q (F0 m (pc + 3) ls (.int r :: rest))) : W p l e R s m args below meth c H locs cells slots Q (F0 m pc ls st0) := by
  intro T hT X
  rcases hr T hT X with ⟨v, st₀, t, T', L, h0, X', hL, e1, e2, ⟨⟨r, u, hv, hp, hb⟩, hF⟩, st⟩ | ⟨q, st₀, t, T', L, E, ce, h0, X', hL, e1, e2, ⟨u, hp, hb, hF⟩, hce, hcv, hcl, st⟩
  · cases hv
    obtain ⟨k1, k2, k3⟩ := vx_keep h0 e1 hS hA hf hL hF
    obtain ⟨t2, a1, b1⟩ := kk r u t T'.heap (locs ++ L) e1.symm (by rw [← e2]; exact X'.warmed.alike) hp hb k1 k2 k3 T' rfl X'
    exact ⟨t2, st t2 a1, b1⟩
  · obtain ⟨k1, k2, k3⟩ := vx_keep h0 e1 hS hAX hf hL hF
    obtain ⟨t2, a1, b1⟩ := kx E ce q u t T'.heap (locs ++ L) e1.symm (by rw [← e2]; exact X'.warmed.alike) hp hb k1 k2 k3 (by rw [e1]; exact hce) hcv hcl T' rfl X'
    exact ⟨t2, st.trans a1, b1⟩
theorem vx_calll {S SX : Type} {post : Int64 → S → Prop} {px : SX → Prop} {B : S → State → Prop} {BX : String → SX → State → Prop} {AX : Nat → Prop} (hr : vx_Run p l e R s m args below meth c H locs cells slots mc ms (F0 m pc ls st0) rest (va_Ql post B A1 a) (vx_X px BX AX) free) (hS : va_S A0 H0 H locs) (hA : ∀ q, q < H.size → A1 q → A0 q) (hf : ∀ q, free q → A0 q) (hAX : ∀ q, q < H.size → AX q → A0 q)
    (kx : ∀ (E : String) (ce : Cell) (q9 : Addr) (u : SX) (t : State) (H1 : Heap) (locs1 : List Loc), t.heap = H1 → s.vm.Alike t.vm → px u → BX E u t → H.size ≤ H1.size → (∀ q : Nat, q < H.size → ¬ AX q → H1[q]? = H[q]?) → va_S A0 H0 H1 locs1 → H1[q9]? = some ce → ce.vm = .none → s.vm.findClass E = some ce.cls → vx_W p l e R s m args below meth c H1 locs1 (cells + mc) (slots + ms) Q (F0 m pc ls rest) q9)
    (kk : ∀ (r : Int64) (u : S) (t : State) (H1 : Heap) (locs1 : List Loc), t.heap = H1 → s.vm.Alike t.vm → post r u → B u t → H.size ≤ H1.size → (∀ q : Nat, q < H.size → ¬ A1 q → H1[q]? = H[q]?) → va_S A0 H0 H1 locs1 → W p l e R s m args below meth c H1 locs1 (cells + mc) (slots + ms) Q (F0 m (pc + 3) ls (.long r :: rest))) : W p l e R s m args below meth c H locs cells slots Q (F0 m pc ls st0) := by
  intro T hT X
  rcases hr T hT X with ⟨v, st₀, t, T', L, h0, X', hL, e1, e2, ⟨⟨r, u, hv, hp, hb⟩, hF⟩, st⟩ | ⟨q, st₀, t, T', L, E, ce, h0, X', hL, e1, e2, ⟨u, hp, hb, hF⟩, hce, hcv, hcl, st⟩
  · cases hv
    obtain ⟨k1, k2, k3⟩ := vx_keep h0 e1 hS hA hf hL hF
    obtain ⟨t2, a1, b1⟩ := kk r u t T'.heap (locs ++ L) e1.symm (by rw [← e2]; exact X'.warmed.alike) hp hb k1 k2 k3 T' rfl X'
    exact ⟨t2, st t2 a1, b1⟩
  · obtain ⟨k1, k2, k3⟩ := vx_keep h0 e1 hS hAX hf hL hF
    obtain ⟨t2, a1, b1⟩ := kx E ce q u t T'.heap (locs ++ L) e1.symm (by rw [← e2]; exact X'.warmed.alike) hp hb k1 k2 k3 (by rw [e1]; exact hce) hcv hcl T' rfl X'
    exact ⟨t2, st.trans a1, b1⟩
theorem vx_callf {S SX : Type} {post : UInt32 → S → Prop} {px : SX → Prop} {B : S → State → Prop} {BX : String → SX → State → Prop} {AX : Nat → Prop} (hr : vx_Run p l e R s m args below meth c H locs cells slots mc ms (F0 m pc ls st0) rest (va_Qf post B A1 a) (vx_X px BX AX) free) (hS : va_S A0 H0 H locs) (hA : ∀ q, q < H.size → A1 q → A0 q) (hf : ∀ q, free q → A0 q) (hAX : ∀ q, q < H.size → AX q → A0 q)
    (kx : ∀ (E : String) (ce : Cell) (q9 : Addr) (u : SX) (t : State) (H1 : Heap) (locs1 : List Loc), t.heap = H1 → s.vm.Alike t.vm → px u → BX E u t → H.size ≤ H1.size → (∀ q : Nat, q < H.size → ¬ AX q → H1[q]? = H[q]?) → va_S A0 H0 H1 locs1 → H1[q9]? = some ce → ce.vm = .none → s.vm.findClass E = some ce.cls → vx_W p l e R s m args below meth c H1 locs1 (cells + mc) (slots + ms) Q (F0 m pc ls rest) q9)
    (kk : ∀ (r : UInt32) (u : S) (t : State) (H1 : Heap) (locs1 : List Loc), t.heap = H1 → s.vm.Alike t.vm → post r u → B u t → H.size ≤ H1.size → (∀ q : Nat, q < H.size → ¬ A1 q → H1[q]? = H[q]?) → va_S A0 H0 H1 locs1 → W p l e R s m args below meth c H1 locs1 (cells + mc) (slots + ms) Q (F0 m (pc + 3) ls (.float r :: rest))) : W p l e R s m args below meth c H locs cells slots Q (F0 m pc ls st0) := by
  intro T hT X
  rcases hr T hT X with ⟨v, st₀, t, T', L, h0, X', hL, e1, e2, ⟨⟨r, u, hv, hp, hb⟩, hF⟩, st⟩ | ⟨q, st₀, t, T', L, E, ce, h0, X', hL, e1, e2, ⟨u, hp, hb, hF⟩, hce, hcv, hcl, st⟩
  · cases hv
    obtain ⟨k1, k2, k3⟩ := vx_keep h0 e1 hS hA hf hL hF
    obtain ⟨t2, a1, b1⟩ := kk r u t T'.heap (locs ++ L) e1.symm (by rw [← e2]; exact X'.warmed.alike) hp hb k1 k2 k3 T' rfl X'
    exact ⟨t2, st t2 a1, b1⟩
  · obtain ⟨k1, k2, k3⟩ := vx_keep h0 e1 hS hAX hf hL hF
    obtain ⟨t2, a1, b1⟩ := kx E ce q u t T'.heap (locs ++ L) e1.symm (by rw [← e2]; exact X'.warmed.alike) hp hb k1 k2 k3 (by rw [e1]; exact hce) hcv hcl T' rfl X'
    exact ⟨t2, st.trans a1, b1⟩
theorem vx_calld {S SX : Type} {post : UInt64 → S → Prop} {px : SX → Prop} {B : S → State → Prop} {BX : String → SX → State → Prop} {AX : Nat → Prop} (hr : vx_Run p l e R s m args below meth c H locs cells slots mc ms (F0 m pc ls st0) rest (va_Qd post B A1 a) (vx_X px BX AX) free) (hS : va_S A0 H0 H locs) (hA : ∀ q, q < H.size → A1 q → A0 q) (hf : ∀ q, free q → A0 q) (hAX : ∀ q, q < H.size → AX q → A0 q)
    (kx : ∀ (E : String) (ce : Cell) (q9 : Addr) (u : SX) (t : State) (H1 : Heap) (locs1 : List Loc), t.heap = H1 → s.vm.Alike t.vm → px u → BX E u t → H.size ≤ H1.size → (∀ q : Nat, q < H.size → ¬ AX q → H1[q]? = H[q]?) → va_S A0 H0 H1 locs1 → H1[q9]? = some ce → ce.vm = .none → s.vm.findClass E = some ce.cls → vx_W p l e R s m args below meth c H1 locs1 (cells + mc) (slots + ms) Q (F0 m pc ls rest) q9)
    (kk : ∀ (r : UInt64) (u : S) (t : State) (H1 : Heap) (locs1 : List Loc), t.heap = H1 → s.vm.Alike t.vm → post r u → B u t → H.size ≤ H1.size → (∀ q : Nat, q < H.size → ¬ A1 q → H1[q]? = H[q]?) → va_S A0 H0 H1 locs1 → W p l e R s m args below meth c H1 locs1 (cells + mc) (slots + ms) Q (F0 m (pc + 3) ls (.double r :: rest))) : W p l e R s m args below meth c H locs cells slots Q (F0 m pc ls st0) := by
  intro T hT X
  rcases hr T hT X with ⟨v, st₀, t, T', L, h0, X', hL, e1, e2, ⟨⟨r, u, hv, hp, hb⟩, hF⟩, st⟩ | ⟨q, st₀, t, T', L, E, ce, h0, X', hL, e1, e2, ⟨u, hp, hb, hF⟩, hce, hcv, hcl, st⟩
  · cases hv
    obtain ⟨k1, k2, k3⟩ := vx_keep h0 e1 hS hA hf hL hF
    obtain ⟨t2, a1, b1⟩ := kk r u t T'.heap (locs ++ L) e1.symm (by rw [← e2]; exact X'.warmed.alike) hp hb k1 k2 k3 T' rfl X'
    exact ⟨t2, st t2 a1, b1⟩
  · obtain ⟨k1, k2, k3⟩ := vx_keep h0 e1 hS hAX hf hL hF
    obtain ⟨t2, a1, b1⟩ := kx E ce q u t T'.heap (locs ++ L) e1.symm (by rw [← e2]; exact X'.warmed.alike) hp hb k1 k2 k3 (by rw [e1]; exact hce) hcv hcl T' rfl X'
    exact ⟨t2, st.trans a1, b1⟩
theorem vx_callv {S SX : Type} {post : S → Prop} {px : SX → Prop} {B : S → State → Prop} {BX : String → SX → State → Prop} {AX : Nat → Prop} (hr : vx_Run p l e R s m args below meth c H locs cells slots mc ms (F0 m pc ls st0) rest (va_Qv post B A1 a) (vx_X px BX AX) free) (hS : va_S A0 H0 H locs) (hA : ∀ q, q < H.size → A1 q → A0 q) (hf : ∀ q, free q → A0 q) (hAX : ∀ q, q < H.size → AX q → A0 q)
    (kx : ∀ (E : String) (ce : Cell) (q9 : Addr) (u : SX) (t : State) (H1 : Heap) (locs1 : List Loc), t.heap = H1 → s.vm.Alike t.vm → px u → BX E u t → H.size ≤ H1.size → (∀ q : Nat, q < H.size → ¬ AX q → H1[q]? = H[q]?) → va_S A0 H0 H1 locs1 → H1[q9]? = some ce → ce.vm = .none → s.vm.findClass E = some ce.cls → vx_W p l e R s m args below meth c H1 locs1 (cells + mc) (slots + ms) Q (F0 m pc ls rest) q9)
    (kk : ∀ (u : S) (t : State) (H1 : Heap) (locs1 : List Loc), t.heap = H1 → s.vm.Alike t.vm → post u → B u t → H.size ≤ H1.size → (∀ q : Nat, q < H.size → ¬ A1 q → H1[q]? = H[q]?) → va_S A0 H0 H1 locs1 → W p l e R s m args below meth c H1 locs1 (cells + mc) (slots + ms) Q (F0 m (pc + 3) ls (rest))) : W p l e R s m args below meth c H locs cells slots Q (F0 m pc ls st0) := by
  intro T hT X
  rcases hr T hT X with ⟨v, st₀, t, T', L, h0, X', hL, e1, e2, ⟨⟨u, hv, hp, hb⟩, hF⟩, st⟩ | ⟨q, st₀, t, T', L, E, ce, h0, X', hL, e1, e2, ⟨u, hp, hb, hF⟩, hce, hcv, hcl, st⟩
  · cases hv
    obtain ⟨k1, k2, k3⟩ := vx_keep h0 e1 hS hA hf hL hF
    obtain ⟨t2, a1, b1⟩ := kk u t T'.heap (locs ++ L) e1.symm (by rw [← e2]; exact X'.warmed.alike) hp hb k1 k2 k3 T' rfl X'
    exact ⟨t2, st t2 a1, b1⟩
  · obtain ⟨k1, k2, k3⟩ := vx_keep h0 e1 hS hAX hf hL hF
    obtain ⟨t2, a1, b1⟩ := kx E ce q u t T'.heap (locs ++ L) e1.symm (by rw [← e2]; exact X'.warmed.alike) hp hb k1 k2 k3 (by rw [e1]; exact hce) hcv hcl T' rfl X'
    exact ⟨t2, st.trans a1, b1⟩
/-- caught by the row x of this method's table; the rows ahead don't take it -/
theorem vx_catch {own name : String} {E : String} {ce : Cell} {q : Addr} (hown : s.vm.findClass own = some m.cls) (pre : List ExceptionTableEntry) (x : ExceptionTableEntry) (suf : List ExceptionTableEntry) (hsplit : c.exceptionTable.toList = pre ++ x :: suf)
    (hpass : ∀ z ∈ pre, covers z pc = false ∨ (z.catchType ≠ 0 ∧ ∃ nm : String, (Cond.classLink own z.catchType nm).before args s = true ∧ va_Nc E nm s)) (hx : covers x pc = true) (h0 : x.catchType ≠ 0)
    (hlink : (Cond.classLink own x.catchType name).before args s = true) (hcast : (Cond.castable E name).before args s = true) (hcell : H[q]? = some ce) (hv : ce.vm = .none) (hcl : s.vm.findClass E = some ce.cls)
    (kk : W p l e R s m args below meth c H locs cells slots Q (F0 m x.handlerPc ls [.ref q])) : vx_W p l e R s m args below meth c H locs cells slots Q (F0 m pc ls rest) q := by
  intro T hT X
  have hpl : e.platform.magicAccessors = ({} : Platform).magicAccessors := by rw [X.admits.platform]
  obtain ⟨c3, c4, hc3, hc4, hasg⟩ := Cond.castable_spec hcast
  cases Option.some.inj (hc3.symm.trans hcl)
  obtain ⟨c5, hc5, hcl5⟩ := Cond.classLink_spec hown hlink e.platform hpl
  cases Option.some.inj (hc4.symm.trans hc5)
  obtain ⟨vm', X', st⟩ := X.thenCaughtThrough q (g := F0 m pc ls rest) rfl (Steps.refl _) (by rw [hT]; exact hcell) (by rw [hv]; rfl) (by obtain ⟨k9, h9, -⟩ := Vm.findClass_spec hcl; exact ⟨k9, h9⟩) pre x suf hsplit
    (fun z hz => by
      rcases hpass z hz with h | ⟨hz0, nm, hl1, hn1⟩
      · exact Or.inl h
      · obtain ⟨c6, hc6, hcl6⟩ := Cond.classLink_spec hown hl1 e.platform hpl
        obtain ⟨a8, b8, h1, h2, h3⟩ := hn1
        cases Option.some.inj (h1.symm.trans hcl)
        cases Option.some.inj (h2.symm.trans hc6)
        exact Or.inr ⟨hz0, _, hcl6, h3⟩) hx (Or.inr ⟨h0, c4, hcl5, hasg⟩)
  obtain ⟨t, a1, b1⟩ := kk (T.setVm vm') hT X'
  exact ⟨t, st.trans a1, b1⟩
end Rows
section Ends
variable {p : Program} {l : Launch} {e : Env} {R : Room} {s : State} {m : MethodId} {args : Array Value} {below : List Frame} {meth : Method} {c : Code} {H : Heap} {locs : List Loc} {cells slots : Nat} {Q : State → Prop}
variable {mc ms : Nat} {free : Addr → Prop} {A0 A1 : Nat → Prop} {H0 : Heap} {a : Array Value} {ls : Array Slot} {st0 rest : List Value}
variable {Qc : Array Value → State → Outcome → State → Prop} {XC : String → State → State → Prop}
/-- what a body that may throw owes at its end -/
def vx_MQ (below : List Frame) (Qc : Array Value → State → Outcome → State → Prop) (XC : String → State → State → Prop) (a : Array Value) (s : State) (mc ms : Nat) (free : Addr → Prop) : State → Prop := fun t =>
  ∃ o, t.status = .running ∧ Ended t below o ∧ vx_Q Qc XC mc ms free a s o t
theorem vx_ret {g : JFrame} {mc ms : Nat} (k : W p l e R s m args below meth c H locs cells slots (MQ below Qc args s mc ms free) g) : W p l e R s m args below meth c H locs cells slots (vx_MQ below Qc XC args s mc ms free) g := by
  intro T hT X
  obtain ⟨t, a1, o, b1, b2, b3, b4⟩ := k T hT X
  exact ⟨t, a1, o, b1, b2, Or.inl ⟨b3, b4⟩⟩
/-- not caught here: it goes on to the caller -/
theorem vx_widen {g : JFrame} {q : Addr} {k n : Nat} (h1 : cells ≤ k) (h2 : slots ≤ n) (kk : vx_W p l e R s m args below meth c H locs k n Q g q) : vx_W p l e R s m args below meth c H locs cells slots Q g q := fun T hT X => kk T hT (stand_widen X h1 h2)
theorem vx_out {pc : Nat} {E : String} {ce : Cell} {q : Addr} {mc ms : Nat} (hout : ∀ x ∈ c.exceptionTable.toList, covers x pc = false) (hlocks : meth.locks = false) (hcell : H[q]? = some ce) (hv : ce.vm = .none) (hcl : s.vm.findClass E = some ce.cls)
    (hx : ∀ t : State, t.heap = H → s.vm.Alike t.vm → XC E s t) (hf : ∀ z ∈ locs, free z.base) (hc : cells ≤ mc) (hs : slots ≤ ms) :
    vx_W p l e R s m args below meth c H locs cells slots (vx_MQ below Qc XC args s mc ms free) (F0 m pc ls rest) q := by
  intro T hT X
  obtain ⟨st1, hrun, hend, hW, hsm⟩ := X.leaveThrown q (g := F0 m pc ls rest) rfl rfl rfl hout hlocks
  have hcell9 : (T.setFrames (.throwing q :: below)).heap[q]? = some ce := by
    show T.heap[q]? = some ce
    rw [hT]; exact hcell
  exact ⟨_, st1, .threw q, hrun, hend, Or.inr ⟨q, rfl, E, ce, locs, hx _ hT hW.alike, hcell9, hv, hcl, hW, hsm.mono hc hs, hf⟩⟩
theorem vx_frame {U : State} {k n : Nat} (h : s.sameButNew ({ U with vm := s.vm } : State) locs k n) : s.heap.size ≤ U.heap.size ∧ ∀ q : Nat, q < s.heap.size → (∀ z ∈ locs, z.base ≠ q) → U.heap[q]? = s.heap[q]? := by
  obtain ⟨-, h2, -, -, -, h6⟩ := h
  refine ⟨h2, fun q hq hz => ?_⟩
  obtain ⟨c9, e1, e2, e3, e4⟩ := h6 q _ (Array.getElem?_eq_getElem hq)
  have hs : c9.slots = (s.heap[q]).slots := Array.ext_getElem? fun i => e4 i fun hm => hz _ hm rfl
  have h9 : c9 = s.heap[q] := by
    rw [hs] at e2
    exact e2
  have e5 : U.heap[q]? = some c9 := e1
  rw [e5, h9, Array.getElem?_eq_getElem hq]
/-- the words of a throw but the four that speak of the heap -/
def vx_no (w : Cond) : Bool := decide (w ≠ .isRef (.static Bundle.tN "UNASSIGNED_STACK" Bundle.steD)) && decide (w ≠ .isRef (.static Bundle.tN "SUPPRESSED_SENTINEL" Bundle.listD)) && decide (w ≠ .laysStatic Bundle.tN "UNASSIGNED_STACK" Bundle.steD) && decide (w ≠ .laysStatic Bundle.tN "SUPPRESSED_SENTINEL" Bundle.listD)
def vx_at0 (own : String) (ic : Nat) (X : String) (names : List String) : List Cond := (Bundle.ownAtoms0 own ic X names).filter vx_no
def vx_atS (own : String) (ic : Nat) (X : String) (names : List String) : List Cond := (Bundle.ownAtoms own ic X names).filter vx_no
/-- a word that the tables alone decide, or a good one -/
def vx_ot (w : Cond) : Bool := w.onTables || goodWord w
theorem vx_ot_at {args a' : Array Value} {s U : State} {w : Cond} (hW : s.WarmedH U.vm) (hvm : s.vm = U.vm) (hg : vx_ot w = true) (h : w.before args s = true) : w.before a' U = true := by
  simp only [vx_ot, Bool.or_eq_true] at hg
  rcases hg with hg | hg
  · exact va_tabs hg hvm h
  · exact word_at hW (good_of_word hg) h
/-- a list's words: the good ones out of the method's own list, the others by premises of their own -/
theorem vx_hat {args : Array Value} {s : State} {L B : List Cond} (h1 : ∀ w ∈ L.filter goodWord, w.before args s = true) (h2 : ∀ w ∈ L.filter (fun w => !goodWord w), w ∈ B) (h3 : ∀ w ∈ B, w.before args s = true) : ∀ w ∈ L, w.before args s = true := by
  intro w hw
  by_cases g : goodWord w = true
  · exact h1 w (List.mem_filter.mpr ⟨hw, g⟩)
  · refine h3 w (h2 w (List.mem_filter.mpr ⟨hw, ?_⟩))
    show (!goodWord w) = true
    cases hgw : goodWord w
    · rfl
    · exact absurd hgw g
theorem vx_c {args : Array Value} {s : State} {w : Cond} {B : List Cond} (h : w.before args s = true) (t : ∀ w ∈ B, w.before args s = true) : ∀ w' ∈ w :: B, w'.before args s = true := fun w' h' => (List.mem_cons.mp h').elim (fun e => by rw [e]; exact h) (t w')
theorem vx_n {args : Array Value} {s : State} : ∀ w ∈ ([] : List Cond), w.before args s = true := fun _ h => nomatch h
theorem vx_own {args : Array Value} {s : State} {L : List Cond} (h1 : ∀ w ∈ L.filter vx_no, w.before args s = true)
    (hU : (Cond.isRef (.static Bundle.tN "UNASSIGNED_STACK" Bundle.steD)).before args s = true) (hN : (Cond.isRef (.static Bundle.tN "SUPPRESSED_SENTINEL" Bundle.listD)).before args s = true)
    (lU : (Cond.laysStatic Bundle.tN "UNASSIGNED_STACK" Bundle.steD).before args s = true) (lN : (Cond.laysStatic Bundle.tN "SUPPRESSED_SENTINEL" Bundle.listD).before args s = true) : ∀ w ∈ L, w.before args s = true := by
  intro w hw
  by_cases e1 : w = .isRef (.static Bundle.tN "UNASSIGNED_STACK" Bundle.steD)
  · rw [e1]; exact hU
  · by_cases e2 : w = .isRef (.static Bundle.tN "SUPPRESSED_SENTINEL" Bundle.listD)
    · rw [e2]; exact hN
    · by_cases e3 : w = .laysStatic Bundle.tN "UNASSIGNED_STACK" Bundle.steD
      · rw [e3]; exact lU
      · by_cases e4 : w = .laysStatic Bundle.tN "SUPPRESSED_SENTINEL" Bundle.listD
        · rw [e4]; exact lN
        · exact h1 w (List.mem_filter.mpr ⟨hw, by unfold vx_no; rw [decide_eq_true e1, decide_eq_true e2, decide_eq_true e3, decide_eq_true e4]; rfl⟩)
/-- where a static field lies, its class's statics cell in H -/
def vx_L (C n d : String) (A : Nat → Prop) (U : State) (H : Heap) : Prop := ∃ (c : ClassId) (k : Class) (i : Nat) (f : Field) (a : Nat) (cell : Cell), U.vm.findClass C = some c ∧ U.fieldFound? C n d = some (c, k, i, f) ∧ f.isStatic = true ∧ k.statics = some a ∧ H[a]? = some cell ∧ cell.vm.isStatics = true ∧ cell.cls = c ∧ f.slot < cell.slots.size ∧ k.staticTypes[f.slot]? = some f.type ∧ ¬ A a
theorem vx_L.moved {C n d : String} {A : Nat → Prop} {u U : State} {H : Heap} (hvm : u.vm.Alike U.vm) (h : vx_L C n d A u H) : vx_L C n d A U H := by
  obtain ⟨c, k, i, f, a, cell, h1, h2, h3, h4, h5, h6, h7, h8, h9, h10⟩ := h
  obtain ⟨k', hi', he⟩ := State.fieldFound?_setVm hvm h2
  exact ⟨c, k', i, f, a, cell, by rw [hvm.findClass]; exact h1, hi', h3, by rw [he]; exact h4, h5, h6, h7, h8, by rw [he]; exact h9, h10⟩
theorem vx_L.kept {C n d : String} {A : Nat → Prop} {U : State} {H H1 : Heap} (h : vx_L C n d A U H) (hq : ∀ a : Nat, a < H.size → ¬ A a → H1[a]? = H[a]?) : vx_L C n d A U H1 := by
  obtain ⟨c, k, i, f, a, cell, h1, h2, h3, h4, h5, h6, h7, h8, h9, h10⟩ := h
  exact ⟨c, k, i, f, a, cell, h1, h2, h3, h4, by rw [hq a (Array.getElem?_eq_some_iff.mp h5).1 h10]; exact h5, h6, h7, h8, h9, h10⟩
theorem vx_L.narrow {C n d : String} {A B : Nat → Prop} {U : State} {H : Heap} (h : vx_L C n d A U H) (hAB : ∀ q, B q → A q) : vx_L C n d B U H := by
  obtain ⟨c, k, i, f, a, cell, h1, h2, h3, h4, h5, h6, h7, h8, h9, h10⟩ := h
  exact ⟨c, k, i, f, a, cell, h1, h2, h3, h4, h5, h6, h7, h8, h9, fun z => h10 (hAB _ z)⟩
theorem vx_L.word {C n d : String} {A : Nat → Prop} {s : State} {args : Array Value} (h : vx_L C n d A s s.heap) : (Cond.laysStatic C n d).before args s = true := by
  obtain ⟨c, k, i, f, a, cell, h1, h2, h3, h4, h5, h6, h7, h8, h9, -⟩ := h
  show (Cond.laysStatic C n d).holds args s none s [] = true
  exact Cond.laysStatic_of h1 h2 h3 h4 h5 h6 h7 h8 h9
/-- .. and what it holds: null or some reference -/
def vx_Zq (C n d : String) (A : Nat → Prop) (U : State) (H : Heap) : Prop := va_Zq C n d A U H ∧ vx_L C n d A U H
theorem vx_Zq.moved {C n d : String} {A : Nat → Prop} {u U : State} {H : Heap} (hvm : u.vm.Alike U.vm) (h : vx_Zq C n d A u H) : vx_Zq C n d A U H := ⟨va_Zq.moved hvm h.1, vx_L.moved hvm h.2⟩
theorem vx_Zq.kept {C n d : String} {A : Nat → Prop} {U : State} {H H1 : Heap} (h : vx_Zq C n d A U H) (hq : ∀ a : Nat, a < H.size → ¬ A a → H1[a]? = H[a]?) : vx_Zq C n d A U H1 := ⟨va_Zq.kept h.1 hq, vx_L.kept h.2 hq⟩
theorem vx_Zq.narrow {C n d : String} {A B : Nat → Prop} {U : State} {H : Heap} (h : vx_Zq C n d A U H) (hAB : ∀ q, B q → A q) : vx_Zq C n d B U H := ⟨va_Zq.narrow h.1 hAB, vx_L.narrow h.2 hAB⟩
theorem vx_Zqof {args : Array Value} {s : State} {C n d : String} {A : Nat → Prop} (hl : (Cond.laysStatic C n d).before args s = true) (hini : (Cond.initialized C).before args s = true) (h : (Cond.isRef (.static C n d)).before args s = true) (hA : ∀ a : Nat, a < s.heap.size → ¬ A a) : vx_Zq C n d A s s.heap := by
  refine ⟨va_Zqof hl hini h hA, ?_⟩
  obtain ⟨c, k, i, f, a, cell, h1, h2, h3, h4, h5, h6, h7, h8, h9⟩ := Cond.laysStatic_spec hl
  exact ⟨c, k, i, f, a, cell, h1, h2, h3, h4, h5, h6, h7, h8, h9, hA a (Array.getElem?_eq_some_iff.mp h5).1⟩
theorem vx_isRef {C n d : String} {v : Value} {A : Nat → Prop} {s : State} {args : Array Value} (h : va_Z C n d v A s s.heap) (hv : v.isRef = true) : (Cond.isRef (.static C n d)).before args s = true := by
  obtain ⟨cf, kf, fi, f, a, cell, h1, h2, h3, h4, h5, h6, h7, -⟩ := h
  have he : (Term.static C n d).eval args s none [] s = some v := by
    simp [Term.eval, State.fieldNamed?, h1, h2, h4, h5, h6, h7]
  simp only [Cond.before, Cond.holds, Cond.value, he]
  cases v <;> simp_all [Value.isRef]
theorem vx_isRefq {C n d : String} {A : Nat → Prop} {s : State} {args : Array Value} (h : va_Zq C n d A s s.heap) : (Cond.isRef (.static C n d)).before args s = true := by
  rcases h with h | ⟨t, h⟩
  · exact vx_isRef h rfl
  · exact vx_isRef h rfl
/-- the same frame, seen from here: as if the method were called anew in this heap -/
theorem vx_rebase {T : State} (X : Stand p l e R s m args below meth c T locs cells slots) {R' : Room} (hf : R'.frames ≤ R.frames) (hl : R'.locals ≤ R.locals) (hc : cells + R'.cells ≤ R.cells) (hs : slots + R'.slots ≤ R.slots) :
    Stand p l e R' ((T.setVm s.vm).setFrames (.invoking m args :: below)) m args below meth c T [] 0 0 := by
  have htop : (T.setVm s.vm).topJava?.isSome := X.here.top
  have hF : ((T.setVm s.vm).setFrames (.invoking m args :: below)).frames = .invoking m args :: below := State.frames_setFrames _ (State.cur_lt_of_top htop)
  obtain ⟨g₀, hg0⟩ := Option.isSome_iff_exists.mp htop
  obtain ⟨r, hr⟩ := State.topJava?_eq_some.mp hg0
  have hl9 : e.platform.stackLimits (T.setVm s.vm).me = e.platform.stackLimits s.me := X.limits
  have hb9 : (T.setVm s.vm).me.stackBytes = s.me.stackBytes := X.bytes
  refine ⟨X.admits, X.cas, X.clock, hF, ?_, X.hears, X.method, X.code, X.here, X.tail, X.warmed, ?_, ?_, ?_⟩
  · have h := X.room
    have hU : ((T.setVm s.vm).setFrames (.invoking m args :: below)).localsInUse = s.localsInUse := by
      rw [State.localsInUse_invoking hF (meth := meth) (c := c) X.method X.code, State.localsInUse_invoking X.frames X.method X.code]
    simp only [State.hasRoom, Bool.and_eq_true, decide_eq_true_eq] at h ⊢
    obtain ⟨⟨⟨⟨h1, h2, h3, h4, h5, h6⟩, h7⟩, h8⟩, h9⟩ := h
    rw [X.frames, List.length_cons] at h2 h3
    have q1 := X.heapSize
    have q2 := X.used
    simp only [hF, hU, List.length_cons, State.stackLimits_setFrames, State.stackBytes_setFrames, hl9, hb9]
    refine ⟨⟨⟨⟨by omega, by omega, by omega, by omega, by omega, h6⟩, ?_⟩, ?_⟩, X.book⟩
    · show T.heap.size + R'.cells ≤ e.platform.maxCells
      omega
    · show T.slotsUsed + R'.slots ≤ e.platform.maxSlots
      omega
  · rw [State.stackLimits_setFrames]; rfl
  · rw [State.stackBytes_setFrames]; rfl
  · refine ⟨?_, Nat.le_refl _, Nat.le_refl _, ?_, ?_, fun a c9 h9 => ⟨c9, h9, rfl, rfl, fun _ _ => rfl⟩⟩
    · obtain ⟨t, ht, -⟩ := State.frames_cons hr
      show T.setVm s.vm = { ((T.setVm s.vm).setFrames (.invoking m args :: below)).setFrames (T.setVm s.vm).frames with heap := T.heap, slotsUsed := T.slotsUsed }
      rw [State.setFrames_setFrames, State.setFrames_self ht]
      rfl
    · show T.slotsUsed = T.slotsUsed + ((T.heap.toList.drop T.heap.size).map (·.slots.size)).sum
      rw [List.drop_eq_nil_of_le (Nat.le_of_eq Array.length_toList)]
      rfl
    · show ((T.heap.toList.drop T.heap.size).map (·.slots.size)).sum ≤ 0
      rw [List.drop_eq_nil_of_le (Nat.le_of_eq Array.length_toList)]
      exact Nat.le_refl _
/-- 'throw new E()': new; dup; invokespecial; athrow -/
theorem vx_throw0 {cc : ByteArray} {pc : Nat} (hexec : p.tables.exec = Jvm.exec) (hb : c.code = cc) (hl : l.stackTraces = false) {own cls : String} {names : List String} {ik ic mc ms : Nat} {A : Nat → Prop}
    (hown : s.vm.findClass own = some m.cls) (hcls : Bundle.fit cls = true) (hnames : ∀ n ∈ names, Bundle.fit n = true)
    (hk : (Cond.classLink own ik cls).before args s = true) (hini : (Cond.initialized cls).before args s = true) (hat : ∀ w ∈ vx_at0 own ic cls names, w.before args s = true)
    (hgood : ∀ w ∈ Cond.classLink own ik cls :: Cond.initialized cls :: vx_at0 own ic cls names, vx_ot w = true)
    (hU : vx_Zq Bundle.tN "UNASSIGNED_STACK" Bundle.steD A s s.heap) (hN : vx_Zq Bundle.tN "SUPPRESSED_SENTINEL" Bundle.listD A s s.heap) (hS : va_S A s.heap H locs) (hsize : ls.size = c.maxLocals)
    (d0 : decode cc pc = .ok (.new ik, 3)) (d3 : decode cc (pc + 3) = .ok (.dup, 1)) (d4 : decode cc (pc + 4) = .ok (.invokespecial ic, 3)) (d7 : decode cc (pc + 7) = .ok (.athrow, 1))
    (hout : ∀ x ∈ c.exceptionTable.toList, covers x (pc + 7) = false)
    (hRframes : names.length + 3 < R.frames) (hRlocals : (rest.map fun v => v.category).sum + (13 * (names.length + 1) + 42) ≤ R.locals) (hRcells : cells + 1 ≤ R.cells) (hRslots : slots + 6 ≤ R.slots) (hlocks : meth.locks = false)
    (hx : ∀ t : State, s.vm.Alike t.vm → H.size ≤ t.heap.size → (∀ q : Nat, q < H.size → t.heap[q]? = H[q]?) → XC cls s t)
    (hf : ∀ z ∈ locs, free z.base) (hc : cells + 1 ≤ mc) (hs : slots + 6 ≤ ms) :
    W p l e R s m args below meth c H locs cells slots (vx_MQ below Qc XC args s mc ms free) (F0 m pc ls rest) := by
  intro T hT X
  have htr : e.platform.stackTraces = false := (show e.platform.stackTraces = l.stackTraces by rw [X.admits.platform]).trans hl
  have Y := vx_rebase X (R' := { frames := R.frames, locals := R.locals, cells := 1, slots := 6 }) (Nat.le_refl _) (Nat.le_refl _) hRcells hRslots
  obtain ⟨s', hA⟩ : ∃ z, z = (T.setVm s.vm).setFrames (.invoking m args :: below) := ⟨_, rfl⟩
  rw [← hA] at Y
  have hvm : s'.vm = s.vm := by rw [hA]; rfl
  have hhp : s'.heap = H := by rw [hA]; exact hT
  have hW0 : s.WarmedH s'.vm := by rw [hvm]; exact State.WarmedH.refl s
  have hat' : ∀ w ∈ vx_at0 own ic cls names, w.before args s' = true := fun w hw => vx_ot_at hW0 hvm.symm (hgood w (List.mem_cons_of_mem _ (List.mem_cons_of_mem _ hw))) (hat w hw)
  have hk' : (Cond.classLink own ik cls).before args s' = true := vx_ot_at hW0 hvm.symm (hgood _ List.mem_cons_self) hk
  have hini' : (Cond.initialized cls).before args s' = true := vx_ot_at hW0 hvm.symm (hgood _ (List.mem_cons_of_mem _ List.mem_cons_self)) hini
  have hU' : vx_Zq Bundle.tN "UNASSIGNED_STACK" Bundle.steD A s' s'.heap := by rw [hhp]; exact vx_Zq.moved hW0.alike (hU.kept hS.2.1)
  have hN' : vx_Zq Bundle.tN "SUPPRESSED_SENTINEL" Bundle.listD A s' s'.heap := by rw [hhp]; exact vx_Zq.moved hW0.alike (hN.kept hS.2.1)
  have h : ∀ w ∈ Bundle.ownAtoms0 own ic cls names, w.before args s' = true := vx_own hat' (vx_isRefq hU'.1) (vx_isRefq hN'.1) hU'.2.word hN'.2.word
  have hown' : s'.vm.findClass own = some m.cls := by rw [hvm]; exact hown
  have hins : (Cond.instantiable cls 6).before args s' = true := h _ (by simp [Bundle.ownAtoms0])
  obtain ⟨vm₁, cX, kX, hfX, hkX, -, -, X₁, st1⟩ := Y.newCold hexec (own := own) (C := cls) (index := ik) (n := 6) hown' hk' hins hini'
    (g := F0 m pc ls rest) rfl (by rw [hb]; exact d0) (Nat.le_refl _) (Nat.le_refl _)
  generalize hT1 : (T.setVm vm₁).pushCell { cls := cX, slots := kX.instanceTypes.map defaultValue, vm := .none } = T1 at X₁ st1
  have hcat : (Value.ref T.heap.size).category = 1 := rfl
  have hcellA : T1.heap[T.heap.size]? = some (freshCell cX kX) := by rw [← hT1]; exact State.heap_pushCell_size _ _
  have d3' : decode c.code (pc + 3) = .ok (.dup, 1) := by rw [hb]; exact d3
  obtain ⟨U, hsteps, hrun, hend, hW, hsame, ce, hce, hO⟩ := X₁.ctorThrow0 hexec htr (own := own) (cls := cls) (names := names) (ic := ic) hown' hcls hnames h (fun x hx => nomatch hx) hfX hkX hcellA (by rw [hhp, hT]; exact Nat.le_refl _)
    (g := { method := m, pc := pc + 4, locals := ls, stack := .ref T.heap.size :: .ref T.heap.size :: rest, locked := none }) rfl hsize rfl rfl (rest := rest) rfl
    (by rw [hb]; exact d4) (by rw [hb]; exact d7) hout hRframes (by simp only [List.map_cons, List.sum_cons, hcat]; omega) hlocks
  obtain ⟨f1, f2⟩ := vx_frame hsame
  rw [hhp] at f1 f2
  have hWs : s.WarmedH U.vm := State.WarmedH.trans hW0 hW
  have hcl : s.vm.findClass cls = some ce.cls := by
    have h9 := hO.cls
    rw [hvm] at h9
    exact h9
  have hall : s.sameButNew ({ U with vm := s.vm } : State) locs mc ms := by
    subst hA
    obtain ⟨e1, e2⟩ := hsame
    rw [State.setFrames_setFrames] at e1
    have h2 : (T.setVm s.vm).sameButNew ({ U with vm := s.vm } : State) [] (0 + 1) (0 + 6) := ⟨e1, e2⟩
    have h3 := X.same.trans h2
    rw [List.append_nil] at h3
    exact h3.mono hc hs
  refine ⟨U, ?_, .threw T.heap.size, hrun, hend, Or.inr ⟨T.heap.size, rfl, cls, ce, locs, hx U hWs.alike f1 (fun q hq => f2 q hq (fun z hz => nomatch hz)), hce, hO.vm, hcl, hWs, hall, hf⟩⟩
  refine st1 _ ?_
  show Steps p.tables e below (T1.setTop { method := m, pc := pc + 3, locals := ls, stack := .ref T.heap.size :: rest, locked := none }) _
  jvm_step X₁.here [X₁.here.top, hexec, d3', Value.category]
  exact hsteps
/-- 'throw new E("text")': new; dup; ldc; invokespecial; athrow -/
theorem vx_throwS {cc : ByteArray} {pc : Nat} (hexec : p.tables.exec = Jvm.exec) (hb : c.code = cc) (hl : l.stackTraces = false) {own cls text : String} {names : List String} {ik is ic mc ms sa : Nat} {A : Nat → Prop}
    (hown : s.vm.findClass own = some m.cls) (hcls : Bundle.fit cls = true) (hnames : ∀ n ∈ names, Bundle.fit n = true)
    (hk : (Cond.classLink own ik cls).before args s = true) (hini : (Cond.initialized cls).before args s = true) (hstr : vk_R own is text sa s) (hat : ∀ w ∈ vx_atS own ic cls names, w.before args s = true)
    (hgood : ∀ w ∈ Cond.classLink own ik cls :: Cond.initialized cls :: vx_atS own ic cls names, vx_ot w = true)
    (hU : vx_Zq Bundle.tN "UNASSIGNED_STACK" Bundle.steD A s s.heap) (hN : vx_Zq Bundle.tN "SUPPRESSED_SENTINEL" Bundle.listD A s s.heap) (hS : va_S A s.heap H locs) (hsize : ls.size = c.maxLocals)
    (d0 : decode cc pc = .ok (.new ik, 3)) (d3 : decode cc (pc + 3) = .ok (.dup, 1)) (d4 : decode cc (pc + 4) = .ok (.ldc is, 2)) (d6 : decode cc (pc + 6) = .ok (.invokespecial ic, 3)) (d9 : decode cc (pc + 9) = .ok (.athrow, 1))
    (hout : ∀ x ∈ c.exceptionTable.toList, covers x (pc + 9) = false)
    (hRframes : names.length + 3 < R.frames) (hRlocals : (rest.map fun v => v.category).sum + (13 * (names.length + 1) + 43) ≤ R.locals) (hRcells : cells + 1 ≤ R.cells) (hRslots : slots + 6 ≤ R.slots) (hlocks : meth.locks = false)
    (hx : ∀ t : State, s.vm.Alike t.vm → H.size ≤ t.heap.size → (∀ q : Nat, q < H.size → t.heap[q]? = H[q]?) → XC cls s t)
    (hf : ∀ z ∈ locs, free z.base) (hc : cells + 1 ≤ mc) (hs : slots + 6 ≤ ms) :
    W p l e R s m args below meth c H locs cells slots (vx_MQ below Qc XC args s mc ms free) (F0 m pc ls rest) := by
  intro T hT X
  have htr : e.platform.stackTraces = false := (show e.platform.stackTraces = l.stackTraces by rw [X.admits.platform]).trans hl
  have Y := vx_rebase X (R' := { frames := R.frames, locals := R.locals, cells := 1, slots := 6 }) (Nat.le_refl _) (Nat.le_refl _) hRcells hRslots
  obtain ⟨s', hA⟩ : ∃ z, z = (T.setVm s.vm).setFrames (.invoking m args :: below) := ⟨_, rfl⟩
  rw [← hA] at Y
  have hvm : s'.vm = s.vm := by rw [hA]; rfl
  have hhp : s'.heap = H := by rw [hA]; exact hT
  have hW0 : s.WarmedH s'.vm := by rw [hvm]; exact State.WarmedH.refl s
  have hat' : ∀ w ∈ vx_atS own ic cls names, w.before args s' = true := fun w hw => vx_ot_at hW0 hvm.symm (hgood w (List.mem_cons_of_mem _ (List.mem_cons_of_mem _ hw))) (hat w hw)
  have hk' : (Cond.classLink own ik cls).before args s' = true := vx_ot_at hW0 hvm.symm (hgood _ List.mem_cons_self) hk
  have hini' : (Cond.initialized cls).before args s' = true := vx_ot_at hW0 hvm.symm (hgood _ (List.mem_cons_of_mem _ List.mem_cons_self)) hini
  have hU' : vx_Zq Bundle.tN "UNASSIGNED_STACK" Bundle.steD A s' s'.heap := by rw [hhp]; exact vx_Zq.moved hW0.alike (hU.kept hS.2.1)
  have hN' : vx_Zq Bundle.tN "SUPPRESSED_SENTINEL" Bundle.listD A s' s'.heap := by rw [hhp]; exact vx_Zq.moved hW0.alike (hN.kept hS.2.1)
  have h : ∀ w ∈ Bundle.ownAtoms own ic cls names, w.before args s' = true := vx_own hat' (vx_isRefq hU'.1) (vx_isRefq hN'.1) hU'.2.word hN'.2.word
  have hown' : s'.vm.findClass own = some m.cls := by rw [hvm]; exact hown
  have hins : (Cond.instantiable cls 6).before args s' = true := h _ (by simp [Bundle.ownAtoms])
  obtain ⟨vm₁, cX, kX, hfX, hkX, -, -, X₁, st1⟩ := Y.newCold hexec (own := own) (C := cls) (index := ik) (n := 6) hown' hk' hins hini'
    (g := F0 m pc ls rest) rfl (by rw [hb]; exact d0) (Nat.le_refl _) (Nat.le_refl _)
  generalize hT1 : (T.setVm vm₁).pushCell { cls := cX, slots := kX.instanceTypes.map defaultValue, vm := .none } = T1 at X₁ st1
  have hcat : (Value.ref T.heap.size).category = 1 := rfl
  have hcellA : T1.heap[T.heap.size]? = some (freshCell cX kX) := by rw [← hT1]; exact State.heap_pushCell_size _ _
  have d3' : decode c.code (pc + 3) = .ok (.dup, 1) := by rw [hb]; exact d3
  have d4' : decode c.code (pc + 4) = .ok (.ldc is, 2) := by rw [hb]; exact d4
  have hstr' : vk_R own is text sa s' := vk_R.warm hW0 hstr
  obtain ⟨U, hsteps, hrun, hend, hW, hsame, ce, hce, hO⟩ := X₁.ctorThrowS hexec htr (own := own) (cls := cls) (names := names) (ic := ic) hown' hcls hnames h (fun x hx => nomatch hx) hfX hkX hcellA (by rw [hhp, hT]; exact Nat.le_refl _) (msg := .ref sa) rfl
    (g := { method := m, pc := pc + 6, locals := ls, stack := .ref sa :: .ref T.heap.size :: .ref T.heap.size :: rest, locked := none }) rfl hsize rfl rfl (rest := rest) rfl
    (by rw [hb]; exact d6) (by rw [hb]; exact d9) hout hRframes (by simp only [List.map_cons, List.sum_cons, hcat]; omega) hlocks
  obtain ⟨f1, f2⟩ := vx_frame hsame
  rw [hhp] at f1 f2
  have hWs : s.WarmedH U.vm := State.WarmedH.trans hW0 hW
  have hcl : s.vm.findClass cls = some ce.cls := by
    have h9 := hO.cls
    rw [hvm] at h9
    exact h9
  have hall : s.sameButNew ({ U with vm := s.vm } : State) locs mc ms := by
    subst hA
    obtain ⟨e1, e2⟩ := hsame
    rw [State.setFrames_setFrames] at e1
    have h2 : (T.setVm s.vm).sameButNew ({ U with vm := s.vm } : State) [] (0 + 1) (0 + 6) := ⟨e1, e2⟩
    have h3 := X.same.trans h2
    rw [List.append_nil] at h3
    exact h3.mono hc hs
  refine ⟨U, ?_, .threw T.heap.size, hrun, hend, Or.inr ⟨T.heap.size, rfl, cls, ce, locs, hx U hWs.alike f1 (fun q hq => f2 q hq (fun z hz => nomatch hz)), hce, hO.vm, hcl, hWs, hall, hf⟩⟩
  refine st1 _ ?_
  show Steps p.tables e below (T1.setTop { method := m, pc := pc + 3, locals := ls, stack := .ref T.heap.size :: rest, locked := none }) _
  jvm_step X₁.here [X₁.here.top, hexec, d3', Value.category]
  exact X₁.ldcString hexec (own := own) (text := text) (index := is) (a := sa) hown' hstr'.1 hstr'.2
    (g := { method := m, pc := pc + 4, locals := ls, stack := .ref T.heap.size :: .ref T.heap.size :: rest, locked := none }) rfl d4' _ hsteps
/-- 'throw new E("text")', the text by a wide index -/
theorem vx_throwSW {cc : ByteArray} {pc : Nat} (hexec : p.tables.exec = Jvm.exec) (hb : c.code = cc) (hl : l.stackTraces = false) {own cls text : String} {names : List String} {ik is ic mc ms sa : Nat} {A : Nat → Prop}
    (hown : s.vm.findClass own = some m.cls) (hcls : Bundle.fit cls = true) (hnames : ∀ n ∈ names, Bundle.fit n = true)
    (hk : (Cond.classLink own ik cls).before args s = true) (hini : (Cond.initialized cls).before args s = true) (hstr : vk_R own is text sa s) (hat : ∀ w ∈ vx_atS own ic cls names, w.before args s = true)
    (hgood : ∀ w ∈ Cond.classLink own ik cls :: Cond.initialized cls :: vx_atS own ic cls names, vx_ot w = true)
    (hU : vx_Zq Bundle.tN "UNASSIGNED_STACK" Bundle.steD A s s.heap) (hN : vx_Zq Bundle.tN "SUPPRESSED_SENTINEL" Bundle.listD A s s.heap) (hS : va_S A s.heap H locs) (hsize : ls.size = c.maxLocals)
    (d0 : decode cc pc = .ok (.new ik, 3)) (d3 : decode cc (pc + 3) = .ok (.dup, 1)) (d4 : decode cc (pc + 4) = .ok (.ldc_w is, 3)) (d7 : decode cc (pc + 7) = .ok (.invokespecial ic, 3)) (d10 : decode cc (pc + 10) = .ok (.athrow, 1))
    (hout : ∀ x ∈ c.exceptionTable.toList, covers x (pc + 10) = false)
    (hRframes : names.length + 3 < R.frames) (hRlocals : (rest.map fun v => v.category).sum + (13 * (names.length + 1) + 43) ≤ R.locals) (hRcells : cells + 1 ≤ R.cells) (hRslots : slots + 6 ≤ R.slots) (hlocks : meth.locks = false)
    (hx : ∀ t : State, s.vm.Alike t.vm → H.size ≤ t.heap.size → (∀ q : Nat, q < H.size → t.heap[q]? = H[q]?) → XC cls s t)
    (hf : ∀ z ∈ locs, free z.base) (hc : cells + 1 ≤ mc) (hs : slots + 6 ≤ ms) :
    W p l e R s m args below meth c H locs cells slots (vx_MQ below Qc XC args s mc ms free) (F0 m pc ls rest) := by
  intro T hT X
  have htr : e.platform.stackTraces = false := (show e.platform.stackTraces = l.stackTraces by rw [X.admits.platform]).trans hl
  have Y := vx_rebase X (R' := { frames := R.frames, locals := R.locals, cells := 1, slots := 6 }) (Nat.le_refl _) (Nat.le_refl _) hRcells hRslots
  obtain ⟨s', hA⟩ : ∃ z, z = (T.setVm s.vm).setFrames (.invoking m args :: below) := ⟨_, rfl⟩
  rw [← hA] at Y
  have hvm : s'.vm = s.vm := by rw [hA]; rfl
  have hhp : s'.heap = H := by rw [hA]; exact hT
  have hW0 : s.WarmedH s'.vm := by rw [hvm]; exact State.WarmedH.refl s
  have hat' : ∀ w ∈ vx_atS own ic cls names, w.before args s' = true := fun w hw => vx_ot_at hW0 hvm.symm (hgood w (List.mem_cons_of_mem _ (List.mem_cons_of_mem _ hw))) (hat w hw)
  have hk' : (Cond.classLink own ik cls).before args s' = true := vx_ot_at hW0 hvm.symm (hgood _ List.mem_cons_self) hk
  have hini' : (Cond.initialized cls).before args s' = true := vx_ot_at hW0 hvm.symm (hgood _ (List.mem_cons_of_mem _ List.mem_cons_self)) hini
  have hU' : vx_Zq Bundle.tN "UNASSIGNED_STACK" Bundle.steD A s' s'.heap := by rw [hhp]; exact vx_Zq.moved hW0.alike (hU.kept hS.2.1)
  have hN' : vx_Zq Bundle.tN "SUPPRESSED_SENTINEL" Bundle.listD A s' s'.heap := by rw [hhp]; exact vx_Zq.moved hW0.alike (hN.kept hS.2.1)
  have h : ∀ w ∈ Bundle.ownAtoms own ic cls names, w.before args s' = true := vx_own hat' (vx_isRefq hU'.1) (vx_isRefq hN'.1) hU'.2.word hN'.2.word
  have hown' : s'.vm.findClass own = some m.cls := by rw [hvm]; exact hown
  have hins : (Cond.instantiable cls 6).before args s' = true := h _ (by simp [Bundle.ownAtoms])
  obtain ⟨vm₁, cX, kX, hfX, hkX, -, -, X₁, st1⟩ := Y.newCold hexec (own := own) (C := cls) (index := ik) (n := 6) hown' hk' hins hini'
    (g := F0 m pc ls rest) rfl (by rw [hb]; exact d0) (Nat.le_refl _) (Nat.le_refl _)
  generalize hT1 : (T.setVm vm₁).pushCell { cls := cX, slots := kX.instanceTypes.map defaultValue, vm := .none } = T1 at X₁ st1
  have hcat : (Value.ref T.heap.size).category = 1 := rfl
  have hcellA : T1.heap[T.heap.size]? = some (freshCell cX kX) := by rw [← hT1]; exact State.heap_pushCell_size _ _
  have d3' : decode c.code (pc + 3) = .ok (.dup, 1) := by rw [hb]; exact d3
  have d4' : decode c.code (pc + 4) = .ok (.ldc_w is, 3) := by rw [hb]; exact d4
  have hstr' : vk_R own is text sa s' := vk_R.warm hW0 hstr
  obtain ⟨U, hsteps, hrun, hend, hW, hsame, ce, hce, hO⟩ := X₁.ctorThrowS hexec htr (own := own) (cls := cls) (names := names) (ic := ic) hown' hcls hnames h (fun x hx => nomatch hx) hfX hkX hcellA (by rw [hhp, hT]; exact Nat.le_refl _) (msg := .ref sa) rfl
    (g := { method := m, pc := pc + 7, locals := ls, stack := .ref sa :: .ref T.heap.size :: .ref T.heap.size :: rest, locked := none }) rfl hsize rfl rfl (rest := rest) rfl
    (by rw [hb]; exact d7) (by rw [hb]; exact d10) hout hRframes (by simp only [List.map_cons, List.sum_cons, hcat]; omega) hlocks
  obtain ⟨f1, f2⟩ := vx_frame hsame
  rw [hhp] at f1 f2
  have hWs : s.WarmedH U.vm := State.WarmedH.trans hW0 hW
  have hcl : s.vm.findClass cls = some ce.cls := by
    have h9 := hO.cls
    rw [hvm] at h9
    exact h9
  have hall : s.sameButNew ({ U with vm := s.vm } : State) locs mc ms := by
    subst hA
    obtain ⟨e1, e2⟩ := hsame
    rw [State.setFrames_setFrames] at e1
    have h2 : (T.setVm s.vm).sameButNew ({ U with vm := s.vm } : State) [] (0 + 1) (0 + 6) := ⟨e1, e2⟩
    have h3 := X.same.trans h2
    rw [List.append_nil] at h3
    exact h3.mono hc hs
  refine ⟨U, ?_, .threw T.heap.size, hrun, hend, Or.inr ⟨T.heap.size, rfl, cls, ce, locs, hx U hWs.alike f1 (fun q hq => f2 q hq (fun z hz => nomatch hz)), hce, hO.vm, hcl, hWs, hall, hf⟩⟩
  refine st1 _ ?_
  show Steps p.tables e below (T1.setTop { method := m, pc := pc + 3, locals := ls, stack := .ref T.heap.size :: rest, locked := none }) _
  jvm_step X₁.here [X₁.here.top, hexec, d3', Value.category]
  exact X₁.ldcStringW hexec (own := own) (text := text) (index := is) (a := sa) hown' hstr'.1 hstr'.2
    (g := { method := m, pc := pc + 4, locals := ls, stack := .ref T.heap.size :: .ref T.heap.size :: rest, locked := none }) rfl d4' _ hsteps
end Ends
section Bodies
variable {l : Launch}
theorem vx_ofW {y : MethodName} {ws ws' : List Cond} {rm : Room} {Pc : Array Value → State → Prop} {Qc : Array Value → State → Outcome → State → Prop} {XC : String → State → State → Prop} {mc ms : Nat} {free : Addr → Prop} {cc : ByteArray} {maxL : Nat} {ret : Option FieldType}
    (hy : plainName y.cls = true) (hw : ws = Cond.code y cc maxL ret :: ws')
    (body : ∀ p e s m args below meth c s₁, BodyLoose p l y (headSpec ws rm) cc maxL ret e s m args below meth c s₁ → c.maxLocals = maxL → (∀ x ∈ c.exceptionTable.toList, False) → Pc args s →
      W p l e (headSpec ws rm).room s m args below meth c s.heap [] 0 0 (vx_MQ below Qc XC args s mc ms free) (entryFrame m args maxL)) : vx_Met l y ws rm Pc Qc XC mc ms free := by
  refine MetFree.of_bodyS (code := cc) (maxLocals := maxL) (ret := ret) hy ?_ ?_
  · intro args s m h hn
    obtain ⟨meth, c, h1, h2, h3, h4, h5, h6, -, -⟩ := Cond.code_spec hn (atoms_spec (ws := ws) h _ (by rw [hw]; exact List.mem_cons_self))
    exact ⟨meth, c, h1, h2, h3, h4, h5, h6⟩
  · intro p e s m args below meth c s₁ B hml hP _
    have hh0 : s₁.heap = s.heap := by rw [B.state]; rfl
    have ht : ∀ x ∈ c.exceptionTable.toList, False := by
      obtain ⟨meth9, c9, h1, h2, -, -, -, -, h7, -⟩ := Cond.code_spec B.named (atoms_spec (ws := ws) B.pre _ (by rw [hw]; exact List.mem_cons_self))
      cases Option.some.inj (h1.symm.trans B.method)
      cases Option.some.inj (h2.symm.trans (Stand.of_body B).code)
      intro x hx
      rw [Array.isEmpty_iff.mp h7] at hx
      cases hx
    obtain ⟨t, a1, o, b1, b2, b3⟩ := body p e s m args below meth c s₁ B hml ht hP s₁ hh0 (Stand.of_body B)
    exact ⟨t, o, a1, b1, b2, b3⟩
/-- the table of a body with handlers -/
theorem vx_table {p : Program} {x y : MethodName} {S : Spec} {cc bytes : ByteArray} {maxL maxL' : Nat} {ret ret' : Option FieldType} {e : Env} {s s₁ : State} {m : MethodId} {args : Array Value} {below : List Frame} {meth : Method} {c : Code} {hh : List (Nat × Nat × Nat × Nat)}
    (B : BodyLoose p l y S cc maxL ret e s m args below meth c s₁) (h : (Cond.codeWith y bytes maxL' ret' hh).before args s = true) : c.exceptionTable.toList = tableOf hh := by
  obtain ⟨m9, meth9, c9, hn9, h1, h2, -, -, h6, -⟩ := Cond.codeWith_spec h
  cases Option.some.inj (hn9.symm.trans B.named)
  cases Option.some.inj (h1.symm.trans B.method)
  cases Option.some.inj (h2.symm.trans (Stand.of_body B).code)
  rw [← h6, table_eq]
end Bodies
end VXA
/-! ===== END ===== -/
/-! ===== BEGIN a static call of a method with an exception table ===== -/
section VXS
variable {p : Program} {l : Launch} {e : Env} {R : Room} {s : State} {m : MethodId} {args : Array Value} {below : List Frame} {meth : Method} {c : Code} {T : State} {H : Heap} {locs : List Loc} {cells slots : Nat}
abbrev vx_CSW (R : Room) (s : State) (args : Array Value) (own : String) (index : Nat) (y : MethodName) (bytes : ByteArray) (maxL : Nat) (ret : Option FieldType) (hh : List (Nat × Nat × Nat × Nat)) (ws : List Cond) (rm : Room) (mc ms n : Nat) : Prop :=
  (rm.cells = mc ∧ rm.slots = ms ∧ rm.frames + 1 ≤ R.frames ∧ 8 + (maxL + 11) + rm.locals ≤ R.locals ∧ (∀ w ∈ ws, ∀ (a' : Array Value) (U : State), s.WarmedH U.vm → w.before a' U = true) ∧ Cond.codeWith y bytes maxL ret hh ∈ ws) ∧
  (Cond.codeWith y bytes maxL ret hh).before args s = true ∧ (Cond.initialized y.cls).before args s = true ∧ (y.cls ≠ "java/lang/invoke/MethodHandle" ∧ y.cls ≠ "java/lang/invoke/VarHandle") ∧
  (∀ sig, parseMethodDescriptor y.desc = some sig → n = sig.parameters.length) ∧ (Cond.methodLink own index y).before args s = true ∧ (Cond.static y).before args s = true
theorem vx_cwSW {own : String} {index maxL mc ms : Nat} {y : MethodName} {bytes : ByteArray} {ret : Option FieldType} {hh : List (Nat × Nat × Nat × Nat)} {Ts ws ws' : List Cond} {rm : Room} (n : Nat) (ht : ∀ w ∈ Ts, w.before args s = true) (hT : GoodIn Ts (va_wsS own index y ws)) (hw : ws = Cond.codeWith y bytes maxL ret hh :: ws') (hrc : rm.cells = mc) (hrs : rm.slots = ms)
    (hd : y.cls ≠ "java/lang/invoke/MethodHandle" ∧ y.cls ≠ "java/lang/invoke/VarHandle" ∧ (parseMethodDescriptor y.desc).map (fun d => d.parameters.length) = some n) (hR : rm.frames + 1 ≤ R.frames ∧ 8 + (maxL + 11) + rm.locals ≤ R.locals) :
    vx_CSW R s args own index y bytes maxL ret hh ws rm mc ms n := by
  have ok : ∀ w ∈ va_wsS own index y ws, w.before args s = true := fun w h => ht w (hT w h).1
  have hG : GoodIn Ts ws := fun w h => hT w (by unfold va_wsS; exact List.mem_append_right _ h)
  have hc : Cond.codeWith y bytes maxL ret hh ∈ ws := by rw [hw]; exact List.mem_cons_self
  refine ⟨⟨hrc, hrs, hR.1, hR.2, pay_in ht hG, hc⟩, ht _ (hG _ hc).1, ok _ (by simp [va_wsS]), ⟨hd.1, hd.2.1⟩, fun sig h => ?_, ok _ (by simp [va_wsS]), ok _ (by simp [va_wsS])⟩
  have h2 := hd.2.2
  rw [h] at h2
  exact (Option.some.inj h2).symm
theorem vx_callSW (X : Stand p l e R s m args below meth c T locs cells slots) (hexec : p.tables.exec = Jvm.exec) {own : String} {index : Nat} {y : MethodName} {bytes : ByteArray} {maxL : Nat} {ret : Option FieldType} {hh : List (Nat × Nat × Nat × Nat)}
    (hown : s.vm.findClass own = some m.cls) (hlink : (Cond.methodLink own index y).before args s = true) (hstat : (Cond.static y).before args s = true) (hinit : (Cond.initialized y.cls).before args s = true)
    (hcode : (Cond.codeWith y bytes maxL ret hh).before args s = true) (hy : y.cls ≠ "java/lang/invoke/MethodHandle" ∧ y.cls ≠ "java/lang/invoke/VarHandle")
    {W9 : Nat} {Pre : Pt → Array Value → Prop} {Post : Pt → Array Value → Option Value → Pt → Prop} (hK : Back l R p e below s args y 3 W9 Pre Post)
    {g : JFrame} (hg : g.method = m) (hsize : g.locals.size = c.maxLocals) {argsL rest : List Value} (hlen : ∀ sig, parseMethodDescriptor y.desc = some sig → argsL.length = sig.parameters.length)
    (hstack : g.stack = argsL.reverse ++ rest) (hW : 2 * g.monitorRoom + (rest.map fun v => v.category).sum ≤ W9) (hdg : decode c.code g.pc = .ok (.invokestatic index, 3))
    (hpre : ∀ vm₁, s.WarmedH vm₁ → Pre ⟨T.setVm vm₁, locs, cells, slots⟩ argsL.toArray) :
    ∃ (v : Option Value) (vm₁ : Vm) (B : Pt), s.WarmedH vm₁ ∧ Stand p l e R s m args below meth c B.U B.locs B.cells B.slots ∧ Post ⟨T.setVm vm₁, locs, cells, slots⟩ argsL.toArray v B ∧
      ∀ target, Steps p.tables e below (B.U.setTop { g with pc := g.pc + 3, stack := v.toList ++ rest }) target → Steps p.tables e below (T.setTop g) target := by
  obtain ⟨mk, methM, cM, hnamed, hmethM, -, -, -, -, -, -, hsigM⟩ := Cond.codeWith_spec hcode
  have hstatic : methM.isStatic = true := Cond.static_spec hnamed hmethM hstat
  obtain ⟨kP, hkP, -⟩ := className_of_methodNamed hnamed
  have hinitP : kP.init = .initialized := Cond.initialized_spec (findClass_of_methodNamed hnamed) hkP hinit
  obtain ⟨vm₁, X₁, hstep₁⟩ := X.invokestatic hexec hown hlink hnamed hmethM hstatic hkP hinitP hy (g := g) hg (argsL := argsL) (rest := rest) (hlen _ hsigM) hstack hdg
  obtain ⟨v, B, X', hpost, hsteps⟩ := hK m meth c ⟨T.setVm vm₁, locs, cells, slots⟩ { g with stack := rest } (.invokestatic index) mk argsL.toArray X₁ hg hsize hdg hW (X₁.named hnamed) (hpre vm₁ X₁.warmed)
  exact ⟨v, vm₁, B, X₁.warmed, X', hpost, fun target h => hstep₁ _ fun acts => by rw [doInvoke_state]; exact hsteps.trans h⟩
theorem vx_runSW {y : MethodName} {bytes cc : ByteArray} {maxL nL mc ms n index : Nat} {ret : Option FieldType} {hh : List (Nat × Nat × Nat × Nat)} {ws : List Cond} {rm : Room} {Pc : Array Value → State → Prop} {Qc : Array Value → State → Outcome → State → Prop} {free : Addr → Prop} {Ts : List Cond} {own : String} {As rest : List Value} {g : JFrame}
    (S : CallFix p m c cc nL s args Ts own) (hM : Met l y ws rm Pc Qc mc ms free) (cw : vx_CSW R s args own index y bytes maxL ret hh ws rm mc ms n) (hp : PreS s H Pc As)
    (hg : g.method = m) (hn : As.length = n) (hsize : g.locals.size = nL) (hstack : g.stack = As.reverse ++ rest) (hW : 2 * g.monitorRoom + (rest.map fun v => v.category).sum ≤ 8) (hdg : decode cc g.pc = .ok (.invokestatic index, 3)) (hf : cells + mc ≤ R.cells ∧ slots + ms ≤ R.slots) :
    va_Run p l e R s m args below meth c H locs cells slots mc ms g rest (Qc As.toArray) (free) := by
  obtain ⟨⟨hrc, hrs, hfr, hlo, hws, hcw⟩, hcode, hini, hy, hlen, hl, hstt⟩ := cw
  have hK : Back l R p e below s args y 3 8 (PreOf R mc ms Pc) (PostOf Qc mc ms free) := va_backW (hh := hh) (bytes := bytes) (maxL := maxL) (ret := ret) hM hp.1 hrc hrs hfr hlo hws hcw (fun a' U hW => word_at hW (Or.inl (by first | rfl | simp [Cond.onTables, Cond.keeps, Cond.steady])) hini)
  obtain ⟨hx, hb, hml, ho, -⟩ := S
  intro T hT X
  obtain ⟨v, vm₁, ⟨U', l2, c2, s2⟩, hW₁, X', ⟨g', mk, t, L, e1, e2, hq, h1, hL, h2, h3⟩, st⟩ := vx_callSW X hx (hh := hh) (bytes := bytes) (maxL := maxL) (ret := ret) ho hl hstt hini hcode hy hK hg (hsize.trans hml.symm) (argsL := As) (rest := rest) (fun sig h => hn.trans (hlen sig h)) hstack hW (by rw [hb]; exact hdg)
    (fun vm₁ hW₁ => ⟨hf.1, hf.2, hp.2 (T.setVm vm₁) hT hW₁⟩)
  dsimp only [Pt.U, Pt.locs, Pt.cells, Pt.slots] at X' e1 e2 h1 h2 h3 st
  subst h1; subst h2; subst h3
  exact ⟨v, (T.setVm vm₁).calling g' mk As.toArray, t, U', L, hT, X', hL, e1, e2, hq, st⟩
/-- not caught here, past rows that name other classes: it goes on to the caller -/
theorem vx_outP {p : Program} {l : Launch} {e : Env} {R : Room} {s : State} {m : MethodId} {args : Array Value} {below : List Frame} {meth : Method} {c : Code} {H : Heap} {locs : List Loc} {cells slots : Nat} {free : Addr → Prop} {ls : Array Slot} {rest : List Value} {Qc : Array Value → State → Outcome → State → Prop} {XC : String → State → State → Prop}
    {pc : Nat} {own E : String} {ce : Cell} {q : Addr} {mc ms : Nat} (hown : s.vm.findClass own = some m.cls) (hlocks : meth.locks = false)
    (hpass : ∀ z ∈ c.exceptionTable.toList, covers z pc = false ∨ (z.catchType ≠ 0 ∧ ∃ nm : String, (Cond.classLink own z.catchType nm).before args s = true ∧ va_Nc E nm s)) (hcell : H[q]? = some ce) (hv : ce.vm = .none) (hcl : s.vm.findClass E = some ce.cls)
    (hx : ∀ t : State, t.heap = H → s.vm.Alike t.vm → XC E s t) (hf : ∀ z ∈ locs, free z.base) (hc : cells ≤ mc) (hs : slots ≤ ms) :
    vx_W p l e R s m args below meth c H locs cells slots (vx_MQ below Qc XC args s mc ms free) (F0 m pc ls rest) q := by
  intro T hT X
  have hpl : e.platform.magicAccessors = ({} : Platform).magicAccessors := by rw [X.admits.platform]
  obtain ⟨vm', hW', X', st⟩ := X.outThrough hlocks q (g := F0 m pc ls rest) rfl rfl rfl (cell := ce) (by rw [hT]; exact hcell) (by rw [hv]; rfl)
    (by obtain ⟨k9, h9, -⟩ := Vm.findClass_spec hcl; exact ⟨k9, h9⟩) (fun z hz => by
      rcases hpass z hz with h | ⟨hz0, nm, hl1, hn1⟩
      · exact Or.inl h
      · obtain ⟨c6, hc6, hcl6⟩ := Cond.classLink_spec hown hl1 e.platform hpl
        obtain ⟨a8, b8, h1, h2, h3⟩ := hn1
        cases Option.some.inj (h1.symm.trans hcl)
        cases Option.some.inj (h2.symm.trans hc6)
        exact Or.inr ⟨hz0, _, hcl6, h3⟩)
  obtain ⟨g₀, hfr⟩ := X'.frames_eq
  have hcell9 : ((T.setVm vm').setFrames (.throwing q :: below)).heap[q]? = some ce := by
    show T.heap[q]? = some ce
    rw [hT]; exact hcell
  have hend : Ended ((T.setVm vm').setFrames (.throwing q :: below)) below (.threw q) := State.frames_setFrames _ (State.cur_lt_of_frames hfr)
  refine ⟨(T.setVm vm').setFrames (.throwing q :: below), ?_, .threw q, X'.here.running, hend, Or.inr ⟨q, rfl, E, ce, locs, hx _ hT (X'.ends _).1.alike, hcell9, hv, hcl, (X'.ends _).1, (X'.ends _).2.mono hc hs, hf⟩⟩
  rw [X.pushThrowing_eq]
  exact st
/-- a thing of a world lies in the heap -/
theorem vx_lt {D : va_G} {cl : List vw_C} {ws : va_W} {H1 : Heap} (h : va_P D cl ws H1) {k : Nat} {q : Nat × va_E} (hk : ws[k]? = some q) : q.1 < H1.size := (h k q hk).lt
end VXS
/-! ===== END ===== -/
/-! ===== BEGIN methods with a table of their own: called by a name, returning or throwing ===== -/
section VXH
/-! vx_backW, vx_callVX, vx_callSX, vx_callVW, vx_runVW, vx_runVX, vx_runSX, vx_ofWH follow the same proofs as their sisters above (Free/Laws.lean, Shelf42/LK1.lean); vx_outP calls Shelf42/NT130.lean (outThrough). -/
section
variable {l : Launch} {R : Room} {p : Program} {e : Env} {below : List Frame} {s : State} {sargs : Array Value} {y : MethodName} {len W9 : Nat}
theorem vx_backW {ws : List Cond} {rm : Room} {Pc : Array Value → State → Prop} {Qc : Array Value → State → Outcome → State → Prop} {XC : String → State → State → Prop} {mc ms : Nat} {free : Addr → Prop} {bytes : ByteArray} {maxL : Nat} {ret : Option FieldType} {hh : List (Nat × Nat × Nat × Nat)}
    (hM : vx_Met l y ws rm Pc Qc XC mc ms free) (hblind : FrameBlind Pc) (hrc : rm.cells = mc) (hrs : rm.slots = ms)
    (hframes : rm.frames + 1 ≤ R.frames) (hlocals : W9 + (maxL + 11) + rm.locals ≤ R.locals)
    (hws : ∀ w ∈ ws, ∀ a' U, s.WarmedH U.vm → w.before a' U = true) (hcode : Cond.codeWith y bytes maxL ret hh ∈ ws) (hinit : ∀ a' U, s.WarmedH U.vm → (Cond.initialized y.cls).before a' U = true) :
    vx_Back l R p e below s sargs y len W9 (PreOf R mc ms Pc) (PostOf Qc mc ms free) (vx_Post XC mc ms free) := by
  intro m meth c A g ig mk a X hg hsize hdg hW hn hp
  have h1 : (headSpec ws rm).pre.before a A.U = true := atoms_intro fun w hw => hws w hw _ _ X.warmed
  have h2 : (Cond.codeWith y bytes maxL ret hh).before a A.U = true := hws _ hcode _ _ X.warmed
  have h3 : (Cond.initialized y.cls).before a A.U = true := hinit _ _ X.warmed
  have h4 : A.cells + (headSpec ws rm).room.cells ≤ R.cells := by rw [show (headSpec ws rm).room.cells = mc from hrc]; exact hp.1
  have h5 : A.slots + (headSpec ws rm).room.slots ≤ R.slots := by rw [show (headSpec ws rm).room.slots = ms from hrs]; exact hp.2.1
  have hPc : Pc a (A.U.calling g mk a) := hblind _ _ _ _ hp.2.2
  obtain ⟨U, Ls, c0, s0⟩ := A
  dsimp only [Pt.U, Pt.locs, Pt.cells, Pt.slots] at h1 h2 h3 h4 h5 X hn hPc ⊢
  obtain ⟨m9, methY, cY, hn9, hmY, hcY, -, hlY, -⟩ := Cond.codeWith_spec h2
  cases Option.some.inj (hn9.symm.trans hn)
  obtain ⟨kY, hkY, -⟩ := className_of_methodNamed hn
  have hinitY : kY.init = .initialized := Cond.initialized_spec (findClass_of_methodNamed hn) hkY h3
  have h : At U g.method c below := by rw [hg]; exact X.here
  have hlocals9 : W9 + (maxL + 11) + (headSpec ws rm).room.locals ≤ R.locals := hlocals
  have happ : (headSpec ws rm).appliesLoose y e.platform (U.calling g mk a) = true :=
    Spec.appliesLoose_calling (g := g) h hdg hn hkY hinitY
      (X.room_calling (g := g) (R' := (headSpec ws rm).room) hsize hmY hcY hframes (by rw [hlY]; omega) h4 h5) h1
  obtain ⟨mid, hmid⟩ := h.above
  have hfr : (U.setTop g).frames = (.java g :: mid) ++ below := by rw [State.frames_setTop' g h.top, hmid]; rfl
  obtain ⟨o, s₂, hsteps, -, hend, hq⟩ := Steps.callFree hM p X.admits X.cas X.clock (acts := []) hfr happ hPc trivial
  have hq' : vx_Q Qc XC mc ms free a (U.calling g mk a) o s₂ := hq
  rw [State.frames_setTop' g h.top] at hend
  obtain ⟨g₀, hg0⟩ := Option.isSome_iff_exists.mp h.top
  obtain ⟨r, hr⟩ := State.topJava?_eq_some.mp hg0
  have hr' : (({ U with heap := s₂.heap, slotsUsed := s₂.slotsUsed } : State).setVm s₂.vm).frames = .java g₀ :: r := hr
  rcases hq' with ⟨hqc, L, hfe, hL⟩ | ⟨q, rfl, E, ce, L, hx, hce, hcv, hcl, hW₂, hsm, hL⟩
  · obtain ⟨⟨v, rfl⟩, hW₂, e2, q2, q3, q4, q5, q6⟩ := id hfe
    have e3 : s₂ = ({ (U.calling g mk a).setFrames s₂.frames with heap := s₂.heap, slotsUsed := s₂.slotsUsed } : State).setVm s₂.vm := by
      have : s₂ = ({ s₂ with vm := (U.calling g mk a).vm } : State).setVm s₂.vm := rfl
      rw [e2] at this
      exact this
    obtain ⟨c₂, i₂, len₂, hc₂, hd₂, hf₂⟩ := hend
    have hW' : U.WarmedH s₂.vm := hW₂
    have hcc : c₂ = c := by
      have h1 : s₂.code? g.method = U.code? g.method := by
        rw [State.code?_eq, State.code?_eq, hW'.alike.method?]
      exact Option.some.inj (hc₂.symm.trans (h1.trans h.code))
    subst hcc
    have hlen : len₂ = len := by rw [hdg] at hd₂; cases hd₂; rfl
    subst hlen
    have hs₂ : s₂ = (({ U with heap := s₂.heap, slotsUsed := s₂.slotsUsed } : State).setVm s₂.vm).setTop { g with pc := g.pc + len₂, stack := v.toList ++ g.stack } := by
      refine e3.trans ?_
      rw [hf₂, State.calling_eq h.top, State.setFrames_setFrames, State.setTop_of_frames _ hr', hr]
      rfl
    have hsame : U.sameButNew ({ U with heap := s₂.heap, slotsUsed := s₂.slotsUsed } : State) L mc ms := by
      refine ⟨?_, q2, q3, q4, q5, q6⟩
      obtain ⟨t, ht, -⟩ := State.frames_cons hr
      show ({ U with heap := s₂.heap, slotsUsed := s₂.slotsUsed } : State) = { U.setFrames U.frames with heap := s₂.heap, slotsUsed := s₂.slotsUsed }
      rw [State.setFrames_self ht]
    subst hg
    refine Or.inl ⟨v, ⟨(({ U with heap := s₂.heap, slotsUsed := s₂.slotsUsed } : State).setVm s₂.vm), Ls ++ L, c0 + mc, s0 + ms⟩,
      ⟨X.admits, X.cas, X.clock, X.frames, X.room, X.hears, X.method, X.code, (X.here.setHeapUsed s₂.heap s₂.slotsUsed).setVm hW'.alike, X.tail, State.WarmedH.trans X.warmed hW', X.limits, X.bytes, X.same.trans (hsame.setVm s.vm)⟩,
      ⟨g, mk, s₂, L, rfl, rfl, hqc, rfl, hL, rfl, rfl⟩, ?_⟩
    show Steps p.tables e below _ ((({ U with heap := s₂.heap, slotsUsed := s₂.slotsUsed } : State).setVm s₂.vm).setTop { g with pc := g.pc + len₂, stack := v.toList ++ g.stack })
    rw [← hs₂]
    exact hsteps
  · obtain ⟨e2, q2, q3, q4, q5, q6⟩ := id hsm
    have e3 : s₂ = ({ (U.calling g mk a).setFrames s₂.frames with heap := s₂.heap, slotsUsed := s₂.slotsUsed } : State).setVm s₂.vm := by
      have : s₂ = ({ s₂ with vm := (U.calling g mk a).vm } : State).setVm s₂.vm := rfl
      rw [e2] at this
      exact this
    have hf₂ : s₂.frames = .throwing q :: .java g :: U.frames.tail := hend
    have hW' : U.WarmedH s₂.vm := hW₂
    have hs₂ : s₂ = ((({ U with heap := s₂.heap, slotsUsed := s₂.slotsUsed } : State).setVm s₂.vm).setTop g).pushFrame (.throwing q) := by
      refine e3.trans ?_
      rw [hf₂, State.calling_eq h.top, State.setFrames_setFrames, State.pushFrame, State.frames_setTop _ hr', State.setTop_of_frames _ hr', State.setFrames_setFrames, hr]
      rfl
    have hsame : U.sameButNew ({ U with heap := s₂.heap, slotsUsed := s₂.slotsUsed } : State) L mc ms := by
      refine ⟨?_, q2, q3, q4, q5, q6⟩
      obtain ⟨t, ht, -⟩ := State.frames_cons hr
      show ({ U with heap := s₂.heap, slotsUsed := s₂.slotsUsed } : State) = { U.setFrames U.frames with heap := s₂.heap, slotsUsed := s₂.slotsUsed }
      rw [State.setFrames_self ht]
    subst hg
    refine Or.inr ⟨q, ⟨(({ U with heap := s₂.heap, slotsUsed := s₂.slotsUsed } : State).setVm s₂.vm), Ls ++ L, c0 + mc, s0 + ms⟩,
      ⟨X.admits, X.cas, X.clock, X.frames, X.room, X.hears, X.method, X.code, (X.here.setHeapUsed s₂.heap s₂.slotsUsed).setVm hW'.alike, X.tail, State.WarmedH.trans X.warmed hW', X.limits, X.bytes, X.same.trans (hsame.setVm s.vm)⟩,
      ⟨g, mk, s₂, L, E, ce, rfl, rfl, hx, hce, hcv, hcl, rfl, hL, rfl, rfl⟩, ?_⟩
    show Steps p.tables e below _ (((({ U with heap := s₂.heap, slotsUsed := s₂.slotsUsed } : State).setVm s₂.vm).setTop g).pushFrame (.throwing q))
    rw [← hs₂]
    exact hsteps
end
variable {p : Program} {l : Launch} {e : Env} {R : Room} {s : State} {m : MethodId} {args : Array Value} {below : List Frame} {meth : Method} {c : Code} {T : State} {H : Heap} {locs : List Loc} {cells slots : Nat}
theorem vx_callVX (X : Stand p l e R s m args below meth c T locs cells slots) (hexec : p.tables.exec = Jvm.exec) {own C : String} {index : Nat} {y : MethodName} {bytes : ByteArray} {maxL : Nat} {ret : Option FieldType} {hh : List (Nat × Nat × Nat × Nat)}
    (hown : s.vm.findClass own = some m.cls) (hlink : (Cond.methodLink own index y).before args s = true) (hinst : (Cond.instanceMethod y).before args s = true) (hsel : (Cond.selects C y y).before args s = true)
    (hcode : (Cond.codeWith y bytes maxL ret hh).before args s = true) (hy : y.cls ≠ "java/lang/invoke/MethodHandle" ∧ y.cls ≠ "java/lang/invoke/VarHandle")
    {W9 : Nat} {Pre : Pt → Array Value → Prop} {Post : Pt → Array Value → Option Value → Pt → Prop} {PostX : Pt → Array Value → Addr → Pt → Prop} (hK : vx_Back l R p e below s args y 3 W9 Pre Post PostX)
    {b : Addr} {cellB : Cell} (hcell : T.heap[b]? = some cellB) (hobj : cellB.vm.isStatics = false) (hcls : s.vm.findClass C = some cellB.cls)
    {g : JFrame} (hg : g.method = m) (hsize : g.locals.size = c.maxLocals) {argsL rest : List Value} (hlen : ∀ sig, parseMethodDescriptor y.desc = some sig → argsL.length = sig.parameters.length)
    (hstack : g.stack = argsL.reverse ++ .ref b :: rest) (hW : 2 * g.monitorRoom + (rest.map fun v => v.category).sum ≤ W9) (hdg : decode c.code g.pc = .ok (.invokevirtual index, 3))
    (hpre : ∀ vm₁, s.WarmedH vm₁ → Pre ⟨T.setVm vm₁, locs, cells, slots⟩ (Value.ref b :: argsL).toArray) :
    (∃ (v : Option Value) (vm₁ : Vm) (B : Pt), s.WarmedH vm₁ ∧ Stand p l e R s m args below meth c B.U B.locs B.cells B.slots ∧ Post ⟨T.setVm vm₁, locs, cells, slots⟩ (Value.ref b :: argsL).toArray v B ∧
      ∀ target, Steps p.tables e below (B.U.setTop { g with pc := g.pc + 3, stack := v.toList ++ rest }) target → Steps p.tables e below (T.setTop g) target) ∨
    (∃ (q : Addr) (vm₁ : Vm) (B : Pt), s.WarmedH vm₁ ∧ Stand p l e R s m args below meth c B.U B.locs B.cells B.slots ∧ PostX ⟨T.setVm vm₁, locs, cells, slots⟩ (Value.ref b :: argsL).toArray q B ∧
      Steps p.tables e below (T.setTop g) ((B.U.setTop { g with stack := rest }).pushFrame (.throwing q))) := by
  obtain ⟨mk, methM, hnamed, hmethM, hstM, habM⟩ := Cond.instanceMethod_spec hinst
  obtain ⟨m8, methM', cM, hn8, hmethM', -, -, -, -, -, -, hsigM⟩ := Cond.codeWith_spec hcode
  cases Option.some.inj (hn8.symm.trans hnamed)
  cases hmethM.symm.trans hmethM'
  obtain ⟨c2, r2, m2, q1, q2, q3, q4, kP, hkP, hkPi⟩ := Cond.selects_spec hsel
  cases hcls.symm.trans q1
  cases (State.methodFound?_of_named hnamed hy).symm.trans q2
  cases hnamed.symm.trans q3
  have hselP : selectMethod e.platform s.vm cellB.cls mk = .method mk := by rw [Launch.admits_selectMethod X.admits]; exact q4
  obtain ⟨vm₁, X₁, hstep₁⟩ := X.invokevirtual hexec hown hlink hnamed hmethM hstM hkP hkPi hy (a := b) (cell := cellB) hcell
    (fun z h => by rw [h] at hobj; cases hobj) hselP hmethM habM hkP hkPi (g := g) hg (argsL := argsL) (rest := rest) (hlen _ hsigM) hstack hdg
  rcases hK m meth c ⟨T.setVm vm₁, locs, cells, slots⟩ { g with stack := rest } (.invokevirtual index) mk (Value.ref b :: argsL).toArray X₁ hg hsize hdg hW (X₁.named hnamed) (hpre vm₁ X₁.warmed) with ⟨v, B, X', hpost, hsteps⟩ | ⟨q, B, X', hpost, hsteps⟩
  · exact Or.inl ⟨v, vm₁, B, X₁.warmed, X', hpost, fun target h => hstep₁ _ fun acts => by rw [doInvoke_state]; exact hsteps.trans h⟩
  · exact Or.inr ⟨q, vm₁, B, X₁.warmed, X', hpost, hstep₁ _ fun acts => by rw [doInvoke_state]; exact hsteps⟩
theorem vx_callSX (X : Stand p l e R s m args below meth c T locs cells slots) (hexec : p.tables.exec = Jvm.exec) {own : String} {index : Nat} {y : MethodName} {bytes : ByteArray} {maxL : Nat} {ret : Option FieldType} {hh : List (Nat × Nat × Nat × Nat)}
    (hown : s.vm.findClass own = some m.cls) (hlink : (Cond.methodLink own index y).before args s = true) (hstat : (Cond.static y).before args s = true) (hinit : (Cond.initialized y.cls).before args s = true)
    (hcode : (Cond.codeWith y bytes maxL ret hh).before args s = true) (hy : y.cls ≠ "java/lang/invoke/MethodHandle" ∧ y.cls ≠ "java/lang/invoke/VarHandle")
    {W9 : Nat} {Pre : Pt → Array Value → Prop} {Post : Pt → Array Value → Option Value → Pt → Prop} {PostX : Pt → Array Value → Addr → Pt → Prop} (hK : vx_Back l R p e below s args y 3 W9 Pre Post PostX)
    {g : JFrame} (hg : g.method = m) (hsize : g.locals.size = c.maxLocals) {argsL rest : List Value} (hlen : ∀ sig, parseMethodDescriptor y.desc = some sig → argsL.length = sig.parameters.length)
    (hstack : g.stack = argsL.reverse ++ rest) (hW : 2 * g.monitorRoom + (rest.map fun v => v.category).sum ≤ W9) (hdg : decode c.code g.pc = .ok (.invokestatic index, 3))
    (hpre : ∀ vm₁, s.WarmedH vm₁ → Pre ⟨T.setVm vm₁, locs, cells, slots⟩ argsL.toArray) :
    (∃ (v : Option Value) (vm₁ : Vm) (B : Pt), s.WarmedH vm₁ ∧ Stand p l e R s m args below meth c B.U B.locs B.cells B.slots ∧ Post ⟨T.setVm vm₁, locs, cells, slots⟩ argsL.toArray v B ∧
      ∀ target, Steps p.tables e below (B.U.setTop { g with pc := g.pc + 3, stack := v.toList ++ rest }) target → Steps p.tables e below (T.setTop g) target) ∨
    (∃ (q : Addr) (vm₁ : Vm) (B : Pt), s.WarmedH vm₁ ∧ Stand p l e R s m args below meth c B.U B.locs B.cells B.slots ∧ PostX ⟨T.setVm vm₁, locs, cells, slots⟩ argsL.toArray q B ∧
      Steps p.tables e below (T.setTop g) ((B.U.setTop { g with stack := rest }).pushFrame (.throwing q))) := by
  obtain ⟨mk, methM, cM, hnamed, hmethM, -, -, -, -, -, -, hsigM⟩ := Cond.codeWith_spec hcode
  have hstatic : methM.isStatic = true := Cond.static_spec hnamed hmethM hstat
  obtain ⟨kP, hkP, -⟩ := className_of_methodNamed hnamed
  have hinitP : kP.init = .initialized := Cond.initialized_spec (findClass_of_methodNamed hnamed) hkP hinit
  obtain ⟨vm₁, X₁, hstep₁⟩ := X.invokestatic hexec hown hlink hnamed hmethM hstatic hkP hinitP hy (g := g) hg (argsL := argsL) (rest := rest) (hlen _ hsigM) hstack hdg
  rcases hK m meth c ⟨T.setVm vm₁, locs, cells, slots⟩ { g with stack := rest } (.invokestatic index) mk argsL.toArray X₁ hg hsize hdg hW (X₁.named hnamed) (hpre vm₁ X₁.warmed) with ⟨v, B, X', hpost, hsteps⟩ | ⟨q, B, X', hpost, hsteps⟩
  · exact Or.inl ⟨v, vm₁, B, X₁.warmed, X', hpost, fun target h => hstep₁ _ fun acts => by rw [doInvoke_state]; exact hsteps.trans h⟩
  · exact Or.inr ⟨q, vm₁, B, X₁.warmed, X', hpost, hstep₁ _ fun acts => by rw [doInvoke_state]; exact hsteps⟩
theorem vx_callVW (X : Stand p l e R s m args below meth c T locs cells slots) (hexec : p.tables.exec = Jvm.exec) {own C : String} {index : Nat} {y : MethodName} {bytes : ByteArray} {maxL : Nat} {ret : Option FieldType} {hh : List (Nat × Nat × Nat × Nat)}
    (hown : s.vm.findClass own = some m.cls) (hlink : (Cond.methodLink own index y).before args s = true) (hinst : (Cond.instanceMethod y).before args s = true) (hsel : (Cond.selects C y y).before args s = true)
    (hcode : (Cond.codeWith y bytes maxL ret hh).before args s = true) (hy : y.cls ≠ "java/lang/invoke/MethodHandle" ∧ y.cls ≠ "java/lang/invoke/VarHandle")
    {W9 : Nat} {Pre : Pt → Array Value → Prop} {Post : Pt → Array Value → Option Value → Pt → Prop} (hK : Back l R p e below s args y 3 W9 Pre Post)
    {b : Addr} {cellB : Cell} (hcell : T.heap[b]? = some cellB) (hobj : cellB.vm.isStatics = false) (hcls : s.vm.findClass C = some cellB.cls)
    {g : JFrame} (hg : g.method = m) (hsize : g.locals.size = c.maxLocals) {argsL rest : List Value} (hlen : ∀ sig, parseMethodDescriptor y.desc = some sig → argsL.length = sig.parameters.length)
    (hstack : g.stack = argsL.reverse ++ .ref b :: rest) (hW : 2 * g.monitorRoom + (rest.map fun v => v.category).sum ≤ W9) (hdg : decode c.code g.pc = .ok (.invokevirtual index, 3))
    (hpre : ∀ vm₁, s.WarmedH vm₁ → Pre ⟨T.setVm vm₁, locs, cells, slots⟩ (Value.ref b :: argsL).toArray) :
    ∃ (v : Option Value) (vm₁ : Vm) (B : Pt), s.WarmedH vm₁ ∧ Stand p l e R s m args below meth c B.U B.locs B.cells B.slots ∧ Post ⟨T.setVm vm₁, locs, cells, slots⟩ (Value.ref b :: argsL).toArray v B ∧
      ∀ target, Steps p.tables e below (B.U.setTop { g with pc := g.pc + 3, stack := v.toList ++ rest }) target → Steps p.tables e below (T.setTop g) target := by
  obtain ⟨mk, methM, hnamed, hmethM, hstM, habM⟩ := Cond.instanceMethod_spec hinst
  obtain ⟨m8, methM', cM, hn8, hmethM', -, -, -, -, -, -, hsigM⟩ := Cond.codeWith_spec hcode
  cases Option.some.inj (hn8.symm.trans hnamed)
  cases hmethM.symm.trans hmethM'
  obtain ⟨c2, r2, m2, q1, q2, q3, q4, kP, hkP, hkPi⟩ := Cond.selects_spec hsel
  cases hcls.symm.trans q1
  cases (State.methodFound?_of_named hnamed hy).symm.trans q2
  cases hnamed.symm.trans q3
  have hselP : selectMethod e.platform s.vm cellB.cls mk = .method mk := by rw [Launch.admits_selectMethod X.admits]; exact q4
  obtain ⟨vm₁, X₁, hstep₁⟩ := X.invokevirtual hexec hown hlink hnamed hmethM hstM hkP hkPi hy (a := b) (cell := cellB) hcell
    (fun z h => by rw [h] at hobj; cases hobj) hselP hmethM habM hkP hkPi (g := g) hg (argsL := argsL) (rest := rest) (hlen _ hsigM) hstack hdg
  obtain ⟨v, B, X', hpost, hsteps⟩ := hK m meth c ⟨T.setVm vm₁, locs, cells, slots⟩ { g with stack := rest } (.invokevirtual index) mk (Value.ref b :: argsL).toArray X₁ hg hsize hdg hW (X₁.named hnamed) (hpre vm₁ X₁.warmed)
  exact ⟨v, vm₁, B, X₁.warmed, X', hpost, fun target h => hstep₁ _ fun acts => by rw [doInvoke_state]; exact hsteps.trans h⟩
abbrev vx_CVW (R : Room) (s : State) (args : Array Value) (own C : String) (index : Nat) (y : MethodName) (bytes : ByteArray) (maxL : Nat) (ret : Option FieldType) (hh : List (Nat × Nat × Nat × Nat)) (ws : List Cond) (rm : Room) (mc ms n : Nat) : Prop :=
  (rm.cells = mc ∧ rm.slots = ms ∧ rm.frames + 1 ≤ R.frames ∧ 8 + (maxL + 11) + rm.locals ≤ R.locals ∧ (∀ w ∈ ws, ∀ (a' : Array Value) (U : State), s.WarmedH U.vm → w.before a' U = true) ∧ Cond.codeWith y bytes maxL ret hh ∈ ws) ∧
  (Cond.codeWith y bytes maxL ret hh).before args s = true ∧ (Cond.initialized y.cls).before args s = true ∧ (y.cls ≠ "java/lang/invoke/MethodHandle" ∧ y.cls ≠ "java/lang/invoke/VarHandle") ∧
  (∀ sig, parseMethodDescriptor y.desc = some sig → n = sig.parameters.length) ∧ (Cond.methodLink own index y).before args s = true ∧ (Cond.instanceMethod y).before args s = true ∧ (Cond.selects C y y).before args s = true
theorem vx_cwVW {own C : String} {index maxL mc ms : Nat} {y : MethodName} {bytes : ByteArray} {ret : Option FieldType} {hh : List (Nat × Nat × Nat × Nat)} {Ts ws ws' : List Cond} {rm : Room} (n : Nat) (ht : ∀ w ∈ Ts, w.before args s = true) (hT : GoodIn Ts (wsV own index C y ws)) (hw : ws = Cond.codeWith y bytes maxL ret hh :: ws') (hrc : rm.cells = mc) (hrs : rm.slots = ms)
    (hd : y.cls = C ∧ y.cls ≠ "java/lang/invoke/MethodHandle" ∧ y.cls ≠ "java/lang/invoke/VarHandle" ∧ (parseMethodDescriptor y.desc).map (fun d => d.parameters.length) = some n) (hR : rm.frames + 1 ≤ R.frames ∧ 8 + (maxL + 11) + rm.locals ≤ R.locals) :
    vx_CVW R s args own C index y bytes maxL ret hh ws rm mc ms n := by
  obtain ⟨hC, hd⟩ := hd
  subst hC
  have ok : ∀ w ∈ wsV own index y.cls y ws, w.before args s = true := fun w h => ht w (hT w h).1
  have hG : GoodIn Ts ws := fun w h => hT w (by unfold wsV; exact List.mem_append_right _ h)
  have hc : Cond.codeWith y bytes maxL ret hh ∈ ws := by rw [hw]; exact List.mem_cons_self
  refine ⟨⟨hrc, hrs, hR.1, hR.2, pay_in ht hG, hc⟩, ht _ (hG _ hc).1, ok _ (by simp [wsV]), ⟨hd.1, hd.2.1⟩, fun sig h => ?_, ok _ (by simp [wsV]), ok _ (by simp [wsV]), ok _ (by simp [wsV])⟩
  have h2 := hd.2.2
  rw [h] at h2
  exact (Option.some.inj h2).symm
theorem vx_runVW {y : MethodName} {bytes cc : ByteArray} {maxL nL mc ms n index : Nat} {ret : Option FieldType} {hh : List (Nat × Nat × Nat × Nat)} {ws : List Cond} {rm : Room} {Pc : Array Value → State → Prop} {Qc : Array Value → State → Outcome → State → Prop} {free : Addr → Prop} {Ts : List Cond} {own C : String} {b : Addr} {As rest : List Value} {g : JFrame}
    (S : CallFix p m c cc nL s args Ts own) (hM : Met l y ws rm Pc Qc mc ms free) (cw : vx_CVW R s args own C index y bytes maxL ret hh ws rm mc ms n) (hp : PreV s H C b Pc As)
    (hg : g.method = m) (hn : As.length = n) (hsize : g.locals.size = nL) (hstack : g.stack = As.reverse ++ .ref b :: rest) (hW : 2 * g.monitorRoom + (rest.map fun v => v.category).sum ≤ 8) (hdg : decode cc g.pc = .ok (.invokevirtual index, 3)) (hf : cells + mc ≤ R.cells ∧ slots + ms ≤ R.slots) :
    va_Run p l e R s m args below meth c H locs cells slots mc ms g rest (Qc (Value.ref b :: As).toArray) free := by
  obtain ⟨⟨hrc, hrs, hfr, hlo, hws, hcw⟩, hcode, hini, hy, hlen, hl, hin, hse⟩ := cw
  have hK : Back l R p e below s args y 3 8 (PreOf R mc ms Pc) (PostOf Qc mc ms free) := va_backW (hh := hh) (bytes := bytes) (maxL := maxL) (ret := ret) hM hp.1 hrc hrs hfr hlo hws hcw (fun a' U hW => word_at hW (Or.inl (by first | rfl | simp [Cond.onTables, Cond.keeps, Cond.steady])) hini)
  obtain ⟨hx, hb, hml, ho, -⟩ := S
  obtain ⟨-, ⟨cellB, hcB, hoB, hclB⟩, hPc⟩ := hp
  intro T hT X
  obtain ⟨v, vm₁, ⟨U', l2, c2, s2⟩, hW₁, X', ⟨g', mk, t, L, e1, e2, hq, h1, hL, h2, h3⟩, st⟩ := vx_callVW X hx (C := C) (hh := hh) (bytes := bytes) (maxL := maxL) (ret := ret) ho hl hin hse hcode hy hK (by rw [hT]; exact hcB) hoB hclB hg (hsize.trans hml.symm) (argsL := As) (rest := rest) (fun sig h => hn.trans (hlen sig h)) hstack hW (by rw [hb]; exact hdg)
    (fun vm₁ hW₁ => ⟨hf.1, hf.2, hPc (T.setVm vm₁) hT hW₁⟩)
  dsimp only [Pt.U, Pt.locs, Pt.cells, Pt.slots] at X' e1 e2 h1 h2 h3 st
  subst h1; subst h2; subst h3
  exact ⟨v, (T.setVm vm₁).calling g' mk (Value.ref b :: As).toArray, t, U', L, hT, X', hL, e1, e2, hq, st⟩
section
variable {y : MethodName} {bytes cc : ByteArray} {maxL nL mc ms n index : Nat} {ret : Option FieldType} {ws : List Cond} {rm : Room} {Pc : Array Value → State → Prop} {Qc : Array Value → State → Outcome → State → Prop} {XC : String → State → State → Prop} {free : Addr → Prop} {Ts : List Cond} {own C : String} {b : Addr} {As rest : List Value} {g : JFrame}
theorem vx_runVX {hh : List (Nat × Nat × Nat × Nat)} (S : CallFix p m c cc nL s args Ts own) (hM : vx_Met l y ws rm Pc Qc XC mc ms free) (cw : vx_CVW R s args own C index y bytes maxL ret hh ws rm mc ms n) (hp : PreV s H C b Pc As)
    (hg : g.method = m) (hn : As.length = n) (hsize : g.locals.size = nL) (hstack : g.stack = As.reverse ++ .ref b :: rest) (hW : 2 * g.monitorRoom + (rest.map fun v => v.category).sum ≤ 8) (hdg : decode cc g.pc = .ok (.invokevirtual index, 3)) (hf : cells + mc ≤ R.cells ∧ slots + ms ≤ R.slots) :
    vx_Run p l e R s m args below meth c H locs cells slots mc ms g rest (Qc (Value.ref b :: As).toArray) XC free := by
  obtain ⟨⟨hrc, hrs, hfr, hlo, hws, hcw⟩, hcode, hini, hy, hlen, hl, hin, hse⟩ := cw
  have hK : vx_Back l R p e below s args y 3 8 (PreOf R mc ms Pc) (PostOf Qc mc ms free) (vx_Post XC mc ms free) := vx_backW (hh := hh) (bytes := bytes) (maxL := maxL) (ret := ret) hM hp.1 hrc hrs hfr hlo hws hcw (fun a' U hW => word_at hW (Or.inl (by first | rfl | simp [Cond.onTables, Cond.keeps, Cond.steady])) hini)
  obtain ⟨hx, hb, hml, ho, -⟩ := S
  obtain ⟨-, ⟨cellB, hcB, hoB, hclB⟩, hPc⟩ := hp
  intro T hT X
  rcases vx_callVX X hx (C := C) (hh := hh) (bytes := bytes) (maxL := maxL) (ret := ret) ho hl hin hse hcode hy hK (by rw [hT]; exact hcB) hoB hclB hg (hsize.trans hml.symm) (argsL := As) (rest := rest) (fun sig h => hn.trans (hlen sig h)) hstack hW (by rw [hb]; exact hdg)
    (fun vm₁ hW₁ => ⟨hf.1, hf.2, hPc (T.setVm vm₁) hT hW₁⟩) with ⟨v, vm₁, ⟨U', l2, c2, s2⟩, hW₁, X', ⟨g', mk, t, L, e1, e2, hq, h1, hL, h2, h3⟩, st⟩ | ⟨q, vm₁, ⟨U', l2, c2, s2⟩, hW₁, X', ⟨g', mk, t, L, E, ce, e1, e2, hq, hce, hcv, hcl, h1, hL, h2, h3⟩, st⟩
  · dsimp only [Pt.U, Pt.locs, Pt.cells, Pt.slots] at X' e1 e2 h1 h2 h3 st
    subst h1; subst h2; subst h3
    exact Or.inl ⟨v, (T.setVm vm₁).calling g' mk (Value.ref b :: As).toArray, t, U', L, hT, X', hL, e1, e2, hq, st⟩
  · dsimp only [Pt.U, Pt.locs, Pt.cells, Pt.slots] at X' e1 e2 h1 h2 h3 st hcl
    subst h1; subst h2; subst h3
    exact Or.inr ⟨q, (T.setVm vm₁).calling g' mk (Value.ref b :: As).toArray, t, U', L, E, ce, hT, X', hL, e1, e2, hq, hce, hcv, vx_cls hW₁ hcl, st⟩
theorem vx_runSX {hh : List (Nat × Nat × Nat × Nat)} (S : CallFix p m c cc nL s args Ts own) (hM : vx_Met l y ws rm Pc Qc XC mc ms free) (cw : vx_CSW R s args own index y bytes maxL ret hh ws rm mc ms n) (hp : PreS s H Pc As)
    (hg : g.method = m) (hn : As.length = n) (hsize : g.locals.size = nL) (hstack : g.stack = As.reverse ++ rest) (hW : 2 * g.monitorRoom + (rest.map fun v => v.category).sum ≤ 8) (hdg : decode cc g.pc = .ok (.invokestatic index, 3)) (hf : cells + mc ≤ R.cells ∧ slots + ms ≤ R.slots) :
    vx_Run p l e R s m args below meth c H locs cells slots mc ms g rest (Qc As.toArray) XC free := by
  obtain ⟨⟨hrc, hrs, hfr, hlo, hws, hcw⟩, hcode, hini, hy, hlen, hl, hstt⟩ := cw
  have hK : vx_Back l R p e below s args y 3 8 (PreOf R mc ms Pc) (PostOf Qc mc ms free) (vx_Post XC mc ms free) := vx_backW (hh := hh) (bytes := bytes) (maxL := maxL) (ret := ret) hM hp.1 hrc hrs hfr hlo hws hcw (fun a' U hW => word_at hW (Or.inl (by first | rfl | simp [Cond.onTables, Cond.keeps, Cond.steady])) hini)
  obtain ⟨hx, hb, hml, ho, -⟩ := S
  intro T hT X
  rcases vx_callSX X hx (hh := hh) (bytes := bytes) (maxL := maxL) (ret := ret) ho hl hstt hini hcode hy hK hg (hsize.trans hml.symm) (argsL := As) (rest := rest) (fun sig h => hn.trans (hlen sig h)) hstack hW (by rw [hb]; exact hdg)
    (fun vm₁ hW₁ => ⟨hf.1, hf.2, hp.2 (T.setVm vm₁) hT hW₁⟩) with ⟨v, vm₁, ⟨U', l2, c2, s2⟩, hW₁, X', ⟨g', mk, t, L, e1, e2, hq, h1, hL, h2, h3⟩, st⟩ | ⟨q, vm₁, ⟨U', l2, c2, s2⟩, hW₁, X', ⟨g', mk, t, L, E, ce, e1, e2, hq, hce, hcv, hcl, h1, hL, h2, h3⟩, st⟩
  · dsimp only [Pt.U, Pt.locs, Pt.cells, Pt.slots] at X' e1 e2 h1 h2 h3 st
    subst h1; subst h2; subst h3
    exact Or.inl ⟨v, (T.setVm vm₁).calling g' mk As.toArray, t, U', L, hT, X', hL, e1, e2, hq, st⟩
  · dsimp only [Pt.U, Pt.locs, Pt.cells, Pt.slots] at X' e1 e2 h1 h2 h3 st hcl
    subst h1; subst h2; subst h3
    exact Or.inr ⟨q, (T.setVm vm₁).calling g' mk As.toArray, t, U', L, E, ce, hT, X', hL, e1, e2, hq, hce, hcv, vx_cls hW₁ hcl, st⟩
end
end VXH
theorem vx_ofWH {l : Launch} {y : MethodName} {ws ws' : List Cond} {rm : Room} {Pc : Array Value → State → Prop} {Qc : Array Value → State → Outcome → State → Prop} {XC : String → State → State → Prop} {mc ms : Nat} {free : Addr → Prop} {cc : ByteArray} {maxL : Nat} {ret : Option FieldType} {hh : List (Nat × Nat × Nat × Nat)}
    (hy : plainName y.cls = true) (hw : ws = Cond.codeWith y cc maxL ret hh :: ws')
    (body : ∀ p e s m args below meth c s₁, BodyLoose p l y (headSpec ws rm) cc maxL ret e s m args below meth c s₁ → c.maxLocals = maxL → Pc args s →
      W p l e (headSpec ws rm).room s m args below meth c s.heap [] 0 0 (vx_MQ below Qc XC args s mc ms free) (entryFrame m args maxL)) : vx_Met l y ws rm Pc Qc XC mc ms free := by
  refine MetFree.of_bodyS (code := cc) (maxLocals := maxL) (ret := ret) hy ?_ ?_
  · intro args s m h hn
    obtain ⟨m9, meth, c, hn9, h1, h2, h3, h4, -, h5, h6, -⟩ := Cond.codeWith_spec (atoms_spec (ws := ws) h _ (by rw [hw]; exact List.mem_cons_self))
    cases hn.symm.trans hn9
    exact ⟨meth, c, h1, h2, h3, h4, h5, h6⟩
  · intro p e s m args below meth c s₁ B hml hP _
    have hh0 : s₁.heap = s.heap := by rw [B.state]; rfl
    obtain ⟨t, a1, o, b1, b2, b3⟩ := body p e s m args below meth c s₁ B hml hP s₁ hh0 (Stand.of_body B)
    exact ⟨t, o, a1, b1, b2, b3⟩
/-! ===== END ===== -/
end
section
/-! ===== BEGIN printed: names, fields, word lists, decode rows ===== -/
def RX0 : String := "TierHouse$StoredFile"
def TX0 : u_T := fun k => match k with
  | 0 => ("TierHouse$StoredFile", "address", "I", true)
  | 1 => ("TierHouse$StoredFile", "folder", "I", true)
  | 2 => ("TierHouse$StoredFile", "cells", "[I", true)
  | 3 => ("TierHouse$StoredFile", "count", "I", false)
  | 4 => ("TierHouse$StoredFile", "isGift", "Z", false)
  | _ => ("TierHouse$StoredFile", "giftCells", "I", false)
def tyX0 : Nat → FieldType := fun k => match k with
  | 0 => .int
  | 1 => .int
  | 2 => .array .int
  | 3 => .int
  | 4 => .boolean
  | _ => .int
abbrev wsX00 : List Cond := u_ws RX0 TX0 6
theorem nmX0 : ∀ a, a < 6 → ∀ b, b < 6 → a ≠ b → (TX0 a).2.1 ≠ (TX0 b).2.1 := by decide +kernel
theorem tyX0_ok : ∀ k, k < 6 → parseFieldDescriptor (TX0 k).2.2.1 = some (tyX0 k) := by decide +kernel
abbrev cX0_init : ByteArray := prog_2_method_1_code
def yX0_init : MethodName := ⟨RX0, "<init>", "(IIZ)V"⟩
abbrev cX0_use : ByteArray := prog_2_method_2_code
def yX0_use : MethodName := ⟨RX0, "use", "()I"⟩
abbrev cX0_append : ByteArray := prog_2_method_3_code
def yX0_append : MethodName := ⟨RX0, "append", "(IZ)V"⟩
abbrev cX0_cutTo : ByteArray := prog_2_method_4_code
def yX0_cutTo : MethodName := ⟨RX0, "cutTo", "(I)I"⟩
abbrev cX0_becomeCopyOf : ByteArray := prog_2_method_5_code
def yX0_becomeCopyOf : MethodName := ⟨RX0, "becomeCopyOf", "(LTierHouse$StoredFile;)V"⟩
def RX1 : String := "TierHouse"
def TX1 : u_T := fun k => match k with
  | 0 => ("TierHouse", "labelOf", "[I", true)
  | 1 => ("TierHouse", "quotaOf", "[I", true)
  | 2 => ("TierHouse", "spentBy", "[I", true)
  | 3 => ("TierHouse", "files", "Ljava/util/ArrayList;", true)
  | 4 => ("TierHouse", "listings", "[I", true)
  | 5 => ("TierHouse", "listingCount", "I", false)
  | 6 => ("TierHouse", "seenBy", "[[I", true)
  | _ => ("TierHouse", "seenCount", "[I", true)
def tyX1 : Nat → FieldType := fun k => match k with
  | 0 => .array .int
  | 1 => .array .int
  | 2 => .array .int
  | 3 => .object "java/util/ArrayList"
  | 4 => .array .int
  | 5 => .int
  | 6 => .array (.array .int)
  | _ => .array .int
abbrev wsX10 : List Cond := u_ws RX1 TX1 8
theorem nmX1 : ∀ a, a < 8 → ∀ b, b < 8 → a ≠ b → (TX1 a).2.1 ≠ (TX1 b).2.1 := by decide +kernel
theorem tyX1_ok : ∀ k, k < 8 → parseFieldDescriptor (TX1 k).2.2.1 = some (tyX1 k) := by decide +kernel
abbrev cX1_init : ByteArray := prog_1_method_1_code
def yX1_init : MethodName := ⟨RX1, "<init>", "()V"⟩
abbrev cX1_subject : ByteArray := prog_1_method_2_code
def yX1_subject : MethodName := ⟨RX1, "subject", "(II)Z"⟩
abbrev cX1_quota : ByteArray := prog_1_method_3_code
def yX1_quota : MethodName := ⟨RX1, "quota", "(II)I"⟩
abbrev cX1_list : ByteArray := prog_1_method_4_code
def yX1_list : MethodName := ⟨RX1, "list", "(IIIZ)Z"⟩
abbrev cX1_flows : ByteArray := prog_1_method_5_code
def yX1_flows : MethodName := ⟨RX1, "flows", "(II)Z"⟩
abbrev cX1_make : ByteArray := prog_1_method_6_code
def yX1_make : MethodName := ⟨RX1, "make", "(IIII)I"⟩
abbrev cX1_set : ByteArray := prog_1_method_7_code
def yX1_set : MethodName := ⟨RX1, "set", "(IIII)I"⟩
abbrev cX1_give : ByteArray := prog_1_method_8_code
def yX1_give : MethodName := ⟨RX1, "give", "(IIII)I"⟩
abbrev cX1_trim : ByteArray := prog_1_method_9_code
def yX1_trim : MethodName := ⟨RX1, "trim", "(III)I"⟩
abbrev cX1_remove : ByteArray := prog_1_method_10_code
def yX1_remove : MethodName := ⟨RX1, "remove", "(II)I"⟩
abbrev cX1_read : ByteArray := prog_1_method_11_code
def yX1_read : MethodName := ⟨RX1, "read", "(IIII)I"⟩
abbrev cX1_size : ByteArray := prog_1_method_12_code
def yX1_size : MethodName := ⟨RX1, "size", "(III)I"⟩
abbrev cX1_there : ByteArray := prog_1_method_13_code
def yX1_there : MethodName := ⟨RX1, "there", "(III)I"⟩
abbrev cX1_listed : ByteArray := prog_1_method_14_code
def yX1_listed : MethodName := ⟨RX1, "listed", "(III)I"⟩
abbrev cX1_release : ByteArray := prog_1_method_15_code
def yX1_release : MethodName := ⟨RX1, "release", "(IIII)I"⟩
abbrev cX1_seen : ByteArray := prog_1_method_16_code
def yX1_seen : MethodName := ⟨RX1, "seen", "(II)I"⟩
abbrev cX1_told : ByteArray := prog_1_method_17_code
def yX1_told : MethodName := ⟨RX1, "told", "(II)I"⟩
abbrev cX1_requireSubject : ByteArray := prog_1_method_18_code
def yX1_requireSubject : MethodName := ⟨RX1, "requireSubject", "(I)V"⟩
abbrev cX1_requireLabel : ByteArray := prog_1_method_19_code
def yX1_requireLabel : MethodName := ⟨RX1, "requireLabel", "(I)V"⟩
abbrev cX1_requireNumber : ByteArray := prog_1_method_20_code
def yX1_requireNumber : MethodName := ⟨RX1, "requireNumber", "(I)V"⟩
abbrev cX1_requireFile : ByteArray := prog_1_method_21_code
def yX1_requireFile : MethodName := ⟨RX1, "requireFile", "(II)V"⟩
abbrev cX1_requireCell : ByteArray := prog_1_method_22_code
def yX1_requireCell : MethodName := ⟨RX1, "requireCell", "(I)V"⟩
abbrev cX1_requireFolder : ByteArray := prog_1_method_23_code
def yX1_requireFolder : MethodName := ⟨RX1, "requireFolder", "(I)V"⟩
abbrev cX1_requireAtMost : ByteArray := prog_1_method_24_code
def yX1_requireAtMost : MethodName := ⟨RX1, "requireAtMost", "(II)V"⟩
abbrev cX1_mayFlow : ByteArray := prog_1_method_25_code
def yX1_mayFlow : MethodName := ⟨RX1, "mayFlow", "(II)Z"⟩
abbrev cX1_secrecyOf : ByteArray := prog_1_method_26_code
def yX1_secrecyOf : MethodName := ⟨RX1, "secrecyOf", "(I)I"⟩
abbrev cX1_secretsOf : ByteArray := prog_1_method_27_code
def yX1_secretsOf : MethodName := ⟨RX1, "secretsOf", "(I)I"⟩
abbrev cX1_trustOf : ByteArray := prog_1_method_28_code
def yX1_trustOf : MethodName := ⟨RX1, "trustOf", "(I)I"⟩
abbrev cX1_warrantsOf : ByteArray := prog_1_method_29_code
def yX1_warrantsOf : MethodName := ⟨RX1, "warrantsOf", "(I)I"⟩
abbrev cX1_isWithin : ByteArray := prog_1_method_30_code
def yX1_isWithin : MethodName := ⟨RX1, "isWithin", "(II)Z"⟩
abbrev cX1_verdictOnReading : ByteArray := prog_1_method_31_code
def yX1_verdictOnReading : MethodName := ⟨RX1, "verdictOnReading", "(II)I"⟩
abbrev cX1_answerMake : ByteArray := prog_1_method_32_code
def yX1_answerMake : MethodName := ⟨RX1, "answerMake", "(IIII)I"⟩
abbrev cX1_makeOwn : ByteArray := prog_1_method_33_code
def yX1_makeOwn : MethodName := ⟨RX1, "makeOwn", "(III)I"⟩
abbrev cX1_makeAbove : ByteArray := prog_1_method_34_code
def yX1_makeAbove : MethodName := ⟨RX1, "makeAbove", "(III)I"⟩
abbrev cX1_answerRelease : ByteArray := prog_1_method_35_code
def yX1_answerRelease : MethodName := ⟨RX1, "answerRelease", "(IIII)I"⟩
abbrev cX1_hasRoom : ByteArray := prog_1_method_36_code
def yX1_hasRoom : MethodName := ⟨RX1, "hasRoom", "(II)Z"⟩
abbrev cX1_usedBy : ByteArray := prog_1_method_37_code
def yX1_usedBy : MethodName := ⟨RX1, "usedBy", "(I)I"⟩
abbrev cX1_countFilesAt : ByteArray := prog_1_method_38_code
def yX1_countFilesAt : MethodName := ⟨RX1, "countFilesAt", "(I)I"⟩
abbrev cX1_addressOf : ByteArray := prog_1_method_39_code
def yX1_addressOf : MethodName := ⟨RX1, "addressOf", "(II)I"⟩
abbrev cX1_labelOfAddress : ByteArray := prog_1_method_40_code
def yX1_labelOfAddress : MethodName := ⟨RX1, "labelOfAddress", "(I)I"⟩
abbrev cX1_isFull : ByteArray := prog_1_method_41_code
def yX1_isFull : MethodName := ⟨RX1, "isFull", "()Z"⟩
abbrev cX1_placeOf : ByteArray := prog_1_method_42_code
def yX1_placeOf : MethodName := ⟨RX1, "placeOf", "(I)I"⟩
abbrev cX1_find : ByteArray := prog_1_method_43_code
def yX1_find : MethodName := ⟨RX1, "find", "(II)LTierHouse$StoredFile;"⟩
abbrev cX1_store : ByteArray := prog_1_method_44_code
def yX1_store : MethodName := ⟨RX1, "store", "(LTierHouse$StoredFile;)V"⟩
abbrev cX1_listingOf : ByteArray := prog_1_method_45_code
def yX1_listingOf : MethodName := ⟨RX1, "listingOf", "(III)I"⟩
abbrev cX1_isListed : ByteArray := prog_1_method_46_code
def yX1_isListed : MethodName := ⟨RX1, "isListed", "(I)Z"⟩
abbrev cX1_addListing : ByteArray := prog_1_method_47_code
def yX1_addListing : MethodName := ⟨RX1, "addListing", "(I)V"⟩
abbrev cX1_dropListing : ByteArray := prog_1_method_48_code
def yX1_dropListing : MethodName := ⟨RX1, "dropListing", "(I)V"⟩
abbrev cX1_forgetSeen : ByteArray := prog_1_method_49_code
def yX1_forgetSeen : MethodName := ⟨RX1, "forgetSeen", "(I)V"⟩
abbrev cX1_show : ByteArray := prog_1_method_50_code
def yX1_show : MethodName := ⟨RX1, "show", "(II)V"⟩
abbrev cX1_showFilesIn : ByteArray := prog_1_method_51_code
def yX1_showFilesIn : MethodName := ⟨RX1, "showFilesIn", "(II)V"⟩
def RX2 : String := "TierHouseModel"
def TX2 : u_T := fun k => match k with
  | 0 => ("TierHouseModel", "labels", "[I", true)
  | 1 => ("TierHouseModel", "has", "[Z", true)
  | 2 => ("TierHouseModel", "quotas", "[I", true)
  | 3 => ("TierHouseModel", "spent", "[I", true)
  | 4 => ("TierHouseModel", "names", "[I", true)
  | 5 => ("TierHouseModel", "gifts", "[Z", true)
  | 6 => ("TierHouseModel", "folders", "[I", true)
  | 7 => ("TierHouseModel", "sizes", "[I", true)
  | 8 => ("TierHouseModel", "cells", "[I", true)
  | 9 => ("TierHouseModel", "given", "[Z", true)
  | 10 => ("TierHouseModel", "files", "I", false)
  | 11 => ("TierHouseModel", "lists", "[I", true)
  | 12 => ("TierHouseModel", "listCount", "I", false)
  | 13 => ("TierHouseModel", "seen", "[I", true)
  | 14 => ("TierHouseModel", "seenCount", "[I", true)
  | _ => ("TierHouseModel", "thrown", "I", false)
def tyX2 : Nat → FieldType := fun k => match k with
  | 0 => .array .int
  | 1 => .array .boolean
  | 2 => .array .int
  | 3 => .array .int
  | 4 => .array .int
  | 5 => .array .boolean
  | 6 => .array .int
  | 7 => .array .int
  | 8 => .array .int
  | 9 => .array .boolean
  | 10 => .int
  | 11 => .array .int
  | 12 => .int
  | 13 => .array .int
  | 14 => .array .int
  | _ => .int
abbrev wsX20 : List Cond := u_ws RX2 TX2 16
theorem nmX2 : ∀ a, a < 16 → ∀ b, b < 16 → a ≠ b → (TX2 a).2.1 ≠ (TX2 b).2.1 := by decide +kernel
theorem tyX2_ok : ∀ k, k < 16 → parseFieldDescriptor (TX2 k).2.2.1 = some (tyX2 k) := by decide +kernel
abbrev cX2_init : ByteArray := prog_4_method_1_code
def yX2_init : MethodName := ⟨RX2, "<init>", "()V"⟩
abbrev cX2_thrown : ByteArray := prog_4_method_2_code
def yX2_thrown : MethodName := ⟨RX2, "thrown", "()I"⟩
abbrev cX2_fails : ByteArray := prog_4_method_3_code
def yX2_fails : MethodName := ⟨RX2, "fails", "(ZI)Z"⟩
abbrev cX2_within : ByteArray := prog_4_method_4_code
def yX2_within : MethodName := ⟨RX2, "within", "(II)Z"⟩
abbrev cX2_isSubject : ByteArray := prog_4_method_5_code
def yX2_isSubject : MethodName := ⟨RX2, "isSubject", "(I)Z"⟩
abbrev cX2_isLabel : ByteArray := prog_4_method_6_code
def yX2_isLabel : MethodName := ⟨RX2, "isLabel", "(I)Z"⟩
abbrev cX2_isNumber : ByteArray := prog_4_method_7_code
def yX2_isNumber : MethodName := ⟨RX2, "isNumber", "(I)Z"⟩
abbrev cX2_may : ByteArray := prog_4_method_8_code
def yX2_may : MethodName := ⟨RX2, "may", "(II)Z"⟩
abbrev cX2_find : ByteArray := prog_4_method_9_code
def yX2_find : MethodName := ⟨RX2, "find", "(II)I"⟩
abbrev cX2_countOf : ByteArray := prog_4_method_10_code
def yX2_countOf : MethodName := ⟨RX2, "countOf", "(I)I"⟩
abbrev cX2_uses : ByteArray := prog_4_method_11_code
def yX2_uses : MethodName := ⟨RX2, "uses", "(I)I"⟩
abbrev cX2_add : ByteArray := prog_4_method_12_code
def yX2_add : MethodName := ⟨RX2, "add", "(IIIZ)I"⟩
abbrev cX2_move : ByteArray := prog_4_method_13_code
def yX2_move : MethodName := ⟨RX2, "move", "(II)V"⟩
abbrev cX2_append : ByteArray := prog_4_method_14_code
def yX2_append : MethodName := ⟨RX2, "append", "(IIZ)V"⟩
abbrev cX2_subject : ByteArray := prog_4_method_15_code
def yX2_subject : MethodName := ⟨RX2, "subject", "(II)Z"⟩
abbrev cX2_quota : ByteArray := prog_4_method_16_code
def yX2_quota : MethodName := ⟨RX2, "quota", "(II)I"⟩
abbrev cX2_listOf : ByteArray := prog_4_method_17_code
def yX2_listOf : MethodName := ⟨RX2, "listOf", "(III)I"⟩
abbrev cX2_list : ByteArray := prog_4_method_18_code
def yX2_list : MethodName := ⟨RX2, "list", "(IIIZ)Z"⟩
abbrev cX2_flows : ByteArray := prog_4_method_19_code
def yX2_flows : MethodName := ⟨RX2, "flows", "(II)Z"⟩
abbrev cX2_begin : ByteArray := prog_4_method_20_code
def yX2_begin : MethodName := ⟨RX2, "begin", "(I)V"⟩
abbrev cX2_isFull : ByteArray := prog_4_method_21_code
def yX2_isFull : MethodName := ⟨RX2, "isFull", "(II)Z"⟩
abbrev cX2_make : ByteArray := prog_4_method_22_code
def yX2_make : MethodName := ⟨RX2, "make", "(IIII)I"⟩
abbrev cX2_set : ByteArray := prog_4_method_23_code
def yX2_set : MethodName := ⟨RX2, "set", "(IIII)I"⟩
abbrev cX2_give : ByteArray := prog_4_method_24_code
def yX2_give : MethodName := ⟨RX2, "give", "(IIII)I"⟩
abbrev cX2_trim : ByteArray := prog_4_method_25_code
def yX2_trim : MethodName := ⟨RX2, "trim", "(III)I"⟩
abbrev cX2_remove : ByteArray := prog_4_method_26_code
def yX2_remove : MethodName := ⟨RX2, "remove", "(II)I"⟩
abbrev cX2_look : ByteArray := prog_4_method_27_code
def yX2_look : MethodName := ⟨RX2, "look", "(II)I"⟩
abbrev cX2_read : ByteArray := prog_4_method_28_code
def yX2_read : MethodName := ⟨RX2, "read", "(IIII)I"⟩
abbrev cX2_size : ByteArray := prog_4_method_29_code
def yX2_size : MethodName := ⟨RX2, "size", "(III)I"⟩
abbrev cX2_there : ByteArray := prog_4_method_30_code
def yX2_there : MethodName := ⟨RX2, "there", "(III)I"⟩
abbrev cX2_listed : ByteArray := prog_4_method_31_code
def yX2_listed : MethodName := ⟨RX2, "listed", "(III)I"⟩
abbrev cX2_release : ByteArray := prog_4_method_32_code
def yX2_release : MethodName := ⟨RX2, "release", "(IIII)I"⟩
abbrev cX2_seen : ByteArray := prog_4_method_33_code
def yX2_seen : MethodName := ⟨RX2, "seen", "(II)I"⟩
abbrev cX2_told : ByteArray := prog_4_method_34_code
def yX2_told : MethodName := ⟨RX2, "told", "(II)I"⟩
def RJx145de : String := "java/io/Serializable"
def TJx145de : u_T := fun k => match k with
  | _ => ("", "", "", false)
def tyJx145de : Nat → FieldType := fun k => match k with
  | _ => .int
abbrev wsJx145de0 : List Cond := u_ws RJx145de TJx145de 0
theorem nmJx145de : ∀ a, a < 0 → ∀ b, b < 0 → a ≠ b → (TJx145de a).2.1 ≠ (TJx145de b).2.1 := by decide +kernel
theorem tyJx145de_ok : ∀ k, k < 0 → parseFieldDescriptor (TJx145de k).2.2.1 = some (tyJx145de k) := by decide +kernel
def RJx8e188 : String := "java/lang/Cloneable"
def TJx8e188 : u_T := fun k => match k with
  | _ => ("", "", "", false)
def tyJx8e188 : Nat → FieldType := fun k => match k with
  | _ => .int
abbrev wsJx8e1880 : List Cond := u_ws RJx8e188 TJx8e188 0
theorem nmJx8e188 : ∀ a, a < 0 → ∀ b, b < 0 → a ≠ b → (TJx8e188 a).2.1 ≠ (TJx8e188 b).2.1 := by decide +kernel
theorem tyJx8e188_ok : ∀ k, k < 0 → parseFieldDescriptor (TJx8e188 k).2.2.1 = some (tyJx8e188 k) := by decide +kernel
def RJ6 : String := "java/lang/Integer"
def TJ6 : u_T := fun k => match k with
  | _ => ("", "", "", false)
def tyJ6 : Nat → FieldType := fun k => match k with
  | _ => .int
abbrev wsJ60 : List Cond := u_ws RJ6 TJ6 0
theorem nmJ6 : ∀ a, a < 0 → ∀ b, b < 0 → a ≠ b → (TJ6 a).2.1 ≠ (TJ6 b).2.1 := by decide +kernel
theorem tyJ6_ok : ∀ k, k < 0 → parseFieldDescriptor (TJ6 k).2.2.1 = some (tyJ6 k) := by decide +kernel
abbrev cJ6_bitCount_0f7a4 : ByteArray := prog_9_method_49_code
def yJ6_bitCount_0f7a4 : MethodName := ⟨RJ6, "bitCount", "(I)I"⟩
def RJxab1ab : String := "java/lang/Iterable"
def TJxab1ab : u_T := fun k => match k with
  | _ => ("", "", "", false)
def tyJxab1ab : Nat → FieldType := fun k => match k with
  | _ => .int
abbrev wsJxab1ab0 : List Cond := u_ws RJxab1ab TJxab1ab 0
theorem nmJxab1ab : ∀ a, a < 0 → ∀ b, b < 0 → a ≠ b → (TJxab1ab a).2.1 ≠ (TJxab1ab b).2.1 := by decide +kernel
theorem tyJxab1ab_ok : ∀ k, k < 0 → parseFieldDescriptor (TJxab1ab k).2.2.1 = some (tyJxab1ab k) := by decide +kernel
def RJ9 : String := "java/lang/Math"
def TJ9 : u_T := fun k => match k with
  | _ => ("", "", "", false)
def tyJ9 : Nat → FieldType := fun k => match k with
  | _ => .int
abbrev wsJ90 : List Cond := u_ws RJ9 TJ9 0
theorem nmJ9 : ∀ a, a < 0 → ∀ b, b < 0 → a ≠ b → (TJ9 a).2.1 ≠ (TJ9 b).2.1 := by decide +kernel
theorem tyJ9_ok : ∀ k, k < 0 → parseFieldDescriptor (TJ9 k).2.2.1 = some (tyJ9 k) := by decide +kernel
abbrev cJ9_max_7cf53 : ByteArray := prog_11_method_65_code
def yJ9_max_7cf53 : MethodName := ⟨RJ9, "max", "(II)I"⟩
abbrev cJ9_min_7cf53 : ByteArray := prog_11_method_69_code
def yJ9_min_7cf53 : MethodName := ⟨RJ9, "min", "(II)I"⟩
def RJ0 : String := "java/lang/String"
def TJ0 : u_T := fun k => match k with
  | _ => ("", "", "", false)
def tyJ0 : Nat → FieldType := fun k => match k with
  | _ => .int
abbrev wsJ00 : List Cond := u_ws RJ0 TJ0 0
theorem nmJ0 : ∀ a, a < 0 → ∀ b, b < 0 → a ≠ b → (TJ0 a).2.1 ≠ (TJ0 b).2.1 := by decide +kernel
theorem tyJ0_ok : ∀ k, k < 0 → parseFieldDescriptor (TJ0 k).2.2.1 = some (tyJ0 k) := by decide +kernel
def RJ10 : String := "java/lang/System"
def TJ10 : u_T := fun k => match k with
  | _ => ("", "", "", false)
def tyJ10 : Nat → FieldType := fun k => match k with
  | _ => .int
abbrev wsJ100 : List Cond := u_ws RJ10 TJ10 0
theorem nmJ10 : ∀ a, a < 0 → ∀ b, b < 0 → a ≠ b → (TJ10 a).2.1 ≠ (TJ10 b).2.1 := by decide +kernel
theorem tyJ10_ok : ∀ k, k < 0 → parseFieldDescriptor (TJ10 k).2.2.1 = some (tyJ10 k) := by decide +kernel
def RJxa1e45 : String := "java/util/AbstractCollection"
def TJxa1e45 : u_T := fun k => match k with
  | _ => ("", "", "", false)
def tyJxa1e45 : Nat → FieldType := fun k => match k with
  | _ => .int
abbrev wsJxa1e450 : List Cond := u_ws RJxa1e45 TJxa1e45 0
theorem nmJxa1e45 : ∀ a, a < 0 → ∀ b, b < 0 → a ≠ b → (TJxa1e45 a).2.1 ≠ (TJxa1e45 b).2.1 := by decide +kernel
theorem tyJxa1e45_ok : ∀ k, k < 0 → parseFieldDescriptor (TJxa1e45 k).2.2.1 = some (tyJxa1e45 k) := by decide +kernel
abbrev cJxa1e45_init_da8c8 : ByteArray := prog_17_method_1_code
def yJxa1e45_init_da8c8 : MethodName := ⟨RJxa1e45, "<init>", "()V"⟩
def RJxc12de : String := "java/util/AbstractList"
def TJxc12de : u_T := fun k => match k with
  | _ => ("", "", "", false)
def tyJxc12de : Nat → FieldType := fun k => match k with
  | _ => .int
abbrev wsJxc12de0 : List Cond := u_ws RJxc12de TJxc12de 0
theorem nmJxc12de : ∀ a, a < 0 → ∀ b, b < 0 → a ≠ b → (TJxc12de a).2.1 ≠ (TJxc12de b).2.1 := by decide +kernel
theorem tyJxc12de_ok : ∀ k, k < 0 → parseFieldDescriptor (TJxc12de k).2.2.1 = some (tyJxc12de k) := by decide +kernel
abbrev cJxc12de_init_da8c8 : ByteArray := prog_18_method_1_code
def yJxc12de_init_da8c8 : MethodName := ⟨RJxc12de, "<init>", "()V"⟩
def RJx4a65c : String := "java/util/ArrayList"
def TJx4a65c : u_T := fun k => match k with
  | 0 => ("java/util/AbstractList", "modCount", "I", false)
  | 1 => ("java/util/ArrayList", "elementData", "[Ljava/lang/Object;", false)
  | _ => ("java/util/ArrayList", "size", "I", false)
def tyJx4a65c : Nat → FieldType := fun k => match k with
  | 0 => .int
  | 1 => .array (.object "java/lang/Object")
  | _ => .int
abbrev wsJx4a65c0 : List Cond := u_ws RJx4a65c TJx4a65c 3
theorem nmJx4a65c : ∀ a, a < 3 → ∀ b, b < 3 → a ≠ b → (TJx4a65c a).2.1 ≠ (TJx4a65c b).2.1 := by decide +kernel
theorem tyJx4a65c_ok : ∀ k, k < 3 → parseFieldDescriptor (TJx4a65c k).2.2.1 = some (tyJx4a65c k) := by decide +kernel
abbrev cJx4a65c_init_da8c8 : ByteArray := prog_19_method_2_code
def yJx4a65c_init_da8c8 : MethodName := ⟨RJx4a65c, "<init>", "()V"⟩
abbrev cJx4a65c_grow_92f84 : ByteArray := prog_19_method_6_code
def yJx4a65c_grow_92f84 : MethodName := ⟨RJx4a65c, "grow", "(I)[Ljava/lang/Object;"⟩
abbrev cJx4a65c_grow_d5877 : ByteArray := prog_19_method_7_code
def yJx4a65c_grow_d5877 : MethodName := ⟨RJx4a65c, "grow", "()[Ljava/lang/Object;"⟩
abbrev cJx4a65c_size_8abf5 : ByteArray := prog_19_method_8_code
def yJx4a65c_size_8abf5 : MethodName := ⟨RJx4a65c, "size", "()I"⟩
abbrev cJx4a65c_elementData_915e3 : ByteArray := prog_19_method_18_code
def yJx4a65c_elementData_915e3 : MethodName := ⟨RJx4a65c, "elementData", "(I)Ljava/lang/Object;"⟩
abbrev cJx4a65c_get_915e3 : ByteArray := prog_19_method_20_code
def yJx4a65c_get_915e3 : MethodName := ⟨RJx4a65c, "get", "(I)Ljava/lang/Object;"⟩
abbrev cJx4a65c_add_7a177 : ByteArray := prog_19_method_26_code
def yJx4a65c_add_7a177 : MethodName := ⟨RJx4a65c, "add", "(ILjava/lang/Object;)V"⟩
abbrev cJx4a65c_remove_915e3 : ByteArray := prog_19_method_29_code
def yJx4a65c_remove_915e3 : MethodName := ⟨RJx4a65c, "remove", "(I)Ljava/lang/Object;"⟩
abbrev cJx4a65c_fastRemove_b59b0 : ByteArray := prog_19_method_39_code
def yJx4a65c_fastRemove_b59b0 : MethodName := ⟨RJx4a65c, "fastRemove", "([Ljava/lang/Object;I)V"⟩
abbrev cJx4a65c_rangeCheckForAdd_d00df : ByteArray := prog_19_method_45_code
def yJx4a65c_rangeCheckForAdd_d00df : MethodName := ⟨RJx4a65c, "rangeCheckForAdd", "(I)V"⟩
def RJ7 : String := "java/util/Arrays"
def TJ7 : u_T := fun k => match k with
  | _ => ("", "", "", false)
def tyJ7 : Nat → FieldType := fun k => match k with
  | _ => .int
abbrev wsJ70 : List Cond := u_ws RJ7 TJ7 0
theorem nmJ7 : ∀ a, a < 0 → ∀ b, b < 0 → a ≠ b → (TJ7 a).2.1 ≠ (TJ7 b).2.1 := by decide +kernel
theorem tyJ7_ok : ∀ k, k < 0 → parseFieldDescriptor (TJ7 k).2.2.1 = some (tyJ7 k) := by decide +kernel
abbrev cJ7_fill_53178 : ByteArray := prog_20_method_103_code
def yJ7_fill_53178 : MethodName := ⟨RJ7, "fill", "([II)V"⟩
abbrev cJ7_copyOf_1904c : ByteArray := prog_20_method_119_code
def yJ7_copyOf_1904c : MethodName := ⟨RJ7, "copyOf", "([Ljava/lang/Object;I)[Ljava/lang/Object;"⟩
abbrev cJ7_copyOf_6403c : ByteArray := prog_20_method_120_code
def yJ7_copyOf_6403c : MethodName := ⟨RJ7, "copyOf", "([Ljava/lang/Object;ILjava/lang/Class;)[Ljava/lang/Object;"⟩
def RJx5ef63 : String := "java/util/Collection"
def TJx5ef63 : u_T := fun k => match k with
  | _ => ("", "", "", false)
def tyJx5ef63 : Nat → FieldType := fun k => match k with
  | _ => .int
abbrev wsJx5ef630 : List Cond := u_ws RJx5ef63 TJx5ef63 0
theorem nmJx5ef63 : ∀ a, a < 0 → ∀ b, b < 0 → a ≠ b → (TJx5ef63 a).2.1 ≠ (TJx5ef63 b).2.1 := by decide +kernel
theorem tyJx5ef63_ok : ∀ k, k < 0 → parseFieldDescriptor (TJx5ef63 k).2.2.1 = some (tyJx5ef63 k) := by decide +kernel
def RJxbd725 : String := "java/util/List"
def TJxbd725 : u_T := fun k => match k with
  | _ => ("", "", "", false)
def tyJxbd725 : Nat → FieldType := fun k => match k with
  | _ => .int
abbrev wsJxbd7250 : List Cond := u_ws RJxbd725 TJxbd725 0
theorem nmJxbd725 : ∀ a, a < 0 → ∀ b, b < 0 → a ≠ b → (TJxbd725 a).2.1 ≠ (TJxbd725 b).2.1 := by decide +kernel
theorem tyJxbd725_ok : ∀ k, k < 0 → parseFieldDescriptor (TJxbd725 k).2.2.1 = some (tyJxbd725 k) := by decide +kernel
def RJ15 : String := "java/util/Objects"
def TJ15 : u_T := fun k => match k with
  | _ => ("", "", "", false)
def tyJ15 : Nat → FieldType := fun k => match k with
  | _ => .int
abbrev wsJ150 : List Cond := u_ws RJ15 TJ15 0
theorem nmJ15 : ∀ a, a < 0 → ∀ b, b < 0 → a ≠ b → (TJ15 a).2.1 ≠ (TJ15 b).2.1 := by decide +kernel
theorem tyJ15_ok : ∀ k, k < 0 → parseFieldDescriptor (TJ15 k).2.2.1 = some (tyJ15 k) := by decide +kernel
abbrev cJ15_checkIndex_7cf53 : ByteArray := prog_23_method_17_code
def yJ15_checkIndex_7cf53 : MethodName := ⟨RJ15, "checkIndex", "(II)I"⟩
def RJxf0a74 : String := "java/util/RandomAccess"
def TJxf0a74 : u_T := fun k => match k with
  | _ => ("", "", "", false)
def tyJxf0a74 : Nat → FieldType := fun k => match k with
  | _ => .int
abbrev wsJxf0a740 : List Cond := u_ws RJxf0a74 TJxf0a74 0
theorem nmJxf0a74 : ∀ a, a < 0 → ∀ b, b < 0 → a ≠ b → (TJxf0a74 a).2.1 ≠ (TJxf0a74 b).2.1 := by decide +kernel
theorem tyJxf0a74_ok : ∀ k, k < 0 → parseFieldDescriptor (TJxf0a74 k).2.2.1 = some (tyJxf0a74 k) := by decide +kernel
def RJxa66e6 : String := "java/util/SequencedCollection"
def TJxa66e6 : u_T := fun k => match k with
  | _ => ("", "", "", false)
def tyJxa66e6 : Nat → FieldType := fun k => match k with
  | _ => .int
abbrev wsJxa66e60 : List Cond := u_ws RJxa66e6 TJxa66e6 0
theorem nmJxa66e6 : ∀ a, a < 0 → ∀ b, b < 0 → a ≠ b → (TJxa66e6 a).2.1 ≠ (TJxa66e6 b).2.1 := by decide +kernel
theorem tyJxa66e6_ok : ∀ k, k < 0 → parseFieldDescriptor (TJxa66e6 k).2.2.1 = some (tyJxa66e6 k) := by decide +kernel
def RJ8 : String := "jdk/internal/util/ArraysSupport"
def TJ8 : u_T := fun k => match k with
  | _ => ("", "", "", false)
def tyJ8 : Nat → FieldType := fun k => match k with
  | _ => .int
abbrev wsJ80 : List Cond := u_ws RJ8 TJ8 0
theorem nmJ8 : ∀ a, a < 0 → ∀ b, b < 0 → a ≠ b → (TJ8 a).2.1 ≠ (TJ8 b).2.1 := by decide +kernel
theorem tyJ8_ok : ∀ k, k < 0 → parseFieldDescriptor (TJ8 k).2.2.1 = some (tyJ8 k) := by decide +kernel
abbrev cJ8_newLength_cabcc : ByteArray := prog_26_method_27_code
def yJ8_newLength_cabcc : MethodName := ⟨RJ8, "newLength", "(III)I"⟩
abbrev cJ8_hugeLength_7cf53 : ByteArray := prog_26_method_28_code
def yJ8_hugeLength_7cf53 : MethodName := ⟨RJ8, "hugeLength", "(II)I"⟩
def RJ3 : String := "jdk/internal/util/Preconditions"
def TJ3 : u_T := fun k => match k with
  | _ => ("", "", "", false)
def tyJ3 : Nat → FieldType := fun k => match k with
  | _ => .int
abbrev wsJ30 : List Cond := u_ws RJ3 TJ3 0
theorem nmJ3 : ∀ a, a < 0 → ∀ b, b < 0 → a ≠ b → (TJ3 a).2.1 ≠ (TJ3 b).2.1 := by decide +kernel
theorem tyJ3_ok : ∀ k, k < 0 → parseFieldDescriptor (TJ3 k).2.2.1 = some (tyJ3 k) := by decide +kernel
abbrev cJ3_checkIndex_8e157 : ByteArray := prog_27_method_11_code
def yJ3_checkIndex_8e157 : MethodName := ⟨RJ3, "checkIndex", "(IILjava/util/function/BiFunction;)I"⟩
def RL : String := "TierHouseLaw"
abbrev cL_subject : ByteArray := method_3_code
def yL_subject : MethodName := ⟨RL, "subject", "(LTierHouse;II[J)I"⟩
abbrev cL_quota : ByteArray := method_4_code
def yL_quota : MethodName := ⟨RL, "quota", "(LTierHouse;II[J)I"⟩
abbrev cL_list : ByteArray := method_5_code
def yL_list : MethodName := ⟨RL, "list", "(LTierHouse;IIIZ[J)I"⟩
abbrev cL_flows : ByteArray := method_6_code
def yL_flows : MethodName := ⟨RL, "flows", "(LTierHouse;II[J)I"⟩
abbrev cL_make : ByteArray := method_7_code
def yL_make : MethodName := ⟨RL, "make", "(LTierHouse;IIII[J)I"⟩
abbrev cL_set : ByteArray := method_8_code
def yL_set : MethodName := ⟨RL, "set", "(LTierHouse;IIII[J)I"⟩
abbrev cL_give : ByteArray := method_9_code
def yL_give : MethodName := ⟨RL, "give", "(LTierHouse;IIII[J)I"⟩
abbrev cL_trim : ByteArray := method_10_code
def yL_trim : MethodName := ⟨RL, "trim", "(LTierHouse;III[J)I"⟩
abbrev cL_remove : ByteArray := method_11_code
def yL_remove : MethodName := ⟨RL, "remove", "(LTierHouse;II[J)I"⟩
abbrev cL_read : ByteArray := method_12_code
def yL_read : MethodName := ⟨RL, "read", "(LTierHouse;IIII[J)I"⟩
abbrev cL_size : ByteArray := method_13_code
def yL_size : MethodName := ⟨RL, "size", "(LTierHouse;III[J)I"⟩
abbrev cL_there : ByteArray := method_14_code
def yL_there : MethodName := ⟨RL, "there", "(LTierHouse;III[J)I"⟩
abbrev cL_listed : ByteArray := method_15_code
def yL_listed : MethodName := ⟨RL, "listed", "(LTierHouse;III[J)I"⟩
abbrev cL_release : ByteArray := method_16_code
def yL_release : MethodName := ⟨RL, "release", "(LTierHouse;IIII[J)I"⟩
abbrev cL_seen : ByteArray := method_17_code
def yL_seen : MethodName := ⟨RL, "seen", "(LTierHouse;II[J)I"⟩
abbrev cL_told : ByteArray := method_18_code
def yL_told : MethodName := ⟨RL, "told", "(LTierHouse;II[J)I"⟩
abbrev cL_law : ByteArray := code
def yL_law : MethodName := ⟨RL, "law", "([I)Z"⟩
def wsX0_init : List Cond := .code yX0_init cX0_init 4 none :: ([.methodLink RX0 3 objectInit, .instanceMethod objectInit, .code objectInit ⟨#[0xb1]⟩ 1 none, .arrayClass .int, .fieldLink RX0 9 "TierHouse$StoredFile" "cells" "[I", .fieldLink RX0 15 "TierHouse$StoredFile" "count" "I", .fieldLink RX0 19 "TierHouse$StoredFile" "giftCells" "I", .fieldLink RX0 22 "TierHouse$StoredFile" "address" "I", .fieldLink RX0 25 "TierHouse$StoredFile" "folder" "I", .fieldLink RX0 28 "TierHouse$StoredFile" "isGift" "Z"] ++ wsX00)
def wsJ6_bitCount_0f7a4 : List Cond := .code yJ6_bitCount_0f7a4 cJ6_bitCount_0f7a4 1 (some .int) :: ([.constant RJ6 265 (1431655765), .constant RJ6 266 (858993459), .constant RJ6 267 (252645135)])
def wsX0_use : List Cond := .code yX0_use cX0_use 1 (some .int) :: ([.fieldLink RX0 28 "TierHouse$StoredFile" "isGift" "Z", .fieldLink RX0 15 "TierHouse$StoredFile" "count" "I", .fieldLink RX0 19 "TierHouse$StoredFile" "giftCells" "I", .methodLink RX0 32 yJ6_bitCount_0f7a4, .static yJ6_bitCount_0f7a4, .initialized RJ6, .code yJ6_bitCount_0f7a4 cJ6_bitCount_0f7a4 1 (some .int), .constant RJ6 265 (1431655765), .constant RJ6 266 (858993459), .constant RJ6 267 (252645135)] ++ wsX00)
def wsX0_append : List Cond := .code yX0_append cX0_append 3 none :: ([.fieldLink RX0 15 "TierHouse$StoredFile" "count" "I", .fieldLink RX0 9 "TierHouse$StoredFile" "cells" "[I", .fieldLink RX0 19 "TierHouse$StoredFile" "giftCells" "I"] ++ wsX00)
def wsX0_cutTo : List Cond := .code yX0_cutTo cX0_cutTo 3 (some .int) :: ([.fieldLink RX0 15 "TierHouse$StoredFile" "count" "I", .fieldLink RX0 19 "TierHouse$StoredFile" "giftCells" "I"] ++ wsX00)
def wsX0_becomeCopyOf : List Cond := .code yX0_becomeCopyOf cX0_becomeCopyOf 2 none :: ([.fieldLink RX0 9 "TierHouse$StoredFile" "cells" "[I", .fieldLink RX0 15 "TierHouse$StoredFile" "count" "I", .methodLink RX0 38 arraycopyName, .native arraycopyName, .static arraycopyName, .initialized "java/lang/System", .fieldLink RX0 28 "TierHouse$StoredFile" "isGift" "Z", .fieldLink RX0 19 "TierHouse$StoredFile" "giftCells" "I"] ++ wsX00)
def wsJxa1e45_init_da8c8 : List Cond := .code yJxa1e45_init_da8c8 cJxa1e45_init_da8c8 1 none :: ([.methodLink RJxa1e45 1 objectInit, .instanceMethod objectInit, .code objectInit ⟨#[0xb1]⟩ 1 none])
def wsJxc12de_init_da8c8 : List Cond := .code yJxc12de_init_da8c8 cJxc12de_init_da8c8 1 none :: ([.fieldLink RJxc12de 7 "java/util/AbstractList" "modCount" "I", .methodLink RJxc12de 1 yJxa1e45_init_da8c8, .instanceMethod yJxa1e45_init_da8c8, .initialized RJxa1e45, .code yJxa1e45_init_da8c8 cJxa1e45_init_da8c8 1 none, .methodLink RJxa1e45 1 objectInit, .instanceMethod objectInit, .code objectInit ⟨#[0xb1]⟩ 1 none] ++ wsJx4a65c0)
def wsJx4a65c_init_da8c8 : List Cond := .code yJx4a65c_init_da8c8 cJx4a65c_init_da8c8 1 none :: ([.fieldLink RJx4a65c 39 "java/util/ArrayList" "DEFAULTCAPACITY_EMPTY_ELEMENTDATA" "[Ljava/lang/Object;", .fieldLink RJx4a65c 9 "java/util/ArrayList" "elementData" "[Ljava/lang/Object;", .methodLink RJx4a65c 1 yJxc12de_init_da8c8, .instanceMethod yJxc12de_init_da8c8, .initialized RJxc12de, .code yJxc12de_init_da8c8 cJxc12de_init_da8c8 1 none, .fieldLink RJxc12de 7 "java/util/AbstractList" "modCount" "I", .methodLink RJxc12de 1 yJxa1e45_init_da8c8, .instanceMethod yJxa1e45_init_da8c8, .initialized RJxa1e45, .code yJxa1e45_init_da8c8 cJxa1e45_init_da8c8 1 none, .methodLink RJxa1e45 1 objectInit, .instanceMethod objectInit, .code objectInit ⟨#[0xb1]⟩ 1 none] ++ wsJx4a65c0)
def wsJ7_fill_53178 : List Cond := .code yJ7_fill_53178 cJ7_fill_53178 4 none :: ([])
def wsX1_init_r1 : List Cond := [Cond.methodLink RX1 1 objectInit, Cond.instanceMethod objectInit, Cond.code objectInit ⟨#[0xb1]⟩ 1 none, Cond.arrayClass .int, Cond.fieldLink RX1 9 "TierHouse" "labelOf" "[I", Cond.fieldLink RX1 13 "TierHouse" "quotaOf" "[I", Cond.fieldLink RX1 16 "TierHouse" "spentBy" "[I", Cond.classLink RX1 19 RJx4a65c, Cond.instantiable RJx4a65c 3, Cond.initialized RJx4a65c, Cond.fieldLink RX1 22 "TierHouse" "files" "Ljava/util/ArrayList;", Cond.fieldLink RX1 26 "TierHouse" "listings" "[I", Cond.fieldLink RX1 29 "TierHouse" "listingCount" "I", Cond.classLink RX1 33 "[[I", Cond.fieldLink RX1 35 "TierHouse" "seenBy" "[[I", Cond.fieldLink RX1 38 "TierHouse" "seenCount" "[I", Cond.methodLink RX1 21 yJx4a65c_init_da8c8, Cond.instanceMethod yJx4a65c_init_da8c8, Cond.code yJx4a65c_init_da8c8 cJx4a65c_init_da8c8 1 none, Cond.fieldLink RJx4a65c 39 "java/util/ArrayList" "DEFAULTCAPACITY_EMPTY_ELEMENTDATA" "[Ljava/lang/Object;", Cond.fieldLink RJx4a65c 9 "java/util/ArrayList" "elementData" "[Ljava/lang/Object;", Cond.methodLink RJx4a65c 1 yJxc12de_init_da8c8, Cond.instanceMethod yJxc12de_init_da8c8, Cond.initialized RJxc12de]
def wsX1_init_r2 : List Cond := [Cond.code yJxc12de_init_da8c8 cJxc12de_init_da8c8 1 none, Cond.fieldLink RJxc12de 7 "java/util/AbstractList" "modCount" "I", Cond.methodLink RJxc12de 1 yJxa1e45_init_da8c8, Cond.instanceMethod yJxa1e45_init_da8c8, Cond.initialized RJxa1e45, Cond.code yJxa1e45_init_da8c8 cJxa1e45_init_da8c8 1 none, Cond.methodLink RJxa1e45 1 objectInit, Cond.methodLink RX1 41 yJ7_fill_53178, Cond.static yJ7_fill_53178, Cond.initialized RJ7, Cond.code yJ7_fill_53178 cJ7_fill_53178 4 none]
def wsX1_init : List Cond := .code yX1_init cX1_init 1 none :: ((wsX1_init_r1 ++ wsX1_init_r2) ++ wsX10 ++ wsJx4a65c0)
def wsX1_requireSubject : List Cond := .code yX1_requireSubject cX1_requireSubject 1 none :: ([.classLink RX1 58 "java/lang/IllegalArgumentException", .initialized "java/lang/IllegalArgumentException"] ++ (vx_atS RX1 62 "java/lang/IllegalArgumentException" ["java/lang/RuntimeException", "java/lang/Exception"]).filter goodWord)
def wsX1_requireLabel : List Cond := .code yX1_requireLabel cX1_requireLabel 1 none :: ([.classLink RX1 58 "java/lang/IllegalArgumentException", .initialized "java/lang/IllegalArgumentException"] ++ (vx_atS RX1 62 "java/lang/IllegalArgumentException" ["java/lang/RuntimeException", "java/lang/Exception"]).filter goodWord)
def wsX1_subject : List Cond := .code yX1_subject cX1_subject 3 (some .boolean) :: ([.fieldLink RX1 9 "TierHouse" "labelOf" "[I", .methodLink RX1 47 yX1_requireSubject, .static yX1_requireSubject, .initialized RX1, .code yX1_requireSubject cX1_requireSubject 1 none, .classLink RX1 58 "java/lang/IllegalArgumentException", .initialized "java/lang/IllegalArgumentException", .methodLink RX1 51 yX1_requireLabel, .static yX1_requireLabel, .code yX1_requireLabel cX1_requireLabel 1 none] ++ wsX10 ++ (vx_atS RX1 62 "java/lang/IllegalArgumentException" ["java/lang/RuntimeException", "java/lang/Exception"]).filter goodWord)
def wsX1_requireAtMost : List Cond := .code yX1_requireAtMost cX1_requireAtMost 2 none :: ([.classLink RX1 58 "java/lang/IllegalArgumentException", .initialized "java/lang/IllegalArgumentException"] ++ (vx_atS RX1 62 "java/lang/IllegalArgumentException" ["java/lang/RuntimeException", "java/lang/Exception"]).filter goodWord)
def wsX1_quota : List Cond := .code yX1_quota cX1_quota 4 (some .int) :: ([.fieldLink RX1 13 "TierHouse" "quotaOf" "[I", .methodLink RX1 51 yX1_requireLabel, .static yX1_requireLabel, .initialized RX1, .code yX1_requireLabel cX1_requireLabel 1 none, .classLink RX1 58 "java/lang/IllegalArgumentException", .initialized "java/lang/IllegalArgumentException", .methodLink RX1 54 yX1_requireAtMost, .static yX1_requireAtMost, .code yX1_requireAtMost cX1_requireAtMost 2 none] ++ wsX10 ++ (vx_atS RX1 62 "java/lang/IllegalArgumentException" ["java/lang/RuntimeException", "java/lang/Exception"]).filter goodWord)
def wsX1_listingOf : List Cond := .code yX1_listingOf cX1_listingOf 3 (some .int) :: ([])
def wsX1_isListed : List Cond := .code yX1_isListed cX1_isListed 3 (some .boolean) :: ([.fieldLink RX1 29 "TierHouse" "listingCount" "I", .fieldLink RX1 26 "TierHouse" "listings" "[I"] ++ wsX10)
def wsX1_addListing : List Cond := .code yX1_addListing cX1_addListing 2 none :: ([.fieldLink RX1 26 "TierHouse" "listings" "[I", .fieldLink RX1 29 "TierHouse" "listingCount" "I"] ++ wsX10)
def wsX1_dropListing : List Cond := .code yX1_dropListing cX1_dropListing 4 none :: ([.fieldLink RX1 29 "TierHouse" "listingCount" "I", .fieldLink RX1 26 "TierHouse" "listings" "[I"] ++ wsX10)
def wsX1_list_r1 : List Cond := [Cond.classLink RX1 58 "java/lang/IllegalArgumentException", Cond.initialized "java/lang/IllegalArgumentException", Cond.classLink RX1 73 "java/lang/UnsupportedOperationException", Cond.initialized "java/lang/UnsupportedOperationException", Cond.fieldLink RX1 29 "TierHouse" "listingCount" "I", Cond.methodLink RX1 47 yX1_requireSubject, Cond.static yX1_requireSubject, Cond.initialized RX1, Cond.code yX1_requireSubject cX1_requireSubject 1 none, Cond.methodLink RX1 51 yX1_requireLabel, Cond.static yX1_requireLabel, Cond.code yX1_requireLabel cX1_requireLabel 1 none, Cond.methodLink RX1 65 yX1_listingOf, Cond.static yX1_listingOf, Cond.code yX1_listingOf cX1_listingOf 3 (some .int), Cond.methodLink RX1 69 yX1_isListed, Cond.instanceMethod yX1_isListed, Cond.selects RX1 yX1_isListed yX1_isListed, Cond.code yX1_isListed cX1_isListed 3 (some .boolean), Cond.fieldLink RX1 26 "TierHouse" "listings" "[I", Cond.methodLink RX1 78 yX1_addListing, Cond.instanceMethod yX1_addListing, Cond.selects RX1 yX1_addListing yX1_addListing, Cond.code yX1_addListing cX1_addListing 2 none]
def wsX1_list_r2 : List Cond := [Cond.methodLink RX1 81 yX1_dropListing, Cond.instanceMethod yX1_dropListing, Cond.selects RX1 yX1_dropListing yX1_dropListing, Cond.code yX1_dropListing cX1_dropListing 4 none]
def wsX1_list : List Cond := .code yX1_list cX1_list 7 (some .boolean) :: ((wsX1_list_r1 ++ wsX1_list_r2) ++ wsX10 ++ (vx_atS RX1 62 "java/lang/IllegalArgumentException" ["java/lang/RuntimeException", "java/lang/Exception"]).filter goodWord ++ (vx_atS RX1 77 "java/lang/UnsupportedOperationException" ["java/lang/RuntimeException", "java/lang/Exception"]).filter goodWord)
def wsX1_secrecyOf : List Cond := .code yX1_secrecyOf cX1_secrecyOf 1 (some .int) :: ([])
def wsX1_secretsOf : List Cond := .code yX1_secretsOf cX1_secretsOf 1 (some .int) :: ([])
def wsX1_isWithin : List Cond := .code yX1_isWithin cX1_isWithin 2 (some .boolean) :: ([])
def wsX1_trustOf : List Cond := .code yX1_trustOf cX1_trustOf 1 (some .int) :: ([])
def wsX1_warrantsOf : List Cond := .code yX1_warrantsOf cX1_warrantsOf 1 (some .int) :: ([])
def wsX1_mayFlow : List Cond := .code yX1_mayFlow cX1_mayFlow 2 (some .boolean) :: ([.methodLink RX1 175 yX1_secrecyOf, .static yX1_secrecyOf, .initialized RX1, .code yX1_secrecyOf cX1_secrecyOf 1 (some .int), .methodLink RX1 178 yX1_secretsOf, .static yX1_secretsOf, .code yX1_secretsOf cX1_secretsOf 1 (some .int), .methodLink RX1 181 yX1_isWithin, .static yX1_isWithin, .code yX1_isWithin cX1_isWithin 2 (some .boolean), .methodLink RX1 184 yX1_trustOf, .static yX1_trustOf, .code yX1_trustOf cX1_trustOf 1 (some .int), .methodLink RX1 187 yX1_warrantsOf, .static yX1_warrantsOf, .code yX1_warrantsOf cX1_warrantsOf 1 (some .int)])
def wsX1_flows : List Cond := .code yX1_flows cX1_flows 3 (some .boolean) :: ([.methodLink RX1 51 yX1_requireLabel, .static yX1_requireLabel, .initialized RX1, .code yX1_requireLabel cX1_requireLabel 1 none, .classLink RX1 58 "java/lang/IllegalArgumentException", .initialized "java/lang/IllegalArgumentException", .methodLink RX1 84 yX1_mayFlow, .static yX1_mayFlow, .code yX1_mayFlow cX1_mayFlow 2 (some .boolean), .methodLink RX1 175 yX1_secrecyOf, .static yX1_secrecyOf, .code yX1_secrecyOf cX1_secrecyOf 1 (some .int), .methodLink RX1 178 yX1_secretsOf, .static yX1_secretsOf, .code yX1_secretsOf cX1_secretsOf 1 (some .int), .methodLink RX1 181 yX1_isWithin, .static yX1_isWithin, .code yX1_isWithin cX1_isWithin 2 (some .boolean), .methodLink RX1 184 yX1_trustOf, .static yX1_trustOf, .code yX1_trustOf cX1_trustOf 1 (some .int), .methodLink RX1 187 yX1_warrantsOf, .static yX1_warrantsOf, .code yX1_warrantsOf cX1_warrantsOf 1 (some .int)] ++ (vx_atS RX1 62 "java/lang/IllegalArgumentException" ["java/lang/RuntimeException", "java/lang/Exception"]).filter goodWord)
def wsX1_requireNumber : List Cond := .code yX1_requireNumber cX1_requireNumber 1 none :: ([.classLink RX1 58 "java/lang/IllegalArgumentException", .initialized "java/lang/IllegalArgumentException"] ++ (vx_atS RX1 62 "java/lang/IllegalArgumentException" ["java/lang/RuntimeException", "java/lang/Exception"]).filter goodWord)
def wsX1_requireFile : List Cond := .code yX1_requireFile cX1_requireFile 2 none :: ([.methodLink RX1 51 yX1_requireLabel, .static yX1_requireLabel, .initialized RX1, .code yX1_requireLabel cX1_requireLabel 1 none, .classLink RX1 58 "java/lang/IllegalArgumentException", .initialized "java/lang/IllegalArgumentException", .methodLink RX1 103 yX1_requireNumber, .static yX1_requireNumber, .code yX1_requireNumber cX1_requireNumber 1 none] ++ (vx_atS RX1 62 "java/lang/IllegalArgumentException" ["java/lang/RuntimeException", "java/lang/Exception"]).filter goodWord)
def wsX1_requireFolder : List Cond := .code yX1_requireFolder cX1_requireFolder 1 none :: ([.classLink RX1 58 "java/lang/IllegalArgumentException", .initialized "java/lang/IllegalArgumentException"] ++ (vx_atS RX1 62 "java/lang/IllegalArgumentException" ["java/lang/RuntimeException", "java/lang/Exception"]).filter goodWord)
def wsX1_labelOfAddress : List Cond := .code yX1_labelOfAddress cX1_labelOfAddress 1 (some .int) :: ([])
def wsX1_addressOf : List Cond := .code yX1_addressOf cX1_addressOf 2 (some .int) :: ([])
def wsJx4a65c_size_8abf5 : List Cond := .code yJx4a65c_size_8abf5 cJx4a65c_size_8abf5 1 (some .int) :: ([.fieldLink RJx4a65c 48 "java/util/ArrayList" "size" "I"] ++ wsJx4a65c0)
def wsJ3_checkIndex_8e157 : List Cond := .code yJ3_checkIndex_8e157 cJ3_checkIndex_8e157 3 (some .int) :: ([])
def wsJ15_checkIndex_7cf53 : List Cond := .code yJ15_checkIndex_7cf53 cJ15_checkIndex_7cf53 2 (some .int) :: ([.methodLink RJ15 105 yJ3_checkIndex_8e157, .static yJ3_checkIndex_8e157, .initialized RJ3, .code yJ3_checkIndex_8e157 cJ3_checkIndex_8e157 3 (some .int)])
def wsJx4a65c_elementData_915e3 : List Cond := .code yJx4a65c_elementData_915e3 cJx4a65c_elementData_915e3 2 (some (.object "java/lang/Object")) :: ([.fieldLink RJx4a65c 9 "java/util/ArrayList" "elementData" "[Ljava/lang/Object;"] ++ wsJx4a65c0)
def wsJx4a65c_get_915e3 : List Cond := .code yJx4a65c_get_915e3 cJx4a65c_get_915e3 2 (some (.object "java/lang/Object")) :: ([.fieldLink RJx4a65c 48 "java/util/ArrayList" "size" "I", .methodLink RJx4a65c 118 yJ15_checkIndex_7cf53, .static yJ15_checkIndex_7cf53, .initialized RJ15, .code yJ15_checkIndex_7cf53 cJ15_checkIndex_7cf53 2 (some .int), .methodLink RJ15 105 yJ3_checkIndex_8e157, .static yJ3_checkIndex_8e157, .initialized RJ3, .code yJ3_checkIndex_8e157 cJ3_checkIndex_8e157 3 (some .int), .methodLink RJx4a65c 123 yJx4a65c_elementData_915e3, .instanceMethod yJx4a65c_elementData_915e3, .selects RJx4a65c yJx4a65c_elementData_915e3 yJx4a65c_elementData_915e3, .initialized RJx4a65c, .code yJx4a65c_elementData_915e3 cJx4a65c_elementData_915e3 2 (some (.object "java/lang/Object")), .fieldLink RJx4a65c 9 "java/util/ArrayList" "elementData" "[Ljava/lang/Object;"] ++ wsJx4a65c0)
def wsX1_placeOf_r1 : List Cond := [Cond.fieldLink RX1 22 "TierHouse" "files" "Ljava/util/ArrayList;", Cond.classLink RX1 114 "TierHouse$StoredFile", Cond.fieldLink RX1 223 "TierHouse$StoredFile" "address" "I", Cond.methodLink RX1 217 yJx4a65c_size_8abf5, Cond.instanceMethod yJx4a65c_size_8abf5, Cond.selects RJx4a65c yJx4a65c_size_8abf5 yJx4a65c_size_8abf5, Cond.initialized RJx4a65c, Cond.code yJx4a65c_size_8abf5 cJx4a65c_size_8abf5 1 (some .int), Cond.fieldLink RJx4a65c 48 "java/util/ArrayList" "size" "I", Cond.methodLink RX1 220 yJx4a65c_get_915e3, Cond.instanceMethod yJx4a65c_get_915e3, Cond.selects RJx4a65c yJx4a65c_get_915e3 yJx4a65c_get_915e3, Cond.code yJx4a65c_get_915e3 cJx4a65c_get_915e3 2 (some (.object "java/lang/Object")), Cond.methodLink RJx4a65c 118 yJ15_checkIndex_7cf53, Cond.static yJ15_checkIndex_7cf53, Cond.initialized RJ15, Cond.code yJ15_checkIndex_7cf53 cJ15_checkIndex_7cf53 2 (some .int), Cond.methodLink RJ15 105 yJ3_checkIndex_8e157, Cond.static yJ3_checkIndex_8e157, Cond.initialized RJ3, Cond.code yJ3_checkIndex_8e157 cJ3_checkIndex_8e157 3 (some .int), Cond.methodLink RJx4a65c 123 yJx4a65c_elementData_915e3, Cond.instanceMethod yJx4a65c_elementData_915e3, Cond.selects RJx4a65c yJx4a65c_elementData_915e3 yJx4a65c_elementData_915e3]
def wsX1_placeOf_r2 : List Cond := [Cond.code yJx4a65c_elementData_915e3 cJx4a65c_elementData_915e3 2 (some (.object "java/lang/Object")), Cond.fieldLink RJx4a65c 9 "java/util/ArrayList" "elementData" "[Ljava/lang/Object;"]
def wsX1_placeOf : List Cond := .code yX1_placeOf cX1_placeOf 3 (some .int) :: ((wsX1_placeOf_r1 ++ wsX1_placeOf_r2) ++ wsX10 ++ wsX00 ++ wsJx4a65c0)
def wsX1_usedBy_r1 : List Cond := [Cond.fieldLink RX1 16 "TierHouse" "spentBy" "[I", Cond.fieldLink RX1 22 "TierHouse" "files" "Ljava/util/ArrayList;", Cond.classLink RX1 114 "TierHouse$StoredFile", Cond.fieldLink RX1 223 "TierHouse$StoredFile" "address" "I", Cond.methodLink RX1 217 yJx4a65c_size_8abf5, Cond.instanceMethod yJx4a65c_size_8abf5, Cond.selects RJx4a65c yJx4a65c_size_8abf5 yJx4a65c_size_8abf5, Cond.initialized RJx4a65c, Cond.code yJx4a65c_size_8abf5 cJx4a65c_size_8abf5 1 (some .int), Cond.fieldLink RJx4a65c 48 "java/util/ArrayList" "size" "I", Cond.methodLink RX1 220 yJx4a65c_get_915e3, Cond.instanceMethod yJx4a65c_get_915e3, Cond.selects RJx4a65c yJx4a65c_get_915e3 yJx4a65c_get_915e3, Cond.code yJx4a65c_get_915e3 cJx4a65c_get_915e3 2 (some (.object "java/lang/Object")), Cond.methodLink RJx4a65c 118 yJ15_checkIndex_7cf53, Cond.static yJ15_checkIndex_7cf53, Cond.initialized RJ15, Cond.code yJ15_checkIndex_7cf53 cJ15_checkIndex_7cf53 2 (some .int), Cond.methodLink RJ15 105 yJ3_checkIndex_8e157, Cond.static yJ3_checkIndex_8e157, Cond.initialized RJ3, Cond.code yJ3_checkIndex_8e157 cJ3_checkIndex_8e157 3 (some .int), Cond.methodLink RJx4a65c 123 yJx4a65c_elementData_915e3, Cond.instanceMethod yJx4a65c_elementData_915e3]
def wsX1_usedBy_r2 : List Cond := [Cond.selects RJx4a65c yJx4a65c_elementData_915e3 yJx4a65c_elementData_915e3, Cond.code yJx4a65c_elementData_915e3 cJx4a65c_elementData_915e3 2 (some (.object "java/lang/Object")), Cond.fieldLink RJx4a65c 9 "java/util/ArrayList" "elementData" "[Ljava/lang/Object;", Cond.methodLink RX1 190 yX1_labelOfAddress, Cond.static yX1_labelOfAddress, Cond.initialized RX1, Cond.code yX1_labelOfAddress cX1_labelOfAddress 1 (some .int), Cond.methodLink RX1 210 yX0_use, Cond.instanceMethod yX0_use, Cond.selects RX0 yX0_use yX0_use, Cond.initialized RX0, Cond.code yX0_use cX0_use 1 (some .int), Cond.fieldLink RX0 28 "TierHouse$StoredFile" "isGift" "Z", Cond.fieldLink RX0 15 "TierHouse$StoredFile" "count" "I", Cond.fieldLink RX0 19 "TierHouse$StoredFile" "giftCells" "I", Cond.methodLink RX0 32 yJ6_bitCount_0f7a4, Cond.static yJ6_bitCount_0f7a4, Cond.initialized RJ6, Cond.code yJ6_bitCount_0f7a4 cJ6_bitCount_0f7a4 1 (some .int), Cond.constant RJ6 265 (1431655765), Cond.constant RJ6 266 (858993459), Cond.constant RJ6 267 (252645135)]
def wsX1_usedBy : List Cond := .code yX1_usedBy cX1_usedBy 5 (some .int) :: ((wsX1_usedBy_r1 ++ wsX1_usedBy_r2) ++ wsX10 ++ wsX00 ++ wsJx4a65c0)
def wsX1_hasRoom_r1 : List Cond := [Cond.fieldLink RX1 13 "TierHouse" "quotaOf" "[I", Cond.methodLink RX1 155 yX1_usedBy, Cond.instanceMethod yX1_usedBy, Cond.selects RX1 yX1_usedBy yX1_usedBy, Cond.initialized RX1, Cond.code yX1_usedBy cX1_usedBy 5 (some .int), Cond.fieldLink RX1 16 "TierHouse" "spentBy" "[I", Cond.fieldLink RX1 22 "TierHouse" "files" "Ljava/util/ArrayList;", Cond.classLink RX1 114 "TierHouse$StoredFile", Cond.fieldLink RX1 223 "TierHouse$StoredFile" "address" "I", Cond.methodLink RX1 217 yJx4a65c_size_8abf5, Cond.instanceMethod yJx4a65c_size_8abf5, Cond.selects RJx4a65c yJx4a65c_size_8abf5 yJx4a65c_size_8abf5, Cond.initialized RJx4a65c, Cond.code yJx4a65c_size_8abf5 cJx4a65c_size_8abf5 1 (some .int), Cond.fieldLink RJx4a65c 48 "java/util/ArrayList" "size" "I", Cond.methodLink RX1 220 yJx4a65c_get_915e3, Cond.instanceMethod yJx4a65c_get_915e3, Cond.selects RJx4a65c yJx4a65c_get_915e3 yJx4a65c_get_915e3, Cond.code yJx4a65c_get_915e3 cJx4a65c_get_915e3 2 (some (.object "java/lang/Object")), Cond.methodLink RJx4a65c 118 yJ15_checkIndex_7cf53, Cond.static yJ15_checkIndex_7cf53, Cond.initialized RJ15, Cond.code yJ15_checkIndex_7cf53 cJ15_checkIndex_7cf53 2 (some .int)]
def wsX1_hasRoom_r2 : List Cond := [Cond.methodLink RJ15 105 yJ3_checkIndex_8e157, Cond.static yJ3_checkIndex_8e157, Cond.initialized RJ3, Cond.code yJ3_checkIndex_8e157 cJ3_checkIndex_8e157 3 (some .int), Cond.methodLink RJx4a65c 123 yJx4a65c_elementData_915e3, Cond.instanceMethod yJx4a65c_elementData_915e3, Cond.selects RJx4a65c yJx4a65c_elementData_915e3 yJx4a65c_elementData_915e3, Cond.code yJx4a65c_elementData_915e3 cJx4a65c_elementData_915e3 2 (some (.object "java/lang/Object")), Cond.fieldLink RJx4a65c 9 "java/util/ArrayList" "elementData" "[Ljava/lang/Object;", Cond.methodLink RX1 190 yX1_labelOfAddress, Cond.static yX1_labelOfAddress, Cond.code yX1_labelOfAddress cX1_labelOfAddress 1 (some .int), Cond.methodLink RX1 210 yX0_use, Cond.instanceMethod yX0_use, Cond.selects RX0 yX0_use yX0_use, Cond.initialized RX0, Cond.code yX0_use cX0_use 1 (some .int), Cond.fieldLink RX0 28 "TierHouse$StoredFile" "isGift" "Z", Cond.fieldLink RX0 15 "TierHouse$StoredFile" "count" "I", Cond.fieldLink RX0 19 "TierHouse$StoredFile" "giftCells" "I", Cond.methodLink RX0 32 yJ6_bitCount_0f7a4, Cond.static yJ6_bitCount_0f7a4, Cond.initialized RJ6, Cond.code yJ6_bitCount_0f7a4 cJ6_bitCount_0f7a4 1 (some .int)]
def wsX1_hasRoom_r3 : List Cond := [Cond.constant RJ6 265 (1431655765), Cond.constant RJ6 266 (858993459), Cond.constant RJ6 267 (252645135)]
def wsX1_hasRoom : List Cond := .code yX1_hasRoom cX1_hasRoom 3 (some .boolean) :: ((wsX1_hasRoom_r1 ++ (wsX1_hasRoom_r2 ++ wsX1_hasRoom_r3)) ++ wsX10 ++ wsX00 ++ wsJx4a65c0)
def wsX1_isFull : List Cond := .code yX1_isFull cX1_isFull 1 (some .boolean) :: ([.fieldLink RX1 22 "TierHouse" "files" "Ljava/util/ArrayList;", .methodLink RX1 217 yJx4a65c_size_8abf5, .instanceMethod yJx4a65c_size_8abf5, .selects RJx4a65c yJx4a65c_size_8abf5 yJx4a65c_size_8abf5, .initialized RJx4a65c, .code yJx4a65c_size_8abf5 cJx4a65c_size_8abf5 1 (some .int), .fieldLink RJx4a65c 48 "java/util/ArrayList" "size" "I"] ++ wsX10 ++ wsJx4a65c0)
def wsJx4a65c_rangeCheckForAdd_d00df : List Cond := .code yJx4a65c_rangeCheckForAdd_d00df cJx4a65c_rangeCheckForAdd_d00df 2 none :: ([.fieldLink RJx4a65c 48 "java/util/ArrayList" "size" "I"] ++ wsJx4a65c0)
def wsJ8_hugeLength_7cf53 : List Cond := .code yJ8_hugeLength_7cf53 cJ8_hugeLength_7cf53 3 (some .int) :: ([.constant RJ8 200 (2147483639)])
def wsJ8_newLength_cabcc : List Cond := .code yJ8_newLength_cabcc cJ8_newLength_cabcc 4 (some .int) :: ([.methodLink RJ8 194 Lib.Math.max.name, .static Lib.Math.max.name, .initialized "java/lang/Math", .code Lib.Math.max.name Lib.Math.max.code 2 (some .int), .constant RJ8 200 (2147483639), .methodLink RJ8 201 yJ8_hugeLength_7cf53, .static yJ8_hugeLength_7cf53, .initialized RJ8, .code yJ8_hugeLength_7cf53 cJ8_hugeLength_7cf53 3 (some .int)])
def wsJ7_copyOf_6403c : List Cond := .code yJ7_copyOf_6403c cJ7_copyOf_6403c 4 (some (.array (.object "java/lang/Object"))) :: ([.classLink RJ7 110 "[Ljava/lang/Object;", .classLink RJ7 2 "java/lang/Object", .methodLink RJ7 304 Lib.Math.min.name, .static Lib.Math.min.name, .initialized "java/lang/Math", .code Lib.Math.min.name Lib.Math.min.code 2 (some .int), .methodLink RJ7 150 arraycopyName, .native arraycopyName, .static arraycopyName, .initialized "java/lang/System"])
def wsJ7_copyOf_1904c : List Cond := .code yJ7_copyOf_1904c cJ7_copyOf_1904c 2 (some (.array (.object "java/lang/Object"))) :: ([.methodLink RJ7 86 ⟨"java/lang/Object", "getClass", "()Ljava/lang/Class;"⟩, .selects "[Ljava/lang/Object;" ⟨"java/lang/Object", "getClass", "()Ljava/lang/Class;"⟩ ⟨"java/lang/Object", "getClass", "()Ljava/lang/Class;"⟩, .instanceMethod ⟨"java/lang/Object", "getClass", "()Ljava/lang/Class;"⟩, .native ⟨"java/lang/Object", "getClass", "()Ljava/lang/Class;"⟩, .methodLink RJ7 300 yJ7_copyOf_6403c, .static yJ7_copyOf_6403c, .initialized RJ7, .code yJ7_copyOf_6403c cJ7_copyOf_6403c 4 (some (.array (.object "java/lang/Object"))), .classLink RJ7 110 "[Ljava/lang/Object;", .classLink RJ7 2 "java/lang/Object", .methodLink RJ7 304 Lib.Math.min.name, .static Lib.Math.min.name, .initialized "java/lang/Math", .code Lib.Math.min.name Lib.Math.min.code 2 (some .int), .methodLink RJ7 150 arraycopyName, .native arraycopyName, .static arraycopyName, .initialized "java/lang/System"])
def wsJx4a65c_grow_92f84_r1 : List Cond := [Cond.fieldLink RJx4a65c 9 "java/util/ArrayList" "elementData" "[Ljava/lang/Object;", Cond.fieldLink RJx4a65c 39 "java/util/ArrayList" "DEFAULTCAPACITY_EMPTY_ELEMENTDATA" "[Ljava/lang/Object;", Cond.methodLink RJx4a65c 79 Lib.Math.max.name, Cond.static Lib.Math.max.name, Cond.initialized "java/lang/Math", Cond.code Lib.Math.max.name Lib.Math.max.code 2 (some .int), Cond.classLink RJx4a65c 7 "java/lang/Object", Cond.methodLink RJx4a65c 73 yJ8_newLength_cabcc, Cond.static yJ8_newLength_cabcc, Cond.initialized RJ8, Cond.code yJ8_newLength_cabcc cJ8_newLength_cabcc 4 (some .int), Cond.methodLink RJ8 194 Lib.Math.max.name, Cond.constant RJ8 200 (2147483639), Cond.methodLink RJ8 201 yJ8_hugeLength_7cf53, Cond.static yJ8_hugeLength_7cf53, Cond.code yJ8_hugeLength_7cf53 cJ8_hugeLength_7cf53 3 (some .int), Cond.methodLink RJx4a65c 66 yJ7_copyOf_1904c, Cond.static yJ7_copyOf_1904c, Cond.initialized RJ7, Cond.code yJ7_copyOf_1904c cJ7_copyOf_1904c 2 (some (.array (.object "java/lang/Object"))), Cond.methodLink RJ7 86 ⟨"java/lang/Object", "getClass", "()Ljava/lang/Class;"⟩, Cond.selects "[Ljava/lang/Object;" ⟨"java/lang/Object", "getClass", "()Ljava/lang/Class;"⟩ ⟨"java/lang/Object", "getClass", "()Ljava/lang/Class;"⟩, Cond.instanceMethod ⟨"java/lang/Object", "getClass", "()Ljava/lang/Class;"⟩, Cond.native ⟨"java/lang/Object", "getClass", "()Ljava/lang/Class;"⟩]
def wsJx4a65c_grow_92f84_r2 : List Cond := [Cond.methodLink RJ7 300 yJ7_copyOf_6403c, Cond.static yJ7_copyOf_6403c, Cond.code yJ7_copyOf_6403c cJ7_copyOf_6403c 4 (some (.array (.object "java/lang/Object"))), Cond.classLink RJ7 110 "[Ljava/lang/Object;", Cond.classLink RJ7 2 "java/lang/Object", Cond.methodLink RJ7 304 Lib.Math.min.name, Cond.static Lib.Math.min.name, Cond.code Lib.Math.min.name Lib.Math.min.code 2 (some .int), Cond.methodLink RJ7 150 arraycopyName, Cond.native arraycopyName, Cond.static arraycopyName, Cond.initialized "java/lang/System"]
def wsJx4a65c_grow_92f84 : List Cond := .code yJx4a65c_grow_92f84 cJx4a65c_grow_92f84 4 (some (.array (.object "java/lang/Object"))) :: ((wsJx4a65c_grow_92f84_r1 ++ wsJx4a65c_grow_92f84_r2) ++ wsJx4a65c0)
def wsJx4a65c_grow_d5877_r1 : List Cond := [Cond.fieldLink RJx4a65c 48 "java/util/ArrayList" "size" "I", Cond.methodLink RJx4a65c 69 yJx4a65c_grow_92f84, Cond.instanceMethod yJx4a65c_grow_92f84, Cond.selects RJx4a65c yJx4a65c_grow_92f84 yJx4a65c_grow_92f84, Cond.initialized RJx4a65c, Cond.code yJx4a65c_grow_92f84 cJx4a65c_grow_92f84 4 (some (.array (.object "java/lang/Object"))), Cond.fieldLink RJx4a65c 9 "java/util/ArrayList" "elementData" "[Ljava/lang/Object;", Cond.fieldLink RJx4a65c 39 "java/util/ArrayList" "DEFAULTCAPACITY_EMPTY_ELEMENTDATA" "[Ljava/lang/Object;", Cond.methodLink RJx4a65c 79 Lib.Math.max.name, Cond.static Lib.Math.max.name, Cond.initialized "java/lang/Math", Cond.code Lib.Math.max.name Lib.Math.max.code 2 (some .int), Cond.classLink RJx4a65c 7 "java/lang/Object", Cond.methodLink RJx4a65c 73 yJ8_newLength_cabcc, Cond.static yJ8_newLength_cabcc, Cond.initialized RJ8, Cond.code yJ8_newLength_cabcc cJ8_newLength_cabcc 4 (some .int), Cond.methodLink RJ8 194 Lib.Math.max.name, Cond.constant RJ8 200 (2147483639), Cond.methodLink RJ8 201 yJ8_hugeLength_7cf53, Cond.static yJ8_hugeLength_7cf53, Cond.code yJ8_hugeLength_7cf53 cJ8_hugeLength_7cf53 3 (some .int), Cond.methodLink RJx4a65c 66 yJ7_copyOf_1904c, Cond.static yJ7_copyOf_1904c]
def wsJx4a65c_grow_d5877_r2 : List Cond := [Cond.initialized RJ7, Cond.code yJ7_copyOf_1904c cJ7_copyOf_1904c 2 (some (.array (.object "java/lang/Object"))), Cond.methodLink RJ7 86 ⟨"java/lang/Object", "getClass", "()Ljava/lang/Class;"⟩, Cond.selects "[Ljava/lang/Object;" ⟨"java/lang/Object", "getClass", "()Ljava/lang/Class;"⟩ ⟨"java/lang/Object", "getClass", "()Ljava/lang/Class;"⟩, Cond.instanceMethod ⟨"java/lang/Object", "getClass", "()Ljava/lang/Class;"⟩, Cond.native ⟨"java/lang/Object", "getClass", "()Ljava/lang/Class;"⟩, Cond.methodLink RJ7 300 yJ7_copyOf_6403c, Cond.static yJ7_copyOf_6403c, Cond.code yJ7_copyOf_6403c cJ7_copyOf_6403c 4 (some (.array (.object "java/lang/Object"))), Cond.classLink RJ7 110 "[Ljava/lang/Object;", Cond.classLink RJ7 2 "java/lang/Object", Cond.methodLink RJ7 304 Lib.Math.min.name, Cond.static Lib.Math.min.name, Cond.code Lib.Math.min.name Lib.Math.min.code 2 (some .int), Cond.methodLink RJ7 150 arraycopyName, Cond.native arraycopyName, Cond.static arraycopyName, Cond.initialized "java/lang/System"]
def wsJx4a65c_grow_d5877 : List Cond := .code yJx4a65c_grow_d5877 cJx4a65c_grow_d5877 1 (some (.array (.object "java/lang/Object"))) :: ((wsJx4a65c_grow_d5877_r1 ++ wsJx4a65c_grow_d5877_r2) ++ wsJx4a65c0)
def wsJx4a65c_add_7a177_r1 : List Cond := [Cond.fieldLink RJx4a65c 63 "java/util/ArrayList" "modCount" "I", Cond.sameField "java/util/ArrayList" "java/util/AbstractList" "modCount" "I", Cond.fieldLink RJx4a65c 48 "java/util/ArrayList" "size" "I", Cond.fieldLink RJx4a65c 9 "java/util/ArrayList" "elementData" "[Ljava/lang/Object;", Cond.methodLink RJx4a65c 112 arraycopyName, Cond.native arraycopyName, Cond.static arraycopyName, Cond.initialized "java/lang/System", Cond.methodLink RJx4a65c 135 yJx4a65c_rangeCheckForAdd_d00df, Cond.instanceMethod yJx4a65c_rangeCheckForAdd_d00df, Cond.selects RJx4a65c yJx4a65c_rangeCheckForAdd_d00df yJx4a65c_rangeCheckForAdd_d00df, Cond.initialized RJx4a65c, Cond.code yJx4a65c_rangeCheckForAdd_d00df cJx4a65c_rangeCheckForAdd_d00df 2 none, Cond.methodLink RJx4a65c 129 yJx4a65c_grow_d5877, Cond.instanceMethod yJx4a65c_grow_d5877, Cond.selects RJx4a65c yJx4a65c_grow_d5877 yJx4a65c_grow_d5877, Cond.code yJx4a65c_grow_d5877 cJx4a65c_grow_d5877 1 (some (.array (.object "java/lang/Object"))), Cond.methodLink RJx4a65c 69 yJx4a65c_grow_92f84, Cond.instanceMethod yJx4a65c_grow_92f84, Cond.selects RJx4a65c yJx4a65c_grow_92f84 yJx4a65c_grow_92f84, Cond.code yJx4a65c_grow_92f84 cJx4a65c_grow_92f84 4 (some (.array (.object "java/lang/Object"))), Cond.fieldLink RJx4a65c 39 "java/util/ArrayList" "DEFAULTCAPACITY_EMPTY_ELEMENTDATA" "[Ljava/lang/Object;", Cond.methodLink RJx4a65c 79 Lib.Math.max.name, Cond.static Lib.Math.max.name]
def wsJx4a65c_add_7a177_r2 : List Cond := [Cond.initialized "java/lang/Math", Cond.code Lib.Math.max.name Lib.Math.max.code 2 (some .int), Cond.classLink RJx4a65c 7 "java/lang/Object", Cond.methodLink RJx4a65c 73 yJ8_newLength_cabcc, Cond.static yJ8_newLength_cabcc, Cond.initialized RJ8, Cond.code yJ8_newLength_cabcc cJ8_newLength_cabcc 4 (some .int), Cond.methodLink RJ8 194 Lib.Math.max.name, Cond.constant RJ8 200 (2147483639), Cond.methodLink RJ8 201 yJ8_hugeLength_7cf53, Cond.static yJ8_hugeLength_7cf53, Cond.code yJ8_hugeLength_7cf53 cJ8_hugeLength_7cf53 3 (some .int), Cond.methodLink RJx4a65c 66 yJ7_copyOf_1904c, Cond.static yJ7_copyOf_1904c, Cond.initialized RJ7, Cond.code yJ7_copyOf_1904c cJ7_copyOf_1904c 2 (some (.array (.object "java/lang/Object"))), Cond.methodLink RJ7 86 ⟨"java/lang/Object", "getClass", "()Ljava/lang/Class;"⟩, Cond.selects "[Ljava/lang/Object;" ⟨"java/lang/Object", "getClass", "()Ljava/lang/Class;"⟩ ⟨"java/lang/Object", "getClass", "()Ljava/lang/Class;"⟩, Cond.instanceMethod ⟨"java/lang/Object", "getClass", "()Ljava/lang/Class;"⟩, Cond.native ⟨"java/lang/Object", "getClass", "()Ljava/lang/Class;"⟩, Cond.methodLink RJ7 300 yJ7_copyOf_6403c, Cond.static yJ7_copyOf_6403c, Cond.code yJ7_copyOf_6403c cJ7_copyOf_6403c 4 (some (.array (.object "java/lang/Object"))), Cond.classLink RJ7 110 "[Ljava/lang/Object;"]
def wsJx4a65c_add_7a177_r3 : List Cond := [Cond.classLink RJ7 2 "java/lang/Object", Cond.methodLink RJ7 304 Lib.Math.min.name, Cond.static Lib.Math.min.name, Cond.code Lib.Math.min.name Lib.Math.min.code 2 (some .int), Cond.methodLink RJ7 150 arraycopyName]
def wsJx4a65c_add_7a177 : List Cond := .code yJx4a65c_add_7a177 cJx4a65c_add_7a177 5 none :: ((wsJx4a65c_add_7a177_r1 ++ (wsJx4a65c_add_7a177_r2 ++ wsJx4a65c_add_7a177_r3)) ++ wsJx4a65c0)
def wsX1_store_r1 : List Cond := [Cond.fieldLink RX1 22 "TierHouse" "files" "Ljava/util/ArrayList;", Cond.classLink RX1 114 "TierHouse$StoredFile", Cond.fieldLink RX1 223 "TierHouse$StoredFile" "address" "I", Cond.methodLink RX1 217 yJx4a65c_size_8abf5, Cond.instanceMethod yJx4a65c_size_8abf5, Cond.selects RJx4a65c yJx4a65c_size_8abf5 yJx4a65c_size_8abf5, Cond.initialized RJx4a65c, Cond.code yJx4a65c_size_8abf5 cJx4a65c_size_8abf5 1 (some .int), Cond.fieldLink RJx4a65c 48 "java/util/ArrayList" "size" "I", Cond.methodLink RX1 220 yJx4a65c_get_915e3, Cond.instanceMethod yJx4a65c_get_915e3, Cond.selects RJx4a65c yJx4a65c_get_915e3 yJx4a65c_get_915e3, Cond.code yJx4a65c_get_915e3 cJx4a65c_get_915e3 2 (some (.object "java/lang/Object")), Cond.methodLink RJx4a65c 118 yJ15_checkIndex_7cf53, Cond.static yJ15_checkIndex_7cf53, Cond.initialized RJ15, Cond.code yJ15_checkIndex_7cf53 cJ15_checkIndex_7cf53 2 (some .int), Cond.methodLink RJ15 105 yJ3_checkIndex_8e157, Cond.static yJ3_checkIndex_8e157, Cond.initialized RJ3, Cond.code yJ3_checkIndex_8e157 cJ3_checkIndex_8e157 3 (some .int), Cond.methodLink RJx4a65c 123 yJx4a65c_elementData_915e3, Cond.instanceMethod yJx4a65c_elementData_915e3, Cond.selects RJx4a65c yJx4a65c_elementData_915e3 yJx4a65c_elementData_915e3]
def wsX1_store_r2 : List Cond := [Cond.code yJx4a65c_elementData_915e3 cJx4a65c_elementData_915e3 2 (some (.object "java/lang/Object")), Cond.fieldLink RJx4a65c 9 "java/util/ArrayList" "elementData" "[Ljava/lang/Object;", Cond.methodLink RX1 226 yJx4a65c_add_7a177, Cond.instanceMethod yJx4a65c_add_7a177, Cond.selects RJx4a65c yJx4a65c_add_7a177 yJx4a65c_add_7a177, Cond.code yJx4a65c_add_7a177 cJx4a65c_add_7a177 5 none, Cond.fieldLink RJx4a65c 63 "java/util/ArrayList" "modCount" "I", Cond.sameField "java/util/ArrayList" "java/util/AbstractList" "modCount" "I", Cond.methodLink RJx4a65c 112 arraycopyName, Cond.native arraycopyName, Cond.static arraycopyName, Cond.initialized "java/lang/System", Cond.methodLink RJx4a65c 135 yJx4a65c_rangeCheckForAdd_d00df, Cond.instanceMethod yJx4a65c_rangeCheckForAdd_d00df, Cond.selects RJx4a65c yJx4a65c_rangeCheckForAdd_d00df yJx4a65c_rangeCheckForAdd_d00df, Cond.code yJx4a65c_rangeCheckForAdd_d00df cJx4a65c_rangeCheckForAdd_d00df 2 none, Cond.methodLink RJx4a65c 129 yJx4a65c_grow_d5877, Cond.instanceMethod yJx4a65c_grow_d5877, Cond.selects RJx4a65c yJx4a65c_grow_d5877 yJx4a65c_grow_d5877, Cond.code yJx4a65c_grow_d5877 cJx4a65c_grow_d5877 1 (some (.array (.object "java/lang/Object"))), Cond.methodLink RJx4a65c 69 yJx4a65c_grow_92f84, Cond.instanceMethod yJx4a65c_grow_92f84, Cond.selects RJx4a65c yJx4a65c_grow_92f84 yJx4a65c_grow_92f84, Cond.code yJx4a65c_grow_92f84 cJx4a65c_grow_92f84 4 (some (.array (.object "java/lang/Object")))]
def wsX1_store_r3 : List Cond := [Cond.fieldLink RJx4a65c 39 "java/util/ArrayList" "DEFAULTCAPACITY_EMPTY_ELEMENTDATA" "[Ljava/lang/Object;", Cond.methodLink RJx4a65c 79 Lib.Math.max.name, Cond.static Lib.Math.max.name, Cond.initialized "java/lang/Math", Cond.code Lib.Math.max.name Lib.Math.max.code 2 (some .int), Cond.classLink RJx4a65c 7 "java/lang/Object", Cond.methodLink RJx4a65c 73 yJ8_newLength_cabcc, Cond.static yJ8_newLength_cabcc, Cond.initialized RJ8, Cond.code yJ8_newLength_cabcc cJ8_newLength_cabcc 4 (some .int), Cond.methodLink RJ8 194 Lib.Math.max.name, Cond.constant RJ8 200 (2147483639), Cond.methodLink RJ8 201 yJ8_hugeLength_7cf53, Cond.static yJ8_hugeLength_7cf53, Cond.code yJ8_hugeLength_7cf53 cJ8_hugeLength_7cf53 3 (some .int), Cond.methodLink RJx4a65c 66 yJ7_copyOf_1904c, Cond.static yJ7_copyOf_1904c, Cond.initialized RJ7, Cond.code yJ7_copyOf_1904c cJ7_copyOf_1904c 2 (some (.array (.object "java/lang/Object"))), Cond.methodLink RJ7 86 ⟨"java/lang/Object", "getClass", "()Ljava/lang/Class;"⟩, Cond.selects "[Ljava/lang/Object;" ⟨"java/lang/Object", "getClass", "()Ljava/lang/Class;"⟩ ⟨"java/lang/Object", "getClass", "()Ljava/lang/Class;"⟩, Cond.instanceMethod ⟨"java/lang/Object", "getClass", "()Ljava/lang/Class;"⟩, Cond.native ⟨"java/lang/Object", "getClass", "()Ljava/lang/Class;"⟩, Cond.methodLink RJ7 300 yJ7_copyOf_6403c]
def wsX1_store_r4 : List Cond := [Cond.static yJ7_copyOf_6403c, Cond.code yJ7_copyOf_6403c cJ7_copyOf_6403c 4 (some (.array (.object "java/lang/Object"))), Cond.classLink RJ7 110 "[Ljava/lang/Object;", Cond.classLink RJ7 2 "java/lang/Object", Cond.methodLink RJ7 304 Lib.Math.min.name, Cond.static Lib.Math.min.name, Cond.code Lib.Math.min.name Lib.Math.min.code 2 (some .int), Cond.methodLink RJ7 150 arraycopyName]
def wsX1_store : List Cond := .code yX1_store cX1_store 3 none :: ((wsX1_store_r1 ++ (wsX1_store_r2 ++ (wsX1_store_r3 ++ wsX1_store_r4))) ++ wsX10 ++ wsX00 ++ wsJx4a65c0)
def wsX1_makeOwn_r1 : List Cond := [Cond.classLink RX1 114 RX0, Cond.instantiable RX0 6, Cond.initialized RX0, Cond.methodLink RX1 136 yX1_placeOf, Cond.instanceMethod yX1_placeOf, Cond.selects RX1 yX1_placeOf yX1_placeOf, Cond.initialized RX1, Cond.code yX1_placeOf cX1_placeOf 3 (some .int), Cond.fieldLink RX1 22 "TierHouse" "files" "Ljava/util/ArrayList;", Cond.classLink RX1 114 "TierHouse$StoredFile", Cond.fieldLink RX1 223 "TierHouse$StoredFile" "address" "I", Cond.methodLink RX1 217 yJx4a65c_size_8abf5, Cond.instanceMethod yJx4a65c_size_8abf5, Cond.selects RJx4a65c yJx4a65c_size_8abf5 yJx4a65c_size_8abf5, Cond.initialized RJx4a65c, Cond.code yJx4a65c_size_8abf5 cJx4a65c_size_8abf5 1 (some .int), Cond.fieldLink RJx4a65c 48 "java/util/ArrayList" "size" "I", Cond.methodLink RX1 220 yJx4a65c_get_915e3, Cond.instanceMethod yJx4a65c_get_915e3, Cond.selects RJx4a65c yJx4a65c_get_915e3 yJx4a65c_get_915e3, Cond.code yJx4a65c_get_915e3 cJx4a65c_get_915e3 2 (some (.object "java/lang/Object")), Cond.methodLink RJx4a65c 118 yJ15_checkIndex_7cf53, Cond.static yJ15_checkIndex_7cf53, Cond.initialized RJ15]
def wsX1_makeOwn_r2 : List Cond := [Cond.code yJ15_checkIndex_7cf53 cJ15_checkIndex_7cf53 2 (some .int), Cond.methodLink RJ15 105 yJ3_checkIndex_8e157, Cond.static yJ3_checkIndex_8e157, Cond.initialized RJ3, Cond.code yJ3_checkIndex_8e157 cJ3_checkIndex_8e157 3 (some .int), Cond.methodLink RJx4a65c 123 yJx4a65c_elementData_915e3, Cond.instanceMethod yJx4a65c_elementData_915e3, Cond.selects RJx4a65c yJx4a65c_elementData_915e3 yJx4a65c_elementData_915e3, Cond.code yJx4a65c_elementData_915e3 cJx4a65c_elementData_915e3 2 (some (.object "java/lang/Object")), Cond.fieldLink RJx4a65c 9 "java/util/ArrayList" "elementData" "[Ljava/lang/Object;", Cond.methodLink RX1 121 yX1_hasRoom, Cond.instanceMethod yX1_hasRoom, Cond.selects RX1 yX1_hasRoom yX1_hasRoom, Cond.code yX1_hasRoom cX1_hasRoom 3 (some .boolean), Cond.fieldLink RX1 13 "TierHouse" "quotaOf" "[I", Cond.methodLink RX1 155 yX1_usedBy, Cond.instanceMethod yX1_usedBy, Cond.selects RX1 yX1_usedBy yX1_usedBy, Cond.code yX1_usedBy cX1_usedBy 5 (some .int), Cond.fieldLink RX1 16 "TierHouse" "spentBy" "[I", Cond.methodLink RX1 190 yX1_labelOfAddress, Cond.static yX1_labelOfAddress, Cond.code yX1_labelOfAddress cX1_labelOfAddress 1 (some .int), Cond.methodLink RX1 210 yX0_use]
def wsX1_makeOwn_r3 : List Cond := [Cond.instanceMethod yX0_use, Cond.selects RX0 yX0_use yX0_use, Cond.code yX0_use cX0_use 1 (some .int), Cond.fieldLink RX0 28 "TierHouse$StoredFile" "isGift" "Z", Cond.fieldLink RX0 15 "TierHouse$StoredFile" "count" "I", Cond.fieldLink RX0 19 "TierHouse$StoredFile" "giftCells" "I", Cond.methodLink RX0 32 yJ6_bitCount_0f7a4, Cond.static yJ6_bitCount_0f7a4, Cond.initialized RJ6, Cond.code yJ6_bitCount_0f7a4 cJ6_bitCount_0f7a4 1 (some .int), Cond.constant RJ6 265 (1431655765), Cond.constant RJ6 266 (858993459), Cond.constant RJ6 267 (252645135), Cond.methodLink RX1 199 yX1_isFull, Cond.instanceMethod yX1_isFull, Cond.selects RX1 yX1_isFull yX1_isFull, Cond.code yX1_isFull cX1_isFull 1 (some .boolean), Cond.methodLink RX1 203 yX0_init, Cond.instanceMethod yX0_init, Cond.code yX0_init cX0_init 4 none, Cond.methodLink RX0 3 objectInit, Cond.instanceMethod objectInit, Cond.code objectInit ⟨#[0xb1]⟩ 1 none, Cond.arrayClass .int]
def wsX1_makeOwn_r4 : List Cond := [Cond.fieldLink RX0 9 "TierHouse$StoredFile" "cells" "[I", Cond.fieldLink RX0 22 "TierHouse$StoredFile" "address" "I", Cond.fieldLink RX0 25 "TierHouse$StoredFile" "folder" "I", Cond.methodLink RX1 206 yX1_store, Cond.instanceMethod yX1_store, Cond.selects RX1 yX1_store yX1_store, Cond.code yX1_store cX1_store 3 none, Cond.methodLink RX1 226 yJx4a65c_add_7a177, Cond.instanceMethod yJx4a65c_add_7a177, Cond.selects RJx4a65c yJx4a65c_add_7a177 yJx4a65c_add_7a177, Cond.code yJx4a65c_add_7a177 cJx4a65c_add_7a177 5 none, Cond.fieldLink RJx4a65c 63 "java/util/ArrayList" "modCount" "I", Cond.sameField "java/util/ArrayList" "java/util/AbstractList" "modCount" "I", Cond.methodLink RJx4a65c 112 arraycopyName, Cond.native arraycopyName, Cond.static arraycopyName, Cond.initialized "java/lang/System", Cond.methodLink RJx4a65c 135 yJx4a65c_rangeCheckForAdd_d00df, Cond.instanceMethod yJx4a65c_rangeCheckForAdd_d00df, Cond.selects RJx4a65c yJx4a65c_rangeCheckForAdd_d00df yJx4a65c_rangeCheckForAdd_d00df, Cond.code yJx4a65c_rangeCheckForAdd_d00df cJx4a65c_rangeCheckForAdd_d00df 2 none, Cond.methodLink RJx4a65c 129 yJx4a65c_grow_d5877, Cond.instanceMethod yJx4a65c_grow_d5877, Cond.selects RJx4a65c yJx4a65c_grow_d5877 yJx4a65c_grow_d5877]
def wsX1_makeOwn_r5 : List Cond := [Cond.code yJx4a65c_grow_d5877 cJx4a65c_grow_d5877 1 (some (.array (.object "java/lang/Object"))), Cond.methodLink RJx4a65c 69 yJx4a65c_grow_92f84, Cond.instanceMethod yJx4a65c_grow_92f84, Cond.selects RJx4a65c yJx4a65c_grow_92f84 yJx4a65c_grow_92f84, Cond.code yJx4a65c_grow_92f84 cJx4a65c_grow_92f84 4 (some (.array (.object "java/lang/Object"))), Cond.fieldLink RJx4a65c 39 "java/util/ArrayList" "DEFAULTCAPACITY_EMPTY_ELEMENTDATA" "[Ljava/lang/Object;", Cond.methodLink RJx4a65c 79 Lib.Math.max.name, Cond.static Lib.Math.max.name, Cond.initialized "java/lang/Math", Cond.code Lib.Math.max.name Lib.Math.max.code 2 (some .int), Cond.classLink RJx4a65c 7 "java/lang/Object", Cond.methodLink RJx4a65c 73 yJ8_newLength_cabcc, Cond.static yJ8_newLength_cabcc, Cond.initialized RJ8, Cond.code yJ8_newLength_cabcc cJ8_newLength_cabcc 4 (some .int), Cond.methodLink RJ8 194 Lib.Math.max.name, Cond.constant RJ8 200 (2147483639), Cond.methodLink RJ8 201 yJ8_hugeLength_7cf53, Cond.static yJ8_hugeLength_7cf53, Cond.code yJ8_hugeLength_7cf53 cJ8_hugeLength_7cf53 3 (some .int), Cond.methodLink RJx4a65c 66 yJ7_copyOf_1904c, Cond.static yJ7_copyOf_1904c, Cond.initialized RJ7, Cond.code yJ7_copyOf_1904c cJ7_copyOf_1904c 2 (some (.array (.object "java/lang/Object")))]
def wsX1_makeOwn_r6 : List Cond := [Cond.methodLink RJ7 86 ⟨"java/lang/Object", "getClass", "()Ljava/lang/Class;"⟩, Cond.selects "[Ljava/lang/Object;" ⟨"java/lang/Object", "getClass", "()Ljava/lang/Class;"⟩ ⟨"java/lang/Object", "getClass", "()Ljava/lang/Class;"⟩, Cond.instanceMethod ⟨"java/lang/Object", "getClass", "()Ljava/lang/Class;"⟩, Cond.native ⟨"java/lang/Object", "getClass", "()Ljava/lang/Class;"⟩, Cond.methodLink RJ7 300 yJ7_copyOf_6403c, Cond.static yJ7_copyOf_6403c, Cond.code yJ7_copyOf_6403c cJ7_copyOf_6403c 4 (some (.array (.object "java/lang/Object"))), Cond.classLink RJ7 110 "[Ljava/lang/Object;", Cond.classLink RJ7 2 "java/lang/Object", Cond.methodLink RJ7 304 Lib.Math.min.name, Cond.static Lib.Math.min.name, Cond.code Lib.Math.min.name Lib.Math.min.code 2 (some .int), Cond.methodLink RJ7 150 arraycopyName]
def wsX1_makeOwn : List Cond := .code yX1_makeOwn cX1_makeOwn 4 (some .int) :: ((wsX1_makeOwn_r1 ++ (wsX1_makeOwn_r2 ++ (wsX1_makeOwn_r3 ++ (wsX1_makeOwn_r4 ++ (wsX1_makeOwn_r5 ++ wsX1_makeOwn_r6))))) ++ wsX00 ++ wsX10 ++ wsJx4a65c0)
def wsX1_makeAbove_r1 : List Cond := [Cond.classLink RX1 114 RX0, Cond.instantiable RX0 6, Cond.initialized RX0, Cond.fieldLink RX1 16 "TierHouse" "spentBy" "[I", Cond.methodLink RX1 121 yX1_hasRoom, Cond.instanceMethod yX1_hasRoom, Cond.selects RX1 yX1_hasRoom yX1_hasRoom, Cond.initialized RX1, Cond.code yX1_hasRoom cX1_hasRoom 3 (some .boolean), Cond.fieldLink RX1 13 "TierHouse" "quotaOf" "[I", Cond.methodLink RX1 155 yX1_usedBy, Cond.instanceMethod yX1_usedBy, Cond.selects RX1 yX1_usedBy yX1_usedBy, Cond.code yX1_usedBy cX1_usedBy 5 (some .int), Cond.fieldLink RX1 22 "TierHouse" "files" "Ljava/util/ArrayList;", Cond.classLink RX1 114 "TierHouse$StoredFile", Cond.fieldLink RX1 223 "TierHouse$StoredFile" "address" "I", Cond.methodLink RX1 217 yJx4a65c_size_8abf5, Cond.instanceMethod yJx4a65c_size_8abf5, Cond.selects RJx4a65c yJx4a65c_size_8abf5 yJx4a65c_size_8abf5, Cond.initialized RJx4a65c, Cond.code yJx4a65c_size_8abf5 cJx4a65c_size_8abf5 1 (some .int), Cond.fieldLink RJx4a65c 48 "java/util/ArrayList" "size" "I", Cond.methodLink RX1 220 yJx4a65c_get_915e3]
def wsX1_makeAbove_r2 : List Cond := [Cond.instanceMethod yJx4a65c_get_915e3, Cond.selects RJx4a65c yJx4a65c_get_915e3 yJx4a65c_get_915e3, Cond.code yJx4a65c_get_915e3 cJx4a65c_get_915e3 2 (some (.object "java/lang/Object")), Cond.methodLink RJx4a65c 118 yJ15_checkIndex_7cf53, Cond.static yJ15_checkIndex_7cf53, Cond.initialized RJ15, Cond.code yJ15_checkIndex_7cf53 cJ15_checkIndex_7cf53 2 (some .int), Cond.methodLink RJ15 105 yJ3_checkIndex_8e157, Cond.static yJ3_checkIndex_8e157, Cond.initialized RJ3, Cond.code yJ3_checkIndex_8e157 cJ3_checkIndex_8e157 3 (some .int), Cond.methodLink RJx4a65c 123 yJx4a65c_elementData_915e3, Cond.instanceMethod yJx4a65c_elementData_915e3, Cond.selects RJx4a65c yJx4a65c_elementData_915e3 yJx4a65c_elementData_915e3, Cond.code yJx4a65c_elementData_915e3 cJx4a65c_elementData_915e3 2 (some (.object "java/lang/Object")), Cond.fieldLink RJx4a65c 9 "java/util/ArrayList" "elementData" "[Ljava/lang/Object;", Cond.methodLink RX1 190 yX1_labelOfAddress, Cond.static yX1_labelOfAddress, Cond.code yX1_labelOfAddress cX1_labelOfAddress 1 (some .int), Cond.methodLink RX1 210 yX0_use, Cond.instanceMethod yX0_use, Cond.selects RX0 yX0_use yX0_use, Cond.code yX0_use cX0_use 1 (some .int), Cond.fieldLink RX0 28 "TierHouse$StoredFile" "isGift" "Z"]
def wsX1_makeAbove_r3 : List Cond := [Cond.fieldLink RX0 15 "TierHouse$StoredFile" "count" "I", Cond.fieldLink RX0 19 "TierHouse$StoredFile" "giftCells" "I", Cond.methodLink RX0 32 yJ6_bitCount_0f7a4, Cond.static yJ6_bitCount_0f7a4, Cond.initialized RJ6, Cond.code yJ6_bitCount_0f7a4 cJ6_bitCount_0f7a4 1 (some .int), Cond.constant RJ6 265 (1431655765), Cond.constant RJ6 266 (858993459), Cond.constant RJ6 267 (252645135), Cond.methodLink RX1 136 yX1_placeOf, Cond.instanceMethod yX1_placeOf, Cond.selects RX1 yX1_placeOf yX1_placeOf, Cond.code yX1_placeOf cX1_placeOf 3 (some .int), Cond.methodLink RX1 199 yX1_isFull, Cond.instanceMethod yX1_isFull, Cond.selects RX1 yX1_isFull yX1_isFull, Cond.code yX1_isFull cX1_isFull 1 (some .boolean), Cond.methodLink RX1 203 yX0_init, Cond.instanceMethod yX0_init, Cond.code yX0_init cX0_init 4 none, Cond.methodLink RX0 3 objectInit, Cond.instanceMethod objectInit, Cond.code objectInit ⟨#[0xb1]⟩ 1 none, Cond.arrayClass .int]
def wsX1_makeAbove_r4 : List Cond := [Cond.fieldLink RX0 9 "TierHouse$StoredFile" "cells" "[I", Cond.fieldLink RX0 22 "TierHouse$StoredFile" "address" "I", Cond.fieldLink RX0 25 "TierHouse$StoredFile" "folder" "I", Cond.methodLink RX1 206 yX1_store, Cond.instanceMethod yX1_store, Cond.selects RX1 yX1_store yX1_store, Cond.code yX1_store cX1_store 3 none, Cond.methodLink RX1 226 yJx4a65c_add_7a177, Cond.instanceMethod yJx4a65c_add_7a177, Cond.selects RJx4a65c yJx4a65c_add_7a177 yJx4a65c_add_7a177, Cond.code yJx4a65c_add_7a177 cJx4a65c_add_7a177 5 none, Cond.fieldLink RJx4a65c 63 "java/util/ArrayList" "modCount" "I", Cond.sameField "java/util/ArrayList" "java/util/AbstractList" "modCount" "I", Cond.methodLink RJx4a65c 112 arraycopyName, Cond.native arraycopyName, Cond.static arraycopyName, Cond.initialized "java/lang/System", Cond.methodLink RJx4a65c 135 yJx4a65c_rangeCheckForAdd_d00df, Cond.instanceMethod yJx4a65c_rangeCheckForAdd_d00df, Cond.selects RJx4a65c yJx4a65c_rangeCheckForAdd_d00df yJx4a65c_rangeCheckForAdd_d00df, Cond.code yJx4a65c_rangeCheckForAdd_d00df cJx4a65c_rangeCheckForAdd_d00df 2 none, Cond.methodLink RJx4a65c 129 yJx4a65c_grow_d5877, Cond.instanceMethod yJx4a65c_grow_d5877, Cond.selects RJx4a65c yJx4a65c_grow_d5877 yJx4a65c_grow_d5877]
def wsX1_makeAbove_r5 : List Cond := [Cond.code yJx4a65c_grow_d5877 cJx4a65c_grow_d5877 1 (some (.array (.object "java/lang/Object"))), Cond.methodLink RJx4a65c 69 yJx4a65c_grow_92f84, Cond.instanceMethod yJx4a65c_grow_92f84, Cond.selects RJx4a65c yJx4a65c_grow_92f84 yJx4a65c_grow_92f84, Cond.code yJx4a65c_grow_92f84 cJx4a65c_grow_92f84 4 (some (.array (.object "java/lang/Object"))), Cond.fieldLink RJx4a65c 39 "java/util/ArrayList" "DEFAULTCAPACITY_EMPTY_ELEMENTDATA" "[Ljava/lang/Object;", Cond.methodLink RJx4a65c 79 Lib.Math.max.name, Cond.static Lib.Math.max.name, Cond.initialized "java/lang/Math", Cond.code Lib.Math.max.name Lib.Math.max.code 2 (some .int), Cond.classLink RJx4a65c 7 "java/lang/Object", Cond.methodLink RJx4a65c 73 yJ8_newLength_cabcc, Cond.static yJ8_newLength_cabcc, Cond.initialized RJ8, Cond.code yJ8_newLength_cabcc cJ8_newLength_cabcc 4 (some .int), Cond.methodLink RJ8 194 Lib.Math.max.name, Cond.constant RJ8 200 (2147483639), Cond.methodLink RJ8 201 yJ8_hugeLength_7cf53, Cond.static yJ8_hugeLength_7cf53, Cond.code yJ8_hugeLength_7cf53 cJ8_hugeLength_7cf53 3 (some .int), Cond.methodLink RJx4a65c 66 yJ7_copyOf_1904c, Cond.static yJ7_copyOf_1904c, Cond.initialized RJ7, Cond.code yJ7_copyOf_1904c cJ7_copyOf_1904c 2 (some (.array (.object "java/lang/Object")))]
def wsX1_makeAbove_r6 : List Cond := [Cond.methodLink RJ7 86 ⟨"java/lang/Object", "getClass", "()Ljava/lang/Class;"⟩, Cond.selects "[Ljava/lang/Object;" ⟨"java/lang/Object", "getClass", "()Ljava/lang/Class;"⟩ ⟨"java/lang/Object", "getClass", "()Ljava/lang/Class;"⟩, Cond.instanceMethod ⟨"java/lang/Object", "getClass", "()Ljava/lang/Class;"⟩, Cond.native ⟨"java/lang/Object", "getClass", "()Ljava/lang/Class;"⟩, Cond.methodLink RJ7 300 yJ7_copyOf_6403c, Cond.static yJ7_copyOf_6403c, Cond.code yJ7_copyOf_6403c cJ7_copyOf_6403c 4 (some (.array (.object "java/lang/Object"))), Cond.classLink RJ7 110 "[Ljava/lang/Object;", Cond.classLink RJ7 2 "java/lang/Object", Cond.methodLink RJ7 304 Lib.Math.min.name, Cond.static Lib.Math.min.name, Cond.code Lib.Math.min.name Lib.Math.min.code 2 (some .int), Cond.methodLink RJ7 150 arraycopyName]
def wsX1_makeAbove : List Cond := .code yX1_makeAbove cX1_makeAbove 4 (some .int) :: ((wsX1_makeAbove_r1 ++ (wsX1_makeAbove_r2 ++ (wsX1_makeAbove_r3 ++ (wsX1_makeAbove_r4 ++ (wsX1_makeAbove_r5 ++ wsX1_makeAbove_r6))))) ++ wsX00 ++ wsX10 ++ wsJx4a65c0)
def wsX1_answerMake_r1 : List Cond := [Cond.fieldLink RX1 9 "TierHouse" "labelOf" "[I", Cond.methodLink RX1 190 yX1_labelOfAddress, Cond.static yX1_labelOfAddress, Cond.initialized RX1, Cond.code yX1_labelOfAddress cX1_labelOfAddress 1 (some .int), Cond.methodLink RX1 84 yX1_mayFlow, Cond.static yX1_mayFlow, Cond.code yX1_mayFlow cX1_mayFlow 2 (some .boolean), Cond.methodLink RX1 175 yX1_secrecyOf, Cond.static yX1_secrecyOf, Cond.code yX1_secrecyOf cX1_secrecyOf 1 (some .int), Cond.methodLink RX1 178 yX1_secretsOf, Cond.static yX1_secretsOf, Cond.code yX1_secretsOf cX1_secretsOf 1 (some .int), Cond.methodLink RX1 181 yX1_isWithin, Cond.static yX1_isWithin, Cond.code yX1_isWithin cX1_isWithin 2 (some .boolean), Cond.methodLink RX1 184 yX1_trustOf, Cond.static yX1_trustOf, Cond.code yX1_trustOf cX1_trustOf 1 (some .int), Cond.methodLink RX1 187 yX1_warrantsOf, Cond.static yX1_warrantsOf, Cond.code yX1_warrantsOf cX1_warrantsOf 1 (some .int), Cond.methodLink RX1 132 yX1_addressOf]
def wsX1_answerMake_r2 : List Cond := [Cond.static yX1_addressOf, Cond.code yX1_addressOf cX1_addressOf 2 (some .int), Cond.methodLink RX1 193 yX1_makeOwn, Cond.instanceMethod yX1_makeOwn, Cond.selects RX1 yX1_makeOwn yX1_makeOwn, Cond.code yX1_makeOwn cX1_makeOwn 4 (some .int), Cond.classLink RX1 114 RX0, Cond.instantiable RX0 6, Cond.initialized RX0, Cond.methodLink RX1 136 yX1_placeOf, Cond.instanceMethod yX1_placeOf, Cond.selects RX1 yX1_placeOf yX1_placeOf, Cond.code yX1_placeOf cX1_placeOf 3 (some .int), Cond.fieldLink RX1 22 "TierHouse" "files" "Ljava/util/ArrayList;", Cond.classLink RX1 114 "TierHouse$StoredFile", Cond.fieldLink RX1 223 "TierHouse$StoredFile" "address" "I", Cond.methodLink RX1 217 yJx4a65c_size_8abf5, Cond.instanceMethod yJx4a65c_size_8abf5, Cond.selects RJx4a65c yJx4a65c_size_8abf5 yJx4a65c_size_8abf5, Cond.initialized RJx4a65c, Cond.code yJx4a65c_size_8abf5 cJx4a65c_size_8abf5 1 (some .int), Cond.fieldLink RJx4a65c 48 "java/util/ArrayList" "size" "I", Cond.methodLink RX1 220 yJx4a65c_get_915e3, Cond.instanceMethod yJx4a65c_get_915e3]
def wsX1_answerMake_r3 : List Cond := [Cond.selects RJx4a65c yJx4a65c_get_915e3 yJx4a65c_get_915e3, Cond.code yJx4a65c_get_915e3 cJx4a65c_get_915e3 2 (some (.object "java/lang/Object")), Cond.methodLink RJx4a65c 118 yJ15_checkIndex_7cf53, Cond.static yJ15_checkIndex_7cf53, Cond.initialized RJ15, Cond.code yJ15_checkIndex_7cf53 cJ15_checkIndex_7cf53 2 (some .int), Cond.methodLink RJ15 105 yJ3_checkIndex_8e157, Cond.static yJ3_checkIndex_8e157, Cond.initialized RJ3, Cond.code yJ3_checkIndex_8e157 cJ3_checkIndex_8e157 3 (some .int), Cond.methodLink RJx4a65c 123 yJx4a65c_elementData_915e3, Cond.instanceMethod yJx4a65c_elementData_915e3, Cond.selects RJx4a65c yJx4a65c_elementData_915e3 yJx4a65c_elementData_915e3, Cond.code yJx4a65c_elementData_915e3 cJx4a65c_elementData_915e3 2 (some (.object "java/lang/Object")), Cond.fieldLink RJx4a65c 9 "java/util/ArrayList" "elementData" "[Ljava/lang/Object;", Cond.methodLink RX1 121 yX1_hasRoom, Cond.instanceMethod yX1_hasRoom, Cond.selects RX1 yX1_hasRoom yX1_hasRoom, Cond.code yX1_hasRoom cX1_hasRoom 3 (some .boolean), Cond.fieldLink RX1 13 "TierHouse" "quotaOf" "[I", Cond.methodLink RX1 155 yX1_usedBy, Cond.instanceMethod yX1_usedBy, Cond.selects RX1 yX1_usedBy yX1_usedBy, Cond.code yX1_usedBy cX1_usedBy 5 (some .int)]
def wsX1_answerMake_r4 : List Cond := [Cond.fieldLink RX1 16 "TierHouse" "spentBy" "[I", Cond.methodLink RX1 210 yX0_use, Cond.instanceMethod yX0_use, Cond.selects RX0 yX0_use yX0_use, Cond.code yX0_use cX0_use 1 (some .int), Cond.fieldLink RX0 28 "TierHouse$StoredFile" "isGift" "Z", Cond.fieldLink RX0 15 "TierHouse$StoredFile" "count" "I", Cond.fieldLink RX0 19 "TierHouse$StoredFile" "giftCells" "I", Cond.methodLink RX0 32 yJ6_bitCount_0f7a4, Cond.static yJ6_bitCount_0f7a4, Cond.initialized RJ6, Cond.code yJ6_bitCount_0f7a4 cJ6_bitCount_0f7a4 1 (some .int), Cond.constant RJ6 265 (1431655765), Cond.constant RJ6 266 (858993459), Cond.constant RJ6 267 (252645135), Cond.methodLink RX1 199 yX1_isFull, Cond.instanceMethod yX1_isFull, Cond.selects RX1 yX1_isFull yX1_isFull, Cond.code yX1_isFull cX1_isFull 1 (some .boolean), Cond.methodLink RX1 203 yX0_init, Cond.instanceMethod yX0_init, Cond.code yX0_init cX0_init 4 none, Cond.methodLink RX0 3 objectInit, Cond.instanceMethod objectInit]
def wsX1_answerMake_r5 : List Cond := [Cond.code objectInit ⟨#[0xb1]⟩ 1 none, Cond.arrayClass .int, Cond.fieldLink RX0 9 "TierHouse$StoredFile" "cells" "[I", Cond.fieldLink RX0 22 "TierHouse$StoredFile" "address" "I", Cond.fieldLink RX0 25 "TierHouse$StoredFile" "folder" "I", Cond.methodLink RX1 206 yX1_store, Cond.instanceMethod yX1_store, Cond.selects RX1 yX1_store yX1_store, Cond.code yX1_store cX1_store 3 none, Cond.methodLink RX1 226 yJx4a65c_add_7a177, Cond.instanceMethod yJx4a65c_add_7a177, Cond.selects RJx4a65c yJx4a65c_add_7a177 yJx4a65c_add_7a177, Cond.code yJx4a65c_add_7a177 cJx4a65c_add_7a177 5 none, Cond.fieldLink RJx4a65c 63 "java/util/ArrayList" "modCount" "I", Cond.sameField "java/util/ArrayList" "java/util/AbstractList" "modCount" "I", Cond.methodLink RJx4a65c 112 arraycopyName, Cond.native arraycopyName, Cond.static arraycopyName, Cond.initialized "java/lang/System", Cond.methodLink RJx4a65c 135 yJx4a65c_rangeCheckForAdd_d00df, Cond.instanceMethod yJx4a65c_rangeCheckForAdd_d00df, Cond.selects RJx4a65c yJx4a65c_rangeCheckForAdd_d00df yJx4a65c_rangeCheckForAdd_d00df, Cond.code yJx4a65c_rangeCheckForAdd_d00df cJx4a65c_rangeCheckForAdd_d00df 2 none, Cond.methodLink RJx4a65c 129 yJx4a65c_grow_d5877]
def wsX1_answerMake_r6 : List Cond := [Cond.instanceMethod yJx4a65c_grow_d5877, Cond.selects RJx4a65c yJx4a65c_grow_d5877 yJx4a65c_grow_d5877, Cond.code yJx4a65c_grow_d5877 cJx4a65c_grow_d5877 1 (some (.array (.object "java/lang/Object"))), Cond.methodLink RJx4a65c 69 yJx4a65c_grow_92f84, Cond.instanceMethod yJx4a65c_grow_92f84, Cond.selects RJx4a65c yJx4a65c_grow_92f84 yJx4a65c_grow_92f84, Cond.code yJx4a65c_grow_92f84 cJx4a65c_grow_92f84 4 (some (.array (.object "java/lang/Object"))), Cond.fieldLink RJx4a65c 39 "java/util/ArrayList" "DEFAULTCAPACITY_EMPTY_ELEMENTDATA" "[Ljava/lang/Object;", Cond.methodLink RJx4a65c 79 Lib.Math.max.name, Cond.static Lib.Math.max.name, Cond.initialized "java/lang/Math", Cond.code Lib.Math.max.name Lib.Math.max.code 2 (some .int), Cond.classLink RJx4a65c 7 "java/lang/Object", Cond.methodLink RJx4a65c 73 yJ8_newLength_cabcc, Cond.static yJ8_newLength_cabcc, Cond.initialized RJ8, Cond.code yJ8_newLength_cabcc cJ8_newLength_cabcc 4 (some .int), Cond.methodLink RJ8 194 Lib.Math.max.name, Cond.constant RJ8 200 (2147483639), Cond.methodLink RJ8 201 yJ8_hugeLength_7cf53, Cond.static yJ8_hugeLength_7cf53, Cond.code yJ8_hugeLength_7cf53 cJ8_hugeLength_7cf53 3 (some .int), Cond.methodLink RJx4a65c 66 yJ7_copyOf_1904c, Cond.static yJ7_copyOf_1904c]
def wsX1_answerMake_r7 : List Cond := [Cond.initialized RJ7, Cond.code yJ7_copyOf_1904c cJ7_copyOf_1904c 2 (some (.array (.object "java/lang/Object"))), Cond.methodLink RJ7 86 ⟨"java/lang/Object", "getClass", "()Ljava/lang/Class;"⟩, Cond.selects "[Ljava/lang/Object;" ⟨"java/lang/Object", "getClass", "()Ljava/lang/Class;"⟩ ⟨"java/lang/Object", "getClass", "()Ljava/lang/Class;"⟩, Cond.instanceMethod ⟨"java/lang/Object", "getClass", "()Ljava/lang/Class;"⟩, Cond.native ⟨"java/lang/Object", "getClass", "()Ljava/lang/Class;"⟩, Cond.methodLink RJ7 300 yJ7_copyOf_6403c, Cond.static yJ7_copyOf_6403c, Cond.code yJ7_copyOf_6403c cJ7_copyOf_6403c 4 (some (.array (.object "java/lang/Object"))), Cond.classLink RJ7 110 "[Ljava/lang/Object;", Cond.classLink RJ7 2 "java/lang/Object", Cond.methodLink RJ7 304 Lib.Math.min.name, Cond.static Lib.Math.min.name, Cond.code Lib.Math.min.name Lib.Math.min.code 2 (some .int), Cond.methodLink RJ7 150 arraycopyName, Cond.methodLink RX1 196 yX1_makeAbove, Cond.instanceMethod yX1_makeAbove, Cond.selects RX1 yX1_makeAbove yX1_makeAbove, Cond.code yX1_makeAbove cX1_makeAbove 4 (some .int)]
def wsX1_answerMake : List Cond := .code yX1_answerMake cX1_answerMake 8 (some .int) :: ((wsX1_answerMake_r1 ++ (wsX1_answerMake_r2 ++ (wsX1_answerMake_r3 ++ (wsX1_answerMake_r4 ++ (wsX1_answerMake_r5 ++ (wsX1_answerMake_r6 ++ wsX1_answerMake_r7)))))) ++ wsX10 ++ wsX00 ++ wsJx4a65c0)
def wsX1_forgetSeen : List Cond := .code yX1_forgetSeen cX1_forgetSeen 2 none :: ([.fieldLink RX1 38 "TierHouse" "seenCount" "[I"] ++ wsX10)
def wsX1_make_r1 : List Cond := [Cond.classLink RX1 73 "java/lang/UnsupportedOperationException", Cond.initialized "java/lang/UnsupportedOperationException", Cond.methodLink RX1 47 yX1_requireSubject, Cond.static yX1_requireSubject, Cond.initialized RX1, Cond.code yX1_requireSubject cX1_requireSubject 1 none, Cond.classLink RX1 58 "java/lang/IllegalArgumentException", Cond.initialized "java/lang/IllegalArgumentException", Cond.methodLink RX1 88 yX1_requireFile, Cond.static yX1_requireFile, Cond.code yX1_requireFile cX1_requireFile 2 none, Cond.methodLink RX1 51 yX1_requireLabel, Cond.static yX1_requireLabel, Cond.code yX1_requireLabel cX1_requireLabel 1 none, Cond.methodLink RX1 103 yX1_requireNumber, Cond.static yX1_requireNumber, Cond.code yX1_requireNumber cX1_requireNumber 1 none, Cond.methodLink RX1 91 yX1_requireFolder, Cond.static yX1_requireFolder, Cond.code yX1_requireFolder cX1_requireFolder 1 none, Cond.methodLink RX1 94 yX1_answerMake, Cond.instanceMethod yX1_answerMake, Cond.selects RX1 yX1_answerMake yX1_answerMake, Cond.code yX1_answerMake cX1_answerMake 8 (some .int)]
def wsX1_make_r2 : List Cond := [Cond.fieldLink RX1 9 "TierHouse" "labelOf" "[I", Cond.methodLink RX1 190 yX1_labelOfAddress, Cond.static yX1_labelOfAddress, Cond.code yX1_labelOfAddress cX1_labelOfAddress 1 (some .int), Cond.methodLink RX1 84 yX1_mayFlow, Cond.static yX1_mayFlow, Cond.code yX1_mayFlow cX1_mayFlow 2 (some .boolean), Cond.methodLink RX1 175 yX1_secrecyOf, Cond.static yX1_secrecyOf, Cond.code yX1_secrecyOf cX1_secrecyOf 1 (some .int), Cond.methodLink RX1 178 yX1_secretsOf, Cond.static yX1_secretsOf, Cond.code yX1_secretsOf cX1_secretsOf 1 (some .int), Cond.methodLink RX1 181 yX1_isWithin, Cond.static yX1_isWithin, Cond.code yX1_isWithin cX1_isWithin 2 (some .boolean), Cond.methodLink RX1 184 yX1_trustOf, Cond.static yX1_trustOf, Cond.code yX1_trustOf cX1_trustOf 1 (some .int), Cond.methodLink RX1 187 yX1_warrantsOf, Cond.static yX1_warrantsOf, Cond.code yX1_warrantsOf cX1_warrantsOf 1 (some .int), Cond.methodLink RX1 132 yX1_addressOf, Cond.static yX1_addressOf]
def wsX1_make_r3 : List Cond := [Cond.code yX1_addressOf cX1_addressOf 2 (some .int), Cond.methodLink RX1 193 yX1_makeOwn, Cond.instanceMethod yX1_makeOwn, Cond.selects RX1 yX1_makeOwn yX1_makeOwn, Cond.code yX1_makeOwn cX1_makeOwn 4 (some .int), Cond.classLink RX1 114 RX0, Cond.instantiable RX0 6, Cond.initialized RX0, Cond.methodLink RX1 136 yX1_placeOf, Cond.instanceMethod yX1_placeOf, Cond.selects RX1 yX1_placeOf yX1_placeOf, Cond.code yX1_placeOf cX1_placeOf 3 (some .int), Cond.fieldLink RX1 22 "TierHouse" "files" "Ljava/util/ArrayList;", Cond.classLink RX1 114 "TierHouse$StoredFile", Cond.fieldLink RX1 223 "TierHouse$StoredFile" "address" "I", Cond.methodLink RX1 217 yJx4a65c_size_8abf5, Cond.instanceMethod yJx4a65c_size_8abf5, Cond.selects RJx4a65c yJx4a65c_size_8abf5 yJx4a65c_size_8abf5, Cond.initialized RJx4a65c, Cond.code yJx4a65c_size_8abf5 cJx4a65c_size_8abf5 1 (some .int), Cond.fieldLink RJx4a65c 48 "java/util/ArrayList" "size" "I", Cond.methodLink RX1 220 yJx4a65c_get_915e3, Cond.instanceMethod yJx4a65c_get_915e3, Cond.selects RJx4a65c yJx4a65c_get_915e3 yJx4a65c_get_915e3]
def wsX1_make_r4 : List Cond := [Cond.code yJx4a65c_get_915e3 cJx4a65c_get_915e3 2 (some (.object "java/lang/Object")), Cond.methodLink RJx4a65c 118 yJ15_checkIndex_7cf53, Cond.static yJ15_checkIndex_7cf53, Cond.initialized RJ15, Cond.code yJ15_checkIndex_7cf53 cJ15_checkIndex_7cf53 2 (some .int), Cond.methodLink RJ15 105 yJ3_checkIndex_8e157, Cond.static yJ3_checkIndex_8e157, Cond.initialized RJ3, Cond.code yJ3_checkIndex_8e157 cJ3_checkIndex_8e157 3 (some .int), Cond.methodLink RJx4a65c 123 yJx4a65c_elementData_915e3, Cond.instanceMethod yJx4a65c_elementData_915e3, Cond.selects RJx4a65c yJx4a65c_elementData_915e3 yJx4a65c_elementData_915e3, Cond.code yJx4a65c_elementData_915e3 cJx4a65c_elementData_915e3 2 (some (.object "java/lang/Object")), Cond.fieldLink RJx4a65c 9 "java/util/ArrayList" "elementData" "[Ljava/lang/Object;", Cond.methodLink RX1 121 yX1_hasRoom, Cond.instanceMethod yX1_hasRoom, Cond.selects RX1 yX1_hasRoom yX1_hasRoom, Cond.code yX1_hasRoom cX1_hasRoom 3 (some .boolean), Cond.fieldLink RX1 13 "TierHouse" "quotaOf" "[I", Cond.methodLink RX1 155 yX1_usedBy, Cond.instanceMethod yX1_usedBy, Cond.selects RX1 yX1_usedBy yX1_usedBy, Cond.code yX1_usedBy cX1_usedBy 5 (some .int), Cond.fieldLink RX1 16 "TierHouse" "spentBy" "[I"]
def wsX1_make_r5 : List Cond := [Cond.methodLink RX1 210 yX0_use, Cond.instanceMethod yX0_use, Cond.selects RX0 yX0_use yX0_use, Cond.code yX0_use cX0_use 1 (some .int), Cond.fieldLink RX0 28 "TierHouse$StoredFile" "isGift" "Z", Cond.fieldLink RX0 15 "TierHouse$StoredFile" "count" "I", Cond.fieldLink RX0 19 "TierHouse$StoredFile" "giftCells" "I", Cond.methodLink RX0 32 yJ6_bitCount_0f7a4, Cond.static yJ6_bitCount_0f7a4, Cond.initialized RJ6, Cond.code yJ6_bitCount_0f7a4 cJ6_bitCount_0f7a4 1 (some .int), Cond.constant RJ6 265 (1431655765), Cond.constant RJ6 266 (858993459), Cond.constant RJ6 267 (252645135), Cond.methodLink RX1 199 yX1_isFull, Cond.instanceMethod yX1_isFull, Cond.selects RX1 yX1_isFull yX1_isFull, Cond.code yX1_isFull cX1_isFull 1 (some .boolean), Cond.methodLink RX1 203 yX0_init, Cond.instanceMethod yX0_init, Cond.code yX0_init cX0_init 4 none, Cond.methodLink RX0 3 objectInit, Cond.instanceMethod objectInit, Cond.code objectInit ⟨#[0xb1]⟩ 1 none]
def wsX1_make_r6 : List Cond := [Cond.arrayClass .int, Cond.fieldLink RX0 9 "TierHouse$StoredFile" "cells" "[I", Cond.fieldLink RX0 22 "TierHouse$StoredFile" "address" "I", Cond.fieldLink RX0 25 "TierHouse$StoredFile" "folder" "I", Cond.methodLink RX1 206 yX1_store, Cond.instanceMethod yX1_store, Cond.selects RX1 yX1_store yX1_store, Cond.code yX1_store cX1_store 3 none, Cond.methodLink RX1 226 yJx4a65c_add_7a177, Cond.instanceMethod yJx4a65c_add_7a177, Cond.selects RJx4a65c yJx4a65c_add_7a177 yJx4a65c_add_7a177, Cond.code yJx4a65c_add_7a177 cJx4a65c_add_7a177 5 none, Cond.fieldLink RJx4a65c 63 "java/util/ArrayList" "modCount" "I", Cond.sameField "java/util/ArrayList" "java/util/AbstractList" "modCount" "I", Cond.methodLink RJx4a65c 112 arraycopyName, Cond.native arraycopyName, Cond.static arraycopyName, Cond.initialized "java/lang/System", Cond.methodLink RJx4a65c 135 yJx4a65c_rangeCheckForAdd_d00df, Cond.instanceMethod yJx4a65c_rangeCheckForAdd_d00df, Cond.selects RJx4a65c yJx4a65c_rangeCheckForAdd_d00df yJx4a65c_rangeCheckForAdd_d00df, Cond.code yJx4a65c_rangeCheckForAdd_d00df cJx4a65c_rangeCheckForAdd_d00df 2 none, Cond.methodLink RJx4a65c 129 yJx4a65c_grow_d5877, Cond.instanceMethod yJx4a65c_grow_d5877]
def wsX1_make_r7 : List Cond := [Cond.selects RJx4a65c yJx4a65c_grow_d5877 yJx4a65c_grow_d5877, Cond.code yJx4a65c_grow_d5877 cJx4a65c_grow_d5877 1 (some (.array (.object "java/lang/Object"))), Cond.methodLink RJx4a65c 69 yJx4a65c_grow_92f84, Cond.instanceMethod yJx4a65c_grow_92f84, Cond.selects RJx4a65c yJx4a65c_grow_92f84 yJx4a65c_grow_92f84, Cond.code yJx4a65c_grow_92f84 cJx4a65c_grow_92f84 4 (some (.array (.object "java/lang/Object"))), Cond.fieldLink RJx4a65c 39 "java/util/ArrayList" "DEFAULTCAPACITY_EMPTY_ELEMENTDATA" "[Ljava/lang/Object;", Cond.methodLink RJx4a65c 79 Lib.Math.max.name, Cond.static Lib.Math.max.name, Cond.initialized "java/lang/Math", Cond.code Lib.Math.max.name Lib.Math.max.code 2 (some .int), Cond.classLink RJx4a65c 7 "java/lang/Object", Cond.methodLink RJx4a65c 73 yJ8_newLength_cabcc, Cond.static yJ8_newLength_cabcc, Cond.initialized RJ8, Cond.code yJ8_newLength_cabcc cJ8_newLength_cabcc 4 (some .int), Cond.methodLink RJ8 194 Lib.Math.max.name, Cond.constant RJ8 200 (2147483639), Cond.methodLink RJ8 201 yJ8_hugeLength_7cf53, Cond.static yJ8_hugeLength_7cf53, Cond.code yJ8_hugeLength_7cf53 cJ8_hugeLength_7cf53 3 (some .int), Cond.methodLink RJx4a65c 66 yJ7_copyOf_1904c, Cond.static yJ7_copyOf_1904c, Cond.initialized RJ7]
def wsX1_make_r8 : List Cond := [Cond.code yJ7_copyOf_1904c cJ7_copyOf_1904c 2 (some (.array (.object "java/lang/Object"))), Cond.methodLink RJ7 86 ⟨"java/lang/Object", "getClass", "()Ljava/lang/Class;"⟩, Cond.selects "[Ljava/lang/Object;" ⟨"java/lang/Object", "getClass", "()Ljava/lang/Class;"⟩ ⟨"java/lang/Object", "getClass", "()Ljava/lang/Class;"⟩, Cond.instanceMethod ⟨"java/lang/Object", "getClass", "()Ljava/lang/Class;"⟩, Cond.native ⟨"java/lang/Object", "getClass", "()Ljava/lang/Class;"⟩, Cond.methodLink RJ7 300 yJ7_copyOf_6403c, Cond.static yJ7_copyOf_6403c, Cond.code yJ7_copyOf_6403c cJ7_copyOf_6403c 4 (some (.array (.object "java/lang/Object"))), Cond.classLink RJ7 110 "[Ljava/lang/Object;", Cond.classLink RJ7 2 "java/lang/Object", Cond.methodLink RJ7 304 Lib.Math.min.name, Cond.static Lib.Math.min.name, Cond.code Lib.Math.min.name Lib.Math.min.code 2 (some .int), Cond.methodLink RJ7 150 arraycopyName, Cond.methodLink RX1 196 yX1_makeAbove, Cond.instanceMethod yX1_makeAbove, Cond.selects RX1 yX1_makeAbove yX1_makeAbove, Cond.code yX1_makeAbove cX1_makeAbove 4 (some .int), Cond.methodLink RX1 100 yX1_forgetSeen, Cond.instanceMethod yX1_forgetSeen, Cond.selects RX1 yX1_forgetSeen yX1_forgetSeen, Cond.code yX1_forgetSeen cX1_forgetSeen 2 none, Cond.fieldLink RX1 38 "TierHouse" "seenCount" "[I"]
def wsX1_make : List Cond := .code yX1_make cX1_make 6 (some .int) :: ((wsX1_make_r1 ++ (wsX1_make_r2 ++ (wsX1_make_r3 ++ (wsX1_make_r4 ++ (wsX1_make_r5 ++ (wsX1_make_r6 ++ (wsX1_make_r7 ++ wsX1_make_r8))))))) ++ wsX10 ++ wsX00 ++ wsJx4a65c0 ++ (vx_atS RX1 77 "java/lang/UnsupportedOperationException" ["java/lang/RuntimeException", "java/lang/Exception"]).filter goodWord ++ (vx_atS RX1 62 "java/lang/IllegalArgumentException" ["java/lang/RuntimeException", "java/lang/Exception"]).filter goodWord)
def wsX1_requireCell : List Cond := .code yX1_requireCell cX1_requireCell 1 none :: ([.classLink RX1 58 "java/lang/IllegalArgumentException", .initialized "java/lang/IllegalArgumentException"] ++ (vx_atS RX1 62 "java/lang/IllegalArgumentException" ["java/lang/RuntimeException", "java/lang/Exception"]).filter goodWord)
def wsX1_find_r1 : List Cond := [Cond.fieldLink RX1 22 "TierHouse" "files" "Ljava/util/ArrayList;", Cond.classLink RX1 114 "TierHouse$StoredFile", Cond.methodLink RX1 132 yX1_addressOf, Cond.static yX1_addressOf, Cond.initialized RX1, Cond.code yX1_addressOf cX1_addressOf 2 (some .int), Cond.methodLink RX1 136 yX1_placeOf, Cond.instanceMethod yX1_placeOf, Cond.selects RX1 yX1_placeOf yX1_placeOf, Cond.code yX1_placeOf cX1_placeOf 3 (some .int), Cond.fieldLink RX1 223 "TierHouse$StoredFile" "address" "I", Cond.methodLink RX1 217 yJx4a65c_size_8abf5, Cond.instanceMethod yJx4a65c_size_8abf5, Cond.selects RJx4a65c yJx4a65c_size_8abf5 yJx4a65c_size_8abf5, Cond.initialized RJx4a65c, Cond.code yJx4a65c_size_8abf5 cJx4a65c_size_8abf5 1 (some .int), Cond.fieldLink RJx4a65c 48 "java/util/ArrayList" "size" "I", Cond.methodLink RX1 220 yJx4a65c_get_915e3, Cond.instanceMethod yJx4a65c_get_915e3, Cond.selects RJx4a65c yJx4a65c_get_915e3 yJx4a65c_get_915e3, Cond.code yJx4a65c_get_915e3 cJx4a65c_get_915e3 2 (some (.object "java/lang/Object")), Cond.methodLink RJx4a65c 118 yJ15_checkIndex_7cf53, Cond.static yJ15_checkIndex_7cf53, Cond.initialized RJ15]
def wsX1_find_r2 : List Cond := [Cond.code yJ15_checkIndex_7cf53 cJ15_checkIndex_7cf53 2 (some .int), Cond.methodLink RJ15 105 yJ3_checkIndex_8e157, Cond.static yJ3_checkIndex_8e157, Cond.initialized RJ3, Cond.code yJ3_checkIndex_8e157 cJ3_checkIndex_8e157 3 (some .int), Cond.methodLink RJx4a65c 123 yJx4a65c_elementData_915e3, Cond.instanceMethod yJx4a65c_elementData_915e3, Cond.selects RJx4a65c yJx4a65c_elementData_915e3 yJx4a65c_elementData_915e3, Cond.code yJx4a65c_elementData_915e3 cJx4a65c_elementData_915e3 2 (some (.object "java/lang/Object")), Cond.fieldLink RJx4a65c 9 "java/util/ArrayList" "elementData" "[Ljava/lang/Object;"]
def wsX1_find : List Cond := .code yX1_find cX1_find 4 (some (.object "TierHouse$StoredFile")) :: ((wsX1_find_r1 ++ wsX1_find_r2) ++ wsX10 ++ wsX00 ++ wsJx4a65c0)
def wsX1_set_r1 : List Cond := [Cond.fieldLink RX1 9 "TierHouse" "labelOf" "[I", Cond.fieldLink RX1 113 "TierHouse$StoredFile" "count" "I", Cond.fieldLink RX1 118 "TierHouse$StoredFile" "cells" "[I", Cond.methodLink RX1 47 yX1_requireSubject, Cond.static yX1_requireSubject, Cond.initialized RX1, Cond.code yX1_requireSubject cX1_requireSubject 1 none, Cond.classLink RX1 58 "java/lang/IllegalArgumentException", Cond.initialized "java/lang/IllegalArgumentException", Cond.methodLink RX1 103 yX1_requireNumber, Cond.static yX1_requireNumber, Cond.code yX1_requireNumber cX1_requireNumber 1 none, Cond.methodLink RX1 106 yX1_requireCell, Cond.static yX1_requireCell, Cond.code yX1_requireCell cX1_requireCell 1 none, Cond.methodLink RX1 100 yX1_forgetSeen, Cond.instanceMethod yX1_forgetSeen, Cond.selects RX1 yX1_forgetSeen yX1_forgetSeen, Cond.code yX1_forgetSeen cX1_forgetSeen 2 none, Cond.fieldLink RX1 38 "TierHouse" "seenCount" "[I", Cond.methodLink RX1 109 yX1_find, Cond.instanceMethod yX1_find, Cond.selects RX1 yX1_find yX1_find, Cond.code yX1_find cX1_find 4 (some (.object "TierHouse$StoredFile"))]
def wsX1_set_r2 : List Cond := [Cond.fieldLink RX1 22 "TierHouse" "files" "Ljava/util/ArrayList;", Cond.classLink RX1 114 "TierHouse$StoredFile", Cond.methodLink RX1 132 yX1_addressOf, Cond.static yX1_addressOf, Cond.code yX1_addressOf cX1_addressOf 2 (some .int), Cond.methodLink RX1 136 yX1_placeOf, Cond.instanceMethod yX1_placeOf, Cond.selects RX1 yX1_placeOf yX1_placeOf, Cond.code yX1_placeOf cX1_placeOf 3 (some .int), Cond.fieldLink RX1 223 "TierHouse$StoredFile" "address" "I", Cond.methodLink RX1 217 yJx4a65c_size_8abf5, Cond.instanceMethod yJx4a65c_size_8abf5, Cond.selects RJx4a65c yJx4a65c_size_8abf5 yJx4a65c_size_8abf5, Cond.initialized RJx4a65c, Cond.code yJx4a65c_size_8abf5 cJx4a65c_size_8abf5 1 (some .int), Cond.fieldLink RJx4a65c 48 "java/util/ArrayList" "size" "I", Cond.methodLink RX1 220 yJx4a65c_get_915e3, Cond.instanceMethod yJx4a65c_get_915e3, Cond.selects RJx4a65c yJx4a65c_get_915e3 yJx4a65c_get_915e3, Cond.code yJx4a65c_get_915e3 cJx4a65c_get_915e3 2 (some (.object "java/lang/Object")), Cond.methodLink RJx4a65c 118 yJ15_checkIndex_7cf53, Cond.static yJ15_checkIndex_7cf53, Cond.initialized RJ15, Cond.code yJ15_checkIndex_7cf53 cJ15_checkIndex_7cf53 2 (some .int)]
def wsX1_set_r3 : List Cond := [Cond.methodLink RJ15 105 yJ3_checkIndex_8e157, Cond.static yJ3_checkIndex_8e157, Cond.initialized RJ3, Cond.code yJ3_checkIndex_8e157 cJ3_checkIndex_8e157 3 (some .int), Cond.methodLink RJx4a65c 123 yJx4a65c_elementData_915e3, Cond.instanceMethod yJx4a65c_elementData_915e3, Cond.selects RJx4a65c yJx4a65c_elementData_915e3 yJx4a65c_elementData_915e3, Cond.code yJx4a65c_elementData_915e3 cJx4a65c_elementData_915e3 2 (some (.object "java/lang/Object")), Cond.fieldLink RJx4a65c 9 "java/util/ArrayList" "elementData" "[Ljava/lang/Object;", Cond.methodLink RX1 121 yX1_hasRoom, Cond.instanceMethod yX1_hasRoom, Cond.selects RX1 yX1_hasRoom yX1_hasRoom, Cond.code yX1_hasRoom cX1_hasRoom 3 (some .boolean), Cond.fieldLink RX1 13 "TierHouse" "quotaOf" "[I", Cond.methodLink RX1 155 yX1_usedBy, Cond.instanceMethod yX1_usedBy, Cond.selects RX1 yX1_usedBy yX1_usedBy, Cond.code yX1_usedBy cX1_usedBy 5 (some .int), Cond.fieldLink RX1 16 "TierHouse" "spentBy" "[I", Cond.methodLink RX1 190 yX1_labelOfAddress, Cond.static yX1_labelOfAddress, Cond.code yX1_labelOfAddress cX1_labelOfAddress 1 (some .int), Cond.methodLink RX1 210 yX0_use, Cond.instanceMethod yX0_use]
def wsX1_set_r4 : List Cond := [Cond.selects RX0 yX0_use yX0_use, Cond.initialized RX0, Cond.code yX0_use cX0_use 1 (some .int), Cond.fieldLink RX0 28 "TierHouse$StoredFile" "isGift" "Z", Cond.fieldLink RX0 15 "TierHouse$StoredFile" "count" "I", Cond.fieldLink RX0 19 "TierHouse$StoredFile" "giftCells" "I", Cond.methodLink RX0 32 yJ6_bitCount_0f7a4, Cond.static yJ6_bitCount_0f7a4, Cond.initialized RJ6, Cond.code yJ6_bitCount_0f7a4 cJ6_bitCount_0f7a4 1 (some .int), Cond.constant RJ6 265 (1431655765), Cond.constant RJ6 266 (858993459), Cond.constant RJ6 267 (252645135), Cond.methodLink RX1 124 yX0_append, Cond.instanceMethod yX0_append, Cond.selects RX0 yX0_append yX0_append, Cond.code yX0_append cX0_append 3 none, Cond.fieldLink RX0 9 "TierHouse$StoredFile" "cells" "[I"]
def wsX1_set : List Cond := .code yX1_set cX1_set 7 (some .int) :: ((wsX1_set_r1 ++ (wsX1_set_r2 ++ (wsX1_set_r3 ++ wsX1_set_r4))) ++ wsX10 ++ wsX00 ++ wsJx4a65c0 ++ (vx_atS RX1 62 "java/lang/IllegalArgumentException" ["java/lang/RuntimeException", "java/lang/Exception"]).filter goodWord)
def wsX1_give_r1 : List Cond := [Cond.fieldLink RX1 9 "TierHouse" "labelOf" "[I", Cond.fieldLink RX1 16 "TierHouse" "spentBy" "[I", Cond.methodLink RX1 47 yX1_requireSubject, Cond.static yX1_requireSubject, Cond.initialized RX1, Cond.code yX1_requireSubject cX1_requireSubject 1 none, Cond.classLink RX1 58 "java/lang/IllegalArgumentException", Cond.initialized "java/lang/IllegalArgumentException", Cond.methodLink RX1 88 yX1_requireFile, Cond.static yX1_requireFile, Cond.code yX1_requireFile cX1_requireFile 2 none, Cond.methodLink RX1 51 yX1_requireLabel, Cond.static yX1_requireLabel, Cond.code yX1_requireLabel cX1_requireLabel 1 none, Cond.methodLink RX1 103 yX1_requireNumber, Cond.static yX1_requireNumber, Cond.code yX1_requireNumber cX1_requireNumber 1 none, Cond.methodLink RX1 100 yX1_forgetSeen, Cond.instanceMethod yX1_forgetSeen, Cond.selects RX1 yX1_forgetSeen yX1_forgetSeen, Cond.code yX1_forgetSeen cX1_forgetSeen 2 none, Cond.fieldLink RX1 38 "TierHouse" "seenCount" "[I", Cond.methodLink RX1 84 yX1_mayFlow, Cond.static yX1_mayFlow]
def wsX1_give_r2 : List Cond := [Cond.code yX1_mayFlow cX1_mayFlow 2 (some .boolean), Cond.methodLink RX1 175 yX1_secrecyOf, Cond.static yX1_secrecyOf, Cond.code yX1_secrecyOf cX1_secrecyOf 1 (some .int), Cond.methodLink RX1 178 yX1_secretsOf, Cond.static yX1_secretsOf, Cond.code yX1_secretsOf cX1_secretsOf 1 (some .int), Cond.methodLink RX1 181 yX1_isWithin, Cond.static yX1_isWithin, Cond.code yX1_isWithin cX1_isWithin 2 (some .boolean), Cond.methodLink RX1 184 yX1_trustOf, Cond.static yX1_trustOf, Cond.code yX1_trustOf cX1_trustOf 1 (some .int), Cond.methodLink RX1 187 yX1_warrantsOf, Cond.static yX1_warrantsOf, Cond.code yX1_warrantsOf cX1_warrantsOf 1 (some .int), Cond.methodLink RX1 121 yX1_hasRoom, Cond.instanceMethod yX1_hasRoom, Cond.selects RX1 yX1_hasRoom yX1_hasRoom, Cond.code yX1_hasRoom cX1_hasRoom 3 (some .boolean), Cond.fieldLink RX1 13 "TierHouse" "quotaOf" "[I", Cond.methodLink RX1 155 yX1_usedBy, Cond.instanceMethod yX1_usedBy, Cond.selects RX1 yX1_usedBy yX1_usedBy]
def wsX1_give_r3 : List Cond := [Cond.code yX1_usedBy cX1_usedBy 5 (some .int), Cond.fieldLink RX1 22 "TierHouse" "files" "Ljava/util/ArrayList;", Cond.classLink RX1 114 "TierHouse$StoredFile", Cond.fieldLink RX1 223 "TierHouse$StoredFile" "address" "I", Cond.methodLink RX1 217 yJx4a65c_size_8abf5, Cond.instanceMethod yJx4a65c_size_8abf5, Cond.selects RJx4a65c yJx4a65c_size_8abf5 yJx4a65c_size_8abf5, Cond.initialized RJx4a65c, Cond.code yJx4a65c_size_8abf5 cJx4a65c_size_8abf5 1 (some .int), Cond.fieldLink RJx4a65c 48 "java/util/ArrayList" "size" "I", Cond.methodLink RX1 220 yJx4a65c_get_915e3, Cond.instanceMethod yJx4a65c_get_915e3, Cond.selects RJx4a65c yJx4a65c_get_915e3 yJx4a65c_get_915e3, Cond.code yJx4a65c_get_915e3 cJx4a65c_get_915e3 2 (some (.object "java/lang/Object")), Cond.methodLink RJx4a65c 118 yJ15_checkIndex_7cf53, Cond.static yJ15_checkIndex_7cf53, Cond.initialized RJ15, Cond.code yJ15_checkIndex_7cf53 cJ15_checkIndex_7cf53 2 (some .int), Cond.methodLink RJ15 105 yJ3_checkIndex_8e157, Cond.static yJ3_checkIndex_8e157, Cond.initialized RJ3, Cond.code yJ3_checkIndex_8e157 cJ3_checkIndex_8e157 3 (some .int), Cond.methodLink RJx4a65c 123 yJx4a65c_elementData_915e3, Cond.instanceMethod yJx4a65c_elementData_915e3]
def wsX1_give_r4 : List Cond := [Cond.selects RJx4a65c yJx4a65c_elementData_915e3 yJx4a65c_elementData_915e3, Cond.code yJx4a65c_elementData_915e3 cJx4a65c_elementData_915e3 2 (some (.object "java/lang/Object")), Cond.fieldLink RJx4a65c 9 "java/util/ArrayList" "elementData" "[Ljava/lang/Object;", Cond.methodLink RX1 190 yX1_labelOfAddress, Cond.static yX1_labelOfAddress, Cond.code yX1_labelOfAddress cX1_labelOfAddress 1 (some .int), Cond.methodLink RX1 210 yX0_use, Cond.instanceMethod yX0_use, Cond.selects RX0 yX0_use yX0_use, Cond.initialized RX0, Cond.code yX0_use cX0_use 1 (some .int), Cond.fieldLink RX0 28 "TierHouse$StoredFile" "isGift" "Z", Cond.fieldLink RX0 15 "TierHouse$StoredFile" "count" "I", Cond.fieldLink RX0 19 "TierHouse$StoredFile" "giftCells" "I", Cond.methodLink RX0 32 yJ6_bitCount_0f7a4, Cond.static yJ6_bitCount_0f7a4, Cond.initialized RJ6, Cond.code yJ6_bitCount_0f7a4 cJ6_bitCount_0f7a4 1 (some .int), Cond.constant RJ6 265 (1431655765), Cond.constant RJ6 266 (858993459), Cond.constant RJ6 267 (252645135), Cond.methodLink RX1 109 yX1_find, Cond.instanceMethod yX1_find, Cond.selects RX1 yX1_find yX1_find]
def wsX1_give_r5 : List Cond := [Cond.code yX1_find cX1_find 4 (some (.object "TierHouse$StoredFile")), Cond.methodLink RX1 132 yX1_addressOf, Cond.static yX1_addressOf, Cond.code yX1_addressOf cX1_addressOf 2 (some .int), Cond.methodLink RX1 136 yX1_placeOf, Cond.instanceMethod yX1_placeOf, Cond.selects RX1 yX1_placeOf yX1_placeOf, Cond.code yX1_placeOf cX1_placeOf 3 (some .int), Cond.methodLink RX1 124 yX0_append, Cond.instanceMethod yX0_append, Cond.selects RX0 yX0_append yX0_append, Cond.code yX0_append cX0_append 3 none, Cond.fieldLink RX0 9 "TierHouse$StoredFile" "cells" "[I"]
def wsX1_give : List Cond := .code yX1_give cX1_give 7 (some .int) :: ((wsX1_give_r1 ++ (wsX1_give_r2 ++ (wsX1_give_r3 ++ (wsX1_give_r4 ++ wsX1_give_r5)))) ++ wsX10 ++ wsX00 ++ wsJx4a65c0 ++ (vx_atS RX1 62 "java/lang/IllegalArgumentException" ["java/lang/RuntimeException", "java/lang/Exception"]).filter goodWord)
def wsX1_trim_r1 : List Cond := [Cond.fieldLink RX1 9 "TierHouse" "labelOf" "[I", Cond.methodLink RX1 47 yX1_requireSubject, Cond.static yX1_requireSubject, Cond.initialized RX1, Cond.code yX1_requireSubject cX1_requireSubject 1 none, Cond.classLink RX1 58 "java/lang/IllegalArgumentException", Cond.initialized "java/lang/IllegalArgumentException", Cond.methodLink RX1 103 yX1_requireNumber, Cond.static yX1_requireNumber, Cond.code yX1_requireNumber cX1_requireNumber 1 none, Cond.methodLink RX1 54 yX1_requireAtMost, Cond.static yX1_requireAtMost, Cond.code yX1_requireAtMost cX1_requireAtMost 2 none, Cond.methodLink RX1 100 yX1_forgetSeen, Cond.instanceMethod yX1_forgetSeen, Cond.selects RX1 yX1_forgetSeen yX1_forgetSeen, Cond.code yX1_forgetSeen cX1_forgetSeen 2 none, Cond.fieldLink RX1 38 "TierHouse" "seenCount" "[I", Cond.methodLink RX1 109 yX1_find, Cond.instanceMethod yX1_find, Cond.selects RX1 yX1_find yX1_find, Cond.code yX1_find cX1_find 4 (some (.object "TierHouse$StoredFile")), Cond.fieldLink RX1 22 "TierHouse" "files" "Ljava/util/ArrayList;", Cond.classLink RX1 114 "TierHouse$StoredFile"]
def wsX1_trim_r2 : List Cond := [Cond.methodLink RX1 132 yX1_addressOf, Cond.static yX1_addressOf, Cond.code yX1_addressOf cX1_addressOf 2 (some .int), Cond.methodLink RX1 136 yX1_placeOf, Cond.instanceMethod yX1_placeOf, Cond.selects RX1 yX1_placeOf yX1_placeOf, Cond.code yX1_placeOf cX1_placeOf 3 (some .int), Cond.fieldLink RX1 223 "TierHouse$StoredFile" "address" "I", Cond.methodLink RX1 217 yJx4a65c_size_8abf5, Cond.instanceMethod yJx4a65c_size_8abf5, Cond.selects RJx4a65c yJx4a65c_size_8abf5 yJx4a65c_size_8abf5, Cond.initialized RJx4a65c, Cond.code yJx4a65c_size_8abf5 cJx4a65c_size_8abf5 1 (some .int), Cond.fieldLink RJx4a65c 48 "java/util/ArrayList" "size" "I", Cond.methodLink RX1 220 yJx4a65c_get_915e3, Cond.instanceMethod yJx4a65c_get_915e3, Cond.selects RJx4a65c yJx4a65c_get_915e3 yJx4a65c_get_915e3, Cond.code yJx4a65c_get_915e3 cJx4a65c_get_915e3 2 (some (.object "java/lang/Object")), Cond.methodLink RJx4a65c 118 yJ15_checkIndex_7cf53, Cond.static yJ15_checkIndex_7cf53, Cond.initialized RJ15, Cond.code yJ15_checkIndex_7cf53 cJ15_checkIndex_7cf53 2 (some .int), Cond.methodLink RJ15 105 yJ3_checkIndex_8e157, Cond.static yJ3_checkIndex_8e157]
def wsX1_trim_r3 : List Cond := [Cond.initialized RJ3, Cond.code yJ3_checkIndex_8e157 cJ3_checkIndex_8e157 3 (some .int), Cond.methodLink RJx4a65c 123 yJx4a65c_elementData_915e3, Cond.instanceMethod yJx4a65c_elementData_915e3, Cond.selects RJx4a65c yJx4a65c_elementData_915e3 yJx4a65c_elementData_915e3, Cond.code yJx4a65c_elementData_915e3 cJx4a65c_elementData_915e3 2 (some (.object "java/lang/Object")), Cond.fieldLink RJx4a65c 9 "java/util/ArrayList" "elementData" "[Ljava/lang/Object;", Cond.methodLink RX1 128 yX0_cutTo, Cond.instanceMethod yX0_cutTo, Cond.selects RX0 yX0_cutTo yX0_cutTo, Cond.initialized RX0, Cond.code yX0_cutTo cX0_cutTo 3 (some .int), Cond.fieldLink RX0 15 "TierHouse$StoredFile" "count" "I", Cond.fieldLink RX0 19 "TierHouse$StoredFile" "giftCells" "I"]
def wsX1_trim : List Cond := .code yX1_trim cX1_trim 6 (some .int) :: ((wsX1_trim_r1 ++ (wsX1_trim_r2 ++ wsX1_trim_r3)) ++ wsX10 ++ wsX00 ++ wsJx4a65c0 ++ (vx_atS RX1 62 "java/lang/IllegalArgumentException" ["java/lang/RuntimeException", "java/lang/Exception"]).filter goodWord)
def wsJx4a65c_fastRemove_b59b0 : List Cond := .code yJx4a65c_fastRemove_b59b0 cJx4a65c_fastRemove_b59b0 4 none :: ([.fieldLink RJx4a65c 63 "java/util/ArrayList" "modCount" "I", .sameField "java/util/ArrayList" "java/util/AbstractList" "modCount" "I", .fieldLink RJx4a65c 48 "java/util/ArrayList" "size" "I", .methodLink RJx4a65c 112 arraycopyName, .native arraycopyName, .static arraycopyName, .initialized "java/lang/System"] ++ wsJx4a65c0)
def wsJx4a65c_remove_915e3 : List Cond := .code yJx4a65c_remove_915e3 cJx4a65c_remove_915e3 4 (some (.object "java/lang/Object")) :: ([.fieldLink RJx4a65c 48 "java/util/ArrayList" "size" "I", .fieldLink RJx4a65c 9 "java/util/ArrayList" "elementData" "[Ljava/lang/Object;", .methodLink RJx4a65c 118 yJ15_checkIndex_7cf53, .static yJ15_checkIndex_7cf53, .initialized RJ15, .code yJ15_checkIndex_7cf53 cJ15_checkIndex_7cf53 2 (some .int), .methodLink RJ15 105 yJ3_checkIndex_8e157, .static yJ3_checkIndex_8e157, .initialized RJ3, .code yJ3_checkIndex_8e157 cJ3_checkIndex_8e157 3 (some .int), .methodLink RJx4a65c 144 yJx4a65c_fastRemove_b59b0, .instanceMethod yJx4a65c_fastRemove_b59b0, .selects RJx4a65c yJx4a65c_fastRemove_b59b0 yJx4a65c_fastRemove_b59b0, .initialized RJx4a65c, .code yJx4a65c_fastRemove_b59b0 cJx4a65c_fastRemove_b59b0 4 none, .fieldLink RJx4a65c 63 "java/util/ArrayList" "modCount" "I", .sameField "java/util/ArrayList" "java/util/AbstractList" "modCount" "I", .methodLink RJx4a65c 112 arraycopyName, .native arraycopyName, .static arraycopyName, .initialized "java/lang/System"] ++ wsJx4a65c0)
def wsX1_remove_r1 : List Cond := [Cond.fieldLink RX1 9 "TierHouse" "labelOf" "[I", Cond.fieldLink RX1 22 "TierHouse" "files" "Ljava/util/ArrayList;", Cond.methodLink RX1 47 yX1_requireSubject, Cond.static yX1_requireSubject, Cond.initialized RX1, Cond.code yX1_requireSubject cX1_requireSubject 1 none, Cond.classLink RX1 58 "java/lang/IllegalArgumentException", Cond.initialized "java/lang/IllegalArgumentException", Cond.methodLink RX1 103 yX1_requireNumber, Cond.static yX1_requireNumber, Cond.code yX1_requireNumber cX1_requireNumber 1 none, Cond.methodLink RX1 100 yX1_forgetSeen, Cond.instanceMethod yX1_forgetSeen, Cond.selects RX1 yX1_forgetSeen yX1_forgetSeen, Cond.code yX1_forgetSeen cX1_forgetSeen 2 none, Cond.fieldLink RX1 38 "TierHouse" "seenCount" "[I", Cond.methodLink RX1 132 yX1_addressOf, Cond.static yX1_addressOf, Cond.code yX1_addressOf cX1_addressOf 2 (some .int), Cond.methodLink RX1 136 yX1_placeOf, Cond.instanceMethod yX1_placeOf, Cond.selects RX1 yX1_placeOf yX1_placeOf, Cond.code yX1_placeOf cX1_placeOf 3 (some .int), Cond.classLink RX1 114 "TierHouse$StoredFile"]
def wsX1_remove_r2 : List Cond := [Cond.fieldLink RX1 223 "TierHouse$StoredFile" "address" "I", Cond.methodLink RX1 217 yJx4a65c_size_8abf5, Cond.instanceMethod yJx4a65c_size_8abf5, Cond.selects RJx4a65c yJx4a65c_size_8abf5 yJx4a65c_size_8abf5, Cond.initialized RJx4a65c, Cond.code yJx4a65c_size_8abf5 cJx4a65c_size_8abf5 1 (some .int), Cond.fieldLink RJx4a65c 48 "java/util/ArrayList" "size" "I", Cond.methodLink RX1 220 yJx4a65c_get_915e3, Cond.instanceMethod yJx4a65c_get_915e3, Cond.selects RJx4a65c yJx4a65c_get_915e3 yJx4a65c_get_915e3, Cond.code yJx4a65c_get_915e3 cJx4a65c_get_915e3 2 (some (.object "java/lang/Object")), Cond.methodLink RJx4a65c 118 yJ15_checkIndex_7cf53, Cond.static yJ15_checkIndex_7cf53, Cond.initialized RJ15, Cond.code yJ15_checkIndex_7cf53 cJ15_checkIndex_7cf53 2 (some .int), Cond.methodLink RJ15 105 yJ3_checkIndex_8e157, Cond.static yJ3_checkIndex_8e157, Cond.initialized RJ3, Cond.code yJ3_checkIndex_8e157 cJ3_checkIndex_8e157 3 (some .int), Cond.methodLink RJx4a65c 123 yJx4a65c_elementData_915e3, Cond.instanceMethod yJx4a65c_elementData_915e3, Cond.selects RJx4a65c yJx4a65c_elementData_915e3 yJx4a65c_elementData_915e3, Cond.code yJx4a65c_elementData_915e3 cJx4a65c_elementData_915e3 2 (some (.object "java/lang/Object")), Cond.fieldLink RJx4a65c 9 "java/util/ArrayList" "elementData" "[Ljava/lang/Object;"]
def wsX1_remove_r3 : List Cond := [Cond.methodLink RX1 139 yJx4a65c_remove_915e3, Cond.instanceMethod yJx4a65c_remove_915e3, Cond.selects RJx4a65c yJx4a65c_remove_915e3 yJx4a65c_remove_915e3, Cond.code yJx4a65c_remove_915e3 cJx4a65c_remove_915e3 4 (some (.object "java/lang/Object")), Cond.methodLink RJx4a65c 144 yJx4a65c_fastRemove_b59b0, Cond.instanceMethod yJx4a65c_fastRemove_b59b0, Cond.selects RJx4a65c yJx4a65c_fastRemove_b59b0 yJx4a65c_fastRemove_b59b0, Cond.code yJx4a65c_fastRemove_b59b0 cJx4a65c_fastRemove_b59b0 4 none, Cond.fieldLink RJx4a65c 63 "java/util/ArrayList" "modCount" "I", Cond.sameField "java/util/ArrayList" "java/util/AbstractList" "modCount" "I", Cond.methodLink RJx4a65c 112 arraycopyName, Cond.native arraycopyName, Cond.static arraycopyName, Cond.initialized "java/lang/System"]
def wsX1_remove : List Cond := .code yX1_remove cX1_remove 5 (some .int) :: ((wsX1_remove_r1 ++ (wsX1_remove_r2 ++ wsX1_remove_r3)) ++ wsX10 ++ wsX00 ++ wsJx4a65c0 ++ (vx_atS RX1 62 "java/lang/IllegalArgumentException" ["java/lang/RuntimeException", "java/lang/Exception"]).filter goodWord)
def wsX1_verdictOnReading : List Cond := .code yX1_verdictOnReading cX1_verdictOnReading 4 (some .int) :: ([.fieldLink RX1 9 "TierHouse" "labelOf" "[I", .methodLink RX1 84 yX1_mayFlow, .static yX1_mayFlow, .initialized RX1, .code yX1_mayFlow cX1_mayFlow 2 (some .boolean), .methodLink RX1 175 yX1_secrecyOf, .static yX1_secrecyOf, .code yX1_secrecyOf cX1_secrecyOf 1 (some .int), .methodLink RX1 178 yX1_secretsOf, .static yX1_secretsOf, .code yX1_secretsOf cX1_secretsOf 1 (some .int), .methodLink RX1 181 yX1_isWithin, .static yX1_isWithin, .code yX1_isWithin cX1_isWithin 2 (some .boolean), .methodLink RX1 184 yX1_trustOf, .static yX1_trustOf, .code yX1_trustOf cX1_trustOf 1 (some .int), .methodLink RX1 187 yX1_warrantsOf, .static yX1_warrantsOf, .code yX1_warrantsOf cX1_warrantsOf 1 (some .int)] ++ wsX10)
def wsX1_show : List Cond := .code yX1_show cX1_show 3 none :: ([.fieldLink RX1 38 "TierHouse" "seenCount" "[I", .fieldLink RX1 35 "TierHouse" "seenBy" "[[I"] ++ wsX10)
def wsX1_read_r1 : List Cond := [Cond.fieldLink RX1 113 "TierHouse$StoredFile" "count" "I", Cond.fieldLink RX1 118 "TierHouse$StoredFile" "cells" "[I", Cond.methodLink RX1 47 yX1_requireSubject, Cond.static yX1_requireSubject, Cond.initialized RX1, Cond.code yX1_requireSubject cX1_requireSubject 1 none, Cond.classLink RX1 58 "java/lang/IllegalArgumentException", Cond.initialized "java/lang/IllegalArgumentException", Cond.methodLink RX1 88 yX1_requireFile, Cond.static yX1_requireFile, Cond.code yX1_requireFile cX1_requireFile 2 none, Cond.methodLink RX1 51 yX1_requireLabel, Cond.static yX1_requireLabel, Cond.code yX1_requireLabel cX1_requireLabel 1 none, Cond.methodLink RX1 103 yX1_requireNumber, Cond.static yX1_requireNumber, Cond.code yX1_requireNumber cX1_requireNumber 1 none, Cond.methodLink RX1 106 yX1_requireCell, Cond.static yX1_requireCell, Cond.code yX1_requireCell cX1_requireCell 1 none, Cond.methodLink RX1 100 yX1_forgetSeen, Cond.instanceMethod yX1_forgetSeen, Cond.selects RX1 yX1_forgetSeen yX1_forgetSeen, Cond.code yX1_forgetSeen cX1_forgetSeen 2 none]
def wsX1_read_r2 : List Cond := [Cond.fieldLink RX1 38 "TierHouse" "seenCount" "[I", Cond.methodLink RX1 143 yX1_verdictOnReading, Cond.instanceMethod yX1_verdictOnReading, Cond.selects RX1 yX1_verdictOnReading yX1_verdictOnReading, Cond.code yX1_verdictOnReading cX1_verdictOnReading 4 (some .int), Cond.fieldLink RX1 9 "TierHouse" "labelOf" "[I", Cond.methodLink RX1 84 yX1_mayFlow, Cond.static yX1_mayFlow, Cond.code yX1_mayFlow cX1_mayFlow 2 (some .boolean), Cond.methodLink RX1 175 yX1_secrecyOf, Cond.static yX1_secrecyOf, Cond.code yX1_secrecyOf cX1_secrecyOf 1 (some .int), Cond.methodLink RX1 178 yX1_secretsOf, Cond.static yX1_secretsOf, Cond.code yX1_secretsOf cX1_secretsOf 1 (some .int), Cond.methodLink RX1 181 yX1_isWithin, Cond.static yX1_isWithin, Cond.code yX1_isWithin cX1_isWithin 2 (some .boolean), Cond.methodLink RX1 184 yX1_trustOf, Cond.static yX1_trustOf, Cond.code yX1_trustOf cX1_trustOf 1 (some .int), Cond.methodLink RX1 187 yX1_warrantsOf, Cond.static yX1_warrantsOf, Cond.code yX1_warrantsOf cX1_warrantsOf 1 (some .int)]
def wsX1_read_r3 : List Cond := [Cond.methodLink RX1 109 yX1_find, Cond.instanceMethod yX1_find, Cond.selects RX1 yX1_find yX1_find, Cond.code yX1_find cX1_find 4 (some (.object "TierHouse$StoredFile")), Cond.fieldLink RX1 22 "TierHouse" "files" "Ljava/util/ArrayList;", Cond.classLink RX1 114 "TierHouse$StoredFile", Cond.methodLink RX1 132 yX1_addressOf, Cond.static yX1_addressOf, Cond.code yX1_addressOf cX1_addressOf 2 (some .int), Cond.methodLink RX1 136 yX1_placeOf, Cond.instanceMethod yX1_placeOf, Cond.selects RX1 yX1_placeOf yX1_placeOf, Cond.code yX1_placeOf cX1_placeOf 3 (some .int), Cond.fieldLink RX1 223 "TierHouse$StoredFile" "address" "I", Cond.methodLink RX1 217 yJx4a65c_size_8abf5, Cond.instanceMethod yJx4a65c_size_8abf5, Cond.selects RJx4a65c yJx4a65c_size_8abf5 yJx4a65c_size_8abf5, Cond.initialized RJx4a65c, Cond.code yJx4a65c_size_8abf5 cJx4a65c_size_8abf5 1 (some .int), Cond.fieldLink RJx4a65c 48 "java/util/ArrayList" "size" "I", Cond.methodLink RX1 220 yJx4a65c_get_915e3, Cond.instanceMethod yJx4a65c_get_915e3, Cond.selects RJx4a65c yJx4a65c_get_915e3 yJx4a65c_get_915e3, Cond.code yJx4a65c_get_915e3 cJx4a65c_get_915e3 2 (some (.object "java/lang/Object"))]
def wsX1_read_r4 : List Cond := [Cond.methodLink RJx4a65c 118 yJ15_checkIndex_7cf53, Cond.static yJ15_checkIndex_7cf53, Cond.initialized RJ15, Cond.code yJ15_checkIndex_7cf53 cJ15_checkIndex_7cf53 2 (some .int), Cond.methodLink RJ15 105 yJ3_checkIndex_8e157, Cond.static yJ3_checkIndex_8e157, Cond.initialized RJ3, Cond.code yJ3_checkIndex_8e157 cJ3_checkIndex_8e157 3 (some .int), Cond.methodLink RJx4a65c 123 yJx4a65c_elementData_915e3, Cond.instanceMethod yJx4a65c_elementData_915e3, Cond.selects RJx4a65c yJx4a65c_elementData_915e3 yJx4a65c_elementData_915e3, Cond.code yJx4a65c_elementData_915e3 cJx4a65c_elementData_915e3 2 (some (.object "java/lang/Object")), Cond.fieldLink RJx4a65c 9 "java/util/ArrayList" "elementData" "[Ljava/lang/Object;", Cond.methodLink RX1 146 yX1_show, Cond.instanceMethod yX1_show, Cond.selects RX1 yX1_show yX1_show, Cond.code yX1_show cX1_show 3 none, Cond.fieldLink RX1 35 "TierHouse" "seenBy" "[[I"]
def wsX1_read : List Cond := .code yX1_read cX1_read 7 (some .int) :: ((wsX1_read_r1 ++ (wsX1_read_r2 ++ (wsX1_read_r3 ++ wsX1_read_r4))) ++ wsX00 ++ wsX10 ++ wsJx4a65c0 ++ (vx_atS RX1 62 "java/lang/IllegalArgumentException" ["java/lang/RuntimeException", "java/lang/Exception"]).filter goodWord)
def wsX1_size_r1 : List Cond := [Cond.fieldLink RX1 113 "TierHouse$StoredFile" "count" "I", Cond.methodLink RX1 47 yX1_requireSubject, Cond.static yX1_requireSubject, Cond.initialized RX1, Cond.code yX1_requireSubject cX1_requireSubject 1 none, Cond.classLink RX1 58 "java/lang/IllegalArgumentException", Cond.initialized "java/lang/IllegalArgumentException", Cond.methodLink RX1 88 yX1_requireFile, Cond.static yX1_requireFile, Cond.code yX1_requireFile cX1_requireFile 2 none, Cond.methodLink RX1 51 yX1_requireLabel, Cond.static yX1_requireLabel, Cond.code yX1_requireLabel cX1_requireLabel 1 none, Cond.methodLink RX1 103 yX1_requireNumber, Cond.static yX1_requireNumber, Cond.code yX1_requireNumber cX1_requireNumber 1 none, Cond.methodLink RX1 100 yX1_forgetSeen, Cond.instanceMethod yX1_forgetSeen, Cond.selects RX1 yX1_forgetSeen yX1_forgetSeen, Cond.code yX1_forgetSeen cX1_forgetSeen 2 none, Cond.fieldLink RX1 38 "TierHouse" "seenCount" "[I", Cond.methodLink RX1 143 yX1_verdictOnReading, Cond.instanceMethod yX1_verdictOnReading, Cond.selects RX1 yX1_verdictOnReading yX1_verdictOnReading]
def wsX1_size_r2 : List Cond := [Cond.code yX1_verdictOnReading cX1_verdictOnReading 4 (some .int), Cond.fieldLink RX1 9 "TierHouse" "labelOf" "[I", Cond.methodLink RX1 84 yX1_mayFlow, Cond.static yX1_mayFlow, Cond.code yX1_mayFlow cX1_mayFlow 2 (some .boolean), Cond.methodLink RX1 175 yX1_secrecyOf, Cond.static yX1_secrecyOf, Cond.code yX1_secrecyOf cX1_secrecyOf 1 (some .int), Cond.methodLink RX1 178 yX1_secretsOf, Cond.static yX1_secretsOf, Cond.code yX1_secretsOf cX1_secretsOf 1 (some .int), Cond.methodLink RX1 181 yX1_isWithin, Cond.static yX1_isWithin, Cond.code yX1_isWithin cX1_isWithin 2 (some .boolean), Cond.methodLink RX1 184 yX1_trustOf, Cond.static yX1_trustOf, Cond.code yX1_trustOf cX1_trustOf 1 (some .int), Cond.methodLink RX1 187 yX1_warrantsOf, Cond.static yX1_warrantsOf, Cond.code yX1_warrantsOf cX1_warrantsOf 1 (some .int), Cond.methodLink RX1 109 yX1_find, Cond.instanceMethod yX1_find, Cond.selects RX1 yX1_find yX1_find, Cond.code yX1_find cX1_find 4 (some (.object "TierHouse$StoredFile"))]
def wsX1_size_r3 : List Cond := [Cond.fieldLink RX1 22 "TierHouse" "files" "Ljava/util/ArrayList;", Cond.classLink RX1 114 "TierHouse$StoredFile", Cond.methodLink RX1 132 yX1_addressOf, Cond.static yX1_addressOf, Cond.code yX1_addressOf cX1_addressOf 2 (some .int), Cond.methodLink RX1 136 yX1_placeOf, Cond.instanceMethod yX1_placeOf, Cond.selects RX1 yX1_placeOf yX1_placeOf, Cond.code yX1_placeOf cX1_placeOf 3 (some .int), Cond.fieldLink RX1 223 "TierHouse$StoredFile" "address" "I", Cond.methodLink RX1 217 yJx4a65c_size_8abf5, Cond.instanceMethod yJx4a65c_size_8abf5, Cond.selects RJx4a65c yJx4a65c_size_8abf5 yJx4a65c_size_8abf5, Cond.initialized RJx4a65c, Cond.code yJx4a65c_size_8abf5 cJx4a65c_size_8abf5 1 (some .int), Cond.fieldLink RJx4a65c 48 "java/util/ArrayList" "size" "I", Cond.methodLink RX1 220 yJx4a65c_get_915e3, Cond.instanceMethod yJx4a65c_get_915e3, Cond.selects RJx4a65c yJx4a65c_get_915e3 yJx4a65c_get_915e3, Cond.code yJx4a65c_get_915e3 cJx4a65c_get_915e3 2 (some (.object "java/lang/Object")), Cond.methodLink RJx4a65c 118 yJ15_checkIndex_7cf53, Cond.static yJ15_checkIndex_7cf53, Cond.initialized RJ15, Cond.code yJ15_checkIndex_7cf53 cJ15_checkIndex_7cf53 2 (some .int)]
def wsX1_size_r4 : List Cond := [Cond.methodLink RJ15 105 yJ3_checkIndex_8e157, Cond.static yJ3_checkIndex_8e157, Cond.initialized RJ3, Cond.code yJ3_checkIndex_8e157 cJ3_checkIndex_8e157 3 (some .int), Cond.methodLink RJx4a65c 123 yJx4a65c_elementData_915e3, Cond.instanceMethod yJx4a65c_elementData_915e3, Cond.selects RJx4a65c yJx4a65c_elementData_915e3 yJx4a65c_elementData_915e3, Cond.code yJx4a65c_elementData_915e3 cJx4a65c_elementData_915e3 2 (some (.object "java/lang/Object")), Cond.fieldLink RJx4a65c 9 "java/util/ArrayList" "elementData" "[Ljava/lang/Object;"]
def wsX1_size : List Cond := .code yX1_size cX1_size 6 (some .int) :: ((wsX1_size_r1 ++ (wsX1_size_r2 ++ (wsX1_size_r3 ++ wsX1_size_r4))) ++ wsX00 ++ wsX10 ++ wsJx4a65c0 ++ (vx_atS RX1 62 "java/lang/IllegalArgumentException" ["java/lang/RuntimeException", "java/lang/Exception"]).filter goodWord)
def wsX1_there_r1 : List Cond := [Cond.methodLink RX1 47 yX1_requireSubject, Cond.static yX1_requireSubject, Cond.initialized RX1, Cond.code yX1_requireSubject cX1_requireSubject 1 none, Cond.classLink RX1 58 "java/lang/IllegalArgumentException", Cond.initialized "java/lang/IllegalArgumentException", Cond.methodLink RX1 88 yX1_requireFile, Cond.static yX1_requireFile, Cond.code yX1_requireFile cX1_requireFile 2 none, Cond.methodLink RX1 51 yX1_requireLabel, Cond.static yX1_requireLabel, Cond.code yX1_requireLabel cX1_requireLabel 1 none, Cond.methodLink RX1 103 yX1_requireNumber, Cond.static yX1_requireNumber, Cond.code yX1_requireNumber cX1_requireNumber 1 none, Cond.methodLink RX1 100 yX1_forgetSeen, Cond.instanceMethod yX1_forgetSeen, Cond.selects RX1 yX1_forgetSeen yX1_forgetSeen, Cond.code yX1_forgetSeen cX1_forgetSeen 2 none, Cond.fieldLink RX1 38 "TierHouse" "seenCount" "[I", Cond.methodLink RX1 143 yX1_verdictOnReading, Cond.instanceMethod yX1_verdictOnReading, Cond.selects RX1 yX1_verdictOnReading yX1_verdictOnReading, Cond.code yX1_verdictOnReading cX1_verdictOnReading 4 (some .int)]
def wsX1_there_r2 : List Cond := [Cond.fieldLink RX1 9 "TierHouse" "labelOf" "[I", Cond.methodLink RX1 84 yX1_mayFlow, Cond.static yX1_mayFlow, Cond.code yX1_mayFlow cX1_mayFlow 2 (some .boolean), Cond.methodLink RX1 175 yX1_secrecyOf, Cond.static yX1_secrecyOf, Cond.code yX1_secrecyOf cX1_secrecyOf 1 (some .int), Cond.methodLink RX1 178 yX1_secretsOf, Cond.static yX1_secretsOf, Cond.code yX1_secretsOf cX1_secretsOf 1 (some .int), Cond.methodLink RX1 181 yX1_isWithin, Cond.static yX1_isWithin, Cond.code yX1_isWithin cX1_isWithin 2 (some .boolean), Cond.methodLink RX1 184 yX1_trustOf, Cond.static yX1_trustOf, Cond.code yX1_trustOf cX1_trustOf 1 (some .int), Cond.methodLink RX1 187 yX1_warrantsOf, Cond.static yX1_warrantsOf, Cond.code yX1_warrantsOf cX1_warrantsOf 1 (some .int), Cond.methodLink RX1 109 yX1_find, Cond.instanceMethod yX1_find, Cond.selects RX1 yX1_find yX1_find, Cond.code yX1_find cX1_find 4 (some (.object "TierHouse$StoredFile")), Cond.fieldLink RX1 22 "TierHouse" "files" "Ljava/util/ArrayList;"]
def wsX1_there_r3 : List Cond := [Cond.classLink RX1 114 "TierHouse$StoredFile", Cond.methodLink RX1 132 yX1_addressOf, Cond.static yX1_addressOf, Cond.code yX1_addressOf cX1_addressOf 2 (some .int), Cond.methodLink RX1 136 yX1_placeOf, Cond.instanceMethod yX1_placeOf, Cond.selects RX1 yX1_placeOf yX1_placeOf, Cond.code yX1_placeOf cX1_placeOf 3 (some .int), Cond.fieldLink RX1 223 "TierHouse$StoredFile" "address" "I", Cond.methodLink RX1 217 yJx4a65c_size_8abf5, Cond.instanceMethod yJx4a65c_size_8abf5, Cond.selects RJx4a65c yJx4a65c_size_8abf5 yJx4a65c_size_8abf5, Cond.initialized RJx4a65c, Cond.code yJx4a65c_size_8abf5 cJx4a65c_size_8abf5 1 (some .int), Cond.fieldLink RJx4a65c 48 "java/util/ArrayList" "size" "I", Cond.methodLink RX1 220 yJx4a65c_get_915e3, Cond.instanceMethod yJx4a65c_get_915e3, Cond.selects RJx4a65c yJx4a65c_get_915e3 yJx4a65c_get_915e3, Cond.code yJx4a65c_get_915e3 cJx4a65c_get_915e3 2 (some (.object "java/lang/Object")), Cond.methodLink RJx4a65c 118 yJ15_checkIndex_7cf53, Cond.static yJ15_checkIndex_7cf53, Cond.initialized RJ15, Cond.code yJ15_checkIndex_7cf53 cJ15_checkIndex_7cf53 2 (some .int), Cond.methodLink RJ15 105 yJ3_checkIndex_8e157]
def wsX1_there_r4 : List Cond := [Cond.static yJ3_checkIndex_8e157, Cond.initialized RJ3, Cond.code yJ3_checkIndex_8e157 cJ3_checkIndex_8e157 3 (some .int), Cond.methodLink RJx4a65c 123 yJx4a65c_elementData_915e3, Cond.instanceMethod yJx4a65c_elementData_915e3, Cond.selects RJx4a65c yJx4a65c_elementData_915e3 yJx4a65c_elementData_915e3, Cond.code yJx4a65c_elementData_915e3 cJx4a65c_elementData_915e3 2 (some (.object "java/lang/Object")), Cond.fieldLink RJx4a65c 9 "java/util/ArrayList" "elementData" "[Ljava/lang/Object;"]
def wsX1_there : List Cond := .code yX1_there cX1_there 5 (some .int) :: ((wsX1_there_r1 ++ (wsX1_there_r2 ++ (wsX1_there_r3 ++ wsX1_there_r4))) ++ wsX10 ++ wsX00 ++ wsJx4a65c0 ++ (vx_atS RX1 62 "java/lang/IllegalArgumentException" ["java/lang/RuntimeException", "java/lang/Exception"]).filter goodWord)
def wsX1_showFilesIn_r1 : List Cond := [Cond.fieldLink RX1 9 "TierHouse" "labelOf" "[I", Cond.fieldLink RX1 22 "TierHouse" "files" "Ljava/util/ArrayList;", Cond.classLink RX1 114 "TierHouse$StoredFile", Cond.fieldLink RX1 230 "TierHouse$StoredFile" "folder" "I", Cond.fieldLink RX1 223 "TierHouse$StoredFile" "address" "I", Cond.methodLink RX1 217 yJx4a65c_size_8abf5, Cond.instanceMethod yJx4a65c_size_8abf5, Cond.selects RJx4a65c yJx4a65c_size_8abf5 yJx4a65c_size_8abf5, Cond.initialized RJx4a65c, Cond.code yJx4a65c_size_8abf5 cJx4a65c_size_8abf5 1 (some .int), Cond.fieldLink RJx4a65c 48 "java/util/ArrayList" "size" "I", Cond.methodLink RX1 220 yJx4a65c_get_915e3, Cond.instanceMethod yJx4a65c_get_915e3, Cond.selects RJx4a65c yJx4a65c_get_915e3 yJx4a65c_get_915e3, Cond.code yJx4a65c_get_915e3 cJx4a65c_get_915e3 2 (some (.object "java/lang/Object")), Cond.methodLink RJx4a65c 118 yJ15_checkIndex_7cf53, Cond.static yJ15_checkIndex_7cf53, Cond.initialized RJ15, Cond.code yJ15_checkIndex_7cf53 cJ15_checkIndex_7cf53 2 (some .int), Cond.methodLink RJ15 105 yJ3_checkIndex_8e157, Cond.static yJ3_checkIndex_8e157, Cond.initialized RJ3, Cond.code yJ3_checkIndex_8e157 cJ3_checkIndex_8e157 3 (some .int), Cond.methodLink RJx4a65c 123 yJx4a65c_elementData_915e3]
def wsX1_showFilesIn_r2 : List Cond := [Cond.instanceMethod yJx4a65c_elementData_915e3, Cond.selects RJx4a65c yJx4a65c_elementData_915e3 yJx4a65c_elementData_915e3, Cond.code yJx4a65c_elementData_915e3 cJx4a65c_elementData_915e3 2 (some (.object "java/lang/Object")), Cond.fieldLink RJx4a65c 9 "java/util/ArrayList" "elementData" "[Ljava/lang/Object;", Cond.methodLink RX1 190 yX1_labelOfAddress, Cond.static yX1_labelOfAddress, Cond.initialized RX1, Cond.code yX1_labelOfAddress cX1_labelOfAddress 1 (some .int), Cond.methodLink RX1 84 yX1_mayFlow, Cond.static yX1_mayFlow, Cond.code yX1_mayFlow cX1_mayFlow 2 (some .boolean), Cond.methodLink RX1 175 yX1_secrecyOf, Cond.static yX1_secrecyOf, Cond.code yX1_secrecyOf cX1_secrecyOf 1 (some .int), Cond.methodLink RX1 178 yX1_secretsOf, Cond.static yX1_secretsOf, Cond.code yX1_secretsOf cX1_secretsOf 1 (some .int), Cond.methodLink RX1 181 yX1_isWithin, Cond.static yX1_isWithin, Cond.code yX1_isWithin cX1_isWithin 2 (some .boolean), Cond.methodLink RX1 184 yX1_trustOf, Cond.static yX1_trustOf, Cond.code yX1_trustOf cX1_trustOf 1 (some .int), Cond.methodLink RX1 187 yX1_warrantsOf]
def wsX1_showFilesIn_r3 : List Cond := [Cond.static yX1_warrantsOf, Cond.code yX1_warrantsOf cX1_warrantsOf 1 (some .int), Cond.methodLink RX1 146 yX1_show, Cond.instanceMethod yX1_show, Cond.selects RX1 yX1_show yX1_show, Cond.code yX1_show cX1_show 3 none, Cond.fieldLink RX1 38 "TierHouse" "seenCount" "[I", Cond.fieldLink RX1 35 "TierHouse" "seenBy" "[[I"]
def wsX1_showFilesIn : List Cond := .code yX1_showFilesIn cX1_showFilesIn 6 none :: ((wsX1_showFilesIn_r1 ++ (wsX1_showFilesIn_r2 ++ wsX1_showFilesIn_r3)) ++ wsX10 ++ wsX00 ++ wsJx4a65c0)
def wsX1_listed_r1 : List Cond := [Cond.fieldLink RX1 38 "TierHouse" "seenCount" "[I", Cond.methodLink RX1 47 yX1_requireSubject, Cond.static yX1_requireSubject, Cond.initialized RX1, Cond.code yX1_requireSubject cX1_requireSubject 1 none, Cond.classLink RX1 58 "java/lang/IllegalArgumentException", Cond.initialized "java/lang/IllegalArgumentException", Cond.methodLink RX1 88 yX1_requireFile, Cond.static yX1_requireFile, Cond.code yX1_requireFile cX1_requireFile 2 none, Cond.methodLink RX1 51 yX1_requireLabel, Cond.static yX1_requireLabel, Cond.code yX1_requireLabel cX1_requireLabel 1 none, Cond.methodLink RX1 103 yX1_requireNumber, Cond.static yX1_requireNumber, Cond.code yX1_requireNumber cX1_requireNumber 1 none, Cond.methodLink RX1 100 yX1_forgetSeen, Cond.instanceMethod yX1_forgetSeen, Cond.selects RX1 yX1_forgetSeen yX1_forgetSeen, Cond.code yX1_forgetSeen cX1_forgetSeen 2 none, Cond.methodLink RX1 143 yX1_verdictOnReading, Cond.instanceMethod yX1_verdictOnReading, Cond.selects RX1 yX1_verdictOnReading yX1_verdictOnReading, Cond.code yX1_verdictOnReading cX1_verdictOnReading 4 (some .int)]
def wsX1_listed_r2 : List Cond := [Cond.fieldLink RX1 9 "TierHouse" "labelOf" "[I", Cond.methodLink RX1 84 yX1_mayFlow, Cond.static yX1_mayFlow, Cond.code yX1_mayFlow cX1_mayFlow 2 (some .boolean), Cond.methodLink RX1 175 yX1_secrecyOf, Cond.static yX1_secrecyOf, Cond.code yX1_secrecyOf cX1_secrecyOf 1 (some .int), Cond.methodLink RX1 178 yX1_secretsOf, Cond.static yX1_secretsOf, Cond.code yX1_secretsOf cX1_secretsOf 1 (some .int), Cond.methodLink RX1 181 yX1_isWithin, Cond.static yX1_isWithin, Cond.code yX1_isWithin cX1_isWithin 2 (some .boolean), Cond.methodLink RX1 184 yX1_trustOf, Cond.static yX1_trustOf, Cond.code yX1_trustOf cX1_trustOf 1 (some .int), Cond.methodLink RX1 187 yX1_warrantsOf, Cond.static yX1_warrantsOf, Cond.code yX1_warrantsOf cX1_warrantsOf 1 (some .int), Cond.methodLink RX1 132 yX1_addressOf, Cond.static yX1_addressOf, Cond.code yX1_addressOf cX1_addressOf 2 (some .int), Cond.methodLink RX1 149 yX1_showFilesIn, Cond.instanceMethod yX1_showFilesIn]
def wsX1_listed_r3 : List Cond := [Cond.selects RX1 yX1_showFilesIn yX1_showFilesIn, Cond.code yX1_showFilesIn cX1_showFilesIn 6 none, Cond.fieldLink RX1 22 "TierHouse" "files" "Ljava/util/ArrayList;", Cond.classLink RX1 114 "TierHouse$StoredFile", Cond.fieldLink RX1 230 "TierHouse$StoredFile" "folder" "I", Cond.fieldLink RX1 223 "TierHouse$StoredFile" "address" "I", Cond.methodLink RX1 217 yJx4a65c_size_8abf5, Cond.instanceMethod yJx4a65c_size_8abf5, Cond.selects RJx4a65c yJx4a65c_size_8abf5 yJx4a65c_size_8abf5, Cond.initialized RJx4a65c, Cond.code yJx4a65c_size_8abf5 cJx4a65c_size_8abf5 1 (some .int), Cond.fieldLink RJx4a65c 48 "java/util/ArrayList" "size" "I", Cond.methodLink RX1 220 yJx4a65c_get_915e3, Cond.instanceMethod yJx4a65c_get_915e3, Cond.selects RJx4a65c yJx4a65c_get_915e3 yJx4a65c_get_915e3, Cond.code yJx4a65c_get_915e3 cJx4a65c_get_915e3 2 (some (.object "java/lang/Object")), Cond.methodLink RJx4a65c 118 yJ15_checkIndex_7cf53, Cond.static yJ15_checkIndex_7cf53, Cond.initialized RJ15, Cond.code yJ15_checkIndex_7cf53 cJ15_checkIndex_7cf53 2 (some .int), Cond.methodLink RJ15 105 yJ3_checkIndex_8e157, Cond.static yJ3_checkIndex_8e157, Cond.initialized RJ3, Cond.code yJ3_checkIndex_8e157 cJ3_checkIndex_8e157 3 (some .int)]
def wsX1_listed_r4 : List Cond := [Cond.methodLink RJx4a65c 123 yJx4a65c_elementData_915e3, Cond.instanceMethod yJx4a65c_elementData_915e3, Cond.selects RJx4a65c yJx4a65c_elementData_915e3 yJx4a65c_elementData_915e3, Cond.code yJx4a65c_elementData_915e3 cJx4a65c_elementData_915e3 2 (some (.object "java/lang/Object")), Cond.fieldLink RJx4a65c 9 "java/util/ArrayList" "elementData" "[Ljava/lang/Object;", Cond.methodLink RX1 190 yX1_labelOfAddress, Cond.static yX1_labelOfAddress, Cond.code yX1_labelOfAddress cX1_labelOfAddress 1 (some .int), Cond.methodLink RX1 146 yX1_show, Cond.instanceMethod yX1_show, Cond.selects RX1 yX1_show yX1_show, Cond.code yX1_show cX1_show 3 none, Cond.fieldLink RX1 35 "TierHouse" "seenBy" "[[I"]
def wsX1_listed : List Cond := .code yX1_listed cX1_listed 5 (some .int) :: ((wsX1_listed_r1 ++ (wsX1_listed_r2 ++ (wsX1_listed_r3 ++ wsX1_listed_r4))) ++ wsX10 ++ wsX00 ++ wsJx4a65c0 ++ (vx_atS RX1 62 "java/lang/IllegalArgumentException" ["java/lang/RuntimeException", "java/lang/Exception"]).filter goodWord)
def wsX1_answerRelease_r1 : List Cond := [Cond.fieldLink RX1 9 "TierHouse" "labelOf" "[I", Cond.fieldLink RX1 113 "TierHouse$StoredFile" "count" "I", Cond.classLink RX1 114 RX0, Cond.instantiable RX0 6, Cond.initialized RX0, Cond.methodLink RX1 65 yX1_listingOf, Cond.static yX1_listingOf, Cond.initialized RX1, Cond.code yX1_listingOf cX1_listingOf 3 (some .int), Cond.methodLink RX1 69 yX1_isListed, Cond.instanceMethod yX1_isListed, Cond.selects RX1 yX1_isListed yX1_isListed, Cond.code yX1_isListed cX1_isListed 3 (some .boolean), Cond.fieldLink RX1 29 "TierHouse" "listingCount" "I", Cond.fieldLink RX1 26 "TierHouse" "listings" "[I", Cond.methodLink RX1 109 yX1_find, Cond.instanceMethod yX1_find, Cond.selects RX1 yX1_find yX1_find, Cond.code yX1_find cX1_find 4 (some (.object "TierHouse$StoredFile")), Cond.fieldLink RX1 22 "TierHouse" "files" "Ljava/util/ArrayList;", Cond.classLink RX1 114 "TierHouse$StoredFile", Cond.methodLink RX1 132 yX1_addressOf, Cond.static yX1_addressOf, Cond.code yX1_addressOf cX1_addressOf 2 (some .int)]
def wsX1_answerRelease_r2 : List Cond := [Cond.methodLink RX1 136 yX1_placeOf, Cond.instanceMethod yX1_placeOf, Cond.selects RX1 yX1_placeOf yX1_placeOf, Cond.code yX1_placeOf cX1_placeOf 3 (some .int), Cond.fieldLink RX1 223 "TierHouse$StoredFile" "address" "I", Cond.methodLink RX1 217 yJx4a65c_size_8abf5, Cond.instanceMethod yJx4a65c_size_8abf5, Cond.selects RJx4a65c yJx4a65c_size_8abf5 yJx4a65c_size_8abf5, Cond.initialized RJx4a65c, Cond.code yJx4a65c_size_8abf5 cJx4a65c_size_8abf5 1 (some .int), Cond.fieldLink RJx4a65c 48 "java/util/ArrayList" "size" "I", Cond.methodLink RX1 220 yJx4a65c_get_915e3, Cond.instanceMethod yJx4a65c_get_915e3, Cond.selects RJx4a65c yJx4a65c_get_915e3 yJx4a65c_get_915e3, Cond.code yJx4a65c_get_915e3 cJx4a65c_get_915e3 2 (some (.object "java/lang/Object")), Cond.methodLink RJx4a65c 118 yJ15_checkIndex_7cf53, Cond.static yJ15_checkIndex_7cf53, Cond.initialized RJ15, Cond.code yJ15_checkIndex_7cf53 cJ15_checkIndex_7cf53 2 (some .int), Cond.methodLink RJ15 105 yJ3_checkIndex_8e157, Cond.static yJ3_checkIndex_8e157, Cond.initialized RJ3, Cond.code yJ3_checkIndex_8e157 cJ3_checkIndex_8e157 3 (some .int), Cond.methodLink RJx4a65c 123 yJx4a65c_elementData_915e3]
def wsX1_answerRelease_r3 : List Cond := [Cond.instanceMethod yJx4a65c_elementData_915e3, Cond.selects RJx4a65c yJx4a65c_elementData_915e3 yJx4a65c_elementData_915e3, Cond.code yJx4a65c_elementData_915e3 cJx4a65c_elementData_915e3 2 (some (.object "java/lang/Object")), Cond.fieldLink RJx4a65c 9 "java/util/ArrayList" "elementData" "[Ljava/lang/Object;", Cond.methodLink RX1 210 yX0_use, Cond.instanceMethod yX0_use, Cond.selects RX0 yX0_use yX0_use, Cond.code yX0_use cX0_use 1 (some .int), Cond.fieldLink RX0 28 "TierHouse$StoredFile" "isGift" "Z", Cond.fieldLink RX0 15 "TierHouse$StoredFile" "count" "I", Cond.fieldLink RX0 19 "TierHouse$StoredFile" "giftCells" "I", Cond.methodLink RX0 32 yJ6_bitCount_0f7a4, Cond.static yJ6_bitCount_0f7a4, Cond.initialized RJ6, Cond.code yJ6_bitCount_0f7a4 cJ6_bitCount_0f7a4 1 (some .int), Cond.constant RJ6 265 (1431655765), Cond.constant RJ6 266 (858993459), Cond.constant RJ6 267 (252645135), Cond.methodLink RX1 121 yX1_hasRoom, Cond.instanceMethod yX1_hasRoom, Cond.selects RX1 yX1_hasRoom yX1_hasRoom, Cond.code yX1_hasRoom cX1_hasRoom 3 (some .boolean), Cond.fieldLink RX1 13 "TierHouse" "quotaOf" "[I", Cond.methodLink RX1 155 yX1_usedBy]
def wsX1_answerRelease_r4 : List Cond := [Cond.instanceMethod yX1_usedBy, Cond.selects RX1 yX1_usedBy yX1_usedBy, Cond.code yX1_usedBy cX1_usedBy 5 (some .int), Cond.fieldLink RX1 16 "TierHouse" "spentBy" "[I", Cond.methodLink RX1 190 yX1_labelOfAddress, Cond.static yX1_labelOfAddress, Cond.code yX1_labelOfAddress cX1_labelOfAddress 1 (some .int), Cond.methodLink RX1 199 yX1_isFull, Cond.instanceMethod yX1_isFull, Cond.selects RX1 yX1_isFull yX1_isFull, Cond.code yX1_isFull cX1_isFull 1 (some .boolean), Cond.methodLink RX1 203 yX0_init, Cond.instanceMethod yX0_init, Cond.code yX0_init cX0_init 4 none, Cond.methodLink RX0 3 objectInit, Cond.instanceMethod objectInit, Cond.code objectInit ⟨#[0xb1]⟩ 1 none, Cond.arrayClass .int, Cond.fieldLink RX0 9 "TierHouse$StoredFile" "cells" "[I", Cond.fieldLink RX0 22 "TierHouse$StoredFile" "address" "I", Cond.fieldLink RX0 25 "TierHouse$StoredFile" "folder" "I", Cond.methodLink RX1 206 yX1_store, Cond.instanceMethod yX1_store, Cond.selects RX1 yX1_store yX1_store]
def wsX1_answerRelease_r5 : List Cond := [Cond.code yX1_store cX1_store 3 none, Cond.methodLink RX1 226 yJx4a65c_add_7a177, Cond.instanceMethod yJx4a65c_add_7a177, Cond.selects RJx4a65c yJx4a65c_add_7a177 yJx4a65c_add_7a177, Cond.code yJx4a65c_add_7a177 cJx4a65c_add_7a177 5 none, Cond.fieldLink RJx4a65c 63 "java/util/ArrayList" "modCount" "I", Cond.sameField "java/util/ArrayList" "java/util/AbstractList" "modCount" "I", Cond.methodLink RJx4a65c 112 arraycopyName, Cond.native arraycopyName, Cond.static arraycopyName, Cond.initialized "java/lang/System", Cond.methodLink RJx4a65c 135 yJx4a65c_rangeCheckForAdd_d00df, Cond.instanceMethod yJx4a65c_rangeCheckForAdd_d00df, Cond.selects RJx4a65c yJx4a65c_rangeCheckForAdd_d00df yJx4a65c_rangeCheckForAdd_d00df, Cond.code yJx4a65c_rangeCheckForAdd_d00df cJx4a65c_rangeCheckForAdd_d00df 2 none, Cond.methodLink RJx4a65c 129 yJx4a65c_grow_d5877, Cond.instanceMethod yJx4a65c_grow_d5877, Cond.selects RJx4a65c yJx4a65c_grow_d5877 yJx4a65c_grow_d5877, Cond.code yJx4a65c_grow_d5877 cJx4a65c_grow_d5877 1 (some (.array (.object "java/lang/Object"))), Cond.methodLink RJx4a65c 69 yJx4a65c_grow_92f84, Cond.instanceMethod yJx4a65c_grow_92f84, Cond.selects RJx4a65c yJx4a65c_grow_92f84 yJx4a65c_grow_92f84, Cond.code yJx4a65c_grow_92f84 cJx4a65c_grow_92f84 4 (some (.array (.object "java/lang/Object"))), Cond.fieldLink RJx4a65c 39 "java/util/ArrayList" "DEFAULTCAPACITY_EMPTY_ELEMENTDATA" "[Ljava/lang/Object;"]
def wsX1_answerRelease_r6 : List Cond := [Cond.methodLink RJx4a65c 79 Lib.Math.max.name, Cond.static Lib.Math.max.name, Cond.initialized "java/lang/Math", Cond.code Lib.Math.max.name Lib.Math.max.code 2 (some .int), Cond.classLink RJx4a65c 7 "java/lang/Object", Cond.methodLink RJx4a65c 73 yJ8_newLength_cabcc, Cond.static yJ8_newLength_cabcc, Cond.initialized RJ8, Cond.code yJ8_newLength_cabcc cJ8_newLength_cabcc 4 (some .int), Cond.methodLink RJ8 194 Lib.Math.max.name, Cond.constant RJ8 200 (2147483639), Cond.methodLink RJ8 201 yJ8_hugeLength_7cf53, Cond.static yJ8_hugeLength_7cf53, Cond.code yJ8_hugeLength_7cf53 cJ8_hugeLength_7cf53 3 (some .int), Cond.methodLink RJx4a65c 66 yJ7_copyOf_1904c, Cond.static yJ7_copyOf_1904c, Cond.initialized RJ7, Cond.code yJ7_copyOf_1904c cJ7_copyOf_1904c 2 (some (.array (.object "java/lang/Object"))), Cond.methodLink RJ7 86 ⟨"java/lang/Object", "getClass", "()Ljava/lang/Class;"⟩, Cond.selects "[Ljava/lang/Object;" ⟨"java/lang/Object", "getClass", "()Ljava/lang/Class;"⟩ ⟨"java/lang/Object", "getClass", "()Ljava/lang/Class;"⟩, Cond.instanceMethod ⟨"java/lang/Object", "getClass", "()Ljava/lang/Class;"⟩, Cond.native ⟨"java/lang/Object", "getClass", "()Ljava/lang/Class;"⟩, Cond.methodLink RJ7 300 yJ7_copyOf_6403c, Cond.static yJ7_copyOf_6403c]
def wsX1_answerRelease_r7 : List Cond := [Cond.code yJ7_copyOf_6403c cJ7_copyOf_6403c 4 (some (.array (.object "java/lang/Object"))), Cond.classLink RJ7 110 "[Ljava/lang/Object;", Cond.classLink RJ7 2 "java/lang/Object", Cond.methodLink RJ7 304 Lib.Math.min.name, Cond.static Lib.Math.min.name, Cond.code Lib.Math.min.name Lib.Math.min.code 2 (some .int), Cond.methodLink RJ7 150 arraycopyName, Cond.methodLink RX1 214 yX0_becomeCopyOf, Cond.instanceMethod yX0_becomeCopyOf, Cond.selects RX0 yX0_becomeCopyOf yX0_becomeCopyOf, Cond.code yX0_becomeCopyOf cX0_becomeCopyOf 2 none, Cond.methodLink RX0 38 arraycopyName]
def wsX1_answerRelease : List Cond := .code yX1_answerRelease cX1_answerRelease 8 (some .int) :: ((wsX1_answerRelease_r1 ++ (wsX1_answerRelease_r2 ++ (wsX1_answerRelease_r3 ++ (wsX1_answerRelease_r4 ++ (wsX1_answerRelease_r5 ++ (wsX1_answerRelease_r6 ++ wsX1_answerRelease_r7)))))) ++ wsX10 ++ wsX00 ++ wsJx4a65c0)
def wsX1_release_r1 : List Cond := [Cond.classLink RX1 73 "java/lang/UnsupportedOperationException", Cond.initialized "java/lang/UnsupportedOperationException", Cond.methodLink RX1 47 yX1_requireSubject, Cond.static yX1_requireSubject, Cond.initialized RX1, Cond.code yX1_requireSubject cX1_requireSubject 1 none, Cond.classLink RX1 58 "java/lang/IllegalArgumentException", Cond.initialized "java/lang/IllegalArgumentException", Cond.methodLink RX1 88 yX1_requireFile, Cond.static yX1_requireFile, Cond.code yX1_requireFile cX1_requireFile 2 none, Cond.methodLink RX1 51 yX1_requireLabel, Cond.static yX1_requireLabel, Cond.code yX1_requireLabel cX1_requireLabel 1 none, Cond.methodLink RX1 103 yX1_requireNumber, Cond.static yX1_requireNumber, Cond.code yX1_requireNumber cX1_requireNumber 1 none, Cond.methodLink RX1 152 yX1_answerRelease, Cond.instanceMethod yX1_answerRelease, Cond.selects RX1 yX1_answerRelease yX1_answerRelease, Cond.code yX1_answerRelease cX1_answerRelease 8 (some .int), Cond.fieldLink RX1 9 "TierHouse" "labelOf" "[I", Cond.fieldLink RX1 113 "TierHouse$StoredFile" "count" "I", Cond.classLink RX1 114 RX0]
def wsX1_release_r2 : List Cond := [Cond.instantiable RX0 6, Cond.initialized RX0, Cond.methodLink RX1 65 yX1_listingOf, Cond.static yX1_listingOf, Cond.code yX1_listingOf cX1_listingOf 3 (some .int), Cond.methodLink RX1 69 yX1_isListed, Cond.instanceMethod yX1_isListed, Cond.selects RX1 yX1_isListed yX1_isListed, Cond.code yX1_isListed cX1_isListed 3 (some .boolean), Cond.fieldLink RX1 29 "TierHouse" "listingCount" "I", Cond.fieldLink RX1 26 "TierHouse" "listings" "[I", Cond.methodLink RX1 109 yX1_find, Cond.instanceMethod yX1_find, Cond.selects RX1 yX1_find yX1_find, Cond.code yX1_find cX1_find 4 (some (.object "TierHouse$StoredFile")), Cond.fieldLink RX1 22 "TierHouse" "files" "Ljava/util/ArrayList;", Cond.classLink RX1 114 "TierHouse$StoredFile", Cond.methodLink RX1 132 yX1_addressOf, Cond.static yX1_addressOf, Cond.code yX1_addressOf cX1_addressOf 2 (some .int), Cond.methodLink RX1 136 yX1_placeOf, Cond.instanceMethod yX1_placeOf, Cond.selects RX1 yX1_placeOf yX1_placeOf, Cond.code yX1_placeOf cX1_placeOf 3 (some .int)]
def wsX1_release_r3 : List Cond := [Cond.fieldLink RX1 223 "TierHouse$StoredFile" "address" "I", Cond.methodLink RX1 217 yJx4a65c_size_8abf5, Cond.instanceMethod yJx4a65c_size_8abf5, Cond.selects RJx4a65c yJx4a65c_size_8abf5 yJx4a65c_size_8abf5, Cond.initialized RJx4a65c, Cond.code yJx4a65c_size_8abf5 cJx4a65c_size_8abf5 1 (some .int), Cond.fieldLink RJx4a65c 48 "java/util/ArrayList" "size" "I", Cond.methodLink RX1 220 yJx4a65c_get_915e3, Cond.instanceMethod yJx4a65c_get_915e3, Cond.selects RJx4a65c yJx4a65c_get_915e3 yJx4a65c_get_915e3, Cond.code yJx4a65c_get_915e3 cJx4a65c_get_915e3 2 (some (.object "java/lang/Object")), Cond.methodLink RJx4a65c 118 yJ15_checkIndex_7cf53, Cond.static yJ15_checkIndex_7cf53, Cond.initialized RJ15, Cond.code yJ15_checkIndex_7cf53 cJ15_checkIndex_7cf53 2 (some .int), Cond.methodLink RJ15 105 yJ3_checkIndex_8e157, Cond.static yJ3_checkIndex_8e157, Cond.initialized RJ3, Cond.code yJ3_checkIndex_8e157 cJ3_checkIndex_8e157 3 (some .int), Cond.methodLink RJx4a65c 123 yJx4a65c_elementData_915e3, Cond.instanceMethod yJx4a65c_elementData_915e3, Cond.selects RJx4a65c yJx4a65c_elementData_915e3 yJx4a65c_elementData_915e3, Cond.code yJx4a65c_elementData_915e3 cJx4a65c_elementData_915e3 2 (some (.object "java/lang/Object")), Cond.fieldLink RJx4a65c 9 "java/util/ArrayList" "elementData" "[Ljava/lang/Object;"]
def wsX1_release_r4 : List Cond := [Cond.methodLink RX1 210 yX0_use, Cond.instanceMethod yX0_use, Cond.selects RX0 yX0_use yX0_use, Cond.code yX0_use cX0_use 1 (some .int), Cond.fieldLink RX0 28 "TierHouse$StoredFile" "isGift" "Z", Cond.fieldLink RX0 15 "TierHouse$StoredFile" "count" "I", Cond.fieldLink RX0 19 "TierHouse$StoredFile" "giftCells" "I", Cond.methodLink RX0 32 yJ6_bitCount_0f7a4, Cond.static yJ6_bitCount_0f7a4, Cond.initialized RJ6, Cond.code yJ6_bitCount_0f7a4 cJ6_bitCount_0f7a4 1 (some .int), Cond.constant RJ6 265 (1431655765), Cond.constant RJ6 266 (858993459), Cond.constant RJ6 267 (252645135), Cond.methodLink RX1 121 yX1_hasRoom, Cond.instanceMethod yX1_hasRoom, Cond.selects RX1 yX1_hasRoom yX1_hasRoom, Cond.code yX1_hasRoom cX1_hasRoom 3 (some .boolean), Cond.fieldLink RX1 13 "TierHouse" "quotaOf" "[I", Cond.methodLink RX1 155 yX1_usedBy, Cond.instanceMethod yX1_usedBy, Cond.selects RX1 yX1_usedBy yX1_usedBy, Cond.code yX1_usedBy cX1_usedBy 5 (some .int), Cond.fieldLink RX1 16 "TierHouse" "spentBy" "[I"]
def wsX1_release_r5 : List Cond := [Cond.methodLink RX1 190 yX1_labelOfAddress, Cond.static yX1_labelOfAddress, Cond.code yX1_labelOfAddress cX1_labelOfAddress 1 (some .int), Cond.methodLink RX1 199 yX1_isFull, Cond.instanceMethod yX1_isFull, Cond.selects RX1 yX1_isFull yX1_isFull, Cond.code yX1_isFull cX1_isFull 1 (some .boolean), Cond.methodLink RX1 203 yX0_init, Cond.instanceMethod yX0_init, Cond.code yX0_init cX0_init 4 none, Cond.methodLink RX0 3 objectInit, Cond.instanceMethod objectInit, Cond.code objectInit ⟨#[0xb1]⟩ 1 none, Cond.arrayClass .int, Cond.fieldLink RX0 9 "TierHouse$StoredFile" "cells" "[I", Cond.fieldLink RX0 22 "TierHouse$StoredFile" "address" "I", Cond.fieldLink RX0 25 "TierHouse$StoredFile" "folder" "I", Cond.methodLink RX1 206 yX1_store, Cond.instanceMethod yX1_store, Cond.selects RX1 yX1_store yX1_store, Cond.code yX1_store cX1_store 3 none, Cond.methodLink RX1 226 yJx4a65c_add_7a177, Cond.instanceMethod yJx4a65c_add_7a177, Cond.selects RJx4a65c yJx4a65c_add_7a177 yJx4a65c_add_7a177]
def wsX1_release_r6 : List Cond := [Cond.code yJx4a65c_add_7a177 cJx4a65c_add_7a177 5 none, Cond.fieldLink RJx4a65c 63 "java/util/ArrayList" "modCount" "I", Cond.sameField "java/util/ArrayList" "java/util/AbstractList" "modCount" "I", Cond.methodLink RJx4a65c 112 arraycopyName, Cond.native arraycopyName, Cond.static arraycopyName, Cond.initialized "java/lang/System", Cond.methodLink RJx4a65c 135 yJx4a65c_rangeCheckForAdd_d00df, Cond.instanceMethod yJx4a65c_rangeCheckForAdd_d00df, Cond.selects RJx4a65c yJx4a65c_rangeCheckForAdd_d00df yJx4a65c_rangeCheckForAdd_d00df, Cond.code yJx4a65c_rangeCheckForAdd_d00df cJx4a65c_rangeCheckForAdd_d00df 2 none, Cond.methodLink RJx4a65c 129 yJx4a65c_grow_d5877, Cond.instanceMethod yJx4a65c_grow_d5877, Cond.selects RJx4a65c yJx4a65c_grow_d5877 yJx4a65c_grow_d5877, Cond.code yJx4a65c_grow_d5877 cJx4a65c_grow_d5877 1 (some (.array (.object "java/lang/Object"))), Cond.methodLink RJx4a65c 69 yJx4a65c_grow_92f84, Cond.instanceMethod yJx4a65c_grow_92f84, Cond.selects RJx4a65c yJx4a65c_grow_92f84 yJx4a65c_grow_92f84, Cond.code yJx4a65c_grow_92f84 cJx4a65c_grow_92f84 4 (some (.array (.object "java/lang/Object"))), Cond.fieldLink RJx4a65c 39 "java/util/ArrayList" "DEFAULTCAPACITY_EMPTY_ELEMENTDATA" "[Ljava/lang/Object;", Cond.methodLink RJx4a65c 79 Lib.Math.max.name, Cond.static Lib.Math.max.name, Cond.initialized "java/lang/Math", Cond.code Lib.Math.max.name Lib.Math.max.code 2 (some .int)]
def wsX1_release_r7 : List Cond := [Cond.classLink RJx4a65c 7 "java/lang/Object", Cond.methodLink RJx4a65c 73 yJ8_newLength_cabcc, Cond.static yJ8_newLength_cabcc, Cond.initialized RJ8, Cond.code yJ8_newLength_cabcc cJ8_newLength_cabcc 4 (some .int), Cond.methodLink RJ8 194 Lib.Math.max.name, Cond.constant RJ8 200 (2147483639), Cond.methodLink RJ8 201 yJ8_hugeLength_7cf53, Cond.static yJ8_hugeLength_7cf53, Cond.code yJ8_hugeLength_7cf53 cJ8_hugeLength_7cf53 3 (some .int), Cond.methodLink RJx4a65c 66 yJ7_copyOf_1904c, Cond.static yJ7_copyOf_1904c, Cond.initialized RJ7, Cond.code yJ7_copyOf_1904c cJ7_copyOf_1904c 2 (some (.array (.object "java/lang/Object"))), Cond.methodLink RJ7 86 ⟨"java/lang/Object", "getClass", "()Ljava/lang/Class;"⟩, Cond.selects "[Ljava/lang/Object;" ⟨"java/lang/Object", "getClass", "()Ljava/lang/Class;"⟩ ⟨"java/lang/Object", "getClass", "()Ljava/lang/Class;"⟩, Cond.instanceMethod ⟨"java/lang/Object", "getClass", "()Ljava/lang/Class;"⟩, Cond.native ⟨"java/lang/Object", "getClass", "()Ljava/lang/Class;"⟩, Cond.methodLink RJ7 300 yJ7_copyOf_6403c, Cond.static yJ7_copyOf_6403c, Cond.code yJ7_copyOf_6403c cJ7_copyOf_6403c 4 (some (.array (.object "java/lang/Object"))), Cond.classLink RJ7 110 "[Ljava/lang/Object;", Cond.classLink RJ7 2 "java/lang/Object", Cond.methodLink RJ7 304 Lib.Math.min.name]
def wsX1_release_r8 : List Cond := [Cond.static Lib.Math.min.name, Cond.code Lib.Math.min.name Lib.Math.min.code 2 (some .int), Cond.methodLink RJ7 150 arraycopyName, Cond.methodLink RX1 214 yX0_becomeCopyOf, Cond.instanceMethod yX0_becomeCopyOf, Cond.selects RX0 yX0_becomeCopyOf yX0_becomeCopyOf, Cond.code yX0_becomeCopyOf cX0_becomeCopyOf 2 none, Cond.methodLink RX0 38 arraycopyName, Cond.methodLink RX1 100 yX1_forgetSeen, Cond.instanceMethod yX1_forgetSeen, Cond.selects RX1 yX1_forgetSeen yX1_forgetSeen, Cond.code yX1_forgetSeen cX1_forgetSeen 2 none, Cond.fieldLink RX1 38 "TierHouse" "seenCount" "[I"]
def wsX1_release : List Cond := .code yX1_release cX1_release 6 (some .int) :: ((wsX1_release_r1 ++ (wsX1_release_r2 ++ (wsX1_release_r3 ++ (wsX1_release_r4 ++ (wsX1_release_r5 ++ (wsX1_release_r6 ++ (wsX1_release_r7 ++ wsX1_release_r8))))))) ++ wsX10 ++ wsX00 ++ wsJx4a65c0 ++ (vx_atS RX1 77 "java/lang/UnsupportedOperationException" ["java/lang/RuntimeException", "java/lang/Exception"]).filter goodWord ++ (vx_atS RX1 62 "java/lang/IllegalArgumentException" ["java/lang/RuntimeException", "java/lang/Exception"]).filter goodWord)
def wsX1_seen : List Cond := .code yX1_seen cX1_seen 3 (some .int) :: ([.fieldLink RX1 38 "TierHouse" "seenCount" "[I", .fieldLink RX1 35 "TierHouse" "seenBy" "[[I", .methodLink RX1 47 yX1_requireSubject, .static yX1_requireSubject, .initialized RX1, .code yX1_requireSubject cX1_requireSubject 1 none, .classLink RX1 58 "java/lang/IllegalArgumentException", .initialized "java/lang/IllegalArgumentException"] ++ wsX10 ++ (vx_atS RX1 62 "java/lang/IllegalArgumentException" ["java/lang/RuntimeException", "java/lang/Exception"]).filter goodWord)
def wsX1_countFilesAt_r1 : List Cond := [Cond.fieldLink RX1 22 "TierHouse" "files" "Ljava/util/ArrayList;", Cond.classLink RX1 114 "TierHouse$StoredFile", Cond.fieldLink RX1 223 "TierHouse$StoredFile" "address" "I", Cond.methodLink RX1 217 yJx4a65c_size_8abf5, Cond.instanceMethod yJx4a65c_size_8abf5, Cond.selects RJx4a65c yJx4a65c_size_8abf5 yJx4a65c_size_8abf5, Cond.initialized RJx4a65c, Cond.code yJx4a65c_size_8abf5 cJx4a65c_size_8abf5 1 (some .int), Cond.fieldLink RJx4a65c 48 "java/util/ArrayList" "size" "I", Cond.methodLink RX1 220 yJx4a65c_get_915e3, Cond.instanceMethod yJx4a65c_get_915e3, Cond.selects RJx4a65c yJx4a65c_get_915e3 yJx4a65c_get_915e3, Cond.code yJx4a65c_get_915e3 cJx4a65c_get_915e3 2 (some (.object "java/lang/Object")), Cond.methodLink RJx4a65c 118 yJ15_checkIndex_7cf53, Cond.static yJ15_checkIndex_7cf53, Cond.initialized RJ15, Cond.code yJ15_checkIndex_7cf53 cJ15_checkIndex_7cf53 2 (some .int), Cond.methodLink RJ15 105 yJ3_checkIndex_8e157, Cond.static yJ3_checkIndex_8e157, Cond.initialized RJ3, Cond.code yJ3_checkIndex_8e157 cJ3_checkIndex_8e157 3 (some .int), Cond.methodLink RJx4a65c 123 yJx4a65c_elementData_915e3, Cond.instanceMethod yJx4a65c_elementData_915e3, Cond.selects RJx4a65c yJx4a65c_elementData_915e3 yJx4a65c_elementData_915e3]
def wsX1_countFilesAt_r2 : List Cond := [Cond.code yJx4a65c_elementData_915e3 cJx4a65c_elementData_915e3 2 (some (.object "java/lang/Object")), Cond.fieldLink RJx4a65c 9 "java/util/ArrayList" "elementData" "[Ljava/lang/Object;", Cond.methodLink RX1 190 yX1_labelOfAddress, Cond.static yX1_labelOfAddress, Cond.initialized RX1, Cond.code yX1_labelOfAddress cX1_labelOfAddress 1 (some .int)]
def wsX1_countFilesAt : List Cond := .code yX1_countFilesAt cX1_countFilesAt 4 (some .int) :: ((wsX1_countFilesAt_r1 ++ wsX1_countFilesAt_r2) ++ wsX10 ++ wsX00 ++ wsJx4a65c0)
def wsX1_told_r1 : List Cond := [Cond.classLink RX1 58 "java/lang/IllegalArgumentException", Cond.initialized "java/lang/IllegalArgumentException", Cond.fieldLink RX1 16 "TierHouse" "spentBy" "[I", Cond.fieldLink RX1 13 "TierHouse" "quotaOf" "[I", Cond.methodLink RX1 51 yX1_requireLabel, Cond.static yX1_requireLabel, Cond.initialized RX1, Cond.code yX1_requireLabel cX1_requireLabel 1 none, Cond.methodLink RX1 155 yX1_usedBy, Cond.instanceMethod yX1_usedBy, Cond.selects RX1 yX1_usedBy yX1_usedBy, Cond.code yX1_usedBy cX1_usedBy 5 (some .int), Cond.fieldLink RX1 22 "TierHouse" "files" "Ljava/util/ArrayList;", Cond.classLink RX1 114 "TierHouse$StoredFile", Cond.fieldLink RX1 223 "TierHouse$StoredFile" "address" "I", Cond.methodLink RX1 217 yJx4a65c_size_8abf5, Cond.instanceMethod yJx4a65c_size_8abf5, Cond.selects RJx4a65c yJx4a65c_size_8abf5 yJx4a65c_size_8abf5, Cond.initialized RJx4a65c, Cond.code yJx4a65c_size_8abf5 cJx4a65c_size_8abf5 1 (some .int), Cond.fieldLink RJx4a65c 48 "java/util/ArrayList" "size" "I", Cond.methodLink RX1 220 yJx4a65c_get_915e3, Cond.instanceMethod yJx4a65c_get_915e3, Cond.selects RJx4a65c yJx4a65c_get_915e3 yJx4a65c_get_915e3]
def wsX1_told_r2 : List Cond := [Cond.code yJx4a65c_get_915e3 cJx4a65c_get_915e3 2 (some (.object "java/lang/Object")), Cond.methodLink RJx4a65c 118 yJ15_checkIndex_7cf53, Cond.static yJ15_checkIndex_7cf53, Cond.initialized RJ15, Cond.code yJ15_checkIndex_7cf53 cJ15_checkIndex_7cf53 2 (some .int), Cond.methodLink RJ15 105 yJ3_checkIndex_8e157, Cond.static yJ3_checkIndex_8e157, Cond.initialized RJ3, Cond.code yJ3_checkIndex_8e157 cJ3_checkIndex_8e157 3 (some .int), Cond.methodLink RJx4a65c 123 yJx4a65c_elementData_915e3, Cond.instanceMethod yJx4a65c_elementData_915e3, Cond.selects RJx4a65c yJx4a65c_elementData_915e3 yJx4a65c_elementData_915e3, Cond.code yJx4a65c_elementData_915e3 cJx4a65c_elementData_915e3 2 (some (.object "java/lang/Object")), Cond.fieldLink RJx4a65c 9 "java/util/ArrayList" "elementData" "[Ljava/lang/Object;", Cond.methodLink RX1 190 yX1_labelOfAddress, Cond.static yX1_labelOfAddress, Cond.code yX1_labelOfAddress cX1_labelOfAddress 1 (some .int), Cond.methodLink RX1 210 yX0_use, Cond.instanceMethod yX0_use, Cond.selects RX0 yX0_use yX0_use, Cond.initialized RX0, Cond.code yX0_use cX0_use 1 (some .int), Cond.fieldLink RX0 28 "TierHouse$StoredFile" "isGift" "Z", Cond.fieldLink RX0 15 "TierHouse$StoredFile" "count" "I"]
def wsX1_told_r3 : List Cond := [Cond.fieldLink RX0 19 "TierHouse$StoredFile" "giftCells" "I", Cond.methodLink RX0 32 yJ6_bitCount_0f7a4, Cond.static yJ6_bitCount_0f7a4, Cond.initialized RJ6, Cond.code yJ6_bitCount_0f7a4 cJ6_bitCount_0f7a4 1 (some .int), Cond.constant RJ6 265 (1431655765), Cond.constant RJ6 266 (858993459), Cond.constant RJ6 267 (252645135), Cond.methodLink RX1 158 yX1_countFilesAt, Cond.instanceMethod yX1_countFilesAt, Cond.selects RX1 yX1_countFilesAt yX1_countFilesAt, Cond.code yX1_countFilesAt cX1_countFilesAt 4 (some .int)]
def wsX1_told : List Cond := .code yX1_told cX1_told 3 (some .int) :: ((wsX1_told_r1 ++ (wsX1_told_r2 ++ wsX1_told_r3)) ++ wsX10 ++ wsX00 ++ wsJx4a65c0 ++ (vx_atS RX1 62 "java/lang/IllegalArgumentException" ["java/lang/RuntimeException", "java/lang/Exception"]).filter goodWord)
def wsX2_init : List Cond := .code yX2_init cX2_init 2 none :: ([.methodLink RX2 1 objectInit, .instanceMethod objectInit, .code objectInit ⟨#[0xb1]⟩ 1 none, .arrayClass .int, .fieldLink RX2 7 "TierHouseModel" "labels" "[I", .arrayClass .boolean, .fieldLink RX2 13 "TierHouseModel" "has" "[Z", .fieldLink RX2 17 "TierHouseModel" "quotas" "[I", .fieldLink RX2 20 "TierHouseModel" "spent" "[I", .fieldLink RX2 23 "TierHouseModel" "names" "[I", .fieldLink RX2 26 "TierHouseModel" "gifts" "[Z", .fieldLink RX2 29 "TierHouseModel" "folders" "[I", .fieldLink RX2 32 "TierHouseModel" "sizes" "[I", .fieldLink RX2 35 "TierHouseModel" "cells" "[I", .fieldLink RX2 38 "TierHouseModel" "given" "[Z", .fieldLink RX2 41 "TierHouseModel" "lists" "[I", .fieldLink RX2 44 "TierHouseModel" "seen" "[I", .fieldLink RX2 47 "TierHouseModel" "seenCount" "[I"] ++ wsX20)
def wsX2_thrown : List Cond := .code yX2_thrown cX2_thrown 1 (some .int) :: ([.fieldLink RX2 50 "TierHouseModel" "thrown" "I"] ++ wsX20)
def wsX2_fails : List Cond := .code yX2_fails cX2_fails 3 (some .boolean) :: ([.fieldLink RX2 50 "TierHouseModel" "thrown" "I"] ++ wsX20)
def wsX2_within : List Cond := .code yX2_within cX2_within 2 (some .boolean) :: ([])
def wsX2_isSubject : List Cond := .code yX2_isSubject cX2_isSubject 1 (some .boolean) :: ([.methodLink RX2 54 yX2_within, .static yX2_within, .initialized RX2, .code yX2_within cX2_within 2 (some .boolean)])
def wsX2_isLabel : List Cond := .code yX2_isLabel cX2_isLabel 1 (some .boolean) :: ([.methodLink RX2 54 yX2_within, .static yX2_within, .initialized RX2, .code yX2_within cX2_within 2 (some .boolean)])
def wsX2_isNumber : List Cond := .code yX2_isNumber cX2_isNumber 1 (some .boolean) :: ([.methodLink RX2 54 yX2_within, .static yX2_within, .initialized RX2, .code yX2_within cX2_within 2 (some .boolean)])
def wsX2_may : List Cond := .code yX2_may cX2_may 3 (some .boolean) :: ([])
def wsX2_find : List Cond := .code yX2_find cX2_find 4 (some .int) :: ([.fieldLink RX2 58 "TierHouseModel" "files" "I", .fieldLink RX2 23 "TierHouseModel" "names" "[I"] ++ wsX20)
def wsX2_countOf : List Cond := .code yX2_countOf cX2_countOf 4 (some .int) :: ([.fieldLink RX2 26 "TierHouseModel" "gifts" "[Z", .fieldLink RX2 32 "TierHouseModel" "sizes" "[I", .fieldLink RX2 38 "TierHouseModel" "given" "[Z"] ++ wsX20)
def wsX2_uses : List Cond := .code yX2_uses cX2_uses 4 (some .int) :: ([.fieldLink RX2 20 "TierHouseModel" "spent" "[I", .fieldLink RX2 58 "TierHouseModel" "files" "I", .fieldLink RX2 23 "TierHouseModel" "names" "[I", .methodLink RX2 61 yX2_countOf, .instanceMethod yX2_countOf, .selects RX2 yX2_countOf yX2_countOf, .initialized RX2, .code yX2_countOf cX2_countOf 4 (some .int), .fieldLink RX2 26 "TierHouseModel" "gifts" "[Z", .fieldLink RX2 32 "TierHouseModel" "sizes" "[I", .fieldLink RX2 38 "TierHouseModel" "given" "[Z"] ++ wsX20)
def wsX2_add : List Cond := .code yX2_add cX2_add 5 (some .int) :: ([.fieldLink RX2 23 "TierHouseModel" "names" "[I", .fieldLink RX2 58 "TierHouseModel" "files" "I", .fieldLink RX2 26 "TierHouseModel" "gifts" "[Z", .fieldLink RX2 29 "TierHouseModel" "folders" "[I", .fieldLink RX2 32 "TierHouseModel" "sizes" "[I"] ++ wsX20)
def wsX2_move : List Cond := .code yX2_move cX2_move 4 none :: ([.fieldLink RX2 23 "TierHouseModel" "names" "[I", .fieldLink RX2 26 "TierHouseModel" "gifts" "[Z", .fieldLink RX2 29 "TierHouseModel" "folders" "[I", .fieldLink RX2 32 "TierHouseModel" "sizes" "[I", .fieldLink RX2 35 "TierHouseModel" "cells" "[I", .fieldLink RX2 38 "TierHouseModel" "given" "[Z"] ++ wsX20)
def wsX2_append : List Cond := .code yX2_append cX2_append 4 none :: ([.fieldLink RX2 35 "TierHouseModel" "cells" "[I", .fieldLink RX2 32 "TierHouseModel" "sizes" "[I", .fieldLink RX2 38 "TierHouseModel" "given" "[Z"] ++ wsX20)
def wsX2_subject : List Cond := .code yX2_subject cX2_subject 3 (some .boolean) :: ([.fieldLink RX2 13 "TierHouseModel" "has" "[Z", .fieldLink RX2 7 "TierHouseModel" "labels" "[I", .methodLink RX2 65 yX2_isSubject, .static yX2_isSubject, .initialized RX2, .code yX2_isSubject cX2_isSubject 1 (some .boolean), .methodLink RX2 54 yX2_within, .static yX2_within, .code yX2_within cX2_within 2 (some .boolean), .methodLink RX2 69 yX2_isLabel, .static yX2_isLabel, .code yX2_isLabel cX2_isLabel 1 (some .boolean), .methodLink RX2 72 yX2_fails, .instanceMethod yX2_fails, .selects RX2 yX2_fails yX2_fails, .code yX2_fails cX2_fails 3 (some .boolean), .fieldLink RX2 50 "TierHouseModel" "thrown" "I"] ++ wsX20)
def wsX2_quota : List Cond := .code yX2_quota cX2_quota 4 (some .int) :: ([.fieldLink RX2 17 "TierHouseModel" "quotas" "[I", .methodLink RX2 69 yX2_isLabel, .static yX2_isLabel, .initialized RX2, .code yX2_isLabel cX2_isLabel 1 (some .boolean), .methodLink RX2 54 yX2_within, .static yX2_within, .code yX2_within cX2_within 2 (some .boolean), .methodLink RX2 72 yX2_fails, .instanceMethod yX2_fails, .selects RX2 yX2_fails yX2_fails, .code yX2_fails cX2_fails 3 (some .boolean), .fieldLink RX2 50 "TierHouseModel" "thrown" "I"] ++ wsX20)
def wsX2_listOf : List Cond := .code yX2_listOf cX2_listOf 5 (some .int) :: ([.fieldLink RX2 76 "TierHouseModel" "listCount" "I", .fieldLink RX2 41 "TierHouseModel" "lists" "[I"] ++ wsX20)
def wsX2_list : List Cond := .code yX2_list cX2_list 7 (some .boolean) :: ([.fieldLink RX2 76 "TierHouseModel" "listCount" "I", .fieldLink RX2 41 "TierHouseModel" "lists" "[I", .methodLink RX2 65 yX2_isSubject, .static yX2_isSubject, .initialized RX2, .code yX2_isSubject cX2_isSubject 1 (some .boolean), .methodLink RX2 54 yX2_within, .static yX2_within, .code yX2_within cX2_within 2 (some .boolean), .methodLink RX2 69 yX2_isLabel, .static yX2_isLabel, .code yX2_isLabel cX2_isLabel 1 (some .boolean), .methodLink RX2 72 yX2_fails, .instanceMethod yX2_fails, .selects RX2 yX2_fails yX2_fails, .code yX2_fails cX2_fails 3 (some .boolean), .fieldLink RX2 50 "TierHouseModel" "thrown" "I", .methodLink RX2 79 yX2_listOf, .instanceMethod yX2_listOf, .selects RX2 yX2_listOf yX2_listOf, .code yX2_listOf cX2_listOf 5 (some .int)] ++ wsX20)
def wsX2_flows : List Cond := .code yX2_flows cX2_flows 3 (some .boolean) :: ([.methodLink RX2 69 yX2_isLabel, .static yX2_isLabel, .initialized RX2, .code yX2_isLabel cX2_isLabel 1 (some .boolean), .methodLink RX2 54 yX2_within, .static yX2_within, .code yX2_within cX2_within 2 (some .boolean), .methodLink RX2 72 yX2_fails, .instanceMethod yX2_fails, .selects RX2 yX2_fails yX2_fails, .code yX2_fails cX2_fails 3 (some .boolean), .fieldLink RX2 50 "TierHouseModel" "thrown" "I", .methodLink RX2 83 yX2_may, .static yX2_may, .code yX2_may cX2_may 3 (some .boolean)] ++ wsX20)
def wsX2_begin : List Cond := .code yX2_begin cX2_begin 2 none :: ([.fieldLink RX2 47 "TierHouseModel" "seenCount" "[I"] ++ wsX20)
def wsX2_isFull : List Cond := .code yX2_isFull cX2_isFull 3 (some .boolean) :: ([.fieldLink RX2 7 "TierHouseModel" "labels" "[I", .fieldLink RX2 17 "TierHouseModel" "quotas" "[I", .methodLink RX2 86 yX2_uses, .instanceMethod yX2_uses, .selects RX2 yX2_uses yX2_uses, .initialized RX2, .code yX2_uses cX2_uses 4 (some .int), .fieldLink RX2 20 "TierHouseModel" "spent" "[I", .fieldLink RX2 58 "TierHouseModel" "files" "I", .fieldLink RX2 23 "TierHouseModel" "names" "[I", .methodLink RX2 61 yX2_countOf, .instanceMethod yX2_countOf, .selects RX2 yX2_countOf yX2_countOf, .code yX2_countOf cX2_countOf 4 (some .int), .fieldLink RX2 26 "TierHouseModel" "gifts" "[Z", .fieldLink RX2 32 "TierHouseModel" "sizes" "[I", .fieldLink RX2 38 "TierHouseModel" "given" "[Z"] ++ wsX20)
def wsX2_make_r1 : List Cond := [Cond.fieldLink RX2 13 "TierHouseModel" "has" "[Z", Cond.fieldLink RX2 7 "TierHouseModel" "labels" "[I", Cond.fieldLink RX2 58 "TierHouseModel" "files" "I", Cond.fieldLink RX2 20 "TierHouseModel" "spent" "[I", Cond.methodLink RX2 65 yX2_isSubject, Cond.static yX2_isSubject, Cond.initialized RX2, Cond.code yX2_isSubject cX2_isSubject 1 (some .boolean), Cond.methodLink RX2 54 yX2_within, Cond.static yX2_within, Cond.code yX2_within cX2_within 2 (some .boolean), Cond.methodLink RX2 69 yX2_isLabel, Cond.static yX2_isLabel, Cond.code yX2_isLabel cX2_isLabel 1 (some .boolean), Cond.methodLink RX2 89 yX2_isNumber, Cond.static yX2_isNumber, Cond.code yX2_isNumber cX2_isNumber 1 (some .boolean), Cond.methodLink RX2 72 yX2_fails, Cond.instanceMethod yX2_fails, Cond.selects RX2 yX2_fails yX2_fails, Cond.code yX2_fails cX2_fails 3 (some .boolean), Cond.fieldLink RX2 50 "TierHouseModel" "thrown" "I", Cond.methodLink RX2 83 yX2_may, Cond.static yX2_may]
def wsX2_make_r2 : List Cond := [Cond.code yX2_may cX2_may 3 (some .boolean), Cond.methodLink RX2 92 yX2_find, Cond.instanceMethod yX2_find, Cond.selects RX2 yX2_find yX2_find, Cond.code yX2_find cX2_find 4 (some .int), Cond.fieldLink RX2 23 "TierHouseModel" "names" "[I", Cond.methodLink RX2 96 yX2_isFull, Cond.instanceMethod yX2_isFull, Cond.selects RX2 yX2_isFull yX2_isFull, Cond.code yX2_isFull cX2_isFull 3 (some .boolean), Cond.fieldLink RX2 17 "TierHouseModel" "quotas" "[I", Cond.methodLink RX2 86 yX2_uses, Cond.instanceMethod yX2_uses, Cond.selects RX2 yX2_uses yX2_uses, Cond.code yX2_uses cX2_uses 4 (some .int), Cond.methodLink RX2 61 yX2_countOf, Cond.instanceMethod yX2_countOf, Cond.selects RX2 yX2_countOf yX2_countOf, Cond.code yX2_countOf cX2_countOf 4 (some .int), Cond.fieldLink RX2 26 "TierHouseModel" "gifts" "[Z", Cond.fieldLink RX2 32 "TierHouseModel" "sizes" "[I", Cond.fieldLink RX2 38 "TierHouseModel" "given" "[Z", Cond.methodLink RX2 99 yX2_begin, Cond.instanceMethod yX2_begin]
def wsX2_make_r3 : List Cond := [Cond.selects RX2 yX2_begin yX2_begin, Cond.code yX2_begin cX2_begin 2 none, Cond.fieldLink RX2 47 "TierHouseModel" "seenCount" "[I", Cond.methodLink RX2 103 yX2_add, Cond.instanceMethod yX2_add, Cond.selects RX2 yX2_add yX2_add, Cond.code yX2_add cX2_add 5 (some .int), Cond.fieldLink RX2 29 "TierHouseModel" "folders" "[I"]
def wsX2_make : List Cond := .code yX2_make cX2_make 9 (some .int) :: ((wsX2_make_r1 ++ (wsX2_make_r2 ++ wsX2_make_r3)) ++ wsX20)
def wsX2_set_r1 : List Cond := [Cond.fieldLink RX2 13 "TierHouseModel" "has" "[Z", Cond.fieldLink RX2 7 "TierHouseModel" "labels" "[I", Cond.fieldLink RX2 32 "TierHouseModel" "sizes" "[I", Cond.fieldLink RX2 35 "TierHouseModel" "cells" "[I", Cond.methodLink RX2 65 yX2_isSubject, Cond.static yX2_isSubject, Cond.initialized RX2, Cond.code yX2_isSubject cX2_isSubject 1 (some .boolean), Cond.methodLink RX2 54 yX2_within, Cond.static yX2_within, Cond.code yX2_within cX2_within 2 (some .boolean), Cond.methodLink RX2 89 yX2_isNumber, Cond.static yX2_isNumber, Cond.code yX2_isNumber cX2_isNumber 1 (some .boolean), Cond.methodLink RX2 72 yX2_fails, Cond.instanceMethod yX2_fails, Cond.selects RX2 yX2_fails yX2_fails, Cond.code yX2_fails cX2_fails 3 (some .boolean), Cond.fieldLink RX2 50 "TierHouseModel" "thrown" "I", Cond.methodLink RX2 99 yX2_begin, Cond.instanceMethod yX2_begin, Cond.selects RX2 yX2_begin yX2_begin, Cond.code yX2_begin cX2_begin 2 none, Cond.fieldLink RX2 47 "TierHouseModel" "seenCount" "[I"]
def wsX2_set_r2 : List Cond := [Cond.methodLink RX2 92 yX2_find, Cond.instanceMethod yX2_find, Cond.selects RX2 yX2_find yX2_find, Cond.code yX2_find cX2_find 4 (some .int), Cond.fieldLink RX2 58 "TierHouseModel" "files" "I", Cond.fieldLink RX2 23 "TierHouseModel" "names" "[I", Cond.methodLink RX2 96 yX2_isFull, Cond.instanceMethod yX2_isFull, Cond.selects RX2 yX2_isFull yX2_isFull, Cond.code yX2_isFull cX2_isFull 3 (some .boolean), Cond.fieldLink RX2 17 "TierHouseModel" "quotas" "[I", Cond.methodLink RX2 86 yX2_uses, Cond.instanceMethod yX2_uses, Cond.selects RX2 yX2_uses yX2_uses, Cond.code yX2_uses cX2_uses 4 (some .int), Cond.fieldLink RX2 20 "TierHouseModel" "spent" "[I", Cond.methodLink RX2 61 yX2_countOf, Cond.instanceMethod yX2_countOf, Cond.selects RX2 yX2_countOf yX2_countOf, Cond.code yX2_countOf cX2_countOf 4 (some .int), Cond.fieldLink RX2 26 "TierHouseModel" "gifts" "[Z", Cond.fieldLink RX2 38 "TierHouseModel" "given" "[Z", Cond.methodLink RX2 107 yX2_append, Cond.instanceMethod yX2_append]
def wsX2_set_r3 : List Cond := [Cond.selects RX2 yX2_append yX2_append, Cond.code yX2_append cX2_append 4 none]
def wsX2_set : List Cond := .code yX2_set cX2_set 6 (some .int) :: ((wsX2_set_r1 ++ (wsX2_set_r2 ++ wsX2_set_r3)) ++ wsX20)
def wsX2_give_r1 : List Cond := [Cond.fieldLink RX2 13 "TierHouseModel" "has" "[Z", Cond.fieldLink RX2 7 "TierHouseModel" "labels" "[I", Cond.fieldLink RX2 20 "TierHouseModel" "spent" "[I", Cond.fieldLink RX2 32 "TierHouseModel" "sizes" "[I", Cond.methodLink RX2 65 yX2_isSubject, Cond.static yX2_isSubject, Cond.initialized RX2, Cond.code yX2_isSubject cX2_isSubject 1 (some .boolean), Cond.methodLink RX2 54 yX2_within, Cond.static yX2_within, Cond.code yX2_within cX2_within 2 (some .boolean), Cond.methodLink RX2 69 yX2_isLabel, Cond.static yX2_isLabel, Cond.code yX2_isLabel cX2_isLabel 1 (some .boolean), Cond.methodLink RX2 89 yX2_isNumber, Cond.static yX2_isNumber, Cond.code yX2_isNumber cX2_isNumber 1 (some .boolean), Cond.methodLink RX2 72 yX2_fails, Cond.instanceMethod yX2_fails, Cond.selects RX2 yX2_fails yX2_fails, Cond.code yX2_fails cX2_fails 3 (some .boolean), Cond.fieldLink RX2 50 "TierHouseModel" "thrown" "I", Cond.methodLink RX2 99 yX2_begin, Cond.instanceMethod yX2_begin]
def wsX2_give_r2 : List Cond := [Cond.selects RX2 yX2_begin yX2_begin, Cond.code yX2_begin cX2_begin 2 none, Cond.fieldLink RX2 47 "TierHouseModel" "seenCount" "[I", Cond.methodLink RX2 83 yX2_may, Cond.static yX2_may, Cond.code yX2_may cX2_may 3 (some .boolean), Cond.methodLink RX2 96 yX2_isFull, Cond.instanceMethod yX2_isFull, Cond.selects RX2 yX2_isFull yX2_isFull, Cond.code yX2_isFull cX2_isFull 3 (some .boolean), Cond.fieldLink RX2 17 "TierHouseModel" "quotas" "[I", Cond.methodLink RX2 86 yX2_uses, Cond.instanceMethod yX2_uses, Cond.selects RX2 yX2_uses yX2_uses, Cond.code yX2_uses cX2_uses 4 (some .int), Cond.fieldLink RX2 58 "TierHouseModel" "files" "I", Cond.fieldLink RX2 23 "TierHouseModel" "names" "[I", Cond.methodLink RX2 61 yX2_countOf, Cond.instanceMethod yX2_countOf, Cond.selects RX2 yX2_countOf yX2_countOf, Cond.code yX2_countOf cX2_countOf 4 (some .int), Cond.fieldLink RX2 26 "TierHouseModel" "gifts" "[Z", Cond.fieldLink RX2 38 "TierHouseModel" "given" "[Z", Cond.methodLink RX2 92 yX2_find]
def wsX2_give_r3 : List Cond := [Cond.instanceMethod yX2_find, Cond.selects RX2 yX2_find yX2_find, Cond.code yX2_find cX2_find 4 (some .int), Cond.methodLink RX2 107 yX2_append, Cond.instanceMethod yX2_append, Cond.selects RX2 yX2_append yX2_append, Cond.code yX2_append cX2_append 4 none, Cond.fieldLink RX2 35 "TierHouseModel" "cells" "[I"]
def wsX2_give : List Cond := .code yX2_give cX2_give 6 (some .int) :: ((wsX2_give_r1 ++ (wsX2_give_r2 ++ wsX2_give_r3)) ++ wsX20)
def wsX2_trim_r1 : List Cond := [Cond.fieldLink RX2 13 "TierHouseModel" "has" "[Z", Cond.fieldLink RX2 7 "TierHouseModel" "labels" "[I", Cond.fieldLink RX2 32 "TierHouseModel" "sizes" "[I", Cond.methodLink RX2 65 yX2_isSubject, Cond.static yX2_isSubject, Cond.initialized RX2, Cond.code yX2_isSubject cX2_isSubject 1 (some .boolean), Cond.methodLink RX2 54 yX2_within, Cond.static yX2_within, Cond.code yX2_within cX2_within 2 (some .boolean), Cond.methodLink RX2 89 yX2_isNumber, Cond.static yX2_isNumber, Cond.code yX2_isNumber cX2_isNumber 1 (some .boolean), Cond.methodLink RX2 72 yX2_fails, Cond.instanceMethod yX2_fails, Cond.selects RX2 yX2_fails yX2_fails, Cond.code yX2_fails cX2_fails 3 (some .boolean), Cond.fieldLink RX2 50 "TierHouseModel" "thrown" "I", Cond.methodLink RX2 99 yX2_begin, Cond.instanceMethod yX2_begin, Cond.selects RX2 yX2_begin yX2_begin, Cond.code yX2_begin cX2_begin 2 none, Cond.fieldLink RX2 47 "TierHouseModel" "seenCount" "[I", Cond.methodLink RX2 92 yX2_find]
def wsX2_trim_r2 : List Cond := [Cond.instanceMethod yX2_find, Cond.selects RX2 yX2_find yX2_find, Cond.code yX2_find cX2_find 4 (some .int), Cond.fieldLink RX2 58 "TierHouseModel" "files" "I", Cond.fieldLink RX2 23 "TierHouseModel" "names" "[I"]
def wsX2_trim : List Cond := .code yX2_trim cX2_trim 6 (some .int) :: ((wsX2_trim_r1 ++ wsX2_trim_r2) ++ wsX20)
def wsX2_remove_r1 : List Cond := [Cond.fieldLink RX2 13 "TierHouseModel" "has" "[Z", Cond.fieldLink RX2 7 "TierHouseModel" "labels" "[I", Cond.fieldLink RX2 58 "TierHouseModel" "files" "I", Cond.methodLink RX2 65 yX2_isSubject, Cond.static yX2_isSubject, Cond.initialized RX2, Cond.code yX2_isSubject cX2_isSubject 1 (some .boolean), Cond.methodLink RX2 54 yX2_within, Cond.static yX2_within, Cond.code yX2_within cX2_within 2 (some .boolean), Cond.methodLink RX2 89 yX2_isNumber, Cond.static yX2_isNumber, Cond.code yX2_isNumber cX2_isNumber 1 (some .boolean), Cond.methodLink RX2 72 yX2_fails, Cond.instanceMethod yX2_fails, Cond.selects RX2 yX2_fails yX2_fails, Cond.code yX2_fails cX2_fails 3 (some .boolean), Cond.fieldLink RX2 50 "TierHouseModel" "thrown" "I", Cond.methodLink RX2 99 yX2_begin, Cond.instanceMethod yX2_begin, Cond.selects RX2 yX2_begin yX2_begin, Cond.code yX2_begin cX2_begin 2 none, Cond.fieldLink RX2 47 "TierHouseModel" "seenCount" "[I", Cond.methodLink RX2 92 yX2_find]
def wsX2_remove_r2 : List Cond := [Cond.instanceMethod yX2_find, Cond.selects RX2 yX2_find yX2_find, Cond.code yX2_find cX2_find 4 (some .int), Cond.fieldLink RX2 23 "TierHouseModel" "names" "[I", Cond.methodLink RX2 111 yX2_move, Cond.instanceMethod yX2_move, Cond.selects RX2 yX2_move yX2_move, Cond.code yX2_move cX2_move 4 none, Cond.fieldLink RX2 26 "TierHouseModel" "gifts" "[Z", Cond.fieldLink RX2 29 "TierHouseModel" "folders" "[I", Cond.fieldLink RX2 32 "TierHouseModel" "sizes" "[I", Cond.fieldLink RX2 35 "TierHouseModel" "cells" "[I", Cond.fieldLink RX2 38 "TierHouseModel" "given" "[Z"]
def wsX2_remove : List Cond := .code yX2_remove cX2_remove 4 (some .int) :: ((wsX2_remove_r1 ++ wsX2_remove_r2) ++ wsX20)
def wsX2_look : List Cond := .code yX2_look cX2_look 3 (some .int) :: ([.fieldLink RX2 13 "TierHouseModel" "has" "[Z", .fieldLink RX2 7 "TierHouseModel" "labels" "[I", .methodLink RX2 99 yX2_begin, .instanceMethod yX2_begin, .selects RX2 yX2_begin yX2_begin, .initialized RX2, .code yX2_begin cX2_begin 2 none, .fieldLink RX2 47 "TierHouseModel" "seenCount" "[I", .methodLink RX2 83 yX2_may, .static yX2_may, .code yX2_may cX2_may 3 (some .boolean)] ++ wsX20)
def wsX2_read_r1 : List Cond := [Cond.fieldLink RX2 32 "TierHouseModel" "sizes" "[I", Cond.fieldLink RX2 44 "TierHouseModel" "seen" "[I", Cond.fieldLink RX2 35 "TierHouseModel" "cells" "[I", Cond.fieldLink RX2 47 "TierHouseModel" "seenCount" "[I", Cond.methodLink RX2 65 yX2_isSubject, Cond.static yX2_isSubject, Cond.initialized RX2, Cond.code yX2_isSubject cX2_isSubject 1 (some .boolean), Cond.methodLink RX2 54 yX2_within, Cond.static yX2_within, Cond.code yX2_within cX2_within 2 (some .boolean), Cond.methodLink RX2 69 yX2_isLabel, Cond.static yX2_isLabel, Cond.code yX2_isLabel cX2_isLabel 1 (some .boolean), Cond.methodLink RX2 89 yX2_isNumber, Cond.static yX2_isNumber, Cond.code yX2_isNumber cX2_isNumber 1 (some .boolean), Cond.methodLink RX2 72 yX2_fails, Cond.instanceMethod yX2_fails, Cond.selects RX2 yX2_fails yX2_fails, Cond.code yX2_fails cX2_fails 3 (some .boolean), Cond.fieldLink RX2 50 "TierHouseModel" "thrown" "I", Cond.methodLink RX2 115 yX2_look, Cond.instanceMethod yX2_look]
def wsX2_read_r2 : List Cond := [Cond.selects RX2 yX2_look yX2_look, Cond.code yX2_look cX2_look 3 (some .int), Cond.fieldLink RX2 13 "TierHouseModel" "has" "[Z", Cond.fieldLink RX2 7 "TierHouseModel" "labels" "[I", Cond.methodLink RX2 99 yX2_begin, Cond.instanceMethod yX2_begin, Cond.selects RX2 yX2_begin yX2_begin, Cond.code yX2_begin cX2_begin 2 none, Cond.methodLink RX2 83 yX2_may, Cond.static yX2_may, Cond.code yX2_may cX2_may 3 (some .boolean), Cond.methodLink RX2 92 yX2_find, Cond.instanceMethod yX2_find, Cond.selects RX2 yX2_find yX2_find, Cond.code yX2_find cX2_find 4 (some .int), Cond.fieldLink RX2 58 "TierHouseModel" "files" "I", Cond.fieldLink RX2 23 "TierHouseModel" "names" "[I"]
def wsX2_read : List Cond := .code yX2_read cX2_read 7 (some .int) :: ((wsX2_read_r1 ++ wsX2_read_r2) ++ wsX20)
def wsX2_size_r1 : List Cond := [Cond.fieldLink RX2 32 "TierHouseModel" "sizes" "[I", Cond.methodLink RX2 65 yX2_isSubject, Cond.static yX2_isSubject, Cond.initialized RX2, Cond.code yX2_isSubject cX2_isSubject 1 (some .boolean), Cond.methodLink RX2 54 yX2_within, Cond.static yX2_within, Cond.code yX2_within cX2_within 2 (some .boolean), Cond.methodLink RX2 69 yX2_isLabel, Cond.static yX2_isLabel, Cond.code yX2_isLabel cX2_isLabel 1 (some .boolean), Cond.methodLink RX2 89 yX2_isNumber, Cond.static yX2_isNumber, Cond.code yX2_isNumber cX2_isNumber 1 (some .boolean), Cond.methodLink RX2 72 yX2_fails, Cond.instanceMethod yX2_fails, Cond.selects RX2 yX2_fails yX2_fails, Cond.code yX2_fails cX2_fails 3 (some .boolean), Cond.fieldLink RX2 50 "TierHouseModel" "thrown" "I", Cond.methodLink RX2 115 yX2_look, Cond.instanceMethod yX2_look, Cond.selects RX2 yX2_look yX2_look, Cond.code yX2_look cX2_look 3 (some .int), Cond.fieldLink RX2 13 "TierHouseModel" "has" "[Z"]
def wsX2_size_r2 : List Cond := [Cond.fieldLink RX2 7 "TierHouseModel" "labels" "[I", Cond.methodLink RX2 99 yX2_begin, Cond.instanceMethod yX2_begin, Cond.selects RX2 yX2_begin yX2_begin, Cond.code yX2_begin cX2_begin 2 none, Cond.fieldLink RX2 47 "TierHouseModel" "seenCount" "[I", Cond.methodLink RX2 83 yX2_may, Cond.static yX2_may, Cond.code yX2_may cX2_may 3 (some .boolean), Cond.methodLink RX2 92 yX2_find, Cond.instanceMethod yX2_find, Cond.selects RX2 yX2_find yX2_find, Cond.code yX2_find cX2_find 4 (some .int), Cond.fieldLink RX2 58 "TierHouseModel" "files" "I", Cond.fieldLink RX2 23 "TierHouseModel" "names" "[I"]
def wsX2_size : List Cond := .code yX2_size cX2_size 6 (some .int) :: ((wsX2_size_r1 ++ wsX2_size_r2) ++ wsX20)
def wsX2_there_r1 : List Cond := [Cond.methodLink RX2 65 yX2_isSubject, Cond.static yX2_isSubject, Cond.initialized RX2, Cond.code yX2_isSubject cX2_isSubject 1 (some .boolean), Cond.methodLink RX2 54 yX2_within, Cond.static yX2_within, Cond.code yX2_within cX2_within 2 (some .boolean), Cond.methodLink RX2 69 yX2_isLabel, Cond.static yX2_isLabel, Cond.code yX2_isLabel cX2_isLabel 1 (some .boolean), Cond.methodLink RX2 89 yX2_isNumber, Cond.static yX2_isNumber, Cond.code yX2_isNumber cX2_isNumber 1 (some .boolean), Cond.methodLink RX2 72 yX2_fails, Cond.instanceMethod yX2_fails, Cond.selects RX2 yX2_fails yX2_fails, Cond.code yX2_fails cX2_fails 3 (some .boolean), Cond.fieldLink RX2 50 "TierHouseModel" "thrown" "I", Cond.methodLink RX2 115 yX2_look, Cond.instanceMethod yX2_look, Cond.selects RX2 yX2_look yX2_look, Cond.code yX2_look cX2_look 3 (some .int), Cond.fieldLink RX2 13 "TierHouseModel" "has" "[Z", Cond.fieldLink RX2 7 "TierHouseModel" "labels" "[I"]
def wsX2_there_r2 : List Cond := [Cond.methodLink RX2 99 yX2_begin, Cond.instanceMethod yX2_begin, Cond.selects RX2 yX2_begin yX2_begin, Cond.code yX2_begin cX2_begin 2 none, Cond.fieldLink RX2 47 "TierHouseModel" "seenCount" "[I", Cond.methodLink RX2 83 yX2_may, Cond.static yX2_may, Cond.code yX2_may cX2_may 3 (some .boolean), Cond.methodLink RX2 92 yX2_find, Cond.instanceMethod yX2_find, Cond.selects RX2 yX2_find yX2_find, Cond.code yX2_find cX2_find 4 (some .int), Cond.fieldLink RX2 58 "TierHouseModel" "files" "I", Cond.fieldLink RX2 23 "TierHouseModel" "names" "[I"]
def wsX2_there : List Cond := .code yX2_there cX2_there 5 (some .int) :: ((wsX2_there_r1 ++ wsX2_there_r2) ++ wsX20)
def wsX2_listed_r1 : List Cond := [Cond.fieldLink RX2 58 "TierHouseModel" "files" "I", Cond.fieldLink RX2 29 "TierHouseModel" "folders" "[I", Cond.fieldLink RX2 23 "TierHouseModel" "names" "[I", Cond.fieldLink RX2 7 "TierHouseModel" "labels" "[I", Cond.fieldLink RX2 44 "TierHouseModel" "seen" "[I", Cond.fieldLink RX2 47 "TierHouseModel" "seenCount" "[I", Cond.methodLink RX2 65 yX2_isSubject, Cond.static yX2_isSubject, Cond.initialized RX2, Cond.code yX2_isSubject cX2_isSubject 1 (some .boolean), Cond.methodLink RX2 54 yX2_within, Cond.static yX2_within, Cond.code yX2_within cX2_within 2 (some .boolean), Cond.methodLink RX2 69 yX2_isLabel, Cond.static yX2_isLabel, Cond.code yX2_isLabel cX2_isLabel 1 (some .boolean), Cond.methodLink RX2 89 yX2_isNumber, Cond.static yX2_isNumber, Cond.code yX2_isNumber cX2_isNumber 1 (some .boolean), Cond.methodLink RX2 72 yX2_fails, Cond.instanceMethod yX2_fails, Cond.selects RX2 yX2_fails yX2_fails, Cond.code yX2_fails cX2_fails 3 (some .boolean), Cond.fieldLink RX2 50 "TierHouseModel" "thrown" "I"]
def wsX2_listed_r2 : List Cond := [Cond.methodLink RX2 115 yX2_look, Cond.instanceMethod yX2_look, Cond.selects RX2 yX2_look yX2_look, Cond.code yX2_look cX2_look 3 (some .int), Cond.fieldLink RX2 13 "TierHouseModel" "has" "[Z", Cond.methodLink RX2 99 yX2_begin, Cond.instanceMethod yX2_begin, Cond.selects RX2 yX2_begin yX2_begin, Cond.code yX2_begin cX2_begin 2 none, Cond.methodLink RX2 83 yX2_may, Cond.static yX2_may, Cond.code yX2_may cX2_may 3 (some .boolean)]
def wsX2_listed : List Cond := .code yX2_listed cX2_listed 8 (some .int) :: ((wsX2_listed_r1 ++ wsX2_listed_r2) ++ wsX20)
def wsX2_release_r1 : List Cond := [Cond.fieldLink RX2 13 "TierHouseModel" "has" "[Z", Cond.fieldLink RX2 32 "TierHouseModel" "sizes" "[I", Cond.fieldLink RX2 17 "TierHouseModel" "quotas" "[I", Cond.fieldLink RX2 58 "TierHouseModel" "files" "I", Cond.fieldLink RX2 26 "TierHouseModel" "gifts" "[Z", Cond.fieldLink RX2 35 "TierHouseModel" "cells" "[I", Cond.methodLink RX2 65 yX2_isSubject, Cond.static yX2_isSubject, Cond.initialized RX2, Cond.code yX2_isSubject cX2_isSubject 1 (some .boolean), Cond.methodLink RX2 54 yX2_within, Cond.static yX2_within, Cond.code yX2_within cX2_within 2 (some .boolean), Cond.methodLink RX2 69 yX2_isLabel, Cond.static yX2_isLabel, Cond.code yX2_isLabel cX2_isLabel 1 (some .boolean), Cond.methodLink RX2 89 yX2_isNumber, Cond.static yX2_isNumber, Cond.code yX2_isNumber cX2_isNumber 1 (some .boolean), Cond.methodLink RX2 72 yX2_fails, Cond.instanceMethod yX2_fails, Cond.selects RX2 yX2_fails yX2_fails, Cond.code yX2_fails cX2_fails 3 (some .boolean), Cond.fieldLink RX2 50 "TierHouseModel" "thrown" "I"]
def wsX2_release_r2 : List Cond := [Cond.methodLink RX2 79 yX2_listOf, Cond.instanceMethod yX2_listOf, Cond.selects RX2 yX2_listOf yX2_listOf, Cond.code yX2_listOf cX2_listOf 5 (some .int), Cond.fieldLink RX2 76 "TierHouseModel" "listCount" "I", Cond.fieldLink RX2 41 "TierHouseModel" "lists" "[I", Cond.methodLink RX2 92 yX2_find, Cond.instanceMethod yX2_find, Cond.selects RX2 yX2_find yX2_find, Cond.code yX2_find cX2_find 4 (some .int), Cond.fieldLink RX2 23 "TierHouseModel" "names" "[I", Cond.methodLink RX2 86 yX2_uses, Cond.instanceMethod yX2_uses, Cond.selects RX2 yX2_uses yX2_uses, Cond.code yX2_uses cX2_uses 4 (some .int), Cond.fieldLink RX2 20 "TierHouseModel" "spent" "[I", Cond.methodLink RX2 61 yX2_countOf, Cond.instanceMethod yX2_countOf, Cond.selects RX2 yX2_countOf yX2_countOf, Cond.code yX2_countOf cX2_countOf 4 (some .int), Cond.fieldLink RX2 38 "TierHouseModel" "given" "[Z", Cond.methodLink RX2 99 yX2_begin, Cond.instanceMethod yX2_begin, Cond.selects RX2 yX2_begin yX2_begin]
def wsX2_release_r3 : List Cond := [Cond.code yX2_begin cX2_begin 2 none, Cond.fieldLink RX2 47 "TierHouseModel" "seenCount" "[I", Cond.methodLink RX2 103 yX2_add, Cond.instanceMethod yX2_add, Cond.selects RX2 yX2_add yX2_add, Cond.code yX2_add cX2_add 5 (some .int), Cond.fieldLink RX2 29 "TierHouseModel" "folders" "[I", Cond.methodLink RX2 107 yX2_append, Cond.instanceMethod yX2_append, Cond.selects RX2 yX2_append yX2_append, Cond.code yX2_append cX2_append 4 none]
def wsX2_release : List Cond := .code yX2_release cX2_release 11 (some .int) :: ((wsX2_release_r1 ++ (wsX2_release_r2 ++ wsX2_release_r3)) ++ wsX20)
def wsX2_seen : List Cond := .code yX2_seen cX2_seen 3 (some .int) :: ([.fieldLink RX2 47 "TierHouseModel" "seenCount" "[I", .fieldLink RX2 44 "TierHouseModel" "seen" "[I", .methodLink RX2 65 yX2_isSubject, .static yX2_isSubject, .initialized RX2, .code yX2_isSubject cX2_isSubject 1 (some .boolean), .methodLink RX2 54 yX2_within, .static yX2_within, .code yX2_within cX2_within 2 (some .boolean), .methodLink RX2 72 yX2_fails, .instanceMethod yX2_fails, .selects RX2 yX2_fails yX2_fails, .code yX2_fails cX2_fails 3 (some .boolean), .fieldLink RX2 50 "TierHouseModel" "thrown" "I"] ++ wsX20)
def wsX2_told_r1 : List Cond := [Cond.fieldLink RX2 58 "TierHouseModel" "files" "I", Cond.fieldLink RX2 23 "TierHouseModel" "names" "[I", Cond.fieldLink RX2 20 "TierHouseModel" "spent" "[I", Cond.fieldLink RX2 17 "TierHouseModel" "quotas" "[I", Cond.methodLink RX2 69 yX2_isLabel, Cond.static yX2_isLabel, Cond.initialized RX2, Cond.code yX2_isLabel cX2_isLabel 1 (some .boolean), Cond.methodLink RX2 54 yX2_within, Cond.static yX2_within, Cond.code yX2_within cX2_within 2 (some .boolean), Cond.methodLink RX2 72 yX2_fails, Cond.instanceMethod yX2_fails, Cond.selects RX2 yX2_fails yX2_fails, Cond.code yX2_fails cX2_fails 3 (some .boolean), Cond.fieldLink RX2 50 "TierHouseModel" "thrown" "I", Cond.methodLink RX2 86 yX2_uses, Cond.instanceMethod yX2_uses, Cond.selects RX2 yX2_uses yX2_uses, Cond.code yX2_uses cX2_uses 4 (some .int), Cond.methodLink RX2 61 yX2_countOf, Cond.instanceMethod yX2_countOf, Cond.selects RX2 yX2_countOf yX2_countOf, Cond.code yX2_countOf cX2_countOf 4 (some .int)]
def wsX2_told_r2 : List Cond := [Cond.fieldLink RX2 26 "TierHouseModel" "gifts" "[Z", Cond.fieldLink RX2 32 "TierHouseModel" "sizes" "[I", Cond.fieldLink RX2 38 "TierHouseModel" "given" "[Z"]
def wsX2_told : List Cond := .code yX2_told cX2_told 5 (some .int) :: ((wsX2_told_r1 ++ wsX2_told_r2) ++ wsX20)
def wsJ9_max_7cf53 : List Cond := .code yJ9_max_7cf53 cJ9_max_7cf53 2 (some .int) :: ([])
def wsJ9_min_7cf53 : List Cond := .code yJ9_min_7cf53 cJ9_min_7cf53 2 (some .int) :: ([])
def wsL_subject : List Cond := .codeWith yL_subject cL_subject 5 (some .int) [(0, 17, 20, 13)] :: ([.classLink RL 13 "java/lang/IllegalArgumentException", .methodLink RL 7 yX1_subject, .instanceMethod yX1_subject, .selects RX1 yX1_subject yX1_subject, .initialized RX1, .code yX1_subject cX1_subject 3 (some .boolean), .fieldLink RX1 9 "TierHouse" "labelOf" "[I", .methodLink RX1 47 yX1_requireSubject, .static yX1_requireSubject, .code yX1_requireSubject cX1_requireSubject 1 none, .classLink RX1 58 "java/lang/IllegalArgumentException", .initialized "java/lang/IllegalArgumentException", .methodLink RX1 51 yX1_requireLabel, .static yX1_requireLabel, .code yX1_requireLabel cX1_requireLabel 1 none] ++ wsX10 ++ (vx_atS RX1 62 "java/lang/IllegalArgumentException" ["java/lang/RuntimeException", "java/lang/Exception"]).filter goodWord)
def wsL_quota : List Cond := .codeWith yL_quota cL_quota 5 (some .int) [(0, 10, 13, 13)] :: ([.classLink RL 13 "java/lang/IllegalArgumentException", .methodLink RL 15 yX1_quota, .instanceMethod yX1_quota, .selects RX1 yX1_quota yX1_quota, .initialized RX1, .code yX1_quota cX1_quota 4 (some .int), .fieldLink RX1 13 "TierHouse" "quotaOf" "[I", .methodLink RX1 51 yX1_requireLabel, .static yX1_requireLabel, .code yX1_requireLabel cX1_requireLabel 1 none, .classLink RX1 58 "java/lang/IllegalArgumentException", .initialized "java/lang/IllegalArgumentException", .methodLink RX1 54 yX1_requireAtMost, .static yX1_requireAtMost, .code yX1_requireAtMost cX1_requireAtMost 2 none] ++ wsX10 ++ (vx_atS RX1 62 "java/lang/IllegalArgumentException" ["java/lang/RuntimeException", "java/lang/Exception"]).filter goodWord)
def wsL_list_r1 : List Cond := [Cond.classLink RL 13 "java/lang/IllegalArgumentException", Cond.classLink RL 23 "java/lang/UnsupportedOperationException", Cond.methodLink RL 19 yX1_list, Cond.instanceMethod yX1_list, Cond.selects RX1 yX1_list yX1_list, Cond.initialized RX1, Cond.code yX1_list cX1_list 7 (some .boolean), Cond.classLink RX1 58 "java/lang/IllegalArgumentException", Cond.initialized "java/lang/IllegalArgumentException", Cond.classLink RX1 73 "java/lang/UnsupportedOperationException", Cond.initialized "java/lang/UnsupportedOperationException", Cond.fieldLink RX1 29 "TierHouse" "listingCount" "I", Cond.methodLink RX1 47 yX1_requireSubject, Cond.static yX1_requireSubject, Cond.code yX1_requireSubject cX1_requireSubject 1 none, Cond.methodLink RX1 51 yX1_requireLabel, Cond.static yX1_requireLabel, Cond.code yX1_requireLabel cX1_requireLabel 1 none, Cond.methodLink RX1 65 yX1_listingOf, Cond.static yX1_listingOf, Cond.code yX1_listingOf cX1_listingOf 3 (some .int), Cond.methodLink RX1 69 yX1_isListed, Cond.instanceMethod yX1_isListed, Cond.selects RX1 yX1_isListed yX1_isListed]
def wsL_list_r2 : List Cond := [Cond.code yX1_isListed cX1_isListed 3 (some .boolean), Cond.fieldLink RX1 26 "TierHouse" "listings" "[I", Cond.methodLink RX1 78 yX1_addListing, Cond.instanceMethod yX1_addListing, Cond.selects RX1 yX1_addListing yX1_addListing, Cond.code yX1_addListing cX1_addListing 2 none, Cond.methodLink RX1 81 yX1_dropListing, Cond.instanceMethod yX1_dropListing, Cond.selects RX1 yX1_dropListing yX1_dropListing, Cond.code yX1_dropListing cX1_dropListing 4 none]
def wsL_list : List Cond := .codeWith yL_list cL_list 7 (some .int) [(0, 21, 24, 13), (0, 21, 28, 23)] :: ((wsL_list_r1 ++ wsL_list_r2) ++ wsX10 ++ (vx_atS RX1 62 "java/lang/IllegalArgumentException" ["java/lang/RuntimeException", "java/lang/Exception"]).filter goodWord ++ (vx_atS RX1 77 "java/lang/UnsupportedOperationException" ["java/lang/RuntimeException", "java/lang/Exception"]).filter goodWord)
def wsL_flows_r1 : List Cond := [Cond.classLink RL 13 "java/lang/IllegalArgumentException", Cond.methodLink RL 25 yX1_flows, Cond.instanceMethod yX1_flows, Cond.selects RX1 yX1_flows yX1_flows, Cond.initialized RX1, Cond.code yX1_flows cX1_flows 3 (some .boolean), Cond.methodLink RX1 51 yX1_requireLabel, Cond.static yX1_requireLabel, Cond.code yX1_requireLabel cX1_requireLabel 1 none, Cond.classLink RX1 58 "java/lang/IllegalArgumentException", Cond.initialized "java/lang/IllegalArgumentException", Cond.methodLink RX1 84 yX1_mayFlow, Cond.static yX1_mayFlow, Cond.code yX1_mayFlow cX1_mayFlow 2 (some .boolean), Cond.methodLink RX1 175 yX1_secrecyOf, Cond.static yX1_secrecyOf, Cond.code yX1_secrecyOf cX1_secrecyOf 1 (some .int), Cond.methodLink RX1 178 yX1_secretsOf, Cond.static yX1_secretsOf, Cond.code yX1_secretsOf cX1_secretsOf 1 (some .int), Cond.methodLink RX1 181 yX1_isWithin, Cond.static yX1_isWithin, Cond.code yX1_isWithin cX1_isWithin 2 (some .boolean), Cond.methodLink RX1 184 yX1_trustOf]
def wsL_flows_r2 : List Cond := [Cond.static yX1_trustOf, Cond.code yX1_trustOf cX1_trustOf 1 (some .int), Cond.methodLink RX1 187 yX1_warrantsOf, Cond.static yX1_warrantsOf, Cond.code yX1_warrantsOf cX1_warrantsOf 1 (some .int)]
def wsL_flows : List Cond := .codeWith yL_flows cL_flows 5 (some .int) [(0, 17, 20, 13)] :: ((wsL_flows_r1 ++ wsL_flows_r2) ++ (vx_atS RX1 62 "java/lang/IllegalArgumentException" ["java/lang/RuntimeException", "java/lang/Exception"]).filter goodWord)
def wsL_make_r1 : List Cond := [Cond.classLink RL 13 "java/lang/IllegalArgumentException", Cond.classLink RL 23 "java/lang/UnsupportedOperationException", Cond.methodLink RL 28 yX1_make, Cond.instanceMethod yX1_make, Cond.selects RX1 yX1_make yX1_make, Cond.initialized RX1, Cond.code yX1_make cX1_make 6 (some .int), Cond.classLink RX1 73 "java/lang/UnsupportedOperationException", Cond.initialized "java/lang/UnsupportedOperationException", Cond.methodLink RX1 47 yX1_requireSubject, Cond.static yX1_requireSubject, Cond.code yX1_requireSubject cX1_requireSubject 1 none, Cond.classLink RX1 58 "java/lang/IllegalArgumentException", Cond.initialized "java/lang/IllegalArgumentException", Cond.methodLink RX1 88 yX1_requireFile, Cond.static yX1_requireFile, Cond.code yX1_requireFile cX1_requireFile 2 none, Cond.methodLink RX1 51 yX1_requireLabel, Cond.static yX1_requireLabel, Cond.code yX1_requireLabel cX1_requireLabel 1 none, Cond.methodLink RX1 103 yX1_requireNumber, Cond.static yX1_requireNumber, Cond.code yX1_requireNumber cX1_requireNumber 1 none, Cond.methodLink RX1 91 yX1_requireFolder]
def wsL_make_r2 : List Cond := [Cond.static yX1_requireFolder, Cond.code yX1_requireFolder cX1_requireFolder 1 none, Cond.methodLink RX1 94 yX1_answerMake, Cond.instanceMethod yX1_answerMake, Cond.selects RX1 yX1_answerMake yX1_answerMake, Cond.code yX1_answerMake cX1_answerMake 8 (some .int), Cond.fieldLink RX1 9 "TierHouse" "labelOf" "[I", Cond.methodLink RX1 190 yX1_labelOfAddress, Cond.static yX1_labelOfAddress, Cond.code yX1_labelOfAddress cX1_labelOfAddress 1 (some .int), Cond.methodLink RX1 84 yX1_mayFlow, Cond.static yX1_mayFlow, Cond.code yX1_mayFlow cX1_mayFlow 2 (some .boolean), Cond.methodLink RX1 175 yX1_secrecyOf, Cond.static yX1_secrecyOf, Cond.code yX1_secrecyOf cX1_secrecyOf 1 (some .int), Cond.methodLink RX1 178 yX1_secretsOf, Cond.static yX1_secretsOf, Cond.code yX1_secretsOf cX1_secretsOf 1 (some .int), Cond.methodLink RX1 181 yX1_isWithin, Cond.static yX1_isWithin, Cond.code yX1_isWithin cX1_isWithin 2 (some .boolean), Cond.methodLink RX1 184 yX1_trustOf, Cond.static yX1_trustOf]
def wsL_make_r3 : List Cond := [Cond.code yX1_trustOf cX1_trustOf 1 (some .int), Cond.methodLink RX1 187 yX1_warrantsOf, Cond.static yX1_warrantsOf, Cond.code yX1_warrantsOf cX1_warrantsOf 1 (some .int), Cond.methodLink RX1 132 yX1_addressOf, Cond.static yX1_addressOf, Cond.code yX1_addressOf cX1_addressOf 2 (some .int), Cond.methodLink RX1 193 yX1_makeOwn, Cond.instanceMethod yX1_makeOwn, Cond.selects RX1 yX1_makeOwn yX1_makeOwn, Cond.code yX1_makeOwn cX1_makeOwn 4 (some .int), Cond.classLink RX1 114 RX0, Cond.instantiable RX0 6, Cond.initialized RX0, Cond.methodLink RX1 136 yX1_placeOf, Cond.instanceMethod yX1_placeOf, Cond.selects RX1 yX1_placeOf yX1_placeOf, Cond.code yX1_placeOf cX1_placeOf 3 (some .int), Cond.fieldLink RX1 22 "TierHouse" "files" "Ljava/util/ArrayList;", Cond.classLink RX1 114 "TierHouse$StoredFile", Cond.fieldLink RX1 223 "TierHouse$StoredFile" "address" "I", Cond.methodLink RX1 217 yJx4a65c_size_8abf5, Cond.instanceMethod yJx4a65c_size_8abf5, Cond.selects RJx4a65c yJx4a65c_size_8abf5 yJx4a65c_size_8abf5]
def wsL_make_r4 : List Cond := [Cond.initialized RJx4a65c, Cond.code yJx4a65c_size_8abf5 cJx4a65c_size_8abf5 1 (some .int), Cond.fieldLink RJx4a65c 48 "java/util/ArrayList" "size" "I", Cond.methodLink RX1 220 yJx4a65c_get_915e3, Cond.instanceMethod yJx4a65c_get_915e3, Cond.selects RJx4a65c yJx4a65c_get_915e3 yJx4a65c_get_915e3, Cond.code yJx4a65c_get_915e3 cJx4a65c_get_915e3 2 (some (.object "java/lang/Object")), Cond.methodLink RJx4a65c 118 yJ15_checkIndex_7cf53, Cond.static yJ15_checkIndex_7cf53, Cond.initialized RJ15, Cond.code yJ15_checkIndex_7cf53 cJ15_checkIndex_7cf53 2 (some .int), Cond.methodLink RJ15 105 yJ3_checkIndex_8e157, Cond.static yJ3_checkIndex_8e157, Cond.initialized RJ3, Cond.code yJ3_checkIndex_8e157 cJ3_checkIndex_8e157 3 (some .int), Cond.methodLink RJx4a65c 123 yJx4a65c_elementData_915e3, Cond.instanceMethod yJx4a65c_elementData_915e3, Cond.selects RJx4a65c yJx4a65c_elementData_915e3 yJx4a65c_elementData_915e3, Cond.code yJx4a65c_elementData_915e3 cJx4a65c_elementData_915e3 2 (some (.object "java/lang/Object")), Cond.fieldLink RJx4a65c 9 "java/util/ArrayList" "elementData" "[Ljava/lang/Object;", Cond.methodLink RX1 121 yX1_hasRoom, Cond.instanceMethod yX1_hasRoom, Cond.selects RX1 yX1_hasRoom yX1_hasRoom, Cond.code yX1_hasRoom cX1_hasRoom 3 (some .boolean)]
def wsL_make_r5 : List Cond := [Cond.fieldLink RX1 13 "TierHouse" "quotaOf" "[I", Cond.methodLink RX1 155 yX1_usedBy, Cond.instanceMethod yX1_usedBy, Cond.selects RX1 yX1_usedBy yX1_usedBy, Cond.code yX1_usedBy cX1_usedBy 5 (some .int), Cond.fieldLink RX1 16 "TierHouse" "spentBy" "[I", Cond.methodLink RX1 210 yX0_use, Cond.instanceMethod yX0_use, Cond.selects RX0 yX0_use yX0_use, Cond.code yX0_use cX0_use 1 (some .int), Cond.fieldLink RX0 28 "TierHouse$StoredFile" "isGift" "Z", Cond.fieldLink RX0 15 "TierHouse$StoredFile" "count" "I", Cond.fieldLink RX0 19 "TierHouse$StoredFile" "giftCells" "I", Cond.methodLink RX0 32 yJ6_bitCount_0f7a4, Cond.static yJ6_bitCount_0f7a4, Cond.initialized RJ6, Cond.code yJ6_bitCount_0f7a4 cJ6_bitCount_0f7a4 1 (some .int), Cond.constant RJ6 265 (1431655765), Cond.constant RJ6 266 (858993459), Cond.constant RJ6 267 (252645135), Cond.methodLink RX1 199 yX1_isFull, Cond.instanceMethod yX1_isFull, Cond.selects RX1 yX1_isFull yX1_isFull, Cond.code yX1_isFull cX1_isFull 1 (some .boolean)]
def wsL_make_r6 : List Cond := [Cond.methodLink RX1 203 yX0_init, Cond.instanceMethod yX0_init, Cond.code yX0_init cX0_init 4 none, Cond.methodLink RX0 3 objectInit, Cond.instanceMethod objectInit, Cond.code objectInit ⟨#[0xb1]⟩ 1 none, Cond.arrayClass .int, Cond.fieldLink RX0 9 "TierHouse$StoredFile" "cells" "[I", Cond.fieldLink RX0 22 "TierHouse$StoredFile" "address" "I", Cond.fieldLink RX0 25 "TierHouse$StoredFile" "folder" "I", Cond.methodLink RX1 206 yX1_store, Cond.instanceMethod yX1_store, Cond.selects RX1 yX1_store yX1_store, Cond.code yX1_store cX1_store 3 none, Cond.methodLink RX1 226 yJx4a65c_add_7a177, Cond.instanceMethod yJx4a65c_add_7a177, Cond.selects RJx4a65c yJx4a65c_add_7a177 yJx4a65c_add_7a177, Cond.code yJx4a65c_add_7a177 cJx4a65c_add_7a177 5 none, Cond.fieldLink RJx4a65c 63 "java/util/ArrayList" "modCount" "I", Cond.sameField "java/util/ArrayList" "java/util/AbstractList" "modCount" "I", Cond.methodLink RJx4a65c 112 arraycopyName, Cond.native arraycopyName, Cond.static arraycopyName, Cond.initialized "java/lang/System"]
def wsL_make_r7 : List Cond := [Cond.methodLink RJx4a65c 135 yJx4a65c_rangeCheckForAdd_d00df, Cond.instanceMethod yJx4a65c_rangeCheckForAdd_d00df, Cond.selects RJx4a65c yJx4a65c_rangeCheckForAdd_d00df yJx4a65c_rangeCheckForAdd_d00df, Cond.code yJx4a65c_rangeCheckForAdd_d00df cJx4a65c_rangeCheckForAdd_d00df 2 none, Cond.methodLink RJx4a65c 129 yJx4a65c_grow_d5877, Cond.instanceMethod yJx4a65c_grow_d5877, Cond.selects RJx4a65c yJx4a65c_grow_d5877 yJx4a65c_grow_d5877, Cond.code yJx4a65c_grow_d5877 cJx4a65c_grow_d5877 1 (some (.array (.object "java/lang/Object"))), Cond.methodLink RJx4a65c 69 yJx4a65c_grow_92f84, Cond.instanceMethod yJx4a65c_grow_92f84, Cond.selects RJx4a65c yJx4a65c_grow_92f84 yJx4a65c_grow_92f84, Cond.code yJx4a65c_grow_92f84 cJx4a65c_grow_92f84 4 (some (.array (.object "java/lang/Object"))), Cond.fieldLink RJx4a65c 39 "java/util/ArrayList" "DEFAULTCAPACITY_EMPTY_ELEMENTDATA" "[Ljava/lang/Object;", Cond.methodLink RJx4a65c 79 Lib.Math.max.name, Cond.static Lib.Math.max.name, Cond.initialized "java/lang/Math", Cond.code Lib.Math.max.name Lib.Math.max.code 2 (some .int), Cond.classLink RJx4a65c 7 "java/lang/Object", Cond.methodLink RJx4a65c 73 yJ8_newLength_cabcc, Cond.static yJ8_newLength_cabcc, Cond.initialized RJ8, Cond.code yJ8_newLength_cabcc cJ8_newLength_cabcc 4 (some .int), Cond.methodLink RJ8 194 Lib.Math.max.name, Cond.constant RJ8 200 (2147483639)]
def wsL_make_r8 : List Cond := [Cond.methodLink RJ8 201 yJ8_hugeLength_7cf53, Cond.static yJ8_hugeLength_7cf53, Cond.code yJ8_hugeLength_7cf53 cJ8_hugeLength_7cf53 3 (some .int), Cond.methodLink RJx4a65c 66 yJ7_copyOf_1904c, Cond.static yJ7_copyOf_1904c, Cond.initialized RJ7, Cond.code yJ7_copyOf_1904c cJ7_copyOf_1904c 2 (some (.array (.object "java/lang/Object"))), Cond.methodLink RJ7 86 ⟨"java/lang/Object", "getClass", "()Ljava/lang/Class;"⟩, Cond.selects "[Ljava/lang/Object;" ⟨"java/lang/Object", "getClass", "()Ljava/lang/Class;"⟩ ⟨"java/lang/Object", "getClass", "()Ljava/lang/Class;"⟩, Cond.instanceMethod ⟨"java/lang/Object", "getClass", "()Ljava/lang/Class;"⟩, Cond.native ⟨"java/lang/Object", "getClass", "()Ljava/lang/Class;"⟩, Cond.methodLink RJ7 300 yJ7_copyOf_6403c, Cond.static yJ7_copyOf_6403c, Cond.code yJ7_copyOf_6403c cJ7_copyOf_6403c 4 (some (.array (.object "java/lang/Object"))), Cond.classLink RJ7 110 "[Ljava/lang/Object;", Cond.classLink RJ7 2 "java/lang/Object", Cond.methodLink RJ7 304 Lib.Math.min.name, Cond.static Lib.Math.min.name, Cond.code Lib.Math.min.name Lib.Math.min.code 2 (some .int), Cond.methodLink RJ7 150 arraycopyName, Cond.methodLink RX1 196 yX1_makeAbove, Cond.instanceMethod yX1_makeAbove, Cond.selects RX1 yX1_makeAbove yX1_makeAbove, Cond.code yX1_makeAbove cX1_makeAbove 4 (some .int)]
def wsL_make_r9 : List Cond := [Cond.methodLink RX1 100 yX1_forgetSeen, Cond.instanceMethod yX1_forgetSeen, Cond.selects RX1 yX1_forgetSeen yX1_forgetSeen, Cond.code yX1_forgetSeen cX1_forgetSeen 2 none, Cond.fieldLink RX1 38 "TierHouse" "seenCount" "[I"]
def wsL_make : List Cond := .codeWith yL_make cL_make 7 (some .int) [(0, 14, 17, 13), (0, 14, 21, 23)] :: ((wsL_make_r1 ++ (wsL_make_r2 ++ (wsL_make_r3 ++ (wsL_make_r4 ++ (wsL_make_r5 ++ (wsL_make_r6 ++ (wsL_make_r7 ++ (wsL_make_r8 ++ wsL_make_r9)))))))) ++ wsX10 ++ wsX00 ++ wsJx4a65c0 ++ (vx_atS RX1 77 "java/lang/UnsupportedOperationException" ["java/lang/RuntimeException", "java/lang/Exception"]).filter goodWord ++ (vx_atS RX1 62 "java/lang/IllegalArgumentException" ["java/lang/RuntimeException", "java/lang/Exception"]).filter goodWord)
def wsL_set_r1 : List Cond := [Cond.classLink RL 13 "java/lang/IllegalArgumentException", Cond.methodLink RL 32 yX1_set, Cond.instanceMethod yX1_set, Cond.selects RX1 yX1_set yX1_set, Cond.initialized RX1, Cond.code yX1_set cX1_set 7 (some .int), Cond.fieldLink RX1 9 "TierHouse" "labelOf" "[I", Cond.fieldLink RX1 113 "TierHouse$StoredFile" "count" "I", Cond.fieldLink RX1 118 "TierHouse$StoredFile" "cells" "[I", Cond.methodLink RX1 47 yX1_requireSubject, Cond.static yX1_requireSubject, Cond.code yX1_requireSubject cX1_requireSubject 1 none, Cond.classLink RX1 58 "java/lang/IllegalArgumentException", Cond.initialized "java/lang/IllegalArgumentException", Cond.methodLink RX1 103 yX1_requireNumber, Cond.static yX1_requireNumber, Cond.code yX1_requireNumber cX1_requireNumber 1 none, Cond.methodLink RX1 106 yX1_requireCell, Cond.static yX1_requireCell, Cond.code yX1_requireCell cX1_requireCell 1 none, Cond.methodLink RX1 100 yX1_forgetSeen, Cond.instanceMethod yX1_forgetSeen, Cond.selects RX1 yX1_forgetSeen yX1_forgetSeen, Cond.code yX1_forgetSeen cX1_forgetSeen 2 none]
def wsL_set_r2 : List Cond := [Cond.fieldLink RX1 38 "TierHouse" "seenCount" "[I", Cond.methodLink RX1 109 yX1_find, Cond.instanceMethod yX1_find, Cond.selects RX1 yX1_find yX1_find, Cond.code yX1_find cX1_find 4 (some (.object "TierHouse$StoredFile")), Cond.fieldLink RX1 22 "TierHouse" "files" "Ljava/util/ArrayList;", Cond.classLink RX1 114 "TierHouse$StoredFile", Cond.methodLink RX1 132 yX1_addressOf, Cond.static yX1_addressOf, Cond.code yX1_addressOf cX1_addressOf 2 (some .int), Cond.methodLink RX1 136 yX1_placeOf, Cond.instanceMethod yX1_placeOf, Cond.selects RX1 yX1_placeOf yX1_placeOf, Cond.code yX1_placeOf cX1_placeOf 3 (some .int), Cond.fieldLink RX1 223 "TierHouse$StoredFile" "address" "I", Cond.methodLink RX1 217 yJx4a65c_size_8abf5, Cond.instanceMethod yJx4a65c_size_8abf5, Cond.selects RJx4a65c yJx4a65c_size_8abf5 yJx4a65c_size_8abf5, Cond.initialized RJx4a65c, Cond.code yJx4a65c_size_8abf5 cJx4a65c_size_8abf5 1 (some .int), Cond.fieldLink RJx4a65c 48 "java/util/ArrayList" "size" "I", Cond.methodLink RX1 220 yJx4a65c_get_915e3, Cond.instanceMethod yJx4a65c_get_915e3, Cond.selects RJx4a65c yJx4a65c_get_915e3 yJx4a65c_get_915e3]
def wsL_set_r3 : List Cond := [Cond.code yJx4a65c_get_915e3 cJx4a65c_get_915e3 2 (some (.object "java/lang/Object")), Cond.methodLink RJx4a65c 118 yJ15_checkIndex_7cf53, Cond.static yJ15_checkIndex_7cf53, Cond.initialized RJ15, Cond.code yJ15_checkIndex_7cf53 cJ15_checkIndex_7cf53 2 (some .int), Cond.methodLink RJ15 105 yJ3_checkIndex_8e157, Cond.static yJ3_checkIndex_8e157, Cond.initialized RJ3, Cond.code yJ3_checkIndex_8e157 cJ3_checkIndex_8e157 3 (some .int), Cond.methodLink RJx4a65c 123 yJx4a65c_elementData_915e3, Cond.instanceMethod yJx4a65c_elementData_915e3, Cond.selects RJx4a65c yJx4a65c_elementData_915e3 yJx4a65c_elementData_915e3, Cond.code yJx4a65c_elementData_915e3 cJx4a65c_elementData_915e3 2 (some (.object "java/lang/Object")), Cond.fieldLink RJx4a65c 9 "java/util/ArrayList" "elementData" "[Ljava/lang/Object;", Cond.methodLink RX1 121 yX1_hasRoom, Cond.instanceMethod yX1_hasRoom, Cond.selects RX1 yX1_hasRoom yX1_hasRoom, Cond.code yX1_hasRoom cX1_hasRoom 3 (some .boolean), Cond.fieldLink RX1 13 "TierHouse" "quotaOf" "[I", Cond.methodLink RX1 155 yX1_usedBy, Cond.instanceMethod yX1_usedBy, Cond.selects RX1 yX1_usedBy yX1_usedBy, Cond.code yX1_usedBy cX1_usedBy 5 (some .int), Cond.fieldLink RX1 16 "TierHouse" "spentBy" "[I"]
def wsL_set_r4 : List Cond := [Cond.methodLink RX1 190 yX1_labelOfAddress, Cond.static yX1_labelOfAddress, Cond.code yX1_labelOfAddress cX1_labelOfAddress 1 (some .int), Cond.methodLink RX1 210 yX0_use, Cond.instanceMethod yX0_use, Cond.selects RX0 yX0_use yX0_use, Cond.initialized RX0, Cond.code yX0_use cX0_use 1 (some .int), Cond.fieldLink RX0 28 "TierHouse$StoredFile" "isGift" "Z", Cond.fieldLink RX0 15 "TierHouse$StoredFile" "count" "I", Cond.fieldLink RX0 19 "TierHouse$StoredFile" "giftCells" "I", Cond.methodLink RX0 32 yJ6_bitCount_0f7a4, Cond.static yJ6_bitCount_0f7a4, Cond.initialized RJ6, Cond.code yJ6_bitCount_0f7a4 cJ6_bitCount_0f7a4 1 (some .int), Cond.constant RJ6 265 (1431655765), Cond.constant RJ6 266 (858993459), Cond.constant RJ6 267 (252645135), Cond.methodLink RX1 124 yX0_append, Cond.instanceMethod yX0_append, Cond.selects RX0 yX0_append yX0_append, Cond.code yX0_append cX0_append 3 none, Cond.fieldLink RX0 9 "TierHouse$StoredFile" "cells" "[I"]
def wsL_set : List Cond := .codeWith yL_set cL_set 7 (some .int) [(0, 14, 17, 13)] :: ((wsL_set_r1 ++ (wsL_set_r2 ++ (wsL_set_r3 ++ wsL_set_r4))) ++ wsX10 ++ wsX00 ++ wsJx4a65c0 ++ (vx_atS RX1 62 "java/lang/IllegalArgumentException" ["java/lang/RuntimeException", "java/lang/Exception"]).filter goodWord)
def wsL_give_r1 : List Cond := [Cond.classLink RL 13 "java/lang/IllegalArgumentException", Cond.methodLink RL 35 yX1_give, Cond.instanceMethod yX1_give, Cond.selects RX1 yX1_give yX1_give, Cond.initialized RX1, Cond.code yX1_give cX1_give 7 (some .int), Cond.fieldLink RX1 9 "TierHouse" "labelOf" "[I", Cond.fieldLink RX1 16 "TierHouse" "spentBy" "[I", Cond.methodLink RX1 47 yX1_requireSubject, Cond.static yX1_requireSubject, Cond.code yX1_requireSubject cX1_requireSubject 1 none, Cond.classLink RX1 58 "java/lang/IllegalArgumentException", Cond.initialized "java/lang/IllegalArgumentException", Cond.methodLink RX1 88 yX1_requireFile, Cond.static yX1_requireFile, Cond.code yX1_requireFile cX1_requireFile 2 none, Cond.methodLink RX1 51 yX1_requireLabel, Cond.static yX1_requireLabel, Cond.code yX1_requireLabel cX1_requireLabel 1 none, Cond.methodLink RX1 103 yX1_requireNumber, Cond.static yX1_requireNumber, Cond.code yX1_requireNumber cX1_requireNumber 1 none, Cond.methodLink RX1 100 yX1_forgetSeen, Cond.instanceMethod yX1_forgetSeen]
def wsL_give_r2 : List Cond := [Cond.selects RX1 yX1_forgetSeen yX1_forgetSeen, Cond.code yX1_forgetSeen cX1_forgetSeen 2 none, Cond.fieldLink RX1 38 "TierHouse" "seenCount" "[I", Cond.methodLink RX1 84 yX1_mayFlow, Cond.static yX1_mayFlow, Cond.code yX1_mayFlow cX1_mayFlow 2 (some .boolean), Cond.methodLink RX1 175 yX1_secrecyOf, Cond.static yX1_secrecyOf, Cond.code yX1_secrecyOf cX1_secrecyOf 1 (some .int), Cond.methodLink RX1 178 yX1_secretsOf, Cond.static yX1_secretsOf, Cond.code yX1_secretsOf cX1_secretsOf 1 (some .int), Cond.methodLink RX1 181 yX1_isWithin, Cond.static yX1_isWithin, Cond.code yX1_isWithin cX1_isWithin 2 (some .boolean), Cond.methodLink RX1 184 yX1_trustOf, Cond.static yX1_trustOf, Cond.code yX1_trustOf cX1_trustOf 1 (some .int), Cond.methodLink RX1 187 yX1_warrantsOf, Cond.static yX1_warrantsOf, Cond.code yX1_warrantsOf cX1_warrantsOf 1 (some .int), Cond.methodLink RX1 121 yX1_hasRoom, Cond.instanceMethod yX1_hasRoom, Cond.selects RX1 yX1_hasRoom yX1_hasRoom]
def wsL_give_r3 : List Cond := [Cond.code yX1_hasRoom cX1_hasRoom 3 (some .boolean), Cond.fieldLink RX1 13 "TierHouse" "quotaOf" "[I", Cond.methodLink RX1 155 yX1_usedBy, Cond.instanceMethod yX1_usedBy, Cond.selects RX1 yX1_usedBy yX1_usedBy, Cond.code yX1_usedBy cX1_usedBy 5 (some .int), Cond.fieldLink RX1 22 "TierHouse" "files" "Ljava/util/ArrayList;", Cond.classLink RX1 114 "TierHouse$StoredFile", Cond.fieldLink RX1 223 "TierHouse$StoredFile" "address" "I", Cond.methodLink RX1 217 yJx4a65c_size_8abf5, Cond.instanceMethod yJx4a65c_size_8abf5, Cond.selects RJx4a65c yJx4a65c_size_8abf5 yJx4a65c_size_8abf5, Cond.initialized RJx4a65c, Cond.code yJx4a65c_size_8abf5 cJx4a65c_size_8abf5 1 (some .int), Cond.fieldLink RJx4a65c 48 "java/util/ArrayList" "size" "I", Cond.methodLink RX1 220 yJx4a65c_get_915e3, Cond.instanceMethod yJx4a65c_get_915e3, Cond.selects RJx4a65c yJx4a65c_get_915e3 yJx4a65c_get_915e3, Cond.code yJx4a65c_get_915e3 cJx4a65c_get_915e3 2 (some (.object "java/lang/Object")), Cond.methodLink RJx4a65c 118 yJ15_checkIndex_7cf53, Cond.static yJ15_checkIndex_7cf53, Cond.initialized RJ15, Cond.code yJ15_checkIndex_7cf53 cJ15_checkIndex_7cf53 2 (some .int), Cond.methodLink RJ15 105 yJ3_checkIndex_8e157]
def wsL_give_r4 : List Cond := [Cond.static yJ3_checkIndex_8e157, Cond.initialized RJ3, Cond.code yJ3_checkIndex_8e157 cJ3_checkIndex_8e157 3 (some .int), Cond.methodLink RJx4a65c 123 yJx4a65c_elementData_915e3, Cond.instanceMethod yJx4a65c_elementData_915e3, Cond.selects RJx4a65c yJx4a65c_elementData_915e3 yJx4a65c_elementData_915e3, Cond.code yJx4a65c_elementData_915e3 cJx4a65c_elementData_915e3 2 (some (.object "java/lang/Object")), Cond.fieldLink RJx4a65c 9 "java/util/ArrayList" "elementData" "[Ljava/lang/Object;", Cond.methodLink RX1 190 yX1_labelOfAddress, Cond.static yX1_labelOfAddress, Cond.code yX1_labelOfAddress cX1_labelOfAddress 1 (some .int), Cond.methodLink RX1 210 yX0_use, Cond.instanceMethod yX0_use, Cond.selects RX0 yX0_use yX0_use, Cond.initialized RX0, Cond.code yX0_use cX0_use 1 (some .int), Cond.fieldLink RX0 28 "TierHouse$StoredFile" "isGift" "Z", Cond.fieldLink RX0 15 "TierHouse$StoredFile" "count" "I", Cond.fieldLink RX0 19 "TierHouse$StoredFile" "giftCells" "I", Cond.methodLink RX0 32 yJ6_bitCount_0f7a4, Cond.static yJ6_bitCount_0f7a4, Cond.initialized RJ6, Cond.code yJ6_bitCount_0f7a4 cJ6_bitCount_0f7a4 1 (some .int), Cond.constant RJ6 265 (1431655765)]
def wsL_give_r5 : List Cond := [Cond.constant RJ6 266 (858993459), Cond.constant RJ6 267 (252645135), Cond.methodLink RX1 109 yX1_find, Cond.instanceMethod yX1_find, Cond.selects RX1 yX1_find yX1_find, Cond.code yX1_find cX1_find 4 (some (.object "TierHouse$StoredFile")), Cond.methodLink RX1 132 yX1_addressOf, Cond.static yX1_addressOf, Cond.code yX1_addressOf cX1_addressOf 2 (some .int), Cond.methodLink RX1 136 yX1_placeOf, Cond.instanceMethod yX1_placeOf, Cond.selects RX1 yX1_placeOf yX1_placeOf, Cond.code yX1_placeOf cX1_placeOf 3 (some .int), Cond.methodLink RX1 124 yX0_append, Cond.instanceMethod yX0_append, Cond.selects RX0 yX0_append yX0_append, Cond.code yX0_append cX0_append 3 none, Cond.fieldLink RX0 9 "TierHouse$StoredFile" "cells" "[I"]
def wsL_give : List Cond := .codeWith yL_give cL_give 7 (some .int) [(0, 14, 17, 13)] :: ((wsL_give_r1 ++ (wsL_give_r2 ++ (wsL_give_r3 ++ (wsL_give_r4 ++ wsL_give_r5)))) ++ wsX10 ++ wsX00 ++ wsJx4a65c0 ++ (vx_atS RX1 62 "java/lang/IllegalArgumentException" ["java/lang/RuntimeException", "java/lang/Exception"]).filter goodWord)
def wsL_trim_r1 : List Cond := [Cond.classLink RL 13 "java/lang/IllegalArgumentException", Cond.methodLink RL 38 yX1_trim, Cond.instanceMethod yX1_trim, Cond.selects RX1 yX1_trim yX1_trim, Cond.initialized RX1, Cond.code yX1_trim cX1_trim 6 (some .int), Cond.fieldLink RX1 9 "TierHouse" "labelOf" "[I", Cond.methodLink RX1 47 yX1_requireSubject, Cond.static yX1_requireSubject, Cond.code yX1_requireSubject cX1_requireSubject 1 none, Cond.classLink RX1 58 "java/lang/IllegalArgumentException", Cond.initialized "java/lang/IllegalArgumentException", Cond.methodLink RX1 103 yX1_requireNumber, Cond.static yX1_requireNumber, Cond.code yX1_requireNumber cX1_requireNumber 1 none, Cond.methodLink RX1 54 yX1_requireAtMost, Cond.static yX1_requireAtMost, Cond.code yX1_requireAtMost cX1_requireAtMost 2 none, Cond.methodLink RX1 100 yX1_forgetSeen, Cond.instanceMethod yX1_forgetSeen, Cond.selects RX1 yX1_forgetSeen yX1_forgetSeen, Cond.code yX1_forgetSeen cX1_forgetSeen 2 none, Cond.fieldLink RX1 38 "TierHouse" "seenCount" "[I", Cond.methodLink RX1 109 yX1_find]
def wsL_trim_r2 : List Cond := [Cond.instanceMethod yX1_find, Cond.selects RX1 yX1_find yX1_find, Cond.code yX1_find cX1_find 4 (some (.object "TierHouse$StoredFile")), Cond.fieldLink RX1 22 "TierHouse" "files" "Ljava/util/ArrayList;", Cond.classLink RX1 114 "TierHouse$StoredFile", Cond.methodLink RX1 132 yX1_addressOf, Cond.static yX1_addressOf, Cond.code yX1_addressOf cX1_addressOf 2 (some .int), Cond.methodLink RX1 136 yX1_placeOf, Cond.instanceMethod yX1_placeOf, Cond.selects RX1 yX1_placeOf yX1_placeOf, Cond.code yX1_placeOf cX1_placeOf 3 (some .int), Cond.fieldLink RX1 223 "TierHouse$StoredFile" "address" "I", Cond.methodLink RX1 217 yJx4a65c_size_8abf5, Cond.instanceMethod yJx4a65c_size_8abf5, Cond.selects RJx4a65c yJx4a65c_size_8abf5 yJx4a65c_size_8abf5, Cond.initialized RJx4a65c, Cond.code yJx4a65c_size_8abf5 cJx4a65c_size_8abf5 1 (some .int), Cond.fieldLink RJx4a65c 48 "java/util/ArrayList" "size" "I", Cond.methodLink RX1 220 yJx4a65c_get_915e3, Cond.instanceMethod yJx4a65c_get_915e3, Cond.selects RJx4a65c yJx4a65c_get_915e3 yJx4a65c_get_915e3, Cond.code yJx4a65c_get_915e3 cJx4a65c_get_915e3 2 (some (.object "java/lang/Object")), Cond.methodLink RJx4a65c 118 yJ15_checkIndex_7cf53]
def wsL_trim_r3 : List Cond := [Cond.static yJ15_checkIndex_7cf53, Cond.initialized RJ15, Cond.code yJ15_checkIndex_7cf53 cJ15_checkIndex_7cf53 2 (some .int), Cond.methodLink RJ15 105 yJ3_checkIndex_8e157, Cond.static yJ3_checkIndex_8e157, Cond.initialized RJ3, Cond.code yJ3_checkIndex_8e157 cJ3_checkIndex_8e157 3 (some .int), Cond.methodLink RJx4a65c 123 yJx4a65c_elementData_915e3, Cond.instanceMethod yJx4a65c_elementData_915e3, Cond.selects RJx4a65c yJx4a65c_elementData_915e3 yJx4a65c_elementData_915e3, Cond.code yJx4a65c_elementData_915e3 cJx4a65c_elementData_915e3 2 (some (.object "java/lang/Object")), Cond.fieldLink RJx4a65c 9 "java/util/ArrayList" "elementData" "[Ljava/lang/Object;", Cond.methodLink RX1 128 yX0_cutTo, Cond.instanceMethod yX0_cutTo, Cond.selects RX0 yX0_cutTo yX0_cutTo, Cond.initialized RX0, Cond.code yX0_cutTo cX0_cutTo 3 (some .int), Cond.fieldLink RX0 15 "TierHouse$StoredFile" "count" "I", Cond.fieldLink RX0 19 "TierHouse$StoredFile" "giftCells" "I"]
def wsL_trim : List Cond := .codeWith yL_trim cL_trim 6 (some .int) [(0, 12, 15, 13)] :: ((wsL_trim_r1 ++ (wsL_trim_r2 ++ wsL_trim_r3)) ++ wsX10 ++ wsX00 ++ wsJx4a65c0 ++ (vx_atS RX1 62 "java/lang/IllegalArgumentException" ["java/lang/RuntimeException", "java/lang/Exception"]).filter goodWord)
def wsL_remove_r1 : List Cond := [Cond.classLink RL 13 "java/lang/IllegalArgumentException", Cond.methodLink RL 42 yX1_remove, Cond.instanceMethod yX1_remove, Cond.selects RX1 yX1_remove yX1_remove, Cond.initialized RX1, Cond.code yX1_remove cX1_remove 5 (some .int), Cond.fieldLink RX1 9 "TierHouse" "labelOf" "[I", Cond.fieldLink RX1 22 "TierHouse" "files" "Ljava/util/ArrayList;", Cond.methodLink RX1 47 yX1_requireSubject, Cond.static yX1_requireSubject, Cond.code yX1_requireSubject cX1_requireSubject 1 none, Cond.classLink RX1 58 "java/lang/IllegalArgumentException", Cond.initialized "java/lang/IllegalArgumentException", Cond.methodLink RX1 103 yX1_requireNumber, Cond.static yX1_requireNumber, Cond.code yX1_requireNumber cX1_requireNumber 1 none, Cond.methodLink RX1 100 yX1_forgetSeen, Cond.instanceMethod yX1_forgetSeen, Cond.selects RX1 yX1_forgetSeen yX1_forgetSeen, Cond.code yX1_forgetSeen cX1_forgetSeen 2 none, Cond.fieldLink RX1 38 "TierHouse" "seenCount" "[I", Cond.methodLink RX1 132 yX1_addressOf, Cond.static yX1_addressOf, Cond.code yX1_addressOf cX1_addressOf 2 (some .int)]
def wsL_remove_r2 : List Cond := [Cond.methodLink RX1 136 yX1_placeOf, Cond.instanceMethod yX1_placeOf, Cond.selects RX1 yX1_placeOf yX1_placeOf, Cond.code yX1_placeOf cX1_placeOf 3 (some .int), Cond.classLink RX1 114 "TierHouse$StoredFile", Cond.fieldLink RX1 223 "TierHouse$StoredFile" "address" "I", Cond.methodLink RX1 217 yJx4a65c_size_8abf5, Cond.instanceMethod yJx4a65c_size_8abf5, Cond.selects RJx4a65c yJx4a65c_size_8abf5 yJx4a65c_size_8abf5, Cond.initialized RJx4a65c, Cond.code yJx4a65c_size_8abf5 cJx4a65c_size_8abf5 1 (some .int), Cond.fieldLink RJx4a65c 48 "java/util/ArrayList" "size" "I", Cond.methodLink RX1 220 yJx4a65c_get_915e3, Cond.instanceMethod yJx4a65c_get_915e3, Cond.selects RJx4a65c yJx4a65c_get_915e3 yJx4a65c_get_915e3, Cond.code yJx4a65c_get_915e3 cJx4a65c_get_915e3 2 (some (.object "java/lang/Object")), Cond.methodLink RJx4a65c 118 yJ15_checkIndex_7cf53, Cond.static yJ15_checkIndex_7cf53, Cond.initialized RJ15, Cond.code yJ15_checkIndex_7cf53 cJ15_checkIndex_7cf53 2 (some .int), Cond.methodLink RJ15 105 yJ3_checkIndex_8e157, Cond.static yJ3_checkIndex_8e157, Cond.initialized RJ3, Cond.code yJ3_checkIndex_8e157 cJ3_checkIndex_8e157 3 (some .int)]
def wsL_remove_r3 : List Cond := [Cond.methodLink RJx4a65c 123 yJx4a65c_elementData_915e3, Cond.instanceMethod yJx4a65c_elementData_915e3, Cond.selects RJx4a65c yJx4a65c_elementData_915e3 yJx4a65c_elementData_915e3, Cond.code yJx4a65c_elementData_915e3 cJx4a65c_elementData_915e3 2 (some (.object "java/lang/Object")), Cond.fieldLink RJx4a65c 9 "java/util/ArrayList" "elementData" "[Ljava/lang/Object;", Cond.methodLink RX1 139 yJx4a65c_remove_915e3, Cond.instanceMethod yJx4a65c_remove_915e3, Cond.selects RJx4a65c yJx4a65c_remove_915e3 yJx4a65c_remove_915e3, Cond.code yJx4a65c_remove_915e3 cJx4a65c_remove_915e3 4 (some (.object "java/lang/Object")), Cond.methodLink RJx4a65c 144 yJx4a65c_fastRemove_b59b0, Cond.instanceMethod yJx4a65c_fastRemove_b59b0, Cond.selects RJx4a65c yJx4a65c_fastRemove_b59b0 yJx4a65c_fastRemove_b59b0, Cond.code yJx4a65c_fastRemove_b59b0 cJx4a65c_fastRemove_b59b0 4 none, Cond.fieldLink RJx4a65c 63 "java/util/ArrayList" "modCount" "I", Cond.sameField "java/util/ArrayList" "java/util/AbstractList" "modCount" "I", Cond.methodLink RJx4a65c 112 arraycopyName, Cond.native arraycopyName, Cond.static arraycopyName, Cond.initialized "java/lang/System"]
def wsL_remove : List Cond := .codeWith yL_remove cL_remove 5 (some .int) [(0, 10, 13, 13)] :: ((wsL_remove_r1 ++ (wsL_remove_r2 ++ wsL_remove_r3)) ++ wsX10 ++ wsX00 ++ wsJx4a65c0 ++ (vx_atS RX1 62 "java/lang/IllegalArgumentException" ["java/lang/RuntimeException", "java/lang/Exception"]).filter goodWord)
def wsL_read_r1 : List Cond := [Cond.classLink RL 13 "java/lang/IllegalArgumentException", Cond.methodLink RL 45 yX1_read, Cond.instanceMethod yX1_read, Cond.selects RX1 yX1_read yX1_read, Cond.initialized RX1, Cond.code yX1_read cX1_read 7 (some .int), Cond.fieldLink RX1 113 "TierHouse$StoredFile" "count" "I", Cond.fieldLink RX1 118 "TierHouse$StoredFile" "cells" "[I", Cond.methodLink RX1 47 yX1_requireSubject, Cond.static yX1_requireSubject, Cond.code yX1_requireSubject cX1_requireSubject 1 none, Cond.classLink RX1 58 "java/lang/IllegalArgumentException", Cond.initialized "java/lang/IllegalArgumentException", Cond.methodLink RX1 88 yX1_requireFile, Cond.static yX1_requireFile, Cond.code yX1_requireFile cX1_requireFile 2 none, Cond.methodLink RX1 51 yX1_requireLabel, Cond.static yX1_requireLabel, Cond.code yX1_requireLabel cX1_requireLabel 1 none, Cond.methodLink RX1 103 yX1_requireNumber, Cond.static yX1_requireNumber, Cond.code yX1_requireNumber cX1_requireNumber 1 none, Cond.methodLink RX1 106 yX1_requireCell, Cond.static yX1_requireCell]
def wsL_read_r2 : List Cond := [Cond.code yX1_requireCell cX1_requireCell 1 none, Cond.methodLink RX1 100 yX1_forgetSeen, Cond.instanceMethod yX1_forgetSeen, Cond.selects RX1 yX1_forgetSeen yX1_forgetSeen, Cond.code yX1_forgetSeen cX1_forgetSeen 2 none, Cond.fieldLink RX1 38 "TierHouse" "seenCount" "[I", Cond.methodLink RX1 143 yX1_verdictOnReading, Cond.instanceMethod yX1_verdictOnReading, Cond.selects RX1 yX1_verdictOnReading yX1_verdictOnReading, Cond.code yX1_verdictOnReading cX1_verdictOnReading 4 (some .int), Cond.fieldLink RX1 9 "TierHouse" "labelOf" "[I", Cond.methodLink RX1 84 yX1_mayFlow, Cond.static yX1_mayFlow, Cond.code yX1_mayFlow cX1_mayFlow 2 (some .boolean), Cond.methodLink RX1 175 yX1_secrecyOf, Cond.static yX1_secrecyOf, Cond.code yX1_secrecyOf cX1_secrecyOf 1 (some .int), Cond.methodLink RX1 178 yX1_secretsOf, Cond.static yX1_secretsOf, Cond.code yX1_secretsOf cX1_secretsOf 1 (some .int), Cond.methodLink RX1 181 yX1_isWithin, Cond.static yX1_isWithin, Cond.code yX1_isWithin cX1_isWithin 2 (some .boolean), Cond.methodLink RX1 184 yX1_trustOf]
def wsL_read_r3 : List Cond := [Cond.static yX1_trustOf, Cond.code yX1_trustOf cX1_trustOf 1 (some .int), Cond.methodLink RX1 187 yX1_warrantsOf, Cond.static yX1_warrantsOf, Cond.code yX1_warrantsOf cX1_warrantsOf 1 (some .int), Cond.methodLink RX1 109 yX1_find, Cond.instanceMethod yX1_find, Cond.selects RX1 yX1_find yX1_find, Cond.code yX1_find cX1_find 4 (some (.object "TierHouse$StoredFile")), Cond.fieldLink RX1 22 "TierHouse" "files" "Ljava/util/ArrayList;", Cond.classLink RX1 114 "TierHouse$StoredFile", Cond.methodLink RX1 132 yX1_addressOf, Cond.static yX1_addressOf, Cond.code yX1_addressOf cX1_addressOf 2 (some .int), Cond.methodLink RX1 136 yX1_placeOf, Cond.instanceMethod yX1_placeOf, Cond.selects RX1 yX1_placeOf yX1_placeOf, Cond.code yX1_placeOf cX1_placeOf 3 (some .int), Cond.fieldLink RX1 223 "TierHouse$StoredFile" "address" "I", Cond.methodLink RX1 217 yJx4a65c_size_8abf5, Cond.instanceMethod yJx4a65c_size_8abf5, Cond.selects RJx4a65c yJx4a65c_size_8abf5 yJx4a65c_size_8abf5, Cond.initialized RJx4a65c, Cond.code yJx4a65c_size_8abf5 cJx4a65c_size_8abf5 1 (some .int)]
def wsL_read_r4 : List Cond := [Cond.fieldLink RJx4a65c 48 "java/util/ArrayList" "size" "I", Cond.methodLink RX1 220 yJx4a65c_get_915e3, Cond.instanceMethod yJx4a65c_get_915e3, Cond.selects RJx4a65c yJx4a65c_get_915e3 yJx4a65c_get_915e3, Cond.code yJx4a65c_get_915e3 cJx4a65c_get_915e3 2 (some (.object "java/lang/Object")), Cond.methodLink RJx4a65c 118 yJ15_checkIndex_7cf53, Cond.static yJ15_checkIndex_7cf53, Cond.initialized RJ15, Cond.code yJ15_checkIndex_7cf53 cJ15_checkIndex_7cf53 2 (some .int), Cond.methodLink RJ15 105 yJ3_checkIndex_8e157, Cond.static yJ3_checkIndex_8e157, Cond.initialized RJ3, Cond.code yJ3_checkIndex_8e157 cJ3_checkIndex_8e157 3 (some .int), Cond.methodLink RJx4a65c 123 yJx4a65c_elementData_915e3, Cond.instanceMethod yJx4a65c_elementData_915e3, Cond.selects RJx4a65c yJx4a65c_elementData_915e3 yJx4a65c_elementData_915e3, Cond.code yJx4a65c_elementData_915e3 cJx4a65c_elementData_915e3 2 (some (.object "java/lang/Object")), Cond.fieldLink RJx4a65c 9 "java/util/ArrayList" "elementData" "[Ljava/lang/Object;", Cond.methodLink RX1 146 yX1_show, Cond.instanceMethod yX1_show, Cond.selects RX1 yX1_show yX1_show, Cond.code yX1_show cX1_show 3 none, Cond.fieldLink RX1 35 "TierHouse" "seenBy" "[[I"]
def wsL_read : List Cond := .codeWith yL_read cL_read 7 (some .int) [(0, 14, 17, 13)] :: ((wsL_read_r1 ++ (wsL_read_r2 ++ (wsL_read_r3 ++ wsL_read_r4))) ++ wsX00 ++ wsX10 ++ wsJx4a65c0 ++ (vx_atS RX1 62 "java/lang/IllegalArgumentException" ["java/lang/RuntimeException", "java/lang/Exception"]).filter goodWord)
def wsL_size_r1 : List Cond := [Cond.classLink RL 13 "java/lang/IllegalArgumentException", Cond.methodLink RL 48 yX1_size, Cond.instanceMethod yX1_size, Cond.selects RX1 yX1_size yX1_size, Cond.initialized RX1, Cond.code yX1_size cX1_size 6 (some .int), Cond.fieldLink RX1 113 "TierHouse$StoredFile" "count" "I", Cond.methodLink RX1 47 yX1_requireSubject, Cond.static yX1_requireSubject, Cond.code yX1_requireSubject cX1_requireSubject 1 none, Cond.classLink RX1 58 "java/lang/IllegalArgumentException", Cond.initialized "java/lang/IllegalArgumentException", Cond.methodLink RX1 88 yX1_requireFile, Cond.static yX1_requireFile, Cond.code yX1_requireFile cX1_requireFile 2 none, Cond.methodLink RX1 51 yX1_requireLabel, Cond.static yX1_requireLabel, Cond.code yX1_requireLabel cX1_requireLabel 1 none, Cond.methodLink RX1 103 yX1_requireNumber, Cond.static yX1_requireNumber, Cond.code yX1_requireNumber cX1_requireNumber 1 none, Cond.methodLink RX1 100 yX1_forgetSeen, Cond.instanceMethod yX1_forgetSeen, Cond.selects RX1 yX1_forgetSeen yX1_forgetSeen]
def wsL_size_r2 : List Cond := [Cond.code yX1_forgetSeen cX1_forgetSeen 2 none, Cond.fieldLink RX1 38 "TierHouse" "seenCount" "[I", Cond.methodLink RX1 143 yX1_verdictOnReading, Cond.instanceMethod yX1_verdictOnReading, Cond.selects RX1 yX1_verdictOnReading yX1_verdictOnReading, Cond.code yX1_verdictOnReading cX1_verdictOnReading 4 (some .int), Cond.fieldLink RX1 9 "TierHouse" "labelOf" "[I", Cond.methodLink RX1 84 yX1_mayFlow, Cond.static yX1_mayFlow, Cond.code yX1_mayFlow cX1_mayFlow 2 (some .boolean), Cond.methodLink RX1 175 yX1_secrecyOf, Cond.static yX1_secrecyOf, Cond.code yX1_secrecyOf cX1_secrecyOf 1 (some .int), Cond.methodLink RX1 178 yX1_secretsOf, Cond.static yX1_secretsOf, Cond.code yX1_secretsOf cX1_secretsOf 1 (some .int), Cond.methodLink RX1 181 yX1_isWithin, Cond.static yX1_isWithin, Cond.code yX1_isWithin cX1_isWithin 2 (some .boolean), Cond.methodLink RX1 184 yX1_trustOf, Cond.static yX1_trustOf, Cond.code yX1_trustOf cX1_trustOf 1 (some .int), Cond.methodLink RX1 187 yX1_warrantsOf, Cond.static yX1_warrantsOf]
def wsL_size_r3 : List Cond := [Cond.code yX1_warrantsOf cX1_warrantsOf 1 (some .int), Cond.methodLink RX1 109 yX1_find, Cond.instanceMethod yX1_find, Cond.selects RX1 yX1_find yX1_find, Cond.code yX1_find cX1_find 4 (some (.object "TierHouse$StoredFile")), Cond.fieldLink RX1 22 "TierHouse" "files" "Ljava/util/ArrayList;", Cond.classLink RX1 114 "TierHouse$StoredFile", Cond.methodLink RX1 132 yX1_addressOf, Cond.static yX1_addressOf, Cond.code yX1_addressOf cX1_addressOf 2 (some .int), Cond.methodLink RX1 136 yX1_placeOf, Cond.instanceMethod yX1_placeOf, Cond.selects RX1 yX1_placeOf yX1_placeOf, Cond.code yX1_placeOf cX1_placeOf 3 (some .int), Cond.fieldLink RX1 223 "TierHouse$StoredFile" "address" "I", Cond.methodLink RX1 217 yJx4a65c_size_8abf5, Cond.instanceMethod yJx4a65c_size_8abf5, Cond.selects RJx4a65c yJx4a65c_size_8abf5 yJx4a65c_size_8abf5, Cond.initialized RJx4a65c, Cond.code yJx4a65c_size_8abf5 cJx4a65c_size_8abf5 1 (some .int), Cond.fieldLink RJx4a65c 48 "java/util/ArrayList" "size" "I", Cond.methodLink RX1 220 yJx4a65c_get_915e3, Cond.instanceMethod yJx4a65c_get_915e3, Cond.selects RJx4a65c yJx4a65c_get_915e3 yJx4a65c_get_915e3]
def wsL_size_r4 : List Cond := [Cond.code yJx4a65c_get_915e3 cJx4a65c_get_915e3 2 (some (.object "java/lang/Object")), Cond.methodLink RJx4a65c 118 yJ15_checkIndex_7cf53, Cond.static yJ15_checkIndex_7cf53, Cond.initialized RJ15, Cond.code yJ15_checkIndex_7cf53 cJ15_checkIndex_7cf53 2 (some .int), Cond.methodLink RJ15 105 yJ3_checkIndex_8e157, Cond.static yJ3_checkIndex_8e157, Cond.initialized RJ3, Cond.code yJ3_checkIndex_8e157 cJ3_checkIndex_8e157 3 (some .int), Cond.methodLink RJx4a65c 123 yJx4a65c_elementData_915e3, Cond.instanceMethod yJx4a65c_elementData_915e3, Cond.selects RJx4a65c yJx4a65c_elementData_915e3 yJx4a65c_elementData_915e3, Cond.code yJx4a65c_elementData_915e3 cJx4a65c_elementData_915e3 2 (some (.object "java/lang/Object")), Cond.fieldLink RJx4a65c 9 "java/util/ArrayList" "elementData" "[Ljava/lang/Object;"]
def wsL_size : List Cond := .codeWith yL_size cL_size 6 (some .int) [(0, 12, 15, 13)] :: ((wsL_size_r1 ++ (wsL_size_r2 ++ (wsL_size_r3 ++ wsL_size_r4))) ++ wsX00 ++ wsX10 ++ wsJx4a65c0 ++ (vx_atS RX1 62 "java/lang/IllegalArgumentException" ["java/lang/RuntimeException", "java/lang/Exception"]).filter goodWord)
def wsL_there_r1 : List Cond := [Cond.classLink RL 13 "java/lang/IllegalArgumentException", Cond.methodLink RL 51 yX1_there, Cond.instanceMethod yX1_there, Cond.selects RX1 yX1_there yX1_there, Cond.initialized RX1, Cond.code yX1_there cX1_there 5 (some .int), Cond.methodLink RX1 47 yX1_requireSubject, Cond.static yX1_requireSubject, Cond.code yX1_requireSubject cX1_requireSubject 1 none, Cond.classLink RX1 58 "java/lang/IllegalArgumentException", Cond.initialized "java/lang/IllegalArgumentException", Cond.methodLink RX1 88 yX1_requireFile, Cond.static yX1_requireFile, Cond.code yX1_requireFile cX1_requireFile 2 none, Cond.methodLink RX1 51 yX1_requireLabel, Cond.static yX1_requireLabel, Cond.code yX1_requireLabel cX1_requireLabel 1 none, Cond.methodLink RX1 103 yX1_requireNumber, Cond.static yX1_requireNumber, Cond.code yX1_requireNumber cX1_requireNumber 1 none, Cond.methodLink RX1 100 yX1_forgetSeen, Cond.instanceMethod yX1_forgetSeen, Cond.selects RX1 yX1_forgetSeen yX1_forgetSeen, Cond.code yX1_forgetSeen cX1_forgetSeen 2 none]
def wsL_there_r2 : List Cond := [Cond.fieldLink RX1 38 "TierHouse" "seenCount" "[I", Cond.methodLink RX1 143 yX1_verdictOnReading, Cond.instanceMethod yX1_verdictOnReading, Cond.selects RX1 yX1_verdictOnReading yX1_verdictOnReading, Cond.code yX1_verdictOnReading cX1_verdictOnReading 4 (some .int), Cond.fieldLink RX1 9 "TierHouse" "labelOf" "[I", Cond.methodLink RX1 84 yX1_mayFlow, Cond.static yX1_mayFlow, Cond.code yX1_mayFlow cX1_mayFlow 2 (some .boolean), Cond.methodLink RX1 175 yX1_secrecyOf, Cond.static yX1_secrecyOf, Cond.code yX1_secrecyOf cX1_secrecyOf 1 (some .int), Cond.methodLink RX1 178 yX1_secretsOf, Cond.static yX1_secretsOf, Cond.code yX1_secretsOf cX1_secretsOf 1 (some .int), Cond.methodLink RX1 181 yX1_isWithin, Cond.static yX1_isWithin, Cond.code yX1_isWithin cX1_isWithin 2 (some .boolean), Cond.methodLink RX1 184 yX1_trustOf, Cond.static yX1_trustOf, Cond.code yX1_trustOf cX1_trustOf 1 (some .int), Cond.methodLink RX1 187 yX1_warrantsOf, Cond.static yX1_warrantsOf, Cond.code yX1_warrantsOf cX1_warrantsOf 1 (some .int)]
def wsL_there_r3 : List Cond := [Cond.methodLink RX1 109 yX1_find, Cond.instanceMethod yX1_find, Cond.selects RX1 yX1_find yX1_find, Cond.code yX1_find cX1_find 4 (some (.object "TierHouse$StoredFile")), Cond.fieldLink RX1 22 "TierHouse" "files" "Ljava/util/ArrayList;", Cond.classLink RX1 114 "TierHouse$StoredFile", Cond.methodLink RX1 132 yX1_addressOf, Cond.static yX1_addressOf, Cond.code yX1_addressOf cX1_addressOf 2 (some .int), Cond.methodLink RX1 136 yX1_placeOf, Cond.instanceMethod yX1_placeOf, Cond.selects RX1 yX1_placeOf yX1_placeOf, Cond.code yX1_placeOf cX1_placeOf 3 (some .int), Cond.fieldLink RX1 223 "TierHouse$StoredFile" "address" "I", Cond.methodLink RX1 217 yJx4a65c_size_8abf5, Cond.instanceMethod yJx4a65c_size_8abf5, Cond.selects RJx4a65c yJx4a65c_size_8abf5 yJx4a65c_size_8abf5, Cond.initialized RJx4a65c, Cond.code yJx4a65c_size_8abf5 cJx4a65c_size_8abf5 1 (some .int), Cond.fieldLink RJx4a65c 48 "java/util/ArrayList" "size" "I", Cond.methodLink RX1 220 yJx4a65c_get_915e3, Cond.instanceMethod yJx4a65c_get_915e3, Cond.selects RJx4a65c yJx4a65c_get_915e3 yJx4a65c_get_915e3, Cond.code yJx4a65c_get_915e3 cJx4a65c_get_915e3 2 (some (.object "java/lang/Object"))]
def wsL_there_r4 : List Cond := [Cond.methodLink RJx4a65c 118 yJ15_checkIndex_7cf53, Cond.static yJ15_checkIndex_7cf53, Cond.initialized RJ15, Cond.code yJ15_checkIndex_7cf53 cJ15_checkIndex_7cf53 2 (some .int), Cond.methodLink RJ15 105 yJ3_checkIndex_8e157, Cond.static yJ3_checkIndex_8e157, Cond.initialized RJ3, Cond.code yJ3_checkIndex_8e157 cJ3_checkIndex_8e157 3 (some .int), Cond.methodLink RJx4a65c 123 yJx4a65c_elementData_915e3, Cond.instanceMethod yJx4a65c_elementData_915e3, Cond.selects RJx4a65c yJx4a65c_elementData_915e3 yJx4a65c_elementData_915e3, Cond.code yJx4a65c_elementData_915e3 cJx4a65c_elementData_915e3 2 (some (.object "java/lang/Object")), Cond.fieldLink RJx4a65c 9 "java/util/ArrayList" "elementData" "[Ljava/lang/Object;"]
def wsL_there : List Cond := .codeWith yL_there cL_there 6 (some .int) [(0, 12, 15, 13)] :: ((wsL_there_r1 ++ (wsL_there_r2 ++ (wsL_there_r3 ++ wsL_there_r4))) ++ wsX10 ++ wsX00 ++ wsJx4a65c0 ++ (vx_atS RX1 62 "java/lang/IllegalArgumentException" ["java/lang/RuntimeException", "java/lang/Exception"]).filter goodWord)
def wsL_listed_r1 : List Cond := [Cond.classLink RL 13 "java/lang/IllegalArgumentException", Cond.methodLink RL 54 yX1_listed, Cond.instanceMethod yX1_listed, Cond.selects RX1 yX1_listed yX1_listed, Cond.initialized RX1, Cond.code yX1_listed cX1_listed 5 (some .int), Cond.fieldLink RX1 38 "TierHouse" "seenCount" "[I", Cond.methodLink RX1 47 yX1_requireSubject, Cond.static yX1_requireSubject, Cond.code yX1_requireSubject cX1_requireSubject 1 none, Cond.classLink RX1 58 "java/lang/IllegalArgumentException", Cond.initialized "java/lang/IllegalArgumentException", Cond.methodLink RX1 88 yX1_requireFile, Cond.static yX1_requireFile, Cond.code yX1_requireFile cX1_requireFile 2 none, Cond.methodLink RX1 51 yX1_requireLabel, Cond.static yX1_requireLabel, Cond.code yX1_requireLabel cX1_requireLabel 1 none, Cond.methodLink RX1 103 yX1_requireNumber, Cond.static yX1_requireNumber, Cond.code yX1_requireNumber cX1_requireNumber 1 none, Cond.methodLink RX1 100 yX1_forgetSeen, Cond.instanceMethod yX1_forgetSeen, Cond.selects RX1 yX1_forgetSeen yX1_forgetSeen]
def wsL_listed_r2 : List Cond := [Cond.code yX1_forgetSeen cX1_forgetSeen 2 none, Cond.methodLink RX1 143 yX1_verdictOnReading, Cond.instanceMethod yX1_verdictOnReading, Cond.selects RX1 yX1_verdictOnReading yX1_verdictOnReading, Cond.code yX1_verdictOnReading cX1_verdictOnReading 4 (some .int), Cond.fieldLink RX1 9 "TierHouse" "labelOf" "[I", Cond.methodLink RX1 84 yX1_mayFlow, Cond.static yX1_mayFlow, Cond.code yX1_mayFlow cX1_mayFlow 2 (some .boolean), Cond.methodLink RX1 175 yX1_secrecyOf, Cond.static yX1_secrecyOf, Cond.code yX1_secrecyOf cX1_secrecyOf 1 (some .int), Cond.methodLink RX1 178 yX1_secretsOf, Cond.static yX1_secretsOf, Cond.code yX1_secretsOf cX1_secretsOf 1 (some .int), Cond.methodLink RX1 181 yX1_isWithin, Cond.static yX1_isWithin, Cond.code yX1_isWithin cX1_isWithin 2 (some .boolean), Cond.methodLink RX1 184 yX1_trustOf, Cond.static yX1_trustOf, Cond.code yX1_trustOf cX1_trustOf 1 (some .int), Cond.methodLink RX1 187 yX1_warrantsOf, Cond.static yX1_warrantsOf, Cond.code yX1_warrantsOf cX1_warrantsOf 1 (some .int)]
def wsL_listed_r3 : List Cond := [Cond.methodLink RX1 132 yX1_addressOf, Cond.static yX1_addressOf, Cond.code yX1_addressOf cX1_addressOf 2 (some .int), Cond.methodLink RX1 149 yX1_showFilesIn, Cond.instanceMethod yX1_showFilesIn, Cond.selects RX1 yX1_showFilesIn yX1_showFilesIn, Cond.code yX1_showFilesIn cX1_showFilesIn 6 none, Cond.fieldLink RX1 22 "TierHouse" "files" "Ljava/util/ArrayList;", Cond.classLink RX1 114 "TierHouse$StoredFile", Cond.fieldLink RX1 230 "TierHouse$StoredFile" "folder" "I", Cond.fieldLink RX1 223 "TierHouse$StoredFile" "address" "I", Cond.methodLink RX1 217 yJx4a65c_size_8abf5, Cond.instanceMethod yJx4a65c_size_8abf5, Cond.selects RJx4a65c yJx4a65c_size_8abf5 yJx4a65c_size_8abf5, Cond.initialized RJx4a65c, Cond.code yJx4a65c_size_8abf5 cJx4a65c_size_8abf5 1 (some .int), Cond.fieldLink RJx4a65c 48 "java/util/ArrayList" "size" "I", Cond.methodLink RX1 220 yJx4a65c_get_915e3, Cond.instanceMethod yJx4a65c_get_915e3, Cond.selects RJx4a65c yJx4a65c_get_915e3 yJx4a65c_get_915e3, Cond.code yJx4a65c_get_915e3 cJx4a65c_get_915e3 2 (some (.object "java/lang/Object")), Cond.methodLink RJx4a65c 118 yJ15_checkIndex_7cf53, Cond.static yJ15_checkIndex_7cf53, Cond.initialized RJ15]
def wsL_listed_r4 : List Cond := [Cond.code yJ15_checkIndex_7cf53 cJ15_checkIndex_7cf53 2 (some .int), Cond.methodLink RJ15 105 yJ3_checkIndex_8e157, Cond.static yJ3_checkIndex_8e157, Cond.initialized RJ3, Cond.code yJ3_checkIndex_8e157 cJ3_checkIndex_8e157 3 (some .int), Cond.methodLink RJx4a65c 123 yJx4a65c_elementData_915e3, Cond.instanceMethod yJx4a65c_elementData_915e3, Cond.selects RJx4a65c yJx4a65c_elementData_915e3 yJx4a65c_elementData_915e3, Cond.code yJx4a65c_elementData_915e3 cJx4a65c_elementData_915e3 2 (some (.object "java/lang/Object")), Cond.fieldLink RJx4a65c 9 "java/util/ArrayList" "elementData" "[Ljava/lang/Object;", Cond.methodLink RX1 190 yX1_labelOfAddress, Cond.static yX1_labelOfAddress, Cond.code yX1_labelOfAddress cX1_labelOfAddress 1 (some .int), Cond.methodLink RX1 146 yX1_show, Cond.instanceMethod yX1_show, Cond.selects RX1 yX1_show yX1_show, Cond.code yX1_show cX1_show 3 none, Cond.fieldLink RX1 35 "TierHouse" "seenBy" "[[I"]
def wsL_listed : List Cond := .codeWith yL_listed cL_listed 6 (some .int) [(0, 12, 15, 13)] :: ((wsL_listed_r1 ++ (wsL_listed_r2 ++ (wsL_listed_r3 ++ wsL_listed_r4))) ++ wsX10 ++ wsX00 ++ wsJx4a65c0 ++ (vx_atS RX1 62 "java/lang/IllegalArgumentException" ["java/lang/RuntimeException", "java/lang/Exception"]).filter goodWord)
def wsL_release_r1 : List Cond := [Cond.classLink RL 13 "java/lang/IllegalArgumentException", Cond.classLink RL 23 "java/lang/UnsupportedOperationException", Cond.methodLink RL 57 yX1_release, Cond.instanceMethod yX1_release, Cond.selects RX1 yX1_release yX1_release, Cond.initialized RX1, Cond.code yX1_release cX1_release 6 (some .int), Cond.classLink RX1 73 "java/lang/UnsupportedOperationException", Cond.initialized "java/lang/UnsupportedOperationException", Cond.methodLink RX1 47 yX1_requireSubject, Cond.static yX1_requireSubject, Cond.code yX1_requireSubject cX1_requireSubject 1 none, Cond.classLink RX1 58 "java/lang/IllegalArgumentException", Cond.initialized "java/lang/IllegalArgumentException", Cond.methodLink RX1 88 yX1_requireFile, Cond.static yX1_requireFile, Cond.code yX1_requireFile cX1_requireFile 2 none, Cond.methodLink RX1 51 yX1_requireLabel, Cond.static yX1_requireLabel, Cond.code yX1_requireLabel cX1_requireLabel 1 none, Cond.methodLink RX1 103 yX1_requireNumber, Cond.static yX1_requireNumber, Cond.code yX1_requireNumber cX1_requireNumber 1 none, Cond.methodLink RX1 152 yX1_answerRelease]
def wsL_release_r2 : List Cond := [Cond.instanceMethod yX1_answerRelease, Cond.selects RX1 yX1_answerRelease yX1_answerRelease, Cond.code yX1_answerRelease cX1_answerRelease 8 (some .int), Cond.fieldLink RX1 9 "TierHouse" "labelOf" "[I", Cond.fieldLink RX1 113 "TierHouse$StoredFile" "count" "I", Cond.classLink RX1 114 RX0, Cond.instantiable RX0 6, Cond.initialized RX0, Cond.methodLink RX1 65 yX1_listingOf, Cond.static yX1_listingOf, Cond.code yX1_listingOf cX1_listingOf 3 (some .int), Cond.methodLink RX1 69 yX1_isListed, Cond.instanceMethod yX1_isListed, Cond.selects RX1 yX1_isListed yX1_isListed, Cond.code yX1_isListed cX1_isListed 3 (some .boolean), Cond.fieldLink RX1 29 "TierHouse" "listingCount" "I", Cond.fieldLink RX1 26 "TierHouse" "listings" "[I", Cond.methodLink RX1 109 yX1_find, Cond.instanceMethod yX1_find, Cond.selects RX1 yX1_find yX1_find, Cond.code yX1_find cX1_find 4 (some (.object "TierHouse$StoredFile")), Cond.fieldLink RX1 22 "TierHouse" "files" "Ljava/util/ArrayList;", Cond.classLink RX1 114 "TierHouse$StoredFile", Cond.methodLink RX1 132 yX1_addressOf]
def wsL_release_r3 : List Cond := [Cond.static yX1_addressOf, Cond.code yX1_addressOf cX1_addressOf 2 (some .int), Cond.methodLink RX1 136 yX1_placeOf, Cond.instanceMethod yX1_placeOf, Cond.selects RX1 yX1_placeOf yX1_placeOf, Cond.code yX1_placeOf cX1_placeOf 3 (some .int), Cond.fieldLink RX1 223 "TierHouse$StoredFile" "address" "I", Cond.methodLink RX1 217 yJx4a65c_size_8abf5, Cond.instanceMethod yJx4a65c_size_8abf5, Cond.selects RJx4a65c yJx4a65c_size_8abf5 yJx4a65c_size_8abf5, Cond.initialized RJx4a65c, Cond.code yJx4a65c_size_8abf5 cJx4a65c_size_8abf5 1 (some .int), Cond.fieldLink RJx4a65c 48 "java/util/ArrayList" "size" "I", Cond.methodLink RX1 220 yJx4a65c_get_915e3, Cond.instanceMethod yJx4a65c_get_915e3, Cond.selects RJx4a65c yJx4a65c_get_915e3 yJx4a65c_get_915e3, Cond.code yJx4a65c_get_915e3 cJx4a65c_get_915e3 2 (some (.object "java/lang/Object")), Cond.methodLink RJx4a65c 118 yJ15_checkIndex_7cf53, Cond.static yJ15_checkIndex_7cf53, Cond.initialized RJ15, Cond.code yJ15_checkIndex_7cf53 cJ15_checkIndex_7cf53 2 (some .int), Cond.methodLink RJ15 105 yJ3_checkIndex_8e157, Cond.static yJ3_checkIndex_8e157, Cond.initialized RJ3]
def wsL_release_r4 : List Cond := [Cond.code yJ3_checkIndex_8e157 cJ3_checkIndex_8e157 3 (some .int), Cond.methodLink RJx4a65c 123 yJx4a65c_elementData_915e3, Cond.instanceMethod yJx4a65c_elementData_915e3, Cond.selects RJx4a65c yJx4a65c_elementData_915e3 yJx4a65c_elementData_915e3, Cond.code yJx4a65c_elementData_915e3 cJx4a65c_elementData_915e3 2 (some (.object "java/lang/Object")), Cond.fieldLink RJx4a65c 9 "java/util/ArrayList" "elementData" "[Ljava/lang/Object;", Cond.methodLink RX1 210 yX0_use, Cond.instanceMethod yX0_use, Cond.selects RX0 yX0_use yX0_use, Cond.code yX0_use cX0_use 1 (some .int), Cond.fieldLink RX0 28 "TierHouse$StoredFile" "isGift" "Z", Cond.fieldLink RX0 15 "TierHouse$StoredFile" "count" "I", Cond.fieldLink RX0 19 "TierHouse$StoredFile" "giftCells" "I", Cond.methodLink RX0 32 yJ6_bitCount_0f7a4, Cond.static yJ6_bitCount_0f7a4, Cond.initialized RJ6, Cond.code yJ6_bitCount_0f7a4 cJ6_bitCount_0f7a4 1 (some .int), Cond.constant RJ6 265 (1431655765), Cond.constant RJ6 266 (858993459), Cond.constant RJ6 267 (252645135), Cond.methodLink RX1 121 yX1_hasRoom, Cond.instanceMethod yX1_hasRoom, Cond.selects RX1 yX1_hasRoom yX1_hasRoom, Cond.code yX1_hasRoom cX1_hasRoom 3 (some .boolean)]
def wsL_release_r5 : List Cond := [Cond.fieldLink RX1 13 "TierHouse" "quotaOf" "[I", Cond.methodLink RX1 155 yX1_usedBy, Cond.instanceMethod yX1_usedBy, Cond.selects RX1 yX1_usedBy yX1_usedBy, Cond.code yX1_usedBy cX1_usedBy 5 (some .int), Cond.fieldLink RX1 16 "TierHouse" "spentBy" "[I", Cond.methodLink RX1 190 yX1_labelOfAddress, Cond.static yX1_labelOfAddress, Cond.code yX1_labelOfAddress cX1_labelOfAddress 1 (some .int), Cond.methodLink RX1 199 yX1_isFull, Cond.instanceMethod yX1_isFull, Cond.selects RX1 yX1_isFull yX1_isFull, Cond.code yX1_isFull cX1_isFull 1 (some .boolean), Cond.methodLink RX1 203 yX0_init, Cond.instanceMethod yX0_init, Cond.code yX0_init cX0_init 4 none, Cond.methodLink RX0 3 objectInit, Cond.instanceMethod objectInit, Cond.code objectInit ⟨#[0xb1]⟩ 1 none, Cond.arrayClass .int, Cond.fieldLink RX0 9 "TierHouse$StoredFile" "cells" "[I", Cond.fieldLink RX0 22 "TierHouse$StoredFile" "address" "I", Cond.fieldLink RX0 25 "TierHouse$StoredFile" "folder" "I", Cond.methodLink RX1 206 yX1_store]
def wsL_release_r6 : List Cond := [Cond.instanceMethod yX1_store, Cond.selects RX1 yX1_store yX1_store, Cond.code yX1_store cX1_store 3 none, Cond.methodLink RX1 226 yJx4a65c_add_7a177, Cond.instanceMethod yJx4a65c_add_7a177, Cond.selects RJx4a65c yJx4a65c_add_7a177 yJx4a65c_add_7a177, Cond.code yJx4a65c_add_7a177 cJx4a65c_add_7a177 5 none, Cond.fieldLink RJx4a65c 63 "java/util/ArrayList" "modCount" "I", Cond.sameField "java/util/ArrayList" "java/util/AbstractList" "modCount" "I", Cond.methodLink RJx4a65c 112 arraycopyName, Cond.native arraycopyName, Cond.static arraycopyName, Cond.initialized "java/lang/System", Cond.methodLink RJx4a65c 135 yJx4a65c_rangeCheckForAdd_d00df, Cond.instanceMethod yJx4a65c_rangeCheckForAdd_d00df, Cond.selects RJx4a65c yJx4a65c_rangeCheckForAdd_d00df yJx4a65c_rangeCheckForAdd_d00df, Cond.code yJx4a65c_rangeCheckForAdd_d00df cJx4a65c_rangeCheckForAdd_d00df 2 none, Cond.methodLink RJx4a65c 129 yJx4a65c_grow_d5877, Cond.instanceMethod yJx4a65c_grow_d5877, Cond.selects RJx4a65c yJx4a65c_grow_d5877 yJx4a65c_grow_d5877, Cond.code yJx4a65c_grow_d5877 cJx4a65c_grow_d5877 1 (some (.array (.object "java/lang/Object"))), Cond.methodLink RJx4a65c 69 yJx4a65c_grow_92f84, Cond.instanceMethod yJx4a65c_grow_92f84, Cond.selects RJx4a65c yJx4a65c_grow_92f84 yJx4a65c_grow_92f84]
def wsL_release_r7 : List Cond := [Cond.code yJx4a65c_grow_92f84 cJx4a65c_grow_92f84 4 (some (.array (.object "java/lang/Object"))), Cond.fieldLink RJx4a65c 39 "java/util/ArrayList" "DEFAULTCAPACITY_EMPTY_ELEMENTDATA" "[Ljava/lang/Object;", Cond.methodLink RJx4a65c 79 Lib.Math.max.name, Cond.static Lib.Math.max.name, Cond.initialized "java/lang/Math", Cond.code Lib.Math.max.name Lib.Math.max.code 2 (some .int), Cond.classLink RJx4a65c 7 "java/lang/Object", Cond.methodLink RJx4a65c 73 yJ8_newLength_cabcc, Cond.static yJ8_newLength_cabcc, Cond.initialized RJ8, Cond.code yJ8_newLength_cabcc cJ8_newLength_cabcc 4 (some .int), Cond.methodLink RJ8 194 Lib.Math.max.name, Cond.constant RJ8 200 (2147483639), Cond.methodLink RJ8 201 yJ8_hugeLength_7cf53, Cond.static yJ8_hugeLength_7cf53, Cond.code yJ8_hugeLength_7cf53 cJ8_hugeLength_7cf53 3 (some .int), Cond.methodLink RJx4a65c 66 yJ7_copyOf_1904c, Cond.static yJ7_copyOf_1904c, Cond.initialized RJ7, Cond.code yJ7_copyOf_1904c cJ7_copyOf_1904c 2 (some (.array (.object "java/lang/Object"))), Cond.methodLink RJ7 86 ⟨"java/lang/Object", "getClass", "()Ljava/lang/Class;"⟩, Cond.selects "[Ljava/lang/Object;" ⟨"java/lang/Object", "getClass", "()Ljava/lang/Class;"⟩ ⟨"java/lang/Object", "getClass", "()Ljava/lang/Class;"⟩, Cond.instanceMethod ⟨"java/lang/Object", "getClass", "()Ljava/lang/Class;"⟩, Cond.native ⟨"java/lang/Object", "getClass", "()Ljava/lang/Class;"⟩]
def wsL_release_r8 : List Cond := [Cond.methodLink RJ7 300 yJ7_copyOf_6403c, Cond.static yJ7_copyOf_6403c, Cond.code yJ7_copyOf_6403c cJ7_copyOf_6403c 4 (some (.array (.object "java/lang/Object"))), Cond.classLink RJ7 110 "[Ljava/lang/Object;", Cond.classLink RJ7 2 "java/lang/Object", Cond.methodLink RJ7 304 Lib.Math.min.name, Cond.static Lib.Math.min.name, Cond.code Lib.Math.min.name Lib.Math.min.code 2 (some .int), Cond.methodLink RJ7 150 arraycopyName, Cond.methodLink RX1 214 yX0_becomeCopyOf, Cond.instanceMethod yX0_becomeCopyOf, Cond.selects RX0 yX0_becomeCopyOf yX0_becomeCopyOf, Cond.code yX0_becomeCopyOf cX0_becomeCopyOf 2 none, Cond.methodLink RX0 38 arraycopyName, Cond.methodLink RX1 100 yX1_forgetSeen, Cond.instanceMethod yX1_forgetSeen, Cond.selects RX1 yX1_forgetSeen yX1_forgetSeen, Cond.code yX1_forgetSeen cX1_forgetSeen 2 none, Cond.fieldLink RX1 38 "TierHouse" "seenCount" "[I"]
def wsL_release : List Cond := .codeWith yL_release cL_release 7 (some .int) [(0, 14, 17, 13), (0, 14, 21, 23)] :: ((wsL_release_r1 ++ (wsL_release_r2 ++ (wsL_release_r3 ++ (wsL_release_r4 ++ (wsL_release_r5 ++ (wsL_release_r6 ++ (wsL_release_r7 ++ wsL_release_r8))))))) ++ wsX10 ++ wsX00 ++ wsJx4a65c0 ++ (vx_atS RX1 77 "java/lang/UnsupportedOperationException" ["java/lang/RuntimeException", "java/lang/Exception"]).filter goodWord ++ (vx_atS RX1 62 "java/lang/IllegalArgumentException" ["java/lang/RuntimeException", "java/lang/Exception"]).filter goodWord)
def wsL_seen : List Cond := .codeWith yL_seen cL_seen 5 (some .int) [(0, 10, 13, 13)] :: ([.classLink RL 13 "java/lang/IllegalArgumentException", .methodLink RL 60 yX1_seen, .instanceMethod yX1_seen, .selects RX1 yX1_seen yX1_seen, .initialized RX1, .code yX1_seen cX1_seen 3 (some .int), .fieldLink RX1 38 "TierHouse" "seenCount" "[I", .fieldLink RX1 35 "TierHouse" "seenBy" "[[I", .methodLink RX1 47 yX1_requireSubject, .static yX1_requireSubject, .code yX1_requireSubject cX1_requireSubject 1 none, .classLink RX1 58 "java/lang/IllegalArgumentException", .initialized "java/lang/IllegalArgumentException"] ++ wsX10 ++ (vx_atS RX1 62 "java/lang/IllegalArgumentException" ["java/lang/RuntimeException", "java/lang/Exception"]).filter goodWord)
def wsL_told_r1 : List Cond := [Cond.classLink RL 13 "java/lang/IllegalArgumentException", Cond.methodLink RL 63 yX1_told, Cond.instanceMethod yX1_told, Cond.selects RX1 yX1_told yX1_told, Cond.initialized RX1, Cond.code yX1_told cX1_told 3 (some .int), Cond.classLink RX1 58 "java/lang/IllegalArgumentException", Cond.initialized "java/lang/IllegalArgumentException", Cond.fieldLink RX1 16 "TierHouse" "spentBy" "[I", Cond.fieldLink RX1 13 "TierHouse" "quotaOf" "[I", Cond.methodLink RX1 51 yX1_requireLabel, Cond.static yX1_requireLabel, Cond.code yX1_requireLabel cX1_requireLabel 1 none, Cond.methodLink RX1 155 yX1_usedBy, Cond.instanceMethod yX1_usedBy, Cond.selects RX1 yX1_usedBy yX1_usedBy, Cond.code yX1_usedBy cX1_usedBy 5 (some .int), Cond.fieldLink RX1 22 "TierHouse" "files" "Ljava/util/ArrayList;", Cond.classLink RX1 114 "TierHouse$StoredFile", Cond.fieldLink RX1 223 "TierHouse$StoredFile" "address" "I", Cond.methodLink RX1 217 yJx4a65c_size_8abf5, Cond.instanceMethod yJx4a65c_size_8abf5, Cond.selects RJx4a65c yJx4a65c_size_8abf5 yJx4a65c_size_8abf5, Cond.initialized RJx4a65c]
def wsL_told_r2 : List Cond := [Cond.code yJx4a65c_size_8abf5 cJx4a65c_size_8abf5 1 (some .int), Cond.fieldLink RJx4a65c 48 "java/util/ArrayList" "size" "I", Cond.methodLink RX1 220 yJx4a65c_get_915e3, Cond.instanceMethod yJx4a65c_get_915e3, Cond.selects RJx4a65c yJx4a65c_get_915e3 yJx4a65c_get_915e3, Cond.code yJx4a65c_get_915e3 cJx4a65c_get_915e3 2 (some (.object "java/lang/Object")), Cond.methodLink RJx4a65c 118 yJ15_checkIndex_7cf53, Cond.static yJ15_checkIndex_7cf53, Cond.initialized RJ15, Cond.code yJ15_checkIndex_7cf53 cJ15_checkIndex_7cf53 2 (some .int), Cond.methodLink RJ15 105 yJ3_checkIndex_8e157, Cond.static yJ3_checkIndex_8e157, Cond.initialized RJ3, Cond.code yJ3_checkIndex_8e157 cJ3_checkIndex_8e157 3 (some .int), Cond.methodLink RJx4a65c 123 yJx4a65c_elementData_915e3, Cond.instanceMethod yJx4a65c_elementData_915e3, Cond.selects RJx4a65c yJx4a65c_elementData_915e3 yJx4a65c_elementData_915e3, Cond.code yJx4a65c_elementData_915e3 cJx4a65c_elementData_915e3 2 (some (.object "java/lang/Object")), Cond.fieldLink RJx4a65c 9 "java/util/ArrayList" "elementData" "[Ljava/lang/Object;", Cond.methodLink RX1 190 yX1_labelOfAddress, Cond.static yX1_labelOfAddress, Cond.code yX1_labelOfAddress cX1_labelOfAddress 1 (some .int), Cond.methodLink RX1 210 yX0_use, Cond.instanceMethod yX0_use]
def wsL_told_r3 : List Cond := [Cond.selects RX0 yX0_use yX0_use, Cond.initialized RX0, Cond.code yX0_use cX0_use 1 (some .int), Cond.fieldLink RX0 28 "TierHouse$StoredFile" "isGift" "Z", Cond.fieldLink RX0 15 "TierHouse$StoredFile" "count" "I", Cond.fieldLink RX0 19 "TierHouse$StoredFile" "giftCells" "I", Cond.methodLink RX0 32 yJ6_bitCount_0f7a4, Cond.static yJ6_bitCount_0f7a4, Cond.initialized RJ6, Cond.code yJ6_bitCount_0f7a4 cJ6_bitCount_0f7a4 1 (some .int), Cond.constant RJ6 265 (1431655765), Cond.constant RJ6 266 (858993459), Cond.constant RJ6 267 (252645135), Cond.methodLink RX1 158 yX1_countFilesAt, Cond.instanceMethod yX1_countFilesAt, Cond.selects RX1 yX1_countFilesAt yX1_countFilesAt, Cond.code yX1_countFilesAt cX1_countFilesAt 4 (some .int)]
def wsL_told : List Cond := .codeWith yL_told cL_told 5 (some .int) [(0, 10, 13, 13)] :: ((wsL_told_r1 ++ (wsL_told_r2 ++ wsL_told_r3)) ++ wsX10 ++ wsX00 ++ wsJx4a65c0 ++ (vx_atS RX1 62 "java/lang/IllegalArgumentException" ["java/lang/RuntimeException", "java/lang/Exception"]).filter goodWord)
def wsL_law0_r1 : List Cond := [Cond.classLink RL 8 RX1, Cond.instantiable RX1 8, Cond.initialized RX1, Cond.classLink RL 67 RX2, Cond.instantiable RX2 16, Cond.initialized RX2, Cond.arrayClass .long, Cond.methodLink RL 66 yX1_init, Cond.instanceMethod yX1_init, Cond.code yX1_init cX1_init 1 none, Cond.methodLink RX1 1 objectInit, Cond.instanceMethod objectInit, Cond.code objectInit ⟨#[0xb1]⟩ 1 none, Cond.arrayClass .int, Cond.fieldLink RX1 9 "TierHouse" "labelOf" "[I", Cond.fieldLink RX1 13 "TierHouse" "quotaOf" "[I", Cond.fieldLink RX1 16 "TierHouse" "spentBy" "[I", Cond.classLink RX1 19 RJx4a65c, Cond.instantiable RJx4a65c 3, Cond.initialized RJx4a65c, Cond.fieldLink RX1 22 "TierHouse" "files" "Ljava/util/ArrayList;", Cond.fieldLink RX1 26 "TierHouse" "listings" "[I", Cond.fieldLink RX1 29 "TierHouse" "listingCount" "I", Cond.classLink RX1 33 "[[I"]
def wsL_law0_r2 : List Cond := [Cond.fieldLink RX1 35 "TierHouse" "seenBy" "[[I", Cond.fieldLink RX1 38 "TierHouse" "seenCount" "[I", Cond.methodLink RX1 21 yJx4a65c_init_da8c8, Cond.instanceMethod yJx4a65c_init_da8c8, Cond.code yJx4a65c_init_da8c8 cJx4a65c_init_da8c8 1 none, Cond.fieldLink RJx4a65c 39 "java/util/ArrayList" "DEFAULTCAPACITY_EMPTY_ELEMENTDATA" "[Ljava/lang/Object;", Cond.fieldLink RJx4a65c 9 "java/util/ArrayList" "elementData" "[Ljava/lang/Object;", Cond.methodLink RJx4a65c 1 yJxc12de_init_da8c8, Cond.instanceMethod yJxc12de_init_da8c8, Cond.initialized RJxc12de, Cond.code yJxc12de_init_da8c8 cJxc12de_init_da8c8 1 none, Cond.fieldLink RJxc12de 7 "java/util/AbstractList" "modCount" "I", Cond.methodLink RJxc12de 1 yJxa1e45_init_da8c8, Cond.instanceMethod yJxa1e45_init_da8c8, Cond.initialized RJxa1e45, Cond.code yJxa1e45_init_da8c8 cJxa1e45_init_da8c8 1 none, Cond.methodLink RJxa1e45 1 objectInit, Cond.methodLink RX1 41 yJ7_fill_53178, Cond.static yJ7_fill_53178, Cond.initialized RJ7, Cond.code yJ7_fill_53178 cJ7_fill_53178 4 none, Cond.methodLink RL 69 yX2_init, Cond.instanceMethod yX2_init, Cond.code yX2_init cX2_init 2 none]
def wsL_law0_r3 : List Cond := [Cond.methodLink RX2 1 objectInit, Cond.fieldLink RX2 7 "TierHouseModel" "labels" "[I", Cond.arrayClass .boolean, Cond.fieldLink RX2 13 "TierHouseModel" "has" "[Z", Cond.fieldLink RX2 17 "TierHouseModel" "quotas" "[I", Cond.fieldLink RX2 20 "TierHouseModel" "spent" "[I", Cond.fieldLink RX2 23 "TierHouseModel" "names" "[I", Cond.fieldLink RX2 26 "TierHouseModel" "gifts" "[Z", Cond.fieldLink RX2 29 "TierHouseModel" "folders" "[I", Cond.fieldLink RX2 32 "TierHouseModel" "sizes" "[I", Cond.fieldLink RX2 35 "TierHouseModel" "cells" "[I", Cond.fieldLink RX2 38 "TierHouseModel" "given" "[Z", Cond.fieldLink RX2 41 "TierHouseModel" "lists" "[I", Cond.fieldLink RX2 44 "TierHouseModel" "seen" "[I", Cond.fieldLink RX2 47 "TierHouseModel" "seenCount" "[I", Cond.methodLink RL 70 yL_subject, Cond.static yL_subject, Cond.initialized RL, Cond.codeWith yL_subject cL_subject 5 (some .int) [(0, 17, 20, 13)], Cond.classLink RL 13 "java/lang/IllegalArgumentException", Cond.methodLink RL 7 yX1_subject, Cond.instanceMethod yX1_subject, Cond.selects RX1 yX1_subject yX1_subject, Cond.code yX1_subject cX1_subject 3 (some .boolean)]
def wsL_law0_r4 : List Cond := [Cond.methodLink RX1 47 yX1_requireSubject, Cond.static yX1_requireSubject, Cond.code yX1_requireSubject cX1_requireSubject 1 none, Cond.classLink RX1 58 "java/lang/IllegalArgumentException", Cond.initialized "java/lang/IllegalArgumentException", Cond.methodLink RX1 51 yX1_requireLabel, Cond.static yX1_requireLabel, Cond.code yX1_requireLabel cX1_requireLabel 1 none, Cond.methodLink RL 75 yX2_subject, Cond.instanceMethod yX2_subject, Cond.selects RX2 yX2_subject yX2_subject, Cond.code yX2_subject cX2_subject 3 (some .boolean), Cond.methodLink RX2 65 yX2_isSubject, Cond.static yX2_isSubject, Cond.code yX2_isSubject cX2_isSubject 1 (some .boolean), Cond.methodLink RX2 54 yX2_within, Cond.static yX2_within, Cond.code yX2_within cX2_within 2 (some .boolean), Cond.methodLink RX2 69 yX2_isLabel, Cond.static yX2_isLabel, Cond.code yX2_isLabel cX2_isLabel 1 (some .boolean), Cond.methodLink RX2 72 yX2_fails, Cond.instanceMethod yX2_fails, Cond.selects RX2 yX2_fails yX2_fails]
def wsL_law0_r5 : List Cond := [Cond.code yX2_fails cX2_fails 3 (some .boolean), Cond.fieldLink RX2 50 "TierHouseModel" "thrown" "I", Cond.methodLink RL 76 yX2_thrown, Cond.instanceMethod yX2_thrown, Cond.selects RX2 yX2_thrown yX2_thrown, Cond.code yX2_thrown cX2_thrown 1 (some .int), Cond.methodLink RL 80 yL_quota, Cond.static yL_quota, Cond.codeWith yL_quota cL_quota 5 (some .int) [(0, 10, 13, 13)], Cond.methodLink RL 15 yX1_quota, Cond.instanceMethod yX1_quota, Cond.selects RX1 yX1_quota yX1_quota, Cond.code yX1_quota cX1_quota 4 (some .int), Cond.methodLink RX1 54 yX1_requireAtMost, Cond.static yX1_requireAtMost, Cond.code yX1_requireAtMost cX1_requireAtMost 2 none, Cond.methodLink RL 82 yX2_quota, Cond.instanceMethod yX2_quota, Cond.selects RX2 yX2_quota yX2_quota, Cond.code yX2_quota cX2_quota 4 (some .int), Cond.methodLink RL 83 yL_list, Cond.static yL_list, Cond.codeWith yL_list cL_list 7 (some .int) [(0, 21, 24, 13), (0, 21, 28, 23)], Cond.classLink RL 23 "java/lang/UnsupportedOperationException"]
def wsL_law0_r6 : List Cond := [Cond.methodLink RL 19 yX1_list, Cond.instanceMethod yX1_list, Cond.selects RX1 yX1_list yX1_list, Cond.code yX1_list cX1_list 7 (some .boolean), Cond.classLink RX1 73 "java/lang/UnsupportedOperationException", Cond.initialized "java/lang/UnsupportedOperationException", Cond.methodLink RX1 65 yX1_listingOf, Cond.static yX1_listingOf, Cond.code yX1_listingOf cX1_listingOf 3 (some .int), Cond.methodLink RX1 69 yX1_isListed, Cond.instanceMethod yX1_isListed, Cond.selects RX1 yX1_isListed yX1_isListed, Cond.code yX1_isListed cX1_isListed 3 (some .boolean), Cond.methodLink RX1 78 yX1_addListing, Cond.instanceMethod yX1_addListing, Cond.selects RX1 yX1_addListing yX1_addListing, Cond.code yX1_addListing cX1_addListing 2 none, Cond.methodLink RX1 81 yX1_dropListing, Cond.instanceMethod yX1_dropListing, Cond.selects RX1 yX1_dropListing yX1_dropListing, Cond.code yX1_dropListing cX1_dropListing 4 none, Cond.methodLink RL 86 yX2_list, Cond.instanceMethod yX2_list, Cond.selects RX2 yX2_list yX2_list]
def wsL_law0_r7 : List Cond := [Cond.code yX2_list cX2_list 7 (some .boolean), Cond.fieldLink RX2 76 "TierHouseModel" "listCount" "I", Cond.methodLink RX2 79 yX2_listOf, Cond.instanceMethod yX2_listOf, Cond.selects RX2 yX2_listOf yX2_listOf, Cond.code yX2_listOf cX2_listOf 5 (some .int), Cond.methodLink RL 87 yL_flows, Cond.static yL_flows, Cond.codeWith yL_flows cL_flows 5 (some .int) [(0, 17, 20, 13)], Cond.methodLink RL 25 yX1_flows, Cond.instanceMethod yX1_flows, Cond.selects RX1 yX1_flows yX1_flows, Cond.code yX1_flows cX1_flows 3 (some .boolean), Cond.methodLink RX1 84 yX1_mayFlow, Cond.static yX1_mayFlow, Cond.code yX1_mayFlow cX1_mayFlow 2 (some .boolean), Cond.methodLink RX1 175 yX1_secrecyOf, Cond.static yX1_secrecyOf, Cond.code yX1_secrecyOf cX1_secrecyOf 1 (some .int), Cond.methodLink RX1 178 yX1_secretsOf, Cond.static yX1_secretsOf, Cond.code yX1_secretsOf cX1_secretsOf 1 (some .int), Cond.methodLink RX1 181 yX1_isWithin, Cond.static yX1_isWithin]
def wsL_law0_r8 : List Cond := [Cond.code yX1_isWithin cX1_isWithin 2 (some .boolean), Cond.methodLink RX1 184 yX1_trustOf, Cond.static yX1_trustOf, Cond.code yX1_trustOf cX1_trustOf 1 (some .int), Cond.methodLink RX1 187 yX1_warrantsOf, Cond.static yX1_warrantsOf, Cond.code yX1_warrantsOf cX1_warrantsOf 1 (some .int), Cond.methodLink RL 89 yX2_flows, Cond.instanceMethod yX2_flows, Cond.selects RX2 yX2_flows yX2_flows, Cond.code yX2_flows cX2_flows 3 (some .boolean), Cond.methodLink RX2 83 yX2_may, Cond.static yX2_may, Cond.code yX2_may cX2_may 3 (some .boolean), Cond.methodLink RL 90 yL_make, Cond.static yL_make, Cond.codeWith yL_make cL_make 7 (some .int) [(0, 14, 17, 13), (0, 14, 21, 23)], Cond.methodLink RL 28 yX1_make, Cond.instanceMethod yX1_make, Cond.selects RX1 yX1_make yX1_make, Cond.code yX1_make cX1_make 6 (some .int), Cond.methodLink RX1 88 yX1_requireFile, Cond.static yX1_requireFile, Cond.code yX1_requireFile cX1_requireFile 2 none]
def wsL_law0_r9 : List Cond := [Cond.methodLink RX1 103 yX1_requireNumber, Cond.static yX1_requireNumber, Cond.code yX1_requireNumber cX1_requireNumber 1 none, Cond.methodLink RX1 91 yX1_requireFolder, Cond.static yX1_requireFolder, Cond.code yX1_requireFolder cX1_requireFolder 1 none, Cond.methodLink RX1 94 yX1_answerMake, Cond.instanceMethod yX1_answerMake, Cond.selects RX1 yX1_answerMake yX1_answerMake, Cond.code yX1_answerMake cX1_answerMake 8 (some .int), Cond.methodLink RX1 190 yX1_labelOfAddress, Cond.static yX1_labelOfAddress, Cond.code yX1_labelOfAddress cX1_labelOfAddress 1 (some .int), Cond.methodLink RX1 132 yX1_addressOf, Cond.static yX1_addressOf, Cond.code yX1_addressOf cX1_addressOf 2 (some .int), Cond.methodLink RX1 193 yX1_makeOwn, Cond.instanceMethod yX1_makeOwn, Cond.selects RX1 yX1_makeOwn yX1_makeOwn, Cond.code yX1_makeOwn cX1_makeOwn 4 (some .int), Cond.classLink RX1 114 RX0, Cond.instantiable RX0 6, Cond.initialized RX0, Cond.methodLink RX1 136 yX1_placeOf]
def wsL_law0_r10 : List Cond := [Cond.instanceMethod yX1_placeOf, Cond.selects RX1 yX1_placeOf yX1_placeOf, Cond.code yX1_placeOf cX1_placeOf 3 (some .int), Cond.classLink RX1 114 "TierHouse$StoredFile", Cond.fieldLink RX1 223 "TierHouse$StoredFile" "address" "I", Cond.methodLink RX1 217 yJx4a65c_size_8abf5, Cond.instanceMethod yJx4a65c_size_8abf5, Cond.selects RJx4a65c yJx4a65c_size_8abf5 yJx4a65c_size_8abf5, Cond.code yJx4a65c_size_8abf5 cJx4a65c_size_8abf5 1 (some .int), Cond.fieldLink RJx4a65c 48 "java/util/ArrayList" "size" "I", Cond.methodLink RX1 220 yJx4a65c_get_915e3, Cond.instanceMethod yJx4a65c_get_915e3, Cond.selects RJx4a65c yJx4a65c_get_915e3 yJx4a65c_get_915e3, Cond.code yJx4a65c_get_915e3 cJx4a65c_get_915e3 2 (some (.object "java/lang/Object")), Cond.methodLink RJx4a65c 118 yJ15_checkIndex_7cf53, Cond.static yJ15_checkIndex_7cf53, Cond.initialized RJ15, Cond.code yJ15_checkIndex_7cf53 cJ15_checkIndex_7cf53 2 (some .int), Cond.methodLink RJ15 105 yJ3_checkIndex_8e157, Cond.static yJ3_checkIndex_8e157, Cond.initialized RJ3, Cond.code yJ3_checkIndex_8e157 cJ3_checkIndex_8e157 3 (some .int), Cond.methodLink RJx4a65c 123 yJx4a65c_elementData_915e3, Cond.instanceMethod yJx4a65c_elementData_915e3]
def wsL_law0_r11 : List Cond := [Cond.selects RJx4a65c yJx4a65c_elementData_915e3 yJx4a65c_elementData_915e3, Cond.code yJx4a65c_elementData_915e3 cJx4a65c_elementData_915e3 2 (some (.object "java/lang/Object")), Cond.methodLink RX1 121 yX1_hasRoom, Cond.instanceMethod yX1_hasRoom, Cond.selects RX1 yX1_hasRoom yX1_hasRoom, Cond.code yX1_hasRoom cX1_hasRoom 3 (some .boolean), Cond.methodLink RX1 155 yX1_usedBy, Cond.instanceMethod yX1_usedBy, Cond.selects RX1 yX1_usedBy yX1_usedBy, Cond.code yX1_usedBy cX1_usedBy 5 (some .int), Cond.methodLink RX1 210 yX0_use, Cond.instanceMethod yX0_use, Cond.selects RX0 yX0_use yX0_use, Cond.code yX0_use cX0_use 1 (some .int), Cond.fieldLink RX0 28 "TierHouse$StoredFile" "isGift" "Z", Cond.fieldLink RX0 15 "TierHouse$StoredFile" "count" "I", Cond.fieldLink RX0 19 "TierHouse$StoredFile" "giftCells" "I", Cond.methodLink RX0 32 yJ6_bitCount_0f7a4, Cond.static yJ6_bitCount_0f7a4, Cond.initialized RJ6, Cond.code yJ6_bitCount_0f7a4 cJ6_bitCount_0f7a4 1 (some .int), Cond.constant RJ6 265 (1431655765), Cond.constant RJ6 266 (858993459), Cond.constant RJ6 267 (252645135)]
def wsL_law0_r12 : List Cond := [Cond.methodLink RX1 199 yX1_isFull, Cond.instanceMethod yX1_isFull, Cond.selects RX1 yX1_isFull yX1_isFull, Cond.code yX1_isFull cX1_isFull 1 (some .boolean), Cond.methodLink RX1 203 yX0_init, Cond.instanceMethod yX0_init, Cond.code yX0_init cX0_init 4 none, Cond.methodLink RX0 3 objectInit, Cond.fieldLink RX0 9 "TierHouse$StoredFile" "cells" "[I", Cond.fieldLink RX0 22 "TierHouse$StoredFile" "address" "I", Cond.fieldLink RX0 25 "TierHouse$StoredFile" "folder" "I", Cond.methodLink RX1 206 yX1_store, Cond.instanceMethod yX1_store, Cond.selects RX1 yX1_store yX1_store, Cond.code yX1_store cX1_store 3 none, Cond.methodLink RX1 226 yJx4a65c_add_7a177, Cond.instanceMethod yJx4a65c_add_7a177, Cond.selects RJx4a65c yJx4a65c_add_7a177 yJx4a65c_add_7a177, Cond.code yJx4a65c_add_7a177 cJx4a65c_add_7a177 5 none, Cond.fieldLink RJx4a65c 63 "java/util/ArrayList" "modCount" "I", Cond.sameField "java/util/ArrayList" "java/util/AbstractList" "modCount" "I", Cond.methodLink RJx4a65c 112 arraycopyName, Cond.native arraycopyName, Cond.static arraycopyName]
def wsL_law0_r13 : List Cond := [Cond.initialized "java/lang/System", Cond.methodLink RJx4a65c 135 yJx4a65c_rangeCheckForAdd_d00df, Cond.instanceMethod yJx4a65c_rangeCheckForAdd_d00df, Cond.selects RJx4a65c yJx4a65c_rangeCheckForAdd_d00df yJx4a65c_rangeCheckForAdd_d00df, Cond.code yJx4a65c_rangeCheckForAdd_d00df cJx4a65c_rangeCheckForAdd_d00df 2 none, Cond.methodLink RJx4a65c 129 yJx4a65c_grow_d5877, Cond.instanceMethod yJx4a65c_grow_d5877, Cond.selects RJx4a65c yJx4a65c_grow_d5877 yJx4a65c_grow_d5877, Cond.code yJx4a65c_grow_d5877 cJx4a65c_grow_d5877 1 (some (.array (.object "java/lang/Object"))), Cond.methodLink RJx4a65c 69 yJx4a65c_grow_92f84, Cond.instanceMethod yJx4a65c_grow_92f84, Cond.selects RJx4a65c yJx4a65c_grow_92f84 yJx4a65c_grow_92f84, Cond.code yJx4a65c_grow_92f84 cJx4a65c_grow_92f84 4 (some (.array (.object "java/lang/Object"))), Cond.methodLink RJx4a65c 79 Lib.Math.max.name, Cond.static Lib.Math.max.name, Cond.initialized "java/lang/Math", Cond.code Lib.Math.max.name Lib.Math.max.code 2 (some .int), Cond.classLink RJx4a65c 7 "java/lang/Object", Cond.methodLink RJx4a65c 73 yJ8_newLength_cabcc, Cond.static yJ8_newLength_cabcc, Cond.initialized RJ8, Cond.code yJ8_newLength_cabcc cJ8_newLength_cabcc 4 (some .int), Cond.methodLink RJ8 194 Lib.Math.max.name, Cond.constant RJ8 200 (2147483639)]
def wsL_law0_r14 : List Cond := [Cond.methodLink RJ8 201 yJ8_hugeLength_7cf53, Cond.static yJ8_hugeLength_7cf53, Cond.code yJ8_hugeLength_7cf53 cJ8_hugeLength_7cf53 3 (some .int), Cond.methodLink RJx4a65c 66 yJ7_copyOf_1904c, Cond.static yJ7_copyOf_1904c, Cond.code yJ7_copyOf_1904c cJ7_copyOf_1904c 2 (some (.array (.object "java/lang/Object"))), Cond.methodLink RJ7 86 ⟨"java/lang/Object", "getClass", "()Ljava/lang/Class;"⟩, Cond.selects "[Ljava/lang/Object;" ⟨"java/lang/Object", "getClass", "()Ljava/lang/Class;"⟩ ⟨"java/lang/Object", "getClass", "()Ljava/lang/Class;"⟩, Cond.instanceMethod ⟨"java/lang/Object", "getClass", "()Ljava/lang/Class;"⟩, Cond.native ⟨"java/lang/Object", "getClass", "()Ljava/lang/Class;"⟩, Cond.methodLink RJ7 300 yJ7_copyOf_6403c, Cond.static yJ7_copyOf_6403c, Cond.code yJ7_copyOf_6403c cJ7_copyOf_6403c 4 (some (.array (.object "java/lang/Object"))), Cond.classLink RJ7 110 "[Ljava/lang/Object;", Cond.classLink RJ7 2 "java/lang/Object", Cond.methodLink RJ7 304 Lib.Math.min.name, Cond.static Lib.Math.min.name, Cond.code Lib.Math.min.name Lib.Math.min.code 2 (some .int), Cond.methodLink RJ7 150 arraycopyName, Cond.methodLink RX1 196 yX1_makeAbove, Cond.instanceMethod yX1_makeAbove, Cond.selects RX1 yX1_makeAbove yX1_makeAbove, Cond.code yX1_makeAbove cX1_makeAbove 4 (some .int), Cond.methodLink RX1 100 yX1_forgetSeen]
def wsL_law0_r15 : List Cond := [Cond.instanceMethod yX1_forgetSeen, Cond.selects RX1 yX1_forgetSeen yX1_forgetSeen, Cond.code yX1_forgetSeen cX1_forgetSeen 2 none, Cond.methodLink RL 93 yX2_make, Cond.instanceMethod yX2_make, Cond.selects RX2 yX2_make yX2_make, Cond.code yX2_make cX2_make 9 (some .int), Cond.fieldLink RX2 58 "TierHouseModel" "files" "I", Cond.methodLink RX2 89 yX2_isNumber, Cond.static yX2_isNumber, Cond.code yX2_isNumber cX2_isNumber 1 (some .boolean), Cond.methodLink RX2 92 yX2_find, Cond.instanceMethod yX2_find, Cond.selects RX2 yX2_find yX2_find, Cond.code yX2_find cX2_find 4 (some .int), Cond.methodLink RX2 96 yX2_isFull, Cond.instanceMethod yX2_isFull, Cond.selects RX2 yX2_isFull yX2_isFull, Cond.code yX2_isFull cX2_isFull 3 (some .boolean), Cond.methodLink RX2 86 yX2_uses, Cond.instanceMethod yX2_uses, Cond.selects RX2 yX2_uses yX2_uses, Cond.code yX2_uses cX2_uses 4 (some .int), Cond.methodLink RX2 61 yX2_countOf]
def wsL_law0_r16 : List Cond := [Cond.instanceMethod yX2_countOf, Cond.selects RX2 yX2_countOf yX2_countOf, Cond.code yX2_countOf cX2_countOf 4 (some .int), Cond.methodLink RX2 99 yX2_begin, Cond.instanceMethod yX2_begin, Cond.selects RX2 yX2_begin yX2_begin, Cond.code yX2_begin cX2_begin 2 none, Cond.methodLink RX2 103 yX2_add, Cond.instanceMethod yX2_add, Cond.selects RX2 yX2_add yX2_add, Cond.code yX2_add cX2_add 5 (some .int), Cond.methodLink RL 94 yL_set, Cond.static yL_set, Cond.codeWith yL_set cL_set 7 (some .int) [(0, 14, 17, 13)], Cond.methodLink RL 32 yX1_set, Cond.instanceMethod yX1_set, Cond.selects RX1 yX1_set yX1_set, Cond.code yX1_set cX1_set 7 (some .int), Cond.fieldLink RX1 113 "TierHouse$StoredFile" "count" "I", Cond.fieldLink RX1 118 "TierHouse$StoredFile" "cells" "[I", Cond.methodLink RX1 106 yX1_requireCell, Cond.static yX1_requireCell, Cond.code yX1_requireCell cX1_requireCell 1 none, Cond.methodLink RX1 109 yX1_find]
def wsL_law0_r17 : List Cond := [Cond.instanceMethod yX1_find, Cond.selects RX1 yX1_find yX1_find, Cond.code yX1_find cX1_find 4 (some (.object "TierHouse$StoredFile")), Cond.methodLink RX1 124 yX0_append, Cond.instanceMethod yX0_append, Cond.selects RX0 yX0_append yX0_append, Cond.code yX0_append cX0_append 3 none, Cond.methodLink RL 96 yX2_set, Cond.instanceMethod yX2_set, Cond.selects RX2 yX2_set yX2_set, Cond.code yX2_set cX2_set 6 (some .int), Cond.methodLink RX2 107 yX2_append, Cond.instanceMethod yX2_append, Cond.selects RX2 yX2_append yX2_append, Cond.code yX2_append cX2_append 4 none, Cond.methodLink RL 97 yL_give, Cond.static yL_give, Cond.codeWith yL_give cL_give 7 (some .int) [(0, 14, 17, 13)], Cond.methodLink RL 35 yX1_give, Cond.instanceMethod yX1_give, Cond.selects RX1 yX1_give yX1_give, Cond.code yX1_give cX1_give 7 (some .int), Cond.methodLink RL 99 yX2_give, Cond.instanceMethod yX2_give]
def wsL_law0_r18 : List Cond := [Cond.selects RX2 yX2_give yX2_give, Cond.code yX2_give cX2_give 6 (some .int), Cond.methodLink RL 100 yL_trim, Cond.static yL_trim, Cond.codeWith yL_trim cL_trim 6 (some .int) [(0, 12, 15, 13)], Cond.methodLink RL 38 yX1_trim, Cond.instanceMethod yX1_trim, Cond.selects RX1 yX1_trim yX1_trim, Cond.code yX1_trim cX1_trim 6 (some .int), Cond.methodLink RX1 128 yX0_cutTo, Cond.instanceMethod yX0_cutTo, Cond.selects RX0 yX0_cutTo yX0_cutTo, Cond.code yX0_cutTo cX0_cutTo 3 (some .int), Cond.methodLink RL 103 yX2_trim, Cond.instanceMethod yX2_trim, Cond.selects RX2 yX2_trim yX2_trim, Cond.code yX2_trim cX2_trim 6 (some .int), Cond.methodLink RL 104 yL_remove, Cond.static yL_remove, Cond.codeWith yL_remove cL_remove 5 (some .int) [(0, 10, 13, 13)], Cond.methodLink RL 42 yX1_remove, Cond.instanceMethod yX1_remove, Cond.selects RX1 yX1_remove yX1_remove, Cond.code yX1_remove cX1_remove 5 (some .int)]
def wsL_law0_r19 : List Cond := [Cond.methodLink RX1 139 yJx4a65c_remove_915e3, Cond.instanceMethod yJx4a65c_remove_915e3, Cond.selects RJx4a65c yJx4a65c_remove_915e3 yJx4a65c_remove_915e3, Cond.code yJx4a65c_remove_915e3 cJx4a65c_remove_915e3 4 (some (.object "java/lang/Object")), Cond.methodLink RJx4a65c 144 yJx4a65c_fastRemove_b59b0, Cond.instanceMethod yJx4a65c_fastRemove_b59b0, Cond.selects RJx4a65c yJx4a65c_fastRemove_b59b0 yJx4a65c_fastRemove_b59b0, Cond.code yJx4a65c_fastRemove_b59b0 cJx4a65c_fastRemove_b59b0 4 none, Cond.methodLink RL 106 yX2_remove, Cond.instanceMethod yX2_remove, Cond.selects RX2 yX2_remove yX2_remove, Cond.code yX2_remove cX2_remove 4 (some .int), Cond.methodLink RX2 111 yX2_move, Cond.instanceMethod yX2_move, Cond.selects RX2 yX2_move yX2_move, Cond.code yX2_move cX2_move 4 none, Cond.methodLink RL 107 yL_read, Cond.static yL_read, Cond.codeWith yL_read cL_read 7 (some .int) [(0, 14, 17, 13)], Cond.methodLink RL 45 yX1_read, Cond.instanceMethod yX1_read, Cond.selects RX1 yX1_read yX1_read, Cond.code yX1_read cX1_read 7 (some .int), Cond.methodLink RX1 143 yX1_verdictOnReading]
def wsL_law0_r20 : List Cond := [Cond.instanceMethod yX1_verdictOnReading, Cond.selects RX1 yX1_verdictOnReading yX1_verdictOnReading, Cond.code yX1_verdictOnReading cX1_verdictOnReading 4 (some .int), Cond.methodLink RX1 146 yX1_show, Cond.instanceMethod yX1_show, Cond.selects RX1 yX1_show yX1_show, Cond.code yX1_show cX1_show 3 none, Cond.methodLink RL 109 yX2_read, Cond.instanceMethod yX2_read, Cond.selects RX2 yX2_read yX2_read, Cond.code yX2_read cX2_read 7 (some .int), Cond.methodLink RX2 115 yX2_look, Cond.instanceMethod yX2_look, Cond.selects RX2 yX2_look yX2_look, Cond.code yX2_look cX2_look 3 (some .int), Cond.methodLink RL 110 yL_size, Cond.static yL_size, Cond.codeWith yL_size cL_size 6 (some .int) [(0, 12, 15, 13)], Cond.methodLink RL 48 yX1_size, Cond.instanceMethod yX1_size, Cond.selects RX1 yX1_size yX1_size, Cond.code yX1_size cX1_size 6 (some .int), Cond.methodLink RL 112 yX2_size, Cond.instanceMethod yX2_size]
def wsL_law0_r21 : List Cond := [Cond.selects RX2 yX2_size yX2_size, Cond.code yX2_size cX2_size 6 (some .int), Cond.methodLink RL 113 yL_there, Cond.static yL_there, Cond.codeWith yL_there cL_there 6 (some .int) [(0, 12, 15, 13)], Cond.methodLink RL 51 yX1_there, Cond.instanceMethod yX1_there, Cond.selects RX1 yX1_there yX1_there, Cond.code yX1_there cX1_there 5 (some .int), Cond.methodLink RL 115 yX2_there, Cond.instanceMethod yX2_there, Cond.selects RX2 yX2_there yX2_there, Cond.code yX2_there cX2_there 5 (some .int), Cond.methodLink RL 116 yL_listed, Cond.static yL_listed, Cond.codeWith yL_listed cL_listed 6 (some .int) [(0, 12, 15, 13)], Cond.methodLink RL 54 yX1_listed, Cond.instanceMethod yX1_listed, Cond.selects RX1 yX1_listed yX1_listed, Cond.code yX1_listed cX1_listed 5 (some .int), Cond.methodLink RX1 149 yX1_showFilesIn, Cond.instanceMethod yX1_showFilesIn, Cond.selects RX1 yX1_showFilesIn yX1_showFilesIn, Cond.code yX1_showFilesIn cX1_showFilesIn 6 none]
def wsL_law0_r22 : List Cond := [Cond.fieldLink RX1 230 "TierHouse$StoredFile" "folder" "I", Cond.methodLink RL 118 yX2_listed, Cond.instanceMethod yX2_listed, Cond.selects RX2 yX2_listed yX2_listed, Cond.code yX2_listed cX2_listed 8 (some .int), Cond.methodLink RL 119 yL_release, Cond.static yL_release, Cond.codeWith yL_release cL_release 7 (some .int) [(0, 14, 17, 13), (0, 14, 21, 23)], Cond.methodLink RL 57 yX1_release, Cond.instanceMethod yX1_release, Cond.selects RX1 yX1_release yX1_release, Cond.code yX1_release cX1_release 6 (some .int), Cond.methodLink RX1 152 yX1_answerRelease, Cond.instanceMethod yX1_answerRelease, Cond.selects RX1 yX1_answerRelease yX1_answerRelease, Cond.code yX1_answerRelease cX1_answerRelease 8 (some .int), Cond.methodLink RX1 214 yX0_becomeCopyOf, Cond.instanceMethod yX0_becomeCopyOf, Cond.selects RX0 yX0_becomeCopyOf yX0_becomeCopyOf, Cond.code yX0_becomeCopyOf cX0_becomeCopyOf 2 none, Cond.methodLink RX0 38 arraycopyName, Cond.methodLink RL 121 yX2_release, Cond.instanceMethod yX2_release, Cond.selects RX2 yX2_release yX2_release]
def wsL_law0_r23 : List Cond := [Cond.code yX2_release cX2_release 11 (some .int), Cond.methodLink RL 122 yL_seen, Cond.static yL_seen, Cond.codeWith yL_seen cL_seen 5 (some .int) [(0, 10, 13, 13)], Cond.methodLink RL 60 yX1_seen, Cond.instanceMethod yX1_seen, Cond.selects RX1 yX1_seen yX1_seen, Cond.code yX1_seen cX1_seen 3 (some .int), Cond.methodLink RL 124 yX2_seen, Cond.instanceMethod yX2_seen, Cond.selects RX2 yX2_seen yX2_seen, Cond.code yX2_seen cX2_seen 3 (some .int), Cond.methodLink RL 125 yL_told, Cond.static yL_told, Cond.codeWith yL_told cL_told 5 (some .int) [(0, 10, 13, 13)], Cond.methodLink RL 63 yX1_told, Cond.instanceMethod yX1_told, Cond.selects RX1 yX1_told yX1_told, Cond.code yX1_told cX1_told 3 (some .int), Cond.methodLink RX1 158 yX1_countFilesAt, Cond.instanceMethod yX1_countFilesAt, Cond.selects RX1 yX1_countFilesAt yX1_countFilesAt, Cond.code yX1_countFilesAt cX1_countFilesAt 4 (some .int), Cond.methodLink RL 127 yX2_told]
def wsL_law0_r24 : List Cond := [Cond.instanceMethod yX2_told, Cond.selects RX2 yX2_told yX2_told, Cond.code yX2_told cX2_told 5 (some .int)]
def wsL_law0 : List Cond := (wsL_law0_r1 ++ (wsL_law0_r2 ++ (wsL_law0_r3 ++ (wsL_law0_r4 ++ (wsL_law0_r5 ++ (wsL_law0_r6 ++ (wsL_law0_r7 ++ (wsL_law0_r8 ++ (wsL_law0_r9 ++ (wsL_law0_r10 ++ (wsL_law0_r11 ++ (wsL_law0_r12 ++ (wsL_law0_r13 ++ (wsL_law0_r14 ++ (wsL_law0_r15 ++ (wsL_law0_r16 ++ (wsL_law0_r17 ++ (wsL_law0_r18 ++ (wsL_law0_r19 ++ (wsL_law0_r20 ++ (wsL_law0_r21 ++ (wsL_law0_r22 ++ (wsL_law0_r23 ++ wsL_law0_r24))))))))))))))))))))))) ++ wsX10 ++ wsX20 ++ wsJx4a65c0 ++ wsX00 ++ ([] : List Cond)
def wsL_law : List Cond := wsL_law0 ++ (vx_atS RX1 62 "java/lang/IllegalArgumentException" ["java/lang/RuntimeException", "java/lang/Exception"]).filter goodWord ++ (vx_atS RX1 77 "java/lang/UnsupportedOperationException" ["java/lang/RuntimeException", "java/lang/Exception"]).filter goodWord
end
section
set_option maxRecDepth 20000 in
theorem wsL_in_r1 : ∀ w ∈ wsL_law0_r1, w ∈ lw_tbl := fun w h => (goodIn_p wsL_law0_r1 [57, 60] (by decide +kernel) (by decide +kernel) w h).1
set_option maxRecDepth 20000 in
theorem wsL_in_r2 : ∀ w ∈ wsL_law0_r2, w ∈ lw_tbl := fun w h => (goodIn_p wsL_law0_r2 [65, 68, 71, 92, 579] (by decide +kernel) (by decide +kernel) w h).1
set_option maxRecDepth 20000 in
theorem wsL_in_r3 : ∀ w ∈ wsL_law0_r3, w ∈ lw_tbl := fun w h => (goodIn_p wsL_law0_r3 [125] (by decide +kernel) (by decide +kernel) w h).1
set_option maxRecDepth 20000 in
theorem wsL_in_r4 : ∀ w ∈ wsL_law0_r4, w ∈ lw_tbl := fun w h => (goodIn_p wsL_law0_r4 [128, 198, 638, 641, 644, 647] (by decide +kernel) (by decide +kernel) w h).1
set_option maxRecDepth 20000 in
theorem wsL_in_r5 : ∀ w ∈ wsL_law0_r5, w ∈ lw_tbl := fun w h => (goodIn_p wsL_law0_r5 [651, 634, 206, 209, 655] (by decide +kernel) (by decide +kernel) w h).1
set_option maxRecDepth 20000 in
theorem wsL_in_r6 : ∀ w ∈ wsL_law0_r6, w ∈ lw_tbl := fun w h => (goodIn_p wsL_law0_r6 [218, 222, 226, 246, 250] (by decide +kernel) (by decide +kernel) w h).1
set_option maxRecDepth 20000 in
theorem wsL_in_r7 : ∀ w ∈ wsL_law0_r7, w ∈ lw_tbl := fun w h => (goodIn_p wsL_law0_r7 [659, 663, 257, 260, 263, 266] (by decide +kernel) (by decide +kernel) w h).1
set_option maxRecDepth 20000 in
theorem wsL_in_r8 : ∀ w ∈ wsL_law0_r8, w ∈ lw_tbl := fun w h => (goodIn_p wsL_law0_r8 [269, 272, 275, 667, 670, 282, 285] (by decide +kernel) (by decide +kernel) w h).1
set_option maxRecDepth 20000 in
theorem wsL_in_r9 : ∀ w ∈ wsL_law0_r9, w ∈ lw_tbl := fun w h => (goodIn_p wsL_law0_r9 [288, 292, 297, 300, 303, 307] (by decide +kernel) (by decide +kernel) w h).1
set_option maxRecDepth 20000 in
theorem wsL_in_r10 : ∀ w ∈ wsL_law0_r10, w ∈ lw_tbl := fun w h => (goodIn_p wsL_law0_r10 [311, 315, 319, 322, 325] (by decide +kernel) (by decide +kernel) w h).1
set_option maxRecDepth 20000 in
theorem wsL_in_r11 : ∀ w ∈ wsL_law0_r11, w ∈ lw_tbl := fun w h => (goodIn_p wsL_law0_r11 [329, 334, 338, 342, 345] (by decide +kernel) (by decide +kernel) w h).1
set_option maxRecDepth 20000 in
theorem wsL_in_r12 : ∀ w ∈ wsL_law0_r12, w ∈ lw_tbl := fun w h => (goodIn_p wsL_law0_r12 [352, 356, 384, 388] (by decide +kernel) (by decide +kernel) w h).1
set_option maxRecDepth 20000 in
theorem wsL_in_r13 : ∀ w ∈ wsL_law0_r13, w ∈ lw_tbl := fun w h => (goodIn_p wsL_law0_r13 [392, 396, 400, 406, 403] (by decide +kernel) (by decide +kernel) w h).1
set_option maxRecDepth 20000 in
theorem wsL_in_r14 : ∀ w ∈ wsL_law0_r14, w ∈ lw_tbl := fun w h => (goodIn_p wsL_law0_r14 [410, 413, 426, 432, 442] (by decide +kernel) (by decide +kernel) w h).1
set_option maxRecDepth 20000 in
theorem wsL_in_r15 : ∀ w ∈ wsL_law0_r15, w ∈ lw_tbl := fun w h => (goodIn_p wsL_law0_r15 [447, 674, 677, 681, 685, 689] (by decide +kernel) (by decide +kernel) w h).1
set_option maxRecDepth 20000 in
theorem wsL_in_r16 : ∀ w ∈ wsL_law0_r16, w ∈ lw_tbl := fun w h => (goodIn_p wsL_law0_r16 [693, 697, 701, 454, 457] (by decide +kernel) (by decide +kernel) w h).1
set_option maxRecDepth 20000 in
theorem wsL_in_r17 : ∀ w ∈ wsL_law0_r17, w ∈ lw_tbl := fun w h => (goodIn_p wsL_law0_r17 [462, 466, 705, 709, 473] (by decide +kernel) (by decide +kernel) w h).1
set_option maxRecDepth 20000 in
theorem wsL_in_r18 : ∀ w ∈ wsL_law0_r18, w ∈ lw_tbl := fun w h => (goodIn_p wsL_law0_r18 [713, 480, 484, 717, 491] (by decide +kernel) (by decide +kernel) w h).1
set_option maxRecDepth 20000 in
theorem wsL_in_r19 : ∀ w ∈ wsL_law0_r19, w ∈ lw_tbl := fun w h => (goodIn_p wsL_law0_r19 [495, 499, 721, 725, 506] (by decide +kernel) (by decide +kernel) w h).1
set_option maxRecDepth 20000 in
theorem wsL_in_r20 : ∀ w ∈ wsL_law0_r20, w ∈ lw_tbl := fun w h => (goodIn_p wsL_law0_r20 [510, 514, 729, 733, 521] (by decide +kernel) (by decide +kernel) w h).1
set_option maxRecDepth 20000 in
theorem wsL_in_r21 : ∀ w ∈ wsL_law0_r21, w ∈ lw_tbl := fun w h => (goodIn_p wsL_law0_r21 [737, 528, 741, 535, 539] (by decide +kernel) (by decide +kernel) w h).1
set_option maxRecDepth 20000 in
theorem wsL_in_r22 : ∀ w ∈ wsL_law0_r22, w ∈ lw_tbl := fun w h => (goodIn_p wsL_law0_r22 [745, 546, 550, 554] (by decide +kernel) (by decide +kernel) w h).1
set_option maxRecDepth 20000 in
theorem wsL_in_r23 : ∀ w ∈ wsL_law0_r23, w ∈ lw_tbl := fun w h => (goodIn_p wsL_law0_r23 [749, 562, 753, 569, 573] (by decide +kernel) (by decide +kernel) w h).1
set_option maxRecDepth 20000 in
theorem wsL_in_r24 : ∀ w ∈ wsL_law0_r24, w ∈ lw_tbl := fun w h => (goodIn_p wsL_law0_r24 [757] (by decide +kernel) (by decide +kernel) w h).1
set_option maxRecDepth 20000 in
theorem wsL_in_wsX10 : ∀ w ∈ wsX10, w ∈ lw_tbl := by decide +kernel
set_option maxRecDepth 20000 in
theorem wsL_in_wsX20 : ∀ w ∈ wsX20, w ∈ lw_tbl := by decide +kernel
set_option maxRecDepth 20000 in
theorem wsL_in_wsJx4a65c0 : ∀ w ∈ wsJx4a65c0, w ∈ lw_tbl := by decide +kernel
set_option maxRecDepth 20000 in
theorem wsL_in_wsX00 : ∀ w ∈ wsX00, w ∈ lw_tbl := by decide +kernel
theorem wsL_ap {a b : List Cond} (ha : ∀ w ∈ a, w ∈ lw_tbl) (hb : ∀ w ∈ b, w ∈ lw_tbl) : ∀ w ∈ a ++ b, w ∈ lw_tbl := fun w h => (List.mem_append.mp h).elim (ha w) (hb w)
theorem wsL_law_in0 : ∀ w ∈ wsL_law0, w ∈ lw_tbl := wsL_ap (wsL_ap (wsL_ap (wsL_ap (wsL_ap (wsL_ap wsL_in_r1 (wsL_ap wsL_in_r2 (wsL_ap wsL_in_r3 (wsL_ap wsL_in_r4 (wsL_ap wsL_in_r5 (wsL_ap wsL_in_r6 (wsL_ap wsL_in_r7 (wsL_ap wsL_in_r8 (wsL_ap wsL_in_r9 (wsL_ap wsL_in_r10 (wsL_ap wsL_in_r11 (wsL_ap wsL_in_r12 (wsL_ap wsL_in_r13 (wsL_ap wsL_in_r14 (wsL_ap wsL_in_r15 (wsL_ap wsL_in_r16 (wsL_ap wsL_in_r17 (wsL_ap wsL_in_r18 (wsL_ap wsL_in_r19 (wsL_ap wsL_in_r20 (wsL_ap wsL_in_r21 (wsL_ap wsL_in_r22 (wsL_ap wsL_in_r23 (wsL_in_r24)))))))))))))))))))))))) wsL_in_wsX10) wsL_in_wsX20) wsL_in_wsJx4a65c0) wsL_in_wsX00) (fun w h => absurd h List.not_mem_nil)
theorem wsL_law_x0 : ∀ w ∈ (vx_atS RX1 62 "java/lang/IllegalArgumentException" ["java/lang/RuntimeException", "java/lang/Exception"]).filter goodWord, w ∈ lw_tbl := by decide +kernel
theorem wsL_law_x1 : ∀ w ∈ (vx_atS RX1 77 "java/lang/UnsupportedOperationException" ["java/lang/RuntimeException", "java/lang/Exception"]).filter goodWord, w ∈ lw_tbl := by decide +kernel
theorem wsL_law_in : ∀ w ∈ wsL_law, w ∈ lw_tbl := fun w h => (List.mem_append.mp h).elim (fun h => (List.mem_append.mp h).elim (fun h => wsL_law_in0 w h) (fun h => wsL_law_x0 w h)) (fun h => wsL_law_x1 w h)
theorem inlX0 : ∀ w ∈ wsX00, w ∈ wsL_law := fun _ h => List.mem_append_left _ (List.mem_append_left _ (List.mem_append_left _ (List.mem_append_right _ h)))
theorem inX0 : ∀ w ∈ wsX00, w ∈ lw_tbl := fun w h => wsL_law_in w (inlX0 w h)
theorem inlX1 : ∀ w ∈ wsX10, w ∈ wsL_law := fun _ h => List.mem_append_left _ (List.mem_append_left _ (List.mem_append_left _ (List.mem_append_left _ (List.mem_append_left _ (List.mem_append_left _ (List.mem_append_right _ h))))))
theorem inX1 : ∀ w ∈ wsX10, w ∈ lw_tbl := fun w h => wsL_law_in w (inlX1 w h)
theorem inlX2 : ∀ w ∈ wsX20, w ∈ wsL_law := fun _ h => List.mem_append_left _ (List.mem_append_left _ (List.mem_append_left _ (List.mem_append_left _ (List.mem_append_left _ (List.mem_append_right _ h)))))
theorem inX2 : ∀ w ∈ wsX20, w ∈ lw_tbl := fun w h => wsL_law_in w (inlX2 w h)
theorem inJx145de : ∀ w ∈ wsJx145de0, w ∈ lw_tbl := by decide +kernel
theorem inJx8e188 : ∀ w ∈ wsJx8e1880, w ∈ lw_tbl := by decide +kernel
theorem inJ6 : ∀ w ∈ wsJ60, w ∈ lw_tbl := by decide +kernel
theorem inJxab1ab : ∀ w ∈ wsJxab1ab0, w ∈ lw_tbl := by decide +kernel
theorem inJ9 : ∀ w ∈ wsJ90, w ∈ lw_tbl := by decide +kernel
theorem inJ0 : ∀ w ∈ wsJ00, w ∈ lw_tbl := by decide +kernel
theorem inJ10 : ∀ w ∈ wsJ100, w ∈ lw_tbl := by decide +kernel
theorem inJxa1e45 : ∀ w ∈ wsJxa1e450, w ∈ lw_tbl := by decide +kernel
theorem inJxc12de : ∀ w ∈ wsJxc12de0, w ∈ lw_tbl := by decide +kernel
theorem inlJx4a65c : ∀ w ∈ wsJx4a65c0, w ∈ wsL_law := fun _ h => List.mem_append_left _ (List.mem_append_left _ (List.mem_append_left _ (List.mem_append_left _ (List.mem_append_right _ h))))
theorem inJx4a65c : ∀ w ∈ wsJx4a65c0, w ∈ lw_tbl := fun w h => wsL_law_in w (inlJx4a65c w h)
theorem inJ7 : ∀ w ∈ wsJ70, w ∈ lw_tbl := by decide +kernel
theorem inJx5ef63 : ∀ w ∈ wsJx5ef630, w ∈ lw_tbl := by decide +kernel
theorem inJxbd725 : ∀ w ∈ wsJxbd7250, w ∈ lw_tbl := by decide +kernel
theorem inJ15 : ∀ w ∈ wsJ150, w ∈ lw_tbl := by decide +kernel
theorem inJxf0a74 : ∀ w ∈ wsJxf0a740, w ∈ lw_tbl := by decide +kernel
theorem inJxa66e6 : ∀ w ∈ wsJxa66e60, w ∈ lw_tbl := by decide +kernel
theorem inJ8 : ∀ w ∈ wsJ80, w ∈ lw_tbl := by decide +kernel
theorem inJ3 : ∀ w ∈ wsJ30, w ∈ lw_tbl := by decide +kernel
end
section
theorem dX0_init_0 : decode cX0_init 0 = .ok (.aload_n 0, 1) := by decide +kernel
theorem dX0_init_1 : decode cX0_init 1 = .ok (.invokespecial 3, 3) := by decide +kernel
theorem dX0_init_4 : decode cX0_init 4 = .ok (.aload_n 0, 1) := by decide +kernel
theorem dX0_init_5 : decode cX0_init 5 = .ok (.bipush 24, 2) := by decide +kernel
theorem dX0_init_7 : decode cX0_init 7 = .ok (.newarray .int, 2) := by decide +kernel
theorem dX0_init_9 : decode cX0_init 9 = .ok (.putfield 9, 3) := by decide +kernel
theorem dX0_init_12 : decode cX0_init 12 = .ok (.aload_n 0, 1) := by decide +kernel
theorem dX0_init_13 : decode cX0_init 13 = .ok (.iconst 0, 1) := by decide +kernel
theorem dX0_init_14 : decode cX0_init 14 = .ok (.putfield 15, 3) := by decide +kernel
theorem dX0_init_17 : decode cX0_init 17 = .ok (.aload_n 0, 1) := by decide +kernel
theorem dX0_init_18 : decode cX0_init 18 = .ok (.iconst 0, 1) := by decide +kernel
theorem dX0_init_19 : decode cX0_init 19 = .ok (.putfield 19, 3) := by decide +kernel
theorem dX0_init_22 : decode cX0_init 22 = .ok (.aload_n 0, 1) := by decide +kernel
theorem dX0_init_23 : decode cX0_init 23 = .ok (.iload_n 1, 1) := by decide +kernel
theorem dX0_init_24 : decode cX0_init 24 = .ok (.putfield 22, 3) := by decide +kernel
theorem dX0_init_27 : decode cX0_init 27 = .ok (.aload_n 0, 1) := by decide +kernel
theorem dX0_init_28 : decode cX0_init 28 = .ok (.iload_n 2, 1) := by decide +kernel
theorem dX0_init_29 : decode cX0_init 29 = .ok (.putfield 25, 3) := by decide +kernel
theorem dX0_init_32 : decode cX0_init 32 = .ok (.aload_n 0, 1) := by decide +kernel
theorem dX0_init_33 : decode cX0_init 33 = .ok (.iload_n 3, 1) := by decide +kernel
theorem dX0_init_34 : decode cX0_init 34 = .ok (.putfield 28, 3) := by decide +kernel
theorem dX0_init_37 : decode cX0_init 37 = .ok (.return_, 1) := by decide +kernel
set_option maxRecDepth 20000 in
theorem ggX0_use_J6_bitCount_0f7a4 : GoodIn wsX0_use wsJ6_bitCount_0f7a4 := goodIn_r _ [7, 8, 9, 10] (by decide +kernel) (by decide +kernel)
set_option maxRecDepth 20000 in
theorem gX0_use_J6_bitCount_0f7a4 : GoodIn wsX0_use (va_wsS RX0 32 yJ6_bitCount_0f7a4 wsJ6_bitCount_0f7a4) := goodIn_app (goodIn_of _ (by decide +kernel)) ggX0_use_J6_bitCount_0f7a4
theorem dX0_use_0 : decode cX0_use 0 = .ok (.aload_n 0, 1) := by decide +kernel
theorem dX0_use_1 : decode cX0_use 1 = .ok (.getfield 28, 3) := by decide +kernel
theorem dX0_use_4 : decode cX0_use 4 = .ok (.ifCond .eq 7, 3) := by decide +kernel
theorem dX0_use_7 : decode cX0_use 7 = .ok (.iconst 0, 1) := by decide +kernel
theorem dX0_use_8 : decode cX0_use 8 = .ok (.goto 4, 3) := by decide +kernel
theorem dX0_use_11 : decode cX0_use 11 = .ok (.iconst 1, 1) := by decide +kernel
theorem dX0_use_12 : decode cX0_use 12 = .ok (.aload_n 0, 1) := by decide +kernel
theorem dX0_use_13 : decode cX0_use 13 = .ok (.getfield 15, 3) := by decide +kernel
theorem dX0_use_16 : decode cX0_use 16 = .ok (.iadd, 1) := by decide +kernel
theorem dX0_use_17 : decode cX0_use 17 = .ok (.aload_n 0, 1) := by decide +kernel
theorem dX0_use_18 : decode cX0_use 18 = .ok (.getfield 19, 3) := by decide +kernel
theorem dX0_use_21 : decode cX0_use 21 = .ok (.invokestatic 32, 3) := by decide +kernel
theorem dX0_use_24 : decode cX0_use 24 = .ok (.isub, 1) := by decide +kernel
theorem dX0_use_25 : decode cX0_use 25 = .ok (.ireturn, 1) := by decide +kernel
theorem dX0_append_0 : decode cX0_append 0 = .ok (.aload_n 0, 1) := by decide +kernel
theorem dX0_append_1 : decode cX0_append 1 = .ok (.getfield 15, 3) := by decide +kernel
theorem dX0_append_4 : decode cX0_append 4 = .ok (.bipush 24, 2) := by decide +kernel
theorem dX0_append_6 : decode cX0_append 6 = .ok (.if_icmp .lt 4, 3) := by decide +kernel
theorem dX0_append_9 : decode cX0_append 9 = .ok (.return_, 1) := by decide +kernel
theorem dX0_append_10 : decode cX0_append 10 = .ok (.aload_n 0, 1) := by decide +kernel
theorem dX0_append_11 : decode cX0_append 11 = .ok (.getfield 9, 3) := by decide +kernel
theorem dX0_append_14 : decode cX0_append 14 = .ok (.aload_n 0, 1) := by decide +kernel
theorem dX0_append_15 : decode cX0_append 15 = .ok (.getfield 15, 3) := by decide +kernel
theorem dX0_append_18 : decode cX0_append 18 = .ok (.iload_n 1, 1) := by decide +kernel
theorem dX0_append_19 : decode cX0_append 19 = .ok (.iastore, 1) := by decide +kernel
theorem dX0_append_20 : decode cX0_append 20 = .ok (.iload_n 2, 1) := by decide +kernel
theorem dX0_append_21 : decode cX0_append 21 = .ok (.ifCond .eq 18, 3) := by decide +kernel
theorem dX0_append_24 : decode cX0_append 24 = .ok (.aload_n 0, 1) := by decide +kernel
theorem dX0_append_25 : decode cX0_append 25 = .ok (.dup, 1) := by decide +kernel
theorem dX0_append_26 : decode cX0_append 26 = .ok (.getfield 19, 3) := by decide +kernel
theorem dX0_append_29 : decode cX0_append 29 = .ok (.iconst 1, 1) := by decide +kernel
theorem dX0_append_30 : decode cX0_append 30 = .ok (.aload_n 0, 1) := by decide +kernel
theorem dX0_append_31 : decode cX0_append 31 = .ok (.getfield 15, 3) := by decide +kernel
theorem dX0_append_34 : decode cX0_append 34 = .ok (.ishl, 1) := by decide +kernel
theorem dX0_append_35 : decode cX0_append 35 = .ok (.ior, 1) := by decide +kernel
theorem dX0_append_36 : decode cX0_append 36 = .ok (.putfield 19, 3) := by decide +kernel
theorem dX0_append_39 : decode cX0_append 39 = .ok (.aload_n 0, 1) := by decide +kernel
theorem dX0_append_40 : decode cX0_append 40 = .ok (.dup, 1) := by decide +kernel
theorem dX0_append_41 : decode cX0_append 41 = .ok (.getfield 15, 3) := by decide +kernel
theorem dX0_append_44 : decode cX0_append 44 = .ok (.iconst 1, 1) := by decide +kernel
theorem dX0_append_45 : decode cX0_append 45 = .ok (.iadd, 1) := by decide +kernel
theorem dX0_append_46 : decode cX0_append 46 = .ok (.putfield 15, 3) := by decide +kernel
theorem dX0_append_49 : decode cX0_append 49 = .ok (.return_, 1) := by decide +kernel
theorem dX0_cutTo_0 : decode cX0_cutTo 0 = .ok (.iload_n 1, 1) := by decide +kernel
theorem dX0_cutTo_1 : decode cX0_cutTo 1 = .ok (.aload_n 0, 1) := by decide +kernel
theorem dX0_cutTo_2 : decode cX0_cutTo 2 = .ok (.getfield 15, 3) := by decide +kernel
theorem dX0_cutTo_5 : decode cX0_cutTo 5 = .ok (.if_icmp .lt 5, 3) := by decide +kernel
theorem dX0_cutTo_8 : decode cX0_cutTo 8 = .ok (.iconst 0, 1) := by decide +kernel
theorem dX0_cutTo_9 : decode cX0_cutTo 9 = .ok (.ireturn, 1) := by decide +kernel
theorem dX0_cutTo_10 : decode cX0_cutTo 10 = .ok (.aload_n 0, 1) := by decide +kernel
theorem dX0_cutTo_11 : decode cX0_cutTo 11 = .ok (.getfield 15, 3) := by decide +kernel
theorem dX0_cutTo_14 : decode cX0_cutTo 14 = .ok (.iload_n 1, 1) := by decide +kernel
theorem dX0_cutTo_15 : decode cX0_cutTo 15 = .ok (.isub, 1) := by decide +kernel
theorem dX0_cutTo_16 : decode cX0_cutTo 16 = .ok (.istore_n 2, 1) := by decide +kernel
theorem dX0_cutTo_17 : decode cX0_cutTo 17 = .ok (.aload_n 0, 1) := by decide +kernel
theorem dX0_cutTo_18 : decode cX0_cutTo 18 = .ok (.iload_n 1, 1) := by decide +kernel
theorem dX0_cutTo_19 : decode cX0_cutTo 19 = .ok (.putfield 15, 3) := by decide +kernel
theorem dX0_cutTo_22 : decode cX0_cutTo 22 = .ok (.aload_n 0, 1) := by decide +kernel
theorem dX0_cutTo_23 : decode cX0_cutTo 23 = .ok (.dup, 1) := by decide +kernel
theorem dX0_cutTo_24 : decode cX0_cutTo 24 = .ok (.getfield 19, 3) := by decide +kernel
theorem dX0_cutTo_27 : decode cX0_cutTo 27 = .ok (.iconst 1, 1) := by decide +kernel
theorem dX0_cutTo_28 : decode cX0_cutTo 28 = .ok (.iload_n 1, 1) := by decide +kernel
theorem dX0_cutTo_29 : decode cX0_cutTo 29 = .ok (.ishl, 1) := by decide +kernel
theorem dX0_cutTo_30 : decode cX0_cutTo 30 = .ok (.iconst 1, 1) := by decide +kernel
theorem dX0_cutTo_31 : decode cX0_cutTo 31 = .ok (.isub, 1) := by decide +kernel
theorem dX0_cutTo_32 : decode cX0_cutTo 32 = .ok (.iand, 1) := by decide +kernel
theorem dX0_cutTo_33 : decode cX0_cutTo 33 = .ok (.putfield 19, 3) := by decide +kernel
theorem dX0_cutTo_36 : decode cX0_cutTo 36 = .ok (.iload_n 2, 1) := by decide +kernel
theorem dX0_cutTo_37 : decode cX0_cutTo 37 = .ok (.ireturn, 1) := by decide +kernel
theorem dX0_becomeCopyOf_0 : decode cX0_becomeCopyOf 0 = .ok (.aload_n 1, 1) := by decide +kernel
theorem dX0_becomeCopyOf_1 : decode cX0_becomeCopyOf 1 = .ok (.getfield 9, 3) := by decide +kernel
theorem dX0_becomeCopyOf_4 : decode cX0_becomeCopyOf 4 = .ok (.iconst 0, 1) := by decide +kernel
theorem dX0_becomeCopyOf_5 : decode cX0_becomeCopyOf 5 = .ok (.aload_n 0, 1) := by decide +kernel
theorem dX0_becomeCopyOf_6 : decode cX0_becomeCopyOf 6 = .ok (.getfield 9, 3) := by decide +kernel
theorem dX0_becomeCopyOf_9 : decode cX0_becomeCopyOf 9 = .ok (.iconst 0, 1) := by decide +kernel
theorem dX0_becomeCopyOf_10 : decode cX0_becomeCopyOf 10 = .ok (.aload_n 1, 1) := by decide +kernel
theorem dX0_becomeCopyOf_11 : decode cX0_becomeCopyOf 11 = .ok (.getfield 15, 3) := by decide +kernel
theorem dX0_becomeCopyOf_14 : decode cX0_becomeCopyOf 14 = .ok (.invokestatic 38, 3) := by decide +kernel
theorem dX0_becomeCopyOf_17 : decode cX0_becomeCopyOf 17 = .ok (.aload_n 0, 1) := by decide +kernel
theorem dX0_becomeCopyOf_18 : decode cX0_becomeCopyOf 18 = .ok (.aload_n 1, 1) := by decide +kernel
theorem dX0_becomeCopyOf_19 : decode cX0_becomeCopyOf 19 = .ok (.getfield 15, 3) := by decide +kernel
theorem dX0_becomeCopyOf_22 : decode cX0_becomeCopyOf 22 = .ok (.putfield 15, 3) := by decide +kernel
theorem dX0_becomeCopyOf_25 : decode cX0_becomeCopyOf 25 = .ok (.aload_n 0, 1) := by decide +kernel
theorem dX0_becomeCopyOf_26 : decode cX0_becomeCopyOf 26 = .ok (.iconst 0, 1) := by decide +kernel
theorem dX0_becomeCopyOf_27 : decode cX0_becomeCopyOf 27 = .ok (.putfield 28, 3) := by decide +kernel
theorem dX0_becomeCopyOf_30 : decode cX0_becomeCopyOf 30 = .ok (.aload_n 0, 1) := by decide +kernel
theorem dX0_becomeCopyOf_31 : decode cX0_becomeCopyOf 31 = .ok (.iconst 0, 1) := by decide +kernel
theorem dX0_becomeCopyOf_32 : decode cX0_becomeCopyOf 32 = .ok (.putfield 19, 3) := by decide +kernel
theorem dX0_becomeCopyOf_35 : decode cX0_becomeCopyOf 35 = .ok (.return_, 1) := by decide +kernel
set_option maxRecDepth 20000 in
theorem ggX1_init_Jx4a65c_init_da8c8 : GoodIn wsX1_init wsJx4a65c_init_da8c8 := goodIn_r _ [19, 20, 21, 22, 23, 24, 25, 26, 27, 28, 29, 30, 31, 2, 3, 44, 45, 46] (by decide +kernel) (by decide +kernel)
set_option maxRecDepth 20000 in
theorem gX1_init_Jx4a65c_init_da8c8 : GoodIn wsX1_init (wsJx4a65c_init_da8c8) := ggX1_init_Jx4a65c_init_da8c8
set_option maxRecDepth 20000 in
theorem ggX1_init_J7_fill_53178 : GoodIn wsX1_init wsJ7_fill_53178 := goodIn_r _ [35] (by decide +kernel) (by decide +kernel)
set_option maxRecDepth 20000 in
theorem gX1_init_J7_fill_53178 : GoodIn wsX1_init (va_wsS RX1 41 yJ7_fill_53178 wsJ7_fill_53178) := goodIn_app (goodIn_of _ (by decide +kernel)) ggX1_init_J7_fill_53178
theorem dX1_init_0 : decode cX1_init 0 = .ok (.aload_n 0, 1) := by decide +kernel
theorem dX1_init_1 : decode cX1_init 1 = .ok (.invokespecial 1, 3) := by decide +kernel
theorem dX1_init_4 : decode cX1_init 4 = .ok (.aload_n 0, 1) := by decide +kernel
theorem dX1_init_5 : decode cX1_init 5 = .ok (.bipush 16, 2) := by decide +kernel
theorem dX1_init_7 : decode cX1_init 7 = .ok (.newarray .int, 2) := by decide +kernel
theorem dX1_init_9 : decode cX1_init 9 = .ok (.putfield 9, 3) := by decide +kernel
theorem dX1_init_12 : decode cX1_init 12 = .ok (.aload_n 0, 1) := by decide +kernel
theorem dX1_init_13 : decode cX1_init 13 = .ok (.sipush 1024, 3) := by decide +kernel
theorem dX1_init_16 : decode cX1_init 16 = .ok (.newarray .int, 2) := by decide +kernel
theorem dX1_init_18 : decode cX1_init 18 = .ok (.putfield 13, 3) := by decide +kernel
theorem dX1_init_21 : decode cX1_init 21 = .ok (.aload_n 0, 1) := by decide +kernel
theorem dX1_init_22 : decode cX1_init 22 = .ok (.sipush 1024, 3) := by decide +kernel
theorem dX1_init_25 : decode cX1_init 25 = .ok (.newarray .int, 2) := by decide +kernel
theorem dX1_init_27 : decode cX1_init 27 = .ok (.putfield 16, 3) := by decide +kernel
theorem dX1_init_30 : decode cX1_init 30 = .ok (.aload_n 0, 1) := by decide +kernel
theorem dX1_init_31 : decode cX1_init 31 = .ok (.new 19, 3) := by decide +kernel
theorem dX1_init_34 : decode cX1_init 34 = .ok (.dup, 1) := by decide +kernel
theorem dX1_init_35 : decode cX1_init 35 = .ok (.invokespecial 21, 3) := by decide +kernel
theorem dX1_init_38 : decode cX1_init 38 = .ok (.putfield 22, 3) := by decide +kernel
theorem dX1_init_41 : decode cX1_init 41 = .ok (.aload_n 0, 1) := by decide +kernel
theorem dX1_init_42 : decode cX1_init 42 = .ok (.bipush 32, 2) := by decide +kernel
theorem dX1_init_44 : decode cX1_init 44 = .ok (.newarray .int, 2) := by decide +kernel
theorem dX1_init_46 : decode cX1_init 46 = .ok (.putfield 26, 3) := by decide +kernel
theorem dX1_init_49 : decode cX1_init 49 = .ok (.aload_n 0, 1) := by decide +kernel
theorem dX1_init_50 : decode cX1_init 50 = .ok (.iconst 0, 1) := by decide +kernel
theorem dX1_init_51 : decode cX1_init 51 = .ok (.putfield 29, 3) := by decide +kernel
theorem dX1_init_54 : decode cX1_init 54 = .ok (.aload_n 0, 1) := by decide +kernel
theorem dX1_init_55 : decode cX1_init 55 = .ok (.bipush 16, 2) := by decide +kernel
theorem dX1_init_57 : decode cX1_init 57 = .ok (.sipush 200, 3) := by decide +kernel
theorem dX1_init_60 : decode cX1_init 60 = .ok (.multianewarray 33 2, 4) := by decide +kernel
theorem dX1_init_64 : decode cX1_init 64 = .ok (.putfield 35, 3) := by decide +kernel
theorem dX1_init_67 : decode cX1_init 67 = .ok (.aload_n 0, 1) := by decide +kernel
theorem dX1_init_68 : decode cX1_init 68 = .ok (.bipush 16, 2) := by decide +kernel
theorem dX1_init_70 : decode cX1_init 70 = .ok (.newarray .int, 2) := by decide +kernel
theorem dX1_init_72 : decode cX1_init 72 = .ok (.putfield 38, 3) := by decide +kernel
theorem dX1_init_75 : decode cX1_init 75 = .ok (.aload_n 0, 1) := by decide +kernel
theorem dX1_init_76 : decode cX1_init 76 = .ok (.getfield 9, 3) := by decide +kernel
theorem dX1_init_79 : decode cX1_init 79 = .ok (.iconst (-1), 1) := by decide +kernel
theorem dX1_init_80 : decode cX1_init 80 = .ok (.invokestatic 41, 3) := by decide +kernel
theorem dX1_init_83 : decode cX1_init 83 = .ok (.aload_n 0, 1) := by decide +kernel
theorem dX1_init_84 : decode cX1_init 84 = .ok (.getfield 13, 3) := by decide +kernel
theorem dX1_init_87 : decode cX1_init 87 = .ok (.bipush 40, 2) := by decide +kernel
theorem dX1_init_89 : decode cX1_init 89 = .ok (.invokestatic 41, 3) := by decide +kernel
theorem dX1_init_92 : decode cX1_init 92 = .ok (.return_, 1) := by decide +kernel
set_option maxRecDepth 20000 in
theorem ggX1_subject_X1_requireSubject : GoodIn wsX1_subject wsX1_requireSubject := goodIn_ca (goodIn_r _ [5, 6, 7] (by decide +kernel) (by decide +kernel)) (goodIn_sub (fun _ h => List.mem_cons_of_mem _ (List.mem_append_right _ h)) (by decide +kernel))
set_option maxRecDepth 20000 in
theorem gX1_subject_X1_requireSubject : GoodIn wsX1_subject (va_wsS RX1 47 yX1_requireSubject wsX1_requireSubject) := goodIn_app (goodIn_of _ (by decide +kernel)) ggX1_subject_X1_requireSubject
set_option maxRecDepth 20000 in
theorem ggX1_subject_X1_requireLabel : GoodIn wsX1_subject wsX1_requireLabel := goodIn_ca (goodIn_r _ [10, 6, 7] (by decide +kernel) (by decide +kernel)) (goodIn_sub (fun _ h => List.mem_cons_of_mem _ (List.mem_append_right _ h)) (by decide +kernel))
set_option maxRecDepth 20000 in
theorem gX1_subject_X1_requireLabel : GoodIn wsX1_subject (va_wsS RX1 51 yX1_requireLabel wsX1_requireLabel) := goodIn_app (goodIn_of _ (by decide +kernel)) ggX1_subject_X1_requireLabel
theorem dX1_subject_0 : decode cX1_subject 0 = .ok (.iload_n 1, 1) := by decide +kernel
theorem dX1_subject_1 : decode cX1_subject 1 = .ok (.invokestatic 47, 3) := by decide +kernel
theorem dX1_subject_4 : decode cX1_subject 4 = .ok (.iload_n 2, 1) := by decide +kernel
theorem dX1_subject_5 : decode cX1_subject 5 = .ok (.invokestatic 51, 3) := by decide +kernel
theorem dX1_subject_8 : decode cX1_subject 8 = .ok (.aload_n 0, 1) := by decide +kernel
theorem dX1_subject_9 : decode cX1_subject 9 = .ok (.getfield 9, 3) := by decide +kernel
theorem dX1_subject_12 : decode cX1_subject 12 = .ok (.iload_n 1, 1) := by decide +kernel
theorem dX1_subject_13 : decode cX1_subject 13 = .ok (.iaload, 1) := by decide +kernel
theorem dX1_subject_14 : decode cX1_subject 14 = .ok (.iconst (-1), 1) := by decide +kernel
theorem dX1_subject_15 : decode cX1_subject 15 = .ok (.if_icmp .eq 5, 3) := by decide +kernel
theorem dX1_subject_18 : decode cX1_subject 18 = .ok (.iconst 0, 1) := by decide +kernel
theorem dX1_subject_19 : decode cX1_subject 19 = .ok (.ireturn, 1) := by decide +kernel
theorem dX1_subject_20 : decode cX1_subject 20 = .ok (.aload_n 0, 1) := by decide +kernel
theorem dX1_subject_21 : decode cX1_subject 21 = .ok (.getfield 9, 3) := by decide +kernel
theorem dX1_subject_24 : decode cX1_subject 24 = .ok (.iload_n 1, 1) := by decide +kernel
theorem dX1_subject_25 : decode cX1_subject 25 = .ok (.iload_n 2, 1) := by decide +kernel
theorem dX1_subject_26 : decode cX1_subject 26 = .ok (.iastore, 1) := by decide +kernel
theorem dX1_subject_27 : decode cX1_subject 27 = .ok (.iconst 1, 1) := by decide +kernel
theorem dX1_subject_28 : decode cX1_subject 28 = .ok (.ireturn, 1) := by decide +kernel
set_option maxRecDepth 20000 in
theorem ggX1_quota_X1_requireLabel : GoodIn wsX1_quota wsX1_requireLabel := goodIn_ca (goodIn_r _ [5, 6, 7] (by decide +kernel) (by decide +kernel)) (goodIn_sub (fun _ h => List.mem_cons_of_mem _ (List.mem_append_right _ h)) (by decide +kernel))
set_option maxRecDepth 20000 in
theorem gX1_quota_X1_requireLabel : GoodIn wsX1_quota (va_wsS RX1 51 yX1_requireLabel wsX1_requireLabel) := goodIn_app (goodIn_of _ (by decide +kernel)) ggX1_quota_X1_requireLabel
set_option maxRecDepth 20000 in
theorem ggX1_quota_X1_requireAtMost : GoodIn wsX1_quota wsX1_requireAtMost := goodIn_ca (goodIn_r _ [10, 6, 7] (by decide +kernel) (by decide +kernel)) (goodIn_sub (fun _ h => List.mem_cons_of_mem _ (List.mem_append_right _ h)) (by decide +kernel))
set_option maxRecDepth 20000 in
theorem gX1_quota_X1_requireAtMost : GoodIn wsX1_quota (va_wsS RX1 54 yX1_requireAtMost wsX1_requireAtMost) := goodIn_app (goodIn_of _ (by decide +kernel)) ggX1_quota_X1_requireAtMost
theorem dX1_quota_0 : decode cX1_quota 0 = .ok (.iload_n 1, 1) := by decide +kernel
theorem dX1_quota_1 : decode cX1_quota 1 = .ok (.invokestatic 51, 3) := by decide +kernel
theorem dX1_quota_4 : decode cX1_quota 4 = .ok (.sipush 1000, 3) := by decide +kernel
theorem dX1_quota_7 : decode cX1_quota 7 = .ok (.iload_n 2, 1) := by decide +kernel
theorem dX1_quota_8 : decode cX1_quota 8 = .ok (.invokestatic 54, 3) := by decide +kernel
theorem dX1_quota_11 : decode cX1_quota 11 = .ok (.aload_n 0, 1) := by decide +kernel
theorem dX1_quota_12 : decode cX1_quota 12 = .ok (.getfield 13, 3) := by decide +kernel
theorem dX1_quota_15 : decode cX1_quota 15 = .ok (.iload_n 1, 1) := by decide +kernel
theorem dX1_quota_16 : decode cX1_quota 16 = .ok (.iaload, 1) := by decide +kernel
theorem dX1_quota_17 : decode cX1_quota 17 = .ok (.istore_n 3, 1) := by decide +kernel
theorem dX1_quota_18 : decode cX1_quota 18 = .ok (.aload_n 0, 1) := by decide +kernel
theorem dX1_quota_19 : decode cX1_quota 19 = .ok (.getfield 13, 3) := by decide +kernel
theorem dX1_quota_22 : decode cX1_quota 22 = .ok (.iload_n 1, 1) := by decide +kernel
theorem dX1_quota_23 : decode cX1_quota 23 = .ok (.iload_n 2, 1) := by decide +kernel
theorem dX1_quota_24 : decode cX1_quota 24 = .ok (.iastore, 1) := by decide +kernel
theorem dX1_quota_25 : decode cX1_quota 25 = .ok (.iload_n 3, 1) := by decide +kernel
theorem dX1_quota_26 : decode cX1_quota 26 = .ok (.ireturn, 1) := by decide +kernel
set_option maxRecDepth 20000 in
theorem ggX1_list_X1_requireSubject : GoodIn wsX1_list wsX1_requireSubject := goodIn_ca (goodIn_r _ [9, 1, 2] (by decide +kernel) (by decide +kernel)) (goodIn_sub (fun _ h => List.mem_cons_of_mem _ (List.mem_append_left _ (List.mem_append_right _ h))) (by decide +kernel))
set_option maxRecDepth 20000 in
theorem gX1_list_X1_requireSubject : GoodIn wsX1_list (va_wsS RX1 47 yX1_requireSubject wsX1_requireSubject) := goodIn_app (goodIn_of _ (by decide +kernel)) ggX1_list_X1_requireSubject
set_option maxRecDepth 20000 in
theorem ggX1_list_X1_requireLabel : GoodIn wsX1_list wsX1_requireLabel := goodIn_ca (goodIn_r _ [12, 1, 2] (by decide +kernel) (by decide +kernel)) (goodIn_sub (fun _ h => List.mem_cons_of_mem _ (List.mem_append_left _ (List.mem_append_right _ h))) (by decide +kernel))
set_option maxRecDepth 20000 in
theorem gX1_list_X1_requireLabel : GoodIn wsX1_list (va_wsS RX1 51 yX1_requireLabel wsX1_requireLabel) := goodIn_app (goodIn_of _ (by decide +kernel)) ggX1_list_X1_requireLabel
set_option maxRecDepth 20000 in
theorem ggX1_list_X1_listingOf : GoodIn wsX1_list wsX1_listingOf := goodIn_r _ [15] (by decide +kernel) (by decide +kernel)
set_option maxRecDepth 20000 in
theorem gX1_list_X1_listingOf : GoodIn wsX1_list (va_wsS RX1 65 yX1_listingOf wsX1_listingOf) := goodIn_app (goodIn_of _ (by decide +kernel)) ggX1_list_X1_listingOf
set_option maxRecDepth 20000 in
theorem ggX1_list_X1_isListed : GoodIn wsX1_list wsX1_isListed := goodIn_r _ [19, 5, 20, 29, 30, 31, 32, 33, 34, 35, 36] (by decide +kernel) (by decide +kernel)
set_option maxRecDepth 20000 in
theorem gX1_list_X1_isListed : GoodIn wsX1_list (wsV RX1 69 RX1 yX1_isListed wsX1_isListed) := goodIn_app (goodIn_of _ (by decide +kernel)) ggX1_list_X1_isListed
set_option maxRecDepth 20000 in
theorem ggX1_list_X1_addListing : GoodIn wsX1_list wsX1_addListing := goodIn_r _ [24, 20, 5, 29, 30, 31, 32, 33, 34, 35, 36] (by decide +kernel) (by decide +kernel)
set_option maxRecDepth 20000 in
theorem gX1_list_X1_addListing : GoodIn wsX1_list (wsV RX1 78 RX1 yX1_addListing wsX1_addListing) := goodIn_app (goodIn_of _ (by decide +kernel)) ggX1_list_X1_addListing
set_option maxRecDepth 20000 in
theorem ggX1_list_X1_dropListing : GoodIn wsX1_list wsX1_dropListing := goodIn_r _ [28, 5, 20, 29, 30, 31, 32, 33, 34, 35, 36] (by decide +kernel) (by decide +kernel)
set_option maxRecDepth 20000 in
theorem gX1_list_X1_dropListing : GoodIn wsX1_list (wsV RX1 81 RX1 yX1_dropListing wsX1_dropListing) := goodIn_app (goodIn_of _ (by decide +kernel)) ggX1_list_X1_dropListing
theorem dX1_list_0 : decode cX1_list 0 = .ok (.iload_n 1, 1) := by decide +kernel
theorem dX1_list_1 : decode cX1_list 1 = .ok (.invokestatic 47, 3) := by decide +kernel
theorem dX1_list_4 : decode cX1_list 4 = .ok (.iload_n 2, 1) := by decide +kernel
theorem dX1_list_5 : decode cX1_list 5 = .ok (.invokestatic 51, 3) := by decide +kernel
theorem dX1_list_8 : decode cX1_list 8 = .ok (.iload_n 3, 1) := by decide +kernel
theorem dX1_list_9 : decode cX1_list 9 = .ok (.invokestatic 51, 3) := by decide +kernel
theorem dX1_list_12 : decode cX1_list 12 = .ok (.iload_n 2, 1) := by decide +kernel
theorem dX1_list_13 : decode cX1_list 13 = .ok (.iload_n 3, 1) := by decide +kernel
theorem dX1_list_14 : decode cX1_list 14 = .ok (.if_icmp .ne 13, 3) := by decide +kernel
theorem dX1_list_17 : decode cX1_list 17 = .ok (.new 58, 3) := by decide +kernel
theorem dX1_list_20 : decode cX1_list 20 = .ok (.dup, 1) := by decide +kernel
theorem dX1_list_21 : decode cX1_list 21 = .ok (.ldc 60, 2) := by decide +kernel
theorem dX1_list_23 : decode cX1_list 23 = .ok (.invokespecial 62, 3) := by decide +kernel
theorem dX1_list_26 : decode cX1_list 26 = .ok (.athrow, 1) := by decide +kernel
theorem dX1_list_27 : decode cX1_list 27 = .ok (.iload_n 1, 1) := by decide +kernel
theorem dX1_list_28 : decode cX1_list 28 = .ok (.iload_n 2, 1) := by decide +kernel
theorem dX1_list_29 : decode cX1_list 29 = .ok (.iload_n 3, 1) := by decide +kernel
theorem dX1_list_30 : decode cX1_list 30 = .ok (.invokestatic 65, 3) := by decide +kernel
theorem dX1_list_33 : decode cX1_list 33 = .ok (.istore 5, 2) := by decide +kernel
theorem dX1_list_35 : decode cX1_list 35 = .ok (.aload_n 0, 1) := by decide +kernel
theorem dX1_list_36 : decode cX1_list 36 = .ok (.iload 5, 2) := by decide +kernel
theorem dX1_list_38 : decode cX1_list 38 = .ok (.invokevirtual 69, 3) := by decide +kernel
theorem dX1_list_41 : decode cX1_list 41 = .ok (.istore 6, 2) := by decide +kernel
theorem dX1_list_43 : decode cX1_list 43 = .ok (.iload 4, 2) := by decide +kernel
theorem dX1_list_45 : decode cX1_list 45 = .ok (.ifCond .eq 33, 3) := by decide +kernel
theorem dX1_list_48 : decode cX1_list 48 = .ok (.iload 6, 2) := by decide +kernel
theorem dX1_list_50 : decode cX1_list 50 = .ok (.ifCond .ne 28, 3) := by decide +kernel
theorem dX1_list_53 : decode cX1_list 53 = .ok (.aload_n 0, 1) := by decide +kernel
theorem dX1_list_54 : decode cX1_list 54 = .ok (.getfield 29, 3) := by decide +kernel
theorem dX1_list_57 : decode cX1_list 57 = .ok (.bipush 32, 2) := by decide +kernel
theorem dX1_list_59 : decode cX1_list 59 = .ok (.if_icmp .lt 13, 3) := by decide +kernel
theorem dX1_list_62 : decode cX1_list 62 = .ok (.new 73, 3) := by decide +kernel
theorem dX1_list_65 : decode cX1_list 65 = .ok (.dup, 1) := by decide +kernel
theorem dX1_list_66 : decode cX1_list 66 = .ok (.ldc 75, 2) := by decide +kernel
theorem dX1_list_68 : decode cX1_list 68 = .ok (.invokespecial 77, 3) := by decide +kernel
theorem dX1_list_71 : decode cX1_list 71 = .ok (.athrow, 1) := by decide +kernel
theorem dX1_list_72 : decode cX1_list 72 = .ok (.aload_n 0, 1) := by decide +kernel
theorem dX1_list_73 : decode cX1_list 73 = .ok (.iload 5, 2) := by decide +kernel
theorem dX1_list_75 : decode cX1_list 75 = .ok (.invokevirtual 78, 3) := by decide +kernel
theorem dX1_list_78 : decode cX1_list 78 = .ok (.iload 4, 2) := by decide +kernel
theorem dX1_list_80 : decode cX1_list 80 = .ok (.ifCond .ne 9, 3) := by decide +kernel
theorem dX1_list_83 : decode cX1_list 83 = .ok (.aload_n 0, 1) := by decide +kernel
theorem dX1_list_84 : decode cX1_list 84 = .ok (.iload 5, 2) := by decide +kernel
theorem dX1_list_86 : decode cX1_list 86 = .ok (.invokevirtual 81, 3) := by decide +kernel
theorem dX1_list_89 : decode cX1_list 89 = .ok (.iload 6, 2) := by decide +kernel
theorem dX1_list_91 : decode cX1_list 91 = .ok (.ireturn, 1) := by decide +kernel
set_option maxRecDepth 20000 in
theorem ggX1_flows_X1_requireLabel : GoodIn wsX1_flows wsX1_requireLabel := goodIn_ca (goodIn_r _ [4, 5, 6] (by decide +kernel) (by decide +kernel)) (goodIn_sub (fun _ h => List.mem_cons_of_mem _ (List.mem_append_right _ h)) (by decide +kernel))
set_option maxRecDepth 20000 in
theorem gX1_flows_X1_requireLabel : GoodIn wsX1_flows (va_wsS RX1 51 yX1_requireLabel wsX1_requireLabel) := goodIn_app (goodIn_of _ (by decide +kernel)) ggX1_flows_X1_requireLabel
set_option maxRecDepth 20000 in
theorem ggX1_flows_X1_mayFlow : GoodIn wsX1_flows wsX1_mayFlow := goodIn_r _ [9, 10, 11, 3, 12, 13, 14, 15, 16, 17, 18, 19, 20, 21, 22, 23, 24] (by decide +kernel) (by decide +kernel)
set_option maxRecDepth 20000 in
theorem gX1_flows_X1_mayFlow : GoodIn wsX1_flows (va_wsS RX1 84 yX1_mayFlow wsX1_mayFlow) := goodIn_app (goodIn_of _ (by decide +kernel)) ggX1_flows_X1_mayFlow
theorem dX1_flows_0 : decode cX1_flows 0 = .ok (.iload_n 1, 1) := by decide +kernel
theorem dX1_flows_1 : decode cX1_flows 1 = .ok (.invokestatic 51, 3) := by decide +kernel
theorem dX1_flows_4 : decode cX1_flows 4 = .ok (.iload_n 2, 1) := by decide +kernel
theorem dX1_flows_5 : decode cX1_flows 5 = .ok (.invokestatic 51, 3) := by decide +kernel
theorem dX1_flows_8 : decode cX1_flows 8 = .ok (.iload_n 1, 1) := by decide +kernel
theorem dX1_flows_9 : decode cX1_flows 9 = .ok (.iload_n 2, 1) := by decide +kernel
theorem dX1_flows_10 : decode cX1_flows 10 = .ok (.invokestatic 84, 3) := by decide +kernel
theorem dX1_flows_13 : decode cX1_flows 13 = .ok (.ireturn, 1) := by decide +kernel
set_option maxRecDepth 20000 in
theorem ggX1_make_X1_requireSubject : GoodIn wsX1_make wsX1_requireSubject := goodIn_ca (goodIn_r _ [6, 7, 8] (by decide +kernel) (by decide +kernel)) (goodIn_sub (fun _ h => List.mem_cons_of_mem _ (List.mem_append_right _ h)) (by decide +kernel))
set_option maxRecDepth 20000 in
theorem gX1_make_X1_requireSubject : GoodIn wsX1_make (va_wsS RX1 47 yX1_requireSubject wsX1_requireSubject) := goodIn_app (goodIn_of _ (by decide +kernel)) ggX1_make_X1_requireSubject
set_option maxRecDepth 20000 in
theorem ggX1_make_X1_requireFile : GoodIn wsX1_make wsX1_requireFile := goodIn_ca (goodIn_r _ [11, 12, 13, 5, 14, 7, 8, 15, 16, 17] (by decide +kernel) (by decide +kernel)) (goodIn_sub (fun _ h => List.mem_cons_of_mem _ (List.mem_append_right _ h)) (by decide +kernel))
set_option maxRecDepth 20000 in
theorem gX1_make_X1_requireFile : GoodIn wsX1_make (va_wsS RX1 88 yX1_requireFile wsX1_requireFile) := goodIn_app (goodIn_of _ (by decide +kernel)) ggX1_make_X1_requireFile
set_option maxRecDepth 20000 in
theorem ggX1_make_X1_requireFolder : GoodIn wsX1_make wsX1_requireFolder := goodIn_ca (goodIn_r _ [20, 7, 8] (by decide +kernel) (by decide +kernel)) (goodIn_sub (fun _ h => List.mem_cons_of_mem _ (List.mem_append_right _ h)) (by decide +kernel))
set_option maxRecDepth 20000 in
theorem gX1_make_X1_requireFolder : GoodIn wsX1_make (va_wsS RX1 91 yX1_requireFolder wsX1_requireFolder) := goodIn_app (goodIn_of _ (by decide +kernel)) ggX1_make_X1_requireFolder
set_option maxRecDepth 20000 in
theorem ggX1_make_X1_answerMake : GoodIn wsX1_make wsX1_answerMake := goodIn_r _ [24, 25, 26, 27, 5, 28, 29, 30, 31, 32, 33, 34, 35, 36, 37, 38, 39, 40, 41, 42, 43, 44, 45, 46, 47, 48, 49, 50, 51, 52, 53, 54, 55, 56, 57, 58, 59, 60, 61, 62, 63, 64, 65, 66, 67, 68, 69, 70, 71, 72, 73, 74, 75, 76, 77, 78, 79, 80, 81, 82, 83, 84, 85, 86, 87, 88, 89, 90, 91, 92, 93, 94, 95, 96, 97, 98, 99, 100, 101, 102, 103, 104, 105, 106, 107, 108, 109, 110, 111, 112, 113, 114, 115, 116, 117, 118, 119, 120, 121, 122, 123, 124, 125, 126, 127, 128, 129, 130, 131, 132, 133, 134, 135, 136, 137, 138, 139, 140, 141, 142, 143, 144, 145, 146, 147, 148, 149, 150, 151, 152, 153, 154, 155, 156, 157, 158, 159, 160, 161, 162, 163, 164, 165, 166, 167, 168, 169, 170, 171, 172, 173, 174, 175, 176, 177, 178, 179, 180, 181, 182, 183, 184, 185, 186, 192, 193, 194, 195, 196, 197, 198, 199, 200, 201, 202, 203, 204, 205, 206, 207, 208] (by decide +kernel) (by decide +kernel)
set_option maxRecDepth 20000 in
theorem gX1_make_X1_answerMake : GoodIn wsX1_make (wsV RX1 94 RX1 yX1_answerMake wsX1_answerMake) := goodIn_app (goodIn_of _ (by decide +kernel)) ggX1_make_X1_answerMake
set_option maxRecDepth 20000 in
theorem ggX1_make_X1_forgetSeen : GoodIn wsX1_make wsX1_forgetSeen := goodIn_r _ [190, 191, 192, 193, 194, 195, 196, 197, 198, 199] (by decide +kernel) (by decide +kernel)
set_option maxRecDepth 20000 in
theorem gX1_make_X1_forgetSeen : GoodIn wsX1_make (wsV RX1 100 RX1 yX1_forgetSeen wsX1_forgetSeen) := goodIn_app (goodIn_of _ (by decide +kernel)) ggX1_make_X1_forgetSeen
theorem dX1_make_0 : decode cX1_make 0 = .ok (.iload_n 1, 1) := by decide +kernel
theorem dX1_make_1 : decode cX1_make 1 = .ok (.invokestatic 47, 3) := by decide +kernel
theorem dX1_make_4 : decode cX1_make 4 = .ok (.iload_n 2, 1) := by decide +kernel
theorem dX1_make_5 : decode cX1_make 5 = .ok (.iload_n 3, 1) := by decide +kernel
theorem dX1_make_6 : decode cX1_make 6 = .ok (.invokestatic 88, 3) := by decide +kernel
theorem dX1_make_9 : decode cX1_make 9 = .ok (.iload 4, 2) := by decide +kernel
theorem dX1_make_11 : decode cX1_make 11 = .ok (.invokestatic 91, 3) := by decide +kernel
theorem dX1_make_14 : decode cX1_make 14 = .ok (.aload_n 0, 1) := by decide +kernel
theorem dX1_make_15 : decode cX1_make 15 = .ok (.iload_n 1, 1) := by decide +kernel
theorem dX1_make_16 : decode cX1_make 16 = .ok (.iload_n 2, 1) := by decide +kernel
theorem dX1_make_17 : decode cX1_make 17 = .ok (.iload_n 3, 1) := by decide +kernel
theorem dX1_make_18 : decode cX1_make 18 = .ok (.iload 4, 2) := by decide +kernel
theorem dX1_make_20 : decode cX1_make 20 = .ok (.invokevirtual 94, 3) := by decide +kernel
theorem dX1_make_23 : decode cX1_make 23 = .ok (.istore 5, 2) := by decide +kernel
theorem dX1_make_25 : decode cX1_make 25 = .ok (.iload 5, 2) := by decide +kernel
theorem dX1_make_27 : decode cX1_make 27 = .ok (.bipush (-4), 2) := by decide +kernel
theorem dX1_make_29 : decode cX1_make 29 = .ok (.if_icmp .ne 13, 3) := by decide +kernel
theorem dX1_make_32 : decode cX1_make 32 = .ok (.new 73, 3) := by decide +kernel
theorem dX1_make_35 : decode cX1_make 35 = .ok (.dup, 1) := by decide +kernel
theorem dX1_make_36 : decode cX1_make 36 = .ok (.ldc 98, 2) := by decide +kernel
theorem dX1_make_38 : decode cX1_make 38 = .ok (.invokespecial 77, 3) := by decide +kernel
theorem dX1_make_41 : decode cX1_make 41 = .ok (.athrow, 1) := by decide +kernel
theorem dX1_make_42 : decode cX1_make 42 = .ok (.aload_n 0, 1) := by decide +kernel
theorem dX1_make_43 : decode cX1_make 43 = .ok (.iload_n 1, 1) := by decide +kernel
theorem dX1_make_44 : decode cX1_make 44 = .ok (.invokevirtual 100, 3) := by decide +kernel
theorem dX1_make_47 : decode cX1_make 47 = .ok (.iload 5, 2) := by decide +kernel
theorem dX1_make_49 : decode cX1_make 49 = .ok (.ireturn, 1) := by decide +kernel
set_option maxRecDepth 20000 in
theorem ggX1_set_X1_requireSubject : GoodIn wsX1_set wsX1_requireSubject := goodIn_ca (goodIn_r _ [7, 8, 9] (by decide +kernel) (by decide +kernel)) (goodIn_sub (fun _ h => List.mem_cons_of_mem _ (List.mem_append_right _ h)) (by decide +kernel))
set_option maxRecDepth 20000 in
theorem gX1_set_X1_requireSubject : GoodIn wsX1_set (va_wsS RX1 47 yX1_requireSubject wsX1_requireSubject) := goodIn_app (goodIn_of _ (by decide +kernel)) ggX1_set_X1_requireSubject
set_option maxRecDepth 20000 in
theorem ggX1_set_X1_requireNumber : GoodIn wsX1_set wsX1_requireNumber := goodIn_ca (goodIn_r _ [12, 8, 9] (by decide +kernel) (by decide +kernel)) (goodIn_sub (fun _ h => List.mem_cons_of_mem _ (List.mem_append_right _ h)) (by decide +kernel))
set_option maxRecDepth 20000 in
theorem gX1_set_X1_requireNumber : GoodIn wsX1_set (va_wsS RX1 103 yX1_requireNumber wsX1_requireNumber) := goodIn_app (goodIn_of _ (by decide +kernel)) ggX1_set_X1_requireNumber
set_option maxRecDepth 20000 in
theorem ggX1_set_X1_requireCell : GoodIn wsX1_set wsX1_requireCell := goodIn_ca (goodIn_r _ [15, 8, 9] (by decide +kernel) (by decide +kernel)) (goodIn_sub (fun _ h => List.mem_cons_of_mem _ (List.mem_append_right _ h)) (by decide +kernel))
set_option maxRecDepth 20000 in
theorem gX1_set_X1_requireCell : GoodIn wsX1_set (va_wsS RX1 106 yX1_requireCell wsX1_requireCell) := goodIn_app (goodIn_of _ (by decide +kernel)) ggX1_set_X1_requireCell
set_option maxRecDepth 20000 in
theorem ggX1_set_X1_forgetSeen : GoodIn wsX1_set wsX1_forgetSeen := goodIn_r _ [19, 20, 91, 92, 93, 94, 95, 96, 97, 98] (by decide +kernel) (by decide +kernel)
set_option maxRecDepth 20000 in
theorem gX1_set_X1_forgetSeen : GoodIn wsX1_set (wsV RX1 100 RX1 yX1_forgetSeen wsX1_forgetSeen) := goodIn_app (goodIn_of _ (by decide +kernel)) ggX1_set_X1_forgetSeen
set_option maxRecDepth 20000 in
theorem ggX1_set_X1_find : GoodIn wsX1_set wsX1_find := goodIn_r _ [24, 25, 26, 27, 28, 6, 29, 30, 31, 32, 33, 34, 35, 36, 37, 38, 39, 40, 41, 42, 43, 44, 45, 46, 47, 48, 49, 50, 51, 52, 53, 54, 55, 56, 57, 91, 92, 93, 94, 95, 96, 97, 98, 99, 100, 101, 102, 103, 104, 105, 106, 107] (by decide +kernel) (by decide +kernel)
set_option maxRecDepth 20000 in
theorem gX1_set_X1_find : GoodIn wsX1_set (wsV RX1 109 RX1 yX1_find wsX1_find) := goodIn_app (goodIn_of _ (by decide +kernel)) ggX1_set_X1_find
set_option maxRecDepth 20000 in
theorem ggX1_set_X1_hasRoom : GoodIn wsX1_set wsX1_hasRoom := goodIn_r _ [61, 62, 63, 64, 65, 6, 66, 67, 25, 26, 34, 35, 36, 37, 38, 39, 40, 41, 42, 43, 44, 45, 46, 47, 48, 49, 50, 51, 52, 53, 54, 55, 56, 57, 68, 69, 70, 71, 72, 73, 74, 75, 76, 77, 78, 79, 80, 81, 82, 83, 84, 85, 91, 92, 93, 94, 95, 96, 97, 98, 99, 100, 101, 102, 103, 104, 105, 106, 107] (by decide +kernel) (by decide +kernel)
set_option maxRecDepth 20000 in
theorem gX1_set_X1_hasRoom : GoodIn wsX1_set (wsV RX1 121 RX1 yX1_hasRoom wsX1_hasRoom) := goodIn_app (goodIn_of _ (by decide +kernel)) ggX1_set_X1_hasRoom
set_option maxRecDepth 20000 in
theorem ggX1_set_X0_append : GoodIn wsX1_set wsX0_append := goodIn_r _ [89, 77, 90, 78, 99, 100, 101, 102, 103, 104] (by decide +kernel) (by decide +kernel)
set_option maxRecDepth 20000 in
theorem gX1_set_X0_append : GoodIn wsX1_set (wsV RX1 124 RX0 yX0_append wsX0_append) := goodIn_app (goodIn_of _ (by decide +kernel)) ggX1_set_X0_append
theorem dX1_set_0 : decode cX1_set 0 = .ok (.iload_n 1, 1) := by decide +kernel
theorem dX1_set_1 : decode cX1_set 1 = .ok (.invokestatic 47, 3) := by decide +kernel
theorem dX1_set_4 : decode cX1_set 4 = .ok (.iload_n 2, 1) := by decide +kernel
theorem dX1_set_5 : decode cX1_set 5 = .ok (.invokestatic 103, 3) := by decide +kernel
theorem dX1_set_8 : decode cX1_set 8 = .ok (.iload_n 3, 1) := by decide +kernel
theorem dX1_set_9 : decode cX1_set 9 = .ok (.invokestatic 106, 3) := by decide +kernel
theorem dX1_set_12 : decode cX1_set 12 = .ok (.aload_n 0, 1) := by decide +kernel
theorem dX1_set_13 : decode cX1_set 13 = .ok (.iload_n 1, 1) := by decide +kernel
theorem dX1_set_14 : decode cX1_set 14 = .ok (.invokevirtual 100, 3) := by decide +kernel
theorem dX1_set_17 : decode cX1_set 17 = .ok (.aload_n 0, 1) := by decide +kernel
theorem dX1_set_18 : decode cX1_set 18 = .ok (.getfield 9, 3) := by decide +kernel
theorem dX1_set_21 : decode cX1_set 21 = .ok (.iload_n 1, 1) := by decide +kernel
theorem dX1_set_22 : decode cX1_set 22 = .ok (.iaload, 1) := by decide +kernel
theorem dX1_set_23 : decode cX1_set 23 = .ok (.istore 5, 2) := by decide +kernel
theorem dX1_set_25 : decode cX1_set 25 = .ok (.iload 5, 2) := by decide +kernel
theorem dX1_set_27 : decode cX1_set 27 = .ok (.iconst (-1), 1) := by decide +kernel
theorem dX1_set_28 : decode cX1_set 28 = .ok (.if_icmp .ne 5, 3) := by decide +kernel
theorem dX1_set_31 : decode cX1_set 31 = .ok (.iconst (-1), 1) := by decide +kernel
theorem dX1_set_32 : decode cX1_set 32 = .ok (.ireturn, 1) := by decide +kernel
theorem dX1_set_33 : decode cX1_set 33 = .ok (.aload_n 0, 1) := by decide +kernel
theorem dX1_set_34 : decode cX1_set 34 = .ok (.iload 5, 2) := by decide +kernel
theorem dX1_set_36 : decode cX1_set 36 = .ok (.iload_n 2, 1) := by decide +kernel
theorem dX1_set_37 : decode cX1_set 37 = .ok (.invokevirtual 109, 3) := by decide +kernel
theorem dX1_set_40 : decode cX1_set 40 = .ok (.astore 6, 2) := by decide +kernel
theorem dX1_set_42 : decode cX1_set 42 = .ok (.aload 6, 2) := by decide +kernel
theorem dX1_set_44 : decode cX1_set 44 = .ok (.ifnull 12, 3) := by decide +kernel
theorem dX1_set_47 : decode cX1_set 47 = .ok (.iload_n 3, 1) := by decide +kernel
theorem dX1_set_48 : decode cX1_set 48 = .ok (.aload 6, 2) := by decide +kernel
theorem dX1_set_50 : decode cX1_set 50 = .ok (.getfield 113, 3) := by decide +kernel
theorem dX1_set_53 : decode cX1_set 53 = .ok (.if_icmp .le 5, 3) := by decide +kernel
theorem dX1_set_56 : decode cX1_set 56 = .ok (.iconst 0, 1) := by decide +kernel
theorem dX1_set_57 : decode cX1_set 57 = .ok (.ireturn, 1) := by decide +kernel
theorem dX1_set_58 : decode cX1_set 58 = .ok (.iload_n 3, 1) := by decide +kernel
theorem dX1_set_59 : decode cX1_set 59 = .ok (.aload 6, 2) := by decide +kernel
theorem dX1_set_61 : decode cX1_set 61 = .ok (.getfield 113, 3) := by decide +kernel
theorem dX1_set_64 : decode cX1_set 64 = .ok (.if_icmp .ge 14, 3) := by decide +kernel
theorem dX1_set_67 : decode cX1_set 67 = .ok (.aload 6, 2) := by decide +kernel
theorem dX1_set_69 : decode cX1_set 69 = .ok (.getfield 118, 3) := by decide +kernel
theorem dX1_set_72 : decode cX1_set 72 = .ok (.iload_n 3, 1) := by decide +kernel
theorem dX1_set_73 : decode cX1_set 73 = .ok (.iload 4, 2) := by decide +kernel
theorem dX1_set_75 : decode cX1_set 75 = .ok (.iastore, 1) := by decide +kernel
theorem dX1_set_76 : decode cX1_set 76 = .ok (.iconst 1, 1) := by decide +kernel
theorem dX1_set_77 : decode cX1_set 77 = .ok (.ireturn, 1) := by decide +kernel
theorem dX1_set_78 : decode cX1_set 78 = .ok (.aload_n 0, 1) := by decide +kernel
theorem dX1_set_79 : decode cX1_set 79 = .ok (.iload 5, 2) := by decide +kernel
theorem dX1_set_81 : decode cX1_set 81 = .ok (.iconst 1, 1) := by decide +kernel
theorem dX1_set_82 : decode cX1_set 82 = .ok (.invokevirtual 121, 3) := by decide +kernel
theorem dX1_set_85 : decode cX1_set 85 = .ok (.ifCond .ne 6, 3) := by decide +kernel
theorem dX1_set_88 : decode cX1_set 88 = .ok (.bipush (-3), 2) := by decide +kernel
theorem dX1_set_90 : decode cX1_set 90 = .ok (.ireturn, 1) := by decide +kernel
theorem dX1_set_91 : decode cX1_set 91 = .ok (.aload 6, 2) := by decide +kernel
theorem dX1_set_93 : decode cX1_set 93 = .ok (.iload 4, 2) := by decide +kernel
theorem dX1_set_95 : decode cX1_set 95 = .ok (.iconst 0, 1) := by decide +kernel
theorem dX1_set_96 : decode cX1_set 96 = .ok (.invokevirtual 124, 3) := by decide +kernel
theorem dX1_set_99 : decode cX1_set 99 = .ok (.iconst 1, 1) := by decide +kernel
theorem dX1_set_100 : decode cX1_set 100 = .ok (.ireturn, 1) := by decide +kernel
set_option maxRecDepth 20000 in
theorem ggX1_give_X1_requireSubject : GoodIn wsX1_give wsX1_requireSubject := goodIn_ca (goodIn_r _ [6, 7, 8] (by decide +kernel) (by decide +kernel)) (goodIn_sub (fun _ h => List.mem_cons_of_mem _ (List.mem_append_right _ h)) (by decide +kernel))
set_option maxRecDepth 20000 in
theorem gX1_give_X1_requireSubject : GoodIn wsX1_give (va_wsS RX1 47 yX1_requireSubject wsX1_requireSubject) := goodIn_app (goodIn_of _ (by decide +kernel)) ggX1_give_X1_requireSubject
set_option maxRecDepth 20000 in
theorem ggX1_give_X1_requireFile : GoodIn wsX1_give wsX1_requireFile := goodIn_ca (goodIn_r _ [11, 12, 13, 5, 14, 7, 8, 15, 16, 17] (by decide +kernel) (by decide +kernel)) (goodIn_sub (fun _ h => List.mem_cons_of_mem _ (List.mem_append_right _ h)) (by decide +kernel))
set_option maxRecDepth 20000 in
theorem gX1_give_X1_requireFile : GoodIn wsX1_give (va_wsS RX1 88 yX1_requireFile wsX1_requireFile) := goodIn_app (goodIn_of _ (by decide +kernel)) ggX1_give_X1_requireFile
set_option maxRecDepth 20000 in
theorem ggX1_give_X1_forgetSeen : GoodIn wsX1_give wsX1_forgetSeen := goodIn_r _ [21, 22, 110, 111, 112, 113, 114, 115, 116, 117] (by decide +kernel) (by decide +kernel)
set_option maxRecDepth 20000 in
theorem gX1_give_X1_forgetSeen : GoodIn wsX1_give (wsV RX1 100 RX1 yX1_forgetSeen wsX1_forgetSeen) := goodIn_app (goodIn_of _ (by decide +kernel)) ggX1_give_X1_forgetSeen
set_option maxRecDepth 20000 in
theorem ggX1_give_X1_mayFlow : GoodIn wsX1_give wsX1_mayFlow := goodIn_r _ [25, 26, 27, 5, 28, 29, 30, 31, 32, 33, 34, 35, 36, 37, 38, 39, 40] (by decide +kernel) (by decide +kernel)
set_option maxRecDepth 20000 in
theorem gX1_give_X1_mayFlow : GoodIn wsX1_give (va_wsS RX1 84 yX1_mayFlow wsX1_mayFlow) := goodIn_app (goodIn_of _ (by decide +kernel)) ggX1_give_X1_mayFlow
set_option maxRecDepth 20000 in
theorem ggX1_give_X1_hasRoom : GoodIn wsX1_give wsX1_hasRoom := goodIn_r _ [44, 45, 46, 47, 48, 5, 49, 2, 50, 51, 52, 53, 54, 55, 56, 57, 58, 59, 60, 61, 62, 63, 64, 65, 66, 67, 68, 69, 70, 71, 72, 73, 74, 75, 76, 77, 78, 79, 80, 81, 82, 83, 84, 85, 86, 87, 88, 89, 90, 91, 92, 93, 110, 111, 112, 113, 114, 115, 116, 117, 118, 119, 120, 121, 122, 123, 124, 125, 126] (by decide +kernel) (by decide +kernel)
set_option maxRecDepth 20000 in
theorem gX1_give_X1_hasRoom : GoodIn wsX1_give (wsV RX1 121 RX1 yX1_hasRoom wsX1_hasRoom) := goodIn_app (goodIn_of _ (by decide +kernel)) ggX1_give_X1_hasRoom
set_option maxRecDepth 20000 in
theorem ggX1_give_X1_find : GoodIn wsX1_give wsX1_find := goodIn_r _ [97, 50, 51, 98, 99, 5, 100, 101, 102, 103, 104, 52, 53, 54, 55, 56, 57, 58, 59, 60, 61, 62, 63, 64, 65, 66, 67, 68, 69, 70, 71, 72, 73, 74, 75, 110, 111, 112, 113, 114, 115, 116, 117, 118, 119, 120, 121, 122, 123, 124, 125, 126] (by decide +kernel) (by decide +kernel)
set_option maxRecDepth 20000 in
theorem gX1_give_X1_find : GoodIn wsX1_give (wsV RX1 109 RX1 yX1_find wsX1_find) := goodIn_app (goodIn_of _ (by decide +kernel)) ggX1_give_X1_find
set_option maxRecDepth 20000 in
theorem ggX1_give_X0_append : GoodIn wsX1_give wsX0_append := goodIn_r _ [108, 85, 109, 86, 118, 119, 120, 121, 122, 123] (by decide +kernel) (by decide +kernel)
set_option maxRecDepth 20000 in
theorem gX1_give_X0_append : GoodIn wsX1_give (wsV RX1 124 RX0 yX0_append wsX0_append) := goodIn_app (goodIn_of _ (by decide +kernel)) ggX1_give_X0_append
theorem dX1_give_0 : decode cX1_give 0 = .ok (.iload_n 1, 1) := by decide +kernel
theorem dX1_give_1 : decode cX1_give 1 = .ok (.invokestatic 47, 3) := by decide +kernel
theorem dX1_give_4 : decode cX1_give 4 = .ok (.iload_n 2, 1) := by decide +kernel
theorem dX1_give_5 : decode cX1_give 5 = .ok (.iload_n 3, 1) := by decide +kernel
theorem dX1_give_6 : decode cX1_give 6 = .ok (.invokestatic 88, 3) := by decide +kernel
theorem dX1_give_9 : decode cX1_give 9 = .ok (.aload_n 0, 1) := by decide +kernel
theorem dX1_give_10 : decode cX1_give 10 = .ok (.iload_n 1, 1) := by decide +kernel
theorem dX1_give_11 : decode cX1_give 11 = .ok (.invokevirtual 100, 3) := by decide +kernel
theorem dX1_give_14 : decode cX1_give 14 = .ok (.aload_n 0, 1) := by decide +kernel
theorem dX1_give_15 : decode cX1_give 15 = .ok (.getfield 9, 3) := by decide +kernel
theorem dX1_give_18 : decode cX1_give 18 = .ok (.iload_n 1, 1) := by decide +kernel
theorem dX1_give_19 : decode cX1_give 19 = .ok (.iaload, 1) := by decide +kernel
theorem dX1_give_20 : decode cX1_give 20 = .ok (.istore 5, 2) := by decide +kernel
theorem dX1_give_22 : decode cX1_give 22 = .ok (.iload 5, 2) := by decide +kernel
theorem dX1_give_24 : decode cX1_give 24 = .ok (.iconst (-1), 1) := by decide +kernel
theorem dX1_give_25 : decode cX1_give 25 = .ok (.if_icmp .ne 5, 3) := by decide +kernel
theorem dX1_give_28 : decode cX1_give 28 = .ok (.iconst (-1), 1) := by decide +kernel
theorem dX1_give_29 : decode cX1_give 29 = .ok (.ireturn, 1) := by decide +kernel
theorem dX1_give_30 : decode cX1_give 30 = .ok (.iload 5, 2) := by decide +kernel
theorem dX1_give_32 : decode cX1_give 32 = .ok (.iload_n 2, 1) := by decide +kernel
theorem dX1_give_33 : decode cX1_give 33 = .ok (.if_icmp .eq 12, 3) := by decide +kernel
theorem dX1_give_36 : decode cX1_give 36 = .ok (.iload 5, 2) := by decide +kernel
theorem dX1_give_38 : decode cX1_give 38 = .ok (.iload_n 2, 1) := by decide +kernel
theorem dX1_give_39 : decode cX1_give 39 = .ok (.invokestatic 84, 3) := by decide +kernel
theorem dX1_give_42 : decode cX1_give 42 = .ok (.ifCond .ne 6, 3) := by decide +kernel
theorem dX1_give_45 : decode cX1_give 45 = .ok (.bipush (-2), 2) := by decide +kernel
theorem dX1_give_47 : decode cX1_give 47 = .ok (.ireturn, 1) := by decide +kernel
theorem dX1_give_48 : decode cX1_give 48 = .ok (.aload_n 0, 1) := by decide +kernel
theorem dX1_give_49 : decode cX1_give 49 = .ok (.iload 5, 2) := by decide +kernel
theorem dX1_give_51 : decode cX1_give 51 = .ok (.iconst 1, 1) := by decide +kernel
theorem dX1_give_52 : decode cX1_give 52 = .ok (.invokevirtual 121, 3) := by decide +kernel
theorem dX1_give_55 : decode cX1_give 55 = .ok (.ifCond .ne 6, 3) := by decide +kernel
theorem dX1_give_58 : decode cX1_give 58 = .ok (.bipush (-3), 2) := by decide +kernel
theorem dX1_give_60 : decode cX1_give 60 = .ok (.ireturn, 1) := by decide +kernel
theorem dX1_give_61 : decode cX1_give 61 = .ok (.aload_n 0, 1) := by decide +kernel
theorem dX1_give_62 : decode cX1_give 62 = .ok (.getfield 16, 3) := by decide +kernel
theorem dX1_give_65 : decode cX1_give 65 = .ok (.iload 5, 2) := by decide +kernel
theorem dX1_give_67 : decode cX1_give 67 = .ok (.dup2, 1) := by decide +kernel
theorem dX1_give_68 : decode cX1_give 68 = .ok (.iaload, 1) := by decide +kernel
theorem dX1_give_69 : decode cX1_give 69 = .ok (.iconst 1, 1) := by decide +kernel
theorem dX1_give_70 : decode cX1_give 70 = .ok (.iadd, 1) := by decide +kernel
theorem dX1_give_71 : decode cX1_give 71 = .ok (.iastore, 1) := by decide +kernel
theorem dX1_give_72 : decode cX1_give 72 = .ok (.aload_n 0, 1) := by decide +kernel
theorem dX1_give_73 : decode cX1_give 73 = .ok (.iload_n 2, 1) := by decide +kernel
theorem dX1_give_74 : decode cX1_give 74 = .ok (.iload_n 3, 1) := by decide +kernel
theorem dX1_give_75 : decode cX1_give 75 = .ok (.invokevirtual 109, 3) := by decide +kernel
theorem dX1_give_78 : decode cX1_give 78 = .ok (.astore 6, 2) := by decide +kernel
theorem dX1_give_80 : decode cX1_give 80 = .ok (.aload 6, 2) := by decide +kernel
theorem dX1_give_82 : decode cX1_give 82 = .ok (.ifnull 11, 3) := by decide +kernel
theorem dX1_give_85 : decode cX1_give 85 = .ok (.aload 6, 2) := by decide +kernel
theorem dX1_give_87 : decode cX1_give 87 = .ok (.iload 4, 2) := by decide +kernel
theorem dX1_give_89 : decode cX1_give 89 = .ok (.iconst 1, 1) := by decide +kernel
theorem dX1_give_90 : decode cX1_give 90 = .ok (.invokevirtual 124, 3) := by decide +kernel
theorem dX1_give_93 : decode cX1_give 93 = .ok (.iconst 2, 1) := by decide +kernel
theorem dX1_give_94 : decode cX1_give 94 = .ok (.ireturn, 1) := by decide +kernel
set_option maxRecDepth 20000 in
theorem ggX1_trim_X1_requireSubject : GoodIn wsX1_trim wsX1_requireSubject := goodIn_ca (goodIn_r _ [5, 6, 7] (by decide +kernel) (by decide +kernel)) (goodIn_sub (fun _ h => List.mem_cons_of_mem _ (List.mem_append_right _ h)) (by decide +kernel))
set_option maxRecDepth 20000 in
theorem gX1_trim_X1_requireSubject : GoodIn wsX1_trim (va_wsS RX1 47 yX1_requireSubject wsX1_requireSubject) := goodIn_app (goodIn_of _ (by decide +kernel)) ggX1_trim_X1_requireSubject
set_option maxRecDepth 20000 in
theorem ggX1_trim_X1_requireNumber : GoodIn wsX1_trim wsX1_requireNumber := goodIn_ca (goodIn_r _ [10, 6, 7] (by decide +kernel) (by decide +kernel)) (goodIn_sub (fun _ h => List.mem_cons_of_mem _ (List.mem_append_right _ h)) (by decide +kernel))
set_option maxRecDepth 20000 in
theorem gX1_trim_X1_requireNumber : GoodIn wsX1_trim (va_wsS RX1 103 yX1_requireNumber wsX1_requireNumber) := goodIn_app (goodIn_of _ (by decide +kernel)) ggX1_trim_X1_requireNumber
set_option maxRecDepth 20000 in
theorem ggX1_trim_X1_requireAtMost : GoodIn wsX1_trim wsX1_requireAtMost := goodIn_ca (goodIn_r _ [13, 6, 7] (by decide +kernel) (by decide +kernel)) (goodIn_sub (fun _ h => List.mem_cons_of_mem _ (List.mem_append_right _ h)) (by decide +kernel))
set_option maxRecDepth 20000 in
theorem gX1_trim_X1_requireAtMost : GoodIn wsX1_trim (va_wsS RX1 54 yX1_requireAtMost wsX1_requireAtMost) := goodIn_app (goodIn_of _ (by decide +kernel)) ggX1_trim_X1_requireAtMost
set_option maxRecDepth 20000 in
theorem ggX1_trim_X1_forgetSeen : GoodIn wsX1_trim wsX1_forgetSeen := goodIn_r _ [17, 18, 63, 64, 65, 66, 67, 68, 69, 70] (by decide +kernel) (by decide +kernel)
set_option maxRecDepth 20000 in
theorem gX1_trim_X1_forgetSeen : GoodIn wsX1_trim (wsV RX1 100 RX1 yX1_forgetSeen wsX1_forgetSeen) := goodIn_app (goodIn_of _ (by decide +kernel)) ggX1_trim_X1_forgetSeen
set_option maxRecDepth 20000 in
theorem ggX1_trim_X1_find : GoodIn wsX1_trim wsX1_find := goodIn_r _ [22, 23, 24, 25, 26, 4, 27, 28, 29, 30, 31, 32, 33, 34, 35, 36, 37, 38, 39, 40, 41, 42, 43, 44, 45, 46, 47, 48, 49, 50, 51, 52, 53, 54, 55, 63, 64, 65, 66, 67, 68, 69, 70, 71, 72, 73, 74, 75, 76, 77, 78, 79] (by decide +kernel) (by decide +kernel)
set_option maxRecDepth 20000 in
theorem gX1_trim_X1_find : GoodIn wsX1_trim (wsV RX1 109 RX1 yX1_find wsX1_find) := goodIn_app (goodIn_of _ (by decide +kernel)) ggX1_trim_X1_find
set_option maxRecDepth 20000 in
theorem ggX1_trim_X0_cutTo : GoodIn wsX1_trim wsX0_cutTo := goodIn_r _ [60, 61, 62, 71, 72, 73, 74, 75, 76] (by decide +kernel) (by decide +kernel)
set_option maxRecDepth 20000 in
theorem gX1_trim_X0_cutTo : GoodIn wsX1_trim (wsV RX1 128 RX0 yX0_cutTo wsX0_cutTo) := goodIn_app (goodIn_of _ (by decide +kernel)) ggX1_trim_X0_cutTo
theorem dX1_trim_0 : decode cX1_trim 0 = .ok (.iload_n 1, 1) := by decide +kernel
theorem dX1_trim_1 : decode cX1_trim 1 = .ok (.invokestatic 47, 3) := by decide +kernel
theorem dX1_trim_4 : decode cX1_trim 4 = .ok (.iload_n 2, 1) := by decide +kernel
theorem dX1_trim_5 : decode cX1_trim 5 = .ok (.invokestatic 103, 3) := by decide +kernel
theorem dX1_trim_8 : decode cX1_trim 8 = .ok (.bipush 24, 2) := by decide +kernel
theorem dX1_trim_10 : decode cX1_trim 10 = .ok (.iload_n 3, 1) := by decide +kernel
theorem dX1_trim_11 : decode cX1_trim 11 = .ok (.invokestatic 54, 3) := by decide +kernel
theorem dX1_trim_14 : decode cX1_trim 14 = .ok (.aload_n 0, 1) := by decide +kernel
theorem dX1_trim_15 : decode cX1_trim 15 = .ok (.iload_n 1, 1) := by decide +kernel
theorem dX1_trim_16 : decode cX1_trim 16 = .ok (.invokevirtual 100, 3) := by decide +kernel
theorem dX1_trim_19 : decode cX1_trim 19 = .ok (.aload_n 0, 1) := by decide +kernel
theorem dX1_trim_20 : decode cX1_trim 20 = .ok (.getfield 9, 3) := by decide +kernel
theorem dX1_trim_23 : decode cX1_trim 23 = .ok (.iload_n 1, 1) := by decide +kernel
theorem dX1_trim_24 : decode cX1_trim 24 = .ok (.iaload, 1) := by decide +kernel
theorem dX1_trim_25 : decode cX1_trim 25 = .ok (.istore 4, 2) := by decide +kernel
theorem dX1_trim_27 : decode cX1_trim 27 = .ok (.iload 4, 2) := by decide +kernel
theorem dX1_trim_29 : decode cX1_trim 29 = .ok (.iconst (-1), 1) := by decide +kernel
theorem dX1_trim_30 : decode cX1_trim 30 = .ok (.if_icmp .ne 5, 3) := by decide +kernel
theorem dX1_trim_33 : decode cX1_trim 33 = .ok (.iconst (-1), 1) := by decide +kernel
theorem dX1_trim_34 : decode cX1_trim 34 = .ok (.ireturn, 1) := by decide +kernel
theorem dX1_trim_35 : decode cX1_trim 35 = .ok (.aload_n 0, 1) := by decide +kernel
theorem dX1_trim_36 : decode cX1_trim 36 = .ok (.iload 4, 2) := by decide +kernel
theorem dX1_trim_38 : decode cX1_trim 38 = .ok (.iload_n 2, 1) := by decide +kernel
theorem dX1_trim_39 : decode cX1_trim 39 = .ok (.invokevirtual 109, 3) := by decide +kernel
theorem dX1_trim_42 : decode cX1_trim 42 = .ok (.astore 5, 2) := by decide +kernel
theorem dX1_trim_44 : decode cX1_trim 44 = .ok (.aload 5, 2) := by decide +kernel
theorem dX1_trim_46 : decode cX1_trim 46 = .ok (.ifnonnull 7, 3) := by decide +kernel
theorem dX1_trim_49 : decode cX1_trim 49 = .ok (.iconst 0, 1) := by decide +kernel
theorem dX1_trim_50 : decode cX1_trim 50 = .ok (.goto 9, 3) := by decide +kernel
theorem dX1_trim_53 : decode cX1_trim 53 = .ok (.aload 5, 2) := by decide +kernel
theorem dX1_trim_55 : decode cX1_trim 55 = .ok (.iload_n 3, 1) := by decide +kernel
theorem dX1_trim_56 : decode cX1_trim 56 = .ok (.invokevirtual 128, 3) := by decide +kernel
theorem dX1_trim_59 : decode cX1_trim 59 = .ok (.ireturn, 1) := by decide +kernel
set_option maxRecDepth 20000 in
theorem ggX1_remove_X1_requireSubject : GoodIn wsX1_remove wsX1_requireSubject := goodIn_ca (goodIn_r _ [6, 7, 8] (by decide +kernel) (by decide +kernel)) (goodIn_sub (fun _ h => List.mem_cons_of_mem _ (List.mem_append_right _ h)) (by decide +kernel))
set_option maxRecDepth 20000 in
theorem gX1_remove_X1_requireSubject : GoodIn wsX1_remove (va_wsS RX1 47 yX1_requireSubject wsX1_requireSubject) := goodIn_app (goodIn_of _ (by decide +kernel)) ggX1_remove_X1_requireSubject
set_option maxRecDepth 20000 in
theorem ggX1_remove_X1_requireNumber : GoodIn wsX1_remove wsX1_requireNumber := goodIn_ca (goodIn_r _ [11, 7, 8] (by decide +kernel) (by decide +kernel)) (goodIn_sub (fun _ h => List.mem_cons_of_mem _ (List.mem_append_right _ h)) (by decide +kernel))
set_option maxRecDepth 20000 in
theorem gX1_remove_X1_requireNumber : GoodIn wsX1_remove (va_wsS RX1 103 yX1_requireNumber wsX1_requireNumber) := goodIn_app (goodIn_of _ (by decide +kernel)) ggX1_remove_X1_requireNumber
set_option maxRecDepth 20000 in
theorem ggX1_remove_X1_forgetSeen : GoodIn wsX1_remove wsX1_forgetSeen := goodIn_r _ [15, 16, 63, 64, 65, 66, 67, 68, 69, 70] (by decide +kernel) (by decide +kernel)
set_option maxRecDepth 20000 in
theorem gX1_remove_X1_forgetSeen : GoodIn wsX1_remove (wsV RX1 100 RX1 yX1_forgetSeen wsX1_forgetSeen) := goodIn_app (goodIn_of _ (by decide +kernel)) ggX1_remove_X1_forgetSeen
set_option maxRecDepth 20000 in
theorem ggX1_remove_X1_addressOf : GoodIn wsX1_remove wsX1_addressOf := goodIn_r _ [19] (by decide +kernel) (by decide +kernel)
set_option maxRecDepth 20000 in
theorem gX1_remove_X1_addressOf : GoodIn wsX1_remove (va_wsS RX1 132 yX1_addressOf wsX1_addressOf) := goodIn_app (goodIn_of _ (by decide +kernel)) ggX1_remove_X1_addressOf
set_option maxRecDepth 20000 in
theorem ggX1_remove_X1_placeOf : GoodIn wsX1_remove wsX1_placeOf := goodIn_r _ [23, 2, 24, 25, 26, 27, 28, 29, 30, 31, 32, 33, 34, 35, 36, 37, 38, 39, 40, 41, 42, 43, 44, 45, 46, 47, 48, 63, 64, 65, 66, 67, 68, 69, 70, 71, 72, 73, 74, 75, 76, 77, 78, 79] (by decide +kernel) (by decide +kernel)
set_option maxRecDepth 20000 in
theorem gX1_remove_X1_placeOf : GoodIn wsX1_remove (wsV RX1 136 RX1 yX1_placeOf wsX1_placeOf) := goodIn_app (goodIn_of _ (by decide +kernel)) ggX1_remove_X1_placeOf
set_option maxRecDepth 20000 in
theorem ggX1_remove_Jx4a65c_remove_915e3 : GoodIn wsX1_remove wsJx4a65c_remove_915e3 := goodIn_r _ [52, 31, 48, 36, 37, 38, 39, 40, 41, 42, 43, 53, 54, 55, 29, 56, 57, 58, 59, 60, 61, 62, 77, 78, 79] (by decide +kernel) (by decide +kernel)
set_option maxRecDepth 20000 in
theorem gX1_remove_Jx4a65c_remove_915e3 : GoodIn wsX1_remove (wsV RX1 139 RJx4a65c yJx4a65c_remove_915e3 wsJx4a65c_remove_915e3) := goodIn_app (goodIn_of _ (by decide +kernel)) ggX1_remove_Jx4a65c_remove_915e3
theorem dX1_remove_0 : decode cX1_remove 0 = .ok (.iload_n 1, 1) := by decide +kernel
theorem dX1_remove_1 : decode cX1_remove 1 = .ok (.invokestatic 47, 3) := by decide +kernel
theorem dX1_remove_4 : decode cX1_remove 4 = .ok (.iload_n 2, 1) := by decide +kernel
theorem dX1_remove_5 : decode cX1_remove 5 = .ok (.invokestatic 103, 3) := by decide +kernel
theorem dX1_remove_8 : decode cX1_remove 8 = .ok (.aload_n 0, 1) := by decide +kernel
theorem dX1_remove_9 : decode cX1_remove 9 = .ok (.iload_n 1, 1) := by decide +kernel
theorem dX1_remove_10 : decode cX1_remove 10 = .ok (.invokevirtual 100, 3) := by decide +kernel
theorem dX1_remove_13 : decode cX1_remove 13 = .ok (.aload_n 0, 1) := by decide +kernel
theorem dX1_remove_14 : decode cX1_remove 14 = .ok (.getfield 9, 3) := by decide +kernel
theorem dX1_remove_17 : decode cX1_remove 17 = .ok (.iload_n 1, 1) := by decide +kernel
theorem dX1_remove_18 : decode cX1_remove 18 = .ok (.iaload, 1) := by decide +kernel
theorem dX1_remove_19 : decode cX1_remove 19 = .ok (.istore_n 3, 1) := by decide +kernel
theorem dX1_remove_20 : decode cX1_remove 20 = .ok (.iload_n 3, 1) := by decide +kernel
theorem dX1_remove_21 : decode cX1_remove 21 = .ok (.iconst (-1), 1) := by decide +kernel
theorem dX1_remove_22 : decode cX1_remove 22 = .ok (.if_icmp .ne 5, 3) := by decide +kernel
theorem dX1_remove_25 : decode cX1_remove 25 = .ok (.iconst (-1), 1) := by decide +kernel
theorem dX1_remove_26 : decode cX1_remove 26 = .ok (.ireturn, 1) := by decide +kernel
theorem dX1_remove_27 : decode cX1_remove 27 = .ok (.aload_n 0, 1) := by decide +kernel
theorem dX1_remove_28 : decode cX1_remove 28 = .ok (.iload_n 3, 1) := by decide +kernel
theorem dX1_remove_29 : decode cX1_remove 29 = .ok (.iload_n 2, 1) := by decide +kernel
theorem dX1_remove_30 : decode cX1_remove 30 = .ok (.invokestatic 132, 3) := by decide +kernel
theorem dX1_remove_33 : decode cX1_remove 33 = .ok (.invokevirtual 136, 3) := by decide +kernel
theorem dX1_remove_36 : decode cX1_remove 36 = .ok (.istore 4, 2) := by decide +kernel
theorem dX1_remove_38 : decode cX1_remove 38 = .ok (.iload 4, 2) := by decide +kernel
theorem dX1_remove_40 : decode cX1_remove 40 = .ok (.iconst (-1), 1) := by decide +kernel
theorem dX1_remove_41 : decode cX1_remove 41 = .ok (.if_icmp .ne 5, 3) := by decide +kernel
theorem dX1_remove_44 : decode cX1_remove 44 = .ok (.iconst 0, 1) := by decide +kernel
theorem dX1_remove_45 : decode cX1_remove 45 = .ok (.ireturn, 1) := by decide +kernel
theorem dX1_remove_46 : decode cX1_remove 46 = .ok (.aload_n 0, 1) := by decide +kernel
theorem dX1_remove_47 : decode cX1_remove 47 = .ok (.getfield 22, 3) := by decide +kernel
theorem dX1_remove_50 : decode cX1_remove 50 = .ok (.iload 4, 2) := by decide +kernel
theorem dX1_remove_52 : decode cX1_remove 52 = .ok (.invokevirtual 139, 3) := by decide +kernel
theorem dX1_remove_55 : decode cX1_remove 55 = .ok (.pop, 1) := by decide +kernel
theorem dX1_remove_56 : decode cX1_remove 56 = .ok (.iconst 1, 1) := by decide +kernel
theorem dX1_remove_57 : decode cX1_remove 57 = .ok (.ireturn, 1) := by decide +kernel
set_option maxRecDepth 20000 in
theorem ggX1_read_X1_requireSubject : GoodIn wsX1_read wsX1_requireSubject := goodIn_ca (goodIn_r _ [6, 7, 8] (by decide +kernel) (by decide +kernel)) (goodIn_sub (fun _ h => List.mem_cons_of_mem _ (List.mem_append_right _ h)) (by decide +kernel))
set_option maxRecDepth 20000 in
theorem gX1_read_X1_requireSubject : GoodIn wsX1_read (va_wsS RX1 47 yX1_requireSubject wsX1_requireSubject) := goodIn_app (goodIn_of _ (by decide +kernel)) ggX1_read_X1_requireSubject
set_option maxRecDepth 20000 in
theorem ggX1_read_X1_requireFile : GoodIn wsX1_read wsX1_requireFile := goodIn_ca (goodIn_r _ [11, 12, 13, 5, 14, 7, 8, 15, 16, 17] (by decide +kernel) (by decide +kernel)) (goodIn_sub (fun _ h => List.mem_cons_of_mem _ (List.mem_append_right _ h)) (by decide +kernel))
set_option maxRecDepth 20000 in
theorem gX1_read_X1_requireFile : GoodIn wsX1_read (va_wsS RX1 88 yX1_requireFile wsX1_requireFile) := goodIn_app (goodIn_of _ (by decide +kernel)) ggX1_read_X1_requireFile
set_option maxRecDepth 20000 in
theorem ggX1_read_X1_requireCell : GoodIn wsX1_read wsX1_requireCell := goodIn_ca (goodIn_r _ [20, 7, 8] (by decide +kernel) (by decide +kernel)) (goodIn_sub (fun _ h => List.mem_cons_of_mem _ (List.mem_append_right _ h)) (by decide +kernel))
set_option maxRecDepth 20000 in
theorem gX1_read_X1_requireCell : GoodIn wsX1_read (va_wsS RX1 106 yX1_requireCell wsX1_requireCell) := goodIn_app (goodIn_of _ (by decide +kernel)) ggX1_read_X1_requireCell
set_option maxRecDepth 20000 in
theorem ggX1_read_X1_forgetSeen : GoodIn wsX1_read wsX1_forgetSeen := goodIn_r _ [24, 25, 97, 98, 99, 100, 101, 102, 103, 104] (by decide +kernel) (by decide +kernel)
set_option maxRecDepth 20000 in
theorem gX1_read_X1_forgetSeen : GoodIn wsX1_read (wsV RX1 100 RX1 yX1_forgetSeen wsX1_forgetSeen) := goodIn_app (goodIn_of _ (by decide +kernel)) ggX1_read_X1_forgetSeen
set_option maxRecDepth 20000 in
theorem ggX1_read_X1_verdictOnReading : GoodIn wsX1_read wsX1_verdictOnReading := goodIn_r _ [29, 30, 31, 32, 5, 33, 34, 35, 36, 37, 38, 39, 40, 41, 42, 43, 44, 45, 46, 47, 48, 97, 98, 99, 100, 101, 102, 103, 104] (by decide +kernel) (by decide +kernel)
set_option maxRecDepth 20000 in
theorem gX1_read_X1_verdictOnReading : GoodIn wsX1_read (wsV RX1 143 RX1 yX1_verdictOnReading wsX1_verdictOnReading) := goodIn_app (goodIn_of _ (by decide +kernel)) ggX1_read_X1_verdictOnReading
set_option maxRecDepth 20000 in
theorem ggX1_read_X1_find : GoodIn wsX1_read wsX1_find := goodIn_r _ [52, 53, 54, 55, 56, 5, 57, 58, 59, 60, 61, 62, 63, 64, 65, 66, 67, 68, 69, 70, 71, 72, 73, 74, 75, 76, 77, 78, 79, 80, 81, 82, 83, 84, 85, 97, 98, 99, 100, 101, 102, 103, 104, 91, 92, 93, 94, 95, 96, 105, 106, 107] (by decide +kernel) (by decide +kernel)
set_option maxRecDepth 20000 in
theorem gX1_read_X1_find : GoodIn wsX1_read (wsV RX1 109 RX1 yX1_find wsX1_find) := goodIn_app (goodIn_of _ (by decide +kernel)) ggX1_read_X1_find
set_option maxRecDepth 20000 in
theorem ggX1_read_X1_show : GoodIn wsX1_read wsX1_show := goodIn_r _ [89, 25, 90, 97, 98, 99, 100, 101, 102, 103, 104] (by decide +kernel) (by decide +kernel)
set_option maxRecDepth 20000 in
theorem gX1_read_X1_show : GoodIn wsX1_read (wsV RX1 146 RX1 yX1_show wsX1_show) := goodIn_app (goodIn_of _ (by decide +kernel)) ggX1_read_X1_show
theorem dX1_read_0 : decode cX1_read 0 = .ok (.iload_n 1, 1) := by decide +kernel
theorem dX1_read_1 : decode cX1_read 1 = .ok (.invokestatic 47, 3) := by decide +kernel
theorem dX1_read_4 : decode cX1_read 4 = .ok (.iload_n 2, 1) := by decide +kernel
theorem dX1_read_5 : decode cX1_read 5 = .ok (.iload_n 3, 1) := by decide +kernel
theorem dX1_read_6 : decode cX1_read 6 = .ok (.invokestatic 88, 3) := by decide +kernel
theorem dX1_read_9 : decode cX1_read 9 = .ok (.iload 4, 2) := by decide +kernel
theorem dX1_read_11 : decode cX1_read 11 = .ok (.invokestatic 106, 3) := by decide +kernel
theorem dX1_read_14 : decode cX1_read 14 = .ok (.aload_n 0, 1) := by decide +kernel
theorem dX1_read_15 : decode cX1_read 15 = .ok (.iload_n 1, 1) := by decide +kernel
theorem dX1_read_16 : decode cX1_read 16 = .ok (.invokevirtual 100, 3) := by decide +kernel
theorem dX1_read_19 : decode cX1_read 19 = .ok (.aload_n 0, 1) := by decide +kernel
theorem dX1_read_20 : decode cX1_read 20 = .ok (.iload_n 1, 1) := by decide +kernel
theorem dX1_read_21 : decode cX1_read 21 = .ok (.iload_n 2, 1) := by decide +kernel
theorem dX1_read_22 : decode cX1_read 22 = .ok (.invokevirtual 143, 3) := by decide +kernel
theorem dX1_read_25 : decode cX1_read 25 = .ok (.istore 5, 2) := by decide +kernel
theorem dX1_read_27 : decode cX1_read 27 = .ok (.iload 5, 2) := by decide +kernel
theorem dX1_read_29 : decode cX1_read 29 = .ok (.ifCond .eq 6, 3) := by decide +kernel
theorem dX1_read_32 : decode cX1_read 32 = .ok (.iload 5, 2) := by decide +kernel
theorem dX1_read_34 : decode cX1_read 34 = .ok (.ireturn, 1) := by decide +kernel
theorem dX1_read_35 : decode cX1_read 35 = .ok (.aload_n 0, 1) := by decide +kernel
theorem dX1_read_36 : decode cX1_read 36 = .ok (.iload_n 2, 1) := by decide +kernel
theorem dX1_read_37 : decode cX1_read 37 = .ok (.iload_n 3, 1) := by decide +kernel
theorem dX1_read_38 : decode cX1_read 38 = .ok (.invokevirtual 109, 3) := by decide +kernel
theorem dX1_read_41 : decode cX1_read 41 = .ok (.astore 6, 2) := by decide +kernel
theorem dX1_read_43 : decode cX1_read 43 = .ok (.aload 6, 2) := by decide +kernel
theorem dX1_read_45 : decode cX1_read 45 = .ok (.ifnull 13, 3) := by decide +kernel
theorem dX1_read_48 : decode cX1_read 48 = .ok (.iload 4, 2) := by decide +kernel
theorem dX1_read_50 : decode cX1_read 50 = .ok (.aload 6, 2) := by decide +kernel
theorem dX1_read_52 : decode cX1_read 52 = .ok (.getfield 113, 3) := by decide +kernel
theorem dX1_read_55 : decode cX1_read 55 = .ok (.if_icmp .lt 5, 3) := by decide +kernel
theorem dX1_read_58 : decode cX1_read 58 = .ok (.iconst 0, 1) := by decide +kernel
theorem dX1_read_59 : decode cX1_read 59 = .ok (.ireturn, 1) := by decide +kernel
theorem dX1_read_60 : decode cX1_read 60 = .ok (.aload_n 0, 1) := by decide +kernel
theorem dX1_read_61 : decode cX1_read 61 = .ok (.iload_n 1, 1) := by decide +kernel
theorem dX1_read_62 : decode cX1_read 62 = .ok (.aload 6, 2) := by decide +kernel
theorem dX1_read_64 : decode cX1_read 64 = .ok (.getfield 118, 3) := by decide +kernel
theorem dX1_read_67 : decode cX1_read 67 = .ok (.iload 4, 2) := by decide +kernel
theorem dX1_read_69 : decode cX1_read 69 = .ok (.iaload, 1) := by decide +kernel
theorem dX1_read_70 : decode cX1_read 70 = .ok (.invokevirtual 146, 3) := by decide +kernel
theorem dX1_read_73 : decode cX1_read 73 = .ok (.iconst 1, 1) := by decide +kernel
theorem dX1_read_74 : decode cX1_read 74 = .ok (.ireturn, 1) := by decide +kernel
set_option maxRecDepth 20000 in
theorem ggX1_size_X1_requireSubject : GoodIn wsX1_size wsX1_requireSubject := goodIn_ca (goodIn_r _ [5, 6, 7] (by decide +kernel) (by decide +kernel)) (goodIn_sub (fun _ h => List.mem_cons_of_mem _ (List.mem_append_right _ h)) (by decide +kernel))
set_option maxRecDepth 20000 in
theorem gX1_size_X1_requireSubject : GoodIn wsX1_size (va_wsS RX1 47 yX1_requireSubject wsX1_requireSubject) := goodIn_app (goodIn_of _ (by decide +kernel)) ggX1_size_X1_requireSubject
set_option maxRecDepth 20000 in
theorem ggX1_size_X1_requireFile : GoodIn wsX1_size wsX1_requireFile := goodIn_ca (goodIn_r _ [10, 11, 12, 4, 13, 6, 7, 14, 15, 16] (by decide +kernel) (by decide +kernel)) (goodIn_sub (fun _ h => List.mem_cons_of_mem _ (List.mem_append_right _ h)) (by decide +kernel))
set_option maxRecDepth 20000 in
theorem gX1_size_X1_requireFile : GoodIn wsX1_size (va_wsS RX1 88 yX1_requireFile wsX1_requireFile) := goodIn_app (goodIn_of _ (by decide +kernel)) ggX1_size_X1_requireFile
set_option maxRecDepth 20000 in
theorem ggX1_size_X1_forgetSeen : GoodIn wsX1_size wsX1_forgetSeen := goodIn_r _ [20, 21, 88, 89, 90, 91, 92, 93, 94, 95] (by decide +kernel) (by decide +kernel)
set_option maxRecDepth 20000 in
theorem gX1_size_X1_forgetSeen : GoodIn wsX1_size (wsV RX1 100 RX1 yX1_forgetSeen wsX1_forgetSeen) := goodIn_app (goodIn_of _ (by decide +kernel)) ggX1_size_X1_forgetSeen
set_option maxRecDepth 20000 in
theorem ggX1_size_X1_verdictOnReading : GoodIn wsX1_size wsX1_verdictOnReading := goodIn_r _ [25, 26, 27, 28, 4, 29, 30, 31, 32, 33, 34, 35, 36, 37, 38, 39, 40, 41, 42, 43, 44, 88, 89, 90, 91, 92, 93, 94, 95] (by decide +kernel) (by decide +kernel)
set_option maxRecDepth 20000 in
theorem gX1_size_X1_verdictOnReading : GoodIn wsX1_size (wsV RX1 143 RX1 yX1_verdictOnReading wsX1_verdictOnReading) := goodIn_app (goodIn_of _ (by decide +kernel)) ggX1_size_X1_verdictOnReading
set_option maxRecDepth 20000 in
theorem ggX1_size_X1_find : GoodIn wsX1_size wsX1_find := goodIn_r _ [48, 49, 50, 51, 52, 4, 53, 54, 55, 56, 57, 58, 59, 60, 61, 62, 63, 64, 65, 66, 67, 68, 69, 70, 71, 72, 73, 74, 75, 76, 77, 78, 79, 80, 81, 88, 89, 90, 91, 92, 93, 94, 95, 82, 83, 84, 85, 86, 87, 96, 97, 98] (by decide +kernel) (by decide +kernel)
set_option maxRecDepth 20000 in
theorem gX1_size_X1_find : GoodIn wsX1_size (wsV RX1 109 RX1 yX1_find wsX1_find) := goodIn_app (goodIn_of _ (by decide +kernel)) ggX1_size_X1_find
theorem dX1_size_0 : decode cX1_size 0 = .ok (.iload_n 1, 1) := by decide +kernel
theorem dX1_size_1 : decode cX1_size 1 = .ok (.invokestatic 47, 3) := by decide +kernel
theorem dX1_size_4 : decode cX1_size 4 = .ok (.iload_n 2, 1) := by decide +kernel
theorem dX1_size_5 : decode cX1_size 5 = .ok (.iload_n 3, 1) := by decide +kernel
theorem dX1_size_6 : decode cX1_size 6 = .ok (.invokestatic 88, 3) := by decide +kernel
theorem dX1_size_9 : decode cX1_size 9 = .ok (.aload_n 0, 1) := by decide +kernel
theorem dX1_size_10 : decode cX1_size 10 = .ok (.iload_n 1, 1) := by decide +kernel
theorem dX1_size_11 : decode cX1_size 11 = .ok (.invokevirtual 100, 3) := by decide +kernel
theorem dX1_size_14 : decode cX1_size 14 = .ok (.aload_n 0, 1) := by decide +kernel
theorem dX1_size_15 : decode cX1_size 15 = .ok (.iload_n 1, 1) := by decide +kernel
theorem dX1_size_16 : decode cX1_size 16 = .ok (.iload_n 2, 1) := by decide +kernel
theorem dX1_size_17 : decode cX1_size 17 = .ok (.invokevirtual 143, 3) := by decide +kernel
theorem dX1_size_20 : decode cX1_size 20 = .ok (.istore 4, 2) := by decide +kernel
theorem dX1_size_22 : decode cX1_size 22 = .ok (.iload 4, 2) := by decide +kernel
theorem dX1_size_24 : decode cX1_size 24 = .ok (.ifCond .eq 6, 3) := by decide +kernel
theorem dX1_size_27 : decode cX1_size 27 = .ok (.iload 4, 2) := by decide +kernel
theorem dX1_size_29 : decode cX1_size 29 = .ok (.ireturn, 1) := by decide +kernel
theorem dX1_size_30 : decode cX1_size 30 = .ok (.aload_n 0, 1) := by decide +kernel
theorem dX1_size_31 : decode cX1_size 31 = .ok (.iload_n 2, 1) := by decide +kernel
theorem dX1_size_32 : decode cX1_size 32 = .ok (.iload_n 3, 1) := by decide +kernel
theorem dX1_size_33 : decode cX1_size 33 = .ok (.invokevirtual 109, 3) := by decide +kernel
theorem dX1_size_36 : decode cX1_size 36 = .ok (.astore 5, 2) := by decide +kernel
theorem dX1_size_38 : decode cX1_size 38 = .ok (.aload 5, 2) := by decide +kernel
theorem dX1_size_40 : decode cX1_size 40 = .ok (.ifnonnull 7, 3) := by decide +kernel
theorem dX1_size_43 : decode cX1_size 43 = .ok (.iconst 0, 1) := by decide +kernel
theorem dX1_size_44 : decode cX1_size 44 = .ok (.goto 8, 3) := by decide +kernel
theorem dX1_size_47 : decode cX1_size 47 = .ok (.aload 5, 2) := by decide +kernel
theorem dX1_size_49 : decode cX1_size 49 = .ok (.getfield 113, 3) := by decide +kernel
theorem dX1_size_52 : decode cX1_size 52 = .ok (.ireturn, 1) := by decide +kernel
set_option maxRecDepth 20000 in
theorem ggX1_there_X1_requireSubject : GoodIn wsX1_there wsX1_requireSubject := goodIn_ca (goodIn_r _ [4, 5, 6] (by decide +kernel) (by decide +kernel)) (goodIn_sub (fun _ h => List.mem_cons_of_mem _ (List.mem_append_right _ h)) (by decide +kernel))
set_option maxRecDepth 20000 in
theorem gX1_there_X1_requireSubject : GoodIn wsX1_there (va_wsS RX1 47 yX1_requireSubject wsX1_requireSubject) := goodIn_app (goodIn_of _ (by decide +kernel)) ggX1_there_X1_requireSubject
set_option maxRecDepth 20000 in
theorem ggX1_there_X1_requireFile : GoodIn wsX1_there wsX1_requireFile := goodIn_ca (goodIn_r _ [9, 10, 11, 3, 12, 5, 6, 13, 14, 15] (by decide +kernel) (by decide +kernel)) (goodIn_sub (fun _ h => List.mem_cons_of_mem _ (List.mem_append_right _ h)) (by decide +kernel))
set_option maxRecDepth 20000 in
theorem gX1_there_X1_requireFile : GoodIn wsX1_there (va_wsS RX1 88 yX1_requireFile wsX1_requireFile) := goodIn_app (goodIn_of _ (by decide +kernel)) ggX1_there_X1_requireFile
set_option maxRecDepth 20000 in
theorem ggX1_there_X1_forgetSeen : GoodIn wsX1_there wsX1_forgetSeen := goodIn_r _ [19, 20, 81, 82, 83, 84, 85, 86, 87, 88] (by decide +kernel) (by decide +kernel)
set_option maxRecDepth 20000 in
theorem gX1_there_X1_forgetSeen : GoodIn wsX1_there (wsV RX1 100 RX1 yX1_forgetSeen wsX1_forgetSeen) := goodIn_app (goodIn_of _ (by decide +kernel)) ggX1_there_X1_forgetSeen
set_option maxRecDepth 20000 in
theorem ggX1_there_X1_verdictOnReading : GoodIn wsX1_there wsX1_verdictOnReading := goodIn_r _ [24, 25, 26, 27, 3, 28, 29, 30, 31, 32, 33, 34, 35, 36, 37, 38, 39, 40, 41, 42, 43, 81, 82, 83, 84, 85, 86, 87, 88] (by decide +kernel) (by decide +kernel)
set_option maxRecDepth 20000 in
theorem gX1_there_X1_verdictOnReading : GoodIn wsX1_there (wsV RX1 143 RX1 yX1_verdictOnReading wsX1_verdictOnReading) := goodIn_app (goodIn_of _ (by decide +kernel)) ggX1_there_X1_verdictOnReading
set_option maxRecDepth 20000 in
theorem ggX1_there_X1_find : GoodIn wsX1_there wsX1_find := goodIn_r _ [47, 48, 49, 50, 51, 3, 52, 53, 54, 55, 56, 57, 58, 59, 60, 61, 62, 63, 64, 65, 66, 67, 68, 69, 70, 71, 72, 73, 74, 75, 76, 77, 78, 79, 80, 81, 82, 83, 84, 85, 86, 87, 88, 89, 90, 91, 92, 93, 94, 95, 96, 97] (by decide +kernel) (by decide +kernel)
set_option maxRecDepth 20000 in
theorem gX1_there_X1_find : GoodIn wsX1_there (wsV RX1 109 RX1 yX1_find wsX1_find) := goodIn_app (goodIn_of _ (by decide +kernel)) ggX1_there_X1_find
theorem dX1_there_0 : decode cX1_there 0 = .ok (.iload_n 1, 1) := by decide +kernel
theorem dX1_there_1 : decode cX1_there 1 = .ok (.invokestatic 47, 3) := by decide +kernel
theorem dX1_there_4 : decode cX1_there 4 = .ok (.iload_n 2, 1) := by decide +kernel
theorem dX1_there_5 : decode cX1_there 5 = .ok (.iload_n 3, 1) := by decide +kernel
theorem dX1_there_6 : decode cX1_there 6 = .ok (.invokestatic 88, 3) := by decide +kernel
theorem dX1_there_9 : decode cX1_there 9 = .ok (.aload_n 0, 1) := by decide +kernel
theorem dX1_there_10 : decode cX1_there 10 = .ok (.iload_n 1, 1) := by decide +kernel
theorem dX1_there_11 : decode cX1_there 11 = .ok (.invokevirtual 100, 3) := by decide +kernel
theorem dX1_there_14 : decode cX1_there 14 = .ok (.aload_n 0, 1) := by decide +kernel
theorem dX1_there_15 : decode cX1_there 15 = .ok (.iload_n 1, 1) := by decide +kernel
theorem dX1_there_16 : decode cX1_there 16 = .ok (.iload_n 2, 1) := by decide +kernel
theorem dX1_there_17 : decode cX1_there 17 = .ok (.invokevirtual 143, 3) := by decide +kernel
theorem dX1_there_20 : decode cX1_there 20 = .ok (.istore 4, 2) := by decide +kernel
theorem dX1_there_22 : decode cX1_there 22 = .ok (.iload 4, 2) := by decide +kernel
theorem dX1_there_24 : decode cX1_there 24 = .ok (.ifCond .eq 6, 3) := by decide +kernel
theorem dX1_there_27 : decode cX1_there 27 = .ok (.iload 4, 2) := by decide +kernel
theorem dX1_there_29 : decode cX1_there 29 = .ok (.ireturn, 1) := by decide +kernel
theorem dX1_there_30 : decode cX1_there 30 = .ok (.aload_n 0, 1) := by decide +kernel
theorem dX1_there_31 : decode cX1_there 31 = .ok (.iload_n 2, 1) := by decide +kernel
theorem dX1_there_32 : decode cX1_there 32 = .ok (.iload_n 3, 1) := by decide +kernel
theorem dX1_there_33 : decode cX1_there 33 = .ok (.invokevirtual 109, 3) := by decide +kernel
theorem dX1_there_36 : decode cX1_there 36 = .ok (.ifnonnull 7, 3) := by decide +kernel
theorem dX1_there_39 : decode cX1_there 39 = .ok (.iconst 0, 1) := by decide +kernel
theorem dX1_there_40 : decode cX1_there 40 = .ok (.goto 4, 3) := by decide +kernel
theorem dX1_there_43 : decode cX1_there 43 = .ok (.iconst 1, 1) := by decide +kernel
theorem dX1_there_44 : decode cX1_there 44 = .ok (.ireturn, 1) := by decide +kernel
set_option maxRecDepth 20000 in
theorem ggX1_listed_X1_requireSubject : GoodIn wsX1_listed wsX1_requireSubject := goodIn_ca (goodIn_r _ [5, 6, 7] (by decide +kernel) (by decide +kernel)) (goodIn_sub (fun _ h => List.mem_cons_of_mem _ (List.mem_append_right _ h)) (by decide +kernel))
set_option maxRecDepth 20000 in
theorem gX1_listed_X1_requireSubject : GoodIn wsX1_listed (va_wsS RX1 47 yX1_requireSubject wsX1_requireSubject) := goodIn_app (goodIn_of _ (by decide +kernel)) ggX1_listed_X1_requireSubject
set_option maxRecDepth 20000 in
theorem ggX1_listed_X1_requireFile : GoodIn wsX1_listed wsX1_requireFile := goodIn_ca (goodIn_r _ [10, 11, 12, 4, 13, 6, 7, 14, 15, 16] (by decide +kernel) (by decide +kernel)) (goodIn_sub (fun _ h => List.mem_cons_of_mem _ (List.mem_append_right _ h)) (by decide +kernel))
set_option maxRecDepth 20000 in
theorem gX1_listed_X1_requireFile : GoodIn wsX1_listed (va_wsS RX1 88 yX1_requireFile wsX1_requireFile) := goodIn_app (goodIn_of _ (by decide +kernel)) ggX1_listed_X1_requireFile
set_option maxRecDepth 20000 in
theorem ggX1_listed_X1_forgetSeen : GoodIn wsX1_listed wsX1_forgetSeen := goodIn_r _ [20, 1, 86, 87, 88, 89, 90, 91, 92, 93] (by decide +kernel) (by decide +kernel)
set_option maxRecDepth 20000 in
theorem gX1_listed_X1_forgetSeen : GoodIn wsX1_listed (wsV RX1 100 RX1 yX1_forgetSeen wsX1_forgetSeen) := goodIn_app (goodIn_of _ (by decide +kernel)) ggX1_listed_X1_forgetSeen
set_option maxRecDepth 20000 in
theorem ggX1_listed_X1_verdictOnReading : GoodIn wsX1_listed wsX1_verdictOnReading := goodIn_r _ [24, 25, 26, 27, 4, 28, 29, 30, 31, 32, 33, 34, 35, 36, 37, 38, 39, 40, 41, 42, 43, 86, 87, 88, 89, 90, 91, 92, 93] (by decide +kernel) (by decide +kernel)
set_option maxRecDepth 20000 in
theorem gX1_listed_X1_verdictOnReading : GoodIn wsX1_listed (wsV RX1 143 RX1 yX1_verdictOnReading wsX1_verdictOnReading) := goodIn_app (goodIn_of _ (by decide +kernel)) ggX1_listed_X1_verdictOnReading
set_option maxRecDepth 20000 in
theorem ggX1_listed_X1_addressOf : GoodIn wsX1_listed wsX1_addressOf := goodIn_r _ [46] (by decide +kernel) (by decide +kernel)
set_option maxRecDepth 20000 in
theorem gX1_listed_X1_addressOf : GoodIn wsX1_listed (va_wsS RX1 132 yX1_addressOf wsX1_addressOf) := goodIn_app (goodIn_of _ (by decide +kernel)) ggX1_listed_X1_addressOf
set_option maxRecDepth 20000 in
theorem ggX1_listed_X1_showFilesIn : GoodIn wsX1_listed wsX1_showFilesIn := goodIn_r _ [50, 25, 51, 52, 53, 54, 55, 56, 57, 58, 59, 60, 61, 62, 63, 64, 65, 66, 67, 68, 69, 70, 71, 72, 73, 74, 75, 76, 77, 78, 79, 4, 80, 26, 27, 28, 29, 30, 31, 32, 33, 34, 35, 36, 37, 38, 39, 40, 41, 42, 43, 81, 82, 83, 84, 1, 85, 86, 87, 88, 89, 90, 91, 92, 93, 94, 95, 96, 97, 98, 99, 100, 101, 102] (by decide +kernel) (by decide +kernel)
set_option maxRecDepth 20000 in
theorem gX1_listed_X1_showFilesIn : GoodIn wsX1_listed (wsV RX1 149 RX1 yX1_showFilesIn wsX1_showFilesIn) := goodIn_app (goodIn_of _ (by decide +kernel)) ggX1_listed_X1_showFilesIn
theorem dX1_listed_0 : decode cX1_listed 0 = .ok (.iload_n 1, 1) := by decide +kernel
theorem dX1_listed_1 : decode cX1_listed 1 = .ok (.invokestatic 47, 3) := by decide +kernel
theorem dX1_listed_4 : decode cX1_listed 4 = .ok (.iload_n 2, 1) := by decide +kernel
theorem dX1_listed_5 : decode cX1_listed 5 = .ok (.iload_n 3, 1) := by decide +kernel
theorem dX1_listed_6 : decode cX1_listed 6 = .ok (.invokestatic 88, 3) := by decide +kernel
theorem dX1_listed_9 : decode cX1_listed 9 = .ok (.aload_n 0, 1) := by decide +kernel
theorem dX1_listed_10 : decode cX1_listed 10 = .ok (.iload_n 1, 1) := by decide +kernel
theorem dX1_listed_11 : decode cX1_listed 11 = .ok (.invokevirtual 100, 3) := by decide +kernel
theorem dX1_listed_14 : decode cX1_listed 14 = .ok (.aload_n 0, 1) := by decide +kernel
theorem dX1_listed_15 : decode cX1_listed 15 = .ok (.iload_n 1, 1) := by decide +kernel
theorem dX1_listed_16 : decode cX1_listed 16 = .ok (.iload_n 2, 1) := by decide +kernel
theorem dX1_listed_17 : decode cX1_listed 17 = .ok (.invokevirtual 143, 3) := by decide +kernel
theorem dX1_listed_20 : decode cX1_listed 20 = .ok (.istore 4, 2) := by decide +kernel
theorem dX1_listed_22 : decode cX1_listed 22 = .ok (.iload 4, 2) := by decide +kernel
theorem dX1_listed_24 : decode cX1_listed 24 = .ok (.ifCond .eq 6, 3) := by decide +kernel
theorem dX1_listed_27 : decode cX1_listed 27 = .ok (.iload 4, 2) := by decide +kernel
theorem dX1_listed_29 : decode cX1_listed 29 = .ok (.ireturn, 1) := by decide +kernel
theorem dX1_listed_30 : decode cX1_listed 30 = .ok (.aload_n 0, 1) := by decide +kernel
theorem dX1_listed_31 : decode cX1_listed 31 = .ok (.iload_n 2, 1) := by decide +kernel
theorem dX1_listed_32 : decode cX1_listed 32 = .ok (.iload_n 3, 1) := by decide +kernel
theorem dX1_listed_33 : decode cX1_listed 33 = .ok (.invokestatic 132, 3) := by decide +kernel
theorem dX1_listed_36 : decode cX1_listed 36 = .ok (.iload_n 1, 1) := by decide +kernel
theorem dX1_listed_37 : decode cX1_listed 37 = .ok (.invokevirtual 149, 3) := by decide +kernel
theorem dX1_listed_40 : decode cX1_listed 40 = .ok (.aload_n 0, 1) := by decide +kernel
theorem dX1_listed_41 : decode cX1_listed 41 = .ok (.getfield 38, 3) := by decide +kernel
theorem dX1_listed_44 : decode cX1_listed 44 = .ok (.iload_n 1, 1) := by decide +kernel
theorem dX1_listed_45 : decode cX1_listed 45 = .ok (.iaload, 1) := by decide +kernel
theorem dX1_listed_46 : decode cX1_listed 46 = .ok (.ireturn, 1) := by decide +kernel
set_option maxRecDepth 20000 in
theorem ggX1_release_X1_requireSubject : GoodIn wsX1_release wsX1_requireSubject := goodIn_ca (goodIn_r _ [6, 7, 8] (by decide +kernel) (by decide +kernel)) (goodIn_sub (fun _ h => List.mem_cons_of_mem _ (List.mem_append_right _ h)) (by decide +kernel))
set_option maxRecDepth 20000 in
theorem gX1_release_X1_requireSubject : GoodIn wsX1_release (va_wsS RX1 47 yX1_requireSubject wsX1_requireSubject) := goodIn_app (goodIn_of _ (by decide +kernel)) ggX1_release_X1_requireSubject
set_option maxRecDepth 20000 in
theorem ggX1_release_X1_requireFile : GoodIn wsX1_release wsX1_requireFile := goodIn_ca (goodIn_r _ [11, 12, 13, 5, 14, 7, 8, 15, 16, 17] (by decide +kernel) (by decide +kernel)) (goodIn_sub (fun _ h => List.mem_cons_of_mem _ (List.mem_append_right _ h)) (by decide +kernel))
set_option maxRecDepth 20000 in
theorem gX1_release_X1_requireFile : GoodIn wsX1_release (va_wsS RX1 88 yX1_requireFile wsX1_requireFile) := goodIn_app (goodIn_of _ (by decide +kernel)) ggX1_release_X1_requireFile
set_option maxRecDepth 20000 in
theorem ggX1_release_X1_requireLabel : GoodIn wsX1_release wsX1_requireLabel := goodIn_ca (goodIn_r _ [14, 7, 8] (by decide +kernel) (by decide +kernel)) (goodIn_sub (fun _ h => List.mem_cons_of_mem _ (List.mem_append_right _ h)) (by decide +kernel))
set_option maxRecDepth 20000 in
theorem gX1_release_X1_requireLabel : GoodIn wsX1_release (va_wsS RX1 51 yX1_requireLabel wsX1_requireLabel) := goodIn_app (goodIn_of _ (by decide +kernel)) ggX1_release_X1_requireLabel
set_option maxRecDepth 20000 in
theorem ggX1_release_X1_answerRelease : GoodIn wsX1_release wsX1_answerRelease := goodIn_r _ [21, 22, 23, 24, 25, 26, 27, 28, 5, 29, 30, 31, 32, 33, 34, 35, 36, 37, 38, 39, 40, 41, 42, 43, 44, 45, 46, 47, 48, 49, 50, 51, 52, 53, 54, 55, 56, 57, 58, 59, 60, 61, 62, 63, 64, 65, 66, 67, 68, 69, 70, 71, 72, 73, 74, 75, 76, 77, 78, 79, 80, 81, 82, 83, 84, 85, 86, 87, 88, 89, 90, 91, 92, 93, 94, 95, 96, 97, 98, 99, 100, 101, 102, 103, 104, 105, 106, 107, 108, 109, 110, 111, 112, 113, 114, 115, 116, 117, 118, 119, 120, 121, 122, 123, 124, 125, 126, 127, 128, 129, 130, 131, 132, 133, 134, 135, 136, 137, 138, 139, 140, 141, 142, 143, 144, 145, 146, 147, 148, 149, 150, 151, 152, 153, 154, 155, 156, 157, 158, 159, 160, 161, 162, 163, 164, 165, 166, 167, 168, 169, 170, 171, 172, 173, 174, 175, 176, 182, 183, 184, 185, 186, 187, 188, 189, 190, 191, 192, 193, 194, 195, 196, 197, 198] (by decide +kernel) (by decide +kernel)
set_option maxRecDepth 20000 in
theorem gX1_release_X1_answerRelease : GoodIn wsX1_release (wsV RX1 152 RX1 yX1_answerRelease wsX1_answerRelease) := goodIn_app (goodIn_of _ (by decide +kernel)) ggX1_release_X1_answerRelease
set_option maxRecDepth 20000 in
theorem ggX1_release_X1_forgetSeen : GoodIn wsX1_release wsX1_forgetSeen := goodIn_r _ [180, 181, 182, 183, 184, 185, 186, 187, 188, 189] (by decide +kernel) (by decide +kernel)
set_option maxRecDepth 20000 in
theorem gX1_release_X1_forgetSeen : GoodIn wsX1_release (wsV RX1 100 RX1 yX1_forgetSeen wsX1_forgetSeen) := goodIn_app (goodIn_of _ (by decide +kernel)) ggX1_release_X1_forgetSeen
theorem dX1_release_0 : decode cX1_release 0 = .ok (.iload_n 1, 1) := by decide +kernel
theorem dX1_release_1 : decode cX1_release 1 = .ok (.invokestatic 47, 3) := by decide +kernel
theorem dX1_release_4 : decode cX1_release 4 = .ok (.iload_n 2, 1) := by decide +kernel
theorem dX1_release_5 : decode cX1_release 5 = .ok (.iload_n 3, 1) := by decide +kernel
theorem dX1_release_6 : decode cX1_release 6 = .ok (.invokestatic 88, 3) := by decide +kernel
theorem dX1_release_9 : decode cX1_release 9 = .ok (.iload 4, 2) := by decide +kernel
theorem dX1_release_11 : decode cX1_release 11 = .ok (.invokestatic 51, 3) := by decide +kernel
theorem dX1_release_14 : decode cX1_release 14 = .ok (.aload_n 0, 1) := by decide +kernel
theorem dX1_release_15 : decode cX1_release 15 = .ok (.iload_n 1, 1) := by decide +kernel
theorem dX1_release_16 : decode cX1_release 16 = .ok (.iload_n 2, 1) := by decide +kernel
theorem dX1_release_17 : decode cX1_release 17 = .ok (.iload_n 3, 1) := by decide +kernel
theorem dX1_release_18 : decode cX1_release 18 = .ok (.iload 4, 2) := by decide +kernel
theorem dX1_release_20 : decode cX1_release 20 = .ok (.invokevirtual 152, 3) := by decide +kernel
theorem dX1_release_23 : decode cX1_release 23 = .ok (.istore 5, 2) := by decide +kernel
theorem dX1_release_25 : decode cX1_release 25 = .ok (.iload 5, 2) := by decide +kernel
theorem dX1_release_27 : decode cX1_release 27 = .ok (.bipush (-4), 2) := by decide +kernel
theorem dX1_release_29 : decode cX1_release 29 = .ok (.if_icmp .ne 13, 3) := by decide +kernel
theorem dX1_release_32 : decode cX1_release 32 = .ok (.new 73, 3) := by decide +kernel
theorem dX1_release_35 : decode cX1_release 35 = .ok (.dup, 1) := by decide +kernel
theorem dX1_release_36 : decode cX1_release 36 = .ok (.ldc 98, 2) := by decide +kernel
theorem dX1_release_38 : decode cX1_release 38 = .ok (.invokespecial 77, 3) := by decide +kernel
theorem dX1_release_41 : decode cX1_release 41 = .ok (.athrow, 1) := by decide +kernel
theorem dX1_release_42 : decode cX1_release 42 = .ok (.aload_n 0, 1) := by decide +kernel
theorem dX1_release_43 : decode cX1_release 43 = .ok (.iload_n 1, 1) := by decide +kernel
theorem dX1_release_44 : decode cX1_release 44 = .ok (.invokevirtual 100, 3) := by decide +kernel
theorem dX1_release_47 : decode cX1_release 47 = .ok (.iload 5, 2) := by decide +kernel
theorem dX1_release_49 : decode cX1_release 49 = .ok (.ireturn, 1) := by decide +kernel
set_option maxRecDepth 20000 in
theorem ggX1_seen_X1_requireSubject : GoodIn wsX1_seen wsX1_requireSubject := goodIn_ca (goodIn_r _ [6, 7, 8] (by decide +kernel) (by decide +kernel)) (goodIn_sub (fun _ h => List.mem_cons_of_mem _ (List.mem_append_right _ h)) (by decide +kernel))
set_option maxRecDepth 20000 in
theorem gX1_seen_X1_requireSubject : GoodIn wsX1_seen (va_wsS RX1 47 yX1_requireSubject wsX1_requireSubject) := goodIn_app (goodIn_of _ (by decide +kernel)) ggX1_seen_X1_requireSubject
theorem dX1_seen_0 : decode cX1_seen 0 = .ok (.iload_n 1, 1) := by decide +kernel
theorem dX1_seen_1 : decode cX1_seen 1 = .ok (.invokestatic 47, 3) := by decide +kernel
theorem dX1_seen_4 : decode cX1_seen 4 = .ok (.iload_n 2, 1) := by decide +kernel
theorem dX1_seen_5 : decode cX1_seen 5 = .ok (.ifCond .lt 24, 3) := by decide +kernel
theorem dX1_seen_8 : decode cX1_seen 8 = .ok (.iload_n 2, 1) := by decide +kernel
theorem dX1_seen_9 : decode cX1_seen 9 = .ok (.aload_n 0, 1) := by decide +kernel
theorem dX1_seen_10 : decode cX1_seen 10 = .ok (.getfield 38, 3) := by decide +kernel
theorem dX1_seen_13 : decode cX1_seen 13 = .ok (.iload_n 1, 1) := by decide +kernel
theorem dX1_seen_14 : decode cX1_seen 14 = .ok (.iaload, 1) := by decide +kernel
theorem dX1_seen_15 : decode cX1_seen 15 = .ok (.if_icmp .ge 14, 3) := by decide +kernel
theorem dX1_seen_18 : decode cX1_seen 18 = .ok (.aload_n 0, 1) := by decide +kernel
theorem dX1_seen_19 : decode cX1_seen 19 = .ok (.getfield 35, 3) := by decide +kernel
theorem dX1_seen_22 : decode cX1_seen 22 = .ok (.iload_n 1, 1) := by decide +kernel
theorem dX1_seen_23 : decode cX1_seen 23 = .ok (.aaload, 1) := by decide +kernel
theorem dX1_seen_24 : decode cX1_seen 24 = .ok (.iload_n 2, 1) := by decide +kernel
theorem dX1_seen_25 : decode cX1_seen 25 = .ok (.iaload, 1) := by decide +kernel
theorem dX1_seen_26 : decode cX1_seen 26 = .ok (.goto 4, 3) := by decide +kernel
theorem dX1_seen_29 : decode cX1_seen 29 = .ok (.iconst 0, 1) := by decide +kernel
theorem dX1_seen_30 : decode cX1_seen 30 = .ok (.ireturn, 1) := by decide +kernel
set_option maxRecDepth 20000 in
theorem ggX1_told_X1_requireLabel : GoodIn wsX1_told wsX1_requireLabel := goodIn_ca (goodIn_r _ [8, 1, 2] (by decide +kernel) (by decide +kernel)) (goodIn_sub (fun _ h => List.mem_cons_of_mem _ (List.mem_append_right _ h)) (by decide +kernel))
set_option maxRecDepth 20000 in
theorem gX1_told_X1_requireLabel : GoodIn wsX1_told (va_wsS RX1 51 yX1_requireLabel wsX1_requireLabel) := goodIn_app (goodIn_of _ (by decide +kernel)) ggX1_told_X1_requireLabel
set_option maxRecDepth 20000 in
theorem ggX1_told_X1_usedBy : GoodIn wsX1_told wsX1_usedBy := goodIn_r _ [12, 3, 13, 14, 15, 16, 17, 18, 19, 20, 21, 22, 23, 24, 25, 26, 27, 28, 29, 30, 31, 32, 33, 34, 35, 36, 37, 38, 39, 40, 7, 41, 42, 43, 44, 45, 46, 47, 48, 49, 50, 51, 52, 53, 54, 55, 56, 61, 62, 63, 64, 65, 66, 67, 68, 69, 70, 71, 72, 73, 74, 75, 76, 77] (by decide +kernel) (by decide +kernel)
set_option maxRecDepth 20000 in
theorem gX1_told_X1_usedBy : GoodIn wsX1_told (wsV RX1 155 RX1 yX1_usedBy wsX1_usedBy) := goodIn_app (goodIn_of _ (by decide +kernel)) ggX1_told_X1_usedBy
set_option maxRecDepth 20000 in
theorem ggX1_told_X1_countFilesAt : GoodIn wsX1_told wsX1_countFilesAt := goodIn_r _ [60, 13, 14, 15, 16, 17, 18, 19, 20, 21, 22, 23, 24, 25, 26, 27, 28, 29, 30, 31, 32, 33, 34, 35, 36, 37, 38, 39, 40, 7, 41, 61, 62, 63, 64, 65, 66, 67, 68, 69, 70, 71, 72, 73, 74, 75, 76, 77] (by decide +kernel) (by decide +kernel)
set_option maxRecDepth 20000 in
theorem gX1_told_X1_countFilesAt : GoodIn wsX1_told (wsV RX1 158 RX1 yX1_countFilesAt wsX1_countFilesAt) := goodIn_app (goodIn_of _ (by decide +kernel)) ggX1_told_X1_countFilesAt
theorem dX1_told_0 : decode cX1_told 0 = .ok (.iload_n 1, 1) := by decide +kernel
theorem dX1_told_1 : decode cX1_told 1 = .ok (.invokestatic 51, 3) := by decide +kernel
theorem dX1_told_4 : decode cX1_told 4 = .ok (.iload_n 2, 1) := by decide +kernel
theorem dX1_told_5 : decode cX1_told 5 = .ok (.tableswitch 57 0 3 #[31, 37, 44, 51], 31) := by decide +kernel
theorem dX1_told_36 : decode cX1_told 36 = .ok (.aload_n 0, 1) := by decide +kernel
theorem dX1_told_37 : decode cX1_told 37 = .ok (.iload_n 1, 1) := by decide +kernel
theorem dX1_told_38 : decode cX1_told 38 = .ok (.invokevirtual 155, 3) := by decide +kernel
theorem dX1_told_41 : decode cX1_told 41 = .ok (.ireturn, 1) := by decide +kernel
theorem dX1_told_42 : decode cX1_told 42 = .ok (.aload_n 0, 1) := by decide +kernel
theorem dX1_told_43 : decode cX1_told 43 = .ok (.getfield 16, 3) := by decide +kernel
theorem dX1_told_46 : decode cX1_told 46 = .ok (.iload_n 1, 1) := by decide +kernel
theorem dX1_told_47 : decode cX1_told 47 = .ok (.iaload, 1) := by decide +kernel
theorem dX1_told_48 : decode cX1_told 48 = .ok (.ireturn, 1) := by decide +kernel
theorem dX1_told_49 : decode cX1_told 49 = .ok (.aload_n 0, 1) := by decide +kernel
theorem dX1_told_50 : decode cX1_told 50 = .ok (.getfield 13, 3) := by decide +kernel
theorem dX1_told_53 : decode cX1_told 53 = .ok (.iload_n 1, 1) := by decide +kernel
theorem dX1_told_54 : decode cX1_told 54 = .ok (.iaload, 1) := by decide +kernel
theorem dX1_told_55 : decode cX1_told 55 = .ok (.ireturn, 1) := by decide +kernel
theorem dX1_told_56 : decode cX1_told 56 = .ok (.aload_n 0, 1) := by decide +kernel
theorem dX1_told_57 : decode cX1_told 57 = .ok (.iload_n 1, 1) := by decide +kernel
theorem dX1_told_58 : decode cX1_told 58 = .ok (.invokevirtual 158, 3) := by decide +kernel
theorem dX1_told_61 : decode cX1_told 61 = .ok (.ireturn, 1) := by decide +kernel
theorem dX1_told_62 : decode cX1_told 62 = .ok (.new 58, 3) := by decide +kernel
theorem dX1_told_65 : decode cX1_told 65 = .ok (.dup, 1) := by decide +kernel
theorem dX1_told_66 : decode cX1_told 66 = .ok (.ldc 161, 2) := by decide +kernel
theorem dX1_told_68 : decode cX1_told 68 = .ok (.invokespecial 62, 3) := by decide +kernel
theorem dX1_told_71 : decode cX1_told 71 = .ok (.athrow, 1) := by decide +kernel
theorem dX1_requireSubject_0 : decode cX1_requireSubject 0 = .ok (.iload_n 0, 1) := by decide +kernel
theorem dX1_requireSubject_1 : decode cX1_requireSubject 1 = .ok (.ifCond .lt 9, 3) := by decide +kernel
theorem dX1_requireSubject_4 : decode cX1_requireSubject 4 = .ok (.iload_n 0, 1) := by decide +kernel
theorem dX1_requireSubject_5 : decode cX1_requireSubject 5 = .ok (.bipush 16, 2) := by decide +kernel
theorem dX1_requireSubject_7 : decode cX1_requireSubject 7 = .ok (.if_icmp .lt 13, 3) := by decide +kernel
theorem dX1_requireSubject_10 : decode cX1_requireSubject 10 = .ok (.new 58, 3) := by decide +kernel
theorem dX1_requireSubject_13 : decode cX1_requireSubject 13 = .ok (.dup, 1) := by decide +kernel
theorem dX1_requireSubject_14 : decode cX1_requireSubject 14 = .ok (.ldc 163, 2) := by decide +kernel
theorem dX1_requireSubject_16 : decode cX1_requireSubject 16 = .ok (.invokespecial 62, 3) := by decide +kernel
theorem dX1_requireSubject_19 : decode cX1_requireSubject 19 = .ok (.athrow, 1) := by decide +kernel
theorem dX1_requireSubject_20 : decode cX1_requireSubject 20 = .ok (.return_, 1) := by decide +kernel
theorem dX1_requireLabel_0 : decode cX1_requireLabel 0 = .ok (.iload_n 0, 1) := by decide +kernel
theorem dX1_requireLabel_1 : decode cX1_requireLabel 1 = .ok (.ifCond .lt 10, 3) := by decide +kernel
theorem dX1_requireLabel_4 : decode cX1_requireLabel 4 = .ok (.iload_n 0, 1) := by decide +kernel
theorem dX1_requireLabel_5 : decode cX1_requireLabel 5 = .ok (.sipush 1024, 3) := by decide +kernel
theorem dX1_requireLabel_8 : decode cX1_requireLabel 8 = .ok (.if_icmp .lt 13, 3) := by decide +kernel
theorem dX1_requireLabel_11 : decode cX1_requireLabel 11 = .ok (.new 58, 3) := by decide +kernel
theorem dX1_requireLabel_14 : decode cX1_requireLabel 14 = .ok (.dup, 1) := by decide +kernel
theorem dX1_requireLabel_15 : decode cX1_requireLabel 15 = .ok (.ldc 165, 2) := by decide +kernel
theorem dX1_requireLabel_17 : decode cX1_requireLabel 17 = .ok (.invokespecial 62, 3) := by decide +kernel
theorem dX1_requireLabel_20 : decode cX1_requireLabel 20 = .ok (.athrow, 1) := by decide +kernel
theorem dX1_requireLabel_21 : decode cX1_requireLabel 21 = .ok (.return_, 1) := by decide +kernel
theorem dX1_requireNumber_0 : decode cX1_requireNumber 0 = .ok (.iload_n 0, 1) := by decide +kernel
theorem dX1_requireNumber_1 : decode cX1_requireNumber 1 = .ok (.ifCond .lt 9, 3) := by decide +kernel
theorem dX1_requireNumber_4 : decode cX1_requireNumber 4 = .ok (.iload_n 0, 1) := by decide +kernel
theorem dX1_requireNumber_5 : decode cX1_requireNumber 5 = .ok (.bipush 16, 2) := by decide +kernel
theorem dX1_requireNumber_7 : decode cX1_requireNumber 7 = .ok (.if_icmp .lt 13, 3) := by decide +kernel
theorem dX1_requireNumber_10 : decode cX1_requireNumber 10 = .ok (.new 58, 3) := by decide +kernel
theorem dX1_requireNumber_13 : decode cX1_requireNumber 13 = .ok (.dup, 1) := by decide +kernel
theorem dX1_requireNumber_14 : decode cX1_requireNumber 14 = .ok (.ldc 167, 2) := by decide +kernel
theorem dX1_requireNumber_16 : decode cX1_requireNumber 16 = .ok (.invokespecial 62, 3) := by decide +kernel
theorem dX1_requireNumber_19 : decode cX1_requireNumber 19 = .ok (.athrow, 1) := by decide +kernel
theorem dX1_requireNumber_20 : decode cX1_requireNumber 20 = .ok (.return_, 1) := by decide +kernel
set_option maxRecDepth 20000 in
theorem ggX1_requireFile_X1_requireLabel : GoodIn wsX1_requireFile wsX1_requireLabel := goodIn_ca (goodIn_r _ [4, 5, 6] (by decide +kernel) (by decide +kernel)) (goodIn_sub (fun _ h => List.mem_cons_of_mem _ (List.mem_append_right _ h)) (by decide +kernel))
set_option maxRecDepth 20000 in
theorem gX1_requireFile_X1_requireLabel : GoodIn wsX1_requireFile (va_wsS RX1 51 yX1_requireLabel wsX1_requireLabel) := goodIn_app (goodIn_of _ (by decide +kernel)) ggX1_requireFile_X1_requireLabel
set_option maxRecDepth 20000 in
theorem ggX1_requireFile_X1_requireNumber : GoodIn wsX1_requireFile wsX1_requireNumber := goodIn_ca (goodIn_r _ [9, 5, 6] (by decide +kernel) (by decide +kernel)) (goodIn_sub (fun _ h => List.mem_cons_of_mem _ (List.mem_append_right _ h)) (by decide +kernel))
set_option maxRecDepth 20000 in
theorem gX1_requireFile_X1_requireNumber : GoodIn wsX1_requireFile (va_wsS RX1 103 yX1_requireNumber wsX1_requireNumber) := goodIn_app (goodIn_of _ (by decide +kernel)) ggX1_requireFile_X1_requireNumber
theorem dX1_requireFile_0 : decode cX1_requireFile 0 = .ok (.iload_n 0, 1) := by decide +kernel
theorem dX1_requireFile_1 : decode cX1_requireFile 1 = .ok (.invokestatic 51, 3) := by decide +kernel
theorem dX1_requireFile_4 : decode cX1_requireFile 4 = .ok (.iload_n 1, 1) := by decide +kernel
theorem dX1_requireFile_5 : decode cX1_requireFile 5 = .ok (.invokestatic 103, 3) := by decide +kernel
theorem dX1_requireFile_8 : decode cX1_requireFile 8 = .ok (.return_, 1) := by decide +kernel
theorem dX1_requireCell_0 : decode cX1_requireCell 0 = .ok (.iload_n 0, 1) := by decide +kernel
theorem dX1_requireCell_1 : decode cX1_requireCell 1 = .ok (.ifCond .lt 9, 3) := by decide +kernel
theorem dX1_requireCell_4 : decode cX1_requireCell 4 = .ok (.iload_n 0, 1) := by decide +kernel
theorem dX1_requireCell_5 : decode cX1_requireCell 5 = .ok (.bipush 24, 2) := by decide +kernel
theorem dX1_requireCell_7 : decode cX1_requireCell 7 = .ok (.if_icmp .lt 13, 3) := by decide +kernel
theorem dX1_requireCell_10 : decode cX1_requireCell 10 = .ok (.new 58, 3) := by decide +kernel
theorem dX1_requireCell_13 : decode cX1_requireCell 13 = .ok (.dup, 1) := by decide +kernel
theorem dX1_requireCell_14 : decode cX1_requireCell 14 = .ok (.ldc 169, 2) := by decide +kernel
theorem dX1_requireCell_16 : decode cX1_requireCell 16 = .ok (.invokespecial 62, 3) := by decide +kernel
theorem dX1_requireCell_19 : decode cX1_requireCell 19 = .ok (.athrow, 1) := by decide +kernel
theorem dX1_requireCell_20 : decode cX1_requireCell 20 = .ok (.return_, 1) := by decide +kernel
theorem dX1_requireFolder_0 : decode cX1_requireFolder 0 = .ok (.iload_n 0, 1) := by decide +kernel
theorem dX1_requireFolder_1 : decode cX1_requireFolder 1 = .ok (.iconst (-1), 1) := by decide +kernel
theorem dX1_requireFolder_2 : decode cX1_requireFolder 2 = .ok (.if_icmp .eq 24, 3) := by decide +kernel
theorem dX1_requireFolder_5 : decode cX1_requireFolder 5 = .ok (.iload_n 0, 1) := by decide +kernel
theorem dX1_requireFolder_6 : decode cX1_requireFolder 6 = .ok (.ifCond .lt 10, 3) := by decide +kernel
theorem dX1_requireFolder_9 : decode cX1_requireFolder 9 = .ok (.iload_n 0, 1) := by decide +kernel
theorem dX1_requireFolder_10 : decode cX1_requireFolder 10 = .ok (.sipush 16384, 3) := by decide +kernel
theorem dX1_requireFolder_13 : decode cX1_requireFolder 13 = .ok (.if_icmp .lt 13, 3) := by decide +kernel
theorem dX1_requireFolder_16 : decode cX1_requireFolder 16 = .ok (.new 58, 3) := by decide +kernel
theorem dX1_requireFolder_19 : decode cX1_requireFolder 19 = .ok (.dup, 1) := by decide +kernel
theorem dX1_requireFolder_20 : decode cX1_requireFolder 20 = .ok (.ldc 171, 2) := by decide +kernel
theorem dX1_requireFolder_22 : decode cX1_requireFolder 22 = .ok (.invokespecial 62, 3) := by decide +kernel
theorem dX1_requireFolder_25 : decode cX1_requireFolder 25 = .ok (.athrow, 1) := by decide +kernel
theorem dX1_requireFolder_26 : decode cX1_requireFolder 26 = .ok (.return_, 1) := by decide +kernel
theorem dX1_requireAtMost_0 : decode cX1_requireAtMost 0 = .ok (.iload_n 1, 1) := by decide +kernel
theorem dX1_requireAtMost_1 : decode cX1_requireAtMost 1 = .ok (.ifCond .lt 8, 3) := by decide +kernel
theorem dX1_requireAtMost_4 : decode cX1_requireAtMost 4 = .ok (.iload_n 1, 1) := by decide +kernel
theorem dX1_requireAtMost_5 : decode cX1_requireAtMost 5 = .ok (.iload_n 0, 1) := by decide +kernel
theorem dX1_requireAtMost_6 : decode cX1_requireAtMost 6 = .ok (.if_icmp .le 13, 3) := by decide +kernel
theorem dX1_requireAtMost_9 : decode cX1_requireAtMost 9 = .ok (.new 58, 3) := by decide +kernel
theorem dX1_requireAtMost_12 : decode cX1_requireAtMost 12 = .ok (.dup, 1) := by decide +kernel
theorem dX1_requireAtMost_13 : decode cX1_requireAtMost 13 = .ok (.ldc 173, 2) := by decide +kernel
theorem dX1_requireAtMost_15 : decode cX1_requireAtMost 15 = .ok (.invokespecial 62, 3) := by decide +kernel
theorem dX1_requireAtMost_18 : decode cX1_requireAtMost 18 = .ok (.athrow, 1) := by decide +kernel
theorem dX1_requireAtMost_19 : decode cX1_requireAtMost 19 = .ok (.return_, 1) := by decide +kernel
set_option maxRecDepth 20000 in
theorem ggX1_mayFlow_X1_secrecyOf : GoodIn wsX1_mayFlow wsX1_secrecyOf := goodIn_r _ [4] (by decide +kernel) (by decide +kernel)
set_option maxRecDepth 20000 in
theorem gX1_mayFlow_X1_secrecyOf : GoodIn wsX1_mayFlow (va_wsS RX1 175 yX1_secrecyOf wsX1_secrecyOf) := goodIn_app (goodIn_of _ (by decide +kernel)) ggX1_mayFlow_X1_secrecyOf
set_option maxRecDepth 20000 in
theorem ggX1_mayFlow_X1_secretsOf : GoodIn wsX1_mayFlow wsX1_secretsOf := goodIn_r _ [7] (by decide +kernel) (by decide +kernel)
set_option maxRecDepth 20000 in
theorem gX1_mayFlow_X1_secretsOf : GoodIn wsX1_mayFlow (va_wsS RX1 178 yX1_secretsOf wsX1_secretsOf) := goodIn_app (goodIn_of _ (by decide +kernel)) ggX1_mayFlow_X1_secretsOf
set_option maxRecDepth 20000 in
theorem ggX1_mayFlow_X1_isWithin : GoodIn wsX1_mayFlow wsX1_isWithin := goodIn_r _ [10] (by decide +kernel) (by decide +kernel)
set_option maxRecDepth 20000 in
theorem gX1_mayFlow_X1_isWithin : GoodIn wsX1_mayFlow (va_wsS RX1 181 yX1_isWithin wsX1_isWithin) := goodIn_app (goodIn_of _ (by decide +kernel)) ggX1_mayFlow_X1_isWithin
set_option maxRecDepth 20000 in
theorem ggX1_mayFlow_X1_trustOf : GoodIn wsX1_mayFlow wsX1_trustOf := goodIn_r _ [13] (by decide +kernel) (by decide +kernel)
set_option maxRecDepth 20000 in
theorem gX1_mayFlow_X1_trustOf : GoodIn wsX1_mayFlow (va_wsS RX1 184 yX1_trustOf wsX1_trustOf) := goodIn_app (goodIn_of _ (by decide +kernel)) ggX1_mayFlow_X1_trustOf
set_option maxRecDepth 20000 in
theorem ggX1_mayFlow_X1_warrantsOf : GoodIn wsX1_mayFlow wsX1_warrantsOf := goodIn_r _ [16] (by decide +kernel) (by decide +kernel)
set_option maxRecDepth 20000 in
theorem gX1_mayFlow_X1_warrantsOf : GoodIn wsX1_mayFlow (va_wsS RX1 187 yX1_warrantsOf wsX1_warrantsOf) := goodIn_app (goodIn_of _ (by decide +kernel)) ggX1_mayFlow_X1_warrantsOf
theorem dX1_mayFlow_0 : decode cX1_mayFlow 0 = .ok (.iload_n 0, 1) := by decide +kernel
theorem dX1_mayFlow_1 : decode cX1_mayFlow 1 = .ok (.invokestatic 175, 3) := by decide +kernel
theorem dX1_mayFlow_4 : decode cX1_mayFlow 4 = .ok (.iload_n 1, 1) := by decide +kernel
theorem dX1_mayFlow_5 : decode cX1_mayFlow 5 = .ok (.invokestatic 175, 3) := by decide +kernel
theorem dX1_mayFlow_8 : decode cX1_mayFlow 8 = .ok (.if_icmp .gt 46, 3) := by decide +kernel
theorem dX1_mayFlow_11 : decode cX1_mayFlow 11 = .ok (.iload_n 0, 1) := by decide +kernel
theorem dX1_mayFlow_12 : decode cX1_mayFlow 12 = .ok (.invokestatic 178, 3) := by decide +kernel
theorem dX1_mayFlow_15 : decode cX1_mayFlow 15 = .ok (.iload_n 1, 1) := by decide +kernel
theorem dX1_mayFlow_16 : decode cX1_mayFlow 16 = .ok (.invokestatic 178, 3) := by decide +kernel
theorem dX1_mayFlow_19 : decode cX1_mayFlow 19 = .ok (.invokestatic 181, 3) := by decide +kernel
theorem dX1_mayFlow_22 : decode cX1_mayFlow 22 = .ok (.ifCond .eq 32, 3) := by decide +kernel
theorem dX1_mayFlow_25 : decode cX1_mayFlow 25 = .ok (.iload_n 0, 1) := by decide +kernel
theorem dX1_mayFlow_26 : decode cX1_mayFlow 26 = .ok (.invokestatic 184, 3) := by decide +kernel
theorem dX1_mayFlow_29 : decode cX1_mayFlow 29 = .ok (.iload_n 1, 1) := by decide +kernel
theorem dX1_mayFlow_30 : decode cX1_mayFlow 30 = .ok (.invokestatic 184, 3) := by decide +kernel
theorem dX1_mayFlow_33 : decode cX1_mayFlow 33 = .ok (.if_icmp .lt 21, 3) := by decide +kernel
theorem dX1_mayFlow_36 : decode cX1_mayFlow 36 = .ok (.iload_n 1, 1) := by decide +kernel
theorem dX1_mayFlow_37 : decode cX1_mayFlow 37 = .ok (.invokestatic 187, 3) := by decide +kernel
theorem dX1_mayFlow_40 : decode cX1_mayFlow 40 = .ok (.iload_n 0, 1) := by decide +kernel
theorem dX1_mayFlow_41 : decode cX1_mayFlow 41 = .ok (.invokestatic 187, 3) := by decide +kernel
theorem dX1_mayFlow_44 : decode cX1_mayFlow 44 = .ok (.invokestatic 181, 3) := by decide +kernel
theorem dX1_mayFlow_47 : decode cX1_mayFlow 47 = .ok (.ifCond .eq 7, 3) := by decide +kernel
theorem dX1_mayFlow_50 : decode cX1_mayFlow 50 = .ok (.iconst 1, 1) := by decide +kernel
theorem dX1_mayFlow_51 : decode cX1_mayFlow 51 = .ok (.goto 4, 3) := by decide +kernel
theorem dX1_mayFlow_54 : decode cX1_mayFlow 54 = .ok (.iconst 0, 1) := by decide +kernel
theorem dX1_mayFlow_55 : decode cX1_mayFlow 55 = .ok (.ireturn, 1) := by decide +kernel
theorem dX1_secrecyOf_0 : decode cX1_secrecyOf 0 = .ok (.iload_n 0, 1) := by decide +kernel
theorem dX1_secrecyOf_1 : decode cX1_secrecyOf 1 = .ok (.iconst 3, 1) := by decide +kernel
theorem dX1_secrecyOf_2 : decode cX1_secrecyOf 2 = .ok (.iand, 1) := by decide +kernel
theorem dX1_secrecyOf_3 : decode cX1_secrecyOf 3 = .ok (.ireturn, 1) := by decide +kernel
theorem dX1_secretsOf_0 : decode cX1_secretsOf 0 = .ok (.iload_n 0, 1) := by decide +kernel
theorem dX1_secretsOf_1 : decode cX1_secretsOf 1 = .ok (.iconst 2, 1) := by decide +kernel
theorem dX1_secretsOf_2 : decode cX1_secretsOf 2 = .ok (.ishr, 1) := by decide +kernel
theorem dX1_secretsOf_3 : decode cX1_secretsOf 3 = .ok (.bipush 15, 2) := by decide +kernel
theorem dX1_secretsOf_5 : decode cX1_secretsOf 5 = .ok (.iand, 1) := by decide +kernel
theorem dX1_secretsOf_6 : decode cX1_secretsOf 6 = .ok (.ireturn, 1) := by decide +kernel
theorem dX1_trustOf_0 : decode cX1_trustOf 0 = .ok (.iload_n 0, 1) := by decide +kernel
theorem dX1_trustOf_1 : decode cX1_trustOf 1 = .ok (.bipush 6, 2) := by decide +kernel
theorem dX1_trustOf_3 : decode cX1_trustOf 3 = .ok (.ishr, 1) := by decide +kernel
theorem dX1_trustOf_4 : decode cX1_trustOf 4 = .ok (.iconst 3, 1) := by decide +kernel
theorem dX1_trustOf_5 : decode cX1_trustOf 5 = .ok (.iand, 1) := by decide +kernel
theorem dX1_trustOf_6 : decode cX1_trustOf 6 = .ok (.ireturn, 1) := by decide +kernel
theorem dX1_warrantsOf_0 : decode cX1_warrantsOf 0 = .ok (.iload_n 0, 1) := by decide +kernel
theorem dX1_warrantsOf_1 : decode cX1_warrantsOf 1 = .ok (.bipush 8, 2) := by decide +kernel
theorem dX1_warrantsOf_3 : decode cX1_warrantsOf 3 = .ok (.ishr, 1) := by decide +kernel
theorem dX1_warrantsOf_4 : decode cX1_warrantsOf 4 = .ok (.iconst 3, 1) := by decide +kernel
theorem dX1_warrantsOf_5 : decode cX1_warrantsOf 5 = .ok (.iand, 1) := by decide +kernel
theorem dX1_warrantsOf_6 : decode cX1_warrantsOf 6 = .ok (.ireturn, 1) := by decide +kernel
theorem dX1_isWithin_0 : decode cX1_isWithin 0 = .ok (.iload_n 0, 1) := by decide +kernel
theorem dX1_isWithin_1 : decode cX1_isWithin 1 = .ok (.iload_n 1, 1) := by decide +kernel
theorem dX1_isWithin_2 : decode cX1_isWithin 2 = .ok (.iconst (-1), 1) := by decide +kernel
theorem dX1_isWithin_3 : decode cX1_isWithin 3 = .ok (.ixor, 1) := by decide +kernel
theorem dX1_isWithin_4 : decode cX1_isWithin 4 = .ok (.iand, 1) := by decide +kernel
theorem dX1_isWithin_5 : decode cX1_isWithin 5 = .ok (.ifCond .ne 7, 3) := by decide +kernel
theorem dX1_isWithin_8 : decode cX1_isWithin 8 = .ok (.iconst 1, 1) := by decide +kernel
theorem dX1_isWithin_9 : decode cX1_isWithin 9 = .ok (.goto 4, 3) := by decide +kernel
theorem dX1_isWithin_12 : decode cX1_isWithin 12 = .ok (.iconst 0, 1) := by decide +kernel
theorem dX1_isWithin_13 : decode cX1_isWithin 13 = .ok (.ireturn, 1) := by decide +kernel
set_option maxRecDepth 20000 in
theorem ggX1_verdictOnReading_X1_mayFlow : GoodIn wsX1_verdictOnReading wsX1_mayFlow := goodIn_r _ [5, 6, 7, 4, 8, 9, 10, 11, 12, 13, 14, 15, 16, 17, 18, 19, 20] (by decide +kernel) (by decide +kernel)
set_option maxRecDepth 20000 in
theorem gX1_verdictOnReading_X1_mayFlow : GoodIn wsX1_verdictOnReading (va_wsS RX1 84 yX1_mayFlow wsX1_mayFlow) := goodIn_app (goodIn_of _ (by decide +kernel)) ggX1_verdictOnReading_X1_mayFlow
theorem dX1_verdictOnReading_0 : decode cX1_verdictOnReading 0 = .ok (.aload_n 0, 1) := by decide +kernel
theorem dX1_verdictOnReading_1 : decode cX1_verdictOnReading 1 = .ok (.getfield 9, 3) := by decide +kernel
theorem dX1_verdictOnReading_4 : decode cX1_verdictOnReading 4 = .ok (.iload_n 1, 1) := by decide +kernel
theorem dX1_verdictOnReading_5 : decode cX1_verdictOnReading 5 = .ok (.iaload, 1) := by decide +kernel
theorem dX1_verdictOnReading_6 : decode cX1_verdictOnReading 6 = .ok (.istore_n 3, 1) := by decide +kernel
theorem dX1_verdictOnReading_7 : decode cX1_verdictOnReading 7 = .ok (.iload_n 3, 1) := by decide +kernel
theorem dX1_verdictOnReading_8 : decode cX1_verdictOnReading 8 = .ok (.iconst (-1), 1) := by decide +kernel
theorem dX1_verdictOnReading_9 : decode cX1_verdictOnReading 9 = .ok (.if_icmp .ne 5, 3) := by decide +kernel
theorem dX1_verdictOnReading_12 : decode cX1_verdictOnReading 12 = .ok (.iconst (-1), 1) := by decide +kernel
theorem dX1_verdictOnReading_13 : decode cX1_verdictOnReading 13 = .ok (.ireturn, 1) := by decide +kernel
theorem dX1_verdictOnReading_14 : decode cX1_verdictOnReading 14 = .ok (.iload_n 2, 1) := by decide +kernel
theorem dX1_verdictOnReading_15 : decode cX1_verdictOnReading 15 = .ok (.iload_n 3, 1) := by decide +kernel
theorem dX1_verdictOnReading_16 : decode cX1_verdictOnReading 16 = .ok (.invokestatic 84, 3) := by decide +kernel
theorem dX1_verdictOnReading_19 : decode cX1_verdictOnReading 19 = .ok (.ifCond .eq 7, 3) := by decide +kernel
theorem dX1_verdictOnReading_22 : decode cX1_verdictOnReading 22 = .ok (.iconst 0, 1) := by decide +kernel
theorem dX1_verdictOnReading_23 : decode cX1_verdictOnReading 23 = .ok (.goto 5, 3) := by decide +kernel
theorem dX1_verdictOnReading_26 : decode cX1_verdictOnReading 26 = .ok (.bipush (-2), 2) := by decide +kernel
theorem dX1_verdictOnReading_28 : decode cX1_verdictOnReading 28 = .ok (.ireturn, 1) := by decide +kernel
set_option maxRecDepth 20000 in
theorem ggX1_answerMake_X1_labelOfAddress : GoodIn wsX1_answerMake wsX1_labelOfAddress := goodIn_r _ [5] (by decide +kernel) (by decide +kernel)
set_option maxRecDepth 20000 in
theorem gX1_answerMake_X1_labelOfAddress : GoodIn wsX1_answerMake (va_wsS RX1 190 yX1_labelOfAddress wsX1_labelOfAddress) := goodIn_app (goodIn_of _ (by decide +kernel)) ggX1_answerMake_X1_labelOfAddress
set_option maxRecDepth 20000 in
theorem ggX1_answerMake_X1_mayFlow : GoodIn wsX1_answerMake wsX1_mayFlow := goodIn_r _ [8, 9, 10, 4, 11, 12, 13, 14, 15, 16, 17, 18, 19, 20, 21, 22, 23] (by decide +kernel) (by decide +kernel)
set_option maxRecDepth 20000 in
theorem gX1_answerMake_X1_mayFlow : GoodIn wsX1_answerMake (va_wsS RX1 84 yX1_mayFlow wsX1_mayFlow) := goodIn_app (goodIn_of _ (by decide +kernel)) ggX1_answerMake_X1_mayFlow
set_option maxRecDepth 20000 in
theorem ggX1_answerMake_X1_addressOf : GoodIn wsX1_answerMake wsX1_addressOf := goodIn_r _ [26] (by decide +kernel) (by decide +kernel)
set_option maxRecDepth 20000 in
theorem gX1_answerMake_X1_addressOf : GoodIn wsX1_answerMake (va_wsS RX1 132 yX1_addressOf wsX1_addressOf) := goodIn_app (goodIn_of _ (by decide +kernel)) ggX1_answerMake_X1_addressOf
set_option maxRecDepth 20000 in
theorem ggX1_answerMake_X1_makeOwn : GoodIn wsX1_answerMake wsX1_makeOwn := goodIn_r _ [30, 31, 32, 33, 34, 35, 36, 4, 37, 38, 39, 40, 41, 42, 43, 44, 45, 46, 47, 48, 49, 50, 51, 52, 53, 54, 55, 56, 57, 58, 59, 60, 61, 62, 63, 64, 65, 66, 67, 68, 69, 70, 71, 72, 73, 2, 3, 5, 74, 75, 76, 77, 78, 79, 80, 81, 82, 83, 84, 85, 86, 87, 88, 89, 90, 91, 92, 93, 94, 95, 96, 97, 98, 99, 100, 101, 102, 103, 104, 105, 106, 107, 108, 109, 110, 111, 112, 113, 114, 115, 116, 117, 118, 119, 120, 121, 122, 123, 124, 125, 126, 127, 128, 129, 130, 131, 132, 133, 134, 135, 136, 137, 138, 139, 140, 141, 142, 143, 144, 145, 146, 147, 148, 149, 150, 151, 152, 153, 154, 155, 156, 157, 158, 159, 172, 173, 174, 175, 176, 177, 164, 165, 166, 167, 168, 169, 170, 171, 178, 179, 180] (by decide +kernel) (by decide +kernel)
set_option maxRecDepth 20000 in
theorem gX1_answerMake_X1_makeOwn : GoodIn wsX1_answerMake (wsV RX1 193 RX1 yX1_makeOwn wsX1_makeOwn) := goodIn_app (goodIn_of _ (by decide +kernel)) ggX1_answerMake_X1_makeOwn
set_option maxRecDepth 20000 in
theorem ggX1_answerMake_X1_makeAbove : GoodIn wsX1_answerMake wsX1_makeAbove := goodIn_r _ [163, 31, 32, 33, 73, 64, 65, 66, 4, 67, 68, 69, 70, 71, 72, 38, 39, 40, 41, 42, 43, 44, 45, 46, 47, 48, 49, 50, 51, 52, 53, 54, 55, 56, 57, 58, 59, 60, 61, 62, 63, 2, 3, 5, 74, 75, 76, 77, 78, 79, 80, 81, 82, 83, 84, 85, 86, 87, 34, 35, 36, 37, 88, 89, 90, 91, 92, 93, 94, 95, 96, 97, 98, 99, 100, 101, 102, 103, 104, 105, 106, 107, 108, 109, 110, 111, 112, 113, 114, 115, 116, 117, 118, 119, 120, 121, 122, 123, 124, 125, 126, 127, 128, 129, 130, 131, 132, 133, 134, 135, 136, 137, 138, 139, 140, 141, 142, 143, 144, 145, 146, 147, 148, 149, 150, 151, 152, 153, 154, 155, 156, 157, 158, 159, 172, 173, 174, 175, 176, 177, 164, 165, 166, 167, 168, 169, 170, 171, 178, 179, 180] (by decide +kernel) (by decide +kernel)
set_option maxRecDepth 20000 in
theorem gX1_answerMake_X1_makeAbove : GoodIn wsX1_answerMake (wsV RX1 196 RX1 yX1_makeAbove wsX1_makeAbove) := goodIn_app (goodIn_of _ (by decide +kernel)) ggX1_answerMake_X1_makeAbove
theorem dX1_answerMake_0 : decode cX1_answerMake 0 = .ok (.aload_n 0, 1) := by decide +kernel
theorem dX1_answerMake_1 : decode cX1_answerMake 1 = .ok (.getfield 9, 3) := by decide +kernel
theorem dX1_answerMake_4 : decode cX1_answerMake 4 = .ok (.iload_n 1, 1) := by decide +kernel
theorem dX1_answerMake_5 : decode cX1_answerMake 5 = .ok (.iaload, 1) := by decide +kernel
theorem dX1_answerMake_6 : decode cX1_answerMake 6 = .ok (.istore 5, 2) := by decide +kernel
theorem dX1_answerMake_8 : decode cX1_answerMake 8 = .ok (.iload 5, 2) := by decide +kernel
theorem dX1_answerMake_10 : decode cX1_answerMake 10 = .ok (.iconst (-1), 1) := by decide +kernel
theorem dX1_answerMake_11 : decode cX1_answerMake 11 = .ok (.if_icmp .ne 5, 3) := by decide +kernel
theorem dX1_answerMake_14 : decode cX1_answerMake 14 = .ok (.iconst (-1), 1) := by decide +kernel
theorem dX1_answerMake_15 : decode cX1_answerMake 15 = .ok (.ireturn, 1) := by decide +kernel
theorem dX1_answerMake_16 : decode cX1_answerMake 16 = .ok (.iload 4, 2) := by decide +kernel
theorem dX1_answerMake_18 : decode cX1_answerMake 18 = .ok (.iconst (-1), 1) := by decide +kernel
theorem dX1_answerMake_19 : decode cX1_answerMake 19 = .ok (.if_icmp .eq 15, 3) := by decide +kernel
theorem dX1_answerMake_22 : decode cX1_answerMake 22 = .ok (.iload 4, 2) := by decide +kernel
theorem dX1_answerMake_24 : decode cX1_answerMake 24 = .ok (.invokestatic 190, 3) := by decide +kernel
theorem dX1_answerMake_27 : decode cX1_answerMake 27 = .ok (.iload_n 2, 1) := by decide +kernel
theorem dX1_answerMake_28 : decode cX1_answerMake 28 = .ok (.invokestatic 84, 3) := by decide +kernel
theorem dX1_answerMake_31 : decode cX1_answerMake 31 = .ok (.ifCond .eq 7, 3) := by decide +kernel
theorem dX1_answerMake_34 : decode cX1_answerMake 34 = .ok (.iconst 1, 1) := by decide +kernel
theorem dX1_answerMake_35 : decode cX1_answerMake 35 = .ok (.goto 4, 3) := by decide +kernel
theorem dX1_answerMake_38 : decode cX1_answerMake 38 = .ok (.iconst 0, 1) := by decide +kernel
theorem dX1_answerMake_39 : decode cX1_answerMake 39 = .ok (.istore 6, 2) := by decide +kernel
theorem dX1_answerMake_41 : decode cX1_answerMake 41 = .ok (.iload 5, 2) := by decide +kernel
theorem dX1_answerMake_43 : decode cX1_answerMake 43 = .ok (.iload_n 2, 1) := by decide +kernel
theorem dX1_answerMake_44 : decode cX1_answerMake 44 = .ok (.invokestatic 84, 3) := by decide +kernel
theorem dX1_answerMake_47 : decode cX1_answerMake 47 = .ok (.ifCond .eq 8, 3) := by decide +kernel
theorem dX1_answerMake_50 : decode cX1_answerMake 50 = .ok (.iload 6, 2) := by decide +kernel
theorem dX1_answerMake_52 : decode cX1_answerMake 52 = .ok (.ifCond .ne 6, 3) := by decide +kernel
theorem dX1_answerMake_55 : decode cX1_answerMake 55 = .ok (.bipush (-2), 2) := by decide +kernel
theorem dX1_answerMake_57 : decode cX1_answerMake 57 = .ok (.ireturn, 1) := by decide +kernel
theorem dX1_answerMake_58 : decode cX1_answerMake 58 = .ok (.iload_n 2, 1) := by decide +kernel
theorem dX1_answerMake_59 : decode cX1_answerMake 59 = .ok (.iload_n 3, 1) := by decide +kernel
theorem dX1_answerMake_60 : decode cX1_answerMake 60 = .ok (.invokestatic 132, 3) := by decide +kernel
theorem dX1_answerMake_63 : decode cX1_answerMake 63 = .ok (.istore 7, 2) := by decide +kernel
theorem dX1_answerMake_65 : decode cX1_answerMake 65 = .ok (.iload 5, 2) := by decide +kernel
theorem dX1_answerMake_67 : decode cX1_answerMake 67 = .ok (.iload_n 2, 1) := by decide +kernel
theorem dX1_answerMake_68 : decode cX1_answerMake 68 = .ok (.if_icmp .ne 16, 3) := by decide +kernel
theorem dX1_answerMake_71 : decode cX1_answerMake 71 = .ok (.aload_n 0, 1) := by decide +kernel
theorem dX1_answerMake_72 : decode cX1_answerMake 72 = .ok (.iload 5, 2) := by decide +kernel
theorem dX1_answerMake_74 : decode cX1_answerMake 74 = .ok (.iload 7, 2) := by decide +kernel
theorem dX1_answerMake_76 : decode cX1_answerMake 76 = .ok (.iload 4, 2) := by decide +kernel
theorem dX1_answerMake_78 : decode cX1_answerMake 78 = .ok (.invokevirtual 193, 3) := by decide +kernel
theorem dX1_answerMake_81 : decode cX1_answerMake 81 = .ok (.goto 13, 3) := by decide +kernel
theorem dX1_answerMake_84 : decode cX1_answerMake 84 = .ok (.aload_n 0, 1) := by decide +kernel
theorem dX1_answerMake_85 : decode cX1_answerMake 85 = .ok (.iload 5, 2) := by decide +kernel
theorem dX1_answerMake_87 : decode cX1_answerMake 87 = .ok (.iload 7, 2) := by decide +kernel
theorem dX1_answerMake_89 : decode cX1_answerMake 89 = .ok (.iload 4, 2) := by decide +kernel
theorem dX1_answerMake_91 : decode cX1_answerMake 91 = .ok (.invokevirtual 196, 3) := by decide +kernel
theorem dX1_answerMake_94 : decode cX1_answerMake 94 = .ok (.ireturn, 1) := by decide +kernel
set_option maxRecDepth 20000 in
theorem ggX1_makeOwn_X1_placeOf : GoodIn wsX1_makeOwn wsX1_placeOf := goodIn_r _ [8, 9, 10, 11, 12, 13, 14, 15, 16, 17, 18, 19, 20, 21, 22, 23, 24, 25, 26, 27, 28, 29, 30, 31, 32, 33, 34, 140, 141, 142, 143, 144, 145, 146, 147, 134, 135, 136, 137, 138, 139, 148, 149, 150] (by decide +kernel) (by decide +kernel)
set_option maxRecDepth 20000 in
theorem gX1_makeOwn_X1_placeOf : GoodIn wsX1_makeOwn (wsV RX1 136 RX1 yX1_placeOf wsX1_placeOf) := goodIn_app (goodIn_of _ (by decide +kernel)) ggX1_makeOwn_X1_placeOf
set_option maxRecDepth 20000 in
theorem ggX1_makeOwn_X1_hasRoom : GoodIn wsX1_makeOwn wsX1_hasRoom := goodIn_r _ [38, 39, 40, 41, 42, 7, 43, 44, 9, 10, 11, 12, 13, 14, 15, 16, 17, 18, 19, 20, 21, 22, 23, 24, 25, 26, 27, 28, 29, 30, 31, 32, 33, 34, 45, 46, 47, 48, 49, 50, 3, 51, 52, 53, 54, 55, 56, 57, 58, 59, 60, 61, 140, 141, 142, 143, 144, 145, 146, 147, 134, 135, 136, 137, 138, 139, 148, 149, 150] (by decide +kernel) (by decide +kernel)
set_option maxRecDepth 20000 in
theorem gX1_makeOwn_X1_hasRoom : GoodIn wsX1_makeOwn (wsV RX1 121 RX1 yX1_hasRoom wsX1_hasRoom) := goodIn_app (goodIn_of _ (by decide +kernel)) ggX1_makeOwn_X1_hasRoom
set_option maxRecDepth 20000 in
theorem ggX1_makeOwn_X1_isFull : GoodIn wsX1_makeOwn wsX1_isFull := goodIn_r _ [65, 9, 12, 13, 14, 15, 16, 17, 140, 141, 142, 143, 144, 145, 146, 147, 148, 149, 150] (by decide +kernel) (by decide +kernel)
set_option maxRecDepth 20000 in
theorem gX1_makeOwn_X1_isFull : GoodIn wsX1_makeOwn (wsV RX1 199 RX1 yX1_isFull wsX1_isFull) := goodIn_app (goodIn_of _ (by decide +kernel)) ggX1_makeOwn_X1_isFull
set_option maxRecDepth 20000 in
theorem ggX1_makeOwn_X0_init : GoodIn wsX1_makeOwn wsX0_init := goodIn_r _ [68, 69, 70, 71, 72, 73, 53, 54, 74, 75, 52, 134, 135, 136, 137, 138, 139] (by decide +kernel) (by decide +kernel)
set_option maxRecDepth 20000 in
theorem gX1_makeOwn_X0_init : GoodIn wsX1_makeOwn (wsX0_init) := ggX1_makeOwn_X0_init
set_option maxRecDepth 20000 in
theorem ggX1_makeOwn_X1_store : GoodIn wsX1_makeOwn wsX1_store := goodIn_r _ [79, 9, 10, 11, 12, 13, 14, 15, 16, 17, 18, 19, 20, 21, 22, 23, 24, 25, 26, 27, 28, 29, 30, 31, 32, 33, 34, 80, 81, 82, 83, 84, 85, 86, 87, 88, 89, 90, 91, 92, 93, 94, 95, 96, 97, 98, 99, 100, 101, 102, 103, 104, 105, 106, 107, 108, 109, 110, 111, 112, 113, 114, 115, 116, 117, 118, 119, 120, 121, 122, 123, 124, 125, 126, 127, 128, 129, 130, 131, 132, 133, 140, 141, 142, 143, 144, 145, 146, 147, 134, 135, 136, 137, 138, 139, 148, 149, 150] (by decide +kernel) (by decide +kernel)
set_option maxRecDepth 20000 in
theorem gX1_makeOwn_X1_store : GoodIn wsX1_makeOwn (wsV RX1 206 RX1 yX1_store wsX1_store) := goodIn_app (goodIn_of _ (by decide +kernel)) ggX1_makeOwn_X1_store
theorem dX1_makeOwn_0 : decode cX1_makeOwn 0 = .ok (.aload_n 0, 1) := by decide +kernel
theorem dX1_makeOwn_1 : decode cX1_makeOwn 1 = .ok (.iload_n 2, 1) := by decide +kernel
theorem dX1_makeOwn_2 : decode cX1_makeOwn 2 = .ok (.invokevirtual 136, 3) := by decide +kernel
theorem dX1_makeOwn_5 : decode cX1_makeOwn 5 = .ok (.iconst (-1), 1) := by decide +kernel
theorem dX1_makeOwn_6 : decode cX1_makeOwn 6 = .ok (.if_icmp .eq 5, 3) := by decide +kernel
theorem dX1_makeOwn_9 : decode cX1_makeOwn 9 = .ok (.iconst 0, 1) := by decide +kernel
theorem dX1_makeOwn_10 : decode cX1_makeOwn 10 = .ok (.ireturn, 1) := by decide +kernel
theorem dX1_makeOwn_11 : decode cX1_makeOwn 11 = .ok (.aload_n 0, 1) := by decide +kernel
theorem dX1_makeOwn_12 : decode cX1_makeOwn 12 = .ok (.iload_n 1, 1) := by decide +kernel
theorem dX1_makeOwn_13 : decode cX1_makeOwn 13 = .ok (.iconst 1, 1) := by decide +kernel
theorem dX1_makeOwn_14 : decode cX1_makeOwn 14 = .ok (.invokevirtual 121, 3) := by decide +kernel
theorem dX1_makeOwn_17 : decode cX1_makeOwn 17 = .ok (.ifCond .ne 6, 3) := by decide +kernel
theorem dX1_makeOwn_20 : decode cX1_makeOwn 20 = .ok (.bipush (-3), 2) := by decide +kernel
theorem dX1_makeOwn_22 : decode cX1_makeOwn 22 = .ok (.ireturn, 1) := by decide +kernel
theorem dX1_makeOwn_23 : decode cX1_makeOwn 23 = .ok (.aload_n 0, 1) := by decide +kernel
theorem dX1_makeOwn_24 : decode cX1_makeOwn 24 = .ok (.invokevirtual 199, 3) := by decide +kernel
theorem dX1_makeOwn_27 : decode cX1_makeOwn 27 = .ok (.ifCond .eq 6, 3) := by decide +kernel
theorem dX1_makeOwn_30 : decode cX1_makeOwn 30 = .ok (.bipush (-4), 2) := by decide +kernel
theorem dX1_makeOwn_32 : decode cX1_makeOwn 32 = .ok (.ireturn, 1) := by decide +kernel
theorem dX1_makeOwn_33 : decode cX1_makeOwn 33 = .ok (.aload_n 0, 1) := by decide +kernel
theorem dX1_makeOwn_34 : decode cX1_makeOwn 34 = .ok (.new 114, 3) := by decide +kernel
theorem dX1_makeOwn_37 : decode cX1_makeOwn 37 = .ok (.dup, 1) := by decide +kernel
theorem dX1_makeOwn_38 : decode cX1_makeOwn 38 = .ok (.iload_n 2, 1) := by decide +kernel
theorem dX1_makeOwn_39 : decode cX1_makeOwn 39 = .ok (.iload_n 3, 1) := by decide +kernel
theorem dX1_makeOwn_40 : decode cX1_makeOwn 40 = .ok (.iconst 0, 1) := by decide +kernel
theorem dX1_makeOwn_41 : decode cX1_makeOwn 41 = .ok (.invokespecial 203, 3) := by decide +kernel
theorem dX1_makeOwn_44 : decode cX1_makeOwn 44 = .ok (.invokevirtual 206, 3) := by decide +kernel
theorem dX1_makeOwn_47 : decode cX1_makeOwn 47 = .ok (.iconst 1, 1) := by decide +kernel
theorem dX1_makeOwn_48 : decode cX1_makeOwn 48 = .ok (.ireturn, 1) := by decide +kernel
set_option maxRecDepth 20000 in
theorem ggX1_makeAbove_X1_hasRoom : GoodIn wsX1_makeAbove wsX1_hasRoom := goodIn_r _ [9, 10, 11, 12, 13, 8, 14, 4, 15, 16, 17, 18, 19, 20, 21, 22, 23, 24, 25, 26, 27, 28, 29, 30, 31, 32, 33, 34, 35, 36, 37, 38, 39, 40, 41, 42, 43, 44, 45, 46, 3, 47, 48, 49, 50, 51, 52, 53, 54, 55, 56, 57, 140, 141, 142, 143, 144, 145, 146, 147, 134, 135, 136, 137, 138, 139, 148, 149, 150] (by decide +kernel) (by decide +kernel)
set_option maxRecDepth 20000 in
theorem gX1_makeAbove_X1_hasRoom : GoodIn wsX1_makeAbove (wsV RX1 121 RX1 yX1_hasRoom wsX1_hasRoom) := goodIn_app (goodIn_of _ (by decide +kernel)) ggX1_makeAbove_X1_hasRoom
set_option maxRecDepth 20000 in
theorem ggX1_makeAbove_X1_placeOf : GoodIn wsX1_makeAbove wsX1_placeOf := goodIn_r _ [61, 15, 16, 17, 18, 19, 20, 21, 22, 23, 24, 25, 26, 27, 28, 29, 30, 31, 32, 33, 34, 35, 36, 37, 38, 39, 40, 140, 141, 142, 143, 144, 145, 146, 147, 134, 135, 136, 137, 138, 139, 148, 149, 150] (by decide +kernel) (by decide +kernel)
set_option maxRecDepth 20000 in
theorem gX1_makeAbove_X1_placeOf : GoodIn wsX1_makeAbove (wsV RX1 136 RX1 yX1_placeOf wsX1_placeOf) := goodIn_app (goodIn_of _ (by decide +kernel)) ggX1_makeAbove_X1_placeOf
set_option maxRecDepth 20000 in
theorem ggX1_makeAbove_X1_isFull : GoodIn wsX1_makeAbove wsX1_isFull := goodIn_r _ [65, 15, 18, 19, 20, 21, 22, 23, 140, 141, 142, 143, 144, 145, 146, 147, 148, 149, 150] (by decide +kernel) (by decide +kernel)
set_option maxRecDepth 20000 in
theorem gX1_makeAbove_X1_isFull : GoodIn wsX1_makeAbove (wsV RX1 199 RX1 yX1_isFull wsX1_isFull) := goodIn_app (goodIn_of _ (by decide +kernel)) ggX1_makeAbove_X1_isFull
set_option maxRecDepth 20000 in
theorem ggX1_makeAbove_X0_init : GoodIn wsX1_makeAbove wsX0_init := goodIn_r _ [68, 69, 70, 71, 72, 73, 49, 50, 74, 75, 48, 134, 135, 136, 137, 138, 139] (by decide +kernel) (by decide +kernel)
set_option maxRecDepth 20000 in
theorem gX1_makeAbove_X0_init : GoodIn wsX1_makeAbove (wsX0_init) := ggX1_makeAbove_X0_init
set_option maxRecDepth 20000 in
theorem ggX1_makeAbove_X1_store : GoodIn wsX1_makeAbove wsX1_store := goodIn_r _ [79, 15, 16, 17, 18, 19, 20, 21, 22, 23, 24, 25, 26, 27, 28, 29, 30, 31, 32, 33, 34, 35, 36, 37, 38, 39, 40, 80, 81, 82, 83, 84, 85, 86, 87, 88, 89, 90, 91, 92, 93, 94, 95, 96, 97, 98, 99, 100, 101, 102, 103, 104, 105, 106, 107, 108, 109, 110, 111, 112, 113, 114, 115, 116, 117, 118, 119, 120, 121, 122, 123, 124, 125, 126, 127, 128, 129, 130, 131, 132, 133, 140, 141, 142, 143, 144, 145, 146, 147, 134, 135, 136, 137, 138, 139, 148, 149, 150] (by decide +kernel) (by decide +kernel)
set_option maxRecDepth 20000 in
theorem gX1_makeAbove_X1_store : GoodIn wsX1_makeAbove (wsV RX1 206 RX1 yX1_store wsX1_store) := goodIn_app (goodIn_of _ (by decide +kernel)) ggX1_makeAbove_X1_store
theorem dX1_makeAbove_0 : decode cX1_makeAbove 0 = .ok (.aload_n 0, 1) := by decide +kernel
theorem dX1_makeAbove_1 : decode cX1_makeAbove 1 = .ok (.iload_n 1, 1) := by decide +kernel
theorem dX1_makeAbove_2 : decode cX1_makeAbove 2 = .ok (.iconst 1, 1) := by decide +kernel
theorem dX1_makeAbove_3 : decode cX1_makeAbove 3 = .ok (.invokevirtual 121, 3) := by decide +kernel
theorem dX1_makeAbove_6 : decode cX1_makeAbove 6 = .ok (.ifCond .ne 6, 3) := by decide +kernel
theorem dX1_makeAbove_9 : decode cX1_makeAbove 9 = .ok (.bipush (-3), 2) := by decide +kernel
theorem dX1_makeAbove_11 : decode cX1_makeAbove 11 = .ok (.ireturn, 1) := by decide +kernel
theorem dX1_makeAbove_12 : decode cX1_makeAbove 12 = .ok (.aload_n 0, 1) := by decide +kernel
theorem dX1_makeAbove_13 : decode cX1_makeAbove 13 = .ok (.iload_n 2, 1) := by decide +kernel
theorem dX1_makeAbove_14 : decode cX1_makeAbove 14 = .ok (.invokevirtual 136, 3) := by decide +kernel
theorem dX1_makeAbove_17 : decode cX1_makeAbove 17 = .ok (.iconst (-1), 1) := by decide +kernel
theorem dX1_makeAbove_18 : decode cX1_makeAbove 18 = .ok (.if_icmp .ne 27, 3) := by decide +kernel
theorem dX1_makeAbove_21 : decode cX1_makeAbove 21 = .ok (.aload_n 0, 1) := by decide +kernel
theorem dX1_makeAbove_22 : decode cX1_makeAbove 22 = .ok (.invokevirtual 199, 3) := by decide +kernel
theorem dX1_makeAbove_25 : decode cX1_makeAbove 25 = .ok (.ifCond .eq 6, 3) := by decide +kernel
theorem dX1_makeAbove_28 : decode cX1_makeAbove 28 = .ok (.bipush (-4), 2) := by decide +kernel
theorem dX1_makeAbove_30 : decode cX1_makeAbove 30 = .ok (.ireturn, 1) := by decide +kernel
theorem dX1_makeAbove_31 : decode cX1_makeAbove 31 = .ok (.aload_n 0, 1) := by decide +kernel
theorem dX1_makeAbove_32 : decode cX1_makeAbove 32 = .ok (.new 114, 3) := by decide +kernel
theorem dX1_makeAbove_35 : decode cX1_makeAbove 35 = .ok (.dup, 1) := by decide +kernel
theorem dX1_makeAbove_36 : decode cX1_makeAbove 36 = .ok (.iload_n 2, 1) := by decide +kernel
theorem dX1_makeAbove_37 : decode cX1_makeAbove 37 = .ok (.iload_n 3, 1) := by decide +kernel
theorem dX1_makeAbove_38 : decode cX1_makeAbove 38 = .ok (.iconst 1, 1) := by decide +kernel
theorem dX1_makeAbove_39 : decode cX1_makeAbove 39 = .ok (.invokespecial 203, 3) := by decide +kernel
theorem dX1_makeAbove_42 : decode cX1_makeAbove 42 = .ok (.invokevirtual 206, 3) := by decide +kernel
theorem dX1_makeAbove_45 : decode cX1_makeAbove 45 = .ok (.aload_n 0, 1) := by decide +kernel
theorem dX1_makeAbove_46 : decode cX1_makeAbove 46 = .ok (.getfield 16, 3) := by decide +kernel
theorem dX1_makeAbove_49 : decode cX1_makeAbove 49 = .ok (.iload_n 1, 1) := by decide +kernel
theorem dX1_makeAbove_50 : decode cX1_makeAbove 50 = .ok (.dup2, 1) := by decide +kernel
theorem dX1_makeAbove_51 : decode cX1_makeAbove 51 = .ok (.iaload, 1) := by decide +kernel
theorem dX1_makeAbove_52 : decode cX1_makeAbove 52 = .ok (.iconst 1, 1) := by decide +kernel
theorem dX1_makeAbove_53 : decode cX1_makeAbove 53 = .ok (.iadd, 1) := by decide +kernel
theorem dX1_makeAbove_54 : decode cX1_makeAbove 54 = .ok (.iastore, 1) := by decide +kernel
theorem dX1_makeAbove_55 : decode cX1_makeAbove 55 = .ok (.iconst 2, 1) := by decide +kernel
theorem dX1_makeAbove_56 : decode cX1_makeAbove 56 = .ok (.ireturn, 1) := by decide +kernel
set_option maxRecDepth 20000 in
theorem ggX1_answerRelease_X1_listingOf : GoodIn wsX1_answerRelease wsX1_listingOf := goodIn_r _ [9] (by decide +kernel) (by decide +kernel)
set_option maxRecDepth 20000 in
theorem gX1_answerRelease_X1_listingOf : GoodIn wsX1_answerRelease (va_wsS RX1 65 yX1_listingOf wsX1_listingOf) := goodIn_app (goodIn_of _ (by decide +kernel)) ggX1_answerRelease_X1_listingOf
set_option maxRecDepth 20000 in
theorem ggX1_answerRelease_X1_isListed : GoodIn wsX1_answerRelease wsX1_isListed := goodIn_r _ [13, 14, 15, 157, 158, 159, 160, 161, 162, 163, 164] (by decide +kernel) (by decide +kernel)
set_option maxRecDepth 20000 in
theorem gX1_answerRelease_X1_isListed : GoodIn wsX1_answerRelease (wsV RX1 69 RX1 yX1_isListed wsX1_isListed) := goodIn_app (goodIn_of _ (by decide +kernel)) ggX1_answerRelease_X1_isListed
set_option maxRecDepth 20000 in
theorem ggX1_answerRelease_X1_find : GoodIn wsX1_answerRelease wsX1_find := goodIn_r _ [19, 20, 21, 22, 23, 8, 24, 25, 26, 27, 28, 29, 30, 31, 32, 33, 34, 35, 36, 37, 38, 39, 40, 41, 42, 43, 44, 45, 46, 47, 48, 49, 50, 51, 52, 157, 158, 159, 160, 161, 162, 163, 164, 165, 166, 167, 168, 169, 170, 171, 172, 173] (by decide +kernel) (by decide +kernel)
set_option maxRecDepth 20000 in
theorem gX1_answerRelease_X1_find : GoodIn wsX1_answerRelease (wsV RX1 109 RX1 yX1_find wsX1_find) := goodIn_app (goodIn_of _ (by decide +kernel)) ggX1_answerRelease_X1_find
set_option maxRecDepth 20000 in
theorem ggX1_answerRelease_X0_use : GoodIn wsX1_answerRelease wsX0_use := goodIn_r _ [56, 57, 58, 59, 60, 61, 62, 63, 64, 65, 66, 165, 166, 167, 168, 169, 170] (by decide +kernel) (by decide +kernel)
set_option maxRecDepth 20000 in
theorem gX1_answerRelease_X0_use : GoodIn wsX1_answerRelease (wsV RX1 210 RX0 yX0_use wsX0_use) := goodIn_app (goodIn_of _ (by decide +kernel)) ggX1_answerRelease_X0_use
set_option maxRecDepth 20000 in
theorem ggX1_answerRelease_X1_hasRoom : GoodIn wsX1_answerRelease wsX1_hasRoom := goodIn_r _ [70, 71, 72, 73, 74, 8, 75, 76, 20, 21, 29, 30, 31, 32, 33, 34, 35, 36, 37, 38, 39, 40, 41, 42, 43, 44, 45, 46, 47, 48, 49, 50, 51, 52, 77, 78, 79, 53, 54, 55, 5, 56, 57, 58, 59, 60, 61, 62, 63, 64, 65, 66, 157, 158, 159, 160, 161, 162, 163, 164, 165, 166, 167, 168, 169, 170, 171, 172, 173] (by decide +kernel) (by decide +kernel)
set_option maxRecDepth 20000 in
theorem gX1_answerRelease_X1_hasRoom : GoodIn wsX1_answerRelease (wsV RX1 121 RX1 yX1_hasRoom wsX1_hasRoom) := goodIn_app (goodIn_of _ (by decide +kernel)) ggX1_answerRelease_X1_hasRoom
set_option maxRecDepth 20000 in
theorem ggX1_answerRelease_X1_isFull : GoodIn wsX1_answerRelease wsX1_isFull := goodIn_r _ [83, 20, 30, 31, 32, 33, 34, 35, 157, 158, 159, 160, 161, 162, 163, 164, 171, 172, 173] (by decide +kernel) (by decide +kernel)
set_option maxRecDepth 20000 in
theorem gX1_answerRelease_X1_isFull : GoodIn wsX1_answerRelease (wsV RX1 199 RX1 yX1_isFull wsX1_isFull) := goodIn_app (goodIn_of _ (by decide +kernel)) ggX1_answerRelease_X1_isFull
set_option maxRecDepth 20000 in
theorem ggX1_answerRelease_X1_addressOf : GoodIn wsX1_answerRelease wsX1_addressOf := goodIn_r _ [24] (by decide +kernel) (by decide +kernel)
set_option maxRecDepth 20000 in
theorem gX1_answerRelease_X1_addressOf : GoodIn wsX1_answerRelease (va_wsS RX1 132 yX1_addressOf wsX1_addressOf) := goodIn_app (goodIn_of _ (by decide +kernel)) ggX1_answerRelease_X1_addressOf
set_option maxRecDepth 20000 in
theorem ggX1_answerRelease_X0_init : GoodIn wsX1_answerRelease wsX0_init := goodIn_r _ [86, 87, 88, 89, 90, 91, 58, 59, 92, 93, 57, 165, 166, 167, 168, 169, 170] (by decide +kernel) (by decide +kernel)
set_option maxRecDepth 20000 in
theorem gX1_answerRelease_X0_init : GoodIn wsX1_answerRelease (wsX0_init) := ggX1_answerRelease_X0_init
set_option maxRecDepth 20000 in
theorem ggX1_answerRelease_X1_store : GoodIn wsX1_answerRelease wsX1_store := goodIn_r _ [97, 20, 21, 29, 30, 31, 32, 33, 34, 35, 36, 37, 38, 39, 40, 41, 42, 43, 44, 45, 46, 47, 48, 49, 50, 51, 52, 98, 99, 100, 101, 102, 103, 104, 105, 106, 107, 108, 109, 110, 111, 112, 113, 114, 115, 116, 117, 118, 119, 120, 121, 122, 123, 124, 125, 126, 127, 128, 129, 130, 131, 132, 133, 134, 135, 136, 137, 138, 139, 140, 141, 142, 143, 144, 145, 146, 147, 148, 149, 150, 151, 157, 158, 159, 160, 161, 162, 163, 164, 165, 166, 167, 168, 169, 170, 171, 172, 173] (by decide +kernel) (by decide +kernel)
set_option maxRecDepth 20000 in
theorem gX1_answerRelease_X1_store : GoodIn wsX1_answerRelease (wsV RX1 206 RX1 yX1_store wsX1_store) := goodIn_app (goodIn_of _ (by decide +kernel)) ggX1_answerRelease_X1_store
set_option maxRecDepth 20000 in
theorem ggX1_answerRelease_X0_becomeCopyOf : GoodIn wsX1_answerRelease wsX0_becomeCopyOf := goodIn_r _ [155, 91, 58, 156, 105, 106, 107, 57, 59, 165, 166, 167, 168, 169, 170] (by decide +kernel) (by decide +kernel)
set_option maxRecDepth 20000 in
theorem gX1_answerRelease_X0_becomeCopyOf : GoodIn wsX1_answerRelease (wsV RX1 214 RX0 yX0_becomeCopyOf wsX0_becomeCopyOf) := goodIn_app (goodIn_of _ (by decide +kernel)) ggX1_answerRelease_X0_becomeCopyOf
theorem dX1_answerRelease_0 : decode cX1_answerRelease 0 = .ok (.aload_n 0, 1) := by decide +kernel
theorem dX1_answerRelease_1 : decode cX1_answerRelease 1 = .ok (.getfield 9, 3) := by decide +kernel
theorem dX1_answerRelease_4 : decode cX1_answerRelease 4 = .ok (.iload_n 1, 1) := by decide +kernel
theorem dX1_answerRelease_5 : decode cX1_answerRelease 5 = .ok (.iaload, 1) := by decide +kernel
theorem dX1_answerRelease_6 : decode cX1_answerRelease 6 = .ok (.iconst (-1), 1) := by decide +kernel
theorem dX1_answerRelease_7 : decode cX1_answerRelease 7 = .ok (.if_icmp .ne 5, 3) := by decide +kernel
theorem dX1_answerRelease_10 : decode cX1_answerRelease 10 = .ok (.iconst (-1), 1) := by decide +kernel
theorem dX1_answerRelease_11 : decode cX1_answerRelease 11 = .ok (.ireturn, 1) := by decide +kernel
theorem dX1_answerRelease_12 : decode cX1_answerRelease 12 = .ok (.aload_n 0, 1) := by decide +kernel
theorem dX1_answerRelease_13 : decode cX1_answerRelease 13 = .ok (.iload_n 1, 1) := by decide +kernel
theorem dX1_answerRelease_14 : decode cX1_answerRelease 14 = .ok (.iload_n 2, 1) := by decide +kernel
theorem dX1_answerRelease_15 : decode cX1_answerRelease 15 = .ok (.iload 4, 2) := by decide +kernel
theorem dX1_answerRelease_17 : decode cX1_answerRelease 17 = .ok (.invokestatic 65, 3) := by decide +kernel
theorem dX1_answerRelease_20 : decode cX1_answerRelease 20 = .ok (.invokevirtual 69, 3) := by decide +kernel
theorem dX1_answerRelease_23 : decode cX1_answerRelease 23 = .ok (.ifCond .ne 6, 3) := by decide +kernel
theorem dX1_answerRelease_26 : decode cX1_answerRelease 26 = .ok (.bipush (-2), 2) := by decide +kernel
theorem dX1_answerRelease_28 : decode cX1_answerRelease 28 = .ok (.ireturn, 1) := by decide +kernel
theorem dX1_answerRelease_29 : decode cX1_answerRelease 29 = .ok (.aload_n 0, 1) := by decide +kernel
theorem dX1_answerRelease_30 : decode cX1_answerRelease 30 = .ok (.iload_n 2, 1) := by decide +kernel
theorem dX1_answerRelease_31 : decode cX1_answerRelease 31 = .ok (.iload_n 3, 1) := by decide +kernel
theorem dX1_answerRelease_32 : decode cX1_answerRelease 32 = .ok (.invokevirtual 109, 3) := by decide +kernel
theorem dX1_answerRelease_35 : decode cX1_answerRelease 35 = .ok (.astore 5, 2) := by decide +kernel
theorem dX1_answerRelease_37 : decode cX1_answerRelease 37 = .ok (.aload 5, 2) := by decide +kernel
theorem dX1_answerRelease_39 : decode cX1_answerRelease 39 = .ok (.ifnonnull 5, 3) := by decide +kernel
theorem dX1_answerRelease_42 : decode cX1_answerRelease 42 = .ok (.iconst 0, 1) := by decide +kernel
theorem dX1_answerRelease_43 : decode cX1_answerRelease 43 = .ok (.ireturn, 1) := by decide +kernel
theorem dX1_answerRelease_44 : decode cX1_answerRelease 44 = .ok (.aload_n 0, 1) := by decide +kernel
theorem dX1_answerRelease_45 : decode cX1_answerRelease 45 = .ok (.iload 4, 2) := by decide +kernel
theorem dX1_answerRelease_47 : decode cX1_answerRelease 47 = .ok (.iload_n 3, 1) := by decide +kernel
theorem dX1_answerRelease_48 : decode cX1_answerRelease 48 = .ok (.invokevirtual 109, 3) := by decide +kernel
theorem dX1_answerRelease_51 : decode cX1_answerRelease 51 = .ok (.astore 6, 2) := by decide +kernel
theorem dX1_answerRelease_53 : decode cX1_answerRelease 53 = .ok (.aload 6, 2) := by decide +kernel
theorem dX1_answerRelease_55 : decode cX1_answerRelease 55 = .ok (.ifnonnull 7, 3) := by decide +kernel
theorem dX1_answerRelease_58 : decode cX1_answerRelease 58 = .ok (.iconst 0, 1) := by decide +kernel
theorem dX1_answerRelease_59 : decode cX1_answerRelease 59 = .ok (.goto 8, 3) := by decide +kernel
theorem dX1_answerRelease_62 : decode cX1_answerRelease 62 = .ok (.aload 6, 2) := by decide +kernel
theorem dX1_answerRelease_64 : decode cX1_answerRelease 64 = .ok (.invokevirtual 210, 3) := by decide +kernel
theorem dX1_answerRelease_67 : decode cX1_answerRelease 67 = .ok (.istore 7, 2) := by decide +kernel
theorem dX1_answerRelease_69 : decode cX1_answerRelease 69 = .ok (.aload_n 0, 1) := by decide +kernel
theorem dX1_answerRelease_70 : decode cX1_answerRelease 70 = .ok (.iload 4, 2) := by decide +kernel
theorem dX1_answerRelease_72 : decode cX1_answerRelease 72 = .ok (.iconst 1, 1) := by decide +kernel
theorem dX1_answerRelease_73 : decode cX1_answerRelease 73 = .ok (.aload 5, 2) := by decide +kernel
theorem dX1_answerRelease_75 : decode cX1_answerRelease 75 = .ok (.getfield 113, 3) := by decide +kernel
theorem dX1_answerRelease_78 : decode cX1_answerRelease 78 = .ok (.iadd, 1) := by decide +kernel
theorem dX1_answerRelease_79 : decode cX1_answerRelease 79 = .ok (.iload 7, 2) := by decide +kernel
theorem dX1_answerRelease_81 : decode cX1_answerRelease 81 = .ok (.isub, 1) := by decide +kernel
theorem dX1_answerRelease_82 : decode cX1_answerRelease 82 = .ok (.invokevirtual 121, 3) := by decide +kernel
theorem dX1_answerRelease_85 : decode cX1_answerRelease 85 = .ok (.ifCond .ne 6, 3) := by decide +kernel
theorem dX1_answerRelease_88 : decode cX1_answerRelease 88 = .ok (.bipush (-3), 2) := by decide +kernel
theorem dX1_answerRelease_90 : decode cX1_answerRelease 90 = .ok (.ireturn, 1) := by decide +kernel
theorem dX1_answerRelease_91 : decode cX1_answerRelease 91 = .ok (.aload 6, 2) := by decide +kernel
theorem dX1_answerRelease_93 : decode cX1_answerRelease 93 = .ok (.ifnonnull 36, 3) := by decide +kernel
theorem dX1_answerRelease_96 : decode cX1_answerRelease 96 = .ok (.aload_n 0, 1) := by decide +kernel
theorem dX1_answerRelease_97 : decode cX1_answerRelease 97 = .ok (.invokevirtual 199, 3) := by decide +kernel
theorem dX1_answerRelease_100 : decode cX1_answerRelease 100 = .ok (.ifCond .eq 6, 3) := by decide +kernel
theorem dX1_answerRelease_103 : decode cX1_answerRelease 103 = .ok (.bipush (-4), 2) := by decide +kernel
theorem dX1_answerRelease_105 : decode cX1_answerRelease 105 = .ok (.ireturn, 1) := by decide +kernel
theorem dX1_answerRelease_106 : decode cX1_answerRelease 106 = .ok (.new 114, 3) := by decide +kernel
theorem dX1_answerRelease_109 : decode cX1_answerRelease 109 = .ok (.dup, 1) := by decide +kernel
theorem dX1_answerRelease_110 : decode cX1_answerRelease 110 = .ok (.iload 4, 2) := by decide +kernel
theorem dX1_answerRelease_112 : decode cX1_answerRelease 112 = .ok (.iload_n 3, 1) := by decide +kernel
theorem dX1_answerRelease_113 : decode cX1_answerRelease 113 = .ok (.invokestatic 132, 3) := by decide +kernel
theorem dX1_answerRelease_116 : decode cX1_answerRelease 116 = .ok (.iconst (-1), 1) := by decide +kernel
theorem dX1_answerRelease_117 : decode cX1_answerRelease 117 = .ok (.iconst 0, 1) := by decide +kernel
theorem dX1_answerRelease_118 : decode cX1_answerRelease 118 = .ok (.invokespecial 203, 3) := by decide +kernel
theorem dX1_answerRelease_121 : decode cX1_answerRelease 121 = .ok (.astore 6, 2) := by decide +kernel
theorem dX1_answerRelease_123 : decode cX1_answerRelease 123 = .ok (.aload_n 0, 1) := by decide +kernel
theorem dX1_answerRelease_124 : decode cX1_answerRelease 124 = .ok (.aload 6, 2) := by decide +kernel
theorem dX1_answerRelease_126 : decode cX1_answerRelease 126 = .ok (.invokevirtual 206, 3) := by decide +kernel
theorem dX1_answerRelease_129 : decode cX1_answerRelease 129 = .ok (.aload 6, 2) := by decide +kernel
theorem dX1_answerRelease_131 : decode cX1_answerRelease 131 = .ok (.aload 5, 2) := by decide +kernel
theorem dX1_answerRelease_133 : decode cX1_answerRelease 133 = .ok (.invokevirtual 214, 3) := by decide +kernel
theorem dX1_answerRelease_136 : decode cX1_answerRelease 136 = .ok (.iconst 1, 1) := by decide +kernel
theorem dX1_answerRelease_137 : decode cX1_answerRelease 137 = .ok (.ireturn, 1) := by decide +kernel
set_option maxRecDepth 20000 in
theorem ggX1_hasRoom_X1_usedBy : GoodIn wsX1_hasRoom wsX1_usedBy := goodIn_r _ [6, 7, 8, 9, 10, 11, 12, 13, 14, 15, 16, 17, 18, 19, 20, 21, 22, 23, 24, 25, 26, 27, 28, 29, 30, 31, 32, 33, 34, 35, 5, 36, 37, 38, 39, 40, 41, 42, 43, 44, 45, 46, 47, 48, 49, 50, 51, 52, 53, 54, 55, 56, 57, 58, 59, 60, 61, 62, 63, 64, 65, 66, 67, 68] (by decide +kernel) (by decide +kernel)
set_option maxRecDepth 20000 in
theorem gX1_hasRoom_X1_usedBy : GoodIn wsX1_hasRoom (wsV RX1 155 RX1 yX1_usedBy wsX1_usedBy) := goodIn_app (goodIn_of _ (by decide +kernel)) ggX1_hasRoom_X1_usedBy
theorem dX1_hasRoom_0 : decode cX1_hasRoom 0 = .ok (.aload_n 0, 1) := by decide +kernel
theorem dX1_hasRoom_1 : decode cX1_hasRoom 1 = .ok (.iload_n 1, 1) := by decide +kernel
theorem dX1_hasRoom_2 : decode cX1_hasRoom 2 = .ok (.invokevirtual 155, 3) := by decide +kernel
theorem dX1_hasRoom_5 : decode cX1_hasRoom 5 = .ok (.iload_n 2, 1) := by decide +kernel
theorem dX1_hasRoom_6 : decode cX1_hasRoom 6 = .ok (.iadd, 1) := by decide +kernel
theorem dX1_hasRoom_7 : decode cX1_hasRoom 7 = .ok (.aload_n 0, 1) := by decide +kernel
theorem dX1_hasRoom_8 : decode cX1_hasRoom 8 = .ok (.getfield 13, 3) := by decide +kernel
theorem dX1_hasRoom_11 : decode cX1_hasRoom 11 = .ok (.iload_n 1, 1) := by decide +kernel
theorem dX1_hasRoom_12 : decode cX1_hasRoom 12 = .ok (.iaload, 1) := by decide +kernel
theorem dX1_hasRoom_13 : decode cX1_hasRoom 13 = .ok (.if_icmp .gt 7, 3) := by decide +kernel
theorem dX1_hasRoom_16 : decode cX1_hasRoom 16 = .ok (.iconst 1, 1) := by decide +kernel
theorem dX1_hasRoom_17 : decode cX1_hasRoom 17 = .ok (.goto 4, 3) := by decide +kernel
theorem dX1_hasRoom_20 : decode cX1_hasRoom 20 = .ok (.iconst 0, 1) := by decide +kernel
theorem dX1_hasRoom_21 : decode cX1_hasRoom 21 = .ok (.ireturn, 1) := by decide +kernel
set_option maxRecDepth 20000 in
theorem ggX1_usedBy_Jx4a65c_size_8abf5 : GoodIn wsX1_usedBy wsJx4a65c_size_8abf5 := goodIn_r _ [9, 10, 61, 62, 63] (by decide +kernel) (by decide +kernel)
set_option maxRecDepth 20000 in
theorem gX1_usedBy_Jx4a65c_size_8abf5 : GoodIn wsX1_usedBy (wsV RX1 217 RJx4a65c yJx4a65c_size_8abf5 wsJx4a65c_size_8abf5) := goodIn_app (goodIn_of _ (by decide +kernel)) ggX1_usedBy_Jx4a65c_size_8abf5
set_option maxRecDepth 20000 in
theorem ggX1_usedBy_Jx4a65c_get_915e3 : GoodIn wsX1_usedBy wsJx4a65c_get_915e3 := goodIn_r _ [14, 10, 15, 16, 17, 18, 19, 20, 21, 22, 23, 24, 25, 8, 26, 27, 61, 62, 63] (by decide +kernel) (by decide +kernel)
set_option maxRecDepth 20000 in
theorem gX1_usedBy_Jx4a65c_get_915e3 : GoodIn wsX1_usedBy (wsV RX1 220 RJx4a65c yJx4a65c_get_915e3 wsJx4a65c_get_915e3) := goodIn_app (goodIn_of _ (by decide +kernel)) ggX1_usedBy_Jx4a65c_get_915e3
set_option maxRecDepth 20000 in
theorem ggX1_usedBy_X1_labelOfAddress : GoodIn wsX1_usedBy wsX1_labelOfAddress := goodIn_r _ [31] (by decide +kernel) (by decide +kernel)
set_option maxRecDepth 20000 in
theorem gX1_usedBy_X1_labelOfAddress : GoodIn wsX1_usedBy (va_wsS RX1 190 yX1_labelOfAddress wsX1_labelOfAddress) := goodIn_app (goodIn_of _ (by decide +kernel)) ggX1_usedBy_X1_labelOfAddress
set_option maxRecDepth 20000 in
theorem ggX1_usedBy_X0_use : GoodIn wsX1_usedBy wsX0_use := goodIn_r _ [36, 37, 38, 39, 40, 41, 42, 43, 44, 45, 46, 55, 56, 57, 58, 59, 60] (by decide +kernel) (by decide +kernel)
set_option maxRecDepth 20000 in
theorem gX1_usedBy_X0_use : GoodIn wsX1_usedBy (wsV RX1 210 RX0 yX0_use wsX0_use) := goodIn_app (goodIn_of _ (by decide +kernel)) ggX1_usedBy_X0_use
theorem dX1_usedBy_0 : decode cX1_usedBy 0 = .ok (.aload_n 0, 1) := by decide +kernel
theorem dX1_usedBy_1 : decode cX1_usedBy 1 = .ok (.getfield 16, 3) := by decide +kernel
theorem dX1_usedBy_4 : decode cX1_usedBy 4 = .ok (.iload_n 1, 1) := by decide +kernel
theorem dX1_usedBy_5 : decode cX1_usedBy 5 = .ok (.iaload, 1) := by decide +kernel
theorem dX1_usedBy_6 : decode cX1_usedBy 6 = .ok (.istore_n 2, 1) := by decide +kernel
theorem dX1_usedBy_7 : decode cX1_usedBy 7 = .ok (.iconst 0, 1) := by decide +kernel
theorem dX1_usedBy_8 : decode cX1_usedBy 8 = .ok (.istore_n 3, 1) := by decide +kernel
theorem dX1_usedBy_9 : decode cX1_usedBy 9 = .ok (.iload_n 3, 1) := by decide +kernel
theorem dX1_usedBy_10 : decode cX1_usedBy 10 = .ok (.aload_n 0, 1) := by decide +kernel
theorem dX1_usedBy_11 : decode cX1_usedBy 11 = .ok (.getfield 22, 3) := by decide +kernel
theorem dX1_usedBy_14 : decode cX1_usedBy 14 = .ok (.invokevirtual 217, 3) := by decide +kernel
theorem dX1_usedBy_17 : decode cX1_usedBy 17 = .ok (.if_icmp .ge 42, 3) := by decide +kernel
theorem dX1_usedBy_20 : decode cX1_usedBy 20 = .ok (.aload_n 0, 1) := by decide +kernel
theorem dX1_usedBy_21 : decode cX1_usedBy 21 = .ok (.getfield 22, 3) := by decide +kernel
theorem dX1_usedBy_24 : decode cX1_usedBy 24 = .ok (.iload_n 3, 1) := by decide +kernel
theorem dX1_usedBy_25 : decode cX1_usedBy 25 = .ok (.invokevirtual 220, 3) := by decide +kernel
theorem dX1_usedBy_28 : decode cX1_usedBy 28 = .ok (.checkcast 114, 3) := by decide +kernel
theorem dX1_usedBy_31 : decode cX1_usedBy 31 = .ok (.astore 4, 2) := by decide +kernel
theorem dX1_usedBy_33 : decode cX1_usedBy 33 = .ok (.aload 4, 2) := by decide +kernel
theorem dX1_usedBy_35 : decode cX1_usedBy 35 = .ok (.getfield 223, 3) := by decide +kernel
theorem dX1_usedBy_38 : decode cX1_usedBy 38 = .ok (.invokestatic 190, 3) := by decide +kernel
theorem dX1_usedBy_41 : decode cX1_usedBy 41 = .ok (.iload_n 1, 1) := by decide +kernel
theorem dX1_usedBy_42 : decode cX1_usedBy 42 = .ok (.if_icmp .ne 11, 3) := by decide +kernel
theorem dX1_usedBy_45 : decode cX1_usedBy 45 = .ok (.iload_n 2, 1) := by decide +kernel
theorem dX1_usedBy_46 : decode cX1_usedBy 46 = .ok (.aload 4, 2) := by decide +kernel
theorem dX1_usedBy_48 : decode cX1_usedBy 48 = .ok (.invokevirtual 210, 3) := by decide +kernel
theorem dX1_usedBy_51 : decode cX1_usedBy 51 = .ok (.iadd, 1) := by decide +kernel
theorem dX1_usedBy_52 : decode cX1_usedBy 52 = .ok (.istore_n 2, 1) := by decide +kernel
theorem dX1_usedBy_53 : decode cX1_usedBy 53 = .ok (.iinc 3 1, 3) := by decide +kernel
theorem dX1_usedBy_56 : decode cX1_usedBy 56 = .ok (.goto (-47), 3) := by decide +kernel
theorem dX1_usedBy_59 : decode cX1_usedBy 59 = .ok (.iload_n 2, 1) := by decide +kernel
theorem dX1_usedBy_60 : decode cX1_usedBy 60 = .ok (.ireturn, 1) := by decide +kernel
set_option maxRecDepth 20000 in
theorem ggX1_countFilesAt_Jx4a65c_size_8abf5 : GoodIn wsX1_countFilesAt wsJx4a65c_size_8abf5 := goodIn_r _ [8, 9, 45, 46, 47] (by decide +kernel) (by decide +kernel)
set_option maxRecDepth 20000 in
theorem gX1_countFilesAt_Jx4a65c_size_8abf5 : GoodIn wsX1_countFilesAt (wsV RX1 217 RJx4a65c yJx4a65c_size_8abf5 wsJx4a65c_size_8abf5) := goodIn_app (goodIn_of _ (by decide +kernel)) ggX1_countFilesAt_Jx4a65c_size_8abf5
set_option maxRecDepth 20000 in
theorem ggX1_countFilesAt_Jx4a65c_get_915e3 : GoodIn wsX1_countFilesAt wsJx4a65c_get_915e3 := goodIn_r _ [13, 9, 14, 15, 16, 17, 18, 19, 20, 21, 22, 23, 24, 7, 25, 26, 45, 46, 47] (by decide +kernel) (by decide +kernel)
set_option maxRecDepth 20000 in
theorem gX1_countFilesAt_Jx4a65c_get_915e3 : GoodIn wsX1_countFilesAt (wsV RX1 220 RJx4a65c yJx4a65c_get_915e3 wsJx4a65c_get_915e3) := goodIn_app (goodIn_of _ (by decide +kernel)) ggX1_countFilesAt_Jx4a65c_get_915e3
set_option maxRecDepth 20000 in
theorem ggX1_countFilesAt_X1_labelOfAddress : GoodIn wsX1_countFilesAt wsX1_labelOfAddress := goodIn_r _ [30] (by decide +kernel) (by decide +kernel)
set_option maxRecDepth 20000 in
theorem gX1_countFilesAt_X1_labelOfAddress : GoodIn wsX1_countFilesAt (va_wsS RX1 190 yX1_labelOfAddress wsX1_labelOfAddress) := goodIn_app (goodIn_of _ (by decide +kernel)) ggX1_countFilesAt_X1_labelOfAddress
theorem dX1_countFilesAt_0 : decode cX1_countFilesAt 0 = .ok (.iconst 0, 1) := by decide +kernel
theorem dX1_countFilesAt_1 : decode cX1_countFilesAt 1 = .ok (.istore_n 2, 1) := by decide +kernel
theorem dX1_countFilesAt_2 : decode cX1_countFilesAt 2 = .ok (.iconst 0, 1) := by decide +kernel
theorem dX1_countFilesAt_3 : decode cX1_countFilesAt 3 = .ok (.istore_n 3, 1) := by decide +kernel
theorem dX1_countFilesAt_4 : decode cX1_countFilesAt 4 = .ok (.iload_n 3, 1) := by decide +kernel
theorem dX1_countFilesAt_5 : decode cX1_countFilesAt 5 = .ok (.aload_n 0, 1) := by decide +kernel
theorem dX1_countFilesAt_6 : decode cX1_countFilesAt 6 = .ok (.getfield 22, 3) := by decide +kernel
theorem dX1_countFilesAt_9 : decode cX1_countFilesAt 9 = .ok (.invokevirtual 217, 3) := by decide +kernel
theorem dX1_countFilesAt_12 : decode cX1_countFilesAt 12 = .ok (.if_icmp .ge 33, 3) := by decide +kernel
theorem dX1_countFilesAt_15 : decode cX1_countFilesAt 15 = .ok (.aload_n 0, 1) := by decide +kernel
theorem dX1_countFilesAt_16 : decode cX1_countFilesAt 16 = .ok (.getfield 22, 3) := by decide +kernel
theorem dX1_countFilesAt_19 : decode cX1_countFilesAt 19 = .ok (.iload_n 3, 1) := by decide +kernel
theorem dX1_countFilesAt_20 : decode cX1_countFilesAt 20 = .ok (.invokevirtual 220, 3) := by decide +kernel
theorem dX1_countFilesAt_23 : decode cX1_countFilesAt 23 = .ok (.checkcast 114, 3) := by decide +kernel
theorem dX1_countFilesAt_26 : decode cX1_countFilesAt 26 = .ok (.getfield 223, 3) := by decide +kernel
theorem dX1_countFilesAt_29 : decode cX1_countFilesAt 29 = .ok (.invokestatic 190, 3) := by decide +kernel
theorem dX1_countFilesAt_32 : decode cX1_countFilesAt 32 = .ok (.iload_n 1, 1) := by decide +kernel
theorem dX1_countFilesAt_33 : decode cX1_countFilesAt 33 = .ok (.if_icmp .ne 6, 3) := by decide +kernel
theorem dX1_countFilesAt_36 : decode cX1_countFilesAt 36 = .ok (.iinc 2 1, 3) := by decide +kernel
theorem dX1_countFilesAt_39 : decode cX1_countFilesAt 39 = .ok (.iinc 3 1, 3) := by decide +kernel
theorem dX1_countFilesAt_42 : decode cX1_countFilesAt 42 = .ok (.goto (-38), 3) := by decide +kernel
theorem dX1_countFilesAt_45 : decode cX1_countFilesAt 45 = .ok (.iload_n 2, 1) := by decide +kernel
theorem dX1_countFilesAt_46 : decode cX1_countFilesAt 46 = .ok (.ireturn, 1) := by decide +kernel
theorem dX1_addressOf_0 : decode cX1_addressOf 0 = .ok (.bipush 16, 2) := by decide +kernel
theorem dX1_addressOf_2 : decode cX1_addressOf 2 = .ok (.iload_n 0, 1) := by decide +kernel
theorem dX1_addressOf_3 : decode cX1_addressOf 3 = .ok (.imul, 1) := by decide +kernel
theorem dX1_addressOf_4 : decode cX1_addressOf 4 = .ok (.iload_n 1, 1) := by decide +kernel
theorem dX1_addressOf_5 : decode cX1_addressOf 5 = .ok (.iadd, 1) := by decide +kernel
theorem dX1_addressOf_6 : decode cX1_addressOf 6 = .ok (.ireturn, 1) := by decide +kernel
theorem dX1_labelOfAddress_0 : decode cX1_labelOfAddress 0 = .ok (.iload_n 0, 1) := by decide +kernel
theorem dX1_labelOfAddress_1 : decode cX1_labelOfAddress 1 = .ok (.bipush 16, 2) := by decide +kernel
theorem dX1_labelOfAddress_3 : decode cX1_labelOfAddress 3 = .ok (.idiv, 1) := by decide +kernel
theorem dX1_labelOfAddress_4 : decode cX1_labelOfAddress 4 = .ok (.ireturn, 1) := by decide +kernel
set_option maxRecDepth 20000 in
theorem ggX1_isFull_Jx4a65c_size_8abf5 : GoodIn wsX1_isFull wsJx4a65c_size_8abf5 := goodIn_r _ [6, 7, 16, 17, 18] (by decide +kernel) (by decide +kernel)
set_option maxRecDepth 20000 in
theorem gX1_isFull_Jx4a65c_size_8abf5 : GoodIn wsX1_isFull (wsV RX1 217 RJx4a65c yJx4a65c_size_8abf5 wsJx4a65c_size_8abf5) := goodIn_app (goodIn_of _ (by decide +kernel)) ggX1_isFull_Jx4a65c_size_8abf5
theorem dX1_isFull_0 : decode cX1_isFull 0 = .ok (.aload_n 0, 1) := by decide +kernel
theorem dX1_isFull_1 : decode cX1_isFull 1 = .ok (.getfield 22, 3) := by decide +kernel
theorem dX1_isFull_4 : decode cX1_isFull 4 = .ok (.invokevirtual 217, 3) := by decide +kernel
theorem dX1_isFull_7 : decode cX1_isFull 7 = .ok (.sipush 200, 3) := by decide +kernel
theorem dX1_isFull_10 : decode cX1_isFull 10 = .ok (.if_icmp .lt 7, 3) := by decide +kernel
theorem dX1_isFull_13 : decode cX1_isFull 13 = .ok (.iconst 1, 1) := by decide +kernel
theorem dX1_isFull_14 : decode cX1_isFull 14 = .ok (.goto 4, 3) := by decide +kernel
theorem dX1_isFull_17 : decode cX1_isFull 17 = .ok (.iconst 0, 1) := by decide +kernel
theorem dX1_isFull_18 : decode cX1_isFull 18 = .ok (.ireturn, 1) := by decide +kernel
set_option maxRecDepth 20000 in
theorem ggX1_placeOf_Jx4a65c_size_8abf5 : GoodIn wsX1_placeOf wsJx4a65c_size_8abf5 := goodIn_r _ [8, 9, 41, 42, 43] (by decide +kernel) (by decide +kernel)
set_option maxRecDepth 20000 in
theorem gX1_placeOf_Jx4a65c_size_8abf5 : GoodIn wsX1_placeOf (wsV RX1 217 RJx4a65c yJx4a65c_size_8abf5 wsJx4a65c_size_8abf5) := goodIn_app (goodIn_of _ (by decide +kernel)) ggX1_placeOf_Jx4a65c_size_8abf5
set_option maxRecDepth 20000 in
theorem ggX1_placeOf_Jx4a65c_get_915e3 : GoodIn wsX1_placeOf wsJx4a65c_get_915e3 := goodIn_r _ [13, 9, 14, 15, 16, 17, 18, 19, 20, 21, 22, 23, 24, 7, 25, 26, 41, 42, 43] (by decide +kernel) (by decide +kernel)
set_option maxRecDepth 20000 in
theorem gX1_placeOf_Jx4a65c_get_915e3 : GoodIn wsX1_placeOf (wsV RX1 220 RJx4a65c yJx4a65c_get_915e3 wsJx4a65c_get_915e3) := goodIn_app (goodIn_of _ (by decide +kernel)) ggX1_placeOf_Jx4a65c_get_915e3
theorem dX1_placeOf_0 : decode cX1_placeOf 0 = .ok (.iconst 0, 1) := by decide +kernel
theorem dX1_placeOf_1 : decode cX1_placeOf 1 = .ok (.istore_n 2, 1) := by decide +kernel
theorem dX1_placeOf_2 : decode cX1_placeOf 2 = .ok (.iload_n 2, 1) := by decide +kernel
theorem dX1_placeOf_3 : decode cX1_placeOf 3 = .ok (.aload_n 0, 1) := by decide +kernel
theorem dX1_placeOf_4 : decode cX1_placeOf 4 = .ok (.getfield 22, 3) := by decide +kernel
theorem dX1_placeOf_7 : decode cX1_placeOf 7 = .ok (.invokevirtual 217, 3) := by decide +kernel
theorem dX1_placeOf_10 : decode cX1_placeOf 10 = .ok (.if_icmp .ge 29, 3) := by decide +kernel
theorem dX1_placeOf_13 : decode cX1_placeOf 13 = .ok (.aload_n 0, 1) := by decide +kernel
theorem dX1_placeOf_14 : decode cX1_placeOf 14 = .ok (.getfield 22, 3) := by decide +kernel
theorem dX1_placeOf_17 : decode cX1_placeOf 17 = .ok (.iload_n 2, 1) := by decide +kernel
theorem dX1_placeOf_18 : decode cX1_placeOf 18 = .ok (.invokevirtual 220, 3) := by decide +kernel
theorem dX1_placeOf_21 : decode cX1_placeOf 21 = .ok (.checkcast 114, 3) := by decide +kernel
theorem dX1_placeOf_24 : decode cX1_placeOf 24 = .ok (.getfield 223, 3) := by decide +kernel
theorem dX1_placeOf_27 : decode cX1_placeOf 27 = .ok (.iload_n 1, 1) := by decide +kernel
theorem dX1_placeOf_28 : decode cX1_placeOf 28 = .ok (.if_icmp .ne 5, 3) := by decide +kernel
theorem dX1_placeOf_31 : decode cX1_placeOf 31 = .ok (.iload_n 2, 1) := by decide +kernel
theorem dX1_placeOf_32 : decode cX1_placeOf 32 = .ok (.ireturn, 1) := by decide +kernel
theorem dX1_placeOf_33 : decode cX1_placeOf 33 = .ok (.iinc 2 1, 3) := by decide +kernel
theorem dX1_placeOf_36 : decode cX1_placeOf 36 = .ok (.goto (-34), 3) := by decide +kernel
theorem dX1_placeOf_39 : decode cX1_placeOf 39 = .ok (.iconst (-1), 1) := by decide +kernel
theorem dX1_placeOf_40 : decode cX1_placeOf 40 = .ok (.ireturn, 1) := by decide +kernel
set_option maxRecDepth 20000 in
theorem ggX1_find_X1_addressOf : GoodIn wsX1_find wsX1_addressOf := goodIn_r _ [6] (by decide +kernel) (by decide +kernel)
set_option maxRecDepth 20000 in
theorem gX1_find_X1_addressOf : GoodIn wsX1_find (va_wsS RX1 132 yX1_addressOf wsX1_addressOf) := goodIn_app (goodIn_of _ (by decide +kernel)) ggX1_find_X1_addressOf
set_option maxRecDepth 20000 in
theorem ggX1_find_X1_placeOf : GoodIn wsX1_find wsX1_placeOf := goodIn_r _ [10, 1, 2, 11, 12, 13, 14, 15, 16, 17, 18, 19, 20, 21, 22, 23, 24, 25, 26, 27, 28, 29, 30, 31, 32, 33, 34, 35, 36, 37, 38, 39, 40, 41, 42, 43, 44, 45, 46, 47, 48, 49, 50, 51] (by decide +kernel) (by decide +kernel)
set_option maxRecDepth 20000 in
theorem gX1_find_X1_placeOf : GoodIn wsX1_find (wsV RX1 136 RX1 yX1_placeOf wsX1_placeOf) := goodIn_app (goodIn_of _ (by decide +kernel)) ggX1_find_X1_placeOf
set_option maxRecDepth 20000 in
theorem ggX1_find_Jx4a65c_get_915e3 : GoodIn wsX1_find wsJx4a65c_get_915e3 := goodIn_r _ [21, 17, 22, 23, 24, 25, 26, 27, 28, 29, 30, 31, 32, 15, 33, 34, 49, 50, 51] (by decide +kernel) (by decide +kernel)
set_option maxRecDepth 20000 in
theorem gX1_find_Jx4a65c_get_915e3 : GoodIn wsX1_find (wsV RX1 220 RJx4a65c yJx4a65c_get_915e3 wsJx4a65c_get_915e3) := goodIn_app (goodIn_of _ (by decide +kernel)) ggX1_find_Jx4a65c_get_915e3
theorem dX1_find_0 : decode cX1_find 0 = .ok (.aload_n 0, 1) := by decide +kernel
theorem dX1_find_1 : decode cX1_find 1 = .ok (.iload_n 1, 1) := by decide +kernel
theorem dX1_find_2 : decode cX1_find 2 = .ok (.iload_n 2, 1) := by decide +kernel
theorem dX1_find_3 : decode cX1_find 3 = .ok (.invokestatic 132, 3) := by decide +kernel
theorem dX1_find_6 : decode cX1_find 6 = .ok (.invokevirtual 136, 3) := by decide +kernel
theorem dX1_find_9 : decode cX1_find 9 = .ok (.istore_n 3, 1) := by decide +kernel
theorem dX1_find_10 : decode cX1_find 10 = .ok (.iload_n 3, 1) := by decide +kernel
theorem dX1_find_11 : decode cX1_find 11 = .ok (.iconst (-1), 1) := by decide +kernel
theorem dX1_find_12 : decode cX1_find 12 = .ok (.if_icmp .ne 7, 3) := by decide +kernel
theorem dX1_find_15 : decode cX1_find 15 = .ok (.aconst_null, 1) := by decide +kernel
theorem dX1_find_16 : decode cX1_find 16 = .ok (.goto 14, 3) := by decide +kernel
theorem dX1_find_19 : decode cX1_find 19 = .ok (.aload_n 0, 1) := by decide +kernel
theorem dX1_find_20 : decode cX1_find 20 = .ok (.getfield 22, 3) := by decide +kernel
theorem dX1_find_23 : decode cX1_find 23 = .ok (.iload_n 3, 1) := by decide +kernel
theorem dX1_find_24 : decode cX1_find 24 = .ok (.invokevirtual 220, 3) := by decide +kernel
theorem dX1_find_27 : decode cX1_find 27 = .ok (.checkcast 114, 3) := by decide +kernel
theorem dX1_find_30 : decode cX1_find 30 = .ok (.areturn, 1) := by decide +kernel
set_option maxRecDepth 20000 in
theorem ggX1_store_Jx4a65c_size_8abf5 : GoodIn wsX1_store wsJx4a65c_size_8abf5 := goodIn_r _ [8, 9, 95, 96, 97] (by decide +kernel) (by decide +kernel)
set_option maxRecDepth 20000 in
theorem gX1_store_Jx4a65c_size_8abf5 : GoodIn wsX1_store (wsV RX1 217 RJx4a65c yJx4a65c_size_8abf5 wsJx4a65c_size_8abf5) := goodIn_app (goodIn_of _ (by decide +kernel)) ggX1_store_Jx4a65c_size_8abf5
set_option maxRecDepth 20000 in
theorem ggX1_store_Jx4a65c_get_915e3 : GoodIn wsX1_store wsJx4a65c_get_915e3 := goodIn_r _ [13, 9, 14, 15, 16, 17, 18, 19, 20, 21, 22, 23, 24, 7, 25, 26, 95, 96, 97] (by decide +kernel) (by decide +kernel)
set_option maxRecDepth 20000 in
theorem gX1_store_Jx4a65c_get_915e3 : GoodIn wsX1_store (wsV RX1 220 RJx4a65c yJx4a65c_get_915e3 wsJx4a65c_get_915e3) := goodIn_app (goodIn_of _ (by decide +kernel)) ggX1_store_Jx4a65c_get_915e3
set_option maxRecDepth 20000 in
theorem ggX1_store_Jx4a65c_add_7a177 : GoodIn wsX1_store wsJx4a65c_add_7a177 := goodIn_r _ [30, 31, 32, 9, 26, 33, 34, 35, 36, 37, 38, 39, 7, 40, 41, 42, 43, 44, 45, 46, 47, 48, 49, 50, 51, 52, 53, 54, 55, 56, 57, 58, 59, 60, 61, 62, 63, 64, 65, 66, 67, 68, 69, 70, 71, 72, 73, 74, 75, 76, 77, 78, 79, 80, 95, 96, 97] (by decide +kernel) (by decide +kernel)
set_option maxRecDepth 20000 in
theorem gX1_store_Jx4a65c_add_7a177 : GoodIn wsX1_store (wsV RX1 226 RJx4a65c yJx4a65c_add_7a177 wsJx4a65c_add_7a177) := goodIn_app (goodIn_of _ (by decide +kernel)) ggX1_store_Jx4a65c_add_7a177
theorem dX1_store_0 : decode cX1_store 0 = .ok (.aload_n 0, 1) := by decide +kernel
theorem dX1_store_1 : decode cX1_store 1 = .ok (.getfield 22, 3) := by decide +kernel
theorem dX1_store_4 : decode cX1_store 4 = .ok (.invokevirtual 217, 3) := by decide +kernel
theorem dX1_store_7 : decode cX1_store 7 = .ok (.istore_n 2, 1) := by decide +kernel
theorem dX1_store_8 : decode cX1_store 8 = .ok (.iload_n 2, 1) := by decide +kernel
theorem dX1_store_9 : decode cX1_store 9 = .ok (.ifCond .le 32, 3) := by decide +kernel
theorem dX1_store_12 : decode cX1_store 12 = .ok (.aload_n 0, 1) := by decide +kernel
theorem dX1_store_13 : decode cX1_store 13 = .ok (.getfield 22, 3) := by decide +kernel
theorem dX1_store_16 : decode cX1_store 16 = .ok (.iload_n 2, 1) := by decide +kernel
theorem dX1_store_17 : decode cX1_store 17 = .ok (.iconst 1, 1) := by decide +kernel
theorem dX1_store_18 : decode cX1_store 18 = .ok (.isub, 1) := by decide +kernel
theorem dX1_store_19 : decode cX1_store 19 = .ok (.invokevirtual 220, 3) := by decide +kernel
theorem dX1_store_22 : decode cX1_store 22 = .ok (.checkcast 114, 3) := by decide +kernel
theorem dX1_store_25 : decode cX1_store 25 = .ok (.getfield 223, 3) := by decide +kernel
theorem dX1_store_28 : decode cX1_store 28 = .ok (.aload_n 1, 1) := by decide +kernel
theorem dX1_store_29 : decode cX1_store 29 = .ok (.getfield 223, 3) := by decide +kernel
theorem dX1_store_32 : decode cX1_store 32 = .ok (.if_icmp .le 9, 3) := by decide +kernel
theorem dX1_store_35 : decode cX1_store 35 = .ok (.iinc 2 (-1), 3) := by decide +kernel
theorem dX1_store_38 : decode cX1_store 38 = .ok (.goto (-30), 3) := by decide +kernel
theorem dX1_store_41 : decode cX1_store 41 = .ok (.aload_n 0, 1) := by decide +kernel
theorem dX1_store_42 : decode cX1_store 42 = .ok (.getfield 22, 3) := by decide +kernel
theorem dX1_store_45 : decode cX1_store 45 = .ok (.iload_n 2, 1) := by decide +kernel
theorem dX1_store_46 : decode cX1_store 46 = .ok (.aload_n 1, 1) := by decide +kernel
theorem dX1_store_47 : decode cX1_store 47 = .ok (.invokevirtual 226, 3) := by decide +kernel
theorem dX1_store_50 : decode cX1_store 50 = .ok (.return_, 1) := by decide +kernel
theorem dX1_listingOf_0 : decode cX1_listingOf 0 = .ok (.iload_n 0, 1) := by decide +kernel
theorem dX1_listingOf_1 : decode cX1_listingOf 1 = .ok (.sipush 1024, 3) := by decide +kernel
theorem dX1_listingOf_4 : decode cX1_listingOf 4 = .ok (.imul, 1) := by decide +kernel
theorem dX1_listingOf_5 : decode cX1_listingOf 5 = .ok (.iload_n 1, 1) := by decide +kernel
theorem dX1_listingOf_6 : decode cX1_listingOf 6 = .ok (.iadd, 1) := by decide +kernel
theorem dX1_listingOf_7 : decode cX1_listingOf 7 = .ok (.sipush 1024, 3) := by decide +kernel
theorem dX1_listingOf_10 : decode cX1_listingOf 10 = .ok (.imul, 1) := by decide +kernel
theorem dX1_listingOf_11 : decode cX1_listingOf 11 = .ok (.iload_n 2, 1) := by decide +kernel
theorem dX1_listingOf_12 : decode cX1_listingOf 12 = .ok (.iadd, 1) := by decide +kernel
theorem dX1_listingOf_13 : decode cX1_listingOf 13 = .ok (.ireturn, 1) := by decide +kernel
theorem dX1_isListed_0 : decode cX1_isListed 0 = .ok (.iconst 0, 1) := by decide +kernel
theorem dX1_isListed_1 : decode cX1_isListed 1 = .ok (.istore_n 2, 1) := by decide +kernel
theorem dX1_isListed_2 : decode cX1_isListed 2 = .ok (.iload_n 2, 1) := by decide +kernel
theorem dX1_isListed_3 : decode cX1_isListed 3 = .ok (.aload_n 0, 1) := by decide +kernel
theorem dX1_isListed_4 : decode cX1_isListed 4 = .ok (.getfield 29, 3) := by decide +kernel
theorem dX1_isListed_7 : decode cX1_isListed 7 = .ok (.if_icmp .ge 21, 3) := by decide +kernel
theorem dX1_isListed_10 : decode cX1_isListed 10 = .ok (.aload_n 0, 1) := by decide +kernel
theorem dX1_isListed_11 : decode cX1_isListed 11 = .ok (.getfield 26, 3) := by decide +kernel
theorem dX1_isListed_14 : decode cX1_isListed 14 = .ok (.iload_n 2, 1) := by decide +kernel
theorem dX1_isListed_15 : decode cX1_isListed 15 = .ok (.iaload, 1) := by decide +kernel
theorem dX1_isListed_16 : decode cX1_isListed 16 = .ok (.iload_n 1, 1) := by decide +kernel
theorem dX1_isListed_17 : decode cX1_isListed 17 = .ok (.if_icmp .ne 5, 3) := by decide +kernel
theorem dX1_isListed_20 : decode cX1_isListed 20 = .ok (.iconst 1, 1) := by decide +kernel
theorem dX1_isListed_21 : decode cX1_isListed 21 = .ok (.ireturn, 1) := by decide +kernel
theorem dX1_isListed_22 : decode cX1_isListed 22 = .ok (.iinc 2 1, 3) := by decide +kernel
theorem dX1_isListed_25 : decode cX1_isListed 25 = .ok (.goto (-23), 3) := by decide +kernel
theorem dX1_isListed_28 : decode cX1_isListed 28 = .ok (.iconst 0, 1) := by decide +kernel
theorem dX1_isListed_29 : decode cX1_isListed 29 = .ok (.ireturn, 1) := by decide +kernel
theorem dX1_addListing_0 : decode cX1_addListing 0 = .ok (.aload_n 0, 1) := by decide +kernel
theorem dX1_addListing_1 : decode cX1_addListing 1 = .ok (.getfield 26, 3) := by decide +kernel
theorem dX1_addListing_4 : decode cX1_addListing 4 = .ok (.aload_n 0, 1) := by decide +kernel
theorem dX1_addListing_5 : decode cX1_addListing 5 = .ok (.getfield 29, 3) := by decide +kernel
theorem dX1_addListing_8 : decode cX1_addListing 8 = .ok (.iload_n 1, 1) := by decide +kernel
theorem dX1_addListing_9 : decode cX1_addListing 9 = .ok (.iastore, 1) := by decide +kernel
theorem dX1_addListing_10 : decode cX1_addListing 10 = .ok (.aload_n 0, 1) := by decide +kernel
theorem dX1_addListing_11 : decode cX1_addListing 11 = .ok (.dup, 1) := by decide +kernel
theorem dX1_addListing_12 : decode cX1_addListing 12 = .ok (.getfield 29, 3) := by decide +kernel
theorem dX1_addListing_15 : decode cX1_addListing 15 = .ok (.iconst 1, 1) := by decide +kernel
theorem dX1_addListing_16 : decode cX1_addListing 16 = .ok (.iadd, 1) := by decide +kernel
theorem dX1_addListing_17 : decode cX1_addListing 17 = .ok (.putfield 29, 3) := by decide +kernel
theorem dX1_addListing_20 : decode cX1_addListing 20 = .ok (.return_, 1) := by decide +kernel
theorem dX1_dropListing_0 : decode cX1_dropListing 0 = .ok (.iconst 0, 1) := by decide +kernel
theorem dX1_dropListing_1 : decode cX1_dropListing 1 = .ok (.istore_n 2, 1) := by decide +kernel
theorem dX1_dropListing_2 : decode cX1_dropListing 2 = .ok (.iconst 0, 1) := by decide +kernel
theorem dX1_dropListing_3 : decode cX1_dropListing 3 = .ok (.istore_n 3, 1) := by decide +kernel
theorem dX1_dropListing_4 : decode cX1_dropListing 4 = .ok (.iload_n 3, 1) := by decide +kernel
theorem dX1_dropListing_5 : decode cX1_dropListing 5 = .ok (.aload_n 0, 1) := by decide +kernel
theorem dX1_dropListing_6 : decode cX1_dropListing 6 = .ok (.getfield 29, 3) := by decide +kernel
theorem dX1_dropListing_9 : decode cX1_dropListing 9 = .ok (.if_icmp .ge 34, 3) := by decide +kernel
theorem dX1_dropListing_12 : decode cX1_dropListing 12 = .ok (.aload_n 0, 1) := by decide +kernel
theorem dX1_dropListing_13 : decode cX1_dropListing 13 = .ok (.getfield 26, 3) := by decide +kernel
theorem dX1_dropListing_16 : decode cX1_dropListing 16 = .ok (.iload_n 3, 1) := by decide +kernel
theorem dX1_dropListing_17 : decode cX1_dropListing 17 = .ok (.iaload, 1) := by decide +kernel
theorem dX1_dropListing_18 : decode cX1_dropListing 18 = .ok (.iload_n 1, 1) := by decide +kernel
theorem dX1_dropListing_19 : decode cX1_dropListing 19 = .ok (.if_icmp .eq 18, 3) := by decide +kernel
theorem dX1_dropListing_22 : decode cX1_dropListing 22 = .ok (.aload_n 0, 1) := by decide +kernel
theorem dX1_dropListing_23 : decode cX1_dropListing 23 = .ok (.getfield 26, 3) := by decide +kernel
theorem dX1_dropListing_26 : decode cX1_dropListing 26 = .ok (.iload_n 2, 1) := by decide +kernel
theorem dX1_dropListing_27 : decode cX1_dropListing 27 = .ok (.aload_n 0, 1) := by decide +kernel
theorem dX1_dropListing_28 : decode cX1_dropListing 28 = .ok (.getfield 26, 3) := by decide +kernel
theorem dX1_dropListing_31 : decode cX1_dropListing 31 = .ok (.iload_n 3, 1) := by decide +kernel
theorem dX1_dropListing_32 : decode cX1_dropListing 32 = .ok (.iaload, 1) := by decide +kernel
theorem dX1_dropListing_33 : decode cX1_dropListing 33 = .ok (.iastore, 1) := by decide +kernel
theorem dX1_dropListing_34 : decode cX1_dropListing 34 = .ok (.iinc 2 1, 3) := by decide +kernel
theorem dX1_dropListing_37 : decode cX1_dropListing 37 = .ok (.iinc 3 1, 3) := by decide +kernel
theorem dX1_dropListing_40 : decode cX1_dropListing 40 = .ok (.goto (-36), 3) := by decide +kernel
theorem dX1_dropListing_43 : decode cX1_dropListing 43 = .ok (.aload_n 0, 1) := by decide +kernel
theorem dX1_dropListing_44 : decode cX1_dropListing 44 = .ok (.iload_n 2, 1) := by decide +kernel
theorem dX1_dropListing_45 : decode cX1_dropListing 45 = .ok (.putfield 29, 3) := by decide +kernel
theorem dX1_dropListing_48 : decode cX1_dropListing 48 = .ok (.return_, 1) := by decide +kernel
theorem dX1_forgetSeen_0 : decode cX1_forgetSeen 0 = .ok (.aload_n 0, 1) := by decide +kernel
theorem dX1_forgetSeen_1 : decode cX1_forgetSeen 1 = .ok (.getfield 38, 3) := by decide +kernel
theorem dX1_forgetSeen_4 : decode cX1_forgetSeen 4 = .ok (.iload_n 1, 1) := by decide +kernel
theorem dX1_forgetSeen_5 : decode cX1_forgetSeen 5 = .ok (.iconst 0, 1) := by decide +kernel
theorem dX1_forgetSeen_6 : decode cX1_forgetSeen 6 = .ok (.iastore, 1) := by decide +kernel
theorem dX1_forgetSeen_7 : decode cX1_forgetSeen 7 = .ok (.return_, 1) := by decide +kernel
theorem dX1_show_0 : decode cX1_show 0 = .ok (.aload_n 0, 1) := by decide +kernel
theorem dX1_show_1 : decode cX1_show 1 = .ok (.getfield 38, 3) := by decide +kernel
theorem dX1_show_4 : decode cX1_show 4 = .ok (.iload_n 1, 1) := by decide +kernel
theorem dX1_show_5 : decode cX1_show 5 = .ok (.iaload, 1) := by decide +kernel
theorem dX1_show_6 : decode cX1_show 6 = .ok (.sipush 200, 3) := by decide +kernel
theorem dX1_show_9 : decode cX1_show 9 = .ok (.if_icmp .ge 27, 3) := by decide +kernel
theorem dX1_show_12 : decode cX1_show 12 = .ok (.aload_n 0, 1) := by decide +kernel
theorem dX1_show_13 : decode cX1_show 13 = .ok (.getfield 35, 3) := by decide +kernel
theorem dX1_show_16 : decode cX1_show 16 = .ok (.iload_n 1, 1) := by decide +kernel
theorem dX1_show_17 : decode cX1_show 17 = .ok (.aaload, 1) := by decide +kernel
theorem dX1_show_18 : decode cX1_show 18 = .ok (.aload_n 0, 1) := by decide +kernel
theorem dX1_show_19 : decode cX1_show 19 = .ok (.getfield 38, 3) := by decide +kernel
theorem dX1_show_22 : decode cX1_show 22 = .ok (.iload_n 1, 1) := by decide +kernel
theorem dX1_show_23 : decode cX1_show 23 = .ok (.iaload, 1) := by decide +kernel
theorem dX1_show_24 : decode cX1_show 24 = .ok (.iload_n 2, 1) := by decide +kernel
theorem dX1_show_25 : decode cX1_show 25 = .ok (.iastore, 1) := by decide +kernel
theorem dX1_show_26 : decode cX1_show 26 = .ok (.aload_n 0, 1) := by decide +kernel
theorem dX1_show_27 : decode cX1_show 27 = .ok (.getfield 38, 3) := by decide +kernel
theorem dX1_show_30 : decode cX1_show 30 = .ok (.iload_n 1, 1) := by decide +kernel
theorem dX1_show_31 : decode cX1_show 31 = .ok (.dup2, 1) := by decide +kernel
theorem dX1_show_32 : decode cX1_show 32 = .ok (.iaload, 1) := by decide +kernel
theorem dX1_show_33 : decode cX1_show 33 = .ok (.iconst 1, 1) := by decide +kernel
theorem dX1_show_34 : decode cX1_show 34 = .ok (.iadd, 1) := by decide +kernel
theorem dX1_show_35 : decode cX1_show 35 = .ok (.iastore, 1) := by decide +kernel
theorem dX1_show_36 : decode cX1_show 36 = .ok (.return_, 1) := by decide +kernel
set_option maxRecDepth 20000 in
theorem ggX1_showFilesIn_Jx4a65c_size_8abf5 : GoodIn wsX1_showFilesIn wsJx4a65c_size_8abf5 := goodIn_r _ [10, 11, 71, 72, 73] (by decide +kernel) (by decide +kernel)
set_option maxRecDepth 20000 in
theorem gX1_showFilesIn_Jx4a65c_size_8abf5 : GoodIn wsX1_showFilesIn (wsV RX1 217 RJx4a65c yJx4a65c_size_8abf5 wsJx4a65c_size_8abf5) := goodIn_app (goodIn_of _ (by decide +kernel)) ggX1_showFilesIn_Jx4a65c_size_8abf5
set_option maxRecDepth 20000 in
theorem ggX1_showFilesIn_Jx4a65c_get_915e3 : GoodIn wsX1_showFilesIn wsJx4a65c_get_915e3 := goodIn_r _ [15, 11, 16, 17, 18, 19, 20, 21, 22, 23, 24, 25, 26, 9, 27, 28, 71, 72, 73] (by decide +kernel) (by decide +kernel)
set_option maxRecDepth 20000 in
theorem gX1_showFilesIn_Jx4a65c_get_915e3 : GoodIn wsX1_showFilesIn (wsV RX1 220 RJx4a65c yJx4a65c_get_915e3 wsJx4a65c_get_915e3) := goodIn_app (goodIn_of _ (by decide +kernel)) ggX1_showFilesIn_Jx4a65c_get_915e3
set_option maxRecDepth 20000 in
theorem ggX1_showFilesIn_X1_labelOfAddress : GoodIn wsX1_showFilesIn wsX1_labelOfAddress := goodIn_r _ [32] (by decide +kernel) (by decide +kernel)
set_option maxRecDepth 20000 in
theorem gX1_showFilesIn_X1_labelOfAddress : GoodIn wsX1_showFilesIn (va_wsS RX1 190 yX1_labelOfAddress wsX1_labelOfAddress) := goodIn_app (goodIn_of _ (by decide +kernel)) ggX1_showFilesIn_X1_labelOfAddress
set_option maxRecDepth 20000 in
theorem ggX1_showFilesIn_X1_mayFlow : GoodIn wsX1_showFilesIn wsX1_mayFlow := goodIn_r _ [35, 36, 37, 31, 38, 39, 40, 41, 42, 43, 44, 45, 46, 47, 48, 49, 50] (by decide +kernel) (by decide +kernel)
set_option maxRecDepth 20000 in
theorem gX1_showFilesIn_X1_mayFlow : GoodIn wsX1_showFilesIn (va_wsS RX1 84 yX1_mayFlow wsX1_mayFlow) := goodIn_app (goodIn_of _ (by decide +kernel)) ggX1_showFilesIn_X1_mayFlow
set_option maxRecDepth 20000 in
theorem ggX1_showFilesIn_X1_show : GoodIn wsX1_showFilesIn wsX1_show := goodIn_r _ [54, 55, 56, 57, 58, 59, 60, 61, 62, 63, 64] (by decide +kernel) (by decide +kernel)
set_option maxRecDepth 20000 in
theorem gX1_showFilesIn_X1_show : GoodIn wsX1_showFilesIn (wsV RX1 146 RX1 yX1_show wsX1_show) := goodIn_app (goodIn_of _ (by decide +kernel)) ggX1_showFilesIn_X1_show
theorem dX1_showFilesIn_0 : decode cX1_showFilesIn 0 = .ok (.aload_n 0, 1) := by decide +kernel
theorem dX1_showFilesIn_1 : decode cX1_showFilesIn 1 = .ok (.getfield 9, 3) := by decide +kernel
theorem dX1_showFilesIn_4 : decode cX1_showFilesIn 4 = .ok (.iload_n 2, 1) := by decide +kernel
theorem dX1_showFilesIn_5 : decode cX1_showFilesIn 5 = .ok (.iaload, 1) := by decide +kernel
theorem dX1_showFilesIn_6 : decode cX1_showFilesIn 6 = .ok (.istore_n 3, 1) := by decide +kernel
theorem dX1_showFilesIn_7 : decode cX1_showFilesIn 7 = .ok (.iconst 0, 1) := by decide +kernel
theorem dX1_showFilesIn_8 : decode cX1_showFilesIn 8 = .ok (.istore 4, 2) := by decide +kernel
theorem dX1_showFilesIn_10 : decode cX1_showFilesIn 10 = .ok (.iload 4, 2) := by decide +kernel
theorem dX1_showFilesIn_12 : decode cX1_showFilesIn 12 = .ok (.aload_n 0, 1) := by decide +kernel
theorem dX1_showFilesIn_13 : decode cX1_showFilesIn 13 = .ok (.getfield 22, 3) := by decide +kernel
theorem dX1_showFilesIn_16 : decode cX1_showFilesIn 16 = .ok (.invokevirtual 217, 3) := by decide +kernel
theorem dX1_showFilesIn_19 : decode cX1_showFilesIn 19 = .ok (.if_icmp .ge 57, 3) := by decide +kernel
theorem dX1_showFilesIn_22 : decode cX1_showFilesIn 22 = .ok (.aload_n 0, 1) := by decide +kernel
theorem dX1_showFilesIn_23 : decode cX1_showFilesIn 23 = .ok (.getfield 22, 3) := by decide +kernel
theorem dX1_showFilesIn_26 : decode cX1_showFilesIn 26 = .ok (.iload 4, 2) := by decide +kernel
theorem dX1_showFilesIn_28 : decode cX1_showFilesIn 28 = .ok (.invokevirtual 220, 3) := by decide +kernel
theorem dX1_showFilesIn_31 : decode cX1_showFilesIn 31 = .ok (.checkcast 114, 3) := by decide +kernel
theorem dX1_showFilesIn_34 : decode cX1_showFilesIn 34 = .ok (.astore 5, 2) := by decide +kernel
theorem dX1_showFilesIn_36 : decode cX1_showFilesIn 36 = .ok (.aload 5, 2) := by decide +kernel
theorem dX1_showFilesIn_38 : decode cX1_showFilesIn 38 = .ok (.getfield 230, 3) := by decide +kernel
theorem dX1_showFilesIn_41 : decode cX1_showFilesIn 41 = .ok (.iload_n 1, 1) := by decide +kernel
theorem dX1_showFilesIn_42 : decode cX1_showFilesIn 42 = .ok (.if_icmp .ne 28, 3) := by decide +kernel
theorem dX1_showFilesIn_45 : decode cX1_showFilesIn 45 = .ok (.aload 5, 2) := by decide +kernel
theorem dX1_showFilesIn_47 : decode cX1_showFilesIn 47 = .ok (.getfield 223, 3) := by decide +kernel
theorem dX1_showFilesIn_50 : decode cX1_showFilesIn 50 = .ok (.invokestatic 190, 3) := by decide +kernel
theorem dX1_showFilesIn_53 : decode cX1_showFilesIn 53 = .ok (.iload_n 3, 1) := by decide +kernel
theorem dX1_showFilesIn_54 : decode cX1_showFilesIn 54 = .ok (.invokestatic 84, 3) := by decide +kernel
theorem dX1_showFilesIn_57 : decode cX1_showFilesIn 57 = .ok (.ifCond .eq 13, 3) := by decide +kernel
theorem dX1_showFilesIn_60 : decode cX1_showFilesIn 60 = .ok (.aload_n 0, 1) := by decide +kernel
theorem dX1_showFilesIn_61 : decode cX1_showFilesIn 61 = .ok (.iload_n 2, 1) := by decide +kernel
theorem dX1_showFilesIn_62 : decode cX1_showFilesIn 62 = .ok (.aload 5, 2) := by decide +kernel
theorem dX1_showFilesIn_64 : decode cX1_showFilesIn 64 = .ok (.getfield 223, 3) := by decide +kernel
theorem dX1_showFilesIn_67 : decode cX1_showFilesIn 67 = .ok (.invokevirtual 146, 3) := by decide +kernel
theorem dX1_showFilesIn_70 : decode cX1_showFilesIn 70 = .ok (.iinc 4 1, 3) := by decide +kernel
theorem dX1_showFilesIn_73 : decode cX1_showFilesIn 73 = .ok (.goto (-63), 3) := by decide +kernel
theorem dX1_showFilesIn_76 : decode cX1_showFilesIn 76 = .ok (.return_, 1) := by decide +kernel
end
section
theorem dX2_init_0 : decode cX2_init 0 = .ok (.aload_n 0, 1) := by decide +kernel
theorem dX2_init_1 : decode cX2_init 1 = .ok (.invokespecial 1, 3) := by decide +kernel
theorem dX2_init_4 : decode cX2_init 4 = .ok (.aload_n 0, 1) := by decide +kernel
theorem dX2_init_5 : decode cX2_init 5 = .ok (.bipush 16, 2) := by decide +kernel
theorem dX2_init_7 : decode cX2_init 7 = .ok (.newarray .int, 2) := by decide +kernel
theorem dX2_init_9 : decode cX2_init 9 = .ok (.putfield 7, 3) := by decide +kernel
theorem dX2_init_12 : decode cX2_init 12 = .ok (.aload_n 0, 1) := by decide +kernel
theorem dX2_init_13 : decode cX2_init 13 = .ok (.bipush 16, 2) := by decide +kernel
theorem dX2_init_15 : decode cX2_init 15 = .ok (.newarray .boolean, 2) := by decide +kernel
theorem dX2_init_17 : decode cX2_init 17 = .ok (.putfield 13, 3) := by decide +kernel
theorem dX2_init_20 : decode cX2_init 20 = .ok (.aload_n 0, 1) := by decide +kernel
theorem dX2_init_21 : decode cX2_init 21 = .ok (.sipush 1024, 3) := by decide +kernel
theorem dX2_init_24 : decode cX2_init 24 = .ok (.newarray .int, 2) := by decide +kernel
theorem dX2_init_26 : decode cX2_init 26 = .ok (.putfield 17, 3) := by decide +kernel
theorem dX2_init_29 : decode cX2_init 29 = .ok (.aload_n 0, 1) := by decide +kernel
theorem dX2_init_30 : decode cX2_init 30 = .ok (.sipush 1024, 3) := by decide +kernel
theorem dX2_init_33 : decode cX2_init 33 = .ok (.newarray .int, 2) := by decide +kernel
theorem dX2_init_35 : decode cX2_init 35 = .ok (.putfield 20, 3) := by decide +kernel
theorem dX2_init_38 : decode cX2_init 38 = .ok (.aload_n 0, 1) := by decide +kernel
theorem dX2_init_39 : decode cX2_init 39 = .ok (.sipush 200, 3) := by decide +kernel
theorem dX2_init_42 : decode cX2_init 42 = .ok (.newarray .int, 2) := by decide +kernel
theorem dX2_init_44 : decode cX2_init 44 = .ok (.putfield 23, 3) := by decide +kernel
theorem dX2_init_47 : decode cX2_init 47 = .ok (.aload_n 0, 1) := by decide +kernel
theorem dX2_init_48 : decode cX2_init 48 = .ok (.sipush 200, 3) := by decide +kernel
theorem dX2_init_51 : decode cX2_init 51 = .ok (.newarray .boolean, 2) := by decide +kernel
theorem dX2_init_53 : decode cX2_init 53 = .ok (.putfield 26, 3) := by decide +kernel
theorem dX2_init_56 : decode cX2_init 56 = .ok (.aload_n 0, 1) := by decide +kernel
theorem dX2_init_57 : decode cX2_init 57 = .ok (.sipush 200, 3) := by decide +kernel
theorem dX2_init_60 : decode cX2_init 60 = .ok (.newarray .int, 2) := by decide +kernel
theorem dX2_init_62 : decode cX2_init 62 = .ok (.putfield 29, 3) := by decide +kernel
theorem dX2_init_65 : decode cX2_init 65 = .ok (.aload_n 0, 1) := by decide +kernel
theorem dX2_init_66 : decode cX2_init 66 = .ok (.sipush 200, 3) := by decide +kernel
theorem dX2_init_69 : decode cX2_init 69 = .ok (.newarray .int, 2) := by decide +kernel
theorem dX2_init_71 : decode cX2_init 71 = .ok (.putfield 32, 3) := by decide +kernel
theorem dX2_init_74 : decode cX2_init 74 = .ok (.aload_n 0, 1) := by decide +kernel
theorem dX2_init_75 : decode cX2_init 75 = .ok (.sipush 4800, 3) := by decide +kernel
theorem dX2_init_78 : decode cX2_init 78 = .ok (.newarray .int, 2) := by decide +kernel
theorem dX2_init_80 : decode cX2_init 80 = .ok (.putfield 35, 3) := by decide +kernel
theorem dX2_init_83 : decode cX2_init 83 = .ok (.aload_n 0, 1) := by decide +kernel
theorem dX2_init_84 : decode cX2_init 84 = .ok (.sipush 4800, 3) := by decide +kernel
theorem dX2_init_87 : decode cX2_init 87 = .ok (.newarray .boolean, 2) := by decide +kernel
theorem dX2_init_89 : decode cX2_init 89 = .ok (.putfield 38, 3) := by decide +kernel
theorem dX2_init_92 : decode cX2_init 92 = .ok (.aload_n 0, 1) := by decide +kernel
theorem dX2_init_93 : decode cX2_init 93 = .ok (.bipush 96, 2) := by decide +kernel
theorem dX2_init_95 : decode cX2_init 95 = .ok (.newarray .int, 2) := by decide +kernel
theorem dX2_init_97 : decode cX2_init 97 = .ok (.putfield 41, 3) := by decide +kernel
theorem dX2_init_100 : decode cX2_init 100 = .ok (.aload_n 0, 1) := by decide +kernel
theorem dX2_init_101 : decode cX2_init 101 = .ok (.sipush 3200, 3) := by decide +kernel
theorem dX2_init_104 : decode cX2_init 104 = .ok (.newarray .int, 2) := by decide +kernel
theorem dX2_init_106 : decode cX2_init 106 = .ok (.putfield 44, 3) := by decide +kernel
theorem dX2_init_109 : decode cX2_init 109 = .ok (.aload_n 0, 1) := by decide +kernel
theorem dX2_init_110 : decode cX2_init 110 = .ok (.bipush 16, 2) := by decide +kernel
theorem dX2_init_112 : decode cX2_init 112 = .ok (.newarray .int, 2) := by decide +kernel
theorem dX2_init_114 : decode cX2_init 114 = .ok (.putfield 47, 3) := by decide +kernel
theorem dX2_init_117 : decode cX2_init 117 = .ok (.iconst 0, 1) := by decide +kernel
theorem dX2_init_118 : decode cX2_init 118 = .ok (.istore_n 1, 1) := by decide +kernel
theorem dX2_init_119 : decode cX2_init 119 = .ok (.iload_n 1, 1) := by decide +kernel
theorem dX2_init_120 : decode cX2_init 120 = .ok (.sipush 1024, 3) := by decide +kernel
theorem dX2_init_123 : decode cX2_init 123 = .ok (.if_icmp .ge 17, 3) := by decide +kernel
theorem dX2_init_126 : decode cX2_init 126 = .ok (.aload_n 0, 1) := by decide +kernel
theorem dX2_init_127 : decode cX2_init 127 = .ok (.getfield 17, 3) := by decide +kernel
theorem dX2_init_130 : decode cX2_init 130 = .ok (.iload_n 1, 1) := by decide +kernel
theorem dX2_init_131 : decode cX2_init 131 = .ok (.bipush 40, 2) := by decide +kernel
theorem dX2_init_133 : decode cX2_init 133 = .ok (.iastore, 1) := by decide +kernel
theorem dX2_init_134 : decode cX2_init 134 = .ok (.iinc 1 1, 3) := by decide +kernel
theorem dX2_init_137 : decode cX2_init 137 = .ok (.goto (-18), 3) := by decide +kernel
theorem dX2_init_140 : decode cX2_init 140 = .ok (.return_, 1) := by decide +kernel
theorem dX2_thrown_0 : decode cX2_thrown 0 = .ok (.aload_n 0, 1) := by decide +kernel
theorem dX2_thrown_1 : decode cX2_thrown 1 = .ok (.getfield 50, 3) := by decide +kernel
theorem dX2_thrown_4 : decode cX2_thrown 4 = .ok (.ireturn, 1) := by decide +kernel
theorem dX2_fails_0 : decode cX2_fails 0 = .ok (.aload_n 0, 1) := by decide +kernel
theorem dX2_fails_1 : decode cX2_fails 1 = .ok (.iload_n 1, 1) := by decide +kernel
theorem dX2_fails_2 : decode cX2_fails 2 = .ok (.ifCond .eq 7, 3) := by decide +kernel
theorem dX2_fails_5 : decode cX2_fails 5 = .ok (.iload_n 2, 1) := by decide +kernel
theorem dX2_fails_6 : decode cX2_fails 6 = .ok (.goto 4, 3) := by decide +kernel
theorem dX2_fails_9 : decode cX2_fails 9 = .ok (.iconst 0, 1) := by decide +kernel
theorem dX2_fails_10 : decode cX2_fails 10 = .ok (.putfield 50, 3) := by decide +kernel
theorem dX2_fails_13 : decode cX2_fails 13 = .ok (.iload_n 1, 1) := by decide +kernel
theorem dX2_fails_14 : decode cX2_fails 14 = .ok (.ireturn, 1) := by decide +kernel
theorem dX2_within_0 : decode cX2_within 0 = .ok (.iload_n 0, 1) := by decide +kernel
theorem dX2_within_1 : decode cX2_within 1 = .ok (.ifCond .lt 12, 3) := by decide +kernel
theorem dX2_within_4 : decode cX2_within 4 = .ok (.iload_n 0, 1) := by decide +kernel
theorem dX2_within_5 : decode cX2_within 5 = .ok (.iload_n 1, 1) := by decide +kernel
theorem dX2_within_6 : decode cX2_within 6 = .ok (.if_icmp .ge 7, 3) := by decide +kernel
theorem dX2_within_9 : decode cX2_within 9 = .ok (.iconst 1, 1) := by decide +kernel
theorem dX2_within_10 : decode cX2_within 10 = .ok (.goto 4, 3) := by decide +kernel
theorem dX2_within_13 : decode cX2_within 13 = .ok (.iconst 0, 1) := by decide +kernel
theorem dX2_within_14 : decode cX2_within 14 = .ok (.ireturn, 1) := by decide +kernel
set_option maxRecDepth 20000 in
theorem ggX2_isSubject_X2_within : GoodIn wsX2_isSubject wsX2_within := goodIn_r _ [4] (by decide +kernel) (by decide +kernel)
set_option maxRecDepth 20000 in
theorem gX2_isSubject_X2_within : GoodIn wsX2_isSubject (va_wsS RX2 54 yX2_within wsX2_within) := goodIn_app (goodIn_of _ (by decide +kernel)) ggX2_isSubject_X2_within
theorem dX2_isSubject_0 : decode cX2_isSubject 0 = .ok (.iload_n 0, 1) := by decide +kernel
theorem dX2_isSubject_1 : decode cX2_isSubject 1 = .ok (.bipush 16, 2) := by decide +kernel
theorem dX2_isSubject_3 : decode cX2_isSubject 3 = .ok (.invokestatic 54, 3) := by decide +kernel
theorem dX2_isSubject_6 : decode cX2_isSubject 6 = .ok (.ireturn, 1) := by decide +kernel
set_option maxRecDepth 20000 in
theorem ggX2_isLabel_X2_within : GoodIn wsX2_isLabel wsX2_within := goodIn_r _ [4] (by decide +kernel) (by decide +kernel)
set_option maxRecDepth 20000 in
theorem gX2_isLabel_X2_within : GoodIn wsX2_isLabel (va_wsS RX2 54 yX2_within wsX2_within) := goodIn_app (goodIn_of _ (by decide +kernel)) ggX2_isLabel_X2_within
theorem dX2_isLabel_0 : decode cX2_isLabel 0 = .ok (.iload_n 0, 1) := by decide +kernel
theorem dX2_isLabel_1 : decode cX2_isLabel 1 = .ok (.sipush 1024, 3) := by decide +kernel
theorem dX2_isLabel_4 : decode cX2_isLabel 4 = .ok (.invokestatic 54, 3) := by decide +kernel
theorem dX2_isLabel_7 : decode cX2_isLabel 7 = .ok (.ireturn, 1) := by decide +kernel
set_option maxRecDepth 20000 in
theorem ggX2_isNumber_X2_within : GoodIn wsX2_isNumber wsX2_within := goodIn_r _ [4] (by decide +kernel) (by decide +kernel)
set_option maxRecDepth 20000 in
theorem gX2_isNumber_X2_within : GoodIn wsX2_isNumber (va_wsS RX2 54 yX2_within wsX2_within) := goodIn_app (goodIn_of _ (by decide +kernel)) ggX2_isNumber_X2_within
theorem dX2_isNumber_0 : decode cX2_isNumber 0 = .ok (.iload_n 0, 1) := by decide +kernel
theorem dX2_isNumber_1 : decode cX2_isNumber 1 = .ok (.bipush 16, 2) := by decide +kernel
theorem dX2_isNumber_3 : decode cX2_isNumber 3 = .ok (.invokestatic 54, 3) := by decide +kernel
theorem dX2_isNumber_6 : decode cX2_isNumber 6 = .ok (.ireturn, 1) := by decide +kernel
theorem dX2_may_0 : decode cX2_may 0 = .ok (.iload_n 0, 1) := by decide +kernel
theorem dX2_may_1 : decode cX2_may 1 = .ok (.iconst 4, 1) := by decide +kernel
theorem dX2_may_2 : decode cX2_may 2 = .ok (.irem, 1) := by decide +kernel
theorem dX2_may_3 : decode cX2_may 3 = .ok (.iload_n 1, 1) := by decide +kernel
theorem dX2_may_4 : decode cX2_may 4 = .ok (.iconst 4, 1) := by decide +kernel
theorem dX2_may_5 : decode cX2_may 5 = .ok (.irem, 1) := by decide +kernel
theorem dX2_may_6 : decode cX2_may 6 = .ok (.if_icmp .le 5, 3) := by decide +kernel
theorem dX2_may_9 : decode cX2_may 9 = .ok (.iconst 0, 1) := by decide +kernel
theorem dX2_may_10 : decode cX2_may 10 = .ok (.ireturn, 1) := by decide +kernel
theorem dX2_may_11 : decode cX2_may 11 = .ok (.iconst 2, 1) := by decide +kernel
theorem dX2_may_12 : decode cX2_may 12 = .ok (.istore_n 2, 1) := by decide +kernel
theorem dX2_may_13 : decode cX2_may 13 = .ok (.iload_n 2, 1) := by decide +kernel
theorem dX2_may_14 : decode cX2_may 14 = .ok (.bipush 6, 2) := by decide +kernel
theorem dX2_may_16 : decode cX2_may 16 = .ok (.if_icmp .ge 24, 3) := by decide +kernel
theorem dX2_may_19 : decode cX2_may 19 = .ok (.iload_n 0, 1) := by decide +kernel
theorem dX2_may_20 : decode cX2_may 20 = .ok (.iload_n 2, 1) := by decide +kernel
theorem dX2_may_21 : decode cX2_may 21 = .ok (.ishr, 1) := by decide +kernel
theorem dX2_may_22 : decode cX2_may 22 = .ok (.iconst 1, 1) := by decide +kernel
theorem dX2_may_23 : decode cX2_may 23 = .ok (.iand, 1) := by decide +kernel
theorem dX2_may_24 : decode cX2_may 24 = .ok (.iload_n 1, 1) := by decide +kernel
theorem dX2_may_25 : decode cX2_may 25 = .ok (.iload_n 2, 1) := by decide +kernel
theorem dX2_may_26 : decode cX2_may 26 = .ok (.ishr, 1) := by decide +kernel
theorem dX2_may_27 : decode cX2_may 27 = .ok (.iconst 1, 1) := by decide +kernel
theorem dX2_may_28 : decode cX2_may 28 = .ok (.iand, 1) := by decide +kernel
theorem dX2_may_29 : decode cX2_may 29 = .ok (.if_icmp .le 5, 3) := by decide +kernel
theorem dX2_may_32 : decode cX2_may 32 = .ok (.iconst 0, 1) := by decide +kernel
theorem dX2_may_33 : decode cX2_may 33 = .ok (.ireturn, 1) := by decide +kernel
theorem dX2_may_34 : decode cX2_may 34 = .ok (.iinc 2 1, 3) := by decide +kernel
theorem dX2_may_37 : decode cX2_may 37 = .ok (.goto (-24), 3) := by decide +kernel
theorem dX2_may_40 : decode cX2_may 40 = .ok (.iload_n 0, 1) := by decide +kernel
theorem dX2_may_41 : decode cX2_may 41 = .ok (.bipush 64, 2) := by decide +kernel
theorem dX2_may_43 : decode cX2_may 43 = .ok (.idiv, 1) := by decide +kernel
theorem dX2_may_44 : decode cX2_may 44 = .ok (.iconst 4, 1) := by decide +kernel
theorem dX2_may_45 : decode cX2_may 45 = .ok (.irem, 1) := by decide +kernel
theorem dX2_may_46 : decode cX2_may 46 = .ok (.iload_n 1, 1) := by decide +kernel
theorem dX2_may_47 : decode cX2_may 47 = .ok (.bipush 64, 2) := by decide +kernel
theorem dX2_may_49 : decode cX2_may 49 = .ok (.idiv, 1) := by decide +kernel
theorem dX2_may_50 : decode cX2_may 50 = .ok (.iconst 4, 1) := by decide +kernel
theorem dX2_may_51 : decode cX2_may 51 = .ok (.irem, 1) := by decide +kernel
theorem dX2_may_52 : decode cX2_may 52 = .ok (.if_icmp .ge 5, 3) := by decide +kernel
theorem dX2_may_55 : decode cX2_may 55 = .ok (.iconst 0, 1) := by decide +kernel
theorem dX2_may_56 : decode cX2_may 56 = .ok (.ireturn, 1) := by decide +kernel
theorem dX2_may_57 : decode cX2_may 57 = .ok (.bipush 8, 2) := by decide +kernel
theorem dX2_may_59 : decode cX2_may 59 = .ok (.istore_n 2, 1) := by decide +kernel
theorem dX2_may_60 : decode cX2_may 60 = .ok (.iload_n 2, 1) := by decide +kernel
theorem dX2_may_61 : decode cX2_may 61 = .ok (.bipush 10, 2) := by decide +kernel
theorem dX2_may_63 : decode cX2_may 63 = .ok (.if_icmp .ge 24, 3) := by decide +kernel
theorem dX2_may_66 : decode cX2_may 66 = .ok (.iload_n 1, 1) := by decide +kernel
theorem dX2_may_67 : decode cX2_may 67 = .ok (.iload_n 2, 1) := by decide +kernel
theorem dX2_may_68 : decode cX2_may 68 = .ok (.ishr, 1) := by decide +kernel
theorem dX2_may_69 : decode cX2_may 69 = .ok (.iconst 1, 1) := by decide +kernel
theorem dX2_may_70 : decode cX2_may 70 = .ok (.iand, 1) := by decide +kernel
theorem dX2_may_71 : decode cX2_may 71 = .ok (.iload_n 0, 1) := by decide +kernel
theorem dX2_may_72 : decode cX2_may 72 = .ok (.iload_n 2, 1) := by decide +kernel
theorem dX2_may_73 : decode cX2_may 73 = .ok (.ishr, 1) := by decide +kernel
theorem dX2_may_74 : decode cX2_may 74 = .ok (.iconst 1, 1) := by decide +kernel
theorem dX2_may_75 : decode cX2_may 75 = .ok (.iand, 1) := by decide +kernel
theorem dX2_may_76 : decode cX2_may 76 = .ok (.if_icmp .le 5, 3) := by decide +kernel
theorem dX2_may_79 : decode cX2_may 79 = .ok (.iconst 0, 1) := by decide +kernel
theorem dX2_may_80 : decode cX2_may 80 = .ok (.ireturn, 1) := by decide +kernel
theorem dX2_may_81 : decode cX2_may 81 = .ok (.iinc 2 1, 3) := by decide +kernel
theorem dX2_may_84 : decode cX2_may 84 = .ok (.goto (-24), 3) := by decide +kernel
theorem dX2_may_87 : decode cX2_may 87 = .ok (.iconst 1, 1) := by decide +kernel
theorem dX2_may_88 : decode cX2_may 88 = .ok (.ireturn, 1) := by decide +kernel
theorem dX2_find_0 : decode cX2_find 0 = .ok (.iconst 0, 1) := by decide +kernel
theorem dX2_find_1 : decode cX2_find 1 = .ok (.istore_n 3, 1) := by decide +kernel
theorem dX2_find_2 : decode cX2_find 2 = .ok (.iload_n 3, 1) := by decide +kernel
theorem dX2_find_3 : decode cX2_find 3 = .ok (.aload_n 0, 1) := by decide +kernel
theorem dX2_find_4 : decode cX2_find 4 = .ok (.getfield 58, 3) := by decide +kernel
theorem dX2_find_7 : decode cX2_find 7 = .ok (.if_icmp .ge 26, 3) := by decide +kernel
theorem dX2_find_10 : decode cX2_find 10 = .ok (.aload_n 0, 1) := by decide +kernel
theorem dX2_find_11 : decode cX2_find 11 = .ok (.getfield 23, 3) := by decide +kernel
theorem dX2_find_14 : decode cX2_find 14 = .ok (.iload_n 3, 1) := by decide +kernel
theorem dX2_find_15 : decode cX2_find 15 = .ok (.iaload, 1) := by decide +kernel
theorem dX2_find_16 : decode cX2_find 16 = .ok (.bipush 16, 2) := by decide +kernel
theorem dX2_find_18 : decode cX2_find 18 = .ok (.iload_n 1, 1) := by decide +kernel
theorem dX2_find_19 : decode cX2_find 19 = .ok (.imul, 1) := by decide +kernel
theorem dX2_find_20 : decode cX2_find 20 = .ok (.iload_n 2, 1) := by decide +kernel
theorem dX2_find_21 : decode cX2_find 21 = .ok (.iadd, 1) := by decide +kernel
theorem dX2_find_22 : decode cX2_find 22 = .ok (.if_icmp .ne 5, 3) := by decide +kernel
theorem dX2_find_25 : decode cX2_find 25 = .ok (.iload_n 3, 1) := by decide +kernel
theorem dX2_find_26 : decode cX2_find 26 = .ok (.ireturn, 1) := by decide +kernel
theorem dX2_find_27 : decode cX2_find 27 = .ok (.iinc 3 1, 3) := by decide +kernel
theorem dX2_find_30 : decode cX2_find 30 = .ok (.goto (-28), 3) := by decide +kernel
theorem dX2_find_33 : decode cX2_find 33 = .ok (.iconst (-1), 1) := by decide +kernel
theorem dX2_find_34 : decode cX2_find 34 = .ok (.ireturn, 1) := by decide +kernel
theorem dX2_countOf_0 : decode cX2_countOf 0 = .ok (.aload_n 0, 1) := by decide +kernel
theorem dX2_countOf_1 : decode cX2_countOf 1 = .ok (.getfield 26, 3) := by decide +kernel
theorem dX2_countOf_4 : decode cX2_countOf 4 = .ok (.iload_n 1, 1) := by decide +kernel
theorem dX2_countOf_5 : decode cX2_countOf 5 = .ok (.baload, 1) := by decide +kernel
theorem dX2_countOf_6 : decode cX2_countOf 6 = .ok (.ifCond .eq 7, 3) := by decide +kernel
theorem dX2_countOf_9 : decode cX2_countOf 9 = .ok (.iconst 0, 1) := by decide +kernel
theorem dX2_countOf_10 : decode cX2_countOf 10 = .ok (.goto 4, 3) := by decide +kernel
theorem dX2_countOf_13 : decode cX2_countOf 13 = .ok (.iconst 1, 1) := by decide +kernel
theorem dX2_countOf_14 : decode cX2_countOf 14 = .ok (.istore_n 2, 1) := by decide +kernel
theorem dX2_countOf_15 : decode cX2_countOf 15 = .ok (.iconst 0, 1) := by decide +kernel
theorem dX2_countOf_16 : decode cX2_countOf 16 = .ok (.istore_n 3, 1) := by decide +kernel
theorem dX2_countOf_17 : decode cX2_countOf 17 = .ok (.iload_n 3, 1) := by decide +kernel
theorem dX2_countOf_18 : decode cX2_countOf 18 = .ok (.aload_n 0, 1) := by decide +kernel
theorem dX2_countOf_19 : decode cX2_countOf 19 = .ok (.getfield 32, 3) := by decide +kernel
theorem dX2_countOf_22 : decode cX2_countOf 22 = .ok (.iload_n 1, 1) := by decide +kernel
theorem dX2_countOf_23 : decode cX2_countOf 23 = .ok (.iaload, 1) := by decide +kernel
theorem dX2_countOf_24 : decode cX2_countOf 24 = .ok (.if_icmp .ge 31, 3) := by decide +kernel
theorem dX2_countOf_27 : decode cX2_countOf 27 = .ok (.iload_n 2, 1) := by decide +kernel
theorem dX2_countOf_28 : decode cX2_countOf 28 = .ok (.aload_n 0, 1) := by decide +kernel
theorem dX2_countOf_29 : decode cX2_countOf 29 = .ok (.getfield 38, 3) := by decide +kernel
theorem dX2_countOf_32 : decode cX2_countOf 32 = .ok (.bipush 24, 2) := by decide +kernel
theorem dX2_countOf_34 : decode cX2_countOf 34 = .ok (.iload_n 1, 1) := by decide +kernel
theorem dX2_countOf_35 : decode cX2_countOf 35 = .ok (.imul, 1) := by decide +kernel
theorem dX2_countOf_36 : decode cX2_countOf 36 = .ok (.iload_n 3, 1) := by decide +kernel
theorem dX2_countOf_37 : decode cX2_countOf 37 = .ok (.iadd, 1) := by decide +kernel
theorem dX2_countOf_38 : decode cX2_countOf 38 = .ok (.baload, 1) := by decide +kernel
theorem dX2_countOf_39 : decode cX2_countOf 39 = .ok (.ifCond .eq 7, 3) := by decide +kernel
theorem dX2_countOf_42 : decode cX2_countOf 42 = .ok (.iconst 0, 1) := by decide +kernel
theorem dX2_countOf_43 : decode cX2_countOf 43 = .ok (.goto 4, 3) := by decide +kernel
theorem dX2_countOf_46 : decode cX2_countOf 46 = .ok (.iconst 1, 1) := by decide +kernel
theorem dX2_countOf_47 : decode cX2_countOf 47 = .ok (.iadd, 1) := by decide +kernel
theorem dX2_countOf_48 : decode cX2_countOf 48 = .ok (.istore_n 2, 1) := by decide +kernel
theorem dX2_countOf_49 : decode cX2_countOf 49 = .ok (.iinc 3 1, 3) := by decide +kernel
theorem dX2_countOf_52 : decode cX2_countOf 52 = .ok (.goto (-35), 3) := by decide +kernel
theorem dX2_countOf_55 : decode cX2_countOf 55 = .ok (.iload_n 2, 1) := by decide +kernel
theorem dX2_countOf_56 : decode cX2_countOf 56 = .ok (.ireturn, 1) := by decide +kernel
set_option maxRecDepth 20000 in
theorem ggX2_uses_X2_countOf : GoodIn wsX2_uses wsX2_countOf := goodIn_r _ [8, 9, 10, 11, 12, 13, 14, 15, 16, 17, 18, 19, 20, 21, 22, 23, 24, 25, 26, 27] (by decide +kernel) (by decide +kernel)
set_option maxRecDepth 20000 in
theorem gX2_uses_X2_countOf : GoodIn wsX2_uses (wsV RX2 61 RX2 yX2_countOf wsX2_countOf) := goodIn_app (goodIn_of _ (by decide +kernel)) ggX2_uses_X2_countOf
theorem dX2_uses_0 : decode cX2_uses 0 = .ok (.aload_n 0, 1) := by decide +kernel
theorem dX2_uses_1 : decode cX2_uses 1 = .ok (.getfield 20, 3) := by decide +kernel
theorem dX2_uses_4 : decode cX2_uses 4 = .ok (.iload_n 1, 1) := by decide +kernel
theorem dX2_uses_5 : decode cX2_uses 5 = .ok (.iaload, 1) := by decide +kernel
theorem dX2_uses_6 : decode cX2_uses 6 = .ok (.istore_n 2, 1) := by decide +kernel
theorem dX2_uses_7 : decode cX2_uses 7 = .ok (.iconst 0, 1) := by decide +kernel
theorem dX2_uses_8 : decode cX2_uses 8 = .ok (.istore_n 3, 1) := by decide +kernel
theorem dX2_uses_9 : decode cX2_uses 9 = .ok (.iload_n 3, 1) := by decide +kernel
theorem dX2_uses_10 : decode cX2_uses 10 = .ok (.aload_n 0, 1) := by decide +kernel
theorem dX2_uses_11 : decode cX2_uses 11 = .ok (.getfield 58, 3) := by decide +kernel
theorem dX2_uses_14 : decode cX2_uses 14 = .ok (.if_icmp .ge 34, 3) := by decide +kernel
theorem dX2_uses_17 : decode cX2_uses 17 = .ok (.iload_n 2, 1) := by decide +kernel
theorem dX2_uses_18 : decode cX2_uses 18 = .ok (.aload_n 0, 1) := by decide +kernel
theorem dX2_uses_19 : decode cX2_uses 19 = .ok (.getfield 23, 3) := by decide +kernel
theorem dX2_uses_22 : decode cX2_uses 22 = .ok (.iload_n 3, 1) := by decide +kernel
theorem dX2_uses_23 : decode cX2_uses 23 = .ok (.iaload, 1) := by decide +kernel
theorem dX2_uses_24 : decode cX2_uses 24 = .ok (.bipush 16, 2) := by decide +kernel
theorem dX2_uses_26 : decode cX2_uses 26 = .ok (.idiv, 1) := by decide +kernel
theorem dX2_uses_27 : decode cX2_uses 27 = .ok (.iload_n 1, 1) := by decide +kernel
theorem dX2_uses_28 : decode cX2_uses 28 = .ok (.if_icmp .ne 11, 3) := by decide +kernel
theorem dX2_uses_31 : decode cX2_uses 31 = .ok (.aload_n 0, 1) := by decide +kernel
theorem dX2_uses_32 : decode cX2_uses 32 = .ok (.iload_n 3, 1) := by decide +kernel
theorem dX2_uses_33 : decode cX2_uses 33 = .ok (.invokevirtual 61, 3) := by decide +kernel
theorem dX2_uses_36 : decode cX2_uses 36 = .ok (.goto 4, 3) := by decide +kernel
theorem dX2_uses_39 : decode cX2_uses 39 = .ok (.iconst 0, 1) := by decide +kernel
theorem dX2_uses_40 : decode cX2_uses 40 = .ok (.iadd, 1) := by decide +kernel
theorem dX2_uses_41 : decode cX2_uses 41 = .ok (.istore_n 2, 1) := by decide +kernel
theorem dX2_uses_42 : decode cX2_uses 42 = .ok (.iinc 3 1, 3) := by decide +kernel
theorem dX2_uses_45 : decode cX2_uses 45 = .ok (.goto (-36), 3) := by decide +kernel
theorem dX2_uses_48 : decode cX2_uses 48 = .ok (.iload_n 2, 1) := by decide +kernel
theorem dX2_uses_49 : decode cX2_uses 49 = .ok (.ireturn, 1) := by decide +kernel
theorem dX2_add_0 : decode cX2_add 0 = .ok (.aload_n 0, 1) := by decide +kernel
theorem dX2_add_1 : decode cX2_add 1 = .ok (.getfield 23, 3) := by decide +kernel
theorem dX2_add_4 : decode cX2_add 4 = .ok (.aload_n 0, 1) := by decide +kernel
theorem dX2_add_5 : decode cX2_add 5 = .ok (.getfield 58, 3) := by decide +kernel
theorem dX2_add_8 : decode cX2_add 8 = .ok (.bipush 16, 2) := by decide +kernel
theorem dX2_add_10 : decode cX2_add 10 = .ok (.iload_n 1, 1) := by decide +kernel
theorem dX2_add_11 : decode cX2_add 11 = .ok (.imul, 1) := by decide +kernel
theorem dX2_add_12 : decode cX2_add 12 = .ok (.iload_n 2, 1) := by decide +kernel
theorem dX2_add_13 : decode cX2_add 13 = .ok (.iadd, 1) := by decide +kernel
theorem dX2_add_14 : decode cX2_add 14 = .ok (.iastore, 1) := by decide +kernel
theorem dX2_add_15 : decode cX2_add 15 = .ok (.aload_n 0, 1) := by decide +kernel
theorem dX2_add_16 : decode cX2_add 16 = .ok (.getfield 26, 3) := by decide +kernel
theorem dX2_add_19 : decode cX2_add 19 = .ok (.aload_n 0, 1) := by decide +kernel
theorem dX2_add_20 : decode cX2_add 20 = .ok (.getfield 58, 3) := by decide +kernel
theorem dX2_add_23 : decode cX2_add 23 = .ok (.iload 4, 2) := by decide +kernel
theorem dX2_add_25 : decode cX2_add 25 = .ok (.bastore, 1) := by decide +kernel
theorem dX2_add_26 : decode cX2_add 26 = .ok (.aload_n 0, 1) := by decide +kernel
theorem dX2_add_27 : decode cX2_add 27 = .ok (.getfield 29, 3) := by decide +kernel
theorem dX2_add_30 : decode cX2_add 30 = .ok (.aload_n 0, 1) := by decide +kernel
theorem dX2_add_31 : decode cX2_add 31 = .ok (.getfield 58, 3) := by decide +kernel
theorem dX2_add_34 : decode cX2_add 34 = .ok (.iload_n 3, 1) := by decide +kernel
theorem dX2_add_35 : decode cX2_add 35 = .ok (.iastore, 1) := by decide +kernel
theorem dX2_add_36 : decode cX2_add 36 = .ok (.aload_n 0, 1) := by decide +kernel
theorem dX2_add_37 : decode cX2_add 37 = .ok (.getfield 32, 3) := by decide +kernel
theorem dX2_add_40 : decode cX2_add 40 = .ok (.aload_n 0, 1) := by decide +kernel
theorem dX2_add_41 : decode cX2_add 41 = .ok (.getfield 58, 3) := by decide +kernel
theorem dX2_add_44 : decode cX2_add 44 = .ok (.iconst 0, 1) := by decide +kernel
theorem dX2_add_45 : decode cX2_add 45 = .ok (.iastore, 1) := by decide +kernel
theorem dX2_add_46 : decode cX2_add 46 = .ok (.aload_n 0, 1) := by decide +kernel
theorem dX2_add_47 : decode cX2_add 47 = .ok (.dup, 1) := by decide +kernel
theorem dX2_add_48 : decode cX2_add 48 = .ok (.getfield 58, 3) := by decide +kernel
theorem dX2_add_51 : decode cX2_add 51 = .ok (.iconst 1, 1) := by decide +kernel
theorem dX2_add_52 : decode cX2_add 52 = .ok (.iadd, 1) := by decide +kernel
theorem dX2_add_53 : decode cX2_add 53 = .ok (.putfield 58, 3) := by decide +kernel
theorem dX2_add_56 : decode cX2_add 56 = .ok (.aload_n 0, 1) := by decide +kernel
theorem dX2_add_57 : decode cX2_add 57 = .ok (.getfield 58, 3) := by decide +kernel
theorem dX2_add_60 : decode cX2_add 60 = .ok (.iconst 1, 1) := by decide +kernel
theorem dX2_add_61 : decode cX2_add 61 = .ok (.isub, 1) := by decide +kernel
theorem dX2_add_62 : decode cX2_add 62 = .ok (.ireturn, 1) := by decide +kernel
theorem dX2_move_0 : decode cX2_move 0 = .ok (.aload_n 0, 1) := by decide +kernel
theorem dX2_move_1 : decode cX2_move 1 = .ok (.getfield 23, 3) := by decide +kernel
theorem dX2_move_4 : decode cX2_move 4 = .ok (.iload_n 1, 1) := by decide +kernel
theorem dX2_move_5 : decode cX2_move 5 = .ok (.aload_n 0, 1) := by decide +kernel
theorem dX2_move_6 : decode cX2_move 6 = .ok (.getfield 23, 3) := by decide +kernel
theorem dX2_move_9 : decode cX2_move 9 = .ok (.iload_n 2, 1) := by decide +kernel
theorem dX2_move_10 : decode cX2_move 10 = .ok (.iaload, 1) := by decide +kernel
theorem dX2_move_11 : decode cX2_move 11 = .ok (.iastore, 1) := by decide +kernel
theorem dX2_move_12 : decode cX2_move 12 = .ok (.aload_n 0, 1) := by decide +kernel
theorem dX2_move_13 : decode cX2_move 13 = .ok (.getfield 26, 3) := by decide +kernel
theorem dX2_move_16 : decode cX2_move 16 = .ok (.iload_n 1, 1) := by decide +kernel
theorem dX2_move_17 : decode cX2_move 17 = .ok (.aload_n 0, 1) := by decide +kernel
theorem dX2_move_18 : decode cX2_move 18 = .ok (.getfield 26, 3) := by decide +kernel
theorem dX2_move_21 : decode cX2_move 21 = .ok (.iload_n 2, 1) := by decide +kernel
theorem dX2_move_22 : decode cX2_move 22 = .ok (.baload, 1) := by decide +kernel
theorem dX2_move_23 : decode cX2_move 23 = .ok (.bastore, 1) := by decide +kernel
theorem dX2_move_24 : decode cX2_move 24 = .ok (.aload_n 0, 1) := by decide +kernel
theorem dX2_move_25 : decode cX2_move 25 = .ok (.getfield 29, 3) := by decide +kernel
theorem dX2_move_28 : decode cX2_move 28 = .ok (.iload_n 1, 1) := by decide +kernel
theorem dX2_move_29 : decode cX2_move 29 = .ok (.aload_n 0, 1) := by decide +kernel
theorem dX2_move_30 : decode cX2_move 30 = .ok (.getfield 29, 3) := by decide +kernel
theorem dX2_move_33 : decode cX2_move 33 = .ok (.iload_n 2, 1) := by decide +kernel
theorem dX2_move_34 : decode cX2_move 34 = .ok (.iaload, 1) := by decide +kernel
theorem dX2_move_35 : decode cX2_move 35 = .ok (.iastore, 1) := by decide +kernel
theorem dX2_move_36 : decode cX2_move 36 = .ok (.aload_n 0, 1) := by decide +kernel
theorem dX2_move_37 : decode cX2_move 37 = .ok (.getfield 32, 3) := by decide +kernel
theorem dX2_move_40 : decode cX2_move 40 = .ok (.iload_n 1, 1) := by decide +kernel
theorem dX2_move_41 : decode cX2_move 41 = .ok (.aload_n 0, 1) := by decide +kernel
theorem dX2_move_42 : decode cX2_move 42 = .ok (.getfield 32, 3) := by decide +kernel
theorem dX2_move_45 : decode cX2_move 45 = .ok (.iload_n 2, 1) := by decide +kernel
theorem dX2_move_46 : decode cX2_move 46 = .ok (.iaload, 1) := by decide +kernel
theorem dX2_move_47 : decode cX2_move 47 = .ok (.iastore, 1) := by decide +kernel
theorem dX2_move_48 : decode cX2_move 48 = .ok (.iconst 0, 1) := by decide +kernel
theorem dX2_move_49 : decode cX2_move 49 = .ok (.istore_n 3, 1) := by decide +kernel
theorem dX2_move_50 : decode cX2_move 50 = .ok (.iload_n 3, 1) := by decide +kernel
theorem dX2_move_51 : decode cX2_move 51 = .ok (.bipush 24, 2) := by decide +kernel
theorem dX2_move_53 : decode cX2_move 53 = .ok (.if_icmp .ge 53, 3) := by decide +kernel
theorem dX2_move_56 : decode cX2_move 56 = .ok (.aload_n 0, 1) := by decide +kernel
theorem dX2_move_57 : decode cX2_move 57 = .ok (.getfield 35, 3) := by decide +kernel
theorem dX2_move_60 : decode cX2_move 60 = .ok (.bipush 24, 2) := by decide +kernel
theorem dX2_move_62 : decode cX2_move 62 = .ok (.iload_n 1, 1) := by decide +kernel
theorem dX2_move_63 : decode cX2_move 63 = .ok (.imul, 1) := by decide +kernel
theorem dX2_move_64 : decode cX2_move 64 = .ok (.iload_n 3, 1) := by decide +kernel
theorem dX2_move_65 : decode cX2_move 65 = .ok (.iadd, 1) := by decide +kernel
theorem dX2_move_66 : decode cX2_move 66 = .ok (.aload_n 0, 1) := by decide +kernel
theorem dX2_move_67 : decode cX2_move 67 = .ok (.getfield 35, 3) := by decide +kernel
theorem dX2_move_70 : decode cX2_move 70 = .ok (.bipush 24, 2) := by decide +kernel
theorem dX2_move_72 : decode cX2_move 72 = .ok (.iload_n 2, 1) := by decide +kernel
theorem dX2_move_73 : decode cX2_move 73 = .ok (.imul, 1) := by decide +kernel
theorem dX2_move_74 : decode cX2_move 74 = .ok (.iload_n 3, 1) := by decide +kernel
theorem dX2_move_75 : decode cX2_move 75 = .ok (.iadd, 1) := by decide +kernel
theorem dX2_move_76 : decode cX2_move 76 = .ok (.iaload, 1) := by decide +kernel
theorem dX2_move_77 : decode cX2_move 77 = .ok (.iastore, 1) := by decide +kernel
theorem dX2_move_78 : decode cX2_move 78 = .ok (.aload_n 0, 1) := by decide +kernel
theorem dX2_move_79 : decode cX2_move 79 = .ok (.getfield 38, 3) := by decide +kernel
theorem dX2_move_82 : decode cX2_move 82 = .ok (.bipush 24, 2) := by decide +kernel
theorem dX2_move_84 : decode cX2_move 84 = .ok (.iload_n 1, 1) := by decide +kernel
theorem dX2_move_85 : decode cX2_move 85 = .ok (.imul, 1) := by decide +kernel
theorem dX2_move_86 : decode cX2_move 86 = .ok (.iload_n 3, 1) := by decide +kernel
theorem dX2_move_87 : decode cX2_move 87 = .ok (.iadd, 1) := by decide +kernel
theorem dX2_move_88 : decode cX2_move 88 = .ok (.aload_n 0, 1) := by decide +kernel
theorem dX2_move_89 : decode cX2_move 89 = .ok (.getfield 38, 3) := by decide +kernel
theorem dX2_move_92 : decode cX2_move 92 = .ok (.bipush 24, 2) := by decide +kernel
theorem dX2_move_94 : decode cX2_move 94 = .ok (.iload_n 2, 1) := by decide +kernel
theorem dX2_move_95 : decode cX2_move 95 = .ok (.imul, 1) := by decide +kernel
theorem dX2_move_96 : decode cX2_move 96 = .ok (.iload_n 3, 1) := by decide +kernel
theorem dX2_move_97 : decode cX2_move 97 = .ok (.iadd, 1) := by decide +kernel
theorem dX2_move_98 : decode cX2_move 98 = .ok (.baload, 1) := by decide +kernel
theorem dX2_move_99 : decode cX2_move 99 = .ok (.bastore, 1) := by decide +kernel
theorem dX2_move_100 : decode cX2_move 100 = .ok (.iinc 3 1, 3) := by decide +kernel
theorem dX2_move_103 : decode cX2_move 103 = .ok (.goto (-53), 3) := by decide +kernel
theorem dX2_move_106 : decode cX2_move 106 = .ok (.return_, 1) := by decide +kernel
theorem dX2_append_0 : decode cX2_append 0 = .ok (.aload_n 0, 1) := by decide +kernel
theorem dX2_append_1 : decode cX2_append 1 = .ok (.getfield 35, 3) := by decide +kernel
theorem dX2_append_4 : decode cX2_append 4 = .ok (.bipush 24, 2) := by decide +kernel
theorem dX2_append_6 : decode cX2_append 6 = .ok (.iload_n 1, 1) := by decide +kernel
theorem dX2_append_7 : decode cX2_append 7 = .ok (.imul, 1) := by decide +kernel
theorem dX2_append_8 : decode cX2_append 8 = .ok (.aload_n 0, 1) := by decide +kernel
theorem dX2_append_9 : decode cX2_append 9 = .ok (.getfield 32, 3) := by decide +kernel
theorem dX2_append_12 : decode cX2_append 12 = .ok (.iload_n 1, 1) := by decide +kernel
theorem dX2_append_13 : decode cX2_append 13 = .ok (.iaload, 1) := by decide +kernel
theorem dX2_append_14 : decode cX2_append 14 = .ok (.iadd, 1) := by decide +kernel
theorem dX2_append_15 : decode cX2_append 15 = .ok (.iload_n 2, 1) := by decide +kernel
theorem dX2_append_16 : decode cX2_append 16 = .ok (.iastore, 1) := by decide +kernel
theorem dX2_append_17 : decode cX2_append 17 = .ok (.aload_n 0, 1) := by decide +kernel
theorem dX2_append_18 : decode cX2_append 18 = .ok (.getfield 38, 3) := by decide +kernel
theorem dX2_append_21 : decode cX2_append 21 = .ok (.bipush 24, 2) := by decide +kernel
theorem dX2_append_23 : decode cX2_append 23 = .ok (.iload_n 1, 1) := by decide +kernel
theorem dX2_append_24 : decode cX2_append 24 = .ok (.imul, 1) := by decide +kernel
theorem dX2_append_25 : decode cX2_append 25 = .ok (.aload_n 0, 1) := by decide +kernel
theorem dX2_append_26 : decode cX2_append 26 = .ok (.getfield 32, 3) := by decide +kernel
theorem dX2_append_29 : decode cX2_append 29 = .ok (.iload_n 1, 1) := by decide +kernel
theorem dX2_append_30 : decode cX2_append 30 = .ok (.iaload, 1) := by decide +kernel
theorem dX2_append_31 : decode cX2_append 31 = .ok (.iadd, 1) := by decide +kernel
theorem dX2_append_32 : decode cX2_append 32 = .ok (.iload_n 3, 1) := by decide +kernel
theorem dX2_append_33 : decode cX2_append 33 = .ok (.bastore, 1) := by decide +kernel
theorem dX2_append_34 : decode cX2_append 34 = .ok (.aload_n 0, 1) := by decide +kernel
theorem dX2_append_35 : decode cX2_append 35 = .ok (.getfield 32, 3) := by decide +kernel
theorem dX2_append_38 : decode cX2_append 38 = .ok (.iload_n 1, 1) := by decide +kernel
theorem dX2_append_39 : decode cX2_append 39 = .ok (.dup2, 1) := by decide +kernel
theorem dX2_append_40 : decode cX2_append 40 = .ok (.iaload, 1) := by decide +kernel
theorem dX2_append_41 : decode cX2_append 41 = .ok (.iconst 1, 1) := by decide +kernel
theorem dX2_append_42 : decode cX2_append 42 = .ok (.iadd, 1) := by decide +kernel
theorem dX2_append_43 : decode cX2_append 43 = .ok (.iastore, 1) := by decide +kernel
theorem dX2_append_44 : decode cX2_append 44 = .ok (.return_, 1) := by decide +kernel
set_option maxRecDepth 20000 in
theorem ggX2_subject_X2_isSubject : GoodIn wsX2_subject wsX2_isSubject := goodIn_r _ [6, 7, 8, 5, 9] (by decide +kernel) (by decide +kernel)
set_option maxRecDepth 20000 in
theorem gX2_subject_X2_isSubject : GoodIn wsX2_subject (va_wsS RX2 65 yX2_isSubject wsX2_isSubject) := goodIn_app (goodIn_of _ (by decide +kernel)) ggX2_subject_X2_isSubject
set_option maxRecDepth 20000 in
theorem ggX2_subject_X2_isLabel : GoodIn wsX2_subject wsX2_isLabel := goodIn_r _ [12, 7, 8, 5, 9] (by decide +kernel) (by decide +kernel)
set_option maxRecDepth 20000 in
theorem gX2_subject_X2_isLabel : GoodIn wsX2_subject (va_wsS RX2 69 yX2_isLabel wsX2_isLabel) := goodIn_app (goodIn_of _ (by decide +kernel)) ggX2_subject_X2_isLabel
set_option maxRecDepth 20000 in
theorem ggX2_subject_X2_fails : GoodIn wsX2_subject wsX2_fails := goodIn_r _ [16, 17, 18, 19, 20, 21, 22, 23, 24, 25, 26, 27, 28, 29, 30, 31, 32, 33] (by decide +kernel) (by decide +kernel)
set_option maxRecDepth 20000 in
theorem gX2_subject_X2_fails : GoodIn wsX2_subject (wsV RX2 72 RX2 yX2_fails wsX2_fails) := goodIn_app (goodIn_of _ (by decide +kernel)) ggX2_subject_X2_fails
theorem dX2_subject_0 : decode cX2_subject 0 = .ok (.aload_n 0, 1) := by decide +kernel
theorem dX2_subject_1 : decode cX2_subject 1 = .ok (.iload_n 1, 1) := by decide +kernel
theorem dX2_subject_2 : decode cX2_subject 2 = .ok (.invokestatic 65, 3) := by decide +kernel
theorem dX2_subject_5 : decode cX2_subject 5 = .ok (.ifCond .eq 10, 3) := by decide +kernel
theorem dX2_subject_8 : decode cX2_subject 8 = .ok (.iload_n 2, 1) := by decide +kernel
theorem dX2_subject_9 : decode cX2_subject 9 = .ok (.invokestatic 69, 3) := by decide +kernel
theorem dX2_subject_12 : decode cX2_subject 12 = .ok (.ifCond .ne 7, 3) := by decide +kernel
theorem dX2_subject_15 : decode cX2_subject 15 = .ok (.iconst 1, 1) := by decide +kernel
theorem dX2_subject_16 : decode cX2_subject 16 = .ok (.goto 4, 3) := by decide +kernel
theorem dX2_subject_19 : decode cX2_subject 19 = .ok (.iconst 0, 1) := by decide +kernel
theorem dX2_subject_20 : decode cX2_subject 20 = .ok (.iconst 1, 1) := by decide +kernel
theorem dX2_subject_21 : decode cX2_subject 21 = .ok (.invokevirtual 72, 3) := by decide +kernel
theorem dX2_subject_24 : decode cX2_subject 24 = .ok (.ifCond .ne 12, 3) := by decide +kernel
theorem dX2_subject_27 : decode cX2_subject 27 = .ok (.aload_n 0, 1) := by decide +kernel
theorem dX2_subject_28 : decode cX2_subject 28 = .ok (.getfield 13, 3) := by decide +kernel
theorem dX2_subject_31 : decode cX2_subject 31 = .ok (.iload_n 1, 1) := by decide +kernel
theorem dX2_subject_32 : decode cX2_subject 32 = .ok (.baload, 1) := by decide +kernel
theorem dX2_subject_33 : decode cX2_subject 33 = .ok (.ifCond .eq 5, 3) := by decide +kernel
theorem dX2_subject_36 : decode cX2_subject 36 = .ok (.iconst 0, 1) := by decide +kernel
theorem dX2_subject_37 : decode cX2_subject 37 = .ok (.ireturn, 1) := by decide +kernel
theorem dX2_subject_38 : decode cX2_subject 38 = .ok (.aload_n 0, 1) := by decide +kernel
theorem dX2_subject_39 : decode cX2_subject 39 = .ok (.getfield 13, 3) := by decide +kernel
theorem dX2_subject_42 : decode cX2_subject 42 = .ok (.iload_n 1, 1) := by decide +kernel
theorem dX2_subject_43 : decode cX2_subject 43 = .ok (.iconst 1, 1) := by decide +kernel
theorem dX2_subject_44 : decode cX2_subject 44 = .ok (.bastore, 1) := by decide +kernel
theorem dX2_subject_45 : decode cX2_subject 45 = .ok (.aload_n 0, 1) := by decide +kernel
theorem dX2_subject_46 : decode cX2_subject 46 = .ok (.getfield 7, 3) := by decide +kernel
theorem dX2_subject_49 : decode cX2_subject 49 = .ok (.iload_n 1, 1) := by decide +kernel
theorem dX2_subject_50 : decode cX2_subject 50 = .ok (.iload_n 2, 1) := by decide +kernel
theorem dX2_subject_51 : decode cX2_subject 51 = .ok (.iastore, 1) := by decide +kernel
theorem dX2_subject_52 : decode cX2_subject 52 = .ok (.iconst 1, 1) := by decide +kernel
theorem dX2_subject_53 : decode cX2_subject 53 = .ok (.ireturn, 1) := by decide +kernel
set_option maxRecDepth 20000 in
theorem ggX2_quota_X2_isLabel : GoodIn wsX2_quota wsX2_isLabel := goodIn_r _ [5, 6, 7, 4, 8] (by decide +kernel) (by decide +kernel)
set_option maxRecDepth 20000 in
theorem gX2_quota_X2_isLabel : GoodIn wsX2_quota (va_wsS RX2 69 yX2_isLabel wsX2_isLabel) := goodIn_app (goodIn_of _ (by decide +kernel)) ggX2_quota_X2_isLabel
set_option maxRecDepth 20000 in
theorem ggX2_quota_X2_within : GoodIn wsX2_quota wsX2_within := goodIn_r _ [8] (by decide +kernel) (by decide +kernel)
set_option maxRecDepth 20000 in
theorem gX2_quota_X2_within : GoodIn wsX2_quota (va_wsS RX2 54 yX2_within wsX2_within) := goodIn_app (goodIn_of _ (by decide +kernel)) ggX2_quota_X2_within
set_option maxRecDepth 20000 in
theorem ggX2_quota_X2_fails : GoodIn wsX2_quota wsX2_fails := goodIn_r _ [12, 13, 14, 15, 16, 17, 18, 19, 20, 21, 22, 23, 24, 25, 26, 27, 28, 29] (by decide +kernel) (by decide +kernel)
set_option maxRecDepth 20000 in
theorem gX2_quota_X2_fails : GoodIn wsX2_quota (wsV RX2 72 RX2 yX2_fails wsX2_fails) := goodIn_app (goodIn_of _ (by decide +kernel)) ggX2_quota_X2_fails
theorem dX2_quota_0 : decode cX2_quota 0 = .ok (.aload_n 0, 1) := by decide +kernel
theorem dX2_quota_1 : decode cX2_quota 1 = .ok (.iload_n 1, 1) := by decide +kernel
theorem dX2_quota_2 : decode cX2_quota 2 = .ok (.invokestatic 69, 3) := by decide +kernel
theorem dX2_quota_5 : decode cX2_quota 5 = .ok (.ifCond .eq 13, 3) := by decide +kernel
theorem dX2_quota_8 : decode cX2_quota 8 = .ok (.iload_n 2, 1) := by decide +kernel
theorem dX2_quota_9 : decode cX2_quota 9 = .ok (.sipush 1001, 3) := by decide +kernel
theorem dX2_quota_12 : decode cX2_quota 12 = .ok (.invokestatic 54, 3) := by decide +kernel
theorem dX2_quota_15 : decode cX2_quota 15 = .ok (.ifCond .ne 7, 3) := by decide +kernel
theorem dX2_quota_18 : decode cX2_quota 18 = .ok (.iconst 1, 1) := by decide +kernel
theorem dX2_quota_19 : decode cX2_quota 19 = .ok (.goto 4, 3) := by decide +kernel
theorem dX2_quota_22 : decode cX2_quota 22 = .ok (.iconst 0, 1) := by decide +kernel
theorem dX2_quota_23 : decode cX2_quota 23 = .ok (.iconst 1, 1) := by decide +kernel
theorem dX2_quota_24 : decode cX2_quota 24 = .ok (.invokevirtual 72, 3) := by decide +kernel
theorem dX2_quota_27 : decode cX2_quota 27 = .ok (.ifCond .eq 5, 3) := by decide +kernel
theorem dX2_quota_30 : decode cX2_quota 30 = .ok (.iconst 0, 1) := by decide +kernel
theorem dX2_quota_31 : decode cX2_quota 31 = .ok (.ireturn, 1) := by decide +kernel
theorem dX2_quota_32 : decode cX2_quota 32 = .ok (.aload_n 0, 1) := by decide +kernel
theorem dX2_quota_33 : decode cX2_quota 33 = .ok (.getfield 17, 3) := by decide +kernel
theorem dX2_quota_36 : decode cX2_quota 36 = .ok (.iload_n 1, 1) := by decide +kernel
theorem dX2_quota_37 : decode cX2_quota 37 = .ok (.iaload, 1) := by decide +kernel
theorem dX2_quota_38 : decode cX2_quota 38 = .ok (.istore_n 3, 1) := by decide +kernel
theorem dX2_quota_39 : decode cX2_quota 39 = .ok (.aload_n 0, 1) := by decide +kernel
theorem dX2_quota_40 : decode cX2_quota 40 = .ok (.getfield 17, 3) := by decide +kernel
theorem dX2_quota_43 : decode cX2_quota 43 = .ok (.iload_n 1, 1) := by decide +kernel
theorem dX2_quota_44 : decode cX2_quota 44 = .ok (.iload_n 2, 1) := by decide +kernel
theorem dX2_quota_45 : decode cX2_quota 45 = .ok (.iastore, 1) := by decide +kernel
theorem dX2_quota_46 : decode cX2_quota 46 = .ok (.iload_n 3, 1) := by decide +kernel
theorem dX2_quota_47 : decode cX2_quota 47 = .ok (.ireturn, 1) := by decide +kernel
theorem dX2_listOf_0 : decode cX2_listOf 0 = .ok (.iconst 0, 1) := by decide +kernel
theorem dX2_listOf_1 : decode cX2_listOf 1 = .ok (.istore 4, 2) := by decide +kernel
theorem dX2_listOf_3 : decode cX2_listOf 3 = .ok (.iload 4, 2) := by decide +kernel
theorem dX2_listOf_5 : decode cX2_listOf 5 = .ok (.aload_n 0, 1) := by decide +kernel
theorem dX2_listOf_6 : decode cX2_listOf 6 = .ok (.getfield 76, 3) := by decide +kernel
theorem dX2_listOf_9 : decode cX2_listOf 9 = .ok (.if_icmp .ge 55, 3) := by decide +kernel
theorem dX2_listOf_12 : decode cX2_listOf 12 = .ok (.aload_n 0, 1) := by decide +kernel
theorem dX2_listOf_13 : decode cX2_listOf 13 = .ok (.getfield 41, 3) := by decide +kernel
theorem dX2_listOf_16 : decode cX2_listOf 16 = .ok (.iconst 3, 1) := by decide +kernel
theorem dX2_listOf_17 : decode cX2_listOf 17 = .ok (.iload 4, 2) := by decide +kernel
theorem dX2_listOf_19 : decode cX2_listOf 19 = .ok (.imul, 1) := by decide +kernel
theorem dX2_listOf_20 : decode cX2_listOf 20 = .ok (.iaload, 1) := by decide +kernel
theorem dX2_listOf_21 : decode cX2_listOf 21 = .ok (.iload_n 1, 1) := by decide +kernel
theorem dX2_listOf_22 : decode cX2_listOf 22 = .ok (.if_icmp .ne 36, 3) := by decide +kernel
theorem dX2_listOf_25 : decode cX2_listOf 25 = .ok (.aload_n 0, 1) := by decide +kernel
theorem dX2_listOf_26 : decode cX2_listOf 26 = .ok (.getfield 41, 3) := by decide +kernel
theorem dX2_listOf_29 : decode cX2_listOf 29 = .ok (.iconst 3, 1) := by decide +kernel
theorem dX2_listOf_30 : decode cX2_listOf 30 = .ok (.iload 4, 2) := by decide +kernel
theorem dX2_listOf_32 : decode cX2_listOf 32 = .ok (.imul, 1) := by decide +kernel
theorem dX2_listOf_33 : decode cX2_listOf 33 = .ok (.iconst 1, 1) := by decide +kernel
theorem dX2_listOf_34 : decode cX2_listOf 34 = .ok (.iadd, 1) := by decide +kernel
theorem dX2_listOf_35 : decode cX2_listOf 35 = .ok (.iaload, 1) := by decide +kernel
theorem dX2_listOf_36 : decode cX2_listOf 36 = .ok (.iload_n 2, 1) := by decide +kernel
theorem dX2_listOf_37 : decode cX2_listOf 37 = .ok (.if_icmp .ne 21, 3) := by decide +kernel
theorem dX2_listOf_40 : decode cX2_listOf 40 = .ok (.aload_n 0, 1) := by decide +kernel
theorem dX2_listOf_41 : decode cX2_listOf 41 = .ok (.getfield 41, 3) := by decide +kernel
theorem dX2_listOf_44 : decode cX2_listOf 44 = .ok (.iconst 3, 1) := by decide +kernel
theorem dX2_listOf_45 : decode cX2_listOf 45 = .ok (.iload 4, 2) := by decide +kernel
theorem dX2_listOf_47 : decode cX2_listOf 47 = .ok (.imul, 1) := by decide +kernel
theorem dX2_listOf_48 : decode cX2_listOf 48 = .ok (.iconst 2, 1) := by decide +kernel
theorem dX2_listOf_49 : decode cX2_listOf 49 = .ok (.iadd, 1) := by decide +kernel
theorem dX2_listOf_50 : decode cX2_listOf 50 = .ok (.iaload, 1) := by decide +kernel
theorem dX2_listOf_51 : decode cX2_listOf 51 = .ok (.iload_n 3, 1) := by decide +kernel
theorem dX2_listOf_52 : decode cX2_listOf 52 = .ok (.if_icmp .ne 6, 3) := by decide +kernel
theorem dX2_listOf_55 : decode cX2_listOf 55 = .ok (.iload 4, 2) := by decide +kernel
theorem dX2_listOf_57 : decode cX2_listOf 57 = .ok (.ireturn, 1) := by decide +kernel
theorem dX2_listOf_58 : decode cX2_listOf 58 = .ok (.iinc 4 1, 3) := by decide +kernel
theorem dX2_listOf_61 : decode cX2_listOf 61 = .ok (.goto (-58), 3) := by decide +kernel
theorem dX2_listOf_64 : decode cX2_listOf 64 = .ok (.iconst (-1), 1) := by decide +kernel
theorem dX2_listOf_65 : decode cX2_listOf 65 = .ok (.ireturn, 1) := by decide +kernel
set_option maxRecDepth 20000 in
theorem ggX2_list_X2_isSubject : GoodIn wsX2_list wsX2_isSubject := goodIn_r _ [6, 7, 8, 5, 9] (by decide +kernel) (by decide +kernel)
set_option maxRecDepth 20000 in
theorem gX2_list_X2_isSubject : GoodIn wsX2_list (va_wsS RX2 65 yX2_isSubject wsX2_isSubject) := goodIn_app (goodIn_of _ (by decide +kernel)) ggX2_list_X2_isSubject
set_option maxRecDepth 20000 in
theorem ggX2_list_X2_isLabel : GoodIn wsX2_list wsX2_isLabel := goodIn_r _ [12, 7, 8, 5, 9] (by decide +kernel) (by decide +kernel)
set_option maxRecDepth 20000 in
theorem gX2_list_X2_isLabel : GoodIn wsX2_list (va_wsS RX2 69 yX2_isLabel wsX2_isLabel) := goodIn_app (goodIn_of _ (by decide +kernel)) ggX2_list_X2_isLabel
set_option maxRecDepth 20000 in
theorem ggX2_list_X2_fails : GoodIn wsX2_list wsX2_fails := goodIn_r _ [16, 17, 22, 23, 24, 25, 26, 27, 28, 29, 30, 31, 32, 33, 34, 35, 36, 37] (by decide +kernel) (by decide +kernel)
set_option maxRecDepth 20000 in
theorem gX2_list_X2_fails : GoodIn wsX2_list (wsV RX2 72 RX2 yX2_fails wsX2_fails) := goodIn_app (goodIn_of _ (by decide +kernel)) ggX2_list_X2_fails
set_option maxRecDepth 20000 in
theorem ggX2_list_X2_listOf : GoodIn wsX2_list wsX2_listOf := goodIn_r _ [21, 1, 2, 22, 23, 24, 25, 26, 27, 28, 29, 30, 31, 32, 33, 34, 35, 36, 37] (by decide +kernel) (by decide +kernel)
set_option maxRecDepth 20000 in
theorem gX2_list_X2_listOf : GoodIn wsX2_list (wsV RX2 79 RX2 yX2_listOf wsX2_listOf) := goodIn_app (goodIn_of _ (by decide +kernel)) ggX2_list_X2_listOf
theorem dX2_list_0 : decode cX2_list 0 = .ok (.aload_n 0, 1) := by decide +kernel
theorem dX2_list_1 : decode cX2_list 1 = .ok (.iload_n 1, 1) := by decide +kernel
theorem dX2_list_2 : decode cX2_list 2 = .ok (.invokestatic 65, 3) := by decide +kernel
theorem dX2_list_5 : decode cX2_list 5 = .ok (.ifCond .eq 22, 3) := by decide +kernel
theorem dX2_list_8 : decode cX2_list 8 = .ok (.iload_n 2, 1) := by decide +kernel
theorem dX2_list_9 : decode cX2_list 9 = .ok (.invokestatic 69, 3) := by decide +kernel
theorem dX2_list_12 : decode cX2_list 12 = .ok (.ifCond .eq 15, 3) := by decide +kernel
theorem dX2_list_15 : decode cX2_list 15 = .ok (.iload_n 3, 1) := by decide +kernel
theorem dX2_list_16 : decode cX2_list 16 = .ok (.invokestatic 69, 3) := by decide +kernel
theorem dX2_list_19 : decode cX2_list 19 = .ok (.ifCond .eq 8, 3) := by decide +kernel
theorem dX2_list_22 : decode cX2_list 22 = .ok (.iload_n 2, 1) := by decide +kernel
theorem dX2_list_23 : decode cX2_list 23 = .ok (.iload_n 3, 1) := by decide +kernel
theorem dX2_list_24 : decode cX2_list 24 = .ok (.if_icmp .ne 7, 3) := by decide +kernel
theorem dX2_list_27 : decode cX2_list 27 = .ok (.iconst 1, 1) := by decide +kernel
theorem dX2_list_28 : decode cX2_list 28 = .ok (.goto 4, 3) := by decide +kernel
theorem dX2_list_31 : decode cX2_list 31 = .ok (.iconst 0, 1) := by decide +kernel
theorem dX2_list_32 : decode cX2_list 32 = .ok (.iconst 1, 1) := by decide +kernel
theorem dX2_list_33 : decode cX2_list 33 = .ok (.invokevirtual 72, 3) := by decide +kernel
theorem dX2_list_36 : decode cX2_list 36 = .ok (.ifCond .eq 5, 3) := by decide +kernel
theorem dX2_list_39 : decode cX2_list 39 = .ok (.iconst 0, 1) := by decide +kernel
theorem dX2_list_40 : decode cX2_list 40 = .ok (.ireturn, 1) := by decide +kernel
theorem dX2_list_41 : decode cX2_list 41 = .ok (.aload_n 0, 1) := by decide +kernel
theorem dX2_list_42 : decode cX2_list 42 = .ok (.iload_n 1, 1) := by decide +kernel
theorem dX2_list_43 : decode cX2_list 43 = .ok (.iload_n 2, 1) := by decide +kernel
theorem dX2_list_44 : decode cX2_list 44 = .ok (.iload_n 3, 1) := by decide +kernel
theorem dX2_list_45 : decode cX2_list 45 = .ok (.invokevirtual 79, 3) := by decide +kernel
theorem dX2_list_48 : decode cX2_list 48 = .ok (.istore 5, 2) := by decide +kernel
theorem dX2_list_50 : decode cX2_list 50 = .ok (.aload_n 0, 1) := by decide +kernel
theorem dX2_list_51 : decode cX2_list 51 = .ok (.iload 4, 2) := by decide +kernel
theorem dX2_list_53 : decode cX2_list 53 = .ok (.ifCond .eq 22, 3) := by decide +kernel
theorem dX2_list_56 : decode cX2_list 56 = .ok (.iload 5, 2) := by decide +kernel
theorem dX2_list_58 : decode cX2_list 58 = .ok (.iconst (-1), 1) := by decide +kernel
theorem dX2_list_59 : decode cX2_list 59 = .ok (.if_icmp .ne 16, 3) := by decide +kernel
theorem dX2_list_62 : decode cX2_list 62 = .ok (.aload_n 0, 1) := by decide +kernel
theorem dX2_list_63 : decode cX2_list 63 = .ok (.getfield 76, 3) := by decide +kernel
theorem dX2_list_66 : decode cX2_list 66 = .ok (.bipush 32, 2) := by decide +kernel
theorem dX2_list_68 : decode cX2_list 68 = .ok (.if_icmp .ne 7, 3) := by decide +kernel
theorem dX2_list_71 : decode cX2_list 71 = .ok (.iconst 1, 1) := by decide +kernel
theorem dX2_list_72 : decode cX2_list 72 = .ok (.goto 4, 3) := by decide +kernel
theorem dX2_list_75 : decode cX2_list 75 = .ok (.iconst 0, 1) := by decide +kernel
theorem dX2_list_76 : decode cX2_list 76 = .ok (.iconst 2, 1) := by decide +kernel
theorem dX2_list_77 : decode cX2_list 77 = .ok (.invokevirtual 72, 3) := by decide +kernel
theorem dX2_list_80 : decode cX2_list 80 = .ok (.ifCond .eq 5, 3) := by decide +kernel
theorem dX2_list_83 : decode cX2_list 83 = .ok (.iconst 0, 1) := by decide +kernel
theorem dX2_list_84 : decode cX2_list 84 = .ok (.ireturn, 1) := by decide +kernel
theorem dX2_list_85 : decode cX2_list 85 = .ok (.iload 4, 2) := by decide +kernel
theorem dX2_list_87 : decode cX2_list 87 = .ok (.ifCond .eq 59, 3) := by decide +kernel
theorem dX2_list_90 : decode cX2_list 90 = .ok (.iload 5, 2) := by decide +kernel
theorem dX2_list_92 : decode cX2_list 92 = .ok (.iconst (-1), 1) := by decide +kernel
theorem dX2_list_93 : decode cX2_list 93 = .ok (.if_icmp .ne 53, 3) := by decide +kernel
theorem dX2_list_96 : decode cX2_list 96 = .ok (.aload_n 0, 1) := by decide +kernel
theorem dX2_list_97 : decode cX2_list 97 = .ok (.getfield 41, 3) := by decide +kernel
theorem dX2_list_100 : decode cX2_list 100 = .ok (.iconst 3, 1) := by decide +kernel
theorem dX2_list_101 : decode cX2_list 101 = .ok (.aload_n 0, 1) := by decide +kernel
theorem dX2_list_102 : decode cX2_list 102 = .ok (.getfield 76, 3) := by decide +kernel
theorem dX2_list_105 : decode cX2_list 105 = .ok (.imul, 1) := by decide +kernel
theorem dX2_list_106 : decode cX2_list 106 = .ok (.iload_n 1, 1) := by decide +kernel
theorem dX2_list_107 : decode cX2_list 107 = .ok (.iastore, 1) := by decide +kernel
theorem dX2_list_108 : decode cX2_list 108 = .ok (.aload_n 0, 1) := by decide +kernel
theorem dX2_list_109 : decode cX2_list 109 = .ok (.getfield 41, 3) := by decide +kernel
theorem dX2_list_112 : decode cX2_list 112 = .ok (.iconst 3, 1) := by decide +kernel
theorem dX2_list_113 : decode cX2_list 113 = .ok (.aload_n 0, 1) := by decide +kernel
theorem dX2_list_114 : decode cX2_list 114 = .ok (.getfield 76, 3) := by decide +kernel
theorem dX2_list_117 : decode cX2_list 117 = .ok (.imul, 1) := by decide +kernel
theorem dX2_list_118 : decode cX2_list 118 = .ok (.iconst 1, 1) := by decide +kernel
theorem dX2_list_119 : decode cX2_list 119 = .ok (.iadd, 1) := by decide +kernel
theorem dX2_list_120 : decode cX2_list 120 = .ok (.iload_n 2, 1) := by decide +kernel
theorem dX2_list_121 : decode cX2_list 121 = .ok (.iastore, 1) := by decide +kernel
theorem dX2_list_122 : decode cX2_list 122 = .ok (.aload_n 0, 1) := by decide +kernel
theorem dX2_list_123 : decode cX2_list 123 = .ok (.getfield 41, 3) := by decide +kernel
theorem dX2_list_126 : decode cX2_list 126 = .ok (.iconst 3, 1) := by decide +kernel
theorem dX2_list_127 : decode cX2_list 127 = .ok (.aload_n 0, 1) := by decide +kernel
theorem dX2_list_128 : decode cX2_list 128 = .ok (.getfield 76, 3) := by decide +kernel
theorem dX2_list_131 : decode cX2_list 131 = .ok (.imul, 1) := by decide +kernel
theorem dX2_list_132 : decode cX2_list 132 = .ok (.iconst 2, 1) := by decide +kernel
theorem dX2_list_133 : decode cX2_list 133 = .ok (.iadd, 1) := by decide +kernel
theorem dX2_list_134 : decode cX2_list 134 = .ok (.iload_n 3, 1) := by decide +kernel
theorem dX2_list_135 : decode cX2_list 135 = .ok (.iastore, 1) := by decide +kernel
theorem dX2_list_136 : decode cX2_list 136 = .ok (.aload_n 0, 1) := by decide +kernel
theorem dX2_list_137 : decode cX2_list 137 = .ok (.dup, 1) := by decide +kernel
theorem dX2_list_138 : decode cX2_list 138 = .ok (.getfield 76, 3) := by decide +kernel
theorem dX2_list_141 : decode cX2_list 141 = .ok (.iconst 1, 1) := by decide +kernel
theorem dX2_list_142 : decode cX2_list 142 = .ok (.iadd, 1) := by decide +kernel
theorem dX2_list_143 : decode cX2_list 143 = .ok (.putfield 76, 3) := by decide +kernel
theorem dX2_list_146 : decode cX2_list 146 = .ok (.iload 4, 2) := by decide +kernel
theorem dX2_list_148 : decode cX2_list 148 = .ok (.ifCond .ne 60, 3) := by decide +kernel
theorem dX2_list_151 : decode cX2_list 151 = .ok (.iload 5, 2) := by decide +kernel
theorem dX2_list_153 : decode cX2_list 153 = .ok (.iconst (-1), 1) := by decide +kernel
theorem dX2_list_154 : decode cX2_list 154 = .ok (.if_icmp .eq 54, 3) := by decide +kernel
theorem dX2_list_157 : decode cX2_list 157 = .ok (.aload_n 0, 1) := by decide +kernel
theorem dX2_list_158 : decode cX2_list 158 = .ok (.dup, 1) := by decide +kernel
theorem dX2_list_159 : decode cX2_list 159 = .ok (.getfield 76, 3) := by decide +kernel
theorem dX2_list_162 : decode cX2_list 162 = .ok (.iconst 1, 1) := by decide +kernel
theorem dX2_list_163 : decode cX2_list 163 = .ok (.isub, 1) := by decide +kernel
theorem dX2_list_164 : decode cX2_list 164 = .ok (.putfield 76, 3) := by decide +kernel
theorem dX2_list_167 : decode cX2_list 167 = .ok (.iconst 0, 1) := by decide +kernel
theorem dX2_list_168 : decode cX2_list 168 = .ok (.istore 6, 2) := by decide +kernel
theorem dX2_list_170 : decode cX2_list 170 = .ok (.iload 6, 2) := by decide +kernel
theorem dX2_list_172 : decode cX2_list 172 = .ok (.iconst 3, 1) := by decide +kernel
theorem dX2_list_173 : decode cX2_list 173 = .ok (.if_icmp .ge 35, 3) := by decide +kernel
theorem dX2_list_176 : decode cX2_list 176 = .ok (.aload_n 0, 1) := by decide +kernel
theorem dX2_list_177 : decode cX2_list 177 = .ok (.getfield 41, 3) := by decide +kernel
theorem dX2_list_180 : decode cX2_list 180 = .ok (.iconst 3, 1) := by decide +kernel
theorem dX2_list_181 : decode cX2_list 181 = .ok (.iload 5, 2) := by decide +kernel
theorem dX2_list_183 : decode cX2_list 183 = .ok (.imul, 1) := by decide +kernel
theorem dX2_list_184 : decode cX2_list 184 = .ok (.iload 6, 2) := by decide +kernel
theorem dX2_list_186 : decode cX2_list 186 = .ok (.iadd, 1) := by decide +kernel
theorem dX2_list_187 : decode cX2_list 187 = .ok (.aload_n 0, 1) := by decide +kernel
theorem dX2_list_188 : decode cX2_list 188 = .ok (.getfield 41, 3) := by decide +kernel
theorem dX2_list_191 : decode cX2_list 191 = .ok (.iconst 3, 1) := by decide +kernel
theorem dX2_list_192 : decode cX2_list 192 = .ok (.aload_n 0, 1) := by decide +kernel
theorem dX2_list_193 : decode cX2_list 193 = .ok (.getfield 76, 3) := by decide +kernel
theorem dX2_list_196 : decode cX2_list 196 = .ok (.imul, 1) := by decide +kernel
theorem dX2_list_197 : decode cX2_list 197 = .ok (.iload 6, 2) := by decide +kernel
theorem dX2_list_199 : decode cX2_list 199 = .ok (.iadd, 1) := by decide +kernel
theorem dX2_list_200 : decode cX2_list 200 = .ok (.iaload, 1) := by decide +kernel
theorem dX2_list_201 : decode cX2_list 201 = .ok (.iastore, 1) := by decide +kernel
theorem dX2_list_202 : decode cX2_list 202 = .ok (.iinc 6 1, 3) := by decide +kernel
theorem dX2_list_205 : decode cX2_list 205 = .ok (.goto (-35), 3) := by decide +kernel
theorem dX2_list_208 : decode cX2_list 208 = .ok (.iload 5, 2) := by decide +kernel
theorem dX2_list_210 : decode cX2_list 210 = .ok (.iconst (-1), 1) := by decide +kernel
theorem dX2_list_211 : decode cX2_list 211 = .ok (.if_icmp .eq 7, 3) := by decide +kernel
theorem dX2_list_214 : decode cX2_list 214 = .ok (.iconst 1, 1) := by decide +kernel
theorem dX2_list_215 : decode cX2_list 215 = .ok (.goto 4, 3) := by decide +kernel
theorem dX2_list_218 : decode cX2_list 218 = .ok (.iconst 0, 1) := by decide +kernel
theorem dX2_list_219 : decode cX2_list 219 = .ok (.ireturn, 1) := by decide +kernel
set_option maxRecDepth 20000 in
theorem ggX2_flows_X2_isLabel : GoodIn wsX2_flows wsX2_isLabel := goodIn_r _ [4, 5, 6, 3, 7] (by decide +kernel) (by decide +kernel)
set_option maxRecDepth 20000 in
theorem gX2_flows_X2_isLabel : GoodIn wsX2_flows (va_wsS RX2 69 yX2_isLabel wsX2_isLabel) := goodIn_app (goodIn_of _ (by decide +kernel)) ggX2_flows_X2_isLabel
set_option maxRecDepth 20000 in
theorem ggX2_flows_X2_fails : GoodIn wsX2_flows wsX2_fails := goodIn_r _ [11, 12, 16, 17, 18, 19, 20, 21, 22, 23, 24, 25, 26, 27, 28, 29, 30, 31] (by decide +kernel) (by decide +kernel)
set_option maxRecDepth 20000 in
theorem gX2_flows_X2_fails : GoodIn wsX2_flows (wsV RX2 72 RX2 yX2_fails wsX2_fails) := goodIn_app (goodIn_of _ (by decide +kernel)) ggX2_flows_X2_fails
set_option maxRecDepth 20000 in
theorem ggX2_flows_X2_may : GoodIn wsX2_flows wsX2_may := goodIn_r _ [15] (by decide +kernel) (by decide +kernel)
set_option maxRecDepth 20000 in
theorem gX2_flows_X2_may : GoodIn wsX2_flows (va_wsS RX2 83 yX2_may wsX2_may) := goodIn_app (goodIn_of _ (by decide +kernel)) ggX2_flows_X2_may
theorem dX2_flows_0 : decode cX2_flows 0 = .ok (.aload_n 0, 1) := by decide +kernel
theorem dX2_flows_1 : decode cX2_flows 1 = .ok (.iload_n 1, 1) := by decide +kernel
theorem dX2_flows_2 : decode cX2_flows 2 = .ok (.invokestatic 69, 3) := by decide +kernel
theorem dX2_flows_5 : decode cX2_flows 5 = .ok (.ifCond .eq 10, 3) := by decide +kernel
theorem dX2_flows_8 : decode cX2_flows 8 = .ok (.iload_n 2, 1) := by decide +kernel
theorem dX2_flows_9 : decode cX2_flows 9 = .ok (.invokestatic 69, 3) := by decide +kernel
theorem dX2_flows_12 : decode cX2_flows 12 = .ok (.ifCond .ne 7, 3) := by decide +kernel
theorem dX2_flows_15 : decode cX2_flows 15 = .ok (.iconst 1, 1) := by decide +kernel
theorem dX2_flows_16 : decode cX2_flows 16 = .ok (.goto 4, 3) := by decide +kernel
theorem dX2_flows_19 : decode cX2_flows 19 = .ok (.iconst 0, 1) := by decide +kernel
theorem dX2_flows_20 : decode cX2_flows 20 = .ok (.iconst 1, 1) := by decide +kernel
theorem dX2_flows_21 : decode cX2_flows 21 = .ok (.invokevirtual 72, 3) := by decide +kernel
theorem dX2_flows_24 : decode cX2_flows 24 = .ok (.ifCond .eq 5, 3) := by decide +kernel
theorem dX2_flows_27 : decode cX2_flows 27 = .ok (.iconst 0, 1) := by decide +kernel
theorem dX2_flows_28 : decode cX2_flows 28 = .ok (.ireturn, 1) := by decide +kernel
theorem dX2_flows_29 : decode cX2_flows 29 = .ok (.iload_n 1, 1) := by decide +kernel
theorem dX2_flows_30 : decode cX2_flows 30 = .ok (.iload_n 2, 1) := by decide +kernel
theorem dX2_flows_31 : decode cX2_flows 31 = .ok (.invokestatic 83, 3) := by decide +kernel
theorem dX2_flows_34 : decode cX2_flows 34 = .ok (.ireturn, 1) := by decide +kernel
theorem dX2_begin_0 : decode cX2_begin 0 = .ok (.aload_n 0, 1) := by decide +kernel
theorem dX2_begin_1 : decode cX2_begin 1 = .ok (.getfield 47, 3) := by decide +kernel
theorem dX2_begin_4 : decode cX2_begin 4 = .ok (.iload_n 1, 1) := by decide +kernel
theorem dX2_begin_5 : decode cX2_begin 5 = .ok (.iconst 0, 1) := by decide +kernel
theorem dX2_begin_6 : decode cX2_begin 6 = .ok (.iastore, 1) := by decide +kernel
theorem dX2_begin_7 : decode cX2_begin 7 = .ok (.return_, 1) := by decide +kernel
set_option maxRecDepth 20000 in
theorem ggX2_isFull_X2_uses : GoodIn wsX2_isFull wsX2_uses := goodIn_r _ [7, 8, 9, 10, 11, 12, 13, 6, 14, 15, 16, 17, 18, 19, 20, 21, 22, 23, 24, 25, 26, 27, 28, 29, 30, 31, 32, 33] (by decide +kernel) (by decide +kernel)
set_option maxRecDepth 20000 in
theorem gX2_isFull_X2_uses : GoodIn wsX2_isFull (wsV RX2 86 RX2 yX2_uses wsX2_uses) := goodIn_app (goodIn_of _ (by decide +kernel)) ggX2_isFull_X2_uses
theorem dX2_isFull_0 : decode cX2_isFull 0 = .ok (.aload_n 0, 1) := by decide +kernel
theorem dX2_isFull_1 : decode cX2_isFull 1 = .ok (.aload_n 0, 1) := by decide +kernel
theorem dX2_isFull_2 : decode cX2_isFull 2 = .ok (.getfield 7, 3) := by decide +kernel
theorem dX2_isFull_5 : decode cX2_isFull 5 = .ok (.iload_n 1, 1) := by decide +kernel
theorem dX2_isFull_6 : decode cX2_isFull 6 = .ok (.iaload, 1) := by decide +kernel
theorem dX2_isFull_7 : decode cX2_isFull 7 = .ok (.invokevirtual 86, 3) := by decide +kernel
theorem dX2_isFull_10 : decode cX2_isFull 10 = .ok (.iload_n 2, 1) := by decide +kernel
theorem dX2_isFull_11 : decode cX2_isFull 11 = .ok (.iadd, 1) := by decide +kernel
theorem dX2_isFull_12 : decode cX2_isFull 12 = .ok (.aload_n 0, 1) := by decide +kernel
theorem dX2_isFull_13 : decode cX2_isFull 13 = .ok (.getfield 17, 3) := by decide +kernel
theorem dX2_isFull_16 : decode cX2_isFull 16 = .ok (.aload_n 0, 1) := by decide +kernel
theorem dX2_isFull_17 : decode cX2_isFull 17 = .ok (.getfield 7, 3) := by decide +kernel
theorem dX2_isFull_20 : decode cX2_isFull 20 = .ok (.iload_n 1, 1) := by decide +kernel
theorem dX2_isFull_21 : decode cX2_isFull 21 = .ok (.iaload, 1) := by decide +kernel
theorem dX2_isFull_22 : decode cX2_isFull 22 = .ok (.iaload, 1) := by decide +kernel
theorem dX2_isFull_23 : decode cX2_isFull 23 = .ok (.if_icmp .le 7, 3) := by decide +kernel
theorem dX2_isFull_26 : decode cX2_isFull 26 = .ok (.iconst 1, 1) := by decide +kernel
theorem dX2_isFull_27 : decode cX2_isFull 27 = .ok (.goto 4, 3) := by decide +kernel
theorem dX2_isFull_30 : decode cX2_isFull 30 = .ok (.iconst 0, 1) := by decide +kernel
theorem dX2_isFull_31 : decode cX2_isFull 31 = .ok (.ireturn, 1) := by decide +kernel
set_option maxRecDepth 20000 in
theorem ggX2_make_X2_isSubject : GoodIn wsX2_make wsX2_isSubject := goodIn_r _ [8, 9, 10, 7, 11] (by decide +kernel) (by decide +kernel)
set_option maxRecDepth 20000 in
theorem gX2_make_X2_isSubject : GoodIn wsX2_make (va_wsS RX2 65 yX2_isSubject wsX2_isSubject) := goodIn_app (goodIn_of _ (by decide +kernel)) ggX2_make_X2_isSubject
set_option maxRecDepth 20000 in
theorem ggX2_make_X2_isLabel : GoodIn wsX2_make wsX2_isLabel := goodIn_r _ [14, 9, 10, 7, 11] (by decide +kernel) (by decide +kernel)
set_option maxRecDepth 20000 in
theorem gX2_make_X2_isLabel : GoodIn wsX2_make (va_wsS RX2 69 yX2_isLabel wsX2_isLabel) := goodIn_app (goodIn_of _ (by decide +kernel)) ggX2_make_X2_isLabel
set_option maxRecDepth 20000 in
theorem ggX2_make_X2_isNumber : GoodIn wsX2_make wsX2_isNumber := goodIn_r _ [17, 9, 10, 7, 11] (by decide +kernel) (by decide +kernel)
set_option maxRecDepth 20000 in
theorem gX2_make_X2_isNumber : GoodIn wsX2_make (va_wsS RX2 89 yX2_isNumber wsX2_isNumber) := goodIn_app (goodIn_of _ (by decide +kernel)) ggX2_make_X2_isNumber
set_option maxRecDepth 20000 in
theorem ggX2_make_X2_fails : GoodIn wsX2_make wsX2_fails := goodIn_r _ [21, 22, 57, 58, 59, 60, 61, 62, 63, 64, 65, 66, 67, 68, 69, 70, 71, 72] (by decide +kernel) (by decide +kernel)
set_option maxRecDepth 20000 in
theorem gX2_make_X2_fails : GoodIn wsX2_make (wsV RX2 72 RX2 yX2_fails wsX2_fails) := goodIn_app (goodIn_of _ (by decide +kernel)) ggX2_make_X2_fails
set_option maxRecDepth 20000 in
theorem ggX2_make_X2_may : GoodIn wsX2_make wsX2_may := goodIn_r _ [25] (by decide +kernel) (by decide +kernel)
set_option maxRecDepth 20000 in
theorem gX2_make_X2_may : GoodIn wsX2_make (va_wsS RX2 83 yX2_may wsX2_may) := goodIn_app (goodIn_of _ (by decide +kernel)) ggX2_make_X2_may
set_option maxRecDepth 20000 in
theorem ggX2_make_X2_find : GoodIn wsX2_make wsX2_find := goodIn_r _ [29, 3, 30, 57, 58, 59, 60, 61, 62, 63, 64, 65, 66, 67, 68, 69, 70, 71, 72] (by decide +kernel) (by decide +kernel)
set_option maxRecDepth 20000 in
theorem gX2_make_X2_find : GoodIn wsX2_make (wsV RX2 92 RX2 yX2_find wsX2_find) := goodIn_app (goodIn_of _ (by decide +kernel)) ggX2_make_X2_find
set_option maxRecDepth 20000 in
theorem ggX2_make_X2_isFull : GoodIn wsX2_make wsX2_isFull := goodIn_r _ [34, 2, 35, 36, 37, 38, 7, 39, 4, 3, 30, 40, 41, 42, 43, 44, 45, 46, 57, 58, 59, 60, 61, 62, 63, 64, 65, 66, 67, 68, 69, 70, 71, 72] (by decide +kernel) (by decide +kernel)
set_option maxRecDepth 20000 in
theorem gX2_make_X2_isFull : GoodIn wsX2_make (wsV RX2 96 RX2 yX2_isFull wsX2_isFull) := goodIn_app (goodIn_of _ (by decide +kernel)) ggX2_make_X2_isFull
set_option maxRecDepth 20000 in
theorem ggX2_make_X2_begin : GoodIn wsX2_make wsX2_begin := goodIn_r _ [50, 51, 57, 58, 59, 60, 61, 62, 63, 64, 65, 66, 67, 68, 69, 70, 71, 72] (by decide +kernel) (by decide +kernel)
set_option maxRecDepth 20000 in
theorem gX2_make_X2_begin : GoodIn wsX2_make (wsV RX2 99 RX2 yX2_begin wsX2_begin) := goodIn_app (goodIn_of _ (by decide +kernel)) ggX2_make_X2_begin
set_option maxRecDepth 20000 in
theorem ggX2_make_X2_add : GoodIn wsX2_make wsX2_add := goodIn_r _ [55, 30, 3, 44, 56, 45, 57, 58, 59, 60, 61, 62, 63, 64, 65, 66, 67, 68, 69, 70, 71, 72] (by decide +kernel) (by decide +kernel)
set_option maxRecDepth 20000 in
theorem gX2_make_X2_add : GoodIn wsX2_make (wsV RX2 103 RX2 yX2_add wsX2_add) := goodIn_app (goodIn_of _ (by decide +kernel)) ggX2_make_X2_add
theorem dX2_make_0 : decode cX2_make 0 = .ok (.aload_n 0, 1) := by decide +kernel
theorem dX2_make_1 : decode cX2_make 1 = .ok (.iload_n 1, 1) := by decide +kernel
theorem dX2_make_2 : decode cX2_make 2 = .ok (.invokestatic 65, 3) := by decide +kernel
theorem dX2_make_5 : decode cX2_make 5 = .ok (.ifCond .eq 31, 3) := by decide +kernel
theorem dX2_make_8 : decode cX2_make 8 = .ok (.iload_n 2, 1) := by decide +kernel
theorem dX2_make_9 : decode cX2_make 9 = .ok (.invokestatic 69, 3) := by decide +kernel
theorem dX2_make_12 : decode cX2_make 12 = .ok (.ifCond .eq 24, 3) := by decide +kernel
theorem dX2_make_15 : decode cX2_make 15 = .ok (.iload_n 3, 1) := by decide +kernel
theorem dX2_make_16 : decode cX2_make 16 = .ok (.invokestatic 89, 3) := by decide +kernel
theorem dX2_make_19 : decode cX2_make 19 = .ok (.ifCond .eq 17, 3) := by decide +kernel
theorem dX2_make_22 : decode cX2_make 22 = .ok (.iload 4, 2) := by decide +kernel
theorem dX2_make_24 : decode cX2_make 24 = .ok (.iconst (-1), 1) := by decide +kernel
theorem dX2_make_25 : decode cX2_make 25 = .ok (.if_icmp .lt 11, 3) := by decide +kernel
theorem dX2_make_28 : decode cX2_make 28 = .ok (.iload 4, 2) := by decide +kernel
theorem dX2_make_30 : decode cX2_make 30 = .ok (.sipush 16384, 3) := by decide +kernel
theorem dX2_make_33 : decode cX2_make 33 = .ok (.if_icmp .lt 7, 3) := by decide +kernel
theorem dX2_make_36 : decode cX2_make 36 = .ok (.iconst 1, 1) := by decide +kernel
theorem dX2_make_37 : decode cX2_make 37 = .ok (.goto 4, 3) := by decide +kernel
theorem dX2_make_40 : decode cX2_make 40 = .ok (.iconst 0, 1) := by decide +kernel
theorem dX2_make_41 : decode cX2_make 41 = .ok (.iconst 1, 1) := by decide +kernel
theorem dX2_make_42 : decode cX2_make 42 = .ok (.invokevirtual 72, 3) := by decide +kernel
theorem dX2_make_45 : decode cX2_make 45 = .ok (.ifCond .eq 5, 3) := by decide +kernel
theorem dX2_make_48 : decode cX2_make 48 = .ok (.iconst 0, 1) := by decide +kernel
theorem dX2_make_49 : decode cX2_make 49 = .ok (.ireturn, 1) := by decide +kernel
theorem dX2_make_50 : decode cX2_make 50 = .ok (.aload_n 0, 1) := by decide +kernel
theorem dX2_make_51 : decode cX2_make 51 = .ok (.getfield 13, 3) := by decide +kernel
theorem dX2_make_54 : decode cX2_make 54 = .ok (.iload_n 1, 1) := by decide +kernel
theorem dX2_make_55 : decode cX2_make 55 = .ok (.baload, 1) := by decide +kernel
theorem dX2_make_56 : decode cX2_make 56 = .ok (.ifCond .eq 38, 3) := by decide +kernel
theorem dX2_make_59 : decode cX2_make 59 = .ok (.aload_n 0, 1) := by decide +kernel
theorem dX2_make_60 : decode cX2_make 60 = .ok (.getfield 7, 3) := by decide +kernel
theorem dX2_make_63 : decode cX2_make 63 = .ok (.iload_n 1, 1) := by decide +kernel
theorem dX2_make_64 : decode cX2_make 64 = .ok (.iaload, 1) := by decide +kernel
theorem dX2_make_65 : decode cX2_make 65 = .ok (.iload_n 2, 1) := by decide +kernel
theorem dX2_make_66 : decode cX2_make 66 = .ok (.invokestatic 83, 3) := by decide +kernel
theorem dX2_make_69 : decode cX2_make 69 = .ok (.ifCond .eq 25, 3) := by decide +kernel
theorem dX2_make_72 : decode cX2_make 72 = .ok (.iload 4, 2) := by decide +kernel
theorem dX2_make_74 : decode cX2_make 74 = .ok (.iconst (-1), 1) := by decide +kernel
theorem dX2_make_75 : decode cX2_make 75 = .ok (.if_icmp .eq 15, 3) := by decide +kernel
theorem dX2_make_78 : decode cX2_make 78 = .ok (.iload 4, 2) := by decide +kernel
theorem dX2_make_80 : decode cX2_make 80 = .ok (.bipush 16, 2) := by decide +kernel
theorem dX2_make_82 : decode cX2_make 82 = .ok (.idiv, 1) := by decide +kernel
theorem dX2_make_83 : decode cX2_make 83 = .ok (.iload_n 2, 1) := by decide +kernel
theorem dX2_make_84 : decode cX2_make 84 = .ok (.invokestatic 83, 3) := by decide +kernel
theorem dX2_make_87 : decode cX2_make 87 = .ok (.ifCond .eq 7, 3) := by decide +kernel
theorem dX2_make_90 : decode cX2_make 90 = .ok (.iconst 1, 1) := by decide +kernel
theorem dX2_make_91 : decode cX2_make 91 = .ok (.goto 4, 3) := by decide +kernel
theorem dX2_make_94 : decode cX2_make 94 = .ok (.iconst 0, 1) := by decide +kernel
theorem dX2_make_95 : decode cX2_make 95 = .ok (.istore 5, 2) := by decide +kernel
theorem dX2_make_97 : decode cX2_make 97 = .ok (.aload_n 0, 1) := by decide +kernel
theorem dX2_make_98 : decode cX2_make 98 = .ok (.getfield 13, 3) := by decide +kernel
theorem dX2_make_101 : decode cX2_make 101 = .ok (.iload_n 1, 1) := by decide +kernel
theorem dX2_make_102 : decode cX2_make 102 = .ok (.baload, 1) := by decide +kernel
theorem dX2_make_103 : decode cX2_make 103 = .ok (.ifCond .eq 17, 3) := by decide +kernel
theorem dX2_make_106 : decode cX2_make 106 = .ok (.aload_n 0, 1) := by decide +kernel
theorem dX2_make_107 : decode cX2_make 107 = .ok (.getfield 7, 3) := by decide +kernel
theorem dX2_make_110 : decode cX2_make 110 = .ok (.iload_n 1, 1) := by decide +kernel
theorem dX2_make_111 : decode cX2_make 111 = .ok (.iaload, 1) := by decide +kernel
theorem dX2_make_112 : decode cX2_make 112 = .ok (.iload_n 2, 1) := by decide +kernel
theorem dX2_make_113 : decode cX2_make 113 = .ok (.if_icmp .ne 7, 3) := by decide +kernel
theorem dX2_make_116 : decode cX2_make 116 = .ok (.iconst 1, 1) := by decide +kernel
theorem dX2_make_117 : decode cX2_make 117 = .ok (.goto 4, 3) := by decide +kernel
theorem dX2_make_120 : decode cX2_make 120 = .ok (.iconst 0, 1) := by decide +kernel
theorem dX2_make_121 : decode cX2_make 121 = .ok (.istore 6, 2) := by decide +kernel
theorem dX2_make_123 : decode cX2_make 123 = .ok (.aload_n 0, 1) := by decide +kernel
theorem dX2_make_124 : decode cX2_make 124 = .ok (.iload_n 2, 1) := by decide +kernel
theorem dX2_make_125 : decode cX2_make 125 = .ok (.iload_n 3, 1) := by decide +kernel
theorem dX2_make_126 : decode cX2_make 126 = .ok (.invokevirtual 92, 3) := by decide +kernel
theorem dX2_make_129 : decode cX2_make 129 = .ok (.iconst (-1), 1) := by decide +kernel
theorem dX2_make_130 : decode cX2_make 130 = .ok (.if_icmp .eq 7, 3) := by decide +kernel
theorem dX2_make_133 : decode cX2_make 133 = .ok (.iconst 1, 1) := by decide +kernel
theorem dX2_make_134 : decode cX2_make 134 = .ok (.goto 4, 3) := by decide +kernel
theorem dX2_make_137 : decode cX2_make 137 = .ok (.iconst 0, 1) := by decide +kernel
theorem dX2_make_138 : decode cX2_make 138 = .ok (.istore 7, 2) := by decide +kernel
theorem dX2_make_140 : decode cX2_make 140 = .ok (.iload 5, 2) := by decide +kernel
theorem dX2_make_142 : decode cX2_make 142 = .ok (.ifCond .eq 21, 3) := by decide +kernel
theorem dX2_make_145 : decode cX2_make 145 = .ok (.iload 7, 2) := by decide +kernel
theorem dX2_make_147 : decode cX2_make 147 = .ok (.ifCond .ne 16, 3) := by decide +kernel
theorem dX2_make_150 : decode cX2_make 150 = .ok (.aload_n 0, 1) := by decide +kernel
theorem dX2_make_151 : decode cX2_make 151 = .ok (.iload_n 1, 1) := by decide +kernel
theorem dX2_make_152 : decode cX2_make 152 = .ok (.iconst 1, 1) := by decide +kernel
theorem dX2_make_153 : decode cX2_make 153 = .ok (.invokevirtual 96, 3) := by decide +kernel
theorem dX2_make_156 : decode cX2_make 156 = .ok (.ifCond .ne 7, 3) := by decide +kernel
theorem dX2_make_159 : decode cX2_make 159 = .ok (.iconst 1, 1) := by decide +kernel
theorem dX2_make_160 : decode cX2_make 160 = .ok (.goto 4, 3) := by decide +kernel
theorem dX2_make_163 : decode cX2_make 163 = .ok (.iconst 0, 1) := by decide +kernel
theorem dX2_make_164 : decode cX2_make 164 = .ok (.istore 8, 2) := by decide +kernel
theorem dX2_make_166 : decode cX2_make 166 = .ok (.aload_n 0, 1) := by decide +kernel
theorem dX2_make_167 : decode cX2_make 167 = .ok (.iload 8, 2) := by decide +kernel
theorem dX2_make_169 : decode cX2_make 169 = .ok (.ifCond .eq 17, 3) := by decide +kernel
theorem dX2_make_172 : decode cX2_make 172 = .ok (.aload_n 0, 1) := by decide +kernel
theorem dX2_make_173 : decode cX2_make 173 = .ok (.getfield 58, 3) := by decide +kernel
theorem dX2_make_176 : decode cX2_make 176 = .ok (.sipush 200, 3) := by decide +kernel
theorem dX2_make_179 : decode cX2_make 179 = .ok (.if_icmp .ne 7, 3) := by decide +kernel
theorem dX2_make_182 : decode cX2_make 182 = .ok (.iconst 1, 1) := by decide +kernel
theorem dX2_make_183 : decode cX2_make 183 = .ok (.goto 4, 3) := by decide +kernel
theorem dX2_make_186 : decode cX2_make 186 = .ok (.iconst 0, 1) := by decide +kernel
theorem dX2_make_187 : decode cX2_make 187 = .ok (.iconst 2, 1) := by decide +kernel
theorem dX2_make_188 : decode cX2_make 188 = .ok (.invokevirtual 72, 3) := by decide +kernel
theorem dX2_make_191 : decode cX2_make 191 = .ok (.ifCond .eq 5, 3) := by decide +kernel
theorem dX2_make_194 : decode cX2_make 194 = .ok (.iconst 0, 1) := by decide +kernel
theorem dX2_make_195 : decode cX2_make 195 = .ok (.ireturn, 1) := by decide +kernel
theorem dX2_make_196 : decode cX2_make 196 = .ok (.aload_n 0, 1) := by decide +kernel
theorem dX2_make_197 : decode cX2_make 197 = .ok (.iload_n 1, 1) := by decide +kernel
theorem dX2_make_198 : decode cX2_make 198 = .ok (.invokevirtual 99, 3) := by decide +kernel
theorem dX2_make_201 : decode cX2_make 201 = .ok (.aload_n 0, 1) := by decide +kernel
theorem dX2_make_202 : decode cX2_make 202 = .ok (.getfield 13, 3) := by decide +kernel
theorem dX2_make_205 : decode cX2_make 205 = .ok (.iload_n 1, 1) := by decide +kernel
theorem dX2_make_206 : decode cX2_make 206 = .ok (.baload, 1) := by decide +kernel
theorem dX2_make_207 : decode cX2_make 207 = .ok (.ifCond .ne 5, 3) := by decide +kernel
theorem dX2_make_210 : decode cX2_make 210 = .ok (.iconst (-1), 1) := by decide +kernel
theorem dX2_make_211 : decode cX2_make 211 = .ok (.ireturn, 1) := by decide +kernel
theorem dX2_make_212 : decode cX2_make 212 = .ok (.iload 5, 2) := by decide +kernel
theorem dX2_make_214 : decode cX2_make 214 = .ok (.ifCond .ne 6, 3) := by decide +kernel
theorem dX2_make_217 : decode cX2_make 217 = .ok (.bipush (-2), 2) := by decide +kernel
theorem dX2_make_219 : decode cX2_make 219 = .ok (.ireturn, 1) := by decide +kernel
theorem dX2_make_220 : decode cX2_make 220 = .ok (.iload 6, 2) := by decide +kernel
theorem dX2_make_222 : decode cX2_make 222 = .ok (.ifCond .eq 10, 3) := by decide +kernel
theorem dX2_make_225 : decode cX2_make 225 = .ok (.iload 7, 2) := by decide +kernel
theorem dX2_make_227 : decode cX2_make 227 = .ok (.ifCond .eq 5, 3) := by decide +kernel
theorem dX2_make_230 : decode cX2_make 230 = .ok (.iconst 0, 1) := by decide +kernel
theorem dX2_make_231 : decode cX2_make 231 = .ok (.ireturn, 1) := by decide +kernel
theorem dX2_make_232 : decode cX2_make 232 = .ok (.aload_n 0, 1) := by decide +kernel
theorem dX2_make_233 : decode cX2_make 233 = .ok (.iload_n 1, 1) := by decide +kernel
theorem dX2_make_234 : decode cX2_make 234 = .ok (.iconst 1, 1) := by decide +kernel
theorem dX2_make_235 : decode cX2_make 235 = .ok (.invokevirtual 96, 3) := by decide +kernel
theorem dX2_make_238 : decode cX2_make 238 = .ok (.ifCond .eq 6, 3) := by decide +kernel
theorem dX2_make_241 : decode cX2_make 241 = .ok (.bipush (-3), 2) := by decide +kernel
theorem dX2_make_243 : decode cX2_make 243 = .ok (.ireturn, 1) := by decide +kernel
theorem dX2_make_244 : decode cX2_make 244 = .ok (.iload 7, 2) := by decide +kernel
theorem dX2_make_246 : decode cX2_make 246 = .ok (.ifCond .ne 22, 3) := by decide +kernel
theorem dX2_make_249 : decode cX2_make 249 = .ok (.aload_n 0, 1) := by decide +kernel
theorem dX2_make_250 : decode cX2_make 250 = .ok (.iload_n 2, 1) := by decide +kernel
theorem dX2_make_251 : decode cX2_make 251 = .ok (.iload_n 3, 1) := by decide +kernel
theorem dX2_make_252 : decode cX2_make 252 = .ok (.iload 4, 2) := by decide +kernel
theorem dX2_make_254 : decode cX2_make 254 = .ok (.iload 6, 2) := by decide +kernel
theorem dX2_make_256 : decode cX2_make 256 = .ok (.ifCond .ne 7, 3) := by decide +kernel
theorem dX2_make_259 : decode cX2_make 259 = .ok (.iconst 1, 1) := by decide +kernel
theorem dX2_make_260 : decode cX2_make 260 = .ok (.goto 4, 3) := by decide +kernel
theorem dX2_make_263 : decode cX2_make 263 = .ok (.iconst 0, 1) := by decide +kernel
theorem dX2_make_264 : decode cX2_make 264 = .ok (.invokevirtual 103, 3) := by decide +kernel
theorem dX2_make_267 : decode cX2_make 267 = .ok (.pop, 1) := by decide +kernel
theorem dX2_make_268 : decode cX2_make 268 = .ok (.iload 6, 2) := by decide +kernel
theorem dX2_make_270 : decode cX2_make 270 = .ok (.ifCond .ne 18, 3) := by decide +kernel
theorem dX2_make_273 : decode cX2_make 273 = .ok (.aload_n 0, 1) := by decide +kernel
theorem dX2_make_274 : decode cX2_make 274 = .ok (.getfield 20, 3) := by decide +kernel
theorem dX2_make_277 : decode cX2_make 277 = .ok (.aload_n 0, 1) := by decide +kernel
theorem dX2_make_278 : decode cX2_make 278 = .ok (.getfield 7, 3) := by decide +kernel
theorem dX2_make_281 : decode cX2_make 281 = .ok (.iload_n 1, 1) := by decide +kernel
theorem dX2_make_282 : decode cX2_make 282 = .ok (.iaload, 1) := by decide +kernel
theorem dX2_make_283 : decode cX2_make 283 = .ok (.dup2, 1) := by decide +kernel
theorem dX2_make_284 : decode cX2_make 284 = .ok (.iaload, 1) := by decide +kernel
theorem dX2_make_285 : decode cX2_make 285 = .ok (.iconst 1, 1) := by decide +kernel
theorem dX2_make_286 : decode cX2_make 286 = .ok (.iadd, 1) := by decide +kernel
theorem dX2_make_287 : decode cX2_make 287 = .ok (.iastore, 1) := by decide +kernel
theorem dX2_make_288 : decode cX2_make 288 = .ok (.iload 6, 2) := by decide +kernel
theorem dX2_make_290 : decode cX2_make 290 = .ok (.ifCond .eq 7, 3) := by decide +kernel
theorem dX2_make_293 : decode cX2_make 293 = .ok (.iconst 1, 1) := by decide +kernel
theorem dX2_make_294 : decode cX2_make 294 = .ok (.goto 4, 3) := by decide +kernel
theorem dX2_make_297 : decode cX2_make 297 = .ok (.iconst 2, 1) := by decide +kernel
theorem dX2_make_298 : decode cX2_make 298 = .ok (.ireturn, 1) := by decide +kernel
set_option maxRecDepth 20000 in
theorem ggX2_set_X2_isSubject : GoodIn wsX2_set wsX2_isSubject := goodIn_r _ [8, 9, 10, 7, 11] (by decide +kernel) (by decide +kernel)
set_option maxRecDepth 20000 in
theorem gX2_set_X2_isSubject : GoodIn wsX2_set (va_wsS RX2 65 yX2_isSubject wsX2_isSubject) := goodIn_app (goodIn_of _ (by decide +kernel)) ggX2_set_X2_isSubject
set_option maxRecDepth 20000 in
theorem ggX2_set_X2_isNumber : GoodIn wsX2_set wsX2_isNumber := goodIn_r _ [14, 9, 10, 7, 11] (by decide +kernel) (by decide +kernel)
set_option maxRecDepth 20000 in
theorem gX2_set_X2_isNumber : GoodIn wsX2_set (va_wsS RX2 89 yX2_isNumber wsX2_isNumber) := goodIn_app (goodIn_of _ (by decide +kernel)) ggX2_set_X2_isNumber
set_option maxRecDepth 20000 in
theorem ggX2_set_X2_within : GoodIn wsX2_set wsX2_within := goodIn_r _ [11] (by decide +kernel) (by decide +kernel)
set_option maxRecDepth 20000 in
theorem gX2_set_X2_within : GoodIn wsX2_set (va_wsS RX2 54 yX2_within wsX2_within) := goodIn_app (goodIn_of _ (by decide +kernel)) ggX2_set_X2_within
set_option maxRecDepth 20000 in
theorem ggX2_set_X2_fails : GoodIn wsX2_set wsX2_fails := goodIn_r _ [18, 19, 51, 52, 53, 54, 55, 56, 57, 58, 59, 60, 61, 62, 63, 64, 65, 66] (by decide +kernel) (by decide +kernel)
set_option maxRecDepth 20000 in
theorem gX2_set_X2_fails : GoodIn wsX2_set (wsV RX2 72 RX2 yX2_fails wsX2_fails) := goodIn_app (goodIn_of _ (by decide +kernel)) ggX2_set_X2_fails
set_option maxRecDepth 20000 in
theorem ggX2_set_X2_begin : GoodIn wsX2_set wsX2_begin := goodIn_r _ [23, 24, 51, 52, 53, 54, 55, 56, 57, 58, 59, 60, 61, 62, 63, 64, 65, 66] (by decide +kernel) (by decide +kernel)
set_option maxRecDepth 20000 in
theorem gX2_set_X2_begin : GoodIn wsX2_set (wsV RX2 99 RX2 yX2_begin wsX2_begin) := goodIn_app (goodIn_of _ (by decide +kernel)) ggX2_set_X2_begin
set_option maxRecDepth 20000 in
theorem ggX2_set_X2_find : GoodIn wsX2_set wsX2_find := goodIn_r _ [28, 29, 30, 51, 52, 53, 54, 55, 56, 57, 58, 59, 60, 61, 62, 63, 64, 65, 66] (by decide +kernel) (by decide +kernel)
set_option maxRecDepth 20000 in
theorem gX2_set_X2_find : GoodIn wsX2_set (wsV RX2 92 RX2 yX2_find wsX2_find) := goodIn_app (goodIn_of _ (by decide +kernel)) ggX2_set_X2_find
set_option maxRecDepth 20000 in
theorem ggX2_set_X2_isFull : GoodIn wsX2_set wsX2_isFull := goodIn_r _ [34, 2, 35, 36, 37, 38, 7, 39, 40, 29, 30, 41, 42, 43, 44, 45, 3, 46, 51, 52, 53, 54, 55, 56, 57, 58, 59, 60, 61, 62, 63, 64, 65, 66] (by decide +kernel) (by decide +kernel)
set_option maxRecDepth 20000 in
theorem gX2_set_X2_isFull : GoodIn wsX2_set (wsV RX2 96 RX2 yX2_isFull wsX2_isFull) := goodIn_app (goodIn_of _ (by decide +kernel)) ggX2_set_X2_isFull
set_option maxRecDepth 20000 in
theorem ggX2_set_X2_append : GoodIn wsX2_set wsX2_append := goodIn_r _ [50, 4, 3, 46, 51, 52, 53, 54, 55, 56, 57, 58, 59, 60, 61, 62, 63, 64, 65, 66] (by decide +kernel) (by decide +kernel)
set_option maxRecDepth 20000 in
theorem gX2_set_X2_append : GoodIn wsX2_set (wsV RX2 107 RX2 yX2_append wsX2_append) := goodIn_app (goodIn_of _ (by decide +kernel)) ggX2_set_X2_append
theorem dX2_set_0 : decode cX2_set 0 = .ok (.aload_n 0, 1) := by decide +kernel
theorem dX2_set_1 : decode cX2_set 1 = .ok (.iload_n 1, 1) := by decide +kernel
theorem dX2_set_2 : decode cX2_set 2 = .ok (.invokestatic 65, 3) := by decide +kernel
theorem dX2_set_5 : decode cX2_set 5 = .ok (.ifCond .eq 19, 3) := by decide +kernel
theorem dX2_set_8 : decode cX2_set 8 = .ok (.iload_n 2, 1) := by decide +kernel
theorem dX2_set_9 : decode cX2_set 9 = .ok (.invokestatic 89, 3) := by decide +kernel
theorem dX2_set_12 : decode cX2_set 12 = .ok (.ifCond .eq 12, 3) := by decide +kernel
theorem dX2_set_15 : decode cX2_set 15 = .ok (.iload_n 3, 1) := by decide +kernel
theorem dX2_set_16 : decode cX2_set 16 = .ok (.bipush 24, 2) := by decide +kernel
theorem dX2_set_18 : decode cX2_set 18 = .ok (.invokestatic 54, 3) := by decide +kernel
theorem dX2_set_21 : decode cX2_set 21 = .ok (.ifCond .ne 7, 3) := by decide +kernel
theorem dX2_set_24 : decode cX2_set 24 = .ok (.iconst 1, 1) := by decide +kernel
theorem dX2_set_25 : decode cX2_set 25 = .ok (.goto 4, 3) := by decide +kernel
theorem dX2_set_28 : decode cX2_set 28 = .ok (.iconst 0, 1) := by decide +kernel
theorem dX2_set_29 : decode cX2_set 29 = .ok (.iconst 1, 1) := by decide +kernel
theorem dX2_set_30 : decode cX2_set 30 = .ok (.invokevirtual 72, 3) := by decide +kernel
theorem dX2_set_33 : decode cX2_set 33 = .ok (.ifCond .eq 5, 3) := by decide +kernel
theorem dX2_set_36 : decode cX2_set 36 = .ok (.iconst 0, 1) := by decide +kernel
theorem dX2_set_37 : decode cX2_set 37 = .ok (.ireturn, 1) := by decide +kernel
theorem dX2_set_38 : decode cX2_set 38 = .ok (.aload_n 0, 1) := by decide +kernel
theorem dX2_set_39 : decode cX2_set 39 = .ok (.iload_n 1, 1) := by decide +kernel
theorem dX2_set_40 : decode cX2_set 40 = .ok (.invokevirtual 99, 3) := by decide +kernel
theorem dX2_set_43 : decode cX2_set 43 = .ok (.aload_n 0, 1) := by decide +kernel
theorem dX2_set_44 : decode cX2_set 44 = .ok (.getfield 13, 3) := by decide +kernel
theorem dX2_set_47 : decode cX2_set 47 = .ok (.iload_n 1, 1) := by decide +kernel
theorem dX2_set_48 : decode cX2_set 48 = .ok (.baload, 1) := by decide +kernel
theorem dX2_set_49 : decode cX2_set 49 = .ok (.ifCond .ne 5, 3) := by decide +kernel
theorem dX2_set_52 : decode cX2_set 52 = .ok (.iconst (-1), 1) := by decide +kernel
theorem dX2_set_53 : decode cX2_set 53 = .ok (.ireturn, 1) := by decide +kernel
theorem dX2_set_54 : decode cX2_set 54 = .ok (.aload_n 0, 1) := by decide +kernel
theorem dX2_set_55 : decode cX2_set 55 = .ok (.aload_n 0, 1) := by decide +kernel
theorem dX2_set_56 : decode cX2_set 56 = .ok (.getfield 7, 3) := by decide +kernel
theorem dX2_set_59 : decode cX2_set 59 = .ok (.iload_n 1, 1) := by decide +kernel
theorem dX2_set_60 : decode cX2_set 60 = .ok (.iaload, 1) := by decide +kernel
theorem dX2_set_61 : decode cX2_set 61 = .ok (.iload_n 2, 1) := by decide +kernel
theorem dX2_set_62 : decode cX2_set 62 = .ok (.invokevirtual 92, 3) := by decide +kernel
theorem dX2_set_65 : decode cX2_set 65 = .ok (.istore 5, 2) := by decide +kernel
theorem dX2_set_67 : decode cX2_set 67 = .ok (.iload 5, 2) := by decide +kernel
theorem dX2_set_69 : decode cX2_set 69 = .ok (.iconst (-1), 1) := by decide +kernel
theorem dX2_set_70 : decode cX2_set 70 = .ok (.if_icmp .eq 14, 3) := by decide +kernel
theorem dX2_set_73 : decode cX2_set 73 = .ok (.iload_n 3, 1) := by decide +kernel
theorem dX2_set_74 : decode cX2_set 74 = .ok (.aload_n 0, 1) := by decide +kernel
theorem dX2_set_75 : decode cX2_set 75 = .ok (.getfield 32, 3) := by decide +kernel
theorem dX2_set_78 : decode cX2_set 78 = .ok (.iload 5, 2) := by decide +kernel
theorem dX2_set_80 : decode cX2_set 80 = .ok (.iaload, 1) := by decide +kernel
theorem dX2_set_81 : decode cX2_set 81 = .ok (.if_icmp .le 5, 3) := by decide +kernel
theorem dX2_set_84 : decode cX2_set 84 = .ok (.iconst 0, 1) := by decide +kernel
theorem dX2_set_85 : decode cX2_set 85 = .ok (.ireturn, 1) := by decide +kernel
theorem dX2_set_86 : decode cX2_set 86 = .ok (.iload_n 3, 1) := by decide +kernel
theorem dX2_set_87 : decode cX2_set 87 = .ok (.aload_n 0, 1) := by decide +kernel
theorem dX2_set_88 : decode cX2_set 88 = .ok (.getfield 32, 3) := by decide +kernel
theorem dX2_set_91 : decode cX2_set 91 = .ok (.iload 5, 2) := by decide +kernel
theorem dX2_set_93 : decode cX2_set 93 = .ok (.iaload, 1) := by decide +kernel
theorem dX2_set_94 : decode cX2_set 94 = .ok (.if_icmp .ge 19, 3) := by decide +kernel
theorem dX2_set_97 : decode cX2_set 97 = .ok (.aload_n 0, 1) := by decide +kernel
theorem dX2_set_98 : decode cX2_set 98 = .ok (.getfield 35, 3) := by decide +kernel
theorem dX2_set_101 : decode cX2_set 101 = .ok (.bipush 24, 2) := by decide +kernel
theorem dX2_set_103 : decode cX2_set 103 = .ok (.iload 5, 2) := by decide +kernel
theorem dX2_set_105 : decode cX2_set 105 = .ok (.imul, 1) := by decide +kernel
theorem dX2_set_106 : decode cX2_set 106 = .ok (.iload_n 3, 1) := by decide +kernel
theorem dX2_set_107 : decode cX2_set 107 = .ok (.iadd, 1) := by decide +kernel
theorem dX2_set_108 : decode cX2_set 108 = .ok (.iload 4, 2) := by decide +kernel
theorem dX2_set_110 : decode cX2_set 110 = .ok (.iastore, 1) := by decide +kernel
theorem dX2_set_111 : decode cX2_set 111 = .ok (.iconst 1, 1) := by decide +kernel
theorem dX2_set_112 : decode cX2_set 112 = .ok (.ireturn, 1) := by decide +kernel
theorem dX2_set_113 : decode cX2_set 113 = .ok (.aload_n 0, 1) := by decide +kernel
theorem dX2_set_114 : decode cX2_set 114 = .ok (.iload_n 1, 1) := by decide +kernel
theorem dX2_set_115 : decode cX2_set 115 = .ok (.iconst 1, 1) := by decide +kernel
theorem dX2_set_116 : decode cX2_set 116 = .ok (.invokevirtual 96, 3) := by decide +kernel
theorem dX2_set_119 : decode cX2_set 119 = .ok (.ifCond .eq 6, 3) := by decide +kernel
theorem dX2_set_122 : decode cX2_set 122 = .ok (.bipush (-3), 2) := by decide +kernel
theorem dX2_set_124 : decode cX2_set 124 = .ok (.ireturn, 1) := by decide +kernel
theorem dX2_set_125 : decode cX2_set 125 = .ok (.aload_n 0, 1) := by decide +kernel
theorem dX2_set_126 : decode cX2_set 126 = .ok (.iload 5, 2) := by decide +kernel
theorem dX2_set_128 : decode cX2_set 128 = .ok (.iload 4, 2) := by decide +kernel
theorem dX2_set_130 : decode cX2_set 130 = .ok (.iconst 0, 1) := by decide +kernel
theorem dX2_set_131 : decode cX2_set 131 = .ok (.invokevirtual 107, 3) := by decide +kernel
theorem dX2_set_134 : decode cX2_set 134 = .ok (.iconst 1, 1) := by decide +kernel
theorem dX2_set_135 : decode cX2_set 135 = .ok (.ireturn, 1) := by decide +kernel
set_option maxRecDepth 20000 in
theorem ggX2_give_X2_isSubject : GoodIn wsX2_give wsX2_isSubject := goodIn_r _ [8, 9, 10, 7, 11] (by decide +kernel) (by decide +kernel)
set_option maxRecDepth 20000 in
theorem gX2_give_X2_isSubject : GoodIn wsX2_give (va_wsS RX2 65 yX2_isSubject wsX2_isSubject) := goodIn_app (goodIn_of _ (by decide +kernel)) ggX2_give_X2_isSubject
set_option maxRecDepth 20000 in
theorem ggX2_give_X2_isLabel : GoodIn wsX2_give wsX2_isLabel := goodIn_r _ [14, 9, 10, 7, 11] (by decide +kernel) (by decide +kernel)
set_option maxRecDepth 20000 in
theorem gX2_give_X2_isLabel : GoodIn wsX2_give (va_wsS RX2 69 yX2_isLabel wsX2_isLabel) := goodIn_app (goodIn_of _ (by decide +kernel)) ggX2_give_X2_isLabel
set_option maxRecDepth 20000 in
theorem ggX2_give_X2_isNumber : GoodIn wsX2_give wsX2_isNumber := goodIn_r _ [17, 9, 10, 7, 11] (by decide +kernel) (by decide +kernel)
set_option maxRecDepth 20000 in
theorem gX2_give_X2_isNumber : GoodIn wsX2_give (va_wsS RX2 89 yX2_isNumber wsX2_isNumber) := goodIn_app (goodIn_of _ (by decide +kernel)) ggX2_give_X2_isNumber
set_option maxRecDepth 20000 in
theorem ggX2_give_X2_fails : GoodIn wsX2_give wsX2_fails := goodIn_r _ [21, 22, 57, 58, 59, 60, 61, 62, 63, 64, 65, 66, 67, 68, 69, 70, 71, 72] (by decide +kernel) (by decide +kernel)
set_option maxRecDepth 20000 in
theorem gX2_give_X2_fails : GoodIn wsX2_give (wsV RX2 72 RX2 yX2_fails wsX2_fails) := goodIn_app (goodIn_of _ (by decide +kernel)) ggX2_give_X2_fails
set_option maxRecDepth 20000 in
theorem ggX2_give_X2_begin : GoodIn wsX2_give wsX2_begin := goodIn_r _ [26, 27, 57, 58, 59, 60, 61, 62, 63, 64, 65, 66, 67, 68, 69, 70, 71, 72] (by decide +kernel) (by decide +kernel)
set_option maxRecDepth 20000 in
theorem gX2_give_X2_begin : GoodIn wsX2_give (wsV RX2 99 RX2 yX2_begin wsX2_begin) := goodIn_app (goodIn_of _ (by decide +kernel)) ggX2_give_X2_begin
set_option maxRecDepth 20000 in
theorem ggX2_give_X2_may : GoodIn wsX2_give wsX2_may := goodIn_r _ [30] (by decide +kernel) (by decide +kernel)
set_option maxRecDepth 20000 in
theorem gX2_give_X2_may : GoodIn wsX2_give (va_wsS RX2 83 yX2_may wsX2_may) := goodIn_app (goodIn_of _ (by decide +kernel)) ggX2_give_X2_may
set_option maxRecDepth 20000 in
theorem ggX2_give_X2_isFull : GoodIn wsX2_give wsX2_isFull := goodIn_r _ [34, 2, 35, 36, 37, 38, 7, 39, 3, 40, 41, 42, 43, 44, 45, 46, 4, 47, 57, 58, 59, 60, 61, 62, 63, 64, 65, 66, 67, 68, 69, 70, 71, 72] (by decide +kernel) (by decide +kernel)
set_option maxRecDepth 20000 in
theorem gX2_give_X2_isFull : GoodIn wsX2_give (wsV RX2 96 RX2 yX2_isFull wsX2_isFull) := goodIn_app (goodIn_of _ (by decide +kernel)) ggX2_give_X2_isFull
set_option maxRecDepth 20000 in
theorem ggX2_give_X2_find : GoodIn wsX2_give wsX2_find := goodIn_r _ [51, 40, 41, 57, 58, 59, 60, 61, 62, 63, 64, 65, 66, 67, 68, 69, 70, 71, 72] (by decide +kernel) (by decide +kernel)
set_option maxRecDepth 20000 in
theorem gX2_give_X2_find : GoodIn wsX2_give (wsV RX2 92 RX2 yX2_find wsX2_find) := goodIn_app (goodIn_of _ (by decide +kernel)) ggX2_give_X2_find
set_option maxRecDepth 20000 in
theorem ggX2_give_X2_append : GoodIn wsX2_give wsX2_append := goodIn_r _ [55, 56, 4, 47, 57, 58, 59, 60, 61, 62, 63, 64, 65, 66, 67, 68, 69, 70, 71, 72] (by decide +kernel) (by decide +kernel)
set_option maxRecDepth 20000 in
theorem gX2_give_X2_append : GoodIn wsX2_give (wsV RX2 107 RX2 yX2_append wsX2_append) := goodIn_app (goodIn_of _ (by decide +kernel)) ggX2_give_X2_append
theorem dX2_give_0 : decode cX2_give 0 = .ok (.aload_n 0, 1) := by decide +kernel
theorem dX2_give_1 : decode cX2_give 1 = .ok (.iload_n 1, 1) := by decide +kernel
theorem dX2_give_2 : decode cX2_give 2 = .ok (.invokestatic 65, 3) := by decide +kernel
theorem dX2_give_5 : decode cX2_give 5 = .ok (.ifCond .eq 17, 3) := by decide +kernel
theorem dX2_give_8 : decode cX2_give 8 = .ok (.iload_n 2, 1) := by decide +kernel
theorem dX2_give_9 : decode cX2_give 9 = .ok (.invokestatic 69, 3) := by decide +kernel
theorem dX2_give_12 : decode cX2_give 12 = .ok (.ifCond .eq 10, 3) := by decide +kernel
theorem dX2_give_15 : decode cX2_give 15 = .ok (.iload_n 3, 1) := by decide +kernel
theorem dX2_give_16 : decode cX2_give 16 = .ok (.invokestatic 89, 3) := by decide +kernel
theorem dX2_give_19 : decode cX2_give 19 = .ok (.ifCond .ne 7, 3) := by decide +kernel
theorem dX2_give_22 : decode cX2_give 22 = .ok (.iconst 1, 1) := by decide +kernel
theorem dX2_give_23 : decode cX2_give 23 = .ok (.goto 4, 3) := by decide +kernel
theorem dX2_give_26 : decode cX2_give 26 = .ok (.iconst 0, 1) := by decide +kernel
theorem dX2_give_27 : decode cX2_give 27 = .ok (.iconst 1, 1) := by decide +kernel
theorem dX2_give_28 : decode cX2_give 28 = .ok (.invokevirtual 72, 3) := by decide +kernel
theorem dX2_give_31 : decode cX2_give 31 = .ok (.ifCond .eq 5, 3) := by decide +kernel
theorem dX2_give_34 : decode cX2_give 34 = .ok (.iconst 0, 1) := by decide +kernel
theorem dX2_give_35 : decode cX2_give 35 = .ok (.ireturn, 1) := by decide +kernel
theorem dX2_give_36 : decode cX2_give 36 = .ok (.aload_n 0, 1) := by decide +kernel
theorem dX2_give_37 : decode cX2_give 37 = .ok (.iload_n 1, 1) := by decide +kernel
theorem dX2_give_38 : decode cX2_give 38 = .ok (.invokevirtual 99, 3) := by decide +kernel
theorem dX2_give_41 : decode cX2_give 41 = .ok (.aload_n 0, 1) := by decide +kernel
theorem dX2_give_42 : decode cX2_give 42 = .ok (.getfield 13, 3) := by decide +kernel
theorem dX2_give_45 : decode cX2_give 45 = .ok (.iload_n 1, 1) := by decide +kernel
theorem dX2_give_46 : decode cX2_give 46 = .ok (.baload, 1) := by decide +kernel
theorem dX2_give_47 : decode cX2_give 47 = .ok (.ifCond .ne 5, 3) := by decide +kernel
theorem dX2_give_50 : decode cX2_give 50 = .ok (.iconst (-1), 1) := by decide +kernel
theorem dX2_give_51 : decode cX2_give 51 = .ok (.ireturn, 1) := by decide +kernel
theorem dX2_give_52 : decode cX2_give 52 = .ok (.iload_n 2, 1) := by decide +kernel
theorem dX2_give_53 : decode cX2_give 53 = .ok (.aload_n 0, 1) := by decide +kernel
theorem dX2_give_54 : decode cX2_give 54 = .ok (.getfield 7, 3) := by decide +kernel
theorem dX2_give_57 : decode cX2_give 57 = .ok (.iload_n 1, 1) := by decide +kernel
theorem dX2_give_58 : decode cX2_give 58 = .ok (.iaload, 1) := by decide +kernel
theorem dX2_give_59 : decode cX2_give 59 = .ok (.if_icmp .eq 16, 3) := by decide +kernel
theorem dX2_give_62 : decode cX2_give 62 = .ok (.aload_n 0, 1) := by decide +kernel
theorem dX2_give_63 : decode cX2_give 63 = .ok (.getfield 7, 3) := by decide +kernel
theorem dX2_give_66 : decode cX2_give 66 = .ok (.iload_n 1, 1) := by decide +kernel
theorem dX2_give_67 : decode cX2_give 67 = .ok (.iaload, 1) := by decide +kernel
theorem dX2_give_68 : decode cX2_give 68 = .ok (.iload_n 2, 1) := by decide +kernel
theorem dX2_give_69 : decode cX2_give 69 = .ok (.invokestatic 83, 3) := by decide +kernel
theorem dX2_give_72 : decode cX2_give 72 = .ok (.ifCond .ne 6, 3) := by decide +kernel
theorem dX2_give_75 : decode cX2_give 75 = .ok (.bipush (-2), 2) := by decide +kernel
theorem dX2_give_77 : decode cX2_give 77 = .ok (.ireturn, 1) := by decide +kernel
theorem dX2_give_78 : decode cX2_give 78 = .ok (.aload_n 0, 1) := by decide +kernel
theorem dX2_give_79 : decode cX2_give 79 = .ok (.iload_n 1, 1) := by decide +kernel
theorem dX2_give_80 : decode cX2_give 80 = .ok (.iconst 1, 1) := by decide +kernel
theorem dX2_give_81 : decode cX2_give 81 = .ok (.invokevirtual 96, 3) := by decide +kernel
theorem dX2_give_84 : decode cX2_give 84 = .ok (.ifCond .eq 6, 3) := by decide +kernel
theorem dX2_give_87 : decode cX2_give 87 = .ok (.bipush (-3), 2) := by decide +kernel
theorem dX2_give_89 : decode cX2_give 89 = .ok (.ireturn, 1) := by decide +kernel
theorem dX2_give_90 : decode cX2_give 90 = .ok (.aload_n 0, 1) := by decide +kernel
theorem dX2_give_91 : decode cX2_give 91 = .ok (.getfield 20, 3) := by decide +kernel
theorem dX2_give_94 : decode cX2_give 94 = .ok (.aload_n 0, 1) := by decide +kernel
theorem dX2_give_95 : decode cX2_give 95 = .ok (.getfield 7, 3) := by decide +kernel
theorem dX2_give_98 : decode cX2_give 98 = .ok (.iload_n 1, 1) := by decide +kernel
theorem dX2_give_99 : decode cX2_give 99 = .ok (.iaload, 1) := by decide +kernel
theorem dX2_give_100 : decode cX2_give 100 = .ok (.dup2, 1) := by decide +kernel
theorem dX2_give_101 : decode cX2_give 101 = .ok (.iaload, 1) := by decide +kernel
theorem dX2_give_102 : decode cX2_give 102 = .ok (.iconst 1, 1) := by decide +kernel
theorem dX2_give_103 : decode cX2_give 103 = .ok (.iadd, 1) := by decide +kernel
theorem dX2_give_104 : decode cX2_give 104 = .ok (.iastore, 1) := by decide +kernel
theorem dX2_give_105 : decode cX2_give 105 = .ok (.aload_n 0, 1) := by decide +kernel
theorem dX2_give_106 : decode cX2_give 106 = .ok (.iload_n 2, 1) := by decide +kernel
theorem dX2_give_107 : decode cX2_give 107 = .ok (.iload_n 3, 1) := by decide +kernel
theorem dX2_give_108 : decode cX2_give 108 = .ok (.invokevirtual 92, 3) := by decide +kernel
theorem dX2_give_111 : decode cX2_give 111 = .ok (.istore 5, 2) := by decide +kernel
theorem dX2_give_113 : decode cX2_give 113 = .ok (.iload 5, 2) := by decide +kernel
theorem dX2_give_115 : decode cX2_give 115 = .ok (.iconst (-1), 1) := by decide +kernel
theorem dX2_give_116 : decode cX2_give 116 = .ok (.if_icmp .eq 24, 3) := by decide +kernel
theorem dX2_give_119 : decode cX2_give 119 = .ok (.aload_n 0, 1) := by decide +kernel
theorem dX2_give_120 : decode cX2_give 120 = .ok (.getfield 32, 3) := by decide +kernel
theorem dX2_give_123 : decode cX2_give 123 = .ok (.iload 5, 2) := by decide +kernel
theorem dX2_give_125 : decode cX2_give 125 = .ok (.iaload, 1) := by decide +kernel
theorem dX2_give_126 : decode cX2_give 126 = .ok (.bipush 24, 2) := by decide +kernel
theorem dX2_give_128 : decode cX2_give 128 = .ok (.if_icmp .ge 12, 3) := by decide +kernel
theorem dX2_give_131 : decode cX2_give 131 = .ok (.aload_n 0, 1) := by decide +kernel
theorem dX2_give_132 : decode cX2_give 132 = .ok (.iload 5, 2) := by decide +kernel
theorem dX2_give_134 : decode cX2_give 134 = .ok (.iload 4, 2) := by decide +kernel
theorem dX2_give_136 : decode cX2_give 136 = .ok (.iconst 1, 1) := by decide +kernel
theorem dX2_give_137 : decode cX2_give 137 = .ok (.invokevirtual 107, 3) := by decide +kernel
theorem dX2_give_140 : decode cX2_give 140 = .ok (.iconst 2, 1) := by decide +kernel
theorem dX2_give_141 : decode cX2_give 141 = .ok (.ireturn, 1) := by decide +kernel
set_option maxRecDepth 20000 in
theorem ggX2_trim_X2_isSubject : GoodIn wsX2_trim wsX2_isSubject := goodIn_r _ [7, 8, 9, 6, 10] (by decide +kernel) (by decide +kernel)
set_option maxRecDepth 20000 in
theorem gX2_trim_X2_isSubject : GoodIn wsX2_trim (va_wsS RX2 65 yX2_isSubject wsX2_isSubject) := goodIn_app (goodIn_of _ (by decide +kernel)) ggX2_trim_X2_isSubject
set_option maxRecDepth 20000 in
theorem ggX2_trim_X2_isNumber : GoodIn wsX2_trim wsX2_isNumber := goodIn_r _ [13, 8, 9, 6, 10] (by decide +kernel) (by decide +kernel)
set_option maxRecDepth 20000 in
theorem gX2_trim_X2_isNumber : GoodIn wsX2_trim (va_wsS RX2 89 yX2_isNumber wsX2_isNumber) := goodIn_app (goodIn_of _ (by decide +kernel)) ggX2_trim_X2_isNumber
set_option maxRecDepth 20000 in
theorem ggX2_trim_X2_within : GoodIn wsX2_trim wsX2_within := goodIn_r _ [10] (by decide +kernel) (by decide +kernel)
set_option maxRecDepth 20000 in
theorem gX2_trim_X2_within : GoodIn wsX2_trim (va_wsS RX2 54 yX2_within wsX2_within) := goodIn_app (goodIn_of _ (by decide +kernel)) ggX2_trim_X2_within
set_option maxRecDepth 20000 in
theorem ggX2_trim_X2_fails : GoodIn wsX2_trim wsX2_fails := goodIn_r _ [17, 18, 30, 31, 32, 33, 34, 35, 36, 37, 38, 39, 40, 41, 42, 43, 44, 45] (by decide +kernel) (by decide +kernel)
set_option maxRecDepth 20000 in
theorem gX2_trim_X2_fails : GoodIn wsX2_trim (wsV RX2 72 RX2 yX2_fails wsX2_fails) := goodIn_app (goodIn_of _ (by decide +kernel)) ggX2_trim_X2_fails
set_option maxRecDepth 20000 in
theorem ggX2_trim_X2_begin : GoodIn wsX2_trim wsX2_begin := goodIn_r _ [22, 23, 30, 31, 32, 33, 34, 35, 36, 37, 38, 39, 40, 41, 42, 43, 44, 45] (by decide +kernel) (by decide +kernel)
set_option maxRecDepth 20000 in
theorem gX2_trim_X2_begin : GoodIn wsX2_trim (wsV RX2 99 RX2 yX2_begin wsX2_begin) := goodIn_app (goodIn_of _ (by decide +kernel)) ggX2_trim_X2_begin
set_option maxRecDepth 20000 in
theorem ggX2_trim_X2_find : GoodIn wsX2_trim wsX2_find := goodIn_r _ [27, 28, 29, 30, 31, 32, 33, 34, 35, 36, 37, 38, 39, 40, 41, 42, 43, 44, 45] (by decide +kernel) (by decide +kernel)
set_option maxRecDepth 20000 in
theorem gX2_trim_X2_find : GoodIn wsX2_trim (wsV RX2 92 RX2 yX2_find wsX2_find) := goodIn_app (goodIn_of _ (by decide +kernel)) ggX2_trim_X2_find
theorem dX2_trim_0 : decode cX2_trim 0 = .ok (.aload_n 0, 1) := by decide +kernel
theorem dX2_trim_1 : decode cX2_trim 1 = .ok (.iload_n 1, 1) := by decide +kernel
theorem dX2_trim_2 : decode cX2_trim 2 = .ok (.invokestatic 65, 3) := by decide +kernel
theorem dX2_trim_5 : decode cX2_trim 5 = .ok (.ifCond .eq 19, 3) := by decide +kernel
theorem dX2_trim_8 : decode cX2_trim 8 = .ok (.iload_n 2, 1) := by decide +kernel
theorem dX2_trim_9 : decode cX2_trim 9 = .ok (.invokestatic 89, 3) := by decide +kernel
theorem dX2_trim_12 : decode cX2_trim 12 = .ok (.ifCond .eq 12, 3) := by decide +kernel
theorem dX2_trim_15 : decode cX2_trim 15 = .ok (.iload_n 3, 1) := by decide +kernel
theorem dX2_trim_16 : decode cX2_trim 16 = .ok (.bipush 25, 2) := by decide +kernel
theorem dX2_trim_18 : decode cX2_trim 18 = .ok (.invokestatic 54, 3) := by decide +kernel
theorem dX2_trim_21 : decode cX2_trim 21 = .ok (.ifCond .ne 7, 3) := by decide +kernel
theorem dX2_trim_24 : decode cX2_trim 24 = .ok (.iconst 1, 1) := by decide +kernel
theorem dX2_trim_25 : decode cX2_trim 25 = .ok (.goto 4, 3) := by decide +kernel
theorem dX2_trim_28 : decode cX2_trim 28 = .ok (.iconst 0, 1) := by decide +kernel
theorem dX2_trim_29 : decode cX2_trim 29 = .ok (.iconst 1, 1) := by decide +kernel
theorem dX2_trim_30 : decode cX2_trim 30 = .ok (.invokevirtual 72, 3) := by decide +kernel
theorem dX2_trim_33 : decode cX2_trim 33 = .ok (.ifCond .eq 5, 3) := by decide +kernel
theorem dX2_trim_36 : decode cX2_trim 36 = .ok (.iconst 0, 1) := by decide +kernel
theorem dX2_trim_37 : decode cX2_trim 37 = .ok (.ireturn, 1) := by decide +kernel
theorem dX2_trim_38 : decode cX2_trim 38 = .ok (.aload_n 0, 1) := by decide +kernel
theorem dX2_trim_39 : decode cX2_trim 39 = .ok (.iload_n 1, 1) := by decide +kernel
theorem dX2_trim_40 : decode cX2_trim 40 = .ok (.invokevirtual 99, 3) := by decide +kernel
theorem dX2_trim_43 : decode cX2_trim 43 = .ok (.aload_n 0, 1) := by decide +kernel
theorem dX2_trim_44 : decode cX2_trim 44 = .ok (.getfield 13, 3) := by decide +kernel
theorem dX2_trim_47 : decode cX2_trim 47 = .ok (.iload_n 1, 1) := by decide +kernel
theorem dX2_trim_48 : decode cX2_trim 48 = .ok (.baload, 1) := by decide +kernel
theorem dX2_trim_49 : decode cX2_trim 49 = .ok (.ifCond .ne 5, 3) := by decide +kernel
theorem dX2_trim_52 : decode cX2_trim 52 = .ok (.iconst (-1), 1) := by decide +kernel
theorem dX2_trim_53 : decode cX2_trim 53 = .ok (.ireturn, 1) := by decide +kernel
theorem dX2_trim_54 : decode cX2_trim 54 = .ok (.aload_n 0, 1) := by decide +kernel
theorem dX2_trim_55 : decode cX2_trim 55 = .ok (.aload_n 0, 1) := by decide +kernel
theorem dX2_trim_56 : decode cX2_trim 56 = .ok (.getfield 7, 3) := by decide +kernel
theorem dX2_trim_59 : decode cX2_trim 59 = .ok (.iload_n 1, 1) := by decide +kernel
theorem dX2_trim_60 : decode cX2_trim 60 = .ok (.iaload, 1) := by decide +kernel
theorem dX2_trim_61 : decode cX2_trim 61 = .ok (.iload_n 2, 1) := by decide +kernel
theorem dX2_trim_62 : decode cX2_trim 62 = .ok (.invokevirtual 92, 3) := by decide +kernel
theorem dX2_trim_65 : decode cX2_trim 65 = .ok (.istore 4, 2) := by decide +kernel
theorem dX2_trim_67 : decode cX2_trim 67 = .ok (.iload 4, 2) := by decide +kernel
theorem dX2_trim_69 : decode cX2_trim 69 = .ok (.iconst (-1), 1) := by decide +kernel
theorem dX2_trim_70 : decode cX2_trim 70 = .ok (.if_icmp .eq 14, 3) := by decide +kernel
theorem dX2_trim_73 : decode cX2_trim 73 = .ok (.aload_n 0, 1) := by decide +kernel
theorem dX2_trim_74 : decode cX2_trim 74 = .ok (.getfield 32, 3) := by decide +kernel
theorem dX2_trim_77 : decode cX2_trim 77 = .ok (.iload 4, 2) := by decide +kernel
theorem dX2_trim_79 : decode cX2_trim 79 = .ok (.iaload, 1) := by decide +kernel
theorem dX2_trim_80 : decode cX2_trim 80 = .ok (.iload_n 3, 1) := by decide +kernel
theorem dX2_trim_81 : decode cX2_trim 81 = .ok (.if_icmp .ge 5, 3) := by decide +kernel
theorem dX2_trim_84 : decode cX2_trim 84 = .ok (.iconst 0, 1) := by decide +kernel
theorem dX2_trim_85 : decode cX2_trim 85 = .ok (.ireturn, 1) := by decide +kernel
theorem dX2_trim_86 : decode cX2_trim 86 = .ok (.aload_n 0, 1) := by decide +kernel
theorem dX2_trim_87 : decode cX2_trim 87 = .ok (.getfield 32, 3) := by decide +kernel
theorem dX2_trim_90 : decode cX2_trim 90 = .ok (.iload 4, 2) := by decide +kernel
theorem dX2_trim_92 : decode cX2_trim 92 = .ok (.iaload, 1) := by decide +kernel
theorem dX2_trim_93 : decode cX2_trim 93 = .ok (.iload_n 3, 1) := by decide +kernel
theorem dX2_trim_94 : decode cX2_trim 94 = .ok (.isub, 1) := by decide +kernel
theorem dX2_trim_95 : decode cX2_trim 95 = .ok (.istore 5, 2) := by decide +kernel
theorem dX2_trim_97 : decode cX2_trim 97 = .ok (.aload_n 0, 1) := by decide +kernel
theorem dX2_trim_98 : decode cX2_trim 98 = .ok (.getfield 32, 3) := by decide +kernel
theorem dX2_trim_101 : decode cX2_trim 101 = .ok (.iload 4, 2) := by decide +kernel
theorem dX2_trim_103 : decode cX2_trim 103 = .ok (.iload_n 3, 1) := by decide +kernel
theorem dX2_trim_104 : decode cX2_trim 104 = .ok (.iastore, 1) := by decide +kernel
theorem dX2_trim_105 : decode cX2_trim 105 = .ok (.iload 5, 2) := by decide +kernel
theorem dX2_trim_107 : decode cX2_trim 107 = .ok (.ireturn, 1) := by decide +kernel
set_option maxRecDepth 20000 in
theorem ggX2_remove_X2_isSubject : GoodIn wsX2_remove wsX2_isSubject := goodIn_r _ [7, 8, 9, 6, 10] (by decide +kernel) (by decide +kernel)
set_option maxRecDepth 20000 in
theorem gX2_remove_X2_isSubject : GoodIn wsX2_remove (va_wsS RX2 65 yX2_isSubject wsX2_isSubject) := goodIn_app (goodIn_of _ (by decide +kernel)) ggX2_remove_X2_isSubject
set_option maxRecDepth 20000 in
theorem ggX2_remove_X2_isNumber : GoodIn wsX2_remove wsX2_isNumber := goodIn_r _ [13, 8, 9, 6, 10] (by decide +kernel) (by decide +kernel)
set_option maxRecDepth 20000 in
theorem gX2_remove_X2_isNumber : GoodIn wsX2_remove (va_wsS RX2 89 yX2_isNumber wsX2_isNumber) := goodIn_app (goodIn_of _ (by decide +kernel)) ggX2_remove_X2_isNumber
set_option maxRecDepth 20000 in
theorem ggX2_remove_X2_fails : GoodIn wsX2_remove wsX2_fails := goodIn_r _ [17, 18, 38, 39, 40, 41, 42, 43, 44, 45, 46, 47, 48, 49, 50, 51, 52, 53] (by decide +kernel) (by decide +kernel)
set_option maxRecDepth 20000 in
theorem gX2_remove_X2_fails : GoodIn wsX2_remove (wsV RX2 72 RX2 yX2_fails wsX2_fails) := goodIn_app (goodIn_of _ (by decide +kernel)) ggX2_remove_X2_fails
set_option maxRecDepth 20000 in
theorem ggX2_remove_X2_begin : GoodIn wsX2_remove wsX2_begin := goodIn_r _ [22, 23, 38, 39, 40, 41, 42, 43, 44, 45, 46, 47, 48, 49, 50, 51, 52, 53] (by decide +kernel) (by decide +kernel)
set_option maxRecDepth 20000 in
theorem gX2_remove_X2_begin : GoodIn wsX2_remove (wsV RX2 99 RX2 yX2_begin wsX2_begin) := goodIn_app (goodIn_of _ (by decide +kernel)) ggX2_remove_X2_begin
set_option maxRecDepth 20000 in
theorem ggX2_remove_X2_find : GoodIn wsX2_remove wsX2_find := goodIn_r _ [27, 3, 28, 38, 39, 40, 41, 42, 43, 44, 45, 46, 47, 48, 49, 50, 51, 52, 53] (by decide +kernel) (by decide +kernel)
set_option maxRecDepth 20000 in
theorem gX2_remove_X2_find : GoodIn wsX2_remove (wsV RX2 92 RX2 yX2_find wsX2_find) := goodIn_app (goodIn_of _ (by decide +kernel)) ggX2_remove_X2_find
set_option maxRecDepth 20000 in
theorem ggX2_remove_X2_move : GoodIn wsX2_remove wsX2_move := goodIn_r _ [32, 28, 33, 34, 35, 36, 37, 38, 39, 40, 41, 42, 43, 44, 45, 46, 47, 48, 49, 50, 51, 52, 53] (by decide +kernel) (by decide +kernel)
set_option maxRecDepth 20000 in
theorem gX2_remove_X2_move : GoodIn wsX2_remove (wsV RX2 111 RX2 yX2_move wsX2_move) := goodIn_app (goodIn_of _ (by decide +kernel)) ggX2_remove_X2_move
theorem dX2_remove_0 : decode cX2_remove 0 = .ok (.aload_n 0, 1) := by decide +kernel
theorem dX2_remove_1 : decode cX2_remove 1 = .ok (.iload_n 1, 1) := by decide +kernel
theorem dX2_remove_2 : decode cX2_remove 2 = .ok (.invokestatic 65, 3) := by decide +kernel
theorem dX2_remove_5 : decode cX2_remove 5 = .ok (.ifCond .eq 10, 3) := by decide +kernel
theorem dX2_remove_8 : decode cX2_remove 8 = .ok (.iload_n 2, 1) := by decide +kernel
theorem dX2_remove_9 : decode cX2_remove 9 = .ok (.invokestatic 89, 3) := by decide +kernel
theorem dX2_remove_12 : decode cX2_remove 12 = .ok (.ifCond .ne 7, 3) := by decide +kernel
theorem dX2_remove_15 : decode cX2_remove 15 = .ok (.iconst 1, 1) := by decide +kernel
theorem dX2_remove_16 : decode cX2_remove 16 = .ok (.goto 4, 3) := by decide +kernel
theorem dX2_remove_19 : decode cX2_remove 19 = .ok (.iconst 0, 1) := by decide +kernel
theorem dX2_remove_20 : decode cX2_remove 20 = .ok (.iconst 1, 1) := by decide +kernel
theorem dX2_remove_21 : decode cX2_remove 21 = .ok (.invokevirtual 72, 3) := by decide +kernel
theorem dX2_remove_24 : decode cX2_remove 24 = .ok (.ifCond .eq 5, 3) := by decide +kernel
theorem dX2_remove_27 : decode cX2_remove 27 = .ok (.iconst 0, 1) := by decide +kernel
theorem dX2_remove_28 : decode cX2_remove 28 = .ok (.ireturn, 1) := by decide +kernel
theorem dX2_remove_29 : decode cX2_remove 29 = .ok (.aload_n 0, 1) := by decide +kernel
theorem dX2_remove_30 : decode cX2_remove 30 = .ok (.iload_n 1, 1) := by decide +kernel
theorem dX2_remove_31 : decode cX2_remove 31 = .ok (.invokevirtual 99, 3) := by decide +kernel
theorem dX2_remove_34 : decode cX2_remove 34 = .ok (.aload_n 0, 1) := by decide +kernel
theorem dX2_remove_35 : decode cX2_remove 35 = .ok (.getfield 13, 3) := by decide +kernel
theorem dX2_remove_38 : decode cX2_remove 38 = .ok (.iload_n 1, 1) := by decide +kernel
theorem dX2_remove_39 : decode cX2_remove 39 = .ok (.baload, 1) := by decide +kernel
theorem dX2_remove_40 : decode cX2_remove 40 = .ok (.ifCond .ne 5, 3) := by decide +kernel
theorem dX2_remove_43 : decode cX2_remove 43 = .ok (.iconst (-1), 1) := by decide +kernel
theorem dX2_remove_44 : decode cX2_remove 44 = .ok (.ireturn, 1) := by decide +kernel
theorem dX2_remove_45 : decode cX2_remove 45 = .ok (.aload_n 0, 1) := by decide +kernel
theorem dX2_remove_46 : decode cX2_remove 46 = .ok (.aload_n 0, 1) := by decide +kernel
theorem dX2_remove_47 : decode cX2_remove 47 = .ok (.getfield 7, 3) := by decide +kernel
theorem dX2_remove_50 : decode cX2_remove 50 = .ok (.iload_n 1, 1) := by decide +kernel
theorem dX2_remove_51 : decode cX2_remove 51 = .ok (.iaload, 1) := by decide +kernel
theorem dX2_remove_52 : decode cX2_remove 52 = .ok (.iload_n 2, 1) := by decide +kernel
theorem dX2_remove_53 : decode cX2_remove 53 = .ok (.invokevirtual 92, 3) := by decide +kernel
theorem dX2_remove_56 : decode cX2_remove 56 = .ok (.istore_n 3, 1) := by decide +kernel
theorem dX2_remove_57 : decode cX2_remove 57 = .ok (.iload_n 3, 1) := by decide +kernel
theorem dX2_remove_58 : decode cX2_remove 58 = .ok (.iconst (-1), 1) := by decide +kernel
theorem dX2_remove_59 : decode cX2_remove 59 = .ok (.if_icmp .ne 5, 3) := by decide +kernel
theorem dX2_remove_62 : decode cX2_remove 62 = .ok (.iconst 0, 1) := by decide +kernel
theorem dX2_remove_63 : decode cX2_remove 63 = .ok (.ireturn, 1) := by decide +kernel
theorem dX2_remove_64 : decode cX2_remove 64 = .ok (.aload_n 0, 1) := by decide +kernel
theorem dX2_remove_65 : decode cX2_remove 65 = .ok (.dup, 1) := by decide +kernel
theorem dX2_remove_66 : decode cX2_remove 66 = .ok (.getfield 58, 3) := by decide +kernel
theorem dX2_remove_69 : decode cX2_remove 69 = .ok (.iconst 1, 1) := by decide +kernel
theorem dX2_remove_70 : decode cX2_remove 70 = .ok (.isub, 1) := by decide +kernel
theorem dX2_remove_71 : decode cX2_remove 71 = .ok (.putfield 58, 3) := by decide +kernel
theorem dX2_remove_74 : decode cX2_remove 74 = .ok (.aload_n 0, 1) := by decide +kernel
theorem dX2_remove_75 : decode cX2_remove 75 = .ok (.iload_n 3, 1) := by decide +kernel
theorem dX2_remove_76 : decode cX2_remove 76 = .ok (.aload_n 0, 1) := by decide +kernel
theorem dX2_remove_77 : decode cX2_remove 77 = .ok (.getfield 58, 3) := by decide +kernel
theorem dX2_remove_80 : decode cX2_remove 80 = .ok (.invokevirtual 111, 3) := by decide +kernel
theorem dX2_remove_83 : decode cX2_remove 83 = .ok (.iconst 1, 1) := by decide +kernel
theorem dX2_remove_84 : decode cX2_remove 84 = .ok (.ireturn, 1) := by decide +kernel
set_option maxRecDepth 20000 in
theorem ggX2_look_X2_begin : GoodIn wsX2_look wsX2_begin := goodIn_r _ [7, 8, 12, 13, 14, 15, 16, 17, 18, 19, 20, 21, 22, 23, 24, 25, 26, 27] (by decide +kernel) (by decide +kernel)
set_option maxRecDepth 20000 in
theorem gX2_look_X2_begin : GoodIn wsX2_look (wsV RX2 99 RX2 yX2_begin wsX2_begin) := goodIn_app (goodIn_of _ (by decide +kernel)) ggX2_look_X2_begin
set_option maxRecDepth 20000 in
theorem ggX2_look_X2_may : GoodIn wsX2_look wsX2_may := goodIn_r _ [11] (by decide +kernel) (by decide +kernel)
set_option maxRecDepth 20000 in
theorem gX2_look_X2_may : GoodIn wsX2_look (va_wsS RX2 83 yX2_may wsX2_may) := goodIn_app (goodIn_of _ (by decide +kernel)) ggX2_look_X2_may
theorem dX2_look_0 : decode cX2_look 0 = .ok (.aload_n 0, 1) := by decide +kernel
theorem dX2_look_1 : decode cX2_look 1 = .ok (.iload_n 1, 1) := by decide +kernel
theorem dX2_look_2 : decode cX2_look 2 = .ok (.invokevirtual 99, 3) := by decide +kernel
theorem dX2_look_5 : decode cX2_look 5 = .ok (.aload_n 0, 1) := by decide +kernel
theorem dX2_look_6 : decode cX2_look 6 = .ok (.getfield 13, 3) := by decide +kernel
theorem dX2_look_9 : decode cX2_look 9 = .ok (.iload_n 1, 1) := by decide +kernel
theorem dX2_look_10 : decode cX2_look 10 = .ok (.baload, 1) := by decide +kernel
theorem dX2_look_11 : decode cX2_look 11 = .ok (.ifCond .ne 5, 3) := by decide +kernel
theorem dX2_look_14 : decode cX2_look 14 = .ok (.iconst (-1), 1) := by decide +kernel
theorem dX2_look_15 : decode cX2_look 15 = .ok (.ireturn, 1) := by decide +kernel
theorem dX2_look_16 : decode cX2_look 16 = .ok (.iload_n 2, 1) := by decide +kernel
theorem dX2_look_17 : decode cX2_look 17 = .ok (.aload_n 0, 1) := by decide +kernel
theorem dX2_look_18 : decode cX2_look 18 = .ok (.getfield 7, 3) := by decide +kernel
theorem dX2_look_21 : decode cX2_look 21 = .ok (.iload_n 1, 1) := by decide +kernel
theorem dX2_look_22 : decode cX2_look 22 = .ok (.iaload, 1) := by decide +kernel
theorem dX2_look_23 : decode cX2_look 23 = .ok (.invokestatic 83, 3) := by decide +kernel
theorem dX2_look_26 : decode cX2_look 26 = .ok (.ifCond .eq 7, 3) := by decide +kernel
theorem dX2_look_29 : decode cX2_look 29 = .ok (.iconst 0, 1) := by decide +kernel
theorem dX2_look_30 : decode cX2_look 30 = .ok (.goto 5, 3) := by decide +kernel
theorem dX2_look_33 : decode cX2_look 33 = .ok (.bipush (-2), 2) := by decide +kernel
theorem dX2_look_35 : decode cX2_look 35 = .ok (.ireturn, 1) := by decide +kernel
set_option maxRecDepth 20000 in
theorem ggX2_read_X2_isSubject : GoodIn wsX2_read wsX2_isSubject := goodIn_r _ [8, 9, 10, 7, 11] (by decide +kernel) (by decide +kernel)
set_option maxRecDepth 20000 in
theorem gX2_read_X2_isSubject : GoodIn wsX2_read (va_wsS RX2 65 yX2_isSubject wsX2_isSubject) := goodIn_app (goodIn_of _ (by decide +kernel)) ggX2_read_X2_isSubject
set_option maxRecDepth 20000 in
theorem ggX2_read_X2_isLabel : GoodIn wsX2_read wsX2_isLabel := goodIn_r _ [14, 9, 10, 7, 11] (by decide +kernel) (by decide +kernel)
set_option maxRecDepth 20000 in
theorem gX2_read_X2_isLabel : GoodIn wsX2_read (va_wsS RX2 69 yX2_isLabel wsX2_isLabel) := goodIn_app (goodIn_of _ (by decide +kernel)) ggX2_read_X2_isLabel
set_option maxRecDepth 20000 in
theorem ggX2_read_X2_isNumber : GoodIn wsX2_read wsX2_isNumber := goodIn_r _ [17, 9, 10, 7, 11] (by decide +kernel) (by decide +kernel)
set_option maxRecDepth 20000 in
theorem gX2_read_X2_isNumber : GoodIn wsX2_read (va_wsS RX2 89 yX2_isNumber wsX2_isNumber) := goodIn_app (goodIn_of _ (by decide +kernel)) ggX2_read_X2_isNumber
set_option maxRecDepth 20000 in
theorem ggX2_read_X2_within : GoodIn wsX2_read wsX2_within := goodIn_r _ [11] (by decide +kernel) (by decide +kernel)
set_option maxRecDepth 20000 in
theorem gX2_read_X2_within : GoodIn wsX2_read (va_wsS RX2 54 yX2_within wsX2_within) := goodIn_app (goodIn_of _ (by decide +kernel)) ggX2_read_X2_within
set_option maxRecDepth 20000 in
theorem ggX2_read_X2_fails : GoodIn wsX2_read wsX2_fails := goodIn_r _ [21, 22, 42, 43, 44, 45, 46, 47, 48, 49, 50, 51, 52, 53, 54, 55, 56, 57] (by decide +kernel) (by decide +kernel)
set_option maxRecDepth 20000 in
theorem gX2_read_X2_fails : GoodIn wsX2_read (wsV RX2 72 RX2 yX2_fails wsX2_fails) := goodIn_app (goodIn_of _ (by decide +kernel)) ggX2_read_X2_fails
set_option maxRecDepth 20000 in
theorem ggX2_read_X2_look : GoodIn wsX2_read wsX2_look := goodIn_r _ [26, 27, 28, 29, 30, 31, 7, 32, 4, 33, 34, 35, 42, 43, 44, 45, 46, 47, 48, 49, 50, 51, 52, 53, 54, 55, 56, 57] (by decide +kernel) (by decide +kernel)
set_option maxRecDepth 20000 in
theorem gX2_read_X2_look : GoodIn wsX2_read (wsV RX2 115 RX2 yX2_look wsX2_look) := goodIn_app (goodIn_of _ (by decide +kernel)) ggX2_read_X2_look
set_option maxRecDepth 20000 in
theorem ggX2_read_X2_find : GoodIn wsX2_read wsX2_find := goodIn_r _ [39, 40, 41, 42, 43, 44, 45, 46, 47, 48, 49, 50, 51, 52, 53, 54, 55, 56, 57] (by decide +kernel) (by decide +kernel)
set_option maxRecDepth 20000 in
theorem gX2_read_X2_find : GoodIn wsX2_read (wsV RX2 92 RX2 yX2_find wsX2_find) := goodIn_app (goodIn_of _ (by decide +kernel)) ggX2_read_X2_find
theorem dX2_read_0 : decode cX2_read 0 = .ok (.aload_n 0, 1) := by decide +kernel
theorem dX2_read_1 : decode cX2_read 1 = .ok (.iload_n 1, 1) := by decide +kernel
theorem dX2_read_2 : decode cX2_read 2 = .ok (.invokestatic 65, 3) := by decide +kernel
theorem dX2_read_5 : decode cX2_read 5 = .ok (.ifCond .eq 27, 3) := by decide +kernel
theorem dX2_read_8 : decode cX2_read 8 = .ok (.iload_n 2, 1) := by decide +kernel
theorem dX2_read_9 : decode cX2_read 9 = .ok (.invokestatic 69, 3) := by decide +kernel
theorem dX2_read_12 : decode cX2_read 12 = .ok (.ifCond .eq 20, 3) := by decide +kernel
theorem dX2_read_15 : decode cX2_read 15 = .ok (.iload_n 3, 1) := by decide +kernel
theorem dX2_read_16 : decode cX2_read 16 = .ok (.invokestatic 89, 3) := by decide +kernel
theorem dX2_read_19 : decode cX2_read 19 = .ok (.ifCond .eq 13, 3) := by decide +kernel
theorem dX2_read_22 : decode cX2_read 22 = .ok (.iload 4, 2) := by decide +kernel
theorem dX2_read_24 : decode cX2_read 24 = .ok (.bipush 24, 2) := by decide +kernel
theorem dX2_read_26 : decode cX2_read 26 = .ok (.invokestatic 54, 3) := by decide +kernel
theorem dX2_read_29 : decode cX2_read 29 = .ok (.ifCond .ne 7, 3) := by decide +kernel
theorem dX2_read_32 : decode cX2_read 32 = .ok (.iconst 1, 1) := by decide +kernel
theorem dX2_read_33 : decode cX2_read 33 = .ok (.goto 4, 3) := by decide +kernel
theorem dX2_read_36 : decode cX2_read 36 = .ok (.iconst 0, 1) := by decide +kernel
theorem dX2_read_37 : decode cX2_read 37 = .ok (.iconst 1, 1) := by decide +kernel
theorem dX2_read_38 : decode cX2_read 38 = .ok (.invokevirtual 72, 3) := by decide +kernel
theorem dX2_read_41 : decode cX2_read 41 = .ok (.ifCond .eq 5, 3) := by decide +kernel
theorem dX2_read_44 : decode cX2_read 44 = .ok (.iconst 0, 1) := by decide +kernel
theorem dX2_read_45 : decode cX2_read 45 = .ok (.ireturn, 1) := by decide +kernel
theorem dX2_read_46 : decode cX2_read 46 = .ok (.aload_n 0, 1) := by decide +kernel
theorem dX2_read_47 : decode cX2_read 47 = .ok (.iload_n 1, 1) := by decide +kernel
theorem dX2_read_48 : decode cX2_read 48 = .ok (.iload_n 2, 1) := by decide +kernel
theorem dX2_read_49 : decode cX2_read 49 = .ok (.invokevirtual 115, 3) := by decide +kernel
theorem dX2_read_52 : decode cX2_read 52 = .ok (.istore 5, 2) := by decide +kernel
theorem dX2_read_54 : decode cX2_read 54 = .ok (.iload 5, 2) := by decide +kernel
theorem dX2_read_56 : decode cX2_read 56 = .ok (.ifCond .ge 6, 3) := by decide +kernel
theorem dX2_read_59 : decode cX2_read 59 = .ok (.iload 5, 2) := by decide +kernel
theorem dX2_read_61 : decode cX2_read 61 = .ok (.ireturn, 1) := by decide +kernel
theorem dX2_read_62 : decode cX2_read 62 = .ok (.aload_n 0, 1) := by decide +kernel
theorem dX2_read_63 : decode cX2_read 63 = .ok (.iload_n 2, 1) := by decide +kernel
theorem dX2_read_64 : decode cX2_read 64 = .ok (.iload_n 3, 1) := by decide +kernel
theorem dX2_read_65 : decode cX2_read 65 = .ok (.invokevirtual 92, 3) := by decide +kernel
theorem dX2_read_68 : decode cX2_read 68 = .ok (.istore 6, 2) := by decide +kernel
theorem dX2_read_70 : decode cX2_read 70 = .ok (.iload 6, 2) := by decide +kernel
theorem dX2_read_72 : decode cX2_read 72 = .ok (.iconst (-1), 1) := by decide +kernel
theorem dX2_read_73 : decode cX2_read 73 = .ok (.if_icmp .eq 15, 3) := by decide +kernel
theorem dX2_read_76 : decode cX2_read 76 = .ok (.iload 4, 2) := by decide +kernel
theorem dX2_read_78 : decode cX2_read 78 = .ok (.aload_n 0, 1) := by decide +kernel
theorem dX2_read_79 : decode cX2_read 79 = .ok (.getfield 32, 3) := by decide +kernel
theorem dX2_read_82 : decode cX2_read 82 = .ok (.iload 6, 2) := by decide +kernel
theorem dX2_read_84 : decode cX2_read 84 = .ok (.iaload, 1) := by decide +kernel
theorem dX2_read_85 : decode cX2_read 85 = .ok (.if_icmp .lt 5, 3) := by decide +kernel
theorem dX2_read_88 : decode cX2_read 88 = .ok (.iconst 0, 1) := by decide +kernel
theorem dX2_read_89 : decode cX2_read 89 = .ok (.ireturn, 1) := by decide +kernel
theorem dX2_read_90 : decode cX2_read 90 = .ok (.aload_n 0, 1) := by decide +kernel
theorem dX2_read_91 : decode cX2_read 91 = .ok (.getfield 44, 3) := by decide +kernel
theorem dX2_read_94 : decode cX2_read 94 = .ok (.sipush 200, 3) := by decide +kernel
theorem dX2_read_97 : decode cX2_read 97 = .ok (.iload_n 1, 1) := by decide +kernel
theorem dX2_read_98 : decode cX2_read 98 = .ok (.imul, 1) := by decide +kernel
theorem dX2_read_99 : decode cX2_read 99 = .ok (.aload_n 0, 1) := by decide +kernel
theorem dX2_read_100 : decode cX2_read 100 = .ok (.getfield 35, 3) := by decide +kernel
theorem dX2_read_103 : decode cX2_read 103 = .ok (.bipush 24, 2) := by decide +kernel
theorem dX2_read_105 : decode cX2_read 105 = .ok (.iload 6, 2) := by decide +kernel
theorem dX2_read_107 : decode cX2_read 107 = .ok (.imul, 1) := by decide +kernel
theorem dX2_read_108 : decode cX2_read 108 = .ok (.iload 4, 2) := by decide +kernel
theorem dX2_read_110 : decode cX2_read 110 = .ok (.iadd, 1) := by decide +kernel
theorem dX2_read_111 : decode cX2_read 111 = .ok (.iaload, 1) := by decide +kernel
theorem dX2_read_112 : decode cX2_read 112 = .ok (.iastore, 1) := by decide +kernel
theorem dX2_read_113 : decode cX2_read 113 = .ok (.aload_n 0, 1) := by decide +kernel
theorem dX2_read_114 : decode cX2_read 114 = .ok (.getfield 47, 3) := by decide +kernel
theorem dX2_read_117 : decode cX2_read 117 = .ok (.iload_n 1, 1) := by decide +kernel
theorem dX2_read_118 : decode cX2_read 118 = .ok (.iconst 1, 1) := by decide +kernel
theorem dX2_read_119 : decode cX2_read 119 = .ok (.iastore, 1) := by decide +kernel
theorem dX2_read_120 : decode cX2_read 120 = .ok (.iconst 1, 1) := by decide +kernel
theorem dX2_read_121 : decode cX2_read 121 = .ok (.ireturn, 1) := by decide +kernel
set_option maxRecDepth 20000 in
theorem ggX2_size_X2_isSubject : GoodIn wsX2_size wsX2_isSubject := goodIn_r _ [5, 6, 7, 4, 8] (by decide +kernel) (by decide +kernel)
set_option maxRecDepth 20000 in
theorem gX2_size_X2_isSubject : GoodIn wsX2_size (va_wsS RX2 65 yX2_isSubject wsX2_isSubject) := goodIn_app (goodIn_of _ (by decide +kernel)) ggX2_size_X2_isSubject
set_option maxRecDepth 20000 in
theorem ggX2_size_X2_isLabel : GoodIn wsX2_size wsX2_isLabel := goodIn_r _ [11, 6, 7, 4, 8] (by decide +kernel) (by decide +kernel)
set_option maxRecDepth 20000 in
theorem gX2_size_X2_isLabel : GoodIn wsX2_size (va_wsS RX2 69 yX2_isLabel wsX2_isLabel) := goodIn_app (goodIn_of _ (by decide +kernel)) ggX2_size_X2_isLabel
set_option maxRecDepth 20000 in
theorem ggX2_size_X2_isNumber : GoodIn wsX2_size wsX2_isNumber := goodIn_r _ [14, 6, 7, 4, 8] (by decide +kernel) (by decide +kernel)
set_option maxRecDepth 20000 in
theorem gX2_size_X2_isNumber : GoodIn wsX2_size (va_wsS RX2 89 yX2_isNumber wsX2_isNumber) := goodIn_app (goodIn_of _ (by decide +kernel)) ggX2_size_X2_isNumber
set_option maxRecDepth 20000 in
theorem ggX2_size_X2_fails : GoodIn wsX2_size wsX2_fails := goodIn_r _ [18, 19, 40, 41, 42, 43, 44, 45, 46, 47, 48, 49, 50, 51, 52, 53, 54, 55] (by decide +kernel) (by decide +kernel)
set_option maxRecDepth 20000 in
theorem gX2_size_X2_fails : GoodIn wsX2_size (wsV RX2 72 RX2 yX2_fails wsX2_fails) := goodIn_app (goodIn_of _ (by decide +kernel)) ggX2_size_X2_fails
set_option maxRecDepth 20000 in
theorem ggX2_size_X2_look : GoodIn wsX2_size wsX2_look := goodIn_r _ [23, 24, 25, 26, 27, 28, 4, 29, 30, 31, 32, 33, 40, 41, 42, 43, 44, 45, 46, 47, 48, 49, 50, 51, 52, 53, 54, 55] (by decide +kernel) (by decide +kernel)
set_option maxRecDepth 20000 in
theorem gX2_size_X2_look : GoodIn wsX2_size (wsV RX2 115 RX2 yX2_look wsX2_look) := goodIn_app (goodIn_of _ (by decide +kernel)) ggX2_size_X2_look
set_option maxRecDepth 20000 in
theorem ggX2_size_X2_find : GoodIn wsX2_size wsX2_find := goodIn_r _ [37, 38, 39, 40, 41, 42, 43, 44, 45, 46, 47, 48, 49, 50, 51, 52, 53, 54, 55] (by decide +kernel) (by decide +kernel)
set_option maxRecDepth 20000 in
theorem gX2_size_X2_find : GoodIn wsX2_size (wsV RX2 92 RX2 yX2_find wsX2_find) := goodIn_app (goodIn_of _ (by decide +kernel)) ggX2_size_X2_find
theorem dX2_size_0 : decode cX2_size 0 = .ok (.aload_n 0, 1) := by decide +kernel
theorem dX2_size_1 : decode cX2_size 1 = .ok (.iload_n 1, 1) := by decide +kernel
theorem dX2_size_2 : decode cX2_size 2 = .ok (.invokestatic 65, 3) := by decide +kernel
theorem dX2_size_5 : decode cX2_size 5 = .ok (.ifCond .eq 17, 3) := by decide +kernel
theorem dX2_size_8 : decode cX2_size 8 = .ok (.iload_n 2, 1) := by decide +kernel
theorem dX2_size_9 : decode cX2_size 9 = .ok (.invokestatic 69, 3) := by decide +kernel
theorem dX2_size_12 : decode cX2_size 12 = .ok (.ifCond .eq 10, 3) := by decide +kernel
theorem dX2_size_15 : decode cX2_size 15 = .ok (.iload_n 3, 1) := by decide +kernel
theorem dX2_size_16 : decode cX2_size 16 = .ok (.invokestatic 89, 3) := by decide +kernel
theorem dX2_size_19 : decode cX2_size 19 = .ok (.ifCond .ne 7, 3) := by decide +kernel
theorem dX2_size_22 : decode cX2_size 22 = .ok (.iconst 1, 1) := by decide +kernel
theorem dX2_size_23 : decode cX2_size 23 = .ok (.goto 4, 3) := by decide +kernel
theorem dX2_size_26 : decode cX2_size 26 = .ok (.iconst 0, 1) := by decide +kernel
theorem dX2_size_27 : decode cX2_size 27 = .ok (.iconst 1, 1) := by decide +kernel
theorem dX2_size_28 : decode cX2_size 28 = .ok (.invokevirtual 72, 3) := by decide +kernel
theorem dX2_size_31 : decode cX2_size 31 = .ok (.ifCond .eq 5, 3) := by decide +kernel
theorem dX2_size_34 : decode cX2_size 34 = .ok (.iconst 0, 1) := by decide +kernel
theorem dX2_size_35 : decode cX2_size 35 = .ok (.ireturn, 1) := by decide +kernel
theorem dX2_size_36 : decode cX2_size 36 = .ok (.aload_n 0, 1) := by decide +kernel
theorem dX2_size_37 : decode cX2_size 37 = .ok (.iload_n 1, 1) := by decide +kernel
theorem dX2_size_38 : decode cX2_size 38 = .ok (.iload_n 2, 1) := by decide +kernel
theorem dX2_size_39 : decode cX2_size 39 = .ok (.invokevirtual 115, 3) := by decide +kernel
theorem dX2_size_42 : decode cX2_size 42 = .ok (.istore 4, 2) := by decide +kernel
theorem dX2_size_44 : decode cX2_size 44 = .ok (.iload 4, 2) := by decide +kernel
theorem dX2_size_46 : decode cX2_size 46 = .ok (.ifCond .ge 6, 3) := by decide +kernel
theorem dX2_size_49 : decode cX2_size 49 = .ok (.iload 4, 2) := by decide +kernel
theorem dX2_size_51 : decode cX2_size 51 = .ok (.ireturn, 1) := by decide +kernel
theorem dX2_size_52 : decode cX2_size 52 = .ok (.aload_n 0, 1) := by decide +kernel
theorem dX2_size_53 : decode cX2_size 53 = .ok (.iload_n 2, 1) := by decide +kernel
theorem dX2_size_54 : decode cX2_size 54 = .ok (.iload_n 3, 1) := by decide +kernel
theorem dX2_size_55 : decode cX2_size 55 = .ok (.invokevirtual 92, 3) := by decide +kernel
theorem dX2_size_58 : decode cX2_size 58 = .ok (.istore 5, 2) := by decide +kernel
theorem dX2_size_60 : decode cX2_size 60 = .ok (.iload 5, 2) := by decide +kernel
theorem dX2_size_62 : decode cX2_size 62 = .ok (.iconst (-1), 1) := by decide +kernel
theorem dX2_size_63 : decode cX2_size 63 = .ok (.if_icmp .ne 7, 3) := by decide +kernel
theorem dX2_size_66 : decode cX2_size 66 = .ok (.iconst 0, 1) := by decide +kernel
theorem dX2_size_67 : decode cX2_size 67 = .ok (.goto 10, 3) := by decide +kernel
theorem dX2_size_70 : decode cX2_size 70 = .ok (.aload_n 0, 1) := by decide +kernel
theorem dX2_size_71 : decode cX2_size 71 = .ok (.getfield 32, 3) := by decide +kernel
theorem dX2_size_74 : decode cX2_size 74 = .ok (.iload 5, 2) := by decide +kernel
theorem dX2_size_76 : decode cX2_size 76 = .ok (.iaload, 1) := by decide +kernel
theorem dX2_size_77 : decode cX2_size 77 = .ok (.ireturn, 1) := by decide +kernel
set_option maxRecDepth 20000 in
theorem ggX2_there_X2_isSubject : GoodIn wsX2_there wsX2_isSubject := goodIn_r _ [4, 5, 6, 3, 7] (by decide +kernel) (by decide +kernel)
set_option maxRecDepth 20000 in
theorem gX2_there_X2_isSubject : GoodIn wsX2_there (va_wsS RX2 65 yX2_isSubject wsX2_isSubject) := goodIn_app (goodIn_of _ (by decide +kernel)) ggX2_there_X2_isSubject
set_option maxRecDepth 20000 in
theorem ggX2_there_X2_isLabel : GoodIn wsX2_there wsX2_isLabel := goodIn_r _ [10, 5, 6, 3, 7] (by decide +kernel) (by decide +kernel)
set_option maxRecDepth 20000 in
theorem gX2_there_X2_isLabel : GoodIn wsX2_there (va_wsS RX2 69 yX2_isLabel wsX2_isLabel) := goodIn_app (goodIn_of _ (by decide +kernel)) ggX2_there_X2_isLabel
set_option maxRecDepth 20000 in
theorem ggX2_there_X2_isNumber : GoodIn wsX2_there wsX2_isNumber := goodIn_r _ [13, 5, 6, 3, 7] (by decide +kernel) (by decide +kernel)
set_option maxRecDepth 20000 in
theorem gX2_there_X2_isNumber : GoodIn wsX2_there (va_wsS RX2 89 yX2_isNumber wsX2_isNumber) := goodIn_app (goodIn_of _ (by decide +kernel)) ggX2_there_X2_isNumber
set_option maxRecDepth 20000 in
theorem ggX2_there_X2_fails : GoodIn wsX2_there wsX2_fails := goodIn_r _ [17, 18, 39, 40, 41, 42, 43, 44, 45, 46, 47, 48, 49, 50, 51, 52, 53, 54] (by decide +kernel) (by decide +kernel)
set_option maxRecDepth 20000 in
theorem gX2_there_X2_fails : GoodIn wsX2_there (wsV RX2 72 RX2 yX2_fails wsX2_fails) := goodIn_app (goodIn_of _ (by decide +kernel)) ggX2_there_X2_fails
set_option maxRecDepth 20000 in
theorem ggX2_there_X2_look : GoodIn wsX2_there wsX2_look := goodIn_r _ [22, 23, 24, 25, 26, 27, 3, 28, 29, 30, 31, 32, 39, 40, 41, 42, 43, 44, 45, 46, 47, 48, 49, 50, 51, 52, 53, 54] (by decide +kernel) (by decide +kernel)
set_option maxRecDepth 20000 in
theorem gX2_there_X2_look : GoodIn wsX2_there (wsV RX2 115 RX2 yX2_look wsX2_look) := goodIn_app (goodIn_of _ (by decide +kernel)) ggX2_there_X2_look
set_option maxRecDepth 20000 in
theorem ggX2_there_X2_find : GoodIn wsX2_there wsX2_find := goodIn_r _ [36, 37, 38, 39, 40, 41, 42, 43, 44, 45, 46, 47, 48, 49, 50, 51, 52, 53, 54] (by decide +kernel) (by decide +kernel)
set_option maxRecDepth 20000 in
theorem gX2_there_X2_find : GoodIn wsX2_there (wsV RX2 92 RX2 yX2_find wsX2_find) := goodIn_app (goodIn_of _ (by decide +kernel)) ggX2_there_X2_find
theorem dX2_there_0 : decode cX2_there 0 = .ok (.aload_n 0, 1) := by decide +kernel
theorem dX2_there_1 : decode cX2_there 1 = .ok (.iload_n 1, 1) := by decide +kernel
theorem dX2_there_2 : decode cX2_there 2 = .ok (.invokestatic 65, 3) := by decide +kernel
theorem dX2_there_5 : decode cX2_there 5 = .ok (.ifCond .eq 17, 3) := by decide +kernel
theorem dX2_there_8 : decode cX2_there 8 = .ok (.iload_n 2, 1) := by decide +kernel
theorem dX2_there_9 : decode cX2_there 9 = .ok (.invokestatic 69, 3) := by decide +kernel
theorem dX2_there_12 : decode cX2_there 12 = .ok (.ifCond .eq 10, 3) := by decide +kernel
theorem dX2_there_15 : decode cX2_there 15 = .ok (.iload_n 3, 1) := by decide +kernel
theorem dX2_there_16 : decode cX2_there 16 = .ok (.invokestatic 89, 3) := by decide +kernel
theorem dX2_there_19 : decode cX2_there 19 = .ok (.ifCond .ne 7, 3) := by decide +kernel
theorem dX2_there_22 : decode cX2_there 22 = .ok (.iconst 1, 1) := by decide +kernel
theorem dX2_there_23 : decode cX2_there 23 = .ok (.goto 4, 3) := by decide +kernel
theorem dX2_there_26 : decode cX2_there 26 = .ok (.iconst 0, 1) := by decide +kernel
theorem dX2_there_27 : decode cX2_there 27 = .ok (.iconst 1, 1) := by decide +kernel
theorem dX2_there_28 : decode cX2_there 28 = .ok (.invokevirtual 72, 3) := by decide +kernel
theorem dX2_there_31 : decode cX2_there 31 = .ok (.ifCond .eq 5, 3) := by decide +kernel
theorem dX2_there_34 : decode cX2_there 34 = .ok (.iconst 0, 1) := by decide +kernel
theorem dX2_there_35 : decode cX2_there 35 = .ok (.ireturn, 1) := by decide +kernel
theorem dX2_there_36 : decode cX2_there 36 = .ok (.aload_n 0, 1) := by decide +kernel
theorem dX2_there_37 : decode cX2_there 37 = .ok (.iload_n 1, 1) := by decide +kernel
theorem dX2_there_38 : decode cX2_there 38 = .ok (.iload_n 2, 1) := by decide +kernel
theorem dX2_there_39 : decode cX2_there 39 = .ok (.invokevirtual 115, 3) := by decide +kernel
theorem dX2_there_42 : decode cX2_there 42 = .ok (.istore 4, 2) := by decide +kernel
theorem dX2_there_44 : decode cX2_there 44 = .ok (.iload 4, 2) := by decide +kernel
theorem dX2_there_46 : decode cX2_there 46 = .ok (.ifCond .ge 6, 3) := by decide +kernel
theorem dX2_there_49 : decode cX2_there 49 = .ok (.iload 4, 2) := by decide +kernel
theorem dX2_there_51 : decode cX2_there 51 = .ok (.ireturn, 1) := by decide +kernel
theorem dX2_there_52 : decode cX2_there 52 = .ok (.aload_n 0, 1) := by decide +kernel
theorem dX2_there_53 : decode cX2_there 53 = .ok (.iload_n 2, 1) := by decide +kernel
theorem dX2_there_54 : decode cX2_there 54 = .ok (.iload_n 3, 1) := by decide +kernel
theorem dX2_there_55 : decode cX2_there 55 = .ok (.invokevirtual 92, 3) := by decide +kernel
theorem dX2_there_58 : decode cX2_there 58 = .ok (.iconst (-1), 1) := by decide +kernel
theorem dX2_there_59 : decode cX2_there 59 = .ok (.if_icmp .ne 7, 3) := by decide +kernel
theorem dX2_there_62 : decode cX2_there 62 = .ok (.iconst 0, 1) := by decide +kernel
theorem dX2_there_63 : decode cX2_there 63 = .ok (.goto 4, 3) := by decide +kernel
theorem dX2_there_66 : decode cX2_there 66 = .ok (.iconst 1, 1) := by decide +kernel
theorem dX2_there_67 : decode cX2_there 67 = .ok (.ireturn, 1) := by decide +kernel
set_option maxRecDepth 20000 in
theorem ggX2_listed_X2_isSubject : GoodIn wsX2_listed wsX2_isSubject := goodIn_r _ [10, 11, 12, 9, 13] (by decide +kernel) (by decide +kernel)
set_option maxRecDepth 20000 in
theorem gX2_listed_X2_isSubject : GoodIn wsX2_listed (va_wsS RX2 65 yX2_isSubject wsX2_isSubject) := goodIn_app (goodIn_of _ (by decide +kernel)) ggX2_listed_X2_isSubject
set_option maxRecDepth 20000 in
theorem ggX2_listed_X2_isLabel : GoodIn wsX2_listed wsX2_isLabel := goodIn_r _ [16, 11, 12, 9, 13] (by decide +kernel) (by decide +kernel)
set_option maxRecDepth 20000 in
theorem gX2_listed_X2_isLabel : GoodIn wsX2_listed (va_wsS RX2 69 yX2_isLabel wsX2_isLabel) := goodIn_app (goodIn_of _ (by decide +kernel)) ggX2_listed_X2_isLabel
set_option maxRecDepth 20000 in
theorem ggX2_listed_X2_isNumber : GoodIn wsX2_listed wsX2_isNumber := goodIn_r _ [19, 11, 12, 9, 13] (by decide +kernel) (by decide +kernel)
set_option maxRecDepth 20000 in
theorem gX2_listed_X2_isNumber : GoodIn wsX2_listed (va_wsS RX2 89 yX2_isNumber wsX2_isNumber) := goodIn_app (goodIn_of _ (by decide +kernel)) ggX2_listed_X2_isNumber
set_option maxRecDepth 20000 in
theorem ggX2_listed_X2_fails : GoodIn wsX2_listed wsX2_fails := goodIn_r _ [23, 24, 37, 38, 39, 40, 41, 42, 43, 44, 45, 46, 47, 48, 49, 50, 51, 52] (by decide +kernel) (by decide +kernel)
set_option maxRecDepth 20000 in
theorem gX2_listed_X2_fails : GoodIn wsX2_listed (wsV RX2 72 RX2 yX2_fails wsX2_fails) := goodIn_app (goodIn_of _ (by decide +kernel)) ggX2_listed_X2_fails
set_option maxRecDepth 20000 in
theorem ggX2_listed_X2_look : GoodIn wsX2_listed wsX2_look := goodIn_r _ [28, 29, 4, 30, 31, 32, 9, 33, 6, 34, 35, 36, 37, 38, 39, 40, 41, 42, 43, 44, 45, 46, 47, 48, 49, 50, 51, 52] (by decide +kernel) (by decide +kernel)
set_option maxRecDepth 20000 in
theorem gX2_listed_X2_look : GoodIn wsX2_listed (wsV RX2 115 RX2 yX2_look wsX2_look) := goodIn_app (goodIn_of _ (by decide +kernel)) ggX2_listed_X2_look
set_option maxRecDepth 20000 in
theorem ggX2_listed_X2_may : GoodIn wsX2_listed wsX2_may := goodIn_r _ [36] (by decide +kernel) (by decide +kernel)
set_option maxRecDepth 20000 in
theorem gX2_listed_X2_may : GoodIn wsX2_listed (va_wsS RX2 83 yX2_may wsX2_may) := goodIn_app (goodIn_of _ (by decide +kernel)) ggX2_listed_X2_may
theorem dX2_listed_0 : decode cX2_listed 0 = .ok (.aload_n 0, 1) := by decide +kernel
theorem dX2_listed_1 : decode cX2_listed 1 = .ok (.iload_n 1, 1) := by decide +kernel
theorem dX2_listed_2 : decode cX2_listed 2 = .ok (.invokestatic 65, 3) := by decide +kernel
theorem dX2_listed_5 : decode cX2_listed 5 = .ok (.ifCond .eq 17, 3) := by decide +kernel
theorem dX2_listed_8 : decode cX2_listed 8 = .ok (.iload_n 2, 1) := by decide +kernel
theorem dX2_listed_9 : decode cX2_listed 9 = .ok (.invokestatic 69, 3) := by decide +kernel
theorem dX2_listed_12 : decode cX2_listed 12 = .ok (.ifCond .eq 10, 3) := by decide +kernel
theorem dX2_listed_15 : decode cX2_listed 15 = .ok (.iload_n 3, 1) := by decide +kernel
theorem dX2_listed_16 : decode cX2_listed 16 = .ok (.invokestatic 89, 3) := by decide +kernel
theorem dX2_listed_19 : decode cX2_listed 19 = .ok (.ifCond .ne 7, 3) := by decide +kernel
theorem dX2_listed_22 : decode cX2_listed 22 = .ok (.iconst 1, 1) := by decide +kernel
theorem dX2_listed_23 : decode cX2_listed 23 = .ok (.goto 4, 3) := by decide +kernel
theorem dX2_listed_26 : decode cX2_listed 26 = .ok (.iconst 0, 1) := by decide +kernel
theorem dX2_listed_27 : decode cX2_listed 27 = .ok (.iconst 1, 1) := by decide +kernel
theorem dX2_listed_28 : decode cX2_listed 28 = .ok (.invokevirtual 72, 3) := by decide +kernel
theorem dX2_listed_31 : decode cX2_listed 31 = .ok (.ifCond .eq 5, 3) := by decide +kernel
theorem dX2_listed_34 : decode cX2_listed 34 = .ok (.iconst 0, 1) := by decide +kernel
theorem dX2_listed_35 : decode cX2_listed 35 = .ok (.ireturn, 1) := by decide +kernel
theorem dX2_listed_36 : decode cX2_listed 36 = .ok (.aload_n 0, 1) := by decide +kernel
theorem dX2_listed_37 : decode cX2_listed 37 = .ok (.iload_n 1, 1) := by decide +kernel
theorem dX2_listed_38 : decode cX2_listed 38 = .ok (.iload_n 2, 1) := by decide +kernel
theorem dX2_listed_39 : decode cX2_listed 39 = .ok (.invokevirtual 115, 3) := by decide +kernel
theorem dX2_listed_42 : decode cX2_listed 42 = .ok (.istore 4, 2) := by decide +kernel
theorem dX2_listed_44 : decode cX2_listed 44 = .ok (.iload 4, 2) := by decide +kernel
theorem dX2_listed_46 : decode cX2_listed 46 = .ok (.ifCond .ge 6, 3) := by decide +kernel
theorem dX2_listed_49 : decode cX2_listed 49 = .ok (.iload 4, 2) := by decide +kernel
theorem dX2_listed_51 : decode cX2_listed 51 = .ok (.ireturn, 1) := by decide +kernel
theorem dX2_listed_52 : decode cX2_listed 52 = .ok (.iconst 0, 1) := by decide +kernel
theorem dX2_listed_53 : decode cX2_listed 53 = .ok (.istore 5, 2) := by decide +kernel
theorem dX2_listed_55 : decode cX2_listed 55 = .ok (.iconst 0, 1) := by decide +kernel
theorem dX2_listed_56 : decode cX2_listed 56 = .ok (.istore 6, 2) := by decide +kernel
theorem dX2_listed_58 : decode cX2_listed 58 = .ok (.iload 6, 2) := by decide +kernel
theorem dX2_listed_60 : decode cX2_listed 60 = .ok (.aload_n 0, 1) := by decide +kernel
theorem dX2_listed_61 : decode cX2_listed 61 = .ok (.getfield 58, 3) := by decide +kernel
theorem dX2_listed_64 : decode cX2_listed 64 = .ok (.if_icmp .ge 141, 3) := by decide +kernel
theorem dX2_listed_67 : decode cX2_listed 67 = .ok (.aload_n 0, 1) := by decide +kernel
theorem dX2_listed_68 : decode cX2_listed 68 = .ok (.getfield 29, 3) := by decide +kernel
theorem dX2_listed_71 : decode cX2_listed 71 = .ok (.iload 6, 2) := by decide +kernel
theorem dX2_listed_73 : decode cX2_listed 73 = .ok (.iaload, 1) := by decide +kernel
theorem dX2_listed_74 : decode cX2_listed 74 = .ok (.bipush 16, 2) := by decide +kernel
theorem dX2_listed_76 : decode cX2_listed 76 = .ok (.iload_n 2, 1) := by decide +kernel
theorem dX2_listed_77 : decode cX2_listed 77 = .ok (.imul, 1) := by decide +kernel
theorem dX2_listed_78 : decode cX2_listed 78 = .ok (.iload_n 3, 1) := by decide +kernel
theorem dX2_listed_79 : decode cX2_listed 79 = .ok (.iadd, 1) := by decide +kernel
theorem dX2_listed_80 : decode cX2_listed 80 = .ok (.if_icmp .ne 119, 3) := by decide +kernel
theorem dX2_listed_83 : decode cX2_listed 83 = .ok (.aload_n 0, 1) := by decide +kernel
theorem dX2_listed_84 : decode cX2_listed 84 = .ok (.getfield 23, 3) := by decide +kernel
theorem dX2_listed_87 : decode cX2_listed 87 = .ok (.iload 6, 2) := by decide +kernel
theorem dX2_listed_89 : decode cX2_listed 89 = .ok (.iaload, 1) := by decide +kernel
theorem dX2_listed_90 : decode cX2_listed 90 = .ok (.bipush 16, 2) := by decide +kernel
theorem dX2_listed_92 : decode cX2_listed 92 = .ok (.idiv, 1) := by decide +kernel
theorem dX2_listed_93 : decode cX2_listed 93 = .ok (.aload_n 0, 1) := by decide +kernel
theorem dX2_listed_94 : decode cX2_listed 94 = .ok (.getfield 7, 3) := by decide +kernel
theorem dX2_listed_97 : decode cX2_listed 97 = .ok (.iload_n 1, 1) := by decide +kernel
theorem dX2_listed_98 : decode cX2_listed 98 = .ok (.iaload, 1) := by decide +kernel
theorem dX2_listed_99 : decode cX2_listed 99 = .ok (.invokestatic 83, 3) := by decide +kernel
theorem dX2_listed_102 : decode cX2_listed 102 = .ok (.ifCond .ne 6, 3) := by decide +kernel
theorem dX2_listed_105 : decode cX2_listed 105 = .ok (.goto 94, 3) := by decide +kernel
theorem dX2_listed_108 : decode cX2_listed 108 = .ok (.iload 5, 2) := by decide +kernel
theorem dX2_listed_110 : decode cX2_listed 110 = .ok (.istore 7, 2) := by decide +kernel
theorem dX2_listed_112 : decode cX2_listed 112 = .ok (.iload 7, 2) := by decide +kernel
theorem dX2_listed_114 : decode cX2_listed 114 = .ok (.ifCond .le 62, 3) := by decide +kernel
theorem dX2_listed_117 : decode cX2_listed 117 = .ok (.aload_n 0, 1) := by decide +kernel
theorem dX2_listed_118 : decode cX2_listed 118 = .ok (.getfield 44, 3) := by decide +kernel
theorem dX2_listed_121 : decode cX2_listed 121 = .ok (.sipush 200, 3) := by decide +kernel
theorem dX2_listed_124 : decode cX2_listed 124 = .ok (.iload_n 1, 1) := by decide +kernel
theorem dX2_listed_125 : decode cX2_listed 125 = .ok (.imul, 1) := by decide +kernel
theorem dX2_listed_126 : decode cX2_listed 126 = .ok (.iload 7, 2) := by decide +kernel
theorem dX2_listed_128 : decode cX2_listed 128 = .ok (.iadd, 1) := by decide +kernel
theorem dX2_listed_129 : decode cX2_listed 129 = .ok (.iconst 1, 1) := by decide +kernel
theorem dX2_listed_130 : decode cX2_listed 130 = .ok (.isub, 1) := by decide +kernel
theorem dX2_listed_131 : decode cX2_listed 131 = .ok (.iaload, 1) := by decide +kernel
theorem dX2_listed_132 : decode cX2_listed 132 = .ok (.aload_n 0, 1) := by decide +kernel
theorem dX2_listed_133 : decode cX2_listed 133 = .ok (.getfield 23, 3) := by decide +kernel
theorem dX2_listed_136 : decode cX2_listed 136 = .ok (.iload 6, 2) := by decide +kernel
theorem dX2_listed_138 : decode cX2_listed 138 = .ok (.iaload, 1) := by decide +kernel
theorem dX2_listed_139 : decode cX2_listed 139 = .ok (.if_icmp .le 37, 3) := by decide +kernel
theorem dX2_listed_142 : decode cX2_listed 142 = .ok (.aload_n 0, 1) := by decide +kernel
theorem dX2_listed_143 : decode cX2_listed 143 = .ok (.getfield 44, 3) := by decide +kernel
theorem dX2_listed_146 : decode cX2_listed 146 = .ok (.sipush 200, 3) := by decide +kernel
theorem dX2_listed_149 : decode cX2_listed 149 = .ok (.iload_n 1, 1) := by decide +kernel
theorem dX2_listed_150 : decode cX2_listed 150 = .ok (.imul, 1) := by decide +kernel
theorem dX2_listed_151 : decode cX2_listed 151 = .ok (.iload 7, 2) := by decide +kernel
theorem dX2_listed_153 : decode cX2_listed 153 = .ok (.iadd, 1) := by decide +kernel
theorem dX2_listed_154 : decode cX2_listed 154 = .ok (.aload_n 0, 1) := by decide +kernel
theorem dX2_listed_155 : decode cX2_listed 155 = .ok (.getfield 44, 3) := by decide +kernel
theorem dX2_listed_158 : decode cX2_listed 158 = .ok (.sipush 200, 3) := by decide +kernel
theorem dX2_listed_161 : decode cX2_listed 161 = .ok (.iload_n 1, 1) := by decide +kernel
theorem dX2_listed_162 : decode cX2_listed 162 = .ok (.imul, 1) := by decide +kernel
theorem dX2_listed_163 : decode cX2_listed 163 = .ok (.iload 7, 2) := by decide +kernel
theorem dX2_listed_165 : decode cX2_listed 165 = .ok (.iadd, 1) := by decide +kernel
theorem dX2_listed_166 : decode cX2_listed 166 = .ok (.iconst 1, 1) := by decide +kernel
theorem dX2_listed_167 : decode cX2_listed 167 = .ok (.isub, 1) := by decide +kernel
theorem dX2_listed_168 : decode cX2_listed 168 = .ok (.iaload, 1) := by decide +kernel
theorem dX2_listed_169 : decode cX2_listed 169 = .ok (.iastore, 1) := by decide +kernel
theorem dX2_listed_170 : decode cX2_listed 170 = .ok (.iinc 7 (-1), 3) := by decide +kernel
theorem dX2_listed_173 : decode cX2_listed 173 = .ok (.goto (-61), 3) := by decide +kernel
theorem dX2_listed_176 : decode cX2_listed 176 = .ok (.aload_n 0, 1) := by decide +kernel
theorem dX2_listed_177 : decode cX2_listed 177 = .ok (.getfield 44, 3) := by decide +kernel
theorem dX2_listed_180 : decode cX2_listed 180 = .ok (.sipush 200, 3) := by decide +kernel
theorem dX2_listed_183 : decode cX2_listed 183 = .ok (.iload_n 1, 1) := by decide +kernel
theorem dX2_listed_184 : decode cX2_listed 184 = .ok (.imul, 1) := by decide +kernel
theorem dX2_listed_185 : decode cX2_listed 185 = .ok (.iload 7, 2) := by decide +kernel
theorem dX2_listed_187 : decode cX2_listed 187 = .ok (.iadd, 1) := by decide +kernel
theorem dX2_listed_188 : decode cX2_listed 188 = .ok (.aload_n 0, 1) := by decide +kernel
theorem dX2_listed_189 : decode cX2_listed 189 = .ok (.getfield 23, 3) := by decide +kernel
theorem dX2_listed_192 : decode cX2_listed 192 = .ok (.iload 6, 2) := by decide +kernel
theorem dX2_listed_194 : decode cX2_listed 194 = .ok (.iaload, 1) := by decide +kernel
theorem dX2_listed_195 : decode cX2_listed 195 = .ok (.iastore, 1) := by decide +kernel
theorem dX2_listed_196 : decode cX2_listed 196 = .ok (.iinc 5 1, 3) := by decide +kernel
theorem dX2_listed_199 : decode cX2_listed 199 = .ok (.iinc 6 1, 3) := by decide +kernel
theorem dX2_listed_202 : decode cX2_listed 202 = .ok (.goto (-144), 3) := by decide +kernel
theorem dX2_listed_205 : decode cX2_listed 205 = .ok (.aload_n 0, 1) := by decide +kernel
theorem dX2_listed_206 : decode cX2_listed 206 = .ok (.getfield 47, 3) := by decide +kernel
theorem dX2_listed_209 : decode cX2_listed 209 = .ok (.iload_n 1, 1) := by decide +kernel
theorem dX2_listed_210 : decode cX2_listed 210 = .ok (.iload 5, 2) := by decide +kernel
theorem dX2_listed_212 : decode cX2_listed 212 = .ok (.iastore, 1) := by decide +kernel
theorem dX2_listed_213 : decode cX2_listed 213 = .ok (.iload 5, 2) := by decide +kernel
theorem dX2_listed_215 : decode cX2_listed 215 = .ok (.ireturn, 1) := by decide +kernel
set_option maxRecDepth 20000 in
theorem ggX2_release_X2_isSubject : GoodIn wsX2_release wsX2_isSubject := goodIn_r _ [10, 11, 12, 9, 13] (by decide +kernel) (by decide +kernel)
set_option maxRecDepth 20000 in
theorem gX2_release_X2_isSubject : GoodIn wsX2_release (va_wsS RX2 65 yX2_isSubject wsX2_isSubject) := goodIn_app (goodIn_of _ (by decide +kernel)) ggX2_release_X2_isSubject
set_option maxRecDepth 20000 in
theorem ggX2_release_X2_isLabel : GoodIn wsX2_release wsX2_isLabel := goodIn_r _ [16, 11, 12, 9, 13] (by decide +kernel) (by decide +kernel)
set_option maxRecDepth 20000 in
theorem gX2_release_X2_isLabel : GoodIn wsX2_release (va_wsS RX2 69 yX2_isLabel wsX2_isLabel) := goodIn_app (goodIn_of _ (by decide +kernel)) ggX2_release_X2_isLabel
set_option maxRecDepth 20000 in
theorem ggX2_release_X2_isNumber : GoodIn wsX2_release wsX2_isNumber := goodIn_r _ [19, 11, 12, 9, 13] (by decide +kernel) (by decide +kernel)
set_option maxRecDepth 20000 in
theorem gX2_release_X2_isNumber : GoodIn wsX2_release (va_wsS RX2 89 yX2_isNumber wsX2_isNumber) := goodIn_app (goodIn_of _ (by decide +kernel)) ggX2_release_X2_isNumber
set_option maxRecDepth 20000 in
theorem ggX2_release_X2_fails : GoodIn wsX2_release wsX2_fails := goodIn_r _ [23, 24, 60, 61, 62, 63, 64, 65, 66, 67, 68, 69, 70, 71, 72, 73, 74, 75] (by decide +kernel) (by decide +kernel)
set_option maxRecDepth 20000 in
theorem gX2_release_X2_fails : GoodIn wsX2_release (wsV RX2 72 RX2 yX2_fails wsX2_fails) := goodIn_app (goodIn_of _ (by decide +kernel)) ggX2_release_X2_fails
set_option maxRecDepth 20000 in
theorem ggX2_release_X2_listOf : GoodIn wsX2_release wsX2_listOf := goodIn_r _ [28, 29, 30, 60, 61, 62, 63, 64, 65, 66, 67, 68, 69, 70, 71, 72, 73, 74, 75] (by decide +kernel) (by decide +kernel)
set_option maxRecDepth 20000 in
theorem gX2_release_X2_listOf : GoodIn wsX2_release (wsV RX2 79 RX2 yX2_listOf wsX2_listOf) := goodIn_app (goodIn_of _ (by decide +kernel)) ggX2_release_X2_listOf
set_option maxRecDepth 20000 in
theorem ggX2_release_X2_find : GoodIn wsX2_release wsX2_find := goodIn_r _ [34, 4, 35, 60, 61, 62, 63, 64, 65, 66, 67, 68, 69, 70, 71, 72, 73, 74, 75] (by decide +kernel) (by decide +kernel)
set_option maxRecDepth 20000 in
theorem gX2_release_X2_find : GoodIn wsX2_release (wsV RX2 92 RX2 yX2_find wsX2_find) := goodIn_app (goodIn_of _ (by decide +kernel)) ggX2_release_X2_find
set_option maxRecDepth 20000 in
theorem ggX2_release_X2_uses : GoodIn wsX2_release wsX2_uses := goodIn_r _ [39, 40, 4, 35, 41, 42, 43, 9, 44, 5, 2, 45, 60, 61, 62, 63, 64, 65, 66, 67, 68, 69, 70, 71, 72, 73, 74, 75] (by decide +kernel) (by decide +kernel)
set_option maxRecDepth 20000 in
theorem gX2_release_X2_uses : GoodIn wsX2_release (wsV RX2 86 RX2 yX2_uses wsX2_uses) := goodIn_app (goodIn_of _ (by decide +kernel)) ggX2_release_X2_uses
set_option maxRecDepth 20000 in
theorem ggX2_release_X2_countOf : GoodIn wsX2_release wsX2_countOf := goodIn_r _ [44, 5, 2, 45, 60, 61, 62, 63, 64, 65, 66, 67, 68, 69, 70, 71, 72, 73, 74, 75] (by decide +kernel) (by decide +kernel)
set_option maxRecDepth 20000 in
theorem gX2_release_X2_countOf : GoodIn wsX2_release (wsV RX2 61 RX2 yX2_countOf wsX2_countOf) := goodIn_app (goodIn_of _ (by decide +kernel)) ggX2_release_X2_countOf
set_option maxRecDepth 20000 in
theorem ggX2_release_X2_begin : GoodIn wsX2_release wsX2_begin := goodIn_r _ [49, 50, 60, 61, 62, 63, 64, 65, 66, 67, 68, 69, 70, 71, 72, 73, 74, 75] (by decide +kernel) (by decide +kernel)
set_option maxRecDepth 20000 in
theorem gX2_release_X2_begin : GoodIn wsX2_release (wsV RX2 99 RX2 yX2_begin wsX2_begin) := goodIn_app (goodIn_of _ (by decide +kernel)) ggX2_release_X2_begin
set_option maxRecDepth 20000 in
theorem ggX2_release_X2_add : GoodIn wsX2_release wsX2_add := goodIn_r _ [54, 35, 4, 5, 55, 2, 60, 61, 62, 63, 64, 65, 66, 67, 68, 69, 70, 71, 72, 73, 74, 75] (by decide +kernel) (by decide +kernel)
set_option maxRecDepth 20000 in
theorem gX2_release_X2_add : GoodIn wsX2_release (wsV RX2 103 RX2 yX2_add wsX2_add) := goodIn_app (goodIn_of _ (by decide +kernel)) ggX2_release_X2_add
set_option maxRecDepth 20000 in
theorem ggX2_release_X2_append : GoodIn wsX2_release wsX2_append := goodIn_r _ [59, 6, 2, 45, 60, 61, 62, 63, 64, 65, 66, 67, 68, 69, 70, 71, 72, 73, 74, 75] (by decide +kernel) (by decide +kernel)
set_option maxRecDepth 20000 in
theorem gX2_release_X2_append : GoodIn wsX2_release (wsV RX2 107 RX2 yX2_append wsX2_append) := goodIn_app (goodIn_of _ (by decide +kernel)) ggX2_release_X2_append
theorem dX2_release_0 : decode cX2_release 0 = .ok (.aload_n 0, 1) := by decide +kernel
theorem dX2_release_1 : decode cX2_release 1 = .ok (.iload_n 1, 1) := by decide +kernel
theorem dX2_release_2 : decode cX2_release 2 = .ok (.invokestatic 65, 3) := by decide +kernel
theorem dX2_release_5 : decode cX2_release 5 = .ok (.ifCond .eq 25, 3) := by decide +kernel
theorem dX2_release_8 : decode cX2_release 8 = .ok (.iload_n 2, 1) := by decide +kernel
theorem dX2_release_9 : decode cX2_release 9 = .ok (.invokestatic 69, 3) := by decide +kernel
theorem dX2_release_12 : decode cX2_release 12 = .ok (.ifCond .eq 18, 3) := by decide +kernel
theorem dX2_release_15 : decode cX2_release 15 = .ok (.iload_n 3, 1) := by decide +kernel
theorem dX2_release_16 : decode cX2_release 16 = .ok (.invokestatic 89, 3) := by decide +kernel
theorem dX2_release_19 : decode cX2_release 19 = .ok (.ifCond .eq 11, 3) := by decide +kernel
theorem dX2_release_22 : decode cX2_release 22 = .ok (.iload 4, 2) := by decide +kernel
theorem dX2_release_24 : decode cX2_release 24 = .ok (.invokestatic 69, 3) := by decide +kernel
theorem dX2_release_27 : decode cX2_release 27 = .ok (.ifCond .ne 7, 3) := by decide +kernel
theorem dX2_release_30 : decode cX2_release 30 = .ok (.iconst 1, 1) := by decide +kernel
theorem dX2_release_31 : decode cX2_release 31 = .ok (.goto 4, 3) := by decide +kernel
theorem dX2_release_34 : decode cX2_release 34 = .ok (.iconst 0, 1) := by decide +kernel
theorem dX2_release_35 : decode cX2_release 35 = .ok (.iconst 1, 1) := by decide +kernel
theorem dX2_release_36 : decode cX2_release 36 = .ok (.invokevirtual 72, 3) := by decide +kernel
theorem dX2_release_39 : decode cX2_release 39 = .ok (.ifCond .eq 5, 3) := by decide +kernel
theorem dX2_release_42 : decode cX2_release 42 = .ok (.iconst 0, 1) := by decide +kernel
theorem dX2_release_43 : decode cX2_release 43 = .ok (.ireturn, 1) := by decide +kernel
theorem dX2_release_44 : decode cX2_release 44 = .ok (.aload_n 0, 1) := by decide +kernel
theorem dX2_release_45 : decode cX2_release 45 = .ok (.getfield 13, 3) := by decide +kernel
theorem dX2_release_48 : decode cX2_release 48 = .ok (.iload_n 1, 1) := by decide +kernel
theorem dX2_release_49 : decode cX2_release 49 = .ok (.baload, 1) := by decide +kernel
theorem dX2_release_50 : decode cX2_release 50 = .ok (.ifCond .eq 19, 3) := by decide +kernel
theorem dX2_release_53 : decode cX2_release 53 = .ok (.aload_n 0, 1) := by decide +kernel
theorem dX2_release_54 : decode cX2_release 54 = .ok (.iload_n 1, 1) := by decide +kernel
theorem dX2_release_55 : decode cX2_release 55 = .ok (.iload_n 2, 1) := by decide +kernel
theorem dX2_release_56 : decode cX2_release 56 = .ok (.iload 4, 2) := by decide +kernel
theorem dX2_release_58 : decode cX2_release 58 = .ok (.invokevirtual 79, 3) := by decide +kernel
theorem dX2_release_61 : decode cX2_release 61 = .ok (.iconst (-1), 1) := by decide +kernel
theorem dX2_release_62 : decode cX2_release 62 = .ok (.if_icmp .eq 7, 3) := by decide +kernel
theorem dX2_release_65 : decode cX2_release 65 = .ok (.iconst 1, 1) := by decide +kernel
theorem dX2_release_66 : decode cX2_release 66 = .ok (.goto 4, 3) := by decide +kernel
theorem dX2_release_69 : decode cX2_release 69 = .ok (.iconst 0, 1) := by decide +kernel
theorem dX2_release_70 : decode cX2_release 70 = .ok (.istore 5, 2) := by decide +kernel
theorem dX2_release_72 : decode cX2_release 72 = .ok (.aload_n 0, 1) := by decide +kernel
theorem dX2_release_73 : decode cX2_release 73 = .ok (.iload_n 2, 1) := by decide +kernel
theorem dX2_release_74 : decode cX2_release 74 = .ok (.iload_n 3, 1) := by decide +kernel
theorem dX2_release_75 : decode cX2_release 75 = .ok (.invokevirtual 92, 3) := by decide +kernel
theorem dX2_release_78 : decode cX2_release 78 = .ok (.istore 6, 2) := by decide +kernel
theorem dX2_release_80 : decode cX2_release 80 = .ok (.aload_n 0, 1) := by decide +kernel
theorem dX2_release_81 : decode cX2_release 81 = .ok (.iload 4, 2) := by decide +kernel
theorem dX2_release_83 : decode cX2_release 83 = .ok (.iload_n 3, 1) := by decide +kernel
theorem dX2_release_84 : decode cX2_release 84 = .ok (.invokevirtual 92, 3) := by decide +kernel
theorem dX2_release_87 : decode cX2_release 87 = .ok (.istore 7, 2) := by decide +kernel
theorem dX2_release_89 : decode cX2_release 89 = .ok (.iload 6, 2) := by decide +kernel
theorem dX2_release_91 : decode cX2_release 91 = .ok (.iconst (-1), 1) := by decide +kernel
theorem dX2_release_92 : decode cX2_release 92 = .ok (.if_icmp .eq 50, 3) := by decide +kernel
theorem dX2_release_95 : decode cX2_release 95 = .ok (.aload_n 0, 1) := by decide +kernel
theorem dX2_release_96 : decode cX2_release 96 = .ok (.iload 4, 2) := by decide +kernel
theorem dX2_release_98 : decode cX2_release 98 = .ok (.invokevirtual 86, 3) := by decide +kernel
theorem dX2_release_101 : decode cX2_release 101 = .ok (.iload 7, 2) := by decide +kernel
theorem dX2_release_103 : decode cX2_release 103 = .ok (.iconst (-1), 1) := by decide +kernel
theorem dX2_release_104 : decode cX2_release 104 = .ok (.if_icmp .ne 7, 3) := by decide +kernel
theorem dX2_release_107 : decode cX2_release 107 = .ok (.iconst 0, 1) := by decide +kernel
theorem dX2_release_108 : decode cX2_release 108 = .ok (.goto 9, 3) := by decide +kernel
theorem dX2_release_111 : decode cX2_release 111 = .ok (.aload_n 0, 1) := by decide +kernel
theorem dX2_release_112 : decode cX2_release 112 = .ok (.iload 7, 2) := by decide +kernel
theorem dX2_release_114 : decode cX2_release 114 = .ok (.invokevirtual 61, 3) := by decide +kernel
theorem dX2_release_117 : decode cX2_release 117 = .ok (.isub, 1) := by decide +kernel
theorem dX2_release_118 : decode cX2_release 118 = .ok (.iconst 1, 1) := by decide +kernel
theorem dX2_release_119 : decode cX2_release 119 = .ok (.iadd, 1) := by decide +kernel
theorem dX2_release_120 : decode cX2_release 120 = .ok (.aload_n 0, 1) := by decide +kernel
theorem dX2_release_121 : decode cX2_release 121 = .ok (.getfield 32, 3) := by decide +kernel
theorem dX2_release_124 : decode cX2_release 124 = .ok (.iload 6, 2) := by decide +kernel
theorem dX2_release_126 : decode cX2_release 126 = .ok (.iaload, 1) := by decide +kernel
theorem dX2_release_127 : decode cX2_release 127 = .ok (.iadd, 1) := by decide +kernel
theorem dX2_release_128 : decode cX2_release 128 = .ok (.aload_n 0, 1) := by decide +kernel
theorem dX2_release_129 : decode cX2_release 129 = .ok (.getfield 17, 3) := by decide +kernel
theorem dX2_release_132 : decode cX2_release 132 = .ok (.iload 4, 2) := by decide +kernel
theorem dX2_release_134 : decode cX2_release 134 = .ok (.iaload, 1) := by decide +kernel
theorem dX2_release_135 : decode cX2_release 135 = .ok (.if_icmp .gt 7, 3) := by decide +kernel
theorem dX2_release_138 : decode cX2_release 138 = .ok (.iconst 1, 1) := by decide +kernel
theorem dX2_release_139 : decode cX2_release 139 = .ok (.goto 4, 3) := by decide +kernel
theorem dX2_release_142 : decode cX2_release 142 = .ok (.iconst 0, 1) := by decide +kernel
theorem dX2_release_143 : decode cX2_release 143 = .ok (.istore 8, 2) := by decide +kernel
theorem dX2_release_145 : decode cX2_release 145 = .ok (.aload_n 0, 1) := by decide +kernel
theorem dX2_release_146 : decode cX2_release 146 = .ok (.iload 5, 2) := by decide +kernel
theorem dX2_release_148 : decode cX2_release 148 = .ok (.ifCond .eq 28, 3) := by decide +kernel
theorem dX2_release_151 : decode cX2_release 151 = .ok (.iload 8, 2) := by decide +kernel
theorem dX2_release_153 : decode cX2_release 153 = .ok (.ifCond .eq 23, 3) := by decide +kernel
theorem dX2_release_156 : decode cX2_release 156 = .ok (.iload 7, 2) := by decide +kernel
theorem dX2_release_158 : decode cX2_release 158 = .ok (.iconst (-1), 1) := by decide +kernel
theorem dX2_release_159 : decode cX2_release 159 = .ok (.if_icmp .ne 17, 3) := by decide +kernel
theorem dX2_release_162 : decode cX2_release 162 = .ok (.aload_n 0, 1) := by decide +kernel
theorem dX2_release_163 : decode cX2_release 163 = .ok (.getfield 58, 3) := by decide +kernel
theorem dX2_release_166 : decode cX2_release 166 = .ok (.sipush 200, 3) := by decide +kernel
theorem dX2_release_169 : decode cX2_release 169 = .ok (.if_icmp .ne 7, 3) := by decide +kernel
theorem dX2_release_172 : decode cX2_release 172 = .ok (.iconst 1, 1) := by decide +kernel
theorem dX2_release_173 : decode cX2_release 173 = .ok (.goto 4, 3) := by decide +kernel
theorem dX2_release_176 : decode cX2_release 176 = .ok (.iconst 0, 1) := by decide +kernel
theorem dX2_release_177 : decode cX2_release 177 = .ok (.iconst 2, 1) := by decide +kernel
theorem dX2_release_178 : decode cX2_release 178 = .ok (.invokevirtual 72, 3) := by decide +kernel
theorem dX2_release_181 : decode cX2_release 181 = .ok (.ifCond .eq 5, 3) := by decide +kernel
theorem dX2_release_184 : decode cX2_release 184 = .ok (.iconst 0, 1) := by decide +kernel
theorem dX2_release_185 : decode cX2_release 185 = .ok (.ireturn, 1) := by decide +kernel
theorem dX2_release_186 : decode cX2_release 186 = .ok (.aload_n 0, 1) := by decide +kernel
theorem dX2_release_187 : decode cX2_release 187 = .ok (.iload_n 1, 1) := by decide +kernel
theorem dX2_release_188 : decode cX2_release 188 = .ok (.invokevirtual 99, 3) := by decide +kernel
theorem dX2_release_191 : decode cX2_release 191 = .ok (.aload_n 0, 1) := by decide +kernel
theorem dX2_release_192 : decode cX2_release 192 = .ok (.getfield 13, 3) := by decide +kernel
theorem dX2_release_195 : decode cX2_release 195 = .ok (.iload_n 1, 1) := by decide +kernel
theorem dX2_release_196 : decode cX2_release 196 = .ok (.baload, 1) := by decide +kernel
theorem dX2_release_197 : decode cX2_release 197 = .ok (.ifCond .ne 5, 3) := by decide +kernel
theorem dX2_release_200 : decode cX2_release 200 = .ok (.iconst (-1), 1) := by decide +kernel
theorem dX2_release_201 : decode cX2_release 201 = .ok (.ireturn, 1) := by decide +kernel
theorem dX2_release_202 : decode cX2_release 202 = .ok (.iload 5, 2) := by decide +kernel
theorem dX2_release_204 : decode cX2_release 204 = .ok (.ifCond .ne 6, 3) := by decide +kernel
theorem dX2_release_207 : decode cX2_release 207 = .ok (.bipush (-2), 2) := by decide +kernel
theorem dX2_release_209 : decode cX2_release 209 = .ok (.ireturn, 1) := by decide +kernel
theorem dX2_release_210 : decode cX2_release 210 = .ok (.iload 6, 2) := by decide +kernel
theorem dX2_release_212 : decode cX2_release 212 = .ok (.iconst (-1), 1) := by decide +kernel
theorem dX2_release_213 : decode cX2_release 213 = .ok (.if_icmp .ne 5, 3) := by decide +kernel
theorem dX2_release_216 : decode cX2_release 216 = .ok (.iconst 0, 1) := by decide +kernel
theorem dX2_release_217 : decode cX2_release 217 = .ok (.ireturn, 1) := by decide +kernel
theorem dX2_release_218 : decode cX2_release 218 = .ok (.iload 8, 2) := by decide +kernel
theorem dX2_release_220 : decode cX2_release 220 = .ok (.ifCond .ne 6, 3) := by decide +kernel
theorem dX2_release_223 : decode cX2_release 223 = .ok (.bipush (-3), 2) := by decide +kernel
theorem dX2_release_225 : decode cX2_release 225 = .ok (.ireturn, 1) := by decide +kernel
theorem dX2_release_226 : decode cX2_release 226 = .ok (.iload 7, 2) := by decide +kernel
theorem dX2_release_228 : decode cX2_release 228 = .ok (.iconst (-1), 1) := by decide +kernel
theorem dX2_release_229 : decode cX2_release 229 = .ok (.if_icmp .ne 15, 3) := by decide +kernel
theorem dX2_release_232 : decode cX2_release 232 = .ok (.aload_n 0, 1) := by decide +kernel
theorem dX2_release_233 : decode cX2_release 233 = .ok (.iload 4, 2) := by decide +kernel
theorem dX2_release_235 : decode cX2_release 235 = .ok (.iload_n 3, 1) := by decide +kernel
theorem dX2_release_236 : decode cX2_release 236 = .ok (.iconst (-1), 1) := by decide +kernel
theorem dX2_release_237 : decode cX2_release 237 = .ok (.iconst 0, 1) := by decide +kernel
theorem dX2_release_238 : decode cX2_release 238 = .ok (.invokevirtual 103, 3) := by decide +kernel
theorem dX2_release_241 : decode cX2_release 241 = .ok (.goto 5, 3) := by decide +kernel
theorem dX2_release_244 : decode cX2_release 244 = .ok (.iload 7, 2) := by decide +kernel
theorem dX2_release_246 : decode cX2_release 246 = .ok (.istore 9, 2) := by decide +kernel
theorem dX2_release_248 : decode cX2_release 248 = .ok (.aload_n 0, 1) := by decide +kernel
theorem dX2_release_249 : decode cX2_release 249 = .ok (.getfield 26, 3) := by decide +kernel
theorem dX2_release_252 : decode cX2_release 252 = .ok (.iload 9, 2) := by decide +kernel
theorem dX2_release_254 : decode cX2_release 254 = .ok (.iconst 0, 1) := by decide +kernel
theorem dX2_release_255 : decode cX2_release 255 = .ok (.bastore, 1) := by decide +kernel
theorem dX2_release_256 : decode cX2_release 256 = .ok (.aload_n 0, 1) := by decide +kernel
theorem dX2_release_257 : decode cX2_release 257 = .ok (.getfield 32, 3) := by decide +kernel
theorem dX2_release_260 : decode cX2_release 260 = .ok (.iload 9, 2) := by decide +kernel
theorem dX2_release_262 : decode cX2_release 262 = .ok (.iconst 0, 1) := by decide +kernel
theorem dX2_release_263 : decode cX2_release 263 = .ok (.iastore, 1) := by decide +kernel
theorem dX2_release_264 : decode cX2_release 264 = .ok (.iconst 0, 1) := by decide +kernel
theorem dX2_release_265 : decode cX2_release 265 = .ok (.istore 10, 2) := by decide +kernel
theorem dX2_release_267 : decode cX2_release 267 = .ok (.iload 10, 2) := by decide +kernel
theorem dX2_release_269 : decode cX2_release 269 = .ok (.aload_n 0, 1) := by decide +kernel
theorem dX2_release_270 : decode cX2_release 270 = .ok (.getfield 32, 3) := by decide +kernel
theorem dX2_release_273 : decode cX2_release 273 = .ok (.iload 6, 2) := by decide +kernel
theorem dX2_release_275 : decode cX2_release 275 = .ok (.iaload, 1) := by decide +kernel
theorem dX2_release_276 : decode cX2_release 276 = .ok (.if_icmp .ge 29, 3) := by decide +kernel
theorem dX2_release_279 : decode cX2_release 279 = .ok (.aload_n 0, 1) := by decide +kernel
theorem dX2_release_280 : decode cX2_release 280 = .ok (.iload 9, 2) := by decide +kernel
theorem dX2_release_282 : decode cX2_release 282 = .ok (.aload_n 0, 1) := by decide +kernel
theorem dX2_release_283 : decode cX2_release 283 = .ok (.getfield 35, 3) := by decide +kernel
theorem dX2_release_286 : decode cX2_release 286 = .ok (.bipush 24, 2) := by decide +kernel
theorem dX2_release_288 : decode cX2_release 288 = .ok (.iload 6, 2) := by decide +kernel
theorem dX2_release_290 : decode cX2_release 290 = .ok (.imul, 1) := by decide +kernel
theorem dX2_release_291 : decode cX2_release 291 = .ok (.iload 10, 2) := by decide +kernel
theorem dX2_release_293 : decode cX2_release 293 = .ok (.iadd, 1) := by decide +kernel
theorem dX2_release_294 : decode cX2_release 294 = .ok (.iaload, 1) := by decide +kernel
theorem dX2_release_295 : decode cX2_release 295 = .ok (.iconst 0, 1) := by decide +kernel
theorem dX2_release_296 : decode cX2_release 296 = .ok (.invokevirtual 107, 3) := by decide +kernel
theorem dX2_release_299 : decode cX2_release 299 = .ok (.iinc 10 1, 3) := by decide +kernel
theorem dX2_release_302 : decode cX2_release 302 = .ok (.goto (-35), 3) := by decide +kernel
theorem dX2_release_305 : decode cX2_release 305 = .ok (.iconst 1, 1) := by decide +kernel
theorem dX2_release_306 : decode cX2_release 306 = .ok (.ireturn, 1) := by decide +kernel
set_option maxRecDepth 20000 in
theorem ggX2_seen_X2_isSubject : GoodIn wsX2_seen wsX2_isSubject := goodIn_r _ [6, 7, 8, 5, 9] (by decide +kernel) (by decide +kernel)
set_option maxRecDepth 20000 in
theorem gX2_seen_X2_isSubject : GoodIn wsX2_seen (va_wsS RX2 65 yX2_isSubject wsX2_isSubject) := goodIn_app (goodIn_of _ (by decide +kernel)) ggX2_seen_X2_isSubject
set_option maxRecDepth 20000 in
theorem ggX2_seen_X2_fails : GoodIn wsX2_seen wsX2_fails := goodIn_r _ [13, 14, 15, 16, 17, 18, 19, 20, 21, 22, 23, 24, 25, 26, 27, 28, 29, 30] (by decide +kernel) (by decide +kernel)
set_option maxRecDepth 20000 in
theorem gX2_seen_X2_fails : GoodIn wsX2_seen (wsV RX2 72 RX2 yX2_fails wsX2_fails) := goodIn_app (goodIn_of _ (by decide +kernel)) ggX2_seen_X2_fails
theorem dX2_seen_0 : decode cX2_seen 0 = .ok (.aload_n 0, 1) := by decide +kernel
theorem dX2_seen_1 : decode cX2_seen 1 = .ok (.iload_n 1, 1) := by decide +kernel
theorem dX2_seen_2 : decode cX2_seen 2 = .ok (.invokestatic 65, 3) := by decide +kernel
theorem dX2_seen_5 : decode cX2_seen 5 = .ok (.ifCond .ne 7, 3) := by decide +kernel
theorem dX2_seen_8 : decode cX2_seen 8 = .ok (.iconst 1, 1) := by decide +kernel
theorem dX2_seen_9 : decode cX2_seen 9 = .ok (.goto 4, 3) := by decide +kernel
theorem dX2_seen_12 : decode cX2_seen 12 = .ok (.iconst 0, 1) := by decide +kernel
theorem dX2_seen_13 : decode cX2_seen 13 = .ok (.iconst 1, 1) := by decide +kernel
theorem dX2_seen_14 : decode cX2_seen 14 = .ok (.invokevirtual 72, 3) := by decide +kernel
theorem dX2_seen_17 : decode cX2_seen 17 = .ok (.ifCond .eq 5, 3) := by decide +kernel
theorem dX2_seen_20 : decode cX2_seen 20 = .ok (.iconst 0, 1) := by decide +kernel
theorem dX2_seen_21 : decode cX2_seen 21 = .ok (.ireturn, 1) := by decide +kernel
theorem dX2_seen_22 : decode cX2_seen 22 = .ok (.iload_n 2, 1) := by decide +kernel
theorem dX2_seen_23 : decode cX2_seen 23 = .ok (.ifCond .lt 28, 3) := by decide +kernel
theorem dX2_seen_26 : decode cX2_seen 26 = .ok (.iload_n 2, 1) := by decide +kernel
theorem dX2_seen_27 : decode cX2_seen 27 = .ok (.aload_n 0, 1) := by decide +kernel
theorem dX2_seen_28 : decode cX2_seen 28 = .ok (.getfield 47, 3) := by decide +kernel
theorem dX2_seen_31 : decode cX2_seen 31 = .ok (.iload_n 1, 1) := by decide +kernel
theorem dX2_seen_32 : decode cX2_seen 32 = .ok (.iaload, 1) := by decide +kernel
theorem dX2_seen_33 : decode cX2_seen 33 = .ok (.if_icmp .ge 18, 3) := by decide +kernel
theorem dX2_seen_36 : decode cX2_seen 36 = .ok (.aload_n 0, 1) := by decide +kernel
theorem dX2_seen_37 : decode cX2_seen 37 = .ok (.getfield 44, 3) := by decide +kernel
theorem dX2_seen_40 : decode cX2_seen 40 = .ok (.sipush 200, 3) := by decide +kernel
theorem dX2_seen_43 : decode cX2_seen 43 = .ok (.iload_n 1, 1) := by decide +kernel
theorem dX2_seen_44 : decode cX2_seen 44 = .ok (.imul, 1) := by decide +kernel
theorem dX2_seen_45 : decode cX2_seen 45 = .ok (.iload_n 2, 1) := by decide +kernel
theorem dX2_seen_46 : decode cX2_seen 46 = .ok (.iadd, 1) := by decide +kernel
theorem dX2_seen_47 : decode cX2_seen 47 = .ok (.iaload, 1) := by decide +kernel
theorem dX2_seen_48 : decode cX2_seen 48 = .ok (.goto 4, 3) := by decide +kernel
theorem dX2_seen_51 : decode cX2_seen 51 = .ok (.iconst 0, 1) := by decide +kernel
theorem dX2_seen_52 : decode cX2_seen 52 = .ok (.ireturn, 1) := by decide +kernel
set_option maxRecDepth 20000 in
theorem ggX2_told_X2_isLabel : GoodIn wsX2_told wsX2_isLabel := goodIn_r _ [8, 9, 10, 7, 11] (by decide +kernel) (by decide +kernel)
set_option maxRecDepth 20000 in
theorem gX2_told_X2_isLabel : GoodIn wsX2_told (va_wsS RX2 69 yX2_isLabel wsX2_isLabel) := goodIn_app (goodIn_of _ (by decide +kernel)) ggX2_told_X2_isLabel
set_option maxRecDepth 20000 in
theorem ggX2_told_X2_within : GoodIn wsX2_told wsX2_within := goodIn_r _ [11] (by decide +kernel) (by decide +kernel)
set_option maxRecDepth 20000 in
theorem gX2_told_X2_within : GoodIn wsX2_told (va_wsS RX2 54 yX2_within wsX2_within) := goodIn_app (goodIn_of _ (by decide +kernel)) ggX2_told_X2_within
set_option maxRecDepth 20000 in
theorem ggX2_told_X2_fails : GoodIn wsX2_told wsX2_fails := goodIn_r _ [15, 16, 28, 29, 30, 31, 32, 33, 34, 35, 36, 37, 38, 39, 40, 41, 42, 43] (by decide +kernel) (by decide +kernel)
set_option maxRecDepth 20000 in
theorem gX2_told_X2_fails : GoodIn wsX2_told (wsV RX2 72 RX2 yX2_fails wsX2_fails) := goodIn_app (goodIn_of _ (by decide +kernel)) ggX2_told_X2_fails
set_option maxRecDepth 20000 in
theorem ggX2_told_X2_uses : GoodIn wsX2_told wsX2_uses := goodIn_r _ [20, 3, 1, 2, 21, 22, 23, 7, 24, 25, 26, 27, 28, 29, 30, 31, 32, 33, 34, 35, 36, 37, 38, 39, 40, 41, 42, 43] (by decide +kernel) (by decide +kernel)
set_option maxRecDepth 20000 in
theorem gX2_told_X2_uses : GoodIn wsX2_told (wsV RX2 86 RX2 yX2_uses wsX2_uses) := goodIn_app (goodIn_of _ (by decide +kernel)) ggX2_told_X2_uses
theorem dX2_told_0 : decode cX2_told 0 = .ok (.aload_n 0, 1) := by decide +kernel
theorem dX2_told_1 : decode cX2_told 1 = .ok (.iload_n 1, 1) := by decide +kernel
theorem dX2_told_2 : decode cX2_told 2 = .ok (.invokestatic 69, 3) := by decide +kernel
theorem dX2_told_5 : decode cX2_told 5 = .ok (.ifCond .eq 11, 3) := by decide +kernel
theorem dX2_told_8 : decode cX2_told 8 = .ok (.iload_n 2, 1) := by decide +kernel
theorem dX2_told_9 : decode cX2_told 9 = .ok (.iconst 4, 1) := by decide +kernel
theorem dX2_told_10 : decode cX2_told 10 = .ok (.invokestatic 54, 3) := by decide +kernel
theorem dX2_told_13 : decode cX2_told 13 = .ok (.ifCond .ne 7, 3) := by decide +kernel
theorem dX2_told_16 : decode cX2_told 16 = .ok (.iconst 1, 1) := by decide +kernel
theorem dX2_told_17 : decode cX2_told 17 = .ok (.goto 4, 3) := by decide +kernel
theorem dX2_told_20 : decode cX2_told 20 = .ok (.iconst 0, 1) := by decide +kernel
theorem dX2_told_21 : decode cX2_told 21 = .ok (.iconst 1, 1) := by decide +kernel
theorem dX2_told_22 : decode cX2_told 22 = .ok (.invokevirtual 72, 3) := by decide +kernel
theorem dX2_told_25 : decode cX2_told 25 = .ok (.ifCond .eq 5, 3) := by decide +kernel
theorem dX2_told_28 : decode cX2_told 28 = .ok (.iconst 0, 1) := by decide +kernel
theorem dX2_told_29 : decode cX2_told 29 = .ok (.ireturn, 1) := by decide +kernel
theorem dX2_told_30 : decode cX2_told 30 = .ok (.iconst 0, 1) := by decide +kernel
theorem dX2_told_31 : decode cX2_told 31 = .ok (.istore_n 3, 1) := by decide +kernel
theorem dX2_told_32 : decode cX2_told 32 = .ok (.iconst 0, 1) := by decide +kernel
theorem dX2_told_33 : decode cX2_told 33 = .ok (.istore 4, 2) := by decide +kernel
theorem dX2_told_35 : decode cX2_told 35 = .ok (.iload 4, 2) := by decide +kernel
theorem dX2_told_37 : decode cX2_told 37 = .ok (.aload_n 0, 1) := by decide +kernel
theorem dX2_told_38 : decode cX2_told 38 = .ok (.getfield 58, 3) := by decide +kernel
theorem dX2_told_41 : decode cX2_told 41 = .ok (.if_icmp .ge 31, 3) := by decide +kernel
theorem dX2_told_44 : decode cX2_told 44 = .ok (.iload_n 3, 1) := by decide +kernel
theorem dX2_told_45 : decode cX2_told 45 = .ok (.aload_n 0, 1) := by decide +kernel
theorem dX2_told_46 : decode cX2_told 46 = .ok (.getfield 23, 3) := by decide +kernel
theorem dX2_told_49 : decode cX2_told 49 = .ok (.iload 4, 2) := by decide +kernel
theorem dX2_told_51 : decode cX2_told 51 = .ok (.iaload, 1) := by decide +kernel
theorem dX2_told_52 : decode cX2_told 52 = .ok (.bipush 16, 2) := by decide +kernel
theorem dX2_told_54 : decode cX2_told 54 = .ok (.idiv, 1) := by decide +kernel
theorem dX2_told_55 : decode cX2_told 55 = .ok (.iload_n 1, 1) := by decide +kernel
theorem dX2_told_56 : decode cX2_told 56 = .ok (.if_icmp .ne 7, 3) := by decide +kernel
theorem dX2_told_59 : decode cX2_told 59 = .ok (.iconst 1, 1) := by decide +kernel
theorem dX2_told_60 : decode cX2_told 60 = .ok (.goto 4, 3) := by decide +kernel
theorem dX2_told_63 : decode cX2_told 63 = .ok (.iconst 0, 1) := by decide +kernel
theorem dX2_told_64 : decode cX2_told 64 = .ok (.iadd, 1) := by decide +kernel
theorem dX2_told_65 : decode cX2_told 65 = .ok (.istore_n 3, 1) := by decide +kernel
theorem dX2_told_66 : decode cX2_told 66 = .ok (.iinc 4 1, 3) := by decide +kernel
theorem dX2_told_69 : decode cX2_told 69 = .ok (.goto (-34), 3) := by decide +kernel
theorem dX2_told_72 : decode cX2_told 72 = .ok (.iload_n 2, 1) := by decide +kernel
theorem dX2_told_73 : decode cX2_told 73 = .ok (.ifCond .ne 11, 3) := by decide +kernel
theorem dX2_told_76 : decode cX2_told 76 = .ok (.aload_n 0, 1) := by decide +kernel
theorem dX2_told_77 : decode cX2_told 77 = .ok (.iload_n 1, 1) := by decide +kernel
theorem dX2_told_78 : decode cX2_told 78 = .ok (.invokevirtual 86, 3) := by decide +kernel
theorem dX2_told_81 : decode cX2_told 81 = .ok (.goto 32, 3) := by decide +kernel
theorem dX2_told_84 : decode cX2_told 84 = .ok (.iload_n 2, 1) := by decide +kernel
theorem dX2_told_85 : decode cX2_told 85 = .ok (.iconst 1, 1) := by decide +kernel
theorem dX2_told_86 : decode cX2_told 86 = .ok (.if_icmp .ne 12, 3) := by decide +kernel
theorem dX2_told_89 : decode cX2_told 89 = .ok (.aload_n 0, 1) := by decide +kernel
theorem dX2_told_90 : decode cX2_told 90 = .ok (.getfield 20, 3) := by decide +kernel
theorem dX2_told_93 : decode cX2_told 93 = .ok (.iload_n 1, 1) := by decide +kernel
theorem dX2_told_94 : decode cX2_told 94 = .ok (.iaload, 1) := by decide +kernel
theorem dX2_told_95 : decode cX2_told 95 = .ok (.goto 18, 3) := by decide +kernel
theorem dX2_told_98 : decode cX2_told 98 = .ok (.iload_n 2, 1) := by decide +kernel
theorem dX2_told_99 : decode cX2_told 99 = .ok (.iconst 2, 1) := by decide +kernel
theorem dX2_told_100 : decode cX2_told 100 = .ok (.if_icmp .ne 12, 3) := by decide +kernel
theorem dX2_told_103 : decode cX2_told 103 = .ok (.aload_n 0, 1) := by decide +kernel
theorem dX2_told_104 : decode cX2_told 104 = .ok (.getfield 17, 3) := by decide +kernel
theorem dX2_told_107 : decode cX2_told 107 = .ok (.iload_n 1, 1) := by decide +kernel
theorem dX2_told_108 : decode cX2_told 108 = .ok (.iaload, 1) := by decide +kernel
theorem dX2_told_109 : decode cX2_told 109 = .ok (.goto 4, 3) := by decide +kernel
theorem dX2_told_112 : decode cX2_told 112 = .ok (.iload_n 3, 1) := by decide +kernel
theorem dX2_told_113 : decode cX2_told 113 = .ok (.ireturn, 1) := by decide +kernel
theorem dJ6_bitCount_0f7a4_0 : decode cJ6_bitCount_0f7a4 0 = .ok (.iload_n 0, 1) := by decide +kernel
theorem dJ6_bitCount_0f7a4_1 : decode cJ6_bitCount_0f7a4 1 = .ok (.iload_n 0, 1) := by decide +kernel
theorem dJ6_bitCount_0f7a4_2 : decode cJ6_bitCount_0f7a4 2 = .ok (.iconst 1, 1) := by decide +kernel
theorem dJ6_bitCount_0f7a4_3 : decode cJ6_bitCount_0f7a4 3 = .ok (.iushr, 1) := by decide +kernel
theorem dJ6_bitCount_0f7a4_4 : decode cJ6_bitCount_0f7a4 4 = .ok (.ldc_w 265, 3) := by decide +kernel
theorem dJ6_bitCount_0f7a4_7 : decode cJ6_bitCount_0f7a4 7 = .ok (.iand, 1) := by decide +kernel
theorem dJ6_bitCount_0f7a4_8 : decode cJ6_bitCount_0f7a4 8 = .ok (.isub, 1) := by decide +kernel
theorem dJ6_bitCount_0f7a4_9 : decode cJ6_bitCount_0f7a4 9 = .ok (.istore_n 0, 1) := by decide +kernel
theorem dJ6_bitCount_0f7a4_10 : decode cJ6_bitCount_0f7a4 10 = .ok (.iload_n 0, 1) := by decide +kernel
theorem dJ6_bitCount_0f7a4_11 : decode cJ6_bitCount_0f7a4 11 = .ok (.ldc_w 266, 3) := by decide +kernel
theorem dJ6_bitCount_0f7a4_14 : decode cJ6_bitCount_0f7a4 14 = .ok (.iand, 1) := by decide +kernel
theorem dJ6_bitCount_0f7a4_15 : decode cJ6_bitCount_0f7a4 15 = .ok (.iload_n 0, 1) := by decide +kernel
theorem dJ6_bitCount_0f7a4_16 : decode cJ6_bitCount_0f7a4 16 = .ok (.iconst 2, 1) := by decide +kernel
theorem dJ6_bitCount_0f7a4_17 : decode cJ6_bitCount_0f7a4 17 = .ok (.iushr, 1) := by decide +kernel
theorem dJ6_bitCount_0f7a4_18 : decode cJ6_bitCount_0f7a4 18 = .ok (.ldc_w 266, 3) := by decide +kernel
theorem dJ6_bitCount_0f7a4_21 : decode cJ6_bitCount_0f7a4 21 = .ok (.iand, 1) := by decide +kernel
theorem dJ6_bitCount_0f7a4_22 : decode cJ6_bitCount_0f7a4 22 = .ok (.iadd, 1) := by decide +kernel
theorem dJ6_bitCount_0f7a4_23 : decode cJ6_bitCount_0f7a4 23 = .ok (.istore_n 0, 1) := by decide +kernel
theorem dJ6_bitCount_0f7a4_24 : decode cJ6_bitCount_0f7a4 24 = .ok (.iload_n 0, 1) := by decide +kernel
theorem dJ6_bitCount_0f7a4_25 : decode cJ6_bitCount_0f7a4 25 = .ok (.iload_n 0, 1) := by decide +kernel
theorem dJ6_bitCount_0f7a4_26 : decode cJ6_bitCount_0f7a4 26 = .ok (.iconst 4, 1) := by decide +kernel
theorem dJ6_bitCount_0f7a4_27 : decode cJ6_bitCount_0f7a4 27 = .ok (.iushr, 1) := by decide +kernel
theorem dJ6_bitCount_0f7a4_28 : decode cJ6_bitCount_0f7a4 28 = .ok (.iadd, 1) := by decide +kernel
theorem dJ6_bitCount_0f7a4_29 : decode cJ6_bitCount_0f7a4 29 = .ok (.ldc_w 267, 3) := by decide +kernel
theorem dJ6_bitCount_0f7a4_32 : decode cJ6_bitCount_0f7a4 32 = .ok (.iand, 1) := by decide +kernel
theorem dJ6_bitCount_0f7a4_33 : decode cJ6_bitCount_0f7a4 33 = .ok (.istore_n 0, 1) := by decide +kernel
theorem dJ6_bitCount_0f7a4_34 : decode cJ6_bitCount_0f7a4 34 = .ok (.iload_n 0, 1) := by decide +kernel
theorem dJ6_bitCount_0f7a4_35 : decode cJ6_bitCount_0f7a4 35 = .ok (.iload_n 0, 1) := by decide +kernel
theorem dJ6_bitCount_0f7a4_36 : decode cJ6_bitCount_0f7a4 36 = .ok (.bipush 8, 2) := by decide +kernel
theorem dJ6_bitCount_0f7a4_38 : decode cJ6_bitCount_0f7a4 38 = .ok (.iushr, 1) := by decide +kernel
theorem dJ6_bitCount_0f7a4_39 : decode cJ6_bitCount_0f7a4 39 = .ok (.iadd, 1) := by decide +kernel
theorem dJ6_bitCount_0f7a4_40 : decode cJ6_bitCount_0f7a4 40 = .ok (.istore_n 0, 1) := by decide +kernel
theorem dJ6_bitCount_0f7a4_41 : decode cJ6_bitCount_0f7a4 41 = .ok (.iload_n 0, 1) := by decide +kernel
theorem dJ6_bitCount_0f7a4_42 : decode cJ6_bitCount_0f7a4 42 = .ok (.iload_n 0, 1) := by decide +kernel
theorem dJ6_bitCount_0f7a4_43 : decode cJ6_bitCount_0f7a4 43 = .ok (.bipush 16, 2) := by decide +kernel
theorem dJ6_bitCount_0f7a4_45 : decode cJ6_bitCount_0f7a4 45 = .ok (.iushr, 1) := by decide +kernel
theorem dJ6_bitCount_0f7a4_46 : decode cJ6_bitCount_0f7a4 46 = .ok (.iadd, 1) := by decide +kernel
theorem dJ6_bitCount_0f7a4_47 : decode cJ6_bitCount_0f7a4 47 = .ok (.istore_n 0, 1) := by decide +kernel
theorem dJ6_bitCount_0f7a4_48 : decode cJ6_bitCount_0f7a4 48 = .ok (.iload_n 0, 1) := by decide +kernel
theorem dJ6_bitCount_0f7a4_49 : decode cJ6_bitCount_0f7a4 49 = .ok (.bipush 63, 2) := by decide +kernel
theorem dJ6_bitCount_0f7a4_51 : decode cJ6_bitCount_0f7a4 51 = .ok (.iand, 1) := by decide +kernel
theorem dJ6_bitCount_0f7a4_52 : decode cJ6_bitCount_0f7a4 52 = .ok (.ireturn, 1) := by decide +kernel
theorem dJ9_max_7cf53_0 : decode cJ9_max_7cf53 0 = .ok (.iload_n 0, 1) := by decide +kernel
theorem dJ9_max_7cf53_1 : decode cJ9_max_7cf53 1 = .ok (.iload_n 1, 1) := by decide +kernel
theorem dJ9_max_7cf53_2 : decode cJ9_max_7cf53 2 = .ok (.if_icmp .lt 7, 3) := by decide +kernel
theorem dJ9_max_7cf53_5 : decode cJ9_max_7cf53 5 = .ok (.iload_n 0, 1) := by decide +kernel
theorem dJ9_max_7cf53_6 : decode cJ9_max_7cf53 6 = .ok (.goto 4, 3) := by decide +kernel
theorem dJ9_max_7cf53_9 : decode cJ9_max_7cf53 9 = .ok (.iload_n 1, 1) := by decide +kernel
theorem dJ9_max_7cf53_10 : decode cJ9_max_7cf53 10 = .ok (.ireturn, 1) := by decide +kernel
theorem dJ9_min_7cf53_0 : decode cJ9_min_7cf53 0 = .ok (.iload_n 0, 1) := by decide +kernel
theorem dJ9_min_7cf53_1 : decode cJ9_min_7cf53 1 = .ok (.iload_n 1, 1) := by decide +kernel
theorem dJ9_min_7cf53_2 : decode cJ9_min_7cf53 2 = .ok (.if_icmp .gt 7, 3) := by decide +kernel
theorem dJ9_min_7cf53_5 : decode cJ9_min_7cf53 5 = .ok (.iload_n 0, 1) := by decide +kernel
theorem dJ9_min_7cf53_6 : decode cJ9_min_7cf53 6 = .ok (.goto 4, 3) := by decide +kernel
theorem dJ9_min_7cf53_9 : decode cJ9_min_7cf53 9 = .ok (.iload_n 1, 1) := by decide +kernel
theorem dJ9_min_7cf53_10 : decode cJ9_min_7cf53 10 = .ok (.ireturn, 1) := by decide +kernel
theorem dJxa1e45_init_da8c8_0 : decode cJxa1e45_init_da8c8 0 = .ok (.aload_n 0, 1) := by decide +kernel
theorem dJxa1e45_init_da8c8_1 : decode cJxa1e45_init_da8c8 1 = .ok (.invokespecial 1, 3) := by decide +kernel
theorem dJxa1e45_init_da8c8_4 : decode cJxa1e45_init_da8c8 4 = .ok (.return_, 1) := by decide +kernel
set_option maxRecDepth 20000 in
theorem ggJxc12de_init_da8c8_Jxa1e45_init_da8c8 : GoodIn wsJxc12de_init_da8c8 wsJxa1e45_init_da8c8 := goodIn_r _ [5, 6, 7, 8] (by decide +kernel) (by decide +kernel)
set_option maxRecDepth 20000 in
theorem gJxc12de_init_da8c8_Jxa1e45_init_da8c8 : GoodIn wsJxc12de_init_da8c8 (wsJxa1e45_init_da8c8) := ggJxc12de_init_da8c8_Jxa1e45_init_da8c8
theorem dJxc12de_init_da8c8_0 : decode cJxc12de_init_da8c8 0 = .ok (.aload_n 0, 1) := by decide +kernel
theorem dJxc12de_init_da8c8_1 : decode cJxc12de_init_da8c8 1 = .ok (.invokespecial 1, 3) := by decide +kernel
theorem dJxc12de_init_da8c8_4 : decode cJxc12de_init_da8c8 4 = .ok (.aload_n 0, 1) := by decide +kernel
theorem dJxc12de_init_da8c8_5 : decode cJxc12de_init_da8c8 5 = .ok (.iconst 0, 1) := by decide +kernel
theorem dJxc12de_init_da8c8_6 : decode cJxc12de_init_da8c8 6 = .ok (.putfield 7, 3) := by decide +kernel
theorem dJxc12de_init_da8c8_9 : decode cJxc12de_init_da8c8 9 = .ok (.return_, 1) := by decide +kernel
set_option maxRecDepth 20000 in
theorem ggJx4a65c_init_da8c8_Jxc12de_init_da8c8 : GoodIn wsJx4a65c_init_da8c8 wsJxc12de_init_da8c8 := goodIn_r _ [6, 7, 8, 9, 10, 11, 12, 13, 14, 15, 16, 17] (by decide +kernel) (by decide +kernel)
set_option maxRecDepth 20000 in
theorem gJx4a65c_init_da8c8_Jxc12de_init_da8c8 : GoodIn wsJx4a65c_init_da8c8 (wsJxc12de_init_da8c8) := ggJx4a65c_init_da8c8_Jxc12de_init_da8c8
theorem dJx4a65c_init_da8c8_0 : decode cJx4a65c_init_da8c8 0 = .ok (.aload_n 0, 1) := by decide +kernel
theorem dJx4a65c_init_da8c8_1 : decode cJx4a65c_init_da8c8 1 = .ok (.invokespecial 1, 3) := by decide +kernel
theorem dJx4a65c_init_da8c8_4 : decode cJx4a65c_init_da8c8 4 = .ok (.aload_n 0, 1) := by decide +kernel
theorem dJx4a65c_init_da8c8_5 : decode cJx4a65c_init_da8c8 5 = .ok (.getstatic 39, 3) := by decide +kernel
theorem dJx4a65c_init_da8c8_8 : decode cJx4a65c_init_da8c8 8 = .ok (.putfield 9, 3) := by decide +kernel
theorem dJx4a65c_init_da8c8_11 : decode cJx4a65c_init_da8c8 11 = .ok (.return_, 1) := by decide +kernel
set_option maxRecDepth 20000 in
theorem ggJx4a65c_grow_92f84_J8_newLength_cabcc : GoodIn wsJx4a65c_grow_92f84 wsJ8_newLength_cabcc := goodIn_r _ [11, 12, 4, 5, 6, 13, 14, 15, 10, 16] (by decide +kernel) (by decide +kernel)
set_option maxRecDepth 20000 in
theorem gJx4a65c_grow_92f84_J8_newLength_cabcc : GoodIn wsJx4a65c_grow_92f84 (va_wsS RJx4a65c 73 yJ8_newLength_cabcc wsJ8_newLength_cabcc) := goodIn_app (goodIn_of _ (by decide +kernel)) ggJx4a65c_grow_92f84_J8_newLength_cabcc
set_option maxRecDepth 20000 in
theorem ggJx4a65c_grow_92f84_J7_copyOf_1904c : GoodIn wsJx4a65c_grow_92f84 wsJ7_copyOf_1904c := goodIn_r _ [20, 21, 22, 23, 24, 25, 26, 19, 27, 28, 29, 30, 31, 5, 32, 33, 34, 35, 36] (by decide +kernel) (by decide +kernel)
set_option maxRecDepth 20000 in
theorem gJx4a65c_grow_92f84_J7_copyOf_1904c : GoodIn wsJx4a65c_grow_92f84 (va_wsS RJx4a65c 66 yJ7_copyOf_1904c wsJ7_copyOf_1904c) := goodIn_app (goodIn_of _ (by decide +kernel)) ggJx4a65c_grow_92f84_J7_copyOf_1904c
theorem dJx4a65c_grow_92f84_0 : decode cJx4a65c_grow_92f84 0 = .ok (.aload_n 0, 1) := by decide +kernel
theorem dJx4a65c_grow_92f84_1 : decode cJx4a65c_grow_92f84 1 = .ok (.getfield 9, 3) := by decide +kernel
theorem dJx4a65c_grow_92f84_4 : decode cJx4a65c_grow_92f84 4 = .ok (.arraylength, 1) := by decide +kernel
theorem dJx4a65c_grow_92f84_5 : decode cJx4a65c_grow_92f84 5 = .ok (.istore_n 2, 1) := by decide +kernel
theorem dJx4a65c_grow_92f84_6 : decode cJx4a65c_grow_92f84 6 = .ok (.iload_n 2, 1) := by decide +kernel
theorem dJx4a65c_grow_92f84_7 : decode cJx4a65c_grow_92f84 7 = .ok (.ifCond .gt 13, 3) := by decide +kernel
theorem dJx4a65c_grow_92f84_10 : decode cJx4a65c_grow_92f84 10 = .ok (.aload_n 0, 1) := by decide +kernel
theorem dJx4a65c_grow_92f84_11 : decode cJx4a65c_grow_92f84 11 = .ok (.getfield 9, 3) := by decide +kernel
theorem dJx4a65c_grow_92f84_14 : decode cJx4a65c_grow_92f84 14 = .ok (.getstatic 39, 3) := by decide +kernel
theorem dJx4a65c_grow_92f84_17 : decode cJx4a65c_grow_92f84 17 = .ok (.if_acmp .eq 28, 3) := by decide +kernel
theorem dJx4a65c_grow_92f84_20 : decode cJx4a65c_grow_92f84 20 = .ok (.iload_n 2, 1) := by decide +kernel
theorem dJx4a65c_grow_92f84_21 : decode cJx4a65c_grow_92f84 21 = .ok (.iload_n 1, 1) := by decide +kernel
theorem dJx4a65c_grow_92f84_22 : decode cJx4a65c_grow_92f84 22 = .ok (.iload_n 2, 1) := by decide +kernel
theorem dJx4a65c_grow_92f84_23 : decode cJx4a65c_grow_92f84 23 = .ok (.isub, 1) := by decide +kernel
theorem dJx4a65c_grow_92f84_24 : decode cJx4a65c_grow_92f84 24 = .ok (.iload_n 2, 1) := by decide +kernel
theorem dJx4a65c_grow_92f84_25 : decode cJx4a65c_grow_92f84 25 = .ok (.iconst 1, 1) := by decide +kernel
theorem dJx4a65c_grow_92f84_26 : decode cJx4a65c_grow_92f84 26 = .ok (.ishr, 1) := by decide +kernel
theorem dJx4a65c_grow_92f84_27 : decode cJx4a65c_grow_92f84 27 = .ok (.invokestatic 73, 3) := by decide +kernel
theorem dJx4a65c_grow_92f84_30 : decode cJx4a65c_grow_92f84 30 = .ok (.istore_n 3, 1) := by decide +kernel
theorem dJx4a65c_grow_92f84_31 : decode cJx4a65c_grow_92f84 31 = .ok (.aload_n 0, 1) := by decide +kernel
theorem dJx4a65c_grow_92f84_32 : decode cJx4a65c_grow_92f84 32 = .ok (.aload_n 0, 1) := by decide +kernel
theorem dJx4a65c_grow_92f84_33 : decode cJx4a65c_grow_92f84 33 = .ok (.getfield 9, 3) := by decide +kernel
theorem dJx4a65c_grow_92f84_36 : decode cJx4a65c_grow_92f84 36 = .ok (.iload_n 3, 1) := by decide +kernel
theorem dJx4a65c_grow_92f84_37 : decode cJx4a65c_grow_92f84 37 = .ok (.invokestatic 66, 3) := by decide +kernel
theorem dJx4a65c_grow_92f84_40 : decode cJx4a65c_grow_92f84 40 = .ok (.dup_x1, 1) := by decide +kernel
theorem dJx4a65c_grow_92f84_41 : decode cJx4a65c_grow_92f84 41 = .ok (.putfield 9, 3) := by decide +kernel
theorem dJx4a65c_grow_92f84_44 : decode cJx4a65c_grow_92f84 44 = .ok (.areturn, 1) := by decide +kernel
theorem dJx4a65c_grow_92f84_45 : decode cJx4a65c_grow_92f84 45 = .ok (.aload_n 0, 1) := by decide +kernel
theorem dJx4a65c_grow_92f84_46 : decode cJx4a65c_grow_92f84 46 = .ok (.bipush 10, 2) := by decide +kernel
theorem dJx4a65c_grow_92f84_48 : decode cJx4a65c_grow_92f84 48 = .ok (.iload_n 1, 1) := by decide +kernel
theorem dJx4a65c_grow_92f84_49 : decode cJx4a65c_grow_92f84 49 = .ok (.invokestatic 79, 3) := by decide +kernel
theorem dJx4a65c_grow_92f84_52 : decode cJx4a65c_grow_92f84 52 = .ok (.anewarray 7, 3) := by decide +kernel
theorem dJx4a65c_grow_92f84_55 : decode cJx4a65c_grow_92f84 55 = .ok (.dup_x1, 1) := by decide +kernel
theorem dJx4a65c_grow_92f84_56 : decode cJx4a65c_grow_92f84 56 = .ok (.putfield 9, 3) := by decide +kernel
theorem dJx4a65c_grow_92f84_59 : decode cJx4a65c_grow_92f84 59 = .ok (.areturn, 1) := by decide +kernel
set_option maxRecDepth 20000 in
theorem ggJx4a65c_grow_d5877_Jx4a65c_grow_92f84 : GoodIn wsJx4a65c_grow_d5877 wsJx4a65c_grow_92f84 := goodIn_r _ [6, 7, 8, 9, 10, 11, 12, 13, 14, 15, 16, 17, 18, 19, 20, 21, 22, 23, 24, 25, 26, 27, 28, 29, 30, 31, 32, 33, 34, 35, 36, 37, 38, 39, 40, 41, 42, 43, 44, 45] (by decide +kernel) (by decide +kernel)
set_option maxRecDepth 20000 in
theorem gJx4a65c_grow_d5877_Jx4a65c_grow_92f84 : GoodIn wsJx4a65c_grow_d5877 (wsV RJx4a65c 69 RJx4a65c yJx4a65c_grow_92f84 wsJx4a65c_grow_92f84) := goodIn_app (goodIn_of _ (by decide +kernel)) ggJx4a65c_grow_d5877_Jx4a65c_grow_92f84
theorem dJx4a65c_grow_d5877_0 : decode cJx4a65c_grow_d5877 0 = .ok (.aload_n 0, 1) := by decide +kernel
theorem dJx4a65c_grow_d5877_1 : decode cJx4a65c_grow_d5877 1 = .ok (.aload_n 0, 1) := by decide +kernel
theorem dJx4a65c_grow_d5877_2 : decode cJx4a65c_grow_d5877 2 = .ok (.getfield 48, 3) := by decide +kernel
theorem dJx4a65c_grow_d5877_5 : decode cJx4a65c_grow_d5877 5 = .ok (.iconst 1, 1) := by decide +kernel
theorem dJx4a65c_grow_d5877_6 : decode cJx4a65c_grow_d5877 6 = .ok (.iadd, 1) := by decide +kernel
theorem dJx4a65c_grow_d5877_7 : decode cJx4a65c_grow_d5877 7 = .ok (.invokevirtual 69, 3) := by decide +kernel
theorem dJx4a65c_grow_d5877_10 : decode cJx4a65c_grow_d5877 10 = .ok (.areturn, 1) := by decide +kernel
theorem dJx4a65c_size_8abf5_0 : decode cJx4a65c_size_8abf5 0 = .ok (.aload_n 0, 1) := by decide +kernel
theorem dJx4a65c_size_8abf5_1 : decode cJx4a65c_size_8abf5 1 = .ok (.getfield 48, 3) := by decide +kernel
theorem dJx4a65c_size_8abf5_4 : decode cJx4a65c_size_8abf5 4 = .ok (.ireturn, 1) := by decide +kernel
theorem dJx4a65c_elementData_915e3_0 : decode cJx4a65c_elementData_915e3 0 = .ok (.aload_n 0, 1) := by decide +kernel
theorem dJx4a65c_elementData_915e3_1 : decode cJx4a65c_elementData_915e3 1 = .ok (.getfield 9, 3) := by decide +kernel
theorem dJx4a65c_elementData_915e3_4 : decode cJx4a65c_elementData_915e3 4 = .ok (.iload_n 1, 1) := by decide +kernel
theorem dJx4a65c_elementData_915e3_5 : decode cJx4a65c_elementData_915e3 5 = .ok (.aaload, 1) := by decide +kernel
theorem dJx4a65c_elementData_915e3_6 : decode cJx4a65c_elementData_915e3 6 = .ok (.areturn, 1) := by decide +kernel
set_option maxRecDepth 20000 in
theorem ggJx4a65c_get_915e3_J15_checkIndex_7cf53 : GoodIn wsJx4a65c_get_915e3 wsJ15_checkIndex_7cf53 := goodIn_r _ [5, 6, 7, 8, 9] (by decide +kernel) (by decide +kernel)
set_option maxRecDepth 20000 in
theorem gJx4a65c_get_915e3_J15_checkIndex_7cf53 : GoodIn wsJx4a65c_get_915e3 (va_wsS RJx4a65c 118 yJ15_checkIndex_7cf53 wsJ15_checkIndex_7cf53) := goodIn_app (goodIn_of _ (by decide +kernel)) ggJx4a65c_get_915e3_J15_checkIndex_7cf53
set_option maxRecDepth 20000 in
theorem ggJx4a65c_get_915e3_Jx4a65c_elementData_915e3 : GoodIn wsJx4a65c_get_915e3 wsJx4a65c_elementData_915e3 := goodIn_r _ [14, 15, 16, 17, 18] (by decide +kernel) (by decide +kernel)
set_option maxRecDepth 20000 in
theorem gJx4a65c_get_915e3_Jx4a65c_elementData_915e3 : GoodIn wsJx4a65c_get_915e3 (wsV RJx4a65c 123 RJx4a65c yJx4a65c_elementData_915e3 wsJx4a65c_elementData_915e3) := goodIn_app (goodIn_of _ (by decide +kernel)) ggJx4a65c_get_915e3_Jx4a65c_elementData_915e3
theorem dJx4a65c_get_915e3_0 : decode cJx4a65c_get_915e3 0 = .ok (.iload_n 1, 1) := by decide +kernel
theorem dJx4a65c_get_915e3_1 : decode cJx4a65c_get_915e3 1 = .ok (.aload_n 0, 1) := by decide +kernel
theorem dJx4a65c_get_915e3_2 : decode cJx4a65c_get_915e3 2 = .ok (.getfield 48, 3) := by decide +kernel
theorem dJx4a65c_get_915e3_5 : decode cJx4a65c_get_915e3 5 = .ok (.invokestatic 118, 3) := by decide +kernel
theorem dJx4a65c_get_915e3_8 : decode cJx4a65c_get_915e3 8 = .ok (.pop, 1) := by decide +kernel
theorem dJx4a65c_get_915e3_9 : decode cJx4a65c_get_915e3 9 = .ok (.aload_n 0, 1) := by decide +kernel
theorem dJx4a65c_get_915e3_10 : decode cJx4a65c_get_915e3 10 = .ok (.iload_n 1, 1) := by decide +kernel
theorem dJx4a65c_get_915e3_11 : decode cJx4a65c_get_915e3 11 = .ok (.invokevirtual 123, 3) := by decide +kernel
theorem dJx4a65c_get_915e3_14 : decode cJx4a65c_get_915e3 14 = .ok (.areturn, 1) := by decide +kernel
set_option maxRecDepth 20000 in
theorem ggJx4a65c_add_7a177_Jx4a65c_rangeCheckForAdd_d00df : GoodIn wsJx4a65c_add_7a177 wsJx4a65c_rangeCheckForAdd_d00df := goodIn_r _ [13, 3, 54, 55, 56] (by decide +kernel) (by decide +kernel)
set_option maxRecDepth 20000 in
theorem gJx4a65c_add_7a177_Jx4a65c_rangeCheckForAdd_d00df : GoodIn wsJx4a65c_add_7a177 (wsV RJx4a65c 135 RJx4a65c yJx4a65c_rangeCheckForAdd_d00df wsJx4a65c_rangeCheckForAdd_d00df) := goodIn_app (goodIn_of _ (by decide +kernel)) ggJx4a65c_add_7a177_Jx4a65c_rangeCheckForAdd_d00df
set_option maxRecDepth 20000 in
theorem ggJx4a65c_add_7a177_Jx4a65c_grow_d5877 : GoodIn wsJx4a65c_add_7a177 wsJx4a65c_grow_d5877 := goodIn_r _ [17, 3, 18, 19, 20, 12, 21, 4, 22, 23, 24, 25, 26, 27, 28, 29, 30, 31, 32, 33, 34, 35, 36, 37, 38, 39, 40, 41, 42, 43, 44, 45, 46, 47, 48, 49, 50, 51, 52, 53, 6, 7, 8, 54, 55, 56] (by decide +kernel) (by decide +kernel)
set_option maxRecDepth 20000 in
theorem gJx4a65c_add_7a177_Jx4a65c_grow_d5877 : GoodIn wsJx4a65c_add_7a177 (wsV RJx4a65c 129 RJx4a65c yJx4a65c_grow_d5877 wsJx4a65c_grow_d5877) := goodIn_app (goodIn_of _ (by decide +kernel)) ggJx4a65c_add_7a177_Jx4a65c_grow_d5877
theorem dJx4a65c_add_7a177_0 : decode cJx4a65c_add_7a177 0 = .ok (.aload_n 0, 1) := by decide +kernel
theorem dJx4a65c_add_7a177_1 : decode cJx4a65c_add_7a177 1 = .ok (.iload_n 1, 1) := by decide +kernel
theorem dJx4a65c_add_7a177_2 : decode cJx4a65c_add_7a177 2 = .ok (.invokevirtual 135, 3) := by decide +kernel
theorem dJx4a65c_add_7a177_5 : decode cJx4a65c_add_7a177 5 = .ok (.aload_n 0, 1) := by decide +kernel
theorem dJx4a65c_add_7a177_6 : decode cJx4a65c_add_7a177 6 = .ok (.dup, 1) := by decide +kernel
theorem dJx4a65c_add_7a177_7 : decode cJx4a65c_add_7a177 7 = .ok (.getfield 63, 3) := by decide +kernel
theorem dJx4a65c_add_7a177_10 : decode cJx4a65c_add_7a177 10 = .ok (.iconst 1, 1) := by decide +kernel
theorem dJx4a65c_add_7a177_11 : decode cJx4a65c_add_7a177 11 = .ok (.iadd, 1) := by decide +kernel
theorem dJx4a65c_add_7a177_12 : decode cJx4a65c_add_7a177 12 = .ok (.putfield 63, 3) := by decide +kernel
theorem dJx4a65c_add_7a177_15 : decode cJx4a65c_add_7a177 15 = .ok (.aload_n 0, 1) := by decide +kernel
theorem dJx4a65c_add_7a177_16 : decode cJx4a65c_add_7a177 16 = .ok (.getfield 48, 3) := by decide +kernel
theorem dJx4a65c_add_7a177_19 : decode cJx4a65c_add_7a177 19 = .ok (.dup, 1) := by decide +kernel
theorem dJx4a65c_add_7a177_20 : decode cJx4a65c_add_7a177 20 = .ok (.istore_n 3, 1) := by decide +kernel
theorem dJx4a65c_add_7a177_21 : decode cJx4a65c_add_7a177 21 = .ok (.aload_n 0, 1) := by decide +kernel
theorem dJx4a65c_add_7a177_22 : decode cJx4a65c_add_7a177 22 = .ok (.getfield 9, 3) := by decide +kernel
theorem dJx4a65c_add_7a177_25 : decode cJx4a65c_add_7a177 25 = .ok (.dup, 1) := by decide +kernel
theorem dJx4a65c_add_7a177_26 : decode cJx4a65c_add_7a177 26 = .ok (.astore 4, 2) := by decide +kernel
theorem dJx4a65c_add_7a177_28 : decode cJx4a65c_add_7a177 28 = .ok (.arraylength, 1) := by decide +kernel
theorem dJx4a65c_add_7a177_29 : decode cJx4a65c_add_7a177 29 = .ok (.if_icmp .ne 9, 3) := by decide +kernel
theorem dJx4a65c_add_7a177_32 : decode cJx4a65c_add_7a177 32 = .ok (.aload_n 0, 1) := by decide +kernel
theorem dJx4a65c_add_7a177_33 : decode cJx4a65c_add_7a177 33 = .ok (.invokevirtual 129, 3) := by decide +kernel
theorem dJx4a65c_add_7a177_36 : decode cJx4a65c_add_7a177 36 = .ok (.astore 4, 2) := by decide +kernel
theorem dJx4a65c_add_7a177_38 : decode cJx4a65c_add_7a177 38 = .ok (.aload 4, 2) := by decide +kernel
theorem dJx4a65c_add_7a177_40 : decode cJx4a65c_add_7a177 40 = .ok (.iload_n 1, 1) := by decide +kernel
theorem dJx4a65c_add_7a177_41 : decode cJx4a65c_add_7a177 41 = .ok (.aload 4, 2) := by decide +kernel
theorem dJx4a65c_add_7a177_43 : decode cJx4a65c_add_7a177 43 = .ok (.iload_n 1, 1) := by decide +kernel
theorem dJx4a65c_add_7a177_44 : decode cJx4a65c_add_7a177 44 = .ok (.iconst 1, 1) := by decide +kernel
theorem dJx4a65c_add_7a177_45 : decode cJx4a65c_add_7a177 45 = .ok (.iadd, 1) := by decide +kernel
theorem dJx4a65c_add_7a177_46 : decode cJx4a65c_add_7a177 46 = .ok (.iload_n 3, 1) := by decide +kernel
theorem dJx4a65c_add_7a177_47 : decode cJx4a65c_add_7a177 47 = .ok (.iload_n 1, 1) := by decide +kernel
theorem dJx4a65c_add_7a177_48 : decode cJx4a65c_add_7a177 48 = .ok (.isub, 1) := by decide +kernel
theorem dJx4a65c_add_7a177_49 : decode cJx4a65c_add_7a177 49 = .ok (.invokestatic 112, 3) := by decide +kernel
theorem dJx4a65c_add_7a177_52 : decode cJx4a65c_add_7a177 52 = .ok (.aload 4, 2) := by decide +kernel
theorem dJx4a65c_add_7a177_54 : decode cJx4a65c_add_7a177 54 = .ok (.iload_n 1, 1) := by decide +kernel
theorem dJx4a65c_add_7a177_55 : decode cJx4a65c_add_7a177 55 = .ok (.aload_n 2, 1) := by decide +kernel
theorem dJx4a65c_add_7a177_56 : decode cJx4a65c_add_7a177 56 = .ok (.aastore, 1) := by decide +kernel
theorem dJx4a65c_add_7a177_57 : decode cJx4a65c_add_7a177 57 = .ok (.aload_n 0, 1) := by decide +kernel
theorem dJx4a65c_add_7a177_58 : decode cJx4a65c_add_7a177 58 = .ok (.iload_n 3, 1) := by decide +kernel
theorem dJx4a65c_add_7a177_59 : decode cJx4a65c_add_7a177 59 = .ok (.iconst 1, 1) := by decide +kernel
theorem dJx4a65c_add_7a177_60 : decode cJx4a65c_add_7a177 60 = .ok (.iadd, 1) := by decide +kernel
theorem dJx4a65c_add_7a177_61 : decode cJx4a65c_add_7a177 61 = .ok (.putfield 48, 3) := by decide +kernel
theorem dJx4a65c_add_7a177_64 : decode cJx4a65c_add_7a177 64 = .ok (.return_, 1) := by decide +kernel
set_option maxRecDepth 20000 in
theorem ggJx4a65c_remove_915e3_J15_checkIndex_7cf53 : GoodIn wsJx4a65c_remove_915e3 wsJ15_checkIndex_7cf53 := goodIn_r _ [6, 7, 8, 9, 10] (by decide +kernel) (by decide +kernel)
set_option maxRecDepth 20000 in
theorem gJx4a65c_remove_915e3_J15_checkIndex_7cf53 : GoodIn wsJx4a65c_remove_915e3 (va_wsS RJx4a65c 118 yJ15_checkIndex_7cf53 wsJ15_checkIndex_7cf53) := goodIn_app (goodIn_of _ (by decide +kernel)) ggJx4a65c_remove_915e3_J15_checkIndex_7cf53
set_option maxRecDepth 20000 in
theorem ggJx4a65c_remove_915e3_Jx4a65c_fastRemove_b59b0 : GoodIn wsJx4a65c_remove_915e3 wsJx4a65c_fastRemove_b59b0 := goodIn_r _ [15, 16, 17, 1, 18, 19, 20, 21, 22, 23, 24] (by decide +kernel) (by decide +kernel)
set_option maxRecDepth 20000 in
theorem gJx4a65c_remove_915e3_Jx4a65c_fastRemove_b59b0 : GoodIn wsJx4a65c_remove_915e3 (wsV RJx4a65c 144 RJx4a65c yJx4a65c_fastRemove_b59b0 wsJx4a65c_fastRemove_b59b0) := goodIn_app (goodIn_of _ (by decide +kernel)) ggJx4a65c_remove_915e3_Jx4a65c_fastRemove_b59b0
theorem dJx4a65c_remove_915e3_0 : decode cJx4a65c_remove_915e3 0 = .ok (.iload_n 1, 1) := by decide +kernel
theorem dJx4a65c_remove_915e3_1 : decode cJx4a65c_remove_915e3 1 = .ok (.aload_n 0, 1) := by decide +kernel
theorem dJx4a65c_remove_915e3_2 : decode cJx4a65c_remove_915e3 2 = .ok (.getfield 48, 3) := by decide +kernel
theorem dJx4a65c_remove_915e3_5 : decode cJx4a65c_remove_915e3 5 = .ok (.invokestatic 118, 3) := by decide +kernel
theorem dJx4a65c_remove_915e3_8 : decode cJx4a65c_remove_915e3 8 = .ok (.pop, 1) := by decide +kernel
theorem dJx4a65c_remove_915e3_9 : decode cJx4a65c_remove_915e3 9 = .ok (.aload_n 0, 1) := by decide +kernel
theorem dJx4a65c_remove_915e3_10 : decode cJx4a65c_remove_915e3 10 = .ok (.getfield 9, 3) := by decide +kernel
theorem dJx4a65c_remove_915e3_13 : decode cJx4a65c_remove_915e3 13 = .ok (.astore_n 2, 1) := by decide +kernel
theorem dJx4a65c_remove_915e3_14 : decode cJx4a65c_remove_915e3 14 = .ok (.aload_n 2, 1) := by decide +kernel
theorem dJx4a65c_remove_915e3_15 : decode cJx4a65c_remove_915e3 15 = .ok (.iload_n 1, 1) := by decide +kernel
theorem dJx4a65c_remove_915e3_16 : decode cJx4a65c_remove_915e3 16 = .ok (.aaload, 1) := by decide +kernel
theorem dJx4a65c_remove_915e3_17 : decode cJx4a65c_remove_915e3 17 = .ok (.astore_n 3, 1) := by decide +kernel
theorem dJx4a65c_remove_915e3_18 : decode cJx4a65c_remove_915e3 18 = .ok (.aload_n 0, 1) := by decide +kernel
theorem dJx4a65c_remove_915e3_19 : decode cJx4a65c_remove_915e3 19 = .ok (.aload_n 2, 1) := by decide +kernel
theorem dJx4a65c_remove_915e3_20 : decode cJx4a65c_remove_915e3 20 = .ok (.iload_n 1, 1) := by decide +kernel
theorem dJx4a65c_remove_915e3_21 : decode cJx4a65c_remove_915e3 21 = .ok (.invokevirtual 144, 3) := by decide +kernel
theorem dJx4a65c_remove_915e3_24 : decode cJx4a65c_remove_915e3 24 = .ok (.aload_n 3, 1) := by decide +kernel
theorem dJx4a65c_remove_915e3_25 : decode cJx4a65c_remove_915e3 25 = .ok (.areturn, 1) := by decide +kernel
theorem dJx4a65c_fastRemove_b59b0_0 : decode cJx4a65c_fastRemove_b59b0 0 = .ok (.aload_n 0, 1) := by decide +kernel
theorem dJx4a65c_fastRemove_b59b0_1 : decode cJx4a65c_fastRemove_b59b0 1 = .ok (.dup, 1) := by decide +kernel
theorem dJx4a65c_fastRemove_b59b0_2 : decode cJx4a65c_fastRemove_b59b0 2 = .ok (.getfield 63, 3) := by decide +kernel
theorem dJx4a65c_fastRemove_b59b0_5 : decode cJx4a65c_fastRemove_b59b0 5 = .ok (.iconst 1, 1) := by decide +kernel
theorem dJx4a65c_fastRemove_b59b0_6 : decode cJx4a65c_fastRemove_b59b0 6 = .ok (.iadd, 1) := by decide +kernel
theorem dJx4a65c_fastRemove_b59b0_7 : decode cJx4a65c_fastRemove_b59b0 7 = .ok (.putfield 63, 3) := by decide +kernel
theorem dJx4a65c_fastRemove_b59b0_10 : decode cJx4a65c_fastRemove_b59b0 10 = .ok (.aload_n 0, 1) := by decide +kernel
theorem dJx4a65c_fastRemove_b59b0_11 : decode cJx4a65c_fastRemove_b59b0 11 = .ok (.getfield 48, 3) := by decide +kernel
theorem dJx4a65c_fastRemove_b59b0_14 : decode cJx4a65c_fastRemove_b59b0 14 = .ok (.iconst 1, 1) := by decide +kernel
theorem dJx4a65c_fastRemove_b59b0_15 : decode cJx4a65c_fastRemove_b59b0 15 = .ok (.isub, 1) := by decide +kernel
theorem dJx4a65c_fastRemove_b59b0_16 : decode cJx4a65c_fastRemove_b59b0 16 = .ok (.dup, 1) := by decide +kernel
theorem dJx4a65c_fastRemove_b59b0_17 : decode cJx4a65c_fastRemove_b59b0 17 = .ok (.istore_n 3, 1) := by decide +kernel
theorem dJx4a65c_fastRemove_b59b0_18 : decode cJx4a65c_fastRemove_b59b0 18 = .ok (.iload_n 2, 1) := by decide +kernel
theorem dJx4a65c_fastRemove_b59b0_19 : decode cJx4a65c_fastRemove_b59b0 19 = .ok (.if_icmp .le 15, 3) := by decide +kernel
theorem dJx4a65c_fastRemove_b59b0_22 : decode cJx4a65c_fastRemove_b59b0 22 = .ok (.aload_n 1, 1) := by decide +kernel
theorem dJx4a65c_fastRemove_b59b0_23 : decode cJx4a65c_fastRemove_b59b0 23 = .ok (.iload_n 2, 1) := by decide +kernel
theorem dJx4a65c_fastRemove_b59b0_24 : decode cJx4a65c_fastRemove_b59b0 24 = .ok (.iconst 1, 1) := by decide +kernel
theorem dJx4a65c_fastRemove_b59b0_25 : decode cJx4a65c_fastRemove_b59b0 25 = .ok (.iadd, 1) := by decide +kernel
theorem dJx4a65c_fastRemove_b59b0_26 : decode cJx4a65c_fastRemove_b59b0 26 = .ok (.aload_n 1, 1) := by decide +kernel
theorem dJx4a65c_fastRemove_b59b0_27 : decode cJx4a65c_fastRemove_b59b0 27 = .ok (.iload_n 2, 1) := by decide +kernel
theorem dJx4a65c_fastRemove_b59b0_28 : decode cJx4a65c_fastRemove_b59b0 28 = .ok (.iload_n 3, 1) := by decide +kernel
theorem dJx4a65c_fastRemove_b59b0_29 : decode cJx4a65c_fastRemove_b59b0 29 = .ok (.iload_n 2, 1) := by decide +kernel
theorem dJx4a65c_fastRemove_b59b0_30 : decode cJx4a65c_fastRemove_b59b0 30 = .ok (.isub, 1) := by decide +kernel
theorem dJx4a65c_fastRemove_b59b0_31 : decode cJx4a65c_fastRemove_b59b0 31 = .ok (.invokestatic 112, 3) := by decide +kernel
theorem dJx4a65c_fastRemove_b59b0_34 : decode cJx4a65c_fastRemove_b59b0 34 = .ok (.aload_n 1, 1) := by decide +kernel
theorem dJx4a65c_fastRemove_b59b0_35 : decode cJx4a65c_fastRemove_b59b0 35 = .ok (.aload_n 0, 1) := by decide +kernel
theorem dJx4a65c_fastRemove_b59b0_36 : decode cJx4a65c_fastRemove_b59b0 36 = .ok (.iload_n 3, 1) := by decide +kernel
theorem dJx4a65c_fastRemove_b59b0_37 : decode cJx4a65c_fastRemove_b59b0 37 = .ok (.dup_x1, 1) := by decide +kernel
theorem dJx4a65c_fastRemove_b59b0_38 : decode cJx4a65c_fastRemove_b59b0 38 = .ok (.putfield 48, 3) := by decide +kernel
theorem dJx4a65c_fastRemove_b59b0_41 : decode cJx4a65c_fastRemove_b59b0 41 = .ok (.aconst_null, 1) := by decide +kernel
theorem dJx4a65c_fastRemove_b59b0_42 : decode cJx4a65c_fastRemove_b59b0 42 = .ok (.aastore, 1) := by decide +kernel
theorem dJx4a65c_fastRemove_b59b0_43 : decode cJx4a65c_fastRemove_b59b0 43 = .ok (.return_, 1) := by decide +kernel
theorem dJx4a65c_rangeCheckForAdd_d00df_0 : decode cJx4a65c_rangeCheckForAdd_d00df 0 = .ok (.iload_n 1, 1) := by decide +kernel
theorem dJx4a65c_rangeCheckForAdd_d00df_1 : decode cJx4a65c_rangeCheckForAdd_d00df 1 = .ok (.aload_n 0, 1) := by decide +kernel
theorem dJx4a65c_rangeCheckForAdd_d00df_2 : decode cJx4a65c_rangeCheckForAdd_d00df 2 = .ok (.getfield 48, 3) := by decide +kernel
theorem dJx4a65c_rangeCheckForAdd_d00df_5 : decode cJx4a65c_rangeCheckForAdd_d00df 5 = .ok (.if_icmp .gt 7, 3) := by decide +kernel
theorem dJx4a65c_rangeCheckForAdd_d00df_8 : decode cJx4a65c_rangeCheckForAdd_d00df 8 = .ok (.iload_n 1, 1) := by decide +kernel
theorem dJx4a65c_rangeCheckForAdd_d00df_9 : decode cJx4a65c_rangeCheckForAdd_d00df 9 = .ok (.ifCond .ge 16, 3) := by decide +kernel
theorem dJx4a65c_rangeCheckForAdd_d00df_12 : decode cJx4a65c_rangeCheckForAdd_d00df 12 = .ok (.new 187, 3) := by decide +kernel
theorem dJx4a65c_rangeCheckForAdd_d00df_15 : decode cJx4a65c_rangeCheckForAdd_d00df 15 = .ok (.dup, 1) := by decide +kernel
theorem dJx4a65c_rangeCheckForAdd_d00df_16 : decode cJx4a65c_rangeCheckForAdd_d00df 16 = .ok (.aload_n 0, 1) := by decide +kernel
theorem dJx4a65c_rangeCheckForAdd_d00df_17 : decode cJx4a65c_rangeCheckForAdd_d00df 17 = .ok (.iload_n 1, 1) := by decide +kernel
theorem dJx4a65c_rangeCheckForAdd_d00df_18 : decode cJx4a65c_rangeCheckForAdd_d00df 18 = .ok (.invokevirtual 198, 3) := by decide +kernel
theorem dJx4a65c_rangeCheckForAdd_d00df_21 : decode cJx4a65c_rangeCheckForAdd_d00df 21 = .ok (.invokespecial 193, 3) := by decide +kernel
theorem dJx4a65c_rangeCheckForAdd_d00df_24 : decode cJx4a65c_rangeCheckForAdd_d00df 24 = .ok (.athrow, 1) := by decide +kernel
theorem dJx4a65c_rangeCheckForAdd_d00df_25 : decode cJx4a65c_rangeCheckForAdd_d00df 25 = .ok (.return_, 1) := by decide +kernel
theorem dJ7_fill_53178_0 : decode cJ7_fill_53178 0 = .ok (.iconst 0, 1) := by decide +kernel
theorem dJ7_fill_53178_1 : decode cJ7_fill_53178 1 = .ok (.istore_n 2, 1) := by decide +kernel
theorem dJ7_fill_53178_2 : decode cJ7_fill_53178 2 = .ok (.aload_n 0, 1) := by decide +kernel
theorem dJ7_fill_53178_3 : decode cJ7_fill_53178 3 = .ok (.arraylength, 1) := by decide +kernel
theorem dJ7_fill_53178_4 : decode cJ7_fill_53178 4 = .ok (.istore_n 3, 1) := by decide +kernel
theorem dJ7_fill_53178_5 : decode cJ7_fill_53178 5 = .ok (.iload_n 2, 1) := by decide +kernel
theorem dJ7_fill_53178_6 : decode cJ7_fill_53178 6 = .ok (.iload_n 3, 1) := by decide +kernel
theorem dJ7_fill_53178_7 : decode cJ7_fill_53178 7 = .ok (.if_icmp .ge 13, 3) := by decide +kernel
theorem dJ7_fill_53178_10 : decode cJ7_fill_53178 10 = .ok (.aload_n 0, 1) := by decide +kernel
theorem dJ7_fill_53178_11 : decode cJ7_fill_53178 11 = .ok (.iload_n 2, 1) := by decide +kernel
theorem dJ7_fill_53178_12 : decode cJ7_fill_53178 12 = .ok (.iload_n 1, 1) := by decide +kernel
theorem dJ7_fill_53178_13 : decode cJ7_fill_53178 13 = .ok (.iastore, 1) := by decide +kernel
theorem dJ7_fill_53178_14 : decode cJ7_fill_53178 14 = .ok (.iinc 2 1, 3) := by decide +kernel
theorem dJ7_fill_53178_17 : decode cJ7_fill_53178 17 = .ok (.goto (-12), 3) := by decide +kernel
theorem dJ7_fill_53178_20 : decode cJ7_fill_53178 20 = .ok (.return_, 1) := by decide +kernel
set_option maxRecDepth 20000 in
theorem ggJ7_copyOf_1904c_J7_copyOf_6403c : GoodIn wsJ7_copyOf_1904c wsJ7_copyOf_6403c := goodIn_r _ [8, 9, 10, 11, 12, 13, 14, 15, 16, 17, 18] (by decide +kernel) (by decide +kernel)
set_option maxRecDepth 20000 in
theorem gJ7_copyOf_1904c_J7_copyOf_6403c : GoodIn wsJ7_copyOf_1904c (va_wsS RJ7 300 yJ7_copyOf_6403c wsJ7_copyOf_6403c) := goodIn_app (goodIn_of _ (by decide +kernel)) ggJ7_copyOf_1904c_J7_copyOf_6403c
theorem dJ7_copyOf_1904c_0 : decode cJ7_copyOf_1904c 0 = .ok (.aload_n 0, 1) := by decide +kernel
theorem dJ7_copyOf_1904c_1 : decode cJ7_copyOf_1904c 1 = .ok (.iload_n 1, 1) := by decide +kernel
theorem dJ7_copyOf_1904c_2 : decode cJ7_copyOf_1904c 2 = .ok (.aload_n 0, 1) := by decide +kernel
theorem dJ7_copyOf_1904c_3 : decode cJ7_copyOf_1904c 3 = .ok (.invokevirtual 86, 3) := by decide +kernel
theorem dJ7_copyOf_1904c_6 : decode cJ7_copyOf_1904c 6 = .ok (.invokestatic 300, 3) := by decide +kernel
theorem dJ7_copyOf_1904c_9 : decode cJ7_copyOf_1904c 9 = .ok (.areturn, 1) := by decide +kernel
theorem dJ7_copyOf_6403c_0 : decode cJ7_copyOf_6403c 0 = .ok (.aload_n 2, 1) := by decide +kernel
theorem dJ7_copyOf_6403c_1 : decode cJ7_copyOf_6403c 1 = .ok (.ldc 110, 2) := by decide +kernel
theorem dJ7_copyOf_6403c_3 : decode cJ7_copyOf_6403c 3 = .ok (.if_acmp .ne 10, 3) := by decide +kernel
theorem dJ7_copyOf_6403c_6 : decode cJ7_copyOf_6403c 6 = .ok (.iload_n 1, 1) := by decide +kernel
theorem dJ7_copyOf_6403c_7 : decode cJ7_copyOf_6403c 7 = .ok (.anewarray 2, 3) := by decide +kernel
theorem dJ7_copyOf_6403c_10 : decode cJ7_copyOf_6403c 10 = .ok (.goto 14, 3) := by decide +kernel
theorem dJ7_copyOf_6403c_13 : decode cJ7_copyOf_6403c 13 = .ok (.aload_n 2, 1) := by decide +kernel
theorem dJ7_copyOf_6403c_14 : decode cJ7_copyOf_6403c 14 = .ok (.invokevirtual 90, 3) := by decide +kernel
theorem dJ7_copyOf_6403c_17 : decode cJ7_copyOf_6403c 17 = .ok (.iload_n 1, 1) := by decide +kernel
theorem dJ7_copyOf_6403c_18 : decode cJ7_copyOf_6403c 18 = .ok (.invokestatic 95, 3) := by decide +kernel
theorem dJ7_copyOf_6403c_21 : decode cJ7_copyOf_6403c 21 = .ok (.checkcast 110, 3) := by decide +kernel
theorem dJ7_copyOf_6403c_24 : decode cJ7_copyOf_6403c 24 = .ok (.astore_n 3, 1) := by decide +kernel
theorem dJ7_copyOf_6403c_25 : decode cJ7_copyOf_6403c 25 = .ok (.aload_n 0, 1) := by decide +kernel
theorem dJ7_copyOf_6403c_26 : decode cJ7_copyOf_6403c 26 = .ok (.iconst 0, 1) := by decide +kernel
theorem dJ7_copyOf_6403c_27 : decode cJ7_copyOf_6403c 27 = .ok (.aload_n 3, 1) := by decide +kernel
theorem dJ7_copyOf_6403c_28 : decode cJ7_copyOf_6403c 28 = .ok (.iconst 0, 1) := by decide +kernel
theorem dJ7_copyOf_6403c_29 : decode cJ7_copyOf_6403c 29 = .ok (.aload_n 0, 1) := by decide +kernel
theorem dJ7_copyOf_6403c_30 : decode cJ7_copyOf_6403c 30 = .ok (.arraylength, 1) := by decide +kernel
theorem dJ7_copyOf_6403c_31 : decode cJ7_copyOf_6403c 31 = .ok (.iload_n 1, 1) := by decide +kernel
theorem dJ7_copyOf_6403c_32 : decode cJ7_copyOf_6403c 32 = .ok (.invokestatic 304, 3) := by decide +kernel
theorem dJ7_copyOf_6403c_35 : decode cJ7_copyOf_6403c 35 = .ok (.invokestatic 150, 3) := by decide +kernel
theorem dJ7_copyOf_6403c_38 : decode cJ7_copyOf_6403c 38 = .ok (.aload_n 3, 1) := by decide +kernel
theorem dJ7_copyOf_6403c_39 : decode cJ7_copyOf_6403c 39 = .ok (.areturn, 1) := by decide +kernel
set_option maxRecDepth 20000 in
theorem ggJ15_checkIndex_7cf53_J3_checkIndex_8e157 : GoodIn wsJ15_checkIndex_7cf53 wsJ3_checkIndex_8e157 := goodIn_r _ [4] (by decide +kernel) (by decide +kernel)
set_option maxRecDepth 20000 in
theorem gJ15_checkIndex_7cf53_J3_checkIndex_8e157 : GoodIn wsJ15_checkIndex_7cf53 (va_wsS RJ15 105 yJ3_checkIndex_8e157 wsJ3_checkIndex_8e157) := goodIn_app (goodIn_of _ (by decide +kernel)) ggJ15_checkIndex_7cf53_J3_checkIndex_8e157
theorem dJ15_checkIndex_7cf53_0 : decode cJ15_checkIndex_7cf53 0 = .ok (.iload_n 0, 1) := by decide +kernel
theorem dJ15_checkIndex_7cf53_1 : decode cJ15_checkIndex_7cf53 1 = .ok (.iload_n 1, 1) := by decide +kernel
theorem dJ15_checkIndex_7cf53_2 : decode cJ15_checkIndex_7cf53 2 = .ok (.aconst_null, 1) := by decide +kernel
theorem dJ15_checkIndex_7cf53_3 : decode cJ15_checkIndex_7cf53 3 = .ok (.invokestatic 105, 3) := by decide +kernel
theorem dJ15_checkIndex_7cf53_6 : decode cJ15_checkIndex_7cf53 6 = .ok (.ireturn, 1) := by decide +kernel
set_option maxRecDepth 20000 in
theorem ggJ8_newLength_cabcc_J8_hugeLength_7cf53 : GoodIn wsJ8_newLength_cabcc wsJ8_hugeLength_7cf53 := goodIn_r _ [9, 5] (by decide +kernel) (by decide +kernel)
set_option maxRecDepth 20000 in
theorem gJ8_newLength_cabcc_J8_hugeLength_7cf53 : GoodIn wsJ8_newLength_cabcc (va_wsS RJ8 201 yJ8_hugeLength_7cf53 wsJ8_hugeLength_7cf53) := goodIn_app (goodIn_of _ (by decide +kernel)) ggJ8_newLength_cabcc_J8_hugeLength_7cf53
theorem dJ8_newLength_cabcc_0 : decode cJ8_newLength_cabcc 0 = .ok (.iload_n 0, 1) := by decide +kernel
theorem dJ8_newLength_cabcc_1 : decode cJ8_newLength_cabcc 1 = .ok (.iload_n 1, 1) := by decide +kernel
theorem dJ8_newLength_cabcc_2 : decode cJ8_newLength_cabcc 2 = .ok (.iload_n 2, 1) := by decide +kernel
theorem dJ8_newLength_cabcc_3 : decode cJ8_newLength_cabcc 3 = .ok (.invokestatic 194, 3) := by decide +kernel
theorem dJ8_newLength_cabcc_6 : decode cJ8_newLength_cabcc 6 = .ok (.iadd, 1) := by decide +kernel
theorem dJ8_newLength_cabcc_7 : decode cJ8_newLength_cabcc 7 = .ok (.istore_n 3, 1) := by decide +kernel
theorem dJ8_newLength_cabcc_8 : decode cJ8_newLength_cabcc 8 = .ok (.iconst 0, 1) := by decide +kernel
theorem dJ8_newLength_cabcc_9 : decode cJ8_newLength_cabcc 9 = .ok (.iload_n 3, 1) := by decide +kernel
theorem dJ8_newLength_cabcc_10 : decode cJ8_newLength_cabcc 10 = .ok (.if_icmp .ge 11, 3) := by decide +kernel
theorem dJ8_newLength_cabcc_13 : decode cJ8_newLength_cabcc 13 = .ok (.iload_n 3, 1) := by decide +kernel
theorem dJ8_newLength_cabcc_14 : decode cJ8_newLength_cabcc 14 = .ok (.ldc 200, 2) := by decide +kernel
theorem dJ8_newLength_cabcc_16 : decode cJ8_newLength_cabcc 16 = .ok (.if_icmp .gt 5, 3) := by decide +kernel
theorem dJ8_newLength_cabcc_19 : decode cJ8_newLength_cabcc 19 = .ok (.iload_n 3, 1) := by decide +kernel
theorem dJ8_newLength_cabcc_20 : decode cJ8_newLength_cabcc 20 = .ok (.ireturn, 1) := by decide +kernel
theorem dJ8_newLength_cabcc_21 : decode cJ8_newLength_cabcc 21 = .ok (.iload_n 0, 1) := by decide +kernel
theorem dJ8_newLength_cabcc_22 : decode cJ8_newLength_cabcc 22 = .ok (.iload_n 1, 1) := by decide +kernel
theorem dJ8_newLength_cabcc_23 : decode cJ8_newLength_cabcc 23 = .ok (.invokestatic 201, 3) := by decide +kernel
theorem dJ8_newLength_cabcc_26 : decode cJ8_newLength_cabcc 26 = .ok (.ireturn, 1) := by decide +kernel
theorem dJ8_hugeLength_7cf53_0 : decode cJ8_hugeLength_7cf53 0 = .ok (.iload_n 0, 1) := by decide +kernel
theorem dJ8_hugeLength_7cf53_1 : decode cJ8_hugeLength_7cf53 1 = .ok (.iload_n 1, 1) := by decide +kernel
theorem dJ8_hugeLength_7cf53_2 : decode cJ8_hugeLength_7cf53 2 = .ok (.iadd, 1) := by decide +kernel
theorem dJ8_hugeLength_7cf53_3 : decode cJ8_hugeLength_7cf53 3 = .ok (.istore_n 2, 1) := by decide +kernel
theorem dJ8_hugeLength_7cf53_4 : decode cJ8_hugeLength_7cf53 4 = .ok (.iload_n 2, 1) := by decide +kernel
theorem dJ8_hugeLength_7cf53_5 : decode cJ8_hugeLength_7cf53 5 = .ok (.ifCond .ge 44, 3) := by decide +kernel
theorem dJ8_hugeLength_7cf53_8 : decode cJ8_hugeLength_7cf53 8 = .ok (.new 204, 3) := by decide +kernel
theorem dJ8_hugeLength_7cf53_11 : decode cJ8_hugeLength_7cf53 11 = .ok (.dup, 1) := by decide +kernel
theorem dJ8_hugeLength_7cf53_12 : decode cJ8_hugeLength_7cf53 12 = .ok (.new 89, 3) := by decide +kernel
theorem dJ8_hugeLength_7cf53_15 : decode cJ8_hugeLength_7cf53 15 = .ok (.dup, 1) := by decide +kernel
theorem dJ8_hugeLength_7cf53_16 : decode cJ8_hugeLength_7cf53 16 = .ok (.invokespecial 91, 3) := by decide +kernel
theorem dJ8_hugeLength_7cf53_19 : decode cJ8_hugeLength_7cf53 19 = .ok (.ldc 206, 2) := by decide +kernel
theorem dJ8_hugeLength_7cf53_21 : decode cJ8_hugeLength_7cf53 21 = .ok (.invokevirtual 94, 3) := by decide +kernel
theorem dJ8_hugeLength_7cf53_24 : decode cJ8_hugeLength_7cf53 24 = .ok (.iload_n 0, 1) := by decide +kernel
theorem dJ8_hugeLength_7cf53_25 : decode cJ8_hugeLength_7cf53 25 = .ok (.invokevirtual 98, 3) := by decide +kernel
theorem dJ8_hugeLength_7cf53_28 : decode cJ8_hugeLength_7cf53 28 = .ok (.ldc 208, 2) := by decide +kernel
theorem dJ8_hugeLength_7cf53_30 : decode cJ8_hugeLength_7cf53 30 = .ok (.invokevirtual 94, 3) := by decide +kernel
theorem dJ8_hugeLength_7cf53_33 : decode cJ8_hugeLength_7cf53 33 = .ok (.iload_n 1, 1) := by decide +kernel
theorem dJ8_hugeLength_7cf53_34 : decode cJ8_hugeLength_7cf53 34 = .ok (.invokevirtual 98, 3) := by decide +kernel
theorem dJ8_hugeLength_7cf53_37 : decode cJ8_hugeLength_7cf53 37 = .ok (.ldc 210, 2) := by decide +kernel
theorem dJ8_hugeLength_7cf53_39 : decode cJ8_hugeLength_7cf53 39 = .ok (.invokevirtual 94, 3) := by decide +kernel
theorem dJ8_hugeLength_7cf53_42 : decode cJ8_hugeLength_7cf53 42 = .ok (.invokevirtual 101, 3) := by decide +kernel
theorem dJ8_hugeLength_7cf53_45 : decode cJ8_hugeLength_7cf53 45 = .ok (.invokespecial 212, 3) := by decide +kernel
theorem dJ8_hugeLength_7cf53_48 : decode cJ8_hugeLength_7cf53 48 = .ok (.athrow, 1) := by decide +kernel
theorem dJ8_hugeLength_7cf53_49 : decode cJ8_hugeLength_7cf53 49 = .ok (.iload_n 2, 1) := by decide +kernel
theorem dJ8_hugeLength_7cf53_50 : decode cJ8_hugeLength_7cf53 50 = .ok (.ldc 200, 2) := by decide +kernel
theorem dJ8_hugeLength_7cf53_52 : decode cJ8_hugeLength_7cf53 52 = .ok (.if_icmp .gt 6, 3) := by decide +kernel
theorem dJ8_hugeLength_7cf53_55 : decode cJ8_hugeLength_7cf53 55 = .ok (.ldc 200, 2) := by decide +kernel
theorem dJ8_hugeLength_7cf53_57 : decode cJ8_hugeLength_7cf53 57 = .ok (.ireturn, 1) := by decide +kernel
theorem dJ8_hugeLength_7cf53_58 : decode cJ8_hugeLength_7cf53 58 = .ok (.iload_n 2, 1) := by decide +kernel
theorem dJ8_hugeLength_7cf53_59 : decode cJ8_hugeLength_7cf53 59 = .ok (.ireturn, 1) := by decide +kernel
theorem dJ3_checkIndex_8e157_0 : decode cJ3_checkIndex_8e157 0 = .ok (.iload_n 0, 1) := by decide +kernel
theorem dJ3_checkIndex_8e157_1 : decode cJ3_checkIndex_8e157 1 = .ok (.ifCond .lt 8, 3) := by decide +kernel
theorem dJ3_checkIndex_8e157_4 : decode cJ3_checkIndex_8e157 4 = .ok (.iload_n 0, 1) := by decide +kernel
theorem dJ3_checkIndex_8e157_5 : decode cJ3_checkIndex_8e157 5 = .ok (.iload_n 1, 1) := by decide +kernel
theorem dJ3_checkIndex_8e157_6 : decode cJ3_checkIndex_8e157 6 = .ok (.if_icmp .lt 10, 3) := by decide +kernel
theorem dJ3_checkIndex_8e157_9 : decode cJ3_checkIndex_8e157 9 = .ok (.aload_n 2, 1) := by decide +kernel
theorem dJ3_checkIndex_8e157_10 : decode cJ3_checkIndex_8e157 10 = .ok (.iload_n 0, 1) := by decide +kernel
theorem dJ3_checkIndex_8e157_11 : decode cJ3_checkIndex_8e157 11 = .ok (.iload_n 1, 1) := by decide +kernel
theorem dJ3_checkIndex_8e157_12 : decode cJ3_checkIndex_8e157 12 = .ok (.invokestatic 95, 3) := by decide +kernel
theorem dJ3_checkIndex_8e157_15 : decode cJ3_checkIndex_8e157 15 = .ok (.athrow, 1) := by decide +kernel
theorem dJ3_checkIndex_8e157_16 : decode cJ3_checkIndex_8e157 16 = .ok (.iload_n 0, 1) := by decide +kernel
theorem dJ3_checkIndex_8e157_17 : decode cJ3_checkIndex_8e157 17 = .ok (.ireturn, 1) := by decide +kernel
set_option maxRecDepth 20000 in
theorem ggL_subject_X1_subject : GoodIn wsL_subject wsX1_subject := goodIn_ca (goodIn_r _ [6, 7, 8, 9, 5, 10, 11, 12, 13, 14, 15, 16, 17, 18, 19, 20, 21, 22, 23] (by decide +kernel) (by decide +kernel)) (goodIn_sub (fun _ h => List.mem_cons_of_mem _ (List.mem_append_right _ h)) (by decide +kernel))
set_option maxRecDepth 20000 in
theorem gL_subject_X1_subject : GoodIn wsL_subject (wsV RL 7 RX1 yX1_subject wsX1_subject) := goodIn_app (goodIn_of _ (by decide +kernel)) ggL_subject_X1_subject
end
section
theorem dL_subject_0 : decode cL_subject 0 = .ok (.aload_n 3, 1) := by decide +kernel
theorem dL_subject_1 : decode cL_subject 1 = .ok (.iconst 0, 1) := by decide +kernel
theorem dL_subject_2 : decode cL_subject 2 = .ok (.aload_n 0, 1) := by decide +kernel
theorem dL_subject_3 : decode cL_subject 3 = .ok (.iload_n 1, 1) := by decide +kernel
theorem dL_subject_4 : decode cL_subject 4 = .ok (.iload_n 2, 1) := by decide +kernel
theorem dL_subject_5 : decode cL_subject 5 = .ok (.invokevirtual 7, 3) := by decide +kernel
theorem dL_subject_8 : decode cL_subject 8 = .ok (.ifCond .eq 7, 3) := by decide +kernel
theorem dL_subject_11 : decode cL_subject 11 = .ok (.lconst 1, 1) := by decide +kernel
theorem dL_subject_12 : decode cL_subject 12 = .ok (.goto 4, 3) := by decide +kernel
theorem dL_subject_15 : decode cL_subject 15 = .ok (.lconst 0, 1) := by decide +kernel
theorem dL_subject_16 : decode cL_subject 16 = .ok (.lastore, 1) := by decide +kernel
theorem dL_subject_17 : decode cL_subject 17 = .ok (.goto 7, 3) := by decide +kernel
theorem dL_subject_20 : decode cL_subject 20 = .ok (.astore 4, 2) := by decide +kernel
theorem dL_subject_22 : decode cL_subject 22 = .ok (.iconst 1, 1) := by decide +kernel
theorem dL_subject_23 : decode cL_subject 23 = .ok (.ireturn, 1) := by decide +kernel
theorem dL_subject_24 : decode cL_subject 24 = .ok (.iconst 0, 1) := by decide +kernel
theorem dL_subject_25 : decode cL_subject 25 = .ok (.ireturn, 1) := by decide +kernel
set_option maxRecDepth 20000 in
theorem ggL_quota_X1_quota : GoodIn wsL_quota wsX1_quota := goodIn_ca (goodIn_r _ [6, 7, 8, 9, 5, 10, 11, 12, 13, 14, 15, 16, 17, 18, 19, 20, 21, 22, 23] (by decide +kernel) (by decide +kernel)) (goodIn_sub (fun _ h => List.mem_cons_of_mem _ (List.mem_append_right _ h)) (by decide +kernel))
set_option maxRecDepth 20000 in
theorem gL_quota_X1_quota : GoodIn wsL_quota (wsV RL 15 RX1 yX1_quota wsX1_quota) := goodIn_app (goodIn_of _ (by decide +kernel)) ggL_quota_X1_quota
theorem dL_quota_0 : decode cL_quota 0 = .ok (.aload_n 3, 1) := by decide +kernel
theorem dL_quota_1 : decode cL_quota 1 = .ok (.iconst 0, 1) := by decide +kernel
theorem dL_quota_2 : decode cL_quota 2 = .ok (.aload_n 0, 1) := by decide +kernel
theorem dL_quota_3 : decode cL_quota 3 = .ok (.iload_n 1, 1) := by decide +kernel
theorem dL_quota_4 : decode cL_quota 4 = .ok (.iload_n 2, 1) := by decide +kernel
theorem dL_quota_5 : decode cL_quota 5 = .ok (.invokevirtual 15, 3) := by decide +kernel
theorem dL_quota_8 : decode cL_quota 8 = .ok (.i2l, 1) := by decide +kernel
theorem dL_quota_9 : decode cL_quota 9 = .ok (.lastore, 1) := by decide +kernel
theorem dL_quota_10 : decode cL_quota 10 = .ok (.goto 7, 3) := by decide +kernel
theorem dL_quota_13 : decode cL_quota 13 = .ok (.astore 4, 2) := by decide +kernel
theorem dL_quota_15 : decode cL_quota 15 = .ok (.iconst 1, 1) := by decide +kernel
theorem dL_quota_16 : decode cL_quota 16 = .ok (.ireturn, 1) := by decide +kernel
theorem dL_quota_17 : decode cL_quota 17 = .ok (.iconst 0, 1) := by decide +kernel
theorem dL_quota_18 : decode cL_quota 18 = .ok (.ireturn, 1) := by decide +kernel
set_option maxRecDepth 20000 in
theorem ggL_list_X1_list : GoodIn wsL_list wsX1_list := goodIn_ca (goodIn_ca (goodIn_r _ [7, 8, 9, 10, 11, 12, 13, 14, 6, 15, 16, 17, 18, 19, 20, 21, 22, 23, 24, 25, 26, 27, 28, 29, 30, 31, 32, 33, 34, 35, 36, 37, 38, 39, 40, 41, 42] (by decide +kernel) (by decide +kernel)) (goodIn_sub (fun _ h => List.mem_cons_of_mem _ (List.mem_append_left _ (List.mem_append_right _ h))) (by decide +kernel))) (goodIn_sub (fun _ h => List.mem_cons_of_mem _ (List.mem_append_right _ h)) (by decide +kernel))
set_option maxRecDepth 20000 in
theorem gL_list_X1_list : GoodIn wsL_list (wsV RL 19 RX1 yX1_list wsX1_list) := goodIn_app (goodIn_of _ (by decide +kernel)) ggL_list_X1_list
theorem dL_list_0 : decode cL_list 0 = .ok (.aload 5, 2) := by decide +kernel
theorem dL_list_2 : decode cL_list 2 = .ok (.iconst 0, 1) := by decide +kernel
theorem dL_list_3 : decode cL_list 3 = .ok (.aload_n 0, 1) := by decide +kernel
theorem dL_list_4 : decode cL_list 4 = .ok (.iload_n 1, 1) := by decide +kernel
theorem dL_list_5 : decode cL_list 5 = .ok (.iload_n 2, 1) := by decide +kernel
theorem dL_list_6 : decode cL_list 6 = .ok (.iload_n 3, 1) := by decide +kernel
theorem dL_list_7 : decode cL_list 7 = .ok (.iload 4, 2) := by decide +kernel
theorem dL_list_9 : decode cL_list 9 = .ok (.invokevirtual 19, 3) := by decide +kernel
theorem dL_list_12 : decode cL_list 12 = .ok (.ifCond .eq 7, 3) := by decide +kernel
theorem dL_list_15 : decode cL_list 15 = .ok (.lconst 1, 1) := by decide +kernel
theorem dL_list_16 : decode cL_list 16 = .ok (.goto 4, 3) := by decide +kernel
theorem dL_list_19 : decode cL_list 19 = .ok (.lconst 0, 1) := by decide +kernel
theorem dL_list_20 : decode cL_list 20 = .ok (.lastore, 1) := by decide +kernel
theorem dL_list_21 : decode cL_list 21 = .ok (.goto 11, 3) := by decide +kernel
theorem dL_list_24 : decode cL_list 24 = .ok (.astore 6, 2) := by decide +kernel
theorem dL_list_26 : decode cL_list 26 = .ok (.iconst 1, 1) := by decide +kernel
theorem dL_list_27 : decode cL_list 27 = .ok (.ireturn, 1) := by decide +kernel
theorem dL_list_28 : decode cL_list 28 = .ok (.astore 6, 2) := by decide +kernel
theorem dL_list_30 : decode cL_list 30 = .ok (.iconst 2, 1) := by decide +kernel
theorem dL_list_31 : decode cL_list 31 = .ok (.ireturn, 1) := by decide +kernel
theorem dL_list_32 : decode cL_list 32 = .ok (.iconst 0, 1) := by decide +kernel
theorem dL_list_33 : decode cL_list 33 = .ok (.ireturn, 1) := by decide +kernel
set_option maxRecDepth 20000 in
theorem ggL_flows_X1_flows : GoodIn wsL_flows wsX1_flows := goodIn_ca (goodIn_r _ [6, 7, 8, 5, 9, 10, 11, 12, 13, 14, 15, 16, 17, 18, 19, 20, 21, 22, 23, 24, 25, 26, 27, 28, 29] (by decide +kernel) (by decide +kernel)) (goodIn_sub (fun _ h => List.mem_cons_of_mem _ (List.mem_append_right _ h)) (by decide +kernel))
set_option maxRecDepth 20000 in
theorem gL_flows_X1_flows : GoodIn wsL_flows (wsV RL 25 RX1 yX1_flows wsX1_flows) := goodIn_app (goodIn_of _ (by decide +kernel)) ggL_flows_X1_flows
theorem dL_flows_0 : decode cL_flows 0 = .ok (.aload_n 3, 1) := by decide +kernel
theorem dL_flows_1 : decode cL_flows 1 = .ok (.iconst 0, 1) := by decide +kernel
theorem dL_flows_2 : decode cL_flows 2 = .ok (.aload_n 0, 1) := by decide +kernel
theorem dL_flows_3 : decode cL_flows 3 = .ok (.iload_n 1, 1) := by decide +kernel
theorem dL_flows_4 : decode cL_flows 4 = .ok (.iload_n 2, 1) := by decide +kernel
theorem dL_flows_5 : decode cL_flows 5 = .ok (.invokevirtual 25, 3) := by decide +kernel
theorem dL_flows_8 : decode cL_flows 8 = .ok (.ifCond .eq 7, 3) := by decide +kernel
theorem dL_flows_11 : decode cL_flows 11 = .ok (.lconst 1, 1) := by decide +kernel
theorem dL_flows_12 : decode cL_flows 12 = .ok (.goto 4, 3) := by decide +kernel
theorem dL_flows_15 : decode cL_flows 15 = .ok (.lconst 0, 1) := by decide +kernel
theorem dL_flows_16 : decode cL_flows 16 = .ok (.lastore, 1) := by decide +kernel
theorem dL_flows_17 : decode cL_flows 17 = .ok (.goto 7, 3) := by decide +kernel
theorem dL_flows_20 : decode cL_flows 20 = .ok (.astore 4, 2) := by decide +kernel
theorem dL_flows_22 : decode cL_flows 22 = .ok (.iconst 1, 1) := by decide +kernel
theorem dL_flows_23 : decode cL_flows 23 = .ok (.ireturn, 1) := by decide +kernel
theorem dL_flows_24 : decode cL_flows 24 = .ok (.iconst 0, 1) := by decide +kernel
theorem dL_flows_25 : decode cL_flows 25 = .ok (.ireturn, 1) := by decide +kernel
set_option maxRecDepth 20000 in
theorem ggL_make_X1_make : GoodIn wsL_make wsX1_make := goodIn_ca (goodIn_ca (goodIn_r _ [7, 8, 9, 10, 11, 6, 12, 13, 14, 15, 16, 17, 18, 19, 20, 21, 22, 23, 24, 25, 26, 27, 28, 29, 30, 31, 32, 33, 34, 35, 36, 37, 38, 39, 40, 41, 42, 43, 44, 45, 46, 47, 48, 49, 50, 51, 52, 53, 54, 55, 56, 57, 58, 59, 60, 61, 62, 63, 64, 65, 66, 67, 68, 69, 70, 71, 72, 73, 74, 75, 76, 77, 78, 79, 80, 81, 82, 83, 84, 85, 86, 87, 88, 89, 90, 91, 92, 93, 94, 95, 96, 97, 98, 99, 100, 101, 102, 103, 104, 105, 106, 107, 108, 109, 110, 111, 112, 113, 114, 115, 116, 117, 118, 119, 120, 121, 122, 123, 124, 125, 126, 127, 128, 129, 130, 131, 132, 133, 134, 135, 136, 137, 138, 139, 140, 141, 142, 143, 144, 145, 146, 147, 148, 149, 150, 151, 152, 153, 154, 155, 156, 157, 158, 159, 160, 161, 162, 163, 164, 165, 166, 167, 168, 169, 170, 171, 172, 173, 174, 175, 176, 177, 178, 179, 180, 181, 182, 183, 184, 185, 186, 187, 188, 189, 190, 191, 192, 193, 194, 195, 196, 197, 198, 199, 200, 201, 202, 203, 204, 205, 206, 207, 208, 209, 210, 211, 212, 213, 214] (by decide +kernel) (by decide +kernel)) (goodIn_sub (fun _ h => List.mem_cons_of_mem _ (List.mem_append_left _ (List.mem_append_right _ h))) (by decide +kernel))) (goodIn_sub (fun _ h => List.mem_cons_of_mem _ (List.mem_append_right _ h)) (by decide +kernel))
set_option maxRecDepth 20000 in
theorem gL_make_X1_make : GoodIn wsL_make (wsV RL 28 RX1 yX1_make wsX1_make) := goodIn_app (goodIn_of _ (by decide +kernel)) ggL_make_X1_make
theorem dL_make_0 : decode cL_make 0 = .ok (.aload 5, 2) := by decide +kernel
theorem dL_make_2 : decode cL_make 2 = .ok (.iconst 0, 1) := by decide +kernel
theorem dL_make_3 : decode cL_make 3 = .ok (.aload_n 0, 1) := by decide +kernel
theorem dL_make_4 : decode cL_make 4 = .ok (.iload_n 1, 1) := by decide +kernel
theorem dL_make_5 : decode cL_make 5 = .ok (.iload_n 2, 1) := by decide +kernel
theorem dL_make_6 : decode cL_make 6 = .ok (.iload_n 3, 1) := by decide +kernel
theorem dL_make_7 : decode cL_make 7 = .ok (.iload 4, 2) := by decide +kernel
theorem dL_make_9 : decode cL_make 9 = .ok (.invokevirtual 28, 3) := by decide +kernel
theorem dL_make_12 : decode cL_make 12 = .ok (.i2l, 1) := by decide +kernel
theorem dL_make_13 : decode cL_make 13 = .ok (.lastore, 1) := by decide +kernel
theorem dL_make_14 : decode cL_make 14 = .ok (.goto 11, 3) := by decide +kernel
theorem dL_make_17 : decode cL_make 17 = .ok (.astore 6, 2) := by decide +kernel
theorem dL_make_19 : decode cL_make 19 = .ok (.iconst 1, 1) := by decide +kernel
theorem dL_make_20 : decode cL_make 20 = .ok (.ireturn, 1) := by decide +kernel
theorem dL_make_21 : decode cL_make 21 = .ok (.astore 6, 2) := by decide +kernel
theorem dL_make_23 : decode cL_make 23 = .ok (.iconst 2, 1) := by decide +kernel
theorem dL_make_24 : decode cL_make 24 = .ok (.ireturn, 1) := by decide +kernel
theorem dL_make_25 : decode cL_make 25 = .ok (.iconst 0, 1) := by decide +kernel
theorem dL_make_26 : decode cL_make 26 = .ok (.ireturn, 1) := by decide +kernel
set_option maxRecDepth 20000 in
theorem ggL_set_X1_set : GoodIn wsL_set wsX1_set := goodIn_ca (goodIn_r _ [6, 7, 8, 9, 10, 11, 5, 12, 13, 14, 15, 16, 17, 18, 19, 20, 21, 22, 23, 24, 25, 26, 27, 28, 29, 30, 31, 32, 33, 34, 35, 36, 37, 38, 39, 40, 41, 42, 43, 44, 45, 46, 47, 48, 49, 50, 51, 52, 53, 54, 55, 56, 57, 58, 59, 60, 61, 62, 63, 64, 65, 66, 67, 68, 69, 70, 71, 72, 73, 74, 75, 76, 77, 78, 79, 80, 81, 82, 83, 84, 85, 86, 87, 88, 89, 90, 91, 92, 93, 94, 95, 96, 97, 98, 99, 100, 101, 102, 103, 104, 105, 106, 107, 108, 109, 110, 111, 112] (by decide +kernel) (by decide +kernel)) (goodIn_sub (fun _ h => List.mem_cons_of_mem _ (List.mem_append_right _ h)) (by decide +kernel))
set_option maxRecDepth 20000 in
theorem gL_set_X1_set : GoodIn wsL_set (wsV RL 32 RX1 yX1_set wsX1_set) := goodIn_app (goodIn_of _ (by decide +kernel)) ggL_set_X1_set
theorem dL_set_0 : decode cL_set 0 = .ok (.aload 5, 2) := by decide +kernel
theorem dL_set_2 : decode cL_set 2 = .ok (.iconst 0, 1) := by decide +kernel
theorem dL_set_3 : decode cL_set 3 = .ok (.aload_n 0, 1) := by decide +kernel
theorem dL_set_4 : decode cL_set 4 = .ok (.iload_n 1, 1) := by decide +kernel
theorem dL_set_5 : decode cL_set 5 = .ok (.iload_n 2, 1) := by decide +kernel
theorem dL_set_6 : decode cL_set 6 = .ok (.iload_n 3, 1) := by decide +kernel
theorem dL_set_7 : decode cL_set 7 = .ok (.iload 4, 2) := by decide +kernel
theorem dL_set_9 : decode cL_set 9 = .ok (.invokevirtual 32, 3) := by decide +kernel
theorem dL_set_12 : decode cL_set 12 = .ok (.i2l, 1) := by decide +kernel
theorem dL_set_13 : decode cL_set 13 = .ok (.lastore, 1) := by decide +kernel
theorem dL_set_14 : decode cL_set 14 = .ok (.goto 7, 3) := by decide +kernel
theorem dL_set_17 : decode cL_set 17 = .ok (.astore 6, 2) := by decide +kernel
theorem dL_set_19 : decode cL_set 19 = .ok (.iconst 1, 1) := by decide +kernel
theorem dL_set_20 : decode cL_set 20 = .ok (.ireturn, 1) := by decide +kernel
theorem dL_set_21 : decode cL_set 21 = .ok (.iconst 0, 1) := by decide +kernel
theorem dL_set_22 : decode cL_set 22 = .ok (.ireturn, 1) := by decide +kernel
set_option maxRecDepth 20000 in
theorem ggL_give_X1_give : GoodIn wsL_give wsX1_give := goodIn_ca (goodIn_r _ [6, 7, 8, 9, 10, 5, 11, 12, 13, 14, 15, 16, 17, 18, 19, 20, 21, 22, 23, 24, 25, 26, 27, 28, 29, 30, 31, 32, 33, 34, 35, 36, 37, 38, 39, 40, 41, 42, 43, 44, 45, 46, 47, 48, 49, 50, 51, 52, 53, 54, 55, 56, 57, 58, 59, 60, 61, 62, 63, 64, 65, 66, 67, 68, 69, 70, 71, 72, 73, 74, 75, 76, 77, 78, 79, 80, 81, 82, 83, 84, 85, 86, 87, 88, 89, 90, 91, 92, 93, 94, 95, 96, 97, 98, 99, 100, 101, 102, 103, 104, 105, 106, 107, 108, 109, 110, 111, 112, 113, 114, 115, 116, 117, 118, 119, 120, 121, 122, 123, 124, 125, 126, 127, 128, 129, 130, 131] (by decide +kernel) (by decide +kernel)) (goodIn_sub (fun _ h => List.mem_cons_of_mem _ (List.mem_append_right _ h)) (by decide +kernel))
set_option maxRecDepth 20000 in
theorem gL_give_X1_give : GoodIn wsL_give (wsV RL 35 RX1 yX1_give wsX1_give) := goodIn_app (goodIn_of _ (by decide +kernel)) ggL_give_X1_give
theorem dL_give_0 : decode cL_give 0 = .ok (.aload 5, 2) := by decide +kernel
theorem dL_give_2 : decode cL_give 2 = .ok (.iconst 0, 1) := by decide +kernel
theorem dL_give_3 : decode cL_give 3 = .ok (.aload_n 0, 1) := by decide +kernel
theorem dL_give_4 : decode cL_give 4 = .ok (.iload_n 1, 1) := by decide +kernel
theorem dL_give_5 : decode cL_give 5 = .ok (.iload_n 2, 1) := by decide +kernel
theorem dL_give_6 : decode cL_give 6 = .ok (.iload_n 3, 1) := by decide +kernel
theorem dL_give_7 : decode cL_give 7 = .ok (.iload 4, 2) := by decide +kernel
theorem dL_give_9 : decode cL_give 9 = .ok (.invokevirtual 35, 3) := by decide +kernel
theorem dL_give_12 : decode cL_give 12 = .ok (.i2l, 1) := by decide +kernel
theorem dL_give_13 : decode cL_give 13 = .ok (.lastore, 1) := by decide +kernel
theorem dL_give_14 : decode cL_give 14 = .ok (.goto 7, 3) := by decide +kernel
theorem dL_give_17 : decode cL_give 17 = .ok (.astore 6, 2) := by decide +kernel
theorem dL_give_19 : decode cL_give 19 = .ok (.iconst 1, 1) := by decide +kernel
theorem dL_give_20 : decode cL_give 20 = .ok (.ireturn, 1) := by decide +kernel
theorem dL_give_21 : decode cL_give 21 = .ok (.iconst 0, 1) := by decide +kernel
theorem dL_give_22 : decode cL_give 22 = .ok (.ireturn, 1) := by decide +kernel
set_option maxRecDepth 20000 in
theorem ggL_trim_X1_trim : GoodIn wsL_trim wsX1_trim := goodIn_ca (goodIn_r _ [6, 7, 8, 9, 5, 10, 11, 12, 13, 14, 15, 16, 17, 18, 19, 20, 21, 22, 23, 24, 25, 26, 27, 28, 29, 30, 31, 32, 33, 34, 35, 36, 37, 38, 39, 40, 41, 42, 43, 44, 45, 46, 47, 48, 49, 50, 51, 52, 53, 54, 55, 56, 57, 58, 59, 60, 61, 62, 63, 64, 65, 66, 67, 68, 69, 70, 71, 72, 73, 74, 75, 76, 77, 78, 79, 80, 81, 82, 83, 84] (by decide +kernel) (by decide +kernel)) (goodIn_sub (fun _ h => List.mem_cons_of_mem _ (List.mem_append_right _ h)) (by decide +kernel))
set_option maxRecDepth 20000 in
theorem gL_trim_X1_trim : GoodIn wsL_trim (wsV RL 38 RX1 yX1_trim wsX1_trim) := goodIn_app (goodIn_of _ (by decide +kernel)) ggL_trim_X1_trim
theorem dL_trim_0 : decode cL_trim 0 = .ok (.aload 4, 2) := by decide +kernel
theorem dL_trim_2 : decode cL_trim 2 = .ok (.iconst 0, 1) := by decide +kernel
theorem dL_trim_3 : decode cL_trim 3 = .ok (.aload_n 0, 1) := by decide +kernel
theorem dL_trim_4 : decode cL_trim 4 = .ok (.iload_n 1, 1) := by decide +kernel
theorem dL_trim_5 : decode cL_trim 5 = .ok (.iload_n 2, 1) := by decide +kernel
theorem dL_trim_6 : decode cL_trim 6 = .ok (.iload_n 3, 1) := by decide +kernel
theorem dL_trim_7 : decode cL_trim 7 = .ok (.invokevirtual 38, 3) := by decide +kernel
theorem dL_trim_10 : decode cL_trim 10 = .ok (.i2l, 1) := by decide +kernel
theorem dL_trim_11 : decode cL_trim 11 = .ok (.lastore, 1) := by decide +kernel
theorem dL_trim_12 : decode cL_trim 12 = .ok (.goto 7, 3) := by decide +kernel
theorem dL_trim_15 : decode cL_trim 15 = .ok (.astore 5, 2) := by decide +kernel
theorem dL_trim_17 : decode cL_trim 17 = .ok (.iconst 1, 1) := by decide +kernel
theorem dL_trim_18 : decode cL_trim 18 = .ok (.ireturn, 1) := by decide +kernel
theorem dL_trim_19 : decode cL_trim 19 = .ok (.iconst 0, 1) := by decide +kernel
theorem dL_trim_20 : decode cL_trim 20 = .ok (.ireturn, 1) := by decide +kernel
set_option maxRecDepth 20000 in
theorem ggL_remove_X1_remove : GoodIn wsL_remove wsX1_remove := goodIn_ca (goodIn_r _ [6, 7, 8, 9, 10, 5, 11, 12, 13, 14, 15, 16, 17, 18, 19, 20, 21, 22, 23, 24, 25, 26, 27, 28, 29, 30, 31, 32, 33, 34, 35, 36, 37, 38, 39, 40, 41, 42, 43, 44, 45, 46, 47, 48, 49, 50, 51, 52, 53, 54, 55, 56, 57, 58, 59, 60, 61, 62, 63, 64, 65, 66, 67, 68, 69, 70, 71, 72, 73, 74, 75, 76, 77, 78, 79, 80, 81, 82, 83, 84] (by decide +kernel) (by decide +kernel)) (goodIn_sub (fun _ h => List.mem_cons_of_mem _ (List.mem_append_right _ h)) (by decide +kernel))
set_option maxRecDepth 20000 in
theorem gL_remove_X1_remove : GoodIn wsL_remove (wsV RL 42 RX1 yX1_remove wsX1_remove) := goodIn_app (goodIn_of _ (by decide +kernel)) ggL_remove_X1_remove
theorem dL_remove_0 : decode cL_remove 0 = .ok (.aload_n 3, 1) := by decide +kernel
theorem dL_remove_1 : decode cL_remove 1 = .ok (.iconst 0, 1) := by decide +kernel
theorem dL_remove_2 : decode cL_remove 2 = .ok (.aload_n 0, 1) := by decide +kernel
theorem dL_remove_3 : decode cL_remove 3 = .ok (.iload_n 1, 1) := by decide +kernel
theorem dL_remove_4 : decode cL_remove 4 = .ok (.iload_n 2, 1) := by decide +kernel
theorem dL_remove_5 : decode cL_remove 5 = .ok (.invokevirtual 42, 3) := by decide +kernel
theorem dL_remove_8 : decode cL_remove 8 = .ok (.i2l, 1) := by decide +kernel
theorem dL_remove_9 : decode cL_remove 9 = .ok (.lastore, 1) := by decide +kernel
theorem dL_remove_10 : decode cL_remove 10 = .ok (.goto 7, 3) := by decide +kernel
theorem dL_remove_13 : decode cL_remove 13 = .ok (.astore 4, 2) := by decide +kernel
theorem dL_remove_15 : decode cL_remove 15 = .ok (.iconst 1, 1) := by decide +kernel
theorem dL_remove_16 : decode cL_remove 16 = .ok (.ireturn, 1) := by decide +kernel
theorem dL_remove_17 : decode cL_remove 17 = .ok (.iconst 0, 1) := by decide +kernel
theorem dL_remove_18 : decode cL_remove 18 = .ok (.ireturn, 1) := by decide +kernel
set_option maxRecDepth 20000 in
theorem ggL_read_X1_read : GoodIn wsL_read wsX1_read := goodIn_ca (goodIn_r _ [6, 7, 8, 9, 10, 5, 11, 12, 13, 14, 15, 16, 17, 18, 19, 20, 21, 22, 23, 24, 25, 26, 27, 28, 29, 30, 31, 32, 33, 34, 35, 36, 37, 38, 39, 40, 41, 42, 43, 44, 45, 46, 47, 48, 49, 50, 51, 52, 53, 54, 55, 56, 57, 58, 59, 60, 61, 62, 63, 64, 65, 66, 67, 68, 69, 70, 71, 72, 73, 74, 75, 76, 77, 78, 79, 80, 81, 82, 83, 84, 85, 86, 87, 88, 89, 90, 91, 92, 93, 94, 95, 96, 97, 98, 99, 100, 101, 102, 103, 104, 105, 106, 107, 108, 109, 110, 111, 112] (by decide +kernel) (by decide +kernel)) (goodIn_sub (fun _ h => List.mem_cons_of_mem _ (List.mem_append_right _ h)) (by decide +kernel))
set_option maxRecDepth 20000 in
theorem gL_read_X1_read : GoodIn wsL_read (wsV RL 45 RX1 yX1_read wsX1_read) := goodIn_app (goodIn_of _ (by decide +kernel)) ggL_read_X1_read
theorem dL_read_0 : decode cL_read 0 = .ok (.aload 5, 2) := by decide +kernel
theorem dL_read_2 : decode cL_read 2 = .ok (.iconst 0, 1) := by decide +kernel
theorem dL_read_3 : decode cL_read 3 = .ok (.aload_n 0, 1) := by decide +kernel
theorem dL_read_4 : decode cL_read 4 = .ok (.iload_n 1, 1) := by decide +kernel
theorem dL_read_5 : decode cL_read 5 = .ok (.iload_n 2, 1) := by decide +kernel
theorem dL_read_6 : decode cL_read 6 = .ok (.iload_n 3, 1) := by decide +kernel
theorem dL_read_7 : decode cL_read 7 = .ok (.iload 4, 2) := by decide +kernel
theorem dL_read_9 : decode cL_read 9 = .ok (.invokevirtual 45, 3) := by decide +kernel
theorem dL_read_12 : decode cL_read 12 = .ok (.i2l, 1) := by decide +kernel
theorem dL_read_13 : decode cL_read 13 = .ok (.lastore, 1) := by decide +kernel
theorem dL_read_14 : decode cL_read 14 = .ok (.goto 7, 3) := by decide +kernel
theorem dL_read_17 : decode cL_read 17 = .ok (.astore 6, 2) := by decide +kernel
theorem dL_read_19 : decode cL_read 19 = .ok (.iconst 1, 1) := by decide +kernel
theorem dL_read_20 : decode cL_read 20 = .ok (.ireturn, 1) := by decide +kernel
theorem dL_read_21 : decode cL_read 21 = .ok (.iconst 0, 1) := by decide +kernel
theorem dL_read_22 : decode cL_read 22 = .ok (.ireturn, 1) := by decide +kernel
set_option maxRecDepth 20000 in
theorem ggL_size_X1_size : GoodIn wsL_size wsX1_size := goodIn_ca (goodIn_r _ [6, 7, 8, 9, 5, 10, 11, 12, 13, 14, 15, 16, 17, 18, 19, 20, 21, 22, 23, 24, 25, 26, 27, 28, 29, 30, 31, 32, 33, 34, 35, 36, 37, 38, 39, 40, 41, 42, 43, 44, 45, 46, 47, 48, 49, 50, 51, 52, 53, 54, 55, 56, 57, 58, 59, 60, 61, 62, 63, 64, 65, 66, 67, 68, 69, 70, 71, 72, 73, 74, 75, 76, 77, 78, 79, 80, 81, 82, 83, 84, 85, 86, 87, 88, 89, 90, 91, 92, 93, 94, 95, 96, 97, 98, 99, 100, 101, 102, 103] (by decide +kernel) (by decide +kernel)) (goodIn_sub (fun _ h => List.mem_cons_of_mem _ (List.mem_append_right _ h)) (by decide +kernel))
set_option maxRecDepth 20000 in
theorem gL_size_X1_size : GoodIn wsL_size (wsV RL 48 RX1 yX1_size wsX1_size) := goodIn_app (goodIn_of _ (by decide +kernel)) ggL_size_X1_size
theorem dL_size_0 : decode cL_size 0 = .ok (.aload 4, 2) := by decide +kernel
theorem dL_size_2 : decode cL_size 2 = .ok (.iconst 0, 1) := by decide +kernel
theorem dL_size_3 : decode cL_size 3 = .ok (.aload_n 0, 1) := by decide +kernel
theorem dL_size_4 : decode cL_size 4 = .ok (.iload_n 1, 1) := by decide +kernel
theorem dL_size_5 : decode cL_size 5 = .ok (.iload_n 2, 1) := by decide +kernel
theorem dL_size_6 : decode cL_size 6 = .ok (.iload_n 3, 1) := by decide +kernel
theorem dL_size_7 : decode cL_size 7 = .ok (.invokevirtual 48, 3) := by decide +kernel
theorem dL_size_10 : decode cL_size 10 = .ok (.i2l, 1) := by decide +kernel
theorem dL_size_11 : decode cL_size 11 = .ok (.lastore, 1) := by decide +kernel
theorem dL_size_12 : decode cL_size 12 = .ok (.goto 7, 3) := by decide +kernel
theorem dL_size_15 : decode cL_size 15 = .ok (.astore 5, 2) := by decide +kernel
theorem dL_size_17 : decode cL_size 17 = .ok (.iconst 1, 1) := by decide +kernel
theorem dL_size_18 : decode cL_size 18 = .ok (.ireturn, 1) := by decide +kernel
theorem dL_size_19 : decode cL_size 19 = .ok (.iconst 0, 1) := by decide +kernel
theorem dL_size_20 : decode cL_size 20 = .ok (.ireturn, 1) := by decide +kernel
set_option maxRecDepth 20000 in
theorem ggL_there_X1_there : GoodIn wsL_there wsX1_there := goodIn_ca (goodIn_r _ [6, 7, 8, 5, 9, 10, 11, 12, 13, 14, 15, 16, 17, 18, 19, 20, 21, 22, 23, 24, 25, 26, 27, 28, 29, 30, 31, 32, 33, 34, 35, 36, 37, 38, 39, 40, 41, 42, 43, 44, 45, 46, 47, 48, 49, 50, 51, 52, 53, 54, 55, 56, 57, 58, 59, 60, 61, 62, 63, 64, 65, 66, 67, 68, 69, 70, 71, 72, 73, 74, 75, 76, 77, 78, 79, 80, 81, 82, 83, 84, 85, 86, 87, 88, 89, 90, 91, 92, 93, 94, 95, 96, 97, 98, 99, 100, 101, 102] (by decide +kernel) (by decide +kernel)) (goodIn_sub (fun _ h => List.mem_cons_of_mem _ (List.mem_append_right _ h)) (by decide +kernel))
set_option maxRecDepth 20000 in
theorem gL_there_X1_there : GoodIn wsL_there (wsV RL 51 RX1 yX1_there wsX1_there) := goodIn_app (goodIn_of _ (by decide +kernel)) ggL_there_X1_there
theorem dL_there_0 : decode cL_there 0 = .ok (.aload 4, 2) := by decide +kernel
theorem dL_there_2 : decode cL_there 2 = .ok (.iconst 0, 1) := by decide +kernel
theorem dL_there_3 : decode cL_there 3 = .ok (.aload_n 0, 1) := by decide +kernel
theorem dL_there_4 : decode cL_there 4 = .ok (.iload_n 1, 1) := by decide +kernel
theorem dL_there_5 : decode cL_there 5 = .ok (.iload_n 2, 1) := by decide +kernel
theorem dL_there_6 : decode cL_there 6 = .ok (.iload_n 3, 1) := by decide +kernel
theorem dL_there_7 : decode cL_there 7 = .ok (.invokevirtual 51, 3) := by decide +kernel
theorem dL_there_10 : decode cL_there 10 = .ok (.i2l, 1) := by decide +kernel
theorem dL_there_11 : decode cL_there 11 = .ok (.lastore, 1) := by decide +kernel
theorem dL_there_12 : decode cL_there 12 = .ok (.goto 7, 3) := by decide +kernel
theorem dL_there_15 : decode cL_there 15 = .ok (.astore 5, 2) := by decide +kernel
theorem dL_there_17 : decode cL_there 17 = .ok (.iconst 1, 1) := by decide +kernel
theorem dL_there_18 : decode cL_there 18 = .ok (.ireturn, 1) := by decide +kernel
theorem dL_there_19 : decode cL_there 19 = .ok (.iconst 0, 1) := by decide +kernel
theorem dL_there_20 : decode cL_there 20 = .ok (.ireturn, 1) := by decide +kernel
set_option maxRecDepth 20000 in
theorem ggL_listed_X1_listed : GoodIn wsL_listed wsX1_listed := goodIn_ca (goodIn_r _ [6, 7, 8, 9, 5, 10, 11, 12, 13, 14, 15, 16, 17, 18, 19, 20, 21, 22, 23, 24, 25, 26, 27, 28, 29, 30, 31, 32, 33, 34, 35, 36, 37, 38, 39, 40, 41, 42, 43, 44, 45, 46, 47, 48, 49, 50, 51, 52, 53, 54, 55, 56, 57, 58, 59, 60, 61, 62, 63, 64, 65, 66, 67, 68, 69, 70, 71, 72, 73, 74, 75, 76, 77, 78, 79, 80, 81, 82, 83, 84, 85, 86, 87, 88, 89, 90, 91, 92, 93, 94, 95, 96, 97, 98, 99, 100, 101, 102, 103, 104, 105, 106, 107] (by decide +kernel) (by decide +kernel)) (goodIn_sub (fun _ h => List.mem_cons_of_mem _ (List.mem_append_right _ h)) (by decide +kernel))
set_option maxRecDepth 20000 in
theorem gL_listed_X1_listed : GoodIn wsL_listed (wsV RL 54 RX1 yX1_listed wsX1_listed) := goodIn_app (goodIn_of _ (by decide +kernel)) ggL_listed_X1_listed
theorem dL_listed_0 : decode cL_listed 0 = .ok (.aload 4, 2) := by decide +kernel
theorem dL_listed_2 : decode cL_listed 2 = .ok (.iconst 0, 1) := by decide +kernel
theorem dL_listed_3 : decode cL_listed 3 = .ok (.aload_n 0, 1) := by decide +kernel
theorem dL_listed_4 : decode cL_listed 4 = .ok (.iload_n 1, 1) := by decide +kernel
theorem dL_listed_5 : decode cL_listed 5 = .ok (.iload_n 2, 1) := by decide +kernel
theorem dL_listed_6 : decode cL_listed 6 = .ok (.iload_n 3, 1) := by decide +kernel
theorem dL_listed_7 : decode cL_listed 7 = .ok (.invokevirtual 54, 3) := by decide +kernel
theorem dL_listed_10 : decode cL_listed 10 = .ok (.i2l, 1) := by decide +kernel
theorem dL_listed_11 : decode cL_listed 11 = .ok (.lastore, 1) := by decide +kernel
theorem dL_listed_12 : decode cL_listed 12 = .ok (.goto 7, 3) := by decide +kernel
theorem dL_listed_15 : decode cL_listed 15 = .ok (.astore 5, 2) := by decide +kernel
theorem dL_listed_17 : decode cL_listed 17 = .ok (.iconst 1, 1) := by decide +kernel
theorem dL_listed_18 : decode cL_listed 18 = .ok (.ireturn, 1) := by decide +kernel
theorem dL_listed_19 : decode cL_listed 19 = .ok (.iconst 0, 1) := by decide +kernel
theorem dL_listed_20 : decode cL_listed 20 = .ok (.ireturn, 1) := by decide +kernel
set_option maxRecDepth 20000 in
theorem ggL_release_X1_release : GoodIn wsL_release wsX1_release := goodIn_ca (goodIn_ca (goodIn_r _ [7, 8, 9, 10, 11, 6, 12, 13, 14, 15, 16, 17, 18, 19, 20, 21, 22, 23, 24, 25, 26, 27, 28, 29, 30, 31, 32, 33, 34, 35, 36, 37, 38, 39, 40, 41, 42, 43, 44, 45, 46, 47, 48, 49, 50, 51, 52, 53, 54, 55, 56, 57, 58, 59, 60, 61, 62, 63, 64, 65, 66, 67, 68, 69, 70, 71, 72, 73, 74, 75, 76, 77, 78, 79, 80, 81, 82, 83, 84, 85, 86, 87, 88, 89, 90, 91, 92, 93, 94, 95, 96, 97, 98, 99, 100, 101, 102, 103, 104, 105, 106, 107, 108, 109, 110, 111, 112, 113, 114, 115, 116, 117, 118, 119, 120, 121, 122, 123, 124, 125, 126, 127, 128, 129, 130, 131, 132, 133, 134, 135, 136, 137, 138, 139, 140, 141, 142, 143, 144, 145, 146, 147, 148, 149, 150, 151, 152, 153, 154, 155, 156, 157, 158, 159, 160, 161, 162, 163, 164, 165, 166, 167, 168, 169, 170, 171, 172, 173, 174, 175, 176, 177, 178, 179, 180, 181, 182, 183, 184, 185, 186, 187, 188, 189, 190, 191, 192, 193, 194, 195, 196, 197, 198, 199, 200, 201, 202, 203, 204] (by decide +kernel) (by decide +kernel)) (goodIn_sub (fun _ h => List.mem_cons_of_mem _ (List.mem_append_left _ (List.mem_append_right _ h))) (by decide +kernel))) (goodIn_sub (fun _ h => List.mem_cons_of_mem _ (List.mem_append_right _ h)) (by decide +kernel))
set_option maxRecDepth 20000 in
theorem gL_release_X1_release : GoodIn wsL_release (wsV RL 57 RX1 yX1_release wsX1_release) := goodIn_app (goodIn_of _ (by decide +kernel)) ggL_release_X1_release
theorem dL_release_0 : decode cL_release 0 = .ok (.aload 5, 2) := by decide +kernel
theorem dL_release_2 : decode cL_release 2 = .ok (.iconst 0, 1) := by decide +kernel
theorem dL_release_3 : decode cL_release 3 = .ok (.aload_n 0, 1) := by decide +kernel
theorem dL_release_4 : decode cL_release 4 = .ok (.iload_n 1, 1) := by decide +kernel
theorem dL_release_5 : decode cL_release 5 = .ok (.iload_n 2, 1) := by decide +kernel
theorem dL_release_6 : decode cL_release 6 = .ok (.iload_n 3, 1) := by decide +kernel
theorem dL_release_7 : decode cL_release 7 = .ok (.iload 4, 2) := by decide +kernel
theorem dL_release_9 : decode cL_release 9 = .ok (.invokevirtual 57, 3) := by decide +kernel
theorem dL_release_12 : decode cL_release 12 = .ok (.i2l, 1) := by decide +kernel
theorem dL_release_13 : decode cL_release 13 = .ok (.lastore, 1) := by decide +kernel
theorem dL_release_14 : decode cL_release 14 = .ok (.goto 11, 3) := by decide +kernel
theorem dL_release_17 : decode cL_release 17 = .ok (.astore 6, 2) := by decide +kernel
theorem dL_release_19 : decode cL_release 19 = .ok (.iconst 1, 1) := by decide +kernel
theorem dL_release_20 : decode cL_release 20 = .ok (.ireturn, 1) := by decide +kernel
theorem dL_release_21 : decode cL_release 21 = .ok (.astore 6, 2) := by decide +kernel
theorem dL_release_23 : decode cL_release 23 = .ok (.iconst 2, 1) := by decide +kernel
theorem dL_release_24 : decode cL_release 24 = .ok (.ireturn, 1) := by decide +kernel
theorem dL_release_25 : decode cL_release 25 = .ok (.iconst 0, 1) := by decide +kernel
theorem dL_release_26 : decode cL_release 26 = .ok (.ireturn, 1) := by decide +kernel
set_option maxRecDepth 20000 in
theorem ggL_seen_X1_seen : GoodIn wsL_seen wsX1_seen := goodIn_ca (goodIn_r _ [6, 7, 8, 9, 10, 5, 11, 12, 13, 14, 15, 16, 17, 18, 19, 20, 21] (by decide +kernel) (by decide +kernel)) (goodIn_sub (fun _ h => List.mem_cons_of_mem _ (List.mem_append_right _ h)) (by decide +kernel))
set_option maxRecDepth 20000 in
theorem gL_seen_X1_seen : GoodIn wsL_seen (wsV RL 60 RX1 yX1_seen wsX1_seen) := goodIn_app (goodIn_of _ (by decide +kernel)) ggL_seen_X1_seen
theorem dL_seen_0 : decode cL_seen 0 = .ok (.aload_n 3, 1) := by decide +kernel
theorem dL_seen_1 : decode cL_seen 1 = .ok (.iconst 0, 1) := by decide +kernel
theorem dL_seen_2 : decode cL_seen 2 = .ok (.aload_n 0, 1) := by decide +kernel
theorem dL_seen_3 : decode cL_seen 3 = .ok (.iload_n 1, 1) := by decide +kernel
theorem dL_seen_4 : decode cL_seen 4 = .ok (.iload_n 2, 1) := by decide +kernel
theorem dL_seen_5 : decode cL_seen 5 = .ok (.invokevirtual 60, 3) := by decide +kernel
theorem dL_seen_8 : decode cL_seen 8 = .ok (.i2l, 1) := by decide +kernel
theorem dL_seen_9 : decode cL_seen 9 = .ok (.lastore, 1) := by decide +kernel
theorem dL_seen_10 : decode cL_seen 10 = .ok (.goto 7, 3) := by decide +kernel
theorem dL_seen_13 : decode cL_seen 13 = .ok (.astore 4, 2) := by decide +kernel
theorem dL_seen_15 : decode cL_seen 15 = .ok (.iconst 1, 1) := by decide +kernel
theorem dL_seen_16 : decode cL_seen 16 = .ok (.ireturn, 1) := by decide +kernel
theorem dL_seen_17 : decode cL_seen 17 = .ok (.iconst 0, 1) := by decide +kernel
theorem dL_seen_18 : decode cL_seen 18 = .ok (.ireturn, 1) := by decide +kernel
set_option maxRecDepth 20000 in
theorem ggL_told_X1_told : GoodIn wsL_told wsX1_told := goodIn_ca (goodIn_r _ [6, 7, 8, 9, 10, 11, 12, 5, 13, 14, 15, 16, 17, 18, 19, 20, 21, 22, 23, 24, 25, 26, 27, 28, 29, 30, 31, 32, 33, 34, 35, 36, 37, 38, 39, 40, 41, 42, 43, 44, 45, 46, 47, 48, 49, 50, 51, 52, 53, 54, 55, 56, 57, 58, 59, 60, 61, 62, 63, 64, 65, 66, 67, 68, 69, 70, 71, 72, 73, 74, 75, 76, 77, 78, 79, 80, 81, 82] (by decide +kernel) (by decide +kernel)) (goodIn_sub (fun _ h => List.mem_cons_of_mem _ (List.mem_append_right _ h)) (by decide +kernel))
set_option maxRecDepth 20000 in
theorem gL_told_X1_told : GoodIn wsL_told (wsV RL 63 RX1 yX1_told wsX1_told) := goodIn_app (goodIn_of _ (by decide +kernel)) ggL_told_X1_told
theorem dL_told_0 : decode cL_told 0 = .ok (.aload_n 3, 1) := by decide +kernel
theorem dL_told_1 : decode cL_told 1 = .ok (.iconst 0, 1) := by decide +kernel
theorem dL_told_2 : decode cL_told 2 = .ok (.aload_n 0, 1) := by decide +kernel
theorem dL_told_3 : decode cL_told 3 = .ok (.iload_n 1, 1) := by decide +kernel
theorem dL_told_4 : decode cL_told 4 = .ok (.iload_n 2, 1) := by decide +kernel
theorem dL_told_5 : decode cL_told 5 = .ok (.invokevirtual 63, 3) := by decide +kernel
theorem dL_told_8 : decode cL_told 8 = .ok (.i2l, 1) := by decide +kernel
theorem dL_told_9 : decode cL_told 9 = .ok (.lastore, 1) := by decide +kernel
theorem dL_told_10 : decode cL_told 10 = .ok (.goto 7, 3) := by decide +kernel
theorem dL_told_13 : decode cL_told 13 = .ok (.astore 4, 2) := by decide +kernel
theorem dL_told_15 : decode cL_told 15 = .ok (.iconst 1, 1) := by decide +kernel
theorem dL_told_16 : decode cL_told 16 = .ok (.ireturn, 1) := by decide +kernel
theorem dL_told_17 : decode cL_told 17 = .ok (.iconst 0, 1) := by decide +kernel
theorem dL_told_18 : decode cL_told 18 = .ok (.ireturn, 1) := by decide +kernel
set_option maxRecDepth 20000 in
theorem ggL_law_X1_init : GoodIn wsL_law wsX1_init := goodIn_r _ [9, 10, 11, 12, 13, 14, 15, 16, 17, 18, 19, 20, 21, 22, 23, 24, 25, 26, 27, 28, 29, 30, 31, 32, 33, 34, 35, 36, 37, 38, 39, 40, 41, 42, 43, 44, 555, 556, 557, 558, 559, 560, 561, 562, 579, 580, 581] (by decide +kernel) (by decide +kernel)
set_option maxRecDepth 20000 in
theorem gL_law_X1_init : GoodIn wsL_law (wsX1_init) := ggL_law_X1_init
set_option maxRecDepth 20000 in
theorem ggL_law_X2_init : GoodIn wsL_law wsX2_init := goodIn_r _ [47, 48, 11, 12, 13, 49, 50, 51, 52, 53, 54, 55, 56, 57, 58, 59, 60, 61, 62, 563, 564, 565, 566, 567, 568, 569, 570, 571, 572, 573, 574, 575, 576, 577, 578] (by decide +kernel) (by decide +kernel)
set_option maxRecDepth 20000 in
theorem gL_law_X2_init : GoodIn wsL_law (wsX2_init) := ggL_law_X2_init
set_option maxRecDepth 20000 in
theorem ggL_law_L_subject : GoodIn wsL_law wsL_subject := goodIn_ca (goodIn_r _ [66, 67, 68, 69, 70, 2, 71, 14, 72, 73, 74, 75, 76, 77, 78, 79, 555, 556, 557, 558, 559, 560, 561, 562] (by decide +kernel) (by decide +kernel)) (goodIn_sub (fun _ h => List.mem_append_left _ (List.mem_append_right _ h)) (by decide +kernel))
set_option maxRecDepth 20000 in
theorem gL_law_L_subject : GoodIn wsL_law (va_wsS RL 70 yL_subject wsL_subject) := goodIn_app (goodIn_of _ (by decide +kernel)) ggL_law_L_subject
set_option maxRecDepth 20000 in
theorem ggL_law_X2_subject : GoodIn wsL_law wsX2_subject := goodIn_r _ [83, 51, 49, 84, 85, 5, 86, 87, 88, 89, 90, 91, 92, 93, 94, 95, 96, 97, 563, 564, 565, 566, 567, 568, 569, 570, 571, 572, 573, 574, 575, 576, 577, 578] (by decide +kernel) (by decide +kernel)
set_option maxRecDepth 20000 in
theorem gL_law_X2_subject : GoodIn wsL_law (wsV RL 75 RX2 yX2_subject wsX2_subject) := goodIn_app (goodIn_of _ (by decide +kernel)) ggL_law_X2_subject
set_option maxRecDepth 20000 in
theorem ggL_law_X2_thrown : GoodIn wsL_law wsX2_thrown := goodIn_r _ [101, 97, 563, 564, 565, 566, 567, 568, 569, 570, 571, 572, 573, 574, 575, 576, 577, 578] (by decide +kernel) (by decide +kernel)
set_option maxRecDepth 20000 in
theorem gL_law_X2_thrown : GoodIn wsL_law (wsV RL 76 RX2 yX2_thrown wsX2_thrown) := goodIn_app (goodIn_of _ (by decide +kernel)) ggL_law_X2_thrown
set_option maxRecDepth 20000 in
theorem ggL_law_L_quota : GoodIn wsL_law wsL_quota := goodIn_ca (goodIn_r _ [104, 67, 105, 106, 107, 2, 108, 15, 77, 78, 79, 75, 76, 109, 110, 111, 555, 556, 557, 558, 559, 560, 561, 562] (by decide +kernel) (by decide +kernel)) (goodIn_sub (fun _ h => List.mem_append_left _ (List.mem_append_right _ h)) (by decide +kernel))
set_option maxRecDepth 20000 in
theorem gL_law_L_quota : GoodIn wsL_law (va_wsS RL 80 yL_quota wsL_quota) := goodIn_app (goodIn_of _ (by decide +kernel)) ggL_law_L_quota
set_option maxRecDepth 20000 in
theorem ggL_law_X2_quota : GoodIn wsL_law wsX2_quota := goodIn_r _ [115, 52, 90, 91, 5, 92, 87, 88, 89, 93, 94, 95, 96, 97, 563, 564, 565, 566, 567, 568, 569, 570, 571, 572, 573, 574, 575, 576, 577, 578] (by decide +kernel) (by decide +kernel)
set_option maxRecDepth 20000 in
theorem gL_law_X2_quota : GoodIn wsL_law (wsV RL 82 RX2 yX2_quota wsX2_quota) := goodIn_app (goodIn_of _ (by decide +kernel)) ggL_law_X2_quota
set_option maxRecDepth 20000 in
theorem ggL_law_L_list : GoodIn wsL_law wsL_list := goodIn_ca (goodIn_ca (goodIn_r _ [118, 67, 119, 120, 121, 122, 2, 123, 75, 76, 124, 125, 22, 72, 73, 74, 77, 78, 79, 126, 127, 128, 129, 130, 131, 132, 21, 133, 134, 135, 136, 137, 138, 139, 140, 555, 556, 557, 558, 559, 560, 561, 562] (by decide +kernel) (by decide +kernel)) (goodIn_sub (fun _ h => List.mem_append_left _ (List.mem_append_right _ h)) (by decide +kernel))) (goodIn_sub (fun _ h => List.mem_append_right _ h) (by decide +kernel))
set_option maxRecDepth 20000 in
theorem gL_law_L_list : GoodIn wsL_law (va_wsS RL 83 yL_list wsL_list) := goodIn_app (goodIn_of _ (by decide +kernel)) ggL_law_L_list
set_option maxRecDepth 20000 in
theorem ggL_law_X2_list : GoodIn wsL_law wsX2_list := goodIn_r _ [144, 145, 60, 84, 85, 5, 86, 87, 88, 89, 90, 91, 92, 93, 94, 95, 96, 97, 146, 147, 148, 149, 563, 564, 565, 566, 567, 568, 569, 570, 571, 572, 573, 574, 575, 576, 577, 578] (by decide +kernel) (by decide +kernel)
set_option maxRecDepth 20000 in
theorem gL_law_X2_list : GoodIn wsL_law (wsV RL 86 RX2 yX2_list wsX2_list) := goodIn_app (goodIn_of _ (by decide +kernel)) ggL_law_X2_list
set_option maxRecDepth 20000 in
theorem ggL_law_L_flows : GoodIn wsL_law wsL_flows := goodIn_ca (goodIn_r _ [152, 67, 153, 154, 155, 2, 156, 77, 78, 79, 75, 76, 157, 158, 159, 160, 161, 162, 163, 164, 165, 166, 167, 168, 169, 170, 171, 172, 173, 174] (by decide +kernel) (by decide +kernel)) (goodIn_sub (fun _ h => List.mem_append_left _ (List.mem_append_right _ h)) (by decide +kernel))
set_option maxRecDepth 20000 in
theorem gL_law_L_flows : GoodIn wsL_law (va_wsS RL 87 yL_flows wsL_flows) := goodIn_app (goodIn_of _ (by decide +kernel)) ggL_law_L_flows
set_option maxRecDepth 20000 in
theorem ggL_law_X2_flows : GoodIn wsL_law wsX2_flows := goodIn_r _ [178, 90, 91, 5, 92, 87, 88, 89, 93, 94, 95, 96, 97, 179, 180, 181, 563, 564, 565, 566, 567, 568, 569, 570, 571, 572, 573, 574, 575, 576, 577, 578] (by decide +kernel) (by decide +kernel)
set_option maxRecDepth 20000 in
theorem gL_law_X2_flows : GoodIn wsL_law (wsV RL 89 RX2 yX2_flows wsX2_flows) := goodIn_app (goodIn_of _ (by decide +kernel)) ggL_law_X2_flows
set_option maxRecDepth 20000 in
theorem ggL_law_L_make : GoodIn wsL_law wsL_make := goodIn_ca (goodIn_ca (goodIn_r _ [184, 67, 119, 185, 186, 187, 2, 188, 124, 125, 72, 73, 74, 75, 76, 189, 190, 191, 77, 78, 79, 192, 193, 194, 195, 196, 197, 198, 199, 200, 201, 14, 202, 203, 204, 157, 158, 159, 160, 161, 162, 163, 164, 165, 166, 167, 168, 169, 170, 171, 172, 173, 174, 205, 206, 207, 208, 209, 210, 211, 212, 213, 214, 215, 216, 217, 218, 20, 219, 220, 221, 222, 223, 19, 224, 225, 226, 227, 228, 229, 230, 231, 232, 233, 234, 235, 236, 237, 238, 239, 240, 241, 30, 242, 243, 244, 245, 15, 246, 247, 248, 249, 16, 250, 251, 252, 253, 254, 255, 256, 257, 258, 259, 260, 261, 262, 263, 264, 265, 266, 267, 268, 269, 270, 271, 11, 12, 13, 272, 273, 274, 275, 276, 277, 278, 279, 280, 281, 282, 283, 284, 285, 286, 287, 288, 289, 290, 291, 292, 293, 294, 295, 296, 297, 298, 299, 300, 29, 301, 302, 303, 304, 305, 306, 307, 308, 309, 310, 311, 312, 313, 314, 315, 316, 43, 317, 318, 319, 320, 321, 322, 323, 324, 325, 326, 327, 328, 329, 330, 331, 332, 333, 334, 335, 336, 337, 338, 25, 555, 556, 557, 558, 559, 560, 561, 562, 582, 583, 584, 585, 586, 587, 579, 580, 581] (by decide +kernel) (by decide +kernel)) (goodIn_sub (fun _ h => List.mem_append_right _ h) (by decide +kernel))) (goodIn_sub (fun _ h => List.mem_append_left _ (List.mem_append_right _ h)) (by decide +kernel))
set_option maxRecDepth 20000 in
theorem gL_law_L_make : GoodIn wsL_law (va_wsS RL 90 yL_make wsL_make) := goodIn_app (goodIn_of _ (by decide +kernel)) ggL_law_L_make
set_option maxRecDepth 20000 in
theorem ggL_law_X2_make : GoodIn wsL_law wsX2_make := goodIn_r _ [342, 51, 49, 343, 53, 84, 85, 5, 86, 87, 88, 89, 90, 91, 92, 344, 345, 346, 93, 94, 95, 96, 97, 179, 180, 181, 347, 348, 349, 350, 54, 351, 352, 353, 354, 52, 355, 356, 357, 358, 359, 360, 361, 362, 55, 57, 59, 363, 364, 365, 366, 62, 367, 368, 369, 370, 56, 563, 564, 565, 566, 567, 568, 569, 570, 571, 572, 573, 574, 575, 576, 577, 578] (by decide +kernel) (by decide +kernel)
set_option maxRecDepth 20000 in
theorem gL_law_X2_make : GoodIn wsL_law (wsV RL 93 RX2 yX2_make wsX2_make) := goodIn_app (goodIn_of _ (by decide +kernel)) ggL_law_X2_make
set_option maxRecDepth 20000 in
theorem ggL_law_L_set : GoodIn wsL_law wsL_set := goodIn_ca (goodIn_r _ [373, 67, 374, 375, 376, 2, 377, 14, 378, 379, 72, 73, 74, 75, 76, 192, 193, 194, 380, 381, 382, 335, 336, 337, 338, 25, 383, 384, 385, 386, 20, 219, 205, 206, 207, 215, 216, 217, 218, 220, 221, 222, 223, 19, 224, 225, 226, 227, 228, 229, 230, 231, 232, 233, 234, 235, 236, 237, 238, 239, 240, 241, 30, 242, 243, 244, 245, 15, 246, 247, 248, 249, 16, 202, 203, 204, 250, 251, 252, 214, 253, 254, 255, 256, 257, 258, 259, 260, 261, 262, 263, 387, 388, 389, 390, 272, 555, 556, 557, 558, 559, 560, 561, 562, 582, 583, 584, 585, 586, 587, 579, 580, 581] (by decide +kernel) (by decide +kernel)) (goodIn_sub (fun _ h => List.mem_append_left _ (List.mem_append_right _ h)) (by decide +kernel))
set_option maxRecDepth 20000 in
theorem gL_law_L_set : GoodIn wsL_law (va_wsS RL 94 yL_set wsL_set) := goodIn_app (goodIn_of _ (by decide +kernel)) ggL_law_L_set
set_option maxRecDepth 20000 in
theorem ggL_law_X2_set : GoodIn wsL_law wsX2_set := goodIn_r _ [394, 51, 49, 57, 58, 84, 85, 5, 86, 87, 88, 89, 344, 345, 346, 93, 94, 95, 96, 97, 363, 364, 365, 366, 62, 347, 348, 349, 350, 343, 54, 351, 352, 353, 354, 52, 355, 356, 357, 358, 53, 359, 360, 361, 362, 55, 59, 395, 396, 397, 398, 563, 564, 565, 566, 567, 568, 569, 570, 571, 572, 573, 574, 575, 576, 577, 578] (by decide +kernel) (by decide +kernel)
set_option maxRecDepth 20000 in
theorem gL_law_X2_set : GoodIn wsL_law (wsV RL 96 RX2 yX2_set wsX2_set) := goodIn_app (goodIn_of _ (by decide +kernel)) ggL_law_X2_set
set_option maxRecDepth 20000 in
theorem ggL_law_L_give : GoodIn wsL_law wsL_give := goodIn_ca (goodIn_r _ [401, 67, 402, 403, 404, 2, 405, 14, 16, 72, 73, 74, 75, 76, 189, 190, 191, 77, 78, 79, 192, 193, 194, 335, 336, 337, 338, 25, 157, 158, 159, 160, 161, 162, 163, 164, 165, 166, 167, 168, 169, 170, 171, 172, 173, 174, 242, 243, 244, 245, 15, 246, 247, 248, 249, 20, 219, 220, 221, 222, 223, 19, 224, 225, 226, 227, 228, 229, 230, 231, 232, 233, 234, 235, 236, 237, 238, 239, 240, 241, 30, 202, 203, 204, 250, 251, 252, 214, 253, 254, 255, 256, 257, 258, 259, 260, 261, 262, 263, 383, 384, 385, 386, 205, 206, 207, 215, 216, 217, 218, 387, 388, 389, 390, 272, 555, 556, 557, 558, 559, 560, 561, 562, 582, 583, 584, 585, 586, 587, 579, 580, 581] (by decide +kernel) (by decide +kernel)) (goodIn_sub (fun _ h => List.mem_append_left _ (List.mem_append_right _ h)) (by decide +kernel))
set_option maxRecDepth 20000 in
theorem gL_law_L_give : GoodIn wsL_law (va_wsS RL 97 yL_give wsL_give) := goodIn_app (goodIn_of _ (by decide +kernel)) ggL_law_L_give
set_option maxRecDepth 20000 in
theorem ggL_law_X2_give : GoodIn wsL_law wsX2_give := goodIn_r _ [409, 51, 49, 53, 57, 84, 85, 5, 86, 87, 88, 89, 90, 91, 92, 344, 345, 346, 93, 94, 95, 96, 97, 363, 364, 365, 366, 62, 179, 180, 181, 351, 352, 353, 354, 52, 355, 356, 357, 358, 343, 54, 359, 360, 361, 362, 55, 59, 347, 348, 349, 350, 395, 396, 397, 398, 58, 563, 564, 565, 566, 567, 568, 569, 570, 571, 572, 573, 574, 575, 576, 577, 578] (by decide +kernel) (by decide +kernel)
set_option maxRecDepth 20000 in
theorem gL_law_X2_give : GoodIn wsL_law (wsV RL 99 RX2 yX2_give wsX2_give) := goodIn_app (goodIn_of _ (by decide +kernel)) ggL_law_X2_give
set_option maxRecDepth 20000 in
theorem ggL_law_L_trim : GoodIn wsL_law wsL_trim := goodIn_ca (goodIn_r _ [412, 67, 413, 414, 415, 2, 416, 14, 72, 73, 74, 75, 76, 192, 193, 194, 109, 110, 111, 335, 336, 337, 338, 25, 383, 384, 385, 386, 20, 219, 205, 206, 207, 215, 216, 217, 218, 220, 221, 222, 223, 19, 224, 225, 226, 227, 228, 229, 230, 231, 232, 233, 234, 235, 236, 237, 238, 239, 240, 241, 30, 417, 418, 419, 214, 420, 255, 256, 555, 556, 557, 558, 559, 560, 561, 562, 582, 583, 584, 585, 586, 587, 579, 580, 581] (by decide +kernel) (by decide +kernel)) (goodIn_sub (fun _ h => List.mem_append_left _ (List.mem_append_right _ h)) (by decide +kernel))
set_option maxRecDepth 20000 in
theorem gL_law_L_trim : GoodIn wsL_law (va_wsS RL 100 yL_trim wsL_trim) := goodIn_app (goodIn_of _ (by decide +kernel)) ggL_law_L_trim
set_option maxRecDepth 20000 in
theorem ggL_law_X2_trim : GoodIn wsL_law wsX2_trim := goodIn_r _ [424, 51, 49, 57, 84, 85, 5, 86, 87, 88, 89, 344, 345, 346, 93, 94, 95, 96, 97, 363, 364, 365, 366, 62, 347, 348, 349, 350, 343, 54, 563, 564, 565, 566, 567, 568, 569, 570, 571, 572, 573, 574, 575, 576, 577, 578] (by decide +kernel) (by decide +kernel)
set_option maxRecDepth 20000 in
theorem gL_law_X2_trim : GoodIn wsL_law (wsV RL 103 RX2 yX2_trim wsX2_trim) := goodIn_app (goodIn_of _ (by decide +kernel)) ggL_law_X2_trim
set_option maxRecDepth 20000 in
theorem ggL_law_L_remove : GoodIn wsL_law wsL_remove := goodIn_ca (goodIn_r _ [427, 67, 428, 429, 430, 2, 431, 14, 20, 72, 73, 74, 75, 76, 192, 193, 194, 335, 336, 337, 338, 25, 205, 206, 207, 215, 216, 217, 218, 219, 220, 221, 222, 223, 19, 224, 225, 226, 227, 228, 229, 230, 231, 232, 233, 234, 235, 236, 237, 238, 239, 240, 241, 30, 432, 433, 434, 435, 436, 437, 438, 439, 283, 284, 285, 286, 287, 288, 555, 556, 557, 558, 559, 560, 561, 562, 582, 583, 584, 585, 586, 587, 579, 580, 581] (by decide +kernel) (by decide +kernel)) (goodIn_sub (fun _ h => List.mem_append_left _ (List.mem_append_right _ h)) (by decide +kernel))
set_option maxRecDepth 20000 in
theorem gL_law_L_remove : GoodIn wsL_law (va_wsS RL 104 yL_remove wsL_remove) := goodIn_app (goodIn_of _ (by decide +kernel)) ggL_law_L_remove
set_option maxRecDepth 20000 in
theorem ggL_law_X2_remove : GoodIn wsL_law wsX2_remove := goodIn_r _ [443, 51, 49, 343, 84, 85, 5, 86, 87, 88, 89, 344, 345, 346, 93, 94, 95, 96, 97, 363, 364, 365, 366, 62, 347, 348, 349, 350, 54, 444, 445, 446, 447, 55, 56, 57, 58, 59, 563, 564, 565, 566, 567, 568, 569, 570, 571, 572, 573, 574, 575, 576, 577, 578] (by decide +kernel) (by decide +kernel)
set_option maxRecDepth 20000 in
theorem gL_law_X2_remove : GoodIn wsL_law (wsV RL 106 RX2 yX2_remove wsX2_remove) := goodIn_app (goodIn_of _ (by decide +kernel)) ggL_law_X2_remove
set_option maxRecDepth 20000 in
theorem ggL_law_L_read : GoodIn wsL_law wsL_read := goodIn_ca (goodIn_r _ [450, 67, 451, 452, 453, 2, 454, 378, 379, 72, 73, 74, 75, 76, 189, 190, 191, 77, 78, 79, 192, 193, 194, 380, 381, 382, 335, 336, 337, 338, 25, 455, 456, 457, 458, 14, 157, 158, 159, 160, 161, 162, 163, 164, 165, 166, 167, 168, 169, 170, 171, 172, 173, 174, 383, 384, 385, 386, 20, 219, 205, 206, 207, 215, 216, 217, 218, 220, 221, 222, 223, 19, 224, 225, 226, 227, 228, 229, 230, 231, 232, 233, 234, 235, 236, 237, 238, 239, 240, 241, 30, 459, 460, 461, 462, 24, 582, 583, 584, 585, 586, 587, 555, 556, 557, 558, 559, 560, 561, 562, 579, 580, 581] (by decide +kernel) (by decide +kernel)) (goodIn_sub (fun _ h => List.mem_append_left _ (List.mem_append_right _ h)) (by decide +kernel))
set_option maxRecDepth 20000 in
theorem gL_law_L_read : GoodIn wsL_law (va_wsS RL 107 yL_read wsL_read) := goodIn_app (goodIn_of _ (by decide +kernel)) ggL_law_L_read
set_option maxRecDepth 20000 in
theorem ggL_law_X2_read : GoodIn wsL_law wsX2_read := goodIn_r _ [466, 57, 61, 58, 62, 84, 85, 5, 86, 87, 88, 89, 90, 91, 92, 344, 345, 346, 93, 94, 95, 96, 97, 467, 468, 469, 470, 51, 49, 363, 364, 365, 366, 179, 180, 181, 347, 348, 349, 350, 343, 54, 563, 564, 565, 566, 567, 568, 569, 570, 571, 572, 573, 574, 575, 576, 577, 578] (by decide +kernel) (by decide +kernel)
set_option maxRecDepth 20000 in
theorem gL_law_X2_read : GoodIn wsL_law (wsV RL 109 RX2 yX2_read wsX2_read) := goodIn_app (goodIn_of _ (by decide +kernel)) ggL_law_X2_read
set_option maxRecDepth 20000 in
theorem ggL_law_L_size : GoodIn wsL_law wsL_size := goodIn_ca (goodIn_r _ [473, 67, 474, 475, 476, 2, 477, 378, 72, 73, 74, 75, 76, 189, 190, 191, 77, 78, 79, 192, 193, 194, 335, 336, 337, 338, 25, 455, 456, 457, 458, 14, 157, 158, 159, 160, 161, 162, 163, 164, 165, 166, 167, 168, 169, 170, 171, 172, 173, 174, 383, 384, 385, 386, 20, 219, 205, 206, 207, 215, 216, 217, 218, 220, 221, 222, 223, 19, 224, 225, 226, 227, 228, 229, 230, 231, 232, 233, 234, 235, 236, 237, 238, 239, 240, 241, 30, 582, 583, 584, 585, 586, 587, 555, 556, 557, 558, 559, 560, 561, 562, 579, 580, 581] (by decide +kernel) (by decide +kernel)) (goodIn_sub (fun _ h => List.mem_append_left _ (List.mem_append_right _ h)) (by decide +kernel))
set_option maxRecDepth 20000 in
theorem gL_law_L_size : GoodIn wsL_law (va_wsS RL 110 yL_size wsL_size) := goodIn_app (goodIn_of _ (by decide +kernel)) ggL_law_L_size
set_option maxRecDepth 20000 in
theorem ggL_law_X2_size : GoodIn wsL_law wsX2_size := goodIn_r _ [481, 57, 84, 85, 5, 86, 87, 88, 89, 90, 91, 92, 344, 345, 346, 93, 94, 95, 96, 97, 467, 468, 469, 470, 51, 49, 363, 364, 365, 366, 62, 179, 180, 181, 347, 348, 349, 350, 343, 54, 563, 564, 565, 566, 567, 568, 569, 570, 571, 572, 573, 574, 575, 576, 577, 578] (by decide +kernel) (by decide +kernel)
set_option maxRecDepth 20000 in
theorem gL_law_X2_size : GoodIn wsL_law (wsV RL 112 RX2 yX2_size wsX2_size) := goodIn_app (goodIn_of _ (by decide +kernel)) ggL_law_X2_size
set_option maxRecDepth 20000 in
theorem ggL_law_L_there : GoodIn wsL_law wsL_there := goodIn_ca (goodIn_r _ [484, 67, 485, 486, 487, 2, 488, 72, 73, 74, 75, 76, 189, 190, 191, 77, 78, 79, 192, 193, 194, 335, 336, 337, 338, 25, 455, 456, 457, 458, 14, 157, 158, 159, 160, 161, 162, 163, 164, 165, 166, 167, 168, 169, 170, 171, 172, 173, 174, 383, 384, 385, 386, 20, 219, 205, 206, 207, 215, 216, 217, 218, 220, 221, 222, 223, 19, 224, 225, 226, 227, 228, 229, 230, 231, 232, 233, 234, 235, 236, 237, 238, 239, 240, 241, 30, 555, 556, 557, 558, 559, 560, 561, 562, 582, 583, 584, 585, 586, 587, 579, 580, 581] (by decide +kernel) (by decide +kernel)) (goodIn_sub (fun _ h => List.mem_append_left _ (List.mem_append_right _ h)) (by decide +kernel))
set_option maxRecDepth 20000 in
theorem gL_law_L_there : GoodIn wsL_law (va_wsS RL 113 yL_there wsL_there) := goodIn_app (goodIn_of _ (by decide +kernel)) ggL_law_L_there
set_option maxRecDepth 20000 in
theorem ggL_law_X2_there : GoodIn wsL_law wsX2_there := goodIn_r _ [492, 84, 85, 5, 86, 87, 88, 89, 90, 91, 92, 344, 345, 346, 93, 94, 95, 96, 97, 467, 468, 469, 470, 51, 49, 363, 364, 365, 366, 62, 179, 180, 181, 347, 348, 349, 350, 343, 54, 563, 564, 565, 566, 567, 568, 569, 570, 571, 572, 573, 574, 575, 576, 577, 578] (by decide +kernel) (by decide +kernel)
set_option maxRecDepth 20000 in
theorem gL_law_X2_there : GoodIn wsL_law (wsV RL 115 RX2 yX2_there wsX2_there) := goodIn_app (goodIn_of _ (by decide +kernel)) ggL_law_X2_there
set_option maxRecDepth 20000 in
theorem ggL_law_L_listed : GoodIn wsL_law wsL_listed := goodIn_ca (goodIn_r _ [495, 67, 496, 497, 498, 2, 499, 25, 72, 73, 74, 75, 76, 189, 190, 191, 77, 78, 79, 192, 193, 194, 335, 336, 337, 338, 455, 456, 457, 458, 14, 157, 158, 159, 160, 161, 162, 163, 164, 165, 166, 167, 168, 169, 170, 171, 172, 173, 174, 205, 206, 207, 500, 501, 502, 503, 20, 219, 504, 220, 221, 222, 223, 19, 224, 225, 226, 227, 228, 229, 230, 231, 232, 233, 234, 235, 236, 237, 238, 239, 240, 241, 30, 202, 203, 204, 459, 460, 461, 462, 24, 555, 556, 557, 558, 559, 560, 561, 562, 582, 583, 584, 585, 586, 587, 579, 580, 581] (by decide +kernel) (by decide +kernel)) (goodIn_sub (fun _ h => List.mem_append_left _ (List.mem_append_right _ h)) (by decide +kernel))
set_option maxRecDepth 20000 in
theorem gL_law_L_listed : GoodIn wsL_law (va_wsS RL 116 yL_listed wsL_listed) := goodIn_app (goodIn_of _ (by decide +kernel)) ggL_law_L_listed
set_option maxRecDepth 20000 in
theorem ggL_law_X2_listed : GoodIn wsL_law wsX2_listed := goodIn_r _ [508, 343, 56, 54, 49, 61, 62, 84, 85, 5, 86, 87, 88, 89, 90, 91, 92, 344, 345, 346, 93, 94, 95, 96, 97, 467, 468, 469, 470, 51, 363, 364, 365, 366, 179, 180, 181, 563, 564, 565, 566, 567, 568, 569, 570, 571, 572, 573, 574, 575, 576, 577, 578] (by decide +kernel) (by decide +kernel)
set_option maxRecDepth 20000 in
theorem gL_law_X2_listed : GoodIn wsL_law (wsV RL 118 RX2 yX2_listed wsX2_listed) := goodIn_app (goodIn_of _ (by decide +kernel)) ggL_law_X2_listed
set_option maxRecDepth 20000 in
theorem ggL_law_L_release : GoodIn wsL_law wsL_release := goodIn_ca (goodIn_ca (goodIn_r _ [511, 67, 119, 512, 513, 514, 2, 515, 124, 125, 72, 73, 74, 75, 76, 189, 190, 191, 77, 78, 79, 192, 193, 194, 516, 517, 518, 519, 14, 378, 212, 213, 214, 126, 127, 128, 129, 130, 131, 132, 22, 21, 383, 384, 385, 386, 20, 219, 205, 206, 207, 215, 216, 217, 218, 220, 221, 222, 223, 19, 224, 225, 226, 227, 228, 229, 230, 231, 232, 233, 234, 235, 236, 237, 238, 239, 240, 241, 30, 250, 251, 252, 253, 254, 255, 256, 257, 258, 259, 260, 261, 262, 263, 242, 243, 244, 245, 15, 246, 247, 248, 249, 16, 202, 203, 204, 264, 265, 266, 267, 268, 269, 270, 271, 11, 12, 13, 272, 273, 274, 275, 276, 277, 278, 279, 280, 281, 282, 283, 284, 285, 286, 287, 288, 289, 290, 291, 292, 293, 294, 295, 296, 297, 298, 299, 300, 29, 301, 302, 303, 304, 305, 306, 307, 308, 309, 310, 311, 312, 313, 314, 315, 316, 43, 317, 318, 319, 320, 321, 322, 323, 324, 325, 326, 327, 328, 329, 330, 520, 521, 522, 523, 524, 335, 336, 337, 338, 25, 555, 556, 557, 558, 559, 560, 561, 562, 582, 583, 584, 585, 586, 587, 579, 580, 581] (by decide +kernel) (by decide +kernel)) (goodIn_sub (fun _ h => List.mem_append_right _ h) (by decide +kernel))) (goodIn_sub (fun _ h => List.mem_append_left _ (List.mem_append_right _ h)) (by decide +kernel))
set_option maxRecDepth 20000 in
theorem gL_law_L_release : GoodIn wsL_law (va_wsS RL 119 yL_release wsL_release) := goodIn_app (goodIn_of _ (by decide +kernel)) ggL_law_L_release
set_option maxRecDepth 20000 in
theorem ggL_law_X2_release : GoodIn wsL_law wsX2_release := goodIn_r _ [528, 51, 57, 52, 343, 55, 58, 84, 85, 5, 86, 87, 88, 89, 90, 91, 92, 344, 345, 346, 93, 94, 95, 96, 97, 146, 147, 148, 149, 145, 60, 347, 348, 349, 350, 54, 355, 356, 357, 358, 53, 359, 360, 361, 362, 59, 363, 364, 365, 366, 62, 367, 368, 369, 370, 56, 395, 396, 397, 398, 563, 564, 565, 566, 567, 568, 569, 570, 571, 572, 573, 574, 575, 576, 577, 578] (by decide +kernel) (by decide +kernel)
set_option maxRecDepth 20000 in
theorem gL_law_X2_release : GoodIn wsL_law (wsV RL 121 RX2 yX2_release wsX2_release) := goodIn_app (goodIn_of _ (by decide +kernel)) ggL_law_X2_release
set_option maxRecDepth 20000 in
theorem ggL_law_L_seen : GoodIn wsL_law wsL_seen := goodIn_ca (goodIn_r _ [531, 67, 532, 533, 534, 2, 535, 25, 24, 72, 73, 74, 75, 76, 555, 556, 557, 558, 559, 560, 561, 562] (by decide +kernel) (by decide +kernel)) (goodIn_sub (fun _ h => List.mem_append_left _ (List.mem_append_right _ h)) (by decide +kernel))
set_option maxRecDepth 20000 in
theorem gL_law_L_seen : GoodIn wsL_law (va_wsS RL 122 yL_seen wsL_seen) := goodIn_app (goodIn_of _ (by decide +kernel)) ggL_law_L_seen
set_option maxRecDepth 20000 in
theorem ggL_law_X2_seen : GoodIn wsL_law wsX2_seen := goodIn_r _ [539, 62, 61, 84, 85, 5, 86, 87, 88, 89, 93, 94, 95, 96, 97, 563, 564, 565, 566, 567, 568, 569, 570, 571, 572, 573, 574, 575, 576, 577, 578] (by decide +kernel) (by decide +kernel)
set_option maxRecDepth 20000 in
theorem gL_law_X2_seen : GoodIn wsL_law (wsV RL 124 RX2 yX2_seen wsX2_seen) := goodIn_app (goodIn_of _ (by decide +kernel)) ggL_law_X2_seen
set_option maxRecDepth 20000 in
theorem ggL_law_L_told : GoodIn wsL_law wsL_told := goodIn_ca (goodIn_r _ [542, 67, 543, 544, 545, 2, 546, 75, 76, 16, 15, 77, 78, 79, 246, 247, 248, 249, 20, 219, 220, 221, 222, 223, 19, 224, 225, 226, 227, 228, 229, 230, 231, 232, 233, 234, 235, 236, 237, 238, 239, 240, 241, 30, 202, 203, 204, 250, 251, 252, 214, 253, 254, 255, 256, 257, 258, 259, 260, 261, 262, 263, 547, 548, 549, 550, 555, 556, 557, 558, 559, 560, 561, 562, 582, 583, 584, 585, 586, 587, 579, 580, 581] (by decide +kernel) (by decide +kernel)) (goodIn_sub (fun _ h => List.mem_append_left _ (List.mem_append_right _ h)) (by decide +kernel))
set_option maxRecDepth 20000 in
theorem gL_law_L_told : GoodIn wsL_law (va_wsS RL 125 yL_told wsL_told) := goodIn_app (goodIn_of _ (by decide +kernel)) ggL_law_L_told
set_option maxRecDepth 20000 in
theorem ggL_law_X2_told : GoodIn wsL_law wsX2_told := goodIn_r _ [554, 343, 54, 53, 52, 90, 91, 5, 92, 87, 88, 89, 93, 94, 95, 96, 97, 355, 356, 357, 358, 359, 360, 361, 362, 55, 57, 59, 563, 564, 565, 566, 567, 568, 569, 570, 571, 572, 573, 574, 575, 576, 577, 578] (by decide +kernel) (by decide +kernel)
set_option maxRecDepth 20000 in
theorem gL_law_X2_told : GoodIn wsL_law (wsV RL 127 RX2 yX2_told wsX2_told) := goodIn_app (goodIn_of _ (by decide +kernel)) ggL_law_X2_told
theorem dL_law_0 : decode cL_law 0 = .ok (.new 8, 3) := by decide +kernel
theorem dL_law_3 : decode cL_law 3 = .ok (.dup, 1) := by decide +kernel
theorem dL_law_4 : decode cL_law 4 = .ok (.invokespecial 66, 3) := by decide +kernel
theorem dL_law_7 : decode cL_law 7 = .ok (.astore_n 1, 1) := by decide +kernel
theorem dL_law_8 : decode cL_law 8 = .ok (.new 67, 3) := by decide +kernel
theorem dL_law_11 : decode cL_law 11 = .ok (.dup, 1) := by decide +kernel
theorem dL_law_12 : decode cL_law 12 = .ok (.invokespecial 69, 3) := by decide +kernel
theorem dL_law_15 : decode cL_law 15 = .ok (.astore_n 2, 1) := by decide +kernel
theorem dL_law_16 : decode cL_law 16 = .ok (.iconst 1, 1) := by decide +kernel
theorem dL_law_17 : decode cL_law 17 = .ok (.newarray .long, 2) := by decide +kernel
theorem dL_law_19 : decode cL_law 19 = .ok (.astore_n 3, 1) := by decide +kernel
theorem dL_law_20 : decode cL_law 20 = .ok (.iconst 0, 1) := by decide +kernel
theorem dL_law_21 : decode cL_law 21 = .ok (.istore 4, 2) := by decide +kernel
theorem dL_law_23 : decode cL_law 23 = .ok (.iload 4, 2) := by decide +kernel
theorem dL_law_25 : decode cL_law 25 = .ok (.aload_n 0, 1) := by decide +kernel
theorem dL_law_26 : decode cL_law 26 = .ok (.arraylength, 1) := by decide +kernel
theorem dL_law_27 : decode cL_law 27 = .ok (.iconst 5, 1) := by decide +kernel
theorem dL_law_28 : decode cL_law 28 = .ok (.isub, 1) := by decide +kernel
theorem dL_law_29 : decode cL_law 29 = .ok (.if_icmp .gt 1410, 3) := by decide +kernel
theorem dL_law_32 : decode cL_law 32 = .ok (.aload_n 0, 1) := by decide +kernel
theorem dL_law_33 : decode cL_law 33 = .ok (.iload 4, 2) := by decide +kernel
theorem dL_law_35 : decode cL_law 35 = .ok (.iaload, 1) := by decide +kernel
theorem dL_law_36 : decode cL_law 36 = .ok (.bipush 15, 2) := by decide +kernel
theorem dL_law_38 : decode cL_law 38 = .ok (.iand, 1) := by decide +kernel
theorem dL_law_39 : decode cL_law 39 = .ok (.tableswitch 1394 0 15 #[77, 152, 220, 335, 410, 502, 594, 686, 766, 834, 926, 1006, 1086, 1166, 1258, 1326], 77) := by decide +kernel
theorem dL_law_116 : decode cL_law 116 = .ok (.aload_n 1, 1) := by decide +kernel
theorem dL_law_117 : decode cL_law 117 = .ok (.aload_n 0, 1) := by decide +kernel
theorem dL_law_118 : decode cL_law 118 = .ok (.iload 4, 2) := by decide +kernel
theorem dL_law_120 : decode cL_law 120 = .ok (.iconst 1, 1) := by decide +kernel
theorem dL_law_121 : decode cL_law 121 = .ok (.iadd, 1) := by decide +kernel
theorem dL_law_122 : decode cL_law 122 = .ok (.iaload, 1) := by decide +kernel
theorem dL_law_123 : decode cL_law 123 = .ok (.aload_n 0, 1) := by decide +kernel
theorem dL_law_124 : decode cL_law 124 = .ok (.iload 4, 2) := by decide +kernel
theorem dL_law_126 : decode cL_law 126 = .ok (.iconst 2, 1) := by decide +kernel
theorem dL_law_127 : decode cL_law 127 = .ok (.iadd, 1) := by decide +kernel
theorem dL_law_128 : decode cL_law 128 = .ok (.iaload, 1) := by decide +kernel
theorem dL_law_129 : decode cL_law 129 = .ok (.aload_n 3, 1) := by decide +kernel
theorem dL_law_130 : decode cL_law 130 = .ok (.invokestatic 70, 3) := by decide +kernel
theorem dL_law_133 : decode cL_law 133 = .ok (.istore 5, 2) := by decide +kernel
theorem dL_law_135 : decode cL_law 135 = .ok (.aload_n 2, 1) := by decide +kernel
theorem dL_law_136 : decode cL_law 136 = .ok (.aload_n 0, 1) := by decide +kernel
theorem dL_law_137 : decode cL_law 137 = .ok (.iload 4, 2) := by decide +kernel
theorem dL_law_139 : decode cL_law 139 = .ok (.iconst 1, 1) := by decide +kernel
theorem dL_law_140 : decode cL_law 140 = .ok (.iadd, 1) := by decide +kernel
theorem dL_law_141 : decode cL_law 141 = .ok (.iaload, 1) := by decide +kernel
theorem dL_law_142 : decode cL_law 142 = .ok (.aload_n 0, 1) := by decide +kernel
theorem dL_law_143 : decode cL_law 143 = .ok (.iload 4, 2) := by decide +kernel
theorem dL_law_145 : decode cL_law 145 = .ok (.iconst 2, 1) := by decide +kernel
theorem dL_law_146 : decode cL_law 146 = .ok (.iadd, 1) := by decide +kernel
theorem dL_law_147 : decode cL_law 147 = .ok (.iaload, 1) := by decide +kernel
theorem dL_law_148 : decode cL_law 148 = .ok (.invokevirtual 75, 3) := by decide +kernel
theorem dL_law_151 : decode cL_law 151 = .ok (.istore 6, 2) := by decide +kernel
theorem dL_law_153 : decode cL_law 153 = .ok (.aload_n 2, 1) := by decide +kernel
theorem dL_law_154 : decode cL_law 154 = .ok (.invokevirtual 76, 3) := by decide +kernel
theorem dL_law_157 : decode cL_law 157 = .ok (.iload 5, 2) := by decide +kernel
theorem dL_law_159 : decode cL_law 159 = .ok (.if_icmp .eq 5, 3) := by decide +kernel
theorem dL_law_162 : decode cL_law 162 = .ok (.iconst 0, 1) := by decide +kernel
theorem dL_law_163 : decode cL_law 163 = .ok (.ireturn, 1) := by decide +kernel
theorem dL_law_164 : decode cL_law 164 = .ok (.iload 5, 2) := by decide +kernel
theorem dL_law_166 : decode cL_law 166 = .ok (.ifCond .ne 22, 3) := by decide +kernel
theorem dL_law_169 : decode cL_law 169 = .ok (.aload_n 3, 1) := by decide +kernel
theorem dL_law_170 : decode cL_law 170 = .ok (.iconst 0, 1) := by decide +kernel
theorem dL_law_171 : decode cL_law 171 = .ok (.laload, 1) := by decide +kernel
theorem dL_law_172 : decode cL_law 172 = .ok (.iload 6, 2) := by decide +kernel
theorem dL_law_174 : decode cL_law 174 = .ok (.ifCond .eq 7, 3) := by decide +kernel
theorem dL_law_177 : decode cL_law 177 = .ok (.lconst 1, 1) := by decide +kernel
theorem dL_law_178 : decode cL_law 178 = .ok (.goto 4, 3) := by decide +kernel
theorem dL_law_181 : decode cL_law 181 = .ok (.lconst 0, 1) := by decide +kernel
theorem dL_law_182 : decode cL_law 182 = .ok (.lcmp, 1) := by decide +kernel
theorem dL_law_183 : decode cL_law 183 = .ok (.ifCond .eq 5, 3) := by decide +kernel
theorem dL_law_186 : decode cL_law 186 = .ok (.iconst 0, 1) := by decide +kernel
theorem dL_law_187 : decode cL_law 187 = .ok (.ireturn, 1) := by decide +kernel
theorem dL_law_188 : decode cL_law 188 = .ok (.goto 1245, 3) := by decide +kernel
theorem dL_law_191 : decode cL_law 191 = .ok (.aload_n 1, 1) := by decide +kernel
theorem dL_law_192 : decode cL_law 192 = .ok (.aload_n 0, 1) := by decide +kernel
theorem dL_law_193 : decode cL_law 193 = .ok (.iload 4, 2) := by decide +kernel
theorem dL_law_195 : decode cL_law 195 = .ok (.iconst 1, 1) := by decide +kernel
theorem dL_law_196 : decode cL_law 196 = .ok (.iadd, 1) := by decide +kernel
theorem dL_law_197 : decode cL_law 197 = .ok (.iaload, 1) := by decide +kernel
theorem dL_law_198 : decode cL_law 198 = .ok (.aload_n 0, 1) := by decide +kernel
theorem dL_law_199 : decode cL_law 199 = .ok (.iload 4, 2) := by decide +kernel
theorem dL_law_201 : decode cL_law 201 = .ok (.iconst 2, 1) := by decide +kernel
theorem dL_law_202 : decode cL_law 202 = .ok (.iadd, 1) := by decide +kernel
theorem dL_law_203 : decode cL_law 203 = .ok (.iaload, 1) := by decide +kernel
theorem dL_law_204 : decode cL_law 204 = .ok (.aload_n 3, 1) := by decide +kernel
theorem dL_law_205 : decode cL_law 205 = .ok (.invokestatic 80, 3) := by decide +kernel
theorem dL_law_208 : decode cL_law 208 = .ok (.istore 5, 2) := by decide +kernel
theorem dL_law_210 : decode cL_law 210 = .ok (.aload_n 2, 1) := by decide +kernel
theorem dL_law_211 : decode cL_law 211 = .ok (.aload_n 0, 1) := by decide +kernel
theorem dL_law_212 : decode cL_law 212 = .ok (.iload 4, 2) := by decide +kernel
theorem dL_law_214 : decode cL_law 214 = .ok (.iconst 1, 1) := by decide +kernel
theorem dL_law_215 : decode cL_law 215 = .ok (.iadd, 1) := by decide +kernel
theorem dL_law_216 : decode cL_law 216 = .ok (.iaload, 1) := by decide +kernel
theorem dL_law_217 : decode cL_law 217 = .ok (.aload_n 0, 1) := by decide +kernel
theorem dL_law_218 : decode cL_law 218 = .ok (.iload 4, 2) := by decide +kernel
theorem dL_law_220 : decode cL_law 220 = .ok (.iconst 2, 1) := by decide +kernel
theorem dL_law_221 : decode cL_law 221 = .ok (.iadd, 1) := by decide +kernel
theorem dL_law_222 : decode cL_law 222 = .ok (.iaload, 1) := by decide +kernel
theorem dL_law_223 : decode cL_law 223 = .ok (.invokevirtual 82, 3) := by decide +kernel
theorem dL_law_226 : decode cL_law 226 = .ok (.istore 6, 2) := by decide +kernel
theorem dL_law_228 : decode cL_law 228 = .ok (.aload_n 2, 1) := by decide +kernel
theorem dL_law_229 : decode cL_law 229 = .ok (.invokevirtual 76, 3) := by decide +kernel
theorem dL_law_232 : decode cL_law 232 = .ok (.iload 5, 2) := by decide +kernel
theorem dL_law_234 : decode cL_law 234 = .ok (.if_icmp .eq 5, 3) := by decide +kernel
theorem dL_law_237 : decode cL_law 237 = .ok (.iconst 0, 1) := by decide +kernel
theorem dL_law_238 : decode cL_law 238 = .ok (.ireturn, 1) := by decide +kernel
theorem dL_law_239 : decode cL_law 239 = .ok (.iload 5, 2) := by decide +kernel
theorem dL_law_241 : decode cL_law 241 = .ok (.ifCond .ne 15, 3) := by decide +kernel
theorem dL_law_244 : decode cL_law 244 = .ok (.aload_n 3, 1) := by decide +kernel
theorem dL_law_245 : decode cL_law 245 = .ok (.iconst 0, 1) := by decide +kernel
theorem dL_law_246 : decode cL_law 246 = .ok (.laload, 1) := by decide +kernel
theorem dL_law_247 : decode cL_law 247 = .ok (.iload 6, 2) := by decide +kernel
theorem dL_law_249 : decode cL_law 249 = .ok (.i2l, 1) := by decide +kernel
theorem dL_law_250 : decode cL_law 250 = .ok (.lcmp, 1) := by decide +kernel
theorem dL_law_251 : decode cL_law 251 = .ok (.ifCond .eq 5, 3) := by decide +kernel
theorem dL_law_254 : decode cL_law 254 = .ok (.iconst 0, 1) := by decide +kernel
theorem dL_law_255 : decode cL_law 255 = .ok (.ireturn, 1) := by decide +kernel
theorem dL_law_256 : decode cL_law 256 = .ok (.goto 1177, 3) := by decide +kernel
theorem dL_law_259 : decode cL_law 259 = .ok (.aload_n 1, 1) := by decide +kernel
theorem dL_law_260 : decode cL_law 260 = .ok (.aload_n 0, 1) := by decide +kernel
theorem dL_law_261 : decode cL_law 261 = .ok (.iload 4, 2) := by decide +kernel
theorem dL_law_263 : decode cL_law 263 = .ok (.iconst 1, 1) := by decide +kernel
theorem dL_law_264 : decode cL_law 264 = .ok (.iadd, 1) := by decide +kernel
theorem dL_law_265 : decode cL_law 265 = .ok (.iaload, 1) := by decide +kernel
theorem dL_law_266 : decode cL_law 266 = .ok (.aload_n 0, 1) := by decide +kernel
theorem dL_law_267 : decode cL_law 267 = .ok (.iload 4, 2) := by decide +kernel
theorem dL_law_269 : decode cL_law 269 = .ok (.iconst 2, 1) := by decide +kernel
theorem dL_law_270 : decode cL_law 270 = .ok (.iadd, 1) := by decide +kernel
theorem dL_law_271 : decode cL_law 271 = .ok (.iaload, 1) := by decide +kernel
theorem dL_law_272 : decode cL_law 272 = .ok (.aload_n 0, 1) := by decide +kernel
theorem dL_law_273 : decode cL_law 273 = .ok (.iload 4, 2) := by decide +kernel
theorem dL_law_275 : decode cL_law 275 = .ok (.iconst 3, 1) := by decide +kernel
theorem dL_law_276 : decode cL_law 276 = .ok (.iadd, 1) := by decide +kernel
theorem dL_law_277 : decode cL_law 277 = .ok (.iaload, 1) := by decide +kernel
theorem dL_law_278 : decode cL_law 278 = .ok (.aload_n 0, 1) := by decide +kernel
theorem dL_law_279 : decode cL_law 279 = .ok (.iload 4, 2) := by decide +kernel
theorem dL_law_281 : decode cL_law 281 = .ok (.iconst 4, 1) := by decide +kernel
theorem dL_law_282 : decode cL_law 282 = .ok (.iadd, 1) := by decide +kernel
theorem dL_law_283 : decode cL_law 283 = .ok (.iaload, 1) := by decide +kernel
theorem dL_law_284 : decode cL_law 284 = .ok (.ifCond .eq 7, 3) := by decide +kernel
theorem dL_law_287 : decode cL_law 287 = .ok (.iconst 1, 1) := by decide +kernel
theorem dL_law_288 : decode cL_law 288 = .ok (.goto 4, 3) := by decide +kernel
theorem dL_law_291 : decode cL_law 291 = .ok (.iconst 0, 1) := by decide +kernel
theorem dL_law_292 : decode cL_law 292 = .ok (.aload_n 3, 1) := by decide +kernel
theorem dL_law_293 : decode cL_law 293 = .ok (.invokestatic 83, 3) := by decide +kernel
theorem dL_law_296 : decode cL_law 296 = .ok (.istore 5, 2) := by decide +kernel
theorem dL_law_298 : decode cL_law 298 = .ok (.aload_n 2, 1) := by decide +kernel
theorem dL_law_299 : decode cL_law 299 = .ok (.aload_n 0, 1) := by decide +kernel
theorem dL_law_300 : decode cL_law 300 = .ok (.iload 4, 2) := by decide +kernel
theorem dL_law_302 : decode cL_law 302 = .ok (.iconst 1, 1) := by decide +kernel
theorem dL_law_303 : decode cL_law 303 = .ok (.iadd, 1) := by decide +kernel
theorem dL_law_304 : decode cL_law 304 = .ok (.iaload, 1) := by decide +kernel
theorem dL_law_305 : decode cL_law 305 = .ok (.aload_n 0, 1) := by decide +kernel
theorem dL_law_306 : decode cL_law 306 = .ok (.iload 4, 2) := by decide +kernel
theorem dL_law_308 : decode cL_law 308 = .ok (.iconst 2, 1) := by decide +kernel
theorem dL_law_309 : decode cL_law 309 = .ok (.iadd, 1) := by decide +kernel
theorem dL_law_310 : decode cL_law 310 = .ok (.iaload, 1) := by decide +kernel
theorem dL_law_311 : decode cL_law 311 = .ok (.aload_n 0, 1) := by decide +kernel
theorem dL_law_312 : decode cL_law 312 = .ok (.iload 4, 2) := by decide +kernel
theorem dL_law_314 : decode cL_law 314 = .ok (.iconst 3, 1) := by decide +kernel
theorem dL_law_315 : decode cL_law 315 = .ok (.iadd, 1) := by decide +kernel
theorem dL_law_316 : decode cL_law 316 = .ok (.iaload, 1) := by decide +kernel
theorem dL_law_317 : decode cL_law 317 = .ok (.aload_n 0, 1) := by decide +kernel
theorem dL_law_318 : decode cL_law 318 = .ok (.iload 4, 2) := by decide +kernel
theorem dL_law_320 : decode cL_law 320 = .ok (.iconst 4, 1) := by decide +kernel
theorem dL_law_321 : decode cL_law 321 = .ok (.iadd, 1) := by decide +kernel
theorem dL_law_322 : decode cL_law 322 = .ok (.iaload, 1) := by decide +kernel
theorem dL_law_323 : decode cL_law 323 = .ok (.ifCond .eq 7, 3) := by decide +kernel
theorem dL_law_326 : decode cL_law 326 = .ok (.iconst 1, 1) := by decide +kernel
theorem dL_law_327 : decode cL_law 327 = .ok (.goto 4, 3) := by decide +kernel
theorem dL_law_330 : decode cL_law 330 = .ok (.iconst 0, 1) := by decide +kernel
theorem dL_law_331 : decode cL_law 331 = .ok (.invokevirtual 86, 3) := by decide +kernel
theorem dL_law_334 : decode cL_law 334 = .ok (.istore 6, 2) := by decide +kernel
theorem dL_law_336 : decode cL_law 336 = .ok (.aload_n 2, 1) := by decide +kernel
theorem dL_law_337 : decode cL_law 337 = .ok (.invokevirtual 76, 3) := by decide +kernel
theorem dL_law_340 : decode cL_law 340 = .ok (.iload 5, 2) := by decide +kernel
theorem dL_law_342 : decode cL_law 342 = .ok (.if_icmp .eq 5, 3) := by decide +kernel
theorem dL_law_345 : decode cL_law 345 = .ok (.iconst 0, 1) := by decide +kernel
theorem dL_law_346 : decode cL_law 346 = .ok (.ireturn, 1) := by decide +kernel
theorem dL_law_347 : decode cL_law 347 = .ok (.iload 5, 2) := by decide +kernel
theorem dL_law_349 : decode cL_law 349 = .ok (.ifCond .ne 22, 3) := by decide +kernel
theorem dL_law_352 : decode cL_law 352 = .ok (.aload_n 3, 1) := by decide +kernel
theorem dL_law_353 : decode cL_law 353 = .ok (.iconst 0, 1) := by decide +kernel
theorem dL_law_354 : decode cL_law 354 = .ok (.laload, 1) := by decide +kernel
theorem dL_law_355 : decode cL_law 355 = .ok (.iload 6, 2) := by decide +kernel
theorem dL_law_357 : decode cL_law 357 = .ok (.ifCond .eq 7, 3) := by decide +kernel
theorem dL_law_360 : decode cL_law 360 = .ok (.lconst 1, 1) := by decide +kernel
theorem dL_law_361 : decode cL_law 361 = .ok (.goto 4, 3) := by decide +kernel
theorem dL_law_364 : decode cL_law 364 = .ok (.lconst 0, 1) := by decide +kernel
theorem dL_law_365 : decode cL_law 365 = .ok (.lcmp, 1) := by decide +kernel
theorem dL_law_366 : decode cL_law 366 = .ok (.ifCond .eq 5, 3) := by decide +kernel
theorem dL_law_369 : decode cL_law 369 = .ok (.iconst 0, 1) := by decide +kernel
theorem dL_law_370 : decode cL_law 370 = .ok (.ireturn, 1) := by decide +kernel
theorem dL_law_371 : decode cL_law 371 = .ok (.goto 1062, 3) := by decide +kernel
theorem dL_law_374 : decode cL_law 374 = .ok (.aload_n 1, 1) := by decide +kernel
theorem dL_law_375 : decode cL_law 375 = .ok (.aload_n 0, 1) := by decide +kernel
theorem dL_law_376 : decode cL_law 376 = .ok (.iload 4, 2) := by decide +kernel
theorem dL_law_378 : decode cL_law 378 = .ok (.iconst 1, 1) := by decide +kernel
theorem dL_law_379 : decode cL_law 379 = .ok (.iadd, 1) := by decide +kernel
theorem dL_law_380 : decode cL_law 380 = .ok (.iaload, 1) := by decide +kernel
theorem dL_law_381 : decode cL_law 381 = .ok (.aload_n 0, 1) := by decide +kernel
theorem dL_law_382 : decode cL_law 382 = .ok (.iload 4, 2) := by decide +kernel
theorem dL_law_384 : decode cL_law 384 = .ok (.iconst 2, 1) := by decide +kernel
theorem dL_law_385 : decode cL_law 385 = .ok (.iadd, 1) := by decide +kernel
theorem dL_law_386 : decode cL_law 386 = .ok (.iaload, 1) := by decide +kernel
theorem dL_law_387 : decode cL_law 387 = .ok (.aload_n 3, 1) := by decide +kernel
theorem dL_law_388 : decode cL_law 388 = .ok (.invokestatic 87, 3) := by decide +kernel
theorem dL_law_391 : decode cL_law 391 = .ok (.istore 5, 2) := by decide +kernel
theorem dL_law_393 : decode cL_law 393 = .ok (.aload_n 2, 1) := by decide +kernel
theorem dL_law_394 : decode cL_law 394 = .ok (.aload_n 0, 1) := by decide +kernel
theorem dL_law_395 : decode cL_law 395 = .ok (.iload 4, 2) := by decide +kernel
theorem dL_law_397 : decode cL_law 397 = .ok (.iconst 1, 1) := by decide +kernel
theorem dL_law_398 : decode cL_law 398 = .ok (.iadd, 1) := by decide +kernel
theorem dL_law_399 : decode cL_law 399 = .ok (.iaload, 1) := by decide +kernel
theorem dL_law_400 : decode cL_law 400 = .ok (.aload_n 0, 1) := by decide +kernel
theorem dL_law_401 : decode cL_law 401 = .ok (.iload 4, 2) := by decide +kernel
theorem dL_law_403 : decode cL_law 403 = .ok (.iconst 2, 1) := by decide +kernel
theorem dL_law_404 : decode cL_law 404 = .ok (.iadd, 1) := by decide +kernel
theorem dL_law_405 : decode cL_law 405 = .ok (.iaload, 1) := by decide +kernel
theorem dL_law_406 : decode cL_law 406 = .ok (.invokevirtual 89, 3) := by decide +kernel
theorem dL_law_409 : decode cL_law 409 = .ok (.istore 6, 2) := by decide +kernel
theorem dL_law_411 : decode cL_law 411 = .ok (.aload_n 2, 1) := by decide +kernel
theorem dL_law_412 : decode cL_law 412 = .ok (.invokevirtual 76, 3) := by decide +kernel
theorem dL_law_415 : decode cL_law 415 = .ok (.iload 5, 2) := by decide +kernel
theorem dL_law_417 : decode cL_law 417 = .ok (.if_icmp .eq 5, 3) := by decide +kernel
theorem dL_law_420 : decode cL_law 420 = .ok (.iconst 0, 1) := by decide +kernel
theorem dL_law_421 : decode cL_law 421 = .ok (.ireturn, 1) := by decide +kernel
theorem dL_law_422 : decode cL_law 422 = .ok (.iload 5, 2) := by decide +kernel
theorem dL_law_424 : decode cL_law 424 = .ok (.ifCond .ne 22, 3) := by decide +kernel
theorem dL_law_427 : decode cL_law 427 = .ok (.aload_n 3, 1) := by decide +kernel
theorem dL_law_428 : decode cL_law 428 = .ok (.iconst 0, 1) := by decide +kernel
theorem dL_law_429 : decode cL_law 429 = .ok (.laload, 1) := by decide +kernel
theorem dL_law_430 : decode cL_law 430 = .ok (.iload 6, 2) := by decide +kernel
theorem dL_law_432 : decode cL_law 432 = .ok (.ifCond .eq 7, 3) := by decide +kernel
theorem dL_law_435 : decode cL_law 435 = .ok (.lconst 1, 1) := by decide +kernel
theorem dL_law_436 : decode cL_law 436 = .ok (.goto 4, 3) := by decide +kernel
theorem dL_law_439 : decode cL_law 439 = .ok (.lconst 0, 1) := by decide +kernel
theorem dL_law_440 : decode cL_law 440 = .ok (.lcmp, 1) := by decide +kernel
theorem dL_law_441 : decode cL_law 441 = .ok (.ifCond .eq 5, 3) := by decide +kernel
theorem dL_law_444 : decode cL_law 444 = .ok (.iconst 0, 1) := by decide +kernel
theorem dL_law_445 : decode cL_law 445 = .ok (.ireturn, 1) := by decide +kernel
theorem dL_law_446 : decode cL_law 446 = .ok (.goto 987, 3) := by decide +kernel
theorem dL_law_449 : decode cL_law 449 = .ok (.aload_n 1, 1) := by decide +kernel
theorem dL_law_450 : decode cL_law 450 = .ok (.aload_n 0, 1) := by decide +kernel
theorem dL_law_451 : decode cL_law 451 = .ok (.iload 4, 2) := by decide +kernel
theorem dL_law_453 : decode cL_law 453 = .ok (.iconst 1, 1) := by decide +kernel
theorem dL_law_454 : decode cL_law 454 = .ok (.iadd, 1) := by decide +kernel
theorem dL_law_455 : decode cL_law 455 = .ok (.iaload, 1) := by decide +kernel
theorem dL_law_456 : decode cL_law 456 = .ok (.aload_n 0, 1) := by decide +kernel
theorem dL_law_457 : decode cL_law 457 = .ok (.iload 4, 2) := by decide +kernel
theorem dL_law_459 : decode cL_law 459 = .ok (.iconst 2, 1) := by decide +kernel
theorem dL_law_460 : decode cL_law 460 = .ok (.iadd, 1) := by decide +kernel
theorem dL_law_461 : decode cL_law 461 = .ok (.iaload, 1) := by decide +kernel
theorem dL_law_462 : decode cL_law 462 = .ok (.aload_n 0, 1) := by decide +kernel
theorem dL_law_463 : decode cL_law 463 = .ok (.iload 4, 2) := by decide +kernel
theorem dL_law_465 : decode cL_law 465 = .ok (.iconst 3, 1) := by decide +kernel
theorem dL_law_466 : decode cL_law 466 = .ok (.iadd, 1) := by decide +kernel
theorem dL_law_467 : decode cL_law 467 = .ok (.iaload, 1) := by decide +kernel
theorem dL_law_468 : decode cL_law 468 = .ok (.aload_n 0, 1) := by decide +kernel
theorem dL_law_469 : decode cL_law 469 = .ok (.iload 4, 2) := by decide +kernel
theorem dL_law_471 : decode cL_law 471 = .ok (.iconst 4, 1) := by decide +kernel
theorem dL_law_472 : decode cL_law 472 = .ok (.iadd, 1) := by decide +kernel
theorem dL_law_473 : decode cL_law 473 = .ok (.iaload, 1) := by decide +kernel
theorem dL_law_474 : decode cL_law 474 = .ok (.aload_n 3, 1) := by decide +kernel
theorem dL_law_475 : decode cL_law 475 = .ok (.invokestatic 90, 3) := by decide +kernel
theorem dL_law_478 : decode cL_law 478 = .ok (.istore 5, 2) := by decide +kernel
theorem dL_law_480 : decode cL_law 480 = .ok (.aload_n 2, 1) := by decide +kernel
theorem dL_law_481 : decode cL_law 481 = .ok (.aload_n 0, 1) := by decide +kernel
theorem dL_law_482 : decode cL_law 482 = .ok (.iload 4, 2) := by decide +kernel
theorem dL_law_484 : decode cL_law 484 = .ok (.iconst 1, 1) := by decide +kernel
theorem dL_law_485 : decode cL_law 485 = .ok (.iadd, 1) := by decide +kernel
theorem dL_law_486 : decode cL_law 486 = .ok (.iaload, 1) := by decide +kernel
theorem dL_law_487 : decode cL_law 487 = .ok (.aload_n 0, 1) := by decide +kernel
theorem dL_law_488 : decode cL_law 488 = .ok (.iload 4, 2) := by decide +kernel
theorem dL_law_490 : decode cL_law 490 = .ok (.iconst 2, 1) := by decide +kernel
theorem dL_law_491 : decode cL_law 491 = .ok (.iadd, 1) := by decide +kernel
theorem dL_law_492 : decode cL_law 492 = .ok (.iaload, 1) := by decide +kernel
theorem dL_law_493 : decode cL_law 493 = .ok (.aload_n 0, 1) := by decide +kernel
theorem dL_law_494 : decode cL_law 494 = .ok (.iload 4, 2) := by decide +kernel
theorem dL_law_496 : decode cL_law 496 = .ok (.iconst 3, 1) := by decide +kernel
theorem dL_law_497 : decode cL_law 497 = .ok (.iadd, 1) := by decide +kernel
theorem dL_law_498 : decode cL_law 498 = .ok (.iaload, 1) := by decide +kernel
theorem dL_law_499 : decode cL_law 499 = .ok (.aload_n 0, 1) := by decide +kernel
theorem dL_law_500 : decode cL_law 500 = .ok (.iload 4, 2) := by decide +kernel
theorem dL_law_502 : decode cL_law 502 = .ok (.iconst 4, 1) := by decide +kernel
theorem dL_law_503 : decode cL_law 503 = .ok (.iadd, 1) := by decide +kernel
theorem dL_law_504 : decode cL_law 504 = .ok (.iaload, 1) := by decide +kernel
theorem dL_law_505 : decode cL_law 505 = .ok (.invokevirtual 93, 3) := by decide +kernel
theorem dL_law_508 : decode cL_law 508 = .ok (.istore 6, 2) := by decide +kernel
theorem dL_law_510 : decode cL_law 510 = .ok (.aload_n 2, 1) := by decide +kernel
theorem dL_law_511 : decode cL_law 511 = .ok (.invokevirtual 76, 3) := by decide +kernel
theorem dL_law_514 : decode cL_law 514 = .ok (.iload 5, 2) := by decide +kernel
theorem dL_law_516 : decode cL_law 516 = .ok (.if_icmp .eq 5, 3) := by decide +kernel
theorem dL_law_519 : decode cL_law 519 = .ok (.iconst 0, 1) := by decide +kernel
theorem dL_law_520 : decode cL_law 520 = .ok (.ireturn, 1) := by decide +kernel
theorem dL_law_521 : decode cL_law 521 = .ok (.iload 5, 2) := by decide +kernel
theorem dL_law_523 : decode cL_law 523 = .ok (.ifCond .ne 15, 3) := by decide +kernel
theorem dL_law_526 : decode cL_law 526 = .ok (.aload_n 3, 1) := by decide +kernel
theorem dL_law_527 : decode cL_law 527 = .ok (.iconst 0, 1) := by decide +kernel
theorem dL_law_528 : decode cL_law 528 = .ok (.laload, 1) := by decide +kernel
theorem dL_law_529 : decode cL_law 529 = .ok (.iload 6, 2) := by decide +kernel
theorem dL_law_531 : decode cL_law 531 = .ok (.i2l, 1) := by decide +kernel
theorem dL_law_532 : decode cL_law 532 = .ok (.lcmp, 1) := by decide +kernel
theorem dL_law_533 : decode cL_law 533 = .ok (.ifCond .eq 5, 3) := by decide +kernel
theorem dL_law_536 : decode cL_law 536 = .ok (.iconst 0, 1) := by decide +kernel
theorem dL_law_537 : decode cL_law 537 = .ok (.ireturn, 1) := by decide +kernel
theorem dL_law_538 : decode cL_law 538 = .ok (.goto 895, 3) := by decide +kernel
theorem dL_law_541 : decode cL_law 541 = .ok (.aload_n 1, 1) := by decide +kernel
theorem dL_law_542 : decode cL_law 542 = .ok (.aload_n 0, 1) := by decide +kernel
theorem dL_law_543 : decode cL_law 543 = .ok (.iload 4, 2) := by decide +kernel
theorem dL_law_545 : decode cL_law 545 = .ok (.iconst 1, 1) := by decide +kernel
theorem dL_law_546 : decode cL_law 546 = .ok (.iadd, 1) := by decide +kernel
theorem dL_law_547 : decode cL_law 547 = .ok (.iaload, 1) := by decide +kernel
theorem dL_law_548 : decode cL_law 548 = .ok (.aload_n 0, 1) := by decide +kernel
theorem dL_law_549 : decode cL_law 549 = .ok (.iload 4, 2) := by decide +kernel
theorem dL_law_551 : decode cL_law 551 = .ok (.iconst 2, 1) := by decide +kernel
theorem dL_law_552 : decode cL_law 552 = .ok (.iadd, 1) := by decide +kernel
theorem dL_law_553 : decode cL_law 553 = .ok (.iaload, 1) := by decide +kernel
theorem dL_law_554 : decode cL_law 554 = .ok (.aload_n 0, 1) := by decide +kernel
theorem dL_law_555 : decode cL_law 555 = .ok (.iload 4, 2) := by decide +kernel
theorem dL_law_557 : decode cL_law 557 = .ok (.iconst 3, 1) := by decide +kernel
theorem dL_law_558 : decode cL_law 558 = .ok (.iadd, 1) := by decide +kernel
theorem dL_law_559 : decode cL_law 559 = .ok (.iaload, 1) := by decide +kernel
theorem dL_law_560 : decode cL_law 560 = .ok (.aload_n 0, 1) := by decide +kernel
theorem dL_law_561 : decode cL_law 561 = .ok (.iload 4, 2) := by decide +kernel
theorem dL_law_563 : decode cL_law 563 = .ok (.iconst 4, 1) := by decide +kernel
theorem dL_law_564 : decode cL_law 564 = .ok (.iadd, 1) := by decide +kernel
theorem dL_law_565 : decode cL_law 565 = .ok (.iaload, 1) := by decide +kernel
theorem dL_law_566 : decode cL_law 566 = .ok (.aload_n 3, 1) := by decide +kernel
theorem dL_law_567 : decode cL_law 567 = .ok (.invokestatic 94, 3) := by decide +kernel
theorem dL_law_570 : decode cL_law 570 = .ok (.istore 5, 2) := by decide +kernel
theorem dL_law_572 : decode cL_law 572 = .ok (.aload_n 2, 1) := by decide +kernel
theorem dL_law_573 : decode cL_law 573 = .ok (.aload_n 0, 1) := by decide +kernel
theorem dL_law_574 : decode cL_law 574 = .ok (.iload 4, 2) := by decide +kernel
theorem dL_law_576 : decode cL_law 576 = .ok (.iconst 1, 1) := by decide +kernel
theorem dL_law_577 : decode cL_law 577 = .ok (.iadd, 1) := by decide +kernel
theorem dL_law_578 : decode cL_law 578 = .ok (.iaload, 1) := by decide +kernel
theorem dL_law_579 : decode cL_law 579 = .ok (.aload_n 0, 1) := by decide +kernel
theorem dL_law_580 : decode cL_law 580 = .ok (.iload 4, 2) := by decide +kernel
theorem dL_law_582 : decode cL_law 582 = .ok (.iconst 2, 1) := by decide +kernel
theorem dL_law_583 : decode cL_law 583 = .ok (.iadd, 1) := by decide +kernel
theorem dL_law_584 : decode cL_law 584 = .ok (.iaload, 1) := by decide +kernel
theorem dL_law_585 : decode cL_law 585 = .ok (.aload_n 0, 1) := by decide +kernel
theorem dL_law_586 : decode cL_law 586 = .ok (.iload 4, 2) := by decide +kernel
theorem dL_law_588 : decode cL_law 588 = .ok (.iconst 3, 1) := by decide +kernel
theorem dL_law_589 : decode cL_law 589 = .ok (.iadd, 1) := by decide +kernel
theorem dL_law_590 : decode cL_law 590 = .ok (.iaload, 1) := by decide +kernel
theorem dL_law_591 : decode cL_law 591 = .ok (.aload_n 0, 1) := by decide +kernel
theorem dL_law_592 : decode cL_law 592 = .ok (.iload 4, 2) := by decide +kernel
theorem dL_law_594 : decode cL_law 594 = .ok (.iconst 4, 1) := by decide +kernel
theorem dL_law_595 : decode cL_law 595 = .ok (.iadd, 1) := by decide +kernel
theorem dL_law_596 : decode cL_law 596 = .ok (.iaload, 1) := by decide +kernel
theorem dL_law_597 : decode cL_law 597 = .ok (.invokevirtual 96, 3) := by decide +kernel
theorem dL_law_600 : decode cL_law 600 = .ok (.istore 6, 2) := by decide +kernel
theorem dL_law_602 : decode cL_law 602 = .ok (.aload_n 2, 1) := by decide +kernel
theorem dL_law_603 : decode cL_law 603 = .ok (.invokevirtual 76, 3) := by decide +kernel
theorem dL_law_606 : decode cL_law 606 = .ok (.iload 5, 2) := by decide +kernel
theorem dL_law_608 : decode cL_law 608 = .ok (.if_icmp .eq 5, 3) := by decide +kernel
theorem dL_law_611 : decode cL_law 611 = .ok (.iconst 0, 1) := by decide +kernel
theorem dL_law_612 : decode cL_law 612 = .ok (.ireturn, 1) := by decide +kernel
theorem dL_law_613 : decode cL_law 613 = .ok (.iload 5, 2) := by decide +kernel
theorem dL_law_615 : decode cL_law 615 = .ok (.ifCond .ne 15, 3) := by decide +kernel
theorem dL_law_618 : decode cL_law 618 = .ok (.aload_n 3, 1) := by decide +kernel
theorem dL_law_619 : decode cL_law 619 = .ok (.iconst 0, 1) := by decide +kernel
theorem dL_law_620 : decode cL_law 620 = .ok (.laload, 1) := by decide +kernel
theorem dL_law_621 : decode cL_law 621 = .ok (.iload 6, 2) := by decide +kernel
theorem dL_law_623 : decode cL_law 623 = .ok (.i2l, 1) := by decide +kernel
theorem dL_law_624 : decode cL_law 624 = .ok (.lcmp, 1) := by decide +kernel
theorem dL_law_625 : decode cL_law 625 = .ok (.ifCond .eq 5, 3) := by decide +kernel
theorem dL_law_628 : decode cL_law 628 = .ok (.iconst 0, 1) := by decide +kernel
theorem dL_law_629 : decode cL_law 629 = .ok (.ireturn, 1) := by decide +kernel
theorem dL_law_630 : decode cL_law 630 = .ok (.goto 803, 3) := by decide +kernel
theorem dL_law_633 : decode cL_law 633 = .ok (.aload_n 1, 1) := by decide +kernel
theorem dL_law_634 : decode cL_law 634 = .ok (.aload_n 0, 1) := by decide +kernel
theorem dL_law_635 : decode cL_law 635 = .ok (.iload 4, 2) := by decide +kernel
theorem dL_law_637 : decode cL_law 637 = .ok (.iconst 1, 1) := by decide +kernel
theorem dL_law_638 : decode cL_law 638 = .ok (.iadd, 1) := by decide +kernel
theorem dL_law_639 : decode cL_law 639 = .ok (.iaload, 1) := by decide +kernel
theorem dL_law_640 : decode cL_law 640 = .ok (.aload_n 0, 1) := by decide +kernel
theorem dL_law_641 : decode cL_law 641 = .ok (.iload 4, 2) := by decide +kernel
theorem dL_law_643 : decode cL_law 643 = .ok (.iconst 2, 1) := by decide +kernel
theorem dL_law_644 : decode cL_law 644 = .ok (.iadd, 1) := by decide +kernel
theorem dL_law_645 : decode cL_law 645 = .ok (.iaload, 1) := by decide +kernel
theorem dL_law_646 : decode cL_law 646 = .ok (.aload_n 0, 1) := by decide +kernel
theorem dL_law_647 : decode cL_law 647 = .ok (.iload 4, 2) := by decide +kernel
theorem dL_law_649 : decode cL_law 649 = .ok (.iconst 3, 1) := by decide +kernel
theorem dL_law_650 : decode cL_law 650 = .ok (.iadd, 1) := by decide +kernel
theorem dL_law_651 : decode cL_law 651 = .ok (.iaload, 1) := by decide +kernel
theorem dL_law_652 : decode cL_law 652 = .ok (.aload_n 0, 1) := by decide +kernel
theorem dL_law_653 : decode cL_law 653 = .ok (.iload 4, 2) := by decide +kernel
theorem dL_law_655 : decode cL_law 655 = .ok (.iconst 4, 1) := by decide +kernel
theorem dL_law_656 : decode cL_law 656 = .ok (.iadd, 1) := by decide +kernel
theorem dL_law_657 : decode cL_law 657 = .ok (.iaload, 1) := by decide +kernel
theorem dL_law_658 : decode cL_law 658 = .ok (.aload_n 3, 1) := by decide +kernel
theorem dL_law_659 : decode cL_law 659 = .ok (.invokestatic 97, 3) := by decide +kernel
theorem dL_law_662 : decode cL_law 662 = .ok (.istore 5, 2) := by decide +kernel
theorem dL_law_664 : decode cL_law 664 = .ok (.aload_n 2, 1) := by decide +kernel
theorem dL_law_665 : decode cL_law 665 = .ok (.aload_n 0, 1) := by decide +kernel
theorem dL_law_666 : decode cL_law 666 = .ok (.iload 4, 2) := by decide +kernel
theorem dL_law_668 : decode cL_law 668 = .ok (.iconst 1, 1) := by decide +kernel
theorem dL_law_669 : decode cL_law 669 = .ok (.iadd, 1) := by decide +kernel
theorem dL_law_670 : decode cL_law 670 = .ok (.iaload, 1) := by decide +kernel
theorem dL_law_671 : decode cL_law 671 = .ok (.aload_n 0, 1) := by decide +kernel
theorem dL_law_672 : decode cL_law 672 = .ok (.iload 4, 2) := by decide +kernel
theorem dL_law_674 : decode cL_law 674 = .ok (.iconst 2, 1) := by decide +kernel
theorem dL_law_675 : decode cL_law 675 = .ok (.iadd, 1) := by decide +kernel
theorem dL_law_676 : decode cL_law 676 = .ok (.iaload, 1) := by decide +kernel
theorem dL_law_677 : decode cL_law 677 = .ok (.aload_n 0, 1) := by decide +kernel
theorem dL_law_678 : decode cL_law 678 = .ok (.iload 4, 2) := by decide +kernel
theorem dL_law_680 : decode cL_law 680 = .ok (.iconst 3, 1) := by decide +kernel
theorem dL_law_681 : decode cL_law 681 = .ok (.iadd, 1) := by decide +kernel
theorem dL_law_682 : decode cL_law 682 = .ok (.iaload, 1) := by decide +kernel
theorem dL_law_683 : decode cL_law 683 = .ok (.aload_n 0, 1) := by decide +kernel
theorem dL_law_684 : decode cL_law 684 = .ok (.iload 4, 2) := by decide +kernel
theorem dL_law_686 : decode cL_law 686 = .ok (.iconst 4, 1) := by decide +kernel
theorem dL_law_687 : decode cL_law 687 = .ok (.iadd, 1) := by decide +kernel
theorem dL_law_688 : decode cL_law 688 = .ok (.iaload, 1) := by decide +kernel
theorem dL_law_689 : decode cL_law 689 = .ok (.invokevirtual 99, 3) := by decide +kernel
theorem dL_law_692 : decode cL_law 692 = .ok (.istore 6, 2) := by decide +kernel
theorem dL_law_694 : decode cL_law 694 = .ok (.aload_n 2, 1) := by decide +kernel
theorem dL_law_695 : decode cL_law 695 = .ok (.invokevirtual 76, 3) := by decide +kernel
theorem dL_law_698 : decode cL_law 698 = .ok (.iload 5, 2) := by decide +kernel
theorem dL_law_700 : decode cL_law 700 = .ok (.if_icmp .eq 5, 3) := by decide +kernel
theorem dL_law_703 : decode cL_law 703 = .ok (.iconst 0, 1) := by decide +kernel
theorem dL_law_704 : decode cL_law 704 = .ok (.ireturn, 1) := by decide +kernel
theorem dL_law_705 : decode cL_law 705 = .ok (.iload 5, 2) := by decide +kernel
theorem dL_law_707 : decode cL_law 707 = .ok (.ifCond .ne 15, 3) := by decide +kernel
theorem dL_law_710 : decode cL_law 710 = .ok (.aload_n 3, 1) := by decide +kernel
theorem dL_law_711 : decode cL_law 711 = .ok (.iconst 0, 1) := by decide +kernel
theorem dL_law_712 : decode cL_law 712 = .ok (.laload, 1) := by decide +kernel
theorem dL_law_713 : decode cL_law 713 = .ok (.iload 6, 2) := by decide +kernel
theorem dL_law_715 : decode cL_law 715 = .ok (.i2l, 1) := by decide +kernel
theorem dL_law_716 : decode cL_law 716 = .ok (.lcmp, 1) := by decide +kernel
theorem dL_law_717 : decode cL_law 717 = .ok (.ifCond .eq 5, 3) := by decide +kernel
theorem dL_law_720 : decode cL_law 720 = .ok (.iconst 0, 1) := by decide +kernel
theorem dL_law_721 : decode cL_law 721 = .ok (.ireturn, 1) := by decide +kernel
theorem dL_law_722 : decode cL_law 722 = .ok (.goto 711, 3) := by decide +kernel
theorem dL_law_725 : decode cL_law 725 = .ok (.aload_n 1, 1) := by decide +kernel
theorem dL_law_726 : decode cL_law 726 = .ok (.aload_n 0, 1) := by decide +kernel
theorem dL_law_727 : decode cL_law 727 = .ok (.iload 4, 2) := by decide +kernel
theorem dL_law_729 : decode cL_law 729 = .ok (.iconst 1, 1) := by decide +kernel
theorem dL_law_730 : decode cL_law 730 = .ok (.iadd, 1) := by decide +kernel
theorem dL_law_731 : decode cL_law 731 = .ok (.iaload, 1) := by decide +kernel
theorem dL_law_732 : decode cL_law 732 = .ok (.aload_n 0, 1) := by decide +kernel
theorem dL_law_733 : decode cL_law 733 = .ok (.iload 4, 2) := by decide +kernel
theorem dL_law_735 : decode cL_law 735 = .ok (.iconst 2, 1) := by decide +kernel
theorem dL_law_736 : decode cL_law 736 = .ok (.iadd, 1) := by decide +kernel
theorem dL_law_737 : decode cL_law 737 = .ok (.iaload, 1) := by decide +kernel
theorem dL_law_738 : decode cL_law 738 = .ok (.aload_n 0, 1) := by decide +kernel
theorem dL_law_739 : decode cL_law 739 = .ok (.iload 4, 2) := by decide +kernel
theorem dL_law_741 : decode cL_law 741 = .ok (.iconst 3, 1) := by decide +kernel
theorem dL_law_742 : decode cL_law 742 = .ok (.iadd, 1) := by decide +kernel
theorem dL_law_743 : decode cL_law 743 = .ok (.iaload, 1) := by decide +kernel
theorem dL_law_744 : decode cL_law 744 = .ok (.aload_n 3, 1) := by decide +kernel
theorem dL_law_745 : decode cL_law 745 = .ok (.invokestatic 100, 3) := by decide +kernel
theorem dL_law_748 : decode cL_law 748 = .ok (.istore 5, 2) := by decide +kernel
theorem dL_law_750 : decode cL_law 750 = .ok (.aload_n 2, 1) := by decide +kernel
theorem dL_law_751 : decode cL_law 751 = .ok (.aload_n 0, 1) := by decide +kernel
theorem dL_law_752 : decode cL_law 752 = .ok (.iload 4, 2) := by decide +kernel
theorem dL_law_754 : decode cL_law 754 = .ok (.iconst 1, 1) := by decide +kernel
theorem dL_law_755 : decode cL_law 755 = .ok (.iadd, 1) := by decide +kernel
theorem dL_law_756 : decode cL_law 756 = .ok (.iaload, 1) := by decide +kernel
theorem dL_law_757 : decode cL_law 757 = .ok (.aload_n 0, 1) := by decide +kernel
theorem dL_law_758 : decode cL_law 758 = .ok (.iload 4, 2) := by decide +kernel
theorem dL_law_760 : decode cL_law 760 = .ok (.iconst 2, 1) := by decide +kernel
theorem dL_law_761 : decode cL_law 761 = .ok (.iadd, 1) := by decide +kernel
theorem dL_law_762 : decode cL_law 762 = .ok (.iaload, 1) := by decide +kernel
theorem dL_law_763 : decode cL_law 763 = .ok (.aload_n 0, 1) := by decide +kernel
theorem dL_law_764 : decode cL_law 764 = .ok (.iload 4, 2) := by decide +kernel
theorem dL_law_766 : decode cL_law 766 = .ok (.iconst 3, 1) := by decide +kernel
theorem dL_law_767 : decode cL_law 767 = .ok (.iadd, 1) := by decide +kernel
theorem dL_law_768 : decode cL_law 768 = .ok (.iaload, 1) := by decide +kernel
theorem dL_law_769 : decode cL_law 769 = .ok (.invokevirtual 103, 3) := by decide +kernel
theorem dL_law_772 : decode cL_law 772 = .ok (.istore 6, 2) := by decide +kernel
theorem dL_law_774 : decode cL_law 774 = .ok (.aload_n 2, 1) := by decide +kernel
theorem dL_law_775 : decode cL_law 775 = .ok (.invokevirtual 76, 3) := by decide +kernel
theorem dL_law_778 : decode cL_law 778 = .ok (.iload 5, 2) := by decide +kernel
theorem dL_law_780 : decode cL_law 780 = .ok (.if_icmp .eq 5, 3) := by decide +kernel
theorem dL_law_783 : decode cL_law 783 = .ok (.iconst 0, 1) := by decide +kernel
theorem dL_law_784 : decode cL_law 784 = .ok (.ireturn, 1) := by decide +kernel
theorem dL_law_785 : decode cL_law 785 = .ok (.iload 5, 2) := by decide +kernel
theorem dL_law_787 : decode cL_law 787 = .ok (.ifCond .ne 15, 3) := by decide +kernel
theorem dL_law_790 : decode cL_law 790 = .ok (.aload_n 3, 1) := by decide +kernel
theorem dL_law_791 : decode cL_law 791 = .ok (.iconst 0, 1) := by decide +kernel
theorem dL_law_792 : decode cL_law 792 = .ok (.laload, 1) := by decide +kernel
theorem dL_law_793 : decode cL_law 793 = .ok (.iload 6, 2) := by decide +kernel
theorem dL_law_795 : decode cL_law 795 = .ok (.i2l, 1) := by decide +kernel
theorem dL_law_796 : decode cL_law 796 = .ok (.lcmp, 1) := by decide +kernel
theorem dL_law_797 : decode cL_law 797 = .ok (.ifCond .eq 5, 3) := by decide +kernel
theorem dL_law_800 : decode cL_law 800 = .ok (.iconst 0, 1) := by decide +kernel
theorem dL_law_801 : decode cL_law 801 = .ok (.ireturn, 1) := by decide +kernel
theorem dL_law_802 : decode cL_law 802 = .ok (.goto 631, 3) := by decide +kernel
theorem dL_law_805 : decode cL_law 805 = .ok (.aload_n 1, 1) := by decide +kernel
theorem dL_law_806 : decode cL_law 806 = .ok (.aload_n 0, 1) := by decide +kernel
theorem dL_law_807 : decode cL_law 807 = .ok (.iload 4, 2) := by decide +kernel
theorem dL_law_809 : decode cL_law 809 = .ok (.iconst 1, 1) := by decide +kernel
theorem dL_law_810 : decode cL_law 810 = .ok (.iadd, 1) := by decide +kernel
theorem dL_law_811 : decode cL_law 811 = .ok (.iaload, 1) := by decide +kernel
theorem dL_law_812 : decode cL_law 812 = .ok (.aload_n 0, 1) := by decide +kernel
theorem dL_law_813 : decode cL_law 813 = .ok (.iload 4, 2) := by decide +kernel
theorem dL_law_815 : decode cL_law 815 = .ok (.iconst 2, 1) := by decide +kernel
theorem dL_law_816 : decode cL_law 816 = .ok (.iadd, 1) := by decide +kernel
theorem dL_law_817 : decode cL_law 817 = .ok (.iaload, 1) := by decide +kernel
theorem dL_law_818 : decode cL_law 818 = .ok (.aload_n 3, 1) := by decide +kernel
theorem dL_law_819 : decode cL_law 819 = .ok (.invokestatic 104, 3) := by decide +kernel
theorem dL_law_822 : decode cL_law 822 = .ok (.istore 5, 2) := by decide +kernel
theorem dL_law_824 : decode cL_law 824 = .ok (.aload_n 2, 1) := by decide +kernel
theorem dL_law_825 : decode cL_law 825 = .ok (.aload_n 0, 1) := by decide +kernel
theorem dL_law_826 : decode cL_law 826 = .ok (.iload 4, 2) := by decide +kernel
theorem dL_law_828 : decode cL_law 828 = .ok (.iconst 1, 1) := by decide +kernel
theorem dL_law_829 : decode cL_law 829 = .ok (.iadd, 1) := by decide +kernel
theorem dL_law_830 : decode cL_law 830 = .ok (.iaload, 1) := by decide +kernel
theorem dL_law_831 : decode cL_law 831 = .ok (.aload_n 0, 1) := by decide +kernel
theorem dL_law_832 : decode cL_law 832 = .ok (.iload 4, 2) := by decide +kernel
theorem dL_law_834 : decode cL_law 834 = .ok (.iconst 2, 1) := by decide +kernel
theorem dL_law_835 : decode cL_law 835 = .ok (.iadd, 1) := by decide +kernel
theorem dL_law_836 : decode cL_law 836 = .ok (.iaload, 1) := by decide +kernel
theorem dL_law_837 : decode cL_law 837 = .ok (.invokevirtual 106, 3) := by decide +kernel
theorem dL_law_840 : decode cL_law 840 = .ok (.istore 6, 2) := by decide +kernel
theorem dL_law_842 : decode cL_law 842 = .ok (.aload_n 2, 1) := by decide +kernel
theorem dL_law_843 : decode cL_law 843 = .ok (.invokevirtual 76, 3) := by decide +kernel
theorem dL_law_846 : decode cL_law 846 = .ok (.iload 5, 2) := by decide +kernel
theorem dL_law_848 : decode cL_law 848 = .ok (.if_icmp .eq 5, 3) := by decide +kernel
theorem dL_law_851 : decode cL_law 851 = .ok (.iconst 0, 1) := by decide +kernel
theorem dL_law_852 : decode cL_law 852 = .ok (.ireturn, 1) := by decide +kernel
theorem dL_law_853 : decode cL_law 853 = .ok (.iload 5, 2) := by decide +kernel
theorem dL_law_855 : decode cL_law 855 = .ok (.ifCond .ne 15, 3) := by decide +kernel
theorem dL_law_858 : decode cL_law 858 = .ok (.aload_n 3, 1) := by decide +kernel
theorem dL_law_859 : decode cL_law 859 = .ok (.iconst 0, 1) := by decide +kernel
theorem dL_law_860 : decode cL_law 860 = .ok (.laload, 1) := by decide +kernel
theorem dL_law_861 : decode cL_law 861 = .ok (.iload 6, 2) := by decide +kernel
theorem dL_law_863 : decode cL_law 863 = .ok (.i2l, 1) := by decide +kernel
theorem dL_law_864 : decode cL_law 864 = .ok (.lcmp, 1) := by decide +kernel
theorem dL_law_865 : decode cL_law 865 = .ok (.ifCond .eq 5, 3) := by decide +kernel
theorem dL_law_868 : decode cL_law 868 = .ok (.iconst 0, 1) := by decide +kernel
theorem dL_law_869 : decode cL_law 869 = .ok (.ireturn, 1) := by decide +kernel
theorem dL_law_870 : decode cL_law 870 = .ok (.goto 563, 3) := by decide +kernel
theorem dL_law_873 : decode cL_law 873 = .ok (.aload_n 1, 1) := by decide +kernel
theorem dL_law_874 : decode cL_law 874 = .ok (.aload_n 0, 1) := by decide +kernel
theorem dL_law_875 : decode cL_law 875 = .ok (.iload 4, 2) := by decide +kernel
theorem dL_law_877 : decode cL_law 877 = .ok (.iconst 1, 1) := by decide +kernel
theorem dL_law_878 : decode cL_law 878 = .ok (.iadd, 1) := by decide +kernel
theorem dL_law_879 : decode cL_law 879 = .ok (.iaload, 1) := by decide +kernel
theorem dL_law_880 : decode cL_law 880 = .ok (.aload_n 0, 1) := by decide +kernel
theorem dL_law_881 : decode cL_law 881 = .ok (.iload 4, 2) := by decide +kernel
theorem dL_law_883 : decode cL_law 883 = .ok (.iconst 2, 1) := by decide +kernel
theorem dL_law_884 : decode cL_law 884 = .ok (.iadd, 1) := by decide +kernel
theorem dL_law_885 : decode cL_law 885 = .ok (.iaload, 1) := by decide +kernel
theorem dL_law_886 : decode cL_law 886 = .ok (.aload_n 0, 1) := by decide +kernel
theorem dL_law_887 : decode cL_law 887 = .ok (.iload 4, 2) := by decide +kernel
theorem dL_law_889 : decode cL_law 889 = .ok (.iconst 3, 1) := by decide +kernel
theorem dL_law_890 : decode cL_law 890 = .ok (.iadd, 1) := by decide +kernel
theorem dL_law_891 : decode cL_law 891 = .ok (.iaload, 1) := by decide +kernel
theorem dL_law_892 : decode cL_law 892 = .ok (.aload_n 0, 1) := by decide +kernel
theorem dL_law_893 : decode cL_law 893 = .ok (.iload 4, 2) := by decide +kernel
theorem dL_law_895 : decode cL_law 895 = .ok (.iconst 4, 1) := by decide +kernel
theorem dL_law_896 : decode cL_law 896 = .ok (.iadd, 1) := by decide +kernel
theorem dL_law_897 : decode cL_law 897 = .ok (.iaload, 1) := by decide +kernel
theorem dL_law_898 : decode cL_law 898 = .ok (.aload_n 3, 1) := by decide +kernel
theorem dL_law_899 : decode cL_law 899 = .ok (.invokestatic 107, 3) := by decide +kernel
theorem dL_law_902 : decode cL_law 902 = .ok (.istore 5, 2) := by decide +kernel
theorem dL_law_904 : decode cL_law 904 = .ok (.aload_n 2, 1) := by decide +kernel
theorem dL_law_905 : decode cL_law 905 = .ok (.aload_n 0, 1) := by decide +kernel
theorem dL_law_906 : decode cL_law 906 = .ok (.iload 4, 2) := by decide +kernel
theorem dL_law_908 : decode cL_law 908 = .ok (.iconst 1, 1) := by decide +kernel
theorem dL_law_909 : decode cL_law 909 = .ok (.iadd, 1) := by decide +kernel
theorem dL_law_910 : decode cL_law 910 = .ok (.iaload, 1) := by decide +kernel
theorem dL_law_911 : decode cL_law 911 = .ok (.aload_n 0, 1) := by decide +kernel
theorem dL_law_912 : decode cL_law 912 = .ok (.iload 4, 2) := by decide +kernel
theorem dL_law_914 : decode cL_law 914 = .ok (.iconst 2, 1) := by decide +kernel
theorem dL_law_915 : decode cL_law 915 = .ok (.iadd, 1) := by decide +kernel
theorem dL_law_916 : decode cL_law 916 = .ok (.iaload, 1) := by decide +kernel
theorem dL_law_917 : decode cL_law 917 = .ok (.aload_n 0, 1) := by decide +kernel
theorem dL_law_918 : decode cL_law 918 = .ok (.iload 4, 2) := by decide +kernel
theorem dL_law_920 : decode cL_law 920 = .ok (.iconst 3, 1) := by decide +kernel
theorem dL_law_921 : decode cL_law 921 = .ok (.iadd, 1) := by decide +kernel
theorem dL_law_922 : decode cL_law 922 = .ok (.iaload, 1) := by decide +kernel
theorem dL_law_923 : decode cL_law 923 = .ok (.aload_n 0, 1) := by decide +kernel
theorem dL_law_924 : decode cL_law 924 = .ok (.iload 4, 2) := by decide +kernel
theorem dL_law_926 : decode cL_law 926 = .ok (.iconst 4, 1) := by decide +kernel
theorem dL_law_927 : decode cL_law 927 = .ok (.iadd, 1) := by decide +kernel
theorem dL_law_928 : decode cL_law 928 = .ok (.iaload, 1) := by decide +kernel
theorem dL_law_929 : decode cL_law 929 = .ok (.invokevirtual 109, 3) := by decide +kernel
theorem dL_law_932 : decode cL_law 932 = .ok (.istore 6, 2) := by decide +kernel
theorem dL_law_934 : decode cL_law 934 = .ok (.aload_n 2, 1) := by decide +kernel
theorem dL_law_935 : decode cL_law 935 = .ok (.invokevirtual 76, 3) := by decide +kernel
theorem dL_law_938 : decode cL_law 938 = .ok (.iload 5, 2) := by decide +kernel
theorem dL_law_940 : decode cL_law 940 = .ok (.if_icmp .eq 5, 3) := by decide +kernel
theorem dL_law_943 : decode cL_law 943 = .ok (.iconst 0, 1) := by decide +kernel
theorem dL_law_944 : decode cL_law 944 = .ok (.ireturn, 1) := by decide +kernel
theorem dL_law_945 : decode cL_law 945 = .ok (.iload 5, 2) := by decide +kernel
theorem dL_law_947 : decode cL_law 947 = .ok (.ifCond .ne 15, 3) := by decide +kernel
theorem dL_law_950 : decode cL_law 950 = .ok (.aload_n 3, 1) := by decide +kernel
theorem dL_law_951 : decode cL_law 951 = .ok (.iconst 0, 1) := by decide +kernel
theorem dL_law_952 : decode cL_law 952 = .ok (.laload, 1) := by decide +kernel
theorem dL_law_953 : decode cL_law 953 = .ok (.iload 6, 2) := by decide +kernel
theorem dL_law_955 : decode cL_law 955 = .ok (.i2l, 1) := by decide +kernel
theorem dL_law_956 : decode cL_law 956 = .ok (.lcmp, 1) := by decide +kernel
theorem dL_law_957 : decode cL_law 957 = .ok (.ifCond .eq 5, 3) := by decide +kernel
theorem dL_law_960 : decode cL_law 960 = .ok (.iconst 0, 1) := by decide +kernel
theorem dL_law_961 : decode cL_law 961 = .ok (.ireturn, 1) := by decide +kernel
theorem dL_law_962 : decode cL_law 962 = .ok (.goto 471, 3) := by decide +kernel
theorem dL_law_965 : decode cL_law 965 = .ok (.aload_n 1, 1) := by decide +kernel
theorem dL_law_966 : decode cL_law 966 = .ok (.aload_n 0, 1) := by decide +kernel
theorem dL_law_967 : decode cL_law 967 = .ok (.iload 4, 2) := by decide +kernel
theorem dL_law_969 : decode cL_law 969 = .ok (.iconst 1, 1) := by decide +kernel
theorem dL_law_970 : decode cL_law 970 = .ok (.iadd, 1) := by decide +kernel
theorem dL_law_971 : decode cL_law 971 = .ok (.iaload, 1) := by decide +kernel
theorem dL_law_972 : decode cL_law 972 = .ok (.aload_n 0, 1) := by decide +kernel
theorem dL_law_973 : decode cL_law 973 = .ok (.iload 4, 2) := by decide +kernel
theorem dL_law_975 : decode cL_law 975 = .ok (.iconst 2, 1) := by decide +kernel
theorem dL_law_976 : decode cL_law 976 = .ok (.iadd, 1) := by decide +kernel
theorem dL_law_977 : decode cL_law 977 = .ok (.iaload, 1) := by decide +kernel
theorem dL_law_978 : decode cL_law 978 = .ok (.aload_n 0, 1) := by decide +kernel
theorem dL_law_979 : decode cL_law 979 = .ok (.iload 4, 2) := by decide +kernel
theorem dL_law_981 : decode cL_law 981 = .ok (.iconst 3, 1) := by decide +kernel
theorem dL_law_982 : decode cL_law 982 = .ok (.iadd, 1) := by decide +kernel
theorem dL_law_983 : decode cL_law 983 = .ok (.iaload, 1) := by decide +kernel
theorem dL_law_984 : decode cL_law 984 = .ok (.aload_n 3, 1) := by decide +kernel
theorem dL_law_985 : decode cL_law 985 = .ok (.invokestatic 110, 3) := by decide +kernel
theorem dL_law_988 : decode cL_law 988 = .ok (.istore 5, 2) := by decide +kernel
theorem dL_law_990 : decode cL_law 990 = .ok (.aload_n 2, 1) := by decide +kernel
theorem dL_law_991 : decode cL_law 991 = .ok (.aload_n 0, 1) := by decide +kernel
theorem dL_law_992 : decode cL_law 992 = .ok (.iload 4, 2) := by decide +kernel
theorem dL_law_994 : decode cL_law 994 = .ok (.iconst 1, 1) := by decide +kernel
theorem dL_law_995 : decode cL_law 995 = .ok (.iadd, 1) := by decide +kernel
theorem dL_law_996 : decode cL_law 996 = .ok (.iaload, 1) := by decide +kernel
theorem dL_law_997 : decode cL_law 997 = .ok (.aload_n 0, 1) := by decide +kernel
theorem dL_law_998 : decode cL_law 998 = .ok (.iload 4, 2) := by decide +kernel
theorem dL_law_1000 : decode cL_law 1000 = .ok (.iconst 2, 1) := by decide +kernel
theorem dL_law_1001 : decode cL_law 1001 = .ok (.iadd, 1) := by decide +kernel
theorem dL_law_1002 : decode cL_law 1002 = .ok (.iaload, 1) := by decide +kernel
theorem dL_law_1003 : decode cL_law 1003 = .ok (.aload_n 0, 1) := by decide +kernel
theorem dL_law_1004 : decode cL_law 1004 = .ok (.iload 4, 2) := by decide +kernel
theorem dL_law_1006 : decode cL_law 1006 = .ok (.iconst 3, 1) := by decide +kernel
theorem dL_law_1007 : decode cL_law 1007 = .ok (.iadd, 1) := by decide +kernel
theorem dL_law_1008 : decode cL_law 1008 = .ok (.iaload, 1) := by decide +kernel
theorem dL_law_1009 : decode cL_law 1009 = .ok (.invokevirtual 112, 3) := by decide +kernel
theorem dL_law_1012 : decode cL_law 1012 = .ok (.istore 6, 2) := by decide +kernel
theorem dL_law_1014 : decode cL_law 1014 = .ok (.aload_n 2, 1) := by decide +kernel
theorem dL_law_1015 : decode cL_law 1015 = .ok (.invokevirtual 76, 3) := by decide +kernel
theorem dL_law_1018 : decode cL_law 1018 = .ok (.iload 5, 2) := by decide +kernel
theorem dL_law_1020 : decode cL_law 1020 = .ok (.if_icmp .eq 5, 3) := by decide +kernel
theorem dL_law_1023 : decode cL_law 1023 = .ok (.iconst 0, 1) := by decide +kernel
theorem dL_law_1024 : decode cL_law 1024 = .ok (.ireturn, 1) := by decide +kernel
theorem dL_law_1025 : decode cL_law 1025 = .ok (.iload 5, 2) := by decide +kernel
theorem dL_law_1027 : decode cL_law 1027 = .ok (.ifCond .ne 15, 3) := by decide +kernel
theorem dL_law_1030 : decode cL_law 1030 = .ok (.aload_n 3, 1) := by decide +kernel
theorem dL_law_1031 : decode cL_law 1031 = .ok (.iconst 0, 1) := by decide +kernel
theorem dL_law_1032 : decode cL_law 1032 = .ok (.laload, 1) := by decide +kernel
theorem dL_law_1033 : decode cL_law 1033 = .ok (.iload 6, 2) := by decide +kernel
theorem dL_law_1035 : decode cL_law 1035 = .ok (.i2l, 1) := by decide +kernel
theorem dL_law_1036 : decode cL_law 1036 = .ok (.lcmp, 1) := by decide +kernel
theorem dL_law_1037 : decode cL_law 1037 = .ok (.ifCond .eq 5, 3) := by decide +kernel
theorem dL_law_1040 : decode cL_law 1040 = .ok (.iconst 0, 1) := by decide +kernel
theorem dL_law_1041 : decode cL_law 1041 = .ok (.ireturn, 1) := by decide +kernel
theorem dL_law_1042 : decode cL_law 1042 = .ok (.goto 391, 3) := by decide +kernel
theorem dL_law_1045 : decode cL_law 1045 = .ok (.aload_n 1, 1) := by decide +kernel
theorem dL_law_1046 : decode cL_law 1046 = .ok (.aload_n 0, 1) := by decide +kernel
theorem dL_law_1047 : decode cL_law 1047 = .ok (.iload 4, 2) := by decide +kernel
theorem dL_law_1049 : decode cL_law 1049 = .ok (.iconst 1, 1) := by decide +kernel
theorem dL_law_1050 : decode cL_law 1050 = .ok (.iadd, 1) := by decide +kernel
theorem dL_law_1051 : decode cL_law 1051 = .ok (.iaload, 1) := by decide +kernel
theorem dL_law_1052 : decode cL_law 1052 = .ok (.aload_n 0, 1) := by decide +kernel
theorem dL_law_1053 : decode cL_law 1053 = .ok (.iload 4, 2) := by decide +kernel
theorem dL_law_1055 : decode cL_law 1055 = .ok (.iconst 2, 1) := by decide +kernel
theorem dL_law_1056 : decode cL_law 1056 = .ok (.iadd, 1) := by decide +kernel
theorem dL_law_1057 : decode cL_law 1057 = .ok (.iaload, 1) := by decide +kernel
theorem dL_law_1058 : decode cL_law 1058 = .ok (.aload_n 0, 1) := by decide +kernel
theorem dL_law_1059 : decode cL_law 1059 = .ok (.iload 4, 2) := by decide +kernel
theorem dL_law_1061 : decode cL_law 1061 = .ok (.iconst 3, 1) := by decide +kernel
theorem dL_law_1062 : decode cL_law 1062 = .ok (.iadd, 1) := by decide +kernel
theorem dL_law_1063 : decode cL_law 1063 = .ok (.iaload, 1) := by decide +kernel
theorem dL_law_1064 : decode cL_law 1064 = .ok (.aload_n 3, 1) := by decide +kernel
theorem dL_law_1065 : decode cL_law 1065 = .ok (.invokestatic 113, 3) := by decide +kernel
theorem dL_law_1068 : decode cL_law 1068 = .ok (.istore 5, 2) := by decide +kernel
theorem dL_law_1070 : decode cL_law 1070 = .ok (.aload_n 2, 1) := by decide +kernel
theorem dL_law_1071 : decode cL_law 1071 = .ok (.aload_n 0, 1) := by decide +kernel
theorem dL_law_1072 : decode cL_law 1072 = .ok (.iload 4, 2) := by decide +kernel
theorem dL_law_1074 : decode cL_law 1074 = .ok (.iconst 1, 1) := by decide +kernel
theorem dL_law_1075 : decode cL_law 1075 = .ok (.iadd, 1) := by decide +kernel
theorem dL_law_1076 : decode cL_law 1076 = .ok (.iaload, 1) := by decide +kernel
theorem dL_law_1077 : decode cL_law 1077 = .ok (.aload_n 0, 1) := by decide +kernel
theorem dL_law_1078 : decode cL_law 1078 = .ok (.iload 4, 2) := by decide +kernel
theorem dL_law_1080 : decode cL_law 1080 = .ok (.iconst 2, 1) := by decide +kernel
theorem dL_law_1081 : decode cL_law 1081 = .ok (.iadd, 1) := by decide +kernel
theorem dL_law_1082 : decode cL_law 1082 = .ok (.iaload, 1) := by decide +kernel
theorem dL_law_1083 : decode cL_law 1083 = .ok (.aload_n 0, 1) := by decide +kernel
theorem dL_law_1084 : decode cL_law 1084 = .ok (.iload 4, 2) := by decide +kernel
theorem dL_law_1086 : decode cL_law 1086 = .ok (.iconst 3, 1) := by decide +kernel
theorem dL_law_1087 : decode cL_law 1087 = .ok (.iadd, 1) := by decide +kernel
theorem dL_law_1088 : decode cL_law 1088 = .ok (.iaload, 1) := by decide +kernel
theorem dL_law_1089 : decode cL_law 1089 = .ok (.invokevirtual 115, 3) := by decide +kernel
theorem dL_law_1092 : decode cL_law 1092 = .ok (.istore 6, 2) := by decide +kernel
theorem dL_law_1094 : decode cL_law 1094 = .ok (.aload_n 2, 1) := by decide +kernel
theorem dL_law_1095 : decode cL_law 1095 = .ok (.invokevirtual 76, 3) := by decide +kernel
theorem dL_law_1098 : decode cL_law 1098 = .ok (.iload 5, 2) := by decide +kernel
theorem dL_law_1100 : decode cL_law 1100 = .ok (.if_icmp .eq 5, 3) := by decide +kernel
theorem dL_law_1103 : decode cL_law 1103 = .ok (.iconst 0, 1) := by decide +kernel
theorem dL_law_1104 : decode cL_law 1104 = .ok (.ireturn, 1) := by decide +kernel
theorem dL_law_1105 : decode cL_law 1105 = .ok (.iload 5, 2) := by decide +kernel
theorem dL_law_1107 : decode cL_law 1107 = .ok (.ifCond .ne 15, 3) := by decide +kernel
theorem dL_law_1110 : decode cL_law 1110 = .ok (.aload_n 3, 1) := by decide +kernel
theorem dL_law_1111 : decode cL_law 1111 = .ok (.iconst 0, 1) := by decide +kernel
theorem dL_law_1112 : decode cL_law 1112 = .ok (.laload, 1) := by decide +kernel
theorem dL_law_1113 : decode cL_law 1113 = .ok (.iload 6, 2) := by decide +kernel
theorem dL_law_1115 : decode cL_law 1115 = .ok (.i2l, 1) := by decide +kernel
theorem dL_law_1116 : decode cL_law 1116 = .ok (.lcmp, 1) := by decide +kernel
theorem dL_law_1117 : decode cL_law 1117 = .ok (.ifCond .eq 5, 3) := by decide +kernel
theorem dL_law_1120 : decode cL_law 1120 = .ok (.iconst 0, 1) := by decide +kernel
theorem dL_law_1121 : decode cL_law 1121 = .ok (.ireturn, 1) := by decide +kernel
theorem dL_law_1122 : decode cL_law 1122 = .ok (.goto 311, 3) := by decide +kernel
theorem dL_law_1125 : decode cL_law 1125 = .ok (.aload_n 1, 1) := by decide +kernel
theorem dL_law_1126 : decode cL_law 1126 = .ok (.aload_n 0, 1) := by decide +kernel
theorem dL_law_1127 : decode cL_law 1127 = .ok (.iload 4, 2) := by decide +kernel
theorem dL_law_1129 : decode cL_law 1129 = .ok (.iconst 1, 1) := by decide +kernel
theorem dL_law_1130 : decode cL_law 1130 = .ok (.iadd, 1) := by decide +kernel
theorem dL_law_1131 : decode cL_law 1131 = .ok (.iaload, 1) := by decide +kernel
theorem dL_law_1132 : decode cL_law 1132 = .ok (.aload_n 0, 1) := by decide +kernel
theorem dL_law_1133 : decode cL_law 1133 = .ok (.iload 4, 2) := by decide +kernel
theorem dL_law_1135 : decode cL_law 1135 = .ok (.iconst 2, 1) := by decide +kernel
theorem dL_law_1136 : decode cL_law 1136 = .ok (.iadd, 1) := by decide +kernel
theorem dL_law_1137 : decode cL_law 1137 = .ok (.iaload, 1) := by decide +kernel
theorem dL_law_1138 : decode cL_law 1138 = .ok (.aload_n 0, 1) := by decide +kernel
theorem dL_law_1139 : decode cL_law 1139 = .ok (.iload 4, 2) := by decide +kernel
theorem dL_law_1141 : decode cL_law 1141 = .ok (.iconst 3, 1) := by decide +kernel
theorem dL_law_1142 : decode cL_law 1142 = .ok (.iadd, 1) := by decide +kernel
theorem dL_law_1143 : decode cL_law 1143 = .ok (.iaload, 1) := by decide +kernel
theorem dL_law_1144 : decode cL_law 1144 = .ok (.aload_n 3, 1) := by decide +kernel
theorem dL_law_1145 : decode cL_law 1145 = .ok (.invokestatic 116, 3) := by decide +kernel
theorem dL_law_1148 : decode cL_law 1148 = .ok (.istore 5, 2) := by decide +kernel
theorem dL_law_1150 : decode cL_law 1150 = .ok (.aload_n 2, 1) := by decide +kernel
theorem dL_law_1151 : decode cL_law 1151 = .ok (.aload_n 0, 1) := by decide +kernel
theorem dL_law_1152 : decode cL_law 1152 = .ok (.iload 4, 2) := by decide +kernel
theorem dL_law_1154 : decode cL_law 1154 = .ok (.iconst 1, 1) := by decide +kernel
theorem dL_law_1155 : decode cL_law 1155 = .ok (.iadd, 1) := by decide +kernel
theorem dL_law_1156 : decode cL_law 1156 = .ok (.iaload, 1) := by decide +kernel
theorem dL_law_1157 : decode cL_law 1157 = .ok (.aload_n 0, 1) := by decide +kernel
theorem dL_law_1158 : decode cL_law 1158 = .ok (.iload 4, 2) := by decide +kernel
theorem dL_law_1160 : decode cL_law 1160 = .ok (.iconst 2, 1) := by decide +kernel
theorem dL_law_1161 : decode cL_law 1161 = .ok (.iadd, 1) := by decide +kernel
theorem dL_law_1162 : decode cL_law 1162 = .ok (.iaload, 1) := by decide +kernel
theorem dL_law_1163 : decode cL_law 1163 = .ok (.aload_n 0, 1) := by decide +kernel
theorem dL_law_1164 : decode cL_law 1164 = .ok (.iload 4, 2) := by decide +kernel
theorem dL_law_1166 : decode cL_law 1166 = .ok (.iconst 3, 1) := by decide +kernel
theorem dL_law_1167 : decode cL_law 1167 = .ok (.iadd, 1) := by decide +kernel
theorem dL_law_1168 : decode cL_law 1168 = .ok (.iaload, 1) := by decide +kernel
theorem dL_law_1169 : decode cL_law 1169 = .ok (.invokevirtual 118, 3) := by decide +kernel
theorem dL_law_1172 : decode cL_law 1172 = .ok (.istore 6, 2) := by decide +kernel
theorem dL_law_1174 : decode cL_law 1174 = .ok (.aload_n 2, 1) := by decide +kernel
theorem dL_law_1175 : decode cL_law 1175 = .ok (.invokevirtual 76, 3) := by decide +kernel
theorem dL_law_1178 : decode cL_law 1178 = .ok (.iload 5, 2) := by decide +kernel
theorem dL_law_1180 : decode cL_law 1180 = .ok (.if_icmp .eq 5, 3) := by decide +kernel
theorem dL_law_1183 : decode cL_law 1183 = .ok (.iconst 0, 1) := by decide +kernel
theorem dL_law_1184 : decode cL_law 1184 = .ok (.ireturn, 1) := by decide +kernel
theorem dL_law_1185 : decode cL_law 1185 = .ok (.iload 5, 2) := by decide +kernel
theorem dL_law_1187 : decode cL_law 1187 = .ok (.ifCond .ne 15, 3) := by decide +kernel
theorem dL_law_1190 : decode cL_law 1190 = .ok (.aload_n 3, 1) := by decide +kernel
theorem dL_law_1191 : decode cL_law 1191 = .ok (.iconst 0, 1) := by decide +kernel
theorem dL_law_1192 : decode cL_law 1192 = .ok (.laload, 1) := by decide +kernel
theorem dL_law_1193 : decode cL_law 1193 = .ok (.iload 6, 2) := by decide +kernel
theorem dL_law_1195 : decode cL_law 1195 = .ok (.i2l, 1) := by decide +kernel
theorem dL_law_1196 : decode cL_law 1196 = .ok (.lcmp, 1) := by decide +kernel
theorem dL_law_1197 : decode cL_law 1197 = .ok (.ifCond .eq 5, 3) := by decide +kernel
theorem dL_law_1200 : decode cL_law 1200 = .ok (.iconst 0, 1) := by decide +kernel
theorem dL_law_1201 : decode cL_law 1201 = .ok (.ireturn, 1) := by decide +kernel
theorem dL_law_1202 : decode cL_law 1202 = .ok (.goto 231, 3) := by decide +kernel
theorem dL_law_1205 : decode cL_law 1205 = .ok (.aload_n 1, 1) := by decide +kernel
theorem dL_law_1206 : decode cL_law 1206 = .ok (.aload_n 0, 1) := by decide +kernel
theorem dL_law_1207 : decode cL_law 1207 = .ok (.iload 4, 2) := by decide +kernel
theorem dL_law_1209 : decode cL_law 1209 = .ok (.iconst 1, 1) := by decide +kernel
theorem dL_law_1210 : decode cL_law 1210 = .ok (.iadd, 1) := by decide +kernel
theorem dL_law_1211 : decode cL_law 1211 = .ok (.iaload, 1) := by decide +kernel
theorem dL_law_1212 : decode cL_law 1212 = .ok (.aload_n 0, 1) := by decide +kernel
theorem dL_law_1213 : decode cL_law 1213 = .ok (.iload 4, 2) := by decide +kernel
theorem dL_law_1215 : decode cL_law 1215 = .ok (.iconst 2, 1) := by decide +kernel
theorem dL_law_1216 : decode cL_law 1216 = .ok (.iadd, 1) := by decide +kernel
theorem dL_law_1217 : decode cL_law 1217 = .ok (.iaload, 1) := by decide +kernel
theorem dL_law_1218 : decode cL_law 1218 = .ok (.aload_n 0, 1) := by decide +kernel
theorem dL_law_1219 : decode cL_law 1219 = .ok (.iload 4, 2) := by decide +kernel
theorem dL_law_1221 : decode cL_law 1221 = .ok (.iconst 3, 1) := by decide +kernel
theorem dL_law_1222 : decode cL_law 1222 = .ok (.iadd, 1) := by decide +kernel
theorem dL_law_1223 : decode cL_law 1223 = .ok (.iaload, 1) := by decide +kernel
theorem dL_law_1224 : decode cL_law 1224 = .ok (.aload_n 0, 1) := by decide +kernel
theorem dL_law_1225 : decode cL_law 1225 = .ok (.iload 4, 2) := by decide +kernel
theorem dL_law_1227 : decode cL_law 1227 = .ok (.iconst 4, 1) := by decide +kernel
theorem dL_law_1228 : decode cL_law 1228 = .ok (.iadd, 1) := by decide +kernel
theorem dL_law_1229 : decode cL_law 1229 = .ok (.iaload, 1) := by decide +kernel
theorem dL_law_1230 : decode cL_law 1230 = .ok (.aload_n 3, 1) := by decide +kernel
theorem dL_law_1231 : decode cL_law 1231 = .ok (.invokestatic 119, 3) := by decide +kernel
theorem dL_law_1234 : decode cL_law 1234 = .ok (.istore 5, 2) := by decide +kernel
theorem dL_law_1236 : decode cL_law 1236 = .ok (.aload_n 2, 1) := by decide +kernel
theorem dL_law_1237 : decode cL_law 1237 = .ok (.aload_n 0, 1) := by decide +kernel
theorem dL_law_1238 : decode cL_law 1238 = .ok (.iload 4, 2) := by decide +kernel
theorem dL_law_1240 : decode cL_law 1240 = .ok (.iconst 1, 1) := by decide +kernel
theorem dL_law_1241 : decode cL_law 1241 = .ok (.iadd, 1) := by decide +kernel
theorem dL_law_1242 : decode cL_law 1242 = .ok (.iaload, 1) := by decide +kernel
theorem dL_law_1243 : decode cL_law 1243 = .ok (.aload_n 0, 1) := by decide +kernel
theorem dL_law_1244 : decode cL_law 1244 = .ok (.iload 4, 2) := by decide +kernel
theorem dL_law_1246 : decode cL_law 1246 = .ok (.iconst 2, 1) := by decide +kernel
theorem dL_law_1247 : decode cL_law 1247 = .ok (.iadd, 1) := by decide +kernel
theorem dL_law_1248 : decode cL_law 1248 = .ok (.iaload, 1) := by decide +kernel
theorem dL_law_1249 : decode cL_law 1249 = .ok (.aload_n 0, 1) := by decide +kernel
theorem dL_law_1250 : decode cL_law 1250 = .ok (.iload 4, 2) := by decide +kernel
theorem dL_law_1252 : decode cL_law 1252 = .ok (.iconst 3, 1) := by decide +kernel
theorem dL_law_1253 : decode cL_law 1253 = .ok (.iadd, 1) := by decide +kernel
theorem dL_law_1254 : decode cL_law 1254 = .ok (.iaload, 1) := by decide +kernel
theorem dL_law_1255 : decode cL_law 1255 = .ok (.aload_n 0, 1) := by decide +kernel
theorem dL_law_1256 : decode cL_law 1256 = .ok (.iload 4, 2) := by decide +kernel
theorem dL_law_1258 : decode cL_law 1258 = .ok (.iconst 4, 1) := by decide +kernel
theorem dL_law_1259 : decode cL_law 1259 = .ok (.iadd, 1) := by decide +kernel
theorem dL_law_1260 : decode cL_law 1260 = .ok (.iaload, 1) := by decide +kernel
theorem dL_law_1261 : decode cL_law 1261 = .ok (.invokevirtual 121, 3) := by decide +kernel
theorem dL_law_1264 : decode cL_law 1264 = .ok (.istore 6, 2) := by decide +kernel
theorem dL_law_1266 : decode cL_law 1266 = .ok (.aload_n 2, 1) := by decide +kernel
theorem dL_law_1267 : decode cL_law 1267 = .ok (.invokevirtual 76, 3) := by decide +kernel
theorem dL_law_1270 : decode cL_law 1270 = .ok (.iload 5, 2) := by decide +kernel
theorem dL_law_1272 : decode cL_law 1272 = .ok (.if_icmp .eq 5, 3) := by decide +kernel
theorem dL_law_1275 : decode cL_law 1275 = .ok (.iconst 0, 1) := by decide +kernel
theorem dL_law_1276 : decode cL_law 1276 = .ok (.ireturn, 1) := by decide +kernel
theorem dL_law_1277 : decode cL_law 1277 = .ok (.iload 5, 2) := by decide +kernel
theorem dL_law_1279 : decode cL_law 1279 = .ok (.ifCond .ne 15, 3) := by decide +kernel
theorem dL_law_1282 : decode cL_law 1282 = .ok (.aload_n 3, 1) := by decide +kernel
theorem dL_law_1283 : decode cL_law 1283 = .ok (.iconst 0, 1) := by decide +kernel
theorem dL_law_1284 : decode cL_law 1284 = .ok (.laload, 1) := by decide +kernel
theorem dL_law_1285 : decode cL_law 1285 = .ok (.iload 6, 2) := by decide +kernel
theorem dL_law_1287 : decode cL_law 1287 = .ok (.i2l, 1) := by decide +kernel
theorem dL_law_1288 : decode cL_law 1288 = .ok (.lcmp, 1) := by decide +kernel
theorem dL_law_1289 : decode cL_law 1289 = .ok (.ifCond .eq 5, 3) := by decide +kernel
theorem dL_law_1292 : decode cL_law 1292 = .ok (.iconst 0, 1) := by decide +kernel
theorem dL_law_1293 : decode cL_law 1293 = .ok (.ireturn, 1) := by decide +kernel
theorem dL_law_1294 : decode cL_law 1294 = .ok (.goto 139, 3) := by decide +kernel
theorem dL_law_1297 : decode cL_law 1297 = .ok (.aload_n 1, 1) := by decide +kernel
theorem dL_law_1298 : decode cL_law 1298 = .ok (.aload_n 0, 1) := by decide +kernel
theorem dL_law_1299 : decode cL_law 1299 = .ok (.iload 4, 2) := by decide +kernel
theorem dL_law_1301 : decode cL_law 1301 = .ok (.iconst 1, 1) := by decide +kernel
theorem dL_law_1302 : decode cL_law 1302 = .ok (.iadd, 1) := by decide +kernel
theorem dL_law_1303 : decode cL_law 1303 = .ok (.iaload, 1) := by decide +kernel
theorem dL_law_1304 : decode cL_law 1304 = .ok (.aload_n 0, 1) := by decide +kernel
theorem dL_law_1305 : decode cL_law 1305 = .ok (.iload 4, 2) := by decide +kernel
theorem dL_law_1307 : decode cL_law 1307 = .ok (.iconst 2, 1) := by decide +kernel
theorem dL_law_1308 : decode cL_law 1308 = .ok (.iadd, 1) := by decide +kernel
theorem dL_law_1309 : decode cL_law 1309 = .ok (.iaload, 1) := by decide +kernel
theorem dL_law_1310 : decode cL_law 1310 = .ok (.aload_n 3, 1) := by decide +kernel
theorem dL_law_1311 : decode cL_law 1311 = .ok (.invokestatic 122, 3) := by decide +kernel
theorem dL_law_1314 : decode cL_law 1314 = .ok (.istore 5, 2) := by decide +kernel
theorem dL_law_1316 : decode cL_law 1316 = .ok (.aload_n 2, 1) := by decide +kernel
theorem dL_law_1317 : decode cL_law 1317 = .ok (.aload_n 0, 1) := by decide +kernel
theorem dL_law_1318 : decode cL_law 1318 = .ok (.iload 4, 2) := by decide +kernel
theorem dL_law_1320 : decode cL_law 1320 = .ok (.iconst 1, 1) := by decide +kernel
theorem dL_law_1321 : decode cL_law 1321 = .ok (.iadd, 1) := by decide +kernel
theorem dL_law_1322 : decode cL_law 1322 = .ok (.iaload, 1) := by decide +kernel
theorem dL_law_1323 : decode cL_law 1323 = .ok (.aload_n 0, 1) := by decide +kernel
theorem dL_law_1324 : decode cL_law 1324 = .ok (.iload 4, 2) := by decide +kernel
theorem dL_law_1326 : decode cL_law 1326 = .ok (.iconst 2, 1) := by decide +kernel
theorem dL_law_1327 : decode cL_law 1327 = .ok (.iadd, 1) := by decide +kernel
theorem dL_law_1328 : decode cL_law 1328 = .ok (.iaload, 1) := by decide +kernel
theorem dL_law_1329 : decode cL_law 1329 = .ok (.invokevirtual 124, 3) := by decide +kernel
theorem dL_law_1332 : decode cL_law 1332 = .ok (.istore 6, 2) := by decide +kernel
theorem dL_law_1334 : decode cL_law 1334 = .ok (.aload_n 2, 1) := by decide +kernel
theorem dL_law_1335 : decode cL_law 1335 = .ok (.invokevirtual 76, 3) := by decide +kernel
theorem dL_law_1338 : decode cL_law 1338 = .ok (.iload 5, 2) := by decide +kernel
theorem dL_law_1340 : decode cL_law 1340 = .ok (.if_icmp .eq 5, 3) := by decide +kernel
theorem dL_law_1343 : decode cL_law 1343 = .ok (.iconst 0, 1) := by decide +kernel
theorem dL_law_1344 : decode cL_law 1344 = .ok (.ireturn, 1) := by decide +kernel
theorem dL_law_1345 : decode cL_law 1345 = .ok (.iload 5, 2) := by decide +kernel
theorem dL_law_1347 : decode cL_law 1347 = .ok (.ifCond .ne 15, 3) := by decide +kernel
theorem dL_law_1350 : decode cL_law 1350 = .ok (.aload_n 3, 1) := by decide +kernel
theorem dL_law_1351 : decode cL_law 1351 = .ok (.iconst 0, 1) := by decide +kernel
theorem dL_law_1352 : decode cL_law 1352 = .ok (.laload, 1) := by decide +kernel
theorem dL_law_1353 : decode cL_law 1353 = .ok (.iload 6, 2) := by decide +kernel
theorem dL_law_1355 : decode cL_law 1355 = .ok (.i2l, 1) := by decide +kernel
theorem dL_law_1356 : decode cL_law 1356 = .ok (.lcmp, 1) := by decide +kernel
theorem dL_law_1357 : decode cL_law 1357 = .ok (.ifCond .eq 5, 3) := by decide +kernel
theorem dL_law_1360 : decode cL_law 1360 = .ok (.iconst 0, 1) := by decide +kernel
theorem dL_law_1361 : decode cL_law 1361 = .ok (.ireturn, 1) := by decide +kernel
theorem dL_law_1362 : decode cL_law 1362 = .ok (.goto 71, 3) := by decide +kernel
theorem dL_law_1365 : decode cL_law 1365 = .ok (.aload_n 1, 1) := by decide +kernel
theorem dL_law_1366 : decode cL_law 1366 = .ok (.aload_n 0, 1) := by decide +kernel
theorem dL_law_1367 : decode cL_law 1367 = .ok (.iload 4, 2) := by decide +kernel
theorem dL_law_1369 : decode cL_law 1369 = .ok (.iconst 1, 1) := by decide +kernel
theorem dL_law_1370 : decode cL_law 1370 = .ok (.iadd, 1) := by decide +kernel
theorem dL_law_1371 : decode cL_law 1371 = .ok (.iaload, 1) := by decide +kernel
theorem dL_law_1372 : decode cL_law 1372 = .ok (.aload_n 0, 1) := by decide +kernel
theorem dL_law_1373 : decode cL_law 1373 = .ok (.iload 4, 2) := by decide +kernel
theorem dL_law_1375 : decode cL_law 1375 = .ok (.iconst 2, 1) := by decide +kernel
theorem dL_law_1376 : decode cL_law 1376 = .ok (.iadd, 1) := by decide +kernel
theorem dL_law_1377 : decode cL_law 1377 = .ok (.iaload, 1) := by decide +kernel
theorem dL_law_1378 : decode cL_law 1378 = .ok (.aload_n 3, 1) := by decide +kernel
theorem dL_law_1379 : decode cL_law 1379 = .ok (.invokestatic 125, 3) := by decide +kernel
theorem dL_law_1382 : decode cL_law 1382 = .ok (.istore 5, 2) := by decide +kernel
theorem dL_law_1384 : decode cL_law 1384 = .ok (.aload_n 2, 1) := by decide +kernel
theorem dL_law_1385 : decode cL_law 1385 = .ok (.aload_n 0, 1) := by decide +kernel
theorem dL_law_1386 : decode cL_law 1386 = .ok (.iload 4, 2) := by decide +kernel
theorem dL_law_1388 : decode cL_law 1388 = .ok (.iconst 1, 1) := by decide +kernel
theorem dL_law_1389 : decode cL_law 1389 = .ok (.iadd, 1) := by decide +kernel
theorem dL_law_1390 : decode cL_law 1390 = .ok (.iaload, 1) := by decide +kernel
theorem dL_law_1391 : decode cL_law 1391 = .ok (.aload_n 0, 1) := by decide +kernel
theorem dL_law_1392 : decode cL_law 1392 = .ok (.iload 4, 2) := by decide +kernel
theorem dL_law_1394 : decode cL_law 1394 = .ok (.iconst 2, 1) := by decide +kernel
theorem dL_law_1395 : decode cL_law 1395 = .ok (.iadd, 1) := by decide +kernel
theorem dL_law_1396 : decode cL_law 1396 = .ok (.iaload, 1) := by decide +kernel
theorem dL_law_1397 : decode cL_law 1397 = .ok (.invokevirtual 127, 3) := by decide +kernel
theorem dL_law_1400 : decode cL_law 1400 = .ok (.istore 6, 2) := by decide +kernel
theorem dL_law_1402 : decode cL_law 1402 = .ok (.aload_n 2, 1) := by decide +kernel
theorem dL_law_1403 : decode cL_law 1403 = .ok (.invokevirtual 76, 3) := by decide +kernel
theorem dL_law_1406 : decode cL_law 1406 = .ok (.iload 5, 2) := by decide +kernel
theorem dL_law_1408 : decode cL_law 1408 = .ok (.if_icmp .eq 5, 3) := by decide +kernel
theorem dL_law_1411 : decode cL_law 1411 = .ok (.iconst 0, 1) := by decide +kernel
theorem dL_law_1412 : decode cL_law 1412 = .ok (.ireturn, 1) := by decide +kernel
theorem dL_law_1413 : decode cL_law 1413 = .ok (.iload 5, 2) := by decide +kernel
theorem dL_law_1415 : decode cL_law 1415 = .ok (.ifCond .ne 15, 3) := by decide +kernel
theorem dL_law_1418 : decode cL_law 1418 = .ok (.aload_n 3, 1) := by decide +kernel
theorem dL_law_1419 : decode cL_law 1419 = .ok (.iconst 0, 1) := by decide +kernel
theorem dL_law_1420 : decode cL_law 1420 = .ok (.laload, 1) := by decide +kernel
theorem dL_law_1421 : decode cL_law 1421 = .ok (.iload 6, 2) := by decide +kernel
theorem dL_law_1423 : decode cL_law 1423 = .ok (.i2l, 1) := by decide +kernel
theorem dL_law_1424 : decode cL_law 1424 = .ok (.lcmp, 1) := by decide +kernel
theorem dL_law_1425 : decode cL_law 1425 = .ok (.ifCond .eq 5, 3) := by decide +kernel
theorem dL_law_1428 : decode cL_law 1428 = .ok (.iconst 0, 1) := by decide +kernel
theorem dL_law_1429 : decode cL_law 1429 = .ok (.ireturn, 1) := by decide +kernel
theorem dL_law_1430 : decode cL_law 1430 = .ok (.goto 3, 3) := by decide +kernel
theorem dL_law_1433 : decode cL_law 1433 = .ok (.iinc 4 5, 3) := by decide +kernel
theorem dL_law_1436 : decode cL_law 1436 = .ok (.goto (-1413), 3) := by decide +kernel
theorem dL_law_1439 : decode cL_law 1439 = .ok (.iconst 1, 1) := by decide +kernel
theorem dL_law_1440 : decode cL_law 1440 = .ok (.ireturn, 1) := by decide +kernel
abbrev vwCl : List vw_C := [(RJx4a65c, TJx4a65c, 3), (RX0, TX0, 6), (RX1, TX1, 8), (RX2, TX2, 16)]
end
section
theorem zz_trivial : True := trivial
end
