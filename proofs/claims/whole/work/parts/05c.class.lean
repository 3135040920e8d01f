/-! bits: gifts in a mask -/
theorem i_and {a b : Nat} {m : Int32} (hm : m = nI b) : nI a &&& m = nI (a &&& b) := by
  subst hm
  apply Int32.toBitVec_inj.mp
  rw [Int32.toBitVec_and]
  show BitVec.ofNat 32 a &&& BitVec.ofNat 32 b = BitVec.ofNat 32 (a &&& b)
  rw [BitVec.ofNat_and]
theorem i_or {a b : Nat} : nI a ||| nI b = nI (a ||| b) := by
  apply Int32.toBitVec_inj.mp
  rw [Int32.toBitVec_or]
  show BitVec.ofNat 32 a ||| BitVec.ofNat 32 b = BitVec.ofNat 32 (a ||| b)
  rw [BitVec.ofNat_or]
def dA (m x : Nat) : Nat := x - (x / 2 &&& m)
def dB (m x : Nat) : Nat := (x &&& m) + (x / 4 &&& m)
def dC (m x : Nat) : Nat := (x + x / 16) &&& m
def bc (x : Nat) : Nat := (dC 252645135 (dB 858993459 (dA 1431655765 x)) + dC 252645135 (dB 858993459 (dA 1431655765 x)) / 256 + (dC 252645135 (dB 858993459 (dA 1431655765 x)) + dC 252645135 (dB 858993459 (dA 1431655765 x)) / 256) / 65536) % 64
theorem dA_sub (m x : Nat) : (x / 2 &&& m) ≤ x := Nat.le_trans Nat.and_le_left (Nat.div_le_self _ _)
theorem dA_le (m x : Nat) : dA m x ≤ x := Nat.sub_le _ _
theorem dB_le (m x : Nat) : dB m x ≤ 2 * x := by
  have h1 : x &&& m ≤ x := Nat.and_le_left
  have h2 : x / 4 &&& m ≤ x / 4 := Nat.and_le_left
  unfold dB
  omega
theorem dC_le (m x : Nat) : dC m x ≤ m := Nat.and_le_right
theorem land_split {h l M m : Nat} (hl : l < 256) (hm : m < 256) : (256 * h + l) &&& (256 * M + m) = 256 * (h &&& M) + (l &&& m) := by
  have e1 : ((256 * h + l) &&& (256 * M + m)) / 2 ^ 8 = ((256 * h + l) / 2 ^ 8) &&& ((256 * M + m) / 2 ^ 8) := Nat.and_div_two_pow
  have e2 : ((256 * h + l) &&& (256 * M + m)) % 2 ^ 8 = ((256 * h + l) % 2 ^ 8) &&& ((256 * M + m) % 2 ^ 8) := Nat.and_mod_two_pow
  rw [show (256 * h + l) / 2 ^ 8 = h by omega, show (256 * M + m) / 2 ^ 8 = M by omega] at e1
  rw [show (256 * h + l) % 2 ^ 8 = l by omega, show (256 * M + m) % 2 ^ 8 = m by omega] at e2
  omega
def pB (x : Nat) : Nat := dC 15 (dB 51 (dA 85 x))
theorem b55 : ∀ c, c < 2 → ∀ l, l < 128 → ((128 * c + l) &&& 85) = (l &&& 85) := by decide +kernel
theorem b33 : ∀ c, c < 4 → ∀ l, l < 64 → ((64 * c + l) &&& 51) = (l &&& 51) := by decide +kernel
theorem b0f : ∀ c, c < 7 → ∀ l, l < 128 → ((16 * c + l) &&& 15) = (l &&& 15) := by decide +kernel
theorem bnd : ∀ l, l < 256 → dA 85 l < 256 ∧ dB 51 (dA 85 l) ≤ 68 ∧ pB l ≤ 8 := by decide +kernel
theorem dA_split {h l M : Nat} (hl : l < 256) : dA (256 * M + 85) (256 * h + l) = 256 * dA M h + dA 85 l := by
  unfold dA
  have e : (256 * h + l) / 2 = 256 * (h / 2) + (128 * (h % 2) + l / 2) := by omega
  rw [e, land_split (by omega) (by omega), b55 _ (by omega) _ (by omega)]
  have h1 := dA_sub M h
  have h2 := dA_sub 85 l
  omega
theorem dB_split {h l M : Nat} (hl : l < 256) : dB (256 * M + 51) (256 * h + l) = 256 * dB M h + dB 51 l := by
  unfold dB
  have e : (256 * h + l) / 4 = 256 * (h / 4) + (64 * (h % 4) + l / 4) := by omega
  rw [e, land_split hl (by omega), land_split (by omega) (by omega), b33 _ (by omega) _ (by omega)]
  omega
theorem dC_split {h l M : Nat} (hl : l ≤ 68) (hh : h % 16 < 7) : dC (256 * M + 15) (256 * h + l) = 256 * dC M h + dC 15 l := by
  unfold dC
  have e : (256 * h + l) + (256 * h + l) / 16 = 256 * (h + h / 16) + (16 * (h % 16) + (l + l / 16)) := by omega
  rw [e, land_split (by omega) (by omega), b0f _ hh _ (by omega)]
theorem dB_16 {M x : Nat} (hM : M % 16 ≤ 3) : dB M x % 16 < 7 := by
  unfold dB
  have e1 : (x &&& M) % 2 ^ 4 = x % 2 ^ 4 &&& M % 2 ^ 4 := Nat.and_mod_two_pow
  have e2 : (x / 4 &&& M) % 2 ^ 4 = x / 4 % 2 ^ 4 &&& M % 2 ^ 4 := Nat.and_mod_two_pow
  have h1 : x % 2 ^ 4 &&& M % 2 ^ 4 ≤ M % 2 ^ 4 := Nat.and_le_right
  have h2 : x / 4 % 2 ^ 4 &&& M % 2 ^ 4 ≤ M % 2 ^ 4 := Nat.and_le_right
  omega
theorem d_split {h l M1 M2 M3 : Nat} (hl : l < 256) (hM : M2 % 16 ≤ 3) : dC (256 * M3 + 15) (dB (256 * M2 + 51) (dA (256 * M1 + 85) (256 * h + l))) = 256 * dC M3 (dB M2 (dA M1 h)) + pB l := by
  obtain ⟨h1, h2, -⟩ := bnd l hl
  rw [dA_split hl, dB_split h1, dC_split h2 (dB_16 hM)]
  rfl
theorem bc_fin {p0 p1 p2 : Nat} (a0 : p0 ≤ 8) (a1 : p1 ≤ 8) (a2 : p2 ≤ 8) : (256 * (256 * (256 * 0 + p2) + p1) + p0 + (256 * (256 * (256 * 0 + p2) + p1) + p0) / 256 + (256 * (256 * (256 * 0 + p2) + p1) + p0 + (256 * (256 * (256 * 0 + p2) + p1) + p0) / 256) / 65536) % 64 = p0 + p1 + p2 := by
  have e1 : (256 * (256 * (256 * 0 + p2) + p1) + p0) / 256 = 256 * p2 + p1 := by omega
  rw [e1]
  have e2 : (256 * (256 * (256 * 0 + p2) + p1) + p0 + (256 * p2 + p1)) / 65536 = p2 := by omega
  rw [e2]
  omega
theorem bc_eq {x : Nat} (hx : x < 2 ^ 24) : bc x = pB (x % 256) + pB (x / 256 % 256) + pB (x / 65536) := by
  have e : x = 256 * (256 * (256 * 0 + x / 65536) + x / 256 % 256) + x % 256 := by omega
  have k := d_split (h := 256 * (256 * 0 + x / 65536) + x / 256 % 256) (l := x % 256) (M1 := 5592405) (M2 := 3355443) (M3 := 986895) (by omega) (by decide)
  rw [← e] at k
  have k2 := d_split (h := 256 * 0 + x / 65536) (l := x / 256 % 256) (M1 := 21845) (M2 := 13107) (M3 := 3855) (by omega) (by decide)
  have k3 := d_split (h := 0) (l := x / 65536) (M1 := 85) (M2 := 51) (M3 := 15) (by omega) (by decide)
  rw [show dC 15 (dB 51 (dA 85 0)) = 0 by decide] at k3
  rw [k3] at k2
  rw [k2] at k
  obtain ⟨-, -, a0⟩ := bnd (x % 256) (by omega)
  obtain ⟨-, -, a1⟩ := bnd (x / 256 % 256) (by omega)
  obtain ⟨-, -, a2⟩ := bnd (x / 65536) (by omega)
  unfold bc
  rw [show (1431655765 : Nat) = 256 * 5592405 + 85 by decide, show (858993459 : Nat) = 256 * 3355443 + 51 by decide, show (252645135 : Nat) = 256 * 986895 + 15 by decide, k]
  exact bc_fin a0 a1 a2
theorem p_add : ∀ c, c < 8 → ∀ x, x < 2 ^ c → pB (x + 2 ^ c) = pB x + 1 := by decide +kernel
theorem bc_add {c x : Nat} (hc : c < 24) (hx : x < 2 ^ c) : bc (x + 2 ^ c) = bc x + 1 := by
  have hp : 2 ^ c * 2 ≤ 2 ^ 24 := by
    rw [← Nat.pow_succ]
    exact Nat.pow_le_pow_right (by omega) (by omega)
  rw [bc_eq (by omega), bc_eq (by omega)]
  by_cases h8 : c < 8
  · have hq : 2 ^ c * 2 ≤ 2 ^ 8 := by
      rw [← Nat.pow_succ]
      exact Nat.pow_le_pow_right (by omega) (by omega)
    rw [show (x + 2 ^ c) % 256 = x + 2 ^ c by omega, show x % 256 = x by omega, show (x + 2 ^ c) / 256 = 0 by omega, show x / 256 = 0 by omega, show (x + 2 ^ c) / 65536 = 0 by omega, show x / 65536 = 0 by omega, p_add c h8 x hx]
    omega
  · by_cases h16 : c < 16
    · obtain ⟨d, rfl⟩ : ∃ d, c = d + 8 := ⟨c - 8, by omega⟩
      rw [Nat.pow_add] at hx hp ⊢
      have hq : 2 ^ d * 2 ≤ 2 ^ 8 := by
        rw [← Nat.pow_succ]
        exact Nat.pow_le_pow_right (by omega) (by omega)
      have := p_add d (by omega) (x / 256) (by omega)
      rw [show (x + 2 ^ d * 2 ^ 8) % 256 = x % 256 by omega, show (x + 2 ^ d * 2 ^ 8) / 256 % 256 = x / 256 + 2 ^ d by omega, show x / 256 % 256 = x / 256 by omega, show (x + 2 ^ d * 2 ^ 8) / 65536 = 0 by omega, show x / 65536 = 0 by omega, this]
      omega
    · obtain ⟨d, rfl⟩ : ∃ d, c = d + 16 := ⟨c - 16, by omega⟩
      rw [Nat.pow_add] at hx hp ⊢
      have hq : 2 ^ d * 2 ≤ 2 ^ 8 := by
        rw [← Nat.pow_succ]
        exact Nat.pow_le_pow_right (by omega) (by omega)
      have := p_add d (by omega) (x / 65536) (by omega)
      rw [show (x + 2 ^ d * 2 ^ 16) % 256 = x % 256 by omega, show (x + 2 ^ d * 2 ^ 16) / 256 % 256 = x / 256 % 256 by omega, show (x + 2 ^ d * 2 ^ 16) / 65536 = x / 65536 + 2 ^ d by omega, this]
      omega
def mskN (g : Nat → Bool) : Nat → Nat
  | 0 => 0
  | i + 1 => mskN g i + (if g i = true then 2 ^ i else 0)
def cntG (g : Nat → Bool) : Nat → Nat
  | 0 => 0
  | i + 1 => cntG g i + (if g i = true then 0 else 1)
theorem msk_lt (g : Nat → Bool) : ∀ c, mskN g c < 2 ^ c
  | 0 => by
    show 0 < 2 ^ 0
    decide
  | c + 1 => by
    have := msk_lt g c
    simp only [mskN, Nat.pow_succ]
    split <;> omega
theorem msk_24 (g : Nat → Bool) {c : Nat} (h : c ≤ 24) : mskN g c < 2 ^ 24 := Nat.lt_of_lt_of_le (msk_lt g c) (Nat.pow_le_pow_right (by omega) h)
theorem bc_msk (g : Nat → Bool) : ∀ c, c ≤ 24 → bc (mskN g c) + cntG g c = c
  | 0, _ => by
    show bc 0 + 0 = 0
    decide
  | c + 1, h => by
    have ih := bc_msk g c (by omega)
    simp only [mskN, cntG]
    split
    · rw [bc_add (by omega) (msk_lt g c)]
      omega
    · rw [Nat.add_zero]
      omega
theorem msk_mod (g : Nat → Bool) {n : Nat} : ∀ c, n ≤ c → mskN g c % 2 ^ n = mskN g n
  | 0, h => by
    obtain rfl : n = 0 := by omega
    show 0 % 2 ^ 0 = 0
    decide
  | c + 1, h => by
    by_cases e : n = c + 1
    · subst e
      exact Nat.mod_eq_of_lt (msk_lt g _)
    · have ih := msk_mod g (n := n) c (by omega)
      simp only [mskN]
      have hd : 2 ^ n ∣ (if g c = true then 2 ^ c else 0) := by
        split
        · exact Nat.pow_dvd_pow 2 (by omega)
        · exact Nat.dvd_zero _
      rw [Nat.add_mod, Nat.mod_eq_zero_of_dvd hd, Nat.add_zero, Nat.mod_mod, ih]
theorem msk_congr {g h : Nat → Bool} : ∀ c, (∀ i, i < c → g i = h i) → mskN g c = mskN h c
  | 0, _ => rfl
  | c + 1, e => by
    simp only [mskN]
    rw [msk_congr c (fun i hi => e i (by omega)), e c (by omega)]
theorem msk_app {g : Nat → Bool} {c : Nat} {b : Bool} : mskN (va_up g c b) (c + 1) = mskN g c + (if b = true then 2 ^ c else 0) := by
  simp only [mskN]
  rw [va_up_self, msk_congr c (fun i hi => va_up_ne _ _ (by omega))]
theorem msk_app_t {g : Nat → Bool} {c : Nat} {b : Bool} (h : b = true) : mskN (va_up g c b) (c + 1) = mskN g c + 2 ^ c := by rw [msk_app, if_pos h]
theorem msk_app_f {g : Nat → Bool} {c : Nat} {b : Bool} (h : b = false) : mskN (va_up g c b) (c + 1) = mskN g c := by rw [msk_app, if_neg (by rw [h]; decide)]; rfl
theorem or_msk {g : Nat → Bool} {c : Nat} : nI (mskN g c) ||| nI (2 ^ c) = nI (mskN g c + 2 ^ c) := by
  rw [i_or]
  have h := Nat.two_pow_add_eq_or_of_lt (msk_lt g c) 1
  rw [Nat.mul_one] at h
  rw [Nat.or_comm, ← h, Nat.add_comm]
theorem shl1 : ∀ c, c < 31 → nI 1 <<< (nI c &&& 31) = nI (2 ^ c) := by decide +kernel
theorem and_msk {g : Nat → Bool} {c n : Nat} (hc : c ≤ 24) (h : n ≤ c) : nI (mskN g c) &&& nI (2 ^ n - 1) = nI (mskN g n) := by
  rw [i_and rfl, Nat.and_two_pow_sub_one_eq_mod, msk_mod g c h]
def untN (gb : Bool) (g : Nat → Bool) (c : Nat) : Nat := (if gb = true then 0 else 1) + cntG g c
theorem unt_t {gb : Bool} {g : Nat → Bool} {c : Nat} (h : gb = true) (hc : c ≤ 24) : 0 + c - bc (mskN g c) = untN gb g c := by
  have := bc_msk g c hc
  unfold untN
  rw [if_pos h]
  omega
theorem unt_f {gb : Bool} {g : Nat → Bool} {c : Nat} (h : gb = false) (hc : c ≤ 24) : 1 + c - bc (mskN g c) = untN gb g c := by
  have := bc_msk g c hc
  unfold untN
  rw [if_neg (by rw [h]; decide)]
  omega
theorem cntG_le (g : Nat → Bool) : ∀ c, cntG g c ≤ c
  | 0 => Nat.le_refl _
  | c + 1 => by
    have := cntG_le g c
    simp only [cntG]
    split <;> omega
theorem untN_le {gb : Bool} {g : Nat → Bool} {c : Nat} (hc : c ≤ 24) : untN gb g c ≤ 25 := by
  have := cntG_le g c
  unfold untN
  split <;> omega
abbrev rmJ6_bitCount_0f7a4 : Room := { frames := 0, cells := 0, slots := 0, locals := 0 }
theorem ydJ6_bitCount_0f7a4 : yJ6_bitCount_0f7a4.cls ≠ "java/lang/invoke/MethodHandle" ∧ yJ6_bitCount_0f7a4.cls ≠ "java/lang/invoke/VarHandle" ∧ (parseMethodDescriptor yJ6_bitCount_0f7a4.desc).map (fun d => d.parameters.length) = some 1 := by decide +kernel
set_option maxRecDepth 100000 in
set_option maxHeartbeats 4000000 in
theorem k_J6_bitCount_0f7a4 (l : Launch) (D : va_G) (cy : Nat → ClassId) (zs : Nat → Nat) (ws : va_W)  (x : Nat)  (hx : x < 2 ^ 24) : Mi l D cy zs yJ6_bitCount_0f7a4 wsJ6_bitCount_0f7a4 rmJ6_bitCount_0f7a4 [.int (nI x)] ws (PQ (nI (bc x)) ws) := by
  refine Mi.of (lv := [(0, .int (nI x))]) RJ6 ⟨by decide, rfl⟩ rfl (Nat.le_of_ble_eq_true rfl) rfl ?_
  intro p e s m args below meth c A C hnm
  have hA := dA_le 1431655765 x
  have hB := dB_le 858993459 (dA 1431655765 x)
  have hC := dC_le 252645135 (dB 858993459 (dA 1431655765 x))
  refine g_iload_n C dJ6_bitCount_0f7a4_0 rfl 0 rfl ?_
  refine g_iload_n C dJ6_bitCount_0f7a4_1 rfl 0 rfl ?_
  refine g_iconst (v := nI 1) C dJ6_bitCount_0f7a4_2 (by decide +kernel) ?_
  refine g_iushr (v := nI (x / 2)) C dJ6_bitCount_0f7a4_3 (pk_ushrN (by omega) (nI 1) 1 (by decide +kernel)) ?_
  refine g_ldcw (v := 1431655765) C (C.hw (List.mem_cons_of_mem _ (List.mem_of_getElem? (i := 0) rfl))) dJ6_bitCount_0f7a4_4 ?_
  refine g_iand (v := nI (x / 2 &&& 1431655765)) C dJ6_bitCount_0f7a4_7 (i_and (by decide +kernel)) ?_
  refine g_isub (v := nI (dA 1431655765 x)) C dJ6_bitCount_0f7a4_8 (pk_sub (dA_sub _ _)) ?_
  refine g_istore_n (lv' := [(0, .int (nI (dA 1431655765 x)))]) C dJ6_bitCount_0f7a4_9 rfl (by decide) rfl ?_
  refine g_iload_n C dJ6_bitCount_0f7a4_10 rfl 0 rfl ?_
  refine g_ldcw (v := 858993459) C (C.hw (List.mem_cons_of_mem _ (List.mem_of_getElem? (i := 1) rfl))) dJ6_bitCount_0f7a4_11 ?_
  refine g_iand (v := nI (dA 1431655765 x &&& 858993459)) C dJ6_bitCount_0f7a4_14 (i_and (by decide +kernel)) ?_
  refine g_iload_n C dJ6_bitCount_0f7a4_15 rfl 0 rfl ?_
  refine g_iconst (v := nI 2) C dJ6_bitCount_0f7a4_16 (by decide +kernel) ?_
  refine g_iushr (v := nI (dA 1431655765 x / 4)) C dJ6_bitCount_0f7a4_17 (pk_ushrN (by omega) (nI 2) 2 (by decide +kernel)) ?_
  refine g_ldcw (v := 858993459) C (C.hw (List.mem_cons_of_mem _ (List.mem_of_getElem? (i := 1) rfl))) dJ6_bitCount_0f7a4_18 ?_
  refine g_iand (v := nI (dA 1431655765 x / 4 &&& 858993459)) C dJ6_bitCount_0f7a4_21 (i_and (by decide +kernel)) ?_
  refine g_iadd (v := nI (dB 858993459 (dA 1431655765 x))) C dJ6_bitCount_0f7a4_22 (nI_add _ _) ?_
  refine g_istore_n (lv' := [(0, .int (nI (dB 858993459 (dA 1431655765 x))))]) C dJ6_bitCount_0f7a4_23 rfl (by decide) rfl ?_
  refine g_iload_n C dJ6_bitCount_0f7a4_24 rfl 0 rfl ?_
  refine g_iload_n C dJ6_bitCount_0f7a4_25 rfl 0 rfl ?_
  refine g_iconst (v := nI 4) C dJ6_bitCount_0f7a4_26 (by decide +kernel) ?_
  refine g_iushr (v := nI (dB 858993459 (dA 1431655765 x) / 16)) C dJ6_bitCount_0f7a4_27 (pk_ushrN (by omega) (nI 4) 4 (by decide +kernel)) ?_
  refine g_iadd (v := nI ((dB 858993459 (dA 1431655765 x)) + (dB 858993459 (dA 1431655765 x) / 16))) C dJ6_bitCount_0f7a4_28 (nI_add _ _) ?_
  refine g_ldcw (v := 252645135) C (C.hw (List.mem_cons_of_mem _ (List.mem_of_getElem? (i := 2) rfl))) dJ6_bitCount_0f7a4_29 ?_
  refine g_iand (v := nI (dC 252645135 (dB 858993459 (dA 1431655765 x)))) C dJ6_bitCount_0f7a4_32 (i_and (by decide +kernel)) ?_
  refine g_istore_n (lv' := [(0, .int (nI (dC 252645135 (dB 858993459 (dA 1431655765 x)))))]) C dJ6_bitCount_0f7a4_33 rfl (by decide) rfl ?_
  refine g_iload_n C dJ6_bitCount_0f7a4_34 rfl 0 rfl ?_
  refine g_iload_n C dJ6_bitCount_0f7a4_35 rfl 0 rfl ?_
  refine g_bipush (v := nI 8) C dJ6_bitCount_0f7a4_36 (by decide +kernel) ?_
  refine g_iushr (v := nI (dC 252645135 (dB 858993459 (dA 1431655765 x)) / 256)) C dJ6_bitCount_0f7a4_38 (pk_ushrN (by omega) (nI 8) 8 (by decide +kernel)) ?_
  refine g_iadd (v := nI ((dC 252645135 (dB 858993459 (dA 1431655765 x))) + (dC 252645135 (dB 858993459 (dA 1431655765 x)) / 256))) C dJ6_bitCount_0f7a4_39 (nI_add _ _) ?_
  refine g_istore_n (lv' := [(0, .int (nI ((dC 252645135 (dB 858993459 (dA 1431655765 x))) + (dC 252645135 (dB 858993459 (dA 1431655765 x)) / 256))))]) C dJ6_bitCount_0f7a4_40 rfl (by decide) rfl ?_
  refine g_iload_n C dJ6_bitCount_0f7a4_41 rfl 0 rfl ?_
  refine g_iload_n C dJ6_bitCount_0f7a4_42 rfl 0 rfl ?_
  refine g_bipush (v := nI 16) C dJ6_bitCount_0f7a4_43 (by decide +kernel) ?_
  refine g_iushr (v := nI ((dC 252645135 (dB 858993459 (dA 1431655765 x)) + dC 252645135 (dB 858993459 (dA 1431655765 x)) / 256) / 65536)) C dJ6_bitCount_0f7a4_45 (pk_ushrN (by omega) (nI 16) 16 (by decide +kernel)) ?_
  refine g_iadd (v := nI (((dC 252645135 (dB 858993459 (dA 1431655765 x))) + (dC 252645135 (dB 858993459 (dA 1431655765 x)) / 256)) + ((dC 252645135 (dB 858993459 (dA 1431655765 x)) + dC 252645135 (dB 858993459 (dA 1431655765 x)) / 256) / 65536))) C dJ6_bitCount_0f7a4_46 (nI_add _ _) ?_
  refine g_istore_n (lv' := [(0, .int (nI (((dC 252645135 (dB 858993459 (dA 1431655765 x))) + (dC 252645135 (dB 858993459 (dA 1431655765 x)) / 256)) + ((dC 252645135 (dB 858993459 (dA 1431655765 x)) + dC 252645135 (dB 858993459 (dA 1431655765 x)) / 256) / 65536))))]) C dJ6_bitCount_0f7a4_47 rfl (by decide) rfl ?_
  refine g_iload_n C dJ6_bitCount_0f7a4_48 rfl 0 rfl ?_
  refine g_bipush (v := nI 63) C dJ6_bitCount_0f7a4_49 (by decide +kernel) ?_
  refine g_iand (v := nI (bc x)) C dJ6_bitCount_0f7a4_51 (pk_andN (by omega) 6 (by decide +kernel)) ?_
  exact g_iret C rfl (⟨rfl, rfl⟩) (Nat.le_of_ble_eq_true rfl) (Nat.le_of_ble_eq_true rfl) dJ6_bitCount_0f7a4_52
abbrev rmX0_init : Room := { frames := 1, cells := 1, slots := 24, locals := 40 }
theorem ydX0_init : yX0_init.cls ≠ "java/lang/invoke/MethodHandle" ∧ yX0_init.cls ≠ "java/lang/invoke/VarHandle" ∧ (parseMethodDescriptor yX0_init.desc).map (fun d => d.parameters.length) = some 3 := by decide +kernel
theorem iwX0_init_X0 : ∀ w ∈ u_ws RX0 TX0 6, w ∈ wsX0_init := fun _ h => (List.mem_cons_of_mem _ (List.mem_append_right _ h))
set_option maxRecDepth 100000 in
set_option maxHeartbeats 4000000 in
theorem k_X0_init (l : Launch) (D : va_G) (cy : Nat → ClassId) (zs : Nat → Nat) (ws : va_W) {i a : Nat} (ky : Nat) (fo : Int32) (gb : Bool) (hi : ws[i]? = some (a, .inr (1, [.int 0, .int 0, .null, .int 0, .int 0, .int 0])))  : Mv l D cy zs yX0_init wsX0_init rmX0_init [.ref a, .int (nI ky), .int fo, .int (bI gb)] ws (fun w => ∃ q, w = (ws.set i (a, .inr (1, [.int (nI ky), .int fo, .ref q, .int (nI 0), .int (bI gb), .int (nI 0)]))) ++ [(q, .inl (cy 0, 24, .inl (fun _ => 0)))]) := by
  refine Mv.of (lv := [(0, .ref a), (1, .int (nI ky)), (2, .int fo), (3, .int (bI gb))]) RX0 ⟨by decide, rfl⟩ rfl (Nat.le_of_ble_eq_true rfl) rfl ?_
  intro p e s m args below meth c A C hnm
  refine g_aload_n C dX0_init_0 rfl 0 rfl ?_
  refine g_init C (C.hw (List.mem_cons_of_mem _ (List.mem_append_left _ (List.mem_of_getElem? (i := 0) rfl)))) (C.hw (List.mem_cons_of_mem _ (List.mem_append_left _ (List.mem_of_getElem? (i := 1) rfl)))) (C.hw (List.mem_cons_of_mem _ (List.mem_append_left _ (List.mem_of_getElem? (i := 2) rfl)))) dX0_init_1 (by decide) (by decide) ?_
  refine g_aload_n C dX0_init_4 rfl 0 rfl ?_
  refine g_bipush (v := nI 24) C dX0_init_5 (by decide +kernel) ?_
  refine g_newI C 24 (C.hw (List.mem_cons_of_mem _ (List.mem_append_left _ (List.mem_of_getElem? (i := 3) rfl)))) (by decide +kernel) (by decide +kernel) (Nat.le_of_ble_eq_true rfl) (Nat.le_of_ble_eq_true rfl) (Nat.le_of_ble_eq_true rfl) dX0_init_7 (fun q => ?_)
  have u84 : (ws ++ [(q, .inl (cy 0, 24, .inl (fun _ => 0)))])[i]? = some (a, .inr (1, [.int 0, .int 0, .null, .int 0, .int 0, .int 0])) := (app_at hi)
  have u85 : (ws ++ [(q, .inl (cy 0, 24, .inl (fun _ => 0)))])[ws.length]? = some (q, .inl (cy 0, 24, .inl (fun _ => 0))) := (tl_at (by simp))
  refine g_putF (ci := 1) (ty := .array .int) (v := .ref q) (ws' := (ws.set i (a, .inr (1, [.int 0, .int 0, .ref q, .int 0, .int 0, .int 0])) ++ [(q, .inl (cy 0, 24, .inl (fun _ => 0)))])) C iwX0_init_X0 tyX0 tyX0_ok nmX0 i u84 rfl 2 (by decide) (C.hw (List.mem_cons_of_mem _ (List.mem_append_left _ (List.mem_of_getElem? (i := 4) rfl)))) (fun _ h9 => h9) rfl hnm rfl (by decide +kernel) rfl rfl (Nat.le_of_ble_eq_true rfl) (ap_set hi rfl) dX0_init_9 ?_
  have u86 : (ws.set i (a, .inr (1, [.int 0, .int 0, .ref q, .int 0, .int 0, .int 0])) ++ [(q, .inl (cy 0, 24, .inl (fun _ => 0)))])[i]? = some (a, .inr (1, [.int 0, .int 0, .ref q, .int 0, .int 0, .int 0])) := (app_at (set_at hi))
  have u87 : (ws.set i (a, .inr (1, [.int 0, .int 0, .ref q, .int 0, .int 0, .int 0])) ++ [(q, .inl (cy 0, 24, .inl (fun _ => 0)))])[ws.length]? = some (q, .inl (cy 0, 24, .inl (fun _ => 0))) := (tl_at (by simp))
  refine g_aload_n C dX0_init_12 rfl 0 rfl ?_
  refine g_iconst (v := nI 0) C dX0_init_13 (by decide +kernel) ?_
  refine g_put (ci := 1) (ty := .int) (v := .int (nI 0)) (ws' := (ws.set i (a, .inr (1, [.int 0, .int 0, .ref q, .int (nI 0), .int 0, .int 0])) ++ [(q, .inl (cy 0, 24, .inl (fun _ => 0)))])) C iwX0_init_X0 tyX0 tyX0_ok nmX0 i u86 rfl 3 (by decide) (C.hw (List.mem_cons_of_mem _ (List.mem_append_left _ (List.mem_of_getElem? (i := 5) rfl)))) (fun _ h9 => h9) rfl (by decide +kernel) rfl rfl (Nat.le_of_ble_eq_true rfl) (ap_set (set_at hi) (by rw [List.set_set] <;> rfl)) dX0_init_14 ?_
  have u88 : (ws.set i (a, .inr (1, [.int 0, .int 0, .ref q, .int (nI 0), .int 0, .int 0])) ++ [(q, .inl (cy 0, 24, .inl (fun _ => 0)))])[i]? = some (a, .inr (1, [.int 0, .int 0, .ref q, .int (nI 0), .int 0, .int 0])) := (app_at (set_at hi))
  have u89 : (ws.set i (a, .inr (1, [.int 0, .int 0, .ref q, .int (nI 0), .int 0, .int 0])) ++ [(q, .inl (cy 0, 24, .inl (fun _ => 0)))])[ws.length]? = some (q, .inl (cy 0, 24, .inl (fun _ => 0))) := (tl_at (by simp))
  refine g_aload_n C dX0_init_17 rfl 0 rfl ?_
  refine g_iconst (v := nI 0) C dX0_init_18 (by decide +kernel) ?_
  refine g_put (ci := 1) (ty := .int) (v := .int (nI 0)) (ws' := (ws.set i (a, .inr (1, [.int 0, .int 0, .ref q, .int (nI 0), .int 0, .int (nI 0)])) ++ [(q, .inl (cy 0, 24, .inl (fun _ => 0)))])) C iwX0_init_X0 tyX0 tyX0_ok nmX0 i u88 rfl 5 (by decide) (C.hw (List.mem_cons_of_mem _ (List.mem_append_left _ (List.mem_of_getElem? (i := 6) rfl)))) (fun _ h9 => h9) rfl (by decide +kernel) rfl rfl (Nat.le_of_ble_eq_true rfl) (ap_set (set_at hi) (by rw [List.set_set] <;> rfl)) dX0_init_19 ?_
  have u90 : (ws.set i (a, .inr (1, [.int 0, .int 0, .ref q, .int (nI 0), .int 0, .int (nI 0)])) ++ [(q, .inl (cy 0, 24, .inl (fun _ => 0)))])[i]? = some (a, .inr (1, [.int 0, .int 0, .ref q, .int (nI 0), .int 0, .int (nI 0)])) := (app_at (set_at hi))
  have u91 : (ws.set i (a, .inr (1, [.int 0, .int 0, .ref q, .int (nI 0), .int 0, .int (nI 0)])) ++ [(q, .inl (cy 0, 24, .inl (fun _ => 0)))])[ws.length]? = some (q, .inl (cy 0, 24, .inl (fun _ => 0))) := (tl_at (by simp))
  refine g_aload_n C dX0_init_22 rfl 0 rfl ?_
  refine g_iload_n C dX0_init_23 rfl 1 rfl ?_
  refine g_putF (ci := 1) (ty := .int) (v := .int (nI ky)) (ws' := (ws.set i (a, .inr (1, [.int (nI ky), .int 0, .ref q, .int (nI 0), .int 0, .int (nI 0)])) ++ [(q, .inl (cy 0, 24, .inl (fun _ => 0)))])) C iwX0_init_X0 tyX0 tyX0_ok nmX0 i u90 rfl 0 (by decide) (C.hw (List.mem_cons_of_mem _ (List.mem_append_left _ (List.mem_of_getElem? (i := 7) rfl)))) (fun _ h9 => h9) rfl hnm rfl (by decide +kernel) rfl rfl (Nat.le_of_ble_eq_true rfl) (ap_set (set_at hi) (by rw [List.set_set] <;> rfl)) dX0_init_24 ?_
  have u92 : (ws.set i (a, .inr (1, [.int (nI ky), .int 0, .ref q, .int (nI 0), .int 0, .int (nI 0)])) ++ [(q, .inl (cy 0, 24, .inl (fun _ => 0)))])[i]? = some (a, .inr (1, [.int (nI ky), .int 0, .ref q, .int (nI 0), .int 0, .int (nI 0)])) := (app_at (set_at hi))
  have u93 : (ws.set i (a, .inr (1, [.int (nI ky), .int 0, .ref q, .int (nI 0), .int 0, .int (nI 0)])) ++ [(q, .inl (cy 0, 24, .inl (fun _ => 0)))])[ws.length]? = some (q, .inl (cy 0, 24, .inl (fun _ => 0))) := (tl_at (by simp))
  refine g_aload_n C dX0_init_27 rfl 0 rfl ?_
  refine g_iload_n C dX0_init_28 rfl 2 rfl ?_
  refine g_putF (ci := 1) (ty := .int) (v := .int fo) (ws' := (ws.set i (a, .inr (1, [.int (nI ky), .int fo, .ref q, .int (nI 0), .int 0, .int (nI 0)])) ++ [(q, .inl (cy 0, 24, .inl (fun _ => 0)))])) C iwX0_init_X0 tyX0 tyX0_ok nmX0 i u92 rfl 1 (by decide) (C.hw (List.mem_cons_of_mem _ (List.mem_append_left _ (List.mem_of_getElem? (i := 8) rfl)))) (fun _ h9 => h9) rfl hnm rfl (by decide +kernel) rfl rfl (Nat.le_of_ble_eq_true rfl) (ap_set (set_at hi) (by rw [List.set_set] <;> rfl)) dX0_init_29 ?_
  have u94 : (ws.set i (a, .inr (1, [.int (nI ky), .int fo, .ref q, .int (nI 0), .int 0, .int (nI 0)])) ++ [(q, .inl (cy 0, 24, .inl (fun _ => 0)))])[i]? = some (a, .inr (1, [.int (nI ky), .int fo, .ref q, .int (nI 0), .int 0, .int (nI 0)])) := (app_at (set_at hi))
  have u95 : (ws.set i (a, .inr (1, [.int (nI ky), .int fo, .ref q, .int (nI 0), .int 0, .int (nI 0)])) ++ [(q, .inl (cy 0, 24, .inl (fun _ => 0)))])[ws.length]? = some (q, .inl (cy 0, 24, .inl (fun _ => 0))) := (tl_at (by simp))
  refine g_aload_n C dX0_init_32 rfl 0 rfl ?_
  refine g_iload_n C dX0_init_33 rfl 3 rfl ?_
  refine g_put (ci := 1) (ty := .boolean) (v := .int (bI gb)) (ws' := (ws.set i (a, .inr (1, [.int (nI ky), .int fo, .ref q, .int (nI 0), .int (bI gb), .int (nI 0)])) ++ [(q, .inl (cy 0, 24, .inl (fun _ => 0)))])) C iwX0_init_X0 tyX0 tyX0_ok nmX0 i u94 rfl 4 (by decide) (C.hw (List.mem_cons_of_mem _ (List.mem_append_left _ (List.mem_of_getElem? (i := 9) rfl)))) (fun _ h9 => h9) rfl (by decide +kernel) (by cases gb <;> rfl) (by cases gb <;> rfl) (Nat.le_of_ble_eq_true rfl) (ap_set (set_at hi) (by rw [List.set_set] <;> rfl)) dX0_init_34 ?_
  have u96 : (ws.set i (a, .inr (1, [.int (nI ky), .int fo, .ref q, .int (nI 0), .int (bI gb), .int (nI 0)])) ++ [(q, .inl (cy 0, 24, .inl (fun _ => 0)))])[i]? = some (a, .inr (1, [.int (nI ky), .int fo, .ref q, .int (nI 0), .int (bI gb), .int (nI 0)])) := (app_at (set_at hi))
  have u97 : (ws.set i (a, .inr (1, [.int (nI ky), .int fo, .ref q, .int (nI 0), .int (bI gb), .int (nI 0)])) ++ [(q, .inl (cy 0, 24, .inl (fun _ => 0)))])[ws.length]? = some (q, .inl (cy 0, 24, .inl (fun _ => 0))) := (tl_at (by simp))
  exact g_vret C rfl (⟨q, rfl⟩) (Nat.le_of_ble_eq_true rfl) (Nat.le_of_ble_eq_true rfl) dX0_init_37
abbrev rmX0_use : Room := { frames := 1, cells := 0, slots := 0, locals := 20 }
theorem ydX0_use : yX0_use.cls ≠ "java/lang/invoke/MethodHandle" ∧ yX0_use.cls ≠ "java/lang/invoke/VarHandle" ∧ (parseMethodDescriptor yX0_use.desc).map (fun d => d.parameters.length) = some 0 := by decide +kernel
theorem iwX0_use_X0 : ∀ w ∈ u_ws RX0 TX0 6, w ∈ wsX0_use := fun _ h => (List.mem_cons_of_mem _ (List.mem_append_right _ h))
set_option maxRecDepth 100000 in
set_option maxHeartbeats 4000000 in
theorem k_X0_use (l : Launch) (D : va_G) (cy : Nat → ClassId) (zs : Nat → Nat) (ws : va_W) {i a ky ar ct : Nat} {fo : Int32} {gb : Bool} {gv : Nat → Bool}   (hi : ws[i]? = some (a, .inr (1, [.int (nI ky), .int fo, .ref ar, .int (nI ct), .int (bI gb), .int (nI (mskN gv ct))]))) (hct : ct ≤ 24) : Mi l D cy zs yX0_use wsX0_use rmX0_use [.ref a] ws (PQ (nI (untN gb gv ct)) ws) := by
  refine Mi.of (lv := [(0, .ref a)]) RX0 ⟨by decide, rfl⟩ rfl (Nat.le_of_ble_eq_true rfl) rfl ?_
  intro p e s m args below meth c A C hnm
  have hbc := bc_msk gv ct hct
  refine g_aload_n C dX0_use_0 rfl 0 rfl ?_
  refine g_get (ci := 1) (v := .int (bI gb)) C iwX0_use_X0 i hi rfl 4 (by decide) (C.hw (List.mem_cons_of_mem _ (List.mem_append_left _ (List.mem_of_getElem? (i := 0) rfl)))) (fun _ h9 => h9) rfl dX0_use_1 ?_
  refine g_if_eq (tgt := 11) C dX0_use_4 (by decide) (fun c4 => ?_) (fun c4 => ?_)
  · skip
    have c4 := cb_eq0 c4
    refine g_iconst (v := nI 1) C dX0_use_11 (by decide +kernel) ?_
    refine g_aload_n C dX0_use_12 rfl 0 rfl ?_
    refine g_get (ci := 1) (v := .int (nI ct)) C iwX0_use_X0 i hi rfl 3 (by decide) (C.hw (List.mem_cons_of_mem _ (List.mem_append_left _ (List.mem_of_getElem? (i := 1) rfl)))) (fun _ h9 => h9) rfl dX0_use_13 ?_
    refine g_iadd (v := nI (1 + ct)) C dX0_use_16 (nI_add _ _) ?_
    refine g_aload_n C dX0_use_17 rfl 0 rfl ?_
    refine g_get (ci := 1) (v := .int (nI (mskN gv ct))) C iwX0_use_X0 i hi rfl 5 (by decide) (C.hw (List.mem_cons_of_mem _ (List.mem_append_left _ (List.mem_of_getElem? (i := 2) rfl)))) (fun _ h9 => h9) rfl dX0_use_18 ?_
    refine g_Si (st := [.int (nI (1 + ct))]) C (k_J6_bitCount_0f7a4 l D cy zs ws (mskN gv ct)  (msk_24 _ hct)) gX0_use_J6_bitCount_0f7a4 rfl ydJ6_bitCount_0f7a4 ⟨Nat.le_of_ble_eq_true rfl, Nat.le_of_ble_eq_true rfl⟩ ⟨Nat.le_of_ble_eq_true rfl, Nat.le_of_ble_eq_true rfl⟩ rfl (Nat.le_of_ble_eq_true rfl) dX0_use_21 (fun r21 w21 h21 => ?_)
    obtain ⟨h21a, h21b⟩ := h21
    subst h21a
    have h21b := h21b.symm
    subst h21b
    refine g_isub (v := nI ((1 + ct) - (bc (mskN gv ct)))) C dX0_use_24 (pk_sub (by omega)) ?_
    exact g_iret C rfl (⟨congrArg nI (unt_f c4 hct), rfl⟩) (Nat.le_of_ble_eq_true rfl) (Nat.le_of_ble_eq_true rfl) dX0_use_25
  · skip
    have c4 := cb_eq1 c4
    refine g_iconst (v := nI 0) C dX0_use_7 (by decide +kernel) ?_
    refine g_goto (tgt := 12) C dX0_use_8 (by decide) ?_
    refine g_aload_n C dX0_use_12 rfl 0 rfl ?_
    refine g_get (ci := 1) (v := .int (nI ct)) C iwX0_use_X0 i hi rfl 3 (by decide) (C.hw (List.mem_cons_of_mem _ (List.mem_append_left _ (List.mem_of_getElem? (i := 1) rfl)))) (fun _ h9 => h9) rfl dX0_use_13 ?_
    refine g_iadd (v := nI (0 + ct)) C dX0_use_16 (nI_add _ _) ?_
    refine g_aload_n C dX0_use_17 rfl 0 rfl ?_
    refine g_get (ci := 1) (v := .int (nI (mskN gv ct))) C iwX0_use_X0 i hi rfl 5 (by decide) (C.hw (List.mem_cons_of_mem _ (List.mem_append_left _ (List.mem_of_getElem? (i := 2) rfl)))) (fun _ h9 => h9) rfl dX0_use_18 ?_
    refine g_Si (st := [.int (nI (0 + ct))]) C (k_J6_bitCount_0f7a4 l D cy zs ws (mskN gv ct)  (msk_24 _ hct)) gX0_use_J6_bitCount_0f7a4 rfl ydJ6_bitCount_0f7a4 ⟨Nat.le_of_ble_eq_true rfl, Nat.le_of_ble_eq_true rfl⟩ ⟨Nat.le_of_ble_eq_true rfl, Nat.le_of_ble_eq_true rfl⟩ rfl (Nat.le_of_ble_eq_true rfl) dX0_use_21 (fun r21 w21 h21 => ?_)
    obtain ⟨h21a, h21b⟩ := h21
    subst h21a
    have h21b := h21b.symm
    subst h21b
    refine g_isub (v := nI ((0 + ct) - (bc (mskN gv ct)))) C dX0_use_24 (pk_sub (by omega)) ?_
    exact g_iret C rfl (⟨congrArg nI (unt_t c4 hct), rfl⟩) (Nat.le_of_ble_eq_true rfl) (Nat.le_of_ble_eq_true rfl) dX0_use_25
abbrev rmX0_append : Room := { frames := 0, cells := 0, slots := 0, locals := 0 }
theorem ydX0_append : yX0_append.cls ≠ "java/lang/invoke/MethodHandle" ∧ yX0_append.cls ≠ "java/lang/invoke/VarHandle" ∧ (parseMethodDescriptor yX0_append.desc).map (fun d => d.parameters.length) = some 2 := by decide +kernel
theorem iwX0_append_X0 : ∀ w ∈ u_ws RX0 TX0 6, w ∈ wsX0_append := fun _ h => (List.mem_cons_of_mem _ (List.mem_append_right _ h))
set_option maxRecDepth 100000 in
set_option maxHeartbeats 4000000 in
theorem k_X0_append (l : Launch) (D : va_G) (cy : Nat → ClassId) (zs : Nat → Nat) (ws : va_W) {i a ky ar ct : Nat} {fo : Int32} {gb : Bool} {gv : Nat → Bool} {k : Nat} {f : Nat → Int32}  (v : Int32) (g : Bool) (hi : ws[i]? = some (a, .inr (1, [.int (nI ky), .int fo, .ref ar, .int (nI ct), .int (bI gb), .int (nI (mskN gv ct))]))) (hk : ws[k]? = some (ar, .inl (cy 0, 24, .inl f))) (hct : ct ≤ 24) : Mv l D cy zs yX0_append wsX0_append rmX0_append [.ref a, .int v, .int (bI g)] ws (fun w => (24 ≤ ct ∧ w = ws) ∨ (ct < 24 ∧ w = (ws.set i (a, .inr (1, [.int (nI ky), .int fo, .ref ar, .int (nI (ct + 1)), .int (bI gb), .int (nI (mskN (va_up gv ct g) (ct + 1)))]))).set k (ar, .inl (cy 0, 24, .inl (upd f ct v))))) := by
  refine Mv.of (lv := [(0, .ref a), (1, .int v), (2, .int (bI g))]) RX0 ⟨by decide, rfl⟩ rfl (Nat.le_of_ble_eq_true rfl) rfl ?_
  intro p e s m args below meth c A C hnm
  refine g_aload_n C dX0_append_0 rfl 0 rfl ?_
  refine g_get (ci := 1) (v := .int (nI ct)) C iwX0_append_X0 i hi rfl 3 (by decide) (C.hw (List.mem_cons_of_mem _ (List.mem_append_left _ (List.mem_of_getElem? (i := 0) rfl)))) (fun _ h9 => h9) rfl dX0_append_1 ?_
  refine g_bipush (v := nI 24) C dX0_append_4 (by decide +kernel) ?_
  refine g_icmp_lt (tgt := 10) C dX0_append_6 (by decide) (fun c6 => ?_) (fun c6 => ?_)
  · skip
    have c6 := c_lt0 (by omega) (by omega) c6
    refine g_aload_n C dX0_append_10 rfl 0 rfl ?_
    refine g_get (ci := 1) (v := .ref ar) C iwX0_append_X0 i hi rfl 2 (by decide) (C.hw (List.mem_cons_of_mem _ (List.mem_append_left _ (List.mem_of_getElem? (i := 1) rfl)))) (fun _ h9 => h9) rfl dX0_append_11 ?_
    refine g_aload_n C dX0_append_14 rfl 0 rfl ?_
    refine g_get (ci := 1) (v := .int (nI ct)) C iwX0_append_X0 i hi rfl 3 (by decide) (C.hw (List.mem_cons_of_mem _ (List.mem_append_left _ (List.mem_of_getElem? (i := 0) rfl)))) (fun _ h9 => h9) rfl dX0_append_15 ?_
    refine g_iload_n C dX0_append_18 rfl 1 rfl ?_
    refine g_iastR (nn := 24) (j := ct) (v := v) (f := f) (ws' := (ws.set k (ar, .inl (cy 0, 24, .inl (upd f ct v))))) C k hk (by omega) (by omega) rfl dX0_append_19 ?_
    have u98 : (ws.set k (ar, .inl (cy 0, 24, .inl (upd f ct v))))[i]? = some (a, .inr (1, [.int (nI ky), .int fo, .ref ar, .int (nI ct), .int (bI gb), .int (nI (mskN gv ct))])) := (set_off (pos_ne hk hi (by simp)) hi)
    have u99 : (ws.set k (ar, .inl (cy 0, 24, .inl (upd f ct v))))[k]? = some (ar, .inl (cy 0, 24, .inl (upd f ct v))) := (set_at hk)
    refine g_iload_n C dX0_append_20 rfl 2 rfl ?_
    refine g_if_eq (tgt := 39) C dX0_append_21 (by decide) (fun c21 => ?_) (fun c21 => ?_)
    · skip
      have c21 := cb_eq0 c21
      refine g_aload_n C dX0_append_39 rfl 0 rfl ?_
      refine g_dup C dX0_append_40 rfl ?_
      refine g_get (ci := 1) (v := .int (nI ct)) C iwX0_append_X0 i u98 rfl 3 (by decide) (C.hw (List.mem_cons_of_mem _ (List.mem_append_left _ (List.mem_of_getElem? (i := 0) rfl)))) (fun _ h9 => h9) rfl dX0_append_41 ?_
      refine g_iconst (v := nI 1) C dX0_append_44 (by decide +kernel) ?_
      refine g_iadd (v := nI (ct + 1)) C dX0_append_45 (nI_add _ _) ?_
      refine g_put (ci := 1) (ty := .int) (v := .int (nI (ct + 1))) (ws' := ((ws.set i (a, .inr (1, [.int (nI ky), .int fo, .ref ar, .int (nI (ct + 1)), .int (bI gb), .int (nI (mskN gv ct))]))).set k (ar, .inl (cy 0, 24, .inl (upd f ct v))))) C iwX0_append_X0 tyX0 tyX0_ok nmX0 i u98 rfl 3 (by decide) (C.hw (List.mem_cons_of_mem _ (List.mem_append_left _ (List.mem_of_getElem? (i := 0) rfl)))) (fun _ h9 => h9) rfl (by decide +kernel) rfl rfl (Nat.le_of_ble_eq_true rfl) (by rw [List.set_comm _ _ (pos_ne hk hi (by simp))] <;> rfl) dX0_append_46 ?_
      have u100 : ((ws.set i (a, .inr (1, [.int (nI ky), .int fo, .ref ar, .int (nI (ct + 1)), .int (bI gb), .int (nI (mskN gv ct))]))).set k (ar, .inl (cy 0, 24, .inl (upd f ct v))))[i]? = some (a, .inr (1, [.int (nI ky), .int fo, .ref ar, .int (nI (ct + 1)), .int (bI gb), .int (nI (mskN gv ct))])) := (set_off (pos_ne hk hi (by simp)) (set_at hi))
      have u101 : ((ws.set i (a, .inr (1, [.int (nI ky), .int fo, .ref ar, .int (nI (ct + 1)), .int (bI gb), .int (nI (mskN gv ct))]))).set k (ar, .inl (cy 0, 24, .inl (upd f ct v))))[k]? = some (ar, .inl (cy 0, 24, .inl (upd f ct v))) := (set_at (set_off (pos_ne hi hk (by simp)) hk))
      exact g_vret C rfl (Or.inr ⟨c6, by rw [msk_app_f c21]⟩) (Nat.le_of_ble_eq_true rfl) (Nat.le_of_ble_eq_true rfl) dX0_append_49
    · skip
      have c21 := cb_eq1 c21
      refine g_aload_n C dX0_append_24 rfl 0 rfl ?_
      refine g_dup C dX0_append_25 rfl ?_
      refine g_get (ci := 1) (v := .int (nI (mskN gv ct))) C iwX0_append_X0 i u98 rfl 5 (by decide) (C.hw (List.mem_cons_of_mem _ (List.mem_append_left _ (List.mem_of_getElem? (i := 2) rfl)))) (fun _ h9 => h9) rfl dX0_append_26 ?_
      refine g_iconst (v := nI 1) C dX0_append_29 (by decide +kernel) ?_
      refine g_aload_n C dX0_append_30 rfl 0 rfl ?_
      refine g_get (ci := 1) (v := .int (nI ct)) C iwX0_append_X0 i u98 rfl 3 (by decide) (C.hw (List.mem_cons_of_mem _ (List.mem_append_left _ (List.mem_of_getElem? (i := 0) rfl)))) (fun _ h9 => h9) rfl dX0_append_31 ?_
      refine g_ishl (v := nI (2 ^ ct)) C dX0_append_34 (shl1 _ (by omega)) ?_
      refine g_ior (v := nI (mskN gv ct + 2 ^ ct)) C dX0_append_35 or_msk ?_
      refine g_put (ci := 1) (ty := .int) (v := .int (nI (mskN gv ct + 2 ^ ct))) (ws' := ((ws.set i (a, .inr (1, [.int (nI ky), .int fo, .ref ar, .int (nI ct), .int (bI gb), .int (nI (mskN gv ct + 2 ^ ct))]))).set k (ar, .inl (cy 0, 24, .inl (upd f ct v))))) C iwX0_append_X0 tyX0 tyX0_ok nmX0 i u98 rfl 5 (by decide) (C.hw (List.mem_cons_of_mem _ (List.mem_append_left _ (List.mem_of_getElem? (i := 2) rfl)))) (fun _ h9 => h9) rfl (by decide +kernel) rfl rfl (Nat.le_of_ble_eq_true rfl) (by rw [List.set_comm _ _ (pos_ne hk hi (by simp))] <;> rfl) dX0_append_36 ?_
      have u102 : ((ws.set i (a, .inr (1, [.int (nI ky), .int fo, .ref ar, .int (nI ct), .int (bI gb), .int (nI (mskN gv ct + 2 ^ ct))]))).set k (ar, .inl (cy 0, 24, .inl (upd f ct v))))[i]? = some (a, .inr (1, [.int (nI ky), .int fo, .ref ar, .int (nI ct), .int (bI gb), .int (nI (mskN gv ct + 2 ^ ct))])) := (set_off (pos_ne hk hi (by simp)) (set_at hi))
      have u103 : ((ws.set i (a, .inr (1, [.int (nI ky), .int fo, .ref ar, .int (nI ct), .int (bI gb), .int (nI (mskN gv ct + 2 ^ ct))]))).set k (ar, .inl (cy 0, 24, .inl (upd f ct v))))[k]? = some (ar, .inl (cy 0, 24, .inl (upd f ct v))) := (set_at (set_off (pos_ne hi hk (by simp)) hk))
      refine g_aload_n C dX0_append_39 rfl 0 rfl ?_
      refine g_dup C dX0_append_40 rfl ?_
      refine g_get (ci := 1) (v := .int (nI ct)) C iwX0_append_X0 i u102 rfl 3 (by decide) (C.hw (List.mem_cons_of_mem _ (List.mem_append_left _ (List.mem_of_getElem? (i := 0) rfl)))) (fun _ h9 => h9) rfl dX0_append_41 ?_
      refine g_iconst (v := nI 1) C dX0_append_44 (by decide +kernel) ?_
      refine g_iadd (v := nI (ct + 1)) C dX0_append_45 (nI_add _ _) ?_
      refine g_put (ci := 1) (ty := .int) (v := .int (nI (ct + 1))) (ws' := ((ws.set i (a, .inr (1, [.int (nI ky), .int fo, .ref ar, .int (nI (ct + 1)), .int (bI gb), .int (nI (mskN gv ct + 2 ^ ct))]))).set k (ar, .inl (cy 0, 24, .inl (upd f ct v))))) C iwX0_append_X0 tyX0 tyX0_ok nmX0 i u102 rfl 3 (by decide) (C.hw (List.mem_cons_of_mem _ (List.mem_append_left _ (List.mem_of_getElem? (i := 0) rfl)))) (fun _ h9 => h9) rfl (by decide +kernel) rfl rfl (Nat.le_of_ble_eq_true rfl) (by rw [List.set_comm _ _ (pos_ne hk hi (by simp)), List.set_set] <;> rfl) dX0_append_46 ?_
      have u104 : ((ws.set i (a, .inr (1, [.int (nI ky), .int fo, .ref ar, .int (nI (ct + 1)), .int (bI gb), .int (nI (mskN gv ct + 2 ^ ct))]))).set k (ar, .inl (cy 0, 24, .inl (upd f ct v))))[i]? = some (a, .inr (1, [.int (nI ky), .int fo, .ref ar, .int (nI (ct + 1)), .int (bI gb), .int (nI (mskN gv ct + 2 ^ ct))])) := (set_off (pos_ne hk hi (by simp)) (set_at hi))
      have u105 : ((ws.set i (a, .inr (1, [.int (nI ky), .int fo, .ref ar, .int (nI (ct + 1)), .int (bI gb), .int (nI (mskN gv ct + 2 ^ ct))]))).set k (ar, .inl (cy 0, 24, .inl (upd f ct v))))[k]? = some (ar, .inl (cy 0, 24, .inl (upd f ct v))) := (set_at (set_off (pos_ne hi hk (by simp)) hk))
      exact g_vret C rfl (Or.inr ⟨c6, by rw [msk_app_t c21]⟩) (Nat.le_of_ble_eq_true rfl) (Nat.le_of_ble_eq_true rfl) dX0_append_49
  · skip
    have c6 := c_lt1 (by omega) (by omega) c6
    exact g_vret C rfl (Or.inl ⟨by omega, rfl⟩) (Nat.le_of_ble_eq_true rfl) (Nat.le_of_ble_eq_true rfl) dX0_append_9
abbrev rmX0_cutTo : Room := { frames := 0, cells := 0, slots := 0, locals := 0 }
theorem ydX0_cutTo : yX0_cutTo.cls ≠ "java/lang/invoke/MethodHandle" ∧ yX0_cutTo.cls ≠ "java/lang/invoke/VarHandle" ∧ (parseMethodDescriptor yX0_cutTo.desc).map (fun d => d.parameters.length) = some 1 := by decide +kernel
theorem iwX0_cutTo_X0 : ∀ w ∈ u_ws RX0 TX0 6, w ∈ wsX0_cutTo := fun _ h => (List.mem_cons_of_mem _ (List.mem_append_right _ h))
set_option maxRecDepth 100000 in
set_option maxHeartbeats 4000000 in
theorem k_X0_cutTo (l : Launch) (D : va_G) (cy : Nat → ClassId) (zs : Nat → Nat) (ws : va_W) {i a ky ar ct : Nat} {fo : Int32} {gb : Bool} {gv : Nat → Bool}  (n0 : Nat) (hi : ws[i]? = some (a, .inr (1, [.int (nI ky), .int fo, .ref ar, .int (nI ct), .int (bI gb), .int (nI (mskN gv ct))]))) (hct : ct ≤ 24) (hn : n0 ≤ 24) : Mi l D cy zs yX0_cutTo wsX0_cutTo rmX0_cutTo [.ref a, .int (nI n0)] ws (fun r w => (ct ≤ n0 ∧ r = nI 0 ∧ w = ws) ∨ (n0 < ct ∧ r = nI (ct - n0) ∧ w = ws.set i (a, .inr (1, [.int (nI ky), .int fo, .ref ar, .int (nI n0), .int (bI gb), .int (nI (mskN gv n0))])))) := by
  refine Mi.of (lv := [(0, .ref a), (1, .int (nI n0))]) RX0 ⟨by decide, rfl⟩ rfl (Nat.le_of_ble_eq_true rfl) rfl ?_
  intro p e s m args below meth c A C hnm
  have hp1 := Nat.one_le_two_pow (n := n0)
  refine g_iload_n C dX0_cutTo_0 rfl 1 rfl ?_
  refine g_aload_n C dX0_cutTo_1 rfl 0 rfl ?_
  refine g_get (ci := 1) (v := .int (nI ct)) C iwX0_cutTo_X0 i hi rfl 3 (by decide) (C.hw (List.mem_cons_of_mem _ (List.mem_append_left _ (List.mem_of_getElem? (i := 0) rfl)))) (fun _ h9 => h9) rfl dX0_cutTo_2 ?_
  refine g_icmp_lt (tgt := 10) C dX0_cutTo_5 (by decide) (fun c5 => ?_) (fun c5 => ?_)
  · skip
    have c5 := c_lt0 (by omega) (by omega) c5
    refine g_aload_n C dX0_cutTo_10 rfl 0 rfl ?_
    refine g_get (ci := 1) (v := .int (nI ct)) C iwX0_cutTo_X0 i hi rfl 3 (by decide) (C.hw (List.mem_cons_of_mem _ (List.mem_append_left _ (List.mem_of_getElem? (i := 0) rfl)))) (fun _ h9 => h9) rfl dX0_cutTo_11 ?_
    refine g_iload_n C dX0_cutTo_14 rfl 1 rfl ?_
    refine g_isub (v := nI (ct - n0)) C dX0_cutTo_15 (pk_sub (by omega)) ?_
    refine g_istore_n (lv' := [(2, .int (nI (ct - n0))), (0, .ref a), (1, .int (nI n0))]) C dX0_cutTo_16 rfl (by decide) rfl ?_
    refine g_aload_n C dX0_cutTo_17 rfl 1 rfl ?_
    refine g_iload_n C dX0_cutTo_18 rfl 2 rfl ?_
    refine g_put (ci := 1) (ty := .int) (v := .int (nI n0)) (ws' := (ws.set i (a, .inr (1, [.int (nI ky), .int fo, .ref ar, .int (nI n0), .int (bI gb), .int (nI (mskN gv ct))])))) C iwX0_cutTo_X0 tyX0 tyX0_ok nmX0 i hi rfl 3 (by decide) (C.hw (List.mem_cons_of_mem _ (List.mem_append_left _ (List.mem_of_getElem? (i := 0) rfl)))) (fun _ h9 => h9) rfl (by decide +kernel) rfl rfl (Nat.le_of_ble_eq_true rfl) rfl dX0_cutTo_19 ?_
    have u106 : (ws.set i (a, .inr (1, [.int (nI ky), .int fo, .ref ar, .int (nI n0), .int (bI gb), .int (nI (mskN gv ct))])))[i]? = some (a, .inr (1, [.int (nI ky), .int fo, .ref ar, .int (nI n0), .int (bI gb), .int (nI (mskN gv ct))])) := (set_at hi)
    refine g_aload_n C dX0_cutTo_22 rfl 1 rfl ?_
    refine g_dup C dX0_cutTo_23 rfl ?_
    refine g_get (ci := 1) (v := .int (nI (mskN gv ct))) C iwX0_cutTo_X0 i u106 rfl 5 (by decide) (C.hw (List.mem_cons_of_mem _ (List.mem_append_left _ (List.mem_of_getElem? (i := 1) rfl)))) (fun _ h9 => h9) rfl dX0_cutTo_24 ?_
    refine g_iconst (v := nI 1) C dX0_cutTo_27 (by decide +kernel) ?_
    refine g_iload_n C dX0_cutTo_28 rfl 2 rfl ?_
    refine g_ishl (v := nI (2 ^ n0)) C dX0_cutTo_29 (shl1 _ (by omega)) ?_
    refine g_iconst (v := nI 1) C dX0_cutTo_30 (by decide +kernel) ?_
    refine g_isub (v := nI (2 ^ n0 - 1)) C dX0_cutTo_31 (pk_sub hp1) ?_
    refine g_iand (v := nI (mskN gv n0)) C dX0_cutTo_32 (and_msk hct (by omega)) ?_
    refine g_put (ci := 1) (ty := .int) (v := .int (nI (mskN gv n0))) (ws' := (ws.set i (a, .inr (1, [.int (nI ky), .int fo, .ref ar, .int (nI n0), .int (bI gb), .int (nI (mskN gv n0))])))) C iwX0_cutTo_X0 tyX0 tyX0_ok nmX0 i u106 rfl 5 (by decide) (C.hw (List.mem_cons_of_mem _ (List.mem_append_left _ (List.mem_of_getElem? (i := 1) rfl)))) (fun _ h9 => h9) rfl (by decide +kernel) rfl rfl (Nat.le_of_ble_eq_true rfl) (by rw [List.set_set] <;> rfl) dX0_cutTo_33 ?_
    have u107 : (ws.set i (a, .inr (1, [.int (nI ky), .int fo, .ref ar, .int (nI n0), .int (bI gb), .int (nI (mskN gv n0))])))[i]? = some (a, .inr (1, [.int (nI ky), .int fo, .ref ar, .int (nI n0), .int (bI gb), .int (nI (mskN gv n0))])) := (set_at hi)
    refine g_iload_n C dX0_cutTo_36 rfl 0 rfl ?_
    exact g_iret C rfl (Or.inr ⟨by omega, rfl, rfl⟩) (Nat.le_of_ble_eq_true rfl) (Nat.le_of_ble_eq_true rfl) dX0_cutTo_37
  · skip
    have c5 := c_lt1 (by omega) (by omega) c5
    refine g_iconst (v := nI 0) C dX0_cutTo_8 (by decide +kernel) ?_
    exact g_iret C rfl (Or.inl ⟨by omega, rfl, rfl⟩) (Nat.le_of_ble_eq_true rfl) (Nat.le_of_ble_eq_true rfl) dX0_cutTo_9
abbrev rmX0_becomeCopyOf : Room := { frames := 1, cells := 0, slots := 0, locals := 60 }
theorem ydX0_becomeCopyOf : yX0_becomeCopyOf.cls ≠ "java/lang/invoke/MethodHandle" ∧ yX0_becomeCopyOf.cls ≠ "java/lang/invoke/VarHandle" ∧ (parseMethodDescriptor yX0_becomeCopyOf.desc).map (fun d => d.parameters.length) = some 1 := by decide +kernel
theorem iwX0_becomeCopyOf_X0 : ∀ w ∈ u_ws RX0 TX0 6, w ∈ wsX0_becomeCopyOf := fun _ h => (List.mem_cons_of_mem _ (List.mem_append_right _ h))
set_option maxRecDepth 100000 in
set_option maxHeartbeats 4000000 in
theorem k_X0_becomeCopyOf (l : Launch) (D : va_G) (cy : Nat → ClassId) (zs : Nat → Nat) (ws : va_W) {i a ky ar ct : Nat} {fo : Int32} {gb : Bool} {gv : Nat → Bool} {k : Nat} {f : Nat → Int32} {i2 a2 ky2 ar2 ct2 : Nat} {fo2 : Int32} {gb2 : Bool} {gv2 : Nat → Bool} {k2 : Nat} {f2 : Nat → Int32}   (hi : ws[i]? = some (a, .inr (1, [.int (nI ky), .int fo, .ref ar, .int (nI ct), .int (bI gb), .int (nI (mskN gv ct))]))) (hk : ws[k]? = some (ar, .inl (cy 0, 24, .inl f))) (hi2 : ws[i2]? = some (a2, .inr (1, [.int (nI ky2), .int fo2, .ref ar2, .int (nI ct2), .int (bI gb2), .int (nI (mskN gv2 ct2))]))) (hk2 : ws[k2]? = some (ar2, .inl (cy 0, 24, .inl f2))) (hct : ct2 ≤ 24) (hne1 : i ≠ i2) (hne2 : k ≠ k2) : Mv l D cy zs yX0_becomeCopyOf wsX0_becomeCopyOf rmX0_becomeCopyOf [.ref a, .ref a2] ws (fun w => w = (ws.set i (a, .inr (1, [.int (nI ky), .int fo, .ref ar, .int (nI ct2), .int (nI 0), .int (nI 0)]))).set k (ar, .inl (cy 0, 24, .inl (va_cpy f2 f 0 0 ct2)))) := by
  refine Mv.of (lv := [(0, .ref a), (1, .ref a2)]) RX0 ⟨by decide, rfl⟩ rfl (Nat.le_of_ble_eq_true rfl) rfl ?_
  intro p e s m args below meth c A C hnm
  refine g_aload_n C dX0_becomeCopyOf_0 rfl 1 rfl ?_
  refine g_get (ci := 1) (v := .ref ar2) C iwX0_becomeCopyOf_X0 i2 hi2 rfl 2 (by decide) (C.hw (List.mem_cons_of_mem _ (List.mem_append_left _ (List.mem_of_getElem? (i := 0) rfl)))) (fun _ h9 => h9) rfl dX0_becomeCopyOf_1 ?_
  refine g_iconst (v := nI 0) C dX0_becomeCopyOf_4 (by decide +kernel) ?_
  refine g_aload_n C dX0_becomeCopyOf_5 rfl 0 rfl ?_
  refine g_get (ci := 1) (v := .ref ar) C iwX0_becomeCopyOf_X0 i hi rfl 2 (by decide) (C.hw (List.mem_cons_of_mem _ (List.mem_append_left _ (List.mem_of_getElem? (i := 0) rfl)))) (fun _ h9 => h9) rfl dX0_becomeCopyOf_6 ?_
  refine g_iconst (v := nI 0) C dX0_becomeCopyOf_9 (by decide +kernel) ?_
  refine g_aload_n C dX0_becomeCopyOf_10 rfl 1 rfl ?_
  refine g_get (ci := 1) (v := .int (nI ct2)) C iwX0_becomeCopyOf_X0 i2 hi2 rfl 3 (by decide) (C.hw (List.mem_cons_of_mem _ (List.mem_append_left _ (List.mem_of_getElem? (i := 1) rfl)))) (fun _ h9 => h9) rfl dX0_becomeCopyOf_11 ?_
  refine g_copyi (sp := 0) (dp := 0) (z := ct2) (ws' := (ws.set k (ar, .inl (cy 0, 24, .inl (va_cpy f2 f 0 0 ct2))))) C k2 k hk2 hk (C.hw (List.mem_cons_of_mem _ (List.mem_append_left _ (List.mem_of_getElem? (i := 2) rfl)))) (C.hw (List.mem_cons_of_mem _ (List.mem_append_left _ (List.mem_of_getElem? (i := 3) rfl)))) (C.hw (List.mem_cons_of_mem _ (List.mem_append_left _ (List.mem_of_getElem? (i := 4) rfl)))) (C.hw (List.mem_cons_of_mem _ (List.mem_append_left _ (List.mem_of_getElem? (i := 5) rfl)))) (by omega) (by omega) (by omega) (by omega) (by omega) (Nat.le_of_ble_eq_true rfl) (Nat.le_of_ble_eq_true rfl) rfl dX0_becomeCopyOf_14 ?_
  have u108 : (ws.set k (ar, .inl (cy 0, 24, .inl (va_cpy f2 f 0 0 ct2))))[i]? = some (a, .inr (1, [.int (nI ky), .int fo, .ref ar, .int (nI ct), .int (bI gb), .int (nI (mskN gv ct))])) := (set_off (pos_ne hk hi (by simp)) hi)
  have u109 : (ws.set k (ar, .inl (cy 0, 24, .inl (va_cpy f2 f 0 0 ct2))))[k]? = some (ar, .inl (cy 0, 24, .inl (va_cpy f2 f 0 0 ct2))) := (set_at hk)
  have u110 : (ws.set k (ar, .inl (cy 0, 24, .inl (va_cpy f2 f 0 0 ct2))))[i2]? = some (a2, .inr (1, [.int (nI ky2), .int fo2, .ref ar2, .int (nI ct2), .int (bI gb2), .int (nI (mskN gv2 ct2))])) := (set_off (pos_ne hk hi2 (by simp)) hi2)
  have u111 : (ws.set k (ar, .inl (cy 0, 24, .inl (va_cpy f2 f 0 0 ct2))))[k2]? = some (ar2, .inl (cy 0, 24, .inl f2)) := (set_off hne2 hk2)
  refine g_aload_n C dX0_becomeCopyOf_17 rfl 0 rfl ?_
  refine g_aload_n C dX0_becomeCopyOf_18 rfl 1 rfl ?_
  refine g_get (ci := 1) (v := .int (nI ct2)) C iwX0_becomeCopyOf_X0 i2 u110 rfl 3 (by decide) (C.hw (List.mem_cons_of_mem _ (List.mem_append_left _ (List.mem_of_getElem? (i := 1) rfl)))) (fun _ h9 => h9) rfl dX0_becomeCopyOf_19 ?_
  refine g_put (ci := 1) (ty := .int) (v := .int (nI ct2)) (ws' := ((ws.set i (a, .inr (1, [.int (nI ky), .int fo, .ref ar, .int (nI ct2), .int (bI gb), .int (nI (mskN gv ct))]))).set k (ar, .inl (cy 0, 24, .inl (va_cpy f2 f 0 0 ct2))))) C iwX0_becomeCopyOf_X0 tyX0 tyX0_ok nmX0 i u108 rfl 3 (by decide) (C.hw (List.mem_cons_of_mem _ (List.mem_append_left _ (List.mem_of_getElem? (i := 1) rfl)))) (fun _ h9 => h9) rfl (by decide +kernel) rfl rfl (Nat.le_of_ble_eq_true rfl) (by rw [List.set_comm _ _ (pos_ne hk hi (by simp))] <;> rfl) dX0_becomeCopyOf_22 ?_
  have u112 : ((ws.set i (a, .inr (1, [.int (nI ky), .int fo, .ref ar, .int (nI ct2), .int (bI gb), .int (nI (mskN gv ct))]))).set k (ar, .inl (cy 0, 24, .inl (va_cpy f2 f 0 0 ct2))))[i]? = some (a, .inr (1, [.int (nI ky), .int fo, .ref ar, .int (nI ct2), .int (bI gb), .int (nI (mskN gv ct))])) := (set_off (pos_ne hk hi (by simp)) (set_at hi))
  have u113 : ((ws.set i (a, .inr (1, [.int (nI ky), .int fo, .ref ar, .int (nI ct2), .int (bI gb), .int (nI (mskN gv ct))]))).set k (ar, .inl (cy 0, 24, .inl (va_cpy f2 f 0 0 ct2))))[k]? = some (ar, .inl (cy 0, 24, .inl (va_cpy f2 f 0 0 ct2))) := (set_at (set_off (pos_ne hi hk (by simp)) hk))
  have u114 : ((ws.set i (a, .inr (1, [.int (nI ky), .int fo, .ref ar, .int (nI ct2), .int (bI gb), .int (nI (mskN gv ct))]))).set k (ar, .inl (cy 0, 24, .inl (va_cpy f2 f 0 0 ct2))))[i2]? = some (a2, .inr (1, [.int (nI ky2), .int fo2, .ref ar2, .int (nI ct2), .int (bI gb2), .int (nI (mskN gv2 ct2))])) := (set_off (pos_ne hk hi2 (by simp)) (set_off hne1 hi2))
  have u115 : ((ws.set i (a, .inr (1, [.int (nI ky), .int fo, .ref ar, .int (nI ct2), .int (bI gb), .int (nI (mskN gv ct))]))).set k (ar, .inl (cy 0, 24, .inl (va_cpy f2 f 0 0 ct2))))[k2]? = some (ar2, .inl (cy 0, 24, .inl f2)) := (set_off hne2 (set_off (pos_ne hi hk2 (by simp)) hk2))
  refine g_aload_n C dX0_becomeCopyOf_25 rfl 0 rfl ?_
  refine g_iconst (v := nI 0) C dX0_becomeCopyOf_26 (by decide +kernel) ?_
  refine g_put (ci := 1) (ty := .boolean) (v := .int (nI 0)) (ws' := ((ws.set i (a, .inr (1, [.int (nI ky), .int fo, .ref ar, .int (nI ct2), .int (nI 0), .int (nI (mskN gv ct))]))).set k (ar, .inl (cy 0, 24, .inl (va_cpy f2 f 0 0 ct2))))) C iwX0_becomeCopyOf_X0 tyX0 tyX0_ok nmX0 i u112 rfl 4 (by decide) (C.hw (List.mem_cons_of_mem _ (List.mem_append_left _ (List.mem_of_getElem? (i := 6) rfl)))) (fun _ h9 => h9) rfl (by decide +kernel) rfl rfl (Nat.le_of_ble_eq_true rfl) (by rw [List.set_comm _ _ (pos_ne hk hi (by simp)), List.set_set] <;> rfl) dX0_becomeCopyOf_27 ?_
  have u116 : ((ws.set i (a, .inr (1, [.int (nI ky), .int fo, .ref ar, .int (nI ct2), .int (nI 0), .int (nI (mskN gv ct))]))).set k (ar, .inl (cy 0, 24, .inl (va_cpy f2 f 0 0 ct2))))[i]? = some (a, .inr (1, [.int (nI ky), .int fo, .ref ar, .int (nI ct2), .int (nI 0), .int (nI (mskN gv ct))])) := (set_off (pos_ne hk hi (by simp)) (set_at hi))
  have u117 : ((ws.set i (a, .inr (1, [.int (nI ky), .int fo, .ref ar, .int (nI ct2), .int (nI 0), .int (nI (mskN gv ct))]))).set k (ar, .inl (cy 0, 24, .inl (va_cpy f2 f 0 0 ct2))))[k]? = some (ar, .inl (cy 0, 24, .inl (va_cpy f2 f 0 0 ct2))) := (set_at (set_off (pos_ne hi hk (by simp)) hk))
  have u118 : ((ws.set i (a, .inr (1, [.int (nI ky), .int fo, .ref ar, .int (nI ct2), .int (nI 0), .int (nI (mskN gv ct))]))).set k (ar, .inl (cy 0, 24, .inl (va_cpy f2 f 0 0 ct2))))[i2]? = some (a2, .inr (1, [.int (nI ky2), .int fo2, .ref ar2, .int (nI ct2), .int (bI gb2), .int (nI (mskN gv2 ct2))])) := (set_off (pos_ne hk hi2 (by simp)) (set_off hne1 hi2))
  have u119 : ((ws.set i (a, .inr (1, [.int (nI ky), .int fo, .ref ar, .int (nI ct2), .int (nI 0), .int (nI (mskN gv ct))]))).set k (ar, .inl (cy 0, 24, .inl (va_cpy f2 f 0 0 ct2))))[k2]? = some (ar2, .inl (cy 0, 24, .inl f2)) := (set_off hne2 (set_off (pos_ne hi hk2 (by simp)) hk2))
  refine g_aload_n C dX0_becomeCopyOf_30 rfl 0 rfl ?_
  refine g_iconst (v := nI 0) C dX0_becomeCopyOf_31 (by decide +kernel) ?_
  refine g_put (ci := 1) (ty := .int) (v := .int (nI 0)) (ws' := ((ws.set i (a, .inr (1, [.int (nI ky), .int fo, .ref ar, .int (nI ct2), .int (nI 0), .int (nI 0)]))).set k (ar, .inl (cy 0, 24, .inl (va_cpy f2 f 0 0 ct2))))) C iwX0_becomeCopyOf_X0 tyX0 tyX0_ok nmX0 i u116 rfl 5 (by decide) (C.hw (List.mem_cons_of_mem _ (List.mem_append_left _ (List.mem_of_getElem? (i := 7) rfl)))) (fun _ h9 => h9) rfl (by decide +kernel) rfl rfl (Nat.le_of_ble_eq_true rfl) (by rw [List.set_comm _ _ (pos_ne hk hi (by simp)), List.set_set] <;> rfl) dX0_becomeCopyOf_32 ?_
  have u120 : ((ws.set i (a, .inr (1, [.int (nI ky), .int fo, .ref ar, .int (nI ct2), .int (nI 0), .int (nI 0)]))).set k (ar, .inl (cy 0, 24, .inl (va_cpy f2 f 0 0 ct2))))[i]? = some (a, .inr (1, [.int (nI ky), .int fo, .ref ar, .int (nI ct2), .int (nI 0), .int (nI 0)])) := (set_off (pos_ne hk hi (by simp)) (set_at hi))
  have u121 : ((ws.set i (a, .inr (1, [.int (nI ky), .int fo, .ref ar, .int (nI ct2), .int (nI 0), .int (nI 0)]))).set k (ar, .inl (cy 0, 24, .inl (va_cpy f2 f 0 0 ct2))))[k]? = some (ar, .inl (cy 0, 24, .inl (va_cpy f2 f 0 0 ct2))) := (set_at (set_off (pos_ne hi hk (by simp)) hk))
  have u122 : ((ws.set i (a, .inr (1, [.int (nI ky), .int fo, .ref ar, .int (nI ct2), .int (nI 0), .int (nI 0)]))).set k (ar, .inl (cy 0, 24, .inl (va_cpy f2 f 0 0 ct2))))[i2]? = some (a2, .inr (1, [.int (nI ky2), .int fo2, .ref ar2, .int (nI ct2), .int (bI gb2), .int (nI (mskN gv2 ct2))])) := (set_off (pos_ne hk hi2 (by simp)) (set_off hne1 hi2))
  have u123 : ((ws.set i (a, .inr (1, [.int (nI ky), .int fo, .ref ar, .int (nI ct2), .int (nI 0), .int (nI 0)]))).set k (ar, .inl (cy 0, 24, .inl (va_cpy f2 f 0 0 ct2))))[k2]? = some (ar2, .inl (cy 0, 24, .inl f2)) := (set_off hne2 (set_off (pos_ne hi hk2 (by simp)) hk2))
  exact g_vret C rfl rfl (Nat.le_of_ble_eq_true rfl) (Nat.le_of_ble_eq_true rfl) dX0_becomeCopyOf_35
