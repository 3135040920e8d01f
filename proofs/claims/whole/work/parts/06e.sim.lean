section FIT
variable {nam : Nat → Nat} {gif : Nat → Bool} {fol : Nat → Int32} {siz : Nat → Nat} {cel : Nat → Int32} {giv : Nat → Bool} {nf : Nat} {Fs : List FT}
theorem fol_ok1 {fo : Option Nat} (h : ∀ x, fo = some x → x < 16384) : ¬ fI fo < -1 := by
  cases fo with
  | none => exact by decide
  | some x =>
    have hx := h x rfl
    intro q
    have q1 := Int32.lt_iff_toInt_lt.mp q
    rw [show fI (some x) = nI x from rfl, nI_toInt (by omega)] at q1
    have b : ((-1 : Int32)).toInt = -1 := by decide
    omega
theorem fol_ok2 {fo : Option Nat} (h : ∀ x, fo = some x → x < 16384) : fI fo < nI 16384 := by
  cases fo with
  | none => exact by decide
  | some x => exact nI_lt (h x rfl) (by omega)
theorem RF.at (h : RF nam gif fol siz cel giv nf Fs) {key f i ob ar ky ct : Nat} {fo : Int32} {ce : Nat → Int32} {gi : Bool} {gv : Nat → Bool} (h1 : findN nam nf key = some f) (h2 : plF Fs key = some i) (h3 : Fs[i]? = some (ob, ar, ky, fo, ce, ct, gi, gv)) : f < nf ∧ mA nam gif fol siz cel giv f = cA (ob, ar, ky, fo, ce, ct, gi, gv) ∧ ky = key := by
  rcases h.find key with ⟨a1, a2⟩ | ⟨f', i', ob', ar', ky', fo', ce', ct', gi', gv', a1, a2, a3, a4, a5, a6⟩
  · rw [h1] at a1
    cases a1
  · cases h1.symm.trans a1
    cases h2.symm.trans a3
    cases h3.symm.trans a4
    exact ⟨a2, a5, a6⟩
theorem upd_sh {c d : Nat → Int32} {b i t : Nat} {v : Int32} (h : c (b + t) = d t) : upd c (b + i) v (b + t) = upd d i v t := by
  unfold upd
  by_cases e : t = i
  · rw [if_pos e, if_pos (by omega)]
  · rw [if_neg e, if_neg (by omega)]
    exact h
theorem up_sh {c d : Nat → Bool} {b i t : Nat} {v : Bool} (h : ¬ t = i → c (b + t) = d t) : va_up c (b + i) v (b + t) = va_up d i v t := by
  unfold va_up
  by_cases e : t = i
  · rw [if_pos e, if_pos (by omega)]
  · rw [if_neg e, if_neg (by omega)]
    exact h e
theorem upd_sh2 {c d : Nat → Int32} {b i t : Nat} {v : Int32} (h : ¬ t = i → c (b + t) = d t) : upd c (b + i) v (b + t) = upd d i v t := by
  unfold upd
  by_cases e : t = i
  · rw [if_pos e, if_pos (by omega)]
  · rw [if_neg e, if_neg (by omega)]
    exact h e
theorem RF.put (h : RF nam gif fol siz cel giv nf Fs) (hsp : ∀ i, siz i ≤ 24) {key f i ob ar ky ct p : Nat} {fo : Int32} {ce : Nat → Int32} {gi : Bool} {gv : Nat → Bool} {v : Int32} (h1 : findN nam nf key = some f) (h2 : plF Fs key = some i) (h3 : Fs[i]? = some (ob, ar, ky, fo, ce, ct, gi, gv)) (hp : p < ct) : RF nam gif fol siz (upd cel (24 * f + p) v) giv nf (Fs.set i (ob, ar, ky, fo, upd ce p v, ct, gi, gv)) := by
  obtain ⟨a1, a2, a3⟩ := h.at h1 h2 h3
  obtain ⟨b1, b2, b3, b4, b5, b6⟩ := mA_inv a2
  have hfi := hsp f
  refine h.set a1 h3 a2 rfl (fun j hj hjf => mA_eq rfl rfl rfl rfl (fun t ht => upd_ne (by have := hsp j; omega)) (fun _ _ => rfl)) (mA_cA b1 b2 b3 b4 (fun t ht => upd_sh (b5 t ht)) b6)
theorem RF.app (h : RF nam gif fol siz cel giv nf Fs) (hsp : ∀ i, siz i ≤ 24) {key f i ob ar ky ct : Nat} {fo : Int32} {ce : Nat → Int32} {gi g : Bool} {gv : Nat → Bool} {v : Int32} (h1 : findN nam nf key = some f) (h2 : plF Fs key = some i) (h3 : Fs[i]? = some (ob, ar, ky, fo, ce, ct, gi, gv)) (hp : ct < 24) : siz f = ct ∧ RF nam gif fol (va_up siz f (siz f + 1)) (upd cel (24 * f + siz f) v) (va_up giv (24 * f + siz f) g) nf (Fs.set i (ob, ar, ky, fo, upd ce ct v, ct + 1, gi, va_up gv ct g)) := by
  obtain ⟨a1, a2, a3⟩ := h.at h1 h2 h3
  obtain ⟨b1, b2, b3, b4, b5, b6⟩ := mA_inv a2
  refine ⟨b4, ?_⟩
  refine h.set a1 h3 a2 rfl (fun j hj hjf => mA_eq rfl rfl rfl (va_up_ne _ _ hjf) (fun t ht => upd_ne (by have := hsp j; omega)) (fun t ht => va_up_ne _ _ (by have := hsp j; omega))) (mA_cA b1 b2 b3 (by rw [va_up_self, b4]) (fun t ht => ?_) (fun t ht => ?_))
  · rw [b4]
    exact upd_sh2 (fun hn => b5 t (by omega))
  · rw [b4]
    exact up_sh (fun hn => b6 t (by omega))
theorem RF.cut (h : RF nam gif fol siz cel giv nf Fs) (hsp : ∀ i, siz i ≤ 24) {key f i ob ar ky ct n : Nat} {fo : Int32} {ce : Nat → Int32} {gi : Bool} {gv : Nat → Bool} (h1 : findN nam nf key = some f) (h2 : plF Fs key = some i) (h3 : Fs[i]? = some (ob, ar, ky, fo, ce, ct, gi, gv)) (hp : n ≤ ct) : siz f = ct ∧ RF nam gif fol (va_up siz f n) cel giv nf (Fs.set i (ob, ar, ky, fo, ce, n, gi, gv)) := by
  obtain ⟨a1, a2, a3⟩ := h.at h1 h2 h3
  obtain ⟨b1, b2, b3, b4, b5, b6⟩ := mA_inv a2
  refine ⟨b4, ?_⟩
  exact h.set a1 h3 a2 rfl (fun j hj hjf => mA_eq rfl rfl rfl (va_up_ne _ _ hjf) (fun _ _ => rfl) (fun _ _ => rfl)) (mA_cA b1 b2 b3 (va_up_self _ _ _) (fun t ht => b5 t (by omega)) (fun t ht => b6 t (by omega)))
theorem rep_le {speC : Nat → Nat} {T q : Nat} (hqu : q < 16) : repF Fs (16 * T + q) ≤ usF speC Fs T := by
  cases e : plF Fs (16 * T + q) with
  | none => rw [rep_none e]; exact Nat.zero_le _
  | some i =>
    obtain ⟨F, hF, hk⟩ := plF_spec e
    rw [rep_some e hF]
    exact un_le_us hF hk hqu
theorem isn {α : Type} {o : Option α} (h : o.isSome = false) : o = none := by
  cases o with
  | none => rfl
  | some x => cases h
end FIT
set_option maxHeartbeats 4000000 in
theorem sim_make {cy : Nat → ClassId} {zs am ac : Nat → Nat} {lab : Nat → Nat} {has : Nat → Bool} {quo spe nam : Nat → Nat} {gif : Nat → Bool} {fol : Nat → Int32} {siz : Nat → Nat} {cel : Nat → Int32} {giv : Nat → Bool} {nf : Nat} {lis : Nat → Nat} {lc : Nat} {see : Nat → Int32} {cnt : Nat → Nat} {labC : Nat → Option Nat} {quoC speC : Nat → Nat} {mdC : Int32} {edC : Option (Nat × Nat)} {lisC : Nat → Nat} {lcC : Nat} {seeC : Nat → Nat → Int32} {cntC : Nat → Nat} {Fs : List FT} (h : RR lab has quo spe nam gif fol siz cel giv nf lis lc see cnt labC quoC speC edC lisC lcC seeC cntC Fs) {p0 : Int32} {p1 : Int32} {p2 : Int32} {p3 : Int32} {r' : Int32} {w' : va_W} (hm : PM_make cy am lab has quo spe nam gif fol siz cel giv nf lis lc see cnt p0 p1 p2 p3 r' w') : (∀ r w, PC_make cy zs ac labC quoC speC mdC edC lisC lcC seeC cntC Fs p0 p1 p2 p3 r w → AGN cy am ac (zs 0) r w r' w') ∧ (∀ E w, XC_make cy zs ac labC quoC speC mdC edC lisC lcC seeC cntC Fs p0 p1 p2 p3 E w → AGX cy am ac (zs 0) E w w') := by
  have hRR := h
  obtain ⟨hM, hC, hl, hqu, hsp, hfi, hls, he⟩ := h
  obtain ⟨mnf, mlc, mlab, mquo, mspe, mnam, msiz, mcnt, mlis⟩ := id hM
  unfold PM_make at hm
  refine ⟨fun r w hc => ?_, fun E w hx => ?_⟩
  · unfold PC_make at hc
    obtain ⟨S, L, q, fo, e0, hS, e1, hL, e2, hq, e3, hfo, hc⟩ := hc
    subst e0 e1 e2 e3
    rcases hm with ⟨hiv, -, -⟩ | ⟨S9, L9, q9, fo9, e09, hS9, e19, hL9, e29, hq9, e39, hfo9, hm⟩
    · exfalso
      simp [inB_nI hS (show 16 < 2 ^ 31 by omega), inB_nI hL (show 1024 < 2 ^ 31 by omega), inB_nI hq (show 16 < 2 ^ 31 by omega), inO_ok hfo, fol_ok1 hfo, fol_ok2 hfo] at hiv
    · skip
      obtain rfl := c_eq0 (show S < 2 ^ 31 by omega) (show S9 < 2 ^ 31 by omega) e09
      obtain rfl := c_eq0 (show L < 2 ^ 31 by omega) (show L9 < 2 ^ 31 by omega) e19
      obtain rfl := c_eq0 (show q < 2 ^ 31 by omega) (show q9 < 2 ^ 31 by omega) e29
      obtain rfl := fI_inj (fun x h9 => by have := hfo x h9; omega) (fun x h9 => by have := hfo9 x h9; omega) e39
      have hlS := hl S hS
      have hlen := hfi.len
      have hD : makeD (olab has lab S) L fo (findN nam nf (16 * L + q)).isSome (fulN lab quo spe nam gif siz giv nf S 1) nf = makeD (labC S) L fo (plF Fs (16 * L + q)).isSome (!(decide (usF speC Fs ((labC S).getD 0) + 1 ≤ quoC ((labC S).getD 0)))) Fs.length := by
        rw [hlS, hfi.is]
        cases e : labC S with
        | none => rfl
        | some o =>
          rw [ful_eq hfi hqu hsp (olab_some (hlS.trans e)).2 (hC.labP e), hfi.len]
          rfl
      rcases hc with ⟨d, hr, hw⟩ | ⟨d, hr, hw⟩ | ⟨d, hr, hw⟩ | ⟨d, hr, hw⟩ | ⟨d, hr, pl, ed9, q1, q2, hins, hek, hw⟩ | ⟨o, ho, d, hr, pl, ed9, q1, q2, hins, hek, hw⟩ | ⟨o, ho, d, hr, hw⟩
      · skip
        rcases hm with ⟨d9, hr9, hw9⟩ | ⟨d9, hr9, hw9⟩ | ⟨d9, hr9, hw9⟩ | ⟨d9, hr9, hw9⟩ | ⟨d9, hr9, hw9⟩ | ⟨d9, hr9, hw9⟩ | ⟨d9, hr9, hw9⟩ | ⟨d9, hr9, hw9⟩
        · exact agn hw hw9 (hr.trans hr9.symm) (rrm ⟨mnf, mlc, mlab, mquo, mspe, mnam, msiz, va_up_le mcnt (Nat.zero_le _), mlis⟩ (hC.upCnt (Nat.zero_le _)) hl hqu hsp hfi hls he.up0)
        · exfalso; omega
        · exfalso; omega
        · exfalso; omega
        · exfalso; omega
        · exfalso; omega
        · exfalso; omega
        · exfalso; omega
      · skip
        rcases hm with ⟨d9, hr9, hw9⟩ | ⟨d9, hr9, hw9⟩ | ⟨d9, hr9, hw9⟩ | ⟨d9, hr9, hw9⟩ | ⟨d9, hr9, hw9⟩ | ⟨d9, hr9, hw9⟩ | ⟨d9, hr9, hw9⟩ | ⟨d9, hr9, hw9⟩
        · exfalso; omega
        · exact agn hw hw9 (hr.trans hr9.symm) (rrm ⟨mnf, mlc, mlab, mquo, mspe, mnam, msiz, va_up_le mcnt (Nat.zero_le _), mlis⟩ (hC.upCnt (Nat.zero_le _)) hl hqu hsp hfi hls he.up0)
        · exfalso; omega
        · exfalso; omega
        · exfalso; omega
        · exfalso; omega
        · exfalso; omega
        · exfalso; omega
      · skip
        rcases hm with ⟨d9, hr9, hw9⟩ | ⟨d9, hr9, hw9⟩ | ⟨d9, hr9, hw9⟩ | ⟨d9, hr9, hw9⟩ | ⟨d9, hr9, hw9⟩ | ⟨d9, hr9, hw9⟩ | ⟨d9, hr9, hw9⟩ | ⟨d9, hr9, hw9⟩
        · exfalso; omega
        · exfalso; omega
        · exact agn hw hw9 (hr.trans hr9.symm) (rrm ⟨mnf, mlc, mlab, mquo, mspe, mnam, msiz, va_up_le mcnt (Nat.zero_le _), mlis⟩ (hC.upCnt (Nat.zero_le _)) hl hqu hsp hfi hls he.up0)
        · exfalso; omega
        · exfalso; omega
        · exfalso; omega
        · exfalso; omega
        · exfalso; omega
      · skip
        rcases hm with ⟨d9, hr9, hw9⟩ | ⟨d9, hr9, hw9⟩ | ⟨d9, hr9, hw9⟩ | ⟨d9, hr9, hw9⟩ | ⟨d9, hr9, hw9⟩ | ⟨d9, hr9, hw9⟩ | ⟨d9, hr9, hw9⟩ | ⟨d9, hr9, hw9⟩
        · exfalso; omega
        · exfalso; omega
        · exfalso; omega
        · exact agn hw hw9 (hr.trans hr9.symm) (rrm ⟨mnf, mlc, mlab, mquo, mspe, mnam, msiz, va_up_le mcnt (Nat.zero_le _), mlis⟩ (hC.upCnt (Nat.zero_le _)) hl hqu hsp hfi hls he.up0)
        · exfalso; omega
        · exfalso; omega
        · exfalso; omega
        · exfalso; omega
      · skip
        have hn9 := makeD_nf d (by omega) hC.lenP
        have hth := isn (makeD_no d (by omega))
        rcases hm with ⟨d9, hr9, hw9⟩ | ⟨d9, hr9, hw9⟩ | ⟨d9, hr9, hw9⟩ | ⟨d9, hr9, hw9⟩ | ⟨d9, hr9, hw9⟩ | ⟨d9, hr9, hw9⟩ | ⟨d9, hr9, hw9⟩ | ⟨d9, hr9, hw9⟩
        · exfalso; omega
        · exfalso; omega
        · exfalso; omega
        · exfalso; omega
        · exfalso; omega
        · exact agn hw hw9 (hr.trans hr9.symm) (rrm ⟨(by omega), mlc, mlab, mquo, mspe, va_up_lt mnam (by omega), va_up_le msiz (Nat.zero_le _), va_up_le mcnt (Nat.zero_le _), mlis⟩ ((hC.ins hins.1 (by omega) ⟨(by show 16 * L + q < 16384; omega), Nat.zero_le _⟩ hek).upCnt (Nat.zero_le _)) hl hqu hsp (hfi.new hins hth) hls he.up0)
        · exfalso; omega
        · exfalso; omega
      · skip
        have hn9 := makeD_nf d (by omega) hC.lenP
        have hth := isn (makeD_no d (by omega))
        have hfull := makeD_room d (by omega)
        rw [ho, Option.getD_some, Bool.not_eq_false'] at hfull
        rcases hm with ⟨d9, hr9, hw9⟩ | ⟨d9, hr9, hw9⟩ | ⟨d9, hr9, hw9⟩ | ⟨d9, hr9, hw9⟩ | ⟨d9, hr9, hw9⟩ | ⟨d9, hr9, hw9⟩ | ⟨d9, hr9, hw9⟩ | ⟨d9, hr9, hw9⟩
        · exfalso; omega
        · exfalso; omega
        · exfalso; omega
        · exfalso; omega
        · exfalso; omega
        · exfalso; omega
        · have hlo := olab_some (hlS.trans ho)
          have ho9 := hC.labP ho
          rw [hlo.2] at hw9
          have h4 := hsp o ho9
          rw [h4] at hw9
          have h1 := of_decide_eq_true hfull
          have h2 := hC.usP o
          have h3 := hC.quoP o
          exact agn hw hw9 (hr.trans hr9.symm) (rrm ⟨(by omega), mlc, mlab, mquo, va_up_le mspe (by omega), va_up_lt mnam (by omega), va_up_le msiz (Nat.zero_le _), va_up_le mcnt (Nat.zero_le _), mlis⟩ (((hC.ins hins.1 (by omega) ⟨(by show 16 * L + q < 16384; omega), Nat.zero_le _⟩ hek).upSpe (by omega)).upCnt (Nat.zero_le _)) hl hqu (up_all hsp) (hfi.new hins hth) hls he.up0)
        · exfalso; omega
      · skip
        have hfull := makeD_room d (by omega)
        rw [ho, Option.getD_some, Bool.not_eq_false'] at hfull
        rcases hm with ⟨d9, hr9, hw9⟩ | ⟨d9, hr9, hw9⟩ | ⟨d9, hr9, hw9⟩ | ⟨d9, hr9, hw9⟩ | ⟨d9, hr9, hw9⟩ | ⟨d9, hr9, hw9⟩ | ⟨d9, hr9, hw9⟩ | ⟨d9, hr9, hw9⟩
        · exfalso; omega
        · exfalso; omega
        · exfalso; omega
        · exfalso; omega
        · exfalso; omega
        · exfalso; omega
        · exfalso; omega
        · have hlo := olab_some (hlS.trans ho)
          have ho9 := hC.labP ho
          rw [hlo.2] at hw9
          have h4 := hsp o ho9
          rw [h4] at hw9
          have h1 := of_decide_eq_true hfull
          have h2 := hC.usP o
          have h3 := hC.quoP o
          exact agn hw hw9 (hr.trans hr9.symm) (rrm ⟨mnf, mlc, mlab, mquo, va_up_le mspe (by omega), mnam, msiz, va_up_le mcnt (Nat.zero_le _), mlis⟩ ((hC.upSpe (by omega)).upCnt (Nat.zero_le _)) hl hqu (up_all hsp) hfi hls he.up0)
  · unfold XC_make at hx
    rcases hx with ⟨hiv, rfl, rfl⟩ | ⟨rfl, rfl, hx⟩
    · skip
      rcases hm with ⟨-, -, hw⟩ | ⟨S9, L9, q9, fo9, e09, hS9, e19, hL9, e29, hq9, e39, hfo9, hm⟩
      · exact agx rfl hw (Or.inl ⟨rfl, rfl⟩) hRR
      · exfalso
        subst e09 e19 e29 e39
        simp [inB_nI hS9 (show 16 < 2 ^ 31 by omega), inB_nI hL9 (show 1024 < 2 ^ 31 by omega), inB_nI hq9 (show 16 < 2 ^ 31 by omega), inO_ok hfo9, fol_ok1 hfo9, fol_ok2 hfo9] at hiv
    · skip
      obtain ⟨S, L, q, fo, e0, hS, e1, hL, e2, hq, e3, hfo, hc⟩ := hx
      subst e0 e1 e2 e3
      rcases hm with ⟨hiv, -, -⟩ | ⟨S9, L9, q9, fo9, e09, hS9, e19, hL9, e29, hq9, e39, hfo9, hm⟩
      · exfalso
        simp [inB_nI hS (show 16 < 2 ^ 31 by omega), inB_nI hL (show 1024 < 2 ^ 31 by omega), inB_nI hq (show 16 < 2 ^ 31 by omega), inO_ok hfo, fol_ok1 hfo, fol_ok2 hfo] at hiv
      · skip
        obtain rfl := c_eq0 (show S < 2 ^ 31 by omega) (show S9 < 2 ^ 31 by omega) e09
        obtain rfl := c_eq0 (show L < 2 ^ 31 by omega) (show L9 < 2 ^ 31 by omega) e19
        obtain rfl := c_eq0 (show q < 2 ^ 31 by omega) (show q9 < 2 ^ 31 by omega) e29
        obtain rfl := fI_inj (fun x h9 => by have := hfo x h9; omega) (fun x h9 => by have := hfo9 x h9; omega) e39
        have hlS := hl S hS
        have hlen := hfi.len
        have hD : makeD (olab has lab S) L fo (findN nam nf (16 * L + q)).isSome (fulN lab quo spe nam gif siz giv nf S 1) nf = makeD (labC S) L fo (plF Fs (16 * L + q)).isSome (!(decide (usF speC Fs ((labC S).getD 0) + 1 ≤ quoC ((labC S).getD 0)))) Fs.length := by
          rw [hlS, hfi.is]
          cases e : labC S with
          | none => rfl
          | some o =>
            rw [ful_eq hfi hqu hsp (olab_some (hlS.trans e)).2 (hC.labP e), hfi.len]
            rfl
        rcases hm with ⟨d9, hr9, hw9⟩ | ⟨d9, hr9, hw9⟩ | ⟨d9, hr9, hw9⟩ | ⟨d9, hr9, hw9⟩ | ⟨d9, hr9, hw9⟩ | ⟨d9, hr9, hw9⟩ | ⟨d9, hr9, hw9⟩ | ⟨d9, hr9, hw9⟩
        · exfalso; omega
        · exfalso; omega
        · exfalso; omega
        · exfalso; omega
        · exact agx rfl hw9 (Or.inr ⟨rfl, rfl⟩) hRR
        · exfalso; omega
        · exfalso; omega
        · exfalso; omega
set_option maxHeartbeats 4000000 in
theorem sim_set {cy : Nat → ClassId} {zs am ac : Nat → Nat} {lab : Nat → Nat} {has : Nat → Bool} {quo spe nam : Nat → Nat} {gif : Nat → Bool} {fol : Nat → Int32} {siz : Nat → Nat} {cel : Nat → Int32} {giv : Nat → Bool} {nf : Nat} {lis : Nat → Nat} {lc : Nat} {see : Nat → Int32} {cnt : Nat → Nat} {labC : Nat → Option Nat} {quoC speC : Nat → Nat} {mdC : Int32} {edC : Option (Nat × Nat)} {lisC : Nat → Nat} {lcC : Nat} {seeC : Nat → Nat → Int32} {cntC : Nat → Nat} {Fs : List FT} (h : RR lab has quo spe nam gif fol siz cel giv nf lis lc see cnt labC quoC speC edC lisC lcC seeC cntC Fs) {p0 : Int32} {p1 : Int32} {p2 : Int32} {v : Int32} {r' : Int32} {w' : va_W} (hm : PM_set cy am lab has quo spe nam gif fol siz cel giv nf lis lc see cnt p0 p1 p2 v r' w') : (∀ r w, PC_set cy zs ac labC quoC speC mdC edC lisC lcC seeC cntC Fs p0 p1 p2 v r w → AGN cy am ac (zs 0) r w r' w') ∧ (∀ E w, XC_set cy zs ac labC quoC speC mdC edC lisC lcC seeC cntC Fs p0 p1 p2 v E w → AGX cy am ac (zs 0) E w w') := by
  have hRR := h
  obtain ⟨hM, hC, hl, hqu, hsp, hfi, hls, he⟩ := h
  obtain ⟨mnf, mlc, mlab, mquo, mspe, mnam, msiz, mcnt, mlis⟩ := id hM
  unfold PM_set at hm
  refine ⟨fun r w hc => ?_, fun E w hx => ?_⟩
  · unfold PC_set at hc
    obtain ⟨S, q, i, e0, hS, e1, hq, e2, hi, hc⟩ := hc
    subst e0 e1 e2
    rcases hm with ⟨hiv, -, -⟩ | ⟨S9, q9, i9, e09, hS9, e19, hq9, e29, hi9, hm⟩
    · exfalso
      simp [inB_nI hS (show 16 < 2 ^ 31 by omega), inB_nI hq (show 16 < 2 ^ 31 by omega), inB_nI hi (show 24 < 2 ^ 31 by omega)] at hiv
    · skip
      obtain rfl := c_eq0 (show S < 2 ^ 31 by omega) (show S9 < 2 ^ 31 by omega) e09
      obtain rfl := c_eq0 (show q < 2 ^ 31 by omega) (show q9 < 2 ^ 31 by omega) e19
      obtain rfl := c_eq0 (show i < 2 ^ 31 by omega) (show i9 < 2 ^ 31 by omega) e29
      have hlS := hl S hS
      have hD : setD (olab has lab S) ((findN nam nf (16 * lab S + q)).map siz) i (fulN lab quo spe nam gif siz giv nf S 1) = setD (labC S) (szF Fs (16 * ((labC S).getD 0) + q)) i (!(decide (usF speC Fs ((labC S).getD 0) + 1 ≤ quoC ((labC S).getD 0)))) := by
        rw [hlS]
        cases e : labC S with
        | none => rfl
        | some o =>
          have hlo := (olab_some (hlS.trans e)).2
          rw [ful_eq hfi hqu hsp hlo (hC.labP e), hlo, hfi.sz]
          rfl
      rcases hc with ⟨d, hr, hw⟩ | ⟨d, hr, hw⟩ | ⟨i1, ob1, ar1, ky1, fo1, ce1, ct1, gi1, gv1, y1, y2, d, hr, hw⟩ | ⟨d, hr, hw⟩ | ⟨i1, ob1, ar1, ky1, fo1, ce1, ct1, gi1, gv1, y1, y2, d, hr, hw⟩
      · skip
        rcases hm with ⟨d9, hr9, hw9⟩ | ⟨d9, hr9, hw9⟩ | ⟨f, m0, d9, hr9, hw9⟩ | ⟨d9, hr9, hw9⟩ | ⟨f, m0, d9, hr9, hw9⟩
        · exact agn hw hw9 (hr.trans hr9.symm) (rrm ⟨mnf, mlc, mlab, mquo, mspe, mnam, msiz, va_up_le mcnt (Nat.zero_le _), mlis⟩ (hC.upCnt (Nat.zero_le _)) hl hqu hsp hfi hls he.up0)
        · exfalso; omega
        · exfalso; omega
        · exfalso; omega
        · exfalso; omega
      · skip
        rcases hm with ⟨d9, hr9, hw9⟩ | ⟨d9, hr9, hw9⟩ | ⟨f, m0, d9, hr9, hw9⟩ | ⟨d9, hr9, hw9⟩ | ⟨f, m0, d9, hr9, hw9⟩
        · exfalso; omega
        · exact agn hw hw9 (hr.trans hr9.symm) (rrm ⟨mnf, mlc, mlab, mquo, mspe, mnam, msiz, va_up_le mcnt (Nat.zero_le _), mlis⟩ (hC.upCnt (Nat.zero_le _)) hl hqu hsp hfi hls he.up0)
        · exfalso; omega
        · exfalso; omega
        · exfalso; omega
      · skip
        rcases hm with ⟨d9, hr9, hw9⟩ | ⟨d9, hr9, hw9⟩ | ⟨f, m0, d9, hr9, hw9⟩ | ⟨d9, hr9, hw9⟩ | ⟨f, m0, d9, hr9, hw9⟩
        · exfalso; omega
        · exfalso; omega
        · have hz := sz_some y1 y2
          cases e : labC S with
          | none => rw [e] at d; exact absurd d (by simp [setD])
          | some o =>
            have hlo := (olab_some (hlS.trans e)).2
            rw [e, Option.getD_some] at y1
            rw [hlo] at m0
            have hb9 := hC.flP y2
            rw [e, Option.getD_some] at hz
            have hlt : i < ct1 := by
              rw [e, Option.getD_some, hz] at d
              unfold setD at d
              simp only at d
              rcases Nat.lt_or_ge i ct1 with g | g
              · exact g
              · rw [if_neg (show ¬ i < ct1 by omega)] at d
                split at d
                · omega
                · split at d <;> omega
            exact agn hw hw9 (hr.trans hr9.symm) (rrm ⟨mnf, mlc, mlab, mquo, mspe, mnam, msiz, va_up_le mcnt (Nat.zero_le _), mlis⟩ ((hC.upF hb9.1 hb9.2).upCnt (Nat.zero_le _)) hl hqu hsp (hfi.put msiz m0 y1 y2 hlt) hls he.up0)
        · exfalso; omega
        · exfalso; omega
      · skip
        rcases hm with ⟨d9, hr9, hw9⟩ | ⟨d9, hr9, hw9⟩ | ⟨f, m0, d9, hr9, hw9⟩ | ⟨d9, hr9, hw9⟩ | ⟨f, m0, d9, hr9, hw9⟩
        · exfalso; omega
        · exfalso; omega
        · exfalso; omega
        · exact agn hw hw9 (hr.trans hr9.symm) (rrm ⟨mnf, mlc, mlab, mquo, mspe, mnam, msiz, va_up_le mcnt (Nat.zero_le _), mlis⟩ (hC.upCnt (Nat.zero_le _)) hl hqu hsp hfi hls he.up0)
        · exfalso; omega
      · skip
        rcases hm with ⟨d9, hr9, hw9⟩ | ⟨d9, hr9, hw9⟩ | ⟨f, m0, d9, hr9, hw9⟩ | ⟨d9, hr9, hw9⟩ | ⟨f, m0, d9, hr9, hw9⟩
        · exfalso; omega
        · exfalso; omega
        · exfalso; omega
        · exfalso; omega
        · have hz := sz_some y1 y2
          cases e : labC S with
          | none => rw [e] at d; exact absurd d (by simp [setD])
          | some o =>
            have hlo := (olab_some (hlS.trans e)).2
            rw [e, Option.getD_some] at y1
            rw [hlo] at m0
            have hb9 := hC.flP y2
            rw [e, Option.getD_some] at hz
            have hlt : ct1 = i := by
              rw [e, Option.getD_some, hz] at d
              unfold setD at d
              simp only at d
              rcases Nat.lt_trichotomy ct1 i with g | g | g
              · rw [if_pos g] at d; omega
              · exact g
              · rw [if_neg (show ¬ ct1 < i by omega), if_pos g] at d; omega
            obtain ⟨hsz, hf9⟩ := hfi.app (g := false) (v := v) msiz m0 y1 y2 (by omega)
            exact agn hw hw9 (hr.trans hr9.symm) (rrm ⟨mnf, mlc, mlab, mquo, mspe, mnam, va_up_le msiz (by omega), va_up_le mcnt (Nat.zero_le _), mlis⟩ ((hC.upF hb9.1 (by omega)).upCnt (Nat.zero_le _)) hl hqu hsp hf9 hls he.up0)
  · unfold XC_set at hx
    obtain ⟨hiv, rfl, rfl⟩ := hx
    rcases hm with ⟨-, -, hw⟩ | ⟨S9, q9, i9, e09, hS9, e19, hq9, e29, hi9, hm⟩
    · exact agx rfl hw (Or.inl ⟨rfl, rfl⟩) hRR
    · exfalso
      subst e09 e19 e29
      simp [inB_nI hS9 (show 16 < 2 ^ 31 by omega), inB_nI hq9 (show 16 < 2 ^ 31 by omega), inB_nI hi9 (show 24 < 2 ^ 31 by omega)] at hiv
theorem giveD_room {lbl : Option Nat} {L : Nat} {fnd : Option Nat} {full : Bool} {k : Nat} (h : giveD lbl L fnd full = k) (hk : k = 3 ∨ k = 4) : full = false := by
  cases full
  · rfl
  · exfalso
    unfold giveD at h
    cases lbl with
    | none => simp only at h; omega
    | some o =>
      simp only [if_true] at h
      split at h
      · omega
      · split at h <;> omega
theorem giveD_lt {lbl : Option Nat} {L z : Nat} {full : Bool} (h : giveD lbl L (some z) full = 4) : z < 24 := by
  rcases Nat.lt_or_ge z 24 with g | g
  · exact g
  · exfalso
    unfold giveD at h
    cases lbl with
    | none => simp only at h; omega
    | some o =>
      simp only [if_neg (show ¬ z < 24 by omega)] at h
      split at h
      · omega
      · split at h
        · omega
        · split at h <;> omega
set_option maxHeartbeats 4000000 in
theorem sim_give {cy : Nat → ClassId} {zs am ac : Nat → Nat} {lab : Nat → Nat} {has : Nat → Bool} {quo spe nam : Nat → Nat} {gif : Nat → Bool} {fol : Nat → Int32} {siz : Nat → Nat} {cel : Nat → Int32} {giv : Nat → Bool} {nf : Nat} {lis : Nat → Nat} {lc : Nat} {see : Nat → Int32} {cnt : Nat → Nat} {labC : Nat → Option Nat} {quoC speC : Nat → Nat} {mdC : Int32} {edC : Option (Nat × Nat)} {lisC : Nat → Nat} {lcC : Nat} {seeC : Nat → Nat → Int32} {cntC : Nat → Nat} {Fs : List FT} (h : RR lab has quo spe nam gif fol siz cel giv nf lis lc see cnt labC quoC speC edC lisC lcC seeC cntC Fs) {p0 : Int32} {p1 : Int32} {p2 : Int32} {v : Int32} {r' : Int32} {w' : va_W} (hm : PM_give cy am lab has quo spe nam gif fol siz cel giv nf lis lc see cnt p0 p1 p2 v r' w') : (∀ r w, PC_give cy zs ac labC quoC speC mdC edC lisC lcC seeC cntC Fs p0 p1 p2 v r w → AGN cy am ac (zs 0) r w r' w') ∧ (∀ E w, XC_give cy zs ac labC quoC speC mdC edC lisC lcC seeC cntC Fs p0 p1 p2 v E w → AGX cy am ac (zs 0) E w w') := by
  have hRR := h
  obtain ⟨hM, hC, hl, hqu, hsp, hfi, hls, he⟩ := h
  obtain ⟨mnf, mlc, mlab, mquo, mspe, mnam, msiz, mcnt, mlis⟩ := id hM
  unfold PM_give at hm
  refine ⟨fun r w hc => ?_, fun E w hx => ?_⟩
  · unfold PC_give at hc
    obtain ⟨S, L, q, e0, hS, e1, hL, e2, hq, hc⟩ := hc
    subst e0 e1 e2
    rcases hm with ⟨hiv, -, -⟩ | ⟨S9, L9, q9, e09, hS9, e19, hL9, e29, hq9, hm⟩
    · exfalso
      simp [inB_nI hS (show 16 < 2 ^ 31 by omega), inB_nI hL (show 1024 < 2 ^ 31 by omega), inB_nI hq (show 16 < 2 ^ 31 by omega)] at hiv
    · skip
      obtain rfl := c_eq0 (show S < 2 ^ 31 by omega) (show S9 < 2 ^ 31 by omega) e09
      obtain rfl := c_eq0 (show L < 2 ^ 31 by omega) (show L9 < 2 ^ 31 by omega) e19
      obtain rfl := c_eq0 (show q < 2 ^ 31 by omega) (show q9 < 2 ^ 31 by omega) e29
      have hlS := hl S hS
      have hD : giveD (olab has lab S) L ((findN nam nf (16 * L + q)).map siz) (fulN lab quo spe nam gif siz giv nf S 1) = giveD (labC S) L (szF Fs (16 * L + q)) (!(decide (usF speC Fs ((labC S).getD 0) + 1 ≤ quoC ((labC S).getD 0)))) := by
        rw [hlS, hfi.sz]
        cases e : labC S with
        | none => rfl
        | some o =>
          have hlo := (olab_some (hlS.trans e)).2
          rw [ful_eq hfi hqu hsp hlo (hC.labP e)]
          rfl
      rcases hc with ⟨d, hr, hw⟩ | ⟨d, hr, hw⟩ | ⟨d, hr, hw⟩ | ⟨o, ho, d, hr, hw⟩ | ⟨o, ho, i1, ob1, ar1, ky1, fo1, ce1, ct1, gi1, gv1, y1, y2, d, hr, hw⟩
      · skip
        rcases hm with ⟨d9, hr9, hw9⟩ | ⟨d9, hr9, hw9⟩ | ⟨d9, hr9, hw9⟩ | ⟨d9, hr9, hw9⟩ | ⟨f, m0, d9, hr9, hw9⟩
        · exact agn hw hw9 (hr.trans hr9.symm) (rrm ⟨mnf, mlc, mlab, mquo, mspe, mnam, msiz, va_up_le mcnt (Nat.zero_le _), mlis⟩ (hC.upCnt (Nat.zero_le _)) hl hqu hsp hfi hls he.up0)
        · exfalso; omega
        · exfalso; omega
        · exfalso; omega
        · exfalso; omega
      · skip
        rcases hm with ⟨d9, hr9, hw9⟩ | ⟨d9, hr9, hw9⟩ | ⟨d9, hr9, hw9⟩ | ⟨d9, hr9, hw9⟩ | ⟨f, m0, d9, hr9, hw9⟩
        · exfalso; omega
        · exact agn hw hw9 (hr.trans hr9.symm) (rrm ⟨mnf, mlc, mlab, mquo, mspe, mnam, msiz, va_up_le mcnt (Nat.zero_le _), mlis⟩ (hC.upCnt (Nat.zero_le _)) hl hqu hsp hfi hls he.up0)
        · exfalso; omega
        · exfalso; omega
        · exfalso; omega
      · skip
        rcases hm with ⟨d9, hr9, hw9⟩ | ⟨d9, hr9, hw9⟩ | ⟨d9, hr9, hw9⟩ | ⟨d9, hr9, hw9⟩ | ⟨f, m0, d9, hr9, hw9⟩
        · exfalso; omega
        · exfalso; omega
        · exact agn hw hw9 (hr.trans hr9.symm) (rrm ⟨mnf, mlc, mlab, mquo, mspe, mnam, msiz, va_up_le mcnt (Nat.zero_le _), mlis⟩ (hC.upCnt (Nat.zero_le _)) hl hqu hsp hfi hls he.up0)
        · exfalso; omega
        · exfalso; omega
      · skip
        have hfull := giveD_room d (by omega)
        rw [ho, Option.getD_some, Bool.not_eq_false'] at hfull
        rcases hm with ⟨d9, hr9, hw9⟩ | ⟨d9, hr9, hw9⟩ | ⟨d9, hr9, hw9⟩ | ⟨d9, hr9, hw9⟩ | ⟨f, m0, d9, hr9, hw9⟩
        · exfalso; omega
        · exfalso; omega
        · exfalso; omega
        · have hlo := olab_some (hlS.trans ho)
          have ho9 := hC.labP ho
          rw [hlo.2] at hw9
          have h4 := hsp o ho9
          rw [h4] at hw9
          have h1 := of_decide_eq_true hfull
          have h2 := hC.usP o
          have h3 := hC.quoP o
          exact agn hw hw9 (hr.trans hr9.symm) (rrm ⟨mnf, mlc, mlab, mquo, va_up_le mspe (by omega), mnam, msiz, va_up_le mcnt (Nat.zero_le _), mlis⟩ ((hC.upSpe (by omega)).upCnt (Nat.zero_le _)) hl hqu (up_all hsp) hfi hls he.up0)
        · exfalso; omega
      · skip
        have hfull := giveD_room d (by omega)
        rw [ho, Option.getD_some, Bool.not_eq_false'] at hfull
        rcases hm with ⟨d9, hr9, hw9⟩ | ⟨d9, hr9, hw9⟩ | ⟨d9, hr9, hw9⟩ | ⟨d9, hr9, hw9⟩ | ⟨f, m0, d9, hr9, hw9⟩
        · exfalso; omega
        · exfalso; omega
        · exfalso; omega
        · exfalso; omega
        · have hlo := olab_some (hlS.trans ho)
          have ho9 := hC.labP ho
          rw [hlo.2] at hw9
          have h4 := hsp o ho9
          rw [h4] at hw9
          have h1 := of_decide_eq_true hfull
          have h2 := hC.usP o
          have h3 := hC.quoP o
          have hb9 := hC.flP y2
          rw [sz_some y1 y2] at d
          have hlt : ct1 < 24 := giveD_lt d
          obtain ⟨hsz, hf9⟩ := hfi.app (g := true) (v := v) msiz m0 y1 y2 hlt
          exact agn hw hw9 (hr.trans hr9.symm) (rrm ⟨mnf, mlc, mlab, mquo, va_up_le mspe (by omega), mnam, va_up_le msiz (by omega), va_up_le mcnt (Nat.zero_le _), mlis⟩ (((hC.upSpe (by omega)).upF hb9.1 (by omega)).upCnt (Nat.zero_le _)) hl hqu (up_all hsp) hf9 hls he.up0)
  · unfold XC_give at hx
    obtain ⟨hiv, rfl, rfl⟩ := hx
    rcases hm with ⟨-, -, hw⟩ | ⟨S9, L9, q9, e09, hS9, e19, hL9, e29, hq9, hm⟩
    · exact agx rfl hw (Or.inl ⟨rfl, rfl⟩) hRR
    · exfalso
      subst e09 e19 e29
      simp [inB_nI hS9 (show 16 < 2 ^ 31 by omega), inB_nI hL9 (show 1024 < 2 ^ 31 by omega), inB_nI hq9 (show 16 < 2 ^ 31 by omega)] at hiv
set_option maxHeartbeats 4000000 in
theorem sim_trim {cy : Nat → ClassId} {zs am ac : Nat → Nat} {lab : Nat → Nat} {has : Nat → Bool} {quo spe nam : Nat → Nat} {gif : Nat → Bool} {fol : Nat → Int32} {siz : Nat → Nat} {cel : Nat → Int32} {giv : Nat → Bool} {nf : Nat} {lis : Nat → Nat} {lc : Nat} {see : Nat → Int32} {cnt : Nat → Nat} {labC : Nat → Option Nat} {quoC speC : Nat → Nat} {mdC : Int32} {edC : Option (Nat × Nat)} {lisC : Nat → Nat} {lcC : Nat} {seeC : Nat → Nat → Int32} {cntC : Nat → Nat} {Fs : List FT} (h : RR lab has quo spe nam gif fol siz cel giv nf lis lc see cnt labC quoC speC edC lisC lcC seeC cntC Fs) {p0 : Int32} {p1 : Int32} {p2 : Int32} {r' : Int32} {w' : va_W} (hm : PM_trim cy am lab has quo spe nam gif fol siz cel giv nf lis lc see cnt p0 p1 p2 r' w') : (∀ r w, PC_trim cy zs ac labC quoC speC mdC edC lisC lcC seeC cntC Fs p0 p1 p2 r w → AGN cy am ac (zs 0) r w r' w') ∧ (∀ E w, XC_trim cy zs ac labC quoC speC mdC edC lisC lcC seeC cntC Fs p0 p1 p2 E w → AGX cy am ac (zs 0) E w w') := by
  have hRR := h
  obtain ⟨hM, hC, hl, hqu, hsp, hfi, hls, he⟩ := h
  obtain ⟨mnf, mlc, mlab, mquo, mspe, mnam, msiz, mcnt, mlis⟩ := id hM
  unfold PM_trim at hm
  refine ⟨fun r w hc => ?_, fun E w hx => ?_⟩
  · unfold PC_trim at hc
    obtain ⟨S, q, i, e0, hS, e1, hq, e2, hi, hc⟩ := hc
    subst e0 e1 e2
    rcases hm with ⟨hiv, -, -⟩ | ⟨S9, q9, i9, e09, hS9, e19, hq9, e29, hi9, hm⟩
    · exfalso
      simp [inB_nI hS (show 16 < 2 ^ 31 by omega), inB_nI hq (show 16 < 2 ^ 31 by omega), inB_nI hi (show 25 < 2 ^ 31 by omega)] at hiv
    · skip
      obtain rfl := c_eq0 (show S < 2 ^ 31 by omega) (show S9 < 2 ^ 31 by omega) e09
      obtain rfl := c_eq0 (show q < 2 ^ 31 by omega) (show q9 < 2 ^ 31 by omega) e19
      obtain rfl := c_eq0 (show i < 2 ^ 31 by omega) (show i9 < 2 ^ 31 by omega) e29
      have hlS := hl S hS
      have hD : trimD (olab has lab S) ((findN nam nf (16 * lab S + q)).map siz) i = trimD (labC S) (szF Fs (16 * ((labC S).getD 0) + q)) i := by
        rw [hlS]
        cases e : labC S with
        | none => rfl
        | some o =>
          have hlo := (olab_some (hlS.trans e)).2
          rw [hlo, hfi.sz]
          rfl
      rcases hc with ⟨d, hr, hw⟩ | ⟨d, hr, hw⟩ | ⟨i1, ob1, ar1, ky1, fo1, ce1, ct1, gi1, gv1, y1, y2, d, hr, hw⟩
      · skip
        rcases hm with ⟨d9, hr9, hw9⟩ | ⟨d9, hr9, hw9⟩ | ⟨f, m0, d9, hr9, hw9⟩
        · exact agn hw hw9 (hr.trans hr9.symm) (rrm ⟨mnf, mlc, mlab, mquo, mspe, mnam, msiz, va_up_le mcnt (Nat.zero_le _), mlis⟩ (hC.upCnt (Nat.zero_le _)) hl hqu hsp hfi hls he.up0)
        · exfalso; omega
        · exfalso; omega
      · skip
        rcases hm with ⟨d9, hr9, hw9⟩ | ⟨d9, hr9, hw9⟩ | ⟨f, m0, d9, hr9, hw9⟩
        · exfalso; omega
        · exact agn hw hw9 (hr.trans hr9.symm) (rrm ⟨mnf, mlc, mlab, mquo, mspe, mnam, msiz, va_up_le mcnt (Nat.zero_le _), mlis⟩ (hC.upCnt (Nat.zero_le _)) hl hqu hsp hfi hls he.up0)
        · exfalso; omega
      · skip
        rcases hm with ⟨d9, hr9, hw9⟩ | ⟨d9, hr9, hw9⟩ | ⟨f, m0, d9, hr9, hw9⟩
        · exfalso; omega
        · exfalso; omega
        · have hz := sz_some y1 y2
          cases e : labC S with
          | none => rw [e] at d; exact absurd d (by simp [trimD])
          | some o =>
            have hlo := (olab_some (hlS.trans e)).2
            rw [e, Option.getD_some] at y1
            rw [hlo] at m0
            have hb9 := hC.flP y2
            rw [e, Option.getD_some] at hz
            have hlt : i < ct1 := by
              rw [e, Option.getD_some, hz] at d
              unfold trimD at d
              simp only at d
              rcases Nat.lt_or_ge i ct1 with g | g
              · exact g
              · rw [if_neg (show ¬ i < ct1 by omega)] at d; omega
            obtain ⟨hsz, hf9⟩ := hfi.cut (n := i) msiz m0 y1 y2 (by omega)
            exact agn hw hw9 (by rw [hr, hr9, hsz]) (rrm ⟨mnf, mlc, mlab, mquo, mspe, mnam, va_up_le msiz (by omega), va_up_le mcnt (Nat.zero_le _), mlis⟩ ((hC.upF hb9.1 (by omega)).upCnt (Nat.zero_le _)) hl hqu hsp hf9 hls he.up0)
  · unfold XC_trim at hx
    obtain ⟨hiv, rfl, rfl⟩ := hx
    rcases hm with ⟨-, -, hw⟩ | ⟨S9, q9, i9, e09, hS9, e19, hq9, e29, hi9, hm⟩
    · exact agx rfl hw (Or.inl ⟨rfl, rfl⟩) hRR
    · exfalso
      subst e09 e19 e29
      simp [inB_nI hS9 (show 16 < 2 ^ 31 by omega), inB_nI hq9 (show 16 < 2 ^ 31 by omega), inB_nI hi9 (show 25 < 2 ^ 31 by omega)] at hiv
set_option maxHeartbeats 4000000 in
theorem sim_remove {cy : Nat → ClassId} {zs am ac : Nat → Nat} {lab : Nat → Nat} {has : Nat → Bool} {quo spe nam : Nat → Nat} {gif : Nat → Bool} {fol : Nat → Int32} {siz : Nat → Nat} {cel : Nat → Int32} {giv : Nat → Bool} {nf : Nat} {lis : Nat → Nat} {lc : Nat} {see : Nat → Int32} {cnt : Nat → Nat} {labC : Nat → Option Nat} {quoC speC : Nat → Nat} {mdC : Int32} {edC : Option (Nat × Nat)} {lisC : Nat → Nat} {lcC : Nat} {seeC : Nat → Nat → Int32} {cntC : Nat → Nat} {Fs : List FT} (h : RR lab has quo spe nam gif fol siz cel giv nf lis lc see cnt labC quoC speC edC lisC lcC seeC cntC Fs) {p0 : Int32} {p1 : Int32} {r' : Int32} {w' : va_W} (hm : PM_remove cy am lab has quo spe nam gif fol siz cel giv nf lis lc see cnt p0 p1 r' w') : (∀ r w, PC_remove cy zs ac labC quoC speC mdC edC lisC lcC seeC cntC Fs p0 p1 r w → AGN cy am ac (zs 0) r w r' w') ∧ (∀ E w, XC_remove cy zs ac labC quoC speC mdC edC lisC lcC seeC cntC Fs p0 p1 E w → AGX cy am ac (zs 0) E w w') := by
  have hRR := h
  obtain ⟨hM, hC, hl, hqu, hsp, hfi, hls, he⟩ := h
  obtain ⟨mnf, mlc, mlab, mquo, mspe, mnam, msiz, mcnt, mlis⟩ := id hM
  unfold PM_remove at hm
  refine ⟨fun r w hc => ?_, fun E w hx => ?_⟩
  · unfold PC_remove at hc
    obtain ⟨S, q, e0, hS, e1, hq, hc⟩ := hc
    subst e0 e1
    rcases hm with ⟨hiv, -, -⟩ | ⟨S9, q9, e09, hS9, e19, hq9, hm⟩
    · exfalso
      simp [inB_nI hS (show 16 < 2 ^ 31 by omega), inB_nI hq (show 16 < 2 ^ 31 by omega)] at hiv
    · skip
      obtain rfl := c_eq0 (show S < 2 ^ 31 by omega) (show S9 < 2 ^ 31 by omega) e09
      obtain rfl := c_eq0 (show q < 2 ^ 31 by omega) (show q9 < 2 ^ 31 by omega) e19
      have hlS := hl S hS
      have hD : remD (olab has lab S) ((findN nam nf (16 * lab S + q)).map siz) = remD (labC S) (szF Fs (16 * ((labC S).getD 0) + q)) := by
        rw [hlS]
        cases e : labC S with
        | none => rfl
        | some o =>
          have hlo := (olab_some (hlS.trans e)).2
          rw [hlo, hfi.sz]
          rfl
      rcases hc with ⟨d, hr, hw⟩ | ⟨d, hr, hw⟩ | ⟨i1, ob1, ar1, ky1, fo1, ce1, ct1, gi1, gv1, y1, y2, d, hr, hw⟩
      · skip
        rcases hm with ⟨d9, hr9, hw9⟩ | ⟨d9, hr9, hw9⟩ | ⟨f, m0, d9, hr9, hw9⟩
        · exact agn hw hw9 (hr.trans hr9.symm) (rrm ⟨mnf, mlc, mlab, mquo, mspe, mnam, msiz, va_up_le mcnt (Nat.zero_le _), mlis⟩ (hC.upCnt (Nat.zero_le _)) hl hqu hsp hfi hls he.up0)
        · exfalso; omega
        · exfalso; omega
      · skip
        rcases hm with ⟨d9, hr9, hw9⟩ | ⟨d9, hr9, hw9⟩ | ⟨f, m0, d9, hr9, hw9⟩
        · exfalso; omega
        · exact agn hw hw9 (hr.trans hr9.symm) (rrm ⟨mnf, mlc, mlab, mquo, mspe, mnam, msiz, va_up_le mcnt (Nat.zero_le _), mlis⟩ (hC.upCnt (Nat.zero_le _)) hl hqu hsp hfi hls he.up0)
        · exfalso; omega
      · skip
        rcases hm with ⟨d9, hr9, hw9⟩ | ⟨d9, hr9, hw9⟩ | ⟨f, m0, d9, hr9, hw9⟩
        · exfalso; omega
        · exfalso; omega
        · cases e : labC S with
          | none => rw [e] at d; exact absurd d (by simp [remD])
          | some o =>
            have hlo := (olab_some (hlS.trans e)).2
            rw [e, Option.getD_some] at y1
            rw [hlo] at m0
            have hb9 := hC.flP y2
            obtain ⟨a1, a2, a3⟩ := hfi.at m0 y1 y2
            exact agn hw hw9 (hr.trans hr9.symm) (rrm ⟨(by omega), mlc, mlab, mquo, mspe, va_up_lt mnam (mnam _), va_up_le msiz (msiz _), va_up_le mcnt (Nat.zero_le _), mlis⟩ ((hC.del (h9 := 0) (plF_lt y1)).upCnt (Nat.zero_le _)) hl hqu hsp (hfi.del msiz a1 y2 a2) hls he.up0)
  · unfold XC_remove at hx
    obtain ⟨hiv, rfl, rfl⟩ := hx
    rcases hm with ⟨-, -, hw⟩ | ⟨S9, q9, e09, hS9, e19, hq9, hm⟩
    · exact agx rfl hw (Or.inl ⟨rfl, rfl⟩) hRR
    · exfalso
      subst e09 e19
      simp [inB_nI hS9 (show 16 < 2 ^ 31 by omega), inB_nI hq9 (show 16 < 2 ^ 31 by omega)] at hiv
set_option maxHeartbeats 4000000 in
theorem sim_read {cy : Nat → ClassId} {zs am ac : Nat → Nat} {lab : Nat → Nat} {has : Nat → Bool} {quo spe nam : Nat → Nat} {gif : Nat → Bool} {fol : Nat → Int32} {siz : Nat → Nat} {cel : Nat → Int32} {giv : Nat → Bool} {nf : Nat} {lis : Nat → Nat} {lc : Nat} {see : Nat → Int32} {cnt : Nat → Nat} {labC : Nat → Option Nat} {quoC speC : Nat → Nat} {mdC : Int32} {edC : Option (Nat × Nat)} {lisC : Nat → Nat} {lcC : Nat} {seeC : Nat → Nat → Int32} {cntC : Nat → Nat} {Fs : List FT} (h : RR lab has quo spe nam gif fol siz cel giv nf lis lc see cnt labC quoC speC edC lisC lcC seeC cntC Fs) {p0 : Int32} {p1 : Int32} {p2 : Int32} {p3 : Int32} {r' : Int32} {w' : va_W} (hm : PM_read cy am lab has quo spe nam gif fol siz cel giv nf lis lc see cnt p0 p1 p2 p3 r' w') : (∀ r w, PC_read cy zs ac labC quoC speC mdC edC lisC lcC seeC cntC Fs p0 p1 p2 p3 r w → AGN cy am ac (zs 0) r w r' w') ∧ (∀ E w, XC_read cy zs ac labC quoC speC mdC edC lisC lcC seeC cntC Fs p0 p1 p2 p3 E w → AGX cy am ac (zs 0) E w w') := by
  have hRR := h
  obtain ⟨hM, hC, hl, hqu, hsp, hfi, hls, he⟩ := h
  obtain ⟨mnf, mlc, mlab, mquo, mspe, mnam, msiz, mcnt, mlis⟩ := id hM
  unfold PM_read at hm
  refine ⟨fun r w hc => ?_, fun E w hx => ?_⟩
  · unfold PC_read at hc
    obtain ⟨S, L, q, i, e0, hS, e1, hL, e2, hq, e3, hi, hc⟩ := hc
    subst e0 e1 e2 e3
    rcases hm with ⟨hiv, -, -⟩ | ⟨S9, L9, q9, i9, e09, hS9, e19, hL9, e29, hq9, e39, hi9, hm⟩
    · exfalso
      simp [inB_nI hS (show 16 < 2 ^ 31 by omega), inB_nI hL (show 1024 < 2 ^ 31 by omega), inB_nI hq (show 16 < 2 ^ 31 by omega), inB_nI hi (show 24 < 2 ^ 31 by omega)] at hiv
    · skip
      obtain rfl := c_eq0 (show S < 2 ^ 31 by omega) (show S9 < 2 ^ 31 by omega) e09
      obtain rfl := c_eq0 (show L < 2 ^ 31 by omega) (show L9 < 2 ^ 31 by omega) e19
      obtain rfl := c_eq0 (show q < 2 ^ 31 by omega) (show q9 < 2 ^ 31 by omega) e29
      obtain rfl := c_eq0 (show i < 2 ^ 31 by omega) (show i9 < 2 ^ 31 by omega) e39
      have hlS := hl S hS
      have hD : lookD (olab has lab S) L = lookD (labC S) L := by rw [hlS]
      have hz9 := hfi.sz (16 * L + q)
      rcases hc with ⟨d, hr, hw⟩ | ⟨d, hr, hw⟩ | ⟨d, d2, hr, hw⟩ | ⟨i1, ob1, ar1, ky1, fo1, ce1, ct1, gi1, gv1, y1, y2, d, d2, hr, hw⟩
      · skip
        rcases hm with ⟨d9, hr9, hw9⟩ | ⟨d9, hr9, hw9⟩ | ⟨d9, d29, hr9, hw9⟩ | ⟨f, m0, d9, d29, hr9, hw9⟩
        · exact agn hw hw9 (hr.trans hr9.symm) (rrm ⟨mnf, mlc, mlab, mquo, mspe, mnam, msiz, va_up_le mcnt (Nat.zero_le _), mlis⟩ (hC.upCnt (Nat.zero_le _)) hl hqu hsp hfi hls he.up0)
        · exfalso; (first | omega | (rw [hz9] at d29; omega))
        · exfalso; (first | omega | (rw [hz9] at d29; omega))
        · exfalso; (first | omega | (rw [hz9] at d29; omega))
      · skip
        rcases hm with ⟨d9, hr9, hw9⟩ | ⟨d9, hr9, hw9⟩ | ⟨d9, d29, hr9, hw9⟩ | ⟨f, m0, d9, d29, hr9, hw9⟩
        · exfalso; (first | omega | (rw [hz9] at d29; omega))
        · exact agn hw hw9 (hr.trans hr9.symm) (rrm ⟨mnf, mlc, mlab, mquo, mspe, mnam, msiz, va_up_le mcnt (Nat.zero_le _), mlis⟩ (hC.upCnt (Nat.zero_le _)) hl hqu hsp hfi hls he.up0)
        · exfalso; (first | omega | (rw [hz9] at d29; omega))
        · exfalso; (first | omega | (rw [hz9] at d29; omega))
      · skip
        rcases hm with ⟨d9, hr9, hw9⟩ | ⟨d9, hr9, hw9⟩ | ⟨d9, d29, hr9, hw9⟩ | ⟨f, m0, d9, d29, hr9, hw9⟩
        · exfalso; (first | omega | (rw [hz9] at d29; omega))
        · exfalso; (first | omega | (rw [hz9] at d29; omega))
        · exact agn hw hw9 (hr.trans hr9.symm) (rrm ⟨mnf, mlc, mlab, mquo, mspe, mnam, msiz, va_up_le mcnt (Nat.zero_le _), mlis⟩ (hC.upCnt (Nat.zero_le _)) hl hqu hsp hfi hls he.up0)
        · exfalso; (first | omega | (rw [hz9] at d29; omega))
      · skip
        rcases hm with ⟨d9, hr9, hw9⟩ | ⟨d9, hr9, hw9⟩ | ⟨d9, d29, hr9, hw9⟩ | ⟨f, m0, d9, d29, hr9, hw9⟩
        · exfalso; (first | omega | (rw [hz9] at d29; omega))
        · exfalso; (first | omega | (rw [hz9] at d29; omega))
        · exfalso; (first | omega | (rw [hz9] at d29; omega))
        · rw [sz_some y1 y2] at d2
          have hlt : i < ct1 := by
            unfold readD at d2
            simp only at d2
            rcases Nat.lt_or_ge i ct1 with g | g
            · exact g
            · rw [if_neg (show ¬ i < ct1 by omega)] at d2; omega
          obtain ⟨a1, a2, a3⟩ := hfi.at m0 y1 y2
          obtain ⟨b1, b2, b3, b4, b5, b6⟩ := mA_inv a2
          rw [up_up, b5 i hlt] at hw9
          refine agn hw hw9 (hr.trans hr9.symm) (rrm ⟨mnf, mlc, mlab, mquo, mspe, mnam, msiz, va_up_le mcnt (by omega), mlis⟩ (hC.upCnt (by omega)) hl hqu hsp hfi hls (he.upN (n := 0 + 1) (fun j hj => ?_) mcnt (fun t ht => upd_ne (by omega))))
          obtain rfl : j = 0 := by omega
          rw [Nat.add_zero, upd_self, upd_self]
  · unfold XC_read at hx
    obtain ⟨hiv, rfl, rfl⟩ := hx
    rcases hm with ⟨-, -, hw⟩ | ⟨S9, L9, q9, i9, e09, hS9, e19, hL9, e29, hq9, e39, hi9, hm⟩
    · exact agx rfl hw (Or.inl ⟨rfl, rfl⟩) hRR
    · exfalso
      subst e09 e19 e29 e39
      simp [inB_nI hS9 (show 16 < 2 ^ 31 by omega), inB_nI hL9 (show 1024 < 2 ^ 31 by omega), inB_nI hq9 (show 16 < 2 ^ 31 by omega), inB_nI hi9 (show 24 < 2 ^ 31 by omega)] at hiv
set_option maxHeartbeats 4000000 in
theorem sim_size {cy : Nat → ClassId} {zs am ac : Nat → Nat} {lab : Nat → Nat} {has : Nat → Bool} {quo spe nam : Nat → Nat} {gif : Nat → Bool} {fol : Nat → Int32} {siz : Nat → Nat} {cel : Nat → Int32} {giv : Nat → Bool} {nf : Nat} {lis : Nat → Nat} {lc : Nat} {see : Nat → Int32} {cnt : Nat → Nat} {labC : Nat → Option Nat} {quoC speC : Nat → Nat} {mdC : Int32} {edC : Option (Nat × Nat)} {lisC : Nat → Nat} {lcC : Nat} {seeC : Nat → Nat → Int32} {cntC : Nat → Nat} {Fs : List FT} (h : RR lab has quo spe nam gif fol siz cel giv nf lis lc see cnt labC quoC speC edC lisC lcC seeC cntC Fs) {p0 : Int32} {p1 : Int32} {p2 : Int32} {r' : Int32} {w' : va_W} (hm : PM_size cy am lab has quo spe nam gif fol siz cel giv nf lis lc see cnt p0 p1 p2 r' w') : (∀ r w, PC_size cy zs ac labC quoC speC mdC edC lisC lcC seeC cntC Fs p0 p1 p2 r w → AGN cy am ac (zs 0) r w r' w') ∧ (∀ E w, XC_size cy zs ac labC quoC speC mdC edC lisC lcC seeC cntC Fs p0 p1 p2 E w → AGX cy am ac (zs 0) E w w') := by
  have hRR := h
  obtain ⟨hM, hC, hl, hqu, hsp, hfi, hls, he⟩ := h
  obtain ⟨mnf, mlc, mlab, mquo, mspe, mnam, msiz, mcnt, mlis⟩ := id hM
  unfold PM_size at hm
  refine ⟨fun r w hc => ?_, fun E w hx => ?_⟩
  · unfold PC_size at hc
    obtain ⟨S, L, q, e0, hS, e1, hL, e2, hq, hc⟩ := hc
    subst e0 e1 e2
    rcases hm with ⟨hiv, -, -⟩ | ⟨S9, L9, q9, e09, hS9, e19, hL9, e29, hq9, hm⟩
    · exfalso
      simp [inB_nI hS (show 16 < 2 ^ 31 by omega), inB_nI hL (show 1024 < 2 ^ 31 by omega), inB_nI hq (show 16 < 2 ^ 31 by omega)] at hiv
    · skip
      obtain rfl := c_eq0 (show S < 2 ^ 31 by omega) (show S9 < 2 ^ 31 by omega) e09
      obtain rfl := c_eq0 (show L < 2 ^ 31 by omega) (show L9 < 2 ^ 31 by omega) e19
      obtain rfl := c_eq0 (show q < 2 ^ 31 by omega) (show q9 < 2 ^ 31 by omega) e29
      have hlS := hl S hS
      have hD : lookD (olab has lab S) L = lookD (labC S) L := by rw [hlS]
      rcases hc with ⟨d, hr, hw⟩ | ⟨d, hr, hw⟩ | ⟨d, hr, hw⟩
      · skip
        rcases hm with ⟨d9, hr9, hw9⟩ | ⟨d9, hr9, hw9⟩ | ⟨d9, hr9, hw9⟩
        · exact agn hw hw9 (hr.trans hr9.symm) (rrm ⟨mnf, mlc, mlab, mquo, mspe, mnam, msiz, va_up_le mcnt (Nat.zero_le _), mlis⟩ (hC.upCnt (Nat.zero_le _)) hl hqu hsp hfi hls he.up0)
        · exfalso; omega
        · exfalso; omega
      · skip
        rcases hm with ⟨d9, hr9, hw9⟩ | ⟨d9, hr9, hw9⟩ | ⟨d9, hr9, hw9⟩
        · exfalso; omega
        · exact agn hw hw9 (hr.trans hr9.symm) (rrm ⟨mnf, mlc, mlab, mquo, mspe, mnam, msiz, va_up_le mcnt (Nat.zero_le _), mlis⟩ (hC.upCnt (Nat.zero_le _)) hl hqu hsp hfi hls he.up0)
        · exfalso; omega
      · skip
        rcases hm with ⟨d9, hr9, hw9⟩ | ⟨d9, hr9, hw9⟩ | ⟨d9, hr9, hw9⟩
        · exfalso; omega
        · exfalso; omega
        · exact agn hw hw9 (by rw [hr, hr9, hfi.sz]) (rrm ⟨mnf, mlc, mlab, mquo, mspe, mnam, msiz, va_up_le mcnt (Nat.zero_le _), mlis⟩ (hC.upCnt (Nat.zero_le _)) hl hqu hsp hfi hls he.up0)
  · unfold XC_size at hx
    obtain ⟨hiv, rfl, rfl⟩ := hx
    rcases hm with ⟨-, -, hw⟩ | ⟨S9, L9, q9, e09, hS9, e19, hL9, e29, hq9, hm⟩
    · exact agx rfl hw (Or.inl ⟨rfl, rfl⟩) hRR
    · exfalso
      subst e09 e19 e29
      simp [inB_nI hS9 (show 16 < 2 ^ 31 by omega), inB_nI hL9 (show 1024 < 2 ^ 31 by omega), inB_nI hq9 (show 16 < 2 ^ 31 by omega)] at hiv
set_option maxHeartbeats 4000000 in
theorem sim_there {cy : Nat → ClassId} {zs am ac : Nat → Nat} {lab : Nat → Nat} {has : Nat → Bool} {quo spe nam : Nat → Nat} {gif : Nat → Bool} {fol : Nat → Int32} {siz : Nat → Nat} {cel : Nat → Int32} {giv : Nat → Bool} {nf : Nat} {lis : Nat → Nat} {lc : Nat} {see : Nat → Int32} {cnt : Nat → Nat} {labC : Nat → Option Nat} {quoC speC : Nat → Nat} {mdC : Int32} {edC : Option (Nat × Nat)} {lisC : Nat → Nat} {lcC : Nat} {seeC : Nat → Nat → Int32} {cntC : Nat → Nat} {Fs : List FT} (h : RR lab has quo spe nam gif fol siz cel giv nf lis lc see cnt labC quoC speC edC lisC lcC seeC cntC Fs) {p0 : Int32} {p1 : Int32} {p2 : Int32} {r' : Int32} {w' : va_W} (hm : PM_there cy am lab has quo spe nam gif fol siz cel giv nf lis lc see cnt p0 p1 p2 r' w') : (∀ r w, PC_there cy zs ac labC quoC speC mdC edC lisC lcC seeC cntC Fs p0 p1 p2 r w → AGN cy am ac (zs 0) r w r' w') ∧ (∀ E w, XC_there cy zs ac labC quoC speC mdC edC lisC lcC seeC cntC Fs p0 p1 p2 E w → AGX cy am ac (zs 0) E w w') := by
  have hRR := h
  obtain ⟨hM, hC, hl, hqu, hsp, hfi, hls, he⟩ := h
  obtain ⟨mnf, mlc, mlab, mquo, mspe, mnam, msiz, mcnt, mlis⟩ := id hM
  unfold PM_there at hm
  refine ⟨fun r w hc => ?_, fun E w hx => ?_⟩
  · unfold PC_there at hc
    obtain ⟨S, L, q, e0, hS, e1, hL, e2, hq, hc⟩ := hc
    subst e0 e1 e2
    rcases hm with ⟨hiv, -, -⟩ | ⟨S9, L9, q9, e09, hS9, e19, hL9, e29, hq9, hm⟩
    · exfalso
      simp [inB_nI hS (show 16 < 2 ^ 31 by omega), inB_nI hL (show 1024 < 2 ^ 31 by omega), inB_nI hq (show 16 < 2 ^ 31 by omega)] at hiv
    · skip
      obtain rfl := c_eq0 (show S < 2 ^ 31 by omega) (show S9 < 2 ^ 31 by omega) e09
      obtain rfl := c_eq0 (show L < 2 ^ 31 by omega) (show L9 < 2 ^ 31 by omega) e19
      obtain rfl := c_eq0 (show q < 2 ^ 31 by omega) (show q9 < 2 ^ 31 by omega) e29
      have hlS := hl S hS
      have hD : lookD (olab has lab S) L = lookD (labC S) L := by rw [hlS]
      rcases hc with ⟨d, hr, hw⟩ | ⟨d, hr, hw⟩ | ⟨d, hr, hw⟩
      · skip
        rcases hm with ⟨d9, hr9, hw9⟩ | ⟨d9, hr9, hw9⟩ | ⟨d9, hr9, hw9⟩
        · exact agn hw hw9 (hr.trans hr9.symm) (rrm ⟨mnf, mlc, mlab, mquo, mspe, mnam, msiz, va_up_le mcnt (Nat.zero_le _), mlis⟩ (hC.upCnt (Nat.zero_le _)) hl hqu hsp hfi hls he.up0)
        · exfalso; omega
        · exfalso; omega
      · skip
        rcases hm with ⟨d9, hr9, hw9⟩ | ⟨d9, hr9, hw9⟩ | ⟨d9, hr9, hw9⟩
        · exfalso; omega
        · exact agn hw hw9 (hr.trans hr9.symm) (rrm ⟨mnf, mlc, mlab, mquo, mspe, mnam, msiz, va_up_le mcnt (Nat.zero_le _), mlis⟩ (hC.upCnt (Nat.zero_le _)) hl hqu hsp hfi hls he.up0)
        · exfalso; omega
      · skip
        rcases hm with ⟨d9, hr9, hw9⟩ | ⟨d9, hr9, hw9⟩ | ⟨d9, hr9, hw9⟩
        · exfalso; omega
        · exfalso; omega
        · exact agn hw hw9 (by rw [hr, hr9, hfi.is]) (rrm ⟨mnf, mlc, mlab, mquo, mspe, mnam, msiz, va_up_le mcnt (Nat.zero_le _), mlis⟩ (hC.upCnt (Nat.zero_le _)) hl hqu hsp hfi hls he.up0)
  · unfold XC_there at hx
    obtain ⟨hiv, rfl, rfl⟩ := hx
    rcases hm with ⟨-, -, hw⟩ | ⟨S9, L9, q9, e09, hS9, e19, hL9, e29, hq9, hm⟩
    · exact agx rfl hw (Or.inl ⟨rfl, rfl⟩) hRR
    · exfalso
      subst e09 e19 e29
      simp [inB_nI hS9 (show 16 < 2 ^ 31 by omega), inB_nI hL9 (show 1024 < 2 ^ 31 by omega), inB_nI hq9 (show 16 < 2 ^ 31 by omega)] at hiv
set_option maxHeartbeats 4000000 in
theorem sim_listed {cy : Nat → ClassId} {zs am ac : Nat → Nat} {lab : Nat → Nat} {has : Nat → Bool} {quo spe nam : Nat → Nat} {gif : Nat → Bool} {fol : Nat → Int32} {siz : Nat → Nat} {cel : Nat → Int32} {giv : Nat → Bool} {nf : Nat} {lis : Nat → Nat} {lc : Nat} {see : Nat → Int32} {cnt : Nat → Nat} {labC : Nat → Option Nat} {quoC speC : Nat → Nat} {mdC : Int32} {edC : Option (Nat × Nat)} {lisC : Nat → Nat} {lcC : Nat} {seeC : Nat → Nat → Int32} {cntC : Nat → Nat} {Fs : List FT} (h : RR lab has quo spe nam gif fol siz cel giv nf lis lc see cnt labC quoC speC edC lisC lcC seeC cntC Fs) {p0 : Int32} {p1 : Int32} {p2 : Int32} {r' : Int32} {w' : va_W} (hm : PM_listed cy am lab has quo spe nam gif fol siz cel giv nf lis lc see cnt p0 p1 p2 r' w') : (∀ r w, PC_listed cy zs ac labC quoC speC mdC edC lisC lcC seeC cntC Fs p0 p1 p2 r w → AGN cy am ac (zs 0) r w r' w') ∧ (∀ E w, XC_listed cy zs ac labC quoC speC mdC edC lisC lcC seeC cntC Fs p0 p1 p2 E w → AGX cy am ac (zs 0) E w w') := by
  have hRR := h
  obtain ⟨hM, hC, hl, hqu, hsp, hfi, hls, he⟩ := h
  obtain ⟨mnf, mlc, mlab, mquo, mspe, mnam, msiz, mcnt, mlis⟩ := id hM
  unfold PM_listed at hm
  refine ⟨fun r w hc => ?_, fun E w hx => ?_⟩
  · unfold PC_listed at hc
    obtain ⟨S, L, q, e0, hS, e1, hL, e2, hq, hc⟩ := hc
    subst e0 e1 e2
    rcases hm with ⟨hiv, -, -⟩ | ⟨S9, L9, q9, e09, hS9, e19, hL9, e29, hq9, hm⟩
    · exfalso
      simp [inB_nI hS (show 16 < 2 ^ 31 by omega), inB_nI hL (show 1024 < 2 ^ 31 by omega), inB_nI hq (show 16 < 2 ^ 31 by omega)] at hiv
    · skip
      obtain rfl := c_eq0 (show S < 2 ^ 31 by omega) (show S9 < 2 ^ 31 by omega) e09
      obtain rfl := c_eq0 (show L < 2 ^ 31 by omega) (show L9 < 2 ^ 31 by omega) e19
      obtain rfl := c_eq0 (show q < 2 ^ 31 by omega) (show q9 < 2 ^ 31 by omega) e29
      have hlS := hl S hS
      have hD : lookD (olab has lab S) L = lookD (labC S) L := by rw [hlS]
      rcases hc with ⟨d, hr, hw⟩ | ⟨d, hr, hw⟩ | ⟨o, ho, d, hr, f9, hsg, hw⟩
      · skip
        rcases hm with ⟨d9, hr9, hw9⟩ | ⟨d9, hr9, hw9⟩ | ⟨d9, see1, n, ⟨ls, l1, l2, l3, l4, l5⟩, hn, hr9, hw9⟩
        · exact agn hw hw9 (hr.trans hr9.symm) (rrm ⟨mnf, mlc, mlab, mquo, mspe, mnam, msiz, va_up_le mcnt (Nat.zero_le _), mlis⟩ (hC.upCnt (Nat.zero_le _)) hl hqu hsp hfi hls he.up0)
        · exfalso; omega
        · exfalso; omega
      · skip
        rcases hm with ⟨d9, hr9, hw9⟩ | ⟨d9, hr9, hw9⟩ | ⟨d9, see1, n, ⟨ls, l1, l2, l3, l4, l5⟩, hn, hr9, hw9⟩
        · exfalso; omega
        · exact agn hw hw9 (hr.trans hr9.symm) (rrm ⟨mnf, mlc, mlab, mquo, mspe, mnam, msiz, va_up_le mcnt (Nat.zero_le _), mlis⟩ (hC.upCnt (Nat.zero_le _)) hl hqu hsp hfi hls he.up0)
        · exfalso; omega
      · skip
        rcases hm with ⟨d9, hr9, hw9⟩ | ⟨d9, hr9, hw9⟩ | ⟨d9, see1, n, ⟨ls, l1, l2, l3, l4, l5⟩, hn, hr9, hw9⟩
        · exfalso; omega
        · exfalso; omega
        · have hlo := (olab_some (hlS.trans ho)).2
          rw [hlo] at l4
          have hls9 := hfi.sh l3 l4
          rw [up_up] at hw9
          subst l1
          rw [← hls9] at hr hw hsg
          exact agn hw hw9 (hr.trans hr9.symm) (rrm ⟨mnf, mlc, mlab, mquo, mspe, mnam, msiz, va_up_le mcnt hn, mlis⟩ (hC.upCnt hn) hl hqu hsp hfi hls (he.upN (fun j hj => by rw [l2 j hj, hsg j hj]) mcnt l5))
  · unfold XC_listed at hx
    obtain ⟨hiv, rfl, rfl⟩ := hx
    rcases hm with ⟨-, -, hw⟩ | ⟨S9, L9, q9, e09, hS9, e19, hL9, e29, hq9, hm⟩
    · exact agx rfl hw (Or.inl ⟨rfl, rfl⟩) hRR
    · exfalso
      subst e09 e19 e29
      simp [inB_nI hS9 (show 16 < 2 ^ 31 by omega), inB_nI hL9 (show 1024 < 2 ^ 31 by omega), inB_nI hq9 (show 16 < 2 ^ 31 by omega)] at hiv
theorem seenV_congr {v : Int32} {n n' : Nat} {f g : Nat → Int32} (hn : n = n') (h : ∀ j, j < n → f j = g j) : seenV v n f = seenV v n' g := by
  subst hn
  unfold seenV
  split
  · rfl
  · split
    · next e => exact h _ e
    · rfl
set_option maxHeartbeats 4000000 in
theorem sim_seen {cy : Nat → ClassId} {zs am ac : Nat → Nat} {lab : Nat → Nat} {has : Nat → Bool} {quo spe nam : Nat → Nat} {gif : Nat → Bool} {fol : Nat → Int32} {siz : Nat → Nat} {cel : Nat → Int32} {giv : Nat → Bool} {nf : Nat} {lis : Nat → Nat} {lc : Nat} {see : Nat → Int32} {cnt : Nat → Nat} {labC : Nat → Option Nat} {quoC speC : Nat → Nat} {mdC : Int32} {edC : Option (Nat × Nat)} {lisC : Nat → Nat} {lcC : Nat} {seeC : Nat → Nat → Int32} {cntC : Nat → Nat} {Fs : List FT} (h : RR lab has quo spe nam gif fol siz cel giv nf lis lc see cnt labC quoC speC edC lisC lcC seeC cntC Fs) {p0 : Int32} {p1 : Int32} {r' : Int32} {w' : va_W} (hm : PM_seen cy am lab has quo spe nam gif fol siz cel giv nf lis lc see cnt p0 p1 r' w') : (∀ r w, PC_seen cy zs ac labC quoC speC mdC edC lisC lcC seeC cntC Fs p0 p1 r w → AGN cy am ac (zs 0) r w r' w') ∧ (∀ E w, XC_seen cy zs ac labC quoC speC mdC edC lisC lcC seeC cntC Fs p0 p1 E w → AGX cy am ac (zs 0) E w w') := by
  have hRR := h
  obtain ⟨hM, hC, hl, hqu, hsp, hfi, hls, he⟩ := h
  obtain ⟨mnf, mlc, mlab, mquo, mspe, mnam, msiz, mcnt, mlis⟩ := id hM
  unfold PM_seen at hm
  refine ⟨fun r w hc => ?_, fun E w hx => ?_⟩
  · unfold PC_seen at hc
    obtain ⟨S, e0, hS, hc⟩ := hc
    subst e0
    rcases hm with ⟨hiv, -, -⟩ | ⟨S9, e09, hS9, hm⟩
    · exfalso
      simp [inB_nI hS (show 16 < 2 ^ 31 by omega)] at hiv
    · skip
      obtain rfl := c_eq0 (show S < 2 ^ 31 by omega) (show S9 < 2 ^ 31 by omega) e09
      obtain ⟨hr, hw⟩ := hc
      obtain ⟨hr9, hw9⟩ := hm
      obtain ⟨e1, e2⟩ := he S hS
      exact agn hw hw9 (by rw [hr, hr9]; exact (seenV_congr e1 e2).symm) hRR
  · unfold XC_seen at hx
    obtain ⟨hiv, rfl, rfl⟩ := hx
    rcases hm with ⟨-, -, hw⟩ | ⟨S9, e09, hS9, hm⟩
    · exact agx rfl hw (Or.inl ⟨rfl, rfl⟩) hRR
    · exfalso
      subst e09
      simp [inB_nI hS9 (show 16 < 2 ^ 31 by omega)] at hiv
