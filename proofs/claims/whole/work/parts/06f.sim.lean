def relK (a b c d e f : Bool) : Nat := if a = false then 0 else if b = false then 1 else if c = false then 2 else if d = false then 3 else if e = true then 6 else if f = true then 4 else 5
theorem fit_eq {u o z qo : Nat} (h : o ≤ u) : fitN u o z qo = decide ((u + (1 + z)) - o ≤ qo) := by
  unfold fitN
  congr 1
  rw [show u - o + 1 + z = u + (1 + z) - o by omega]
theorem cpy_at {f g : Nat → Int32} {n t : Nat} (h : t < n) : va_cpy f g 0 0 n t = f t := by
  unfold va_cpy
  rw [if_pos (by omega)]
  congr 1
  omega
set_option maxHeartbeats 4000000 in
theorem sim_release {cy : Nat → ClassId} {zs am ac : Nat → Nat} {lab : Nat → Nat} {has : Nat → Bool} {quo spe nam : Nat → Nat} {gif : Nat → Bool} {fol : Nat → Int32} {siz : Nat → Nat} {cel : Nat → Int32} {giv : Nat → Bool} {nf : Nat} {lis : Nat → Nat} {lc : Nat} {see : Nat → Int32} {cnt : Nat → Nat} {labC : Nat → Option Nat} {quoC speC : Nat → Nat} {mdC : Int32} {edC : Option (Nat × Nat)} {lisC : Nat → Nat} {lcC : Nat} {seeC : Nat → Nat → Int32} {cntC : Nat → Nat} {Fs : List FT} (h : RR lab has quo spe nam gif fol siz cel giv nf lis lc see cnt labC quoC speC edC lisC lcC seeC cntC Fs) {p0 : Int32} {p1 : Int32} {p2 : Int32} {p3 : Int32} {r' : Int32} {w' : va_W} (hm : PM_release cy am lab has quo spe nam gif fol siz cel giv nf lis lc see cnt p0 p1 p2 p3 r' w') : (∀ r w, PC_release cy zs ac labC quoC speC mdC edC lisC lcC seeC cntC Fs p0 p1 p2 p3 r w → AGN cy am ac (zs 0) r w r' w') ∧ (∀ E w, XC_release cy zs ac labC quoC speC mdC edC lisC lcC seeC cntC Fs p0 p1 p2 p3 E w → AGX cy am ac (zs 0) E w w') := by
  have hRR := h
  obtain ⟨hM, hC, hl, hqu, hsp, hfi, hls, he⟩ := h
  obtain ⟨mnf, mlc, mlab, mquo, mspe, mnam, msiz, mcnt, mlis⟩ := id hM
  unfold PM_release at hm
  refine ⟨fun r w hc => ?_, fun E w hx => ?_⟩
  · unfold PC_release at hc
    obtain ⟨S, L, q, T, e0, hS, e1, hL, e2, hq, e3, hT, hc⟩ := hc
    subst e0 e1 e2 e3
    rcases hm with ⟨hiv, -, -⟩ | ⟨S9, L9, q9, T9, e09, hS9, e19, hL9, e29, hq9, e39, hT9, hm⟩
    · exfalso
      simp [inB_nI hS (show 16 < 2 ^ 31 by omega), inB_nI hL (show 1024 < 2 ^ 31 by omega), inB_nI hq (show 16 < 2 ^ 31 by omega), inB_nI hT (show 1024 < 2 ^ 31 by omega)] at hiv
    · skip
      obtain rfl := c_eq0 (show S < 2 ^ 31 by omega) (show S9 < 2 ^ 31 by omega) e09
      obtain rfl := c_eq0 (show L < 2 ^ 31 by omega) (show L9 < 2 ^ 31 by omega) e19
      obtain rfl := c_eq0 (show q < 2 ^ 31 by omega) (show q9 < 2 ^ 31 by omega) e29
      obtain rfl := c_eq0 (show T < 2 ^ 31 by omega) (show T9 < 2 ^ 31 by omega) e39
      have hlS := hl S hS
      have hlen := hfi.len
      have hK : relK (olab has lab S).isSome (lisN lis lc S L T).isSome (findN nam nf (16 * L + q)).isSome (fitN (usesN spe nam gif siz giv nf T) (((findN nam nf (16 * T + q)).map (countN gif siz giv)).getD 0) (((findN nam nf (16 * L + q)).map siz).getD 0) (quo T)) (findN nam nf (16 * T + q)).isSome (decide (200 ≤ nf)) = relK (labC S).isSome (isC lisC lcC ((S * 1024 + L) * 1024 + T)) (plF Fs (16 * L + q)).isSome (decide ((usF speC Fs T + (1 + (szF Fs (16 * L + q)).getD 0)) - repF Fs (16 * T + q) ≤ quoC T)) (plF Fs (16 * T + q)).isSome (decide (200 ≤ Fs.length)) := by
        rw [hlS, hls.is mlis hL hT, hfi.is, hfi.is, hfi.us (hsp T hT), hfi.rep, hfi.sz, hqu T hT, fit_eq (rep_le hq), hlen]
      rcases hc with ⟨y1, hr, hw⟩ | ⟨y1, y2, hr, hw⟩ | ⟨y1, y2, y3, hr, hw⟩ | ⟨i1, ob1, ar1, ky1, fo1, ce1, ct1, gi1, gv1, y1, y2, y3, y4, y5, hr, hw⟩ | ⟨i1, ob1, ar1, ky1, fo1, ce1, ct1, gi1, gv1, y1, y2, y3, y4, y5, y6, y7, hr, pl, ed9, q1, q2, hins, hek, hw⟩ | ⟨i1, ob1, ar1, ky1, fo1, ce1, ct1, gi1, gv1, y1, y2, y3, y4, y5, i2, ob2, ar2, ky2, fo2, ce2, ct2, gi2, gv2, y6, y7, hr, hw⟩
      · skip
        have hkc : relK (labC S).isSome (isC lisC lcC ((S * 1024 + L) * 1024 + T)) (plF Fs (16 * L + q)).isSome (decide ((usF speC Fs T + (1 + (szF Fs (16 * L + q)).getD 0)) - repF Fs (16 * T + q) ≤ quoC T)) (plF Fs (16 * T + q)).isSome (decide (200 ≤ Fs.length)) = 0 := by
          rw [y1]
          rfl
        rcases hm with ⟨m1, hr9, hw9⟩ | ⟨m1, m2, hr9, hw9⟩ | ⟨m1, m2, m3, hr9, hw9⟩ | ⟨f, m1, m2, m3, m4, hr9, hw9⟩ | ⟨f, m1, m2, m3, m4, m5, m6, hr9, hw9⟩ | ⟨f, g, m1, m2, m3, m4, m5, m6, m7, cel1, giv1, siz1, m8, m9, hr9, hw9⟩ | ⟨f, g, m1, m2, m3, m4, m5, cel1, giv1, siz1, m8, m9, hr9, hw9⟩
        · skip
          exact agn hw hw9 (hr.trans hr9.symm) (rrm ⟨mnf, mlc, mlab, mquo, mspe, mnam, msiz, va_up_le mcnt (Nat.zero_le _), mlis⟩ (hC.upCnt (Nat.zero_le _)) hl hqu hsp hfi hls he.up0)
        · skip
          exfalso
          have hkm : relK (olab has lab S).isSome (lisN lis lc S L T).isSome (findN nam nf (16 * L + q)).isSome (fitN (usesN spe nam gif siz giv nf T) (((findN nam nf (16 * T + q)).map (countN gif siz giv)).getD 0) (((findN nam nf (16 * L + q)).map siz).getD 0) (quo T)) (findN nam nf (16 * T + q)).isSome (decide (200 ≤ nf)) = 1 := by
            rw [olab_t m1, m2]
            rfl
          omega
        · skip
          exfalso
          have hkm : relK (olab has lab S).isSome (lisN lis lc S L T).isSome (findN nam nf (16 * L + q)).isSome (fitN (usesN spe nam gif siz giv nf T) (((findN nam nf (16 * T + q)).map (countN gif siz giv)).getD 0) (((findN nam nf (16 * L + q)).map siz).getD 0) (quo T)) (findN nam nf (16 * T + q)).isSome (decide (200 ≤ nf)) = 2 := by
            rw [olab_t m1, m2, m3]
            rfl
          omega
        · skip
          exfalso
          have hkm : relK (olab has lab S).isSome (lisN lis lc S L T).isSome (findN nam nf (16 * L + q)).isSome (fitN (usesN spe nam gif siz giv nf T) (((findN nam nf (16 * T + q)).map (countN gif siz giv)).getD 0) (((findN nam nf (16 * L + q)).map siz).getD 0) (quo T)) (findN nam nf (16 * T + q)).isSome (decide (200 ≤ nf)) = 3 := by
            have hfit : (fitN (usesN spe nam gif siz giv nf T) (((findN nam nf (16 * T + q)).map (countN gif siz giv)).getD 0) (((findN nam nf (16 * L + q)).map siz).getD 0) (quo T)) = false := by rw [m3]; exact m4
            rw [hfit, olab_t m1, m2, m3]
            rfl
          omega
        · skip
          exfalso
          have hkm : relK (olab has lab S).isSome (lisN lis lc S L T).isSome (findN nam nf (16 * L + q)).isSome (fitN (usesN spe nam gif siz giv nf T) (((findN nam nf (16 * T + q)).map (countN gif siz giv)).getD 0) (((findN nam nf (16 * L + q)).map siz).getD 0) (quo T)) (findN nam nf (16 * T + q)).isSome (decide (200 ≤ nf)) = 4 := by
            have hfit : (fitN (usesN spe nam gif siz giv nf T) (((findN nam nf (16 * T + q)).map (countN gif siz giv)).getD 0) (((findN nam nf (16 * L + q)).map siz).getD 0) (quo T)) = true := by rw [m3]; exact m4
            rw [hfit, olab_t m1, m2, m3]
            rw [m5, decide_eq_true (show 200 ≤ nf by omega)]
            rfl
          omega
        · skip
          exfalso
          have hkm : relK (olab has lab S).isSome (lisN lis lc S L T).isSome (findN nam nf (16 * L + q)).isSome (fitN (usesN spe nam gif siz giv nf T) (((findN nam nf (16 * T + q)).map (countN gif siz giv)).getD 0) (((findN nam nf (16 * L + q)).map siz).getD 0) (quo T)) (findN nam nf (16 * T + q)).isSome (decide (200 ≤ nf)) = 5 := by
            have hfit : (fitN (usesN spe nam gif siz giv nf T) (((findN nam nf (16 * T + q)).map (countN gif siz giv)).getD 0) (((findN nam nf (16 * L + q)).map siz).getD 0) (quo T)) = true := by rw [m3]; exact m4
            rw [hfit, olab_t m1, m2, m3]
            rw [m5, decide_eq_false (show ¬ 200 ≤ nf by omega)]
            rfl
          omega
        · skip
          exfalso
          have hkm : relK (olab has lab S).isSome (lisN lis lc S L T).isSome (findN nam nf (16 * L + q)).isSome (fitN (usesN spe nam gif siz giv nf T) (((findN nam nf (16 * T + q)).map (countN gif siz giv)).getD 0) (((findN nam nf (16 * L + q)).map siz).getD 0) (quo T)) (findN nam nf (16 * T + q)).isSome (decide (200 ≤ nf)) = 6 := by
            have hfit : (fitN (usesN spe nam gif siz giv nf T) (((findN nam nf (16 * T + q)).map (countN gif siz giv)).getD 0) (((findN nam nf (16 * L + q)).map siz).getD 0) (quo T)) = true := by rw [m3]; exact m4
            rw [hfit, olab_t m1, m2, m3]
            rw [m5]
            rfl
          omega
      · skip
        have hkc : relK (labC S).isSome (isC lisC lcC ((S * 1024 + L) * 1024 + T)) (plF Fs (16 * L + q)).isSome (decide ((usF speC Fs T + (1 + (szF Fs (16 * L + q)).getD 0)) - repF Fs (16 * T + q) ≤ quoC T)) (plF Fs (16 * T + q)).isSome (decide (200 ≤ Fs.length)) = 1 := by
          rw [y1, y2]
          rfl
        rcases hm with ⟨m1, hr9, hw9⟩ | ⟨m1, m2, hr9, hw9⟩ | ⟨m1, m2, m3, hr9, hw9⟩ | ⟨f, m1, m2, m3, m4, hr9, hw9⟩ | ⟨f, m1, m2, m3, m4, m5, m6, hr9, hw9⟩ | ⟨f, g, m1, m2, m3, m4, m5, m6, m7, cel1, giv1, siz1, m8, m9, hr9, hw9⟩ | ⟨f, g, m1, m2, m3, m4, m5, cel1, giv1, siz1, m8, m9, hr9, hw9⟩
        · skip
          exfalso
          have hkm : relK (olab has lab S).isSome (lisN lis lc S L T).isSome (findN nam nf (16 * L + q)).isSome (fitN (usesN spe nam gif siz giv nf T) (((findN nam nf (16 * T + q)).map (countN gif siz giv)).getD 0) (((findN nam nf (16 * L + q)).map siz).getD 0) (quo T)) (findN nam nf (16 * T + q)).isSome (decide (200 ≤ nf)) = 0 := by
            rw [m1]
            rfl
          omega
        · skip
          exact agn hw hw9 (hr.trans hr9.symm) (rrm ⟨mnf, mlc, mlab, mquo, mspe, mnam, msiz, va_up_le mcnt (Nat.zero_le _), mlis⟩ (hC.upCnt (Nat.zero_le _)) hl hqu hsp hfi hls he.up0)
        · skip
          exfalso
          have hkm : relK (olab has lab S).isSome (lisN lis lc S L T).isSome (findN nam nf (16 * L + q)).isSome (fitN (usesN spe nam gif siz giv nf T) (((findN nam nf (16 * T + q)).map (countN gif siz giv)).getD 0) (((findN nam nf (16 * L + q)).map siz).getD 0) (quo T)) (findN nam nf (16 * T + q)).isSome (decide (200 ≤ nf)) = 2 := by
            rw [olab_t m1, m2, m3]
            rfl
          omega
        · skip
          exfalso
          have hkm : relK (olab has lab S).isSome (lisN lis lc S L T).isSome (findN nam nf (16 * L + q)).isSome (fitN (usesN spe nam gif siz giv nf T) (((findN nam nf (16 * T + q)).map (countN gif siz giv)).getD 0) (((findN nam nf (16 * L + q)).map siz).getD 0) (quo T)) (findN nam nf (16 * T + q)).isSome (decide (200 ≤ nf)) = 3 := by
            have hfit : (fitN (usesN spe nam gif siz giv nf T) (((findN nam nf (16 * T + q)).map (countN gif siz giv)).getD 0) (((findN nam nf (16 * L + q)).map siz).getD 0) (quo T)) = false := by rw [m3]; exact m4
            rw [hfit, olab_t m1, m2, m3]
            rfl
          omega
        · skip
          exfalso
          have hkm : relK (olab has lab S).isSome (lisN lis lc S L T).isSome (findN nam nf (16 * L + q)).isSome (fitN (usesN spe nam gif siz giv nf T) (((findN nam nf (16 * T + q)).map (countN gif siz giv)).getD 0) (((findN nam nf (16 * L + q)).map siz).getD 0) (quo T)) (findN nam nf (16 * T + q)).isSome (decide (200 ≤ nf)) = 4 := by
            have hfit : (fitN (usesN spe nam gif siz giv nf T) (((findN nam nf (16 * T + q)).map (countN gif siz giv)).getD 0) (((findN nam nf (16 * L + q)).map siz).getD 0) (quo T)) = true := by rw [m3]; exact m4
            rw [hfit, olab_t m1, m2, m3]
            rw [m5, decide_eq_true (show 200 ≤ nf by omega)]
            rfl
          omega
        · skip
          exfalso
          have hkm : relK (olab has lab S).isSome (lisN lis lc S L T).isSome (findN nam nf (16 * L + q)).isSome (fitN (usesN spe nam gif siz giv nf T) (((findN nam nf (16 * T + q)).map (countN gif siz giv)).getD 0) (((findN nam nf (16 * L + q)).map siz).getD 0) (quo T)) (findN nam nf (16 * T + q)).isSome (decide (200 ≤ nf)) = 5 := by
            have hfit : (fitN (usesN spe nam gif siz giv nf T) (((findN nam nf (16 * T + q)).map (countN gif siz giv)).getD 0) (((findN nam nf (16 * L + q)).map siz).getD 0) (quo T)) = true := by rw [m3]; exact m4
            rw [hfit, olab_t m1, m2, m3]
            rw [m5, decide_eq_false (show ¬ 200 ≤ nf by omega)]
            rfl
          omega
        · skip
          exfalso
          have hkm : relK (olab has lab S).isSome (lisN lis lc S L T).isSome (findN nam nf (16 * L + q)).isSome (fitN (usesN spe nam gif siz giv nf T) (((findN nam nf (16 * T + q)).map (countN gif siz giv)).getD 0) (((findN nam nf (16 * L + q)).map siz).getD 0) (quo T)) (findN nam nf (16 * T + q)).isSome (decide (200 ≤ nf)) = 6 := by
            have hfit : (fitN (usesN spe nam gif siz giv nf T) (((findN nam nf (16 * T + q)).map (countN gif siz giv)).getD 0) (((findN nam nf (16 * L + q)).map siz).getD 0) (quo T)) = true := by rw [m3]; exact m4
            rw [hfit, olab_t m1, m2, m3]
            rw [m5]
            rfl
          omega
      · skip
        have hkc : relK (labC S).isSome (isC lisC lcC ((S * 1024 + L) * 1024 + T)) (plF Fs (16 * L + q)).isSome (decide ((usF speC Fs T + (1 + (szF Fs (16 * L + q)).getD 0)) - repF Fs (16 * T + q) ≤ quoC T)) (plF Fs (16 * T + q)).isSome (decide (200 ≤ Fs.length)) = 2 := by
          rw [y1, y2, y3]
          rfl
        rcases hm with ⟨m1, hr9, hw9⟩ | ⟨m1, m2, hr9, hw9⟩ | ⟨m1, m2, m3, hr9, hw9⟩ | ⟨f, m1, m2, m3, m4, hr9, hw9⟩ | ⟨f, m1, m2, m3, m4, m5, m6, hr9, hw9⟩ | ⟨f, g, m1, m2, m3, m4, m5, m6, m7, cel1, giv1, siz1, m8, m9, hr9, hw9⟩ | ⟨f, g, m1, m2, m3, m4, m5, cel1, giv1, siz1, m8, m9, hr9, hw9⟩
        · skip
          exfalso
          have hkm : relK (olab has lab S).isSome (lisN lis lc S L T).isSome (findN nam nf (16 * L + q)).isSome (fitN (usesN spe nam gif siz giv nf T) (((findN nam nf (16 * T + q)).map (countN gif siz giv)).getD 0) (((findN nam nf (16 * L + q)).map siz).getD 0) (quo T)) (findN nam nf (16 * T + q)).isSome (decide (200 ≤ nf)) = 0 := by
            rw [m1]
            rfl
          omega
        · skip
          exfalso
          have hkm : relK (olab has lab S).isSome (lisN lis lc S L T).isSome (findN nam nf (16 * L + q)).isSome (fitN (usesN spe nam gif siz giv nf T) (((findN nam nf (16 * T + q)).map (countN gif siz giv)).getD 0) (((findN nam nf (16 * L + q)).map siz).getD 0) (quo T)) (findN nam nf (16 * T + q)).isSome (decide (200 ≤ nf)) = 1 := by
            rw [olab_t m1, m2]
            rfl
          omega
        · skip
          exact agn hw hw9 (hr.trans hr9.symm) (rrm ⟨mnf, mlc, mlab, mquo, mspe, mnam, msiz, va_up_le mcnt (Nat.zero_le _), mlis⟩ (hC.upCnt (Nat.zero_le _)) hl hqu hsp hfi hls he.up0)
        · skip
          exfalso
          have hkm : relK (olab has lab S).isSome (lisN lis lc S L T).isSome (findN nam nf (16 * L + q)).isSome (fitN (usesN spe nam gif siz giv nf T) (((findN nam nf (16 * T + q)).map (countN gif siz giv)).getD 0) (((findN nam nf (16 * L + q)).map siz).getD 0) (quo T)) (findN nam nf (16 * T + q)).isSome (decide (200 ≤ nf)) = 3 := by
            have hfit : (fitN (usesN spe nam gif siz giv nf T) (((findN nam nf (16 * T + q)).map (countN gif siz giv)).getD 0) (((findN nam nf (16 * L + q)).map siz).getD 0) (quo T)) = false := by rw [m3]; exact m4
            rw [hfit, olab_t m1, m2, m3]
            rfl
          omega
        · skip
          exfalso
          have hkm : relK (olab has lab S).isSome (lisN lis lc S L T).isSome (findN nam nf (16 * L + q)).isSome (fitN (usesN spe nam gif siz giv nf T) (((findN nam nf (16 * T + q)).map (countN gif siz giv)).getD 0) (((findN nam nf (16 * L + q)).map siz).getD 0) (quo T)) (findN nam nf (16 * T + q)).isSome (decide (200 ≤ nf)) = 4 := by
            have hfit : (fitN (usesN spe nam gif siz giv nf T) (((findN nam nf (16 * T + q)).map (countN gif siz giv)).getD 0) (((findN nam nf (16 * L + q)).map siz).getD 0) (quo T)) = true := by rw [m3]; exact m4
            rw [hfit, olab_t m1, m2, m3]
            rw [m5, decide_eq_true (show 200 ≤ nf by omega)]
            rfl
          omega
        · skip
          exfalso
          have hkm : relK (olab has lab S).isSome (lisN lis lc S L T).isSome (findN nam nf (16 * L + q)).isSome (fitN (usesN spe nam gif siz giv nf T) (((findN nam nf (16 * T + q)).map (countN gif siz giv)).getD 0) (((findN nam nf (16 * L + q)).map siz).getD 0) (quo T)) (findN nam nf (16 * T + q)).isSome (decide (200 ≤ nf)) = 5 := by
            have hfit : (fitN (usesN spe nam gif siz giv nf T) (((findN nam nf (16 * T + q)).map (countN gif siz giv)).getD 0) (((findN nam nf (16 * L + q)).map siz).getD 0) (quo T)) = true := by rw [m3]; exact m4
            rw [hfit, olab_t m1, m2, m3]
            rw [m5, decide_eq_false (show ¬ 200 ≤ nf by omega)]
            rfl
          omega
        · skip
          exfalso
          have hkm : relK (olab has lab S).isSome (lisN lis lc S L T).isSome (findN nam nf (16 * L + q)).isSome (fitN (usesN spe nam gif siz giv nf T) (((findN nam nf (16 * T + q)).map (countN gif siz giv)).getD 0) (((findN nam nf (16 * L + q)).map siz).getD 0) (quo T)) (findN nam nf (16 * T + q)).isSome (decide (200 ≤ nf)) = 6 := by
            have hfit : (fitN (usesN spe nam gif siz giv nf T) (((findN nam nf (16 * T + q)).map (countN gif siz giv)).getD 0) (((findN nam nf (16 * L + q)).map siz).getD 0) (quo T)) = true := by rw [m3]; exact m4
            rw [hfit, olab_t m1, m2, m3]
            rw [m5]
            rfl
          omega
      · skip
        have hkc : relK (labC S).isSome (isC lisC lcC ((S * 1024 + L) * 1024 + T)) (plF Fs (16 * L + q)).isSome (decide ((usF speC Fs T + (1 + (szF Fs (16 * L + q)).getD 0)) - repF Fs (16 * T + q) ≤ quoC T)) (plF Fs (16 * T + q)).isSome (decide (200 ≤ Fs.length)) = 3 := by
          have hfit : (decide ((usF speC Fs T + (1 + (szF Fs (16 * L + q)).getD 0)) - repF Fs (16 * T + q) ≤ quoC T)) = false := by rw [sz_some y3 y4]; exact y5
          rw [hfit, y1, y2, y3]
          rfl
        rcases hm with ⟨m1, hr9, hw9⟩ | ⟨m1, m2, hr9, hw9⟩ | ⟨m1, m2, m3, hr9, hw9⟩ | ⟨f, m1, m2, m3, m4, hr9, hw9⟩ | ⟨f, m1, m2, m3, m4, m5, m6, hr9, hw9⟩ | ⟨f, g, m1, m2, m3, m4, m5, m6, m7, cel1, giv1, siz1, m8, m9, hr9, hw9⟩ | ⟨f, g, m1, m2, m3, m4, m5, cel1, giv1, siz1, m8, m9, hr9, hw9⟩
        · skip
          exfalso
          have hkm : relK (olab has lab S).isSome (lisN lis lc S L T).isSome (findN nam nf (16 * L + q)).isSome (fitN (usesN spe nam gif siz giv nf T) (((findN nam nf (16 * T + q)).map (countN gif siz giv)).getD 0) (((findN nam nf (16 * L + q)).map siz).getD 0) (quo T)) (findN nam nf (16 * T + q)).isSome (decide (200 ≤ nf)) = 0 := by
            rw [m1]
            rfl
          omega
        · skip
          exfalso
          have hkm : relK (olab has lab S).isSome (lisN lis lc S L T).isSome (findN nam nf (16 * L + q)).isSome (fitN (usesN spe nam gif siz giv nf T) (((findN nam nf (16 * T + q)).map (countN gif siz giv)).getD 0) (((findN nam nf (16 * L + q)).map siz).getD 0) (quo T)) (findN nam nf (16 * T + q)).isSome (decide (200 ≤ nf)) = 1 := by
            rw [olab_t m1, m2]
            rfl
          omega
        · skip
          exfalso
          have hkm : relK (olab has lab S).isSome (lisN lis lc S L T).isSome (findN nam nf (16 * L + q)).isSome (fitN (usesN spe nam gif siz giv nf T) (((findN nam nf (16 * T + q)).map (countN gif siz giv)).getD 0) (((findN nam nf (16 * L + q)).map siz).getD 0) (quo T)) (findN nam nf (16 * T + q)).isSome (decide (200 ≤ nf)) = 2 := by
            rw [olab_t m1, m2, m3]
            rfl
          omega
        · skip
          exact agn hw hw9 (hr.trans hr9.symm) (rrm ⟨mnf, mlc, mlab, mquo, mspe, mnam, msiz, va_up_le mcnt (Nat.zero_le _), mlis⟩ (hC.upCnt (Nat.zero_le _)) hl hqu hsp hfi hls he.up0)
        · skip
          exfalso
          have hkm : relK (olab has lab S).isSome (lisN lis lc S L T).isSome (findN nam nf (16 * L + q)).isSome (fitN (usesN spe nam gif siz giv nf T) (((findN nam nf (16 * T + q)).map (countN gif siz giv)).getD 0) (((findN nam nf (16 * L + q)).map siz).getD 0) (quo T)) (findN nam nf (16 * T + q)).isSome (decide (200 ≤ nf)) = 4 := by
            have hfit : (fitN (usesN spe nam gif siz giv nf T) (((findN nam nf (16 * T + q)).map (countN gif siz giv)).getD 0) (((findN nam nf (16 * L + q)).map siz).getD 0) (quo T)) = true := by rw [m3]; exact m4
            rw [hfit, olab_t m1, m2, m3]
            rw [m5, decide_eq_true (show 200 ≤ nf by omega)]
            rfl
          omega
        · skip
          exfalso
          have hkm : relK (olab has lab S).isSome (lisN lis lc S L T).isSome (findN nam nf (16 * L + q)).isSome (fitN (usesN spe nam gif siz giv nf T) (((findN nam nf (16 * T + q)).map (countN gif siz giv)).getD 0) (((findN nam nf (16 * L + q)).map siz).getD 0) (quo T)) (findN nam nf (16 * T + q)).isSome (decide (200 ≤ nf)) = 5 := by
            have hfit : (fitN (usesN spe nam gif siz giv nf T) (((findN nam nf (16 * T + q)).map (countN gif siz giv)).getD 0) (((findN nam nf (16 * L + q)).map siz).getD 0) (quo T)) = true := by rw [m3]; exact m4
            rw [hfit, olab_t m1, m2, m3]
            rw [m5, decide_eq_false (show ¬ 200 ≤ nf by omega)]
            rfl
          omega
        · skip
          exfalso
          have hkm : relK (olab has lab S).isSome (lisN lis lc S L T).isSome (findN nam nf (16 * L + q)).isSome (fitN (usesN spe nam gif siz giv nf T) (((findN nam nf (16 * T + q)).map (countN gif siz giv)).getD 0) (((findN nam nf (16 * L + q)).map siz).getD 0) (quo T)) (findN nam nf (16 * T + q)).isSome (decide (200 ≤ nf)) = 6 := by
            have hfit : (fitN (usesN spe nam gif siz giv nf T) (((findN nam nf (16 * T + q)).map (countN gif siz giv)).getD 0) (((findN nam nf (16 * L + q)).map siz).getD 0) (quo T)) = true := by rw [m3]; exact m4
            rw [hfit, olab_t m1, m2, m3]
            rw [m5]
            rfl
          omega
      · skip
        have hkc : relK (labC S).isSome (isC lisC lcC ((S * 1024 + L) * 1024 + T)) (plF Fs (16 * L + q)).isSome (decide ((usF speC Fs T + (1 + (szF Fs (16 * L + q)).getD 0)) - repF Fs (16 * T + q) ≤ quoC T)) (plF Fs (16 * T + q)).isSome (decide (200 ≤ Fs.length)) = 5 := by
          have hfit : (decide ((usF speC Fs T + (1 + (szF Fs (16 * L + q)).getD 0)) - repF Fs (16 * T + q) ≤ quoC T)) = true := by rw [sz_some y3 y4]; exact y5
          rw [hfit, y1, y2, y3]
          rw [y6, decide_eq_false (Nat.not_le.mpr y7)]
          rfl
        rcases hm with ⟨m1, hr9, hw9⟩ | ⟨m1, m2, hr9, hw9⟩ | ⟨m1, m2, m3, hr9, hw9⟩ | ⟨f, m1, m2, m3, m4, hr9, hw9⟩ | ⟨f, m1, m2, m3, m4, m5, m6, hr9, hw9⟩ | ⟨f, g, m1, m2, m3, m4, m5, m6, m7, cel1, giv1, siz1, m8, m9, hr9, hw9⟩ | ⟨f, g, m1, m2, m3, m4, m5, cel1, giv1, siz1, m8, m9, hr9, hw9⟩
        · skip
          exfalso
          have hkm : relK (olab has lab S).isSome (lisN lis lc S L T).isSome (findN nam nf (16 * L + q)).isSome (fitN (usesN spe nam gif siz giv nf T) (((findN nam nf (16 * T + q)).map (countN gif siz giv)).getD 0) (((findN nam nf (16 * L + q)).map siz).getD 0) (quo T)) (findN nam nf (16 * T + q)).isSome (decide (200 ≤ nf)) = 0 := by
            rw [m1]
            rfl
          omega
        · skip
          exfalso
          have hkm : relK (olab has lab S).isSome (lisN lis lc S L T).isSome (findN nam nf (16 * L + q)).isSome (fitN (usesN spe nam gif siz giv nf T) (((findN nam nf (16 * T + q)).map (countN gif siz giv)).getD 0) (((findN nam nf (16 * L + q)).map siz).getD 0) (quo T)) (findN nam nf (16 * T + q)).isSome (decide (200 ≤ nf)) = 1 := by
            rw [olab_t m1, m2]
            rfl
          omega
        · skip
          exfalso
          have hkm : relK (olab has lab S).isSome (lisN lis lc S L T).isSome (findN nam nf (16 * L + q)).isSome (fitN (usesN spe nam gif siz giv nf T) (((findN nam nf (16 * T + q)).map (countN gif siz giv)).getD 0) (((findN nam nf (16 * L + q)).map siz).getD 0) (quo T)) (findN nam nf (16 * T + q)).isSome (decide (200 ≤ nf)) = 2 := by
            rw [olab_t m1, m2, m3]
            rfl
          omega
        · skip
          exfalso
          have hkm : relK (olab has lab S).isSome (lisN lis lc S L T).isSome (findN nam nf (16 * L + q)).isSome (fitN (usesN spe nam gif siz giv nf T) (((findN nam nf (16 * T + q)).map (countN gif siz giv)).getD 0) (((findN nam nf (16 * L + q)).map siz).getD 0) (quo T)) (findN nam nf (16 * T + q)).isSome (decide (200 ≤ nf)) = 3 := by
            have hfit : (fitN (usesN spe nam gif siz giv nf T) (((findN nam nf (16 * T + q)).map (countN gif siz giv)).getD 0) (((findN nam nf (16 * L + q)).map siz).getD 0) (quo T)) = false := by rw [m3]; exact m4
            rw [hfit, olab_t m1, m2, m3]
            rfl
          omega
        · skip
          exfalso
          have hkm : relK (olab has lab S).isSome (lisN lis lc S L T).isSome (findN nam nf (16 * L + q)).isSome (fitN (usesN spe nam gif siz giv nf T) (((findN nam nf (16 * T + q)).map (countN gif siz giv)).getD 0) (((findN nam nf (16 * L + q)).map siz).getD 0) (quo T)) (findN nam nf (16 * T + q)).isSome (decide (200 ≤ nf)) = 4 := by
            have hfit : (fitN (usesN spe nam gif siz giv nf T) (((findN nam nf (16 * T + q)).map (countN gif siz giv)).getD 0) (((findN nam nf (16 * L + q)).map siz).getD 0) (quo T)) = true := by rw [m3]; exact m4
            rw [hfit, olab_t m1, m2, m3]
            rw [m5, decide_eq_true (show 200 ≤ nf by omega)]
            rfl
          omega
        · skip
          subst m7
          obtain ⟨a1, a2, a3⟩ := hfi.at m3 y3 y4
          obtain ⟨b1, b2, b3, b4, b5, b6⟩ := mA_inv a2
          obtain ⟨⟨r1, r2⟩, ⟨r3, r4⟩, ⟨r5, r6⟩⟩ := m8
          rw [up_up] at hw9
          rw [b4] at r1 r3 r5
          have hct := (hC.flP y4).2
          have hfn := hfi.new (q1 := q1) (q2 := q2) (x := -1) (g := false) (ce := fun _ => 0) (gv := fun _ => false) hins y6
          have hfs := hfn.set (gif' := va_up gif g false) (siz' := siz1) (cel' := cel1) (giv' := giv1) (f := g) (i := pl) (F' := (q1, q2, (16 * T + q), -1, va_cpy ce1 (fun _ => 0) 0 0 ct1, ct1, false, fun _ => false)) (by omega) (ins_new hins.1) (mA_cA (va_up_self _ _ _) (va_up_self _ _ _) upd_self (va_up_self _ _ _) (fun i hi => absurd hi (Nat.not_lt_zero _)) (fun i hi => absurd hi (Nat.not_lt_zero _))) rfl (fun j hj hjf => mA_eq rfl rfl rfl ((r2 j hjf).trans (va_up_ne _ _ hjf).symm) (fun t ht => r4 _ (by rw [va_up_ne _ _ hjf] at ht; have := msiz j; omega)) (fun t ht => r6 _ (by rw [va_up_ne _ _ hjf] at ht; have := msiz j; omega))) (mA_cA (va_up_self _ _ _) (va_up_self _ _ _) upd_self r1 (fun t ht => by rw [cpy_at ht, r3 t ht]; exact b5 t ht) (fun t ht => r5 t ht))
          rw [ins_set hins.1] at hfs
          exact agn hw hw9 (hr.trans hr9.symm) (rrm ⟨(by omega), mlc, mlab, mquo, mspe, va_up_lt mnam (by omega), m9, va_up_le mcnt (Nat.zero_le _), mlis⟩ ((hC.ins hins.1 y7 ⟨(by show 16 * T + q < 16384; omega), hct⟩ hek).upCnt (Nat.zero_le _)) hl hqu hsp hfs hls he.up0)
        · skip
          exfalso
          have hkm : relK (olab has lab S).isSome (lisN lis lc S L T).isSome (findN nam nf (16 * L + q)).isSome (fitN (usesN spe nam gif siz giv nf T) (((findN nam nf (16 * T + q)).map (countN gif siz giv)).getD 0) (((findN nam nf (16 * L + q)).map siz).getD 0) (quo T)) (findN nam nf (16 * T + q)).isSome (decide (200 ≤ nf)) = 6 := by
            have hfit : (fitN (usesN spe nam gif siz giv nf T) (((findN nam nf (16 * T + q)).map (countN gif siz giv)).getD 0) (((findN nam nf (16 * L + q)).map siz).getD 0) (quo T)) = true := by rw [m3]; exact m4
            rw [hfit, olab_t m1, m2, m3]
            rw [m5]
            rfl
          omega
      · skip
        have hkc : relK (labC S).isSome (isC lisC lcC ((S * 1024 + L) * 1024 + T)) (plF Fs (16 * L + q)).isSome (decide ((usF speC Fs T + (1 + (szF Fs (16 * L + q)).getD 0)) - repF Fs (16 * T + q) ≤ quoC T)) (plF Fs (16 * T + q)).isSome (decide (200 ≤ Fs.length)) = 6 := by
          have hfit : (decide ((usF speC Fs T + (1 + (szF Fs (16 * L + q)).getD 0)) - repF Fs (16 * T + q) ≤ quoC T)) = true := by rw [sz_some y3 y4]; exact y5
          rw [hfit, y1, y2, y3]
          rw [y6]
          rfl
        rcases hm with ⟨m1, hr9, hw9⟩ | ⟨m1, m2, hr9, hw9⟩ | ⟨m1, m2, m3, hr9, hw9⟩ | ⟨f, m1, m2, m3, m4, hr9, hw9⟩ | ⟨f, m1, m2, m3, m4, m5, m6, hr9, hw9⟩ | ⟨f, g, m1, m2, m3, m4, m5, m6, m7, cel1, giv1, siz1, m8, m9, hr9, hw9⟩ | ⟨f, g, m1, m2, m3, m4, m5, cel1, giv1, siz1, m8, m9, hr9, hw9⟩
        · skip
          exfalso
          have hkm : relK (olab has lab S).isSome (lisN lis lc S L T).isSome (findN nam nf (16 * L + q)).isSome (fitN (usesN spe nam gif siz giv nf T) (((findN nam nf (16 * T + q)).map (countN gif siz giv)).getD 0) (((findN nam nf (16 * L + q)).map siz).getD 0) (quo T)) (findN nam nf (16 * T + q)).isSome (decide (200 ≤ nf)) = 0 := by
            rw [m1]
            rfl
          omega
        · skip
          exfalso
          have hkm : relK (olab has lab S).isSome (lisN lis lc S L T).isSome (findN nam nf (16 * L + q)).isSome (fitN (usesN spe nam gif siz giv nf T) (((findN nam nf (16 * T + q)).map (countN gif siz giv)).getD 0) (((findN nam nf (16 * L + q)).map siz).getD 0) (quo T)) (findN nam nf (16 * T + q)).isSome (decide (200 ≤ nf)) = 1 := by
            rw [olab_t m1, m2]
            rfl
          omega
        · skip
          exfalso
          have hkm : relK (olab has lab S).isSome (lisN lis lc S L T).isSome (findN nam nf (16 * L + q)).isSome (fitN (usesN spe nam gif siz giv nf T) (((findN nam nf (16 * T + q)).map (countN gif siz giv)).getD 0) (((findN nam nf (16 * L + q)).map siz).getD 0) (quo T)) (findN nam nf (16 * T + q)).isSome (decide (200 ≤ nf)) = 2 := by
            rw [olab_t m1, m2, m3]
            rfl
          omega
        · skip
          exfalso
          have hkm : relK (olab has lab S).isSome (lisN lis lc S L T).isSome (findN nam nf (16 * L + q)).isSome (fitN (usesN spe nam gif siz giv nf T) (((findN nam nf (16 * T + q)).map (countN gif siz giv)).getD 0) (((findN nam nf (16 * L + q)).map siz).getD 0) (quo T)) (findN nam nf (16 * T + q)).isSome (decide (200 ≤ nf)) = 3 := by
            have hfit : (fitN (usesN spe nam gif siz giv nf T) (((findN nam nf (16 * T + q)).map (countN gif siz giv)).getD 0) (((findN nam nf (16 * L + q)).map siz).getD 0) (quo T)) = false := by rw [m3]; exact m4
            rw [hfit, olab_t m1, m2, m3]
            rfl
          omega
        · skip
          exfalso
          have hkm : relK (olab has lab S).isSome (lisN lis lc S L T).isSome (findN nam nf (16 * L + q)).isSome (fitN (usesN spe nam gif siz giv nf T) (((findN nam nf (16 * T + q)).map (countN gif siz giv)).getD 0) (((findN nam nf (16 * L + q)).map siz).getD 0) (quo T)) (findN nam nf (16 * T + q)).isSome (decide (200 ≤ nf)) = 4 := by
            have hfit : (fitN (usesN spe nam gif siz giv nf T) (((findN nam nf (16 * T + q)).map (countN gif siz giv)).getD 0) (((findN nam nf (16 * L + q)).map siz).getD 0) (quo T)) = true := by rw [m3]; exact m4
            rw [hfit, olab_t m1, m2, m3]
            rw [m5, decide_eq_true (show 200 ≤ nf by omega)]
            rfl
          omega
        · skip
          exfalso
          have hkm : relK (olab has lab S).isSome (lisN lis lc S L T).isSome (findN nam nf (16 * L + q)).isSome (fitN (usesN spe nam gif siz giv nf T) (((findN nam nf (16 * T + q)).map (countN gif siz giv)).getD 0) (((findN nam nf (16 * L + q)).map siz).getD 0) (quo T)) (findN nam nf (16 * T + q)).isSome (decide (200 ≤ nf)) = 5 := by
            have hfit : (fitN (usesN spe nam gif siz giv nf T) (((findN nam nf (16 * T + q)).map (countN gif siz giv)).getD 0) (((findN nam nf (16 * L + q)).map siz).getD 0) (quo T)) = true := by rw [m3]; exact m4
            rw [hfit, olab_t m1, m2, m3]
            rw [m5, decide_eq_false (show ¬ 200 ≤ nf by omega)]
            rfl
          omega
        · skip
          obtain ⟨a1, a2, a3⟩ := hfi.at m3 y3 y4
          obtain ⟨b1, b2, b3, b4, b5, b6⟩ := mA_inv a2
          obtain ⟨c1, c2, c3⟩ := hfi.at m5 y6 y7
          obtain ⟨d1, d2, d3, d4, d5, d6⟩ := mA_inv c2
          obtain ⟨⟨r1, r2⟩, ⟨r3, r4⟩, ⟨r5, r6⟩⟩ := m8
          rw [b4] at r1 r3 r5
          have hct := (hC.flP y4).2
          have hkk := (hC.flP y7).1
          have hfs := hfi.set (gif' := va_up gif g false) (siz' := siz1) (cel' := cel1) (giv' := giv1) (f := g) (i := i2) (F' := (ob2, ar2, ky2, fo2, va_cpy ce1 ce2 0 0 ct1, ct1, false, fun _ => false)) c1 y7 c2 rfl (fun j hj hjf => mA_eq rfl (va_up_ne _ _ hjf) rfl (r2 j hjf) (fun t ht => r4 _ (by have := msiz j; omega)) (fun t ht => r6 _ (by have := msiz j; omega))) (mA_cA d1 (va_up_self _ _ _) d3 r1 (fun t ht => by rw [cpy_at ht, r3 t ht]; exact b5 t ht) (fun t ht => r5 t ht))
          exact agn hw hw9 (hr.trans hr9.symm) (rrm ⟨mnf, mlc, mlab, mquo, mspe, mnam, m9, va_up_le mcnt (Nat.zero_le _), mlis⟩ ((hC.upF hkk hct).upCnt (Nat.zero_le _)) hl hqu hsp hfs hls he.up0)
  · unfold XC_release at hx
    rcases hx with ⟨hiv, rfl, rfl⟩ | ⟨rfl, rfl, hx⟩
    · skip
      rcases hm with ⟨-, -, hw⟩ | ⟨S9, L9, q9, T9, e09, hS9, e19, hL9, e29, hq9, e39, hT9, hm⟩
      · exact agx rfl hw (Or.inl ⟨rfl, rfl⟩) hRR
      · exfalso
        subst e09 e19 e29 e39
        simp [inB_nI hS9 (show 16 < 2 ^ 31 by omega), inB_nI hL9 (show 1024 < 2 ^ 31 by omega), inB_nI hq9 (show 16 < 2 ^ 31 by omega), inB_nI hT9 (show 1024 < 2 ^ 31 by omega)] at hiv
    · skip
      obtain ⟨S, L, q, T, e0, hS, e1, hL, e2, hq, e3, hT, hc⟩ := hx
      subst e0 e1 e2 e3
      rcases hm with ⟨hiv, -, -⟩ | ⟨S9, L9, q9, T9, e09, hS9, e19, hL9, e29, hq9, e39, hT9, hm⟩
      · exfalso
        simp [inB_nI hS (show 16 < 2 ^ 31 by omega), inB_nI hL (show 1024 < 2 ^ 31 by omega), inB_nI hq (show 16 < 2 ^ 31 by omega), inB_nI hT (show 1024 < 2 ^ 31 by omega)] at hiv
      · skip
        obtain rfl := c_eq0 (show S < 2 ^ 31 by omega) (show S9 < 2 ^ 31 by omega) e09
        obtain rfl := c_eq0 (show L < 2 ^ 31 by omega) (show L9 < 2 ^ 31 by omega) e19
        obtain rfl := c_eq0 (show q < 2 ^ 31 by omega) (show q9 < 2 ^ 31 by omega) e29
        obtain rfl := c_eq0 (show T < 2 ^ 31 by omega) (show T9 < 2 ^ 31 by omega) e39
        have hlS := hl S hS
        have hlen := hfi.len
        have hK : relK (olab has lab S).isSome (lisN lis lc S L T).isSome (findN nam nf (16 * L + q)).isSome (fitN (usesN spe nam gif siz giv nf T) (((findN nam nf (16 * T + q)).map (countN gif siz giv)).getD 0) (((findN nam nf (16 * L + q)).map siz).getD 0) (quo T)) (findN nam nf (16 * T + q)).isSome (decide (200 ≤ nf)) = relK (labC S).isSome (isC lisC lcC ((S * 1024 + L) * 1024 + T)) (plF Fs (16 * L + q)).isSome (decide ((usF speC Fs T + (1 + (szF Fs (16 * L + q)).getD 0)) - repF Fs (16 * T + q) ≤ quoC T)) (plF Fs (16 * T + q)).isSome (decide (200 ≤ Fs.length)) := by
          rw [hlS, hls.is mlis hL hT, hfi.is, hfi.is, hfi.us (hsp T hT), hfi.rep, hfi.sz, hqu T hT, fit_eq (rep_le hq), hlen]
        obtain ⟨i1, ob1, ar1, ky1, fo1, ce1, ct1, gi1, gv1, y1, y2, y3, y4, y5, y6, y7⟩ := hc
        have hkc : relK (labC S).isSome (isC lisC lcC ((S * 1024 + L) * 1024 + T)) (plF Fs (16 * L + q)).isSome (decide ((usF speC Fs T + (1 + (szF Fs (16 * L + q)).getD 0)) - repF Fs (16 * T + q) ≤ quoC T)) (plF Fs (16 * T + q)).isSome (decide (200 ≤ Fs.length)) = 4 := by
          have hfit : (decide ((usF speC Fs T + (1 + (szF Fs (16 * L + q)).getD 0)) - repF Fs (16 * T + q) ≤ quoC T)) = true := by rw [sz_some y3 y4]; exact y5
          rw [hfit, y1, y2, y3]
          rw [y6, decide_eq_true y7]
          rfl
        rcases hm with ⟨m1, hr9, hw9⟩ | ⟨m1, m2, hr9, hw9⟩ | ⟨m1, m2, m3, hr9, hw9⟩ | ⟨f, m1, m2, m3, m4, hr9, hw9⟩ | ⟨f, m1, m2, m3, m4, m5, m6, hr9, hw9⟩ | ⟨f, g, m1, m2, m3, m4, m5, m6, m7, cel1, giv1, siz1, m8, m9, hr9, hw9⟩ | ⟨f, g, m1, m2, m3, m4, m5, cel1, giv1, siz1, m8, m9, hr9, hw9⟩
        · skip
          exfalso
          have hkm : relK (olab has lab S).isSome (lisN lis lc S L T).isSome (findN nam nf (16 * L + q)).isSome (fitN (usesN spe nam gif siz giv nf T) (((findN nam nf (16 * T + q)).map (countN gif siz giv)).getD 0) (((findN nam nf (16 * L + q)).map siz).getD 0) (quo T)) (findN nam nf (16 * T + q)).isSome (decide (200 ≤ nf)) = 0 := by
            rw [m1]
            rfl
          omega
        · skip
          exfalso
          have hkm : relK (olab has lab S).isSome (lisN lis lc S L T).isSome (findN nam nf (16 * L + q)).isSome (fitN (usesN spe nam gif siz giv nf T) (((findN nam nf (16 * T + q)).map (countN gif siz giv)).getD 0) (((findN nam nf (16 * L + q)).map siz).getD 0) (quo T)) (findN nam nf (16 * T + q)).isSome (decide (200 ≤ nf)) = 1 := by
            rw [olab_t m1, m2]
            rfl
          omega
        · skip
          exfalso
          have hkm : relK (olab has lab S).isSome (lisN lis lc S L T).isSome (findN nam nf (16 * L + q)).isSome (fitN (usesN spe nam gif siz giv nf T) (((findN nam nf (16 * T + q)).map (countN gif siz giv)).getD 0) (((findN nam nf (16 * L + q)).map siz).getD 0) (quo T)) (findN nam nf (16 * T + q)).isSome (decide (200 ≤ nf)) = 2 := by
            rw [olab_t m1, m2, m3]
            rfl
          omega
        · skip
          exfalso
          have hkm : relK (olab has lab S).isSome (lisN lis lc S L T).isSome (findN nam nf (16 * L + q)).isSome (fitN (usesN spe nam gif siz giv nf T) (((findN nam nf (16 * T + q)).map (countN gif siz giv)).getD 0) (((findN nam nf (16 * L + q)).map siz).getD 0) (quo T)) (findN nam nf (16 * T + q)).isSome (decide (200 ≤ nf)) = 3 := by
            have hfit : (fitN (usesN spe nam gif siz giv nf T) (((findN nam nf (16 * T + q)).map (countN gif siz giv)).getD 0) (((findN nam nf (16 * L + q)).map siz).getD 0) (quo T)) = false := by rw [m3]; exact m4
            rw [hfit, olab_t m1, m2, m3]
            rfl
          omega
        · skip
          exact agx rfl hw9 (Or.inr ⟨rfl, rfl⟩) hRR
        · skip
          exfalso
          have hkm : relK (olab has lab S).isSome (lisN lis lc S L T).isSome (findN nam nf (16 * L + q)).isSome (fitN (usesN spe nam gif siz giv nf T) (((findN nam nf (16 * T + q)).map (countN gif siz giv)).getD 0) (((findN nam nf (16 * L + q)).map siz).getD 0) (quo T)) (findN nam nf (16 * T + q)).isSome (decide (200 ≤ nf)) = 5 := by
            have hfit : (fitN (usesN spe nam gif siz giv nf T) (((findN nam nf (16 * T + q)).map (countN gif siz giv)).getD 0) (((findN nam nf (16 * L + q)).map siz).getD 0) (quo T)) = true := by rw [m3]; exact m4
            rw [hfit, olab_t m1, m2, m3]
            rw [m5, decide_eq_false (show ¬ 200 ≤ nf by omega)]
            rfl
          omega
        · skip
          exfalso
          have hkm : relK (olab has lab S).isSome (lisN lis lc S L T).isSome (findN nam nf (16 * L + q)).isSome (fitN (usesN spe nam gif siz giv nf T) (((findN nam nf (16 * T + q)).map (countN gif siz giv)).getD 0) (((findN nam nf (16 * L + q)).map siz).getD 0) (quo T)) (findN nam nf (16 * T + q)).isSome (decide (200 ≤ nf)) = 6 := by
            have hfit : (fitN (usesN spe nam gif siz giv nf T) (((findN nam nf (16 * T + q)).map (countN gif siz giv)).getD 0) (((findN nam nf (16 * L + q)).map siz).getD 0) (quo T)) = true := by rw [m3]; exact m4
            rw [hfit, olab_t m1, m2, m3]
            rw [m5]
            rfl
          omega
set_option maxHeartbeats 4000000 in
theorem sim_told {cy : Nat → ClassId} {zs am ac : Nat → Nat} {lab : Nat → Nat} {has : Nat → Bool} {quo spe nam : Nat → Nat} {gif : Nat → Bool} {fol : Nat → Int32} {siz : Nat → Nat} {cel : Nat → Int32} {giv : Nat → Bool} {nf : Nat} {lis : Nat → Nat} {lc : Nat} {see : Nat → Int32} {cnt : Nat → Nat} {labC : Nat → Option Nat} {quoC speC : Nat → Nat} {mdC : Int32} {edC : Option (Nat × Nat)} {lisC : Nat → Nat} {lcC : Nat} {seeC : Nat → Nat → Int32} {cntC : Nat → Nat} {Fs : List FT} (h : RR lab has quo spe nam gif fol siz cel giv nf lis lc see cnt labC quoC speC edC lisC lcC seeC cntC Fs) {p0 : Int32} {p1 : Int32} {r' : Int32} {w' : va_W} (hm : PM_told cy am lab has quo spe nam gif fol siz cel giv nf lis lc see cnt p0 p1 r' w') : (∀ r w, PC_told cy zs ac labC quoC speC mdC edC lisC lcC seeC cntC Fs p0 p1 r w → AGN cy am ac (zs 0) r w r' w') ∧ (∀ E w, XC_told cy zs ac labC quoC speC mdC edC lisC lcC seeC cntC Fs p0 p1 E w → AGX cy am ac (zs 0) E w w') := by
  have hRR := h
  obtain ⟨hM, hC, hl, hqu, hsp, hfi, hls, he⟩ := h
  unfold PM_told at hm
  refine ⟨fun r w hc => ?_, fun E w hx => ?_⟩
  · unfold PC_told at hc
    obtain ⟨L, e0, hL, k, e1, hk, hr, hw⟩ := hc
    subst e0 e1
    rcases hm with ⟨hiv, -, -⟩ | ⟨L9, k9, e09, hL9, e19, hk9, hr9, hw9⟩
    · exfalso
      simp [inB_nI hL (show 1024 < 2 ^ 31 by omega), inB_nI hk (show 4 < 2 ^ 31 by omega)] at hiv
    · obtain rfl := c_eq0 (show L < 2 ^ 31 by omega) (show L9 < 2 ^ 31 by omega) e09
      obtain rfl := c_eq0 (show k < 2 ^ 31 by omega) (show k9 < 2 ^ 31 by omega) e19
      exact agn hw hw9 (by rw [hr, hr9, hfi.us (hsp L hL), hsp L hL, hqu L hL, hfi.cn]) hRR
  · unfold XC_told at hx
    obtain ⟨hiv, rfl, rfl⟩ := hx
    rcases hm with ⟨-, -, hw⟩ | ⟨L9, k9, e09, hL9, e19, hk9, hr9, hw9⟩
    · exact agx rfl hw (Or.inl ⟨rfl, rfl⟩) hRR
    · exfalso
      subst e09 e19
      simp [inB_nI hL9 (show 1024 < 2 ^ 31 by omega), inB_nI hk9 (show 4 < 2 ^ 31 by omega)] at hiv
