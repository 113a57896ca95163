theorem lw_small : ∀ L, L < 4 → ∀ i, i < 4 → nI L - nI 4 < nI i := by decide
theorem lw_gt {L ii : Nat} (h2 : ii ≤ L) (hL : L ≤ 256) : (nI L - nI 4 < nI ii) ↔ L < ii + 4 := by
  by_cases h : 4 ≤ L
  · rw [pk_sub h, nI_ltI (by omega) (by omega)]; omega
  · exact ⟨fun _ => by omega, fun _ => lw_small L (by omega) ii (by omega)⟩

set_option maxHeartbeats 4000000 in
set_option maxRecDepth 100000 in
theorem lw_loop {G : Gm} {X : Cx} {nmv : String} {o0 x0 x1 r0 u0 u1 u2 u3 u4 t0 t1 t2 t3 t4 p0 p1 i0 q0 q1 s0 s1 b0 b1 b2 b3 d0 d1 d2 d3 h0 h1 k0 e0 e1 e2 e3 e4 e5 e6 e7 e8 e9 ea eb : Nat} {b L : Nat} {xs : Nat → Int32} (F : Fx G X ⟨RL, nmv, "([I)Z"⟩ cL_law 4 (some .boolean) room_1) (hSc : Sc X b L xs) (hL : L ≤ 256) (hend : ∀ lv w, Jw G X 4 44 3528 798 lv [.int 1] w) : ∀ (fu ii : Nat) (w : va_W), L + 1 ≤ ii + fu → ii ≤ L → LInv G o0 x0 x1 r0 u0 u1 u2 u3 u4 t0 t1 t2 t3 t4 p0 p1 i0 q0 q1 s0 s1 b0 b1 b2 b3 d0 d1 d2 d3 h0 h1 k0 e0 e1 e2 e3 e4 e5 e6 e7 e8 e9 ea eb w → Jw G X 4 44 3528 18 [(3, .int (nI ii)), (2, .ref e0), (1, .ref o0), (0, .ref b)] [] w := by
  intro fu
  induction fu with
  | zero => intro ii w hf1 hf2; exact absurd hf1 (by omega)
  | succ fu ih =>
    intro ii w hf1 hf2 hw
    refine j_iload_n (q := 19) (i0 := 0) F rfl dL_law_18 rfl ?_
    refine j_aload_n (q := 20) (i0 := 3) F rfl dL_law_19 rfl ?_
    refine j_slen (q := 21) F hSc dL_law_20 rfl ?_
    refine j_iconst (q := 22) (v := nI 4) F (by decide) dL_law_21 rfl ?_
    refine j_isub (q := 23) (v := nI L - nI 4) F (rfl) dL_law_22 rfl ?_
    refine j_icmp_gt (q := 26) (t := 797) F (Pp := L < ii + 4) (lw_gt hf2 hL) dL_law_23 rfl rfl (fun c1 => ?_) (fun c1 => ?_)
    · refine j_iconst (q := 798) (v := 1) F (by decide) dL_law_797 rfl ?_
      exact hend _ _
    have hi : ii + 4 ≤ L := by omega
    refine j_aload_n (q := 27) (i0 := 3) F rfl dL_law_26 rfl ?_
    refine j_iload_n (q := 28) (i0 := 0) F rfl dL_law_27 rfl ?_
    refine j_sld (q := 29) (i := ii) F hSc rfl (by omega) hL dL_law_28 rfl ?_
    refine j_bipush (q := 31) (v := nI 31) F (by decide) dL_law_29 rfl ?_
    obtain ⟨j, hj, ej⟩ := pk_andE (xs ii) (m := nI 31) 5 (by decide)
    refine j_iand (q := 32) (v := nI j) F (ej) dL_law_31 rfl ?_
    have KK : ∀ w2, LInv G o0 x0 x1 r0 u0 u1 u2 u3 u4 t0 t1 t2 t3 t4 p0 p1 i0 q0 q1 s0 s1 b0 b1 b2 b3 d0 d1 d2 d3 h0 h1 k0 e0 e1 e2 e3 e4 e5 e6 e7 e8 e9 ea eb w2 → Jw G X 4 44 3528 791 [(3, .int (nI ii)), (2, .ref e0), (1, .ref o0), (0, .ref b)] [] w2 := by
      intro w2 h
      refine j_iinc (q := 794) (i0 := 0) (v := nI (ii + 4)) (lv' := [(3, .int (nI (ii + 4))), (2, .ref e0), (1, .ref o0), (0, .ref b)]) F dL_law_791 rfl (nI_add _ _) (by decide) rfl rfl ?_
      refine j_goto (t := 18) F dL_law_794 rfl ?_
      exact ih (ii + 4) w2 (by omega) hi h
    refine hw _ (fun ln n m be sd tu fo kn ki be0 sd0 tu0 fo0 kn0 be1 sd1 tu1 fo1 kn1 pl re so n3 m3 s3 t lz lf ld lg lz4 lf4 ld4 lg4 sz mn aa bg tk td rl rs rd tl rn bt pa pa0 pa1 ru3 la3 lb3 ro3 ru la lb ro ne ne4 fl rr ra rb ruM laM lbM neM kp md se md4 se4 wh va le tr e hx hT hro hm1 hm2 hm3 hP hki hI0 hI1 hly hly4 htd hk0 hk1 hKI hKJ => ?_)
    subst e
    rcases (show j = 0 ∨ j = 1 ∨ j = 2 ∨ j = 3 ∨ j = 4 ∨ j = 5 ∨ j = 6 ∨ j = 7 ∨ j = 8 ∨ j = 9 ∨ j = 10 ∨ j = 11 ∨ j = 12 ∨ j = 13 ∨ j = 14 ∨ j = 15 ∨ j = 16 ∨ j = 17 ∨ j = 18 ∨ j = 19 ∨ j = 20 ∨ j = 21 ∨ j = 22 ∨ j = 23 ∨ j = 24 ∨ j = 25 ∨ 26 ≤ j by omega) with rfl | rfl | rfl | rfl | rfl | rfl | rfl | rfl | rfl | rfl | rfl | rfl | rfl | rfl | rfl | rfl | rfl | rfl | rfl | rfl | rfl | rfl | rfl | rfl | rfl | rfl | hj2
    · refine j_tabIn (off := 120) (t := 152) F dL_law_32 (by decide) (by decide) rfl rfl ?_
      exact lw_case0 F hSc hL hi hx hT hro hm1 hm2 hm3 hP hki hI0 hI1 hly hly4 htd hk0 hk1 hKI hKJ KK
    · refine j_tabIn (off := 143) (t := 175) F dL_law_32 (by decide) (by decide) rfl rfl ?_
      exact lw_case1 F hSc hL hi hx hT hro hm1 hm2 hm3 hP hki hI0 hI1 hly hly4 htd hk0 hk1 hKI hKJ KK
    · refine j_tabIn (off := 156) (t := 188) F dL_law_32 (by decide) (by decide) rfl rfl ?_
      exact lw_case2 F hSc hL hi hx hT hro hm1 hm2 hm3 hP hki hI0 hI1 hly hly4 htd hk0 hk1 hKI hKJ KK
    · refine j_tabIn (off := 169) (t := 201) F dL_law_32 (by decide) (by decide) rfl rfl ?_
      exact lw_case3 F hSc hL hi hx hT hro hm1 hm2 hm3 hP hki hI0 hI1 hly hly4 htd hk0 hk1 hKI hKJ KK
    · refine j_tabIn (off := 202) (t := 234) F dL_law_32 (by decide) (by decide) rfl rfl ?_
      exact lw_case4 F hSc hL hi hx hT hro hm1 hm2 hm3 hP hki hI0 hI1 hly hly4 htd hk0 hk1 hKI hKJ KK
    · refine j_tabIn (off := 235) (t := 267) F dL_law_32 (by decide) (by decide) rfl rfl ?_
      exact lw_case5 F hSc hL hi hx hT hro hm1 hm2 hm3 hP hki hI0 hI1 hly hly4 htd hk0 hk1 hKI hKJ KK
    · refine j_tabIn (off := 248) (t := 280) F dL_law_32 (by decide) (by decide) rfl rfl ?_
      exact lw_case6 F hSc hL hi hx hT hro hm1 hm2 hm3 hP hki hI0 hI1 hly hly4 htd hk0 hk1 hKI hKJ KK
    · refine j_tabIn (off := 271) (t := 303) F dL_law_32 (by decide) (by decide) rfl rfl ?_
      exact lw_case7 F hSc hL hi hx hT hro hm1 hm2 hm3 hP hki hI0 hI1 hly hly4 htd hk0 hk1 hKI hKJ KK
    · refine j_tabIn (off := 304) (t := 336) F dL_law_32 (by decide) (by decide) rfl rfl ?_
      exact lw_case8 F hSc hL hi hx hT hro hm1 hm2 hm3 hP hki hI0 hI1 hly hly4 htd hk0 hk1 hKI hKJ KK
    · refine j_tabIn (off := 317) (t := 349) F dL_law_32 (by decide) (by decide) rfl rfl ?_
      exact lw_case9 F hSc hL hi hx hT hro hm1 hm2 hm3 hP hki hI0 hI1 hly hly4 htd hk0 hk1 hKI hKJ KK
    · refine j_tabIn (off := 340) (t := 372) F dL_law_32 (by decide) (by decide) rfl rfl ?_
      exact lw_case10 F hSc hL hi hx hT hro hm1 hm2 hm3 hP hki hI0 hI1 hly hly4 htd hk0 hk1 hKI hKJ KK
    · refine j_tabIn (off := 363) (t := 395) F dL_law_32 (by decide) (by decide) rfl rfl ?_
      exact lw_case11 F hSc hL hi hx hT hro hm1 hm2 hm3 hP hki hI0 hI1 hly hly4 htd hk0 hk1 hKI hKJ KK
    · refine j_tabIn (off := 386) (t := 418) F dL_law_32 (by decide) (by decide) rfl rfl ?_
      exact lw_case12 F hSc hL hi hx hT hro hm1 hm2 hm3 hP hki hI0 hI1 hly hly4 htd hk0 hk1 hKI hKJ KK
    · refine j_tabIn (off := 399) (t := 431) F dL_law_32 (by decide) (by decide) rfl rfl ?_
      exact lw_case13 F hSc hL hi hx hT hro hm1 hm2 hm3 hP hki hI0 hI1 hly hly4 htd hk0 hk1 hKI hKJ KK
    · refine j_tabIn (off := 432) (t := 464) F dL_law_32 (by decide) (by decide) rfl rfl ?_
      exact lw_case14 F hSc hL hi hx hT hro hm1 hm2 hm3 hP hki hI0 hI1 hly hly4 htd hk0 hk1 hKI hKJ KK
    · refine j_tabIn (off := 445) (t := 477) F dL_law_32 (by decide) (by decide) rfl rfl ?_
      exact lw_case15 F hSc hL hi hx hT hro hm1 hm2 hm3 hP hki hI0 hI1 hly hly4 htd hk0 hk1 hKI hKJ KK
    · refine j_tabIn (off := 488) (t := 520) F dL_law_32 (by decide) (by decide) rfl rfl ?_
      exact lw_case16 F hSc hL hi hx hT hro hm1 hm2 hm3 hP hki hI0 hI1 hly hly4 htd hk0 hk1 hKI hKJ KK
    · refine j_tabIn (off := 531) (t := 563) F dL_law_32 (by decide) (by decide) rfl rfl ?_
      exact lw_case17 F hSc hL hi hx hT hro hm1 hm2 hm3 hP hki hI0 hI1 hly hly4 htd hk0 hk1 hKI hKJ KK
    · refine j_tabIn (off := 564) (t := 596) F dL_law_32 (by decide) (by decide) rfl rfl ?_
      exact lw_case18 F hSc hL hi hx hT hro hm1 hm2 hm3 hP hki hI0 hI1 hly hly4 htd hk0 hk1 hKI hKJ KK
    · refine j_tabIn (off := 587) (t := 619) F dL_law_32 (by decide) (by decide) rfl rfl ?_
      exact lw_case19 F hSc hL hi hx hT hro hm1 hm2 hm3 hP hki hI0 hI1 hly hly4 htd hk0 hk1 hKI hKJ KK
    · refine j_tabIn (off := 610) (t := 642) F dL_law_32 (by decide) (by decide) rfl rfl ?_
      exact lw_case20 F hSc hL hi hx hT hro hm1 hm2 hm3 hP hki hI0 hI1 hly hly4 htd hk0 hk1 hKI hKJ KK
    · refine j_tabIn (off := 643) (t := 675) F dL_law_32 (by decide) (by decide) rfl rfl ?_
      exact lw_case21 F hSc hL hi hx hT hro hm1 hm2 hm3 hP hki hI0 hI1 hly hly4 htd hk0 hk1 hKI hKJ KK
    · refine j_tabIn (off := 676) (t := 708) F dL_law_32 (by decide) (by decide) rfl rfl ?_
      exact lw_case22 F hSc hL hi hx hT hro hm1 hm2 hm3 hP hki hI0 hI1 hly hly4 htd hk0 hk1 hKI hKJ KK
    · refine j_tabIn (off := 699) (t := 731) F dL_law_32 (by decide) (by decide) rfl rfl ?_
      exact lw_case23 F hSc hL hi hx hT hro hm1 hm2 hm3 hP hki hI0 hI1 hly hly4 htd hk0 hk1 hKI hKJ KK
    · refine j_tabIn (off := 722) (t := 754) F dL_law_32 (by decide) (by decide) rfl rfl ?_
      exact lw_case24 F hSc hL hi hx hT hro hm1 hm2 hm3 hP hki hI0 hI1 hly hly4 htd hk0 hk1 hKI hKJ KK
    · refine j_tabIn (off := 745) (t := 777) F dL_law_32 (by decide) (by decide) rfl rfl ?_
      exact lw_case25 F hSc hL hi hx hT hro hm1 hm2 hm3 hP hki hI0 hI1 hly hly4 htd hk0 hk1 hKI hKJ KK
    · refine j_tabOut (t := 791) F dL_law_32 (Or.inr (by rw [nI_toInt (by omega)]; omega)) rfl ?_
      exact KK _ (LInv.mk hx hT hro hm1 hm2 hm3 hP hki hI0 hI1 hly hly4 htd hk0 hk1 hKI hKJ)

