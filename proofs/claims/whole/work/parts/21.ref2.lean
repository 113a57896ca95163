theorem j_lve {G : Gm} {X : Cx} {nL k n pc : Nat} {lv lv' : List (Nat × Value)} {st : List Value} {w : va_W} (h : lv = lv') (kk : Jw G X nL k n pc lv' st w) : Jw G X nL k n pc lv st w := h ▸ kk
/-- what the reference holds behind a token -/
def MTok (bt : Nat → Nat) (ln p tk td aa : Nat) : Prop :=
  (tK bt ln p = 0 ∧ tk = 0) ∨ (tK bt ln p = 1 ∧ tk = 1 ∧ td = 108 ∧ aa = tE bt ln p) ∨ (tK bt ln p = 2 ∧ tk = 1 ∧ td = 115 ∧ aa = tE bt ln p) ∨ (tK bt ln p = 3 ∧ tk = 2 ∧ td = tV bt ln p ∧ aa = tE bt ln p) ∨ (tK bt ln p = 4 ∧ tk = 3 ∧ aa = tE bt ln p) ∨ (tK bt ln p = 5 ∧ tk = 4)
theorem MTok.tk_le {bt : Nat → Nat} {ln p tk td aa : Nat} (h : MTok bt ln p tk td aa) : tk ≤ 4 := by
  rcases h with h | h | h | h | h | h <;> omega
section RY
variable {bt : Nat → Nat} {ln p q : Nat}
theorem mt_let {tk : Nat} (hs : sk bt ln p = q) (hn : ¬ q = ln) (hL : isL (bt q)) (hv : (tk = 1 ∧ lEn bt ln q = q + 1 ∧ (bt q = 108 ∨ bt q = 115)) ∨ (tk = 4 ∧ ¬ (lEn bt ln q = q + 1 ∧ (bt q = 108 ∨ bt q = 115)))) : MTok bt ln p tk (bt q) (lEn bt ln q) := by
  have hk : tK bt ln p = if lEn bt ln q = q + 1 ∧ bt q = 108 then 1 else if lEn bt ln q = q + 1 ∧ bt q = 115 then 2 else 5 := by
    unfold tK
    rw [hs, if_neg hn, if_pos hL]
  rcases hv with ⟨h1, h2, h3 | h3⟩ | ⟨h1, h2⟩
  · rw [if_pos ⟨h2, h3⟩] at hk
    exact Or.inr (Or.inl ⟨hk, h1, h3, by rw [tE, if_neg (by omega), hs, h2]⟩)
  · rw [if_neg (fun z => by have := z.2; omega), if_pos ⟨h2, h3⟩] at hk
    exact Or.inr (Or.inr (Or.inl ⟨hk, h1, h3, by rw [tE, if_neg (by omega), hs, h2]⟩))
  · rw [if_neg (fun z => h2 ⟨z.1, Or.inl z.2⟩), if_neg (fun z => h2 ⟨z.1, Or.inr z.2⟩)] at hk
    exact Or.inr (Or.inr (Or.inr (Or.inr (Or.inr ⟨hk, h1⟩))))
theorem mt_dig {tk : Nat} (hs : sk bt ln p = q) (hn : ¬ q = ln) (hL : ¬ isL (bt q)) (hD : isD (bt q)) (hv : (tk = 2 ∧ ¬ (99 < dVl bt ln q 0 ∨ (1 < dEn bt ln q - q ∧ bt q = 48))) ∨ (tk = 4 ∧ (99 < dVl bt ln q 0 ∨ (1 < dEn bt ln q - q ∧ bt q = 48)))) : MTok bt ln p tk (dVl bt ln q 0) (dEn bt ln q) := by
  have hk : tK bt ln p = if 99 < dVl bt ln q 0 ∨ (1 < dEn bt ln q - q ∧ bt q = 48) then 5 else 3 := by
    unfold tK
    rw [hs, if_neg hn, if_neg hL, if_pos hD]
  rcases hv with ⟨h1, h3⟩ | ⟨h1, h2⟩
  · rw [if_neg h3] at hk
    exact Or.inr (Or.inr (Or.inr (Or.inl ⟨hk, h1, by rw [tV, hs], by rw [tE, if_pos hk, hs]⟩)))
  · rw [if_pos h2] at hk
    exact Or.inr (Or.inr (Or.inr (Or.inr (Or.inr ⟨hk, h1⟩))))
theorem mt_sem {td : Nat} (hs : sk bt ln p = q) (hn : ¬ q = ln) (hL : ¬ isL (bt q)) (hD : ¬ isD (bt q)) (h : bt q = 59) : MTok bt ln p 3 td (q + 1) := by
  have hk : tK bt ln p = 4 := by
    unfold tK
    rw [hs, if_neg hn, if_neg hL, if_neg hD, if_pos h]
  exact Or.inr (Or.inr (Or.inr (Or.inr (Or.inl ⟨hk, rfl, by rw [tE, if_neg (by omega), hs]⟩))))
theorem mt_bad {td aa : Nat} (hs : sk bt ln p = q) (hn : ¬ q = ln) (hL : ¬ isL (bt q)) (hD : ¬ isD (bt q)) (h : ¬ bt q = 59) : MTok bt ln p 4 td aa := by
  have hk : tK bt ln p = 5 := by
    unfold tK
    rw [hs, if_neg hn, if_neg hL, if_neg hD, if_neg h]
  exact Or.inr (Or.inr (Or.inr (Or.inr (Or.inr ⟨hk, rfl⟩))))
variable {tk td aa : Nat}
theorem mtE (h : MTok bt ln p tk td aa) : tk = 0 ↔ tK bt ln p = 0 := by
  rcases h with h | h | h | h | h | h <;> omega
theorem mtN (h : MTok bt ln p tk td aa) (e : tk = 2) : tK bt ln p = 3 ∧ td = tV bt ln p ∧ aa = tE bt ln p := by
  rcases h with h | h | h | h | h | h <;> omega
theorem mtNn (h : MTok bt ln p tk td aa) (e : ¬ tk = 2) : ¬ tK bt ln p = 3 := by
  rcases h with h | h | h | h | h | h <;> omega
theorem mtS (h : MTok bt ln p tk td aa) (e : tk = 3) : tK bt ln p = 4 ∧ aa = tE bt ln p := by
  rcases h with h | h | h | h | h | h <;> omega
theorem mtSn (h : MTok bt ln p tk td aa) (e : ¬ tk = 3) : ¬ tK bt ln p = 4 := by
  rcases h with h | h | h | h | h | h <;> omega
theorem mtl (h : MTok bt ln p tk td aa) (e : tk = 1) (hv : td = 108) : tK bt ln p = 1 ∧ aa = tE bt ln p := by
  rcases h with h | h | h | h | h | h <;> omega
theorem mts (h : MTok bt ln p tk td aa) (e : tk = 1) (hv : ¬ td = 108) : tK bt ln p = 2 ∧ aa = tE bt ln p := by
  rcases h with h | h | h | h | h | h <;> omega
theorem mto (h : MTok bt ln p tk td aa) (e : ¬ tk = 1) (e0 : ¬ tk = 0) : ¬ tK bt ln p = 1 ∧ ¬ tK bt ln p = 2 := by
  rcases h with h | h | h | h | h | h <;> omega
end RY
set_option maxHeartbeats 4000000 in
set_option maxRecDepth 100000 in
theorem c_X8_readLetters (G : Gm) {e0 e1 e2 e3 e4 e5 e6 e7 e8 e9 ea eb : Nat} {ln tk td rl rs rd n m be sd tu fo kn tl rn : Nat} {bt : Nat → Nat}  {tr : Int64} {b : Nat} (hl : ln ≤ 200) (hbt : ∀ i, i < ln → bt i < 256) (hb : b < ln) (hL : isL (bt b)) : Mg G yX8_readLetters cX8_readLetters 1 none ({ frames := 2, cells := 0, slots := 0, locals := 45 } : Room) 0 0 [.ref e0] [(e0, .inr (8, [.ref e1, .int (nI ln), .int (nI b), .int (nI b), .int (nI tk), .int (nI td), .int (nI rl), .int (nI rs), .int (nI rd), .ref e2, .ref e3, .ref e4, .int (nI n), .int (nI m), .ref e5, .ref e6, .ref e7, .int (nI be), .int (nI sd), .int (nI tu), .int (nI fo), .ref e8, .ref e9, .int (nI kn), .int (nI tl), .int (nI rn), .ref ea, .long tr, .ref eb])), (e1, .inl (G.2.2.1, 200, .inl (nF bt)))] (fun r w2 => ∃ tk2, ((tk2 = 1 ∧ lEn bt ln b = b + 1 ∧ (bt b = 108 ∨ bt b = 115)) ∨ (tk2 = 4 ∧ ¬ (lEn bt ln b = b + 1 ∧ (bt b = 108 ∨ bt b = 115)))) ∧ r = none ∧ w2 = [(e0, .inr (8, [.ref e1, .int (nI ln), .int (nI (lEn bt ln b)), .int (nI b), .int (nI tk2), .int (nI (bt b)), .int (nI rl), .int (nI rs), .int (nI rd), .ref e2, .ref e3, .ref e4, .int (nI n), .int (nI m), .ref e5, .ref e6, .ref e7, .int (nI be), .int (nI sd), .int (nI tu), .int (nI fo), .ref e8, .ref e9, .int (nI kn), .int (nI tl), .int (nI rn), .ref ea, .long tr, .ref eb])), (e1, .inl (G.2.2.1, 200, .inl (nF bt)))]) := by
  have hb2 := hbt b hb
  refine Mg.mk (lv := [(0, .ref e0)]) (by decide) rfl rfl (fun X F R0 => ?_)
  refine j_aload_n (q := 1) (i0 := 0) F rfl dX8_readLetters_0 rfl ?_
  refine j_aload_n (q := 2) (i0 := 0) F rfl dX8_readLetters_1 rfl ?_
  refine j_get (q := 5) (ci := 8) (q0 := 0) (kf := 0) (v := .ref e1) F inX8 rfl rfl rfl tw_658 rfl rfl dX8_readLetters_2 rfl ?_
  refine j_aload_n (q := 6) (i0 := 0) F rfl dX8_readLetters_5 rfl ?_
  refine j_get (q := 9) (ci := 8) (q0 := 0) (kf := 2) (v := .int (nI b)) F inX8 rfl rfl rfl tw_660 rfl rfl dX8_readLetters_6 rfl ?_
  refine j_iald (q := 10) (q0 := 1) (i := b) (v := nI (bt b)) F rfl rfl (by omega) rfl (rfl) dX8_readLetters_9 rfl ?_
  refine j_put (q := 13) (ci := 8) (q0 := 0) (kf := 5) (v := .int (nI (bt b))) (w' := [(e0, .inr (8, [.ref e1, .int (nI ln), .int (nI b), .int (nI b), .int (nI tk), .int (nI (bt b)), .int (nI rl), .int (nI rs), .int (nI rd), .ref e2, .ref e3, .ref e4, .int (nI n), .int (nI m), .ref e5, .ref e6, .ref e7, .int (nI be), .int (nI sd), .int (nI tu), .int (nI fo), .ref e8, .ref e9, .int (nI kn), .int (nI tl), .int (nI rn), .ref ea, .long tr, .ref eb])), (e1, .inl (G.2.2.1, 200, .inl (nF bt)))]) F inX8 tyX8_ok nmX8 rfl rfl rfl tw_663 rfl rfl rfl rfl rfl rfl dX8_readLetters_10 rfl ?_
  have lp1 : ∀ (fu : Nat) (q : Nat) (hq1 : b ≤ q) (hq2 : q ≤ ln) (hqe : lEn bt ln q = lEn bt ln b), (ln - q) < fu → Jw G X 1 0 0 13 [(0, .ref e0)] [] [(e0, .inr (8, [.ref e1, .int (nI ln), .int (nI q), .int (nI b), .int (nI tk), .int (nI (bt b)), .int (nI rl), .int (nI rs), .int (nI rd), .ref e2, .ref e3, .ref e4, .int (nI n), .int (nI m), .ref e5, .ref e6, .ref e7, .int (nI be), .int (nI sd), .int (nI tu), .int (nI fo), .ref e8, .ref e9, .int (nI kn), .int (nI tl), .int (nI rn), .ref ea, .long tr, .ref eb])), (e1, .inl (G.2.2.1, 200, .inl (nF bt)))] := by
    intro fu
    induction fu with
    | zero => intro q hq1 hq2 hqe hfu; exact absurd hfu (Nat.not_lt_zero _)
    | succ fu ih1 =>
      intro q hq1 hq2 hqe hfu
      refine j_aload_n (q := 14) (i0 := 0) F rfl dX8_readLetters_13 rfl ?_
      refine j_get (q := 17) (ci := 8) (q0 := 0) (kf := 2) (v := .int (nI q)) F inX8 rfl rfl rfl tw_660 rfl rfl dX8_readLetters_14 rfl ?_
      refine j_aload_n (q := 18) (i0 := 0) F rfl dX8_readLetters_17 rfl ?_
      refine j_get (q := 21) (ci := 8) (q0 := 0) (kf := 1) (v := .int (nI ln)) F inX8 rfl rfl rfl tw_659 rfl rfl dX8_readLetters_18 rfl ?_
      refine j_icmp_ge (q := 24) (t := 52) F (Pp := ln ≤ q) (nI_leI (by omega) (by omega)) dX8_readLetters_21 rfl rfl (fun c2 => ?_) (fun c2 => ?_)
      · skip
        refine j_aload_n (q := 53) (i0 := 0) F rfl dX8_readLetters_52 rfl ?_
        refine j_aload_n (q := 54) (i0 := 0) F rfl dX8_readLetters_53 rfl ?_
        refine j_get (q := 57) (ci := 8) (q0 := 0) (kf := 2) (v := .int (nI q)) F inX8 rfl rfl rfl tw_660 rfl rfl dX8_readLetters_54 rfl ?_
        refine j_aload_n (q := 58) (i0 := 0) F rfl dX8_readLetters_57 rfl ?_
        refine j_get (q := 61) (ci := 8) (q0 := 0) (kf := 3) (v := .int (nI b)) F inX8 rfl rfl rfl tw_661 rfl rfl dX8_readLetters_58 rfl ?_
        refine j_isub (q := 62) (v := nI (q - b)) F (pk_sub (by omega)) dX8_readLetters_61 rfl ?_
        refine j_iconst (q := 63) (v := nI 1) F (by decide) dX8_readLetters_62 rfl ?_
        refine j_icmp_ne (q := 66) (t := 88) F (Pp := q - b = 1) (nI_eq (by omega) (by omega)) dX8_readLetters_63 rfl rfl (fun c3 => ?_) (fun c3 => ?_)
        · skip
          refine j_iconst (q := 89) (v := nI 4) F (by decide) dX8_readLetters_88 rfl ?_
          refine j_put (q := 92) (ci := 8) (q0 := 0) (kf := 4) (v := .int (nI 4)) (w' := [(e0, .inr (8, [.ref e1, .int (nI ln), .int (nI q), .int (nI b), .int (nI 4), .int (nI (bt b)), .int (nI rl), .int (nI rs), .int (nI rd), .ref e2, .ref e3, .ref e4, .int (nI n), .int (nI m), .ref e5, .ref e6, .ref e7, .int (nI be), .int (nI sd), .int (nI tu), .int (nI fo), .ref e8, .ref e9, .int (nI kn), .int (nI tl), .int (nI rn), .ref ea, .long tr, .ref eb])), (e1, .inl (G.2.2.1, 200, .inl (nF bt)))]) F inX8 tyX8_ok nmX8 rfl rfl rfl tw_662 rfl rfl rfl rfl rfl rfl dX8_readLetters_89 rfl ?_
          exact j_vret (w2 := [(e0, .inr (8, [.ref e1, .int (nI ln), .int (nI q), .int (nI b), .int (nI 4), .int (nI (bt b)), .int (nI rl), .int (nI rs), .int (nI rd), .ref e2, .ref e3, .ref e4, .int (nI n), .int (nI m), .ref e5, .ref e6, .ref e7, .int (nI be), .int (nI sd), .int (nI tu), .int (nI fo), .ref e8, .ref e9, .int (nI kn), .int (nI tl), .int (nI rn), .ref ea, .long tr, .ref eb])), (e1, .inl (G.2.2.1, 200, .inl (nF bt)))]) F R0 rfl [0, 1] rfl rfl (by have e1 := lEn_no (bt := bt) (ln := ln) (p := q) (fun z => by omega); rw [← hqe, e1]; exact ⟨_, Or.inr ⟨rfl, fun z => by omega⟩, rfl, rfl⟩) dX8_readLetters_92
        · skip
          refine j_aload_n (q := 67) (i0 := 0) F rfl dX8_readLetters_66 rfl ?_
          refine j_get (q := 70) (ci := 8) (q0 := 0) (kf := 5) (v := .int (nI (bt b))) F inX8 rfl rfl rfl tw_663 rfl rfl dX8_readLetters_67 rfl ?_
          refine j_bipush (q := 72) (v := nI 108) F (by decide) dX8_readLetters_70 rfl ?_
          refine j_icmp_eq (q := 75) (t := 84) F (Pp := bt b = 108) (nI_eq (by omega) (by omega)) dX8_readLetters_72 rfl rfl (fun c4 => ?_) (fun c4 => ?_)
          · skip
            refine j_iconst (q := 85) (v := nI 1) F (by decide) dX8_readLetters_84 rfl ?_
            refine j_goto (t := 89) F dX8_readLetters_85 rfl ?_
            refine j_put (q := 92) (ci := 8) (q0 := 0) (kf := 4) (v := .int (nI 1)) (w' := [(e0, .inr (8, [.ref e1, .int (nI ln), .int (nI q), .int (nI b), .int (nI 1), .int (nI (bt b)), .int (nI rl), .int (nI rs), .int (nI rd), .ref e2, .ref e3, .ref e4, .int (nI n), .int (nI m), .ref e5, .ref e6, .ref e7, .int (nI be), .int (nI sd), .int (nI tu), .int (nI fo), .ref e8, .ref e9, .int (nI kn), .int (nI tl), .int (nI rn), .ref ea, .long tr, .ref eb])), (e1, .inl (G.2.2.1, 200, .inl (nF bt)))]) F inX8 tyX8_ok nmX8 rfl rfl rfl tw_662 rfl rfl rfl rfl rfl rfl dX8_readLetters_89 rfl ?_
            exact j_vret (w2 := [(e0, .inr (8, [.ref e1, .int (nI ln), .int (nI q), .int (nI b), .int (nI 1), .int (nI (bt b)), .int (nI rl), .int (nI rs), .int (nI rd), .ref e2, .ref e3, .ref e4, .int (nI n), .int (nI m), .ref e5, .ref e6, .ref e7, .int (nI be), .int (nI sd), .int (nI tu), .int (nI fo), .ref e8, .ref e9, .int (nI kn), .int (nI tl), .int (nI rn), .ref ea, .long tr, .ref eb])), (e1, .inl (G.2.2.1, 200, .inl (nF bt)))]) F R0 rfl [0, 1] rfl rfl (by have e1 := lEn_no (bt := bt) (ln := ln) (p := q) (fun z => by omega); rw [← hqe, e1]; exact ⟨_, Or.inl ⟨rfl, by omega, by omega⟩, rfl, rfl⟩) dX8_readLetters_92
          · skip
            refine j_aload_n (q := 76) (i0 := 0) F rfl dX8_readLetters_75 rfl ?_
            refine j_get (q := 79) (ci := 8) (q0 := 0) (kf := 5) (v := .int (nI (bt b))) F inX8 rfl rfl rfl tw_663 rfl rfl dX8_readLetters_76 rfl ?_
            refine j_bipush (q := 81) (v := nI 115) F (by decide) dX8_readLetters_79 rfl ?_
            refine j_icmp_ne (q := 84) (t := 88) F (Pp := bt b = 115) (nI_eq (by omega) (by omega)) dX8_readLetters_81 rfl rfl (fun c5 => ?_) (fun c5 => ?_)
            · skip
              refine j_iconst (q := 89) (v := nI 4) F (by decide) dX8_readLetters_88 rfl ?_
              refine j_put (q := 92) (ci := 8) (q0 := 0) (kf := 4) (v := .int (nI 4)) (w' := [(e0, .inr (8, [.ref e1, .int (nI ln), .int (nI q), .int (nI b), .int (nI 4), .int (nI (bt b)), .int (nI rl), .int (nI rs), .int (nI rd), .ref e2, .ref e3, .ref e4, .int (nI n), .int (nI m), .ref e5, .ref e6, .ref e7, .int (nI be), .int (nI sd), .int (nI tu), .int (nI fo), .ref e8, .ref e9, .int (nI kn), .int (nI tl), .int (nI rn), .ref ea, .long tr, .ref eb])), (e1, .inl (G.2.2.1, 200, .inl (nF bt)))]) F inX8 tyX8_ok nmX8 rfl rfl rfl tw_662 rfl rfl rfl rfl rfl rfl dX8_readLetters_89 rfl ?_
              exact j_vret (w2 := [(e0, .inr (8, [.ref e1, .int (nI ln), .int (nI q), .int (nI b), .int (nI 4), .int (nI (bt b)), .int (nI rl), .int (nI rs), .int (nI rd), .ref e2, .ref e3, .ref e4, .int (nI n), .int (nI m), .ref e5, .ref e6, .ref e7, .int (nI be), .int (nI sd), .int (nI tu), .int (nI fo), .ref e8, .ref e9, .int (nI kn), .int (nI tl), .int (nI rn), .ref ea, .long tr, .ref eb])), (e1, .inl (G.2.2.1, 200, .inl (nF bt)))]) F R0 rfl [0, 1] rfl rfl (by have e1 := lEn_no (bt := bt) (ln := ln) (p := q) (fun z => by omega); rw [← hqe, e1]; exact ⟨_, Or.inr ⟨rfl, fun z => by omega⟩, rfl, rfl⟩) dX8_readLetters_92
            · skip
              refine j_iconst (q := 85) (v := nI 1) F (by decide) dX8_readLetters_84 rfl ?_
              refine j_goto (t := 89) F dX8_readLetters_85 rfl ?_
              refine j_put (q := 92) (ci := 8) (q0 := 0) (kf := 4) (v := .int (nI 1)) (w' := [(e0, .inr (8, [.ref e1, .int (nI ln), .int (nI q), .int (nI b), .int (nI 1), .int (nI (bt b)), .int (nI rl), .int (nI rs), .int (nI rd), .ref e2, .ref e3, .ref e4, .int (nI n), .int (nI m), .ref e5, .ref e6, .ref e7, .int (nI be), .int (nI sd), .int (nI tu), .int (nI fo), .ref e8, .ref e9, .int (nI kn), .int (nI tl), .int (nI rn), .ref ea, .long tr, .ref eb])), (e1, .inl (G.2.2.1, 200, .inl (nF bt)))]) F inX8 tyX8_ok nmX8 rfl rfl rfl tw_662 rfl rfl rfl rfl rfl rfl dX8_readLetters_89 rfl ?_
              exact j_vret (w2 := [(e0, .inr (8, [.ref e1, .int (nI ln), .int (nI q), .int (nI b), .int (nI 1), .int (nI (bt b)), .int (nI rl), .int (nI rs), .int (nI rd), .ref e2, .ref e3, .ref e4, .int (nI n), .int (nI m), .ref e5, .ref e6, .ref e7, .int (nI be), .int (nI sd), .int (nI tu), .int (nI fo), .ref e8, .ref e9, .int (nI kn), .int (nI tl), .int (nI rn), .ref ea, .long tr, .ref eb])), (e1, .inl (G.2.2.1, 200, .inl (nF bt)))]) F R0 rfl [0, 1] rfl rfl (by have e1 := lEn_no (bt := bt) (ln := ln) (p := q) (fun z => by omega); rw [← hqe, e1]; exact ⟨_, Or.inl ⟨rfl, by omega, by omega⟩, rfl, rfl⟩) dX8_readLetters_92
      · skip
        refine j_aload_n (q := 25) (i0 := 0) F rfl dX8_readLetters_24 rfl ?_
        refine j_get (q := 28) (ci := 8) (q0 := 0) (kf := 0) (v := .ref e1) F inX8 rfl rfl rfl tw_658 rfl rfl dX8_readLetters_25 rfl ?_
        refine j_aload_n (q := 29) (i0 := 0) F rfl dX8_readLetters_28 rfl ?_
        refine j_get (q := 32) (ci := 8) (q0 := 0) (kf := 2) (v := .int (nI q)) F inX8 rfl rfl rfl tw_660 rfl rfl dX8_readLetters_29 rfl ?_
        refine j_iald (q := 33) (q0 := 1) (i := q) (v := nI (bt q)) F rfl rfl (by omega) rfl (rfl) dX8_readLetters_32 rfl ?_
        refine j_callS (q := 36) (As := [.int (nI (bt q))]) (wr := [(e0, .inr (8, [.ref e1, .int (nI ln), .int (nI q), .int (nI b), .int (nI tk), .int (nI (bt b)), .int (nI rl), .int (nI rs), .int (nI rd), .ref e2, .ref e3, .ref e4, .int (nI n), .int (nI m), .ref e5, .ref e6, .ref e7, .int (nI be), .int (nI sd), .int (nI tu), .int (nI fo), .ref e8, .ref e9, .int (nI kn), .int (nI tl), .int (nI rn), .ref ea, .long tr, .ref eb])), (e1, .inl (G.2.2.1, 200, .inl (nF bt)))]) (st := []) F (c_X8_isLetter G (c := bt q) (hbt q (by omega))) kwX8_isLetter tw_767 tw_766 ⟨Nat.le_of_ble_eq_true rfl, Nat.le_of_ble_eq_true rfl, rfl, rfl, Nat.le_of_ble_eq_true rfl, Nat.le_of_ble_eq_true rfl⟩ [] [0, 1] rfl rfl rfl rfl rfl rfl rfl (Nat.le_of_ble_eq_true rfl) dX8_readLetters_33 rfl ?_
        rintro r_ w_ ⟨rfl, (⟨rfl, hL2⟩ | ⟨rfl, hL2⟩)⟩
        · skip
          refine j_w (w' := [(e0, .inr (8, [.ref e1, .int (nI ln), .int (nI q), .int (nI b), .int (nI tk), .int (nI (bt b)), .int (nI rl), .int (nI rs), .int (nI rd), .ref e2, .ref e3, .ref e4, .int (nI n), .int (nI m), .ref e5, .ref e6, .ref e7, .int (nI be), .int (nI sd), .int (nI tu), .int (nI fo), .ref e8, .ref e9, .int (nI kn), .int (nI tl), .int (nI rn), .ref ea, .long tr, .ref eb])), (e1, .inl (G.2.2.1, 200, .inl (nF bt)))]) [0, 1] rfl rfl ?_
          show Jw G X _ 0 0 36 _ [.int (nI 1)] _
          refine j_if_eq (q := 39) (t := 52) F (cf (by decide)) dX8_readLetters_36 rfl rfl (fun z => False.elim z) (fun _ => ?_)
          refine j_aload_n (q := 40) (i0 := 0) F rfl dX8_readLetters_39 rfl ?_
          refine j_dup (q := 41) F rfl dX8_readLetters_40 rfl ?_
          refine j_get (q := 44) (ci := 8) (q0 := 0) (kf := 2) (v := .int (nI q)) F inX8 rfl rfl rfl tw_660 rfl rfl dX8_readLetters_41 rfl ?_
          refine j_iconst (q := 45) (v := nI 1) F (by decide) dX8_readLetters_44 rfl ?_
          refine j_iadd (q := 46) (v := nI (q + 1)) F (nI_add _ _) dX8_readLetters_45 rfl ?_
          refine j_put (q := 49) (ci := 8) (q0 := 0) (kf := 2) (v := .int (nI (q + 1))) (w' := [(e0, .inr (8, [.ref e1, .int (nI ln), .int (nI (q + 1)), .int (nI b), .int (nI tk), .int (nI (bt b)), .int (nI rl), .int (nI rs), .int (nI rd), .ref e2, .ref e3, .ref e4, .int (nI n), .int (nI m), .ref e5, .ref e6, .ref e7, .int (nI be), .int (nI sd), .int (nI tu), .int (nI fo), .ref e8, .ref e9, .int (nI kn), .int (nI tl), .int (nI rn), .ref ea, .long tr, .ref eb])), (e1, .inl (G.2.2.1, 200, .inl (nF bt)))]) F inX8 tyX8_ok nmX8 rfl rfl rfl tw_660 rfl rfl rfl rfl rfl rfl dX8_readLetters_46 rfl ?_
          refine j_goto (t := 13) F dX8_readLetters_49 rfl ?_
          refine j_lv [0] (lv' := [(0, .ref e0)]) rfl ?_
          exact ih1 (q + 1) (by omega) (by omega) ((lEn_yes (by omega) hL2).symm.trans hqe) (by omega)
        · skip
          refine j_w (w' := [(e0, .inr (8, [.ref e1, .int (nI ln), .int (nI q), .int (nI b), .int (nI tk), .int (nI (bt b)), .int (nI rl), .int (nI rs), .int (nI rd), .ref e2, .ref e3, .ref e4, .int (nI n), .int (nI m), .ref e5, .ref e6, .ref e7, .int (nI be), .int (nI sd), .int (nI tu), .int (nI fo), .ref e8, .ref e9, .int (nI kn), .int (nI tl), .int (nI rn), .ref ea, .long tr, .ref eb])), (e1, .inl (G.2.2.1, 200, .inl (nF bt)))]) [0, 1] rfl rfl ?_
          show Jw G X _ 0 0 36 _ [.int (nI 0)] _
          refine j_if_eq (q := 39) (t := 52) F (ct (by decide)) dX8_readLetters_36 rfl rfl (fun _ => ?_) (fun z => absurd trivial z)
          refine j_aload_n (q := 53) (i0 := 0) F rfl dX8_readLetters_52 rfl ?_
          refine j_aload_n (q := 54) (i0 := 0) F rfl dX8_readLetters_53 rfl ?_
          refine j_get (q := 57) (ci := 8) (q0 := 0) (kf := 2) (v := .int (nI q)) F inX8 rfl rfl rfl tw_660 rfl rfl dX8_readLetters_54 rfl ?_
          refine j_aload_n (q := 58) (i0 := 0) F rfl dX8_readLetters_57 rfl ?_
          refine j_get (q := 61) (ci := 8) (q0 := 0) (kf := 3) (v := .int (nI b)) F inX8 rfl rfl rfl tw_661 rfl rfl dX8_readLetters_58 rfl ?_
          refine j_isub (q := 62) (v := nI (q - b)) F (pk_sub (by omega)) dX8_readLetters_61 rfl ?_
          refine j_iconst (q := 63) (v := nI 1) F (by decide) dX8_readLetters_62 rfl ?_
          refine j_icmp_ne (q := 66) (t := 88) F (Pp := q - b = 1) (nI_eq (by omega) (by omega)) dX8_readLetters_63 rfl rfl (fun c8 => ?_) (fun c8 => ?_)
          · skip
            refine j_iconst (q := 89) (v := nI 4) F (by decide) dX8_readLetters_88 rfl ?_
            refine j_put (q := 92) (ci := 8) (q0 := 0) (kf := 4) (v := .int (nI 4)) (w' := [(e0, .inr (8, [.ref e1, .int (nI ln), .int (nI q), .int (nI b), .int (nI 4), .int (nI (bt b)), .int (nI rl), .int (nI rs), .int (nI rd), .ref e2, .ref e3, .ref e4, .int (nI n), .int (nI m), .ref e5, .ref e6, .ref e7, .int (nI be), .int (nI sd), .int (nI tu), .int (nI fo), .ref e8, .ref e9, .int (nI kn), .int (nI tl), .int (nI rn), .ref ea, .long tr, .ref eb])), (e1, .inl (G.2.2.1, 200, .inl (nF bt)))]) F inX8 tyX8_ok nmX8 rfl rfl rfl tw_662 rfl rfl rfl rfl rfl rfl dX8_readLetters_89 rfl ?_
            exact j_vret (w2 := [(e0, .inr (8, [.ref e1, .int (nI ln), .int (nI q), .int (nI b), .int (nI 4), .int (nI (bt b)), .int (nI rl), .int (nI rs), .int (nI rd), .ref e2, .ref e3, .ref e4, .int (nI n), .int (nI m), .ref e5, .ref e6, .ref e7, .int (nI be), .int (nI sd), .int (nI tu), .int (nI fo), .ref e8, .ref e9, .int (nI kn), .int (nI tl), .int (nI rn), .ref ea, .long tr, .ref eb])), (e1, .inl (G.2.2.1, 200, .inl (nF bt)))]) F R0 rfl [0, 1] rfl rfl (by have e1 := lEn_no (bt := bt) (ln := ln) (p := q) (fun z => hL2 z.2); rw [← hqe, e1]; exact ⟨_, Or.inr ⟨rfl, fun z => by omega⟩, rfl, rfl⟩) dX8_readLetters_92
          · skip
            refine j_aload_n (q := 67) (i0 := 0) F rfl dX8_readLetters_66 rfl ?_
            refine j_get (q := 70) (ci := 8) (q0 := 0) (kf := 5) (v := .int (nI (bt b))) F inX8 rfl rfl rfl tw_663 rfl rfl dX8_readLetters_67 rfl ?_
            refine j_bipush (q := 72) (v := nI 108) F (by decide) dX8_readLetters_70 rfl ?_
            refine j_icmp_eq (q := 75) (t := 84) F (Pp := bt b = 108) (nI_eq (by omega) (by omega)) dX8_readLetters_72 rfl rfl (fun c9 => ?_) (fun c9 => ?_)
            · skip
              refine j_iconst (q := 85) (v := nI 1) F (by decide) dX8_readLetters_84 rfl ?_
              refine j_goto (t := 89) F dX8_readLetters_85 rfl ?_
              refine j_put (q := 92) (ci := 8) (q0 := 0) (kf := 4) (v := .int (nI 1)) (w' := [(e0, .inr (8, [.ref e1, .int (nI ln), .int (nI q), .int (nI b), .int (nI 1), .int (nI (bt b)), .int (nI rl), .int (nI rs), .int (nI rd), .ref e2, .ref e3, .ref e4, .int (nI n), .int (nI m), .ref e5, .ref e6, .ref e7, .int (nI be), .int (nI sd), .int (nI tu), .int (nI fo), .ref e8, .ref e9, .int (nI kn), .int (nI tl), .int (nI rn), .ref ea, .long tr, .ref eb])), (e1, .inl (G.2.2.1, 200, .inl (nF bt)))]) F inX8 tyX8_ok nmX8 rfl rfl rfl tw_662 rfl rfl rfl rfl rfl rfl dX8_readLetters_89 rfl ?_
              exact j_vret (w2 := [(e0, .inr (8, [.ref e1, .int (nI ln), .int (nI q), .int (nI b), .int (nI 1), .int (nI (bt b)), .int (nI rl), .int (nI rs), .int (nI rd), .ref e2, .ref e3, .ref e4, .int (nI n), .int (nI m), .ref e5, .ref e6, .ref e7, .int (nI be), .int (nI sd), .int (nI tu), .int (nI fo), .ref e8, .ref e9, .int (nI kn), .int (nI tl), .int (nI rn), .ref ea, .long tr, .ref eb])), (e1, .inl (G.2.2.1, 200, .inl (nF bt)))]) F R0 rfl [0, 1] rfl rfl (by have e1 := lEn_no (bt := bt) (ln := ln) (p := q) (fun z => hL2 z.2); rw [← hqe, e1]; exact ⟨_, Or.inl ⟨rfl, by omega, by omega⟩, rfl, rfl⟩) dX8_readLetters_92
            · skip
              refine j_aload_n (q := 76) (i0 := 0) F rfl dX8_readLetters_75 rfl ?_
              refine j_get (q := 79) (ci := 8) (q0 := 0) (kf := 5) (v := .int (nI (bt b))) F inX8 rfl rfl rfl tw_663 rfl rfl dX8_readLetters_76 rfl ?_
              refine j_bipush (q := 81) (v := nI 115) F (by decide) dX8_readLetters_79 rfl ?_
              refine j_icmp_ne (q := 84) (t := 88) F (Pp := bt b = 115) (nI_eq (by omega) (by omega)) dX8_readLetters_81 rfl rfl (fun c10 => ?_) (fun c10 => ?_)
              · skip
                refine j_iconst (q := 89) (v := nI 4) F (by decide) dX8_readLetters_88 rfl ?_
                refine j_put (q := 92) (ci := 8) (q0 := 0) (kf := 4) (v := .int (nI 4)) (w' := [(e0, .inr (8, [.ref e1, .int (nI ln), .int (nI q), .int (nI b), .int (nI 4), .int (nI (bt b)), .int (nI rl), .int (nI rs), .int (nI rd), .ref e2, .ref e3, .ref e4, .int (nI n), .int (nI m), .ref e5, .ref e6, .ref e7, .int (nI be), .int (nI sd), .int (nI tu), .int (nI fo), .ref e8, .ref e9, .int (nI kn), .int (nI tl), .int (nI rn), .ref ea, .long tr, .ref eb])), (e1, .inl (G.2.2.1, 200, .inl (nF bt)))]) F inX8 tyX8_ok nmX8 rfl rfl rfl tw_662 rfl rfl rfl rfl rfl rfl dX8_readLetters_89 rfl ?_
                exact j_vret (w2 := [(e0, .inr (8, [.ref e1, .int (nI ln), .int (nI q), .int (nI b), .int (nI 4), .int (nI (bt b)), .int (nI rl), .int (nI rs), .int (nI rd), .ref e2, .ref e3, .ref e4, .int (nI n), .int (nI m), .ref e5, .ref e6, .ref e7, .int (nI be), .int (nI sd), .int (nI tu), .int (nI fo), .ref e8, .ref e9, .int (nI kn), .int (nI tl), .int (nI rn), .ref ea, .long tr, .ref eb])), (e1, .inl (G.2.2.1, 200, .inl (nF bt)))]) F R0 rfl [0, 1] rfl rfl (by have e1 := lEn_no (bt := bt) (ln := ln) (p := q) (fun z => hL2 z.2); rw [← hqe, e1]; exact ⟨_, Or.inr ⟨rfl, fun z => by omega⟩, rfl, rfl⟩) dX8_readLetters_92
              · skip
                refine j_iconst (q := 85) (v := nI 1) F (by decide) dX8_readLetters_84 rfl ?_
                refine j_goto (t := 89) F dX8_readLetters_85 rfl ?_
                refine j_put (q := 92) (ci := 8) (q0 := 0) (kf := 4) (v := .int (nI 1)) (w' := [(e0, .inr (8, [.ref e1, .int (nI ln), .int (nI q), .int (nI b), .int (nI 1), .int (nI (bt b)), .int (nI rl), .int (nI rs), .int (nI rd), .ref e2, .ref e3, .ref e4, .int (nI n), .int (nI m), .ref e5, .ref e6, .ref e7, .int (nI be), .int (nI sd), .int (nI tu), .int (nI fo), .ref e8, .ref e9, .int (nI kn), .int (nI tl), .int (nI rn), .ref ea, .long tr, .ref eb])), (e1, .inl (G.2.2.1, 200, .inl (nF bt)))]) F inX8 tyX8_ok nmX8 rfl rfl rfl tw_662 rfl rfl rfl rfl rfl rfl dX8_readLetters_89 rfl ?_
                exact j_vret (w2 := [(e0, .inr (8, [.ref e1, .int (nI ln), .int (nI q), .int (nI b), .int (nI 1), .int (nI (bt b)), .int (nI rl), .int (nI rs), .int (nI rd), .ref e2, .ref e3, .ref e4, .int (nI n), .int (nI m), .ref e5, .ref e6, .ref e7, .int (nI be), .int (nI sd), .int (nI tu), .int (nI fo), .ref e8, .ref e9, .int (nI kn), .int (nI tl), .int (nI rn), .ref ea, .long tr, .ref eb])), (e1, .inl (G.2.2.1, 200, .inl (nF bt)))]) F R0 rfl [0, 1] rfl rfl (by have e1 := lEn_no (bt := bt) (ln := ln) (p := q) (fun z => hL2 z.2); rw [← hqe, e1]; exact ⟨_, Or.inl ⟨rfl, by omega, by omega⟩, rfl, rfl⟩) dX8_readLetters_92
  refine j_lv [0] (lv' := [(0, .ref e0)]) rfl ?_
  exact lp1 _ b (Nat.le_refl b) (by omega) rfl (Nat.lt_succ_self _)

set_option maxHeartbeats 4000000 in
set_option maxRecDepth 100000 in
theorem c_X8_readNumber (G : Gm) {e0 e1 e2 e3 e4 e5 e6 e7 e8 e9 ea eb : Nat} {ln tk td rl rs rd n m be sd tu fo kn tl rn : Nat} {bt : Nat → Nat}  {tr : Int64} {b : Nat} (hl : ln ≤ 200) (hbt : ∀ i, i < ln → bt i < 256) (hb : b < ln) (hD : isD (bt b)) : Mg G yX8_readNumber cX8_readNumber 2 none ({ frames := 2, cells := 0, slots := 0, locals := 45 } : Room) 0 0 [.ref e0] [(e0, .inr (8, [.ref e1, .int (nI ln), .int (nI b), .int (nI b), .int (nI tk), .int (nI td), .int (nI rl), .int (nI rs), .int (nI rd), .ref e2, .ref e3, .ref e4, .int (nI n), .int (nI m), .ref e5, .ref e6, .ref e7, .int (nI be), .int (nI sd), .int (nI tu), .int (nI fo), .ref e8, .ref e9, .int (nI kn), .int (nI tl), .int (nI rn), .ref ea, .long tr, .ref eb])), (e1, .inl (G.2.2.1, 200, .inl (nF bt)))] (fun r w2 => ∃ tk2, ((tk2 = 2 ∧ ¬ (99 < dVl bt ln b 0 ∨ (1 < dEn bt ln b - b ∧ bt b = 48))) ∨ (tk2 = 4 ∧ (99 < dVl bt ln b 0 ∨ (1 < dEn bt ln b - b ∧ bt b = 48)))) ∧ dVl bt ln b 0 ≤ 1000 ∧ r = none ∧ w2 = [(e0, .inr (8, [.ref e1, .int (nI ln), .int (nI (dEn bt ln b)), .int (nI b), .int (nI tk2), .int (nI (dVl bt ln b 0)), .int (nI rl), .int (nI rs), .int (nI rd), .ref e2, .ref e3, .ref e4, .int (nI n), .int (nI m), .ref e5, .ref e6, .ref e7, .int (nI be), .int (nI sd), .int (nI tu), .int (nI fo), .ref e8, .ref e9, .int (nI kn), .int (nI tl), .int (nI rn), .ref ea, .long tr, .ref eb])), (e1, .inl (G.2.2.1, 200, .inl (nF bt)))]) := by
  have hb2 := hbt b hb
  refine Mg.mk (lv := [(0, .ref e0)]) (by decide) rfl rfl (fun X F R0 => ?_)
  refine j_iconst (q := 1) (v := nI 0) F (by decide) dX8_readNumber_0 rfl ?_
  refine j_istore_n (q := 2) (lv' := [(1, .int (nI 0)), (0, .ref e0)]) F dX8_readNumber_1 (by decide) rfl rfl ?_
  have lp1 : ∀ (fu : Nat) (q : Nat) (ac : Nat) (hq1 : b ≤ q) (hq2 : q ≤ ln) (hqe : dEn bt ln q = dEn bt ln b) (hqv : dVl bt ln q ac = dVl bt ln b 0) (hac : ac ≤ 1000), (ln - q) < fu → Jw G X 2 0 0 2 [(0, .ref e0), (1, .int (nI ac))] [] [(e0, .inr (8, [.ref e1, .int (nI ln), .int (nI q), .int (nI b), .int (nI tk), .int (nI td), .int (nI rl), .int (nI rs), .int (nI rd), .ref e2, .ref e3, .ref e4, .int (nI n), .int (nI m), .ref e5, .ref e6, .ref e7, .int (nI be), .int (nI sd), .int (nI tu), .int (nI fo), .ref e8, .ref e9, .int (nI kn), .int (nI tl), .int (nI rn), .ref ea, .long tr, .ref eb])), (e1, .inl (G.2.2.1, 200, .inl (nF bt)))] := by
    intro fu
    induction fu with
    | zero => intro q ac hq1 hq2 hqe hqv hac hfu; exact absurd hfu (Nat.not_lt_zero _)
    | succ fu ih1 =>
      intro q ac hq1 hq2 hqe hqv hac hfu
      refine j_aload_n (q := 3) (i0 := 0) F rfl dX8_readNumber_2 rfl ?_
      refine j_get (q := 6) (ci := 8) (q0 := 0) (kf := 2) (v := .int (nI q)) F inX8 rfl rfl rfl tw_660 rfl rfl dX8_readNumber_3 rfl ?_
      refine j_aload_n (q := 7) (i0 := 0) F rfl dX8_readNumber_6 rfl ?_
      refine j_get (q := 10) (ci := 8) (q0 := 0) (kf := 1) (v := .int (nI ln)) F inX8 rfl rfl rfl tw_659 rfl rfl dX8_readNumber_7 rfl ?_
      refine j_icmp_ge (q := 13) (t := 69) F (Pp := ln ≤ q) (nI_leI (by omega) (by omega)) dX8_readNumber_10 rfl rfl (fun c2 => ?_) (fun c2 => ?_)
      · skip
        refine j_aload_n (q := 70) (i0 := 0) F rfl dX8_readNumber_69 rfl ?_
        refine j_iload_n (q := 71) (i0 := 1) F rfl dX8_readNumber_70 rfl ?_
        refine j_bipush (q := 73) (v := nI 99) F (by decide) dX8_readNumber_71 rfl ?_
        refine j_icmp_gt (q := 76) (t := 103) F (Pp := 99 < ac) (nI_ltI (by omega) (by omega)) dX8_readNumber_73 rfl rfl (fun c3 => ?_) (fun c3 => ?_)
        · skip
          refine j_iconst (q := 104) (v := nI 4) F (by decide) dX8_readNumber_103 rfl ?_
          refine j_goto (t := 108) F dX8_readNumber_104 rfl ?_
          refine j_put (q := 111) (ci := 8) (q0 := 0) (kf := 4) (v := .int (nI 4)) (w' := [(e0, .inr (8, [.ref e1, .int (nI ln), .int (nI q), .int (nI b), .int (nI 4), .int (nI td), .int (nI rl), .int (nI rs), .int (nI rd), .ref e2, .ref e3, .ref e4, .int (nI n), .int (nI m), .ref e5, .ref e6, .ref e7, .int (nI be), .int (nI sd), .int (nI tu), .int (nI fo), .ref e8, .ref e9, .int (nI kn), .int (nI tl), .int (nI rn), .ref ea, .long tr, .ref eb])), (e1, .inl (G.2.2.1, 200, .inl (nF bt)))]) F inX8 tyX8_ok nmX8 rfl rfl rfl tw_662 rfl rfl rfl rfl rfl rfl dX8_readNumber_108 rfl ?_
          refine j_aload_n (q := 112) (i0 := 0) F rfl dX8_readNumber_111 rfl ?_
          refine j_iload_n (q := 113) (i0 := 1) F rfl dX8_readNumber_112 rfl ?_
          refine j_put (q := 116) (ci := 8) (q0 := 0) (kf := 5) (v := .int (nI ac)) (w' := [(e0, .inr (8, [.ref e1, .int (nI ln), .int (nI q), .int (nI b), .int (nI 4), .int (nI ac), .int (nI rl), .int (nI rs), .int (nI rd), .ref e2, .ref e3, .ref e4, .int (nI n), .int (nI m), .ref e5, .ref e6, .ref e7, .int (nI be), .int (nI sd), .int (nI tu), .int (nI fo), .ref e8, .ref e9, .int (nI kn), .int (nI tl), .int (nI rn), .ref ea, .long tr, .ref eb])), (e1, .inl (G.2.2.1, 200, .inl (nF bt)))]) F inX8 tyX8_ok nmX8 rfl rfl rfl tw_663 rfl rfl rfl rfl rfl rfl dX8_readNumber_113 rfl ?_
          exact j_vret (w2 := [(e0, .inr (8, [.ref e1, .int (nI ln), .int (nI q), .int (nI b), .int (nI 4), .int (nI ac), .int (nI rl), .int (nI rs), .int (nI rd), .ref e2, .ref e3, .ref e4, .int (nI n), .int (nI m), .ref e5, .ref e6, .ref e7, .int (nI be), .int (nI sd), .int (nI tu), .int (nI fo), .ref e8, .ref e9, .int (nI kn), .int (nI tl), .int (nI rn), .ref ea, .long tr, .ref eb])), (e1, .inl (G.2.2.1, 200, .inl (nF bt)))]) F R0 rfl [0, 1] rfl rfl (by have e1 := dEn_no (bt := bt) (ln := ln) (p := q) (fun z => by omega); have e2 := dVl_no (bt := bt) (ln := ln) (p := q) (v := ac) (fun z => by omega); rw [← hqe, e1, ← hqv, e2]; exact ⟨_, Or.inr ⟨rfl, by omega⟩, by omega, rfl, rfl⟩) dX8_readNumber_116
        · skip
          refine j_aload_n (q := 77) (i0 := 0) F rfl dX8_readNumber_76 rfl ?_
          refine j_get (q := 80) (ci := 8) (q0 := 0) (kf := 2) (v := .int (nI q)) F inX8 rfl rfl rfl tw_660 rfl rfl dX8_readNumber_77 rfl ?_
          refine j_aload_n (q := 81) (i0 := 0) F rfl dX8_readNumber_80 rfl ?_
          refine j_get (q := 84) (ci := 8) (q0 := 0) (kf := 3) (v := .int (nI b)) F inX8 rfl rfl rfl tw_661 rfl rfl dX8_readNumber_81 rfl ?_
          refine j_isub (q := 85) (v := nI (q - b)) F (pk_sub (by omega)) dX8_readNumber_84 rfl ?_
          refine j_iconst (q := 86) (v := nI 1) F (by decide) dX8_readNumber_85 rfl ?_
          refine j_icmp_le (q := 89) (t := 107) F (Pp := q - b ≤ 1) (nI_leI (by omega) (by omega)) dX8_readNumber_86 rfl rfl (fun c4 => ?_) (fun c4 => ?_)
          · skip
            refine j_iconst (q := 108) (v := nI 2) F (by decide) dX8_readNumber_107 rfl ?_
            refine j_put (q := 111) (ci := 8) (q0 := 0) (kf := 4) (v := .int (nI 2)) (w' := [(e0, .inr (8, [.ref e1, .int (nI ln), .int (nI q), .int (nI b), .int (nI 2), .int (nI td), .int (nI rl), .int (nI rs), .int (nI rd), .ref e2, .ref e3, .ref e4, .int (nI n), .int (nI m), .ref e5, .ref e6, .ref e7, .int (nI be), .int (nI sd), .int (nI tu), .int (nI fo), .ref e8, .ref e9, .int (nI kn), .int (nI tl), .int (nI rn), .ref ea, .long tr, .ref eb])), (e1, .inl (G.2.2.1, 200, .inl (nF bt)))]) F inX8 tyX8_ok nmX8 rfl rfl rfl tw_662 rfl rfl rfl rfl rfl rfl dX8_readNumber_108 rfl ?_
            refine j_aload_n (q := 112) (i0 := 0) F rfl dX8_readNumber_111 rfl ?_
            refine j_iload_n (q := 113) (i0 := 1) F rfl dX8_readNumber_112 rfl ?_
            refine j_put (q := 116) (ci := 8) (q0 := 0) (kf := 5) (v := .int (nI ac)) (w' := [(e0, .inr (8, [.ref e1, .int (nI ln), .int (nI q), .int (nI b), .int (nI 2), .int (nI ac), .int (nI rl), .int (nI rs), .int (nI rd), .ref e2, .ref e3, .ref e4, .int (nI n), .int (nI m), .ref e5, .ref e6, .ref e7, .int (nI be), .int (nI sd), .int (nI tu), .int (nI fo), .ref e8, .ref e9, .int (nI kn), .int (nI tl), .int (nI rn), .ref ea, .long tr, .ref eb])), (e1, .inl (G.2.2.1, 200, .inl (nF bt)))]) F inX8 tyX8_ok nmX8 rfl rfl rfl tw_663 rfl rfl rfl rfl rfl rfl dX8_readNumber_113 rfl ?_
            exact j_vret (w2 := [(e0, .inr (8, [.ref e1, .int (nI ln), .int (nI q), .int (nI b), .int (nI 2), .int (nI ac), .int (nI rl), .int (nI rs), .int (nI rd), .ref e2, .ref e3, .ref e4, .int (nI n), .int (nI m), .ref e5, .ref e6, .ref e7, .int (nI be), .int (nI sd), .int (nI tu), .int (nI fo), .ref e8, .ref e9, .int (nI kn), .int (nI tl), .int (nI rn), .ref ea, .long tr, .ref eb])), (e1, .inl (G.2.2.1, 200, .inl (nF bt)))]) F R0 rfl [0, 1] rfl rfl (by have e1 := dEn_no (bt := bt) (ln := ln) (p := q) (fun z => by omega); have e2 := dVl_no (bt := bt) (ln := ln) (p := q) (v := ac) (fun z => by omega); rw [← hqe, e1, ← hqv, e2]; exact ⟨_, Or.inl ⟨rfl, fun z => by omega⟩, by omega, rfl, rfl⟩) dX8_readNumber_116
          · skip
            refine j_aload_n (q := 90) (i0 := 0) F rfl dX8_readNumber_89 rfl ?_
            refine j_get (q := 93) (ci := 8) (q0 := 0) (kf := 0) (v := .ref e1) F inX8 rfl rfl rfl tw_658 rfl rfl dX8_readNumber_90 rfl ?_
            refine j_aload_n (q := 94) (i0 := 0) F rfl dX8_readNumber_93 rfl ?_
            refine j_get (q := 97) (ci := 8) (q0 := 0) (kf := 3) (v := .int (nI b)) F inX8 rfl rfl rfl tw_661 rfl rfl dX8_readNumber_94 rfl ?_
            refine j_iald (q := 98) (q0 := 1) (i := b) (v := nI (bt b)) F rfl rfl (by omega) rfl (rfl) dX8_readNumber_97 rfl ?_
            refine j_bipush (q := 100) (v := nI 48) F (by decide) dX8_readNumber_98 rfl ?_
            refine j_icmp_ne (q := 103) (t := 107) F (Pp := bt b = 48) (nI_eq (by omega) (by omega)) dX8_readNumber_100 rfl rfl (fun c5 => ?_) (fun c5 => ?_)
            · skip
              refine j_iconst (q := 108) (v := nI 2) F (by decide) dX8_readNumber_107 rfl ?_
              refine j_put (q := 111) (ci := 8) (q0 := 0) (kf := 4) (v := .int (nI 2)) (w' := [(e0, .inr (8, [.ref e1, .int (nI ln), .int (nI q), .int (nI b), .int (nI 2), .int (nI td), .int (nI rl), .int (nI rs), .int (nI rd), .ref e2, .ref e3, .ref e4, .int (nI n), .int (nI m), .ref e5, .ref e6, .ref e7, .int (nI be), .int (nI sd), .int (nI tu), .int (nI fo), .ref e8, .ref e9, .int (nI kn), .int (nI tl), .int (nI rn), .ref ea, .long tr, .ref eb])), (e1, .inl (G.2.2.1, 200, .inl (nF bt)))]) F inX8 tyX8_ok nmX8 rfl rfl rfl tw_662 rfl rfl rfl rfl rfl rfl dX8_readNumber_108 rfl ?_
              refine j_aload_n (q := 112) (i0 := 0) F rfl dX8_readNumber_111 rfl ?_
              refine j_iload_n (q := 113) (i0 := 1) F rfl dX8_readNumber_112 rfl ?_
              refine j_put (q := 116) (ci := 8) (q0 := 0) (kf := 5) (v := .int (nI ac)) (w' := [(e0, .inr (8, [.ref e1, .int (nI ln), .int (nI q), .int (nI b), .int (nI 2), .int (nI ac), .int (nI rl), .int (nI rs), .int (nI rd), .ref e2, .ref e3, .ref e4, .int (nI n), .int (nI m), .ref e5, .ref e6, .ref e7, .int (nI be), .int (nI sd), .int (nI tu), .int (nI fo), .ref e8, .ref e9, .int (nI kn), .int (nI tl), .int (nI rn), .ref ea, .long tr, .ref eb])), (e1, .inl (G.2.2.1, 200, .inl (nF bt)))]) F inX8 tyX8_ok nmX8 rfl rfl rfl tw_663 rfl rfl rfl rfl rfl rfl dX8_readNumber_113 rfl ?_
              exact j_vret (w2 := [(e0, .inr (8, [.ref e1, .int (nI ln), .int (nI q), .int (nI b), .int (nI 2), .int (nI ac), .int (nI rl), .int (nI rs), .int (nI rd), .ref e2, .ref e3, .ref e4, .int (nI n), .int (nI m), .ref e5, .ref e6, .ref e7, .int (nI be), .int (nI sd), .int (nI tu), .int (nI fo), .ref e8, .ref e9, .int (nI kn), .int (nI tl), .int (nI rn), .ref ea, .long tr, .ref eb])), (e1, .inl (G.2.2.1, 200, .inl (nF bt)))]) F R0 rfl [0, 1] rfl rfl (by have e1 := dEn_no (bt := bt) (ln := ln) (p := q) (fun z => by omega); have e2 := dVl_no (bt := bt) (ln := ln) (p := q) (v := ac) (fun z => by omega); rw [← hqe, e1, ← hqv, e2]; exact ⟨_, Or.inl ⟨rfl, fun z => by omega⟩, by omega, rfl, rfl⟩) dX8_readNumber_116
            · skip
              refine j_iconst (q := 104) (v := nI 4) F (by decide) dX8_readNumber_103 rfl ?_
              refine j_goto (t := 108) F dX8_readNumber_104 rfl ?_
              refine j_put (q := 111) (ci := 8) (q0 := 0) (kf := 4) (v := .int (nI 4)) (w' := [(e0, .inr (8, [.ref e1, .int (nI ln), .int (nI q), .int (nI b), .int (nI 4), .int (nI td), .int (nI rl), .int (nI rs), .int (nI rd), .ref e2, .ref e3, .ref e4, .int (nI n), .int (nI m), .ref e5, .ref e6, .ref e7, .int (nI be), .int (nI sd), .int (nI tu), .int (nI fo), .ref e8, .ref e9, .int (nI kn), .int (nI tl), .int (nI rn), .ref ea, .long tr, .ref eb])), (e1, .inl (G.2.2.1, 200, .inl (nF bt)))]) F inX8 tyX8_ok nmX8 rfl rfl rfl tw_662 rfl rfl rfl rfl rfl rfl dX8_readNumber_108 rfl ?_
              refine j_aload_n (q := 112) (i0 := 0) F rfl dX8_readNumber_111 rfl ?_
              refine j_iload_n (q := 113) (i0 := 1) F rfl dX8_readNumber_112 rfl ?_
              refine j_put (q := 116) (ci := 8) (q0 := 0) (kf := 5) (v := .int (nI ac)) (w' := [(e0, .inr (8, [.ref e1, .int (nI ln), .int (nI q), .int (nI b), .int (nI 4), .int (nI ac), .int (nI rl), .int (nI rs), .int (nI rd), .ref e2, .ref e3, .ref e4, .int (nI n), .int (nI m), .ref e5, .ref e6, .ref e7, .int (nI be), .int (nI sd), .int (nI tu), .int (nI fo), .ref e8, .ref e9, .int (nI kn), .int (nI tl), .int (nI rn), .ref ea, .long tr, .ref eb])), (e1, .inl (G.2.2.1, 200, .inl (nF bt)))]) F inX8 tyX8_ok nmX8 rfl rfl rfl tw_663 rfl rfl rfl rfl rfl rfl dX8_readNumber_113 rfl ?_
              exact j_vret (w2 := [(e0, .inr (8, [.ref e1, .int (nI ln), .int (nI q), .int (nI b), .int (nI 4), .int (nI ac), .int (nI rl), .int (nI rs), .int (nI rd), .ref e2, .ref e3, .ref e4, .int (nI n), .int (nI m), .ref e5, .ref e6, .ref e7, .int (nI be), .int (nI sd), .int (nI tu), .int (nI fo), .ref e8, .ref e9, .int (nI kn), .int (nI tl), .int (nI rn), .ref ea, .long tr, .ref eb])), (e1, .inl (G.2.2.1, 200, .inl (nF bt)))]) F R0 rfl [0, 1] rfl rfl (by have e1 := dEn_no (bt := bt) (ln := ln) (p := q) (fun z => by omega); have e2 := dVl_no (bt := bt) (ln := ln) (p := q) (v := ac) (fun z => by omega); rw [← hqe, e1, ← hqv, e2]; exact ⟨_, Or.inr ⟨rfl, by omega⟩, by omega, rfl, rfl⟩) dX8_readNumber_116
      · skip
        refine j_aload_n (q := 14) (i0 := 0) F rfl dX8_readNumber_13 rfl ?_
        refine j_get (q := 17) (ci := 8) (q0 := 0) (kf := 0) (v := .ref e1) F inX8 rfl rfl rfl tw_658 rfl rfl dX8_readNumber_14 rfl ?_
        refine j_aload_n (q := 18) (i0 := 0) F rfl dX8_readNumber_17 rfl ?_
        refine j_get (q := 21) (ci := 8) (q0 := 0) (kf := 2) (v := .int (nI q)) F inX8 rfl rfl rfl tw_660 rfl rfl dX8_readNumber_18 rfl ?_
        refine j_iald (q := 22) (q0 := 1) (i := q) (v := nI (bt q)) F rfl rfl (by omega) rfl (rfl) dX8_readNumber_21 rfl ?_
        refine j_callS (q := 25) (As := [.int (nI (bt q))]) (wr := [(e0, .inr (8, [.ref e1, .int (nI ln), .int (nI q), .int (nI b), .int (nI tk), .int (nI td), .int (nI rl), .int (nI rs), .int (nI rd), .ref e2, .ref e3, .ref e4, .int (nI n), .int (nI m), .ref e5, .ref e6, .ref e7, .int (nI be), .int (nI sd), .int (nI tu), .int (nI fo), .ref e8, .ref e9, .int (nI kn), .int (nI tl), .int (nI rn), .ref ea, .long tr, .ref eb])), (e1, .inl (G.2.2.1, 200, .inl (nF bt)))]) (st := []) F (c_X8_isFigure G (c := bt q) (hbt q (by omega))) kwX8_isFigure tw_776 tw_775 ⟨Nat.le_of_ble_eq_true rfl, Nat.le_of_ble_eq_true rfl, rfl, rfl, Nat.le_of_ble_eq_true rfl, Nat.le_of_ble_eq_true rfl⟩ [] [0, 1] rfl rfl rfl rfl rfl rfl rfl (Nat.le_of_ble_eq_true rfl) dX8_readNumber_22 rfl ?_
        rintro r_ w_ ⟨rfl, (⟨rfl, hD2⟩ | ⟨rfl, hD2⟩)⟩
        · skip
          refine j_w (w' := [(e0, .inr (8, [.ref e1, .int (nI ln), .int (nI q), .int (nI b), .int (nI tk), .int (nI td), .int (nI rl), .int (nI rs), .int (nI rd), .ref e2, .ref e3, .ref e4, .int (nI n), .int (nI m), .ref e5, .ref e6, .ref e7, .int (nI be), .int (nI sd), .int (nI tu), .int (nI fo), .ref e8, .ref e9, .int (nI kn), .int (nI tl), .int (nI rn), .ref ea, .long tr, .ref eb])), (e1, .inl (G.2.2.1, 200, .inl (nF bt)))]) [0, 1] rfl rfl ?_
          show Jw G X _ 0 0 25 _ [.int (nI 1)] _
          refine j_if_eq (q := 28) (t := 69) F (cf (by decide)) dX8_readNumber_25 rfl rfl (fun z => False.elim z) (fun _ => ?_)
          refine j_iload_n (q := 29) (i0 := 1) F rfl dX8_readNumber_28 rfl ?_
          refine j_bipush (q := 31) (v := nI 99) F (by decide) dX8_readNumber_29 rfl ?_
          refine j_icmp_le (q := 34) (t := 38) F (Pp := ¬ 99 < ac) (by rw [nI_leI (by omega) (by omega)]; omega) dX8_readNumber_31 rfl rfl (fun c98 => ?_) (fun c98 => ?_)
          · skip
            have hbq := hbt q (by omega)
            refine j_bipush (q := 40) (v := nI 10) F (by decide) dX8_readNumber_38 rfl ?_
            refine j_iload_n (q := 41) (i0 := 1) F rfl dX8_readNumber_40 rfl ?_
            refine j_imul (q := 42) (v := nI (10 * ac)) F (pk_mul _ _) dX8_readNumber_41 rfl ?_
            refine j_aload_n (q := 43) (i0 := 0) F rfl dX8_readNumber_42 rfl ?_
            refine j_get (q := 46) (ci := 8) (q0 := 0) (kf := 0) (v := .ref e1) F inX8 rfl rfl rfl tw_658 rfl rfl dX8_readNumber_43 rfl ?_
            refine j_aload_n (q := 47) (i0 := 0) F rfl dX8_readNumber_46 rfl ?_
            refine j_get (q := 50) (ci := 8) (q0 := 0) (kf := 2) (v := .int (nI q)) F inX8 rfl rfl rfl tw_660 rfl rfl dX8_readNumber_47 rfl ?_
            refine j_iald (q := 51) (q0 := 1) (i := q) (v := nI (bt q)) F rfl rfl (by omega) rfl (rfl) dX8_readNumber_50 rfl ?_
            refine j_iadd (q := 52) (v := nI ((10 * ac) + (bt q))) F (nI_add _ _) dX8_readNumber_51 rfl ?_
            refine j_bipush (q := 54) (v := nI 48) F (by decide) dX8_readNumber_52 rfl ?_
            refine j_isub (q := 55) (v := nI (((10 * ac) + (bt q)) - 48)) F (pk_sub (by omega)) dX8_readNumber_54 rfl ?_
            refine j_istore_n (q := 56) (lv' := [(1, .int (nI (((10 * ac) + (bt q)) - 48))), (0, .ref e0)]) F dX8_readNumber_55 (by decide) rfl rfl ?_
            refine j_aload_n (q := 57) (i0 := 1) F rfl dX8_readNumber_56 rfl ?_
            refine j_dup (q := 58) F rfl dX8_readNumber_57 rfl ?_
            refine j_get (q := 61) (ci := 8) (q0 := 0) (kf := 2) (v := .int (nI q)) F inX8 rfl rfl rfl tw_660 rfl rfl dX8_readNumber_58 rfl ?_
            refine j_iconst (q := 62) (v := nI 1) F (by decide) dX8_readNumber_61 rfl ?_
            refine j_iadd (q := 63) (v := nI (q + 1)) F (nI_add _ _) dX8_readNumber_62 rfl ?_
            refine j_put (q := 66) (ci := 8) (q0 := 0) (kf := 2) (v := .int (nI (q + 1))) (w' := [(e0, .inr (8, [.ref e1, .int (nI ln), .int (nI (q + 1)), .int (nI b), .int (nI tk), .int (nI td), .int (nI rl), .int (nI rs), .int (nI rd), .ref e2, .ref e3, .ref e4, .int (nI n), .int (nI m), .ref e5, .ref e6, .ref e7, .int (nI be), .int (nI sd), .int (nI tu), .int (nI fo), .ref e8, .ref e9, .int (nI kn), .int (nI tl), .int (nI rn), .ref ea, .long tr, .ref eb])), (e1, .inl (G.2.2.1, 200, .inl (nF bt)))]) F inX8 tyX8_ok nmX8 rfl rfl rfl tw_660 rfl rfl rfl rfl rfl rfl dX8_readNumber_63 rfl ?_
            refine j_goto (t := 2) F dX8_readNumber_66 rfl ?_
            refine j_lv [1, 0] (lv' := [(0, .ref e0), (1, .int (nI (((10 * ac) + (bt q)) - 48)))]) rfl ?_
            exact ih1 (q + 1) _ (by omega) (by omega) ((dEn_yes (by omega) hD2).symm.trans hqe) (by rw [← hqv, dVl_yes (by omega) hD2, if_neg (by omega)]) (by omega) (by omega)
          · skip
            have c99 := Classical.not_not.mp c98
            refine j_iload_n (q := 35) (i0 := 1) F rfl dX8_readNumber_34 rfl ?_
            refine j_goto (t := 55) F dX8_readNumber_35 rfl ?_
            refine j_istore_n (q := 56) (lv' := [(1, .int (nI ac)), (0, .ref e0)]) F dX8_readNumber_55 (by decide) rfl rfl ?_
            refine j_aload_n (q := 57) (i0 := 1) F rfl dX8_readNumber_56 rfl ?_
            refine j_dup (q := 58) F rfl dX8_readNumber_57 rfl ?_
            refine j_get (q := 61) (ci := 8) (q0 := 0) (kf := 2) (v := .int (nI q)) F inX8 rfl rfl rfl tw_660 rfl rfl dX8_readNumber_58 rfl ?_
            refine j_iconst (q := 62) (v := nI 1) F (by decide) dX8_readNumber_61 rfl ?_
            refine j_iadd (q := 63) (v := nI (q + 1)) F (nI_add _ _) dX8_readNumber_62 rfl ?_
            refine j_put (q := 66) (ci := 8) (q0 := 0) (kf := 2) (v := .int (nI (q + 1))) (w' := [(e0, .inr (8, [.ref e1, .int (nI ln), .int (nI (q + 1)), .int (nI b), .int (nI tk), .int (nI td), .int (nI rl), .int (nI rs), .int (nI rd), .ref e2, .ref e3, .ref e4, .int (nI n), .int (nI m), .ref e5, .ref e6, .ref e7, .int (nI be), .int (nI sd), .int (nI tu), .int (nI fo), .ref e8, .ref e9, .int (nI kn), .int (nI tl), .int (nI rn), .ref ea, .long tr, .ref eb])), (e1, .inl (G.2.2.1, 200, .inl (nF bt)))]) F inX8 tyX8_ok nmX8 rfl rfl rfl tw_660 rfl rfl rfl rfl rfl rfl dX8_readNumber_63 rfl ?_
            refine j_goto (t := 2) F dX8_readNumber_66 rfl ?_
            refine j_lv [1, 0] (lv' := [(0, .ref e0), (1, .int (nI ac))]) rfl ?_
            exact ih1 (q + 1) ac (by omega) (by omega) ((dEn_yes (by omega) hD2).symm.trans hqe) (by rw [← hqv, dVl_yes (by omega) hD2, if_pos c99]) hac (by omega)
        · skip
          refine j_w (w' := [(e0, .inr (8, [.ref e1, .int (nI ln), .int (nI q), .int (nI b), .int (nI tk), .int (nI td), .int (nI rl), .int (nI rs), .int (nI rd), .ref e2, .ref e3, .ref e4, .int (nI n), .int (nI m), .ref e5, .ref e6, .ref e7, .int (nI be), .int (nI sd), .int (nI tu), .int (nI fo), .ref e8, .ref e9, .int (nI kn), .int (nI tl), .int (nI rn), .ref ea, .long tr, .ref eb])), (e1, .inl (G.2.2.1, 200, .inl (nF bt)))]) [0, 1] rfl rfl ?_
          show Jw G X _ 0 0 25 _ [.int (nI 0)] _
          refine j_if_eq (q := 28) (t := 69) F (ct (by decide)) dX8_readNumber_25 rfl rfl (fun _ => ?_) (fun z => absurd trivial z)
          refine j_aload_n (q := 70) (i0 := 0) F rfl dX8_readNumber_69 rfl ?_
          refine j_iload_n (q := 71) (i0 := 1) F rfl dX8_readNumber_70 rfl ?_
          refine j_bipush (q := 73) (v := nI 99) F (by decide) dX8_readNumber_71 rfl ?_
          refine j_icmp_gt (q := 76) (t := 103) F (Pp := 99 < ac) (nI_ltI (by omega) (by omega)) dX8_readNumber_73 rfl rfl (fun c9 => ?_) (fun c9 => ?_)
          · skip
            refine j_iconst (q := 104) (v := nI 4) F (by decide) dX8_readNumber_103 rfl ?_
            refine j_goto (t := 108) F dX8_readNumber_104 rfl ?_
            refine j_put (q := 111) (ci := 8) (q0 := 0) (kf := 4) (v := .int (nI 4)) (w' := [(e0, .inr (8, [.ref e1, .int (nI ln), .int (nI q), .int (nI b), .int (nI 4), .int (nI td), .int (nI rl), .int (nI rs), .int (nI rd), .ref e2, .ref e3, .ref e4, .int (nI n), .int (nI m), .ref e5, .ref e6, .ref e7, .int (nI be), .int (nI sd), .int (nI tu), .int (nI fo), .ref e8, .ref e9, .int (nI kn), .int (nI tl), .int (nI rn), .ref ea, .long tr, .ref eb])), (e1, .inl (G.2.2.1, 200, .inl (nF bt)))]) F inX8 tyX8_ok nmX8 rfl rfl rfl tw_662 rfl rfl rfl rfl rfl rfl dX8_readNumber_108 rfl ?_
            refine j_aload_n (q := 112) (i0 := 0) F rfl dX8_readNumber_111 rfl ?_
            refine j_iload_n (q := 113) (i0 := 1) F rfl dX8_readNumber_112 rfl ?_
            refine j_put (q := 116) (ci := 8) (q0 := 0) (kf := 5) (v := .int (nI ac)) (w' := [(e0, .inr (8, [.ref e1, .int (nI ln), .int (nI q), .int (nI b), .int (nI 4), .int (nI ac), .int (nI rl), .int (nI rs), .int (nI rd), .ref e2, .ref e3, .ref e4, .int (nI n), .int (nI m), .ref e5, .ref e6, .ref e7, .int (nI be), .int (nI sd), .int (nI tu), .int (nI fo), .ref e8, .ref e9, .int (nI kn), .int (nI tl), .int (nI rn), .ref ea, .long tr, .ref eb])), (e1, .inl (G.2.2.1, 200, .inl (nF bt)))]) F inX8 tyX8_ok nmX8 rfl rfl rfl tw_663 rfl rfl rfl rfl rfl rfl dX8_readNumber_113 rfl ?_
            exact j_vret (w2 := [(e0, .inr (8, [.ref e1, .int (nI ln), .int (nI q), .int (nI b), .int (nI 4), .int (nI ac), .int (nI rl), .int (nI rs), .int (nI rd), .ref e2, .ref e3, .ref e4, .int (nI n), .int (nI m), .ref e5, .ref e6, .ref e7, .int (nI be), .int (nI sd), .int (nI tu), .int (nI fo), .ref e8, .ref e9, .int (nI kn), .int (nI tl), .int (nI rn), .ref ea, .long tr, .ref eb])), (e1, .inl (G.2.2.1, 200, .inl (nF bt)))]) F R0 rfl [0, 1] rfl rfl (by have e1 := dEn_no (bt := bt) (ln := ln) (p := q) (fun z => hD2 z.2); have e2 := dVl_no (bt := bt) (ln := ln) (p := q) (v := ac) (fun z => hD2 z.2); rw [← hqe, e1, ← hqv, e2]; exact ⟨_, Or.inr ⟨rfl, by omega⟩, by omega, rfl, rfl⟩) dX8_readNumber_116
          · skip
            refine j_aload_n (q := 77) (i0 := 0) F rfl dX8_readNumber_76 rfl ?_
            refine j_get (q := 80) (ci := 8) (q0 := 0) (kf := 2) (v := .int (nI q)) F inX8 rfl rfl rfl tw_660 rfl rfl dX8_readNumber_77 rfl ?_
            refine j_aload_n (q := 81) (i0 := 0) F rfl dX8_readNumber_80 rfl ?_
            refine j_get (q := 84) (ci := 8) (q0 := 0) (kf := 3) (v := .int (nI b)) F inX8 rfl rfl rfl tw_661 rfl rfl dX8_readNumber_81 rfl ?_
            refine j_isub (q := 85) (v := nI (q - b)) F (pk_sub (by omega)) dX8_readNumber_84 rfl ?_
            refine j_iconst (q := 86) (v := nI 1) F (by decide) dX8_readNumber_85 rfl ?_
            refine j_icmp_le (q := 89) (t := 107) F (Pp := q - b ≤ 1) (nI_leI (by omega) (by omega)) dX8_readNumber_86 rfl rfl (fun c10 => ?_) (fun c10 => ?_)
            · skip
              refine j_iconst (q := 108) (v := nI 2) F (by decide) dX8_readNumber_107 rfl ?_
              refine j_put (q := 111) (ci := 8) (q0 := 0) (kf := 4) (v := .int (nI 2)) (w' := [(e0, .inr (8, [.ref e1, .int (nI ln), .int (nI q), .int (nI b), .int (nI 2), .int (nI td), .int (nI rl), .int (nI rs), .int (nI rd), .ref e2, .ref e3, .ref e4, .int (nI n), .int (nI m), .ref e5, .ref e6, .ref e7, .int (nI be), .int (nI sd), .int (nI tu), .int (nI fo), .ref e8, .ref e9, .int (nI kn), .int (nI tl), .int (nI rn), .ref ea, .long tr, .ref eb])), (e1, .inl (G.2.2.1, 200, .inl (nF bt)))]) F inX8 tyX8_ok nmX8 rfl rfl rfl tw_662 rfl rfl rfl rfl rfl rfl dX8_readNumber_108 rfl ?_
              refine j_aload_n (q := 112) (i0 := 0) F rfl dX8_readNumber_111 rfl ?_
              refine j_iload_n (q := 113) (i0 := 1) F rfl dX8_readNumber_112 rfl ?_
              refine j_put (q := 116) (ci := 8) (q0 := 0) (kf := 5) (v := .int (nI ac)) (w' := [(e0, .inr (8, [.ref e1, .int (nI ln), .int (nI q), .int (nI b), .int (nI 2), .int (nI ac), .int (nI rl), .int (nI rs), .int (nI rd), .ref e2, .ref e3, .ref e4, .int (nI n), .int (nI m), .ref e5, .ref e6, .ref e7, .int (nI be), .int (nI sd), .int (nI tu), .int (nI fo), .ref e8, .ref e9, .int (nI kn), .int (nI tl), .int (nI rn), .ref ea, .long tr, .ref eb])), (e1, .inl (G.2.2.1, 200, .inl (nF bt)))]) F inX8 tyX8_ok nmX8 rfl rfl rfl tw_663 rfl rfl rfl rfl rfl rfl dX8_readNumber_113 rfl ?_
              exact j_vret (w2 := [(e0, .inr (8, [.ref e1, .int (nI ln), .int (nI q), .int (nI b), .int (nI 2), .int (nI ac), .int (nI rl), .int (nI rs), .int (nI rd), .ref e2, .ref e3, .ref e4, .int (nI n), .int (nI m), .ref e5, .ref e6, .ref e7, .int (nI be), .int (nI sd), .int (nI tu), .int (nI fo), .ref e8, .ref e9, .int (nI kn), .int (nI tl), .int (nI rn), .ref ea, .long tr, .ref eb])), (e1, .inl (G.2.2.1, 200, .inl (nF bt)))]) F R0 rfl [0, 1] rfl rfl (by have e1 := dEn_no (bt := bt) (ln := ln) (p := q) (fun z => hD2 z.2); have e2 := dVl_no (bt := bt) (ln := ln) (p := q) (v := ac) (fun z => hD2 z.2); rw [← hqe, e1, ← hqv, e2]; exact ⟨_, Or.inl ⟨rfl, fun z => by omega⟩, by omega, rfl, rfl⟩) dX8_readNumber_116
            · skip
              refine j_aload_n (q := 90) (i0 := 0) F rfl dX8_readNumber_89 rfl ?_
              refine j_get (q := 93) (ci := 8) (q0 := 0) (kf := 0) (v := .ref e1) F inX8 rfl rfl rfl tw_658 rfl rfl dX8_readNumber_90 rfl ?_
              refine j_aload_n (q := 94) (i0 := 0) F rfl dX8_readNumber_93 rfl ?_
              refine j_get (q := 97) (ci := 8) (q0 := 0) (kf := 3) (v := .int (nI b)) F inX8 rfl rfl rfl tw_661 rfl rfl dX8_readNumber_94 rfl ?_
              refine j_iald (q := 98) (q0 := 1) (i := b) (v := nI (bt b)) F rfl rfl (by omega) rfl (rfl) dX8_readNumber_97 rfl ?_
              refine j_bipush (q := 100) (v := nI 48) F (by decide) dX8_readNumber_98 rfl ?_
              refine j_icmp_ne (q := 103) (t := 107) F (Pp := bt b = 48) (nI_eq (by omega) (by omega)) dX8_readNumber_100 rfl rfl (fun c11 => ?_) (fun c11 => ?_)
              · skip
                refine j_iconst (q := 108) (v := nI 2) F (by decide) dX8_readNumber_107 rfl ?_
                refine j_put (q := 111) (ci := 8) (q0 := 0) (kf := 4) (v := .int (nI 2)) (w' := [(e0, .inr (8, [.ref e1, .int (nI ln), .int (nI q), .int (nI b), .int (nI 2), .int (nI td), .int (nI rl), .int (nI rs), .int (nI rd), .ref e2, .ref e3, .ref e4, .int (nI n), .int (nI m), .ref e5, .ref e6, .ref e7, .int (nI be), .int (nI sd), .int (nI tu), .int (nI fo), .ref e8, .ref e9, .int (nI kn), .int (nI tl), .int (nI rn), .ref ea, .long tr, .ref eb])), (e1, .inl (G.2.2.1, 200, .inl (nF bt)))]) F inX8 tyX8_ok nmX8 rfl rfl rfl tw_662 rfl rfl rfl rfl rfl rfl dX8_readNumber_108 rfl ?_
                refine j_aload_n (q := 112) (i0 := 0) F rfl dX8_readNumber_111 rfl ?_
                refine j_iload_n (q := 113) (i0 := 1) F rfl dX8_readNumber_112 rfl ?_
                refine j_put (q := 116) (ci := 8) (q0 := 0) (kf := 5) (v := .int (nI ac)) (w' := [(e0, .inr (8, [.ref e1, .int (nI ln), .int (nI q), .int (nI b), .int (nI 2), .int (nI ac), .int (nI rl), .int (nI rs), .int (nI rd), .ref e2, .ref e3, .ref e4, .int (nI n), .int (nI m), .ref e5, .ref e6, .ref e7, .int (nI be), .int (nI sd), .int (nI tu), .int (nI fo), .ref e8, .ref e9, .int (nI kn), .int (nI tl), .int (nI rn), .ref ea, .long tr, .ref eb])), (e1, .inl (G.2.2.1, 200, .inl (nF bt)))]) F inX8 tyX8_ok nmX8 rfl rfl rfl tw_663 rfl rfl rfl rfl rfl rfl dX8_readNumber_113 rfl ?_
                exact j_vret (w2 := [(e0, .inr (8, [.ref e1, .int (nI ln), .int (nI q), .int (nI b), .int (nI 2), .int (nI ac), .int (nI rl), .int (nI rs), .int (nI rd), .ref e2, .ref e3, .ref e4, .int (nI n), .int (nI m), .ref e5, .ref e6, .ref e7, .int (nI be), .int (nI sd), .int (nI tu), .int (nI fo), .ref e8, .ref e9, .int (nI kn), .int (nI tl), .int (nI rn), .ref ea, .long tr, .ref eb])), (e1, .inl (G.2.2.1, 200, .inl (nF bt)))]) F R0 rfl [0, 1] rfl rfl (by have e1 := dEn_no (bt := bt) (ln := ln) (p := q) (fun z => hD2 z.2); have e2 := dVl_no (bt := bt) (ln := ln) (p := q) (v := ac) (fun z => hD2 z.2); rw [← hqe, e1, ← hqv, e2]; exact ⟨_, Or.inl ⟨rfl, fun z => by omega⟩, by omega, rfl, rfl⟩) dX8_readNumber_116
              · skip
                refine j_iconst (q := 104) (v := nI 4) F (by decide) dX8_readNumber_103 rfl ?_
                refine j_goto (t := 108) F dX8_readNumber_104 rfl ?_
                refine j_put (q := 111) (ci := 8) (q0 := 0) (kf := 4) (v := .int (nI 4)) (w' := [(e0, .inr (8, [.ref e1, .int (nI ln), .int (nI q), .int (nI b), .int (nI 4), .int (nI td), .int (nI rl), .int (nI rs), .int (nI rd), .ref e2, .ref e3, .ref e4, .int (nI n), .int (nI m), .ref e5, .ref e6, .ref e7, .int (nI be), .int (nI sd), .int (nI tu), .int (nI fo), .ref e8, .ref e9, .int (nI kn), .int (nI tl), .int (nI rn), .ref ea, .long tr, .ref eb])), (e1, .inl (G.2.2.1, 200, .inl (nF bt)))]) F inX8 tyX8_ok nmX8 rfl rfl rfl tw_662 rfl rfl rfl rfl rfl rfl dX8_readNumber_108 rfl ?_
                refine j_aload_n (q := 112) (i0 := 0) F rfl dX8_readNumber_111 rfl ?_
                refine j_iload_n (q := 113) (i0 := 1) F rfl dX8_readNumber_112 rfl ?_
                refine j_put (q := 116) (ci := 8) (q0 := 0) (kf := 5) (v := .int (nI ac)) (w' := [(e0, .inr (8, [.ref e1, .int (nI ln), .int (nI q), .int (nI b), .int (nI 4), .int (nI ac), .int (nI rl), .int (nI rs), .int (nI rd), .ref e2, .ref e3, .ref e4, .int (nI n), .int (nI m), .ref e5, .ref e6, .ref e7, .int (nI be), .int (nI sd), .int (nI tu), .int (nI fo), .ref e8, .ref e9, .int (nI kn), .int (nI tl), .int (nI rn), .ref ea, .long tr, .ref eb])), (e1, .inl (G.2.2.1, 200, .inl (nF bt)))]) F inX8 tyX8_ok nmX8 rfl rfl rfl tw_663 rfl rfl rfl rfl rfl rfl dX8_readNumber_113 rfl ?_
                exact j_vret (w2 := [(e0, .inr (8, [.ref e1, .int (nI ln), .int (nI q), .int (nI b), .int (nI 4), .int (nI ac), .int (nI rl), .int (nI rs), .int (nI rd), .ref e2, .ref e3, .ref e4, .int (nI n), .int (nI m), .ref e5, .ref e6, .ref e7, .int (nI be), .int (nI sd), .int (nI tu), .int (nI fo), .ref e8, .ref e9, .int (nI kn), .int (nI tl), .int (nI rn), .ref ea, .long tr, .ref eb])), (e1, .inl (G.2.2.1, 200, .inl (nF bt)))]) F R0 rfl [0, 1] rfl rfl (by have e1 := dEn_no (bt := bt) (ln := ln) (p := q) (fun z => hD2 z.2); have e2 := dVl_no (bt := bt) (ln := ln) (p := q) (v := ac) (fun z => hD2 z.2); rw [← hqe, e1, ← hqv, e2]; exact ⟨_, Or.inr ⟨rfl, by omega⟩, by omega, rfl, rfl⟩) dX8_readNumber_116
  refine j_lv [1, 0] (lv' := [(0, .ref e0), (1, .int (nI 0))]) rfl ?_
  exact lp1 _ b 0 (Nat.le_refl b) (by omega) rfl rfl (by omega) (Nat.lt_succ_self _)

set_option maxHeartbeats 4000000 in
set_option maxRecDepth 100000 in
theorem c_X8_reads (G : Gm) {e0 e1 e2 e3 e4 e5 e6 e7 e8 e9 ea eb : Nat} {ln bg tk td rl rs rd n m be sd tu fo kn tl rn : Nat} {bt : Nat → Nat}  {tr : Int64} {p : Nat} (hl : ln ≤ 200) (hbt : ∀ i, i < ln → bt i < 256) (hp : p ≤ ln) (htd : td ≤ 2000) : Mg G yX8_reads cX8_reads 1 none ({ frames := 3, cells := 0, slots := 0, locals := 66 } : Room) 0 0 [.ref e0] [(e0, .inr (8, [.ref e1, .int (nI ln), .int (nI p), .int (nI bg), .int (nI tk), .int (nI td), .int (nI rl), .int (nI rs), .int (nI rd), .ref e2, .ref e3, .ref e4, .int (nI n), .int (nI m), .ref e5, .ref e6, .ref e7, .int (nI be), .int (nI sd), .int (nI tu), .int (nI fo), .ref e8, .ref e9, .int (nI kn), .int (nI tl), .int (nI rn), .ref ea, .long tr, .ref eb])), (e1, .inl (G.2.2.1, 200, .inl (nF bt)))] (fun r w2 => ∃ tk2 td2 aa2, MTok bt ln p tk2 td2 aa2 ∧ aa2 ≤ ln ∧ td2 ≤ 2000 ∧ r = none ∧ w2 = [(e0, .inr (8, [.ref e1, .int (nI ln), .int (nI aa2), .int (nI (sk bt ln p)), .int (nI tk2), .int (nI td2), .int (nI rl), .int (nI rs), .int (nI rd), .ref e2, .ref e3, .ref e4, .int (nI n), .int (nI m), .ref e5, .ref e6, .ref e7, .int (nI be), .int (nI sd), .int (nI tu), .int (nI fo), .ref e8, .ref e9, .int (nI kn), .int (nI tl), .int (nI rn), .ref ea, .long tr, .ref eb])), (e1, .inl (G.2.2.1, 200, .inl (nF bt)))]) := by
  refine Mg.mk (lv := [(0, .ref e0)]) (by decide) rfl rfl (fun X F R0 => ?_)
  have lp1 : ∀ (fu : Nat) (q : Nat) (hq1 : p ≤ q) (hq2 : q ≤ ln) (hqe : sk bt ln q = sk bt ln p), (ln - q) < fu → Jw G X 1 0 0 0 [(0, .ref e0)] [] [(e0, .inr (8, [.ref e1, .int (nI ln), .int (nI q), .int (nI bg), .int (nI tk), .int (nI td), .int (nI rl), .int (nI rs), .int (nI rd), .ref e2, .ref e3, .ref e4, .int (nI n), .int (nI m), .ref e5, .ref e6, .ref e7, .int (nI be), .int (nI sd), .int (nI tu), .int (nI fo), .ref e8, .ref e9, .int (nI kn), .int (nI tl), .int (nI rn), .ref ea, .long tr, .ref eb])), (e1, .inl (G.2.2.1, 200, .inl (nF bt)))] := by
    intro fu
    induction fu with
    | zero => intro q hq1 hq2 hqe hfu; exact absurd hfu (Nat.not_lt_zero _)
    | succ fu ih1 =>
      intro q hq1 hq2 hqe hfu
      refine j_aload_n (q := 1) (i0 := 0) F rfl dX8_reads_0 rfl ?_
      refine j_get (q := 4) (ci := 8) (q0 := 0) (kf := 2) (v := .int (nI q)) F inX8 rfl rfl rfl tw_660 rfl rfl dX8_reads_1 rfl ?_
      refine j_aload_n (q := 5) (i0 := 0) F rfl dX8_reads_4 rfl ?_
      refine j_get (q := 8) (ci := 8) (q0 := 0) (kf := 1) (v := .int (nI ln)) F inX8 rfl rfl rfl tw_659 rfl rfl dX8_reads_5 rfl ?_
      refine j_icmp_ge (q := 11) (t := 38) F (Pp := ln ≤ q) (nI_leI (by omega) (by omega)) dX8_reads_8 rfl rfl (fun c2 => ?_) (fun c2 => ?_)
      · skip
        have hsk : sk bt ln p = q := hqe.symm.trans (sk_no (fun z => by omega))
        refine j_aload_n (q := 39) (i0 := 0) F rfl dX8_reads_38 rfl ?_
        refine j_aload_n (q := 40) (i0 := 0) F rfl dX8_reads_39 rfl ?_
        refine j_get (q := 43) (ci := 8) (q0 := 0) (kf := 2) (v := .int (nI q)) F inX8 rfl rfl rfl tw_660 rfl rfl dX8_reads_40 rfl ?_
        refine j_put (q := 46) (ci := 8) (q0 := 0) (kf := 3) (v := .int (nI q)) (w' := [(e0, .inr (8, [.ref e1, .int (nI ln), .int (nI q), .int (nI q), .int (nI tk), .int (nI td), .int (nI rl), .int (nI rs), .int (nI rd), .ref e2, .ref e3, .ref e4, .int (nI n), .int (nI m), .ref e5, .ref e6, .ref e7, .int (nI be), .int (nI sd), .int (nI tu), .int (nI fo), .ref e8, .ref e9, .int (nI kn), .int (nI tl), .int (nI rn), .ref ea, .long tr, .ref eb])), (e1, .inl (G.2.2.1, 200, .inl (nF bt)))]) F inX8 tyX8_ok nmX8 rfl rfl rfl tw_661 rfl rfl rfl rfl rfl rfl dX8_reads_43 rfl ?_
        refine j_aload_n (q := 47) (i0 := 0) F rfl dX8_reads_46 rfl ?_
        refine j_get (q := 50) (ci := 8) (q0 := 0) (kf := 2) (v := .int (nI q)) F inX8 rfl rfl rfl tw_660 rfl rfl dX8_reads_47 rfl ?_
        refine j_aload_n (q := 51) (i0 := 0) F rfl dX8_reads_50 rfl ?_
        refine j_get (q := 54) (ci := 8) (q0 := 0) (kf := 1) (v := .int (nI ln)) F inX8 rfl rfl rfl tw_659 rfl rfl dX8_reads_51 rfl ?_
        refine j_icmp_ne (q := 57) (t := 65) F (Pp := q = ln) (nI_eq (by omega) (by omega)) dX8_reads_54 rfl rfl (fun cq => ?_) (fun cq => ?_)
        · skip
          have hne_ : ¬ q = ln := cq
          have hbq2 := hbt q (by omega)
          refine j_aload_n (q := 66) (i0 := 0) F rfl dX8_reads_65 rfl ?_
          refine j_get (q := 69) (ci := 8) (q0 := 0) (kf := 0) (v := .ref e1) F inX8 rfl rfl rfl tw_658 rfl rfl dX8_reads_66 rfl ?_
          refine j_aload_n (q := 70) (i0 := 0) F rfl dX8_reads_69 rfl ?_
          refine j_get (q := 73) (ci := 8) (q0 := 0) (kf := 2) (v := .int (nI q)) F inX8 rfl rfl rfl tw_660 rfl rfl dX8_reads_70 rfl ?_
          refine j_iald (q := 74) (q0 := 1) (i := q) (v := nI (bt q)) F rfl rfl (by omega) rfl (rfl) dX8_reads_73 rfl ?_
          refine j_callS (q := 77) (As := [.int (nI (bt q))]) (wr := [(e0, .inr (8, [.ref e1, .int (nI ln), .int (nI q), .int (nI q), .int (nI tk), .int (nI td), .int (nI rl), .int (nI rs), .int (nI rd), .ref e2, .ref e3, .ref e4, .int (nI n), .int (nI m), .ref e5, .ref e6, .ref e7, .int (nI be), .int (nI sd), .int (nI tu), .int (nI fo), .ref e8, .ref e9, .int (nI kn), .int (nI tl), .int (nI rn), .ref ea, .long tr, .ref eb])), (e1, .inl (G.2.2.1, 200, .inl (nF bt)))]) (st := []) F (c_X8_isLetter G (c := bt q) (hbq2)) kwX8_isLetter tw_767 tw_766 ⟨Nat.le_of_ble_eq_true rfl, Nat.le_of_ble_eq_true rfl, rfl, rfl, Nat.le_of_ble_eq_true rfl, Nat.le_of_ble_eq_true rfl⟩ [] [0, 1] rfl rfl rfl rfl rfl rfl rfl (Nat.le_of_ble_eq_true rfl) dX8_reads_74 rfl ?_
          rintro r_ w_ ⟨rfl, (⟨rfl, hlet⟩ | ⟨rfl, hlet⟩)⟩
          · skip
            refine j_w (w' := [(e0, .inr (8, [.ref e1, .int (nI ln), .int (nI q), .int (nI q), .int (nI tk), .int (nI td), .int (nI rl), .int (nI rs), .int (nI rd), .ref e2, .ref e3, .ref e4, .int (nI n), .int (nI m), .ref e5, .ref e6, .ref e7, .int (nI be), .int (nI sd), .int (nI tu), .int (nI fo), .ref e8, .ref e9, .int (nI kn), .int (nI tl), .int (nI rn), .ref ea, .long tr, .ref eb])), (e1, .inl (G.2.2.1, 200, .inl (nF bt)))]) [0, 1] rfl rfl ?_
            show Jw G X _ 0 0 77 _ [.int (nI 1)] _
            refine j_if_eq (q := 80) (t := 87) F (cf (by decide)) dX8_reads_77 rfl rfl (fun z => False.elim z) (fun _ => ?_)
            refine j_aload_n (q := 81) (i0 := 0) F rfl dX8_reads_80 rfl ?_
            refine j_callV (q := 84) (ci := 8) (q0 := 0) (As := []) (wr := []) (st := []) F (c_X8_readLetters G hl hbt (show q < ln by omega) hlet) kwX8_readLetters tw_773 tw_22 tw_771 ⟨Nat.le_of_ble_eq_true rfl, Nat.le_of_ble_eq_true rfl, rfl, rfl, Nat.le_of_ble_eq_true rfl, Nat.le_of_ble_eq_true rfl⟩ [0, 1] [] rfl rfl rfl rfl rfl rfl rfl rfl rfl (Nat.le_of_ble_eq_true rfl) dX8_reads_81 rfl ?_
            rintro r_ w_ ⟨tk2, hva, rfl, rfl⟩
            refine j_w (w' := [(e0, .inr (8, [.ref e1, .int (nI ln), .int (nI (lEn bt ln q)), .int (nI q), .int (nI tk2), .int (nI (bt q)), .int (nI rl), .int (nI rs), .int (nI rd), .ref e2, .ref e3, .ref e4, .int (nI n), .int (nI m), .ref e5, .ref e6, .ref e7, .int (nI be), .int (nI sd), .int (nI tu), .int (nI fo), .ref e8, .ref e9, .int (nI kn), .int (nI tl), .int (nI rn), .ref ea, .long tr, .ref eb])), (e1, .inl (G.2.2.1, 200, .inl (nF bt)))]) [0, 1] rfl rfl ?_
            show Jw G X _ 0 0 84 _ [] _
            refine j_goto (t := 154) F dX8_reads_84 rfl ?_
            exact j_vret (w2 := [(e0, .inr (8, [.ref e1, .int (nI ln), .int (nI (lEn bt ln q)), .int (nI q), .int (nI tk2), .int (nI (bt q)), .int (nI rl), .int (nI rs), .int (nI rd), .ref e2, .ref e3, .ref e4, .int (nI n), .int (nI m), .ref e5, .ref e6, .ref e7, .int (nI be), .int (nI sd), .int (nI tu), .int (nI fo), .ref e8, .ref e9, .int (nI kn), .int (nI tl), .int (nI rn), .ref ea, .long tr, .ref eb])), (e1, .inl (G.2.2.1, 200, .inl (nF bt)))]) F R0 rfl [0, 1] rfl rfl (⟨_, _, _, mt_let hsk hne_ hlet hva, (lEn_in (by omega)).2, by omega, rfl, by rw [hsk]⟩) dX8_reads_154
          · skip
            refine j_w (w' := [(e0, .inr (8, [.ref e1, .int (nI ln), .int (nI q), .int (nI q), .int (nI tk), .int (nI td), .int (nI rl), .int (nI rs), .int (nI rd), .ref e2, .ref e3, .ref e4, .int (nI n), .int (nI m), .ref e5, .ref e6, .ref e7, .int (nI be), .int (nI sd), .int (nI tu), .int (nI fo), .ref e8, .ref e9, .int (nI kn), .int (nI tl), .int (nI rn), .ref ea, .long tr, .ref eb])), (e1, .inl (G.2.2.1, 200, .inl (nF bt)))]) [0, 1] rfl rfl ?_
            show Jw G X _ 0 0 77 _ [.int (nI 0)] _
            refine j_if_eq (q := 80) (t := 87) F (ct (by decide)) dX8_reads_77 rfl rfl (fun _ => ?_) (fun z => absurd trivial z)
            refine j_aload_n (q := 88) (i0 := 0) F rfl dX8_reads_87 rfl ?_
            refine j_get (q := 91) (ci := 8) (q0 := 0) (kf := 0) (v := .ref e1) F inX8 rfl rfl rfl tw_658 rfl rfl dX8_reads_88 rfl ?_
            refine j_aload_n (q := 92) (i0 := 0) F rfl dX8_reads_91 rfl ?_
            refine j_get (q := 95) (ci := 8) (q0 := 0) (kf := 2) (v := .int (nI q)) F inX8 rfl rfl rfl tw_660 rfl rfl dX8_reads_92 rfl ?_
            refine j_iald (q := 96) (q0 := 1) (i := q) (v := nI (bt q)) F rfl rfl (by omega) rfl (rfl) dX8_reads_95 rfl ?_
            refine j_callS (q := 99) (As := [.int (nI (bt q))]) (wr := [(e0, .inr (8, [.ref e1, .int (nI ln), .int (nI q), .int (nI q), .int (nI tk), .int (nI td), .int (nI rl), .int (nI rs), .int (nI rd), .ref e2, .ref e3, .ref e4, .int (nI n), .int (nI m), .ref e5, .ref e6, .ref e7, .int (nI be), .int (nI sd), .int (nI tu), .int (nI fo), .ref e8, .ref e9, .int (nI kn), .int (nI tl), .int (nI rn), .ref ea, .long tr, .ref eb])), (e1, .inl (G.2.2.1, 200, .inl (nF bt)))]) (st := []) F (c_X8_isFigure G (c := bt q) (hbq2)) kwX8_isFigure tw_776 tw_775 ⟨Nat.le_of_ble_eq_true rfl, Nat.le_of_ble_eq_true rfl, rfl, rfl, Nat.le_of_ble_eq_true rfl, Nat.le_of_ble_eq_true rfl⟩ [] [0, 1] rfl rfl rfl rfl rfl rfl rfl (Nat.le_of_ble_eq_true rfl) dX8_reads_96 rfl ?_
            rintro r_ w_ ⟨rfl, (⟨rfl, hdig⟩ | ⟨rfl, hdig⟩)⟩
            · skip
              refine j_w (w' := [(e0, .inr (8, [.ref e1, .int (nI ln), .int (nI q), .int (nI q), .int (nI tk), .int (nI td), .int (nI rl), .int (nI rs), .int (nI rd), .ref e2, .ref e3, .ref e4, .int (nI n), .int (nI m), .ref e5, .ref e6, .ref e7, .int (nI be), .int (nI sd), .int (nI tu), .int (nI fo), .ref e8, .ref e9, .int (nI kn), .int (nI tl), .int (nI rn), .ref ea, .long tr, .ref eb])), (e1, .inl (G.2.2.1, 200, .inl (nF bt)))]) [0, 1] rfl rfl ?_
              show Jw G X _ 0 0 99 _ [.int (nI 1)] _
              refine j_if_eq (q := 102) (t := 109) F (cf (by decide)) dX8_reads_99 rfl rfl (fun z => False.elim z) (fun _ => ?_)
              refine j_aload_n (q := 103) (i0 := 0) F rfl dX8_reads_102 rfl ?_
              refine j_callV (q := 106) (ci := 8) (q0 := 0) (As := []) (wr := []) (st := []) F (c_X8_readNumber G hl hbt (show q < ln by omega) hdig) kwX8_readNumber tw_782 tw_23 tw_780 ⟨Nat.le_of_ble_eq_true rfl, Nat.le_of_ble_eq_true rfl, rfl, rfl, Nat.le_of_ble_eq_true rfl, Nat.le_of_ble_eq_true rfl⟩ [0, 1] [] rfl rfl rfl rfl rfl rfl rfl rfl rfl (Nat.le_of_ble_eq_true rfl) dX8_reads_103 rfl ?_
              rintro r_ w_ ⟨tk2, hva, hdv, rfl, rfl⟩
              refine j_w (w' := [(e0, .inr (8, [.ref e1, .int (nI ln), .int (nI (dEn bt ln q)), .int (nI q), .int (nI tk2), .int (nI (dVl bt ln q 0)), .int (nI rl), .int (nI rs), .int (nI rd), .ref e2, .ref e3, .ref e4, .int (nI n), .int (nI m), .ref e5, .ref e6, .ref e7, .int (nI be), .int (nI sd), .int (nI tu), .int (nI fo), .ref e8, .ref e9, .int (nI kn), .int (nI tl), .int (nI rn), .ref ea, .long tr, .ref eb])), (e1, .inl (G.2.2.1, 200, .inl (nF bt)))]) [0, 1] rfl rfl ?_
              show Jw G X _ 0 0 106 _ [] _
              refine j_goto (t := 154) F dX8_reads_106 rfl ?_
              exact j_vret (w2 := [(e0, .inr (8, [.ref e1, .int (nI ln), .int (nI (dEn bt ln q)), .int (nI q), .int (nI tk2), .int (nI (dVl bt ln q 0)), .int (nI rl), .int (nI rs), .int (nI rd), .ref e2, .ref e3, .ref e4, .int (nI n), .int (nI m), .ref e5, .ref e6, .ref e7, .int (nI be), .int (nI sd), .int (nI tu), .int (nI fo), .ref e8, .ref e9, .int (nI kn), .int (nI tl), .int (nI rn), .ref ea, .long tr, .ref eb])), (e1, .inl (G.2.2.1, 200, .inl (nF bt)))]) F R0 rfl [0, 1] rfl rfl (⟨_, _, _, mt_dig hsk hne_ hlet hdig hva, (dEn_in (by omega)).2, by omega, rfl, by rw [hsk]⟩) dX8_reads_154
            · skip
              refine j_w (w' := [(e0, .inr (8, [.ref e1, .int (nI ln), .int (nI q), .int (nI q), .int (nI tk), .int (nI td), .int (nI rl), .int (nI rs), .int (nI rd), .ref e2, .ref e3, .ref e4, .int (nI n), .int (nI m), .ref e5, .ref e6, .ref e7, .int (nI be), .int (nI sd), .int (nI tu), .int (nI fo), .ref e8, .ref e9, .int (nI kn), .int (nI tl), .int (nI rn), .ref ea, .long tr, .ref eb])), (e1, .inl (G.2.2.1, 200, .inl (nF bt)))]) [0, 1] rfl rfl ?_
              show Jw G X _ 0 0 99 _ [.int (nI 0)] _
              refine j_if_eq (q := 102) (t := 109) F (ct (by decide)) dX8_reads_99 rfl rfl (fun _ => ?_) (fun z => absurd trivial z)
              refine j_aload_n (q := 110) (i0 := 0) F rfl dX8_reads_109 rfl ?_
              refine j_aload_n (q := 111) (i0 := 0) F rfl dX8_reads_110 rfl ?_
              refine j_get (q := 114) (ci := 8) (q0 := 0) (kf := 0) (v := .ref e1) F inX8 rfl rfl rfl tw_658 rfl rfl dX8_reads_111 rfl ?_
              refine j_aload_n (q := 115) (i0 := 0) F rfl dX8_reads_114 rfl ?_
              refine j_get (q := 118) (ci := 8) (q0 := 0) (kf := 2) (v := .int (nI q)) F inX8 rfl rfl rfl tw_660 rfl rfl dX8_reads_115 rfl ?_
              refine j_iald (q := 119) (q0 := 1) (i := q) (v := nI (bt q)) F rfl rfl (by omega) rfl (rfl) dX8_reads_118 rfl ?_
              refine j_bipush (q := 121) (v := nI 59) F (by decide) dX8_reads_119 rfl ?_
              refine j_icmp_ne (q := 124) (t := 128) F (Pp := bt q = 59) (nI_eq (by omega) (by omega)) dX8_reads_121 rfl rfl (fun c59 => ?_) (fun c59 => ?_)
              · skip
                refine j_iconst (q := 129) (v := nI 4) F (by decide) dX8_reads_128 rfl ?_
                refine j_put (q := 132) (ci := 8) (q0 := 0) (kf := 4) (v := .int (nI 4)) (w' := [(e0, .inr (8, [.ref e1, .int (nI ln), .int (nI q), .int (nI q), .int (nI 4), .int (nI td), .int (nI rl), .int (nI rs), .int (nI rd), .ref e2, .ref e3, .ref e4, .int (nI n), .int (nI m), .ref e5, .ref e6, .ref e7, .int (nI be), .int (nI sd), .int (nI tu), .int (nI fo), .ref e8, .ref e9, .int (nI kn), .int (nI tl), .int (nI rn), .ref ea, .long tr, .ref eb])), (e1, .inl (G.2.2.1, 200, .inl (nF bt)))]) F inX8 tyX8_ok nmX8 rfl rfl rfl tw_662 rfl rfl rfl rfl rfl rfl dX8_reads_129 rfl ?_
                refine j_aload_n (q := 133) (i0 := 0) F rfl dX8_reads_132 rfl ?_
                refine j_dup (q := 134) F rfl dX8_reads_133 rfl ?_
                refine j_get (q := 137) (ci := 8) (q0 := 0) (kf := 2) (v := .int (nI q)) F inX8 rfl rfl rfl tw_660 rfl rfl dX8_reads_134 rfl ?_
                refine j_aload_n (q := 138) (i0 := 0) F rfl dX8_reads_137 rfl ?_
                refine j_get (q := 141) (ci := 8) (q0 := 0) (kf := 4) (v := .int (nI 4)) F inX8 rfl rfl rfl tw_662 rfl rfl dX8_reads_138 rfl ?_
                refine j_iconst (q := 142) (v := nI 3) F (by decide) dX8_reads_141 rfl ?_
                refine j_icmp_ne (q := 145) (t := 149) F (cf (by decide)) dX8_reads_142 rfl rfl (fun _ => ?_) (fun z => False.elim z)
                refine j_iconst (q := 150) (v := nI 0) F (by decide) dX8_reads_149 rfl ?_
                refine j_iadd (q := 151) (v := nI (q + 0)) F (nI_add _ _) dX8_reads_150 rfl ?_
                refine j_put (q := 154) (ci := 8) (q0 := 0) (kf := 2) (v := .int (nI (q + 0))) (w' := [(e0, .inr (8, [.ref e1, .int (nI ln), .int (nI (q + 0)), .int (nI q), .int (nI 4), .int (nI td), .int (nI rl), .int (nI rs), .int (nI rd), .ref e2, .ref e3, .ref e4, .int (nI n), .int (nI m), .ref e5, .ref e6, .ref e7, .int (nI be), .int (nI sd), .int (nI tu), .int (nI fo), .ref e8, .ref e9, .int (nI kn), .int (nI tl), .int (nI rn), .ref ea, .long tr, .ref eb])), (e1, .inl (G.2.2.1, 200, .inl (nF bt)))]) F inX8 tyX8_ok nmX8 rfl rfl rfl tw_660 rfl rfl rfl rfl rfl rfl dX8_reads_151 rfl ?_
                exact j_vret (w2 := [(e0, .inr (8, [.ref e1, .int (nI ln), .int (nI (q + 0)), .int (nI q), .int (nI 4), .int (nI td), .int (nI rl), .int (nI rs), .int (nI rd), .ref e2, .ref e3, .ref e4, .int (nI n), .int (nI m), .ref e5, .ref e6, .ref e7, .int (nI be), .int (nI sd), .int (nI tu), .int (nI fo), .ref e8, .ref e9, .int (nI kn), .int (nI tl), .int (nI rn), .ref ea, .long tr, .ref eb])), (e1, .inl (G.2.2.1, 200, .inl (nF bt)))]) F R0 rfl [0, 1] rfl rfl (⟨_, _, q + 0, mt_bad hsk hne_ hlet hdig c59, by omega, by omega, rfl, by rw [hsk]⟩) dX8_reads_154
              · skip
                refine j_iconst (q := 125) (v := nI 3) F (by decide) dX8_reads_124 rfl ?_
                refine j_goto (t := 129) F dX8_reads_125 rfl ?_
                refine j_put (q := 132) (ci := 8) (q0 := 0) (kf := 4) (v := .int (nI 3)) (w' := [(e0, .inr (8, [.ref e1, .int (nI ln), .int (nI q), .int (nI q), .int (nI 3), .int (nI td), .int (nI rl), .int (nI rs), .int (nI rd), .ref e2, .ref e3, .ref e4, .int (nI n), .int (nI m), .ref e5, .ref e6, .ref e7, .int (nI be), .int (nI sd), .int (nI tu), .int (nI fo), .ref e8, .ref e9, .int (nI kn), .int (nI tl), .int (nI rn), .ref ea, .long tr, .ref eb])), (e1, .inl (G.2.2.1, 200, .inl (nF bt)))]) F inX8 tyX8_ok nmX8 rfl rfl rfl tw_662 rfl rfl rfl rfl rfl rfl dX8_reads_129 rfl ?_
                refine j_aload_n (q := 133) (i0 := 0) F rfl dX8_reads_132 rfl ?_
                refine j_dup (q := 134) F rfl dX8_reads_133 rfl ?_
                refine j_get (q := 137) (ci := 8) (q0 := 0) (kf := 2) (v := .int (nI q)) F inX8 rfl rfl rfl tw_660 rfl rfl dX8_reads_134 rfl ?_
                refine j_aload_n (q := 138) (i0 := 0) F rfl dX8_reads_137 rfl ?_
                refine j_get (q := 141) (ci := 8) (q0 := 0) (kf := 4) (v := .int (nI 3)) F inX8 rfl rfl rfl tw_662 rfl rfl dX8_reads_138 rfl ?_
                refine j_iconst (q := 142) (v := nI 3) F (by decide) dX8_reads_141 rfl ?_
                refine j_icmp_ne (q := 145) (t := 149) F (ct (by decide)) dX8_reads_142 rfl rfl (fun z => absurd trivial z) (fun _ => ?_)
                refine j_iconst (q := 146) (v := nI 1) F (by decide) dX8_reads_145 rfl ?_
                refine j_goto (t := 150) F dX8_reads_146 rfl ?_
                refine j_iadd (q := 151) (v := nI (q + 1)) F (nI_add _ _) dX8_reads_150 rfl ?_
                refine j_put (q := 154) (ci := 8) (q0 := 0) (kf := 2) (v := .int (nI (q + 1))) (w' := [(e0, .inr (8, [.ref e1, .int (nI ln), .int (nI (q + 1)), .int (nI q), .int (nI 3), .int (nI td), .int (nI rl), .int (nI rs), .int (nI rd), .ref e2, .ref e3, .ref e4, .int (nI n), .int (nI m), .ref e5, .ref e6, .ref e7, .int (nI be), .int (nI sd), .int (nI tu), .int (nI fo), .ref e8, .ref e9, .int (nI kn), .int (nI tl), .int (nI rn), .ref ea, .long tr, .ref eb])), (e1, .inl (G.2.2.1, 200, .inl (nF bt)))]) F inX8 tyX8_ok nmX8 rfl rfl rfl tw_660 rfl rfl rfl rfl rfl rfl dX8_reads_151 rfl ?_
                exact j_vret (w2 := [(e0, .inr (8, [.ref e1, .int (nI ln), .int (nI (q + 1)), .int (nI q), .int (nI 3), .int (nI td), .int (nI rl), .int (nI rs), .int (nI rd), .ref e2, .ref e3, .ref e4, .int (nI n), .int (nI m), .ref e5, .ref e6, .ref e7, .int (nI be), .int (nI sd), .int (nI tu), .int (nI fo), .ref e8, .ref e9, .int (nI kn), .int (nI tl), .int (nI rn), .ref ea, .long tr, .ref eb])), (e1, .inl (G.2.2.1, 200, .inl (nF bt)))]) F R0 rfl [0, 1] rfl rfl (⟨_, _, _, mt_sem hsk hne_ hlet hdig c59, by omega, by omega, rfl, by rw [hsk]⟩) dX8_reads_154
        · skip
          refine j_aload_n (q := 58) (i0 := 0) F rfl dX8_reads_57 rfl ?_
          refine j_iconst (q := 59) (v := nI 0) F (by decide) dX8_reads_58 rfl ?_
          refine j_put (q := 62) (ci := 8) (q0 := 0) (kf := 4) (v := .int (nI 0)) (w' := [(e0, .inr (8, [.ref e1, .int (nI ln), .int (nI q), .int (nI q), .int (nI 0), .int (nI td), .int (nI rl), .int (nI rs), .int (nI rd), .ref e2, .ref e3, .ref e4, .int (nI n), .int (nI m), .ref e5, .ref e6, .ref e7, .int (nI be), .int (nI sd), .int (nI tu), .int (nI fo), .ref e8, .ref e9, .int (nI kn), .int (nI tl), .int (nI rn), .ref ea, .long tr, .ref eb])), (e1, .inl (G.2.2.1, 200, .inl (nF bt)))]) F inX8 tyX8_ok nmX8 rfl rfl rfl tw_662 rfl rfl rfl rfl rfl rfl dX8_reads_59 rfl ?_
          refine j_goto (t := 154) F dX8_reads_62 rfl ?_
          exact j_vret (w2 := [(e0, .inr (8, [.ref e1, .int (nI ln), .int (nI q), .int (nI q), .int (nI 0), .int (nI td), .int (nI rl), .int (nI rs), .int (nI rd), .ref e2, .ref e3, .ref e4, .int (nI n), .int (nI m), .ref e5, .ref e6, .ref e7, .int (nI be), .int (nI sd), .int (nI tu), .int (nI fo), .ref e8, .ref e9, .int (nI kn), .int (nI tl), .int (nI rn), .ref ea, .long tr, .ref eb])), (e1, .inl (G.2.2.1, 200, .inl (nF bt)))]) F R0 rfl [0, 1] rfl rfl (⟨0, td, _, Or.inl ⟨tK0.mpr (by omega), rfl⟩, by omega, by omega, rfl, by rw [hsk]⟩) dX8_reads_154
      · skip
        refine j_aload_n (q := 12) (i0 := 0) F rfl dX8_reads_11 rfl ?_
        refine j_get (q := 15) (ci := 8) (q0 := 0) (kf := 0) (v := .ref e1) F inX8 rfl rfl rfl tw_658 rfl rfl dX8_reads_12 rfl ?_
        refine j_aload_n (q := 16) (i0 := 0) F rfl dX8_reads_15 rfl ?_
        refine j_get (q := 19) (ci := 8) (q0 := 0) (kf := 2) (v := .int (nI q)) F inX8 rfl rfl rfl tw_660 rfl rfl dX8_reads_16 rfl ?_
        refine j_iald (q := 20) (q0 := 1) (i := q) (v := nI (bt q)) F rfl rfl (by omega) rfl (rfl) dX8_reads_19 rfl ?_
        have hbq := hbt q (by omega)
        refine j_bipush (q := 22) (v := nI 32) F (by decide) dX8_reads_20 rfl ?_
        refine j_icmp_ne (q := 25) (t := 38) F (Pp := bt q = 32) (nI_eq (by omega) (by omega)) dX8_reads_22 rfl rfl (fun c32 => ?_) (fun c32 => ?_)
        · skip
          have hsk : sk bt ln p = q := hqe.symm.trans (sk_no (fun z => c32 z.2))
          refine j_aload_n (q := 39) (i0 := 0) F rfl dX8_reads_38 rfl ?_
          refine j_aload_n (q := 40) (i0 := 0) F rfl dX8_reads_39 rfl ?_
          refine j_get (q := 43) (ci := 8) (q0 := 0) (kf := 2) (v := .int (nI q)) F inX8 rfl rfl rfl tw_660 rfl rfl dX8_reads_40 rfl ?_
          refine j_put (q := 46) (ci := 8) (q0 := 0) (kf := 3) (v := .int (nI q)) (w' := [(e0, .inr (8, [.ref e1, .int (nI ln), .int (nI q), .int (nI q), .int (nI tk), .int (nI td), .int (nI rl), .int (nI rs), .int (nI rd), .ref e2, .ref e3, .ref e4, .int (nI n), .int (nI m), .ref e5, .ref e6, .ref e7, .int (nI be), .int (nI sd), .int (nI tu), .int (nI fo), .ref e8, .ref e9, .int (nI kn), .int (nI tl), .int (nI rn), .ref ea, .long tr, .ref eb])), (e1, .inl (G.2.2.1, 200, .inl (nF bt)))]) F inX8 tyX8_ok nmX8 rfl rfl rfl tw_661 rfl rfl rfl rfl rfl rfl dX8_reads_43 rfl ?_
          refine j_aload_n (q := 47) (i0 := 0) F rfl dX8_reads_46 rfl ?_
          refine j_get (q := 50) (ci := 8) (q0 := 0) (kf := 2) (v := .int (nI q)) F inX8 rfl rfl rfl tw_660 rfl rfl dX8_reads_47 rfl ?_
          refine j_aload_n (q := 51) (i0 := 0) F rfl dX8_reads_50 rfl ?_
          refine j_get (q := 54) (ci := 8) (q0 := 0) (kf := 1) (v := .int (nI ln)) F inX8 rfl rfl rfl tw_659 rfl rfl dX8_reads_51 rfl ?_
          refine j_icmp_ne (q := 57) (t := 65) F (Pp := q = ln) (nI_eq (by omega) (by omega)) dX8_reads_54 rfl rfl (fun cq => ?_) (fun cq => ?_)
          · skip
            have hne_ : ¬ q = ln := cq
            have hbq2 := hbt q (by omega)
            refine j_aload_n (q := 66) (i0 := 0) F rfl dX8_reads_65 rfl ?_
            refine j_get (q := 69) (ci := 8) (q0 := 0) (kf := 0) (v := .ref e1) F inX8 rfl rfl rfl tw_658 rfl rfl dX8_reads_66 rfl ?_
            refine j_aload_n (q := 70) (i0 := 0) F rfl dX8_reads_69 rfl ?_
            refine j_get (q := 73) (ci := 8) (q0 := 0) (kf := 2) (v := .int (nI q)) F inX8 rfl rfl rfl tw_660 rfl rfl dX8_reads_70 rfl ?_
            refine j_iald (q := 74) (q0 := 1) (i := q) (v := nI (bt q)) F rfl rfl (by omega) rfl (rfl) dX8_reads_73 rfl ?_
            refine j_callS (q := 77) (As := [.int (nI (bt q))]) (wr := [(e0, .inr (8, [.ref e1, .int (nI ln), .int (nI q), .int (nI q), .int (nI tk), .int (nI td), .int (nI rl), .int (nI rs), .int (nI rd), .ref e2, .ref e3, .ref e4, .int (nI n), .int (nI m), .ref e5, .ref e6, .ref e7, .int (nI be), .int (nI sd), .int (nI tu), .int (nI fo), .ref e8, .ref e9, .int (nI kn), .int (nI tl), .int (nI rn), .ref ea, .long tr, .ref eb])), (e1, .inl (G.2.2.1, 200, .inl (nF bt)))]) (st := []) F (c_X8_isLetter G (c := bt q) (hbq2)) kwX8_isLetter tw_767 tw_766 ⟨Nat.le_of_ble_eq_true rfl, Nat.le_of_ble_eq_true rfl, rfl, rfl, Nat.le_of_ble_eq_true rfl, Nat.le_of_ble_eq_true rfl⟩ [] [0, 1] rfl rfl rfl rfl rfl rfl rfl (Nat.le_of_ble_eq_true rfl) dX8_reads_74 rfl ?_
            rintro r_ w_ ⟨rfl, (⟨rfl, hlet⟩ | ⟨rfl, hlet⟩)⟩
            · skip
              refine j_w (w' := [(e0, .inr (8, [.ref e1, .int (nI ln), .int (nI q), .int (nI q), .int (nI tk), .int (nI td), .int (nI rl), .int (nI rs), .int (nI rd), .ref e2, .ref e3, .ref e4, .int (nI n), .int (nI m), .ref e5, .ref e6, .ref e7, .int (nI be), .int (nI sd), .int (nI tu), .int (nI fo), .ref e8, .ref e9, .int (nI kn), .int (nI tl), .int (nI rn), .ref ea, .long tr, .ref eb])), (e1, .inl (G.2.2.1, 200, .inl (nF bt)))]) [0, 1] rfl rfl ?_
              show Jw G X _ 0 0 77 _ [.int (nI 1)] _
              refine j_if_eq (q := 80) (t := 87) F (cf (by decide)) dX8_reads_77 rfl rfl (fun z => False.elim z) (fun _ => ?_)
              refine j_aload_n (q := 81) (i0 := 0) F rfl dX8_reads_80 rfl ?_
              refine j_callV (q := 84) (ci := 8) (q0 := 0) (As := []) (wr := []) (st := []) F (c_X8_readLetters G hl hbt (show q < ln by omega) hlet) kwX8_readLetters tw_773 tw_22 tw_771 ⟨Nat.le_of_ble_eq_true rfl, Nat.le_of_ble_eq_true rfl, rfl, rfl, Nat.le_of_ble_eq_true rfl, Nat.le_of_ble_eq_true rfl⟩ [0, 1] [] rfl rfl rfl rfl rfl rfl rfl rfl rfl (Nat.le_of_ble_eq_true rfl) dX8_reads_81 rfl ?_
              rintro r_ w_ ⟨tk2, hva, rfl, rfl⟩
              refine j_w (w' := [(e0, .inr (8, [.ref e1, .int (nI ln), .int (nI (lEn bt ln q)), .int (nI q), .int (nI tk2), .int (nI (bt q)), .int (nI rl), .int (nI rs), .int (nI rd), .ref e2, .ref e3, .ref e4, .int (nI n), .int (nI m), .ref e5, .ref e6, .ref e7, .int (nI be), .int (nI sd), .int (nI tu), .int (nI fo), .ref e8, .ref e9, .int (nI kn), .int (nI tl), .int (nI rn), .ref ea, .long tr, .ref eb])), (e1, .inl (G.2.2.1, 200, .inl (nF bt)))]) [0, 1] rfl rfl ?_
              show Jw G X _ 0 0 84 _ [] _
              refine j_goto (t := 154) F dX8_reads_84 rfl ?_
              exact j_vret (w2 := [(e0, .inr (8, [.ref e1, .int (nI ln), .int (nI (lEn bt ln q)), .int (nI q), .int (nI tk2), .int (nI (bt q)), .int (nI rl), .int (nI rs), .int (nI rd), .ref e2, .ref e3, .ref e4, .int (nI n), .int (nI m), .ref e5, .ref e6, .ref e7, .int (nI be), .int (nI sd), .int (nI tu), .int (nI fo), .ref e8, .ref e9, .int (nI kn), .int (nI tl), .int (nI rn), .ref ea, .long tr, .ref eb])), (e1, .inl (G.2.2.1, 200, .inl (nF bt)))]) F R0 rfl [0, 1] rfl rfl (⟨_, _, _, mt_let hsk hne_ hlet hva, (lEn_in (by omega)).2, by omega, rfl, by rw [hsk]⟩) dX8_reads_154
            · skip
              refine j_w (w' := [(e0, .inr (8, [.ref e1, .int (nI ln), .int (nI q), .int (nI q), .int (nI tk), .int (nI td), .int (nI rl), .int (nI rs), .int (nI rd), .ref e2, .ref e3, .ref e4, .int (nI n), .int (nI m), .ref e5, .ref e6, .ref e7, .int (nI be), .int (nI sd), .int (nI tu), .int (nI fo), .ref e8, .ref e9, .int (nI kn), .int (nI tl), .int (nI rn), .ref ea, .long tr, .ref eb])), (e1, .inl (G.2.2.1, 200, .inl (nF bt)))]) [0, 1] rfl rfl ?_
              show Jw G X _ 0 0 77 _ [.int (nI 0)] _
              refine j_if_eq (q := 80) (t := 87) F (ct (by decide)) dX8_reads_77 rfl rfl (fun _ => ?_) (fun z => absurd trivial z)
              refine j_aload_n (q := 88) (i0 := 0) F rfl dX8_reads_87 rfl ?_
              refine j_get (q := 91) (ci := 8) (q0 := 0) (kf := 0) (v := .ref e1) F inX8 rfl rfl rfl tw_658 rfl rfl dX8_reads_88 rfl ?_
              refine j_aload_n (q := 92) (i0 := 0) F rfl dX8_reads_91 rfl ?_
              refine j_get (q := 95) (ci := 8) (q0 := 0) (kf := 2) (v := .int (nI q)) F inX8 rfl rfl rfl tw_660 rfl rfl dX8_reads_92 rfl ?_
              refine j_iald (q := 96) (q0 := 1) (i := q) (v := nI (bt q)) F rfl rfl (by omega) rfl (rfl) dX8_reads_95 rfl ?_
              refine j_callS (q := 99) (As := [.int (nI (bt q))]) (wr := [(e0, .inr (8, [.ref e1, .int (nI ln), .int (nI q), .int (nI q), .int (nI tk), .int (nI td), .int (nI rl), .int (nI rs), .int (nI rd), .ref e2, .ref e3, .ref e4, .int (nI n), .int (nI m), .ref e5, .ref e6, .ref e7, .int (nI be), .int (nI sd), .int (nI tu), .int (nI fo), .ref e8, .ref e9, .int (nI kn), .int (nI tl), .int (nI rn), .ref ea, .long tr, .ref eb])), (e1, .inl (G.2.2.1, 200, .inl (nF bt)))]) (st := []) F (c_X8_isFigure G (c := bt q) (hbq2)) kwX8_isFigure tw_776 tw_775 ⟨Nat.le_of_ble_eq_true rfl, Nat.le_of_ble_eq_true rfl, rfl, rfl, Nat.le_of_ble_eq_true rfl, Nat.le_of_ble_eq_true rfl⟩ [] [0, 1] rfl rfl rfl rfl rfl rfl rfl (Nat.le_of_ble_eq_true rfl) dX8_reads_96 rfl ?_
              rintro r_ w_ ⟨rfl, (⟨rfl, hdig⟩ | ⟨rfl, hdig⟩)⟩
              · skip
                refine j_w (w' := [(e0, .inr (8, [.ref e1, .int (nI ln), .int (nI q), .int (nI q), .int (nI tk), .int (nI td), .int (nI rl), .int (nI rs), .int (nI rd), .ref e2, .ref e3, .ref e4, .int (nI n), .int (nI m), .ref e5, .ref e6, .ref e7, .int (nI be), .int (nI sd), .int (nI tu), .int (nI fo), .ref e8, .ref e9, .int (nI kn), .int (nI tl), .int (nI rn), .ref ea, .long tr, .ref eb])), (e1, .inl (G.2.2.1, 200, .inl (nF bt)))]) [0, 1] rfl rfl ?_
                show Jw G X _ 0 0 99 _ [.int (nI 1)] _
                refine j_if_eq (q := 102) (t := 109) F (cf (by decide)) dX8_reads_99 rfl rfl (fun z => False.elim z) (fun _ => ?_)
                refine j_aload_n (q := 103) (i0 := 0) F rfl dX8_reads_102 rfl ?_
                refine j_callV (q := 106) (ci := 8) (q0 := 0) (As := []) (wr := []) (st := []) F (c_X8_readNumber G hl hbt (show q < ln by omega) hdig) kwX8_readNumber tw_782 tw_23 tw_780 ⟨Nat.le_of_ble_eq_true rfl, Nat.le_of_ble_eq_true rfl, rfl, rfl, Nat.le_of_ble_eq_true rfl, Nat.le_of_ble_eq_true rfl⟩ [0, 1] [] rfl rfl rfl rfl rfl rfl rfl rfl rfl (Nat.le_of_ble_eq_true rfl) dX8_reads_103 rfl ?_
                rintro r_ w_ ⟨tk2, hva, hdv, rfl, rfl⟩
                refine j_w (w' := [(e0, .inr (8, [.ref e1, .int (nI ln), .int (nI (dEn bt ln q)), .int (nI q), .int (nI tk2), .int (nI (dVl bt ln q 0)), .int (nI rl), .int (nI rs), .int (nI rd), .ref e2, .ref e3, .ref e4, .int (nI n), .int (nI m), .ref e5, .ref e6, .ref e7, .int (nI be), .int (nI sd), .int (nI tu), .int (nI fo), .ref e8, .ref e9, .int (nI kn), .int (nI tl), .int (nI rn), .ref ea, .long tr, .ref eb])), (e1, .inl (G.2.2.1, 200, .inl (nF bt)))]) [0, 1] rfl rfl ?_
                show Jw G X _ 0 0 106 _ [] _
                refine j_goto (t := 154) F dX8_reads_106 rfl ?_
                exact j_vret (w2 := [(e0, .inr (8, [.ref e1, .int (nI ln), .int (nI (dEn bt ln q)), .int (nI q), .int (nI tk2), .int (nI (dVl bt ln q 0)), .int (nI rl), .int (nI rs), .int (nI rd), .ref e2, .ref e3, .ref e4, .int (nI n), .int (nI m), .ref e5, .ref e6, .ref e7, .int (nI be), .int (nI sd), .int (nI tu), .int (nI fo), .ref e8, .ref e9, .int (nI kn), .int (nI tl), .int (nI rn), .ref ea, .long tr, .ref eb])), (e1, .inl (G.2.2.1, 200, .inl (nF bt)))]) F R0 rfl [0, 1] rfl rfl (⟨_, _, _, mt_dig hsk hne_ hlet hdig hva, (dEn_in (by omega)).2, by omega, rfl, by rw [hsk]⟩) dX8_reads_154
              · skip
                refine j_w (w' := [(e0, .inr (8, [.ref e1, .int (nI ln), .int (nI q), .int (nI q), .int (nI tk), .int (nI td), .int (nI rl), .int (nI rs), .int (nI rd), .ref e2, .ref e3, .ref e4, .int (nI n), .int (nI m), .ref e5, .ref e6, .ref e7, .int (nI be), .int (nI sd), .int (nI tu), .int (nI fo), .ref e8, .ref e9, .int (nI kn), .int (nI tl), .int (nI rn), .ref ea, .long tr, .ref eb])), (e1, .inl (G.2.2.1, 200, .inl (nF bt)))]) [0, 1] rfl rfl ?_
                show Jw G X _ 0 0 99 _ [.int (nI 0)] _
                refine j_if_eq (q := 102) (t := 109) F (ct (by decide)) dX8_reads_99 rfl rfl (fun _ => ?_) (fun z => absurd trivial z)
                refine j_aload_n (q := 110) (i0 := 0) F rfl dX8_reads_109 rfl ?_
                refine j_aload_n (q := 111) (i0 := 0) F rfl dX8_reads_110 rfl ?_
                refine j_get (q := 114) (ci := 8) (q0 := 0) (kf := 0) (v := .ref e1) F inX8 rfl rfl rfl tw_658 rfl rfl dX8_reads_111 rfl ?_
                refine j_aload_n (q := 115) (i0 := 0) F rfl dX8_reads_114 rfl ?_
                refine j_get (q := 118) (ci := 8) (q0 := 0) (kf := 2) (v := .int (nI q)) F inX8 rfl rfl rfl tw_660 rfl rfl dX8_reads_115 rfl ?_
                refine j_iald (q := 119) (q0 := 1) (i := q) (v := nI (bt q)) F rfl rfl (by omega) rfl (rfl) dX8_reads_118 rfl ?_
                refine j_bipush (q := 121) (v := nI 59) F (by decide) dX8_reads_119 rfl ?_
                refine j_icmp_ne (q := 124) (t := 128) F (Pp := bt q = 59) (nI_eq (by omega) (by omega)) dX8_reads_121 rfl rfl (fun c59 => ?_) (fun c59 => ?_)
                · skip
                  refine j_iconst (q := 129) (v := nI 4) F (by decide) dX8_reads_128 rfl ?_
                  refine j_put (q := 132) (ci := 8) (q0 := 0) (kf := 4) (v := .int (nI 4)) (w' := [(e0, .inr (8, [.ref e1, .int (nI ln), .int (nI q), .int (nI q), .int (nI 4), .int (nI td), .int (nI rl), .int (nI rs), .int (nI rd), .ref e2, .ref e3, .ref e4, .int (nI n), .int (nI m), .ref e5, .ref e6, .ref e7, .int (nI be), .int (nI sd), .int (nI tu), .int (nI fo), .ref e8, .ref e9, .int (nI kn), .int (nI tl), .int (nI rn), .ref ea, .long tr, .ref eb])), (e1, .inl (G.2.2.1, 200, .inl (nF bt)))]) F inX8 tyX8_ok nmX8 rfl rfl rfl tw_662 rfl rfl rfl rfl rfl rfl dX8_reads_129 rfl ?_
                  refine j_aload_n (q := 133) (i0 := 0) F rfl dX8_reads_132 rfl ?_
                  refine j_dup (q := 134) F rfl dX8_reads_133 rfl ?_
                  refine j_get (q := 137) (ci := 8) (q0 := 0) (kf := 2) (v := .int (nI q)) F inX8 rfl rfl rfl tw_660 rfl rfl dX8_reads_134 rfl ?_
                  refine j_aload_n (q := 138) (i0 := 0) F rfl dX8_reads_137 rfl ?_
                  refine j_get (q := 141) (ci := 8) (q0 := 0) (kf := 4) (v := .int (nI 4)) F inX8 rfl rfl rfl tw_662 rfl rfl dX8_reads_138 rfl ?_
                  refine j_iconst (q := 142) (v := nI 3) F (by decide) dX8_reads_141 rfl ?_
                  refine j_icmp_ne (q := 145) (t := 149) F (cf (by decide)) dX8_reads_142 rfl rfl (fun _ => ?_) (fun z => False.elim z)
                  refine j_iconst (q := 150) (v := nI 0) F (by decide) dX8_reads_149 rfl ?_
                  refine j_iadd (q := 151) (v := nI (q + 0)) F (nI_add _ _) dX8_reads_150 rfl ?_
                  refine j_put (q := 154) (ci := 8) (q0 := 0) (kf := 2) (v := .int (nI (q + 0))) (w' := [(e0, .inr (8, [.ref e1, .int (nI ln), .int (nI (q + 0)), .int (nI q), .int (nI 4), .int (nI td), .int (nI rl), .int (nI rs), .int (nI rd), .ref e2, .ref e3, .ref e4, .int (nI n), .int (nI m), .ref e5, .ref e6, .ref e7, .int (nI be), .int (nI sd), .int (nI tu), .int (nI fo), .ref e8, .ref e9, .int (nI kn), .int (nI tl), .int (nI rn), .ref ea, .long tr, .ref eb])), (e1, .inl (G.2.2.1, 200, .inl (nF bt)))]) F inX8 tyX8_ok nmX8 rfl rfl rfl tw_660 rfl rfl rfl rfl rfl rfl dX8_reads_151 rfl ?_
                  exact j_vret (w2 := [(e0, .inr (8, [.ref e1, .int (nI ln), .int (nI (q + 0)), .int (nI q), .int (nI 4), .int (nI td), .int (nI rl), .int (nI rs), .int (nI rd), .ref e2, .ref e3, .ref e4, .int (nI n), .int (nI m), .ref e5, .ref e6, .ref e7, .int (nI be), .int (nI sd), .int (nI tu), .int (nI fo), .ref e8, .ref e9, .int (nI kn), .int (nI tl), .int (nI rn), .ref ea, .long tr, .ref eb])), (e1, .inl (G.2.2.1, 200, .inl (nF bt)))]) F R0 rfl [0, 1] rfl rfl (⟨_, _, q + 0, mt_bad hsk hne_ hlet hdig c59, by omega, by omega, rfl, by rw [hsk]⟩) dX8_reads_154
                · skip
                  refine j_iconst (q := 125) (v := nI 3) F (by decide) dX8_reads_124 rfl ?_
                  refine j_goto (t := 129) F dX8_reads_125 rfl ?_
                  refine j_put (q := 132) (ci := 8) (q0 := 0) (kf := 4) (v := .int (nI 3)) (w' := [(e0, .inr (8, [.ref e1, .int (nI ln), .int (nI q), .int (nI q), .int (nI 3), .int (nI td), .int (nI rl), .int (nI rs), .int (nI rd), .ref e2, .ref e3, .ref e4, .int (nI n), .int (nI m), .ref e5, .ref e6, .ref e7, .int (nI be), .int (nI sd), .int (nI tu), .int (nI fo), .ref e8, .ref e9, .int (nI kn), .int (nI tl), .int (nI rn), .ref ea, .long tr, .ref eb])), (e1, .inl (G.2.2.1, 200, .inl (nF bt)))]) F inX8 tyX8_ok nmX8 rfl rfl rfl tw_662 rfl rfl rfl rfl rfl rfl dX8_reads_129 rfl ?_
                  refine j_aload_n (q := 133) (i0 := 0) F rfl dX8_reads_132 rfl ?_
                  refine j_dup (q := 134) F rfl dX8_reads_133 rfl ?_
                  refine j_get (q := 137) (ci := 8) (q0 := 0) (kf := 2) (v := .int (nI q)) F inX8 rfl rfl rfl tw_660 rfl rfl dX8_reads_134 rfl ?_
                  refine j_aload_n (q := 138) (i0 := 0) F rfl dX8_reads_137 rfl ?_
                  refine j_get (q := 141) (ci := 8) (q0 := 0) (kf := 4) (v := .int (nI 3)) F inX8 rfl rfl rfl tw_662 rfl rfl dX8_reads_138 rfl ?_
                  refine j_iconst (q := 142) (v := nI 3) F (by decide) dX8_reads_141 rfl ?_
                  refine j_icmp_ne (q := 145) (t := 149) F (ct (by decide)) dX8_reads_142 rfl rfl (fun z => absurd trivial z) (fun _ => ?_)
                  refine j_iconst (q := 146) (v := nI 1) F (by decide) dX8_reads_145 rfl ?_
                  refine j_goto (t := 150) F dX8_reads_146 rfl ?_
                  refine j_iadd (q := 151) (v := nI (q + 1)) F (nI_add _ _) dX8_reads_150 rfl ?_
                  refine j_put (q := 154) (ci := 8) (q0 := 0) (kf := 2) (v := .int (nI (q + 1))) (w' := [(e0, .inr (8, [.ref e1, .int (nI ln), .int (nI (q + 1)), .int (nI q), .int (nI 3), .int (nI td), .int (nI rl), .int (nI rs), .int (nI rd), .ref e2, .ref e3, .ref e4, .int (nI n), .int (nI m), .ref e5, .ref e6, .ref e7, .int (nI be), .int (nI sd), .int (nI tu), .int (nI fo), .ref e8, .ref e9, .int (nI kn), .int (nI tl), .int (nI rn), .ref ea, .long tr, .ref eb])), (e1, .inl (G.2.2.1, 200, .inl (nF bt)))]) F inX8 tyX8_ok nmX8 rfl rfl rfl tw_660 rfl rfl rfl rfl rfl rfl dX8_reads_151 rfl ?_
                  exact j_vret (w2 := [(e0, .inr (8, [.ref e1, .int (nI ln), .int (nI (q + 1)), .int (nI q), .int (nI 3), .int (nI td), .int (nI rl), .int (nI rs), .int (nI rd), .ref e2, .ref e3, .ref e4, .int (nI n), .int (nI m), .ref e5, .ref e6, .ref e7, .int (nI be), .int (nI sd), .int (nI tu), .int (nI fo), .ref e8, .ref e9, .int (nI kn), .int (nI tl), .int (nI rn), .ref ea, .long tr, .ref eb])), (e1, .inl (G.2.2.1, 200, .inl (nF bt)))]) F R0 rfl [0, 1] rfl rfl (⟨_, _, _, mt_sem hsk hne_ hlet hdig c59, by omega, by omega, rfl, by rw [hsk]⟩) dX8_reads_154
          · skip
            refine j_aload_n (q := 58) (i0 := 0) F rfl dX8_reads_57 rfl ?_
            refine j_iconst (q := 59) (v := nI 0) F (by decide) dX8_reads_58 rfl ?_
            refine j_put (q := 62) (ci := 8) (q0 := 0) (kf := 4) (v := .int (nI 0)) (w' := [(e0, .inr (8, [.ref e1, .int (nI ln), .int (nI q), .int (nI q), .int (nI 0), .int (nI td), .int (nI rl), .int (nI rs), .int (nI rd), .ref e2, .ref e3, .ref e4, .int (nI n), .int (nI m), .ref e5, .ref e6, .ref e7, .int (nI be), .int (nI sd), .int (nI tu), .int (nI fo), .ref e8, .ref e9, .int (nI kn), .int (nI tl), .int (nI rn), .ref ea, .long tr, .ref eb])), (e1, .inl (G.2.2.1, 200, .inl (nF bt)))]) F inX8 tyX8_ok nmX8 rfl rfl rfl tw_662 rfl rfl rfl rfl rfl rfl dX8_reads_59 rfl ?_
            refine j_goto (t := 154) F dX8_reads_62 rfl ?_
            exact j_vret (w2 := [(e0, .inr (8, [.ref e1, .int (nI ln), .int (nI q), .int (nI q), .int (nI 0), .int (nI td), .int (nI rl), .int (nI rs), .int (nI rd), .ref e2, .ref e3, .ref e4, .int (nI n), .int (nI m), .ref e5, .ref e6, .ref e7, .int (nI be), .int (nI sd), .int (nI tu), .int (nI fo), .ref e8, .ref e9, .int (nI kn), .int (nI tl), .int (nI rn), .ref ea, .long tr, .ref eb])), (e1, .inl (G.2.2.1, 200, .inl (nF bt)))]) F R0 rfl [0, 1] rfl rfl (⟨0, td, _, Or.inl ⟨tK0.mpr (by omega), rfl⟩, by omega, by omega, rfl, by rw [hsk]⟩) dX8_reads_154
        · skip
          refine j_aload_n (q := 26) (i0 := 0) F rfl dX8_reads_25 rfl ?_
          refine j_dup (q := 27) F rfl dX8_reads_26 rfl ?_
          refine j_get (q := 30) (ci := 8) (q0 := 0) (kf := 2) (v := .int (nI q)) F inX8 rfl rfl rfl tw_660 rfl rfl dX8_reads_27 rfl ?_
          refine j_iconst (q := 31) (v := nI 1) F (by decide) dX8_reads_30 rfl ?_
          refine j_iadd (q := 32) (v := nI (q + 1)) F (nI_add _ _) dX8_reads_31 rfl ?_
          refine j_put (q := 35) (ci := 8) (q0 := 0) (kf := 2) (v := .int (nI (q + 1))) (w' := [(e0, .inr (8, [.ref e1, .int (nI ln), .int (nI (q + 1)), .int (nI bg), .int (nI tk), .int (nI td), .int (nI rl), .int (nI rs), .int (nI rd), .ref e2, .ref e3, .ref e4, .int (nI n), .int (nI m), .ref e5, .ref e6, .ref e7, .int (nI be), .int (nI sd), .int (nI tu), .int (nI fo), .ref e8, .ref e9, .int (nI kn), .int (nI tl), .int (nI rn), .ref ea, .long tr, .ref eb])), (e1, .inl (G.2.2.1, 200, .inl (nF bt)))]) F inX8 tyX8_ok nmX8 rfl rfl rfl tw_660 rfl rfl rfl rfl rfl rfl dX8_reads_32 rfl ?_
          refine j_goto (t := 0) F dX8_reads_35 rfl ?_
          refine j_lv [0] (lv' := [(0, .ref e0)]) rfl ?_
          exact ih1 (q + 1) (by omega) (by omega) ((sk_yes (by omega) c32).symm.trans hqe) (by omega)
  refine j_lv [0] (lv' := [(0, .ref e0)]) rfl ?_
  exact lp1 _ p (Nat.le_refl p) hp rfl (Nat.lt_succ_self _)

set_option maxHeartbeats 4000000 in
set_option maxRecDepth 100000 in
theorem c_X8_number (G : Gm) {e0 e1 e2 e3 e4 e5 e6 e7 e8 e9 ea eb : Nat} {ln bg tk td rl rs rd n m be sd tu fo kn tl rn : Nat} {bt : Nat → Nat}  {tr : Int64} {p lim : Nat} {mo : Int32} (hl : ln ≤ 200) (hbt : ∀ i, i < ln → bt i < 256) (hp : p ≤ ln) (htd : td ≤ 2000) (hlim : lim < 1000) (hmo : mo.toInt = (lim : Int) - 1) : Mg G yX8_number cX8_number 3 (some .boolean) ({ frames := 4, cells := 0, slots := 0, locals := 86 } : Room) 0 0 [.ref e0, .int (nI 0), .int mo] [(e0, .inr (8, [.ref e1, .int (nI ln), .int (nI p), .int (nI bg), .int (nI tk), .int (nI td), .int (nI rl), .int (nI rs), .int (nI rd), .ref e2, .ref e3, .ref e4, .int (nI n), .int (nI m), .ref e5, .ref e6, .ref e7, .int (nI be), .int (nI sd), .int (nI tu), .int (nI fo), .ref e8, .ref e9, .int (nI kn), .int (nI tl), .int (nI rn), .ref ea, .long tr, .ref eb])), (e1, .inl (G.2.2.1, 200, .inl (nF bt)))] (fun r w2 => ∃ tk2 td2 aa2, aa2 ≤ ln ∧ td2 ≤ 2000 ∧ w2 = [(e0, .inr (8, [.ref e1, .int (nI ln), .int (nI aa2), .int (nI (sk bt ln p)), .int (nI tk2), .int (nI td2), .int (nI rl), .int (nI rs), .int (nI rd), .ref e2, .ref e3, .ref e4, .int (nI n), .int (nI m), .ref e5, .ref e6, .ref e7, .int (nI be), .int (nI sd), .int (nI tu), .int (nI fo), .ref e8, .ref e9, .int (nI kn), .int (nI tl), .int (nI rn), .ref ea, .long tr, .ref eb])), (e1, .inl (G.2.2.1, 200, .inl (nF bt)))] ∧ ((r = some (.int (nI 1)) ∧ tK bt ln p = 3 ∧ tV bt ln p < lim ∧ td2 = tV bt ln p ∧ aa2 = tE bt ln p) ∨ (r = some (.int (nI 0)) ∧ ¬ (tK bt ln p = 3 ∧ tV bt ln p < lim)))) := by
  refine Mg.mk (lv := [(0, .ref e0), (1, .int (nI 0)), (2, .int mo)]) (by decide) rfl rfl (fun X F R0 => ?_)
  refine j_aload_n (q := 1) (i0 := 0) F rfl dX8_number_0 rfl ?_
  refine j_callV (q := 4) (ci := 8) (q0 := 0) (As := []) (wr := []) (st := []) F (c_X8_reads G hl hbt (p := p) (hp) (htd)) kwX8_reads tw_764 tw_21 tw_762 ⟨Nat.le_of_ble_eq_true rfl, Nat.le_of_ble_eq_true rfl, rfl, rfl, Nat.le_of_ble_eq_true rfl, Nat.le_of_ble_eq_true rfl⟩ [0, 1] [] rfl rfl rfl rfl rfl rfl rfl rfl rfl (Nat.le_of_ble_eq_true rfl) dX8_number_1 rfl ?_
  rintro r_ w_ ⟨tk2, td2, aa2, hmt2, haa2, htd2, rfl, rfl⟩
  refine j_w (w' := [(e0, .inr (8, [.ref e1, .int (nI ln), .int (nI aa2), .int (nI (sk bt ln p)), .int (nI tk2), .int (nI td2), .int (nI rl), .int (nI rs), .int (nI rd), .ref e2, .ref e3, .ref e4, .int (nI n), .int (nI m), .ref e5, .ref e6, .ref e7, .int (nI be), .int (nI sd), .int (nI tu), .int (nI fo), .ref e8, .ref e9, .int (nI kn), .int (nI tl), .int (nI rn), .ref ea, .long tr, .ref eb])), (e1, .inl (G.2.2.1, 200, .inl (nF bt)))]) [0, 1] rfl rfl ?_
  show Jw G X _ 0 0 4 _ [] _
  have htk2 := hmt2.tk_le
  refine j_aload_n (q := 5) (i0 := 0) F rfl dX8_number_4 rfl ?_
  refine j_get (q := 8) (ci := 8) (q0 := 0) (kf := 4) (v := .int (nI tk2)) F inX8 rfl rfl rfl tw_662 rfl rfl dX8_number_5 rfl ?_
  refine j_iconst (q := 9) (v := nI 2) F (by decide) dX8_number_8 rfl ?_
  refine j_icmp_ne (q := 12) (t := 31) F (Pp := tk2 = 2) (nI_eq (by omega) (by omega)) dX8_number_9 rfl rfl (fun c2 => ?_) (fun c2 => ?_)
  · skip
    refine j_iconst (q := 32) (v := nI 0) F (by decide) dX8_number_31 rfl ?_
    exact j_zret (w2 := [(e0, .inr (8, [.ref e1, .int (nI ln), .int (nI aa2), .int (nI (sk bt ln p)), .int (nI tk2), .int (nI td2), .int (nI rl), .int (nI rs), .int (nI rd), .ref e2, .ref e3, .ref e4, .int (nI n), .int (nI m), .ref e5, .ref e6, .ref e7, .int (nI be), .int (nI sd), .int (nI tu), .int (nI fo), .ref e8, .ref e9, .int (nI kn), .int (nI tl), .int (nI rn), .ref ea, .long tr, .ref eb])), (e1, .inl (G.2.2.1, 200, .inl (nF bt)))]) F R0 rfl rfl [0, 1] rfl rfl (⟨_, _, _, haa2, htd2, rfl, Or.inr ⟨rfl, fun z => mtNn hmt2 c2 z.1⟩⟩) dX8_number_32
  · skip
    obtain ⟨hk3, hva, hret⟩ := mtN hmt2 c2
    refine j_aload_n (q := 13) (i0 := 0) F rfl dX8_number_12 rfl ?_
    refine j_get (q := 16) (ci := 8) (q0 := 0) (kf := 5) (v := .int (nI td2)) F inX8 rfl rfl rfl tw_663 rfl rfl dX8_number_13 rfl ?_
    refine j_i2l (q := 17) (v := Int32.toInt64 (nI td2)) F rfl dX8_number_16 rfl ?_
    refine j_iload_n (q := 18) (i0 := 1) F rfl dX8_number_17 rfl ?_
    refine j_i2l (q := 19) (v := Int32.toInt64 (nI 0)) F rfl dX8_number_18 rfl ?_
    refine j_iload_n (q := 20) (i0 := 2) F rfl dX8_number_19 rfl ?_
    refine j_i2l (q := 21) (v := Int32.toInt64 mo) F rfl dX8_number_20 rfl ?_
    refine j_callS (q := 24) (As := [.long (Int32.toInt64 (nI td2)), .long (Int32.toInt64 (nI 0)), .long (Int32.toInt64 mo)]) (wr := [(e0, .inr (8, [.ref e1, .int (nI ln), .int (nI aa2), .int (nI (sk bt ln p)), .int (nI tk2), .int (nI td2), .int (nI rl), .int (nI rs), .int (nI rd), .ref e2, .ref e3, .ref e4, .int (nI n), .int (nI m), .ref e5, .ref e6, .ref e7, .int (nI be), .int (nI sd), .int (nI tu), .int (nI fo), .ref e8, .ref e9, .int (nI kn), .int (nI tl), .int (nI rn), .ref ea, .long tr, .ref eb])), (e1, .inl (G.2.2.1, 200, .inl (nF bt)))]) (st := []) F (c_inR G (x := nI td2) (n := lim) (show Int32.toInt64 (nI 0) = 0 by decide) (by omega) ((Int32.toInt_toInt64 mo).trans hmo)) kwX8_in tw_752 tw_751 ⟨Nat.le_of_ble_eq_true rfl, Nat.le_of_ble_eq_true rfl, rfl, rfl, Nat.le_of_ble_eq_true rfl, Nat.le_of_ble_eq_true rfl⟩ [] [0, 1] rfl rfl rfl rfl rfl rfl rfl (Nat.le_of_ble_eq_true rfl) dX8_number_21 rfl ?_
    rintro r_ w_ ⟨rfl, (⟨rfl, h1⟩ | ⟨rfl, h1⟩)⟩
    · skip
      refine j_w (w' := [(e0, .inr (8, [.ref e1, .int (nI ln), .int (nI aa2), .int (nI (sk bt ln p)), .int (nI tk2), .int (nI td2), .int (nI rl), .int (nI rs), .int (nI rd), .ref e2, .ref e3, .ref e4, .int (nI n), .int (nI m), .ref e5, .ref e6, .ref e7, .int (nI be), .int (nI sd), .int (nI tu), .int (nI fo), .ref e8, .ref e9, .int (nI kn), .int (nI tl), .int (nI rn), .ref ea, .long tr, .ref eb])), (e1, .inl (G.2.2.1, 200, .inl (nF bt)))]) [0, 1] rfl rfl ?_
      show Jw G X _ 0 0 24 _ [.int (nI 1)] _
      rw [inR_nI (by omega) (by omega)] at h1
      refine j_if_eq (q := 27) (t := 31) F (cf (by decide)) dX8_number_24 rfl rfl (fun z => False.elim z) (fun _ => ?_)
      refine j_iconst (q := 28) (v := nI 1) F (by decide) dX8_number_27 rfl ?_
      refine j_goto (t := 32) F dX8_number_28 rfl ?_
      exact j_zret (w2 := [(e0, .inr (8, [.ref e1, .int (nI ln), .int (nI aa2), .int (nI (sk bt ln p)), .int (nI tk2), .int (nI td2), .int (nI rl), .int (nI rs), .int (nI rd), .ref e2, .ref e3, .ref e4, .int (nI n), .int (nI m), .ref e5, .ref e6, .ref e7, .int (nI be), .int (nI sd), .int (nI tu), .int (nI fo), .ref e8, .ref e9, .int (nI kn), .int (nI tl), .int (nI rn), .ref ea, .long tr, .ref eb])), (e1, .inl (G.2.2.1, 200, .inl (nF bt)))]) F R0 rfl rfl [0, 1] rfl rfl (⟨_, _, _, haa2, htd2, rfl, Or.inl ⟨rfl, hk3, by omega, hva, hret⟩⟩) dX8_number_32
    · skip
      refine j_w (w' := [(e0, .inr (8, [.ref e1, .int (nI ln), .int (nI aa2), .int (nI (sk bt ln p)), .int (nI tk2), .int (nI td2), .int (nI rl), .int (nI rs), .int (nI rd), .ref e2, .ref e3, .ref e4, .int (nI n), .int (nI m), .ref e5, .ref e6, .ref e7, .int (nI be), .int (nI sd), .int (nI tu), .int (nI fo), .ref e8, .ref e9, .int (nI kn), .int (nI tl), .int (nI rn), .ref ea, .long tr, .ref eb])), (e1, .inl (G.2.2.1, 200, .inl (nF bt)))]) [0, 1] rfl rfl ?_
      show Jw G X _ 0 0 24 _ [.int (nI 0)] _
      rw [inR_nI (by omega) (by omega)] at h1
      refine j_if_eq (q := 27) (t := 31) F (ct (by decide)) dX8_number_24 rfl rfl (fun _ => ?_) (fun z => absurd trivial z)
      refine j_iconst (q := 32) (v := nI 0) F (by decide) dX8_number_31 rfl ?_
      exact j_zret (w2 := [(e0, .inr (8, [.ref e1, .int (nI ln), .int (nI aa2), .int (nI (sk bt ln p)), .int (nI tk2), .int (nI td2), .int (nI rl), .int (nI rs), .int (nI rd), .ref e2, .ref e3, .ref e4, .int (nI n), .int (nI m), .ref e5, .ref e6, .ref e7, .int (nI be), .int (nI sd), .int (nI tu), .int (nI fo), .ref e8, .ref e9, .int (nI kn), .int (nI tl), .int (nI rn), .ref ea, .long tr, .ref eb])), (e1, .inl (G.2.2.1, 200, .inl (nF bt)))]) F R0 rfl rfl [0, 1] rfl rfl (⟨_, _, _, haa2, htd2, rfl, Or.inr ⟨rfl, fun z => h1 (by omega)⟩⟩) dX8_number_32

set_option maxHeartbeats 4000000 in
set_option maxRecDepth 100000 in
theorem c_X8_readLamp (G : Gm) {e0 e1 e2 e3 e4 e5 e6 e7 e8 e9 ea eb : Nat} {ln bg tk td rl rs rd n m be sd tu fo kn tl rn : Nat} {bt rr : Nat → Nat}  {tr : Int64} {p : Nat} (hl : ln ≤ 200) (hbt : ∀ i, i < ln → bt i < 256) (hp : p ≤ ln) (htd : td ≤ 2000) (hrl : rl ≤ 9) : Mg G yX8_readLamp cX8_readLamp 1 (some .boolean) ({ frames := 5, cells := 0, slots := 0, locals := 108 } : Room) 0 0 [.ref e0] [(e0, .inr (8, [.ref e1, .int (nI ln), .int (nI p), .int (nI bg), .int (nI tk), .int (nI td), .int (nI rl), .int (nI rs), .int (nI rd), .ref e2, .ref e3, .ref e4, .int (nI n), .int (nI m), .ref e5, .ref e6, .ref e7, .int (nI be), .int (nI sd), .int (nI tu), .int (nI fo), .ref e8, .ref e9, .int (nI kn), .int (nI tl), .int (nI rn), .ref ea, .long tr, .ref eb])), (e1, .inl (G.2.2.1, 200, .inl (nF bt))), (e2, .inl (G.2.2.1, 9, .inl (nF rr)))] (fun r w2 => ∃ tk2 td2 aa2 bg2 rl2 rd2 rr2, w2 = [(e0, .inr (8, [.ref e1, .int (nI ln), .int (nI aa2), .int (nI bg2), .int (nI tk2), .int (nI td2), .int (nI rl2), .int (nI rs), .int (nI rd2), .ref e2, .ref e3, .ref e4, .int (nI n), .int (nI m), .ref e5, .ref e6, .ref e7, .int (nI be), .int (nI sd), .int (nI tu), .int (nI fo), .ref e8, .ref e9, .int (nI kn), .int (nI tl), .int (nI rn), .ref ea, .long tr, .ref eb])), (e1, .inl (G.2.2.1, 200, .inl (nF bt))), (e2, .inl (G.2.2.1, 9, .inl (nF rr2)))] ∧ td2 ≤ 2000 ∧ ((r = some (.int (nI 0)) ∧ ((rl = 9 ∧ bg2 = bg) ∨ (¬ rl = 9 ∧ lmpF bt ln p = .inl bg2))) ∨ (r = some (.int (nI 1)) ∧ ¬ rl = 9 ∧ ∃ a b, lmpF bt ln p = .inr (a, b, aa2) ∧ rl2 = rl + 1 ∧ rd2 = rd ||| b * 2 ^ rl ∧ rr2 = va_up rr rl a))) := by
  refine Mg.mk (lv := [(0, .ref e0)]) (by decide) rfl rfl (fun X F R0 => ?_)
  refine j_aload_n (q := 1) (i0 := 0) F rfl dX8_readLamp_0 rfl ?_
  refine j_get (q := 4) (ci := 8) (q0 := 0) (kf := 6) (v := .int (nI rl)) F inX8 rfl rfl rfl tw_664 rfl rfl dX8_readLamp_1 rfl ?_
  refine j_bipush (q := 6) (v := nI 9) F (by decide) dX8_readLamp_4 rfl ?_
  refine j_icmp_eq (q := 9) (t := 18) F (Pp := rl = 9) (nI_eq (by omega) (by omega)) dX8_readLamp_6 rfl rfl (fun c9 => ?_) (fun c9 => ?_)
  · skip
    refine j_iconst (q := 19) (v := nI 0) F (by decide) dX8_readLamp_18 rfl ?_
    exact j_zret (w2 := [(e0, .inr (8, [.ref e1, .int (nI ln), .int (nI p), .int (nI bg), .int (nI tk), .int (nI td), .int (nI rl), .int (nI rs), .int (nI rd), .ref e2, .ref e3, .ref e4, .int (nI n), .int (nI m), .ref e5, .ref e6, .ref e7, .int (nI be), .int (nI sd), .int (nI tu), .int (nI fo), .ref e8, .ref e9, .int (nI kn), .int (nI tl), .int (nI rn), .ref ea, .long tr, .ref eb])), (e1, .inl (G.2.2.1, 200, .inl (nF bt))), (e2, .inl (G.2.2.1, 9, .inl (nF rr)))]) F R0 rfl rfl [0, 1, 2] rfl rfl (⟨_, _, _, _, _, _, _, rfl, by omega, Or.inl ⟨rfl, Or.inl ⟨c9, rfl⟩⟩⟩) dX8_readLamp_19
  · skip
    refine j_aload_n (q := 10) (i0 := 0) F rfl dX8_readLamp_9 rfl ?_
    refine j_iconst (q := 11) (v := nI 0) F (by decide) dX8_readLamp_10 rfl ?_
    refine j_iconst (q := 12) (v := nI 3) F (by decide) dX8_readLamp_11 rfl ?_
    refine j_callV (q := 15) (ci := 8) (q0 := 0) (As := [.int (nI 0), .int (nI 3)]) (wr := [(e2, .inl (G.2.2.1, 9, .inl (nF rr)))]) (st := []) F (c_X8_number G (mo := nI 3) (lim := 4) hl hbt (p := p) (hp) (htd) (by omega) (by rw [nI_toInt (by decide)]; rfl)) kwX8_number tw_790 tw_25 tw_788 ⟨Nat.le_of_ble_eq_true rfl, Nat.le_of_ble_eq_true rfl, rfl, rfl, Nat.le_of_ble_eq_true rfl, Nat.le_of_ble_eq_true rfl⟩ [0, 1] [2] rfl rfl rfl rfl rfl rfl rfl rfl rfl (Nat.le_of_ble_eq_true rfl) dX8_readLamp_12 rfl ?_
    rintro r_ w_ ⟨tkA, tdA, aaA, haaA, htdA, rfl, (⟨rfl, hkA, hvA, rfl, rfl⟩ | ⟨rfl, hnoA⟩)⟩
    · skip
      refine j_w (w' := [(e0, .inr (8, [.ref e1, .int (nI ln), .int (nI (tE bt ln p)), .int (nI (sk bt ln p)), .int (nI tkA), .int (nI (tV bt ln p)), .int (nI rl), .int (nI rs), .int (nI rd), .ref e2, .ref e3, .ref e4, .int (nI n), .int (nI m), .ref e5, .ref e6, .ref e7, .int (nI be), .int (nI sd), .int (nI tu), .int (nI fo), .ref e8, .ref e9, .int (nI kn), .int (nI tl), .int (nI rn), .ref ea, .long tr, .ref eb])), (e1, .inl (G.2.2.1, 200, .inl (nF bt))), (e2, .inl (G.2.2.1, 9, .inl (nF rr)))]) [1, 2, 0] rfl rfl ?_
      show Jw G X _ 0 0 15 _ [.int (nI 1)] _
      have hinA := tE_in (bt := bt) (ln := ln) (p := p) (hp) (by omega)
      refine j_if_ne (q := 18) (t := 20) F (cf (by decide)) dX8_readLamp_15 rfl rfl (fun _ => ?_) (fun z => False.elim z)
      refine j_aload_n (q := 21) (i0 := 0) F rfl dX8_readLamp_20 rfl ?_
      refine j_get (q := 24) (ci := 8) (q0 := 0) (kf := 9) (v := .ref e2) F inX8 rfl rfl rfl tw_667 rfl rfl dX8_readLamp_21 rfl ?_
      refine j_aload_n (q := 25) (i0 := 0) F rfl dX8_readLamp_24 rfl ?_
      refine j_get (q := 28) (ci := 8) (q0 := 0) (kf := 6) (v := .int (nI rl)) F inX8 rfl rfl rfl tw_664 rfl rfl dX8_readLamp_25 rfl ?_
      refine j_aload_n (q := 29) (i0 := 0) F rfl dX8_readLamp_28 rfl ?_
      refine j_get (q := 32) (ci := 8) (q0 := 0) (kf := 5) (v := .int (nI (tV bt ln p))) F inX8 rfl rfl rfl tw_663 rfl rfl dX8_readLamp_29 rfl ?_
      refine j_iast (q := 33) (q0 := 2) (i := rl) (f2 := nF (va_up rr rl (tV bt ln p))) (w' := [(e0, .inr (8, [.ref e1, .int (nI ln), .int (nI (tE bt ln p)), .int (nI (sk bt ln p)), .int (nI tkA), .int (nI (tV bt ln p)), .int (nI rl), .int (nI rs), .int (nI rd), .ref e2, .ref e3, .ref e4, .int (nI n), .int (nI m), .ref e5, .ref e6, .ref e7, .int (nI be), .int (nI sd), .int (nI tu), .int (nI fo), .ref e8, .ref e9, .int (nI kn), .int (nI tl), .int (nI rn), .ref ea, .long tr, .ref eb])), (e1, .inl (G.2.2.1, 200, .inl (nF bt))), (e2, .inl (G.2.2.1, 9, .inl (nF (va_up rr rl (tV bt ln p)))))]) F rfl rfl (by omega) rfl (nF_up _ _ _) rfl dX8_readLamp_32 rfl ?_
      refine j_aload_n (q := 34) (i0 := 0) F rfl dX8_readLamp_33 rfl ?_
      refine j_iconst (q := 35) (v := nI 0) F (by decide) dX8_readLamp_34 rfl ?_
      refine j_iconst (q := 36) (v := nI 1) F (by decide) dX8_readLamp_35 rfl ?_
      refine j_callV (q := 39) (ci := 8) (q0 := 0) (As := [.int (nI 0), .int (nI 1)]) (wr := [(e2, .inl (G.2.2.1, 9, .inl (nF (va_up rr rl (tV bt ln p)))))]) (st := []) F (c_X8_number G (mo := nI 1) (lim := 2) hl hbt (p := tE bt ln p) (by omega) (by omega) (by omega) (by rw [nI_toInt (by decide)]; rfl)) kwX8_number tw_790 tw_25 tw_788 ⟨Nat.le_of_ble_eq_true rfl, Nat.le_of_ble_eq_true rfl, rfl, rfl, Nat.le_of_ble_eq_true rfl, Nat.le_of_ble_eq_true rfl⟩ [0, 1] [2] rfl rfl rfl rfl rfl rfl rfl rfl rfl (Nat.le_of_ble_eq_true rfl) dX8_readLamp_36 rfl ?_
      rintro r_ w_ ⟨tkB, tdB, aaB, haaB, htdB, rfl, (⟨rfl, hkB, hvB, rfl, rfl⟩ | ⟨rfl, hnoB⟩)⟩
      · skip
        refine j_w (w' := [(e0, .inr (8, [.ref e1, .int (nI ln), .int (nI (tE bt ln (tE bt ln p))), .int (nI (sk bt ln (tE bt ln p))), .int (nI tkB), .int (nI (tV bt ln (tE bt ln p))), .int (nI rl), .int (nI rs), .int (nI rd), .ref e2, .ref e3, .ref e4, .int (nI n), .int (nI m), .ref e5, .ref e6, .ref e7, .int (nI be), .int (nI sd), .int (nI tu), .int (nI fo), .ref e8, .ref e9, .int (nI kn), .int (nI tl), .int (nI rn), .ref ea, .long tr, .ref eb])), (e1, .inl (G.2.2.1, 200, .inl (nF bt))), (e2, .inl (G.2.2.1, 9, .inl (nF (va_up rr rl (tV bt ln p)))))]) [1, 2, 0] rfl rfl ?_
        show Jw G X _ 0 0 39 _ [.int (nI 1)] _
        have hinB := tE_in (bt := bt) (ln := ln) (p := tE bt ln p) (by omega) (by omega)
        refine j_if_ne (q := 42) (t := 44) F (cf (by decide)) dX8_readLamp_39 rfl rfl (fun _ => ?_) (fun z => False.elim z)
        refine j_aload_n (q := 45) (i0 := 0) F rfl dX8_readLamp_44 rfl ?_
        refine j_dup (q := 46) F rfl dX8_readLamp_45 rfl ?_
        refine j_get (q := 49) (ci := 8) (q0 := 0) (kf := 8) (v := .int (nI rd)) F inX8 rfl rfl rfl tw_666 rfl rfl dX8_readLamp_46 rfl ?_
        refine j_aload_n (q := 50) (i0 := 0) F rfl dX8_readLamp_49 rfl ?_
        refine j_get (q := 53) (ci := 8) (q0 := 0) (kf := 5) (v := .int (nI (tV bt ln (tE bt ln p)))) F inX8 rfl rfl rfl tw_663 rfl rfl dX8_readLamp_50 rfl ?_
        refine j_aload_n (q := 54) (i0 := 0) F rfl dX8_readLamp_53 rfl ?_
        refine j_get (q := 57) (ci := 8) (q0 := 0) (kf := 6) (v := .int (nI rl)) F inX8 rfl rfl rfl tw_664 rfl rfl dX8_readLamp_54 rfl ?_
        refine j_ishl (q := 58) (v := nI (tV bt ln (tE bt ln p) * 2 ^ rl)) F (nx_shl (by omega) (mul_b (by omega) (by omega))) dX8_readLamp_57 rfl ?_
        refine j_ior (q := 59) (v := nI (rd ||| (tV bt ln (tE bt ln p) * 2 ^ rl))) F (nx_or _ _) dX8_readLamp_58 rfl ?_
        refine j_put (q := 62) (ci := 8) (q0 := 0) (kf := 8) (v := .int (nI (rd ||| (tV bt ln (tE bt ln p) * 2 ^ rl)))) (w' := [(e0, .inr (8, [.ref e1, .int (nI ln), .int (nI (tE bt ln (tE bt ln p))), .int (nI (sk bt ln (tE bt ln p))), .int (nI tkB), .int (nI (tV bt ln (tE bt ln p))), .int (nI rl), .int (nI rs), .int (nI (rd ||| (tV bt ln (tE bt ln p) * 2 ^ rl))), .ref e2, .ref e3, .ref e4, .int (nI n), .int (nI m), .ref e5, .ref e6, .ref e7, .int (nI be), .int (nI sd), .int (nI tu), .int (nI fo), .ref e8, .ref e9, .int (nI kn), .int (nI tl), .int (nI rn), .ref ea, .long tr, .ref eb])), (e1, .inl (G.2.2.1, 200, .inl (nF bt))), (e2, .inl (G.2.2.1, 9, .inl (nF (va_up rr rl (tV bt ln p)))))]) F inX8 tyX8_ok nmX8 rfl rfl rfl tw_666 rfl rfl rfl rfl rfl rfl dX8_readLamp_59 rfl ?_
        refine j_aload_n (q := 63) (i0 := 0) F rfl dX8_readLamp_62 rfl ?_
        refine j_dup (q := 64) F rfl dX8_readLamp_63 rfl ?_
        refine j_get (q := 67) (ci := 8) (q0 := 0) (kf := 6) (v := .int (nI rl)) F inX8 rfl rfl rfl tw_664 rfl rfl dX8_readLamp_64 rfl ?_
        refine j_iconst (q := 68) (v := nI 1) F (by decide) dX8_readLamp_67 rfl ?_
        refine j_iadd (q := 69) (v := nI (rl + 1)) F (nI_add _ _) dX8_readLamp_68 rfl ?_
        refine j_put (q := 72) (ci := 8) (q0 := 0) (kf := 6) (v := .int (nI (rl + 1))) (w' := [(e0, .inr (8, [.ref e1, .int (nI ln), .int (nI (tE bt ln (tE bt ln p))), .int (nI (sk bt ln (tE bt ln p))), .int (nI tkB), .int (nI (tV bt ln (tE bt ln p))), .int (nI (rl + 1)), .int (nI rs), .int (nI (rd ||| (tV bt ln (tE bt ln p) * 2 ^ rl))), .ref e2, .ref e3, .ref e4, .int (nI n), .int (nI m), .ref e5, .ref e6, .ref e7, .int (nI be), .int (nI sd), .int (nI tu), .int (nI fo), .ref e8, .ref e9, .int (nI kn), .int (nI tl), .int (nI rn), .ref ea, .long tr, .ref eb])), (e1, .inl (G.2.2.1, 200, .inl (nF bt))), (e2, .inl (G.2.2.1, 9, .inl (nF (va_up rr rl (tV bt ln p)))))]) F inX8 tyX8_ok nmX8 rfl rfl rfl tw_664 rfl rfl rfl rfl rfl rfl dX8_readLamp_69 rfl ?_
        refine j_aload_n (q := 73) (i0 := 0) F rfl dX8_readLamp_72 rfl ?_
        refine j_callV (q := 76) (ci := 8) (q0 := 0) (As := []) (wr := [(e2, .inl (G.2.2.1, 9, .inl (nF (va_up rr rl (tV bt ln p)))))]) (st := []) F (c_X8_reads G hl hbt (p := tE bt ln (tE bt ln p)) (by omega) (by omega)) kwX8_reads tw_764 tw_21 tw_762 ⟨Nat.le_of_ble_eq_true rfl, Nat.le_of_ble_eq_true rfl, rfl, rfl, Nat.le_of_ble_eq_true rfl, Nat.le_of_ble_eq_true rfl⟩ [0, 1] [2] rfl rfl rfl rfl rfl rfl rfl rfl rfl (Nat.le_of_ble_eq_true rfl) dX8_readLamp_73 rfl ?_
        rintro r_ w_ ⟨tkC, tdC, aaC, hmtC, haaC, htdC, rfl, rfl⟩
        refine j_w (w' := [(e0, .inr (8, [.ref e1, .int (nI ln), .int (nI aaC), .int (nI (sk bt ln (tE bt ln (tE bt ln p)))), .int (nI tkC), .int (nI tdC), .int (nI (rl + 1)), .int (nI rs), .int (nI (rd ||| (tV bt ln (tE bt ln p) * 2 ^ rl))), .ref e2, .ref e3, .ref e4, .int (nI n), .int (nI m), .ref e5, .ref e6, .ref e7, .int (nI be), .int (nI sd), .int (nI tu), .int (nI fo), .ref e8, .ref e9, .int (nI kn), .int (nI tl), .int (nI rn), .ref ea, .long tr, .ref eb])), (e1, .inl (G.2.2.1, 200, .inl (nF bt))), (e2, .inl (G.2.2.1, 9, .inl (nF (va_up rr rl (tV bt ln p)))))]) [1, 2, 0] rfl rfl ?_
        show Jw G X _ 0 0 76 _ [] _
        have htkC := hmtC.tk_le
        refine j_aload_n (q := 77) (i0 := 0) F rfl dX8_readLamp_76 rfl ?_
        refine j_get (q := 80) (ci := 8) (q0 := 0) (kf := 4) (v := .int (nI tkC)) F inX8 rfl rfl rfl tw_662 rfl rfl dX8_readLamp_77 rfl ?_
        refine j_iconst (q := 81) (v := nI 3) F (by decide) dX8_readLamp_80 rfl ?_
        refine j_icmp_ne (q := 84) (t := 88) F (Pp := tkC = 3) (nI_eq (by omega) (by omega)) dX8_readLamp_81 rfl rfl (fun c3 => ?_) (fun c3 => ?_)
        · skip
          refine j_iconst (q := 89) (v := nI 0) F (by decide) dX8_readLamp_88 rfl ?_
          exact j_zret (w2 := [(e0, .inr (8, [.ref e1, .int (nI ln), .int (nI aaC), .int (nI (sk bt ln (tE bt ln (tE bt ln p)))), .int (nI tkC), .int (nI tdC), .int (nI (rl + 1)), .int (nI rs), .int (nI (rd ||| (tV bt ln (tE bt ln p) * 2 ^ rl))), .ref e2, .ref e3, .ref e4, .int (nI n), .int (nI m), .ref e5, .ref e6, .ref e7, .int (nI be), .int (nI sd), .int (nI tu), .int (nI fo), .ref e8, .ref e9, .int (nI kn), .int (nI tl), .int (nI rn), .ref ea, .long tr, .ref eb])), (e1, .inl (G.2.2.1, 200, .inl (nF bt))), (e2, .inl (G.2.2.1, 9, .inl (nF (va_up rr rl (tV bt ln p)))))]) F R0 rfl rfl [0, 1, 2] rfl rfl (⟨_, _, _, _, _, _, _, rfl, by omega, Or.inl ⟨rfl, Or.inr ⟨c9, lmpF_f3 ⟨hkA, hvA⟩ ⟨hkB, hvB⟩ (mtSn hmtC c3)⟩⟩⟩) dX8_readLamp_89
        · skip
          refine j_iconst (q := 85) (v := nI 1) F (by decide) dX8_readLamp_84 rfl ?_
          refine j_goto (t := 89) F dX8_readLamp_85 rfl ?_
          exact j_zret (w2 := [(e0, .inr (8, [.ref e1, .int (nI ln), .int (nI aaC), .int (nI (sk bt ln (tE bt ln (tE bt ln p)))), .int (nI tkC), .int (nI tdC), .int (nI (rl + 1)), .int (nI rs), .int (nI (rd ||| (tV bt ln (tE bt ln p) * 2 ^ rl))), .ref e2, .ref e3, .ref e4, .int (nI n), .int (nI m), .ref e5, .ref e6, .ref e7, .int (nI be), .int (nI sd), .int (nI tu), .int (nI fo), .ref e8, .ref e9, .int (nI kn), .int (nI tl), .int (nI rn), .ref ea, .long tr, .ref eb])), (e1, .inl (G.2.2.1, 200, .inl (nF bt))), (e2, .inl (G.2.2.1, 9, .inl (nF (va_up rr rl (tV bt ln p)))))]) F R0 rfl rfl [0, 1, 2] rfl rfl (⟨_, _, _, _, _, _, _, rfl, by omega, Or.inr ⟨rfl, c9, _, _, by rw [(mtS hmtC c3).2]; exact lmpF_ok ⟨hkA, hvA⟩ ⟨hkB, hvB⟩ (mtS hmtC c3).1, rfl, rfl, rfl⟩⟩) dX8_readLamp_89
      · skip
        refine j_w (w' := [(e0, .inr (8, [.ref e1, .int (nI ln), .int (nI aaB), .int (nI (sk bt ln (tE bt ln p))), .int (nI tkB), .int (nI tdB), .int (nI rl), .int (nI rs), .int (nI rd), .ref e2, .ref e3, .ref e4, .int (nI n), .int (nI m), .ref e5, .ref e6, .ref e7, .int (nI be), .int (nI sd), .int (nI tu), .int (nI fo), .ref e8, .ref e9, .int (nI kn), .int (nI tl), .int (nI rn), .ref ea, .long tr, .ref eb])), (e1, .inl (G.2.2.1, 200, .inl (nF bt))), (e2, .inl (G.2.2.1, 9, .inl (nF (va_up rr rl (tV bt ln p)))))]) [1, 2, 0] rfl rfl ?_
        show Jw G X _ 0 0 39 _ [.int (nI 0)] _
        refine j_if_ne (q := 42) (t := 44) F (ct (by decide)) dX8_readLamp_39 rfl rfl (fun z => absurd trivial z) (fun _ => ?_)
        refine j_iconst (q := 43) (v := nI 0) F (by decide) dX8_readLamp_42 rfl ?_
        exact j_zret (w2 := [(e0, .inr (8, [.ref e1, .int (nI ln), .int (nI aaB), .int (nI (sk bt ln (tE bt ln p))), .int (nI tkB), .int (nI tdB), .int (nI rl), .int (nI rs), .int (nI rd), .ref e2, .ref e3, .ref e4, .int (nI n), .int (nI m), .ref e5, .ref e6, .ref e7, .int (nI be), .int (nI sd), .int (nI tu), .int (nI fo), .ref e8, .ref e9, .int (nI kn), .int (nI tl), .int (nI rn), .ref ea, .long tr, .ref eb])), (e1, .inl (G.2.2.1, 200, .inl (nF bt))), (e2, .inl (G.2.2.1, 9, .inl (nF (va_up rr rl (tV bt ln p)))))]) F R0 rfl rfl [0, 1, 2] rfl rfl (⟨_, _, _, _, _, _, _, rfl, by omega, Or.inl ⟨rfl, Or.inr ⟨c9, lmpF_f2 ⟨hkA, hvA⟩ hnoB⟩⟩⟩) dX8_readLamp_43
    · skip
      refine j_w (w' := [(e0, .inr (8, [.ref e1, .int (nI ln), .int (nI aaA), .int (nI (sk bt ln p)), .int (nI tkA), .int (nI tdA), .int (nI rl), .int (nI rs), .int (nI rd), .ref e2, .ref e3, .ref e4, .int (nI n), .int (nI m), .ref e5, .ref e6, .ref e7, .int (nI be), .int (nI sd), .int (nI tu), .int (nI fo), .ref e8, .ref e9, .int (nI kn), .int (nI tl), .int (nI rn), .ref ea, .long tr, .ref eb])), (e1, .inl (G.2.2.1, 200, .inl (nF bt))), (e2, .inl (G.2.2.1, 9, .inl (nF rr)))]) [1, 2, 0] rfl rfl ?_
      show Jw G X _ 0 0 15 _ [.int (nI 0)] _
      refine j_if_ne (q := 18) (t := 20) F (ct (by decide)) dX8_readLamp_15 rfl rfl (fun z => absurd trivial z) (fun _ => ?_)
      refine j_iconst (q := 19) (v := nI 0) F (by decide) dX8_readLamp_18 rfl ?_
      exact j_zret (w2 := [(e0, .inr (8, [.ref e1, .int (nI ln), .int (nI aaA), .int (nI (sk bt ln p)), .int (nI tkA), .int (nI tdA), .int (nI rl), .int (nI rs), .int (nI rd), .ref e2, .ref e3, .ref e4, .int (nI n), .int (nI m), .ref e5, .ref e6, .ref e7, .int (nI be), .int (nI sd), .int (nI tu), .int (nI fo), .ref e8, .ref e9, .int (nI kn), .int (nI tl), .int (nI rn), .ref ea, .long tr, .ref eb])), (e1, .inl (G.2.2.1, 200, .inl (nF bt))), (e2, .inl (G.2.2.1, 9, .inl (nF rr)))]) F R0 rfl rfl [0, 1, 2] rfl rfl (⟨_, _, _, _, _, _, _, rfl, by omega, Or.inl ⟨rfl, Or.inr ⟨c9, lmpF_f1 hnoA⟩⟩⟩) dX8_readLamp_19

set_option maxHeartbeats 4000000 in
set_option maxRecDepth 100000 in
theorem c_X8_readStreet (G : Gm) {e0 e1 e2 e3 e4 e5 e6 e7 e8 e9 ea eb : Nat} {ln bg tk td rl rs rd n m be sd tu fo kn tl rn : Nat} {bt ra rb : Nat → Nat}  {tr : Int64} {p : Nat} (hl : ln ≤ 200) (hbt : ∀ i, i < ln → bt i < 256) (hp : p ≤ ln) (htd : td ≤ 2000) (hrl : rl ≤ 9) (hrs : rs ≤ 15) (hlo : ∀ k, k < rs → ra k < rb k ∧ rb k < rl) : Mg G yX8_readStreet cX8_readStreet 5 (some .boolean) ({ frames := 5, cells := 0, slots := 0, locals := 108 } : Room) 0 0 [.ref e0] [(e0, .inr (8, [.ref e1, .int (nI ln), .int (nI p), .int (nI bg), .int (nI tk), .int (nI td), .int (nI rl), .int (nI rs), .int (nI rd), .ref e2, .ref e3, .ref e4, .int (nI n), .int (nI m), .ref e5, .ref e6, .ref e7, .int (nI be), .int (nI sd), .int (nI tu), .int (nI fo), .ref e8, .ref e9, .int (nI kn), .int (nI tl), .int (nI rn), .ref ea, .long tr, .ref eb])), (e1, .inl (G.2.2.1, 200, .inl (nF bt))), (e3, .inl (G.2.2.1, 15, .inl (nF ra))), (e4, .inl (G.2.2.1, 15, .inl (nF rb)))] (fun r w2 => ∃ tk2 td2 aa2 bg2 rs2 ra2 rb2, w2 = [(e0, .inr (8, [.ref e1, .int (nI ln), .int (nI aa2), .int (nI bg2), .int (nI tk2), .int (nI td2), .int (nI rl), .int (nI rs2), .int (nI rd), .ref e2, .ref e3, .ref e4, .int (nI n), .int (nI m), .ref e5, .ref e6, .ref e7, .int (nI be), .int (nI sd), .int (nI tu), .int (nI fo), .ref e8, .ref e9, .int (nI kn), .int (nI tl), .int (nI rn), .ref ea, .long tr, .ref eb])), (e1, .inl (G.2.2.1, 200, .inl (nF bt))), (e3, .inl (G.2.2.1, 15, .inl (nF ra2))), (e4, .inl (G.2.2.1, 15, .inl (nF rb2)))] ∧ td2 ≤ 2000 ∧ ((r = some (.int (nI 0)) ∧ ((rs = 15 ∧ bg2 = bg) ∨ (¬ rs = 15 ∧ strF bt ln rl rs ra rb p = .inl bg2))) ∨ (r = some (.int (nI 1)) ∧ ¬ rs = 15 ∧ ∃ a b, strF bt ln rl rs ra rb p = .inr (a, b, aa2) ∧ rs2 = rs + 1 ∧ ra2 = va_up ra rs (min a b) ∧ rb2 = va_up rb rs (max a b)))) := by
  refine Mg.mk (lv := [(0, .ref e0)]) (by decide) rfl rfl (fun X F R0 => ?_)
  refine j_aload_n (q := 1) (i0 := 0) F rfl dX8_readStreet_0 rfl ?_
  refine j_get (q := 4) (ci := 8) (q0 := 0) (kf := 7) (v := .int (nI rs)) F inX8 rfl rfl rfl tw_665 rfl rfl dX8_readStreet_1 rfl ?_
  refine j_bipush (q := 6) (v := nI 15) F (by decide) dX8_readStreet_4 rfl ?_
  refine j_icmp_eq (q := 9) (t := 23) F (Pp := rs = 15) (nI_eq (by omega) (by omega)) dX8_readStreet_6 rfl rfl (fun c9 => ?_) (fun c9 => ?_)
  · skip
    refine j_iconst (q := 24) (v := nI 0) F (by decide) dX8_readStreet_23 rfl ?_
    exact j_zret (w2 := [(e0, .inr (8, [.ref e1, .int (nI ln), .int (nI p), .int (nI bg), .int (nI tk), .int (nI td), .int (nI rl), .int (nI rs), .int (nI rd), .ref e2, .ref e3, .ref e4, .int (nI n), .int (nI m), .ref e5, .ref e6, .ref e7, .int (nI be), .int (nI sd), .int (nI tu), .int (nI fo), .ref e8, .ref e9, .int (nI kn), .int (nI tl), .int (nI rn), .ref ea, .long tr, .ref eb])), (e1, .inl (G.2.2.1, 200, .inl (nF bt))), (e3, .inl (G.2.2.1, 15, .inl (nF ra))), (e4, .inl (G.2.2.1, 15, .inl (nF rb)))]) F R0 rfl rfl [0, 1, 2, 3] rfl rfl (⟨_, _, _, _, _, _, _, rfl, by omega, Or.inl ⟨rfl, Or.inl ⟨c9, rfl⟩⟩⟩) dX8_readStreet_24
  · skip
    refine j_aload_n (q := 10) (i0 := 0) F rfl dX8_readStreet_9 rfl ?_
    refine j_iconst (q := 11) (v := nI 0) F (by decide) dX8_readStreet_10 rfl ?_
    refine j_aload_n (q := 12) (i0 := 0) F rfl dX8_readStreet_11 rfl ?_
    refine j_get (q := 15) (ci := 8) (q0 := 0) (kf := 6) (v := .int (nI rl)) F inX8 rfl rfl rfl tw_664 rfl rfl dX8_readStreet_12 rfl ?_
    refine j_iconst (q := 16) (v := nI 1) F (by decide) dX8_readStreet_15 rfl ?_
    refine j_isub (q := 17) (v := nI rl - nI 1) F (rfl) dX8_readStreet_16 rfl ?_
    refine j_callV (q := 20) (ci := 8) (q0 := 0) (As := [.int (nI 0), .int (nI rl - nI 1)]) (wr := [(e3, .inl (G.2.2.1, 15, .inl (nF ra))), (e4, .inl (G.2.2.1, 15, .inl (nF rb)))]) (st := []) F (c_X8_number G (mo := nI rl - nI 1) (lim := rl) hl hbt (p := p) (hp) (htd) (by omega) (by rw [pk_sub_toInt (by omega) (by decide)]; rfl)) kwX8_number tw_790 tw_25 tw_788 ⟨Nat.le_of_ble_eq_true rfl, Nat.le_of_ble_eq_true rfl, rfl, rfl, Nat.le_of_ble_eq_true rfl, Nat.le_of_ble_eq_true rfl⟩ [0, 1] [2, 3] rfl rfl rfl rfl rfl rfl rfl rfl rfl (Nat.le_of_ble_eq_true rfl) dX8_readStreet_17 rfl ?_
    rintro r_ w_ ⟨tkA, tdA, aaA, haaA, htdA, rfl, (⟨rfl, hkA, hvA, rfl, rfl⟩ | ⟨rfl, hnoA⟩)⟩
    · skip
      refine j_w (w' := [(e0, .inr (8, [.ref e1, .int (nI ln), .int (nI (tE bt ln p)), .int (nI (sk bt ln p)), .int (nI tkA), .int (nI (tV bt ln p)), .int (nI rl), .int (nI rs), .int (nI rd), .ref e2, .ref e3, .ref e4, .int (nI n), .int (nI m), .ref e5, .ref e6, .ref e7, .int (nI be), .int (nI sd), .int (nI tu), .int (nI fo), .ref e8, .ref e9, .int (nI kn), .int (nI tl), .int (nI rn), .ref ea, .long tr, .ref eb])), (e1, .inl (G.2.2.1, 200, .inl (nF bt))), (e3, .inl (G.2.2.1, 15, .inl (nF ra))), (e4, .inl (G.2.2.1, 15, .inl (nF rb)))]) [2, 3, 0, 1] rfl rfl ?_
      show Jw G X _ 0 0 20 _ [.int (nI 1)] _
      have hinA := tE_in (bt := bt) (ln := ln) (p := p) (hp) (by omega)
      refine j_if_ne (q := 23) (t := 25) F (cf (by decide)) dX8_readStreet_20 rfl rfl (fun _ => ?_) (fun z => False.elim z)
      refine j_aload_n (q := 26) (i0 := 0) F rfl dX8_readStreet_25 rfl ?_
      refine j_get (q := 29) (ci := 8) (q0 := 0) (kf := 5) (v := .int (nI (tV bt ln p))) F inX8 rfl rfl rfl tw_663 rfl rfl dX8_readStreet_26 rfl ?_
      refine j_istore_n (q := 30) (lv' := [(1, .int (nI (tV bt ln p))), (0, .ref e0)]) F dX8_readStreet_29 (by decide) rfl rfl ?_
      refine j_aload_n (q := 31) (i0 := 1) F rfl dX8_readStreet_30 rfl ?_
      refine j_iconst (q := 32) (v := nI 0) F (by decide) dX8_readStreet_31 rfl ?_
      refine j_aload_n (q := 33) (i0 := 1) F rfl dX8_readStreet_32 rfl ?_
      refine j_get (q := 36) (ci := 8) (q0 := 0) (kf := 6) (v := .int (nI rl)) F inX8 rfl rfl rfl tw_664 rfl rfl dX8_readStreet_33 rfl ?_
      refine j_iconst (q := 37) (v := nI 1) F (by decide) dX8_readStreet_36 rfl ?_
      refine j_isub (q := 38) (v := nI rl - nI 1) F (rfl) dX8_readStreet_37 rfl ?_
      refine j_callV (q := 41) (ci := 8) (q0 := 0) (As := [.int (nI 0), .int (nI rl - nI 1)]) (wr := [(e3, .inl (G.2.2.1, 15, .inl (nF ra))), (e4, .inl (G.2.2.1, 15, .inl (nF rb)))]) (st := []) F (c_X8_number G (mo := nI rl - nI 1) (lim := rl) hl hbt (p := tE bt ln p) (by omega) (by omega) (by omega) (by rw [pk_sub_toInt (by omega) (by decide)]; rfl)) kwX8_number tw_790 tw_25 tw_788 ⟨Nat.le_of_ble_eq_true rfl, Nat.le_of_ble_eq_true rfl, rfl, rfl, Nat.le_of_ble_eq_true rfl, Nat.le_of_ble_eq_true rfl⟩ [0, 1] [2, 3] rfl rfl rfl rfl rfl rfl rfl rfl rfl (Nat.le_of_ble_eq_true rfl) dX8_readStreet_38 rfl ?_
      rintro r_ w_ ⟨tkB, tdB, aaB, haaB, htdB, rfl, (⟨rfl, hkB, hvB, rfl, rfl⟩ | ⟨rfl, hnoB⟩)⟩
      · skip
        refine j_w (w' := [(e0, .inr (8, [.ref e1, .int (nI ln), .int (nI (tE bt ln (tE bt ln p))), .int (nI (sk bt ln (tE bt ln p))), .int (nI tkB), .int (nI (tV bt ln (tE bt ln p))), .int (nI rl), .int (nI rs), .int (nI rd), .ref e2, .ref e3, .ref e4, .int (nI n), .int (nI m), .ref e5, .ref e6, .ref e7, .int (nI be), .int (nI sd), .int (nI tu), .int (nI fo), .ref e8, .ref e9, .int (nI kn), .int (nI tl), .int (nI rn), .ref ea, .long tr, .ref eb])), (e1, .inl (G.2.2.1, 200, .inl (nF bt))), (e3, .inl (G.2.2.1, 15, .inl (nF ra))), (e4, .inl (G.2.2.1, 15, .inl (nF rb)))]) [2, 3, 0, 1] rfl rfl ?_
        show Jw G X _ 0 0 41 _ [.int (nI 1)] _
        have hinB := tE_in (bt := bt) (ln := ln) (p := tE bt ln p) (by omega) (by omega)
        refine j_if_eq (q := 44) (t := 52) F (cf (by decide)) dX8_readStreet_41 rfl rfl (fun z => False.elim z) (fun _ => ?_)
        refine j_aload_n (q := 45) (i0 := 1) F rfl dX8_readStreet_44 rfl ?_
        refine j_get (q := 48) (ci := 8) (q0 := 0) (kf := 5) (v := .int (nI (tV bt ln (tE bt ln p)))) F inX8 rfl rfl rfl tw_663 rfl rfl dX8_readStreet_45 rfl ?_
        refine j_iload_n (q := 49) (i0 := 0) F rfl dX8_readStreet_48 rfl ?_
        refine j_icmp_ne (q := 52) (t := 54) F (Pp := tV bt ln (tE bt ln p) = tV bt ln p) (nI_eq (by omega) (by omega)) dX8_readStreet_49 rfl rfl (fun ce => ?_) (fun ce => ?_)
        · skip
          refine j_aload_n (q := 55) (i0 := 1) F rfl dX8_readStreet_54 rfl ?_
          refine j_get (q := 58) (ci := 8) (q0 := 0) (kf := 5) (v := .int (nI (tV bt ln (tE bt ln p)))) F inX8 rfl rfl rfl tw_663 rfl rfl dX8_readStreet_55 rfl ?_
          refine j_iload_n (q := 59) (i0 := 0) F rfl dX8_readStreet_58 rfl ?_
          refine j_icmp_ge (q := 62) (t := 69) F (Pp := tV bt ln p ≤ tV bt ln (tE bt ln p)) (nI_leI (by omega) (by omega)) dX8_readStreet_59 rfl rfl (fun cm => ?_) (fun cm => ?_)
          · skip
            refine j_iload_n (q := 70) (i0 := 0) F rfl dX8_readStreet_69 rfl ?_
            refine j_istore_n (q := 71) (lv' := [(2, .int (nI (tV bt ln p))), (1, .int (nI (tV bt ln p))), (0, .ref e0)]) F dX8_readStreet_70 (by decide) rfl rfl ?_
            refine j_aload_n (q := 72) (i0 := 2) F rfl dX8_readStreet_71 rfl ?_
            refine j_get (q := 75) (ci := 8) (q0 := 0) (kf := 5) (v := .int (nI (tV bt ln (tE bt ln p)))) F inX8 rfl rfl rfl tw_663 rfl rfl dX8_readStreet_72 rfl ?_
            refine j_iload_n (q := 76) (i0 := 1) F rfl dX8_readStreet_75 rfl ?_
            refine j_icmp_ge (q := 79) (t := 83) F (Pp := tV bt ln p ≤ tV bt ln (tE bt ln p)) (nI_leI (by omega) (by omega)) dX8_readStreet_76 rfl rfl (fun cm2 => ?_) (fun cm2 => ?_)
            · skip
              refine j_aload_n (q := 84) (i0 := 2) F rfl dX8_readStreet_83 rfl ?_
              refine j_get (q := 87) (ci := 8) (q0 := 0) (kf := 5) (v := .int (nI (tV bt ln (tE bt ln p)))) F inX8 rfl rfl rfl tw_663 rfl rfl dX8_readStreet_84 rfl ?_
              refine j_istore_n (q := 88) (lv' := [(3, .int (nI (tV bt ln (tE bt ln p)))), (2, .int (nI (tV bt ln p))), (1, .int (nI (tV bt ln p))), (0, .ref e0)]) F dX8_readStreet_87 (by decide) rfl rfl ?_
              refine j_lve (lv' := [(3, .int (nI (max (tV bt ln p) (tV bt ln (tE bt ln p))))), (2, .int (nI (min (tV bt ln p) (tV bt ln (tE bt ln p))))), (1, .int (nI (tV bt ln p))), (0, .ref e0)]) (by rw [Nat.min_eq_left (by omega), Nat.max_eq_right (by omega)]) ?_
              refine j_iconst (q := 89) (v := nI 0) F (by decide) dX8_readStreet_88 rfl ?_
              refine j_istore (q := 91) (lv' := [(4, .int (nI 0)), (3, .int (nI (max (tV bt ln p) (tV bt ln (tE bt ln p))))), (2, .int (nI (min (tV bt ln p) (tV bt ln (tE bt ln p))))), (1, .int (nI (tV bt ln p))), (0, .ref e0)]) F dX8_readStreet_89 (by decide) rfl rfl ?_
              have lp7 : ∀ (fu : Nat) (k : Nat) (hk : k ≤ rs) (hnj : ∀ i, i < k → ¬ (ra i = min (tV bt ln p) (tV bt ln (tE bt ln p)) ∧ rb i = max (tV bt ln p) (tV bt ln (tE bt ln p)))), (rs - k) < fu → Jw G X 5 0 0 91 [(0, .ref e0), (1, .int (nI (tV bt ln p))), (2, .int (nI (min (tV bt ln p) (tV bt ln (tE bt ln p))))), (3, .int (nI (max (tV bt ln p) (tV bt ln (tE bt ln p))))), (4, .int (nI k))] [] [(e0, .inr (8, [.ref e1, .int (nI ln), .int (nI (tE bt ln (tE bt ln p))), .int (nI (sk bt ln (tE bt ln p))), .int (nI tkB), .int (nI (tV bt ln (tE bt ln p))), .int (nI rl), .int (nI rs), .int (nI rd), .ref e2, .ref e3, .ref e4, .int (nI n), .int (nI m), .ref e5, .ref e6, .ref e7, .int (nI be), .int (nI sd), .int (nI tu), .int (nI fo), .ref e8, .ref e9, .int (nI kn), .int (nI tl), .int (nI rn), .ref ea, .long tr, .ref eb])), (e1, .inl (G.2.2.1, 200, .inl (nF bt))), (e3, .inl (G.2.2.1, 15, .inl (nF ra))), (e4, .inl (G.2.2.1, 15, .inl (nF rb)))] := by
                intro fu
                induction fu with
                | zero => intro k hk hnj hfu; exact absurd hfu (Nat.not_lt_zero _)
                | succ fu ih7 =>
                  intro k hk hnj hfu
                  skip
                  refine j_iload (q := 93) (i0 := 4) F rfl dX8_readStreet_91 rfl ?_
                  refine j_aload_n (q := 94) (i0 := 0) F rfl dX8_readStreet_93 rfl ?_
                  refine j_get (q := 97) (ci := 8) (q0 := 0) (kf := 7) (v := .int (nI rs)) F inX8 rfl rfl rfl tw_665 rfl rfl dX8_readStreet_94 rfl ?_
                  refine j_icmp_ge (q := 100) (t := 130) F (Pp := rs ≤ k) (nI_leI (by omega) (by omega)) dX8_readStreet_97 rfl rfl (fun c8 => ?_) (fun c8 => ?_)
                  · skip
                    refine j_aload_n (q := 131) (i0 := 0) F rfl dX8_readStreet_130 rfl ?_
                    refine j_get (q := 134) (ci := 8) (q0 := 0) (kf := 10) (v := .ref e3) F inX8 rfl rfl rfl tw_668 rfl rfl dX8_readStreet_131 rfl ?_
                    refine j_aload_n (q := 135) (i0 := 0) F rfl dX8_readStreet_134 rfl ?_
                    refine j_get (q := 138) (ci := 8) (q0 := 0) (kf := 7) (v := .int (nI rs)) F inX8 rfl rfl rfl tw_665 rfl rfl dX8_readStreet_135 rfl ?_
                    refine j_iload_n (q := 139) (i0 := 2) F rfl dX8_readStreet_138 rfl ?_
                    refine j_iast (q := 140) (q0 := 2) (i := rs) (f2 := nF (va_up ra rs (min (tV bt ln p) (tV bt ln (tE bt ln p))))) (w' := [(e0, .inr (8, [.ref e1, .int (nI ln), .int (nI (tE bt ln (tE bt ln p))), .int (nI (sk bt ln (tE bt ln p))), .int (nI tkB), .int (nI (tV bt ln (tE bt ln p))), .int (nI rl), .int (nI rs), .int (nI rd), .ref e2, .ref e3, .ref e4, .int (nI n), .int (nI m), .ref e5, .ref e6, .ref e7, .int (nI be), .int (nI sd), .int (nI tu), .int (nI fo), .ref e8, .ref e9, .int (nI kn), .int (nI tl), .int (nI rn), .ref ea, .long tr, .ref eb])), (e1, .inl (G.2.2.1, 200, .inl (nF bt))), (e3, .inl (G.2.2.1, 15, .inl (nF (va_up ra rs (min (tV bt ln p) (tV bt ln (tE bt ln p))))))), (e4, .inl (G.2.2.1, 15, .inl (nF rb)))]) F rfl rfl (by omega) rfl (nF_up _ _ _) rfl dX8_readStreet_139 rfl ?_
                    refine j_aload_n (q := 141) (i0 := 0) F rfl dX8_readStreet_140 rfl ?_
                    refine j_get (q := 144) (ci := 8) (q0 := 0) (kf := 11) (v := .ref e4) F inX8 rfl rfl rfl tw_669 rfl rfl dX8_readStreet_141 rfl ?_
                    refine j_aload_n (q := 145) (i0 := 0) F rfl dX8_readStreet_144 rfl ?_
                    refine j_get (q := 148) (ci := 8) (q0 := 0) (kf := 7) (v := .int (nI rs)) F inX8 rfl rfl rfl tw_665 rfl rfl dX8_readStreet_145 rfl ?_
                    refine j_iload_n (q := 149) (i0 := 3) F rfl dX8_readStreet_148 rfl ?_
                    refine j_iast (q := 150) (q0 := 3) (i := rs) (f2 := nF (va_up rb rs (max (tV bt ln p) (tV bt ln (tE bt ln p))))) (w' := [(e0, .inr (8, [.ref e1, .int (nI ln), .int (nI (tE bt ln (tE bt ln p))), .int (nI (sk bt ln (tE bt ln p))), .int (nI tkB), .int (nI (tV bt ln (tE bt ln p))), .int (nI rl), .int (nI rs), .int (nI rd), .ref e2, .ref e3, .ref e4, .int (nI n), .int (nI m), .ref e5, .ref e6, .ref e7, .int (nI be), .int (nI sd), .int (nI tu), .int (nI fo), .ref e8, .ref e9, .int (nI kn), .int (nI tl), .int (nI rn), .ref ea, .long tr, .ref eb])), (e1, .inl (G.2.2.1, 200, .inl (nF bt))), (e3, .inl (G.2.2.1, 15, .inl (nF (va_up ra rs (min (tV bt ln p) (tV bt ln (tE bt ln p))))))), (e4, .inl (G.2.2.1, 15, .inl (nF (va_up rb rs (max (tV bt ln p) (tV bt ln (tE bt ln p)))))))]) F rfl rfl (by omega) rfl (nF_up _ _ _) rfl dX8_readStreet_149 rfl ?_
                    refine j_aload_n (q := 151) (i0 := 0) F rfl dX8_readStreet_150 rfl ?_
                    refine j_dup (q := 152) F rfl dX8_readStreet_151 rfl ?_
                    refine j_get (q := 155) (ci := 8) (q0 := 0) (kf := 7) (v := .int (nI rs)) F inX8 rfl rfl rfl tw_665 rfl rfl dX8_readStreet_152 rfl ?_
                    refine j_iconst (q := 156) (v := nI 1) F (by decide) dX8_readStreet_155 rfl ?_
                    refine j_iadd (q := 157) (v := nI (rs + 1)) F (nI_add _ _) dX8_readStreet_156 rfl ?_
                    refine j_put (q := 160) (ci := 8) (q0 := 0) (kf := 7) (v := .int (nI (rs + 1))) (w' := [(e0, .inr (8, [.ref e1, .int (nI ln), .int (nI (tE bt ln (tE bt ln p))), .int (nI (sk bt ln (tE bt ln p))), .int (nI tkB), .int (nI (tV bt ln (tE bt ln p))), .int (nI rl), .int (nI (rs + 1)), .int (nI rd), .ref e2, .ref e3, .ref e4, .int (nI n), .int (nI m), .ref e5, .ref e6, .ref e7, .int (nI be), .int (nI sd), .int (nI tu), .int (nI fo), .ref e8, .ref e9, .int (nI kn), .int (nI tl), .int (nI rn), .ref ea, .long tr, .ref eb])), (e1, .inl (G.2.2.1, 200, .inl (nF bt))), (e3, .inl (G.2.2.1, 15, .inl (nF (va_up ra rs (min (tV bt ln p) (tV bt ln (tE bt ln p))))))), (e4, .inl (G.2.2.1, 15, .inl (nF (va_up rb rs (max (tV bt ln p) (tV bt ln (tE bt ln p)))))))]) F inX8 tyX8_ok nmX8 rfl rfl rfl tw_665 rfl rfl rfl rfl rfl rfl dX8_readStreet_157 rfl ?_
                    refine j_aload_n (q := 161) (i0 := 0) F rfl dX8_readStreet_160 rfl ?_
                    refine j_callV (q := 164) (ci := 8) (q0 := 0) (As := []) (wr := [(e3, .inl (G.2.2.1, 15, .inl (nF (va_up ra rs (min (tV bt ln p) (tV bt ln (tE bt ln p))))))), (e4, .inl (G.2.2.1, 15, .inl (nF (va_up rb rs (max (tV bt ln p) (tV bt ln (tE bt ln p)))))))]) (st := []) F (c_X8_reads G hl hbt (p := tE bt ln (tE bt ln p)) (by omega) (by omega)) kwX8_reads tw_764 tw_21 tw_762 ⟨Nat.le_of_ble_eq_true rfl, Nat.le_of_ble_eq_true rfl, rfl, rfl, Nat.le_of_ble_eq_true rfl, Nat.le_of_ble_eq_true rfl⟩ [0, 1] [2, 3] rfl rfl rfl rfl rfl rfl rfl rfl rfl (Nat.le_of_ble_eq_true rfl) dX8_readStreet_161 rfl ?_
                    rintro r_ w_ ⟨tkC, tdC, aaC, hmtC, haaC, htdC, rfl, rfl⟩
                    refine j_w (w' := [(e0, .inr (8, [.ref e1, .int (nI ln), .int (nI aaC), .int (nI (sk bt ln (tE bt ln (tE bt ln p)))), .int (nI tkC), .int (nI tdC), .int (nI rl), .int (nI (rs + 1)), .int (nI rd), .ref e2, .ref e3, .ref e4, .int (nI n), .int (nI m), .ref e5, .ref e6, .ref e7, .int (nI be), .int (nI sd), .int (nI tu), .int (nI fo), .ref e8, .ref e9, .int (nI kn), .int (nI tl), .int (nI rn), .ref ea, .long tr, .ref eb])), (e1, .inl (G.2.2.1, 200, .inl (nF bt))), (e3, .inl (G.2.2.1, 15, .inl (nF (va_up ra rs (min (tV bt ln p) (tV bt ln (tE bt ln p))))))), (e4, .inl (G.2.2.1, 15, .inl (nF (va_up rb rs (max (tV bt ln p) (tV bt ln (tE bt ln p)))))))]) [2, 3, 0, 1] rfl rfl ?_
                    show Jw G X _ 0 0 164 _ [] _
                    have htkC := hmtC.tk_le
                    refine j_aload_n (q := 165) (i0 := 0) F rfl dX8_readStreet_164 rfl ?_
                    refine j_get (q := 168) (ci := 8) (q0 := 0) (kf := 4) (v := .int (nI tkC)) F inX8 rfl rfl rfl tw_662 rfl rfl dX8_readStreet_165 rfl ?_
                    refine j_iconst (q := 169) (v := nI 3) F (by decide) dX8_readStreet_168 rfl ?_
                    refine j_icmp_ne (q := 172) (t := 176) F (Pp := tkC = 3) (nI_eq (by omega) (by omega)) dX8_readStreet_169 rfl rfl (fun c3 => ?_) (fun c3 => ?_)
                    · skip
                      refine j_iconst (q := 177) (v := nI 0) F (by decide) dX8_readStreet_176 rfl ?_
                      exact j_zret (w2 := [(e0, .inr (8, [.ref e1, .int (nI ln), .int (nI aaC), .int (nI (sk bt ln (tE bt ln (tE bt ln p)))), .int (nI tkC), .int (nI tdC), .int (nI rl), .int (nI (rs + 1)), .int (nI rd), .ref e2, .ref e3, .ref e4, .int (nI n), .int (nI m), .ref e5, .ref e6, .ref e7, .int (nI be), .int (nI sd), .int (nI tu), .int (nI fo), .ref e8, .ref e9, .int (nI kn), .int (nI tl), .int (nI rn), .ref ea, .long tr, .ref eb])), (e1, .inl (G.2.2.1, 200, .inl (nF bt))), (e3, .inl (G.2.2.1, 15, .inl (nF (va_up ra rs (min (tV bt ln p) (tV bt ln (tE bt ln p))))))), (e4, .inl (G.2.2.1, 15, .inl (nF (va_up rb rs (max (tV bt ln p) (tV bt ln (tE bt ln p)))))))]) F R0 rfl rfl [0, 1, 2, 3] rfl rfl (⟨_, _, _, _, _, _, _, rfl, by omega, Or.inl ⟨rfl, Or.inr ⟨c9, strF_f3 ⟨hkA, hvA⟩ ⟨hkB, hvB⟩ ce (fun z => by obtain ⟨i, hi, e1, e2⟩ := z; exact hnj i (by omega) ⟨e1, e2⟩) (mtSn hmtC c3)⟩⟩⟩) dX8_readStreet_177
                    · skip
                      refine j_iconst (q := 173) (v := nI 1) F (by decide) dX8_readStreet_172 rfl ?_
                      refine j_goto (t := 177) F dX8_readStreet_173 rfl ?_
                      exact j_zret (w2 := [(e0, .inr (8, [.ref e1, .int (nI ln), .int (nI aaC), .int (nI (sk bt ln (tE bt ln (tE bt ln p)))), .int (nI tkC), .int (nI tdC), .int (nI rl), .int (nI (rs + 1)), .int (nI rd), .ref e2, .ref e3, .ref e4, .int (nI n), .int (nI m), .ref e5, .ref e6, .ref e7, .int (nI be), .int (nI sd), .int (nI tu), .int (nI fo), .ref e8, .ref e9, .int (nI kn), .int (nI tl), .int (nI rn), .ref ea, .long tr, .ref eb])), (e1, .inl (G.2.2.1, 200, .inl (nF bt))), (e3, .inl (G.2.2.1, 15, .inl (nF (va_up ra rs (min (tV bt ln p) (tV bt ln (tE bt ln p))))))), (e4, .inl (G.2.2.1, 15, .inl (nF (va_up rb rs (max (tV bt ln p) (tV bt ln (tE bt ln p)))))))]) F R0 rfl rfl [0, 1, 2, 3] rfl rfl (⟨_, _, _, _, _, _, _, rfl, by omega, Or.inr ⟨rfl, c9, _, _, by rw [(mtS hmtC c3).2]; exact strF_ok ⟨hkA, hvA⟩ ⟨hkB, hvB⟩ ce (fun z => by obtain ⟨i, hi, e1, e2⟩ := z; exact hnj i (by omega) ⟨e1, e2⟩) (mtS hmtC c3).1, rfl, rfl, rfl⟩⟩) dX8_readStreet_177
                  · skip
                    have hlk := hlo k (by omega)
                    refine j_aload_n (q := 101) (i0 := 0) F rfl dX8_readStreet_100 rfl ?_
                    refine j_get (q := 104) (ci := 8) (q0 := 0) (kf := 10) (v := .ref e3) F inX8 rfl rfl rfl tw_668 rfl rfl dX8_readStreet_101 rfl ?_
                    refine j_iload (q := 106) (i0 := 4) F rfl dX8_readStreet_104 rfl ?_
                    refine j_iald (q := 107) (q0 := 2) (i := k) (v := nI (ra k)) F rfl rfl (by omega) rfl (rfl) dX8_readStreet_106 rfl ?_
                    refine j_iload_n (q := 108) (i0 := 2) F rfl dX8_readStreet_107 rfl ?_
                    refine j_icmp_ne (q := 111) (t := 124) F (Pp := ra k = min (tV bt ln p) (tV bt ln (tE bt ln p))) (nI_eq (by omega) (by omega)) dX8_readStreet_108 rfl rfl (fun ca => ?_) (fun ca => ?_)
                    · skip
                      refine j_iinc (q := 127) (i0 := 4) (v := nI (k + 1)) (lv' := [(4, .int (nI (k + 1))), (0, .ref e0), (1, .int (nI (tV bt ln p))), (2, .int (nI (min (tV bt ln p) (tV bt ln (tE bt ln p))))), (3, .int (nI (max (tV bt ln p) (tV bt ln (tE bt ln p)))))]) F dX8_readStreet_124 rfl (nI_add _ _) (by decide) rfl rfl ?_
                      refine j_goto (t := 91) F dX8_readStreet_127 rfl ?_
                      refine j_lv [1, 2, 3, 4, 0] (lv' := [(0, .ref e0), (1, .int (nI (tV bt ln p))), (2, .int (nI (min (tV bt ln p) (tV bt ln (tE bt ln p))))), (3, .int (nI (max (tV bt ln p) (tV bt ln (tE bt ln p))))), (4, .int (nI (k + 1)))]) rfl ?_
                      exact ih7 (k + 1) (by omega) (fun i h => by rcases (show i < k ∨ i = k by omega) with z | z; exact hnj i z; subst z; exact fun y => ca y.1) (by omega)
                    · skip
                      refine j_aload_n (q := 112) (i0 := 0) F rfl dX8_readStreet_111 rfl ?_
                      refine j_get (q := 115) (ci := 8) (q0 := 0) (kf := 11) (v := .ref e4) F inX8 rfl rfl rfl tw_669 rfl rfl dX8_readStreet_112 rfl ?_
                      refine j_iload (q := 117) (i0 := 4) F rfl dX8_readStreet_115 rfl ?_
                      refine j_iald (q := 118) (q0 := 3) (i := k) (v := nI (rb k)) F rfl rfl (by omega) rfl (rfl) dX8_readStreet_117 rfl ?_
                      refine j_iload_n (q := 119) (i0 := 3) F rfl dX8_readStreet_118 rfl ?_
                      refine j_icmp_ne (q := 122) (t := 124) F (Pp := rb k = max (tV bt ln p) (tV bt ln (tE bt ln p))) (nI_eq (by omega) (by omega)) dX8_readStreet_119 rfl rfl (fun cb => ?_) (fun cb => ?_)
                      · skip
                        refine j_iinc (q := 127) (i0 := 4) (v := nI (k + 1)) (lv' := [(4, .int (nI (k + 1))), (0, .ref e0), (1, .int (nI (tV bt ln p))), (2, .int (nI (min (tV bt ln p) (tV bt ln (tE bt ln p))))), (3, .int (nI (max (tV bt ln p) (tV bt ln (tE bt ln p)))))]) F dX8_readStreet_124 rfl (nI_add _ _) (by decide) rfl rfl ?_
                        refine j_goto (t := 91) F dX8_readStreet_127 rfl ?_
                        refine j_lv [1, 2, 3, 4, 0] (lv' := [(0, .ref e0), (1, .int (nI (tV bt ln p))), (2, .int (nI (min (tV bt ln p) (tV bt ln (tE bt ln p))))), (3, .int (nI (max (tV bt ln p) (tV bt ln (tE bt ln p))))), (4, .int (nI (k + 1)))]) rfl ?_
                        exact ih7 (k + 1) (by omega) (fun i h => by rcases (show i < k ∨ i = k by omega) with z | z; exact hnj i z; subst z; exact fun y => cb y.2) (by omega)
                      · skip
                        refine j_iconst (q := 123) (v := nI 0) F (by decide) dX8_readStreet_122 rfl ?_
                        exact j_zret (w2 := [(e0, .inr (8, [.ref e1, .int (nI ln), .int (nI (tE bt ln (tE bt ln p))), .int (nI (sk bt ln (tE bt ln p))), .int (nI tkB), .int (nI (tV bt ln (tE bt ln p))), .int (nI rl), .int (nI rs), .int (nI rd), .ref e2, .ref e3, .ref e4, .int (nI n), .int (nI m), .ref e5, .ref e6, .ref e7, .int (nI be), .int (nI sd), .int (nI tu), .int (nI fo), .ref e8, .ref e9, .int (nI kn), .int (nI tl), .int (nI rn), .ref ea, .long tr, .ref eb])), (e1, .inl (G.2.2.1, 200, .inl (nF bt))), (e3, .inl (G.2.2.1, 15, .inl (nF ra))), (e4, .inl (G.2.2.1, 15, .inl (nF rb)))]) F R0 rfl rfl [0, 1, 2, 3] rfl rfl (⟨_, _, _, _, _, _, _, rfl, by omega, Or.inl ⟨rfl, Or.inr ⟨c9, strF_f2 ⟨hkA, hvA⟩ (Or.inr (Or.inr ⟨k, by omega, ca, cb⟩))⟩⟩⟩) dX8_readStreet_123
              refine j_lv [4, 3, 2, 1, 0] (lv' := [(0, .ref e0), (1, .int (nI (tV bt ln p))), (2, .int (nI (min (tV bt ln p) (tV bt ln (tE bt ln p))))), (3, .int (nI (max (tV bt ln p) (tV bt ln (tE bt ln p))))), (4, .int (nI 0))]) rfl ?_
              exact lp7 _ 0 (Nat.zero_le _) (fun i h => absurd h (Nat.not_lt_zero i)) (Nat.lt_succ_self _)
            · exact absurd cm cm2
          · skip
            refine j_aload_n (q := 63) (i0 := 1) F rfl dX8_readStreet_62 rfl ?_
            refine j_get (q := 66) (ci := 8) (q0 := 0) (kf := 5) (v := .int (nI (tV bt ln (tE bt ln p)))) F inX8 rfl rfl rfl tw_663 rfl rfl dX8_readStreet_63 rfl ?_
            refine j_goto (t := 70) F dX8_readStreet_66 rfl ?_
            refine j_istore_n (q := 71) (lv' := [(2, .int (nI (tV bt ln (tE bt ln p)))), (1, .int (nI (tV bt ln p))), (0, .ref e0)]) F dX8_readStreet_70 (by decide) rfl rfl ?_
            refine j_aload_n (q := 72) (i0 := 2) F rfl dX8_readStreet_71 rfl ?_
            refine j_get (q := 75) (ci := 8) (q0 := 0) (kf := 5) (v := .int (nI (tV bt ln (tE bt ln p)))) F inX8 rfl rfl rfl tw_663 rfl rfl dX8_readStreet_72 rfl ?_
            refine j_iload_n (q := 76) (i0 := 1) F rfl dX8_readStreet_75 rfl ?_
            refine j_icmp_ge (q := 79) (t := 83) F (Pp := tV bt ln p ≤ tV bt ln (tE bt ln p)) (nI_leI (by omega) (by omega)) dX8_readStreet_76 rfl rfl (fun cm2 => ?_) (fun cm2 => ?_)
            · exact absurd cm2 cm
            · skip
              refine j_iload_n (q := 80) (i0 := 1) F rfl dX8_readStreet_79 rfl ?_
              refine j_goto (t := 87) F dX8_readStreet_80 rfl ?_
              refine j_istore_n (q := 88) (lv' := [(3, .int (nI (tV bt ln p))), (2, .int (nI (tV bt ln (tE bt ln p)))), (1, .int (nI (tV bt ln p))), (0, .ref e0)]) F dX8_readStreet_87 (by decide) rfl rfl ?_
              refine j_lve (lv' := [(3, .int (nI (max (tV bt ln p) (tV bt ln (tE bt ln p))))), (2, .int (nI (min (tV bt ln p) (tV bt ln (tE bt ln p))))), (1, .int (nI (tV bt ln p))), (0, .ref e0)]) (by rw [Nat.min_eq_right (by omega), Nat.max_eq_left (by omega)]) ?_
              refine j_iconst (q := 89) (v := nI 0) F (by decide) dX8_readStreet_88 rfl ?_
              refine j_istore (q := 91) (lv' := [(4, .int (nI 0)), (3, .int (nI (max (tV bt ln p) (tV bt ln (tE bt ln p))))), (2, .int (nI (min (tV bt ln p) (tV bt ln (tE bt ln p))))), (1, .int (nI (tV bt ln p))), (0, .ref e0)]) F dX8_readStreet_89 (by decide) rfl rfl ?_
              have lp13 : ∀ (fu : Nat) (k : Nat) (hk : k ≤ rs) (hnj : ∀ i, i < k → ¬ (ra i = min (tV bt ln p) (tV bt ln (tE bt ln p)) ∧ rb i = max (tV bt ln p) (tV bt ln (tE bt ln p)))), (rs - k) < fu → Jw G X 5 0 0 91 [(0, .ref e0), (1, .int (nI (tV bt ln p))), (2, .int (nI (min (tV bt ln p) (tV bt ln (tE bt ln p))))), (3, .int (nI (max (tV bt ln p) (tV bt ln (tE bt ln p))))), (4, .int (nI k))] [] [(e0, .inr (8, [.ref e1, .int (nI ln), .int (nI (tE bt ln (tE bt ln p))), .int (nI (sk bt ln (tE bt ln p))), .int (nI tkB), .int (nI (tV bt ln (tE bt ln p))), .int (nI rl), .int (nI rs), .int (nI rd), .ref e2, .ref e3, .ref e4, .int (nI n), .int (nI m), .ref e5, .ref e6, .ref e7, .int (nI be), .int (nI sd), .int (nI tu), .int (nI fo), .ref e8, .ref e9, .int (nI kn), .int (nI tl), .int (nI rn), .ref ea, .long tr, .ref eb])), (e1, .inl (G.2.2.1, 200, .inl (nF bt))), (e3, .inl (G.2.2.1, 15, .inl (nF ra))), (e4, .inl (G.2.2.1, 15, .inl (nF rb)))] := by
                intro fu
                induction fu with
                | zero => intro k hk hnj hfu; exact absurd hfu (Nat.not_lt_zero _)
                | succ fu ih13 =>
                  intro k hk hnj hfu
                  skip
                  refine j_iload (q := 93) (i0 := 4) F rfl dX8_readStreet_91 rfl ?_
                  refine j_aload_n (q := 94) (i0 := 0) F rfl dX8_readStreet_93 rfl ?_
                  refine j_get (q := 97) (ci := 8) (q0 := 0) (kf := 7) (v := .int (nI rs)) F inX8 rfl rfl rfl tw_665 rfl rfl dX8_readStreet_94 rfl ?_
                  refine j_icmp_ge (q := 100) (t := 130) F (Pp := rs ≤ k) (nI_leI (by omega) (by omega)) dX8_readStreet_97 rfl rfl (fun c14 => ?_) (fun c14 => ?_)
                  · skip
                    refine j_aload_n (q := 131) (i0 := 0) F rfl dX8_readStreet_130 rfl ?_
                    refine j_get (q := 134) (ci := 8) (q0 := 0) (kf := 10) (v := .ref e3) F inX8 rfl rfl rfl tw_668 rfl rfl dX8_readStreet_131 rfl ?_
                    refine j_aload_n (q := 135) (i0 := 0) F rfl dX8_readStreet_134 rfl ?_
                    refine j_get (q := 138) (ci := 8) (q0 := 0) (kf := 7) (v := .int (nI rs)) F inX8 rfl rfl rfl tw_665 rfl rfl dX8_readStreet_135 rfl ?_
                    refine j_iload_n (q := 139) (i0 := 2) F rfl dX8_readStreet_138 rfl ?_
                    refine j_iast (q := 140) (q0 := 2) (i := rs) (f2 := nF (va_up ra rs (min (tV bt ln p) (tV bt ln (tE bt ln p))))) (w' := [(e0, .inr (8, [.ref e1, .int (nI ln), .int (nI (tE bt ln (tE bt ln p))), .int (nI (sk bt ln (tE bt ln p))), .int (nI tkB), .int (nI (tV bt ln (tE bt ln p))), .int (nI rl), .int (nI rs), .int (nI rd), .ref e2, .ref e3, .ref e4, .int (nI n), .int (nI m), .ref e5, .ref e6, .ref e7, .int (nI be), .int (nI sd), .int (nI tu), .int (nI fo), .ref e8, .ref e9, .int (nI kn), .int (nI tl), .int (nI rn), .ref ea, .long tr, .ref eb])), (e1, .inl (G.2.2.1, 200, .inl (nF bt))), (e3, .inl (G.2.2.1, 15, .inl (nF (va_up ra rs (min (tV bt ln p) (tV bt ln (tE bt ln p))))))), (e4, .inl (G.2.2.1, 15, .inl (nF rb)))]) F rfl rfl (by omega) rfl (nF_up _ _ _) rfl dX8_readStreet_139 rfl ?_
                    refine j_aload_n (q := 141) (i0 := 0) F rfl dX8_readStreet_140 rfl ?_
                    refine j_get (q := 144) (ci := 8) (q0 := 0) (kf := 11) (v := .ref e4) F inX8 rfl rfl rfl tw_669 rfl rfl dX8_readStreet_141 rfl ?_
                    refine j_aload_n (q := 145) (i0 := 0) F rfl dX8_readStreet_144 rfl ?_
                    refine j_get (q := 148) (ci := 8) (q0 := 0) (kf := 7) (v := .int (nI rs)) F inX8 rfl rfl rfl tw_665 rfl rfl dX8_readStreet_145 rfl ?_
                    refine j_iload_n (q := 149) (i0 := 3) F rfl dX8_readStreet_148 rfl ?_
                    refine j_iast (q := 150) (q0 := 3) (i := rs) (f2 := nF (va_up rb rs (max (tV bt ln p) (tV bt ln (tE bt ln p))))) (w' := [(e0, .inr (8, [.ref e1, .int (nI ln), .int (nI (tE bt ln (tE bt ln p))), .int (nI (sk bt ln (tE bt ln p))), .int (nI tkB), .int (nI (tV bt ln (tE bt ln p))), .int (nI rl), .int (nI rs), .int (nI rd), .ref e2, .ref e3, .ref e4, .int (nI n), .int (nI m), .ref e5, .ref e6, .ref e7, .int (nI be), .int (nI sd), .int (nI tu), .int (nI fo), .ref e8, .ref e9, .int (nI kn), .int (nI tl), .int (nI rn), .ref ea, .long tr, .ref eb])), (e1, .inl (G.2.2.1, 200, .inl (nF bt))), (e3, .inl (G.2.2.1, 15, .inl (nF (va_up ra rs (min (tV bt ln p) (tV bt ln (tE bt ln p))))))), (e4, .inl (G.2.2.1, 15, .inl (nF (va_up rb rs (max (tV bt ln p) (tV bt ln (tE bt ln p)))))))]) F rfl rfl (by omega) rfl (nF_up _ _ _) rfl dX8_readStreet_149 rfl ?_
                    refine j_aload_n (q := 151) (i0 := 0) F rfl dX8_readStreet_150 rfl ?_
                    refine j_dup (q := 152) F rfl dX8_readStreet_151 rfl ?_
                    refine j_get (q := 155) (ci := 8) (q0 := 0) (kf := 7) (v := .int (nI rs)) F inX8 rfl rfl rfl tw_665 rfl rfl dX8_readStreet_152 rfl ?_
                    refine j_iconst (q := 156) (v := nI 1) F (by decide) dX8_readStreet_155 rfl ?_
                    refine j_iadd (q := 157) (v := nI (rs + 1)) F (nI_add _ _) dX8_readStreet_156 rfl ?_
                    refine j_put (q := 160) (ci := 8) (q0 := 0) (kf := 7) (v := .int (nI (rs + 1))) (w' := [(e0, .inr (8, [.ref e1, .int (nI ln), .int (nI (tE bt ln (tE bt ln p))), .int (nI (sk bt ln (tE bt ln p))), .int (nI tkB), .int (nI (tV bt ln (tE bt ln p))), .int (nI rl), .int (nI (rs + 1)), .int (nI rd), .ref e2, .ref e3, .ref e4, .int (nI n), .int (nI m), .ref e5, .ref e6, .ref e7, .int (nI be), .int (nI sd), .int (nI tu), .int (nI fo), .ref e8, .ref e9, .int (nI kn), .int (nI tl), .int (nI rn), .ref ea, .long tr, .ref eb])), (e1, .inl (G.2.2.1, 200, .inl (nF bt))), (e3, .inl (G.2.2.1, 15, .inl (nF (va_up ra rs (min (tV bt ln p) (tV bt ln (tE bt ln p))))))), (e4, .inl (G.2.2.1, 15, .inl (nF (va_up rb rs (max (tV bt ln p) (tV bt ln (tE bt ln p)))))))]) F inX8 tyX8_ok nmX8 rfl rfl rfl tw_665 rfl rfl rfl rfl rfl rfl dX8_readStreet_157 rfl ?_
                    refine j_aload_n (q := 161) (i0 := 0) F rfl dX8_readStreet_160 rfl ?_
                    refine j_callV (q := 164) (ci := 8) (q0 := 0) (As := []) (wr := [(e3, .inl (G.2.2.1, 15, .inl (nF (va_up ra rs (min (tV bt ln p) (tV bt ln (tE bt ln p))))))), (e4, .inl (G.2.2.1, 15, .inl (nF (va_up rb rs (max (tV bt ln p) (tV bt ln (tE bt ln p)))))))]) (st := []) F (c_X8_reads G hl hbt (p := tE bt ln (tE bt ln p)) (by omega) (by omega)) kwX8_reads tw_764 tw_21 tw_762 ⟨Nat.le_of_ble_eq_true rfl, Nat.le_of_ble_eq_true rfl, rfl, rfl, Nat.le_of_ble_eq_true rfl, Nat.le_of_ble_eq_true rfl⟩ [0, 1] [2, 3] rfl rfl rfl rfl rfl rfl rfl rfl rfl (Nat.le_of_ble_eq_true rfl) dX8_readStreet_161 rfl ?_
                    rintro r_ w_ ⟨tkC, tdC, aaC, hmtC, haaC, htdC, rfl, rfl⟩
                    refine j_w (w' := [(e0, .inr (8, [.ref e1, .int (nI ln), .int (nI aaC), .int (nI (sk bt ln (tE bt ln (tE bt ln p)))), .int (nI tkC), .int (nI tdC), .int (nI rl), .int (nI (rs + 1)), .int (nI rd), .ref e2, .ref e3, .ref e4, .int (nI n), .int (nI m), .ref e5, .ref e6, .ref e7, .int (nI be), .int (nI sd), .int (nI tu), .int (nI fo), .ref e8, .ref e9, .int (nI kn), .int (nI tl), .int (nI rn), .ref ea, .long tr, .ref eb])), (e1, .inl (G.2.2.1, 200, .inl (nF bt))), (e3, .inl (G.2.2.1, 15, .inl (nF (va_up ra rs (min (tV bt ln p) (tV bt ln (tE bt ln p))))))), (e4, .inl (G.2.2.1, 15, .inl (nF (va_up rb rs (max (tV bt ln p) (tV bt ln (tE bt ln p)))))))]) [2, 3, 0, 1] rfl rfl ?_
                    show Jw G X _ 0 0 164 _ [] _
                    have htkC := hmtC.tk_le
                    refine j_aload_n (q := 165) (i0 := 0) F rfl dX8_readStreet_164 rfl ?_
                    refine j_get (q := 168) (ci := 8) (q0 := 0) (kf := 4) (v := .int (nI tkC)) F inX8 rfl rfl rfl tw_662 rfl rfl dX8_readStreet_165 rfl ?_
                    refine j_iconst (q := 169) (v := nI 3) F (by decide) dX8_readStreet_168 rfl ?_
                    refine j_icmp_ne (q := 172) (t := 176) F (Pp := tkC = 3) (nI_eq (by omega) (by omega)) dX8_readStreet_169 rfl rfl (fun c3 => ?_) (fun c3 => ?_)
                    · skip
                      refine j_iconst (q := 177) (v := nI 0) F (by decide) dX8_readStreet_176 rfl ?_
                      exact j_zret (w2 := [(e0, .inr (8, [.ref e1, .int (nI ln), .int (nI aaC), .int (nI (sk bt ln (tE bt ln (tE bt ln p)))), .int (nI tkC), .int (nI tdC), .int (nI rl), .int (nI (rs + 1)), .int (nI rd), .ref e2, .ref e3, .ref e4, .int (nI n), .int (nI m), .ref e5, .ref e6, .ref e7, .int (nI be), .int (nI sd), .int (nI tu), .int (nI fo), .ref e8, .ref e9, .int (nI kn), .int (nI tl), .int (nI rn), .ref ea, .long tr, .ref eb])), (e1, .inl (G.2.2.1, 200, .inl (nF bt))), (e3, .inl (G.2.2.1, 15, .inl (nF (va_up ra rs (min (tV bt ln p) (tV bt ln (tE bt ln p))))))), (e4, .inl (G.2.2.1, 15, .inl (nF (va_up rb rs (max (tV bt ln p) (tV bt ln (tE bt ln p)))))))]) F R0 rfl rfl [0, 1, 2, 3] rfl rfl (⟨_, _, _, _, _, _, _, rfl, by omega, Or.inl ⟨rfl, Or.inr ⟨c9, strF_f3 ⟨hkA, hvA⟩ ⟨hkB, hvB⟩ ce (fun z => by obtain ⟨i, hi, e1, e2⟩ := z; exact hnj i (by omega) ⟨e1, e2⟩) (mtSn hmtC c3)⟩⟩⟩) dX8_readStreet_177
                    · skip
                      refine j_iconst (q := 173) (v := nI 1) F (by decide) dX8_readStreet_172 rfl ?_
                      refine j_goto (t := 177) F dX8_readStreet_173 rfl ?_
                      exact j_zret (w2 := [(e0, .inr (8, [.ref e1, .int (nI ln), .int (nI aaC), .int (nI (sk bt ln (tE bt ln (tE bt ln p)))), .int (nI tkC), .int (nI tdC), .int (nI rl), .int (nI (rs + 1)), .int (nI rd), .ref e2, .ref e3, .ref e4, .int (nI n), .int (nI m), .ref e5, .ref e6, .ref e7, .int (nI be), .int (nI sd), .int (nI tu), .int (nI fo), .ref e8, .ref e9, .int (nI kn), .int (nI tl), .int (nI rn), .ref ea, .long tr, .ref eb])), (e1, .inl (G.2.2.1, 200, .inl (nF bt))), (e3, .inl (G.2.2.1, 15, .inl (nF (va_up ra rs (min (tV bt ln p) (tV bt ln (tE bt ln p))))))), (e4, .inl (G.2.2.1, 15, .inl (nF (va_up rb rs (max (tV bt ln p) (tV bt ln (tE bt ln p)))))))]) F R0 rfl rfl [0, 1, 2, 3] rfl rfl (⟨_, _, _, _, _, _, _, rfl, by omega, Or.inr ⟨rfl, c9, _, _, by rw [(mtS hmtC c3).2]; exact strF_ok ⟨hkA, hvA⟩ ⟨hkB, hvB⟩ ce (fun z => by obtain ⟨i, hi, e1, e2⟩ := z; exact hnj i (by omega) ⟨e1, e2⟩) (mtS hmtC c3).1, rfl, rfl, rfl⟩⟩) dX8_readStreet_177
                  · skip
                    have hlk := hlo k (by omega)
                    refine j_aload_n (q := 101) (i0 := 0) F rfl dX8_readStreet_100 rfl ?_
                    refine j_get (q := 104) (ci := 8) (q0 := 0) (kf := 10) (v := .ref e3) F inX8 rfl rfl rfl tw_668 rfl rfl dX8_readStreet_101 rfl ?_
                    refine j_iload (q := 106) (i0 := 4) F rfl dX8_readStreet_104 rfl ?_
                    refine j_iald (q := 107) (q0 := 2) (i := k) (v := nI (ra k)) F rfl rfl (by omega) rfl (rfl) dX8_readStreet_106 rfl ?_
                    refine j_iload_n (q := 108) (i0 := 2) F rfl dX8_readStreet_107 rfl ?_
                    refine j_icmp_ne (q := 111) (t := 124) F (Pp := ra k = min (tV bt ln p) (tV bt ln (tE bt ln p))) (nI_eq (by omega) (by omega)) dX8_readStreet_108 rfl rfl (fun ca => ?_) (fun ca => ?_)
                    · skip
                      refine j_iinc (q := 127) (i0 := 4) (v := nI (k + 1)) (lv' := [(4, .int (nI (k + 1))), (0, .ref e0), (1, .int (nI (tV bt ln p))), (2, .int (nI (min (tV bt ln p) (tV bt ln (tE bt ln p))))), (3, .int (nI (max (tV bt ln p) (tV bt ln (tE bt ln p)))))]) F dX8_readStreet_124 rfl (nI_add _ _) (by decide) rfl rfl ?_
                      refine j_goto (t := 91) F dX8_readStreet_127 rfl ?_
                      refine j_lv [1, 2, 3, 4, 0] (lv' := [(0, .ref e0), (1, .int (nI (tV bt ln p))), (2, .int (nI (min (tV bt ln p) (tV bt ln (tE bt ln p))))), (3, .int (nI (max (tV bt ln p) (tV bt ln (tE bt ln p))))), (4, .int (nI (k + 1)))]) rfl ?_
                      exact ih13 (k + 1) (by omega) (fun i h => by rcases (show i < k ∨ i = k by omega) with z | z; exact hnj i z; subst z; exact fun y => ca y.1) (by omega)
                    · skip
                      refine j_aload_n (q := 112) (i0 := 0) F rfl dX8_readStreet_111 rfl ?_
                      refine j_get (q := 115) (ci := 8) (q0 := 0) (kf := 11) (v := .ref e4) F inX8 rfl rfl rfl tw_669 rfl rfl dX8_readStreet_112 rfl ?_
                      refine j_iload (q := 117) (i0 := 4) F rfl dX8_readStreet_115 rfl ?_
                      refine j_iald (q := 118) (q0 := 3) (i := k) (v := nI (rb k)) F rfl rfl (by omega) rfl (rfl) dX8_readStreet_117 rfl ?_
                      refine j_iload_n (q := 119) (i0 := 3) F rfl dX8_readStreet_118 rfl ?_
                      refine j_icmp_ne (q := 122) (t := 124) F (Pp := rb k = max (tV bt ln p) (tV bt ln (tE bt ln p))) (nI_eq (by omega) (by omega)) dX8_readStreet_119 rfl rfl (fun cb => ?_) (fun cb => ?_)
                      · skip
                        refine j_iinc (q := 127) (i0 := 4) (v := nI (k + 1)) (lv' := [(4, .int (nI (k + 1))), (0, .ref e0), (1, .int (nI (tV bt ln p))), (2, .int (nI (min (tV bt ln p) (tV bt ln (tE bt ln p))))), (3, .int (nI (max (tV bt ln p) (tV bt ln (tE bt ln p)))))]) F dX8_readStreet_124 rfl (nI_add _ _) (by decide) rfl rfl ?_
                        refine j_goto (t := 91) F dX8_readStreet_127 rfl ?_
                        refine j_lv [1, 2, 3, 4, 0] (lv' := [(0, .ref e0), (1, .int (nI (tV bt ln p))), (2, .int (nI (min (tV bt ln p) (tV bt ln (tE bt ln p))))), (3, .int (nI (max (tV bt ln p) (tV bt ln (tE bt ln p))))), (4, .int (nI (k + 1)))]) rfl ?_
                        exact ih13 (k + 1) (by omega) (fun i h => by rcases (show i < k ∨ i = k by omega) with z | z; exact hnj i z; subst z; exact fun y => cb y.2) (by omega)
                      · skip
                        refine j_iconst (q := 123) (v := nI 0) F (by decide) dX8_readStreet_122 rfl ?_
                        exact j_zret (w2 := [(e0, .inr (8, [.ref e1, .int (nI ln), .int (nI (tE bt ln (tE bt ln p))), .int (nI (sk bt ln (tE bt ln p))), .int (nI tkB), .int (nI (tV bt ln (tE bt ln p))), .int (nI rl), .int (nI rs), .int (nI rd), .ref e2, .ref e3, .ref e4, .int (nI n), .int (nI m), .ref e5, .ref e6, .ref e7, .int (nI be), .int (nI sd), .int (nI tu), .int (nI fo), .ref e8, .ref e9, .int (nI kn), .int (nI tl), .int (nI rn), .ref ea, .long tr, .ref eb])), (e1, .inl (G.2.2.1, 200, .inl (nF bt))), (e3, .inl (G.2.2.1, 15, .inl (nF ra))), (e4, .inl (G.2.2.1, 15, .inl (nF rb)))]) F R0 rfl rfl [0, 1, 2, 3] rfl rfl (⟨_, _, _, _, _, _, _, rfl, by omega, Or.inl ⟨rfl, Or.inr ⟨c9, strF_f2 ⟨hkA, hvA⟩ (Or.inr (Or.inr ⟨k, by omega, ca, cb⟩))⟩⟩⟩) dX8_readStreet_123
              refine j_lv [4, 3, 2, 1, 0] (lv' := [(0, .ref e0), (1, .int (nI (tV bt ln p))), (2, .int (nI (min (tV bt ln p) (tV bt ln (tE bt ln p))))), (3, .int (nI (max (tV bt ln p) (tV bt ln (tE bt ln p))))), (4, .int (nI 0))]) rfl ?_
              exact lp13 _ 0 (Nat.zero_le _) (fun i h => absurd h (Nat.not_lt_zero i)) (Nat.lt_succ_self _)
        · skip
          refine j_iconst (q := 53) (v := nI 0) F (by decide) dX8_readStreet_52 rfl ?_
          exact j_zret (w2 := [(e0, .inr (8, [.ref e1, .int (nI ln), .int (nI (tE bt ln (tE bt ln p))), .int (nI (sk bt ln (tE bt ln p))), .int (nI tkB), .int (nI (tV bt ln (tE bt ln p))), .int (nI rl), .int (nI rs), .int (nI rd), .ref e2, .ref e3, .ref e4, .int (nI n), .int (nI m), .ref e5, .ref e6, .ref e7, .int (nI be), .int (nI sd), .int (nI tu), .int (nI fo), .ref e8, .ref e9, .int (nI kn), .int (nI tl), .int (nI rn), .ref ea, .long tr, .ref eb])), (e1, .inl (G.2.2.1, 200, .inl (nF bt))), (e3, .inl (G.2.2.1, 15, .inl (nF ra))), (e4, .inl (G.2.2.1, 15, .inl (nF rb)))]) F R0 rfl rfl [0, 1, 2, 3] rfl rfl (⟨_, _, _, _, _, _, _, rfl, by omega, Or.inl ⟨rfl, Or.inr ⟨c9, strF_f2 ⟨hkA, hvA⟩ (Or.inr (Or.inl ce))⟩⟩⟩) dX8_readStreet_53
      · skip
        refine j_w (w' := [(e0, .inr (8, [.ref e1, .int (nI ln), .int (nI aaB), .int (nI (sk bt ln (tE bt ln p))), .int (nI tkB), .int (nI tdB), .int (nI rl), .int (nI rs), .int (nI rd), .ref e2, .ref e3, .ref e4, .int (nI n), .int (nI m), .ref e5, .ref e6, .ref e7, .int (nI be), .int (nI sd), .int (nI tu), .int (nI fo), .ref e8, .ref e9, .int (nI kn), .int (nI tl), .int (nI rn), .ref ea, .long tr, .ref eb])), (e1, .inl (G.2.2.1, 200, .inl (nF bt))), (e3, .inl (G.2.2.1, 15, .inl (nF ra))), (e4, .inl (G.2.2.1, 15, .inl (nF rb)))]) [2, 3, 0, 1] rfl rfl ?_
        show Jw G X _ 0 0 41 _ [.int (nI 0)] _
        refine j_if_eq (q := 44) (t := 52) F (ct (by decide)) dX8_readStreet_41 rfl rfl (fun _ => ?_) (fun z => absurd trivial z)
        refine j_iconst (q := 53) (v := nI 0) F (by decide) dX8_readStreet_52 rfl ?_
        exact j_zret (w2 := [(e0, .inr (8, [.ref e1, .int (nI ln), .int (nI aaB), .int (nI (sk bt ln (tE bt ln p))), .int (nI tkB), .int (nI tdB), .int (nI rl), .int (nI rs), .int (nI rd), .ref e2, .ref e3, .ref e4, .int (nI n), .int (nI m), .ref e5, .ref e6, .ref e7, .int (nI be), .int (nI sd), .int (nI tu), .int (nI fo), .ref e8, .ref e9, .int (nI kn), .int (nI tl), .int (nI rn), .ref ea, .long tr, .ref eb])), (e1, .inl (G.2.2.1, 200, .inl (nF bt))), (e3, .inl (G.2.2.1, 15, .inl (nF ra))), (e4, .inl (G.2.2.1, 15, .inl (nF rb)))]) F R0 rfl rfl [0, 1, 2, 3] rfl rfl (⟨_, _, _, _, _, _, _, rfl, by omega, Or.inl ⟨rfl, Or.inr ⟨c9, strF_f2 ⟨hkA, hvA⟩ (Or.inl hnoB)⟩⟩⟩) dX8_readStreet_53
    · skip
      refine j_w (w' := [(e0, .inr (8, [.ref e1, .int (nI ln), .int (nI aaA), .int (nI (sk bt ln p)), .int (nI tkA), .int (nI tdA), .int (nI rl), .int (nI rs), .int (nI rd), .ref e2, .ref e3, .ref e4, .int (nI n), .int (nI m), .ref e5, .ref e6, .ref e7, .int (nI be), .int (nI sd), .int (nI tu), .int (nI fo), .ref e8, .ref e9, .int (nI kn), .int (nI tl), .int (nI rn), .ref ea, .long tr, .ref eb])), (e1, .inl (G.2.2.1, 200, .inl (nF bt))), (e3, .inl (G.2.2.1, 15, .inl (nF ra))), (e4, .inl (G.2.2.1, 15, .inl (nF rb)))]) [2, 3, 0, 1] rfl rfl ?_
      show Jw G X _ 0 0 20 _ [.int (nI 0)] _
      refine j_if_ne (q := 23) (t := 25) F (ct (by decide)) dX8_readStreet_20 rfl rfl (fun z => absurd trivial z) (fun _ => ?_)
      refine j_iconst (q := 24) (v := nI 0) F (by decide) dX8_readStreet_23 rfl ?_
      exact j_zret (w2 := [(e0, .inr (8, [.ref e1, .int (nI ln), .int (nI aaA), .int (nI (sk bt ln p)), .int (nI tkA), .int (nI tdA), .int (nI rl), .int (nI rs), .int (nI rd), .ref e2, .ref e3, .ref e4, .int (nI n), .int (nI m), .ref e5, .ref e6, .ref e7, .int (nI be), .int (nI sd), .int (nI tu), .int (nI fo), .ref e8, .ref e9, .int (nI kn), .int (nI tl), .int (nI rn), .ref ea, .long tr, .ref eb])), (e1, .inl (G.2.2.1, 200, .inl (nF bt))), (e3, .inl (G.2.2.1, 15, .inl (nF ra))), (e4, .inl (G.2.2.1, 15, .inl (nF rb)))]) F R0 rfl rfl [0, 1, 2, 3] rfl rfl (⟨_, _, _, _, _, _, _, rfl, by omega, Or.inl ⟨rfl, Or.inr ⟨c9, strF_f1 hnoA⟩⟩⟩) dX8_readStreet_24

