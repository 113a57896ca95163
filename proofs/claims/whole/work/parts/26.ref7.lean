/-- an image's place o in the row of those kept, behind keep -/
def KpSet (o : Nat) (kp kp2 : Nat → Nat) (P : Pr) : Prop := kp2 o = 1 ∧ kp2 (o + 1) = P.1 ∧ kp2 (o + 2) = P.2.1 ∧ kp2 (o + 3) = P.2.2.1 ∧ kp2 (o + 4) = P.2.2.2.1 ∧ kp2 (o + 5) = P.2.2.2.2.1 ∧ (∀ j, j < 40 → kp2 (o + 6 + j) = P.2.2.2.2.2 j) ∧ ∀ j, (j < o ∨ o + 46 ≤ j) → kp2 j = kp j
def KpIs (o : Nat) (kp : Nat → Nat) (P : Pr) : Prop := kp (o + 1) = P.1 ∧ kp (o + 2) = P.2.1 ∧ kp (o + 3) = P.2.2.1 ∧ kp (o + 4) = P.2.2.2.1 ∧ kp (o + 5) = P.2.2.2.2.1 ∧ ∀ j, j < 40 → kp (o + 6 + j) = P.2.2.2.2.2 j
theorem KpIs.of_set {o : Nat} {kp kp2 : Nat → Nat} {P : Pr} (h : KpSet o kp kp2 P) : KpIs o kp2 P := ⟨h.2.1, h.2.2.1, h.2.2.2.1, h.2.2.2.2.1, h.2.2.2.2.2.1, h.2.2.2.2.2.2.1⟩
theorem KpIs.kept {o o2 : Nat} {kp kp2 : Nat → Nat} {P I : Pr} (h : KpSet o kp kp2 P) (hI : KpIs o2 kp I) (ho : o2 + 46 ≤ o ∨ o + 46 ≤ o2) : KpIs o2 kp2 I := by
  have k := h.2.2.2.2.2.2.2
  refine ⟨?_, ?_, ?_, ?_, ?_, fun j hj => ?_⟩
  · rw [k _ (by omega)]; exact hI.1
  · rw [k _ (by omega)]; exact hI.2.1
  · rw [k _ (by omega)]; exact hI.2.2.1
  · rw [k _ (by omega)]; exact hI.2.2.2.1
  · rw [k _ (by omega)]; exact hI.2.2.2.2.1
  · rw [k _ (by omega)]; exact hI.2.2.2.2.2 j hj
set_option maxHeartbeats 4000000 in
set_option maxRecDepth 100000 in
theorem c_X8_keep0 (G : Gm) {e0 e1 e2 e3 e4 e5 e6 e7 e8 e9 ea eb : Nat} {ln aa bg tk td rl rs rd n m be sd tu fo kn tl rn : Nat} {pa kp : Nat → Nat}  {tr : Int64}  : Mg G yX8_keep cX8_keep 4 (some .int) ({ frames := 1, cells := 0, slots := 0, locals := 25 } : Room) 0 0 [.ref e0, .int (nI 0)] [(e0, .inr (8, [.ref e1, .int (nI ln), .int (nI aa), .int (nI bg), .int (nI tk), .int (nI td), .int (nI rl), .int (nI rs), .int (nI rd), .ref e2, .ref e3, .ref e4, .int (nI n), .int (nI m), .ref e5, .ref e6, .ref e7, .int (nI be), .int (nI sd), .int (nI tu), .int (nI fo), .ref e8, .ref e9, .int (nI kn), .int (nI tl), .int (nI rn), .ref ea, .long tr, .ref eb])), (e9, .inl (G.2.2.1, 40, .inl (nF pa))), (eb, .inl (G.2.2.1, 92, .inl (nF kp)))] (fun r w2 => ∃ kp2, KpSet 0 kp kp2 (be, sd, tu, fo, kn, pa) ∧ r = some (.int (nI be)) ∧ w2 = [(e0, .inr (8, [.ref e1, .int (nI ln), .int (nI aa), .int (nI bg), .int (nI tk), .int (nI td), .int (nI rl), .int (nI rs), .int (nI rd), .ref e2, .ref e3, .ref e4, .int (nI n), .int (nI m), .ref e5, .ref e6, .ref e7, .int (nI be), .int (nI sd), .int (nI tu), .int (nI fo), .ref e8, .ref e9, .int (nI kn), .int (nI tl), .int (nI rn), .ref ea, .long tr, .ref eb])), (e9, .inl (G.2.2.1, 40, .inl (nF pa))), (eb, .inl (G.2.2.1, 92, .inl (nF kp2)))]) := by
  refine Mg.mk (lv := [(0, .ref e0), (1, .int (nI 0))]) (by decide) rfl rfl (fun X F R0 => ?_)
  refine j_iload_n (q := 1) (i0 := 1) F rfl dX8_keep_0 rfl ?_
  refine j_i2l (q := 2) (v := Int32.toInt64 (nI 0)) F rfl dX8_keep_1 rfl ?_
  refine j_lconst (q := 3) (v := 0) F (by decide) dX8_keep_2 rfl ?_
  refine j_lconst (q := 4) (v := 1) F (by decide) dX8_keep_3 rfl ?_
  refine j_callS (q := 7) (As := [.long (Int32.toInt64 (nI 0)), .long 0, .long 1]) (wr := [(e0, .inr (8, [.ref e1, .int (nI ln), .int (nI aa), .int (nI bg), .int (nI tk), .int (nI td), .int (nI rl), .int (nI rs), .int (nI rd), .ref e2, .ref e3, .ref e4, .int (nI n), .int (nI m), .ref e5, .ref e6, .ref e7, .int (nI be), .int (nI sd), .int (nI tu), .int (nI fo), .ref e8, .ref e9, .int (nI kn), .int (nI tl), .int (nI rn), .ref ea, .long tr, .ref eb])), (e9, .inl (G.2.2.1, 40, .inl (nF pa))), (eb, .inl (G.2.2.1, 92, .inl (nF kp)))]) (st := []) F (c_inR G (x := nI 0) (n := 2) rfl (by decide) rfl) kwX8_in tw_752 tw_751 ⟨Nat.le_of_ble_eq_true rfl, Nat.le_of_ble_eq_true rfl, rfl, rfl, Nat.le_of_ble_eq_true rfl, Nat.le_of_ble_eq_true rfl⟩ [] [0, 1, 2] rfl rfl rfl rfl rfl rfl rfl (Nat.le_of_ble_eq_true rfl) dX8_keep_4 rfl ?_
  rintro r_ w_ ⟨rfl, (⟨rfl, hx⟩ | ⟨rfl, hx⟩)⟩
  · skip
    refine j_w (w' := [(e0, .inr (8, [.ref e1, .int (nI ln), .int (nI aa), .int (nI bg), .int (nI tk), .int (nI td), .int (nI rl), .int (nI rs), .int (nI rd), .ref e2, .ref e3, .ref e4, .int (nI n), .int (nI m), .ref e5, .ref e6, .ref e7, .int (nI be), .int (nI sd), .int (nI tu), .int (nI fo), .ref e8, .ref e9, .int (nI kn), .int (nI tl), .int (nI rn), .ref ea, .long tr, .ref eb])), (e9, .inl (G.2.2.1, 40, .inl (nF pa))), (eb, .inl (G.2.2.1, 92, .inl (nF kp)))]) [0, 1, 2] rfl rfl ?_
    show Jw G X _ 0 0 7 _ [.int (nI 1)] _
    refine j_if_ne (q := 10) (t := 12) F (cf (by decide)) dX8_keep_7 rfl rfl (fun _ => ?_) (fun z => False.elim z)
    refine j_bipush (q := 14) (v := nI 46) F (by decide) dX8_keep_12 rfl ?_
    refine j_iload_n (q := 15) (i0 := 1) F rfl dX8_keep_14 rfl ?_
    refine j_imul (q := 16) (v := nI 0) F (by decide) dX8_keep_15 rfl ?_
    refine j_istore_n (q := 17) (lv' := [(2, .int (nI 0)), (0, .ref e0), (1, .int (nI 0))]) F dX8_keep_16 (by decide) rfl rfl ?_
    refine j_aload_n (q := 18) (i0 := 1) F rfl dX8_keep_17 rfl ?_
    refine j_get (q := 21) (ci := 8) (q0 := 0) (kf := 28) (v := .ref eb) F inX8 rfl rfl rfl tw_686 rfl rfl dX8_keep_18 rfl ?_
    refine j_iload_n (q := 22) (i0 := 0) F rfl dX8_keep_21 rfl ?_
    refine j_iconst (q := 23) (v := nI 1) F (by decide) dX8_keep_22 rfl ?_
    refine j_iast (q := 24) (q0 := 2) (i := 0) (f2 := nF (va_up kp 0 1)) (w' := [(e0, .inr (8, [.ref e1, .int (nI ln), .int (nI aa), .int (nI bg), .int (nI tk), .int (nI td), .int (nI rl), .int (nI rs), .int (nI rd), .ref e2, .ref e3, .ref e4, .int (nI n), .int (nI m), .ref e5, .ref e6, .ref e7, .int (nI be), .int (nI sd), .int (nI tu), .int (nI fo), .ref e8, .ref e9, .int (nI kn), .int (nI tl), .int (nI rn), .ref ea, .long tr, .ref eb])), (e9, .inl (G.2.2.1, 40, .inl (nF pa))), (eb, .inl (G.2.2.1, 92, .inl (nF (va_up kp 0 1))))]) F rfl rfl (by omega) rfl (nF_up _ _ _) rfl dX8_keep_23 rfl ?_
    refine j_aload_n (q := 25) (i0 := 1) F rfl dX8_keep_24 rfl ?_
    refine j_get (q := 28) (ci := 8) (q0 := 0) (kf := 28) (v := .ref eb) F inX8 rfl rfl rfl tw_686 rfl rfl dX8_keep_25 rfl ?_
    refine j_iload_n (q := 29) (i0 := 0) F rfl dX8_keep_28 rfl ?_
    refine j_iconst (q := 30) (v := nI 1) F (by decide) dX8_keep_29 rfl ?_
    refine j_iadd (q := 31) (v := nI 1) F (by decide) dX8_keep_30 rfl ?_
    refine j_aload_n (q := 32) (i0 := 1) F rfl dX8_keep_31 rfl ?_
    refine j_get (q := 35) (ci := 8) (q0 := 0) (kf := 17) (v := .int (nI be)) F inX8 rfl rfl rfl tw_675 rfl rfl dX8_keep_32 rfl ?_
    refine j_iast (q := 36) (q0 := 2) (i := 1) (f2 := nF (va_up (va_up kp 0 1) 1 be)) (w' := [(e0, .inr (8, [.ref e1, .int (nI ln), .int (nI aa), .int (nI bg), .int (nI tk), .int (nI td), .int (nI rl), .int (nI rs), .int (nI rd), .ref e2, .ref e3, .ref e4, .int (nI n), .int (nI m), .ref e5, .ref e6, .ref e7, .int (nI be), .int (nI sd), .int (nI tu), .int (nI fo), .ref e8, .ref e9, .int (nI kn), .int (nI tl), .int (nI rn), .ref ea, .long tr, .ref eb])), (e9, .inl (G.2.2.1, 40, .inl (nF pa))), (eb, .inl (G.2.2.1, 92, .inl (nF (va_up (va_up kp 0 1) 1 be))))]) F rfl rfl (by omega) rfl (nF_up _ _ _) rfl dX8_keep_35 rfl ?_
    refine j_aload_n (q := 37) (i0 := 1) F rfl dX8_keep_36 rfl ?_
    refine j_get (q := 40) (ci := 8) (q0 := 0) (kf := 28) (v := .ref eb) F inX8 rfl rfl rfl tw_686 rfl rfl dX8_keep_37 rfl ?_
    refine j_iload_n (q := 41) (i0 := 0) F rfl dX8_keep_40 rfl ?_
    refine j_iconst (q := 42) (v := nI 2) F (by decide) dX8_keep_41 rfl ?_
    refine j_iadd (q := 43) (v := nI 2) F (by decide) dX8_keep_42 rfl ?_
    refine j_aload_n (q := 44) (i0 := 1) F rfl dX8_keep_43 rfl ?_
    refine j_get (q := 47) (ci := 8) (q0 := 0) (kf := 18) (v := .int (nI sd)) F inX8 rfl rfl rfl tw_676 rfl rfl dX8_keep_44 rfl ?_
    refine j_iast (q := 48) (q0 := 2) (i := 2) (f2 := nF (va_up (va_up (va_up kp 0 1) 1 be) 2 sd)) (w' := [(e0, .inr (8, [.ref e1, .int (nI ln), .int (nI aa), .int (nI bg), .int (nI tk), .int (nI td), .int (nI rl), .int (nI rs), .int (nI rd), .ref e2, .ref e3, .ref e4, .int (nI n), .int (nI m), .ref e5, .ref e6, .ref e7, .int (nI be), .int (nI sd), .int (nI tu), .int (nI fo), .ref e8, .ref e9, .int (nI kn), .int (nI tl), .int (nI rn), .ref ea, .long tr, .ref eb])), (e9, .inl (G.2.2.1, 40, .inl (nF pa))), (eb, .inl (G.2.2.1, 92, .inl (nF (va_up (va_up (va_up kp 0 1) 1 be) 2 sd))))]) F rfl rfl (by omega) rfl (nF_up _ _ _) rfl dX8_keep_47 rfl ?_
    refine j_aload_n (q := 49) (i0 := 1) F rfl dX8_keep_48 rfl ?_
    refine j_get (q := 52) (ci := 8) (q0 := 0) (kf := 28) (v := .ref eb) F inX8 rfl rfl rfl tw_686 rfl rfl dX8_keep_49 rfl ?_
    refine j_iload_n (q := 53) (i0 := 0) F rfl dX8_keep_52 rfl ?_
    refine j_iconst (q := 54) (v := nI 3) F (by decide) dX8_keep_53 rfl ?_
    refine j_iadd (q := 55) (v := nI 3) F (by decide) dX8_keep_54 rfl ?_
    refine j_aload_n (q := 56) (i0 := 1) F rfl dX8_keep_55 rfl ?_
    refine j_get (q := 59) (ci := 8) (q0 := 0) (kf := 19) (v := .int (nI tu)) F inX8 rfl rfl rfl tw_677 rfl rfl dX8_keep_56 rfl ?_
    refine j_iast (q := 60) (q0 := 2) (i := 3) (f2 := nF (va_up (va_up (va_up (va_up kp 0 1) 1 be) 2 sd) 3 tu)) (w' := [(e0, .inr (8, [.ref e1, .int (nI ln), .int (nI aa), .int (nI bg), .int (nI tk), .int (nI td), .int (nI rl), .int (nI rs), .int (nI rd), .ref e2, .ref e3, .ref e4, .int (nI n), .int (nI m), .ref e5, .ref e6, .ref e7, .int (nI be), .int (nI sd), .int (nI tu), .int (nI fo), .ref e8, .ref e9, .int (nI kn), .int (nI tl), .int (nI rn), .ref ea, .long tr, .ref eb])), (e9, .inl (G.2.2.1, 40, .inl (nF pa))), (eb, .inl (G.2.2.1, 92, .inl (nF (va_up (va_up (va_up (va_up kp 0 1) 1 be) 2 sd) 3 tu))))]) F rfl rfl (by omega) rfl (nF_up _ _ _) rfl dX8_keep_59 rfl ?_
    refine j_aload_n (q := 61) (i0 := 1) F rfl dX8_keep_60 rfl ?_
    refine j_get (q := 64) (ci := 8) (q0 := 0) (kf := 28) (v := .ref eb) F inX8 rfl rfl rfl tw_686 rfl rfl dX8_keep_61 rfl ?_
    refine j_iload_n (q := 65) (i0 := 0) F rfl dX8_keep_64 rfl ?_
    refine j_iconst (q := 66) (v := nI 4) F (by decide) dX8_keep_65 rfl ?_
    refine j_iadd (q := 67) (v := nI 4) F (by decide) dX8_keep_66 rfl ?_
    refine j_aload_n (q := 68) (i0 := 1) F rfl dX8_keep_67 rfl ?_
    refine j_get (q := 71) (ci := 8) (q0 := 0) (kf := 20) (v := .int (nI fo)) F inX8 rfl rfl rfl tw_678 rfl rfl dX8_keep_68 rfl ?_
    refine j_iast (q := 72) (q0 := 2) (i := 4) (f2 := nF (va_up (va_up (va_up (va_up (va_up kp 0 1) 1 be) 2 sd) 3 tu) 4 fo)) (w' := [(e0, .inr (8, [.ref e1, .int (nI ln), .int (nI aa), .int (nI bg), .int (nI tk), .int (nI td), .int (nI rl), .int (nI rs), .int (nI rd), .ref e2, .ref e3, .ref e4, .int (nI n), .int (nI m), .ref e5, .ref e6, .ref e7, .int (nI be), .int (nI sd), .int (nI tu), .int (nI fo), .ref e8, .ref e9, .int (nI kn), .int (nI tl), .int (nI rn), .ref ea, .long tr, .ref eb])), (e9, .inl (G.2.2.1, 40, .inl (nF pa))), (eb, .inl (G.2.2.1, 92, .inl (nF (va_up (va_up (va_up (va_up (va_up kp 0 1) 1 be) 2 sd) 3 tu) 4 fo))))]) F rfl rfl (by omega) rfl (nF_up _ _ _) rfl dX8_keep_71 rfl ?_
    refine j_aload_n (q := 73) (i0 := 1) F rfl dX8_keep_72 rfl ?_
    refine j_get (q := 76) (ci := 8) (q0 := 0) (kf := 28) (v := .ref eb) F inX8 rfl rfl rfl tw_686 rfl rfl dX8_keep_73 rfl ?_
    refine j_iload_n (q := 77) (i0 := 0) F rfl dX8_keep_76 rfl ?_
    refine j_iconst (q := 78) (v := nI 5) F (by decide) dX8_keep_77 rfl ?_
    refine j_iadd (q := 79) (v := nI 5) F (by decide) dX8_keep_78 rfl ?_
    refine j_aload_n (q := 80) (i0 := 1) F rfl dX8_keep_79 rfl ?_
    refine j_get (q := 83) (ci := 8) (q0 := 0) (kf := 23) (v := .int (nI kn)) F inX8 rfl rfl rfl tw_681 rfl rfl dX8_keep_80 rfl ?_
    refine j_iast (q := 84) (q0 := 2) (i := 5) (f2 := nF (va_up (va_up (va_up (va_up (va_up (va_up kp 0 1) 1 be) 2 sd) 3 tu) 4 fo) 5 kn)) (w' := [(e0, .inr (8, [.ref e1, .int (nI ln), .int (nI aa), .int (nI bg), .int (nI tk), .int (nI td), .int (nI rl), .int (nI rs), .int (nI rd), .ref e2, .ref e3, .ref e4, .int (nI n), .int (nI m), .ref e5, .ref e6, .ref e7, .int (nI be), .int (nI sd), .int (nI tu), .int (nI fo), .ref e8, .ref e9, .int (nI kn), .int (nI tl), .int (nI rn), .ref ea, .long tr, .ref eb])), (e9, .inl (G.2.2.1, 40, .inl (nF pa))), (eb, .inl (G.2.2.1, 92, .inl (nF (va_up (va_up (va_up (va_up (va_up (va_up kp 0 1) 1 be) 2 sd) 3 tu) 4 fo) 5 kn))))]) F rfl rfl (by omega) rfl (nF_up _ _ _) rfl dX8_keep_83 rfl ?_
    refine j_iconst (q := 85) (v := nI 0) F (by decide) dX8_keep_84 rfl ?_
    refine j_istore_n (q := 86) (lv' := [(3, .int (nI 0)), (2, .int (nI 0)), (0, .ref e0), (1, .int (nI 0))]) F dX8_keep_85 (by decide) rfl rfl ?_
    have lp2 : ∀ (fu : Nat) (k : Nat) (kp1 : Nat → Nat) (hk : k ≤ 40) (hka : ∀ j, j < k → kp1 (6 + j) = pa j) (hkb : ∀ j, (j < 6 ∨ 46 ≤ j) → kp1 j = (va_up (va_up (va_up (va_up (va_up (va_up kp 0 1) 1 be) 2 sd) 3 tu) 4 fo) 5 kn) j), (40 - k) < fu → Jw G X 4 0 0 86 [(0, .ref e0), (1, .int (nI 0)), (2, .int (nI 0)), (3, .int (nI k))] [] [(e0, .inr (8, [.ref e1, .int (nI ln), .int (nI aa), .int (nI bg), .int (nI tk), .int (nI td), .int (nI rl), .int (nI rs), .int (nI rd), .ref e2, .ref e3, .ref e4, .int (nI n), .int (nI m), .ref e5, .ref e6, .ref e7, .int (nI be), .int (nI sd), .int (nI tu), .int (nI fo), .ref e8, .ref e9, .int (nI kn), .int (nI tl), .int (nI rn), .ref ea, .long tr, .ref eb])), (e9, .inl (G.2.2.1, 40, .inl (nF pa))), (eb, .inl (G.2.2.1, 92, .inl (nF kp1)))] := by
      intro fu
      induction fu with
      | zero => intro k kp1 hk hka hkb hfu; exact absurd hfu (Nat.not_lt_zero _)
      | succ fu ih2 =>
        intro k kp1 hk hka hkb hfu
        refine j_iload_n (q := 87) (i0 := 3) F rfl dX8_keep_86 rfl ?_
        refine j_bipush (q := 89) (v := nI 40) F (by decide) dX8_keep_87 rfl ?_
        refine j_icmp_ge (q := 92) (t := 115) F (Pp := 40 ≤ k) (nI_leI (by omega) (by omega)) dX8_keep_89 rfl rfl (fun c3 => ?_) (fun c3 => ?_)
        · skip
          refine j_aload_n (q := 116) (i0 := 0) F rfl dX8_keep_115 rfl ?_
          refine j_get (q := 119) (ci := 8) (q0 := 0) (kf := 17) (v := .int (nI be)) F inX8 rfl rfl rfl tw_675 rfl rfl dX8_keep_116 rfl ?_
          exact j_iret (w2 := [(e0, .inr (8, [.ref e1, .int (nI ln), .int (nI aa), .int (nI bg), .int (nI tk), .int (nI td), .int (nI rl), .int (nI rs), .int (nI rd), .ref e2, .ref e3, .ref e4, .int (nI n), .int (nI m), .ref e5, .ref e6, .ref e7, .int (nI be), .int (nI sd), .int (nI tu), .int (nI fo), .ref e8, .ref e9, .int (nI kn), .int (nI tl), .int (nI rn), .ref ea, .long tr, .ref eb])), (e9, .inl (G.2.2.1, 40, .inl (nF pa))), (eb, .inl (G.2.2.1, 92, .inl (nF kp1)))]) F R0 rfl [0, 1, 2] rfl rfl (⟨_, ⟨by rw [hkb 0 (by omega), up_n _ _ (by omega), up_n _ _ (by omega), up_n _ _ (by omega), up_n _ _ (by omega), up_n _ _ (by omega), up_s], by rw [hkb 1 (by omega), up_n _ _ (by omega), up_n _ _ (by omega), up_n _ _ (by omega), up_n _ _ (by omega), up_s], by rw [hkb 2 (by omega), up_n _ _ (by omega), up_n _ _ (by omega), up_n _ _ (by omega), up_s], by rw [hkb 3 (by omega), up_n _ _ (by omega), up_n _ _ (by omega), up_s], by rw [hkb 4 (by omega), up_n _ _ (by omega), up_s], by rw [hkb 5 (by omega), up_s], fun j h => by rw [show 0 + 6 + j = 6 + j by omega]; exact hka j (by omega), fun j h => by rw [hkb j (by omega), up_n _ _ (by omega), up_n _ _ (by omega), up_n _ _ (by omega), up_n _ _ (by omega), up_n _ _ (by omega), up_n _ _ (by omega)]⟩, rfl, rfl⟩) dX8_keep_119
        · skip
          refine j_aload_n (q := 93) (i0 := 0) F rfl dX8_keep_92 rfl ?_
          refine j_get (q := 96) (ci := 8) (q0 := 0) (kf := 28) (v := .ref eb) F inX8 rfl rfl rfl tw_686 rfl rfl dX8_keep_93 rfl ?_
          refine j_iload_n (q := 97) (i0 := 2) F rfl dX8_keep_96 rfl ?_
          refine j_bipush (q := 99) (v := nI 6) F (by decide) dX8_keep_97 rfl ?_
          refine j_iadd (q := 100) (v := nI 6) F (by decide) dX8_keep_99 rfl ?_
          refine j_iload_n (q := 101) (i0 := 3) F rfl dX8_keep_100 rfl ?_
          refine j_iadd (q := 102) (v := nI (6 + k)) F (nI_add _ _) dX8_keep_101 rfl ?_
          refine j_aload_n (q := 103) (i0 := 0) F rfl dX8_keep_102 rfl ?_
          refine j_get (q := 106) (ci := 8) (q0 := 0) (kf := 22) (v := .ref e9) F inX8 rfl rfl rfl tw_680 rfl rfl dX8_keep_103 rfl ?_
          refine j_iload_n (q := 107) (i0 := 3) F rfl dX8_keep_106 rfl ?_
          refine j_iald (q := 108) (q0 := 1) (i := k) (v := nI (pa k)) F rfl rfl (by omega) rfl (rfl) dX8_keep_107 rfl ?_
          refine j_iast (q := 109) (q0 := 2) (i := (6 + k)) (f2 := nF (va_up kp1 (6 + k) (pa k))) (w' := [(e0, .inr (8, [.ref e1, .int (nI ln), .int (nI aa), .int (nI bg), .int (nI tk), .int (nI td), .int (nI rl), .int (nI rs), .int (nI rd), .ref e2, .ref e3, .ref e4, .int (nI n), .int (nI m), .ref e5, .ref e6, .ref e7, .int (nI be), .int (nI sd), .int (nI tu), .int (nI fo), .ref e8, .ref e9, .int (nI kn), .int (nI tl), .int (nI rn), .ref ea, .long tr, .ref eb])), (e9, .inl (G.2.2.1, 40, .inl (nF pa))), (eb, .inl (G.2.2.1, 92, .inl (nF (va_up kp1 (6 + k) (pa k)))))]) F rfl rfl (by omega) rfl (nF_up _ _ _) rfl dX8_keep_108 rfl ?_
          refine j_iinc (q := 112) (i0 := 3) (v := nI (k + 1)) (lv' := [(3, .int (nI (k + 1))), (0, .ref e0), (1, .int (nI 0)), (2, .int (nI 0))]) F dX8_keep_109 rfl (nI_add _ _) (by decide) rfl rfl ?_
          refine j_goto (t := 86) F dX8_keep_112 rfl ?_
          refine j_lv [1, 2, 3, 0] (lv' := [(0, .ref e0), (1, .int (nI 0)), (2, .int (nI 0)), (3, .int (nI (k + 1)))]) rfl ?_
          exact ih2 (k + 1) _ (by omega) (fun j h => by rcases (show j < k ∨ j = k by omega) with z | z; rw [up_n _ _ (by omega)]; exact hka j z; subst z; rw [up_s]) (fun j h => by rw [up_n _ _ (by omega)]; exact hkb j h) (by omega)
    refine j_lv [2, 3, 1, 0] (lv' := [(0, .ref e0), (1, .int (nI 0)), (2, .int (nI 0)), (3, .int (nI 0))]) rfl ?_
    exact lp2 _ 0 _ (Nat.zero_le _) (fun j h => absurd h (Nat.not_lt_zero j)) (fun j _ => rfl) (Nat.lt_succ_self _)
  · skip
    exact absurd ⟨0, by decide, rfl⟩ hx

set_option maxHeartbeats 4000000 in
set_option maxRecDepth 100000 in
theorem c_X8_back0 (G : Gm) {e0 e1 e2 e3 e4 e5 e6 e7 e8 e9 ea eb : Nat} {ln aa bg tk td rl rs rd n m be sd tu fo kn tl rn : Nat} {pa kp : Nat → Nat}  {tr : Int64} {be0 sd0 tu0 fo0 kn0 : Nat} {pa0 : Nat → Nat} (hf : kp 0 = 1) (hI : KpIs 0 kp (be0, sd0, tu0, fo0, kn0, pa0)) : Mg G yX8_back cX8_back 4 (some .int) ({ frames := 1, cells := 0, slots := 0, locals := 25 } : Room) 0 0 [.ref e0, .int (nI 0)] [(e0, .inr (8, [.ref e1, .int (nI ln), .int (nI aa), .int (nI bg), .int (nI tk), .int (nI td), .int (nI rl), .int (nI rs), .int (nI rd), .ref e2, .ref e3, .ref e4, .int (nI n), .int (nI m), .ref e5, .ref e6, .ref e7, .int (nI be), .int (nI sd), .int (nI tu), .int (nI fo), .ref e8, .ref e9, .int (nI kn), .int (nI tl), .int (nI rn), .ref ea, .long tr, .ref eb])), (e9, .inl (G.2.2.1, 40, .inl (nF pa))), (eb, .inl (G.2.2.1, 92, .inl (nF kp)))] (fun r w2 => r = some (.int (nI be0)) ∧ w2 = [(e0, .inr (8, [.ref e1, .int (nI ln), .int (nI aa), .int (nI bg), .int (nI tk), .int (nI td), .int (nI rl), .int (nI rs), .int (nI rd), .ref e2, .ref e3, .ref e4, .int (nI n), .int (nI m), .ref e5, .ref e6, .ref e7, .int (nI be0), .int (nI sd0), .int (nI tu0), .int (nI fo0), .ref e8, .ref e9, .int (nI kn0), .int (nI tl), .int (nI rn), .ref ea, .long tr, .ref eb])), (e9, .inl (G.2.2.1, 40, .inl (nF pa0))), (eb, .inl (G.2.2.1, 92, .inl (nF kp)))]) := by
  refine Mg.mk (lv := [(0, .ref e0), (1, .int (nI 0))]) (by decide) rfl rfl (fun X F R0 => ?_)
  refine j_iload_n (q := 1) (i0 := 1) F rfl dX8_back_0 rfl ?_
  refine j_i2l (q := 2) (v := Int32.toInt64 (nI 0)) F rfl dX8_back_1 rfl ?_
  refine j_lconst (q := 3) (v := 0) F (by decide) dX8_back_2 rfl ?_
  refine j_lconst (q := 4) (v := 1) F (by decide) dX8_back_3 rfl ?_
  refine j_callS (q := 7) (As := [.long (Int32.toInt64 (nI 0)), .long 0, .long 1]) (wr := [(e0, .inr (8, [.ref e1, .int (nI ln), .int (nI aa), .int (nI bg), .int (nI tk), .int (nI td), .int (nI rl), .int (nI rs), .int (nI rd), .ref e2, .ref e3, .ref e4, .int (nI n), .int (nI m), .ref e5, .ref e6, .ref e7, .int (nI be), .int (nI sd), .int (nI tu), .int (nI fo), .ref e8, .ref e9, .int (nI kn), .int (nI tl), .int (nI rn), .ref ea, .long tr, .ref eb])), (e9, .inl (G.2.2.1, 40, .inl (nF pa))), (eb, .inl (G.2.2.1, 92, .inl (nF kp)))]) (st := []) F (c_inR G (x := nI 0) (n := 2) rfl (by decide) rfl) kwX8_in tw_752 tw_751 ⟨Nat.le_of_ble_eq_true rfl, Nat.le_of_ble_eq_true rfl, rfl, rfl, Nat.le_of_ble_eq_true rfl, Nat.le_of_ble_eq_true rfl⟩ [] [0, 1, 2] rfl rfl rfl rfl rfl rfl rfl (Nat.le_of_ble_eq_true rfl) dX8_back_4 rfl ?_
  rintro r_ w_ ⟨rfl, (⟨rfl, hx⟩ | ⟨rfl, hx⟩)⟩
  · skip
    refine j_w (w' := [(e0, .inr (8, [.ref e1, .int (nI ln), .int (nI aa), .int (nI bg), .int (nI tk), .int (nI td), .int (nI rl), .int (nI rs), .int (nI rd), .ref e2, .ref e3, .ref e4, .int (nI n), .int (nI m), .ref e5, .ref e6, .ref e7, .int (nI be), .int (nI sd), .int (nI tu), .int (nI fo), .ref e8, .ref e9, .int (nI kn), .int (nI tl), .int (nI rn), .ref ea, .long tr, .ref eb])), (e9, .inl (G.2.2.1, 40, .inl (nF pa))), (eb, .inl (G.2.2.1, 92, .inl (nF kp)))]) [0, 1, 2] rfl rfl ?_
    show Jw G X _ 0 0 7 _ [.int (nI 1)] _
    refine j_if_ne (q := 10) (t := 12) F (cf (by decide)) dX8_back_7 rfl rfl (fun _ => ?_) (fun z => False.elim z)
    refine j_bipush (q := 14) (v := nI 46) F (by decide) dX8_back_12 rfl ?_
    refine j_iload_n (q := 15) (i0 := 1) F rfl dX8_back_14 rfl ?_
    refine j_imul (q := 16) (v := nI 0) F (by decide) dX8_back_15 rfl ?_
    refine j_istore_n (q := 17) (lv' := [(2, .int (nI 0)), (0, .ref e0), (1, .int (nI 0))]) F dX8_back_16 (by decide) rfl rfl ?_
    refine j_aload_n (q := 18) (i0 := 1) F rfl dX8_back_17 rfl ?_
    refine j_get (q := 21) (ci := 8) (q0 := 0) (kf := 28) (v := .ref eb) F inX8 rfl rfl rfl tw_686 rfl rfl dX8_back_18 rfl ?_
    refine j_iload_n (q := 22) (i0 := 0) F rfl dX8_back_21 rfl ?_
    refine j_iald (q := 23) (q0 := 2) (i := 0) (v := nI (kp 0)) F rfl rfl (by omega) rfl (rfl) dX8_back_22 rfl ?_
    refine j_if_ne (q := 26) (t := 29) F (Pp := kp 0 = 0) (nI_eq0 (by omega)) dX8_back_23 rfl rfl (fun cz => ?_) (fun cz => ?_)
    · skip
      refine j_aload_n (q := 30) (i0 := 1) F rfl dX8_back_29 rfl ?_
      refine j_aload_n (q := 31) (i0 := 1) F rfl dX8_back_30 rfl ?_
      refine j_get (q := 34) (ci := 8) (q0 := 0) (kf := 28) (v := .ref eb) F inX8 rfl rfl rfl tw_686 rfl rfl dX8_back_31 rfl ?_
      refine j_iload_n (q := 35) (i0 := 0) F rfl dX8_back_34 rfl ?_
      refine j_iconst (q := 36) (v := nI 1) F (by decide) dX8_back_35 rfl ?_
      refine j_iadd (q := 37) (v := nI 1) F (by decide) dX8_back_36 rfl ?_
      refine j_iald (q := 38) (q0 := 2) (i := 1) (v := nI be0) F rfl rfl (by omega) rfl (congrArg nI hI.1) dX8_back_37 rfl ?_
      refine j_put (q := 41) (ci := 8) (q0 := 0) (kf := 17) (v := .int (nI be0)) (w' := [(e0, .inr (8, [.ref e1, .int (nI ln), .int (nI aa), .int (nI bg), .int (nI tk), .int (nI td), .int (nI rl), .int (nI rs), .int (nI rd), .ref e2, .ref e3, .ref e4, .int (nI n), .int (nI m), .ref e5, .ref e6, .ref e7, .int (nI be0), .int (nI sd), .int (nI tu), .int (nI fo), .ref e8, .ref e9, .int (nI kn), .int (nI tl), .int (nI rn), .ref ea, .long tr, .ref eb])), (e9, .inl (G.2.2.1, 40, .inl (nF pa))), (eb, .inl (G.2.2.1, 92, .inl (nF kp)))]) F inX8 tyX8_ok nmX8 rfl rfl rfl tw_675 rfl rfl rfl rfl rfl rfl dX8_back_38 rfl ?_
      refine j_aload_n (q := 42) (i0 := 1) F rfl dX8_back_41 rfl ?_
      refine j_aload_n (q := 43) (i0 := 1) F rfl dX8_back_42 rfl ?_
      refine j_get (q := 46) (ci := 8) (q0 := 0) (kf := 28) (v := .ref eb) F inX8 rfl rfl rfl tw_686 rfl rfl dX8_back_43 rfl ?_
      refine j_iload_n (q := 47) (i0 := 0) F rfl dX8_back_46 rfl ?_
      refine j_iconst (q := 48) (v := nI 2) F (by decide) dX8_back_47 rfl ?_
      refine j_iadd (q := 49) (v := nI 2) F (by decide) dX8_back_48 rfl ?_
      refine j_iald (q := 50) (q0 := 2) (i := 2) (v := nI sd0) F rfl rfl (by omega) rfl (congrArg nI hI.2.1) dX8_back_49 rfl ?_
      refine j_put (q := 53) (ci := 8) (q0 := 0) (kf := 18) (v := .int (nI sd0)) (w' := [(e0, .inr (8, [.ref e1, .int (nI ln), .int (nI aa), .int (nI bg), .int (nI tk), .int (nI td), .int (nI rl), .int (nI rs), .int (nI rd), .ref e2, .ref e3, .ref e4, .int (nI n), .int (nI m), .ref e5, .ref e6, .ref e7, .int (nI be0), .int (nI sd0), .int (nI tu), .int (nI fo), .ref e8, .ref e9, .int (nI kn), .int (nI tl), .int (nI rn), .ref ea, .long tr, .ref eb])), (e9, .inl (G.2.2.1, 40, .inl (nF pa))), (eb, .inl (G.2.2.1, 92, .inl (nF kp)))]) F inX8 tyX8_ok nmX8 rfl rfl rfl tw_676 rfl rfl rfl rfl rfl rfl dX8_back_50 rfl ?_
      refine j_aload_n (q := 54) (i0 := 1) F rfl dX8_back_53 rfl ?_
      refine j_aload_n (q := 55) (i0 := 1) F rfl dX8_back_54 rfl ?_
      refine j_get (q := 58) (ci := 8) (q0 := 0) (kf := 28) (v := .ref eb) F inX8 rfl rfl rfl tw_686 rfl rfl dX8_back_55 rfl ?_
      refine j_iload_n (q := 59) (i0 := 0) F rfl dX8_back_58 rfl ?_
      refine j_iconst (q := 60) (v := nI 3) F (by decide) dX8_back_59 rfl ?_
      refine j_iadd (q := 61) (v := nI 3) F (by decide) dX8_back_60 rfl ?_
      refine j_iald (q := 62) (q0 := 2) (i := 3) (v := nI tu0) F rfl rfl (by omega) rfl (congrArg nI hI.2.2.1) dX8_back_61 rfl ?_
      refine j_put (q := 65) (ci := 8) (q0 := 0) (kf := 19) (v := .int (nI tu0)) (w' := [(e0, .inr (8, [.ref e1, .int (nI ln), .int (nI aa), .int (nI bg), .int (nI tk), .int (nI td), .int (nI rl), .int (nI rs), .int (nI rd), .ref e2, .ref e3, .ref e4, .int (nI n), .int (nI m), .ref e5, .ref e6, .ref e7, .int (nI be0), .int (nI sd0), .int (nI tu0), .int (nI fo), .ref e8, .ref e9, .int (nI kn), .int (nI tl), .int (nI rn), .ref ea, .long tr, .ref eb])), (e9, .inl (G.2.2.1, 40, .inl (nF pa))), (eb, .inl (G.2.2.1, 92, .inl (nF kp)))]) F inX8 tyX8_ok nmX8 rfl rfl rfl tw_677 rfl rfl rfl rfl rfl rfl dX8_back_62 rfl ?_
      refine j_aload_n (q := 66) (i0 := 1) F rfl dX8_back_65 rfl ?_
      refine j_aload_n (q := 67) (i0 := 1) F rfl dX8_back_66 rfl ?_
      refine j_get (q := 70) (ci := 8) (q0 := 0) (kf := 28) (v := .ref eb) F inX8 rfl rfl rfl tw_686 rfl rfl dX8_back_67 rfl ?_
      refine j_iload_n (q := 71) (i0 := 0) F rfl dX8_back_70 rfl ?_
      refine j_iconst (q := 72) (v := nI 4) F (by decide) dX8_back_71 rfl ?_
      refine j_iadd (q := 73) (v := nI 4) F (by decide) dX8_back_72 rfl ?_
      refine j_iald (q := 74) (q0 := 2) (i := 4) (v := nI fo0) F rfl rfl (by omega) rfl (congrArg nI hI.2.2.2.1) dX8_back_73 rfl ?_
      refine j_put (q := 77) (ci := 8) (q0 := 0) (kf := 20) (v := .int (nI fo0)) (w' := [(e0, .inr (8, [.ref e1, .int (nI ln), .int (nI aa), .int (nI bg), .int (nI tk), .int (nI td), .int (nI rl), .int (nI rs), .int (nI rd), .ref e2, .ref e3, .ref e4, .int (nI n), .int (nI m), .ref e5, .ref e6, .ref e7, .int (nI be0), .int (nI sd0), .int (nI tu0), .int (nI fo0), .ref e8, .ref e9, .int (nI kn), .int (nI tl), .int (nI rn), .ref ea, .long tr, .ref eb])), (e9, .inl (G.2.2.1, 40, .inl (nF pa))), (eb, .inl (G.2.2.1, 92, .inl (nF kp)))]) F inX8 tyX8_ok nmX8 rfl rfl rfl tw_678 rfl rfl rfl rfl rfl rfl dX8_back_74 rfl ?_
      refine j_aload_n (q := 78) (i0 := 1) F rfl dX8_back_77 rfl ?_
      refine j_aload_n (q := 79) (i0 := 1) F rfl dX8_back_78 rfl ?_
      refine j_get (q := 82) (ci := 8) (q0 := 0) (kf := 28) (v := .ref eb) F inX8 rfl rfl rfl tw_686 rfl rfl dX8_back_79 rfl ?_
      refine j_iload_n (q := 83) (i0 := 0) F rfl dX8_back_82 rfl ?_
      refine j_iconst (q := 84) (v := nI 5) F (by decide) dX8_back_83 rfl ?_
      refine j_iadd (q := 85) (v := nI 5) F (by decide) dX8_back_84 rfl ?_
      refine j_iald (q := 86) (q0 := 2) (i := 5) (v := nI kn0) F rfl rfl (by omega) rfl (congrArg nI hI.2.2.2.2.1) dX8_back_85 rfl ?_
      refine j_put (q := 89) (ci := 8) (q0 := 0) (kf := 23) (v := .int (nI kn0)) (w' := [(e0, .inr (8, [.ref e1, .int (nI ln), .int (nI aa), .int (nI bg), .int (nI tk), .int (nI td), .int (nI rl), .int (nI rs), .int (nI rd), .ref e2, .ref e3, .ref e4, .int (nI n), .int (nI m), .ref e5, .ref e6, .ref e7, .int (nI be0), .int (nI sd0), .int (nI tu0), .int (nI fo0), .ref e8, .ref e9, .int (nI kn0), .int (nI tl), .int (nI rn), .ref ea, .long tr, .ref eb])), (e9, .inl (G.2.2.1, 40, .inl (nF pa))), (eb, .inl (G.2.2.1, 92, .inl (nF kp)))]) F inX8 tyX8_ok nmX8 rfl rfl rfl tw_681 rfl rfl rfl rfl rfl rfl dX8_back_86 rfl ?_
      refine j_iconst (q := 90) (v := nI 0) F (by decide) dX8_back_89 rfl ?_
      refine j_istore_n (q := 91) (lv' := [(3, .int (nI 0)), (2, .int (nI 0)), (0, .ref e0), (1, .int (nI 0))]) F dX8_back_90 (by decide) rfl rfl ?_
      have lp3 : ∀ (fu : Nat) (k : Nat) (pa1 : Nat → Nat) (hk : k ≤ 40) (hka : ∀ j, j < k → pa1 j = pa0 j), (40 - k) < fu → Jw G X 4 0 0 91 [(0, .ref e0), (1, .int (nI 0)), (2, .int (nI 0)), (3, .int (nI k))] [] [(e0, .inr (8, [.ref e1, .int (nI ln), .int (nI aa), .int (nI bg), .int (nI tk), .int (nI td), .int (nI rl), .int (nI rs), .int (nI rd), .ref e2, .ref e3, .ref e4, .int (nI n), .int (nI m), .ref e5, .ref e6, .ref e7, .int (nI be0), .int (nI sd0), .int (nI tu0), .int (nI fo0), .ref e8, .ref e9, .int (nI kn0), .int (nI tl), .int (nI rn), .ref ea, .long tr, .ref eb])), (e9, .inl (G.2.2.1, 40, .inl (nF pa1))), (eb, .inl (G.2.2.1, 92, .inl (nF kp)))] := by
        intro fu
        induction fu with
        | zero => intro k pa1 hk hka hfu; exact absurd hfu (Nat.not_lt_zero _)
        | succ fu ih3 =>
          intro k pa1 hk hka hfu
          refine j_iload_n (q := 92) (i0 := 3) F rfl dX8_back_91 rfl ?_
          refine j_bipush (q := 94) (v := nI 40) F (by decide) dX8_back_92 rfl ?_
          refine j_icmp_ge (q := 97) (t := 120) F (Pp := 40 ≤ k) (nI_leI (by omega) (by omega)) dX8_back_94 rfl rfl (fun c4 => ?_) (fun c4 => ?_)
          · skip
            refine j_arr (q0 := 1) (g := nF pa0) (w' := [(e0, .inr (8, [.ref e1, .int (nI ln), .int (nI aa), .int (nI bg), .int (nI tk), .int (nI td), .int (nI rl), .int (nI rs), .int (nI rd), .ref e2, .ref e3, .ref e4, .int (nI n), .int (nI m), .ref e5, .ref e6, .ref e7, .int (nI be0), .int (nI sd0), .int (nI tu0), .int (nI fo0), .ref e8, .ref e9, .int (nI kn0), .int (nI tl), .int (nI rn), .ref ea, .long tr, .ref eb])), (e9, .inl (G.2.2.1, 40, .inl (nF pa0))), (eb, .inl (G.2.2.1, 92, .inl (nF kp)))]) rfl (fun i hi => congrArg nI (hka i (by omega))) rfl ?_
            refine j_aload_n (q := 121) (i0 := 0) F rfl dX8_back_120 rfl ?_
            refine j_get (q := 124) (ci := 8) (q0 := 0) (kf := 17) (v := .int (nI be0)) F inX8 rfl rfl rfl tw_675 rfl rfl dX8_back_121 rfl ?_
            exact j_iret (w2 := [(e0, .inr (8, [.ref e1, .int (nI ln), .int (nI aa), .int (nI bg), .int (nI tk), .int (nI td), .int (nI rl), .int (nI rs), .int (nI rd), .ref e2, .ref e3, .ref e4, .int (nI n), .int (nI m), .ref e5, .ref e6, .ref e7, .int (nI be0), .int (nI sd0), .int (nI tu0), .int (nI fo0), .ref e8, .ref e9, .int (nI kn0), .int (nI tl), .int (nI rn), .ref ea, .long tr, .ref eb])), (e9, .inl (G.2.2.1, 40, .inl (nF pa0))), (eb, .inl (G.2.2.1, 92, .inl (nF kp)))]) F R0 rfl [0, 1, 2] rfl rfl (⟨rfl, rfl⟩) dX8_back_124
          · skip
            refine j_aload_n (q := 98) (i0 := 0) F rfl dX8_back_97 rfl ?_
            refine j_get (q := 101) (ci := 8) (q0 := 0) (kf := 22) (v := .ref e9) F inX8 rfl rfl rfl tw_680 rfl rfl dX8_back_98 rfl ?_
            refine j_iload_n (q := 102) (i0 := 3) F rfl dX8_back_101 rfl ?_
            refine j_aload_n (q := 103) (i0 := 0) F rfl dX8_back_102 rfl ?_
            refine j_get (q := 106) (ci := 8) (q0 := 0) (kf := 28) (v := .ref eb) F inX8 rfl rfl rfl tw_686 rfl rfl dX8_back_103 rfl ?_
            refine j_iload_n (q := 107) (i0 := 2) F rfl dX8_back_106 rfl ?_
            refine j_bipush (q := 109) (v := nI 6) F (by decide) dX8_back_107 rfl ?_
            refine j_iadd (q := 110) (v := nI 6) F (by decide) dX8_back_109 rfl ?_
            refine j_iload_n (q := 111) (i0 := 3) F rfl dX8_back_110 rfl ?_
            refine j_iadd (q := 112) (v := nI (6 + k)) F (nI_add _ _) dX8_back_111 rfl ?_
            refine j_iald (q := 113) (q0 := 2) (i := (6 + k)) (v := nI (pa0 k)) F rfl rfl (by omega) rfl (congrArg nI (hI.2.2.2.2.2 k (by omega))) dX8_back_112 rfl ?_
            refine j_iast (q := 114) (q0 := 1) (i := k) (f2 := nF (va_up pa1 k (pa0 k))) (w' := [(e0, .inr (8, [.ref e1, .int (nI ln), .int (nI aa), .int (nI bg), .int (nI tk), .int (nI td), .int (nI rl), .int (nI rs), .int (nI rd), .ref e2, .ref e3, .ref e4, .int (nI n), .int (nI m), .ref e5, .ref e6, .ref e7, .int (nI be0), .int (nI sd0), .int (nI tu0), .int (nI fo0), .ref e8, .ref e9, .int (nI kn0), .int (nI tl), .int (nI rn), .ref ea, .long tr, .ref eb])), (e9, .inl (G.2.2.1, 40, .inl (nF (va_up pa1 k (pa0 k))))), (eb, .inl (G.2.2.1, 92, .inl (nF kp)))]) F rfl rfl (by omega) rfl (nF_up _ _ _) rfl dX8_back_113 rfl ?_
            refine j_iinc (q := 117) (i0 := 3) (v := nI (k + 1)) (lv' := [(3, .int (nI (k + 1))), (0, .ref e0), (1, .int (nI 0)), (2, .int (nI 0))]) F dX8_back_114 rfl (nI_add _ _) (by decide) rfl rfl ?_
            refine j_goto (t := 91) F dX8_back_117 rfl ?_
            refine j_lv [1, 2, 3, 0] (lv' := [(0, .ref e0), (1, .int (nI 0)), (2, .int (nI 0)), (3, .int (nI (k + 1)))]) rfl ?_
            exact ih3 (k + 1) _ (by omega) (fun j h => by rcases (show j < k ∨ j = k by omega) with z | z; rw [up_n _ _ (by omega)]; exact hka j z; subst z; rw [up_s]) (by omega)
      refine j_lv [2, 3, 1, 0] (lv' := [(0, .ref e0), (1, .int (nI 0)), (2, .int (nI 0)), (3, .int (nI 0))]) rfl ?_
      exact lp3 _ 0 _ (Nat.zero_le _) (fun j h => absurd h (Nat.not_lt_zero j)) (Nat.lt_succ_self _)
    · exact absurd cz (by omega)
  · skip
    exact absurd ⟨0, by decide, rfl⟩ hx

set_option maxHeartbeats 4000000 in
set_option maxRecDepth 100000 in
theorem c_X8_back0n (G : Gm) {e0 e1 e2 e3 e4 e5 e6 e7 e8 e9 ea eb : Nat} {ln aa bg tk td rl rs rd n m be sd tu fo kn tl rn : Nat} {pa kp : Nat → Nat}  {tr : Int64} (hf : kp 0 = 0) : Mg G yX8_back cX8_back 4 (some .int) ({ frames := 1, cells := 0, slots := 0, locals := 25 } : Room) 0 0 [.ref e0, .int (nI 0)] [(e0, .inr (8, [.ref e1, .int (nI ln), .int (nI aa), .int (nI bg), .int (nI tk), .int (nI td), .int (nI rl), .int (nI rs), .int (nI rd), .ref e2, .ref e3, .ref e4, .int (nI n), .int (nI m), .ref e5, .ref e6, .ref e7, .int (nI be), .int (nI sd), .int (nI tu), .int (nI fo), .ref e8, .ref e9, .int (nI kn), .int (nI tl), .int (nI rn), .ref ea, .long tr, .ref eb])), (e9, .inl (G.2.2.1, 40, .inl (nF pa))), (eb, .inl (G.2.2.1, 92, .inl (nF kp)))] (fun r w2 => r = some (.int (-2)) ∧ w2 = [(e0, .inr (8, [.ref e1, .int (nI ln), .int (nI aa), .int (nI bg), .int (nI tk), .int (nI td), .int (nI rl), .int (nI rs), .int (nI rd), .ref e2, .ref e3, .ref e4, .int (nI n), .int (nI m), .ref e5, .ref e6, .ref e7, .int (nI be), .int (nI sd), .int (nI tu), .int (nI fo), .ref e8, .ref e9, .int (nI kn), .int (nI tl), .int (nI rn), .ref ea, .long tr, .ref eb])), (e9, .inl (G.2.2.1, 40, .inl (nF pa))), (eb, .inl (G.2.2.1, 92, .inl (nF kp)))]) := by
  refine Mg.mk (lv := [(0, .ref e0), (1, .int (nI 0))]) (by decide) rfl rfl (fun X F R0 => ?_)
  refine j_iload_n (q := 1) (i0 := 1) F rfl dX8_back_0 rfl ?_
  refine j_i2l (q := 2) (v := Int32.toInt64 (nI 0)) F rfl dX8_back_1 rfl ?_
  refine j_lconst (q := 3) (v := 0) F (by decide) dX8_back_2 rfl ?_
  refine j_lconst (q := 4) (v := 1) F (by decide) dX8_back_3 rfl ?_
  refine j_callS (q := 7) (As := [.long (Int32.toInt64 (nI 0)), .long 0, .long 1]) (wr := [(e0, .inr (8, [.ref e1, .int (nI ln), .int (nI aa), .int (nI bg), .int (nI tk), .int (nI td), .int (nI rl), .int (nI rs), .int (nI rd), .ref e2, .ref e3, .ref e4, .int (nI n), .int (nI m), .ref e5, .ref e6, .ref e7, .int (nI be), .int (nI sd), .int (nI tu), .int (nI fo), .ref e8, .ref e9, .int (nI kn), .int (nI tl), .int (nI rn), .ref ea, .long tr, .ref eb])), (e9, .inl (G.2.2.1, 40, .inl (nF pa))), (eb, .inl (G.2.2.1, 92, .inl (nF kp)))]) (st := []) F (c_inR G (x := nI 0) (n := 2) rfl (by decide) rfl) kwX8_in tw_752 tw_751 ⟨Nat.le_of_ble_eq_true rfl, Nat.le_of_ble_eq_true rfl, rfl, rfl, Nat.le_of_ble_eq_true rfl, Nat.le_of_ble_eq_true rfl⟩ [] [0, 1, 2] rfl rfl rfl rfl rfl rfl rfl (Nat.le_of_ble_eq_true rfl) dX8_back_4 rfl ?_
  rintro r_ w_ ⟨rfl, (⟨rfl, hx⟩ | ⟨rfl, hx⟩)⟩
  · skip
    refine j_w (w' := [(e0, .inr (8, [.ref e1, .int (nI ln), .int (nI aa), .int (nI bg), .int (nI tk), .int (nI td), .int (nI rl), .int (nI rs), .int (nI rd), .ref e2, .ref e3, .ref e4, .int (nI n), .int (nI m), .ref e5, .ref e6, .ref e7, .int (nI be), .int (nI sd), .int (nI tu), .int (nI fo), .ref e8, .ref e9, .int (nI kn), .int (nI tl), .int (nI rn), .ref ea, .long tr, .ref eb])), (e9, .inl (G.2.2.1, 40, .inl (nF pa))), (eb, .inl (G.2.2.1, 92, .inl (nF kp)))]) [0, 1, 2] rfl rfl ?_
    show Jw G X _ 0 0 7 _ [.int (nI 1)] _
    refine j_if_ne (q := 10) (t := 12) F (cf (by decide)) dX8_back_7 rfl rfl (fun _ => ?_) (fun z => False.elim z)
    refine j_bipush (q := 14) (v := nI 46) F (by decide) dX8_back_12 rfl ?_
    refine j_iload_n (q := 15) (i0 := 1) F rfl dX8_back_14 rfl ?_
    refine j_imul (q := 16) (v := nI 0) F (by decide) dX8_back_15 rfl ?_
    refine j_istore_n (q := 17) (lv' := [(2, .int (nI 0)), (0, .ref e0), (1, .int (nI 0))]) F dX8_back_16 (by decide) rfl rfl ?_
    refine j_aload_n (q := 18) (i0 := 1) F rfl dX8_back_17 rfl ?_
    refine j_get (q := 21) (ci := 8) (q0 := 0) (kf := 28) (v := .ref eb) F inX8 rfl rfl rfl tw_686 rfl rfl dX8_back_18 rfl ?_
    refine j_iload_n (q := 22) (i0 := 0) F rfl dX8_back_21 rfl ?_
    refine j_iald (q := 23) (q0 := 2) (i := 0) (v := nI (kp 0)) F rfl rfl (by omega) rfl (rfl) dX8_back_22 rfl ?_
    refine j_if_ne (q := 26) (t := 29) F (Pp := kp 0 = 0) (nI_eq0 (by omega)) dX8_back_23 rfl rfl (fun cz => ?_) (fun cz => ?_)
    · exact absurd hf cz
    · skip
      refine j_bipush (q := 28) (v := (-2)) F (by decide) dX8_back_26 rfl ?_
      exact j_iret (w2 := [(e0, .inr (8, [.ref e1, .int (nI ln), .int (nI aa), .int (nI bg), .int (nI tk), .int (nI td), .int (nI rl), .int (nI rs), .int (nI rd), .ref e2, .ref e3, .ref e4, .int (nI n), .int (nI m), .ref e5, .ref e6, .ref e7, .int (nI be), .int (nI sd), .int (nI tu), .int (nI fo), .ref e8, .ref e9, .int (nI kn), .int (nI tl), .int (nI rn), .ref ea, .long tr, .ref eb])), (e9, .inl (G.2.2.1, 40, .inl (nF pa))), (eb, .inl (G.2.2.1, 92, .inl (nF kp)))]) F R0 rfl [0, 1, 2] rfl rfl (⟨rfl, rfl⟩) dX8_back_28
  · skip
    exact absurd ⟨0, by decide, rfl⟩ hx

set_option maxHeartbeats 4000000 in
set_option maxRecDepth 100000 in
theorem c_X8_keep1 (G : Gm) {e0 e1 e2 e3 e4 e5 e6 e7 e8 e9 ea eb : Nat} {ln aa bg tk td rl rs rd n m be sd tu fo kn tl rn : Nat} {pa kp : Nat → Nat}  {tr : Int64}  : Mg G yX8_keep cX8_keep 4 (some .int) ({ frames := 1, cells := 0, slots := 0, locals := 25 } : Room) 0 0 [.ref e0, .int (nI 1)] [(e0, .inr (8, [.ref e1, .int (nI ln), .int (nI aa), .int (nI bg), .int (nI tk), .int (nI td), .int (nI rl), .int (nI rs), .int (nI rd), .ref e2, .ref e3, .ref e4, .int (nI n), .int (nI m), .ref e5, .ref e6, .ref e7, .int (nI be), .int (nI sd), .int (nI tu), .int (nI fo), .ref e8, .ref e9, .int (nI kn), .int (nI tl), .int (nI rn), .ref ea, .long tr, .ref eb])), (e9, .inl (G.2.2.1, 40, .inl (nF pa))), (eb, .inl (G.2.2.1, 92, .inl (nF kp)))] (fun r w2 => ∃ kp2, KpSet 46 kp kp2 (be, sd, tu, fo, kn, pa) ∧ r = some (.int (nI be)) ∧ w2 = [(e0, .inr (8, [.ref e1, .int (nI ln), .int (nI aa), .int (nI bg), .int (nI tk), .int (nI td), .int (nI rl), .int (nI rs), .int (nI rd), .ref e2, .ref e3, .ref e4, .int (nI n), .int (nI m), .ref e5, .ref e6, .ref e7, .int (nI be), .int (nI sd), .int (nI tu), .int (nI fo), .ref e8, .ref e9, .int (nI kn), .int (nI tl), .int (nI rn), .ref ea, .long tr, .ref eb])), (e9, .inl (G.2.2.1, 40, .inl (nF pa))), (eb, .inl (G.2.2.1, 92, .inl (nF kp2)))]) := by
  refine Mg.mk (lv := [(0, .ref e0), (1, .int (nI 1))]) (by decide) rfl rfl (fun X F R0 => ?_)
  refine j_iload_n (q := 1) (i0 := 1) F rfl dX8_keep_0 rfl ?_
  refine j_i2l (q := 2) (v := Int32.toInt64 (nI 1)) F rfl dX8_keep_1 rfl ?_
  refine j_lconst (q := 3) (v := 0) F (by decide) dX8_keep_2 rfl ?_
  refine j_lconst (q := 4) (v := 1) F (by decide) dX8_keep_3 rfl ?_
  refine j_callS (q := 7) (As := [.long (Int32.toInt64 (nI 1)), .long 0, .long 1]) (wr := [(e0, .inr (8, [.ref e1, .int (nI ln), .int (nI aa), .int (nI bg), .int (nI tk), .int (nI td), .int (nI rl), .int (nI rs), .int (nI rd), .ref e2, .ref e3, .ref e4, .int (nI n), .int (nI m), .ref e5, .ref e6, .ref e7, .int (nI be), .int (nI sd), .int (nI tu), .int (nI fo), .ref e8, .ref e9, .int (nI kn), .int (nI tl), .int (nI rn), .ref ea, .long tr, .ref eb])), (e9, .inl (G.2.2.1, 40, .inl (nF pa))), (eb, .inl (G.2.2.1, 92, .inl (nF kp)))]) (st := []) F (c_inR G (x := nI 1) (n := 2) rfl (by decide) rfl) kwX8_in tw_752 tw_751 ⟨Nat.le_of_ble_eq_true rfl, Nat.le_of_ble_eq_true rfl, rfl, rfl, Nat.le_of_ble_eq_true rfl, Nat.le_of_ble_eq_true rfl⟩ [] [0, 1, 2] rfl rfl rfl rfl rfl rfl rfl (Nat.le_of_ble_eq_true rfl) dX8_keep_4 rfl ?_
  rintro r_ w_ ⟨rfl, (⟨rfl, hx⟩ | ⟨rfl, hx⟩)⟩
  · skip
    refine j_w (w' := [(e0, .inr (8, [.ref e1, .int (nI ln), .int (nI aa), .int (nI bg), .int (nI tk), .int (nI td), .int (nI rl), .int (nI rs), .int (nI rd), .ref e2, .ref e3, .ref e4, .int (nI n), .int (nI m), .ref e5, .ref e6, .ref e7, .int (nI be), .int (nI sd), .int (nI tu), .int (nI fo), .ref e8, .ref e9, .int (nI kn), .int (nI tl), .int (nI rn), .ref ea, .long tr, .ref eb])), (e9, .inl (G.2.2.1, 40, .inl (nF pa))), (eb, .inl (G.2.2.1, 92, .inl (nF kp)))]) [0, 1, 2] rfl rfl ?_
    show Jw G X _ 0 0 7 _ [.int (nI 1)] _
    refine j_if_ne (q := 10) (t := 12) F (cf (by decide)) dX8_keep_7 rfl rfl (fun _ => ?_) (fun z => False.elim z)
    refine j_bipush (q := 14) (v := nI 46) F (by decide) dX8_keep_12 rfl ?_
    refine j_iload_n (q := 15) (i0 := 1) F rfl dX8_keep_14 rfl ?_
    refine j_imul (q := 16) (v := nI 46) F (by decide) dX8_keep_15 rfl ?_
    refine j_istore_n (q := 17) (lv' := [(2, .int (nI 46)), (0, .ref e0), (1, .int (nI 1))]) F dX8_keep_16 (by decide) rfl rfl ?_
    refine j_aload_n (q := 18) (i0 := 1) F rfl dX8_keep_17 rfl ?_
    refine j_get (q := 21) (ci := 8) (q0 := 0) (kf := 28) (v := .ref eb) F inX8 rfl rfl rfl tw_686 rfl rfl dX8_keep_18 rfl ?_
    refine j_iload_n (q := 22) (i0 := 0) F rfl dX8_keep_21 rfl ?_
    refine j_iconst (q := 23) (v := nI 1) F (by decide) dX8_keep_22 rfl ?_
    refine j_iast (q := 24) (q0 := 2) (i := 46) (f2 := nF (va_up kp 46 1)) (w' := [(e0, .inr (8, [.ref e1, .int (nI ln), .int (nI aa), .int (nI bg), .int (nI tk), .int (nI td), .int (nI rl), .int (nI rs), .int (nI rd), .ref e2, .ref e3, .ref e4, .int (nI n), .int (nI m), .ref e5, .ref e6, .ref e7, .int (nI be), .int (nI sd), .int (nI tu), .int (nI fo), .ref e8, .ref e9, .int (nI kn), .int (nI tl), .int (nI rn), .ref ea, .long tr, .ref eb])), (e9, .inl (G.2.2.1, 40, .inl (nF pa))), (eb, .inl (G.2.2.1, 92, .inl (nF (va_up kp 46 1))))]) F rfl rfl (by omega) rfl (nF_up _ _ _) rfl dX8_keep_23 rfl ?_
    refine j_aload_n (q := 25) (i0 := 1) F rfl dX8_keep_24 rfl ?_
    refine j_get (q := 28) (ci := 8) (q0 := 0) (kf := 28) (v := .ref eb) F inX8 rfl rfl rfl tw_686 rfl rfl dX8_keep_25 rfl ?_
    refine j_iload_n (q := 29) (i0 := 0) F rfl dX8_keep_28 rfl ?_
    refine j_iconst (q := 30) (v := nI 1) F (by decide) dX8_keep_29 rfl ?_
    refine j_iadd (q := 31) (v := nI 47) F (by decide) dX8_keep_30 rfl ?_
    refine j_aload_n (q := 32) (i0 := 1) F rfl dX8_keep_31 rfl ?_
    refine j_get (q := 35) (ci := 8) (q0 := 0) (kf := 17) (v := .int (nI be)) F inX8 rfl rfl rfl tw_675 rfl rfl dX8_keep_32 rfl ?_
    refine j_iast (q := 36) (q0 := 2) (i := 47) (f2 := nF (va_up (va_up kp 46 1) 47 be)) (w' := [(e0, .inr (8, [.ref e1, .int (nI ln), .int (nI aa), .int (nI bg), .int (nI tk), .int (nI td), .int (nI rl), .int (nI rs), .int (nI rd), .ref e2, .ref e3, .ref e4, .int (nI n), .int (nI m), .ref e5, .ref e6, .ref e7, .int (nI be), .int (nI sd), .int (nI tu), .int (nI fo), .ref e8, .ref e9, .int (nI kn), .int (nI tl), .int (nI rn), .ref ea, .long tr, .ref eb])), (e9, .inl (G.2.2.1, 40, .inl (nF pa))), (eb, .inl (G.2.2.1, 92, .inl (nF (va_up (va_up kp 46 1) 47 be))))]) F rfl rfl (by omega) rfl (nF_up _ _ _) rfl dX8_keep_35 rfl ?_
    refine j_aload_n (q := 37) (i0 := 1) F rfl dX8_keep_36 rfl ?_
    refine j_get (q := 40) (ci := 8) (q0 := 0) (kf := 28) (v := .ref eb) F inX8 rfl rfl rfl tw_686 rfl rfl dX8_keep_37 rfl ?_
    refine j_iload_n (q := 41) (i0 := 0) F rfl dX8_keep_40 rfl ?_
    refine j_iconst (q := 42) (v := nI 2) F (by decide) dX8_keep_41 rfl ?_
    refine j_iadd (q := 43) (v := nI 48) F (by decide) dX8_keep_42 rfl ?_
    refine j_aload_n (q := 44) (i0 := 1) F rfl dX8_keep_43 rfl ?_
    refine j_get (q := 47) (ci := 8) (q0 := 0) (kf := 18) (v := .int (nI sd)) F inX8 rfl rfl rfl tw_676 rfl rfl dX8_keep_44 rfl ?_
    refine j_iast (q := 48) (q0 := 2) (i := 48) (f2 := nF (va_up (va_up (va_up kp 46 1) 47 be) 48 sd)) (w' := [(e0, .inr (8, [.ref e1, .int (nI ln), .int (nI aa), .int (nI bg), .int (nI tk), .int (nI td), .int (nI rl), .int (nI rs), .int (nI rd), .ref e2, .ref e3, .ref e4, .int (nI n), .int (nI m), .ref e5, .ref e6, .ref e7, .int (nI be), .int (nI sd), .int (nI tu), .int (nI fo), .ref e8, .ref e9, .int (nI kn), .int (nI tl), .int (nI rn), .ref ea, .long tr, .ref eb])), (e9, .inl (G.2.2.1, 40, .inl (nF pa))), (eb, .inl (G.2.2.1, 92, .inl (nF (va_up (va_up (va_up kp 46 1) 47 be) 48 sd))))]) F rfl rfl (by omega) rfl (nF_up _ _ _) rfl dX8_keep_47 rfl ?_
    refine j_aload_n (q := 49) (i0 := 1) F rfl dX8_keep_48 rfl ?_
    refine j_get (q := 52) (ci := 8) (q0 := 0) (kf := 28) (v := .ref eb) F inX8 rfl rfl rfl tw_686 rfl rfl dX8_keep_49 rfl ?_
    refine j_iload_n (q := 53) (i0 := 0) F rfl dX8_keep_52 rfl ?_
    refine j_iconst (q := 54) (v := nI 3) F (by decide) dX8_keep_53 rfl ?_
    refine j_iadd (q := 55) (v := nI 49) F (by decide) dX8_keep_54 rfl ?_
    refine j_aload_n (q := 56) (i0 := 1) F rfl dX8_keep_55 rfl ?_
    refine j_get (q := 59) (ci := 8) (q0 := 0) (kf := 19) (v := .int (nI tu)) F inX8 rfl rfl rfl tw_677 rfl rfl dX8_keep_56 rfl ?_
    refine j_iast (q := 60) (q0 := 2) (i := 49) (f2 := nF (va_up (va_up (va_up (va_up kp 46 1) 47 be) 48 sd) 49 tu)) (w' := [(e0, .inr (8, [.ref e1, .int (nI ln), .int (nI aa), .int (nI bg), .int (nI tk), .int (nI td), .int (nI rl), .int (nI rs), .int (nI rd), .ref e2, .ref e3, .ref e4, .int (nI n), .int (nI m), .ref e5, .ref e6, .ref e7, .int (nI be), .int (nI sd), .int (nI tu), .int (nI fo), .ref e8, .ref e9, .int (nI kn), .int (nI tl), .int (nI rn), .ref ea, .long tr, .ref eb])), (e9, .inl (G.2.2.1, 40, .inl (nF pa))), (eb, .inl (G.2.2.1, 92, .inl (nF (va_up (va_up (va_up (va_up kp 46 1) 47 be) 48 sd) 49 tu))))]) F rfl rfl (by omega) rfl (nF_up _ _ _) rfl dX8_keep_59 rfl ?_
    refine j_aload_n (q := 61) (i0 := 1) F rfl dX8_keep_60 rfl ?_
    refine j_get (q := 64) (ci := 8) (q0 := 0) (kf := 28) (v := .ref eb) F inX8 rfl rfl rfl tw_686 rfl rfl dX8_keep_61 rfl ?_
    refine j_iload_n (q := 65) (i0 := 0) F rfl dX8_keep_64 rfl ?_
    refine j_iconst (q := 66) (v := nI 4) F (by decide) dX8_keep_65 rfl ?_
    refine j_iadd (q := 67) (v := nI 50) F (by decide) dX8_keep_66 rfl ?_
    refine j_aload_n (q := 68) (i0 := 1) F rfl dX8_keep_67 rfl ?_
    refine j_get (q := 71) (ci := 8) (q0 := 0) (kf := 20) (v := .int (nI fo)) F inX8 rfl rfl rfl tw_678 rfl rfl dX8_keep_68 rfl ?_
    refine j_iast (q := 72) (q0 := 2) (i := 50) (f2 := nF (va_up (va_up (va_up (va_up (va_up kp 46 1) 47 be) 48 sd) 49 tu) 50 fo)) (w' := [(e0, .inr (8, [.ref e1, .int (nI ln), .int (nI aa), .int (nI bg), .int (nI tk), .int (nI td), .int (nI rl), .int (nI rs), .int (nI rd), .ref e2, .ref e3, .ref e4, .int (nI n), .int (nI m), .ref e5, .ref e6, .ref e7, .int (nI be), .int (nI sd), .int (nI tu), .int (nI fo), .ref e8, .ref e9, .int (nI kn), .int (nI tl), .int (nI rn), .ref ea, .long tr, .ref eb])), (e9, .inl (G.2.2.1, 40, .inl (nF pa))), (eb, .inl (G.2.2.1, 92, .inl (nF (va_up (va_up (va_up (va_up (va_up kp 46 1) 47 be) 48 sd) 49 tu) 50 fo))))]) F rfl rfl (by omega) rfl (nF_up _ _ _) rfl dX8_keep_71 rfl ?_
    refine j_aload_n (q := 73) (i0 := 1) F rfl dX8_keep_72 rfl ?_
    refine j_get (q := 76) (ci := 8) (q0 := 0) (kf := 28) (v := .ref eb) F inX8 rfl rfl rfl tw_686 rfl rfl dX8_keep_73 rfl ?_
    refine j_iload_n (q := 77) (i0 := 0) F rfl dX8_keep_76 rfl ?_
    refine j_iconst (q := 78) (v := nI 5) F (by decide) dX8_keep_77 rfl ?_
    refine j_iadd (q := 79) (v := nI 51) F (by decide) dX8_keep_78 rfl ?_
    refine j_aload_n (q := 80) (i0 := 1) F rfl dX8_keep_79 rfl ?_
    refine j_get (q := 83) (ci := 8) (q0 := 0) (kf := 23) (v := .int (nI kn)) F inX8 rfl rfl rfl tw_681 rfl rfl dX8_keep_80 rfl ?_
    refine j_iast (q := 84) (q0 := 2) (i := 51) (f2 := nF (va_up (va_up (va_up (va_up (va_up (va_up kp 46 1) 47 be) 48 sd) 49 tu) 50 fo) 51 kn)) (w' := [(e0, .inr (8, [.ref e1, .int (nI ln), .int (nI aa), .int (nI bg), .int (nI tk), .int (nI td), .int (nI rl), .int (nI rs), .int (nI rd), .ref e2, .ref e3, .ref e4, .int (nI n), .int (nI m), .ref e5, .ref e6, .ref e7, .int (nI be), .int (nI sd), .int (nI tu), .int (nI fo), .ref e8, .ref e9, .int (nI kn), .int (nI tl), .int (nI rn), .ref ea, .long tr, .ref eb])), (e9, .inl (G.2.2.1, 40, .inl (nF pa))), (eb, .inl (G.2.2.1, 92, .inl (nF (va_up (va_up (va_up (va_up (va_up (va_up kp 46 1) 47 be) 48 sd) 49 tu) 50 fo) 51 kn))))]) F rfl rfl (by omega) rfl (nF_up _ _ _) rfl dX8_keep_83 rfl ?_
    refine j_iconst (q := 85) (v := nI 0) F (by decide) dX8_keep_84 rfl ?_
    refine j_istore_n (q := 86) (lv' := [(3, .int (nI 0)), (2, .int (nI 46)), (0, .ref e0), (1, .int (nI 1))]) F dX8_keep_85 (by decide) rfl rfl ?_
    have lp2 : ∀ (fu : Nat) (k : Nat) (kp1 : Nat → Nat) (hk : k ≤ 40) (hka : ∀ j, j < k → kp1 (52 + j) = pa j) (hkb : ∀ j, (j < 52 ∨ 92 ≤ j) → kp1 j = (va_up (va_up (va_up (va_up (va_up (va_up kp 46 1) 47 be) 48 sd) 49 tu) 50 fo) 51 kn) j), (40 - k) < fu → Jw G X 4 0 0 86 [(0, .ref e0), (1, .int (nI 1)), (2, .int (nI 46)), (3, .int (nI k))] [] [(e0, .inr (8, [.ref e1, .int (nI ln), .int (nI aa), .int (nI bg), .int (nI tk), .int (nI td), .int (nI rl), .int (nI rs), .int (nI rd), .ref e2, .ref e3, .ref e4, .int (nI n), .int (nI m), .ref e5, .ref e6, .ref e7, .int (nI be), .int (nI sd), .int (nI tu), .int (nI fo), .ref e8, .ref e9, .int (nI kn), .int (nI tl), .int (nI rn), .ref ea, .long tr, .ref eb])), (e9, .inl (G.2.2.1, 40, .inl (nF pa))), (eb, .inl (G.2.2.1, 92, .inl (nF kp1)))] := by
      intro fu
      induction fu with
      | zero => intro k kp1 hk hka hkb hfu; exact absurd hfu (Nat.not_lt_zero _)
      | succ fu ih2 =>
        intro k kp1 hk hka hkb hfu
        refine j_iload_n (q := 87) (i0 := 3) F rfl dX8_keep_86 rfl ?_
        refine j_bipush (q := 89) (v := nI 40) F (by decide) dX8_keep_87 rfl ?_
        refine j_icmp_ge (q := 92) (t := 115) F (Pp := 40 ≤ k) (nI_leI (by omega) (by omega)) dX8_keep_89 rfl rfl (fun c3 => ?_) (fun c3 => ?_)
        · skip
          refine j_aload_n (q := 116) (i0 := 0) F rfl dX8_keep_115 rfl ?_
          refine j_get (q := 119) (ci := 8) (q0 := 0) (kf := 17) (v := .int (nI be)) F inX8 rfl rfl rfl tw_675 rfl rfl dX8_keep_116 rfl ?_
          exact j_iret (w2 := [(e0, .inr (8, [.ref e1, .int (nI ln), .int (nI aa), .int (nI bg), .int (nI tk), .int (nI td), .int (nI rl), .int (nI rs), .int (nI rd), .ref e2, .ref e3, .ref e4, .int (nI n), .int (nI m), .ref e5, .ref e6, .ref e7, .int (nI be), .int (nI sd), .int (nI tu), .int (nI fo), .ref e8, .ref e9, .int (nI kn), .int (nI tl), .int (nI rn), .ref ea, .long tr, .ref eb])), (e9, .inl (G.2.2.1, 40, .inl (nF pa))), (eb, .inl (G.2.2.1, 92, .inl (nF kp1)))]) F R0 rfl [0, 1, 2] rfl rfl (⟨_, ⟨by rw [hkb 46 (by omega), up_n _ _ (by omega), up_n _ _ (by omega), up_n _ _ (by omega), up_n _ _ (by omega), up_n _ _ (by omega), up_s], by rw [hkb 47 (by omega), up_n _ _ (by omega), up_n _ _ (by omega), up_n _ _ (by omega), up_n _ _ (by omega), up_s], by rw [hkb 48 (by omega), up_n _ _ (by omega), up_n _ _ (by omega), up_n _ _ (by omega), up_s], by rw [hkb 49 (by omega), up_n _ _ (by omega), up_n _ _ (by omega), up_s], by rw [hkb 50 (by omega), up_n _ _ (by omega), up_s], by rw [hkb 51 (by omega), up_s], fun j h => by rw [show 46 + 6 + j = 52 + j by omega]; exact hka j (by omega), fun j h => by rw [hkb j (by omega), up_n _ _ (by omega), up_n _ _ (by omega), up_n _ _ (by omega), up_n _ _ (by omega), up_n _ _ (by omega), up_n _ _ (by omega)]⟩, rfl, rfl⟩) dX8_keep_119
        · skip
          refine j_aload_n (q := 93) (i0 := 0) F rfl dX8_keep_92 rfl ?_
          refine j_get (q := 96) (ci := 8) (q0 := 0) (kf := 28) (v := .ref eb) F inX8 rfl rfl rfl tw_686 rfl rfl dX8_keep_93 rfl ?_
          refine j_iload_n (q := 97) (i0 := 2) F rfl dX8_keep_96 rfl ?_
          refine j_bipush (q := 99) (v := nI 6) F (by decide) dX8_keep_97 rfl ?_
          refine j_iadd (q := 100) (v := nI 52) F (by decide) dX8_keep_99 rfl ?_
          refine j_iload_n (q := 101) (i0 := 3) F rfl dX8_keep_100 rfl ?_
          refine j_iadd (q := 102) (v := nI (52 + k)) F (nI_add _ _) dX8_keep_101 rfl ?_
          refine j_aload_n (q := 103) (i0 := 0) F rfl dX8_keep_102 rfl ?_
          refine j_get (q := 106) (ci := 8) (q0 := 0) (kf := 22) (v := .ref e9) F inX8 rfl rfl rfl tw_680 rfl rfl dX8_keep_103 rfl ?_
          refine j_iload_n (q := 107) (i0 := 3) F rfl dX8_keep_106 rfl ?_
          refine j_iald (q := 108) (q0 := 1) (i := k) (v := nI (pa k)) F rfl rfl (by omega) rfl (rfl) dX8_keep_107 rfl ?_
          refine j_iast (q := 109) (q0 := 2) (i := (52 + k)) (f2 := nF (va_up kp1 (52 + k) (pa k))) (w' := [(e0, .inr (8, [.ref e1, .int (nI ln), .int (nI aa), .int (nI bg), .int (nI tk), .int (nI td), .int (nI rl), .int (nI rs), .int (nI rd), .ref e2, .ref e3, .ref e4, .int (nI n), .int (nI m), .ref e5, .ref e6, .ref e7, .int (nI be), .int (nI sd), .int (nI tu), .int (nI fo), .ref e8, .ref e9, .int (nI kn), .int (nI tl), .int (nI rn), .ref ea, .long tr, .ref eb])), (e9, .inl (G.2.2.1, 40, .inl (nF pa))), (eb, .inl (G.2.2.1, 92, .inl (nF (va_up kp1 (52 + k) (pa k)))))]) F rfl rfl (by omega) rfl (nF_up _ _ _) rfl dX8_keep_108 rfl ?_
          refine j_iinc (q := 112) (i0 := 3) (v := nI (k + 1)) (lv' := [(3, .int (nI (k + 1))), (0, .ref e0), (1, .int (nI 1)), (2, .int (nI 46))]) F dX8_keep_109 rfl (nI_add _ _) (by decide) rfl rfl ?_
          refine j_goto (t := 86) F dX8_keep_112 rfl ?_
          refine j_lv [1, 2, 3, 0] (lv' := [(0, .ref e0), (1, .int (nI 1)), (2, .int (nI 46)), (3, .int (nI (k + 1)))]) rfl ?_
          exact ih2 (k + 1) _ (by omega) (fun j h => by rcases (show j < k ∨ j = k by omega) with z | z; rw [up_n _ _ (by omega)]; exact hka j z; subst z; rw [up_s]) (fun j h => by rw [up_n _ _ (by omega)]; exact hkb j h) (by omega)
    refine j_lv [2, 3, 1, 0] (lv' := [(0, .ref e0), (1, .int (nI 1)), (2, .int (nI 46)), (3, .int (nI 0))]) rfl ?_
    exact lp2 _ 0 _ (Nat.zero_le _) (fun j h => absurd h (Nat.not_lt_zero j)) (fun j _ => rfl) (Nat.lt_succ_self _)
  · skip
    exact absurd ⟨1, by decide, rfl⟩ hx

set_option maxHeartbeats 4000000 in
set_option maxRecDepth 100000 in
theorem c_X8_back1 (G : Gm) {e0 e1 e2 e3 e4 e5 e6 e7 e8 e9 ea eb : Nat} {ln aa bg tk td rl rs rd n m be sd tu fo kn tl rn : Nat} {pa kp : Nat → Nat}  {tr : Int64} {be0 sd0 tu0 fo0 kn0 : Nat} {pa0 : Nat → Nat} (hf : kp 46 = 1) (hI : KpIs 46 kp (be0, sd0, tu0, fo0, kn0, pa0)) : Mg G yX8_back cX8_back 4 (some .int) ({ frames := 1, cells := 0, slots := 0, locals := 25 } : Room) 0 0 [.ref e0, .int (nI 1)] [(e0, .inr (8, [.ref e1, .int (nI ln), .int (nI aa), .int (nI bg), .int (nI tk), .int (nI td), .int (nI rl), .int (nI rs), .int (nI rd), .ref e2, .ref e3, .ref e4, .int (nI n), .int (nI m), .ref e5, .ref e6, .ref e7, .int (nI be), .int (nI sd), .int (nI tu), .int (nI fo), .ref e8, .ref e9, .int (nI kn), .int (nI tl), .int (nI rn), .ref ea, .long tr, .ref eb])), (e9, .inl (G.2.2.1, 40, .inl (nF pa))), (eb, .inl (G.2.2.1, 92, .inl (nF kp)))] (fun r w2 => r = some (.int (nI be0)) ∧ w2 = [(e0, .inr (8, [.ref e1, .int (nI ln), .int (nI aa), .int (nI bg), .int (nI tk), .int (nI td), .int (nI rl), .int (nI rs), .int (nI rd), .ref e2, .ref e3, .ref e4, .int (nI n), .int (nI m), .ref e5, .ref e6, .ref e7, .int (nI be0), .int (nI sd0), .int (nI tu0), .int (nI fo0), .ref e8, .ref e9, .int (nI kn0), .int (nI tl), .int (nI rn), .ref ea, .long tr, .ref eb])), (e9, .inl (G.2.2.1, 40, .inl (nF pa0))), (eb, .inl (G.2.2.1, 92, .inl (nF kp)))]) := by
  refine Mg.mk (lv := [(0, .ref e0), (1, .int (nI 1))]) (by decide) rfl rfl (fun X F R0 => ?_)
  refine j_iload_n (q := 1) (i0 := 1) F rfl dX8_back_0 rfl ?_
  refine j_i2l (q := 2) (v := Int32.toInt64 (nI 1)) F rfl dX8_back_1 rfl ?_
  refine j_lconst (q := 3) (v := 0) F (by decide) dX8_back_2 rfl ?_
  refine j_lconst (q := 4) (v := 1) F (by decide) dX8_back_3 rfl ?_
  refine j_callS (q := 7) (As := [.long (Int32.toInt64 (nI 1)), .long 0, .long 1]) (wr := [(e0, .inr (8, [.ref e1, .int (nI ln), .int (nI aa), .int (nI bg), .int (nI tk), .int (nI td), .int (nI rl), .int (nI rs), .int (nI rd), .ref e2, .ref e3, .ref e4, .int (nI n), .int (nI m), .ref e5, .ref e6, .ref e7, .int (nI be), .int (nI sd), .int (nI tu), .int (nI fo), .ref e8, .ref e9, .int (nI kn), .int (nI tl), .int (nI rn), .ref ea, .long tr, .ref eb])), (e9, .inl (G.2.2.1, 40, .inl (nF pa))), (eb, .inl (G.2.2.1, 92, .inl (nF kp)))]) (st := []) F (c_inR G (x := nI 1) (n := 2) rfl (by decide) rfl) kwX8_in tw_752 tw_751 ⟨Nat.le_of_ble_eq_true rfl, Nat.le_of_ble_eq_true rfl, rfl, rfl, Nat.le_of_ble_eq_true rfl, Nat.le_of_ble_eq_true rfl⟩ [] [0, 1, 2] rfl rfl rfl rfl rfl rfl rfl (Nat.le_of_ble_eq_true rfl) dX8_back_4 rfl ?_
  rintro r_ w_ ⟨rfl, (⟨rfl, hx⟩ | ⟨rfl, hx⟩)⟩
  · skip
    refine j_w (w' := [(e0, .inr (8, [.ref e1, .int (nI ln), .int (nI aa), .int (nI bg), .int (nI tk), .int (nI td), .int (nI rl), .int (nI rs), .int (nI rd), .ref e2, .ref e3, .ref e4, .int (nI n), .int (nI m), .ref e5, .ref e6, .ref e7, .int (nI be), .int (nI sd), .int (nI tu), .int (nI fo), .ref e8, .ref e9, .int (nI kn), .int (nI tl), .int (nI rn), .ref ea, .long tr, .ref eb])), (e9, .inl (G.2.2.1, 40, .inl (nF pa))), (eb, .inl (G.2.2.1, 92, .inl (nF kp)))]) [0, 1, 2] rfl rfl ?_
    show Jw G X _ 0 0 7 _ [.int (nI 1)] _
    refine j_if_ne (q := 10) (t := 12) F (cf (by decide)) dX8_back_7 rfl rfl (fun _ => ?_) (fun z => False.elim z)
    refine j_bipush (q := 14) (v := nI 46) F (by decide) dX8_back_12 rfl ?_
    refine j_iload_n (q := 15) (i0 := 1) F rfl dX8_back_14 rfl ?_
    refine j_imul (q := 16) (v := nI 46) F (by decide) dX8_back_15 rfl ?_
    refine j_istore_n (q := 17) (lv' := [(2, .int (nI 46)), (0, .ref e0), (1, .int (nI 1))]) F dX8_back_16 (by decide) rfl rfl ?_
    refine j_aload_n (q := 18) (i0 := 1) F rfl dX8_back_17 rfl ?_
    refine j_get (q := 21) (ci := 8) (q0 := 0) (kf := 28) (v := .ref eb) F inX8 rfl rfl rfl tw_686 rfl rfl dX8_back_18 rfl ?_
    refine j_iload_n (q := 22) (i0 := 0) F rfl dX8_back_21 rfl ?_
    refine j_iald (q := 23) (q0 := 2) (i := 46) (v := nI (kp 46)) F rfl rfl (by omega) rfl (rfl) dX8_back_22 rfl ?_
    refine j_if_ne (q := 26) (t := 29) F (Pp := kp 46 = 0) (nI_eq0 (by omega)) dX8_back_23 rfl rfl (fun cz => ?_) (fun cz => ?_)
    · skip
      refine j_aload_n (q := 30) (i0 := 1) F rfl dX8_back_29 rfl ?_
      refine j_aload_n (q := 31) (i0 := 1) F rfl dX8_back_30 rfl ?_
      refine j_get (q := 34) (ci := 8) (q0 := 0) (kf := 28) (v := .ref eb) F inX8 rfl rfl rfl tw_686 rfl rfl dX8_back_31 rfl ?_
      refine j_iload_n (q := 35) (i0 := 0) F rfl dX8_back_34 rfl ?_
      refine j_iconst (q := 36) (v := nI 1) F (by decide) dX8_back_35 rfl ?_
      refine j_iadd (q := 37) (v := nI 47) F (by decide) dX8_back_36 rfl ?_
      refine j_iald (q := 38) (q0 := 2) (i := 47) (v := nI be0) F rfl rfl (by omega) rfl (congrArg nI hI.1) dX8_back_37 rfl ?_
      refine j_put (q := 41) (ci := 8) (q0 := 0) (kf := 17) (v := .int (nI be0)) (w' := [(e0, .inr (8, [.ref e1, .int (nI ln), .int (nI aa), .int (nI bg), .int (nI tk), .int (nI td), .int (nI rl), .int (nI rs), .int (nI rd), .ref e2, .ref e3, .ref e4, .int (nI n), .int (nI m), .ref e5, .ref e6, .ref e7, .int (nI be0), .int (nI sd), .int (nI tu), .int (nI fo), .ref e8, .ref e9, .int (nI kn), .int (nI tl), .int (nI rn), .ref ea, .long tr, .ref eb])), (e9, .inl (G.2.2.1, 40, .inl (nF pa))), (eb, .inl (G.2.2.1, 92, .inl (nF kp)))]) F inX8 tyX8_ok nmX8 rfl rfl rfl tw_675 rfl rfl rfl rfl rfl rfl dX8_back_38 rfl ?_
      refine j_aload_n (q := 42) (i0 := 1) F rfl dX8_back_41 rfl ?_
      refine j_aload_n (q := 43) (i0 := 1) F rfl dX8_back_42 rfl ?_
      refine j_get (q := 46) (ci := 8) (q0 := 0) (kf := 28) (v := .ref eb) F inX8 rfl rfl rfl tw_686 rfl rfl dX8_back_43 rfl ?_
      refine j_iload_n (q := 47) (i0 := 0) F rfl dX8_back_46 rfl ?_
      refine j_iconst (q := 48) (v := nI 2) F (by decide) dX8_back_47 rfl ?_
      refine j_iadd (q := 49) (v := nI 48) F (by decide) dX8_back_48 rfl ?_
      refine j_iald (q := 50) (q0 := 2) (i := 48) (v := nI sd0) F rfl rfl (by omega) rfl (congrArg nI hI.2.1) dX8_back_49 rfl ?_
      refine j_put (q := 53) (ci := 8) (q0 := 0) (kf := 18) (v := .int (nI sd0)) (w' := [(e0, .inr (8, [.ref e1, .int (nI ln), .int (nI aa), .int (nI bg), .int (nI tk), .int (nI td), .int (nI rl), .int (nI rs), .int (nI rd), .ref e2, .ref e3, .ref e4, .int (nI n), .int (nI m), .ref e5, .ref e6, .ref e7, .int (nI be0), .int (nI sd0), .int (nI tu), .int (nI fo), .ref e8, .ref e9, .int (nI kn), .int (nI tl), .int (nI rn), .ref ea, .long tr, .ref eb])), (e9, .inl (G.2.2.1, 40, .inl (nF pa))), (eb, .inl (G.2.2.1, 92, .inl (nF kp)))]) F inX8 tyX8_ok nmX8 rfl rfl rfl tw_676 rfl rfl rfl rfl rfl rfl dX8_back_50 rfl ?_
      refine j_aload_n (q := 54) (i0 := 1) F rfl dX8_back_53 rfl ?_
      refine j_aload_n (q := 55) (i0 := 1) F rfl dX8_back_54 rfl ?_
      refine j_get (q := 58) (ci := 8) (q0 := 0) (kf := 28) (v := .ref eb) F inX8 rfl rfl rfl tw_686 rfl rfl dX8_back_55 rfl ?_
      refine j_iload_n (q := 59) (i0 := 0) F rfl dX8_back_58 rfl ?_
      refine j_iconst (q := 60) (v := nI 3) F (by decide) dX8_back_59 rfl ?_
      refine j_iadd (q := 61) (v := nI 49) F (by decide) dX8_back_60 rfl ?_
      refine j_iald (q := 62) (q0 := 2) (i := 49) (v := nI tu0) F rfl rfl (by omega) rfl (congrArg nI hI.2.2.1) dX8_back_61 rfl ?_
      refine j_put (q := 65) (ci := 8) (q0 := 0) (kf := 19) (v := .int (nI tu0)) (w' := [(e0, .inr (8, [.ref e1, .int (nI ln), .int (nI aa), .int (nI bg), .int (nI tk), .int (nI td), .int (nI rl), .int (nI rs), .int (nI rd), .ref e2, .ref e3, .ref e4, .int (nI n), .int (nI m), .ref e5, .ref e6, .ref e7, .int (nI be0), .int (nI sd0), .int (nI tu0), .int (nI fo), .ref e8, .ref e9, .int (nI kn), .int (nI tl), .int (nI rn), .ref ea, .long tr, .ref eb])), (e9, .inl (G.2.2.1, 40, .inl (nF pa))), (eb, .inl (G.2.2.1, 92, .inl (nF kp)))]) F inX8 tyX8_ok nmX8 rfl rfl rfl tw_677 rfl rfl rfl rfl rfl rfl dX8_back_62 rfl ?_
      refine j_aload_n (q := 66) (i0 := 1) F rfl dX8_back_65 rfl ?_
      refine j_aload_n (q := 67) (i0 := 1) F rfl dX8_back_66 rfl ?_
      refine j_get (q := 70) (ci := 8) (q0 := 0) (kf := 28) (v := .ref eb) F inX8 rfl rfl rfl tw_686 rfl rfl dX8_back_67 rfl ?_
      refine j_iload_n (q := 71) (i0 := 0) F rfl dX8_back_70 rfl ?_
      refine j_iconst (q := 72) (v := nI 4) F (by decide) dX8_back_71 rfl ?_
      refine j_iadd (q := 73) (v := nI 50) F (by decide) dX8_back_72 rfl ?_
      refine j_iald (q := 74) (q0 := 2) (i := 50) (v := nI fo0) F rfl rfl (by omega) rfl (congrArg nI hI.2.2.2.1) dX8_back_73 rfl ?_
      refine j_put (q := 77) (ci := 8) (q0 := 0) (kf := 20) (v := .int (nI fo0)) (w' := [(e0, .inr (8, [.ref e1, .int (nI ln), .int (nI aa), .int (nI bg), .int (nI tk), .int (nI td), .int (nI rl), .int (nI rs), .int (nI rd), .ref e2, .ref e3, .ref e4, .int (nI n), .int (nI m), .ref e5, .ref e6, .ref e7, .int (nI be0), .int (nI sd0), .int (nI tu0), .int (nI fo0), .ref e8, .ref e9, .int (nI kn), .int (nI tl), .int (nI rn), .ref ea, .long tr, .ref eb])), (e9, .inl (G.2.2.1, 40, .inl (nF pa))), (eb, .inl (G.2.2.1, 92, .inl (nF kp)))]) F inX8 tyX8_ok nmX8 rfl rfl rfl tw_678 rfl rfl rfl rfl rfl rfl dX8_back_74 rfl ?_
      refine j_aload_n (q := 78) (i0 := 1) F rfl dX8_back_77 rfl ?_
      refine j_aload_n (q := 79) (i0 := 1) F rfl dX8_back_78 rfl ?_
      refine j_get (q := 82) (ci := 8) (q0 := 0) (kf := 28) (v := .ref eb) F inX8 rfl rfl rfl tw_686 rfl rfl dX8_back_79 rfl ?_
      refine j_iload_n (q := 83) (i0 := 0) F rfl dX8_back_82 rfl ?_
      refine j_iconst (q := 84) (v := nI 5) F (by decide) dX8_back_83 rfl ?_
      refine j_iadd (q := 85) (v := nI 51) F (by decide) dX8_back_84 rfl ?_
      refine j_iald (q := 86) (q0 := 2) (i := 51) (v := nI kn0) F rfl rfl (by omega) rfl (congrArg nI hI.2.2.2.2.1) dX8_back_85 rfl ?_
      refine j_put (q := 89) (ci := 8) (q0 := 0) (kf := 23) (v := .int (nI kn0)) (w' := [(e0, .inr (8, [.ref e1, .int (nI ln), .int (nI aa), .int (nI bg), .int (nI tk), .int (nI td), .int (nI rl), .int (nI rs), .int (nI rd), .ref e2, .ref e3, .ref e4, .int (nI n), .int (nI m), .ref e5, .ref e6, .ref e7, .int (nI be0), .int (nI sd0), .int (nI tu0), .int (nI fo0), .ref e8, .ref e9, .int (nI kn0), .int (nI tl), .int (nI rn), .ref ea, .long tr, .ref eb])), (e9, .inl (G.2.2.1, 40, .inl (nF pa))), (eb, .inl (G.2.2.1, 92, .inl (nF kp)))]) F inX8 tyX8_ok nmX8 rfl rfl rfl tw_681 rfl rfl rfl rfl rfl rfl dX8_back_86 rfl ?_
      refine j_iconst (q := 90) (v := nI 0) F (by decide) dX8_back_89 rfl ?_
      refine j_istore_n (q := 91) (lv' := [(3, .int (nI 0)), (2, .int (nI 46)), (0, .ref e0), (1, .int (nI 1))]) F dX8_back_90 (by decide) rfl rfl ?_
      have lp3 : ∀ (fu : Nat) (k : Nat) (pa1 : Nat → Nat) (hk : k ≤ 40) (hka : ∀ j, j < k → pa1 j = pa0 j), (40 - k) < fu → Jw G X 4 0 0 91 [(0, .ref e0), (1, .int (nI 1)), (2, .int (nI 46)), (3, .int (nI k))] [] [(e0, .inr (8, [.ref e1, .int (nI ln), .int (nI aa), .int (nI bg), .int (nI tk), .int (nI td), .int (nI rl), .int (nI rs), .int (nI rd), .ref e2, .ref e3, .ref e4, .int (nI n), .int (nI m), .ref e5, .ref e6, .ref e7, .int (nI be0), .int (nI sd0), .int (nI tu0), .int (nI fo0), .ref e8, .ref e9, .int (nI kn0), .int (nI tl), .int (nI rn), .ref ea, .long tr, .ref eb])), (e9, .inl (G.2.2.1, 40, .inl (nF pa1))), (eb, .inl (G.2.2.1, 92, .inl (nF kp)))] := by
        intro fu
        induction fu with
        | zero => intro k pa1 hk hka hfu; exact absurd hfu (Nat.not_lt_zero _)
        | succ fu ih3 =>
          intro k pa1 hk hka hfu
          refine j_iload_n (q := 92) (i0 := 3) F rfl dX8_back_91 rfl ?_
          refine j_bipush (q := 94) (v := nI 40) F (by decide) dX8_back_92 rfl ?_
          refine j_icmp_ge (q := 97) (t := 120) F (Pp := 40 ≤ k) (nI_leI (by omega) (by omega)) dX8_back_94 rfl rfl (fun c4 => ?_) (fun c4 => ?_)
          · skip
            refine j_arr (q0 := 1) (g := nF pa0) (w' := [(e0, .inr (8, [.ref e1, .int (nI ln), .int (nI aa), .int (nI bg), .int (nI tk), .int (nI td), .int (nI rl), .int (nI rs), .int (nI rd), .ref e2, .ref e3, .ref e4, .int (nI n), .int (nI m), .ref e5, .ref e6, .ref e7, .int (nI be0), .int (nI sd0), .int (nI tu0), .int (nI fo0), .ref e8, .ref e9, .int (nI kn0), .int (nI tl), .int (nI rn), .ref ea, .long tr, .ref eb])), (e9, .inl (G.2.2.1, 40, .inl (nF pa0))), (eb, .inl (G.2.2.1, 92, .inl (nF kp)))]) rfl (fun i hi => congrArg nI (hka i (by omega))) rfl ?_
            refine j_aload_n (q := 121) (i0 := 0) F rfl dX8_back_120 rfl ?_
            refine j_get (q := 124) (ci := 8) (q0 := 0) (kf := 17) (v := .int (nI be0)) F inX8 rfl rfl rfl tw_675 rfl rfl dX8_back_121 rfl ?_
            exact j_iret (w2 := [(e0, .inr (8, [.ref e1, .int (nI ln), .int (nI aa), .int (nI bg), .int (nI tk), .int (nI td), .int (nI rl), .int (nI rs), .int (nI rd), .ref e2, .ref e3, .ref e4, .int (nI n), .int (nI m), .ref e5, .ref e6, .ref e7, .int (nI be0), .int (nI sd0), .int (nI tu0), .int (nI fo0), .ref e8, .ref e9, .int (nI kn0), .int (nI tl), .int (nI rn), .ref ea, .long tr, .ref eb])), (e9, .inl (G.2.2.1, 40, .inl (nF pa0))), (eb, .inl (G.2.2.1, 92, .inl (nF kp)))]) F R0 rfl [0, 1, 2] rfl rfl (⟨rfl, rfl⟩) dX8_back_124
          · skip
            refine j_aload_n (q := 98) (i0 := 0) F rfl dX8_back_97 rfl ?_
            refine j_get (q := 101) (ci := 8) (q0 := 0) (kf := 22) (v := .ref e9) F inX8 rfl rfl rfl tw_680 rfl rfl dX8_back_98 rfl ?_
            refine j_iload_n (q := 102) (i0 := 3) F rfl dX8_back_101 rfl ?_
            refine j_aload_n (q := 103) (i0 := 0) F rfl dX8_back_102 rfl ?_
            refine j_get (q := 106) (ci := 8) (q0 := 0) (kf := 28) (v := .ref eb) F inX8 rfl rfl rfl tw_686 rfl rfl dX8_back_103 rfl ?_
            refine j_iload_n (q := 107) (i0 := 2) F rfl dX8_back_106 rfl ?_
            refine j_bipush (q := 109) (v := nI 6) F (by decide) dX8_back_107 rfl ?_
            refine j_iadd (q := 110) (v := nI 52) F (by decide) dX8_back_109 rfl ?_
            refine j_iload_n (q := 111) (i0 := 3) F rfl dX8_back_110 rfl ?_
            refine j_iadd (q := 112) (v := nI (52 + k)) F (nI_add _ _) dX8_back_111 rfl ?_
            refine j_iald (q := 113) (q0 := 2) (i := (52 + k)) (v := nI (pa0 k)) F rfl rfl (by omega) rfl (congrArg nI (hI.2.2.2.2.2 k (by omega))) dX8_back_112 rfl ?_
            refine j_iast (q := 114) (q0 := 1) (i := k) (f2 := nF (va_up pa1 k (pa0 k))) (w' := [(e0, .inr (8, [.ref e1, .int (nI ln), .int (nI aa), .int (nI bg), .int (nI tk), .int (nI td), .int (nI rl), .int (nI rs), .int (nI rd), .ref e2, .ref e3, .ref e4, .int (nI n), .int (nI m), .ref e5, .ref e6, .ref e7, .int (nI be0), .int (nI sd0), .int (nI tu0), .int (nI fo0), .ref e8, .ref e9, .int (nI kn0), .int (nI tl), .int (nI rn), .ref ea, .long tr, .ref eb])), (e9, .inl (G.2.2.1, 40, .inl (nF (va_up pa1 k (pa0 k))))), (eb, .inl (G.2.2.1, 92, .inl (nF kp)))]) F rfl rfl (by omega) rfl (nF_up _ _ _) rfl dX8_back_113 rfl ?_
            refine j_iinc (q := 117) (i0 := 3) (v := nI (k + 1)) (lv' := [(3, .int (nI (k + 1))), (0, .ref e0), (1, .int (nI 1)), (2, .int (nI 46))]) F dX8_back_114 rfl (nI_add _ _) (by decide) rfl rfl ?_
            refine j_goto (t := 91) F dX8_back_117 rfl ?_
            refine j_lv [1, 2, 3, 0] (lv' := [(0, .ref e0), (1, .int (nI 1)), (2, .int (nI 46)), (3, .int (nI (k + 1)))]) rfl ?_
            exact ih3 (k + 1) _ (by omega) (fun j h => by rcases (show j < k ∨ j = k by omega) with z | z; rw [up_n _ _ (by omega)]; exact hka j z; subst z; rw [up_s]) (by omega)
      refine j_lv [2, 3, 1, 0] (lv' := [(0, .ref e0), (1, .int (nI 1)), (2, .int (nI 46)), (3, .int (nI 0))]) rfl ?_
      exact lp3 _ 0 _ (Nat.zero_le _) (fun j h => absurd h (Nat.not_lt_zero j)) (Nat.lt_succ_self _)
    · exact absurd cz (by omega)
  · skip
    exact absurd ⟨1, by decide, rfl⟩ hx

set_option maxHeartbeats 4000000 in
set_option maxRecDepth 100000 in
theorem c_X8_back1n (G : Gm) {e0 e1 e2 e3 e4 e5 e6 e7 e8 e9 ea eb : Nat} {ln aa bg tk td rl rs rd n m be sd tu fo kn tl rn : Nat} {pa kp : Nat → Nat}  {tr : Int64} (hf : kp 46 = 0) : Mg G yX8_back cX8_back 4 (some .int) ({ frames := 1, cells := 0, slots := 0, locals := 25 } : Room) 0 0 [.ref e0, .int (nI 1)] [(e0, .inr (8, [.ref e1, .int (nI ln), .int (nI aa), .int (nI bg), .int (nI tk), .int (nI td), .int (nI rl), .int (nI rs), .int (nI rd), .ref e2, .ref e3, .ref e4, .int (nI n), .int (nI m), .ref e5, .ref e6, .ref e7, .int (nI be), .int (nI sd), .int (nI tu), .int (nI fo), .ref e8, .ref e9, .int (nI kn), .int (nI tl), .int (nI rn), .ref ea, .long tr, .ref eb])), (e9, .inl (G.2.2.1, 40, .inl (nF pa))), (eb, .inl (G.2.2.1, 92, .inl (nF kp)))] (fun r w2 => r = some (.int (-2)) ∧ w2 = [(e0, .inr (8, [.ref e1, .int (nI ln), .int (nI aa), .int (nI bg), .int (nI tk), .int (nI td), .int (nI rl), .int (nI rs), .int (nI rd), .ref e2, .ref e3, .ref e4, .int (nI n), .int (nI m), .ref e5, .ref e6, .ref e7, .int (nI be), .int (nI sd), .int (nI tu), .int (nI fo), .ref e8, .ref e9, .int (nI kn), .int (nI tl), .int (nI rn), .ref ea, .long tr, .ref eb])), (e9, .inl (G.2.2.1, 40, .inl (nF pa))), (eb, .inl (G.2.2.1, 92, .inl (nF kp)))]) := by
  refine Mg.mk (lv := [(0, .ref e0), (1, .int (nI 1))]) (by decide) rfl rfl (fun X F R0 => ?_)
  refine j_iload_n (q := 1) (i0 := 1) F rfl dX8_back_0 rfl ?_
  refine j_i2l (q := 2) (v := Int32.toInt64 (nI 1)) F rfl dX8_back_1 rfl ?_
  refine j_lconst (q := 3) (v := 0) F (by decide) dX8_back_2 rfl ?_
  refine j_lconst (q := 4) (v := 1) F (by decide) dX8_back_3 rfl ?_
  refine j_callS (q := 7) (As := [.long (Int32.toInt64 (nI 1)), .long 0, .long 1]) (wr := [(e0, .inr (8, [.ref e1, .int (nI ln), .int (nI aa), .int (nI bg), .int (nI tk), .int (nI td), .int (nI rl), .int (nI rs), .int (nI rd), .ref e2, .ref e3, .ref e4, .int (nI n), .int (nI m), .ref e5, .ref e6, .ref e7, .int (nI be), .int (nI sd), .int (nI tu), .int (nI fo), .ref e8, .ref e9, .int (nI kn), .int (nI tl), .int (nI rn), .ref ea, .long tr, .ref eb])), (e9, .inl (G.2.2.1, 40, .inl (nF pa))), (eb, .inl (G.2.2.1, 92, .inl (nF kp)))]) (st := []) F (c_inR G (x := nI 1) (n := 2) rfl (by decide) rfl) kwX8_in tw_752 tw_751 ⟨Nat.le_of_ble_eq_true rfl, Nat.le_of_ble_eq_true rfl, rfl, rfl, Nat.le_of_ble_eq_true rfl, Nat.le_of_ble_eq_true rfl⟩ [] [0, 1, 2] rfl rfl rfl rfl rfl rfl rfl (Nat.le_of_ble_eq_true rfl) dX8_back_4 rfl ?_
  rintro r_ w_ ⟨rfl, (⟨rfl, hx⟩ | ⟨rfl, hx⟩)⟩
  · skip
    refine j_w (w' := [(e0, .inr (8, [.ref e1, .int (nI ln), .int (nI aa), .int (nI bg), .int (nI tk), .int (nI td), .int (nI rl), .int (nI rs), .int (nI rd), .ref e2, .ref e3, .ref e4, .int (nI n), .int (nI m), .ref e5, .ref e6, .ref e7, .int (nI be), .int (nI sd), .int (nI tu), .int (nI fo), .ref e8, .ref e9, .int (nI kn), .int (nI tl), .int (nI rn), .ref ea, .long tr, .ref eb])), (e9, .inl (G.2.2.1, 40, .inl (nF pa))), (eb, .inl (G.2.2.1, 92, .inl (nF kp)))]) [0, 1, 2] rfl rfl ?_
    show Jw G X _ 0 0 7 _ [.int (nI 1)] _
    refine j_if_ne (q := 10) (t := 12) F (cf (by decide)) dX8_back_7 rfl rfl (fun _ => ?_) (fun z => False.elim z)
    refine j_bipush (q := 14) (v := nI 46) F (by decide) dX8_back_12 rfl ?_
    refine j_iload_n (q := 15) (i0 := 1) F rfl dX8_back_14 rfl ?_
    refine j_imul (q := 16) (v := nI 46) F (by decide) dX8_back_15 rfl ?_
    refine j_istore_n (q := 17) (lv' := [(2, .int (nI 46)), (0, .ref e0), (1, .int (nI 1))]) F dX8_back_16 (by decide) rfl rfl ?_
    refine j_aload_n (q := 18) (i0 := 1) F rfl dX8_back_17 rfl ?_
    refine j_get (q := 21) (ci := 8) (q0 := 0) (kf := 28) (v := .ref eb) F inX8 rfl rfl rfl tw_686 rfl rfl dX8_back_18 rfl ?_
    refine j_iload_n (q := 22) (i0 := 0) F rfl dX8_back_21 rfl ?_
    refine j_iald (q := 23) (q0 := 2) (i := 46) (v := nI (kp 46)) F rfl rfl (by omega) rfl (rfl) dX8_back_22 rfl ?_
    refine j_if_ne (q := 26) (t := 29) F (Pp := kp 46 = 0) (nI_eq0 (by omega)) dX8_back_23 rfl rfl (fun cz => ?_) (fun cz => ?_)
    · exact absurd hf cz
    · skip
      refine j_bipush (q := 28) (v := (-2)) F (by decide) dX8_back_26 rfl ?_
      exact j_iret (w2 := [(e0, .inr (8, [.ref e1, .int (nI ln), .int (nI aa), .int (nI bg), .int (nI tk), .int (nI td), .int (nI rl), .int (nI rs), .int (nI rd), .ref e2, .ref e3, .ref e4, .int (nI n), .int (nI m), .ref e5, .ref e6, .ref e7, .int (nI be), .int (nI sd), .int (nI tu), .int (nI fo), .ref e8, .ref e9, .int (nI kn), .int (nI tl), .int (nI rn), .ref ea, .long tr, .ref eb])), (e9, .inl (G.2.2.1, 40, .inl (nF pa))), (eb, .inl (G.2.2.1, 92, .inl (nF kp)))]) F R0 rfl [0, 1, 2] rfl rfl (⟨rfl, rfl⟩) dX8_back_28
  · skip
    exact absurd ⟨1, by decide, rfl⟩ hx

set_option maxHeartbeats 4000000 in
set_option maxRecDepth 100000 in
theorem c_X8_keepb (G : Gm) {e0 e1 e2 e3 e4 e5 e6 e7 e8 e9 ea eb : Nat} {ln aa bg tk td rl rs rd n m be sd tu fo kn tl rn : Nat} {pa kp : Nat → Nat}  {tr : Int64} {x : Int32} (hx : ¬ inR x 2) : Mg G yX8_keep cX8_keep 4 (some .int) ({ frames := 1, cells := 0, slots := 0, locals := 25 } : Room) 0 0 [.ref e0, .int x] [(e0, .inr (8, [.ref e1, .int (nI ln), .int (nI aa), .int (nI bg), .int (nI tk), .int (nI td), .int (nI rl), .int (nI rs), .int (nI rd), .ref e2, .ref e3, .ref e4, .int (nI n), .int (nI m), .ref e5, .ref e6, .ref e7, .int (nI be), .int (nI sd), .int (nI tu), .int (nI fo), .ref e8, .ref e9, .int (nI kn), .int (nI tl), .int (nI rn), .ref ea, .long tr, .ref eb])), (e9, .inl (G.2.2.1, 40, .inl (nF pa))), (eb, .inl (G.2.2.1, 92, .inl (nF kp)))] (fun r w2 => r = some (.int (-1)) ∧ w2 = [(e0, .inr (8, [.ref e1, .int (nI ln), .int (nI aa), .int (nI bg), .int (nI tk), .int (nI td), .int (nI rl), .int (nI rs), .int (nI rd), .ref e2, .ref e3, .ref e4, .int (nI n), .int (nI m), .ref e5, .ref e6, .ref e7, .int (nI be), .int (nI sd), .int (nI tu), .int (nI fo), .ref e8, .ref e9, .int (nI kn), .int (nI tl), .int (nI rn), .ref ea, .long tr, .ref eb])), (e9, .inl (G.2.2.1, 40, .inl (nF pa))), (eb, .inl (G.2.2.1, 92, .inl (nF kp)))]) := by
  refine Mg.mk (lv := [(0, .ref e0), (1, .int x)]) (by decide) rfl rfl (fun X F R0 => ?_)
  refine j_iload_n (q := 1) (i0 := 1) F rfl dX8_keep_0 rfl ?_
  refine j_i2l (q := 2) (v := Int32.toInt64 x) F rfl dX8_keep_1 rfl ?_
  refine j_lconst (q := 3) (v := 0) F (by decide) dX8_keep_2 rfl ?_
  refine j_lconst (q := 4) (v := 1) F (by decide) dX8_keep_3 rfl ?_
  refine j_callS (q := 7) (As := [.long (Int32.toInt64 x), .long 0, .long 1]) (wr := [(e0, .inr (8, [.ref e1, .int (nI ln), .int (nI aa), .int (nI bg), .int (nI tk), .int (nI td), .int (nI rl), .int (nI rs), .int (nI rd), .ref e2, .ref e3, .ref e4, .int (nI n), .int (nI m), .ref e5, .ref e6, .ref e7, .int (nI be), .int (nI sd), .int (nI tu), .int (nI fo), .ref e8, .ref e9, .int (nI kn), .int (nI tl), .int (nI rn), .ref ea, .long tr, .ref eb])), (e9, .inl (G.2.2.1, 40, .inl (nF pa))), (eb, .inl (G.2.2.1, 92, .inl (nF kp)))]) (st := []) F (c_inR G (x := x) (n := 2) rfl (by decide) rfl) kwX8_in tw_752 tw_751 ⟨Nat.le_of_ble_eq_true rfl, Nat.le_of_ble_eq_true rfl, rfl, rfl, Nat.le_of_ble_eq_true rfl, Nat.le_of_ble_eq_true rfl⟩ [] [0, 1, 2] rfl rfl rfl rfl rfl rfl rfl (Nat.le_of_ble_eq_true rfl) dX8_keep_4 rfl ?_
  rintro r_ w_ ⟨rfl, (⟨rfl, hx2⟩ | ⟨rfl, hx2⟩)⟩
  · skip
    exact absurd hx2 hx
  · skip
    refine j_w (w' := [(e0, .inr (8, [.ref e1, .int (nI ln), .int (nI aa), .int (nI bg), .int (nI tk), .int (nI td), .int (nI rl), .int (nI rs), .int (nI rd), .ref e2, .ref e3, .ref e4, .int (nI n), .int (nI m), .ref e5, .ref e6, .ref e7, .int (nI be), .int (nI sd), .int (nI tu), .int (nI fo), .ref e8, .ref e9, .int (nI kn), .int (nI tl), .int (nI rn), .ref ea, .long tr, .ref eb])), (e9, .inl (G.2.2.1, 40, .inl (nF pa))), (eb, .inl (G.2.2.1, 92, .inl (nF kp)))]) [0, 1, 2] rfl rfl ?_
    show Jw G X _ 0 0 7 _ [.int (nI 0)] _
    refine j_if_ne (q := 10) (t := 12) F (ct (by decide)) dX8_keep_7 rfl rfl (fun z => absurd trivial z) (fun _ => ?_)
    refine j_iconst (q := 11) (v := (-1)) F (by decide) dX8_keep_10 rfl ?_
    exact j_iret (w2 := [(e0, .inr (8, [.ref e1, .int (nI ln), .int (nI aa), .int (nI bg), .int (nI tk), .int (nI td), .int (nI rl), .int (nI rs), .int (nI rd), .ref e2, .ref e3, .ref e4, .int (nI n), .int (nI m), .ref e5, .ref e6, .ref e7, .int (nI be), .int (nI sd), .int (nI tu), .int (nI fo), .ref e8, .ref e9, .int (nI kn), .int (nI tl), .int (nI rn), .ref ea, .long tr, .ref eb])), (e9, .inl (G.2.2.1, 40, .inl (nF pa))), (eb, .inl (G.2.2.1, 92, .inl (nF kp)))]) F R0 rfl [0, 1, 2] rfl rfl (⟨rfl, rfl⟩) dX8_keep_11

set_option maxHeartbeats 4000000 in
set_option maxRecDepth 100000 in
theorem c_X8_backb (G : Gm) {e0 e1 e2 e3 e4 e5 e6 e7 e8 e9 ea eb : Nat} {ln aa bg tk td rl rs rd n m be sd tu fo kn tl rn : Nat} {pa kp : Nat → Nat}  {tr : Int64} {x : Int32} (hx : ¬ inR x 2) : Mg G yX8_back cX8_back 4 (some .int) ({ frames := 1, cells := 0, slots := 0, locals := 25 } : Room) 0 0 [.ref e0, .int x] [(e0, .inr (8, [.ref e1, .int (nI ln), .int (nI aa), .int (nI bg), .int (nI tk), .int (nI td), .int (nI rl), .int (nI rs), .int (nI rd), .ref e2, .ref e3, .ref e4, .int (nI n), .int (nI m), .ref e5, .ref e6, .ref e7, .int (nI be), .int (nI sd), .int (nI tu), .int (nI fo), .ref e8, .ref e9, .int (nI kn), .int (nI tl), .int (nI rn), .ref ea, .long tr, .ref eb])), (e9, .inl (G.2.2.1, 40, .inl (nF pa))), (eb, .inl (G.2.2.1, 92, .inl (nF kp)))] (fun r w2 => r = some (.int (-1)) ∧ w2 = [(e0, .inr (8, [.ref e1, .int (nI ln), .int (nI aa), .int (nI bg), .int (nI tk), .int (nI td), .int (nI rl), .int (nI rs), .int (nI rd), .ref e2, .ref e3, .ref e4, .int (nI n), .int (nI m), .ref e5, .ref e6, .ref e7, .int (nI be), .int (nI sd), .int (nI tu), .int (nI fo), .ref e8, .ref e9, .int (nI kn), .int (nI tl), .int (nI rn), .ref ea, .long tr, .ref eb])), (e9, .inl (G.2.2.1, 40, .inl (nF pa))), (eb, .inl (G.2.2.1, 92, .inl (nF kp)))]) := by
  refine Mg.mk (lv := [(0, .ref e0), (1, .int x)]) (by decide) rfl rfl (fun X F R0 => ?_)
  refine j_iload_n (q := 1) (i0 := 1) F rfl dX8_back_0 rfl ?_
  refine j_i2l (q := 2) (v := Int32.toInt64 x) F rfl dX8_back_1 rfl ?_
  refine j_lconst (q := 3) (v := 0) F (by decide) dX8_back_2 rfl ?_
  refine j_lconst (q := 4) (v := 1) F (by decide) dX8_back_3 rfl ?_
  refine j_callS (q := 7) (As := [.long (Int32.toInt64 x), .long 0, .long 1]) (wr := [(e0, .inr (8, [.ref e1, .int (nI ln), .int (nI aa), .int (nI bg), .int (nI tk), .int (nI td), .int (nI rl), .int (nI rs), .int (nI rd), .ref e2, .ref e3, .ref e4, .int (nI n), .int (nI m), .ref e5, .ref e6, .ref e7, .int (nI be), .int (nI sd), .int (nI tu), .int (nI fo), .ref e8, .ref e9, .int (nI kn), .int (nI tl), .int (nI rn), .ref ea, .long tr, .ref eb])), (e9, .inl (G.2.2.1, 40, .inl (nF pa))), (eb, .inl (G.2.2.1, 92, .inl (nF kp)))]) (st := []) F (c_inR G (x := x) (n := 2) rfl (by decide) rfl) kwX8_in tw_752 tw_751 ⟨Nat.le_of_ble_eq_true rfl, Nat.le_of_ble_eq_true rfl, rfl, rfl, Nat.le_of_ble_eq_true rfl, Nat.le_of_ble_eq_true rfl⟩ [] [0, 1, 2] rfl rfl rfl rfl rfl rfl rfl (Nat.le_of_ble_eq_true rfl) dX8_back_4 rfl ?_
  rintro r_ w_ ⟨rfl, (⟨rfl, hx2⟩ | ⟨rfl, hx2⟩)⟩
  · skip
    exact absurd hx2 hx
  · skip
    refine j_w (w' := [(e0, .inr (8, [.ref e1, .int (nI ln), .int (nI aa), .int (nI bg), .int (nI tk), .int (nI td), .int (nI rl), .int (nI rs), .int (nI rd), .ref e2, .ref e3, .ref e4, .int (nI n), .int (nI m), .ref e5, .ref e6, .ref e7, .int (nI be), .int (nI sd), .int (nI tu), .int (nI fo), .ref e8, .ref e9, .int (nI kn), .int (nI tl), .int (nI rn), .ref ea, .long tr, .ref eb])), (e9, .inl (G.2.2.1, 40, .inl (nF pa))), (eb, .inl (G.2.2.1, 92, .inl (nF kp)))]) [0, 1, 2] rfl rfl ?_
    show Jw G X _ 0 0 7 _ [.int (nI 0)] _
    refine j_if_ne (q := 10) (t := 12) F (ct (by decide)) dX8_back_7 rfl rfl (fun z => absurd trivial z) (fun _ => ?_)
    refine j_iconst (q := 11) (v := (-1)) F (by decide) dX8_back_10 rfl ?_
    exact j_iret (w2 := [(e0, .inr (8, [.ref e1, .int (nI ln), .int (nI aa), .int (nI bg), .int (nI tk), .int (nI td), .int (nI rl), .int (nI rs), .int (nI rd), .ref e2, .ref e3, .ref e4, .int (nI n), .int (nI m), .ref e5, .ref e6, .ref e7, .int (nI be), .int (nI sd), .int (nI tu), .int (nI fo), .ref e8, .ref e9, .int (nI kn), .int (nI tl), .int (nI rn), .ref ea, .long tr, .ref eb])), (e9, .inl (G.2.2.1, 40, .inl (nF pa))), (eb, .inl (G.2.2.1, 92, .inl (nF kp)))]) F R0 rfl [0, 1, 2] rfl rfl (⟨rfl, rfl⟩) dX8_back_11

theorem or1_bits : ∀ k, k < 4 → bitN (k ||| 1) 0 = 1 ∧ bitN (k ||| 1) 1 = bitN k 1 ∧ bitN (k ||| 2) 0 = bitN k 0 ∧ bitN (k ||| 2) 1 = 1 := by decide
theorem c_X8_keep (G : Gm) {e0 e1 e2 e3 e4 e5 e6 e7 e8 e9 ea eb : Nat} {ln aa bg tk td rl rs rd n m be sd tu fo kn tl rn : Nat} {pa kp : Nat → Nat} {tr : Int64} {ki be0 sd0 tu0 fo0 kn0 be1 sd1 tu1 fo1 kn1 : Nat} {pa0 pa1 : Nat → Nat} {x : Int32} (hki : ki < 4) (hk0 : kp 0 = bitN ki 0) (hk1 : kp 46 = bitN ki 1) (hKI : KpIs 0 kp (be0, sd0, tu0, fo0, kn0, pa0)) (hKJ : KpIs 46 kp (be1, sd1, tu1, fo1, kn1, pa1)) : Mg G yX8_keep cX8_keep 4 (some .int) ({ frames := 1, cells := 0, slots := 0, locals := 25 } : Room) 0 0 [.ref e0, .int x] [(e0, .inr (8, [.ref e1, .int (nI ln), .int (nI aa), .int (nI bg), .int (nI tk), .int (nI td), .int (nI rl), .int (nI rs), .int (nI rd), .ref e2, .ref e3, .ref e4, .int (nI n), .int (nI m), .ref e5, .ref e6, .ref e7, .int (nI be), .int (nI sd), .int (nI tu), .int (nI fo), .ref e8, .ref e9, .int (nI kn), .int (nI tl), .int (nI rn), .ref ea, .long tr, .ref eb])), (e9, .inl (G.2.2.1, 40, .inl (nF pa))), (eb, .inl (G.2.2.1, 92, .inl (nF kp)))] (fun r w2 => ∃ kp2, kp2 0 = bitN (kKeep ki x) 0 ∧ kp2 46 = bitN (kKeep ki x) 1 ∧ KpIs 0 kp2 (iKeep 0 (be, sd, tu, fo, kn, pa) (be0, sd0, tu0, fo0, kn0, pa0) x) ∧ KpIs 46 kp2 (iKeep 1 (be, sd, tu, fo, kn, pa) (be1, sd1, tu1, fo1, kn1, pa1) x) ∧ r = some (.int (aKeep (be, sd, tu, fo, kn, pa) x)) ∧ w2 = [(e0, .inr (8, [.ref e1, .int (nI ln), .int (nI aa), .int (nI bg), .int (nI tk), .int (nI td), .int (nI rl), .int (nI rs), .int (nI rd), .ref e2, .ref e3, .ref e4, .int (nI n), .int (nI m), .ref e5, .ref e6, .ref e7, .int (nI be), .int (nI sd), .int (nI tu), .int (nI fo), .ref e8, .ref e9, .int (nI kn), .int (nI tl), .int (nI rn), .ref ea, .long tr, .ref eb])), (e9, .inl (G.2.2.1, 40, .inl (nF pa))), (eb, .inl (G.2.2.1, 92, .inl (nF kp2)))]) := by
  have hob := or1_bits ki hki
  by_cases h : inR x 2
  · have hc := cb_1 h
    rcases inR2 h with rfl | rfl
    · refine (c_X8_keep0 G).imp fun r w2 z => ?_
      obtain ⟨kp2, hs, z1, z2⟩ := z
      rw [aKeep, kKeep, iKeep, iKeep, if_pos hc, if_pos hc, if_pos rfl, if_neg n01, show ki ||| 2 ^ (nI 0).toNatClampNeg = ki ||| 1 from rfl]
      exact ⟨kp2, by rw [hob.1]; exact hs.1, by rw [hob.2.1, ← hk1]; exact hs.2.2.2.2.2.2.2 46 (by omega), KpIs.of_set hs, KpIs.kept hs hKJ (by omega), z1, z2⟩
    · refine (c_X8_keep1 G).imp fun r w2 z => ?_
      obtain ⟨kp2, hs, z1, z2⟩ := z
      rw [aKeep, kKeep, iKeep, iKeep, if_pos hc, if_pos hc, if_neg n10, if_pos rfl, show ki ||| 2 ^ (nI 1).toNatClampNeg = ki ||| 2 from rfl]
      exact ⟨kp2, by rw [hob.2.2.1, ← hk0]; exact hs.2.2.2.2.2.2.2 0 (by omega), by rw [hob.2.2.2]; exact hs.1, KpIs.kept hs hKI (by omega), KpIs.of_set hs, z1, z2⟩
  · refine (c_X8_keepb G h).imp fun r w2 z => ?_
    have e1 : aKeep (be, sd, tu, fo, kn, pa) x = -1 := by rw [aKeep, cb_0 h, if_neg (by decide)]
    have e2 : kKeep ki x = ki := by rw [kKeep, cb_0 h, if_neg (by decide)]
    have e3 : ∀ P I, iKeep 0 P I x = I := fun P I => if_neg (fun z => h ⟨0, by decide, z⟩)
    have e4 : ∀ P I, iKeep 1 P I x = I := fun P I => if_neg (fun z => h ⟨1, by decide, z⟩)
    rw [e1, e2, e3, e4]
    exact ⟨kp, hk0, hk1, hKI, hKJ, z⟩
theorem c_X8_back (G : Gm) {e0 e1 e2 e3 e4 e5 e6 e7 e8 e9 ea eb : Nat} {ln aa bg tk td rl rs rd n m be sd tu fo kn tl rn : Nat} {pa kp : Nat → Nat} {tr : Int64} {ki be0 sd0 tu0 fo0 kn0 be1 sd1 tu1 fo1 kn1 : Nat} {pa0 pa1 : Nat → Nat} {x : Int32} (hki : ki < 4) (hk0 : kp 0 = bitN ki 0) (hk1 : kp 46 = bitN ki 1) (hKI : KpIs 0 kp (be0, sd0, tu0, fo0, kn0, pa0)) (hKJ : KpIs 46 kp (be1, sd1, tu1, fo1, kn1, pa1)) : Mg G yX8_back cX8_back 4 (some .int) ({ frames := 1, cells := 0, slots := 0, locals := 25 } : Room) 0 0 [.ref e0, .int x] [(e0, .inr (8, [.ref e1, .int (nI ln), .int (nI aa), .int (nI bg), .int (nI tk), .int (nI td), .int (nI rl), .int (nI rs), .int (nI rd), .ref e2, .ref e3, .ref e4, .int (nI n), .int (nI m), .ref e5, .ref e6, .ref e7, .int (nI be), .int (nI sd), .int (nI tu), .int (nI fo), .ref e8, .ref e9, .int (nI kn), .int (nI tl), .int (nI rn), .ref ea, .long tr, .ref eb])), (e9, .inl (G.2.2.1, 40, .inl (nF pa))), (eb, .inl (G.2.2.1, 92, .inl (nF kp)))] (fun r w2 => r = some (.int (aBack ki (be0, sd0, tu0, fo0, kn0, pa0) (be1, sd1, tu1, fo1, kn1, pa1) x)) ∧ w2 = [(e0, .inr (8, [.ref e1, .int (nI ln), .int (nI aa), .int (nI bg), .int (nI tk), .int (nI td), .int (nI rl), .int (nI rs), .int (nI rd), .ref e2, .ref e3, .ref e4, .int (nI n), .int (nI m), .ref e5, .ref e6, .ref e7, .int (nI ((pBack ki (be0, sd0, tu0, fo0, kn0, pa0) (be1, sd1, tu1, fo1, kn1, pa1) (be, sd, tu, fo, kn, pa) x).1)), .int (nI ((pBack ki (be0, sd0, tu0, fo0, kn0, pa0) (be1, sd1, tu1, fo1, kn1, pa1) (be, sd, tu, fo, kn, pa) x).2.1)), .int (nI ((pBack ki (be0, sd0, tu0, fo0, kn0, pa0) (be1, sd1, tu1, fo1, kn1, pa1) (be, sd, tu, fo, kn, pa) x).2.2.1)), .int (nI ((pBack ki (be0, sd0, tu0, fo0, kn0, pa0) (be1, sd1, tu1, fo1, kn1, pa1) (be, sd, tu, fo, kn, pa) x).2.2.2.1)), .ref e8, .ref e9, .int (nI ((pBack ki (be0, sd0, tu0, fo0, kn0, pa0) (be1, sd1, tu1, fo1, kn1, pa1) (be, sd, tu, fo, kn, pa) x).2.2.2.2.1)), .int (nI tl), .int (nI rn), .ref ea, .long tr, .ref eb])), (e9, .inl (G.2.2.1, 40, .inl (nF ((pBack ki (be0, sd0, tu0, fo0, kn0, pa0) (be1, sd1, tu1, fo1, kn1, pa1) (be, sd, tu, fo, kn, pa) x).2.2.2.2.2)))), (eb, .inl (G.2.2.1, 92, .inl (nF kp)))]) := by
  by_cases h : inR x 2
  · have hc := cb_1 h
    rcases inR2 h with rfl | rfl
    · rw [aBack, pBack, if_pos hc, if_pos rfl, if_pos rfl, show (nI 0).toNatClampNeg = 0 from rfl]
      by_cases hb : ki.testBit 0 = true
      · refine (c_X8_back0 G (hk0.trans (bitN_1 hb)) hKI).imp fun r w2 z => ?_
        rw [if_pos hb, if_pos ⟨hc, hb⟩]
        exact z
      · refine (c_X8_back0n G (hk0.trans (bitN_0 (tbF hb)))).imp fun r w2 z => ?_
        rw [if_neg hb, if_neg (fun z => hb z.2)]
        exact z
    · rw [aBack, pBack, if_pos hc, if_neg n10, if_neg n10, show (nI 1).toNatClampNeg = 1 from rfl]
      by_cases hb : ki.testBit 1 = true
      · refine (c_X8_back1 G (hk1.trans (bitN_1 hb)) hKJ).imp fun r w2 z => ?_
        rw [if_pos hb, if_pos ⟨hc, hb⟩]
        exact z
      · refine (c_X8_back1n G (hk1.trans (bitN_0 (tbF hb)))).imp fun r w2 z => ?_
        rw [if_neg hb, if_neg (fun z => hb z.2)]
        exact z
  · refine (c_X8_backb G h).imp fun r w2 z => ?_
    rw [aBack, pBack, cb_0 h, if_neg (by decide), if_neg (fun z => absurd z.1 (by decide))]
    exact z
