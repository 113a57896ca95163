set_option maxHeartbeats 4000000 in
set_option maxRecDepth 100000 in
theorem c_X0_isOnBehind (G : Gm) {b0 b1 b2 b3 t0 t1 t2 t3 t4 n m t lz lf ld lg : Nat} {ru ne f : Nat → Nat} {md se : Nat → Int32} {l s : Nat} (hW : Wk n ru ne f) (hl : l < n) (hs : s < 512) : Mg G yX0_isOnBehind cX0_isOnBehind 7 (some .boolean) ({ frames := 1, cells := 0, slots := 0, locals := 20 } : Room) 0 0 [.ref b0, .int (nI l), .int (nI s)] [(b0, .inr (0, [.ref t0, .ref b1, .ref b2, .ref b3, .int (nI lz), .int (nI lf), .int (nI ld), .int (nI lg)])), (b1, .inl (G.2.2.1, 9, .inl (nF ne))), (b2, .inl (G.2.2.1, 512, .inl md)), (b3, .inl (G.2.2.1, 512, .inl se)), (t0, .inr (6, [.int (nI n), .int (nI m), .int (nI t), .ref t1, .ref t2, .ref t3, .ref t4])), (t1, .inl (G.2.2.1, 9, .inl (nF ru)))] (fun r w2 => w2 = [(b0, .inr (0, [.ref t0, .ref b1, .ref b2, .ref b3, .int (nI lz), .int (nI lf), .int (nI ld), .int (nI lg)])), (b1, .inl (G.2.2.1, 9, .inl (nF ne))), (b2, .inl (G.2.2.1, 512, .inl md)), (b3, .inl (G.2.2.1, 512, .inl se)), (t0, .inr (6, [.int (nI n), .int (nI m), .int (nI t), .ref t1, .ref t2, .ref t3, .ref t4])), (t1, .inl (G.2.2.1, 9, .inl (nF ru)))] ∧ ((r = some (.int (nI 1)) ∧ lampOn (ru l) (ne l) s l = 1) ∨ (r = some (.int (nI 0)) ∧ lampOn (ru l) (ne l) s l = 0))) := by
  have hn := hW.1
  have hr := hW.2.1 l hl
  have ha := hW.2.2.1 l hl
  have hp1 := pcN_le (ne l)
  have hp2 := pcN_le (ne l &&& s)
  refine Mg.mk (lv := [(0, .ref b0), (1, .int (nI l)), (2, .int (nI s))]) (by decide) rfl rfl (fun X F R0 => ?_)
  refine j_iload_n (q := 1) (i0 := 2) F rfl dX0_isOnBehind_0 rfl ?_
  refine j_iload_n (q := 2) (i0 := 1) F rfl dX0_isOnBehind_1 rfl ?_
  refine j_ishr (q := 3) (v := nI (s >>> l)) F (nx_shr (by omega) (by omega)) dX0_isOnBehind_2 rfl ?_
  refine j_iconst (q := 4) (v := nI 1) F (by decide) dX0_isOnBehind_3 rfl ?_
  refine j_iand (q := 5) (v := nI (bitN s l)) F (nx_and _ _) dX0_isOnBehind_4 rfl ?_
  refine j_iconst (q := 6) (v := nI 1) F (by decide) dX0_isOnBehind_5 rfl ?_
  refine j_icmp_ne (q := 9) (t := 13) F (Pp := Nat.testBit s l = true) (bit_is1 _ _) dX0_isOnBehind_6 rfl rfl (fun c1 => ?_) (fun c1 => ?_)
  · skip
    refine j_iconst (q := 14) (v := nI 0) F (by decide) dX0_isOnBehind_13 rfl ?_
    refine j_istore_n (q := 15) (lv' := [(3, .int (nI 0)), (0, .ref b0), (1, .int (nI l)), (2, .int (nI s))]) F dX0_isOnBehind_14 (by decide) rfl rfl ?_
    refine j_aload_n (q := 16) (i0 := 1) F rfl dX0_isOnBehind_15 rfl ?_
    refine j_get (q := 19) (ci := 0) (q0 := 0) (kf := 0) (v := .ref t0) F inX0 rfl rfl rfl tw_189 rfl rfl dX0_isOnBehind_16 rfl ?_
    refine j_get (q := 22) (ci := 6) (q0 := 4) (kf := 3) (v := .ref t1) F inX6 rfl rfl rfl tw_101 rfl rfl dX0_isOnBehind_19 rfl ?_
    refine j_iload_n (q := 23) (i0 := 2) F rfl dX0_isOnBehind_22 rfl ?_
    refine j_iald (q := 24) (q0 := 5) (i := l) (v := nI (ru l)) F rfl rfl (by omega) rfl (rfl) dX0_isOnBehind_23 rfl ?_
    refine j_istore (q := 26) (lv' := [(4, .int (nI (ru l))), (3, .int (nI 0)), (0, .ref b0), (1, .int (nI l)), (2, .int (nI s))]) F dX0_isOnBehind_24 (by decide) rfl rfl ?_
    refine j_iload (q := 28) (i0 := 0) F rfl dX0_isOnBehind_26 rfl ?_
    refine j_iconst (q := 29) (v := nI 2) F (by decide) dX0_isOnBehind_28 rfl ?_
    refine j_icmp_ne (q := 32) (t := 42) F (Pp := ru l = 2) (nI_eq (by omega) (by omega)) dX0_isOnBehind_29 rfl rfl (fun c2 => ?_) (fun c2 => ?_)
    · skip
      refine j_aload_n (q := 43) (i0 := 2) F rfl dX0_isOnBehind_42 rfl ?_
      refine j_get (q := 46) (ci := 0) (q0 := 0) (kf := 1) (v := .ref b1) F inX0 rfl rfl rfl tw_190 rfl rfl dX0_isOnBehind_43 rfl ?_
      refine j_iload_n (q := 47) (i0 := 3) F rfl dX0_isOnBehind_46 rfl ?_
      refine j_iald (q := 48) (q0 := 1) (i := l) (v := nI (ne l)) F rfl rfl (by omega) rfl (rfl) dX0_isOnBehind_47 rfl ?_
      refine j_iload_n (q := 49) (i0 := 4) F rfl dX0_isOnBehind_48 rfl ?_
      refine j_iand (q := 50) (v := nI ((ne l) &&& s)) F (nx_and _ _) dX0_isOnBehind_49 rfl ?_
      refine j_callS (q := 53) (As := [.int (nI ((ne l) &&& s))]) (wr := [(b0, .inr (0, [.ref t0, .ref b1, .ref b2, .ref b3, .int (nI lz), .int (nI lf), .int (nI ld), .int (nI lg)])), (b1, .inl (G.2.2.1, 9, .inl (nF ne))), (b2, .inl (G.2.2.1, 512, .inl md)), (b3, .inl (G.2.2.1, 512, .inl se)), (t0, .inr (6, [.int (nI n), .int (nI m), .int (nI t), .ref t1, .ref t2, .ref t3, .ref t4])), (t1, .inl (G.2.2.1, 9, .inl (nF ru)))]) (st := []) F (c_bitCount G (k := ne l &&& s) (Nat.lt_trans (and_lt ha) (by decide))) kwJ6_bitCount_0f7a4 tw_407 tw_451 ⟨Nat.le_of_ble_eq_true rfl, Nat.le_of_ble_eq_true rfl, rfl, rfl, Nat.le_of_ble_eq_true rfl, Nat.le_of_ble_eq_true rfl⟩ [] [0, 1, 2, 3, 4, 5] rfl rfl rfl rfl rfl rfl rfl (Nat.le_of_ble_eq_true rfl) dX0_isOnBehind_50 rfl ?_
      rintro r_ w_ ⟨rfl, rfl⟩
      refine j_w (w' := [(b0, .inr (0, [.ref t0, .ref b1, .ref b2, .ref b3, .int (nI lz), .int (nI lf), .int (nI ld), .int (nI lg)])), (b1, .inl (G.2.2.1, 9, .inl (nF ne))), (b2, .inl (G.2.2.1, 512, .inl md)), (b3, .inl (G.2.2.1, 512, .inl se)), (t0, .inr (6, [.int (nI n), .int (nI m), .int (nI t), .ref t1, .ref t2, .ref t3, .ref t4])), (t1, .inl (G.2.2.1, 9, .inl (nF ru)))]) [0, 1, 2, 3, 4, 5] rfl rfl ?_
      show Jw G X _ 0 0 53 _ [.int (nI (pcN (ne l &&& s)))] _
      refine j_istore (q := 55) (lv' := [(5, .int (nI (pcN (ne l &&& s)))), (4, .int (nI (ru l))), (3, .int (nI 0)), (0, .ref b0), (1, .int (nI l)), (2, .int (nI s))]) F dX0_isOnBehind_53 (by decide) rfl rfl ?_
      refine j_aload_n (q := 56) (i0 := 3) F rfl dX0_isOnBehind_55 rfl ?_
      refine j_get (q := 59) (ci := 0) (q0 := 0) (kf := 1) (v := .ref b1) F inX0 rfl rfl rfl tw_190 rfl rfl dX0_isOnBehind_56 rfl ?_
      refine j_iload_n (q := 60) (i0 := 4) F rfl dX0_isOnBehind_59 rfl ?_
      refine j_iald (q := 61) (q0 := 1) (i := l) (v := nI (ne l)) F rfl rfl (by omega) rfl (rfl) dX0_isOnBehind_60 rfl ?_
      refine j_iload_n (q := 62) (i0 := 5) F rfl dX0_isOnBehind_61 rfl ?_
      refine j_iconst (q := 63) (v := (-1)) F (by decide) dX0_isOnBehind_62 rfl ?_
      refine j_ixor (q := 64) (v := nI (s ^^^ 4294967295)) F (nx_not _) dX0_isOnBehind_63 rfl ?_
      refine j_iand (q := 65) (v := nI ((ne l) &&& (s ^^^ 4294967295))) F (nx_and _ _) dX0_isOnBehind_64 rfl ?_
      refine j_callS (q := 68) (As := [.int (nI ((ne l) &&& (s ^^^ 4294967295)))]) (wr := [(b0, .inr (0, [.ref t0, .ref b1, .ref b2, .ref b3, .int (nI lz), .int (nI lf), .int (nI ld), .int (nI lg)])), (b1, .inl (G.2.2.1, 9, .inl (nF ne))), (b2, .inl (G.2.2.1, 512, .inl md)), (b3, .inl (G.2.2.1, 512, .inl se)), (t0, .inr (6, [.int (nI n), .int (nI m), .int (nI t), .ref t1, .ref t2, .ref t3, .ref t4])), (t1, .inl (G.2.2.1, 9, .inl (nF ru)))]) (st := []) F (c_bitCount G (k := ne l &&& (s ^^^ 4294967295)) (Nat.lt_trans (and_lt ha) (by decide))) kwJ6_bitCount_0f7a4 tw_407 tw_451 ⟨Nat.le_of_ble_eq_true rfl, Nat.le_of_ble_eq_true rfl, rfl, rfl, Nat.le_of_ble_eq_true rfl, Nat.le_of_ble_eq_true rfl⟩ [] [0, 1, 2, 3, 4, 5] rfl rfl rfl rfl rfl rfl rfl (Nat.le_of_ble_eq_true rfl) dX0_isOnBehind_65 rfl ?_
      rintro r_ w_ ⟨rfl, rfl⟩
      rw [pcN_sub]
      refine j_w (w' := [(b0, .inr (0, [.ref t0, .ref b1, .ref b2, .ref b3, .int (nI lz), .int (nI lf), .int (nI ld), .int (nI lg)])), (b1, .inl (G.2.2.1, 9, .inl (nF ne))), (b2, .inl (G.2.2.1, 512, .inl md)), (b3, .inl (G.2.2.1, 512, .inl se)), (t0, .inr (6, [.int (nI n), .int (nI m), .int (nI t), .ref t1, .ref t2, .ref t3, .ref t4])), (t1, .inl (G.2.2.1, 9, .inl (nF ru)))]) [0, 1, 2, 3, 4, 5] rfl rfl ?_
      show Jw G X _ 0 0 68 _ [.int (nI (pcN (ne l) - pcN (ne l &&& s)))] _
      refine j_istore (q := 70) (lv' := [(6, .int (nI (pcN (ne l) - pcN (ne l &&& s)))), (5, .int (nI (pcN (ne l &&& s)))), (4, .int (nI (ru l))), (3, .int (nI 0)), (0, .ref b0), (1, .int (nI l)), (2, .int (nI s))]) F dX0_isOnBehind_68 (by decide) rfl rfl ?_
      refine j_iload (q := 72) (i0 := 2) F rfl dX0_isOnBehind_70 rfl ?_
      refine j_iconst (q := 73) (v := nI 3) F (by decide) dX0_isOnBehind_72 rfl ?_
      refine j_icmp_eq (q := 76) (t := 83) F (Pp := ru l = 3) (nI_eq (by omega) (by omega)) dX0_isOnBehind_73 rfl rfl (fun c3 => ?_) (fun c3 => ?_)
      · skip
        refine j_iload_n (q := 84) (i0 := 3) F rfl dX0_isOnBehind_83 rfl ?_
        exact j_zret (w2 := [(b0, .inr (0, [.ref t0, .ref b1, .ref b2, .ref b3, .int (nI lz), .int (nI lf), .int (nI ld), .int (nI lg)])), (b1, .inl (G.2.2.1, 9, .inl (nF ne))), (b2, .inl (G.2.2.1, 512, .inl md)), (b3, .inl (G.2.2.1, 512, .inl se)), (t0, .inr (6, [.int (nI n), .int (nI m), .int (nI t), .ref t1, .ref t2, .ref t3, .ref t4])), (t1, .inl (G.2.2.1, 9, .inl (nF ru)))]) F R0 rfl rfl [0, 1, 2, 3, 4, 5] rfl rfl (⟨rfl, Or.inr ⟨rfl, (by have e := bitN_0 (tbF c1); unfold lampOn; (repeat' split) <;> omega)⟩⟩) dX0_isOnBehind_84
      · skip
        refine j_iload (q := 78) (i0 := 1) F rfl dX0_isOnBehind_76 rfl ?_
        refine j_iload (q := 80) (i0 := 0) F rfl dX0_isOnBehind_78 rfl ?_
        refine j_icmp_ne (q := 83) (t := 85) F (Pp := pcN (ne l &&& s) = pcN (ne l) - pcN (ne l &&& s)) (nI_eq (by omega) (by omega)) dX0_isOnBehind_80 rfl rfl (fun c4 => ?_) (fun c4 => ?_)
        · skip
          refine j_iload (q := 87) (i0 := 2) F rfl dX0_isOnBehind_85 rfl ?_
          refine j_if_ne (q := 90) (t := 105) F (Pp := ru l = 0) (nI_eq0 (by omega)) dX0_isOnBehind_87 rfl rfl (fun c5 => ?_) (fun c5 => ?_)
          · skip
            refine j_iload (q := 107) (i0 := 1) F rfl dX0_isOnBehind_105 rfl ?_
            refine j_iload (q := 109) (i0 := 0) F rfl dX0_isOnBehind_107 rfl ?_
            refine j_icmp_le (q := 112) (t := 116) F (Pp := pcN (ne l &&& s) ≤ pcN (ne l) - pcN (ne l &&& s)) (nI_leI (by omega) (by omega)) dX0_isOnBehind_109 rfl rfl (fun c6 => ?_) (fun c6 => ?_)
            · skip
              refine j_iconst (q := 117) (v := nI 0) F (by decide) dX0_isOnBehind_116 rfl ?_
              exact j_zret (w2 := [(b0, .inr (0, [.ref t0, .ref b1, .ref b2, .ref b3, .int (nI lz), .int (nI lf), .int (nI ld), .int (nI lg)])), (b1, .inl (G.2.2.1, 9, .inl (nF ne))), (b2, .inl (G.2.2.1, 512, .inl md)), (b3, .inl (G.2.2.1, 512, .inl se)), (t0, .inr (6, [.int (nI n), .int (nI m), .int (nI t), .ref t1, .ref t2, .ref t3, .ref t4])), (t1, .inl (G.2.2.1, 9, .inl (nF ru)))]) F R0 rfl rfl [0, 1, 2, 3, 4, 5] rfl rfl (⟨rfl, Or.inr ⟨rfl, (by have e := bitN_0 (tbF c1); unfold lampOn; (repeat' split) <;> omega)⟩⟩) dX0_isOnBehind_117
            · skip
              refine j_iconst (q := 113) (v := nI 1) F (by decide) dX0_isOnBehind_112 rfl ?_
              refine j_goto (t := 117) F dX0_isOnBehind_113 rfl ?_
              exact j_zret (w2 := [(b0, .inr (0, [.ref t0, .ref b1, .ref b2, .ref b3, .int (nI lz), .int (nI lf), .int (nI ld), .int (nI lg)])), (b1, .inl (G.2.2.1, 9, .inl (nF ne))), (b2, .inl (G.2.2.1, 512, .inl md)), (b3, .inl (G.2.2.1, 512, .inl se)), (t0, .inr (6, [.int (nI n), .int (nI m), .int (nI t), .ref t1, .ref t2, .ref t3, .ref t4])), (t1, .inl (G.2.2.1, 9, .inl (nF ru)))]) F R0 rfl rfl [0, 1, 2, 3, 4, 5] rfl rfl (⟨rfl, Or.inl ⟨rfl, (by have e := bitN_0 (tbF c1); unfold lampOn; (repeat' split) <;> omega)⟩⟩) dX0_isOnBehind_117
          · skip
            refine j_iload (q := 92) (i0 := 1) F rfl dX0_isOnBehind_90 rfl ?_
            refine j_iload (q := 94) (i0 := 0) F rfl dX0_isOnBehind_92 rfl ?_
            refine j_icmp_ge (q := 97) (t := 101) F (Pp := pcN (ne l) - pcN (ne l &&& s) ≤ pcN (ne l &&& s)) (nI_leI (by omega) (by omega)) dX0_isOnBehind_94 rfl rfl (fun c7 => ?_) (fun c7 => ?_)
            · skip
              refine j_iconst (q := 102) (v := nI 0) F (by decide) dX0_isOnBehind_101 rfl ?_
              refine j_goto (t := 117) F dX0_isOnBehind_102 rfl ?_
              exact j_zret (w2 := [(b0, .inr (0, [.ref t0, .ref b1, .ref b2, .ref b3, .int (nI lz), .int (nI lf), .int (nI ld), .int (nI lg)])), (b1, .inl (G.2.2.1, 9, .inl (nF ne))), (b2, .inl (G.2.2.1, 512, .inl md)), (b3, .inl (G.2.2.1, 512, .inl se)), (t0, .inr (6, [.int (nI n), .int (nI m), .int (nI t), .ref t1, .ref t2, .ref t3, .ref t4])), (t1, .inl (G.2.2.1, 9, .inl (nF ru)))]) F R0 rfl rfl [0, 1, 2, 3, 4, 5] rfl rfl (⟨rfl, Or.inr ⟨rfl, (by have e := bitN_0 (tbF c1); unfold lampOn; (repeat' split) <;> omega)⟩⟩) dX0_isOnBehind_117
            · skip
              refine j_iconst (q := 98) (v := nI 1) F (by decide) dX0_isOnBehind_97 rfl ?_
              refine j_goto (t := 117) F dX0_isOnBehind_98 rfl ?_
              exact j_zret (w2 := [(b0, .inr (0, [.ref t0, .ref b1, .ref b2, .ref b3, .int (nI lz), .int (nI lf), .int (nI ld), .int (nI lg)])), (b1, .inl (G.2.2.1, 9, .inl (nF ne))), (b2, .inl (G.2.2.1, 512, .inl md)), (b3, .inl (G.2.2.1, 512, .inl se)), (t0, .inr (6, [.int (nI n), .int (nI m), .int (nI t), .ref t1, .ref t2, .ref t3, .ref t4])), (t1, .inl (G.2.2.1, 9, .inl (nF ru)))]) F R0 rfl rfl [0, 1, 2, 3, 4, 5] rfl rfl (⟨rfl, Or.inl ⟨rfl, (by have e := bitN_0 (tbF c1); unfold lampOn; (repeat' split) <;> omega)⟩⟩) dX0_isOnBehind_117
        · skip
          refine j_iload_n (q := 84) (i0 := 3) F rfl dX0_isOnBehind_83 rfl ?_
          exact j_zret (w2 := [(b0, .inr (0, [.ref t0, .ref b1, .ref b2, .ref b3, .int (nI lz), .int (nI lf), .int (nI ld), .int (nI lg)])), (b1, .inl (G.2.2.1, 9, .inl (nF ne))), (b2, .inl (G.2.2.1, 512, .inl md)), (b3, .inl (G.2.2.1, 512, .inl se)), (t0, .inr (6, [.int (nI n), .int (nI m), .int (nI t), .ref t1, .ref t2, .ref t3, .ref t4])), (t1, .inl (G.2.2.1, 9, .inl (nF ru)))]) F R0 rfl rfl [0, 1, 2, 3, 4, 5] rfl rfl (⟨rfl, Or.inr ⟨rfl, (by have e := bitN_0 (tbF c1); unfold lampOn; (repeat' split) <;> omega)⟩⟩) dX0_isOnBehind_84
    · skip
      refine j_iload_n (q := 33) (i0 := 1) F rfl dX0_isOnBehind_32 rfl ?_
      refine j_if_ne (q := 36) (t := 40) F (ct (by decide)) dX0_isOnBehind_33 rfl rfl (fun z => absurd trivial z) (fun _ => ?_)
      refine j_iconst (q := 37) (v := nI 1) F (by decide) dX0_isOnBehind_36 rfl ?_
      refine j_goto (t := 41) F dX0_isOnBehind_37 rfl ?_
      exact j_zret (w2 := [(b0, .inr (0, [.ref t0, .ref b1, .ref b2, .ref b3, .int (nI lz), .int (nI lf), .int (nI ld), .int (nI lg)])), (b1, .inl (G.2.2.1, 9, .inl (nF ne))), (b2, .inl (G.2.2.1, 512, .inl md)), (b3, .inl (G.2.2.1, 512, .inl se)), (t0, .inr (6, [.int (nI n), .int (nI m), .int (nI t), .ref t1, .ref t2, .ref t3, .ref t4])), (t1, .inl (G.2.2.1, 9, .inl (nF ru)))]) F R0 rfl rfl [0, 1, 2, 3, 4, 5] rfl rfl (⟨rfl, Or.inl ⟨rfl, (by have e := bitN_0 (tbF c1); unfold lampOn; (repeat' split) <;> omega)⟩⟩) dX0_isOnBehind_41
  · skip
    refine j_iconst (q := 10) (v := nI 1) F (by decide) dX0_isOnBehind_9 rfl ?_
    refine j_goto (t := 14) F dX0_isOnBehind_10 rfl ?_
    refine j_istore_n (q := 15) (lv' := [(3, .int (nI 1)), (0, .ref b0), (1, .int (nI l)), (2, .int (nI s))]) F dX0_isOnBehind_14 (by decide) rfl rfl ?_
    refine j_aload_n (q := 16) (i0 := 1) F rfl dX0_isOnBehind_15 rfl ?_
    refine j_get (q := 19) (ci := 0) (q0 := 0) (kf := 0) (v := .ref t0) F inX0 rfl rfl rfl tw_189 rfl rfl dX0_isOnBehind_16 rfl ?_
    refine j_get (q := 22) (ci := 6) (q0 := 4) (kf := 3) (v := .ref t1) F inX6 rfl rfl rfl tw_101 rfl rfl dX0_isOnBehind_19 rfl ?_
    refine j_iload_n (q := 23) (i0 := 2) F rfl dX0_isOnBehind_22 rfl ?_
    refine j_iald (q := 24) (q0 := 5) (i := l) (v := nI (ru l)) F rfl rfl (by omega) rfl (rfl) dX0_isOnBehind_23 rfl ?_
    refine j_istore (q := 26) (lv' := [(4, .int (nI (ru l))), (3, .int (nI 1)), (0, .ref b0), (1, .int (nI l)), (2, .int (nI s))]) F dX0_isOnBehind_24 (by decide) rfl rfl ?_
    refine j_iload (q := 28) (i0 := 0) F rfl dX0_isOnBehind_26 rfl ?_
    refine j_iconst (q := 29) (v := nI 2) F (by decide) dX0_isOnBehind_28 rfl ?_
    refine j_icmp_ne (q := 32) (t := 42) F (Pp := ru l = 2) (nI_eq (by omega) (by omega)) dX0_isOnBehind_29 rfl rfl (fun c9 => ?_) (fun c9 => ?_)
    · skip
      refine j_aload_n (q := 43) (i0 := 2) F rfl dX0_isOnBehind_42 rfl ?_
      refine j_get (q := 46) (ci := 0) (q0 := 0) (kf := 1) (v := .ref b1) F inX0 rfl rfl rfl tw_190 rfl rfl dX0_isOnBehind_43 rfl ?_
      refine j_iload_n (q := 47) (i0 := 3) F rfl dX0_isOnBehind_46 rfl ?_
      refine j_iald (q := 48) (q0 := 1) (i := l) (v := nI (ne l)) F rfl rfl (by omega) rfl (rfl) dX0_isOnBehind_47 rfl ?_
      refine j_iload_n (q := 49) (i0 := 4) F rfl dX0_isOnBehind_48 rfl ?_
      refine j_iand (q := 50) (v := nI ((ne l) &&& s)) F (nx_and _ _) dX0_isOnBehind_49 rfl ?_
      refine j_callS (q := 53) (As := [.int (nI ((ne l) &&& s))]) (wr := [(b0, .inr (0, [.ref t0, .ref b1, .ref b2, .ref b3, .int (nI lz), .int (nI lf), .int (nI ld), .int (nI lg)])), (b1, .inl (G.2.2.1, 9, .inl (nF ne))), (b2, .inl (G.2.2.1, 512, .inl md)), (b3, .inl (G.2.2.1, 512, .inl se)), (t0, .inr (6, [.int (nI n), .int (nI m), .int (nI t), .ref t1, .ref t2, .ref t3, .ref t4])), (t1, .inl (G.2.2.1, 9, .inl (nF ru)))]) (st := []) F (c_bitCount G (k := ne l &&& s) (Nat.lt_trans (and_lt ha) (by decide))) kwJ6_bitCount_0f7a4 tw_407 tw_451 ⟨Nat.le_of_ble_eq_true rfl, Nat.le_of_ble_eq_true rfl, rfl, rfl, Nat.le_of_ble_eq_true rfl, Nat.le_of_ble_eq_true rfl⟩ [] [0, 1, 2, 3, 4, 5] rfl rfl rfl rfl rfl rfl rfl (Nat.le_of_ble_eq_true rfl) dX0_isOnBehind_50 rfl ?_
      rintro r_ w_ ⟨rfl, rfl⟩
      refine j_w (w' := [(b0, .inr (0, [.ref t0, .ref b1, .ref b2, .ref b3, .int (nI lz), .int (nI lf), .int (nI ld), .int (nI lg)])), (b1, .inl (G.2.2.1, 9, .inl (nF ne))), (b2, .inl (G.2.2.1, 512, .inl md)), (b3, .inl (G.2.2.1, 512, .inl se)), (t0, .inr (6, [.int (nI n), .int (nI m), .int (nI t), .ref t1, .ref t2, .ref t3, .ref t4])), (t1, .inl (G.2.2.1, 9, .inl (nF ru)))]) [0, 1, 2, 3, 4, 5] rfl rfl ?_
      show Jw G X _ 0 0 53 _ [.int (nI (pcN (ne l &&& s)))] _
      refine j_istore (q := 55) (lv' := [(5, .int (nI (pcN (ne l &&& s)))), (4, .int (nI (ru l))), (3, .int (nI 1)), (0, .ref b0), (1, .int (nI l)), (2, .int (nI s))]) F dX0_isOnBehind_53 (by decide) rfl rfl ?_
      refine j_aload_n (q := 56) (i0 := 3) F rfl dX0_isOnBehind_55 rfl ?_
      refine j_get (q := 59) (ci := 0) (q0 := 0) (kf := 1) (v := .ref b1) F inX0 rfl rfl rfl tw_190 rfl rfl dX0_isOnBehind_56 rfl ?_
      refine j_iload_n (q := 60) (i0 := 4) F rfl dX0_isOnBehind_59 rfl ?_
      refine j_iald (q := 61) (q0 := 1) (i := l) (v := nI (ne l)) F rfl rfl (by omega) rfl (rfl) dX0_isOnBehind_60 rfl ?_
      refine j_iload_n (q := 62) (i0 := 5) F rfl dX0_isOnBehind_61 rfl ?_
      refine j_iconst (q := 63) (v := (-1)) F (by decide) dX0_isOnBehind_62 rfl ?_
      refine j_ixor (q := 64) (v := nI (s ^^^ 4294967295)) F (nx_not _) dX0_isOnBehind_63 rfl ?_
      refine j_iand (q := 65) (v := nI ((ne l) &&& (s ^^^ 4294967295))) F (nx_and _ _) dX0_isOnBehind_64 rfl ?_
      refine j_callS (q := 68) (As := [.int (nI ((ne l) &&& (s ^^^ 4294967295)))]) (wr := [(b0, .inr (0, [.ref t0, .ref b1, .ref b2, .ref b3, .int (nI lz), .int (nI lf), .int (nI ld), .int (nI lg)])), (b1, .inl (G.2.2.1, 9, .inl (nF ne))), (b2, .inl (G.2.2.1, 512, .inl md)), (b3, .inl (G.2.2.1, 512, .inl se)), (t0, .inr (6, [.int (nI n), .int (nI m), .int (nI t), .ref t1, .ref t2, .ref t3, .ref t4])), (t1, .inl (G.2.2.1, 9, .inl (nF ru)))]) (st := []) F (c_bitCount G (k := ne l &&& (s ^^^ 4294967295)) (Nat.lt_trans (and_lt ha) (by decide))) kwJ6_bitCount_0f7a4 tw_407 tw_451 ⟨Nat.le_of_ble_eq_true rfl, Nat.le_of_ble_eq_true rfl, rfl, rfl, Nat.le_of_ble_eq_true rfl, Nat.le_of_ble_eq_true rfl⟩ [] [0, 1, 2, 3, 4, 5] rfl rfl rfl rfl rfl rfl rfl (Nat.le_of_ble_eq_true rfl) dX0_isOnBehind_65 rfl ?_
      rintro r_ w_ ⟨rfl, rfl⟩
      rw [pcN_sub]
      refine j_w (w' := [(b0, .inr (0, [.ref t0, .ref b1, .ref b2, .ref b3, .int (nI lz), .int (nI lf), .int (nI ld), .int (nI lg)])), (b1, .inl (G.2.2.1, 9, .inl (nF ne))), (b2, .inl (G.2.2.1, 512, .inl md)), (b3, .inl (G.2.2.1, 512, .inl se)), (t0, .inr (6, [.int (nI n), .int (nI m), .int (nI t), .ref t1, .ref t2, .ref t3, .ref t4])), (t1, .inl (G.2.2.1, 9, .inl (nF ru)))]) [0, 1, 2, 3, 4, 5] rfl rfl ?_
      show Jw G X _ 0 0 68 _ [.int (nI (pcN (ne l) - pcN (ne l &&& s)))] _
      refine j_istore (q := 70) (lv' := [(6, .int (nI (pcN (ne l) - pcN (ne l &&& s)))), (5, .int (nI (pcN (ne l &&& s)))), (4, .int (nI (ru l))), (3, .int (nI 1)), (0, .ref b0), (1, .int (nI l)), (2, .int (nI s))]) F dX0_isOnBehind_68 (by decide) rfl rfl ?_
      refine j_iload (q := 72) (i0 := 2) F rfl dX0_isOnBehind_70 rfl ?_
      refine j_iconst (q := 73) (v := nI 3) F (by decide) dX0_isOnBehind_72 rfl ?_
      refine j_icmp_eq (q := 76) (t := 83) F (Pp := ru l = 3) (nI_eq (by omega) (by omega)) dX0_isOnBehind_73 rfl rfl (fun c10 => ?_) (fun c10 => ?_)
      · skip
        refine j_iload_n (q := 84) (i0 := 3) F rfl dX0_isOnBehind_83 rfl ?_
        exact j_zret (w2 := [(b0, .inr (0, [.ref t0, .ref b1, .ref b2, .ref b3, .int (nI lz), .int (nI lf), .int (nI ld), .int (nI lg)])), (b1, .inl (G.2.2.1, 9, .inl (nF ne))), (b2, .inl (G.2.2.1, 512, .inl md)), (b3, .inl (G.2.2.1, 512, .inl se)), (t0, .inr (6, [.int (nI n), .int (nI m), .int (nI t), .ref t1, .ref t2, .ref t3, .ref t4])), (t1, .inl (G.2.2.1, 9, .inl (nF ru)))]) F R0 rfl rfl [0, 1, 2, 3, 4, 5] rfl rfl (⟨rfl, Or.inl ⟨rfl, (by have e := bitN_1 c1; unfold lampOn; (repeat' split) <;> omega)⟩⟩) dX0_isOnBehind_84
      · skip
        refine j_iload (q := 78) (i0 := 1) F rfl dX0_isOnBehind_76 rfl ?_
        refine j_iload (q := 80) (i0 := 0) F rfl dX0_isOnBehind_78 rfl ?_
        refine j_icmp_ne (q := 83) (t := 85) F (Pp := pcN (ne l &&& s) = pcN (ne l) - pcN (ne l &&& s)) (nI_eq (by omega) (by omega)) dX0_isOnBehind_80 rfl rfl (fun c11 => ?_) (fun c11 => ?_)
        · skip
          refine j_iload (q := 87) (i0 := 2) F rfl dX0_isOnBehind_85 rfl ?_
          refine j_if_ne (q := 90) (t := 105) F (Pp := ru l = 0) (nI_eq0 (by omega)) dX0_isOnBehind_87 rfl rfl (fun c12 => ?_) (fun c12 => ?_)
          · skip
            refine j_iload (q := 107) (i0 := 1) F rfl dX0_isOnBehind_105 rfl ?_
            refine j_iload (q := 109) (i0 := 0) F rfl dX0_isOnBehind_107 rfl ?_
            refine j_icmp_le (q := 112) (t := 116) F (Pp := pcN (ne l &&& s) ≤ pcN (ne l) - pcN (ne l &&& s)) (nI_leI (by omega) (by omega)) dX0_isOnBehind_109 rfl rfl (fun c13 => ?_) (fun c13 => ?_)
            · skip
              refine j_iconst (q := 117) (v := nI 0) F (by decide) dX0_isOnBehind_116 rfl ?_
              exact j_zret (w2 := [(b0, .inr (0, [.ref t0, .ref b1, .ref b2, .ref b3, .int (nI lz), .int (nI lf), .int (nI ld), .int (nI lg)])), (b1, .inl (G.2.2.1, 9, .inl (nF ne))), (b2, .inl (G.2.2.1, 512, .inl md)), (b3, .inl (G.2.2.1, 512, .inl se)), (t0, .inr (6, [.int (nI n), .int (nI m), .int (nI t), .ref t1, .ref t2, .ref t3, .ref t4])), (t1, .inl (G.2.2.1, 9, .inl (nF ru)))]) F R0 rfl rfl [0, 1, 2, 3, 4, 5] rfl rfl (⟨rfl, Or.inr ⟨rfl, (by have e := bitN_1 c1; unfold lampOn; (repeat' split) <;> omega)⟩⟩) dX0_isOnBehind_117
            · skip
              refine j_iconst (q := 113) (v := nI 1) F (by decide) dX0_isOnBehind_112 rfl ?_
              refine j_goto (t := 117) F dX0_isOnBehind_113 rfl ?_
              exact j_zret (w2 := [(b0, .inr (0, [.ref t0, .ref b1, .ref b2, .ref b3, .int (nI lz), .int (nI lf), .int (nI ld), .int (nI lg)])), (b1, .inl (G.2.2.1, 9, .inl (nF ne))), (b2, .inl (G.2.2.1, 512, .inl md)), (b3, .inl (G.2.2.1, 512, .inl se)), (t0, .inr (6, [.int (nI n), .int (nI m), .int (nI t), .ref t1, .ref t2, .ref t3, .ref t4])), (t1, .inl (G.2.2.1, 9, .inl (nF ru)))]) F R0 rfl rfl [0, 1, 2, 3, 4, 5] rfl rfl (⟨rfl, Or.inl ⟨rfl, (by have e := bitN_1 c1; unfold lampOn; (repeat' split) <;> omega)⟩⟩) dX0_isOnBehind_117
          · skip
            refine j_iload (q := 92) (i0 := 1) F rfl dX0_isOnBehind_90 rfl ?_
            refine j_iload (q := 94) (i0 := 0) F rfl dX0_isOnBehind_92 rfl ?_
            refine j_icmp_ge (q := 97) (t := 101) F (Pp := pcN (ne l) - pcN (ne l &&& s) ≤ pcN (ne l &&& s)) (nI_leI (by omega) (by omega)) dX0_isOnBehind_94 rfl rfl (fun c14 => ?_) (fun c14 => ?_)
            · skip
              refine j_iconst (q := 102) (v := nI 0) F (by decide) dX0_isOnBehind_101 rfl ?_
              refine j_goto (t := 117) F dX0_isOnBehind_102 rfl ?_
              exact j_zret (w2 := [(b0, .inr (0, [.ref t0, .ref b1, .ref b2, .ref b3, .int (nI lz), .int (nI lf), .int (nI ld), .int (nI lg)])), (b1, .inl (G.2.2.1, 9, .inl (nF ne))), (b2, .inl (G.2.2.1, 512, .inl md)), (b3, .inl (G.2.2.1, 512, .inl se)), (t0, .inr (6, [.int (nI n), .int (nI m), .int (nI t), .ref t1, .ref t2, .ref t3, .ref t4])), (t1, .inl (G.2.2.1, 9, .inl (nF ru)))]) F R0 rfl rfl [0, 1, 2, 3, 4, 5] rfl rfl (⟨rfl, Or.inr ⟨rfl, (by have e := bitN_1 c1; unfold lampOn; (repeat' split) <;> omega)⟩⟩) dX0_isOnBehind_117
            · skip
              refine j_iconst (q := 98) (v := nI 1) F (by decide) dX0_isOnBehind_97 rfl ?_
              refine j_goto (t := 117) F dX0_isOnBehind_98 rfl ?_
              exact j_zret (w2 := [(b0, .inr (0, [.ref t0, .ref b1, .ref b2, .ref b3, .int (nI lz), .int (nI lf), .int (nI ld), .int (nI lg)])), (b1, .inl (G.2.2.1, 9, .inl (nF ne))), (b2, .inl (G.2.2.1, 512, .inl md)), (b3, .inl (G.2.2.1, 512, .inl se)), (t0, .inr (6, [.int (nI n), .int (nI m), .int (nI t), .ref t1, .ref t2, .ref t3, .ref t4])), (t1, .inl (G.2.2.1, 9, .inl (nF ru)))]) F R0 rfl rfl [0, 1, 2, 3, 4, 5] rfl rfl (⟨rfl, Or.inl ⟨rfl, (by have e := bitN_1 c1; unfold lampOn; (repeat' split) <;> omega)⟩⟩) dX0_isOnBehind_117
        · skip
          refine j_iload_n (q := 84) (i0 := 3) F rfl dX0_isOnBehind_83 rfl ?_
          exact j_zret (w2 := [(b0, .inr (0, [.ref t0, .ref b1, .ref b2, .ref b3, .int (nI lz), .int (nI lf), .int (nI ld), .int (nI lg)])), (b1, .inl (G.2.2.1, 9, .inl (nF ne))), (b2, .inl (G.2.2.1, 512, .inl md)), (b3, .inl (G.2.2.1, 512, .inl se)), (t0, .inr (6, [.int (nI n), .int (nI m), .int (nI t), .ref t1, .ref t2, .ref t3, .ref t4])), (t1, .inl (G.2.2.1, 9, .inl (nF ru)))]) F R0 rfl rfl [0, 1, 2, 3, 4, 5] rfl rfl (⟨rfl, Or.inl ⟨rfl, (by have e := bitN_1 c1; unfold lampOn; (repeat' split) <;> omega)⟩⟩) dX0_isOnBehind_84
    · skip
      refine j_iload_n (q := 33) (i0 := 1) F rfl dX0_isOnBehind_32 rfl ?_
      refine j_if_ne (q := 36) (t := 40) F (cf (by decide)) dX0_isOnBehind_33 rfl rfl (fun _ => ?_) (fun z => False.elim z)
      refine j_iconst (q := 41) (v := nI 0) F (by decide) dX0_isOnBehind_40 rfl ?_
      exact j_zret (w2 := [(b0, .inr (0, [.ref t0, .ref b1, .ref b2, .ref b3, .int (nI lz), .int (nI lf), .int (nI ld), .int (nI lg)])), (b1, .inl (G.2.2.1, 9, .inl (nF ne))), (b2, .inl (G.2.2.1, 512, .inl md)), (b3, .inl (G.2.2.1, 512, .inl se)), (t0, .inr (6, [.int (nI n), .int (nI m), .int (nI t), .ref t1, .ref t2, .ref t3, .ref t4])), (t1, .inl (G.2.2.1, 9, .inl (nF ru)))]) F R0 rfl rfl [0, 1, 2, 3, 4, 5] rfl rfl (⟨rfl, Or.inr ⟨rfl, (by have e := bitN_1 c1; unfold lampOn; (repeat' split) <;> omega)⟩⟩) dX0_isOnBehind_41

set_option maxHeartbeats 4000000 in
set_option maxRecDepth 100000 in
theorem c_X0_strike (G : Gm) {b0 b1 b2 b3 t0 t1 t2 t3 t4 n m t lz lf ld lg : Nat} {ru ne f : Nat → Nat} {md se : Nat → Int32} {s : Nat} (hW : Wk n ru ne f) (hs : s < 512) : Mg G yX0_strike cX0_strike 4 (some .int) ({ frames := 2, cells := 0, slots := 0, locals := 46 } : Room) 0 0 [.ref b0, .int (nI s)] [(b0, .inr (0, [.ref t0, .ref b1, .ref b2, .ref b3, .int (nI lz), .int (nI lf), .int (nI ld), .int (nI lg)])), (b1, .inl (G.2.2.1, 9, .inl (nF ne))), (b2, .inl (G.2.2.1, 512, .inl md)), (b3, .inl (G.2.2.1, 512, .inl se)), (t0, .inr (6, [.int (nI n), .int (nI m), .int (nI t), .ref t1, .ref t2, .ref t3, .ref t4])), (t1, .inl (G.2.2.1, 9, .inl (nF ru)))] (fun r w2 => w2 = [(b0, .inr (0, [.ref t0, .ref b1, .ref b2, .ref b3, .int (nI lz), .int (nI lf), .int (nI ld), .int (nI lg)])), (b1, .inl (G.2.2.1, 9, .inl (nF ne))), (b2, .inl (G.2.2.1, 512, .inl md)), (b3, .inl (G.2.2.1, 512, .inl se)), (t0, .inr (6, [.int (nI n), .int (nI m), .int (nI t), .ref t1, .ref t2, .ref t3, .ref t4])), (t1, .inl (G.2.2.1, 9, .inl (nF ru)))] ∧ r = some (.int (nI (f s)))) := by
  have hn := hW.1
  refine Mg.mk (lv := [(0, .ref b0), (1, .int (nI s))]) (by decide) rfl rfl (fun X F R0 => ?_)
  refine j_iconst (q := 1) (v := nI 0) F (by decide) dX0_strike_0 rfl ?_
  refine j_istore_n (q := 2) (lv' := [(2, .int (nI 0)), (0, .ref b0), (1, .int (nI s))]) F dX0_strike_1 (by decide) rfl rfl ?_
  refine j_iconst (q := 3) (v := nI 0) F (by decide) dX0_strike_2 rfl ?_
  refine j_istore_n (q := 4) (lv' := [(3, .int (nI 0)), (2, .int (nI 0)), (0, .ref b0), (1, .int (nI s))]) F dX0_strike_3 (by decide) rfl rfl ?_
  have lp1 : ∀ (fu : Nat) (l : Nat) (hl : l ≤ n), (n - l) < fu → Jw G X 4 0 0 4 [(0, .ref b0), (1, .int (nI s)), (2, .int (nI (rg ru ne s l))), (3, .int (nI l))] [] [(b0, .inr (0, [.ref t0, .ref b1, .ref b2, .ref b3, .int (nI lz), .int (nI lf), .int (nI ld), .int (nI lg)])), (b1, .inl (G.2.2.1, 9, .inl (nF ne))), (b2, .inl (G.2.2.1, 512, .inl md)), (b3, .inl (G.2.2.1, 512, .inl se)), (t0, .inr (6, [.int (nI n), .int (nI m), .int (nI t), .ref t1, .ref t2, .ref t3, .ref t4])), (t1, .inl (G.2.2.1, 9, .inl (nF ru)))] := by
    intro fu
    induction fu with
    | zero => intro l hl hfu; exact absurd hfu (Nat.not_lt_zero _)
    | succ fu ih1 =>
      intro l hl hfu
      refine j_iload_n (q := 5) (i0 := 3) F rfl dX0_strike_4 rfl ?_
      refine j_aload_n (q := 6) (i0 := 0) F rfl dX0_strike_5 rfl ?_
      refine j_get (q := 9) (ci := 0) (q0 := 0) (kf := 0) (v := .ref t0) F inX0 rfl rfl rfl tw_189 rfl rfl dX0_strike_6 rfl ?_
      refine j_get (q := 12) (ci := 6) (q0 := 4) (kf := 0) (v := .int (nI n)) F inX6 rfl rfl rfl tw_90 rfl rfl dX0_strike_9 rfl ?_
      refine j_icmp_ge (q := 15) (t := 36) F (Pp := n ≤ l) (nI_leI (by omega) (by omega)) dX0_strike_12 rfl rfl (fun c2 => ?_) (fun c2 => ?_)
      · skip
        refine j_iload_n (q := 37) (i0 := 2) F rfl dX0_strike_36 rfl ?_
        exact j_iret (w2 := [(b0, .inr (0, [.ref t0, .ref b1, .ref b2, .ref b3, .int (nI lz), .int (nI lf), .int (nI ld), .int (nI lg)])), (b1, .inl (G.2.2.1, 9, .inl (nF ne))), (b2, .inl (G.2.2.1, 512, .inl md)), (b3, .inl (G.2.2.1, 512, .inl se)), (t0, .inr (6, [.int (nI n), .int (nI m), .int (nI t), .ref t1, .ref t2, .ref t3, .ref t4])), (t1, .inl (G.2.2.1, 9, .inl (nF ru)))]) F R0 rfl [0, 1, 2, 3, 4, 5] rfl rfl (by rw [← hW.2.2.2 s hs, show l = n by omega]; exact ⟨rfl, rfl⟩) dX0_strike_37
      · skip
        have h_l : l < n := by omega
        refine j_aload_n (q := 16) (i0 := 0) F rfl dX0_strike_15 rfl ?_
        refine j_iload_n (q := 17) (i0 := 3) F rfl dX0_strike_16 rfl ?_
        refine j_iload_n (q := 18) (i0 := 1) F rfl dX0_strike_17 rfl ?_
        refine j_callV (q := 21) (ci := 0) (q0 := 0) (As := [.int (nI l), .int (nI s)]) (wr := []) (st := []) F (c_X0_isOnBehind G hW (l := l) (s := s) h_l hs) kwX0_isOnBehind tw_449 tw_10 tw_447 ⟨Nat.le_of_ble_eq_true rfl, Nat.le_of_ble_eq_true rfl, rfl, rfl, Nat.le_of_ble_eq_true rfl, Nat.le_of_ble_eq_true rfl⟩ [0, 1, 2, 3, 4, 5] [] rfl rfl rfl rfl rfl rfl rfl rfl rfl (Nat.le_of_ble_eq_true rfl) dX0_strike_18 rfl ?_
        rintro r_ w_ ⟨rfl, (⟨rfl, hon⟩ | ⟨rfl, hon⟩)⟩
        · skip
          refine j_w (w' := [(b0, .inr (0, [.ref t0, .ref b1, .ref b2, .ref b3, .int (nI lz), .int (nI lf), .int (nI ld), .int (nI lg)])), (b1, .inl (G.2.2.1, 9, .inl (nF ne))), (b2, .inl (G.2.2.1, 512, .inl md)), (b3, .inl (G.2.2.1, 512, .inl se)), (t0, .inr (6, [.int (nI n), .int (nI m), .int (nI t), .ref t1, .ref t2, .ref t3, .ref t4])), (t1, .inl (G.2.2.1, 9, .inl (nF ru)))]) [0, 1, 2, 3, 4, 5] rfl rfl ?_
          show Jw G X _ 0 0 21 _ [.int (nI 1)] _
          refine j_if_eq (q := 24) (t := 30) F (cf (by decide)) dX0_strike_21 rfl rfl (fun z => False.elim z) (fun _ => ?_)
          refine j_iload_n (q := 25) (i0 := 2) F rfl dX0_strike_24 rfl ?_
          refine j_iconst (q := 26) (v := nI 1) F (by decide) dX0_strike_25 rfl ?_
          refine j_iload_n (q := 27) (i0 := 3) F rfl dX0_strike_26 rfl ?_
          refine j_ishl (q := 28) (v := nI (2 ^ l)) F (nx_shl1 (by omega)) dX0_strike_27 rfl ?_
          refine j_ior (q := 29) (v := nI ((rg ru ne s l) ||| (2 ^ l))) F (nx_or _ _) dX0_strike_28 rfl ?_
          refine j_istore_n (q := 30) (lv' := [(2, .int (nI ((rg ru ne s l) ||| (2 ^ l)))), (0, .ref b0), (1, .int (nI s)), (3, .int (nI l))]) F dX0_strike_29 (by decide) rfl rfl ?_
          refine j_iinc (q := 33) (i0 := 3) (v := nI (l + 1)) (lv' := [(3, .int (nI (l + 1))), (2, .int (nI ((rg ru ne s l) ||| (2 ^ l)))), (0, .ref b0), (1, .int (nI s))]) F dX0_strike_30 rfl (nI_add _ _) (by decide) rfl rfl ?_
          refine j_goto (t := 4) F dX0_strike_33 rfl ?_
          rw [rg_1 hon]
          refine j_lv [2, 3, 1, 0] (lv' := [(0, .ref b0), (1, .int (nI s)), (2, .int (nI (rg ru ne s (l + 1)))), (3, .int (nI (l + 1)))]) rfl ?_
          exact ih1 (l + 1) (by omega) (by omega)
        · skip
          refine j_w (w' := [(b0, .inr (0, [.ref t0, .ref b1, .ref b2, .ref b3, .int (nI lz), .int (nI lf), .int (nI ld), .int (nI lg)])), (b1, .inl (G.2.2.1, 9, .inl (nF ne))), (b2, .inl (G.2.2.1, 512, .inl md)), (b3, .inl (G.2.2.1, 512, .inl se)), (t0, .inr (6, [.int (nI n), .int (nI m), .int (nI t), .ref t1, .ref t2, .ref t3, .ref t4])), (t1, .inl (G.2.2.1, 9, .inl (nF ru)))]) [0, 1, 2, 3, 4, 5] rfl rfl ?_
          show Jw G X _ 0 0 21 _ [.int (nI 0)] _
          refine j_if_eq (q := 24) (t := 30) F (ct (by decide)) dX0_strike_21 rfl rfl (fun _ => ?_) (fun z => absurd trivial z)
          refine j_iinc (q := 33) (i0 := 3) (v := nI (l + 1)) (lv' := [(3, .int (nI (l + 1))), (0, .ref b0), (1, .int (nI s)), (2, .int (nI (rg ru ne s l)))]) F dX0_strike_30 rfl (nI_add _ _) (by decide) rfl rfl ?_
          refine j_goto (t := 4) F dX0_strike_33 rfl ?_
          rw [rg_0 hon]
          refine j_lv [1, 2, 3, 0] (lv' := [(0, .ref b0), (1, .int (nI s)), (2, .int (nI (rg ru ne s (l + 1)))), (3, .int (nI (l + 1)))]) rfl ?_
          exact ih1 (l + 1) (by omega) (by omega)
  refine j_lv [2, 3, 1, 0] (lv' := [(0, .ref b0), (1, .int (nI s)), (2, .int (nI 0)), (3, .int (nI 0))]) rfl ?_
  exact lp1 _ 0 (Nat.zero_le _) (Nat.lt_succ_self _)

set_option maxHeartbeats 4000000 in
set_option maxRecDepth 100000 in
theorem c_X0_struck (G : Gm) {b0 b1 b2 b3 t0 t1 t2 t3 t4 n m t lz lf ld lg : Nat} {ru ne f : Nat → Nat} {md se : Nat → Int32} {s : Nat} (hW : Wk n ru ne f) (hm : MdOk f md) (hs : s < 512) : Mg G yX0_struck cX0_struck 2 (some .int) ({ frames := 3, cells := 0, slots := 0, locals := 69 } : Room) 0 0 [.ref b0, .int (nI s)] [(b0, .inr (0, [.ref t0, .ref b1, .ref b2, .ref b3, .int (nI lz), .int (nI lf), .int (nI ld), .int (nI lg)])), (b1, .inl (G.2.2.1, 9, .inl (nF ne))), (b2, .inl (G.2.2.1, 512, .inl md)), (b3, .inl (G.2.2.1, 512, .inl se)), (t0, .inr (6, [.int (nI n), .int (nI m), .int (nI t), .ref t1, .ref t2, .ref t3, .ref t4])), (t1, .inl (G.2.2.1, 9, .inl (nF ru)))] (fun r w2 => ∃ md2, MdOk f md2 ∧ r = some (.int (nI (f s))) ∧ w2 = [(b0, .inr (0, [.ref t0, .ref b1, .ref b2, .ref b3, .int (nI lz), .int (nI lf), .int (nI ld), .int (nI lg)])), (b1, .inl (G.2.2.1, 9, .inl (nF ne))), (b2, .inl (G.2.2.1, 512, .inl md2)), (b3, .inl (G.2.2.1, 512, .inl se)), (t0, .inr (6, [.int (nI n), .int (nI m), .int (nI t), .ref t1, .ref t2, .ref t3, .ref t4])), (t1, .inl (G.2.2.1, 9, .inl (nF ru)))]) := by
  refine Mg.mk (lv := [(0, .ref b0), (1, .int (nI s))]) (by decide) rfl rfl (fun X F R0 => ?_)
  refine j_iload_n (q := 1) (i0 := 1) F rfl dX0_struck_0 rfl ?_
  refine j_if_lt (q := 4) (t := 11) F (Pp := False) (cf (nI_pos (by omega))) dX0_struck_1 rfl rfl (fun c1 => ?_) (fun c1 => ?_)
  · exact c1.elim
  · skip
    refine j_iload_n (q := 5) (i0 := 1) F rfl dX0_struck_4 rfl ?_
    refine j_sipush (q := 8) (v := nI 512) F (by decide) dX0_struck_5 rfl ?_
    refine j_icmp_lt (q := 11) (t := 13) F (Pp := s < 512) (nI_ltI (by omega) (by omega)) dX0_struck_8 rfl rfl (fun c2 => ?_) (fun c2 => ?_)
    · skip
      refine j_aload_n (q := 14) (i0 := 0) F rfl dX0_struck_13 rfl ?_
      refine j_get (q := 17) (ci := 0) (q0 := 0) (kf := 2) (v := .ref b2) F inX0 rfl rfl rfl tw_192 rfl rfl dX0_struck_14 rfl ?_
      refine j_iload_n (q := 18) (i0 := 1) F rfl dX0_struck_17 rfl ?_
      refine j_iald (q := 19) (q0 := 2) (i := s) (v := md s) F rfl rfl (by omega) rfl (rfl) dX0_struck_18 rfl ?_
      refine j_iconst (q := 20) (v := (-1)) F (by decide) dX0_struck_19 rfl ?_
      refine j_icmp_ne (q := 23) (t := 34) F (Pp := md s = (-1)) (Iff.rfl) dX0_struck_20 rfl rfl (fun c3 => ?_) (fun c3 => ?_)
      · skip
        refine j_aload_n (q := 35) (i0 := 0) F rfl dX0_struck_34 rfl ?_
        refine j_get (q := 38) (ci := 0) (q0 := 0) (kf := 2) (v := .ref b2) F inX0 rfl rfl rfl tw_192 rfl rfl dX0_struck_35 rfl ?_
        refine j_iload_n (q := 39) (i0 := 1) F rfl dX0_struck_38 rfl ?_
        refine j_iald (q := 40) (q0 := 2) (i := s) (v := nI (f s)) F rfl rfl (by omega) rfl ((hm s hs).resolve_left c3) dX0_struck_39 rfl ?_
        exact j_iret (w2 := [(b0, .inr (0, [.ref t0, .ref b1, .ref b2, .ref b3, .int (nI lz), .int (nI lf), .int (nI ld), .int (nI lg)])), (b1, .inl (G.2.2.1, 9, .inl (nF ne))), (b2, .inl (G.2.2.1, 512, .inl md)), (b3, .inl (G.2.2.1, 512, .inl se)), (t0, .inr (6, [.int (nI n), .int (nI m), .int (nI t), .ref t1, .ref t2, .ref t3, .ref t4])), (t1, .inl (G.2.2.1, 9, .inl (nF ru)))]) F R0 rfl [0, 1, 2, 3, 4, 5] rfl rfl (⟨_, hm, rfl, rfl⟩) dX0_struck_40
      · skip
        refine j_aload_n (q := 24) (i0 := 0) F rfl dX0_struck_23 rfl ?_
        refine j_get (q := 27) (ci := 0) (q0 := 0) (kf := 2) (v := .ref b2) F inX0 rfl rfl rfl tw_192 rfl rfl dX0_struck_24 rfl ?_
        refine j_iload_n (q := 28) (i0 := 1) F rfl dX0_struck_27 rfl ?_
        refine j_aload_n (q := 29) (i0 := 0) F rfl dX0_struck_28 rfl ?_
        refine j_iload_n (q := 30) (i0 := 1) F rfl dX0_struck_29 rfl ?_
        refine j_callV (q := 33) (ci := 0) (q0 := 0) (As := [.int (nI s)]) (wr := []) (st := [.int (nI s), .ref b2]) F (c_X0_strike G hW hs) kwX0_strike tw_445 tw_9 tw_443 ⟨Nat.le_of_ble_eq_true rfl, Nat.le_of_ble_eq_true rfl, rfl, rfl, Nat.le_of_ble_eq_true rfl, Nat.le_of_ble_eq_true rfl⟩ [0, 1, 2, 3, 4, 5] [] rfl rfl rfl rfl rfl rfl rfl rfl rfl (Nat.le_of_ble_eq_true rfl) dX0_struck_30 rfl ?_
        rintro r_ w_ ⟨rfl, rfl⟩
        refine j_w (w' := [(b0, .inr (0, [.ref t0, .ref b1, .ref b2, .ref b3, .int (nI lz), .int (nI lf), .int (nI ld), .int (nI lg)])), (b1, .inl (G.2.2.1, 9, .inl (nF ne))), (b2, .inl (G.2.2.1, 512, .inl md)), (b3, .inl (G.2.2.1, 512, .inl se)), (t0, .inr (6, [.int (nI n), .int (nI m), .int (nI t), .ref t1, .ref t2, .ref t3, .ref t4])), (t1, .inl (G.2.2.1, 9, .inl (nF ru)))]) [0, 1, 2, 3, 4, 5] rfl rfl ?_
        show Jw G X _ 0 0 33 _ [.int (nI (f s)), .int (nI s), .ref b2] _
        refine j_iast (q := 34) (q0 := 2) (i := s) (f2 := upd md s (nI (f s))) (w' := [(b0, .inr (0, [.ref t0, .ref b1, .ref b2, .ref b3, .int (nI lz), .int (nI lf), .int (nI ld), .int (nI lg)])), (b1, .inl (G.2.2.1, 9, .inl (nF ne))), (b2, .inl (G.2.2.1, 512, .inl (upd md s (nI (f s))))), (b3, .inl (G.2.2.1, 512, .inl se)), (t0, .inr (6, [.int (nI n), .int (nI m), .int (nI t), .ref t1, .ref t2, .ref t3, .ref t4])), (t1, .inl (G.2.2.1, 9, .inl (nF ru)))]) F rfl rfl (by omega) rfl (rfl) rfl dX0_struck_33 rfl ?_
        refine j_aload_n (q := 35) (i0 := 0) F rfl dX0_struck_34 rfl ?_
        refine j_get (q := 38) (ci := 0) (q0 := 0) (kf := 2) (v := .ref b2) F inX0 rfl rfl rfl tw_192 rfl rfl dX0_struck_35 rfl ?_
        refine j_iload_n (q := 39) (i0 := 1) F rfl dX0_struck_38 rfl ?_
        refine j_iald (q := 40) (q0 := 2) (i := s) (v := nI (f s)) F rfl rfl (by omega) rfl (pk_us) dX0_struck_39 rfl ?_
        exact j_iret (w2 := [(b0, .inr (0, [.ref t0, .ref b1, .ref b2, .ref b3, .int (nI lz), .int (nI lf), .int (nI ld), .int (nI lg)])), (b1, .inl (G.2.2.1, 9, .inl (nF ne))), (b2, .inl (G.2.2.1, 512, .inl (upd md s (nI (f s))))), (b3, .inl (G.2.2.1, 512, .inl se)), (t0, .inr (6, [.int (nI n), .int (nI m), .int (nI t), .ref t1, .ref t2, .ref t3, .ref t4])), (t1, .inl (G.2.2.1, 9, .inl (nF ru)))]) F R0 rfl [0, 1, 2, 3, 4, 5] rfl rfl (⟨_, hm.up s, rfl, rfl⟩) dX0_struck_40
    · exact absurd hs c2

set_option maxHeartbeats 4000000 in
set_option maxRecDepth 100000 in
theorem c_X0_struckOften (G : Gm) {b0 b1 b2 b3 t0 t1 t2 t3 t4 n m t lz lf ld lg : Nat} {ru ne f : Nat → Nat} {md se : Nat → Int32} {s k : Nat} (hW : Wk n ru ne f) (hm : MdOk f md) (hs : s < 512) (hk : k ≤ 1000) : Mg G yX0_struckOften cX0_struckOften 5 (some .int) ({ frames := 4, cells := 0, slots := 0, locals := 90 } : Room) 0 0 [.ref b0, .int (nI s), .int (nI k)] [(b0, .inr (0, [.ref t0, .ref b1, .ref b2, .ref b3, .int (nI lz), .int (nI lf), .int (nI ld), .int (nI lg)])), (b1, .inl (G.2.2.1, 9, .inl (nF ne))), (b2, .inl (G.2.2.1, 512, .inl md)), (b3, .inl (G.2.2.1, 512, .inl se)), (t0, .inr (6, [.int (nI n), .int (nI m), .int (nI t), .ref t1, .ref t2, .ref t3, .ref t4])), (t1, .inl (G.2.2.1, 9, .inl (nF ru)))] (fun r w2 => ∃ md2, MdOk f md2 ∧ r = some (.int (nI (it f k s))) ∧ w2 = [(b0, .inr (0, [.ref t0, .ref b1, .ref b2, .ref b3, .int (nI lz), .int (nI lf), .int (nI ld), .int (nI lg)])), (b1, .inl (G.2.2.1, 9, .inl (nF ne))), (b2, .inl (G.2.2.1, 512, .inl md2)), (b3, .inl (G.2.2.1, 512, .inl se)), (t0, .inr (6, [.int (nI n), .int (nI m), .int (nI t), .ref t1, .ref t2, .ref t3, .ref t4])), (t1, .inl (G.2.2.1, 9, .inl (nF ru)))]) := by
  refine Mg.mk (lv := [(0, .ref b0), (1, .int (nI s)), (2, .int (nI k))]) (by decide) rfl rfl (fun X F R0 => ?_)
  refine j_iload_n (q := 1) (i0 := 1) F rfl dX0_struckOften_0 rfl ?_
  refine j_istore_n (q := 2) (lv' := [(3, .int (nI s)), (0, .ref b0), (1, .int (nI s)), (2, .int (nI k))]) F dX0_struckOften_1 (by decide) rfl rfl ?_
  refine j_iconst (q := 3) (v := nI 0) F (by decide) dX0_struckOften_2 rfl ?_
  refine j_istore (q := 5) (lv' := [(4, .int (nI 0)), (3, .int (nI s)), (0, .ref b0), (1, .int (nI s)), (2, .int (nI k))]) F dX0_struckOften_3 (by decide) rfl rfl ?_
  have lp1 : ∀ (fu : Nat) (b : Nat) (md1 : Nat → Int32) (hb : b ≤ k) (hm1 : MdOk f md1), (k - b) < fu → Jw G X 5 0 0 5 [(0, .ref b0), (1, .int (nI s)), (2, .int (nI k)), (3, .int (nI (it f b s))), (4, .int (nI b))] [] [(b0, .inr (0, [.ref t0, .ref b1, .ref b2, .ref b3, .int (nI lz), .int (nI lf), .int (nI ld), .int (nI lg)])), (b1, .inl (G.2.2.1, 9, .inl (nF ne))), (b2, .inl (G.2.2.1, 512, .inl md1)), (b3, .inl (G.2.2.1, 512, .inl se)), (t0, .inr (6, [.int (nI n), .int (nI m), .int (nI t), .ref t1, .ref t2, .ref t3, .ref t4])), (t1, .inl (G.2.2.1, 9, .inl (nF ru)))] := by
    intro fu
    induction fu with
    | zero => intro b md1 hb hm1 hfu; exact absurd hfu (Nat.not_lt_zero _)
    | succ fu ih1 =>
      intro b md1 hb hm1 hfu
      refine j_iload (q := 7) (i0 := 4) F rfl dX0_struckOften_5 rfl ?_
      refine j_iload_n (q := 8) (i0 := 2) F rfl dX0_struckOften_7 rfl ?_
      refine j_icmp_ge (q := 11) (t := 23) F (Pp := k ≤ b) (nI_leI (by omega) (by omega)) dX0_struckOften_8 rfl rfl (fun c2 => ?_) (fun c2 => ?_)
      · skip
        refine j_iload_n (q := 24) (i0 := 3) F rfl dX0_struckOften_23 rfl ?_
        exact j_iret (w2 := [(b0, .inr (0, [.ref t0, .ref b1, .ref b2, .ref b3, .int (nI lz), .int (nI lf), .int (nI ld), .int (nI lg)])), (b1, .inl (G.2.2.1, 9, .inl (nF ne))), (b2, .inl (G.2.2.1, 512, .inl md1)), (b3, .inl (G.2.2.1, 512, .inl se)), (t0, .inr (6, [.int (nI n), .int (nI m), .int (nI t), .ref t1, .ref t2, .ref t3, .ref t4])), (t1, .inl (G.2.2.1, 9, .inl (nF ru)))]) F R0 rfl [0, 1, 2, 3, 4, 5] rfl rfl (by rw [show k = b by omega]; exact ⟨_, hm1, rfl, rfl⟩) dX0_struckOften_24
      · skip
        refine j_aload_n (q := 12) (i0 := 0) F rfl dX0_struckOften_11 rfl ?_
        refine j_iload_n (q := 13) (i0 := 3) F rfl dX0_struckOften_12 rfl ?_
        refine j_callV (q := 16) (ci := 0) (q0 := 0) (As := [.int (nI (it f b s))]) (wr := []) (st := []) F (c_X0_struck G hW hm1 (s := it f b s) (it_lt hW.f5 hs b)) kwX0_struck tw_440 tw_441 tw_480 ⟨Nat.le_of_ble_eq_true rfl, Nat.le_of_ble_eq_true rfl, rfl, rfl, Nat.le_of_ble_eq_true rfl, Nat.le_of_ble_eq_true rfl⟩ [0, 1, 2, 3, 4, 5] [] rfl rfl rfl rfl rfl rfl rfl rfl rfl (Nat.le_of_ble_eq_true rfl) dX0_struckOften_13 rfl ?_
        rintro r_ w_ ⟨md2, hm2, rfl, rfl⟩
        refine j_w (w' := [(b0, .inr (0, [.ref t0, .ref b1, .ref b2, .ref b3, .int (nI lz), .int (nI lf), .int (nI ld), .int (nI lg)])), (b1, .inl (G.2.2.1, 9, .inl (nF ne))), (b2, .inl (G.2.2.1, 512, .inl md2)), (b3, .inl (G.2.2.1, 512, .inl se)), (t0, .inr (6, [.int (nI n), .int (nI m), .int (nI t), .ref t1, .ref t2, .ref t3, .ref t4])), (t1, .inl (G.2.2.1, 9, .inl (nF ru)))]) [0, 1, 2, 3, 4, 5] rfl rfl ?_
        show Jw G X _ 0 0 16 _ [.int (nI (f (it f b s)))] _
        refine j_istore_n (q := 17) (lv' := [(3, .int (nI (f (it f b s)))), (0, .ref b0), (1, .int (nI s)), (2, .int (nI k)), (4, .int (nI b))]) F dX0_struckOften_16 (by decide) rfl rfl ?_
        refine j_iinc (q := 20) (i0 := 4) (v := nI (b + 1)) (lv' := [(4, .int (nI (b + 1))), (3, .int (nI (f (it f b s)))), (0, .ref b0), (1, .int (nI s)), (2, .int (nI k))]) F dX0_struckOften_17 rfl (nI_add _ _) (by decide) rfl rfl ?_
        refine j_goto (t := 5) F dX0_struckOften_20 rfl ?_
        refine j_lv [2, 3, 4, 1, 0] (lv' := [(0, .ref b0), (1, .int (nI s)), (2, .int (nI k)), (3, .int (nI (f (it f b s)))), (4, .int (nI (b + 1)))]) rfl ?_
        exact ih1 (b + 1) md2 (by omega) hm2 (by omega)
  refine j_lv [2, 3, 4, 1, 0] (lv' := [(0, .ref b0), (1, .int (nI s)), (2, .int (nI k)), (3, .int (nI s)), (4, .int (nI 0))]) rfl ?_
  exact lp1 _ 0 md (Nat.zero_le _) hm (Nat.lt_succ_self _)

set_option maxHeartbeats 4000000 in
set_option maxRecDepth 100000 in
theorem c_X0_findRound (G : Gm) {b0 b1 b2 b3 t0 t1 t2 t3 t4 n m t lz lf ld lg : Nat} {ru ne f : Nat → Nat} {md se : Nat → Int32} {s : Nat} (hW : Wk n ru ne f) (hm : MdOk f md) (hs : s < 512) : Mg G yX0_findRound cX0_findRound 4 none ({ frames := 4, cells := 0, slots := 0, locals := 90 } : Room) 0 0 [.ref b0, .int (nI s)] [(b0, .inr (0, [.ref t0, .ref b1, .ref b2, .ref b3, .int (nI lz), .int (nI lf), .int (nI ld), .int (nI lg)])), (b1, .inl (G.2.2.1, 9, .inl (nF ne))), (b2, .inl (G.2.2.1, 512, .inl md)), (b3, .inl (G.2.2.1, 512, .inl se)), (t0, .inr (6, [.int (nI n), .int (nI m), .int (nI t), .ref t1, .ref t2, .ref t3, .ref t4])), (t1, .inl (G.2.2.1, 9, .inl (nF ru)))] (fun r w2 => ∃ md2 se2 ld2 lg2, MdOk f md2 ∧ IsRnd f s ld2 lg2 ∧ ld2 < 512 ∧ lg2 ≤ 512 ∧ r = none ∧ w2 = [(b0, .inr (0, [.ref t0, .ref b1, .ref b2, .ref b3, .int (nI lz), .int (nI lf), .int (nI ld2), .int (nI lg2)])), (b1, .inl (G.2.2.1, 9, .inl (nF ne))), (b2, .inl (G.2.2.1, 512, .inl md2)), (b3, .inl (G.2.2.1, 512, .inl se2)), (t0, .inr (6, [.int (nI n), .int (nI m), .int (nI t), .ref t1, .ref t2, .ref t3, .ref t4])), (t1, .inl (G.2.2.1, 9, .inl (nF ru)))]) := by
  refine Mg.mk (lv := [(0, .ref b0), (1, .int (nI s))]) (by decide) rfl rfl (fun X F R0 => ?_)
  refine j_aload_n (q := 1) (i0 := 0) F rfl dX0_findRound_0 rfl ?_
  refine j_get (q := 4) (ci := 0) (q0 := 0) (kf := 3) (v := .ref b3) F inX0 rfl rfl rfl tw_193 rfl rfl dX0_findRound_1 rfl ?_
  refine j_iconst (q := 5) (v := (-1)) F (by decide) dX0_findRound_4 rfl ?_
  refine j_callS (q := 8) (As := [.ref b3, .int (-1)]) (wr := [(b0, .inr (0, [.ref t0, .ref b1, .ref b2, .ref b3, .int (nI lz), .int (nI lf), .int (nI ld), .int (nI lg)])), (b1, .inl (G.2.2.1, 9, .inl (nF ne))), (b2, .inl (G.2.2.1, 512, .inl md)), (t0, .inr (6, [.int (nI n), .int (nI m), .int (nI t), .ref t1, .ref t2, .ref t3, .ref t4])), (t1, .inl (G.2.2.1, 9, .inl (nF ru)))]) (st := []) F (c_fill G (f := se) (v := -1) rfl) kwJ7_fill_53178 tw_319 tw_420 ⟨Nat.le_of_ble_eq_true rfl, Nat.le_of_ble_eq_true rfl, rfl, rfl, Nat.le_of_ble_eq_true rfl, Nat.le_of_ble_eq_true rfl⟩ [3] [0, 1, 2, 4, 5] rfl rfl rfl rfl rfl rfl rfl (Nat.le_of_ble_eq_true rfl) dX0_findRound_5 rfl ?_
  rintro r_ w_ ⟨rfl, rfl⟩
  refine j_w (w' := [(b0, .inr (0, [.ref t0, .ref b1, .ref b2, .ref b3, .int (nI lz), .int (nI lf), .int (nI ld), .int (nI lg)])), (b1, .inl (G.2.2.1, 9, .inl (nF ne))), (b2, .inl (G.2.2.1, 512, .inl md)), (b3, .inl (G.2.2.1, 512, .inl (fillF se (-1) 512))), (t0, .inr (6, [.int (nI n), .int (nI m), .int (nI t), .ref t1, .ref t2, .ref t3, .ref t4])), (t1, .inl (G.2.2.1, 9, .inl (nF ru)))]) [0, 1, 2, 5, 3, 4] rfl rfl ?_
  show Jw G X _ 0 0 8 _ [] _
  refine j_iload_n (q := 9) (i0 := 1) F rfl dX0_findRound_8 rfl ?_
  refine j_istore_n (q := 10) (lv' := [(2, .int (nI s)), (0, .ref b0), (1, .int (nI s))]) F dX0_findRound_9 (by decide) rfl rfl ?_
  refine j_iconst (q := 11) (v := nI 0) F (by decide) dX0_findRound_10 rfl ?_
  refine j_istore_n (q := 12) (lv' := [(3, .int (nI 0)), (2, .int (nI s)), (0, .ref b0), (1, .int (nI s))]) F dX0_findRound_11 (by decide) rfl rfl ?_
  have lp1 : ∀ (fu : Nat) (b : Nat) (md1 : Nat → Int32) (se1 : Nat → Int32) (hb : b ≤ 512) (hm1 : MdOk f md1) (hse : SeOk f s b se1), (513 - b) < fu → Jw G X 4 0 0 12 [(0, .ref b0), (1, .int (nI s)), (2, .int (nI (it f b s))), (3, .int (nI b))] [] [(b0, .inr (0, [.ref t0, .ref b1, .ref b2, .ref b3, .int (nI lz), .int (nI lf), .int (nI ld), .int (nI lg)])), (b1, .inl (G.2.2.1, 9, .inl (nF ne))), (b2, .inl (G.2.2.1, 512, .inl md1)), (b3, .inl (G.2.2.1, 512, .inl se1)), (t0, .inr (6, [.int (nI n), .int (nI m), .int (nI t), .ref t1, .ref t2, .ref t3, .ref t4])), (t1, .inl (G.2.2.1, 9, .inl (nF ru)))] := by
    intro fu
    induction fu with
    | zero => intro b md1 se1 hb hm1 hse hfu; exact absurd hfu (Nat.not_lt_zero _)
    | succ fu ih1 =>
      intro b md1 se1 hb hm1 hse hfu
      have hat := it_lt hW.f5 hs b
      refine j_iload_n (q := 13) (i0 := 3) F rfl dX0_findRound_12 rfl ?_
      refine j_sipush (q := 16) (v := nI 512) F (by decide) dX0_findRound_13 rfl ?_
      refine j_icmp_gt (q := 19) (t := 81) F (Pp := 512 < b) (nI_ltI (by omega) (by omega)) dX0_findRound_16 rfl rfl (fun c2 => ?_) (fun c2 => ?_)
      · exact absurd c2 (by omega)
      · skip
        refine j_iload_n (q := 20) (i0 := 2) F rfl dX0_findRound_19 rfl ?_
        refine j_if_lt (q := 23) (t := 30) F (Pp := False) (cf (nI_pos (by omega))) dX0_findRound_20 rfl rfl (fun c3 => ?_) (fun c3 => ?_)
        · exact (c3).elim
        · skip
          refine j_iload_n (q := 24) (i0 := 2) F rfl dX0_findRound_23 rfl ?_
          refine j_sipush (q := 27) (v := nI 512) F (by decide) dX0_findRound_24 rfl ?_
          refine j_icmp_lt (q := 30) (t := 31) F (Pp := it f b s < 512) (nI_ltI (by omega) (by omega)) dX0_findRound_27 rfl rfl (fun c4 => ?_) (fun c4 => ?_)
          · skip
            refine j_aload_n (q := 32) (i0 := 0) F rfl dX0_findRound_31 rfl ?_
            refine j_get (q := 35) (ci := 0) (q0 := 0) (kf := 3) (v := .ref b3) F inX0 rfl rfl rfl tw_193 rfl rfl dX0_findRound_32 rfl ?_
            refine j_iload_n (q := 36) (i0 := 2) F rfl dX0_findRound_35 rfl ?_
            refine j_iald (q := 37) (q0 := 3) (i := (it f b s)) (v := se1 (it f b s)) F rfl rfl (by omega) rfl (rfl) dX0_findRound_36 rfl ?_
            refine j_iconst (q := 38) (v := (-1)) F (by decide) dX0_findRound_37 rfl ?_
            refine j_icmp_eq (q := 41) (t := 62) F (Pp := se1 (it f b s) = -1) (Iff.rfl) dX0_findRound_38 rfl rfl (fun c7 => ?_) (fun c7 => ?_)
            · skip
              refine j_aload_n (q := 63) (i0 := 0) F rfl dX0_findRound_62 rfl ?_
              refine j_get (q := 66) (ci := 0) (q0 := 0) (kf := 3) (v := .ref b3) F inX0 rfl rfl rfl tw_193 rfl rfl dX0_findRound_63 rfl ?_
              refine j_iload_n (q := 67) (i0 := 2) F rfl dX0_findRound_66 rfl ?_
              refine j_iload_n (q := 68) (i0 := 3) F rfl dX0_findRound_67 rfl ?_
              refine j_iast (q := 69) (q0 := 3) (i := (it f b s)) (f2 := upd se1 (it f b s) (nI b)) (w' := [(b0, .inr (0, [.ref t0, .ref b1, .ref b2, .ref b3, .int (nI lz), .int (nI lf), .int (nI ld), .int (nI lg)])), (b1, .inl (G.2.2.1, 9, .inl (nF ne))), (b2, .inl (G.2.2.1, 512, .inl md1)), (b3, .inl (G.2.2.1, 512, .inl (upd se1 (it f b s) (nI b)))), (t0, .inr (6, [.int (nI n), .int (nI m), .int (nI t), .ref t1, .ref t2, .ref t3, .ref t4])), (t1, .inl (G.2.2.1, 9, .inl (nF ru)))]) F rfl rfl (by omega) rfl (rfl) rfl dX0_findRound_68 rfl ?_
              refine j_aload_n (q := 70) (i0 := 0) F rfl dX0_findRound_69 rfl ?_
              refine j_iload_n (q := 71) (i0 := 2) F rfl dX0_findRound_70 rfl ?_
              refine j_callV (q := 74) (ci := 0) (q0 := 0) (As := [.int (nI (it f b s))]) (wr := []) (st := []) F (c_X0_struck G hW hm1 (s := it f b s) (hat)) kwX0_struck tw_440 tw_441 tw_480 ⟨Nat.le_of_ble_eq_true rfl, Nat.le_of_ble_eq_true rfl, rfl, rfl, Nat.le_of_ble_eq_true rfl, Nat.le_of_ble_eq_true rfl⟩ [0, 1, 2, 3, 4, 5] [] rfl rfl rfl rfl rfl rfl rfl rfl rfl (Nat.le_of_ble_eq_true rfl) dX0_findRound_71 rfl ?_
              rintro r_ w_ ⟨md2, hm2, rfl, rfl⟩
              refine j_w (w' := [(b0, .inr (0, [.ref t0, .ref b1, .ref b2, .ref b3, .int (nI lz), .int (nI lf), .int (nI ld), .int (nI lg)])), (b1, .inl (G.2.2.1, 9, .inl (nF ne))), (b2, .inl (G.2.2.1, 512, .inl md2)), (b3, .inl (G.2.2.1, 512, .inl (upd se1 (it f b s) (nI b)))), (t0, .inr (6, [.int (nI n), .int (nI m), .int (nI t), .ref t1, .ref t2, .ref t3, .ref t4])), (t1, .inl (G.2.2.1, 9, .inl (nF ru)))]) [0, 1, 2, 3, 4, 5] rfl rfl ?_
              show Jw G X _ 0 0 74 _ [.int (nI (f (it f b s)))] _
              refine j_istore_n (q := 75) (lv' := [(2, .int (nI (f (it f b s)))), (0, .ref b0), (1, .int (nI s)), (3, .int (nI b))]) F dX0_findRound_74 (by decide) rfl rfl ?_
              refine j_iinc (q := 78) (i0 := 3) (v := nI (b + 1)) (lv' := [(3, .int (nI (b + 1))), (2, .int (nI (f (it f b s)))), (0, .ref b0), (1, .int (nI s))]) F dX0_findRound_75 rfl (nI_add _ _) (by decide) rfl rfl ?_
              refine j_goto (t := 12) F dX0_findRound_78 rfl ?_
              have hse2 := hse.next c7 hat (by omega)
              have hfew := hse2.few (it_lt hW.f5 hs)
              refine j_lv [2, 3, 1, 0] (lv' := [(0, .ref b0), (1, .int (nI s)), (2, .int (nI (f (it f b s)))), (3, .int (nI (b + 1)))]) rfl ?_
              exact ih1 (b + 1) md2 _ (by omega) hm2 hse2 (by omega)
            · skip
              obtain ⟨i, hi, hsi, hii⟩ := (hse.1 _ hat).resolve_left (fun z => c7 z.1)
              refine j_aload_n (q := 42) (i0 := 0) F rfl dX0_findRound_41 rfl ?_
              refine j_aload_n (q := 43) (i0 := 0) F rfl dX0_findRound_42 rfl ?_
              refine j_get (q := 46) (ci := 0) (q0 := 0) (kf := 3) (v := .ref b3) F inX0 rfl rfl rfl tw_193 rfl rfl dX0_findRound_43 rfl ?_
              refine j_iload_n (q := 47) (i0 := 2) F rfl dX0_findRound_46 rfl ?_
              refine j_iald (q := 48) (q0 := 3) (i := (it f b s)) (v := nI i) F rfl rfl (by omega) rfl (hsi) dX0_findRound_47 rfl ?_
              refine j_put (q := 51) (ci := 0) (q0 := 0) (kf := 6) (v := .int (nI i)) (w' := [(b0, .inr (0, [.ref t0, .ref b1, .ref b2, .ref b3, .int (nI lz), .int (nI lf), .int (nI i), .int (nI lg)])), (b1, .inl (G.2.2.1, 9, .inl (nF ne))), (b2, .inl (G.2.2.1, 512, .inl md1)), (b3, .inl (G.2.2.1, 512, .inl se1)), (t0, .inr (6, [.int (nI n), .int (nI m), .int (nI t), .ref t1, .ref t2, .ref t3, .ref t4])), (t1, .inl (G.2.2.1, 9, .inl (nF ru)))]) F inX0 tyX0_ok nmX0 rfl rfl rfl tw_196 rfl rfl rfl rfl rfl rfl dX0_findRound_48 rfl ?_
              refine j_aload_n (q := 52) (i0 := 0) F rfl dX0_findRound_51 rfl ?_
              refine j_iload_n (q := 53) (i0 := 3) F rfl dX0_findRound_52 rfl ?_
              refine j_aload_n (q := 54) (i0 := 0) F rfl dX0_findRound_53 rfl ?_
              refine j_get (q := 57) (ci := 0) (q0 := 0) (kf := 6) (v := .int (nI i)) F inX0 rfl rfl rfl tw_196 rfl rfl dX0_findRound_54 rfl ?_
              refine j_isub (q := 58) (v := nI (b - i)) F (pk_sub (by omega)) dX0_findRound_57 rfl ?_
              refine j_put (q := 61) (ci := 0) (q0 := 0) (kf := 7) (v := .int (nI (b - i))) (w' := [(b0, .inr (0, [.ref t0, .ref b1, .ref b2, .ref b3, .int (nI lz), .int (nI lf), .int (nI i), .int (nI (b - i))])), (b1, .inl (G.2.2.1, 9, .inl (nF ne))), (b2, .inl (G.2.2.1, 512, .inl md1)), (b3, .inl (G.2.2.1, 512, .inl se1)), (t0, .inr (6, [.int (nI n), .int (nI m), .int (nI t), .ref t1, .ref t2, .ref t3, .ref t4])), (t1, .inl (G.2.2.1, 9, .inl (nF ru)))]) F inX0 tyX0_ok nmX0 rfl rfl rfl tw_198 rfl rfl rfl rfl rfl rfl dX0_findRound_58 rfl ?_
              exact j_vret (w2 := [(b0, .inr (0, [.ref t0, .ref b1, .ref b2, .ref b3, .int (nI lz), .int (nI lf), .int (nI i), .int (nI (b - i))])), (b1, .inl (G.2.2.1, 9, .inl (nF ne))), (b2, .inl (G.2.2.1, 512, .inl md1)), (b3, .inl (G.2.2.1, 512, .inl se1)), (t0, .inr (6, [.int (nI n), .int (nI m), .int (nI t), .ref t1, .ref t2, .ref t3, .ref t4])), (t1, .inl (G.2.2.1, 9, .inl (nF ru)))]) F R0 rfl [0, 1, 2, 3, 4, 5] rfl rfl (⟨_, _, i, b - i, hm1, ⟨by omega, by rw [show i + (b - i) = b by omega]; exact hii.symm, fun x y h1 h2 => hse.2 x y h1 (by omega)⟩, by omega, by omega, rfl, rfl⟩) dX0_findRound_61
          · exact absurd hat c4
  refine j_lv [2, 3, 1, 0] (lv' := [(0, .ref b0), (1, .int (nI s)), (2, .int (nI s)), (3, .int (nI 0))]) rfl ?_
  exact lp1 _ 0 md _ (by omega) hm (SeOk.start f s se) (Nat.lt_succ_self _)

set_option maxHeartbeats 4000000 in
set_option maxRecDepth 100000 in
theorem c_X0_countUnmade (G : Gm) {b0 b1 b2 b3 t0 t1 t2 t3 t4 n m t lz lf ld lg : Nat} {ru ne f : Nat → Nat} {md se : Nat → Int32} (hW : Wk n ru ne f) (hm : MdOk f md) : Mg G yX0_countUnmade cX0_countUnmade 4 (some .int) ({ frames := 4, cells := 0, slots := 0, locals := 90 } : Room) 0 0 [.ref b0] [(b0, .inr (0, [.ref t0, .ref b1, .ref b2, .ref b3, .int (nI lz), .int (nI lf), .int (nI ld), .int (nI lg)])), (b1, .inl (G.2.2.1, 9, .inl (nF ne))), (b2, .inl (G.2.2.1, 512, .inl md)), (b3, .inl (G.2.2.1, 512, .inl se)), (t0, .inr (6, [.int (nI n), .int (nI m), .int (nI t), .ref t1, .ref t2, .ref t3, .ref t4])), (t1, .inl (G.2.2.1, 9, .inl (nF ru)))] (fun r w2 => ∃ md2 se2, MdOk f md2 ∧ r = some (.int (nI (edn f (2 ^ n)))) ∧ w2 = [(b0, .inr (0, [.ref t0, .ref b1, .ref b2, .ref b3, .int (nI lz), .int (nI lf), .int (nI ld), .int (nI lg)])), (b1, .inl (G.2.2.1, 9, .inl (nF ne))), (b2, .inl (G.2.2.1, 512, .inl md2)), (b3, .inl (G.2.2.1, 512, .inl se2)), (t0, .inr (6, [.int (nI n), .int (nI m), .int (nI t), .ref t1, .ref t2, .ref t3, .ref t4])), (t1, .inl (G.2.2.1, 9, .inl (nF ru)))]) := by
  have h9 := p9 hW.1
  have hn := hW.1
  refine Mg.mk (lv := [(0, .ref b0)]) (by decide) rfl rfl (fun X F R0 => ?_)
  refine j_aload_n (q := 1) (i0 := 0) F rfl dX0_countUnmade_0 rfl ?_
  refine j_get (q := 4) (ci := 0) (q0 := 0) (kf := 3) (v := .ref b3) F inX0 rfl rfl rfl tw_193 rfl rfl dX0_countUnmade_1 rfl ?_
  refine j_iconst (q := 5) (v := (-1)) F (by decide) dX0_countUnmade_4 rfl ?_
  refine j_callS (q := 8) (As := [.ref b3, .int (-1)]) (wr := [(b0, .inr (0, [.ref t0, .ref b1, .ref b2, .ref b3, .int (nI lz), .int (nI lf), .int (nI ld), .int (nI lg)])), (b1, .inl (G.2.2.1, 9, .inl (nF ne))), (b2, .inl (G.2.2.1, 512, .inl md)), (t0, .inr (6, [.int (nI n), .int (nI m), .int (nI t), .ref t1, .ref t2, .ref t3, .ref t4])), (t1, .inl (G.2.2.1, 9, .inl (nF ru)))]) (st := []) F (c_fill G (f := se) (v := -1) rfl) kwJ7_fill_53178 tw_319 tw_420 ⟨Nat.le_of_ble_eq_true rfl, Nat.le_of_ble_eq_true rfl, rfl, rfl, Nat.le_of_ble_eq_true rfl, Nat.le_of_ble_eq_true rfl⟩ [3] [0, 1, 2, 4, 5] rfl rfl rfl rfl rfl rfl rfl (Nat.le_of_ble_eq_true rfl) dX0_countUnmade_5 rfl ?_
  rintro r_ w_ ⟨rfl, rfl⟩
  refine j_w (w' := [(b0, .inr (0, [.ref t0, .ref b1, .ref b2, .ref b3, .int (nI lz), .int (nI lf), .int (nI ld), .int (nI lg)])), (b1, .inl (G.2.2.1, 9, .inl (nF ne))), (b2, .inl (G.2.2.1, 512, .inl md)), (b3, .inl (G.2.2.1, 512, .inl (fillF se (-1) 512))), (t0, .inr (6, [.int (nI n), .int (nI m), .int (nI t), .ref t1, .ref t2, .ref t3, .ref t4])), (t1, .inl (G.2.2.1, 9, .inl (nF ru)))]) [0, 1, 2, 5, 3, 4] rfl rfl ?_
  show Jw G X _ 0 0 8 _ [] _
  refine j_aload_n (q := 9) (i0 := 0) F rfl dX0_countUnmade_8 rfl ?_
  refine j_get (q := 12) (ci := 0) (q0 := 0) (kf := 0) (v := .ref t0) F inX0 rfl rfl rfl tw_189 rfl rfl dX0_countUnmade_9 rfl ?_
  refine j_callV (q := 15) (ci := 6) (q0 := 0) (As := []) (wr := [(b0, .inr (0, [.ref t0, .ref b1, .ref b2, .ref b3, .int (nI lz), .int (nI lf), .int (nI ld), .int (nI lg)])), (b1, .inl (G.2.2.1, 9, .inl (nF ne))), (b2, .inl (G.2.2.1, 512, .inl md)), (b3, .inl (G.2.2.1, 512, .inl (fillF se (-1) 512))), (t1, .inl (G.2.2.1, 9, .inl (nF ru)))]) (st := []) F (c_X6_stands G hW.1) kwX6_stands tw_502 tw_503 tw_514 ⟨Nat.le_of_ble_eq_true rfl, Nat.le_of_ble_eq_true rfl, rfl, rfl, Nat.le_of_ble_eq_true rfl, Nat.le_of_ble_eq_true rfl⟩ [4] [0, 1, 2, 3, 5] rfl rfl rfl rfl rfl rfl rfl rfl rfl (Nat.le_of_ble_eq_true rfl) dX0_countUnmade_12 rfl ?_
  rintro r_ w_ ⟨rfl, rfl⟩
  refine j_w (w' := [(b0, .inr (0, [.ref t0, .ref b1, .ref b2, .ref b3, .int (nI lz), .int (nI lf), .int (nI ld), .int (nI lg)])), (b1, .inl (G.2.2.1, 9, .inl (nF ne))), (b2, .inl (G.2.2.1, 512, .inl md)), (b3, .inl (G.2.2.1, 512, .inl (fillF se (-1) 512))), (t0, .inr (6, [.int (nI n), .int (nI m), .int (nI t), .ref t1, .ref t2, .ref t3, .ref t4])), (t1, .inl (G.2.2.1, 9, .inl (nF ru)))]) [0, 1, 2, 3, 5, 4] rfl rfl ?_
  show Jw G X _ 0 0 15 _ [.int (nI (2 ^ n))] _
  refine j_istore_n (q := 16) (lv' := [(1, .int (nI (2 ^ n))), (0, .ref b0)]) F dX0_countUnmade_15 (by decide) rfl rfl ?_
  refine j_iconst (q := 17) (v := nI 0) F (by decide) dX0_countUnmade_16 rfl ?_
  refine j_istore_n (q := 18) (lv' := [(2, .int (nI 0)), (1, .int (nI (2 ^ n))), (0, .ref b0)]) F dX0_countUnmade_17 (by decide) rfl rfl ?_
  have lp1 : ∀ (fu : Nat) (k : Nat) (md1 : Nat → Int32) (se1 : Nat → Int32) (hk : k ≤ 2 ^ n) (hm1 : MdOk f md1) (hse : ∀ t, t < 512 → (se1 t = -1 ↔ hitB f k t = false)), (2 ^ n - k) < fu → Jw G X 4 0 0 18 [(0, .ref b0), (1, .int (nI (2 ^ n - fb_ct (hitB f k) (2 ^ n)))), (2, .int (nI k))] [] [(b0, .inr (0, [.ref t0, .ref b1, .ref b2, .ref b3, .int (nI lz), .int (nI lf), .int (nI ld), .int (nI lg)])), (b1, .inl (G.2.2.1, 9, .inl (nF ne))), (b2, .inl (G.2.2.1, 512, .inl md1)), (b3, .inl (G.2.2.1, 512, .inl se1)), (t0, .inr (6, [.int (nI n), .int (nI m), .int (nI t), .ref t1, .ref t2, .ref t3, .ref t4])), (t1, .inl (G.2.2.1, 9, .inl (nF ru)))] := by
    intro fu
    induction fu with
    | zero => intro k md1 se1 hk hm1 hse hfu; exact absurd hfu (Nat.not_lt_zero _)
    | succ fu ih1 =>
      intro k md1 se1 hk hm1 hse hfu
      refine j_iload_n (q := 19) (i0 := 2) F rfl dX0_countUnmade_18 rfl ?_
      refine j_aload_n (q := 20) (i0 := 0) F rfl dX0_countUnmade_19 rfl ?_
      refine j_get (q := 23) (ci := 0) (q0 := 0) (kf := 0) (v := .ref t0) F inX0 rfl rfl rfl tw_189 rfl rfl dX0_countUnmade_20 rfl ?_
      refine j_callV (q := 26) (ci := 6) (q0 := 0) (As := []) (wr := [(b0, .inr (0, [.ref t0, .ref b1, .ref b2, .ref b3, .int (nI lz), .int (nI lf), .int (nI ld), .int (nI lg)])), (b1, .inl (G.2.2.1, 9, .inl (nF ne))), (b2, .inl (G.2.2.1, 512, .inl md1)), (b3, .inl (G.2.2.1, 512, .inl se1)), (t1, .inl (G.2.2.1, 9, .inl (nF ru)))]) (st := [.int (nI k)]) F (c_X6_stands G hW.1) kwX6_stands tw_502 tw_503 tw_514 ⟨Nat.le_of_ble_eq_true rfl, Nat.le_of_ble_eq_true rfl, rfl, rfl, Nat.le_of_ble_eq_true rfl, Nat.le_of_ble_eq_true rfl⟩ [4] [0, 1, 2, 3, 5] rfl rfl rfl rfl rfl rfl rfl rfl rfl (Nat.le_of_ble_eq_true rfl) dX0_countUnmade_23 rfl ?_
      rintro r_ w_ ⟨rfl, rfl⟩
      refine j_w (w' := [(b0, .inr (0, [.ref t0, .ref b1, .ref b2, .ref b3, .int (nI lz), .int (nI lf), .int (nI ld), .int (nI lg)])), (b1, .inl (G.2.2.1, 9, .inl (nF ne))), (b2, .inl (G.2.2.1, 512, .inl md1)), (b3, .inl (G.2.2.1, 512, .inl se1)), (t0, .inr (6, [.int (nI n), .int (nI m), .int (nI t), .ref t1, .ref t2, .ref t3, .ref t4])), (t1, .inl (G.2.2.1, 9, .inl (nF ru)))]) [0, 1, 2, 3, 5, 4] rfl rfl ?_
      show Jw G X _ 0 0 26 _ [.int (nI (2 ^ n)), .int (nI k)] _
      refine j_icmp_ge (q := 29) (t := 72) F (Pp := 2 ^ n ≤ k) (nI_leI (by omega) (by omega)) dX0_countUnmade_26 rfl rfl (fun c2 => ?_) (fun c2 => ?_)
      · skip
        refine j_iload_n (q := 73) (i0 := 1) F rfl dX0_countUnmade_72 rfl ?_
        exact j_iret (w2 := [(b0, .inr (0, [.ref t0, .ref b1, .ref b2, .ref b3, .int (nI lz), .int (nI lf), .int (nI ld), .int (nI lg)])), (b1, .inl (G.2.2.1, 9, .inl (nF ne))), (b2, .inl (G.2.2.1, 512, .inl md1)), (b3, .inl (G.2.2.1, 512, .inl se1)), (t0, .inr (6, [.int (nI n), .int (nI m), .int (nI t), .ref t1, .ref t2, .ref t3, .ref t4])), (t1, .inl (G.2.2.1, 9, .inl (nF ru)))]) F R0 rfl [0, 1, 2, 3, 4, 5] rfl rfl (by rw [(show k = 2 ^ n by omega)]; exact ⟨_, _, hm1, rfl, rfl⟩) dX0_countUnmade_73
      · skip
        refine j_aload_n (q := 30) (i0 := 0) F rfl dX0_countUnmade_29 rfl ?_
        refine j_iload_n (q := 31) (i0 := 2) F rfl dX0_countUnmade_30 rfl ?_
        refine j_callV (q := 34) (ci := 0) (q0 := 0) (As := [.int (nI k)]) (wr := []) (st := []) F (c_X0_struck G hW hm1 (s := k) (by omega)) kwX0_struck tw_440 tw_441 tw_480 ⟨Nat.le_of_ble_eq_true rfl, Nat.le_of_ble_eq_true rfl, rfl, rfl, Nat.le_of_ble_eq_true rfl, Nat.le_of_ble_eq_true rfl⟩ [0, 1, 2, 3, 4, 5] [] rfl rfl rfl rfl rfl rfl rfl rfl rfl (Nat.le_of_ble_eq_true rfl) dX0_countUnmade_31 rfl ?_
        rintro r_ w_ ⟨md2, hm2, rfl, rfl⟩
        refine j_w (w' := [(b0, .inr (0, [.ref t0, .ref b1, .ref b2, .ref b3, .int (nI lz), .int (nI lf), .int (nI ld), .int (nI lg)])), (b1, .inl (G.2.2.1, 9, .inl (nF ne))), (b2, .inl (G.2.2.1, 512, .inl md2)), (b3, .inl (G.2.2.1, 512, .inl se1)), (t0, .inr (6, [.int (nI n), .int (nI m), .int (nI t), .ref t1, .ref t2, .ref t3, .ref t4])), (t1, .inl (G.2.2.1, 9, .inl (nF ru)))]) [0, 1, 2, 3, 4, 5] rfl rfl ?_
        show Jw G X _ 0 0 34 _ [.int (nI (f k))] _
        refine j_istore_n (q := 35) (lv' := [(3, .int (nI (f k))), (0, .ref b0), (1, .int (nI (2 ^ n - fb_ct (hitB f k) (2 ^ n)))), (2, .int (nI k))]) F dX0_countUnmade_34 (by decide) rfl rfl ?_
        have hf5 := hW.f5 k (by omega)
        have hfn := hW.fn k (by omega)
        have hctl := fb_ct_le (hitB f k) (2 ^ n)
        refine j_iload_n (q := 36) (i0 := 0) F rfl dX0_countUnmade_35 rfl ?_
        refine j_if_lt (q := 39) (t := 66) F (Pp := False) (cf (nI_pos (by omega))) dX0_countUnmade_36 rfl rfl (fun c3 => ?_) (fun c3 => ?_)
        · exact (c3).elim
        · skip
          refine j_iload_n (q := 40) (i0 := 0) F rfl dX0_countUnmade_39 rfl ?_
          refine j_sipush (q := 43) (v := nI 512) F (by decide) dX0_countUnmade_40 rfl ?_
          refine j_icmp_ge (q := 46) (t := 66) F (Pp := 512 ≤ f k) (nI_leI (by omega) (by omega)) dX0_countUnmade_43 rfl rfl (fun c4 => ?_) (fun c4 => ?_)
          · exact absurd c4 (by omega)
          · skip
            refine j_aload_n (q := 47) (i0 := 1) F rfl dX0_countUnmade_46 rfl ?_
            refine j_get (q := 50) (ci := 0) (q0 := 0) (kf := 3) (v := .ref b3) F inX0 rfl rfl rfl tw_193 rfl rfl dX0_countUnmade_47 rfl ?_
            refine j_iload_n (q := 51) (i0 := 0) F rfl dX0_countUnmade_50 rfl ?_
            refine j_iald (q := 52) (q0 := 3) (i := (f k)) (v := se1 (f k)) F rfl rfl (by omega) rfl (rfl) dX0_countUnmade_51 rfl ?_
            refine j_iconst (q := 53) (v := (-1)) F (by decide) dX0_countUnmade_52 rfl ?_
            refine j_icmp_ne (q := 56) (t := 66) F (Pp := se1 (f k) = -1) (Iff.rfl) dX0_countUnmade_53 rfl rfl (fun c9 => ?_) (fun c9 => ?_)
            · skip
              refine j_iinc (q := 69) (i0 := 3) (v := nI (k + 1)) (lv' := [(2, .int (nI (k + 1))), (3, .int (nI (f k))), (0, .ref b0), (1, .int (nI (2 ^ n - fb_ct (hitB f k) (2 ^ n))))]) F dX0_countUnmade_66 rfl (nI_add _ _) (by decide) rfl rfl ?_
              refine j_goto (t := 18) F dX0_countUnmade_69 rfl ?_
              have hsm := hitB_same (tbT (fun z => c9 ((hse _ hf5).mpr z)))
              rw [← hsm]
              refine j_lv [2, 3, 0] (lv' := [(0, .ref b0), (1, .int (nI (2 ^ n - fb_ct (hitB f (k + 1)) (2 ^ n)))), (2, .int (nI (k + 1)))]) rfl ?_
              exact ih1 (k + 1) md2 _ (by omega) hm2 (by rw [hsm]; exact hse) (by omega)
            · skip
              have hnew := hit_new hfn ((hse _ hf5).mp c9)
              have hctl2 := fb_ct_le (hitB f (k + 1)) (2 ^ n)
              refine j_aload_n (q := 57) (i0 := 1) F rfl dX0_countUnmade_56 rfl ?_
              refine j_get (q := 60) (ci := 0) (q0 := 0) (kf := 3) (v := .ref b3) F inX0 rfl rfl rfl tw_193 rfl rfl dX0_countUnmade_57 rfl ?_
              refine j_iload_n (q := 61) (i0 := 0) F rfl dX0_countUnmade_60 rfl ?_
              refine j_iload_n (q := 62) (i0 := 3) F rfl dX0_countUnmade_61 rfl ?_
              refine j_iast (q := 63) (q0 := 3) (i := (f k)) (f2 := upd se1 (f k) (nI k)) (w' := [(b0, .inr (0, [.ref t0, .ref b1, .ref b2, .ref b3, .int (nI lz), .int (nI lf), .int (nI ld), .int (nI lg)])), (b1, .inl (G.2.2.1, 9, .inl (nF ne))), (b2, .inl (G.2.2.1, 512, .inl md2)), (b3, .inl (G.2.2.1, 512, .inl (upd se1 (f k) (nI k)))), (t0, .inr (6, [.int (nI n), .int (nI m), .int (nI t), .ref t1, .ref t2, .ref t3, .ref t4])), (t1, .inl (G.2.2.1, 9, .inl (nF ru)))]) F rfl rfl (by omega) rfl (rfl) rfl dX0_countUnmade_62 rfl ?_
              refine j_iinc (q := 66) (i0 := 2) (v := nI (2 ^ n - fb_ct (hitB f k) (2 ^ n) - 1)) (lv' := [(1, .int (nI (2 ^ n - fb_ct (hitB f k) (2 ^ n) - 1))), (3, .int (nI (f k))), (0, .ref b0), (2, .int (nI k))]) F dX0_countUnmade_63 rfl (by rw [show 2 ^ n - fb_ct (hitB f k) (2 ^ n) = (2 ^ n - fb_ct (hitB f k) (2 ^ n) - 1) + 1 by omega]; exact pk_m1 _) (by decide) rfl rfl ?_
              refine j_iinc (q := 69) (i0 := 3) (v := nI (k + 1)) (lv' := [(2, .int (nI (k + 1))), (1, .int (nI (2 ^ n - fb_ct (hitB f k) (2 ^ n) - 1))), (3, .int (nI (f k))), (0, .ref b0)]) F dX0_countUnmade_66 rfl (nI_add _ _) (by decide) rfl rfl ?_
              refine j_goto (t := 18) F dX0_countUnmade_69 rfl ?_
              rw [show 2 ^ n - fb_ct (hitB f k) (2 ^ n) - 1 = 2 ^ n - fb_ct (hitB f (k + 1)) (2 ^ n) by omega]
              refine j_lv [3, 1, 0] (lv' := [(0, .ref b0), (1, .int (nI (2 ^ n - fb_ct (hitB f (k + 1)) (2 ^ n)))), (2, .int (nI (k + 1)))]) rfl ?_
              exact ih1 (k + 1) md2 _ (by omega) hm2 (hit_se hse (by omega)) (by omega)
  refine j_lv [2, 1, 0] (lv' := [(0, .ref b0), (1, .int (nI (2 ^ n))), (2, .int (nI 0))]) rfl ?_
  refine sb_at (P := fun z => Jw G X _ _ _ _ [_, (1, .int z), _] _ _) (congrArg nI (show 2 ^ n = 2 ^ n - fb_ct (hitB f 0) (2 ^ n) from by rw [show fb_ct (hitB f 0) (2 ^ n) = 0 from fb_ct_zero.mpr (fun _ _ => rfl), Nat.sub_zero])) ?_
  exact lp1 _ 0 md _ (Nat.zero_le _) hm (fun t ht => ⟨fun _ => rfl, fun _ => if_pos ht⟩) (Nat.lt_succ_self _)

set_option maxHeartbeats 4000000 in
set_option maxRecDepth 100000 in
theorem c_X0_isLitForEver (G : Gm) {b0 b1 b2 b3 t0 t1 t2 t3 t4 n m t lz lf ld lg : Nat} {ru ne f : Nat → Nat} {md se : Nat → Int32} {s so : Nat} (hW : Wk n ru ne f) (hm : MdOk f md) (hs : s < 512) (hso : so < 512) : Mg G yX0_isLitForEver cX0_isLitForEver 7 (some .boolean) ({ frames := 4, cells := 0, slots := 0, locals := 90 } : Room) 0 0 [.ref b0, .int (nI s), .int (nI so)] [(b0, .inr (0, [.ref t0, .ref b1, .ref b2, .ref b3, .int (nI lz), .int (nI lf), .int (nI ld), .int (nI lg)])), (b1, .inl (G.2.2.1, 9, .inl (nF ne))), (b2, .inl (G.2.2.1, 512, .inl md)), (b3, .inl (G.2.2.1, 512, .inl se)), (t0, .inr (6, [.int (nI n), .int (nI m), .int (nI t), .ref t1, .ref t2, .ref t3, .ref t4])), (t1, .inl (G.2.2.1, 9, .inl (nF ru)))] (fun r w2 => ∃ md2, MdOk f md2 ∧ w2 = [(b0, .inr (0, [.ref t0, .ref b1, .ref b2, .ref b3, .int (nI lz), .int (nI lf), .int (nI ld), .int (nI lg)])), (b1, .inl (G.2.2.1, 9, .inl (nF ne))), (b2, .inl (G.2.2.1, 512, .inl md2)), (b3, .inl (G.2.2.1, 512, .inl se)), (t0, .inr (6, [.int (nI n), .int (nI m), .int (nI t), .ref t1, .ref t2, .ref t3, .ref t4])), (t1, .inl (G.2.2.1, 9, .inl (nF ru)))] ∧ ((r = some (.int (nI 1)) ∧ Lit f s so) ∨ (r = some (.int (nI 0)) ∧ ¬ Lit f s so))) := by
  refine Mg.mk (lv := [(0, .ref b0), (1, .int (nI s)), (2, .int (nI so))]) (by decide) rfl rfl (fun X F R0 => ?_)
  refine j_iload_n (q := 1) (i0 := 1) F rfl dX0_isLitForEver_0 rfl ?_
  refine j_istore_n (q := 2) (lv' := [(3, .int (nI s)), (0, .ref b0), (1, .int (nI s)), (2, .int (nI so))]) F dX0_isLitForEver_1 (by decide) rfl rfl ?_
  refine j_iload_n (q := 3) (i0 := 2) F rfl dX0_isLitForEver_2 rfl ?_
  refine j_istore (q := 5) (lv' := [(4, .int (nI s)), (3, .int (nI s)), (0, .ref b0), (1, .int (nI s)), (2, .int (nI so))]) F dX0_isLitForEver_3 (by decide) rfl rfl ?_
  refine j_iconst (q := 6) (v := nI 1) F (by decide) dX0_isLitForEver_5 rfl ?_
  refine j_istore (q := 8) (lv' := [(5, .int (nI 1)), (4, .int (nI s)), (3, .int (nI s)), (0, .ref b0), (1, .int (nI s)), (2, .int (nI so))]) F dX0_isLitForEver_6 (by decide) rfl rfl ?_
  refine j_iconst (q := 9) (v := nI 1) F (by decide) dX0_isLitForEver_8 rfl ?_
  refine j_istore (q := 11) (lv' := [(6, .int (nI 1)), (5, .int (nI 1)), (4, .int (nI s)), (3, .int (nI s)), (0, .ref b0), (1, .int (nI s)), (2, .int (nI so))]) F dX0_isLitForEver_9 (by decide) rfl rfl ?_
  have lp1 : ∀ (fu : Nat) (b : Nat) (ai : Nat) (ag : Nat) (md1 : Nat → Int32) (hb : b ≤ 512) (hai : ai ≤ b) (hag : ag ≤ 2000) (hm1 : MdOk f md1) (hlit : ∀ i, i < b → it f i s &&& so = so), (513 - b) < fu → Jw G X 7 0 0 11 [(0, .ref b0), (1, .int (nI s)), (2, .int (nI so)), (3, .int (nI (it f b s))), (4, .int (nI (it f ai s))), (5, .int (nI ag)), (6, .int (nI (b + 1)))] [] [(b0, .inr (0, [.ref t0, .ref b1, .ref b2, .ref b3, .int (nI lz), .int (nI lf), .int (nI ld), .int (nI lg)])), (b1, .inl (G.2.2.1, 9, .inl (nF ne))), (b2, .inl (G.2.2.1, 512, .inl md1)), (b3, .inl (G.2.2.1, 512, .inl se)), (t0, .inr (6, [.int (nI n), .int (nI m), .int (nI t), .ref t1, .ref t2, .ref t3, .ref t4])), (t1, .inl (G.2.2.1, 9, .inl (nF ru)))] := by
    intro fu
    induction fu with
    | zero => intro b ai ag md1 hb hai hag hm1 hlit hfu; exact absurd hfu (Nat.not_lt_zero _)
    | succ fu ih1 =>
      intro b ai ag md1 hb hai hag hm1 hlit hfu
      have hat := it_lt hW.f5 hs b
      have han := it_lt hW.f5 hs ai
      have hal : it f b s &&& so < 512 := and_lt hat
      have hat2 := it_lt hW.f5 hs (b + 1)
      refine j_iload (q := 13) (i0 := 6) F rfl dX0_isLitForEver_11 rfl ?_
      refine j_sipush (q := 16) (v := nI 512) F (by decide) dX0_isLitForEver_13 rfl ?_
      refine j_icmp_gt (q := 19) (t := 64) F (Pp := 512 < b + 1) (nI_ltI (by omega) (by omega)) dX0_isLitForEver_16 rfl rfl (fun c2 => ?_) (fun c2 => ?_)
      · skip
        refine j_iconst (q := 65) (v := nI 1) F (by decide) dX0_isLitForEver_64 rfl ?_
        exact j_zret (w2 := [(b0, .inr (0, [.ref t0, .ref b1, .ref b2, .ref b3, .int (nI lz), .int (nI lf), .int (nI ld), .int (nI lg)])), (b1, .inl (G.2.2.1, 9, .inl (nF ne))), (b2, .inl (G.2.2.1, 512, .inl md1)), (b3, .inl (G.2.2.1, 512, .inl se)), (t0, .inr (6, [.int (nI n), .int (nI m), .int (nI t), .ref t1, .ref t2, .ref t3, .ref t4])), (t1, .inl (G.2.2.1, 9, .inl (nF ru)))]) F R0 rfl rfl [0, 1, 2, 3, 4, 5] rfl rfl (⟨_, hm1, rfl, Or.inl ⟨rfl, Lit.of_all (it_lt hW.f5 hs) (fun i hi => hlit i (by omega))⟩⟩) dX0_isLitForEver_65
      · skip
        refine j_iload_n (q := 20) (i0 := 3) F rfl dX0_isLitForEver_19 rfl ?_
        refine j_iload_n (q := 21) (i0 := 2) F rfl dX0_isLitForEver_20 rfl ?_
        refine j_iand (q := 22) (v := nI ((it f b s) &&& so)) F (nx_and _ _) dX0_isLitForEver_21 rfl ?_
        refine j_iload_n (q := 23) (i0 := 2) F rfl dX0_isLitForEver_22 rfl ?_
        refine j_icmp_eq (q := 26) (t := 28) F (Pp := it f b s &&& so = so) (nI_eq (by omega) (by omega)) dX0_isLitForEver_23 rfl rfl (fun cl => ?_) (fun cl => ?_)
        · skip
          have hlit2 : ∀ i, i < b + 1 → it f i s &&& so = so := fun i hi => by
            rcases (show i < b ∨ i = b by omega) with z | z
            · exact hlit i z
            · subst z; exact cl
          refine j_aload_n (q := 29) (i0 := 0) F rfl dX0_isLitForEver_28 rfl ?_
          refine j_iload_n (q := 30) (i0 := 3) F rfl dX0_isLitForEver_29 rfl ?_
          refine j_callV (q := 33) (ci := 0) (q0 := 0) (As := [.int (nI (it f b s))]) (wr := []) (st := []) F (c_X0_struck G hW hm1 (s := it f b s) (hat)) kwX0_struck tw_440 tw_441 tw_480 ⟨Nat.le_of_ble_eq_true rfl, Nat.le_of_ble_eq_true rfl, rfl, rfl, Nat.le_of_ble_eq_true rfl, Nat.le_of_ble_eq_true rfl⟩ [0, 1, 2, 3, 4, 5] [] rfl rfl rfl rfl rfl rfl rfl rfl rfl (Nat.le_of_ble_eq_true rfl) dX0_isLitForEver_30 rfl ?_
          rintro r_ w_ ⟨md2, hm2, rfl, rfl⟩
          refine j_w (w' := [(b0, .inr (0, [.ref t0, .ref b1, .ref b2, .ref b3, .int (nI lz), .int (nI lf), .int (nI ld), .int (nI lg)])), (b1, .inl (G.2.2.1, 9, .inl (nF ne))), (b2, .inl (G.2.2.1, 512, .inl md2)), (b3, .inl (G.2.2.1, 512, .inl se)), (t0, .inr (6, [.int (nI n), .int (nI m), .int (nI t), .ref t1, .ref t2, .ref t3, .ref t4])), (t1, .inl (G.2.2.1, 9, .inl (nF ru)))]) [0, 1, 2, 3, 4, 5] rfl rfl ?_
          show Jw G X _ 0 0 33 _ [.int (nI (f (it f b s)))] _
          refine j_istore_n (q := 34) (lv' := [(3, .int (nI (f (it f b s)))), (0, .ref b0), (1, .int (nI s)), (2, .int (nI so)), (4, .int (nI (it f ai s))), (5, .int (nI ag)), (6, .int (nI (b + 1)))]) F dX0_isLitForEver_33 (by decide) rfl rfl ?_
          refine j_iload_n (q := 35) (i0 := 0) F rfl dX0_isLitForEver_34 rfl ?_
          refine j_iload (q := 37) (i0 := 4) F rfl dX0_isLitForEver_35 rfl ?_
          refine j_icmp_ne (q := 40) (t := 42) F (Pp := it f (b + 1) s = it f ai s) (nI_eq (Nat.lt_trans hat2 (by decide)) (by omega)) dX0_isLitForEver_37 rfl rfl (fun ca => ?_) (fun ca => ?_)
          · skip
            refine j_iload (q := 44) (i0 := 6) F rfl dX0_isLitForEver_42 rfl ?_
            refine j_iload (q := 46) (i0 := 5) F rfl dX0_isLitForEver_44 rfl ?_
            refine j_icmp_ne (q := 49) (t := 58) F (Pp := b + 1 = ag) (nI_eq (by omega) (by omega)) dX0_isLitForEver_46 rfl rfl (fun c5 => ?_) (fun c5 => ?_)
            · skip
              refine j_iinc (q := 61) (i0 := 6) (v := nI (b + 2)) (lv' := [(6, .int (nI (b + 2))), (3, .int (nI (f (it f b s)))), (0, .ref b0), (1, .int (nI s)), (2, .int (nI so)), (4, .int (nI (it f ai s))), (5, .int (nI ag))]) F dX0_isLitForEver_58 rfl (nI_add _ _) (by decide) rfl rfl ?_
              refine j_goto (t := 11) F dX0_isLitForEver_61 rfl ?_
              refine j_lv [2, 3, 4, 1, 5, 6, 0] (lv' := [(0, .ref b0), (1, .int (nI s)), (2, .int (nI so)), (3, .int (nI (f (it f b s)))), (4, .int (nI (it f ai s))), (5, .int (nI ag)), (6, .int (nI (b + 2)))]) rfl ?_
              exact ih1 (b + 1) ai ag md2 (by omega) (by omega) (by omega) hm2 hlit2 (by omega)
            · skip
              refine j_iload_n (q := 50) (i0 := 0) F rfl dX0_isLitForEver_49 rfl ?_
              refine j_istore (q := 52) (lv' := [(4, .int (nI (f (it f b s)))), (3, .int (nI (f (it f b s)))), (0, .ref b0), (1, .int (nI s)), (2, .int (nI so)), (5, .int (nI ag)), (6, .int (nI (b + 1)))]) F dX0_isLitForEver_50 (by decide) rfl rfl ?_
              refine j_iconst (q := 53) (v := nI 2) F (by decide) dX0_isLitForEver_52 rfl ?_
              refine j_iload (q := 55) (i0 := 6) F rfl dX0_isLitForEver_53 rfl ?_
              refine j_imul (q := 56) (v := nI (2 * (b + 1))) F (pk_mul _ _) dX0_isLitForEver_55 rfl ?_
              refine j_istore (q := 58) (lv' := [(5, .int (nI (2 * (b + 1)))), (4, .int (nI (f (it f b s)))), (3, .int (nI (f (it f b s)))), (0, .ref b0), (1, .int (nI s)), (2, .int (nI so)), (6, .int (nI (b + 1)))]) F dX0_isLitForEver_56 (by decide) rfl rfl ?_
              refine j_iinc (q := 61) (i0 := 6) (v := nI (b + 2)) (lv' := [(6, .int (nI (b + 2))), (5, .int (nI (2 * (b + 1)))), (4, .int (nI (f (it f b s)))), (3, .int (nI (f (it f b s)))), (0, .ref b0), (1, .int (nI s)), (2, .int (nI so))]) F dX0_isLitForEver_58 rfl (nI_add _ _) (by decide) rfl rfl ?_
              refine j_goto (t := 11) F dX0_isLitForEver_61 rfl ?_
              refine j_lv [4, 5, 6, 3, 2, 1, 0] (lv' := [(0, .ref b0), (1, .int (nI s)), (2, .int (nI so)), (3, .int (nI (f (it f b s)))), (4, .int (nI (f (it f b s)))), (5, .int (nI (2 * (b + 1)))), (6, .int (nI (b + 2)))]) rfl ?_
              exact ih1 (b + 1) (b + 1) _ md2 (by omega) (by omega) (by omega) hm2 hlit2 (by omega)
          · skip
            refine j_iconst (q := 41) (v := nI 1) F (by decide) dX0_isLitForEver_40 rfl ?_
            exact j_zret (w2 := [(b0, .inr (0, [.ref t0, .ref b1, .ref b2, .ref b3, .int (nI lz), .int (nI lf), .int (nI ld), .int (nI lg)])), (b1, .inl (G.2.2.1, 9, .inl (nF ne))), (b2, .inl (G.2.2.1, 512, .inl md2)), (b3, .inl (G.2.2.1, 512, .inl se)), (t0, .inr (6, [.int (nI n), .int (nI m), .int (nI t), .ref t1, .ref t2, .ref t3, .ref t4])), (t1, .inl (G.2.2.1, 9, .inl (nF ru)))]) F R0 rfl rfl [0, 1, 2, 3, 4, 5] rfl rfl (⟨_, hm2, rfl, Or.inl ⟨rfl, Lit.of_back (show ai < b + 1 by omega) ca hlit2⟩⟩) dX0_isLitForEver_41
        · skip
          refine j_iconst (q := 27) (v := nI 0) F (by decide) dX0_isLitForEver_26 rfl ?_
          exact j_zret (w2 := [(b0, .inr (0, [.ref t0, .ref b1, .ref b2, .ref b3, .int (nI lz), .int (nI lf), .int (nI ld), .int (nI lg)])), (b1, .inl (G.2.2.1, 9, .inl (nF ne))), (b2, .inl (G.2.2.1, 512, .inl md1)), (b3, .inl (G.2.2.1, 512, .inl se)), (t0, .inr (6, [.int (nI n), .int (nI m), .int (nI t), .ref t1, .ref t2, .ref t3, .ref t4])), (t1, .inl (G.2.2.1, 9, .inl (nF ru)))]) F R0 rfl rfl [0, 1, 2, 3, 4, 5] rfl rfl (⟨_, hm1, rfl, Or.inr ⟨rfl, fun z => cl (z b)⟩⟩) dX0_isLitForEver_27
  refine j_lv [4, 5, 6, 3, 2, 1, 0] (lv' := [(0, .ref b0), (1, .int (nI s)), (2, .int (nI so)), (3, .int (nI s)), (4, .int (nI s)), (5, .int (nI 1)), (6, .int (nI 1))]) rfl ?_
  exact lp1 _ 0 0 1 md (by omega) (by omega) (by omega) hm (fun i h => absurd h (Nat.not_lt_zero i)) (Nat.lt_succ_self _)

set_option maxHeartbeats 4000000 in
set_option maxRecDepth 100000 in
theorem c_X0_forget (G : Gm) {b0 b1 b2 b3 t0 lz lf ld lg : Nat}  : Mg G yX0_forget cX0_forget 1 none ({ frames := 0, cells := 0, slots := 0, locals := 0 } : Room) 0 0 [.ref b0] [(b0, .inr (0, [.ref t0, .ref b1, .ref b2, .ref b3, .int (nI lz), .int (nI lf), .int (nI ld), .int (nI lg)]))] (fun r w2 => r = none ∧ w2 = [(b0, .inr (0, [.ref t0, .ref b1, .ref b2, .ref b3, .int (nI 0), .int (nI lf), .int (nI ld), .int (nI lg)]))]) := by
  refine Mg.mk (lv := [(0, .ref b0)]) (by decide) rfl rfl (fun X F R0 => ?_)
  refine j_aload_n (q := 1) (i0 := 0) F rfl dX0_forget_0 rfl ?_
  refine j_iconst (q := 2) (v := nI 0) F (by decide) dX0_forget_1 rfl ?_
  refine j_put (q := 5) (ci := 0) (q0 := 0) (kf := 4) (v := .int (nI 0)) (w' := [(b0, .inr (0, [.ref t0, .ref b1, .ref b2, .ref b3, .int (nI 0), .int (nI lf), .int (nI ld), .int (nI lg)]))]) F inX0 tyX0_ok nmX0 rfl rfl rfl tw_194 rfl rfl rfl rfl rfl rfl dX0_forget_2 rfl ?_
  exact j_vret (w2 := [(b0, .inr (0, [.ref t0, .ref b1, .ref b2, .ref b3, .int (nI 0), .int (nI lf), .int (nI ld), .int (nI lg)]))]) F R0 rfl [0] rfl rfl (⟨rfl, rfl⟩) dX0_forget_5

set_option maxHeartbeats 4000000 in
set_option maxRecDepth 100000 in
theorem c_X0_lay (G : Gm) {b0 b1 b2 b3 t0 t1 t2 t3 t4 n m t lz lf ld lg fog : Nat} {ru la lb ro ne : Nat → Nat} {md se : Nat → Int32} (hT : Tok n m ru la lb) (hro : NeOk n m la lb 0 ro) (hlz : lz ≤ 1) (hlay : lz = 1 → NeOk n m la lb lf ne ∧ MdOk (Fw n m ru la lb lf) md) (hfog : fog < 32768) (hlf : lf < 32768) : Mg G yX0_lay cX0_lay 3 none ({ frames := 1, cells := 0, slots := 0, locals := 40 } : Room) 0 0 [.ref b0, .int (nI fog)] [(b0, .inr (0, [.ref t0, .ref b1, .ref b2, .ref b3, .int (nI lz), .int (nI lf), .int (nI ld), .int (nI lg)])), (b1, .inl (G.2.2.1, 9, .inl (nF ne))), (b2, .inl (G.2.2.1, 512, .inl md)), (b3, .inl (G.2.2.1, 512, .inl se)), (t0, .inr (6, [.int (nI n), .int (nI m), .int (nI t), .ref t1, .ref t2, .ref t3, .ref t4])), (t1, .inl (G.2.2.1, 9, .inl (nF ru))), (t2, .inl (G.2.2.1, 15, .inl (nF la))), (t3, .inl (G.2.2.1, 15, .inl (nF lb))), (t4, .inl (G.2.2.1, 9, .inl (nF ro)))] (fun r w2 => ∃ ne2 md2, NeOk n m la lb fog ne2 ∧ MdOk (Fw n m ru la lb fog) md2 ∧ r = none ∧ w2 = [(b0, .inr (0, [.ref t0, .ref b1, .ref b2, .ref b3, .int (nI 1), .int (nI fog), .int (nI ld), .int (nI lg)])), (b1, .inl (G.2.2.1, 9, .inl (nF ne2))), (b2, .inl (G.2.2.1, 512, .inl md2)), (b3, .inl (G.2.2.1, 512, .inl se)), (t0, .inr (6, [.int (nI n), .int (nI m), .int (nI t), .ref t1, .ref t2, .ref t3, .ref t4])), (t1, .inl (G.2.2.1, 9, .inl (nF ru))), (t2, .inl (G.2.2.1, 15, .inl (nF la))), (t3, .inl (G.2.2.1, 15, .inl (nF lb))), (t4, .inl (G.2.2.1, 9, .inl (nF ro)))]) := by
  have hn := hT.1
  have hm := hT.2.1
  refine Mg.mk (lv := [(0, .ref b0), (1, .int (nI fog))]) (by decide) rfl rfl (fun X F R0 => ?_)
  refine j_aload_n (q := 1) (i0 := 0) F rfl dX0_lay_0 rfl ?_
  refine j_get (q := 4) (ci := 0) (q0 := 0) (kf := 4) (v := .int (nI lz)) F inX0 rfl rfl rfl tw_194 rfl rfl dX0_lay_1 rfl ?_
  refine j_if_eq (q := 7) (t := 16) F (Pp := lz = 0) (nI_eq0 (by omega)) dX0_lay_4 rfl rfl (fun cz => ?_) (fun cz => ?_)
  · skip
    refine j_aload_n (q := 17) (i0 := 0) F rfl dX0_lay_16 rfl ?_
    refine j_get (q := 20) (ci := 0) (q0 := 0) (kf := 2) (v := .ref b2) F inX0 rfl rfl rfl tw_192 rfl rfl dX0_lay_17 rfl ?_
    refine j_iconst (q := 21) (v := (-1)) F (by decide) dX0_lay_20 rfl ?_
    refine j_callS (q := 24) (As := [.ref b2, .int (-1)]) (wr := [(b0, .inr (0, [.ref t0, .ref b1, .ref b2, .ref b3, .int (nI lz), .int (nI lf), .int (nI ld), .int (nI lg)])), (b1, .inl (G.2.2.1, 9, .inl (nF ne))), (b3, .inl (G.2.2.1, 512, .inl se)), (t0, .inr (6, [.int (nI n), .int (nI m), .int (nI t), .ref t1, .ref t2, .ref t3, .ref t4])), (t1, .inl (G.2.2.1, 9, .inl (nF ru))), (t2, .inl (G.2.2.1, 15, .inl (nF la))), (t3, .inl (G.2.2.1, 15, .inl (nF lb))), (t4, .inl (G.2.2.1, 9, .inl (nF ro)))]) (st := []) F (c_fill G (f := md) (v := -1) rfl) kwJ7_fill_53178 tw_319 tw_420 ⟨Nat.le_of_ble_eq_true rfl, Nat.le_of_ble_eq_true rfl, rfl, rfl, Nat.le_of_ble_eq_true rfl, Nat.le_of_ble_eq_true rfl⟩ [2] [0, 1, 3, 4, 5, 6, 7, 8] rfl rfl rfl rfl rfl rfl rfl (Nat.le_of_ble_eq_true rfl) dX0_lay_21 rfl ?_
    rintro r_ w_ ⟨rfl, rfl⟩
    refine j_w (w' := [(b0, .inr (0, [.ref t0, .ref b1, .ref b2, .ref b3, .int (nI lz), .int (nI lf), .int (nI ld), .int (nI lg)])), (b1, .inl (G.2.2.1, 9, .inl (nF ne))), (b2, .inl (G.2.2.1, 512, .inl (fillF md (-1) 512))), (b3, .inl (G.2.2.1, 512, .inl se)), (t0, .inr (6, [.int (nI n), .int (nI m), .int (nI t), .ref t1, .ref t2, .ref t3, .ref t4])), (t1, .inl (G.2.2.1, 9, .inl (nF ru))), (t2, .inl (G.2.2.1, 15, .inl (nF la))), (t3, .inl (G.2.2.1, 15, .inl (nF lb))), (t4, .inl (G.2.2.1, 9, .inl (nF ro)))]) [0, 1, 8, 2, 3, 4, 5, 6, 7] rfl rfl ?_
    show Jw G X _ 0 0 24 _ [] _
    refine j_aload_n (q := 25) (i0 := 0) F rfl dX0_lay_24 rfl ?_
    refine j_get (q := 28) (ci := 0) (q0 := 0) (kf := 0) (v := .ref t0) F inX0 rfl rfl rfl tw_189 rfl rfl dX0_lay_25 rfl ?_
    refine j_get (q := 31) (ci := 6) (q0 := 4) (kf := 6) (v := .ref t4) F inX6 rfl rfl rfl tw_109 rfl rfl dX0_lay_28 rfl ?_
    refine j_iconst (q := 32) (v := nI 0) F (by decide) dX0_lay_31 rfl ?_
    refine j_aload_n (q := 33) (i0 := 0) F rfl dX0_lay_32 rfl ?_
    refine j_get (q := 36) (ci := 0) (q0 := 0) (kf := 1) (v := .ref b1) F inX0 rfl rfl rfl tw_190 rfl rfl dX0_lay_33 rfl ?_
    refine j_iconst (q := 37) (v := nI 0) F (by decide) dX0_lay_36 rfl ?_
    refine j_bipush (q := 39) (v := nI 9) F (by decide) dX0_lay_37 rfl ?_
    refine j_copy (q := 42) (q0 := 8) (q1 := 1) (sp := 0) (dp := 0) (c0 := 9) (g2 := nF (va_cpy ro ne 0 0 9)) (w' := [(b0, .inr (0, [.ref t0, .ref b1, .ref b2, .ref b3, .int (nI lz), .int (nI lf), .int (nI ld), .int (nI lg)])), (b1, .inl (G.2.2.1, 9, .inl (nF (va_cpy ro ne 0 0 9)))), (b2, .inl (G.2.2.1, 512, .inl (fillF md (-1) 512))), (b3, .inl (G.2.2.1, 512, .inl se)), (t0, .inr (6, [.int (nI n), .int (nI m), .int (nI t), .ref t1, .ref t2, .ref t3, .ref t4])), (t1, .inl (G.2.2.1, 9, .inl (nF ru))), (t2, .inl (G.2.2.1, 15, .inl (nF la))), (t3, .inl (G.2.2.1, 15, .inl (nF lb))), (t4, .inl (G.2.2.1, 9, .inl (nF ro)))]) F rfl rfl rfl rfl rfl rfl rfl rfl rfl tw_421 tw_392 tw_391 tw_49 (Nat.le_of_ble_eq_true rfl) (Nat.le_of_ble_eq_true rfl) (nF_cpy _ _ _ _ _) rfl dX0_lay_39 rfl ?_
    refine j_iconst (q := 43) (v := nI 0) F (by decide) dX0_lay_42 rfl ?_
    refine j_istore_n (q := 44) (lv' := [(2, .int (nI 0)), (0, .ref b0), (1, .int (nI fog))]) F dX0_lay_43 (by decide) rfl rfl ?_
    have lp2 : ∀ (fu : Nat) (k : Nat) (hk : k ≤ m), (m - k) < fu → Jw G X 3 0 0 44 [(0, .ref b0), (1, .int (nI fog)), (2, .int (nI k))] [] [(b0, .inr (0, [.ref t0, .ref b1, .ref b2, .ref b3, .int (nI lz), .int (nI lf), .int (nI ld), .int (nI lg)])), (b1, .inl (G.2.2.1, 9, .inl (nF (lyF la lb fog (va_cpy ro ne 0 0 9) k)))), (b2, .inl (G.2.2.1, 512, .inl (fillF md (-1) 512))), (b3, .inl (G.2.2.1, 512, .inl se)), (t0, .inr (6, [.int (nI n), .int (nI m), .int (nI t), .ref t1, .ref t2, .ref t3, .ref t4])), (t1, .inl (G.2.2.1, 9, .inl (nF ru))), (t2, .inl (G.2.2.1, 15, .inl (nF la))), (t3, .inl (G.2.2.1, 15, .inl (nF lb))), (t4, .inl (G.2.2.1, 9, .inl (nF ro)))] := by
      intro fu
      induction fu with
      | zero => intro k hk hfu; exact absurd hfu (Nat.not_lt_zero _)
      | succ fu ih2 =>
        intro k hk hfu
        refine j_iload_n (q := 45) (i0 := 2) F rfl dX0_lay_44 rfl ?_
        refine j_aload_n (q := 46) (i0 := 0) F rfl dX0_lay_45 rfl ?_
        refine j_get (q := 49) (ci := 0) (q0 := 0) (kf := 0) (v := .ref t0) F inX0 rfl rfl rfl tw_189 rfl rfl dX0_lay_46 rfl ?_
        refine j_get (q := 52) (ci := 6) (q0 := 4) (kf := 1) (v := .int (nI m)) F inX6 rfl rfl rfl tw_93 rfl rfl dX0_lay_49 rfl ?_
        refine j_icmp_ge (q := 55) (t := 130) F (Pp := m ≤ k) (nI_leI (by omega) (by omega)) dX0_lay_52 rfl rfl (fun c3 => ?_) (fun c3 => ?_)
        · skip
          refine j_aload_n (q := 131) (i0 := 0) F rfl dX0_lay_130 rfl ?_
          refine j_iconst (q := 132) (v := nI 1) F (by decide) dX0_lay_131 rfl ?_
          refine j_put (q := 135) (ci := 0) (q0 := 0) (kf := 4) (v := .int (nI 1)) (w' := [(b0, .inr (0, [.ref t0, .ref b1, .ref b2, .ref b3, .int (nI 1), .int (nI lf), .int (nI ld), .int (nI lg)])), (b1, .inl (G.2.2.1, 9, .inl (nF (lyF la lb fog (va_cpy ro ne 0 0 9) k)))), (b2, .inl (G.2.2.1, 512, .inl (fillF md (-1) 512))), (b3, .inl (G.2.2.1, 512, .inl se)), (t0, .inr (6, [.int (nI n), .int (nI m), .int (nI t), .ref t1, .ref t2, .ref t3, .ref t4])), (t1, .inl (G.2.2.1, 9, .inl (nF ru))), (t2, .inl (G.2.2.1, 15, .inl (nF la))), (t3, .inl (G.2.2.1, 15, .inl (nF lb))), (t4, .inl (G.2.2.1, 9, .inl (nF ro)))]) F inX0 tyX0_ok nmX0 rfl rfl rfl tw_194 rfl rfl rfl rfl rfl rfl dX0_lay_132 rfl ?_
          refine j_aload_n (q := 136) (i0 := 0) F rfl dX0_lay_135 rfl ?_
          refine j_iload_n (q := 137) (i0 := 1) F rfl dX0_lay_136 rfl ?_
          refine j_put (q := 140) (ci := 0) (q0 := 0) (kf := 5) (v := .int (nI fog)) (w' := [(b0, .inr (0, [.ref t0, .ref b1, .ref b2, .ref b3, .int (nI 1), .int (nI fog), .int (nI ld), .int (nI lg)])), (b1, .inl (G.2.2.1, 9, .inl (nF (lyF la lb fog (va_cpy ro ne 0 0 9) k)))), (b2, .inl (G.2.2.1, 512, .inl (fillF md (-1) 512))), (b3, .inl (G.2.2.1, 512, .inl se)), (t0, .inr (6, [.int (nI n), .int (nI m), .int (nI t), .ref t1, .ref t2, .ref t3, .ref t4])), (t1, .inl (G.2.2.1, 9, .inl (nF ru))), (t2, .inl (G.2.2.1, 15, .inl (nF la))), (t3, .inl (G.2.2.1, 15, .inl (nF lb))), (t4, .inl (G.2.2.1, 9, .inl (nF ro)))]) F inX0 tyX0_ok nmX0 rfl rfl rfl tw_195 rfl rfl rfl rfl rfl rfl dX0_lay_137 rfl ?_
          exact j_vret (w2 := [(b0, .inr (0, [.ref t0, .ref b1, .ref b2, .ref b3, .int (nI 1), .int (nI fog), .int (nI ld), .int (nI lg)])), (b1, .inl (G.2.2.1, 9, .inl (nF (lyF la lb fog (va_cpy ro ne 0 0 9) k)))), (b2, .inl (G.2.2.1, 512, .inl (fillF md (-1) 512))), (b3, .inl (G.2.2.1, 512, .inl se)), (t0, .inr (6, [.int (nI n), .int (nI m), .int (nI t), .ref t1, .ref t2, .ref t3, .ref t4])), (t1, .inl (G.2.2.1, 9, .inl (nF ru))), (t2, .inl (G.2.2.1, 15, .inl (nF la))), (t3, .inl (G.2.2.1, 15, .inl (nF lb))), (t4, .inl (G.2.2.1, 9, .inl (nF ro)))]) F R0 rfl [0, 1, 2, 3, 4, 5, 6, 7, 8] rfl rfl (⟨_, _, lyF_ok hT fog (ro := va_cpy ro ne 0 0 9) (fun l hl => (pk_cpy_in (Nat.zero_le _) (by omega)).trans (by rw [Nat.zero_add, Nat.sub_zero]; exact hro l hl)), MdOk.fill _ _, rfl, by rw [show k = m by omega]⟩) dX0_lay_140
        · skip
          refine j_iload_n (q := 56) (i0 := 1) F rfl dX0_lay_55 rfl ?_
          refine j_iload_n (q := 57) (i0 := 2) F rfl dX0_lay_56 rfl ?_
          refine j_ishr (q := 58) (v := nI (fog >>> k)) F (nx_shr (by omega) (by omega)) dX0_lay_57 rfl ?_
          refine j_iconst (q := 59) (v := nI 1) F (by decide) dX0_lay_58 rfl ?_
          refine j_iand (q := 60) (v := nI (bitN fog k)) F (nx_and _ _) dX0_lay_59 rfl ?_
          refine j_iconst (q := 61) (v := nI 1) F (by decide) dX0_lay_60 rfl ?_
          refine j_icmp_ne (q := 64) (t := 124) F (Pp := fog.testBit k = true) (bit_is1 _ _) dX0_lay_61 rfl rfl (fun cf1 => ?_) (fun cf1 => ?_)
          · skip
            refine j_iinc (q := 127) (i0 := 2) (v := nI (k + 1)) (lv' := [(2, .int (nI (k + 1))), (0, .ref b0), (1, .int (nI fog))]) F dX0_lay_124 rfl (nI_add _ _) (by decide) rfl rfl ?_
            refine j_goto (t := 44) F dX0_lay_127 rfl ?_
            rw [show lyF la lb fog (va_cpy ro ne 0 0 9) k = lyF la lb fog (va_cpy ro ne 0 0 9) (k + 1) from by rw [lyF, if_neg cf1]]
            refine j_lv [1, 2, 0] (lv' := [(0, .ref b0), (1, .int (nI fog)), (2, .int (nI (k + 1)))]) rfl ?_
            exact ih2 (k + 1) (by omega) (by omega)
          · skip
            have hlt := hT.2.2.2.1 k (by omega)
            refine j_aload_n (q := 65) (i0 := 0) F rfl dX0_lay_64 rfl ?_
            refine j_get (q := 68) (ci := 0) (q0 := 0) (kf := 1) (v := .ref b1) F inX0 rfl rfl rfl tw_190 rfl rfl dX0_lay_65 rfl ?_
            refine j_aload_n (q := 69) (i0 := 0) F rfl dX0_lay_68 rfl ?_
            refine j_get (q := 72) (ci := 0) (q0 := 0) (kf := 0) (v := .ref t0) F inX0 rfl rfl rfl tw_189 rfl rfl dX0_lay_69 rfl ?_
            refine j_get (q := 75) (ci := 6) (q0 := 4) (kf := 4) (v := .ref t2) F inX6 rfl rfl rfl tw_103 rfl rfl dX0_lay_72 rfl ?_
            refine j_iload_n (q := 76) (i0 := 2) F rfl dX0_lay_75 rfl ?_
            refine j_iald (q := 77) (q0 := 6) (i := k) (v := nI (la k)) F rfl rfl (by omega) rfl (rfl) dX0_lay_76 rfl ?_
            refine j_dup2 (q := 78) F rfl rfl dX0_lay_77 rfl ?_
            refine j_iald (q := 79) (q0 := 1) (i := (la k)) (v := nI ((lyF la lb fog (va_cpy ro ne 0 0 9) k) (la k))) F rfl rfl (by omega) rfl (rfl) dX0_lay_78 rfl ?_
            refine j_iconst (q := 80) (v := nI 1) F (by decide) dX0_lay_79 rfl ?_
            refine j_aload_n (q := 81) (i0 := 0) F rfl dX0_lay_80 rfl ?_
            refine j_get (q := 84) (ci := 0) (q0 := 0) (kf := 0) (v := .ref t0) F inX0 rfl rfl rfl tw_189 rfl rfl dX0_lay_81 rfl ?_
            refine j_get (q := 87) (ci := 6) (q0 := 4) (kf := 5) (v := .ref t3) F inX6 rfl rfl rfl tw_106 rfl rfl dX0_lay_84 rfl ?_
            refine j_iload_n (q := 88) (i0 := 2) F rfl dX0_lay_87 rfl ?_
            refine j_iald (q := 89) (q0 := 7) (i := k) (v := nI (lb k)) F rfl rfl (by omega) rfl (rfl) dX0_lay_88 rfl ?_
            refine j_ishl (q := 90) (v := nI (2 ^ (lb k))) F (nx_shl1 (by omega)) dX0_lay_89 rfl ?_
            refine j_iconst (q := 91) (v := (-1)) F (by decide) dX0_lay_90 rfl ?_
            refine j_ixor (q := 92) (v := nI ((2 ^ (lb k)) ^^^ 4294967295)) F (nx_not _) dX0_lay_91 rfl ?_
            refine j_iand (q := 93) (v := nI (((lyF la lb fog (va_cpy ro ne 0 0 9) k) (la k)) &&& ((2 ^ (lb k)) ^^^ 4294967295))) F (nx_and _ _) dX0_lay_92 rfl ?_
            refine j_iast (q := 94) (q0 := 1) (i := (la k)) (f2 := nF (va_up (lyF la lb fog (va_cpy ro ne 0 0 9) k) (la k) (((lyF la lb fog (va_cpy ro ne 0 0 9) k) (la k)) &&& ((2 ^ (lb k)) ^^^ 4294967295)))) (w' := [(b0, .inr (0, [.ref t0, .ref b1, .ref b2, .ref b3, .int (nI lz), .int (nI lf), .int (nI ld), .int (nI lg)])), (b1, .inl (G.2.2.1, 9, .inl (nF (va_up (lyF la lb fog (va_cpy ro ne 0 0 9) k) (la k) (((lyF la lb fog (va_cpy ro ne 0 0 9) k) (la k)) &&& ((2 ^ (lb k)) ^^^ 4294967295)))))), (b2, .inl (G.2.2.1, 512, .inl (fillF md (-1) 512))), (b3, .inl (G.2.2.1, 512, .inl se)), (t0, .inr (6, [.int (nI n), .int (nI m), .int (nI t), .ref t1, .ref t2, .ref t3, .ref t4])), (t1, .inl (G.2.2.1, 9, .inl (nF ru))), (t2, .inl (G.2.2.1, 15, .inl (nF la))), (t3, .inl (G.2.2.1, 15, .inl (nF lb))), (t4, .inl (G.2.2.1, 9, .inl (nF ro)))]) F rfl rfl (by omega) rfl (nF_up _ _ _) rfl dX0_lay_93 rfl ?_
            refine j_aload_n (q := 95) (i0 := 0) F rfl dX0_lay_94 rfl ?_
            refine j_get (q := 98) (ci := 0) (q0 := 0) (kf := 1) (v := .ref b1) F inX0 rfl rfl rfl tw_190 rfl rfl dX0_lay_95 rfl ?_
            refine j_aload_n (q := 99) (i0 := 0) F rfl dX0_lay_98 rfl ?_
            refine j_get (q := 102) (ci := 0) (q0 := 0) (kf := 0) (v := .ref t0) F inX0 rfl rfl rfl tw_189 rfl rfl dX0_lay_99 rfl ?_
            refine j_get (q := 105) (ci := 6) (q0 := 4) (kf := 5) (v := .ref t3) F inX6 rfl rfl rfl tw_106 rfl rfl dX0_lay_102 rfl ?_
            refine j_iload_n (q := 106) (i0 := 2) F rfl dX0_lay_105 rfl ?_
            refine j_iald (q := 107) (q0 := 7) (i := k) (v := nI (lb k)) F rfl rfl (by omega) rfl (rfl) dX0_lay_106 rfl ?_
            refine j_dup2 (q := 108) F rfl rfl dX0_lay_107 rfl ?_
            refine j_iald (q := 109) (q0 := 1) (i := (lb k)) (v := nI ((va_up (lyF la lb fog (va_cpy ro ne 0 0 9) k) (la k) (((lyF la lb fog (va_cpy ro ne 0 0 9) k) (la k)) &&& ((2 ^ (lb k)) ^^^ 4294967295))) (lb k))) F rfl rfl (by omega) rfl (rfl) dX0_lay_108 rfl ?_
            refine j_iconst (q := 110) (v := nI 1) F (by decide) dX0_lay_109 rfl ?_
            refine j_aload_n (q := 111) (i0 := 0) F rfl dX0_lay_110 rfl ?_
            refine j_get (q := 114) (ci := 0) (q0 := 0) (kf := 0) (v := .ref t0) F inX0 rfl rfl rfl tw_189 rfl rfl dX0_lay_111 rfl ?_
            refine j_get (q := 117) (ci := 6) (q0 := 4) (kf := 4) (v := .ref t2) F inX6 rfl rfl rfl tw_103 rfl rfl dX0_lay_114 rfl ?_
            refine j_iload_n (q := 118) (i0 := 2) F rfl dX0_lay_117 rfl ?_
            refine j_iald (q := 119) (q0 := 6) (i := k) (v := nI (la k)) F rfl rfl (by omega) rfl (rfl) dX0_lay_118 rfl ?_
            refine j_ishl (q := 120) (v := nI (2 ^ (la k))) F (nx_shl1 (by omega)) dX0_lay_119 rfl ?_
            refine j_iconst (q := 121) (v := (-1)) F (by decide) dX0_lay_120 rfl ?_
            refine j_ixor (q := 122) (v := nI ((2 ^ (la k)) ^^^ 4294967295)) F (nx_not _) dX0_lay_121 rfl ?_
            refine j_iand (q := 123) (v := nI (((va_up (lyF la lb fog (va_cpy ro ne 0 0 9) k) (la k) (((lyF la lb fog (va_cpy ro ne 0 0 9) k) (la k)) &&& ((2 ^ (lb k)) ^^^ 4294967295))) (lb k)) &&& ((2 ^ (la k)) ^^^ 4294967295))) F (nx_and _ _) dX0_lay_122 rfl ?_
            refine j_iast (q := 124) (q0 := 1) (i := (lb k)) (f2 := nF (va_up (va_up (lyF la lb fog (va_cpy ro ne 0 0 9) k) (la k) (((lyF la lb fog (va_cpy ro ne 0 0 9) k) (la k)) &&& ((2 ^ (lb k)) ^^^ 4294967295))) (lb k) (((va_up (lyF la lb fog (va_cpy ro ne 0 0 9) k) (la k) (((lyF la lb fog (va_cpy ro ne 0 0 9) k) (la k)) &&& ((2 ^ (lb k)) ^^^ 4294967295))) (lb k)) &&& ((2 ^ (la k)) ^^^ 4294967295)))) (w' := [(b0, .inr (0, [.ref t0, .ref b1, .ref b2, .ref b3, .int (nI lz), .int (nI lf), .int (nI ld), .int (nI lg)])), (b1, .inl (G.2.2.1, 9, .inl (nF (va_up (va_up (lyF la lb fog (va_cpy ro ne 0 0 9) k) (la k) (((lyF la lb fog (va_cpy ro ne 0 0 9) k) (la k)) &&& ((2 ^ (lb k)) ^^^ 4294967295))) (lb k) (((va_up (lyF la lb fog (va_cpy ro ne 0 0 9) k) (la k) (((lyF la lb fog (va_cpy ro ne 0 0 9) k) (la k)) &&& ((2 ^ (lb k)) ^^^ 4294967295))) (lb k)) &&& ((2 ^ (la k)) ^^^ 4294967295)))))), (b2, .inl (G.2.2.1, 512, .inl (fillF md (-1) 512))), (b3, .inl (G.2.2.1, 512, .inl se)), (t0, .inr (6, [.int (nI n), .int (nI m), .int (nI t), .ref t1, .ref t2, .ref t3, .ref t4])), (t1, .inl (G.2.2.1, 9, .inl (nF ru))), (t2, .inl (G.2.2.1, 15, .inl (nF la))), (t3, .inl (G.2.2.1, 15, .inl (nF lb))), (t4, .inl (G.2.2.1, 9, .inl (nF ro)))]) F rfl rfl (by omega) rfl (nF_up _ _ _) rfl dX0_lay_123 rfl ?_
            refine j_iinc (q := 127) (i0 := 2) (v := nI (k + 1)) (lv' := [(2, .int (nI (k + 1))), (0, .ref b0), (1, .int (nI fog))]) F dX0_lay_124 rfl (nI_add _ _) (by decide) rfl rfl ?_
            refine j_goto (t := 44) F dX0_lay_127 rfl ?_
            rw [show va_up (va_up (lyF la lb fog (va_cpy ro ne 0 0 9) k) (la k) (lyF la lb fog (va_cpy ro ne 0 0 9) k (la k) &&& (2 ^ lb k ^^^ 4294967295))) (lb k) (va_up (lyF la lb fog (va_cpy ro ne 0 0 9) k) (la k) (lyF la lb fog (va_cpy ro ne 0 0 9) k (la k) &&& (2 ^ lb k ^^^ 4294967295)) (lb k) &&& (2 ^ la k ^^^ 4294967295)) = lyF la lb fog (va_cpy ro ne 0 0 9) (k + 1) from by rw [lyF, if_pos cf1]]
            refine j_lv [1, 2, 0] (lv' := [(0, .ref b0), (1, .int (nI fog)), (2, .int (nI (k + 1)))]) rfl ?_
            exact ih2 (k + 1) (by omega) (by omega)
    refine j_lv [1, 2, 0] (lv' := [(0, .ref b0), (1, .int (nI fog)), (2, .int (nI 0))]) rfl ?_
    exact lp2 _ 0 (Nat.zero_le _) (Nat.lt_succ_self _)
  · skip
    refine j_aload_n (q := 8) (i0 := 0) F rfl dX0_lay_7 rfl ?_
    refine j_get (q := 11) (ci := 0) (q0 := 0) (kf := 5) (v := .int (nI lf)) F inX0 rfl rfl rfl tw_195 rfl rfl dX0_lay_8 rfl ?_
    refine j_iload_n (q := 12) (i0 := 1) F rfl dX0_lay_11 rfl ?_
    refine j_icmp_ne (q := 15) (t := 16) F (Pp := lf = fog) (nI_eq (by omega) (by omega)) dX0_lay_12 rfl rfl (fun ce => ?_) (fun ce => ?_)
    · skip
      refine j_aload_n (q := 17) (i0 := 0) F rfl dX0_lay_16 rfl ?_
      refine j_get (q := 20) (ci := 0) (q0 := 0) (kf := 2) (v := .ref b2) F inX0 rfl rfl rfl tw_192 rfl rfl dX0_lay_17 rfl ?_
      refine j_iconst (q := 21) (v := (-1)) F (by decide) dX0_lay_20 rfl ?_
      refine j_callS (q := 24) (As := [.ref b2, .int (-1)]) (wr := [(b0, .inr (0, [.ref t0, .ref b1, .ref b2, .ref b3, .int (nI lz), .int (nI lf), .int (nI ld), .int (nI lg)])), (b1, .inl (G.2.2.1, 9, .inl (nF ne))), (b3, .inl (G.2.2.1, 512, .inl se)), (t0, .inr (6, [.int (nI n), .int (nI m), .int (nI t), .ref t1, .ref t2, .ref t3, .ref t4])), (t1, .inl (G.2.2.1, 9, .inl (nF ru))), (t2, .inl (G.2.2.1, 15, .inl (nF la))), (t3, .inl (G.2.2.1, 15, .inl (nF lb))), (t4, .inl (G.2.2.1, 9, .inl (nF ro)))]) (st := []) F (c_fill G (f := md) (v := -1) rfl) kwJ7_fill_53178 tw_319 tw_420 ⟨Nat.le_of_ble_eq_true rfl, Nat.le_of_ble_eq_true rfl, rfl, rfl, Nat.le_of_ble_eq_true rfl, Nat.le_of_ble_eq_true rfl⟩ [2] [0, 1, 3, 4, 5, 6, 7, 8] rfl rfl rfl rfl rfl rfl rfl (Nat.le_of_ble_eq_true rfl) dX0_lay_21 rfl ?_
      rintro r_ w_ ⟨rfl, rfl⟩
      refine j_w (w' := [(b0, .inr (0, [.ref t0, .ref b1, .ref b2, .ref b3, .int (nI lz), .int (nI lf), .int (nI ld), .int (nI lg)])), (b1, .inl (G.2.2.1, 9, .inl (nF ne))), (b2, .inl (G.2.2.1, 512, .inl (fillF md (-1) 512))), (b3, .inl (G.2.2.1, 512, .inl se)), (t0, .inr (6, [.int (nI n), .int (nI m), .int (nI t), .ref t1, .ref t2, .ref t3, .ref t4])), (t1, .inl (G.2.2.1, 9, .inl (nF ru))), (t2, .inl (G.2.2.1, 15, .inl (nF la))), (t3, .inl (G.2.2.1, 15, .inl (nF lb))), (t4, .inl (G.2.2.1, 9, .inl (nF ro)))]) [0, 1, 8, 2, 3, 4, 5, 6, 7] rfl rfl ?_
      show Jw G X _ 0 0 24 _ [] _
      refine j_aload_n (q := 25) (i0 := 0) F rfl dX0_lay_24 rfl ?_
      refine j_get (q := 28) (ci := 0) (q0 := 0) (kf := 0) (v := .ref t0) F inX0 rfl rfl rfl tw_189 rfl rfl dX0_lay_25 rfl ?_
      refine j_get (q := 31) (ci := 6) (q0 := 4) (kf := 6) (v := .ref t4) F inX6 rfl rfl rfl tw_109 rfl rfl dX0_lay_28 rfl ?_
      refine j_iconst (q := 32) (v := nI 0) F (by decide) dX0_lay_31 rfl ?_
      refine j_aload_n (q := 33) (i0 := 0) F rfl dX0_lay_32 rfl ?_
      refine j_get (q := 36) (ci := 0) (q0 := 0) (kf := 1) (v := .ref b1) F inX0 rfl rfl rfl tw_190 rfl rfl dX0_lay_33 rfl ?_
      refine j_iconst (q := 37) (v := nI 0) F (by decide) dX0_lay_36 rfl ?_
      refine j_bipush (q := 39) (v := nI 9) F (by decide) dX0_lay_37 rfl ?_
      refine j_copy (q := 42) (q0 := 8) (q1 := 1) (sp := 0) (dp := 0) (c0 := 9) (g2 := nF (va_cpy ro ne 0 0 9)) (w' := [(b0, .inr (0, [.ref t0, .ref b1, .ref b2, .ref b3, .int (nI lz), .int (nI lf), .int (nI ld), .int (nI lg)])), (b1, .inl (G.2.2.1, 9, .inl (nF (va_cpy ro ne 0 0 9)))), (b2, .inl (G.2.2.1, 512, .inl (fillF md (-1) 512))), (b3, .inl (G.2.2.1, 512, .inl se)), (t0, .inr (6, [.int (nI n), .int (nI m), .int (nI t), .ref t1, .ref t2, .ref t3, .ref t4])), (t1, .inl (G.2.2.1, 9, .inl (nF ru))), (t2, .inl (G.2.2.1, 15, .inl (nF la))), (t3, .inl (G.2.2.1, 15, .inl (nF lb))), (t4, .inl (G.2.2.1, 9, .inl (nF ro)))]) F rfl rfl rfl rfl rfl rfl rfl rfl rfl tw_421 tw_392 tw_391 tw_49 (Nat.le_of_ble_eq_true rfl) (Nat.le_of_ble_eq_true rfl) (nF_cpy _ _ _ _ _) rfl dX0_lay_39 rfl ?_
      refine j_iconst (q := 43) (v := nI 0) F (by decide) dX0_lay_42 rfl ?_
      refine j_istore_n (q := 44) (lv' := [(2, .int (nI 0)), (0, .ref b0), (1, .int (nI fog))]) F dX0_lay_43 (by decide) rfl rfl ?_
      have lp6 : ∀ (fu : Nat) (k : Nat) (hk : k ≤ m), (m - k) < fu → Jw G X 3 0 0 44 [(0, .ref b0), (1, .int (nI fog)), (2, .int (nI k))] [] [(b0, .inr (0, [.ref t0, .ref b1, .ref b2, .ref b3, .int (nI lz), .int (nI lf), .int (nI ld), .int (nI lg)])), (b1, .inl (G.2.2.1, 9, .inl (nF (lyF la lb fog (va_cpy ro ne 0 0 9) k)))), (b2, .inl (G.2.2.1, 512, .inl (fillF md (-1) 512))), (b3, .inl (G.2.2.1, 512, .inl se)), (t0, .inr (6, [.int (nI n), .int (nI m), .int (nI t), .ref t1, .ref t2, .ref t3, .ref t4])), (t1, .inl (G.2.2.1, 9, .inl (nF ru))), (t2, .inl (G.2.2.1, 15, .inl (nF la))), (t3, .inl (G.2.2.1, 15, .inl (nF lb))), (t4, .inl (G.2.2.1, 9, .inl (nF ro)))] := by
        intro fu
        induction fu with
        | zero => intro k hk hfu; exact absurd hfu (Nat.not_lt_zero _)
        | succ fu ih6 =>
          intro k hk hfu
          refine j_iload_n (q := 45) (i0 := 2) F rfl dX0_lay_44 rfl ?_
          refine j_aload_n (q := 46) (i0 := 0) F rfl dX0_lay_45 rfl ?_
          refine j_get (q := 49) (ci := 0) (q0 := 0) (kf := 0) (v := .ref t0) F inX0 rfl rfl rfl tw_189 rfl rfl dX0_lay_46 rfl ?_
          refine j_get (q := 52) (ci := 6) (q0 := 4) (kf := 1) (v := .int (nI m)) F inX6 rfl rfl rfl tw_93 rfl rfl dX0_lay_49 rfl ?_
          refine j_icmp_ge (q := 55) (t := 130) F (Pp := m ≤ k) (nI_leI (by omega) (by omega)) dX0_lay_52 rfl rfl (fun c7 => ?_) (fun c7 => ?_)
          · skip
            refine j_aload_n (q := 131) (i0 := 0) F rfl dX0_lay_130 rfl ?_
            refine j_iconst (q := 132) (v := nI 1) F (by decide) dX0_lay_131 rfl ?_
            refine j_put (q := 135) (ci := 0) (q0 := 0) (kf := 4) (v := .int (nI 1)) (w' := [(b0, .inr (0, [.ref t0, .ref b1, .ref b2, .ref b3, .int (nI 1), .int (nI lf), .int (nI ld), .int (nI lg)])), (b1, .inl (G.2.2.1, 9, .inl (nF (lyF la lb fog (va_cpy ro ne 0 0 9) k)))), (b2, .inl (G.2.2.1, 512, .inl (fillF md (-1) 512))), (b3, .inl (G.2.2.1, 512, .inl se)), (t0, .inr (6, [.int (nI n), .int (nI m), .int (nI t), .ref t1, .ref t2, .ref t3, .ref t4])), (t1, .inl (G.2.2.1, 9, .inl (nF ru))), (t2, .inl (G.2.2.1, 15, .inl (nF la))), (t3, .inl (G.2.2.1, 15, .inl (nF lb))), (t4, .inl (G.2.2.1, 9, .inl (nF ro)))]) F inX0 tyX0_ok nmX0 rfl rfl rfl tw_194 rfl rfl rfl rfl rfl rfl dX0_lay_132 rfl ?_
            refine j_aload_n (q := 136) (i0 := 0) F rfl dX0_lay_135 rfl ?_
            refine j_iload_n (q := 137) (i0 := 1) F rfl dX0_lay_136 rfl ?_
            refine j_put (q := 140) (ci := 0) (q0 := 0) (kf := 5) (v := .int (nI fog)) (w' := [(b0, .inr (0, [.ref t0, .ref b1, .ref b2, .ref b3, .int (nI 1), .int (nI fog), .int (nI ld), .int (nI lg)])), (b1, .inl (G.2.2.1, 9, .inl (nF (lyF la lb fog (va_cpy ro ne 0 0 9) k)))), (b2, .inl (G.2.2.1, 512, .inl (fillF md (-1) 512))), (b3, .inl (G.2.2.1, 512, .inl se)), (t0, .inr (6, [.int (nI n), .int (nI m), .int (nI t), .ref t1, .ref t2, .ref t3, .ref t4])), (t1, .inl (G.2.2.1, 9, .inl (nF ru))), (t2, .inl (G.2.2.1, 15, .inl (nF la))), (t3, .inl (G.2.2.1, 15, .inl (nF lb))), (t4, .inl (G.2.2.1, 9, .inl (nF ro)))]) F inX0 tyX0_ok nmX0 rfl rfl rfl tw_195 rfl rfl rfl rfl rfl rfl dX0_lay_137 rfl ?_
            exact j_vret (w2 := [(b0, .inr (0, [.ref t0, .ref b1, .ref b2, .ref b3, .int (nI 1), .int (nI fog), .int (nI ld), .int (nI lg)])), (b1, .inl (G.2.2.1, 9, .inl (nF (lyF la lb fog (va_cpy ro ne 0 0 9) k)))), (b2, .inl (G.2.2.1, 512, .inl (fillF md (-1) 512))), (b3, .inl (G.2.2.1, 512, .inl se)), (t0, .inr (6, [.int (nI n), .int (nI m), .int (nI t), .ref t1, .ref t2, .ref t3, .ref t4])), (t1, .inl (G.2.2.1, 9, .inl (nF ru))), (t2, .inl (G.2.2.1, 15, .inl (nF la))), (t3, .inl (G.2.2.1, 15, .inl (nF lb))), (t4, .inl (G.2.2.1, 9, .inl (nF ro)))]) F R0 rfl [0, 1, 2, 3, 4, 5, 6, 7, 8] rfl rfl (⟨_, _, lyF_ok hT fog (ro := va_cpy ro ne 0 0 9) (fun l hl => (pk_cpy_in (Nat.zero_le _) (by omega)).trans (by rw [Nat.zero_add, Nat.sub_zero]; exact hro l hl)), MdOk.fill _ _, rfl, by rw [show k = m by omega]⟩) dX0_lay_140
          · skip
            refine j_iload_n (q := 56) (i0 := 1) F rfl dX0_lay_55 rfl ?_
            refine j_iload_n (q := 57) (i0 := 2) F rfl dX0_lay_56 rfl ?_
            refine j_ishr (q := 58) (v := nI (fog >>> k)) F (nx_shr (by omega) (by omega)) dX0_lay_57 rfl ?_
            refine j_iconst (q := 59) (v := nI 1) F (by decide) dX0_lay_58 rfl ?_
            refine j_iand (q := 60) (v := nI (bitN fog k)) F (nx_and _ _) dX0_lay_59 rfl ?_
            refine j_iconst (q := 61) (v := nI 1) F (by decide) dX0_lay_60 rfl ?_
            refine j_icmp_ne (q := 64) (t := 124) F (Pp := fog.testBit k = true) (bit_is1 _ _) dX0_lay_61 rfl rfl (fun cf1 => ?_) (fun cf1 => ?_)
            · skip
              refine j_iinc (q := 127) (i0 := 2) (v := nI (k + 1)) (lv' := [(2, .int (nI (k + 1))), (0, .ref b0), (1, .int (nI fog))]) F dX0_lay_124 rfl (nI_add _ _) (by decide) rfl rfl ?_
              refine j_goto (t := 44) F dX0_lay_127 rfl ?_
              rw [show lyF la lb fog (va_cpy ro ne 0 0 9) k = lyF la lb fog (va_cpy ro ne 0 0 9) (k + 1) from by rw [lyF, if_neg cf1]]
              refine j_lv [1, 2, 0] (lv' := [(0, .ref b0), (1, .int (nI fog)), (2, .int (nI (k + 1)))]) rfl ?_
              exact ih6 (k + 1) (by omega) (by omega)
            · skip
              have hlt := hT.2.2.2.1 k (by omega)
              refine j_aload_n (q := 65) (i0 := 0) F rfl dX0_lay_64 rfl ?_
              refine j_get (q := 68) (ci := 0) (q0 := 0) (kf := 1) (v := .ref b1) F inX0 rfl rfl rfl tw_190 rfl rfl dX0_lay_65 rfl ?_
              refine j_aload_n (q := 69) (i0 := 0) F rfl dX0_lay_68 rfl ?_
              refine j_get (q := 72) (ci := 0) (q0 := 0) (kf := 0) (v := .ref t0) F inX0 rfl rfl rfl tw_189 rfl rfl dX0_lay_69 rfl ?_
              refine j_get (q := 75) (ci := 6) (q0 := 4) (kf := 4) (v := .ref t2) F inX6 rfl rfl rfl tw_103 rfl rfl dX0_lay_72 rfl ?_
              refine j_iload_n (q := 76) (i0 := 2) F rfl dX0_lay_75 rfl ?_
              refine j_iald (q := 77) (q0 := 6) (i := k) (v := nI (la k)) F rfl rfl (by omega) rfl (rfl) dX0_lay_76 rfl ?_
              refine j_dup2 (q := 78) F rfl rfl dX0_lay_77 rfl ?_
              refine j_iald (q := 79) (q0 := 1) (i := (la k)) (v := nI ((lyF la lb fog (va_cpy ro ne 0 0 9) k) (la k))) F rfl rfl (by omega) rfl (rfl) dX0_lay_78 rfl ?_
              refine j_iconst (q := 80) (v := nI 1) F (by decide) dX0_lay_79 rfl ?_
              refine j_aload_n (q := 81) (i0 := 0) F rfl dX0_lay_80 rfl ?_
              refine j_get (q := 84) (ci := 0) (q0 := 0) (kf := 0) (v := .ref t0) F inX0 rfl rfl rfl tw_189 rfl rfl dX0_lay_81 rfl ?_
              refine j_get (q := 87) (ci := 6) (q0 := 4) (kf := 5) (v := .ref t3) F inX6 rfl rfl rfl tw_106 rfl rfl dX0_lay_84 rfl ?_
              refine j_iload_n (q := 88) (i0 := 2) F rfl dX0_lay_87 rfl ?_
              refine j_iald (q := 89) (q0 := 7) (i := k) (v := nI (lb k)) F rfl rfl (by omega) rfl (rfl) dX0_lay_88 rfl ?_
              refine j_ishl (q := 90) (v := nI (2 ^ (lb k))) F (nx_shl1 (by omega)) dX0_lay_89 rfl ?_
              refine j_iconst (q := 91) (v := (-1)) F (by decide) dX0_lay_90 rfl ?_
              refine j_ixor (q := 92) (v := nI ((2 ^ (lb k)) ^^^ 4294967295)) F (nx_not _) dX0_lay_91 rfl ?_
              refine j_iand (q := 93) (v := nI (((lyF la lb fog (va_cpy ro ne 0 0 9) k) (la k)) &&& ((2 ^ (lb k)) ^^^ 4294967295))) F (nx_and _ _) dX0_lay_92 rfl ?_
              refine j_iast (q := 94) (q0 := 1) (i := (la k)) (f2 := nF (va_up (lyF la lb fog (va_cpy ro ne 0 0 9) k) (la k) (((lyF la lb fog (va_cpy ro ne 0 0 9) k) (la k)) &&& ((2 ^ (lb k)) ^^^ 4294967295)))) (w' := [(b0, .inr (0, [.ref t0, .ref b1, .ref b2, .ref b3, .int (nI lz), .int (nI lf), .int (nI ld), .int (nI lg)])), (b1, .inl (G.2.2.1, 9, .inl (nF (va_up (lyF la lb fog (va_cpy ro ne 0 0 9) k) (la k) (((lyF la lb fog (va_cpy ro ne 0 0 9) k) (la k)) &&& ((2 ^ (lb k)) ^^^ 4294967295)))))), (b2, .inl (G.2.2.1, 512, .inl (fillF md (-1) 512))), (b3, .inl (G.2.2.1, 512, .inl se)), (t0, .inr (6, [.int (nI n), .int (nI m), .int (nI t), .ref t1, .ref t2, .ref t3, .ref t4])), (t1, .inl (G.2.2.1, 9, .inl (nF ru))), (t2, .inl (G.2.2.1, 15, .inl (nF la))), (t3, .inl (G.2.2.1, 15, .inl (nF lb))), (t4, .inl (G.2.2.1, 9, .inl (nF ro)))]) F rfl rfl (by omega) rfl (nF_up _ _ _) rfl dX0_lay_93 rfl ?_
              refine j_aload_n (q := 95) (i0 := 0) F rfl dX0_lay_94 rfl ?_
              refine j_get (q := 98) (ci := 0) (q0 := 0) (kf := 1) (v := .ref b1) F inX0 rfl rfl rfl tw_190 rfl rfl dX0_lay_95 rfl ?_
              refine j_aload_n (q := 99) (i0 := 0) F rfl dX0_lay_98 rfl ?_
              refine j_get (q := 102) (ci := 0) (q0 := 0) (kf := 0) (v := .ref t0) F inX0 rfl rfl rfl tw_189 rfl rfl dX0_lay_99 rfl ?_
              refine j_get (q := 105) (ci := 6) (q0 := 4) (kf := 5) (v := .ref t3) F inX6 rfl rfl rfl tw_106 rfl rfl dX0_lay_102 rfl ?_
              refine j_iload_n (q := 106) (i0 := 2) F rfl dX0_lay_105 rfl ?_
              refine j_iald (q := 107) (q0 := 7) (i := k) (v := nI (lb k)) F rfl rfl (by omega) rfl (rfl) dX0_lay_106 rfl ?_
              refine j_dup2 (q := 108) F rfl rfl dX0_lay_107 rfl ?_
              refine j_iald (q := 109) (q0 := 1) (i := (lb k)) (v := nI ((va_up (lyF la lb fog (va_cpy ro ne 0 0 9) k) (la k) (((lyF la lb fog (va_cpy ro ne 0 0 9) k) (la k)) &&& ((2 ^ (lb k)) ^^^ 4294967295))) (lb k))) F rfl rfl (by omega) rfl (rfl) dX0_lay_108 rfl ?_
              refine j_iconst (q := 110) (v := nI 1) F (by decide) dX0_lay_109 rfl ?_
              refine j_aload_n (q := 111) (i0 := 0) F rfl dX0_lay_110 rfl ?_
              refine j_get (q := 114) (ci := 0) (q0 := 0) (kf := 0) (v := .ref t0) F inX0 rfl rfl rfl tw_189 rfl rfl dX0_lay_111 rfl ?_
              refine j_get (q := 117) (ci := 6) (q0 := 4) (kf := 4) (v := .ref t2) F inX6 rfl rfl rfl tw_103 rfl rfl dX0_lay_114 rfl ?_
              refine j_iload_n (q := 118) (i0 := 2) F rfl dX0_lay_117 rfl ?_
              refine j_iald (q := 119) (q0 := 6) (i := k) (v := nI (la k)) F rfl rfl (by omega) rfl (rfl) dX0_lay_118 rfl ?_
              refine j_ishl (q := 120) (v := nI (2 ^ (la k))) F (nx_shl1 (by omega)) dX0_lay_119 rfl ?_
              refine j_iconst (q := 121) (v := (-1)) F (by decide) dX0_lay_120 rfl ?_
              refine j_ixor (q := 122) (v := nI ((2 ^ (la k)) ^^^ 4294967295)) F (nx_not _) dX0_lay_121 rfl ?_
              refine j_iand (q := 123) (v := nI (((va_up (lyF la lb fog (va_cpy ro ne 0 0 9) k) (la k) (((lyF la lb fog (va_cpy ro ne 0 0 9) k) (la k)) &&& ((2 ^ (lb k)) ^^^ 4294967295))) (lb k)) &&& ((2 ^ (la k)) ^^^ 4294967295))) F (nx_and _ _) dX0_lay_122 rfl ?_
              refine j_iast (q := 124) (q0 := 1) (i := (lb k)) (f2 := nF (va_up (va_up (lyF la lb fog (va_cpy ro ne 0 0 9) k) (la k) (((lyF la lb fog (va_cpy ro ne 0 0 9) k) (la k)) &&& ((2 ^ (lb k)) ^^^ 4294967295))) (lb k) (((va_up (lyF la lb fog (va_cpy ro ne 0 0 9) k) (la k) (((lyF la lb fog (va_cpy ro ne 0 0 9) k) (la k)) &&& ((2 ^ (lb k)) ^^^ 4294967295))) (lb k)) &&& ((2 ^ (la k)) ^^^ 4294967295)))) (w' := [(b0, .inr (0, [.ref t0, .ref b1, .ref b2, .ref b3, .int (nI lz), .int (nI lf), .int (nI ld), .int (nI lg)])), (b1, .inl (G.2.2.1, 9, .inl (nF (va_up (va_up (lyF la lb fog (va_cpy ro ne 0 0 9) k) (la k) (((lyF la lb fog (va_cpy ro ne 0 0 9) k) (la k)) &&& ((2 ^ (lb k)) ^^^ 4294967295))) (lb k) (((va_up (lyF la lb fog (va_cpy ro ne 0 0 9) k) (la k) (((lyF la lb fog (va_cpy ro ne 0 0 9) k) (la k)) &&& ((2 ^ (lb k)) ^^^ 4294967295))) (lb k)) &&& ((2 ^ (la k)) ^^^ 4294967295)))))), (b2, .inl (G.2.2.1, 512, .inl (fillF md (-1) 512))), (b3, .inl (G.2.2.1, 512, .inl se)), (t0, .inr (6, [.int (nI n), .int (nI m), .int (nI t), .ref t1, .ref t2, .ref t3, .ref t4])), (t1, .inl (G.2.2.1, 9, .inl (nF ru))), (t2, .inl (G.2.2.1, 15, .inl (nF la))), (t3, .inl (G.2.2.1, 15, .inl (nF lb))), (t4, .inl (G.2.2.1, 9, .inl (nF ro)))]) F rfl rfl (by omega) rfl (nF_up _ _ _) rfl dX0_lay_123 rfl ?_
              refine j_iinc (q := 127) (i0 := 2) (v := nI (k + 1)) (lv' := [(2, .int (nI (k + 1))), (0, .ref b0), (1, .int (nI fog))]) F dX0_lay_124 rfl (nI_add _ _) (by decide) rfl rfl ?_
              refine j_goto (t := 44) F dX0_lay_127 rfl ?_
              rw [show va_up (va_up (lyF la lb fog (va_cpy ro ne 0 0 9) k) (la k) (lyF la lb fog (va_cpy ro ne 0 0 9) k (la k) &&& (2 ^ lb k ^^^ 4294967295))) (lb k) (va_up (lyF la lb fog (va_cpy ro ne 0 0 9) k) (la k) (lyF la lb fog (va_cpy ro ne 0 0 9) k (la k) &&& (2 ^ lb k ^^^ 4294967295)) (lb k) &&& (2 ^ la k ^^^ 4294967295)) = lyF la lb fog (va_cpy ro ne 0 0 9) (k + 1) from by rw [lyF, if_pos cf1]]
              refine j_lv [1, 2, 0] (lv' := [(0, .ref b0), (1, .int (nI fog)), (2, .int (nI (k + 1)))]) rfl ?_
              exact ih6 (k + 1) (by omega) (by omega)
      refine j_lv [1, 2, 0] (lv' := [(0, .ref b0), (1, .int (nI fog)), (2, .int (nI 0))]) rfl ?_
      exact lp6 _ 0 (Nat.zero_le _) (Nat.lt_succ_self _)
    · skip
      exact j_vret (w2 := [(b0, .inr (0, [.ref t0, .ref b1, .ref b2, .ref b3, .int (nI lz), .int (nI lf), .int (nI ld), .int (nI lg)])), (b1, .inl (G.2.2.1, 9, .inl (nF ne))), (b2, .inl (G.2.2.1, 512, .inl md)), (b3, .inl (G.2.2.1, 512, .inl se)), (t0, .inr (6, [.int (nI n), .int (nI m), .int (nI t), .ref t1, .ref t2, .ref t3, .ref t4])), (t1, .inl (G.2.2.1, 9, .inl (nF ru))), (t2, .inl (G.2.2.1, 15, .inl (nF la))), (t3, .inl (G.2.2.1, 15, .inl (nF lb))), (t4, .inl (G.2.2.1, 9, .inl (nF ro)))]) F R0 rfl [0, 1, 2, 3, 4, 5, 6, 7, 8] rfl rfl ((fun (e : lz = 1) => by subst e; subst ce; exact ⟨_, _, (hlay rfl).1, (hlay rfl).2, rfl, rfl⟩) (by omega)) dX0_lay_15

set_option maxHeartbeats 4000000 in
set_option maxRecDepth 100000 in
theorem c_X0_join (G : Gm) {b0 b1 b2 b3 t0 t1 t2 t3 t4 n m t lz lf ld lg a b : Nat} {ne : Nat → Nat} {md : Nat → Int32} (hn : n ≤ 9) (ha : a < n) (hb : b < n) : Mg G yX0_join cX0_join 3 none ({ frames := 1, cells := 0, slots := 0, locals := 23 } : Room) 0 0 [.ref b0, .int (nI a), .int (nI b)] [(b0, .inr (0, [.ref t0, .ref b1, .ref b2, .ref b3, .int (nI lz), .int (nI lf), .int (nI ld), .int (nI lg)])), (b1, .inl (G.2.2.1, 9, .inl (nF ne))), (b2, .inl (G.2.2.1, 512, .inl md)), (t0, .inr (6, [.int (nI n), .int (nI m), .int (nI t), .ref t1, .ref t2, .ref t3, .ref t4]))] (fun r w2 => r = none ∧ w2 = [(b0, .inr (0, [.ref t0, .ref b1, .ref b2, .ref b3, .int (nI 0), .int (nI lf), .int (nI ld), .int (nI lg)])), (b1, .inl (G.2.2.1, 9, .inl (nF (va_up (va_up ne a (ne a ||| 2 ^ b)) b (va_up ne a (ne a ||| 2 ^ b) b ||| 2 ^ a))))), (b2, .inl (G.2.2.1, 512, .inl (fillF md (-1) 512))), (t0, .inr (6, [.int (nI n), .int (nI m), .int (nI t), .ref t1, .ref t2, .ref t3, .ref t4]))]) := by
  refine Mg.mk (lv := [(0, .ref b0), (1, .int (nI a)), (2, .int (nI b))]) (by decide) rfl rfl (fun X F R0 => ?_)
  refine j_aload_n (q := 1) (i0 := 0) F rfl dX0_join_0 rfl ?_
  refine j_get (q := 4) (ci := 0) (q0 := 0) (kf := 0) (v := .ref t0) F inX0 rfl rfl rfl tw_189 rfl rfl dX0_join_1 rfl ?_
  refine j_iload_n (q := 5) (i0 := 1) F rfl dX0_join_4 rfl ?_
  refine j_callV (q := 8) (ci := 6) (q0 := 0) (As := [.int (nI a)]) (wr := [(b0, .inr (0, [.ref t0, .ref b1, .ref b2, .ref b3, .int (nI lz), .int (nI lf), .int (nI ld), .int (nI lg)])), (b1, .inl (G.2.2.1, 9, .inl (nF ne))), (b2, .inl (G.2.2.1, 512, .inl md))]) (st := []) F (c_X6_isLamp G (x := nI a) (by omega)) kwX6_isLamp tw_375 tw_376 tw_571 ⟨Nat.le_of_ble_eq_true rfl, Nat.le_of_ble_eq_true rfl, rfl, rfl, Nat.le_of_ble_eq_true rfl, Nat.le_of_ble_eq_true rfl⟩ [3] [0, 1, 2] rfl rfl rfl rfl rfl rfl rfl rfl rfl (Nat.le_of_ble_eq_true rfl) dX0_join_5 rfl ?_
  rintro r_ w_ ⟨rfl, (⟨rfl, hl⟩ | ⟨rfl, hl⟩)⟩
  · skip
    refine j_w (w' := [(b0, .inr (0, [.ref t0, .ref b1, .ref b2, .ref b3, .int (nI lz), .int (nI lf), .int (nI ld), .int (nI lg)])), (b1, .inl (G.2.2.1, 9, .inl (nF ne))), (b2, .inl (G.2.2.1, 512, .inl md)), (t0, .inr (6, [.int (nI n), .int (nI m), .int (nI t), .ref t1, .ref t2, .ref t3, .ref t4]))]) [0, 1, 2, 3] rfl rfl ?_
    show Jw G X _ 0 0 8 _ [.int (nI 1)] _
    refine j_if_eq (q := 11) (t := 22) F (cf (by decide)) dX0_join_8 rfl rfl (fun z => False.elim z) (fun _ => ?_)
    refine j_aload_n (q := 12) (i0 := 0) F rfl dX0_join_11 rfl ?_
    refine j_get (q := 15) (ci := 0) (q0 := 0) (kf := 0) (v := .ref t0) F inX0 rfl rfl rfl tw_189 rfl rfl dX0_join_12 rfl ?_
    refine j_iload_n (q := 16) (i0 := 2) F rfl dX0_join_15 rfl ?_
    refine j_callV (q := 19) (ci := 6) (q0 := 0) (As := [.int (nI b)]) (wr := [(b0, .inr (0, [.ref t0, .ref b1, .ref b2, .ref b3, .int (nI lz), .int (nI lf), .int (nI ld), .int (nI lg)])), (b1, .inl (G.2.2.1, 9, .inl (nF ne))), (b2, .inl (G.2.2.1, 512, .inl md))]) (st := []) F (c_X6_isLamp G (x := nI b) (by omega)) kwX6_isLamp tw_375 tw_376 tw_571 ⟨Nat.le_of_ble_eq_true rfl, Nat.le_of_ble_eq_true rfl, rfl, rfl, Nat.le_of_ble_eq_true rfl, Nat.le_of_ble_eq_true rfl⟩ [3] [0, 1, 2] rfl rfl rfl rfl rfl rfl rfl rfl rfl (Nat.le_of_ble_eq_true rfl) dX0_join_16 rfl ?_
    rintro r_ w_ ⟨rfl, (⟨rfl, hl2⟩ | ⟨rfl, hl2⟩)⟩
    · skip
      refine j_w (w' := [(b0, .inr (0, [.ref t0, .ref b1, .ref b2, .ref b3, .int (nI lz), .int (nI lf), .int (nI ld), .int (nI lg)])), (b1, .inl (G.2.2.1, 9, .inl (nF ne))), (b2, .inl (G.2.2.1, 512, .inl md)), (t0, .inr (6, [.int (nI n), .int (nI m), .int (nI t), .ref t1, .ref t2, .ref t3, .ref t4]))]) [0, 1, 2, 3] rfl rfl ?_
      show Jw G X _ 0 0 19 _ [.int (nI 1)] _
      refine j_if_ne (q := 22) (t := 23) F (cf (by decide)) dX0_join_19 rfl rfl (fun _ => ?_) (fun z => False.elim z)
      refine j_aload_n (q := 24) (i0 := 0) F rfl dX0_join_23 rfl ?_
      refine j_get (q := 27) (ci := 0) (q0 := 0) (kf := 1) (v := .ref b1) F inX0 rfl rfl rfl tw_190 rfl rfl dX0_join_24 rfl ?_
      refine j_iload_n (q := 28) (i0 := 1) F rfl dX0_join_27 rfl ?_
      refine j_dup2 (q := 29) F rfl rfl dX0_join_28 rfl ?_
      refine j_iald (q := 30) (q0 := 1) (i := a) (v := nI (ne a)) F rfl rfl (by omega) rfl (rfl) dX0_join_29 rfl ?_
      refine j_iconst (q := 31) (v := nI 1) F (by decide) dX0_join_30 rfl ?_
      refine j_iload_n (q := 32) (i0 := 2) F rfl dX0_join_31 rfl ?_
      refine j_ishl (q := 33) (v := nI (2 ^ b)) F (nx_shl1 (by omega)) dX0_join_32 rfl ?_
      refine j_ior (q := 34) (v := nI ((ne a) ||| (2 ^ b))) F (nx_or _ _) dX0_join_33 rfl ?_
      refine j_iast (q := 35) (q0 := 1) (i := a) (f2 := nF (va_up ne a ((ne a) ||| (2 ^ b)))) (w' := [(b0, .inr (0, [.ref t0, .ref b1, .ref b2, .ref b3, .int (nI lz), .int (nI lf), .int (nI ld), .int (nI lg)])), (b1, .inl (G.2.2.1, 9, .inl (nF (va_up ne a ((ne a) ||| (2 ^ b)))))), (b2, .inl (G.2.2.1, 512, .inl md)), (t0, .inr (6, [.int (nI n), .int (nI m), .int (nI t), .ref t1, .ref t2, .ref t3, .ref t4]))]) F rfl rfl (by omega) rfl (nF_up _ _ _) rfl dX0_join_34 rfl ?_
      refine j_aload_n (q := 36) (i0 := 0) F rfl dX0_join_35 rfl ?_
      refine j_get (q := 39) (ci := 0) (q0 := 0) (kf := 1) (v := .ref b1) F inX0 rfl rfl rfl tw_190 rfl rfl dX0_join_36 rfl ?_
      refine j_iload_n (q := 40) (i0 := 2) F rfl dX0_join_39 rfl ?_
      refine j_dup2 (q := 41) F rfl rfl dX0_join_40 rfl ?_
      refine j_iald (q := 42) (q0 := 1) (i := b) (v := nI ((va_up ne a ((ne a) ||| (2 ^ b))) b)) F rfl rfl (by omega) rfl (rfl) dX0_join_41 rfl ?_
      refine j_iconst (q := 43) (v := nI 1) F (by decide) dX0_join_42 rfl ?_
      refine j_iload_n (q := 44) (i0 := 1) F rfl dX0_join_43 rfl ?_
      refine j_ishl (q := 45) (v := nI (2 ^ a)) F (nx_shl1 (by omega)) dX0_join_44 rfl ?_
      refine j_ior (q := 46) (v := nI (((va_up ne a ((ne a) ||| (2 ^ b))) b) ||| (2 ^ a))) F (nx_or _ _) dX0_join_45 rfl ?_
      refine j_iast (q := 47) (q0 := 1) (i := b) (f2 := nF (va_up (va_up ne a ((ne a) ||| (2 ^ b))) b (((va_up ne a ((ne a) ||| (2 ^ b))) b) ||| (2 ^ a)))) (w' := [(b0, .inr (0, [.ref t0, .ref b1, .ref b2, .ref b3, .int (nI lz), .int (nI lf), .int (nI ld), .int (nI lg)])), (b1, .inl (G.2.2.1, 9, .inl (nF (va_up (va_up ne a ((ne a) ||| (2 ^ b))) b (((va_up ne a ((ne a) ||| (2 ^ b))) b) ||| (2 ^ a)))))), (b2, .inl (G.2.2.1, 512, .inl md)), (t0, .inr (6, [.int (nI n), .int (nI m), .int (nI t), .ref t1, .ref t2, .ref t3, .ref t4]))]) F rfl rfl (by omega) rfl (nF_up _ _ _) rfl dX0_join_46 rfl ?_
      refine j_aload_n (q := 48) (i0 := 0) F rfl dX0_join_47 rfl ?_
      refine j_get (q := 51) (ci := 0) (q0 := 0) (kf := 2) (v := .ref b2) F inX0 rfl rfl rfl tw_192 rfl rfl dX0_join_48 rfl ?_
      refine j_iconst (q := 52) (v := (-1)) F (by decide) dX0_join_51 rfl ?_
      refine j_callS (q := 55) (As := [.ref b2, .int (-1)]) (wr := [(b0, .inr (0, [.ref t0, .ref b1, .ref b2, .ref b3, .int (nI lz), .int (nI lf), .int (nI ld), .int (nI lg)])), (b1, .inl (G.2.2.1, 9, .inl (nF (va_up (va_up ne a ((ne a) ||| (2 ^ b))) b (((va_up ne a ((ne a) ||| (2 ^ b))) b) ||| (2 ^ a)))))), (t0, .inr (6, [.int (nI n), .int (nI m), .int (nI t), .ref t1, .ref t2, .ref t3, .ref t4]))]) (st := []) F (c_fill G (f := md) (v := -1) rfl) kwJ7_fill_53178 tw_319 tw_420 ⟨Nat.le_of_ble_eq_true rfl, Nat.le_of_ble_eq_true rfl, rfl, rfl, Nat.le_of_ble_eq_true rfl, Nat.le_of_ble_eq_true rfl⟩ [2] [0, 1, 3] rfl rfl rfl rfl rfl rfl rfl (Nat.le_of_ble_eq_true rfl) dX0_join_52 rfl ?_
      rintro r_ w_ ⟨rfl, rfl⟩
      refine j_w (w' := [(b0, .inr (0, [.ref t0, .ref b1, .ref b2, .ref b3, .int (nI lz), .int (nI lf), .int (nI ld), .int (nI lg)])), (b1, .inl (G.2.2.1, 9, .inl (nF (va_up (va_up ne a ((ne a) ||| (2 ^ b))) b (((va_up ne a ((ne a) ||| (2 ^ b))) b) ||| (2 ^ a)))))), (b2, .inl (G.2.2.1, 512, .inl (fillF md (-1) 512))), (t0, .inr (6, [.int (nI n), .int (nI m), .int (nI t), .ref t1, .ref t2, .ref t3, .ref t4]))]) [0, 1, 3, 2] rfl rfl ?_
      show Jw G X _ 0 0 55 _ [] _
      refine j_aload_n (q := 56) (i0 := 0) F rfl dX0_join_55 rfl ?_
      refine j_iconst (q := 57) (v := nI 0) F (by decide) dX0_join_56 rfl ?_
      refine j_put (q := 60) (ci := 0) (q0 := 0) (kf := 4) (v := .int (nI 0)) (w' := [(b0, .inr (0, [.ref t0, .ref b1, .ref b2, .ref b3, .int (nI 0), .int (nI lf), .int (nI ld), .int (nI lg)])), (b1, .inl (G.2.2.1, 9, .inl (nF (va_up (va_up ne a ((ne a) ||| (2 ^ b))) b (((va_up ne a ((ne a) ||| (2 ^ b))) b) ||| (2 ^ a)))))), (b2, .inl (G.2.2.1, 512, .inl (fillF md (-1) 512))), (t0, .inr (6, [.int (nI n), .int (nI m), .int (nI t), .ref t1, .ref t2, .ref t3, .ref t4]))]) F inX0 tyX0_ok nmX0 rfl rfl rfl tw_194 rfl rfl rfl rfl rfl rfl dX0_join_57 rfl ?_
      exact j_vret (w2 := [(b0, .inr (0, [.ref t0, .ref b1, .ref b2, .ref b3, .int (nI 0), .int (nI lf), .int (nI ld), .int (nI lg)])), (b1, .inl (G.2.2.1, 9, .inl (nF (va_up (va_up ne a ((ne a) ||| (2 ^ b))) b (((va_up ne a ((ne a) ||| (2 ^ b))) b) ||| (2 ^ a)))))), (b2, .inl (G.2.2.1, 512, .inl (fillF md (-1) 512))), (t0, .inr (6, [.int (nI n), .int (nI m), .int (nI t), .ref t1, .ref t2, .ref t3, .ref t4]))]) F R0 rfl [0, 1, 2, 3] rfl rfl (⟨rfl, rfl⟩) dX0_join_60
    · skip
      exact absurd ((inR_nI (by omega) (by omega)).mpr hb) hl2
  · skip
    exact absurd ((inR_nI (by omega) (by omega)).mpr ha) hl

