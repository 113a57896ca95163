theorem mk_t0 (tr : Int64) : tr + mkT 0 = tr + 1 := by
  try simp only [Int64.add_assoc]
  exact congrArg (fun z => tr + z) (by decide)
theorem mk_t1 (tr : Int64) : tr + mkT 1 = tr + 10 + 1 := by
  try simp only [Int64.add_assoc]
  exact congrArg (fun z => tr + z) (by decide)
theorem mk_t2 (tr : Int64) : tr + mkT 2 = tr + 100 + 1 := by
  try simp only [Int64.add_assoc]
  exact congrArg (fun z => tr + z) (by decide)
theorem mk_t3 (tr : Int64) : tr + mkT 3 = tr + 1000 + 10 + 1 := by
  try simp only [Int64.add_assoc]
  exact congrArg (fun z => tr + z) (by decide)
theorem mk_t4 (tr : Int64) : tr + mkT 4 = tr + 10000 + 100 + 1 := by
  try simp only [Int64.add_assoc]
  exact congrArg (fun z => tr + z) (by decide)
theorem mk_t5 (tr : Int64) : tr + mkT 5 = tr + 100000 + 1 := by
  try simp only [Int64.add_assoc]
  exact congrArg (fun z => tr + z) (by decide)
set_option maxHeartbeats 4000000 in
set_option maxRecDepth 100000 in
theorem c_X1_findNone (G : Gm) {h0 h1 b0 t0 sz mn : Nat} {le : Int32}  : Mg G yX1_findNone cX1_findNone 1 none ({ frames := 0, cells := 0, slots := 0, locals := 0 } : Room) 0 0 [.ref h0] [(h0, .inr (1, [.ref t0, .ref b0, .int (nI sz), .int (nI mn), .int le, .ref h1]))] (fun r w2 => r = none ∧ w2 = [(h0, .inr (1, [.ref t0, .ref b0, .int (nI 3), .int (nI 0), .int (-9), .ref h1]))]) := by
  refine Mg.mk (lv := [(0, .ref h0)]) (by decide) rfl rfl (fun X F R0 => ?_)
  refine j_aload_n (q := 1) (i0 := 0) F rfl dX1_findNone_0 rfl ?_
  refine j_iconst (q := 2) (v := nI 3) F (by decide) dX1_findNone_1 rfl ?_
  refine j_put (q := 5) (ci := 1) (q0 := 0) (kf := 2) (v := .int (nI 3)) (w' := [(h0, .inr (1, [.ref t0, .ref b0, .int (nI 3), .int (nI mn), .int le, .ref h1]))]) F inX1 tyX1_ok nmX1 rfl rfl rfl tw_225 rfl rfl rfl rfl rfl rfl dX1_findNone_2 rfl ?_
  refine j_aload_n (q := 6) (i0 := 0) F rfl dX1_findNone_5 rfl ?_
  refine j_iconst (q := 7) (v := nI 0) F (by decide) dX1_findNone_6 rfl ?_
  refine j_put (q := 10) (ci := 1) (q0 := 0) (kf := 3) (v := .int (nI 0)) (w' := [(h0, .inr (1, [.ref t0, .ref b0, .int (nI 3), .int (nI 0), .int le, .ref h1]))]) F inX1 tyX1_ok nmX1 rfl rfl rfl tw_227 rfl rfl rfl rfl rfl rfl dX1_findNone_7 rfl ?_
  refine j_aload_n (q := 11) (i0 := 0) F rfl dX1_findNone_10 rfl ?_
  refine j_bipush (q := 13) (v := (-9)) F (by decide) dX1_findNone_11 rfl ?_
  refine j_put (q := 16) (ci := 1) (q0 := 0) (kf := 4) (v := .int (-9)) (w' := [(h0, .inr (1, [.ref t0, .ref b0, .int (nI 3), .int (nI 0), .int (-9), .ref h1]))]) F inX1 tyX1_ok nmX1 rfl rfl rfl tw_229 rfl rfl rfl rfl rfl rfl dX1_findNone_13 rfl ?_
  exact j_vret (w2 := [(h0, .inr (1, [.ref t0, .ref b0, .int (nI 3), .int (nI 0), .int (-9), .ref h1]))]) F R0 rfl [0] rfl rfl (⟨rfl, rfl⟩) dX1_findNone_16

set_option maxHeartbeats 4000000 in
set_option maxRecDepth 100000 in
theorem c_X1_findLit (G : Gm) {h0 h1 b0 b1 b2 b3 t0 t1 t2 t3 t4 n m t lz lf ld lg sz mn : Nat} {le : Int32} {ru la lb ro ne f fl : Nat → Nat} {md se : Nat → Int32} {sd so k : Nat} (hW : Wk n ru ne f) (hm : MdOk f md) (hsd : sd < 512) (hso : so < 512) (hk : k ≤ 1000) : Mg G yX1_findLit cX1_findLit 6 none ({ frames := 5, cells := 0, slots := 0, locals := 116 } : Room) 0 0 [.ref h0, .int (nI sd), .int (nI so), .int (nI k)] [(h0, .inr (1, [.ref t0, .ref b0, .int (nI sz), .int (nI mn), .int le, .ref h1])), (h1, .inl (G.2.2.1, 9, .inl (nF fl))), (b0, .inr (0, [.ref t0, .ref b1, .ref b2, .ref b3, .int (nI lz), .int (nI lf), .int (nI ld), .int (nI lg)])), (b1, .inl (G.2.2.1, 9, .inl (nF ne))), (b2, .inl (G.2.2.1, 512, .inl md)), (b3, .inl (G.2.2.1, 512, .inl se)), (t0, .inr (6, [.int (nI n), .int (nI m), .int (nI t), .ref t1, .ref t2, .ref t3, .ref t4])), (t1, .inl (G.2.2.1, 9, .inl (nF ru))), (t2, .inl (G.2.2.1, 15, .inl (nF la))), (t3, .inl (G.2.2.1, 15, .inl (nF lb))), (t4, .inl (G.2.2.1, 9, .inl (nF ro)))] (fun r w2 => ∃ sz2 mn2 le2 md2, MdOk f md2 ∧ LiSt f sd so k (2 ^ n) sz2 mn2 le2 ∧ r = none ∧ w2 = [(h0, .inr (1, [.ref t0, .ref b0, .int (nI sz2), .int (nI mn2), .int le2, .ref h1])), (h1, .inl (G.2.2.1, 9, .inl (nF fl))), (b0, .inr (0, [.ref t0, .ref b1, .ref b2, .ref b3, .int (nI lz), .int (nI lf), .int (nI ld), .int (nI lg)])), (b1, .inl (G.2.2.1, 9, .inl (nF ne))), (b2, .inl (G.2.2.1, 512, .inl md2)), (b3, .inl (G.2.2.1, 512, .inl se)), (t0, .inr (6, [.int (nI n), .int (nI m), .int (nI t), .ref t1, .ref t2, .ref t3, .ref t4])), (t1, .inl (G.2.2.1, 9, .inl (nF ru))), (t2, .inl (G.2.2.1, 15, .inl (nF la))), (t3, .inl (G.2.2.1, 15, .inl (nF lb))), (t4, .inl (G.2.2.1, 9, .inl (nF ro)))]) := by
  have hn := hW.1
  have h9 := p9 hn
  refine Mg.mk (lv := [(0, .ref h0), (1, .int (nI sd)), (2, .int (nI so)), (3, .int (nI k))]) (by decide) rfl rfl (fun X F R0 => ?_)
  refine j_aload_n (q := 1) (i0 := 0) F rfl dX1_findLit_0 rfl ?_
  refine j_callV (q := 4) (ci := 1) (q0 := 0) (As := []) (wr := [(h1, .inl (G.2.2.1, 9, .inl (nF fl))), (b0, .inr (0, [.ref t0, .ref b1, .ref b2, .ref b3, .int (nI lz), .int (nI lf), .int (nI ld), .int (nI lg)])), (b1, .inl (G.2.2.1, 9, .inl (nF ne))), (b2, .inl (G.2.2.1, 512, .inl md)), (b3, .inl (G.2.2.1, 512, .inl se)), (t0, .inr (6, [.int (nI n), .int (nI m), .int (nI t), .ref t1, .ref t2, .ref t3, .ref t4])), (t1, .inl (G.2.2.1, 9, .inl (nF ru))), (t2, .inl (G.2.2.1, 15, .inl (nF la))), (t3, .inl (G.2.2.1, 15, .inl (nF lb))), (t4, .inl (G.2.2.1, 9, .inl (nF ro)))]) (st := []) F (c_X1_findNone G) kwX1_findNone tw_528 tw_11 tw_526 ⟨Nat.le_of_ble_eq_true rfl, Nat.le_of_ble_eq_true rfl, rfl, rfl, Nat.le_of_ble_eq_true rfl, Nat.le_of_ble_eq_true rfl⟩ [0] [1, 2, 3, 4, 5, 6, 7, 8, 9, 10] rfl rfl rfl rfl rfl rfl rfl rfl rfl (Nat.le_of_ble_eq_true rfl) dX1_findLit_1 rfl ?_
  rintro r_ w_ ⟨rfl, rfl⟩
  refine j_w (w' := [(h0, .inr (1, [.ref t0, .ref b0, .int (nI 3), .int (nI 0), .int (-9), .ref h1])), (h1, .inl (G.2.2.1, 9, .inl (nF fl))), (b0, .inr (0, [.ref t0, .ref b1, .ref b2, .ref b3, .int (nI lz), .int (nI lf), .int (nI ld), .int (nI lg)])), (b1, .inl (G.2.2.1, 9, .inl (nF ne))), (b2, .inl (G.2.2.1, 512, .inl md)), (b3, .inl (G.2.2.1, 512, .inl se)), (t0, .inr (6, [.int (nI n), .int (nI m), .int (nI t), .ref t1, .ref t2, .ref t3, .ref t4])), (t1, .inl (G.2.2.1, 9, .inl (nF ru))), (t2, .inl (G.2.2.1, 15, .inl (nF la))), (t3, .inl (G.2.2.1, 15, .inl (nF lb))), (t4, .inl (G.2.2.1, 9, .inl (nF ro)))]) [10, 0, 1, 2, 3, 4, 5, 6, 7, 8, 9] rfl rfl ?_
  show Jw G X _ 0 0 4 _ [] _
  refine j_iconst (q := 5) (v := nI 0) F (by decide) dX1_findLit_4 rfl ?_
  refine j_istore (q := 7) (lv' := [(4, .int (nI 0)), (0, .ref h0), (1, .int (nI sd)), (2, .int (nI so)), (3, .int (nI k))]) F dX1_findLit_5 (by decide) rfl rfl ?_
  have lp1 : ∀ (fu : Nat) (i : Nat) (sz1 : Nat) (mn1 : Nat) (le1 : Int32) (md1 : Nat → Int32) (hi : i ≤ 2 ^ n) (hm1 : MdOk f md1) (hL : LiSt f sd so k i sz1 mn1 le1), (2 ^ n - i) < fu → Jw G X 6 0 0 7 [(0, .ref h0), (1, .int (nI sd)), (2, .int (nI so)), (3, .int (nI k)), (4, .int (nI i))] [] [(h0, .inr (1, [.ref t0, .ref b0, .int (nI sz1), .int (nI mn1), .int le1, .ref h1])), (h1, .inl (G.2.2.1, 9, .inl (nF fl))), (b0, .inr (0, [.ref t0, .ref b1, .ref b2, .ref b3, .int (nI lz), .int (nI lf), .int (nI ld), .int (nI lg)])), (b1, .inl (G.2.2.1, 9, .inl (nF ne))), (b2, .inl (G.2.2.1, 512, .inl md1)), (b3, .inl (G.2.2.1, 512, .inl se)), (t0, .inr (6, [.int (nI n), .int (nI m), .int (nI t), .ref t1, .ref t2, .ref t3, .ref t4])), (t1, .inl (G.2.2.1, 9, .inl (nF ru))), (t2, .inl (G.2.2.1, 15, .inl (nF la))), (t3, .inl (G.2.2.1, 15, .inl (nF lb))), (t4, .inl (G.2.2.1, 9, .inl (nF ro)))] := by
    intro fu
    induction fu with
    | zero => intro i sz1 mn1 le1 md1 hi hm1 hL hfu; exact absurd hfu (Nat.not_lt_zero _)
    | succ fu ih1 =>
      intro i sz1 mn1 le1 md1 hi hm1 hL hfu
      have hL1 := hL.1
      have hL2 := hL.2.1.le_i
      refine j_iload (q := 9) (i0 := 4) F rfl dX1_findLit_7 rfl ?_
      refine j_aload_n (q := 10) (i0 := 0) F rfl dX1_findLit_9 rfl ?_
      refine j_get (q := 13) (ci := 1) (q0 := 0) (kf := 0) (v := .ref t0) F inX1 rfl rfl rfl tw_223 rfl rfl dX1_findLit_10 rfl ?_
      refine j_callV (q := 16) (ci := 6) (q0 := 0) (As := []) (wr := [(h0, .inr (1, [.ref t0, .ref b0, .int (nI sz1), .int (nI mn1), .int le1, .ref h1])), (h1, .inl (G.2.2.1, 9, .inl (nF fl))), (b0, .inr (0, [.ref t0, .ref b1, .ref b2, .ref b3, .int (nI lz), .int (nI lf), .int (nI ld), .int (nI lg)])), (b1, .inl (G.2.2.1, 9, .inl (nF ne))), (b2, .inl (G.2.2.1, 512, .inl md1)), (b3, .inl (G.2.2.1, 512, .inl se)), (t1, .inl (G.2.2.1, 9, .inl (nF ru))), (t2, .inl (G.2.2.1, 15, .inl (nF la))), (t3, .inl (G.2.2.1, 15, .inl (nF lb))), (t4, .inl (G.2.2.1, 9, .inl (nF ro)))]) (st := [.int (nI i)]) F (c_X6_stands G hW.1) kwX6_stands tw_502 tw_503 tw_530 ⟨Nat.le_of_ble_eq_true rfl, Nat.le_of_ble_eq_true rfl, rfl, rfl, Nat.le_of_ble_eq_true rfl, Nat.le_of_ble_eq_true rfl⟩ [6] [0, 1, 2, 3, 4, 5, 7, 8, 9, 10] rfl rfl rfl rfl rfl rfl rfl rfl rfl (Nat.le_of_ble_eq_true rfl) dX1_findLit_13 rfl ?_
      rintro r_ w_ ⟨rfl, rfl⟩
      refine j_w (w' := [(h0, .inr (1, [.ref t0, .ref b0, .int (nI sz1), .int (nI mn1), .int le1, .ref h1])), (h1, .inl (G.2.2.1, 9, .inl (nF fl))), (b0, .inr (0, [.ref t0, .ref b1, .ref b2, .ref b3, .int (nI lz), .int (nI lf), .int (nI ld), .int (nI lg)])), (b1, .inl (G.2.2.1, 9, .inl (nF ne))), (b2, .inl (G.2.2.1, 512, .inl md1)), (b3, .inl (G.2.2.1, 512, .inl se)), (t0, .inr (6, [.int (nI n), .int (nI m), .int (nI t), .ref t1, .ref t2, .ref t3, .ref t4])), (t1, .inl (G.2.2.1, 9, .inl (nF ru))), (t2, .inl (G.2.2.1, 15, .inl (nF la))), (t3, .inl (G.2.2.1, 15, .inl (nF lb))), (t4, .inl (G.2.2.1, 9, .inl (nF ro)))]) [0, 1, 2, 3, 4, 5, 10, 6, 7, 8, 9] rfl rfl ?_
      show Jw G X _ 0 0 16 _ [.int (nI (2 ^ n)), .int (nI i)] _
      refine j_icmp_ge (q := 19) (t := 107) F (Pp := 2 ^ n ≤ i) (nI_leI (by omega) (by omega)) dX1_findLit_16 rfl rfl (fun c2 => ?_) (fun c2 => ?_)
      · skip
        exact j_vret (w2 := [(h0, .inr (1, [.ref t0, .ref b0, .int (nI sz1), .int (nI mn1), .int le1, .ref h1])), (h1, .inl (G.2.2.1, 9, .inl (nF fl))), (b0, .inr (0, [.ref t0, .ref b1, .ref b2, .ref b3, .int (nI lz), .int (nI lf), .int (nI ld), .int (nI lg)])), (b1, .inl (G.2.2.1, 9, .inl (nF ne))), (b2, .inl (G.2.2.1, 512, .inl md1)), (b3, .inl (G.2.2.1, 512, .inl se)), (t0, .inr (6, [.int (nI n), .int (nI m), .int (nI t), .ref t1, .ref t2, .ref t3, .ref t4])), (t1, .inl (G.2.2.1, 9, .inl (nF ru))), (t2, .inl (G.2.2.1, 15, .inl (nF la))), (t3, .inl (G.2.2.1, 15, .inl (nF lb))), (t4, .inl (G.2.2.1, 9, .inl (nF ro)))]) F R0 rfl [0, 1, 2, 3, 4, 5, 6, 7, 8, 9, 10] rfl rfl (⟨_, _, _, _, hm1, by rw [show 2 ^ n = i by omega]; exact hL, rfl, rfl⟩) dX1_findLit_107
      · skip
        have hpi := pcN_le i
        have hx := Nat.xor_lt_two_pow (n := 9) hsd (show i < 2 ^ 9 by omega)
        refine j_iload (q := 21) (i0 := 4) F rfl dX1_findLit_19 rfl ?_
        refine j_callS (q := 24) (As := [.int (nI i)]) (wr := [(h0, .inr (1, [.ref t0, .ref b0, .int (nI sz1), .int (nI mn1), .int le1, .ref h1])), (h1, .inl (G.2.2.1, 9, .inl (nF fl))), (b0, .inr (0, [.ref t0, .ref b1, .ref b2, .ref b3, .int (nI lz), .int (nI lf), .int (nI ld), .int (nI lg)])), (b1, .inl (G.2.2.1, 9, .inl (nF ne))), (b2, .inl (G.2.2.1, 512, .inl md1)), (b3, .inl (G.2.2.1, 512, .inl se)), (t0, .inr (6, [.int (nI n), .int (nI m), .int (nI t), .ref t1, .ref t2, .ref t3, .ref t4])), (t1, .inl (G.2.2.1, 9, .inl (nF ru))), (t2, .inl (G.2.2.1, 15, .inl (nF la))), (t3, .inl (G.2.2.1, 15, .inl (nF lb))), (t4, .inl (G.2.2.1, 9, .inl (nF ro)))]) (st := []) F (c_bitCount G (k := i) (by omega)) kwJ6_bitCount_0f7a4 tw_407 tw_531 ⟨Nat.le_of_ble_eq_true rfl, Nat.le_of_ble_eq_true rfl, rfl, rfl, Nat.le_of_ble_eq_true rfl, Nat.le_of_ble_eq_true rfl⟩ [] [0, 1, 2, 3, 4, 5, 6, 7, 8, 9, 10] rfl rfl rfl rfl rfl rfl rfl (Nat.le_of_ble_eq_true rfl) dX1_findLit_21 rfl ?_
        rintro r_ w_ ⟨rfl, rfl⟩
        refine j_w (w' := [(h0, .inr (1, [.ref t0, .ref b0, .int (nI sz1), .int (nI mn1), .int le1, .ref h1])), (h1, .inl (G.2.2.1, 9, .inl (nF fl))), (b0, .inr (0, [.ref t0, .ref b1, .ref b2, .ref b3, .int (nI lz), .int (nI lf), .int (nI ld), .int (nI lg)])), (b1, .inl (G.2.2.1, 9, .inl (nF ne))), (b2, .inl (G.2.2.1, 512, .inl md1)), (b3, .inl (G.2.2.1, 512, .inl se)), (t0, .inr (6, [.int (nI n), .int (nI m), .int (nI t), .ref t1, .ref t2, .ref t3, .ref t4])), (t1, .inl (G.2.2.1, 9, .inl (nF ru))), (t2, .inl (G.2.2.1, 15, .inl (nF la))), (t3, .inl (G.2.2.1, 15, .inl (nF lb))), (t4, .inl (G.2.2.1, 9, .inl (nF ro)))]) [0, 1, 2, 3, 4, 5, 6, 7, 8, 9, 10] rfl rfl ?_
        show Jw G X _ 0 0 24 _ [.int (nI (pcN i))] _
        refine j_istore (q := 26) (lv' := [(5, .int (nI (pcN i))), (0, .ref h0), (1, .int (nI sd)), (2, .int (nI so)), (3, .int (nI k)), (4, .int (nI i))]) F dX1_findLit_24 (by decide) rfl rfl ?_
        refine j_iload (q := 28) (i0 := 0) F rfl dX1_findLit_26 rfl ?_
        refine j_aload_n (q := 29) (i0 := 1) F rfl dX1_findLit_28 rfl ?_
        refine j_get (q := 32) (ci := 1) (q0 := 0) (kf := 2) (v := .int (nI sz1)) F inX1 rfl rfl rfl tw_225 rfl rfl dX1_findLit_29 rfl ?_
        refine j_icmp_gt (q := 35) (t := 101) F (Pp := sz1 < pcN i) (nI_ltI (by omega) (by omega)) dX1_findLit_32 rfl rfl (fun c4 => ?_) (fun c4 => ?_)
        · skip
          refine j_iinc (q := 104) (i0 := 5) (v := nI (i + 1)) (lv' := [(4, .int (nI (i + 1))), (5, .int (nI (pcN i))), (0, .ref h0), (1, .int (nI sd)), (2, .int (nI so)), (3, .int (nI k))]) F dX1_findLit_101 rfl (nI_add _ _) (by decide) rfl rfl ?_
          refine j_goto (t := 7) F dX1_findLit_104 rfl ?_
          refine j_lv [2, 3, 4, 5, 0] (lv' := [(0, .ref h0), (1, .int (nI sd)), (2, .int (nI so)), (3, .int (nI k)), (4, .int (nI (i + 1)))]) rfl ?_
          exact ih1 (i + 1) sz1 mn1 le1 md1 (by omega) hm1 (hL.big c4) (by omega)
        · skip
          refine j_aload_n (q := 36) (i0 := 1) F rfl dX1_findLit_35 rfl ?_
          refine j_get (q := 39) (ci := 1) (q0 := 0) (kf := 1) (v := .ref b0) F inX1 rfl rfl rfl tw_224 rfl rfl dX1_findLit_36 rfl ?_
          refine j_aload_n (q := 40) (i0 := 1) F rfl dX1_findLit_39 rfl ?_
          refine j_get (q := 43) (ci := 1) (q0 := 0) (kf := 1) (v := .ref b0) F inX1 rfl rfl rfl tw_224 rfl rfl dX1_findLit_40 rfl ?_
          refine j_iload_n (q := 44) (i0 := 2) F rfl dX1_findLit_43 rfl ?_
          refine j_iload (q := 46) (i0 := 5) F rfl dX1_findLit_44 rfl ?_
          refine j_ixor (q := 47) (v := nI (sd ^^^ i)) F (nx_xor _ _) dX1_findLit_46 rfl ?_
          refine j_iload_n (q := 48) (i0 := 4) F rfl dX1_findLit_47 rfl ?_
          refine j_callV (q := 51) (ci := 0) (q0 := 0) (As := [.int (nI (sd ^^^ i)), .int (nI k)]) (wr := [(h0, .inr (1, [.ref t0, .ref b0, .int (nI sz1), .int (nI mn1), .int le1, .ref h1])), (h1, .inl (G.2.2.1, 9, .inl (nF fl))), (t2, .inl (G.2.2.1, 15, .inl (nF la))), (t3, .inl (G.2.2.1, 15, .inl (nF lb))), (t4, .inl (G.2.2.1, 9, .inl (nF ro)))]) (st := [.ref b0]) F (c_X0_struckOften G hW hm1 (s := sd ^^^ i) (k := k) (hx) (hk)) kwX0_struckOften tw_477 tw_478 tw_532 ⟨Nat.le_of_ble_eq_true rfl, Nat.le_of_ble_eq_true rfl, rfl, rfl, Nat.le_of_ble_eq_true rfl, Nat.le_of_ble_eq_true rfl⟩ [2, 3, 4, 5, 6, 7] [0, 1, 8, 9, 10] rfl rfl rfl rfl rfl rfl rfl rfl rfl (Nat.le_of_ble_eq_true rfl) dX1_findLit_48 rfl ?_
          rintro r_ w_ ⟨md2, hm2, rfl, rfl⟩
          refine j_w (w' := [(h0, .inr (1, [.ref t0, .ref b0, .int (nI sz1), .int (nI mn1), .int le1, .ref h1])), (h1, .inl (G.2.2.1, 9, .inl (nF fl))), (b0, .inr (0, [.ref t0, .ref b1, .ref b2, .ref b3, .int (nI lz), .int (nI lf), .int (nI ld), .int (nI lg)])), (b1, .inl (G.2.2.1, 9, .inl (nF ne))), (b2, .inl (G.2.2.1, 512, .inl md2)), (b3, .inl (G.2.2.1, 512, .inl se)), (t0, .inr (6, [.int (nI n), .int (nI m), .int (nI t), .ref t1, .ref t2, .ref t3, .ref t4])), (t1, .inl (G.2.2.1, 9, .inl (nF ru))), (t2, .inl (G.2.2.1, 15, .inl (nF la))), (t3, .inl (G.2.2.1, 15, .inl (nF lb))), (t4, .inl (G.2.2.1, 9, .inl (nF ro)))]) [0, 1, 5, 6, 7, 8, 9, 10, 2, 3, 4] rfl rfl ?_
          show Jw G X _ 0 0 51 _ [.int (nI (it f k (sd ^^^ i))), .ref b0] _
          refine j_iload_n (q := 52) (i0 := 3) F rfl dX1_findLit_51 rfl ?_
          refine j_callV (q := 55) (ci := 0) (q0 := 0) (As := [.int (nI (it f k (sd ^^^ i))), .int (nI so)]) (wr := [(h0, .inr (1, [.ref t0, .ref b0, .int (nI sz1), .int (nI mn1), .int le1, .ref h1])), (h1, .inl (G.2.2.1, 9, .inl (nF fl))), (t2, .inl (G.2.2.1, 15, .inl (nF la))), (t3, .inl (G.2.2.1, 15, .inl (nF lb))), (t4, .inl (G.2.2.1, 9, .inl (nF ro)))]) (st := []) F (c_X0_isLitForEver G hW hm2 (s := it f k (sd ^^^ i)) (so := so) (it_lt hW.f5 hx k) hso) kwX0_isLitForEver tw_534 tw_535 tw_533 ⟨Nat.le_of_ble_eq_true rfl, Nat.le_of_ble_eq_true rfl, rfl, rfl, Nat.le_of_ble_eq_true rfl, Nat.le_of_ble_eq_true rfl⟩ [2, 3, 4, 5, 6, 7] [0, 1, 8, 9, 10] rfl rfl rfl rfl rfl rfl rfl rfl rfl (Nat.le_of_ble_eq_true rfl) dX1_findLit_52 rfl ?_
          rintro r_ w_ ⟨md3, hm3, rfl, (⟨rfl, hlit⟩ | ⟨rfl, hlit⟩)⟩
          · skip
            refine j_w (w' := [(h0, .inr (1, [.ref t0, .ref b0, .int (nI sz1), .int (nI mn1), .int le1, .ref h1])), (h1, .inl (G.2.2.1, 9, .inl (nF fl))), (b0, .inr (0, [.ref t0, .ref b1, .ref b2, .ref b3, .int (nI lz), .int (nI lf), .int (nI ld), .int (nI lg)])), (b1, .inl (G.2.2.1, 9, .inl (nF ne))), (b2, .inl (G.2.2.1, 512, .inl md3)), (b3, .inl (G.2.2.1, 512, .inl se)), (t0, .inr (6, [.int (nI n), .int (nI m), .int (nI t), .ref t1, .ref t2, .ref t3, .ref t4])), (t1, .inl (G.2.2.1, 9, .inl (nF ru))), (t2, .inl (G.2.2.1, 15, .inl (nF la))), (t3, .inl (G.2.2.1, 15, .inl (nF lb))), (t4, .inl (G.2.2.1, 9, .inl (nF ro)))]) [0, 1, 5, 6, 7, 8, 9, 10, 2, 3, 4] rfl rfl ?_
            show Jw G X _ 0 0 55 _ [.int (nI 1)] _
            refine j_if_eq (q := 58) (t := 101) F (cf (by decide)) dX1_findLit_55 rfl rfl (fun z => False.elim z) (fun _ => ?_)
            refine j_aload_n (q := 59) (i0 := 1) F rfl dX1_findLit_58 rfl ?_
            refine j_get (q := 62) (ci := 1) (q0 := 0) (kf := 3) (v := .int (nI mn1)) F inX1 rfl rfl rfl tw_227 rfl rfl dX1_findLit_59 rfl ?_
            refine j_if_eq (q := 65) (t := 74) F (Pp := mn1 = 0) (nI_eq0 (by omega)) dX1_findLit_62 rfl rfl (fun cz => ?_) (fun cz => ?_)
            · skip
              refine j_aload_n (q := 75) (i0 := 1) F rfl dX1_findLit_74 rfl ?_
              refine j_iload (q := 77) (i0 := 0) F rfl dX1_findLit_75 rfl ?_
              refine j_put (q := 80) (ci := 1) (q0 := 0) (kf := 2) (v := .int (nI (pcN i))) (w' := [(h0, .inr (1, [.ref t0, .ref b0, .int (nI (pcN i)), .int (nI mn1), .int le1, .ref h1])), (h1, .inl (G.2.2.1, 9, .inl (nF fl))), (b0, .inr (0, [.ref t0, .ref b1, .ref b2, .ref b3, .int (nI lz), .int (nI lf), .int (nI ld), .int (nI lg)])), (b1, .inl (G.2.2.1, 9, .inl (nF ne))), (b2, .inl (G.2.2.1, 512, .inl md3)), (b3, .inl (G.2.2.1, 512, .inl se)), (t0, .inr (6, [.int (nI n), .int (nI m), .int (nI t), .ref t1, .ref t2, .ref t3, .ref t4])), (t1, .inl (G.2.2.1, 9, .inl (nF ru))), (t2, .inl (G.2.2.1, 15, .inl (nF la))), (t3, .inl (G.2.2.1, 15, .inl (nF lb))), (t4, .inl (G.2.2.1, 9, .inl (nF ro)))]) F inX1 tyX1_ok nmX1 rfl rfl rfl tw_225 rfl rfl rfl rfl rfl rfl dX1_findLit_77 rfl ?_
              refine j_aload_n (q := 81) (i0 := 1) F rfl dX1_findLit_80 rfl ?_
              refine j_iconst (q := 82) (v := nI 0) F (by decide) dX1_findLit_81 rfl ?_
              refine j_put (q := 85) (ci := 1) (q0 := 0) (kf := 3) (v := .int (nI 0)) (w' := [(h0, .inr (1, [.ref t0, .ref b0, .int (nI (pcN i)), .int (nI 0), .int le1, .ref h1])), (h1, .inl (G.2.2.1, 9, .inl (nF fl))), (b0, .inr (0, [.ref t0, .ref b1, .ref b2, .ref b3, .int (nI lz), .int (nI lf), .int (nI ld), .int (nI lg)])), (b1, .inl (G.2.2.1, 9, .inl (nF ne))), (b2, .inl (G.2.2.1, 512, .inl md3)), (b3, .inl (G.2.2.1, 512, .inl se)), (t0, .inr (6, [.int (nI n), .int (nI m), .int (nI t), .ref t1, .ref t2, .ref t3, .ref t4])), (t1, .inl (G.2.2.1, 9, .inl (nF ru))), (t2, .inl (G.2.2.1, 15, .inl (nF la))), (t3, .inl (G.2.2.1, 15, .inl (nF lb))), (t4, .inl (G.2.2.1, 9, .inl (nF ro)))]) F inX1 tyX1_ok nmX1 rfl rfl rfl tw_227 rfl rfl rfl rfl rfl rfl dX1_findLit_82 rfl ?_
              refine j_aload_n (q := 86) (i0 := 1) F rfl dX1_findLit_85 rfl ?_
              refine j_iload (q := 88) (i0 := 5) F rfl dX1_findLit_86 rfl ?_
              refine j_put (q := 91) (ci := 1) (q0 := 0) (kf := 4) (v := .int (nI i)) (w' := [(h0, .inr (1, [.ref t0, .ref b0, .int (nI (pcN i)), .int (nI 0), .int (nI i), .ref h1])), (h1, .inl (G.2.2.1, 9, .inl (nF fl))), (b0, .inr (0, [.ref t0, .ref b1, .ref b2, .ref b3, .int (nI lz), .int (nI lf), .int (nI ld), .int (nI lg)])), (b1, .inl (G.2.2.1, 9, .inl (nF ne))), (b2, .inl (G.2.2.1, 512, .inl md3)), (b3, .inl (G.2.2.1, 512, .inl se)), (t0, .inr (6, [.int (nI n), .int (nI m), .int (nI t), .ref t1, .ref t2, .ref t3, .ref t4])), (t1, .inl (G.2.2.1, 9, .inl (nF ru))), (t2, .inl (G.2.2.1, 15, .inl (nF la))), (t3, .inl (G.2.2.1, 15, .inl (nF lb))), (t4, .inl (G.2.2.1, 9, .inl (nF ro)))]) F inX1 tyX1_ok nmX1 rfl rfl rfl tw_229 rfl rfl rfl rfl rfl rfl dX1_findLit_88 rfl ?_
              refine j_aload_n (q := 92) (i0 := 1) F rfl dX1_findLit_91 rfl ?_
              refine j_dup (q := 93) F rfl dX1_findLit_92 rfl ?_
              refine j_get (q := 96) (ci := 1) (q0 := 0) (kf := 3) (v := .int (nI 0)) F inX1 rfl rfl rfl tw_227 rfl rfl dX1_findLit_93 rfl ?_
              refine j_iconst (q := 97) (v := nI 1) F (by decide) dX1_findLit_96 rfl ?_
              refine j_iadd (q := 98) (v := nI 1) F (by decide) dX1_findLit_97 rfl ?_
              refine j_put (q := 101) (ci := 1) (q0 := 0) (kf := 3) (v := .int (nI 1)) (w' := [(h0, .inr (1, [.ref t0, .ref b0, .int (nI (pcN i)), .int (nI 1), .int (nI i), .ref h1])), (h1, .inl (G.2.2.1, 9, .inl (nF fl))), (b0, .inr (0, [.ref t0, .ref b1, .ref b2, .ref b3, .int (nI lz), .int (nI lf), .int (nI ld), .int (nI lg)])), (b1, .inl (G.2.2.1, 9, .inl (nF ne))), (b2, .inl (G.2.2.1, 512, .inl md3)), (b3, .inl (G.2.2.1, 512, .inl se)), (t0, .inr (6, [.int (nI n), .int (nI m), .int (nI t), .ref t1, .ref t2, .ref t3, .ref t4])), (t1, .inl (G.2.2.1, 9, .inl (nF ru))), (t2, .inl (G.2.2.1, 15, .inl (nF la))), (t3, .inl (G.2.2.1, 15, .inl (nF lb))), (t4, .inl (G.2.2.1, 9, .inl (nF ro)))]) F inX1 tyX1_ok nmX1 rfl rfl rfl tw_227 rfl rfl rfl rfl rfl rfl dX1_findLit_98 rfl ?_
              refine j_iinc (q := 104) (i0 := 5) (v := nI (i + 1)) (lv' := [(4, .int (nI (i + 1))), (5, .int (nI (pcN i))), (0, .ref h0), (1, .int (nI sd)), (2, .int (nI so)), (3, .int (nI k))]) F dX1_findLit_101 rfl (nI_add _ _) (by decide) rfl rfl ?_
              refine j_goto (t := 7) F dX1_findLit_104 rfl ?_
              refine j_lv [2, 3, 4, 5, 0] (lv' := [(0, .ref h0), (1, .int (nI sd)), (2, .int (nI so)), (3, .int (nI k)), (4, .int (nI (i + 1)))]) rfl ?_
              exact ih1 (i + 1) _ _ _ md3 (by omega) hm3 (hL.new hlit (by omega) (Or.inl cz)) (by omega)
            · skip
              refine j_iload (q := 67) (i0 := 0) F rfl dX1_findLit_65 rfl ?_
              refine j_aload_n (q := 68) (i0 := 1) F rfl dX1_findLit_67 rfl ?_
              refine j_get (q := 71) (ci := 1) (q0 := 0) (kf := 2) (v := .int (nI sz1)) F inX1 rfl rfl rfl tw_225 rfl rfl dX1_findLit_68 rfl ?_
              refine j_icmp_ge (q := 74) (t := 91) F (Pp := sz1 ≤ pcN i) (nI_leI (by omega) (by omega)) dX1_findLit_71 rfl rfl (fun cs => ?_) (fun cs => ?_)
              · skip
                refine j_aload_n (q := 92) (i0 := 1) F rfl dX1_findLit_91 rfl ?_
                refine j_dup (q := 93) F rfl dX1_findLit_92 rfl ?_
                refine j_get (q := 96) (ci := 1) (q0 := 0) (kf := 3) (v := .int (nI mn1)) F inX1 rfl rfl rfl tw_227 rfl rfl dX1_findLit_93 rfl ?_
                refine j_iconst (q := 97) (v := nI 1) F (by decide) dX1_findLit_96 rfl ?_
                refine j_iadd (q := 98) (v := nI (mn1 + 1)) F (nI_add _ _) dX1_findLit_97 rfl ?_
                refine j_put (q := 101) (ci := 1) (q0 := 0) (kf := 3) (v := .int (nI (mn1 + 1))) (w' := [(h0, .inr (1, [.ref t0, .ref b0, .int (nI sz1), .int (nI (mn1 + 1)), .int le1, .ref h1])), (h1, .inl (G.2.2.1, 9, .inl (nF fl))), (b0, .inr (0, [.ref t0, .ref b1, .ref b2, .ref b3, .int (nI lz), .int (nI lf), .int (nI ld), .int (nI lg)])), (b1, .inl (G.2.2.1, 9, .inl (nF ne))), (b2, .inl (G.2.2.1, 512, .inl md3)), (b3, .inl (G.2.2.1, 512, .inl se)), (t0, .inr (6, [.int (nI n), .int (nI m), .int (nI t), .ref t1, .ref t2, .ref t3, .ref t4])), (t1, .inl (G.2.2.1, 9, .inl (nF ru))), (t2, .inl (G.2.2.1, 15, .inl (nF la))), (t3, .inl (G.2.2.1, 15, .inl (nF lb))), (t4, .inl (G.2.2.1, 9, .inl (nF ro)))]) F inX1 tyX1_ok nmX1 rfl rfl rfl tw_227 rfl rfl rfl rfl rfl rfl dX1_findLit_98 rfl ?_
                refine j_iinc (q := 104) (i0 := 5) (v := nI (i + 1)) (lv' := [(4, .int (nI (i + 1))), (5, .int (nI (pcN i))), (0, .ref h0), (1, .int (nI sd)), (2, .int (nI so)), (3, .int (nI k))]) F dX1_findLit_101 rfl (nI_add _ _) (by decide) rfl rfl ?_
                refine j_goto (t := 7) F dX1_findLit_104 rfl ?_
                refine j_lv [2, 3, 4, 5, 0] (lv' := [(0, .ref h0), (1, .int (nI sd)), (2, .int (nI so)), (3, .int (nI k)), (4, .int (nI (i + 1)))]) rfl ?_
                exact ih1 (i + 1) _ _ _ md3 (by omega) hm3 (hL.more hlit (by omega) cz (by omega)) (by omega)
              · skip
                refine j_aload_n (q := 75) (i0 := 1) F rfl dX1_findLit_74 rfl ?_
                refine j_iload (q := 77) (i0 := 0) F rfl dX1_findLit_75 rfl ?_
                refine j_put (q := 80) (ci := 1) (q0 := 0) (kf := 2) (v := .int (nI (pcN i))) (w' := [(h0, .inr (1, [.ref t0, .ref b0, .int (nI (pcN i)), .int (nI mn1), .int le1, .ref h1])), (h1, .inl (G.2.2.1, 9, .inl (nF fl))), (b0, .inr (0, [.ref t0, .ref b1, .ref b2, .ref b3, .int (nI lz), .int (nI lf), .int (nI ld), .int (nI lg)])), (b1, .inl (G.2.2.1, 9, .inl (nF ne))), (b2, .inl (G.2.2.1, 512, .inl md3)), (b3, .inl (G.2.2.1, 512, .inl se)), (t0, .inr (6, [.int (nI n), .int (nI m), .int (nI t), .ref t1, .ref t2, .ref t3, .ref t4])), (t1, .inl (G.2.2.1, 9, .inl (nF ru))), (t2, .inl (G.2.2.1, 15, .inl (nF la))), (t3, .inl (G.2.2.1, 15, .inl (nF lb))), (t4, .inl (G.2.2.1, 9, .inl (nF ro)))]) F inX1 tyX1_ok nmX1 rfl rfl rfl tw_225 rfl rfl rfl rfl rfl rfl dX1_findLit_77 rfl ?_
                refine j_aload_n (q := 81) (i0 := 1) F rfl dX1_findLit_80 rfl ?_
                refine j_iconst (q := 82) (v := nI 0) F (by decide) dX1_findLit_81 rfl ?_
                refine j_put (q := 85) (ci := 1) (q0 := 0) (kf := 3) (v := .int (nI 0)) (w' := [(h0, .inr (1, [.ref t0, .ref b0, .int (nI (pcN i)), .int (nI 0), .int le1, .ref h1])), (h1, .inl (G.2.2.1, 9, .inl (nF fl))), (b0, .inr (0, [.ref t0, .ref b1, .ref b2, .ref b3, .int (nI lz), .int (nI lf), .int (nI ld), .int (nI lg)])), (b1, .inl (G.2.2.1, 9, .inl (nF ne))), (b2, .inl (G.2.2.1, 512, .inl md3)), (b3, .inl (G.2.2.1, 512, .inl se)), (t0, .inr (6, [.int (nI n), .int (nI m), .int (nI t), .ref t1, .ref t2, .ref t3, .ref t4])), (t1, .inl (G.2.2.1, 9, .inl (nF ru))), (t2, .inl (G.2.2.1, 15, .inl (nF la))), (t3, .inl (G.2.2.1, 15, .inl (nF lb))), (t4, .inl (G.2.2.1, 9, .inl (nF ro)))]) F inX1 tyX1_ok nmX1 rfl rfl rfl tw_227 rfl rfl rfl rfl rfl rfl dX1_findLit_82 rfl ?_
                refine j_aload_n (q := 86) (i0 := 1) F rfl dX1_findLit_85 rfl ?_
                refine j_iload (q := 88) (i0 := 5) F rfl dX1_findLit_86 rfl ?_
                refine j_put (q := 91) (ci := 1) (q0 := 0) (kf := 4) (v := .int (nI i)) (w' := [(h0, .inr (1, [.ref t0, .ref b0, .int (nI (pcN i)), .int (nI 0), .int (nI i), .ref h1])), (h1, .inl (G.2.2.1, 9, .inl (nF fl))), (b0, .inr (0, [.ref t0, .ref b1, .ref b2, .ref b3, .int (nI lz), .int (nI lf), .int (nI ld), .int (nI lg)])), (b1, .inl (G.2.2.1, 9, .inl (nF ne))), (b2, .inl (G.2.2.1, 512, .inl md3)), (b3, .inl (G.2.2.1, 512, .inl se)), (t0, .inr (6, [.int (nI n), .int (nI m), .int (nI t), .ref t1, .ref t2, .ref t3, .ref t4])), (t1, .inl (G.2.2.1, 9, .inl (nF ru))), (t2, .inl (G.2.2.1, 15, .inl (nF la))), (t3, .inl (G.2.2.1, 15, .inl (nF lb))), (t4, .inl (G.2.2.1, 9, .inl (nF ro)))]) F inX1 tyX1_ok nmX1 rfl rfl rfl tw_229 rfl rfl rfl rfl rfl rfl dX1_findLit_88 rfl ?_
                refine j_aload_n (q := 92) (i0 := 1) F rfl dX1_findLit_91 rfl ?_
                refine j_dup (q := 93) F rfl dX1_findLit_92 rfl ?_
                refine j_get (q := 96) (ci := 1) (q0 := 0) (kf := 3) (v := .int (nI 0)) F inX1 rfl rfl rfl tw_227 rfl rfl dX1_findLit_93 rfl ?_
                refine j_iconst (q := 97) (v := nI 1) F (by decide) dX1_findLit_96 rfl ?_
                refine j_iadd (q := 98) (v := nI 1) F (by decide) dX1_findLit_97 rfl ?_
                refine j_put (q := 101) (ci := 1) (q0 := 0) (kf := 3) (v := .int (nI 1)) (w' := [(h0, .inr (1, [.ref t0, .ref b0, .int (nI (pcN i)), .int (nI 1), .int (nI i), .ref h1])), (h1, .inl (G.2.2.1, 9, .inl (nF fl))), (b0, .inr (0, [.ref t0, .ref b1, .ref b2, .ref b3, .int (nI lz), .int (nI lf), .int (nI ld), .int (nI lg)])), (b1, .inl (G.2.2.1, 9, .inl (nF ne))), (b2, .inl (G.2.2.1, 512, .inl md3)), (b3, .inl (G.2.2.1, 512, .inl se)), (t0, .inr (6, [.int (nI n), .int (nI m), .int (nI t), .ref t1, .ref t2, .ref t3, .ref t4])), (t1, .inl (G.2.2.1, 9, .inl (nF ru))), (t2, .inl (G.2.2.1, 15, .inl (nF la))), (t3, .inl (G.2.2.1, 15, .inl (nF lb))), (t4, .inl (G.2.2.1, 9, .inl (nF ro)))]) F inX1 tyX1_ok nmX1 rfl rfl rfl tw_227 rfl rfl rfl rfl rfl rfl dX1_findLit_98 rfl ?_
                refine j_iinc (q := 104) (i0 := 5) (v := nI (i + 1)) (lv' := [(4, .int (nI (i + 1))), (5, .int (nI (pcN i))), (0, .ref h0), (1, .int (nI sd)), (2, .int (nI so)), (3, .int (nI k))]) F dX1_findLit_101 rfl (nI_add _ _) (by decide) rfl rfl ?_
                refine j_goto (t := 7) F dX1_findLit_104 rfl ?_
                refine j_lv [2, 3, 4, 5, 0] (lv' := [(0, .ref h0), (1, .int (nI sd)), (2, .int (nI so)), (3, .int (nI k)), (4, .int (nI (i + 1)))]) rfl ?_
                exact ih1 (i + 1) _ _ _ md3 (by omega) hm3 (hL.new hlit (by omega) (Or.inr (by omega))) (by omega)
          · skip
            refine j_w (w' := [(h0, .inr (1, [.ref t0, .ref b0, .int (nI sz1), .int (nI mn1), .int le1, .ref h1])), (h1, .inl (G.2.2.1, 9, .inl (nF fl))), (b0, .inr (0, [.ref t0, .ref b1, .ref b2, .ref b3, .int (nI lz), .int (nI lf), .int (nI ld), .int (nI lg)])), (b1, .inl (G.2.2.1, 9, .inl (nF ne))), (b2, .inl (G.2.2.1, 512, .inl md3)), (b3, .inl (G.2.2.1, 512, .inl se)), (t0, .inr (6, [.int (nI n), .int (nI m), .int (nI t), .ref t1, .ref t2, .ref t3, .ref t4])), (t1, .inl (G.2.2.1, 9, .inl (nF ru))), (t2, .inl (G.2.2.1, 15, .inl (nF la))), (t3, .inl (G.2.2.1, 15, .inl (nF lb))), (t4, .inl (G.2.2.1, 9, .inl (nF ro)))]) [0, 1, 5, 6, 7, 8, 9, 10, 2, 3, 4] rfl rfl ?_
            show Jw G X _ 0 0 55 _ [.int (nI 0)] _
            refine j_if_eq (q := 58) (t := 101) F (ct (by decide)) dX1_findLit_55 rfl rfl (fun _ => ?_) (fun z => absurd trivial z)
            refine j_iinc (q := 104) (i0 := 5) (v := nI (i + 1)) (lv' := [(4, .int (nI (i + 1))), (5, .int (nI (pcN i))), (0, .ref h0), (1, .int (nI sd)), (2, .int (nI so)), (3, .int (nI k))]) F dX1_findLit_101 rfl (nI_add _ _) (by decide) rfl rfl ?_
            refine j_goto (t := 7) F dX1_findLit_104 rfl ?_
            refine j_lv [2, 3, 4, 5, 0] (lv' := [(0, .ref h0), (1, .int (nI sd)), (2, .int (nI so)), (3, .int (nI k)), (4, .int (nI (i + 1)))]) rfl ?_
            exact ih1 (i + 1) sz1 mn1 le1 md3 (by omega) hm3 (hL.dark hlit) (by omega)
  refine j_lv [1, 2, 3, 4, 0] (lv' := [(0, .ref h0), (1, .int (nI sd)), (2, .int (nI so)), (3, .int (nI k)), (4, .int (nI 0))]) rfl ?_
  exact lp1 _ 0 3 0 (-9) md (Nat.zero_le _) hm (LiSt.z f sd so k) (Nat.lt_succ_self _)

set_option maxHeartbeats 4000000 in
set_option maxRecDepth 100000 in
theorem c_X1_findWho (G : Gm) {h0 h1 b0 b1 b2 b3 t0 t1 t2 t3 t4 n m t lz lf ld lg sz mn : Nat} {le : Int32} {ru la lb ro ne f fl : Nat → Nat} {md se : Nat → Int32} {sd k told : Nat} (hW : Wk n ru ne f) (hm : MdOk f md) (hsd : sd < 512) (htd : told < 512) (hk : k ≤ 1000) : Mg G yX1_findWho cX1_findWho 5 none ({ frames := 5, cells := 0, slots := 0, locals := 114 } : Room) 0 0 [.ref h0, .int (nI sd), .int (nI k), .int (nI told)] [(h0, .inr (1, [.ref t0, .ref b0, .int (nI sz), .int (nI mn), .int le, .ref h1])), (h1, .inl (G.2.2.1, 9, .inl (nF fl))), (b0, .inr (0, [.ref t0, .ref b1, .ref b2, .ref b3, .int (nI lz), .int (nI lf), .int (nI ld), .int (nI lg)])), (b1, .inl (G.2.2.1, 9, .inl (nF ne))), (b2, .inl (G.2.2.1, 512, .inl md)), (b3, .inl (G.2.2.1, 512, .inl se)), (t0, .inr (6, [.int (nI n), .int (nI m), .int (nI t), .ref t1, .ref t2, .ref t3, .ref t4])), (t1, .inl (G.2.2.1, 9, .inl (nF ru))), (t2, .inl (G.2.2.1, 15, .inl (nF la))), (t3, .inl (G.2.2.1, 15, .inl (nF lb))), (t4, .inl (G.2.2.1, 9, .inl (nF ro)))] (fun r w2 => ∃ mn2 le2 md2, MdOk f md2 ∧ CnSt (fun x => pcN x ≤ 3 ∧ it f k (sd ^^^ x) = told) (2 ^ n) mn2 le2 ∧ r = none ∧ w2 = [(h0, .inr (1, [.ref t0, .ref b0, .int (nI 3), .int (nI mn2), .int le2, .ref h1])), (h1, .inl (G.2.2.1, 9, .inl (nF fl))), (b0, .inr (0, [.ref t0, .ref b1, .ref b2, .ref b3, .int (nI lz), .int (nI lf), .int (nI ld), .int (nI lg)])), (b1, .inl (G.2.2.1, 9, .inl (nF ne))), (b2, .inl (G.2.2.1, 512, .inl md2)), (b3, .inl (G.2.2.1, 512, .inl se)), (t0, .inr (6, [.int (nI n), .int (nI m), .int (nI t), .ref t1, .ref t2, .ref t3, .ref t4])), (t1, .inl (G.2.2.1, 9, .inl (nF ru))), (t2, .inl (G.2.2.1, 15, .inl (nF la))), (t3, .inl (G.2.2.1, 15, .inl (nF lb))), (t4, .inl (G.2.2.1, 9, .inl (nF ro)))]) := by
  have hn := hW.1
  have h9 := p9 hn
  refine Mg.mk (lv := [(0, .ref h0), (1, .int (nI sd)), (2, .int (nI k)), (3, .int (nI told))]) (by decide) rfl rfl (fun X F R0 => ?_)
  refine j_aload_n (q := 1) (i0 := 0) F rfl dX1_findWho_0 rfl ?_
  refine j_callV (q := 4) (ci := 1) (q0 := 0) (As := []) (wr := [(h1, .inl (G.2.2.1, 9, .inl (nF fl))), (b0, .inr (0, [.ref t0, .ref b1, .ref b2, .ref b3, .int (nI lz), .int (nI lf), .int (nI ld), .int (nI lg)])), (b1, .inl (G.2.2.1, 9, .inl (nF ne))), (b2, .inl (G.2.2.1, 512, .inl md)), (b3, .inl (G.2.2.1, 512, .inl se)), (t0, .inr (6, [.int (nI n), .int (nI m), .int (nI t), .ref t1, .ref t2, .ref t3, .ref t4])), (t1, .inl (G.2.2.1, 9, .inl (nF ru))), (t2, .inl (G.2.2.1, 15, .inl (nF la))), (t3, .inl (G.2.2.1, 15, .inl (nF lb))), (t4, .inl (G.2.2.1, 9, .inl (nF ro)))]) (st := []) F (c_X1_findNone G) kwX1_findNone tw_528 tw_11 tw_526 ⟨Nat.le_of_ble_eq_true rfl, Nat.le_of_ble_eq_true rfl, rfl, rfl, Nat.le_of_ble_eq_true rfl, Nat.le_of_ble_eq_true rfl⟩ [0] [1, 2, 3, 4, 5, 6, 7, 8, 9, 10] rfl rfl rfl rfl rfl rfl rfl rfl rfl (Nat.le_of_ble_eq_true rfl) dX1_findWho_1 rfl ?_
  rintro r_ w_ ⟨rfl, rfl⟩
  refine j_w (w' := [(h0, .inr (1, [.ref t0, .ref b0, .int (nI 3), .int (nI 0), .int (-9), .ref h1])), (h1, .inl (G.2.2.1, 9, .inl (nF fl))), (b0, .inr (0, [.ref t0, .ref b1, .ref b2, .ref b3, .int (nI lz), .int (nI lf), .int (nI ld), .int (nI lg)])), (b1, .inl (G.2.2.1, 9, .inl (nF ne))), (b2, .inl (G.2.2.1, 512, .inl md)), (b3, .inl (G.2.2.1, 512, .inl se)), (t0, .inr (6, [.int (nI n), .int (nI m), .int (nI t), .ref t1, .ref t2, .ref t3, .ref t4])), (t1, .inl (G.2.2.1, 9, .inl (nF ru))), (t2, .inl (G.2.2.1, 15, .inl (nF la))), (t3, .inl (G.2.2.1, 15, .inl (nF lb))), (t4, .inl (G.2.2.1, 9, .inl (nF ro)))]) [10, 0, 1, 2, 3, 4, 5, 6, 7, 8, 9] rfl rfl ?_
  show Jw G X _ 0 0 4 _ [] _
  refine j_iconst (q := 5) (v := nI 0) F (by decide) dX1_findWho_4 rfl ?_
  refine j_istore (q := 7) (lv' := [(4, .int (nI 0)), (0, .ref h0), (1, .int (nI sd)), (2, .int (nI k)), (3, .int (nI told))]) F dX1_findWho_5 (by decide) rfl rfl ?_
  have lp1 : ∀ (fu : Nat) (i : Nat) (mn1 : Nat) (le1 : Int32) (md1 : Nat → Int32) (hi : i ≤ 2 ^ n) (hm1 : MdOk f md1) (hC : CnSt (fun x => pcN x ≤ 3 ∧ it f k (sd ^^^ x) = told) i mn1 le1), (2 ^ n - i) < fu → Jw G X 5 0 0 7 [(0, .ref h0), (1, .int (nI sd)), (2, .int (nI k)), (3, .int (nI told)), (4, .int (nI i))] [] [(h0, .inr (1, [.ref t0, .ref b0, .int (nI 3), .int (nI mn1), .int le1, .ref h1])), (h1, .inl (G.2.2.1, 9, .inl (nF fl))), (b0, .inr (0, [.ref t0, .ref b1, .ref b2, .ref b3, .int (nI lz), .int (nI lf), .int (nI ld), .int (nI lg)])), (b1, .inl (G.2.2.1, 9, .inl (nF ne))), (b2, .inl (G.2.2.1, 512, .inl md1)), (b3, .inl (G.2.2.1, 512, .inl se)), (t0, .inr (6, [.int (nI n), .int (nI m), .int (nI t), .ref t1, .ref t2, .ref t3, .ref t4])), (t1, .inl (G.2.2.1, 9, .inl (nF ru))), (t2, .inl (G.2.2.1, 15, .inl (nF la))), (t3, .inl (G.2.2.1, 15, .inl (nF lb))), (t4, .inl (G.2.2.1, 9, .inl (nF ro)))] := by
    intro fu
    induction fu with
    | zero => intro i mn1 le1 md1 hi hm1 hC hfu; exact absurd hfu (Nat.not_lt_zero _)
    | succ fu ih1 =>
      intro i mn1 le1 md1 hi hm1 hC hfu
      have hL2 := hC.le_i
      refine j_iload (q := 9) (i0 := 4) F rfl dX1_findWho_7 rfl ?_
      refine j_aload_n (q := 10) (i0 := 0) F rfl dX1_findWho_9 rfl ?_
      refine j_get (q := 13) (ci := 1) (q0 := 0) (kf := 0) (v := .ref t0) F inX1 rfl rfl rfl tw_223 rfl rfl dX1_findWho_10 rfl ?_
      refine j_callV (q := 16) (ci := 6) (q0 := 0) (As := []) (wr := [(h0, .inr (1, [.ref t0, .ref b0, .int (nI 3), .int (nI mn1), .int le1, .ref h1])), (h1, .inl (G.2.2.1, 9, .inl (nF fl))), (b0, .inr (0, [.ref t0, .ref b1, .ref b2, .ref b3, .int (nI lz), .int (nI lf), .int (nI ld), .int (nI lg)])), (b1, .inl (G.2.2.1, 9, .inl (nF ne))), (b2, .inl (G.2.2.1, 512, .inl md1)), (b3, .inl (G.2.2.1, 512, .inl se)), (t1, .inl (G.2.2.1, 9, .inl (nF ru))), (t2, .inl (G.2.2.1, 15, .inl (nF la))), (t3, .inl (G.2.2.1, 15, .inl (nF lb))), (t4, .inl (G.2.2.1, 9, .inl (nF ro)))]) (st := [.int (nI i)]) F (c_X6_stands G hW.1) kwX6_stands tw_502 tw_503 tw_530 ⟨Nat.le_of_ble_eq_true rfl, Nat.le_of_ble_eq_true rfl, rfl, rfl, Nat.le_of_ble_eq_true rfl, Nat.le_of_ble_eq_true rfl⟩ [6] [0, 1, 2, 3, 4, 5, 7, 8, 9, 10] rfl rfl rfl rfl rfl rfl rfl rfl rfl (Nat.le_of_ble_eq_true rfl) dX1_findWho_13 rfl ?_
      rintro r_ w_ ⟨rfl, rfl⟩
      refine j_w (w' := [(h0, .inr (1, [.ref t0, .ref b0, .int (nI 3), .int (nI mn1), .int le1, .ref h1])), (h1, .inl (G.2.2.1, 9, .inl (nF fl))), (b0, .inr (0, [.ref t0, .ref b1, .ref b2, .ref b3, .int (nI lz), .int (nI lf), .int (nI ld), .int (nI lg)])), (b1, .inl (G.2.2.1, 9, .inl (nF ne))), (b2, .inl (G.2.2.1, 512, .inl md1)), (b3, .inl (G.2.2.1, 512, .inl se)), (t0, .inr (6, [.int (nI n), .int (nI m), .int (nI t), .ref t1, .ref t2, .ref t3, .ref t4])), (t1, .inl (G.2.2.1, 9, .inl (nF ru))), (t2, .inl (G.2.2.1, 15, .inl (nF la))), (t3, .inl (G.2.2.1, 15, .inl (nF lb))), (t4, .inl (G.2.2.1, 9, .inl (nF ro)))]) [0, 1, 2, 3, 4, 5, 10, 6, 7, 8, 9] rfl rfl ?_
      show Jw G X _ 0 0 16 _ [.int (nI (2 ^ n)), .int (nI i)] _
      refine j_icmp_ge (q := 19) (t := 73) F (Pp := 2 ^ n ≤ i) (nI_leI (by omega) (by omega)) dX1_findWho_16 rfl rfl (fun c2 => ?_) (fun c2 => ?_)
      · skip
        exact j_vret (w2 := [(h0, .inr (1, [.ref t0, .ref b0, .int (nI 3), .int (nI mn1), .int le1, .ref h1])), (h1, .inl (G.2.2.1, 9, .inl (nF fl))), (b0, .inr (0, [.ref t0, .ref b1, .ref b2, .ref b3, .int (nI lz), .int (nI lf), .int (nI ld), .int (nI lg)])), (b1, .inl (G.2.2.1, 9, .inl (nF ne))), (b2, .inl (G.2.2.1, 512, .inl md1)), (b3, .inl (G.2.2.1, 512, .inl se)), (t0, .inr (6, [.int (nI n), .int (nI m), .int (nI t), .ref t1, .ref t2, .ref t3, .ref t4])), (t1, .inl (G.2.2.1, 9, .inl (nF ru))), (t2, .inl (G.2.2.1, 15, .inl (nF la))), (t3, .inl (G.2.2.1, 15, .inl (nF lb))), (t4, .inl (G.2.2.1, 9, .inl (nF ro)))]) F R0 rfl [0, 1, 2, 3, 4, 5, 6, 7, 8, 9, 10] rfl rfl (⟨_, _, _, hm1, by rw [show 2 ^ n = i by omega]; exact hC, rfl, rfl⟩) dX1_findWho_73
      · skip
        have hpi := pcN_le i
        have hx := Nat.xor_lt_two_pow (n := 9) hsd (show i < 2 ^ 9 by omega)
        have hit := it_lt hW.f5 hx k
        refine j_iload (q := 21) (i0 := 4) F rfl dX1_findWho_19 rfl ?_
        refine j_callS (q := 24) (As := [.int (nI i)]) (wr := [(h0, .inr (1, [.ref t0, .ref b0, .int (nI 3), .int (nI mn1), .int le1, .ref h1])), (h1, .inl (G.2.2.1, 9, .inl (nF fl))), (b0, .inr (0, [.ref t0, .ref b1, .ref b2, .ref b3, .int (nI lz), .int (nI lf), .int (nI ld), .int (nI lg)])), (b1, .inl (G.2.2.1, 9, .inl (nF ne))), (b2, .inl (G.2.2.1, 512, .inl md1)), (b3, .inl (G.2.2.1, 512, .inl se)), (t0, .inr (6, [.int (nI n), .int (nI m), .int (nI t), .ref t1, .ref t2, .ref t3, .ref t4])), (t1, .inl (G.2.2.1, 9, .inl (nF ru))), (t2, .inl (G.2.2.1, 15, .inl (nF la))), (t3, .inl (G.2.2.1, 15, .inl (nF lb))), (t4, .inl (G.2.2.1, 9, .inl (nF ro)))]) (st := []) F (c_bitCount G (k := i) (by omega)) kwJ6_bitCount_0f7a4 tw_407 tw_531 ⟨Nat.le_of_ble_eq_true rfl, Nat.le_of_ble_eq_true rfl, rfl, rfl, Nat.le_of_ble_eq_true rfl, Nat.le_of_ble_eq_true rfl⟩ [] [0, 1, 2, 3, 4, 5, 6, 7, 8, 9, 10] rfl rfl rfl rfl rfl rfl rfl (Nat.le_of_ble_eq_true rfl) dX1_findWho_21 rfl ?_
        rintro r_ w_ ⟨rfl, rfl⟩
        refine j_w (w' := [(h0, .inr (1, [.ref t0, .ref b0, .int (nI 3), .int (nI mn1), .int le1, .ref h1])), (h1, .inl (G.2.2.1, 9, .inl (nF fl))), (b0, .inr (0, [.ref t0, .ref b1, .ref b2, .ref b3, .int (nI lz), .int (nI lf), .int (nI ld), .int (nI lg)])), (b1, .inl (G.2.2.1, 9, .inl (nF ne))), (b2, .inl (G.2.2.1, 512, .inl md1)), (b3, .inl (G.2.2.1, 512, .inl se)), (t0, .inr (6, [.int (nI n), .int (nI m), .int (nI t), .ref t1, .ref t2, .ref t3, .ref t4])), (t1, .inl (G.2.2.1, 9, .inl (nF ru))), (t2, .inl (G.2.2.1, 15, .inl (nF la))), (t3, .inl (G.2.2.1, 15, .inl (nF lb))), (t4, .inl (G.2.2.1, 9, .inl (nF ro)))]) [0, 1, 2, 3, 4, 5, 6, 7, 8, 9, 10] rfl rfl ?_
        show Jw G X _ 0 0 24 _ [.int (nI (pcN i))] _
        refine j_iconst (q := 25) (v := nI 3) F (by decide) dX1_findWho_24 rfl ?_
        refine j_icmp_gt (q := 28) (t := 67) F (Pp := 3 < pcN i) (nI_ltI (by omega) (by omega)) dX1_findWho_25 rfl rfl (fun c3 => ?_) (fun c3 => ?_)
        · skip
          refine j_iinc (q := 70) (i0 := 4) (v := nI (i + 1)) (lv' := [(4, .int (nI (i + 1))), (0, .ref h0), (1, .int (nI sd)), (2, .int (nI k)), (3, .int (nI told))]) F dX1_findWho_67 rfl (nI_add _ _) (by decide) rfl rfl ?_
          refine j_goto (t := 7) F dX1_findWho_70 rfl ?_
          refine j_lv [1, 2, 3, 4, 0] (lv' := [(0, .ref h0), (1, .int (nI sd)), (2, .int (nI k)), (3, .int (nI told)), (4, .int (nI (i + 1)))]) rfl ?_
          exact ih1 (i + 1) mn1 le1 md1 (by omega) hm1 (hC.skip (fun z => by have := z.1; omega)) (by omega)
        · skip
          refine j_aload_n (q := 29) (i0 := 0) F rfl dX1_findWho_28 rfl ?_
          refine j_get (q := 32) (ci := 1) (q0 := 0) (kf := 1) (v := .ref b0) F inX1 rfl rfl rfl tw_224 rfl rfl dX1_findWho_29 rfl ?_
          refine j_iload_n (q := 33) (i0 := 1) F rfl dX1_findWho_32 rfl ?_
          refine j_iload (q := 35) (i0 := 4) F rfl dX1_findWho_33 rfl ?_
          refine j_ixor (q := 36) (v := nI (sd ^^^ i)) F (nx_xor _ _) dX1_findWho_35 rfl ?_
          refine j_iload_n (q := 37) (i0 := 2) F rfl dX1_findWho_36 rfl ?_
          refine j_callV (q := 40) (ci := 0) (q0 := 0) (As := [.int (nI (sd ^^^ i)), .int (nI k)]) (wr := [(h0, .inr (1, [.ref t0, .ref b0, .int (nI 3), .int (nI mn1), .int le1, .ref h1])), (h1, .inl (G.2.2.1, 9, .inl (nF fl))), (t2, .inl (G.2.2.1, 15, .inl (nF la))), (t3, .inl (G.2.2.1, 15, .inl (nF lb))), (t4, .inl (G.2.2.1, 9, .inl (nF ro)))]) (st := []) F (c_X0_struckOften G hW hm1 (s := sd ^^^ i) (k := k) (hx) (hk)) kwX0_struckOften tw_477 tw_478 tw_532 ⟨Nat.le_of_ble_eq_true rfl, Nat.le_of_ble_eq_true rfl, rfl, rfl, Nat.le_of_ble_eq_true rfl, Nat.le_of_ble_eq_true rfl⟩ [2, 3, 4, 5, 6, 7] [0, 1, 8, 9, 10] rfl rfl rfl rfl rfl rfl rfl rfl rfl (Nat.le_of_ble_eq_true rfl) dX1_findWho_37 rfl ?_
          rintro r_ w_ ⟨md2, hm2, rfl, rfl⟩
          refine j_w (w' := [(h0, .inr (1, [.ref t0, .ref b0, .int (nI 3), .int (nI mn1), .int le1, .ref h1])), (h1, .inl (G.2.2.1, 9, .inl (nF fl))), (b0, .inr (0, [.ref t0, .ref b1, .ref b2, .ref b3, .int (nI lz), .int (nI lf), .int (nI ld), .int (nI lg)])), (b1, .inl (G.2.2.1, 9, .inl (nF ne))), (b2, .inl (G.2.2.1, 512, .inl md2)), (b3, .inl (G.2.2.1, 512, .inl se)), (t0, .inr (6, [.int (nI n), .int (nI m), .int (nI t), .ref t1, .ref t2, .ref t3, .ref t4])), (t1, .inl (G.2.2.1, 9, .inl (nF ru))), (t2, .inl (G.2.2.1, 15, .inl (nF la))), (t3, .inl (G.2.2.1, 15, .inl (nF lb))), (t4, .inl (G.2.2.1, 9, .inl (nF ro)))]) [0, 1, 5, 6, 7, 8, 9, 10, 2, 3, 4] rfl rfl ?_
          show Jw G X _ 0 0 40 _ [.int (nI (it f k (sd ^^^ i)))] _
          refine j_iload_n (q := 41) (i0 := 3) F rfl dX1_findWho_40 rfl ?_
          refine j_icmp_ne (q := 44) (t := 67) F (Pp := it f k (sd ^^^ i) = told) (nI_eq (by omega) (by omega)) dX1_findWho_41 rfl rfl (fun ct => ?_) (fun ct => ?_)
          · skip
            refine j_iinc (q := 70) (i0 := 4) (v := nI (i + 1)) (lv' := [(4, .int (nI (i + 1))), (0, .ref h0), (1, .int (nI sd)), (2, .int (nI k)), (3, .int (nI told))]) F dX1_findWho_67 rfl (nI_add _ _) (by decide) rfl rfl ?_
            refine j_goto (t := 7) F dX1_findWho_70 rfl ?_
            refine j_lv [1, 2, 3, 4, 0] (lv' := [(0, .ref h0), (1, .int (nI sd)), (2, .int (nI k)), (3, .int (nI told)), (4, .int (nI (i + 1)))]) rfl ?_
            exact ih1 (i + 1) mn1 le1 md2 (by omega) hm2 (hC.skip (fun z => ct z.2)) (by omega)
          · skip
            refine j_aload_n (q := 45) (i0 := 0) F rfl dX1_findWho_44 rfl ?_
            refine j_get (q := 48) (ci := 1) (q0 := 0) (kf := 3) (v := .int (nI mn1)) F inX1 rfl rfl rfl tw_227 rfl rfl dX1_findWho_45 rfl ?_
            refine j_if_ne (q := 51) (t := 57) F (Pp := mn1 = 0) (nI_eq0 (by omega)) dX1_findWho_48 rfl rfl (fun cz => ?_) (fun cz => ?_)
            · skip
              refine j_aload_n (q := 58) (i0 := 0) F rfl dX1_findWho_57 rfl ?_
              refine j_dup (q := 59) F rfl dX1_findWho_58 rfl ?_
              refine j_get (q := 62) (ci := 1) (q0 := 0) (kf := 3) (v := .int (nI mn1)) F inX1 rfl rfl rfl tw_227 rfl rfl dX1_findWho_59 rfl ?_
              refine j_iconst (q := 63) (v := nI 1) F (by decide) dX1_findWho_62 rfl ?_
              refine j_iadd (q := 64) (v := nI (mn1 + 1)) F (nI_add _ _) dX1_findWho_63 rfl ?_
              refine j_put (q := 67) (ci := 1) (q0 := 0) (kf := 3) (v := .int (nI (mn1 + 1))) (w' := [(h0, .inr (1, [.ref t0, .ref b0, .int (nI 3), .int (nI (mn1 + 1)), .int le1, .ref h1])), (h1, .inl (G.2.2.1, 9, .inl (nF fl))), (b0, .inr (0, [.ref t0, .ref b1, .ref b2, .ref b3, .int (nI lz), .int (nI lf), .int (nI ld), .int (nI lg)])), (b1, .inl (G.2.2.1, 9, .inl (nF ne))), (b2, .inl (G.2.2.1, 512, .inl md2)), (b3, .inl (G.2.2.1, 512, .inl se)), (t0, .inr (6, [.int (nI n), .int (nI m), .int (nI t), .ref t1, .ref t2, .ref t3, .ref t4])), (t1, .inl (G.2.2.1, 9, .inl (nF ru))), (t2, .inl (G.2.2.1, 15, .inl (nF la))), (t3, .inl (G.2.2.1, 15, .inl (nF lb))), (t4, .inl (G.2.2.1, 9, .inl (nF ro)))]) F inX1 tyX1_ok nmX1 rfl rfl rfl tw_227 rfl rfl rfl rfl rfl rfl dX1_findWho_64 rfl ?_
              refine j_iinc (q := 70) (i0 := 4) (v := nI (i + 1)) (lv' := [(4, .int (nI (i + 1))), (0, .ref h0), (1, .int (nI sd)), (2, .int (nI k)), (3, .int (nI told))]) F dX1_findWho_67 rfl (nI_add _ _) (by decide) rfl rfl ?_
              refine j_goto (t := 7) F dX1_findWho_70 rfl ?_
              refine j_lv [1, 2, 3, 4, 0] (lv' := [(0, .ref h0), (1, .int (nI sd)), (2, .int (nI k)), (3, .int (nI told)), (4, .int (nI (i + 1)))]) rfl ?_
              exact ih1 (i + 1) _ _ md2 (by omega) hm2 (hC.more cz ⟨by omega, ct⟩) (by omega)
            · skip
              refine j_aload_n (q := 52) (i0 := 0) F rfl dX1_findWho_51 rfl ?_
              refine j_iload (q := 54) (i0 := 4) F rfl dX1_findWho_52 rfl ?_
              refine j_put (q := 57) (ci := 1) (q0 := 0) (kf := 4) (v := .int (nI i)) (w' := [(h0, .inr (1, [.ref t0, .ref b0, .int (nI 3), .int (nI mn1), .int (nI i), .ref h1])), (h1, .inl (G.2.2.1, 9, .inl (nF fl))), (b0, .inr (0, [.ref t0, .ref b1, .ref b2, .ref b3, .int (nI lz), .int (nI lf), .int (nI ld), .int (nI lg)])), (b1, .inl (G.2.2.1, 9, .inl (nF ne))), (b2, .inl (G.2.2.1, 512, .inl md2)), (b3, .inl (G.2.2.1, 512, .inl se)), (t0, .inr (6, [.int (nI n), .int (nI m), .int (nI t), .ref t1, .ref t2, .ref t3, .ref t4])), (t1, .inl (G.2.2.1, 9, .inl (nF ru))), (t2, .inl (G.2.2.1, 15, .inl (nF la))), (t3, .inl (G.2.2.1, 15, .inl (nF lb))), (t4, .inl (G.2.2.1, 9, .inl (nF ro)))]) F inX1 tyX1_ok nmX1 rfl rfl rfl tw_229 rfl rfl rfl rfl rfl rfl dX1_findWho_54 rfl ?_
              refine j_aload_n (q := 58) (i0 := 0) F rfl dX1_findWho_57 rfl ?_
              refine j_dup (q := 59) F rfl dX1_findWho_58 rfl ?_
              refine j_get (q := 62) (ci := 1) (q0 := 0) (kf := 3) (v := .int (nI mn1)) F inX1 rfl rfl rfl tw_227 rfl rfl dX1_findWho_59 rfl ?_
              refine j_iconst (q := 63) (v := nI 1) F (by decide) dX1_findWho_62 rfl ?_
              refine j_iadd (q := 64) (v := nI (mn1 + 1)) F (nI_add _ _) dX1_findWho_63 rfl ?_
              refine j_put (q := 67) (ci := 1) (q0 := 0) (kf := 3) (v := .int (nI (mn1 + 1))) (w' := [(h0, .inr (1, [.ref t0, .ref b0, .int (nI 3), .int (nI (mn1 + 1)), .int (nI i), .ref h1])), (h1, .inl (G.2.2.1, 9, .inl (nF fl))), (b0, .inr (0, [.ref t0, .ref b1, .ref b2, .ref b3, .int (nI lz), .int (nI lf), .int (nI ld), .int (nI lg)])), (b1, .inl (G.2.2.1, 9, .inl (nF ne))), (b2, .inl (G.2.2.1, 512, .inl md2)), (b3, .inl (G.2.2.1, 512, .inl se)), (t0, .inr (6, [.int (nI n), .int (nI m), .int (nI t), .ref t1, .ref t2, .ref t3, .ref t4])), (t1, .inl (G.2.2.1, 9, .inl (nF ru))), (t2, .inl (G.2.2.1, 15, .inl (nF la))), (t3, .inl (G.2.2.1, 15, .inl (nF lb))), (t4, .inl (G.2.2.1, 9, .inl (nF ro)))]) F inX1 tyX1_ok nmX1 rfl rfl rfl tw_227 rfl rfl rfl rfl rfl rfl dX1_findWho_64 rfl ?_
              refine j_iinc (q := 70) (i0 := 4) (v := nI (i + 1)) (lv' := [(4, .int (nI (i + 1))), (0, .ref h0), (1, .int (nI sd)), (2, .int (nI k)), (3, .int (nI told))]) F dX1_findWho_67 rfl (nI_add _ _) (by decide) rfl rfl ?_
              refine j_goto (t := 7) F dX1_findWho_70 rfl ?_
              refine j_lv [1, 2, 3, 4, 0] (lv' := [(0, .ref h0), (1, .int (nI sd)), (2, .int (nI k)), (3, .int (nI told)), (4, .int (nI (i + 1)))]) rfl ?_
              exact ih1 (i + 1) _ _ md2 (by omega) hm2 (hC.first cz ⟨by omega, ct⟩) (by omega)
  refine j_lv [1, 2, 3, 4, 0] (lv' := [(0, .ref h0), (1, .int (nI sd)), (2, .int (nI k)), (3, .int (nI told)), (4, .int (nI 0))]) rfl ?_
  exact lp1 _ 0 0 (-9) md (Nat.zero_le _) hm (CnSt.z _) (Nat.lt_succ_self _)

set_option maxHeartbeats 4000000 in
set_option maxRecDepth 100000 in
theorem c_X1_withRoads (G : Gm) {h0 h1 b0 t0 t1 t2 t3 t4 n m t sz mn p : Nat} {le : Int32} {ro : Nat → Nat} (hn : n ≤ 9) (hp : p < 512) : Mg G yX1_withRoads cX1_withRoads 4 (some .int) ({ frames := 0, cells := 0, slots := 0, locals := 0 } : Room) 0 0 [.ref h0, .int (nI p)] [(h0, .inr (1, [.ref t0, .ref b0, .int (nI sz), .int (nI mn), .int le, .ref h1])), (t0, .inr (6, [.int (nI n), .int (nI m), .int (nI t), .ref t1, .ref t2, .ref t3, .ref t4])), (t4, .inl (G.2.2.1, 9, .inl (nF ro)))] (fun r w2 => w2 = [(h0, .inr (1, [.ref t0, .ref b0, .int (nI sz), .int (nI mn), .int le, .ref h1])), (t0, .inr (6, [.int (nI n), .int (nI m), .int (nI t), .ref t1, .ref t2, .ref t3, .ref t4])), (t4, .inl (G.2.2.1, 9, .inl (nF ro)))] ∧ r = some (.int (nI (wrF ro p n)))) := by
  refine Mg.mk (lv := [(0, .ref h0), (1, .int (nI p))]) (by decide) rfl rfl (fun X F R0 => ?_)
  refine j_iload_n (q := 1) (i0 := 1) F rfl dX1_withRoads_0 rfl ?_
  refine j_istore_n (q := 2) (lv' := [(2, .int (nI p)), (0, .ref h0), (1, .int (nI p))]) F dX1_withRoads_1 (by decide) rfl rfl ?_
  refine j_iconst (q := 3) (v := nI 0) F (by decide) dX1_withRoads_2 rfl ?_
  refine j_istore_n (q := 4) (lv' := [(3, .int (nI 0)), (2, .int (nI p)), (0, .ref h0), (1, .int (nI p))]) F dX1_withRoads_3 (by decide) rfl rfl ?_
  have lp1 : ∀ (fu : Nat) (l : Nat) (hl : l ≤ n), (n - l) < fu → Jw G X 4 0 0 4 [(0, .ref h0), (1, .int (nI p)), (2, .int (nI (wrF ro p l))), (3, .int (nI l))] [] [(h0, .inr (1, [.ref t0, .ref b0, .int (nI sz), .int (nI mn), .int le, .ref h1])), (t0, .inr (6, [.int (nI n), .int (nI m), .int (nI t), .ref t1, .ref t2, .ref t3, .ref t4])), (t4, .inl (G.2.2.1, 9, .inl (nF ro)))] := by
    intro fu
    induction fu with
    | zero => intro l hl hfu; exact absurd hfu (Nat.not_lt_zero _)
    | succ fu ih1 =>
      intro l hl hfu
      refine j_iload_n (q := 5) (i0 := 3) F rfl dX1_withRoads_4 rfl ?_
      refine j_aload_n (q := 6) (i0 := 0) F rfl dX1_withRoads_5 rfl ?_
      refine j_get (q := 9) (ci := 1) (q0 := 0) (kf := 0) (v := .ref t0) F inX1 rfl rfl rfl tw_223 rfl rfl dX1_withRoads_6 rfl ?_
      refine j_get (q := 12) (ci := 6) (q0 := 1) (kf := 0) (v := .int (nI n)) F inX6 rfl rfl rfl tw_91 rfl rfl dX1_withRoads_9 rfl ?_
      refine j_icmp_ge (q := 15) (t := 42) F (Pp := n ≤ l) (nI_leI (by omega) (by omega)) dX1_withRoads_12 rfl rfl (fun c2 => ?_) (fun c2 => ?_)
      · skip
        refine j_iload_n (q := 43) (i0 := 2) F rfl dX1_withRoads_42 rfl ?_
        exact j_iret (w2 := [(h0, .inr (1, [.ref t0, .ref b0, .int (nI sz), .int (nI mn), .int le, .ref h1])), (t0, .inr (6, [.int (nI n), .int (nI m), .int (nI t), .ref t1, .ref t2, .ref t3, .ref t4])), (t4, .inl (G.2.2.1, 9, .inl (nF ro)))]) F R0 rfl [0, 1, 2] rfl rfl (by rw [show l = n by omega]; exact ⟨rfl, rfl⟩) dX1_withRoads_43
      · skip
        refine j_iload_n (q := 16) (i0 := 1) F rfl dX1_withRoads_15 rfl ?_
        refine j_iload_n (q := 17) (i0 := 3) F rfl dX1_withRoads_16 rfl ?_
        refine j_ishr (q := 18) (v := nI (p >>> l)) F (nx_shr (by omega) (by omega)) dX1_withRoads_17 rfl ?_
        refine j_iconst (q := 19) (v := nI 1) F (by decide) dX1_withRoads_18 rfl ?_
        refine j_iand (q := 20) (v := nI (bitN p l)) F (nx_and _ _) dX1_withRoads_19 rfl ?_
        refine j_iconst (q := 21) (v := nI 1) F (by decide) dX1_withRoads_20 rfl ?_
        refine j_icmp_ne (q := 24) (t := 36) F (Pp := p.testBit l = true) (bit_is1 _ _) dX1_withRoads_21 rfl rfl (fun c_b => ?_) (fun c_b => ?_)
        · skip
          refine j_iinc (q := 39) (i0 := 3) (v := nI (l + 1)) (lv' := [(3, .int (nI (l + 1))), (0, .ref h0), (1, .int (nI p)), (2, .int (nI (wrF ro p l)))]) F dX1_withRoads_36 rfl (nI_add _ _) (by decide) rfl rfl ?_
          refine j_goto (t := 4) F dX1_withRoads_39 rfl ?_
          rw [show wrF ro p l = wrF ro p (l + 1) from by rw [wrF, if_neg c_b]]
          refine j_lv [1, 2, 3, 0] (lv' := [(0, .ref h0), (1, .int (nI p)), (2, .int (nI (wrF ro p (l + 1)))), (3, .int (nI (l + 1)))]) rfl ?_
          exact ih1 (l + 1) (by omega) (by omega)
        · skip
          refine j_iload_n (q := 25) (i0 := 2) F rfl dX1_withRoads_24 rfl ?_
          refine j_aload_n (q := 26) (i0 := 0) F rfl dX1_withRoads_25 rfl ?_
          refine j_get (q := 29) (ci := 1) (q0 := 0) (kf := 0) (v := .ref t0) F inX1 rfl rfl rfl tw_223 rfl rfl dX1_withRoads_26 rfl ?_
          refine j_get (q := 32) (ci := 6) (q0 := 1) (kf := 6) (v := .ref t4) F inX6 rfl rfl rfl tw_112 rfl rfl dX1_withRoads_29 rfl ?_
          refine j_iload_n (q := 33) (i0 := 3) F rfl dX1_withRoads_32 rfl ?_
          refine j_iald (q := 34) (q0 := 2) (i := l) (v := nI (ro l)) F rfl rfl (by omega) rfl (rfl) dX1_withRoads_33 rfl ?_
          refine j_ior (q := 35) (v := nI ((wrF ro p l) ||| (ro l))) F (nx_or _ _) dX1_withRoads_34 rfl ?_
          refine j_istore_n (q := 36) (lv' := [(2, .int (nI ((wrF ro p l) ||| (ro l)))), (0, .ref h0), (1, .int (nI p)), (3, .int (nI l))]) F dX1_withRoads_35 (by decide) rfl rfl ?_
          refine j_iinc (q := 39) (i0 := 3) (v := nI (l + 1)) (lv' := [(3, .int (nI (l + 1))), (2, .int (nI ((wrF ro p l) ||| (ro l)))), (0, .ref h0), (1, .int (nI p))]) F dX1_withRoads_36 rfl (nI_add _ _) (by decide) rfl rfl ?_
          refine j_goto (t := 4) F dX1_withRoads_39 rfl ?_
          rw [show wrF ro p l ||| ro l = wrF ro p (l + 1) from by rw [wrF, if_pos c_b]]
          refine j_lv [2, 3, 1, 0] (lv' := [(0, .ref h0), (1, .int (nI p)), (2, .int (nI (wrF ro p (l + 1)))), (3, .int (nI (l + 1)))]) rfl ?_
          exact ih1 (l + 1) (by omega) (by omega)
  refine j_lv [2, 3, 1, 0] (lv' := [(0, .ref h0), (1, .int (nI p)), (2, .int (nI p)), (3, .int (nI 0))]) rfl ?_
  exact lp1 _ 0 (Nat.zero_le _) (Nat.lt_succ_self _)

set_option maxHeartbeats 4000000 in
set_option maxRecDepth 100000 in
theorem c_X1_soonest (G : Gm) {h0 h1 b0 b1 b2 b3 t0 t1 t2 t3 t4 n m t lz lf ld lg sz mn : Nat} {le : Int32} {ru la lb ro ne f fl : Nat → Nat} {md se : Nat → Int32} {sd fr to : Nat} (hW : Wk n ru ne f) (hm : MdOk f md) (hsd : sd < 512) (hfr : fr < 9) (hto : to < 9) (hro : ∀ i, i < n → ro i < 512) : Mg G yX1_soonest cX1_soonest 7 (some .int) ({ frames := 4, cells := 0, slots := 0, locals := 90 } : Room) 0 0 [.ref h0, .int (nI sd), .int (nI fr), .int (nI to)] [(h0, .inr (1, [.ref t0, .ref b0, .int (nI sz), .int (nI mn), .int le, .ref h1])), (h1, .inl (G.2.2.1, 9, .inl (nF fl))), (b0, .inr (0, [.ref t0, .ref b1, .ref b2, .ref b3, .int (nI lz), .int (nI lf), .int (nI ld), .int (nI lg)])), (b1, .inl (G.2.2.1, 9, .inl (nF ne))), (b2, .inl (G.2.2.1, 512, .inl md)), (b3, .inl (G.2.2.1, 512, .inl se)), (t0, .inr (6, [.int (nI n), .int (nI m), .int (nI t), .ref t1, .ref t2, .ref t3, .ref t4])), (t1, .inl (G.2.2.1, 9, .inl (nF ru))), (t2, .inl (G.2.2.1, 15, .inl (nF la))), (t3, .inl (G.2.2.1, 15, .inl (nF lb))), (t4, .inl (G.2.2.1, 9, .inl (nF ro)))] (fun r w2 => ∃ md2 r2, MdOk f md2 ∧ ThA f ro n sd fr to r2 ∧ r = some (.int r2) ∧ w2 = [(h0, .inr (1, [.ref t0, .ref b0, .int (nI sz), .int (nI mn), .int le, .ref h1])), (h1, .inl (G.2.2.1, 9, .inl (nF fl))), (b0, .inr (0, [.ref t0, .ref b1, .ref b2, .ref b3, .int (nI lz), .int (nI lf), .int (nI ld), .int (nI lg)])), (b1, .inl (G.2.2.1, 9, .inl (nF ne))), (b2, .inl (G.2.2.1, 512, .inl md2)), (b3, .inl (G.2.2.1, 512, .inl se)), (t0, .inr (6, [.int (nI n), .int (nI m), .int (nI t), .ref t1, .ref t2, .ref t3, .ref t4])), (t1, .inl (G.2.2.1, 9, .inl (nF ru))), (t2, .inl (G.2.2.1, 15, .inl (nF la))), (t3, .inl (G.2.2.1, 15, .inl (nF lb))), (t4, .inl (G.2.2.1, 9, .inl (nF ro)))]) := by
  refine Mg.mk (lv := [(0, .ref h0), (1, .int (nI sd)), (2, .int (nI fr)), (3, .int (nI to))]) (by decide) rfl rfl (fun X F R0 => ?_)
  refine j_iload_n (q := 1) (i0 := 1) F rfl dX1_soonest_0 rfl ?_
  refine j_istore (q := 3) (lv' := [(4, .int (nI sd)), (0, .ref h0), (1, .int (nI sd)), (2, .int (nI fr)), (3, .int (nI to))]) F dX1_soonest_1 (by decide) rfl rfl ?_
  refine j_iconst (q := 4) (v := nI 1) F (by decide) dX1_soonest_3 rfl ?_
  refine j_iload_n (q := 5) (i0 := 3) F rfl dX1_soonest_4 rfl ?_
  refine j_ishl (q := 6) (v := nI (2 ^ fr)) F (nx_shl1 (by omega)) dX1_soonest_5 rfl ?_
  refine j_iload (q := 8) (i0 := 0) F rfl dX1_soonest_6 rfl ?_
  refine j_iconst (q := 9) (v := (-1)) F (by decide) dX1_soonest_8 rfl ?_
  refine j_ixor (q := 10) (v := nI (sd ^^^ 4294967295)) F (nx_not _) dX1_soonest_9 rfl ?_
  refine j_iand (q := 11) (v := nI ((2 ^ fr) &&& (sd ^^^ 4294967295))) F (nx_and _ _) dX1_soonest_10 rfl ?_
  refine j_istore (q := 13) (lv' := [(5, .int (nI ((2 ^ fr) &&& (sd ^^^ 4294967295)))), (4, .int (nI sd)), (0, .ref h0), (1, .int (nI sd)), (2, .int (nI fr)), (3, .int (nI to))]) F dX1_soonest_11 (by decide) rfl rfl ?_
  refine j_iconst (q := 14) (v := nI 0) F (by decide) dX1_soonest_13 rfl ?_
  refine j_istore (q := 16) (lv' := [(6, .int (nI 0)), (5, .int (nI ((2 ^ fr) &&& (sd ^^^ 4294967295)))), (4, .int (nI sd)), (0, .ref h0), (1, .int (nI sd)), (2, .int (nI fr)), (3, .int (nI to))]) F dX1_soonest_14 (by decide) rfl rfl ?_
  have lp1 : ∀ (fu : Nat) (b : Nat) (md1 : Nat → Int32) (hb : b ≤ 100) (hm1 : MdOk f md1) (hno : ∀ c, c < b → (plc f ro n sd fr c).testBit to = false), (100 - b) < fu → Jw G X 7 0 0 16 [(0, .ref h0), (1, .int (nI sd)), (2, .int (nI fr)), (3, .int (nI to)), (4, .int (nI (it f b sd))), (5, .int (nI (plc f ro n sd fr b))), (6, .int (nI b))] [] [(h0, .inr (1, [.ref t0, .ref b0, .int (nI sz), .int (nI mn), .int le, .ref h1])), (h1, .inl (G.2.2.1, 9, .inl (nF fl))), (b0, .inr (0, [.ref t0, .ref b1, .ref b2, .ref b3, .int (nI lz), .int (nI lf), .int (nI ld), .int (nI lg)])), (b1, .inl (G.2.2.1, 9, .inl (nF ne))), (b2, .inl (G.2.2.1, 512, .inl md1)), (b3, .inl (G.2.2.1, 512, .inl se)), (t0, .inr (6, [.int (nI n), .int (nI m), .int (nI t), .ref t1, .ref t2, .ref t3, .ref t4])), (t1, .inl (G.2.2.1, 9, .inl (nF ru))), (t2, .inl (G.2.2.1, 15, .inl (nF la))), (t3, .inl (G.2.2.1, 15, .inl (nF lb))), (t4, .inl (G.2.2.1, 9, .inl (nF ro)))] := by
    intro fu
    induction fu with
    | zero => intro b md1 hb hm1 hno hfu; exact absurd hfu (Nat.not_lt_zero _)
    | succ fu ih1 =>
      intro b md1 hb hm1 hno hfu
      have hpl := plc_lt (f := f) (sd := sd) hfr hro b
      have hat := it_lt hW.f5 hsd b
      refine j_iload (q := 18) (i0 := 6) F rfl dX1_soonest_16 rfl ?_
      refine j_bipush (q := 20) (v := nI 99) F (by decide) dX1_soonest_18 rfl ?_
      refine j_icmp_gt (q := 23) (t := 66) F (Pp := 99 < b) (nI_ltI (by omega) (by omega)) dX1_soonest_20 rfl rfl (fun c_n => ?_) (fun c_n => ?_)
      · skip
        refine j_bipush (q := 68) (v := (-9)) F (by decide) dX1_soonest_66 rfl ?_
        exact j_iret (w2 := [(h0, .inr (1, [.ref t0, .ref b0, .int (nI sz), .int (nI mn), .int le, .ref h1])), (h1, .inl (G.2.2.1, 9, .inl (nF fl))), (b0, .inr (0, [.ref t0, .ref b1, .ref b2, .ref b3, .int (nI lz), .int (nI lf), .int (nI ld), .int (nI lg)])), (b1, .inl (G.2.2.1, 9, .inl (nF ne))), (b2, .inl (G.2.2.1, 512, .inl md1)), (b3, .inl (G.2.2.1, 512, .inl se)), (t0, .inr (6, [.int (nI n), .int (nI m), .int (nI t), .ref t1, .ref t2, .ref t3, .ref t4])), (t1, .inl (G.2.2.1, 9, .inl (nF ru))), (t2, .inl (G.2.2.1, 15, .inl (nF la))), (t3, .inl (G.2.2.1, 15, .inl (nF lb))), (t4, .inl (G.2.2.1, 9, .inl (nF ro)))]) F R0 rfl [0, 1, 2, 3, 4, 5, 6, 7, 8, 9, 10] rfl rfl (⟨_, _, hm1, Or.inr ⟨rfl, fun c h => hno c (by omega)⟩, rfl, rfl⟩) dX1_soonest_68
      · skip
        refine j_iload (q := 25) (i0 := 5) F rfl dX1_soonest_23 rfl ?_
        refine j_iload_n (q := 26) (i0 := 3) F rfl dX1_soonest_25 rfl ?_
        refine j_ishr (q := 27) (v := nI ((plc f ro n sd fr b) >>> to)) F (nx_shr (by omega) (by omega)) dX1_soonest_26 rfl ?_
        refine j_iconst (q := 28) (v := nI 1) F (by decide) dX1_soonest_27 rfl ?_
        refine j_iand (q := 29) (v := nI (bitN (plc f ro n sd fr b) to)) F (nx_and _ _) dX1_soonest_28 rfl ?_
        refine j_iconst (q := 30) (v := nI 1) F (by decide) dX1_soonest_29 rfl ?_
        refine j_icmp_ne (q := 33) (t := 36) F (Pp := (plc f ro n sd fr b).testBit to = true) (bit_is1 _ _) dX1_soonest_30 rfl rfl (fun c_b => ?_) (fun c_b => ?_)
        · skip
          refine j_aload_n (q := 37) (i0 := 0) F rfl dX1_soonest_36 rfl ?_
          refine j_get (q := 40) (ci := 1) (q0 := 0) (kf := 1) (v := .ref b0) F inX1 rfl rfl rfl tw_224 rfl rfl dX1_soonest_37 rfl ?_
          refine j_iload (q := 42) (i0 := 4) F rfl dX1_soonest_40 rfl ?_
          refine j_callV (q := 45) (ci := 0) (q0 := 0) (As := [.int (nI (it f b sd))]) (wr := [(h0, .inr (1, [.ref t0, .ref b0, .int (nI sz), .int (nI mn), .int le, .ref h1])), (h1, .inl (G.2.2.1, 9, .inl (nF fl))), (t2, .inl (G.2.2.1, 15, .inl (nF la))), (t3, .inl (G.2.2.1, 15, .inl (nF lb))), (t4, .inl (G.2.2.1, 9, .inl (nF ro)))]) (st := []) F (c_X0_struck G hW hm1 (s := it f b sd) hat) kwX0_struck tw_440 tw_441 tw_553 ⟨Nat.le_of_ble_eq_true rfl, Nat.le_of_ble_eq_true rfl, rfl, rfl, Nat.le_of_ble_eq_true rfl, Nat.le_of_ble_eq_true rfl⟩ [2, 3, 4, 5, 6, 7] [0, 1, 8, 9, 10] rfl rfl rfl rfl rfl rfl rfl rfl rfl (Nat.le_of_ble_eq_true rfl) dX1_soonest_42 rfl ?_
          rintro r_ w_ ⟨md2, hm2, rfl, rfl⟩
          refine j_w (w' := [(h0, .inr (1, [.ref t0, .ref b0, .int (nI sz), .int (nI mn), .int le, .ref h1])), (h1, .inl (G.2.2.1, 9, .inl (nF fl))), (b0, .inr (0, [.ref t0, .ref b1, .ref b2, .ref b3, .int (nI lz), .int (nI lf), .int (nI ld), .int (nI lg)])), (b1, .inl (G.2.2.1, 9, .inl (nF ne))), (b2, .inl (G.2.2.1, 512, .inl md2)), (b3, .inl (G.2.2.1, 512, .inl se)), (t0, .inr (6, [.int (nI n), .int (nI m), .int (nI t), .ref t1, .ref t2, .ref t3, .ref t4])), (t1, .inl (G.2.2.1, 9, .inl (nF ru))), (t2, .inl (G.2.2.1, 15, .inl (nF la))), (t3, .inl (G.2.2.1, 15, .inl (nF lb))), (t4, .inl (G.2.2.1, 9, .inl (nF ro)))]) [0, 1, 5, 6, 7, 8, 9, 10, 2, 3, 4] rfl rfl ?_
          show Jw G X _ 0 0 45 _ [.int (nI (f (it f b sd)))] _
          refine j_istore (q := 47) (lv' := [(4, .int (nI (f (it f b sd)))), (0, .ref h0), (1, .int (nI sd)), (2, .int (nI fr)), (3, .int (nI to)), (5, .int (nI (plc f ro n sd fr b))), (6, .int (nI b))]) F dX1_soonest_45 (by decide) rfl rfl ?_
          refine j_aload_n (q := 48) (i0 := 1) F rfl dX1_soonest_47 rfl ?_
          refine j_iload (q := 50) (i0 := 5) F rfl dX1_soonest_48 rfl ?_
          refine j_callV (q := 53) (ci := 1) (q0 := 0) (As := [.int (nI (plc f ro n sd fr b))]) (wr := [(h1, .inl (G.2.2.1, 9, .inl (nF fl))), (b0, .inr (0, [.ref t0, .ref b1, .ref b2, .ref b3, .int (nI lz), .int (nI lf), .int (nI ld), .int (nI lg)])), (b1, .inl (G.2.2.1, 9, .inl (nF ne))), (b2, .inl (G.2.2.1, 512, .inl md2)), (b3, .inl (G.2.2.1, 512, .inl se)), (t1, .inl (G.2.2.1, 9, .inl (nF ru))), (t2, .inl (G.2.2.1, 15, .inl (nF la))), (t3, .inl (G.2.2.1, 15, .inl (nF lb)))]) (st := []) F (c_X1_withRoads G hW.1 hpl) kwX1_withRoads tw_556 tw_12 tw_554 ⟨Nat.le_of_ble_eq_true rfl, Nat.le_of_ble_eq_true rfl, rfl, rfl, Nat.le_of_ble_eq_true rfl, Nat.le_of_ble_eq_true rfl⟩ [0, 6, 10] [1, 2, 3, 4, 5, 7, 8, 9] rfl rfl rfl rfl rfl rfl rfl rfl rfl (Nat.le_of_ble_eq_true rfl) dX1_soonest_50 rfl ?_
          rintro r_ w_ ⟨rfl, rfl⟩
          refine j_w (w' := [(h0, .inr (1, [.ref t0, .ref b0, .int (nI sz), .int (nI mn), .int le, .ref h1])), (h1, .inl (G.2.2.1, 9, .inl (nF fl))), (b0, .inr (0, [.ref t0, .ref b1, .ref b2, .ref b3, .int (nI lz), .int (nI lf), .int (nI ld), .int (nI lg)])), (b1, .inl (G.2.2.1, 9, .inl (nF ne))), (b2, .inl (G.2.2.1, 512, .inl md2)), (b3, .inl (G.2.2.1, 512, .inl se)), (t0, .inr (6, [.int (nI n), .int (nI m), .int (nI t), .ref t1, .ref t2, .ref t3, .ref t4])), (t1, .inl (G.2.2.1, 9, .inl (nF ru))), (t2, .inl (G.2.2.1, 15, .inl (nF la))), (t3, .inl (G.2.2.1, 15, .inl (nF lb))), (t4, .inl (G.2.2.1, 9, .inl (nF ro)))]) [8, 0, 1, 2, 3, 4, 9, 5, 6, 7, 10] rfl rfl ?_
          show Jw G X _ 0 0 53 _ [.int (nI (wrF ro (plc f ro n sd fr b) n))] _
          refine j_iload (q := 55) (i0 := 0) F rfl dX1_soonest_53 rfl ?_
          refine j_iconst (q := 56) (v := (-1)) F (by decide) dX1_soonest_55 rfl ?_
          refine j_ixor (q := 57) (v := nI ((f (it f b sd)) ^^^ 4294967295)) F (nx_not _) dX1_soonest_56 rfl ?_
          refine j_iand (q := 58) (v := nI ((wrF ro (plc f ro n sd fr b) n) &&& ((f (it f b sd)) ^^^ 4294967295))) F (nx_and _ _) dX1_soonest_57 rfl ?_
          refine j_istore (q := 60) (lv' := [(5, .int (nI ((wrF ro (plc f ro n sd fr b) n) &&& ((f (it f b sd)) ^^^ 4294967295)))), (4, .int (nI (f (it f b sd)))), (0, .ref h0), (1, .int (nI sd)), (2, .int (nI fr)), (3, .int (nI to)), (6, .int (nI b))]) F dX1_soonest_58 (by decide) rfl rfl ?_
          refine j_iinc (q := 63) (i0 := 6) (v := nI (b + 1)) (lv' := [(6, .int (nI (b + 1))), (5, .int (nI ((wrF ro (plc f ro n sd fr b) n) &&& ((f (it f b sd)) ^^^ 4294967295)))), (4, .int (nI (f (it f b sd)))), (0, .ref h0), (1, .int (nI sd)), (2, .int (nI fr)), (3, .int (nI to))]) F dX1_soonest_60 rfl (nI_add _ _) (by decide) rfl rfl ?_
          refine j_goto (t := 16) F dX1_soonest_63 rfl ?_
          refine j_lv [3, 4, 5, 6, 2, 1, 0] (lv' := [(0, .ref h0), (1, .int (nI sd)), (2, .int (nI fr)), (3, .int (nI to)), (4, .int (nI (f (it f b sd)))), (5, .int (nI ((wrF ro (plc f ro n sd fr b) n) &&& ((f (it f b sd)) ^^^ 4294967295)))), (6, .int (nI (b + 1)))]) rfl ?_
          exact ih1 (b + 1) md2 (by omega) hm2 (fun c h => by rcases (show c < b ∨ c = b by omega) with z | z; exact hno c z; subst z; exact tbF c_b) (by omega)
        · skip
          refine j_iload (q := 35) (i0 := 6) F rfl dX1_soonest_33 rfl ?_
          exact j_iret (w2 := [(h0, .inr (1, [.ref t0, .ref b0, .int (nI sz), .int (nI mn), .int le, .ref h1])), (h1, .inl (G.2.2.1, 9, .inl (nF fl))), (b0, .inr (0, [.ref t0, .ref b1, .ref b2, .ref b3, .int (nI lz), .int (nI lf), .int (nI ld), .int (nI lg)])), (b1, .inl (G.2.2.1, 9, .inl (nF ne))), (b2, .inl (G.2.2.1, 512, .inl md1)), (b3, .inl (G.2.2.1, 512, .inl se)), (t0, .inr (6, [.int (nI n), .int (nI m), .int (nI t), .ref t1, .ref t2, .ref t3, .ref t4])), (t1, .inl (G.2.2.1, 9, .inl (nF ru))), (t2, .inl (G.2.2.1, 15, .inl (nF la))), (t3, .inl (G.2.2.1, 15, .inl (nF lb))), (t4, .inl (G.2.2.1, 9, .inl (nF ro)))]) F R0 rfl [0, 1, 2, 3, 4, 5, 6, 7, 8, 9, 10] rfl rfl (⟨_, _, hm1, Or.inl ⟨b, by omega, rfl, c_b, hno⟩, rfl, rfl⟩) dX1_soonest_35
  refine j_lv [3, 4, 5, 6, 2, 1, 0] (lv' := [(0, .ref h0), (1, .int (nI sd)), (2, .int (nI fr)), (3, .int (nI to)), (4, .int (nI sd)), (5, .int (nI ((2 ^ fr) &&& (sd ^^^ 4294967295)))), (6, .int (nI 0))]) rfl ?_
  exact lp1 _ 0 md (by omega) hm (fun c h => absurd h (Nat.not_lt_zero c)) (Nat.lt_succ_self _)

set_option maxHeartbeats 4000000 in
set_option maxRecDepth 100000 in
theorem c_X1_countFlickers (G : Gm) {h0 h1 b0 b1 b2 b3 t0 t1 t2 t3 t4 n m t lz lf ld lg sz mn : Nat} {le : Int32} {ru la lb ro ne f fl : Nat → Nat} {md se : Nat → Int32} {sd k : Nat} (hW : Wk n ru ne f) (hm : MdOk f md) (hsd : sd < 512) (hk : k ≤ 1000) : Mg G yX1_countFlickers cX1_countFlickers 7 none ({ frames := 4, cells := 0, slots := 0, locals := 90 } : Room) 0 0 [.ref h0, .int (nI sd), .int (nI k)] [(h0, .inr (1, [.ref t0, .ref b0, .int (nI sz), .int (nI mn), .int le, .ref h1])), (h1, .inl (G.2.2.1, 9, .inl (nF fl))), (b0, .inr (0, [.ref t0, .ref b1, .ref b2, .ref b3, .int (nI lz), .int (nI lf), .int (nI ld), .int (nI lg)])), (b1, .inl (G.2.2.1, 9, .inl (nF ne))), (b2, .inl (G.2.2.1, 512, .inl md)), (b3, .inl (G.2.2.1, 512, .inl se)), (t0, .inr (6, [.int (nI n), .int (nI m), .int (nI t), .ref t1, .ref t2, .ref t3, .ref t4])), (t1, .inl (G.2.2.1, 9, .inl (nF ru))), (t2, .inl (G.2.2.1, 15, .inl (nF la))), (t3, .inl (G.2.2.1, 15, .inl (nF lb))), (t4, .inl (G.2.2.1, 9, .inl (nF ro)))] (fun r w2 => ∃ fl2 md2, MdOk f md2 ∧ (∀ j, j < n → fl2 j = flk f sd k j) ∧ r = none ∧ w2 = [(h0, .inr (1, [.ref t0, .ref b0, .int (nI sz), .int (nI mn), .int le, .ref h1])), (h1, .inl (G.2.2.1, 9, .inl (nF fl2))), (b0, .inr (0, [.ref t0, .ref b1, .ref b2, .ref b3, .int (nI lz), .int (nI lf), .int (nI ld), .int (nI lg)])), (b1, .inl (G.2.2.1, 9, .inl (nF ne))), (b2, .inl (G.2.2.1, 512, .inl md2)), (b3, .inl (G.2.2.1, 512, .inl se)), (t0, .inr (6, [.int (nI n), .int (nI m), .int (nI t), .ref t1, .ref t2, .ref t3, .ref t4])), (t1, .inl (G.2.2.1, 9, .inl (nF ru))), (t2, .inl (G.2.2.1, 15, .inl (nF la))), (t3, .inl (G.2.2.1, 15, .inl (nF lb))), (t4, .inl (G.2.2.1, 9, .inl (nF ro)))]) := by
  have hn := hW.1
  refine Mg.mk (lv := [(0, .ref h0), (1, .int (nI sd)), (2, .int (nI k))]) (by decide) rfl rfl (fun X F R0 => ?_)
  refine j_aload_n (q := 1) (i0 := 0) F rfl dX1_countFlickers_0 rfl ?_
  refine j_get (q := 4) (ci := 1) (q0 := 0) (kf := 5) (v := .ref h1) F inX1 rfl rfl rfl tw_231 rfl rfl dX1_countFlickers_1 rfl ?_
  refine j_iconst (q := 5) (v := nI 0) F (by decide) dX1_countFlickers_4 rfl ?_
  refine j_callS (q := 8) (As := [.ref h1, .int (nI 0)]) (wr := [(h0, .inr (1, [.ref t0, .ref b0, .int (nI sz), .int (nI mn), .int le, .ref h1])), (b0, .inr (0, [.ref t0, .ref b1, .ref b2, .ref b3, .int (nI lz), .int (nI lf), .int (nI ld), .int (nI lg)])), (b1, .inl (G.2.2.1, 9, .inl (nF ne))), (b2, .inl (G.2.2.1, 512, .inl md)), (b3, .inl (G.2.2.1, 512, .inl se)), (t0, .inr (6, [.int (nI n), .int (nI m), .int (nI t), .ref t1, .ref t2, .ref t3, .ref t4])), (t1, .inl (G.2.2.1, 9, .inl (nF ru))), (t2, .inl (G.2.2.1, 15, .inl (nF la))), (t3, .inl (G.2.2.1, 15, .inl (nF lb))), (t4, .inl (G.2.2.1, 9, .inl (nF ro)))]) (st := []) F (c_fillN G (f := fl) (v := 0) rfl) kwJ7_fill_53178 tw_319 tw_588 ⟨Nat.le_of_ble_eq_true rfl, Nat.le_of_ble_eq_true rfl, rfl, rfl, Nat.le_of_ble_eq_true rfl, Nat.le_of_ble_eq_true rfl⟩ [1] [0, 2, 3, 4, 5, 6, 7, 8, 9, 10] rfl rfl rfl rfl rfl rfl rfl (Nat.le_of_ble_eq_true rfl) dX1_countFlickers_5 rfl ?_
  rintro r_ w_ ⟨rfl, rfl⟩
  refine j_w (w' := [(h0, .inr (1, [.ref t0, .ref b0, .int (nI sz), .int (nI mn), .int le, .ref h1])), (h1, .inl (G.2.2.1, 9, .inl (nF (fillN fl 0 9)))), (b0, .inr (0, [.ref t0, .ref b1, .ref b2, .ref b3, .int (nI lz), .int (nI lf), .int (nI ld), .int (nI lg)])), (b1, .inl (G.2.2.1, 9, .inl (nF ne))), (b2, .inl (G.2.2.1, 512, .inl md)), (b3, .inl (G.2.2.1, 512, .inl se)), (t0, .inr (6, [.int (nI n), .int (nI m), .int (nI t), .ref t1, .ref t2, .ref t3, .ref t4])), (t1, .inl (G.2.2.1, 9, .inl (nF ru))), (t2, .inl (G.2.2.1, 15, .inl (nF la))), (t3, .inl (G.2.2.1, 15, .inl (nF lb))), (t4, .inl (G.2.2.1, 9, .inl (nF ro)))]) [0, 10, 1, 2, 3, 4, 5, 6, 7, 8, 9] rfl rfl ?_
  show Jw G X _ 0 0 8 _ [] _
  refine j_iload_n (q := 9) (i0 := 1) F rfl dX1_countFlickers_8 rfl ?_
  refine j_istore_n (q := 10) (lv' := [(3, .int (nI sd)), (0, .ref h0), (1, .int (nI sd)), (2, .int (nI k))]) F dX1_countFlickers_9 (by decide) rfl rfl ?_
  refine j_iconst (q := 11) (v := nI 0) F (by decide) dX1_countFlickers_10 rfl ?_
  refine j_istore (q := 13) (lv' := [(4, .int (nI 0)), (3, .int (nI sd)), (0, .ref h0), (1, .int (nI sd)), (2, .int (nI k))]) F dX1_countFlickers_11 (by decide) rfl rfl ?_
  have lp1 : ∀ (fu : Nat) (b : Nat) (md1 : Nat → Int32) (fl1 : Nat → Nat) (hb : b ≤ k) (hm1 : MdOk f md1) (hfl : ∀ j, j < n → fl1 j = flk f sd b j), (k - b) < fu → Jw G X 7 0 0 13 [(0, .ref h0), (1, .int (nI sd)), (2, .int (nI k)), (3, .int (nI (it f b sd))), (4, .int (nI b))] [] [(h0, .inr (1, [.ref t0, .ref b0, .int (nI sz), .int (nI mn), .int le, .ref h1])), (h1, .inl (G.2.2.1, 9, .inl (nF fl1))), (b0, .inr (0, [.ref t0, .ref b1, .ref b2, .ref b3, .int (nI lz), .int (nI lf), .int (nI ld), .int (nI lg)])), (b1, .inl (G.2.2.1, 9, .inl (nF ne))), (b2, .inl (G.2.2.1, 512, .inl md1)), (b3, .inl (G.2.2.1, 512, .inl se)), (t0, .inr (6, [.int (nI n), .int (nI m), .int (nI t), .ref t1, .ref t2, .ref t3, .ref t4])), (t1, .inl (G.2.2.1, 9, .inl (nF ru))), (t2, .inl (G.2.2.1, 15, .inl (nF la))), (t3, .inl (G.2.2.1, 15, .inl (nF lb))), (t4, .inl (G.2.2.1, 9, .inl (nF ro)))] := by
    intro fu
    induction fu with
    | zero => intro b md1 fl1 hb hm1 hfl hfu; exact absurd hfu (Nat.not_lt_zero _)
    | succ fu ih1 =>
      intro b md1 fl1 hb hm1 hfl hfu
      have hat := it_lt hW.f5 hsd b
      have hat2 := it_lt hW.f5 hsd (b + 1)
      refine j_iload (q := 15) (i0 := 4) F rfl dX1_countFlickers_13 rfl ?_
      refine j_iload_n (q := 16) (i0 := 2) F rfl dX1_countFlickers_15 rfl ?_
      refine j_icmp_ge (q := 19) (t := 78) F (Pp := k ≤ b) (nI_leI (by omega) (by omega)) dX1_countFlickers_16 rfl rfl (fun c2 => ?_) (fun c2 => ?_)
      · skip
        exact j_vret (w2 := [(h0, .inr (1, [.ref t0, .ref b0, .int (nI sz), .int (nI mn), .int le, .ref h1])), (h1, .inl (G.2.2.1, 9, .inl (nF fl1))), (b0, .inr (0, [.ref t0, .ref b1, .ref b2, .ref b3, .int (nI lz), .int (nI lf), .int (nI ld), .int (nI lg)])), (b1, .inl (G.2.2.1, 9, .inl (nF ne))), (b2, .inl (G.2.2.1, 512, .inl md1)), (b3, .inl (G.2.2.1, 512, .inl se)), (t0, .inr (6, [.int (nI n), .int (nI m), .int (nI t), .ref t1, .ref t2, .ref t3, .ref t4])), (t1, .inl (G.2.2.1, 9, .inl (nF ru))), (t2, .inl (G.2.2.1, 15, .inl (nF la))), (t3, .inl (G.2.2.1, 15, .inl (nF lb))), (t4, .inl (G.2.2.1, 9, .inl (nF ro)))]) F R0 rfl [0, 1, 2, 3, 4, 5, 6, 7, 8, 9, 10] rfl rfl (⟨_, _, hm1, by rw [show k = b by omega]; exact hfl, rfl, rfl⟩) dX1_countFlickers_78
      · skip
        refine j_aload_n (q := 20) (i0 := 0) F rfl dX1_countFlickers_19 rfl ?_
        refine j_get (q := 23) (ci := 1) (q0 := 0) (kf := 1) (v := .ref b0) F inX1 rfl rfl rfl tw_224 rfl rfl dX1_countFlickers_20 rfl ?_
        refine j_iload_n (q := 24) (i0 := 3) F rfl dX1_countFlickers_23 rfl ?_
        refine j_callV (q := 27) (ci := 0) (q0 := 0) (As := [.int (nI (it f b sd))]) (wr := [(h0, .inr (1, [.ref t0, .ref b0, .int (nI sz), .int (nI mn), .int le, .ref h1])), (h1, .inl (G.2.2.1, 9, .inl (nF fl1))), (t2, .inl (G.2.2.1, 15, .inl (nF la))), (t3, .inl (G.2.2.1, 15, .inl (nF lb))), (t4, .inl (G.2.2.1, 9, .inl (nF ro)))]) (st := []) F (c_X0_struck G hW hm1 (s := it f b sd) hat) kwX0_struck tw_440 tw_441 tw_553 ⟨Nat.le_of_ble_eq_true rfl, Nat.le_of_ble_eq_true rfl, rfl, rfl, Nat.le_of_ble_eq_true rfl, Nat.le_of_ble_eq_true rfl⟩ [2, 3, 4, 5, 6, 7] [0, 1, 8, 9, 10] rfl rfl rfl rfl rfl rfl rfl rfl rfl (Nat.le_of_ble_eq_true rfl) dX1_countFlickers_24 rfl ?_
        rintro r_ w_ ⟨md2, hm2, rfl, rfl⟩
        refine j_w (w' := [(h0, .inr (1, [.ref t0, .ref b0, .int (nI sz), .int (nI mn), .int le, .ref h1])), (h1, .inl (G.2.2.1, 9, .inl (nF fl1))), (b0, .inr (0, [.ref t0, .ref b1, .ref b2, .ref b3, .int (nI lz), .int (nI lf), .int (nI ld), .int (nI lg)])), (b1, .inl (G.2.2.1, 9, .inl (nF ne))), (b2, .inl (G.2.2.1, 512, .inl md2)), (b3, .inl (G.2.2.1, 512, .inl se)), (t0, .inr (6, [.int (nI n), .int (nI m), .int (nI t), .ref t1, .ref t2, .ref t3, .ref t4])), (t1, .inl (G.2.2.1, 9, .inl (nF ru))), (t2, .inl (G.2.2.1, 15, .inl (nF la))), (t3, .inl (G.2.2.1, 15, .inl (nF lb))), (t4, .inl (G.2.2.1, 9, .inl (nF ro)))]) [0, 1, 5, 6, 7, 8, 9, 10, 2, 3, 4] rfl rfl ?_
        show Jw G X _ 0 0 27 _ [.int (nI (f (it f b sd)))] _
        refine j_istore (q := 29) (lv' := [(5, .int (nI (f (it f b sd)))), (0, .ref h0), (1, .int (nI sd)), (2, .int (nI k)), (3, .int (nI (it f b sd))), (4, .int (nI b))]) F dX1_countFlickers_27 (by decide) rfl rfl ?_
        refine j_iconst (q := 30) (v := nI 0) F (by decide) dX1_countFlickers_29 rfl ?_
        refine j_istore (q := 32) (lv' := [(6, .int (nI 0)), (5, .int (nI (f (it f b sd)))), (0, .ref h0), (1, .int (nI sd)), (2, .int (nI k)), (3, .int (nI (it f b sd))), (4, .int (nI b))]) F dX1_countFlickers_30 (by decide) rfl rfl ?_
        have lp3 : ∀ (fu : Nat) (l : Nat) (fl2 : Nat → Nat) (hl : l ≤ n) (hfa : ∀ j, j < l → fl2 j = flk f sd (b + 1) j) (hfb : ∀ j, l ≤ j → j < n → fl2 j = flk f sd b j), (n - l) < fu → Jw G X 7 0 0 32 [(0, .ref h0), (1, .int (nI sd)), (2, .int (nI k)), (3, .int (nI (it f b sd))), (4, .int (nI b)), (5, .int (nI (f (it f b sd)))), (6, .int (nI l))] [] [(h0, .inr (1, [.ref t0, .ref b0, .int (nI sz), .int (nI mn), .int le, .ref h1])), (h1, .inl (G.2.2.1, 9, .inl (nF fl2))), (b0, .inr (0, [.ref t0, .ref b1, .ref b2, .ref b3, .int (nI lz), .int (nI lf), .int (nI ld), .int (nI lg)])), (b1, .inl (G.2.2.1, 9, .inl (nF ne))), (b2, .inl (G.2.2.1, 512, .inl md2)), (b3, .inl (G.2.2.1, 512, .inl se)), (t0, .inr (6, [.int (nI n), .int (nI m), .int (nI t), .ref t1, .ref t2, .ref t3, .ref t4])), (t1, .inl (G.2.2.1, 9, .inl (nF ru))), (t2, .inl (G.2.2.1, 15, .inl (nF la))), (t3, .inl (G.2.2.1, 15, .inl (nF lb))), (t4, .inl (G.2.2.1, 9, .inl (nF ro)))] := by
          intro fu
          induction fu with
          | zero => intro l fl2 hl hfa hfb hfu; exact absurd hfu (Nat.not_lt_zero _)
          | succ fu ih3 =>
            intro l fl2 hl hfa hfb hfu
            refine j_iload (q := 34) (i0 := 6) F rfl dX1_countFlickers_32 rfl ?_
            refine j_aload_n (q := 35) (i0 := 0) F rfl dX1_countFlickers_34 rfl ?_
            refine j_get (q := 38) (ci := 1) (q0 := 0) (kf := 0) (v := .ref t0) F inX1 rfl rfl rfl tw_223 rfl rfl dX1_countFlickers_35 rfl ?_
            refine j_get (q := 41) (ci := 6) (q0 := 6) (kf := 0) (v := .int (nI n)) F inX6 rfl rfl rfl tw_91 rfl rfl dX1_countFlickers_38 rfl ?_
            refine j_icmp_ge (q := 44) (t := 69) F (Pp := n ≤ l) (nI_leI (by omega) (by omega)) dX1_countFlickers_41 rfl rfl (fun c4 => ?_) (fun c4 => ?_)
            · skip
              refine j_iload (q := 71) (i0 := 5) F rfl dX1_countFlickers_69 rfl ?_
              refine j_istore_n (q := 72) (lv' := [(3, .int (nI (f (it f b sd)))), (0, .ref h0), (1, .int (nI sd)), (2, .int (nI k)), (4, .int (nI b)), (5, .int (nI (f (it f b sd)))), (6, .int (nI l))]) F dX1_countFlickers_71 (by decide) rfl rfl ?_
              refine j_iinc (q := 75) (i0 := 4) (v := nI (b + 1)) (lv' := [(4, .int (nI (b + 1))), (3, .int (nI (f (it f b sd)))), (0, .ref h0), (1, .int (nI sd)), (2, .int (nI k)), (5, .int (nI (f (it f b sd)))), (6, .int (nI l))]) F dX1_countFlickers_72 rfl (nI_add _ _) (by decide) rfl rfl ?_
              refine j_goto (t := 13) F dX1_countFlickers_75 rfl ?_
              refine j_lv [2, 3, 4, 1, 0] (lv' := [(0, .ref h0), (1, .int (nI sd)), (2, .int (nI k)), (3, .int (nI (f (it f b sd)))), (4, .int (nI (b + 1)))]) rfl ?_
              exact ih1 (b + 1) md2 fl2 (by omega) hm2 (fun j hj => hfa j (by omega)) (by omega)
            · skip
              have hx : it f b sd ^^^ f (it f b sd) < 2 ^ 9 := Nat.xor_lt_two_pow hat hat2
              refine j_aload_n (q := 45) (i0 := 0) F rfl dX1_countFlickers_44 rfl ?_
              refine j_get (q := 48) (ci := 1) (q0 := 0) (kf := 5) (v := .ref h1) F inX1 rfl rfl rfl tw_231 rfl rfl dX1_countFlickers_45 rfl ?_
              refine j_iload (q := 50) (i0 := 6) F rfl dX1_countFlickers_48 rfl ?_
              refine j_dup2 (q := 51) F rfl rfl dX1_countFlickers_50 rfl ?_
              refine j_iald (q := 52) (q0 := 1) (i := l) (v := nI (fl2 l)) F rfl rfl (by omega) rfl (rfl) dX1_countFlickers_51 rfl ?_
              refine j_iload_n (q := 53) (i0 := 3) F rfl dX1_countFlickers_52 rfl ?_
              refine j_iload (q := 55) (i0 := 5) F rfl dX1_countFlickers_53 rfl ?_
              refine j_ixor (q := 56) (v := nI ((it f b sd) ^^^ (f (it f b sd)))) F (nx_xor _ _) dX1_countFlickers_55 rfl ?_
              refine j_iload (q := 58) (i0 := 6) F rfl dX1_countFlickers_56 rfl ?_
              refine j_ishr (q := 59) (v := nI (((it f b sd) ^^^ (f (it f b sd))) >>> l)) F (nx_shr (by omega) (by omega)) dX1_countFlickers_58 rfl ?_
              refine j_iconst (q := 60) (v := nI 1) F (by decide) dX1_countFlickers_59 rfl ?_
              refine j_iand (q := 61) (v := nI (bitN ((it f b sd) ^^^ (f (it f b sd))) l)) F (nx_and _ _) dX1_countFlickers_60 rfl ?_
              refine j_iadd (q := 62) (v := nI ((fl2 l) + (bitN ((it f b sd) ^^^ (f (it f b sd))) l))) F (nI_add _ _) dX1_countFlickers_61 rfl ?_
              refine j_iast (q := 63) (q0 := 1) (i := l) (f2 := nF (va_up fl2 l ((fl2 l) + (bitN ((it f b sd) ^^^ (f (it f b sd))) l)))) (w' := [(h0, .inr (1, [.ref t0, .ref b0, .int (nI sz), .int (nI mn), .int le, .ref h1])), (h1, .inl (G.2.2.1, 9, .inl (nF (va_up fl2 l ((fl2 l) + (bitN ((it f b sd) ^^^ (f (it f b sd))) l)))))), (b0, .inr (0, [.ref t0, .ref b1, .ref b2, .ref b3, .int (nI lz), .int (nI lf), .int (nI ld), .int (nI lg)])), (b1, .inl (G.2.2.1, 9, .inl (nF ne))), (b2, .inl (G.2.2.1, 512, .inl md2)), (b3, .inl (G.2.2.1, 512, .inl se)), (t0, .inr (6, [.int (nI n), .int (nI m), .int (nI t), .ref t1, .ref t2, .ref t3, .ref t4])), (t1, .inl (G.2.2.1, 9, .inl (nF ru))), (t2, .inl (G.2.2.1, 15, .inl (nF la))), (t3, .inl (G.2.2.1, 15, .inl (nF lb))), (t4, .inl (G.2.2.1, 9, .inl (nF ro)))]) F rfl rfl (by omega) rfl (nF_up _ _ _) rfl dX1_countFlickers_62 rfl ?_
              refine j_iinc (q := 66) (i0 := 6) (v := nI (l + 1)) (lv' := [(6, .int (nI (l + 1))), (0, .ref h0), (1, .int (nI sd)), (2, .int (nI k)), (3, .int (nI (it f b sd))), (4, .int (nI b)), (5, .int (nI (f (it f b sd))))]) F dX1_countFlickers_63 rfl (nI_add _ _) (by decide) rfl rfl ?_
              refine j_goto (t := 32) F dX1_countFlickers_66 rfl ?_
              refine j_lv [1, 2, 3, 4, 5, 6, 0] (lv' := [(0, .ref h0), (1, .int (nI sd)), (2, .int (nI k)), (3, .int (nI (it f b sd))), (4, .int (nI b)), (5, .int (nI (f (it f b sd)))), (6, .int (nI (l + 1)))]) rfl ?_
              exact ih3 (l + 1) _ (by omega) (fun j hj => by rcases (show j < l ∨ j = l by omega) with z | z; rw [up_n _ _ (by omega)]; exact hfa j z; subst z; rw [up_s, hfb j (Nat.le_refl j) (by omega)]; rfl) (fun j h1 h2 => by rw [up_n _ _ (by omega)]; exact hfb j (by omega) h2) (by omega)
        refine j_lv [2, 3, 4, 5, 6, 1, 0] (lv' := [(0, .ref h0), (1, .int (nI sd)), (2, .int (nI k)), (3, .int (nI (it f b sd))), (4, .int (nI b)), (5, .int (nI (f (it f b sd)))), (6, .int (nI 0))]) rfl ?_
        exact lp3 _ 0 fl1 (Nat.zero_le _) (fun j h => absurd h (Nat.not_lt_zero j)) (fun j _ h => hfl j h) (Nat.lt_succ_self _)
  refine j_lv [2, 3, 4, 1, 0] (lv' := [(0, .ref h0), (1, .int (nI sd)), (2, .int (nI k)), (3, .int (nI sd)), (4, .int (nI 0))]) rfl ?_
  exact lp1 _ 0 md _ (Nat.zero_le _) hm (fun j hj => if_pos (by omega)) (Nat.lt_succ_self _)

set_option maxHeartbeats 4000000 in
set_option maxRecDepth 100000 in
theorem c_X1_mostFlickering (G : Gm) {h0 h1 b0 t0 t1 t2 t3 t4 n m t sz mn : Nat} {le : Int32} {fl : Nat → Nat} (hn : n ≤ 9) (hfl : ∀ j, j < n → fl j < 100000) : Mg G yX1_mostFlickering cX1_mostFlickering 3 (some .int) ({ frames := 0, cells := 0, slots := 0, locals := 0 } : Room) 0 0 [.ref h0] [(h0, .inr (1, [.ref t0, .ref b0, .int (nI sz), .int (nI mn), .int le, .ref h1])), (h1, .inl (G.2.2.1, 9, .inl (nF fl))), (t0, .inr (6, [.int (nI n), .int (nI m), .int (nI t), .ref t1, .ref t2, .ref t3, .ref t4]))] (fun r w2 => w2 = [(h0, .inr (1, [.ref t0, .ref b0, .int (nI sz), .int (nI mn), .int le, .ref h1])), (h1, .inl (G.2.2.1, 9, .inl (nF fl))), (t0, .inr (6, [.int (nI n), .int (nI m), .int (nI t), .ref t1, .ref t2, .ref t3, .ref t4]))] ∧ r = some (.int (mfl fl n))) := by
  refine Mg.mk (lv := [(0, .ref h0)]) (by decide) rfl rfl (fun X F R0 => ?_)
  refine j_bipush (q := 2) (v := (-9)) F (by decide) dX1_mostFlickering_0 rfl ?_
  refine j_istore_n (q := 3) (lv' := [(1, .int (-9)), (0, .ref h0)]) F dX1_mostFlickering_2 (by decide) rfl rfl ?_
  refine j_iconst (q := 4) (v := nI 0) F (by decide) dX1_mostFlickering_3 rfl ?_
  refine j_istore_n (q := 5) (lv' := [(2, .int (nI 0)), (1, .int (-9)), (0, .ref h0)]) F dX1_mostFlickering_4 (by decide) rfl rfl ?_
  have lp1 : ∀ (fu : Nat) (l : Nat) (hl : l ≤ n), (n - l) < fu → Jw G X 3 0 0 5 [(0, .ref h0), (1, .int (mfl fl l)), (2, .int (nI l))] [] [(h0, .inr (1, [.ref t0, .ref b0, .int (nI sz), .int (nI mn), .int le, .ref h1])), (h1, .inl (G.2.2.1, 9, .inl (nF fl))), (t0, .inr (6, [.int (nI n), .int (nI m), .int (nI t), .ref t1, .ref t2, .ref t3, .ref t4]))] := by
    intro fu
    induction fu with
    | zero => intro l hl hfu; exact absurd hfu (Nat.not_lt_zero _)
    | succ fu ih1 =>
      intro l hl hfu
      refine j_iload_n (q := 6) (i0 := 2) F rfl dX1_mostFlickering_5 rfl ?_
      refine j_aload_n (q := 7) (i0 := 0) F rfl dX1_mostFlickering_6 rfl ?_
      refine j_get (q := 10) (ci := 1) (q0 := 0) (kf := 0) (v := .ref t0) F inX1 rfl rfl rfl tw_223 rfl rfl dX1_mostFlickering_7 rfl ?_
      refine j_get (q := 13) (ci := 6) (q0 := 2) (kf := 0) (v := .int (nI n)) F inX6 rfl rfl rfl tw_91 rfl rfl dX1_mostFlickering_10 rfl ?_
      refine j_icmp_ge (q := 16) (t := 43) F (Pp := n ≤ l) (nI_leI (by omega) (by omega)) dX1_mostFlickering_13 rfl rfl (fun c2 => ?_) (fun c2 => ?_)
      · skip
        refine j_iload_n (q := 44) (i0 := 1) F rfl dX1_mostFlickering_43 rfl ?_
        exact j_iret (w2 := [(h0, .inr (1, [.ref t0, .ref b0, .int (nI sz), .int (nI mn), .int le, .ref h1])), (h1, .inl (G.2.2.1, 9, .inl (nF fl))), (t0, .inr (6, [.int (nI n), .int (nI m), .int (nI t), .ref t1, .ref t2, .ref t3, .ref t4]))]) F R0 rfl [0, 1, 2] rfl rfl (by rw [show l = n by omega]; exact ⟨rfl, rfl⟩) dX1_mostFlickering_44
      · skip
        refine j_iload_n (q := 17) (i0 := 1) F rfl dX1_mostFlickering_16 rfl ?_
        refine j_if_lt (q := 20) (t := 35) F (Pp := l = 0) (mfl_neg (by omega)) dX1_mostFlickering_17 rfl rfl (fun c_z => ?_) (fun c_z => ?_)
        · skip
          refine j_iload_n (q := 36) (i0 := 2) F rfl dX1_mostFlickering_35 rfl ?_
          refine j_istore_n (q := 37) (lv' := [(1, .int (nI l)), (0, .ref h0), (2, .int (nI l))]) F dX1_mostFlickering_36 (by decide) rfl rfl ?_
          refine j_iinc (q := 40) (i0 := 2) (v := nI (l + 1)) (lv' := [(2, .int (nI (l + 1))), (1, .int (nI l)), (0, .ref h0)]) F dX1_mostFlickering_37 rfl (nI_add _ _) (by decide) rfl rfl ?_
          refine j_goto (t := 5) F dX1_mostFlickering_40 rfl ?_
          refine sb_at (P := fun z => Jw G X _ _ _ _ [_, (1, .int z), _] _ _) (mfl_s0 (g := fl) c_z) ?_
          refine j_lv [2, 1, 0] (lv' := [(0, .ref h0), (1, .int (mfl fl (l + 1))), (2, .int (nI (l + 1)))]) rfl ?_
          exact ih1 (l + 1) (by omega) (by omega)
        · skip
          rw [mfl_ne c_z]
          have hal := amx_lt fl l (by omega)
          have hb1 := hfl l (by omega)
          have hb2 := hfl (amx fl l) (by omega)
          refine j_aload_n (q := 21) (i0 := 0) F rfl dX1_mostFlickering_20 rfl ?_
          refine j_get (q := 24) (ci := 1) (q0 := 0) (kf := 5) (v := .ref h1) F inX1 rfl rfl rfl tw_231 rfl rfl dX1_mostFlickering_21 rfl ?_
          refine j_iload_n (q := 25) (i0 := 2) F rfl dX1_mostFlickering_24 rfl ?_
          refine j_iald (q := 26) (q0 := 1) (i := l) (v := nI (fl l)) F rfl rfl (by omega) rfl (rfl) dX1_mostFlickering_25 rfl ?_
          refine j_aload_n (q := 27) (i0 := 0) F rfl dX1_mostFlickering_26 rfl ?_
          refine j_get (q := 30) (ci := 1) (q0 := 0) (kf := 5) (v := .ref h1) F inX1 rfl rfl rfl tw_231 rfl rfl dX1_mostFlickering_27 rfl ?_
          refine j_iload_n (q := 31) (i0 := 1) F rfl dX1_mostFlickering_30 rfl ?_
          refine j_iald (q := 32) (q0 := 1) (i := (amx fl l)) (v := nI (fl (amx fl l))) F rfl rfl (by omega) rfl (rfl) dX1_mostFlickering_31 rfl ?_
          refine j_icmp_le (q := 35) (t := 37) F (Pp := fl l ≤ fl (amx fl l)) (nI_leI (by omega) (by omega)) dX1_mostFlickering_32 rfl rfl (fun c_g => ?_) (fun c_g => ?_)
          · skip
            refine j_iinc (q := 40) (i0 := 2) (v := nI (l + 1)) (lv' := [(2, .int (nI (l + 1))), (0, .ref h0), (1, .int (nI (amx fl l)))]) F dX1_mostFlickering_37 rfl (nI_add _ _) (by decide) rfl rfl ?_
            refine j_goto (t := 5) F dX1_mostFlickering_40 rfl ?_
            rw [mfl_st c_z (by omega)]
            refine j_lv [1, 2, 0] (lv' := [(0, .ref h0), (1, .int (mfl fl (l + 1))), (2, .int (nI (l + 1)))]) rfl ?_
            exact ih1 (l + 1) (by omega) (by omega)
          · skip
            refine j_iload_n (q := 36) (i0 := 2) F rfl dX1_mostFlickering_35 rfl ?_
            refine j_istore_n (q := 37) (lv' := [(1, .int (nI l)), (0, .ref h0), (2, .int (nI l))]) F dX1_mostFlickering_36 (by decide) rfl rfl ?_
            refine j_iinc (q := 40) (i0 := 2) (v := nI (l + 1)) (lv' := [(2, .int (nI (l + 1))), (1, .int (nI l)), (0, .ref h0)]) F dX1_mostFlickering_37 rfl (nI_add _ _) (by decide) rfl rfl ?_
            refine j_goto (t := 5) F dX1_mostFlickering_40 rfl ?_
            refine sb_at (P := fun z => Jw G X _ _ _ _ [_, (1, .int z), _] _ _) (mfl_up (g := fl) c_z (by omega)) ?_
            refine j_lv [2, 1, 0] (lv' := [(0, .ref h0), (1, .int (mfl fl (l + 1))), (2, .int (nI (l + 1)))]) rfl ?_
            exact ih1 (l + 1) (by omega) (by omega)
  refine j_lv [2, 1, 0] (lv' := [(0, .ref h0), (1, .int (-9)), (2, .int (nI 0))]) rfl ?_
  exact lp1 _ 0 (Nat.zero_le _) (Nat.lt_succ_self _)

set_option maxHeartbeats 4000000 in
set_option maxRecDepth 100000 in
theorem c_X2_asLamp (G : Gm) {k0 p0 p1 t0 t1 t2 t3 t4 n m t be sd tu fo kn l : Nat} {tr : Int64} {ru ro : Nat → Nat} (hl : l < 9) (hsd : sd < 512) (hro : ro l < 512) : Mg G yX2_asLamp cX2_asLamp 2 (some .int) ({ frames := 0, cells := 0, slots := 0, locals := 0 } : Room) 0 0 [.ref k0, .int (nI l)] [(k0, .inr (2, [.ref t0, .ref p0, .long tr])), (p0, .inr (3, [.int (nI be), .int (nI sd), .int (nI tu), .int (nI fo), .int (nI kn), .ref p1])), (t0, .inr (6, [.int (nI n), .int (nI m), .int (nI t), .ref t1, .ref t2, .ref t3, .ref t4])), (t1, .inl (G.2.2.1, 9, .inl (nF ru))), (t4, .inl (G.2.2.1, 9, .inl (nF ro)))] (fun r w2 => r = some (.int (nI (bitN sd l))) ∧ w2 = [(k0, .inr (2, [.ref t0, .ref p0, .long (tr + 1)])), (p0, .inr (3, [.int (nI be), .int (nI sd), .int (nI tu), .int (nI fo), .int (nI kn), .ref p1])), (t0, .inr (6, [.int (nI n), .int (nI m), .int (nI t), .ref t1, .ref t2, .ref t3, .ref t4])), (t1, .inl (G.2.2.1, 9, .inl (nF ru))), (t4, .inl (G.2.2.1, 9, .inl (nF ro)))]) := by
  refine Mg.mk (lv := [(0, .ref k0), (1, .int (nI l))]) (by decide) rfl rfl (fun X F R0 => ?_)
  refine j_aload_n (q := 1) (i0 := 0) F rfl dX2_asLamp_0 rfl ?_
  refine j_dup (q := 2) F rfl dX2_asLamp_1 rfl ?_
  refine j_get (q := 5) (ci := 2) (q0 := 0) (kf := 2) (v := .long tr) F inX2 rfl rfl rfl tw_254 rfl rfl dX2_asLamp_2 rfl ?_
  refine j_lconst (q := 6) (v := 1) F (by decide) dX2_asLamp_5 rfl ?_
  refine j_ladd (q := 7) (v := tr + 1) F rfl dX2_asLamp_6 rfl ?_
  refine j_put (q := 10) (ci := 2) (q0 := 0) (kf := 2) (v := .long (tr + 1)) (w' := [(k0, .inr (2, [.ref t0, .ref p0, .long (tr + 1)])), (p0, .inr (3, [.int (nI be), .int (nI sd), .int (nI tu), .int (nI fo), .int (nI kn), .ref p1])), (t0, .inr (6, [.int (nI n), .int (nI m), .int (nI t), .ref t1, .ref t2, .ref t3, .ref t4])), (t1, .inl (G.2.2.1, 9, .inl (nF ru))), (t4, .inl (G.2.2.1, 9, .inl (nF ro)))]) F inX2 tyX2_ok nmX2 rfl rfl rfl tw_254 rfl rfl rfl rfl rfl rfl dX2_asLamp_7 rfl ?_
  refine j_aload_n (q := 11) (i0 := 0) F rfl dX2_asLamp_10 rfl ?_
  refine j_get (q := 14) (ci := 2) (q0 := 0) (kf := 1) (v := .ref p0) F inX2 rfl rfl rfl tw_253 rfl rfl dX2_asLamp_11 rfl ?_
  refine j_get (q := 17) (ci := 3) (q0 := 1) (kf := 1) (v := .int (nI sd)) F inX3 rfl rfl rfl tw_160 rfl rfl dX2_asLamp_14 rfl ?_
  refine j_iload_n (q := 18) (i0 := 1) F rfl dX2_asLamp_17 rfl ?_
  refine j_ishr (q := 19) (v := nI (sd >>> l)) F (nx_shr (by omega) (by omega)) dX2_asLamp_18 rfl ?_
  refine j_iconst (q := 20) (v := nI 1) F (by decide) dX2_asLamp_19 rfl ?_
  refine j_iand (q := 21) (v := nI (bitN sd l)) F (nx_and _ _) dX2_asLamp_20 rfl ?_
  exact j_iret (w2 := [(k0, .inr (2, [.ref t0, .ref p0, .long (tr + 1)])), (p0, .inr (3, [.int (nI be), .int (nI sd), .int (nI tu), .int (nI fo), .int (nI kn), .ref p1])), (t0, .inr (6, [.int (nI n), .int (nI m), .int (nI t), .ref t1, .ref t2, .ref t3, .ref t4])), (t1, .inl (G.2.2.1, 9, .inl (nF ru))), (t4, .inl (G.2.2.1, 9, .inl (nF ro)))]) F R0 rfl [0, 1, 2, 3, 4] rfl rfl (⟨rfl, rfl⟩) dX2_asLamp_21

set_option maxHeartbeats 4000000 in
set_option maxRecDepth 100000 in
theorem c_X2_asCorner (G : Gm) {k0 p0 p1 t0 t1 t2 t3 t4 n m t be sd tu fo kn l : Nat} {tr : Int64} {ru ro : Nat → Nat} (hl : l < 9) (hsd : sd < 512) (hro : ro l < 512) : Mg G yX2_asCorner cX2_asCorner 2 (some .int) ({ frames := 1, cells := 0, slots := 0, locals := 21 } : Room) 0 0 [.ref k0, .int (nI l)] [(k0, .inr (2, [.ref t0, .ref p0, .long tr])), (p0, .inr (3, [.int (nI be), .int (nI sd), .int (nI tu), .int (nI fo), .int (nI kn), .ref p1])), (t0, .inr (6, [.int (nI n), .int (nI m), .int (nI t), .ref t1, .ref t2, .ref t3, .ref t4])), (t1, .inl (G.2.2.1, 9, .inl (nF ru))), (t4, .inl (G.2.2.1, 9, .inl (nF ro)))] (fun r w2 => r = some (.int (nI (bitN sd l + pcN (ro l)))) ∧ w2 = [(k0, .inr (2, [.ref t0, .ref p0, .long (tr + 10 + 1)])), (p0, .inr (3, [.int (nI be), .int (nI sd), .int (nI tu), .int (nI fo), .int (nI kn), .ref p1])), (t0, .inr (6, [.int (nI n), .int (nI m), .int (nI t), .ref t1, .ref t2, .ref t3, .ref t4])), (t1, .inl (G.2.2.1, 9, .inl (nF ru))), (t4, .inl (G.2.2.1, 9, .inl (nF ro)))]) := by
  refine Mg.mk (lv := [(0, .ref k0), (1, .int (nI l))]) (by decide) rfl rfl (fun X F R0 => ?_)
  refine j_aload_n (q := 1) (i0 := 0) F rfl dX2_asCorner_0 rfl ?_
  refine j_dup (q := 2) F rfl dX2_asCorner_1 rfl ?_
  refine j_get (q := 5) (ci := 2) (q0 := 0) (kf := 2) (v := .long tr) F inX2 rfl rfl rfl tw_254 rfl rfl dX2_asCorner_2 rfl ?_
  refine j_ldc2 (q := 8) F tw_606 dX2_asCorner_5 rfl ?_
  refine j_ladd (q := 9) (v := tr + 10) F rfl dX2_asCorner_8 rfl ?_
  refine j_put (q := 12) (ci := 2) (q0 := 0) (kf := 2) (v := .long (tr + 10)) (w' := [(k0, .inr (2, [.ref t0, .ref p0, .long (tr + 10)])), (p0, .inr (3, [.int (nI be), .int (nI sd), .int (nI tu), .int (nI fo), .int (nI kn), .ref p1])), (t0, .inr (6, [.int (nI n), .int (nI m), .int (nI t), .ref t1, .ref t2, .ref t3, .ref t4])), (t1, .inl (G.2.2.1, 9, .inl (nF ru))), (t4, .inl (G.2.2.1, 9, .inl (nF ro)))]) F inX2 tyX2_ok nmX2 rfl rfl rfl tw_254 rfl rfl rfl rfl rfl rfl dX2_asCorner_9 rfl ?_
  refine j_aload_n (q := 13) (i0 := 0) F rfl dX2_asCorner_12 rfl ?_
  refine j_iload_n (q := 14) (i0 := 1) F rfl dX2_asCorner_13 rfl ?_
  refine j_callV (q := 17) (ci := 2) (q0 := 0) (As := [.int (nI l)]) (wr := []) (st := []) F (c_X2_asLamp G (tr := tr + 10) hl hsd hro) kwX2_asLamp tw_609 tw_16 tw_607 ⟨Nat.le_of_ble_eq_true rfl, Nat.le_of_ble_eq_true rfl, rfl, rfl, Nat.le_of_ble_eq_true rfl, Nat.le_of_ble_eq_true rfl⟩ [0, 1, 2, 3, 4] [] rfl rfl rfl rfl rfl rfl rfl rfl rfl (Nat.le_of_ble_eq_true rfl) dX2_asCorner_14 rfl ?_
  rintro r_ w_ ⟨rfl, rfl⟩
  refine j_w (w' := [(k0, .inr (2, [.ref t0, .ref p0, .long (tr + 10 + 1)])), (p0, .inr (3, [.int (nI be), .int (nI sd), .int (nI tu), .int (nI fo), .int (nI kn), .ref p1])), (t0, .inr (6, [.int (nI n), .int (nI m), .int (nI t), .ref t1, .ref t2, .ref t3, .ref t4])), (t1, .inl (G.2.2.1, 9, .inl (nF ru))), (t4, .inl (G.2.2.1, 9, .inl (nF ro)))]) [0, 1, 2, 3, 4] rfl rfl ?_
  show Jw G X _ 0 0 17 _ [.int (nI (bitN sd l))] _
  refine j_aload_n (q := 18) (i0 := 0) F rfl dX2_asCorner_17 rfl ?_
  refine j_get (q := 21) (ci := 2) (q0 := 0) (kf := 0) (v := .ref t0) F inX2 rfl rfl rfl tw_252 rfl rfl dX2_asCorner_18 rfl ?_
  refine j_get (q := 24) (ci := 6) (q0 := 2) (kf := 6) (v := .ref t4) F inX6 rfl rfl rfl tw_110 rfl rfl dX2_asCorner_21 rfl ?_
  refine j_iload_n (q := 25) (i0 := 1) F rfl dX2_asCorner_24 rfl ?_
  refine j_iald (q := 26) (q0 := 4) (i := l) (v := nI (ro l)) F rfl rfl (by omega) rfl (rfl) dX2_asCorner_25 rfl ?_
  refine j_callS (q := 29) (As := [.int (nI (ro l))]) (wr := [(k0, .inr (2, [.ref t0, .ref p0, .long (tr + 10 + 1)])), (p0, .inr (3, [.int (nI be), .int (nI sd), .int (nI tu), .int (nI fo), .int (nI kn), .ref p1])), (t0, .inr (6, [.int (nI n), .int (nI m), .int (nI t), .ref t1, .ref t2, .ref t3, .ref t4])), (t1, .inl (G.2.2.1, 9, .inl (nF ru))), (t4, .inl (G.2.2.1, 9, .inl (nF ro)))]) (st := [.int (nI (bitN sd l))]) F (c_bitCount G (k := ro l) (by omega)) kwJ6_bitCount_0f7a4 tw_407 tw_611 ⟨Nat.le_of_ble_eq_true rfl, Nat.le_of_ble_eq_true rfl, rfl, rfl, Nat.le_of_ble_eq_true rfl, Nat.le_of_ble_eq_true rfl⟩ [] [0, 1, 2, 3, 4] rfl rfl rfl rfl rfl rfl rfl (Nat.le_of_ble_eq_true rfl) dX2_asCorner_26 rfl ?_
  rintro r_ w_ ⟨rfl, rfl⟩
  refine j_w (w' := [(k0, .inr (2, [.ref t0, .ref p0, .long (tr + 10 + 1)])), (p0, .inr (3, [.int (nI be), .int (nI sd), .int (nI tu), .int (nI fo), .int (nI kn), .ref p1])), (t0, .inr (6, [.int (nI n), .int (nI m), .int (nI t), .ref t1, .ref t2, .ref t3, .ref t4])), (t1, .inl (G.2.2.1, 9, .inl (nF ru))), (t4, .inl (G.2.2.1, 9, .inl (nF ro)))]) [0, 1, 2, 3, 4] rfl rfl ?_
  show Jw G X _ 0 0 29 _ [.int (nI (pcN (ro l))), .int (nI (bitN sd l))] _
  refine j_iadd (q := 30) (v := nI ((bitN sd l) + (pcN (ro l)))) F (nI_add _ _) dX2_asCorner_29 rfl ?_
  exact j_iret (w2 := [(k0, .inr (2, [.ref t0, .ref p0, .long (tr + 10 + 1)])), (p0, .inr (3, [.int (nI be), .int (nI sd), .int (nI tu), .int (nI fo), .int (nI kn), .ref p1])), (t0, .inr (6, [.int (nI n), .int (nI m), .int (nI t), .ref t1, .ref t2, .ref t3, .ref t4])), (t1, .inl (G.2.2.1, 9, .inl (nF ru))), (t4, .inl (G.2.2.1, 9, .inl (nF ro)))]) F R0 rfl [0, 1, 2, 3, 4] rfl rfl (⟨rfl, rfl⟩) dX2_asCorner_30

set_option maxHeartbeats 4000000 in
set_option maxRecDepth 100000 in
theorem c_X2_asBroken (G : Gm) {k0 p0 p1 t0 t1 t2 t3 t4 n m t be sd tu fo kn l : Nat} {tr : Int64} {ru ro : Nat → Nat} (hl : l < 9) (hsd : sd < 512) (hro : ro l < 512) : Mg G yX2_asBroken cX2_asBroken 2 (some .int) ({ frames := 1, cells := 0, slots := 0, locals := 21 } : Room) 0 0 [.ref k0, .int (nI l)] [(k0, .inr (2, [.ref t0, .ref p0, .long tr])), (p0, .inr (3, [.int (nI be), .int (nI sd), .int (nI tu), .int (nI fo), .int (nI kn), .ref p1])), (t0, .inr (6, [.int (nI n), .int (nI m), .int (nI t), .ref t1, .ref t2, .ref t3, .ref t4])), (t1, .inl (G.2.2.1, 9, .inl (nF ru))), (t4, .inl (G.2.2.1, 9, .inl (nF ro)))] (fun r w2 => r = some (.int (nI (bitN sd l) - nI (ru l))) ∧ w2 = [(k0, .inr (2, [.ref t0, .ref p0, .long (tr + 100 + 1)])), (p0, .inr (3, [.int (nI be), .int (nI sd), .int (nI tu), .int (nI fo), .int (nI kn), .ref p1])), (t0, .inr (6, [.int (nI n), .int (nI m), .int (nI t), .ref t1, .ref t2, .ref t3, .ref t4])), (t1, .inl (G.2.2.1, 9, .inl (nF ru))), (t4, .inl (G.2.2.1, 9, .inl (nF ro)))]) := by
  refine Mg.mk (lv := [(0, .ref k0), (1, .int (nI l))]) (by decide) rfl rfl (fun X F R0 => ?_)
  refine j_aload_n (q := 1) (i0 := 0) F rfl dX2_asBroken_0 rfl ?_
  refine j_dup (q := 2) F rfl dX2_asBroken_1 rfl ?_
  refine j_get (q := 5) (ci := 2) (q0 := 0) (kf := 2) (v := .long tr) F inX2 rfl rfl rfl tw_254 rfl rfl dX2_asBroken_2 rfl ?_
  refine j_ldc2 (q := 8) F tw_616 dX2_asBroken_5 rfl ?_
  refine j_ladd (q := 9) (v := tr + 100) F rfl dX2_asBroken_8 rfl ?_
  refine j_put (q := 12) (ci := 2) (q0 := 0) (kf := 2) (v := .long (tr + 100)) (w' := [(k0, .inr (2, [.ref t0, .ref p0, .long (tr + 100)])), (p0, .inr (3, [.int (nI be), .int (nI sd), .int (nI tu), .int (nI fo), .int (nI kn), .ref p1])), (t0, .inr (6, [.int (nI n), .int (nI m), .int (nI t), .ref t1, .ref t2, .ref t3, .ref t4])), (t1, .inl (G.2.2.1, 9, .inl (nF ru))), (t4, .inl (G.2.2.1, 9, .inl (nF ro)))]) F inX2 tyX2_ok nmX2 rfl rfl rfl tw_254 rfl rfl rfl rfl rfl rfl dX2_asBroken_9 rfl ?_
  refine j_aload_n (q := 13) (i0 := 0) F rfl dX2_asBroken_12 rfl ?_
  refine j_iload_n (q := 14) (i0 := 1) F rfl dX2_asBroken_13 rfl ?_
  refine j_callV (q := 17) (ci := 2) (q0 := 0) (As := [.int (nI l)]) (wr := []) (st := []) F (c_X2_asLamp G (tr := tr + 100) hl hsd hro) kwX2_asLamp tw_609 tw_16 tw_607 ⟨Nat.le_of_ble_eq_true rfl, Nat.le_of_ble_eq_true rfl, rfl, rfl, Nat.le_of_ble_eq_true rfl, Nat.le_of_ble_eq_true rfl⟩ [0, 1, 2, 3, 4] [] rfl rfl rfl rfl rfl rfl rfl rfl rfl (Nat.le_of_ble_eq_true rfl) dX2_asBroken_14 rfl ?_
  rintro r_ w_ ⟨rfl, rfl⟩
  refine j_w (w' := [(k0, .inr (2, [.ref t0, .ref p0, .long (tr + 100 + 1)])), (p0, .inr (3, [.int (nI be), .int (nI sd), .int (nI tu), .int (nI fo), .int (nI kn), .ref p1])), (t0, .inr (6, [.int (nI n), .int (nI m), .int (nI t), .ref t1, .ref t2, .ref t3, .ref t4])), (t1, .inl (G.2.2.1, 9, .inl (nF ru))), (t4, .inl (G.2.2.1, 9, .inl (nF ro)))]) [0, 1, 2, 3, 4] rfl rfl ?_
  show Jw G X _ 0 0 17 _ [.int (nI (bitN sd l))] _
  refine j_aload_n (q := 18) (i0 := 0) F rfl dX2_asBroken_17 rfl ?_
  refine j_get (q := 21) (ci := 2) (q0 := 0) (kf := 0) (v := .ref t0) F inX2 rfl rfl rfl tw_252 rfl rfl dX2_asBroken_18 rfl ?_
  refine j_get (q := 24) (ci := 6) (q0 := 2) (kf := 3) (v := .ref t1) F inX6 rfl rfl rfl tw_99 rfl rfl dX2_asBroken_21 rfl ?_
  refine j_iload_n (q := 25) (i0 := 1) F rfl dX2_asBroken_24 rfl ?_
  refine j_iald (q := 26) (q0 := 3) (i := l) (v := nI (ru l)) F rfl rfl (by omega) rfl (rfl) dX2_asBroken_25 rfl ?_
  refine j_isub (q := 27) (v := nI (bitN sd l) - nI (ru l)) F (rfl) dX2_asBroken_26 rfl ?_
  exact j_iret (w2 := [(k0, .inr (2, [.ref t0, .ref p0, .long (tr + 100 + 1)])), (p0, .inr (3, [.int (nI be), .int (nI sd), .int (nI tu), .int (nI fo), .int (nI kn), .ref p1])), (t0, .inr (6, [.int (nI n), .int (nI m), .int (nI t), .ref t1, .ref t2, .ref t3, .ref t4])), (t1, .inl (G.2.2.1, 9, .inl (nF ru))), (t4, .inl (G.2.2.1, 9, .inl (nF ro)))]) F R0 rfl [0, 1, 2, 3, 4] rfl rfl (⟨rfl, rfl⟩) dX2_asBroken_27

set_option maxHeartbeats 4000000 in
set_option maxRecDepth 100000 in
theorem c_X2_asHarbour (G : Gm) {k0 p0 p1 t0 t1 t2 t3 t4 n m t be sd tu fo kn l : Nat} {tr : Int64} {ru ro : Nat → Nat} (hl : l < 9) (hsd : sd < 512) (hro : ro l < 512) : Mg G yX2_asHarbour cX2_asHarbour 2 (some .int) ({ frames := 2, cells := 0, slots := 0, locals := 42 } : Room) 0 0 [.ref k0, .int (nI l)] [(k0, .inr (2, [.ref t0, .ref p0, .long tr])), (p0, .inr (3, [.int (nI be), .int (nI sd), .int (nI tu), .int (nI fo), .int (nI kn), .ref p1])), (t0, .inr (6, [.int (nI n), .int (nI m), .int (nI t), .ref t1, .ref t2, .ref t3, .ref t4])), (t1, .inl (G.2.2.1, 9, .inl (nF ru))), (t4, .inl (G.2.2.1, 9, .inl (nF ro)))] (fun r w2 => r = some (.int (nI ((bitN sd l + pcN (ro l)) * 2))) ∧ w2 = [(k0, .inr (2, [.ref t0, .ref p0, .long (tr + 1000 + 10 + 1)])), (p0, .inr (3, [.int (nI be), .int (nI sd), .int (nI tu), .int (nI fo), .int (nI kn), .ref p1])), (t0, .inr (6, [.int (nI n), .int (nI m), .int (nI t), .ref t1, .ref t2, .ref t3, .ref t4])), (t1, .inl (G.2.2.1, 9, .inl (nF ru))), (t4, .inl (G.2.2.1, 9, .inl (nF ro)))]) := by
  refine Mg.mk (lv := [(0, .ref k0), (1, .int (nI l))]) (by decide) rfl rfl (fun X F R0 => ?_)
  refine j_aload_n (q := 1) (i0 := 0) F rfl dX2_asHarbour_0 rfl ?_
  refine j_dup (q := 2) F rfl dX2_asHarbour_1 rfl ?_
  refine j_get (q := 5) (ci := 2) (q0 := 0) (kf := 2) (v := .long tr) F inX2 rfl rfl rfl tw_254 rfl rfl dX2_asHarbour_2 rfl ?_
  refine j_ldc2 (q := 8) F tw_621 dX2_asHarbour_5 rfl ?_
  refine j_ladd (q := 9) (v := tr + 1000) F rfl dX2_asHarbour_8 rfl ?_
  refine j_put (q := 12) (ci := 2) (q0 := 0) (kf := 2) (v := .long (tr + 1000)) (w' := [(k0, .inr (2, [.ref t0, .ref p0, .long (tr + 1000)])), (p0, .inr (3, [.int (nI be), .int (nI sd), .int (nI tu), .int (nI fo), .int (nI kn), .ref p1])), (t0, .inr (6, [.int (nI n), .int (nI m), .int (nI t), .ref t1, .ref t2, .ref t3, .ref t4])), (t1, .inl (G.2.2.1, 9, .inl (nF ru))), (t4, .inl (G.2.2.1, 9, .inl (nF ro)))]) F inX2 tyX2_ok nmX2 rfl rfl rfl tw_254 rfl rfl rfl rfl rfl rfl dX2_asHarbour_9 rfl ?_
  refine j_aload_n (q := 13) (i0 := 0) F rfl dX2_asHarbour_12 rfl ?_
  refine j_iload_n (q := 14) (i0 := 1) F rfl dX2_asHarbour_13 rfl ?_
  refine j_callV (q := 17) (ci := 2) (q0 := 0) (As := [.int (nI l)]) (wr := []) (st := []) F (c_X2_asCorner G (tr := tr + 1000) hl hsd hro) kwX2_asCorner tw_604 tw_15 tw_602 ⟨Nat.le_of_ble_eq_true rfl, Nat.le_of_ble_eq_true rfl, rfl, rfl, Nat.le_of_ble_eq_true rfl, Nat.le_of_ble_eq_true rfl⟩ [0, 1, 2, 3, 4] [] rfl rfl rfl rfl rfl rfl rfl rfl rfl (Nat.le_of_ble_eq_true rfl) dX2_asHarbour_14 rfl ?_
  rintro r_ w_ ⟨rfl, rfl⟩
  refine j_w (w' := [(k0, .inr (2, [.ref t0, .ref p0, .long (tr + 1000 + 10 + 1)])), (p0, .inr (3, [.int (nI be), .int (nI sd), .int (nI tu), .int (nI fo), .int (nI kn), .ref p1])), (t0, .inr (6, [.int (nI n), .int (nI m), .int (nI t), .ref t1, .ref t2, .ref t3, .ref t4])), (t1, .inl (G.2.2.1, 9, .inl (nF ru))), (t4, .inl (G.2.2.1, 9, .inl (nF ro)))]) [0, 1, 2, 3, 4] rfl rfl ?_
  show Jw G X _ 0 0 17 _ [.int (nI (bitN sd l + pcN (ro l)))] _
  refine j_iconst (q := 18) (v := nI 2) F (by decide) dX2_asHarbour_17 rfl ?_
  refine j_imul (q := 19) (v := nI ((bitN sd l + pcN (ro l)) * 2)) F (pk_mul _ _) dX2_asHarbour_18 rfl ?_
  exact j_iret (w2 := [(k0, .inr (2, [.ref t0, .ref p0, .long (tr + 1000 + 10 + 1)])), (p0, .inr (3, [.int (nI be), .int (nI sd), .int (nI tu), .int (nI fo), .int (nI kn), .ref p1])), (t0, .inr (6, [.int (nI n), .int (nI m), .int (nI t), .ref t1, .ref t2, .ref t3, .ref t4])), (t1, .inl (G.2.2.1, 9, .inl (nF ru))), (t4, .inl (G.2.2.1, 9, .inl (nF ro)))]) F R0 rfl [0, 1, 2, 3, 4] rfl rfl (⟨rfl, rfl⟩) dX2_asHarbour_19

set_option maxHeartbeats 4000000 in
set_option maxRecDepth 100000 in
theorem c_X2_asAlley (G : Gm) {k0 p0 p1 t0 t1 t2 t3 t4 n m t be sd tu fo kn l : Nat} {tr : Int64} {ru ro : Nat → Nat} (hl : l < 9) (hsd : sd < 512) (hro : ro l < 512) : Mg G yX2_asAlley cX2_asAlley 2 (some .int) ({ frames := 2, cells := 0, slots := 0, locals := 42 } : Room) 0 0 [.ref k0, .int (nI l)] [(k0, .inr (2, [.ref t0, .ref p0, .long tr])), (p0, .inr (3, [.int (nI be), .int (nI sd), .int (nI tu), .int (nI fo), .int (nI kn), .ref p1])), (t0, .inr (6, [.int (nI n), .int (nI m), .int (nI t), .ref t1, .ref t2, .ref t3, .ref t4])), (t1, .inl (G.2.2.1, 9, .inl (nF ru))), (t4, .inl (G.2.2.1, 9, .inl (nF ro)))] (fun r w2 => r = some (.int (nI (bitN sd l) - nI (ru l) + nI l)) ∧ w2 = [(k0, .inr (2, [.ref t0, .ref p0, .long (tr + 10000 + 100 + 1)])), (p0, .inr (3, [.int (nI be), .int (nI sd), .int (nI tu), .int (nI fo), .int (nI kn), .ref p1])), (t0, .inr (6, [.int (nI n), .int (nI m), .int (nI t), .ref t1, .ref t2, .ref t3, .ref t4])), (t1, .inl (G.2.2.1, 9, .inl (nF ru))), (t4, .inl (G.2.2.1, 9, .inl (nF ro)))]) := by
  refine Mg.mk (lv := [(0, .ref k0), (1, .int (nI l))]) (by decide) rfl rfl (fun X F R0 => ?_)
  refine j_aload_n (q := 1) (i0 := 0) F rfl dX2_asAlley_0 rfl ?_
  refine j_dup (q := 2) F rfl dX2_asAlley_1 rfl ?_
  refine j_get (q := 5) (ci := 2) (q0 := 0) (kf := 2) (v := .long tr) F inX2 rfl rfl rfl tw_254 rfl rfl dX2_asAlley_2 rfl ?_
  refine j_ldc2 (q := 8) F tw_626 dX2_asAlley_5 rfl ?_
  refine j_ladd (q := 9) (v := tr + 10000) F rfl dX2_asAlley_8 rfl ?_
  refine j_put (q := 12) (ci := 2) (q0 := 0) (kf := 2) (v := .long (tr + 10000)) (w' := [(k0, .inr (2, [.ref t0, .ref p0, .long (tr + 10000)])), (p0, .inr (3, [.int (nI be), .int (nI sd), .int (nI tu), .int (nI fo), .int (nI kn), .ref p1])), (t0, .inr (6, [.int (nI n), .int (nI m), .int (nI t), .ref t1, .ref t2, .ref t3, .ref t4])), (t1, .inl (G.2.2.1, 9, .inl (nF ru))), (t4, .inl (G.2.2.1, 9, .inl (nF ro)))]) F inX2 tyX2_ok nmX2 rfl rfl rfl tw_254 rfl rfl rfl rfl rfl rfl dX2_asAlley_9 rfl ?_
  refine j_aload_n (q := 13) (i0 := 0) F rfl dX2_asAlley_12 rfl ?_
  refine j_iload_n (q := 14) (i0 := 1) F rfl dX2_asAlley_13 rfl ?_
  refine j_callV (q := 17) (ci := 2) (q0 := 0) (As := [.int (nI l)]) (wr := []) (st := []) F (c_X2_asBroken G (tr := tr + 10000) hl hsd hro) kwX2_asBroken tw_614 tw_17 tw_612 ⟨Nat.le_of_ble_eq_true rfl, Nat.le_of_ble_eq_true rfl, rfl, rfl, Nat.le_of_ble_eq_true rfl, Nat.le_of_ble_eq_true rfl⟩ [0, 1, 2, 3, 4] [] rfl rfl rfl rfl rfl rfl rfl rfl rfl (Nat.le_of_ble_eq_true rfl) dX2_asAlley_14 rfl ?_
  rintro r_ w_ ⟨rfl, rfl⟩
  refine j_w (w' := [(k0, .inr (2, [.ref t0, .ref p0, .long (tr + 10000 + 100 + 1)])), (p0, .inr (3, [.int (nI be), .int (nI sd), .int (nI tu), .int (nI fo), .int (nI kn), .ref p1])), (t0, .inr (6, [.int (nI n), .int (nI m), .int (nI t), .ref t1, .ref t2, .ref t3, .ref t4])), (t1, .inl (G.2.2.1, 9, .inl (nF ru))), (t4, .inl (G.2.2.1, 9, .inl (nF ro)))]) [0, 1, 2, 3, 4] rfl rfl ?_
  show Jw G X _ 0 0 17 _ [.int (nI (bitN sd l) - nI (ru l))] _
  refine j_iload_n (q := 18) (i0 := 1) F rfl dX2_asAlley_17 rfl ?_
  refine j_iadd (q := 19) (v := (nI (bitN sd l) - nI (ru l)) + (nI l)) F (rfl) dX2_asAlley_18 rfl ?_
  exact j_iret (w2 := [(k0, .inr (2, [.ref t0, .ref p0, .long (tr + 10000 + 100 + 1)])), (p0, .inr (3, [.int (nI be), .int (nI sd), .int (nI tu), .int (nI fo), .int (nI kn), .ref p1])), (t0, .inr (6, [.int (nI n), .int (nI m), .int (nI t), .ref t1, .ref t2, .ref t3, .ref t4])), (t1, .inl (G.2.2.1, 9, .inl (nF ru))), (t4, .inl (G.2.2.1, 9, .inl (nF ro)))]) F R0 rfl [0, 1, 2, 3, 4] rfl rfl (⟨rfl, rfl⟩) dX2_asAlley_19

set_option maxHeartbeats 4000000 in
set_option maxRecDepth 100000 in
theorem c_X2_asBrides (G : Gm) {k0 p0 p1 t0 t1 t2 t3 t4 n m t be sd tu fo kn l : Nat} {tr : Int64} {ru ro : Nat → Nat} (hl : l < 9) (hsd : sd < 512) (hro : ro l < 512) : Mg G yX2_asBrides cX2_asBrides 2 (some .int) ({ frames := 1, cells := 0, slots := 0, locals := 21 } : Room) 0 0 [.ref k0, .int (nI l)] [(k0, .inr (2, [.ref t0, .ref p0, .long tr])), (p0, .inr (3, [.int (nI be), .int (nI sd), .int (nI tu), .int (nI fo), .int (nI kn), .ref p1])), (t0, .inr (6, [.int (nI n), .int (nI m), .int (nI t), .ref t1, .ref t2, .ref t3, .ref t4])), (t1, .inl (G.2.2.1, 9, .inl (nF ru))), (t4, .inl (G.2.2.1, 9, .inl (nF ro)))] (fun r w2 => r = some (.int (nI (bitN sd l + pcN sd))) ∧ w2 = [(k0, .inr (2, [.ref t0, .ref p0, .long (tr + 100000 + 1)])), (p0, .inr (3, [.int (nI be), .int (nI sd), .int (nI tu), .int (nI fo), .int (nI kn), .ref p1])), (t0, .inr (6, [.int (nI n), .int (nI m), .int (nI t), .ref t1, .ref t2, .ref t3, .ref t4])), (t1, .inl (G.2.2.1, 9, .inl (nF ru))), (t4, .inl (G.2.2.1, 9, .inl (nF ro)))]) := by
  refine Mg.mk (lv := [(0, .ref k0), (1, .int (nI l))]) (by decide) rfl rfl (fun X F R0 => ?_)
  refine j_aload_n (q := 1) (i0 := 0) F rfl dX2_asBrides_0 rfl ?_
  refine j_dup (q := 2) F rfl dX2_asBrides_1 rfl ?_
  refine j_get (q := 5) (ci := 2) (q0 := 0) (kf := 2) (v := .long tr) F inX2 rfl rfl rfl tw_254 rfl rfl dX2_asBrides_2 rfl ?_
  refine j_ldc2 (q := 8) F tw_631 dX2_asBrides_5 rfl ?_
  refine j_ladd (q := 9) (v := tr + 100000) F rfl dX2_asBrides_8 rfl ?_
  refine j_put (q := 12) (ci := 2) (q0 := 0) (kf := 2) (v := .long (tr + 100000)) (w' := [(k0, .inr (2, [.ref t0, .ref p0, .long (tr + 100000)])), (p0, .inr (3, [.int (nI be), .int (nI sd), .int (nI tu), .int (nI fo), .int (nI kn), .ref p1])), (t0, .inr (6, [.int (nI n), .int (nI m), .int (nI t), .ref t1, .ref t2, .ref t3, .ref t4])), (t1, .inl (G.2.2.1, 9, .inl (nF ru))), (t4, .inl (G.2.2.1, 9, .inl (nF ro)))]) F inX2 tyX2_ok nmX2 rfl rfl rfl tw_254 rfl rfl rfl rfl rfl rfl dX2_asBrides_9 rfl ?_
  refine j_aload_n (q := 13) (i0 := 0) F rfl dX2_asBrides_12 rfl ?_
  refine j_iload_n (q := 14) (i0 := 1) F rfl dX2_asBrides_13 rfl ?_
  refine j_callV (q := 17) (ci := 2) (q0 := 0) (As := [.int (nI l)]) (wr := []) (st := []) F (c_X2_asLamp G (tr := tr + 100000) hl hsd hro) kwX2_asLamp tw_609 tw_16 tw_607 ⟨Nat.le_of_ble_eq_true rfl, Nat.le_of_ble_eq_true rfl, rfl, rfl, Nat.le_of_ble_eq_true rfl, Nat.le_of_ble_eq_true rfl⟩ [0, 1, 2, 3, 4] [] rfl rfl rfl rfl rfl rfl rfl rfl rfl (Nat.le_of_ble_eq_true rfl) dX2_asBrides_14 rfl ?_
  rintro r_ w_ ⟨rfl, rfl⟩
  refine j_w (w' := [(k0, .inr (2, [.ref t0, .ref p0, .long (tr + 100000 + 1)])), (p0, .inr (3, [.int (nI be), .int (nI sd), .int (nI tu), .int (nI fo), .int (nI kn), .ref p1])), (t0, .inr (6, [.int (nI n), .int (nI m), .int (nI t), .ref t1, .ref t2, .ref t3, .ref t4])), (t1, .inl (G.2.2.1, 9, .inl (nF ru))), (t4, .inl (G.2.2.1, 9, .inl (nF ro)))]) [0, 1, 2, 3, 4] rfl rfl ?_
  show Jw G X _ 0 0 17 _ [.int (nI (bitN sd l))] _
  refine j_aload_n (q := 18) (i0 := 0) F rfl dX2_asBrides_17 rfl ?_
  refine j_get (q := 21) (ci := 2) (q0 := 0) (kf := 1) (v := .ref p0) F inX2 rfl rfl rfl tw_253 rfl rfl dX2_asBrides_18 rfl ?_
  refine j_get (q := 24) (ci := 3) (q0 := 1) (kf := 1) (v := .int (nI sd)) F inX3 rfl rfl rfl tw_160 rfl rfl dX2_asBrides_21 rfl ?_
  refine j_callS (q := 27) (As := [.int (nI sd)]) (wr := [(k0, .inr (2, [.ref t0, .ref p0, .long (tr + 100000 + 1)])), (p0, .inr (3, [.int (nI be), .int (nI sd), .int (nI tu), .int (nI fo), .int (nI kn), .ref p1])), (t0, .inr (6, [.int (nI n), .int (nI m), .int (nI t), .ref t1, .ref t2, .ref t3, .ref t4])), (t1, .inl (G.2.2.1, 9, .inl (nF ru))), (t4, .inl (G.2.2.1, 9, .inl (nF ro)))]) (st := [.int (nI (bitN sd l))]) F (c_bitCount G (k := sd) (by omega)) kwJ6_bitCount_0f7a4 tw_407 tw_611 ⟨Nat.le_of_ble_eq_true rfl, Nat.le_of_ble_eq_true rfl, rfl, rfl, Nat.le_of_ble_eq_true rfl, Nat.le_of_ble_eq_true rfl⟩ [] [0, 1, 2, 3, 4] rfl rfl rfl rfl rfl rfl rfl (Nat.le_of_ble_eq_true rfl) dX2_asBrides_24 rfl ?_
  rintro r_ w_ ⟨rfl, rfl⟩
  refine j_w (w' := [(k0, .inr (2, [.ref t0, .ref p0, .long (tr + 100000 + 1)])), (p0, .inr (3, [.int (nI be), .int (nI sd), .int (nI tu), .int (nI fo), .int (nI kn), .ref p1])), (t0, .inr (6, [.int (nI n), .int (nI m), .int (nI t), .ref t1, .ref t2, .ref t3, .ref t4])), (t1, .inl (G.2.2.1, 9, .inl (nF ru))), (t4, .inl (G.2.2.1, 9, .inl (nF ro)))]) [0, 1, 2, 3, 4] rfl rfl ?_
  show Jw G X _ 0 0 27 _ [.int (nI (pcN sd)), .int (nI (bitN sd l))] _
  refine j_iadd (q := 28) (v := nI ((bitN sd l) + (pcN sd))) F (nI_add _ _) dX2_asBrides_27 rfl ?_
  exact j_iret (w2 := [(k0, .inr (2, [.ref t0, .ref p0, .long (tr + 100000 + 1)])), (p0, .inr (3, [.int (nI be), .int (nI sd), .int (nI tu), .int (nI fo), .int (nI kn), .ref p1])), (t0, .inr (6, [.int (nI n), .int (nI m), .int (nI t), .ref t1, .ref t2, .ref t3, .ref t4])), (t1, .inl (G.2.2.1, 9, .inl (nF ru))), (t4, .inl (G.2.2.1, 9, .inl (nF ro)))]) F R0 rfl [0, 1, 2, 3, 4] rfl rfl (⟨rfl, rfl⟩) dX2_asBrides_28

set_option maxHeartbeats 4000000 in
set_option maxRecDepth 100000 in
theorem c_X2_markAs_0 (G : Gm) {k0 p0 p1 t0 t1 t2 t3 t4 n m t be sd tu fo kn l : Nat} {tr : Int64} {ru ro : Nat → Nat} (hl : l < 9) (hsd : sd < 512) (hro : ro l < 512) : Mg G yX2_markAs cX2_markAs 3 (some .int) ({ frames := 3, cells := 0, slots := 0, locals := 63 } : Room) 0 0 [.ref k0, .int (nI 0), .int (nI l)] [(k0, .inr (2, [.ref t0, .ref p0, .long tr])), (p0, .inr (3, [.int (nI be), .int (nI sd), .int (nI tu), .int (nI fo), .int (nI kn), .ref p1])), (t0, .inr (6, [.int (nI n), .int (nI m), .int (nI t), .ref t1, .ref t2, .ref t3, .ref t4])), (t1, .inl (G.2.2.1, 9, .inl (nF ru))), (t4, .inl (G.2.2.1, 9, .inl (nF ro)))] (fun r w2 => r = some (.int (mkV 0 (bitN sd l) (pcN (ro l)) (ru l) (pcN sd) l)) ∧ w2 = [(k0, .inr (2, [.ref t0, .ref p0, .long (tr + mkT 0)])), (p0, .inr (3, [.int (nI be), .int (nI sd), .int (nI tu), .int (nI fo), .int (nI kn), .ref p1])), (t0, .inr (6, [.int (nI n), .int (nI m), .int (nI t), .ref t1, .ref t2, .ref t3, .ref t4])), (t1, .inl (G.2.2.1, 9, .inl (nF ru))), (t4, .inl (G.2.2.1, 9, .inl (nF ro)))]) := by
  refine Mg.mk (lv := [(0, .ref k0), (1, .int (nI 0)), (2, .int (nI l))]) (by decide) rfl rfl (fun X F R0 => ?_)
  refine j_iload_n (q := 1) (i0 := 1) F rfl dX2_markAs_0 rfl ?_
  refine j_tabOut (t := 66) F dX2_markAs_1 (by decide) rfl ?_
  refine j_aload_n (q := 67) (i0 := 0) F rfl dX2_markAs_66 rfl ?_
  refine j_iload_n (q := 68) (i0 := 2) F rfl dX2_markAs_67 rfl ?_
  refine j_callV (q := 71) (ci := 2) (q0 := 0) (As := [.int (nI l)]) (wr := []) (st := []) F (c_X2_asLamp G (tr := tr) hl hsd hro) kwX2_asLamp tw_609 tw_16 tw_607 ⟨Nat.le_of_ble_eq_true rfl, Nat.le_of_ble_eq_true rfl, rfl, rfl, Nat.le_of_ble_eq_true rfl, Nat.le_of_ble_eq_true rfl⟩ [0, 1, 2, 3, 4] [] rfl rfl rfl rfl rfl rfl rfl rfl rfl (Nat.le_of_ble_eq_true rfl) dX2_markAs_68 rfl ?_
  rintro r_ w_ ⟨rfl, rfl⟩
  refine j_w (w' := [(k0, .inr (2, [.ref t0, .ref p0, .long (tr + 1)])), (p0, .inr (3, [.int (nI be), .int (nI sd), .int (nI tu), .int (nI fo), .int (nI kn), .ref p1])), (t0, .inr (6, [.int (nI n), .int (nI m), .int (nI t), .ref t1, .ref t2, .ref t3, .ref t4])), (t1, .inl (G.2.2.1, 9, .inl (nF ru))), (t4, .inl (G.2.2.1, 9, .inl (nF ro)))]) [0, 1, 2, 3, 4] rfl rfl ?_
  show Jw G X _ 0 0 71 _ [.int (nI (bitN sd l))] _
  exact j_iret (w2 := [(k0, .inr (2, [.ref t0, .ref p0, .long (tr + 1)])), (p0, .inr (3, [.int (nI be), .int (nI sd), .int (nI tu), .int (nI fo), .int (nI kn), .ref p1])), (t0, .inr (6, [.int (nI n), .int (nI m), .int (nI t), .ref t1, .ref t2, .ref t3, .ref t4])), (t1, .inl (G.2.2.1, 9, .inl (nF ru))), (t4, .inl (G.2.2.1, 9, .inl (nF ro)))]) F R0 rfl [0, 1, 2, 3, 4] rfl rfl (⟨rfl, by rw [show tr + mkT 0 = tr + 1 from mk_t0 tr]⟩) dX2_markAs_71

set_option maxHeartbeats 4000000 in
set_option maxRecDepth 100000 in
theorem c_X2_markAs_1 (G : Gm) {k0 p0 p1 t0 t1 t2 t3 t4 n m t be sd tu fo kn l : Nat} {tr : Int64} {ru ro : Nat → Nat} (hl : l < 9) (hsd : sd < 512) (hro : ro l < 512) : Mg G yX2_markAs cX2_markAs 3 (some .int) ({ frames := 3, cells := 0, slots := 0, locals := 63 } : Room) 0 0 [.ref k0, .int (nI 1), .int (nI l)] [(k0, .inr (2, [.ref t0, .ref p0, .long tr])), (p0, .inr (3, [.int (nI be), .int (nI sd), .int (nI tu), .int (nI fo), .int (nI kn), .ref p1])), (t0, .inr (6, [.int (nI n), .int (nI m), .int (nI t), .ref t1, .ref t2, .ref t3, .ref t4])), (t1, .inl (G.2.2.1, 9, .inl (nF ru))), (t4, .inl (G.2.2.1, 9, .inl (nF ro)))] (fun r w2 => r = some (.int (mkV 1 (bitN sd l) (pcN (ro l)) (ru l) (pcN sd) l)) ∧ w2 = [(k0, .inr (2, [.ref t0, .ref p0, .long (tr + mkT 1)])), (p0, .inr (3, [.int (nI be), .int (nI sd), .int (nI tu), .int (nI fo), .int (nI kn), .ref p1])), (t0, .inr (6, [.int (nI n), .int (nI m), .int (nI t), .ref t1, .ref t2, .ref t3, .ref t4])), (t1, .inl (G.2.2.1, 9, .inl (nF ru))), (t4, .inl (G.2.2.1, 9, .inl (nF ro)))]) := by
  refine Mg.mk (lv := [(0, .ref k0), (1, .int (nI 1)), (2, .int (nI l))]) (by decide) rfl rfl (fun X F R0 => ?_)
  refine j_iload_n (q := 1) (i0 := 1) F rfl dX2_markAs_0 rfl ?_
  refine j_tabIn (t := 36) F dX2_markAs_1 (by decide) (by decide) rfl rfl ?_
  refine j_aload_n (q := 37) (i0 := 0) F rfl dX2_markAs_36 rfl ?_
  refine j_iload_n (q := 38) (i0 := 2) F rfl dX2_markAs_37 rfl ?_
  refine j_callV (q := 41) (ci := 2) (q0 := 0) (As := [.int (nI l)]) (wr := []) (st := []) F (c_X2_asCorner G (tr := tr) hl hsd hro) kwX2_asCorner tw_604 tw_15 tw_602 ⟨Nat.le_of_ble_eq_true rfl, Nat.le_of_ble_eq_true rfl, rfl, rfl, Nat.le_of_ble_eq_true rfl, Nat.le_of_ble_eq_true rfl⟩ [0, 1, 2, 3, 4] [] rfl rfl rfl rfl rfl rfl rfl rfl rfl (Nat.le_of_ble_eq_true rfl) dX2_markAs_38 rfl ?_
  rintro r_ w_ ⟨rfl, rfl⟩
  refine j_w (w' := [(k0, .inr (2, [.ref t0, .ref p0, .long (tr + 10 + 1)])), (p0, .inr (3, [.int (nI be), .int (nI sd), .int (nI tu), .int (nI fo), .int (nI kn), .ref p1])), (t0, .inr (6, [.int (nI n), .int (nI m), .int (nI t), .ref t1, .ref t2, .ref t3, .ref t4])), (t1, .inl (G.2.2.1, 9, .inl (nF ru))), (t4, .inl (G.2.2.1, 9, .inl (nF ro)))]) [0, 1, 2, 3, 4] rfl rfl ?_
  show Jw G X _ 0 0 41 _ [.int (nI (bitN sd l + pcN (ro l)))] _
  exact j_iret (w2 := [(k0, .inr (2, [.ref t0, .ref p0, .long (tr + 10 + 1)])), (p0, .inr (3, [.int (nI be), .int (nI sd), .int (nI tu), .int (nI fo), .int (nI kn), .ref p1])), (t0, .inr (6, [.int (nI n), .int (nI m), .int (nI t), .ref t1, .ref t2, .ref t3, .ref t4])), (t1, .inl (G.2.2.1, 9, .inl (nF ru))), (t4, .inl (G.2.2.1, 9, .inl (nF ro)))]) F R0 rfl [0, 1, 2, 3, 4] rfl rfl (⟨rfl, by rw [show tr + mkT 1 = tr + 10 + 1 from mk_t1 tr]⟩) dX2_markAs_41

set_option maxHeartbeats 4000000 in
set_option maxRecDepth 100000 in
theorem c_X2_markAs_2 (G : Gm) {k0 p0 p1 t0 t1 t2 t3 t4 n m t be sd tu fo kn l : Nat} {tr : Int64} {ru ro : Nat → Nat} (hl : l < 9) (hsd : sd < 512) (hro : ro l < 512) : Mg G yX2_markAs cX2_markAs 3 (some .int) ({ frames := 3, cells := 0, slots := 0, locals := 63 } : Room) 0 0 [.ref k0, .int (nI 2), .int (nI l)] [(k0, .inr (2, [.ref t0, .ref p0, .long tr])), (p0, .inr (3, [.int (nI be), .int (nI sd), .int (nI tu), .int (nI fo), .int (nI kn), .ref p1])), (t0, .inr (6, [.int (nI n), .int (nI m), .int (nI t), .ref t1, .ref t2, .ref t3, .ref t4])), (t1, .inl (G.2.2.1, 9, .inl (nF ru))), (t4, .inl (G.2.2.1, 9, .inl (nF ro)))] (fun r w2 => r = some (.int (mkV 2 (bitN sd l) (pcN (ro l)) (ru l) (pcN sd) l)) ∧ w2 = [(k0, .inr (2, [.ref t0, .ref p0, .long (tr + mkT 2)])), (p0, .inr (3, [.int (nI be), .int (nI sd), .int (nI tu), .int (nI fo), .int (nI kn), .ref p1])), (t0, .inr (6, [.int (nI n), .int (nI m), .int (nI t), .ref t1, .ref t2, .ref t3, .ref t4])), (t1, .inl (G.2.2.1, 9, .inl (nF ru))), (t4, .inl (G.2.2.1, 9, .inl (nF ro)))]) := by
  refine Mg.mk (lv := [(0, .ref k0), (1, .int (nI 2)), (2, .int (nI l))]) (by decide) rfl rfl (fun X F R0 => ?_)
  refine j_iload_n (q := 1) (i0 := 1) F rfl dX2_markAs_0 rfl ?_
  refine j_tabIn (t := 42) F dX2_markAs_1 (by decide) (by decide) rfl rfl ?_
  refine j_aload_n (q := 43) (i0 := 0) F rfl dX2_markAs_42 rfl ?_
  refine j_iload_n (q := 44) (i0 := 2) F rfl dX2_markAs_43 rfl ?_
  refine j_callV (q := 47) (ci := 2) (q0 := 0) (As := [.int (nI l)]) (wr := []) (st := []) F (c_X2_asBroken G (tr := tr) hl hsd hro) kwX2_asBroken tw_614 tw_17 tw_612 ⟨Nat.le_of_ble_eq_true rfl, Nat.le_of_ble_eq_true rfl, rfl, rfl, Nat.le_of_ble_eq_true rfl, Nat.le_of_ble_eq_true rfl⟩ [0, 1, 2, 3, 4] [] rfl rfl rfl rfl rfl rfl rfl rfl rfl (Nat.le_of_ble_eq_true rfl) dX2_markAs_44 rfl ?_
  rintro r_ w_ ⟨rfl, rfl⟩
  refine j_w (w' := [(k0, .inr (2, [.ref t0, .ref p0, .long (tr + 100 + 1)])), (p0, .inr (3, [.int (nI be), .int (nI sd), .int (nI tu), .int (nI fo), .int (nI kn), .ref p1])), (t0, .inr (6, [.int (nI n), .int (nI m), .int (nI t), .ref t1, .ref t2, .ref t3, .ref t4])), (t1, .inl (G.2.2.1, 9, .inl (nF ru))), (t4, .inl (G.2.2.1, 9, .inl (nF ro)))]) [0, 1, 2, 3, 4] rfl rfl ?_
  show Jw G X _ 0 0 47 _ [.int (nI (bitN sd l) - nI (ru l))] _
  exact j_iret (w2 := [(k0, .inr (2, [.ref t0, .ref p0, .long (tr + 100 + 1)])), (p0, .inr (3, [.int (nI be), .int (nI sd), .int (nI tu), .int (nI fo), .int (nI kn), .ref p1])), (t0, .inr (6, [.int (nI n), .int (nI m), .int (nI t), .ref t1, .ref t2, .ref t3, .ref t4])), (t1, .inl (G.2.2.1, 9, .inl (nF ru))), (t4, .inl (G.2.2.1, 9, .inl (nF ro)))]) F R0 rfl [0, 1, 2, 3, 4] rfl rfl (⟨rfl, by rw [show tr + mkT 2 = tr + 100 + 1 from mk_t2 tr]⟩) dX2_markAs_47

set_option maxHeartbeats 4000000 in
set_option maxRecDepth 100000 in
theorem c_X2_markAs_3 (G : Gm) {k0 p0 p1 t0 t1 t2 t3 t4 n m t be sd tu fo kn l : Nat} {tr : Int64} {ru ro : Nat → Nat} (hl : l < 9) (hsd : sd < 512) (hro : ro l < 512) : Mg G yX2_markAs cX2_markAs 3 (some .int) ({ frames := 3, cells := 0, slots := 0, locals := 63 } : Room) 0 0 [.ref k0, .int (nI 3), .int (nI l)] [(k0, .inr (2, [.ref t0, .ref p0, .long tr])), (p0, .inr (3, [.int (nI be), .int (nI sd), .int (nI tu), .int (nI fo), .int (nI kn), .ref p1])), (t0, .inr (6, [.int (nI n), .int (nI m), .int (nI t), .ref t1, .ref t2, .ref t3, .ref t4])), (t1, .inl (G.2.2.1, 9, .inl (nF ru))), (t4, .inl (G.2.2.1, 9, .inl (nF ro)))] (fun r w2 => r = some (.int (mkV 3 (bitN sd l) (pcN (ro l)) (ru l) (pcN sd) l)) ∧ w2 = [(k0, .inr (2, [.ref t0, .ref p0, .long (tr + mkT 3)])), (p0, .inr (3, [.int (nI be), .int (nI sd), .int (nI tu), .int (nI fo), .int (nI kn), .ref p1])), (t0, .inr (6, [.int (nI n), .int (nI m), .int (nI t), .ref t1, .ref t2, .ref t3, .ref t4])), (t1, .inl (G.2.2.1, 9, .inl (nF ru))), (t4, .inl (G.2.2.1, 9, .inl (nF ro)))]) := by
  refine Mg.mk (lv := [(0, .ref k0), (1, .int (nI 3)), (2, .int (nI l))]) (by decide) rfl rfl (fun X F R0 => ?_)
  refine j_iload_n (q := 1) (i0 := 1) F rfl dX2_markAs_0 rfl ?_
  refine j_tabIn (t := 48) F dX2_markAs_1 (by decide) (by decide) rfl rfl ?_
  refine j_aload_n (q := 49) (i0 := 0) F rfl dX2_markAs_48 rfl ?_
  refine j_iload_n (q := 50) (i0 := 2) F rfl dX2_markAs_49 rfl ?_
  refine j_callV (q := 53) (ci := 2) (q0 := 0) (As := [.int (nI l)]) (wr := []) (st := []) F (c_X2_asHarbour G (tr := tr) hl hsd hro) kwX2_asHarbour tw_619 tw_18 tw_617 ⟨Nat.le_of_ble_eq_true rfl, Nat.le_of_ble_eq_true rfl, rfl, rfl, Nat.le_of_ble_eq_true rfl, Nat.le_of_ble_eq_true rfl⟩ [0, 1, 2, 3, 4] [] rfl rfl rfl rfl rfl rfl rfl rfl rfl (Nat.le_of_ble_eq_true rfl) dX2_markAs_50 rfl ?_
  rintro r_ w_ ⟨rfl, rfl⟩
  refine j_w (w' := [(k0, .inr (2, [.ref t0, .ref p0, .long (tr + 1000 + 10 + 1)])), (p0, .inr (3, [.int (nI be), .int (nI sd), .int (nI tu), .int (nI fo), .int (nI kn), .ref p1])), (t0, .inr (6, [.int (nI n), .int (nI m), .int (nI t), .ref t1, .ref t2, .ref t3, .ref t4])), (t1, .inl (G.2.2.1, 9, .inl (nF ru))), (t4, .inl (G.2.2.1, 9, .inl (nF ro)))]) [0, 1, 2, 3, 4] rfl rfl ?_
  show Jw G X _ 0 0 53 _ [.int (nI ((bitN sd l + pcN (ro l)) * 2))] _
  exact j_iret (w2 := [(k0, .inr (2, [.ref t0, .ref p0, .long (tr + 1000 + 10 + 1)])), (p0, .inr (3, [.int (nI be), .int (nI sd), .int (nI tu), .int (nI fo), .int (nI kn), .ref p1])), (t0, .inr (6, [.int (nI n), .int (nI m), .int (nI t), .ref t1, .ref t2, .ref t3, .ref t4])), (t1, .inl (G.2.2.1, 9, .inl (nF ru))), (t4, .inl (G.2.2.1, 9, .inl (nF ro)))]) F R0 rfl [0, 1, 2, 3, 4] rfl rfl (⟨rfl, by rw [show tr + mkT 3 = tr + 1000 + 10 + 1 from mk_t3 tr]⟩) dX2_markAs_53

set_option maxHeartbeats 4000000 in
set_option maxRecDepth 100000 in
theorem c_X2_markAs_4 (G : Gm) {k0 p0 p1 t0 t1 t2 t3 t4 n m t be sd tu fo kn l : Nat} {tr : Int64} {ru ro : Nat → Nat} (hl : l < 9) (hsd : sd < 512) (hro : ro l < 512) : Mg G yX2_markAs cX2_markAs 3 (some .int) ({ frames := 3, cells := 0, slots := 0, locals := 63 } : Room) 0 0 [.ref k0, .int (nI 4), .int (nI l)] [(k0, .inr (2, [.ref t0, .ref p0, .long tr])), (p0, .inr (3, [.int (nI be), .int (nI sd), .int (nI tu), .int (nI fo), .int (nI kn), .ref p1])), (t0, .inr (6, [.int (nI n), .int (nI m), .int (nI t), .ref t1, .ref t2, .ref t3, .ref t4])), (t1, .inl (G.2.2.1, 9, .inl (nF ru))), (t4, .inl (G.2.2.1, 9, .inl (nF ro)))] (fun r w2 => r = some (.int (mkV 4 (bitN sd l) (pcN (ro l)) (ru l) (pcN sd) l)) ∧ w2 = [(k0, .inr (2, [.ref t0, .ref p0, .long (tr + mkT 4)])), (p0, .inr (3, [.int (nI be), .int (nI sd), .int (nI tu), .int (nI fo), .int (nI kn), .ref p1])), (t0, .inr (6, [.int (nI n), .int (nI m), .int (nI t), .ref t1, .ref t2, .ref t3, .ref t4])), (t1, .inl (G.2.2.1, 9, .inl (nF ru))), (t4, .inl (G.2.2.1, 9, .inl (nF ro)))]) := by
  refine Mg.mk (lv := [(0, .ref k0), (1, .int (nI 4)), (2, .int (nI l))]) (by decide) rfl rfl (fun X F R0 => ?_)
  refine j_iload_n (q := 1) (i0 := 1) F rfl dX2_markAs_0 rfl ?_
  refine j_tabIn (t := 54) F dX2_markAs_1 (by decide) (by decide) rfl rfl ?_
  refine j_aload_n (q := 55) (i0 := 0) F rfl dX2_markAs_54 rfl ?_
  refine j_iload_n (q := 56) (i0 := 2) F rfl dX2_markAs_55 rfl ?_
  refine j_callV (q := 59) (ci := 2) (q0 := 0) (As := [.int (nI l)]) (wr := []) (st := []) F (c_X2_asAlley G (tr := tr) hl hsd hro) kwX2_asAlley tw_624 tw_19 tw_622 ⟨Nat.le_of_ble_eq_true rfl, Nat.le_of_ble_eq_true rfl, rfl, rfl, Nat.le_of_ble_eq_true rfl, Nat.le_of_ble_eq_true rfl⟩ [0, 1, 2, 3, 4] [] rfl rfl rfl rfl rfl rfl rfl rfl rfl (Nat.le_of_ble_eq_true rfl) dX2_markAs_56 rfl ?_
  rintro r_ w_ ⟨rfl, rfl⟩
  refine j_w (w' := [(k0, .inr (2, [.ref t0, .ref p0, .long (tr + 10000 + 100 + 1)])), (p0, .inr (3, [.int (nI be), .int (nI sd), .int (nI tu), .int (nI fo), .int (nI kn), .ref p1])), (t0, .inr (6, [.int (nI n), .int (nI m), .int (nI t), .ref t1, .ref t2, .ref t3, .ref t4])), (t1, .inl (G.2.2.1, 9, .inl (nF ru))), (t4, .inl (G.2.2.1, 9, .inl (nF ro)))]) [0, 1, 2, 3, 4] rfl rfl ?_
  show Jw G X _ 0 0 59 _ [.int (nI (bitN sd l) - nI (ru l) + nI l)] _
  exact j_iret (w2 := [(k0, .inr (2, [.ref t0, .ref p0, .long (tr + 10000 + 100 + 1)])), (p0, .inr (3, [.int (nI be), .int (nI sd), .int (nI tu), .int (nI fo), .int (nI kn), .ref p1])), (t0, .inr (6, [.int (nI n), .int (nI m), .int (nI t), .ref t1, .ref t2, .ref t3, .ref t4])), (t1, .inl (G.2.2.1, 9, .inl (nF ru))), (t4, .inl (G.2.2.1, 9, .inl (nF ro)))]) F R0 rfl [0, 1, 2, 3, 4] rfl rfl (⟨rfl, by rw [show tr + mkT 4 = tr + 10000 + 100 + 1 from mk_t4 tr]⟩) dX2_markAs_59

set_option maxHeartbeats 4000000 in
set_option maxRecDepth 100000 in
theorem c_X2_markAs_5 (G : Gm) {k0 p0 p1 t0 t1 t2 t3 t4 n m t be sd tu fo kn l : Nat} {tr : Int64} {ru ro : Nat → Nat} (hl : l < 9) (hsd : sd < 512) (hro : ro l < 512) : Mg G yX2_markAs cX2_markAs 3 (some .int) ({ frames := 3, cells := 0, slots := 0, locals := 63 } : Room) 0 0 [.ref k0, .int (nI 5), .int (nI l)] [(k0, .inr (2, [.ref t0, .ref p0, .long tr])), (p0, .inr (3, [.int (nI be), .int (nI sd), .int (nI tu), .int (nI fo), .int (nI kn), .ref p1])), (t0, .inr (6, [.int (nI n), .int (nI m), .int (nI t), .ref t1, .ref t2, .ref t3, .ref t4])), (t1, .inl (G.2.2.1, 9, .inl (nF ru))), (t4, .inl (G.2.2.1, 9, .inl (nF ro)))] (fun r w2 => r = some (.int (mkV 5 (bitN sd l) (pcN (ro l)) (ru l) (pcN sd) l)) ∧ w2 = [(k0, .inr (2, [.ref t0, .ref p0, .long (tr + mkT 5)])), (p0, .inr (3, [.int (nI be), .int (nI sd), .int (nI tu), .int (nI fo), .int (nI kn), .ref p1])), (t0, .inr (6, [.int (nI n), .int (nI m), .int (nI t), .ref t1, .ref t2, .ref t3, .ref t4])), (t1, .inl (G.2.2.1, 9, .inl (nF ru))), (t4, .inl (G.2.2.1, 9, .inl (nF ro)))]) := by
  refine Mg.mk (lv := [(0, .ref k0), (1, .int (nI 5)), (2, .int (nI l))]) (by decide) rfl rfl (fun X F R0 => ?_)
  refine j_iload_n (q := 1) (i0 := 1) F rfl dX2_markAs_0 rfl ?_
  refine j_tabIn (t := 60) F dX2_markAs_1 (by decide) (by decide) rfl rfl ?_
  refine j_aload_n (q := 61) (i0 := 0) F rfl dX2_markAs_60 rfl ?_
  refine j_iload_n (q := 62) (i0 := 2) F rfl dX2_markAs_61 rfl ?_
  refine j_callV (q := 65) (ci := 2) (q0 := 0) (As := [.int (nI l)]) (wr := []) (st := []) F (c_X2_asBrides G (tr := tr) hl hsd hro) kwX2_asBrides tw_629 tw_20 tw_627 ⟨Nat.le_of_ble_eq_true rfl, Nat.le_of_ble_eq_true rfl, rfl, rfl, Nat.le_of_ble_eq_true rfl, Nat.le_of_ble_eq_true rfl⟩ [0, 1, 2, 3, 4] [] rfl rfl rfl rfl rfl rfl rfl rfl rfl (Nat.le_of_ble_eq_true rfl) dX2_markAs_62 rfl ?_
  rintro r_ w_ ⟨rfl, rfl⟩
  refine j_w (w' := [(k0, .inr (2, [.ref t0, .ref p0, .long (tr + 100000 + 1)])), (p0, .inr (3, [.int (nI be), .int (nI sd), .int (nI tu), .int (nI fo), .int (nI kn), .ref p1])), (t0, .inr (6, [.int (nI n), .int (nI m), .int (nI t), .ref t1, .ref t2, .ref t3, .ref t4])), (t1, .inl (G.2.2.1, 9, .inl (nF ru))), (t4, .inl (G.2.2.1, 9, .inl (nF ro)))]) [0, 1, 2, 3, 4] rfl rfl ?_
  show Jw G X _ 0 0 65 _ [.int (nI (bitN sd l + pcN sd))] _
  exact j_iret (w2 := [(k0, .inr (2, [.ref t0, .ref p0, .long (tr + 100000 + 1)])), (p0, .inr (3, [.int (nI be), .int (nI sd), .int (nI tu), .int (nI fo), .int (nI kn), .ref p1])), (t0, .inr (6, [.int (nI n), .int (nI m), .int (nI t), .ref t1, .ref t2, .ref t3, .ref t4])), (t1, .inl (G.2.2.1, 9, .inl (nF ru))), (t4, .inl (G.2.2.1, 9, .inl (nF ro)))]) F R0 rfl [0, 1, 2, 3, 4] rfl rfl (⟨rfl, by rw [show tr + mkT 5 = tr + 100000 + 1 from mk_t5 tr]⟩) dX2_markAs_65

