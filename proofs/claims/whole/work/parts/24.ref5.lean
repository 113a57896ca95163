theorem plc_zero {f ro : Nat → Nat} {n sd fr b : Nat} (h : plc f ro n sd fr b = 0) : ∀ d, plc f ro n sd fr (b + d) = 0
  | 0 => h
  | d + 1 => by
    have hz : ∀ l, wrF ro 0 l = 0 := by
      intro l
      induction l with
      | zero => rfl
      | succ l ih => rw [wrF, if_neg (by simp), ih]
    show wrF ro (plc f ro n sd fr (b + d)) n &&& _ = 0
    rw [plc_zero h d, hz, Nat.zero_and]
def mxv (g : Nat → Nat) (l : Nat) : Int32 := if l = 0 then -1 else nI (g (amx g l))
theorem mxv_le {g : Nat → Nat} {l : Nat} (h1 : g l < 2 ^ 31) (h2 : g (amx g l) < 2 ^ 31) : nI (g l) ≤ mxv g l ↔ ¬ (l = 0 ∨ g (amx g l) < g l) := by
  unfold mxv
  by_cases h : l = 0
  · rw [if_pos h]
    refine ⟨fun z => absurd z ?_, fun z => absurd (Or.inl h) z⟩
    rw [Int32.le_iff_toInt_le, nI_toInt h1, show (-1 : Int32).toInt = -1 from rfl]
    omega
  · rw [if_neg h, nI_leI h1 h2]
    omega
theorem mxv_up {g : Nat → Nat} {l : Nat} (h : l = 0 ∨ g (amx g l) < g l) : nI l = mfl g (l + 1) ∧ nI (g l) = mxv g (l + 1) := by
  have e : amx g (l + 1) = l := by
    rw [amx]
    by_cases h0 : l = 0
    · rw [if_pos h0, h0]
    · rw [if_neg h0, if_pos (h.resolve_left h0)]
  rw [mfl, if_neg (by omega), mxv, if_neg (by omega), e]
  exact ⟨rfl, rfl⟩
theorem mxv_st {g : Nat → Nat} {l : Nat} (h : ¬ (l = 0 ∨ g (amx g l) < g l)) : mfl g l = mfl g (l + 1) ∧ mxv g l = mxv g (l + 1) := by
  have h0 : ¬ l = 0 := fun z => h (Or.inl z)
  have e : amx g (l + 1) = amx g l := by
    rw [amx, if_neg h0, if_neg (fun z => h (Or.inr z))]
  rw [mfl, mfl, if_neg h0, if_neg (by omega), mxv, mxv, if_neg h0, if_neg (by omega), e]
  exact ⟨rfl, rfl⟩
set_option maxHeartbeats 4000000 in
set_option maxRecDepth 100000 in
theorem c_X8_ahead (G : Gm) {e0 e1 e2 e3 e4 e5 e6 e7 e8 e9 ea eb : Nat} {ln aa bg tk td rl rs rd n m be sd tu fo kn tl rn : Nat} {ru la lb ne pa : Nat → Nat} {wh : Nat → Int32} {tr : Int64} {x y : Int32} (hT : Tok n m ru la lb) (hP : PrOk n m (be, sd, tu, fo, kn, pa)) : Mg G yX8_ahead cX8_ahead 7 (some .int) ({ frames := 2, cells := 0, slots := 0, locals := 49 } : Room) 0 0 [.ref e0, .int x, .int y] [(e0, .inr (8, [.ref e1, .int (nI ln), .int (nI aa), .int (nI bg), .int (nI tk), .int (nI td), .int (nI rl), .int (nI rs), .int (nI rd), .ref e2, .ref e3, .ref e4, .int (nI n), .int (nI m), .ref e5, .ref e6, .ref e7, .int (nI be), .int (nI sd), .int (nI tu), .int (nI fo), .ref e8, .ref e9, .int (nI kn), .int (nI tl), .int (nI rn), .ref ea, .long tr, .ref eb])), (e5, .inl (G.2.2.1, 9, .inl (nF ru))), (e6, .inl (G.2.2.1, 15, .inl (nF la))), (e7, .inl (G.2.2.1, 15, .inl (nF lb))), (e8, .inl (G.2.2.1, 9, .inl (nF ne))), (ea, .inl (G.2.2.1, 512, .inl wh))] (fun r w2 => ∃ ne2 wh2 tl2 rn2 r2, aAhead n (Fw n m ru la lb fo) x y r2 ∧ r = some (.int r2) ∧ w2 = [(e0, .inr (8, [.ref e1, .int (nI ln), .int (nI aa), .int (nI bg), .int (nI tk), .int (nI td), .int (nI rl), .int (nI rs), .int (nI rd), .ref e2, .ref e3, .ref e4, .int (nI n), .int (nI m), .ref e5, .ref e6, .ref e7, .int (nI be), .int (nI sd), .int (nI tu), .int (nI fo), .ref e8, .ref e9, .int (nI kn), .int (nI tl2), .int (nI rn2), .ref ea, .long tr, .ref eb])), (e5, .inl (G.2.2.1, 9, .inl (nF ru))), (e6, .inl (G.2.2.1, 15, .inl (nF la))), (e7, .inl (G.2.2.1, 15, .inl (nF lb))), (e8, .inl (G.2.2.1, 9, .inl (nF ne2))), (ea, .inl (G.2.2.1, 512, .inl wh2))]) := by
  have hn := hT.1
  have hm := hT.2.1
  have h9 := p9 hn
  have h15 := p15 hm
  have hsd : sd < 512 := by have := hP.2.1; dsimp only at this; omega
  have hfo : fo < 32768 := by have := hP.2.2.2.1; dsimp only at this; omega
  refine Mg.mk (lv := [(0, .ref e0), (1, .int x), (2, .int y)]) (by decide) rfl rfl (fun X F R0 => ?_)
  refine j_aload_n (q := 1) (i0 := 0) F rfl dX8_ahead_0 rfl ?_
  refine j_iload_n (q := 2) (i0 := 1) F rfl dX8_ahead_1 rfl ?_
  refine j_callV (q := 5) (ci := 8) (q0 := 0) (As := [.int x]) (wr := [(e5, .inl (G.2.2.1, 9, .inl (nF ru))), (e6, .inl (G.2.2.1, 15, .inl (nF la))), (e7, .inl (G.2.2.1, 15, .inl (nF lb))), (e8, .inl (G.2.2.1, 9, .inl (nF ne))), (ea, .inl (G.2.2.1, 512, .inl wh))]) (st := []) F (c_X8_isStand G (x := x) hn) kwX8_isStand tw_875 tw_34 tw_873 ⟨Nat.le_of_ble_eq_true rfl, Nat.le_of_ble_eq_true rfl, rfl, rfl, Nat.le_of_ble_eq_true rfl, Nat.le_of_ble_eq_true rfl⟩ [0] [1, 2, 3, 4, 5] rfl rfl rfl rfl rfl rfl rfl rfl rfl (Nat.le_of_ble_eq_true rfl) dX8_ahead_2 rfl ?_
  rintro r_ w_ ⟨rfl, (⟨rfl, hx⟩ | ⟨rfl, hx⟩)⟩
  · skip
    refine j_w (w' := [(e0, .inr (8, [.ref e1, .int (nI ln), .int (nI aa), .int (nI bg), .int (nI tk), .int (nI td), .int (nI rl), .int (nI rs), .int (nI rd), .ref e2, .ref e3, .ref e4, .int (nI n), .int (nI m), .ref e5, .ref e6, .ref e7, .int (nI be), .int (nI sd), .int (nI tu), .int (nI fo), .ref e8, .ref e9, .int (nI kn), .int (nI tl), .int (nI rn), .ref ea, .long tr, .ref eb])), (e5, .inl (G.2.2.1, 9, .inl (nF ru))), (e6, .inl (G.2.2.1, 15, .inl (nF la))), (e7, .inl (G.2.2.1, 15, .inl (nF lb))), (e8, .inl (G.2.2.1, 9, .inl (nF ne))), (ea, .inl (G.2.2.1, 512, .inl wh))]) [5, 0, 1, 2, 3, 4] rfl rfl ?_
    show Jw G X _ 0 0 5 _ [.int (nI 1)] _
    refine j_if_eq (q := 8) (t := 18) F (cf (by decide)) dX8_ahead_5 rfl rfl (fun z => False.elim z) (fun _ => ?_)
    refine j_iload_n (q := 9) (i0 := 2) F rfl dX8_ahead_8 rfl ?_
    refine j_i2l (q := 10) (v := Int32.toInt64 y) F rfl dX8_ahead_9 rfl ?_
    refine j_lconst (q := 11) (v := 0) F (by decide) dX8_ahead_10 rfl ?_
    refine j_lconst (q := 12) (v := 1) F (by decide) dX8_ahead_11 rfl ?_
    refine j_callS (q := 15) (As := [.long (Int32.toInt64 y), .long 0, .long 1]) (wr := [(e0, .inr (8, [.ref e1, .int (nI ln), .int (nI aa), .int (nI bg), .int (nI tk), .int (nI td), .int (nI rl), .int (nI rs), .int (nI rd), .ref e2, .ref e3, .ref e4, .int (nI n), .int (nI m), .ref e5, .ref e6, .ref e7, .int (nI be), .int (nI sd), .int (nI tu), .int (nI fo), .ref e8, .ref e9, .int (nI kn), .int (nI tl), .int (nI rn), .ref ea, .long tr, .ref eb])), (e5, .inl (G.2.2.1, 9, .inl (nF ru))), (e6, .inl (G.2.2.1, 15, .inl (nF la))), (e7, .inl (G.2.2.1, 15, .inl (nF lb))), (e8, .inl (G.2.2.1, 9, .inl (nF ne))), (ea, .inl (G.2.2.1, 512, .inl wh))]) (st := []) F (c_inR G (x := y) (n := 2) rfl (by decide) (rfl)) kwX8_in tw_752 tw_751 ⟨Nat.le_of_ble_eq_true rfl, Nat.le_of_ble_eq_true rfl, rfl, rfl, Nat.le_of_ble_eq_true rfl, Nat.le_of_ble_eq_true rfl⟩ [] [0, 1, 2, 3, 4, 5] rfl rfl rfl rfl rfl rfl rfl (Nat.le_of_ble_eq_true rfl) dX8_ahead_12 rfl ?_
    rintro r_ w_ ⟨rfl, (⟨rfl, hy⟩ | ⟨rfl, hy⟩)⟩
    · skip
      refine j_w (w' := [(e0, .inr (8, [.ref e1, .int (nI ln), .int (nI aa), .int (nI bg), .int (nI tk), .int (nI td), .int (nI rl), .int (nI rs), .int (nI rd), .ref e2, .ref e3, .ref e4, .int (nI n), .int (nI m), .ref e5, .ref e6, .ref e7, .int (nI be), .int (nI sd), .int (nI tu), .int (nI fo), .ref e8, .ref e9, .int (nI kn), .int (nI tl), .int (nI rn), .ref ea, .long tr, .ref eb])), (e5, .inl (G.2.2.1, 9, .inl (nF ru))), (e6, .inl (G.2.2.1, 15, .inl (nF la))), (e7, .inl (G.2.2.1, 15, .inl (nF lb))), (e8, .inl (G.2.2.1, 9, .inl (nF ne))), (ea, .inl (G.2.2.1, 512, .inl wh))]) [0, 1, 2, 3, 4, 5] rfl rfl ?_
      show Jw G X _ 0 0 15 _ [.int (nI 1)] _
      refine j_if_ne (q := 18) (t := 20) F (cf (by decide)) dX8_ahead_15 rfl rfl (fun _ => ?_) (fun z => False.elim z)
      obtain ⟨j, hj, rfl⟩ := hx
      obtain ⟨w, hw, rfl⟩ := hy
      refine j_aload_n (q := 21) (i0 := 0) F rfl dX8_ahead_20 rfl ?_
      refine j_aload_n (q := 22) (i0 := 0) F rfl dX8_ahead_21 rfl ?_
      refine j_get (q := 25) (ci := 8) (q0 := 0) (kf := 20) (v := .int (nI fo)) F inX8 rfl rfl rfl tw_678 rfl rfl dX8_ahead_22 rfl ?_
      refine j_callV (q := 28) (ci := 8) (q0 := 0) (As := [.int (nI fo)]) (wr := [(e5, .inl (G.2.2.1, 9, .inl (nF ru))), (ea, .inl (G.2.2.1, 512, .inl wh))]) (st := []) F (c_X8_looks G (wo := fo) hT (hfo)) kwX8_looks tw_826 tw_30 tw_824 ⟨Nat.le_of_ble_eq_true rfl, Nat.le_of_ble_eq_true rfl, rfl, rfl, Nat.le_of_ble_eq_true rfl, Nat.le_of_ble_eq_true rfl⟩ [0, 2, 3, 4] [1, 5] rfl rfl rfl rfl rfl rfl rfl rfl rfl (Nat.le_of_ble_eq_true rfl) dX8_ahead_25 rfl ?_
      rintro r_ w_ ⟨ne2, hne2, rfl, rfl⟩
      refine j_w (w' := [(e0, .inr (8, [.ref e1, .int (nI ln), .int (nI aa), .int (nI bg), .int (nI tk), .int (nI td), .int (nI rl), .int (nI rs), .int (nI rd), .ref e2, .ref e3, .ref e4, .int (nI n), .int (nI m), .ref e5, .ref e6, .ref e7, .int (nI be), .int (nI sd), .int (nI tu), .int (nI fo), .ref e8, .ref e9, .int (nI kn), .int (nI tl), .int (nI rn), .ref ea, .long tr, .ref eb])), (e5, .inl (G.2.2.1, 9, .inl (nF ru))), (e6, .inl (G.2.2.1, 15, .inl (nF la))), (e7, .inl (G.2.2.1, 15, .inl (nF lb))), (e8, .inl (G.2.2.1, 9, .inl (nF ne2))), (ea, .inl (G.2.2.1, 512, .inl wh))]) [2, 0, 3, 4, 5, 1] rfl rfl ?_
      show Jw G X _ 0 0 28 _ [] _
      have hW := Wk.of hT hne2
      refine j_iconst (q := 29) (v := nI 0) F (by decide) dX8_ahead_28 rfl ?_
      refine j_istore_n (q := 30) (lv' := [(3, .int (nI 0)), (0, .ref e0), (1, .int (nI j)), (2, .int (nI w))]) F dX8_ahead_29 (by decide) rfl rfl ?_
      refine j_bipush (q := 32) (v := (-9)) F (by decide) dX8_ahead_30 rfl ?_
      refine j_istore (q := 34) (lv' := [(4, .int (-9)), (3, .int (nI 0)), (0, .ref e0), (1, .int (nI j)), (2, .int (nI w))]) F dX8_ahead_32 (by decide) rfl rfl ?_
      refine j_iconst (q := 35) (v := nI 0) F (by decide) dX8_ahead_34 rfl ?_
      refine j_istore (q := 37) (lv' := [(5, .int (nI 0)), (4, .int (-9)), (3, .int (nI 0)), (0, .ref e0), (1, .int (nI j)), (2, .int (nI w))]) F dX8_ahead_35 (by decide) rfl rfl ?_
      have lp3 : ∀ (fu : Nat) (i : Nat) (mn1 : Nat) (le1 : Int32) (hi : i ≤ 2 ^ n) (hC : CnSt (fun s => nI (Fw n m ru la lb fo s) = nI j) i mn1 le1), (2 ^ n - i) < fu → Jw G X 7 0 0 37 [(0, .ref e0), (1, .int (nI j)), (2, .int (nI w)), (3, .int (nI mn1)), (4, .int le1), (5, .int (nI i))] [] [(e0, .inr (8, [.ref e1, .int (nI ln), .int (nI aa), .int (nI bg), .int (nI tk), .int (nI td), .int (nI rl), .int (nI rs), .int (nI rd), .ref e2, .ref e3, .ref e4, .int (nI n), .int (nI m), .ref e5, .ref e6, .ref e7, .int (nI be), .int (nI sd), .int (nI tu), .int (nI fo), .ref e8, .ref e9, .int (nI kn), .int (nI tl), .int (nI rn), .ref ea, .long tr, .ref eb])), (e5, .inl (G.2.2.1, 9, .inl (nF ru))), (e6, .inl (G.2.2.1, 15, .inl (nF la))), (e7, .inl (G.2.2.1, 15, .inl (nF lb))), (e8, .inl (G.2.2.1, 9, .inl (nF ne2))), (ea, .inl (G.2.2.1, 512, .inl wh))] := by
        intro fu
        induction fu with
        | zero => intro i mn1 le1 hi hC hfu; exact absurd hfu (Nat.not_lt_zero _)
        | succ fu ih3 =>
          intro i mn1 le1 hi hC hfu
          have hCn := hC.le_i
          refine j_iload (q := 39) (i0 := 5) F rfl dX8_ahead_37 rfl ?_
          refine j_iconst (q := 40) (v := nI 1) F (by decide) dX8_ahead_39 rfl ?_
          refine j_aload_n (q := 41) (i0 := 0) F rfl dX8_ahead_40 rfl ?_
          refine j_get (q := 44) (ci := 8) (q0 := 0) (kf := 12) (v := .int (nI n)) F inX8 rfl rfl rfl tw_670 rfl rfl dX8_ahead_41 rfl ?_
          refine j_ishl (q := 45) (v := nI (2 ^ n)) F (nx_shl1 (by omega)) dX8_ahead_44 rfl ?_
          refine j_icmp_ge (q := 48) (t := 102) F (Pp := 2 ^ n ≤ i) (nI_leI (by omega) (by omega)) dX8_ahead_45 rfl rfl (fun c4 => ?_) (fun c4 => ?_)
          · skip
            refine j_iload_n (q := 103) (i0 := 2) F rfl dX8_ahead_102 rfl ?_
            refine j_if_ne (q := 106) (t := 110) F (Pp := nI w = nI 0) (Iff.rfl) dX8_ahead_103 rfl rfl (fun cw => ?_) (fun cw => ?_)
            · skip
              refine j_iload (q := 112) (i0 := 4) F rfl dX8_ahead_110 rfl ?_
              exact j_iret (w2 := [(e0, .inr (8, [.ref e1, .int (nI ln), .int (nI aa), .int (nI bg), .int (nI tk), .int (nI td), .int (nI rl), .int (nI rs), .int (nI rd), .ref e2, .ref e3, .ref e4, .int (nI n), .int (nI m), .ref e5, .ref e6, .ref e7, .int (nI be), .int (nI sd), .int (nI tu), .int (nI fo), .ref e8, .ref e9, .int (nI kn), .int (nI tl), .int (nI rn), .ref ea, .long tr, .ref eb])), (e5, .inl (G.2.2.1, 9, .inl (nF ru))), (e6, .inl (G.2.2.1, 15, .inl (nF la))), (e7, .inl (G.2.2.1, 15, .inl (nF lb))), (e8, .inl (G.2.2.1, 9, .inl (nF ne2))), (ea, .inl (G.2.2.1, 512, .inl wh))]) F R0 rfl [0, 1, 2, 3, 4, 5] rfl rfl (⟨_, _, _, _, _, Or.inr ⟨⟨⟨j, hj, rfl⟩, ⟨w, hw, rfl⟩⟩, _, _, (show CnSt (fun s => nI (Fw n m ru la lb fo s) = nI j) (2 ^ n) mn1 le1 from (show i = 2 ^ n by omega) ▸ hC), by rw [if_neg cw]⟩, rfl, rfl⟩) dX8_ahead_112
            · skip
              refine j_iload_n (q := 107) (i0 := 3) F rfl dX8_ahead_106 rfl ?_
              refine j_goto (t := 112) F dX8_ahead_107 rfl ?_
              exact j_iret (w2 := [(e0, .inr (8, [.ref e1, .int (nI ln), .int (nI aa), .int (nI bg), .int (nI tk), .int (nI td), .int (nI rl), .int (nI rs), .int (nI rd), .ref e2, .ref e3, .ref e4, .int (nI n), .int (nI m), .ref e5, .ref e6, .ref e7, .int (nI be), .int (nI sd), .int (nI tu), .int (nI fo), .ref e8, .ref e9, .int (nI kn), .int (nI tl), .int (nI rn), .ref ea, .long tr, .ref eb])), (e5, .inl (G.2.2.1, 9, .inl (nF ru))), (e6, .inl (G.2.2.1, 15, .inl (nF la))), (e7, .inl (G.2.2.1, 15, .inl (nF lb))), (e8, .inl (G.2.2.1, 9, .inl (nF ne2))), (ea, .inl (G.2.2.1, 512, .inl wh))]) F R0 rfl [0, 1, 2, 3, 4, 5] rfl rfl (⟨_, _, _, _, _, Or.inr ⟨⟨⟨j, hj, rfl⟩, ⟨w, hw, rfl⟩⟩, _, _, (show CnSt (fun s => nI (Fw n m ru la lb fo s) = nI j) (2 ^ n) mn1 le1 from (show i = 2 ^ n by omega) ▸ hC), by rw [if_pos cw]⟩, rfl, rfl⟩) dX8_ahead_112
          · skip
            have hf5 := hW.f5 i (by omega)
            refine j_aload_n (q := 49) (i0 := 0) F rfl dX8_ahead_48 rfl ?_
            refine j_iload (q := 51) (i0 := 5) F rfl dX8_ahead_49 rfl ?_
            refine j_callV (q := 54) (ci := 8) (q0 := 0) (As := [.int (nI i)]) (wr := [(e6, .inl (G.2.2.1, 15, .inl (nF la))), (e7, .inl (G.2.2.1, 15, .inl (nF lb))), (ea, .inl (G.2.2.1, 512, .inl wh))]) (st := []) F (c_X8_rings G hW (s := i) (by omega)) kwX8_rings tw_830 tw_31 tw_828 ⟨Nat.le_of_ble_eq_true rfl, Nat.le_of_ble_eq_true rfl, rfl, rfl, Nat.le_of_ble_eq_true rfl, Nat.le_of_ble_eq_true rfl⟩ [0, 1, 4] [2, 3, 5] rfl rfl rfl rfl rfl rfl rfl rfl rfl (Nat.le_of_ble_eq_true rfl) dX8_ahead_51 rfl ?_
            rintro r_ w_ ⟨rfl, rfl⟩
            refine j_w (w' := [(e0, .inr (8, [.ref e1, .int (nI ln), .int (nI aa), .int (nI bg), .int (nI tk), .int (nI td), .int (nI rl), .int (nI rs), .int (nI rd), .ref e2, .ref e3, .ref e4, .int (nI n), .int (nI m), .ref e5, .ref e6, .ref e7, .int (nI be), .int (nI sd), .int (nI tu), .int (nI fo), .ref e8, .ref e9, .int (nI kn), .int (nI tl), .int (nI rn), .ref ea, .long tr, .ref eb])), (e5, .inl (G.2.2.1, 9, .inl (nF ru))), (e6, .inl (G.2.2.1, 15, .inl (nF la))), (e7, .inl (G.2.2.1, 15, .inl (nF lb))), (e8, .inl (G.2.2.1, 9, .inl (nF ne2))), (ea, .inl (G.2.2.1, 512, .inl wh))]) [3, 4, 0, 1, 5, 2] rfl rfl ?_
            show Jw G X _ 0 0 54 _ [.int (nI (Fw n m ru la lb fo i))] _
            refine j_iload_n (q := 55) (i0 := 1) F rfl dX8_ahead_54 rfl ?_
            refine j_icmp_ne (q := 58) (t := 62) F (Pp := Fw n m ru la lb fo i = j) (nI_eq (by omega) (by omega)) dX8_ahead_55 rfl rfl (fun cq => ?_) (fun cq => ?_)
            · skip
              refine j_iconst (q := 63) (v := nI 0) F (by decide) dX8_ahead_62 rfl ?_
              refine j_istore (q := 65) (lv' := [(6, .int (nI 0)), (0, .ref e0), (1, .int (nI j)), (2, .int (nI w)), (3, .int (nI mn1)), (4, .int le1), (5, .int (nI i))]) F dX8_ahead_63 (by decide) rfl rfl ?_
              refine j_iload (q := 67) (i0 := 0) F rfl dX8_ahead_65 rfl ?_
              refine j_if_eq (q := 70) (t := 79) F (ct (by decide)) dX8_ahead_67 rfl rfl (fun _ => ?_) (fun z => absurd trivial z)
              refine j_iload (q := 81) (i0 := 5) F rfl dX8_ahead_79 rfl ?_
              refine j_istore (q := 83) (lv' := [(4, .int le1), (6, .int (nI 0)), (0, .ref e0), (1, .int (nI j)), (2, .int (nI w)), (3, .int (nI mn1)), (5, .int (nI i))]) F dX8_ahead_81 (by decide) rfl rfl ?_
              refine j_iload_n (q := 84) (i0 := 5) F rfl dX8_ahead_83 rfl ?_
              refine j_iload (q := 86) (i0 := 1) F rfl dX8_ahead_84 rfl ?_
              refine j_if_eq (q := 89) (t := 93) F (ct (by decide)) dX8_ahead_86 rfl rfl (fun _ => ?_) (fun z => absurd trivial z)
              refine j_iconst (q := 94) (v := nI 0) F (by decide) dX8_ahead_93 rfl ?_
              refine j_iadd (q := 95) (v := nI (mn1 + 0)) F (nI_add _ _) dX8_ahead_94 rfl ?_
              refine j_istore_n (q := 96) (lv' := [(3, .int (nI (mn1 + 0))), (4, .int le1), (6, .int (nI 0)), (0, .ref e0), (1, .int (nI j)), (2, .int (nI w)), (5, .int (nI i))]) F dX8_ahead_95 (by decide) rfl rfl ?_
              refine j_iinc (q := 99) (i0 := 6) (v := nI (i + 1)) (lv' := [(5, .int (nI (i + 1))), (3, .int (nI (mn1 + 0))), (4, .int le1), (6, .int (nI 0)), (0, .ref e0), (1, .int (nI j)), (2, .int (nI w))]) F dX8_ahead_96 rfl (nI_add _ _) (by decide) rfl rfl ?_
              refine j_goto (t := 37) F dX8_ahead_99 rfl ?_
              refine j_lv [4, 5, 6, 1, 2, 0] (lv' := [(0, .ref e0), (1, .int (nI j)), (2, .int (nI w)), (3, .int (nI (mn1 + 0))), (4, .int le1), (5, .int (nI (i + 1)))]) rfl ?_
              exact ih3 (i + 1) _ le1 (by omega) (hC.skip (fun z => cq ((nI_eq (by omega) (by omega)).mp z))) (by omega)
            · skip
              refine j_iconst (q := 59) (v := nI 1) F (by decide) dX8_ahead_58 rfl ?_
              refine j_goto (t := 63) F dX8_ahead_59 rfl ?_
              refine j_istore (q := 65) (lv' := [(6, .int (nI 1)), (0, .ref e0), (1, .int (nI j)), (2, .int (nI w)), (3, .int (nI mn1)), (4, .int le1), (5, .int (nI i))]) F dX8_ahead_63 (by decide) rfl rfl ?_
              refine j_iload (q := 67) (i0 := 0) F rfl dX8_ahead_65 rfl ?_
              refine j_if_eq (q := 70) (t := 79) F (cf (by decide)) dX8_ahead_67 rfl rfl (fun z => False.elim z) (fun _ => ?_)
              refine j_iload_n (q := 71) (i0 := 4) F rfl dX8_ahead_70 rfl ?_
              refine j_if_ne (q := 74) (t := 79) F (Pp := mn1 = 0) (nI_eq0 (by omega)) dX8_ahead_71 rfl rfl (fun cz => ?_) (fun cz => ?_)
              · skip
                refine j_iload (q := 81) (i0 := 5) F rfl dX8_ahead_79 rfl ?_
                refine j_istore (q := 83) (lv' := [(4, .int le1), (6, .int (nI 1)), (0, .ref e0), (1, .int (nI j)), (2, .int (nI w)), (3, .int (nI mn1)), (5, .int (nI i))]) F dX8_ahead_81 (by decide) rfl rfl ?_
                refine j_iload_n (q := 84) (i0 := 5) F rfl dX8_ahead_83 rfl ?_
                refine j_iload (q := 86) (i0 := 1) F rfl dX8_ahead_84 rfl ?_
                refine j_if_eq (q := 89) (t := 93) F (cf (by decide)) dX8_ahead_86 rfl rfl (fun z => False.elim z) (fun _ => ?_)
                refine j_iconst (q := 90) (v := nI 1) F (by decide) dX8_ahead_89 rfl ?_
                refine j_goto (t := 94) F dX8_ahead_90 rfl ?_
                refine j_iadd (q := 95) (v := nI (mn1 + 1)) F (nI_add _ _) dX8_ahead_94 rfl ?_
                refine j_istore_n (q := 96) (lv' := [(3, .int (nI (mn1 + 1))), (4, .int le1), (6, .int (nI 1)), (0, .ref e0), (1, .int (nI j)), (2, .int (nI w)), (5, .int (nI i))]) F dX8_ahead_95 (by decide) rfl rfl ?_
                refine j_iinc (q := 99) (i0 := 6) (v := nI (i + 1)) (lv' := [(5, .int (nI (i + 1))), (3, .int (nI (mn1 + 1))), (4, .int le1), (6, .int (nI 1)), (0, .ref e0), (1, .int (nI j)), (2, .int (nI w))]) F dX8_ahead_96 rfl (nI_add _ _) (by decide) rfl rfl ?_
                refine j_goto (t := 37) F dX8_ahead_99 rfl ?_
                refine j_lv [4, 5, 6, 1, 2, 0] (lv' := [(0, .ref e0), (1, .int (nI j)), (2, .int (nI w)), (3, .int (nI (mn1 + 1))), (4, .int le1), (5, .int (nI (i + 1)))]) rfl ?_
                exact ih3 (i + 1) _ _ (by omega) (hC.more cz (congrArg nI cq)) (by omega)
              · skip
                refine j_iload (q := 76) (i0 := 6) F rfl dX8_ahead_74 rfl ?_
                refine j_goto (t := 81) F dX8_ahead_76 rfl ?_
                refine j_istore (q := 83) (lv' := [(4, .int (nI i)), (6, .int (nI 1)), (0, .ref e0), (1, .int (nI j)), (2, .int (nI w)), (3, .int (nI mn1)), (5, .int (nI i))]) F dX8_ahead_81 (by decide) rfl rfl ?_
                refine j_iload_n (q := 84) (i0 := 5) F rfl dX8_ahead_83 rfl ?_
                refine j_iload (q := 86) (i0 := 1) F rfl dX8_ahead_84 rfl ?_
                refine j_if_eq (q := 89) (t := 93) F (cf (by decide)) dX8_ahead_86 rfl rfl (fun z => False.elim z) (fun _ => ?_)
                refine j_iconst (q := 90) (v := nI 1) F (by decide) dX8_ahead_89 rfl ?_
                refine j_goto (t := 94) F dX8_ahead_90 rfl ?_
                refine j_iadd (q := 95) (v := nI (mn1 + 1)) F (nI_add _ _) dX8_ahead_94 rfl ?_
                refine j_istore_n (q := 96) (lv' := [(3, .int (nI (mn1 + 1))), (4, .int (nI i)), (6, .int (nI 1)), (0, .ref e0), (1, .int (nI j)), (2, .int (nI w)), (5, .int (nI i))]) F dX8_ahead_95 (by decide) rfl rfl ?_
                refine j_iinc (q := 99) (i0 := 6) (v := nI (i + 1)) (lv' := [(5, .int (nI (i + 1))), (3, .int (nI (mn1 + 1))), (4, .int (nI i)), (6, .int (nI 1)), (0, .ref e0), (1, .int (nI j)), (2, .int (nI w))]) F dX8_ahead_96 rfl (nI_add _ _) (by decide) rfl rfl ?_
                refine j_goto (t := 37) F dX8_ahead_99 rfl ?_
                refine j_lv [4, 5, 6, 1, 2, 0] (lv' := [(0, .ref e0), (1, .int (nI j)), (2, .int (nI w)), (3, .int (nI (mn1 + 1))), (4, .int (nI i)), (5, .int (nI (i + 1)))]) rfl ?_
                exact ih3 (i + 1) _ _ (by omega) (hC.first cz (congrArg nI cq)) (by omega)
      refine j_lv [3, 4, 5, 2, 1, 0] (lv' := [(0, .ref e0), (1, .int (nI j)), (2, .int (nI w)), (3, .int (nI 0)), (4, .int (-9)), (5, .int (nI 0))]) rfl ?_
      exact lp3 _ 0 0 (-9) (Nat.zero_le _) (CnSt.z _) (Nat.lt_succ_self _)
    · skip
      refine j_w (w' := [(e0, .inr (8, [.ref e1, .int (nI ln), .int (nI aa), .int (nI bg), .int (nI tk), .int (nI td), .int (nI rl), .int (nI rs), .int (nI rd), .ref e2, .ref e3, .ref e4, .int (nI n), .int (nI m), .ref e5, .ref e6, .ref e7, .int (nI be), .int (nI sd), .int (nI tu), .int (nI fo), .ref e8, .ref e9, .int (nI kn), .int (nI tl), .int (nI rn), .ref ea, .long tr, .ref eb])), (e5, .inl (G.2.2.1, 9, .inl (nF ru))), (e6, .inl (G.2.2.1, 15, .inl (nF la))), (e7, .inl (G.2.2.1, 15, .inl (nF lb))), (e8, .inl (G.2.2.1, 9, .inl (nF ne))), (ea, .inl (G.2.2.1, 512, .inl wh))]) [0, 1, 2, 3, 4, 5] rfl rfl ?_
      show Jw G X _ 0 0 15 _ [.int (nI 0)] _
      refine j_if_ne (q := 18) (t := 20) F (ct (by decide)) dX8_ahead_15 rfl rfl (fun z => absurd trivial z) (fun _ => ?_)
      refine j_iconst (q := 19) (v := (-1)) F (by decide) dX8_ahead_18 rfl ?_
      exact j_iret (w2 := [(e0, .inr (8, [.ref e1, .int (nI ln), .int (nI aa), .int (nI bg), .int (nI tk), .int (nI td), .int (nI rl), .int (nI rs), .int (nI rd), .ref e2, .ref e3, .ref e4, .int (nI n), .int (nI m), .ref e5, .ref e6, .ref e7, .int (nI be), .int (nI sd), .int (nI tu), .int (nI fo), .ref e8, .ref e9, .int (nI kn), .int (nI tl), .int (nI rn), .ref ea, .long tr, .ref eb])), (e5, .inl (G.2.2.1, 9, .inl (nF ru))), (e6, .inl (G.2.2.1, 15, .inl (nF la))), (e7, .inl (G.2.2.1, 15, .inl (nF lb))), (e8, .inl (G.2.2.1, 9, .inl (nF ne))), (ea, .inl (G.2.2.1, 512, .inl wh))]) F R0 rfl [0, 1, 2, 3, 4, 5] rfl rfl (⟨_, _, _, _, _, Or.inl ⟨fun z => hy z.2, rfl⟩, rfl, rfl⟩) dX8_ahead_19
  · skip
    refine j_w (w' := [(e0, .inr (8, [.ref e1, .int (nI ln), .int (nI aa), .int (nI bg), .int (nI tk), .int (nI td), .int (nI rl), .int (nI rs), .int (nI rd), .ref e2, .ref e3, .ref e4, .int (nI n), .int (nI m), .ref e5, .ref e6, .ref e7, .int (nI be), .int (nI sd), .int (nI tu), .int (nI fo), .ref e8, .ref e9, .int (nI kn), .int (nI tl), .int (nI rn), .ref ea, .long tr, .ref eb])), (e5, .inl (G.2.2.1, 9, .inl (nF ru))), (e6, .inl (G.2.2.1, 15, .inl (nF la))), (e7, .inl (G.2.2.1, 15, .inl (nF lb))), (e8, .inl (G.2.2.1, 9, .inl (nF ne))), (ea, .inl (G.2.2.1, 512, .inl wh))]) [5, 0, 1, 2, 3, 4] rfl rfl ?_
    show Jw G X _ 0 0 5 _ [.int (nI 0)] _
    refine j_if_eq (q := 8) (t := 18) F (ct (by decide)) dX8_ahead_5 rfl rfl (fun _ => ?_) (fun z => absurd trivial z)
    refine j_iconst (q := 19) (v := (-1)) F (by decide) dX8_ahead_18 rfl ?_
    exact j_iret (w2 := [(e0, .inr (8, [.ref e1, .int (nI ln), .int (nI aa), .int (nI bg), .int (nI tk), .int (nI td), .int (nI rl), .int (nI rs), .int (nI rd), .ref e2, .ref e3, .ref e4, .int (nI n), .int (nI m), .ref e5, .ref e6, .ref e7, .int (nI be), .int (nI sd), .int (nI tu), .int (nI fo), .ref e8, .ref e9, .int (nI kn), .int (nI tl), .int (nI rn), .ref ea, .long tr, .ref eb])), (e5, .inl (G.2.2.1, 9, .inl (nF ru))), (e6, .inl (G.2.2.1, 15, .inl (nF la))), (e7, .inl (G.2.2.1, 15, .inl (nF lb))), (e8, .inl (G.2.2.1, 9, .inl (nF ne))), (ea, .inl (G.2.2.1, 512, .inl wh))]) F R0 rfl [0, 1, 2, 3, 4, 5] rfl rfl (⟨_, _, _, _, _, Or.inl ⟨fun z => hx z.1, rfl⟩, rfl, rfl⟩) dX8_ahead_19

theorem sb_atG {P : (Nat → Int32) → Prop} {x y : Nat → Int32} (e : x = y) (h : P y) : P x := e ▸ h
theorem hit_wh {f : Nat → Nat} {k : Nat} {wh : Nat → Int32} (h : ∀ t, t < 512 → wh t = nI (if hitB f k t = true then 1 else 0)) : ∀ t, t < 512 → upd wh (f k) (nI 1) t = nI (if hitB f (k + 1) t = true then 1 else 0) := by
  intro t ht
  have hs : hitB f (k + 1) t = if t = f k then true else hitB f k t := congrFun (hitB_s f k) t
  rw [hs]
  by_cases e : t = f k
  · subst e
    rw [pk_us, if_pos rfl]
    rfl
  · rw [pk_un e, if_neg e]
    exact h t ht
set_option maxHeartbeats 4000000 in
set_option maxRecDepth 100000 in
theorem c_X8_eden (G : Gm) {e0 e1 e2 e3 e4 e5 e6 e7 e8 e9 ea eb : Nat} {ln aa bg tk td rl rs rd n m be sd tu fo kn tl rn : Nat} {ru la lb ne pa : Nat → Nat} {wh : Nat → Int32} {tr : Int64} (hT : Tok n m ru la lb) (hP : PrOk n m (be, sd, tu, fo, kn, pa)) : Mg G yX8_eden cX8_eden 3 (some .int) ({ frames := 2, cells := 0, slots := 0, locals := 49 } : Room) 0 0 [.ref e0] [(e0, .inr (8, [.ref e1, .int (nI ln), .int (nI aa), .int (nI bg), .int (nI tk), .int (nI td), .int (nI rl), .int (nI rs), .int (nI rd), .ref e2, .ref e3, .ref e4, .int (nI n), .int (nI m), .ref e5, .ref e6, .ref e7, .int (nI be), .int (nI sd), .int (nI tu), .int (nI fo), .ref e8, .ref e9, .int (nI kn), .int (nI tl), .int (nI rn), .ref ea, .long tr, .ref eb])), (e5, .inl (G.2.2.1, 9, .inl (nF ru))), (e6, .inl (G.2.2.1, 15, .inl (nF la))), (e7, .inl (G.2.2.1, 15, .inl (nF lb))), (e8, .inl (G.2.2.1, 9, .inl (nF ne))), (ea, .inl (G.2.2.1, 512, .inl wh))] (fun r w2 => ∃ ne2 wh2 tl2 rn2, r = some (.int (nI (edn (Fw n m ru la lb fo) (2 ^ n)))) ∧ w2 = [(e0, .inr (8, [.ref e1, .int (nI ln), .int (nI aa), .int (nI bg), .int (nI tk), .int (nI td), .int (nI rl), .int (nI rs), .int (nI rd), .ref e2, .ref e3, .ref e4, .int (nI n), .int (nI m), .ref e5, .ref e6, .ref e7, .int (nI be), .int (nI sd), .int (nI tu), .int (nI fo), .ref e8, .ref e9, .int (nI kn), .int (nI tl2), .int (nI rn2), .ref ea, .long tr, .ref eb])), (e5, .inl (G.2.2.1, 9, .inl (nF ru))), (e6, .inl (G.2.2.1, 15, .inl (nF la))), (e7, .inl (G.2.2.1, 15, .inl (nF lb))), (e8, .inl (G.2.2.1, 9, .inl (nF ne2))), (ea, .inl (G.2.2.1, 512, .inl wh2))]) := by
  have hn := hT.1
  have hm := hT.2.1
  have h9 := p9 hn
  have h15 := p15 hm
  have hsd : sd < 512 := by have := hP.2.1; dsimp only at this; omega
  have hfo : fo < 32768 := by have := hP.2.2.2.1; dsimp only at this; omega
  refine Mg.mk (lv := [(0, .ref e0)]) (by decide) rfl rfl (fun X F R0 => ?_)
  refine j_aload_n (q := 1) (i0 := 0) F rfl dX8_eden_0 rfl ?_
  refine j_aload_n (q := 2) (i0 := 0) F rfl dX8_eden_1 rfl ?_
  refine j_get (q := 5) (ci := 8) (q0 := 0) (kf := 20) (v := .int (nI fo)) F inX8 rfl rfl rfl tw_678 rfl rfl dX8_eden_2 rfl ?_
  refine j_callV (q := 8) (ci := 8) (q0 := 0) (As := [.int (nI fo)]) (wr := [(e5, .inl (G.2.2.1, 9, .inl (nF ru))), (ea, .inl (G.2.2.1, 512, .inl wh))]) (st := []) F (c_X8_looks G (wo := fo) hT (hfo)) kwX8_looks tw_826 tw_30 tw_824 ⟨Nat.le_of_ble_eq_true rfl, Nat.le_of_ble_eq_true rfl, rfl, rfl, Nat.le_of_ble_eq_true rfl, Nat.le_of_ble_eq_true rfl⟩ [0, 2, 3, 4] [1, 5] rfl rfl rfl rfl rfl rfl rfl rfl rfl (Nat.le_of_ble_eq_true rfl) dX8_eden_5 rfl ?_
  rintro r_ w_ ⟨ne2, hne2, rfl, rfl⟩
  refine j_w (w' := [(e0, .inr (8, [.ref e1, .int (nI ln), .int (nI aa), .int (nI bg), .int (nI tk), .int (nI td), .int (nI rl), .int (nI rs), .int (nI rd), .ref e2, .ref e3, .ref e4, .int (nI n), .int (nI m), .ref e5, .ref e6, .ref e7, .int (nI be), .int (nI sd), .int (nI tu), .int (nI fo), .ref e8, .ref e9, .int (nI kn), .int (nI tl), .int (nI rn), .ref ea, .long tr, .ref eb])), (e5, .inl (G.2.2.1, 9, .inl (nF ru))), (e6, .inl (G.2.2.1, 15, .inl (nF la))), (e7, .inl (G.2.2.1, 15, .inl (nF lb))), (e8, .inl (G.2.2.1, 9, .inl (nF ne2))), (ea, .inl (G.2.2.1, 512, .inl wh))]) [2, 0, 3, 4, 5, 1] rfl rfl ?_
  show Jw G X _ 0 0 8 _ [] _
  have hW := Wk.of hT hne2
  refine j_iconst (q := 9) (v := nI 0) F (by decide) dX8_eden_8 rfl ?_
  refine j_istore_n (q := 10) (lv' := [(1, .int (nI 0)), (0, .ref e0)]) F dX8_eden_9 (by decide) rfl rfl ?_
  have lp1 : ∀ (fu : Nat) (k : Nat) (hk : k ≤ 512), (512 - k) < fu → Jw G X 3 0 0 10 [(0, .ref e0), (1, .int (nI k))] [] [(e0, .inr (8, [.ref e1, .int (nI ln), .int (nI aa), .int (nI bg), .int (nI tk), .int (nI td), .int (nI rl), .int (nI rs), .int (nI rd), .ref e2, .ref e3, .ref e4, .int (nI n), .int (nI m), .ref e5, .ref e6, .ref e7, .int (nI be), .int (nI sd), .int (nI tu), .int (nI fo), .ref e8, .ref e9, .int (nI kn), .int (nI tl), .int (nI rn), .ref ea, .long tr, .ref eb])), (e5, .inl (G.2.2.1, 9, .inl (nF ru))), (e6, .inl (G.2.2.1, 15, .inl (nF la))), (e7, .inl (G.2.2.1, 15, .inl (nF lb))), (e8, .inl (G.2.2.1, 9, .inl (nF ne2))), (ea, .inl (G.2.2.1, 512, .inl (fillF wh (nI 0) k)))] := by
    intro fu
    induction fu with
    | zero => intro k hk hfu; exact absurd hfu (Nat.not_lt_zero _)
    | succ fu ih1 =>
      intro k hk hfu
      refine j_iload_n (q := 11) (i0 := 1) F rfl dX8_eden_10 rfl ?_
      refine j_sipush (q := 14) (v := nI 512) F (by decide) dX8_eden_11 rfl ?_
      refine j_icmp_ge (q := 17) (t := 30) F (Pp := 512 ≤ k) (nI_leI (by omega) (by omega)) dX8_eden_14 rfl rfl (fun c2 => ?_) (fun c2 => ?_)
      · skip
        refine j_iconst (q := 31) (v := nI 0) F (by decide) dX8_eden_30 rfl ?_
        refine j_istore_n (q := 32) (lv' := [(1, .int (nI 0)), (0, .ref e0)]) F dX8_eden_31 (by decide) rfl rfl ?_
        have lp3 : ∀ (fu : Nat) (k2 : Nat) (wh1 : Nat → Int32) (hk2 : k2 ≤ 2 ^ n) (hwh : ∀ t, t < 512 → wh1 t = nI (if hitB (Fw n m ru la lb fo) k2 t = true then 1 else 0)), (2 ^ n - k2) < fu → Jw G X 3 0 0 32 [(0, .ref e0), (1, .int (nI k2))] [] [(e0, .inr (8, [.ref e1, .int (nI ln), .int (nI aa), .int (nI bg), .int (nI tk), .int (nI td), .int (nI rl), .int (nI rs), .int (nI rd), .ref e2, .ref e3, .ref e4, .int (nI n), .int (nI m), .ref e5, .ref e6, .ref e7, .int (nI be), .int (nI sd), .int (nI tu), .int (nI fo), .ref e8, .ref e9, .int (nI kn), .int (nI tl), .int (nI rn), .ref ea, .long tr, .ref eb])), (e5, .inl (G.2.2.1, 9, .inl (nF ru))), (e6, .inl (G.2.2.1, 15, .inl (nF la))), (e7, .inl (G.2.2.1, 15, .inl (nF lb))), (e8, .inl (G.2.2.1, 9, .inl (nF ne2))), (ea, .inl (G.2.2.1, 512, .inl wh1))] := by
          intro fu
          induction fu with
          | zero => intro k2 wh1 hk2 hwh hfu; exact absurd hfu (Nat.not_lt_zero _)
          | succ fu ih3 =>
            intro k2 wh1 hk2 hwh hfu
            refine j_iload_n (q := 33) (i0 := 1) F rfl dX8_eden_32 rfl ?_
            refine j_iconst (q := 34) (v := nI 1) F (by decide) dX8_eden_33 rfl ?_
            refine j_aload_n (q := 35) (i0 := 0) F rfl dX8_eden_34 rfl ?_
            refine j_get (q := 38) (ci := 8) (q0 := 0) (kf := 12) (v := .int (nI n)) F inX8 rfl rfl rfl tw_670 rfl rfl dX8_eden_35 rfl ?_
            refine j_ishl (q := 39) (v := nI (2 ^ n)) F (nx_shl1 (by omega)) dX8_eden_38 rfl ?_
            refine j_icmp_ge (q := 42) (t := 59) F (Pp := 2 ^ n ≤ k2) (nI_leI (by omega) (by omega)) dX8_eden_39 rfl rfl (fun c4 => ?_) (fun c4 => ?_)
            · skip
              refine j_iconst (q := 60) (v := nI 0) F (by decide) dX8_eden_59 rfl ?_
              refine j_istore_n (q := 61) (lv' := [(1, .int (nI 0)), (0, .ref e0)]) F dX8_eden_60 (by decide) rfl rfl ?_
              refine j_iconst (q := 62) (v := nI 0) F (by decide) dX8_eden_61 rfl ?_
              refine j_istore_n (q := 63) (lv' := [(2, .int (nI 0)), (1, .int (nI 0)), (0, .ref e0)]) F dX8_eden_62 (by decide) rfl rfl ?_
              have lp5 : ∀ (fu : Nat) (k3 : Nat) (hk3 : k3 ≤ 2 ^ n), (2 ^ n - k3) < fu → Jw G X 3 0 0 63 [(0, .ref e0), (1, .int (nI (k3 - fb_ct (hitB (Fw n m ru la lb fo) (2 ^ n)) k3))), (2, .int (nI k3))] [] [(e0, .inr (8, [.ref e1, .int (nI ln), .int (nI aa), .int (nI bg), .int (nI tk), .int (nI td), .int (nI rl), .int (nI rs), .int (nI rd), .ref e2, .ref e3, .ref e4, .int (nI n), .int (nI m), .ref e5, .ref e6, .ref e7, .int (nI be), .int (nI sd), .int (nI tu), .int (nI fo), .ref e8, .ref e9, .int (nI kn), .int (nI tl), .int (nI rn), .ref ea, .long tr, .ref eb])), (e5, .inl (G.2.2.1, 9, .inl (nF ru))), (e6, .inl (G.2.2.1, 15, .inl (nF la))), (e7, .inl (G.2.2.1, 15, .inl (nF lb))), (e8, .inl (G.2.2.1, 9, .inl (nF ne2))), (ea, .inl (G.2.2.1, 512, .inl wh1))] := by
                intro fu
                induction fu with
                | zero => intro k3 hk3 hfu; exact absurd hfu (Nat.not_lt_zero _)
                | succ fu ih5 =>
                  intro k3 hk3 hfu
                  refine j_iload_n (q := 64) (i0 := 2) F rfl dX8_eden_63 rfl ?_
                  refine j_iconst (q := 65) (v := nI 1) F (by decide) dX8_eden_64 rfl ?_
                  refine j_aload_n (q := 66) (i0 := 0) F rfl dX8_eden_65 rfl ?_
                  refine j_get (q := 69) (ci := 8) (q0 := 0) (kf := 12) (v := .int (nI n)) F inX8 rfl rfl rfl tw_670 rfl rfl dX8_eden_66 rfl ?_
                  refine j_ishl (q := 70) (v := nI (2 ^ n)) F (nx_shl1 (by omega)) dX8_eden_69 rfl ?_
                  refine j_icmp_ge (q := 73) (t := 90) F (Pp := 2 ^ n ≤ k3) (nI_leI (by omega) (by omega)) dX8_eden_70 rfl rfl (fun c6 => ?_) (fun c6 => ?_)
                  · skip
                    refine j_iload_n (q := 91) (i0 := 1) F rfl dX8_eden_90 rfl ?_
                    exact j_iret (w2 := [(e0, .inr (8, [.ref e1, .int (nI ln), .int (nI aa), .int (nI bg), .int (nI tk), .int (nI td), .int (nI rl), .int (nI rs), .int (nI rd), .ref e2, .ref e3, .ref e4, .int (nI n), .int (nI m), .ref e5, .ref e6, .ref e7, .int (nI be), .int (nI sd), .int (nI tu), .int (nI fo), .ref e8, .ref e9, .int (nI kn), .int (nI tl), .int (nI rn), .ref ea, .long tr, .ref eb])), (e5, .inl (G.2.2.1, 9, .inl (nF ru))), (e6, .inl (G.2.2.1, 15, .inl (nF la))), (e7, .inl (G.2.2.1, 15, .inl (nF lb))), (e8, .inl (G.2.2.1, 9, .inl (nF ne2))), (ea, .inl (G.2.2.1, 512, .inl wh1))]) F R0 rfl [0, 1, 2, 3, 4, 5] rfl rfl (⟨_, _, _, _, by rw [edn, show k3 = 2 ^ n by omega], rfl⟩) dX8_eden_91
                  · skip
                    refine j_iload_n (q := 74) (i0 := 1) F rfl dX8_eden_73 rfl ?_
                    refine j_iconst (q := 75) (v := nI 1) F (by decide) dX8_eden_74 rfl ?_
                    refine j_aload_n (q := 76) (i0 := 0) F rfl dX8_eden_75 rfl ?_
                    refine j_get (q := 79) (ci := 8) (q0 := 0) (kf := 26) (v := .ref ea) F inX8 rfl rfl rfl tw_684 rfl rfl dX8_eden_76 rfl ?_
                    refine j_iload_n (q := 80) (i0 := 2) F rfl dX8_eden_79 rfl ?_
                    refine j_iald (q := 81) (q0 := 5) (i := k3) (v := nI (if hitB (Fw n m ru la lb fo) (2 ^ n) k3 = true then 1 else 0)) F rfl rfl (by omega) rfl ((hwh k3 (by omega)).trans (by rw [show k2 = 2 ^ n by omega])) dX8_eden_80 rfl ?_
                    refine j_isub (q := 82) (v := nI (1 - (if hitB (Fw n m ru la lb fo) (2 ^ n) k3 = true then 1 else 0))) F (pk_sub (by split <;> omega)) dX8_eden_81 rfl ?_
                    refine j_iadd (q := 83) (v := nI ((k3 - fb_ct (hitB (Fw n m ru la lb fo) (2 ^ n)) k3) + (1 - (if hitB (Fw n m ru la lb fo) (2 ^ n) k3 = true then 1 else 0)))) F (nI_add _ _) dX8_eden_82 rfl ?_
                    refine j_istore_n (q := 84) (lv' := [(1, .int (nI ((k3 - fb_ct (hitB (Fw n m ru la lb fo) (2 ^ n)) k3) + (1 - (if hitB (Fw n m ru la lb fo) (2 ^ n) k3 = true then 1 else 0))))), (0, .ref e0), (2, .int (nI k3))]) F dX8_eden_83 (by decide) rfl rfl ?_
                    refine j_iinc (q := 87) (i0 := 2) (v := nI (k3 + 1)) (lv' := [(2, .int (nI (k3 + 1))), (1, .int (nI ((k3 - fb_ct (hitB (Fw n m ru la lb fo) (2 ^ n)) k3) + (1 - (if hitB (Fw n m ru la lb fo) (2 ^ n) k3 = true then 1 else 0))))), (0, .ref e0)]) F dX8_eden_84 rfl (nI_add _ _) (by decide) rfl rfl ?_
                    refine j_goto (t := 63) F dX8_eden_87 rfl ?_
                    rw [show k3 - fb_ct (hitB (Fw n m ru la lb fo) (2 ^ n)) k3 + (1 - (if hitB (Fw n m ru la lb fo) (2 ^ n) k3 = true then 1 else 0)) = k3 + 1 - fb_ct (hitB (Fw n m ru la lb fo) (2 ^ n)) (k3 + 1) from by rw [fb_ct_succ]; have hcl := fb_ct_le (hitB (Fw n m ru la lb fo) (2 ^ n)) k3; split <;> omega]
                    refine j_lv [2, 1, 0] (lv' := [(0, .ref e0), (1, .int (nI (k3 + 1 - fb_ct (hitB (Fw n m ru la lb fo) (2 ^ n)) (k3 + 1)))), (2, .int (nI (k3 + 1)))]) rfl ?_
                    exact ih5 (k3 + 1) (by omega) (by omega)
              refine j_lv [2, 1, 0] (lv' := [(0, .ref e0), (1, .int (nI 0)), (2, .int (nI 0))]) rfl ?_
              exact lp5 _ 0 (Nat.zero_le _) (Nat.lt_succ_self _)
            · skip
              refine j_aload_n (q := 43) (i0 := 0) F rfl dX8_eden_42 rfl ?_
              refine j_get (q := 46) (ci := 8) (q0 := 0) (kf := 26) (v := .ref ea) F inX8 rfl rfl rfl tw_684 rfl rfl dX8_eden_43 rfl ?_
              refine j_aload_n (q := 47) (i0 := 0) F rfl dX8_eden_46 rfl ?_
              refine j_iload_n (q := 48) (i0 := 1) F rfl dX8_eden_47 rfl ?_
              refine j_callV (q := 51) (ci := 8) (q0 := 0) (As := [.int (nI k2)]) (wr := [(e6, .inl (G.2.2.1, 15, .inl (nF la))), (e7, .inl (G.2.2.1, 15, .inl (nF lb))), (ea, .inl (G.2.2.1, 512, .inl wh1))]) (st := [.ref ea]) F (c_X8_rings G hW (s := k2) (by omega)) kwX8_rings tw_830 tw_31 tw_828 ⟨Nat.le_of_ble_eq_true rfl, Nat.le_of_ble_eq_true rfl, rfl, rfl, Nat.le_of_ble_eq_true rfl, Nat.le_of_ble_eq_true rfl⟩ [0, 1, 4] [2, 3, 5] rfl rfl rfl rfl rfl rfl rfl rfl rfl (Nat.le_of_ble_eq_true rfl) dX8_eden_48 rfl ?_
              rintro r_ w_ ⟨rfl, rfl⟩
              refine j_w (w' := [(e0, .inr (8, [.ref e1, .int (nI ln), .int (nI aa), .int (nI bg), .int (nI tk), .int (nI td), .int (nI rl), .int (nI rs), .int (nI rd), .ref e2, .ref e3, .ref e4, .int (nI n), .int (nI m), .ref e5, .ref e6, .ref e7, .int (nI be), .int (nI sd), .int (nI tu), .int (nI fo), .ref e8, .ref e9, .int (nI kn), .int (nI tl), .int (nI rn), .ref ea, .long tr, .ref eb])), (e5, .inl (G.2.2.1, 9, .inl (nF ru))), (e6, .inl (G.2.2.1, 15, .inl (nF la))), (e7, .inl (G.2.2.1, 15, .inl (nF lb))), (e8, .inl (G.2.2.1, 9, .inl (nF ne2))), (ea, .inl (G.2.2.1, 512, .inl wh1))]) [3, 4, 0, 1, 5, 2] rfl rfl ?_
              show Jw G X _ 0 0 51 _ [.int (nI (Fw n m ru la lb fo k2)), .ref ea] _
              have hf5 := hW.f5 k2 (by omega)
              refine j_iconst (q := 52) (v := nI 1) F (by decide) dX8_eden_51 rfl ?_
              refine j_iast (q := 53) (q0 := 5) (i := (Fw n m ru la lb fo k2)) (f2 := upd wh1 (Fw n m ru la lb fo k2) (nI 1)) (w' := [(e0, .inr (8, [.ref e1, .int (nI ln), .int (nI aa), .int (nI bg), .int (nI tk), .int (nI td), .int (nI rl), .int (nI rs), .int (nI rd), .ref e2, .ref e3, .ref e4, .int (nI n), .int (nI m), .ref e5, .ref e6, .ref e7, .int (nI be), .int (nI sd), .int (nI tu), .int (nI fo), .ref e8, .ref e9, .int (nI kn), .int (nI tl), .int (nI rn), .ref ea, .long tr, .ref eb])), (e5, .inl (G.2.2.1, 9, .inl (nF ru))), (e6, .inl (G.2.2.1, 15, .inl (nF la))), (e7, .inl (G.2.2.1, 15, .inl (nF lb))), (e8, .inl (G.2.2.1, 9, .inl (nF ne2))), (ea, .inl (G.2.2.1, 512, .inl (upd wh1 (Fw n m ru la lb fo k2) (nI 1))))]) F rfl rfl (by omega) rfl (rfl) rfl dX8_eden_52 rfl ?_
              refine j_iinc (q := 56) (i0 := 1) (v := nI (k2 + 1)) (lv' := [(1, .int (nI (k2 + 1))), (0, .ref e0)]) F dX8_eden_53 rfl (nI_add _ _) (by decide) rfl rfl ?_
              refine j_goto (t := 32) F dX8_eden_56 rfl ?_
              refine j_lv [1, 0] (lv' := [(0, .ref e0), (1, .int (nI (k2 + 1)))]) rfl ?_
              exact ih3 (k2 + 1) _ (by omega) (hit_wh hwh) (by omega)
        refine j_lv [1, 0] (lv' := [(0, .ref e0), (1, .int (nI 0))]) rfl ?_
        exact lp3 _ 0 _ (Nat.zero_le _) (fun t ht => if_pos (by omega)) (Nat.lt_succ_self _)
      · skip
        refine j_aload_n (q := 18) (i0 := 0) F rfl dX8_eden_17 rfl ?_
        refine j_get (q := 21) (ci := 8) (q0 := 0) (kf := 26) (v := .ref ea) F inX8 rfl rfl rfl tw_684 rfl rfl dX8_eden_18 rfl ?_
        refine j_iload_n (q := 22) (i0 := 1) F rfl dX8_eden_21 rfl ?_
        refine j_iconst (q := 23) (v := nI 0) F (by decide) dX8_eden_22 rfl ?_
        refine j_iast (q := 24) (q0 := 5) (i := k) (f2 := fillF wh (nI 0) (k + 1)) (w' := [(e0, .inr (8, [.ref e1, .int (nI ln), .int (nI aa), .int (nI bg), .int (nI tk), .int (nI td), .int (nI rl), .int (nI rs), .int (nI rd), .ref e2, .ref e3, .ref e4, .int (nI n), .int (nI m), .ref e5, .ref e6, .ref e7, .int (nI be), .int (nI sd), .int (nI tu), .int (nI fo), .ref e8, .ref e9, .int (nI kn), .int (nI tl), .int (nI rn), .ref ea, .long tr, .ref eb])), (e5, .inl (G.2.2.1, 9, .inl (nF ru))), (e6, .inl (G.2.2.1, 15, .inl (nF la))), (e7, .inl (G.2.2.1, 15, .inl (nF lb))), (e8, .inl (G.2.2.1, 9, .inl (nF ne2))), (ea, .inl (G.2.2.1, 512, .inl (fillF wh (nI 0) (k + 1))))]) F rfl rfl (by omega) rfl (fillF_s _ _ _) rfl dX8_eden_23 rfl ?_
        refine j_iinc (q := 27) (i0 := 1) (v := nI (k + 1)) (lv' := [(1, .int (nI (k + 1))), (0, .ref e0)]) F dX8_eden_24 rfl (nI_add _ _) (by decide) rfl rfl ?_
        refine j_goto (t := 10) F dX8_eden_27 rfl ?_
        refine j_lv [1, 0] (lv' := [(0, .ref e0), (1, .int (nI (k + 1)))]) rfl ?_
        exact ih1 (k + 1) (by omega) (by omega)
  refine j_lv [1, 0] (lv' := [(0, .ref e0), (1, .int (nI 0))]) rfl ?_
  refine sb_atG (P := fun z => Jw G X _ _ _ _ _ _ [_, _, _, _, _, (ea, .inl (G.2.2.1, 512, .inl z))]) (fillF_0 wh (nI 0)).symm ?_
  exact lp1 _ 0 (Nat.zero_le _) (Nat.lt_succ_self _)

set_option maxHeartbeats 4000000 in
set_option maxRecDepth 100000 in
theorem c_X8_stays (G : Gm) {e0 e1 e2 e3 e4 e5 e6 e7 e8 e9 ea eb : Nat} {ln aa bg tk td rl rs rd n m be sd tu fo kn tl rn : Nat} {ru ne : Nat → Nat} {wh : Nat → Int32} {tr : Int64} {s so k : Nat} {f : Nat → Nat} (hW : Wk n ru ne f) (hs : s < 512) (hso : so < 512) (hk : k ≤ 1000) : Mg G yX8_stays cX8_stays 7 (some .boolean) ({ frames := 3, cells := 0, slots := 0, locals := 73 } : Room) 0 0 [.ref e0, .int (nI s), .int (nI so), .int (nI k)] [(e0, .inr (8, [.ref e1, .int (nI ln), .int (nI aa), .int (nI bg), .int (nI tk), .int (nI td), .int (nI rl), .int (nI rs), .int (nI rd), .ref e2, .ref e3, .ref e4, .int (nI n), .int (nI m), .ref e5, .ref e6, .ref e7, .int (nI be), .int (nI sd), .int (nI tu), .int (nI fo), .ref e8, .ref e9, .int (nI kn), .int (nI tl), .int (nI rn), .ref ea, .long tr, .ref eb])), (e5, .inl (G.2.2.1, 9, .inl (nF ru))), (e8, .inl (G.2.2.1, 9, .inl (nF ne))), (ea, .inl (G.2.2.1, 512, .inl wh))] (fun r w2 => ∃ wh2 tl2 rn2, w2 = [(e0, .inr (8, [.ref e1, .int (nI ln), .int (nI aa), .int (nI bg), .int (nI tk), .int (nI td), .int (nI rl), .int (nI rs), .int (nI rd), .ref e2, .ref e3, .ref e4, .int (nI n), .int (nI m), .ref e5, .ref e6, .ref e7, .int (nI be), .int (nI sd), .int (nI tu), .int (nI fo), .ref e8, .ref e9, .int (nI kn), .int (nI tl2), .int (nI rn2), .ref ea, .long tr, .ref eb])), (e5, .inl (G.2.2.1, 9, .inl (nF ru))), (e8, .inl (G.2.2.1, 9, .inl (nF ne))), (ea, .inl (G.2.2.1, 512, .inl wh2))] ∧ ((r = some (.int (nI 1)) ∧ Lit f (it f k s) so) ∨ (r = some (.int (nI 0)) ∧ ¬ Lit f (it f k s) so))) := by
  have hs2 := it_lt hW.f5 hs k
  refine Mg.mk (lv := [(0, .ref e0), (1, .int (nI s)), (2, .int (nI so)), (3, .int (nI k))]) (by decide) rfl rfl (fun X F R0 => ?_)
  refine j_aload_n (q := 1) (i0 := 0) F rfl dX8_stays_0 rfl ?_
  refine j_iload_n (q := 2) (i0 := 1) F rfl dX8_stays_1 rfl ?_
  refine j_iload_n (q := 3) (i0 := 3) F rfl dX8_stays_2 rfl ?_
  refine j_callV (q := 6) (ci := 8) (q0 := 0) (As := [.int (nI s), .int (nI k)]) (wr := [(ea, .inl (G.2.2.1, 512, .inl wh))]) (st := []) F (c_X8_goesOn G hW (s := s) (k := k) (hs) (hk)) kwX8_goesOn tw_855 tw_32 tw_853 ⟨Nat.le_of_ble_eq_true rfl, Nat.le_of_ble_eq_true rfl, rfl, rfl, Nat.le_of_ble_eq_true rfl, Nat.le_of_ble_eq_true rfl⟩ [0, 1, 2] [3] rfl rfl rfl rfl rfl rfl rfl rfl rfl (Nat.le_of_ble_eq_true rfl) dX8_stays_3 rfl ?_
  rintro r_ w_ ⟨rfl, rfl⟩
  refine j_w (w' := [(e0, .inr (8, [.ref e1, .int (nI ln), .int (nI aa), .int (nI bg), .int (nI tk), .int (nI td), .int (nI rl), .int (nI rs), .int (nI rd), .ref e2, .ref e3, .ref e4, .int (nI n), .int (nI m), .ref e5, .ref e6, .ref e7, .int (nI be), .int (nI sd), .int (nI tu), .int (nI fo), .ref e8, .ref e9, .int (nI kn), .int (nI tl), .int (nI rn), .ref ea, .long tr, .ref eb])), (e5, .inl (G.2.2.1, 9, .inl (nF ru))), (e8, .inl (G.2.2.1, 9, .inl (nF ne))), (ea, .inl (G.2.2.1, 512, .inl wh))]) [1, 2, 3, 0] rfl rfl ?_
  show Jw G X _ 0 0 6 _ [.int (nI (it f k s))] _
  refine j_istore (q := 8) (lv' := [(4, .int (nI (it f k s))), (0, .ref e0), (1, .int (nI s)), (2, .int (nI so)), (3, .int (nI k))]) F dX8_stays_6 (by decide) rfl rfl ?_
  refine j_aload_n (q := 9) (i0 := 1) F rfl dX8_stays_8 rfl ?_
  refine j_iload (q := 11) (i0 := 0) F rfl dX8_stays_9 rfl ?_
  refine j_callV (q := 14) (ci := 8) (q0 := 0) (As := [.int (nI (it f k s))]) (wr := []) (st := []) F (c_X8_rounds G hW (s := it f k s) (hs2)) kwX8_rounds tw_863 tw_33 tw_861 ⟨Nat.le_of_ble_eq_true rfl, Nat.le_of_ble_eq_true rfl, rfl, rfl, Nat.le_of_ble_eq_true rfl, Nat.le_of_ble_eq_true rfl⟩ [0, 1, 2, 3] [] rfl rfl rfl rfl rfl rfl rfl rfl rfl (Nat.le_of_ble_eq_true rfl) dX8_stays_11 rfl ?_
  rintro r_ w_ ⟨wh3, tl3, rn3, hrnd, htl3, hrn3, htr3, rfl, rfl⟩
  refine j_w (w' := [(e0, .inr (8, [.ref e1, .int (nI ln), .int (nI aa), .int (nI bg), .int (nI tk), .int (nI td), .int (nI rl), .int (nI rs), .int (nI rd), .ref e2, .ref e3, .ref e4, .int (nI n), .int (nI m), .ref e5, .ref e6, .ref e7, .int (nI be), .int (nI sd), .int (nI tu), .int (nI fo), .ref e8, .ref e9, .int (nI kn), .int (nI tl3), .int (nI rn3), .ref ea, .long tr, .ref eb])), (e5, .inl (G.2.2.1, 9, .inl (nF ru))), (e8, .inl (G.2.2.1, 9, .inl (nF ne))), (ea, .inl (G.2.2.1, 512, .inl wh3))]) [0, 1, 2, 3] rfl rfl ?_
  show Jw G X _ 0 0 14 _ [] _
  refine j_iconst (q := 15) (v := nI 1) F (by decide) dX8_stays_14 rfl ?_
  refine j_istore (q := 17) (lv' := [(5, .int (nI 1)), (4, .int (nI (it f k s))), (0, .ref e0), (1, .int (nI s)), (2, .int (nI so)), (3, .int (nI k))]) F dX8_stays_15 (by decide) rfl rfl ?_
  refine j_iconst (q := 18) (v := nI 0) F (by decide) dX8_stays_17 rfl ?_
  refine j_istore (q := 20) (lv' := [(6, .int (nI 0)), (5, .int (nI 1)), (4, .int (nI (it f k s))), (0, .ref e0), (1, .int (nI s)), (2, .int (nI so)), (3, .int (nI k))]) F dX8_stays_18 (by decide) rfl rfl ?_
  have lp1 : ∀ (fu : Nat) (i : Nat) (hi : i ≤ tl3 + rn3) (hlit : ∀ j, j < i → it f j (it f k s) &&& so = so), (tl3 + rn3 - i) < fu → Jw G X 7 0 0 20 [(0, .ref e0), (1, .int (nI s)), (2, .int (nI so)), (3, .int (nI k)), (4, .int (nI (it f i (it f k s)))), (5, .int (nI 1)), (6, .int (nI i))] [] [(e0, .inr (8, [.ref e1, .int (nI ln), .int (nI aa), .int (nI bg), .int (nI tk), .int (nI td), .int (nI rl), .int (nI rs), .int (nI rd), .ref e2, .ref e3, .ref e4, .int (nI n), .int (nI m), .ref e5, .ref e6, .ref e7, .int (nI be), .int (nI sd), .int (nI tu), .int (nI fo), .ref e8, .ref e9, .int (nI kn), .int (nI tl3), .int (nI rn3), .ref ea, .long tr, .ref eb])), (e5, .inl (G.2.2.1, 9, .inl (nF ru))), (e8, .inl (G.2.2.1, 9, .inl (nF ne))), (ea, .inl (G.2.2.1, 512, .inl wh3))] := by
    intro fu
    induction fu with
    | zero => intro i hi hlit hfu; exact absurd hfu (Nat.not_lt_zero _)
    | succ fu ih1 =>
      intro i hi hlit hfu
      have hat := it_lt hW.f5 hs2 i
      have hal : it f i (it f k s) &&& so < 512 := and_lt hat
      refine j_iload (q := 22) (i0 := 6) F rfl dX8_stays_20 rfl ?_
      refine j_aload_n (q := 23) (i0 := 0) F rfl dX8_stays_22 rfl ?_
      refine j_get (q := 26) (ci := 8) (q0 := 0) (kf := 24) (v := .int (nI tl3)) F inX8 rfl rfl rfl tw_682 rfl rfl dX8_stays_23 rfl ?_
      refine j_aload_n (q := 27) (i0 := 0) F rfl dX8_stays_26 rfl ?_
      refine j_get (q := 30) (ci := 8) (q0 := 0) (kf := 25) (v := .int (nI rn3)) F inX8 rfl rfl rfl tw_683 rfl rfl dX8_stays_27 rfl ?_
      refine j_iadd (q := 31) (v := nI (tl3 + rn3)) F (nI_add _ _) dX8_stays_30 rfl ?_
      refine j_icmp_ge (q := 34) (t := 68) F (Pp := tl3 + rn3 ≤ i) (nI_leI (by omega) (by omega)) dX8_stays_31 rfl rfl (fun c2 => ?_) (fun c2 => ?_)
      · skip
        refine j_iload (q := 70) (i0 := 5) F rfl dX8_stays_68 rfl ?_
        exact j_zret (w2 := [(e0, .inr (8, [.ref e1, .int (nI ln), .int (nI aa), .int (nI bg), .int (nI tk), .int (nI td), .int (nI rl), .int (nI rs), .int (nI rd), .ref e2, .ref e3, .ref e4, .int (nI n), .int (nI m), .ref e5, .ref e6, .ref e7, .int (nI be), .int (nI sd), .int (nI tu), .int (nI fo), .ref e8, .ref e9, .int (nI kn), .int (nI tl3), .int (nI rn3), .ref ea, .long tr, .ref eb])), (e5, .inl (G.2.2.1, 9, .inl (nF ru))), (e8, .inl (G.2.2.1, 9, .inl (nF ne))), (ea, .inl (G.2.2.1, 512, .inl wh3))]) F R0 rfl rfl [0, 1, 2, 3] rfl rfl (⟨_, _, _, rfl, Or.inl ⟨rfl, Lit.of_back (show tl3 < tl3 + rn3 by have := hrnd.1; omega) hrnd.2.1 (fun j h => hlit j (by omega))⟩⟩) dX8_stays_70
      · skip
        refine j_iload (q := 36) (i0 := 5) F rfl dX8_stays_34 rfl ?_
        refine j_if_eq (q := 39) (t := 68) F (cf (by decide)) dX8_stays_36 rfl rfl (fun z => False.elim z) (fun _ => ?_)
        refine j_iload (q := 41) (i0 := 4) F rfl dX8_stays_39 rfl ?_
        refine j_iload_n (q := 42) (i0 := 2) F rfl dX8_stays_41 rfl ?_
        refine j_iand (q := 43) (v := nI ((it f i (it f k s)) &&& so)) F (nx_and _ _) dX8_stays_42 rfl ?_
        refine j_iload_n (q := 44) (i0 := 2) F rfl dX8_stays_43 rfl ?_
        refine j_icmp_ne (q := 47) (t := 51) F (Pp := it f i (it f k s) &&& so = so) (nI_eq (by omega) (by omega)) dX8_stays_44 rfl rfl (fun cl => ?_) (fun cl => ?_)
        · skip
          refine j_iconst (q := 52) (v := nI 0) F (by decide) dX8_stays_51 rfl ?_
          refine j_istore (q := 54) (lv' := [(5, .int (nI 0)), (0, .ref e0), (1, .int (nI s)), (2, .int (nI so)), (3, .int (nI k)), (4, .int (nI (it f i (it f k s)))), (6, .int (nI i))]) F dX8_stays_52 (by decide) rfl rfl ?_
          refine j_aload_n (q := 55) (i0 := 1) F rfl dX8_stays_54 rfl ?_
          refine j_iload (q := 57) (i0 := 5) F rfl dX8_stays_55 rfl ?_
          refine j_callV (q := 60) (ci := 8) (q0 := 0) (As := [.int (nI (it f i (it f k s)))]) (wr := [(ea, .inl (G.2.2.1, 512, .inl wh3))]) (st := []) F (c_X8_rings G hW (s := it f i (it f k s)) (hat)) kwX8_rings tw_830 tw_31 tw_828 ⟨Nat.le_of_ble_eq_true rfl, Nat.le_of_ble_eq_true rfl, rfl, rfl, Nat.le_of_ble_eq_true rfl, Nat.le_of_ble_eq_true rfl⟩ [0, 1, 2] [3] rfl rfl rfl rfl rfl rfl rfl rfl rfl (Nat.le_of_ble_eq_true rfl) dX8_stays_57 rfl ?_
          rintro r_ w_ ⟨rfl, rfl⟩
          refine j_w (w' := [(e0, .inr (8, [.ref e1, .int (nI ln), .int (nI aa), .int (nI bg), .int (nI tk), .int (nI td), .int (nI rl), .int (nI rs), .int (nI rd), .ref e2, .ref e3, .ref e4, .int (nI n), .int (nI m), .ref e5, .ref e6, .ref e7, .int (nI be), .int (nI sd), .int (nI tu), .int (nI fo), .ref e8, .ref e9, .int (nI kn), .int (nI tl3), .int (nI rn3), .ref ea, .long tr, .ref eb])), (e5, .inl (G.2.2.1, 9, .inl (nF ru))), (e8, .inl (G.2.2.1, 9, .inl (nF ne))), (ea, .inl (G.2.2.1, 512, .inl wh3))]) [1, 2, 3, 0] rfl rfl ?_
          show Jw G X _ 0 0 60 _ [.int (nI (f (it f i (it f k s))))] _
          refine j_istore (q := 62) (lv' := [(4, .int (nI (f (it f i (it f k s))))), (5, .int (nI 0)), (0, .ref e0), (1, .int (nI s)), (2, .int (nI so)), (3, .int (nI k)), (6, .int (nI i))]) F dX8_stays_60 (by decide) rfl rfl ?_
          refine j_iinc (q := 65) (i0 := 6) (v := nI (i + 1)) (lv' := [(6, .int (nI (i + 1))), (4, .int (nI (f (it f i (it f k s))))), (5, .int (nI 0)), (0, .ref e0), (1, .int (nI s)), (2, .int (nI so)), (3, .int (nI k))]) F dX8_stays_62 rfl (nI_add _ _) (by decide) rfl rfl ?_
          refine j_goto (t := 20) F dX8_stays_65 rfl ?_
          refine j_iload (q := 22) (i0 := 0) F rfl dX8_stays_20 rfl ?_
          refine j_aload_n (q := 23) (i0 := 3) F rfl dX8_stays_22 rfl ?_
          refine j_get (q := 26) (ci := 8) (q0 := 0) (kf := 24) (v := .int (nI tl3)) F inX8 rfl rfl rfl tw_682 rfl rfl dX8_stays_23 rfl ?_
          refine j_aload_n (q := 27) (i0 := 3) F rfl dX8_stays_26 rfl ?_
          refine j_get (q := 30) (ci := 8) (q0 := 0) (kf := 25) (v := .int (nI rn3)) F inX8 rfl rfl rfl tw_683 rfl rfl dX8_stays_27 rfl ?_
          refine j_iadd (q := 31) (v := nI (tl3 + rn3)) F (nI_add _ _) dX8_stays_30 rfl ?_
          refine j_icmp_ge (q := 34) (t := 68) F (Pp := tl3 + rn3 ≤ i + 1) (nI_leI (by omega) (by omega)) dX8_stays_31 rfl rfl (fun c5 => ?_) (fun c5 => ?_)
          · skip
            refine j_iload (q := 70) (i0 := 2) F rfl dX8_stays_68 rfl ?_
            exact j_zret (w2 := [(e0, .inr (8, [.ref e1, .int (nI ln), .int (nI aa), .int (nI bg), .int (nI tk), .int (nI td), .int (nI rl), .int (nI rs), .int (nI rd), .ref e2, .ref e3, .ref e4, .int (nI n), .int (nI m), .ref e5, .ref e6, .ref e7, .int (nI be), .int (nI sd), .int (nI tu), .int (nI fo), .ref e8, .ref e9, .int (nI kn), .int (nI tl3), .int (nI rn3), .ref ea, .long tr, .ref eb])), (e5, .inl (G.2.2.1, 9, .inl (nF ru))), (e8, .inl (G.2.2.1, 9, .inl (nF ne))), (ea, .inl (G.2.2.1, 512, .inl wh3))]) F R0 rfl rfl [0, 1, 2, 3] rfl rfl (⟨_, _, _, rfl, Or.inr ⟨rfl, fun z => cl (z i)⟩⟩) dX8_stays_70
          · skip
            refine j_iload (q := 36) (i0 := 2) F rfl dX8_stays_34 rfl ?_
            refine j_if_eq (q := 39) (t := 68) F (ct (by decide)) dX8_stays_36 rfl rfl (fun _ => ?_) (fun z => absurd trivial z)
            refine j_iload (q := 70) (i0 := 2) F rfl dX8_stays_68 rfl ?_
            exact j_zret (w2 := [(e0, .inr (8, [.ref e1, .int (nI ln), .int (nI aa), .int (nI bg), .int (nI tk), .int (nI td), .int (nI rl), .int (nI rs), .int (nI rd), .ref e2, .ref e3, .ref e4, .int (nI n), .int (nI m), .ref e5, .ref e6, .ref e7, .int (nI be), .int (nI sd), .int (nI tu), .int (nI fo), .ref e8, .ref e9, .int (nI kn), .int (nI tl3), .int (nI rn3), .ref ea, .long tr, .ref eb])), (e5, .inl (G.2.2.1, 9, .inl (nF ru))), (e8, .inl (G.2.2.1, 9, .inl (nF ne))), (ea, .inl (G.2.2.1, 512, .inl wh3))]) F R0 rfl rfl [0, 1, 2, 3] rfl rfl (⟨_, _, _, rfl, Or.inr ⟨rfl, fun z => cl (z i)⟩⟩) dX8_stays_70
        · skip
          refine j_iconst (q := 48) (v := nI 1) F (by decide) dX8_stays_47 rfl ?_
          refine j_goto (t := 52) F dX8_stays_48 rfl ?_
          refine j_istore (q := 54) (lv' := [(5, .int (nI 1)), (0, .ref e0), (1, .int (nI s)), (2, .int (nI so)), (3, .int (nI k)), (4, .int (nI (it f i (it f k s)))), (6, .int (nI i))]) F dX8_stays_52 (by decide) rfl rfl ?_
          refine j_aload_n (q := 55) (i0 := 1) F rfl dX8_stays_54 rfl ?_
          refine j_iload (q := 57) (i0 := 5) F rfl dX8_stays_55 rfl ?_
          refine j_callV (q := 60) (ci := 8) (q0 := 0) (As := [.int (nI (it f i (it f k s)))]) (wr := [(ea, .inl (G.2.2.1, 512, .inl wh3))]) (st := []) F (c_X8_rings G hW (s := it f i (it f k s)) (hat)) kwX8_rings tw_830 tw_31 tw_828 ⟨Nat.le_of_ble_eq_true rfl, Nat.le_of_ble_eq_true rfl, rfl, rfl, Nat.le_of_ble_eq_true rfl, Nat.le_of_ble_eq_true rfl⟩ [0, 1, 2] [3] rfl rfl rfl rfl rfl rfl rfl rfl rfl (Nat.le_of_ble_eq_true rfl) dX8_stays_57 rfl ?_
          rintro r_ w_ ⟨rfl, rfl⟩
          refine j_w (w' := [(e0, .inr (8, [.ref e1, .int (nI ln), .int (nI aa), .int (nI bg), .int (nI tk), .int (nI td), .int (nI rl), .int (nI rs), .int (nI rd), .ref e2, .ref e3, .ref e4, .int (nI n), .int (nI m), .ref e5, .ref e6, .ref e7, .int (nI be), .int (nI sd), .int (nI tu), .int (nI fo), .ref e8, .ref e9, .int (nI kn), .int (nI tl3), .int (nI rn3), .ref ea, .long tr, .ref eb])), (e5, .inl (G.2.2.1, 9, .inl (nF ru))), (e8, .inl (G.2.2.1, 9, .inl (nF ne))), (ea, .inl (G.2.2.1, 512, .inl wh3))]) [1, 2, 3, 0] rfl rfl ?_
          show Jw G X _ 0 0 60 _ [.int (nI (f (it f i (it f k s))))] _
          refine j_istore (q := 62) (lv' := [(4, .int (nI (f (it f i (it f k s))))), (5, .int (nI 1)), (0, .ref e0), (1, .int (nI s)), (2, .int (nI so)), (3, .int (nI k)), (6, .int (nI i))]) F dX8_stays_60 (by decide) rfl rfl ?_
          refine j_iinc (q := 65) (i0 := 6) (v := nI (i + 1)) (lv' := [(6, .int (nI (i + 1))), (4, .int (nI (f (it f i (it f k s))))), (5, .int (nI 1)), (0, .ref e0), (1, .int (nI s)), (2, .int (nI so)), (3, .int (nI k))]) F dX8_stays_62 rfl (nI_add _ _) (by decide) rfl rfl ?_
          refine j_goto (t := 20) F dX8_stays_65 rfl ?_
          refine j_lv [3, 4, 5, 6, 1, 2, 0] (lv' := [(0, .ref e0), (1, .int (nI s)), (2, .int (nI so)), (3, .int (nI k)), (4, .int (nI (f (it f i (it f k s))))), (5, .int (nI 1)), (6, .int (nI (i + 1)))]) rfl ?_
          exact ih1 (i + 1) (by omega) (fun j h => by rcases (show j < i ∨ j = i by omega) with z | z; exact hlit j z; subst z; exact cl) (by omega)
  refine j_lv [3, 4, 5, 6, 2, 1, 0] (lv' := [(0, .ref e0), (1, .int (nI s)), (2, .int (nI so)), (3, .int (nI k)), (4, .int (nI (it f k s))), (5, .int (nI 1)), (6, .int (nI 0))]) rfl ?_
  exact lp1 _ 0 (Nat.zero_le _) (fun j h => absurd h (Nat.not_lt_zero j)) (Nat.lt_succ_self _)

set_option maxHeartbeats 4000000 in
set_option maxRecDepth 100000 in
theorem c_X8_lit (G : Gm) {e0 e1 e2 e3 e4 e5 e6 e7 e8 e9 ea eb : Nat} {ln aa bg tk td rl rs rd n m be sd tu fo kn tl rn : Nat} {ru la lb ne pa : Nat → Nat} {wh : Nat → Int32} {tr : Int64} {x y z : Int32} (hT : Tok n m ru la lb) (hP : PrOk n m (be, sd, tu, fo, kn, pa)) : Mg G yX8_lit cX8_lit 9 (some .int) ({ frames := 4, cells := 0, slots := 0, locals := 99 } : Room) 0 0 [.ref e0, .int x, .int y, .int z] [(e0, .inr (8, [.ref e1, .int (nI ln), .int (nI aa), .int (nI bg), .int (nI tk), .int (nI td), .int (nI rl), .int (nI rs), .int (nI rd), .ref e2, .ref e3, .ref e4, .int (nI n), .int (nI m), .ref e5, .ref e6, .ref e7, .int (nI be), .int (nI sd), .int (nI tu), .int (nI fo), .ref e8, .ref e9, .int (nI kn), .int (nI tl), .int (nI rn), .ref ea, .long tr, .ref eb])), (e5, .inl (G.2.2.1, 9, .inl (nF ru))), (e6, .inl (G.2.2.1, 15, .inl (nF la))), (e7, .inl (G.2.2.1, 15, .inl (nF lb))), (e8, .inl (G.2.2.1, 9, .inl (nF ne))), (ea, .inl (G.2.2.1, 512, .inl wh))] (fun r w2 => ∃ ne2 wh2 tl2 rn2 r2, aLit n (Fw n m ru la lb fo) sd x y z r2 ∧ r = some (.int r2) ∧ w2 = [(e0, .inr (8, [.ref e1, .int (nI ln), .int (nI aa), .int (nI bg), .int (nI tk), .int (nI td), .int (nI rl), .int (nI rs), .int (nI rd), .ref e2, .ref e3, .ref e4, .int (nI n), .int (nI m), .ref e5, .ref e6, .ref e7, .int (nI be), .int (nI sd), .int (nI tu), .int (nI fo), .ref e8, .ref e9, .int (nI kn), .int (nI tl2), .int (nI rn2), .ref ea, .long tr, .ref eb])), (e5, .inl (G.2.2.1, 9, .inl (nF ru))), (e6, .inl (G.2.2.1, 15, .inl (nF la))), (e7, .inl (G.2.2.1, 15, .inl (nF lb))), (e8, .inl (G.2.2.1, 9, .inl (nF ne2))), (ea, .inl (G.2.2.1, 512, .inl wh2))]) := by
  have hn := hT.1
  have hm := hT.2.1
  have h9 := p9 hn
  have h15 := p15 hm
  have hsd : sd < 512 := by have := hP.2.1; dsimp only at this; omega
  have hfo : fo < 32768 := by have := hP.2.2.2.1; dsimp only at this; omega
  refine Mg.mk (lv := [(0, .ref e0), (1, .int x), (2, .int y), (3, .int z)]) (by decide) rfl rfl (fun X F R0 => ?_)
  refine j_aload_n (q := 1) (i0 := 0) F rfl dX8_lit_0 rfl ?_
  refine j_iload_n (q := 2) (i0 := 1) F rfl dX8_lit_1 rfl ?_
  refine j_callV (q := 5) (ci := 8) (q0 := 0) (As := [.int x]) (wr := [(e5, .inl (G.2.2.1, 9, .inl (nF ru))), (e6, .inl (G.2.2.1, 15, .inl (nF la))), (e7, .inl (G.2.2.1, 15, .inl (nF lb))), (e8, .inl (G.2.2.1, 9, .inl (nF ne))), (ea, .inl (G.2.2.1, 512, .inl wh))]) (st := []) F (c_X8_isStand G (x := x) hn) kwX8_isStand tw_875 tw_34 tw_873 ⟨Nat.le_of_ble_eq_true rfl, Nat.le_of_ble_eq_true rfl, rfl, rfl, Nat.le_of_ble_eq_true rfl, Nat.le_of_ble_eq_true rfl⟩ [0] [1, 2, 3, 4, 5] rfl rfl rfl rfl rfl rfl rfl rfl rfl (Nat.le_of_ble_eq_true rfl) dX8_lit_2 rfl ?_
  rintro r_ w_ ⟨rfl, (⟨rfl, hx⟩ | ⟨rfl, hx⟩)⟩
  · skip
    refine j_w (w' := [(e0, .inr (8, [.ref e1, .int (nI ln), .int (nI aa), .int (nI bg), .int (nI tk), .int (nI td), .int (nI rl), .int (nI rs), .int (nI rd), .ref e2, .ref e3, .ref e4, .int (nI n), .int (nI m), .ref e5, .ref e6, .ref e7, .int (nI be), .int (nI sd), .int (nI tu), .int (nI fo), .ref e8, .ref e9, .int (nI kn), .int (nI tl), .int (nI rn), .ref ea, .long tr, .ref eb])), (e5, .inl (G.2.2.1, 9, .inl (nF ru))), (e6, .inl (G.2.2.1, 15, .inl (nF la))), (e7, .inl (G.2.2.1, 15, .inl (nF lb))), (e8, .inl (G.2.2.1, 9, .inl (nF ne))), (ea, .inl (G.2.2.1, 512, .inl wh))]) [5, 0, 1, 2, 3, 4] rfl rfl ?_
    show Jw G X _ 0 0 5 _ [.int (nI 1)] _
    refine j_if_eq (q := 8) (t := 36) F (cf (by decide)) dX8_lit_5 rfl rfl (fun z => False.elim z) (fun _ => ?_)
    refine j_iload_n (q := 9) (i0 := 1) F rfl dX8_lit_8 rfl ?_
    refine j_if_eq (q := 12) (t := 36) F (Pp := x = nI 0) (Iff.rfl) dX8_lit_9 rfl rfl (fun c0 => ?_) (fun c0 => ?_)
    · skip
      refine j_iconst (q := 37) (v := (-1)) F (by decide) dX8_lit_36 rfl ?_
      exact j_iret (w2 := [(e0, .inr (8, [.ref e1, .int (nI ln), .int (nI aa), .int (nI bg), .int (nI tk), .int (nI td), .int (nI rl), .int (nI rs), .int (nI rd), .ref e2, .ref e3, .ref e4, .int (nI n), .int (nI m), .ref e5, .ref e6, .ref e7, .int (nI be), .int (nI sd), .int (nI tu), .int (nI fo), .ref e8, .ref e9, .int (nI kn), .int (nI tl), .int (nI rn), .ref ea, .long tr, .ref eb])), (e5, .inl (G.2.2.1, 9, .inl (nF ru))), (e6, .inl (G.2.2.1, 15, .inl (nF la))), (e7, .inl (G.2.2.1, 15, .inl (nF lb))), (e8, .inl (G.2.2.1, 9, .inl (nF ne))), (ea, .inl (G.2.2.1, 512, .inl wh))]) F R0 rfl [0, 1, 2, 3, 4, 5] rfl rfl (⟨_, _, _, _, _, Or.inl ⟨fun z => z.2.1 c0, rfl⟩, rfl, rfl⟩) dX8_lit_37
    · skip
      refine j_iload_n (q := 13) (i0 := 2) F rfl dX8_lit_12 rfl ?_
      refine j_i2l (q := 14) (v := Int32.toInt64 y) F rfl dX8_lit_13 rfl ?_
      refine j_lconst (q := 15) (v := 0) F (by decide) dX8_lit_14 rfl ?_
      refine j_ldc2 (q := 18) F tw_885 dX8_lit_15 rfl ?_
      refine j_callS (q := 21) (As := [.long (Int32.toInt64 y), .long 0, .long 60]) (wr := [(e0, .inr (8, [.ref e1, .int (nI ln), .int (nI aa), .int (nI bg), .int (nI tk), .int (nI td), .int (nI rl), .int (nI rs), .int (nI rd), .ref e2, .ref e3, .ref e4, .int (nI n), .int (nI m), .ref e5, .ref e6, .ref e7, .int (nI be), .int (nI sd), .int (nI tu), .int (nI fo), .ref e8, .ref e9, .int (nI kn), .int (nI tl), .int (nI rn), .ref ea, .long tr, .ref eb])), (e5, .inl (G.2.2.1, 9, .inl (nF ru))), (e6, .inl (G.2.2.1, 15, .inl (nF la))), (e7, .inl (G.2.2.1, 15, .inl (nF lb))), (e8, .inl (G.2.2.1, 9, .inl (nF ne))), (ea, .inl (G.2.2.1, 512, .inl wh))]) (st := []) F (c_inR G (x := y) (n := 61) rfl (by decide) (rfl)) kwX8_in tw_752 tw_751 ⟨Nat.le_of_ble_eq_true rfl, Nat.le_of_ble_eq_true rfl, rfl, rfl, Nat.le_of_ble_eq_true rfl, Nat.le_of_ble_eq_true rfl⟩ [] [0, 1, 2, 3, 4, 5] rfl rfl rfl rfl rfl rfl rfl (Nat.le_of_ble_eq_true rfl) dX8_lit_18 rfl ?_
      rintro r_ w_ ⟨rfl, (⟨rfl, hy⟩ | ⟨rfl, hy⟩)⟩
      · skip
        refine j_w (w' := [(e0, .inr (8, [.ref e1, .int (nI ln), .int (nI aa), .int (nI bg), .int (nI tk), .int (nI td), .int (nI rl), .int (nI rs), .int (nI rd), .ref e2, .ref e3, .ref e4, .int (nI n), .int (nI m), .ref e5, .ref e6, .ref e7, .int (nI be), .int (nI sd), .int (nI tu), .int (nI fo), .ref e8, .ref e9, .int (nI kn), .int (nI tl), .int (nI rn), .ref ea, .long tr, .ref eb])), (e5, .inl (G.2.2.1, 9, .inl (nF ru))), (e6, .inl (G.2.2.1, 15, .inl (nF la))), (e7, .inl (G.2.2.1, 15, .inl (nF lb))), (e8, .inl (G.2.2.1, 9, .inl (nF ne))), (ea, .inl (G.2.2.1, 512, .inl wh))]) [0, 1, 2, 3, 4, 5] rfl rfl ?_
        show Jw G X _ 0 0 21 _ [.int (nI 1)] _
        refine j_if_eq (q := 24) (t := 36) F (cf (by decide)) dX8_lit_21 rfl rfl (fun z => False.elim z) (fun _ => ?_)
        refine j_iload_n (q := 25) (i0 := 3) F rfl dX8_lit_24 rfl ?_
        refine j_i2l (q := 26) (v := Int32.toInt64 z) F rfl dX8_lit_25 rfl ?_
        refine j_lconst (q := 27) (v := 0) F (by decide) dX8_lit_26 rfl ?_
        refine j_ldc2 (q := 30) F tw_815 dX8_lit_27 rfl ?_
        refine j_callS (q := 33) (As := [.long (Int32.toInt64 z), .long 0, .long 2]) (wr := [(e0, .inr (8, [.ref e1, .int (nI ln), .int (nI aa), .int (nI bg), .int (nI tk), .int (nI td), .int (nI rl), .int (nI rs), .int (nI rd), .ref e2, .ref e3, .ref e4, .int (nI n), .int (nI m), .ref e5, .ref e6, .ref e7, .int (nI be), .int (nI sd), .int (nI tu), .int (nI fo), .ref e8, .ref e9, .int (nI kn), .int (nI tl), .int (nI rn), .ref ea, .long tr, .ref eb])), (e5, .inl (G.2.2.1, 9, .inl (nF ru))), (e6, .inl (G.2.2.1, 15, .inl (nF la))), (e7, .inl (G.2.2.1, 15, .inl (nF lb))), (e8, .inl (G.2.2.1, 9, .inl (nF ne))), (ea, .inl (G.2.2.1, 512, .inl wh))]) (st := []) F (c_inR G (x := z) (n := 3) rfl (by decide) (rfl)) kwX8_in tw_752 tw_751 ⟨Nat.le_of_ble_eq_true rfl, Nat.le_of_ble_eq_true rfl, rfl, rfl, Nat.le_of_ble_eq_true rfl, Nat.le_of_ble_eq_true rfl⟩ [] [0, 1, 2, 3, 4, 5] rfl rfl rfl rfl rfl rfl rfl (Nat.le_of_ble_eq_true rfl) dX8_lit_30 rfl ?_
        rintro r_ w_ ⟨rfl, (⟨rfl, hz⟩ | ⟨rfl, hz⟩)⟩
        · skip
          refine j_w (w' := [(e0, .inr (8, [.ref e1, .int (nI ln), .int (nI aa), .int (nI bg), .int (nI tk), .int (nI td), .int (nI rl), .int (nI rs), .int (nI rd), .ref e2, .ref e3, .ref e4, .int (nI n), .int (nI m), .ref e5, .ref e6, .ref e7, .int (nI be), .int (nI sd), .int (nI tu), .int (nI fo), .ref e8, .ref e9, .int (nI kn), .int (nI tl), .int (nI rn), .ref ea, .long tr, .ref eb])), (e5, .inl (G.2.2.1, 9, .inl (nF ru))), (e6, .inl (G.2.2.1, 15, .inl (nF la))), (e7, .inl (G.2.2.1, 15, .inl (nF lb))), (e8, .inl (G.2.2.1, 9, .inl (nF ne))), (ea, .inl (G.2.2.1, 512, .inl wh))]) [0, 1, 2, 3, 4, 5] rfl rfl ?_
          show Jw G X _ 0 0 33 _ [.int (nI 1)] _
          refine j_if_ne (q := 36) (t := 38) F (cf (by decide)) dX8_lit_33 rfl rfl (fun _ => ?_) (fun z => False.elim z)
          obtain ⟨j, hj, rfl⟩ := hx
          obtain ⟨i, hi, rfl⟩ := hy
          obtain ⟨w, hw, rfl⟩ := hz
          refine j_aload_n (q := 39) (i0 := 0) F rfl dX8_lit_38 rfl ?_
          refine j_aload_n (q := 40) (i0 := 0) F rfl dX8_lit_39 rfl ?_
          refine j_get (q := 43) (ci := 8) (q0 := 0) (kf := 20) (v := .int (nI fo)) F inX8 rfl rfl rfl tw_678 rfl rfl dX8_lit_40 rfl ?_
          refine j_callV (q := 46) (ci := 8) (q0 := 0) (As := [.int (nI fo)]) (wr := [(e5, .inl (G.2.2.1, 9, .inl (nF ru))), (ea, .inl (G.2.2.1, 512, .inl wh))]) (st := []) F (c_X8_looks G (wo := fo) hT (hfo)) kwX8_looks tw_826 tw_30 tw_824 ⟨Nat.le_of_ble_eq_true rfl, Nat.le_of_ble_eq_true rfl, rfl, rfl, Nat.le_of_ble_eq_true rfl, Nat.le_of_ble_eq_true rfl⟩ [0, 2, 3, 4] [1, 5] rfl rfl rfl rfl rfl rfl rfl rfl rfl (Nat.le_of_ble_eq_true rfl) dX8_lit_43 rfl ?_
          rintro r_ w_ ⟨ne2, hne2, rfl, rfl⟩
          refine j_w (w' := [(e0, .inr (8, [.ref e1, .int (nI ln), .int (nI aa), .int (nI bg), .int (nI tk), .int (nI td), .int (nI rl), .int (nI rs), .int (nI rd), .ref e2, .ref e3, .ref e4, .int (nI n), .int (nI m), .ref e5, .ref e6, .ref e7, .int (nI be), .int (nI sd), .int (nI tu), .int (nI fo), .ref e8, .ref e9, .int (nI kn), .int (nI tl), .int (nI rn), .ref ea, .long tr, .ref eb])), (e5, .inl (G.2.2.1, 9, .inl (nF ru))), (e6, .inl (G.2.2.1, 15, .inl (nF la))), (e7, .inl (G.2.2.1, 15, .inl (nF lb))), (e8, .inl (G.2.2.1, 9, .inl (nF ne2))), (ea, .inl (G.2.2.1, 512, .inl wh))]) [2, 0, 3, 4, 5, 1] rfl rfl ?_
          show Jw G X _ 0 0 46 _ [] _
          have hW := Wk.of hT hne2
          refine j_iconst (q := 47) (v := nI 0) F (by decide) dX8_lit_46 rfl ?_
          refine j_istore (q := 49) (lv' := [(4, .int (nI 0)), (0, .ref e0), (1, .int (nI j)), (2, .int (nI i)), (3, .int (nI w))]) F dX8_lit_47 (by decide) rfl rfl ?_
          have lp5 : ∀ (fu : Nat) (q : Nat) (wh1 : Nat → Int32) (tl1 : Nat) (rn1 : Nat) (hq : q ≤ 4) (hno : ∀ q2, q2 < q → ∀ x, x < 2 ^ n → ¬ LitS (Fw n m ru la lb fo) sd j i q2 x), (4 - q) < fu → Jw G X 9 0 0 49 [(0, .ref e0), (1, .int (nI j)), (2, .int (nI i)), (3, .int (nI w)), (4, .int (nI q))] [] [(e0, .inr (8, [.ref e1, .int (nI ln), .int (nI aa), .int (nI bg), .int (nI tk), .int (nI td), .int (nI rl), .int (nI rs), .int (nI rd), .ref e2, .ref e3, .ref e4, .int (nI n), .int (nI m), .ref e5, .ref e6, .ref e7, .int (nI be), .int (nI sd), .int (nI tu), .int (nI fo), .ref e8, .ref e9, .int (nI kn), .int (nI tl1), .int (nI rn1), .ref ea, .long tr, .ref eb])), (e5, .inl (G.2.2.1, 9, .inl (nF ru))), (e6, .inl (G.2.2.1, 15, .inl (nF la))), (e7, .inl (G.2.2.1, 15, .inl (nF lb))), (e8, .inl (G.2.2.1, 9, .inl (nF ne2))), (ea, .inl (G.2.2.1, 512, .inl wh1))] := by
            intro fu
            induction fu with
            | zero => intro q wh1 tl1 rn1 hq hno hfu; exact absurd hfu (Nat.not_lt_zero _)
            | succ fu ih5 =>
              intro q wh1 tl1 rn1 hq hno hfu
              refine j_iload (q := 51) (i0 := 4) F rfl dX8_lit_49 rfl ?_
              refine j_iconst (q := 52) (v := nI 4) F (by decide) dX8_lit_51 rfl ?_
              refine j_icmp_ge (q := 55) (t := 182) F (Pp := 4 ≤ q) (nI_leI (by omega) (by omega)) dX8_lit_52 rfl rfl (fun c6 => ?_) (fun c6 => ?_)
              · skip
                refine j_bipush (q := 184) (v := (-9)) F (by decide) dX8_lit_182 rfl ?_
                exact j_iret (w2 := [(e0, .inr (8, [.ref e1, .int (nI ln), .int (nI aa), .int (nI bg), .int (nI tk), .int (nI td), .int (nI rl), .int (nI rs), .int (nI rd), .ref e2, .ref e3, .ref e4, .int (nI n), .int (nI m), .ref e5, .ref e6, .ref e7, .int (nI be), .int (nI sd), .int (nI tu), .int (nI fo), .ref e8, .ref e9, .int (nI kn), .int (nI tl1), .int (nI rn1), .ref ea, .long tr, .ref eb])), (e5, .inl (G.2.2.1, 9, .inl (nF ru))), (e6, .inl (G.2.2.1, 15, .inl (nF la))), (e7, .inl (G.2.2.1, 15, .inl (nF lb))), (e8, .inl (G.2.2.1, 9, .inl (nF ne2))), (ea, .inl (G.2.2.1, 512, .inl wh1))]) F R0 rfl [0, 1, 2, 3, 4, 5] rfl rfl (⟨_, _, _, _, _, Or.inr ⟨⟨⟨j, hj, rfl⟩, c0, ⟨i, hi, rfl⟩, ⟨w, hw, rfl⟩⟩, 3, 0, -9, by rw [nI_clamp (by omega), nI_clamp (by omega)]; exact ⟨by omega, ⟨(fb_ct_zero.mpr (fun x hx => cb_0 (hno 3 (by omega) x hx))).symm, fun _ => rfl, fun z => absurd rfl z⟩, fun _ => rfl, fun q2 h2 x hx => hno q2 (by omega) x hx⟩, by rw [if_pos rfl]⟩, rfl, rfl⟩) dX8_lit_184
              · skip
                refine j_iconst (q := 56) (v := nI 0) F (by decide) dX8_lit_55 rfl ?_
                refine j_istore (q := 58) (lv' := [(5, .int (nI 0)), (0, .ref e0), (1, .int (nI j)), (2, .int (nI i)), (3, .int (nI w)), (4, .int (nI q))]) F dX8_lit_56 (by decide) rfl rfl ?_
                refine j_bipush (q := 60) (v := (-9)) F (by decide) dX8_lit_58 rfl ?_
                refine j_istore (q := 62) (lv' := [(6, .int (-9)), (5, .int (nI 0)), (0, .ref e0), (1, .int (nI j)), (2, .int (nI i)), (3, .int (nI w)), (4, .int (nI q))]) F dX8_lit_60 (by decide) rfl rfl ?_
                refine j_iconst (q := 63) (v := nI 0) F (by decide) dX8_lit_62 rfl ?_
                refine j_istore (q := 65) (lv' := [(7, .int (nI 0)), (6, .int (-9)), (5, .int (nI 0)), (0, .ref e0), (1, .int (nI j)), (2, .int (nI i)), (3, .int (nI w)), (4, .int (nI q))]) F dX8_lit_63 (by decide) rfl rfl ?_
                have lp7 : ∀ (fu : Nat) (v : Nat) (mn1 : Nat) (le1 : Int32) (wh4 : Nat → Int32) (tl4 : Nat) (rn4 : Nat) (hv : v ≤ 2 ^ n) (hC : CnSt (LitS (Fw n m ru la lb fo) sd j i q) v mn1 le1), (2 ^ n - v) < fu → Jw G X 9 0 0 65 [(0, .ref e0), (1, .int (nI j)), (2, .int (nI i)), (3, .int (nI w)), (4, .int (nI q)), (5, .int (nI mn1)), (6, .int le1), (7, .int (nI v))] [] [(e0, .inr (8, [.ref e1, .int (nI ln), .int (nI aa), .int (nI bg), .int (nI tk), .int (nI td), .int (nI rl), .int (nI rs), .int (nI rd), .ref e2, .ref e3, .ref e4, .int (nI n), .int (nI m), .ref e5, .ref e6, .ref e7, .int (nI be), .int (nI sd), .int (nI tu), .int (nI fo), .ref e8, .ref e9, .int (nI kn), .int (nI tl4), .int (nI rn4), .ref ea, .long tr, .ref eb])), (e5, .inl (G.2.2.1, 9, .inl (nF ru))), (e6, .inl (G.2.2.1, 15, .inl (nF la))), (e7, .inl (G.2.2.1, 15, .inl (nF lb))), (e8, .inl (G.2.2.1, 9, .inl (nF ne2))), (ea, .inl (G.2.2.1, 512, .inl wh4))] := by
                  intro fu
                  induction fu with
                  | zero => intro v mn1 le1 wh4 tl4 rn4 hv hC hfu; exact absurd hfu (Nat.not_lt_zero _)
                  | succ fu ih7 =>
                    intro v mn1 le1 wh4 tl4 rn4 hv hC hfu
                    have hCn := hC.le_i
                    refine j_iload (q := 67) (i0 := 7) F rfl dX8_lit_65 rfl ?_
                    refine j_iconst (q := 68) (v := nI 1) F (by decide) dX8_lit_67 rfl ?_
                    refine j_aload_n (q := 69) (i0 := 0) F rfl dX8_lit_68 rfl ?_
                    refine j_get (q := 72) (ci := 8) (q0 := 0) (kf := 12) (v := .int (nI n)) F inX8 rfl rfl rfl tw_670 rfl rfl dX8_lit_69 rfl ?_
                    refine j_ishl (q := 73) (v := nI (2 ^ n)) F (nx_shl1 (by omega)) dX8_lit_72 rfl ?_
                    refine j_icmp_ge (q := 76) (t := 149) F (Pp := 2 ^ n ≤ v) (nI_leI (by omega) (by omega)) dX8_lit_73 rfl rfl (fun c8 => ?_) (fun c8 => ?_)
                    · skip
                      refine j_iload (q := 151) (i0 := 5) F rfl dX8_lit_149 rfl ?_
                      refine j_if_le (q := 154) (t := 176) F (Pp := mn1 ≤ 0) (by rw [show (0 : Int32) = nI 0 from rfl]; exact nI_leI (by omega) (by omega)) dX8_lit_151 rfl rfl (fun cm => ?_) (fun cm => ?_)
                      · skip
                        refine j_iinc (q := 179) (i0 := 4) (v := nI (q + 1)) (lv' := [(4, .int (nI (q + 1))), (0, .ref e0), (1, .int (nI j)), (2, .int (nI i)), (3, .int (nI w)), (5, .int (nI mn1)), (6, .int le1), (7, .int (nI v))]) F dX8_lit_176 rfl (nI_add _ _) (by decide) rfl rfl ?_
                        refine j_goto (t := 49) F dX8_lit_179 rfl ?_
                        refine j_lv [1, 2, 3, 4, 0] (lv' := [(0, .ref e0), (1, .int (nI j)), (2, .int (nI i)), (3, .int (nI w)), (4, .int (nI (q + 1)))]) rfl ?_
                        exact ih5 (q + 1) _ _ _ (by omega) (fun q2 h2 x hx => by rcases (show q2 < q ∨ q2 = q by omega) with z | z; exact hno q2 z x hx; subst z; exact hC.none (by omega) x (by omega)) (by omega)
                      · skip
                        refine j_iload_n (q := 155) (i0 := 3) F rfl dX8_lit_154 rfl ?_
                        refine j_if_ne (q := 158) (t := 163) F (Pp := nI w = nI 0) (Iff.rfl) dX8_lit_155 rfl rfl (fun cw0 => ?_) (fun cw0 => ?_)
                        · skip
                          refine j_iload_n (q := 164) (i0 := 3) F rfl dX8_lit_163 rfl ?_
                          refine j_iconst (q := 165) (v := nI 1) F (by decide) dX8_lit_164 rfl ?_
                          refine j_icmp_ne (q := 168) (t := 173) F (Pp := nI w = nI 1) (Iff.rfl) dX8_lit_165 rfl rfl (fun cw1 => ?_) (fun cw1 => ?_)
                          · skip
                            refine j_iload (q := 175) (i0 := 6) F rfl dX8_lit_173 rfl ?_
                            exact j_iret (w2 := [(e0, .inr (8, [.ref e1, .int (nI ln), .int (nI aa), .int (nI bg), .int (nI tk), .int (nI td), .int (nI rl), .int (nI rs), .int (nI rd), .ref e2, .ref e3, .ref e4, .int (nI n), .int (nI m), .ref e5, .ref e6, .ref e7, .int (nI be), .int (nI sd), .int (nI tu), .int (nI fo), .ref e8, .ref e9, .int (nI kn), .int (nI tl4), .int (nI rn4), .ref ea, .long tr, .ref eb])), (e5, .inl (G.2.2.1, 9, .inl (nF ru))), (e6, .inl (G.2.2.1, 15, .inl (nF la))), (e7, .inl (G.2.2.1, 15, .inl (nF lb))), (e8, .inl (G.2.2.1, 9, .inl (nF ne2))), (ea, .inl (G.2.2.1, 512, .inl wh4))]) F R0 rfl [0, 1, 2, 3, 4, 5] rfl rfl (⟨_, _, _, _, _, Or.inr ⟨⟨⟨j, hj, rfl⟩, c0, ⟨i, hi, rfl⟩, ⟨w, hw, rfl⟩⟩, q, mn1, le1, by rw [nI_clamp (by omega), nI_clamp (by omega)]; exact ⟨by omega, (show v = 2 ^ n by omega) ▸ hC, fun z => absurd z (by omega), hno⟩, by rw [if_neg (by omega), if_neg cw0, if_neg cw1]⟩, rfl, rfl⟩) dX8_lit_175
                          · skip
                            refine j_iload (q := 170) (i0 := 5) F rfl dX8_lit_168 rfl ?_
                            refine j_goto (t := 175) F dX8_lit_170 rfl ?_
                            exact j_iret (w2 := [(e0, .inr (8, [.ref e1, .int (nI ln), .int (nI aa), .int (nI bg), .int (nI tk), .int (nI td), .int (nI rl), .int (nI rs), .int (nI rd), .ref e2, .ref e3, .ref e4, .int (nI n), .int (nI m), .ref e5, .ref e6, .ref e7, .int (nI be), .int (nI sd), .int (nI tu), .int (nI fo), .ref e8, .ref e9, .int (nI kn), .int (nI tl4), .int (nI rn4), .ref ea, .long tr, .ref eb])), (e5, .inl (G.2.2.1, 9, .inl (nF ru))), (e6, .inl (G.2.2.1, 15, .inl (nF la))), (e7, .inl (G.2.2.1, 15, .inl (nF lb))), (e8, .inl (G.2.2.1, 9, .inl (nF ne2))), (ea, .inl (G.2.2.1, 512, .inl wh4))]) F R0 rfl [0, 1, 2, 3, 4, 5] rfl rfl (⟨_, _, _, _, _, Or.inr ⟨⟨⟨j, hj, rfl⟩, c0, ⟨i, hi, rfl⟩, ⟨w, hw, rfl⟩⟩, q, mn1, le1, by rw [nI_clamp (by omega), nI_clamp (by omega)]; exact ⟨by omega, (show v = 2 ^ n by omega) ▸ hC, fun z => absurd z (by omega), hno⟩, by rw [if_neg (by omega), if_neg cw0, if_pos cw1]⟩, rfl, rfl⟩) dX8_lit_175
                        · skip
                          refine j_iload (q := 160) (i0 := 4) F rfl dX8_lit_158 rfl ?_
                          refine j_goto (t := 175) F dX8_lit_160 rfl ?_
                          exact j_iret (w2 := [(e0, .inr (8, [.ref e1, .int (nI ln), .int (nI aa), .int (nI bg), .int (nI tk), .int (nI td), .int (nI rl), .int (nI rs), .int (nI rd), .ref e2, .ref e3, .ref e4, .int (nI n), .int (nI m), .ref e5, .ref e6, .ref e7, .int (nI be), .int (nI sd), .int (nI tu), .int (nI fo), .ref e8, .ref e9, .int (nI kn), .int (nI tl4), .int (nI rn4), .ref ea, .long tr, .ref eb])), (e5, .inl (G.2.2.1, 9, .inl (nF ru))), (e6, .inl (G.2.2.1, 15, .inl (nF la))), (e7, .inl (G.2.2.1, 15, .inl (nF lb))), (e8, .inl (G.2.2.1, 9, .inl (nF ne2))), (ea, .inl (G.2.2.1, 512, .inl wh4))]) F R0 rfl [0, 1, 2, 3, 4, 5] rfl rfl (⟨_, _, _, _, _, Or.inr ⟨⟨⟨j, hj, rfl⟩, c0, ⟨i, hi, rfl⟩, ⟨w, hw, rfl⟩⟩, q, mn1, le1, by rw [nI_clamp (by omega), nI_clamp (by omega)]; exact ⟨by omega, (show v = 2 ^ n by omega) ▸ hC, fun z => absurd z (by omega), hno⟩, by rw [if_neg (by omega), if_pos cw0]⟩, rfl, rfl⟩) dX8_lit_175
                    · skip
                      have hpv := pcN_le v
                      have hx := Nat.xor_lt_two_pow (n := 9) hsd (show v < 2 ^ 9 by omega)
                      refine j_iload (q := 78) (i0 := 7) F rfl dX8_lit_76 rfl ?_
                      refine j_callS (q := 81) (As := [.int (nI v)]) (wr := [(e0, .inr (8, [.ref e1, .int (nI ln), .int (nI aa), .int (nI bg), .int (nI tk), .int (nI td), .int (nI rl), .int (nI rs), .int (nI rd), .ref e2, .ref e3, .ref e4, .int (nI n), .int (nI m), .ref e5, .ref e6, .ref e7, .int (nI be), .int (nI sd), .int (nI tu), .int (nI fo), .ref e8, .ref e9, .int (nI kn), .int (nI tl4), .int (nI rn4), .ref ea, .long tr, .ref eb])), (e5, .inl (G.2.2.1, 9, .inl (nF ru))), (e6, .inl (G.2.2.1, 15, .inl (nF la))), (e7, .inl (G.2.2.1, 15, .inl (nF lb))), (e8, .inl (G.2.2.1, 9, .inl (nF ne2))), (ea, .inl (G.2.2.1, 512, .inl wh4))]) (st := []) F (c_X8_many G (k := v) (by omega)) kwX8_many tw_809 tw_808 ⟨Nat.le_of_ble_eq_true rfl, Nat.le_of_ble_eq_true rfl, rfl, rfl, Nat.le_of_ble_eq_true rfl, Nat.le_of_ble_eq_true rfl⟩ [] [0, 1, 2, 3, 4, 5] rfl rfl rfl rfl rfl rfl rfl (Nat.le_of_ble_eq_true rfl) dX8_lit_78 rfl ?_
                      rintro r_ w_ ⟨rfl, rfl⟩
                      refine j_w (w' := [(e0, .inr (8, [.ref e1, .int (nI ln), .int (nI aa), .int (nI bg), .int (nI tk), .int (nI td), .int (nI rl), .int (nI rs), .int (nI rd), .ref e2, .ref e3, .ref e4, .int (nI n), .int (nI m), .ref e5, .ref e6, .ref e7, .int (nI be), .int (nI sd), .int (nI tu), .int (nI fo), .ref e8, .ref e9, .int (nI kn), .int (nI tl4), .int (nI rn4), .ref ea, .long tr, .ref eb])), (e5, .inl (G.2.2.1, 9, .inl (nF ru))), (e6, .inl (G.2.2.1, 15, .inl (nF la))), (e7, .inl (G.2.2.1, 15, .inl (nF lb))), (e8, .inl (G.2.2.1, 9, .inl (nF ne2))), (ea, .inl (G.2.2.1, 512, .inl wh4))]) [0, 1, 2, 3, 4, 5] rfl rfl ?_
                      show Jw G X _ 0 0 81 _ [.int (nI (pcN v))] _
                      refine j_iload (q := 83) (i0 := 4) F rfl dX8_lit_81 rfl ?_
                      refine j_icmp_ne (q := 86) (t := 106) F (Pp := pcN v = q) (nI_eq (by omega) (by omega)) dX8_lit_83 rfl rfl (fun cp => ?_) (fun cp => ?_)
                      · skip
                        refine j_iconst (q := 107) (v := nI 0) F (by decide) dX8_lit_106 rfl ?_
                        refine j_istore (q := 109) (lv' := [(8, .int (nI 0)), (0, .ref e0), (1, .int (nI j)), (2, .int (nI i)), (3, .int (nI w)), (4, .int (nI q)), (5, .int (nI mn1)), (6, .int le1), (7, .int (nI v))]) F dX8_lit_107 (by decide) rfl rfl ?_
                        refine j_iload (q := 111) (i0 := 0) F rfl dX8_lit_109 rfl ?_
                        refine j_if_eq (q := 114) (t := 124) F (ct (by decide)) dX8_lit_111 rfl rfl (fun _ => ?_) (fun z => absurd trivial z)
                        refine j_iload (q := 126) (i0 := 7) F rfl dX8_lit_124 rfl ?_
                        refine j_istore (q := 128) (lv' := [(6, .int le1), (8, .int (nI 0)), (0, .ref e0), (1, .int (nI j)), (2, .int (nI i)), (3, .int (nI w)), (4, .int (nI q)), (5, .int (nI mn1)), (7, .int (nI v))]) F dX8_lit_126 (by decide) rfl rfl ?_
                        refine j_iload (q := 130) (i0 := 7) F rfl dX8_lit_128 rfl ?_
                        refine j_iload (q := 132) (i0 := 1) F rfl dX8_lit_130 rfl ?_
                        refine j_if_eq (q := 135) (t := 139) F (ct (by decide)) dX8_lit_132 rfl rfl (fun _ => ?_) (fun z => absurd trivial z)
                        refine j_iconst (q := 140) (v := nI 0) F (by decide) dX8_lit_139 rfl ?_
                        refine j_iadd (q := 141) (v := nI (mn1 + 0)) F (nI_add _ _) dX8_lit_140 rfl ?_
                        refine j_istore (q := 143) (lv' := [(5, .int (nI (mn1 + 0))), (6, .int le1), (8, .int (nI 0)), (0, .ref e0), (1, .int (nI j)), (2, .int (nI i)), (3, .int (nI w)), (4, .int (nI q)), (7, .int (nI v))]) F dX8_lit_141 (by decide) rfl rfl ?_
                        refine j_iinc (q := 146) (i0 := 8) (v := nI (v + 1)) (lv' := [(7, .int (nI (v + 1))), (5, .int (nI (mn1 + 0))), (6, .int le1), (8, .int (nI 0)), (0, .ref e0), (1, .int (nI j)), (2, .int (nI i)), (3, .int (nI w)), (4, .int (nI q))]) F dX8_lit_143 rfl (nI_add _ _) (by decide) rfl rfl ?_
                        refine j_goto (t := 65) F dX8_lit_146 rfl ?_
                        refine j_lv [4, 5, 6, 7, 8, 1, 2, 0] (lv' := [(0, .ref e0), (1, .int (nI j)), (2, .int (nI i)), (3, .int (nI w)), (4, .int (nI q)), (5, .int (nI (mn1 + 0))), (6, .int le1), (7, .int (nI (v + 1)))]) rfl ?_
                        exact ih7 (v + 1) _ _ _ _ _ (by omega) (hC.skip (fun z => cp z.1)) (by omega)
                      · skip
                        refine j_aload_n (q := 87) (i0 := 0) F rfl dX8_lit_86 rfl ?_
                        refine j_aload_n (q := 88) (i0 := 0) F rfl dX8_lit_87 rfl ?_
                        refine j_get (q := 91) (ci := 8) (q0 := 0) (kf := 18) (v := .int (nI sd)) F inX8 rfl rfl rfl tw_676 rfl rfl dX8_lit_88 rfl ?_
                        refine j_iload (q := 93) (i0 := 7) F rfl dX8_lit_91 rfl ?_
                        refine j_ixor (q := 94) (v := nI (sd ^^^ v)) F (nx_xor _ _) dX8_lit_93 rfl ?_
                        refine j_iload_n (q := 95) (i0 := 1) F rfl dX8_lit_94 rfl ?_
                        refine j_iload_n (q := 96) (i0 := 2) F rfl dX8_lit_95 rfl ?_
                        refine j_callV (q := 99) (ci := 8) (q0 := 0) (As := [.int (nI (sd ^^^ v)), .int (nI j), .int (nI i)]) (wr := [(e6, .inl (G.2.2.1, 15, .inl (nF la))), (e7, .inl (G.2.2.1, 15, .inl (nF lb)))]) (st := []) F (c_X8_stays G hW (s := sd ^^^ v) (so := j) (k := i) hx (by omega) (by omega)) kwX8_stays tw_888 tw_35 tw_886 ⟨Nat.le_of_ble_eq_true rfl, Nat.le_of_ble_eq_true rfl, rfl, rfl, Nat.le_of_ble_eq_true rfl, Nat.le_of_ble_eq_true rfl⟩ [0, 1, 4, 5] [2, 3] rfl rfl rfl rfl rfl rfl rfl rfl rfl (Nat.le_of_ble_eq_true rfl) dX8_lit_96 rfl ?_
                        rintro r_ w_ ⟨wh5, tl5, rn5, rfl, (⟨rfl, hst⟩ | ⟨rfl, hst⟩)⟩
                        · skip
                          refine j_w (w' := [(e0, .inr (8, [.ref e1, .int (nI ln), .int (nI aa), .int (nI bg), .int (nI tk), .int (nI td), .int (nI rl), .int (nI rs), .int (nI rd), .ref e2, .ref e3, .ref e4, .int (nI n), .int (nI m), .ref e5, .ref e6, .ref e7, .int (nI be), .int (nI sd), .int (nI tu), .int (nI fo), .ref e8, .ref e9, .int (nI kn), .int (nI tl5), .int (nI rn5), .ref ea, .long tr, .ref eb])), (e5, .inl (G.2.2.1, 9, .inl (nF ru))), (e6, .inl (G.2.2.1, 15, .inl (nF la))), (e7, .inl (G.2.2.1, 15, .inl (nF lb))), (e8, .inl (G.2.2.1, 9, .inl (nF ne2))), (ea, .inl (G.2.2.1, 512, .inl wh5))]) [2, 3, 0, 1, 4, 5] rfl rfl ?_
                          show Jw G X _ 0 0 99 _ [.int (nI 1)] _
                          refine j_if_eq (q := 102) (t := 106) F (cf (by decide)) dX8_lit_99 rfl rfl (fun z => False.elim z) (fun _ => ?_)
                          refine j_iconst (q := 103) (v := nI 1) F (by decide) dX8_lit_102 rfl ?_
                          refine j_goto (t := 107) F dX8_lit_103 rfl ?_
                          refine j_istore (q := 109) (lv' := [(8, .int (nI 1)), (0, .ref e0), (1, .int (nI j)), (2, .int (nI i)), (3, .int (nI w)), (4, .int (nI q)), (5, .int (nI mn1)), (6, .int le1), (7, .int (nI v))]) F dX8_lit_107 (by decide) rfl rfl ?_
                          refine j_iload (q := 111) (i0 := 0) F rfl dX8_lit_109 rfl ?_
                          refine j_if_eq (q := 114) (t := 124) F (cf (by decide)) dX8_lit_111 rfl rfl (fun z => False.elim z) (fun _ => ?_)
                          refine j_iload (q := 116) (i0 := 6) F rfl dX8_lit_114 rfl ?_
                          refine j_if_ne (q := 119) (t := 124) F (Pp := mn1 = 0) (nI_eq0 (by omega)) dX8_lit_116 rfl rfl (fun cz => ?_) (fun cz => ?_)
                          · skip
                            refine j_iload (q := 126) (i0 := 7) F rfl dX8_lit_124 rfl ?_
                            refine j_istore (q := 128) (lv' := [(6, .int le1), (8, .int (nI 1)), (0, .ref e0), (1, .int (nI j)), (2, .int (nI i)), (3, .int (nI w)), (4, .int (nI q)), (5, .int (nI mn1)), (7, .int (nI v))]) F dX8_lit_126 (by decide) rfl rfl ?_
                            refine j_iload (q := 130) (i0 := 7) F rfl dX8_lit_128 rfl ?_
                            refine j_iload (q := 132) (i0 := 1) F rfl dX8_lit_130 rfl ?_
                            refine j_if_eq (q := 135) (t := 139) F (cf (by decide)) dX8_lit_132 rfl rfl (fun z => False.elim z) (fun _ => ?_)
                            refine j_iconst (q := 136) (v := nI 1) F (by decide) dX8_lit_135 rfl ?_
                            refine j_goto (t := 140) F dX8_lit_136 rfl ?_
                            refine j_iadd (q := 141) (v := nI (mn1 + 1)) F (nI_add _ _) dX8_lit_140 rfl ?_
                            refine j_istore (q := 143) (lv' := [(5, .int (nI (mn1 + 1))), (6, .int le1), (8, .int (nI 1)), (0, .ref e0), (1, .int (nI j)), (2, .int (nI i)), (3, .int (nI w)), (4, .int (nI q)), (7, .int (nI v))]) F dX8_lit_141 (by decide) rfl rfl ?_
                            refine j_iinc (q := 146) (i0 := 8) (v := nI (v + 1)) (lv' := [(7, .int (nI (v + 1))), (5, .int (nI (mn1 + 1))), (6, .int le1), (8, .int (nI 1)), (0, .ref e0), (1, .int (nI j)), (2, .int (nI i)), (3, .int (nI w)), (4, .int (nI q))]) F dX8_lit_143 rfl (nI_add _ _) (by decide) rfl rfl ?_
                            refine j_goto (t := 65) F dX8_lit_146 rfl ?_
                            refine j_lv [4, 5, 6, 7, 8, 1, 2, 0] (lv' := [(0, .ref e0), (1, .int (nI j)), (2, .int (nI i)), (3, .int (nI w)), (4, .int (nI q)), (5, .int (nI (mn1 + 1))), (6, .int le1), (7, .int (nI (v + 1)))]) rfl ?_
                            exact ih7 (v + 1) _ _ _ _ _ (by omega) (hC.more cz ⟨cp, hst⟩) (by omega)
                          · skip
                            refine j_iload (q := 121) (i0 := 8) F rfl dX8_lit_119 rfl ?_
                            refine j_goto (t := 126) F dX8_lit_121 rfl ?_
                            refine j_istore (q := 128) (lv' := [(6, .int (nI v)), (8, .int (nI 1)), (0, .ref e0), (1, .int (nI j)), (2, .int (nI i)), (3, .int (nI w)), (4, .int (nI q)), (5, .int (nI mn1)), (7, .int (nI v))]) F dX8_lit_126 (by decide) rfl rfl ?_
                            refine j_iload (q := 130) (i0 := 7) F rfl dX8_lit_128 rfl ?_
                            refine j_iload (q := 132) (i0 := 1) F rfl dX8_lit_130 rfl ?_
                            refine j_if_eq (q := 135) (t := 139) F (cf (by decide)) dX8_lit_132 rfl rfl (fun z => False.elim z) (fun _ => ?_)
                            refine j_iconst (q := 136) (v := nI 1) F (by decide) dX8_lit_135 rfl ?_
                            refine j_goto (t := 140) F dX8_lit_136 rfl ?_
                            refine j_iadd (q := 141) (v := nI (mn1 + 1)) F (nI_add _ _) dX8_lit_140 rfl ?_
                            refine j_istore (q := 143) (lv' := [(5, .int (nI (mn1 + 1))), (6, .int (nI v)), (8, .int (nI 1)), (0, .ref e0), (1, .int (nI j)), (2, .int (nI i)), (3, .int (nI w)), (4, .int (nI q)), (7, .int (nI v))]) F dX8_lit_141 (by decide) rfl rfl ?_
                            refine j_iinc (q := 146) (i0 := 8) (v := nI (v + 1)) (lv' := [(7, .int (nI (v + 1))), (5, .int (nI (mn1 + 1))), (6, .int (nI v)), (8, .int (nI 1)), (0, .ref e0), (1, .int (nI j)), (2, .int (nI i)), (3, .int (nI w)), (4, .int (nI q))]) F dX8_lit_143 rfl (nI_add _ _) (by decide) rfl rfl ?_
                            refine j_goto (t := 65) F dX8_lit_146 rfl ?_
                            refine j_lv [4, 5, 6, 7, 8, 1, 2, 0] (lv' := [(0, .ref e0), (1, .int (nI j)), (2, .int (nI i)), (3, .int (nI w)), (4, .int (nI q)), (5, .int (nI (mn1 + 1))), (6, .int (nI v)), (7, .int (nI (v + 1)))]) rfl ?_
                            exact ih7 (v + 1) _ _ _ _ _ (by omega) (hC.first cz ⟨cp, hst⟩) (by omega)
                        · skip
                          refine j_w (w' := [(e0, .inr (8, [.ref e1, .int (nI ln), .int (nI aa), .int (nI bg), .int (nI tk), .int (nI td), .int (nI rl), .int (nI rs), .int (nI rd), .ref e2, .ref e3, .ref e4, .int (nI n), .int (nI m), .ref e5, .ref e6, .ref e7, .int (nI be), .int (nI sd), .int (nI tu), .int (nI fo), .ref e8, .ref e9, .int (nI kn), .int (nI tl5), .int (nI rn5), .ref ea, .long tr, .ref eb])), (e5, .inl (G.2.2.1, 9, .inl (nF ru))), (e6, .inl (G.2.2.1, 15, .inl (nF la))), (e7, .inl (G.2.2.1, 15, .inl (nF lb))), (e8, .inl (G.2.2.1, 9, .inl (nF ne2))), (ea, .inl (G.2.2.1, 512, .inl wh5))]) [2, 3, 0, 1, 4, 5] rfl rfl ?_
                          show Jw G X _ 0 0 99 _ [.int (nI 0)] _
                          refine j_if_eq (q := 102) (t := 106) F (ct (by decide)) dX8_lit_99 rfl rfl (fun _ => ?_) (fun z => absurd trivial z)
                          refine j_iconst (q := 107) (v := nI 0) F (by decide) dX8_lit_106 rfl ?_
                          refine j_istore (q := 109) (lv' := [(8, .int (nI 0)), (0, .ref e0), (1, .int (nI j)), (2, .int (nI i)), (3, .int (nI w)), (4, .int (nI q)), (5, .int (nI mn1)), (6, .int le1), (7, .int (nI v))]) F dX8_lit_107 (by decide) rfl rfl ?_
                          refine j_iload (q := 111) (i0 := 0) F rfl dX8_lit_109 rfl ?_
                          refine j_if_eq (q := 114) (t := 124) F (ct (by decide)) dX8_lit_111 rfl rfl (fun _ => ?_) (fun z => absurd trivial z)
                          refine j_iload (q := 126) (i0 := 7) F rfl dX8_lit_124 rfl ?_
                          refine j_istore (q := 128) (lv' := [(6, .int le1), (8, .int (nI 0)), (0, .ref e0), (1, .int (nI j)), (2, .int (nI i)), (3, .int (nI w)), (4, .int (nI q)), (5, .int (nI mn1)), (7, .int (nI v))]) F dX8_lit_126 (by decide) rfl rfl ?_
                          refine j_iload (q := 130) (i0 := 7) F rfl dX8_lit_128 rfl ?_
                          refine j_iload (q := 132) (i0 := 1) F rfl dX8_lit_130 rfl ?_
                          refine j_if_eq (q := 135) (t := 139) F (ct (by decide)) dX8_lit_132 rfl rfl (fun _ => ?_) (fun z => absurd trivial z)
                          refine j_iconst (q := 140) (v := nI 0) F (by decide) dX8_lit_139 rfl ?_
                          refine j_iadd (q := 141) (v := nI (mn1 + 0)) F (nI_add _ _) dX8_lit_140 rfl ?_
                          refine j_istore (q := 143) (lv' := [(5, .int (nI (mn1 + 0))), (6, .int le1), (8, .int (nI 0)), (0, .ref e0), (1, .int (nI j)), (2, .int (nI i)), (3, .int (nI w)), (4, .int (nI q)), (7, .int (nI v))]) F dX8_lit_141 (by decide) rfl rfl ?_
                          refine j_iinc (q := 146) (i0 := 8) (v := nI (v + 1)) (lv' := [(7, .int (nI (v + 1))), (5, .int (nI (mn1 + 0))), (6, .int le1), (8, .int (nI 0)), (0, .ref e0), (1, .int (nI j)), (2, .int (nI i)), (3, .int (nI w)), (4, .int (nI q))]) F dX8_lit_143 rfl (nI_add _ _) (by decide) rfl rfl ?_
                          refine j_goto (t := 65) F dX8_lit_146 rfl ?_
                          refine j_lv [4, 5, 6, 7, 8, 1, 2, 0] (lv' := [(0, .ref e0), (1, .int (nI j)), (2, .int (nI i)), (3, .int (nI w)), (4, .int (nI q)), (5, .int (nI (mn1 + 0))), (6, .int le1), (7, .int (nI (v + 1)))]) rfl ?_
                          exact ih7 (v + 1) _ _ _ _ _ (by omega) (hC.skip (fun z => hst z.2)) (by omega)
                refine j_lv [3, 4, 5, 6, 7, 2, 1, 0] (lv' := [(0, .ref e0), (1, .int (nI j)), (2, .int (nI i)), (3, .int (nI w)), (4, .int (nI q)), (5, .int (nI 0)), (6, .int (-9)), (7, .int (nI 0))]) rfl ?_
                exact lp7 _ 0 0 (-9) _ _ _ (Nat.zero_le _) (CnSt.z _) (Nat.lt_succ_self _)
          refine j_lv [1, 2, 3, 4, 0] (lv' := [(0, .ref e0), (1, .int (nI j)), (2, .int (nI i)), (3, .int (nI w)), (4, .int (nI 0))]) rfl ?_
          exact lp5 _ 0 _ _ _ (by omega) (fun q2 h => absurd h (Nat.not_lt_zero q2)) (Nat.lt_succ_self _)
        · skip
          refine j_w (w' := [(e0, .inr (8, [.ref e1, .int (nI ln), .int (nI aa), .int (nI bg), .int (nI tk), .int (nI td), .int (nI rl), .int (nI rs), .int (nI rd), .ref e2, .ref e3, .ref e4, .int (nI n), .int (nI m), .ref e5, .ref e6, .ref e7, .int (nI be), .int (nI sd), .int (nI tu), .int (nI fo), .ref e8, .ref e9, .int (nI kn), .int (nI tl), .int (nI rn), .ref ea, .long tr, .ref eb])), (e5, .inl (G.2.2.1, 9, .inl (nF ru))), (e6, .inl (G.2.2.1, 15, .inl (nF la))), (e7, .inl (G.2.2.1, 15, .inl (nF lb))), (e8, .inl (G.2.2.1, 9, .inl (nF ne))), (ea, .inl (G.2.2.1, 512, .inl wh))]) [0, 1, 2, 3, 4, 5] rfl rfl ?_
          show Jw G X _ 0 0 33 _ [.int (nI 0)] _
          refine j_if_ne (q := 36) (t := 38) F (ct (by decide)) dX8_lit_33 rfl rfl (fun z => absurd trivial z) (fun _ => ?_)
          refine j_iconst (q := 37) (v := (-1)) F (by decide) dX8_lit_36 rfl ?_
          exact j_iret (w2 := [(e0, .inr (8, [.ref e1, .int (nI ln), .int (nI aa), .int (nI bg), .int (nI tk), .int (nI td), .int (nI rl), .int (nI rs), .int (nI rd), .ref e2, .ref e3, .ref e4, .int (nI n), .int (nI m), .ref e5, .ref e6, .ref e7, .int (nI be), .int (nI sd), .int (nI tu), .int (nI fo), .ref e8, .ref e9, .int (nI kn), .int (nI tl), .int (nI rn), .ref ea, .long tr, .ref eb])), (e5, .inl (G.2.2.1, 9, .inl (nF ru))), (e6, .inl (G.2.2.1, 15, .inl (nF la))), (e7, .inl (G.2.2.1, 15, .inl (nF lb))), (e8, .inl (G.2.2.1, 9, .inl (nF ne))), (ea, .inl (G.2.2.1, 512, .inl wh))]) F R0 rfl [0, 1, 2, 3, 4, 5] rfl rfl (⟨_, _, _, _, _, Or.inl ⟨fun z => hz z.2.2.2, rfl⟩, rfl, rfl⟩) dX8_lit_37
      · skip
        refine j_w (w' := [(e0, .inr (8, [.ref e1, .int (nI ln), .int (nI aa), .int (nI bg), .int (nI tk), .int (nI td), .int (nI rl), .int (nI rs), .int (nI rd), .ref e2, .ref e3, .ref e4, .int (nI n), .int (nI m), .ref e5, .ref e6, .ref e7, .int (nI be), .int (nI sd), .int (nI tu), .int (nI fo), .ref e8, .ref e9, .int (nI kn), .int (nI tl), .int (nI rn), .ref ea, .long tr, .ref eb])), (e5, .inl (G.2.2.1, 9, .inl (nF ru))), (e6, .inl (G.2.2.1, 15, .inl (nF la))), (e7, .inl (G.2.2.1, 15, .inl (nF lb))), (e8, .inl (G.2.2.1, 9, .inl (nF ne))), (ea, .inl (G.2.2.1, 512, .inl wh))]) [0, 1, 2, 3, 4, 5] rfl rfl ?_
        show Jw G X _ 0 0 21 _ [.int (nI 0)] _
        refine j_if_eq (q := 24) (t := 36) F (ct (by decide)) dX8_lit_21 rfl rfl (fun _ => ?_) (fun z => absurd trivial z)
        refine j_iconst (q := 37) (v := (-1)) F (by decide) dX8_lit_36 rfl ?_
        exact j_iret (w2 := [(e0, .inr (8, [.ref e1, .int (nI ln), .int (nI aa), .int (nI bg), .int (nI tk), .int (nI td), .int (nI rl), .int (nI rs), .int (nI rd), .ref e2, .ref e3, .ref e4, .int (nI n), .int (nI m), .ref e5, .ref e6, .ref e7, .int (nI be), .int (nI sd), .int (nI tu), .int (nI fo), .ref e8, .ref e9, .int (nI kn), .int (nI tl), .int (nI rn), .ref ea, .long tr, .ref eb])), (e5, .inl (G.2.2.1, 9, .inl (nF ru))), (e6, .inl (G.2.2.1, 15, .inl (nF la))), (e7, .inl (G.2.2.1, 15, .inl (nF lb))), (e8, .inl (G.2.2.1, 9, .inl (nF ne))), (ea, .inl (G.2.2.1, 512, .inl wh))]) F R0 rfl [0, 1, 2, 3, 4, 5] rfl rfl (⟨_, _, _, _, _, Or.inl ⟨fun z => hy z.2.2.1, rfl⟩, rfl, rfl⟩) dX8_lit_37
  · skip
    refine j_w (w' := [(e0, .inr (8, [.ref e1, .int (nI ln), .int (nI aa), .int (nI bg), .int (nI tk), .int (nI td), .int (nI rl), .int (nI rs), .int (nI rd), .ref e2, .ref e3, .ref e4, .int (nI n), .int (nI m), .ref e5, .ref e6, .ref e7, .int (nI be), .int (nI sd), .int (nI tu), .int (nI fo), .ref e8, .ref e9, .int (nI kn), .int (nI tl), .int (nI rn), .ref ea, .long tr, .ref eb])), (e5, .inl (G.2.2.1, 9, .inl (nF ru))), (e6, .inl (G.2.2.1, 15, .inl (nF la))), (e7, .inl (G.2.2.1, 15, .inl (nF lb))), (e8, .inl (G.2.2.1, 9, .inl (nF ne))), (ea, .inl (G.2.2.1, 512, .inl wh))]) [5, 0, 1, 2, 3, 4] rfl rfl ?_
    show Jw G X _ 0 0 5 _ [.int (nI 0)] _
    refine j_if_eq (q := 8) (t := 36) F (ct (by decide)) dX8_lit_5 rfl rfl (fun _ => ?_) (fun z => absurd trivial z)
    refine j_iconst (q := 37) (v := (-1)) F (by decide) dX8_lit_36 rfl ?_
    exact j_iret (w2 := [(e0, .inr (8, [.ref e1, .int (nI ln), .int (nI aa), .int (nI bg), .int (nI tk), .int (nI td), .int (nI rl), .int (nI rs), .int (nI rd), .ref e2, .ref e3, .ref e4, .int (nI n), .int (nI m), .ref e5, .ref e6, .ref e7, .int (nI be), .int (nI sd), .int (nI tu), .int (nI fo), .ref e8, .ref e9, .int (nI kn), .int (nI tl), .int (nI rn), .ref ea, .long tr, .ref eb])), (e5, .inl (G.2.2.1, 9, .inl (nF ru))), (e6, .inl (G.2.2.1, 15, .inl (nF la))), (e7, .inl (G.2.2.1, 15, .inl (nF lb))), (e8, .inl (G.2.2.1, 9, .inl (nF ne))), (ea, .inl (G.2.2.1, 512, .inl wh))]) F R0 rfl [0, 1, 2, 3, 4, 5] rfl rfl (⟨_, _, _, _, _, Or.inl ⟨fun z => hx z.1, rfl⟩, rfl, rfl⟩) dX8_lit_37

set_option maxHeartbeats 4000000 in
set_option maxRecDepth 100000 in
theorem c_X8_who (G : Gm) {e0 e1 e2 e3 e4 e5 e6 e7 e8 e9 ea eb : Nat} {ln aa bg tk td rl rs rd n m be sd tu fo kn tl rn : Nat} {ru la lb ne pa : Nat → Nat} {wh : Nat → Int32} {tr : Int64} {x y z : Int32} (hT : Tok n m ru la lb) (hP : PrOk n m (be, sd, tu, fo, kn, pa)) : Mg G yX8_who cX8_who 8 (some .int) ({ frames := 3, cells := 0, slots := 0, locals := 73 } : Room) 0 0 [.ref e0, .int x, .int y, .int z] [(e0, .inr (8, [.ref e1, .int (nI ln), .int (nI aa), .int (nI bg), .int (nI tk), .int (nI td), .int (nI rl), .int (nI rs), .int (nI rd), .ref e2, .ref e3, .ref e4, .int (nI n), .int (nI m), .ref e5, .ref e6, .ref e7, .int (nI be), .int (nI sd), .int (nI tu), .int (nI fo), .ref e8, .ref e9, .int (nI kn), .int (nI tl), .int (nI rn), .ref ea, .long tr, .ref eb])), (e5, .inl (G.2.2.1, 9, .inl (nF ru))), (e6, .inl (G.2.2.1, 15, .inl (nF la))), (e7, .inl (G.2.2.1, 15, .inl (nF lb))), (e8, .inl (G.2.2.1, 9, .inl (nF ne))), (ea, .inl (G.2.2.1, 512, .inl wh))] (fun r w2 => ∃ ne2 wh2 tl2 rn2 r2, aWho n (Fw n m ru la lb fo) sd x y z r2 ∧ r = some (.int r2) ∧ w2 = [(e0, .inr (8, [.ref e1, .int (nI ln), .int (nI aa), .int (nI bg), .int (nI tk), .int (nI td), .int (nI rl), .int (nI rs), .int (nI rd), .ref e2, .ref e3, .ref e4, .int (nI n), .int (nI m), .ref e5, .ref e6, .ref e7, .int (nI be), .int (nI sd), .int (nI tu), .int (nI fo), .ref e8, .ref e9, .int (nI kn), .int (nI tl2), .int (nI rn2), .ref ea, .long tr, .ref eb])), (e5, .inl (G.2.2.1, 9, .inl (nF ru))), (e6, .inl (G.2.2.1, 15, .inl (nF la))), (e7, .inl (G.2.2.1, 15, .inl (nF lb))), (e8, .inl (G.2.2.1, 9, .inl (nF ne2))), (ea, .inl (G.2.2.1, 512, .inl wh2))]) := by
  have hn := hT.1
  have hm := hT.2.1
  have h9 := p9 hn
  have h15 := p15 hm
  have hsd : sd < 512 := by have := hP.2.1; dsimp only at this; omega
  have hfo : fo < 32768 := by have := hP.2.2.2.1; dsimp only at this; omega
  refine Mg.mk (lv := [(0, .ref e0), (1, .int x), (2, .int y), (3, .int z)]) (by decide) rfl rfl (fun X F R0 => ?_)
  refine j_iload_n (q := 1) (i0 := 1) F rfl dX8_who_0 rfl ?_
  refine j_i2l (q := 2) (v := Int32.toInt64 x) F rfl dX8_who_1 rfl ?_
  refine j_lconst (q := 3) (v := 0) F (by decide) dX8_who_2 rfl ?_
  refine j_ldc2 (q := 6) F tw_885 dX8_who_3 rfl ?_
  refine j_callS (q := 9) (As := [.long (Int32.toInt64 x), .long 0, .long 60]) (wr := [(e0, .inr (8, [.ref e1, .int (nI ln), .int (nI aa), .int (nI bg), .int (nI tk), .int (nI td), .int (nI rl), .int (nI rs), .int (nI rd), .ref e2, .ref e3, .ref e4, .int (nI n), .int (nI m), .ref e5, .ref e6, .ref e7, .int (nI be), .int (nI sd), .int (nI tu), .int (nI fo), .ref e8, .ref e9, .int (nI kn), .int (nI tl), .int (nI rn), .ref ea, .long tr, .ref eb])), (e5, .inl (G.2.2.1, 9, .inl (nF ru))), (e6, .inl (G.2.2.1, 15, .inl (nF la))), (e7, .inl (G.2.2.1, 15, .inl (nF lb))), (e8, .inl (G.2.2.1, 9, .inl (nF ne))), (ea, .inl (G.2.2.1, 512, .inl wh))]) (st := []) F (c_inR G (x := x) (n := 61) rfl (by decide) (rfl)) kwX8_in tw_752 tw_751 ⟨Nat.le_of_ble_eq_true rfl, Nat.le_of_ble_eq_true rfl, rfl, rfl, Nat.le_of_ble_eq_true rfl, Nat.le_of_ble_eq_true rfl⟩ [] [0, 1, 2, 3, 4, 5] rfl rfl rfl rfl rfl rfl rfl (Nat.le_of_ble_eq_true rfl) dX8_who_6 rfl ?_
  rintro r_ w_ ⟨rfl, (⟨rfl, hx⟩ | ⟨rfl, hx⟩)⟩
  · skip
    refine j_w (w' := [(e0, .inr (8, [.ref e1, .int (nI ln), .int (nI aa), .int (nI bg), .int (nI tk), .int (nI td), .int (nI rl), .int (nI rs), .int (nI rd), .ref e2, .ref e3, .ref e4, .int (nI n), .int (nI m), .ref e5, .ref e6, .ref e7, .int (nI be), .int (nI sd), .int (nI tu), .int (nI fo), .ref e8, .ref e9, .int (nI kn), .int (nI tl), .int (nI rn), .ref ea, .long tr, .ref eb])), (e5, .inl (G.2.2.1, 9, .inl (nF ru))), (e6, .inl (G.2.2.1, 15, .inl (nF la))), (e7, .inl (G.2.2.1, 15, .inl (nF lb))), (e8, .inl (G.2.2.1, 9, .inl (nF ne))), (ea, .inl (G.2.2.1, 512, .inl wh))]) [0, 1, 2, 3, 4, 5] rfl rfl ?_
    show Jw G X _ 0 0 9 _ [.int (nI 1)] _
    refine j_if_eq (q := 12) (t := 30) F (cf (by decide)) dX8_who_9 rfl rfl (fun z => False.elim z) (fun _ => ?_)
    refine j_aload_n (q := 13) (i0 := 0) F rfl dX8_who_12 rfl ?_
    refine j_iload_n (q := 14) (i0 := 2) F rfl dX8_who_13 rfl ?_
    refine j_callV (q := 17) (ci := 8) (q0 := 0) (As := [.int y]) (wr := [(e5, .inl (G.2.2.1, 9, .inl (nF ru))), (e6, .inl (G.2.2.1, 15, .inl (nF la))), (e7, .inl (G.2.2.1, 15, .inl (nF lb))), (e8, .inl (G.2.2.1, 9, .inl (nF ne))), (ea, .inl (G.2.2.1, 512, .inl wh))]) (st := []) F (c_X8_isStand G (x := y) hn) kwX8_isStand tw_875 tw_34 tw_873 ⟨Nat.le_of_ble_eq_true rfl, Nat.le_of_ble_eq_true rfl, rfl, rfl, Nat.le_of_ble_eq_true rfl, Nat.le_of_ble_eq_true rfl⟩ [0] [1, 2, 3, 4, 5] rfl rfl rfl rfl rfl rfl rfl rfl rfl (Nat.le_of_ble_eq_true rfl) dX8_who_14 rfl ?_
    rintro r_ w_ ⟨rfl, (⟨rfl, hy⟩ | ⟨rfl, hy⟩)⟩
    · skip
      refine j_w (w' := [(e0, .inr (8, [.ref e1, .int (nI ln), .int (nI aa), .int (nI bg), .int (nI tk), .int (nI td), .int (nI rl), .int (nI rs), .int (nI rd), .ref e2, .ref e3, .ref e4, .int (nI n), .int (nI m), .ref e5, .ref e6, .ref e7, .int (nI be), .int (nI sd), .int (nI tu), .int (nI fo), .ref e8, .ref e9, .int (nI kn), .int (nI tl), .int (nI rn), .ref ea, .long tr, .ref eb])), (e5, .inl (G.2.2.1, 9, .inl (nF ru))), (e6, .inl (G.2.2.1, 15, .inl (nF la))), (e7, .inl (G.2.2.1, 15, .inl (nF lb))), (e8, .inl (G.2.2.1, 9, .inl (nF ne))), (ea, .inl (G.2.2.1, 512, .inl wh))]) [5, 0, 1, 2, 3, 4] rfl rfl ?_
      show Jw G X _ 0 0 17 _ [.int (nI 1)] _
      refine j_if_eq (q := 20) (t := 30) F (cf (by decide)) dX8_who_17 rfl rfl (fun z => False.elim z) (fun _ => ?_)
      refine j_iload_n (q := 21) (i0 := 3) F rfl dX8_who_20 rfl ?_
      refine j_i2l (q := 22) (v := Int32.toInt64 z) F rfl dX8_who_21 rfl ?_
      refine j_lconst (q := 23) (v := 0) F (by decide) dX8_who_22 rfl ?_
      refine j_lconst (q := 24) (v := 1) F (by decide) dX8_who_23 rfl ?_
      refine j_callS (q := 27) (As := [.long (Int32.toInt64 z), .long 0, .long 1]) (wr := [(e0, .inr (8, [.ref e1, .int (nI ln), .int (nI aa), .int (nI bg), .int (nI tk), .int (nI td), .int (nI rl), .int (nI rs), .int (nI rd), .ref e2, .ref e3, .ref e4, .int (nI n), .int (nI m), .ref e5, .ref e6, .ref e7, .int (nI be), .int (nI sd), .int (nI tu), .int (nI fo), .ref e8, .ref e9, .int (nI kn), .int (nI tl), .int (nI rn), .ref ea, .long tr, .ref eb])), (e5, .inl (G.2.2.1, 9, .inl (nF ru))), (e6, .inl (G.2.2.1, 15, .inl (nF la))), (e7, .inl (G.2.2.1, 15, .inl (nF lb))), (e8, .inl (G.2.2.1, 9, .inl (nF ne))), (ea, .inl (G.2.2.1, 512, .inl wh))]) (st := []) F (c_inR G (x := z) (n := 2) rfl (by decide) (rfl)) kwX8_in tw_752 tw_751 ⟨Nat.le_of_ble_eq_true rfl, Nat.le_of_ble_eq_true rfl, rfl, rfl, Nat.le_of_ble_eq_true rfl, Nat.le_of_ble_eq_true rfl⟩ [] [0, 1, 2, 3, 4, 5] rfl rfl rfl rfl rfl rfl rfl (Nat.le_of_ble_eq_true rfl) dX8_who_24 rfl ?_
      rintro r_ w_ ⟨rfl, (⟨rfl, hz⟩ | ⟨rfl, hz⟩)⟩
      · skip
        refine j_w (w' := [(e0, .inr (8, [.ref e1, .int (nI ln), .int (nI aa), .int (nI bg), .int (nI tk), .int (nI td), .int (nI rl), .int (nI rs), .int (nI rd), .ref e2, .ref e3, .ref e4, .int (nI n), .int (nI m), .ref e5, .ref e6, .ref e7, .int (nI be), .int (nI sd), .int (nI tu), .int (nI fo), .ref e8, .ref e9, .int (nI kn), .int (nI tl), .int (nI rn), .ref ea, .long tr, .ref eb])), (e5, .inl (G.2.2.1, 9, .inl (nF ru))), (e6, .inl (G.2.2.1, 15, .inl (nF la))), (e7, .inl (G.2.2.1, 15, .inl (nF lb))), (e8, .inl (G.2.2.1, 9, .inl (nF ne))), (ea, .inl (G.2.2.1, 512, .inl wh))]) [0, 1, 2, 3, 4, 5] rfl rfl ?_
        show Jw G X _ 0 0 27 _ [.int (nI 1)] _
        refine j_if_ne (q := 30) (t := 32) F (cf (by decide)) dX8_who_27 rfl rfl (fun _ => ?_) (fun z => False.elim z)
        obtain ⟨i, hi, rfl⟩ := hx
        obtain ⟨j, hj, rfl⟩ := hy
        obtain ⟨w, hw, rfl⟩ := hz
        refine j_aload_n (q := 33) (i0 := 0) F rfl dX8_who_32 rfl ?_
        refine j_aload_n (q := 34) (i0 := 0) F rfl dX8_who_33 rfl ?_
        refine j_get (q := 37) (ci := 8) (q0 := 0) (kf := 20) (v := .int (nI fo)) F inX8 rfl rfl rfl tw_678 rfl rfl dX8_who_34 rfl ?_
        refine j_callV (q := 40) (ci := 8) (q0 := 0) (As := [.int (nI fo)]) (wr := [(e5, .inl (G.2.2.1, 9, .inl (nF ru))), (ea, .inl (G.2.2.1, 512, .inl wh))]) (st := []) F (c_X8_looks G (wo := fo) hT (hfo)) kwX8_looks tw_826 tw_30 tw_824 ⟨Nat.le_of_ble_eq_true rfl, Nat.le_of_ble_eq_true rfl, rfl, rfl, Nat.le_of_ble_eq_true rfl, Nat.le_of_ble_eq_true rfl⟩ [0, 2, 3, 4] [1, 5] rfl rfl rfl rfl rfl rfl rfl rfl rfl (Nat.le_of_ble_eq_true rfl) dX8_who_37 rfl ?_
        rintro r_ w_ ⟨ne2, hne2, rfl, rfl⟩
        refine j_w (w' := [(e0, .inr (8, [.ref e1, .int (nI ln), .int (nI aa), .int (nI bg), .int (nI tk), .int (nI td), .int (nI rl), .int (nI rs), .int (nI rd), .ref e2, .ref e3, .ref e4, .int (nI n), .int (nI m), .ref e5, .ref e6, .ref e7, .int (nI be), .int (nI sd), .int (nI tu), .int (nI fo), .ref e8, .ref e9, .int (nI kn), .int (nI tl), .int (nI rn), .ref ea, .long tr, .ref eb])), (e5, .inl (G.2.2.1, 9, .inl (nF ru))), (e6, .inl (G.2.2.1, 15, .inl (nF la))), (e7, .inl (G.2.2.1, 15, .inl (nF lb))), (e8, .inl (G.2.2.1, 9, .inl (nF ne2))), (ea, .inl (G.2.2.1, 512, .inl wh))]) [2, 0, 3, 4, 5, 1] rfl rfl ?_
        show Jw G X _ 0 0 40 _ [] _
        have hW := Wk.of hT hne2
        refine j_iconst (q := 41) (v := nI 0) F (by decide) dX8_who_40 rfl ?_
        refine j_istore (q := 43) (lv' := [(4, .int (nI 0)), (0, .ref e0), (1, .int (nI i)), (2, .int (nI j)), (3, .int (nI w))]) F dX8_who_41 (by decide) rfl rfl ?_
        refine j_bipush (q := 45) (v := (-9)) F (by decide) dX8_who_43 rfl ?_
        refine j_istore (q := 47) (lv' := [(5, .int (-9)), (4, .int (nI 0)), (0, .ref e0), (1, .int (nI i)), (2, .int (nI j)), (3, .int (nI w))]) F dX8_who_45 (by decide) rfl rfl ?_
        refine j_iconst (q := 48) (v := nI 0) F (by decide) dX8_who_47 rfl ?_
        refine j_istore (q := 50) (lv' := [(6, .int (nI 0)), (5, .int (-9)), (4, .int (nI 0)), (0, .ref e0), (1, .int (nI i)), (2, .int (nI j)), (3, .int (nI w))]) F dX8_who_48 (by decide) rfl rfl ?_
        have lp4 : ∀ (fu : Nat) (v : Nat) (mn1 : Nat) (le1 : Int32) (hv : v ≤ 2 ^ n) (hC : CnSt (fun x => pcN x ≤ 3 ∧ it (Fw n m ru la lb fo) i (sd ^^^ x) = j) v mn1 le1), (2 ^ n - v) < fu → Jw G X 8 0 0 50 [(0, .ref e0), (1, .int (nI i)), (2, .int (nI j)), (3, .int (nI w)), (4, .int (nI mn1)), (5, .int le1), (6, .int (nI v))] [] [(e0, .inr (8, [.ref e1, .int (nI ln), .int (nI aa), .int (nI bg), .int (nI tk), .int (nI td), .int (nI rl), .int (nI rs), .int (nI rd), .ref e2, .ref e3, .ref e4, .int (nI n), .int (nI m), .ref e5, .ref e6, .ref e7, .int (nI be), .int (nI sd), .int (nI tu), .int (nI fo), .ref e8, .ref e9, .int (nI kn), .int (nI tl), .int (nI rn), .ref ea, .long tr, .ref eb])), (e5, .inl (G.2.2.1, 9, .inl (nF ru))), (e6, .inl (G.2.2.1, 15, .inl (nF la))), (e7, .inl (G.2.2.1, 15, .inl (nF lb))), (e8, .inl (G.2.2.1, 9, .inl (nF ne2))), (ea, .inl (G.2.2.1, 512, .inl wh))] := by
          intro fu
          induction fu with
          | zero => intro v mn1 le1 hv hC hfu; exact absurd hfu (Nat.not_lt_zero _)
          | succ fu ih4 =>
            intro v mn1 le1 hv hC hfu
            have hCn := hC.le_i
            refine j_iload (q := 52) (i0 := 6) F rfl dX8_who_50 rfl ?_
            refine j_iconst (q := 53) (v := nI 1) F (by decide) dX8_who_52 rfl ?_
            refine j_aload_n (q := 54) (i0 := 0) F rfl dX8_who_53 rfl ?_
            refine j_get (q := 57) (ci := 8) (q0 := 0) (kf := 12) (v := .int (nI n)) F inX8 rfl rfl rfl tw_670 rfl rfl dX8_who_54 rfl ?_
            refine j_ishl (q := 58) (v := nI (2 ^ n)) F (nx_shl1 (by omega)) dX8_who_57 rfl ?_
            refine j_icmp_ge (q := 61) (t := 133) F (Pp := 2 ^ n ≤ v) (nI_leI (by omega) (by omega)) dX8_who_58 rfl rfl (fun c5 => ?_) (fun c5 => ?_)
            · skip
              refine j_iload_n (q := 134) (i0 := 3) F rfl dX8_who_133 rfl ?_
              refine j_if_ne (q := 137) (t := 142) F (Pp := nI w = nI 0) (Iff.rfl) dX8_who_134 rfl rfl (fun cw => ?_) (fun cw => ?_)
              · skip
                refine j_iload (q := 144) (i0 := 5) F rfl dX8_who_142 rfl ?_
                exact j_iret (w2 := [(e0, .inr (8, [.ref e1, .int (nI ln), .int (nI aa), .int (nI bg), .int (nI tk), .int (nI td), .int (nI rl), .int (nI rs), .int (nI rd), .ref e2, .ref e3, .ref e4, .int (nI n), .int (nI m), .ref e5, .ref e6, .ref e7, .int (nI be), .int (nI sd), .int (nI tu), .int (nI fo), .ref e8, .ref e9, .int (nI kn), .int (nI tl), .int (nI rn), .ref ea, .long tr, .ref eb])), (e5, .inl (G.2.2.1, 9, .inl (nF ru))), (e6, .inl (G.2.2.1, 15, .inl (nF la))), (e7, .inl (G.2.2.1, 15, .inl (nF lb))), (e8, .inl (G.2.2.1, 9, .inl (nF ne2))), (ea, .inl (G.2.2.1, 512, .inl wh))]) F R0 rfl [0, 1, 2, 3, 4, 5] rfl rfl (⟨_, _, _, _, _, Or.inr ⟨⟨⟨i, hi, rfl⟩, ⟨j, hj, rfl⟩, ⟨w, hw, rfl⟩⟩, _, _, by rw [nI_clamp (by omega), nI_clamp (by omega)]; exact (show v = 2 ^ n by omega) ▸ hC, by rw [if_neg cw]⟩, rfl, rfl⟩) dX8_who_144
              · skip
                refine j_iload (q := 139) (i0 := 4) F rfl dX8_who_137 rfl ?_
                refine j_goto (t := 144) F dX8_who_139 rfl ?_
                exact j_iret (w2 := [(e0, .inr (8, [.ref e1, .int (nI ln), .int (nI aa), .int (nI bg), .int (nI tk), .int (nI td), .int (nI rl), .int (nI rs), .int (nI rd), .ref e2, .ref e3, .ref e4, .int (nI n), .int (nI m), .ref e5, .ref e6, .ref e7, .int (nI be), .int (nI sd), .int (nI tu), .int (nI fo), .ref e8, .ref e9, .int (nI kn), .int (nI tl), .int (nI rn), .ref ea, .long tr, .ref eb])), (e5, .inl (G.2.2.1, 9, .inl (nF ru))), (e6, .inl (G.2.2.1, 15, .inl (nF la))), (e7, .inl (G.2.2.1, 15, .inl (nF lb))), (e8, .inl (G.2.2.1, 9, .inl (nF ne2))), (ea, .inl (G.2.2.1, 512, .inl wh))]) F R0 rfl [0, 1, 2, 3, 4, 5] rfl rfl (⟨_, _, _, _, _, Or.inr ⟨⟨⟨i, hi, rfl⟩, ⟨j, hj, rfl⟩, ⟨w, hw, rfl⟩⟩, _, _, by rw [nI_clamp (by omega), nI_clamp (by omega)]; exact (show v = 2 ^ n by omega) ▸ hC, by rw [if_pos cw]⟩, rfl, rfl⟩) dX8_who_144
            · skip
              have hpv := pcN_le v
              have hx := Nat.xor_lt_two_pow (n := 9) hsd (show v < 2 ^ 9 by omega)
              have hit := it_lt hW.f5 hx i
              refine j_iload (q := 63) (i0 := 6) F rfl dX8_who_61 rfl ?_
              refine j_callS (q := 66) (As := [.int (nI v)]) (wr := [(e0, .inr (8, [.ref e1, .int (nI ln), .int (nI aa), .int (nI bg), .int (nI tk), .int (nI td), .int (nI rl), .int (nI rs), .int (nI rd), .ref e2, .ref e3, .ref e4, .int (nI n), .int (nI m), .ref e5, .ref e6, .ref e7, .int (nI be), .int (nI sd), .int (nI tu), .int (nI fo), .ref e8, .ref e9, .int (nI kn), .int (nI tl), .int (nI rn), .ref ea, .long tr, .ref eb])), (e5, .inl (G.2.2.1, 9, .inl (nF ru))), (e6, .inl (G.2.2.1, 15, .inl (nF la))), (e7, .inl (G.2.2.1, 15, .inl (nF lb))), (e8, .inl (G.2.2.1, 9, .inl (nF ne2))), (ea, .inl (G.2.2.1, 512, .inl wh))]) (st := []) F (c_X8_many G (k := v) (by omega)) kwX8_many tw_809 tw_808 ⟨Nat.le_of_ble_eq_true rfl, Nat.le_of_ble_eq_true rfl, rfl, rfl, Nat.le_of_ble_eq_true rfl, Nat.le_of_ble_eq_true rfl⟩ [] [0, 1, 2, 3, 4, 5] rfl rfl rfl rfl rfl rfl rfl (Nat.le_of_ble_eq_true rfl) dX8_who_63 rfl ?_
              rintro r_ w_ ⟨rfl, rfl⟩
              refine j_w (w' := [(e0, .inr (8, [.ref e1, .int (nI ln), .int (nI aa), .int (nI bg), .int (nI tk), .int (nI td), .int (nI rl), .int (nI rs), .int (nI rd), .ref e2, .ref e3, .ref e4, .int (nI n), .int (nI m), .ref e5, .ref e6, .ref e7, .int (nI be), .int (nI sd), .int (nI tu), .int (nI fo), .ref e8, .ref e9, .int (nI kn), .int (nI tl), .int (nI rn), .ref ea, .long tr, .ref eb])), (e5, .inl (G.2.2.1, 9, .inl (nF ru))), (e6, .inl (G.2.2.1, 15, .inl (nF la))), (e7, .inl (G.2.2.1, 15, .inl (nF lb))), (e8, .inl (G.2.2.1, 9, .inl (nF ne2))), (ea, .inl (G.2.2.1, 512, .inl wh))]) [0, 1, 2, 3, 4, 5] rfl rfl ?_
              show Jw G X _ 0 0 66 _ [.int (nI (pcN v))] _
              refine j_iconst (q := 67) (v := nI 4) F (by decide) dX8_who_66 rfl ?_
              refine j_icmp_ge (q := 70) (t := 90) F (Pp := 4 ≤ pcN v) (nI_leI (by omega) (by omega)) dX8_who_67 rfl rfl (fun c7 => ?_) (fun c7 => ?_)
              · skip
                refine j_iconst (q := 91) (v := nI 0) F (by decide) dX8_who_90 rfl ?_
                refine j_istore (q := 93) (lv' := [(7, .int (nI 0)), (0, .ref e0), (1, .int (nI i)), (2, .int (nI j)), (3, .int (nI w)), (4, .int (nI mn1)), (5, .int le1), (6, .int (nI v))]) F dX8_who_91 (by decide) rfl rfl ?_
                refine j_iload (q := 95) (i0 := 0) F rfl dX8_who_93 rfl ?_
                refine j_if_eq (q := 98) (t := 108) F (ct (by decide)) dX8_who_95 rfl rfl (fun _ => ?_) (fun z => absurd trivial z)
                refine j_iload (q := 110) (i0 := 6) F rfl dX8_who_108 rfl ?_
                refine j_istore (q := 112) (lv' := [(5, .int le1), (7, .int (nI 0)), (0, .ref e0), (1, .int (nI i)), (2, .int (nI j)), (3, .int (nI w)), (4, .int (nI mn1)), (6, .int (nI v))]) F dX8_who_110 (by decide) rfl rfl ?_
                refine j_iload (q := 114) (i0 := 6) F rfl dX8_who_112 rfl ?_
                refine j_iload (q := 116) (i0 := 1) F rfl dX8_who_114 rfl ?_
                refine j_if_eq (q := 119) (t := 123) F (ct (by decide)) dX8_who_116 rfl rfl (fun _ => ?_) (fun z => absurd trivial z)
                refine j_iconst (q := 124) (v := nI 0) F (by decide) dX8_who_123 rfl ?_
                refine j_iadd (q := 125) (v := nI (mn1 + 0)) F (nI_add _ _) dX8_who_124 rfl ?_
                refine j_istore (q := 127) (lv' := [(4, .int (nI (mn1 + 0))), (5, .int le1), (7, .int (nI 0)), (0, .ref e0), (1, .int (nI i)), (2, .int (nI j)), (3, .int (nI w)), (6, .int (nI v))]) F dX8_who_125 (by decide) rfl rfl ?_
                refine j_iinc (q := 130) (i0 := 7) (v := nI (v + 1)) (lv' := [(6, .int (nI (v + 1))), (4, .int (nI (mn1 + 0))), (5, .int le1), (7, .int (nI 0)), (0, .ref e0), (1, .int (nI i)), (2, .int (nI j)), (3, .int (nI w))]) F dX8_who_127 rfl (nI_add _ _) (by decide) rfl rfl ?_
                refine j_goto (t := 50) F dX8_who_130 rfl ?_
                refine j_lv [4, 5, 6, 7, 1, 2, 0] (lv' := [(0, .ref e0), (1, .int (nI i)), (2, .int (nI j)), (3, .int (nI w)), (4, .int (nI (mn1 + 0))), (5, .int le1), (6, .int (nI (v + 1)))]) rfl ?_
                exact ih4 (v + 1) _ _ (by omega) (hC.skip (fun z => by have := z.1; omega)) (by omega)
              · skip
                refine j_aload_n (q := 71) (i0 := 0) F rfl dX8_who_70 rfl ?_
                refine j_aload_n (q := 72) (i0 := 0) F rfl dX8_who_71 rfl ?_
                refine j_get (q := 75) (ci := 8) (q0 := 0) (kf := 18) (v := .int (nI sd)) F inX8 rfl rfl rfl tw_676 rfl rfl dX8_who_72 rfl ?_
                refine j_iload (q := 77) (i0 := 6) F rfl dX8_who_75 rfl ?_
                refine j_ixor (q := 78) (v := nI (sd ^^^ v)) F (nx_xor _ _) dX8_who_77 rfl ?_
                refine j_iload_n (q := 79) (i0 := 1) F rfl dX8_who_78 rfl ?_
                refine j_callV (q := 82) (ci := 8) (q0 := 0) (As := [.int (nI (sd ^^^ v)), .int (nI i)]) (wr := [(e6, .inl (G.2.2.1, 15, .inl (nF la))), (e7, .inl (G.2.2.1, 15, .inl (nF lb))), (ea, .inl (G.2.2.1, 512, .inl wh))]) (st := []) F (c_X8_goesOn G hW (s := sd ^^^ v) (k := i) (hx) (by omega)) kwX8_goesOn tw_855 tw_32 tw_853 ⟨Nat.le_of_ble_eq_true rfl, Nat.le_of_ble_eq_true rfl, rfl, rfl, Nat.le_of_ble_eq_true rfl, Nat.le_of_ble_eq_true rfl⟩ [0, 1, 4] [2, 3, 5] rfl rfl rfl rfl rfl rfl rfl rfl rfl (Nat.le_of_ble_eq_true rfl) dX8_who_79 rfl ?_
                rintro r_ w_ ⟨rfl, rfl⟩
                refine j_w (w' := [(e0, .inr (8, [.ref e1, .int (nI ln), .int (nI aa), .int (nI bg), .int (nI tk), .int (nI td), .int (nI rl), .int (nI rs), .int (nI rd), .ref e2, .ref e3, .ref e4, .int (nI n), .int (nI m), .ref e5, .ref e6, .ref e7, .int (nI be), .int (nI sd), .int (nI tu), .int (nI fo), .ref e8, .ref e9, .int (nI kn), .int (nI tl), .int (nI rn), .ref ea, .long tr, .ref eb])), (e5, .inl (G.2.2.1, 9, .inl (nF ru))), (e6, .inl (G.2.2.1, 15, .inl (nF la))), (e7, .inl (G.2.2.1, 15, .inl (nF lb))), (e8, .inl (G.2.2.1, 9, .inl (nF ne2))), (ea, .inl (G.2.2.1, 512, .inl wh))]) [3, 4, 0, 1, 5, 2] rfl rfl ?_
                show Jw G X _ 0 0 82 _ [.int (nI (it (Fw n m ru la lb fo) i (sd ^^^ v)))] _
                refine j_iload_n (q := 83) (i0 := 2) F rfl dX8_who_82 rfl ?_
                refine j_icmp_ne (q := 86) (t := 90) F (Pp := it (Fw n m ru la lb fo) i (sd ^^^ v) = j) (nI_eq (by omega) (by omega)) dX8_who_83 rfl rfl (fun ce => ?_) (fun ce => ?_)
                · skip
                  refine j_iconst (q := 91) (v := nI 0) F (by decide) dX8_who_90 rfl ?_
                  refine j_istore (q := 93) (lv' := [(7, .int (nI 0)), (0, .ref e0), (1, .int (nI i)), (2, .int (nI j)), (3, .int (nI w)), (4, .int (nI mn1)), (5, .int le1), (6, .int (nI v))]) F dX8_who_91 (by decide) rfl rfl ?_
                  refine j_iload (q := 95) (i0 := 0) F rfl dX8_who_93 rfl ?_
                  refine j_if_eq (q := 98) (t := 108) F (ct (by decide)) dX8_who_95 rfl rfl (fun _ => ?_) (fun z => absurd trivial z)
                  refine j_iload (q := 110) (i0 := 6) F rfl dX8_who_108 rfl ?_
                  refine j_istore (q := 112) (lv' := [(5, .int le1), (7, .int (nI 0)), (0, .ref e0), (1, .int (nI i)), (2, .int (nI j)), (3, .int (nI w)), (4, .int (nI mn1)), (6, .int (nI v))]) F dX8_who_110 (by decide) rfl rfl ?_
                  refine j_iload (q := 114) (i0 := 6) F rfl dX8_who_112 rfl ?_
                  refine j_iload (q := 116) (i0 := 1) F rfl dX8_who_114 rfl ?_
                  refine j_if_eq (q := 119) (t := 123) F (ct (by decide)) dX8_who_116 rfl rfl (fun _ => ?_) (fun z => absurd trivial z)
                  refine j_iconst (q := 124) (v := nI 0) F (by decide) dX8_who_123 rfl ?_
                  refine j_iadd (q := 125) (v := nI (mn1 + 0)) F (nI_add _ _) dX8_who_124 rfl ?_
                  refine j_istore (q := 127) (lv' := [(4, .int (nI (mn1 + 0))), (5, .int le1), (7, .int (nI 0)), (0, .ref e0), (1, .int (nI i)), (2, .int (nI j)), (3, .int (nI w)), (6, .int (nI v))]) F dX8_who_125 (by decide) rfl rfl ?_
                  refine j_iinc (q := 130) (i0 := 7) (v := nI (v + 1)) (lv' := [(6, .int (nI (v + 1))), (4, .int (nI (mn1 + 0))), (5, .int le1), (7, .int (nI 0)), (0, .ref e0), (1, .int (nI i)), (2, .int (nI j)), (3, .int (nI w))]) F dX8_who_127 rfl (nI_add _ _) (by decide) rfl rfl ?_
                  refine j_goto (t := 50) F dX8_who_130 rfl ?_
                  refine j_lv [4, 5, 6, 7, 1, 2, 0] (lv' := [(0, .ref e0), (1, .int (nI i)), (2, .int (nI j)), (3, .int (nI w)), (4, .int (nI (mn1 + 0))), (5, .int le1), (6, .int (nI (v + 1)))]) rfl ?_
                  exact ih4 (v + 1) _ _ (by omega) (hC.skip (fun z => ce z.2)) (by omega)
                · skip
                  refine j_iconst (q := 87) (v := nI 1) F (by decide) dX8_who_86 rfl ?_
                  refine j_goto (t := 91) F dX8_who_87 rfl ?_
                  refine j_istore (q := 93) (lv' := [(7, .int (nI 1)), (0, .ref e0), (1, .int (nI i)), (2, .int (nI j)), (3, .int (nI w)), (4, .int (nI mn1)), (5, .int le1), (6, .int (nI v))]) F dX8_who_91 (by decide) rfl rfl ?_
                  refine j_iload (q := 95) (i0 := 0) F rfl dX8_who_93 rfl ?_
                  refine j_if_eq (q := 98) (t := 108) F (cf (by decide)) dX8_who_95 rfl rfl (fun z => False.elim z) (fun _ => ?_)
                  refine j_iload (q := 100) (i0 := 5) F rfl dX8_who_98 rfl ?_
                  refine j_if_ne (q := 103) (t := 108) F (Pp := mn1 = 0) (nI_eq0 (by omega)) dX8_who_100 rfl rfl (fun cz => ?_) (fun cz => ?_)
                  · skip
                    refine j_iload (q := 110) (i0 := 6) F rfl dX8_who_108 rfl ?_
                    refine j_istore (q := 112) (lv' := [(5, .int le1), (7, .int (nI 1)), (0, .ref e0), (1, .int (nI i)), (2, .int (nI j)), (3, .int (nI w)), (4, .int (nI mn1)), (6, .int (nI v))]) F dX8_who_110 (by decide) rfl rfl ?_
                    refine j_iload (q := 114) (i0 := 6) F rfl dX8_who_112 rfl ?_
                    refine j_iload (q := 116) (i0 := 1) F rfl dX8_who_114 rfl ?_
                    refine j_if_eq (q := 119) (t := 123) F (cf (by decide)) dX8_who_116 rfl rfl (fun z => False.elim z) (fun _ => ?_)
                    refine j_iconst (q := 120) (v := nI 1) F (by decide) dX8_who_119 rfl ?_
                    refine j_goto (t := 124) F dX8_who_120 rfl ?_
                    refine j_iadd (q := 125) (v := nI (mn1 + 1)) F (nI_add _ _) dX8_who_124 rfl ?_
                    refine j_istore (q := 127) (lv' := [(4, .int (nI (mn1 + 1))), (5, .int le1), (7, .int (nI 1)), (0, .ref e0), (1, .int (nI i)), (2, .int (nI j)), (3, .int (nI w)), (6, .int (nI v))]) F dX8_who_125 (by decide) rfl rfl ?_
                    refine j_iinc (q := 130) (i0 := 7) (v := nI (v + 1)) (lv' := [(6, .int (nI (v + 1))), (4, .int (nI (mn1 + 1))), (5, .int le1), (7, .int (nI 1)), (0, .ref e0), (1, .int (nI i)), (2, .int (nI j)), (3, .int (nI w))]) F dX8_who_127 rfl (nI_add _ _) (by decide) rfl rfl ?_
                    refine j_goto (t := 50) F dX8_who_130 rfl ?_
                    refine j_lv [4, 5, 6, 7, 1, 2, 0] (lv' := [(0, .ref e0), (1, .int (nI i)), (2, .int (nI j)), (3, .int (nI w)), (4, .int (nI (mn1 + 1))), (5, .int le1), (6, .int (nI (v + 1)))]) rfl ?_
                    exact ih4 (v + 1) _ _ (by omega) (hC.more cz ⟨by omega, ce⟩) (by omega)
                  · skip
                    refine j_iload (q := 105) (i0 := 7) F rfl dX8_who_103 rfl ?_
                    refine j_goto (t := 110) F dX8_who_105 rfl ?_
                    refine j_istore (q := 112) (lv' := [(5, .int (nI v)), (7, .int (nI 1)), (0, .ref e0), (1, .int (nI i)), (2, .int (nI j)), (3, .int (nI w)), (4, .int (nI mn1)), (6, .int (nI v))]) F dX8_who_110 (by decide) rfl rfl ?_
                    refine j_iload (q := 114) (i0 := 6) F rfl dX8_who_112 rfl ?_
                    refine j_iload (q := 116) (i0 := 1) F rfl dX8_who_114 rfl ?_
                    refine j_if_eq (q := 119) (t := 123) F (cf (by decide)) dX8_who_116 rfl rfl (fun z => False.elim z) (fun _ => ?_)
                    refine j_iconst (q := 120) (v := nI 1) F (by decide) dX8_who_119 rfl ?_
                    refine j_goto (t := 124) F dX8_who_120 rfl ?_
                    refine j_iadd (q := 125) (v := nI (mn1 + 1)) F (nI_add _ _) dX8_who_124 rfl ?_
                    refine j_istore (q := 127) (lv' := [(4, .int (nI (mn1 + 1))), (5, .int (nI v)), (7, .int (nI 1)), (0, .ref e0), (1, .int (nI i)), (2, .int (nI j)), (3, .int (nI w)), (6, .int (nI v))]) F dX8_who_125 (by decide) rfl rfl ?_
                    refine j_iinc (q := 130) (i0 := 7) (v := nI (v + 1)) (lv' := [(6, .int (nI (v + 1))), (4, .int (nI (mn1 + 1))), (5, .int (nI v)), (7, .int (nI 1)), (0, .ref e0), (1, .int (nI i)), (2, .int (nI j)), (3, .int (nI w))]) F dX8_who_127 rfl (nI_add _ _) (by decide) rfl rfl ?_
                    refine j_goto (t := 50) F dX8_who_130 rfl ?_
                    refine j_lv [4, 5, 6, 7, 1, 2, 0] (lv' := [(0, .ref e0), (1, .int (nI i)), (2, .int (nI j)), (3, .int (nI w)), (4, .int (nI (mn1 + 1))), (5, .int (nI v)), (6, .int (nI (v + 1)))]) rfl ?_
                    exact ih4 (v + 1) _ _ (by omega) (hC.first cz ⟨by omega, ce⟩) (by omega)
        refine j_lv [3, 4, 5, 6, 2, 1, 0] (lv' := [(0, .ref e0), (1, .int (nI i)), (2, .int (nI j)), (3, .int (nI w)), (4, .int (nI 0)), (5, .int (-9)), (6, .int (nI 0))]) rfl ?_
        exact lp4 _ 0 0 (-9) (Nat.zero_le _) (CnSt.z _) (Nat.lt_succ_self _)
      · skip
        refine j_w (w' := [(e0, .inr (8, [.ref e1, .int (nI ln), .int (nI aa), .int (nI bg), .int (nI tk), .int (nI td), .int (nI rl), .int (nI rs), .int (nI rd), .ref e2, .ref e3, .ref e4, .int (nI n), .int (nI m), .ref e5, .ref e6, .ref e7, .int (nI be), .int (nI sd), .int (nI tu), .int (nI fo), .ref e8, .ref e9, .int (nI kn), .int (nI tl), .int (nI rn), .ref ea, .long tr, .ref eb])), (e5, .inl (G.2.2.1, 9, .inl (nF ru))), (e6, .inl (G.2.2.1, 15, .inl (nF la))), (e7, .inl (G.2.2.1, 15, .inl (nF lb))), (e8, .inl (G.2.2.1, 9, .inl (nF ne))), (ea, .inl (G.2.2.1, 512, .inl wh))]) [0, 1, 2, 3, 4, 5] rfl rfl ?_
        show Jw G X _ 0 0 27 _ [.int (nI 0)] _
        refine j_if_ne (q := 30) (t := 32) F (ct (by decide)) dX8_who_27 rfl rfl (fun z => absurd trivial z) (fun _ => ?_)
        refine j_iconst (q := 31) (v := (-1)) F (by decide) dX8_who_30 rfl ?_
        exact j_iret (w2 := [(e0, .inr (8, [.ref e1, .int (nI ln), .int (nI aa), .int (nI bg), .int (nI tk), .int (nI td), .int (nI rl), .int (nI rs), .int (nI rd), .ref e2, .ref e3, .ref e4, .int (nI n), .int (nI m), .ref e5, .ref e6, .ref e7, .int (nI be), .int (nI sd), .int (nI tu), .int (nI fo), .ref e8, .ref e9, .int (nI kn), .int (nI tl), .int (nI rn), .ref ea, .long tr, .ref eb])), (e5, .inl (G.2.2.1, 9, .inl (nF ru))), (e6, .inl (G.2.2.1, 15, .inl (nF la))), (e7, .inl (G.2.2.1, 15, .inl (nF lb))), (e8, .inl (G.2.2.1, 9, .inl (nF ne))), (ea, .inl (G.2.2.1, 512, .inl wh))]) F R0 rfl [0, 1, 2, 3, 4, 5] rfl rfl (⟨_, _, _, _, _, Or.inl ⟨fun z => hz z.2.2, rfl⟩, rfl, rfl⟩) dX8_who_31
    · skip
      refine j_w (w' := [(e0, .inr (8, [.ref e1, .int (nI ln), .int (nI aa), .int (nI bg), .int (nI tk), .int (nI td), .int (nI rl), .int (nI rs), .int (nI rd), .ref e2, .ref e3, .ref e4, .int (nI n), .int (nI m), .ref e5, .ref e6, .ref e7, .int (nI be), .int (nI sd), .int (nI tu), .int (nI fo), .ref e8, .ref e9, .int (nI kn), .int (nI tl), .int (nI rn), .ref ea, .long tr, .ref eb])), (e5, .inl (G.2.2.1, 9, .inl (nF ru))), (e6, .inl (G.2.2.1, 15, .inl (nF la))), (e7, .inl (G.2.2.1, 15, .inl (nF lb))), (e8, .inl (G.2.2.1, 9, .inl (nF ne))), (ea, .inl (G.2.2.1, 512, .inl wh))]) [5, 0, 1, 2, 3, 4] rfl rfl ?_
      show Jw G X _ 0 0 17 _ [.int (nI 0)] _
      refine j_if_eq (q := 20) (t := 30) F (ct (by decide)) dX8_who_17 rfl rfl (fun _ => ?_) (fun z => absurd trivial z)
      refine j_iconst (q := 31) (v := (-1)) F (by decide) dX8_who_30 rfl ?_
      exact j_iret (w2 := [(e0, .inr (8, [.ref e1, .int (nI ln), .int (nI aa), .int (nI bg), .int (nI tk), .int (nI td), .int (nI rl), .int (nI rs), .int (nI rd), .ref e2, .ref e3, .ref e4, .int (nI n), .int (nI m), .ref e5, .ref e6, .ref e7, .int (nI be), .int (nI sd), .int (nI tu), .int (nI fo), .ref e8, .ref e9, .int (nI kn), .int (nI tl), .int (nI rn), .ref ea, .long tr, .ref eb])), (e5, .inl (G.2.2.1, 9, .inl (nF ru))), (e6, .inl (G.2.2.1, 15, .inl (nF la))), (e7, .inl (G.2.2.1, 15, .inl (nF lb))), (e8, .inl (G.2.2.1, 9, .inl (nF ne))), (ea, .inl (G.2.2.1, 512, .inl wh))]) F R0 rfl [0, 1, 2, 3, 4, 5] rfl rfl (⟨_, _, _, _, _, Or.inl ⟨fun z => hy z.2.1, rfl⟩, rfl, rfl⟩) dX8_who_31
  · skip
    refine j_w (w' := [(e0, .inr (8, [.ref e1, .int (nI ln), .int (nI aa), .int (nI bg), .int (nI tk), .int (nI td), .int (nI rl), .int (nI rs), .int (nI rd), .ref e2, .ref e3, .ref e4, .int (nI n), .int (nI m), .ref e5, .ref e6, .ref e7, .int (nI be), .int (nI sd), .int (nI tu), .int (nI fo), .ref e8, .ref e9, .int (nI kn), .int (nI tl), .int (nI rn), .ref ea, .long tr, .ref eb])), (e5, .inl (G.2.2.1, 9, .inl (nF ru))), (e6, .inl (G.2.2.1, 15, .inl (nF la))), (e7, .inl (G.2.2.1, 15, .inl (nF lb))), (e8, .inl (G.2.2.1, 9, .inl (nF ne))), (ea, .inl (G.2.2.1, 512, .inl wh))]) [0, 1, 2, 3, 4, 5] rfl rfl ?_
    show Jw G X _ 0 0 9 _ [.int (nI 0)] _
    refine j_if_eq (q := 12) (t := 30) F (ct (by decide)) dX8_who_9 rfl rfl (fun _ => ?_) (fun z => absurd trivial z)
    refine j_iconst (q := 31) (v := (-1)) F (by decide) dX8_who_30 rfl ?_
    exact j_iret (w2 := [(e0, .inr (8, [.ref e1, .int (nI ln), .int (nI aa), .int (nI bg), .int (nI tk), .int (nI td), .int (nI rl), .int (nI rs), .int (nI rd), .ref e2, .ref e3, .ref e4, .int (nI n), .int (nI m), .ref e5, .ref e6, .ref e7, .int (nI be), .int (nI sd), .int (nI tu), .int (nI fo), .ref e8, .ref e9, .int (nI kn), .int (nI tl), .int (nI rn), .ref ea, .long tr, .ref eb])), (e5, .inl (G.2.2.1, 9, .inl (nF ru))), (e6, .inl (G.2.2.1, 15, .inl (nF la))), (e7, .inl (G.2.2.1, 15, .inl (nF lb))), (e8, .inl (G.2.2.1, 9, .inl (nF ne))), (ea, .inl (G.2.2.1, 512, .inl wh))]) F R0 rfl [0, 1, 2, 3, 4, 5] rfl rfl (⟨_, _, _, _, _, Or.inl ⟨fun z => hx z.1, rfl⟩, rfl, rfl⟩) dX8_who_31

