set_option maxHeartbeats 4000000 in
set_option maxRecDepth 100000 in
theorem c_X8_thief (G : Gm) {e0 e1 e2 e3 e4 e5 e6 e7 e8 e9 ea eb : Nat} {ln aa bg tk td rl rs rd n m be sd tu fo kn tl rn : Nat} {ru la lb ne pa : Nat → Nat} {wh : Nat → Int32} {tr : Int64} {x y : Int32} (hT : Tok n m ru la lb) (hP : PrOk n m (be, sd, tu, fo, kn, pa)) : Mg G yX8_thief cX8_thief 8 (some .int) ({ frames := 2, cells := 0, slots := 0, locals := 49 } : Room) 0 0 [.ref e0, .int x, .int y] [(e0, .inr (8, [.ref e1, .int (nI ln), .int (nI aa), .int (nI bg), .int (nI tk), .int (nI td), .int (nI rl), .int (nI rs), .int (nI rd), .ref e2, .ref e3, .ref e4, .int (nI n), .int (nI m), .ref e5, .ref e6, .ref e7, .int (nI be), .int (nI sd), .int (nI tu), .int (nI fo), .ref e8, .ref e9, .int (nI kn), .int (nI tl), .int (nI rn), .ref ea, .long tr, .ref eb])), (e5, .inl (G.2.2.1, 9, .inl (nF ru))), (e6, .inl (G.2.2.1, 15, .inl (nF la))), (e7, .inl (G.2.2.1, 15, .inl (nF lb))), (e8, .inl (G.2.2.1, 9, .inl (nF ne))), (ea, .inl (G.2.2.1, 512, .inl wh))] (fun r w2 => ∃ ne2 wh2 tl2 rn2 r2, aThief n m la lb (Fw n m ru la lb fo) sd x y r2 ∧ r = some (.int r2) ∧ w2 = [(e0, .inr (8, [.ref e1, .int (nI ln), .int (nI aa), .int (nI bg), .int (nI tk), .int (nI td), .int (nI rl), .int (nI rs), .int (nI rd), .ref e2, .ref e3, .ref e4, .int (nI n), .int (nI m), .ref e5, .ref e6, .ref e7, .int (nI be), .int (nI sd), .int (nI tu), .int (nI fo), .ref e8, .ref e9, .int (nI kn), .int (nI tl2), .int (nI rn2), .ref ea, .long tr, .ref eb])), (e5, .inl (G.2.2.1, 9, .inl (nF ru))), (e6, .inl (G.2.2.1, 15, .inl (nF la))), (e7, .inl (G.2.2.1, 15, .inl (nF lb))), (e8, .inl (G.2.2.1, 9, .inl (nF ne2))), (ea, .inl (G.2.2.1, 512, .inl wh2))]) := by
  have hn := hT.1
  have hm := hT.2.1
  have h9 := p9 hn
  have h15 := p15 hm
  have hsd : sd < 512 := by have := hP.2.1; dsimp only at this; omega
  have hfo : fo < 32768 := by have := hP.2.2.2.1; dsimp only at this; omega
  refine Mg.mk (lv := [(0, .ref e0), (1, .int x), (2, .int y)]) (by decide) rfl rfl (fun X F R0 => ?_)
  refine j_aload_n (q := 1) (i0 := 0) F rfl dX8_thief_0 rfl ?_
  refine j_iload_n (q := 2) (i0 := 1) F rfl dX8_thief_1 rfl ?_
  refine j_callV (q := 5) (ci := 8) (q0 := 0) (As := [.int x]) (wr := [(e5, .inl (G.2.2.1, 9, .inl (nF ru))), (e6, .inl (G.2.2.1, 15, .inl (nF la))), (e7, .inl (G.2.2.1, 15, .inl (nF lb))), (e8, .inl (G.2.2.1, 9, .inl (nF ne))), (ea, .inl (G.2.2.1, 512, .inl wh))]) (st := []) F (c_X8_isLamp G (x := x) hn) kwX8_isLamp tw_802 tw_27 tw_800 ⟨Nat.le_of_ble_eq_true rfl, Nat.le_of_ble_eq_true rfl, rfl, rfl, Nat.le_of_ble_eq_true rfl, Nat.le_of_ble_eq_true rfl⟩ [0] [1, 2, 3, 4, 5] rfl rfl rfl rfl rfl rfl rfl rfl rfl (Nat.le_of_ble_eq_true rfl) dX8_thief_2 rfl ?_
  rintro r_ w_ ⟨rfl, (⟨rfl, hx⟩ | ⟨rfl, hx⟩)⟩
  · skip
    refine j_w (w' := [(e0, .inr (8, [.ref e1, .int (nI ln), .int (nI aa), .int (nI bg), .int (nI tk), .int (nI td), .int (nI rl), .int (nI rs), .int (nI rd), .ref e2, .ref e3, .ref e4, .int (nI n), .int (nI m), .ref e5, .ref e6, .ref e7, .int (nI be), .int (nI sd), .int (nI tu), .int (nI fo), .ref e8, .ref e9, .int (nI kn), .int (nI tl), .int (nI rn), .ref ea, .long tr, .ref eb])), (e5, .inl (G.2.2.1, 9, .inl (nF ru))), (e6, .inl (G.2.2.1, 15, .inl (nF la))), (e7, .inl (G.2.2.1, 15, .inl (nF lb))), (e8, .inl (G.2.2.1, 9, .inl (nF ne))), (ea, .inl (G.2.2.1, 512, .inl wh))]) [5, 0, 1, 2, 3, 4] rfl rfl ?_
    show Jw G X _ 0 0 5 _ [.int (nI 1)] _
    refine j_if_eq (q := 8) (t := 16) F (cf (by decide)) dX8_thief_5 rfl rfl (fun z => False.elim z) (fun _ => ?_)
    refine j_aload_n (q := 9) (i0 := 0) F rfl dX8_thief_8 rfl ?_
    refine j_iload_n (q := 10) (i0 := 2) F rfl dX8_thief_9 rfl ?_
    refine j_callV (q := 13) (ci := 8) (q0 := 0) (As := [.int y]) (wr := [(e5, .inl (G.2.2.1, 9, .inl (nF ru))), (e6, .inl (G.2.2.1, 15, .inl (nF la))), (e7, .inl (G.2.2.1, 15, .inl (nF lb))), (e8, .inl (G.2.2.1, 9, .inl (nF ne))), (ea, .inl (G.2.2.1, 512, .inl wh))]) (st := []) F (c_X8_isLamp G (x := y) hn) kwX8_isLamp tw_802 tw_27 tw_800 ⟨Nat.le_of_ble_eq_true rfl, Nat.le_of_ble_eq_true rfl, rfl, rfl, Nat.le_of_ble_eq_true rfl, Nat.le_of_ble_eq_true rfl⟩ [0] [1, 2, 3, 4, 5] rfl rfl rfl rfl rfl rfl rfl rfl rfl (Nat.le_of_ble_eq_true rfl) dX8_thief_10 rfl ?_
    rintro r_ w_ ⟨rfl, (⟨rfl, hy⟩ | ⟨rfl, hy⟩)⟩
    · skip
      refine j_w (w' := [(e0, .inr (8, [.ref e1, .int (nI ln), .int (nI aa), .int (nI bg), .int (nI tk), .int (nI td), .int (nI rl), .int (nI rs), .int (nI rd), .ref e2, .ref e3, .ref e4, .int (nI n), .int (nI m), .ref e5, .ref e6, .ref e7, .int (nI be), .int (nI sd), .int (nI tu), .int (nI fo), .ref e8, .ref e9, .int (nI kn), .int (nI tl), .int (nI rn), .ref ea, .long tr, .ref eb])), (e5, .inl (G.2.2.1, 9, .inl (nF ru))), (e6, .inl (G.2.2.1, 15, .inl (nF la))), (e7, .inl (G.2.2.1, 15, .inl (nF lb))), (e8, .inl (G.2.2.1, 9, .inl (nF ne))), (ea, .inl (G.2.2.1, 512, .inl wh))]) [5, 0, 1, 2, 3, 4] rfl rfl ?_
      show Jw G X _ 0 0 13 _ [.int (nI 1)] _
      refine j_if_ne (q := 16) (t := 18) F (cf (by decide)) dX8_thief_13 rfl rfl (fun _ => ?_) (fun z => False.elim z)
      obtain ⟨j, hj, rfl⟩ := hx
      obtain ⟨i, hi, rfl⟩ := hy
      refine j_aload_n (q := 19) (i0 := 0) F rfl dX8_thief_18 rfl ?_
      refine j_aload_n (q := 20) (i0 := 0) F rfl dX8_thief_19 rfl ?_
      refine j_get (q := 23) (ci := 8) (q0 := 0) (kf := 20) (v := .int (nI fo)) F inX8 rfl rfl rfl tw_678 rfl rfl dX8_thief_20 rfl ?_
      refine j_callV (q := 26) (ci := 8) (q0 := 0) (As := [.int (nI fo)]) (wr := [(e5, .inl (G.2.2.1, 9, .inl (nF ru))), (ea, .inl (G.2.2.1, 512, .inl wh))]) (st := []) F (c_X8_looks G (wo := fo) hT (hfo)) kwX8_looks tw_826 tw_30 tw_824 ⟨Nat.le_of_ble_eq_true rfl, Nat.le_of_ble_eq_true rfl, rfl, rfl, Nat.le_of_ble_eq_true rfl, Nat.le_of_ble_eq_true rfl⟩ [0, 2, 3, 4] [1, 5] rfl rfl rfl rfl rfl rfl rfl rfl rfl (Nat.le_of_ble_eq_true rfl) dX8_thief_23 rfl ?_
      rintro r_ w_ ⟨ne2, hne2, rfl, rfl⟩
      refine j_w (w' := [(e0, .inr (8, [.ref e1, .int (nI ln), .int (nI aa), .int (nI bg), .int (nI tk), .int (nI td), .int (nI rl), .int (nI rs), .int (nI rd), .ref e2, .ref e3, .ref e4, .int (nI n), .int (nI m), .ref e5, .ref e6, .ref e7, .int (nI be), .int (nI sd), .int (nI tu), .int (nI fo), .ref e8, .ref e9, .int (nI kn), .int (nI tl), .int (nI rn), .ref ea, .long tr, .ref eb])), (e5, .inl (G.2.2.1, 9, .inl (nF ru))), (e6, .inl (G.2.2.1, 15, .inl (nF la))), (e7, .inl (G.2.2.1, 15, .inl (nF lb))), (e8, .inl (G.2.2.1, 9, .inl (nF ne2))), (ea, .inl (G.2.2.1, 512, .inl wh))]) [2, 0, 3, 4, 5, 1] rfl rfl ?_
      show Jw G X _ 0 0 26 _ [] _
      have hW := Wk.of hT hne2
      refine j_aload_n (q := 27) (i0 := 0) F rfl dX8_thief_26 rfl ?_
      refine j_get (q := 30) (ci := 8) (q0 := 0) (kf := 18) (v := .int (nI sd)) F inX8 rfl rfl rfl tw_676 rfl rfl dX8_thief_27 rfl ?_
      refine j_istore_n (q := 31) (lv' := [(3, .int (nI sd)), (0, .ref e0), (1, .int (nI j)), (2, .int (nI i))]) F dX8_thief_30 (by decide) rfl rfl ?_
      refine j_iconst (q := 32) (v := nI 1) F (by decide) dX8_thief_31 rfl ?_
      refine j_iload_n (q := 33) (i0 := 2) F rfl dX8_thief_32 rfl ?_
      refine j_ishl (q := 34) (v := nI (2 ^ j)) F (nx_shl1 (by omega)) dX8_thief_33 rfl ?_
      refine j_iload_n (q := 35) (i0 := 0) F rfl dX8_thief_34 rfl ?_
      refine j_iconst (q := 36) (v := (-1)) F (by decide) dX8_thief_35 rfl ?_
      refine j_ixor (q := 37) (v := nI (sd ^^^ 4294967295)) F (nx_not _) dX8_thief_36 rfl ?_
      refine j_iand (q := 38) (v := nI ((2 ^ j) &&& (sd ^^^ 4294967295))) F (nx_and _ _) dX8_thief_37 rfl ?_
      refine j_istore (q := 40) (lv' := [(4, .int (nI ((2 ^ j) &&& (sd ^^^ 4294967295)))), (3, .int (nI sd)), (0, .ref e0), (1, .int (nI j)), (2, .int (nI i))]) F dX8_thief_38 (by decide) rfl rfl ?_
      refine j_iconst (q := 41) (v := nI 0) F (by decide) dX8_thief_40 rfl ?_
      refine j_istore (q := 43) (lv' := [(5, .int (nI 0)), (4, .int (nI ((2 ^ j) &&& (sd ^^^ 4294967295)))), (3, .int (nI sd)), (0, .ref e0), (1, .int (nI j)), (2, .int (nI i))]) F dX8_thief_41 (by decide) rfl rfl ?_
      have lp3 : ∀ (fu : Nat) (b : Nat) (hb : b ≤ 100) (hno : ∀ c, c < b → (plc (Fw n m ru la lb fo) (fun l => bsd la lb 0 l m) n sd j c).testBit i = false), (100 - b) < fu → Jw G X 8 0 0 43 [(0, .ref e0), (1, .int (nI j)), (2, .int (nI i)), (3, .int (nI (it (Fw n m ru la lb fo) b sd))), (4, .int (nI (plc (Fw n m ru la lb fo) (fun l => bsd la lb 0 l m) n sd j b))), (5, .int (nI b))] [] [(e0, .inr (8, [.ref e1, .int (nI ln), .int (nI aa), .int (nI bg), .int (nI tk), .int (nI td), .int (nI rl), .int (nI rs), .int (nI rd), .ref e2, .ref e3, .ref e4, .int (nI n), .int (nI m), .ref e5, .ref e6, .ref e7, .int (nI be), .int (nI sd), .int (nI tu), .int (nI fo), .ref e8, .ref e9, .int (nI kn), .int (nI tl), .int (nI rn), .ref ea, .long tr, .ref eb])), (e5, .inl (G.2.2.1, 9, .inl (nF ru))), (e6, .inl (G.2.2.1, 15, .inl (nF la))), (e7, .inl (G.2.2.1, 15, .inl (nF lb))), (e8, .inl (G.2.2.1, 9, .inl (nF ne2))), (ea, .inl (G.2.2.1, 512, .inl wh))] := by
        intro fu
        induction fu with
        | zero => intro b hb hno hfu; exact absurd hfu (Nat.not_lt_zero _)
        | succ fu ih3 =>
          intro b hb hno hfu
          have hpl := plc_lt (f := (Fw n m ru la lb fo)) (ro := (fun l => bsd la lb 0 l m)) (n := n) (sd := sd) (fr := j) (by omega) (fun l _ => bsd_lt hT 0 l) b
          have hat := it_lt hW.f5 hsd b
          refine j_iload (q := 45) (i0 := 5) F rfl dX8_thief_43 rfl ?_
          refine j_bipush (q := 47) (v := nI 100) F (by decide) dX8_thief_45 rfl ?_
          refine j_icmp_ge (q := 50) (t := 137) F (Pp := 100 ≤ b) (nI_leI (by omega) (by omega)) dX8_thief_47 rfl rfl (fun c4 => ?_) (fun c4 => ?_)
          · skip
            refine j_bipush (q := 139) (v := (-9)) F (by decide) dX8_thief_137 rfl ?_
            exact j_iret (w2 := [(e0, .inr (8, [.ref e1, .int (nI ln), .int (nI aa), .int (nI bg), .int (nI tk), .int (nI td), .int (nI rl), .int (nI rs), .int (nI rd), .ref e2, .ref e3, .ref e4, .int (nI n), .int (nI m), .ref e5, .ref e6, .ref e7, .int (nI be), .int (nI sd), .int (nI tu), .int (nI fo), .ref e8, .ref e9, .int (nI kn), .int (nI tl), .int (nI rn), .ref ea, .long tr, .ref eb])), (e5, .inl (G.2.2.1, 9, .inl (nF ru))), (e6, .inl (G.2.2.1, 15, .inl (nF la))), (e7, .inl (G.2.2.1, 15, .inl (nF lb))), (e8, .inl (G.2.2.1, 9, .inl (nF ne2))), (ea, .inl (G.2.2.1, 512, .inl wh))]) F R0 rfl [0, 1, 2, 3, 4, 5] rfl rfl (⟨_, _, _, _, _, Or.inr ⟨⟨⟨j, hj, rfl⟩, ⟨i, hi, rfl⟩⟩, by rw [nI_clamp (by omega), nI_clamp (by omega)]; exact Or.inr ⟨rfl, fun c h => hno c (by omega)⟩⟩, rfl, rfl⟩) dX8_thief_139
          · skip
            refine j_iload (q := 52) (i0 := 4) F rfl dX8_thief_50 rfl ?_
            refine j_if_eq (q := 55) (t := 137) F (Pp := plc (Fw n m ru la lb fo) (fun l => bsd la lb 0 l m) n sd j b = 0) (nI_eq0 (by omega)) dX8_thief_52 rfl rfl (fun cs => ?_) (fun cs => ?_)
            · skip
              refine j_bipush (q := 139) (v := (-9)) F (by decide) dX8_thief_137 rfl ?_
              exact j_iret (w2 := [(e0, .inr (8, [.ref e1, .int (nI ln), .int (nI aa), .int (nI bg), .int (nI tk), .int (nI td), .int (nI rl), .int (nI rs), .int (nI rd), .ref e2, .ref e3, .ref e4, .int (nI n), .int (nI m), .ref e5, .ref e6, .ref e7, .int (nI be), .int (nI sd), .int (nI tu), .int (nI fo), .ref e8, .ref e9, .int (nI kn), .int (nI tl), .int (nI rn), .ref ea, .long tr, .ref eb])), (e5, .inl (G.2.2.1, 9, .inl (nF ru))), (e6, .inl (G.2.2.1, 15, .inl (nF la))), (e7, .inl (G.2.2.1, 15, .inl (nF lb))), (e8, .inl (G.2.2.1, 9, .inl (nF ne2))), (ea, .inl (G.2.2.1, 512, .inl wh))]) F R0 rfl [0, 1, 2, 3, 4, 5] rfl rfl (⟨_, _, _, _, _, Or.inr ⟨⟨⟨j, hj, rfl⟩, ⟨i, hi, rfl⟩⟩, by rw [nI_clamp (by omega), nI_clamp (by omega)]; exact Or.inr ⟨rfl, fun c h => by rcases (show c < b ∨ b ≤ c by omega) with z | z; exact hno c z; rw [show c = b + (c - b) by omega, plc_zero cs (c - b)]; exact Nat.zero_testBit i⟩⟩, rfl, rfl⟩) dX8_thief_139
            · skip
              refine j_iload (q := 57) (i0 := 4) F rfl dX8_thief_55 rfl ?_
              refine j_iload_n (q := 58) (i0 := 2) F rfl dX8_thief_57 rfl ?_
              refine j_ishr (q := 59) (v := nI ((plc (Fw n m ru la lb fo) (fun l => bsd la lb 0 l m) n sd j b) >>> i)) F (nx_shr (by omega) (by omega)) dX8_thief_58 rfl ?_
              refine j_iconst (q := 60) (v := nI 1) F (by decide) dX8_thief_59 rfl ?_
              refine j_iand (q := 61) (v := nI (bitN (plc (Fw n m ru la lb fo) (fun l => bsd la lb 0 l m) n sd j b) i)) F (nx_and _ _) dX8_thief_60 rfl ?_
              refine j_iconst (q := 62) (v := nI 1) F (by decide) dX8_thief_61 rfl ?_
              refine j_icmp_ne (q := 65) (t := 68) F (Pp := (plc (Fw n m ru la lb fo) (fun l => bsd la lb 0 l m) n sd j b).testBit i = true) (bit_is1 _ _) dX8_thief_62 rfl rfl (fun ct => ?_) (fun ct => ?_)
              · skip
                refine j_iload (q := 70) (i0 := 4) F rfl dX8_thief_68 rfl ?_
                refine j_istore (q := 72) (lv' := [(6, .int (nI (plc (Fw n m ru la lb fo) (fun l => bsd la lb 0 l m) n sd j b))), (0, .ref e0), (1, .int (nI j)), (2, .int (nI i)), (3, .int (nI (it (Fw n m ru la lb fo) b sd))), (4, .int (nI (plc (Fw n m ru la lb fo) (fun l => bsd la lb 0 l m) n sd j b))), (5, .int (nI b))]) F dX8_thief_70 (by decide) rfl rfl ?_
                refine j_iconst (q := 73) (v := nI 0) F (by decide) dX8_thief_72 rfl ?_
                refine j_istore (q := 75) (lv' := [(7, .int (nI 0)), (6, .int (nI (plc (Fw n m ru la lb fo) (fun l => bsd la lb 0 l m) n sd j b))), (0, .ref e0), (1, .int (nI j)), (2, .int (nI i)), (3, .int (nI (it (Fw n m ru la lb fo) b sd))), (4, .int (nI (plc (Fw n m ru la lb fo) (fun l => bsd la lb 0 l m) n sd j b))), (5, .int (nI b))]) F dX8_thief_73 (by decide) rfl rfl ?_
                have lp7 : ∀ (fu : Nat) (l : Nat) (hl : l ≤ n), (n - l) < fu → Jw G X 8 0 0 75 [(0, .ref e0), (1, .int (nI j)), (2, .int (nI i)), (3, .int (nI (it (Fw n m ru la lb fo) b sd))), (4, .int (nI (plc (Fw n m ru la lb fo) (fun l => bsd la lb 0 l m) n sd j b))), (5, .int (nI b)), (6, .int (nI (wrF (fun l => bsd la lb 0 l m) (plc (Fw n m ru la lb fo) (fun l => bsd la lb 0 l m) n sd j b) l))), (7, .int (nI l))] [] [(e0, .inr (8, [.ref e1, .int (nI ln), .int (nI aa), .int (nI bg), .int (nI tk), .int (nI td), .int (nI rl), .int (nI rs), .int (nI rd), .ref e2, .ref e3, .ref e4, .int (nI n), .int (nI m), .ref e5, .ref e6, .ref e7, .int (nI be), .int (nI sd), .int (nI tu), .int (nI fo), .ref e8, .ref e9, .int (nI kn), .int (nI tl), .int (nI rn), .ref ea, .long tr, .ref eb])), (e5, .inl (G.2.2.1, 9, .inl (nF ru))), (e6, .inl (G.2.2.1, 15, .inl (nF la))), (e7, .inl (G.2.2.1, 15, .inl (nF lb))), (e8, .inl (G.2.2.1, 9, .inl (nF ne2))), (ea, .inl (G.2.2.1, 512, .inl wh))] := by
                  intro fu
                  induction fu with
                  | zero => intro l hl hfu; exact absurd hfu (Nat.not_lt_zero _)
                  | succ fu ih7 =>
                    intro l hl hfu
                    refine j_iload (q := 77) (i0 := 7) F rfl dX8_thief_75 rfl ?_
                    refine j_aload_n (q := 78) (i0 := 0) F rfl dX8_thief_77 rfl ?_
                    refine j_get (q := 81) (ci := 8) (q0 := 0) (kf := 12) (v := .int (nI n)) F inX8 rfl rfl rfl tw_670 rfl rfl dX8_thief_78 rfl ?_
                    refine j_icmp_ge (q := 84) (t := 117) F (Pp := n ≤ l) (nI_leI (by omega) (by omega)) dX8_thief_81 rfl rfl (fun c8 => ?_) (fun c8 => ?_)
                    · skip
                      refine j_aload_n (q := 118) (i0 := 0) F rfl dX8_thief_117 rfl ?_
                      refine j_iload_n (q := 119) (i0 := 3) F rfl dX8_thief_118 rfl ?_
                      refine j_callV (q := 122) (ci := 8) (q0 := 0) (As := [.int (nI (it (Fw n m ru la lb fo) b sd))]) (wr := [(e6, .inl (G.2.2.1, 15, .inl (nF la))), (e7, .inl (G.2.2.1, 15, .inl (nF lb))), (ea, .inl (G.2.2.1, 512, .inl wh))]) (st := []) F (c_X8_rings G hW (s := it (Fw n m ru la lb fo) b sd) (hat)) kwX8_rings tw_830 tw_31 tw_828 ⟨Nat.le_of_ble_eq_true rfl, Nat.le_of_ble_eq_true rfl, rfl, rfl, Nat.le_of_ble_eq_true rfl, Nat.le_of_ble_eq_true rfl⟩ [0, 1, 4] [2, 3, 5] rfl rfl rfl rfl rfl rfl rfl rfl rfl (Nat.le_of_ble_eq_true rfl) dX8_thief_119 rfl ?_
                      rintro r_ w_ ⟨rfl, rfl⟩
                      refine j_w (w' := [(e0, .inr (8, [.ref e1, .int (nI ln), .int (nI aa), .int (nI bg), .int (nI tk), .int (nI td), .int (nI rl), .int (nI rs), .int (nI rd), .ref e2, .ref e3, .ref e4, .int (nI n), .int (nI m), .ref e5, .ref e6, .ref e7, .int (nI be), .int (nI sd), .int (nI tu), .int (nI fo), .ref e8, .ref e9, .int (nI kn), .int (nI tl), .int (nI rn), .ref ea, .long tr, .ref eb])), (e5, .inl (G.2.2.1, 9, .inl (nF ru))), (e6, .inl (G.2.2.1, 15, .inl (nF la))), (e7, .inl (G.2.2.1, 15, .inl (nF lb))), (e8, .inl (G.2.2.1, 9, .inl (nF ne2))), (ea, .inl (G.2.2.1, 512, .inl wh))]) [3, 4, 0, 1, 5, 2] rfl rfl ?_
                      show Jw G X _ 0 0 122 _ [.int (nI (Fw n m ru la lb fo (it (Fw n m ru la lb fo) b sd)))] _
                      refine j_istore_n (q := 123) (lv' := [(3, .int (nI (Fw n m ru la lb fo (it (Fw n m ru la lb fo) b sd)))), (0, .ref e0), (1, .int (nI j)), (2, .int (nI i)), (4, .int (nI (plc (Fw n m ru la lb fo) (fun l => bsd la lb 0 l m) n sd j b))), (5, .int (nI b)), (6, .int (nI (wrF (fun l => bsd la lb 0 l m) (plc (Fw n m ru la lb fo) (fun l => bsd la lb 0 l m) n sd j b) l))), (7, .int (nI l))]) F dX8_thief_122 (by decide) rfl rfl ?_
                      refine j_iload (q := 125) (i0 := 6) F rfl dX8_thief_123 rfl ?_
                      refine j_iload_n (q := 126) (i0 := 0) F rfl dX8_thief_125 rfl ?_
                      refine j_iconst (q := 127) (v := (-1)) F (by decide) dX8_thief_126 rfl ?_
                      refine j_ixor (q := 128) (v := nI ((Fw n m ru la lb fo (it (Fw n m ru la lb fo) b sd)) ^^^ 4294967295)) F (nx_not _) dX8_thief_127 rfl ?_
                      refine j_iand (q := 129) (v := nI ((wrF (fun l => bsd la lb 0 l m) (plc (Fw n m ru la lb fo) (fun l => bsd la lb 0 l m) n sd j b) l) &&& ((Fw n m ru la lb fo (it (Fw n m ru la lb fo) b sd)) ^^^ 4294967295))) F (nx_and _ _) dX8_thief_128 rfl ?_
                      refine j_istore (q := 131) (lv' := [(4, .int (nI ((wrF (fun l => bsd la lb 0 l m) (plc (Fw n m ru la lb fo) (fun l => bsd la lb 0 l m) n sd j b) l) &&& ((Fw n m ru la lb fo (it (Fw n m ru la lb fo) b sd)) ^^^ 4294967295)))), (3, .int (nI (Fw n m ru la lb fo (it (Fw n m ru la lb fo) b sd)))), (0, .ref e0), (1, .int (nI j)), (2, .int (nI i)), (5, .int (nI b)), (6, .int (nI (wrF (fun l => bsd la lb 0 l m) (plc (Fw n m ru la lb fo) (fun l => bsd la lb 0 l m) n sd j b) l))), (7, .int (nI l))]) F dX8_thief_129 (by decide) rfl rfl ?_
                      refine j_iinc (q := 134) (i0 := 5) (v := nI (b + 1)) (lv' := [(5, .int (nI (b + 1))), (4, .int (nI ((wrF (fun l => bsd la lb 0 l m) (plc (Fw n m ru la lb fo) (fun l => bsd la lb 0 l m) n sd j b) l) &&& ((Fw n m ru la lb fo (it (Fw n m ru la lb fo) b sd)) ^^^ 4294967295)))), (3, .int (nI (Fw n m ru la lb fo (it (Fw n m ru la lb fo) b sd)))), (0, .ref e0), (1, .int (nI j)), (2, .int (nI i)), (6, .int (nI (wrF (fun l => bsd la lb 0 l m) (plc (Fw n m ru la lb fo) (fun l => bsd la lb 0 l m) n sd j b) l))), (7, .int (nI l))]) F dX8_thief_131 rfl (nI_add _ _) (by decide) rfl rfl ?_
                      refine j_goto (t := 43) F dX8_thief_134 rfl ?_
                      rw [show wrF (fun l => bsd la lb 0 l m) (plc (Fw n m ru la lb fo) (fun l => bsd la lb 0 l m) n sd j b) l = wrF (fun l => bsd la lb 0 l m) (plc (Fw n m ru la lb fo) (fun l => bsd la lb 0 l m) n sd j b) n from by rw [show l = n by omega]]
                      refine j_lv [3, 4, 5, 2, 1, 0] (lv' := [(0, .ref e0), (1, .int (nI j)), (2, .int (nI i)), (3, .int (nI (Fw n m ru la lb fo (it (Fw n m ru la lb fo) b sd)))), (4, .int (nI (wrF (fun l => bsd la lb 0 l m) (plc (Fw n m ru la lb fo) (fun l => bsd la lb 0 l m) n sd j b) n &&& (Fw n m ru la lb fo (it (Fw n m ru la lb fo) b sd) ^^^ 4294967295)))), (5, .int (nI (b + 1)))]) rfl ?_
                      exact ih3 (b + 1) (by omega) (fun c h => by rcases (show c < b ∨ c = b by omega) with z | z; exact hno c z; subst z; exact tbF ct) (by omega)
                    · skip
                      refine j_iload (q := 86) (i0 := 6) F rfl dX8_thief_84 rfl ?_
                      refine j_iload (q := 88) (i0 := 4) F rfl dX8_thief_86 rfl ?_
                      refine j_iload (q := 90) (i0 := 7) F rfl dX8_thief_88 rfl ?_
                      refine j_ishr (q := 91) (v := nI ((plc (Fw n m ru la lb fo) (fun l => bsd la lb 0 l m) n sd j b) >>> l)) F (nx_shr (by omega) (by omega)) dX8_thief_90 rfl ?_
                      refine j_iconst (q := 92) (v := nI 1) F (by decide) dX8_thief_91 rfl ?_
                      refine j_iand (q := 93) (v := nI (bitN (plc (Fw n m ru la lb fo) (fun l => bsd la lb 0 l m) n sd j b) l)) F (nx_and _ _) dX8_thief_92 rfl ?_
                      refine j_iconst (q := 94) (v := nI 1) F (by decide) dX8_thief_93 rfl ?_
                      refine j_icmp_ne (q := 97) (t := 107) F (Pp := (plc (Fw n m ru la lb fo) (fun l => bsd la lb 0 l m) n sd j b).testBit l = true) (bit_is1 _ _) dX8_thief_94 rfl rfl (fun cb => ?_) (fun cb => ?_)
                      · skip
                        refine j_iconst (q := 108) (v := nI 0) F (by decide) dX8_thief_107 rfl ?_
                        refine j_ior (q := 109) (v := nI ((wrF (fun l => bsd la lb 0 l m) (plc (Fw n m ru la lb fo) (fun l => bsd la lb 0 l m) n sd j b) l) ||| 0)) F (nx_or _ _) dX8_thief_108 rfl ?_
                        refine j_istore (q := 111) (lv' := [(6, .int (nI ((wrF (fun l => bsd la lb 0 l m) (plc (Fw n m ru la lb fo) (fun l => bsd la lb 0 l m) n sd j b) l) ||| 0))), (0, .ref e0), (1, .int (nI j)), (2, .int (nI i)), (3, .int (nI (it (Fw n m ru la lb fo) b sd))), (4, .int (nI (plc (Fw n m ru la lb fo) (fun l => bsd la lb 0 l m) n sd j b))), (5, .int (nI b)), (7, .int (nI l))]) F dX8_thief_109 (by decide) rfl rfl ?_
                        refine j_iinc (q := 114) (i0 := 7) (v := nI (l + 1)) (lv' := [(7, .int (nI (l + 1))), (6, .int (nI ((wrF (fun l => bsd la lb 0 l m) (plc (Fw n m ru la lb fo) (fun l => bsd la lb 0 l m) n sd j b) l) ||| 0))), (0, .ref e0), (1, .int (nI j)), (2, .int (nI i)), (3, .int (nI (it (Fw n m ru la lb fo) b sd))), (4, .int (nI (plc (Fw n m ru la lb fo) (fun l => bsd la lb 0 l m) n sd j b))), (5, .int (nI b))]) F dX8_thief_111 rfl (nI_add _ _) (by decide) rfl rfl ?_
                        refine j_goto (t := 75) F dX8_thief_114 rfl ?_
                        rw [show (wrF (fun l => bsd la lb 0 l m) (plc (Fw n m ru la lb fo) (fun l => bsd la lb 0 l m) n sd j b) l) ||| 0 = wrF (fun l => bsd la lb 0 l m) (plc (Fw n m ru la lb fo) (fun l => bsd la lb 0 l m) n sd j b) (l + 1) from by rw [wrF, if_neg cb, Nat.or_zero]]
                        refine j_lv [2, 3, 4, 5, 6, 7, 1, 0] (lv' := [(0, .ref e0), (1, .int (nI j)), (2, .int (nI i)), (3, .int (nI (it (Fw n m ru la lb fo) b sd))), (4, .int (nI (plc (Fw n m ru la lb fo) (fun l => bsd la lb 0 l m) n sd j b))), (5, .int (nI b)), (6, .int (nI (wrF (fun l => bsd la lb 0 l m) (plc (Fw n m ru la lb fo) (fun l => bsd la lb 0 l m) n sd j b) (l + 1)))), (7, .int (nI (l + 1)))]) rfl ?_
                        exact ih7 (l + 1) (by omega) (by omega)
                      · skip
                        refine j_aload_n (q := 98) (i0 := 0) F rfl dX8_thief_97 rfl ?_
                        refine j_iload (q := 100) (i0 := 7) F rfl dX8_thief_98 rfl ?_
                        refine j_iconst (q := 101) (v := nI 0) F (by decide) dX8_thief_100 rfl ?_
                        refine j_callV (q := 104) (ci := 8) (q0 := 0) (As := [.int (nI l), .int (nI 0)]) (wr := [(e5, .inl (G.2.2.1, 9, .inl (nF ru))), (e8, .inl (G.2.2.1, 9, .inl (nF ne2))), (ea, .inl (G.2.2.1, 512, .inl wh))]) (st := [.int (nI (wrF (fun l => bsd la lb 0 l m) (plc (Fw n m ru la lb fo) (fun l => bsd la lb 0 l m) n sd j b) l))]) F (c_X8_beside G (l := l) (wo := 0) hT (by omega) (by decide)) kwX8_beside tw_806 tw_28 tw_804 ⟨Nat.le_of_ble_eq_true rfl, Nat.le_of_ble_eq_true rfl, rfl, rfl, Nat.le_of_ble_eq_true rfl, Nat.le_of_ble_eq_true rfl⟩ [0, 2, 3] [1, 4, 5] rfl rfl rfl rfl rfl rfl rfl rfl rfl (Nat.le_of_ble_eq_true rfl) dX8_thief_101 rfl ?_
                        rintro r_ w_ ⟨rfl, rfl⟩
                        refine j_w (w' := [(e0, .inr (8, [.ref e1, .int (nI ln), .int (nI aa), .int (nI bg), .int (nI tk), .int (nI td), .int (nI rl), .int (nI rs), .int (nI rd), .ref e2, .ref e3, .ref e4, .int (nI n), .int (nI m), .ref e5, .ref e6, .ref e7, .int (nI be), .int (nI sd), .int (nI tu), .int (nI fo), .ref e8, .ref e9, .int (nI kn), .int (nI tl), .int (nI rn), .ref ea, .long tr, .ref eb])), (e5, .inl (G.2.2.1, 9, .inl (nF ru))), (e6, .inl (G.2.2.1, 15, .inl (nF la))), (e7, .inl (G.2.2.1, 15, .inl (nF lb))), (e8, .inl (G.2.2.1, 9, .inl (nF ne2))), (ea, .inl (G.2.2.1, 512, .inl wh))]) [3, 0, 4, 5, 1, 2] rfl rfl ?_
                        show Jw G X _ 0 0 104 _ [.int (nI (bsd la lb 0 l m)), .int (nI (wrF (fun l => bsd la lb 0 l m) (plc (Fw n m ru la lb fo) (fun l => bsd la lb 0 l m) n sd j b) l))] _
                        refine j_goto (t := 108) F dX8_thief_104 rfl ?_
                        refine j_ior (q := 109) (v := nI ((wrF (fun l => bsd la lb 0 l m) (plc (Fw n m ru la lb fo) (fun l => bsd la lb 0 l m) n sd j b) l) ||| (bsd la lb 0 l m))) F (nx_or _ _) dX8_thief_108 rfl ?_
                        refine j_istore (q := 111) (lv' := [(6, .int (nI ((wrF (fun l => bsd la lb 0 l m) (plc (Fw n m ru la lb fo) (fun l => bsd la lb 0 l m) n sd j b) l) ||| (bsd la lb 0 l m)))), (0, .ref e0), (1, .int (nI j)), (2, .int (nI i)), (3, .int (nI (it (Fw n m ru la lb fo) b sd))), (4, .int (nI (plc (Fw n m ru la lb fo) (fun l => bsd la lb 0 l m) n sd j b))), (5, .int (nI b)), (7, .int (nI l))]) F dX8_thief_109 (by decide) rfl rfl ?_
                        refine j_iinc (q := 114) (i0 := 7) (v := nI (l + 1)) (lv' := [(7, .int (nI (l + 1))), (6, .int (nI ((wrF (fun l => bsd la lb 0 l m) (plc (Fw n m ru la lb fo) (fun l => bsd la lb 0 l m) n sd j b) l) ||| (bsd la lb 0 l m)))), (0, .ref e0), (1, .int (nI j)), (2, .int (nI i)), (3, .int (nI (it (Fw n m ru la lb fo) b sd))), (4, .int (nI (plc (Fw n m ru la lb fo) (fun l => bsd la lb 0 l m) n sd j b))), (5, .int (nI b))]) F dX8_thief_111 rfl (nI_add _ _) (by decide) rfl rfl ?_
                        refine j_goto (t := 75) F dX8_thief_114 rfl ?_
                        rw [show (wrF (fun l => bsd la lb 0 l m) (plc (Fw n m ru la lb fo) (fun l => bsd la lb 0 l m) n sd j b) l) ||| (bsd la lb 0 l m) = wrF (fun l => bsd la lb 0 l m) (plc (Fw n m ru la lb fo) (fun l => bsd la lb 0 l m) n sd j b) (l + 1) from by rw [wrF, if_pos cb]]
                        refine j_lv [2, 3, 4, 5, 6, 7, 1, 0] (lv' := [(0, .ref e0), (1, .int (nI j)), (2, .int (nI i)), (3, .int (nI (it (Fw n m ru la lb fo) b sd))), (4, .int (nI (plc (Fw n m ru la lb fo) (fun l => bsd la lb 0 l m) n sd j b))), (5, .int (nI b)), (6, .int (nI (wrF (fun l => bsd la lb 0 l m) (plc (Fw n m ru la lb fo) (fun l => bsd la lb 0 l m) n sd j b) (l + 1)))), (7, .int (nI (l + 1)))]) rfl ?_
                        exact ih7 (l + 1) (by omega) (by omega)
                refine j_lv [2, 3, 4, 5, 6, 7, 1, 0] (lv' := [(0, .ref e0), (1, .int (nI j)), (2, .int (nI i)), (3, .int (nI (it (Fw n m ru la lb fo) b sd))), (4, .int (nI (plc (Fw n m ru la lb fo) (fun l => bsd la lb 0 l m) n sd j b))), (5, .int (nI b)), (6, .int (nI (plc (Fw n m ru la lb fo) (fun l => bsd la lb 0 l m) n sd j b))), (7, .int (nI 0))]) rfl ?_
                exact lp7 _ 0 (Nat.zero_le _) (Nat.lt_succ_self _)
              · skip
                refine j_iload (q := 67) (i0 := 5) F rfl dX8_thief_65 rfl ?_
                exact j_iret (w2 := [(e0, .inr (8, [.ref e1, .int (nI ln), .int (nI aa), .int (nI bg), .int (nI tk), .int (nI td), .int (nI rl), .int (nI rs), .int (nI rd), .ref e2, .ref e3, .ref e4, .int (nI n), .int (nI m), .ref e5, .ref e6, .ref e7, .int (nI be), .int (nI sd), .int (nI tu), .int (nI fo), .ref e8, .ref e9, .int (nI kn), .int (nI tl), .int (nI rn), .ref ea, .long tr, .ref eb])), (e5, .inl (G.2.2.1, 9, .inl (nF ru))), (e6, .inl (G.2.2.1, 15, .inl (nF la))), (e7, .inl (G.2.2.1, 15, .inl (nF lb))), (e8, .inl (G.2.2.1, 9, .inl (nF ne2))), (ea, .inl (G.2.2.1, 512, .inl wh))]) F R0 rfl [0, 1, 2, 3, 4, 5] rfl rfl (⟨_, _, _, _, _, Or.inr ⟨⟨⟨j, hj, rfl⟩, ⟨i, hi, rfl⟩⟩, by rw [nI_clamp (by omega), nI_clamp (by omega)]; exact Or.inl ⟨b, by omega, rfl, ct, hno⟩⟩, rfl, rfl⟩) dX8_thief_67
      refine j_lv [3, 4, 5, 2, 1, 0] (lv' := [(0, .ref e0), (1, .int (nI j)), (2, .int (nI i)), (3, .int (nI sd)), (4, .int (nI ((2 ^ j) &&& (sd ^^^ 4294967295)))), (5, .int (nI 0))]) rfl ?_
      exact lp3 _ 0 (by omega) (fun c h => absurd h (Nat.not_lt_zero c)) (Nat.lt_succ_self _)
    · skip
      refine j_w (w' := [(e0, .inr (8, [.ref e1, .int (nI ln), .int (nI aa), .int (nI bg), .int (nI tk), .int (nI td), .int (nI rl), .int (nI rs), .int (nI rd), .ref e2, .ref e3, .ref e4, .int (nI n), .int (nI m), .ref e5, .ref e6, .ref e7, .int (nI be), .int (nI sd), .int (nI tu), .int (nI fo), .ref e8, .ref e9, .int (nI kn), .int (nI tl), .int (nI rn), .ref ea, .long tr, .ref eb])), (e5, .inl (G.2.2.1, 9, .inl (nF ru))), (e6, .inl (G.2.2.1, 15, .inl (nF la))), (e7, .inl (G.2.2.1, 15, .inl (nF lb))), (e8, .inl (G.2.2.1, 9, .inl (nF ne))), (ea, .inl (G.2.2.1, 512, .inl wh))]) [5, 0, 1, 2, 3, 4] rfl rfl ?_
      show Jw G X _ 0 0 13 _ [.int (nI 0)] _
      refine j_if_ne (q := 16) (t := 18) F (ct (by decide)) dX8_thief_13 rfl rfl (fun z => absurd trivial z) (fun _ => ?_)
      refine j_iconst (q := 17) (v := (-1)) F (by decide) dX8_thief_16 rfl ?_
      exact j_iret (w2 := [(e0, .inr (8, [.ref e1, .int (nI ln), .int (nI aa), .int (nI bg), .int (nI tk), .int (nI td), .int (nI rl), .int (nI rs), .int (nI rd), .ref e2, .ref e3, .ref e4, .int (nI n), .int (nI m), .ref e5, .ref e6, .ref e7, .int (nI be), .int (nI sd), .int (nI tu), .int (nI fo), .ref e8, .ref e9, .int (nI kn), .int (nI tl), .int (nI rn), .ref ea, .long tr, .ref eb])), (e5, .inl (G.2.2.1, 9, .inl (nF ru))), (e6, .inl (G.2.2.1, 15, .inl (nF la))), (e7, .inl (G.2.2.1, 15, .inl (nF lb))), (e8, .inl (G.2.2.1, 9, .inl (nF ne))), (ea, .inl (G.2.2.1, 512, .inl wh))]) F R0 rfl [0, 1, 2, 3, 4, 5] rfl rfl (⟨_, _, _, _, _, Or.inl ⟨fun z => hy z.2, rfl⟩, rfl, rfl⟩) dX8_thief_17
  · skip
    refine j_w (w' := [(e0, .inr (8, [.ref e1, .int (nI ln), .int (nI aa), .int (nI bg), .int (nI tk), .int (nI td), .int (nI rl), .int (nI rs), .int (nI rd), .ref e2, .ref e3, .ref e4, .int (nI n), .int (nI m), .ref e5, .ref e6, .ref e7, .int (nI be), .int (nI sd), .int (nI tu), .int (nI fo), .ref e8, .ref e9, .int (nI kn), .int (nI tl), .int (nI rn), .ref ea, .long tr, .ref eb])), (e5, .inl (G.2.2.1, 9, .inl (nF ru))), (e6, .inl (G.2.2.1, 15, .inl (nF la))), (e7, .inl (G.2.2.1, 15, .inl (nF lb))), (e8, .inl (G.2.2.1, 9, .inl (nF ne))), (ea, .inl (G.2.2.1, 512, .inl wh))]) [5, 0, 1, 2, 3, 4] rfl rfl ?_
    show Jw G X _ 0 0 5 _ [.int (nI 0)] _
    refine j_if_eq (q := 8) (t := 16) F (ct (by decide)) dX8_thief_5 rfl rfl (fun _ => ?_) (fun z => absurd trivial z)
    refine j_iconst (q := 17) (v := (-1)) F (by decide) dX8_thief_16 rfl ?_
    exact j_iret (w2 := [(e0, .inr (8, [.ref e1, .int (nI ln), .int (nI aa), .int (nI bg), .int (nI tk), .int (nI td), .int (nI rl), .int (nI rs), .int (nI rd), .ref e2, .ref e3, .ref e4, .int (nI n), .int (nI m), .ref e5, .ref e6, .ref e7, .int (nI be), .int (nI sd), .int (nI tu), .int (nI fo), .ref e8, .ref e9, .int (nI kn), .int (nI tl), .int (nI rn), .ref ea, .long tr, .ref eb])), (e5, .inl (G.2.2.1, 9, .inl (nF ru))), (e6, .inl (G.2.2.1, 15, .inl (nF la))), (e7, .inl (G.2.2.1, 15, .inl (nF lb))), (e8, .inl (G.2.2.1, 9, .inl (nF ne))), (ea, .inl (G.2.2.1, 512, .inl wh))]) F R0 rfl [0, 1, 2, 3, 4, 5] rfl rfl (⟨_, _, _, _, _, Or.inl ⟨fun z => hx z.1, rfl⟩, rfl, rfl⟩) dX8_thief_17

set_option maxHeartbeats 4000000 in
set_option maxRecDepth 100000 in
theorem c_X8_still (G : Gm) {e0 e1 e2 e3 e4 e5 e6 e7 e8 e9 ea eb : Nat} {ln aa bg tk td rl rs rd n m be sd tu fo kn tl rn : Nat} {ru la lb ne pa : Nat → Nat} {wh : Nat → Int32} {tr : Int64} {x : Int32} (hT : Tok n m ru la lb) (hP : PrOk n m (be, sd, tu, fo, kn, pa)) : Mg G yX8_still cX8_still 4 (some .int) ({ frames := 3, cells := 0, slots := 0, locals := 72 } : Room) 0 0 [.ref e0, .int x] [(e0, .inr (8, [.ref e1, .int (nI ln), .int (nI aa), .int (nI bg), .int (nI tk), .int (nI td), .int (nI rl), .int (nI rs), .int (nI rd), .ref e2, .ref e3, .ref e4, .int (nI n), .int (nI m), .ref e5, .ref e6, .ref e7, .int (nI be), .int (nI sd), .int (nI tu), .int (nI fo), .ref e8, .ref e9, .int (nI kn), .int (nI tl), .int (nI rn), .ref ea, .long tr, .ref eb])), (e5, .inl (G.2.2.1, 9, .inl (nF ru))), (e6, .inl (G.2.2.1, 15, .inl (nF la))), (e7, .inl (G.2.2.1, 15, .inl (nF lb))), (e8, .inl (G.2.2.1, 9, .inl (nF ne))), (ea, .inl (G.2.2.1, 512, .inl wh))] (fun r w2 => ∃ ne2 wh2 tl2 rn2 r2, aStill n m ru la lb fo sd x r2 ∧ r = some (.int r2) ∧ w2 = [(e0, .inr (8, [.ref e1, .int (nI ln), .int (nI aa), .int (nI bg), .int (nI tk), .int (nI td), .int (nI rl), .int (nI rs), .int (nI rd), .ref e2, .ref e3, .ref e4, .int (nI n), .int (nI m), .ref e5, .ref e6, .ref e7, .int (nI be), .int (nI sd), .int (nI tu), .int (nI fo), .ref e8, .ref e9, .int (nI kn), .int (nI tl2), .int (nI rn2), .ref ea, .long tr, .ref eb])), (e5, .inl (G.2.2.1, 9, .inl (nF ru))), (e6, .inl (G.2.2.1, 15, .inl (nF la))), (e7, .inl (G.2.2.1, 15, .inl (nF lb))), (e8, .inl (G.2.2.1, 9, .inl (nF ne2))), (ea, .inl (G.2.2.1, 512, .inl wh2))]) := by
  have hn := hT.1
  have hm := hT.2.1
  have h9 := p9 hn
  have h15 := p15 hm
  have hsd : sd < 512 := by have := hP.2.1; dsimp only at this; omega
  have hfo : fo < 32768 := by have := hP.2.2.2.1; dsimp only at this; omega
  refine Mg.mk (lv := [(0, .ref e0), (1, .int x)]) (by decide) rfl rfl (fun X F R0 => ?_)
  refine j_iload_n (q := 1) (i0 := 1) F rfl dX8_still_0 rfl ?_
  refine j_i2l (q := 2) (v := Int32.toInt64 x) F rfl dX8_still_1 rfl ?_
  refine j_lconst (q := 3) (v := 0) F (by decide) dX8_still_2 rfl ?_
  refine j_lconst (q := 4) (v := 1) F (by decide) dX8_still_3 rfl ?_
  refine j_callS (q := 7) (As := [.long (Int32.toInt64 x), .long 0, .long 1]) (wr := [(e0, .inr (8, [.ref e1, .int (nI ln), .int (nI aa), .int (nI bg), .int (nI tk), .int (nI td), .int (nI rl), .int (nI rs), .int (nI rd), .ref e2, .ref e3, .ref e4, .int (nI n), .int (nI m), .ref e5, .ref e6, .ref e7, .int (nI be), .int (nI sd), .int (nI tu), .int (nI fo), .ref e8, .ref e9, .int (nI kn), .int (nI tl), .int (nI rn), .ref ea, .long tr, .ref eb])), (e5, .inl (G.2.2.1, 9, .inl (nF ru))), (e6, .inl (G.2.2.1, 15, .inl (nF la))), (e7, .inl (G.2.2.1, 15, .inl (nF lb))), (e8, .inl (G.2.2.1, 9, .inl (nF ne))), (ea, .inl (G.2.2.1, 512, .inl wh))]) (st := []) F (c_inR G (x := x) (n := 2) rfl (by decide) (rfl)) kwX8_in tw_752 tw_751 ⟨Nat.le_of_ble_eq_true rfl, Nat.le_of_ble_eq_true rfl, rfl, rfl, Nat.le_of_ble_eq_true rfl, Nat.le_of_ble_eq_true rfl⟩ [] [0, 1, 2, 3, 4, 5] rfl rfl rfl rfl rfl rfl rfl (Nat.le_of_ble_eq_true rfl) dX8_still_4 rfl ?_
  rintro r_ w_ ⟨rfl, (⟨rfl, hx⟩ | ⟨rfl, hx⟩)⟩
  · skip
    refine j_w (w' := [(e0, .inr (8, [.ref e1, .int (nI ln), .int (nI aa), .int (nI bg), .int (nI tk), .int (nI td), .int (nI rl), .int (nI rs), .int (nI rd), .ref e2, .ref e3, .ref e4, .int (nI n), .int (nI m), .ref e5, .ref e6, .ref e7, .int (nI be), .int (nI sd), .int (nI tu), .int (nI fo), .ref e8, .ref e9, .int (nI kn), .int (nI tl), .int (nI rn), .ref ea, .long tr, .ref eb])), (e5, .inl (G.2.2.1, 9, .inl (nF ru))), (e6, .inl (G.2.2.1, 15, .inl (nF la))), (e7, .inl (G.2.2.1, 15, .inl (nF lb))), (e8, .inl (G.2.2.1, 9, .inl (nF ne))), (ea, .inl (G.2.2.1, 512, .inl wh))]) [0, 1, 2, 3, 4, 5] rfl rfl ?_
    show Jw G X _ 0 0 7 _ [.int (nI 1)] _
    refine j_if_ne (q := 10) (t := 12) F (cf (by decide)) dX8_still_7 rfl rfl (fun _ => ?_) (fun z => False.elim z)
    obtain ⟨j, hj, rfl⟩ := hx
    refine j_iconst (q := 13) (v := nI 0) F (by decide) dX8_still_12 rfl ?_
    refine j_istore_n (q := 14) (lv' := [(2, .int (nI 0)), (0, .ref e0), (1, .int (nI j))]) F dX8_still_13 (by decide) rfl rfl ?_
    have lp2 : ∀ (fu : Nat) (a : Nat) (ne7 : Nat → Nat) (wh7 : Nat → Int32) (tl7 : Nat) (rn7 : Nat) (ha : a ≤ n) (hno : ∀ c d, c < d → d < n → c < a → ¬ SPr n m ru la lb fo sd c d), (n - a) < fu → Jw G X 4 0 0 14 [(0, .ref e0), (1, .int (nI j)), (2, .int (nI a))] [] [(e0, .inr (8, [.ref e1, .int (nI ln), .int (nI aa), .int (nI bg), .int (nI tk), .int (nI td), .int (nI rl), .int (nI rs), .int (nI rd), .ref e2, .ref e3, .ref e4, .int (nI n), .int (nI m), .ref e5, .ref e6, .ref e7, .int (nI be), .int (nI sd), .int (nI tu), .int (nI fo), .ref e8, .ref e9, .int (nI kn), .int (nI tl7), .int (nI rn7), .ref ea, .long tr, .ref eb])), (e5, .inl (G.2.2.1, 9, .inl (nF ru))), (e6, .inl (G.2.2.1, 15, .inl (nF la))), (e7, .inl (G.2.2.1, 15, .inl (nF lb))), (e8, .inl (G.2.2.1, 9, .inl (nF ne7))), (ea, .inl (G.2.2.1, 512, .inl wh7))] := by
      intro fu
      induction fu with
      | zero => intro a ne7 wh7 tl7 rn7 ha hno hfu; exact absurd hfu (Nat.not_lt_zero _)
      | succ fu ih2 =>
        intro a ne7 wh7 tl7 rn7 ha hno hfu
        refine j_iload_n (q := 15) (i0 := 2) F rfl dX8_still_14 rfl ?_
        refine j_aload_n (q := 16) (i0 := 0) F rfl dX8_still_15 rfl ?_
        refine j_get (q := 19) (ci := 8) (q0 := 0) (kf := 12) (v := .int (nI n)) F inX8 rfl rfl rfl tw_670 rfl rfl dX8_still_16 rfl ?_
        refine j_icmp_ge (q := 22) (t := 125) F (Pp := n ≤ a) (nI_leI (by omega) (by omega)) dX8_still_19 rfl rfl (fun c3 => ?_) (fun c3 => ?_)
        · skip
          refine j_bipush (q := 127) (v := (-9)) F (by decide) dX8_still_125 rfl ?_
          exact j_iret (w2 := [(e0, .inr (8, [.ref e1, .int (nI ln), .int (nI aa), .int (nI bg), .int (nI tk), .int (nI td), .int (nI rl), .int (nI rs), .int (nI rd), .ref e2, .ref e3, .ref e4, .int (nI n), .int (nI m), .ref e5, .ref e6, .ref e7, .int (nI be), .int (nI sd), .int (nI tu), .int (nI fo), .ref e8, .ref e9, .int (nI kn), .int (nI tl7), .int (nI rn7), .ref ea, .long tr, .ref eb])), (e5, .inl (G.2.2.1, 9, .inl (nF ru))), (e6, .inl (G.2.2.1, 15, .inl (nF la))), (e7, .inl (G.2.2.1, 15, .inl (nF lb))), (e8, .inl (G.2.2.1, 9, .inl (nF ne7))), (ea, .inl (G.2.2.1, 512, .inl wh7))]) F R0 rfl [0, 1, 2, 3, 4, 5] rfl rfl (⟨_, _, _, _, _, Or.inr ⟨⟨j, hj, rfl⟩, Or.inr ⟨rfl, fun c d h1 h2 => hno c d h1 h2 (by omega)⟩⟩, rfl, rfl⟩) dX8_still_127
        · skip
          refine j_iload_n (q := 23) (i0 := 2) F rfl dX8_still_22 rfl ?_
          refine j_iconst (q := 24) (v := nI 1) F (by decide) dX8_still_23 rfl ?_
          refine j_iadd (q := 25) (v := nI (a + 1)) F (nI_add _ _) dX8_still_24 rfl ?_
          refine j_istore_n (q := 26) (lv' := [(3, .int (nI (a + 1))), (0, .ref e0), (1, .int (nI j)), (2, .int (nI a))]) F dX8_still_25 (by decide) rfl rfl ?_
          have lp4 : ∀ (fu : Nat) (b : Nat) (ne8 : Nat → Nat) (wh8 : Nat → Int32) (tl8 : Nat) (rn8 : Nat) (hb1 : a < b) (hb : b ≤ n) (hno2 : ∀ d, a < d → d < b → ¬ SPr n m ru la lb fo sd a d), (n - b) < fu → Jw G X 4 0 0 26 [(0, .ref e0), (1, .int (nI j)), (2, .int (nI a)), (3, .int (nI b))] [] [(e0, .inr (8, [.ref e1, .int (nI ln), .int (nI aa), .int (nI bg), .int (nI tk), .int (nI td), .int (nI rl), .int (nI rs), .int (nI rd), .ref e2, .ref e3, .ref e4, .int (nI n), .int (nI m), .ref e5, .ref e6, .ref e7, .int (nI be), .int (nI sd), .int (nI tu), .int (nI fo), .ref e8, .ref e9, .int (nI kn), .int (nI tl8), .int (nI rn8), .ref ea, .long tr, .ref eb])), (e5, .inl (G.2.2.1, 9, .inl (nF ru))), (e6, .inl (G.2.2.1, 15, .inl (nF la))), (e7, .inl (G.2.2.1, 15, .inl (nF lb))), (e8, .inl (G.2.2.1, 9, .inl (nF ne8))), (ea, .inl (G.2.2.1, 512, .inl wh8))] := by
            intro fu
            induction fu with
            | zero => intro b ne8 wh8 tl8 rn8 hb1 hb hno2 hfu; exact absurd hfu (Nat.not_lt_zero _)
            | succ fu ih4 =>
              intro b ne8 wh8 tl8 rn8 hb1 hb hno2 hfu
              refine j_iload_n (q := 27) (i0 := 3) F rfl dX8_still_26 rfl ?_
              refine j_aload_n (q := 28) (i0 := 0) F rfl dX8_still_27 rfl ?_
              refine j_get (q := 31) (ci := 8) (q0 := 0) (kf := 12) (v := .int (nI n)) F inX8 rfl rfl rfl tw_670 rfl rfl dX8_still_28 rfl ?_
              refine j_icmp_ge (q := 34) (t := 119) F (Pp := n ≤ b) (nI_leI (by omega) (by omega)) dX8_still_31 rfl rfl (fun c5 => ?_) (fun c5 => ?_)
              · skip
                refine j_iinc (q := 122) (i0 := 2) (v := nI (a + 1)) (lv' := [(2, .int (nI (a + 1))), (0, .ref e0), (1, .int (nI j)), (3, .int (nI b))]) F dX8_still_119 rfl (nI_add _ _) (by decide) rfl rfl ?_
                refine j_goto (t := 14) F dX8_still_122 rfl ?_
                refine j_lv [1, 2, 0] (lv' := [(0, .ref e0), (1, .int (nI j)), (2, .int (nI (a + 1)))]) rfl ?_
                exact ih2 (a + 1) _ _ _ _ (by omega) (fun c d h1 h2 h3 => by rcases (show c < a ∨ c = a by omega) with z | z; exact hno c d h1 h2 z; subst z; exact hno2 d h1 (by omega)) (by omega)
              · skip
                refine j_aload_n (q := 35) (i0 := 0) F rfl dX8_still_34 rfl ?_
                refine j_iload_n (q := 36) (i0 := 2) F rfl dX8_still_35 rfl ?_
                refine j_iconst (q := 37) (v := nI 0) F (by decide) dX8_still_36 rfl ?_
                refine j_callV (q := 40) (ci := 8) (q0 := 0) (As := [.int (nI a), .int (nI 0)]) (wr := [(e5, .inl (G.2.2.1, 9, .inl (nF ru))), (e8, .inl (G.2.2.1, 9, .inl (nF ne8))), (ea, .inl (G.2.2.1, 512, .inl wh8))]) (st := []) F (c_X8_beside G (l := a) (wo := 0) hT (by omega) (by decide)) kwX8_beside tw_806 tw_28 tw_804 ⟨Nat.le_of_ble_eq_true rfl, Nat.le_of_ble_eq_true rfl, rfl, rfl, Nat.le_of_ble_eq_true rfl, Nat.le_of_ble_eq_true rfl⟩ [0, 2, 3] [1, 4, 5] rfl rfl rfl rfl rfl rfl rfl rfl rfl (Nat.le_of_ble_eq_true rfl) dX8_still_37 rfl ?_
                rintro r_ w_ ⟨rfl, rfl⟩
                refine j_w (w' := [(e0, .inr (8, [.ref e1, .int (nI ln), .int (nI aa), .int (nI bg), .int (nI tk), .int (nI td), .int (nI rl), .int (nI rs), .int (nI rd), .ref e2, .ref e3, .ref e4, .int (nI n), .int (nI m), .ref e5, .ref e6, .ref e7, .int (nI be), .int (nI sd), .int (nI tu), .int (nI fo), .ref e8, .ref e9, .int (nI kn), .int (nI tl8), .int (nI rn8), .ref ea, .long tr, .ref eb])), (e5, .inl (G.2.2.1, 9, .inl (nF ru))), (e6, .inl (G.2.2.1, 15, .inl (nF la))), (e7, .inl (G.2.2.1, 15, .inl (nF lb))), (e8, .inl (G.2.2.1, 9, .inl (nF ne8))), (ea, .inl (G.2.2.1, 512, .inl wh8))]) [3, 0, 4, 5, 1, 2] rfl rfl ?_
                show Jw G X _ 0 0 40 _ [.int (nI (bsd la lb 0 a m))] _
                have hbl := bsd_lt hT 0 a
                refine j_iload_n (q := 41) (i0 := 3) F rfl dX8_still_40 rfl ?_
                refine j_ishr (q := 42) (v := nI ((bsd la lb 0 a m) >>> b)) F (nx_shr (by omega) (by omega)) dX8_still_41 rfl ?_
                refine j_iconst (q := 43) (v := nI 1) F (by decide) dX8_still_42 rfl ?_
                refine j_iand (q := 44) (v := nI (bitN (bsd la lb 0 a m) b)) F (nx_and _ _) dX8_still_43 rfl ?_
                refine j_if_ne (q := 47) (t := 113) F (Pp := (bsd la lb 0 a m).testBit b = false) (bit_is0 _ _) dX8_still_44 rfl rfl (fun cj => ?_) (fun cj => ?_)
                · skip
                  refine j_iinc (q := 116) (i0 := 3) (v := nI (b + 1)) (lv' := [(3, .int (nI (b + 1))), (0, .ref e0), (1, .int (nI j)), (2, .int (nI a))]) F dX8_still_113 rfl (nI_add _ _) (by decide) rfl rfl ?_
                  refine j_goto (t := 26) F dX8_still_116 rfl ?_
                  refine j_lv [1, 2, 3, 0] (lv' := [(0, .ref e0), (1, .int (nI j)), (2, .int (nI a)), (3, .int (nI (b + 1)))]) rfl ?_
                  exact ih4 (b + 1) _ _ _ _ (by omega) (by omega) (fun d h1 h2 => by rcases (show d < b ∨ d = b by omega) with z | z; exact hno2 d h1 z; subst z; exact fun y => cj y.1) (by omega)
                · skip
                  refine j_aload_n (q := 48) (i0 := 0) F rfl dX8_still_47 rfl ?_
                  refine j_aload_n (q := 49) (i0 := 0) F rfl dX8_still_48 rfl ?_
                  refine j_get (q := 52) (ci := 8) (q0 := 0) (kf := 20) (v := .int (nI fo)) F inX8 rfl rfl rfl tw_678 rfl rfl dX8_still_49 rfl ?_
                  refine j_callV (q := 55) (ci := 8) (q0 := 0) (As := [.int (nI fo)]) (wr := [(e5, .inl (G.2.2.1, 9, .inl (nF ru))), (ea, .inl (G.2.2.1, 512, .inl wh8))]) (st := []) F (c_X8_looks G (wo := fo) hT hfo) kwX8_looks tw_826 tw_30 tw_824 ⟨Nat.le_of_ble_eq_true rfl, Nat.le_of_ble_eq_true rfl, rfl, rfl, Nat.le_of_ble_eq_true rfl, Nat.le_of_ble_eq_true rfl⟩ [0, 2, 3, 4] [1, 5] rfl rfl rfl rfl rfl rfl rfl rfl rfl (Nat.le_of_ble_eq_true rfl) dX8_still_52 rfl ?_
                  rintro r_ w_ ⟨ne2, hne2, rfl, rfl⟩
                  refine j_w (w' := [(e0, .inr (8, [.ref e1, .int (nI ln), .int (nI aa), .int (nI bg), .int (nI tk), .int (nI td), .int (nI rl), .int (nI rs), .int (nI rd), .ref e2, .ref e3, .ref e4, .int (nI n), .int (nI m), .ref e5, .ref e6, .ref e7, .int (nI be), .int (nI sd), .int (nI tu), .int (nI fo), .ref e8, .ref e9, .int (nI kn), .int (nI tl8), .int (nI rn8), .ref ea, .long tr, .ref eb])), (e5, .inl (G.2.2.1, 9, .inl (nF ru))), (e6, .inl (G.2.2.1, 15, .inl (nF la))), (e7, .inl (G.2.2.1, 15, .inl (nF lb))), (e8, .inl (G.2.2.1, 9, .inl (nF ne2))), (ea, .inl (G.2.2.1, 512, .inl wh8))]) [2, 0, 3, 4, 5, 1] rfl rfl ?_
                  show Jw G X _ 0 0 55 _ [] _
                  have hW := Wk.join hT hne2 (show a < n by omega) (show b < n by omega)
                  refine j_aload_n (q := 56) (i0 := 0) F rfl dX8_still_55 rfl ?_
                  refine j_get (q := 59) (ci := 8) (q0 := 0) (kf := 21) (v := .ref e8) F inX8 rfl rfl rfl tw_679 rfl rfl dX8_still_56 rfl ?_
                  refine j_iload_n (q := 60) (i0 := 2) F rfl dX8_still_59 rfl ?_
                  refine j_dup2 (q := 61) F rfl rfl dX8_still_60 rfl ?_
                  refine j_iald (q := 62) (q0 := 4) (i := a) (v := nI (ne2 a)) F rfl rfl (by omega) rfl (rfl) dX8_still_61 rfl ?_
                  refine j_iconst (q := 63) (v := nI 1) F (by decide) dX8_still_62 rfl ?_
                  refine j_iload_n (q := 64) (i0 := 3) F rfl dX8_still_63 rfl ?_
                  refine j_ishl (q := 65) (v := nI (2 ^ b)) F (nx_shl1 (by omega)) dX8_still_64 rfl ?_
                  refine j_ior (q := 66) (v := nI ((ne2 a) ||| (2 ^ b))) F (nx_or _ _) dX8_still_65 rfl ?_
                  refine j_iast (q := 67) (q0 := 4) (i := a) (f2 := nF (va_up ne2 a ((ne2 a) ||| (2 ^ b)))) (w' := [(e0, .inr (8, [.ref e1, .int (nI ln), .int (nI aa), .int (nI bg), .int (nI tk), .int (nI td), .int (nI rl), .int (nI rs), .int (nI rd), .ref e2, .ref e3, .ref e4, .int (nI n), .int (nI m), .ref e5, .ref e6, .ref e7, .int (nI be), .int (nI sd), .int (nI tu), .int (nI fo), .ref e8, .ref e9, .int (nI kn), .int (nI tl8), .int (nI rn8), .ref ea, .long tr, .ref eb])), (e5, .inl (G.2.2.1, 9, .inl (nF ru))), (e6, .inl (G.2.2.1, 15, .inl (nF la))), (e7, .inl (G.2.2.1, 15, .inl (nF lb))), (e8, .inl (G.2.2.1, 9, .inl (nF (va_up ne2 a ((ne2 a) ||| (2 ^ b)))))), (ea, .inl (G.2.2.1, 512, .inl wh8))]) F rfl rfl (by omega) rfl (nF_up _ _ _) rfl dX8_still_66 rfl ?_
                  refine j_aload_n (q := 68) (i0 := 0) F rfl dX8_still_67 rfl ?_
                  refine j_get (q := 71) (ci := 8) (q0 := 0) (kf := 21) (v := .ref e8) F inX8 rfl rfl rfl tw_679 rfl rfl dX8_still_68 rfl ?_
                  refine j_iload_n (q := 72) (i0 := 3) F rfl dX8_still_71 rfl ?_
                  refine j_dup2 (q := 73) F rfl rfl dX8_still_72 rfl ?_
                  refine j_iald (q := 74) (q0 := 4) (i := b) (v := nI ((va_up ne2 a ((ne2 a) ||| (2 ^ b))) b)) F rfl rfl (by omega) rfl (rfl) dX8_still_73 rfl ?_
                  refine j_iconst (q := 75) (v := nI 1) F (by decide) dX8_still_74 rfl ?_
                  refine j_iload_n (q := 76) (i0 := 2) F rfl dX8_still_75 rfl ?_
                  refine j_ishl (q := 77) (v := nI (2 ^ a)) F (nx_shl1 (by omega)) dX8_still_76 rfl ?_
                  refine j_ior (q := 78) (v := nI (((va_up ne2 a ((ne2 a) ||| (2 ^ b))) b) ||| (2 ^ a))) F (nx_or _ _) dX8_still_77 rfl ?_
                  refine j_iast (q := 79) (q0 := 4) (i := b) (f2 := nF (va_up (va_up ne2 a ((ne2 a) ||| (2 ^ b))) b (((va_up ne2 a ((ne2 a) ||| (2 ^ b))) b) ||| (2 ^ a)))) (w' := [(e0, .inr (8, [.ref e1, .int (nI ln), .int (nI aa), .int (nI bg), .int (nI tk), .int (nI td), .int (nI rl), .int (nI rs), .int (nI rd), .ref e2, .ref e3, .ref e4, .int (nI n), .int (nI m), .ref e5, .ref e6, .ref e7, .int (nI be), .int (nI sd), .int (nI tu), .int (nI fo), .ref e8, .ref e9, .int (nI kn), .int (nI tl8), .int (nI rn8), .ref ea, .long tr, .ref eb])), (e5, .inl (G.2.2.1, 9, .inl (nF ru))), (e6, .inl (G.2.2.1, 15, .inl (nF la))), (e7, .inl (G.2.2.1, 15, .inl (nF lb))), (e8, .inl (G.2.2.1, 9, .inl (nF (va_up (va_up ne2 a ((ne2 a) ||| (2 ^ b))) b (((va_up ne2 a ((ne2 a) ||| (2 ^ b))) b) ||| (2 ^ a)))))), (ea, .inl (G.2.2.1, 512, .inl wh8))]) F rfl rfl (by omega) rfl (nF_up _ _ _) rfl dX8_still_78 rfl ?_
                  refine j_aload_n (q := 80) (i0 := 0) F rfl dX8_still_79 rfl ?_
                  refine j_aload_n (q := 81) (i0 := 0) F rfl dX8_still_80 rfl ?_
                  refine j_get (q := 84) (ci := 8) (q0 := 0) (kf := 18) (v := .int (nI sd)) F inX8 rfl rfl rfl tw_676 rfl rfl dX8_still_81 rfl ?_
                  refine j_callV (q := 87) (ci := 8) (q0 := 0) (As := [.int (nI sd)]) (wr := [(e6, .inl (G.2.2.1, 15, .inl (nF la))), (e7, .inl (G.2.2.1, 15, .inl (nF lb)))]) (st := []) F (c_X8_rounds G hW (s := sd) (hsd)) kwX8_rounds tw_863 tw_33 tw_861 ⟨Nat.le_of_ble_eq_true rfl, Nat.le_of_ble_eq_true rfl, rfl, rfl, Nat.le_of_ble_eq_true rfl, Nat.le_of_ble_eq_true rfl⟩ [0, 1, 4, 5] [2, 3] rfl rfl rfl rfl rfl rfl rfl rfl rfl (Nat.le_of_ble_eq_true rfl) dX8_still_84 rfl ?_
                  rintro r_ w_ ⟨wh3, tl3, rn3, hrnd, htl3, hrn3, htr3, rfl, rfl⟩
                  refine j_w (w' := [(e0, .inr (8, [.ref e1, .int (nI ln), .int (nI aa), .int (nI bg), .int (nI tk), .int (nI td), .int (nI rl), .int (nI rs), .int (nI rd), .ref e2, .ref e3, .ref e4, .int (nI n), .int (nI m), .ref e5, .ref e6, .ref e7, .int (nI be), .int (nI sd), .int (nI tu), .int (nI fo), .ref e8, .ref e9, .int (nI kn), .int (nI tl3), .int (nI rn3), .ref ea, .long tr, .ref eb])), (e5, .inl (G.2.2.1, 9, .inl (nF ru))), (e6, .inl (G.2.2.1, 15, .inl (nF la))), (e7, .inl (G.2.2.1, 15, .inl (nF lb))), (e8, .inl (G.2.2.1, 9, .inl (nF (va_up (va_up ne2 a ((ne2 a) ||| (2 ^ b))) b (((va_up ne2 a ((ne2 a) ||| (2 ^ b))) b) ||| (2 ^ a)))))), (ea, .inl (G.2.2.1, 512, .inl wh3))]) [2, 3, 0, 1, 4, 5] rfl rfl ?_
                  show Jw G X _ 0 0 87 _ [] _
                  refine j_aload_n (q := 88) (i0 := 0) F rfl dX8_still_87 rfl ?_
                  refine j_get (q := 91) (ci := 8) (q0 := 0) (kf := 25) (v := .int (nI rn3)) F inX8 rfl rfl rfl tw_683 rfl rfl dX8_still_88 rfl ?_
                  refine j_iconst (q := 92) (v := nI 1) F (by decide) dX8_still_91 rfl ?_
                  refine j_icmp_ne (q := 95) (t := 113) F (Pp := rn3 = 1) (nI_eq (by omega) (by omega)) dX8_still_92 rfl rfl (fun c1 => ?_) (fun c1 => ?_)
                  · skip
                    refine j_iinc (q := 116) (i0 := 3) (v := nI (b + 1)) (lv' := [(3, .int (nI (b + 1))), (0, .ref e0), (1, .int (nI j)), (2, .int (nI a))]) F dX8_still_113 rfl (nI_add _ _) (by decide) rfl rfl ?_
                    refine j_goto (t := 26) F dX8_still_116 rfl ?_
                    refine j_lv [1, 2, 3, 0] (lv' := [(0, .ref e0), (1, .int (nI j)), (2, .int (nI a)), (3, .int (nI (b + 1)))]) rfl ?_
                    exact ih4 (b + 1) _ _ _ _ (by omega) (by omega) (fun d h1 h2 => by rcases (show d < b ∨ d = b by omega) with z | z; exact hno2 d h1 z; subst z; exact fun y => c1 (hrnd.one y.2.choose_spec).2) (by omega)
                  · skip
                    refine j_iload_n (q := 96) (i0 := 1) F rfl dX8_still_95 rfl ?_
                    refine j_if_ne (q := 99) (t := 108) F (Pp := nI j = nI 0) (Iff.rfl) dX8_still_96 rfl rfl (fun cw => ?_) (fun cw => ?_)
                    · skip
                      refine j_aload_n (q := 109) (i0 := 0) F rfl dX8_still_108 rfl ?_
                      refine j_get (q := 112) (ci := 8) (q0 := 0) (kf := 24) (v := .int (nI tl3)) F inX8 rfl rfl rfl tw_682 rfl rfl dX8_still_109 rfl ?_
                      exact j_iret (w2 := [(e0, .inr (8, [.ref e1, .int (nI ln), .int (nI aa), .int (nI bg), .int (nI tk), .int (nI td), .int (nI rl), .int (nI rs), .int (nI rd), .ref e2, .ref e3, .ref e4, .int (nI n), .int (nI m), .ref e5, .ref e6, .ref e7, .int (nI be), .int (nI sd), .int (nI tu), .int (nI fo), .ref e8, .ref e9, .int (nI kn), .int (nI tl3), .int (nI rn3), .ref ea, .long tr, .ref eb])), (e5, .inl (G.2.2.1, 9, .inl (nF ru))), (e6, .inl (G.2.2.1, 15, .inl (nF la))), (e7, .inl (G.2.2.1, 15, .inl (nF lb))), (e8, .inl (G.2.2.1, 9, .inl (nF (va_up (va_up ne2 a ((ne2 a) ||| (2 ^ b))) b (((va_up ne2 a ((ne2 a) ||| (2 ^ b))) b) ||| (2 ^ a)))))), (ea, .inl (G.2.2.1, 512, .inl wh3))]) F R0 rfl [0, 1, 2, 3, 4, 5] rfl rfl (⟨_, _, _, _, _, Or.inr ⟨⟨j, hj, rfl⟩, Or.inl ⟨a, b, tl3, hb1, by omega, ⟨cj, _, c1 ▸ hrnd⟩, c1 ▸ hrnd, fun c d h1 h2 h3 => h3.elim (fun z => hno c d h1 h2 z) (fun z => by obtain ⟨rfl, z2⟩ := z; exact hno2 d h1 z2), by rw [if_neg cw]⟩⟩, rfl, rfl⟩) dX8_still_112
                    · skip
                      refine j_bipush (q := 101) (v := nI 10) F (by decide) dX8_still_99 rfl ?_
                      refine j_iload_n (q := 102) (i0 := 2) F rfl dX8_still_101 rfl ?_
                      refine j_imul (q := 103) (v := nI (10 * a)) F (pk_mul _ _) dX8_still_102 rfl ?_
                      refine j_iload_n (q := 104) (i0 := 3) F rfl dX8_still_103 rfl ?_
                      refine j_iadd (q := 105) (v := nI ((10 * a) + b)) F (nI_add _ _) dX8_still_104 rfl ?_
                      refine j_goto (t := 112) F dX8_still_105 rfl ?_
                      exact j_iret (w2 := [(e0, .inr (8, [.ref e1, .int (nI ln), .int (nI aa), .int (nI bg), .int (nI tk), .int (nI td), .int (nI rl), .int (nI rs), .int (nI rd), .ref e2, .ref e3, .ref e4, .int (nI n), .int (nI m), .ref e5, .ref e6, .ref e7, .int (nI be), .int (nI sd), .int (nI tu), .int (nI fo), .ref e8, .ref e9, .int (nI kn), .int (nI tl3), .int (nI rn3), .ref ea, .long tr, .ref eb])), (e5, .inl (G.2.2.1, 9, .inl (nF ru))), (e6, .inl (G.2.2.1, 15, .inl (nF la))), (e7, .inl (G.2.2.1, 15, .inl (nF lb))), (e8, .inl (G.2.2.1, 9, .inl (nF (va_up (va_up ne2 a ((ne2 a) ||| (2 ^ b))) b (((va_up ne2 a ((ne2 a) ||| (2 ^ b))) b) ||| (2 ^ a)))))), (ea, .inl (G.2.2.1, 512, .inl wh3))]) F R0 rfl [0, 1, 2, 3, 4, 5] rfl rfl (⟨_, _, _, _, _, Or.inr ⟨⟨j, hj, rfl⟩, Or.inl ⟨a, b, tl3, hb1, by omega, ⟨cj, _, c1 ▸ hrnd⟩, c1 ▸ hrnd, fun c d h1 h2 h3 => h3.elim (fun z => hno c d h1 h2 z) (fun z => by obtain ⟨rfl, z2⟩ := z; exact hno2 d h1 z2), by rw [if_pos cw]⟩⟩, rfl, rfl⟩) dX8_still_112
          refine j_lv [1, 2, 3, 0] (lv' := [(0, .ref e0), (1, .int (nI j)), (2, .int (nI a)), (3, .int (nI (a + 1)))]) rfl ?_
          exact lp4 _ (a + 1) _ _ _ _ (by omega) (by omega) (fun d h1 h2 => by omega) (Nat.lt_succ_self _)
    refine j_lv [1, 2, 0] (lv' := [(0, .ref e0), (1, .int (nI j)), (2, .int (nI 0))]) rfl ?_
    exact lp2 _ 0 _ _ _ _ (Nat.zero_le _) (fun c d _ _ h => absurd h (Nat.not_lt_zero c)) (Nat.lt_succ_self _)
  · skip
    refine j_w (w' := [(e0, .inr (8, [.ref e1, .int (nI ln), .int (nI aa), .int (nI bg), .int (nI tk), .int (nI td), .int (nI rl), .int (nI rs), .int (nI rd), .ref e2, .ref e3, .ref e4, .int (nI n), .int (nI m), .ref e5, .ref e6, .ref e7, .int (nI be), .int (nI sd), .int (nI tu), .int (nI fo), .ref e8, .ref e9, .int (nI kn), .int (nI tl), .int (nI rn), .ref ea, .long tr, .ref eb])), (e5, .inl (G.2.2.1, 9, .inl (nF ru))), (e6, .inl (G.2.2.1, 15, .inl (nF la))), (e7, .inl (G.2.2.1, 15, .inl (nF lb))), (e8, .inl (G.2.2.1, 9, .inl (nF ne))), (ea, .inl (G.2.2.1, 512, .inl wh))]) [0, 1, 2, 3, 4, 5] rfl rfl ?_
    show Jw G X _ 0 0 7 _ [.int (nI 0)] _
    refine j_if_ne (q := 10) (t := 12) F (ct (by decide)) dX8_still_7 rfl rfl (fun z => absurd trivial z) (fun _ => ?_)
    refine j_iconst (q := 11) (v := (-1)) F (by decide) dX8_still_10 rfl ?_
    exact j_iret (w2 := [(e0, .inr (8, [.ref e1, .int (nI ln), .int (nI aa), .int (nI bg), .int (nI tk), .int (nI td), .int (nI rl), .int (nI rs), .int (nI rd), .ref e2, .ref e3, .ref e4, .int (nI n), .int (nI m), .ref e5, .ref e6, .ref e7, .int (nI be), .int (nI sd), .int (nI tu), .int (nI fo), .ref e8, .ref e9, .int (nI kn), .int (nI tl), .int (nI rn), .ref ea, .long tr, .ref eb])), (e5, .inl (G.2.2.1, 9, .inl (nF ru))), (e6, .inl (G.2.2.1, 15, .inl (nF la))), (e7, .inl (G.2.2.1, 15, .inl (nF lb))), (e8, .inl (G.2.2.1, 9, .inl (nF ne))), (ea, .inl (G.2.2.1, 512, .inl wh))]) F R0 rfl [0, 1, 2, 3, 4, 5] rfl rfl (⟨_, _, _, _, _, Or.inl ⟨hx, rfl⟩, rfl, rfl⟩) dX8_still_11

set_option maxHeartbeats 4000000 in
set_option maxRecDepth 100000 in
theorem c_X8_mist (G : Gm) {e0 e1 e2 e3 e4 e5 e6 e7 e8 e9 ea eb : Nat} {ln aa bg tk td rl rs rd n m be sd tu fo kn tl rn : Nat} {ru la lb ne pa : Nat → Nat} {wh : Nat → Int32} {tr : Int64} {x : Int32} (hT : Tok n m ru la lb) (hP : PrOk n m (be, sd, tu, fo, kn, pa)) : Mg G yX8_mist cX8_mist 4 (some .int) ({ frames := 2, cells := 0, slots := 0, locals := 49 } : Room) 0 0 [.ref e0, .int x] [(e0, .inr (8, [.ref e1, .int (nI ln), .int (nI aa), .int (nI bg), .int (nI tk), .int (nI td), .int (nI rl), .int (nI rs), .int (nI rd), .ref e2, .ref e3, .ref e4, .int (nI n), .int (nI m), .ref e5, .ref e6, .ref e7, .int (nI be), .int (nI sd), .int (nI tu), .int (nI fo), .ref e8, .ref e9, .int (nI kn), .int (nI tl), .int (nI rn), .ref ea, .long tr, .ref eb])), (e5, .inl (G.2.2.1, 9, .inl (nF ru))), (e6, .inl (G.2.2.1, 15, .inl (nF la))), (e7, .inl (G.2.2.1, 15, .inl (nF lb))), (e8, .inl (G.2.2.1, 9, .inl (nF ne))), (ea, .inl (G.2.2.1, 512, .inl wh))] (fun r w2 => ∃ ne2 wh2 tl2 rn2, r = some (.int (aMist n m ru la lb fo sd x)) ∧ w2 = [(e0, .inr (8, [.ref e1, .int (nI ln), .int (nI aa), .int (nI bg), .int (nI tk), .int (nI td), .int (nI rl), .int (nI rs), .int (nI rd), .ref e2, .ref e3, .ref e4, .int (nI n), .int (nI m), .ref e5, .ref e6, .ref e7, .int (nI be), .int (nI sd), .int (nI tu), .int (nI fo), .ref e8, .ref e9, .int (nI kn), .int (nI tl2), .int (nI rn2), .ref ea, .long tr, .ref eb])), (e5, .inl (G.2.2.1, 9, .inl (nF ru))), (e6, .inl (G.2.2.1, 15, .inl (nF la))), (e7, .inl (G.2.2.1, 15, .inl (nF lb))), (e8, .inl (G.2.2.1, 9, .inl (nF ne2))), (ea, .inl (G.2.2.1, 512, .inl wh2))]) := by
  have hn := hT.1
  have hm := hT.2.1
  have h9 := p9 hn
  have h15 := p15 hm
  have hsd : sd < 512 := by have := hP.2.1; dsimp only at this; omega
  have hfo : fo < 32768 := by have := hP.2.2.2.1; dsimp only at this; omega
  refine Mg.mk (lv := [(0, .ref e0), (1, .int x)]) (by decide) rfl rfl (fun X F R0 => ?_)
  refine j_aload_n (q := 1) (i0 := 0) F rfl dX8_mist_0 rfl ?_
  refine j_iload_n (q := 2) (i0 := 1) F rfl dX8_mist_1 rfl ?_
  refine j_callV (q := 5) (ci := 8) (q0 := 0) (As := [.int x]) (wr := [(e5, .inl (G.2.2.1, 9, .inl (nF ru))), (e6, .inl (G.2.2.1, 15, .inl (nF la))), (e7, .inl (G.2.2.1, 15, .inl (nF lb))), (e8, .inl (G.2.2.1, 9, .inl (nF ne))), (ea, .inl (G.2.2.1, 512, .inl wh))]) (st := []) F (c_X8_isStand G (x := x) hn) kwX8_isStand tw_875 tw_34 tw_873 ⟨Nat.le_of_ble_eq_true rfl, Nat.le_of_ble_eq_true rfl, rfl, rfl, Nat.le_of_ble_eq_true rfl, Nat.le_of_ble_eq_true rfl⟩ [0] [1, 2, 3, 4, 5] rfl rfl rfl rfl rfl rfl rfl rfl rfl (Nat.le_of_ble_eq_true rfl) dX8_mist_2 rfl ?_
  rintro r_ w_ ⟨rfl, (⟨rfl, hx⟩ | ⟨rfl, hx⟩)⟩
  · skip
    refine j_w (w' := [(e0, .inr (8, [.ref e1, .int (nI ln), .int (nI aa), .int (nI bg), .int (nI tk), .int (nI td), .int (nI rl), .int (nI rs), .int (nI rd), .ref e2, .ref e3, .ref e4, .int (nI n), .int (nI m), .ref e5, .ref e6, .ref e7, .int (nI be), .int (nI sd), .int (nI tu), .int (nI fo), .ref e8, .ref e9, .int (nI kn), .int (nI tl), .int (nI rn), .ref ea, .long tr, .ref eb])), (e5, .inl (G.2.2.1, 9, .inl (nF ru))), (e6, .inl (G.2.2.1, 15, .inl (nF la))), (e7, .inl (G.2.2.1, 15, .inl (nF lb))), (e8, .inl (G.2.2.1, 9, .inl (nF ne))), (ea, .inl (G.2.2.1, 512, .inl wh))]) [5, 0, 1, 2, 3, 4] rfl rfl ?_
    show Jw G X _ 0 0 5 _ [.int (nI 1)] _
    refine j_if_ne (q := 8) (t := 10) F (cf (by decide)) dX8_mist_5 rfl rfl (fun _ => ?_) (fun z => False.elim z)
    have hc := cb_1 hx
    obtain ⟨j, hj, rfl⟩ := hx
    refine j_iconst (q := 11) (v := nI 0) F (by decide) dX8_mist_10 rfl ?_
    refine j_istore_n (q := 12) (lv' := [(2, .int (nI 0)), (0, .ref e0), (1, .int (nI j))]) F dX8_mist_11 (by decide) rfl rfl ?_
    refine j_iconst (q := 13) (v := nI 0) F (by decide) dX8_mist_12 rfl ?_
    refine j_istore_n (q := 14) (lv' := [(3, .int (nI 0)), (2, .int (nI 0)), (0, .ref e0), (1, .int (nI j))]) F dX8_mist_13 (by decide) rfl rfl ?_
    have lp2 : ∀ (fu : Nat) (k : Nat) (ne7 : Nat → Nat) (hk : k ≤ m), (m - k) < fu → Jw G X 4 0 0 14 [(0, .ref e0), (1, .int (nI j)), (2, .int (nI (mst n m ru la lb fo sd j k))), (3, .int (nI k))] [] [(e0, .inr (8, [.ref e1, .int (nI ln), .int (nI aa), .int (nI bg), .int (nI tk), .int (nI td), .int (nI rl), .int (nI rs), .int (nI rd), .ref e2, .ref e3, .ref e4, .int (nI n), .int (nI m), .ref e5, .ref e6, .ref e7, .int (nI be), .int (nI sd), .int (nI tu), .int (nI fo), .ref e8, .ref e9, .int (nI kn), .int (nI tl), .int (nI rn), .ref ea, .long tr, .ref eb])), (e5, .inl (G.2.2.1, 9, .inl (nF ru))), (e6, .inl (G.2.2.1, 15, .inl (nF la))), (e7, .inl (G.2.2.1, 15, .inl (nF lb))), (e8, .inl (G.2.2.1, 9, .inl (nF ne7))), (ea, .inl (G.2.2.1, 512, .inl wh))] := by
      intro fu
      induction fu with
      | zero => intro k ne7 hk hfu; exact absurd hfu (Nat.not_lt_zero _)
      | succ fu ih2 =>
        intro k ne7 hk hfu
        refine j_iload_n (q := 15) (i0 := 3) F rfl dX8_mist_14 rfl ?_
        refine j_aload_n (q := 16) (i0 := 0) F rfl dX8_mist_15 rfl ?_
        refine j_get (q := 19) (ci := 8) (q0 := 0) (kf := 13) (v := .int (nI m)) F inX8 rfl rfl rfl tw_671 rfl rfl dX8_mist_16 rfl ?_
        refine j_icmp_ge (q := 22) (t := 73) F (Pp := m ≤ k) (nI_leI (by omega) (by omega)) dX8_mist_19 rfl rfl (fun c3 => ?_) (fun c3 => ?_)
        · skip
          refine j_iload_n (q := 74) (i0 := 2) F rfl dX8_mist_73 rfl ?_
          exact j_iret (w2 := [(e0, .inr (8, [.ref e1, .int (nI ln), .int (nI aa), .int (nI bg), .int (nI tk), .int (nI td), .int (nI rl), .int (nI rs), .int (nI rd), .ref e2, .ref e3, .ref e4, .int (nI n), .int (nI m), .ref e5, .ref e6, .ref e7, .int (nI be), .int (nI sd), .int (nI tu), .int (nI fo), .ref e8, .ref e9, .int (nI kn), .int (nI tl), .int (nI rn), .ref ea, .long tr, .ref eb])), (e5, .inl (G.2.2.1, 9, .inl (nF ru))), (e6, .inl (G.2.2.1, 15, .inl (nF la))), (e7, .inl (G.2.2.1, 15, .inl (nF lb))), (e8, .inl (G.2.2.1, 9, .inl (nF ne7))), (ea, .inl (G.2.2.1, 512, .inl wh))]) F R0 rfl [0, 1, 2, 3, 4, 5] rfl rfl (⟨_, _, _, _, by rw [aMist, if_pos hc, nI_clamp (by omega), show k = m by omega], rfl⟩) dX8_mist_74
        · skip
          have hfg : fo ||| 2 ^ k < 2 ^ 15 := Nat.or_lt_two_pow hfo (Nat.pow_lt_pow_right (by decide) (by omega))
          refine j_aload_n (q := 23) (i0 := 0) F rfl dX8_mist_22 rfl ?_
          refine j_aload_n (q := 24) (i0 := 0) F rfl dX8_mist_23 rfl ?_
          refine j_get (q := 27) (ci := 8) (q0 := 0) (kf := 20) (v := .int (nI fo)) F inX8 rfl rfl rfl tw_678 rfl rfl dX8_mist_24 rfl ?_
          refine j_iconst (q := 28) (v := nI 1) F (by decide) dX8_mist_27 rfl ?_
          refine j_iload_n (q := 29) (i0 := 3) F rfl dX8_mist_28 rfl ?_
          refine j_ishl (q := 30) (v := nI (2 ^ k)) F (nx_shl1 (by omega)) dX8_mist_29 rfl ?_
          refine j_ior (q := 31) (v := nI (fo ||| (2 ^ k))) F (nx_or _ _) dX8_mist_30 rfl ?_
          refine j_callV (q := 34) (ci := 8) (q0 := 0) (As := [.int (nI (fo ||| (2 ^ k)))]) (wr := [(e5, .inl (G.2.2.1, 9, .inl (nF ru))), (ea, .inl (G.2.2.1, 512, .inl wh))]) (st := []) F (c_X8_looks G (wo := fo ||| 2 ^ k) hT (hfg)) kwX8_looks tw_826 tw_30 tw_824 ⟨Nat.le_of_ble_eq_true rfl, Nat.le_of_ble_eq_true rfl, rfl, rfl, Nat.le_of_ble_eq_true rfl, Nat.le_of_ble_eq_true rfl⟩ [0, 2, 3, 4] [1, 5] rfl rfl rfl rfl rfl rfl rfl rfl rfl (Nat.le_of_ble_eq_true rfl) dX8_mist_31 rfl ?_
          rintro r_ w_ ⟨ne2, hne2, rfl, rfl⟩
          refine j_w (w' := [(e0, .inr (8, [.ref e1, .int (nI ln), .int (nI aa), .int (nI bg), .int (nI tk), .int (nI td), .int (nI rl), .int (nI rs), .int (nI rd), .ref e2, .ref e3, .ref e4, .int (nI n), .int (nI m), .ref e5, .ref e6, .ref e7, .int (nI be), .int (nI sd), .int (nI tu), .int (nI fo), .ref e8, .ref e9, .int (nI kn), .int (nI tl), .int (nI rn), .ref ea, .long tr, .ref eb])), (e5, .inl (G.2.2.1, 9, .inl (nF ru))), (e6, .inl (G.2.2.1, 15, .inl (nF la))), (e7, .inl (G.2.2.1, 15, .inl (nF lb))), (e8, .inl (G.2.2.1, 9, .inl (nF ne2))), (ea, .inl (G.2.2.1, 512, .inl wh))]) [2, 0, 3, 4, 5, 1] rfl rfl ?_
          show Jw G X _ 0 0 34 _ [] _
          have hW := Wk.of hT hne2
          refine j_iload_n (q := 35) (i0 := 2) F rfl dX8_mist_34 rfl ?_
          refine j_aload_n (q := 36) (i0 := 0) F rfl dX8_mist_35 rfl ?_
          refine j_get (q := 39) (ci := 8) (q0 := 0) (kf := 20) (v := .int (nI fo)) F inX8 rfl rfl rfl tw_678 rfl rfl dX8_mist_36 rfl ?_
          refine j_iload_n (q := 40) (i0 := 3) F rfl dX8_mist_39 rfl ?_
          refine j_ishr (q := 41) (v := nI (fo >>> k)) F (nx_shr (by omega) (by omega)) dX8_mist_40 rfl ?_
          refine j_iconst (q := 42) (v := nI 1) F (by decide) dX8_mist_41 rfl ?_
          refine j_iand (q := 43) (v := nI (bitN fo k)) F (nx_and _ _) dX8_mist_42 rfl ?_
          refine j_if_ne (q := 46) (t := 64) F (Pp := fo.testBit k = false) (bit_is0 _ _) dX8_mist_43 rfl rfl (fun cbt => ?_) (fun cbt => ?_)
          · skip
            refine j_iconst (q := 65) (v := nI 0) F (by decide) dX8_mist_64 rfl ?_
            refine j_ior (q := 66) (v := nI ((mst n m ru la lb fo sd j k) ||| 0)) F (nx_or _ _) dX8_mist_65 rfl ?_
            refine j_istore_n (q := 67) (lv' := [(2, .int (nI ((mst n m ru la lb fo sd j k) ||| 0))), (0, .ref e0), (1, .int (nI j)), (3, .int (nI k))]) F dX8_mist_66 (by decide) rfl rfl ?_
            refine j_iinc (q := 70) (i0 := 3) (v := nI (k + 1)) (lv' := [(3, .int (nI (k + 1))), (2, .int (nI ((mst n m ru la lb fo sd j k) ||| 0))), (0, .ref e0), (1, .int (nI j))]) F dX8_mist_67 rfl (nI_add _ _) (by decide) rfl rfl ?_
            refine j_goto (t := 14) F dX8_mist_70 rfl ?_
            rw [show (mst n m ru la lb fo sd j k) ||| 0 = mst n m ru la lb fo sd j (k + 1) from by rw [mst, if_neg (fun z => cbt z.1), Nat.or_zero]]
            refine j_lv [2, 3, 1, 0] (lv' := [(0, .ref e0), (1, .int (nI j)), (2, .int (nI (mst n m ru la lb fo sd j (k + 1)))), (3, .int (nI (k + 1)))]) rfl ?_
            exact ih2 (k + 1) _ (by omega) (by omega)
          · skip
            refine j_aload_n (q := 47) (i0 := 0) F rfl dX8_mist_46 rfl ?_
            refine j_aload_n (q := 48) (i0 := 0) F rfl dX8_mist_47 rfl ?_
            refine j_get (q := 51) (ci := 8) (q0 := 0) (kf := 18) (v := .int (nI sd)) F inX8 rfl rfl rfl tw_676 rfl rfl dX8_mist_48 rfl ?_
            refine j_callV (q := 54) (ci := 8) (q0 := 0) (As := [.int (nI sd)]) (wr := [(e6, .inl (G.2.2.1, 15, .inl (nF la))), (e7, .inl (G.2.2.1, 15, .inl (nF lb))), (ea, .inl (G.2.2.1, 512, .inl wh))]) (st := [.int (nI (mst n m ru la lb fo sd j k))]) F (c_X8_rings G hW (s := sd) (hsd)) kwX8_rings tw_830 tw_31 tw_828 ⟨Nat.le_of_ble_eq_true rfl, Nat.le_of_ble_eq_true rfl, rfl, rfl, Nat.le_of_ble_eq_true rfl, Nat.le_of_ble_eq_true rfl⟩ [0, 1, 4] [2, 3, 5] rfl rfl rfl rfl rfl rfl rfl rfl rfl (Nat.le_of_ble_eq_true rfl) dX8_mist_51 rfl ?_
            rintro r_ w_ ⟨rfl, rfl⟩
            refine j_w (w' := [(e0, .inr (8, [.ref e1, .int (nI ln), .int (nI aa), .int (nI bg), .int (nI tk), .int (nI td), .int (nI rl), .int (nI rs), .int (nI rd), .ref e2, .ref e3, .ref e4, .int (nI n), .int (nI m), .ref e5, .ref e6, .ref e7, .int (nI be), .int (nI sd), .int (nI tu), .int (nI fo), .ref e8, .ref e9, .int (nI kn), .int (nI tl), .int (nI rn), .ref ea, .long tr, .ref eb])), (e5, .inl (G.2.2.1, 9, .inl (nF ru))), (e6, .inl (G.2.2.1, 15, .inl (nF la))), (e7, .inl (G.2.2.1, 15, .inl (nF lb))), (e8, .inl (G.2.2.1, 9, .inl (nF ne2))), (ea, .inl (G.2.2.1, 512, .inl wh))]) [3, 4, 0, 1, 5, 2] rfl rfl ?_
            show Jw G X _ 0 0 54 _ [.int (nI (Fw n m ru la lb (fo ||| 2 ^ k) sd)), .int (nI (mst n m ru la lb fo sd j k))] _
            have hFl : Fw n m ru la lb (fo ||| 2 ^ k) sd < 2 ^ n := rg_lt _ _ _ _
            refine j_iload_n (q := 55) (i0 := 1) F rfl dX8_mist_54 rfl ?_
            refine j_icmp_ne (q := 58) (t := 64) F (Pp := Fw n m ru la lb (fo ||| 2 ^ k) sd = j) (nI_eq (by omega) (by omega)) dX8_mist_55 rfl rfl (fun ce => ?_) (fun ce => ?_)
            · skip
              refine j_iconst (q := 65) (v := nI 0) F (by decide) dX8_mist_64 rfl ?_
              refine j_ior (q := 66) (v := nI ((mst n m ru la lb fo sd j k) ||| 0)) F (nx_or _ _) dX8_mist_65 rfl ?_
              refine j_istore_n (q := 67) (lv' := [(2, .int (nI ((mst n m ru la lb fo sd j k) ||| 0))), (0, .ref e0), (1, .int (nI j)), (3, .int (nI k))]) F dX8_mist_66 (by decide) rfl rfl ?_
              refine j_iinc (q := 70) (i0 := 3) (v := nI (k + 1)) (lv' := [(3, .int (nI (k + 1))), (2, .int (nI ((mst n m ru la lb fo sd j k) ||| 0))), (0, .ref e0), (1, .int (nI j))]) F dX8_mist_67 rfl (nI_add _ _) (by decide) rfl rfl ?_
              refine j_goto (t := 14) F dX8_mist_70 rfl ?_
              rw [show (mst n m ru la lb fo sd j k) ||| 0 = mst n m ru la lb fo sd j (k + 1) from by rw [mst, if_neg (fun z => ce z.2), Nat.or_zero]]
              refine j_lv [2, 3, 1, 0] (lv' := [(0, .ref e0), (1, .int (nI j)), (2, .int (nI (mst n m ru la lb fo sd j (k + 1)))), (3, .int (nI (k + 1)))]) rfl ?_
              exact ih2 (k + 1) _ (by omega) (by omega)
            · skip
              refine j_iconst (q := 59) (v := nI 1) F (by decide) dX8_mist_58 rfl ?_
              refine j_iload_n (q := 60) (i0 := 3) F rfl dX8_mist_59 rfl ?_
              refine j_ishl (q := 61) (v := nI (2 ^ k)) F (nx_shl1 (by omega)) dX8_mist_60 rfl ?_
              refine j_goto (t := 65) F dX8_mist_61 rfl ?_
              refine j_ior (q := 66) (v := nI ((mst n m ru la lb fo sd j k) ||| (2 ^ k))) F (nx_or _ _) dX8_mist_65 rfl ?_
              refine j_istore_n (q := 67) (lv' := [(2, .int (nI ((mst n m ru la lb fo sd j k) ||| (2 ^ k)))), (0, .ref e0), (1, .int (nI j)), (3, .int (nI k))]) F dX8_mist_66 (by decide) rfl rfl ?_
              refine j_iinc (q := 70) (i0 := 3) (v := nI (k + 1)) (lv' := [(3, .int (nI (k + 1))), (2, .int (nI ((mst n m ru la lb fo sd j k) ||| (2 ^ k)))), (0, .ref e0), (1, .int (nI j))]) F dX8_mist_67 rfl (nI_add _ _) (by decide) rfl rfl ?_
              refine j_goto (t := 14) F dX8_mist_70 rfl ?_
              rw [show (mst n m ru la lb fo sd j k) ||| (2 ^ k) = mst n m ru la lb fo sd j (k + 1) from by rw [mst, if_pos ⟨cbt, ce⟩]]
              refine j_lv [2, 3, 1, 0] (lv' := [(0, .ref e0), (1, .int (nI j)), (2, .int (nI (mst n m ru la lb fo sd j (k + 1)))), (3, .int (nI (k + 1)))]) rfl ?_
              exact ih2 (k + 1) _ (by omega) (by omega)
    refine j_lv [2, 3, 1, 0] (lv' := [(0, .ref e0), (1, .int (nI j)), (2, .int (nI 0)), (3, .int (nI 0))]) rfl ?_
    exact lp2 _ 0 ne (Nat.zero_le _) (Nat.lt_succ_self _)
  · skip
    refine j_w (w' := [(e0, .inr (8, [.ref e1, .int (nI ln), .int (nI aa), .int (nI bg), .int (nI tk), .int (nI td), .int (nI rl), .int (nI rs), .int (nI rd), .ref e2, .ref e3, .ref e4, .int (nI n), .int (nI m), .ref e5, .ref e6, .ref e7, .int (nI be), .int (nI sd), .int (nI tu), .int (nI fo), .ref e8, .ref e9, .int (nI kn), .int (nI tl), .int (nI rn), .ref ea, .long tr, .ref eb])), (e5, .inl (G.2.2.1, 9, .inl (nF ru))), (e6, .inl (G.2.2.1, 15, .inl (nF la))), (e7, .inl (G.2.2.1, 15, .inl (nF lb))), (e8, .inl (G.2.2.1, 9, .inl (nF ne))), (ea, .inl (G.2.2.1, 512, .inl wh))]) [5, 0, 1, 2, 3, 4] rfl rfl ?_
    show Jw G X _ 0 0 5 _ [.int (nI 0)] _
    refine j_if_ne (q := 8) (t := 10) F (ct (by decide)) dX8_mist_5 rfl rfl (fun z => absurd trivial z) (fun _ => ?_)
    refine j_iconst (q := 9) (v := (-1)) F (by decide) dX8_mist_8 rfl ?_
    exact j_iret (w2 := [(e0, .inr (8, [.ref e1, .int (nI ln), .int (nI aa), .int (nI bg), .int (nI tk), .int (nI td), .int (nI rl), .int (nI rs), .int (nI rd), .ref e2, .ref e3, .ref e4, .int (nI n), .int (nI m), .ref e5, .ref e6, .ref e7, .int (nI be), .int (nI sd), .int (nI tu), .int (nI fo), .ref e8, .ref e9, .int (nI kn), .int (nI tl), .int (nI rn), .ref ea, .long tr, .ref eb])), (e5, .inl (G.2.2.1, 9, .inl (nF ru))), (e6, .inl (G.2.2.1, 15, .inl (nF la))), (e7, .inl (G.2.2.1, 15, .inl (nF lb))), (e8, .inl (G.2.2.1, 9, .inl (nF ne))), (ea, .inl (G.2.2.1, 512, .inl wh))]) F R0 rfl [0, 1, 2, 3, 4, 5] rfl rfl (⟨_, _, _, _, by rw [aMist, cb_0 hx, if_neg (by decide)], rfl⟩) dX8_mist_9

set_option maxHeartbeats 4000000 in
set_option maxRecDepth 100000 in
theorem c_X8_changes (G : Gm) {e0 e1 e2 e3 e4 e5 e6 e7 e8 e9 ea eb : Nat} {ln aa bg tk td rl rs rd n m be sd tu fo kn tl rn : Nat} {ru ne : Nat → Nat}  {tr : Int64} {l k : Nat} {f : Nat → Nat} (hW : Wk n ru ne f) (hsd : sd < 512) (hl : l < 9) (hk : k ≤ 1000) : Mg G yX8_changes cX8_changes 7 (some .int) ({ frames := 2, cells := 0, slots := 0, locals := 49 } : Room) 0 0 [.ref e0, .int (nI l), .int (nI k)] [(e0, .inr (8, [.ref e1, .int (nI ln), .int (nI aa), .int (nI bg), .int (nI tk), .int (nI td), .int (nI rl), .int (nI rs), .int (nI rd), .ref e2, .ref e3, .ref e4, .int (nI n), .int (nI m), .ref e5, .ref e6, .ref e7, .int (nI be), .int (nI sd), .int (nI tu), .int (nI fo), .ref e8, .ref e9, .int (nI kn), .int (nI tl), .int (nI rn), .ref ea, .long tr, .ref eb])), (e5, .inl (G.2.2.1, 9, .inl (nF ru))), (e8, .inl (G.2.2.1, 9, .inl (nF ne)))] (fun r w2 => w2 = [(e0, .inr (8, [.ref e1, .int (nI ln), .int (nI aa), .int (nI bg), .int (nI tk), .int (nI td), .int (nI rl), .int (nI rs), .int (nI rd), .ref e2, .ref e3, .ref e4, .int (nI n), .int (nI m), .ref e5, .ref e6, .ref e7, .int (nI be), .int (nI sd), .int (nI tu), .int (nI fo), .ref e8, .ref e9, .int (nI kn), .int (nI tl), .int (nI rn), .ref ea, .long tr, .ref eb])), (e5, .inl (G.2.2.1, 9, .inl (nF ru))), (e8, .inl (G.2.2.1, 9, .inl (nF ne)))] ∧ r = some (.int (nI (flk f sd k l)))) := by
  refine Mg.mk (lv := [(0, .ref e0), (1, .int (nI l)), (2, .int (nI k))]) (by decide) rfl rfl (fun X F R0 => ?_)
  refine j_aload_n (q := 1) (i0 := 0) F rfl dX8_changes_0 rfl ?_
  refine j_get (q := 4) (ci := 8) (q0 := 0) (kf := 18) (v := .int (nI sd)) F inX8 rfl rfl rfl tw_676 rfl rfl dX8_changes_1 rfl ?_
  refine j_istore_n (q := 5) (lv' := [(3, .int (nI sd)), (0, .ref e0), (1, .int (nI l)), (2, .int (nI k))]) F dX8_changes_4 (by decide) rfl rfl ?_
  refine j_iconst (q := 6) (v := nI 0) F (by decide) dX8_changes_5 rfl ?_
  refine j_istore (q := 8) (lv' := [(4, .int (nI 0)), (3, .int (nI sd)), (0, .ref e0), (1, .int (nI l)), (2, .int (nI k))]) F dX8_changes_6 (by decide) rfl rfl ?_
  refine j_iconst (q := 9) (v := nI 0) F (by decide) dX8_changes_8 rfl ?_
  refine j_istore (q := 11) (lv' := [(5, .int (nI 0)), (4, .int (nI 0)), (3, .int (nI sd)), (0, .ref e0), (1, .int (nI l)), (2, .int (nI k))]) F dX8_changes_9 (by decide) rfl rfl ?_
  have lp1 : ∀ (fu : Nat) (b : Nat) (hb : b ≤ k), (k - b) < fu → Jw G X 7 0 0 11 [(0, .ref e0), (1, .int (nI l)), (2, .int (nI k)), (3, .int (nI (it f b sd))), (4, .int (nI (flk f sd b l))), (5, .int (nI b))] [] [(e0, .inr (8, [.ref e1, .int (nI ln), .int (nI aa), .int (nI bg), .int (nI tk), .int (nI td), .int (nI rl), .int (nI rs), .int (nI rd), .ref e2, .ref e3, .ref e4, .int (nI n), .int (nI m), .ref e5, .ref e6, .ref e7, .int (nI be), .int (nI sd), .int (nI tu), .int (nI fo), .ref e8, .ref e9, .int (nI kn), .int (nI tl), .int (nI rn), .ref ea, .long tr, .ref eb])), (e5, .inl (G.2.2.1, 9, .inl (nF ru))), (e8, .inl (G.2.2.1, 9, .inl (nF ne)))] := by
    intro fu
    induction fu with
    | zero => intro b hb hfu; exact absurd hfu (Nat.not_lt_zero _)
    | succ fu ih1 =>
      intro b hb hfu
      have hat := it_lt hW.f5 hsd b
      have hat2 := it_lt hW.f5 hsd (b + 1)
      have hx : it f b sd ^^^ f (it f b sd) < 2 ^ 9 := Nat.xor_lt_two_pow hat hat2
      refine j_iload (q := 13) (i0 := 5) F rfl dX8_changes_11 rfl ?_
      refine j_iload_n (q := 14) (i0 := 2) F rfl dX8_changes_13 rfl ?_
      refine j_icmp_ge (q := 17) (t := 46) F (Pp := k ≤ b) (nI_leI (by omega) (by omega)) dX8_changes_14 rfl rfl (fun c2 => ?_) (fun c2 => ?_)
      · skip
        refine j_iload (q := 48) (i0 := 4) F rfl dX8_changes_46 rfl ?_
        exact j_iret (w2 := [(e0, .inr (8, [.ref e1, .int (nI ln), .int (nI aa), .int (nI bg), .int (nI tk), .int (nI td), .int (nI rl), .int (nI rs), .int (nI rd), .ref e2, .ref e3, .ref e4, .int (nI n), .int (nI m), .ref e5, .ref e6, .ref e7, .int (nI be), .int (nI sd), .int (nI tu), .int (nI fo), .ref e8, .ref e9, .int (nI kn), .int (nI tl), .int (nI rn), .ref ea, .long tr, .ref eb])), (e5, .inl (G.2.2.1, 9, .inl (nF ru))), (e8, .inl (G.2.2.1, 9, .inl (nF ne)))]) F R0 rfl [0, 1, 2] rfl rfl (by rw [show k = b by omega]; exact ⟨rfl, rfl⟩) dX8_changes_48
      · skip
        refine j_aload_n (q := 18) (i0 := 0) F rfl dX8_changes_17 rfl ?_
        refine j_iload_n (q := 19) (i0 := 3) F rfl dX8_changes_18 rfl ?_
        refine j_callV (q := 22) (ci := 8) (q0 := 0) (As := [.int (nI (it f b sd))]) (wr := []) (st := []) F (c_X8_rings G hW (s := it f b sd) (hat)) kwX8_rings tw_830 tw_31 tw_828 ⟨Nat.le_of_ble_eq_true rfl, Nat.le_of_ble_eq_true rfl, rfl, rfl, Nat.le_of_ble_eq_true rfl, Nat.le_of_ble_eq_true rfl⟩ [0, 1, 2] [] rfl rfl rfl rfl rfl rfl rfl rfl rfl (Nat.le_of_ble_eq_true rfl) dX8_changes_19 rfl ?_
        rintro r_ w_ ⟨rfl, rfl⟩
        refine j_w (w' := [(e0, .inr (8, [.ref e1, .int (nI ln), .int (nI aa), .int (nI bg), .int (nI tk), .int (nI td), .int (nI rl), .int (nI rs), .int (nI rd), .ref e2, .ref e3, .ref e4, .int (nI n), .int (nI m), .ref e5, .ref e6, .ref e7, .int (nI be), .int (nI sd), .int (nI tu), .int (nI fo), .ref e8, .ref e9, .int (nI kn), .int (nI tl), .int (nI rn), .ref ea, .long tr, .ref eb])), (e5, .inl (G.2.2.1, 9, .inl (nF ru))), (e8, .inl (G.2.2.1, 9, .inl (nF ne)))]) [0, 1, 2] rfl rfl ?_
        show Jw G X _ 0 0 22 _ [.int (nI (f (it f b sd)))] _
        refine j_istore (q := 24) (lv' := [(6, .int (nI (f (it f b sd)))), (0, .ref e0), (1, .int (nI l)), (2, .int (nI k)), (3, .int (nI (it f b sd))), (4, .int (nI (flk f sd b l))), (5, .int (nI b))]) F dX8_changes_22 (by decide) rfl rfl ?_
        refine j_iload (q := 26) (i0 := 5) F rfl dX8_changes_24 rfl ?_
        refine j_iload_n (q := 27) (i0 := 4) F rfl dX8_changes_26 rfl ?_
        refine j_iload (q := 29) (i0 := 0) F rfl dX8_changes_27 rfl ?_
        refine j_ixor (q := 30) (v := nI ((it f b sd) ^^^ (f (it f b sd)))) F (nx_xor _ _) dX8_changes_29 rfl ?_
        refine j_iload_n (q := 31) (i0 := 2) F rfl dX8_changes_30 rfl ?_
        refine j_ishr (q := 32) (v := nI (((it f b sd) ^^^ (f (it f b sd))) >>> l)) F (nx_shr (by omega) (by omega)) dX8_changes_31 rfl ?_
        refine j_iconst (q := 33) (v := nI 1) F (by decide) dX8_changes_32 rfl ?_
        refine j_iand (q := 34) (v := nI (bitN ((it f b sd) ^^^ (f (it f b sd))) l)) F (nx_and _ _) dX8_changes_33 rfl ?_
        refine j_iadd (q := 35) (v := nI ((flk f sd b l) + (bitN ((it f b sd) ^^^ (f (it f b sd))) l))) F (nI_add _ _) dX8_changes_34 rfl ?_
        refine j_istore (q := 37) (lv' := [(4, .int (nI ((flk f sd b l) + (bitN ((it f b sd) ^^^ (f (it f b sd))) l)))), (6, .int (nI (f (it f b sd)))), (0, .ref e0), (1, .int (nI l)), (2, .int (nI k)), (3, .int (nI (it f b sd))), (5, .int (nI b))]) F dX8_changes_35 (by decide) rfl rfl ?_
        refine j_iload (q := 39) (i0 := 1) F rfl dX8_changes_37 rfl ?_
        refine j_istore_n (q := 40) (lv' := [(3, .int (nI (f (it f b sd)))), (4, .int (nI ((flk f sd b l) + (bitN ((it f b sd) ^^^ (f (it f b sd))) l)))), (6, .int (nI (f (it f b sd)))), (0, .ref e0), (1, .int (nI l)), (2, .int (nI k)), (5, .int (nI b))]) F dX8_changes_39 (by decide) rfl rfl ?_
        refine j_iinc (q := 43) (i0 := 6) (v := nI (b + 1)) (lv' := [(5, .int (nI (b + 1))), (3, .int (nI (f (it f b sd)))), (4, .int (nI ((flk f sd b l) + (bitN ((it f b sd) ^^^ (f (it f b sd))) l)))), (6, .int (nI (f (it f b sd)))), (0, .ref e0), (1, .int (nI l)), (2, .int (nI k))]) F dX8_changes_40 rfl (nI_add _ _) (by decide) rfl rfl ?_
        refine j_goto (t := 11) F dX8_changes_43 rfl ?_
        refine j_lv [4, 5, 6, 1, 2, 0] (lv' := [(0, .ref e0), (1, .int (nI l)), (2, .int (nI k)), (3, .int (nI (f (it f b sd)))), (4, .int (nI ((flk f sd b l) + (bitN ((it f b sd) ^^^ (f (it f b sd))) l)))), (5, .int (nI (b + 1)))]) rfl ?_
        exact ih1 (b + 1) (by omega) (by omega)
  refine j_lv [3, 4, 5, 2, 1, 0] (lv' := [(0, .ref e0), (1, .int (nI l)), (2, .int (nI k)), (3, .int (nI sd)), (4, .int (nI 0)), (5, .int (nI 0))]) rfl ?_
  exact lp1 _ 0 (Nat.zero_le _) (Nat.lt_succ_self _)

set_option maxHeartbeats 4000000 in
set_option maxRecDepth 100000 in
theorem c_X8_flickers (G : Gm) {e0 e1 e2 e3 e4 e5 e6 e7 e8 e9 ea eb : Nat} {ln aa bg tk td rl rs rd n m be sd tu fo kn tl rn : Nat} {ru la lb ne pa : Nat → Nat} {wh : Nat → Int32} {tr : Int64} {x y : Int32} (hT : Tok n m ru la lb) (hP : PrOk n m (be, sd, tu, fo, kn, pa)) : Mg G yX8_flickers cX8_flickers 7 (some .int) ({ frames := 3, cells := 0, slots := 0, locals := 75 } : Room) 0 0 [.ref e0, .int x, .int y] [(e0, .inr (8, [.ref e1, .int (nI ln), .int (nI aa), .int (nI bg), .int (nI tk), .int (nI td), .int (nI rl), .int (nI rs), .int (nI rd), .ref e2, .ref e3, .ref e4, .int (nI n), .int (nI m), .ref e5, .ref e6, .ref e7, .int (nI be), .int (nI sd), .int (nI tu), .int (nI fo), .ref e8, .ref e9, .int (nI kn), .int (nI tl), .int (nI rn), .ref ea, .long tr, .ref eb])), (e5, .inl (G.2.2.1, 9, .inl (nF ru))), (e6, .inl (G.2.2.1, 15, .inl (nF la))), (e7, .inl (G.2.2.1, 15, .inl (nF lb))), (e8, .inl (G.2.2.1, 9, .inl (nF ne))), (ea, .inl (G.2.2.1, 512, .inl wh))] (fun r w2 => ∃ ne2 wh2 tl2 rn2, r = some (.int (aFlick n (Fw n m ru la lb fo) sd x y)) ∧ w2 = [(e0, .inr (8, [.ref e1, .int (nI ln), .int (nI aa), .int (nI bg), .int (nI tk), .int (nI td), .int (nI rl), .int (nI rs), .int (nI rd), .ref e2, .ref e3, .ref e4, .int (nI n), .int (nI m), .ref e5, .ref e6, .ref e7, .int (nI be), .int (nI sd), .int (nI tu), .int (nI fo), .ref e8, .ref e9, .int (nI kn), .int (nI tl2), .int (nI rn2), .ref ea, .long tr, .ref eb])), (e5, .inl (G.2.2.1, 9, .inl (nF ru))), (e6, .inl (G.2.2.1, 15, .inl (nF la))), (e7, .inl (G.2.2.1, 15, .inl (nF lb))), (e8, .inl (G.2.2.1, 9, .inl (nF ne2))), (ea, .inl (G.2.2.1, 512, .inl wh2))]) := by
  have hn := hT.1
  have hm := hT.2.1
  have h9 := p9 hn
  have h15 := p15 hm
  have hsd : sd < 512 := by have := hP.2.1; dsimp only at this; omega
  have hfo : fo < 32768 := by have := hP.2.2.2.1; dsimp only at this; omega
  refine Mg.mk (lv := [(0, .ref e0), (1, .int x), (2, .int y)]) (by decide) rfl rfl (fun X F R0 => ?_)
  refine j_iload_n (q := 1) (i0 := 1) F rfl dX8_flickers_0 rfl ?_
  refine j_iconst (q := 2) (v := (-1)) F (by decide) dX8_flickers_1 rfl ?_
  refine j_icmp_eq (q := 5) (t := 13) F (Pp := x = -1) (Iff.rfl) dX8_flickers_2 rfl rfl (fun cx => ?_) (fun cx => ?_)
  · skip
    refine j_iload_n (q := 14) (i0 := 2) F rfl dX8_flickers_13 rfl ?_
    refine j_i2l (q := 15) (v := Int32.toInt64 y) F rfl dX8_flickers_14 rfl ?_
    refine j_lconst (q := 16) (v := 0) F (by decide) dX8_flickers_15 rfl ?_
    refine j_ldc2 (q := 19) F tw_885 dX8_flickers_16 rfl ?_
    refine j_callS (q := 22) (As := [.long (Int32.toInt64 y), .long 0, .long 60]) (wr := [(e0, .inr (8, [.ref e1, .int (nI ln), .int (nI aa), .int (nI bg), .int (nI tk), .int (nI td), .int (nI rl), .int (nI rs), .int (nI rd), .ref e2, .ref e3, .ref e4, .int (nI n), .int (nI m), .ref e5, .ref e6, .ref e7, .int (nI be), .int (nI sd), .int (nI tu), .int (nI fo), .ref e8, .ref e9, .int (nI kn), .int (nI tl), .int (nI rn), .ref ea, .long tr, .ref eb])), (e5, .inl (G.2.2.1, 9, .inl (nF ru))), (e6, .inl (G.2.2.1, 15, .inl (nF la))), (e7, .inl (G.2.2.1, 15, .inl (nF lb))), (e8, .inl (G.2.2.1, 9, .inl (nF ne))), (ea, .inl (G.2.2.1, 512, .inl wh))]) (st := []) F (c_inR G (x := y) (n := 61) rfl (by decide) (rfl)) kwX8_in tw_752 tw_751 ⟨Nat.le_of_ble_eq_true rfl, Nat.le_of_ble_eq_true rfl, rfl, rfl, Nat.le_of_ble_eq_true rfl, Nat.le_of_ble_eq_true rfl⟩ [] [0, 1, 2, 3, 4, 5] rfl rfl rfl rfl rfl rfl rfl (Nat.le_of_ble_eq_true rfl) dX8_flickers_19 rfl ?_
    rintro r_ w_ ⟨rfl, (⟨rfl, hy⟩ | ⟨rfl, hy⟩)⟩
    · skip
      refine j_w (w' := [(e0, .inr (8, [.ref e1, .int (nI ln), .int (nI aa), .int (nI bg), .int (nI tk), .int (nI td), .int (nI rl), .int (nI rs), .int (nI rd), .ref e2, .ref e3, .ref e4, .int (nI n), .int (nI m), .ref e5, .ref e6, .ref e7, .int (nI be), .int (nI sd), .int (nI tu), .int (nI fo), .ref e8, .ref e9, .int (nI kn), .int (nI tl), .int (nI rn), .ref ea, .long tr, .ref eb])), (e5, .inl (G.2.2.1, 9, .inl (nF ru))), (e6, .inl (G.2.2.1, 15, .inl (nF la))), (e7, .inl (G.2.2.1, 15, .inl (nF lb))), (e8, .inl (G.2.2.1, 9, .inl (nF ne))), (ea, .inl (G.2.2.1, 512, .inl wh))]) [0, 1, 2, 3, 4, 5] rfl rfl ?_
      show Jw G X _ 0 0 22 _ [.int (nI 1)] _
      refine j_if_ne (q := 25) (t := 27) F (cf (by decide)) dX8_flickers_22 rfl rfl (fun _ => ?_) (fun z => False.elim z)
      have hc2 := cb_1 hy
      obtain ⟨i, hi, rfl⟩ := hy
      refine j_aload_n (q := 28) (i0 := 0) F rfl dX8_flickers_27 rfl ?_
      refine j_aload_n (q := 29) (i0 := 0) F rfl dX8_flickers_28 rfl ?_
      refine j_get (q := 32) (ci := 8) (q0 := 0) (kf := 20) (v := .int (nI fo)) F inX8 rfl rfl rfl tw_678 rfl rfl dX8_flickers_29 rfl ?_
      refine j_callV (q := 35) (ci := 8) (q0 := 0) (As := [.int (nI fo)]) (wr := [(e5, .inl (G.2.2.1, 9, .inl (nF ru))), (ea, .inl (G.2.2.1, 512, .inl wh))]) (st := []) F (c_X8_looks G (wo := fo) hT (hfo)) kwX8_looks tw_826 tw_30 tw_824 ⟨Nat.le_of_ble_eq_true rfl, Nat.le_of_ble_eq_true rfl, rfl, rfl, Nat.le_of_ble_eq_true rfl, Nat.le_of_ble_eq_true rfl⟩ [0, 2, 3, 4] [1, 5] rfl rfl rfl rfl rfl rfl rfl rfl rfl (Nat.le_of_ble_eq_true rfl) dX8_flickers_32 rfl ?_
      rintro r_ w_ ⟨ne2, hne2, rfl, rfl⟩
      refine j_w (w' := [(e0, .inr (8, [.ref e1, .int (nI ln), .int (nI aa), .int (nI bg), .int (nI tk), .int (nI td), .int (nI rl), .int (nI rs), .int (nI rd), .ref e2, .ref e3, .ref e4, .int (nI n), .int (nI m), .ref e5, .ref e6, .ref e7, .int (nI be), .int (nI sd), .int (nI tu), .int (nI fo), .ref e8, .ref e9, .int (nI kn), .int (nI tl), .int (nI rn), .ref ea, .long tr, .ref eb])), (e5, .inl (G.2.2.1, 9, .inl (nF ru))), (e6, .inl (G.2.2.1, 15, .inl (nF la))), (e7, .inl (G.2.2.1, 15, .inl (nF lb))), (e8, .inl (G.2.2.1, 9, .inl (nF ne2))), (ea, .inl (G.2.2.1, 512, .inl wh))]) [2, 0, 3, 4, 5, 1] rfl rfl ?_
      show Jw G X _ 0 0 35 _ [] _
      have hW := Wk.of hT hne2
      refine j_iload_n (q := 36) (i0 := 1) F rfl dX8_flickers_35 rfl ?_
      refine j_if_lt (q := 39) (t := 46) F (Pp := True) (ct (by rw [cx]; decide)) dX8_flickers_36 rfl rfl (fun c3 => ?_) (fun c3 => ?_)
      · skip
        refine j_bipush (q := 48) (v := (-9)) F (by decide) dX8_flickers_46 rfl ?_
        refine j_istore_n (q := 49) (lv' := [(3, .int (-9)), (0, .ref e0), (1, .int x), (2, .int (nI i))]) F dX8_flickers_48 (by decide) rfl rfl ?_
        refine j_iconst (q := 50) (v := (-1)) F (by decide) dX8_flickers_49 rfl ?_
        refine j_istore (q := 52) (lv' := [(4, .int (-1)), (3, .int (-9)), (0, .ref e0), (1, .int x), (2, .int (nI i))]) F dX8_flickers_50 (by decide) rfl rfl ?_
        refine j_iconst (q := 53) (v := nI 0) F (by decide) dX8_flickers_52 rfl ?_
        refine j_istore (q := 55) (lv' := [(5, .int (nI 0)), (4, .int (-1)), (3, .int (-9)), (0, .ref e0), (1, .int x), (2, .int (nI i))]) F dX8_flickers_53 (by decide) rfl rfl ?_
        have lp4 : ∀ (fu : Nat) (l : Nat) (hl : l ≤ n), (n - l) < fu → Jw G X 7 0 0 55 [(0, .ref e0), (1, .int x), (2, .int (nI i)), (3, .int (mfl (flk (Fw n m ru la lb fo) sd i) l)), (4, .int (mxv (flk (Fw n m ru la lb fo) sd i) l)), (5, .int (nI l))] [] [(e0, .inr (8, [.ref e1, .int (nI ln), .int (nI aa), .int (nI bg), .int (nI tk), .int (nI td), .int (nI rl), .int (nI rs), .int (nI rd), .ref e2, .ref e3, .ref e4, .int (nI n), .int (nI m), .ref e5, .ref e6, .ref e7, .int (nI be), .int (nI sd), .int (nI tu), .int (nI fo), .ref e8, .ref e9, .int (nI kn), .int (nI tl), .int (nI rn), .ref ea, .long tr, .ref eb])), (e5, .inl (G.2.2.1, 9, .inl (nF ru))), (e6, .inl (G.2.2.1, 15, .inl (nF la))), (e7, .inl (G.2.2.1, 15, .inl (nF lb))), (e8, .inl (G.2.2.1, 9, .inl (nF ne2))), (ea, .inl (G.2.2.1, 512, .inl wh))] := by
          intro fu
          induction fu with
          | zero => intro l hl hfu; exact absurd hfu (Nat.not_lt_zero _)
          | succ fu ih4 =>
            intro l hl hfu
            refine j_iload (q := 57) (i0 := 5) F rfl dX8_flickers_55 rfl ?_
            refine j_aload_n (q := 58) (i0 := 0) F rfl dX8_flickers_57 rfl ?_
            refine j_get (q := 61) (ci := 8) (q0 := 0) (kf := 12) (v := .int (nI n)) F inX8 rfl rfl rfl tw_670 rfl rfl dX8_flickers_58 rfl ?_
            refine j_icmp_ge (q := 64) (t := 109) F (Pp := n ≤ l) (nI_leI (by omega) (by omega)) dX8_flickers_61 rfl rfl (fun c5 => ?_) (fun c5 => ?_)
            · skip
              refine j_iload_n (q := 110) (i0 := 3) F rfl dX8_flickers_109 rfl ?_
              exact j_iret (w2 := [(e0, .inr (8, [.ref e1, .int (nI ln), .int (nI aa), .int (nI bg), .int (nI tk), .int (nI td), .int (nI rl), .int (nI rs), .int (nI rd), .ref e2, .ref e3, .ref e4, .int (nI n), .int (nI m), .ref e5, .ref e6, .ref e7, .int (nI be), .int (nI sd), .int (nI tu), .int (nI fo), .ref e8, .ref e9, .int (nI kn), .int (nI tl), .int (nI rn), .ref ea, .long tr, .ref eb])), (e5, .inl (G.2.2.1, 9, .inl (nF ru))), (e6, .inl (G.2.2.1, 15, .inl (nF la))), (e7, .inl (G.2.2.1, 15, .inl (nF lb))), (e8, .inl (G.2.2.1, 9, .inl (nF ne2))), (ea, .inl (G.2.2.1, 512, .inl wh))]) F R0 rfl [0, 1, 2, 3, 4, 5] rfl rfl (⟨_, _, _, _, by rw [aFlick, if_pos ⟨Or.inl cx, hc2⟩, if_pos cx, nI_clamp (by omega), show l = n by omega], rfl⟩) dX8_flickers_110
            · skip
              refine j_aload_n (q := 65) (i0 := 0) F rfl dX8_flickers_64 rfl ?_
              refine j_iload (q := 67) (i0 := 5) F rfl dX8_flickers_65 rfl ?_
              refine j_iload_n (q := 68) (i0 := 2) F rfl dX8_flickers_67 rfl ?_
              refine j_callV (q := 71) (ci := 8) (q0 := 0) (As := [.int (nI l), .int (nI i)]) (wr := [(e6, .inl (G.2.2.1, 15, .inl (nF la))), (e7, .inl (G.2.2.1, 15, .inl (nF lb))), (ea, .inl (G.2.2.1, 512, .inl wh))]) (st := []) F (c_X8_changes G hW (l := l) (k := i) hsd (by omega) (by omega)) kwX8_changes tw_912 tw_36 tw_910 ⟨Nat.le_of_ble_eq_true rfl, Nat.le_of_ble_eq_true rfl, rfl, rfl, Nat.le_of_ble_eq_true rfl, Nat.le_of_ble_eq_true rfl⟩ [0, 1, 4] [2, 3, 5] rfl rfl rfl rfl rfl rfl rfl rfl rfl (Nat.le_of_ble_eq_true rfl) dX8_flickers_68 rfl ?_
              rintro r_ w_ ⟨rfl, rfl⟩
              refine j_w (w' := [(e0, .inr (8, [.ref e1, .int (nI ln), .int (nI aa), .int (nI bg), .int (nI tk), .int (nI td), .int (nI rl), .int (nI rs), .int (nI rd), .ref e2, .ref e3, .ref e4, .int (nI n), .int (nI m), .ref e5, .ref e6, .ref e7, .int (nI be), .int (nI sd), .int (nI tu), .int (nI fo), .ref e8, .ref e9, .int (nI kn), .int (nI tl), .int (nI rn), .ref ea, .long tr, .ref eb])), (e5, .inl (G.2.2.1, 9, .inl (nF ru))), (e6, .inl (G.2.2.1, 15, .inl (nF la))), (e7, .inl (G.2.2.1, 15, .inl (nF lb))), (e8, .inl (G.2.2.1, 9, .inl (nF ne2))), (ea, .inl (G.2.2.1, 512, .inl wh))]) [3, 4, 0, 1, 5, 2] rfl rfl ?_
              show Jw G X _ 0 0 71 _ [.int (nI (flk (Fw n m ru la lb fo) sd i l))] _
              have hg1 := flk_le (Fw n m ru la lb fo) sd l i
              have hg2 := flk_le (Fw n m ru la lb fo) sd (amx (flk (Fw n m ru la lb fo) sd i) l) i
              refine j_istore (q := 73) (lv' := [(6, .int (nI (flk (Fw n m ru la lb fo) sd i l))), (0, .ref e0), (1, .int x), (2, .int (nI i)), (3, .int (mfl (flk (Fw n m ru la lb fo) sd i) l)), (4, .int (mxv (flk (Fw n m ru la lb fo) sd i) l)), (5, .int (nI l))]) F dX8_flickers_71 (by decide) rfl rfl ?_
              refine j_iload (q := 75) (i0 := 0) F rfl dX8_flickers_73 rfl ?_
              refine j_iload (q := 77) (i0 := 5) F rfl dX8_flickers_75 rfl ?_
              refine j_icmp_le (q := 80) (t := 85) F (Pp := ¬ (l = 0 ∨ (flk (Fw n m ru la lb fo) sd i) (amx (flk (Fw n m ru la lb fo) sd i) l) < (flk (Fw n m ru la lb fo) sd i) l)) (mxv_le (g := (flk (Fw n m ru la lb fo) sd i)) (by omega) (by omega)) dX8_flickers_77 rfl rfl (fun cg => ?_) (fun cg => ?_)
              · skip
                refine j_iload_n (q := 86) (i0 := 4) F rfl dX8_flickers_85 rfl ?_
                refine j_istore_n (q := 87) (lv' := [(3, .int (mfl (flk (Fw n m ru la lb fo) sd i) l)), (6, .int (nI (flk (Fw n m ru la lb fo) sd i l))), (0, .ref e0), (1, .int x), (2, .int (nI i)), (4, .int (mxv (flk (Fw n m ru la lb fo) sd i) l)), (5, .int (nI l))]) F dX8_flickers_86 (by decide) rfl rfl ?_
                refine j_iload (q := 89) (i0 := 1) F rfl dX8_flickers_87 rfl ?_
                refine j_iload (q := 91) (i0 := 5) F rfl dX8_flickers_89 rfl ?_
                refine j_icmp_le (q := 94) (t := 99) F (Pp := ¬ (l = 0 ∨ (flk (Fw n m ru la lb fo) sd i) (amx (flk (Fw n m ru la lb fo) sd i) l) < (flk (Fw n m ru la lb fo) sd i) l)) (mxv_le (g := (flk (Fw n m ru la lb fo) sd i)) (by omega) (by omega)) dX8_flickers_91 rfl rfl (fun cg3 => ?_) (fun cg3 => ?_)
                · have cg2 := cg
                  refine j_iload (q := 101) (i0 := 5) F rfl dX8_flickers_99 rfl ?_
                  refine j_istore (q := 103) (lv' := [(4, .int (mxv (flk (Fw n m ru la lb fo) sd i) l)), (3, .int (mfl (flk (Fw n m ru la lb fo) sd i) l)), (6, .int (nI (flk (Fw n m ru la lb fo) sd i l))), (0, .ref e0), (1, .int x), (2, .int (nI i)), (5, .int (nI l))]) F dX8_flickers_101 (by decide) rfl rfl ?_
                  refine j_iinc (q := 106) (i0 := 6) (v := nI (l + 1)) (lv' := [(5, .int (nI (l + 1))), (4, .int (mxv (flk (Fw n m ru la lb fo) sd i) l)), (3, .int (mfl (flk (Fw n m ru la lb fo) sd i) l)), (6, .int (nI (flk (Fw n m ru la lb fo) sd i l))), (0, .ref e0), (1, .int x), (2, .int (nI i))]) F dX8_flickers_103 rfl (nI_add _ _) (by decide) rfl rfl ?_
                  refine j_goto (t := 55) F dX8_flickers_106 rfl ?_
                  refine j_lve (lv' := [(5, .int (nI (l + 1))), (4, .int (mxv (flk (Fw n m ru la lb fo) sd i) (l + 1))), (3, .int (mfl (flk (Fw n m ru la lb fo) sd i) (l + 1))), (6, .int (nI (flk (Fw n m ru la lb fo) sd i l))), (0, .ref e0), (1, .int x), (2, .int (nI i))]) (by rw [← (mxv_st cg2).1, ← (mxv_st cg2).2]) ?_
                  refine j_lv [4, 5, 6, 2, 1, 0] (lv' := [(0, .ref e0), (1, .int x), (2, .int (nI i)), (3, .int (mfl (flk (Fw n m ru la lb fo) sd i) (l + 1))), (4, .int (mxv (flk (Fw n m ru la lb fo) sd i) (l + 1))), (5, .int (nI (l + 1)))]) rfl ?_
                  exact ih4 (l + 1) (by omega) (by omega)
                · exact absurd cg cg3
              · skip
                refine j_iload (q := 82) (i0 := 6) F rfl dX8_flickers_80 rfl ?_
                refine j_goto (t := 86) F dX8_flickers_82 rfl ?_
                refine j_istore_n (q := 87) (lv' := [(3, .int (nI l)), (6, .int (nI (flk (Fw n m ru la lb fo) sd i l))), (0, .ref e0), (1, .int x), (2, .int (nI i)), (4, .int (mxv (flk (Fw n m ru la lb fo) sd i) l)), (5, .int (nI l))]) F dX8_flickers_86 (by decide) rfl rfl ?_
                refine j_iload (q := 89) (i0 := 1) F rfl dX8_flickers_87 rfl ?_
                refine j_iload (q := 91) (i0 := 5) F rfl dX8_flickers_89 rfl ?_
                refine j_icmp_le (q := 94) (t := 99) F (Pp := ¬ (l = 0 ∨ (flk (Fw n m ru la lb fo) sd i) (amx (flk (Fw n m ru la lb fo) sd i) l) < (flk (Fw n m ru la lb fo) sd i) l)) (mxv_le (g := (flk (Fw n m ru la lb fo) sd i)) (by omega) (by omega)) dX8_flickers_91 rfl rfl (fun cg3 => ?_) (fun cg3 => ?_)
                · exact absurd cg3 cg
                · have cg2 := Classical.not_not.mp cg
                  refine j_iload (q := 96) (i0 := 1) F rfl dX8_flickers_94 rfl ?_
                  refine j_goto (t := 101) F dX8_flickers_96 rfl ?_
                  refine j_istore (q := 103) (lv' := [(4, .int (nI (flk (Fw n m ru la lb fo) sd i l))), (3, .int (nI l)), (6, .int (nI (flk (Fw n m ru la lb fo) sd i l))), (0, .ref e0), (1, .int x), (2, .int (nI i)), (5, .int (nI l))]) F dX8_flickers_101 (by decide) rfl rfl ?_
                  refine j_iinc (q := 106) (i0 := 6) (v := nI (l + 1)) (lv' := [(5, .int (nI (l + 1))), (4, .int (nI (flk (Fw n m ru la lb fo) sd i l))), (3, .int (nI l)), (6, .int (nI (flk (Fw n m ru la lb fo) sd i l))), (0, .ref e0), (1, .int x), (2, .int (nI i))]) F dX8_flickers_103 rfl (nI_add _ _) (by decide) rfl rfl ?_
                  refine j_goto (t := 55) F dX8_flickers_106 rfl ?_
                  refine j_lve (lv' := [(5, .int (nI (l + 1))), (4, .int (mxv (flk (Fw n m ru la lb fo) sd i) (l + 1))), (3, .int (mfl (flk (Fw n m ru la lb fo) sd i) (l + 1))), (6, .int (nI (flk (Fw n m ru la lb fo) sd i l))), (0, .ref e0), (1, .int x), (2, .int (nI i))]) (by rw [← (mxv_up cg2).1, ← (mxv_up cg2).2]) ?_
                  refine j_lv [4, 5, 6, 2, 1, 0] (lv' := [(0, .ref e0), (1, .int x), (2, .int (nI i)), (3, .int (mfl (flk (Fw n m ru la lb fo) sd i) (l + 1))), (4, .int (mxv (flk (Fw n m ru la lb fo) sd i) (l + 1))), (5, .int (nI (l + 1)))]) rfl ?_
                  exact ih4 (l + 1) (by omega) (by omega)
        refine j_lv [3, 4, 5, 2, 1, 0] (lv' := [(0, .ref e0), (1, .int x), (2, .int (nI i)), (3, .int (-9)), (4, .int (-1)), (5, .int (nI 0))]) rfl ?_
        exact lp4 _ 0 (Nat.zero_le _) (Nat.lt_succ_self _)
      · exact absurd trivial c3
    · skip
      refine j_w (w' := [(e0, .inr (8, [.ref e1, .int (nI ln), .int (nI aa), .int (nI bg), .int (nI tk), .int (nI td), .int (nI rl), .int (nI rs), .int (nI rd), .ref e2, .ref e3, .ref e4, .int (nI n), .int (nI m), .ref e5, .ref e6, .ref e7, .int (nI be), .int (nI sd), .int (nI tu), .int (nI fo), .ref e8, .ref e9, .int (nI kn), .int (nI tl), .int (nI rn), .ref ea, .long tr, .ref eb])), (e5, .inl (G.2.2.1, 9, .inl (nF ru))), (e6, .inl (G.2.2.1, 15, .inl (nF la))), (e7, .inl (G.2.2.1, 15, .inl (nF lb))), (e8, .inl (G.2.2.1, 9, .inl (nF ne))), (ea, .inl (G.2.2.1, 512, .inl wh))]) [0, 1, 2, 3, 4, 5] rfl rfl ?_
      show Jw G X _ 0 0 22 _ [.int (nI 0)] _
      refine j_if_ne (q := 25) (t := 27) F (ct (by decide)) dX8_flickers_22 rfl rfl (fun z => absurd trivial z) (fun _ => ?_)
      refine j_iconst (q := 26) (v := (-1)) F (by decide) dX8_flickers_25 rfl ?_
      exact j_iret (w2 := [(e0, .inr (8, [.ref e1, .int (nI ln), .int (nI aa), .int (nI bg), .int (nI tk), .int (nI td), .int (nI rl), .int (nI rs), .int (nI rd), .ref e2, .ref e3, .ref e4, .int (nI n), .int (nI m), .ref e5, .ref e6, .ref e7, .int (nI be), .int (nI sd), .int (nI tu), .int (nI fo), .ref e8, .ref e9, .int (nI kn), .int (nI tl), .int (nI rn), .ref ea, .long tr, .ref eb])), (e5, .inl (G.2.2.1, 9, .inl (nF ru))), (e6, .inl (G.2.2.1, 15, .inl (nF la))), (e7, .inl (G.2.2.1, 15, .inl (nF lb))), (e8, .inl (G.2.2.1, 9, .inl (nF ne))), (ea, .inl (G.2.2.1, 512, .inl wh))]) F R0 rfl [0, 1, 2, 3, 4, 5] rfl rfl (⟨_, _, _, _, by rw [aFlick, cb_0 hy, if_neg (fun z => absurd z.2 (by decide))], rfl⟩) dX8_flickers_26
  · skip
    refine j_aload_n (q := 6) (i0 := 0) F rfl dX8_flickers_5 rfl ?_
    refine j_iload_n (q := 7) (i0 := 1) F rfl dX8_flickers_6 rfl ?_
    refine j_callV (q := 10) (ci := 8) (q0 := 0) (As := [.int x]) (wr := [(e5, .inl (G.2.2.1, 9, .inl (nF ru))), (e6, .inl (G.2.2.1, 15, .inl (nF la))), (e7, .inl (G.2.2.1, 15, .inl (nF lb))), (e8, .inl (G.2.2.1, 9, .inl (nF ne))), (ea, .inl (G.2.2.1, 512, .inl wh))]) (st := []) F (c_X8_isLamp G (x := x) hn) kwX8_isLamp tw_802 tw_27 tw_800 ⟨Nat.le_of_ble_eq_true rfl, Nat.le_of_ble_eq_true rfl, rfl, rfl, Nat.le_of_ble_eq_true rfl, Nat.le_of_ble_eq_true rfl⟩ [0] [1, 2, 3, 4, 5] rfl rfl rfl rfl rfl rfl rfl rfl rfl (Nat.le_of_ble_eq_true rfl) dX8_flickers_7 rfl ?_
    rintro r_ w_ ⟨rfl, (⟨rfl, hx⟩ | ⟨rfl, hx⟩)⟩
    · skip
      refine j_w (w' := [(e0, .inr (8, [.ref e1, .int (nI ln), .int (nI aa), .int (nI bg), .int (nI tk), .int (nI td), .int (nI rl), .int (nI rs), .int (nI rd), .ref e2, .ref e3, .ref e4, .int (nI n), .int (nI m), .ref e5, .ref e6, .ref e7, .int (nI be), .int (nI sd), .int (nI tu), .int (nI fo), .ref e8, .ref e9, .int (nI kn), .int (nI tl), .int (nI rn), .ref ea, .long tr, .ref eb])), (e5, .inl (G.2.2.1, 9, .inl (nF ru))), (e6, .inl (G.2.2.1, 15, .inl (nF la))), (e7, .inl (G.2.2.1, 15, .inl (nF lb))), (e8, .inl (G.2.2.1, 9, .inl (nF ne))), (ea, .inl (G.2.2.1, 512, .inl wh))]) [5, 0, 1, 2, 3, 4] rfl rfl ?_
      show Jw G X _ 0 0 10 _ [.int (nI 1)] _
      refine j_if_eq (q := 13) (t := 25) F (cf (by decide)) dX8_flickers_10 rfl rfl (fun z => False.elim z) (fun _ => ?_)
      refine j_iload_n (q := 14) (i0 := 2) F rfl dX8_flickers_13 rfl ?_
      refine j_i2l (q := 15) (v := Int32.toInt64 y) F rfl dX8_flickers_14 rfl ?_
      refine j_lconst (q := 16) (v := 0) F (by decide) dX8_flickers_15 rfl ?_
      refine j_ldc2 (q := 19) F tw_885 dX8_flickers_16 rfl ?_
      refine j_callS (q := 22) (As := [.long (Int32.toInt64 y), .long 0, .long 60]) (wr := [(e0, .inr (8, [.ref e1, .int (nI ln), .int (nI aa), .int (nI bg), .int (nI tk), .int (nI td), .int (nI rl), .int (nI rs), .int (nI rd), .ref e2, .ref e3, .ref e4, .int (nI n), .int (nI m), .ref e5, .ref e6, .ref e7, .int (nI be), .int (nI sd), .int (nI tu), .int (nI fo), .ref e8, .ref e9, .int (nI kn), .int (nI tl), .int (nI rn), .ref ea, .long tr, .ref eb])), (e5, .inl (G.2.2.1, 9, .inl (nF ru))), (e6, .inl (G.2.2.1, 15, .inl (nF la))), (e7, .inl (G.2.2.1, 15, .inl (nF lb))), (e8, .inl (G.2.2.1, 9, .inl (nF ne))), (ea, .inl (G.2.2.1, 512, .inl wh))]) (st := []) F (c_inR G (x := y) (n := 61) rfl (by decide) (rfl)) kwX8_in tw_752 tw_751 ⟨Nat.le_of_ble_eq_true rfl, Nat.le_of_ble_eq_true rfl, rfl, rfl, Nat.le_of_ble_eq_true rfl, Nat.le_of_ble_eq_true rfl⟩ [] [0, 1, 2, 3, 4, 5] rfl rfl rfl rfl rfl rfl rfl (Nat.le_of_ble_eq_true rfl) dX8_flickers_19 rfl ?_
      rintro r_ w_ ⟨rfl, (⟨rfl, hy⟩ | ⟨rfl, hy⟩)⟩
      · skip
        refine j_w (w' := [(e0, .inr (8, [.ref e1, .int (nI ln), .int (nI aa), .int (nI bg), .int (nI tk), .int (nI td), .int (nI rl), .int (nI rs), .int (nI rd), .ref e2, .ref e3, .ref e4, .int (nI n), .int (nI m), .ref e5, .ref e6, .ref e7, .int (nI be), .int (nI sd), .int (nI tu), .int (nI fo), .ref e8, .ref e9, .int (nI kn), .int (nI tl), .int (nI rn), .ref ea, .long tr, .ref eb])), (e5, .inl (G.2.2.1, 9, .inl (nF ru))), (e6, .inl (G.2.2.1, 15, .inl (nF la))), (e7, .inl (G.2.2.1, 15, .inl (nF lb))), (e8, .inl (G.2.2.1, 9, .inl (nF ne))), (ea, .inl (G.2.2.1, 512, .inl wh))]) [0, 1, 2, 3, 4, 5] rfl rfl ?_
        show Jw G X _ 0 0 22 _ [.int (nI 1)] _
        refine j_if_ne (q := 25) (t := 27) F (cf (by decide)) dX8_flickers_22 rfl rfl (fun _ => ?_) (fun z => False.elim z)
        have hc := cb_1 hx
        obtain ⟨j, hj, rfl⟩ := hx
        have hc2 := cb_1 hy
        obtain ⟨i, hi, rfl⟩ := hy
        refine j_aload_n (q := 28) (i0 := 0) F rfl dX8_flickers_27 rfl ?_
        refine j_aload_n (q := 29) (i0 := 0) F rfl dX8_flickers_28 rfl ?_
        refine j_get (q := 32) (ci := 8) (q0 := 0) (kf := 20) (v := .int (nI fo)) F inX8 rfl rfl rfl tw_678 rfl rfl dX8_flickers_29 rfl ?_
        refine j_callV (q := 35) (ci := 8) (q0 := 0) (As := [.int (nI fo)]) (wr := [(e5, .inl (G.2.2.1, 9, .inl (nF ru))), (ea, .inl (G.2.2.1, 512, .inl wh))]) (st := []) F (c_X8_looks G (wo := fo) hT (hfo)) kwX8_looks tw_826 tw_30 tw_824 ⟨Nat.le_of_ble_eq_true rfl, Nat.le_of_ble_eq_true rfl, rfl, rfl, Nat.le_of_ble_eq_true rfl, Nat.le_of_ble_eq_true rfl⟩ [0, 2, 3, 4] [1, 5] rfl rfl rfl rfl rfl rfl rfl rfl rfl (Nat.le_of_ble_eq_true rfl) dX8_flickers_32 rfl ?_
        rintro r_ w_ ⟨ne2, hne2, rfl, rfl⟩
        refine j_w (w' := [(e0, .inr (8, [.ref e1, .int (nI ln), .int (nI aa), .int (nI bg), .int (nI tk), .int (nI td), .int (nI rl), .int (nI rs), .int (nI rd), .ref e2, .ref e3, .ref e4, .int (nI n), .int (nI m), .ref e5, .ref e6, .ref e7, .int (nI be), .int (nI sd), .int (nI tu), .int (nI fo), .ref e8, .ref e9, .int (nI kn), .int (nI tl), .int (nI rn), .ref ea, .long tr, .ref eb])), (e5, .inl (G.2.2.1, 9, .inl (nF ru))), (e6, .inl (G.2.2.1, 15, .inl (nF la))), (e7, .inl (G.2.2.1, 15, .inl (nF lb))), (e8, .inl (G.2.2.1, 9, .inl (nF ne2))), (ea, .inl (G.2.2.1, 512, .inl wh))]) [2, 0, 3, 4, 5, 1] rfl rfl ?_
        show Jw G X _ 0 0 35 _ [] _
        have hW := Wk.of hT hne2
        refine j_iload_n (q := 36) (i0 := 1) F rfl dX8_flickers_35 rfl ?_
        refine j_if_lt (q := 39) (t := 46) F (Pp := False) (cf (nI_pos (by omega))) dX8_flickers_36 rfl rfl (fun c12 => ?_) (fun c12 => ?_)
        · exact (c12).elim
        · skip
          refine j_aload_n (q := 40) (i0 := 0) F rfl dX8_flickers_39 rfl ?_
          refine j_iload_n (q := 41) (i0 := 1) F rfl dX8_flickers_40 rfl ?_
          refine j_iload_n (q := 42) (i0 := 2) F rfl dX8_flickers_41 rfl ?_
          refine j_callV (q := 45) (ci := 8) (q0 := 0) (As := [.int (nI j), .int (nI i)]) (wr := [(e6, .inl (G.2.2.1, 15, .inl (nF la))), (e7, .inl (G.2.2.1, 15, .inl (nF lb))), (ea, .inl (G.2.2.1, 512, .inl wh))]) (st := []) F (c_X8_changes G hW (l := j) (k := i) hsd (by omega) (by omega)) kwX8_changes tw_912 tw_36 tw_910 ⟨Nat.le_of_ble_eq_true rfl, Nat.le_of_ble_eq_true rfl, rfl, rfl, Nat.le_of_ble_eq_true rfl, Nat.le_of_ble_eq_true rfl⟩ [0, 1, 4] [2, 3, 5] rfl rfl rfl rfl rfl rfl rfl rfl rfl (Nat.le_of_ble_eq_true rfl) dX8_flickers_42 rfl ?_
          rintro r_ w_ ⟨rfl, rfl⟩
          refine j_w (w' := [(e0, .inr (8, [.ref e1, .int (nI ln), .int (nI aa), .int (nI bg), .int (nI tk), .int (nI td), .int (nI rl), .int (nI rs), .int (nI rd), .ref e2, .ref e3, .ref e4, .int (nI n), .int (nI m), .ref e5, .ref e6, .ref e7, .int (nI be), .int (nI sd), .int (nI tu), .int (nI fo), .ref e8, .ref e9, .int (nI kn), .int (nI tl), .int (nI rn), .ref ea, .long tr, .ref eb])), (e5, .inl (G.2.2.1, 9, .inl (nF ru))), (e6, .inl (G.2.2.1, 15, .inl (nF la))), (e7, .inl (G.2.2.1, 15, .inl (nF lb))), (e8, .inl (G.2.2.1, 9, .inl (nF ne2))), (ea, .inl (G.2.2.1, 512, .inl wh))]) [3, 4, 0, 1, 5, 2] rfl rfl ?_
          show Jw G X _ 0 0 45 _ [.int (nI (flk (Fw n m ru la lb fo) sd i j))] _
          exact j_iret (w2 := [(e0, .inr (8, [.ref e1, .int (nI ln), .int (nI aa), .int (nI bg), .int (nI tk), .int (nI td), .int (nI rl), .int (nI rs), .int (nI rd), .ref e2, .ref e3, .ref e4, .int (nI n), .int (nI m), .ref e5, .ref e6, .ref e7, .int (nI be), .int (nI sd), .int (nI tu), .int (nI fo), .ref e8, .ref e9, .int (nI kn), .int (nI tl), .int (nI rn), .ref ea, .long tr, .ref eb])), (e5, .inl (G.2.2.1, 9, .inl (nF ru))), (e6, .inl (G.2.2.1, 15, .inl (nF la))), (e7, .inl (G.2.2.1, 15, .inl (nF lb))), (e8, .inl (G.2.2.1, 9, .inl (nF ne2))), (ea, .inl (G.2.2.1, 512, .inl wh))]) F R0 rfl [0, 1, 2, 3, 4, 5] rfl rfl (⟨_, _, _, _, by rw [aFlick, if_pos ⟨Or.inr hc, hc2⟩, if_neg (nI_m1 (by omega)), nI_clamp (by omega), nI_clamp (by omega)], rfl⟩) dX8_flickers_45
      · skip
        refine j_w (w' := [(e0, .inr (8, [.ref e1, .int (nI ln), .int (nI aa), .int (nI bg), .int (nI tk), .int (nI td), .int (nI rl), .int (nI rs), .int (nI rd), .ref e2, .ref e3, .ref e4, .int (nI n), .int (nI m), .ref e5, .ref e6, .ref e7, .int (nI be), .int (nI sd), .int (nI tu), .int (nI fo), .ref e8, .ref e9, .int (nI kn), .int (nI tl), .int (nI rn), .ref ea, .long tr, .ref eb])), (e5, .inl (G.2.2.1, 9, .inl (nF ru))), (e6, .inl (G.2.2.1, 15, .inl (nF la))), (e7, .inl (G.2.2.1, 15, .inl (nF lb))), (e8, .inl (G.2.2.1, 9, .inl (nF ne))), (ea, .inl (G.2.2.1, 512, .inl wh))]) [0, 1, 2, 3, 4, 5] rfl rfl ?_
        show Jw G X _ 0 0 22 _ [.int (nI 0)] _
        refine j_if_ne (q := 25) (t := 27) F (ct (by decide)) dX8_flickers_22 rfl rfl (fun z => absurd trivial z) (fun _ => ?_)
        refine j_iconst (q := 26) (v := (-1)) F (by decide) dX8_flickers_25 rfl ?_
        exact j_iret (w2 := [(e0, .inr (8, [.ref e1, .int (nI ln), .int (nI aa), .int (nI bg), .int (nI tk), .int (nI td), .int (nI rl), .int (nI rs), .int (nI rd), .ref e2, .ref e3, .ref e4, .int (nI n), .int (nI m), .ref e5, .ref e6, .ref e7, .int (nI be), .int (nI sd), .int (nI tu), .int (nI fo), .ref e8, .ref e9, .int (nI kn), .int (nI tl), .int (nI rn), .ref ea, .long tr, .ref eb])), (e5, .inl (G.2.2.1, 9, .inl (nF ru))), (e6, .inl (G.2.2.1, 15, .inl (nF la))), (e7, .inl (G.2.2.1, 15, .inl (nF lb))), (e8, .inl (G.2.2.1, 9, .inl (nF ne))), (ea, .inl (G.2.2.1, 512, .inl wh))]) F R0 rfl [0, 1, 2, 3, 4, 5] rfl rfl (⟨_, _, _, _, by rw [aFlick, cb_0 hy, if_neg (fun z => absurd z.2 (by decide))], rfl⟩) dX8_flickers_26
    · skip
      refine j_w (w' := [(e0, .inr (8, [.ref e1, .int (nI ln), .int (nI aa), .int (nI bg), .int (nI tk), .int (nI td), .int (nI rl), .int (nI rs), .int (nI rd), .ref e2, .ref e3, .ref e4, .int (nI n), .int (nI m), .ref e5, .ref e6, .ref e7, .int (nI be), .int (nI sd), .int (nI tu), .int (nI fo), .ref e8, .ref e9, .int (nI kn), .int (nI tl), .int (nI rn), .ref ea, .long tr, .ref eb])), (e5, .inl (G.2.2.1, 9, .inl (nF ru))), (e6, .inl (G.2.2.1, 15, .inl (nF la))), (e7, .inl (G.2.2.1, 15, .inl (nF lb))), (e8, .inl (G.2.2.1, 9, .inl (nF ne))), (ea, .inl (G.2.2.1, 512, .inl wh))]) [5, 0, 1, 2, 3, 4] rfl rfl ?_
      show Jw G X _ 0 0 10 _ [.int (nI 0)] _
      refine j_if_eq (q := 13) (t := 25) F (ct (by decide)) dX8_flickers_10 rfl rfl (fun _ => ?_) (fun z => absurd trivial z)
      refine j_iconst (q := 26) (v := (-1)) F (by decide) dX8_flickers_25 rfl ?_
      exact j_iret (w2 := [(e0, .inr (8, [.ref e1, .int (nI ln), .int (nI aa), .int (nI bg), .int (nI tk), .int (nI td), .int (nI rl), .int (nI rs), .int (nI rd), .ref e2, .ref e3, .ref e4, .int (nI n), .int (nI m), .ref e5, .ref e6, .ref e7, .int (nI be), .int (nI sd), .int (nI tu), .int (nI fo), .ref e8, .ref e9, .int (nI kn), .int (nI tl), .int (nI rn), .ref ea, .long tr, .ref eb])), (e5, .inl (G.2.2.1, 9, .inl (nF ru))), (e6, .inl (G.2.2.1, 15, .inl (nF la))), (e7, .inl (G.2.2.1, 15, .inl (nF lb))), (e8, .inl (G.2.2.1, 9, .inl (nF ne))), (ea, .inl (G.2.2.1, 512, .inl wh))]) F R0 rfl [0, 1, 2, 3, 4, 5] rfl rfl (⟨_, _, _, _, by rw [aFlick, cb_0 hx, if_neg (fun z => z.1.elim cx (by decide))], rfl⟩) dX8_flickers_26

set_option maxHeartbeats 4000000 in
set_option maxRecDepth 100000 in
theorem c_X8_mark_0 (G : Gm) {e0 e1 e2 e3 e4 e5 e6 e7 e8 e9 ea eb : Nat} {ln aa bg tk td rl rs rd n m be sd tu fo kn tl rn : Nat} {ru la lb pa : Nat → Nat}  {tr : Int64} {y : Int32} (hT : Tok n m ru la lb) (hP : PrOk n m (be, sd, tu, fo, kn, pa)) : Mg G yX8_mark cX8_mark 5 (some .int) ({ frames := 2, cells := 0, slots := 0, locals := 46 } : Room) 0 0 [.ref e0, .int (nI 0), .int y] [(e0, .inr (8, [.ref e1, .int (nI ln), .int (nI aa), .int (nI bg), .int (nI tk), .int (nI td), .int (nI rl), .int (nI rs), .int (nI rd), .ref e2, .ref e3, .ref e4, .int (nI n), .int (nI m), .ref e5, .ref e6, .ref e7, .int (nI be), .int (nI sd), .int (nI tu), .int (nI fo), .ref e8, .ref e9, .int (nI kn), .int (nI tl), .int (nI rn), .ref ea, .long tr, .ref eb])), (e5, .inl (G.2.2.1, 9, .inl (nF ru))), (e6, .inl (G.2.2.1, 15, .inl (nF la))), (e7, .inl (G.2.2.1, 15, .inl (nF lb)))] (fun r w2 => r = some (.int (aMark n m ru la lb sd (nI 0) y)) ∧ w2 = [(e0, .inr (8, [.ref e1, .int (nI ln), .int (nI aa), .int (nI bg), .int (nI tk), .int (nI td), .int (nI rl), .int (nI rs), .int (nI rd), .ref e2, .ref e3, .ref e4, .int (nI n), .int (nI m), .ref e5, .ref e6, .ref e7, .int (nI be), .int (nI sd), .int (nI tu), .int (nI fo), .ref e8, .ref e9, .int (nI kn), .int (nI tl), .int (nI rn), .ref ea, .long (tMark n (nI 0) y tr), .ref eb])), (e5, .inl (G.2.2.1, 9, .inl (nF ru))), (e6, .inl (G.2.2.1, 15, .inl (nF la))), (e7, .inl (G.2.2.1, 15, .inl (nF lb)))]) := by
  have hn := hT.1
  have hm := hT.2.1
  have h9 := p9 hn
  have h15 := p15 hm
  have hsd : sd < 512 := by have := hP.2.1; dsimp only at this; omega
  have hfo : fo < 32768 := by have := hP.2.2.2.1; dsimp only at this; omega
  refine Mg.mk (lv := [(0, .ref e0), (1, .int (nI 0)), (2, .int y)]) (by decide) rfl rfl (fun X F R0 => ?_)
  refine j_iload_n (q := 1) (i0 := 1) F rfl dX8_mark_0 rfl ?_
  refine j_i2l (q := 2) (v := Int32.toInt64 (nI 0)) F rfl dX8_mark_1 rfl ?_
  refine j_lconst (q := 3) (v := 0) F (by decide) dX8_mark_2 rfl ?_
  refine j_ldc2 (q := 6) F tw_918 dX8_mark_3 rfl ?_
  refine j_callS (q := 9) (As := [.long (Int32.toInt64 (nI 0)), .long 0, .long 5]) (wr := [(e0, .inr (8, [.ref e1, .int (nI ln), .int (nI aa), .int (nI bg), .int (nI tk), .int (nI td), .int (nI rl), .int (nI rs), .int (nI rd), .ref e2, .ref e3, .ref e4, .int (nI n), .int (nI m), .ref e5, .ref e6, .ref e7, .int (nI be), .int (nI sd), .int (nI tu), .int (nI fo), .ref e8, .ref e9, .int (nI kn), .int (nI tl), .int (nI rn), .ref ea, .long tr, .ref eb])), (e5, .inl (G.2.2.1, 9, .inl (nF ru))), (e6, .inl (G.2.2.1, 15, .inl (nF la))), (e7, .inl (G.2.2.1, 15, .inl (nF lb)))]) (st := []) F (c_inR G (x := nI 0) (n := 6) rfl (by decide) rfl) kwX8_in tw_752 tw_751 ⟨Nat.le_of_ble_eq_true rfl, Nat.le_of_ble_eq_true rfl, rfl, rfl, Nat.le_of_ble_eq_true rfl, Nat.le_of_ble_eq_true rfl⟩ [] [0, 1, 2, 3] rfl rfl rfl rfl rfl rfl rfl (Nat.le_of_ble_eq_true rfl) dX8_mark_6 rfl ?_
  rintro r_ w_ ⟨rfl, (⟨rfl, hx⟩ | ⟨rfl, hx⟩)⟩
  · skip
    refine j_w (w' := [(e0, .inr (8, [.ref e1, .int (nI ln), .int (nI aa), .int (nI bg), .int (nI tk), .int (nI td), .int (nI rl), .int (nI rs), .int (nI rd), .ref e2, .ref e3, .ref e4, .int (nI n), .int (nI m), .ref e5, .ref e6, .ref e7, .int (nI be), .int (nI sd), .int (nI tu), .int (nI fo), .ref e8, .ref e9, .int (nI kn), .int (nI tl), .int (nI rn), .ref ea, .long tr, .ref eb])), (e5, .inl (G.2.2.1, 9, .inl (nF ru))), (e6, .inl (G.2.2.1, 15, .inl (nF la))), (e7, .inl (G.2.2.1, 15, .inl (nF lb)))]) [0, 1, 2, 3] rfl rfl ?_
    show Jw G X _ 0 0 9 _ [.int (nI 1)] _
    refine j_if_eq (q := 12) (t := 20) F (cf (by decide)) dX8_mark_9 rfl rfl (fun z => False.elim z) (fun _ => ?_)
    refine j_aload_n (q := 13) (i0 := 0) F rfl dX8_mark_12 rfl ?_
    refine j_iload_n (q := 14) (i0 := 2) F rfl dX8_mark_13 rfl ?_
    refine j_callV (q := 17) (ci := 8) (q0 := 0) (As := [.int y]) (wr := [(e5, .inl (G.2.2.1, 9, .inl (nF ru))), (e6, .inl (G.2.2.1, 15, .inl (nF la))), (e7, .inl (G.2.2.1, 15, .inl (nF lb)))]) (st := []) F (c_X8_isLamp G (x := y) hn) kwX8_isLamp tw_802 tw_27 tw_800 ⟨Nat.le_of_ble_eq_true rfl, Nat.le_of_ble_eq_true rfl, rfl, rfl, Nat.le_of_ble_eq_true rfl, Nat.le_of_ble_eq_true rfl⟩ [0] [1, 2, 3] rfl rfl rfl rfl rfl rfl rfl rfl rfl (Nat.le_of_ble_eq_true rfl) dX8_mark_14 rfl ?_
    rintro r_ w_ ⟨rfl, (⟨rfl, hy⟩ | ⟨rfl, hy⟩)⟩
    · skip
      refine j_w (w' := [(e0, .inr (8, [.ref e1, .int (nI ln), .int (nI aa), .int (nI bg), .int (nI tk), .int (nI td), .int (nI rl), .int (nI rs), .int (nI rd), .ref e2, .ref e3, .ref e4, .int (nI n), .int (nI m), .ref e5, .ref e6, .ref e7, .int (nI be), .int (nI sd), .int (nI tu), .int (nI fo), .ref e8, .ref e9, .int (nI kn), .int (nI tl), .int (nI rn), .ref ea, .long tr, .ref eb])), (e5, .inl (G.2.2.1, 9, .inl (nF ru))), (e6, .inl (G.2.2.1, 15, .inl (nF la))), (e7, .inl (G.2.2.1, 15, .inl (nF lb)))]) [3, 0, 1, 2] rfl rfl ?_
      show Jw G X _ 0 0 17 _ [.int (nI 1)] _
      refine j_if_ne (q := 20) (t := 23) F (cf (by decide)) dX8_mark_17 rfl rfl (fun _ => ?_) (fun z => False.elim z)
      have hc2 := cb_1 hy
      obtain ⟨i, hi, rfl⟩ := hy
      refine j_aload_n (q := 24) (i0 := 0) F rfl dX8_mark_23 rfl ?_
      refine j_dup (q := 25) F rfl dX8_mark_24 rfl ?_
      refine j_get (q := 28) (ci := 8) (q0 := 0) (kf := 27) (v := .long tr) F inX8 rfl rfl rfl tw_685 rfl rfl dX8_mark_25 rfl ?_
      refine j_iload_n (q := 29) (i0 := 1) F rfl dX8_mark_28 rfl ?_
      refine j_if_ne (q := 32) (t := 36) F (ct (by decide)) dX8_mark_29 rfl rfl (fun z => absurd trivial z) (fun _ => ?_)
      refine j_lconst (q := 33) (v := 1) F (by decide) dX8_mark_32 rfl ?_
      refine j_goto (t := 83) F dX8_mark_33 rfl ?_
      refine j_ladd (q := 84) (v := tr + 1) F rfl dX8_mark_83 rfl ?_
      refine j_put (q := 87) (ci := 8) (q0 := 0) (kf := 27) (v := .long (tr + 1)) (w' := [(e0, .inr (8, [.ref e1, .int (nI ln), .int (nI aa), .int (nI bg), .int (nI tk), .int (nI td), .int (nI rl), .int (nI rs), .int (nI rd), .ref e2, .ref e3, .ref e4, .int (nI n), .int (nI m), .ref e5, .ref e6, .ref e7, .int (nI be), .int (nI sd), .int (nI tu), .int (nI fo), .ref e8, .ref e9, .int (nI kn), .int (nI tl), .int (nI rn), .ref ea, .long (tr + 1), .ref eb])), (e5, .inl (G.2.2.1, 9, .inl (nF ru))), (e6, .inl (G.2.2.1, 15, .inl (nF la))), (e7, .inl (G.2.2.1, 15, .inl (nF lb)))]) F inX8 tyX8_ok nmX8 rfl rfl rfl tw_685 rfl rfl rfl rfl rfl rfl dX8_mark_84 rfl ?_
      refine j_aload_n (q := 88) (i0 := 0) F rfl dX8_mark_87 rfl ?_
      refine j_get (q := 91) (ci := 8) (q0 := 0) (kf := 18) (v := .int (nI sd)) F inX8 rfl rfl rfl tw_676 rfl rfl dX8_mark_88 rfl ?_
      refine j_iload_n (q := 92) (i0 := 2) F rfl dX8_mark_91 rfl ?_
      refine j_ishr (q := 93) (v := nI (sd >>> i)) F (nx_shr (by omega) (by omega)) dX8_mark_92 rfl ?_
      refine j_iconst (q := 94) (v := nI 1) F (by decide) dX8_mark_93 rfl ?_
      refine j_iand (q := 95) (v := nI (bitN sd i)) F (nx_and _ _) dX8_mark_94 rfl ?_
      refine j_istore_n (q := 96) (lv' := [(3, .int (nI (bitN sd i))), (0, .ref e0), (1, .int (nI 0)), (2, .int (nI i))]) F dX8_mark_95 (by decide) rfl rfl ?_
      refine j_aload_n (q := 97) (i0 := 1) F rfl dX8_mark_96 rfl ?_
      refine j_iload_n (q := 98) (i0 := 3) F rfl dX8_mark_97 rfl ?_
      refine j_iconst (q := 99) (v := nI 0) F (by decide) dX8_mark_98 rfl ?_
      refine j_callV (q := 102) (ci := 8) (q0 := 0) (As := [.int (nI i), .int (nI 0)]) (wr := [(e5, .inl (G.2.2.1, 9, .inl (nF ru)))]) (st := []) F (c_X8_beside G (l := i) (wo := 0) hT (by omega) (by decide)) kwX8_beside tw_806 tw_28 tw_804 ⟨Nat.le_of_ble_eq_true rfl, Nat.le_of_ble_eq_true rfl, rfl, rfl, Nat.le_of_ble_eq_true rfl, Nat.le_of_ble_eq_true rfl⟩ [0, 2, 3] [1] rfl rfl rfl rfl rfl rfl rfl rfl rfl (Nat.le_of_ble_eq_true rfl) dX8_mark_99 rfl ?_
      rintro r_ w_ ⟨rfl, rfl⟩
      refine j_w (w' := [(e0, .inr (8, [.ref e1, .int (nI ln), .int (nI aa), .int (nI bg), .int (nI tk), .int (nI td), .int (nI rl), .int (nI rs), .int (nI rd), .ref e2, .ref e3, .ref e4, .int (nI n), .int (nI m), .ref e5, .ref e6, .ref e7, .int (nI be), .int (nI sd), .int (nI tu), .int (nI fo), .ref e8, .ref e9, .int (nI kn), .int (nI tl), .int (nI rn), .ref ea, .long (tr + 1), .ref eb])), (e5, .inl (G.2.2.1, 9, .inl (nF ru))), (e6, .inl (G.2.2.1, 15, .inl (nF la))), (e7, .inl (G.2.2.1, 15, .inl (nF lb)))]) [1, 0, 2, 3] rfl rfl ?_
      show Jw G X _ 0 0 102 _ [.int (nI (bsd la lb 0 i m))] _
      refine j_callS (q := 105) (As := [.int (nI (bsd la lb 0 i m))]) (wr := [(e0, .inr (8, [.ref e1, .int (nI ln), .int (nI aa), .int (nI bg), .int (nI tk), .int (nI td), .int (nI rl), .int (nI rs), .int (nI rd), .ref e2, .ref e3, .ref e4, .int (nI n), .int (nI m), .ref e5, .ref e6, .ref e7, .int (nI be), .int (nI sd), .int (nI tu), .int (nI fo), .ref e8, .ref e9, .int (nI kn), .int (nI tl), .int (nI rn), .ref ea, .long (tr + 1), .ref eb])), (e5, .inl (G.2.2.1, 9, .inl (nF ru))), (e6, .inl (G.2.2.1, 15, .inl (nF la))), (e7, .inl (G.2.2.1, 15, .inl (nF lb)))]) (st := []) F (c_X8_many G (k := bsd la lb 0 i m) (Nat.lt_trans (bsd_lt hT 0 i) (by decide))) kwX8_many tw_809 tw_808 ⟨Nat.le_of_ble_eq_true rfl, Nat.le_of_ble_eq_true rfl, rfl, rfl, Nat.le_of_ble_eq_true rfl, Nat.le_of_ble_eq_true rfl⟩ [] [0, 1, 2, 3] rfl rfl rfl rfl rfl rfl rfl (Nat.le_of_ble_eq_true rfl) dX8_mark_102 rfl ?_
      rintro r_ w_ ⟨rfl, rfl⟩
      refine j_w (w' := [(e0, .inr (8, [.ref e1, .int (nI ln), .int (nI aa), .int (nI bg), .int (nI tk), .int (nI td), .int (nI rl), .int (nI rs), .int (nI rd), .ref e2, .ref e3, .ref e4, .int (nI n), .int (nI m), .ref e5, .ref e6, .ref e7, .int (nI be), .int (nI sd), .int (nI tu), .int (nI fo), .ref e8, .ref e9, .int (nI kn), .int (nI tl), .int (nI rn), .ref ea, .long (tr + 1), .ref eb])), (e5, .inl (G.2.2.1, 9, .inl (nF ru))), (e6, .inl (G.2.2.1, 15, .inl (nF la))), (e7, .inl (G.2.2.1, 15, .inl (nF lb)))]) [0, 1, 2, 3] rfl rfl ?_
      show Jw G X _ 0 0 105 _ [.int (nI (pcN (bsd la lb 0 i m)))] _
      refine j_istore (q := 107) (lv' := [(4, .int (nI (pcN (bsd la lb 0 i m)))), (3, .int (nI (bitN sd i))), (0, .ref e0), (1, .int (nI 0)), (2, .int (nI i))]) F dX8_mark_105 (by decide) rfl rfl ?_
      refine j_iload_n (q := 108) (i0 := 3) F rfl dX8_mark_107 rfl ?_
      refine j_tabIn (t := 144) F dX8_mark_108 (by decide) (by decide) rfl rfl ?_
      refine j_iload_n (q := 145) (i0 := 1) F rfl dX8_mark_144 rfl ?_
      exact j_iret (w2 := [(e0, .inr (8, [.ref e1, .int (nI ln), .int (nI aa), .int (nI bg), .int (nI tk), .int (nI td), .int (nI rl), .int (nI rs), .int (nI rd), .ref e2, .ref e3, .ref e4, .int (nI n), .int (nI m), .ref e5, .ref e6, .ref e7, .int (nI be), .int (nI sd), .int (nI tu), .int (nI fo), .ref e8, .ref e9, .int (nI kn), .int (nI tl), .int (nI rn), .ref ea, .long (tr + 1), .ref eb])), (e5, .inl (G.2.2.1, 9, .inl (nF ru))), (e6, .inl (G.2.2.1, 15, .inl (nF la))), (e7, .inl (G.2.2.1, 15, .inl (nF lb)))]) F R0 rfl [0, 1, 2, 3] rfl rfl (⟨by rw [aMark, if_pos ⟨cb_1 (show inR (nI 0) 6 from ⟨0, by decide, rfl⟩), hc2⟩, nI_clamp (show 0 < 2 ^ 31 by decide), nI_clamp (show i < 2 ^ 31 by omega)]; rfl, by rw [tMark, if_pos ⟨cb_1 (show inR (nI 0) 6 from ⟨0, by decide, rfl⟩), hc2⟩, nI_clamp (show 0 < 2 ^ 31 by decide)]; rfl⟩) dX8_mark_145
    · skip
      refine j_w (w' := [(e0, .inr (8, [.ref e1, .int (nI ln), .int (nI aa), .int (nI bg), .int (nI tk), .int (nI td), .int (nI rl), .int (nI rs), .int (nI rd), .ref e2, .ref e3, .ref e4, .int (nI n), .int (nI m), .ref e5, .ref e6, .ref e7, .int (nI be), .int (nI sd), .int (nI tu), .int (nI fo), .ref e8, .ref e9, .int (nI kn), .int (nI tl), .int (nI rn), .ref ea, .long tr, .ref eb])), (e5, .inl (G.2.2.1, 9, .inl (nF ru))), (e6, .inl (G.2.2.1, 15, .inl (nF la))), (e7, .inl (G.2.2.1, 15, .inl (nF lb)))]) [3, 0, 1, 2] rfl rfl ?_
      show Jw G X _ 0 0 17 _ [.int (nI 0)] _
      refine j_if_ne (q := 20) (t := 23) F (ct (by decide)) dX8_mark_17 rfl rfl (fun z => absurd trivial z) (fun _ => ?_)
      refine j_ldc (q := 22) F tw_919 dX8_mark_20 rfl ?_
      exact j_iret (w2 := [(e0, .inr (8, [.ref e1, .int (nI ln), .int (nI aa), .int (nI bg), .int (nI tk), .int (nI td), .int (nI rl), .int (nI rs), .int (nI rd), .ref e2, .ref e3, .ref e4, .int (nI n), .int (nI m), .ref e5, .ref e6, .ref e7, .int (nI be), .int (nI sd), .int (nI tu), .int (nI fo), .ref e8, .ref e9, .int (nI kn), .int (nI tl), .int (nI rn), .ref ea, .long tr, .ref eb])), (e5, .inl (G.2.2.1, 9, .inl (nF ru))), (e6, .inl (G.2.2.1, 15, .inl (nF la))), (e7, .inl (G.2.2.1, 15, .inl (nF lb)))]) F R0 rfl [0, 1, 2, 3] rfl rfl (⟨by rw [aMark, cb_0 hy, if_neg (fun z => absurd z.2 (by decide))], by rw [tMark, cb_0 hy, if_neg (fun z => absurd z.2 (by decide))]⟩) dX8_mark_22
  · skip
    exact absurd ⟨0, by decide, rfl⟩ hx

set_option maxHeartbeats 4000000 in
set_option maxRecDepth 100000 in
theorem c_X8_mark_1 (G : Gm) {e0 e1 e2 e3 e4 e5 e6 e7 e8 e9 ea eb : Nat} {ln aa bg tk td rl rs rd n m be sd tu fo kn tl rn : Nat} {ru la lb pa : Nat → Nat}  {tr : Int64} {y : Int32} (hT : Tok n m ru la lb) (hP : PrOk n m (be, sd, tu, fo, kn, pa)) : Mg G yX8_mark cX8_mark 5 (some .int) ({ frames := 2, cells := 0, slots := 0, locals := 46 } : Room) 0 0 [.ref e0, .int (nI 1), .int y] [(e0, .inr (8, [.ref e1, .int (nI ln), .int (nI aa), .int (nI bg), .int (nI tk), .int (nI td), .int (nI rl), .int (nI rs), .int (nI rd), .ref e2, .ref e3, .ref e4, .int (nI n), .int (nI m), .ref e5, .ref e6, .ref e7, .int (nI be), .int (nI sd), .int (nI tu), .int (nI fo), .ref e8, .ref e9, .int (nI kn), .int (nI tl), .int (nI rn), .ref ea, .long tr, .ref eb])), (e5, .inl (G.2.2.1, 9, .inl (nF ru))), (e6, .inl (G.2.2.1, 15, .inl (nF la))), (e7, .inl (G.2.2.1, 15, .inl (nF lb)))] (fun r w2 => r = some (.int (aMark n m ru la lb sd (nI 1) y)) ∧ w2 = [(e0, .inr (8, [.ref e1, .int (nI ln), .int (nI aa), .int (nI bg), .int (nI tk), .int (nI td), .int (nI rl), .int (nI rs), .int (nI rd), .ref e2, .ref e3, .ref e4, .int (nI n), .int (nI m), .ref e5, .ref e6, .ref e7, .int (nI be), .int (nI sd), .int (nI tu), .int (nI fo), .ref e8, .ref e9, .int (nI kn), .int (nI tl), .int (nI rn), .ref ea, .long (tMark n (nI 1) y tr), .ref eb])), (e5, .inl (G.2.2.1, 9, .inl (nF ru))), (e6, .inl (G.2.2.1, 15, .inl (nF la))), (e7, .inl (G.2.2.1, 15, .inl (nF lb)))]) := by
  have hn := hT.1
  have hm := hT.2.1
  have h9 := p9 hn
  have h15 := p15 hm
  have hsd : sd < 512 := by have := hP.2.1; dsimp only at this; omega
  have hfo : fo < 32768 := by have := hP.2.2.2.1; dsimp only at this; omega
  refine Mg.mk (lv := [(0, .ref e0), (1, .int (nI 1)), (2, .int y)]) (by decide) rfl rfl (fun X F R0 => ?_)
  refine j_iload_n (q := 1) (i0 := 1) F rfl dX8_mark_0 rfl ?_
  refine j_i2l (q := 2) (v := Int32.toInt64 (nI 1)) F rfl dX8_mark_1 rfl ?_
  refine j_lconst (q := 3) (v := 0) F (by decide) dX8_mark_2 rfl ?_
  refine j_ldc2 (q := 6) F tw_918 dX8_mark_3 rfl ?_
  refine j_callS (q := 9) (As := [.long (Int32.toInt64 (nI 1)), .long 0, .long 5]) (wr := [(e0, .inr (8, [.ref e1, .int (nI ln), .int (nI aa), .int (nI bg), .int (nI tk), .int (nI td), .int (nI rl), .int (nI rs), .int (nI rd), .ref e2, .ref e3, .ref e4, .int (nI n), .int (nI m), .ref e5, .ref e6, .ref e7, .int (nI be), .int (nI sd), .int (nI tu), .int (nI fo), .ref e8, .ref e9, .int (nI kn), .int (nI tl), .int (nI rn), .ref ea, .long tr, .ref eb])), (e5, .inl (G.2.2.1, 9, .inl (nF ru))), (e6, .inl (G.2.2.1, 15, .inl (nF la))), (e7, .inl (G.2.2.1, 15, .inl (nF lb)))]) (st := []) F (c_inR G (x := nI 1) (n := 6) rfl (by decide) rfl) kwX8_in tw_752 tw_751 ⟨Nat.le_of_ble_eq_true rfl, Nat.le_of_ble_eq_true rfl, rfl, rfl, Nat.le_of_ble_eq_true rfl, Nat.le_of_ble_eq_true rfl⟩ [] [0, 1, 2, 3] rfl rfl rfl rfl rfl rfl rfl (Nat.le_of_ble_eq_true rfl) dX8_mark_6 rfl ?_
  rintro r_ w_ ⟨rfl, (⟨rfl, hx⟩ | ⟨rfl, hx⟩)⟩
  · skip
    refine j_w (w' := [(e0, .inr (8, [.ref e1, .int (nI ln), .int (nI aa), .int (nI bg), .int (nI tk), .int (nI td), .int (nI rl), .int (nI rs), .int (nI rd), .ref e2, .ref e3, .ref e4, .int (nI n), .int (nI m), .ref e5, .ref e6, .ref e7, .int (nI be), .int (nI sd), .int (nI tu), .int (nI fo), .ref e8, .ref e9, .int (nI kn), .int (nI tl), .int (nI rn), .ref ea, .long tr, .ref eb])), (e5, .inl (G.2.2.1, 9, .inl (nF ru))), (e6, .inl (G.2.2.1, 15, .inl (nF la))), (e7, .inl (G.2.2.1, 15, .inl (nF lb)))]) [0, 1, 2, 3] rfl rfl ?_
    show Jw G X _ 0 0 9 _ [.int (nI 1)] _
    refine j_if_eq (q := 12) (t := 20) F (cf (by decide)) dX8_mark_9 rfl rfl (fun z => False.elim z) (fun _ => ?_)
    refine j_aload_n (q := 13) (i0 := 0) F rfl dX8_mark_12 rfl ?_
    refine j_iload_n (q := 14) (i0 := 2) F rfl dX8_mark_13 rfl ?_
    refine j_callV (q := 17) (ci := 8) (q0 := 0) (As := [.int y]) (wr := [(e5, .inl (G.2.2.1, 9, .inl (nF ru))), (e6, .inl (G.2.2.1, 15, .inl (nF la))), (e7, .inl (G.2.2.1, 15, .inl (nF lb)))]) (st := []) F (c_X8_isLamp G (x := y) hn) kwX8_isLamp tw_802 tw_27 tw_800 ⟨Nat.le_of_ble_eq_true rfl, Nat.le_of_ble_eq_true rfl, rfl, rfl, Nat.le_of_ble_eq_true rfl, Nat.le_of_ble_eq_true rfl⟩ [0] [1, 2, 3] rfl rfl rfl rfl rfl rfl rfl rfl rfl (Nat.le_of_ble_eq_true rfl) dX8_mark_14 rfl ?_
    rintro r_ w_ ⟨rfl, (⟨rfl, hy⟩ | ⟨rfl, hy⟩)⟩
    · skip
      refine j_w (w' := [(e0, .inr (8, [.ref e1, .int (nI ln), .int (nI aa), .int (nI bg), .int (nI tk), .int (nI td), .int (nI rl), .int (nI rs), .int (nI rd), .ref e2, .ref e3, .ref e4, .int (nI n), .int (nI m), .ref e5, .ref e6, .ref e7, .int (nI be), .int (nI sd), .int (nI tu), .int (nI fo), .ref e8, .ref e9, .int (nI kn), .int (nI tl), .int (nI rn), .ref ea, .long tr, .ref eb])), (e5, .inl (G.2.2.1, 9, .inl (nF ru))), (e6, .inl (G.2.2.1, 15, .inl (nF la))), (e7, .inl (G.2.2.1, 15, .inl (nF lb)))]) [3, 0, 1, 2] rfl rfl ?_
      show Jw G X _ 0 0 17 _ [.int (nI 1)] _
      refine j_if_ne (q := 20) (t := 23) F (cf (by decide)) dX8_mark_17 rfl rfl (fun _ => ?_) (fun z => False.elim z)
      have hc2 := cb_1 hy
      obtain ⟨i, hi, rfl⟩ := hy
      refine j_aload_n (q := 24) (i0 := 0) F rfl dX8_mark_23 rfl ?_
      refine j_dup (q := 25) F rfl dX8_mark_24 rfl ?_
      refine j_get (q := 28) (ci := 8) (q0 := 0) (kf := 27) (v := .long tr) F inX8 rfl rfl rfl tw_685 rfl rfl dX8_mark_25 rfl ?_
      refine j_iload_n (q := 29) (i0 := 1) F rfl dX8_mark_28 rfl ?_
      refine j_if_ne (q := 32) (t := 36) F (cf (by decide)) dX8_mark_29 rfl rfl (fun _ => ?_) (fun z => False.elim z)
      refine j_iload_n (q := 37) (i0 := 1) F rfl dX8_mark_36 rfl ?_
      refine j_iconst (q := 38) (v := nI 1) F (by decide) dX8_mark_37 rfl ?_
      refine j_icmp_ne (q := 41) (t := 47) F (ct (by decide)) dX8_mark_38 rfl rfl (fun z => absurd trivial z) (fun _ => ?_)
      refine j_ldc2 (q := 44) F tw_920 dX8_mark_41 rfl ?_
      refine j_goto (t := 83) F dX8_mark_44 rfl ?_
      refine j_ladd (q := 84) (v := tr + 11) F rfl dX8_mark_83 rfl ?_
      refine j_put (q := 87) (ci := 8) (q0 := 0) (kf := 27) (v := .long (tr + 11)) (w' := [(e0, .inr (8, [.ref e1, .int (nI ln), .int (nI aa), .int (nI bg), .int (nI tk), .int (nI td), .int (nI rl), .int (nI rs), .int (nI rd), .ref e2, .ref e3, .ref e4, .int (nI n), .int (nI m), .ref e5, .ref e6, .ref e7, .int (nI be), .int (nI sd), .int (nI tu), .int (nI fo), .ref e8, .ref e9, .int (nI kn), .int (nI tl), .int (nI rn), .ref ea, .long (tr + 11), .ref eb])), (e5, .inl (G.2.2.1, 9, .inl (nF ru))), (e6, .inl (G.2.2.1, 15, .inl (nF la))), (e7, .inl (G.2.2.1, 15, .inl (nF lb)))]) F inX8 tyX8_ok nmX8 rfl rfl rfl tw_685 rfl rfl rfl rfl rfl rfl dX8_mark_84 rfl ?_
      refine j_aload_n (q := 88) (i0 := 0) F rfl dX8_mark_87 rfl ?_
      refine j_get (q := 91) (ci := 8) (q0 := 0) (kf := 18) (v := .int (nI sd)) F inX8 rfl rfl rfl tw_676 rfl rfl dX8_mark_88 rfl ?_
      refine j_iload_n (q := 92) (i0 := 2) F rfl dX8_mark_91 rfl ?_
      refine j_ishr (q := 93) (v := nI (sd >>> i)) F (nx_shr (by omega) (by omega)) dX8_mark_92 rfl ?_
      refine j_iconst (q := 94) (v := nI 1) F (by decide) dX8_mark_93 rfl ?_
      refine j_iand (q := 95) (v := nI (bitN sd i)) F (nx_and _ _) dX8_mark_94 rfl ?_
      refine j_istore_n (q := 96) (lv' := [(3, .int (nI (bitN sd i))), (0, .ref e0), (1, .int (nI 1)), (2, .int (nI i))]) F dX8_mark_95 (by decide) rfl rfl ?_
      refine j_aload_n (q := 97) (i0 := 1) F rfl dX8_mark_96 rfl ?_
      refine j_iload_n (q := 98) (i0 := 3) F rfl dX8_mark_97 rfl ?_
      refine j_iconst (q := 99) (v := nI 0) F (by decide) dX8_mark_98 rfl ?_
      refine j_callV (q := 102) (ci := 8) (q0 := 0) (As := [.int (nI i), .int (nI 0)]) (wr := [(e5, .inl (G.2.2.1, 9, .inl (nF ru)))]) (st := []) F (c_X8_beside G (l := i) (wo := 0) hT (by omega) (by decide)) kwX8_beside tw_806 tw_28 tw_804 ⟨Nat.le_of_ble_eq_true rfl, Nat.le_of_ble_eq_true rfl, rfl, rfl, Nat.le_of_ble_eq_true rfl, Nat.le_of_ble_eq_true rfl⟩ [0, 2, 3] [1] rfl rfl rfl rfl rfl rfl rfl rfl rfl (Nat.le_of_ble_eq_true rfl) dX8_mark_99 rfl ?_
      rintro r_ w_ ⟨rfl, rfl⟩
      refine j_w (w' := [(e0, .inr (8, [.ref e1, .int (nI ln), .int (nI aa), .int (nI bg), .int (nI tk), .int (nI td), .int (nI rl), .int (nI rs), .int (nI rd), .ref e2, .ref e3, .ref e4, .int (nI n), .int (nI m), .ref e5, .ref e6, .ref e7, .int (nI be), .int (nI sd), .int (nI tu), .int (nI fo), .ref e8, .ref e9, .int (nI kn), .int (nI tl), .int (nI rn), .ref ea, .long (tr + 11), .ref eb])), (e5, .inl (G.2.2.1, 9, .inl (nF ru))), (e6, .inl (G.2.2.1, 15, .inl (nF la))), (e7, .inl (G.2.2.1, 15, .inl (nF lb)))]) [1, 0, 2, 3] rfl rfl ?_
      show Jw G X _ 0 0 102 _ [.int (nI (bsd la lb 0 i m))] _
      refine j_callS (q := 105) (As := [.int (nI (bsd la lb 0 i m))]) (wr := [(e0, .inr (8, [.ref e1, .int (nI ln), .int (nI aa), .int (nI bg), .int (nI tk), .int (nI td), .int (nI rl), .int (nI rs), .int (nI rd), .ref e2, .ref e3, .ref e4, .int (nI n), .int (nI m), .ref e5, .ref e6, .ref e7, .int (nI be), .int (nI sd), .int (nI tu), .int (nI fo), .ref e8, .ref e9, .int (nI kn), .int (nI tl), .int (nI rn), .ref ea, .long (tr + 11), .ref eb])), (e5, .inl (G.2.2.1, 9, .inl (nF ru))), (e6, .inl (G.2.2.1, 15, .inl (nF la))), (e7, .inl (G.2.2.1, 15, .inl (nF lb)))]) (st := []) F (c_X8_many G (k := bsd la lb 0 i m) (Nat.lt_trans (bsd_lt hT 0 i) (by decide))) kwX8_many tw_809 tw_808 ⟨Nat.le_of_ble_eq_true rfl, Nat.le_of_ble_eq_true rfl, rfl, rfl, Nat.le_of_ble_eq_true rfl, Nat.le_of_ble_eq_true rfl⟩ [] [0, 1, 2, 3] rfl rfl rfl rfl rfl rfl rfl (Nat.le_of_ble_eq_true rfl) dX8_mark_102 rfl ?_
      rintro r_ w_ ⟨rfl, rfl⟩
      refine j_w (w' := [(e0, .inr (8, [.ref e1, .int (nI ln), .int (nI aa), .int (nI bg), .int (nI tk), .int (nI td), .int (nI rl), .int (nI rs), .int (nI rd), .ref e2, .ref e3, .ref e4, .int (nI n), .int (nI m), .ref e5, .ref e6, .ref e7, .int (nI be), .int (nI sd), .int (nI tu), .int (nI fo), .ref e8, .ref e9, .int (nI kn), .int (nI tl), .int (nI rn), .ref ea, .long (tr + 11), .ref eb])), (e5, .inl (G.2.2.1, 9, .inl (nF ru))), (e6, .inl (G.2.2.1, 15, .inl (nF la))), (e7, .inl (G.2.2.1, 15, .inl (nF lb)))]) [0, 1, 2, 3] rfl rfl ?_
      show Jw G X _ 0 0 105 _ [.int (nI (pcN (bsd la lb 0 i m)))] _
      refine j_istore (q := 107) (lv' := [(4, .int (nI (pcN (bsd la lb 0 i m)))), (3, .int (nI (bitN sd i))), (0, .ref e0), (1, .int (nI 1)), (2, .int (nI i))]) F dX8_mark_105 (by decide) rfl rfl ?_
      refine j_iload_n (q := 108) (i0 := 3) F rfl dX8_mark_107 rfl ?_
      refine j_tabIn (t := 146) F dX8_mark_108 (by decide) (by decide) rfl rfl ?_
      refine j_iload_n (q := 147) (i0 := 1) F rfl dX8_mark_146 rfl ?_
      refine j_iload (q := 149) (i0 := 0) F rfl dX8_mark_147 rfl ?_
      refine j_iadd (q := 150) (v := nI ((bitN sd i) + (pcN (bsd la lb 0 i m)))) F (nI_add _ _) dX8_mark_149 rfl ?_
      exact j_iret (w2 := [(e0, .inr (8, [.ref e1, .int (nI ln), .int (nI aa), .int (nI bg), .int (nI tk), .int (nI td), .int (nI rl), .int (nI rs), .int (nI rd), .ref e2, .ref e3, .ref e4, .int (nI n), .int (nI m), .ref e5, .ref e6, .ref e7, .int (nI be), .int (nI sd), .int (nI tu), .int (nI fo), .ref e8, .ref e9, .int (nI kn), .int (nI tl), .int (nI rn), .ref ea, .long (tr + 11), .ref eb])), (e5, .inl (G.2.2.1, 9, .inl (nF ru))), (e6, .inl (G.2.2.1, 15, .inl (nF la))), (e7, .inl (G.2.2.1, 15, .inl (nF lb)))]) F R0 rfl [0, 1, 2, 3] rfl rfl (⟨by rw [aMark, if_pos ⟨cb_1 (show inR (nI 1) 6 from ⟨1, by decide, rfl⟩), hc2⟩, nI_clamp (show 1 < 2 ^ 31 by decide), nI_clamp (show i < 2 ^ 31 by omega)]; rfl, by rw [tMark, if_pos ⟨cb_1 (show inR (nI 1) 6 from ⟨1, by decide, rfl⟩), hc2⟩, nI_clamp (show 1 < 2 ^ 31 by decide)]; rfl⟩) dX8_mark_150
    · skip
      refine j_w (w' := [(e0, .inr (8, [.ref e1, .int (nI ln), .int (nI aa), .int (nI bg), .int (nI tk), .int (nI td), .int (nI rl), .int (nI rs), .int (nI rd), .ref e2, .ref e3, .ref e4, .int (nI n), .int (nI m), .ref e5, .ref e6, .ref e7, .int (nI be), .int (nI sd), .int (nI tu), .int (nI fo), .ref e8, .ref e9, .int (nI kn), .int (nI tl), .int (nI rn), .ref ea, .long tr, .ref eb])), (e5, .inl (G.2.2.1, 9, .inl (nF ru))), (e6, .inl (G.2.2.1, 15, .inl (nF la))), (e7, .inl (G.2.2.1, 15, .inl (nF lb)))]) [3, 0, 1, 2] rfl rfl ?_
      show Jw G X _ 0 0 17 _ [.int (nI 0)] _
      refine j_if_ne (q := 20) (t := 23) F (ct (by decide)) dX8_mark_17 rfl rfl (fun z => absurd trivial z) (fun _ => ?_)
      refine j_ldc (q := 22) F tw_919 dX8_mark_20 rfl ?_
      exact j_iret (w2 := [(e0, .inr (8, [.ref e1, .int (nI ln), .int (nI aa), .int (nI bg), .int (nI tk), .int (nI td), .int (nI rl), .int (nI rs), .int (nI rd), .ref e2, .ref e3, .ref e4, .int (nI n), .int (nI m), .ref e5, .ref e6, .ref e7, .int (nI be), .int (nI sd), .int (nI tu), .int (nI fo), .ref e8, .ref e9, .int (nI kn), .int (nI tl), .int (nI rn), .ref ea, .long tr, .ref eb])), (e5, .inl (G.2.2.1, 9, .inl (nF ru))), (e6, .inl (G.2.2.1, 15, .inl (nF la))), (e7, .inl (G.2.2.1, 15, .inl (nF lb)))]) F R0 rfl [0, 1, 2, 3] rfl rfl (⟨by rw [aMark, cb_0 hy, if_neg (fun z => absurd z.2 (by decide))], by rw [tMark, cb_0 hy, if_neg (fun z => absurd z.2 (by decide))]⟩) dX8_mark_22
  · skip
    exact absurd ⟨1, by decide, rfl⟩ hx

set_option maxHeartbeats 4000000 in
set_option maxRecDepth 100000 in
theorem c_X8_mark_2 (G : Gm) {e0 e1 e2 e3 e4 e5 e6 e7 e8 e9 ea eb : Nat} {ln aa bg tk td rl rs rd n m be sd tu fo kn tl rn : Nat} {ru la lb pa : Nat → Nat}  {tr : Int64} {y : Int32} (hT : Tok n m ru la lb) (hP : PrOk n m (be, sd, tu, fo, kn, pa)) : Mg G yX8_mark cX8_mark 5 (some .int) ({ frames := 2, cells := 0, slots := 0, locals := 46 } : Room) 0 0 [.ref e0, .int (nI 2), .int y] [(e0, .inr (8, [.ref e1, .int (nI ln), .int (nI aa), .int (nI bg), .int (nI tk), .int (nI td), .int (nI rl), .int (nI rs), .int (nI rd), .ref e2, .ref e3, .ref e4, .int (nI n), .int (nI m), .ref e5, .ref e6, .ref e7, .int (nI be), .int (nI sd), .int (nI tu), .int (nI fo), .ref e8, .ref e9, .int (nI kn), .int (nI tl), .int (nI rn), .ref ea, .long tr, .ref eb])), (e5, .inl (G.2.2.1, 9, .inl (nF ru))), (e6, .inl (G.2.2.1, 15, .inl (nF la))), (e7, .inl (G.2.2.1, 15, .inl (nF lb)))] (fun r w2 => r = some (.int (aMark n m ru la lb sd (nI 2) y)) ∧ w2 = [(e0, .inr (8, [.ref e1, .int (nI ln), .int (nI aa), .int (nI bg), .int (nI tk), .int (nI td), .int (nI rl), .int (nI rs), .int (nI rd), .ref e2, .ref e3, .ref e4, .int (nI n), .int (nI m), .ref e5, .ref e6, .ref e7, .int (nI be), .int (nI sd), .int (nI tu), .int (nI fo), .ref e8, .ref e9, .int (nI kn), .int (nI tl), .int (nI rn), .ref ea, .long (tMark n (nI 2) y tr), .ref eb])), (e5, .inl (G.2.2.1, 9, .inl (nF ru))), (e6, .inl (G.2.2.1, 15, .inl (nF la))), (e7, .inl (G.2.2.1, 15, .inl (nF lb)))]) := by
  have hn := hT.1
  have hm := hT.2.1
  have h9 := p9 hn
  have h15 := p15 hm
  have hsd : sd < 512 := by have := hP.2.1; dsimp only at this; omega
  have hfo : fo < 32768 := by have := hP.2.2.2.1; dsimp only at this; omega
  refine Mg.mk (lv := [(0, .ref e0), (1, .int (nI 2)), (2, .int y)]) (by decide) rfl rfl (fun X F R0 => ?_)
  refine j_iload_n (q := 1) (i0 := 1) F rfl dX8_mark_0 rfl ?_
  refine j_i2l (q := 2) (v := Int32.toInt64 (nI 2)) F rfl dX8_mark_1 rfl ?_
  refine j_lconst (q := 3) (v := 0) F (by decide) dX8_mark_2 rfl ?_
  refine j_ldc2 (q := 6) F tw_918 dX8_mark_3 rfl ?_
  refine j_callS (q := 9) (As := [.long (Int32.toInt64 (nI 2)), .long 0, .long 5]) (wr := [(e0, .inr (8, [.ref e1, .int (nI ln), .int (nI aa), .int (nI bg), .int (nI tk), .int (nI td), .int (nI rl), .int (nI rs), .int (nI rd), .ref e2, .ref e3, .ref e4, .int (nI n), .int (nI m), .ref e5, .ref e6, .ref e7, .int (nI be), .int (nI sd), .int (nI tu), .int (nI fo), .ref e8, .ref e9, .int (nI kn), .int (nI tl), .int (nI rn), .ref ea, .long tr, .ref eb])), (e5, .inl (G.2.2.1, 9, .inl (nF ru))), (e6, .inl (G.2.2.1, 15, .inl (nF la))), (e7, .inl (G.2.2.1, 15, .inl (nF lb)))]) (st := []) F (c_inR G (x := nI 2) (n := 6) rfl (by decide) rfl) kwX8_in tw_752 tw_751 ⟨Nat.le_of_ble_eq_true rfl, Nat.le_of_ble_eq_true rfl, rfl, rfl, Nat.le_of_ble_eq_true rfl, Nat.le_of_ble_eq_true rfl⟩ [] [0, 1, 2, 3] rfl rfl rfl rfl rfl rfl rfl (Nat.le_of_ble_eq_true rfl) dX8_mark_6 rfl ?_
  rintro r_ w_ ⟨rfl, (⟨rfl, hx⟩ | ⟨rfl, hx⟩)⟩
  · skip
    refine j_w (w' := [(e0, .inr (8, [.ref e1, .int (nI ln), .int (nI aa), .int (nI bg), .int (nI tk), .int (nI td), .int (nI rl), .int (nI rs), .int (nI rd), .ref e2, .ref e3, .ref e4, .int (nI n), .int (nI m), .ref e5, .ref e6, .ref e7, .int (nI be), .int (nI sd), .int (nI tu), .int (nI fo), .ref e8, .ref e9, .int (nI kn), .int (nI tl), .int (nI rn), .ref ea, .long tr, .ref eb])), (e5, .inl (G.2.2.1, 9, .inl (nF ru))), (e6, .inl (G.2.2.1, 15, .inl (nF la))), (e7, .inl (G.2.2.1, 15, .inl (nF lb)))]) [0, 1, 2, 3] rfl rfl ?_
    show Jw G X _ 0 0 9 _ [.int (nI 1)] _
    refine j_if_eq (q := 12) (t := 20) F (cf (by decide)) dX8_mark_9 rfl rfl (fun z => False.elim z) (fun _ => ?_)
    refine j_aload_n (q := 13) (i0 := 0) F rfl dX8_mark_12 rfl ?_
    refine j_iload_n (q := 14) (i0 := 2) F rfl dX8_mark_13 rfl ?_
    refine j_callV (q := 17) (ci := 8) (q0 := 0) (As := [.int y]) (wr := [(e5, .inl (G.2.2.1, 9, .inl (nF ru))), (e6, .inl (G.2.2.1, 15, .inl (nF la))), (e7, .inl (G.2.2.1, 15, .inl (nF lb)))]) (st := []) F (c_X8_isLamp G (x := y) hn) kwX8_isLamp tw_802 tw_27 tw_800 ⟨Nat.le_of_ble_eq_true rfl, Nat.le_of_ble_eq_true rfl, rfl, rfl, Nat.le_of_ble_eq_true rfl, Nat.le_of_ble_eq_true rfl⟩ [0] [1, 2, 3] rfl rfl rfl rfl rfl rfl rfl rfl rfl (Nat.le_of_ble_eq_true rfl) dX8_mark_14 rfl ?_
    rintro r_ w_ ⟨rfl, (⟨rfl, hy⟩ | ⟨rfl, hy⟩)⟩
    · skip
      refine j_w (w' := [(e0, .inr (8, [.ref e1, .int (nI ln), .int (nI aa), .int (nI bg), .int (nI tk), .int (nI td), .int (nI rl), .int (nI rs), .int (nI rd), .ref e2, .ref e3, .ref e4, .int (nI n), .int (nI m), .ref e5, .ref e6, .ref e7, .int (nI be), .int (nI sd), .int (nI tu), .int (nI fo), .ref e8, .ref e9, .int (nI kn), .int (nI tl), .int (nI rn), .ref ea, .long tr, .ref eb])), (e5, .inl (G.2.2.1, 9, .inl (nF ru))), (e6, .inl (G.2.2.1, 15, .inl (nF la))), (e7, .inl (G.2.2.1, 15, .inl (nF lb)))]) [3, 0, 1, 2] rfl rfl ?_
      show Jw G X _ 0 0 17 _ [.int (nI 1)] _
      refine j_if_ne (q := 20) (t := 23) F (cf (by decide)) dX8_mark_17 rfl rfl (fun _ => ?_) (fun z => False.elim z)
      have hc2 := cb_1 hy
      obtain ⟨i, hi, rfl⟩ := hy
      refine j_aload_n (q := 24) (i0 := 0) F rfl dX8_mark_23 rfl ?_
      refine j_dup (q := 25) F rfl dX8_mark_24 rfl ?_
      refine j_get (q := 28) (ci := 8) (q0 := 0) (kf := 27) (v := .long tr) F inX8 rfl rfl rfl tw_685 rfl rfl dX8_mark_25 rfl ?_
      refine j_iload_n (q := 29) (i0 := 1) F rfl dX8_mark_28 rfl ?_
      refine j_if_ne (q := 32) (t := 36) F (cf (by decide)) dX8_mark_29 rfl rfl (fun _ => ?_) (fun z => False.elim z)
      refine j_iload_n (q := 37) (i0 := 1) F rfl dX8_mark_36 rfl ?_
      refine j_iconst (q := 38) (v := nI 1) F (by decide) dX8_mark_37 rfl ?_
      refine j_icmp_ne (q := 41) (t := 47) F (cf (by decide)) dX8_mark_38 rfl rfl (fun _ => ?_) (fun z => False.elim z)
      refine j_iload_n (q := 48) (i0 := 1) F rfl dX8_mark_47 rfl ?_
      refine j_iconst (q := 49) (v := nI 2) F (by decide) dX8_mark_48 rfl ?_
      refine j_icmp_ne (q := 52) (t := 58) F (ct (by decide)) dX8_mark_49 rfl rfl (fun z => absurd trivial z) (fun _ => ?_)
      refine j_ldc2 (q := 55) F tw_921 dX8_mark_52 rfl ?_
      refine j_goto (t := 83) F dX8_mark_55 rfl ?_
      refine j_ladd (q := 84) (v := tr + 101) F rfl dX8_mark_83 rfl ?_
      refine j_put (q := 87) (ci := 8) (q0 := 0) (kf := 27) (v := .long (tr + 101)) (w' := [(e0, .inr (8, [.ref e1, .int (nI ln), .int (nI aa), .int (nI bg), .int (nI tk), .int (nI td), .int (nI rl), .int (nI rs), .int (nI rd), .ref e2, .ref e3, .ref e4, .int (nI n), .int (nI m), .ref e5, .ref e6, .ref e7, .int (nI be), .int (nI sd), .int (nI tu), .int (nI fo), .ref e8, .ref e9, .int (nI kn), .int (nI tl), .int (nI rn), .ref ea, .long (tr + 101), .ref eb])), (e5, .inl (G.2.2.1, 9, .inl (nF ru))), (e6, .inl (G.2.2.1, 15, .inl (nF la))), (e7, .inl (G.2.2.1, 15, .inl (nF lb)))]) F inX8 tyX8_ok nmX8 rfl rfl rfl tw_685 rfl rfl rfl rfl rfl rfl dX8_mark_84 rfl ?_
      refine j_aload_n (q := 88) (i0 := 0) F rfl dX8_mark_87 rfl ?_
      refine j_get (q := 91) (ci := 8) (q0 := 0) (kf := 18) (v := .int (nI sd)) F inX8 rfl rfl rfl tw_676 rfl rfl dX8_mark_88 rfl ?_
      refine j_iload_n (q := 92) (i0 := 2) F rfl dX8_mark_91 rfl ?_
      refine j_ishr (q := 93) (v := nI (sd >>> i)) F (nx_shr (by omega) (by omega)) dX8_mark_92 rfl ?_
      refine j_iconst (q := 94) (v := nI 1) F (by decide) dX8_mark_93 rfl ?_
      refine j_iand (q := 95) (v := nI (bitN sd i)) F (nx_and _ _) dX8_mark_94 rfl ?_
      refine j_istore_n (q := 96) (lv' := [(3, .int (nI (bitN sd i))), (0, .ref e0), (1, .int (nI 2)), (2, .int (nI i))]) F dX8_mark_95 (by decide) rfl rfl ?_
      refine j_aload_n (q := 97) (i0 := 1) F rfl dX8_mark_96 rfl ?_
      refine j_iload_n (q := 98) (i0 := 3) F rfl dX8_mark_97 rfl ?_
      refine j_iconst (q := 99) (v := nI 0) F (by decide) dX8_mark_98 rfl ?_
      refine j_callV (q := 102) (ci := 8) (q0 := 0) (As := [.int (nI i), .int (nI 0)]) (wr := [(e5, .inl (G.2.2.1, 9, .inl (nF ru)))]) (st := []) F (c_X8_beside G (l := i) (wo := 0) hT (by omega) (by decide)) kwX8_beside tw_806 tw_28 tw_804 ⟨Nat.le_of_ble_eq_true rfl, Nat.le_of_ble_eq_true rfl, rfl, rfl, Nat.le_of_ble_eq_true rfl, Nat.le_of_ble_eq_true rfl⟩ [0, 2, 3] [1] rfl rfl rfl rfl rfl rfl rfl rfl rfl (Nat.le_of_ble_eq_true rfl) dX8_mark_99 rfl ?_
      rintro r_ w_ ⟨rfl, rfl⟩
      refine j_w (w' := [(e0, .inr (8, [.ref e1, .int (nI ln), .int (nI aa), .int (nI bg), .int (nI tk), .int (nI td), .int (nI rl), .int (nI rs), .int (nI rd), .ref e2, .ref e3, .ref e4, .int (nI n), .int (nI m), .ref e5, .ref e6, .ref e7, .int (nI be), .int (nI sd), .int (nI tu), .int (nI fo), .ref e8, .ref e9, .int (nI kn), .int (nI tl), .int (nI rn), .ref ea, .long (tr + 101), .ref eb])), (e5, .inl (G.2.2.1, 9, .inl (nF ru))), (e6, .inl (G.2.2.1, 15, .inl (nF la))), (e7, .inl (G.2.2.1, 15, .inl (nF lb)))]) [1, 0, 2, 3] rfl rfl ?_
      show Jw G X _ 0 0 102 _ [.int (nI (bsd la lb 0 i m))] _
      refine j_callS (q := 105) (As := [.int (nI (bsd la lb 0 i m))]) (wr := [(e0, .inr (8, [.ref e1, .int (nI ln), .int (nI aa), .int (nI bg), .int (nI tk), .int (nI td), .int (nI rl), .int (nI rs), .int (nI rd), .ref e2, .ref e3, .ref e4, .int (nI n), .int (nI m), .ref e5, .ref e6, .ref e7, .int (nI be), .int (nI sd), .int (nI tu), .int (nI fo), .ref e8, .ref e9, .int (nI kn), .int (nI tl), .int (nI rn), .ref ea, .long (tr + 101), .ref eb])), (e5, .inl (G.2.2.1, 9, .inl (nF ru))), (e6, .inl (G.2.2.1, 15, .inl (nF la))), (e7, .inl (G.2.2.1, 15, .inl (nF lb)))]) (st := []) F (c_X8_many G (k := bsd la lb 0 i m) (Nat.lt_trans (bsd_lt hT 0 i) (by decide))) kwX8_many tw_809 tw_808 ⟨Nat.le_of_ble_eq_true rfl, Nat.le_of_ble_eq_true rfl, rfl, rfl, Nat.le_of_ble_eq_true rfl, Nat.le_of_ble_eq_true rfl⟩ [] [0, 1, 2, 3] rfl rfl rfl rfl rfl rfl rfl (Nat.le_of_ble_eq_true rfl) dX8_mark_102 rfl ?_
      rintro r_ w_ ⟨rfl, rfl⟩
      refine j_w (w' := [(e0, .inr (8, [.ref e1, .int (nI ln), .int (nI aa), .int (nI bg), .int (nI tk), .int (nI td), .int (nI rl), .int (nI rs), .int (nI rd), .ref e2, .ref e3, .ref e4, .int (nI n), .int (nI m), .ref e5, .ref e6, .ref e7, .int (nI be), .int (nI sd), .int (nI tu), .int (nI fo), .ref e8, .ref e9, .int (nI kn), .int (nI tl), .int (nI rn), .ref ea, .long (tr + 101), .ref eb])), (e5, .inl (G.2.2.1, 9, .inl (nF ru))), (e6, .inl (G.2.2.1, 15, .inl (nF la))), (e7, .inl (G.2.2.1, 15, .inl (nF lb)))]) [0, 1, 2, 3] rfl rfl ?_
      show Jw G X _ 0 0 105 _ [.int (nI (pcN (bsd la lb 0 i m)))] _
      refine j_istore (q := 107) (lv' := [(4, .int (nI (pcN (bsd la lb 0 i m)))), (3, .int (nI (bitN sd i))), (0, .ref e0), (1, .int (nI 2)), (2, .int (nI i))]) F dX8_mark_105 (by decide) rfl rfl ?_
      refine j_iload_n (q := 108) (i0 := 3) F rfl dX8_mark_107 rfl ?_
      refine j_tabIn (t := 151) F dX8_mark_108 (by decide) (by decide) rfl rfl ?_
      refine j_iload_n (q := 152) (i0 := 1) F rfl dX8_mark_151 rfl ?_
      refine j_aload_n (q := 153) (i0 := 2) F rfl dX8_mark_152 rfl ?_
      refine j_get (q := 156) (ci := 8) (q0 := 0) (kf := 14) (v := .ref e5) F inX8 rfl rfl rfl tw_672 rfl rfl dX8_mark_153 rfl ?_
      refine j_iload_n (q := 157) (i0 := 4) F rfl dX8_mark_156 rfl ?_
      refine j_iald (q := 158) (q0 := 1) (i := i) (v := nI (ru i)) F rfl rfl (by omega) rfl (rfl) dX8_mark_157 rfl ?_
      refine j_isub (q := 159) (v := nI (bitN sd i) - nI (ru i)) F (rfl) dX8_mark_158 rfl ?_
      exact j_iret (w2 := [(e0, .inr (8, [.ref e1, .int (nI ln), .int (nI aa), .int (nI bg), .int (nI tk), .int (nI td), .int (nI rl), .int (nI rs), .int (nI rd), .ref e2, .ref e3, .ref e4, .int (nI n), .int (nI m), .ref e5, .ref e6, .ref e7, .int (nI be), .int (nI sd), .int (nI tu), .int (nI fo), .ref e8, .ref e9, .int (nI kn), .int (nI tl), .int (nI rn), .ref ea, .long (tr + 101), .ref eb])), (e5, .inl (G.2.2.1, 9, .inl (nF ru))), (e6, .inl (G.2.2.1, 15, .inl (nF la))), (e7, .inl (G.2.2.1, 15, .inl (nF lb)))]) F R0 rfl [0, 1, 2, 3] rfl rfl (⟨by rw [aMark, if_pos ⟨cb_1 (show inR (nI 2) 6 from ⟨2, by decide, rfl⟩), hc2⟩, nI_clamp (show 2 < 2 ^ 31 by decide), nI_clamp (show i < 2 ^ 31 by omega)]; rfl, by rw [tMark, if_pos ⟨cb_1 (show inR (nI 2) 6 from ⟨2, by decide, rfl⟩), hc2⟩, nI_clamp (show 2 < 2 ^ 31 by decide)]; rfl⟩) dX8_mark_159
    · skip
      refine j_w (w' := [(e0, .inr (8, [.ref e1, .int (nI ln), .int (nI aa), .int (nI bg), .int (nI tk), .int (nI td), .int (nI rl), .int (nI rs), .int (nI rd), .ref e2, .ref e3, .ref e4, .int (nI n), .int (nI m), .ref e5, .ref e6, .ref e7, .int (nI be), .int (nI sd), .int (nI tu), .int (nI fo), .ref e8, .ref e9, .int (nI kn), .int (nI tl), .int (nI rn), .ref ea, .long tr, .ref eb])), (e5, .inl (G.2.2.1, 9, .inl (nF ru))), (e6, .inl (G.2.2.1, 15, .inl (nF la))), (e7, .inl (G.2.2.1, 15, .inl (nF lb)))]) [3, 0, 1, 2] rfl rfl ?_
      show Jw G X _ 0 0 17 _ [.int (nI 0)] _
      refine j_if_ne (q := 20) (t := 23) F (ct (by decide)) dX8_mark_17 rfl rfl (fun z => absurd trivial z) (fun _ => ?_)
      refine j_ldc (q := 22) F tw_919 dX8_mark_20 rfl ?_
      exact j_iret (w2 := [(e0, .inr (8, [.ref e1, .int (nI ln), .int (nI aa), .int (nI bg), .int (nI tk), .int (nI td), .int (nI rl), .int (nI rs), .int (nI rd), .ref e2, .ref e3, .ref e4, .int (nI n), .int (nI m), .ref e5, .ref e6, .ref e7, .int (nI be), .int (nI sd), .int (nI tu), .int (nI fo), .ref e8, .ref e9, .int (nI kn), .int (nI tl), .int (nI rn), .ref ea, .long tr, .ref eb])), (e5, .inl (G.2.2.1, 9, .inl (nF ru))), (e6, .inl (G.2.2.1, 15, .inl (nF la))), (e7, .inl (G.2.2.1, 15, .inl (nF lb)))]) F R0 rfl [0, 1, 2, 3] rfl rfl (⟨by rw [aMark, cb_0 hy, if_neg (fun z => absurd z.2 (by decide))], by rw [tMark, cb_0 hy, if_neg (fun z => absurd z.2 (by decide))]⟩) dX8_mark_22
  · skip
    exact absurd ⟨2, by decide, rfl⟩ hx

set_option maxHeartbeats 4000000 in
set_option maxRecDepth 100000 in
theorem c_X8_mark_3 (G : Gm) {e0 e1 e2 e3 e4 e5 e6 e7 e8 e9 ea eb : Nat} {ln aa bg tk td rl rs rd n m be sd tu fo kn tl rn : Nat} {ru la lb pa : Nat → Nat}  {tr : Int64} {y : Int32} (hT : Tok n m ru la lb) (hP : PrOk n m (be, sd, tu, fo, kn, pa)) : Mg G yX8_mark cX8_mark 5 (some .int) ({ frames := 2, cells := 0, slots := 0, locals := 46 } : Room) 0 0 [.ref e0, .int (nI 3), .int y] [(e0, .inr (8, [.ref e1, .int (nI ln), .int (nI aa), .int (nI bg), .int (nI tk), .int (nI td), .int (nI rl), .int (nI rs), .int (nI rd), .ref e2, .ref e3, .ref e4, .int (nI n), .int (nI m), .ref e5, .ref e6, .ref e7, .int (nI be), .int (nI sd), .int (nI tu), .int (nI fo), .ref e8, .ref e9, .int (nI kn), .int (nI tl), .int (nI rn), .ref ea, .long tr, .ref eb])), (e5, .inl (G.2.2.1, 9, .inl (nF ru))), (e6, .inl (G.2.2.1, 15, .inl (nF la))), (e7, .inl (G.2.2.1, 15, .inl (nF lb)))] (fun r w2 => r = some (.int (aMark n m ru la lb sd (nI 3) y)) ∧ w2 = [(e0, .inr (8, [.ref e1, .int (nI ln), .int (nI aa), .int (nI bg), .int (nI tk), .int (nI td), .int (nI rl), .int (nI rs), .int (nI rd), .ref e2, .ref e3, .ref e4, .int (nI n), .int (nI m), .ref e5, .ref e6, .ref e7, .int (nI be), .int (nI sd), .int (nI tu), .int (nI fo), .ref e8, .ref e9, .int (nI kn), .int (nI tl), .int (nI rn), .ref ea, .long (tMark n (nI 3) y tr), .ref eb])), (e5, .inl (G.2.2.1, 9, .inl (nF ru))), (e6, .inl (G.2.2.1, 15, .inl (nF la))), (e7, .inl (G.2.2.1, 15, .inl (nF lb)))]) := by
  have hn := hT.1
  have hm := hT.2.1
  have h9 := p9 hn
  have h15 := p15 hm
  have hsd : sd < 512 := by have := hP.2.1; dsimp only at this; omega
  have hfo : fo < 32768 := by have := hP.2.2.2.1; dsimp only at this; omega
  refine Mg.mk (lv := [(0, .ref e0), (1, .int (nI 3)), (2, .int y)]) (by decide) rfl rfl (fun X F R0 => ?_)
  refine j_iload_n (q := 1) (i0 := 1) F rfl dX8_mark_0 rfl ?_
  refine j_i2l (q := 2) (v := Int32.toInt64 (nI 3)) F rfl dX8_mark_1 rfl ?_
  refine j_lconst (q := 3) (v := 0) F (by decide) dX8_mark_2 rfl ?_
  refine j_ldc2 (q := 6) F tw_918 dX8_mark_3 rfl ?_
  refine j_callS (q := 9) (As := [.long (Int32.toInt64 (nI 3)), .long 0, .long 5]) (wr := [(e0, .inr (8, [.ref e1, .int (nI ln), .int (nI aa), .int (nI bg), .int (nI tk), .int (nI td), .int (nI rl), .int (nI rs), .int (nI rd), .ref e2, .ref e3, .ref e4, .int (nI n), .int (nI m), .ref e5, .ref e6, .ref e7, .int (nI be), .int (nI sd), .int (nI tu), .int (nI fo), .ref e8, .ref e9, .int (nI kn), .int (nI tl), .int (nI rn), .ref ea, .long tr, .ref eb])), (e5, .inl (G.2.2.1, 9, .inl (nF ru))), (e6, .inl (G.2.2.1, 15, .inl (nF la))), (e7, .inl (G.2.2.1, 15, .inl (nF lb)))]) (st := []) F (c_inR G (x := nI 3) (n := 6) rfl (by decide) rfl) kwX8_in tw_752 tw_751 ⟨Nat.le_of_ble_eq_true rfl, Nat.le_of_ble_eq_true rfl, rfl, rfl, Nat.le_of_ble_eq_true rfl, Nat.le_of_ble_eq_true rfl⟩ [] [0, 1, 2, 3] rfl rfl rfl rfl rfl rfl rfl (Nat.le_of_ble_eq_true rfl) dX8_mark_6 rfl ?_
  rintro r_ w_ ⟨rfl, (⟨rfl, hx⟩ | ⟨rfl, hx⟩)⟩
  · skip
    refine j_w (w' := [(e0, .inr (8, [.ref e1, .int (nI ln), .int (nI aa), .int (nI bg), .int (nI tk), .int (nI td), .int (nI rl), .int (nI rs), .int (nI rd), .ref e2, .ref e3, .ref e4, .int (nI n), .int (nI m), .ref e5, .ref e6, .ref e7, .int (nI be), .int (nI sd), .int (nI tu), .int (nI fo), .ref e8, .ref e9, .int (nI kn), .int (nI tl), .int (nI rn), .ref ea, .long tr, .ref eb])), (e5, .inl (G.2.2.1, 9, .inl (nF ru))), (e6, .inl (G.2.2.1, 15, .inl (nF la))), (e7, .inl (G.2.2.1, 15, .inl (nF lb)))]) [0, 1, 2, 3] rfl rfl ?_
    show Jw G X _ 0 0 9 _ [.int (nI 1)] _
    refine j_if_eq (q := 12) (t := 20) F (cf (by decide)) dX8_mark_9 rfl rfl (fun z => False.elim z) (fun _ => ?_)
    refine j_aload_n (q := 13) (i0 := 0) F rfl dX8_mark_12 rfl ?_
    refine j_iload_n (q := 14) (i0 := 2) F rfl dX8_mark_13 rfl ?_
    refine j_callV (q := 17) (ci := 8) (q0 := 0) (As := [.int y]) (wr := [(e5, .inl (G.2.2.1, 9, .inl (nF ru))), (e6, .inl (G.2.2.1, 15, .inl (nF la))), (e7, .inl (G.2.2.1, 15, .inl (nF lb)))]) (st := []) F (c_X8_isLamp G (x := y) hn) kwX8_isLamp tw_802 tw_27 tw_800 ⟨Nat.le_of_ble_eq_true rfl, Nat.le_of_ble_eq_true rfl, rfl, rfl, Nat.le_of_ble_eq_true rfl, Nat.le_of_ble_eq_true rfl⟩ [0] [1, 2, 3] rfl rfl rfl rfl rfl rfl rfl rfl rfl (Nat.le_of_ble_eq_true rfl) dX8_mark_14 rfl ?_
    rintro r_ w_ ⟨rfl, (⟨rfl, hy⟩ | ⟨rfl, hy⟩)⟩
    · skip
      refine j_w (w' := [(e0, .inr (8, [.ref e1, .int (nI ln), .int (nI aa), .int (nI bg), .int (nI tk), .int (nI td), .int (nI rl), .int (nI rs), .int (nI rd), .ref e2, .ref e3, .ref e4, .int (nI n), .int (nI m), .ref e5, .ref e6, .ref e7, .int (nI be), .int (nI sd), .int (nI tu), .int (nI fo), .ref e8, .ref e9, .int (nI kn), .int (nI tl), .int (nI rn), .ref ea, .long tr, .ref eb])), (e5, .inl (G.2.2.1, 9, .inl (nF ru))), (e6, .inl (G.2.2.1, 15, .inl (nF la))), (e7, .inl (G.2.2.1, 15, .inl (nF lb)))]) [3, 0, 1, 2] rfl rfl ?_
      show Jw G X _ 0 0 17 _ [.int (nI 1)] _
      refine j_if_ne (q := 20) (t := 23) F (cf (by decide)) dX8_mark_17 rfl rfl (fun _ => ?_) (fun z => False.elim z)
      have hc2 := cb_1 hy
      obtain ⟨i, hi, rfl⟩ := hy
      refine j_aload_n (q := 24) (i0 := 0) F rfl dX8_mark_23 rfl ?_
      refine j_dup (q := 25) F rfl dX8_mark_24 rfl ?_
      refine j_get (q := 28) (ci := 8) (q0 := 0) (kf := 27) (v := .long tr) F inX8 rfl rfl rfl tw_685 rfl rfl dX8_mark_25 rfl ?_
      refine j_iload_n (q := 29) (i0 := 1) F rfl dX8_mark_28 rfl ?_
      refine j_if_ne (q := 32) (t := 36) F (cf (by decide)) dX8_mark_29 rfl rfl (fun _ => ?_) (fun z => False.elim z)
      refine j_iload_n (q := 37) (i0 := 1) F rfl dX8_mark_36 rfl ?_
      refine j_iconst (q := 38) (v := nI 1) F (by decide) dX8_mark_37 rfl ?_
      refine j_icmp_ne (q := 41) (t := 47) F (cf (by decide)) dX8_mark_38 rfl rfl (fun _ => ?_) (fun z => False.elim z)
      refine j_iload_n (q := 48) (i0 := 1) F rfl dX8_mark_47 rfl ?_
      refine j_iconst (q := 49) (v := nI 2) F (by decide) dX8_mark_48 rfl ?_
      refine j_icmp_ne (q := 52) (t := 58) F (cf (by decide)) dX8_mark_49 rfl rfl (fun _ => ?_) (fun z => False.elim z)
      refine j_iload_n (q := 59) (i0 := 1) F rfl dX8_mark_58 rfl ?_
      refine j_iconst (q := 60) (v := nI 3) F (by decide) dX8_mark_59 rfl ?_
      refine j_icmp_ne (q := 63) (t := 69) F (ct (by decide)) dX8_mark_60 rfl rfl (fun z => absurd trivial z) (fun _ => ?_)
      refine j_ldc2 (q := 66) F tw_922 dX8_mark_63 rfl ?_
      refine j_goto (t := 83) F dX8_mark_66 rfl ?_
      refine j_ladd (q := 84) (v := tr + 1011) F rfl dX8_mark_83 rfl ?_
      refine j_put (q := 87) (ci := 8) (q0 := 0) (kf := 27) (v := .long (tr + 1011)) (w' := [(e0, .inr (8, [.ref e1, .int (nI ln), .int (nI aa), .int (nI bg), .int (nI tk), .int (nI td), .int (nI rl), .int (nI rs), .int (nI rd), .ref e2, .ref e3, .ref e4, .int (nI n), .int (nI m), .ref e5, .ref e6, .ref e7, .int (nI be), .int (nI sd), .int (nI tu), .int (nI fo), .ref e8, .ref e9, .int (nI kn), .int (nI tl), .int (nI rn), .ref ea, .long (tr + 1011), .ref eb])), (e5, .inl (G.2.2.1, 9, .inl (nF ru))), (e6, .inl (G.2.2.1, 15, .inl (nF la))), (e7, .inl (G.2.2.1, 15, .inl (nF lb)))]) F inX8 tyX8_ok nmX8 rfl rfl rfl tw_685 rfl rfl rfl rfl rfl rfl dX8_mark_84 rfl ?_
      refine j_aload_n (q := 88) (i0 := 0) F rfl dX8_mark_87 rfl ?_
      refine j_get (q := 91) (ci := 8) (q0 := 0) (kf := 18) (v := .int (nI sd)) F inX8 rfl rfl rfl tw_676 rfl rfl dX8_mark_88 rfl ?_
      refine j_iload_n (q := 92) (i0 := 2) F rfl dX8_mark_91 rfl ?_
      refine j_ishr (q := 93) (v := nI (sd >>> i)) F (nx_shr (by omega) (by omega)) dX8_mark_92 rfl ?_
      refine j_iconst (q := 94) (v := nI 1) F (by decide) dX8_mark_93 rfl ?_
      refine j_iand (q := 95) (v := nI (bitN sd i)) F (nx_and _ _) dX8_mark_94 rfl ?_
      refine j_istore_n (q := 96) (lv' := [(3, .int (nI (bitN sd i))), (0, .ref e0), (1, .int (nI 3)), (2, .int (nI i))]) F dX8_mark_95 (by decide) rfl rfl ?_
      refine j_aload_n (q := 97) (i0 := 1) F rfl dX8_mark_96 rfl ?_
      refine j_iload_n (q := 98) (i0 := 3) F rfl dX8_mark_97 rfl ?_
      refine j_iconst (q := 99) (v := nI 0) F (by decide) dX8_mark_98 rfl ?_
      refine j_callV (q := 102) (ci := 8) (q0 := 0) (As := [.int (nI i), .int (nI 0)]) (wr := [(e5, .inl (G.2.2.1, 9, .inl (nF ru)))]) (st := []) F (c_X8_beside G (l := i) (wo := 0) hT (by omega) (by decide)) kwX8_beside tw_806 tw_28 tw_804 ⟨Nat.le_of_ble_eq_true rfl, Nat.le_of_ble_eq_true rfl, rfl, rfl, Nat.le_of_ble_eq_true rfl, Nat.le_of_ble_eq_true rfl⟩ [0, 2, 3] [1] rfl rfl rfl rfl rfl rfl rfl rfl rfl (Nat.le_of_ble_eq_true rfl) dX8_mark_99 rfl ?_
      rintro r_ w_ ⟨rfl, rfl⟩
      refine j_w (w' := [(e0, .inr (8, [.ref e1, .int (nI ln), .int (nI aa), .int (nI bg), .int (nI tk), .int (nI td), .int (nI rl), .int (nI rs), .int (nI rd), .ref e2, .ref e3, .ref e4, .int (nI n), .int (nI m), .ref e5, .ref e6, .ref e7, .int (nI be), .int (nI sd), .int (nI tu), .int (nI fo), .ref e8, .ref e9, .int (nI kn), .int (nI tl), .int (nI rn), .ref ea, .long (tr + 1011), .ref eb])), (e5, .inl (G.2.2.1, 9, .inl (nF ru))), (e6, .inl (G.2.2.1, 15, .inl (nF la))), (e7, .inl (G.2.2.1, 15, .inl (nF lb)))]) [1, 0, 2, 3] rfl rfl ?_
      show Jw G X _ 0 0 102 _ [.int (nI (bsd la lb 0 i m))] _
      refine j_callS (q := 105) (As := [.int (nI (bsd la lb 0 i m))]) (wr := [(e0, .inr (8, [.ref e1, .int (nI ln), .int (nI aa), .int (nI bg), .int (nI tk), .int (nI td), .int (nI rl), .int (nI rs), .int (nI rd), .ref e2, .ref e3, .ref e4, .int (nI n), .int (nI m), .ref e5, .ref e6, .ref e7, .int (nI be), .int (nI sd), .int (nI tu), .int (nI fo), .ref e8, .ref e9, .int (nI kn), .int (nI tl), .int (nI rn), .ref ea, .long (tr + 1011), .ref eb])), (e5, .inl (G.2.2.1, 9, .inl (nF ru))), (e6, .inl (G.2.2.1, 15, .inl (nF la))), (e7, .inl (G.2.2.1, 15, .inl (nF lb)))]) (st := []) F (c_X8_many G (k := bsd la lb 0 i m) (Nat.lt_trans (bsd_lt hT 0 i) (by decide))) kwX8_many tw_809 tw_808 ⟨Nat.le_of_ble_eq_true rfl, Nat.le_of_ble_eq_true rfl, rfl, rfl, Nat.le_of_ble_eq_true rfl, Nat.le_of_ble_eq_true rfl⟩ [] [0, 1, 2, 3] rfl rfl rfl rfl rfl rfl rfl (Nat.le_of_ble_eq_true rfl) dX8_mark_102 rfl ?_
      rintro r_ w_ ⟨rfl, rfl⟩
      refine j_w (w' := [(e0, .inr (8, [.ref e1, .int (nI ln), .int (nI aa), .int (nI bg), .int (nI tk), .int (nI td), .int (nI rl), .int (nI rs), .int (nI rd), .ref e2, .ref e3, .ref e4, .int (nI n), .int (nI m), .ref e5, .ref e6, .ref e7, .int (nI be), .int (nI sd), .int (nI tu), .int (nI fo), .ref e8, .ref e9, .int (nI kn), .int (nI tl), .int (nI rn), .ref ea, .long (tr + 1011), .ref eb])), (e5, .inl (G.2.2.1, 9, .inl (nF ru))), (e6, .inl (G.2.2.1, 15, .inl (nF la))), (e7, .inl (G.2.2.1, 15, .inl (nF lb)))]) [0, 1, 2, 3] rfl rfl ?_
      show Jw G X _ 0 0 105 _ [.int (nI (pcN (bsd la lb 0 i m)))] _
      refine j_istore (q := 107) (lv' := [(4, .int (nI (pcN (bsd la lb 0 i m)))), (3, .int (nI (bitN sd i))), (0, .ref e0), (1, .int (nI 3)), (2, .int (nI i))]) F dX8_mark_105 (by decide) rfl rfl ?_
      refine j_iload_n (q := 108) (i0 := 3) F rfl dX8_mark_107 rfl ?_
      refine j_tabIn (t := 160) F dX8_mark_108 (by decide) (by decide) rfl rfl ?_
      refine j_iconst (q := 161) (v := nI 2) F (by decide) dX8_mark_160 rfl ?_
      refine j_iload_n (q := 162) (i0 := 1) F rfl dX8_mark_161 rfl ?_
      refine j_iload (q := 164) (i0 := 0) F rfl dX8_mark_162 rfl ?_
      refine j_iadd (q := 165) (v := nI ((bitN sd i) + (pcN (bsd la lb 0 i m)))) F (nI_add _ _) dX8_mark_164 rfl ?_
      refine j_imul (q := 166) (v := nI (2 * ((bitN sd i) + (pcN (bsd la lb 0 i m))))) F (pk_mul _ _) dX8_mark_165 rfl ?_
      exact j_iret (w2 := [(e0, .inr (8, [.ref e1, .int (nI ln), .int (nI aa), .int (nI bg), .int (nI tk), .int (nI td), .int (nI rl), .int (nI rs), .int (nI rd), .ref e2, .ref e3, .ref e4, .int (nI n), .int (nI m), .ref e5, .ref e6, .ref e7, .int (nI be), .int (nI sd), .int (nI tu), .int (nI fo), .ref e8, .ref e9, .int (nI kn), .int (nI tl), .int (nI rn), .ref ea, .long (tr + 1011), .ref eb])), (e5, .inl (G.2.2.1, 9, .inl (nF ru))), (e6, .inl (G.2.2.1, 15, .inl (nF la))), (e7, .inl (G.2.2.1, 15, .inl (nF lb)))]) F R0 rfl [0, 1, 2, 3] rfl rfl (⟨by rw [aMark, if_pos ⟨cb_1 (show inR (nI 3) 6 from ⟨3, by decide, rfl⟩), hc2⟩, nI_clamp (show 3 < 2 ^ 31 by decide), nI_clamp (show i < 2 ^ 31 by omega)]; exact congrArg (fun z => some (Value.int (nI z))) (Nat.mul_comm _ _), by rw [tMark, if_pos ⟨cb_1 (show inR (nI 3) 6 from ⟨3, by decide, rfl⟩), hc2⟩, nI_clamp (show 3 < 2 ^ 31 by decide)]; rfl⟩) dX8_mark_166
    · skip
      refine j_w (w' := [(e0, .inr (8, [.ref e1, .int (nI ln), .int (nI aa), .int (nI bg), .int (nI tk), .int (nI td), .int (nI rl), .int (nI rs), .int (nI rd), .ref e2, .ref e3, .ref e4, .int (nI n), .int (nI m), .ref e5, .ref e6, .ref e7, .int (nI be), .int (nI sd), .int (nI tu), .int (nI fo), .ref e8, .ref e9, .int (nI kn), .int (nI tl), .int (nI rn), .ref ea, .long tr, .ref eb])), (e5, .inl (G.2.2.1, 9, .inl (nF ru))), (e6, .inl (G.2.2.1, 15, .inl (nF la))), (e7, .inl (G.2.2.1, 15, .inl (nF lb)))]) [3, 0, 1, 2] rfl rfl ?_
      show Jw G X _ 0 0 17 _ [.int (nI 0)] _
      refine j_if_ne (q := 20) (t := 23) F (ct (by decide)) dX8_mark_17 rfl rfl (fun z => absurd trivial z) (fun _ => ?_)
      refine j_ldc (q := 22) F tw_919 dX8_mark_20 rfl ?_
      exact j_iret (w2 := [(e0, .inr (8, [.ref e1, .int (nI ln), .int (nI aa), .int (nI bg), .int (nI tk), .int (nI td), .int (nI rl), .int (nI rs), .int (nI rd), .ref e2, .ref e3, .ref e4, .int (nI n), .int (nI m), .ref e5, .ref e6, .ref e7, .int (nI be), .int (nI sd), .int (nI tu), .int (nI fo), .ref e8, .ref e9, .int (nI kn), .int (nI tl), .int (nI rn), .ref ea, .long tr, .ref eb])), (e5, .inl (G.2.2.1, 9, .inl (nF ru))), (e6, .inl (G.2.2.1, 15, .inl (nF la))), (e7, .inl (G.2.2.1, 15, .inl (nF lb)))]) F R0 rfl [0, 1, 2, 3] rfl rfl (⟨by rw [aMark, cb_0 hy, if_neg (fun z => absurd z.2 (by decide))], by rw [tMark, cb_0 hy, if_neg (fun z => absurd z.2 (by decide))]⟩) dX8_mark_22
  · skip
    exact absurd ⟨3, by decide, rfl⟩ hx

set_option maxHeartbeats 4000000 in
set_option maxRecDepth 100000 in
theorem c_X8_mark_4 (G : Gm) {e0 e1 e2 e3 e4 e5 e6 e7 e8 e9 ea eb : Nat} {ln aa bg tk td rl rs rd n m be sd tu fo kn tl rn : Nat} {ru la lb pa : Nat → Nat}  {tr : Int64} {y : Int32} (hT : Tok n m ru la lb) (hP : PrOk n m (be, sd, tu, fo, kn, pa)) : Mg G yX8_mark cX8_mark 5 (some .int) ({ frames := 2, cells := 0, slots := 0, locals := 46 } : Room) 0 0 [.ref e0, .int (nI 4), .int y] [(e0, .inr (8, [.ref e1, .int (nI ln), .int (nI aa), .int (nI bg), .int (nI tk), .int (nI td), .int (nI rl), .int (nI rs), .int (nI rd), .ref e2, .ref e3, .ref e4, .int (nI n), .int (nI m), .ref e5, .ref e6, .ref e7, .int (nI be), .int (nI sd), .int (nI tu), .int (nI fo), .ref e8, .ref e9, .int (nI kn), .int (nI tl), .int (nI rn), .ref ea, .long tr, .ref eb])), (e5, .inl (G.2.2.1, 9, .inl (nF ru))), (e6, .inl (G.2.2.1, 15, .inl (nF la))), (e7, .inl (G.2.2.1, 15, .inl (nF lb)))] (fun r w2 => r = some (.int (aMark n m ru la lb sd (nI 4) y)) ∧ w2 = [(e0, .inr (8, [.ref e1, .int (nI ln), .int (nI aa), .int (nI bg), .int (nI tk), .int (nI td), .int (nI rl), .int (nI rs), .int (nI rd), .ref e2, .ref e3, .ref e4, .int (nI n), .int (nI m), .ref e5, .ref e6, .ref e7, .int (nI be), .int (nI sd), .int (nI tu), .int (nI fo), .ref e8, .ref e9, .int (nI kn), .int (nI tl), .int (nI rn), .ref ea, .long (tMark n (nI 4) y tr), .ref eb])), (e5, .inl (G.2.2.1, 9, .inl (nF ru))), (e6, .inl (G.2.2.1, 15, .inl (nF la))), (e7, .inl (G.2.2.1, 15, .inl (nF lb)))]) := by
  have hn := hT.1
  have hm := hT.2.1
  have h9 := p9 hn
  have h15 := p15 hm
  have hsd : sd < 512 := by have := hP.2.1; dsimp only at this; omega
  have hfo : fo < 32768 := by have := hP.2.2.2.1; dsimp only at this; omega
  refine Mg.mk (lv := [(0, .ref e0), (1, .int (nI 4)), (2, .int y)]) (by decide) rfl rfl (fun X F R0 => ?_)
  refine j_iload_n (q := 1) (i0 := 1) F rfl dX8_mark_0 rfl ?_
  refine j_i2l (q := 2) (v := Int32.toInt64 (nI 4)) F rfl dX8_mark_1 rfl ?_
  refine j_lconst (q := 3) (v := 0) F (by decide) dX8_mark_2 rfl ?_
  refine j_ldc2 (q := 6) F tw_918 dX8_mark_3 rfl ?_
  refine j_callS (q := 9) (As := [.long (Int32.toInt64 (nI 4)), .long 0, .long 5]) (wr := [(e0, .inr (8, [.ref e1, .int (nI ln), .int (nI aa), .int (nI bg), .int (nI tk), .int (nI td), .int (nI rl), .int (nI rs), .int (nI rd), .ref e2, .ref e3, .ref e4, .int (nI n), .int (nI m), .ref e5, .ref e6, .ref e7, .int (nI be), .int (nI sd), .int (nI tu), .int (nI fo), .ref e8, .ref e9, .int (nI kn), .int (nI tl), .int (nI rn), .ref ea, .long tr, .ref eb])), (e5, .inl (G.2.2.1, 9, .inl (nF ru))), (e6, .inl (G.2.2.1, 15, .inl (nF la))), (e7, .inl (G.2.2.1, 15, .inl (nF lb)))]) (st := []) F (c_inR G (x := nI 4) (n := 6) rfl (by decide) rfl) kwX8_in tw_752 tw_751 ⟨Nat.le_of_ble_eq_true rfl, Nat.le_of_ble_eq_true rfl, rfl, rfl, Nat.le_of_ble_eq_true rfl, Nat.le_of_ble_eq_true rfl⟩ [] [0, 1, 2, 3] rfl rfl rfl rfl rfl rfl rfl (Nat.le_of_ble_eq_true rfl) dX8_mark_6 rfl ?_
  rintro r_ w_ ⟨rfl, (⟨rfl, hx⟩ | ⟨rfl, hx⟩)⟩
  · skip
    refine j_w (w' := [(e0, .inr (8, [.ref e1, .int (nI ln), .int (nI aa), .int (nI bg), .int (nI tk), .int (nI td), .int (nI rl), .int (nI rs), .int (nI rd), .ref e2, .ref e3, .ref e4, .int (nI n), .int (nI m), .ref e5, .ref e6, .ref e7, .int (nI be), .int (nI sd), .int (nI tu), .int (nI fo), .ref e8, .ref e9, .int (nI kn), .int (nI tl), .int (nI rn), .ref ea, .long tr, .ref eb])), (e5, .inl (G.2.2.1, 9, .inl (nF ru))), (e6, .inl (G.2.2.1, 15, .inl (nF la))), (e7, .inl (G.2.2.1, 15, .inl (nF lb)))]) [0, 1, 2, 3] rfl rfl ?_
    show Jw G X _ 0 0 9 _ [.int (nI 1)] _
    refine j_if_eq (q := 12) (t := 20) F (cf (by decide)) dX8_mark_9 rfl rfl (fun z => False.elim z) (fun _ => ?_)
    refine j_aload_n (q := 13) (i0 := 0) F rfl dX8_mark_12 rfl ?_
    refine j_iload_n (q := 14) (i0 := 2) F rfl dX8_mark_13 rfl ?_
    refine j_callV (q := 17) (ci := 8) (q0 := 0) (As := [.int y]) (wr := [(e5, .inl (G.2.2.1, 9, .inl (nF ru))), (e6, .inl (G.2.2.1, 15, .inl (nF la))), (e7, .inl (G.2.2.1, 15, .inl (nF lb)))]) (st := []) F (c_X8_isLamp G (x := y) hn) kwX8_isLamp tw_802 tw_27 tw_800 ⟨Nat.le_of_ble_eq_true rfl, Nat.le_of_ble_eq_true rfl, rfl, rfl, Nat.le_of_ble_eq_true rfl, Nat.le_of_ble_eq_true rfl⟩ [0] [1, 2, 3] rfl rfl rfl rfl rfl rfl rfl rfl rfl (Nat.le_of_ble_eq_true rfl) dX8_mark_14 rfl ?_
    rintro r_ w_ ⟨rfl, (⟨rfl, hy⟩ | ⟨rfl, hy⟩)⟩
    · skip
      refine j_w (w' := [(e0, .inr (8, [.ref e1, .int (nI ln), .int (nI aa), .int (nI bg), .int (nI tk), .int (nI td), .int (nI rl), .int (nI rs), .int (nI rd), .ref e2, .ref e3, .ref e4, .int (nI n), .int (nI m), .ref e5, .ref e6, .ref e7, .int (nI be), .int (nI sd), .int (nI tu), .int (nI fo), .ref e8, .ref e9, .int (nI kn), .int (nI tl), .int (nI rn), .ref ea, .long tr, .ref eb])), (e5, .inl (G.2.2.1, 9, .inl (nF ru))), (e6, .inl (G.2.2.1, 15, .inl (nF la))), (e7, .inl (G.2.2.1, 15, .inl (nF lb)))]) [3, 0, 1, 2] rfl rfl ?_
      show Jw G X _ 0 0 17 _ [.int (nI 1)] _
      refine j_if_ne (q := 20) (t := 23) F (cf (by decide)) dX8_mark_17 rfl rfl (fun _ => ?_) (fun z => False.elim z)
      have hc2 := cb_1 hy
      obtain ⟨i, hi, rfl⟩ := hy
      refine j_aload_n (q := 24) (i0 := 0) F rfl dX8_mark_23 rfl ?_
      refine j_dup (q := 25) F rfl dX8_mark_24 rfl ?_
      refine j_get (q := 28) (ci := 8) (q0 := 0) (kf := 27) (v := .long tr) F inX8 rfl rfl rfl tw_685 rfl rfl dX8_mark_25 rfl ?_
      refine j_iload_n (q := 29) (i0 := 1) F rfl dX8_mark_28 rfl ?_
      refine j_if_ne (q := 32) (t := 36) F (cf (by decide)) dX8_mark_29 rfl rfl (fun _ => ?_) (fun z => False.elim z)
      refine j_iload_n (q := 37) (i0 := 1) F rfl dX8_mark_36 rfl ?_
      refine j_iconst (q := 38) (v := nI 1) F (by decide) dX8_mark_37 rfl ?_
      refine j_icmp_ne (q := 41) (t := 47) F (cf (by decide)) dX8_mark_38 rfl rfl (fun _ => ?_) (fun z => False.elim z)
      refine j_iload_n (q := 48) (i0 := 1) F rfl dX8_mark_47 rfl ?_
      refine j_iconst (q := 49) (v := nI 2) F (by decide) dX8_mark_48 rfl ?_
      refine j_icmp_ne (q := 52) (t := 58) F (cf (by decide)) dX8_mark_49 rfl rfl (fun _ => ?_) (fun z => False.elim z)
      refine j_iload_n (q := 59) (i0 := 1) F rfl dX8_mark_58 rfl ?_
      refine j_iconst (q := 60) (v := nI 3) F (by decide) dX8_mark_59 rfl ?_
      refine j_icmp_ne (q := 63) (t := 69) F (cf (by decide)) dX8_mark_60 rfl rfl (fun _ => ?_) (fun z => False.elim z)
      refine j_iload_n (q := 70) (i0 := 1) F rfl dX8_mark_69 rfl ?_
      refine j_iconst (q := 71) (v := nI 4) F (by decide) dX8_mark_70 rfl ?_
      refine j_icmp_ne (q := 74) (t := 80) F (ct (by decide)) dX8_mark_71 rfl rfl (fun z => absurd trivial z) (fun _ => ?_)
      refine j_ldc2 (q := 77) F tw_923 dX8_mark_74 rfl ?_
      refine j_goto (t := 83) F dX8_mark_77 rfl ?_
      refine j_ladd (q := 84) (v := tr + 10101) F rfl dX8_mark_83 rfl ?_
      refine j_put (q := 87) (ci := 8) (q0 := 0) (kf := 27) (v := .long (tr + 10101)) (w' := [(e0, .inr (8, [.ref e1, .int (nI ln), .int (nI aa), .int (nI bg), .int (nI tk), .int (nI td), .int (nI rl), .int (nI rs), .int (nI rd), .ref e2, .ref e3, .ref e4, .int (nI n), .int (nI m), .ref e5, .ref e6, .ref e7, .int (nI be), .int (nI sd), .int (nI tu), .int (nI fo), .ref e8, .ref e9, .int (nI kn), .int (nI tl), .int (nI rn), .ref ea, .long (tr + 10101), .ref eb])), (e5, .inl (G.2.2.1, 9, .inl (nF ru))), (e6, .inl (G.2.2.1, 15, .inl (nF la))), (e7, .inl (G.2.2.1, 15, .inl (nF lb)))]) F inX8 tyX8_ok nmX8 rfl rfl rfl tw_685 rfl rfl rfl rfl rfl rfl dX8_mark_84 rfl ?_
      refine j_aload_n (q := 88) (i0 := 0) F rfl dX8_mark_87 rfl ?_
      refine j_get (q := 91) (ci := 8) (q0 := 0) (kf := 18) (v := .int (nI sd)) F inX8 rfl rfl rfl tw_676 rfl rfl dX8_mark_88 rfl ?_
      refine j_iload_n (q := 92) (i0 := 2) F rfl dX8_mark_91 rfl ?_
      refine j_ishr (q := 93) (v := nI (sd >>> i)) F (nx_shr (by omega) (by omega)) dX8_mark_92 rfl ?_
      refine j_iconst (q := 94) (v := nI 1) F (by decide) dX8_mark_93 rfl ?_
      refine j_iand (q := 95) (v := nI (bitN sd i)) F (nx_and _ _) dX8_mark_94 rfl ?_
      refine j_istore_n (q := 96) (lv' := [(3, .int (nI (bitN sd i))), (0, .ref e0), (1, .int (nI 4)), (2, .int (nI i))]) F dX8_mark_95 (by decide) rfl rfl ?_
      refine j_aload_n (q := 97) (i0 := 1) F rfl dX8_mark_96 rfl ?_
      refine j_iload_n (q := 98) (i0 := 3) F rfl dX8_mark_97 rfl ?_
      refine j_iconst (q := 99) (v := nI 0) F (by decide) dX8_mark_98 rfl ?_
      refine j_callV (q := 102) (ci := 8) (q0 := 0) (As := [.int (nI i), .int (nI 0)]) (wr := [(e5, .inl (G.2.2.1, 9, .inl (nF ru)))]) (st := []) F (c_X8_beside G (l := i) (wo := 0) hT (by omega) (by decide)) kwX8_beside tw_806 tw_28 tw_804 ⟨Nat.le_of_ble_eq_true rfl, Nat.le_of_ble_eq_true rfl, rfl, rfl, Nat.le_of_ble_eq_true rfl, Nat.le_of_ble_eq_true rfl⟩ [0, 2, 3] [1] rfl rfl rfl rfl rfl rfl rfl rfl rfl (Nat.le_of_ble_eq_true rfl) dX8_mark_99 rfl ?_
      rintro r_ w_ ⟨rfl, rfl⟩
      refine j_w (w' := [(e0, .inr (8, [.ref e1, .int (nI ln), .int (nI aa), .int (nI bg), .int (nI tk), .int (nI td), .int (nI rl), .int (nI rs), .int (nI rd), .ref e2, .ref e3, .ref e4, .int (nI n), .int (nI m), .ref e5, .ref e6, .ref e7, .int (nI be), .int (nI sd), .int (nI tu), .int (nI fo), .ref e8, .ref e9, .int (nI kn), .int (nI tl), .int (nI rn), .ref ea, .long (tr + 10101), .ref eb])), (e5, .inl (G.2.2.1, 9, .inl (nF ru))), (e6, .inl (G.2.2.1, 15, .inl (nF la))), (e7, .inl (G.2.2.1, 15, .inl (nF lb)))]) [1, 0, 2, 3] rfl rfl ?_
      show Jw G X _ 0 0 102 _ [.int (nI (bsd la lb 0 i m))] _
      refine j_callS (q := 105) (As := [.int (nI (bsd la lb 0 i m))]) (wr := [(e0, .inr (8, [.ref e1, .int (nI ln), .int (nI aa), .int (nI bg), .int (nI tk), .int (nI td), .int (nI rl), .int (nI rs), .int (nI rd), .ref e2, .ref e3, .ref e4, .int (nI n), .int (nI m), .ref e5, .ref e6, .ref e7, .int (nI be), .int (nI sd), .int (nI tu), .int (nI fo), .ref e8, .ref e9, .int (nI kn), .int (nI tl), .int (nI rn), .ref ea, .long (tr + 10101), .ref eb])), (e5, .inl (G.2.2.1, 9, .inl (nF ru))), (e6, .inl (G.2.2.1, 15, .inl (nF la))), (e7, .inl (G.2.2.1, 15, .inl (nF lb)))]) (st := []) F (c_X8_many G (k := bsd la lb 0 i m) (Nat.lt_trans (bsd_lt hT 0 i) (by decide))) kwX8_many tw_809 tw_808 ⟨Nat.le_of_ble_eq_true rfl, Nat.le_of_ble_eq_true rfl, rfl, rfl, Nat.le_of_ble_eq_true rfl, Nat.le_of_ble_eq_true rfl⟩ [] [0, 1, 2, 3] rfl rfl rfl rfl rfl rfl rfl (Nat.le_of_ble_eq_true rfl) dX8_mark_102 rfl ?_
      rintro r_ w_ ⟨rfl, rfl⟩
      refine j_w (w' := [(e0, .inr (8, [.ref e1, .int (nI ln), .int (nI aa), .int (nI bg), .int (nI tk), .int (nI td), .int (nI rl), .int (nI rs), .int (nI rd), .ref e2, .ref e3, .ref e4, .int (nI n), .int (nI m), .ref e5, .ref e6, .ref e7, .int (nI be), .int (nI sd), .int (nI tu), .int (nI fo), .ref e8, .ref e9, .int (nI kn), .int (nI tl), .int (nI rn), .ref ea, .long (tr + 10101), .ref eb])), (e5, .inl (G.2.2.1, 9, .inl (nF ru))), (e6, .inl (G.2.2.1, 15, .inl (nF la))), (e7, .inl (G.2.2.1, 15, .inl (nF lb)))]) [0, 1, 2, 3] rfl rfl ?_
      show Jw G X _ 0 0 105 _ [.int (nI (pcN (bsd la lb 0 i m)))] _
      refine j_istore (q := 107) (lv' := [(4, .int (nI (pcN (bsd la lb 0 i m)))), (3, .int (nI (bitN sd i))), (0, .ref e0), (1, .int (nI 4)), (2, .int (nI i))]) F dX8_mark_105 (by decide) rfl rfl ?_
      refine j_iload_n (q := 108) (i0 := 3) F rfl dX8_mark_107 rfl ?_
      refine j_tabIn (t := 167) F dX8_mark_108 (by decide) (by decide) rfl rfl ?_
      refine j_iload_n (q := 168) (i0 := 1) F rfl dX8_mark_167 rfl ?_
      refine j_aload_n (q := 169) (i0 := 2) F rfl dX8_mark_168 rfl ?_
      refine j_get (q := 172) (ci := 8) (q0 := 0) (kf := 14) (v := .ref e5) F inX8 rfl rfl rfl tw_672 rfl rfl dX8_mark_169 rfl ?_
      refine j_iload_n (q := 173) (i0 := 4) F rfl dX8_mark_172 rfl ?_
      refine j_iald (q := 174) (q0 := 1) (i := i) (v := nI (ru i)) F rfl rfl (by omega) rfl (rfl) dX8_mark_173 rfl ?_
      refine j_isub (q := 175) (v := nI (bitN sd i) - nI (ru i)) F (rfl) dX8_mark_174 rfl ?_
      refine j_iload_n (q := 176) (i0 := 4) F rfl dX8_mark_175 rfl ?_
      refine j_iadd (q := 177) (v := (nI (bitN sd i) - nI (ru i)) + (nI i)) F (rfl) dX8_mark_176 rfl ?_
      exact j_iret (w2 := [(e0, .inr (8, [.ref e1, .int (nI ln), .int (nI aa), .int (nI bg), .int (nI tk), .int (nI td), .int (nI rl), .int (nI rs), .int (nI rd), .ref e2, .ref e3, .ref e4, .int (nI n), .int (nI m), .ref e5, .ref e6, .ref e7, .int (nI be), .int (nI sd), .int (nI tu), .int (nI fo), .ref e8, .ref e9, .int (nI kn), .int (nI tl), .int (nI rn), .ref ea, .long (tr + 10101), .ref eb])), (e5, .inl (G.2.2.1, 9, .inl (nF ru))), (e6, .inl (G.2.2.1, 15, .inl (nF la))), (e7, .inl (G.2.2.1, 15, .inl (nF lb)))]) F R0 rfl [0, 1, 2, 3] rfl rfl (⟨by rw [aMark, if_pos ⟨cb_1 (show inR (nI 4) 6 from ⟨4, by decide, rfl⟩), hc2⟩, nI_clamp (show 4 < 2 ^ 31 by decide), nI_clamp (show i < 2 ^ 31 by omega)]; rfl, by rw [tMark, if_pos ⟨cb_1 (show inR (nI 4) 6 from ⟨4, by decide, rfl⟩), hc2⟩, nI_clamp (show 4 < 2 ^ 31 by decide)]; rfl⟩) dX8_mark_177
    · skip
      refine j_w (w' := [(e0, .inr (8, [.ref e1, .int (nI ln), .int (nI aa), .int (nI bg), .int (nI tk), .int (nI td), .int (nI rl), .int (nI rs), .int (nI rd), .ref e2, .ref e3, .ref e4, .int (nI n), .int (nI m), .ref e5, .ref e6, .ref e7, .int (nI be), .int (nI sd), .int (nI tu), .int (nI fo), .ref e8, .ref e9, .int (nI kn), .int (nI tl), .int (nI rn), .ref ea, .long tr, .ref eb])), (e5, .inl (G.2.2.1, 9, .inl (nF ru))), (e6, .inl (G.2.2.1, 15, .inl (nF la))), (e7, .inl (G.2.2.1, 15, .inl (nF lb)))]) [3, 0, 1, 2] rfl rfl ?_
      show Jw G X _ 0 0 17 _ [.int (nI 0)] _
      refine j_if_ne (q := 20) (t := 23) F (ct (by decide)) dX8_mark_17 rfl rfl (fun z => absurd trivial z) (fun _ => ?_)
      refine j_ldc (q := 22) F tw_919 dX8_mark_20 rfl ?_
      exact j_iret (w2 := [(e0, .inr (8, [.ref e1, .int (nI ln), .int (nI aa), .int (nI bg), .int (nI tk), .int (nI td), .int (nI rl), .int (nI rs), .int (nI rd), .ref e2, .ref e3, .ref e4, .int (nI n), .int (nI m), .ref e5, .ref e6, .ref e7, .int (nI be), .int (nI sd), .int (nI tu), .int (nI fo), .ref e8, .ref e9, .int (nI kn), .int (nI tl), .int (nI rn), .ref ea, .long tr, .ref eb])), (e5, .inl (G.2.2.1, 9, .inl (nF ru))), (e6, .inl (G.2.2.1, 15, .inl (nF la))), (e7, .inl (G.2.2.1, 15, .inl (nF lb)))]) F R0 rfl [0, 1, 2, 3] rfl rfl (⟨by rw [aMark, cb_0 hy, if_neg (fun z => absurd z.2 (by decide))], by rw [tMark, cb_0 hy, if_neg (fun z => absurd z.2 (by decide))]⟩) dX8_mark_22
  · skip
    exact absurd ⟨4, by decide, rfl⟩ hx

set_option maxHeartbeats 4000000 in
set_option maxRecDepth 100000 in
theorem c_X8_mark_5 (G : Gm) {e0 e1 e2 e3 e4 e5 e6 e7 e8 e9 ea eb : Nat} {ln aa bg tk td rl rs rd n m be sd tu fo kn tl rn : Nat} {ru la lb pa : Nat → Nat}  {tr : Int64} {y : Int32} (hT : Tok n m ru la lb) (hP : PrOk n m (be, sd, tu, fo, kn, pa)) : Mg G yX8_mark cX8_mark 5 (some .int) ({ frames := 2, cells := 0, slots := 0, locals := 46 } : Room) 0 0 [.ref e0, .int (nI 5), .int y] [(e0, .inr (8, [.ref e1, .int (nI ln), .int (nI aa), .int (nI bg), .int (nI tk), .int (nI td), .int (nI rl), .int (nI rs), .int (nI rd), .ref e2, .ref e3, .ref e4, .int (nI n), .int (nI m), .ref e5, .ref e6, .ref e7, .int (nI be), .int (nI sd), .int (nI tu), .int (nI fo), .ref e8, .ref e9, .int (nI kn), .int (nI tl), .int (nI rn), .ref ea, .long tr, .ref eb])), (e5, .inl (G.2.2.1, 9, .inl (nF ru))), (e6, .inl (G.2.2.1, 15, .inl (nF la))), (e7, .inl (G.2.2.1, 15, .inl (nF lb)))] (fun r w2 => r = some (.int (aMark n m ru la lb sd (nI 5) y)) ∧ w2 = [(e0, .inr (8, [.ref e1, .int (nI ln), .int (nI aa), .int (nI bg), .int (nI tk), .int (nI td), .int (nI rl), .int (nI rs), .int (nI rd), .ref e2, .ref e3, .ref e4, .int (nI n), .int (nI m), .ref e5, .ref e6, .ref e7, .int (nI be), .int (nI sd), .int (nI tu), .int (nI fo), .ref e8, .ref e9, .int (nI kn), .int (nI tl), .int (nI rn), .ref ea, .long (tMark n (nI 5) y tr), .ref eb])), (e5, .inl (G.2.2.1, 9, .inl (nF ru))), (e6, .inl (G.2.2.1, 15, .inl (nF la))), (e7, .inl (G.2.2.1, 15, .inl (nF lb)))]) := by
  have hn := hT.1
  have hm := hT.2.1
  have h9 := p9 hn
  have h15 := p15 hm
  have hsd : sd < 512 := by have := hP.2.1; dsimp only at this; omega
  have hfo : fo < 32768 := by have := hP.2.2.2.1; dsimp only at this; omega
  refine Mg.mk (lv := [(0, .ref e0), (1, .int (nI 5)), (2, .int y)]) (by decide) rfl rfl (fun X F R0 => ?_)
  refine j_iload_n (q := 1) (i0 := 1) F rfl dX8_mark_0 rfl ?_
  refine j_i2l (q := 2) (v := Int32.toInt64 (nI 5)) F rfl dX8_mark_1 rfl ?_
  refine j_lconst (q := 3) (v := 0) F (by decide) dX8_mark_2 rfl ?_
  refine j_ldc2 (q := 6) F tw_918 dX8_mark_3 rfl ?_
  refine j_callS (q := 9) (As := [.long (Int32.toInt64 (nI 5)), .long 0, .long 5]) (wr := [(e0, .inr (8, [.ref e1, .int (nI ln), .int (nI aa), .int (nI bg), .int (nI tk), .int (nI td), .int (nI rl), .int (nI rs), .int (nI rd), .ref e2, .ref e3, .ref e4, .int (nI n), .int (nI m), .ref e5, .ref e6, .ref e7, .int (nI be), .int (nI sd), .int (nI tu), .int (nI fo), .ref e8, .ref e9, .int (nI kn), .int (nI tl), .int (nI rn), .ref ea, .long tr, .ref eb])), (e5, .inl (G.2.2.1, 9, .inl (nF ru))), (e6, .inl (G.2.2.1, 15, .inl (nF la))), (e7, .inl (G.2.2.1, 15, .inl (nF lb)))]) (st := []) F (c_inR G (x := nI 5) (n := 6) rfl (by decide) rfl) kwX8_in tw_752 tw_751 ⟨Nat.le_of_ble_eq_true rfl, Nat.le_of_ble_eq_true rfl, rfl, rfl, Nat.le_of_ble_eq_true rfl, Nat.le_of_ble_eq_true rfl⟩ [] [0, 1, 2, 3] rfl rfl rfl rfl rfl rfl rfl (Nat.le_of_ble_eq_true rfl) dX8_mark_6 rfl ?_
  rintro r_ w_ ⟨rfl, (⟨rfl, hx⟩ | ⟨rfl, hx⟩)⟩
  · skip
    refine j_w (w' := [(e0, .inr (8, [.ref e1, .int (nI ln), .int (nI aa), .int (nI bg), .int (nI tk), .int (nI td), .int (nI rl), .int (nI rs), .int (nI rd), .ref e2, .ref e3, .ref e4, .int (nI n), .int (nI m), .ref e5, .ref e6, .ref e7, .int (nI be), .int (nI sd), .int (nI tu), .int (nI fo), .ref e8, .ref e9, .int (nI kn), .int (nI tl), .int (nI rn), .ref ea, .long tr, .ref eb])), (e5, .inl (G.2.2.1, 9, .inl (nF ru))), (e6, .inl (G.2.2.1, 15, .inl (nF la))), (e7, .inl (G.2.2.1, 15, .inl (nF lb)))]) [0, 1, 2, 3] rfl rfl ?_
    show Jw G X _ 0 0 9 _ [.int (nI 1)] _
    refine j_if_eq (q := 12) (t := 20) F (cf (by decide)) dX8_mark_9 rfl rfl (fun z => False.elim z) (fun _ => ?_)
    refine j_aload_n (q := 13) (i0 := 0) F rfl dX8_mark_12 rfl ?_
    refine j_iload_n (q := 14) (i0 := 2) F rfl dX8_mark_13 rfl ?_
    refine j_callV (q := 17) (ci := 8) (q0 := 0) (As := [.int y]) (wr := [(e5, .inl (G.2.2.1, 9, .inl (nF ru))), (e6, .inl (G.2.2.1, 15, .inl (nF la))), (e7, .inl (G.2.2.1, 15, .inl (nF lb)))]) (st := []) F (c_X8_isLamp G (x := y) hn) kwX8_isLamp tw_802 tw_27 tw_800 ⟨Nat.le_of_ble_eq_true rfl, Nat.le_of_ble_eq_true rfl, rfl, rfl, Nat.le_of_ble_eq_true rfl, Nat.le_of_ble_eq_true rfl⟩ [0] [1, 2, 3] rfl rfl rfl rfl rfl rfl rfl rfl rfl (Nat.le_of_ble_eq_true rfl) dX8_mark_14 rfl ?_
    rintro r_ w_ ⟨rfl, (⟨rfl, hy⟩ | ⟨rfl, hy⟩)⟩
    · skip
      refine j_w (w' := [(e0, .inr (8, [.ref e1, .int (nI ln), .int (nI aa), .int (nI bg), .int (nI tk), .int (nI td), .int (nI rl), .int (nI rs), .int (nI rd), .ref e2, .ref e3, .ref e4, .int (nI n), .int (nI m), .ref e5, .ref e6, .ref e7, .int (nI be), .int (nI sd), .int (nI tu), .int (nI fo), .ref e8, .ref e9, .int (nI kn), .int (nI tl), .int (nI rn), .ref ea, .long tr, .ref eb])), (e5, .inl (G.2.2.1, 9, .inl (nF ru))), (e6, .inl (G.2.2.1, 15, .inl (nF la))), (e7, .inl (G.2.2.1, 15, .inl (nF lb)))]) [3, 0, 1, 2] rfl rfl ?_
      show Jw G X _ 0 0 17 _ [.int (nI 1)] _
      refine j_if_ne (q := 20) (t := 23) F (cf (by decide)) dX8_mark_17 rfl rfl (fun _ => ?_) (fun z => False.elim z)
      have hc2 := cb_1 hy
      obtain ⟨i, hi, rfl⟩ := hy
      refine j_aload_n (q := 24) (i0 := 0) F rfl dX8_mark_23 rfl ?_
      refine j_dup (q := 25) F rfl dX8_mark_24 rfl ?_
      refine j_get (q := 28) (ci := 8) (q0 := 0) (kf := 27) (v := .long tr) F inX8 rfl rfl rfl tw_685 rfl rfl dX8_mark_25 rfl ?_
      refine j_iload_n (q := 29) (i0 := 1) F rfl dX8_mark_28 rfl ?_
      refine j_if_ne (q := 32) (t := 36) F (cf (by decide)) dX8_mark_29 rfl rfl (fun _ => ?_) (fun z => False.elim z)
      refine j_iload_n (q := 37) (i0 := 1) F rfl dX8_mark_36 rfl ?_
      refine j_iconst (q := 38) (v := nI 1) F (by decide) dX8_mark_37 rfl ?_
      refine j_icmp_ne (q := 41) (t := 47) F (cf (by decide)) dX8_mark_38 rfl rfl (fun _ => ?_) (fun z => False.elim z)
      refine j_iload_n (q := 48) (i0 := 1) F rfl dX8_mark_47 rfl ?_
      refine j_iconst (q := 49) (v := nI 2) F (by decide) dX8_mark_48 rfl ?_
      refine j_icmp_ne (q := 52) (t := 58) F (cf (by decide)) dX8_mark_49 rfl rfl (fun _ => ?_) (fun z => False.elim z)
      refine j_iload_n (q := 59) (i0 := 1) F rfl dX8_mark_58 rfl ?_
      refine j_iconst (q := 60) (v := nI 3) F (by decide) dX8_mark_59 rfl ?_
      refine j_icmp_ne (q := 63) (t := 69) F (cf (by decide)) dX8_mark_60 rfl rfl (fun _ => ?_) (fun z => False.elim z)
      refine j_iload_n (q := 70) (i0 := 1) F rfl dX8_mark_69 rfl ?_
      refine j_iconst (q := 71) (v := nI 4) F (by decide) dX8_mark_70 rfl ?_
      refine j_icmp_ne (q := 74) (t := 80) F (cf (by decide)) dX8_mark_71 rfl rfl (fun _ => ?_) (fun z => False.elim z)
      refine j_ldc2 (q := 83) F tw_924 dX8_mark_80 rfl ?_
      refine j_ladd (q := 84) (v := tr + 100001) F rfl dX8_mark_83 rfl ?_
      refine j_put (q := 87) (ci := 8) (q0 := 0) (kf := 27) (v := .long (tr + 100001)) (w' := [(e0, .inr (8, [.ref e1, .int (nI ln), .int (nI aa), .int (nI bg), .int (nI tk), .int (nI td), .int (nI rl), .int (nI rs), .int (nI rd), .ref e2, .ref e3, .ref e4, .int (nI n), .int (nI m), .ref e5, .ref e6, .ref e7, .int (nI be), .int (nI sd), .int (nI tu), .int (nI fo), .ref e8, .ref e9, .int (nI kn), .int (nI tl), .int (nI rn), .ref ea, .long (tr + 100001), .ref eb])), (e5, .inl (G.2.2.1, 9, .inl (nF ru))), (e6, .inl (G.2.2.1, 15, .inl (nF la))), (e7, .inl (G.2.2.1, 15, .inl (nF lb)))]) F inX8 tyX8_ok nmX8 rfl rfl rfl tw_685 rfl rfl rfl rfl rfl rfl dX8_mark_84 rfl ?_
      refine j_aload_n (q := 88) (i0 := 0) F rfl dX8_mark_87 rfl ?_
      refine j_get (q := 91) (ci := 8) (q0 := 0) (kf := 18) (v := .int (nI sd)) F inX8 rfl rfl rfl tw_676 rfl rfl dX8_mark_88 rfl ?_
      refine j_iload_n (q := 92) (i0 := 2) F rfl dX8_mark_91 rfl ?_
      refine j_ishr (q := 93) (v := nI (sd >>> i)) F (nx_shr (by omega) (by omega)) dX8_mark_92 rfl ?_
      refine j_iconst (q := 94) (v := nI 1) F (by decide) dX8_mark_93 rfl ?_
      refine j_iand (q := 95) (v := nI (bitN sd i)) F (nx_and _ _) dX8_mark_94 rfl ?_
      refine j_istore_n (q := 96) (lv' := [(3, .int (nI (bitN sd i))), (0, .ref e0), (1, .int (nI 5)), (2, .int (nI i))]) F dX8_mark_95 (by decide) rfl rfl ?_
      refine j_aload_n (q := 97) (i0 := 1) F rfl dX8_mark_96 rfl ?_
      refine j_iload_n (q := 98) (i0 := 3) F rfl dX8_mark_97 rfl ?_
      refine j_iconst (q := 99) (v := nI 0) F (by decide) dX8_mark_98 rfl ?_
      refine j_callV (q := 102) (ci := 8) (q0 := 0) (As := [.int (nI i), .int (nI 0)]) (wr := [(e5, .inl (G.2.2.1, 9, .inl (nF ru)))]) (st := []) F (c_X8_beside G (l := i) (wo := 0) hT (by omega) (by decide)) kwX8_beside tw_806 tw_28 tw_804 ⟨Nat.le_of_ble_eq_true rfl, Nat.le_of_ble_eq_true rfl, rfl, rfl, Nat.le_of_ble_eq_true rfl, Nat.le_of_ble_eq_true rfl⟩ [0, 2, 3] [1] rfl rfl rfl rfl rfl rfl rfl rfl rfl (Nat.le_of_ble_eq_true rfl) dX8_mark_99 rfl ?_
      rintro r_ w_ ⟨rfl, rfl⟩
      refine j_w (w' := [(e0, .inr (8, [.ref e1, .int (nI ln), .int (nI aa), .int (nI bg), .int (nI tk), .int (nI td), .int (nI rl), .int (nI rs), .int (nI rd), .ref e2, .ref e3, .ref e4, .int (nI n), .int (nI m), .ref e5, .ref e6, .ref e7, .int (nI be), .int (nI sd), .int (nI tu), .int (nI fo), .ref e8, .ref e9, .int (nI kn), .int (nI tl), .int (nI rn), .ref ea, .long (tr + 100001), .ref eb])), (e5, .inl (G.2.2.1, 9, .inl (nF ru))), (e6, .inl (G.2.2.1, 15, .inl (nF la))), (e7, .inl (G.2.2.1, 15, .inl (nF lb)))]) [1, 0, 2, 3] rfl rfl ?_
      show Jw G X _ 0 0 102 _ [.int (nI (bsd la lb 0 i m))] _
      refine j_callS (q := 105) (As := [.int (nI (bsd la lb 0 i m))]) (wr := [(e0, .inr (8, [.ref e1, .int (nI ln), .int (nI aa), .int (nI bg), .int (nI tk), .int (nI td), .int (nI rl), .int (nI rs), .int (nI rd), .ref e2, .ref e3, .ref e4, .int (nI n), .int (nI m), .ref e5, .ref e6, .ref e7, .int (nI be), .int (nI sd), .int (nI tu), .int (nI fo), .ref e8, .ref e9, .int (nI kn), .int (nI tl), .int (nI rn), .ref ea, .long (tr + 100001), .ref eb])), (e5, .inl (G.2.2.1, 9, .inl (nF ru))), (e6, .inl (G.2.2.1, 15, .inl (nF la))), (e7, .inl (G.2.2.1, 15, .inl (nF lb)))]) (st := []) F (c_X8_many G (k := bsd la lb 0 i m) (Nat.lt_trans (bsd_lt hT 0 i) (by decide))) kwX8_many tw_809 tw_808 ⟨Nat.le_of_ble_eq_true rfl, Nat.le_of_ble_eq_true rfl, rfl, rfl, Nat.le_of_ble_eq_true rfl, Nat.le_of_ble_eq_true rfl⟩ [] [0, 1, 2, 3] rfl rfl rfl rfl rfl rfl rfl (Nat.le_of_ble_eq_true rfl) dX8_mark_102 rfl ?_
      rintro r_ w_ ⟨rfl, rfl⟩
      refine j_w (w' := [(e0, .inr (8, [.ref e1, .int (nI ln), .int (nI aa), .int (nI bg), .int (nI tk), .int (nI td), .int (nI rl), .int (nI rs), .int (nI rd), .ref e2, .ref e3, .ref e4, .int (nI n), .int (nI m), .ref e5, .ref e6, .ref e7, .int (nI be), .int (nI sd), .int (nI tu), .int (nI fo), .ref e8, .ref e9, .int (nI kn), .int (nI tl), .int (nI rn), .ref ea, .long (tr + 100001), .ref eb])), (e5, .inl (G.2.2.1, 9, .inl (nF ru))), (e6, .inl (G.2.2.1, 15, .inl (nF la))), (e7, .inl (G.2.2.1, 15, .inl (nF lb)))]) [0, 1, 2, 3] rfl rfl ?_
      show Jw G X _ 0 0 105 _ [.int (nI (pcN (bsd la lb 0 i m)))] _
      refine j_istore (q := 107) (lv' := [(4, .int (nI (pcN (bsd la lb 0 i m)))), (3, .int (nI (bitN sd i))), (0, .ref e0), (1, .int (nI 5)), (2, .int (nI i))]) F dX8_mark_105 (by decide) rfl rfl ?_
      refine j_iload_n (q := 108) (i0 := 3) F rfl dX8_mark_107 rfl ?_
      refine j_tabOut (t := 178) F dX8_mark_108 (by decide) rfl ?_
      refine j_iload_n (q := 179) (i0 := 1) F rfl dX8_mark_178 rfl ?_
      refine j_aload_n (q := 180) (i0 := 2) F rfl dX8_mark_179 rfl ?_
      refine j_get (q := 183) (ci := 8) (q0 := 0) (kf := 18) (v := .int (nI sd)) F inX8 rfl rfl rfl tw_676 rfl rfl dX8_mark_180 rfl ?_
      refine j_callS (q := 186) (As := [.int (nI sd)]) (wr := [(e0, .inr (8, [.ref e1, .int (nI ln), .int (nI aa), .int (nI bg), .int (nI tk), .int (nI td), .int (nI rl), .int (nI rs), .int (nI rd), .ref e2, .ref e3, .ref e4, .int (nI n), .int (nI m), .ref e5, .ref e6, .ref e7, .int (nI be), .int (nI sd), .int (nI tu), .int (nI fo), .ref e8, .ref e9, .int (nI kn), .int (nI tl), .int (nI rn), .ref ea, .long (tr + 100001), .ref eb])), (e5, .inl (G.2.2.1, 9, .inl (nF ru))), (e6, .inl (G.2.2.1, 15, .inl (nF la))), (e7, .inl (G.2.2.1, 15, .inl (nF lb)))]) (st := [.int (nI (bitN sd i))]) F (c_X8_many G (k := sd) (by omega)) kwX8_many tw_809 tw_808 ⟨Nat.le_of_ble_eq_true rfl, Nat.le_of_ble_eq_true rfl, rfl, rfl, Nat.le_of_ble_eq_true rfl, Nat.le_of_ble_eq_true rfl⟩ [] [0, 1, 2, 3] rfl rfl rfl rfl rfl rfl rfl (Nat.le_of_ble_eq_true rfl) dX8_mark_183 rfl ?_
      rintro r_ w_ ⟨rfl, rfl⟩
      refine j_w (w' := [(e0, .inr (8, [.ref e1, .int (nI ln), .int (nI aa), .int (nI bg), .int (nI tk), .int (nI td), .int (nI rl), .int (nI rs), .int (nI rd), .ref e2, .ref e3, .ref e4, .int (nI n), .int (nI m), .ref e5, .ref e6, .ref e7, .int (nI be), .int (nI sd), .int (nI tu), .int (nI fo), .ref e8, .ref e9, .int (nI kn), .int (nI tl), .int (nI rn), .ref ea, .long (tr + 100001), .ref eb])), (e5, .inl (G.2.2.1, 9, .inl (nF ru))), (e6, .inl (G.2.2.1, 15, .inl (nF la))), (e7, .inl (G.2.2.1, 15, .inl (nF lb)))]) [0, 1, 2, 3] rfl rfl ?_
      show Jw G X _ 0 0 186 _ [.int (nI (pcN sd)), .int (nI (bitN sd i))] _
      refine j_iadd (q := 187) (v := nI ((bitN sd i) + (pcN sd))) F (nI_add _ _) dX8_mark_186 rfl ?_
      exact j_iret (w2 := [(e0, .inr (8, [.ref e1, .int (nI ln), .int (nI aa), .int (nI bg), .int (nI tk), .int (nI td), .int (nI rl), .int (nI rs), .int (nI rd), .ref e2, .ref e3, .ref e4, .int (nI n), .int (nI m), .ref e5, .ref e6, .ref e7, .int (nI be), .int (nI sd), .int (nI tu), .int (nI fo), .ref e8, .ref e9, .int (nI kn), .int (nI tl), .int (nI rn), .ref ea, .long (tr + 100001), .ref eb])), (e5, .inl (G.2.2.1, 9, .inl (nF ru))), (e6, .inl (G.2.2.1, 15, .inl (nF la))), (e7, .inl (G.2.2.1, 15, .inl (nF lb)))]) F R0 rfl [0, 1, 2, 3] rfl rfl (⟨by rw [aMark, if_pos ⟨cb_1 (show inR (nI 5) 6 from ⟨5, by decide, rfl⟩), hc2⟩, nI_clamp (show 5 < 2 ^ 31 by decide), nI_clamp (show i < 2 ^ 31 by omega)]; rfl, by rw [tMark, if_pos ⟨cb_1 (show inR (nI 5) 6 from ⟨5, by decide, rfl⟩), hc2⟩, nI_clamp (show 5 < 2 ^ 31 by decide)]; rfl⟩) dX8_mark_187
    · skip
      refine j_w (w' := [(e0, .inr (8, [.ref e1, .int (nI ln), .int (nI aa), .int (nI bg), .int (nI tk), .int (nI td), .int (nI rl), .int (nI rs), .int (nI rd), .ref e2, .ref e3, .ref e4, .int (nI n), .int (nI m), .ref e5, .ref e6, .ref e7, .int (nI be), .int (nI sd), .int (nI tu), .int (nI fo), .ref e8, .ref e9, .int (nI kn), .int (nI tl), .int (nI rn), .ref ea, .long tr, .ref eb])), (e5, .inl (G.2.2.1, 9, .inl (nF ru))), (e6, .inl (G.2.2.1, 15, .inl (nF la))), (e7, .inl (G.2.2.1, 15, .inl (nF lb)))]) [3, 0, 1, 2] rfl rfl ?_
      show Jw G X _ 0 0 17 _ [.int (nI 0)] _
      refine j_if_ne (q := 20) (t := 23) F (ct (by decide)) dX8_mark_17 rfl rfl (fun z => absurd trivial z) (fun _ => ?_)
      refine j_ldc (q := 22) F tw_919 dX8_mark_20 rfl ?_
      exact j_iret (w2 := [(e0, .inr (8, [.ref e1, .int (nI ln), .int (nI aa), .int (nI bg), .int (nI tk), .int (nI td), .int (nI rl), .int (nI rs), .int (nI rd), .ref e2, .ref e3, .ref e4, .int (nI n), .int (nI m), .ref e5, .ref e6, .ref e7, .int (nI be), .int (nI sd), .int (nI tu), .int (nI fo), .ref e8, .ref e9, .int (nI kn), .int (nI tl), .int (nI rn), .ref ea, .long tr, .ref eb])), (e5, .inl (G.2.2.1, 9, .inl (nF ru))), (e6, .inl (G.2.2.1, 15, .inl (nF la))), (e7, .inl (G.2.2.1, 15, .inl (nF lb)))]) F R0 rfl [0, 1, 2, 3] rfl rfl (⟨by rw [aMark, cb_0 hy, if_neg (fun z => absurd z.2 (by decide))], by rw [tMark, cb_0 hy, if_neg (fun z => absurd z.2 (by decide))]⟩) dX8_mark_22
  · skip
    exact absurd ⟨5, by decide, rfl⟩ hx

set_option maxHeartbeats 4000000 in
set_option maxRecDepth 100000 in
theorem c_X8_mark_b (G : Gm) {e0 e1 e2 e3 e4 e5 e6 e7 e8 e9 ea eb : Nat} {ln aa bg tk td rl rs rd n m be sd tu fo kn tl rn : Nat} {ru la lb : Nat → Nat}  {tr : Int64} {x y : Int32} (hx : ¬ inR x 6) : Mg G yX8_mark cX8_mark 5 (some .int) ({ frames := 2, cells := 0, slots := 0, locals := 46 } : Room) 0 0 [.ref e0, .int x, .int y] [(e0, .inr (8, [.ref e1, .int (nI ln), .int (nI aa), .int (nI bg), .int (nI tk), .int (nI td), .int (nI rl), .int (nI rs), .int (nI rd), .ref e2, .ref e3, .ref e4, .int (nI n), .int (nI m), .ref e5, .ref e6, .ref e7, .int (nI be), .int (nI sd), .int (nI tu), .int (nI fo), .ref e8, .ref e9, .int (nI kn), .int (nI tl), .int (nI rn), .ref ea, .long tr, .ref eb])), (e5, .inl (G.2.2.1, 9, .inl (nF ru))), (e6, .inl (G.2.2.1, 15, .inl (nF la))), (e7, .inl (G.2.2.1, 15, .inl (nF lb)))] (fun r w2 => r = some (.int (-1000000)) ∧ w2 = [(e0, .inr (8, [.ref e1, .int (nI ln), .int (nI aa), .int (nI bg), .int (nI tk), .int (nI td), .int (nI rl), .int (nI rs), .int (nI rd), .ref e2, .ref e3, .ref e4, .int (nI n), .int (nI m), .ref e5, .ref e6, .ref e7, .int (nI be), .int (nI sd), .int (nI tu), .int (nI fo), .ref e8, .ref e9, .int (nI kn), .int (nI tl), .int (nI rn), .ref ea, .long tr, .ref eb])), (e5, .inl (G.2.2.1, 9, .inl (nF ru))), (e6, .inl (G.2.2.1, 15, .inl (nF la))), (e7, .inl (G.2.2.1, 15, .inl (nF lb)))]) := by
  refine Mg.mk (lv := [(0, .ref e0), (1, .int x), (2, .int y)]) (by decide) rfl rfl (fun X F R0 => ?_)
  refine j_iload_n (q := 1) (i0 := 1) F rfl dX8_mark_0 rfl ?_
  refine j_i2l (q := 2) (v := Int32.toInt64 x) F rfl dX8_mark_1 rfl ?_
  refine j_lconst (q := 3) (v := 0) F (by decide) dX8_mark_2 rfl ?_
  refine j_ldc2 (q := 6) F tw_918 dX8_mark_3 rfl ?_
  refine j_callS (q := 9) (As := [.long (Int32.toInt64 x), .long 0, .long 5]) (wr := [(e0, .inr (8, [.ref e1, .int (nI ln), .int (nI aa), .int (nI bg), .int (nI tk), .int (nI td), .int (nI rl), .int (nI rs), .int (nI rd), .ref e2, .ref e3, .ref e4, .int (nI n), .int (nI m), .ref e5, .ref e6, .ref e7, .int (nI be), .int (nI sd), .int (nI tu), .int (nI fo), .ref e8, .ref e9, .int (nI kn), .int (nI tl), .int (nI rn), .ref ea, .long tr, .ref eb])), (e5, .inl (G.2.2.1, 9, .inl (nF ru))), (e6, .inl (G.2.2.1, 15, .inl (nF la))), (e7, .inl (G.2.2.1, 15, .inl (nF lb)))]) (st := []) F (c_inR G (x := x) (n := 6) rfl (by decide) rfl) kwX8_in tw_752 tw_751 ⟨Nat.le_of_ble_eq_true rfl, Nat.le_of_ble_eq_true rfl, rfl, rfl, Nat.le_of_ble_eq_true rfl, Nat.le_of_ble_eq_true rfl⟩ [] [0, 1, 2, 3] rfl rfl rfl rfl rfl rfl rfl (Nat.le_of_ble_eq_true rfl) dX8_mark_6 rfl ?_
  rintro r_ w_ ⟨rfl, (⟨rfl, hx2⟩ | ⟨rfl, hx2⟩)⟩
  · skip
    exact absurd hx2 hx
  · skip
    refine j_w (w' := [(e0, .inr (8, [.ref e1, .int (nI ln), .int (nI aa), .int (nI bg), .int (nI tk), .int (nI td), .int (nI rl), .int (nI rs), .int (nI rd), .ref e2, .ref e3, .ref e4, .int (nI n), .int (nI m), .ref e5, .ref e6, .ref e7, .int (nI be), .int (nI sd), .int (nI tu), .int (nI fo), .ref e8, .ref e9, .int (nI kn), .int (nI tl), .int (nI rn), .ref ea, .long tr, .ref eb])), (e5, .inl (G.2.2.1, 9, .inl (nF ru))), (e6, .inl (G.2.2.1, 15, .inl (nF la))), (e7, .inl (G.2.2.1, 15, .inl (nF lb)))]) [0, 1, 2, 3] rfl rfl ?_
    show Jw G X _ 0 0 9 _ [.int (nI 0)] _
    refine j_if_eq (q := 12) (t := 20) F (ct (by decide)) dX8_mark_9 rfl rfl (fun _ => ?_) (fun z => absurd trivial z)
    refine j_ldc (q := 22) F tw_919 dX8_mark_20 rfl ?_
    exact j_iret (w2 := [(e0, .inr (8, [.ref e1, .int (nI ln), .int (nI aa), .int (nI bg), .int (nI tk), .int (nI td), .int (nI rl), .int (nI rs), .int (nI rd), .ref e2, .ref e3, .ref e4, .int (nI n), .int (nI m), .ref e5, .ref e6, .ref e7, .int (nI be), .int (nI sd), .int (nI tu), .int (nI fo), .ref e8, .ref e9, .int (nI kn), .int (nI tl), .int (nI rn), .ref ea, .long tr, .ref eb])), (e5, .inl (G.2.2.1, 9, .inl (nF ru))), (e6, .inl (G.2.2.1, 15, .inl (nF la))), (e7, .inl (G.2.2.1, 15, .inl (nF lb)))]) F R0 rfl [0, 1, 2, 3] rfl rfl (⟨rfl, rfl⟩) dX8_mark_22

theorem c_X8_mark (G : Gm) {e0 e1 e2 e3 e4 e5 e6 e7 e8 e9 ea eb : Nat} {ln aa bg tk td rl rs rd n m be sd tu fo kn tl rn : Nat} {ru la lb pa : Nat → Nat} {tr : Int64} {x y : Int32} (hT : Tok n m ru la lb) (hP : PrOk n m (be, sd, tu, fo, kn, pa)) : Mg G yX8_mark cX8_mark 5 (some .int) ({ frames := 2, cells := 0, slots := 0, locals := 46 } : Room) 0 0 [.ref e0, .int x, .int y] [(e0, .inr (8, [.ref e1, .int (nI ln), .int (nI aa), .int (nI bg), .int (nI tk), .int (nI td), .int (nI rl), .int (nI rs), .int (nI rd), .ref e2, .ref e3, .ref e4, .int (nI n), .int (nI m), .ref e5, .ref e6, .ref e7, .int (nI be), .int (nI sd), .int (nI tu), .int (nI fo), .ref e8, .ref e9, .int (nI kn), .int (nI tl), .int (nI rn), .ref ea, .long tr, .ref eb])), (e5, .inl (G.2.2.1, 9, .inl (nF ru))), (e6, .inl (G.2.2.1, 15, .inl (nF la))), (e7, .inl (G.2.2.1, 15, .inl (nF lb)))] (fun r w2 => r = some (.int (aMark n m ru la lb sd x y)) ∧ w2 = [(e0, .inr (8, [.ref e1, .int (nI ln), .int (nI aa), .int (nI bg), .int (nI tk), .int (nI td), .int (nI rl), .int (nI rs), .int (nI rd), .ref e2, .ref e3, .ref e4, .int (nI n), .int (nI m), .ref e5, .ref e6, .ref e7, .int (nI be), .int (nI sd), .int (nI tu), .int (nI fo), .ref e8, .ref e9, .int (nI kn), .int (nI tl), .int (nI rn), .ref ea, .long (tMark n x y tr), .ref eb])), (e5, .inl (G.2.2.1, 9, .inl (nF ru))), (e6, .inl (G.2.2.1, 15, .inl (nF la))), (e7, .inl (G.2.2.1, 15, .inl (nF lb)))]) := by
  by_cases h : inR x 6
  · obtain ⟨kd, hk, rfl⟩ := h
    rcases (show kd = 0 ∨ kd = 1 ∨ kd = 2 ∨ kd = 3 ∨ kd = 4 ∨ kd = 5 by omega) with rfl | rfl | rfl | rfl | rfl | rfl
    · exact c_X8_mark_0 G hT hP
    · exact c_X8_mark_1 G hT hP
    · exact c_X8_mark_2 G hT hP
    · exact c_X8_mark_3 G hT hP
    · exact c_X8_mark_4 G hT hP
    · exact c_X8_mark_5 G hT hP
  · refine (c_X8_mark_b G h).imp fun r w2 z => ?_
    rw [aMark, tMark, cb_0 h, if_neg (fun z => absurd z.1 (by decide)), if_neg (fun z => absurd z.1 (by decide))]
    exact z
