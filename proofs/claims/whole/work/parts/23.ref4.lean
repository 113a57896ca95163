set_option maxHeartbeats 4000000 in
set_option maxRecDepth 100000 in
theorem c_X8_type (G : Gm) {e0 e1 e2 e3 e4 e5 e6 e7 e8 e9 ea eb : Nat} {ln aa bg tk td rl rs rd n m be sd tu fo kn tl rn : Nat} {bt : Nat → Nat}  {tr : Int64} {x : Int32} (hx0 : TxOk ln bt) : Mg G yX8_type cX8_type 2 (some .int) ({ frames := 1, cells := 0, slots := 0, locals := 25 } : Room) 0 0 [.ref e0, .int x] [(e0, .inr (8, [.ref e1, .int (nI ln), .int (nI aa), .int (nI bg), .int (nI tk), .int (nI td), .int (nI rl), .int (nI rs), .int (nI rd), .ref e2, .ref e3, .ref e4, .int (nI n), .int (nI m), .ref e5, .ref e6, .ref e7, .int (nI be), .int (nI sd), .int (nI tu), .int (nI fo), .ref e8, .ref e9, .int (nI kn), .int (nI tl), .int (nI rn), .ref ea, .long tr, .ref eb])), (e1, .inl (G.2.2.1, 200, .inl (nF bt)))] (fun r w2 => r = some (.int (aType ln x)) ∧ w2 = [(e0, .inr (8, [.ref e1, .int (nI (lType ln x)), .int (nI aa), .int (nI bg), .int (nI tk), .int (nI td), .int (nI rl), .int (nI rs), .int (nI rd), .ref e2, .ref e3, .ref e4, .int (nI n), .int (nI m), .ref e5, .ref e6, .ref e7, .int (nI be), .int (nI sd), .int (nI tu), .int (nI fo), .ref e8, .ref e9, .int (nI kn), .int (nI tl), .int (nI rn), .ref ea, .long tr, .ref eb])), (e1, .inl (G.2.2.1, 200, .inl (nF (bType ln bt x))))]) := by
  have hln := hx0.1
  refine Mg.mk (lv := [(0, .ref e0), (1, .int x)]) (by decide) rfl rfl (fun X F R0 => ?_)
  refine j_iload_n (q := 1) (i0 := 1) F rfl dX8_type_0 rfl ?_
  refine j_i2l (q := 2) (v := Int32.toInt64 x) F rfl dX8_type_1 rfl ?_
  refine j_lconst (q := 3) (v := 0) F (by decide) dX8_type_2 rfl ?_
  refine j_ldc2 (q := 6) F tw_750 dX8_type_3 rfl ?_
  refine j_callS (q := 9) (As := [.long (Int32.toInt64 x), .long 0, .long 255]) (wr := [(e0, .inr (8, [.ref e1, .int (nI ln), .int (nI aa), .int (nI bg), .int (nI tk), .int (nI td), .int (nI rl), .int (nI rs), .int (nI rd), .ref e2, .ref e3, .ref e4, .int (nI n), .int (nI m), .ref e5, .ref e6, .ref e7, .int (nI be), .int (nI sd), .int (nI tu), .int (nI fo), .ref e8, .ref e9, .int (nI kn), .int (nI tl), .int (nI rn), .ref ea, .long tr, .ref eb])), (e1, .inl (G.2.2.1, 200, .inl (nF bt)))]) (st := []) F (c_inR G (x := x) (n := 256) rfl (by decide) (rfl)) kwX8_in tw_752 tw_751 ⟨Nat.le_of_ble_eq_true rfl, Nat.le_of_ble_eq_true rfl, rfl, rfl, Nat.le_of_ble_eq_true rfl, Nat.le_of_ble_eq_true rfl⟩ [] [0, 1] rfl rfl rfl rfl rfl rfl rfl (Nat.le_of_ble_eq_true rfl) dX8_type_6 rfl ?_
  rintro r_ w_ ⟨rfl, (⟨rfl, hx⟩ | ⟨rfl, hx⟩)⟩
  · skip
    refine j_w (w' := [(e0, .inr (8, [.ref e1, .int (nI ln), .int (nI aa), .int (nI bg), .int (nI tk), .int (nI td), .int (nI rl), .int (nI rs), .int (nI rd), .ref e2, .ref e3, .ref e4, .int (nI n), .int (nI m), .ref e5, .ref e6, .ref e7, .int (nI be), .int (nI sd), .int (nI tu), .int (nI fo), .ref e8, .ref e9, .int (nI kn), .int (nI tl), .int (nI rn), .ref ea, .long tr, .ref eb])), (e1, .inl (G.2.2.1, 200, .inl (nF bt)))]) [0, 1] rfl rfl ?_
    show Jw G X _ 0 0 9 _ [.int (nI 1)] _
    refine j_if_ne (q := 12) (t := 14) F (cf (by decide)) dX8_type_9 rfl rfl (fun _ => ?_) (fun z => False.elim z)
    have hc := cb_1 hx
    obtain ⟨j, hj, rfl⟩ := hx
    refine j_aload_n (q := 15) (i0 := 0) F rfl dX8_type_14 rfl ?_
    refine j_get (q := 18) (ci := 8) (q0 := 0) (kf := 1) (v := .int (nI ln)) F inX8 rfl rfl rfl tw_659 rfl rfl dX8_type_15 rfl ?_
    refine j_sipush (q := 21) (v := nI 200) F (by decide) dX8_type_18 rfl ?_
    refine j_icmp_ne (q := 24) (t := 27) F (Pp := ln = 200) (nI_eq (by omega) (by omega)) dX8_type_21 rfl rfl (fun c2 => ?_) (fun c2 => ?_)
    · skip
      refine j_aload_n (q := 28) (i0 := 0) F rfl dX8_type_27 rfl ?_
      refine j_get (q := 31) (ci := 8) (q0 := 0) (kf := 0) (v := .ref e1) F inX8 rfl rfl rfl tw_658 rfl rfl dX8_type_28 rfl ?_
      refine j_aload_n (q := 32) (i0 := 0) F rfl dX8_type_31 rfl ?_
      refine j_get (q := 35) (ci := 8) (q0 := 0) (kf := 1) (v := .int (nI ln)) F inX8 rfl rfl rfl tw_659 rfl rfl dX8_type_32 rfl ?_
      refine j_iload_n (q := 36) (i0 := 1) F rfl dX8_type_35 rfl ?_
      refine j_iast (q := 37) (q0 := 1) (i := ln) (f2 := nF (va_up bt ln j)) (w' := [(e0, .inr (8, [.ref e1, .int (nI ln), .int (nI aa), .int (nI bg), .int (nI tk), .int (nI td), .int (nI rl), .int (nI rs), .int (nI rd), .ref e2, .ref e3, .ref e4, .int (nI n), .int (nI m), .ref e5, .ref e6, .ref e7, .int (nI be), .int (nI sd), .int (nI tu), .int (nI fo), .ref e8, .ref e9, .int (nI kn), .int (nI tl), .int (nI rn), .ref ea, .long tr, .ref eb])), (e1, .inl (G.2.2.1, 200, .inl (nF (va_up bt ln j))))]) F rfl rfl (by omega) rfl (nF_up _ _ _) rfl dX8_type_36 rfl ?_
      refine j_aload_n (q := 38) (i0 := 0) F rfl dX8_type_37 rfl ?_
      refine j_dup (q := 39) F rfl dX8_type_38 rfl ?_
      refine j_get (q := 42) (ci := 8) (q0 := 0) (kf := 1) (v := .int (nI ln)) F inX8 rfl rfl rfl tw_659 rfl rfl dX8_type_39 rfl ?_
      refine j_iconst (q := 43) (v := nI 1) F (by decide) dX8_type_42 rfl ?_
      refine j_iadd (q := 44) (v := nI (ln + 1)) F (nI_add _ _) dX8_type_43 rfl ?_
      refine j_put (q := 47) (ci := 8) (q0 := 0) (kf := 1) (v := .int (nI (ln + 1))) (w' := [(e0, .inr (8, [.ref e1, .int (nI (ln + 1)), .int (nI aa), .int (nI bg), .int (nI tk), .int (nI td), .int (nI rl), .int (nI rs), .int (nI rd), .ref e2, .ref e3, .ref e4, .int (nI n), .int (nI m), .ref e5, .ref e6, .ref e7, .int (nI be), .int (nI sd), .int (nI tu), .int (nI fo), .ref e8, .ref e9, .int (nI kn), .int (nI tl), .int (nI rn), .ref ea, .long tr, .ref eb])), (e1, .inl (G.2.2.1, 200, .inl (nF (va_up bt ln j))))]) F inX8 tyX8_ok nmX8 rfl rfl rfl tw_659 rfl rfl rfl rfl rfl rfl dX8_type_44 rfl ?_
      refine j_aload_n (q := 48) (i0 := 0) F rfl dX8_type_47 rfl ?_
      refine j_get (q := 51) (ci := 8) (q0 := 0) (kf := 1) (v := .int (nI (ln + 1))) F inX8 rfl rfl rfl tw_659 rfl rfl dX8_type_48 rfl ?_
      exact j_iret (w2 := [(e0, .inr (8, [.ref e1, .int (nI (ln + 1)), .int (nI aa), .int (nI bg), .int (nI tk), .int (nI td), .int (nI rl), .int (nI rs), .int (nI rd), .ref e2, .ref e3, .ref e4, .int (nI n), .int (nI m), .ref e5, .ref e6, .ref e7, .int (nI be), .int (nI sd), .int (nI tu), .int (nI fo), .ref e8, .ref e9, .int (nI kn), .int (nI tl), .int (nI rn), .ref ea, .long tr, .ref eb])), (e1, .inl (G.2.2.1, 200, .inl (nF (va_up bt ln j))))]) F R0 rfl [0, 1] rfl rfl (⟨by rw [aType, if_pos hc, if_pos (by omega)], by rw [lType, bType, if_pos ⟨hc, by omega⟩, if_pos ⟨hc, by omega⟩, nI_clamp (by omega)]⟩) dX8_type_51
    · skip
      refine j_bipush (q := 26) (v := (-3)) F (by decide) dX8_type_24 rfl ?_
      exact j_iret (w2 := [(e0, .inr (8, [.ref e1, .int (nI ln), .int (nI aa), .int (nI bg), .int (nI tk), .int (nI td), .int (nI rl), .int (nI rs), .int (nI rd), .ref e2, .ref e3, .ref e4, .int (nI n), .int (nI m), .ref e5, .ref e6, .ref e7, .int (nI be), .int (nI sd), .int (nI tu), .int (nI fo), .ref e8, .ref e9, .int (nI kn), .int (nI tl), .int (nI rn), .ref ea, .long tr, .ref eb])), (e1, .inl (G.2.2.1, 200, .inl (nF bt)))]) F R0 rfl [0, 1] rfl rfl (⟨by rw [aType, if_pos hc, if_neg (by omega)], by rw [lType, bType, if_neg (fun z => by have := z.2; omega), if_neg (fun z => by have := z.2; omega)]⟩) dX8_type_26
  · skip
    refine j_w (w' := [(e0, .inr (8, [.ref e1, .int (nI ln), .int (nI aa), .int (nI bg), .int (nI tk), .int (nI td), .int (nI rl), .int (nI rs), .int (nI rd), .ref e2, .ref e3, .ref e4, .int (nI n), .int (nI m), .ref e5, .ref e6, .ref e7, .int (nI be), .int (nI sd), .int (nI tu), .int (nI fo), .ref e8, .ref e9, .int (nI kn), .int (nI tl), .int (nI rn), .ref ea, .long tr, .ref eb])), (e1, .inl (G.2.2.1, 200, .inl (nF bt)))]) [0, 1] rfl rfl ?_
    show Jw G X _ 0 0 9 _ [.int (nI 0)] _
    refine j_if_ne (q := 12) (t := 14) F (ct (by decide)) dX8_type_9 rfl rfl (fun z => absurd trivial z) (fun _ => ?_)
    refine j_iconst (q := 13) (v := (-1)) F (by decide) dX8_type_12 rfl ?_
    exact j_iret (w2 := [(e0, .inr (8, [.ref e1, .int (nI ln), .int (nI aa), .int (nI bg), .int (nI tk), .int (nI td), .int (nI rl), .int (nI rs), .int (nI rd), .ref e2, .ref e3, .ref e4, .int (nI n), .int (nI m), .ref e5, .ref e6, .ref e7, .int (nI be), .int (nI sd), .int (nI tu), .int (nI fo), .ref e8, .ref e9, .int (nI kn), .int (nI tl), .int (nI rn), .ref ea, .long tr, .ref eb])), (e1, .inl (G.2.2.1, 200, .inl (nF bt)))]) F R0 rfl [0, 1] rfl rfl (⟨by rw [aType, cb_0 hx, if_neg (by decide)], by rw [lType, bType, cb_0 hx, if_neg (fun z => absurd z.1 (by decide)), if_neg (fun z => absurd z.1 (by decide))]⟩) dX8_type_13

set_option maxHeartbeats 4000000 in
set_option maxRecDepth 100000 in
theorem c_X8_clear (G : Gm) {e0 e1 e2 e3 e4 e5 e6 e7 e8 e9 ea eb : Nat} {ln aa bg tk td rl rs rd n m be sd tu fo kn tl rn : Nat}   {tr : Int64}  : Mg G yX8_clear cX8_clear 2 (some .int) ({ frames := 0, cells := 0, slots := 0, locals := 0 } : Room) 0 0 [.ref e0] [(e0, .inr (8, [.ref e1, .int (nI ln), .int (nI aa), .int (nI bg), .int (nI tk), .int (nI td), .int (nI rl), .int (nI rs), .int (nI rd), .ref e2, .ref e3, .ref e4, .int (nI n), .int (nI m), .ref e5, .ref e6, .ref e7, .int (nI be), .int (nI sd), .int (nI tu), .int (nI fo), .ref e8, .ref e9, .int (nI kn), .int (nI tl), .int (nI rn), .ref ea, .long tr, .ref eb]))] (fun r w2 => r = some (.int (nI ln)) ∧ w2 = [(e0, .inr (8, [.ref e1, .int (nI 0), .int (nI aa), .int (nI bg), .int (nI tk), .int (nI td), .int (nI rl), .int (nI rs), .int (nI rd), .ref e2, .ref e3, .ref e4, .int (nI n), .int (nI m), .ref e5, .ref e6, .ref e7, .int (nI be), .int (nI sd), .int (nI tu), .int (nI fo), .ref e8, .ref e9, .int (nI kn), .int (nI tl), .int (nI rn), .ref ea, .long tr, .ref eb]))]) := by
  refine Mg.mk (lv := [(0, .ref e0)]) (by decide) rfl rfl (fun X F R0 => ?_)
  refine j_aload_n (q := 1) (i0 := 0) F rfl dX8_clear_0 rfl ?_
  refine j_get (q := 4) (ci := 8) (q0 := 0) (kf := 1) (v := .int (nI ln)) F inX8 rfl rfl rfl tw_659 rfl rfl dX8_clear_1 rfl ?_
  refine j_istore_n (q := 5) (lv' := [(1, .int (nI ln)), (0, .ref e0)]) F dX8_clear_4 (by decide) rfl rfl ?_
  refine j_aload_n (q := 6) (i0 := 1) F rfl dX8_clear_5 rfl ?_
  refine j_iconst (q := 7) (v := nI 0) F (by decide) dX8_clear_6 rfl ?_
  refine j_put (q := 10) (ci := 8) (q0 := 0) (kf := 1) (v := .int (nI 0)) (w' := [(e0, .inr (8, [.ref e1, .int (nI 0), .int (nI aa), .int (nI bg), .int (nI tk), .int (nI td), .int (nI rl), .int (nI rs), .int (nI rd), .ref e2, .ref e3, .ref e4, .int (nI n), .int (nI m), .ref e5, .ref e6, .ref e7, .int (nI be), .int (nI sd), .int (nI tu), .int (nI fo), .ref e8, .ref e9, .int (nI kn), .int (nI tl), .int (nI rn), .ref ea, .long tr, .ref eb]))]) F inX8 tyX8_ok nmX8 rfl rfl rfl tw_659 rfl rfl rfl rfl rfl rfl dX8_clear_7 rfl ?_
  refine j_iload_n (q := 11) (i0 := 0) F rfl dX8_clear_10 rfl ?_
  exact j_iret (w2 := [(e0, .inr (8, [.ref e1, .int (nI 0), .int (nI aa), .int (nI bg), .int (nI tk), .int (nI td), .int (nI rl), .int (nI rs), .int (nI rd), .ref e2, .ref e3, .ref e4, .int (nI n), .int (nI m), .ref e5, .ref e6, .ref e7, .int (nI be), .int (nI sd), .int (nI tu), .int (nI fo), .ref e8, .ref e9, .int (nI kn), .int (nI tl), .int (nI rn), .ref ea, .long tr, .ref eb]))]) F R0 rfl [0] rfl rfl (⟨rfl, rfl⟩) dX8_clear_11

set_option maxHeartbeats 4000000 in
set_option maxRecDepth 100000 in
theorem c_X8_trace (G : Gm) {e0 e1 e2 e3 e4 e5 e6 e7 e8 e9 ea eb : Nat} {ln aa bg tk td rl rs rd n m be sd tu fo kn tl rn : Nat}   {tr : Int64}  : Mg G yX8_trace cX8_trace 1 (some .long) ({ frames := 0, cells := 0, slots := 0, locals := 0 } : Room) 0 0 [.ref e0] [(e0, .inr (8, [.ref e1, .int (nI ln), .int (nI aa), .int (nI bg), .int (nI tk), .int (nI td), .int (nI rl), .int (nI rs), .int (nI rd), .ref e2, .ref e3, .ref e4, .int (nI n), .int (nI m), .ref e5, .ref e6, .ref e7, .int (nI be), .int (nI sd), .int (nI tu), .int (nI fo), .ref e8, .ref e9, .int (nI kn), .int (nI tl), .int (nI rn), .ref ea, .long tr, .ref eb]))] (fun r w2 => r = some (.long tr) ∧ w2 = [(e0, .inr (8, [.ref e1, .int (nI ln), .int (nI aa), .int (nI bg), .int (nI tk), .int (nI td), .int (nI rl), .int (nI rs), .int (nI rd), .ref e2, .ref e3, .ref e4, .int (nI n), .int (nI m), .ref e5, .ref e6, .ref e7, .int (nI be), .int (nI sd), .int (nI tu), .int (nI fo), .ref e8, .ref e9, .int (nI kn), .int (nI tl), .int (nI rn), .ref ea, .long tr, .ref eb]))]) := by
  refine Mg.mk (lv := [(0, .ref e0)]) (by decide) rfl rfl (fun X F R0 => ?_)
  refine j_aload_n (q := 1) (i0 := 0) F rfl dX8_trace_0 rfl ?_
  refine j_get (q := 4) (ci := 8) (q0 := 0) (kf := 27) (v := .long tr) F inX8 rfl rfl rfl tw_685 rfl rfl dX8_trace_1 rfl ?_
  exact j_lret (w2 := [(e0, .inr (8, [.ref e1, .int (nI ln), .int (nI aa), .int (nI bg), .int (nI tk), .int (nI td), .int (nI rl), .int (nI rs), .int (nI rd), .ref e2, .ref e3, .ref e4, .int (nI n), .int (nI m), .ref e5, .ref e6, .ref e7, .int (nI be), .int (nI sd), .int (nI tu), .int (nI fo), .ref e8, .ref e9, .int (nI kn), .int (nI tl), .int (nI rn), .ref ea, .long tr, .ref eb]))]) F R0 rfl [0] rfl rfl (⟨rfl, rfl⟩) dX8_trace_4

set_option maxHeartbeats 4000000 in
set_option maxRecDepth 100000 in
theorem c_X8_count (G : Gm) {e0 e1 e2 e3 e4 e5 e6 e7 e8 e9 ea eb : Nat} {ln aa bg tk td rl rs rd n m be sd tu fo kn tl rn : Nat}   {tr : Int64} {y : Int32}  : Mg G yX8_count cX8_count 2 (some .int) ({ frames := 0, cells := 0, slots := 0, locals := 0 } : Room) 0 0 [.ref e0, .int y] [(e0, .inr (8, [.ref e1, .int (nI ln), .int (nI aa), .int (nI bg), .int (nI tk), .int (nI td), .int (nI rl), .int (nI rs), .int (nI rd), .ref e2, .ref e3, .ref e4, .int (nI n), .int (nI m), .ref e5, .ref e6, .ref e7, .int (nI be), .int (nI sd), .int (nI tu), .int (nI fo), .ref e8, .ref e9, .int (nI kn), .int (nI tl), .int (nI rn), .ref ea, .long tr, .ref eb]))] (fun r w2 => r = some (.int (aCount n m kn ln y)) ∧ w2 = [(e0, .inr (8, [.ref e1, .int (nI ln), .int (nI aa), .int (nI bg), .int (nI tk), .int (nI td), .int (nI rl), .int (nI rs), .int (nI rd), .ref e2, .ref e3, .ref e4, .int (nI n), .int (nI m), .ref e5, .ref e6, .ref e7, .int (nI be), .int (nI sd), .int (nI tu), .int (nI fo), .ref e8, .ref e9, .int (nI kn), .int (nI tl), .int (nI rn), .ref ea, .long tr, .ref eb]))]) := by
  refine Mg.mk (lv := [(0, .ref e0), (1, .int y)]) (by decide) rfl rfl (fun X F R0 => ?_)
  refine j_iload_n (q := 1) (i0 := 1) F rfl dX8_count_0 rfl ?_
  rcases sw_3 y with rfl | rfl | rfl | rfl | hs1
  · refine j_tabIn (t := 32) F dX8_count_1 (by decide) (by decide) rfl rfl ?_
    refine j_aload_n (q := 33) (i0 := 0) F rfl dX8_count_32 rfl ?_
    refine j_get (q := 36) (ci := 8) (q0 := 0) (kf := 12) (v := .int (nI n)) F inX8 rfl rfl rfl tw_670 rfl rfl dX8_count_33 rfl ?_
    exact j_iret (w2 := [(e0, .inr (8, [.ref e1, .int (nI ln), .int (nI aa), .int (nI bg), .int (nI tk), .int (nI td), .int (nI rl), .int (nI rs), .int (nI rd), .ref e2, .ref e3, .ref e4, .int (nI n), .int (nI m), .ref e5, .ref e6, .ref e7, .int (nI be), .int (nI sd), .int (nI tu), .int (nI fo), .ref e8, .ref e9, .int (nI kn), .int (nI tl), .int (nI rn), .ref ea, .long tr, .ref eb]))]) F R0 rfl [0] rfl rfl (⟨by rw [aCount, if_pos rfl], rfl⟩) dX8_count_36
  · refine j_tabIn (t := 37) F dX8_count_1 (by decide) (by decide) rfl rfl ?_
    refine j_aload_n (q := 38) (i0 := 0) F rfl dX8_count_37 rfl ?_
    refine j_get (q := 41) (ci := 8) (q0 := 0) (kf := 13) (v := .int (nI m)) F inX8 rfl rfl rfl tw_671 rfl rfl dX8_count_38 rfl ?_
    exact j_iret (w2 := [(e0, .inr (8, [.ref e1, .int (nI ln), .int (nI aa), .int (nI bg), .int (nI tk), .int (nI td), .int (nI rl), .int (nI rs), .int (nI rd), .ref e2, .ref e3, .ref e4, .int (nI n), .int (nI m), .ref e5, .ref e6, .ref e7, .int (nI be), .int (nI sd), .int (nI tu), .int (nI fo), .ref e8, .ref e9, .int (nI kn), .int (nI tl), .int (nI rn), .ref ea, .long tr, .ref eb]))]) F R0 rfl [0] rfl rfl (⟨by rw [aCount, if_neg (by decide), if_pos rfl], rfl⟩) dX8_count_41
  · refine j_tabIn (t := 42) F dX8_count_1 (by decide) (by decide) rfl rfl ?_
    refine j_aload_n (q := 43) (i0 := 0) F rfl dX8_count_42 rfl ?_
    refine j_get (q := 46) (ci := 8) (q0 := 0) (kf := 23) (v := .int (nI kn)) F inX8 rfl rfl rfl tw_681 rfl rfl dX8_count_43 rfl ?_
    exact j_iret (w2 := [(e0, .inr (8, [.ref e1, .int (nI ln), .int (nI aa), .int (nI bg), .int (nI tk), .int (nI td), .int (nI rl), .int (nI rs), .int (nI rd), .ref e2, .ref e3, .ref e4, .int (nI n), .int (nI m), .ref e5, .ref e6, .ref e7, .int (nI be), .int (nI sd), .int (nI tu), .int (nI fo), .ref e8, .ref e9, .int (nI kn), .int (nI tl), .int (nI rn), .ref ea, .long tr, .ref eb]))]) F R0 rfl [0] rfl rfl (⟨by rw [aCount, if_neg (by decide), if_neg (by decide), if_pos rfl], rfl⟩) dX8_count_46
  · refine j_tabIn (t := 47) F dX8_count_1 (by decide) (by decide) rfl rfl ?_
    refine j_aload_n (q := 48) (i0 := 0) F rfl dX8_count_47 rfl ?_
    refine j_get (q := 51) (ci := 8) (q0 := 0) (kf := 1) (v := .int (nI ln)) F inX8 rfl rfl rfl tw_659 rfl rfl dX8_count_48 rfl ?_
    exact j_iret (w2 := [(e0, .inr (8, [.ref e1, .int (nI ln), .int (nI aa), .int (nI bg), .int (nI tk), .int (nI td), .int (nI rl), .int (nI rs), .int (nI rd), .ref e2, .ref e3, .ref e4, .int (nI n), .int (nI m), .ref e5, .ref e6, .ref e7, .int (nI be), .int (nI sd), .int (nI tu), .int (nI fo), .ref e8, .ref e9, .int (nI kn), .int (nI tl), .int (nI rn), .ref ea, .long tr, .ref eb]))]) F R0 rfl [0] rfl rfl (⟨by rw [aCount, if_neg (by decide), if_neg (by decide), if_neg (by decide), if_pos rfl], rfl⟩) dX8_count_51
  · refine j_tabOut (t := 52) F dX8_count_1 hs1 rfl ?_
    refine j_iconst (q := 53) (v := (-1)) F (by decide) dX8_count_52 rfl ?_
    exact j_iret (w2 := [(e0, .inr (8, [.ref e1, .int (nI ln), .int (nI aa), .int (nI bg), .int (nI tk), .int (nI td), .int (nI rl), .int (nI rs), .int (nI rd), .ref e2, .ref e3, .ref e4, .int (nI n), .int (nI m), .ref e5, .ref e6, .ref e7, .int (nI be), .int (nI sd), .int (nI tu), .int (nI fo), .ref e8, .ref e9, .int (nI kn), .int (nI tl), .int (nI rn), .ref ea, .long tr, .ref eb]))]) F R0 rfl [0] rfl rfl (⟨by rw [aCount, if_neg (sw_out hs1 (N := 3) (by decide) (by decide)), if_neg (sw_out hs1 (N := 3) (by decide) (by decide)), if_neg (sw_out hs1 (N := 3) (by decide) (by decide)), if_neg (sw_out hs1 (N := 3) (by decide) (by decide))], rfl⟩) dX8_count_53

set_option maxHeartbeats 4000000 in
set_option maxRecDepth 100000 in
theorem c_X8_now (G : Gm) {e0 e1 e2 e3 e4 e5 e6 e7 e8 e9 ea eb : Nat} {ln aa bg tk td rl rs rd n m be sd tu fo kn tl rn : Nat} {pa : Nat → Nat}  {tr : Int64} {y : Int32} (hP : PrOk n m (be, sd, tu, fo, kn, pa)) (hn : n ≤ 9) : Mg G yX8_now cX8_now 2 (some .int) ({ frames := 1, cells := 0, slots := 0, locals := 22 } : Room) 0 0 [.ref e0, .int y] [(e0, .inr (8, [.ref e1, .int (nI ln), .int (nI aa), .int (nI bg), .int (nI tk), .int (nI td), .int (nI rl), .int (nI rs), .int (nI rd), .ref e2, .ref e3, .ref e4, .int (nI n), .int (nI m), .ref e5, .ref e6, .ref e7, .int (nI be), .int (nI sd), .int (nI tu), .int (nI fo), .ref e8, .ref e9, .int (nI kn), .int (nI tl), .int (nI rn), .ref ea, .long tr, .ref eb]))] (fun r w2 => r = some (.int (aNow (be, sd, tu, fo, kn, pa) y)) ∧ w2 = [(e0, .inr (8, [.ref e1, .int (nI ln), .int (nI aa), .int (nI bg), .int (nI tk), .int (nI td), .int (nI rl), .int (nI rs), .int (nI rd), .ref e2, .ref e3, .ref e4, .int (nI n), .int (nI m), .ref e5, .ref e6, .ref e7, .int (nI be), .int (nI sd), .int (nI tu), .int (nI fo), .ref e8, .ref e9, .int (nI kn), .int (nI tl), .int (nI rn), .ref ea, .long tr, .ref eb]))]) := by
  have h9 := p9 hn
  have hsd : sd < 512 := by have := hP.2.1; dsimp only at this; omega
  have htu : tu ≤ 3 := hP.2.2.1
  refine Mg.mk (lv := [(0, .ref e0), (1, .int y)]) (by decide) rfl rfl (fun X F R0 => ?_)
  refine j_iload_n (q := 1) (i0 := 1) F rfl dX8_now_0 rfl ?_
  rcases sw_4 y with rfl | rfl | rfl | rfl | rfl | hs1
  · refine j_tabIn (t := 36) F dX8_now_1 (by decide) (by decide) rfl rfl ?_
    refine j_aload_n (q := 37) (i0 := 0) F rfl dX8_now_36 rfl ?_
    refine j_get (q := 40) (ci := 8) (q0 := 0) (kf := 17) (v := .int (nI be)) F inX8 rfl rfl rfl tw_675 rfl rfl dX8_now_37 rfl ?_
    exact j_iret (w2 := [(e0, .inr (8, [.ref e1, .int (nI ln), .int (nI aa), .int (nI bg), .int (nI tk), .int (nI td), .int (nI rl), .int (nI rs), .int (nI rd), .ref e2, .ref e3, .ref e4, .int (nI n), .int (nI m), .ref e5, .ref e6, .ref e7, .int (nI be), .int (nI sd), .int (nI tu), .int (nI fo), .ref e8, .ref e9, .int (nI kn), .int (nI tl), .int (nI rn), .ref ea, .long tr, .ref eb]))]) F R0 rfl [0] rfl rfl (⟨by rw [aNow, if_pos rfl], rfl⟩) dX8_now_40
  · refine j_tabIn (t := 41) F dX8_now_1 (by decide) (by decide) rfl rfl ?_
    refine j_aload_n (q := 42) (i0 := 0) F rfl dX8_now_41 rfl ?_
    refine j_get (q := 45) (ci := 8) (q0 := 0) (kf := 18) (v := .int (nI sd)) F inX8 rfl rfl rfl tw_676 rfl rfl dX8_now_42 rfl ?_
    exact j_iret (w2 := [(e0, .inr (8, [.ref e1, .int (nI ln), .int (nI aa), .int (nI bg), .int (nI tk), .int (nI td), .int (nI rl), .int (nI rs), .int (nI rd), .ref e2, .ref e3, .ref e4, .int (nI n), .int (nI m), .ref e5, .ref e6, .ref e7, .int (nI be), .int (nI sd), .int (nI tu), .int (nI fo), .ref e8, .ref e9, .int (nI kn), .int (nI tl), .int (nI rn), .ref ea, .long tr, .ref eb]))]) F R0 rfl [0] rfl rfl (⟨by rw [aNow, if_neg (by decide), if_pos rfl], rfl⟩) dX8_now_45
  · refine j_tabIn (t := 46) F dX8_now_1 (by decide) (by decide) rfl rfl ?_
    refine j_aload_n (q := 47) (i0 := 0) F rfl dX8_now_46 rfl ?_
    refine j_get (q := 50) (ci := 8) (q0 := 0) (kf := 18) (v := .int (nI sd)) F inX8 rfl rfl rfl tw_676 rfl rfl dX8_now_47 rfl ?_
    refine j_callS (q := 53) (As := [.int (nI sd)]) (wr := [(e0, .inr (8, [.ref e1, .int (nI ln), .int (nI aa), .int (nI bg), .int (nI tk), .int (nI td), .int (nI rl), .int (nI rs), .int (nI rd), .ref e2, .ref e3, .ref e4, .int (nI n), .int (nI m), .ref e5, .ref e6, .ref e7, .int (nI be), .int (nI sd), .int (nI tu), .int (nI fo), .ref e8, .ref e9, .int (nI kn), .int (nI tl), .int (nI rn), .ref ea, .long tr, .ref eb]))]) (st := []) F (c_X8_many G (k := sd) (by omega)) kwX8_many tw_809 tw_808 ⟨Nat.le_of_ble_eq_true rfl, Nat.le_of_ble_eq_true rfl, rfl, rfl, Nat.le_of_ble_eq_true rfl, Nat.le_of_ble_eq_true rfl⟩ [] [0] rfl rfl rfl rfl rfl rfl rfl (Nat.le_of_ble_eq_true rfl) dX8_now_50 rfl ?_
    rintro r_ w_ ⟨rfl, rfl⟩
    refine j_w (w' := [(e0, .inr (8, [.ref e1, .int (nI ln), .int (nI aa), .int (nI bg), .int (nI tk), .int (nI td), .int (nI rl), .int (nI rs), .int (nI rd), .ref e2, .ref e3, .ref e4, .int (nI n), .int (nI m), .ref e5, .ref e6, .ref e7, .int (nI be), .int (nI sd), .int (nI tu), .int (nI fo), .ref e8, .ref e9, .int (nI kn), .int (nI tl), .int (nI rn), .ref ea, .long tr, .ref eb]))]) [0] rfl rfl ?_
    show Jw G X _ 0 0 53 _ [.int (nI (pcN sd))] _
    exact j_iret (w2 := [(e0, .inr (8, [.ref e1, .int (nI ln), .int (nI aa), .int (nI bg), .int (nI tk), .int (nI td), .int (nI rl), .int (nI rs), .int (nI rd), .ref e2, .ref e3, .ref e4, .int (nI n), .int (nI m), .ref e5, .ref e6, .ref e7, .int (nI be), .int (nI sd), .int (nI tu), .int (nI fo), .ref e8, .ref e9, .int (nI kn), .int (nI tl), .int (nI rn), .ref ea, .long tr, .ref eb]))]) F R0 rfl [0] rfl rfl (⟨by rw [aNow, if_neg (by decide), if_neg (by decide), if_pos rfl], rfl⟩) dX8_now_53
  · refine j_tabIn (t := 54) F dX8_now_1 (by decide) (by decide) rfl rfl ?_
    refine j_aload_n (q := 55) (i0 := 0) F rfl dX8_now_54 rfl ?_
    refine j_get (q := 58) (ci := 8) (q0 := 0) (kf := 20) (v := .int (nI fo)) F inX8 rfl rfl rfl tw_678 rfl rfl dX8_now_55 rfl ?_
    exact j_iret (w2 := [(e0, .inr (8, [.ref e1, .int (nI ln), .int (nI aa), .int (nI bg), .int (nI tk), .int (nI td), .int (nI rl), .int (nI rs), .int (nI rd), .ref e2, .ref e3, .ref e4, .int (nI n), .int (nI m), .ref e5, .ref e6, .ref e7, .int (nI be), .int (nI sd), .int (nI tu), .int (nI fo), .ref e8, .ref e9, .int (nI kn), .int (nI tl), .int (nI rn), .ref ea, .long tr, .ref eb]))]) F R0 rfl [0] rfl rfl (⟨by rw [aNow, if_neg (by decide), if_neg (by decide), if_neg (by decide), if_pos rfl], rfl⟩) dX8_now_58
  · refine j_tabIn (t := 59) F dX8_now_1 (by decide) (by decide) rfl rfl ?_
    refine j_iconst (q := 60) (v := nI 3) F (by decide) dX8_now_59 rfl ?_
    refine j_aload_n (q := 61) (i0 := 0) F rfl dX8_now_60 rfl ?_
    refine j_get (q := 64) (ci := 8) (q0 := 0) (kf := 19) (v := .int (nI tu)) F inX8 rfl rfl rfl tw_677 rfl rfl dX8_now_61 rfl ?_
    refine j_isub (q := 65) (v := nI (3 - tu)) F (pk_sub (by omega)) dX8_now_64 rfl ?_
    exact j_iret (w2 := [(e0, .inr (8, [.ref e1, .int (nI ln), .int (nI aa), .int (nI bg), .int (nI tk), .int (nI td), .int (nI rl), .int (nI rs), .int (nI rd), .ref e2, .ref e3, .ref e4, .int (nI n), .int (nI m), .ref e5, .ref e6, .ref e7, .int (nI be), .int (nI sd), .int (nI tu), .int (nI fo), .ref e8, .ref e9, .int (nI kn), .int (nI tl), .int (nI rn), .ref ea, .long tr, .ref eb]))]) F R0 rfl [0] rfl rfl (⟨by rw [aNow, if_neg (by decide), if_neg (by decide), if_neg (by decide), if_neg (by decide), if_pos rfl], rfl⟩) dX8_now_65
  · refine j_tabOut (t := 66) F dX8_now_1 hs1 rfl ?_
    refine j_iconst (q := 67) (v := (-1)) F (by decide) dX8_now_66 rfl ?_
    exact j_iret (w2 := [(e0, .inr (8, [.ref e1, .int (nI ln), .int (nI aa), .int (nI bg), .int (nI tk), .int (nI td), .int (nI rl), .int (nI rs), .int (nI rd), .ref e2, .ref e3, .ref e4, .int (nI n), .int (nI m), .ref e5, .ref e6, .ref e7, .int (nI be), .int (nI sd), .int (nI tu), .int (nI fo), .ref e8, .ref e9, .int (nI kn), .int (nI tl), .int (nI rn), .ref ea, .long tr, .ref eb]))]) F R0 rfl [0] rfl rfl (⟨by rw [aNow, if_neg (sw_out hs1 (N := 4) (by decide) (by decide)), if_neg (sw_out hs1 (N := 4) (by decide) (by decide)), if_neg (sw_out hs1 (N := 4) (by decide) (by decide)), if_neg (sw_out hs1 (N := 4) (by decide) (by decide)), if_neg (sw_out hs1 (N := 4) (by decide) (by decide))], rfl⟩) dX8_now_67

set_option maxHeartbeats 4000000 in
set_option maxRecDepth 100000 in
theorem c_X8_lamp (G : Gm) {e0 e1 e2 e3 e4 e5 e6 e7 e8 e9 ea eb : Nat} {ln aa bg tk td rl rs rd n m be sd tu fo kn tl rn : Nat} {ru la lb pa : Nat → Nat}  {tr : Int64} {x y : Int32} (hT : Tok n m ru la lb) (hP : PrOk n m (be, sd, tu, fo, kn, pa)) : Mg G yX8_lamp cX8_lamp 3 (some .int) ({ frames := 2, cells := 0, slots := 0, locals := 46 } : Room) 0 0 [.ref e0, .int x, .int y] [(e0, .inr (8, [.ref e1, .int (nI ln), .int (nI aa), .int (nI bg), .int (nI tk), .int (nI td), .int (nI rl), .int (nI rs), .int (nI rd), .ref e2, .ref e3, .ref e4, .int (nI n), .int (nI m), .ref e5, .ref e6, .ref e7, .int (nI be), .int (nI sd), .int (nI tu), .int (nI fo), .ref e8, .ref e9, .int (nI kn), .int (nI tl), .int (nI rn), .ref ea, .long tr, .ref eb])), (e5, .inl (G.2.2.1, 9, .inl (nF ru))), (e6, .inl (G.2.2.1, 15, .inl (nF la))), (e7, .inl (G.2.2.1, 15, .inl (nF lb)))] (fun r w2 => r = some (.int (aLamp n m ru la lb (be, sd, tu, fo, kn, pa) x y)) ∧ w2 = [(e0, .inr (8, [.ref e1, .int (nI ln), .int (nI aa), .int (nI bg), .int (nI tk), .int (nI td), .int (nI rl), .int (nI rs), .int (nI rd), .ref e2, .ref e3, .ref e4, .int (nI n), .int (nI m), .ref e5, .ref e6, .ref e7, .int (nI be), .int (nI sd), .int (nI tu), .int (nI fo), .ref e8, .ref e9, .int (nI kn), .int (nI tl), .int (nI rn), .ref ea, .long tr, .ref eb])), (e5, .inl (G.2.2.1, 9, .inl (nF ru))), (e6, .inl (G.2.2.1, 15, .inl (nF la))), (e7, .inl (G.2.2.1, 15, .inl (nF lb)))]) := by
  have hn := hT.1
  have hm := hT.2.1
  have h9 := p9 hn
  have h15 := p15 hm
  have hsd : sd < 512 := by have := hP.2.1; dsimp only at this; omega
  have hfo : fo < 32768 := by have := hP.2.2.2.1; dsimp only at this; omega
  refine Mg.mk (lv := [(0, .ref e0), (1, .int x), (2, .int y)]) (by decide) rfl rfl (fun X F R0 => ?_)
  refine j_aload_n (q := 1) (i0 := 0) F rfl dX8_lamp_0 rfl ?_
  refine j_iload_n (q := 2) (i0 := 1) F rfl dX8_lamp_1 rfl ?_
  refine j_callV (q := 5) (ci := 8) (q0 := 0) (As := [.int x]) (wr := [(e5, .inl (G.2.2.1, 9, .inl (nF ru))), (e6, .inl (G.2.2.1, 15, .inl (nF la))), (e7, .inl (G.2.2.1, 15, .inl (nF lb)))]) (st := []) F (c_X8_isLamp G (x := x) hn) kwX8_isLamp tw_802 tw_27 tw_800 ⟨Nat.le_of_ble_eq_true rfl, Nat.le_of_ble_eq_true rfl, rfl, rfl, Nat.le_of_ble_eq_true rfl, Nat.le_of_ble_eq_true rfl⟩ [0] [1, 2, 3] rfl rfl rfl rfl rfl rfl rfl rfl rfl (Nat.le_of_ble_eq_true rfl) dX8_lamp_2 rfl ?_
  rintro r_ w_ ⟨rfl, (⟨rfl, hx⟩ | ⟨rfl, hx⟩)⟩
  · skip
    refine j_w (w' := [(e0, .inr (8, [.ref e1, .int (nI ln), .int (nI aa), .int (nI bg), .int (nI tk), .int (nI td), .int (nI rl), .int (nI rs), .int (nI rd), .ref e2, .ref e3, .ref e4, .int (nI n), .int (nI m), .ref e5, .ref e6, .ref e7, .int (nI be), .int (nI sd), .int (nI tu), .int (nI fo), .ref e8, .ref e9, .int (nI kn), .int (nI tl), .int (nI rn), .ref ea, .long tr, .ref eb])), (e5, .inl (G.2.2.1, 9, .inl (nF ru))), (e6, .inl (G.2.2.1, 15, .inl (nF la))), (e7, .inl (G.2.2.1, 15, .inl (nF lb)))]) [3, 0, 1, 2] rfl rfl ?_
    show Jw G X _ 0 0 5 _ [.int (nI 1)] _
    refine j_if_ne (q := 8) (t := 10) F (cf (by decide)) dX8_lamp_5 rfl rfl (fun _ => ?_) (fun z => False.elim z)
    have hc := cb_1 hx
    obtain ⟨j, hj, rfl⟩ := hx
    refine j_iload_n (q := 11) (i0 := 2) F rfl dX8_lamp_10 rfl ?_
    rcases sw_4 y with rfl | rfl | rfl | rfl | rfl | hs2
    · refine j_tabIn (t := 44) F dX8_lamp_11 (by decide) (by decide) rfl rfl ?_
      refine j_aload_n (q := 45) (i0 := 0) F rfl dX8_lamp_44 rfl ?_
      refine j_get (q := 48) (ci := 8) (q0 := 0) (kf := 14) (v := .ref e5) F inX8 rfl rfl rfl tw_672 rfl rfl dX8_lamp_45 rfl ?_
      refine j_iload_n (q := 49) (i0 := 1) F rfl dX8_lamp_48 rfl ?_
      refine j_iald (q := 50) (q0 := 1) (i := j) (v := nI (ru j)) F rfl rfl (by omega) rfl (rfl) dX8_lamp_49 rfl ?_
      exact j_iret (w2 := [(e0, .inr (8, [.ref e1, .int (nI ln), .int (nI aa), .int (nI bg), .int (nI tk), .int (nI td), .int (nI rl), .int (nI rs), .int (nI rd), .ref e2, .ref e3, .ref e4, .int (nI n), .int (nI m), .ref e5, .ref e6, .ref e7, .int (nI be), .int (nI sd), .int (nI tu), .int (nI fo), .ref e8, .ref e9, .int (nI kn), .int (nI tl), .int (nI rn), .ref ea, .long tr, .ref eb])), (e5, .inl (G.2.2.1, 9, .inl (nF ru))), (e6, .inl (G.2.2.1, 15, .inl (nF la))), (e7, .inl (G.2.2.1, 15, .inl (nF lb)))]) F R0 rfl [0, 1, 2, 3] rfl rfl (⟨by rw [aLamp, if_pos hc, if_pos rfl, nI_clamp (by omega)], rfl⟩) dX8_lamp_50
    · refine j_tabIn (t := 51) F dX8_lamp_11 (by decide) (by decide) rfl rfl ?_
      refine j_aload_n (q := 52) (i0 := 0) F rfl dX8_lamp_51 rfl ?_
      refine j_get (q := 55) (ci := 8) (q0 := 0) (kf := 18) (v := .int (nI sd)) F inX8 rfl rfl rfl tw_676 rfl rfl dX8_lamp_52 rfl ?_
      refine j_iload_n (q := 56) (i0 := 1) F rfl dX8_lamp_55 rfl ?_
      refine j_ishr (q := 57) (v := nI (sd >>> j)) F (nx_shr (by omega) (by omega)) dX8_lamp_56 rfl ?_
      refine j_iconst (q := 58) (v := nI 1) F (by decide) dX8_lamp_57 rfl ?_
      refine j_iand (q := 59) (v := nI (bitN sd j)) F (nx_and _ _) dX8_lamp_58 rfl ?_
      exact j_iret (w2 := [(e0, .inr (8, [.ref e1, .int (nI ln), .int (nI aa), .int (nI bg), .int (nI tk), .int (nI td), .int (nI rl), .int (nI rs), .int (nI rd), .ref e2, .ref e3, .ref e4, .int (nI n), .int (nI m), .ref e5, .ref e6, .ref e7, .int (nI be), .int (nI sd), .int (nI tu), .int (nI fo), .ref e8, .ref e9, .int (nI kn), .int (nI tl), .int (nI rn), .ref ea, .long tr, .ref eb])), (e5, .inl (G.2.2.1, 9, .inl (nF ru))), (e6, .inl (G.2.2.1, 15, .inl (nF la))), (e7, .inl (G.2.2.1, 15, .inl (nF lb)))]) F R0 rfl [0, 1, 2, 3] rfl rfl (⟨by rw [aLamp, if_pos hc, if_neg (by decide), if_pos rfl, nI_clamp (by omega)], rfl⟩) dX8_lamp_59
    · refine j_tabIn (t := 60) F dX8_lamp_11 (by decide) (by decide) rfl rfl ?_
      refine j_aload_n (q := 61) (i0 := 0) F rfl dX8_lamp_60 rfl ?_
      refine j_iload_n (q := 62) (i0 := 1) F rfl dX8_lamp_61 rfl ?_
      refine j_iconst (q := 63) (v := nI 0) F (by decide) dX8_lamp_62 rfl ?_
      refine j_callV (q := 66) (ci := 8) (q0 := 0) (As := [.int (nI j), .int (nI 0)]) (wr := [(e5, .inl (G.2.2.1, 9, .inl (nF ru)))]) (st := []) F (c_X8_beside G (l := j) (wo := 0) hT (by omega) (by decide)) kwX8_beside tw_806 tw_28 tw_804 ⟨Nat.le_of_ble_eq_true rfl, Nat.le_of_ble_eq_true rfl, rfl, rfl, Nat.le_of_ble_eq_true rfl, Nat.le_of_ble_eq_true rfl⟩ [0, 2, 3] [1] rfl rfl rfl rfl rfl rfl rfl rfl rfl (Nat.le_of_ble_eq_true rfl) dX8_lamp_63 rfl ?_
      rintro r_ w_ ⟨rfl, rfl⟩
      refine j_w (w' := [(e0, .inr (8, [.ref e1, .int (nI ln), .int (nI aa), .int (nI bg), .int (nI tk), .int (nI td), .int (nI rl), .int (nI rs), .int (nI rd), .ref e2, .ref e3, .ref e4, .int (nI n), .int (nI m), .ref e5, .ref e6, .ref e7, .int (nI be), .int (nI sd), .int (nI tu), .int (nI fo), .ref e8, .ref e9, .int (nI kn), .int (nI tl), .int (nI rn), .ref ea, .long tr, .ref eb])), (e5, .inl (G.2.2.1, 9, .inl (nF ru))), (e6, .inl (G.2.2.1, 15, .inl (nF la))), (e7, .inl (G.2.2.1, 15, .inl (nF lb)))]) [1, 0, 2, 3] rfl rfl ?_
      show Jw G X _ 0 0 66 _ [.int (nI (bsd la lb 0 j m))] _
      refine j_callS (q := 69) (As := [.int (nI (bsd la lb 0 j m))]) (wr := [(e0, .inr (8, [.ref e1, .int (nI ln), .int (nI aa), .int (nI bg), .int (nI tk), .int (nI td), .int (nI rl), .int (nI rs), .int (nI rd), .ref e2, .ref e3, .ref e4, .int (nI n), .int (nI m), .ref e5, .ref e6, .ref e7, .int (nI be), .int (nI sd), .int (nI tu), .int (nI fo), .ref e8, .ref e9, .int (nI kn), .int (nI tl), .int (nI rn), .ref ea, .long tr, .ref eb])), (e5, .inl (G.2.2.1, 9, .inl (nF ru))), (e6, .inl (G.2.2.1, 15, .inl (nF la))), (e7, .inl (G.2.2.1, 15, .inl (nF lb)))]) (st := []) F (c_X8_many G (k := bsd la lb 0 j m) (Nat.lt_trans (bsd_lt hT 0 j) (by decide))) kwX8_many tw_809 tw_808 ⟨Nat.le_of_ble_eq_true rfl, Nat.le_of_ble_eq_true rfl, rfl, rfl, Nat.le_of_ble_eq_true rfl, Nat.le_of_ble_eq_true rfl⟩ [] [0, 1, 2, 3] rfl rfl rfl rfl rfl rfl rfl (Nat.le_of_ble_eq_true rfl) dX8_lamp_66 rfl ?_
      rintro r_ w_ ⟨rfl, rfl⟩
      refine j_w (w' := [(e0, .inr (8, [.ref e1, .int (nI ln), .int (nI aa), .int (nI bg), .int (nI tk), .int (nI td), .int (nI rl), .int (nI rs), .int (nI rd), .ref e2, .ref e3, .ref e4, .int (nI n), .int (nI m), .ref e5, .ref e6, .ref e7, .int (nI be), .int (nI sd), .int (nI tu), .int (nI fo), .ref e8, .ref e9, .int (nI kn), .int (nI tl), .int (nI rn), .ref ea, .long tr, .ref eb])), (e5, .inl (G.2.2.1, 9, .inl (nF ru))), (e6, .inl (G.2.2.1, 15, .inl (nF la))), (e7, .inl (G.2.2.1, 15, .inl (nF lb)))]) [0, 1, 2, 3] rfl rfl ?_
      show Jw G X _ 0 0 69 _ [.int (nI (pcN (bsd la lb 0 j m)))] _
      exact j_iret (w2 := [(e0, .inr (8, [.ref e1, .int (nI ln), .int (nI aa), .int (nI bg), .int (nI tk), .int (nI td), .int (nI rl), .int (nI rs), .int (nI rd), .ref e2, .ref e3, .ref e4, .int (nI n), .int (nI m), .ref e5, .ref e6, .ref e7, .int (nI be), .int (nI sd), .int (nI tu), .int (nI fo), .ref e8, .ref e9, .int (nI kn), .int (nI tl), .int (nI rn), .ref ea, .long tr, .ref eb])), (e5, .inl (G.2.2.1, 9, .inl (nF ru))), (e6, .inl (G.2.2.1, 15, .inl (nF la))), (e7, .inl (G.2.2.1, 15, .inl (nF lb)))]) F R0 rfl [0, 1, 2, 3] rfl rfl (⟨by rw [aLamp, if_pos hc, if_neg (by decide), if_neg (by decide), if_pos rfl, nI_clamp (by omega)], rfl⟩) dX8_lamp_69
    · refine j_tabIn (t := 70) F dX8_lamp_11 (by decide) (by decide) rfl rfl ?_
      refine j_aload_n (q := 71) (i0 := 0) F rfl dX8_lamp_70 rfl ?_
      refine j_iload_n (q := 72) (i0 := 1) F rfl dX8_lamp_71 rfl ?_
      refine j_aload_n (q := 73) (i0 := 0) F rfl dX8_lamp_72 rfl ?_
      refine j_get (q := 76) (ci := 8) (q0 := 0) (kf := 20) (v := .int (nI fo)) F inX8 rfl rfl rfl tw_678 rfl rfl dX8_lamp_73 rfl ?_
      refine j_callV (q := 79) (ci := 8) (q0 := 0) (As := [.int (nI j), .int (nI fo)]) (wr := [(e5, .inl (G.2.2.1, 9, .inl (nF ru)))]) (st := []) F (c_X8_beside G (l := j) (wo := fo) hT (by omega) (hfo)) kwX8_beside tw_806 tw_28 tw_804 ⟨Nat.le_of_ble_eq_true rfl, Nat.le_of_ble_eq_true rfl, rfl, rfl, Nat.le_of_ble_eq_true rfl, Nat.le_of_ble_eq_true rfl⟩ [0, 2, 3] [1] rfl rfl rfl rfl rfl rfl rfl rfl rfl (Nat.le_of_ble_eq_true rfl) dX8_lamp_76 rfl ?_
      rintro r_ w_ ⟨rfl, rfl⟩
      refine j_w (w' := [(e0, .inr (8, [.ref e1, .int (nI ln), .int (nI aa), .int (nI bg), .int (nI tk), .int (nI td), .int (nI rl), .int (nI rs), .int (nI rd), .ref e2, .ref e3, .ref e4, .int (nI n), .int (nI m), .ref e5, .ref e6, .ref e7, .int (nI be), .int (nI sd), .int (nI tu), .int (nI fo), .ref e8, .ref e9, .int (nI kn), .int (nI tl), .int (nI rn), .ref ea, .long tr, .ref eb])), (e5, .inl (G.2.2.1, 9, .inl (nF ru))), (e6, .inl (G.2.2.1, 15, .inl (nF la))), (e7, .inl (G.2.2.1, 15, .inl (nF lb)))]) [1, 0, 2, 3] rfl rfl ?_
      show Jw G X _ 0 0 79 _ [.int (nI (bsd la lb fo j m))] _
      refine j_aload_n (q := 80) (i0 := 0) F rfl dX8_lamp_79 rfl ?_
      refine j_get (q := 83) (ci := 8) (q0 := 0) (kf := 18) (v := .int (nI sd)) F inX8 rfl rfl rfl tw_676 rfl rfl dX8_lamp_80 rfl ?_
      refine j_iand (q := 84) (v := nI ((bsd la lb fo j m) &&& sd)) F (nx_and _ _) dX8_lamp_83 rfl ?_
      refine j_callS (q := 87) (As := [.int (nI ((bsd la lb fo j m) &&& sd))]) (wr := [(e0, .inr (8, [.ref e1, .int (nI ln), .int (nI aa), .int (nI bg), .int (nI tk), .int (nI td), .int (nI rl), .int (nI rs), .int (nI rd), .ref e2, .ref e3, .ref e4, .int (nI n), .int (nI m), .ref e5, .ref e6, .ref e7, .int (nI be), .int (nI sd), .int (nI tu), .int (nI fo), .ref e8, .ref e9, .int (nI kn), .int (nI tl), .int (nI rn), .ref ea, .long tr, .ref eb])), (e5, .inl (G.2.2.1, 9, .inl (nF ru))), (e6, .inl (G.2.2.1, 15, .inl (nF la))), (e7, .inl (G.2.2.1, 15, .inl (nF lb)))]) (st := []) F (c_X8_many G (k := bsd la lb fo j m &&& sd) (Nat.lt_trans (and_lt (bsd_lt hT fo j)) (by decide))) kwX8_many tw_809 tw_808 ⟨Nat.le_of_ble_eq_true rfl, Nat.le_of_ble_eq_true rfl, rfl, rfl, Nat.le_of_ble_eq_true rfl, Nat.le_of_ble_eq_true rfl⟩ [] [0, 1, 2, 3] rfl rfl rfl rfl rfl rfl rfl (Nat.le_of_ble_eq_true rfl) dX8_lamp_84 rfl ?_
      rintro r_ w_ ⟨rfl, rfl⟩
      refine j_w (w' := [(e0, .inr (8, [.ref e1, .int (nI ln), .int (nI aa), .int (nI bg), .int (nI tk), .int (nI td), .int (nI rl), .int (nI rs), .int (nI rd), .ref e2, .ref e3, .ref e4, .int (nI n), .int (nI m), .ref e5, .ref e6, .ref e7, .int (nI be), .int (nI sd), .int (nI tu), .int (nI fo), .ref e8, .ref e9, .int (nI kn), .int (nI tl), .int (nI rn), .ref ea, .long tr, .ref eb])), (e5, .inl (G.2.2.1, 9, .inl (nF ru))), (e6, .inl (G.2.2.1, 15, .inl (nF la))), (e7, .inl (G.2.2.1, 15, .inl (nF lb)))]) [0, 1, 2, 3] rfl rfl ?_
      show Jw G X _ 0 0 87 _ [.int (nI (pcN (bsd la lb fo j m &&& sd)))] _
      exact j_iret (w2 := [(e0, .inr (8, [.ref e1, .int (nI ln), .int (nI aa), .int (nI bg), .int (nI tk), .int (nI td), .int (nI rl), .int (nI rs), .int (nI rd), .ref e2, .ref e3, .ref e4, .int (nI n), .int (nI m), .ref e5, .ref e6, .ref e7, .int (nI be), .int (nI sd), .int (nI tu), .int (nI fo), .ref e8, .ref e9, .int (nI kn), .int (nI tl), .int (nI rn), .ref ea, .long tr, .ref eb])), (e5, .inl (G.2.2.1, 9, .inl (nF ru))), (e6, .inl (G.2.2.1, 15, .inl (nF la))), (e7, .inl (G.2.2.1, 15, .inl (nF lb)))]) F R0 rfl [0, 1, 2, 3] rfl rfl (⟨by rw [aLamp, if_pos hc, if_neg (by decide), if_neg (by decide), if_neg (by decide), if_pos rfl, nI_clamp (by omega)], rfl⟩) dX8_lamp_87
    · refine j_tabIn (t := 88) F dX8_lamp_11 (by decide) (by decide) rfl rfl ?_
      refine j_aload_n (q := 89) (i0 := 0) F rfl dX8_lamp_88 rfl ?_
      refine j_iload_n (q := 90) (i0 := 1) F rfl dX8_lamp_89 rfl ?_
      refine j_aload_n (q := 91) (i0 := 0) F rfl dX8_lamp_90 rfl ?_
      refine j_get (q := 94) (ci := 8) (q0 := 0) (kf := 20) (v := .int (nI fo)) F inX8 rfl rfl rfl tw_678 rfl rfl dX8_lamp_91 rfl ?_
      refine j_callV (q := 97) (ci := 8) (q0 := 0) (As := [.int (nI j), .int (nI fo)]) (wr := [(e5, .inl (G.2.2.1, 9, .inl (nF ru)))]) (st := []) F (c_X8_beside G (l := j) (wo := fo) hT (by omega) (hfo)) kwX8_beside tw_806 tw_28 tw_804 ⟨Nat.le_of_ble_eq_true rfl, Nat.le_of_ble_eq_true rfl, rfl, rfl, Nat.le_of_ble_eq_true rfl, Nat.le_of_ble_eq_true rfl⟩ [0, 2, 3] [1] rfl rfl rfl rfl rfl rfl rfl rfl rfl (Nat.le_of_ble_eq_true rfl) dX8_lamp_94 rfl ?_
      rintro r_ w_ ⟨rfl, rfl⟩
      refine j_w (w' := [(e0, .inr (8, [.ref e1, .int (nI ln), .int (nI aa), .int (nI bg), .int (nI tk), .int (nI td), .int (nI rl), .int (nI rs), .int (nI rd), .ref e2, .ref e3, .ref e4, .int (nI n), .int (nI m), .ref e5, .ref e6, .ref e7, .int (nI be), .int (nI sd), .int (nI tu), .int (nI fo), .ref e8, .ref e9, .int (nI kn), .int (nI tl), .int (nI rn), .ref ea, .long tr, .ref eb])), (e5, .inl (G.2.2.1, 9, .inl (nF ru))), (e6, .inl (G.2.2.1, 15, .inl (nF la))), (e7, .inl (G.2.2.1, 15, .inl (nF lb)))]) [1, 0, 2, 3] rfl rfl ?_
      show Jw G X _ 0 0 97 _ [.int (nI (bsd la lb fo j m))] _
      refine j_aload_n (q := 98) (i0 := 0) F rfl dX8_lamp_97 rfl ?_
      refine j_get (q := 101) (ci := 8) (q0 := 0) (kf := 18) (v := .int (nI sd)) F inX8 rfl rfl rfl tw_676 rfl rfl dX8_lamp_98 rfl ?_
      refine j_iconst (q := 102) (v := (-1)) F (by decide) dX8_lamp_101 rfl ?_
      refine j_ixor (q := 103) (v := nI (sd ^^^ 4294967295)) F (nx_not _) dX8_lamp_102 rfl ?_
      refine j_iand (q := 104) (v := nI ((bsd la lb fo j m) &&& (sd ^^^ 4294967295))) F (nx_and _ _) dX8_lamp_103 rfl ?_
      refine j_callS (q := 107) (As := [.int (nI ((bsd la lb fo j m) &&& (sd ^^^ 4294967295)))]) (wr := [(e0, .inr (8, [.ref e1, .int (nI ln), .int (nI aa), .int (nI bg), .int (nI tk), .int (nI td), .int (nI rl), .int (nI rs), .int (nI rd), .ref e2, .ref e3, .ref e4, .int (nI n), .int (nI m), .ref e5, .ref e6, .ref e7, .int (nI be), .int (nI sd), .int (nI tu), .int (nI fo), .ref e8, .ref e9, .int (nI kn), .int (nI tl), .int (nI rn), .ref ea, .long tr, .ref eb])), (e5, .inl (G.2.2.1, 9, .inl (nF ru))), (e6, .inl (G.2.2.1, 15, .inl (nF la))), (e7, .inl (G.2.2.1, 15, .inl (nF lb)))]) (st := []) F (c_X8_many G (k := bsd la lb fo j m &&& (sd ^^^ 4294967295)) (Nat.lt_trans (and_lt (bsd_lt hT fo j)) (by decide))) kwX8_many tw_809 tw_808 ⟨Nat.le_of_ble_eq_true rfl, Nat.le_of_ble_eq_true rfl, rfl, rfl, Nat.le_of_ble_eq_true rfl, Nat.le_of_ble_eq_true rfl⟩ [] [0, 1, 2, 3] rfl rfl rfl rfl rfl rfl rfl (Nat.le_of_ble_eq_true rfl) dX8_lamp_104 rfl ?_
      rintro r_ w_ ⟨rfl, rfl⟩
      refine j_w (w' := [(e0, .inr (8, [.ref e1, .int (nI ln), .int (nI aa), .int (nI bg), .int (nI tk), .int (nI td), .int (nI rl), .int (nI rs), .int (nI rd), .ref e2, .ref e3, .ref e4, .int (nI n), .int (nI m), .ref e5, .ref e6, .ref e7, .int (nI be), .int (nI sd), .int (nI tu), .int (nI fo), .ref e8, .ref e9, .int (nI kn), .int (nI tl), .int (nI rn), .ref ea, .long tr, .ref eb])), (e5, .inl (G.2.2.1, 9, .inl (nF ru))), (e6, .inl (G.2.2.1, 15, .inl (nF la))), (e7, .inl (G.2.2.1, 15, .inl (nF lb)))]) [0, 1, 2, 3] rfl rfl ?_
      show Jw G X _ 0 0 107 _ [.int (nI (pcN (bsd la lb fo j m &&& (sd ^^^ 4294967295))))] _
      exact j_iret (w2 := [(e0, .inr (8, [.ref e1, .int (nI ln), .int (nI aa), .int (nI bg), .int (nI tk), .int (nI td), .int (nI rl), .int (nI rs), .int (nI rd), .ref e2, .ref e3, .ref e4, .int (nI n), .int (nI m), .ref e5, .ref e6, .ref e7, .int (nI be), .int (nI sd), .int (nI tu), .int (nI fo), .ref e8, .ref e9, .int (nI kn), .int (nI tl), .int (nI rn), .ref ea, .long tr, .ref eb])), (e5, .inl (G.2.2.1, 9, .inl (nF ru))), (e6, .inl (G.2.2.1, 15, .inl (nF la))), (e7, .inl (G.2.2.1, 15, .inl (nF lb)))]) F R0 rfl [0, 1, 2, 3] rfl rfl (⟨by rw [aLamp, if_pos hc, if_neg (by decide), if_neg (by decide), if_neg (by decide), if_neg (by decide), if_pos rfl, nI_clamp (by omega)], rfl⟩) dX8_lamp_107
    · refine j_tabOut (t := 108) F dX8_lamp_11 hs2 rfl ?_
      refine j_iconst (q := 109) (v := (-1)) F (by decide) dX8_lamp_108 rfl ?_
      exact j_iret (w2 := [(e0, .inr (8, [.ref e1, .int (nI ln), .int (nI aa), .int (nI bg), .int (nI tk), .int (nI td), .int (nI rl), .int (nI rs), .int (nI rd), .ref e2, .ref e3, .ref e4, .int (nI n), .int (nI m), .ref e5, .ref e6, .ref e7, .int (nI be), .int (nI sd), .int (nI tu), .int (nI fo), .ref e8, .ref e9, .int (nI kn), .int (nI tl), .int (nI rn), .ref ea, .long tr, .ref eb])), (e5, .inl (G.2.2.1, 9, .inl (nF ru))), (e6, .inl (G.2.2.1, 15, .inl (nF la))), (e7, .inl (G.2.2.1, 15, .inl (nF lb)))]) F R0 rfl [0, 1, 2, 3] rfl rfl (⟨by rw [aLamp, if_pos hc, if_neg (sw_out hs2 (N := 4) (by decide) (by decide)), if_neg (sw_out hs2 (N := 4) (by decide) (by decide)), if_neg (sw_out hs2 (N := 4) (by decide) (by decide)), if_neg (sw_out hs2 (N := 4) (by decide) (by decide)), if_neg (sw_out hs2 (N := 4) (by decide) (by decide))], rfl⟩) dX8_lamp_109
  · skip
    refine j_w (w' := [(e0, .inr (8, [.ref e1, .int (nI ln), .int (nI aa), .int (nI bg), .int (nI tk), .int (nI td), .int (nI rl), .int (nI rs), .int (nI rd), .ref e2, .ref e3, .ref e4, .int (nI n), .int (nI m), .ref e5, .ref e6, .ref e7, .int (nI be), .int (nI sd), .int (nI tu), .int (nI fo), .ref e8, .ref e9, .int (nI kn), .int (nI tl), .int (nI rn), .ref ea, .long tr, .ref eb])), (e5, .inl (G.2.2.1, 9, .inl (nF ru))), (e6, .inl (G.2.2.1, 15, .inl (nF la))), (e7, .inl (G.2.2.1, 15, .inl (nF lb)))]) [3, 0, 1, 2] rfl rfl ?_
    show Jw G X _ 0 0 5 _ [.int (nI 0)] _
    refine j_if_ne (q := 8) (t := 10) F (ct (by decide)) dX8_lamp_5 rfl rfl (fun z => absurd trivial z) (fun _ => ?_)
    refine j_iconst (q := 9) (v := (-1)) F (by decide) dX8_lamp_8 rfl ?_
    exact j_iret (w2 := [(e0, .inr (8, [.ref e1, .int (nI ln), .int (nI aa), .int (nI bg), .int (nI tk), .int (nI td), .int (nI rl), .int (nI rs), .int (nI rd), .ref e2, .ref e3, .ref e4, .int (nI n), .int (nI m), .ref e5, .ref e6, .ref e7, .int (nI be), .int (nI sd), .int (nI tu), .int (nI fo), .ref e8, .ref e9, .int (nI kn), .int (nI tl), .int (nI rn), .ref ea, .long tr, .ref eb])), (e5, .inl (G.2.2.1, 9, .inl (nF ru))), (e6, .inl (G.2.2.1, 15, .inl (nF la))), (e7, .inl (G.2.2.1, 15, .inl (nF lb)))]) F R0 rfl [0, 1, 2, 3] rfl rfl (⟨by rw [aLamp, cb_0 hx, if_neg (by decide)], rfl⟩) dX8_lamp_9

set_option maxHeartbeats 4000000 in
set_option maxRecDepth 100000 in
theorem c_X8_street (G : Gm) {e0 e1 e2 e3 e4 e5 e6 e7 e8 e9 ea eb : Nat} {ln aa bg tk td rl rs rd n m be sd tu fo kn tl rn : Nat} {ru la lb pa : Nat → Nat}  {tr : Int64} {x y : Int32} (hT : Tok n m ru la lb) (hP : PrOk n m (be, sd, tu, fo, kn, pa)) : Mg G yX8_street cX8_street 3 (some .int) ({ frames := 1, cells := 0, slots := 0, locals := 25 } : Room) 0 0 [.ref e0, .int x, .int y] [(e0, .inr (8, [.ref e1, .int (nI ln), .int (nI aa), .int (nI bg), .int (nI tk), .int (nI td), .int (nI rl), .int (nI rs), .int (nI rd), .ref e2, .ref e3, .ref e4, .int (nI n), .int (nI m), .ref e5, .ref e6, .ref e7, .int (nI be), .int (nI sd), .int (nI tu), .int (nI fo), .ref e8, .ref e9, .int (nI kn), .int (nI tl), .int (nI rn), .ref ea, .long tr, .ref eb])), (e6, .inl (G.2.2.1, 15, .inl (nF la))), (e7, .inl (G.2.2.1, 15, .inl (nF lb)))] (fun r w2 => r = some (.int (aStreet m la lb (be, sd, tu, fo, kn, pa) x y)) ∧ w2 = [(e0, .inr (8, [.ref e1, .int (nI ln), .int (nI aa), .int (nI bg), .int (nI tk), .int (nI td), .int (nI rl), .int (nI rs), .int (nI rd), .ref e2, .ref e3, .ref e4, .int (nI n), .int (nI m), .ref e5, .ref e6, .ref e7, .int (nI be), .int (nI sd), .int (nI tu), .int (nI fo), .ref e8, .ref e9, .int (nI kn), .int (nI tl), .int (nI rn), .ref ea, .long tr, .ref eb])), (e6, .inl (G.2.2.1, 15, .inl (nF la))), (e7, .inl (G.2.2.1, 15, .inl (nF lb)))]) := by
  have hn := hT.1
  have hm := hT.2.1
  have h9 := p9 hn
  have h15 := p15 hm
  have hsd : sd < 512 := by have := hP.2.1; dsimp only at this; omega
  have hfo : fo < 32768 := by have := hP.2.2.2.1; dsimp only at this; omega
  refine Mg.mk (lv := [(0, .ref e0), (1, .int x), (2, .int y)]) (by decide) rfl rfl (fun X F R0 => ?_)
  refine j_iload_n (q := 1) (i0 := 1) F rfl dX8_street_0 rfl ?_
  refine j_i2l (q := 2) (v := Int32.toInt64 x) F rfl dX8_street_1 rfl ?_
  refine j_lconst (q := 3) (v := 0) F (by decide) dX8_street_2 rfl ?_
  refine j_aload_n (q := 4) (i0 := 0) F rfl dX8_street_3 rfl ?_
  refine j_get (q := 7) (ci := 8) (q0 := 0) (kf := 13) (v := .int (nI m)) F inX8 rfl rfl rfl tw_671 rfl rfl dX8_street_4 rfl ?_
  refine j_iconst (q := 8) (v := nI 1) F (by decide) dX8_street_7 rfl ?_
  refine j_isub (q := 9) (v := nI m - nI 1) F (rfl) dX8_street_8 rfl ?_
  refine j_i2l (q := 10) (v := Int32.toInt64 (nI m - nI 1)) F rfl dX8_street_9 rfl ?_
  refine j_callS (q := 13) (As := [.long (Int32.toInt64 x), .long 0, .long (Int32.toInt64 (nI m - nI 1))]) (wr := [(e0, .inr (8, [.ref e1, .int (nI ln), .int (nI aa), .int (nI bg), .int (nI tk), .int (nI td), .int (nI rl), .int (nI rs), .int (nI rd), .ref e2, .ref e3, .ref e4, .int (nI n), .int (nI m), .ref e5, .ref e6, .ref e7, .int (nI be), .int (nI sd), .int (nI tu), .int (nI fo), .ref e8, .ref e9, .int (nI kn), .int (nI tl), .int (nI rn), .ref ea, .long tr, .ref eb])), (e6, .inl (G.2.2.1, 15, .inl (nF la))), (e7, .inl (G.2.2.1, 15, .inl (nF lb)))]) (st := []) F (c_inR G (x := x) (n := m) rfl (by omega) (inL_c (by omega))) kwX8_in tw_752 tw_751 ⟨Nat.le_of_ble_eq_true rfl, Nat.le_of_ble_eq_true rfl, rfl, rfl, Nat.le_of_ble_eq_true rfl, Nat.le_of_ble_eq_true rfl⟩ [] [0, 1, 2] rfl rfl rfl rfl rfl rfl rfl (Nat.le_of_ble_eq_true rfl) dX8_street_10 rfl ?_
  rintro r_ w_ ⟨rfl, (⟨rfl, hx⟩ | ⟨rfl, hx⟩)⟩
  · skip
    refine j_w (w' := [(e0, .inr (8, [.ref e1, .int (nI ln), .int (nI aa), .int (nI bg), .int (nI tk), .int (nI td), .int (nI rl), .int (nI rs), .int (nI rd), .ref e2, .ref e3, .ref e4, .int (nI n), .int (nI m), .ref e5, .ref e6, .ref e7, .int (nI be), .int (nI sd), .int (nI tu), .int (nI fo), .ref e8, .ref e9, .int (nI kn), .int (nI tl), .int (nI rn), .ref ea, .long tr, .ref eb])), (e6, .inl (G.2.2.1, 15, .inl (nF la))), (e7, .inl (G.2.2.1, 15, .inl (nF lb)))]) [0, 1, 2] rfl rfl ?_
    show Jw G X _ 0 0 13 _ [.int (nI 1)] _
    refine j_if_eq (q := 16) (t := 28) F (cf (by decide)) dX8_street_13 rfl rfl (fun z => False.elim z) (fun _ => ?_)
    refine j_iload_n (q := 17) (i0 := 2) F rfl dX8_street_16 rfl ?_
    refine j_i2l (q := 18) (v := Int32.toInt64 y) F rfl dX8_street_17 rfl ?_
    refine j_lconst (q := 19) (v := 0) F (by decide) dX8_street_18 rfl ?_
    refine j_ldc2 (q := 22) F tw_815 dX8_street_19 rfl ?_
    refine j_callS (q := 25) (As := [.long (Int32.toInt64 y), .long 0, .long 2]) (wr := [(e0, .inr (8, [.ref e1, .int (nI ln), .int (nI aa), .int (nI bg), .int (nI tk), .int (nI td), .int (nI rl), .int (nI rs), .int (nI rd), .ref e2, .ref e3, .ref e4, .int (nI n), .int (nI m), .ref e5, .ref e6, .ref e7, .int (nI be), .int (nI sd), .int (nI tu), .int (nI fo), .ref e8, .ref e9, .int (nI kn), .int (nI tl), .int (nI rn), .ref ea, .long tr, .ref eb])), (e6, .inl (G.2.2.1, 15, .inl (nF la))), (e7, .inl (G.2.2.1, 15, .inl (nF lb)))]) (st := []) F (c_inR G (x := y) (n := 3) rfl (by decide) (rfl)) kwX8_in tw_752 tw_751 ⟨Nat.le_of_ble_eq_true rfl, Nat.le_of_ble_eq_true rfl, rfl, rfl, Nat.le_of_ble_eq_true rfl, Nat.le_of_ble_eq_true rfl⟩ [] [0, 1, 2] rfl rfl rfl rfl rfl rfl rfl (Nat.le_of_ble_eq_true rfl) dX8_street_22 rfl ?_
    rintro r_ w_ ⟨rfl, (⟨rfl, hy⟩ | ⟨rfl, hy⟩)⟩
    · skip
      refine j_w (w' := [(e0, .inr (8, [.ref e1, .int (nI ln), .int (nI aa), .int (nI bg), .int (nI tk), .int (nI td), .int (nI rl), .int (nI rs), .int (nI rd), .ref e2, .ref e3, .ref e4, .int (nI n), .int (nI m), .ref e5, .ref e6, .ref e7, .int (nI be), .int (nI sd), .int (nI tu), .int (nI fo), .ref e8, .ref e9, .int (nI kn), .int (nI tl), .int (nI rn), .ref ea, .long tr, .ref eb])), (e6, .inl (G.2.2.1, 15, .inl (nF la))), (e7, .inl (G.2.2.1, 15, .inl (nF lb)))]) [0, 1, 2] rfl rfl ?_
      show Jw G X _ 0 0 25 _ [.int (nI 1)] _
      refine j_if_ne (q := 28) (t := 30) F (cf (by decide)) dX8_street_25 rfl rfl (fun _ => ?_) (fun z => False.elim z)
      have hc := cb_1 hx
      obtain ⟨j, hj, rfl⟩ := hx
      obtain ⟨i, hi, rfl⟩ := hy
      refine j_iload_n (q := 31) (i0 := 2) F rfl dX8_street_30 rfl ?_
      refine j_if_ne (q := 34) (t := 43) F (Pp := i = 0) (nI_eq0 (by omega)) dX8_street_31 rfl rfl (fun c0 => ?_) (fun c0 => ?_)
      · skip
        refine j_iload_n (q := 44) (i0 := 2) F rfl dX8_street_43 rfl ?_
        refine j_iconst (q := 45) (v := nI 1) F (by decide) dX8_street_44 rfl ?_
        refine j_icmp_ne (q := 48) (t := 57) F (Pp := i = 1) (nI_eq (by omega) (by omega)) dX8_street_45 rfl rfl (fun c1 => ?_) (fun c1 => ?_)
        · skip
          refine j_aload_n (q := 58) (i0 := 0) F rfl dX8_street_57 rfl ?_
          refine j_get (q := 61) (ci := 8) (q0 := 0) (kf := 20) (v := .int (nI fo)) F inX8 rfl rfl rfl tw_678 rfl rfl dX8_street_58 rfl ?_
          refine j_iload_n (q := 62) (i0 := 1) F rfl dX8_street_61 rfl ?_
          refine j_ishr (q := 63) (v := nI (fo >>> j)) F (nx_shr (by omega) (by omega)) dX8_street_62 rfl ?_
          refine j_iconst (q := 64) (v := nI 1) F (by decide) dX8_street_63 rfl ?_
          refine j_iand (q := 65) (v := nI (bitN fo j)) F (nx_and _ _) dX8_street_64 rfl ?_
          exact j_iret (w2 := [(e0, .inr (8, [.ref e1, .int (nI ln), .int (nI aa), .int (nI bg), .int (nI tk), .int (nI td), .int (nI rl), .int (nI rs), .int (nI rd), .ref e2, .ref e3, .ref e4, .int (nI n), .int (nI m), .ref e5, .ref e6, .ref e7, .int (nI be), .int (nI sd), .int (nI tu), .int (nI fo), .ref e8, .ref e9, .int (nI kn), .int (nI tl), .int (nI rn), .ref ea, .long tr, .ref eb])), (e6, .inl (G.2.2.1, 15, .inl (nF la))), (e7, .inl (G.2.2.1, 15, .inl (nF lb)))]) F R0 rfl [0, 1, 2] rfl rfl (⟨by rw [aStreet, if_pos hc, if_neg (fun z => c0 ((nI_eq (by omega) (by omega)).mp z)), if_neg (fun z => c1 ((nI_eq (by omega) (by omega)).mp z)), if_pos (congrArg nI (show i = 2 by omega)), nI_clamp (by omega)], rfl⟩) dX8_street_65
        · skip
          refine j_aload_n (q := 49) (i0 := 0) F rfl dX8_street_48 rfl ?_
          refine j_get (q := 52) (ci := 8) (q0 := 0) (kf := 16) (v := .ref e7) F inX8 rfl rfl rfl tw_674 rfl rfl dX8_street_49 rfl ?_
          refine j_iload_n (q := 53) (i0 := 1) F rfl dX8_street_52 rfl ?_
          refine j_iald (q := 54) (q0 := 2) (i := j) (v := nI (lb j)) F rfl rfl (by omega) rfl (rfl) dX8_street_53 rfl ?_
          refine j_goto (t := 65) F dX8_street_54 rfl ?_
          exact j_iret (w2 := [(e0, .inr (8, [.ref e1, .int (nI ln), .int (nI aa), .int (nI bg), .int (nI tk), .int (nI td), .int (nI rl), .int (nI rs), .int (nI rd), .ref e2, .ref e3, .ref e4, .int (nI n), .int (nI m), .ref e5, .ref e6, .ref e7, .int (nI be), .int (nI sd), .int (nI tu), .int (nI fo), .ref e8, .ref e9, .int (nI kn), .int (nI tl), .int (nI rn), .ref ea, .long tr, .ref eb])), (e6, .inl (G.2.2.1, 15, .inl (nF la))), (e7, .inl (G.2.2.1, 15, .inl (nF lb)))]) F R0 rfl [0, 1, 2] rfl rfl (⟨by rw [aStreet, if_pos hc, if_neg (fun z => c0 ((nI_eq (by omega) (by omega)).mp z)), if_pos (congrArg nI c1), nI_clamp (by omega)], rfl⟩) dX8_street_65
      · skip
        refine j_aload_n (q := 35) (i0 := 0) F rfl dX8_street_34 rfl ?_
        refine j_get (q := 38) (ci := 8) (q0 := 0) (kf := 15) (v := .ref e6) F inX8 rfl rfl rfl tw_673 rfl rfl dX8_street_35 rfl ?_
        refine j_iload_n (q := 39) (i0 := 1) F rfl dX8_street_38 rfl ?_
        refine j_iald (q := 40) (q0 := 1) (i := j) (v := nI (la j)) F rfl rfl (by omega) rfl (rfl) dX8_street_39 rfl ?_
        refine j_goto (t := 65) F dX8_street_40 rfl ?_
        exact j_iret (w2 := [(e0, .inr (8, [.ref e1, .int (nI ln), .int (nI aa), .int (nI bg), .int (nI tk), .int (nI td), .int (nI rl), .int (nI rs), .int (nI rd), .ref e2, .ref e3, .ref e4, .int (nI n), .int (nI m), .ref e5, .ref e6, .ref e7, .int (nI be), .int (nI sd), .int (nI tu), .int (nI fo), .ref e8, .ref e9, .int (nI kn), .int (nI tl), .int (nI rn), .ref ea, .long tr, .ref eb])), (e6, .inl (G.2.2.1, 15, .inl (nF la))), (e7, .inl (G.2.2.1, 15, .inl (nF lb)))]) F R0 rfl [0, 1, 2] rfl rfl (⟨by rw [aStreet, if_pos hc, if_pos (congrArg nI c0), nI_clamp (by omega)], rfl⟩) dX8_street_65
    · skip
      refine j_w (w' := [(e0, .inr (8, [.ref e1, .int (nI ln), .int (nI aa), .int (nI bg), .int (nI tk), .int (nI td), .int (nI rl), .int (nI rs), .int (nI rd), .ref e2, .ref e3, .ref e4, .int (nI n), .int (nI m), .ref e5, .ref e6, .ref e7, .int (nI be), .int (nI sd), .int (nI tu), .int (nI fo), .ref e8, .ref e9, .int (nI kn), .int (nI tl), .int (nI rn), .ref ea, .long tr, .ref eb])), (e6, .inl (G.2.2.1, 15, .inl (nF la))), (e7, .inl (G.2.2.1, 15, .inl (nF lb)))]) [0, 1, 2] rfl rfl ?_
      show Jw G X _ 0 0 25 _ [.int (nI 0)] _
      refine j_if_ne (q := 28) (t := 30) F (ct (by decide)) dX8_street_25 rfl rfl (fun z => absurd trivial z) (fun _ => ?_)
      refine j_iconst (q := 29) (v := (-1)) F (by decide) dX8_street_28 rfl ?_
      exact j_iret (w2 := [(e0, .inr (8, [.ref e1, .int (nI ln), .int (nI aa), .int (nI bg), .int (nI tk), .int (nI td), .int (nI rl), .int (nI rs), .int (nI rd), .ref e2, .ref e3, .ref e4, .int (nI n), .int (nI m), .ref e5, .ref e6, .ref e7, .int (nI be), .int (nI sd), .int (nI tu), .int (nI fo), .ref e8, .ref e9, .int (nI kn), .int (nI tl), .int (nI rn), .ref ea, .long tr, .ref eb])), (e6, .inl (G.2.2.1, 15, .inl (nF la))), (e7, .inl (G.2.2.1, 15, .inl (nF lb)))]) F R0 rfl [0, 1, 2] rfl rfl (⟨by rw [aStreet, if_pos (cb_1 hx), if_neg (fun z => hy ⟨0, by decide, z⟩), if_neg (fun z => hy ⟨1, by decide, z⟩), if_neg (fun z => hy ⟨2, by decide, z⟩)], rfl⟩) dX8_street_29
  · skip
    refine j_w (w' := [(e0, .inr (8, [.ref e1, .int (nI ln), .int (nI aa), .int (nI bg), .int (nI tk), .int (nI td), .int (nI rl), .int (nI rs), .int (nI rd), .ref e2, .ref e3, .ref e4, .int (nI n), .int (nI m), .ref e5, .ref e6, .ref e7, .int (nI be), .int (nI sd), .int (nI tu), .int (nI fo), .ref e8, .ref e9, .int (nI kn), .int (nI tl), .int (nI rn), .ref ea, .long tr, .ref eb])), (e6, .inl (G.2.2.1, 15, .inl (nF la))), (e7, .inl (G.2.2.1, 15, .inl (nF lb)))]) [0, 1, 2] rfl rfl ?_
    show Jw G X _ 0 0 13 _ [.int (nI 0)] _
    refine j_if_eq (q := 16) (t := 28) F (ct (by decide)) dX8_street_13 rfl rfl (fun _ => ?_) (fun z => absurd trivial z)
    refine j_iconst (q := 29) (v := (-1)) F (by decide) dX8_street_28 rfl ?_
    exact j_iret (w2 := [(e0, .inr (8, [.ref e1, .int (nI ln), .int (nI aa), .int (nI bg), .int (nI tk), .int (nI td), .int (nI rl), .int (nI rs), .int (nI rd), .ref e2, .ref e3, .ref e4, .int (nI n), .int (nI m), .ref e5, .ref e6, .ref e7, .int (nI be), .int (nI sd), .int (nI tu), .int (nI fo), .ref e8, .ref e9, .int (nI kn), .int (nI tl), .int (nI rn), .ref ea, .long tr, .ref eb])), (e6, .inl (G.2.2.1, 15, .inl (nF la))), (e7, .inl (G.2.2.1, 15, .inl (nF lb)))]) F R0 rfl [0, 1, 2] rfl rfl (⟨by rw [aStreet, cb_0 hx, if_neg (by decide)], rfl⟩) dX8_street_29

set_option maxHeartbeats 4000000 in
set_option maxRecDepth 100000 in
theorem c_X8_bell (G : Gm) {e0 e1 e2 e3 e4 e5 e6 e7 e8 e9 ea eb : Nat} {ln aa bg tk td rl rs rd n m be sd tu fo kn tl rn : Nat} {ru la lb ne pa : Nat → Nat}  {tr : Int64} (hT : Tok n m ru la lb) (hP : PrOk n m (be, sd, tu, fo, kn, pa)) : Mg G yX8_bell cX8_bell 1 (some .int) ({ frames := 2, cells := 0, slots := 0, locals := 49 } : Room) 0 0 [.ref e0] [(e0, .inr (8, [.ref e1, .int (nI ln), .int (nI aa), .int (nI bg), .int (nI tk), .int (nI td), .int (nI rl), .int (nI rs), .int (nI rd), .ref e2, .ref e3, .ref e4, .int (nI n), .int (nI m), .ref e5, .ref e6, .ref e7, .int (nI be), .int (nI sd), .int (nI tu), .int (nI fo), .ref e8, .ref e9, .int (nI kn), .int (nI tl), .int (nI rn), .ref ea, .long tr, .ref eb])), (e5, .inl (G.2.2.1, 9, .inl (nF ru))), (e6, .inl (G.2.2.1, 15, .inl (nF la))), (e7, .inl (G.2.2.1, 15, .inl (nF lb))), (e8, .inl (G.2.2.1, 9, .inl (nF ne))), (e9, .inl (G.2.2.1, 40, .inl (nF pa)))] (fun r w2 => ∃ ne2, r = some (.int (aBell (Fw n m ru la lb fo) (be, sd, tu, fo, kn, pa))) ∧ w2 = [(e0, .inr (8, [.ref e1, .int (nI ln), .int (nI aa), .int (nI bg), .int (nI tk), .int (nI td), .int (nI rl), .int (nI rs), .int (nI rd), .ref e2, .ref e3, .ref e4, .int (nI n), .int (nI m), .ref e5, .ref e6, .ref e7, .int (nI ((pBell (Fw n m ru la lb fo) (be, sd, tu, fo, kn, pa)).1)), .int (nI ((pBell (Fw n m ru la lb fo) (be, sd, tu, fo, kn, pa)).2.1)), .int (nI ((pBell (Fw n m ru la lb fo) (be, sd, tu, fo, kn, pa)).2.2.1)), .int (nI ((pBell (Fw n m ru la lb fo) (be, sd, tu, fo, kn, pa)).2.2.2.1)), .ref e8, .ref e9, .int (nI ((pBell (Fw n m ru la lb fo) (be, sd, tu, fo, kn, pa)).2.2.2.2.1)), .int (nI tl), .int (nI rn), .ref ea, .long tr, .ref eb])), (e5, .inl (G.2.2.1, 9, .inl (nF ru))), (e6, .inl (G.2.2.1, 15, .inl (nF la))), (e7, .inl (G.2.2.1, 15, .inl (nF lb))), (e8, .inl (G.2.2.1, 9, .inl (nF ne2))), (e9, .inl (G.2.2.1, 40, .inl (nF ((pBell (Fw n m ru la lb fo) (be, sd, tu, fo, kn, pa)).2.2.2.2.2))))]) := by
  have hn := hT.1
  have hm := hT.2.1
  have h9 := p9 hn
  have h15 := p15 hm
  have hsd : sd < 512 := by have := hP.2.1; dsimp only at this; omega
  have hfo : fo < 32768 := by have := hP.2.2.2.1; dsimp only at this; omega
  have hkn : kn ≤ 10 := hP.2.2.2.2.1
  have hbe : be ≤ 999 := hP.1
  refine Mg.mk (lv := [(0, .ref e0)]) (by decide) rfl rfl (fun X F R0 => ?_)
  refine j_aload_n (q := 1) (i0 := 0) F rfl dX8_bell_0 rfl ?_
  refine j_get (q := 4) (ci := 8) (q0 := 0) (kf := 17) (v := .int (nI be)) F inX8 rfl rfl rfl tw_675 rfl rfl dX8_bell_1 rfl ?_
  refine j_sipush (q := 7) (v := nI 999) F (by decide) dX8_bell_4 rfl ?_
  refine j_icmp_ne (q := 10) (t := 13) F (Pp := be = 999) (nI_eq (by omega) (by omega)) dX8_bell_7 rfl rfl (fun c9 => ?_) (fun c9 => ?_)
  · skip
    refine j_aload_n (q := 14) (i0 := 0) F rfl dX8_bell_13 rfl ?_
    refine j_callV (q := 17) (ci := 8) (q0 := 0) (As := []) (wr := [(e5, .inl (G.2.2.1, 9, .inl (nF ru))), (e6, .inl (G.2.2.1, 15, .inl (nF la))), (e7, .inl (G.2.2.1, 15, .inl (nF lb))), (e8, .inl (G.2.2.1, 9, .inl (nF ne)))]) (st := []) F (c_X8_notes G hkn) kwX8_notes tw_822 tw_29 tw_820 ⟨Nat.le_of_ble_eq_true rfl, Nat.le_of_ble_eq_true rfl, rfl, rfl, Nat.le_of_ble_eq_true rfl, Nat.le_of_ble_eq_true rfl⟩ [0, 5] [1, 2, 3, 4] rfl rfl rfl rfl rfl rfl rfl rfl rfl (Nat.le_of_ble_eq_true rfl) dX8_bell_14 rfl ?_
    rintro r_ w_ ⟨rfl, rfl⟩
    refine j_w (w' := [(e0, .inr (8, [.ref e1, .int (nI ln), .int (nI aa), .int (nI bg), .int (nI tk), .int (nI td), .int (nI rl), .int (nI rs), .int (nI rd), .ref e2, .ref e3, .ref e4, .int (nI n), .int (nI m), .ref e5, .ref e6, .ref e7, .int (nI be), .int (nI sd), .int (nI tu), .int (nI fo), .ref e8, .ref e9, .int (nI (rmK kn)), .int (nI tl), .int (nI rn), .ref ea, .long tr, .ref eb])), (e5, .inl (G.2.2.1, 9, .inl (nF ru))), (e6, .inl (G.2.2.1, 15, .inl (nF la))), (e7, .inl (G.2.2.1, 15, .inl (nF lb))), (e8, .inl (G.2.2.1, 9, .inl (nF ne))), (e9, .inl (G.2.2.1, 40, .inl (nF (rmP kn be sd tu fo pa))))]) [4, 0, 1, 2, 3, 5] rfl rfl ?_
    show Jw G X _ 0 0 17 _ [] _
    refine j_aload_n (q := 18) (i0 := 0) F rfl dX8_bell_17 rfl ?_
    refine j_aload_n (q := 19) (i0 := 0) F rfl dX8_bell_18 rfl ?_
    refine j_get (q := 22) (ci := 8) (q0 := 0) (kf := 20) (v := .int (nI fo)) F inX8 rfl rfl rfl tw_678 rfl rfl dX8_bell_19 rfl ?_
    refine j_callV (q := 25) (ci := 8) (q0 := 0) (As := [.int (nI fo)]) (wr := [(e5, .inl (G.2.2.1, 9, .inl (nF ru))), (e9, .inl (G.2.2.1, 40, .inl (nF (rmP kn be sd tu fo pa))))]) (st := []) F (c_X8_looks G (wo := fo) hT (hfo)) kwX8_looks tw_826 tw_30 tw_824 ⟨Nat.le_of_ble_eq_true rfl, Nat.le_of_ble_eq_true rfl, rfl, rfl, Nat.le_of_ble_eq_true rfl, Nat.le_of_ble_eq_true rfl⟩ [0, 2, 3, 4] [1, 5] rfl rfl rfl rfl rfl rfl rfl rfl rfl (Nat.le_of_ble_eq_true rfl) dX8_bell_22 rfl ?_
    rintro r_ w_ ⟨ne2, hne2, rfl, rfl⟩
    refine j_w (w' := [(e0, .inr (8, [.ref e1, .int (nI ln), .int (nI aa), .int (nI bg), .int (nI tk), .int (nI td), .int (nI rl), .int (nI rs), .int (nI rd), .ref e2, .ref e3, .ref e4, .int (nI n), .int (nI m), .ref e5, .ref e6, .ref e7, .int (nI be), .int (nI sd), .int (nI tu), .int (nI fo), .ref e8, .ref e9, .int (nI (rmK kn)), .int (nI tl), .int (nI rn), .ref ea, .long tr, .ref eb])), (e5, .inl (G.2.2.1, 9, .inl (nF ru))), (e6, .inl (G.2.2.1, 15, .inl (nF la))), (e7, .inl (G.2.2.1, 15, .inl (nF lb))), (e8, .inl (G.2.2.1, 9, .inl (nF ne2))), (e9, .inl (G.2.2.1, 40, .inl (nF (rmP kn be sd tu fo pa))))]) [2, 0, 3, 4, 5, 1] rfl rfl ?_
    show Jw G X _ 0 0 25 _ [] _
    have hW := Wk.of hT hne2
    refine j_aload_n (q := 26) (i0 := 0) F rfl dX8_bell_25 rfl ?_
    refine j_aload_n (q := 27) (i0 := 0) F rfl dX8_bell_26 rfl ?_
    refine j_aload_n (q := 28) (i0 := 0) F rfl dX8_bell_27 rfl ?_
    refine j_get (q := 31) (ci := 8) (q0 := 0) (kf := 18) (v := .int (nI sd)) F inX8 rfl rfl rfl tw_676 rfl rfl dX8_bell_28 rfl ?_
    refine j_callV (q := 34) (ci := 8) (q0 := 0) (As := [.int (nI sd)]) (wr := [(e6, .inl (G.2.2.1, 15, .inl (nF la))), (e7, .inl (G.2.2.1, 15, .inl (nF lb))), (e9, .inl (G.2.2.1, 40, .inl (nF (rmP kn be sd tu fo pa))))]) (st := [.ref e0]) F (c_X8_rings G hW (s := sd) (hsd)) kwX8_rings tw_830 tw_31 tw_828 ⟨Nat.le_of_ble_eq_true rfl, Nat.le_of_ble_eq_true rfl, rfl, rfl, Nat.le_of_ble_eq_true rfl, Nat.le_of_ble_eq_true rfl⟩ [0, 1, 4] [2, 3, 5] rfl rfl rfl rfl rfl rfl rfl rfl rfl (Nat.le_of_ble_eq_true rfl) dX8_bell_31 rfl ?_
    rintro r_ w_ ⟨rfl, rfl⟩
    refine j_w (w' := [(e0, .inr (8, [.ref e1, .int (nI ln), .int (nI aa), .int (nI bg), .int (nI tk), .int (nI td), .int (nI rl), .int (nI rs), .int (nI rd), .ref e2, .ref e3, .ref e4, .int (nI n), .int (nI m), .ref e5, .ref e6, .ref e7, .int (nI be), .int (nI sd), .int (nI tu), .int (nI fo), .ref e8, .ref e9, .int (nI (rmK kn)), .int (nI tl), .int (nI rn), .ref ea, .long tr, .ref eb])), (e5, .inl (G.2.2.1, 9, .inl (nF ru))), (e6, .inl (G.2.2.1, 15, .inl (nF la))), (e7, .inl (G.2.2.1, 15, .inl (nF lb))), (e8, .inl (G.2.2.1, 9, .inl (nF ne2))), (e9, .inl (G.2.2.1, 40, .inl (nF (rmP kn be sd tu fo pa))))]) [3, 4, 0, 1, 5, 2] rfl rfl ?_
    show Jw G X _ 0 0 34 _ [.int (nI (Fw n m ru la lb fo sd)), .ref e0] _
    refine j_put (q := 37) (ci := 8) (q0 := 0) (kf := 18) (v := .int (nI (Fw n m ru la lb fo sd))) (w' := [(e0, .inr (8, [.ref e1, .int (nI ln), .int (nI aa), .int (nI bg), .int (nI tk), .int (nI td), .int (nI rl), .int (nI rs), .int (nI rd), .ref e2, .ref e3, .ref e4, .int (nI n), .int (nI m), .ref e5, .ref e6, .ref e7, .int (nI be), .int (nI (Fw n m ru la lb fo sd)), .int (nI tu), .int (nI fo), .ref e8, .ref e9, .int (nI (rmK kn)), .int (nI tl), .int (nI rn), .ref ea, .long tr, .ref eb])), (e5, .inl (G.2.2.1, 9, .inl (nF ru))), (e6, .inl (G.2.2.1, 15, .inl (nF la))), (e7, .inl (G.2.2.1, 15, .inl (nF lb))), (e8, .inl (G.2.2.1, 9, .inl (nF ne2))), (e9, .inl (G.2.2.1, 40, .inl (nF (rmP kn be sd tu fo pa))))]) F inX8 tyX8_ok nmX8 rfl rfl rfl tw_676 rfl rfl rfl rfl rfl rfl dX8_bell_34 rfl ?_
    refine j_aload_n (q := 38) (i0 := 0) F rfl dX8_bell_37 rfl ?_
    refine j_dup (q := 39) F rfl dX8_bell_38 rfl ?_
    refine j_get (q := 42) (ci := 8) (q0 := 0) (kf := 17) (v := .int (nI be)) F inX8 rfl rfl rfl tw_675 rfl rfl dX8_bell_39 rfl ?_
    refine j_iconst (q := 43) (v := nI 1) F (by decide) dX8_bell_42 rfl ?_
    refine j_iadd (q := 44) (v := nI (be + 1)) F (nI_add _ _) dX8_bell_43 rfl ?_
    refine j_put (q := 47) (ci := 8) (q0 := 0) (kf := 17) (v := .int (nI (be + 1))) (w' := [(e0, .inr (8, [.ref e1, .int (nI ln), .int (nI aa), .int (nI bg), .int (nI tk), .int (nI td), .int (nI rl), .int (nI rs), .int (nI rd), .ref e2, .ref e3, .ref e4, .int (nI n), .int (nI m), .ref e5, .ref e6, .ref e7, .int (nI (be + 1)), .int (nI (Fw n m ru la lb fo sd)), .int (nI tu), .int (nI fo), .ref e8, .ref e9, .int (nI (rmK kn)), .int (nI tl), .int (nI rn), .ref ea, .long tr, .ref eb])), (e5, .inl (G.2.2.1, 9, .inl (nF ru))), (e6, .inl (G.2.2.1, 15, .inl (nF la))), (e7, .inl (G.2.2.1, 15, .inl (nF lb))), (e8, .inl (G.2.2.1, 9, .inl (nF ne2))), (e9, .inl (G.2.2.1, 40, .inl (nF (rmP kn be sd tu fo pa))))]) F inX8 tyX8_ok nmX8 rfl rfl rfl tw_675 rfl rfl rfl rfl rfl rfl dX8_bell_44 rfl ?_
    refine j_aload_n (q := 48) (i0 := 0) F rfl dX8_bell_47 rfl ?_
    refine j_iconst (q := 49) (v := nI 0) F (by decide) dX8_bell_48 rfl ?_
    refine j_put (q := 52) (ci := 8) (q0 := 0) (kf := 19) (v := .int (nI 0)) (w' := [(e0, .inr (8, [.ref e1, .int (nI ln), .int (nI aa), .int (nI bg), .int (nI tk), .int (nI td), .int (nI rl), .int (nI rs), .int (nI rd), .ref e2, .ref e3, .ref e4, .int (nI n), .int (nI m), .ref e5, .ref e6, .ref e7, .int (nI (be + 1)), .int (nI (Fw n m ru la lb fo sd)), .int (nI 0), .int (nI fo), .ref e8, .ref e9, .int (nI (rmK kn)), .int (nI tl), .int (nI rn), .ref ea, .long tr, .ref eb])), (e5, .inl (G.2.2.1, 9, .inl (nF ru))), (e6, .inl (G.2.2.1, 15, .inl (nF la))), (e7, .inl (G.2.2.1, 15, .inl (nF lb))), (e8, .inl (G.2.2.1, 9, .inl (nF ne2))), (e9, .inl (G.2.2.1, 40, .inl (nF (rmP kn be sd tu fo pa))))]) F inX8 tyX8_ok nmX8 rfl rfl rfl tw_677 rfl rfl rfl rfl rfl rfl dX8_bell_49 rfl ?_
    refine j_aload_n (q := 53) (i0 := 0) F rfl dX8_bell_52 rfl ?_
    refine j_get (q := 56) (ci := 8) (q0 := 0) (kf := 18) (v := .int (nI (Fw n m ru la lb fo sd))) F inX8 rfl rfl rfl tw_676 rfl rfl dX8_bell_53 rfl ?_
    exact j_iret (w2 := [(e0, .inr (8, [.ref e1, .int (nI ln), .int (nI aa), .int (nI bg), .int (nI tk), .int (nI td), .int (nI rl), .int (nI rs), .int (nI rd), .ref e2, .ref e3, .ref e4, .int (nI n), .int (nI m), .ref e5, .ref e6, .ref e7, .int (nI (be + 1)), .int (nI (Fw n m ru la lb fo sd)), .int (nI 0), .int (nI fo), .ref e8, .ref e9, .int (nI (rmK kn)), .int (nI tl), .int (nI rn), .ref ea, .long tr, .ref eb])), (e5, .inl (G.2.2.1, 9, .inl (nF ru))), (e6, .inl (G.2.2.1, 15, .inl (nF la))), (e7, .inl (G.2.2.1, 15, .inl (nF lb))), (e8, .inl (G.2.2.1, 9, .inl (nF ne2))), (e9, .inl (G.2.2.1, 40, .inl (nF (rmP kn be sd tu fo pa))))]) F R0 rfl [0, 1, 2, 3, 4, 5] rfl rfl (⟨_, by rw [aBell, if_pos (by dsimp only; omega)], by rw [pBell, if_pos (by dsimp only; omega)]; rfl⟩) dX8_bell_56
  · skip
    refine j_bipush (q := 12) (v := (-2)) F (by decide) dX8_bell_10 rfl ?_
    exact j_iret (w2 := [(e0, .inr (8, [.ref e1, .int (nI ln), .int (nI aa), .int (nI bg), .int (nI tk), .int (nI td), .int (nI rl), .int (nI rs), .int (nI rd), .ref e2, .ref e3, .ref e4, .int (nI n), .int (nI m), .ref e5, .ref e6, .ref e7, .int (nI be), .int (nI sd), .int (nI tu), .int (nI fo), .ref e8, .ref e9, .int (nI kn), .int (nI tl), .int (nI rn), .ref ea, .long tr, .ref eb])), (e5, .inl (G.2.2.1, 9, .inl (nF ru))), (e6, .inl (G.2.2.1, 15, .inl (nF la))), (e7, .inl (G.2.2.1, 15, .inl (nF lb))), (e8, .inl (G.2.2.1, 9, .inl (nF ne))), (e9, .inl (G.2.2.1, 40, .inl (nF pa)))]) F R0 rfl [0, 1, 2, 3, 4, 5] rfl rfl (⟨_, by rw [aBell, if_neg (by dsimp only; omega)], by rw [pBell, if_neg (by dsimp only; omega)]⟩) dX8_bell_12

set_option maxHeartbeats 4000000 in
set_option maxRecDepth 100000 in
theorem c_X8_turn (G : Gm) {e0 e1 e2 e3 e4 e5 e6 e7 e8 e9 ea eb : Nat} {ln aa bg tk td rl rs rd n m be sd tu fo kn tl rn : Nat} {ru la lb pa : Nat → Nat}  {tr : Int64} {x : Int32} (hT : Tok n m ru la lb) (hP : PrOk n m (be, sd, tu, fo, kn, pa)) : Mg G yX8_turn cX8_turn 2 (some .int) ({ frames := 2, cells := 0, slots := 0, locals := 46 } : Room) 0 0 [.ref e0, .int x] [(e0, .inr (8, [.ref e1, .int (nI ln), .int (nI aa), .int (nI bg), .int (nI tk), .int (nI td), .int (nI rl), .int (nI rs), .int (nI rd), .ref e2, .ref e3, .ref e4, .int (nI n), .int (nI m), .ref e5, .ref e6, .ref e7, .int (nI be), .int (nI sd), .int (nI tu), .int (nI fo), .ref e8, .ref e9, .int (nI kn), .int (nI tl), .int (nI rn), .ref ea, .long tr, .ref eb])), (e9, .inl (G.2.2.1, 40, .inl (nF pa)))] (fun r w2 => r = some (.int (aTurn n x (be, sd, tu, fo, kn, pa))) ∧ w2 = [(e0, .inr (8, [.ref e1, .int (nI ln), .int (nI aa), .int (nI bg), .int (nI tk), .int (nI td), .int (nI rl), .int (nI rs), .int (nI rd), .ref e2, .ref e3, .ref e4, .int (nI n), .int (nI m), .ref e5, .ref e6, .ref e7, .int (nI ((pTurn n x (be, sd, tu, fo, kn, pa)).1)), .int (nI ((pTurn n x (be, sd, tu, fo, kn, pa)).2.1)), .int (nI ((pTurn n x (be, sd, tu, fo, kn, pa)).2.2.1)), .int (nI ((pTurn n x (be, sd, tu, fo, kn, pa)).2.2.2.1)), .ref e8, .ref e9, .int (nI ((pTurn n x (be, sd, tu, fo, kn, pa)).2.2.2.2.1)), .int (nI tl), .int (nI rn), .ref ea, .long tr, .ref eb])), (e9, .inl (G.2.2.1, 40, .inl (nF ((pTurn n x (be, sd, tu, fo, kn, pa)).2.2.2.2.2))))]) := by
  have hn := hT.1
  have hm := hT.2.1
  have h9 := p9 hn
  have h15 := p15 hm
  have hsd : sd < 512 := by have := hP.2.1; dsimp only at this; omega
  have hfo : fo < 32768 := by have := hP.2.2.2.1; dsimp only at this; omega
  have hkn : kn ≤ 10 := hP.2.2.2.2.1
  have htu : tu ≤ 3 := hP.2.2.1
  refine Mg.mk (lv := [(0, .ref e0), (1, .int x)]) (by decide) rfl rfl (fun X F R0 => ?_)
  refine j_aload_n (q := 1) (i0 := 0) F rfl dX8_turn_0 rfl ?_
  refine j_iload_n (q := 2) (i0 := 1) F rfl dX8_turn_1 rfl ?_
  refine j_callV (q := 5) (ci := 8) (q0 := 0) (As := [.int x]) (wr := [(e9, .inl (G.2.2.1, 40, .inl (nF pa)))]) (st := []) F (c_X8_isLamp G (x := x) hn) kwX8_isLamp tw_802 tw_27 tw_800 ⟨Nat.le_of_ble_eq_true rfl, Nat.le_of_ble_eq_true rfl, rfl, rfl, Nat.le_of_ble_eq_true rfl, Nat.le_of_ble_eq_true rfl⟩ [0] [1] rfl rfl rfl rfl rfl rfl rfl rfl rfl (Nat.le_of_ble_eq_true rfl) dX8_turn_2 rfl ?_
  rintro r_ w_ ⟨rfl, (⟨rfl, hx⟩ | ⟨rfl, hx⟩)⟩
  · skip
    refine j_w (w' := [(e0, .inr (8, [.ref e1, .int (nI ln), .int (nI aa), .int (nI bg), .int (nI tk), .int (nI td), .int (nI rl), .int (nI rs), .int (nI rd), .ref e2, .ref e3, .ref e4, .int (nI n), .int (nI m), .ref e5, .ref e6, .ref e7, .int (nI be), .int (nI sd), .int (nI tu), .int (nI fo), .ref e8, .ref e9, .int (nI kn), .int (nI tl), .int (nI rn), .ref ea, .long tr, .ref eb])), (e9, .inl (G.2.2.1, 40, .inl (nF pa)))]) [1, 0] rfl rfl ?_
    show Jw G X _ 0 0 5 _ [.int (nI 1)] _
    refine j_if_ne (q := 8) (t := 10) F (cf (by decide)) dX8_turn_5 rfl rfl (fun _ => ?_) (fun z => False.elim z)
    have hc := cb_1 hx
    obtain ⟨j, hj, rfl⟩ := hx
    refine j_aload_n (q := 11) (i0 := 0) F rfl dX8_turn_10 rfl ?_
    refine j_get (q := 14) (ci := 8) (q0 := 0) (kf := 19) (v := .int (nI tu)) F inX8 rfl rfl rfl tw_677 rfl rfl dX8_turn_11 rfl ?_
    refine j_iconst (q := 15) (v := nI 3) F (by decide) dX8_turn_14 rfl ?_
    refine j_icmp_ne (q := 18) (t := 21) F (Pp := tu = 3) (nI_eq (by omega) (by omega)) dX8_turn_15 rfl rfl (fun c3 => ?_) (fun c3 => ?_)
    · skip
      refine j_aload_n (q := 22) (i0 := 0) F rfl dX8_turn_21 rfl ?_
      refine j_callV (q := 25) (ci := 8) (q0 := 0) (As := []) (wr := []) (st := []) F (c_X8_notes G hkn) kwX8_notes tw_822 tw_29 tw_820 ⟨Nat.le_of_ble_eq_true rfl, Nat.le_of_ble_eq_true rfl, rfl, rfl, Nat.le_of_ble_eq_true rfl, Nat.le_of_ble_eq_true rfl⟩ [0, 1] [] rfl rfl rfl rfl rfl rfl rfl rfl rfl (Nat.le_of_ble_eq_true rfl) dX8_turn_22 rfl ?_
      rintro r_ w_ ⟨rfl, rfl⟩
      refine j_w (w' := [(e0, .inr (8, [.ref e1, .int (nI ln), .int (nI aa), .int (nI bg), .int (nI tk), .int (nI td), .int (nI rl), .int (nI rs), .int (nI rd), .ref e2, .ref e3, .ref e4, .int (nI n), .int (nI m), .ref e5, .ref e6, .ref e7, .int (nI be), .int (nI sd), .int (nI tu), .int (nI fo), .ref e8, .ref e9, .int (nI (rmK kn)), .int (nI tl), .int (nI rn), .ref ea, .long tr, .ref eb])), (e9, .inl (G.2.2.1, 40, .inl (nF (rmP kn be sd tu fo pa))))]) [0, 1] rfl rfl ?_
      show Jw G X _ 0 0 25 _ [] _
      refine j_aload_n (q := 26) (i0 := 0) F rfl dX8_turn_25 rfl ?_
      refine j_dup (q := 27) F rfl dX8_turn_26 rfl ?_
      refine j_get (q := 30) (ci := 8) (q0 := 0) (kf := 19) (v := .int (nI tu)) F inX8 rfl rfl rfl tw_677 rfl rfl dX8_turn_27 rfl ?_
      refine j_iconst (q := 31) (v := nI 1) F (by decide) dX8_turn_30 rfl ?_
      refine j_iadd (q := 32) (v := nI (tu + 1)) F (nI_add _ _) dX8_turn_31 rfl ?_
      refine j_put (q := 35) (ci := 8) (q0 := 0) (kf := 19) (v := .int (nI (tu + 1))) (w' := [(e0, .inr (8, [.ref e1, .int (nI ln), .int (nI aa), .int (nI bg), .int (nI tk), .int (nI td), .int (nI rl), .int (nI rs), .int (nI rd), .ref e2, .ref e3, .ref e4, .int (nI n), .int (nI m), .ref e5, .ref e6, .ref e7, .int (nI be), .int (nI sd), .int (nI (tu + 1)), .int (nI fo), .ref e8, .ref e9, .int (nI (rmK kn)), .int (nI tl), .int (nI rn), .ref ea, .long tr, .ref eb])), (e9, .inl (G.2.2.1, 40, .inl (nF (rmP kn be sd tu fo pa))))]) F inX8 tyX8_ok nmX8 rfl rfl rfl tw_677 rfl rfl rfl rfl rfl rfl dX8_turn_32 rfl ?_
      refine j_aload_n (q := 36) (i0 := 0) F rfl dX8_turn_35 rfl ?_
      refine j_dup (q := 37) F rfl dX8_turn_36 rfl ?_
      refine j_get (q := 40) (ci := 8) (q0 := 0) (kf := 18) (v := .int (nI sd)) F inX8 rfl rfl rfl tw_676 rfl rfl dX8_turn_37 rfl ?_
      refine j_iconst (q := 41) (v := nI 1) F (by decide) dX8_turn_40 rfl ?_
      refine j_iload_n (q := 42) (i0 := 1) F rfl dX8_turn_41 rfl ?_
      refine j_ishl (q := 43) (v := nI (2 ^ j)) F (nx_shl1 (by omega)) dX8_turn_42 rfl ?_
      refine j_ixor (q := 44) (v := nI (sd ^^^ (2 ^ j))) F (nx_xor _ _) dX8_turn_43 rfl ?_
      refine j_put (q := 47) (ci := 8) (q0 := 0) (kf := 18) (v := .int (nI (sd ^^^ (2 ^ j)))) (w' := [(e0, .inr (8, [.ref e1, .int (nI ln), .int (nI aa), .int (nI bg), .int (nI tk), .int (nI td), .int (nI rl), .int (nI rs), .int (nI rd), .ref e2, .ref e3, .ref e4, .int (nI n), .int (nI m), .ref e5, .ref e6, .ref e7, .int (nI be), .int (nI (sd ^^^ (2 ^ j))), .int (nI (tu + 1)), .int (nI fo), .ref e8, .ref e9, .int (nI (rmK kn)), .int (nI tl), .int (nI rn), .ref ea, .long tr, .ref eb])), (e9, .inl (G.2.2.1, 40, .inl (nF (rmP kn be sd tu fo pa))))]) F inX8 tyX8_ok nmX8 rfl rfl rfl tw_676 rfl rfl rfl rfl rfl rfl dX8_turn_44 rfl ?_
      refine j_aload_n (q := 48) (i0 := 0) F rfl dX8_turn_47 rfl ?_
      refine j_get (q := 51) (ci := 8) (q0 := 0) (kf := 18) (v := .int (nI (sd ^^^ (2 ^ j)))) F inX8 rfl rfl rfl tw_676 rfl rfl dX8_turn_48 rfl ?_
      exact j_iret (w2 := [(e0, .inr (8, [.ref e1, .int (nI ln), .int (nI aa), .int (nI bg), .int (nI tk), .int (nI td), .int (nI rl), .int (nI rs), .int (nI rd), .ref e2, .ref e3, .ref e4, .int (nI n), .int (nI m), .ref e5, .ref e6, .ref e7, .int (nI be), .int (nI (sd ^^^ (2 ^ j))), .int (nI (tu + 1)), .int (nI fo), .ref e8, .ref e9, .int (nI (rmK kn)), .int (nI tl), .int (nI rn), .ref ea, .long tr, .ref eb])), (e9, .inl (G.2.2.1, 40, .inl (nF (rmP kn be sd tu fo pa))))]) F R0 rfl [0, 1] rfl rfl (⟨by rw [aTurn, if_pos hc, if_pos (by dsimp only; omega), nI_clamp (by omega)], by rw [pTurn, if_pos ⟨hc, by dsimp only; omega⟩, nI_clamp (by omega)]; rfl⟩) dX8_turn_51
    · skip
      refine j_bipush (q := 20) (v := (-2)) F (by decide) dX8_turn_18 rfl ?_
      exact j_iret (w2 := [(e0, .inr (8, [.ref e1, .int (nI ln), .int (nI aa), .int (nI bg), .int (nI tk), .int (nI td), .int (nI rl), .int (nI rs), .int (nI rd), .ref e2, .ref e3, .ref e4, .int (nI n), .int (nI m), .ref e5, .ref e6, .ref e7, .int (nI be), .int (nI sd), .int (nI tu), .int (nI fo), .ref e8, .ref e9, .int (nI kn), .int (nI tl), .int (nI rn), .ref ea, .long tr, .ref eb])), (e9, .inl (G.2.2.1, 40, .inl (nF pa)))]) F R0 rfl [0, 1] rfl rfl (⟨by rw [aTurn, if_pos hc, if_neg (by dsimp only; omega)], by rw [pTurn, if_neg (fun z => by have := z.2; dsimp only at this; omega)]⟩) dX8_turn_20
  · skip
    refine j_w (w' := [(e0, .inr (8, [.ref e1, .int (nI ln), .int (nI aa), .int (nI bg), .int (nI tk), .int (nI td), .int (nI rl), .int (nI rs), .int (nI rd), .ref e2, .ref e3, .ref e4, .int (nI n), .int (nI m), .ref e5, .ref e6, .ref e7, .int (nI be), .int (nI sd), .int (nI tu), .int (nI fo), .ref e8, .ref e9, .int (nI kn), .int (nI tl), .int (nI rn), .ref ea, .long tr, .ref eb])), (e9, .inl (G.2.2.1, 40, .inl (nF pa)))]) [1, 0] rfl rfl ?_
    show Jw G X _ 0 0 5 _ [.int (nI 0)] _
    refine j_if_ne (q := 8) (t := 10) F (ct (by decide)) dX8_turn_5 rfl rfl (fun z => absurd trivial z) (fun _ => ?_)
    refine j_iconst (q := 9) (v := (-1)) F (by decide) dX8_turn_8 rfl ?_
    exact j_iret (w2 := [(e0, .inr (8, [.ref e1, .int (nI ln), .int (nI aa), .int (nI bg), .int (nI tk), .int (nI td), .int (nI rl), .int (nI rs), .int (nI rd), .ref e2, .ref e3, .ref e4, .int (nI n), .int (nI m), .ref e5, .ref e6, .ref e7, .int (nI be), .int (nI sd), .int (nI tu), .int (nI fo), .ref e8, .ref e9, .int (nI kn), .int (nI tl), .int (nI rn), .ref ea, .long tr, .ref eb])), (e9, .inl (G.2.2.1, 40, .inl (nF pa)))]) F R0 rfl [0, 1] rfl rfl (⟨by rw [aTurn, cb_0 hx, if_neg (by decide)], by rw [pTurn, cb_0 hx, if_neg (fun z => absurd z.1 (by decide))]⟩) dX8_turn_9

set_option maxHeartbeats 4000000 in
set_option maxRecDepth 100000 in
theorem c_X8_fog (G : Gm) {e0 e1 e2 e3 e4 e5 e6 e7 e8 e9 ea eb : Nat} {ln aa bg tk td rl rs rd n m be sd tu fo kn tl rn : Nat} {ru la lb pa : Nat → Nat}  {tr : Int64} {x y : Int32} (hT : Tok n m ru la lb) (hP : PrOk n m (be, sd, tu, fo, kn, pa)) : Mg G yX8_fog cX8_fog 3 (some .int) ({ frames := 1, cells := 0, slots := 0, locals := 25 } : Room) 0 0 [.ref e0, .int x, .int y] [(e0, .inr (8, [.ref e1, .int (nI ln), .int (nI aa), .int (nI bg), .int (nI tk), .int (nI td), .int (nI rl), .int (nI rs), .int (nI rd), .ref e2, .ref e3, .ref e4, .int (nI n), .int (nI m), .ref e5, .ref e6, .ref e7, .int (nI be), .int (nI sd), .int (nI tu), .int (nI fo), .ref e8, .ref e9, .int (nI kn), .int (nI tl), .int (nI rn), .ref ea, .long tr, .ref eb])), (e9, .inl (G.2.2.1, 40, .inl (nF pa)))] (fun r w2 => r = some (.int (aFog m x y (be, sd, tu, fo, kn, pa))) ∧ w2 = [(e0, .inr (8, [.ref e1, .int (nI ln), .int (nI aa), .int (nI bg), .int (nI tk), .int (nI td), .int (nI rl), .int (nI rs), .int (nI rd), .ref e2, .ref e3, .ref e4, .int (nI n), .int (nI m), .ref e5, .ref e6, .ref e7, .int (nI ((pFog m x y (be, sd, tu, fo, kn, pa)).1)), .int (nI ((pFog m x y (be, sd, tu, fo, kn, pa)).2.1)), .int (nI ((pFog m x y (be, sd, tu, fo, kn, pa)).2.2.1)), .int (nI ((pFog m x y (be, sd, tu, fo, kn, pa)).2.2.2.1)), .ref e8, .ref e9, .int (nI ((pFog m x y (be, sd, tu, fo, kn, pa)).2.2.2.2.1)), .int (nI tl), .int (nI rn), .ref ea, .long tr, .ref eb])), (e9, .inl (G.2.2.1, 40, .inl (nF ((pFog m x y (be, sd, tu, fo, kn, pa)).2.2.2.2.2))))]) := by
  have hn := hT.1
  have hm := hT.2.1
  have h9 := p9 hn
  have h15 := p15 hm
  have hsd : sd < 512 := by have := hP.2.1; dsimp only at this; omega
  have hfo : fo < 32768 := by have := hP.2.2.2.1; dsimp only at this; omega
  have hkn : kn ≤ 10 := hP.2.2.2.2.1
  refine Mg.mk (lv := [(0, .ref e0), (1, .int x), (2, .int y)]) (by decide) rfl rfl (fun X F R0 => ?_)
  refine j_iload_n (q := 1) (i0 := 1) F rfl dX8_fog_0 rfl ?_
  refine j_i2l (q := 2) (v := Int32.toInt64 x) F rfl dX8_fog_1 rfl ?_
  refine j_lconst (q := 3) (v := 0) F (by decide) dX8_fog_2 rfl ?_
  refine j_aload_n (q := 4) (i0 := 0) F rfl dX8_fog_3 rfl ?_
  refine j_get (q := 7) (ci := 8) (q0 := 0) (kf := 13) (v := .int (nI m)) F inX8 rfl rfl rfl tw_671 rfl rfl dX8_fog_4 rfl ?_
  refine j_iconst (q := 8) (v := nI 1) F (by decide) dX8_fog_7 rfl ?_
  refine j_isub (q := 9) (v := nI m - nI 1) F (rfl) dX8_fog_8 rfl ?_
  refine j_i2l (q := 10) (v := Int32.toInt64 (nI m - nI 1)) F rfl dX8_fog_9 rfl ?_
  refine j_callS (q := 13) (As := [.long (Int32.toInt64 x), .long 0, .long (Int32.toInt64 (nI m - nI 1))]) (wr := [(e0, .inr (8, [.ref e1, .int (nI ln), .int (nI aa), .int (nI bg), .int (nI tk), .int (nI td), .int (nI rl), .int (nI rs), .int (nI rd), .ref e2, .ref e3, .ref e4, .int (nI n), .int (nI m), .ref e5, .ref e6, .ref e7, .int (nI be), .int (nI sd), .int (nI tu), .int (nI fo), .ref e8, .ref e9, .int (nI kn), .int (nI tl), .int (nI rn), .ref ea, .long tr, .ref eb])), (e9, .inl (G.2.2.1, 40, .inl (nF pa)))]) (st := []) F (c_inR G (x := x) (n := m) rfl (by omega) (inL_c (by omega))) kwX8_in tw_752 tw_751 ⟨Nat.le_of_ble_eq_true rfl, Nat.le_of_ble_eq_true rfl, rfl, rfl, Nat.le_of_ble_eq_true rfl, Nat.le_of_ble_eq_true rfl⟩ [] [0, 1] rfl rfl rfl rfl rfl rfl rfl (Nat.le_of_ble_eq_true rfl) dX8_fog_10 rfl ?_
  rintro r_ w_ ⟨rfl, (⟨rfl, hx⟩ | ⟨rfl, hx⟩)⟩
  · skip
    refine j_w (w' := [(e0, .inr (8, [.ref e1, .int (nI ln), .int (nI aa), .int (nI bg), .int (nI tk), .int (nI td), .int (nI rl), .int (nI rs), .int (nI rd), .ref e2, .ref e3, .ref e4, .int (nI n), .int (nI m), .ref e5, .ref e6, .ref e7, .int (nI be), .int (nI sd), .int (nI tu), .int (nI fo), .ref e8, .ref e9, .int (nI kn), .int (nI tl), .int (nI rn), .ref ea, .long tr, .ref eb])), (e9, .inl (G.2.2.1, 40, .inl (nF pa)))]) [0, 1] rfl rfl ?_
    show Jw G X _ 0 0 13 _ [.int (nI 1)] _
    refine j_if_eq (q := 16) (t := 26) F (cf (by decide)) dX8_fog_13 rfl rfl (fun z => False.elim z) (fun _ => ?_)
    refine j_iload_n (q := 17) (i0 := 2) F rfl dX8_fog_16 rfl ?_
    refine j_i2l (q := 18) (v := Int32.toInt64 y) F rfl dX8_fog_17 rfl ?_
    refine j_lconst (q := 19) (v := 0) F (by decide) dX8_fog_18 rfl ?_
    refine j_lconst (q := 20) (v := 1) F (by decide) dX8_fog_19 rfl ?_
    refine j_callS (q := 23) (As := [.long (Int32.toInt64 y), .long 0, .long 1]) (wr := [(e0, .inr (8, [.ref e1, .int (nI ln), .int (nI aa), .int (nI bg), .int (nI tk), .int (nI td), .int (nI rl), .int (nI rs), .int (nI rd), .ref e2, .ref e3, .ref e4, .int (nI n), .int (nI m), .ref e5, .ref e6, .ref e7, .int (nI be), .int (nI sd), .int (nI tu), .int (nI fo), .ref e8, .ref e9, .int (nI kn), .int (nI tl), .int (nI rn), .ref ea, .long tr, .ref eb])), (e9, .inl (G.2.2.1, 40, .inl (nF pa)))]) (st := []) F (c_inR G (x := y) (n := 2) rfl (by decide) (rfl)) kwX8_in tw_752 tw_751 ⟨Nat.le_of_ble_eq_true rfl, Nat.le_of_ble_eq_true rfl, rfl, rfl, Nat.le_of_ble_eq_true rfl, Nat.le_of_ble_eq_true rfl⟩ [] [0, 1] rfl rfl rfl rfl rfl rfl rfl (Nat.le_of_ble_eq_true rfl) dX8_fog_20 rfl ?_
    rintro r_ w_ ⟨rfl, (⟨rfl, hy⟩ | ⟨rfl, hy⟩)⟩
    · skip
      refine j_w (w' := [(e0, .inr (8, [.ref e1, .int (nI ln), .int (nI aa), .int (nI bg), .int (nI tk), .int (nI td), .int (nI rl), .int (nI rs), .int (nI rd), .ref e2, .ref e3, .ref e4, .int (nI n), .int (nI m), .ref e5, .ref e6, .ref e7, .int (nI be), .int (nI sd), .int (nI tu), .int (nI fo), .ref e8, .ref e9, .int (nI kn), .int (nI tl), .int (nI rn), .ref ea, .long tr, .ref eb])), (e9, .inl (G.2.2.1, 40, .inl (nF pa)))]) [0, 1] rfl rfl ?_
      show Jw G X _ 0 0 23 _ [.int (nI 1)] _
      refine j_if_ne (q := 26) (t := 28) F (cf (by decide)) dX8_fog_23 rfl rfl (fun _ => ?_) (fun z => False.elim z)
      have hc := cb_1 hx
      obtain ⟨j, hj, rfl⟩ := hx
      have hc2 := cb_1 hy
      obtain ⟨i, hi, rfl⟩ := hy
      have hb1 := bitN_le fo j
      refine j_aload_n (q := 29) (i0 := 0) F rfl dX8_fog_28 rfl ?_
      refine j_get (q := 32) (ci := 8) (q0 := 0) (kf := 20) (v := .int (nI fo)) F inX8 rfl rfl rfl tw_678 rfl rfl dX8_fog_29 rfl ?_
      refine j_iload_n (q := 33) (i0 := 1) F rfl dX8_fog_32 rfl ?_
      refine j_ishr (q := 34) (v := nI (fo >>> j)) F (nx_shr (by omega) (by omega)) dX8_fog_33 rfl ?_
      refine j_iconst (q := 35) (v := nI 1) F (by decide) dX8_fog_34 rfl ?_
      refine j_iand (q := 36) (v := nI (bitN fo j)) F (nx_and _ _) dX8_fog_35 rfl ?_
      refine j_iload_n (q := 37) (i0 := 2) F rfl dX8_fog_36 rfl ?_
      refine j_icmp_ne (q := 40) (t := 43) F (Pp := bitN fo j = i) (nI_eq (by omega) (by omega)) dX8_fog_37 rfl rfl (fun ce => ?_) (fun ce => ?_)
      · skip
        refine j_aload_n (q := 44) (i0 := 0) F rfl dX8_fog_43 rfl ?_
        refine j_callV (q := 47) (ci := 8) (q0 := 0) (As := []) (wr := []) (st := []) F (c_X8_notes G hkn) kwX8_notes tw_822 tw_29 tw_820 ⟨Nat.le_of_ble_eq_true rfl, Nat.le_of_ble_eq_true rfl, rfl, rfl, Nat.le_of_ble_eq_true rfl, Nat.le_of_ble_eq_true rfl⟩ [0, 1] [] rfl rfl rfl rfl rfl rfl rfl rfl rfl (Nat.le_of_ble_eq_true rfl) dX8_fog_44 rfl ?_
        rintro r_ w_ ⟨rfl, rfl⟩
        refine j_w (w' := [(e0, .inr (8, [.ref e1, .int (nI ln), .int (nI aa), .int (nI bg), .int (nI tk), .int (nI td), .int (nI rl), .int (nI rs), .int (nI rd), .ref e2, .ref e3, .ref e4, .int (nI n), .int (nI m), .ref e5, .ref e6, .ref e7, .int (nI be), .int (nI sd), .int (nI tu), .int (nI fo), .ref e8, .ref e9, .int (nI (rmK kn)), .int (nI tl), .int (nI rn), .ref ea, .long tr, .ref eb])), (e9, .inl (G.2.2.1, 40, .inl (nF (rmP kn be sd tu fo pa))))]) [0, 1] rfl rfl ?_
        show Jw G X _ 0 0 47 _ [] _
        refine j_aload_n (q := 48) (i0 := 0) F rfl dX8_fog_47 rfl ?_
        refine j_dup (q := 49) F rfl dX8_fog_48 rfl ?_
        refine j_get (q := 52) (ci := 8) (q0 := 0) (kf := 20) (v := .int (nI fo)) F inX8 rfl rfl rfl tw_678 rfl rfl dX8_fog_49 rfl ?_
        refine j_iconst (q := 53) (v := nI 1) F (by decide) dX8_fog_52 rfl ?_
        refine j_iload_n (q := 54) (i0 := 1) F rfl dX8_fog_53 rfl ?_
        refine j_ishl (q := 55) (v := nI (2 ^ j)) F (nx_shl1 (by omega)) dX8_fog_54 rfl ?_
        refine j_ixor (q := 56) (v := nI (fo ^^^ (2 ^ j))) F (nx_xor _ _) dX8_fog_55 rfl ?_
        refine j_put (q := 59) (ci := 8) (q0 := 0) (kf := 20) (v := .int (nI (fo ^^^ (2 ^ j)))) (w' := [(e0, .inr (8, [.ref e1, .int (nI ln), .int (nI aa), .int (nI bg), .int (nI tk), .int (nI td), .int (nI rl), .int (nI rs), .int (nI rd), .ref e2, .ref e3, .ref e4, .int (nI n), .int (nI m), .ref e5, .ref e6, .ref e7, .int (nI be), .int (nI sd), .int (nI tu), .int (nI (fo ^^^ (2 ^ j))), .ref e8, .ref e9, .int (nI (rmK kn)), .int (nI tl), .int (nI rn), .ref ea, .long tr, .ref eb])), (e9, .inl (G.2.2.1, 40, .inl (nF (rmP kn be sd tu fo pa))))]) F inX8 tyX8_ok nmX8 rfl rfl rfl tw_678 rfl rfl rfl rfl rfl rfl dX8_fog_56 rfl ?_
        refine j_aload_n (q := 60) (i0 := 0) F rfl dX8_fog_59 rfl ?_
        refine j_get (q := 63) (ci := 8) (q0 := 0) (kf := 20) (v := .int (nI (fo ^^^ (2 ^ j)))) F inX8 rfl rfl rfl tw_678 rfl rfl dX8_fog_60 rfl ?_
        refine j_callS (q := 66) (As := [.int (nI (fo ^^^ (2 ^ j)))]) (wr := [(e0, .inr (8, [.ref e1, .int (nI ln), .int (nI aa), .int (nI bg), .int (nI tk), .int (nI td), .int (nI rl), .int (nI rs), .int (nI rd), .ref e2, .ref e3, .ref e4, .int (nI n), .int (nI m), .ref e5, .ref e6, .ref e7, .int (nI be), .int (nI sd), .int (nI tu), .int (nI (fo ^^^ (2 ^ j))), .ref e8, .ref e9, .int (nI (rmK kn)), .int (nI tl), .int (nI rn), .ref ea, .long tr, .ref eb])), (e9, .inl (G.2.2.1, 40, .inl (nF (rmP kn be sd tu fo pa))))]) (st := []) F (c_X8_many G (k := fo ^^^ 2 ^ j) (Nat.lt_of_lt_of_le (Nat.xor_lt_two_pow (n := 15) hfo (Nat.pow_lt_pow_right (by decide) (by omega))) (by decide))) kwX8_many tw_809 tw_808 ⟨Nat.le_of_ble_eq_true rfl, Nat.le_of_ble_eq_true rfl, rfl, rfl, Nat.le_of_ble_eq_true rfl, Nat.le_of_ble_eq_true rfl⟩ [] [0, 1] rfl rfl rfl rfl rfl rfl rfl (Nat.le_of_ble_eq_true rfl) dX8_fog_63 rfl ?_
        rintro r_ w_ ⟨rfl, rfl⟩
        refine j_w (w' := [(e0, .inr (8, [.ref e1, .int (nI ln), .int (nI aa), .int (nI bg), .int (nI tk), .int (nI td), .int (nI rl), .int (nI rs), .int (nI rd), .ref e2, .ref e3, .ref e4, .int (nI n), .int (nI m), .ref e5, .ref e6, .ref e7, .int (nI be), .int (nI sd), .int (nI tu), .int (nI (fo ^^^ (2 ^ j))), .ref e8, .ref e9, .int (nI (rmK kn)), .int (nI tl), .int (nI rn), .ref ea, .long tr, .ref eb])), (e9, .inl (G.2.2.1, 40, .inl (nF (rmP kn be sd tu fo pa))))]) [0, 1] rfl rfl ?_
        show Jw G X _ 0 0 66 _ [.int (nI (pcN (fo ^^^ 2 ^ j)))] _
        exact j_iret (w2 := [(e0, .inr (8, [.ref e1, .int (nI ln), .int (nI aa), .int (nI bg), .int (nI tk), .int (nI td), .int (nI rl), .int (nI rs), .int (nI rd), .ref e2, .ref e3, .ref e4, .int (nI n), .int (nI m), .ref e5, .ref e6, .ref e7, .int (nI be), .int (nI sd), .int (nI tu), .int (nI (fo ^^^ (2 ^ j))), .ref e8, .ref e9, .int (nI (rmK kn)), .int (nI tl), .int (nI rn), .ref ea, .long tr, .ref eb])), (e9, .inl (G.2.2.1, 40, .inl (nF (rmP kn be sd tu fo pa))))]) F R0 rfl [0, 1] rfl rfl (⟨by rw [aFog, if_pos ⟨hc, hc2⟩, nI_clamp (by omega), nI_clamp (by omega), if_neg ce], by rw [pFog, nI_clamp (by omega), nI_clamp (by omega), if_pos ⟨⟨hc, hc2⟩, ce⟩]; rfl⟩) dX8_fog_66
      · skip
        refine j_bipush (q := 42) (v := (-2)) F (by decide) dX8_fog_40 rfl ?_
        exact j_iret (w2 := [(e0, .inr (8, [.ref e1, .int (nI ln), .int (nI aa), .int (nI bg), .int (nI tk), .int (nI td), .int (nI rl), .int (nI rs), .int (nI rd), .ref e2, .ref e3, .ref e4, .int (nI n), .int (nI m), .ref e5, .ref e6, .ref e7, .int (nI be), .int (nI sd), .int (nI tu), .int (nI fo), .ref e8, .ref e9, .int (nI kn), .int (nI tl), .int (nI rn), .ref ea, .long tr, .ref eb])), (e9, .inl (G.2.2.1, 40, .inl (nF pa)))]) F R0 rfl [0, 1] rfl rfl (⟨by rw [aFog, if_pos ⟨hc, hc2⟩, nI_clamp (by omega), nI_clamp (by omega), if_pos ce], by rw [pFog, nI_clamp (by omega), nI_clamp (by omega), if_neg (fun z => z.2 ce)]⟩) dX8_fog_42
    · skip
      refine j_w (w' := [(e0, .inr (8, [.ref e1, .int (nI ln), .int (nI aa), .int (nI bg), .int (nI tk), .int (nI td), .int (nI rl), .int (nI rs), .int (nI rd), .ref e2, .ref e3, .ref e4, .int (nI n), .int (nI m), .ref e5, .ref e6, .ref e7, .int (nI be), .int (nI sd), .int (nI tu), .int (nI fo), .ref e8, .ref e9, .int (nI kn), .int (nI tl), .int (nI rn), .ref ea, .long tr, .ref eb])), (e9, .inl (G.2.2.1, 40, .inl (nF pa)))]) [0, 1] rfl rfl ?_
      show Jw G X _ 0 0 23 _ [.int (nI 0)] _
      refine j_if_ne (q := 26) (t := 28) F (ct (by decide)) dX8_fog_23 rfl rfl (fun z => absurd trivial z) (fun _ => ?_)
      refine j_iconst (q := 27) (v := (-1)) F (by decide) dX8_fog_26 rfl ?_
      exact j_iret (w2 := [(e0, .inr (8, [.ref e1, .int (nI ln), .int (nI aa), .int (nI bg), .int (nI tk), .int (nI td), .int (nI rl), .int (nI rs), .int (nI rd), .ref e2, .ref e3, .ref e4, .int (nI n), .int (nI m), .ref e5, .ref e6, .ref e7, .int (nI be), .int (nI sd), .int (nI tu), .int (nI fo), .ref e8, .ref e9, .int (nI kn), .int (nI tl), .int (nI rn), .ref ea, .long tr, .ref eb])), (e9, .inl (G.2.2.1, 40, .inl (nF pa)))]) F R0 rfl [0, 1] rfl rfl (⟨by rw [aFog, cb_0 hy, if_neg (fun z => absurd z.2 (by decide))], by rw [pFog, cb_0 hy, if_neg (fun z => absurd z.1.2 (by decide))]⟩) dX8_fog_27
  · skip
    refine j_w (w' := [(e0, .inr (8, [.ref e1, .int (nI ln), .int (nI aa), .int (nI bg), .int (nI tk), .int (nI td), .int (nI rl), .int (nI rs), .int (nI rd), .ref e2, .ref e3, .ref e4, .int (nI n), .int (nI m), .ref e5, .ref e6, .ref e7, .int (nI be), .int (nI sd), .int (nI tu), .int (nI fo), .ref e8, .ref e9, .int (nI kn), .int (nI tl), .int (nI rn), .ref ea, .long tr, .ref eb])), (e9, .inl (G.2.2.1, 40, .inl (nF pa)))]) [0, 1] rfl rfl ?_
    show Jw G X _ 0 0 13 _ [.int (nI 0)] _
    refine j_if_eq (q := 16) (t := 26) F (ct (by decide)) dX8_fog_13 rfl rfl (fun _ => ?_) (fun z => absurd trivial z)
    refine j_iconst (q := 27) (v := (-1)) F (by decide) dX8_fog_26 rfl ?_
    exact j_iret (w2 := [(e0, .inr (8, [.ref e1, .int (nI ln), .int (nI aa), .int (nI bg), .int (nI tk), .int (nI td), .int (nI rl), .int (nI rs), .int (nI rd), .ref e2, .ref e3, .ref e4, .int (nI n), .int (nI m), .ref e5, .ref e6, .ref e7, .int (nI be), .int (nI sd), .int (nI tu), .int (nI fo), .ref e8, .ref e9, .int (nI kn), .int (nI tl), .int (nI rn), .ref ea, .long tr, .ref eb])), (e9, .inl (G.2.2.1, 40, .inl (nF pa)))]) F R0 rfl [0, 1] rfl rfl (⟨by rw [aFog, cb_0 hx, if_neg (fun z => absurd z.1 (by decide))], by rw [pFog, cb_0 hx, if_neg (fun z => absurd z.1.1 (by decide))]⟩) dX8_fog_27

set_option maxHeartbeats 4000000 in
set_option maxRecDepth 100000 in
theorem c_X8_undo (G : Gm) {e0 e1 e2 e3 e4 e5 e6 e7 e8 e9 ea eb : Nat} {ln aa bg tk td rl rs rd n m be sd tu fo kn tl rn : Nat} {pa : Nat → Nat}  {tr : Int64} (hP : PrOk n m (be, sd, tu, fo, kn, pa)) : Mg G yX8_undo cX8_undo 1 (some .int) ({ frames := 0, cells := 0, slots := 0, locals := 0 } : Room) 0 0 [.ref e0] [(e0, .inr (8, [.ref e1, .int (nI ln), .int (nI aa), .int (nI bg), .int (nI tk), .int (nI td), .int (nI rl), .int (nI rs), .int (nI rd), .ref e2, .ref e3, .ref e4, .int (nI n), .int (nI m), .ref e5, .ref e6, .ref e7, .int (nI be), .int (nI sd), .int (nI tu), .int (nI fo), .ref e8, .ref e9, .int (nI kn), .int (nI tl), .int (nI rn), .ref ea, .long tr, .ref eb])), (e9, .inl (G.2.2.1, 40, .inl (nF pa)))] (fun r w2 => r = some (.int (aUndo (be, sd, tu, fo, kn, pa))) ∧ w2 = [(e0, .inr (8, [.ref e1, .int (nI ln), .int (nI aa), .int (nI bg), .int (nI tk), .int (nI td), .int (nI rl), .int (nI rs), .int (nI rd), .ref e2, .ref e3, .ref e4, .int (nI n), .int (nI m), .ref e5, .ref e6, .ref e7, .int (nI ((pUndo (be, sd, tu, fo, kn, pa)).1)), .int (nI ((pUndo (be, sd, tu, fo, kn, pa)).2.1)), .int (nI ((pUndo (be, sd, tu, fo, kn, pa)).2.2.1)), .int (nI ((pUndo (be, sd, tu, fo, kn, pa)).2.2.2.1)), .ref e8, .ref e9, .int (nI ((pUndo (be, sd, tu, fo, kn, pa)).2.2.2.2.1)), .int (nI tl), .int (nI rn), .ref ea, .long tr, .ref eb])), (e9, .inl (G.2.2.1, 40, .inl (nF ((pUndo (be, sd, tu, fo, kn, pa)).2.2.2.2.2))))]) := by
  have hkn : kn ≤ 10 := hP.2.2.2.2.1
  refine Mg.mk (lv := [(0, .ref e0)]) (by decide) rfl rfl (fun X F R0 => ?_)
  refine j_aload_n (q := 1) (i0 := 0) F rfl dX8_undo_0 rfl ?_
  refine j_get (q := 4) (ci := 8) (q0 := 0) (kf := 23) (v := .int (nI kn)) F inX8 rfl rfl rfl tw_681 rfl rfl dX8_undo_1 rfl ?_
  refine j_if_ne (q := 7) (t := 10) F (Pp := kn = 0) (nI_eq0 (by omega)) dX8_undo_4 rfl rfl (fun c0 => ?_) (fun c0 => ?_)
  · skip
    refine j_aload_n (q := 11) (i0 := 0) F rfl dX8_undo_10 rfl ?_
    refine j_dup (q := 12) F rfl dX8_undo_11 rfl ?_
    refine j_get (q := 15) (ci := 8) (q0 := 0) (kf := 23) (v := .int (nI kn)) F inX8 rfl rfl rfl tw_681 rfl rfl dX8_undo_12 rfl ?_
    refine j_iconst (q := 16) (v := nI 1) F (by decide) dX8_undo_15 rfl ?_
    refine j_isub (q := 17) (v := nI (kn - 1)) F (pk_sub (by omega)) dX8_undo_16 rfl ?_
    refine j_put (q := 20) (ci := 8) (q0 := 0) (kf := 23) (v := .int (nI (kn - 1))) (w' := [(e0, .inr (8, [.ref e1, .int (nI ln), .int (nI aa), .int (nI bg), .int (nI tk), .int (nI td), .int (nI rl), .int (nI rs), .int (nI rd), .ref e2, .ref e3, .ref e4, .int (nI n), .int (nI m), .ref e5, .ref e6, .ref e7, .int (nI be), .int (nI sd), .int (nI tu), .int (nI fo), .ref e8, .ref e9, .int (nI (kn - 1)), .int (nI tl), .int (nI rn), .ref ea, .long tr, .ref eb])), (e9, .inl (G.2.2.1, 40, .inl (nF pa)))]) F inX8 tyX8_ok nmX8 rfl rfl rfl tw_681 rfl rfl rfl rfl rfl rfl dX8_undo_17 rfl ?_
    refine j_aload_n (q := 21) (i0 := 0) F rfl dX8_undo_20 rfl ?_
    refine j_aload_n (q := 22) (i0 := 0) F rfl dX8_undo_21 rfl ?_
    refine j_get (q := 25) (ci := 8) (q0 := 0) (kf := 22) (v := .ref e9) F inX8 rfl rfl rfl tw_680 rfl rfl dX8_undo_22 rfl ?_
    refine j_iconst (q := 26) (v := nI 4) F (by decide) dX8_undo_25 rfl ?_
    refine j_aload_n (q := 27) (i0 := 0) F rfl dX8_undo_26 rfl ?_
    refine j_get (q := 30) (ci := 8) (q0 := 0) (kf := 23) (v := .int (nI (kn - 1))) F inX8 rfl rfl rfl tw_681 rfl rfl dX8_undo_27 rfl ?_
    refine j_imul (q := 31) (v := nI ((kn - 1) * 4)) F ((pk_mul _ _).trans (congrArg nI (Nat.mul_comm _ _))) dX8_undo_30 rfl ?_
    refine j_iald (q := 32) (q0 := 1) (i := ((kn - 1) * 4)) (v := nI (pa ((kn - 1) * 4))) F rfl rfl (by omega) rfl (rfl) dX8_undo_31 rfl ?_
    refine j_put (q := 35) (ci := 8) (q0 := 0) (kf := 17) (v := .int (nI (pa ((kn - 1) * 4)))) (w' := [(e0, .inr (8, [.ref e1, .int (nI ln), .int (nI aa), .int (nI bg), .int (nI tk), .int (nI td), .int (nI rl), .int (nI rs), .int (nI rd), .ref e2, .ref e3, .ref e4, .int (nI n), .int (nI m), .ref e5, .ref e6, .ref e7, .int (nI (pa ((kn - 1) * 4))), .int (nI sd), .int (nI tu), .int (nI fo), .ref e8, .ref e9, .int (nI (kn - 1)), .int (nI tl), .int (nI rn), .ref ea, .long tr, .ref eb])), (e9, .inl (G.2.2.1, 40, .inl (nF pa)))]) F inX8 tyX8_ok nmX8 rfl rfl rfl tw_675 rfl rfl rfl rfl rfl rfl dX8_undo_32 rfl ?_
    refine j_aload_n (q := 36) (i0 := 0) F rfl dX8_undo_35 rfl ?_
    refine j_aload_n (q := 37) (i0 := 0) F rfl dX8_undo_36 rfl ?_
    refine j_get (q := 40) (ci := 8) (q0 := 0) (kf := 22) (v := .ref e9) F inX8 rfl rfl rfl tw_680 rfl rfl dX8_undo_37 rfl ?_
    refine j_iconst (q := 41) (v := nI 4) F (by decide) dX8_undo_40 rfl ?_
    refine j_aload_n (q := 42) (i0 := 0) F rfl dX8_undo_41 rfl ?_
    refine j_get (q := 45) (ci := 8) (q0 := 0) (kf := 23) (v := .int (nI (kn - 1))) F inX8 rfl rfl rfl tw_681 rfl rfl dX8_undo_42 rfl ?_
    refine j_imul (q := 46) (v := nI ((kn - 1) * 4)) F ((pk_mul _ _).trans (congrArg nI (Nat.mul_comm _ _))) dX8_undo_45 rfl ?_
    refine j_iconst (q := 47) (v := nI 1) F (by decide) dX8_undo_46 rfl ?_
    refine j_iadd (q := 48) (v := nI (((kn - 1) * 4) + 1)) F (nI_add _ _) dX8_undo_47 rfl ?_
    refine j_iald (q := 49) (q0 := 1) (i := (((kn - 1) * 4) + 1)) (v := nI (pa (((kn - 1) * 4) + 1))) F rfl rfl (by omega) rfl (rfl) dX8_undo_48 rfl ?_
    refine j_put (q := 52) (ci := 8) (q0 := 0) (kf := 18) (v := .int (nI (pa (((kn - 1) * 4) + 1)))) (w' := [(e0, .inr (8, [.ref e1, .int (nI ln), .int (nI aa), .int (nI bg), .int (nI tk), .int (nI td), .int (nI rl), .int (nI rs), .int (nI rd), .ref e2, .ref e3, .ref e4, .int (nI n), .int (nI m), .ref e5, .ref e6, .ref e7, .int (nI (pa ((kn - 1) * 4))), .int (nI (pa (((kn - 1) * 4) + 1))), .int (nI tu), .int (nI fo), .ref e8, .ref e9, .int (nI (kn - 1)), .int (nI tl), .int (nI rn), .ref ea, .long tr, .ref eb])), (e9, .inl (G.2.2.1, 40, .inl (nF pa)))]) F inX8 tyX8_ok nmX8 rfl rfl rfl tw_676 rfl rfl rfl rfl rfl rfl dX8_undo_49 rfl ?_
    refine j_aload_n (q := 53) (i0 := 0) F rfl dX8_undo_52 rfl ?_
    refine j_aload_n (q := 54) (i0 := 0) F rfl dX8_undo_53 rfl ?_
    refine j_get (q := 57) (ci := 8) (q0 := 0) (kf := 22) (v := .ref e9) F inX8 rfl rfl rfl tw_680 rfl rfl dX8_undo_54 rfl ?_
    refine j_iconst (q := 58) (v := nI 4) F (by decide) dX8_undo_57 rfl ?_
    refine j_aload_n (q := 59) (i0 := 0) F rfl dX8_undo_58 rfl ?_
    refine j_get (q := 62) (ci := 8) (q0 := 0) (kf := 23) (v := .int (nI (kn - 1))) F inX8 rfl rfl rfl tw_681 rfl rfl dX8_undo_59 rfl ?_
    refine j_imul (q := 63) (v := nI ((kn - 1) * 4)) F ((pk_mul _ _).trans (congrArg nI (Nat.mul_comm _ _))) dX8_undo_62 rfl ?_
    refine j_iconst (q := 64) (v := nI 2) F (by decide) dX8_undo_63 rfl ?_
    refine j_iadd (q := 65) (v := nI (((kn - 1) * 4) + 2)) F (nI_add _ _) dX8_undo_64 rfl ?_
    refine j_iald (q := 66) (q0 := 1) (i := (((kn - 1) * 4) + 2)) (v := nI (pa (((kn - 1) * 4) + 2))) F rfl rfl (by omega) rfl (rfl) dX8_undo_65 rfl ?_
    refine j_put (q := 69) (ci := 8) (q0 := 0) (kf := 19) (v := .int (nI (pa (((kn - 1) * 4) + 2)))) (w' := [(e0, .inr (8, [.ref e1, .int (nI ln), .int (nI aa), .int (nI bg), .int (nI tk), .int (nI td), .int (nI rl), .int (nI rs), .int (nI rd), .ref e2, .ref e3, .ref e4, .int (nI n), .int (nI m), .ref e5, .ref e6, .ref e7, .int (nI (pa ((kn - 1) * 4))), .int (nI (pa (((kn - 1) * 4) + 1))), .int (nI (pa (((kn - 1) * 4) + 2))), .int (nI fo), .ref e8, .ref e9, .int (nI (kn - 1)), .int (nI tl), .int (nI rn), .ref ea, .long tr, .ref eb])), (e9, .inl (G.2.2.1, 40, .inl (nF pa)))]) F inX8 tyX8_ok nmX8 rfl rfl rfl tw_677 rfl rfl rfl rfl rfl rfl dX8_undo_66 rfl ?_
    refine j_aload_n (q := 70) (i0 := 0) F rfl dX8_undo_69 rfl ?_
    refine j_aload_n (q := 71) (i0 := 0) F rfl dX8_undo_70 rfl ?_
    refine j_get (q := 74) (ci := 8) (q0 := 0) (kf := 22) (v := .ref e9) F inX8 rfl rfl rfl tw_680 rfl rfl dX8_undo_71 rfl ?_
    refine j_iconst (q := 75) (v := nI 4) F (by decide) dX8_undo_74 rfl ?_
    refine j_aload_n (q := 76) (i0 := 0) F rfl dX8_undo_75 rfl ?_
    refine j_get (q := 79) (ci := 8) (q0 := 0) (kf := 23) (v := .int (nI (kn - 1))) F inX8 rfl rfl rfl tw_681 rfl rfl dX8_undo_76 rfl ?_
    refine j_imul (q := 80) (v := nI ((kn - 1) * 4)) F ((pk_mul _ _).trans (congrArg nI (Nat.mul_comm _ _))) dX8_undo_79 rfl ?_
    refine j_iconst (q := 81) (v := nI 3) F (by decide) dX8_undo_80 rfl ?_
    refine j_iadd (q := 82) (v := nI (((kn - 1) * 4) + 3)) F (nI_add _ _) dX8_undo_81 rfl ?_
    refine j_iald (q := 83) (q0 := 1) (i := (((kn - 1) * 4) + 3)) (v := nI (pa (((kn - 1) * 4) + 3))) F rfl rfl (by omega) rfl (rfl) dX8_undo_82 rfl ?_
    refine j_put (q := 86) (ci := 8) (q0 := 0) (kf := 20) (v := .int (nI (pa (((kn - 1) * 4) + 3)))) (w' := [(e0, .inr (8, [.ref e1, .int (nI ln), .int (nI aa), .int (nI bg), .int (nI tk), .int (nI td), .int (nI rl), .int (nI rs), .int (nI rd), .ref e2, .ref e3, .ref e4, .int (nI n), .int (nI m), .ref e5, .ref e6, .ref e7, .int (nI (pa ((kn - 1) * 4))), .int (nI (pa (((kn - 1) * 4) + 1))), .int (nI (pa (((kn - 1) * 4) + 2))), .int (nI (pa (((kn - 1) * 4) + 3))), .ref e8, .ref e9, .int (nI (kn - 1)), .int (nI tl), .int (nI rn), .ref ea, .long tr, .ref eb])), (e9, .inl (G.2.2.1, 40, .inl (nF pa)))]) F inX8 tyX8_ok nmX8 rfl rfl rfl tw_678 rfl rfl rfl rfl rfl rfl dX8_undo_83 rfl ?_
    refine j_aload_n (q := 87) (i0 := 0) F rfl dX8_undo_86 rfl ?_
    refine j_get (q := 90) (ci := 8) (q0 := 0) (kf := 23) (v := .int (nI (kn - 1))) F inX8 rfl rfl rfl tw_681 rfl rfl dX8_undo_87 rfl ?_
    exact j_iret (w2 := [(e0, .inr (8, [.ref e1, .int (nI ln), .int (nI aa), .int (nI bg), .int (nI tk), .int (nI td), .int (nI rl), .int (nI rs), .int (nI rd), .ref e2, .ref e3, .ref e4, .int (nI n), .int (nI m), .ref e5, .ref e6, .ref e7, .int (nI (pa ((kn - 1) * 4))), .int (nI (pa (((kn - 1) * 4) + 1))), .int (nI (pa (((kn - 1) * 4) + 2))), .int (nI (pa (((kn - 1) * 4) + 3))), .ref e8, .ref e9, .int (nI (kn - 1)), .int (nI tl), .int (nI rn), .ref ea, .long tr, .ref eb])), (e9, .inl (G.2.2.1, 40, .inl (nF pa)))]) F R0 rfl [0, 1] rfl rfl (⟨by rw [aUndo, if_neg c0], by rw [pUndo, if_neg c0]⟩) dX8_undo_90
  · skip
    refine j_bipush (q := 9) (v := (-2)) F (by decide) dX8_undo_7 rfl ?_
    exact j_iret (w2 := [(e0, .inr (8, [.ref e1, .int (nI ln), .int (nI aa), .int (nI bg), .int (nI tk), .int (nI td), .int (nI rl), .int (nI rs), .int (nI rd), .ref e2, .ref e3, .ref e4, .int (nI n), .int (nI m), .ref e5, .ref e6, .ref e7, .int (nI be), .int (nI sd), .int (nI tu), .int (nI fo), .ref e8, .ref e9, .int (nI kn), .int (nI tl), .int (nI rn), .ref ea, .long tr, .ref eb])), (e9, .inl (G.2.2.1, 40, .inl (nF pa)))]) F R0 rfl [0, 1] rfl rfl (⟨by rw [aUndo, if_pos c0], by rw [pUndo, if_pos c0]⟩) dX8_undo_9

set_option maxHeartbeats 4000000 in
set_option maxRecDepth 100000 in
theorem c_X8_after (G : Gm) {e0 e1 e2 e3 e4 e5 e6 e7 e8 e9 ea eb : Nat} {ln aa bg tk td rl rs rd n m be sd tu fo kn tl rn : Nat} {ru la lb ne pa : Nat → Nat} {wh : Nat → Int32} {tr : Int64} {x : Int32} (hT : Tok n m ru la lb) (hP : PrOk n m (be, sd, tu, fo, kn, pa)) : Mg G yX8_after cX8_after 2 (some .int) ({ frames := 3, cells := 0, slots := 0, locals := 73 } : Room) 0 0 [.ref e0, .int x] [(e0, .inr (8, [.ref e1, .int (nI ln), .int (nI aa), .int (nI bg), .int (nI tk), .int (nI td), .int (nI rl), .int (nI rs), .int (nI rd), .ref e2, .ref e3, .ref e4, .int (nI n), .int (nI m), .ref e5, .ref e6, .ref e7, .int (nI be), .int (nI sd), .int (nI tu), .int (nI fo), .ref e8, .ref e9, .int (nI kn), .int (nI tl), .int (nI rn), .ref ea, .long tr, .ref eb])), (e5, .inl (G.2.2.1, 9, .inl (nF ru))), (e6, .inl (G.2.2.1, 15, .inl (nF la))), (e7, .inl (G.2.2.1, 15, .inl (nF lb))), (e8, .inl (G.2.2.1, 9, .inl (nF ne))), (ea, .inl (G.2.2.1, 512, .inl wh))] (fun r w2 => ∃ ne2 wh2 tl2 rn2, r = some (.int (aAfter (Fw n m ru la lb fo) sd x)) ∧ w2 = [(e0, .inr (8, [.ref e1, .int (nI ln), .int (nI aa), .int (nI bg), .int (nI tk), .int (nI td), .int (nI rl), .int (nI rs), .int (nI rd), .ref e2, .ref e3, .ref e4, .int (nI n), .int (nI m), .ref e5, .ref e6, .ref e7, .int (nI be), .int (nI sd), .int (nI tu), .int (nI fo), .ref e8, .ref e9, .int (nI kn), .int (nI tl2), .int (nI rn2), .ref ea, .long tr, .ref eb])), (e5, .inl (G.2.2.1, 9, .inl (nF ru))), (e6, .inl (G.2.2.1, 15, .inl (nF la))), (e7, .inl (G.2.2.1, 15, .inl (nF lb))), (e8, .inl (G.2.2.1, 9, .inl (nF ne2))), (ea, .inl (G.2.2.1, 512, .inl wh2))]) := by
  have hn := hT.1
  have hm := hT.2.1
  have h9 := p9 hn
  have h15 := p15 hm
  have hsd : sd < 512 := by have := hP.2.1; dsimp only at this; omega
  have hfo : fo < 32768 := by have := hP.2.2.2.1; dsimp only at this; omega
  refine Mg.mk (lv := [(0, .ref e0), (1, .int x)]) (by decide) rfl rfl (fun X F R0 => ?_)
  refine j_iload_n (q := 1) (i0 := 1) F rfl dX8_after_0 rfl ?_
  refine j_i2l (q := 2) (v := Int32.toInt64 x) F rfl dX8_after_1 rfl ?_
  refine j_lconst (q := 3) (v := 0) F (by decide) dX8_after_2 rfl ?_
  refine j_ldc2 (q := 6) F tw_852 dX8_after_3 rfl ?_
  refine j_callS (q := 9) (As := [.long (Int32.toInt64 x), .long 0, .long 600]) (wr := [(e0, .inr (8, [.ref e1, .int (nI ln), .int (nI aa), .int (nI bg), .int (nI tk), .int (nI td), .int (nI rl), .int (nI rs), .int (nI rd), .ref e2, .ref e3, .ref e4, .int (nI n), .int (nI m), .ref e5, .ref e6, .ref e7, .int (nI be), .int (nI sd), .int (nI tu), .int (nI fo), .ref e8, .ref e9, .int (nI kn), .int (nI tl), .int (nI rn), .ref ea, .long tr, .ref eb])), (e5, .inl (G.2.2.1, 9, .inl (nF ru))), (e6, .inl (G.2.2.1, 15, .inl (nF la))), (e7, .inl (G.2.2.1, 15, .inl (nF lb))), (e8, .inl (G.2.2.1, 9, .inl (nF ne))), (ea, .inl (G.2.2.1, 512, .inl wh))]) (st := []) F (c_inR G (x := x) (n := 601) rfl (by decide) (rfl)) kwX8_in tw_752 tw_751 ⟨Nat.le_of_ble_eq_true rfl, Nat.le_of_ble_eq_true rfl, rfl, rfl, Nat.le_of_ble_eq_true rfl, Nat.le_of_ble_eq_true rfl⟩ [] [0, 1, 2, 3, 4, 5] rfl rfl rfl rfl rfl rfl rfl (Nat.le_of_ble_eq_true rfl) dX8_after_6 rfl ?_
  rintro r_ w_ ⟨rfl, (⟨rfl, hx⟩ | ⟨rfl, hx⟩)⟩
  · skip
    refine j_w (w' := [(e0, .inr (8, [.ref e1, .int (nI ln), .int (nI aa), .int (nI bg), .int (nI tk), .int (nI td), .int (nI rl), .int (nI rs), .int (nI rd), .ref e2, .ref e3, .ref e4, .int (nI n), .int (nI m), .ref e5, .ref e6, .ref e7, .int (nI be), .int (nI sd), .int (nI tu), .int (nI fo), .ref e8, .ref e9, .int (nI kn), .int (nI tl), .int (nI rn), .ref ea, .long tr, .ref eb])), (e5, .inl (G.2.2.1, 9, .inl (nF ru))), (e6, .inl (G.2.2.1, 15, .inl (nF la))), (e7, .inl (G.2.2.1, 15, .inl (nF lb))), (e8, .inl (G.2.2.1, 9, .inl (nF ne))), (ea, .inl (G.2.2.1, 512, .inl wh))]) [0, 1, 2, 3, 4, 5] rfl rfl ?_
    show Jw G X _ 0 0 9 _ [.int (nI 1)] _
    refine j_if_ne (q := 12) (t := 14) F (cf (by decide)) dX8_after_9 rfl rfl (fun _ => ?_) (fun z => False.elim z)
    have hc := cb_1 hx
    obtain ⟨j, hj, rfl⟩ := hx
    refine j_aload_n (q := 15) (i0 := 0) F rfl dX8_after_14 rfl ?_
    refine j_aload_n (q := 16) (i0 := 0) F rfl dX8_after_15 rfl ?_
    refine j_get (q := 19) (ci := 8) (q0 := 0) (kf := 20) (v := .int (nI fo)) F inX8 rfl rfl rfl tw_678 rfl rfl dX8_after_16 rfl ?_
    refine j_callV (q := 22) (ci := 8) (q0 := 0) (As := [.int (nI fo)]) (wr := [(e5, .inl (G.2.2.1, 9, .inl (nF ru))), (ea, .inl (G.2.2.1, 512, .inl wh))]) (st := []) F (c_X8_looks G (wo := fo) hT (hfo)) kwX8_looks tw_826 tw_30 tw_824 ⟨Nat.le_of_ble_eq_true rfl, Nat.le_of_ble_eq_true rfl, rfl, rfl, Nat.le_of_ble_eq_true rfl, Nat.le_of_ble_eq_true rfl⟩ [0, 2, 3, 4] [1, 5] rfl rfl rfl rfl rfl rfl rfl rfl rfl (Nat.le_of_ble_eq_true rfl) dX8_after_19 rfl ?_
    rintro r_ w_ ⟨ne2, hne2, rfl, rfl⟩
    refine j_w (w' := [(e0, .inr (8, [.ref e1, .int (nI ln), .int (nI aa), .int (nI bg), .int (nI tk), .int (nI td), .int (nI rl), .int (nI rs), .int (nI rd), .ref e2, .ref e3, .ref e4, .int (nI n), .int (nI m), .ref e5, .ref e6, .ref e7, .int (nI be), .int (nI sd), .int (nI tu), .int (nI fo), .ref e8, .ref e9, .int (nI kn), .int (nI tl), .int (nI rn), .ref ea, .long tr, .ref eb])), (e5, .inl (G.2.2.1, 9, .inl (nF ru))), (e6, .inl (G.2.2.1, 15, .inl (nF la))), (e7, .inl (G.2.2.1, 15, .inl (nF lb))), (e8, .inl (G.2.2.1, 9, .inl (nF ne2))), (ea, .inl (G.2.2.1, 512, .inl wh))]) [2, 0, 3, 4, 5, 1] rfl rfl ?_
    show Jw G X _ 0 0 22 _ [] _
    have hW := Wk.of hT hne2
    refine j_aload_n (q := 23) (i0 := 0) F rfl dX8_after_22 rfl ?_
    refine j_aload_n (q := 24) (i0 := 0) F rfl dX8_after_23 rfl ?_
    refine j_get (q := 27) (ci := 8) (q0 := 0) (kf := 18) (v := .int (nI sd)) F inX8 rfl rfl rfl tw_676 rfl rfl dX8_after_24 rfl ?_
    refine j_iload_n (q := 28) (i0 := 1) F rfl dX8_after_27 rfl ?_
    refine j_callV (q := 31) (ci := 8) (q0 := 0) (As := [.int (nI sd), .int (nI j)]) (wr := [(e6, .inl (G.2.2.1, 15, .inl (nF la))), (e7, .inl (G.2.2.1, 15, .inl (nF lb))), (ea, .inl (G.2.2.1, 512, .inl wh))]) (st := []) F (c_X8_goesOn G hW (s := sd) (k := j) (hsd) (by omega)) kwX8_goesOn tw_855 tw_32 tw_853 ⟨Nat.le_of_ble_eq_true rfl, Nat.le_of_ble_eq_true rfl, rfl, rfl, Nat.le_of_ble_eq_true rfl, Nat.le_of_ble_eq_true rfl⟩ [0, 1, 4] [2, 3, 5] rfl rfl rfl rfl rfl rfl rfl rfl rfl (Nat.le_of_ble_eq_true rfl) dX8_after_28 rfl ?_
    rintro r_ w_ ⟨rfl, rfl⟩
    refine j_w (w' := [(e0, .inr (8, [.ref e1, .int (nI ln), .int (nI aa), .int (nI bg), .int (nI tk), .int (nI td), .int (nI rl), .int (nI rs), .int (nI rd), .ref e2, .ref e3, .ref e4, .int (nI n), .int (nI m), .ref e5, .ref e6, .ref e7, .int (nI be), .int (nI sd), .int (nI tu), .int (nI fo), .ref e8, .ref e9, .int (nI kn), .int (nI tl), .int (nI rn), .ref ea, .long tr, .ref eb])), (e5, .inl (G.2.2.1, 9, .inl (nF ru))), (e6, .inl (G.2.2.1, 15, .inl (nF la))), (e7, .inl (G.2.2.1, 15, .inl (nF lb))), (e8, .inl (G.2.2.1, 9, .inl (nF ne2))), (ea, .inl (G.2.2.1, 512, .inl wh))]) [3, 4, 0, 1, 5, 2] rfl rfl ?_
    show Jw G X _ 0 0 31 _ [.int (nI (it (Fw n m ru la lb fo) j sd))] _
    exact j_iret (w2 := [(e0, .inr (8, [.ref e1, .int (nI ln), .int (nI aa), .int (nI bg), .int (nI tk), .int (nI td), .int (nI rl), .int (nI rs), .int (nI rd), .ref e2, .ref e3, .ref e4, .int (nI n), .int (nI m), .ref e5, .ref e6, .ref e7, .int (nI be), .int (nI sd), .int (nI tu), .int (nI fo), .ref e8, .ref e9, .int (nI kn), .int (nI tl), .int (nI rn), .ref ea, .long tr, .ref eb])), (e5, .inl (G.2.2.1, 9, .inl (nF ru))), (e6, .inl (G.2.2.1, 15, .inl (nF la))), (e7, .inl (G.2.2.1, 15, .inl (nF lb))), (e8, .inl (G.2.2.1, 9, .inl (nF ne2))), (ea, .inl (G.2.2.1, 512, .inl wh))]) F R0 rfl [0, 1, 2, 3, 4, 5] rfl rfl (⟨_, _, _, _, by rw [aAfter, if_pos hc, nI_clamp (by omega)], rfl⟩) dX8_after_31
  · skip
    refine j_w (w' := [(e0, .inr (8, [.ref e1, .int (nI ln), .int (nI aa), .int (nI bg), .int (nI tk), .int (nI td), .int (nI rl), .int (nI rs), .int (nI rd), .ref e2, .ref e3, .ref e4, .int (nI n), .int (nI m), .ref e5, .ref e6, .ref e7, .int (nI be), .int (nI sd), .int (nI tu), .int (nI fo), .ref e8, .ref e9, .int (nI kn), .int (nI tl), .int (nI rn), .ref ea, .long tr, .ref eb])), (e5, .inl (G.2.2.1, 9, .inl (nF ru))), (e6, .inl (G.2.2.1, 15, .inl (nF la))), (e7, .inl (G.2.2.1, 15, .inl (nF lb))), (e8, .inl (G.2.2.1, 9, .inl (nF ne))), (ea, .inl (G.2.2.1, 512, .inl wh))]) [0, 1, 2, 3, 4, 5] rfl rfl ?_
    show Jw G X _ 0 0 9 _ [.int (nI 0)] _
    refine j_if_ne (q := 12) (t := 14) F (ct (by decide)) dX8_after_9 rfl rfl (fun z => absurd trivial z) (fun _ => ?_)
    refine j_iconst (q := 13) (v := (-1)) F (by decide) dX8_after_12 rfl ?_
    exact j_iret (w2 := [(e0, .inr (8, [.ref e1, .int (nI ln), .int (nI aa), .int (nI bg), .int (nI tk), .int (nI td), .int (nI rl), .int (nI rs), .int (nI rd), .ref e2, .ref e3, .ref e4, .int (nI n), .int (nI m), .ref e5, .ref e6, .ref e7, .int (nI be), .int (nI sd), .int (nI tu), .int (nI fo), .ref e8, .ref e9, .int (nI kn), .int (nI tl), .int (nI rn), .ref ea, .long tr, .ref eb])), (e5, .inl (G.2.2.1, 9, .inl (nF ru))), (e6, .inl (G.2.2.1, 15, .inl (nF la))), (e7, .inl (G.2.2.1, 15, .inl (nF lb))), (e8, .inl (G.2.2.1, 9, .inl (nF ne))), (ea, .inl (G.2.2.1, 512, .inl wh))]) F R0 rfl [0, 1, 2, 3, 4, 5] rfl rfl (⟨_, _, _, _, by rw [aAfter, cb_0 hx, if_neg (by decide)], rfl⟩) dX8_after_13

set_option maxHeartbeats 4000000 in
set_option maxRecDepth 100000 in
theorem c_X8_round (G : Gm) {e0 e1 e2 e3 e4 e5 e6 e7 e8 e9 ea eb : Nat} {ln aa bg tk td rl rs rd n m be sd tu fo kn tl rn : Nat} {ru la lb ne pa : Nat → Nat} {wh : Nat → Int32} {tr : Int64} {x : Int32} (hT : Tok n m ru la lb) (hP : PrOk n m (be, sd, tu, fo, kn, pa)) : Mg G yX8_round cX8_round 2 (some .int) ({ frames := 3, cells := 0, slots := 0, locals := 72 } : Room) 0 0 [.ref e0, .int x] [(e0, .inr (8, [.ref e1, .int (nI ln), .int (nI aa), .int (nI bg), .int (nI tk), .int (nI td), .int (nI rl), .int (nI rs), .int (nI rd), .ref e2, .ref e3, .ref e4, .int (nI n), .int (nI m), .ref e5, .ref e6, .ref e7, .int (nI be), .int (nI sd), .int (nI tu), .int (nI fo), .ref e8, .ref e9, .int (nI kn), .int (nI tl), .int (nI rn), .ref ea, .long tr, .ref eb])), (e5, .inl (G.2.2.1, 9, .inl (nF ru))), (e6, .inl (G.2.2.1, 15, .inl (nF la))), (e7, .inl (G.2.2.1, 15, .inl (nF lb))), (e8, .inl (G.2.2.1, 9, .inl (nF ne))), (ea, .inl (G.2.2.1, 512, .inl wh))] (fun r w2 => ∃ ne2 wh2 tl2 rn2 r2, aRound (Fw n m ru la lb fo) sd x r2 ∧ r = some (.int r2) ∧ w2 = [(e0, .inr (8, [.ref e1, .int (nI ln), .int (nI aa), .int (nI bg), .int (nI tk), .int (nI td), .int (nI rl), .int (nI rs), .int (nI rd), .ref e2, .ref e3, .ref e4, .int (nI n), .int (nI m), .ref e5, .ref e6, .ref e7, .int (nI be), .int (nI sd), .int (nI tu), .int (nI fo), .ref e8, .ref e9, .int (nI kn), .int (nI tl2), .int (nI rn2), .ref ea, .long tr, .ref eb])), (e5, .inl (G.2.2.1, 9, .inl (nF ru))), (e6, .inl (G.2.2.1, 15, .inl (nF la))), (e7, .inl (G.2.2.1, 15, .inl (nF lb))), (e8, .inl (G.2.2.1, 9, .inl (nF ne2))), (ea, .inl (G.2.2.1, 512, .inl wh2))]) := by
  have hn := hT.1
  have hm := hT.2.1
  have h9 := p9 hn
  have h15 := p15 hm
  have hsd : sd < 512 := by have := hP.2.1; dsimp only at this; omega
  have hfo : fo < 32768 := by have := hP.2.2.2.1; dsimp only at this; omega
  refine Mg.mk (lv := [(0, .ref e0), (1, .int x)]) (by decide) rfl rfl (fun X F R0 => ?_)
  refine j_iload_n (q := 1) (i0 := 1) F rfl dX8_round_0 rfl ?_
  refine j_i2l (q := 2) (v := Int32.toInt64 x) F rfl dX8_round_1 rfl ?_
  refine j_lconst (q := 3) (v := 0) F (by decide) dX8_round_2 rfl ?_
  refine j_lconst (q := 4) (v := 1) F (by decide) dX8_round_3 rfl ?_
  refine j_callS (q := 7) (As := [.long (Int32.toInt64 x), .long 0, .long 1]) (wr := [(e0, .inr (8, [.ref e1, .int (nI ln), .int (nI aa), .int (nI bg), .int (nI tk), .int (nI td), .int (nI rl), .int (nI rs), .int (nI rd), .ref e2, .ref e3, .ref e4, .int (nI n), .int (nI m), .ref e5, .ref e6, .ref e7, .int (nI be), .int (nI sd), .int (nI tu), .int (nI fo), .ref e8, .ref e9, .int (nI kn), .int (nI tl), .int (nI rn), .ref ea, .long tr, .ref eb])), (e5, .inl (G.2.2.1, 9, .inl (nF ru))), (e6, .inl (G.2.2.1, 15, .inl (nF la))), (e7, .inl (G.2.2.1, 15, .inl (nF lb))), (e8, .inl (G.2.2.1, 9, .inl (nF ne))), (ea, .inl (G.2.2.1, 512, .inl wh))]) (st := []) F (c_inR G (x := x) (n := 2) rfl (by decide) (rfl)) kwX8_in tw_752 tw_751 ⟨Nat.le_of_ble_eq_true rfl, Nat.le_of_ble_eq_true rfl, rfl, rfl, Nat.le_of_ble_eq_true rfl, Nat.le_of_ble_eq_true rfl⟩ [] [0, 1, 2, 3, 4, 5] rfl rfl rfl rfl rfl rfl rfl (Nat.le_of_ble_eq_true rfl) dX8_round_4 rfl ?_
  rintro r_ w_ ⟨rfl, (⟨rfl, hx⟩ | ⟨rfl, hx⟩)⟩
  · skip
    refine j_w (w' := [(e0, .inr (8, [.ref e1, .int (nI ln), .int (nI aa), .int (nI bg), .int (nI tk), .int (nI td), .int (nI rl), .int (nI rs), .int (nI rd), .ref e2, .ref e3, .ref e4, .int (nI n), .int (nI m), .ref e5, .ref e6, .ref e7, .int (nI be), .int (nI sd), .int (nI tu), .int (nI fo), .ref e8, .ref e9, .int (nI kn), .int (nI tl), .int (nI rn), .ref ea, .long tr, .ref eb])), (e5, .inl (G.2.2.1, 9, .inl (nF ru))), (e6, .inl (G.2.2.1, 15, .inl (nF la))), (e7, .inl (G.2.2.1, 15, .inl (nF lb))), (e8, .inl (G.2.2.1, 9, .inl (nF ne))), (ea, .inl (G.2.2.1, 512, .inl wh))]) [0, 1, 2, 3, 4, 5] rfl rfl ?_
    show Jw G X _ 0 0 7 _ [.int (nI 1)] _
    refine j_if_ne (q := 10) (t := 12) F (cf (by decide)) dX8_round_7 rfl rfl (fun _ => ?_) (fun z => False.elim z)
    obtain ⟨j, hj, rfl⟩ := hx
    refine j_aload_n (q := 13) (i0 := 0) F rfl dX8_round_12 rfl ?_
    refine j_aload_n (q := 14) (i0 := 0) F rfl dX8_round_13 rfl ?_
    refine j_get (q := 17) (ci := 8) (q0 := 0) (kf := 20) (v := .int (nI fo)) F inX8 rfl rfl rfl tw_678 rfl rfl dX8_round_14 rfl ?_
    refine j_callV (q := 20) (ci := 8) (q0 := 0) (As := [.int (nI fo)]) (wr := [(e5, .inl (G.2.2.1, 9, .inl (nF ru))), (ea, .inl (G.2.2.1, 512, .inl wh))]) (st := []) F (c_X8_looks G (wo := fo) hT (hfo)) kwX8_looks tw_826 tw_30 tw_824 ⟨Nat.le_of_ble_eq_true rfl, Nat.le_of_ble_eq_true rfl, rfl, rfl, Nat.le_of_ble_eq_true rfl, Nat.le_of_ble_eq_true rfl⟩ [0, 2, 3, 4] [1, 5] rfl rfl rfl rfl rfl rfl rfl rfl rfl (Nat.le_of_ble_eq_true rfl) dX8_round_17 rfl ?_
    rintro r_ w_ ⟨ne2, hne2, rfl, rfl⟩
    refine j_w (w' := [(e0, .inr (8, [.ref e1, .int (nI ln), .int (nI aa), .int (nI bg), .int (nI tk), .int (nI td), .int (nI rl), .int (nI rs), .int (nI rd), .ref e2, .ref e3, .ref e4, .int (nI n), .int (nI m), .ref e5, .ref e6, .ref e7, .int (nI be), .int (nI sd), .int (nI tu), .int (nI fo), .ref e8, .ref e9, .int (nI kn), .int (nI tl), .int (nI rn), .ref ea, .long tr, .ref eb])), (e5, .inl (G.2.2.1, 9, .inl (nF ru))), (e6, .inl (G.2.2.1, 15, .inl (nF la))), (e7, .inl (G.2.2.1, 15, .inl (nF lb))), (e8, .inl (G.2.2.1, 9, .inl (nF ne2))), (ea, .inl (G.2.2.1, 512, .inl wh))]) [2, 0, 3, 4, 5, 1] rfl rfl ?_
    show Jw G X _ 0 0 20 _ [] _
    have hW := Wk.of hT hne2
    refine j_aload_n (q := 21) (i0 := 0) F rfl dX8_round_20 rfl ?_
    refine j_aload_n (q := 22) (i0 := 0) F rfl dX8_round_21 rfl ?_
    refine j_get (q := 25) (ci := 8) (q0 := 0) (kf := 18) (v := .int (nI sd)) F inX8 rfl rfl rfl tw_676 rfl rfl dX8_round_22 rfl ?_
    refine j_callV (q := 28) (ci := 8) (q0 := 0) (As := [.int (nI sd)]) (wr := [(e6, .inl (G.2.2.1, 15, .inl (nF la))), (e7, .inl (G.2.2.1, 15, .inl (nF lb)))]) (st := []) F (c_X8_rounds G hW (s := sd) (hsd)) kwX8_rounds tw_863 tw_33 tw_861 ⟨Nat.le_of_ble_eq_true rfl, Nat.le_of_ble_eq_true rfl, rfl, rfl, Nat.le_of_ble_eq_true rfl, Nat.le_of_ble_eq_true rfl⟩ [0, 1, 4, 5] [2, 3] rfl rfl rfl rfl rfl rfl rfl rfl rfl (Nat.le_of_ble_eq_true rfl) dX8_round_25 rfl ?_
    rintro r_ w_ ⟨wh3, tl3, rn3, hrnd, htl3, hrn3, htr3, rfl, rfl⟩
    refine j_w (w' := [(e0, .inr (8, [.ref e1, .int (nI ln), .int (nI aa), .int (nI bg), .int (nI tk), .int (nI td), .int (nI rl), .int (nI rs), .int (nI rd), .ref e2, .ref e3, .ref e4, .int (nI n), .int (nI m), .ref e5, .ref e6, .ref e7, .int (nI be), .int (nI sd), .int (nI tu), .int (nI fo), .ref e8, .ref e9, .int (nI kn), .int (nI tl3), .int (nI rn3), .ref ea, .long tr, .ref eb])), (e5, .inl (G.2.2.1, 9, .inl (nF ru))), (e6, .inl (G.2.2.1, 15, .inl (nF la))), (e7, .inl (G.2.2.1, 15, .inl (nF lb))), (e8, .inl (G.2.2.1, 9, .inl (nF ne2))), (ea, .inl (G.2.2.1, 512, .inl wh3))]) [2, 3, 0, 1, 4, 5] rfl rfl ?_
    show Jw G X _ 0 0 28 _ [] _
    refine j_iload_n (q := 29) (i0 := 1) F rfl dX8_round_28 rfl ?_
    refine j_if_ne (q := 32) (t := 39) F (Pp := nI j = nI 0) (Iff.rfl) dX8_round_29 rfl rfl (fun cj => ?_) (fun cj => ?_)
    · skip
      refine j_aload_n (q := 40) (i0 := 0) F rfl dX8_round_39 rfl ?_
      refine j_get (q := 43) (ci := 8) (q0 := 0) (kf := 25) (v := .int (nI rn3)) F inX8 rfl rfl rfl tw_683 rfl rfl dX8_round_40 rfl ?_
      exact j_iret (w2 := [(e0, .inr (8, [.ref e1, .int (nI ln), .int (nI aa), .int (nI bg), .int (nI tk), .int (nI td), .int (nI rl), .int (nI rs), .int (nI rd), .ref e2, .ref e3, .ref e4, .int (nI n), .int (nI m), .ref e5, .ref e6, .ref e7, .int (nI be), .int (nI sd), .int (nI tu), .int (nI fo), .ref e8, .ref e9, .int (nI kn), .int (nI tl3), .int (nI rn3), .ref ea, .long tr, .ref eb])), (e5, .inl (G.2.2.1, 9, .inl (nF ru))), (e6, .inl (G.2.2.1, 15, .inl (nF la))), (e7, .inl (G.2.2.1, 15, .inl (nF lb))), (e8, .inl (G.2.2.1, 9, .inl (nF ne2))), (ea, .inl (G.2.2.1, 512, .inl wh3))]) F R0 rfl [0, 1, 2, 3, 4, 5] rfl rfl (⟨_, _, _, _, _, Or.inr ⟨⟨j, hj, rfl⟩, tl3, rn3, hrnd, by rw [if_neg cj]⟩, rfl, rfl⟩) dX8_round_43
    · skip
      refine j_aload_n (q := 33) (i0 := 0) F rfl dX8_round_32 rfl ?_
      refine j_get (q := 36) (ci := 8) (q0 := 0) (kf := 24) (v := .int (nI tl3)) F inX8 rfl rfl rfl tw_682 rfl rfl dX8_round_33 rfl ?_
      refine j_goto (t := 43) F dX8_round_36 rfl ?_
      exact j_iret (w2 := [(e0, .inr (8, [.ref e1, .int (nI ln), .int (nI aa), .int (nI bg), .int (nI tk), .int (nI td), .int (nI rl), .int (nI rs), .int (nI rd), .ref e2, .ref e3, .ref e4, .int (nI n), .int (nI m), .ref e5, .ref e6, .ref e7, .int (nI be), .int (nI sd), .int (nI tu), .int (nI fo), .ref e8, .ref e9, .int (nI kn), .int (nI tl3), .int (nI rn3), .ref ea, .long tr, .ref eb])), (e5, .inl (G.2.2.1, 9, .inl (nF ru))), (e6, .inl (G.2.2.1, 15, .inl (nF la))), (e7, .inl (G.2.2.1, 15, .inl (nF lb))), (e8, .inl (G.2.2.1, 9, .inl (nF ne2))), (ea, .inl (G.2.2.1, 512, .inl wh3))]) F R0 rfl [0, 1, 2, 3, 4, 5] rfl rfl (⟨_, _, _, _, _, Or.inr ⟨⟨j, hj, rfl⟩, tl3, rn3, hrnd, by rw [if_pos cj]⟩, rfl, rfl⟩) dX8_round_43
  · skip
    refine j_w (w' := [(e0, .inr (8, [.ref e1, .int (nI ln), .int (nI aa), .int (nI bg), .int (nI tk), .int (nI td), .int (nI rl), .int (nI rs), .int (nI rd), .ref e2, .ref e3, .ref e4, .int (nI n), .int (nI m), .ref e5, .ref e6, .ref e7, .int (nI be), .int (nI sd), .int (nI tu), .int (nI fo), .ref e8, .ref e9, .int (nI kn), .int (nI tl), .int (nI rn), .ref ea, .long tr, .ref eb])), (e5, .inl (G.2.2.1, 9, .inl (nF ru))), (e6, .inl (G.2.2.1, 15, .inl (nF la))), (e7, .inl (G.2.2.1, 15, .inl (nF lb))), (e8, .inl (G.2.2.1, 9, .inl (nF ne))), (ea, .inl (G.2.2.1, 512, .inl wh))]) [0, 1, 2, 3, 4, 5] rfl rfl ?_
    show Jw G X _ 0 0 7 _ [.int (nI 0)] _
    refine j_if_ne (q := 10) (t := 12) F (ct (by decide)) dX8_round_7 rfl rfl (fun z => absurd trivial z) (fun _ => ?_)
    refine j_iconst (q := 11) (v := (-1)) F (by decide) dX8_round_10 rfl ?_
    exact j_iret (w2 := [(e0, .inr (8, [.ref e1, .int (nI ln), .int (nI aa), .int (nI bg), .int (nI tk), .int (nI td), .int (nI rl), .int (nI rs), .int (nI rd), .ref e2, .ref e3, .ref e4, .int (nI n), .int (nI m), .ref e5, .ref e6, .ref e7, .int (nI be), .int (nI sd), .int (nI tu), .int (nI fo), .ref e8, .ref e9, .int (nI kn), .int (nI tl), .int (nI rn), .ref ea, .long tr, .ref eb])), (e5, .inl (G.2.2.1, 9, .inl (nF ru))), (e6, .inl (G.2.2.1, 15, .inl (nF la))), (e7, .inl (G.2.2.1, 15, .inl (nF lb))), (e8, .inl (G.2.2.1, 9, .inl (nF ne))), (ea, .inl (G.2.2.1, 512, .inl wh))]) F R0 rfl [0, 1, 2, 3, 4, 5] rfl rfl (⟨_, _, _, _, _, Or.inl ⟨hx, rfl⟩, rfl, rfl⟩) dX8_round_11

set_option maxHeartbeats 4000000 in
set_option maxRecDepth 100000 in
theorem c_X8_again (G : Gm) {e0 e1 e2 e3 e4 e5 e6 e7 e8 e9 ea eb : Nat} {ln aa bg tk td rl rs rd n m be sd tu fo kn tl rn : Nat} {ru la lb ne pa : Nat → Nat} {wh : Nat → Int32} {tr : Int64} (hT : Tok n m ru la lb) (hP : PrOk n m (be, sd, tu, fo, kn, pa)) : Mg G yX8_again cX8_again 1 (some .int) ({ frames := 3, cells := 0, slots := 0, locals := 72 } : Room) 0 0 [.ref e0] [(e0, .inr (8, [.ref e1, .int (nI ln), .int (nI aa), .int (nI bg), .int (nI tk), .int (nI td), .int (nI rl), .int (nI rs), .int (nI rd), .ref e2, .ref e3, .ref e4, .int (nI n), .int (nI m), .ref e5, .ref e6, .ref e7, .int (nI be), .int (nI sd), .int (nI tu), .int (nI fo), .ref e8, .ref e9, .int (nI kn), .int (nI tl), .int (nI rn), .ref ea, .long tr, .ref eb])), (e5, .inl (G.2.2.1, 9, .inl (nF ru))), (e6, .inl (G.2.2.1, 15, .inl (nF la))), (e7, .inl (G.2.2.1, 15, .inl (nF lb))), (e8, .inl (G.2.2.1, 9, .inl (nF ne))), (ea, .inl (G.2.2.1, 512, .inl wh))] (fun r w2 => ∃ ne2 wh2 tl2 rn2 r2, aAgain (Fw n m ru la lb fo) sd r2 ∧ r = some (.int r2) ∧ w2 = [(e0, .inr (8, [.ref e1, .int (nI ln), .int (nI aa), .int (nI bg), .int (nI tk), .int (nI td), .int (nI rl), .int (nI rs), .int (nI rd), .ref e2, .ref e3, .ref e4, .int (nI n), .int (nI m), .ref e5, .ref e6, .ref e7, .int (nI be), .int (nI sd), .int (nI tu), .int (nI fo), .ref e8, .ref e9, .int (nI kn), .int (nI tl2), .int (nI rn2), .ref ea, .long tr, .ref eb])), (e5, .inl (G.2.2.1, 9, .inl (nF ru))), (e6, .inl (G.2.2.1, 15, .inl (nF la))), (e7, .inl (G.2.2.1, 15, .inl (nF lb))), (e8, .inl (G.2.2.1, 9, .inl (nF ne2))), (ea, .inl (G.2.2.1, 512, .inl wh2))]) := by
  have hn := hT.1
  have hm := hT.2.1
  have h9 := p9 hn
  have h15 := p15 hm
  have hsd : sd < 512 := by have := hP.2.1; dsimp only at this; omega
  have hfo : fo < 32768 := by have := hP.2.2.2.1; dsimp only at this; omega
  refine Mg.mk (lv := [(0, .ref e0)]) (by decide) rfl rfl (fun X F R0 => ?_)
  refine j_aload_n (q := 1) (i0 := 0) F rfl dX8_again_0 rfl ?_
  refine j_aload_n (q := 2) (i0 := 0) F rfl dX8_again_1 rfl ?_
  refine j_get (q := 5) (ci := 8) (q0 := 0) (kf := 20) (v := .int (nI fo)) F inX8 rfl rfl rfl tw_678 rfl rfl dX8_again_2 rfl ?_
  refine j_callV (q := 8) (ci := 8) (q0 := 0) (As := [.int (nI fo)]) (wr := [(e5, .inl (G.2.2.1, 9, .inl (nF ru))), (ea, .inl (G.2.2.1, 512, .inl wh))]) (st := []) F (c_X8_looks G (wo := fo) hT (hfo)) kwX8_looks tw_826 tw_30 tw_824 ⟨Nat.le_of_ble_eq_true rfl, Nat.le_of_ble_eq_true rfl, rfl, rfl, Nat.le_of_ble_eq_true rfl, Nat.le_of_ble_eq_true rfl⟩ [0, 2, 3, 4] [1, 5] rfl rfl rfl rfl rfl rfl rfl rfl rfl (Nat.le_of_ble_eq_true rfl) dX8_again_5 rfl ?_
  rintro r_ w_ ⟨ne2, hne2, rfl, rfl⟩
  refine j_w (w' := [(e0, .inr (8, [.ref e1, .int (nI ln), .int (nI aa), .int (nI bg), .int (nI tk), .int (nI td), .int (nI rl), .int (nI rs), .int (nI rd), .ref e2, .ref e3, .ref e4, .int (nI n), .int (nI m), .ref e5, .ref e6, .ref e7, .int (nI be), .int (nI sd), .int (nI tu), .int (nI fo), .ref e8, .ref e9, .int (nI kn), .int (nI tl), .int (nI rn), .ref ea, .long tr, .ref eb])), (e5, .inl (G.2.2.1, 9, .inl (nF ru))), (e6, .inl (G.2.2.1, 15, .inl (nF la))), (e7, .inl (G.2.2.1, 15, .inl (nF lb))), (e8, .inl (G.2.2.1, 9, .inl (nF ne2))), (ea, .inl (G.2.2.1, 512, .inl wh))]) [2, 0, 3, 4, 5, 1] rfl rfl ?_
  show Jw G X _ 0 0 8 _ [] _
  have hW := Wk.of hT hne2
  refine j_aload_n (q := 9) (i0 := 0) F rfl dX8_again_8 rfl ?_
  refine j_aload_n (q := 10) (i0 := 0) F rfl dX8_again_9 rfl ?_
  refine j_get (q := 13) (ci := 8) (q0 := 0) (kf := 18) (v := .int (nI sd)) F inX8 rfl rfl rfl tw_676 rfl rfl dX8_again_10 rfl ?_
  refine j_callV (q := 16) (ci := 8) (q0 := 0) (As := [.int (nI sd)]) (wr := [(e6, .inl (G.2.2.1, 15, .inl (nF la))), (e7, .inl (G.2.2.1, 15, .inl (nF lb)))]) (st := []) F (c_X8_rounds G hW (s := sd) (hsd)) kwX8_rounds tw_863 tw_33 tw_861 ⟨Nat.le_of_ble_eq_true rfl, Nat.le_of_ble_eq_true rfl, rfl, rfl, Nat.le_of_ble_eq_true rfl, Nat.le_of_ble_eq_true rfl⟩ [0, 1, 4, 5] [2, 3] rfl rfl rfl rfl rfl rfl rfl rfl rfl (Nat.le_of_ble_eq_true rfl) dX8_again_13 rfl ?_
  rintro r_ w_ ⟨wh3, tl3, rn3, hrnd, htl3, hrn3, htr3, rfl, rfl⟩
  refine j_w (w' := [(e0, .inr (8, [.ref e1, .int (nI ln), .int (nI aa), .int (nI bg), .int (nI tk), .int (nI td), .int (nI rl), .int (nI rs), .int (nI rd), .ref e2, .ref e3, .ref e4, .int (nI n), .int (nI m), .ref e5, .ref e6, .ref e7, .int (nI be), .int (nI sd), .int (nI tu), .int (nI fo), .ref e8, .ref e9, .int (nI kn), .int (nI tl3), .int (nI rn3), .ref ea, .long tr, .ref eb])), (e5, .inl (G.2.2.1, 9, .inl (nF ru))), (e6, .inl (G.2.2.1, 15, .inl (nF la))), (e7, .inl (G.2.2.1, 15, .inl (nF lb))), (e8, .inl (G.2.2.1, 9, .inl (nF ne2))), (ea, .inl (G.2.2.1, 512, .inl wh3))]) [2, 3, 0, 1, 4, 5] rfl rfl ?_
  show Jw G X _ 0 0 16 _ [] _
  refine j_aload_n (q := 17) (i0 := 0) F rfl dX8_again_16 rfl ?_
  refine j_get (q := 20) (ci := 8) (q0 := 0) (kf := 24) (v := .int (nI tl3)) F inX8 rfl rfl rfl tw_682 rfl rfl dX8_again_17 rfl ?_
  refine j_if_ne (q := 23) (t := 30) F (Pp := tl3 = 0) (nI_eq0 (by omega)) dX8_again_20 rfl rfl (fun cj => ?_) (fun cj => ?_)
  · skip
    refine j_bipush (q := 32) (v := (-9)) F (by decide) dX8_again_30 rfl ?_
    exact j_iret (w2 := [(e0, .inr (8, [.ref e1, .int (nI ln), .int (nI aa), .int (nI bg), .int (nI tk), .int (nI td), .int (nI rl), .int (nI rs), .int (nI rd), .ref e2, .ref e3, .ref e4, .int (nI n), .int (nI m), .ref e5, .ref e6, .ref e7, .int (nI be), .int (nI sd), .int (nI tu), .int (nI fo), .ref e8, .ref e9, .int (nI kn), .int (nI tl3), .int (nI rn3), .ref ea, .long tr, .ref eb])), (e5, .inl (G.2.2.1, 9, .inl (nF ru))), (e6, .inl (G.2.2.1, 15, .inl (nF la))), (e7, .inl (G.2.2.1, 15, .inl (nF lb))), (e8, .inl (G.2.2.1, 9, .inl (nF ne2))), (ea, .inl (G.2.2.1, 512, .inl wh3))]) F R0 rfl [0, 1, 2, 3, 4, 5] rfl rfl (⟨_, _, _, _, _, ⟨tl3, rn3, hrnd, by rw [if_neg cj]⟩, rfl, rfl⟩) dX8_again_32
  · skip
    refine j_aload_n (q := 24) (i0 := 0) F rfl dX8_again_23 rfl ?_
    refine j_get (q := 27) (ci := 8) (q0 := 0) (kf := 25) (v := .int (nI rn3)) F inX8 rfl rfl rfl tw_683 rfl rfl dX8_again_24 rfl ?_
    refine j_goto (t := 32) F dX8_again_27 rfl ?_
    exact j_iret (w2 := [(e0, .inr (8, [.ref e1, .int (nI ln), .int (nI aa), .int (nI bg), .int (nI tk), .int (nI td), .int (nI rl), .int (nI rs), .int (nI rd), .ref e2, .ref e3, .ref e4, .int (nI n), .int (nI m), .ref e5, .ref e6, .ref e7, .int (nI be), .int (nI sd), .int (nI tu), .int (nI fo), .ref e8, .ref e9, .int (nI kn), .int (nI tl3), .int (nI rn3), .ref ea, .long tr, .ref eb])), (e5, .inl (G.2.2.1, 9, .inl (nF ru))), (e6, .inl (G.2.2.1, 15, .inl (nF la))), (e7, .inl (G.2.2.1, 15, .inl (nF lb))), (e8, .inl (G.2.2.1, 9, .inl (nF ne2))), (ea, .inl (G.2.2.1, 512, .inl wh3))]) F R0 rfl [0, 1, 2, 3, 4, 5] rfl rfl (⟨_, _, _, _, _, ⟨tl3, rn3, hrnd, by rw [if_pos cj]⟩, rfl, rfl⟩) dX8_again_32

