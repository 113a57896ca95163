set_option maxHeartbeats 4000000 in
set_option maxRecDepth 100000 in
theorem c_X4_readNumber (G : Gm) {r0 u0 x0 x1 ln pl so p lim : Nat} {va mo : Int32} {bt : Nat → Nat} (hl : ln ≤ 200) (hbt : ∀ i, i < ln → bt i < 256) (hp : p ≤ ln) (hmo : ∀ v, v ≤ 99 → (mo < nI v ↔ ¬ v < lim)) : Mg G yX4_readNumber cX4_readNumber 2 (some .boolean) ({ frames := 3, cells := 0, slots := 0, locals := 64 } : Room) 0 0 [.ref r0, .int mo] [(r0, .inr (4, [.ref u0, .int (nI pl), .ref x0, .int (nI p), .int (nI so), .int va])), (x0, .inr (5, [.ref x1, .int (nI ln)])), (x1, .inl (G.2.2.1, 200, .inl (nF bt)))] (fun r w2 => ∃ so2 va2 re2, re2 ≤ ln ∧ w2 = [(r0, .inr (4, [.ref u0, .int (nI (sk bt ln p)), .ref x0, .int (nI re2), .int (nI so2), .int va2])), (x0, .inr (5, [.ref x1, .int (nI ln)])), (x1, .inl (G.2.2.1, 200, .inl (nF bt)))] ∧ ((r = some (.int (nI 1)) ∧ tK bt ln p = 3 ∧ tV bt ln p < lim ∧ va2 = nI (tV bt ln p) ∧ re2 = tE bt ln p) ∨ (r = some (.int (nI 0)) ∧ ¬ (tK bt ln p = 3 ∧ tV bt ln p < lim)))) := by
  refine Mg.mk (lv := [(0, .ref r0), (1, .int mo)]) (by decide) rfl rfl (fun X F R0 => ?_)
  refine j_aload_n (q := 1) (i0 := 0) F rfl dX4_readNumber_0 rfl ?_
  refine j_callV (q := 4) (ci := 4) (q0 := 0) (As := []) (wr := []) (st := []) F (c_X4_nextToken G hl hbt (p := p) (hp)) kwX4_nextToken tw_323 tw_0 tw_321 ⟨Nat.le_of_ble_eq_true rfl, Nat.le_of_ble_eq_true rfl, rfl, rfl, Nat.le_of_ble_eq_true rfl, Nat.le_of_ble_eq_true rfl⟩ [0, 1, 2] [] rfl rfl rfl rfl rfl rfl rfl rfl rfl (Nat.le_of_ble_eq_true rfl) dX4_readNumber_1 rfl ?_
  rintro r_ w_ ⟨so2, va2, re2, hct, hre, rfl, rfl⟩
  refine j_w (w' := [(r0, .inr (4, [.ref u0, .int (nI (sk bt ln p)), .ref x0, .int (nI re2), .int (nI so2), .int va2])), (x0, .inr (5, [.ref x1, .int (nI ln)])), (x1, .inl (G.2.2.1, 200, .inl (nF bt)))]) [0, 1, 2] rfl rfl ?_
  show Jw G X _ 0 0 4 _ [] _
  have hso := hct.so_le
  refine j_aload_n (q := 5) (i0 := 0) F rfl dX4_readNumber_4 rfl ?_
  refine j_get (q := 8) (ci := 4) (q0 := 0) (kf := 4) (v := .int (nI so2)) F inX4 rfl rfl rfl tw_134 rfl rfl dX4_readNumber_5 rfl ?_
  refine j_iconst (q := 9) (v := nI 2) F (by decide) dX4_readNumber_8 rfl ?_
  refine j_icmp_ne (q := 12) (t := 24) F (Pp := so2 = 2) (nI_eq (by omega) (by omega)) dX4_readNumber_9 rfl rfl (fun c2 => ?_) (fun c2 => ?_)
  · skip
    refine j_iconst (q := 25) (v := nI 0) F (by decide) dX4_readNumber_24 rfl ?_
    exact j_zret (w2 := [(r0, .inr (4, [.ref u0, .int (nI (sk bt ln p)), .ref x0, .int (nI re2), .int (nI so2), .int va2])), (x0, .inr (5, [.ref x1, .int (nI ln)])), (x1, .inl (G.2.2.1, 200, .inl (nF bt)))]) F R0 rfl rfl [0, 1, 2] rfl rfl (⟨_, _, _, hre, rfl, Or.inr ⟨rfl, fun z => ctNn hct c2 z.1⟩⟩) dX4_readNumber_25
  · skip
    obtain ⟨hk3, hva, hret⟩ := ctN hct c2
    have hv99 := tV_le hk3
    refine j_aload_n (q := 13) (i0 := 0) F rfl dX4_readNumber_12 rfl ?_
    refine j_get (q := 16) (ci := 4) (q0 := 0) (kf := 5) (v := .int va2) F inX4 rfl rfl rfl tw_135 rfl rfl dX4_readNumber_13 rfl ?_
    refine j_iload_n (q := 17) (i0 := 1) F rfl dX4_readNumber_16 rfl ?_
    refine j_icmp_gt (q := 20) (t := 24) F (Pp := ¬ tV bt ln p < lim) (by rw [hva]; exact hmo _ hv99) dX4_readNumber_17 rfl rfl (fun c3 => ?_) (fun c3 => ?_)
    · skip
      refine j_iconst (q := 25) (v := nI 0) F (by decide) dX4_readNumber_24 rfl ?_
      exact j_zret (w2 := [(r0, .inr (4, [.ref u0, .int (nI (sk bt ln p)), .ref x0, .int (nI re2), .int (nI so2), .int va2])), (x0, .inr (5, [.ref x1, .int (nI ln)])), (x1, .inl (G.2.2.1, 200, .inl (nF bt)))]) F R0 rfl rfl [0, 1, 2] rfl rfl (⟨_, _, _, hre, rfl, Or.inr ⟨rfl, fun z => c3 z.2⟩⟩) dX4_readNumber_25
    · skip
      refine j_iconst (q := 21) (v := nI 1) F (by decide) dX4_readNumber_20 rfl ?_
      refine j_goto (t := 25) F dX4_readNumber_21 rfl ?_
      exact j_zret (w2 := [(r0, .inr (4, [.ref u0, .int (nI (sk bt ln p)), .ref x0, .int (nI re2), .int (nI so2), .int va2])), (x0, .inr (5, [.ref x1, .int (nI ln)])), (x1, .inl (G.2.2.1, 200, .inl (nF bt)))]) F R0 rfl rfl [0, 1, 2] rfl rfl (⟨_, _, _, hre, rfl, Or.inl ⟨rfl, hk3, Classical.not_not.mp c3, hva, hret⟩⟩) dX4_readNumber_25

set_option maxHeartbeats 4000000 in
set_option maxRecDepth 100000 in
theorem c_X4_readSemicolon (G : Gm) {r0 u0 x0 x1 ln pl so p : Nat} {va : Int32} {bt : Nat → Nat} (hl : ln ≤ 200) (hbt : ∀ i, i < ln → bt i < 256) (hp : p ≤ ln) : Mg G yX4_readSemicolon cX4_readSemicolon 1 (some .boolean) ({ frames := 3, cells := 0, slots := 0, locals := 64 } : Room) 0 0 [.ref r0] [(r0, .inr (4, [.ref u0, .int (nI pl), .ref x0, .int (nI p), .int (nI so), .int va])), (x0, .inr (5, [.ref x1, .int (nI ln)])), (x1, .inl (G.2.2.1, 200, .inl (nF bt)))] (fun r w2 => ∃ so2 va2 re2, re2 ≤ ln ∧ w2 = [(r0, .inr (4, [.ref u0, .int (nI (sk bt ln p)), .ref x0, .int (nI re2), .int (nI so2), .int va2])), (x0, .inr (5, [.ref x1, .int (nI ln)])), (x1, .inl (G.2.2.1, 200, .inl (nF bt)))] ∧ ((r = some (.int (nI 1)) ∧ tK bt ln p = 4 ∧ re2 = tE bt ln p) ∨ (r = some (.int (nI 0)) ∧ ¬ tK bt ln p = 4))) := by
  refine Mg.mk (lv := [(0, .ref r0)]) (by decide) rfl rfl (fun X F R0 => ?_)
  refine j_aload_n (q := 1) (i0 := 0) F rfl dX4_readSemicolon_0 rfl ?_
  refine j_callV (q := 4) (ci := 4) (q0 := 0) (As := []) (wr := []) (st := []) F (c_X4_nextToken G hl hbt (p := p) (hp)) kwX4_nextToken tw_323 tw_0 tw_321 ⟨Nat.le_of_ble_eq_true rfl, Nat.le_of_ble_eq_true rfl, rfl, rfl, Nat.le_of_ble_eq_true rfl, Nat.le_of_ble_eq_true rfl⟩ [0, 1, 2] [] rfl rfl rfl rfl rfl rfl rfl rfl rfl (Nat.le_of_ble_eq_true rfl) dX4_readSemicolon_1 rfl ?_
  rintro r_ w_ ⟨so2, va2, re2, hct, hre, rfl, rfl⟩
  refine j_w (w' := [(r0, .inr (4, [.ref u0, .int (nI (sk bt ln p)), .ref x0, .int (nI re2), .int (nI so2), .int va2])), (x0, .inr (5, [.ref x1, .int (nI ln)])), (x1, .inl (G.2.2.1, 200, .inl (nF bt)))]) [0, 1, 2] rfl rfl ?_
  show Jw G X _ 0 0 4 _ [] _
  have hso := hct.so_le
  refine j_aload_n (q := 5) (i0 := 0) F rfl dX4_readSemicolon_4 rfl ?_
  refine j_get (q := 8) (ci := 4) (q0 := 0) (kf := 4) (v := .int (nI so2)) F inX4 rfl rfl rfl tw_134 rfl rfl dX4_readSemicolon_5 rfl ?_
  refine j_iconst (q := 9) (v := nI 3) F (by decide) dX4_readSemicolon_8 rfl ?_
  refine j_icmp_ne (q := 12) (t := 16) F (Pp := so2 = 3) (nI_eq (by omega) (by omega)) dX4_readSemicolon_9 rfl rfl (fun c2 => ?_) (fun c2 => ?_)
  · skip
    refine j_iconst (q := 17) (v := nI 0) F (by decide) dX4_readSemicolon_16 rfl ?_
    exact j_zret (w2 := [(r0, .inr (4, [.ref u0, .int (nI (sk bt ln p)), .ref x0, .int (nI re2), .int (nI so2), .int va2])), (x0, .inr (5, [.ref x1, .int (nI ln)])), (x1, .inl (G.2.2.1, 200, .inl (nF bt)))]) F R0 rfl rfl [0, 1, 2] rfl rfl (⟨_, _, _, hre, rfl, Or.inr ⟨rfl, ctSn hct c2⟩⟩) dX4_readSemicolon_17
  · skip
    refine j_iconst (q := 13) (v := nI 1) F (by decide) dX4_readSemicolon_12 rfl ?_
    refine j_goto (t := 17) F dX4_readSemicolon_13 rfl ?_
    exact j_zret (w2 := [(r0, .inr (4, [.ref u0, .int (nI (sk bt ln p)), .ref x0, .int (nI re2), .int (nI so2), .int va2])), (x0, .inr (5, [.ref x1, .int (nI ln)])), (x1, .inl (G.2.2.1, 200, .inl (nF bt)))]) F R0 rfl rfl [0, 1, 2] rfl rfl (⟨_, _, _, hre, rfl, Or.inl ⟨rfl, ctS hct c2⟩⟩) dX4_readSemicolon_17

set_option maxHeartbeats 4000000 in
set_option maxRecDepth 100000 in
theorem c_X4_readLamp (G : Gm) {r0 u0 u1 u2 u3 u4 x0 x1 ln pl so p n m t : Nat} {va : Int32} {bt ru la lb ro : Nat → Nat} (hl : ln ≤ 200) (hbt : ∀ i, i < ln → bt i < 256) (hp : p ≤ ln) (hn : n < 9) : Mg G yX4_readLamp cX4_readLamp 3 (some .boolean) ({ frames := 4, cells := 0, slots := 0, locals := 85 } : Room) 0 0 [.ref r0] [(r0, .inr (4, [.ref u0, .int (nI pl), .ref x0, .int (nI p), .int (nI so), .int va])), (x0, .inr (5, [.ref x1, .int (nI ln)])), (x1, .inl (G.2.2.1, 200, .inl (nF bt))), (u0, .inr (6, [.int (nI n), .int (nI m), .int (nI t), .ref u1, .ref u2, .ref u3, .ref u4])), (u1, .inl (G.2.2.1, 9, .inl (nF ru))), (u2, .inl (G.2.2.1, 15, .inl (nF la))), (u3, .inl (G.2.2.1, 15, .inl (nF lb))), (u4, .inl (G.2.2.1, 9, .inl (nF ro)))] (fun r w2 => ∃ pl2 re2 so2 va2, (r = some (.int (nI 0)) ∧ lmpF bt ln p = .inl pl2 ∧ w2 = [(r0, .inr (4, [.ref u0, .int (nI pl2), .ref x0, .int (nI re2), .int (nI so2), .int va2])), (x0, .inr (5, [.ref x1, .int (nI ln)])), (x1, .inl (G.2.2.1, 200, .inl (nF bt))), (u0, .inr (6, [.int (nI n), .int (nI m), .int (nI t), .ref u1, .ref u2, .ref u3, .ref u4])), (u1, .inl (G.2.2.1, 9, .inl (nF ru))), (u2, .inl (G.2.2.1, 15, .inl (nF la))), (u3, .inl (G.2.2.1, 15, .inl (nF lb))), (u4, .inl (G.2.2.1, 9, .inl (nF ro)))]) ∨ (∃ a b, r = some (.int (nI 1)) ∧ lmpF bt ln p = .inr (a, b, re2) ∧ w2 = [(r0, .inr (4, [.ref u0, .int (nI pl2), .ref x0, .int (nI re2), .int (nI so2), .int va2])), (x0, .inr (5, [.ref x1, .int (nI ln)])), (x1, .inl (G.2.2.1, 200, .inl (nF bt))), (u0, .inr (6, [.int (nI (n + 1)), .int (nI m), .int (nI (t ||| b * 2 ^ n)), .ref u1, .ref u2, .ref u3, .ref u4])), (u1, .inl (G.2.2.1, 9, .inl (nF (va_up ru n a)))), (u2, .inl (G.2.2.1, 15, .inl (nF la))), (u3, .inl (G.2.2.1, 15, .inl (nF lb))), (u4, .inl (G.2.2.1, 9, .inl (nF ro)))])) := by
  refine Mg.mk (lv := [(0, .ref r0)]) (by decide) rfl rfl (fun X F R0 => ?_)
  refine j_aload_n (q := 1) (i0 := 0) F rfl dX4_readLamp_0 rfl ?_
  refine j_iconst (q := 2) (v := nI 3) F (by decide) dX4_readLamp_1 rfl ?_
  refine j_callV (q := 5) (ci := 4) (q0 := 0) (As := [.int (nI 3)]) (wr := [(u0, .inr (6, [.int (nI n), .int (nI m), .int (nI t), .ref u1, .ref u2, .ref u3, .ref u4])), (u1, .inl (G.2.2.1, 9, .inl (nF ru))), (u2, .inl (G.2.2.1, 15, .inl (nF la))), (u3, .inl (G.2.2.1, 15, .inl (nF lb))), (u4, .inl (G.2.2.1, 9, .inl (nF ro)))]) (st := []) F (c_X4_readNumber G (mo := nI 3) (lim := 4) hl hbt (p := p) (hp) (mo_c rfl (by decide))) kwX4_readNumber tw_356 tw_5 tw_354 ⟨Nat.le_of_ble_eq_true rfl, Nat.le_of_ble_eq_true rfl, rfl, rfl, Nat.le_of_ble_eq_true rfl, Nat.le_of_ble_eq_true rfl⟩ [0, 1, 2] [3, 4, 5, 6, 7] rfl rfl rfl rfl rfl rfl rfl rfl rfl (Nat.le_of_ble_eq_true rfl) dX4_readLamp_2 rfl ?_
  rintro r_ w_ ⟨soA, vaA, reA, hreA, rfl, (⟨rfl, hkA, hvA, rfl, rfl⟩ | ⟨rfl, hnoA⟩)⟩
  · skip
    refine j_w (w' := [(r0, .inr (4, [.ref u0, .int (nI (sk bt ln p)), .ref x0, .int (nI (tE bt ln p)), .int (nI soA), .int (nI (tV bt ln p))])), (x0, .inr (5, [.ref x1, .int (nI ln)])), (x1, .inl (G.2.2.1, 200, .inl (nF bt))), (u0, .inr (6, [.int (nI n), .int (nI m), .int (nI t), .ref u1, .ref u2, .ref u3, .ref u4])), (u1, .inl (G.2.2.1, 9, .inl (nF ru))), (u2, .inl (G.2.2.1, 15, .inl (nF la))), (u3, .inl (G.2.2.1, 15, .inl (nF lb))), (u4, .inl (G.2.2.1, 9, .inl (nF ro)))]) [5, 6, 7, 0, 1, 2, 3, 4] rfl rfl ?_
    show Jw G X _ 0 0 5 _ [.int (nI 1)] _
    have hinA := tE_in (bt := bt) (ln := ln) (p := p) (hp) (by omega)
    refine j_if_ne (q := 8) (t := 10) F (cf (by decide)) dX4_readLamp_5 rfl rfl (fun _ => ?_) (fun z => False.elim z)
    refine j_aload_n (q := 11) (i0 := 0) F rfl dX4_readLamp_10 rfl ?_
    refine j_get (q := 14) (ci := 4) (q0 := 0) (kf := 5) (v := .int (nI (tV bt ln p))) F inX4 rfl rfl rfl tw_135 rfl rfl dX4_readLamp_11 rfl ?_
    refine j_istore_n (q := 15) (lv' := [(1, .int (nI (tV bt ln p))), (0, .ref r0)]) F dX4_readLamp_14 (by decide) rfl rfl ?_
    refine j_aload_n (q := 16) (i0 := 1) F rfl dX4_readLamp_15 rfl ?_
    refine j_iconst (q := 17) (v := nI 1) F (by decide) dX4_readLamp_16 rfl ?_
    refine j_callV (q := 20) (ci := 4) (q0 := 0) (As := [.int (nI 1)]) (wr := [(u0, .inr (6, [.int (nI n), .int (nI m), .int (nI t), .ref u1, .ref u2, .ref u3, .ref u4])), (u1, .inl (G.2.2.1, 9, .inl (nF ru))), (u2, .inl (G.2.2.1, 15, .inl (nF la))), (u3, .inl (G.2.2.1, 15, .inl (nF lb))), (u4, .inl (G.2.2.1, 9, .inl (nF ro)))]) (st := []) F (c_X4_readNumber G (mo := nI 1) (lim := 2) hl hbt (p := tE bt ln p) (by omega) (mo_c rfl (by decide))) kwX4_readNumber tw_356 tw_5 tw_354 ⟨Nat.le_of_ble_eq_true rfl, Nat.le_of_ble_eq_true rfl, rfl, rfl, Nat.le_of_ble_eq_true rfl, Nat.le_of_ble_eq_true rfl⟩ [0, 1, 2] [3, 4, 5, 6, 7] rfl rfl rfl rfl rfl rfl rfl rfl rfl (Nat.le_of_ble_eq_true rfl) dX4_readLamp_17 rfl ?_
    rintro r_ w_ ⟨soB, vaB, reB, hreB, rfl, (⟨rfl, hkB, hvB, rfl, rfl⟩ | ⟨rfl, hnoB⟩)⟩
    · skip
      refine j_w (w' := [(r0, .inr (4, [.ref u0, .int (nI (sk bt ln (tE bt ln p))), .ref x0, .int (nI (tE bt ln (tE bt ln p))), .int (nI soB), .int (nI (tV bt ln (tE bt ln p)))])), (x0, .inr (5, [.ref x1, .int (nI ln)])), (x1, .inl (G.2.2.1, 200, .inl (nF bt))), (u0, .inr (6, [.int (nI n), .int (nI m), .int (nI t), .ref u1, .ref u2, .ref u3, .ref u4])), (u1, .inl (G.2.2.1, 9, .inl (nF ru))), (u2, .inl (G.2.2.1, 15, .inl (nF la))), (u3, .inl (G.2.2.1, 15, .inl (nF lb))), (u4, .inl (G.2.2.1, 9, .inl (nF ro)))]) [5, 6, 7, 0, 1, 2, 3, 4] rfl rfl ?_
      show Jw G X _ 0 0 20 _ [.int (nI 1)] _
      have hinB := tE_in (bt := bt) (ln := ln) (p := tE bt ln p) (by omega) (by omega)
      refine j_if_ne (q := 23) (t := 25) F (cf (by decide)) dX4_readLamp_20 rfl rfl (fun _ => ?_) (fun z => False.elim z)
      refine j_aload_n (q := 26) (i0 := 1) F rfl dX4_readLamp_25 rfl ?_
      refine j_get (q := 29) (ci := 4) (q0 := 0) (kf := 5) (v := .int (nI (tV bt ln (tE bt ln p)))) F inX4 rfl rfl rfl tw_135 rfl rfl dX4_readLamp_26 rfl ?_
      refine j_istore_n (q := 30) (lv' := [(2, .int (nI (tV bt ln (tE bt ln p)))), (1, .int (nI (tV bt ln p))), (0, .ref r0)]) F dX4_readLamp_29 (by decide) rfl rfl ?_
      refine j_aload_n (q := 31) (i0 := 2) F rfl dX4_readLamp_30 rfl ?_
      refine j_callV (q := 34) (ci := 4) (q0 := 0) (As := []) (wr := [(u0, .inr (6, [.int (nI n), .int (nI m), .int (nI t), .ref u1, .ref u2, .ref u3, .ref u4])), (u1, .inl (G.2.2.1, 9, .inl (nF ru))), (u2, .inl (G.2.2.1, 15, .inl (nF la))), (u3, .inl (G.2.2.1, 15, .inl (nF lb))), (u4, .inl (G.2.2.1, 9, .inl (nF ro)))]) (st := []) F (c_X4_readSemicolon G hl hbt (p := tE bt ln (tE bt ln p)) (by omega)) kwX4_readSemicolon tw_360 tw_6 tw_358 ⟨Nat.le_of_ble_eq_true rfl, Nat.le_of_ble_eq_true rfl, rfl, rfl, Nat.le_of_ble_eq_true rfl, Nat.le_of_ble_eq_true rfl⟩ [0, 1, 2] [3, 4, 5, 6, 7] rfl rfl rfl rfl rfl rfl rfl rfl rfl (Nat.le_of_ble_eq_true rfl) dX4_readLamp_31 rfl ?_
      rintro r_ w_ ⟨soC, vaC, reC, hreC, rfl, (⟨rfl, hkC, rfl⟩ | ⟨rfl, hnoC⟩)⟩
      · skip
        refine j_w (w' := [(r0, .inr (4, [.ref u0, .int (nI (sk bt ln (tE bt ln (tE bt ln p)))), .ref x0, .int (nI (tE bt ln (tE bt ln (tE bt ln p)))), .int (nI soC), .int vaC])), (x0, .inr (5, [.ref x1, .int (nI ln)])), (x1, .inl (G.2.2.1, 200, .inl (nF bt))), (u0, .inr (6, [.int (nI n), .int (nI m), .int (nI t), .ref u1, .ref u2, .ref u3, .ref u4])), (u1, .inl (G.2.2.1, 9, .inl (nF ru))), (u2, .inl (G.2.2.1, 15, .inl (nF la))), (u3, .inl (G.2.2.1, 15, .inl (nF lb))), (u4, .inl (G.2.2.1, 9, .inl (nF ro)))]) [5, 6, 7, 0, 1, 2, 3, 4] rfl rfl ?_
        show Jw G X _ 0 0 34 _ [.int (nI 1)] _
        have hinC := tE_in (bt := bt) (ln := ln) (p := tE bt ln (tE bt ln p)) (by omega) (by omega)
        refine j_if_ne (q := 37) (t := 39) F (cf (by decide)) dX4_readLamp_34 rfl rfl (fun _ => ?_) (fun z => False.elim z)
        refine j_aload_n (q := 40) (i0 := 2) F rfl dX4_readLamp_39 rfl ?_
        refine j_get (q := 43) (ci := 4) (q0 := 0) (kf := 0) (v := .ref u0) F inX4 rfl rfl rfl tw_128 rfl rfl dX4_readLamp_40 rfl ?_
        refine j_iload_n (q := 44) (i0 := 1) F rfl dX4_readLamp_43 rfl ?_
        refine j_iload_n (q := 45) (i0 := 0) F rfl dX4_readLamp_44 rfl ?_
        refine j_callV (q := 48) (ci := 6) (q0 := 0) (As := [.int (nI (tV bt ln p)), .int (nI (tV bt ln (tE bt ln p)))]) (wr := [(r0, .inr (4, [.ref u0, .int (nI (sk bt ln (tE bt ln (tE bt ln p)))), .ref x0, .int (nI (tE bt ln (tE bt ln (tE bt ln p)))), .int (nI soC), .int vaC])), (x0, .inr (5, [.ref x1, .int (nI ln)])), (x1, .inl (G.2.2.1, 200, .inl (nF bt))), (u2, .inl (G.2.2.1, 15, .inl (nF la))), (u3, .inl (G.2.2.1, 15, .inl (nF lb))), (u4, .inl (G.2.2.1, 9, .inl (nF ro)))]) (st := []) F (c_X6_addLamp G (rule := tV bt ln p) (on := tV bt ln (tE bt ln p)) hn (by omega)) kwX6_addLamp tw_363 tw_364 tw_362 ⟨Nat.le_of_ble_eq_true rfl, Nat.le_of_ble_eq_true rfl, rfl, rfl, Nat.le_of_ble_eq_true rfl, Nat.le_of_ble_eq_true rfl⟩ [3, 4] [0, 1, 2, 5, 6, 7] rfl rfl rfl rfl rfl rfl rfl rfl rfl (Nat.le_of_ble_eq_true rfl) dX4_readLamp_45 rfl ?_
        rintro r_ w_ ⟨rfl, rfl⟩
        refine j_w (w' := [(r0, .inr (4, [.ref u0, .int (nI (sk bt ln (tE bt ln (tE bt ln p)))), .ref x0, .int (nI (tE bt ln (tE bt ln (tE bt ln p)))), .int (nI soC), .int vaC])), (x0, .inr (5, [.ref x1, .int (nI ln)])), (x1, .inl (G.2.2.1, 200, .inl (nF bt))), (u0, .inr (6, [.int (nI (n + 1)), .int (nI m), .int (nI (t ||| tV bt ln (tE bt ln p) * 2 ^ n)), .ref u1, .ref u2, .ref u3, .ref u4])), (u1, .inl (G.2.2.1, 9, .inl (nF (va_up ru n (tV bt ln p))))), (u2, .inl (G.2.2.1, 15, .inl (nF la))), (u3, .inl (G.2.2.1, 15, .inl (nF lb))), (u4, .inl (G.2.2.1, 9, .inl (nF ro)))]) [0, 1, 2, 6, 7, 3, 4, 5] rfl rfl ?_
        show Jw G X _ 0 0 48 _ [] _
        refine j_iconst (q := 49) (v := nI 1) F (by decide) dX4_readLamp_48 rfl ?_
        exact j_zret (w2 := [(r0, .inr (4, [.ref u0, .int (nI (sk bt ln (tE bt ln (tE bt ln p)))), .ref x0, .int (nI (tE bt ln (tE bt ln (tE bt ln p)))), .int (nI soC), .int vaC])), (x0, .inr (5, [.ref x1, .int (nI ln)])), (x1, .inl (G.2.2.1, 200, .inl (nF bt))), (u0, .inr (6, [.int (nI (n + 1)), .int (nI m), .int (nI (t ||| tV bt ln (tE bt ln p) * 2 ^ n)), .ref u1, .ref u2, .ref u3, .ref u4])), (u1, .inl (G.2.2.1, 9, .inl (nF (va_up ru n (tV bt ln p))))), (u2, .inl (G.2.2.1, 15, .inl (nF la))), (u3, .inl (G.2.2.1, 15, .inl (nF lb))), (u4, .inl (G.2.2.1, 9, .inl (nF ro)))]) F R0 rfl rfl [0, 1, 2, 3, 4, 5, 6, 7] rfl rfl (⟨_, _, _, _, Or.inr ⟨_, _, rfl, lmpF_ok ⟨hkA, hvA⟩ ⟨hkB, hvB⟩ hkC, rfl⟩⟩) dX4_readLamp_49
      · skip
        refine j_w (w' := [(r0, .inr (4, [.ref u0, .int (nI (sk bt ln (tE bt ln (tE bt ln p)))), .ref x0, .int (nI reC), .int (nI soC), .int vaC])), (x0, .inr (5, [.ref x1, .int (nI ln)])), (x1, .inl (G.2.2.1, 200, .inl (nF bt))), (u0, .inr (6, [.int (nI n), .int (nI m), .int (nI t), .ref u1, .ref u2, .ref u3, .ref u4])), (u1, .inl (G.2.2.1, 9, .inl (nF ru))), (u2, .inl (G.2.2.1, 15, .inl (nF la))), (u3, .inl (G.2.2.1, 15, .inl (nF lb))), (u4, .inl (G.2.2.1, 9, .inl (nF ro)))]) [5, 6, 7, 0, 1, 2, 3, 4] rfl rfl ?_
        show Jw G X _ 0 0 34 _ [.int (nI 0)] _
        refine j_if_ne (q := 37) (t := 39) F (ct (by decide)) dX4_readLamp_34 rfl rfl (fun z => absurd trivial z) (fun _ => ?_)
        refine j_iconst (q := 38) (v := nI 0) F (by decide) dX4_readLamp_37 rfl ?_
        exact j_zret (w2 := [(r0, .inr (4, [.ref u0, .int (nI (sk bt ln (tE bt ln (tE bt ln p)))), .ref x0, .int (nI reC), .int (nI soC), .int vaC])), (x0, .inr (5, [.ref x1, .int (nI ln)])), (x1, .inl (G.2.2.1, 200, .inl (nF bt))), (u0, .inr (6, [.int (nI n), .int (nI m), .int (nI t), .ref u1, .ref u2, .ref u3, .ref u4])), (u1, .inl (G.2.2.1, 9, .inl (nF ru))), (u2, .inl (G.2.2.1, 15, .inl (nF la))), (u3, .inl (G.2.2.1, 15, .inl (nF lb))), (u4, .inl (G.2.2.1, 9, .inl (nF ro)))]) F R0 rfl rfl [0, 1, 2, 3, 4, 5, 6, 7] rfl rfl (⟨_, _, _, _, Or.inl ⟨rfl, lmpF_f3 ⟨hkA, hvA⟩ ⟨hkB, hvB⟩ hnoC, rfl⟩⟩) dX4_readLamp_38
    · skip
      refine j_w (w' := [(r0, .inr (4, [.ref u0, .int (nI (sk bt ln (tE bt ln p))), .ref x0, .int (nI reB), .int (nI soB), .int vaB])), (x0, .inr (5, [.ref x1, .int (nI ln)])), (x1, .inl (G.2.2.1, 200, .inl (nF bt))), (u0, .inr (6, [.int (nI n), .int (nI m), .int (nI t), .ref u1, .ref u2, .ref u3, .ref u4])), (u1, .inl (G.2.2.1, 9, .inl (nF ru))), (u2, .inl (G.2.2.1, 15, .inl (nF la))), (u3, .inl (G.2.2.1, 15, .inl (nF lb))), (u4, .inl (G.2.2.1, 9, .inl (nF ro)))]) [5, 6, 7, 0, 1, 2, 3, 4] rfl rfl ?_
      show Jw G X _ 0 0 20 _ [.int (nI 0)] _
      refine j_if_ne (q := 23) (t := 25) F (ct (by decide)) dX4_readLamp_20 rfl rfl (fun z => absurd trivial z) (fun _ => ?_)
      refine j_iconst (q := 24) (v := nI 0) F (by decide) dX4_readLamp_23 rfl ?_
      exact j_zret (w2 := [(r0, .inr (4, [.ref u0, .int (nI (sk bt ln (tE bt ln p))), .ref x0, .int (nI reB), .int (nI soB), .int vaB])), (x0, .inr (5, [.ref x1, .int (nI ln)])), (x1, .inl (G.2.2.1, 200, .inl (nF bt))), (u0, .inr (6, [.int (nI n), .int (nI m), .int (nI t), .ref u1, .ref u2, .ref u3, .ref u4])), (u1, .inl (G.2.2.1, 9, .inl (nF ru))), (u2, .inl (G.2.2.1, 15, .inl (nF la))), (u3, .inl (G.2.2.1, 15, .inl (nF lb))), (u4, .inl (G.2.2.1, 9, .inl (nF ro)))]) F R0 rfl rfl [0, 1, 2, 3, 4, 5, 6, 7] rfl rfl (⟨_, _, _, _, Or.inl ⟨rfl, lmpF_f2 ⟨hkA, hvA⟩ hnoB, rfl⟩⟩) dX4_readLamp_24
  · skip
    refine j_w (w' := [(r0, .inr (4, [.ref u0, .int (nI (sk bt ln p)), .ref x0, .int (nI reA), .int (nI soA), .int vaA])), (x0, .inr (5, [.ref x1, .int (nI ln)])), (x1, .inl (G.2.2.1, 200, .inl (nF bt))), (u0, .inr (6, [.int (nI n), .int (nI m), .int (nI t), .ref u1, .ref u2, .ref u3, .ref u4])), (u1, .inl (G.2.2.1, 9, .inl (nF ru))), (u2, .inl (G.2.2.1, 15, .inl (nF la))), (u3, .inl (G.2.2.1, 15, .inl (nF lb))), (u4, .inl (G.2.2.1, 9, .inl (nF ro)))]) [5, 6, 7, 0, 1, 2, 3, 4] rfl rfl ?_
    show Jw G X _ 0 0 5 _ [.int (nI 0)] _
    refine j_if_ne (q := 8) (t := 10) F (ct (by decide)) dX4_readLamp_5 rfl rfl (fun z => absurd trivial z) (fun _ => ?_)
    refine j_iconst (q := 9) (v := nI 0) F (by decide) dX4_readLamp_8 rfl ?_
    exact j_zret (w2 := [(r0, .inr (4, [.ref u0, .int (nI (sk bt ln p)), .ref x0, .int (nI reA), .int (nI soA), .int vaA])), (x0, .inr (5, [.ref x1, .int (nI ln)])), (x1, .inl (G.2.2.1, 200, .inl (nF bt))), (u0, .inr (6, [.int (nI n), .int (nI m), .int (nI t), .ref u1, .ref u2, .ref u3, .ref u4])), (u1, .inl (G.2.2.1, 9, .inl (nF ru))), (u2, .inl (G.2.2.1, 15, .inl (nF la))), (u3, .inl (G.2.2.1, 15, .inl (nF lb))), (u4, .inl (G.2.2.1, 9, .inl (nF ro)))]) F R0 rfl rfl [0, 1, 2, 3, 4, 5, 6, 7] rfl rfl (⟨_, _, _, _, Or.inl ⟨rfl, lmpF_f1 hnoA, rfl⟩⟩) dX4_readLamp_9

set_option maxHeartbeats 4000000 in
set_option maxRecDepth 100000 in
theorem c_X4_readStreet (G : Gm) {r0 u0 u1 u2 u3 u4 x0 x1 ln pl so p n m t : Nat} {va : Int32} {bt ru la lb ro : Nat → Nat} (hl : ln ≤ 200) (hbt : ∀ i, i < ln → bt i < 256) (hp : p ≤ ln) (hn : n ≤ 9) (hm : m < 15) (hlo : ∀ k, k < m → la k < lb k ∧ lb k < n) (hro : ∀ l, l < 9 → ro l = bsd la lb 0 l m) (hrl : ∀ l, l < 9 → ro l < 512) : Mg G yX4_readStreet cX4_readStreet 3 (some .boolean) ({ frames := 4, cells := 0, slots := 0, locals := 85 } : Room) 0 0 [.ref r0] [(r0, .inr (4, [.ref u0, .int (nI pl), .ref x0, .int (nI p), .int (nI so), .int va])), (x0, .inr (5, [.ref x1, .int (nI ln)])), (x1, .inl (G.2.2.1, 200, .inl (nF bt))), (u0, .inr (6, [.int (nI n), .int (nI m), .int (nI t), .ref u1, .ref u2, .ref u3, .ref u4])), (u1, .inl (G.2.2.1, 9, .inl (nF ru))), (u2, .inl (G.2.2.1, 15, .inl (nF la))), (u3, .inl (G.2.2.1, 15, .inl (nF lb))), (u4, .inl (G.2.2.1, 9, .inl (nF ro)))] (fun r w2 => ∃ pl2 re2 so2 va2, (r = some (.int (nI 0)) ∧ strF bt ln n m la lb p = .inl pl2 ∧ w2 = [(r0, .inr (4, [.ref u0, .int (nI pl2), .ref x0, .int (nI re2), .int (nI so2), .int va2])), (x0, .inr (5, [.ref x1, .int (nI ln)])), (x1, .inl (G.2.2.1, 200, .inl (nF bt))), (u0, .inr (6, [.int (nI n), .int (nI m), .int (nI t), .ref u1, .ref u2, .ref u3, .ref u4])), (u1, .inl (G.2.2.1, 9, .inl (nF ru))), (u2, .inl (G.2.2.1, 15, .inl (nF la))), (u3, .inl (G.2.2.1, 15, .inl (nF lb))), (u4, .inl (G.2.2.1, 9, .inl (nF ro)))]) ∨ (∃ a b, r = some (.int (nI 1)) ∧ strF bt ln n m la lb p = .inr (a, b, re2) ∧ w2 = [(r0, .inr (4, [.ref u0, .int (nI pl2), .ref x0, .int (nI re2), .int (nI so2), .int va2])), (x0, .inr (5, [.ref x1, .int (nI ln)])), (x1, .inl (G.2.2.1, 200, .inl (nF bt))), (u0, .inr (6, [.int (nI n), .int (nI (m + 1)), .int (nI t), .ref u1, .ref u2, .ref u3, .ref u4])), (u1, .inl (G.2.2.1, 9, .inl (nF ru))), (u2, .inl (G.2.2.1, 15, .inl (nF (va_up la m (min a b))))), (u3, .inl (G.2.2.1, 15, .inl (nF (va_up lb m (max a b))))), (u4, .inl (G.2.2.1, 9, .inl (nF (va_up (va_up ro a (ro a ||| 2 ^ b)) b (va_up ro a (ro a ||| 2 ^ b) b ||| 2 ^ a)))))])) := by
  refine Mg.mk (lv := [(0, .ref r0)]) (by decide) rfl rfl (fun X F R0 => ?_)
  refine j_aload_n (q := 1) (i0 := 0) F rfl dX4_readStreet_0 rfl ?_
  refine j_aload_n (q := 2) (i0 := 0) F rfl dX4_readStreet_1 rfl ?_
  refine j_get (q := 5) (ci := 4) (q0 := 0) (kf := 0) (v := .ref u0) F inX4 rfl rfl rfl tw_128 rfl rfl dX4_readStreet_2 rfl ?_
  refine j_get (q := 8) (ci := 6) (q0 := 3) (kf := 0) (v := .int (nI n)) F inX6 rfl rfl rfl tw_88 rfl rfl dX4_readStreet_5 rfl ?_
  refine j_iconst (q := 9) (v := nI 1) F (by decide) dX4_readStreet_8 rfl ?_
  refine j_isub (q := 10) (v := nI n - nI 1) F (rfl) dX4_readStreet_9 rfl ?_
  refine j_callV (q := 13) (ci := 4) (q0 := 0) (As := [.int (nI n - nI 1)]) (wr := [(u0, .inr (6, [.int (nI n), .int (nI m), .int (nI t), .ref u1, .ref u2, .ref u3, .ref u4])), (u1, .inl (G.2.2.1, 9, .inl (nF ru))), (u2, .inl (G.2.2.1, 15, .inl (nF la))), (u3, .inl (G.2.2.1, 15, .inl (nF lb))), (u4, .inl (G.2.2.1, 9, .inl (nF ro)))]) (st := []) F (c_X4_readNumber G (mo := nI n - nI 1) (lim := n) hl hbt (p := p) (hp) (mo_n hn)) kwX4_readNumber tw_356 tw_5 tw_354 ⟨Nat.le_of_ble_eq_true rfl, Nat.le_of_ble_eq_true rfl, rfl, rfl, Nat.le_of_ble_eq_true rfl, Nat.le_of_ble_eq_true rfl⟩ [0, 1, 2] [3, 4, 5, 6, 7] rfl rfl rfl rfl rfl rfl rfl rfl rfl (Nat.le_of_ble_eq_true rfl) dX4_readStreet_10 rfl ?_
  rintro r_ w_ ⟨soA, vaA, reA, hreA, rfl, (⟨rfl, hkA, hvA, rfl, rfl⟩ | ⟨rfl, hnoA⟩)⟩
  · skip
    refine j_w (w' := [(r0, .inr (4, [.ref u0, .int (nI (sk bt ln p)), .ref x0, .int (nI (tE bt ln p)), .int (nI soA), .int (nI (tV bt ln p))])), (x0, .inr (5, [.ref x1, .int (nI ln)])), (x1, .inl (G.2.2.1, 200, .inl (nF bt))), (u0, .inr (6, [.int (nI n), .int (nI m), .int (nI t), .ref u1, .ref u2, .ref u3, .ref u4])), (u1, .inl (G.2.2.1, 9, .inl (nF ru))), (u2, .inl (G.2.2.1, 15, .inl (nF la))), (u3, .inl (G.2.2.1, 15, .inl (nF lb))), (u4, .inl (G.2.2.1, 9, .inl (nF ro)))]) [5, 6, 7, 0, 1, 2, 3, 4] rfl rfl ?_
    show Jw G X _ 0 0 13 _ [.int (nI 1)] _
    have hinA := tE_in (bt := bt) (ln := ln) (p := p) (hp) (by omega)
    refine j_if_ne (q := 16) (t := 18) F (cf (by decide)) dX4_readStreet_13 rfl rfl (fun _ => ?_) (fun z => False.elim z)
    refine j_aload_n (q := 19) (i0 := 0) F rfl dX4_readStreet_18 rfl ?_
    refine j_get (q := 22) (ci := 4) (q0 := 0) (kf := 5) (v := .int (nI (tV bt ln p))) F inX4 rfl rfl rfl tw_135 rfl rfl dX4_readStreet_19 rfl ?_
    refine j_istore_n (q := 23) (lv' := [(1, .int (nI (tV bt ln p))), (0, .ref r0)]) F dX4_readStreet_22 (by decide) rfl rfl ?_
    refine j_aload_n (q := 24) (i0 := 1) F rfl dX4_readStreet_23 rfl ?_
    refine j_aload_n (q := 25) (i0 := 1) F rfl dX4_readStreet_24 rfl ?_
    refine j_get (q := 28) (ci := 4) (q0 := 0) (kf := 0) (v := .ref u0) F inX4 rfl rfl rfl tw_128 rfl rfl dX4_readStreet_25 rfl ?_
    refine j_get (q := 31) (ci := 6) (q0 := 3) (kf := 0) (v := .int (nI n)) F inX6 rfl rfl rfl tw_88 rfl rfl dX4_readStreet_28 rfl ?_
    refine j_iconst (q := 32) (v := nI 1) F (by decide) dX4_readStreet_31 rfl ?_
    refine j_isub (q := 33) (v := nI n - nI 1) F (rfl) dX4_readStreet_32 rfl ?_
    refine j_callV (q := 36) (ci := 4) (q0 := 0) (As := [.int (nI n - nI 1)]) (wr := [(u0, .inr (6, [.int (nI n), .int (nI m), .int (nI t), .ref u1, .ref u2, .ref u3, .ref u4])), (u1, .inl (G.2.2.1, 9, .inl (nF ru))), (u2, .inl (G.2.2.1, 15, .inl (nF la))), (u3, .inl (G.2.2.1, 15, .inl (nF lb))), (u4, .inl (G.2.2.1, 9, .inl (nF ro)))]) (st := []) F (c_X4_readNumber G (mo := nI n - nI 1) (lim := n) hl hbt (p := tE bt ln p) (by omega) (mo_n hn)) kwX4_readNumber tw_356 tw_5 tw_354 ⟨Nat.le_of_ble_eq_true rfl, Nat.le_of_ble_eq_true rfl, rfl, rfl, Nat.le_of_ble_eq_true rfl, Nat.le_of_ble_eq_true rfl⟩ [0, 1, 2] [3, 4, 5, 6, 7] rfl rfl rfl rfl rfl rfl rfl rfl rfl (Nat.le_of_ble_eq_true rfl) dX4_readStreet_33 rfl ?_
    rintro r_ w_ ⟨soB, vaB, reB, hreB, rfl, (⟨rfl, hkB, hvB, rfl, rfl⟩ | ⟨rfl, hnoB⟩)⟩
    · skip
      refine j_w (w' := [(r0, .inr (4, [.ref u0, .int (nI (sk bt ln (tE bt ln p))), .ref x0, .int (nI (tE bt ln (tE bt ln p))), .int (nI soB), .int (nI (tV bt ln (tE bt ln p)))])), (x0, .inr (5, [.ref x1, .int (nI ln)])), (x1, .inl (G.2.2.1, 200, .inl (nF bt))), (u0, .inr (6, [.int (nI n), .int (nI m), .int (nI t), .ref u1, .ref u2, .ref u3, .ref u4])), (u1, .inl (G.2.2.1, 9, .inl (nF ru))), (u2, .inl (G.2.2.1, 15, .inl (nF la))), (u3, .inl (G.2.2.1, 15, .inl (nF lb))), (u4, .inl (G.2.2.1, 9, .inl (nF ro)))]) [5, 6, 7, 0, 1, 2, 3, 4] rfl rfl ?_
      show Jw G X _ 0 0 36 _ [.int (nI 1)] _
      have hinB := tE_in (bt := bt) (ln := ln) (p := tE bt ln p) (by omega) (by omega)
      refine j_if_eq (q := 39) (t := 62) F (cf (by decide)) dX4_readStreet_36 rfl rfl (fun z => False.elim z) (fun _ => ?_)
      refine j_aload_n (q := 40) (i0 := 1) F rfl dX4_readStreet_39 rfl ?_
      refine j_get (q := 43) (ci := 4) (q0 := 0) (kf := 5) (v := .int (nI (tV bt ln (tE bt ln p)))) F inX4 rfl rfl rfl tw_135 rfl rfl dX4_readStreet_40 rfl ?_
      refine j_iload_n (q := 44) (i0 := 0) F rfl dX4_readStreet_43 rfl ?_
      refine j_icmp_eq (q := 47) (t := 62) F (Pp := tV bt ln (tE bt ln p) = tV bt ln p) (nI_eq (by omega) (by omega)) dX4_readStreet_44 rfl rfl (fun ce => ?_) (fun ce => ?_)
      · skip
        refine j_iconst (q := 63) (v := nI 0) F (by decide) dX4_readStreet_62 rfl ?_
        exact j_zret (w2 := [(r0, .inr (4, [.ref u0, .int (nI (sk bt ln (tE bt ln p))), .ref x0, .int (nI (tE bt ln (tE bt ln p))), .int (nI soB), .int (nI (tV bt ln (tE bt ln p)))])), (x0, .inr (5, [.ref x1, .int (nI ln)])), (x1, .inl (G.2.2.1, 200, .inl (nF bt))), (u0, .inr (6, [.int (nI n), .int (nI m), .int (nI t), .ref u1, .ref u2, .ref u3, .ref u4])), (u1, .inl (G.2.2.1, 9, .inl (nF ru))), (u2, .inl (G.2.2.1, 15, .inl (nF la))), (u3, .inl (G.2.2.1, 15, .inl (nF lb))), (u4, .inl (G.2.2.1, 9, .inl (nF ro)))]) F R0 rfl rfl [0, 1, 2, 3, 4, 5, 6, 7] rfl rfl (⟨_, _, _, _, Or.inl ⟨rfl, strF_f2 ⟨hkA, hvA⟩ (Or.inr (Or.inl ce)), rfl⟩⟩) dX4_readStreet_63
      · skip
        refine j_aload_n (q := 48) (i0 := 1) F rfl dX4_readStreet_47 rfl ?_
        refine j_get (q := 51) (ci := 4) (q0 := 0) (kf := 0) (v := .ref u0) F inX4 rfl rfl rfl tw_128 rfl rfl dX4_readStreet_48 rfl ?_
        refine j_iload_n (q := 52) (i0 := 0) F rfl dX4_readStreet_51 rfl ?_
        refine j_aload_n (q := 53) (i0 := 1) F rfl dX4_readStreet_52 rfl ?_
        refine j_get (q := 56) (ci := 4) (q0 := 0) (kf := 5) (v := .int (nI (tV bt ln (tE bt ln p)))) F inX4 rfl rfl rfl tw_135 rfl rfl dX4_readStreet_53 rfl ?_
        refine j_callV (q := 59) (ci := 6) (q0 := 0) (As := [.int (nI (tV bt ln p)), .int (nI (tV bt ln (tE bt ln p)))]) (wr := [(r0, .inr (4, [.ref u0, .int (nI (sk bt ln (tE bt ln p))), .ref x0, .int (nI (tE bt ln (tE bt ln p))), .int (nI soB), .int (nI (tV bt ln (tE bt ln p)))])), (x0, .inr (5, [.ref x1, .int (nI ln)])), (x1, .inl (G.2.2.1, 200, .inl (nF bt))), (u1, .inl (G.2.2.1, 9, .inl (nF ru))), (u2, .inl (G.2.2.1, 15, .inl (nF la))), (u3, .inl (G.2.2.1, 15, .inl (nF lb)))]) (st := []) F (c_X6_isJoined G (a := tV bt ln p) (b := tV bt ln (tE bt ln p)) hn hvA (by omega) (hrl _ (by omega))) kwX6_isJoined tw_371 tw_372 tw_370 ⟨Nat.le_of_ble_eq_true rfl, Nat.le_of_ble_eq_true rfl, rfl, rfl, Nat.le_of_ble_eq_true rfl, Nat.le_of_ble_eq_true rfl⟩ [3, 7] [0, 1, 2, 4, 5, 6] rfl rfl rfl rfl rfl rfl rfl rfl rfl (Nat.le_of_ble_eq_true rfl) dX4_readStreet_56 rfl ?_
        rintro r_ w_ ⟨rfl, (⟨rfl, hj⟩ | ⟨rfl, hj⟩)⟩
        · skip
          refine j_w (w' := [(r0, .inr (4, [.ref u0, .int (nI (sk bt ln (tE bt ln p))), .ref x0, .int (nI (tE bt ln (tE bt ln p))), .int (nI soB), .int (nI (tV bt ln (tE bt ln p)))])), (x0, .inr (5, [.ref x1, .int (nI ln)])), (x1, .inl (G.2.2.1, 200, .inl (nF bt))), (u0, .inr (6, [.int (nI n), .int (nI m), .int (nI t), .ref u1, .ref u2, .ref u3, .ref u4])), (u1, .inl (G.2.2.1, 9, .inl (nF ru))), (u2, .inl (G.2.2.1, 15, .inl (nF la))), (u3, .inl (G.2.2.1, 15, .inl (nF lb))), (u4, .inl (G.2.2.1, 9, .inl (nF ro)))]) [0, 1, 2, 6, 3, 4, 5, 7] rfl rfl ?_
          show Jw G X _ 0 0 59 _ [.int (nI 1)] _
          have hjj := (jnd_bit hlo).mp (by rw [← hro (tV bt ln p) (by omega)]; exact hj)
          refine j_if_eq (q := 62) (t := 64) F (cf (by decide)) dX4_readStreet_59 rfl rfl (fun z => False.elim z) (fun _ => ?_)
          refine j_iconst (q := 63) (v := nI 0) F (by decide) dX4_readStreet_62 rfl ?_
          exact j_zret (w2 := [(r0, .inr (4, [.ref u0, .int (nI (sk bt ln (tE bt ln p))), .ref x0, .int (nI (tE bt ln (tE bt ln p))), .int (nI soB), .int (nI (tV bt ln (tE bt ln p)))])), (x0, .inr (5, [.ref x1, .int (nI ln)])), (x1, .inl (G.2.2.1, 200, .inl (nF bt))), (u0, .inr (6, [.int (nI n), .int (nI m), .int (nI t), .ref u1, .ref u2, .ref u3, .ref u4])), (u1, .inl (G.2.2.1, 9, .inl (nF ru))), (u2, .inl (G.2.2.1, 15, .inl (nF la))), (u3, .inl (G.2.2.1, 15, .inl (nF lb))), (u4, .inl (G.2.2.1, 9, .inl (nF ro)))]) F R0 rfl rfl [0, 1, 2, 3, 4, 5, 6, 7] rfl rfl (⟨_, _, _, _, Or.inl ⟨rfl, strF_f2 ⟨hkA, hvA⟩ (Or.inr (Or.inr hjj)), rfl⟩⟩) dX4_readStreet_63
        · skip
          refine j_w (w' := [(r0, .inr (4, [.ref u0, .int (nI (sk bt ln (tE bt ln p))), .ref x0, .int (nI (tE bt ln (tE bt ln p))), .int (nI soB), .int (nI (tV bt ln (tE bt ln p)))])), (x0, .inr (5, [.ref x1, .int (nI ln)])), (x1, .inl (G.2.2.1, 200, .inl (nF bt))), (u0, .inr (6, [.int (nI n), .int (nI m), .int (nI t), .ref u1, .ref u2, .ref u3, .ref u4])), (u1, .inl (G.2.2.1, 9, .inl (nF ru))), (u2, .inl (G.2.2.1, 15, .inl (nF la))), (u3, .inl (G.2.2.1, 15, .inl (nF lb))), (u4, .inl (G.2.2.1, 9, .inl (nF ro)))]) [0, 1, 2, 6, 3, 4, 5, 7] rfl rfl ?_
          show Jw G X _ 0 0 59 _ [.int (nI 0)] _
          have hjj : ¬ jnd la lb m (min (tV bt ln p) (tV bt ln (tE bt ln p))) (max (tV bt ln p) (tV bt ln (tE bt ln p))) := fun z => absurd ((jnd_bit hlo).mpr z) (by rw [← hro (tV bt ln p) (by omega), hj]; decide)
          refine j_if_eq (q := 62) (t := 64) F (ct (by decide)) dX4_readStreet_59 rfl rfl (fun _ => ?_) (fun z => absurd trivial z)
          refine j_aload_n (q := 65) (i0 := 1) F rfl dX4_readStreet_64 rfl ?_
          refine j_get (q := 68) (ci := 4) (q0 := 0) (kf := 5) (v := .int (nI (tV bt ln (tE bt ln p)))) F inX4 rfl rfl rfl tw_135 rfl rfl dX4_readStreet_65 rfl ?_
          refine j_istore_n (q := 69) (lv' := [(2, .int (nI (tV bt ln (tE bt ln p)))), (1, .int (nI (tV bt ln p))), (0, .ref r0)]) F dX4_readStreet_68 (by decide) rfl rfl ?_
          refine j_aload_n (q := 70) (i0 := 2) F rfl dX4_readStreet_69 rfl ?_
          refine j_callV (q := 73) (ci := 4) (q0 := 0) (As := []) (wr := [(u0, .inr (6, [.int (nI n), .int (nI m), .int (nI t), .ref u1, .ref u2, .ref u3, .ref u4])), (u1, .inl (G.2.2.1, 9, .inl (nF ru))), (u2, .inl (G.2.2.1, 15, .inl (nF la))), (u3, .inl (G.2.2.1, 15, .inl (nF lb))), (u4, .inl (G.2.2.1, 9, .inl (nF ro)))]) (st := []) F (c_X4_readSemicolon G hl hbt (p := tE bt ln (tE bt ln p)) (by omega)) kwX4_readSemicolon tw_360 tw_6 tw_358 ⟨Nat.le_of_ble_eq_true rfl, Nat.le_of_ble_eq_true rfl, rfl, rfl, Nat.le_of_ble_eq_true rfl, Nat.le_of_ble_eq_true rfl⟩ [0, 1, 2] [3, 4, 5, 6, 7] rfl rfl rfl rfl rfl rfl rfl rfl rfl (Nat.le_of_ble_eq_true rfl) dX4_readStreet_70 rfl ?_
          rintro r_ w_ ⟨soC, vaC, reC, hreC, rfl, (⟨rfl, hkC, rfl⟩ | ⟨rfl, hnoC⟩)⟩
          · skip
            refine j_w (w' := [(r0, .inr (4, [.ref u0, .int (nI (sk bt ln (tE bt ln (tE bt ln p)))), .ref x0, .int (nI (tE bt ln (tE bt ln (tE bt ln p)))), .int (nI soC), .int vaC])), (x0, .inr (5, [.ref x1, .int (nI ln)])), (x1, .inl (G.2.2.1, 200, .inl (nF bt))), (u0, .inr (6, [.int (nI n), .int (nI m), .int (nI t), .ref u1, .ref u2, .ref u3, .ref u4])), (u1, .inl (G.2.2.1, 9, .inl (nF ru))), (u2, .inl (G.2.2.1, 15, .inl (nF la))), (u3, .inl (G.2.2.1, 15, .inl (nF lb))), (u4, .inl (G.2.2.1, 9, .inl (nF ro)))]) [5, 6, 7, 0, 1, 2, 3, 4] rfl rfl ?_
            show Jw G X _ 0 0 73 _ [.int (nI 1)] _
            have hinC := tE_in (bt := bt) (ln := ln) (p := tE bt ln (tE bt ln p)) (by omega) (by omega)
            refine j_if_ne (q := 76) (t := 78) F (cf (by decide)) dX4_readStreet_73 rfl rfl (fun _ => ?_) (fun z => False.elim z)
            refine j_aload_n (q := 79) (i0 := 2) F rfl dX4_readStreet_78 rfl ?_
            refine j_get (q := 82) (ci := 4) (q0 := 0) (kf := 0) (v := .ref u0) F inX4 rfl rfl rfl tw_128 rfl rfl dX4_readStreet_79 rfl ?_
            refine j_iload_n (q := 83) (i0 := 1) F rfl dX4_readStreet_82 rfl ?_
            refine j_iload_n (q := 84) (i0 := 0) F rfl dX4_readStreet_83 rfl ?_
            refine j_callV (q := 87) (ci := 6) (q0 := 0) (As := [.int (nI (tV bt ln p)), .int (nI (tV bt ln (tE bt ln p)))]) (wr := [(r0, .inr (4, [.ref u0, .int (nI (sk bt ln (tE bt ln (tE bt ln p)))), .ref x0, .int (nI (tE bt ln (tE bt ln (tE bt ln p)))), .int (nI soC), .int vaC])), (x0, .inr (5, [.ref x1, .int (nI ln)])), (x1, .inl (G.2.2.1, 200, .inl (nF bt))), (u1, .inl (G.2.2.1, 9, .inl (nF ru)))]) (st := []) F (c_X6_addStreet G (a := tV bt ln p) (b := tV bt ln (tE bt ln p)) hn hm hvA hvB) kwX6_addStreet tw_379 tw_380 tw_378 ⟨Nat.le_of_ble_eq_true rfl, Nat.le_of_ble_eq_true rfl, rfl, rfl, Nat.le_of_ble_eq_true rfl, Nat.le_of_ble_eq_true rfl⟩ [3, 5, 6, 7] [0, 1, 2, 4] rfl rfl rfl rfl rfl rfl rfl rfl rfl (Nat.le_of_ble_eq_true rfl) dX4_readStreet_84 rfl ?_
            rintro r_ w_ ⟨rfl, rfl⟩
            refine j_w (w' := [(r0, .inr (4, [.ref u0, .int (nI (sk bt ln (tE bt ln (tE bt ln p)))), .ref x0, .int (nI (tE bt ln (tE bt ln (tE bt ln p)))), .int (nI soC), .int vaC])), (x0, .inr (5, [.ref x1, .int (nI ln)])), (x1, .inl (G.2.2.1, 200, .inl (nF bt))), (u0, .inr (6, [.int (nI n), .int (nI (m + 1)), .int (nI t), .ref u1, .ref u2, .ref u3, .ref u4])), (u1, .inl (G.2.2.1, 9, .inl (nF ru))), (u2, .inl (G.2.2.1, 15, .inl (nF (va_up la m (min (tV bt ln p) (tV bt ln (tE bt ln p))))))), (u3, .inl (G.2.2.1, 15, .inl (nF (va_up lb m (max (tV bt ln p) (tV bt ln (tE bt ln p))))))), (u4, .inl (G.2.2.1, 9, .inl (nF (va_up (va_up ro (tV bt ln p) (ro (tV bt ln p) ||| 2 ^ (tV bt ln (tE bt ln p)))) (tV bt ln (tE bt ln p)) (va_up ro (tV bt ln p) (ro (tV bt ln p) ||| 2 ^ (tV bt ln (tE bt ln p))) (tV bt ln (tE bt ln p)) ||| 2 ^ (tV bt ln p))))))]) [0, 1, 2, 4, 3, 5, 6, 7] rfl rfl ?_
            show Jw G X _ 0 0 87 _ [] _
            refine j_iconst (q := 88) (v := nI 1) F (by decide) dX4_readStreet_87 rfl ?_
            exact j_zret (w2 := [(r0, .inr (4, [.ref u0, .int (nI (sk bt ln (tE bt ln (tE bt ln p)))), .ref x0, .int (nI (tE bt ln (tE bt ln (tE bt ln p)))), .int (nI soC), .int vaC])), (x0, .inr (5, [.ref x1, .int (nI ln)])), (x1, .inl (G.2.2.1, 200, .inl (nF bt))), (u0, .inr (6, [.int (nI n), .int (nI (m + 1)), .int (nI t), .ref u1, .ref u2, .ref u3, .ref u4])), (u1, .inl (G.2.2.1, 9, .inl (nF ru))), (u2, .inl (G.2.2.1, 15, .inl (nF (va_up la m (min (tV bt ln p) (tV bt ln (tE bt ln p))))))), (u3, .inl (G.2.2.1, 15, .inl (nF (va_up lb m (max (tV bt ln p) (tV bt ln (tE bt ln p))))))), (u4, .inl (G.2.2.1, 9, .inl (nF (va_up (va_up ro (tV bt ln p) (ro (tV bt ln p) ||| 2 ^ (tV bt ln (tE bt ln p)))) (tV bt ln (tE bt ln p)) (va_up ro (tV bt ln p) (ro (tV bt ln p) ||| 2 ^ (tV bt ln (tE bt ln p))) (tV bt ln (tE bt ln p)) ||| 2 ^ (tV bt ln p))))))]) F R0 rfl rfl [0, 1, 2, 3, 4, 5, 6, 7] rfl rfl (⟨_, _, _, _, Or.inr ⟨_, _, rfl, strF_ok ⟨hkA, hvA⟩ ⟨hkB, hvB⟩ ce hjj hkC, rfl⟩⟩) dX4_readStreet_88
          · skip
            refine j_w (w' := [(r0, .inr (4, [.ref u0, .int (nI (sk bt ln (tE bt ln (tE bt ln p)))), .ref x0, .int (nI reC), .int (nI soC), .int vaC])), (x0, .inr (5, [.ref x1, .int (nI ln)])), (x1, .inl (G.2.2.1, 200, .inl (nF bt))), (u0, .inr (6, [.int (nI n), .int (nI m), .int (nI t), .ref u1, .ref u2, .ref u3, .ref u4])), (u1, .inl (G.2.2.1, 9, .inl (nF ru))), (u2, .inl (G.2.2.1, 15, .inl (nF la))), (u3, .inl (G.2.2.1, 15, .inl (nF lb))), (u4, .inl (G.2.2.1, 9, .inl (nF ro)))]) [5, 6, 7, 0, 1, 2, 3, 4] rfl rfl ?_
            show Jw G X _ 0 0 73 _ [.int (nI 0)] _
            refine j_if_ne (q := 76) (t := 78) F (ct (by decide)) dX4_readStreet_73 rfl rfl (fun z => absurd trivial z) (fun _ => ?_)
            refine j_iconst (q := 77) (v := nI 0) F (by decide) dX4_readStreet_76 rfl ?_
            exact j_zret (w2 := [(r0, .inr (4, [.ref u0, .int (nI (sk bt ln (tE bt ln (tE bt ln p)))), .ref x0, .int (nI reC), .int (nI soC), .int vaC])), (x0, .inr (5, [.ref x1, .int (nI ln)])), (x1, .inl (G.2.2.1, 200, .inl (nF bt))), (u0, .inr (6, [.int (nI n), .int (nI m), .int (nI t), .ref u1, .ref u2, .ref u3, .ref u4])), (u1, .inl (G.2.2.1, 9, .inl (nF ru))), (u2, .inl (G.2.2.1, 15, .inl (nF la))), (u3, .inl (G.2.2.1, 15, .inl (nF lb))), (u4, .inl (G.2.2.1, 9, .inl (nF ro)))]) F R0 rfl rfl [0, 1, 2, 3, 4, 5, 6, 7] rfl rfl (⟨_, _, _, _, Or.inl ⟨rfl, strF_f3 ⟨hkA, hvA⟩ ⟨hkB, hvB⟩ ce hjj hnoC, rfl⟩⟩) dX4_readStreet_77
    · skip
      refine j_w (w' := [(r0, .inr (4, [.ref u0, .int (nI (sk bt ln (tE bt ln p))), .ref x0, .int (nI reB), .int (nI soB), .int vaB])), (x0, .inr (5, [.ref x1, .int (nI ln)])), (x1, .inl (G.2.2.1, 200, .inl (nF bt))), (u0, .inr (6, [.int (nI n), .int (nI m), .int (nI t), .ref u1, .ref u2, .ref u3, .ref u4])), (u1, .inl (G.2.2.1, 9, .inl (nF ru))), (u2, .inl (G.2.2.1, 15, .inl (nF la))), (u3, .inl (G.2.2.1, 15, .inl (nF lb))), (u4, .inl (G.2.2.1, 9, .inl (nF ro)))]) [5, 6, 7, 0, 1, 2, 3, 4] rfl rfl ?_
      show Jw G X _ 0 0 36 _ [.int (nI 0)] _
      refine j_if_eq (q := 39) (t := 62) F (ct (by decide)) dX4_readStreet_36 rfl rfl (fun _ => ?_) (fun z => absurd trivial z)
      refine j_iconst (q := 63) (v := nI 0) F (by decide) dX4_readStreet_62 rfl ?_
      exact j_zret (w2 := [(r0, .inr (4, [.ref u0, .int (nI (sk bt ln (tE bt ln p))), .ref x0, .int (nI reB), .int (nI soB), .int vaB])), (x0, .inr (5, [.ref x1, .int (nI ln)])), (x1, .inl (G.2.2.1, 200, .inl (nF bt))), (u0, .inr (6, [.int (nI n), .int (nI m), .int (nI t), .ref u1, .ref u2, .ref u3, .ref u4])), (u1, .inl (G.2.2.1, 9, .inl (nF ru))), (u2, .inl (G.2.2.1, 15, .inl (nF la))), (u3, .inl (G.2.2.1, 15, .inl (nF lb))), (u4, .inl (G.2.2.1, 9, .inl (nF ro)))]) F R0 rfl rfl [0, 1, 2, 3, 4, 5, 6, 7] rfl rfl (⟨_, _, _, _, Or.inl ⟨rfl, strF_f2 ⟨hkA, hvA⟩ (Or.inl hnoB), rfl⟩⟩) dX4_readStreet_63
  · skip
    refine j_w (w' := [(r0, .inr (4, [.ref u0, .int (nI (sk bt ln p)), .ref x0, .int (nI reA), .int (nI soA), .int vaA])), (x0, .inr (5, [.ref x1, .int (nI ln)])), (x1, .inl (G.2.2.1, 200, .inl (nF bt))), (u0, .inr (6, [.int (nI n), .int (nI m), .int (nI t), .ref u1, .ref u2, .ref u3, .ref u4])), (u1, .inl (G.2.2.1, 9, .inl (nF ru))), (u2, .inl (G.2.2.1, 15, .inl (nF la))), (u3, .inl (G.2.2.1, 15, .inl (nF lb))), (u4, .inl (G.2.2.1, 9, .inl (nF ro)))]) [5, 6, 7, 0, 1, 2, 3, 4] rfl rfl ?_
    show Jw G X _ 0 0 13 _ [.int (nI 0)] _
    refine j_if_ne (q := 16) (t := 18) F (ct (by decide)) dX4_readStreet_13 rfl rfl (fun z => absurd trivial z) (fun _ => ?_)
    refine j_iconst (q := 17) (v := nI 0) F (by decide) dX4_readStreet_16 rfl ?_
    exact j_zret (w2 := [(r0, .inr (4, [.ref u0, .int (nI (sk bt ln p)), .ref x0, .int (nI reA), .int (nI soA), .int vaA])), (x0, .inr (5, [.ref x1, .int (nI ln)])), (x1, .inl (G.2.2.1, 200, .inl (nF bt))), (u0, .inr (6, [.int (nI n), .int (nI m), .int (nI t), .ref u1, .ref u2, .ref u3, .ref u4])), (u1, .inl (G.2.2.1, 9, .inl (nF ru))), (u2, .inl (G.2.2.1, 15, .inl (nF la))), (u3, .inl (G.2.2.1, 15, .inl (nF lb))), (u4, .inl (G.2.2.1, 9, .inl (nF ro)))]) F R0 rfl rfl [0, 1, 2, 3, 4, 5, 6, 7] rfl rfl (⟨_, _, _, _, Or.inl ⟨rfl, strF_f1 hnoA, rfl⟩⟩) dX4_readStreet_17

set_option maxHeartbeats 4000000 in
set_option maxRecDepth 100000 in
theorem c_X4_readItem (G : Gm) {r0 u0 u1 u2 u3 u4 x0 x1 ln so p n m t : Nat} {va : Int32} {bt ru la lb ro : Nat → Nat} {re : Nat} (hl : ln ≤ 200) (hbt : ∀ i, i < ln → bt i < 256) (hp : p ≤ ln) (hre : re ≤ ln) (hDok : Dok n m t ru la lb ro) (hct : CTok bt ln p so va re) (hk0 : ¬ tK bt ln p = 0) : Mg G yX4_readItem cX4_readItem 1 (some .boolean) ({ frames := 5, cells := 0, slots := 0, locals := 107 } : Room) 0 0 [.ref r0] [(r0, .inr (4, [.ref u0, .int (nI (sk bt ln p)), .ref x0, .int (nI re), .int (nI so), .int va])), (x0, .inr (5, [.ref x1, .int (nI ln)])), (x1, .inl (G.2.2.1, 200, .inl (nF bt))), (u0, .inr (6, [.int (nI n), .int (nI m), .int (nI t), .ref u1, .ref u2, .ref u3, .ref u4])), (u1, .inl (G.2.2.1, 9, .inl (nF ru))), (u2, .inl (G.2.2.1, 15, .inl (nF la))), (u3, .inl (G.2.2.1, 15, .inl (nF lb))), (u4, .inl (G.2.2.1, 9, .inl (nF ro)))] (fun r w2 => ∃ pl2 re2 so2 va2, (r = some (.int (nI 0)) ∧ stp bt ln (p, n, m, t, ru, la, lb) = .inl pl2 ∧ w2 = [(r0, .inr (4, [.ref u0, .int (nI pl2), .ref x0, .int (nI re2), .int (nI so2), .int va2])), (x0, .inr (5, [.ref x1, .int (nI ln)])), (x1, .inl (G.2.2.1, 200, .inl (nF bt))), (u0, .inr (6, [.int (nI n), .int (nI m), .int (nI t), .ref u1, .ref u2, .ref u3, .ref u4])), (u1, .inl (G.2.2.1, 9, .inl (nF ru))), (u2, .inl (G.2.2.1, 15, .inl (nF la))), (u3, .inl (G.2.2.1, 15, .inl (nF lb))), (u4, .inl (G.2.2.1, 9, .inl (nF ro)))]) ∨ (∃ n2 m2 t2 ru2 la2 lb2 ro2, r = some (.int (nI 1)) ∧ stp bt ln (p, n, m, t, ru, la, lb) = .inr (re2, n2, m2, t2, ru2, la2, lb2) ∧ Dok n2 m2 t2 ru2 la2 lb2 ro2 ∧ p < re2 ∧ re2 ≤ ln ∧ w2 = [(r0, .inr (4, [.ref u0, .int (nI pl2), .ref x0, .int (nI re2), .int (nI so2), .int va2])), (x0, .inr (5, [.ref x1, .int (nI ln)])), (x1, .inl (G.2.2.1, 200, .inl (nF bt))), (u0, .inr (6, [.int (nI n2), .int (nI m2), .int (nI t2), .ref u1, .ref u2, .ref u3, .ref u4])), (u1, .inl (G.2.2.1, 9, .inl (nF ru2))), (u2, .inl (G.2.2.1, 15, .inl (nF la2))), (u3, .inl (G.2.2.1, 15, .inl (nF lb2))), (u4, .inl (G.2.2.1, 9, .inl (nF ro2)))])) := by
  have hso := hct.so_le
  have hn9 := hDok.1.1
  have hm15 := hDok.1.2.1
  have htp := tE_in (bt := bt) hp hk0
  refine Mg.mk (lv := [(0, .ref r0)]) (by decide) rfl rfl (fun X F R0 => ?_)
  refine j_aload_n (q := 1) (i0 := 0) F rfl dX4_readItem_0 rfl ?_
  refine j_get (q := 4) (ci := 4) (q0 := 0) (kf := 4) (v := .int (nI so)) F inX4 rfl rfl rfl tw_134 rfl rfl dX4_readItem_1 rfl ?_
  refine j_iconst (q := 5) (v := nI 1) F (by decide) dX4_readItem_4 rfl ?_
  refine j_icmp_eq (q := 8) (t := 10) F (Pp := so = 1) (nI_eq (by omega) (by omega)) dX4_readItem_5 rfl rfl (fun c1 => ?_) (fun c1 => ?_)
  · skip
    refine j_aload_n (q := 11) (i0 := 0) F rfl dX4_readItem_10 rfl ?_
    refine j_get (q := 14) (ci := 4) (q0 := 0) (kf := 5) (v := .int va) F inX4 rfl rfl rfl tw_135 rfl rfl dX4_readItem_11 rfl ?_
    refine j_bipush (q := 16) (v := nI 108) F (by decide) dX4_readItem_14 rfl ?_
    refine j_icmp_ne (q := 19) (t := 44) F (Pp := va = nI 108) (Iff.rfl) dX4_readItem_16 rfl rfl (fun cl => ?_) (fun cl => ?_)
    · skip
      refine j_aload_n (q := 45) (i0 := 0) F rfl dX4_readItem_44 rfl ?_
      refine j_get (q := 48) (ci := 4) (q0 := 0) (kf := 5) (v := .int va) F inX4 rfl rfl rfl tw_135 rfl rfl dX4_readItem_45 rfl ?_
      refine j_bipush (q := 50) (v := nI 115) F (by decide) dX4_readItem_48 rfl ?_
      refine j_icmp_ne (q := 53) (t := 76) F (Pp := va = nI 115) (Iff.rfl) dX4_readItem_50 rfl rfl (fun cs => ?_) (fun cs => ?_)
      · skip
        refine j_iconst (q := 77) (v := nI 0) F (by decide) dX4_readItem_76 rfl ?_
        exact j_zret (w2 := [(r0, .inr (4, [.ref u0, .int (nI (sk bt ln p)), .ref x0, .int (nI re), .int (nI so), .int va])), (x0, .inr (5, [.ref x1, .int (nI ln)])), (x1, .inl (G.2.2.1, 200, .inl (nF bt))), (u0, .inr (6, [.int (nI n), .int (nI m), .int (nI t), .ref u1, .ref u2, .ref u3, .ref u4])), (u1, .inl (G.2.2.1, 9, .inl (nF ru))), (u2, .inl (G.2.2.1, 15, .inl (nF la))), (u3, .inl (G.2.2.1, 15, .inl (nF lb))), (u4, .inl (G.2.2.1, 9, .inl (nF ro)))]) F R0 rfl rfl [0, 1, 2, 3, 4, 5, 6, 7] rfl rfl (⟨_, _, _, _, Or.inl ⟨rfl, stp_x (cto hct c1 cl cs).1 (cto hct c1 cl cs).2, rfl⟩⟩) dX4_readItem_77
      · skip
        have hks := cts hct c1 cl cs
        refine j_aload_n (q := 54) (i0 := 0) F rfl dX4_readItem_53 rfl ?_
        refine j_get (q := 57) (ci := 4) (q0 := 0) (kf := 0) (v := .ref u0) F inX4 rfl rfl rfl tw_128 rfl rfl dX4_readItem_54 rfl ?_
        refine j_get (q := 60) (ci := 6) (q0 := 3) (kf := 1) (v := .int (nI m)) F inX6 rfl rfl rfl tw_94 rfl rfl dX4_readItem_57 rfl ?_
        refine j_bipush (q := 62) (v := nI 15) F (by decide) dX4_readItem_60 rfl ?_
        refine j_icmp_ge (q := 65) (t := 76) F (Pp := 15 ≤ m) (nI_leI (by omega) (by omega)) dX4_readItem_62 rfl rfl (fun c15 => ?_) (fun c15 => ?_)
        · skip
          refine j_iconst (q := 77) (v := nI 0) F (by decide) dX4_readItem_76 rfl ?_
          exact j_zret (w2 := [(r0, .inr (4, [.ref u0, .int (nI (sk bt ln p)), .ref x0, .int (nI re), .int (nI so), .int va])), (x0, .inr (5, [.ref x1, .int (nI ln)])), (x1, .inl (G.2.2.1, 200, .inl (nF bt))), (u0, .inr (6, [.int (nI n), .int (nI m), .int (nI t), .ref u1, .ref u2, .ref u3, .ref u4])), (u1, .inl (G.2.2.1, 9, .inl (nF ru))), (u2, .inl (G.2.2.1, 15, .inl (nF la))), (u3, .inl (G.2.2.1, 15, .inl (nF lb))), (u4, .inl (G.2.2.1, 9, .inl (nF ro)))]) F R0 rfl rfl [0, 1, 2, 3, 4, 5, 6, 7] rfl rfl (⟨_, _, _, _, Or.inl ⟨rfl, stp_s15 hks.1 (by omega), rfl⟩⟩) dX4_readItem_77
        · skip
          refine j_aload_n (q := 66) (i0 := 0) F rfl dX4_readItem_65 rfl ?_
          refine j_callV (q := 69) (ci := 4) (q0 := 0) (As := []) (wr := []) (st := []) F (c_X4_readStreet G hl hbt (p := re) hre hn9 (show m < 15 by omega) hDok.1.2.2.2.1 hDok.2.1 (fun l h => by rw [hDok.2.1 l h]; exact bsd_lt hDok.1 0 l)) kwX4_readStreet tw_368 tw_7 tw_366 ⟨Nat.le_of_ble_eq_true rfl, Nat.le_of_ble_eq_true rfl, rfl, rfl, Nat.le_of_ble_eq_true rfl, Nat.le_of_ble_eq_true rfl⟩ [0, 1, 2, 3, 4, 5, 6, 7] [] rfl rfl rfl rfl rfl rfl rfl rfl rfl (Nat.le_of_ble_eq_true rfl) dX4_readItem_66 rfl ?_
          rintro r_ w_ ⟨pl3, re3, so3, va3, (⟨rfl, hlm, rfl⟩ | ⟨a3, b3, rfl, hlm, rfl⟩)⟩
          · skip
            refine j_w (w' := [(r0, .inr (4, [.ref u0, .int (nI pl3), .ref x0, .int (nI re3), .int (nI so3), .int va3])), (x0, .inr (5, [.ref x1, .int (nI ln)])), (x1, .inl (G.2.2.1, 200, .inl (nF bt))), (u0, .inr (6, [.int (nI n), .int (nI m), .int (nI t), .ref u1, .ref u2, .ref u3, .ref u4])), (u1, .inl (G.2.2.1, 9, .inl (nF ru))), (u2, .inl (G.2.2.1, 15, .inl (nF la))), (u3, .inl (G.2.2.1, 15, .inl (nF lb))), (u4, .inl (G.2.2.1, 9, .inl (nF ro)))]) [0, 1, 2, 3, 4, 5, 6, 7] rfl rfl ?_
            show Jw G X _ 0 0 69 _ [.int (nI 0)] _
            refine j_if_eq (q := 72) (t := 76) F (ct (by decide)) dX4_readItem_69 rfl rfl (fun _ => ?_) (fun z => absurd trivial z)
            refine j_iconst (q := 77) (v := nI 0) F (by decide) dX4_readItem_76 rfl ?_
            exact j_zret (w2 := [(r0, .inr (4, [.ref u0, .int (nI pl3), .ref x0, .int (nI re3), .int (nI so3), .int va3])), (x0, .inr (5, [.ref x1, .int (nI ln)])), (x1, .inl (G.2.2.1, 200, .inl (nF bt))), (u0, .inr (6, [.int (nI n), .int (nI m), .int (nI t), .ref u1, .ref u2, .ref u3, .ref u4])), (u1, .inl (G.2.2.1, 9, .inl (nF ru))), (u2, .inl (G.2.2.1, 15, .inl (nF la))), (u3, .inl (G.2.2.1, 15, .inl (nF lb))), (u4, .inl (G.2.2.1, 9, .inl (nF ro)))]) F R0 rfl rfl [0, 1, 2, 3, 4, 5, 6, 7] rfl rfl (⟨_, _, _, _, Or.inl ⟨rfl, stp_sf hks.1 (by omega) (hks.2 ▸ hlm), rfl⟩⟩) dX4_readItem_77
          · skip
            refine j_w (w' := [(r0, .inr (4, [.ref u0, .int (nI pl3), .ref x0, .int (nI re3), .int (nI so3), .int va3])), (x0, .inr (5, [.ref x1, .int (nI ln)])), (x1, .inl (G.2.2.1, 200, .inl (nF bt))), (u0, .inr (6, [.int (nI n), .int (nI (m + 1)), .int (nI t), .ref u1, .ref u2, .ref u3, .ref u4])), (u1, .inl (G.2.2.1, 9, .inl (nF ru))), (u2, .inl (G.2.2.1, 15, .inl (nF (va_up la m (min a3 b3))))), (u3, .inl (G.2.2.1, 15, .inl (nF (va_up lb m (max a3 b3))))), (u4, .inl (G.2.2.1, 9, .inl (nF (va_up (va_up ro a3 (ro a3 ||| 2 ^ b3)) b3 (va_up ro a3 (ro a3 ||| 2 ^ b3) b3 ||| 2 ^ a3)))))]) [0, 1, 2, 3, 4, 5, 6, 7] rfl rfl ?_
            show Jw G X _ 0 0 69 _ [.int (nI 1)] _
            have hin3 := strF_in hre hlm
            refine j_if_eq (q := 72) (t := 76) F (cf (by decide)) dX4_readItem_69 rfl rfl (fun z => False.elim z) (fun _ => ?_)
            refine j_iconst (q := 73) (v := nI 1) F (by decide) dX4_readItem_72 rfl ?_
            refine j_goto (t := 77) F dX4_readItem_73 rfl ?_
            exact j_zret (w2 := [(r0, .inr (4, [.ref u0, .int (nI pl3), .ref x0, .int (nI re3), .int (nI so3), .int va3])), (x0, .inr (5, [.ref x1, .int (nI ln)])), (x1, .inl (G.2.2.1, 200, .inl (nF bt))), (u0, .inr (6, [.int (nI n), .int (nI (m + 1)), .int (nI t), .ref u1, .ref u2, .ref u3, .ref u4])), (u1, .inl (G.2.2.1, 9, .inl (nF ru))), (u2, .inl (G.2.2.1, 15, .inl (nF (va_up la m (min a3 b3))))), (u3, .inl (G.2.2.1, 15, .inl (nF (va_up lb m (max a3 b3))))), (u4, .inl (G.2.2.1, 9, .inl (nF (va_up (va_up ro a3 (ro a3 ||| 2 ^ b3)) b3 (va_up ro a3 (ro a3 ||| 2 ^ b3) b3 ||| 2 ^ a3)))))]) F R0 rfl rfl [0, 1, 2, 3, 4, 5, 6, 7] rfl rfl (⟨_, _, _, _, Or.inr ⟨_, _, _, _, _, _, _, rfl, stp_sk hks.1 (by omega) (hks.2 ▸ hlm), hDok.street (by omega) hin3.1 hin3.2.1 hin3.2.2.1 hin3.2.2.2.1, by omega, by omega, rfl⟩⟩) dX4_readItem_77
    · skip
      have hkl := ctl hct c1 cl
      refine j_aload_n (q := 20) (i0 := 0) F rfl dX4_readItem_19 rfl ?_
      refine j_get (q := 23) (ci := 4) (q0 := 0) (kf := 0) (v := .ref u0) F inX4 rfl rfl rfl tw_128 rfl rfl dX4_readItem_20 rfl ?_
      refine j_get (q := 26) (ci := 6) (q0 := 3) (kf := 0) (v := .int (nI n)) F inX6 rfl rfl rfl tw_88 rfl rfl dX4_readItem_23 rfl ?_
      refine j_bipush (q := 28) (v := nI 9) F (by decide) dX4_readItem_26 rfl ?_
      refine j_icmp_ge (q := 31) (t := 42) F (Pp := 9 ≤ n) (nI_leI (by omega) (by omega)) dX4_readItem_28 rfl rfl (fun c9 => ?_) (fun c9 => ?_)
      · skip
        refine j_iconst (q := 43) (v := nI 0) F (by decide) dX4_readItem_42 rfl ?_
        exact j_zret (w2 := [(r0, .inr (4, [.ref u0, .int (nI (sk bt ln p)), .ref x0, .int (nI re), .int (nI so), .int va])), (x0, .inr (5, [.ref x1, .int (nI ln)])), (x1, .inl (G.2.2.1, 200, .inl (nF bt))), (u0, .inr (6, [.int (nI n), .int (nI m), .int (nI t), .ref u1, .ref u2, .ref u3, .ref u4])), (u1, .inl (G.2.2.1, 9, .inl (nF ru))), (u2, .inl (G.2.2.1, 15, .inl (nF la))), (u3, .inl (G.2.2.1, 15, .inl (nF lb))), (u4, .inl (G.2.2.1, 9, .inl (nF ro)))]) F R0 rfl rfl [0, 1, 2, 3, 4, 5, 6, 7] rfl rfl (⟨_, _, _, _, Or.inl ⟨rfl, stp_l9 hkl.1 (by omega), rfl⟩⟩) dX4_readItem_43
      · skip
        refine j_aload_n (q := 32) (i0 := 0) F rfl dX4_readItem_31 rfl ?_
        refine j_callV (q := 35) (ci := 4) (q0 := 0) (As := []) (wr := []) (st := []) F (c_X4_readLamp G hl hbt (p := re) hre (show n < 9 by omega)) kwX4_readLamp tw_352 tw_4 tw_350 ⟨Nat.le_of_ble_eq_true rfl, Nat.le_of_ble_eq_true rfl, rfl, rfl, Nat.le_of_ble_eq_true rfl, Nat.le_of_ble_eq_true rfl⟩ [0, 1, 2, 3, 4, 5, 6, 7] [] rfl rfl rfl rfl rfl rfl rfl rfl rfl (Nat.le_of_ble_eq_true rfl) dX4_readItem_32 rfl ?_
        rintro r_ w_ ⟨pl3, re3, so3, va3, (⟨rfl, hlm, rfl⟩ | ⟨a3, b3, rfl, hlm, rfl⟩)⟩
        · skip
          refine j_w (w' := [(r0, .inr (4, [.ref u0, .int (nI pl3), .ref x0, .int (nI re3), .int (nI so3), .int va3])), (x0, .inr (5, [.ref x1, .int (nI ln)])), (x1, .inl (G.2.2.1, 200, .inl (nF bt))), (u0, .inr (6, [.int (nI n), .int (nI m), .int (nI t), .ref u1, .ref u2, .ref u3, .ref u4])), (u1, .inl (G.2.2.1, 9, .inl (nF ru))), (u2, .inl (G.2.2.1, 15, .inl (nF la))), (u3, .inl (G.2.2.1, 15, .inl (nF lb))), (u4, .inl (G.2.2.1, 9, .inl (nF ro)))]) [0, 1, 2, 3, 4, 5, 6, 7] rfl rfl ?_
          show Jw G X _ 0 0 35 _ [.int (nI 0)] _
          refine j_if_eq (q := 38) (t := 42) F (ct (by decide)) dX4_readItem_35 rfl rfl (fun _ => ?_) (fun z => absurd trivial z)
          refine j_iconst (q := 43) (v := nI 0) F (by decide) dX4_readItem_42 rfl ?_
          exact j_zret (w2 := [(r0, .inr (4, [.ref u0, .int (nI pl3), .ref x0, .int (nI re3), .int (nI so3), .int va3])), (x0, .inr (5, [.ref x1, .int (nI ln)])), (x1, .inl (G.2.2.1, 200, .inl (nF bt))), (u0, .inr (6, [.int (nI n), .int (nI m), .int (nI t), .ref u1, .ref u2, .ref u3, .ref u4])), (u1, .inl (G.2.2.1, 9, .inl (nF ru))), (u2, .inl (G.2.2.1, 15, .inl (nF la))), (u3, .inl (G.2.2.1, 15, .inl (nF lb))), (u4, .inl (G.2.2.1, 9, .inl (nF ro)))]) F R0 rfl rfl [0, 1, 2, 3, 4, 5, 6, 7] rfl rfl (⟨_, _, _, _, Or.inl ⟨rfl, stp_lf hkl.1 (by omega) (hkl.2 ▸ hlm), rfl⟩⟩) dX4_readItem_43
        · skip
          refine j_w (w' := [(r0, .inr (4, [.ref u0, .int (nI pl3), .ref x0, .int (nI re3), .int (nI so3), .int va3])), (x0, .inr (5, [.ref x1, .int (nI ln)])), (x1, .inl (G.2.2.1, 200, .inl (nF bt))), (u0, .inr (6, [.int (nI (n + 1)), .int (nI m), .int (nI (t ||| b3 * 2 ^ n)), .ref u1, .ref u2, .ref u3, .ref u4])), (u1, .inl (G.2.2.1, 9, .inl (nF (va_up ru n a3)))), (u2, .inl (G.2.2.1, 15, .inl (nF la))), (u3, .inl (G.2.2.1, 15, .inl (nF lb))), (u4, .inl (G.2.2.1, 9, .inl (nF ro)))]) [0, 1, 2, 3, 4, 5, 6, 7] rfl rfl ?_
          show Jw G X _ 0 0 35 _ [.int (nI 1)] _
          have hin3 := lmpF_in hre hlm
          refine j_if_eq (q := 38) (t := 42) F (cf (by decide)) dX4_readItem_35 rfl rfl (fun z => False.elim z) (fun _ => ?_)
          refine j_iconst (q := 39) (v := nI 1) F (by decide) dX4_readItem_38 rfl ?_
          refine j_goto (t := 43) F dX4_readItem_39 rfl ?_
          exact j_zret (w2 := [(r0, .inr (4, [.ref u0, .int (nI pl3), .ref x0, .int (nI re3), .int (nI so3), .int va3])), (x0, .inr (5, [.ref x1, .int (nI ln)])), (x1, .inl (G.2.2.1, 200, .inl (nF bt))), (u0, .inr (6, [.int (nI (n + 1)), .int (nI m), .int (nI (t ||| b3 * 2 ^ n)), .ref u1, .ref u2, .ref u3, .ref u4])), (u1, .inl (G.2.2.1, 9, .inl (nF (va_up ru n a3)))), (u2, .inl (G.2.2.1, 15, .inl (nF la))), (u3, .inl (G.2.2.1, 15, .inl (nF lb))), (u4, .inl (G.2.2.1, 9, .inl (nF ro)))]) F R0 rfl rfl [0, 1, 2, 3, 4, 5, 6, 7] rfl rfl (⟨_, _, _, _, Or.inr ⟨_, _, _, _, _, _, _, rfl, stp_lk hkl.1 (by omega) (hkl.2 ▸ hlm), hDok.lamp (by omega) hin3.1 hin3.2.1, by omega, by omega, rfl⟩⟩) dX4_readItem_43
  · skip
    refine j_iconst (q := 9) (v := nI 0) F (by decide) dX4_readItem_8 rfl ?_
    exact j_zret (w2 := [(r0, .inr (4, [.ref u0, .int (nI (sk bt ln p)), .ref x0, .int (nI re), .int (nI so), .int va])), (x0, .inr (5, [.ref x1, .int (nI ln)])), (x1, .inl (G.2.2.1, 200, .inl (nF bt))), (u0, .inr (6, [.int (nI n), .int (nI m), .int (nI t), .ref u1, .ref u2, .ref u3, .ref u4])), (u1, .inl (G.2.2.1, 9, .inl (nF ru))), (u2, .inl (G.2.2.1, 15, .inl (nF la))), (u3, .inl (G.2.2.1, 15, .inl (nF lb))), (u4, .inl (G.2.2.1, 9, .inl (nF ro)))]) F R0 rfl rfl [0, 1, 2, 3, 4, 5, 6, 7] rfl rfl (⟨_, _, _, _, Or.inl ⟨rfl, stp_x (ctLn hct c1 hk0).1 (ctLn hct c1 hk0).2, rfl⟩⟩) dX4_readItem_9

set_option maxHeartbeats 4000000 in
set_option maxRecDepth 100000 in
theorem c_X4_read (G : Gm) {r0 u0 u1 u2 u3 u4 x0 x1 ln pl so re n m t : Nat} {va : Int32} {bt ru la lb ro : Nat → Nat} (hl : ln ≤ 200) (hbt : ∀ i, i < ln → bt i < 256) : Mg G yX4_read cX4_read 2 (some .boolean) ({ frames := 6, cells := 0, slots := 0, locals := 127 } : Room) 0 0 [.ref r0] [(r0, .inr (4, [.ref u0, .int (nI pl), .ref x0, .int (nI re), .int (nI so), .int va])), (x0, .inr (5, [.ref x1, .int (nI ln)])), (x1, .inl (G.2.2.1, 200, .inl (nF bt))), (u0, .inr (6, [.int (nI n), .int (nI m), .int (nI t), .ref u1, .ref u2, .ref u3, .ref u4])), (u1, .inl (G.2.2.1, 9, .inl (nF ru))), (u2, .inl (G.2.2.1, 15, .inl (nF la))), (u3, .inl (G.2.2.1, 15, .inl (nF lb))), (u4, .inl (G.2.2.1, 9, .inl (nF ro)))] (fun r w2 => ∃ pl2 p2 re2 so2 va2 n2 m2 t2 ru2 la2 lb2 ro2, w2 = [(r0, .inr (4, [.ref u0, .int (nI pl2), .ref x0, .int (nI re2), .int (nI so2), .int va2])), (x0, .inr (5, [.ref x1, .int (nI ln)])), (x1, .inl (G.2.2.1, 200, .inl (nF bt))), (u0, .inr (6, [.int (nI n2), .int (nI m2), .int (nI t2), .ref u1, .ref u2, .ref u3, .ref u4])), (u1, .inl (G.2.2.1, 9, .inl (nF ru2))), (u2, .inl (G.2.2.1, 15, .inl (nF la2))), (u3, .inl (G.2.2.1, 15, .inl (nF lb2))), (u4, .inl (G.2.2.1, 9, .inl (nF ro2)))] ∧ ((r = some (.int (nI 0)) ∧ prs bt ln 201 (0, 0, 0, 0, ru, la, lb) = .inl pl2) ∨ (r = some (.int (nI 1)) ∧ prs bt ln 201 (0, 0, 0, 0, ru, la, lb) = .inr (p2, n2, m2, t2, ru2, la2, lb2) ∧ Dok n2 m2 t2 ru2 la2 lb2 ro2))) := by
  refine Mg.mk (lv := [(0, .ref r0)]) (by decide) rfl rfl (fun X F R0 => ?_)
  refine j_aload_n (q := 1) (i0 := 0) F rfl dX4_read_0 rfl ?_
  refine j_iconst (q := 2) (v := nI 0) F (by decide) dX4_read_1 rfl ?_
  refine j_put (q := 5) (ci := 4) (q0 := 0) (kf := 3) (v := .int (nI 0)) (w' := [(r0, .inr (4, [.ref u0, .int (nI pl), .ref x0, .int (nI 0), .int (nI so), .int va])), (x0, .inr (5, [.ref x1, .int (nI ln)])), (x1, .inl (G.2.2.1, 200, .inl (nF bt))), (u0, .inr (6, [.int (nI n), .int (nI m), .int (nI t), .ref u1, .ref u2, .ref u3, .ref u4])), (u1, .inl (G.2.2.1, 9, .inl (nF ru))), (u2, .inl (G.2.2.1, 15, .inl (nF la))), (u3, .inl (G.2.2.1, 15, .inl (nF lb))), (u4, .inl (G.2.2.1, 9, .inl (nF ro)))]) F inX4 tyX4_ok nmX4 rfl rfl rfl tw_133 rfl rfl rfl rfl rfl rfl dX4_read_2 rfl ?_
  refine j_aload_n (q := 6) (i0 := 0) F rfl dX4_read_5 rfl ?_
  refine j_get (q := 9) (ci := 4) (q0 := 0) (kf := 0) (v := .ref u0) F inX4 rfl rfl rfl tw_128 rfl rfl dX4_read_6 rfl ?_
  refine j_callV (q := 12) (ci := 6) (q0 := 0) (As := []) (wr := [(r0, .inr (4, [.ref u0, .int (nI pl), .ref x0, .int (nI 0), .int (nI so), .int va])), (x0, .inr (5, [.ref x1, .int (nI ln)])), (x1, .inl (G.2.2.1, 200, .inl (nF bt))), (u1, .inl (G.2.2.1, 9, .inl (nF ru))), (u2, .inl (G.2.2.1, 15, .inl (nF la))), (u3, .inl (G.2.2.1, 15, .inl (nF lb)))]) (st := []) F (c_X6_empty G) kwX6_empty tw_315 tw_316 tw_314 ⟨Nat.le_of_ble_eq_true rfl, Nat.le_of_ble_eq_true rfl, rfl, rfl, Nat.le_of_ble_eq_true rfl, Nat.le_of_ble_eq_true rfl⟩ [3, 7] [0, 1, 2, 4, 5, 6] rfl rfl rfl rfl rfl rfl rfl rfl rfl (Nat.le_of_ble_eq_true rfl) dX4_read_9 rfl ?_
  rintro r_ w_ ⟨rfl, rfl⟩
  refine j_w (w' := [(r0, .inr (4, [.ref u0, .int (nI pl), .ref x0, .int (nI 0), .int (nI so), .int va])), (x0, .inr (5, [.ref x1, .int (nI ln)])), (x1, .inl (G.2.2.1, 200, .inl (nF bt))), (u0, .inr (6, [.int (nI 0), .int (nI 0), .int (nI 0), .ref u1, .ref u2, .ref u3, .ref u4])), (u1, .inl (G.2.2.1, 9, .inl (nF ru))), (u2, .inl (G.2.2.1, 15, .inl (nF la))), (u3, .inl (G.2.2.1, 15, .inl (nF lb))), (u4, .inl (G.2.2.1, 9, .inl (nF (fillN ro 0 9))))]) [0, 1, 2, 6, 3, 4, 5, 7] rfl rfl ?_
  show Jw G X _ 0 0 12 _ [] _
  refine j_iconst (q := 13) (v := nI 0) F (by decide) dX4_read_12 rfl ?_
  refine j_istore_n (q := 14) (lv' := [(1, .int (nI 0)), (0, .ref r0)]) F dX4_read_13 (by decide) rfl rfl ?_
  have lp1 : ∀ (fu : Nat) (k : Nat) (p1 : Nat) (n1 : Nat) (m1 : Nat) (s1 : Nat) (ru1 : Nat → Nat) (la1 : Nat → Nat) (lb1 : Nat → Nat) (ro1 : Nat → Nat) (pl1 : Nat) (so1 : Nat) (va1 : Int32) (hkp : k ≤ p1) (hp1 : p1 ≤ ln) (hD1 : Dok n1 m1 s1 ru1 la1 lb1 ro1) (hpr : prs bt ln (201 - k) (p1, n1, m1, s1, ru1, la1, lb1) = prs bt ln 201 (0, 0, 0, 0, ru, la, lb)), (201 - k) < fu → Jw G X 2 0 0 14 [(0, .ref r0), (1, .int (nI k))] [] [(r0, .inr (4, [.ref u0, .int (nI pl1), .ref x0, .int (nI p1), .int (nI so1), .int va1])), (x0, .inr (5, [.ref x1, .int (nI ln)])), (x1, .inl (G.2.2.1, 200, .inl (nF bt))), (u0, .inr (6, [.int (nI n1), .int (nI m1), .int (nI s1), .ref u1, .ref u2, .ref u3, .ref u4])), (u1, .inl (G.2.2.1, 9, .inl (nF ru1))), (u2, .inl (G.2.2.1, 15, .inl (nF la1))), (u3, .inl (G.2.2.1, 15, .inl (nF lb1))), (u4, .inl (G.2.2.1, 9, .inl (nF ro1)))] := by
    intro fu
    induction fu with
    | zero => intro k p1 n1 m1 s1 ru1 la1 lb1 ro1 pl1 so1 va1 hkp hp1 hD1 hpr hfu; exact absurd hfu (Nat.not_lt_zero _)
    | succ fu ih1 =>
      intro k p1 n1 m1 s1 ru1 la1 lb1 ro1 pl1 so1 va1 hkp hp1 hD1 hpr hfu
      have hfu2 : 201 - k = (200 - k) + 1 := by omega
      rw [hfu2] at hpr
      refine j_iload_n (q := 15) (i0 := 1) F rfl dX4_read_14 rfl ?_
      refine j_sipush (q := 18) (v := nI 200) F (by decide) dX4_read_15 rfl ?_
      refine j_icmp_gt (q := 21) (t := 49) F (Pp := 200 < k) (nI_ltI (by omega) (by omega)) dX4_read_18 rfl rfl (fun c2 => ?_) (fun c2 => ?_)
      · exact absurd c2 (by omega)
      · skip
        refine j_aload_n (q := 22) (i0 := 0) F rfl dX4_read_21 rfl ?_
        refine j_callV (q := 25) (ci := 4) (q0 := 0) (As := []) (wr := [(u0, .inr (6, [.int (nI n1), .int (nI m1), .int (nI s1), .ref u1, .ref u2, .ref u3, .ref u4])), (u1, .inl (G.2.2.1, 9, .inl (nF ru1))), (u2, .inl (G.2.2.1, 15, .inl (nF la1))), (u3, .inl (G.2.2.1, 15, .inl (nF lb1))), (u4, .inl (G.2.2.1, 9, .inl (nF ro1)))]) (st := []) F (c_X4_nextToken G hl hbt (p := p1) (hp1)) kwX4_nextToken tw_323 tw_0 tw_321 ⟨Nat.le_of_ble_eq_true rfl, Nat.le_of_ble_eq_true rfl, rfl, rfl, Nat.le_of_ble_eq_true rfl, Nat.le_of_ble_eq_true rfl⟩ [0, 1, 2] [3, 4, 5, 6, 7] rfl rfl rfl rfl rfl rfl rfl rfl rfl (Nat.le_of_ble_eq_true rfl) dX4_read_22 rfl ?_
        rintro r_ w_ ⟨so2, va2, re2, hct, hre, rfl, rfl⟩
        refine j_w (w' := [(r0, .inr (4, [.ref u0, .int (nI (sk bt ln p1)), .ref x0, .int (nI re2), .int (nI so2), .int va2])), (x0, .inr (5, [.ref x1, .int (nI ln)])), (x1, .inl (G.2.2.1, 200, .inl (nF bt))), (u0, .inr (6, [.int (nI n1), .int (nI m1), .int (nI s1), .ref u1, .ref u2, .ref u3, .ref u4])), (u1, .inl (G.2.2.1, 9, .inl (nF ru1))), (u2, .inl (G.2.2.1, 15, .inl (nF la1))), (u3, .inl (G.2.2.1, 15, .inl (nF lb1))), (u4, .inl (G.2.2.1, 9, .inl (nF ro1)))]) [5, 6, 7, 0, 1, 2, 3, 4] rfl rfl ?_
        show Jw G X _ 0 0 25 _ [] _
        refine j_aload_n (q := 26) (i0 := 0) F rfl dX4_read_25 rfl ?_
        refine j_get (q := 29) (ci := 4) (q0 := 0) (kf := 4) (v := .int (nI so2)) F inX4 rfl rfl rfl tw_134 rfl rfl dX4_read_26 rfl ?_
        refine j_if_ne (q := 32) (t := 34) F (Pp := so2 = 0) (nI_eq0 (by have := hct.so_le; omega)) dX4_read_29 rfl rfl (fun c0 => ?_) (fun c0 => ?_)
        · skip
          have hk0 : ¬ tK bt ln p1 = 0 := fun z => c0 ((ctE hct).mpr z)
          refine j_aload_n (q := 35) (i0 := 0) F rfl dX4_read_34 rfl ?_
          refine j_callV (q := 38) (ci := 4) (q0 := 0) (As := []) (wr := []) (st := []) F (c_X4_readItem G hl hbt (p := p1) hp1 hre hD1 hct hk0) kwX4_readItem tw_348 tw_3 tw_346 ⟨Nat.le_of_ble_eq_true rfl, Nat.le_of_ble_eq_true rfl, rfl, rfl, Nat.le_of_ble_eq_true rfl, Nat.le_of_ble_eq_true rfl⟩ [0, 1, 2, 3, 4, 5, 6, 7] [] rfl rfl rfl rfl rfl rfl rfl rfl rfl (Nat.le_of_ble_eq_true rfl) dX4_read_35 rfl ?_
          rintro r_ w_ ⟨pl3, re3, so3, va3, (⟨rfl, hst, rfl⟩ | ⟨n2, m2, t2, ru2, la2, lb2, ro2, rfl, hst, hD2, hlt, hle, rfl⟩)⟩
          · skip
            refine j_w (w' := [(r0, .inr (4, [.ref u0, .int (nI pl3), .ref x0, .int (nI re3), .int (nI so3), .int va3])), (x0, .inr (5, [.ref x1, .int (nI ln)])), (x1, .inl (G.2.2.1, 200, .inl (nF bt))), (u0, .inr (6, [.int (nI n1), .int (nI m1), .int (nI s1), .ref u1, .ref u2, .ref u3, .ref u4])), (u1, .inl (G.2.2.1, 9, .inl (nF ru1))), (u2, .inl (G.2.2.1, 15, .inl (nF la1))), (u3, .inl (G.2.2.1, 15, .inl (nF lb1))), (u4, .inl (G.2.2.1, 9, .inl (nF ro1)))]) [0, 1, 2, 3, 4, 5, 6, 7] rfl rfl ?_
            show Jw G X _ 0 0 38 _ [.int (nI 0)] _
            refine j_if_ne (q := 41) (t := 43) F (ct (by decide)) dX4_read_38 rfl rfl (fun z => absurd trivial z) (fun _ => ?_)
            refine j_iconst (q := 42) (v := nI 0) F (by decide) dX4_read_41 rfl ?_
            exact j_zret (w2 := [(r0, .inr (4, [.ref u0, .int (nI pl3), .ref x0, .int (nI re3), .int (nI so3), .int va3])), (x0, .inr (5, [.ref x1, .int (nI ln)])), (x1, .inl (G.2.2.1, 200, .inl (nF bt))), (u0, .inr (6, [.int (nI n1), .int (nI m1), .int (nI s1), .ref u1, .ref u2, .ref u3, .ref u4])), (u1, .inl (G.2.2.1, 9, .inl (nF ru1))), (u2, .inl (G.2.2.1, 15, .inl (nF la1))), (u3, .inl (G.2.2.1, 15, .inl (nF lb1))), (u4, .inl (G.2.2.1, 9, .inl (nF ro1)))]) F R0 rfl rfl [0, 1, 2, 3, 4, 5, 6, 7] rfl rfl (⟨_, 0, _, _, _, _, _, _, _, _, _, _, rfl, Or.inl ⟨rfl, hpr.symm.trans (prs_f hk0 hst)⟩⟩) dX4_read_42
          · skip
            refine j_w (w' := [(r0, .inr (4, [.ref u0, .int (nI pl3), .ref x0, .int (nI re3), .int (nI so3), .int va3])), (x0, .inr (5, [.ref x1, .int (nI ln)])), (x1, .inl (G.2.2.1, 200, .inl (nF bt))), (u0, .inr (6, [.int (nI n2), .int (nI m2), .int (nI t2), .ref u1, .ref u2, .ref u3, .ref u4])), (u1, .inl (G.2.2.1, 9, .inl (nF ru2))), (u2, .inl (G.2.2.1, 15, .inl (nF la2))), (u3, .inl (G.2.2.1, 15, .inl (nF lb2))), (u4, .inl (G.2.2.1, 9, .inl (nF ro2)))]) [0, 1, 2, 3, 4, 5, 6, 7] rfl rfl ?_
            show Jw G X _ 0 0 38 _ [.int (nI 1)] _
            refine j_if_ne (q := 41) (t := 43) F (cf (by decide)) dX4_read_38 rfl rfl (fun _ => ?_) (fun z => False.elim z)
            refine j_iinc (q := 46) (i0 := 1) (v := nI (k + 1)) (lv' := [(1, .int (nI (k + 1))), (0, .ref r0)]) F dX4_read_43 rfl (nI_add _ _) (by decide) rfl rfl ?_
            refine j_goto (t := 14) F dX4_read_46 rfl ?_
            refine j_lv [1, 0] (lv' := [(0, .ref r0), (1, .int (nI (k + 1)))]) rfl ?_
            exact ih1 (k + 1) re3 n2 m2 t2 ru2 la2 lb2 ro2 pl3 so3 va3 (by omega) (by omega) hD2 (by rw [← hpr, prs_s hk0 hst, show 201 - (k + 1) = 200 - k by omega]) (by omega)
        · skip
          refine j_iconst (q := 33) (v := nI 1) F (by decide) dX4_read_32 rfl ?_
          exact j_zret (w2 := [(r0, .inr (4, [.ref u0, .int (nI (sk bt ln p1)), .ref x0, .int (nI re2), .int (nI so2), .int va2])), (x0, .inr (5, [.ref x1, .int (nI ln)])), (x1, .inl (G.2.2.1, 200, .inl (nF bt))), (u0, .inr (6, [.int (nI n1), .int (nI m1), .int (nI s1), .ref u1, .ref u2, .ref u3, .ref u4])), (u1, .inl (G.2.2.1, 9, .inl (nF ru1))), (u2, .inl (G.2.2.1, 15, .inl (nF la1))), (u3, .inl (G.2.2.1, 15, .inl (nF lb1))), (u4, .inl (G.2.2.1, 9, .inl (nF ro1)))]) F R0 rfl rfl [0, 1, 2, 3, 4, 5, 6, 7] rfl rfl (⟨_, _, _, _, _, _, _, _, _, _, _, _, rfl, Or.inr ⟨rfl, hpr.symm.trans (prs_e ((ctE hct).mp c0)), hD1⟩⟩) dX4_read_33
  refine j_lv [1, 0] (lv' := [(0, .ref r0), (1, .int (nI 0))]) rfl ?_
  exact lp1 _ 0 0 0 0 0 ru la lb _ pl so va (Nat.le_refl 0) (Nat.zero_le ln) (Dok.z ru la lb ro) rfl (Nat.lt_succ_self _)

