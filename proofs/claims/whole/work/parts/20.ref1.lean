theorem mul_b {a l : Nat} (ha : a ≤ 1) (hl : l < 9) : a * 2 ^ l < 2 ^ 32 := by
  have h : 2 ^ l < 2 ^ 9 := Nat.pow_lt_pow_right (by decide) hl
  rcases (show a = 0 ∨ a = 1 by omega) with rfl | rfl <;> omega
theorem cpy_s (pa : Nat → Nat) (i : Nat) : va_up (va_cpy pa pa 4 0 i) i (pa (i + 4)) = va_cpy pa pa 4 0 (i + 1) := by
  funext j
  unfold va_up va_cpy
  by_cases h : j = i
  · subst h
    rw [if_pos rfl, if_pos (by omega)]
    congr 1
    omega
  · rw [if_neg h]
    by_cases h2 : j < i
    · rw [if_pos (by omega), if_pos (by omega)]
    · rw [if_neg (by omega), if_neg (by omega)]
theorem cpy_0 (pa : Nat → Nat) : va_cpy pa pa 4 0 0 = pa := by
  funext j
  unfold va_cpy
  rw [if_neg (by omega)]
theorem se_ge {f : Nat → Nat} {s b : Nat} {wh : Nat → Int32} (h : SeOk f s b wh) (hl : it f b s < 512) (hb : b ≤ 1000) : 0 ≤ wh (it f b s) ↔ ¬ wh (it f b s) = -1 := by
  rcases h.1 _ hl with h1 | ⟨i, hi, h1, h2⟩
  · rw [h1.1]; exact ⟨fun z => absurd z (by decide), fun z => absurd rfl z⟩
  · rw [h1]; exact ⟨fun _ => nI_m1 (by omega), fun _ => nI_pos' (by omega)⟩
set_option maxHeartbeats 4000000 in
set_option maxRecDepth 100000 in
theorem c_in (G : Gm) {v lo hi : Int64}  : Mg G yX8_in cX8_in 6 (some .boolean) ({ frames := 0, cells := 0, slots := 0, locals := 0 } : Room) 0 0 [.long v, .long lo, .long hi] [] (fun r w2 => w2 = [] ∧ ((r = some (.int (nI 1)) ∧ (lo ≤ v ∧ v ≤ hi)) ∨ (r = some (.int (nI 0)) ∧ ¬ (lo ≤ v ∧ v ≤ hi)))) := by
  refine Mg.mk (lv := [(0, .long v), (2, .long lo), (4, .long hi)]) (by decide) rfl rfl (fun X F R0 => ?_)
  refine j_lload_n (q := 1) (i0 := 0) F rfl dX8_in_0 rfl ?_
  refine j_lload_n (q := 2) (i0 := 1) F rfl dX8_in_1 rfl ?_
  refine j_lcmp (q := 3) (v := lg_cmp v lo) F rfl dX8_in_2 rfl ?_
  refine j_if_lt (q := 6) (t := 17) F (Pp := v < lo) (lg_cmp_lt _ _) dX8_in_3 rfl rfl (fun c1 => ?_) (fun c1 => ?_)
  · skip
    refine j_iconst (q := 18) (v := nI 0) F (by decide) dX8_in_17 rfl ?_
    exact j_zret (w2 := []) F R0 rfl rfl [] rfl rfl (⟨rfl, Or.inr ⟨rfl, fun z => Int64.not_le.mpr c1 z.1⟩⟩) dX8_in_18
  · skip
    refine j_lload_n (q := 7) (i0 := 0) F rfl dX8_in_6 rfl ?_
    refine j_lload (q := 9) (i0 := 2) F rfl dX8_in_7 rfl ?_
    refine j_lcmp (q := 10) (v := lg_cmp v hi) F rfl dX8_in_9 rfl ?_
    refine j_if_gt (q := 13) (t := 17) F (Pp := hi < v) (lg_cmp_gt _ _) dX8_in_10 rfl rfl (fun c2 => ?_) (fun c2 => ?_)
    · skip
      refine j_iconst (q := 18) (v := nI 0) F (by decide) dX8_in_17 rfl ?_
      exact j_zret (w2 := []) F R0 rfl rfl [] rfl rfl (⟨rfl, Or.inr ⟨rfl, fun z => Int64.not_le.mpr c2 z.2⟩⟩) dX8_in_18
    · skip
      refine j_iconst (q := 14) (v := nI 1) F (by decide) dX8_in_13 rfl ?_
      refine j_goto (t := 18) F dX8_in_14 rfl ?_
      exact j_zret (w2 := []) F R0 rfl rfl [] rfl rfl (⟨rfl, Or.inl ⟨rfl, Int64.not_lt.mp c1, Int64.not_lt.mp c2⟩⟩) dX8_in_18

theorem c_inR (G : Gm) {x : Int32} {lo Hh : Int64} {n : Nat} (hlo : lo = 0) (hn : n < 2 ^ 31) (hH : Hh.toInt = (n : Int) - 1) : Mg G yX8_in cX8_in 6 (some .boolean) ({ frames := 0, cells := 0, slots := 0, locals := 0 } : Room) 0 0 [.long (Int32.toInt64 x), .long lo, .long Hh] [] (fun r w2 => w2 = [] ∧ ((r = some (.int (nI 1)) ∧ inR x n) ∨ (r = some (.int (nI 0)) ∧ ¬ inR x n))) := (c_in G).imp fun r w2 h => by
  subst hlo
  rw [inL_iff hn hH] at h
  exact h
theorem c_inP (G : Gm) {c a b : Nat} {lo Hh : Int64} (hc : c < 2 ^ 31) (hl : lo.toInt = (a : Int)) (hh : Hh.toInt = (b : Int)) : Mg G yX8_in cX8_in 6 (some .boolean) ({ frames := 0, cells := 0, slots := 0, locals := 0 } : Room) 0 0 [.long (Int32.toInt64 (nI c)), .long lo, .long Hh] [] (fun r w2 => w2 = [] ∧ ((r = some (.int (nI 1)) ∧ (a ≤ c ∧ c ≤ b)) ∨ (r = some (.int (nI 0)) ∧ ¬ (a ≤ c ∧ c ≤ b)))) := (c_in G).imp fun r w2 h => by
  rw [Int64.le_iff_toInt_le, Int64.le_iff_toInt_le, Int32.toInt_toInt64, hl, hh, nI_toInt hc] at h
  have e : ((a : Int) ≤ c ∧ (c : Int) ≤ b) ↔ (a ≤ c ∧ c ≤ b) := by omega
  rw [e] at h
  exact h
set_option maxHeartbeats 4000000 in
set_option maxRecDepth 100000 in
theorem c_X8_isLetter (G : Gm) {c : Nat} (hc : c < 256) : Mg G yX8_isLetter cX8_isLetter 1 (some .boolean) ({ frames := 1, cells := 0, slots := 0, locals := 25 } : Room) 0 0 [.int (nI c)] [] (fun r w2 => w2 = [] ∧ ((r = some (.int (nI 1)) ∧ isL c) ∨ (r = some (.int (nI 0)) ∧ ¬ isL c))) := by
  refine Mg.mk (lv := [(0, .int (nI c))]) (by decide) rfl rfl (fun X F R0 => ?_)
  refine j_iload_n (q := 1) (i0 := 0) F rfl dX8_isLetter_0 rfl ?_
  refine j_i2l (q := 2) (v := Int32.toInt64 (nI c)) F rfl dX8_isLetter_1 rfl ?_
  refine j_ldc2 (q := 5) F tw_769 dX8_isLetter_2 rfl ?_
  refine j_ldc2 (q := 8) F tw_770 dX8_isLetter_5 rfl ?_
  refine j_callS (q := 11) (As := [.long (Int32.toInt64 (nI c)), .long 97, .long 122]) (wr := []) (st := []) F (c_inP G (c := c) (by omega) rfl rfl) kwX8_in tw_752 tw_751 ⟨Nat.le_of_ble_eq_true rfl, Nat.le_of_ble_eq_true rfl, rfl, rfl, Nat.le_of_ble_eq_true rfl, Nat.le_of_ble_eq_true rfl⟩ [] [] rfl rfl rfl rfl rfl rfl rfl (Nat.le_of_ble_eq_true rfl) dX8_isLetter_8 rfl ?_
  rintro r_ w_ ⟨rfl, (⟨rfl, h1⟩ | ⟨rfl, h1⟩)⟩
  · skip
    refine j_w (w' := []) [] rfl rfl ?_
    show Jw G X _ 0 0 11 _ [.int (nI 1)] _
    exact j_zret (w2 := []) F R0 rfl rfl [] rfl rfl (⟨rfl, Or.inl ⟨rfl, h1⟩⟩) dX8_isLetter_11
  · skip
    refine j_w (w' := []) [] rfl rfl ?_
    show Jw G X _ 0 0 11 _ [.int (nI 0)] _
    exact j_zret (w2 := []) F R0 rfl rfl [] rfl rfl (⟨rfl, Or.inr ⟨rfl, h1⟩⟩) dX8_isLetter_11

set_option maxHeartbeats 4000000 in
set_option maxRecDepth 100000 in
theorem c_X8_isFigure (G : Gm) {c : Nat} (hc : c < 256) : Mg G yX8_isFigure cX8_isFigure 1 (some .boolean) ({ frames := 1, cells := 0, slots := 0, locals := 25 } : Room) 0 0 [.int (nI c)] [] (fun r w2 => w2 = [] ∧ ((r = some (.int (nI 1)) ∧ isD c) ∨ (r = some (.int (nI 0)) ∧ ¬ isD c))) := by
  refine Mg.mk (lv := [(0, .int (nI c))]) (by decide) rfl rfl (fun X F R0 => ?_)
  refine j_iload_n (q := 1) (i0 := 0) F rfl dX8_isFigure_0 rfl ?_
  refine j_i2l (q := 2) (v := Int32.toInt64 (nI c)) F rfl dX8_isFigure_1 rfl ?_
  refine j_ldc2 (q := 5) F tw_778 dX8_isFigure_2 rfl ?_
  refine j_ldc2 (q := 8) F tw_779 dX8_isFigure_5 rfl ?_
  refine j_callS (q := 11) (As := [.long (Int32.toInt64 (nI c)), .long 48, .long 57]) (wr := []) (st := []) F (c_inP G (c := c) (by omega) rfl rfl) kwX8_in tw_752 tw_751 ⟨Nat.le_of_ble_eq_true rfl, Nat.le_of_ble_eq_true rfl, rfl, rfl, Nat.le_of_ble_eq_true rfl, Nat.le_of_ble_eq_true rfl⟩ [] [] rfl rfl rfl rfl rfl rfl rfl (Nat.le_of_ble_eq_true rfl) dX8_isFigure_8 rfl ?_
  rintro r_ w_ ⟨rfl, (⟨rfl, h1⟩ | ⟨rfl, h1⟩)⟩
  · skip
    refine j_w (w' := []) [] rfl rfl ?_
    show Jw G X _ 0 0 11 _ [.int (nI 1)] _
    exact j_zret (w2 := []) F R0 rfl rfl [] rfl rfl (⟨rfl, Or.inl ⟨rfl, h1⟩⟩) dX8_isFigure_11
  · skip
    refine j_w (w' := []) [] rfl rfl ?_
    show Jw G X _ 0 0 11 _ [.int (nI 0)] _
    exact j_zret (w2 := []) F R0 rfl rfl [] rfl rfl (⟨rfl, Or.inr ⟨rfl, h1⟩⟩) dX8_isFigure_11

set_option maxHeartbeats 4000000 in
set_option maxRecDepth 100000 in
theorem c_X8_isLamp (G : Gm) {e0 e1 e2 e3 e4 e5 e6 e7 e8 e9 ea eb : Nat} {ln aa bg tk td rl rs rd n m be sd tu fo kn tl rn : Nat}   {tr : Int64} {x : Int32} (hn : n ≤ 9) : Mg G yX8_isLamp cX8_isLamp 2 (some .boolean) ({ frames := 1, cells := 0, slots := 0, locals := 25 } : Room) 0 0 [.ref e0, .int x] [(e0, .inr (8, [.ref e1, .int (nI ln), .int (nI aa), .int (nI bg), .int (nI tk), .int (nI td), .int (nI rl), .int (nI rs), .int (nI rd), .ref e2, .ref e3, .ref e4, .int (nI n), .int (nI m), .ref e5, .ref e6, .ref e7, .int (nI be), .int (nI sd), .int (nI tu), .int (nI fo), .ref e8, .ref e9, .int (nI kn), .int (nI tl), .int (nI rn), .ref ea, .long tr, .ref eb]))] (fun r w2 => w2 = [(e0, .inr (8, [.ref e1, .int (nI ln), .int (nI aa), .int (nI bg), .int (nI tk), .int (nI td), .int (nI rl), .int (nI rs), .int (nI rd), .ref e2, .ref e3, .ref e4, .int (nI n), .int (nI m), .ref e5, .ref e6, .ref e7, .int (nI be), .int (nI sd), .int (nI tu), .int (nI fo), .ref e8, .ref e9, .int (nI kn), .int (nI tl), .int (nI rn), .ref ea, .long tr, .ref eb]))] ∧ ((r = some (.int (nI 1)) ∧ inR x n) ∨ (r = some (.int (nI 0)) ∧ ¬ inR x n))) := by
  refine Mg.mk (lv := [(0, .ref e0), (1, .int x)]) (by decide) rfl rfl (fun X F R0 => ?_)
  refine j_iload_n (q := 1) (i0 := 1) F rfl dX8_isLamp_0 rfl ?_
  refine j_i2l (q := 2) (v := Int32.toInt64 x) F rfl dX8_isLamp_1 rfl ?_
  refine j_lconst (q := 3) (v := 0) F (by decide) dX8_isLamp_2 rfl ?_
  refine j_aload_n (q := 4) (i0 := 0) F rfl dX8_isLamp_3 rfl ?_
  refine j_get (q := 7) (ci := 8) (q0 := 0) (kf := 12) (v := .int (nI n)) F inX8 rfl rfl rfl tw_670 rfl rfl dX8_isLamp_4 rfl ?_
  refine j_iconst (q := 8) (v := nI 1) F (by decide) dX8_isLamp_7 rfl ?_
  refine j_isub (q := 9) (v := nI n - nI 1) F (rfl) dX8_isLamp_8 rfl ?_
  refine j_i2l (q := 10) (v := Int32.toInt64 (nI n - nI 1)) F rfl dX8_isLamp_9 rfl ?_
  refine j_callS (q := 13) (As := [.long (Int32.toInt64 x), .long 0, .long (Int32.toInt64 (nI n - nI 1))]) (wr := [(e0, .inr (8, [.ref e1, .int (nI ln), .int (nI aa), .int (nI bg), .int (nI tk), .int (nI td), .int (nI rl), .int (nI rs), .int (nI rd), .ref e2, .ref e3, .ref e4, .int (nI n), .int (nI m), .ref e5, .ref e6, .ref e7, .int (nI be), .int (nI sd), .int (nI tu), .int (nI fo), .ref e8, .ref e9, .int (nI kn), .int (nI tl), .int (nI rn), .ref ea, .long tr, .ref eb]))]) (st := []) F (c_inR G (x := x) (n := n) rfl (by omega) (inL_c (by omega))) kwX8_in tw_752 tw_751 ⟨Nat.le_of_ble_eq_true rfl, Nat.le_of_ble_eq_true rfl, rfl, rfl, Nat.le_of_ble_eq_true rfl, Nat.le_of_ble_eq_true rfl⟩ [] [0] rfl rfl rfl rfl rfl rfl rfl (Nat.le_of_ble_eq_true rfl) dX8_isLamp_10 rfl ?_
  rintro r_ w_ ⟨rfl, (⟨rfl, h1⟩ | ⟨rfl, h1⟩)⟩
  · skip
    refine j_w (w' := [(e0, .inr (8, [.ref e1, .int (nI ln), .int (nI aa), .int (nI bg), .int (nI tk), .int (nI td), .int (nI rl), .int (nI rs), .int (nI rd), .ref e2, .ref e3, .ref e4, .int (nI n), .int (nI m), .ref e5, .ref e6, .ref e7, .int (nI be), .int (nI sd), .int (nI tu), .int (nI fo), .ref e8, .ref e9, .int (nI kn), .int (nI tl), .int (nI rn), .ref ea, .long tr, .ref eb]))]) [0] rfl rfl ?_
    show Jw G X _ 0 0 13 _ [.int (nI 1)] _
    exact j_zret (w2 := [(e0, .inr (8, [.ref e1, .int (nI ln), .int (nI aa), .int (nI bg), .int (nI tk), .int (nI td), .int (nI rl), .int (nI rs), .int (nI rd), .ref e2, .ref e3, .ref e4, .int (nI n), .int (nI m), .ref e5, .ref e6, .ref e7, .int (nI be), .int (nI sd), .int (nI tu), .int (nI fo), .ref e8, .ref e9, .int (nI kn), .int (nI tl), .int (nI rn), .ref ea, .long tr, .ref eb]))]) F R0 rfl rfl [0] rfl rfl (⟨rfl, Or.inl ⟨rfl, h1⟩⟩) dX8_isLamp_13
  · skip
    refine j_w (w' := [(e0, .inr (8, [.ref e1, .int (nI ln), .int (nI aa), .int (nI bg), .int (nI tk), .int (nI td), .int (nI rl), .int (nI rs), .int (nI rd), .ref e2, .ref e3, .ref e4, .int (nI n), .int (nI m), .ref e5, .ref e6, .ref e7, .int (nI be), .int (nI sd), .int (nI tu), .int (nI fo), .ref e8, .ref e9, .int (nI kn), .int (nI tl), .int (nI rn), .ref ea, .long tr, .ref eb]))]) [0] rfl rfl ?_
    show Jw G X _ 0 0 13 _ [.int (nI 0)] _
    exact j_zret (w2 := [(e0, .inr (8, [.ref e1, .int (nI ln), .int (nI aa), .int (nI bg), .int (nI tk), .int (nI td), .int (nI rl), .int (nI rs), .int (nI rd), .ref e2, .ref e3, .ref e4, .int (nI n), .int (nI m), .ref e5, .ref e6, .ref e7, .int (nI be), .int (nI sd), .int (nI tu), .int (nI fo), .ref e8, .ref e9, .int (nI kn), .int (nI tl), .int (nI rn), .ref ea, .long tr, .ref eb]))]) F R0 rfl rfl [0] rfl rfl (⟨rfl, Or.inr ⟨rfl, h1⟩⟩) dX8_isLamp_13

set_option maxHeartbeats 4000000 in
set_option maxRecDepth 100000 in
theorem c_X8_isStand (G : Gm) {e0 e1 e2 e3 e4 e5 e6 e7 e8 e9 ea eb : Nat} {ln aa bg tk td rl rs rd n m be sd tu fo kn tl rn : Nat}   {tr : Int64} {x : Int32} (hn : n ≤ 9) : Mg G yX8_isStand cX8_isStand 2 (some .boolean) ({ frames := 1, cells := 0, slots := 0, locals := 25 } : Room) 0 0 [.ref e0, .int x] [(e0, .inr (8, [.ref e1, .int (nI ln), .int (nI aa), .int (nI bg), .int (nI tk), .int (nI td), .int (nI rl), .int (nI rs), .int (nI rd), .ref e2, .ref e3, .ref e4, .int (nI n), .int (nI m), .ref e5, .ref e6, .ref e7, .int (nI be), .int (nI sd), .int (nI tu), .int (nI fo), .ref e8, .ref e9, .int (nI kn), .int (nI tl), .int (nI rn), .ref ea, .long tr, .ref eb]))] (fun r w2 => w2 = [(e0, .inr (8, [.ref e1, .int (nI ln), .int (nI aa), .int (nI bg), .int (nI tk), .int (nI td), .int (nI rl), .int (nI rs), .int (nI rd), .ref e2, .ref e3, .ref e4, .int (nI n), .int (nI m), .ref e5, .ref e6, .ref e7, .int (nI be), .int (nI sd), .int (nI tu), .int (nI fo), .ref e8, .ref e9, .int (nI kn), .int (nI tl), .int (nI rn), .ref ea, .long tr, .ref eb]))] ∧ ((r = some (.int (nI 1)) ∧ inR x (2 ^ n)) ∨ (r = some (.int (nI 0)) ∧ ¬ inR x (2 ^ n)))) := by
  have h9 := p9 hn
  refine Mg.mk (lv := [(0, .ref e0), (1, .int x)]) (by decide) rfl rfl (fun X F R0 => ?_)
  refine j_iload_n (q := 1) (i0 := 1) F rfl dX8_isStand_0 rfl ?_
  refine j_i2l (q := 2) (v := Int32.toInt64 x) F rfl dX8_isStand_1 rfl ?_
  refine j_lconst (q := 3) (v := 0) F (by decide) dX8_isStand_2 rfl ?_
  refine j_iconst (q := 4) (v := nI 1) F (by decide) dX8_isStand_3 rfl ?_
  refine j_aload_n (q := 5) (i0 := 0) F rfl dX8_isStand_4 rfl ?_
  refine j_get (q := 8) (ci := 8) (q0 := 0) (kf := 12) (v := .int (nI n)) F inX8 rfl rfl rfl tw_670 rfl rfl dX8_isStand_5 rfl ?_
  refine j_ishl (q := 9) (v := nI (2 ^ n)) F (nx_shl1 (by omega)) dX8_isStand_8 rfl ?_
  refine j_iconst (q := 10) (v := nI 1) F (by decide) dX8_isStand_9 rfl ?_
  refine j_isub (q := 11) (v := nI (2 ^ n) - nI 1) F (rfl) dX8_isStand_10 rfl ?_
  refine j_i2l (q := 12) (v := Int32.toInt64 (nI (2 ^ n) - nI 1)) F rfl dX8_isStand_11 rfl ?_
  refine j_callS (q := 15) (As := [.long (Int32.toInt64 x), .long 0, .long (Int32.toInt64 (nI (2 ^ n) - nI 1))]) (wr := [(e0, .inr (8, [.ref e1, .int (nI ln), .int (nI aa), .int (nI bg), .int (nI tk), .int (nI td), .int (nI rl), .int (nI rs), .int (nI rd), .ref e2, .ref e3, .ref e4, .int (nI n), .int (nI m), .ref e5, .ref e6, .ref e7, .int (nI be), .int (nI sd), .int (nI tu), .int (nI fo), .ref e8, .ref e9, .int (nI kn), .int (nI tl), .int (nI rn), .ref ea, .long tr, .ref eb]))]) (st := []) F (c_inR G (x := x) (n := 2 ^ n) rfl (by omega) (inL_c (by omega))) kwX8_in tw_752 tw_751 ⟨Nat.le_of_ble_eq_true rfl, Nat.le_of_ble_eq_true rfl, rfl, rfl, Nat.le_of_ble_eq_true rfl, Nat.le_of_ble_eq_true rfl⟩ [] [0] rfl rfl rfl rfl rfl rfl rfl (Nat.le_of_ble_eq_true rfl) dX8_isStand_12 rfl ?_
  rintro r_ w_ ⟨rfl, (⟨rfl, h1⟩ | ⟨rfl, h1⟩)⟩
  · skip
    refine j_w (w' := [(e0, .inr (8, [.ref e1, .int (nI ln), .int (nI aa), .int (nI bg), .int (nI tk), .int (nI td), .int (nI rl), .int (nI rs), .int (nI rd), .ref e2, .ref e3, .ref e4, .int (nI n), .int (nI m), .ref e5, .ref e6, .ref e7, .int (nI be), .int (nI sd), .int (nI tu), .int (nI fo), .ref e8, .ref e9, .int (nI kn), .int (nI tl), .int (nI rn), .ref ea, .long tr, .ref eb]))]) [0] rfl rfl ?_
    show Jw G X _ 0 0 15 _ [.int (nI 1)] _
    exact j_zret (w2 := [(e0, .inr (8, [.ref e1, .int (nI ln), .int (nI aa), .int (nI bg), .int (nI tk), .int (nI td), .int (nI rl), .int (nI rs), .int (nI rd), .ref e2, .ref e3, .ref e4, .int (nI n), .int (nI m), .ref e5, .ref e6, .ref e7, .int (nI be), .int (nI sd), .int (nI tu), .int (nI fo), .ref e8, .ref e9, .int (nI kn), .int (nI tl), .int (nI rn), .ref ea, .long tr, .ref eb]))]) F R0 rfl rfl [0] rfl rfl (⟨rfl, Or.inl ⟨rfl, h1⟩⟩) dX8_isStand_15
  · skip
    refine j_w (w' := [(e0, .inr (8, [.ref e1, .int (nI ln), .int (nI aa), .int (nI bg), .int (nI tk), .int (nI td), .int (nI rl), .int (nI rs), .int (nI rd), .ref e2, .ref e3, .ref e4, .int (nI n), .int (nI m), .ref e5, .ref e6, .ref e7, .int (nI be), .int (nI sd), .int (nI tu), .int (nI fo), .ref e8, .ref e9, .int (nI kn), .int (nI tl), .int (nI rn), .ref ea, .long tr, .ref eb]))]) [0] rfl rfl ?_
    show Jw G X _ 0 0 15 _ [.int (nI 0)] _
    exact j_zret (w2 := [(e0, .inr (8, [.ref e1, .int (nI ln), .int (nI aa), .int (nI bg), .int (nI tk), .int (nI td), .int (nI rl), .int (nI rs), .int (nI rd), .ref e2, .ref e3, .ref e4, .int (nI n), .int (nI m), .ref e5, .ref e6, .ref e7, .int (nI be), .int (nI sd), .int (nI tu), .int (nI fo), .ref e8, .ref e9, .int (nI kn), .int (nI tl), .int (nI rn), .ref ea, .long tr, .ref eb]))]) F R0 rfl rfl [0] rfl rfl (⟨rfl, Or.inr ⟨rfl, h1⟩⟩) dX8_isStand_15

set_option maxHeartbeats 4000000 in
set_option maxRecDepth 100000 in
theorem c_X8_many (G : Gm) {k : Nat} (hk : k < 32768) : Mg G yX8_many cX8_many 3 (some .int) ({ frames := 0, cells := 0, slots := 0, locals := 0 } : Room) 0 0 [.int (nI k)] [] (fun r w2 => w2 = [] ∧ r = some (.int (nI (pcN k)))) := by
  refine Mg.mk (lv := [(0, .int (nI k))]) (by decide) rfl rfl (fun X F R0 => ?_)
  refine j_iconst (q := 1) (v := nI 0) F (by decide) dX8_many_0 rfl ?_
  refine j_istore_n (q := 2) (lv' := [(1, .int (nI 0)), (0, .int (nI k))]) F dX8_many_1 (by decide) rfl rfl ?_
  refine j_iload_n (q := 3) (i0 := 1) F rfl dX8_many_2 rfl ?_
  refine j_istore_n (q := 4) (lv' := [(2, .int (nI k)), (1, .int (nI 0)), (0, .int (nI k))]) F dX8_many_3 (by decide) rfl rfl ?_
  have lp1 : ∀ (fu : Nat) (ct : Nat) (lf : Nat) (hc : ct + pcN lf = pcN k) (hl : lf < 32768), lf < fu → Jw G X 3 0 0 4 [(0, .int (nI k)), (1, .int (nI ct)), (2, .int (nI lf))] [] [] := by
    intro fu
    induction fu with
    | zero => intro ct lf hc hl hfu; exact absurd hfu (Nat.not_lt_zero _)
    | succ fu ih1 =>
      intro ct lf hc hl hfu
      refine j_iload_n (q := 5) (i0 := 2) F rfl dX8_many_4 rfl ?_
      refine j_if_eq (q := 8) (t := 20) F (Pp := lf = 0) (nI_eq0 (by omega)) dX8_many_5 rfl rfl (fun c0 => ?_) (fun c0 => ?_)
      · skip
        refine j_iload_n (q := 21) (i0 := 1) F rfl dX8_many_20 rfl ?_
        exact j_iret (w2 := []) F R0 rfl [] rfl rfl (by rw [c0, show pcN 0 = 0 from rfl, Nat.add_zero] at hc; rw [← hc]; exact ⟨rfl, rfl⟩) dX8_many_21
      · skip
        refine j_iinc (q := 11) (i0 := 1) (v := nI (ct + 1)) (lv' := [(1, .int (nI (ct + 1))), (0, .int (nI k)), (2, .int (nI lf))]) F dX8_many_8 rfl (nI_add _ _) (by decide) rfl rfl ?_
        refine j_iload_n (q := 12) (i0 := 2) F rfl dX8_many_11 rfl ?_
        refine j_iload_n (q := 13) (i0 := 2) F rfl dX8_many_12 rfl ?_
        refine j_iconst (q := 14) (v := nI 1) F (by decide) dX8_many_13 rfl ?_
        refine j_isub (q := 15) (v := nI (lf - 1)) F (pk_sub (by omega)) dX8_many_14 rfl ?_
        refine j_iand (q := 16) (v := nI (lf &&& (lf - 1))) F (nx_and _ _) dX8_many_15 rfl ?_
        refine j_istore_n (q := 17) (lv' := [(2, .int (nI (lf &&& (lf - 1)))), (1, .int (nI (ct + 1))), (0, .int (nI k))]) F dX8_many_16 (by decide) rfl rfl ?_
        refine j_goto (t := 4) F dX8_many_17 rfl ?_
        have hpm := pc_many hl c0
        have hle : lf &&& (lf - 1) ≤ lf - 1 := Nat.and_le_right
        refine j_lv [2, 1, 0] (lv' := [(0, .int (nI k)), (1, .int (nI (ct + 1))), (2, .int (nI (lf &&& (lf - 1))))]) rfl ?_
        exact ih1 (ct + 1) _ (by omega) (by omega) (by omega)
  refine j_lv [2, 1, 0] (lv' := [(0, .int (nI k)), (1, .int (nI 0)), (2, .int (nI k))]) rfl ?_
  exact lp1 _ 0 k (Nat.zero_add _) hk (Nat.lt_succ_self _)

set_option maxHeartbeats 4000000 in
set_option maxRecDepth 100000 in
theorem c_X8_beside (G : Gm) {e0 e1 e2 e3 e4 e5 e6 e7 e8 e9 ea eb : Nat} {ln aa bg tk td rl rs rd n m be sd tu fo kn tl rn : Nat} {ru la lb : Nat → Nat}  {tr : Int64} {l wo : Nat} (hT : Tok n m ru la lb) (hl : l < 1000) (hwo : wo < 32768) : Mg G yX8_beside cX8_beside 6 (some .int) ({ frames := 0, cells := 0, slots := 0, locals := 0 } : Room) 0 0 [.ref e0, .int (nI l), .int (nI wo)] [(e0, .inr (8, [.ref e1, .int (nI ln), .int (nI aa), .int (nI bg), .int (nI tk), .int (nI td), .int (nI rl), .int (nI rs), .int (nI rd), .ref e2, .ref e3, .ref e4, .int (nI n), .int (nI m), .ref e5, .ref e6, .ref e7, .int (nI be), .int (nI sd), .int (nI tu), .int (nI fo), .ref e8, .ref e9, .int (nI kn), .int (nI tl), .int (nI rn), .ref ea, .long tr, .ref eb])), (e6, .inl (G.2.2.1, 15, .inl (nF la))), (e7, .inl (G.2.2.1, 15, .inl (nF lb)))] (fun r w2 => w2 = [(e0, .inr (8, [.ref e1, .int (nI ln), .int (nI aa), .int (nI bg), .int (nI tk), .int (nI td), .int (nI rl), .int (nI rs), .int (nI rd), .ref e2, .ref e3, .ref e4, .int (nI n), .int (nI m), .ref e5, .ref e6, .ref e7, .int (nI be), .int (nI sd), .int (nI tu), .int (nI fo), .ref e8, .ref e9, .int (nI kn), .int (nI tl), .int (nI rn), .ref ea, .long tr, .ref eb])), (e6, .inl (G.2.2.1, 15, .inl (nF la))), (e7, .inl (G.2.2.1, 15, .inl (nF lb)))] ∧ r = some (.int (nI (bsd la lb wo l m)))) := by
  have hm := hT.2.1
  have hn := hT.1
  refine Mg.mk (lv := [(0, .ref e0), (1, .int (nI l)), (2, .int (nI wo))]) (by decide) rfl rfl (fun X F R0 => ?_)
  refine j_iconst (q := 1) (v := nI 0) F (by decide) dX8_beside_0 rfl ?_
  refine j_istore_n (q := 2) (lv' := [(3, .int (nI 0)), (0, .ref e0), (1, .int (nI l)), (2, .int (nI wo))]) F dX8_beside_1 (by decide) rfl rfl ?_
  refine j_iconst (q := 3) (v := nI 0) F (by decide) dX8_beside_2 rfl ?_
  refine j_istore (q := 5) (lv' := [(4, .int (nI 0)), (3, .int (nI 0)), (0, .ref e0), (1, .int (nI l)), (2, .int (nI wo))]) F dX8_beside_3 (by decide) rfl rfl ?_
  have lp1 : ∀ (fu : Nat) (k : Nat) (hk : k ≤ m), (m - k) < fu → Jw G X 6 0 0 5 [(0, .ref e0), (1, .int (nI l)), (2, .int (nI wo)), (3, .int (nI (bsd la lb wo l k))), (4, .int (nI k))] [] [(e0, .inr (8, [.ref e1, .int (nI ln), .int (nI aa), .int (nI bg), .int (nI tk), .int (nI td), .int (nI rl), .int (nI rs), .int (nI rd), .ref e2, .ref e3, .ref e4, .int (nI n), .int (nI m), .ref e5, .ref e6, .ref e7, .int (nI be), .int (nI sd), .int (nI tu), .int (nI fo), .ref e8, .ref e9, .int (nI kn), .int (nI tl), .int (nI rn), .ref ea, .long tr, .ref eb])), (e6, .inl (G.2.2.1, 15, .inl (nF la))), (e7, .inl (G.2.2.1, 15, .inl (nF lb)))] := by
    intro fu
    induction fu with
    | zero => intro k hk hfu; exact absurd hfu (Nat.not_lt_zero _)
    | succ fu ih1 =>
      intro k hk hfu
      refine j_iload (q := 7) (i0 := 4) F rfl dX8_beside_5 rfl ?_
      refine j_aload_n (q := 8) (i0 := 0) F rfl dX8_beside_7 rfl ?_
      refine j_get (q := 11) (ci := 8) (q0 := 0) (kf := 13) (v := .int (nI m)) F inX8 rfl rfl rfl tw_671 rfl rfl dX8_beside_8 rfl ?_
      refine j_icmp_ge (q := 14) (t := 100) F (Pp := m ≤ k) (nI_leI (by omega) (by omega)) dX8_beside_11 rfl rfl (fun c2 => ?_) (fun c2 => ?_)
      · skip
        refine j_iload_n (q := 101) (i0 := 3) F rfl dX8_beside_100 rfl ?_
        exact j_iret (w2 := [(e0, .inr (8, [.ref e1, .int (nI ln), .int (nI aa), .int (nI bg), .int (nI tk), .int (nI td), .int (nI rl), .int (nI rs), .int (nI rd), .ref e2, .ref e3, .ref e4, .int (nI n), .int (nI m), .ref e5, .ref e6, .ref e7, .int (nI be), .int (nI sd), .int (nI tu), .int (nI fo), .ref e8, .ref e9, .int (nI kn), .int (nI tl), .int (nI rn), .ref ea, .long tr, .ref eb])), (e6, .inl (G.2.2.1, 15, .inl (nF la))), (e7, .inl (G.2.2.1, 15, .inl (nF lb)))]) F R0 rfl [0, 1, 2] rfl rfl (by rw [show k = m by omega]; exact ⟨rfl, rfl⟩) dX8_beside_101
      · skip
        have hlt := hT.2.2.2.1 k (by omega)
        refine j_iload_n (q := 15) (i0 := 2) F rfl dX8_beside_14 rfl ?_
        refine j_iload (q := 17) (i0 := 4) F rfl dX8_beside_15 rfl ?_
        refine j_ishr (q := 18) (v := nI (wo >>> k)) F (nx_shr (by omega) (by omega)) dX8_beside_17 rfl ?_
        refine j_iconst (q := 19) (v := nI 1) F (by decide) dX8_beside_18 rfl ?_
        refine j_iand (q := 20) (v := nI (bitN wo k)) F (nx_and _ _) dX8_beside_19 rfl ?_
        refine j_if_ne (q := 23) (t := 27) F (Pp := wo.testBit k = false) (bit_is0 _ _) dX8_beside_20 rfl rfl (fun cw => ?_) (fun cw => ?_)
        · skip
          refine j_iconst (q := 28) (v := nI 0) F (by decide) dX8_beside_27 rfl ?_
          refine j_istore (q := 30) (lv' := [(5, .int (nI 0)), (0, .ref e0), (1, .int (nI l)), (2, .int (nI wo)), (3, .int (nI (bsd la lb wo l k))), (4, .int (nI k))]) F dX8_beside_28 (by decide) rfl rfl ?_
          refine j_iload_n (q := 31) (i0 := 4) F rfl dX8_beside_30 rfl ?_
          refine j_iload (q := 33) (i0 := 0) F rfl dX8_beside_31 rfl ?_
          refine j_if_eq (q := 36) (t := 59) F (ct (by decide)) dX8_beside_33 rfl rfl (fun _ => ?_) (fun z => absurd trivial z)
          refine j_iconst (q := 60) (v := nI 0) F (by decide) dX8_beside_59 rfl ?_
          refine j_ior (q := 61) (v := nI ((bsd la lb wo l k) ||| 0)) F (nx_or _ _) dX8_beside_60 rfl ?_
          refine j_istore_n (q := 62) (lv' := [(3, .int (nI ((bsd la lb wo l k) ||| 0))), (5, .int (nI 0)), (0, .ref e0), (1, .int (nI l)), (2, .int (nI wo)), (4, .int (nI k))]) F dX8_beside_61 (by decide) rfl rfl ?_
          refine j_iload_n (q := 63) (i0 := 0) F rfl dX8_beside_62 rfl ?_
          refine j_iload (q := 65) (i0 := 1) F rfl dX8_beside_63 rfl ?_
          refine j_if_eq (q := 68) (t := 91) F (ct (by decide)) dX8_beside_65 rfl rfl (fun _ => ?_) (fun z => absurd trivial z)
          refine j_iconst (q := 92) (v := nI 0) F (by decide) dX8_beside_91 rfl ?_
          refine j_ior (q := 93) (v := nI (((bsd la lb wo l k) ||| 0) ||| 0)) F (nx_or _ _) dX8_beside_92 rfl ?_
          refine j_istore_n (q := 94) (lv' := [(3, .int (nI (((bsd la lb wo l k) ||| 0) ||| 0))), (5, .int (nI 0)), (0, .ref e0), (1, .int (nI l)), (2, .int (nI wo)), (4, .int (nI k))]) F dX8_beside_93 (by decide) rfl rfl ?_
          refine j_iinc (q := 97) (i0 := 5) (v := nI (k + 1)) (lv' := [(4, .int (nI (k + 1))), (3, .int (nI (((bsd la lb wo l k) ||| 0) ||| 0))), (5, .int (nI 0)), (0, .ref e0), (1, .int (nI l)), (2, .int (nI wo))]) F dX8_beside_94 rfl (nI_add _ _) (by decide) rfl rfl ?_
          refine j_goto (t := 5) F dX8_beside_97 rfl ?_
          rw [show ((bsd la lb wo l k) ||| 0) ||| 0 = bsd la lb wo l (k + 1) from by rw [bsd, if_neg (fun z => cw z.1), if_neg (fun z => cw z.1)]]
          refine j_lv [3, 4, 5, 1, 0] (lv' := [(0, .ref e0), (1, .int (nI l)), (2, .int (nI wo)), (3, .int (nI (bsd la lb wo l (k + 1)))), (4, .int (nI (k + 1)))]) rfl ?_
          exact ih1 (k + 1) (by omega) (by omega)
        · skip
          refine j_iconst (q := 24) (v := nI 1) F (by decide) dX8_beside_23 rfl ?_
          refine j_goto (t := 28) F dX8_beside_24 rfl ?_
          refine j_istore (q := 30) (lv' := [(5, .int (nI 1)), (0, .ref e0), (1, .int (nI l)), (2, .int (nI wo)), (3, .int (nI (bsd la lb wo l k))), (4, .int (nI k))]) F dX8_beside_28 (by decide) rfl rfl ?_
          refine j_iload_n (q := 31) (i0 := 4) F rfl dX8_beside_30 rfl ?_
          refine j_iload (q := 33) (i0 := 0) F rfl dX8_beside_31 rfl ?_
          refine j_if_eq (q := 36) (t := 59) F (cf (by decide)) dX8_beside_33 rfl rfl (fun z => False.elim z) (fun _ => ?_)
          refine j_aload_n (q := 37) (i0 := 1) F rfl dX8_beside_36 rfl ?_
          refine j_get (q := 40) (ci := 8) (q0 := 0) (kf := 15) (v := .ref e6) F inX8 rfl rfl rfl tw_673 rfl rfl dX8_beside_37 rfl ?_
          refine j_iload (q := 42) (i0 := 5) F rfl dX8_beside_40 rfl ?_
          refine j_iald (q := 43) (q0 := 1) (i := k) (v := nI (la k)) F rfl rfl (by omega) rfl (rfl) dX8_beside_42 rfl ?_
          refine j_iload_n (q := 44) (i0 := 2) F rfl dX8_beside_43 rfl ?_
          refine j_icmp_ne (q := 47) (t := 59) F (Pp := la k = l) (nI_eq (by omega) (by omega)) dX8_beside_44 rfl rfl (fun ca => ?_) (fun ca => ?_)
          · skip
            refine j_iconst (q := 60) (v := nI 0) F (by decide) dX8_beside_59 rfl ?_
            refine j_ior (q := 61) (v := nI ((bsd la lb wo l k) ||| 0)) F (nx_or _ _) dX8_beside_60 rfl ?_
            refine j_istore_n (q := 62) (lv' := [(3, .int (nI ((bsd la lb wo l k) ||| 0))), (5, .int (nI 1)), (0, .ref e0), (1, .int (nI l)), (2, .int (nI wo)), (4, .int (nI k))]) F dX8_beside_61 (by decide) rfl rfl ?_
            refine j_iload_n (q := 63) (i0 := 0) F rfl dX8_beside_62 rfl ?_
            refine j_iload (q := 65) (i0 := 1) F rfl dX8_beside_63 rfl ?_
            refine j_if_eq (q := 68) (t := 91) F (cf (by decide)) dX8_beside_65 rfl rfl (fun z => False.elim z) (fun _ => ?_)
            refine j_aload_n (q := 69) (i0 := 2) F rfl dX8_beside_68 rfl ?_
            refine j_get (q := 72) (ci := 8) (q0 := 0) (kf := 16) (v := .ref e7) F inX8 rfl rfl rfl tw_674 rfl rfl dX8_beside_69 rfl ?_
            refine j_iload (q := 74) (i0 := 5) F rfl dX8_beside_72 rfl ?_
            refine j_iald (q := 75) (q0 := 2) (i := k) (v := nI (lb k)) F rfl rfl (by omega) rfl (rfl) dX8_beside_74 rfl ?_
            refine j_iload_n (q := 76) (i0 := 3) F rfl dX8_beside_75 rfl ?_
            refine j_icmp_ne (q := 79) (t := 91) F (Pp := lb k = l) (nI_eq (by omega) (by omega)) dX8_beside_76 rfl rfl (fun cb => ?_) (fun cb => ?_)
            · skip
              refine j_iconst (q := 92) (v := nI 0) F (by decide) dX8_beside_91 rfl ?_
              refine j_ior (q := 93) (v := nI (((bsd la lb wo l k) ||| 0) ||| 0)) F (nx_or _ _) dX8_beside_92 rfl ?_
              refine j_istore_n (q := 94) (lv' := [(3, .int (nI (((bsd la lb wo l k) ||| 0) ||| 0))), (5, .int (nI 1)), (0, .ref e0), (1, .int (nI l)), (2, .int (nI wo)), (4, .int (nI k))]) F dX8_beside_93 (by decide) rfl rfl ?_
              refine j_iinc (q := 97) (i0 := 5) (v := nI (k + 1)) (lv' := [(4, .int (nI (k + 1))), (3, .int (nI (((bsd la lb wo l k) ||| 0) ||| 0))), (5, .int (nI 1)), (0, .ref e0), (1, .int (nI l)), (2, .int (nI wo))]) F dX8_beside_94 rfl (nI_add _ _) (by decide) rfl rfl ?_
              refine j_goto (t := 5) F dX8_beside_97 rfl ?_
              rw [show ((bsd la lb wo l k) ||| 0) ||| 0 = bsd la lb wo l (k + 1) from by rw [bsd, if_neg (fun z => ca z.2), if_neg (fun z => cb z.2)]]
              refine j_lv [3, 4, 5, 1, 0] (lv' := [(0, .ref e0), (1, .int (nI l)), (2, .int (nI wo)), (3, .int (nI (bsd la lb wo l (k + 1)))), (4, .int (nI (k + 1)))]) rfl ?_
              exact ih1 (k + 1) (by omega) (by omega)
            · skip
              refine j_iconst (q := 80) (v := nI 1) F (by decide) dX8_beside_79 rfl ?_
              refine j_aload_n (q := 81) (i0 := 2) F rfl dX8_beside_80 rfl ?_
              refine j_get (q := 84) (ci := 8) (q0 := 0) (kf := 15) (v := .ref e6) F inX8 rfl rfl rfl tw_673 rfl rfl dX8_beside_81 rfl ?_
              refine j_iload (q := 86) (i0 := 5) F rfl dX8_beside_84 rfl ?_
              refine j_iald (q := 87) (q0 := 1) (i := k) (v := nI (la k)) F rfl rfl (by omega) rfl (rfl) dX8_beside_86 rfl ?_
              refine j_ishl (q := 88) (v := nI (2 ^ (la k))) F (nx_shl1 (by omega)) dX8_beside_87 rfl ?_
              refine j_goto (t := 92) F dX8_beside_88 rfl ?_
              refine j_ior (q := 93) (v := nI (((bsd la lb wo l k) ||| 0) ||| (2 ^ (la k)))) F (nx_or _ _) dX8_beside_92 rfl ?_
              refine j_istore_n (q := 94) (lv' := [(3, .int (nI (((bsd la lb wo l k) ||| 0) ||| (2 ^ (la k))))), (5, .int (nI 1)), (0, .ref e0), (1, .int (nI l)), (2, .int (nI wo)), (4, .int (nI k))]) F dX8_beside_93 (by decide) rfl rfl ?_
              refine j_iinc (q := 97) (i0 := 5) (v := nI (k + 1)) (lv' := [(4, .int (nI (k + 1))), (3, .int (nI (((bsd la lb wo l k) ||| 0) ||| (2 ^ (la k))))), (5, .int (nI 1)), (0, .ref e0), (1, .int (nI l)), (2, .int (nI wo))]) F dX8_beside_94 rfl (nI_add _ _) (by decide) rfl rfl ?_
              refine j_goto (t := 5) F dX8_beside_97 rfl ?_
              rw [show ((bsd la lb wo l k) ||| 0) ||| (2 ^ (la k)) = bsd la lb wo l (k + 1) from by rw [bsd, if_neg (fun z => ca z.2), if_pos ⟨cw, cb⟩]]
              refine j_lv [3, 4, 5, 1, 0] (lv' := [(0, .ref e0), (1, .int (nI l)), (2, .int (nI wo)), (3, .int (nI (bsd la lb wo l (k + 1)))), (4, .int (nI (k + 1)))]) rfl ?_
              exact ih1 (k + 1) (by omega) (by omega)
          · skip
            refine j_iconst (q := 48) (v := nI 1) F (by decide) dX8_beside_47 rfl ?_
            refine j_aload_n (q := 49) (i0 := 1) F rfl dX8_beside_48 rfl ?_
            refine j_get (q := 52) (ci := 8) (q0 := 0) (kf := 16) (v := .ref e7) F inX8 rfl rfl rfl tw_674 rfl rfl dX8_beside_49 rfl ?_
            refine j_iload (q := 54) (i0 := 5) F rfl dX8_beside_52 rfl ?_
            refine j_iald (q := 55) (q0 := 2) (i := k) (v := nI (lb k)) F rfl rfl (by omega) rfl (rfl) dX8_beside_54 rfl ?_
            refine j_ishl (q := 56) (v := nI (2 ^ (lb k))) F (nx_shl1 (by omega)) dX8_beside_55 rfl ?_
            refine j_goto (t := 60) F dX8_beside_56 rfl ?_
            refine j_ior (q := 61) (v := nI ((bsd la lb wo l k) ||| (2 ^ (lb k)))) F (nx_or _ _) dX8_beside_60 rfl ?_
            refine j_istore_n (q := 62) (lv' := [(3, .int (nI ((bsd la lb wo l k) ||| (2 ^ (lb k))))), (5, .int (nI 1)), (0, .ref e0), (1, .int (nI l)), (2, .int (nI wo)), (4, .int (nI k))]) F dX8_beside_61 (by decide) rfl rfl ?_
            refine j_iload_n (q := 63) (i0 := 0) F rfl dX8_beside_62 rfl ?_
            refine j_iload (q := 65) (i0 := 1) F rfl dX8_beside_63 rfl ?_
            refine j_if_eq (q := 68) (t := 91) F (cf (by decide)) dX8_beside_65 rfl rfl (fun z => False.elim z) (fun _ => ?_)
            refine j_aload_n (q := 69) (i0 := 2) F rfl dX8_beside_68 rfl ?_
            refine j_get (q := 72) (ci := 8) (q0 := 0) (kf := 16) (v := .ref e7) F inX8 rfl rfl rfl tw_674 rfl rfl dX8_beside_69 rfl ?_
            refine j_iload (q := 74) (i0 := 5) F rfl dX8_beside_72 rfl ?_
            refine j_iald (q := 75) (q0 := 2) (i := k) (v := nI (lb k)) F rfl rfl (by omega) rfl (rfl) dX8_beside_74 rfl ?_
            refine j_iload_n (q := 76) (i0 := 3) F rfl dX8_beside_75 rfl ?_
            refine j_icmp_ne (q := 79) (t := 91) F (Pp := lb k = l) (nI_eq (by omega) (by omega)) dX8_beside_76 rfl rfl (fun cb => ?_) (fun cb => ?_)
            · skip
              refine j_iconst (q := 92) (v := nI 0) F (by decide) dX8_beside_91 rfl ?_
              refine j_ior (q := 93) (v := nI (((bsd la lb wo l k) ||| (2 ^ (lb k))) ||| 0)) F (nx_or _ _) dX8_beside_92 rfl ?_
              refine j_istore_n (q := 94) (lv' := [(3, .int (nI (((bsd la lb wo l k) ||| (2 ^ (lb k))) ||| 0))), (5, .int (nI 1)), (0, .ref e0), (1, .int (nI l)), (2, .int (nI wo)), (4, .int (nI k))]) F dX8_beside_93 (by decide) rfl rfl ?_
              refine j_iinc (q := 97) (i0 := 5) (v := nI (k + 1)) (lv' := [(4, .int (nI (k + 1))), (3, .int (nI (((bsd la lb wo l k) ||| (2 ^ (lb k))) ||| 0))), (5, .int (nI 1)), (0, .ref e0), (1, .int (nI l)), (2, .int (nI wo))]) F dX8_beside_94 rfl (nI_add _ _) (by decide) rfl rfl ?_
              refine j_goto (t := 5) F dX8_beside_97 rfl ?_
              rw [show ((bsd la lb wo l k) ||| (2 ^ (lb k))) ||| 0 = bsd la lb wo l (k + 1) from by rw [bsd, if_pos ⟨cw, ca⟩, if_neg (fun z => cb z.2)]]
              refine j_lv [3, 4, 5, 1, 0] (lv' := [(0, .ref e0), (1, .int (nI l)), (2, .int (nI wo)), (3, .int (nI (bsd la lb wo l (k + 1)))), (4, .int (nI (k + 1)))]) rfl ?_
              exact ih1 (k + 1) (by omega) (by omega)
            · skip
              refine j_iconst (q := 80) (v := nI 1) F (by decide) dX8_beside_79 rfl ?_
              refine j_aload_n (q := 81) (i0 := 2) F rfl dX8_beside_80 rfl ?_
              refine j_get (q := 84) (ci := 8) (q0 := 0) (kf := 15) (v := .ref e6) F inX8 rfl rfl rfl tw_673 rfl rfl dX8_beside_81 rfl ?_
              refine j_iload (q := 86) (i0 := 5) F rfl dX8_beside_84 rfl ?_
              refine j_iald (q := 87) (q0 := 1) (i := k) (v := nI (la k)) F rfl rfl (by omega) rfl (rfl) dX8_beside_86 rfl ?_
              refine j_ishl (q := 88) (v := nI (2 ^ (la k))) F (nx_shl1 (by omega)) dX8_beside_87 rfl ?_
              refine j_goto (t := 92) F dX8_beside_88 rfl ?_
              refine j_ior (q := 93) (v := nI (((bsd la lb wo l k) ||| (2 ^ (lb k))) ||| (2 ^ (la k)))) F (nx_or _ _) dX8_beside_92 rfl ?_
              refine j_istore_n (q := 94) (lv' := [(3, .int (nI (((bsd la lb wo l k) ||| (2 ^ (lb k))) ||| (2 ^ (la k))))), (5, .int (nI 1)), (0, .ref e0), (1, .int (nI l)), (2, .int (nI wo)), (4, .int (nI k))]) F dX8_beside_93 (by decide) rfl rfl ?_
              refine j_iinc (q := 97) (i0 := 5) (v := nI (k + 1)) (lv' := [(4, .int (nI (k + 1))), (3, .int (nI (((bsd la lb wo l k) ||| (2 ^ (lb k))) ||| (2 ^ (la k))))), (5, .int (nI 1)), (0, .ref e0), (1, .int (nI l)), (2, .int (nI wo))]) F dX8_beside_94 rfl (nI_add _ _) (by decide) rfl rfl ?_
              refine j_goto (t := 5) F dX8_beside_97 rfl ?_
              rw [show ((bsd la lb wo l k) ||| (2 ^ (lb k))) ||| (2 ^ (la k)) = bsd la lb wo l (k + 1) from by rw [bsd, if_pos ⟨cw, ca⟩, if_pos ⟨cw, cb⟩]]
              refine j_lv [3, 4, 5, 1, 0] (lv' := [(0, .ref e0), (1, .int (nI l)), (2, .int (nI wo)), (3, .int (nI (bsd la lb wo l (k + 1)))), (4, .int (nI (k + 1)))]) rfl ?_
              exact ih1 (k + 1) (by omega) (by omega)
  refine j_lv [2, 3, 4, 1, 0] (lv' := [(0, .ref e0), (1, .int (nI l)), (2, .int (nI wo)), (3, .int (nI 0)), (4, .int (nI 0))]) rfl ?_
  exact lp1 _ 0 (Nat.zero_le _) (Nat.lt_succ_self _)

set_option maxHeartbeats 4000000 in
set_option maxRecDepth 100000 in
theorem c_X8_looks (G : Gm) {e0 e1 e2 e3 e4 e5 e6 e7 e8 e9 ea eb : Nat} {ln aa bg tk td rl rs rd n m be sd tu fo kn tl rn : Nat} {ru la lb ne : Nat → Nat}  {tr : Int64} {wo : Nat} (hT : Tok n m ru la lb) (hwo : wo < 32768) : Mg G yX8_looks cX8_looks 3 none ({ frames := 1, cells := 0, slots := 0, locals := 25 } : Room) 0 0 [.ref e0, .int (nI wo)] [(e0, .inr (8, [.ref e1, .int (nI ln), .int (nI aa), .int (nI bg), .int (nI tk), .int (nI td), .int (nI rl), .int (nI rs), .int (nI rd), .ref e2, .ref e3, .ref e4, .int (nI n), .int (nI m), .ref e5, .ref e6, .ref e7, .int (nI be), .int (nI sd), .int (nI tu), .int (nI fo), .ref e8, .ref e9, .int (nI kn), .int (nI tl), .int (nI rn), .ref ea, .long tr, .ref eb])), (e6, .inl (G.2.2.1, 15, .inl (nF la))), (e7, .inl (G.2.2.1, 15, .inl (nF lb))), (e8, .inl (G.2.2.1, 9, .inl (nF ne)))] (fun r w2 => ∃ ne2, NeOk n m la lb wo ne2 ∧ r = none ∧ w2 = [(e0, .inr (8, [.ref e1, .int (nI ln), .int (nI aa), .int (nI bg), .int (nI tk), .int (nI td), .int (nI rl), .int (nI rs), .int (nI rd), .ref e2, .ref e3, .ref e4, .int (nI n), .int (nI m), .ref e5, .ref e6, .ref e7, .int (nI be), .int (nI sd), .int (nI tu), .int (nI fo), .ref e8, .ref e9, .int (nI kn), .int (nI tl), .int (nI rn), .ref ea, .long tr, .ref eb])), (e6, .inl (G.2.2.1, 15, .inl (nF la))), (e7, .inl (G.2.2.1, 15, .inl (nF lb))), (e8, .inl (G.2.2.1, 9, .inl (nF ne2)))]) := by
  have hm := hT.2.1
  have hn := hT.1
  refine Mg.mk (lv := [(0, .ref e0), (1, .int (nI wo))]) (by decide) rfl rfl (fun X F R0 => ?_)
  refine j_iconst (q := 1) (v := nI 0) F (by decide) dX8_looks_0 rfl ?_
  refine j_istore_n (q := 2) (lv' := [(2, .int (nI 0)), (0, .ref e0), (1, .int (nI wo))]) F dX8_looks_1 (by decide) rfl rfl ?_
  have lp1 : ∀ (fu : Nat) (l : Nat) (ne1 : Nat → Nat) (hl : l ≤ n) (hne : ∀ i, i < l → ne1 i = bsd la lb wo i m), (n - l) < fu → Jw G X 3 0 0 2 [(0, .ref e0), (1, .int (nI wo)), (2, .int (nI l))] [] [(e0, .inr (8, [.ref e1, .int (nI ln), .int (nI aa), .int (nI bg), .int (nI tk), .int (nI td), .int (nI rl), .int (nI rs), .int (nI rd), .ref e2, .ref e3, .ref e4, .int (nI n), .int (nI m), .ref e5, .ref e6, .ref e7, .int (nI be), .int (nI sd), .int (nI tu), .int (nI fo), .ref e8, .ref e9, .int (nI kn), .int (nI tl), .int (nI rn), .ref ea, .long tr, .ref eb])), (e6, .inl (G.2.2.1, 15, .inl (nF la))), (e7, .inl (G.2.2.1, 15, .inl (nF lb))), (e8, .inl (G.2.2.1, 9, .inl (nF ne1)))] := by
    intro fu
    induction fu with
    | zero => intro l ne1 hl hne hfu; exact absurd hfu (Nat.not_lt_zero _)
    | succ fu ih1 =>
      intro l ne1 hl hne hfu
      refine j_iload_n (q := 3) (i0 := 2) F rfl dX8_looks_2 rfl ?_
      refine j_aload_n (q := 4) (i0 := 0) F rfl dX8_looks_3 rfl ?_
      refine j_get (q := 7) (ci := 8) (q0 := 0) (kf := 12) (v := .int (nI n)) F inX8 rfl rfl rfl tw_670 rfl rfl dX8_looks_4 rfl ?_
      refine j_icmp_ge (q := 10) (t := 28) F (Pp := n ≤ l) (nI_leI (by omega) (by omega)) dX8_looks_7 rfl rfl (fun c2 => ?_) (fun c2 => ?_)
      · skip
        exact j_vret (w2 := [(e0, .inr (8, [.ref e1, .int (nI ln), .int (nI aa), .int (nI bg), .int (nI tk), .int (nI td), .int (nI rl), .int (nI rs), .int (nI rd), .ref e2, .ref e3, .ref e4, .int (nI n), .int (nI m), .ref e5, .ref e6, .ref e7, .int (nI be), .int (nI sd), .int (nI tu), .int (nI fo), .ref e8, .ref e9, .int (nI kn), .int (nI tl), .int (nI rn), .ref ea, .long tr, .ref eb])), (e6, .inl (G.2.2.1, 15, .inl (nF la))), (e7, .inl (G.2.2.1, 15, .inl (nF lb))), (e8, .inl (G.2.2.1, 9, .inl (nF ne1)))]) F R0 rfl [0, 1, 2, 3] rfl rfl (⟨_, fun i hi => hne i (by omega), rfl, rfl⟩) dX8_looks_28
      · skip
        refine j_aload_n (q := 11) (i0 := 0) F rfl dX8_looks_10 rfl ?_
        refine j_get (q := 14) (ci := 8) (q0 := 0) (kf := 21) (v := .ref e8) F inX8 rfl rfl rfl tw_679 rfl rfl dX8_looks_11 rfl ?_
        refine j_iload_n (q := 15) (i0 := 2) F rfl dX8_looks_14 rfl ?_
        refine j_aload_n (q := 16) (i0 := 0) F rfl dX8_looks_15 rfl ?_
        refine j_iload_n (q := 17) (i0 := 2) F rfl dX8_looks_16 rfl ?_
        refine j_iload_n (q := 18) (i0 := 1) F rfl dX8_looks_17 rfl ?_
        refine j_callV (q := 21) (ci := 8) (q0 := 0) (As := [.int (nI l), .int (nI wo)]) (wr := [(e8, .inl (G.2.2.1, 9, .inl (nF ne1)))]) (st := [.int (nI l), .ref e8]) F (c_X8_beside G (l := l) (wo := wo) hT (by omega) (hwo)) kwX8_beside tw_806 tw_28 tw_804 ⟨Nat.le_of_ble_eq_true rfl, Nat.le_of_ble_eq_true rfl, rfl, rfl, Nat.le_of_ble_eq_true rfl, Nat.le_of_ble_eq_true rfl⟩ [0, 1, 2] [3] rfl rfl rfl rfl rfl rfl rfl rfl rfl (Nat.le_of_ble_eq_true rfl) dX8_looks_18 rfl ?_
        rintro r_ w_ ⟨rfl, rfl⟩
        refine j_w (w' := [(e0, .inr (8, [.ref e1, .int (nI ln), .int (nI aa), .int (nI bg), .int (nI tk), .int (nI td), .int (nI rl), .int (nI rs), .int (nI rd), .ref e2, .ref e3, .ref e4, .int (nI n), .int (nI m), .ref e5, .ref e6, .ref e7, .int (nI be), .int (nI sd), .int (nI tu), .int (nI fo), .ref e8, .ref e9, .int (nI kn), .int (nI tl), .int (nI rn), .ref ea, .long tr, .ref eb])), (e6, .inl (G.2.2.1, 15, .inl (nF la))), (e7, .inl (G.2.2.1, 15, .inl (nF lb))), (e8, .inl (G.2.2.1, 9, .inl (nF ne1)))]) [1, 2, 3, 0] rfl rfl ?_
        show Jw G X _ 0 0 21 _ [.int (nI (bsd la lb wo l m)), .int (nI l), .ref e8] _
        refine j_iast (q := 22) (q0 := 3) (i := l) (f2 := nF (va_up ne1 l (bsd la lb wo l m))) (w' := [(e0, .inr (8, [.ref e1, .int (nI ln), .int (nI aa), .int (nI bg), .int (nI tk), .int (nI td), .int (nI rl), .int (nI rs), .int (nI rd), .ref e2, .ref e3, .ref e4, .int (nI n), .int (nI m), .ref e5, .ref e6, .ref e7, .int (nI be), .int (nI sd), .int (nI tu), .int (nI fo), .ref e8, .ref e9, .int (nI kn), .int (nI tl), .int (nI rn), .ref ea, .long tr, .ref eb])), (e6, .inl (G.2.2.1, 15, .inl (nF la))), (e7, .inl (G.2.2.1, 15, .inl (nF lb))), (e8, .inl (G.2.2.1, 9, .inl (nF (va_up ne1 l (bsd la lb wo l m)))))]) F rfl rfl (by omega) rfl (nF_up _ _ _) rfl dX8_looks_21 rfl ?_
        refine j_iinc (q := 25) (i0 := 2) (v := nI (l + 1)) (lv' := [(2, .int (nI (l + 1))), (0, .ref e0), (1, .int (nI wo))]) F dX8_looks_22 rfl (nI_add _ _) (by decide) rfl rfl ?_
        refine j_goto (t := 2) F dX8_looks_25 rfl ?_
        refine j_lv [1, 2, 0] (lv' := [(0, .ref e0), (1, .int (nI wo)), (2, .int (nI (l + 1)))]) rfl ?_
        exact ih1 (l + 1) _ (by omega) (fun i hi => by rcases (show i < l ∨ i = l by omega) with z | z; rw [up_n _ _ (by omega)]; exact hne i z; subst z; rw [up_s]) (by omega)
  refine j_lv [1, 2, 0] (lv' := [(0, .ref e0), (1, .int (nI wo)), (2, .int (nI 0))]) rfl ?_
  exact lp1 _ 0 ne (Nat.zero_le _) (fun i h => absurd h (Nat.not_lt_zero i)) (Nat.lt_succ_self _)

set_option maxHeartbeats 4000000 in
set_option maxRecDepth 100000 in
theorem c_X8_rings (G : Gm) {e0 e1 e2 e3 e4 e5 e6 e7 e8 e9 ea eb : Nat} {ln aa bg tk td rl rs rd n m be sd tu fo kn tl rn : Nat} {ru ne : Nat → Nat}  {tr : Int64} {s : Nat} {f : Nat → Nat} (hW : Wk n ru ne f) (hs : s < 512) : Mg G yX8_rings cX8_rings 8 (some .int) ({ frames := 1, cells := 0, slots := 0, locals := 22 } : Room) 0 0 [.ref e0, .int (nI s)] [(e0, .inr (8, [.ref e1, .int (nI ln), .int (nI aa), .int (nI bg), .int (nI tk), .int (nI td), .int (nI rl), .int (nI rs), .int (nI rd), .ref e2, .ref e3, .ref e4, .int (nI n), .int (nI m), .ref e5, .ref e6, .ref e7, .int (nI be), .int (nI sd), .int (nI tu), .int (nI fo), .ref e8, .ref e9, .int (nI kn), .int (nI tl), .int (nI rn), .ref ea, .long tr, .ref eb])), (e5, .inl (G.2.2.1, 9, .inl (nF ru))), (e8, .inl (G.2.2.1, 9, .inl (nF ne)))] (fun r w2 => w2 = [(e0, .inr (8, [.ref e1, .int (nI ln), .int (nI aa), .int (nI bg), .int (nI tk), .int (nI td), .int (nI rl), .int (nI rs), .int (nI rd), .ref e2, .ref e3, .ref e4, .int (nI n), .int (nI m), .ref e5, .ref e6, .ref e7, .int (nI be), .int (nI sd), .int (nI tu), .int (nI fo), .ref e8, .ref e9, .int (nI kn), .int (nI tl), .int (nI rn), .ref ea, .long tr, .ref eb])), (e5, .inl (G.2.2.1, 9, .inl (nF ru))), (e8, .inl (G.2.2.1, 9, .inl (nF ne)))] ∧ r = some (.int (nI (f s)))) := by
  have hn := hW.1
  refine Mg.mk (lv := [(0, .ref e0), (1, .int (nI s))]) (by decide) rfl rfl (fun X F R0 => ?_)
  refine j_iconst (q := 1) (v := nI 0) F (by decide) dX8_rings_0 rfl ?_
  refine j_istore_n (q := 2) (lv' := [(2, .int (nI 0)), (0, .ref e0), (1, .int (nI s))]) F dX8_rings_1 (by decide) rfl rfl ?_
  refine j_iconst (q := 3) (v := nI 0) F (by decide) dX8_rings_2 rfl ?_
  refine j_istore_n (q := 4) (lv' := [(3, .int (nI 0)), (2, .int (nI 0)), (0, .ref e0), (1, .int (nI s))]) F dX8_rings_3 (by decide) rfl rfl ?_
  have lp1 : ∀ (fu : Nat) (l : Nat) (hl : l ≤ n), (n - l) < fu → Jw G X 8 0 0 4 [(0, .ref e0), (1, .int (nI s)), (2, .int (nI (rg ru ne s l))), (3, .int (nI l))] [] [(e0, .inr (8, [.ref e1, .int (nI ln), .int (nI aa), .int (nI bg), .int (nI tk), .int (nI td), .int (nI rl), .int (nI rs), .int (nI rd), .ref e2, .ref e3, .ref e4, .int (nI n), .int (nI m), .ref e5, .ref e6, .ref e7, .int (nI be), .int (nI sd), .int (nI tu), .int (nI fo), .ref e8, .ref e9, .int (nI kn), .int (nI tl), .int (nI rn), .ref ea, .long tr, .ref eb])), (e5, .inl (G.2.2.1, 9, .inl (nF ru))), (e8, .inl (G.2.2.1, 9, .inl (nF ne)))] := by
    intro fu
    induction fu with
    | zero => intro l hl hfu; exact absurd hfu (Nat.not_lt_zero _)
    | succ fu ih1 =>
      intro l hl hfu
      refine j_iload_n (q := 5) (i0 := 3) F rfl dX8_rings_4 rfl ?_
      refine j_aload_n (q := 6) (i0 := 0) F rfl dX8_rings_5 rfl ?_
      refine j_get (q := 9) (ci := 8) (q0 := 0) (kf := 12) (v := .int (nI n)) F inX8 rfl rfl rfl tw_670 rfl rfl dX8_rings_6 rfl ?_
      refine j_icmp_ge (q := 12) (t := 164) F (Pp := n ≤ l) (nI_leI (by omega) (by omega)) dX8_rings_9 rfl rfl (fun c2 => ?_) (fun c2 => ?_)
      · skip
        refine j_iload_n (q := 165) (i0 := 2) F rfl dX8_rings_164 rfl ?_
        exact j_iret (w2 := [(e0, .inr (8, [.ref e1, .int (nI ln), .int (nI aa), .int (nI bg), .int (nI tk), .int (nI td), .int (nI rl), .int (nI rs), .int (nI rd), .ref e2, .ref e3, .ref e4, .int (nI n), .int (nI m), .ref e5, .ref e6, .ref e7, .int (nI be), .int (nI sd), .int (nI tu), .int (nI fo), .ref e8, .ref e9, .int (nI kn), .int (nI tl), .int (nI rn), .ref ea, .long tr, .ref eb])), (e5, .inl (G.2.2.1, 9, .inl (nF ru))), (e8, .inl (G.2.2.1, 9, .inl (nF ne)))]) F R0 rfl [0, 1, 2] rfl rfl (by rw [← hW.2.2.2 s hs, show l = n by omega]; exact ⟨rfl, rfl⟩) dX8_rings_165
      · skip
        have hr := hW.2.1 l (by omega)
        have ha := hW.2.2.1 l (by omega)
        have hsp := pcN_split (ne l) s
        have hp1 := pcN_le (ne l)
        have hb1 := bitN_le s l
        refine j_iload_n (q := 13) (i0 := 1) F rfl dX8_rings_12 rfl ?_
        refine j_iload_n (q := 14) (i0 := 3) F rfl dX8_rings_13 rfl ?_
        refine j_ishr (q := 15) (v := nI (s >>> l)) F (nx_shr (by omega) (by omega)) dX8_rings_14 rfl ?_
        refine j_iconst (q := 16) (v := nI 1) F (by decide) dX8_rings_15 rfl ?_
        refine j_iand (q := 17) (v := nI (bitN s l)) F (nx_and _ _) dX8_rings_16 rfl ?_
        refine j_istore (q := 19) (lv' := [(4, .int (nI (bitN s l))), (0, .ref e0), (1, .int (nI s)), (2, .int (nI (rg ru ne s l))), (3, .int (nI l))]) F dX8_rings_17 (by decide) rfl rfl ?_
        refine j_aload_n (q := 20) (i0 := 1) F rfl dX8_rings_19 rfl ?_
        refine j_get (q := 23) (ci := 8) (q0 := 0) (kf := 21) (v := .ref e8) F inX8 rfl rfl rfl tw_679 rfl rfl dX8_rings_20 rfl ?_
        refine j_iload_n (q := 24) (i0 := 4) F rfl dX8_rings_23 rfl ?_
        refine j_iald (q := 25) (q0 := 2) (i := l) (v := nI (ne l)) F rfl rfl (by omega) rfl (rfl) dX8_rings_24 rfl ?_
        refine j_iload_n (q := 26) (i0 := 2) F rfl dX8_rings_25 rfl ?_
        refine j_iand (q := 27) (v := nI ((ne l) &&& s)) F (nx_and _ _) dX8_rings_26 rfl ?_
        refine j_callS (q := 30) (As := [.int (nI ((ne l) &&& s))]) (wr := [(e0, .inr (8, [.ref e1, .int (nI ln), .int (nI aa), .int (nI bg), .int (nI tk), .int (nI td), .int (nI rl), .int (nI rs), .int (nI rd), .ref e2, .ref e3, .ref e4, .int (nI n), .int (nI m), .ref e5, .ref e6, .ref e7, .int (nI be), .int (nI sd), .int (nI tu), .int (nI fo), .ref e8, .ref e9, .int (nI kn), .int (nI tl), .int (nI rn), .ref ea, .long tr, .ref eb])), (e5, .inl (G.2.2.1, 9, .inl (nF ru))), (e8, .inl (G.2.2.1, 9, .inl (nF ne)))]) (st := []) F (c_X8_many G (k := ne l &&& s) (Nat.lt_trans (and_lt ha) (by decide))) kwX8_many tw_809 tw_808 ⟨Nat.le_of_ble_eq_true rfl, Nat.le_of_ble_eq_true rfl, rfl, rfl, Nat.le_of_ble_eq_true rfl, Nat.le_of_ble_eq_true rfl⟩ [] [0, 1, 2] rfl rfl rfl rfl rfl rfl rfl (Nat.le_of_ble_eq_true rfl) dX8_rings_27 rfl ?_
        rintro r_ w_ ⟨rfl, rfl⟩
        refine j_w (w' := [(e0, .inr (8, [.ref e1, .int (nI ln), .int (nI aa), .int (nI bg), .int (nI tk), .int (nI td), .int (nI rl), .int (nI rs), .int (nI rd), .ref e2, .ref e3, .ref e4, .int (nI n), .int (nI m), .ref e5, .ref e6, .ref e7, .int (nI be), .int (nI sd), .int (nI tu), .int (nI fo), .ref e8, .ref e9, .int (nI kn), .int (nI tl), .int (nI rn), .ref ea, .long tr, .ref eb])), (e5, .inl (G.2.2.1, 9, .inl (nF ru))), (e8, .inl (G.2.2.1, 9, .inl (nF ne)))]) [0, 1, 2] rfl rfl ?_
        show Jw G X _ 0 0 30 _ [.int (nI (pcN (ne l &&& s)))] _
        refine j_istore (q := 32) (lv' := [(5, .int (nI (pcN (ne l &&& s)))), (4, .int (nI (bitN s l))), (0, .ref e0), (1, .int (nI s)), (2, .int (nI (rg ru ne s l))), (3, .int (nI l))]) F dX8_rings_30 (by decide) rfl rfl ?_
        refine j_aload_n (q := 33) (i0 := 2) F rfl dX8_rings_32 rfl ?_
        refine j_get (q := 36) (ci := 8) (q0 := 0) (kf := 21) (v := .ref e8) F inX8 rfl rfl rfl tw_679 rfl rfl dX8_rings_33 rfl ?_
        refine j_iload_n (q := 37) (i0 := 5) F rfl dX8_rings_36 rfl ?_
        refine j_iald (q := 38) (q0 := 2) (i := l) (v := nI (ne l)) F rfl rfl (by omega) rfl (rfl) dX8_rings_37 rfl ?_
        refine j_callS (q := 41) (As := [.int (nI (ne l))]) (wr := [(e0, .inr (8, [.ref e1, .int (nI ln), .int (nI aa), .int (nI bg), .int (nI tk), .int (nI td), .int (nI rl), .int (nI rs), .int (nI rd), .ref e2, .ref e3, .ref e4, .int (nI n), .int (nI m), .ref e5, .ref e6, .ref e7, .int (nI be), .int (nI sd), .int (nI tu), .int (nI fo), .ref e8, .ref e9, .int (nI kn), .int (nI tl), .int (nI rn), .ref ea, .long tr, .ref eb])), (e5, .inl (G.2.2.1, 9, .inl (nF ru))), (e8, .inl (G.2.2.1, 9, .inl (nF ne)))]) (st := []) F (c_X8_many G (k := ne l) (by omega)) kwX8_many tw_809 tw_808 ⟨Nat.le_of_ble_eq_true rfl, Nat.le_of_ble_eq_true rfl, rfl, rfl, Nat.le_of_ble_eq_true rfl, Nat.le_of_ble_eq_true rfl⟩ [] [0, 1, 2] rfl rfl rfl rfl rfl rfl rfl (Nat.le_of_ble_eq_true rfl) dX8_rings_38 rfl ?_
        rintro r_ w_ ⟨rfl, rfl⟩
        refine j_w (w' := [(e0, .inr (8, [.ref e1, .int (nI ln), .int (nI aa), .int (nI bg), .int (nI tk), .int (nI td), .int (nI rl), .int (nI rs), .int (nI rd), .ref e2, .ref e3, .ref e4, .int (nI n), .int (nI m), .ref e5, .ref e6, .ref e7, .int (nI be), .int (nI sd), .int (nI tu), .int (nI fo), .ref e8, .ref e9, .int (nI kn), .int (nI tl), .int (nI rn), .ref ea, .long tr, .ref eb])), (e5, .inl (G.2.2.1, 9, .inl (nF ru))), (e8, .inl (G.2.2.1, 9, .inl (nF ne)))]) [0, 1, 2] rfl rfl ?_
        show Jw G X _ 0 0 41 _ [.int (nI (pcN (ne l)))] _
        refine j_iload (q := 43) (i0 := 0) F rfl dX8_rings_41 rfl ?_
        refine j_isub (q := 44) (v := nI ((pcN (ne l)) - (pcN (ne l &&& s)))) F (pk_sub (by omega)) dX8_rings_43 rfl ?_
        refine j_istore (q := 46) (lv' := [(6, .int (nI ((pcN (ne l)) - (pcN (ne l &&& s))))), (5, .int (nI (pcN (ne l &&& s)))), (4, .int (nI (bitN s l))), (0, .ref e0), (1, .int (nI s)), (2, .int (nI (rg ru ne s l))), (3, .int (nI l))]) F dX8_rings_44 (by decide) rfl rfl ?_
        refine j_iload (q := 48) (i0 := 2) F rfl dX8_rings_46 rfl ?_
        refine j_istore (q := 50) (lv' := [(7, .int (nI (bitN s l))), (6, .int (nI ((pcN (ne l)) - (pcN (ne l &&& s))))), (5, .int (nI (pcN (ne l &&& s)))), (4, .int (nI (bitN s l))), (0, .ref e0), (1, .int (nI s)), (2, .int (nI (rg ru ne s l))), (3, .int (nI l))]) F dX8_rings_48 (by decide) rfl rfl ?_
        refine j_aload_n (q := 51) (i0 := 4) F rfl dX8_rings_50 rfl ?_
        refine j_get (q := 54) (ci := 8) (q0 := 0) (kf := 14) (v := .ref e5) F inX8 rfl rfl rfl tw_672 rfl rfl dX8_rings_51 rfl ?_
        refine j_iload_n (q := 55) (i0 := 7) F rfl dX8_rings_54 rfl ?_
        refine j_iald (q := 56) (q0 := 1) (i := l) (v := nI (ru l)) F rfl rfl (by omega) rfl (rfl) dX8_rings_55 rfl ?_
        rcases (show ru l = 0 ∨ ru l = 1 ∨ ru l = 2 ∨ ru l = 3 by omega) with hr4 | hr4 | hr4 | hr4
        · refine j_tabIn (off := 28) (t := 84) F dX8_rings_56 (by rw [hr4]; decide) (by rw [hr4]; decide) (by rw [hr4]; rfl) rfl ?_
          refine j_iload (q := 86) (i0 := 2) F rfl dX8_rings_84 rfl ?_
          refine j_iload (q := 88) (i0 := 1) F rfl dX8_rings_86 rfl ?_
          refine j_icmp_ge (q := 91) (t := 95) F (Pp := (pcN (ne l)) - (pcN (ne l &&& s)) ≤ pcN (ne l &&& s)) (nI_leI (by omega) (by omega)) dX8_rings_88 rfl rfl (fun c3 => ?_) (fun c3 => ?_)
          · skip
            refine j_iload (q := 97) (i0 := 2) F rfl dX8_rings_95 rfl ?_
            refine j_iload (q := 99) (i0 := 1) F rfl dX8_rings_97 rfl ?_
            refine j_icmp_le (q := 102) (t := 106) F (Pp := pcN (ne l &&& s) ≤ (pcN (ne l)) - (pcN (ne l &&& s))) (nI_leI (by omega) (by omega)) dX8_rings_99 rfl rfl (fun c4 => ?_) (fun c4 => ?_)
            · skip
              refine j_iload (q := 108) (i0 := 3) F rfl dX8_rings_106 rfl ?_
              refine j_istore (q := 110) (lv' := [(7, .int (nI (bitN s l))), (6, .int (nI ((pcN (ne l)) - (pcN (ne l &&& s))))), (5, .int (nI (pcN (ne l &&& s)))), (4, .int (nI (bitN s l))), (0, .ref e0), (1, .int (nI s)), (2, .int (nI (rg ru ne s l))), (3, .int (nI l))]) F dX8_rings_108 (by decide) rfl rfl ?_
              refine j_goto (t := 151) F dX8_rings_110 rfl ?_
              refine j_iload_n (q := 152) (i0 := 6) F rfl dX8_rings_151 rfl ?_
              refine j_iload (q := 154) (i0 := 0) F rfl dX8_rings_152 rfl ?_
              refine j_iload_n (q := 155) (i0 := 7) F rfl dX8_rings_154 rfl ?_
              refine j_ishl (q := 156) (v := nI ((bitN s l) * 2 ^ l)) F (nx_shl (by omega) (mul_b (by omega) (by omega))) dX8_rings_155 rfl ?_
              refine j_ior (q := 157) (v := nI ((rg ru ne s l) ||| ((bitN s l) * 2 ^ l))) F (nx_or _ _) dX8_rings_156 rfl ?_
              refine j_istore_n (q := 158) (lv' := [(2, .int (nI ((rg ru ne s l) ||| ((bitN s l) * 2 ^ l)))), (7, .int (nI (bitN s l))), (6, .int (nI ((pcN (ne l)) - (pcN (ne l &&& s))))), (5, .int (nI (pcN (ne l &&& s)))), (4, .int (nI (bitN s l))), (0, .ref e0), (1, .int (nI s)), (3, .int (nI l))]) F dX8_rings_157 (by decide) rfl rfl ?_
              refine j_iinc (q := 161) (i0 := 7) (v := nI (l + 1)) (lv' := [(3, .int (nI (l + 1))), (2, .int (nI ((rg ru ne s l) ||| ((bitN s l) * 2 ^ l)))), (7, .int (nI (bitN s l))), (6, .int (nI ((pcN (ne l)) - (pcN (ne l &&& s))))), (5, .int (nI (pcN (ne l &&& s)))), (4, .int (nI (bitN s l))), (0, .ref e0), (1, .int (nI s))]) F dX8_rings_158 rfl (nI_add _ _) (by decide) rfl rfl ?_
              refine j_goto (t := 4) F dX8_rings_161 rfl ?_
              rw [show (rg ru ne s l) ||| ((bitN s l) * 2 ^ l) = rg ru ne s (l + 1) from by rw [rg, show lampOn (ru l) (ne l) s l = bitN s l from by unfold lampOn; (repeat' split) <;> omega]]
              refine j_lv [6, 7, 1, 0] (lv' := [(0, .ref e0), (1, .int (nI s)), (2, .int (nI (rg ru ne s (l + 1)))), (3, .int (nI (l + 1)))]) rfl ?_
              exact ih1 (l + 1) (by omega) (by omega)
            · skip
              refine j_iconst (q := 103) (v := nI 0) F (by decide) dX8_rings_102 rfl ?_
              refine j_goto (t := 108) F dX8_rings_103 rfl ?_
              refine j_istore (q := 110) (lv' := [(7, .int (nI 0)), (6, .int (nI ((pcN (ne l)) - (pcN (ne l &&& s))))), (5, .int (nI (pcN (ne l &&& s)))), (4, .int (nI (bitN s l))), (0, .ref e0), (1, .int (nI s)), (2, .int (nI (rg ru ne s l))), (3, .int (nI l))]) F dX8_rings_108 (by decide) rfl rfl ?_
              refine j_goto (t := 151) F dX8_rings_110 rfl ?_
              refine j_iload_n (q := 152) (i0 := 6) F rfl dX8_rings_151 rfl ?_
              refine j_iload (q := 154) (i0 := 0) F rfl dX8_rings_152 rfl ?_
              refine j_iload_n (q := 155) (i0 := 7) F rfl dX8_rings_154 rfl ?_
              refine j_ishl (q := 156) (v := nI (0 * 2 ^ l)) F (nx_shl (by omega) (mul_b (by omega) (by omega))) dX8_rings_155 rfl ?_
              refine j_ior (q := 157) (v := nI ((rg ru ne s l) ||| (0 * 2 ^ l))) F (nx_or _ _) dX8_rings_156 rfl ?_
              refine j_istore_n (q := 158) (lv' := [(2, .int (nI ((rg ru ne s l) ||| (0 * 2 ^ l)))), (7, .int (nI 0)), (6, .int (nI ((pcN (ne l)) - (pcN (ne l &&& s))))), (5, .int (nI (pcN (ne l &&& s)))), (4, .int (nI (bitN s l))), (0, .ref e0), (1, .int (nI s)), (3, .int (nI l))]) F dX8_rings_157 (by decide) rfl rfl ?_
              refine j_iinc (q := 161) (i0 := 7) (v := nI (l + 1)) (lv' := [(3, .int (nI (l + 1))), (2, .int (nI ((rg ru ne s l) ||| (0 * 2 ^ l)))), (7, .int (nI 0)), (6, .int (nI ((pcN (ne l)) - (pcN (ne l &&& s))))), (5, .int (nI (pcN (ne l &&& s)))), (4, .int (nI (bitN s l))), (0, .ref e0), (1, .int (nI s))]) F dX8_rings_158 rfl (nI_add _ _) (by decide) rfl rfl ?_
              refine j_goto (t := 4) F dX8_rings_161 rfl ?_
              rw [show (rg ru ne s l) ||| (0 * 2 ^ l) = rg ru ne s (l + 1) from by rw [rg, show lampOn (ru l) (ne l) s l = 0 from by unfold lampOn; (repeat' split) <;> omega]]
              refine j_lv [6, 7, 1, 0] (lv' := [(0, .ref e0), (1, .int (nI s)), (2, .int (nI (rg ru ne s (l + 1)))), (3, .int (nI (l + 1)))]) rfl ?_
              exact ih1 (l + 1) (by omega) (by omega)
          · skip
            refine j_iconst (q := 92) (v := nI 1) F (by decide) dX8_rings_91 rfl ?_
            refine j_goto (t := 108) F dX8_rings_92 rfl ?_
            refine j_istore (q := 110) (lv' := [(7, .int (nI 1)), (6, .int (nI ((pcN (ne l)) - (pcN (ne l &&& s))))), (5, .int (nI (pcN (ne l &&& s)))), (4, .int (nI (bitN s l))), (0, .ref e0), (1, .int (nI s)), (2, .int (nI (rg ru ne s l))), (3, .int (nI l))]) F dX8_rings_108 (by decide) rfl rfl ?_
            refine j_goto (t := 151) F dX8_rings_110 rfl ?_
            refine j_iload_n (q := 152) (i0 := 6) F rfl dX8_rings_151 rfl ?_
            refine j_iload (q := 154) (i0 := 0) F rfl dX8_rings_152 rfl ?_
            refine j_iload_n (q := 155) (i0 := 7) F rfl dX8_rings_154 rfl ?_
            refine j_ishl (q := 156) (v := nI (1 * 2 ^ l)) F (nx_shl (by omega) (mul_b (by omega) (by omega))) dX8_rings_155 rfl ?_
            refine j_ior (q := 157) (v := nI ((rg ru ne s l) ||| (1 * 2 ^ l))) F (nx_or _ _) dX8_rings_156 rfl ?_
            refine j_istore_n (q := 158) (lv' := [(2, .int (nI ((rg ru ne s l) ||| (1 * 2 ^ l)))), (7, .int (nI 1)), (6, .int (nI ((pcN (ne l)) - (pcN (ne l &&& s))))), (5, .int (nI (pcN (ne l &&& s)))), (4, .int (nI (bitN s l))), (0, .ref e0), (1, .int (nI s)), (3, .int (nI l))]) F dX8_rings_157 (by decide) rfl rfl ?_
            refine j_iinc (q := 161) (i0 := 7) (v := nI (l + 1)) (lv' := [(3, .int (nI (l + 1))), (2, .int (nI ((rg ru ne s l) ||| (1 * 2 ^ l)))), (7, .int (nI 1)), (6, .int (nI ((pcN (ne l)) - (pcN (ne l &&& s))))), (5, .int (nI (pcN (ne l &&& s)))), (4, .int (nI (bitN s l))), (0, .ref e0), (1, .int (nI s))]) F dX8_rings_158 rfl (nI_add _ _) (by decide) rfl rfl ?_
            refine j_goto (t := 4) F dX8_rings_161 rfl ?_
            rw [show (rg ru ne s l) ||| (1 * 2 ^ l) = rg ru ne s (l + 1) from by rw [rg, show lampOn (ru l) (ne l) s l = 1 from by unfold lampOn; (repeat' split) <;> omega]]
            refine j_lv [6, 7, 1, 0] (lv' := [(0, .ref e0), (1, .int (nI s)), (2, .int (nI (rg ru ne s (l + 1)))), (3, .int (nI (l + 1)))]) rfl ?_
            exact ih1 (l + 1) (by omega) (by omega)
        · refine j_tabIn (off := 57) (t := 113) F dX8_rings_56 (by rw [hr4]; decide) (by rw [hr4]; decide) (by rw [hr4]; rfl) rfl ?_
          refine j_iload (q := 115) (i0 := 2) F rfl dX8_rings_113 rfl ?_
          refine j_iload (q := 117) (i0 := 1) F rfl dX8_rings_115 rfl ?_
          refine j_icmp_le (q := 120) (t := 124) F (Pp := pcN (ne l &&& s) ≤ (pcN (ne l)) - (pcN (ne l &&& s))) (nI_leI (by omega) (by omega)) dX8_rings_117 rfl rfl (fun c5 => ?_) (fun c5 => ?_)
          · skip
            refine j_iload (q := 126) (i0 := 2) F rfl dX8_rings_124 rfl ?_
            refine j_iload (q := 128) (i0 := 1) F rfl dX8_rings_126 rfl ?_
            refine j_icmp_ge (q := 131) (t := 135) F (Pp := (pcN (ne l)) - (pcN (ne l &&& s)) ≤ pcN (ne l &&& s)) (nI_leI (by omega) (by omega)) dX8_rings_128 rfl rfl (fun c6 => ?_) (fun c6 => ?_)
            · skip
              refine j_iload (q := 137) (i0 := 3) F rfl dX8_rings_135 rfl ?_
              refine j_istore (q := 139) (lv' := [(7, .int (nI (bitN s l))), (6, .int (nI ((pcN (ne l)) - (pcN (ne l &&& s))))), (5, .int (nI (pcN (ne l &&& s)))), (4, .int (nI (bitN s l))), (0, .ref e0), (1, .int (nI s)), (2, .int (nI (rg ru ne s l))), (3, .int (nI l))]) F dX8_rings_137 (by decide) rfl rfl ?_
              refine j_goto (t := 151) F dX8_rings_139 rfl ?_
              refine j_iload_n (q := 152) (i0 := 6) F rfl dX8_rings_151 rfl ?_
              refine j_iload (q := 154) (i0 := 0) F rfl dX8_rings_152 rfl ?_
              refine j_iload_n (q := 155) (i0 := 7) F rfl dX8_rings_154 rfl ?_
              refine j_ishl (q := 156) (v := nI ((bitN s l) * 2 ^ l)) F (nx_shl (by omega) (mul_b (by omega) (by omega))) dX8_rings_155 rfl ?_
              refine j_ior (q := 157) (v := nI ((rg ru ne s l) ||| ((bitN s l) * 2 ^ l))) F (nx_or _ _) dX8_rings_156 rfl ?_
              refine j_istore_n (q := 158) (lv' := [(2, .int (nI ((rg ru ne s l) ||| ((bitN s l) * 2 ^ l)))), (7, .int (nI (bitN s l))), (6, .int (nI ((pcN (ne l)) - (pcN (ne l &&& s))))), (5, .int (nI (pcN (ne l &&& s)))), (4, .int (nI (bitN s l))), (0, .ref e0), (1, .int (nI s)), (3, .int (nI l))]) F dX8_rings_157 (by decide) rfl rfl ?_
              refine j_iinc (q := 161) (i0 := 7) (v := nI (l + 1)) (lv' := [(3, .int (nI (l + 1))), (2, .int (nI ((rg ru ne s l) ||| ((bitN s l) * 2 ^ l)))), (7, .int (nI (bitN s l))), (6, .int (nI ((pcN (ne l)) - (pcN (ne l &&& s))))), (5, .int (nI (pcN (ne l &&& s)))), (4, .int (nI (bitN s l))), (0, .ref e0), (1, .int (nI s))]) F dX8_rings_158 rfl (nI_add _ _) (by decide) rfl rfl ?_
              refine j_goto (t := 4) F dX8_rings_161 rfl ?_
              rw [show (rg ru ne s l) ||| ((bitN s l) * 2 ^ l) = rg ru ne s (l + 1) from by rw [rg, show lampOn (ru l) (ne l) s l = bitN s l from by unfold lampOn; (repeat' split) <;> omega]]
              refine j_lv [6, 7, 1, 0] (lv' := [(0, .ref e0), (1, .int (nI s)), (2, .int (nI (rg ru ne s (l + 1)))), (3, .int (nI (l + 1)))]) rfl ?_
              exact ih1 (l + 1) (by omega) (by omega)
            · skip
              refine j_iconst (q := 132) (v := nI 0) F (by decide) dX8_rings_131 rfl ?_
              refine j_goto (t := 137) F dX8_rings_132 rfl ?_
              refine j_istore (q := 139) (lv' := [(7, .int (nI 0)), (6, .int (nI ((pcN (ne l)) - (pcN (ne l &&& s))))), (5, .int (nI (pcN (ne l &&& s)))), (4, .int (nI (bitN s l))), (0, .ref e0), (1, .int (nI s)), (2, .int (nI (rg ru ne s l))), (3, .int (nI l))]) F dX8_rings_137 (by decide) rfl rfl ?_
              refine j_goto (t := 151) F dX8_rings_139 rfl ?_
              refine j_iload_n (q := 152) (i0 := 6) F rfl dX8_rings_151 rfl ?_
              refine j_iload (q := 154) (i0 := 0) F rfl dX8_rings_152 rfl ?_
              refine j_iload_n (q := 155) (i0 := 7) F rfl dX8_rings_154 rfl ?_
              refine j_ishl (q := 156) (v := nI (0 * 2 ^ l)) F (nx_shl (by omega) (mul_b (by omega) (by omega))) dX8_rings_155 rfl ?_
              refine j_ior (q := 157) (v := nI ((rg ru ne s l) ||| (0 * 2 ^ l))) F (nx_or _ _) dX8_rings_156 rfl ?_
              refine j_istore_n (q := 158) (lv' := [(2, .int (nI ((rg ru ne s l) ||| (0 * 2 ^ l)))), (7, .int (nI 0)), (6, .int (nI ((pcN (ne l)) - (pcN (ne l &&& s))))), (5, .int (nI (pcN (ne l &&& s)))), (4, .int (nI (bitN s l))), (0, .ref e0), (1, .int (nI s)), (3, .int (nI l))]) F dX8_rings_157 (by decide) rfl rfl ?_
              refine j_iinc (q := 161) (i0 := 7) (v := nI (l + 1)) (lv' := [(3, .int (nI (l + 1))), (2, .int (nI ((rg ru ne s l) ||| (0 * 2 ^ l)))), (7, .int (nI 0)), (6, .int (nI ((pcN (ne l)) - (pcN (ne l &&& s))))), (5, .int (nI (pcN (ne l &&& s)))), (4, .int (nI (bitN s l))), (0, .ref e0), (1, .int (nI s))]) F dX8_rings_158 rfl (nI_add _ _) (by decide) rfl rfl ?_
              refine j_goto (t := 4) F dX8_rings_161 rfl ?_
              rw [show (rg ru ne s l) ||| (0 * 2 ^ l) = rg ru ne s (l + 1) from by rw [rg, show lampOn (ru l) (ne l) s l = 0 from by unfold lampOn; (repeat' split) <;> omega]]
              refine j_lv [6, 7, 1, 0] (lv' := [(0, .ref e0), (1, .int (nI s)), (2, .int (nI (rg ru ne s (l + 1)))), (3, .int (nI (l + 1)))]) rfl ?_
              exact ih1 (l + 1) (by omega) (by omega)
          · skip
            refine j_iconst (q := 121) (v := nI 1) F (by decide) dX8_rings_120 rfl ?_
            refine j_goto (t := 137) F dX8_rings_121 rfl ?_
            refine j_istore (q := 139) (lv' := [(7, .int (nI 1)), (6, .int (nI ((pcN (ne l)) - (pcN (ne l &&& s))))), (5, .int (nI (pcN (ne l &&& s)))), (4, .int (nI (bitN s l))), (0, .ref e0), (1, .int (nI s)), (2, .int (nI (rg ru ne s l))), (3, .int (nI l))]) F dX8_rings_137 (by decide) rfl rfl ?_
            refine j_goto (t := 151) F dX8_rings_139 rfl ?_
            refine j_iload_n (q := 152) (i0 := 6) F rfl dX8_rings_151 rfl ?_
            refine j_iload (q := 154) (i0 := 0) F rfl dX8_rings_152 rfl ?_
            refine j_iload_n (q := 155) (i0 := 7) F rfl dX8_rings_154 rfl ?_
            refine j_ishl (q := 156) (v := nI (1 * 2 ^ l)) F (nx_shl (by omega) (mul_b (by omega) (by omega))) dX8_rings_155 rfl ?_
            refine j_ior (q := 157) (v := nI ((rg ru ne s l) ||| (1 * 2 ^ l))) F (nx_or _ _) dX8_rings_156 rfl ?_
            refine j_istore_n (q := 158) (lv' := [(2, .int (nI ((rg ru ne s l) ||| (1 * 2 ^ l)))), (7, .int (nI 1)), (6, .int (nI ((pcN (ne l)) - (pcN (ne l &&& s))))), (5, .int (nI (pcN (ne l &&& s)))), (4, .int (nI (bitN s l))), (0, .ref e0), (1, .int (nI s)), (3, .int (nI l))]) F dX8_rings_157 (by decide) rfl rfl ?_
            refine j_iinc (q := 161) (i0 := 7) (v := nI (l + 1)) (lv' := [(3, .int (nI (l + 1))), (2, .int (nI ((rg ru ne s l) ||| (1 * 2 ^ l)))), (7, .int (nI 1)), (6, .int (nI ((pcN (ne l)) - (pcN (ne l &&& s))))), (5, .int (nI (pcN (ne l &&& s)))), (4, .int (nI (bitN s l))), (0, .ref e0), (1, .int (nI s))]) F dX8_rings_158 rfl (nI_add _ _) (by decide) rfl rfl ?_
            refine j_goto (t := 4) F dX8_rings_161 rfl ?_
            rw [show (rg ru ne s l) ||| (1 * 2 ^ l) = rg ru ne s (l + 1) from by rw [rg, show lampOn (ru l) (ne l) s l = 1 from by unfold lampOn; (repeat' split) <;> omega]]
            refine j_lv [6, 7, 1, 0] (lv' := [(0, .ref e0), (1, .int (nI s)), (2, .int (nI (rg ru ne s (l + 1)))), (3, .int (nI (l + 1)))]) rfl ?_
            exact ih1 (l + 1) (by omega) (by omega)
        · refine j_tabIn (off := 86) (t := 142) F dX8_rings_56 (by rw [hr4]; decide) (by rw [hr4]; decide) (by rw [hr4]; rfl) rfl ?_
          refine j_iconst (q := 143) (v := nI 1) F (by decide) dX8_rings_142 rfl ?_
          refine j_iload (q := 145) (i0 := 3) F rfl dX8_rings_143 rfl ?_
          refine j_isub (q := 146) (v := nI (1 - (bitN s l))) F (pk_sub (by omega)) dX8_rings_145 rfl ?_
          refine j_istore (q := 148) (lv' := [(7, .int (nI (1 - (bitN s l)))), (6, .int (nI ((pcN (ne l)) - (pcN (ne l &&& s))))), (5, .int (nI (pcN (ne l &&& s)))), (4, .int (nI (bitN s l))), (0, .ref e0), (1, .int (nI s)), (2, .int (nI (rg ru ne s l))), (3, .int (nI l))]) F dX8_rings_146 (by decide) rfl rfl ?_
          refine j_goto (t := 151) F dX8_rings_148 rfl ?_
          refine j_iload_n (q := 152) (i0 := 6) F rfl dX8_rings_151 rfl ?_
          refine j_iload (q := 154) (i0 := 0) F rfl dX8_rings_152 rfl ?_
          refine j_iload_n (q := 155) (i0 := 7) F rfl dX8_rings_154 rfl ?_
          refine j_ishl (q := 156) (v := nI ((1 - (bitN s l)) * 2 ^ l)) F (nx_shl (by omega) (mul_b (by omega) (by omega))) dX8_rings_155 rfl ?_
          refine j_ior (q := 157) (v := nI ((rg ru ne s l) ||| ((1 - (bitN s l)) * 2 ^ l))) F (nx_or _ _) dX8_rings_156 rfl ?_
          refine j_istore_n (q := 158) (lv' := [(2, .int (nI ((rg ru ne s l) ||| ((1 - (bitN s l)) * 2 ^ l)))), (7, .int (nI (1 - (bitN s l)))), (6, .int (nI ((pcN (ne l)) - (pcN (ne l &&& s))))), (5, .int (nI (pcN (ne l &&& s)))), (4, .int (nI (bitN s l))), (0, .ref e0), (1, .int (nI s)), (3, .int (nI l))]) F dX8_rings_157 (by decide) rfl rfl ?_
          refine j_iinc (q := 161) (i0 := 7) (v := nI (l + 1)) (lv' := [(3, .int (nI (l + 1))), (2, .int (nI ((rg ru ne s l) ||| ((1 - (bitN s l)) * 2 ^ l)))), (7, .int (nI (1 - (bitN s l)))), (6, .int (nI ((pcN (ne l)) - (pcN (ne l &&& s))))), (5, .int (nI (pcN (ne l &&& s)))), (4, .int (nI (bitN s l))), (0, .ref e0), (1, .int (nI s))]) F dX8_rings_158 rfl (nI_add _ _) (by decide) rfl rfl ?_
          refine j_goto (t := 4) F dX8_rings_161 rfl ?_
          rw [show (rg ru ne s l) ||| ((1 - (bitN s l)) * 2 ^ l) = rg ru ne s (l + 1) from by rw [rg, show lampOn (ru l) (ne l) s l = 1 - (bitN s l) from by unfold lampOn; (repeat' split) <;> omega]]
          refine j_lv [6, 7, 1, 0] (lv' := [(0, .ref e0), (1, .int (nI s)), (2, .int (nI (rg ru ne s (l + 1)))), (3, .int (nI (l + 1)))]) rfl ?_
          exact ih1 (l + 1) (by omega) (by omega)
        · refine j_tabOut (t := 151) F dX8_rings_56 (by rw [hr4]; decide) rfl ?_
          refine j_iload_n (q := 152) (i0 := 6) F rfl dX8_rings_151 rfl ?_
          refine j_iload (q := 154) (i0 := 0) F rfl dX8_rings_152 rfl ?_
          refine j_iload_n (q := 155) (i0 := 7) F rfl dX8_rings_154 rfl ?_
          refine j_ishl (q := 156) (v := nI ((bitN s l) * 2 ^ l)) F (nx_shl (by omega) (mul_b (by omega) (by omega))) dX8_rings_155 rfl ?_
          refine j_ior (q := 157) (v := nI ((rg ru ne s l) ||| ((bitN s l) * 2 ^ l))) F (nx_or _ _) dX8_rings_156 rfl ?_
          refine j_istore_n (q := 158) (lv' := [(2, .int (nI ((rg ru ne s l) ||| ((bitN s l) * 2 ^ l)))), (7, .int (nI (bitN s l))), (6, .int (nI ((pcN (ne l)) - (pcN (ne l &&& s))))), (5, .int (nI (pcN (ne l &&& s)))), (4, .int (nI (bitN s l))), (0, .ref e0), (1, .int (nI s)), (3, .int (nI l))]) F dX8_rings_157 (by decide) rfl rfl ?_
          refine j_iinc (q := 161) (i0 := 7) (v := nI (l + 1)) (lv' := [(3, .int (nI (l + 1))), (2, .int (nI ((rg ru ne s l) ||| ((bitN s l) * 2 ^ l)))), (7, .int (nI (bitN s l))), (6, .int (nI ((pcN (ne l)) - (pcN (ne l &&& s))))), (5, .int (nI (pcN (ne l &&& s)))), (4, .int (nI (bitN s l))), (0, .ref e0), (1, .int (nI s))]) F dX8_rings_158 rfl (nI_add _ _) (by decide) rfl rfl ?_
          refine j_goto (t := 4) F dX8_rings_161 rfl ?_
          rw [show (rg ru ne s l) ||| ((bitN s l) * 2 ^ l) = rg ru ne s (l + 1) from by rw [rg, show lampOn (ru l) (ne l) s l = bitN s l from by unfold lampOn; (repeat' split) <;> omega]]
          refine j_lv [6, 7, 1, 0] (lv' := [(0, .ref e0), (1, .int (nI s)), (2, .int (nI (rg ru ne s (l + 1)))), (3, .int (nI (l + 1)))]) rfl ?_
          exact ih1 (l + 1) (by omega) (by omega)
  refine j_lv [2, 3, 1, 0] (lv' := [(0, .ref e0), (1, .int (nI s)), (2, .int (nI 0)), (3, .int (nI 0))]) rfl ?_
  exact lp1 _ 0 (Nat.zero_le _) (Nat.lt_succ_self _)

set_option maxHeartbeats 4000000 in
set_option maxRecDepth 100000 in
theorem c_X8_goesOn (G : Gm) {e0 e1 e2 e3 e4 e5 e6 e7 e8 e9 ea eb : Nat} {ln aa bg tk td rl rs rd n m be sd tu fo kn tl rn : Nat} {ru ne : Nat → Nat}  {tr : Int64} {s k : Nat} {f : Nat → Nat} (hW : Wk n ru ne f) (hs : s < 512) (hk : k ≤ 1000) : Mg G yX8_goesOn cX8_goesOn 5 (some .int) ({ frames := 2, cells := 0, slots := 0, locals := 49 } : Room) 0 0 [.ref e0, .int (nI s), .int (nI k)] [(e0, .inr (8, [.ref e1, .int (nI ln), .int (nI aa), .int (nI bg), .int (nI tk), .int (nI td), .int (nI rl), .int (nI rs), .int (nI rd), .ref e2, .ref e3, .ref e4, .int (nI n), .int (nI m), .ref e5, .ref e6, .ref e7, .int (nI be), .int (nI sd), .int (nI tu), .int (nI fo), .ref e8, .ref e9, .int (nI kn), .int (nI tl), .int (nI rn), .ref ea, .long tr, .ref eb])), (e5, .inl (G.2.2.1, 9, .inl (nF ru))), (e8, .inl (G.2.2.1, 9, .inl (nF ne)))] (fun r w2 => w2 = [(e0, .inr (8, [.ref e1, .int (nI ln), .int (nI aa), .int (nI bg), .int (nI tk), .int (nI td), .int (nI rl), .int (nI rs), .int (nI rd), .ref e2, .ref e3, .ref e4, .int (nI n), .int (nI m), .ref e5, .ref e6, .ref e7, .int (nI be), .int (nI sd), .int (nI tu), .int (nI fo), .ref e8, .ref e9, .int (nI kn), .int (nI tl), .int (nI rn), .ref ea, .long tr, .ref eb])), (e5, .inl (G.2.2.1, 9, .inl (nF ru))), (e8, .inl (G.2.2.1, 9, .inl (nF ne)))] ∧ r = some (.int (nI (it f k s)))) := by
  refine Mg.mk (lv := [(0, .ref e0), (1, .int (nI s)), (2, .int (nI k))]) (by decide) rfl rfl (fun X F R0 => ?_)
  refine j_iload_n (q := 1) (i0 := 1) F rfl dX8_goesOn_0 rfl ?_
  refine j_istore_n (q := 2) (lv' := [(3, .int (nI s)), (0, .ref e0), (1, .int (nI s)), (2, .int (nI k))]) F dX8_goesOn_1 (by decide) rfl rfl ?_
  refine j_iconst (q := 3) (v := nI 0) F (by decide) dX8_goesOn_2 rfl ?_
  refine j_istore (q := 5) (lv' := [(4, .int (nI 0)), (3, .int (nI s)), (0, .ref e0), (1, .int (nI s)), (2, .int (nI k))]) F dX8_goesOn_3 (by decide) rfl rfl ?_
  have lp1 : ∀ (fu : Nat) (b : Nat) (hb : b ≤ k), (k - b) < fu → Jw G X 5 0 0 5 [(0, .ref e0), (1, .int (nI s)), (2, .int (nI k)), (3, .int (nI (it f b s))), (4, .int (nI b))] [] [(e0, .inr (8, [.ref e1, .int (nI ln), .int (nI aa), .int (nI bg), .int (nI tk), .int (nI td), .int (nI rl), .int (nI rs), .int (nI rd), .ref e2, .ref e3, .ref e4, .int (nI n), .int (nI m), .ref e5, .ref e6, .ref e7, .int (nI be), .int (nI sd), .int (nI tu), .int (nI fo), .ref e8, .ref e9, .int (nI kn), .int (nI tl), .int (nI rn), .ref ea, .long tr, .ref eb])), (e5, .inl (G.2.2.1, 9, .inl (nF ru))), (e8, .inl (G.2.2.1, 9, .inl (nF ne)))] := by
    intro fu
    induction fu with
    | zero => intro b hb hfu; exact absurd hfu (Nat.not_lt_zero _)
    | succ fu ih1 =>
      intro b hb hfu
      refine j_iload (q := 7) (i0 := 4) F rfl dX8_goesOn_5 rfl ?_
      refine j_iload_n (q := 8) (i0 := 2) F rfl dX8_goesOn_7 rfl ?_
      refine j_icmp_ge (q := 11) (t := 23) F (Pp := k ≤ b) (nI_leI (by omega) (by omega)) dX8_goesOn_8 rfl rfl (fun c2 => ?_) (fun c2 => ?_)
      · skip
        refine j_iload_n (q := 24) (i0 := 3) F rfl dX8_goesOn_23 rfl ?_
        exact j_iret (w2 := [(e0, .inr (8, [.ref e1, .int (nI ln), .int (nI aa), .int (nI bg), .int (nI tk), .int (nI td), .int (nI rl), .int (nI rs), .int (nI rd), .ref e2, .ref e3, .ref e4, .int (nI n), .int (nI m), .ref e5, .ref e6, .ref e7, .int (nI be), .int (nI sd), .int (nI tu), .int (nI fo), .ref e8, .ref e9, .int (nI kn), .int (nI tl), .int (nI rn), .ref ea, .long tr, .ref eb])), (e5, .inl (G.2.2.1, 9, .inl (nF ru))), (e8, .inl (G.2.2.1, 9, .inl (nF ne)))]) F R0 rfl [0, 1, 2] rfl rfl (by rw [show k = b by omega]; exact ⟨rfl, rfl⟩) dX8_goesOn_24
      · skip
        refine j_aload_n (q := 12) (i0 := 0) F rfl dX8_goesOn_11 rfl ?_
        refine j_iload_n (q := 13) (i0 := 3) F rfl dX8_goesOn_12 rfl ?_
        refine j_callV (q := 16) (ci := 8) (q0 := 0) (As := [.int (nI (it f b s))]) (wr := []) (st := []) F (c_X8_rings G hW (s := it f b s) (it_lt hW.f5 hs b)) kwX8_rings tw_830 tw_31 tw_828 ⟨Nat.le_of_ble_eq_true rfl, Nat.le_of_ble_eq_true rfl, rfl, rfl, Nat.le_of_ble_eq_true rfl, Nat.le_of_ble_eq_true rfl⟩ [0, 1, 2] [] rfl rfl rfl rfl rfl rfl rfl rfl rfl (Nat.le_of_ble_eq_true rfl) dX8_goesOn_13 rfl ?_
        rintro r_ w_ ⟨rfl, rfl⟩
        refine j_w (w' := [(e0, .inr (8, [.ref e1, .int (nI ln), .int (nI aa), .int (nI bg), .int (nI tk), .int (nI td), .int (nI rl), .int (nI rs), .int (nI rd), .ref e2, .ref e3, .ref e4, .int (nI n), .int (nI m), .ref e5, .ref e6, .ref e7, .int (nI be), .int (nI sd), .int (nI tu), .int (nI fo), .ref e8, .ref e9, .int (nI kn), .int (nI tl), .int (nI rn), .ref ea, .long tr, .ref eb])), (e5, .inl (G.2.2.1, 9, .inl (nF ru))), (e8, .inl (G.2.2.1, 9, .inl (nF ne)))]) [0, 1, 2] rfl rfl ?_
        show Jw G X _ 0 0 16 _ [.int (nI (f (it f b s)))] _
        refine j_istore_n (q := 17) (lv' := [(3, .int (nI (f (it f b s)))), (0, .ref e0), (1, .int (nI s)), (2, .int (nI k)), (4, .int (nI b))]) F dX8_goesOn_16 (by decide) rfl rfl ?_
        refine j_iinc (q := 20) (i0 := 4) (v := nI (b + 1)) (lv' := [(4, .int (nI (b + 1))), (3, .int (nI (f (it f b s)))), (0, .ref e0), (1, .int (nI s)), (2, .int (nI k))]) F dX8_goesOn_17 rfl (nI_add _ _) (by decide) rfl rfl ?_
        refine j_goto (t := 5) F dX8_goesOn_20 rfl ?_
        refine j_lv [2, 3, 4, 1, 0] (lv' := [(0, .ref e0), (1, .int (nI s)), (2, .int (nI k)), (3, .int (nI (f (it f b s)))), (4, .int (nI (b + 1)))]) rfl ?_
        exact ih1 (b + 1) (by omega) (by omega)
  refine j_lv [2, 3, 4, 1, 0] (lv' := [(0, .ref e0), (1, .int (nI s)), (2, .int (nI k)), (3, .int (nI s)), (4, .int (nI 0))]) rfl ?_
  exact lp1 _ 0 (Nat.zero_le _) (Nat.lt_succ_self _)

set_option maxHeartbeats 4000000 in
set_option maxRecDepth 100000 in
theorem c_X8_rounds (G : Gm) {e0 e1 e2 e3 e4 e5 e6 e7 e8 e9 ea eb : Nat} {ln aa bg tk td rl rs rd n m be sd tu fo kn tl rn : Nat} {ru ne : Nat → Nat} {wh : Nat → Int32} {tr : Int64} {s : Nat} {f : Nat → Nat} (hW : Wk n ru ne f) (hs : s < 512) : Mg G yX8_rounds cX8_rounds 4 none ({ frames := 2, cells := 0, slots := 0, locals := 49 } : Room) 0 0 [.ref e0, .int (nI s)] [(e0, .inr (8, [.ref e1, .int (nI ln), .int (nI aa), .int (nI bg), .int (nI tk), .int (nI td), .int (nI rl), .int (nI rs), .int (nI rd), .ref e2, .ref e3, .ref e4, .int (nI n), .int (nI m), .ref e5, .ref e6, .ref e7, .int (nI be), .int (nI sd), .int (nI tu), .int (nI fo), .ref e8, .ref e9, .int (nI kn), .int (nI tl), .int (nI rn), .ref ea, .long tr, .ref eb])), (e5, .inl (G.2.2.1, 9, .inl (nF ru))), (e8, .inl (G.2.2.1, 9, .inl (nF ne))), (ea, .inl (G.2.2.1, 512, .inl wh))] (fun r w2 => ∃ wh2 tl2 rn2, IsRnd f s tl2 rn2 ∧ tl2 < 512 ∧ rn2 ≤ 512 ∧ tl2 + rn2 ≤ 512 ∧ r = none ∧ w2 = [(e0, .inr (8, [.ref e1, .int (nI ln), .int (nI aa), .int (nI bg), .int (nI tk), .int (nI td), .int (nI rl), .int (nI rs), .int (nI rd), .ref e2, .ref e3, .ref e4, .int (nI n), .int (nI m), .ref e5, .ref e6, .ref e7, .int (nI be), .int (nI sd), .int (nI tu), .int (nI fo), .ref e8, .ref e9, .int (nI kn), .int (nI tl2), .int (nI rn2), .ref ea, .long tr, .ref eb])), (e5, .inl (G.2.2.1, 9, .inl (nF ru))), (e8, .inl (G.2.2.1, 9, .inl (nF ne))), (ea, .inl (G.2.2.1, 512, .inl wh2))]) := by
  refine Mg.mk (lv := [(0, .ref e0), (1, .int (nI s))]) (by decide) rfl rfl (fun X F R0 => ?_)
  refine j_iconst (q := 1) (v := nI 0) F (by decide) dX8_rounds_0 rfl ?_
  refine j_istore_n (q := 2) (lv' := [(2, .int (nI 0)), (0, .ref e0), (1, .int (nI s))]) F dX8_rounds_1 (by decide) rfl rfl ?_
  have lp1 : ∀ (fu : Nat) (k : Nat) (hk : k ≤ 512), (512 - k) < fu → Jw G X 4 0 0 2 [(0, .ref e0), (1, .int (nI s)), (2, .int (nI k))] [] [(e0, .inr (8, [.ref e1, .int (nI ln), .int (nI aa), .int (nI bg), .int (nI tk), .int (nI td), .int (nI rl), .int (nI rs), .int (nI rd), .ref e2, .ref e3, .ref e4, .int (nI n), .int (nI m), .ref e5, .ref e6, .ref e7, .int (nI be), .int (nI sd), .int (nI tu), .int (nI fo), .ref e8, .ref e9, .int (nI kn), .int (nI tl), .int (nI rn), .ref ea, .long tr, .ref eb])), (e5, .inl (G.2.2.1, 9, .inl (nF ru))), (e8, .inl (G.2.2.1, 9, .inl (nF ne))), (ea, .inl (G.2.2.1, 512, .inl (fillF wh (-1) k)))] := by
    intro fu
    induction fu with
    | zero => intro k hk hfu; exact absurd hfu (Nat.not_lt_zero _)
    | succ fu ih1 =>
      intro k hk hfu
      refine j_iload_n (q := 3) (i0 := 2) F rfl dX8_rounds_2 rfl ?_
      refine j_sipush (q := 6) (v := nI 512) F (by decide) dX8_rounds_3 rfl ?_
      refine j_icmp_ge (q := 9) (t := 22) F (Pp := 512 ≤ k) (nI_leI (by omega) (by omega)) dX8_rounds_6 rfl rfl (fun c2 => ?_) (fun c2 => ?_)
      · skip
        refine j_iload_n (q := 23) (i0 := 1) F rfl dX8_rounds_22 rfl ?_
        refine j_istore_n (q := 24) (lv' := [(2, .int (nI s)), (0, .ref e0), (1, .int (nI s))]) F dX8_rounds_23 (by decide) rfl rfl ?_
        refine j_iconst (q := 25) (v := nI 0) F (by decide) dX8_rounds_24 rfl ?_
        refine j_istore_n (q := 26) (lv' := [(3, .int (nI 0)), (2, .int (nI s)), (0, .ref e0), (1, .int (nI s))]) F dX8_rounds_25 (by decide) rfl rfl ?_
        have lp3 : ∀ (fu : Nat) (b : Nat) (wh1 : Nat → Int32) (hb : b ≤ 512) (hse : SeOk f s b wh1), (513 - b) < fu → Jw G X 4 0 0 26 [(0, .ref e0), (1, .int (nI s)), (2, .int (nI (it f b s))), (3, .int (nI b))] [] [(e0, .inr (8, [.ref e1, .int (nI ln), .int (nI aa), .int (nI bg), .int (nI tk), .int (nI td), .int (nI rl), .int (nI rs), .int (nI rd), .ref e2, .ref e3, .ref e4, .int (nI n), .int (nI m), .ref e5, .ref e6, .ref e7, .int (nI be), .int (nI sd), .int (nI tu), .int (nI fo), .ref e8, .ref e9, .int (nI kn), .int (nI tl), .int (nI rn), .ref ea, .long tr, .ref eb])), (e5, .inl (G.2.2.1, 9, .inl (nF ru))), (e8, .inl (G.2.2.1, 9, .inl (nF ne))), (ea, .inl (G.2.2.1, 512, .inl wh1))] := by
          intro fu
          induction fu with
          | zero => intro b wh1 hb hse hfu; exact absurd hfu (Nat.not_lt_zero _)
          | succ fu ih3 =>
            intro b wh1 hb hse hfu
            have hat := it_lt hW.f5 hs b
            refine j_aload_n (q := 27) (i0 := 0) F rfl dX8_rounds_26 rfl ?_
            refine j_get (q := 30) (ci := 8) (q0 := 0) (kf := 26) (v := .ref ea) F inX8 rfl rfl rfl tw_684 rfl rfl dX8_rounds_27 rfl ?_
            refine j_iload_n (q := 31) (i0 := 2) F rfl dX8_rounds_30 rfl ?_
            refine j_iald (q := 32) (q0 := 3) (i := (it f b s)) (v := wh1 (it f b s)) F rfl rfl (by omega) rfl (rfl) dX8_rounds_31 rfl ?_
            refine j_if_ge (q := 35) (t := 54) F (Pp := ¬ wh1 (it f b s) = -1) (se_ge hse hat (by omega)) dX8_rounds_32 rfl rfl (fun cge => ?_) (fun cge => ?_)
            · skip
              obtain ⟨i, hi, hsi, hii⟩ := (hse.1 _ hat).resolve_left (fun z => cge z.1)
              refine j_aload_n (q := 55) (i0 := 0) F rfl dX8_rounds_54 rfl ?_
              refine j_aload_n (q := 56) (i0 := 0) F rfl dX8_rounds_55 rfl ?_
              refine j_get (q := 59) (ci := 8) (q0 := 0) (kf := 26) (v := .ref ea) F inX8 rfl rfl rfl tw_684 rfl rfl dX8_rounds_56 rfl ?_
              refine j_iload_n (q := 60) (i0 := 2) F rfl dX8_rounds_59 rfl ?_
              refine j_iald (q := 61) (q0 := 3) (i := (it f b s)) (v := nI i) F rfl rfl (by omega) rfl (hsi) dX8_rounds_60 rfl ?_
              refine j_put (q := 64) (ci := 8) (q0 := 0) (kf := 24) (v := .int (nI i)) (w' := [(e0, .inr (8, [.ref e1, .int (nI ln), .int (nI aa), .int (nI bg), .int (nI tk), .int (nI td), .int (nI rl), .int (nI rs), .int (nI rd), .ref e2, .ref e3, .ref e4, .int (nI n), .int (nI m), .ref e5, .ref e6, .ref e7, .int (nI be), .int (nI sd), .int (nI tu), .int (nI fo), .ref e8, .ref e9, .int (nI kn), .int (nI i), .int (nI rn), .ref ea, .long tr, .ref eb])), (e5, .inl (G.2.2.1, 9, .inl (nF ru))), (e8, .inl (G.2.2.1, 9, .inl (nF ne))), (ea, .inl (G.2.2.1, 512, .inl wh1))]) F inX8 tyX8_ok nmX8 rfl rfl rfl tw_682 rfl rfl rfl rfl rfl rfl dX8_rounds_61 rfl ?_
              refine j_aload_n (q := 65) (i0 := 0) F rfl dX8_rounds_64 rfl ?_
              refine j_iload_n (q := 66) (i0 := 3) F rfl dX8_rounds_65 rfl ?_
              refine j_aload_n (q := 67) (i0 := 0) F rfl dX8_rounds_66 rfl ?_
              refine j_get (q := 70) (ci := 8) (q0 := 0) (kf := 24) (v := .int (nI i)) F inX8 rfl rfl rfl tw_682 rfl rfl dX8_rounds_67 rfl ?_
              refine j_isub (q := 71) (v := nI (b - i)) F (pk_sub (by omega)) dX8_rounds_70 rfl ?_
              refine j_put (q := 74) (ci := 8) (q0 := 0) (kf := 25) (v := .int (nI (b - i))) (w' := [(e0, .inr (8, [.ref e1, .int (nI ln), .int (nI aa), .int (nI bg), .int (nI tk), .int (nI td), .int (nI rl), .int (nI rs), .int (nI rd), .ref e2, .ref e3, .ref e4, .int (nI n), .int (nI m), .ref e5, .ref e6, .ref e7, .int (nI be), .int (nI sd), .int (nI tu), .int (nI fo), .ref e8, .ref e9, .int (nI kn), .int (nI i), .int (nI (b - i)), .ref ea, .long tr, .ref eb])), (e5, .inl (G.2.2.1, 9, .inl (nF ru))), (e8, .inl (G.2.2.1, 9, .inl (nF ne))), (ea, .inl (G.2.2.1, 512, .inl wh1))]) F inX8 tyX8_ok nmX8 rfl rfl rfl tw_683 rfl rfl rfl rfl rfl rfl dX8_rounds_71 rfl ?_
              exact j_vret (w2 := [(e0, .inr (8, [.ref e1, .int (nI ln), .int (nI aa), .int (nI bg), .int (nI tk), .int (nI td), .int (nI rl), .int (nI rs), .int (nI rd), .ref e2, .ref e3, .ref e4, .int (nI n), .int (nI m), .ref e5, .ref e6, .ref e7, .int (nI be), .int (nI sd), .int (nI tu), .int (nI fo), .ref e8, .ref e9, .int (nI kn), .int (nI i), .int (nI (b - i)), .ref ea, .long tr, .ref eb])), (e5, .inl (G.2.2.1, 9, .inl (nF ru))), (e8, .inl (G.2.2.1, 9, .inl (nF ne))), (ea, .inl (G.2.2.1, 512, .inl wh1))]) F R0 rfl [0, 1, 2, 3] rfl rfl (⟨_, i, b - i, ⟨by omega, by rw [show i + (b - i) = b by omega]; exact hii.symm, fun x y h1 h2 => hse.2 x y h1 (by omega)⟩, by omega, by omega, by omega, rfl, rfl⟩) dX8_rounds_74
            · skip
              refine j_aload_n (q := 36) (i0 := 0) F rfl dX8_rounds_35 rfl ?_
              refine j_get (q := 39) (ci := 8) (q0 := 0) (kf := 26) (v := .ref ea) F inX8 rfl rfl rfl tw_684 rfl rfl dX8_rounds_36 rfl ?_
              refine j_iload_n (q := 40) (i0 := 2) F rfl dX8_rounds_39 rfl ?_
              refine j_iload_n (q := 41) (i0 := 3) F rfl dX8_rounds_40 rfl ?_
              refine j_iast (q := 42) (q0 := 3) (i := (it f b s)) (f2 := upd wh1 (it f b s) (nI b)) (w' := [(e0, .inr (8, [.ref e1, .int (nI ln), .int (nI aa), .int (nI bg), .int (nI tk), .int (nI td), .int (nI rl), .int (nI rs), .int (nI rd), .ref e2, .ref e3, .ref e4, .int (nI n), .int (nI m), .ref e5, .ref e6, .ref e7, .int (nI be), .int (nI sd), .int (nI tu), .int (nI fo), .ref e8, .ref e9, .int (nI kn), .int (nI tl), .int (nI rn), .ref ea, .long tr, .ref eb])), (e5, .inl (G.2.2.1, 9, .inl (nF ru))), (e8, .inl (G.2.2.1, 9, .inl (nF ne))), (ea, .inl (G.2.2.1, 512, .inl (upd wh1 (it f b s) (nI b))))]) F rfl rfl (by omega) rfl (rfl) rfl dX8_rounds_41 rfl ?_
              refine j_iinc (q := 45) (i0 := 3) (v := nI (b + 1)) (lv' := [(3, .int (nI (b + 1))), (0, .ref e0), (1, .int (nI s)), (2, .int (nI (it f b s)))]) F dX8_rounds_42 rfl (nI_add _ _) (by decide) rfl rfl ?_
              refine j_aload_n (q := 46) (i0 := 1) F rfl dX8_rounds_45 rfl ?_
              refine j_iload_n (q := 47) (i0 := 3) F rfl dX8_rounds_46 rfl ?_
              refine j_callV (q := 50) (ci := 8) (q0 := 0) (As := [.int (nI (it f b s))]) (wr := [(ea, .inl (G.2.2.1, 512, .inl (upd wh1 (it f b s) (nI b))))]) (st := []) F (c_X8_rings G hW (s := it f b s) (hat)) kwX8_rings tw_830 tw_31 tw_828 ⟨Nat.le_of_ble_eq_true rfl, Nat.le_of_ble_eq_true rfl, rfl, rfl, Nat.le_of_ble_eq_true rfl, Nat.le_of_ble_eq_true rfl⟩ [0, 1, 2] [3] rfl rfl rfl rfl rfl rfl rfl rfl rfl (Nat.le_of_ble_eq_true rfl) dX8_rounds_47 rfl ?_
              rintro r_ w_ ⟨rfl, rfl⟩
              refine j_w (w' := [(e0, .inr (8, [.ref e1, .int (nI ln), .int (nI aa), .int (nI bg), .int (nI tk), .int (nI td), .int (nI rl), .int (nI rs), .int (nI rd), .ref e2, .ref e3, .ref e4, .int (nI n), .int (nI m), .ref e5, .ref e6, .ref e7, .int (nI be), .int (nI sd), .int (nI tu), .int (nI fo), .ref e8, .ref e9, .int (nI kn), .int (nI tl), .int (nI rn), .ref ea, .long tr, .ref eb])), (e5, .inl (G.2.2.1, 9, .inl (nF ru))), (e8, .inl (G.2.2.1, 9, .inl (nF ne))), (ea, .inl (G.2.2.1, 512, .inl (upd wh1 (it f b s) (nI b))))]) [1, 2, 3, 0] rfl rfl ?_
              show Jw G X _ 0 0 50 _ [.int (nI (f (it f b s)))] _
              refine j_istore_n (q := 51) (lv' := [(2, .int (nI (f (it f b s)))), (3, .int (nI (b + 1))), (0, .ref e0), (1, .int (nI s))]) F dX8_rounds_50 (by decide) rfl rfl ?_
              refine j_goto (t := 26) F dX8_rounds_51 rfl ?_
              have hse2 := hse.next (Classical.not_not.mp cge) hat (by omega)
              have hfew := hse2.few (it_lt hW.f5 hs)
              refine j_lv [2, 3, 0, 1] (lv' := [(0, .ref e0), (1, .int (nI s)), (2, .int (nI (f (it f b s)))), (3, .int (nI (b + 1)))]) rfl ?_
              exact ih3 (b + 1) _ (by omega) hse2 (by omega)
        refine j_lv [2, 3, 1, 0] (lv' := [(0, .ref e0), (1, .int (nI s)), (2, .int (nI s)), (3, .int (nI 0))]) rfl ?_
        exact lp3 _ 0 _ (Nat.zero_le _) (by rw [show k = 512 by omega]; exact SeOk.start f s wh) (Nat.lt_succ_self _)
      · skip
        refine j_aload_n (q := 10) (i0 := 0) F rfl dX8_rounds_9 rfl ?_
        refine j_get (q := 13) (ci := 8) (q0 := 0) (kf := 26) (v := .ref ea) F inX8 rfl rfl rfl tw_684 rfl rfl dX8_rounds_10 rfl ?_
        refine j_iload_n (q := 14) (i0 := 2) F rfl dX8_rounds_13 rfl ?_
        refine j_iconst (q := 15) (v := (-1)) F (by decide) dX8_rounds_14 rfl ?_
        refine j_iast (q := 16) (q0 := 3) (i := k) (f2 := fillF wh (-1) (k + 1)) (w' := [(e0, .inr (8, [.ref e1, .int (nI ln), .int (nI aa), .int (nI bg), .int (nI tk), .int (nI td), .int (nI rl), .int (nI rs), .int (nI rd), .ref e2, .ref e3, .ref e4, .int (nI n), .int (nI m), .ref e5, .ref e6, .ref e7, .int (nI be), .int (nI sd), .int (nI tu), .int (nI fo), .ref e8, .ref e9, .int (nI kn), .int (nI tl), .int (nI rn), .ref ea, .long tr, .ref eb])), (e5, .inl (G.2.2.1, 9, .inl (nF ru))), (e8, .inl (G.2.2.1, 9, .inl (nF ne))), (ea, .inl (G.2.2.1, 512, .inl (fillF wh (-1) (k + 1))))]) F rfl rfl (by omega) rfl (fillF_s _ _ _) rfl dX8_rounds_15 rfl ?_
        refine j_iinc (q := 19) (i0 := 2) (v := nI (k + 1)) (lv' := [(2, .int (nI (k + 1))), (0, .ref e0), (1, .int (nI s))]) F dX8_rounds_16 rfl (nI_add _ _) (by decide) rfl rfl ?_
        refine j_goto (t := 2) F dX8_rounds_19 rfl ?_
        refine j_lv [1, 2, 0] (lv' := [(0, .ref e0), (1, .int (nI s)), (2, .int (nI (k + 1)))]) rfl ?_
        exact ih1 (k + 1) (by omega) (by omega)
  refine j_lv [1, 2, 0] (lv' := [(0, .ref e0), (1, .int (nI s)), (2, .int (nI 0))]) rfl ?_
  rw [show wh = fillF wh (-1) 0 from (fillF_0 wh (-1)).symm]
  exact lp1 _ 0 (Nat.zero_le _) (Nat.lt_succ_self _)

theorem sb_atF {P : (Nat → Nat) → Prop} {x y : Nat → Nat} (e : x = y) (h : P y) : P x := e ▸ h
set_option maxHeartbeats 4000000 in
set_option maxRecDepth 100000 in
theorem c_X8_notes (G : Gm) {e0 e1 e2 e3 e4 e5 e6 e7 e8 e9 ea eb : Nat} {ln aa bg tk td rl rs rd n m be sd tu fo kn tl rn : Nat} {pa : Nat → Nat}  {tr : Int64} (hk : kn ≤ 10) : Mg G yX8_notes cX8_notes 2 none ({ frames := 0, cells := 0, slots := 0, locals := 0 } : Room) 0 0 [.ref e0] [(e0, .inr (8, [.ref e1, .int (nI ln), .int (nI aa), .int (nI bg), .int (nI tk), .int (nI td), .int (nI rl), .int (nI rs), .int (nI rd), .ref e2, .ref e3, .ref e4, .int (nI n), .int (nI m), .ref e5, .ref e6, .ref e7, .int (nI be), .int (nI sd), .int (nI tu), .int (nI fo), .ref e8, .ref e9, .int (nI kn), .int (nI tl), .int (nI rn), .ref ea, .long tr, .ref eb])), (e9, .inl (G.2.2.1, 40, .inl (nF pa)))] (fun r w2 => r = none ∧ w2 = [(e0, .inr (8, [.ref e1, .int (nI ln), .int (nI aa), .int (nI bg), .int (nI tk), .int (nI td), .int (nI rl), .int (nI rs), .int (nI rd), .ref e2, .ref e3, .ref e4, .int (nI n), .int (nI m), .ref e5, .ref e6, .ref e7, .int (nI be), .int (nI sd), .int (nI tu), .int (nI fo), .ref e8, .ref e9, .int (nI (rmK kn)), .int (nI tl), .int (nI rn), .ref ea, .long tr, .ref eb])), (e9, .inl (G.2.2.1, 40, .inl (nF (rmP kn be sd tu fo pa))))]) := by
  refine Mg.mk (lv := [(0, .ref e0)]) (by decide) rfl rfl (fun X F R0 => ?_)
  refine j_aload_n (q := 1) (i0 := 0) F rfl dX8_notes_0 rfl ?_
  refine j_get (q := 4) (ci := 8) (q0 := 0) (kf := 23) (v := .int (nI kn)) F inX8 rfl rfl rfl tw_681 rfl rfl dX8_notes_1 rfl ?_
  refine j_bipush (q := 6) (v := nI 10) F (by decide) dX8_notes_4 rfl ?_
  refine j_icmp_ne (q := 9) (t := 43) F (Pp := kn = 10) (nI_eq (by omega) (by omega)) dX8_notes_6 rfl rfl (fun c10 => ?_) (fun c10 => ?_)
  · skip
    refine j_aload_n (q := 44) (i0 := 0) F rfl dX8_notes_43 rfl ?_
    refine j_get (q := 47) (ci := 8) (q0 := 0) (kf := 22) (v := .ref e9) F inX8 rfl rfl rfl tw_680 rfl rfl dX8_notes_44 rfl ?_
    refine j_iconst (q := 48) (v := nI 4) F (by decide) dX8_notes_47 rfl ?_
    refine j_aload_n (q := 49) (i0 := 0) F rfl dX8_notes_48 rfl ?_
    refine j_get (q := 52) (ci := 8) (q0 := 0) (kf := 23) (v := .int (nI kn)) F inX8 rfl rfl rfl tw_681 rfl rfl dX8_notes_49 rfl ?_
    refine j_imul (q := 53) (v := nI (kn * 4)) F ((pk_mul _ _).trans (congrArg nI (Nat.mul_comm _ _))) dX8_notes_52 rfl ?_
    refine j_aload_n (q := 54) (i0 := 0) F rfl dX8_notes_53 rfl ?_
    refine j_get (q := 57) (ci := 8) (q0 := 0) (kf := 17) (v := .int (nI be)) F inX8 rfl rfl rfl tw_675 rfl rfl dX8_notes_54 rfl ?_
    refine j_iast (q := 58) (q0 := 1) (i := (kn * 4)) (f2 := nF (va_up pa (kn * 4) be)) (w' := [(e0, .inr (8, [.ref e1, .int (nI ln), .int (nI aa), .int (nI bg), .int (nI tk), .int (nI td), .int (nI rl), .int (nI rs), .int (nI rd), .ref e2, .ref e3, .ref e4, .int (nI n), .int (nI m), .ref e5, .ref e6, .ref e7, .int (nI be), .int (nI sd), .int (nI tu), .int (nI fo), .ref e8, .ref e9, .int (nI kn), .int (nI tl), .int (nI rn), .ref ea, .long tr, .ref eb])), (e9, .inl (G.2.2.1, 40, .inl (nF (va_up pa (kn * 4) be))))]) F rfl rfl (by omega) rfl (nF_up _ _ _) rfl dX8_notes_57 rfl ?_
    refine j_aload_n (q := 59) (i0 := 0) F rfl dX8_notes_58 rfl ?_
    refine j_get (q := 62) (ci := 8) (q0 := 0) (kf := 22) (v := .ref e9) F inX8 rfl rfl rfl tw_680 rfl rfl dX8_notes_59 rfl ?_
    refine j_iconst (q := 63) (v := nI 4) F (by decide) dX8_notes_62 rfl ?_
    refine j_aload_n (q := 64) (i0 := 0) F rfl dX8_notes_63 rfl ?_
    refine j_get (q := 67) (ci := 8) (q0 := 0) (kf := 23) (v := .int (nI kn)) F inX8 rfl rfl rfl tw_681 rfl rfl dX8_notes_64 rfl ?_
    refine j_imul (q := 68) (v := nI (kn * 4)) F ((pk_mul _ _).trans (congrArg nI (Nat.mul_comm _ _))) dX8_notes_67 rfl ?_
    refine j_iconst (q := 69) (v := nI 1) F (by decide) dX8_notes_68 rfl ?_
    refine j_iadd (q := 70) (v := nI ((kn * 4) + 1)) F (nI_add _ _) dX8_notes_69 rfl ?_
    refine j_aload_n (q := 71) (i0 := 0) F rfl dX8_notes_70 rfl ?_
    refine j_get (q := 74) (ci := 8) (q0 := 0) (kf := 18) (v := .int (nI sd)) F inX8 rfl rfl rfl tw_676 rfl rfl dX8_notes_71 rfl ?_
    refine j_iast (q := 75) (q0 := 1) (i := ((kn * 4) + 1)) (f2 := nF (va_up (va_up pa (kn * 4) be) ((kn * 4) + 1) sd)) (w' := [(e0, .inr (8, [.ref e1, .int (nI ln), .int (nI aa), .int (nI bg), .int (nI tk), .int (nI td), .int (nI rl), .int (nI rs), .int (nI rd), .ref e2, .ref e3, .ref e4, .int (nI n), .int (nI m), .ref e5, .ref e6, .ref e7, .int (nI be), .int (nI sd), .int (nI tu), .int (nI fo), .ref e8, .ref e9, .int (nI kn), .int (nI tl), .int (nI rn), .ref ea, .long tr, .ref eb])), (e9, .inl (G.2.2.1, 40, .inl (nF (va_up (va_up pa (kn * 4) be) ((kn * 4) + 1) sd))))]) F rfl rfl (by omega) rfl (nF_up _ _ _) rfl dX8_notes_74 rfl ?_
    refine j_aload_n (q := 76) (i0 := 0) F rfl dX8_notes_75 rfl ?_
    refine j_get (q := 79) (ci := 8) (q0 := 0) (kf := 22) (v := .ref e9) F inX8 rfl rfl rfl tw_680 rfl rfl dX8_notes_76 rfl ?_
    refine j_iconst (q := 80) (v := nI 4) F (by decide) dX8_notes_79 rfl ?_
    refine j_aload_n (q := 81) (i0 := 0) F rfl dX8_notes_80 rfl ?_
    refine j_get (q := 84) (ci := 8) (q0 := 0) (kf := 23) (v := .int (nI kn)) F inX8 rfl rfl rfl tw_681 rfl rfl dX8_notes_81 rfl ?_
    refine j_imul (q := 85) (v := nI (kn * 4)) F ((pk_mul _ _).trans (congrArg nI (Nat.mul_comm _ _))) dX8_notes_84 rfl ?_
    refine j_iconst (q := 86) (v := nI 2) F (by decide) dX8_notes_85 rfl ?_
    refine j_iadd (q := 87) (v := nI ((kn * 4) + 2)) F (nI_add _ _) dX8_notes_86 rfl ?_
    refine j_aload_n (q := 88) (i0 := 0) F rfl dX8_notes_87 rfl ?_
    refine j_get (q := 91) (ci := 8) (q0 := 0) (kf := 19) (v := .int (nI tu)) F inX8 rfl rfl rfl tw_677 rfl rfl dX8_notes_88 rfl ?_
    refine j_iast (q := 92) (q0 := 1) (i := ((kn * 4) + 2)) (f2 := nF (va_up (va_up (va_up pa (kn * 4) be) ((kn * 4) + 1) sd) ((kn * 4) + 2) tu)) (w' := [(e0, .inr (8, [.ref e1, .int (nI ln), .int (nI aa), .int (nI bg), .int (nI tk), .int (nI td), .int (nI rl), .int (nI rs), .int (nI rd), .ref e2, .ref e3, .ref e4, .int (nI n), .int (nI m), .ref e5, .ref e6, .ref e7, .int (nI be), .int (nI sd), .int (nI tu), .int (nI fo), .ref e8, .ref e9, .int (nI kn), .int (nI tl), .int (nI rn), .ref ea, .long tr, .ref eb])), (e9, .inl (G.2.2.1, 40, .inl (nF (va_up (va_up (va_up pa (kn * 4) be) ((kn * 4) + 1) sd) ((kn * 4) + 2) tu))))]) F rfl rfl (by omega) rfl (nF_up _ _ _) rfl dX8_notes_91 rfl ?_
    refine j_aload_n (q := 93) (i0 := 0) F rfl dX8_notes_92 rfl ?_
    refine j_get (q := 96) (ci := 8) (q0 := 0) (kf := 22) (v := .ref e9) F inX8 rfl rfl rfl tw_680 rfl rfl dX8_notes_93 rfl ?_
    refine j_iconst (q := 97) (v := nI 4) F (by decide) dX8_notes_96 rfl ?_
    refine j_aload_n (q := 98) (i0 := 0) F rfl dX8_notes_97 rfl ?_
    refine j_get (q := 101) (ci := 8) (q0 := 0) (kf := 23) (v := .int (nI kn)) F inX8 rfl rfl rfl tw_681 rfl rfl dX8_notes_98 rfl ?_
    refine j_imul (q := 102) (v := nI (kn * 4)) F ((pk_mul _ _).trans (congrArg nI (Nat.mul_comm _ _))) dX8_notes_101 rfl ?_
    refine j_iconst (q := 103) (v := nI 3) F (by decide) dX8_notes_102 rfl ?_
    refine j_iadd (q := 104) (v := nI ((kn * 4) + 3)) F (nI_add _ _) dX8_notes_103 rfl ?_
    refine j_aload_n (q := 105) (i0 := 0) F rfl dX8_notes_104 rfl ?_
    refine j_get (q := 108) (ci := 8) (q0 := 0) (kf := 20) (v := .int (nI fo)) F inX8 rfl rfl rfl tw_678 rfl rfl dX8_notes_105 rfl ?_
    refine j_iast (q := 109) (q0 := 1) (i := ((kn * 4) + 3)) (f2 := nF (va_up (va_up (va_up (va_up pa (kn * 4) be) ((kn * 4) + 1) sd) ((kn * 4) + 2) tu) ((kn * 4) + 3) fo)) (w' := [(e0, .inr (8, [.ref e1, .int (nI ln), .int (nI aa), .int (nI bg), .int (nI tk), .int (nI td), .int (nI rl), .int (nI rs), .int (nI rd), .ref e2, .ref e3, .ref e4, .int (nI n), .int (nI m), .ref e5, .ref e6, .ref e7, .int (nI be), .int (nI sd), .int (nI tu), .int (nI fo), .ref e8, .ref e9, .int (nI kn), .int (nI tl), .int (nI rn), .ref ea, .long tr, .ref eb])), (e9, .inl (G.2.2.1, 40, .inl (nF (va_up (va_up (va_up (va_up pa (kn * 4) be) ((kn * 4) + 1) sd) ((kn * 4) + 2) tu) ((kn * 4) + 3) fo))))]) F rfl rfl (by omega) rfl (nF_up _ _ _) rfl dX8_notes_108 rfl ?_
    refine j_aload_n (q := 110) (i0 := 0) F rfl dX8_notes_109 rfl ?_
    refine j_dup (q := 111) F rfl dX8_notes_110 rfl ?_
    refine j_get (q := 114) (ci := 8) (q0 := 0) (kf := 23) (v := .int (nI kn)) F inX8 rfl rfl rfl tw_681 rfl rfl dX8_notes_111 rfl ?_
    refine j_iconst (q := 115) (v := nI 1) F (by decide) dX8_notes_114 rfl ?_
    refine j_iadd (q := 116) (v := nI (kn + 1)) F (nI_add _ _) dX8_notes_115 rfl ?_
    refine j_put (q := 119) (ci := 8) (q0 := 0) (kf := 23) (v := .int (nI (kn + 1))) (w' := [(e0, .inr (8, [.ref e1, .int (nI ln), .int (nI aa), .int (nI bg), .int (nI tk), .int (nI td), .int (nI rl), .int (nI rs), .int (nI rd), .ref e2, .ref e3, .ref e4, .int (nI n), .int (nI m), .ref e5, .ref e6, .ref e7, .int (nI be), .int (nI sd), .int (nI tu), .int (nI fo), .ref e8, .ref e9, .int (nI (kn + 1)), .int (nI tl), .int (nI rn), .ref ea, .long tr, .ref eb])), (e9, .inl (G.2.2.1, 40, .inl (nF (va_up (va_up (va_up (va_up pa (kn * 4) be) ((kn * 4) + 1) sd) ((kn * 4) + 2) tu) ((kn * 4) + 3) fo))))]) F inX8 tyX8_ok nmX8 rfl rfl rfl tw_681 rfl rfl rfl rfl rfl rfl dX8_notes_116 rfl ?_
    exact j_vret (w2 := [(e0, .inr (8, [.ref e1, .int (nI ln), .int (nI aa), .int (nI bg), .int (nI tk), .int (nI td), .int (nI rl), .int (nI rs), .int (nI rd), .ref e2, .ref e3, .ref e4, .int (nI n), .int (nI m), .ref e5, .ref e6, .ref e7, .int (nI be), .int (nI sd), .int (nI tu), .int (nI fo), .ref e8, .ref e9, .int (nI (kn + 1)), .int (nI tl), .int (nI rn), .ref ea, .long tr, .ref eb])), (e9, .inl (G.2.2.1, 40, .inl (nF (va_up (va_up (va_up (va_up pa (kn * 4) be) ((kn * 4) + 1) sd) ((kn * 4) + 2) tu) ((kn * 4) + 3) fo))))]) F R0 rfl [0, 1] rfl rfl (⟨rfl, by rw [rmK, rmP, if_pos (by omega), if_pos (by omega)]; rfl⟩) dX8_notes_119
  · skip
    refine j_iconst (q := 10) (v := nI 4) F (by decide) dX8_notes_9 rfl ?_
    refine j_istore_n (q := 11) (lv' := [(1, .int (nI 4)), (0, .ref e0)]) F dX8_notes_10 (by decide) rfl rfl ?_
    have lp2 : ∀ (fu : Nat) (i : Nat) (hi : i ≤ 36), (36 - i) < fu → Jw G X 2 0 0 11 [(0, .ref e0), (1, .int (nI (i + 4)))] [] [(e0, .inr (8, [.ref e1, .int (nI ln), .int (nI aa), .int (nI bg), .int (nI tk), .int (nI td), .int (nI rl), .int (nI rs), .int (nI rd), .ref e2, .ref e3, .ref e4, .int (nI n), .int (nI m), .ref e5, .ref e6, .ref e7, .int (nI be), .int (nI sd), .int (nI tu), .int (nI fo), .ref e8, .ref e9, .int (nI kn), .int (nI tl), .int (nI rn), .ref ea, .long tr, .ref eb])), (e9, .inl (G.2.2.1, 40, .inl (nF (va_cpy pa pa 4 0 i))))] := by
      intro fu
      induction fu with
      | zero => intro i hi hfu; exact absurd hfu (Nat.not_lt_zero _)
      | succ fu ih2 =>
        intro i hi hfu
        refine j_iload_n (q := 12) (i0 := 1) F rfl dX8_notes_11 rfl ?_
        refine j_bipush (q := 14) (v := nI 40) F (by decide) dX8_notes_12 rfl ?_
        refine j_icmp_ge (q := 17) (t := 37) F (Pp := 40 ≤ i + 4) (nI_leI (by omega) (by omega)) dX8_notes_14 rfl rfl (fun c3 => ?_) (fun c3 => ?_)
        · skip
          refine j_aload_n (q := 38) (i0 := 0) F rfl dX8_notes_37 rfl ?_
          refine j_bipush (q := 40) (v := nI 9) F (by decide) dX8_notes_38 rfl ?_
          refine j_put (q := 43) (ci := 8) (q0 := 0) (kf := 23) (v := .int (nI 9)) (w' := [(e0, .inr (8, [.ref e1, .int (nI ln), .int (nI aa), .int (nI bg), .int (nI tk), .int (nI td), .int (nI rl), .int (nI rs), .int (nI rd), .ref e2, .ref e3, .ref e4, .int (nI n), .int (nI m), .ref e5, .ref e6, .ref e7, .int (nI be), .int (nI sd), .int (nI tu), .int (nI fo), .ref e8, .ref e9, .int (nI 9), .int (nI tl), .int (nI rn), .ref ea, .long tr, .ref eb])), (e9, .inl (G.2.2.1, 40, .inl (nF (va_cpy pa pa 4 0 i))))]) F inX8 tyX8_ok nmX8 rfl rfl rfl tw_681 rfl rfl rfl rfl rfl rfl dX8_notes_40 rfl ?_
          refine j_aload_n (q := 44) (i0 := 0) F rfl dX8_notes_43 rfl ?_
          refine j_get (q := 47) (ci := 8) (q0 := 0) (kf := 22) (v := .ref e9) F inX8 rfl rfl rfl tw_680 rfl rfl dX8_notes_44 rfl ?_
          refine j_iconst (q := 48) (v := nI 4) F (by decide) dX8_notes_47 rfl ?_
          refine j_aload_n (q := 49) (i0 := 0) F rfl dX8_notes_48 rfl ?_
          refine j_get (q := 52) (ci := 8) (q0 := 0) (kf := 23) (v := .int (nI 9)) F inX8 rfl rfl rfl tw_681 rfl rfl dX8_notes_49 rfl ?_
          refine j_imul (q := 53) (v := nI 36) F (by decide) dX8_notes_52 rfl ?_
          refine j_aload_n (q := 54) (i0 := 0) F rfl dX8_notes_53 rfl ?_
          refine j_get (q := 57) (ci := 8) (q0 := 0) (kf := 17) (v := .int (nI be)) F inX8 rfl rfl rfl tw_675 rfl rfl dX8_notes_54 rfl ?_
          refine j_iast (q := 58) (q0 := 1) (i := 36) (f2 := nF (va_up (va_cpy pa pa 4 0 i) 36 be)) (w' := [(e0, .inr (8, [.ref e1, .int (nI ln), .int (nI aa), .int (nI bg), .int (nI tk), .int (nI td), .int (nI rl), .int (nI rs), .int (nI rd), .ref e2, .ref e3, .ref e4, .int (nI n), .int (nI m), .ref e5, .ref e6, .ref e7, .int (nI be), .int (nI sd), .int (nI tu), .int (nI fo), .ref e8, .ref e9, .int (nI 9), .int (nI tl), .int (nI rn), .ref ea, .long tr, .ref eb])), (e9, .inl (G.2.2.1, 40, .inl (nF (va_up (va_cpy pa pa 4 0 i) 36 be))))]) F rfl rfl (by omega) rfl (nF_up _ _ _) rfl dX8_notes_57 rfl ?_
          refine j_aload_n (q := 59) (i0 := 0) F rfl dX8_notes_58 rfl ?_
          refine j_get (q := 62) (ci := 8) (q0 := 0) (kf := 22) (v := .ref e9) F inX8 rfl rfl rfl tw_680 rfl rfl dX8_notes_59 rfl ?_
          refine j_iconst (q := 63) (v := nI 4) F (by decide) dX8_notes_62 rfl ?_
          refine j_aload_n (q := 64) (i0 := 0) F rfl dX8_notes_63 rfl ?_
          refine j_get (q := 67) (ci := 8) (q0 := 0) (kf := 23) (v := .int (nI 9)) F inX8 rfl rfl rfl tw_681 rfl rfl dX8_notes_64 rfl ?_
          refine j_imul (q := 68) (v := nI 36) F (by decide) dX8_notes_67 rfl ?_
          refine j_iconst (q := 69) (v := nI 1) F (by decide) dX8_notes_68 rfl ?_
          refine j_iadd (q := 70) (v := nI 37) F (by decide) dX8_notes_69 rfl ?_
          refine j_aload_n (q := 71) (i0 := 0) F rfl dX8_notes_70 rfl ?_
          refine j_get (q := 74) (ci := 8) (q0 := 0) (kf := 18) (v := .int (nI sd)) F inX8 rfl rfl rfl tw_676 rfl rfl dX8_notes_71 rfl ?_
          refine j_iast (q := 75) (q0 := 1) (i := 37) (f2 := nF (va_up (va_up (va_cpy pa pa 4 0 i) 36 be) 37 sd)) (w' := [(e0, .inr (8, [.ref e1, .int (nI ln), .int (nI aa), .int (nI bg), .int (nI tk), .int (nI td), .int (nI rl), .int (nI rs), .int (nI rd), .ref e2, .ref e3, .ref e4, .int (nI n), .int (nI m), .ref e5, .ref e6, .ref e7, .int (nI be), .int (nI sd), .int (nI tu), .int (nI fo), .ref e8, .ref e9, .int (nI 9), .int (nI tl), .int (nI rn), .ref ea, .long tr, .ref eb])), (e9, .inl (G.2.2.1, 40, .inl (nF (va_up (va_up (va_cpy pa pa 4 0 i) 36 be) 37 sd))))]) F rfl rfl (by omega) rfl (nF_up _ _ _) rfl dX8_notes_74 rfl ?_
          refine j_aload_n (q := 76) (i0 := 0) F rfl dX8_notes_75 rfl ?_
          refine j_get (q := 79) (ci := 8) (q0 := 0) (kf := 22) (v := .ref e9) F inX8 rfl rfl rfl tw_680 rfl rfl dX8_notes_76 rfl ?_
          refine j_iconst (q := 80) (v := nI 4) F (by decide) dX8_notes_79 rfl ?_
          refine j_aload_n (q := 81) (i0 := 0) F rfl dX8_notes_80 rfl ?_
          refine j_get (q := 84) (ci := 8) (q0 := 0) (kf := 23) (v := .int (nI 9)) F inX8 rfl rfl rfl tw_681 rfl rfl dX8_notes_81 rfl ?_
          refine j_imul (q := 85) (v := nI 36) F (by decide) dX8_notes_84 rfl ?_
          refine j_iconst (q := 86) (v := nI 2) F (by decide) dX8_notes_85 rfl ?_
          refine j_iadd (q := 87) (v := nI 38) F (by decide) dX8_notes_86 rfl ?_
          refine j_aload_n (q := 88) (i0 := 0) F rfl dX8_notes_87 rfl ?_
          refine j_get (q := 91) (ci := 8) (q0 := 0) (kf := 19) (v := .int (nI tu)) F inX8 rfl rfl rfl tw_677 rfl rfl dX8_notes_88 rfl ?_
          refine j_iast (q := 92) (q0 := 1) (i := 38) (f2 := nF (va_up (va_up (va_up (va_cpy pa pa 4 0 i) 36 be) 37 sd) 38 tu)) (w' := [(e0, .inr (8, [.ref e1, .int (nI ln), .int (nI aa), .int (nI bg), .int (nI tk), .int (nI td), .int (nI rl), .int (nI rs), .int (nI rd), .ref e2, .ref e3, .ref e4, .int (nI n), .int (nI m), .ref e5, .ref e6, .ref e7, .int (nI be), .int (nI sd), .int (nI tu), .int (nI fo), .ref e8, .ref e9, .int (nI 9), .int (nI tl), .int (nI rn), .ref ea, .long tr, .ref eb])), (e9, .inl (G.2.2.1, 40, .inl (nF (va_up (va_up (va_up (va_cpy pa pa 4 0 i) 36 be) 37 sd) 38 tu))))]) F rfl rfl (by omega) rfl (nF_up _ _ _) rfl dX8_notes_91 rfl ?_
          refine j_aload_n (q := 93) (i0 := 0) F rfl dX8_notes_92 rfl ?_
          refine j_get (q := 96) (ci := 8) (q0 := 0) (kf := 22) (v := .ref e9) F inX8 rfl rfl rfl tw_680 rfl rfl dX8_notes_93 rfl ?_
          refine j_iconst (q := 97) (v := nI 4) F (by decide) dX8_notes_96 rfl ?_
          refine j_aload_n (q := 98) (i0 := 0) F rfl dX8_notes_97 rfl ?_
          refine j_get (q := 101) (ci := 8) (q0 := 0) (kf := 23) (v := .int (nI 9)) F inX8 rfl rfl rfl tw_681 rfl rfl dX8_notes_98 rfl ?_
          refine j_imul (q := 102) (v := nI 36) F (by decide) dX8_notes_101 rfl ?_
          refine j_iconst (q := 103) (v := nI 3) F (by decide) dX8_notes_102 rfl ?_
          refine j_iadd (q := 104) (v := nI 39) F (by decide) dX8_notes_103 rfl ?_
          refine j_aload_n (q := 105) (i0 := 0) F rfl dX8_notes_104 rfl ?_
          refine j_get (q := 108) (ci := 8) (q0 := 0) (kf := 20) (v := .int (nI fo)) F inX8 rfl rfl rfl tw_678 rfl rfl dX8_notes_105 rfl ?_
          refine j_iast (q := 109) (q0 := 1) (i := 39) (f2 := nF (va_up (va_up (va_up (va_up (va_cpy pa pa 4 0 i) 36 be) 37 sd) 38 tu) 39 fo)) (w' := [(e0, .inr (8, [.ref e1, .int (nI ln), .int (nI aa), .int (nI bg), .int (nI tk), .int (nI td), .int (nI rl), .int (nI rs), .int (nI rd), .ref e2, .ref e3, .ref e4, .int (nI n), .int (nI m), .ref e5, .ref e6, .ref e7, .int (nI be), .int (nI sd), .int (nI tu), .int (nI fo), .ref e8, .ref e9, .int (nI 9), .int (nI tl), .int (nI rn), .ref ea, .long tr, .ref eb])), (e9, .inl (G.2.2.1, 40, .inl (nF (va_up (va_up (va_up (va_up (va_cpy pa pa 4 0 i) 36 be) 37 sd) 38 tu) 39 fo))))]) F rfl rfl (by omega) rfl (nF_up _ _ _) rfl dX8_notes_108 rfl ?_
          refine j_aload_n (q := 110) (i0 := 0) F rfl dX8_notes_109 rfl ?_
          refine j_dup (q := 111) F rfl dX8_notes_110 rfl ?_
          refine j_get (q := 114) (ci := 8) (q0 := 0) (kf := 23) (v := .int (nI 9)) F inX8 rfl rfl rfl tw_681 rfl rfl dX8_notes_111 rfl ?_
          refine j_iconst (q := 115) (v := nI 1) F (by decide) dX8_notes_114 rfl ?_
          refine j_iadd (q := 116) (v := nI 10) F (by decide) dX8_notes_115 rfl ?_
          refine j_put (q := 119) (ci := 8) (q0 := 0) (kf := 23) (v := .int (nI 10)) (w' := [(e0, .inr (8, [.ref e1, .int (nI ln), .int (nI aa), .int (nI bg), .int (nI tk), .int (nI td), .int (nI rl), .int (nI rs), .int (nI rd), .ref e2, .ref e3, .ref e4, .int (nI n), .int (nI m), .ref e5, .ref e6, .ref e7, .int (nI be), .int (nI sd), .int (nI tu), .int (nI fo), .ref e8, .ref e9, .int (nI 10), .int (nI tl), .int (nI rn), .ref ea, .long tr, .ref eb])), (e9, .inl (G.2.2.1, 40, .inl (nF (va_up (va_up (va_up (va_up (va_cpy pa pa 4 0 i) 36 be) 37 sd) 38 tu) 39 fo))))]) F inX8 tyX8_ok nmX8 rfl rfl rfl tw_681 rfl rfl rfl rfl rfl rfl dX8_notes_116 rfl ?_
          exact j_vret (w2 := [(e0, .inr (8, [.ref e1, .int (nI ln), .int (nI aa), .int (nI bg), .int (nI tk), .int (nI td), .int (nI rl), .int (nI rs), .int (nI rd), .ref e2, .ref e3, .ref e4, .int (nI n), .int (nI m), .ref e5, .ref e6, .ref e7, .int (nI be), .int (nI sd), .int (nI tu), .int (nI fo), .ref e8, .ref e9, .int (nI 10), .int (nI tl), .int (nI rn), .ref ea, .long tr, .ref eb])), (e9, .inl (G.2.2.1, 40, .inl (nF (va_up (va_up (va_up (va_up (va_cpy pa pa 4 0 i) 36 be) 37 sd) 38 tu) 39 fo))))]) F R0 rfl [0, 1] rfl rfl (⟨rfl, by rw [rmK, rmP, if_neg (by omega), if_neg (by omega), show i = 36 by omega]; rfl⟩) dX8_notes_119
        · skip
          refine j_aload_n (q := 18) (i0 := 0) F rfl dX8_notes_17 rfl ?_
          refine j_get (q := 21) (ci := 8) (q0 := 0) (kf := 22) (v := .ref e9) F inX8 rfl rfl rfl tw_680 rfl rfl dX8_notes_18 rfl ?_
          refine j_iload_n (q := 22) (i0 := 1) F rfl dX8_notes_21 rfl ?_
          refine j_iconst (q := 23) (v := nI 4) F (by decide) dX8_notes_22 rfl ?_
          refine j_isub (q := 24) (v := nI i) F ((pk_sub (by omega)).trans (congrArg nI (by omega))) dX8_notes_23 rfl ?_
          refine j_aload_n (q := 25) (i0 := 0) F rfl dX8_notes_24 rfl ?_
          refine j_get (q := 28) (ci := 8) (q0 := 0) (kf := 22) (v := .ref e9) F inX8 rfl rfl rfl tw_680 rfl rfl dX8_notes_25 rfl ?_
          refine j_iload_n (q := 29) (i0 := 1) F rfl dX8_notes_28 rfl ?_
          refine j_iald (q := 30) (q0 := 1) (i := (i + 4)) (v := nI (pa (i + 4))) F rfl rfl (by omega) rfl (congrArg nI (pk_cpy_out (Or.inr (by omega)))) dX8_notes_29 rfl ?_
          refine j_iast (q := 31) (q0 := 1) (i := i) (f2 := nF (va_cpy pa pa 4 0 (i + 1))) (w' := [(e0, .inr (8, [.ref e1, .int (nI ln), .int (nI aa), .int (nI bg), .int (nI tk), .int (nI td), .int (nI rl), .int (nI rs), .int (nI rd), .ref e2, .ref e3, .ref e4, .int (nI n), .int (nI m), .ref e5, .ref e6, .ref e7, .int (nI be), .int (nI sd), .int (nI tu), .int (nI fo), .ref e8, .ref e9, .int (nI kn), .int (nI tl), .int (nI rn), .ref ea, .long tr, .ref eb])), (e9, .inl (G.2.2.1, 40, .inl (nF (va_cpy pa pa 4 0 (i + 1)))))]) F rfl rfl (by omega) rfl ((nF_up _ _ _).trans (congrArg nF (cpy_s pa i))) rfl dX8_notes_30 rfl ?_
          refine j_iinc (q := 34) (i0 := 1) (v := nI (i + 5)) (lv' := [(1, .int (nI (i + 5))), (0, .ref e0)]) F dX8_notes_31 rfl (nI_add _ _) (by decide) rfl rfl ?_
          refine j_goto (t := 11) F dX8_notes_34 rfl ?_
          refine j_lv [1, 0] (lv' := [(0, .ref e0), (1, .int (nI (i + 5)))]) rfl ?_
          exact ih2 (i + 1) (by omega) (by omega)
    refine j_lv [1, 0] (lv' := [(0, .ref e0), (1, .int (nI 4))]) rfl ?_
    refine sb_atF (P := fun z => Jw G X _ _ _ _ _ _ [_, (e9, .inl (G.2.2.1, 40, .inl (nF z)))]) (cpy_0 pa).symm ?_
    exact lp2 _ 0 (Nat.zero_le _) (Nat.lt_succ_self _)

