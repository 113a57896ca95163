theorem nx_ushL {k j : Nat} (hk : k < 2 ^ 31) (hj : j < 32) : ((nI k).toUInt32 >>> ((nI j).toUInt32 &&& Int32.toUInt32 31)).toInt32 = nI (k >>> j) := by
  rw [pk_ushrN (by omega) (nI j) j (nx_su j hj), Nat.shiftRight_eq_div_pow]
set_option maxHeartbeats 4000000 in
set_option maxRecDepth 100000 in
theorem c_bitCount (G : Gm) {k : Nat} (hk : k < 32768)  : Mg G yJ6_bitCount_0f7a4 cJ6_bitCount_0f7a4 1 (some .int) ({ frames := 0, cells := 0, slots := 0, locals := 0 } : Room) 0 0 [.int (nI k)] [] (fun r w2 => w2 = [] ∧ r = some (.int (nI (pcN k)))) := by
  have a1 : k >>> 1 &&& 1431655765 ≤ k := Nat.le_trans Nat.and_le_left (shr_le _ _)
  have b1 : br1 k ≤ k := Nat.sub_le _ _
  have b2 : br2 (br1 k) ≤ br1 k + br1 k := Nat.add_le_add Nat.and_le_left (Nat.le_trans Nat.and_le_left (shr_le _ _))
  have b3 : br3 (br2 (br1 k)) < 65536 := by
    have h1 : br2 (br1 k) &&& 13107 = br2 (br1 k) &&& 13107 := rfl
    have h2 : br3 (br2 (br1 k)) ≤ br2 (br1 k) + br2 (br1 k) >>> 4 := Nat.and_le_left
    have h3 : br2 (br1 k) >>> 4 = br2 (br1 k) / 16 := by rw [Nat.shiftRight_eq_div_pow]
    have h4 : br2 (br1 k) ≤ br1 k + br1 k / 4 := by
      have h5 : br1 k >>> 2 = br1 k / 4 := by rw [Nat.shiftRight_eq_div_pow]
      have h6 : br1 k >>> 2 &&& 858993459 ≤ br1 k >>> 2 := Nat.and_le_left
      have h7 : br1 k &&& 858993459 ≤ br1 k := Nat.and_le_left
      have h8 : br2 (br1 k) = (br1 k &&& 858993459) + (br1 k >>> 2 &&& 858993459) := rfl
      omega
    omega
  have b4 : br4 (br3 (br2 (br1 k))) < 131072 := by
    have h2 : br3 (br2 (br1 k)) >>> 8 ≤ br3 (br2 (br1 k)) := shr_le _ _
    have h8 : br4 (br3 (br2 (br1 k))) = br3 (br2 (br1 k)) + br3 (br2 (br1 k)) >>> 8 := rfl
    omega
  refine Mg.mk (lv := [(0, .int (nI k))]) (by decide) rfl rfl (fun X F R0 => ?_)
  refine j_iload_n (q := 1) (i0 := 0) F rfl dJ6_bitCount_0f7a4_0 rfl ?_
  refine j_iload_n (q := 2) (i0 := 0) F rfl dJ6_bitCount_0f7a4_1 rfl ?_
  refine j_iconst (q := 3) (v := nI 1) F (by decide) dJ6_bitCount_0f7a4_2 rfl ?_
  refine j_iushr (q := 4) (v := nI (k >>> 1)) F (nx_ushL (by omega) (by decide)) dJ6_bitCount_0f7a4_3 rfl ?_
  refine j_ldcw (q := 7) F tw_409 dJ6_bitCount_0f7a4_4 rfl ?_
  refine j_iand (q := 8) (v := nI (k >>> 1 &&& 1431655765)) F (nx_and _ _) dJ6_bitCount_0f7a4_7 rfl ?_
  refine j_isub (q := 9) (v := nI (br1 k)) F (pk_sub a1) dJ6_bitCount_0f7a4_8 rfl ?_
  refine j_istore_n (q := 10) (lv' := [(0, .int (nI (br1 k)))]) F dJ6_bitCount_0f7a4_9 (by decide) rfl rfl ?_
  refine j_iload_n (q := 11) (i0 := 0) F rfl dJ6_bitCount_0f7a4_10 rfl ?_
  refine j_ldcw (q := 14) F tw_410 dJ6_bitCount_0f7a4_11 rfl ?_
  refine j_iand (q := 15) (v := nI (br1 k &&& 858993459)) F (nx_and _ _) dJ6_bitCount_0f7a4_14 rfl ?_
  refine j_iload_n (q := 16) (i0 := 0) F rfl dJ6_bitCount_0f7a4_15 rfl ?_
  refine j_iconst (q := 17) (v := nI 2) F (by decide) dJ6_bitCount_0f7a4_16 rfl ?_
  refine j_iushr (q := 18) (v := nI (br1 k >>> 2)) F (nx_ushL (by omega) (by decide)) dJ6_bitCount_0f7a4_17 rfl ?_
  refine j_ldcw (q := 21) F tw_410 dJ6_bitCount_0f7a4_18 rfl ?_
  refine j_iand (q := 22) (v := nI (br1 k >>> 2 &&& 858993459)) F (nx_and _ _) dJ6_bitCount_0f7a4_21 rfl ?_
  refine j_iadd (q := 23) (v := nI (br2 (br1 k))) F (nI_add _ _) dJ6_bitCount_0f7a4_22 rfl ?_
  refine j_istore_n (q := 24) (lv' := [(0, .int (nI (br2 (br1 k))))]) F dJ6_bitCount_0f7a4_23 (by decide) rfl rfl ?_
  refine j_iload_n (q := 25) (i0 := 0) F rfl dJ6_bitCount_0f7a4_24 rfl ?_
  refine j_iload_n (q := 26) (i0 := 0) F rfl dJ6_bitCount_0f7a4_25 rfl ?_
  refine j_iconst (q := 27) (v := nI 4) F (by decide) dJ6_bitCount_0f7a4_26 rfl ?_
  refine j_iushr (q := 28) (v := nI (br2 (br1 k) >>> 4)) F (nx_ushL (by omega) (by decide)) dJ6_bitCount_0f7a4_27 rfl ?_
  refine j_iadd (q := 29) (v := nI (br2 (br1 k) + br2 (br1 k) >>> 4)) F (nI_add _ _) dJ6_bitCount_0f7a4_28 rfl ?_
  refine j_ldcw (q := 32) F tw_411 dJ6_bitCount_0f7a4_29 rfl ?_
  refine j_iand (q := 33) (v := nI (br3 (br2 (br1 k)))) F (nx_and _ _) dJ6_bitCount_0f7a4_32 rfl ?_
  refine j_istore_n (q := 34) (lv' := [(0, .int (nI (br3 (br2 (br1 k)))))]) F dJ6_bitCount_0f7a4_33 (by decide) rfl rfl ?_
  refine j_iload_n (q := 35) (i0 := 0) F rfl dJ6_bitCount_0f7a4_34 rfl ?_
  refine j_iload_n (q := 36) (i0 := 0) F rfl dJ6_bitCount_0f7a4_35 rfl ?_
  refine j_bipush (q := 38) (v := nI 8) F (by decide) dJ6_bitCount_0f7a4_36 rfl ?_
  refine j_iushr (q := 39) (v := nI (br3 (br2 (br1 k)) >>> 8)) F (nx_ushL (by omega) (by decide)) dJ6_bitCount_0f7a4_38 rfl ?_
  refine j_iadd (q := 40) (v := nI (br4 (br3 (br2 (br1 k))))) F (nI_add _ _) dJ6_bitCount_0f7a4_39 rfl ?_
  refine j_istore_n (q := 41) (lv' := [(0, .int (nI (br4 (br3 (br2 (br1 k))))))]) F dJ6_bitCount_0f7a4_40 (by decide) rfl rfl ?_
  refine j_iload_n (q := 42) (i0 := 0) F rfl dJ6_bitCount_0f7a4_41 rfl ?_
  refine j_iload_n (q := 43) (i0 := 0) F rfl dJ6_bitCount_0f7a4_42 rfl ?_
  refine j_bipush (q := 45) (v := nI 16) F (by decide) dJ6_bitCount_0f7a4_43 rfl ?_
  refine j_iushr (q := 46) (v := nI (br4 (br3 (br2 (br1 k))) >>> 16)) F (nx_ushL (by omega) (by decide)) dJ6_bitCount_0f7a4_45 rfl ?_
  refine j_iadd (q := 47) (v := nI (br5 (br4 (br3 (br2 (br1 k)))))) F (nI_add _ _) dJ6_bitCount_0f7a4_46 rfl ?_
  refine j_istore_n (q := 48) (lv' := [(0, .int (nI (br5 (br4 (br3 (br2 (br1 k)))))))]) F dJ6_bitCount_0f7a4_47 (by decide) rfl rfl ?_
  refine j_iload_n (q := 49) (i0 := 0) F rfl dJ6_bitCount_0f7a4_48 rfl ?_
  refine j_bipush (q := 51) (v := nI 63) F (by decide) dJ6_bitCount_0f7a4_49 rfl ?_
  refine j_iand (q := 52) (v := nI (pcN k)) F ((nx_and _ _).trans (congrArg nI (pc_bc hk))) dJ6_bitCount_0f7a4_51 rfl ?_
  exact j_iret (w2 := []) F R0 rfl [] rfl rfl (⟨rfl, rfl⟩) dJ6_bitCount_0f7a4_52

set_option maxHeartbeats 4000000 in
set_option maxRecDepth 100000 in
theorem c_fill (G : Gm) {a Nn : Nat} {f : Nat → Int32} {v : Int32} (hN : Nat.ble Nn 1000 = true)  : Mg G yJ7_fill_53178 cJ7_fill_53178 4 none ({ frames := 0, cells := 0, slots := 0, locals := 0 } : Room) 0 0 [.ref a, .int v] [(a, .inl (G.2.2.1, Nn, .inl f))] (fun r w2 => r = none ∧ w2 = [(a, .inl (G.2.2.1, Nn, .inl (fillF f v Nn)))]) := by
  have hN2 := Nat.le_of_ble_eq_true hN
  refine Mg.mk (lv := [(0, .ref a), (1, .int v)]) (by decide) rfl rfl (fun X F R0 => ?_)
  refine j_iconst (q := 1) (v := nI 0) F (by decide) dJ7_fill_53178_0 rfl ?_
  refine j_istore_n (q := 2) (lv' := [(2, .int (nI 0)), (0, .ref a), (1, .int v)]) F dJ7_fill_53178_1 (by decide) rfl rfl ?_
  refine j_aload_n (q := 3) (i0 := 1) F rfl dJ7_fill_53178_2 rfl ?_
  refine j_alen (q := 4) (q0 := 0) F rfl dJ7_fill_53178_3 rfl ?_
  refine j_istore_n (q := 5) (lv' := [(3, .int (nI Nn)), (2, .int (nI 0)), (0, .ref a), (1, .int v)]) F dJ7_fill_53178_4 (by decide) rfl rfl ?_
  have lp1 : ∀ (fu : Nat) (i : Nat) (hi : i ≤ Nn), (Nn - i) < fu → Jw G X 4 0 0 5 [(0, .ref a), (1, .int v), (2, .int (nI i)), (3, .int (nI Nn))] [] [(a, .inl (G.2.2.1, Nn, .inl (fillF f v i)))] := by
    intro fu
    induction fu with
    | zero => intro i hi hfu; exact absurd hfu (Nat.not_lt_zero _)
    | succ fu ih1 =>
      intro i hi hfu
      refine j_iload_n (q := 6) (i0 := 2) F rfl dJ7_fill_53178_5 rfl ?_
      refine j_iload_n (q := 7) (i0 := 3) F rfl dJ7_fill_53178_6 rfl ?_
      refine j_icmp_ge (q := 10) (t := 20) F (Pp := Nn ≤ i) (nI_leI (by omega) (by omega)) dJ7_fill_53178_7 rfl rfl (fun c2 => ?_) (fun c2 => ?_)
      · skip
        exact j_vret (w2 := [(a, .inl (G.2.2.1, Nn, .inl (fillF f v i)))]) F R0 rfl [0] rfl rfl (by rw [show i = Nn by omega]; exact ⟨rfl, rfl⟩) dJ7_fill_53178_20
      · skip
        refine j_aload_n (q := 11) (i0 := 0) F rfl dJ7_fill_53178_10 rfl ?_
        refine j_iload_n (q := 12) (i0 := 2) F rfl dJ7_fill_53178_11 rfl ?_
        refine j_iload_n (q := 13) (i0 := 1) F rfl dJ7_fill_53178_12 rfl ?_
        refine j_iast (q := 14) (q0 := 0) (i := i) (f2 := fillF f v (i + 1)) (w' := [(a, .inl (G.2.2.1, Nn, .inl (fillF f v (i + 1))))]) F rfl rfl (by omega) hN (fillF_s _ _ _) rfl dJ7_fill_53178_13 rfl ?_
        refine j_iinc (q := 17) (i0 := 2) (v := nI (i + 1)) (lv' := [(2, .int (nI (i + 1))), (0, .ref a), (1, .int v), (3, .int (nI Nn))]) F dJ7_fill_53178_14 rfl (nI_add _ _) (by decide) rfl rfl ?_
        refine j_goto (t := 5) F dJ7_fill_53178_17 rfl ?_
        refine j_lv [1, 2, 0, 3] (lv' := [(0, .ref a), (1, .int v), (2, .int (nI (i + 1))), (3, .int (nI Nn))]) rfl ?_
        exact ih1 (i + 1) (by omega) (by omega)
  refine j_lv [2, 3, 1, 0] (lv' := [(0, .ref a), (1, .int v), (2, .int (nI 0)), (3, .int (nI Nn))]) rfl ?_
  rw [show f = fillF f v 0 from (fillF_0 f v).symm]
  exact lp1 _ 0 (Nat.zero_le _) (Nat.lt_succ_self _)

theorem c_fillN (G : Gm) {a Nn : Nat} {f : Nat → Nat} {v : Nat} (hN : Nat.ble Nn 1000 = true) : Mg G yJ7_fill_53178 cJ7_fill_53178 4 none ({ frames := 0, cells := 0, slots := 0, locals := 0 } : Room) 0 0 [.ref a, .int (nI v)] [(a, .inl (G.2.2.1, Nn, .inl (nF f)))] (fun r w2 => r = none ∧ w2 = [(a, .inl (G.2.2.1, Nn, .inl (nF (fillN f v Nn))))]) := (c_fill G hN).imp fun r w2 h => by
  rw [← fillF_n]
  exact h
set_option maxHeartbeats 4000000 in
set_option maxRecDepth 100000 in
theorem c_X5_add (G : Gm) {x0 x1 ln c : Nat} {bt : Nat → Nat} (hl : ln < 200) : Mg G yX5_add cX5_add 2 (some .boolean) ({ frames := 0, cells := 0, slots := 0, locals := 0 } : Room) 0 0 [.ref x0, .int (nI c)] [(x0, .inr (5, [.ref x1, .int (nI ln)])), (x1, .inl (G.2.2.1, 200, .inl (nF bt)))] (fun r w2 => r = some (.int (nI 1)) ∧ w2 = [(x0, .inr (5, [.ref x1, .int (nI (ln + 1))])), (x1, .inl (G.2.2.1, 200, .inl (nF (va_up bt ln c))))]) := by
  refine Mg.mk (lv := [(0, .ref x0), (1, .int (nI c))]) (by decide) rfl rfl (fun X F R0 => ?_)
  refine j_aload_n (q := 1) (i0 := 0) F rfl dX5_add_0 rfl ?_
  refine j_get (q := 4) (ci := 5) (q0 := 0) (kf := 1) (v := .int (nI ln)) F inX5 rfl rfl rfl tw_66 rfl rfl dX5_add_1 rfl ?_
  refine j_sipush (q := 7) (v := nI 200) F (by decide) dX5_add_4 rfl ?_
  refine j_icmp_lt (q := 10) (t := 12) F (Pp := ln < 200) (nI_ltI (by omega) (by omega)) dX5_add_7 rfl rfl (fun c1 => ?_) (fun c1 => ?_)
  · skip
    refine j_aload_n (q := 13) (i0 := 0) F rfl dX5_add_12 rfl ?_
    refine j_get (q := 16) (ci := 5) (q0 := 0) (kf := 0) (v := .ref x1) F inX5 rfl rfl rfl tw_65 rfl rfl dX5_add_13 rfl ?_
    refine j_aload_n (q := 17) (i0 := 0) F rfl dX5_add_16 rfl ?_
    refine j_get (q := 20) (ci := 5) (q0 := 0) (kf := 1) (v := .int (nI ln)) F inX5 rfl rfl rfl tw_66 rfl rfl dX5_add_17 rfl ?_
    refine j_iload_n (q := 21) (i0 := 1) F rfl dX5_add_20 rfl ?_
    refine j_iast (q := 22) (q0 := 1) (i := ln) (f2 := nF (va_up bt ln c)) (w' := [(x0, .inr (5, [.ref x1, .int (nI ln)])), (x1, .inl (G.2.2.1, 200, .inl (nF (va_up bt ln c))))]) F rfl rfl (by omega) rfl (nF_up _ _ _) rfl dX5_add_21 rfl ?_
    refine j_aload_n (q := 23) (i0 := 0) F rfl dX5_add_22 rfl ?_
    refine j_dup (q := 24) F rfl dX5_add_23 rfl ?_
    refine j_get (q := 27) (ci := 5) (q0 := 0) (kf := 1) (v := .int (nI ln)) F inX5 rfl rfl rfl tw_66 rfl rfl dX5_add_24 rfl ?_
    refine j_iconst (q := 28) (v := nI 1) F (by decide) dX5_add_27 rfl ?_
    refine j_iadd (q := 29) (v := nI (ln + 1)) F (nI_add _ _) dX5_add_28 rfl ?_
    refine j_put (q := 32) (ci := 5) (q0 := 0) (kf := 1) (v := .int (nI (ln + 1))) (w' := [(x0, .inr (5, [.ref x1, .int (nI (ln + 1))])), (x1, .inl (G.2.2.1, 200, .inl (nF (va_up bt ln c))))]) F inX5 tyX5_ok nmX5 rfl rfl rfl tw_66 rfl rfl rfl rfl rfl rfl dX5_add_29 rfl ?_
    refine j_iconst (q := 33) (v := nI 1) F (by decide) dX5_add_32 rfl ?_
    exact j_zret (w2 := [(x0, .inr (5, [.ref x1, .int (nI (ln + 1))])), (x1, .inl (G.2.2.1, 200, .inl (nF (va_up bt ln c))))]) F R0 rfl rfl [0, 1] rfl rfl (⟨rfl, rfl⟩) dX5_add_33
  · exact absurd hl c1

set_option maxHeartbeats 4000000 in
set_option maxRecDepth 100000 in
theorem c_X5_add0 (G : Gm) {x0 x1 ln : Nat} {bt : Nat → Nat} {c : Int32} (hl : ¬ ln < 200) (hl2 : ln ≤ 200) : Mg G yX5_add cX5_add 2 (some .boolean) ({ frames := 0, cells := 0, slots := 0, locals := 0 } : Room) 0 0 [.ref x0, .int c] [(x0, .inr (5, [.ref x1, .int (nI ln)])), (x1, .inl (G.2.2.1, 200, .inl (nF bt)))] (fun r w2 => r = some (.int (nI 0)) ∧ w2 = [(x0, .inr (5, [.ref x1, .int (nI ln)])), (x1, .inl (G.2.2.1, 200, .inl (nF bt)))]) := by
  refine Mg.mk (lv := [(0, .ref x0), (1, .int c)]) (by decide) rfl rfl (fun X F R0 => ?_)
  refine j_aload_n (q := 1) (i0 := 0) F rfl dX5_add_0 rfl ?_
  refine j_get (q := 4) (ci := 5) (q0 := 0) (kf := 1) (v := .int (nI ln)) F inX5 rfl rfl rfl tw_66 rfl rfl dX5_add_1 rfl ?_
  refine j_sipush (q := 7) (v := nI 200) F (by decide) dX5_add_4 rfl ?_
  refine j_icmp_lt (q := 10) (t := 12) F (Pp := ln < 200) (nI_ltI (by omega) (by omega)) dX5_add_7 rfl rfl (fun c1 => ?_) (fun c1 => ?_)
  · exact absurd c1 hl
  · skip
    refine j_iconst (q := 11) (v := nI 0) F (by decide) dX5_add_10 rfl ?_
    exact j_zret (w2 := [(x0, .inr (5, [.ref x1, .int (nI ln)])), (x1, .inl (G.2.2.1, 200, .inl (nF bt)))]) F R0 rfl rfl [0, 1] rfl rfl (⟨rfl, rfl⟩) dX5_add_11

set_option maxHeartbeats 4000000 in
set_option maxRecDepth 100000 in
theorem c_X5_at (G : Gm) {x0 x1 ln p : Nat} {bt : Nat → Nat} (hl : ln ≤ 200) (hp : p < 1000) : Mg G yX5_at cX5_at 2 (some .int) ({ frames := 0, cells := 0, slots := 0, locals := 0 } : Room) 0 0 [.ref x0, .int (nI p)] [(x0, .inr (5, [.ref x1, .int (nI ln)])), (x1, .inl (G.2.2.1, 200, .inl (nF bt)))] (fun r w2 => w2 = [(x0, .inr (5, [.ref x1, .int (nI ln)])), (x1, .inl (G.2.2.1, 200, .inl (nF bt)))] ∧ ((p < ln ∧ r = some (.int (nI (bt p)))) ∨ (ln ≤ p ∧ r = some (.int (-1))))) := by
  refine Mg.mk (lv := [(0, .ref x0), (1, .int (nI p))]) (by decide) rfl rfl (fun X F R0 => ?_)
  refine j_iload_n (q := 1) (i0 := 1) F rfl dX5_at_0 rfl ?_
  refine j_if_lt (q := 4) (t := 21) F (Pp := False) (cf (nI_pos (by omega))) dX5_at_1 rfl rfl (fun c1 => ?_) (fun c1 => ?_)
  · exact c1.elim
  · skip
    refine j_iload_n (q := 5) (i0 := 1) F rfl dX5_at_4 rfl ?_
    refine j_aload_n (q := 6) (i0 := 0) F rfl dX5_at_5 rfl ?_
    refine j_get (q := 9) (ci := 5) (q0 := 0) (kf := 1) (v := .int (nI ln)) F inX5 rfl rfl rfl tw_66 rfl rfl dX5_at_6 rfl ?_
    refine j_icmp_ge (q := 12) (t := 21) F (Pp := ln ≤ p) (nI_leI (by omega) (by omega)) dX5_at_9 rfl rfl (fun c2 => ?_) (fun c2 => ?_)
    · skip
      refine j_iconst (q := 22) (v := (-1)) F (by decide) dX5_at_21 rfl ?_
      exact j_iret (w2 := [(x0, .inr (5, [.ref x1, .int (nI ln)])), (x1, .inl (G.2.2.1, 200, .inl (nF bt)))]) F R0 rfl [0, 1] rfl rfl (⟨rfl, Or.inr ⟨c2, rfl⟩⟩) dX5_at_22
    · skip
      refine j_aload_n (q := 13) (i0 := 0) F rfl dX5_at_12 rfl ?_
      refine j_get (q := 16) (ci := 5) (q0 := 0) (kf := 0) (v := .ref x1) F inX5 rfl rfl rfl tw_65 rfl rfl dX5_at_13 rfl ?_
      refine j_iload_n (q := 17) (i0 := 1) F rfl dX5_at_16 rfl ?_
      refine j_iald (q := 18) (q0 := 1) (i := p) (v := nI (bt p)) F rfl rfl (by omega) rfl (rfl) dX5_at_17 rfl ?_
      refine j_goto (t := 22) F dX5_at_18 rfl ?_
      exact j_iret (w2 := [(x0, .inr (5, [.ref x1, .int (nI ln)])), (x1, .inl (G.2.2.1, 200, .inl (nF bt)))]) F R0 rfl [0, 1] rfl rfl (⟨rfl, Or.inl ⟨by omega, rfl⟩⟩) dX5_at_22

set_option maxHeartbeats 4000000 in
set_option maxRecDepth 100000 in
theorem c_X6_isLamp (G : Gm) {t0 t1 t2 t3 t4 n m t : Nat} {x : Int32} (hn : n ≤ 15) : Mg G yX6_isLamp cX6_isLamp 2 (some .boolean) ({ frames := 0, cells := 0, slots := 0, locals := 0 } : Room) 0 0 [.ref t0, .int x] [(t0, .inr (6, [.int (nI n), .int (nI m), .int (nI t), .ref t1, .ref t2, .ref t3, .ref t4]))] (fun r w2 => w2 = [(t0, .inr (6, [.int (nI n), .int (nI m), .int (nI t), .ref t1, .ref t2, .ref t3, .ref t4]))] ∧ ((r = some (.int (nI 1)) ∧ inR x n) ∨ (r = some (.int (nI 0)) ∧ ¬ inR x n))) := by
  refine Mg.mk (lv := [(0, .ref t0), (1, .int x)]) (by decide) rfl rfl (fun X F R0 => ?_)
  refine j_iload_n (q := 1) (i0 := 1) F rfl dX6_isLamp_0 rfl ?_
  refine j_if_lt (q := 4) (t := 16) F (Pp := x < 0) (Iff.rfl) dX6_isLamp_1 rfl rfl (fun c1 => ?_) (fun c1 => ?_)
  · skip
    refine j_iconst (q := 17) (v := nI 0) F (by decide) dX6_isLamp_16 rfl ?_
    exact j_zret (w2 := [(t0, .inr (6, [.int (nI n), .int (nI m), .int (nI t), .ref t1, .ref t2, .ref t3, .ref t4]))]) F R0 rfl rfl [0] rfl rfl (⟨rfl, Or.inr ⟨rfl, inR_neg c1 (by omega)⟩⟩) dX6_isLamp_17
  · skip
    refine j_iload_n (q := 5) (i0 := 1) F rfl dX6_isLamp_4 rfl ?_
    refine j_aload_n (q := 6) (i0 := 0) F rfl dX6_isLamp_5 rfl ?_
    refine j_get (q := 9) (ci := 6) (q0 := 0) (kf := 0) (v := .int (nI n)) F inX6 rfl rfl rfl tw_87 rfl rfl dX6_isLamp_6 rfl ?_
    refine j_icmp_ge (q := 12) (t := 16) F (Pp := nI n ≤ x) (Iff.rfl) dX6_isLamp_9 rfl rfl (fun c2 => ?_) (fun c2 => ?_)
    · skip
      refine j_iconst (q := 17) (v := nI 0) F (by decide) dX6_isLamp_16 rfl ?_
      exact j_zret (w2 := [(t0, .inr (6, [.int (nI n), .int (nI m), .int (nI t), .ref t1, .ref t2, .ref t3, .ref t4]))]) F R0 rfl rfl [0] rfl rfl (⟨rfl, Or.inr ⟨rfl, inR_big c2 (by omega)⟩⟩) dX6_isLamp_17
    · skip
      refine j_iconst (q := 13) (v := nI 1) F (by decide) dX6_isLamp_12 rfl ?_
      refine j_goto (t := 17) F dX6_isLamp_13 rfl ?_
      exact j_zret (w2 := [(t0, .inr (6, [.int (nI n), .int (nI m), .int (nI t), .ref t1, .ref t2, .ref t3, .ref t4]))]) F R0 rfl rfl [0] rfl rfl (⟨rfl, Or.inl ⟨rfl, inR_of c1 c2 (by omega)⟩⟩) dX6_isLamp_17

set_option maxHeartbeats 4000000 in
set_option maxRecDepth 100000 in
theorem c_X6_isStreet (G : Gm) {t0 t1 t2 t3 t4 n m t : Nat} {x : Int32} (hn : m ≤ 15) : Mg G yX6_isStreet cX6_isStreet 2 (some .boolean) ({ frames := 0, cells := 0, slots := 0, locals := 0 } : Room) 0 0 [.ref t0, .int x] [(t0, .inr (6, [.int (nI n), .int (nI m), .int (nI t), .ref t1, .ref t2, .ref t3, .ref t4]))] (fun r w2 => w2 = [(t0, .inr (6, [.int (nI n), .int (nI m), .int (nI t), .ref t1, .ref t2, .ref t3, .ref t4]))] ∧ ((r = some (.int (nI 1)) ∧ inR x m) ∨ (r = some (.int (nI 0)) ∧ ¬ inR x m))) := by
  refine Mg.mk (lv := [(0, .ref t0), (1, .int x)]) (by decide) rfl rfl (fun X F R0 => ?_)
  refine j_iload_n (q := 1) (i0 := 1) F rfl dX6_isStreet_0 rfl ?_
  refine j_if_lt (q := 4) (t := 16) F (Pp := x < 0) (Iff.rfl) dX6_isStreet_1 rfl rfl (fun c1 => ?_) (fun c1 => ?_)
  · skip
    refine j_iconst (q := 17) (v := nI 0) F (by decide) dX6_isStreet_16 rfl ?_
    exact j_zret (w2 := [(t0, .inr (6, [.int (nI n), .int (nI m), .int (nI t), .ref t1, .ref t2, .ref t3, .ref t4]))]) F R0 rfl rfl [0] rfl rfl (⟨rfl, Or.inr ⟨rfl, inR_neg c1 (by omega)⟩⟩) dX6_isStreet_17
  · skip
    refine j_iload_n (q := 5) (i0 := 1) F rfl dX6_isStreet_4 rfl ?_
    refine j_aload_n (q := 6) (i0 := 0) F rfl dX6_isStreet_5 rfl ?_
    refine j_get (q := 9) (ci := 6) (q0 := 0) (kf := 1) (v := .int (nI m)) F inX6 rfl rfl rfl tw_92 rfl rfl dX6_isStreet_6 rfl ?_
    refine j_icmp_ge (q := 12) (t := 16) F (Pp := nI m ≤ x) (Iff.rfl) dX6_isStreet_9 rfl rfl (fun c2 => ?_) (fun c2 => ?_)
    · skip
      refine j_iconst (q := 17) (v := nI 0) F (by decide) dX6_isStreet_16 rfl ?_
      exact j_zret (w2 := [(t0, .inr (6, [.int (nI n), .int (nI m), .int (nI t), .ref t1, .ref t2, .ref t3, .ref t4]))]) F R0 rfl rfl [0] rfl rfl (⟨rfl, Or.inr ⟨rfl, inR_big c2 (by omega)⟩⟩) dX6_isStreet_17
    · skip
      refine j_iconst (q := 13) (v := nI 1) F (by decide) dX6_isStreet_12 rfl ?_
      refine j_goto (t := 17) F dX6_isStreet_13 rfl ?_
      exact j_zret (w2 := [(t0, .inr (6, [.int (nI n), .int (nI m), .int (nI t), .ref t1, .ref t2, .ref t3, .ref t4]))]) F R0 rfl rfl [0] rfl rfl (⟨rfl, Or.inl ⟨rfl, inR_of c1 c2 (by omega)⟩⟩) dX6_isStreet_17

set_option maxHeartbeats 4000000 in
set_option maxRecDepth 100000 in
theorem c_X6_stands (G : Gm) {t0 t1 t2 t3 t4 n m t : Nat} (hn : n ≤ 9) : Mg G yX6_stands cX6_stands 1 (some .int) ({ frames := 0, cells := 0, slots := 0, locals := 0 } : Room) 0 0 [.ref t0] [(t0, .inr (6, [.int (nI n), .int (nI m), .int (nI t), .ref t1, .ref t2, .ref t3, .ref t4]))] (fun r w2 => w2 = [(t0, .inr (6, [.int (nI n), .int (nI m), .int (nI t), .ref t1, .ref t2, .ref t3, .ref t4]))] ∧ r = some (.int (nI (2 ^ n)))) := by
  refine Mg.mk (lv := [(0, .ref t0)]) (by decide) rfl rfl (fun X F R0 => ?_)
  refine j_iconst (q := 1) (v := nI 1) F (by decide) dX6_stands_0 rfl ?_
  refine j_aload_n (q := 2) (i0 := 0) F rfl dX6_stands_1 rfl ?_
  refine j_get (q := 5) (ci := 6) (q0 := 0) (kf := 0) (v := .int (nI n)) F inX6 rfl rfl rfl tw_87 rfl rfl dX6_stands_2 rfl ?_
  refine j_ishl (q := 6) (v := nI (2 ^ n)) F (nx_shl1 (by omega)) dX6_stands_5 rfl ?_
  exact j_iret (w2 := [(t0, .inr (6, [.int (nI n), .int (nI m), .int (nI t), .ref t1, .ref t2, .ref t3, .ref t4]))]) F R0 rfl [0] rfl rfl (⟨rfl, rfl⟩) dX6_stands_6

theorem p9 {n : Nat} (h : n ≤ 9) : 2 ^ n ≤ 512 := Nat.pow_le_pow_right (by decide) h
set_option maxHeartbeats 4000000 in
set_option maxRecDepth 100000 in
theorem c_X6_isStand (G : Gm) {t0 t1 t2 t3 t4 n m t : Nat} {x : Int32} (hn : n ≤ 9) : Mg G yX6_isStand cX6_isStand 2 (some .boolean) ({ frames := 1, cells := 0, slots := 0, locals := 20 } : Room) 0 0 [.ref t0, .int x] [(t0, .inr (6, [.int (nI n), .int (nI m), .int (nI t), .ref t1, .ref t2, .ref t3, .ref t4]))] (fun r w2 => w2 = [(t0, .inr (6, [.int (nI n), .int (nI m), .int (nI t), .ref t1, .ref t2, .ref t3, .ref t4]))] ∧ ((r = some (.int (nI 1)) ∧ inR x (2 ^ n)) ∨ (r = some (.int (nI 0)) ∧ ¬ inR x (2 ^ n)))) := by
  have h9 := p9 hn
  refine Mg.mk (lv := [(0, .ref t0), (1, .int x)]) (by decide) rfl rfl (fun X F R0 => ?_)
  refine j_iload_n (q := 1) (i0 := 1) F rfl dX6_isStand_0 rfl ?_
  refine j_if_lt (q := 4) (t := 16) F (Pp := x < 0) (Iff.rfl) dX6_isStand_1 rfl rfl (fun c1 => ?_) (fun c1 => ?_)
  · skip
    refine j_iconst (q := 17) (v := nI 0) F (by decide) dX6_isStand_16 rfl ?_
    exact j_zret (w2 := [(t0, .inr (6, [.int (nI n), .int (nI m), .int (nI t), .ref t1, .ref t2, .ref t3, .ref t4]))]) F R0 rfl rfl [0] rfl rfl (⟨rfl, Or.inr ⟨rfl, inR_neg c1 (by omega)⟩⟩) dX6_isStand_17
  · skip
    refine j_iload_n (q := 5) (i0 := 1) F rfl dX6_isStand_4 rfl ?_
    refine j_aload_n (q := 6) (i0 := 0) F rfl dX6_isStand_5 rfl ?_
    refine j_callV (q := 9) (ci := 6) (q0 := 0) (As := []) (wr := []) (st := [.int x]) F (c_X6_stands G hn) kwX6_stands tw_502 tw_503 tw_501 ⟨Nat.le_of_ble_eq_true rfl, Nat.le_of_ble_eq_true rfl, rfl, rfl, Nat.le_of_ble_eq_true rfl, Nat.le_of_ble_eq_true rfl⟩ [0] [] rfl rfl rfl rfl rfl rfl rfl rfl rfl (Nat.le_of_ble_eq_true rfl) dX6_isStand_6 rfl ?_
    rintro r_ w_ ⟨rfl, rfl⟩
    refine j_w (w' := [(t0, .inr (6, [.int (nI n), .int (nI m), .int (nI t), .ref t1, .ref t2, .ref t3, .ref t4]))]) [0] rfl rfl ?_
    show Jw G X _ 0 0 9 _ [.int (nI (2 ^ n)), .int x] _
    refine j_icmp_ge (q := 12) (t := 16) F (Pp := nI (2 ^ n) ≤ x) (Iff.rfl) dX6_isStand_9 rfl rfl (fun c2 => ?_) (fun c2 => ?_)
    · skip
      refine j_iconst (q := 17) (v := nI 0) F (by decide) dX6_isStand_16 rfl ?_
      exact j_zret (w2 := [(t0, .inr (6, [.int (nI n), .int (nI m), .int (nI t), .ref t1, .ref t2, .ref t3, .ref t4]))]) F R0 rfl rfl [0] rfl rfl (⟨rfl, Or.inr ⟨rfl, inR_big c2 (by omega)⟩⟩) dX6_isStand_17
    · skip
      refine j_iconst (q := 13) (v := nI 1) F (by decide) dX6_isStand_12 rfl ?_
      refine j_goto (t := 17) F dX6_isStand_13 rfl ?_
      exact j_zret (w2 := [(t0, .inr (6, [.int (nI n), .int (nI m), .int (nI t), .ref t1, .ref t2, .ref t3, .ref t4]))]) F R0 rfl rfl [0] rfl rfl (⟨rfl, Or.inl ⟨rfl, inR_of c1 c2 (by omega)⟩⟩) dX6_isStand_17

set_option maxHeartbeats 4000000 in
set_option maxRecDepth 100000 in
theorem c_X6_isJoined (G : Gm) {t0 t1 t2 t3 t4 n m t a b : Nat} {ro : Nat → Nat} (hn : n ≤ 9) (ha : a < n) (hb : b < 16) (hr : ro a < 512) : Mg G yX6_isJoined cX6_isJoined 3 (some .boolean) ({ frames := 1, cells := 0, slots := 0, locals := 21 } : Room) 0 0 [.ref t0, .int (nI a), .int (nI b)] [(t0, .inr (6, [.int (nI n), .int (nI m), .int (nI t), .ref t1, .ref t2, .ref t3, .ref t4])), (t4, .inl (G.2.2.1, 9, .inl (nF ro)))] (fun r w2 => w2 = [(t0, .inr (6, [.int (nI n), .int (nI m), .int (nI t), .ref t1, .ref t2, .ref t3, .ref t4])), (t4, .inl (G.2.2.1, 9, .inl (nF ro)))] ∧ ((r = some (.int (nI 1)) ∧ (ro a).testBit b = true) ∨ (r = some (.int (nI 0)) ∧ (ro a).testBit b = false))) := by
  refine Mg.mk (lv := [(0, .ref t0), (1, .int (nI a)), (2, .int (nI b))]) (by decide) rfl rfl (fun X F R0 => ?_)
  refine j_aload_n (q := 1) (i0 := 0) F rfl dX6_isJoined_0 rfl ?_
  refine j_iload_n (q := 2) (i0 := 1) F rfl dX6_isJoined_1 rfl ?_
  refine j_callV (q := 5) (ci := 6) (q0 := 0) (As := [.int (nI a)]) (wr := [(t4, .inl (G.2.2.1, 9, .inl (nF ro)))]) (st := []) F (c_X6_isLamp G (x := nI a) (by omega)) kwX6_isLamp tw_375 tw_376 tw_374 ⟨Nat.le_of_ble_eq_true rfl, Nat.le_of_ble_eq_true rfl, rfl, rfl, Nat.le_of_ble_eq_true rfl, Nat.le_of_ble_eq_true rfl⟩ [0] [1] rfl rfl rfl rfl rfl rfl rfl rfl rfl (Nat.le_of_ble_eq_true rfl) dX6_isJoined_2 rfl ?_
  rintro r_ w_ ⟨rfl, (⟨rfl, hl⟩ | ⟨rfl, hl⟩)⟩
  · skip
    refine j_w (w' := [(t0, .inr (6, [.int (nI n), .int (nI m), .int (nI t), .ref t1, .ref t2, .ref t3, .ref t4])), (t4, .inl (G.2.2.1, 9, .inl (nF ro)))]) [1, 0] rfl rfl ?_
    show Jw G X _ 0 0 5 _ [.int (nI 1)] _
    refine j_if_eq (q := 8) (t := 26) F (cf (by decide)) dX6_isJoined_5 rfl rfl (fun z => False.elim z) (fun _ => ?_)
    refine j_aload_n (q := 9) (i0 := 0) F rfl dX6_isJoined_8 rfl ?_
    refine j_get (q := 12) (ci := 6) (q0 := 0) (kf := 6) (v := .ref t4) F inX6 rfl rfl rfl tw_108 rfl rfl dX6_isJoined_9 rfl ?_
    refine j_iload_n (q := 13) (i0 := 1) F rfl dX6_isJoined_12 rfl ?_
    refine j_iald (q := 14) (q0 := 1) (i := a) (v := nI (ro a)) F rfl rfl (by omega) rfl (rfl) dX6_isJoined_13 rfl ?_
    refine j_iload_n (q := 15) (i0 := 2) F rfl dX6_isJoined_14 rfl ?_
    refine j_ishr (q := 16) (v := nI ((ro a) >>> b)) F (nx_shr (by omega) (by omega)) dX6_isJoined_15 rfl ?_
    refine j_iconst (q := 17) (v := nI 1) F (by decide) dX6_isJoined_16 rfl ?_
    refine j_iand (q := 18) (v := nI (bitN (ro a) b)) F (nx_and _ _) dX6_isJoined_17 rfl ?_
    refine j_iconst (q := 19) (v := nI 1) F (by decide) dX6_isJoined_18 rfl ?_
    refine j_icmp_ne (q := 22) (t := 26) F (Pp := Nat.testBit (ro a) b = true) (bit_is1 _ _) dX6_isJoined_19 rfl rfl (fun c2 => ?_) (fun c2 => ?_)
    · skip
      refine j_iconst (q := 27) (v := nI 0) F (by decide) dX6_isJoined_26 rfl ?_
      exact j_zret (w2 := [(t0, .inr (6, [.int (nI n), .int (nI m), .int (nI t), .ref t1, .ref t2, .ref t3, .ref t4])), (t4, .inl (G.2.2.1, 9, .inl (nF ro)))]) F R0 rfl rfl [0, 1] rfl rfl (⟨rfl, Or.inr ⟨rfl, tbF c2⟩⟩) dX6_isJoined_27
    · skip
      refine j_iconst (q := 23) (v := nI 1) F (by decide) dX6_isJoined_22 rfl ?_
      refine j_goto (t := 27) F dX6_isJoined_23 rfl ?_
      exact j_zret (w2 := [(t0, .inr (6, [.int (nI n), .int (nI m), .int (nI t), .ref t1, .ref t2, .ref t3, .ref t4])), (t4, .inl (G.2.2.1, 9, .inl (nF ro)))]) F R0 rfl rfl [0, 1] rfl rfl (⟨rfl, Or.inl ⟨rfl, c2⟩⟩) dX6_isJoined_27
  · skip
    exact absurd ((inR_nI (by omega) (by omega)).mpr ha) hl

set_option maxHeartbeats 4000000 in
set_option maxRecDepth 100000 in
theorem c_X6_empty (G : Gm) {t0 t1 t2 t3 t4 n m t : Nat} {ro : Nat → Nat}  : Mg G yX6_empty cX6_empty 1 none ({ frames := 1, cells := 0, slots := 0, locals := 23 } : Room) 0 0 [.ref t0] [(t0, .inr (6, [.int (nI n), .int (nI m), .int (nI t), .ref t1, .ref t2, .ref t3, .ref t4])), (t4, .inl (G.2.2.1, 9, .inl (nF ro)))] (fun r w2 => r = none ∧ w2 = [(t0, .inr (6, [.int (nI 0), .int (nI 0), .int (nI 0), .ref t1, .ref t2, .ref t3, .ref t4])), (t4, .inl (G.2.2.1, 9, .inl (nF (fillN ro 0 9))))]) := by
  refine Mg.mk (lv := [(0, .ref t0)]) (by decide) rfl rfl (fun X F R0 => ?_)
  refine j_aload_n (q := 1) (i0 := 0) F rfl dX6_empty_0 rfl ?_
  refine j_iconst (q := 2) (v := nI 0) F (by decide) dX6_empty_1 rfl ?_
  refine j_put (q := 5) (ci := 6) (q0 := 0) (kf := 0) (v := .int (nI 0)) (w' := [(t0, .inr (6, [.int (nI 0), .int (nI m), .int (nI t), .ref t1, .ref t2, .ref t3, .ref t4])), (t4, .inl (G.2.2.1, 9, .inl (nF ro)))]) F inX6 tyX6_ok nmX6 rfl rfl rfl tw_87 rfl rfl rfl rfl rfl rfl dX6_empty_2 rfl ?_
  refine j_aload_n (q := 6) (i0 := 0) F rfl dX6_empty_5 rfl ?_
  refine j_iconst (q := 7) (v := nI 0) F (by decide) dX6_empty_6 rfl ?_
  refine j_put (q := 10) (ci := 6) (q0 := 0) (kf := 1) (v := .int (nI 0)) (w' := [(t0, .inr (6, [.int (nI 0), .int (nI 0), .int (nI t), .ref t1, .ref t2, .ref t3, .ref t4])), (t4, .inl (G.2.2.1, 9, .inl (nF ro)))]) F inX6 tyX6_ok nmX6 rfl rfl rfl tw_92 rfl rfl rfl rfl rfl rfl dX6_empty_7 rfl ?_
  refine j_aload_n (q := 11) (i0 := 0) F rfl dX6_empty_10 rfl ?_
  refine j_iconst (q := 12) (v := nI 0) F (by decide) dX6_empty_11 rfl ?_
  refine j_put (q := 15) (ci := 6) (q0 := 0) (kf := 2) (v := .int (nI 0)) (w' := [(t0, .inr (6, [.int (nI 0), .int (nI 0), .int (nI 0), .ref t1, .ref t2, .ref t3, .ref t4])), (t4, .inl (G.2.2.1, 9, .inl (nF ro)))]) F inX6 tyX6_ok nmX6 rfl rfl rfl tw_97 rfl rfl rfl rfl rfl rfl dX6_empty_12 rfl ?_
  refine j_aload_n (q := 16) (i0 := 0) F rfl dX6_empty_15 rfl ?_
  refine j_get (q := 19) (ci := 6) (q0 := 0) (kf := 6) (v := .ref t4) F inX6 rfl rfl rfl tw_108 rfl rfl dX6_empty_16 rfl ?_
  refine j_iconst (q := 20) (v := nI 0) F (by decide) dX6_empty_19 rfl ?_
  refine j_callS (q := 23) (As := [.ref t4, .int (nI 0)]) (wr := [(t0, .inr (6, [.int (nI 0), .int (nI 0), .int (nI 0), .ref t1, .ref t2, .ref t3, .ref t4]))]) (st := []) F (c_fillN G (f := ro) (v := 0) rfl) kwJ7_fill_53178 tw_319 tw_318 ⟨Nat.le_of_ble_eq_true rfl, Nat.le_of_ble_eq_true rfl, rfl, rfl, Nat.le_of_ble_eq_true rfl, Nat.le_of_ble_eq_true rfl⟩ [1] [0] rfl rfl rfl rfl rfl rfl rfl (Nat.le_of_ble_eq_true rfl) dX6_empty_20 rfl ?_
  rintro r_ w_ ⟨rfl, rfl⟩
  refine j_w (w' := [(t0, .inr (6, [.int (nI 0), .int (nI 0), .int (nI 0), .ref t1, .ref t2, .ref t3, .ref t4])), (t4, .inl (G.2.2.1, 9, .inl (nF (fillN ro 0 9))))]) [0, 1] rfl rfl ?_
  show Jw G X _ 0 0 23 _ [] _
  exact j_vret (w2 := [(t0, .inr (6, [.int (nI 0), .int (nI 0), .int (nI 0), .ref t1, .ref t2, .ref t3, .ref t4])), (t4, .inl (G.2.2.1, 9, .inl (nF (fillN ro 0 9))))]) F R0 rfl [0, 1] rfl rfl (⟨rfl, rfl⟩) dX6_empty_23

set_option maxHeartbeats 4000000 in
set_option maxRecDepth 100000 in
theorem c_X6_addLamp (G : Gm) {t0 t1 t2 t3 t4 n m t rule on : Nat} {ru : Nat → Nat} (hn : n < 9) (ho : on ≤ 1) : Mg G yX6_addLamp cX6_addLamp 3 none ({ frames := 0, cells := 0, slots := 0, locals := 0 } : Room) 0 0 [.ref t0, .int (nI rule), .int (nI on)] [(t0, .inr (6, [.int (nI n), .int (nI m), .int (nI t), .ref t1, .ref t2, .ref t3, .ref t4])), (t1, .inl (G.2.2.1, 9, .inl (nF ru)))] (fun r w2 => r = none ∧ w2 = [(t0, .inr (6, [.int (nI (n + 1)), .int (nI m), .int (nI (t ||| on * 2 ^ n)), .ref t1, .ref t2, .ref t3, .ref t4])), (t1, .inl (G.2.2.1, 9, .inl (nF (va_up ru n rule))))]) := by
  refine Mg.mk (lv := [(0, .ref t0), (1, .int (nI rule)), (2, .int (nI on))]) (by decide) rfl rfl (fun X F R0 => ?_)
  refine j_aload_n (q := 1) (i0 := 0) F rfl dX6_addLamp_0 rfl ?_
  refine j_get (q := 4) (ci := 6) (q0 := 0) (kf := 0) (v := .int (nI n)) F inX6 rfl rfl rfl tw_87 rfl rfl dX6_addLamp_1 rfl ?_
  refine j_bipush (q := 6) (v := nI 9) F (by decide) dX6_addLamp_4 rfl ?_
  refine j_icmp_ge (q := 9) (t := 44) F (Pp := 9 ≤ n) (nI_leI (by omega) (by omega)) dX6_addLamp_6 rfl rfl (fun c1 => ?_) (fun c1 => ?_)
  · exact absurd c1 (by omega)
  · skip
    refine j_aload_n (q := 10) (i0 := 0) F rfl dX6_addLamp_9 rfl ?_
    refine j_get (q := 13) (ci := 6) (q0 := 0) (kf := 3) (v := .ref t1) F inX6 rfl rfl rfl tw_98 rfl rfl dX6_addLamp_10 rfl ?_
    refine j_aload_n (q := 14) (i0 := 0) F rfl dX6_addLamp_13 rfl ?_
    refine j_get (q := 17) (ci := 6) (q0 := 0) (kf := 0) (v := .int (nI n)) F inX6 rfl rfl rfl tw_87 rfl rfl dX6_addLamp_14 rfl ?_
    refine j_iload_n (q := 18) (i0 := 1) F rfl dX6_addLamp_17 rfl ?_
    refine j_iast (q := 19) (q0 := 1) (i := n) (f2 := nF (va_up ru n rule)) (w' := [(t0, .inr (6, [.int (nI n), .int (nI m), .int (nI t), .ref t1, .ref t2, .ref t3, .ref t4])), (t1, .inl (G.2.2.1, 9, .inl (nF (va_up ru n rule))))]) F rfl rfl (by omega) rfl (nF_up _ _ _) rfl dX6_addLamp_18 rfl ?_
    refine j_aload_n (q := 20) (i0 := 0) F rfl dX6_addLamp_19 rfl ?_
    refine j_dup (q := 21) F rfl dX6_addLamp_20 rfl ?_
    refine j_get (q := 24) (ci := 6) (q0 := 0) (kf := 2) (v := .int (nI t)) F inX6 rfl rfl rfl tw_97 rfl rfl dX6_addLamp_21 rfl ?_
    refine j_iload_n (q := 25) (i0 := 2) F rfl dX6_addLamp_24 rfl ?_
    refine j_aload_n (q := 26) (i0 := 0) F rfl dX6_addLamp_25 rfl ?_
    refine j_get (q := 29) (ci := 6) (q0 := 0) (kf := 0) (v := .int (nI n)) F inX6 rfl rfl rfl tw_87 rfl rfl dX6_addLamp_26 rfl ?_
    refine j_ishl (q := 30) (v := nI (on * 2 ^ n)) F (nx_shl (by omega) (by have := p9 (show n ≤ 9 by omega); rcases (show on = 0 ∨ on = 1 by omega) with rfl | rfl <;> omega)) dX6_addLamp_29 rfl ?_
    refine j_ior (q := 31) (v := nI (t ||| (on * 2 ^ n))) F (nx_or _ _) dX6_addLamp_30 rfl ?_
    refine j_put (q := 34) (ci := 6) (q0 := 0) (kf := 2) (v := .int (nI (t ||| (on * 2 ^ n)))) (w' := [(t0, .inr (6, [.int (nI n), .int (nI m), .int (nI (t ||| (on * 2 ^ n))), .ref t1, .ref t2, .ref t3, .ref t4])), (t1, .inl (G.2.2.1, 9, .inl (nF (va_up ru n rule))))]) F inX6 tyX6_ok nmX6 rfl rfl rfl tw_97 rfl rfl rfl rfl rfl rfl dX6_addLamp_31 rfl ?_
    refine j_aload_n (q := 35) (i0 := 0) F rfl dX6_addLamp_34 rfl ?_
    refine j_dup (q := 36) F rfl dX6_addLamp_35 rfl ?_
    refine j_get (q := 39) (ci := 6) (q0 := 0) (kf := 0) (v := .int (nI n)) F inX6 rfl rfl rfl tw_87 rfl rfl dX6_addLamp_36 rfl ?_
    refine j_iconst (q := 40) (v := nI 1) F (by decide) dX6_addLamp_39 rfl ?_
    refine j_iadd (q := 41) (v := nI (n + 1)) F (nI_add _ _) dX6_addLamp_40 rfl ?_
    refine j_put (q := 44) (ci := 6) (q0 := 0) (kf := 0) (v := .int (nI (n + 1))) (w' := [(t0, .inr (6, [.int (nI (n + 1)), .int (nI m), .int (nI (t ||| (on * 2 ^ n))), .ref t1, .ref t2, .ref t3, .ref t4])), (t1, .inl (G.2.2.1, 9, .inl (nF (va_up ru n rule))))]) F inX6 tyX6_ok nmX6 rfl rfl rfl tw_87 rfl rfl rfl rfl rfl rfl dX6_addLamp_41 rfl ?_
    exact j_vret (w2 := [(t0, .inr (6, [.int (nI (n + 1)), .int (nI m), .int (nI (t ||| (on * 2 ^ n))), .ref t1, .ref t2, .ref t3, .ref t4])), (t1, .inl (G.2.2.1, 9, .inl (nF (va_up ru n rule))))]) F R0 rfl [0, 1] rfl rfl (⟨rfl, rfl⟩) dX6_addLamp_44

theorem nI_min {a b : Nat} (ha : a < 2 ^ 31) (hb : b < 2 ^ 31) : (if nI b < nI a then nI b else nI a) = nI (min a b) := by
  by_cases h : b < a
  · rw [if_pos ((nI_ltI hb ha).mpr h), Nat.min_eq_right (by omega)]
  · rw [if_neg (fun z => h ((nI_ltI hb ha).mp z)), Nat.min_eq_left (by omega)]
theorem nI_max {a b : Nat} (ha : a < 2 ^ 31) (hb : b < 2 ^ 31) : (if nI a < nI b then nI b else nI a) = nI (max a b) := by
  by_cases h : a < b
  · rw [if_pos ((nI_ltI ha hb).mpr h), Nat.max_eq_right (by omega)]
  · rw [if_neg (fun z => h ((nI_ltI ha hb).mp z)), Nat.max_eq_left (by omega)]
set_option maxHeartbeats 4000000 in
set_option maxRecDepth 100000 in
theorem c_X6_addStreet (G : Gm) {t0 t1 t2 t3 t4 n m t a b : Nat} {la lb ro : Nat → Nat} (hn : n ≤ 9) (hm : m < 15) (ha : a < n) (hb : b < n) : Mg G yX6_addStreet cX6_addStreet 3 none ({ frames := 1, cells := 0, slots := 0, locals := 22 } : Room) 0 0 [.ref t0, .int (nI a), .int (nI b)] [(t0, .inr (6, [.int (nI n), .int (nI m), .int (nI t), .ref t1, .ref t2, .ref t3, .ref t4])), (t2, .inl (G.2.2.1, 15, .inl (nF la))), (t3, .inl (G.2.2.1, 15, .inl (nF lb))), (t4, .inl (G.2.2.1, 9, .inl (nF ro)))] (fun r w2 => r = none ∧ w2 = [(t0, .inr (6, [.int (nI n), .int (nI (m + 1)), .int (nI t), .ref t1, .ref t2, .ref t3, .ref t4])), (t2, .inl (G.2.2.1, 15, .inl (nF (va_up la m (min a b))))), (t3, .inl (G.2.2.1, 15, .inl (nF (va_up lb m (max a b))))), (t4, .inl (G.2.2.1, 9, .inl (nF (va_up (va_up ro a (ro a ||| 2 ^ b)) b (va_up ro a (ro a ||| 2 ^ b) b ||| 2 ^ a)))))]) := by
  refine Mg.mk (lv := [(0, .ref t0), (1, .int (nI a)), (2, .int (nI b))]) (by decide) rfl rfl (fun X F R0 => ?_)
  refine j_aload_n (q := 1) (i0 := 0) F rfl dX6_addStreet_0 rfl ?_
  refine j_get (q := 4) (ci := 6) (q0 := 0) (kf := 1) (v := .int (nI m)) F inX6 rfl rfl rfl tw_92 rfl rfl dX6_addStreet_1 rfl ?_
  refine j_bipush (q := 6) (v := nI 15) F (by decide) dX6_addStreet_4 rfl ?_
  refine j_icmp_ge (q := 9) (t := 87) F (Pp := 15 ≤ m) (nI_leI (by omega) (by omega)) dX6_addStreet_6 rfl rfl (fun c1 => ?_) (fun c1 => ?_)
  · exact absurd c1 (by omega)
  · skip
    refine j_aload_n (q := 10) (i0 := 0) F rfl dX6_addStreet_9 rfl ?_
    refine j_iload_n (q := 11) (i0 := 1) F rfl dX6_addStreet_10 rfl ?_
    refine j_callV (q := 14) (ci := 6) (q0 := 0) (As := [.int (nI a)]) (wr := [(t2, .inl (G.2.2.1, 15, .inl (nF la))), (t3, .inl (G.2.2.1, 15, .inl (nF lb))), (t4, .inl (G.2.2.1, 9, .inl (nF ro)))]) (st := []) F (c_X6_isLamp G (x := nI a) (by omega)) kwX6_isLamp tw_375 tw_376 tw_374 ⟨Nat.le_of_ble_eq_true rfl, Nat.le_of_ble_eq_true rfl, rfl, rfl, Nat.le_of_ble_eq_true rfl, Nat.le_of_ble_eq_true rfl⟩ [0] [1, 2, 3] rfl rfl rfl rfl rfl rfl rfl rfl rfl (Nat.le_of_ble_eq_true rfl) dX6_addStreet_11 rfl ?_
    rintro r_ w_ ⟨rfl, (⟨rfl, hl⟩ | ⟨rfl, hl⟩)⟩
    · skip
      refine j_w (w' := [(t0, .inr (6, [.int (nI n), .int (nI m), .int (nI t), .ref t1, .ref t2, .ref t3, .ref t4])), (t2, .inl (G.2.2.1, 15, .inl (nF la))), (t3, .inl (G.2.2.1, 15, .inl (nF lb))), (t4, .inl (G.2.2.1, 9, .inl (nF ro)))]) [3, 0, 1, 2] rfl rfl ?_
      show Jw G X _ 0 0 14 _ [.int (nI 1)] _
      refine j_if_eq (q := 17) (t := 87) F (cf (by decide)) dX6_addStreet_14 rfl rfl (fun z => False.elim z) (fun _ => ?_)
      refine j_aload_n (q := 18) (i0 := 0) F rfl dX6_addStreet_17 rfl ?_
      refine j_iload_n (q := 19) (i0 := 2) F rfl dX6_addStreet_18 rfl ?_
      refine j_callV (q := 22) (ci := 6) (q0 := 0) (As := [.int (nI b)]) (wr := [(t2, .inl (G.2.2.1, 15, .inl (nF la))), (t3, .inl (G.2.2.1, 15, .inl (nF lb))), (t4, .inl (G.2.2.1, 9, .inl (nF ro)))]) (st := []) F (c_X6_isLamp G (x := nI b) (by omega)) kwX6_isLamp tw_375 tw_376 tw_374 ⟨Nat.le_of_ble_eq_true rfl, Nat.le_of_ble_eq_true rfl, rfl, rfl, Nat.le_of_ble_eq_true rfl, Nat.le_of_ble_eq_true rfl⟩ [0] [1, 2, 3] rfl rfl rfl rfl rfl rfl rfl rfl rfl (Nat.le_of_ble_eq_true rfl) dX6_addStreet_19 rfl ?_
      rintro r_ w_ ⟨rfl, (⟨rfl, hl2⟩ | ⟨rfl, hl2⟩)⟩
      · skip
        refine j_w (w' := [(t0, .inr (6, [.int (nI n), .int (nI m), .int (nI t), .ref t1, .ref t2, .ref t3, .ref t4])), (t2, .inl (G.2.2.1, 15, .inl (nF la))), (t3, .inl (G.2.2.1, 15, .inl (nF lb))), (t4, .inl (G.2.2.1, 9, .inl (nF ro)))]) [3, 0, 1, 2] rfl rfl ?_
        show Jw G X _ 0 0 22 _ [.int (nI 1)] _
        refine j_if_eq (q := 25) (t := 87) F (cf (by decide)) dX6_addStreet_22 rfl rfl (fun z => False.elim z) (fun _ => ?_)
        refine j_aload_n (q := 26) (i0 := 0) F rfl dX6_addStreet_25 rfl ?_
        refine j_get (q := 29) (ci := 6) (q0 := 0) (kf := 4) (v := .ref t2) F inX6 rfl rfl rfl tw_102 rfl rfl dX6_addStreet_26 rfl ?_
        refine j_aload_n (q := 30) (i0 := 0) F rfl dX6_addStreet_29 rfl ?_
        refine j_get (q := 33) (ci := 6) (q0 := 0) (kf := 1) (v := .int (nI m)) F inX6 rfl rfl rfl tw_92 rfl rfl dX6_addStreet_30 rfl ?_
        refine j_iload_n (q := 34) (i0 := 1) F rfl dX6_addStreet_33 rfl ?_
        refine j_iload_n (q := 35) (i0 := 2) F rfl dX6_addStreet_34 rfl ?_
        refine j_mmin (q := 38) (v := nI (min a b)) F tw_382 tw_344 tw_48 tw_345 (Nat.le_of_ble_eq_true rfl) (Nat.le_of_ble_eq_true rfl) ⟨Nat.le_of_ble_eq_true rfl, Nat.le_of_ble_eq_true rfl⟩ (nI_min (by omega) (by omega)) dX6_addStreet_35 rfl ?_
        refine j_iast (q := 39) (q0 := 1) (i := m) (f2 := nF (va_up la m (min a b))) (w' := [(t0, .inr (6, [.int (nI n), .int (nI m), .int (nI t), .ref t1, .ref t2, .ref t3, .ref t4])), (t2, .inl (G.2.2.1, 15, .inl (nF (va_up la m (min a b))))), (t3, .inl (G.2.2.1, 15, .inl (nF lb))), (t4, .inl (G.2.2.1, 9, .inl (nF ro)))]) F rfl rfl (by omega) rfl (nF_up _ _ _) rfl dX6_addStreet_38 rfl ?_
        refine j_aload_n (q := 40) (i0 := 0) F rfl dX6_addStreet_39 rfl ?_
        refine j_get (q := 43) (ci := 6) (q0 := 0) (kf := 5) (v := .ref t3) F inX6 rfl rfl rfl tw_105 rfl rfl dX6_addStreet_40 rfl ?_
        refine j_aload_n (q := 44) (i0 := 0) F rfl dX6_addStreet_43 rfl ?_
        refine j_get (q := 47) (ci := 6) (q0 := 0) (kf := 1) (v := .int (nI m)) F inX6 rfl rfl rfl tw_92 rfl rfl dX6_addStreet_44 rfl ?_
        refine j_iload_n (q := 48) (i0 := 1) F rfl dX6_addStreet_47 rfl ?_
        refine j_iload_n (q := 49) (i0 := 2) F rfl dX6_addStreet_48 rfl ?_
        refine j_mmax (q := 52) (v := nI (max a b)) F tw_383 tw_384 tw_48 tw_385 (Nat.le_of_ble_eq_true rfl) (Nat.le_of_ble_eq_true rfl) ⟨Nat.le_of_ble_eq_true rfl, Nat.le_of_ble_eq_true rfl⟩ (nI_max (by omega) (by omega)) dX6_addStreet_49 rfl ?_
        refine j_iast (q := 53) (q0 := 2) (i := m) (f2 := nF (va_up lb m (max a b))) (w' := [(t0, .inr (6, [.int (nI n), .int (nI m), .int (nI t), .ref t1, .ref t2, .ref t3, .ref t4])), (t2, .inl (G.2.2.1, 15, .inl (nF (va_up la m (min a b))))), (t3, .inl (G.2.2.1, 15, .inl (nF (va_up lb m (max a b))))), (t4, .inl (G.2.2.1, 9, .inl (nF ro)))]) F rfl rfl (by omega) rfl (nF_up _ _ _) rfl dX6_addStreet_52 rfl ?_
        refine j_aload_n (q := 54) (i0 := 0) F rfl dX6_addStreet_53 rfl ?_
        refine j_get (q := 57) (ci := 6) (q0 := 0) (kf := 6) (v := .ref t4) F inX6 rfl rfl rfl tw_108 rfl rfl dX6_addStreet_54 rfl ?_
        refine j_iload_n (q := 58) (i0 := 1) F rfl dX6_addStreet_57 rfl ?_
        refine j_dup2 (q := 59) F rfl rfl dX6_addStreet_58 rfl ?_
        refine j_iald (q := 60) (q0 := 3) (i := a) (v := nI (ro a)) F rfl rfl (by omega) rfl (rfl) dX6_addStreet_59 rfl ?_
        refine j_iconst (q := 61) (v := nI 1) F (by decide) dX6_addStreet_60 rfl ?_
        refine j_iload_n (q := 62) (i0 := 2) F rfl dX6_addStreet_61 rfl ?_
        refine j_ishl (q := 63) (v := nI (2 ^ b)) F (nx_shl1 (by omega)) dX6_addStreet_62 rfl ?_
        refine j_ior (q := 64) (v := nI ((ro a) ||| (2 ^ b))) F (nx_or _ _) dX6_addStreet_63 rfl ?_
        refine j_iast (q := 65) (q0 := 3) (i := a) (f2 := nF (va_up ro a ((ro a) ||| (2 ^ b)))) (w' := [(t0, .inr (6, [.int (nI n), .int (nI m), .int (nI t), .ref t1, .ref t2, .ref t3, .ref t4])), (t2, .inl (G.2.2.1, 15, .inl (nF (va_up la m (min a b))))), (t3, .inl (G.2.2.1, 15, .inl (nF (va_up lb m (max a b))))), (t4, .inl (G.2.2.1, 9, .inl (nF (va_up ro a ((ro a) ||| (2 ^ b))))))]) F rfl rfl (by omega) rfl (nF_up _ _ _) rfl dX6_addStreet_64 rfl ?_
        refine j_aload_n (q := 66) (i0 := 0) F rfl dX6_addStreet_65 rfl ?_
        refine j_get (q := 69) (ci := 6) (q0 := 0) (kf := 6) (v := .ref t4) F inX6 rfl rfl rfl tw_108 rfl rfl dX6_addStreet_66 rfl ?_
        refine j_iload_n (q := 70) (i0 := 2) F rfl dX6_addStreet_69 rfl ?_
        refine j_dup2 (q := 71) F rfl rfl dX6_addStreet_70 rfl ?_
        refine j_iald (q := 72) (q0 := 3) (i := b) (v := nI ((va_up ro a ((ro a) ||| (2 ^ b))) b)) F rfl rfl (by omega) rfl (rfl) dX6_addStreet_71 rfl ?_
        refine j_iconst (q := 73) (v := nI 1) F (by decide) dX6_addStreet_72 rfl ?_
        refine j_iload_n (q := 74) (i0 := 1) F rfl dX6_addStreet_73 rfl ?_
        refine j_ishl (q := 75) (v := nI (2 ^ a)) F (nx_shl1 (by omega)) dX6_addStreet_74 rfl ?_
        refine j_ior (q := 76) (v := nI (((va_up ro a ((ro a) ||| (2 ^ b))) b) ||| (2 ^ a))) F (nx_or _ _) dX6_addStreet_75 rfl ?_
        refine j_iast (q := 77) (q0 := 3) (i := b) (f2 := nF (va_up (va_up ro a ((ro a) ||| (2 ^ b))) b (((va_up ro a ((ro a) ||| (2 ^ b))) b) ||| (2 ^ a)))) (w' := [(t0, .inr (6, [.int (nI n), .int (nI m), .int (nI t), .ref t1, .ref t2, .ref t3, .ref t4])), (t2, .inl (G.2.2.1, 15, .inl (nF (va_up la m (min a b))))), (t3, .inl (G.2.2.1, 15, .inl (nF (va_up lb m (max a b))))), (t4, .inl (G.2.2.1, 9, .inl (nF (va_up (va_up ro a ((ro a) ||| (2 ^ b))) b (((va_up ro a ((ro a) ||| (2 ^ b))) b) ||| (2 ^ a))))))]) F rfl rfl (by omega) rfl (nF_up _ _ _) rfl dX6_addStreet_76 rfl ?_
        refine j_aload_n (q := 78) (i0 := 0) F rfl dX6_addStreet_77 rfl ?_
        refine j_dup (q := 79) F rfl dX6_addStreet_78 rfl ?_
        refine j_get (q := 82) (ci := 6) (q0 := 0) (kf := 1) (v := .int (nI m)) F inX6 rfl rfl rfl tw_92 rfl rfl dX6_addStreet_79 rfl ?_
        refine j_iconst (q := 83) (v := nI 1) F (by decide) dX6_addStreet_82 rfl ?_
        refine j_iadd (q := 84) (v := nI (m + 1)) F (nI_add _ _) dX6_addStreet_83 rfl ?_
        refine j_put (q := 87) (ci := 6) (q0 := 0) (kf := 1) (v := .int (nI (m + 1))) (w' := [(t0, .inr (6, [.int (nI n), .int (nI (m + 1)), .int (nI t), .ref t1, .ref t2, .ref t3, .ref t4])), (t2, .inl (G.2.2.1, 15, .inl (nF (va_up la m (min a b))))), (t3, .inl (G.2.2.1, 15, .inl (nF (va_up lb m (max a b))))), (t4, .inl (G.2.2.1, 9, .inl (nF (va_up (va_up ro a ((ro a) ||| (2 ^ b))) b (((va_up ro a ((ro a) ||| (2 ^ b))) b) ||| (2 ^ a))))))]) F inX6 tyX6_ok nmX6 rfl rfl rfl tw_92 rfl rfl rfl rfl rfl rfl dX6_addStreet_84 rfl ?_
        exact j_vret (w2 := [(t0, .inr (6, [.int (nI n), .int (nI (m + 1)), .int (nI t), .ref t1, .ref t2, .ref t3, .ref t4])), (t2, .inl (G.2.2.1, 15, .inl (nF (va_up la m (min a b))))), (t3, .inl (G.2.2.1, 15, .inl (nF (va_up lb m (max a b))))), (t4, .inl (G.2.2.1, 9, .inl (nF (va_up (va_up ro a ((ro a) ||| (2 ^ b))) b (((va_up ro a ((ro a) ||| (2 ^ b))) b) ||| (2 ^ a))))))]) F R0 rfl [0, 1, 2, 3] rfl rfl (⟨rfl, rfl⟩) dX6_addStreet_87
      · skip
        exact absurd ((inR_nI (by omega) (by omega)).mpr hb) hl2
    · skip
      exact absurd ((inR_nI (by omega) (by omega)).mpr ha) hl

set_option maxHeartbeats 4000000 in
set_option maxRecDepth 100000 in
theorem c_X6_take (G : Gm) {t0 t1 t2 t3 t4 u0 u1 u2 u3 u4 n m t n2 m2 s2 : Nat} {ru la lb ro ru2 la2 lb2 ro2 : Nat → Nat}  : Mg G yX6_take cX6_take 2 none ({ frames := 1, cells := 0, slots := 0, locals := 40 } : Room) 0 0 [.ref t0, .ref u0] [(t0, .inr (6, [.int (nI n), .int (nI m), .int (nI t), .ref t1, .ref t2, .ref t3, .ref t4])), (t1, .inl (G.2.2.1, 9, .inl (nF ru))), (t2, .inl (G.2.2.1, 15, .inl (nF la))), (t3, .inl (G.2.2.1, 15, .inl (nF lb))), (t4, .inl (G.2.2.1, 9, .inl (nF ro))), (u0, .inr (6, [.int (nI n2), .int (nI m2), .int (nI s2), .ref u1, .ref u2, .ref u3, .ref u4])), (u1, .inl (G.2.2.1, 9, .inl (nF ru2))), (u2, .inl (G.2.2.1, 15, .inl (nF la2))), (u3, .inl (G.2.2.1, 15, .inl (nF lb2))), (u4, .inl (G.2.2.1, 9, .inl (nF ro2)))] (fun r w2 => r = none ∧ w2 = [(t0, .inr (6, [.int (nI n2), .int (nI m2), .int (nI s2), .ref t1, .ref t2, .ref t3, .ref t4])), (t1, .inl (G.2.2.1, 9, .inl (nF (va_cpy ru2 ru 0 0 9)))), (t2, .inl (G.2.2.1, 15, .inl (nF (va_cpy la2 la 0 0 15)))), (t3, .inl (G.2.2.1, 15, .inl (nF (va_cpy lb2 lb 0 0 15)))), (t4, .inl (G.2.2.1, 9, .inl (nF (va_cpy ro2 ro 0 0 9)))), (u0, .inr (6, [.int (nI n2), .int (nI m2), .int (nI s2), .ref u1, .ref u2, .ref u3, .ref u4])), (u1, .inl (G.2.2.1, 9, .inl (nF ru2))), (u2, .inl (G.2.2.1, 15, .inl (nF la2))), (u3, .inl (G.2.2.1, 15, .inl (nF lb2))), (u4, .inl (G.2.2.1, 9, .inl (nF ro2)))]) := by
  refine Mg.mk (lv := [(0, .ref t0), (1, .ref u0)]) (by decide) rfl rfl (fun X F R0 => ?_)
  refine j_aload_n (q := 1) (i0 := 0) F rfl dX6_take_0 rfl ?_
  refine j_aload_n (q := 2) (i0 := 1) F rfl dX6_take_1 rfl ?_
  refine j_get (q := 5) (ci := 6) (q0 := 5) (kf := 0) (v := .int (nI n2)) F inX6 rfl rfl rfl tw_87 rfl rfl dX6_take_2 rfl ?_
  refine j_put (q := 8) (ci := 6) (q0 := 0) (kf := 0) (v := .int (nI n2)) (w' := [(t0, .inr (6, [.int (nI n2), .int (nI m), .int (nI t), .ref t1, .ref t2, .ref t3, .ref t4])), (t1, .inl (G.2.2.1, 9, .inl (nF ru))), (t2, .inl (G.2.2.1, 15, .inl (nF la))), (t3, .inl (G.2.2.1, 15, .inl (nF lb))), (t4, .inl (G.2.2.1, 9, .inl (nF ro))), (u0, .inr (6, [.int (nI n2), .int (nI m2), .int (nI s2), .ref u1, .ref u2, .ref u3, .ref u4])), (u1, .inl (G.2.2.1, 9, .inl (nF ru2))), (u2, .inl (G.2.2.1, 15, .inl (nF la2))), (u3, .inl (G.2.2.1, 15, .inl (nF lb2))), (u4, .inl (G.2.2.1, 9, .inl (nF ro2)))]) F inX6 tyX6_ok nmX6 rfl rfl rfl tw_87 rfl rfl rfl rfl rfl rfl dX6_take_5 rfl ?_
  refine j_aload_n (q := 9) (i0 := 0) F rfl dX6_take_8 rfl ?_
  refine j_aload_n (q := 10) (i0 := 1) F rfl dX6_take_9 rfl ?_
  refine j_get (q := 13) (ci := 6) (q0 := 5) (kf := 1) (v := .int (nI m2)) F inX6 rfl rfl rfl tw_92 rfl rfl dX6_take_10 rfl ?_
  refine j_put (q := 16) (ci := 6) (q0 := 0) (kf := 1) (v := .int (nI m2)) (w' := [(t0, .inr (6, [.int (nI n2), .int (nI m2), .int (nI t), .ref t1, .ref t2, .ref t3, .ref t4])), (t1, .inl (G.2.2.1, 9, .inl (nF ru))), (t2, .inl (G.2.2.1, 15, .inl (nF la))), (t3, .inl (G.2.2.1, 15, .inl (nF lb))), (t4, .inl (G.2.2.1, 9, .inl (nF ro))), (u0, .inr (6, [.int (nI n2), .int (nI m2), .int (nI s2), .ref u1, .ref u2, .ref u3, .ref u4])), (u1, .inl (G.2.2.1, 9, .inl (nF ru2))), (u2, .inl (G.2.2.1, 15, .inl (nF la2))), (u3, .inl (G.2.2.1, 15, .inl (nF lb2))), (u4, .inl (G.2.2.1, 9, .inl (nF ro2)))]) F inX6 tyX6_ok nmX6 rfl rfl rfl tw_92 rfl rfl rfl rfl rfl rfl dX6_take_13 rfl ?_
  refine j_aload_n (q := 17) (i0 := 0) F rfl dX6_take_16 rfl ?_
  refine j_aload_n (q := 18) (i0 := 1) F rfl dX6_take_17 rfl ?_
  refine j_get (q := 21) (ci := 6) (q0 := 5) (kf := 2) (v := .int (nI s2)) F inX6 rfl rfl rfl tw_97 rfl rfl dX6_take_18 rfl ?_
  refine j_put (q := 24) (ci := 6) (q0 := 0) (kf := 2) (v := .int (nI s2)) (w' := [(t0, .inr (6, [.int (nI n2), .int (nI m2), .int (nI s2), .ref t1, .ref t2, .ref t3, .ref t4])), (t1, .inl (G.2.2.1, 9, .inl (nF ru))), (t2, .inl (G.2.2.1, 15, .inl (nF la))), (t3, .inl (G.2.2.1, 15, .inl (nF lb))), (t4, .inl (G.2.2.1, 9, .inl (nF ro))), (u0, .inr (6, [.int (nI n2), .int (nI m2), .int (nI s2), .ref u1, .ref u2, .ref u3, .ref u4])), (u1, .inl (G.2.2.1, 9, .inl (nF ru2))), (u2, .inl (G.2.2.1, 15, .inl (nF la2))), (u3, .inl (G.2.2.1, 15, .inl (nF lb2))), (u4, .inl (G.2.2.1, 9, .inl (nF ro2)))]) F inX6 tyX6_ok nmX6 rfl rfl rfl tw_97 rfl rfl rfl rfl rfl rfl dX6_take_21 rfl ?_
  refine j_aload_n (q := 25) (i0 := 1) F rfl dX6_take_24 rfl ?_
  refine j_get (q := 28) (ci := 6) (q0 := 5) (kf := 3) (v := .ref u1) F inX6 rfl rfl rfl tw_98 rfl rfl dX6_take_25 rfl ?_
  refine j_iconst (q := 29) (v := nI 0) F (by decide) dX6_take_28 rfl ?_
  refine j_aload_n (q := 30) (i0 := 0) F rfl dX6_take_29 rfl ?_
  refine j_get (q := 33) (ci := 6) (q0 := 0) (kf := 3) (v := .ref t1) F inX6 rfl rfl rfl tw_98 rfl rfl dX6_take_30 rfl ?_
  refine j_iconst (q := 34) (v := nI 0) F (by decide) dX6_take_33 rfl ?_
  refine j_bipush (q := 36) (v := nI 9) F (by decide) dX6_take_34 rfl ?_
  refine j_copy (q := 39) (q0 := 6) (q1 := 1) (sp := 0) (dp := 0) (c0 := 9) (g2 := nF (va_cpy ru2 ru 0 0 9)) (w' := [(t0, .inr (6, [.int (nI n2), .int (nI m2), .int (nI s2), .ref t1, .ref t2, .ref t3, .ref t4])), (t1, .inl (G.2.2.1, 9, .inl (nF (va_cpy ru2 ru 0 0 9)))), (t2, .inl (G.2.2.1, 15, .inl (nF la))), (t3, .inl (G.2.2.1, 15, .inl (nF lb))), (t4, .inl (G.2.2.1, 9, .inl (nF ro))), (u0, .inr (6, [.int (nI n2), .int (nI m2), .int (nI s2), .ref u1, .ref u2, .ref u3, .ref u4])), (u1, .inl (G.2.2.1, 9, .inl (nF ru2))), (u2, .inl (G.2.2.1, 15, .inl (nF la2))), (u3, .inl (G.2.2.1, 15, .inl (nF lb2))), (u4, .inl (G.2.2.1, 9, .inl (nF ro2)))]) F rfl rfl rfl rfl rfl rfl rfl rfl rfl tw_390 tw_392 tw_391 tw_49 (Nat.le_of_ble_eq_true rfl) (Nat.le_of_ble_eq_true rfl) (nF_cpy _ _ _ _ _) rfl dX6_take_36 rfl ?_
  refine j_aload_n (q := 40) (i0 := 1) F rfl dX6_take_39 rfl ?_
  refine j_get (q := 43) (ci := 6) (q0 := 5) (kf := 4) (v := .ref u2) F inX6 rfl rfl rfl tw_102 rfl rfl dX6_take_40 rfl ?_
  refine j_iconst (q := 44) (v := nI 0) F (by decide) dX6_take_43 rfl ?_
  refine j_aload_n (q := 45) (i0 := 0) F rfl dX6_take_44 rfl ?_
  refine j_get (q := 48) (ci := 6) (q0 := 0) (kf := 4) (v := .ref t2) F inX6 rfl rfl rfl tw_102 rfl rfl dX6_take_45 rfl ?_
  refine j_iconst (q := 49) (v := nI 0) F (by decide) dX6_take_48 rfl ?_
  refine j_bipush (q := 51) (v := nI 15) F (by decide) dX6_take_49 rfl ?_
  refine j_copy (q := 54) (q0 := 7) (q1 := 2) (sp := 0) (dp := 0) (c0 := 15) (g2 := nF (va_cpy la2 la 0 0 15)) (w' := [(t0, .inr (6, [.int (nI n2), .int (nI m2), .int (nI s2), .ref t1, .ref t2, .ref t3, .ref t4])), (t1, .inl (G.2.2.1, 9, .inl (nF (va_cpy ru2 ru 0 0 9)))), (t2, .inl (G.2.2.1, 15, .inl (nF (va_cpy la2 la 0 0 15)))), (t3, .inl (G.2.2.1, 15, .inl (nF lb))), (t4, .inl (G.2.2.1, 9, .inl (nF ro))), (u0, .inr (6, [.int (nI n2), .int (nI m2), .int (nI s2), .ref u1, .ref u2, .ref u3, .ref u4])), (u1, .inl (G.2.2.1, 9, .inl (nF ru2))), (u2, .inl (G.2.2.1, 15, .inl (nF la2))), (u3, .inl (G.2.2.1, 15, .inl (nF lb2))), (u4, .inl (G.2.2.1, 9, .inl (nF ro2)))]) F rfl rfl rfl rfl rfl rfl rfl rfl rfl tw_390 tw_392 tw_391 tw_49 (Nat.le_of_ble_eq_true rfl) (Nat.le_of_ble_eq_true rfl) (nF_cpy _ _ _ _ _) rfl dX6_take_51 rfl ?_
  refine j_aload_n (q := 55) (i0 := 1) F rfl dX6_take_54 rfl ?_
  refine j_get (q := 58) (ci := 6) (q0 := 5) (kf := 5) (v := .ref u3) F inX6 rfl rfl rfl tw_105 rfl rfl dX6_take_55 rfl ?_
  refine j_iconst (q := 59) (v := nI 0) F (by decide) dX6_take_58 rfl ?_
  refine j_aload_n (q := 60) (i0 := 0) F rfl dX6_take_59 rfl ?_
  refine j_get (q := 63) (ci := 6) (q0 := 0) (kf := 5) (v := .ref t3) F inX6 rfl rfl rfl tw_105 rfl rfl dX6_take_60 rfl ?_
  refine j_iconst (q := 64) (v := nI 0) F (by decide) dX6_take_63 rfl ?_
  refine j_bipush (q := 66) (v := nI 15) F (by decide) dX6_take_64 rfl ?_
  refine j_copy (q := 69) (q0 := 8) (q1 := 3) (sp := 0) (dp := 0) (c0 := 15) (g2 := nF (va_cpy lb2 lb 0 0 15)) (w' := [(t0, .inr (6, [.int (nI n2), .int (nI m2), .int (nI s2), .ref t1, .ref t2, .ref t3, .ref t4])), (t1, .inl (G.2.2.1, 9, .inl (nF (va_cpy ru2 ru 0 0 9)))), (t2, .inl (G.2.2.1, 15, .inl (nF (va_cpy la2 la 0 0 15)))), (t3, .inl (G.2.2.1, 15, .inl (nF (va_cpy lb2 lb 0 0 15)))), (t4, .inl (G.2.2.1, 9, .inl (nF ro))), (u0, .inr (6, [.int (nI n2), .int (nI m2), .int (nI s2), .ref u1, .ref u2, .ref u3, .ref u4])), (u1, .inl (G.2.2.1, 9, .inl (nF ru2))), (u2, .inl (G.2.2.1, 15, .inl (nF la2))), (u3, .inl (G.2.2.1, 15, .inl (nF lb2))), (u4, .inl (G.2.2.1, 9, .inl (nF ro2)))]) F rfl rfl rfl rfl rfl rfl rfl rfl rfl tw_390 tw_392 tw_391 tw_49 (Nat.le_of_ble_eq_true rfl) (Nat.le_of_ble_eq_true rfl) (nF_cpy _ _ _ _ _) rfl dX6_take_66 rfl ?_
  refine j_aload_n (q := 70) (i0 := 1) F rfl dX6_take_69 rfl ?_
  refine j_get (q := 73) (ci := 6) (q0 := 5) (kf := 6) (v := .ref u4) F inX6 rfl rfl rfl tw_108 rfl rfl dX6_take_70 rfl ?_
  refine j_iconst (q := 74) (v := nI 0) F (by decide) dX6_take_73 rfl ?_
  refine j_aload_n (q := 75) (i0 := 0) F rfl dX6_take_74 rfl ?_
  refine j_get (q := 78) (ci := 6) (q0 := 0) (kf := 6) (v := .ref t4) F inX6 rfl rfl rfl tw_108 rfl rfl dX6_take_75 rfl ?_
  refine j_iconst (q := 79) (v := nI 0) F (by decide) dX6_take_78 rfl ?_
  refine j_bipush (q := 81) (v := nI 9) F (by decide) dX6_take_79 rfl ?_
  refine j_copy (q := 84) (q0 := 9) (q1 := 4) (sp := 0) (dp := 0) (c0 := 9) (g2 := nF (va_cpy ro2 ro 0 0 9)) (w' := [(t0, .inr (6, [.int (nI n2), .int (nI m2), .int (nI s2), .ref t1, .ref t2, .ref t3, .ref t4])), (t1, .inl (G.2.2.1, 9, .inl (nF (va_cpy ru2 ru 0 0 9)))), (t2, .inl (G.2.2.1, 15, .inl (nF (va_cpy la2 la 0 0 15)))), (t3, .inl (G.2.2.1, 15, .inl (nF (va_cpy lb2 lb 0 0 15)))), (t4, .inl (G.2.2.1, 9, .inl (nF (va_cpy ro2 ro 0 0 9)))), (u0, .inr (6, [.int (nI n2), .int (nI m2), .int (nI s2), .ref u1, .ref u2, .ref u3, .ref u4])), (u1, .inl (G.2.2.1, 9, .inl (nF ru2))), (u2, .inl (G.2.2.1, 15, .inl (nF la2))), (u3, .inl (G.2.2.1, 15, .inl (nF lb2))), (u4, .inl (G.2.2.1, 9, .inl (nF ro2)))]) F rfl rfl rfl rfl rfl rfl rfl rfl rfl tw_390 tw_392 tw_391 tw_49 (Nat.le_of_ble_eq_true rfl) (Nat.le_of_ble_eq_true rfl) (nF_cpy _ _ _ _ _) rfl dX6_take_81 rfl ?_
  exact j_vret (w2 := [(t0, .inr (6, [.int (nI n2), .int (nI m2), .int (nI s2), .ref t1, .ref t2, .ref t3, .ref t4])), (t1, .inl (G.2.2.1, 9, .inl (nF (va_cpy ru2 ru 0 0 9)))), (t2, .inl (G.2.2.1, 15, .inl (nF (va_cpy la2 la 0 0 15)))), (t3, .inl (G.2.2.1, 15, .inl (nF (va_cpy lb2 lb 0 0 15)))), (t4, .inl (G.2.2.1, 9, .inl (nF (va_cpy ro2 ro 0 0 9)))), (u0, .inr (6, [.int (nI n2), .int (nI m2), .int (nI s2), .ref u1, .ref u2, .ref u3, .ref u4])), (u1, .inl (G.2.2.1, 9, .inl (nF ru2))), (u2, .inl (G.2.2.1, 15, .inl (nF la2))), (u3, .inl (G.2.2.1, 15, .inl (nF lb2))), (u4, .inl (G.2.2.1, 9, .inl (nF ro2)))]) F R0 rfl [0, 1, 2, 3, 4, 5, 6, 7, 8, 9] rfl rfl (⟨rfl, rfl⟩) dX6_take_84

set_option maxHeartbeats 4000000 in
set_option maxRecDepth 100000 in
theorem c_X3_begin (G : Gm) {p0 p1 be sd tu fo kn told : Nat}  : Mg G yX3_begin cX3_begin 2 none ({ frames := 0, cells := 0, slots := 0, locals := 0 } : Room) 0 0 [.ref p0, .int (nI told)] [(p0, .inr (3, [.int (nI be), .int (nI sd), .int (nI tu), .int (nI fo), .int (nI kn), .ref p1]))] (fun r w2 => r = none ∧ w2 = [(p0, .inr (3, [.int (nI 0), .int (nI told), .int (nI 0), .int (nI 0), .int (nI 0), .ref p1]))]) := by
  refine Mg.mk (lv := [(0, .ref p0), (1, .int (nI told))]) (by decide) rfl rfl (fun X F R0 => ?_)
  refine j_aload_n (q := 1) (i0 := 0) F rfl dX3_begin_0 rfl ?_
  refine j_iconst (q := 2) (v := nI 0) F (by decide) dX3_begin_1 rfl ?_
  refine j_put (q := 5) (ci := 3) (q0 := 0) (kf := 0) (v := .int (nI 0)) (w' := [(p0, .inr (3, [.int (nI 0), .int (nI sd), .int (nI tu), .int (nI fo), .int (nI kn), .ref p1]))]) F inX3 tyX3_ok nmX3 rfl rfl rfl tw_157 rfl rfl rfl rfl rfl rfl dX3_begin_2 rfl ?_
  refine j_aload_n (q := 6) (i0 := 0) F rfl dX3_begin_5 rfl ?_
  refine j_iload_n (q := 7) (i0 := 1) F rfl dX3_begin_6 rfl ?_
  refine j_put (q := 10) (ci := 3) (q0 := 0) (kf := 1) (v := .int (nI told)) (w' := [(p0, .inr (3, [.int (nI 0), .int (nI told), .int (nI tu), .int (nI fo), .int (nI kn), .ref p1]))]) F inX3 tyX3_ok nmX3 rfl rfl rfl tw_159 rfl rfl rfl rfl rfl rfl dX3_begin_7 rfl ?_
  refine j_aload_n (q := 11) (i0 := 0) F rfl dX3_begin_10 rfl ?_
  refine j_iconst (q := 12) (v := nI 0) F (by decide) dX3_begin_11 rfl ?_
  refine j_put (q := 15) (ci := 3) (q0 := 0) (kf := 2) (v := .int (nI 0)) (w' := [(p0, .inr (3, [.int (nI 0), .int (nI told), .int (nI 0), .int (nI fo), .int (nI kn), .ref p1]))]) F inX3 tyX3_ok nmX3 rfl rfl rfl tw_162 rfl rfl rfl rfl rfl rfl dX3_begin_12 rfl ?_
  refine j_aload_n (q := 16) (i0 := 0) F rfl dX3_begin_15 rfl ?_
  refine j_iconst (q := 17) (v := nI 0) F (by decide) dX3_begin_16 rfl ?_
  refine j_put (q := 20) (ci := 3) (q0 := 0) (kf := 3) (v := .int (nI 0)) (w' := [(p0, .inr (3, [.int (nI 0), .int (nI told), .int (nI 0), .int (nI 0), .int (nI kn), .ref p1]))]) F inX3 tyX3_ok nmX3 rfl rfl rfl tw_164 rfl rfl rfl rfl rfl rfl dX3_begin_17 rfl ?_
  refine j_aload_n (q := 21) (i0 := 0) F rfl dX3_begin_20 rfl ?_
  refine j_iconst (q := 22) (v := nI 0) F (by decide) dX3_begin_21 rfl ?_
  refine j_put (q := 25) (ci := 3) (q0 := 0) (kf := 4) (v := .int (nI 0)) (w' := [(p0, .inr (3, [.int (nI 0), .int (nI told), .int (nI 0), .int (nI 0), .int (nI 0), .ref p1]))]) F inX3 tyX3_ok nmX3 rfl rfl rfl tw_166 rfl rfl rfl rfl rfl rfl dX3_begin_22 rfl ?_
  exact j_vret (w2 := [(p0, .inr (3, [.int (nI 0), .int (nI told), .int (nI 0), .int (nI 0), .int (nI 0), .ref p1]))]) F R0 rfl [0] rfl rfl (⟨rfl, rfl⟩) dX3_begin_25

/-- four numbers into the past from place k on -/
def put4 (f : Nat → Nat) (k be sd tu fo : Nat) : Nat → Nat := va_up (va_up (va_up (va_up f (k * 4) be) (k * 4 + 1) sd) (k * 4 + 2) tu) (k * 4 + 3) fo
def rmK (kn : Nat) : Nat := if kn < 10 then kn + 1 else 10
def rmP (kn be sd tu fo : Nat) (pa : Nat → Nat) : Nat → Nat := if kn < 10 then put4 pa kn be sd tu fo else put4 (va_cpy pa pa 4 0 36) 9 be sd tu fo
set_option maxHeartbeats 4000000 in
set_option maxRecDepth 100000 in
theorem c_X3_remember (G : Gm) {p0 p1 be sd tu fo kn : Nat} {pa : Nat → Nat} (hk : kn ≤ 10) : Mg G yX3_remember cX3_remember 2 none ({ frames := 1, cells := 0, slots := 0, locals := 40 } : Room) 0 0 [.ref p0] [(p0, .inr (3, [.int (nI be), .int (nI sd), .int (nI tu), .int (nI fo), .int (nI kn), .ref p1])), (p1, .inl (G.2.2.1, 40, .inl (nF pa)))] (fun r w2 => r = none ∧ w2 = [(p0, .inr (3, [.int (nI be), .int (nI sd), .int (nI tu), .int (nI fo), .int (nI (rmK kn)), .ref p1])), (p1, .inl (G.2.2.1, 40, .inl (nF (rmP kn be sd tu fo pa))))]) := by
  refine Mg.mk (lv := [(0, .ref p0)]) (by decide) rfl rfl (fun X F R0 => ?_)
  refine j_aload_n (q := 1) (i0 := 0) F rfl dX3_remember_0 rfl ?_
  refine j_get (q := 4) (ci := 3) (q0 := 0) (kf := 4) (v := .int (nI kn)) F inX3 rfl rfl rfl tw_166 rfl rfl dX3_remember_1 rfl ?_
  refine j_bipush (q := 6) (v := nI 10) F (by decide) dX3_remember_4 rfl ?_
  refine j_icmp_lt (q := 9) (t := 30) F (Pp := kn < 10) (nI_ltI (by omega) (by omega)) dX3_remember_6 rfl rfl (fun c1 => ?_) (fun c1 => ?_)
  · skip
    refine j_aload_n (q := 31) (i0 := 0) F rfl dX3_remember_30 rfl ?_
    refine j_get (q := 34) (ci := 3) (q0 := 0) (kf := 4) (v := .int (nI kn)) F inX3 rfl rfl rfl tw_166 rfl rfl dX3_remember_31 rfl ?_
    refine j_iconst (q := 35) (v := nI 4) F (by decide) dX3_remember_34 rfl ?_
    refine j_imul (q := 36) (v := nI (kn * 4)) F (pk_mul _ _) dX3_remember_35 rfl ?_
    refine j_istore_n (q := 37) (lv' := [(1, .int (nI (kn * 4))), (0, .ref p0)]) F dX3_remember_36 (by decide) rfl rfl ?_
    refine j_aload_n (q := 38) (i0 := 1) F rfl dX3_remember_37 rfl ?_
    refine j_get (q := 41) (ci := 3) (q0 := 0) (kf := 5) (v := .ref p1) F inX3 rfl rfl rfl tw_168 rfl rfl dX3_remember_38 rfl ?_
    refine j_iload_n (q := 42) (i0 := 0) F rfl dX3_remember_41 rfl ?_
    refine j_aload_n (q := 43) (i0 := 1) F rfl dX3_remember_42 rfl ?_
    refine j_get (q := 46) (ci := 3) (q0 := 0) (kf := 0) (v := .int (nI be)) F inX3 rfl rfl rfl tw_157 rfl rfl dX3_remember_43 rfl ?_
    refine j_iast (q := 47) (q0 := 1) (i := (kn * 4)) (f2 := nF (va_up pa (kn * 4) be)) (w' := [(p0, .inr (3, [.int (nI be), .int (nI sd), .int (nI tu), .int (nI fo), .int (nI kn), .ref p1])), (p1, .inl (G.2.2.1, 40, .inl (nF (va_up pa (kn * 4) be))))]) F rfl rfl (by omega) rfl (nF_up _ _ _) rfl dX3_remember_46 rfl ?_
    refine j_aload_n (q := 48) (i0 := 1) F rfl dX3_remember_47 rfl ?_
    refine j_get (q := 51) (ci := 3) (q0 := 0) (kf := 5) (v := .ref p1) F inX3 rfl rfl rfl tw_168 rfl rfl dX3_remember_48 rfl ?_
    refine j_iload_n (q := 52) (i0 := 0) F rfl dX3_remember_51 rfl ?_
    refine j_iconst (q := 53) (v := nI 1) F (by decide) dX3_remember_52 rfl ?_
    refine j_iadd (q := 54) (v := nI ((kn * 4) + 1)) F (nI_add _ _) dX3_remember_53 rfl ?_
    refine j_aload_n (q := 55) (i0 := 1) F rfl dX3_remember_54 rfl ?_
    refine j_get (q := 58) (ci := 3) (q0 := 0) (kf := 1) (v := .int (nI sd)) F inX3 rfl rfl rfl tw_159 rfl rfl dX3_remember_55 rfl ?_
    refine j_iast (q := 59) (q0 := 1) (i := ((kn * 4) + 1)) (f2 := nF (va_up (va_up pa (kn * 4) be) ((kn * 4) + 1) sd)) (w' := [(p0, .inr (3, [.int (nI be), .int (nI sd), .int (nI tu), .int (nI fo), .int (nI kn), .ref p1])), (p1, .inl (G.2.2.1, 40, .inl (nF (va_up (va_up pa (kn * 4) be) ((kn * 4) + 1) sd))))]) F rfl rfl (by omega) rfl (nF_up _ _ _) rfl dX3_remember_58 rfl ?_
    refine j_aload_n (q := 60) (i0 := 1) F rfl dX3_remember_59 rfl ?_
    refine j_get (q := 63) (ci := 3) (q0 := 0) (kf := 5) (v := .ref p1) F inX3 rfl rfl rfl tw_168 rfl rfl dX3_remember_60 rfl ?_
    refine j_iload_n (q := 64) (i0 := 0) F rfl dX3_remember_63 rfl ?_
    refine j_iconst (q := 65) (v := nI 2) F (by decide) dX3_remember_64 rfl ?_
    refine j_iadd (q := 66) (v := nI ((kn * 4) + 2)) F (nI_add _ _) dX3_remember_65 rfl ?_
    refine j_aload_n (q := 67) (i0 := 1) F rfl dX3_remember_66 rfl ?_
    refine j_get (q := 70) (ci := 3) (q0 := 0) (kf := 2) (v := .int (nI tu)) F inX3 rfl rfl rfl tw_162 rfl rfl dX3_remember_67 rfl ?_
    refine j_iast (q := 71) (q0 := 1) (i := ((kn * 4) + 2)) (f2 := nF (va_up (va_up (va_up pa (kn * 4) be) ((kn * 4) + 1) sd) ((kn * 4) + 2) tu)) (w' := [(p0, .inr (3, [.int (nI be), .int (nI sd), .int (nI tu), .int (nI fo), .int (nI kn), .ref p1])), (p1, .inl (G.2.2.1, 40, .inl (nF (va_up (va_up (va_up pa (kn * 4) be) ((kn * 4) + 1) sd) ((kn * 4) + 2) tu))))]) F rfl rfl (by omega) rfl (nF_up _ _ _) rfl dX3_remember_70 rfl ?_
    refine j_aload_n (q := 72) (i0 := 1) F rfl dX3_remember_71 rfl ?_
    refine j_get (q := 75) (ci := 3) (q0 := 0) (kf := 5) (v := .ref p1) F inX3 rfl rfl rfl tw_168 rfl rfl dX3_remember_72 rfl ?_
    refine j_iload_n (q := 76) (i0 := 0) F rfl dX3_remember_75 rfl ?_
    refine j_iconst (q := 77) (v := nI 3) F (by decide) dX3_remember_76 rfl ?_
    refine j_iadd (q := 78) (v := nI ((kn * 4) + 3)) F (nI_add _ _) dX3_remember_77 rfl ?_
    refine j_aload_n (q := 79) (i0 := 1) F rfl dX3_remember_78 rfl ?_
    refine j_get (q := 82) (ci := 3) (q0 := 0) (kf := 3) (v := .int (nI fo)) F inX3 rfl rfl rfl tw_164 rfl rfl dX3_remember_79 rfl ?_
    refine j_iast (q := 83) (q0 := 1) (i := ((kn * 4) + 3)) (f2 := nF (va_up (va_up (va_up (va_up pa (kn * 4) be) ((kn * 4) + 1) sd) ((kn * 4) + 2) tu) ((kn * 4) + 3) fo)) (w' := [(p0, .inr (3, [.int (nI be), .int (nI sd), .int (nI tu), .int (nI fo), .int (nI kn), .ref p1])), (p1, .inl (G.2.2.1, 40, .inl (nF (va_up (va_up (va_up (va_up pa (kn * 4) be) ((kn * 4) + 1) sd) ((kn * 4) + 2) tu) ((kn * 4) + 3) fo))))]) F rfl rfl (by omega) rfl (nF_up _ _ _) rfl dX3_remember_82 rfl ?_
    refine j_aload_n (q := 84) (i0 := 1) F rfl dX3_remember_83 rfl ?_
    refine j_dup (q := 85) F rfl dX3_remember_84 rfl ?_
    refine j_get (q := 88) (ci := 3) (q0 := 0) (kf := 4) (v := .int (nI kn)) F inX3 rfl rfl rfl tw_166 rfl rfl dX3_remember_85 rfl ?_
    refine j_iconst (q := 89) (v := nI 1) F (by decide) dX3_remember_88 rfl ?_
    refine j_iadd (q := 90) (v := nI (kn + 1)) F (nI_add _ _) dX3_remember_89 rfl ?_
    refine j_put (q := 93) (ci := 3) (q0 := 0) (kf := 4) (v := .int (nI (kn + 1))) (w' := [(p0, .inr (3, [.int (nI be), .int (nI sd), .int (nI tu), .int (nI fo), .int (nI (kn + 1)), .ref p1])), (p1, .inl (G.2.2.1, 40, .inl (nF (va_up (va_up (va_up (va_up pa (kn * 4) be) ((kn * 4) + 1) sd) ((kn * 4) + 2) tu) ((kn * 4) + 3) fo))))]) F inX3 tyX3_ok nmX3 rfl rfl rfl tw_166 rfl rfl rfl rfl rfl rfl dX3_remember_90 rfl ?_
    exact j_vret (w2 := [(p0, .inr (3, [.int (nI be), .int (nI sd), .int (nI tu), .int (nI fo), .int (nI (kn + 1)), .ref p1])), (p1, .inl (G.2.2.1, 40, .inl (nF (va_up (va_up (va_up (va_up pa (kn * 4) be) ((kn * 4) + 1) sd) ((kn * 4) + 2) tu) ((kn * 4) + 3) fo))))]) F R0 rfl [0, 1] rfl rfl (⟨rfl, by rw [rmK, rmP, if_pos c1, if_pos c1]; rfl⟩) dX3_remember_93
  · skip
    refine j_aload_n (q := 10) (i0 := 0) F rfl dX3_remember_9 rfl ?_
    refine j_get (q := 13) (ci := 3) (q0 := 0) (kf := 5) (v := .ref p1) F inX3 rfl rfl rfl tw_168 rfl rfl dX3_remember_10 rfl ?_
    refine j_iconst (q := 14) (v := nI 4) F (by decide) dX3_remember_13 rfl ?_
    refine j_aload_n (q := 15) (i0 := 0) F rfl dX3_remember_14 rfl ?_
    refine j_get (q := 18) (ci := 3) (q0 := 0) (kf := 5) (v := .ref p1) F inX3 rfl rfl rfl tw_168 rfl rfl dX3_remember_15 rfl ?_
    refine j_iconst (q := 19) (v := nI 0) F (by decide) dX3_remember_18 rfl ?_
    refine j_bipush (q := 21) (v := nI 36) F (by decide) dX3_remember_19 rfl ?_
    refine j_copy (q := 24) (q0 := 1) (q1 := 1) (sp := 4) (dp := 0) (c0 := 36) (g2 := nF (va_cpy pa pa 4 0 36)) (w' := [(p0, .inr (3, [.int (nI be), .int (nI sd), .int (nI tu), .int (nI fo), .int (nI kn), .ref p1])), (p1, .inl (G.2.2.1, 40, .inl (nF (va_cpy pa pa 4 0 36))))]) F rfl rfl rfl rfl rfl rfl rfl rfl rfl tw_438 tw_392 tw_391 tw_49 (Nat.le_of_ble_eq_true rfl) (Nat.le_of_ble_eq_true rfl) (nF_cpy _ _ _ _ _) rfl dX3_remember_21 rfl ?_
    refine j_aload_n (q := 25) (i0 := 0) F rfl dX3_remember_24 rfl ?_
    refine j_bipush (q := 27) (v := nI 9) F (by decide) dX3_remember_25 rfl ?_
    refine j_put (q := 30) (ci := 3) (q0 := 0) (kf := 4) (v := .int (nI 9)) (w' := [(p0, .inr (3, [.int (nI be), .int (nI sd), .int (nI tu), .int (nI fo), .int (nI 9), .ref p1])), (p1, .inl (G.2.2.1, 40, .inl (nF (va_cpy pa pa 4 0 36))))]) F inX3 tyX3_ok nmX3 rfl rfl rfl tw_166 rfl rfl rfl rfl rfl rfl dX3_remember_27 rfl ?_
    refine j_aload_n (q := 31) (i0 := 0) F rfl dX3_remember_30 rfl ?_
    refine j_get (q := 34) (ci := 3) (q0 := 0) (kf := 4) (v := .int (nI 9)) F inX3 rfl rfl rfl tw_166 rfl rfl dX3_remember_31 rfl ?_
    refine j_iconst (q := 35) (v := nI 4) F (by decide) dX3_remember_34 rfl ?_
    refine j_imul (q := 36) (v := nI 36) F (by decide) dX3_remember_35 rfl ?_
    refine j_istore_n (q := 37) (lv' := [(1, .int (nI 36)), (0, .ref p0)]) F dX3_remember_36 (by decide) rfl rfl ?_
    refine j_aload_n (q := 38) (i0 := 1) F rfl dX3_remember_37 rfl ?_
    refine j_get (q := 41) (ci := 3) (q0 := 0) (kf := 5) (v := .ref p1) F inX3 rfl rfl rfl tw_168 rfl rfl dX3_remember_38 rfl ?_
    refine j_iload_n (q := 42) (i0 := 0) F rfl dX3_remember_41 rfl ?_
    refine j_aload_n (q := 43) (i0 := 1) F rfl dX3_remember_42 rfl ?_
    refine j_get (q := 46) (ci := 3) (q0 := 0) (kf := 0) (v := .int (nI be)) F inX3 rfl rfl rfl tw_157 rfl rfl dX3_remember_43 rfl ?_
    refine j_iast (q := 47) (q0 := 1) (i := 36) (f2 := nF (va_up (va_cpy pa pa 4 0 36) 36 be)) (w' := [(p0, .inr (3, [.int (nI be), .int (nI sd), .int (nI tu), .int (nI fo), .int (nI 9), .ref p1])), (p1, .inl (G.2.2.1, 40, .inl (nF (va_up (va_cpy pa pa 4 0 36) 36 be))))]) F rfl rfl (by omega) rfl (nF_up _ _ _) rfl dX3_remember_46 rfl ?_
    refine j_aload_n (q := 48) (i0 := 1) F rfl dX3_remember_47 rfl ?_
    refine j_get (q := 51) (ci := 3) (q0 := 0) (kf := 5) (v := .ref p1) F inX3 rfl rfl rfl tw_168 rfl rfl dX3_remember_48 rfl ?_
    refine j_iload_n (q := 52) (i0 := 0) F rfl dX3_remember_51 rfl ?_
    refine j_iconst (q := 53) (v := nI 1) F (by decide) dX3_remember_52 rfl ?_
    refine j_iadd (q := 54) (v := nI 37) F (by decide) dX3_remember_53 rfl ?_
    refine j_aload_n (q := 55) (i0 := 1) F rfl dX3_remember_54 rfl ?_
    refine j_get (q := 58) (ci := 3) (q0 := 0) (kf := 1) (v := .int (nI sd)) F inX3 rfl rfl rfl tw_159 rfl rfl dX3_remember_55 rfl ?_
    refine j_iast (q := 59) (q0 := 1) (i := 37) (f2 := nF (va_up (va_up (va_cpy pa pa 4 0 36) 36 be) 37 sd)) (w' := [(p0, .inr (3, [.int (nI be), .int (nI sd), .int (nI tu), .int (nI fo), .int (nI 9), .ref p1])), (p1, .inl (G.2.2.1, 40, .inl (nF (va_up (va_up (va_cpy pa pa 4 0 36) 36 be) 37 sd))))]) F rfl rfl (by omega) rfl (nF_up _ _ _) rfl dX3_remember_58 rfl ?_
    refine j_aload_n (q := 60) (i0 := 1) F rfl dX3_remember_59 rfl ?_
    refine j_get (q := 63) (ci := 3) (q0 := 0) (kf := 5) (v := .ref p1) F inX3 rfl rfl rfl tw_168 rfl rfl dX3_remember_60 rfl ?_
    refine j_iload_n (q := 64) (i0 := 0) F rfl dX3_remember_63 rfl ?_
    refine j_iconst (q := 65) (v := nI 2) F (by decide) dX3_remember_64 rfl ?_
    refine j_iadd (q := 66) (v := nI 38) F (by decide) dX3_remember_65 rfl ?_
    refine j_aload_n (q := 67) (i0 := 1) F rfl dX3_remember_66 rfl ?_
    refine j_get (q := 70) (ci := 3) (q0 := 0) (kf := 2) (v := .int (nI tu)) F inX3 rfl rfl rfl tw_162 rfl rfl dX3_remember_67 rfl ?_
    refine j_iast (q := 71) (q0 := 1) (i := 38) (f2 := nF (va_up (va_up (va_up (va_cpy pa pa 4 0 36) 36 be) 37 sd) 38 tu)) (w' := [(p0, .inr (3, [.int (nI be), .int (nI sd), .int (nI tu), .int (nI fo), .int (nI 9), .ref p1])), (p1, .inl (G.2.2.1, 40, .inl (nF (va_up (va_up (va_up (va_cpy pa pa 4 0 36) 36 be) 37 sd) 38 tu))))]) F rfl rfl (by omega) rfl (nF_up _ _ _) rfl dX3_remember_70 rfl ?_
    refine j_aload_n (q := 72) (i0 := 1) F rfl dX3_remember_71 rfl ?_
    refine j_get (q := 75) (ci := 3) (q0 := 0) (kf := 5) (v := .ref p1) F inX3 rfl rfl rfl tw_168 rfl rfl dX3_remember_72 rfl ?_
    refine j_iload_n (q := 76) (i0 := 0) F rfl dX3_remember_75 rfl ?_
    refine j_iconst (q := 77) (v := nI 3) F (by decide) dX3_remember_76 rfl ?_
    refine j_iadd (q := 78) (v := nI 39) F (by decide) dX3_remember_77 rfl ?_
    refine j_aload_n (q := 79) (i0 := 1) F rfl dX3_remember_78 rfl ?_
    refine j_get (q := 82) (ci := 3) (q0 := 0) (kf := 3) (v := .int (nI fo)) F inX3 rfl rfl rfl tw_164 rfl rfl dX3_remember_79 rfl ?_
    refine j_iast (q := 83) (q0 := 1) (i := 39) (f2 := nF (va_up (va_up (va_up (va_up (va_cpy pa pa 4 0 36) 36 be) 37 sd) 38 tu) 39 fo)) (w' := [(p0, .inr (3, [.int (nI be), .int (nI sd), .int (nI tu), .int (nI fo), .int (nI 9), .ref p1])), (p1, .inl (G.2.2.1, 40, .inl (nF (va_up (va_up (va_up (va_up (va_cpy pa pa 4 0 36) 36 be) 37 sd) 38 tu) 39 fo))))]) F rfl rfl (by omega) rfl (nF_up _ _ _) rfl dX3_remember_82 rfl ?_
    refine j_aload_n (q := 84) (i0 := 1) F rfl dX3_remember_83 rfl ?_
    refine j_dup (q := 85) F rfl dX3_remember_84 rfl ?_
    refine j_get (q := 88) (ci := 3) (q0 := 0) (kf := 4) (v := .int (nI 9)) F inX3 rfl rfl rfl tw_166 rfl rfl dX3_remember_85 rfl ?_
    refine j_iconst (q := 89) (v := nI 1) F (by decide) dX3_remember_88 rfl ?_
    refine j_iadd (q := 90) (v := nI 10) F (by decide) dX3_remember_89 rfl ?_
    refine j_put (q := 93) (ci := 3) (q0 := 0) (kf := 4) (v := .int (nI 10)) (w' := [(p0, .inr (3, [.int (nI be), .int (nI sd), .int (nI tu), .int (nI fo), .int (nI 10), .ref p1])), (p1, .inl (G.2.2.1, 40, .inl (nF (va_up (va_up (va_up (va_up (va_cpy pa pa 4 0 36) 36 be) 37 sd) 38 tu) 39 fo))))]) F inX3 tyX3_ok nmX3 rfl rfl rfl tw_166 rfl rfl rfl rfl rfl rfl dX3_remember_90 rfl ?_
    exact j_vret (w2 := [(p0, .inr (3, [.int (nI be), .int (nI sd), .int (nI tu), .int (nI fo), .int (nI 10), .ref p1])), (p1, .inl (G.2.2.1, 40, .inl (nF (va_up (va_up (va_up (va_up (va_cpy pa pa 4 0 36) 36 be) 37 sd) 38 tu) 39 fo))))]) F R0 rfl [0, 1] rfl rfl (⟨rfl, by rw [rmK, rmP, if_neg c1, if_neg c1]; rfl⟩) dX3_remember_93

set_option maxHeartbeats 4000000 in
set_option maxRecDepth 100000 in
theorem c_X3_recall (G : Gm) {p0 p1 be sd tu fo kn : Nat} {pa : Nat → Nat} (hk : kn ≤ 10) (h0 : 0 < kn) : Mg G yX3_recall cX3_recall 2 none ({ frames := 0, cells := 0, slots := 0, locals := 0 } : Room) 0 0 [.ref p0] [(p0, .inr (3, [.int (nI be), .int (nI sd), .int (nI tu), .int (nI fo), .int (nI kn), .ref p1])), (p1, .inl (G.2.2.1, 40, .inl (nF pa)))] (fun r w2 => r = none ∧ w2 = [(p0, .inr (3, [.int (nI (pa ((kn - 1) * 4))), .int (nI (pa ((kn - 1) * 4 + 1))), .int (nI (pa ((kn - 1) * 4 + 2))), .int (nI (pa ((kn - 1) * 4 + 3))), .int (nI (kn - 1)), .ref p1])), (p1, .inl (G.2.2.1, 40, .inl (nF pa)))]) := by
  refine Mg.mk (lv := [(0, .ref p0)]) (by decide) rfl rfl (fun X F R0 => ?_)
  refine j_aload_n (q := 1) (i0 := 0) F rfl dX3_recall_0 rfl ?_
  refine j_get (q := 4) (ci := 3) (q0 := 0) (kf := 4) (v := .int (nI kn)) F inX3 rfl rfl rfl tw_166 rfl rfl dX3_recall_1 rfl ?_
  refine j_if_gt (q := 7) (t := 8) F (Pp := 0 < kn) (by rw [show (0 : Int32) = nI 0 from rfl]; exact nI_ltI (by omega) (by omega)) dX3_recall_4 rfl rfl (fun c1 => ?_) (fun c1 => ?_)
  · skip
    refine j_aload_n (q := 9) (i0 := 0) F rfl dX3_recall_8 rfl ?_
    refine j_dup (q := 10) F rfl dX3_recall_9 rfl ?_
    refine j_get (q := 13) (ci := 3) (q0 := 0) (kf := 4) (v := .int (nI kn)) F inX3 rfl rfl rfl tw_166 rfl rfl dX3_recall_10 rfl ?_
    refine j_iconst (q := 14) (v := nI 1) F (by decide) dX3_recall_13 rfl ?_
    refine j_isub (q := 15) (v := nI (kn - 1)) F (pk_sub (by omega)) dX3_recall_14 rfl ?_
    refine j_put (q := 18) (ci := 3) (q0 := 0) (kf := 4) (v := .int (nI (kn - 1))) (w' := [(p0, .inr (3, [.int (nI be), .int (nI sd), .int (nI tu), .int (nI fo), .int (nI (kn - 1)), .ref p1])), (p1, .inl (G.2.2.1, 40, .inl (nF pa)))]) F inX3 tyX3_ok nmX3 rfl rfl rfl tw_166 rfl rfl rfl rfl rfl rfl dX3_recall_15 rfl ?_
    refine j_aload_n (q := 19) (i0 := 0) F rfl dX3_recall_18 rfl ?_
    refine j_get (q := 22) (ci := 3) (q0 := 0) (kf := 4) (v := .int (nI (kn - 1))) F inX3 rfl rfl rfl tw_166 rfl rfl dX3_recall_19 rfl ?_
    refine j_iconst (q := 23) (v := nI 4) F (by decide) dX3_recall_22 rfl ?_
    refine j_imul (q := 24) (v := nI ((kn - 1) * 4)) F (pk_mul _ _) dX3_recall_23 rfl ?_
    refine j_istore_n (q := 25) (lv' := [(1, .int (nI ((kn - 1) * 4))), (0, .ref p0)]) F dX3_recall_24 (by decide) rfl rfl ?_
    refine j_aload_n (q := 26) (i0 := 1) F rfl dX3_recall_25 rfl ?_
    refine j_aload_n (q := 27) (i0 := 1) F rfl dX3_recall_26 rfl ?_
    refine j_get (q := 30) (ci := 3) (q0 := 0) (kf := 5) (v := .ref p1) F inX3 rfl rfl rfl tw_168 rfl rfl dX3_recall_27 rfl ?_
    refine j_iload_n (q := 31) (i0 := 0) F rfl dX3_recall_30 rfl ?_
    refine j_iald (q := 32) (q0 := 1) (i := ((kn - 1) * 4)) (v := nI (pa ((kn - 1) * 4))) F rfl rfl (by omega) rfl (rfl) dX3_recall_31 rfl ?_
    refine j_put (q := 35) (ci := 3) (q0 := 0) (kf := 0) (v := .int (nI (pa ((kn - 1) * 4)))) (w' := [(p0, .inr (3, [.int (nI (pa ((kn - 1) * 4))), .int (nI sd), .int (nI tu), .int (nI fo), .int (nI (kn - 1)), .ref p1])), (p1, .inl (G.2.2.1, 40, .inl (nF pa)))]) F inX3 tyX3_ok nmX3 rfl rfl rfl tw_157 rfl rfl rfl rfl rfl rfl dX3_recall_32 rfl ?_
    refine j_aload_n (q := 36) (i0 := 1) F rfl dX3_recall_35 rfl ?_
    refine j_aload_n (q := 37) (i0 := 1) F rfl dX3_recall_36 rfl ?_
    refine j_get (q := 40) (ci := 3) (q0 := 0) (kf := 5) (v := .ref p1) F inX3 rfl rfl rfl tw_168 rfl rfl dX3_recall_37 rfl ?_
    refine j_iload_n (q := 41) (i0 := 0) F rfl dX3_recall_40 rfl ?_
    refine j_iconst (q := 42) (v := nI 1) F (by decide) dX3_recall_41 rfl ?_
    refine j_iadd (q := 43) (v := nI (((kn - 1) * 4) + 1)) F (nI_add _ _) dX3_recall_42 rfl ?_
    refine j_iald (q := 44) (q0 := 1) (i := (((kn - 1) * 4) + 1)) (v := nI (pa (((kn - 1) * 4) + 1))) F rfl rfl (by omega) rfl (rfl) dX3_recall_43 rfl ?_
    refine j_put (q := 47) (ci := 3) (q0 := 0) (kf := 1) (v := .int (nI (pa (((kn - 1) * 4) + 1)))) (w' := [(p0, .inr (3, [.int (nI (pa ((kn - 1) * 4))), .int (nI (pa (((kn - 1) * 4) + 1))), .int (nI tu), .int (nI fo), .int (nI (kn - 1)), .ref p1])), (p1, .inl (G.2.2.1, 40, .inl (nF pa)))]) F inX3 tyX3_ok nmX3 rfl rfl rfl tw_159 rfl rfl rfl rfl rfl rfl dX3_recall_44 rfl ?_
    refine j_aload_n (q := 48) (i0 := 1) F rfl dX3_recall_47 rfl ?_
    refine j_aload_n (q := 49) (i0 := 1) F rfl dX3_recall_48 rfl ?_
    refine j_get (q := 52) (ci := 3) (q0 := 0) (kf := 5) (v := .ref p1) F inX3 rfl rfl rfl tw_168 rfl rfl dX3_recall_49 rfl ?_
    refine j_iload_n (q := 53) (i0 := 0) F rfl dX3_recall_52 rfl ?_
    refine j_iconst (q := 54) (v := nI 2) F (by decide) dX3_recall_53 rfl ?_
    refine j_iadd (q := 55) (v := nI (((kn - 1) * 4) + 2)) F (nI_add _ _) dX3_recall_54 rfl ?_
    refine j_iald (q := 56) (q0 := 1) (i := (((kn - 1) * 4) + 2)) (v := nI (pa (((kn - 1) * 4) + 2))) F rfl rfl (by omega) rfl (rfl) dX3_recall_55 rfl ?_
    refine j_put (q := 59) (ci := 3) (q0 := 0) (kf := 2) (v := .int (nI (pa (((kn - 1) * 4) + 2)))) (w' := [(p0, .inr (3, [.int (nI (pa ((kn - 1) * 4))), .int (nI (pa (((kn - 1) * 4) + 1))), .int (nI (pa (((kn - 1) * 4) + 2))), .int (nI fo), .int (nI (kn - 1)), .ref p1])), (p1, .inl (G.2.2.1, 40, .inl (nF pa)))]) F inX3 tyX3_ok nmX3 rfl rfl rfl tw_162 rfl rfl rfl rfl rfl rfl dX3_recall_56 rfl ?_
    refine j_aload_n (q := 60) (i0 := 1) F rfl dX3_recall_59 rfl ?_
    refine j_aload_n (q := 61) (i0 := 1) F rfl dX3_recall_60 rfl ?_
    refine j_get (q := 64) (ci := 3) (q0 := 0) (kf := 5) (v := .ref p1) F inX3 rfl rfl rfl tw_168 rfl rfl dX3_recall_61 rfl ?_
    refine j_iload_n (q := 65) (i0 := 0) F rfl dX3_recall_64 rfl ?_
    refine j_iconst (q := 66) (v := nI 3) F (by decide) dX3_recall_65 rfl ?_
    refine j_iadd (q := 67) (v := nI (((kn - 1) * 4) + 3)) F (nI_add _ _) dX3_recall_66 rfl ?_
    refine j_iald (q := 68) (q0 := 1) (i := (((kn - 1) * 4) + 3)) (v := nI (pa (((kn - 1) * 4) + 3))) F rfl rfl (by omega) rfl (rfl) dX3_recall_67 rfl ?_
    refine j_put (q := 71) (ci := 3) (q0 := 0) (kf := 3) (v := .int (nI (pa (((kn - 1) * 4) + 3)))) (w' := [(p0, .inr (3, [.int (nI (pa ((kn - 1) * 4))), .int (nI (pa (((kn - 1) * 4) + 1))), .int (nI (pa (((kn - 1) * 4) + 2))), .int (nI (pa (((kn - 1) * 4) + 3))), .int (nI (kn - 1)), .ref p1])), (p1, .inl (G.2.2.1, 40, .inl (nF pa)))]) F inX3 tyX3_ok nmX3 rfl rfl rfl tw_164 rfl rfl rfl rfl rfl rfl dX3_recall_68 rfl ?_
    exact j_vret (w2 := [(p0, .inr (3, [.int (nI (pa ((kn - 1) * 4))), .int (nI (pa (((kn - 1) * 4) + 1))), .int (nI (pa (((kn - 1) * 4) + 2))), .int (nI (pa (((kn - 1) * 4) + 3))), .int (nI (kn - 1)), .ref p1])), (p1, .inl (G.2.2.1, 40, .inl (nF pa)))]) F R0 rfl [0, 1] rfl rfl (⟨rfl, rfl⟩) dX3_recall_71
  · exact absurd h0 c1

set_option maxHeartbeats 4000000 in
set_option maxRecDepth 100000 in
theorem c_X3_take (G : Gm) {p0 p1 q0 q1 be sd tu fo kn be2 sd2 tu2 fo2 kn2 : Nat} {pa pa2 : Nat → Nat}  : Mg G yX3_take cX3_take 2 none ({ frames := 1, cells := 0, slots := 0, locals := 40 } : Room) 0 0 [.ref p0, .ref q0] [(p0, .inr (3, [.int (nI be), .int (nI sd), .int (nI tu), .int (nI fo), .int (nI kn), .ref p1])), (p1, .inl (G.2.2.1, 40, .inl (nF pa))), (q0, .inr (3, [.int (nI be2), .int (nI sd2), .int (nI tu2), .int (nI fo2), .int (nI kn2), .ref q1])), (q1, .inl (G.2.2.1, 40, .inl (nF pa2)))] (fun r w2 => r = none ∧ w2 = [(p0, .inr (3, [.int (nI be2), .int (nI sd2), .int (nI tu2), .int (nI fo2), .int (nI kn2), .ref p1])), (p1, .inl (G.2.2.1, 40, .inl (nF (va_cpy pa2 pa 0 0 40)))), (q0, .inr (3, [.int (nI be2), .int (nI sd2), .int (nI tu2), .int (nI fo2), .int (nI kn2), .ref q1])), (q1, .inl (G.2.2.1, 40, .inl (nF pa2)))]) := by
  refine Mg.mk (lv := [(0, .ref p0), (1, .ref q0)]) (by decide) rfl rfl (fun X F R0 => ?_)
  refine j_aload_n (q := 1) (i0 := 0) F rfl dX3_take_0 rfl ?_
  refine j_aload_n (q := 2) (i0 := 1) F rfl dX3_take_1 rfl ?_
  refine j_get (q := 5) (ci := 3) (q0 := 2) (kf := 0) (v := .int (nI be2)) F inX3 rfl rfl rfl tw_157 rfl rfl dX3_take_2 rfl ?_
  refine j_put (q := 8) (ci := 3) (q0 := 0) (kf := 0) (v := .int (nI be2)) (w' := [(p0, .inr (3, [.int (nI be2), .int (nI sd), .int (nI tu), .int (nI fo), .int (nI kn), .ref p1])), (p1, .inl (G.2.2.1, 40, .inl (nF pa))), (q0, .inr (3, [.int (nI be2), .int (nI sd2), .int (nI tu2), .int (nI fo2), .int (nI kn2), .ref q1])), (q1, .inl (G.2.2.1, 40, .inl (nF pa2)))]) F inX3 tyX3_ok nmX3 rfl rfl rfl tw_157 rfl rfl rfl rfl rfl rfl dX3_take_5 rfl ?_
  refine j_aload_n (q := 9) (i0 := 0) F rfl dX3_take_8 rfl ?_
  refine j_aload_n (q := 10) (i0 := 1) F rfl dX3_take_9 rfl ?_
  refine j_get (q := 13) (ci := 3) (q0 := 2) (kf := 1) (v := .int (nI sd2)) F inX3 rfl rfl rfl tw_159 rfl rfl dX3_take_10 rfl ?_
  refine j_put (q := 16) (ci := 3) (q0 := 0) (kf := 1) (v := .int (nI sd2)) (w' := [(p0, .inr (3, [.int (nI be2), .int (nI sd2), .int (nI tu), .int (nI fo), .int (nI kn), .ref p1])), (p1, .inl (G.2.2.1, 40, .inl (nF pa))), (q0, .inr (3, [.int (nI be2), .int (nI sd2), .int (nI tu2), .int (nI fo2), .int (nI kn2), .ref q1])), (q1, .inl (G.2.2.1, 40, .inl (nF pa2)))]) F inX3 tyX3_ok nmX3 rfl rfl rfl tw_159 rfl rfl rfl rfl rfl rfl dX3_take_13 rfl ?_
  refine j_aload_n (q := 17) (i0 := 0) F rfl dX3_take_16 rfl ?_
  refine j_aload_n (q := 18) (i0 := 1) F rfl dX3_take_17 rfl ?_
  refine j_get (q := 21) (ci := 3) (q0 := 2) (kf := 2) (v := .int (nI tu2)) F inX3 rfl rfl rfl tw_162 rfl rfl dX3_take_18 rfl ?_
  refine j_put (q := 24) (ci := 3) (q0 := 0) (kf := 2) (v := .int (nI tu2)) (w' := [(p0, .inr (3, [.int (nI be2), .int (nI sd2), .int (nI tu2), .int (nI fo), .int (nI kn), .ref p1])), (p1, .inl (G.2.2.1, 40, .inl (nF pa))), (q0, .inr (3, [.int (nI be2), .int (nI sd2), .int (nI tu2), .int (nI fo2), .int (nI kn2), .ref q1])), (q1, .inl (G.2.2.1, 40, .inl (nF pa2)))]) F inX3 tyX3_ok nmX3 rfl rfl rfl tw_162 rfl rfl rfl rfl rfl rfl dX3_take_21 rfl ?_
  refine j_aload_n (q := 25) (i0 := 0) F rfl dX3_take_24 rfl ?_
  refine j_aload_n (q := 26) (i0 := 1) F rfl dX3_take_25 rfl ?_
  refine j_get (q := 29) (ci := 3) (q0 := 2) (kf := 3) (v := .int (nI fo2)) F inX3 rfl rfl rfl tw_164 rfl rfl dX3_take_26 rfl ?_
  refine j_put (q := 32) (ci := 3) (q0 := 0) (kf := 3) (v := .int (nI fo2)) (w' := [(p0, .inr (3, [.int (nI be2), .int (nI sd2), .int (nI tu2), .int (nI fo2), .int (nI kn), .ref p1])), (p1, .inl (G.2.2.1, 40, .inl (nF pa))), (q0, .inr (3, [.int (nI be2), .int (nI sd2), .int (nI tu2), .int (nI fo2), .int (nI kn2), .ref q1])), (q1, .inl (G.2.2.1, 40, .inl (nF pa2)))]) F inX3 tyX3_ok nmX3 rfl rfl rfl tw_164 rfl rfl rfl rfl rfl rfl dX3_take_29 rfl ?_
  refine j_aload_n (q := 33) (i0 := 0) F rfl dX3_take_32 rfl ?_
  refine j_aload_n (q := 34) (i0 := 1) F rfl dX3_take_33 rfl ?_
  refine j_get (q := 37) (ci := 3) (q0 := 2) (kf := 4) (v := .int (nI kn2)) F inX3 rfl rfl rfl tw_166 rfl rfl dX3_take_34 rfl ?_
  refine j_put (q := 40) (ci := 3) (q0 := 0) (kf := 4) (v := .int (nI kn2)) (w' := [(p0, .inr (3, [.int (nI be2), .int (nI sd2), .int (nI tu2), .int (nI fo2), .int (nI kn2), .ref p1])), (p1, .inl (G.2.2.1, 40, .inl (nF pa))), (q0, .inr (3, [.int (nI be2), .int (nI sd2), .int (nI tu2), .int (nI fo2), .int (nI kn2), .ref q1])), (q1, .inl (G.2.2.1, 40, .inl (nF pa2)))]) F inX3 tyX3_ok nmX3 rfl rfl rfl tw_166 rfl rfl rfl rfl rfl rfl dX3_take_37 rfl ?_
  refine j_aload_n (q := 41) (i0 := 1) F rfl dX3_take_40 rfl ?_
  refine j_get (q := 44) (ci := 3) (q0 := 2) (kf := 5) (v := .ref q1) F inX3 rfl rfl rfl tw_168 rfl rfl dX3_take_41 rfl ?_
  refine j_iconst (q := 45) (v := nI 0) F (by decide) dX3_take_44 rfl ?_
  refine j_aload_n (q := 46) (i0 := 0) F rfl dX3_take_45 rfl ?_
  refine j_get (q := 49) (ci := 3) (q0 := 0) (kf := 5) (v := .ref p1) F inX3 rfl rfl rfl tw_168 rfl rfl dX3_take_46 rfl ?_
  refine j_iconst (q := 50) (v := nI 0) F (by decide) dX3_take_49 rfl ?_
  refine j_aload_n (q := 51) (i0 := 0) F rfl dX3_take_50 rfl ?_
  refine j_get (q := 54) (ci := 3) (q0 := 0) (kf := 5) (v := .ref p1) F inX3 rfl rfl rfl tw_168 rfl rfl dX3_take_51 rfl ?_
  refine j_alen (q := 55) (q0 := 1) F rfl dX3_take_54 rfl ?_
  refine j_copy (q := 58) (q0 := 3) (q1 := 1) (sp := 0) (dp := 0) (c0 := 40) (g2 := nF (va_cpy pa2 pa 0 0 40)) (w' := [(p0, .inr (3, [.int (nI be2), .int (nI sd2), .int (nI tu2), .int (nI fo2), .int (nI kn2), .ref p1])), (p1, .inl (G.2.2.1, 40, .inl (nF (va_cpy pa2 pa 0 0 40)))), (q0, .inr (3, [.int (nI be2), .int (nI sd2), .int (nI tu2), .int (nI fo2), .int (nI kn2), .ref q1])), (q1, .inl (G.2.2.1, 40, .inl (nF pa2)))]) F rfl rfl rfl rfl rfl rfl rfl rfl rfl tw_438 tw_392 tw_391 tw_49 (Nat.le_of_ble_eq_true rfl) (Nat.le_of_ble_eq_true rfl) (nF_cpy _ _ _ _ _) rfl dX3_take_55 rfl ?_
  exact j_vret (w2 := [(p0, .inr (3, [.int (nI be2), .int (nI sd2), .int (nI tu2), .int (nI fo2), .int (nI kn2), .ref p1])), (p1, .inl (G.2.2.1, 40, .inl (nF (va_cpy pa2 pa 0 0 40)))), (q0, .inr (3, [.int (nI be2), .int (nI sd2), .int (nI tu2), .int (nI fo2), .int (nI kn2), .ref q1])), (q1, .inl (G.2.2.1, 40, .inl (nF pa2)))]) F R0 rfl [0, 1, 2, 3] rfl rfl (⟨rfl, rfl⟩) dX3_take_58

