set_option maxHeartbeats 4000000 in
set_option maxRecDepth 100000 in
theorem c_X4_isLetter (G : Gm) {c : Nat} (hc : c < 256) : Mg G yX4_isLetter cX4_isLetter 1 (some .boolean) ({ frames := 0, cells := 0, slots := 0, locals := 0 } : Room) 0 0 [.int (nI c)] [] (fun r w2 => w2 = [] ∧ ((r = some (.int (nI 1)) ∧ isL c) ∨ (r = some (.int (nI 0)) ∧ ¬ isL c))) := by
  refine Mg.mk (lv := [(0, .int (nI c))]) (by decide) rfl rfl (fun X F R0 => ?_)
  refine j_iload_n (q := 1) (i0 := 0) F rfl dX4_isLetter_0 rfl ?_
  refine j_bipush (q := 3) (v := nI 97) F (by decide) dX4_isLetter_1 rfl ?_
  refine j_icmp_lt (q := 6) (t := 16) F (Pp := c < 97) (nI_ltI (by omega) (by omega)) dX4_isLetter_3 rfl rfl (fun c1 => ?_) (fun c1 => ?_)
  · skip
    refine j_iconst (q := 17) (v := nI 0) F (by decide) dX4_isLetter_16 rfl ?_
    exact j_zret (w2 := []) F R0 rfl rfl [] rfl rfl (⟨rfl, Or.inr ⟨rfl, by omega⟩⟩) dX4_isLetter_17
  · skip
    refine j_iload_n (q := 7) (i0 := 0) F rfl dX4_isLetter_6 rfl ?_
    refine j_bipush (q := 9) (v := nI 122) F (by decide) dX4_isLetter_7 rfl ?_
    refine j_icmp_gt (q := 12) (t := 16) F (Pp := 122 < c) (nI_ltI (by omega) (by omega)) dX4_isLetter_9 rfl rfl (fun c2 => ?_) (fun c2 => ?_)
    · skip
      refine j_iconst (q := 17) (v := nI 0) F (by decide) dX4_isLetter_16 rfl ?_
      exact j_zret (w2 := []) F R0 rfl rfl [] rfl rfl (⟨rfl, Or.inr ⟨rfl, by omega⟩⟩) dX4_isLetter_17
    · skip
      refine j_iconst (q := 13) (v := nI 1) F (by decide) dX4_isLetter_12 rfl ?_
      refine j_goto (t := 17) F dX4_isLetter_13 rfl ?_
      exact j_zret (w2 := []) F R0 rfl rfl [] rfl rfl (⟨rfl, Or.inl ⟨rfl, by omega⟩⟩) dX4_isLetter_17

set_option maxHeartbeats 4000000 in
set_option maxRecDepth 100000 in
theorem c_X4_isDigit (G : Gm) {c : Nat} (hc : c < 256) : Mg G yX4_isDigit cX4_isDigit 1 (some .boolean) ({ frames := 0, cells := 0, slots := 0, locals := 0 } : Room) 0 0 [.int (nI c)] [] (fun r w2 => w2 = [] ∧ ((r = some (.int (nI 1)) ∧ isD c) ∨ (r = some (.int (nI 0)) ∧ ¬ isD c))) := by
  refine Mg.mk (lv := [(0, .int (nI c))]) (by decide) rfl rfl (fun X F R0 => ?_)
  refine j_iload_n (q := 1) (i0 := 0) F rfl dX4_isDigit_0 rfl ?_
  refine j_bipush (q := 3) (v := nI 48) F (by decide) dX4_isDigit_1 rfl ?_
  refine j_icmp_lt (q := 6) (t := 16) F (Pp := c < 48) (nI_ltI (by omega) (by omega)) dX4_isDigit_3 rfl rfl (fun c1 => ?_) (fun c1 => ?_)
  · skip
    refine j_iconst (q := 17) (v := nI 0) F (by decide) dX4_isDigit_16 rfl ?_
    exact j_zret (w2 := []) F R0 rfl rfl [] rfl rfl (⟨rfl, Or.inr ⟨rfl, by omega⟩⟩) dX4_isDigit_17
  · skip
    refine j_iload_n (q := 7) (i0 := 0) F rfl dX4_isDigit_6 rfl ?_
    refine j_bipush (q := 9) (v := nI 57) F (by decide) dX4_isDigit_7 rfl ?_
    refine j_icmp_gt (q := 12) (t := 16) F (Pp := 57 < c) (nI_ltI (by omega) (by omega)) dX4_isDigit_9 rfl rfl (fun c2 => ?_) (fun c2 => ?_)
    · skip
      refine j_iconst (q := 17) (v := nI 0) F (by decide) dX4_isDigit_16 rfl ?_
      exact j_zret (w2 := []) F R0 rfl rfl [] rfl rfl (⟨rfl, Or.inr ⟨rfl, by omega⟩⟩) dX4_isDigit_17
    · skip
      refine j_iconst (q := 13) (v := nI 1) F (by decide) dX4_isDigit_12 rfl ?_
      refine j_goto (t := 17) F dX4_isDigit_13 rfl ?_
      exact j_zret (w2 := []) F R0 rfl rfl [] rfl rfl (⟨rfl, Or.inl ⟨rfl, by omega⟩⟩) dX4_isDigit_17

set_option maxHeartbeats 4000000 in
set_option maxRecDepth 100000 in
theorem c_X4_isDigit_m (G : Gm)   : Mg G yX4_isDigit cX4_isDigit 1 (some .boolean) ({ frames := 0, cells := 0, slots := 0, locals := 0 } : Room) 0 0 [.int (-1)] [] (fun r w2 => w2 = [] ∧ r = some (.int (nI 0))) := by
  refine Mg.mk (lv := [(0, .int (-1))]) (by decide) rfl rfl (fun X F R0 => ?_)
  refine j_iload_n (q := 1) (i0 := 0) F rfl dX4_isDigit_0 rfl ?_
  refine j_bipush (q := 3) (v := nI 48) F (by decide) dX4_isDigit_1 rfl ?_
  refine j_icmp_lt (q := 6) (t := 16) F (ct (by decide)) dX4_isDigit_3 rfl rfl (fun _ => ?_) (fun z => absurd trivial z)
  refine j_iconst (q := 17) (v := nI 0) F (by decide) dX4_isDigit_16 rfl ?_
  exact j_zret (w2 := []) F R0 rfl rfl [] rfl rfl (⟨rfl, rfl⟩) dX4_isDigit_17

set_option maxHeartbeats 4000000 in
set_option maxRecDepth 100000 in
theorem c_X4_takeLetters (G : Gm) {r0 u0 x0 x1 ln pl so b : Nat} {va : Int32} {bt : Nat → Nat} (hl : ln ≤ 200) (hbt : ∀ i, i < ln → bt i < 256) (hb : b < ln) (hL : isL (bt b)) : Mg G yX4_takeLetters cX4_takeLetters 1 none ({ frames := 1, cells := 0, slots := 0, locals := 21 } : Room) 0 0 [.ref r0] [(r0, .inr (4, [.ref u0, .int (nI pl), .ref x0, .int (nI b), .int (nI so), .int va])), (x0, .inr (5, [.ref x1, .int (nI ln)])), (x1, .inl (G.2.2.1, 200, .inl (nF bt)))] (fun r w2 => ∃ va2, ((lEn bt ln b = b + 1 ∧ va2 = nI (bt b)) ∨ (lEn bt ln b ≠ b + 1 ∧ va2 = -1)) ∧ r = none ∧ w2 = [(r0, .inr (4, [.ref u0, .int (nI pl), .ref x0, .int (nI (lEn bt ln b)), .int (nI 1), .int va2])), (x0, .inr (5, [.ref x1, .int (nI ln)])), (x1, .inl (G.2.2.1, 200, .inl (nF bt)))]) := by
  have hb2 := hbt b hb
  refine Mg.mk (lv := [(0, .ref r0)]) (by decide) rfl rfl (fun X F R0 => ?_)
  refine j_aload_n (q := 1) (i0 := 0) F rfl dX4_takeLetters_0 rfl ?_
  refine j_iconst (q := 2) (v := nI 1) F (by decide) dX4_takeLetters_1 rfl ?_
  refine j_put (q := 5) (ci := 4) (q0 := 0) (kf := 4) (v := .int (nI 1)) (w' := [(r0, .inr (4, [.ref u0, .int (nI pl), .ref x0, .int (nI b), .int (nI 1), .int va])), (x0, .inr (5, [.ref x1, .int (nI ln)])), (x1, .inl (G.2.2.1, 200, .inl (nF bt)))]) F inX4 tyX4_ok nmX4 rfl rfl rfl tw_134 rfl rfl rfl rfl rfl rfl dX4_takeLetters_2 rfl ?_
  refine j_aload_n (q := 6) (i0 := 0) F rfl dX4_takeLetters_5 rfl ?_
  refine j_aload_n (q := 7) (i0 := 0) F rfl dX4_takeLetters_6 rfl ?_
  refine j_get (q := 10) (ci := 4) (q0 := 0) (kf := 2) (v := .ref x0) F inX4 rfl rfl rfl tw_132 rfl rfl dX4_takeLetters_7 rfl ?_
  refine j_aload_n (q := 11) (i0 := 0) F rfl dX4_takeLetters_10 rfl ?_
  refine j_get (q := 14) (ci := 4) (q0 := 0) (kf := 3) (v := .int (nI b)) F inX4 rfl rfl rfl tw_133 rfl rfl dX4_takeLetters_11 rfl ?_
  refine j_callV (q := 17) (ci := 5) (q0 := 0) (As := [.int (nI b)]) (wr := [(r0, .inr (4, [.ref u0, .int (nI pl), .ref x0, .int (nI b), .int (nI 1), .int va]))]) (st := [.ref r0]) F (c_X5_at G (p := b) hl (by omega)) kwX5_at tw_326 tw_327 tw_325 ⟨Nat.le_of_ble_eq_true rfl, Nat.le_of_ble_eq_true rfl, rfl, rfl, Nat.le_of_ble_eq_true rfl, Nat.le_of_ble_eq_true rfl⟩ [1, 2] [0] rfl rfl rfl rfl rfl rfl rfl rfl rfl (Nat.le_of_ble_eq_true rfl) dX4_takeLetters_14 rfl ?_
  rintro r_ w_ ⟨rfl, (⟨hat_, rfl⟩ | ⟨hat_, rfl⟩)⟩
  · skip
    refine j_w (w' := [(r0, .inr (4, [.ref u0, .int (nI pl), .ref x0, .int (nI b), .int (nI 1), .int va])), (x0, .inr (5, [.ref x1, .int (nI ln)])), (x1, .inl (G.2.2.1, 200, .inl (nF bt)))]) [0, 1, 2] rfl rfl ?_
    show Jw G X _ 0 0 17 _ [.int (nI (bt b)), .ref r0] _
    refine j_put (q := 20) (ci := 4) (q0 := 0) (kf := 5) (v := .int (nI (bt b))) (w' := [(r0, .inr (4, [.ref u0, .int (nI pl), .ref x0, .int (nI b), .int (nI 1), .int (nI (bt b))])), (x0, .inr (5, [.ref x1, .int (nI ln)])), (x1, .inl (G.2.2.1, 200, .inl (nF bt)))]) F inX4 tyX4_ok nmX4 rfl rfl rfl tw_135 rfl rfl rfl rfl rfl rfl dX4_takeLetters_17 rfl ?_
    refine j_aload_n (q := 21) (i0 := 0) F rfl dX4_takeLetters_20 rfl ?_
    refine j_dup (q := 22) F rfl dX4_takeLetters_21 rfl ?_
    refine j_get (q := 25) (ci := 4) (q0 := 0) (kf := 3) (v := .int (nI b)) F inX4 rfl rfl rfl tw_133 rfl rfl dX4_takeLetters_22 rfl ?_
    refine j_iconst (q := 26) (v := nI 1) F (by decide) dX4_takeLetters_25 rfl ?_
    refine j_iadd (q := 27) (v := nI (b + 1)) F (nI_add _ _) dX4_takeLetters_26 rfl ?_
    refine j_put (q := 30) (ci := 4) (q0 := 0) (kf := 3) (v := .int (nI (b + 1))) (w' := [(r0, .inr (4, [.ref u0, .int (nI pl), .ref x0, .int (nI (b + 1)), .int (nI 1), .int (nI (bt b))])), (x0, .inr (5, [.ref x1, .int (nI ln)])), (x1, .inl (G.2.2.1, 200, .inl (nF bt)))]) F inX4 tyX4_ok nmX4 rfl rfl rfl tw_133 rfl rfl rfl rfl rfl rfl dX4_takeLetters_27 rfl ?_
    have lp1 : ∀ (fu : Nat) (q : Nat) (va1 : Int32) (hq1 : b + 1 ≤ q) (hq2 : q ≤ ln) (hqe : lEn bt ln q = lEn bt ln b) (hqv : (q = b + 1 ∧ va1 = nI (bt b)) ∨ (b + 1 < q ∧ va1 = -1)), (ln - q) < fu → Jw G X 1 0 0 30 [(0, .ref r0)] [] [(r0, .inr (4, [.ref u0, .int (nI pl), .ref x0, .int (nI q), .int (nI 1), .int va1])), (x0, .inr (5, [.ref x1, .int (nI ln)])), (x1, .inl (G.2.2.1, 200, .inl (nF bt)))] := by
      intro fu
      induction fu with
      | zero => intro q va1 hq1 hq2 hqe hqv hfu; exact absurd hfu (Nat.not_lt_zero _)
      | succ fu ih1 =>
        intro q va1 hq1 hq2 hqe hqv hfu
        refine j_aload_n (q := 31) (i0 := 0) F rfl dX4_takeLetters_30 rfl ?_
        refine j_get (q := 34) (ci := 4) (q0 := 0) (kf := 3) (v := .int (nI q)) F inX4 rfl rfl rfl tw_133 rfl rfl dX4_takeLetters_31 rfl ?_
        refine j_aload_n (q := 35) (i0 := 0) F rfl dX4_takeLetters_34 rfl ?_
        refine j_get (q := 38) (ci := 4) (q0 := 0) (kf := 2) (v := .ref x0) F inX4 rfl rfl rfl tw_132 rfl rfl dX4_takeLetters_35 rfl ?_
        refine j_get (q := 41) (ci := 5) (q0 := 1) (kf := 1) (v := .int (nI ln)) F inX5 rfl rfl rfl tw_68 rfl rfl dX4_takeLetters_38 rfl ?_
        refine j_icmp_ge (q := 44) (t := 79) F (Pp := ln ≤ q) (nI_leI (by omega) (by omega)) dX4_takeLetters_41 rfl rfl (fun c2 => ?_) (fun c2 => ?_)
        · skip
          exact j_vret (w2 := [(r0, .inr (4, [.ref u0, .int (nI pl), .ref x0, .int (nI q), .int (nI 1), .int va1])), (x0, .inr (5, [.ref x1, .int (nI ln)])), (x1, .inl (G.2.2.1, 200, .inl (nF bt)))]) F R0 rfl [0, 1, 2] rfl rfl (by rw [← hqe, lEn_no (fun z => by omega)]; exact ⟨va1, by rcases hqv with ⟨e, z⟩ | ⟨e, z⟩; exact Or.inl ⟨e, z⟩; exact Or.inr ⟨by omega, z⟩, rfl, rfl⟩) dX4_takeLetters_79
        · skip
          refine j_aload_n (q := 45) (i0 := 0) F rfl dX4_takeLetters_44 rfl ?_
          refine j_get (q := 48) (ci := 4) (q0 := 0) (kf := 2) (v := .ref x0) F inX4 rfl rfl rfl tw_132 rfl rfl dX4_takeLetters_45 rfl ?_
          refine j_aload_n (q := 49) (i0 := 0) F rfl dX4_takeLetters_48 rfl ?_
          refine j_get (q := 52) (ci := 4) (q0 := 0) (kf := 3) (v := .int (nI q)) F inX4 rfl rfl rfl tw_133 rfl rfl dX4_takeLetters_49 rfl ?_
          refine j_callV (q := 55) (ci := 5) (q0 := 0) (As := [.int (nI q)]) (wr := [(r0, .inr (4, [.ref u0, .int (nI pl), .ref x0, .int (nI q), .int (nI 1), .int va1]))]) (st := []) F (c_X5_at G (p := q) hl (by omega)) kwX5_at tw_326 tw_327 tw_325 ⟨Nat.le_of_ble_eq_true rfl, Nat.le_of_ble_eq_true rfl, rfl, rfl, Nat.le_of_ble_eq_true rfl, Nat.le_of_ble_eq_true rfl⟩ [1, 2] [0] rfl rfl rfl rfl rfl rfl rfl rfl rfl (Nat.le_of_ble_eq_true rfl) dX4_takeLetters_52 rfl ?_
          rintro r_ w_ ⟨rfl, (⟨hat_, rfl⟩ | ⟨hat_, rfl⟩)⟩
          · skip
            refine j_w (w' := [(r0, .inr (4, [.ref u0, .int (nI pl), .ref x0, .int (nI q), .int (nI 1), .int va1])), (x0, .inr (5, [.ref x1, .int (nI ln)])), (x1, .inl (G.2.2.1, 200, .inl (nF bt)))]) [0, 1, 2] rfl rfl ?_
            show Jw G X _ 0 0 55 _ [.int (nI (bt q))] _
            refine j_callS (q := 58) (As := [.int (nI (bt q))]) (wr := [(r0, .inr (4, [.ref u0, .int (nI pl), .ref x0, .int (nI q), .int (nI 1), .int va1])), (x0, .inr (5, [.ref x1, .int (nI ln)])), (x1, .inl (G.2.2.1, 200, .inl (nF bt)))]) (st := []) F (c_X4_isLetter G (c := bt q) (hbt q (by omega))) kwX4_isLetter tw_330 tw_329 ⟨Nat.le_of_ble_eq_true rfl, Nat.le_of_ble_eq_true rfl, rfl, rfl, Nat.le_of_ble_eq_true rfl, Nat.le_of_ble_eq_true rfl⟩ [] [0, 1, 2] rfl rfl rfl rfl rfl rfl rfl (Nat.le_of_ble_eq_true rfl) dX4_takeLetters_55 rfl ?_
            rintro r_ w_ ⟨rfl, (⟨rfl, hL2⟩ | ⟨rfl, hL2⟩)⟩
            · skip
              refine j_w (w' := [(r0, .inr (4, [.ref u0, .int (nI pl), .ref x0, .int (nI q), .int (nI 1), .int va1])), (x0, .inr (5, [.ref x1, .int (nI ln)])), (x1, .inl (G.2.2.1, 200, .inl (nF bt)))]) [0, 1, 2] rfl rfl ?_
              show Jw G X _ 0 0 58 _ [.int (nI 1)] _
              refine j_if_eq (q := 61) (t := 79) F (cf (by decide)) dX4_takeLetters_58 rfl rfl (fun z => False.elim z) (fun _ => ?_)
              refine j_aload_n (q := 62) (i0 := 0) F rfl dX4_takeLetters_61 rfl ?_
              refine j_iconst (q := 63) (v := (-1)) F (by decide) dX4_takeLetters_62 rfl ?_
              refine j_put (q := 66) (ci := 4) (q0 := 0) (kf := 5) (v := .int (-1)) (w' := [(r0, .inr (4, [.ref u0, .int (nI pl), .ref x0, .int (nI q), .int (nI 1), .int (-1)])), (x0, .inr (5, [.ref x1, .int (nI ln)])), (x1, .inl (G.2.2.1, 200, .inl (nF bt)))]) F inX4 tyX4_ok nmX4 rfl rfl rfl tw_135 rfl rfl rfl rfl rfl rfl dX4_takeLetters_63 rfl ?_
              refine j_aload_n (q := 67) (i0 := 0) F rfl dX4_takeLetters_66 rfl ?_
              refine j_dup (q := 68) F rfl dX4_takeLetters_67 rfl ?_
              refine j_get (q := 71) (ci := 4) (q0 := 0) (kf := 3) (v := .int (nI q)) F inX4 rfl rfl rfl tw_133 rfl rfl dX4_takeLetters_68 rfl ?_
              refine j_iconst (q := 72) (v := nI 1) F (by decide) dX4_takeLetters_71 rfl ?_
              refine j_iadd (q := 73) (v := nI (q + 1)) F (nI_add _ _) dX4_takeLetters_72 rfl ?_
              refine j_put (q := 76) (ci := 4) (q0 := 0) (kf := 3) (v := .int (nI (q + 1))) (w' := [(r0, .inr (4, [.ref u0, .int (nI pl), .ref x0, .int (nI (q + 1)), .int (nI 1), .int (-1)])), (x0, .inr (5, [.ref x1, .int (nI ln)])), (x1, .inl (G.2.2.1, 200, .inl (nF bt)))]) F inX4 tyX4_ok nmX4 rfl rfl rfl tw_133 rfl rfl rfl rfl rfl rfl dX4_takeLetters_73 rfl ?_
              refine j_goto (t := 30) F dX4_takeLetters_76 rfl ?_
              refine j_lv [0] (lv' := [(0, .ref r0)]) rfl ?_
              exact ih1 (q + 1) _ (by omega) (by omega) ((lEn_yes (by omega) hL2).symm.trans hqe) (Or.inr ⟨by omega, rfl⟩) (by omega)
            · skip
              refine j_w (w' := [(r0, .inr (4, [.ref u0, .int (nI pl), .ref x0, .int (nI q), .int (nI 1), .int va1])), (x0, .inr (5, [.ref x1, .int (nI ln)])), (x1, .inl (G.2.2.1, 200, .inl (nF bt)))]) [0, 1, 2] rfl rfl ?_
              show Jw G X _ 0 0 58 _ [.int (nI 0)] _
              refine j_if_eq (q := 61) (t := 79) F (ct (by decide)) dX4_takeLetters_58 rfl rfl (fun _ => ?_) (fun z => absurd trivial z)
              exact j_vret (w2 := [(r0, .inr (4, [.ref u0, .int (nI pl), .ref x0, .int (nI q), .int (nI 1), .int va1])), (x0, .inr (5, [.ref x1, .int (nI ln)])), (x1, .inl (G.2.2.1, 200, .inl (nF bt)))]) F R0 rfl [0, 1, 2] rfl rfl (by rw [← hqe, lEn_no (fun z => hL2 z.2)]; exact ⟨va1, by rcases hqv with ⟨e, z⟩ | ⟨e, z⟩; exact Or.inl ⟨e, z⟩; exact Or.inr ⟨by omega, z⟩, rfl, rfl⟩) dX4_takeLetters_79
          · skip
            exact absurd hat_ (by omega)
    refine j_lv [0] (lv' := [(0, .ref r0)]) rfl ?_
    exact lp1 _ (b + 1) _ (by omega) (by omega) (lEn_yes hb hL).symm (Or.inl ⟨rfl, rfl⟩) (Nat.lt_succ_self _)
  · skip
    exact absurd hat_ (by omega)

set_option maxHeartbeats 4000000 in
set_option maxRecDepth 100000 in
theorem c_X4_takeDigits (G : Gm) {r0 u0 x0 x1 ln pl so b : Nat} {va : Int32} {bt : Nat → Nat} (hl : ln ≤ 200) (hbt : ∀ i, i < ln → bt i < 256) (hb : b < ln) (hD : isD (bt b)) : Mg G yX4_takeDigits cX4_takeDigits 2 none ({ frames := 1, cells := 0, slots := 0, locals := 22 } : Room) 0 0 [.ref r0] [(r0, .inr (4, [.ref u0, .int (nI pl), .ref x0, .int (nI b), .int (nI so), .int va])), (x0, .inr (5, [.ref x1, .int (nI ln)])), (x1, .inl (G.2.2.1, 200, .inl (nF bt)))] (fun r w2 => ∃ so2 va2, ((so2 = 2 ∧ va2 = nI (dVl bt ln b 0) ∧ ¬ (99 < dVl bt ln b 0 ∨ (1 < dEn bt ln b - b ∧ bt b = 48))) ∨ (so2 = 4 ∧ (99 < dVl bt ln b 0 ∨ (1 < dEn bt ln b - b ∧ bt b = 48)))) ∧ r = none ∧ w2 = [(r0, .inr (4, [.ref u0, .int (nI pl), .ref x0, .int (nI (dEn bt ln b)), .int (nI so2), .int va2])), (x0, .inr (5, [.ref x1, .int (nI ln)])), (x1, .inl (G.2.2.1, 200, .inl (nF bt)))]) := by
  have hb2 := hbt b hb
  refine Mg.mk (lv := [(0, .ref r0)]) (by decide) rfl rfl (fun X F R0 => ?_)
  refine j_aload_n (q := 1) (i0 := 0) F rfl dX4_takeDigits_0 rfl ?_
  refine j_get (q := 4) (ci := 4) (q0 := 0) (kf := 2) (v := .ref x0) F inX4 rfl rfl rfl tw_132 rfl rfl dX4_takeDigits_1 rfl ?_
  refine j_aload_n (q := 5) (i0 := 0) F rfl dX4_takeDigits_4 rfl ?_
  refine j_get (q := 8) (ci := 4) (q0 := 0) (kf := 3) (v := .int (nI b)) F inX4 rfl rfl rfl tw_133 rfl rfl dX4_takeDigits_5 rfl ?_
  refine j_callV (q := 11) (ci := 5) (q0 := 0) (As := [.int (nI b)]) (wr := [(r0, .inr (4, [.ref u0, .int (nI pl), .ref x0, .int (nI b), .int (nI so), .int va]))]) (st := []) F (c_X5_at G (p := b) hl (by omega)) kwX5_at tw_326 tw_327 tw_325 ⟨Nat.le_of_ble_eq_true rfl, Nat.le_of_ble_eq_true rfl, rfl, rfl, Nat.le_of_ble_eq_true rfl, Nat.le_of_ble_eq_true rfl⟩ [1, 2] [0] rfl rfl rfl rfl rfl rfl rfl rfl rfl (Nat.le_of_ble_eq_true rfl) dX4_takeDigits_8 rfl ?_
  rintro r_ w_ ⟨rfl, (⟨hat_, rfl⟩ | ⟨hat_, rfl⟩)⟩
  · skip
    refine j_w (w' := [(r0, .inr (4, [.ref u0, .int (nI pl), .ref x0, .int (nI b), .int (nI so), .int va])), (x0, .inr (5, [.ref x1, .int (nI ln)])), (x1, .inl (G.2.2.1, 200, .inl (nF bt)))]) [0, 1, 2] rfl rfl ?_
    show Jw G X _ 0 0 11 _ [.int (nI (bt b))] _
    refine j_bipush (q := 13) (v := nI 48) F (by decide) dX4_takeDigits_11 rfl ?_
    refine j_icmp_ne (q := 16) (t := 39) F (Pp := bt b = 48) (nI_eq (by omega) (by omega)) dX4_takeDigits_13 rfl rfl (fun c0 => ?_) (fun c0 => ?_)
    · skip
      refine j_iconst (q := 40) (v := nI 0) F (by decide) dX4_takeDigits_39 rfl ?_
      refine j_istore_n (q := 41) (lv' := [(1, .int (nI 0)), (0, .ref r0)]) F dX4_takeDigits_40 (by decide) rfl rfl ?_
      have hz : ¬ (1 < dEn bt ln b - b ∧ bt b = 48) := fun z => c0 z.2
      refine j_aload_n (q := 42) (i0 := 1) F rfl dX4_takeDigits_41 rfl ?_
      refine j_iconst (q := 43) (v := nI 0) F (by decide) dX4_takeDigits_42 rfl ?_
      refine j_put (q := 46) (ci := 4) (q0 := 0) (kf := 5) (v := .int (nI 0)) (w' := [(r0, .inr (4, [.ref u0, .int (nI pl), .ref x0, .int (nI b), .int (nI so), .int (nI 0)])), (x0, .inr (5, [.ref x1, .int (nI ln)])), (x1, .inl (G.2.2.1, 200, .inl (nF bt)))]) F inX4 tyX4_ok nmX4 rfl rfl rfl tw_135 rfl rfl rfl rfl rfl rfl dX4_takeDigits_43 rfl ?_
      have lp2 : ∀ (fu : Nat) (q : Nat) (ac : Nat) (hq1 : b ≤ q) (hq2 : q ≤ ln) (hqe : dEn bt ln q = dEn bt ln b) (hqv : dVl bt ln q ac = dVl bt ln b 0), (ln - q) < fu → Jw G X 2 0 0 46 [(0, .ref r0), (1, .int (nI 0))] [] [(r0, .inr (4, [.ref u0, .int (nI pl), .ref x0, .int (nI q), .int (nI so), .int (nI (min ac 100))])), (x0, .inr (5, [.ref x1, .int (nI ln)])), (x1, .inl (G.2.2.1, 200, .inl (nF bt)))] := by
        intro fu
        induction fu with
        | zero => intro q ac hq1 hq2 hqe hqv hfu; exact absurd hfu (Nat.not_lt_zero _)
        | succ fu ih2 =>
          intro q ac hq1 hq2 hqe hqv hfu
          refine j_aload_n (q := 47) (i0 := 0) F rfl dX4_takeDigits_46 rfl ?_
          refine j_get (q := 50) (ci := 4) (q0 := 0) (kf := 3) (v := .int (nI q)) F inX4 rfl rfl rfl tw_133 rfl rfl dX4_takeDigits_47 rfl ?_
          refine j_aload_n (q := 51) (i0 := 0) F rfl dX4_takeDigits_50 rfl ?_
          refine j_get (q := 54) (ci := 4) (q0 := 0) (kf := 2) (v := .ref x0) F inX4 rfl rfl rfl tw_132 rfl rfl dX4_takeDigits_51 rfl ?_
          refine j_get (q := 57) (ci := 5) (q0 := 1) (kf := 1) (v := .int (nI ln)) F inX5 rfl rfl rfl tw_68 rfl rfl dX4_takeDigits_54 rfl ?_
          refine j_icmp_ge (q := 60) (t := 121) F (Pp := ln ≤ q) (nI_leI (by omega) (by omega)) dX4_takeDigits_57 rfl rfl (fun c3 => ?_) (fun c3 => ?_)
          · skip
            refine j_aload_n (q := 122) (i0 := 0) F rfl dX4_takeDigits_121 rfl ?_
            refine j_iload_n (q := 123) (i0 := 1) F rfl dX4_takeDigits_122 rfl ?_
            refine j_if_ne (q := 126) (t := 135) F (ct (by decide)) dX4_takeDigits_123 rfl rfl (fun z => absurd trivial z) (fun _ => ?_)
            refine j_aload_n (q := 127) (i0 := 0) F rfl dX4_takeDigits_126 rfl ?_
            refine j_get (q := 130) (ci := 4) (q0 := 0) (kf := 5) (v := .int (nI (min ac 100))) F inX4 rfl rfl rfl tw_135 rfl rfl dX4_takeDigits_127 rfl ?_
            refine j_bipush (q := 132) (v := nI 99) F (by decide) dX4_takeDigits_130 rfl ?_
            refine j_icmp_le (q := 135) (t := 139) F (Pp := min ac 100 ≤ 99) (nI_leI (by omega) (by omega)) dX4_takeDigits_132 rfl rfl (fun c5 => ?_) (fun c5 => ?_)
            · skip
              refine j_iconst (q := 140) (v := nI 2) F (by decide) dX4_takeDigits_139 rfl ?_
              refine j_put (q := 143) (ci := 4) (q0 := 0) (kf := 4) (v := .int (nI 2)) (w' := [(r0, .inr (4, [.ref u0, .int (nI pl), .ref x0, .int (nI q), .int (nI 2), .int (nI (min ac 100))])), (x0, .inr (5, [.ref x1, .int (nI ln)])), (x1, .inl (G.2.2.1, 200, .inl (nF bt)))]) F inX4 tyX4_ok nmX4 rfl rfl rfl tw_134 rfl rfl rfl rfl rfl rfl dX4_takeDigits_140 rfl ?_
              exact j_vret (w2 := [(r0, .inr (4, [.ref u0, .int (nI pl), .ref x0, .int (nI q), .int (nI 2), .int (nI (min ac 100))])), (x0, .inr (5, [.ref x1, .int (nI ln)])), (x1, .inl (G.2.2.1, 200, .inl (nF bt)))]) F R0 rfl [0, 1, 2] rfl rfl (by have e1 := dEn_no (bt := bt) (ln := ln) (p := q) (fun z => by omega); have e2 := dVl_no (bt := bt) (ln := ln) (p := q) (v := ac) (fun z => by omega); rw [← hqe, e1]; exact ⟨_, _, Or.inl ⟨rfl, by rw [← hqv, e2]; congr 1; omega, fun z => z.elim (fun y => by rw [← hqv, e2] at y; omega) (fun y => hz (by rw [← hqe, e1]; exact y))⟩, rfl, rfl⟩) dX4_takeDigits_143
            · skip
              refine j_iconst (q := 136) (v := nI 4) F (by decide) dX4_takeDigits_135 rfl ?_
              refine j_goto (t := 140) F dX4_takeDigits_136 rfl ?_
              refine j_put (q := 143) (ci := 4) (q0 := 0) (kf := 4) (v := .int (nI 4)) (w' := [(r0, .inr (4, [.ref u0, .int (nI pl), .ref x0, .int (nI q), .int (nI 4), .int (nI (min ac 100))])), (x0, .inr (5, [.ref x1, .int (nI ln)])), (x1, .inl (G.2.2.1, 200, .inl (nF bt)))]) F inX4 tyX4_ok nmX4 rfl rfl rfl tw_134 rfl rfl rfl rfl rfl rfl dX4_takeDigits_140 rfl ?_
              exact j_vret (w2 := [(r0, .inr (4, [.ref u0, .int (nI pl), .ref x0, .int (nI q), .int (nI 4), .int (nI (min ac 100))])), (x0, .inr (5, [.ref x1, .int (nI ln)])), (x1, .inl (G.2.2.1, 200, .inl (nF bt)))]) F R0 rfl [0, 1, 2] rfl rfl (by have e1 := dEn_no (bt := bt) (ln := ln) (p := q) (fun z => by omega); have e2 := dVl_no (bt := bt) (ln := ln) (p := q) (v := ac) (fun z => by omega); rw [← hqe, e1]; exact ⟨_, _, Or.inr ⟨rfl, Or.inl (by rw [← hqv, e2]; omega)⟩, rfl, rfl⟩) dX4_takeDigits_143
          · skip
            refine j_aload_n (q := 61) (i0 := 0) F rfl dX4_takeDigits_60 rfl ?_
            refine j_get (q := 64) (ci := 4) (q0 := 0) (kf := 2) (v := .ref x0) F inX4 rfl rfl rfl tw_132 rfl rfl dX4_takeDigits_61 rfl ?_
            refine j_aload_n (q := 65) (i0 := 0) F rfl dX4_takeDigits_64 rfl ?_
            refine j_get (q := 68) (ci := 4) (q0 := 0) (kf := 3) (v := .int (nI q)) F inX4 rfl rfl rfl tw_133 rfl rfl dX4_takeDigits_65 rfl ?_
            refine j_callV (q := 71) (ci := 5) (q0 := 0) (As := [.int (nI q)]) (wr := [(r0, .inr (4, [.ref u0, .int (nI pl), .ref x0, .int (nI q), .int (nI so), .int (nI (min ac 100))]))]) (st := []) F (c_X5_at G (p := q) hl (by omega)) kwX5_at tw_326 tw_327 tw_325 ⟨Nat.le_of_ble_eq_true rfl, Nat.le_of_ble_eq_true rfl, rfl, rfl, Nat.le_of_ble_eq_true rfl, Nat.le_of_ble_eq_true rfl⟩ [1, 2] [0] rfl rfl rfl rfl rfl rfl rfl rfl rfl (Nat.le_of_ble_eq_true rfl) dX4_takeDigits_68 rfl ?_
            rintro r_ w_ ⟨rfl, (⟨hat_, rfl⟩ | ⟨hat_, rfl⟩)⟩
            · skip
              refine j_w (w' := [(r0, .inr (4, [.ref u0, .int (nI pl), .ref x0, .int (nI q), .int (nI so), .int (nI (min ac 100))])), (x0, .inr (5, [.ref x1, .int (nI ln)])), (x1, .inl (G.2.2.1, 200, .inl (nF bt)))]) [0, 1, 2] rfl rfl ?_
              show Jw G X _ 0 0 71 _ [.int (nI (bt q))] _
              refine j_callS (q := 74) (As := [.int (nI (bt q))]) (wr := [(r0, .inr (4, [.ref u0, .int (nI pl), .ref x0, .int (nI q), .int (nI so), .int (nI (min ac 100))])), (x0, .inr (5, [.ref x1, .int (nI ln)])), (x1, .inl (G.2.2.1, 200, .inl (nF bt)))]) (st := []) F (c_X4_isDigit G (c := bt q) (hbt q (by omega))) kwX4_isDigit tw_337 tw_336 ⟨Nat.le_of_ble_eq_true rfl, Nat.le_of_ble_eq_true rfl, rfl, rfl, Nat.le_of_ble_eq_true rfl, Nat.le_of_ble_eq_true rfl⟩ [] [0, 1, 2] rfl rfl rfl rfl rfl rfl rfl (Nat.le_of_ble_eq_true rfl) dX4_takeDigits_71 rfl ?_
              rintro r_ w_ ⟨rfl, (⟨rfl, hD2⟩ | ⟨rfl, hD2⟩)⟩
              · skip
                refine j_w (w' := [(r0, .inr (4, [.ref u0, .int (nI pl), .ref x0, .int (nI q), .int (nI so), .int (nI (min ac 100))])), (x0, .inr (5, [.ref x1, .int (nI ln)])), (x1, .inl (G.2.2.1, 200, .inl (nF bt)))]) [0, 1, 2] rfl rfl ?_
                show Jw G X _ 0 0 74 _ [.int (nI 1)] _
                refine j_if_eq (q := 77) (t := 121) F (cf (by decide)) dX4_takeDigits_74 rfl rfl (fun z => False.elim z) (fun _ => ?_)
                refine j_aload_n (q := 78) (i0 := 0) F rfl dX4_takeDigits_77 rfl ?_
                refine j_bipush (q := 80) (v := nI 10) F (by decide) dX4_takeDigits_78 rfl ?_
                refine j_aload_n (q := 81) (i0 := 0) F rfl dX4_takeDigits_80 rfl ?_
                refine j_get (q := 84) (ci := 4) (q0 := 0) (kf := 5) (v := .int (nI (min ac 100))) F inX4 rfl rfl rfl tw_135 rfl rfl dX4_takeDigits_81 rfl ?_
                refine j_imul (q := 85) (v := nI (10 * min ac 100)) F (pk_mul _ _) dX4_takeDigits_84 rfl ?_
                refine j_aload_n (q := 86) (i0 := 0) F rfl dX4_takeDigits_85 rfl ?_
                refine j_get (q := 89) (ci := 4) (q0 := 0) (kf := 2) (v := .ref x0) F inX4 rfl rfl rfl tw_132 rfl rfl dX4_takeDigits_86 rfl ?_
                refine j_aload_n (q := 90) (i0 := 0) F rfl dX4_takeDigits_89 rfl ?_
                refine j_get (q := 93) (ci := 4) (q0 := 0) (kf := 3) (v := .int (nI q)) F inX4 rfl rfl rfl tw_133 rfl rfl dX4_takeDigits_90 rfl ?_
                refine j_callV (q := 96) (ci := 5) (q0 := 0) (As := [.int (nI q)]) (wr := [(r0, .inr (4, [.ref u0, .int (nI pl), .ref x0, .int (nI q), .int (nI so), .int (nI (min ac 100))]))]) (st := [.int (nI (10 * min ac 100)), .ref r0]) F (c_X5_at G (p := q) hl (by omega)) kwX5_at tw_326 tw_327 tw_325 ⟨Nat.le_of_ble_eq_true rfl, Nat.le_of_ble_eq_true rfl, rfl, rfl, Nat.le_of_ble_eq_true rfl, Nat.le_of_ble_eq_true rfl⟩ [1, 2] [0] rfl rfl rfl rfl rfl rfl rfl rfl rfl (Nat.le_of_ble_eq_true rfl) dX4_takeDigits_93 rfl ?_
                rintro r_ w_ ⟨rfl, (⟨hat_, rfl⟩ | ⟨hat_, rfl⟩)⟩
                · skip
                  refine j_w (w' := [(r0, .inr (4, [.ref u0, .int (nI pl), .ref x0, .int (nI q), .int (nI so), .int (nI (min ac 100))])), (x0, .inr (5, [.ref x1, .int (nI ln)])), (x1, .inl (G.2.2.1, 200, .inl (nF bt)))]) [0, 1, 2] rfl rfl ?_
                  show Jw G X _ 0 0 96 _ [.int (nI (bt q)), .int (nI (10 * min ac 100)), .ref r0] _
                  refine j_iadd (q := 97) (v := nI ((10 * min ac 100) + (bt q))) F (nI_add _ _) dX4_takeDigits_96 rfl ?_
                  refine j_bipush (q := 99) (v := nI 48) F (by decide) dX4_takeDigits_97 rfl ?_
                  refine j_isub (q := 100) (v := nI (((10 * min ac 100) + (bt q)) - 48)) F (pk_sub (by omega)) dX4_takeDigits_99 rfl ?_
                  refine j_bipush (q := 102) (v := nI 100) F (by decide) dX4_takeDigits_100 rfl ?_
                  refine j_mmin (q := 105) (v := nI (min (10 * min ac 100 + bt q - 48) 100)) F tw_343 tw_344 tw_48 tw_345 (Nat.le_of_ble_eq_true rfl) (Nat.le_of_ble_eq_true rfl) ⟨Nat.le_of_ble_eq_true rfl, Nat.le_of_ble_eq_true rfl⟩ (nI_min (by have := hbt q (by omega); omega) (by omega)) dX4_takeDigits_102 rfl ?_
                  refine j_put (q := 108) (ci := 4) (q0 := 0) (kf := 5) (v := .int (nI (min (10 * min ac 100 + bt q - 48) 100))) (w' := [(r0, .inr (4, [.ref u0, .int (nI pl), .ref x0, .int (nI q), .int (nI so), .int (nI (min (10 * min ac 100 + bt q - 48) 100))])), (x0, .inr (5, [.ref x1, .int (nI ln)])), (x1, .inl (G.2.2.1, 200, .inl (nF bt)))]) F inX4 tyX4_ok nmX4 rfl rfl rfl tw_135 rfl rfl rfl rfl rfl rfl dX4_takeDigits_105 rfl ?_
                  refine j_aload_n (q := 109) (i0 := 0) F rfl dX4_takeDigits_108 rfl ?_
                  refine j_dup (q := 110) F rfl dX4_takeDigits_109 rfl ?_
                  refine j_get (q := 113) (ci := 4) (q0 := 0) (kf := 3) (v := .int (nI q)) F inX4 rfl rfl rfl tw_133 rfl rfl dX4_takeDigits_110 rfl ?_
                  refine j_iconst (q := 114) (v := nI 1) F (by decide) dX4_takeDigits_113 rfl ?_
                  refine j_iadd (q := 115) (v := nI (q + 1)) F (nI_add _ _) dX4_takeDigits_114 rfl ?_
                  refine j_put (q := 118) (ci := 4) (q0 := 0) (kf := 3) (v := .int (nI (q + 1))) (w' := [(r0, .inr (4, [.ref u0, .int (nI pl), .ref x0, .int (nI (q + 1)), .int (nI so), .int (nI (min (10 * min ac 100 + bt q - 48) 100))])), (x0, .inr (5, [.ref x1, .int (nI ln)])), (x1, .inl (G.2.2.1, 200, .inl (nF bt)))]) F inX4 tyX4_ok nmX4 rfl rfl rfl tw_133 rfl rfl rfl rfl rfl rfl dX4_takeDigits_115 rfl ?_
                  refine j_goto (t := 46) F dX4_takeDigits_118 rfl ?_
                  rw [show min (10 * min ac 100 + bt q - 48) 100 = min (if 99 < ac then ac else 10 * ac + bt q - 48) 100 from by split <;> omega]
                  refine j_lv [0, 1] (lv' := [(0, .ref r0), (1, .int (nI 0))]) rfl ?_
                  exact ih2 (q + 1) _ (by omega) (by omega) ((dEn_yes (by omega) hD2).symm.trans hqe) ((dVl_yes (by omega) hD2).symm.trans hqv) (by omega)
                · skip
                  exact absurd hat_ (by omega)
              · skip
                refine j_w (w' := [(r0, .inr (4, [.ref u0, .int (nI pl), .ref x0, .int (nI q), .int (nI so), .int (nI (min ac 100))])), (x0, .inr (5, [.ref x1, .int (nI ln)])), (x1, .inl (G.2.2.1, 200, .inl (nF bt)))]) [0, 1, 2] rfl rfl ?_
                show Jw G X _ 0 0 74 _ [.int (nI 0)] _
                refine j_if_eq (q := 77) (t := 121) F (ct (by decide)) dX4_takeDigits_74 rfl rfl (fun _ => ?_) (fun z => absurd trivial z)
                refine j_aload_n (q := 122) (i0 := 0) F rfl dX4_takeDigits_121 rfl ?_
                refine j_iload_n (q := 123) (i0 := 1) F rfl dX4_takeDigits_122 rfl ?_
                refine j_if_ne (q := 126) (t := 135) F (ct (by decide)) dX4_takeDigits_123 rfl rfl (fun z => absurd trivial z) (fun _ => ?_)
                refine j_aload_n (q := 127) (i0 := 0) F rfl dX4_takeDigits_126 rfl ?_
                refine j_get (q := 130) (ci := 4) (q0 := 0) (kf := 5) (v := .int (nI (min ac 100))) F inX4 rfl rfl rfl tw_135 rfl rfl dX4_takeDigits_127 rfl ?_
                refine j_bipush (q := 132) (v := nI 99) F (by decide) dX4_takeDigits_130 rfl ?_
                refine j_icmp_le (q := 135) (t := 139) F (Pp := min ac 100 ≤ 99) (nI_leI (by omega) (by omega)) dX4_takeDigits_132 rfl rfl (fun c9 => ?_) (fun c9 => ?_)
                · skip
                  refine j_iconst (q := 140) (v := nI 2) F (by decide) dX4_takeDigits_139 rfl ?_
                  refine j_put (q := 143) (ci := 4) (q0 := 0) (kf := 4) (v := .int (nI 2)) (w' := [(r0, .inr (4, [.ref u0, .int (nI pl), .ref x0, .int (nI q), .int (nI 2), .int (nI (min ac 100))])), (x0, .inr (5, [.ref x1, .int (nI ln)])), (x1, .inl (G.2.2.1, 200, .inl (nF bt)))]) F inX4 tyX4_ok nmX4 rfl rfl rfl tw_134 rfl rfl rfl rfl rfl rfl dX4_takeDigits_140 rfl ?_
                  exact j_vret (w2 := [(r0, .inr (4, [.ref u0, .int (nI pl), .ref x0, .int (nI q), .int (nI 2), .int (nI (min ac 100))])), (x0, .inr (5, [.ref x1, .int (nI ln)])), (x1, .inl (G.2.2.1, 200, .inl (nF bt)))]) F R0 rfl [0, 1, 2] rfl rfl (by have e1 := dEn_no (bt := bt) (ln := ln) (p := q) (fun z => hD2 z.2); have e2 := dVl_no (bt := bt) (ln := ln) (p := q) (v := ac) (fun z => hD2 z.2); rw [← hqe, e1]; exact ⟨_, _, Or.inl ⟨rfl, by rw [← hqv, e2]; congr 1; omega, fun z => z.elim (fun y => by rw [← hqv, e2] at y; omega) (fun y => hz (by rw [← hqe, e1]; exact y))⟩, rfl, rfl⟩) dX4_takeDigits_143
                · skip
                  refine j_iconst (q := 136) (v := nI 4) F (by decide) dX4_takeDigits_135 rfl ?_
                  refine j_goto (t := 140) F dX4_takeDigits_136 rfl ?_
                  refine j_put (q := 143) (ci := 4) (q0 := 0) (kf := 4) (v := .int (nI 4)) (w' := [(r0, .inr (4, [.ref u0, .int (nI pl), .ref x0, .int (nI q), .int (nI 4), .int (nI (min ac 100))])), (x0, .inr (5, [.ref x1, .int (nI ln)])), (x1, .inl (G.2.2.1, 200, .inl (nF bt)))]) F inX4 tyX4_ok nmX4 rfl rfl rfl tw_134 rfl rfl rfl rfl rfl rfl dX4_takeDigits_140 rfl ?_
                  exact j_vret (w2 := [(r0, .inr (4, [.ref u0, .int (nI pl), .ref x0, .int (nI q), .int (nI 4), .int (nI (min ac 100))])), (x0, .inr (5, [.ref x1, .int (nI ln)])), (x1, .inl (G.2.2.1, 200, .inl (nF bt)))]) F R0 rfl [0, 1, 2] rfl rfl (by have e1 := dEn_no (bt := bt) (ln := ln) (p := q) (fun z => hD2 z.2); have e2 := dVl_no (bt := bt) (ln := ln) (p := q) (v := ac) (fun z => hD2 z.2); rw [← hqe, e1]; exact ⟨_, _, Or.inr ⟨rfl, Or.inl (by rw [← hqv, e2]; omega)⟩, rfl, rfl⟩) dX4_takeDigits_143
            · skip
              exact absurd hat_ (by omega)
      refine j_lv [1, 0] (lv' := [(0, .ref r0), (1, .int (nI 0))]) rfl ?_
      exact lp2 _ b 0 (Nat.le_refl b) (by omega) rfl rfl (Nat.lt_succ_self _)
    · skip
      refine j_aload_n (q := 17) (i0 := 0) F rfl dX4_takeDigits_16 rfl ?_
      refine j_get (q := 20) (ci := 4) (q0 := 0) (kf := 2) (v := .ref x0) F inX4 rfl rfl rfl tw_132 rfl rfl dX4_takeDigits_17 rfl ?_
      refine j_aload_n (q := 21) (i0 := 0) F rfl dX4_takeDigits_20 rfl ?_
      refine j_get (q := 24) (ci := 4) (q0 := 0) (kf := 3) (v := .int (nI b)) F inX4 rfl rfl rfl tw_133 rfl rfl dX4_takeDigits_21 rfl ?_
      refine j_iconst (q := 25) (v := nI 1) F (by decide) dX4_takeDigits_24 rfl ?_
      refine j_iadd (q := 26) (v := nI (b + 1)) F (nI_add _ _) dX4_takeDigits_25 rfl ?_
      refine j_callV (q := 29) (ci := 5) (q0 := 0) (As := [.int (nI (b + 1))]) (wr := [(r0, .inr (4, [.ref u0, .int (nI pl), .ref x0, .int (nI b), .int (nI so), .int va]))]) (st := []) F (c_X5_at G (p := b + 1) hl (by omega)) kwX5_at tw_326 tw_327 tw_325 ⟨Nat.le_of_ble_eq_true rfl, Nat.le_of_ble_eq_true rfl, rfl, rfl, Nat.le_of_ble_eq_true rfl, Nat.le_of_ble_eq_true rfl⟩ [1, 2] [0] rfl rfl rfl rfl rfl rfl rfl rfl rfl (Nat.le_of_ble_eq_true rfl) dX4_takeDigits_26 rfl ?_
      rintro r_ w_ ⟨rfl, (⟨hat1, rfl⟩ | ⟨hat1, rfl⟩)⟩
      · skip
        refine j_w (w' := [(r0, .inr (4, [.ref u0, .int (nI pl), .ref x0, .int (nI b), .int (nI so), .int va])), (x0, .inr (5, [.ref x1, .int (nI ln)])), (x1, .inl (G.2.2.1, 200, .inl (nF bt)))]) [0, 1, 2] rfl rfl ?_
        show Jw G X _ 0 0 29 _ [.int (nI (bt (b + 1)))] _
        refine j_callS (q := 32) (As := [.int (nI (bt (b + 1)))]) (wr := [(r0, .inr (4, [.ref u0, .int (nI pl), .ref x0, .int (nI b), .int (nI so), .int va])), (x0, .inr (5, [.ref x1, .int (nI ln)])), (x1, .inl (G.2.2.1, 200, .inl (nF bt)))]) (st := []) F (c_X4_isDigit G (c := bt (b + 1)) (hbt _ hat1)) kwX4_isDigit tw_337 tw_336 ⟨Nat.le_of_ble_eq_true rfl, Nat.le_of_ble_eq_true rfl, rfl, rfl, Nat.le_of_ble_eq_true rfl, Nat.le_of_ble_eq_true rfl⟩ [] [0, 1, 2] rfl rfl rfl rfl rfl rfl rfl (Nat.le_of_ble_eq_true rfl) dX4_takeDigits_29 rfl ?_
        rintro r_ w_ ⟨rfl, (⟨rfl, hD1⟩ | ⟨rfl, hD1⟩)⟩
        · skip
          refine j_w (w' := [(r0, .inr (4, [.ref u0, .int (nI pl), .ref x0, .int (nI b), .int (nI so), .int va])), (x0, .inr (5, [.ref x1, .int (nI ln)])), (x1, .inl (G.2.2.1, 200, .inl (nF bt)))]) [0, 1, 2] rfl rfl ?_
          show Jw G X _ 0 0 32 _ [.int (nI 1)] _
          refine j_if_eq (q := 35) (t := 39) F (cf (by decide)) dX4_takeDigits_32 rfl rfl (fun z => False.elim z) (fun _ => ?_)
          refine j_iconst (q := 36) (v := nI 1) F (by decide) dX4_takeDigits_35 rfl ?_
          refine j_goto (t := 40) F dX4_takeDigits_36 rfl ?_
          refine j_istore_n (q := 41) (lv' := [(1, .int (nI 1)), (0, .ref r0)]) F dX4_takeDigits_40 (by decide) rfl rfl ?_
          have hz : 1 < dEn bt ln b - b ∧ bt b = 48 := by
            have h1 := dEn_yes hb hD
            have h2 := dEn_yes (p := b + 1) (by omega) hD1
            have h3 := dEn_in (bt := bt) (ln := ln) (p := b + 1 + 1) (by omega)
            omega
          refine j_aload_n (q := 42) (i0 := 1) F rfl dX4_takeDigits_41 rfl ?_
          refine j_iconst (q := 43) (v := nI 0) F (by decide) dX4_takeDigits_42 rfl ?_
          refine j_put (q := 46) (ci := 4) (q0 := 0) (kf := 5) (v := .int (nI 0)) (w' := [(r0, .inr (4, [.ref u0, .int (nI pl), .ref x0, .int (nI b), .int (nI so), .int (nI 0)])), (x0, .inr (5, [.ref x1, .int (nI ln)])), (x1, .inl (G.2.2.1, 200, .inl (nF bt)))]) F inX4 tyX4_ok nmX4 rfl rfl rfl tw_135 rfl rfl rfl rfl rfl rfl dX4_takeDigits_43 rfl ?_
          have lp11 : ∀ (fu : Nat) (q : Nat) (ac : Nat) (hq1 : b ≤ q) (hq2 : q ≤ ln) (hqe : dEn bt ln q = dEn bt ln b) (hqv : dVl bt ln q ac = dVl bt ln b 0), (ln - q) < fu → Jw G X 2 0 0 46 [(0, .ref r0), (1, .int (nI 1))] [] [(r0, .inr (4, [.ref u0, .int (nI pl), .ref x0, .int (nI q), .int (nI so), .int (nI (min ac 100))])), (x0, .inr (5, [.ref x1, .int (nI ln)])), (x1, .inl (G.2.2.1, 200, .inl (nF bt)))] := by
            intro fu
            induction fu with
            | zero => intro q ac hq1 hq2 hqe hqv hfu; exact absurd hfu (Nat.not_lt_zero _)
            | succ fu ih11 =>
              intro q ac hq1 hq2 hqe hqv hfu
              refine j_aload_n (q := 47) (i0 := 0) F rfl dX4_takeDigits_46 rfl ?_
              refine j_get (q := 50) (ci := 4) (q0 := 0) (kf := 3) (v := .int (nI q)) F inX4 rfl rfl rfl tw_133 rfl rfl dX4_takeDigits_47 rfl ?_
              refine j_aload_n (q := 51) (i0 := 0) F rfl dX4_takeDigits_50 rfl ?_
              refine j_get (q := 54) (ci := 4) (q0 := 0) (kf := 2) (v := .ref x0) F inX4 rfl rfl rfl tw_132 rfl rfl dX4_takeDigits_51 rfl ?_
              refine j_get (q := 57) (ci := 5) (q0 := 1) (kf := 1) (v := .int (nI ln)) F inX5 rfl rfl rfl tw_68 rfl rfl dX4_takeDigits_54 rfl ?_
              refine j_icmp_ge (q := 60) (t := 121) F (Pp := ln ≤ q) (nI_leI (by omega) (by omega)) dX4_takeDigits_57 rfl rfl (fun c12 => ?_) (fun c12 => ?_)
              · skip
                refine j_aload_n (q := 122) (i0 := 0) F rfl dX4_takeDigits_121 rfl ?_
                refine j_iload_n (q := 123) (i0 := 1) F rfl dX4_takeDigits_122 rfl ?_
                refine j_if_ne (q := 126) (t := 135) F (cf (by decide)) dX4_takeDigits_123 rfl rfl (fun _ => ?_) (fun z => False.elim z)
                refine j_iconst (q := 136) (v := nI 4) F (by decide) dX4_takeDigits_135 rfl ?_
                refine j_goto (t := 140) F dX4_takeDigits_136 rfl ?_
                refine j_put (q := 143) (ci := 4) (q0 := 0) (kf := 4) (v := .int (nI 4)) (w' := [(r0, .inr (4, [.ref u0, .int (nI pl), .ref x0, .int (nI q), .int (nI 4), .int (nI (min ac 100))])), (x0, .inr (5, [.ref x1, .int (nI ln)])), (x1, .inl (G.2.2.1, 200, .inl (nF bt)))]) F inX4 tyX4_ok nmX4 rfl rfl rfl tw_134 rfl rfl rfl rfl rfl rfl dX4_takeDigits_140 rfl ?_
                exact j_vret (w2 := [(r0, .inr (4, [.ref u0, .int (nI pl), .ref x0, .int (nI q), .int (nI 4), .int (nI (min ac 100))])), (x0, .inr (5, [.ref x1, .int (nI ln)])), (x1, .inl (G.2.2.1, 200, .inl (nF bt)))]) F R0 rfl [0, 1, 2] rfl rfl (by have e1 := dEn_no (bt := bt) (ln := ln) (p := q) (fun z => by omega); have e2 := dVl_no (bt := bt) (ln := ln) (p := q) (v := ac) (fun z => by omega); rw [← hqe, e1]; exact ⟨_, _, Or.inr ⟨rfl, Or.inr (by rw [← hqe, e1] at hz; exact hz)⟩, rfl, rfl⟩) dX4_takeDigits_143
              · skip
                refine j_aload_n (q := 61) (i0 := 0) F rfl dX4_takeDigits_60 rfl ?_
                refine j_get (q := 64) (ci := 4) (q0 := 0) (kf := 2) (v := .ref x0) F inX4 rfl rfl rfl tw_132 rfl rfl dX4_takeDigits_61 rfl ?_
                refine j_aload_n (q := 65) (i0 := 0) F rfl dX4_takeDigits_64 rfl ?_
                refine j_get (q := 68) (ci := 4) (q0 := 0) (kf := 3) (v := .int (nI q)) F inX4 rfl rfl rfl tw_133 rfl rfl dX4_takeDigits_65 rfl ?_
                refine j_callV (q := 71) (ci := 5) (q0 := 0) (As := [.int (nI q)]) (wr := [(r0, .inr (4, [.ref u0, .int (nI pl), .ref x0, .int (nI q), .int (nI so), .int (nI (min ac 100))]))]) (st := []) F (c_X5_at G (p := q) hl (by omega)) kwX5_at tw_326 tw_327 tw_325 ⟨Nat.le_of_ble_eq_true rfl, Nat.le_of_ble_eq_true rfl, rfl, rfl, Nat.le_of_ble_eq_true rfl, Nat.le_of_ble_eq_true rfl⟩ [1, 2] [0] rfl rfl rfl rfl rfl rfl rfl rfl rfl (Nat.le_of_ble_eq_true rfl) dX4_takeDigits_68 rfl ?_
                rintro r_ w_ ⟨rfl, (⟨hat_, rfl⟩ | ⟨hat_, rfl⟩)⟩
                · skip
                  refine j_w (w' := [(r0, .inr (4, [.ref u0, .int (nI pl), .ref x0, .int (nI q), .int (nI so), .int (nI (min ac 100))])), (x0, .inr (5, [.ref x1, .int (nI ln)])), (x1, .inl (G.2.2.1, 200, .inl (nF bt)))]) [0, 1, 2] rfl rfl ?_
                  show Jw G X _ 0 0 71 _ [.int (nI (bt q))] _
                  refine j_callS (q := 74) (As := [.int (nI (bt q))]) (wr := [(r0, .inr (4, [.ref u0, .int (nI pl), .ref x0, .int (nI q), .int (nI so), .int (nI (min ac 100))])), (x0, .inr (5, [.ref x1, .int (nI ln)])), (x1, .inl (G.2.2.1, 200, .inl (nF bt)))]) (st := []) F (c_X4_isDigit G (c := bt q) (hbt q (by omega))) kwX4_isDigit tw_337 tw_336 ⟨Nat.le_of_ble_eq_true rfl, Nat.le_of_ble_eq_true rfl, rfl, rfl, Nat.le_of_ble_eq_true rfl, Nat.le_of_ble_eq_true rfl⟩ [] [0, 1, 2] rfl rfl rfl rfl rfl rfl rfl (Nat.le_of_ble_eq_true rfl) dX4_takeDigits_71 rfl ?_
                  rintro r_ w_ ⟨rfl, (⟨rfl, hD2⟩ | ⟨rfl, hD2⟩)⟩
                  · skip
                    refine j_w (w' := [(r0, .inr (4, [.ref u0, .int (nI pl), .ref x0, .int (nI q), .int (nI so), .int (nI (min ac 100))])), (x0, .inr (5, [.ref x1, .int (nI ln)])), (x1, .inl (G.2.2.1, 200, .inl (nF bt)))]) [0, 1, 2] rfl rfl ?_
                    show Jw G X _ 0 0 74 _ [.int (nI 1)] _
                    refine j_if_eq (q := 77) (t := 121) F (cf (by decide)) dX4_takeDigits_74 rfl rfl (fun z => False.elim z) (fun _ => ?_)
                    refine j_aload_n (q := 78) (i0 := 0) F rfl dX4_takeDigits_77 rfl ?_
                    refine j_bipush (q := 80) (v := nI 10) F (by decide) dX4_takeDigits_78 rfl ?_
                    refine j_aload_n (q := 81) (i0 := 0) F rfl dX4_takeDigits_80 rfl ?_
                    refine j_get (q := 84) (ci := 4) (q0 := 0) (kf := 5) (v := .int (nI (min ac 100))) F inX4 rfl rfl rfl tw_135 rfl rfl dX4_takeDigits_81 rfl ?_
                    refine j_imul (q := 85) (v := nI (10 * min ac 100)) F (pk_mul _ _) dX4_takeDigits_84 rfl ?_
                    refine j_aload_n (q := 86) (i0 := 0) F rfl dX4_takeDigits_85 rfl ?_
                    refine j_get (q := 89) (ci := 4) (q0 := 0) (kf := 2) (v := .ref x0) F inX4 rfl rfl rfl tw_132 rfl rfl dX4_takeDigits_86 rfl ?_
                    refine j_aload_n (q := 90) (i0 := 0) F rfl dX4_takeDigits_89 rfl ?_
                    refine j_get (q := 93) (ci := 4) (q0 := 0) (kf := 3) (v := .int (nI q)) F inX4 rfl rfl rfl tw_133 rfl rfl dX4_takeDigits_90 rfl ?_
                    refine j_callV (q := 96) (ci := 5) (q0 := 0) (As := [.int (nI q)]) (wr := [(r0, .inr (4, [.ref u0, .int (nI pl), .ref x0, .int (nI q), .int (nI so), .int (nI (min ac 100))]))]) (st := [.int (nI (10 * min ac 100)), .ref r0]) F (c_X5_at G (p := q) hl (by omega)) kwX5_at tw_326 tw_327 tw_325 ⟨Nat.le_of_ble_eq_true rfl, Nat.le_of_ble_eq_true rfl, rfl, rfl, Nat.le_of_ble_eq_true rfl, Nat.le_of_ble_eq_true rfl⟩ [1, 2] [0] rfl rfl rfl rfl rfl rfl rfl rfl rfl (Nat.le_of_ble_eq_true rfl) dX4_takeDigits_93 rfl ?_
                    rintro r_ w_ ⟨rfl, (⟨hat_, rfl⟩ | ⟨hat_, rfl⟩)⟩
                    · skip
                      refine j_w (w' := [(r0, .inr (4, [.ref u0, .int (nI pl), .ref x0, .int (nI q), .int (nI so), .int (nI (min ac 100))])), (x0, .inr (5, [.ref x1, .int (nI ln)])), (x1, .inl (G.2.2.1, 200, .inl (nF bt)))]) [0, 1, 2] rfl rfl ?_
                      show Jw G X _ 0 0 96 _ [.int (nI (bt q)), .int (nI (10 * min ac 100)), .ref r0] _
                      refine j_iadd (q := 97) (v := nI ((10 * min ac 100) + (bt q))) F (nI_add _ _) dX4_takeDigits_96 rfl ?_
                      refine j_bipush (q := 99) (v := nI 48) F (by decide) dX4_takeDigits_97 rfl ?_
                      refine j_isub (q := 100) (v := nI (((10 * min ac 100) + (bt q)) - 48)) F (pk_sub (by omega)) dX4_takeDigits_99 rfl ?_
                      refine j_bipush (q := 102) (v := nI 100) F (by decide) dX4_takeDigits_100 rfl ?_
                      refine j_mmin (q := 105) (v := nI (min (10 * min ac 100 + bt q - 48) 100)) F tw_343 tw_344 tw_48 tw_345 (Nat.le_of_ble_eq_true rfl) (Nat.le_of_ble_eq_true rfl) ⟨Nat.le_of_ble_eq_true rfl, Nat.le_of_ble_eq_true rfl⟩ (nI_min (by have := hbt q (by omega); omega) (by omega)) dX4_takeDigits_102 rfl ?_
                      refine j_put (q := 108) (ci := 4) (q0 := 0) (kf := 5) (v := .int (nI (min (10 * min ac 100 + bt q - 48) 100))) (w' := [(r0, .inr (4, [.ref u0, .int (nI pl), .ref x0, .int (nI q), .int (nI so), .int (nI (min (10 * min ac 100 + bt q - 48) 100))])), (x0, .inr (5, [.ref x1, .int (nI ln)])), (x1, .inl (G.2.2.1, 200, .inl (nF bt)))]) F inX4 tyX4_ok nmX4 rfl rfl rfl tw_135 rfl rfl rfl rfl rfl rfl dX4_takeDigits_105 rfl ?_
                      refine j_aload_n (q := 109) (i0 := 0) F rfl dX4_takeDigits_108 rfl ?_
                      refine j_dup (q := 110) F rfl dX4_takeDigits_109 rfl ?_
                      refine j_get (q := 113) (ci := 4) (q0 := 0) (kf := 3) (v := .int (nI q)) F inX4 rfl rfl rfl tw_133 rfl rfl dX4_takeDigits_110 rfl ?_
                      refine j_iconst (q := 114) (v := nI 1) F (by decide) dX4_takeDigits_113 rfl ?_
                      refine j_iadd (q := 115) (v := nI (q + 1)) F (nI_add _ _) dX4_takeDigits_114 rfl ?_
                      refine j_put (q := 118) (ci := 4) (q0 := 0) (kf := 3) (v := .int (nI (q + 1))) (w' := [(r0, .inr (4, [.ref u0, .int (nI pl), .ref x0, .int (nI (q + 1)), .int (nI so), .int (nI (min (10 * min ac 100 + bt q - 48) 100))])), (x0, .inr (5, [.ref x1, .int (nI ln)])), (x1, .inl (G.2.2.1, 200, .inl (nF bt)))]) F inX4 tyX4_ok nmX4 rfl rfl rfl tw_133 rfl rfl rfl rfl rfl rfl dX4_takeDigits_115 rfl ?_
                      refine j_goto (t := 46) F dX4_takeDigits_118 rfl ?_
                      rw [show min (10 * min ac 100 + bt q - 48) 100 = min (if 99 < ac then ac else 10 * ac + bt q - 48) 100 from by split <;> omega]
                      refine j_lv [0, 1] (lv' := [(0, .ref r0), (1, .int (nI 1))]) rfl ?_
                      exact ih11 (q + 1) _ (by omega) (by omega) ((dEn_yes (by omega) hD2).symm.trans hqe) ((dVl_yes (by omega) hD2).symm.trans hqv) (by omega)
                    · skip
                      exact absurd hat_ (by omega)
                  · skip
                    refine j_w (w' := [(r0, .inr (4, [.ref u0, .int (nI pl), .ref x0, .int (nI q), .int (nI so), .int (nI (min ac 100))])), (x0, .inr (5, [.ref x1, .int (nI ln)])), (x1, .inl (G.2.2.1, 200, .inl (nF bt)))]) [0, 1, 2] rfl rfl ?_
                    show Jw G X _ 0 0 74 _ [.int (nI 0)] _
                    refine j_if_eq (q := 77) (t := 121) F (ct (by decide)) dX4_takeDigits_74 rfl rfl (fun _ => ?_) (fun z => absurd trivial z)
                    refine j_aload_n (q := 122) (i0 := 0) F rfl dX4_takeDigits_121 rfl ?_
                    refine j_iload_n (q := 123) (i0 := 1) F rfl dX4_takeDigits_122 rfl ?_
                    refine j_if_ne (q := 126) (t := 135) F (cf (by decide)) dX4_takeDigits_123 rfl rfl (fun _ => ?_) (fun z => False.elim z)
                    refine j_iconst (q := 136) (v := nI 4) F (by decide) dX4_takeDigits_135 rfl ?_
                    refine j_goto (t := 140) F dX4_takeDigits_136 rfl ?_
                    refine j_put (q := 143) (ci := 4) (q0 := 0) (kf := 4) (v := .int (nI 4)) (w' := [(r0, .inr (4, [.ref u0, .int (nI pl), .ref x0, .int (nI q), .int (nI 4), .int (nI (min ac 100))])), (x0, .inr (5, [.ref x1, .int (nI ln)])), (x1, .inl (G.2.2.1, 200, .inl (nF bt)))]) F inX4 tyX4_ok nmX4 rfl rfl rfl tw_134 rfl rfl rfl rfl rfl rfl dX4_takeDigits_140 rfl ?_
                    exact j_vret (w2 := [(r0, .inr (4, [.ref u0, .int (nI pl), .ref x0, .int (nI q), .int (nI 4), .int (nI (min ac 100))])), (x0, .inr (5, [.ref x1, .int (nI ln)])), (x1, .inl (G.2.2.1, 200, .inl (nF bt)))]) F R0 rfl [0, 1, 2] rfl rfl (by have e1 := dEn_no (bt := bt) (ln := ln) (p := q) (fun z => hD2 z.2); have e2 := dVl_no (bt := bt) (ln := ln) (p := q) (v := ac) (fun z => hD2 z.2); rw [← hqe, e1]; exact ⟨_, _, Or.inr ⟨rfl, Or.inr (by rw [← hqe, e1] at hz; exact hz)⟩, rfl, rfl⟩) dX4_takeDigits_143
                · skip
                  exact absurd hat_ (by omega)
          refine j_lv [1, 0] (lv' := [(0, .ref r0), (1, .int (nI 1))]) rfl ?_
          exact lp11 _ b 0 (Nat.le_refl b) (by omega) rfl rfl (Nat.lt_succ_self _)
        · skip
          refine j_w (w' := [(r0, .inr (4, [.ref u0, .int (nI pl), .ref x0, .int (nI b), .int (nI so), .int va])), (x0, .inr (5, [.ref x1, .int (nI ln)])), (x1, .inl (G.2.2.1, 200, .inl (nF bt)))]) [0, 1, 2] rfl rfl ?_
          show Jw G X _ 0 0 32 _ [.int (nI 0)] _
          refine j_if_eq (q := 35) (t := 39) F (ct (by decide)) dX4_takeDigits_32 rfl rfl (fun _ => ?_) (fun z => absurd trivial z)
          refine j_iconst (q := 40) (v := nI 0) F (by decide) dX4_takeDigits_39 rfl ?_
          refine j_istore_n (q := 41) (lv' := [(1, .int (nI 0)), (0, .ref r0)]) F dX4_takeDigits_40 (by decide) rfl rfl ?_
          have hz : ¬ (1 < dEn bt ln b - b ∧ bt b = 48) := by
            have h1 := dEn_yes hb hD
            have h2 := dEn_no (bt := bt) (ln := ln) (p := b + 1) (fun z => hD1 z.2)
            omega
          refine j_aload_n (q := 42) (i0 := 1) F rfl dX4_takeDigits_41 rfl ?_
          refine j_iconst (q := 43) (v := nI 0) F (by decide) dX4_takeDigits_42 rfl ?_
          refine j_put (q := 46) (ci := 4) (q0 := 0) (kf := 5) (v := .int (nI 0)) (w' := [(r0, .inr (4, [.ref u0, .int (nI pl), .ref x0, .int (nI b), .int (nI so), .int (nI 0)])), (x0, .inr (5, [.ref x1, .int (nI ln)])), (x1, .inl (G.2.2.1, 200, .inl (nF bt)))]) F inX4 tyX4_ok nmX4 rfl rfl rfl tw_135 rfl rfl rfl rfl rfl rfl dX4_takeDigits_43 rfl ?_
          have lp18 : ∀ (fu : Nat) (q : Nat) (ac : Nat) (hq1 : b ≤ q) (hq2 : q ≤ ln) (hqe : dEn bt ln q = dEn bt ln b) (hqv : dVl bt ln q ac = dVl bt ln b 0), (ln - q) < fu → Jw G X 2 0 0 46 [(0, .ref r0), (1, .int (nI 0))] [] [(r0, .inr (4, [.ref u0, .int (nI pl), .ref x0, .int (nI q), .int (nI so), .int (nI (min ac 100))])), (x0, .inr (5, [.ref x1, .int (nI ln)])), (x1, .inl (G.2.2.1, 200, .inl (nF bt)))] := by
            intro fu
            induction fu with
            | zero => intro q ac hq1 hq2 hqe hqv hfu; exact absurd hfu (Nat.not_lt_zero _)
            | succ fu ih18 =>
              intro q ac hq1 hq2 hqe hqv hfu
              refine j_aload_n (q := 47) (i0 := 0) F rfl dX4_takeDigits_46 rfl ?_
              refine j_get (q := 50) (ci := 4) (q0 := 0) (kf := 3) (v := .int (nI q)) F inX4 rfl rfl rfl tw_133 rfl rfl dX4_takeDigits_47 rfl ?_
              refine j_aload_n (q := 51) (i0 := 0) F rfl dX4_takeDigits_50 rfl ?_
              refine j_get (q := 54) (ci := 4) (q0 := 0) (kf := 2) (v := .ref x0) F inX4 rfl rfl rfl tw_132 rfl rfl dX4_takeDigits_51 rfl ?_
              refine j_get (q := 57) (ci := 5) (q0 := 1) (kf := 1) (v := .int (nI ln)) F inX5 rfl rfl rfl tw_68 rfl rfl dX4_takeDigits_54 rfl ?_
              refine j_icmp_ge (q := 60) (t := 121) F (Pp := ln ≤ q) (nI_leI (by omega) (by omega)) dX4_takeDigits_57 rfl rfl (fun c19 => ?_) (fun c19 => ?_)
              · skip
                refine j_aload_n (q := 122) (i0 := 0) F rfl dX4_takeDigits_121 rfl ?_
                refine j_iload_n (q := 123) (i0 := 1) F rfl dX4_takeDigits_122 rfl ?_
                refine j_if_ne (q := 126) (t := 135) F (ct (by decide)) dX4_takeDigits_123 rfl rfl (fun z => absurd trivial z) (fun _ => ?_)
                refine j_aload_n (q := 127) (i0 := 0) F rfl dX4_takeDigits_126 rfl ?_
                refine j_get (q := 130) (ci := 4) (q0 := 0) (kf := 5) (v := .int (nI (min ac 100))) F inX4 rfl rfl rfl tw_135 rfl rfl dX4_takeDigits_127 rfl ?_
                refine j_bipush (q := 132) (v := nI 99) F (by decide) dX4_takeDigits_130 rfl ?_
                refine j_icmp_le (q := 135) (t := 139) F (Pp := min ac 100 ≤ 99) (nI_leI (by omega) (by omega)) dX4_takeDigits_132 rfl rfl (fun c21 => ?_) (fun c21 => ?_)
                · skip
                  refine j_iconst (q := 140) (v := nI 2) F (by decide) dX4_takeDigits_139 rfl ?_
                  refine j_put (q := 143) (ci := 4) (q0 := 0) (kf := 4) (v := .int (nI 2)) (w' := [(r0, .inr (4, [.ref u0, .int (nI pl), .ref x0, .int (nI q), .int (nI 2), .int (nI (min ac 100))])), (x0, .inr (5, [.ref x1, .int (nI ln)])), (x1, .inl (G.2.2.1, 200, .inl (nF bt)))]) F inX4 tyX4_ok nmX4 rfl rfl rfl tw_134 rfl rfl rfl rfl rfl rfl dX4_takeDigits_140 rfl ?_
                  exact j_vret (w2 := [(r0, .inr (4, [.ref u0, .int (nI pl), .ref x0, .int (nI q), .int (nI 2), .int (nI (min ac 100))])), (x0, .inr (5, [.ref x1, .int (nI ln)])), (x1, .inl (G.2.2.1, 200, .inl (nF bt)))]) F R0 rfl [0, 1, 2] rfl rfl (by have e1 := dEn_no (bt := bt) (ln := ln) (p := q) (fun z => by omega); have e2 := dVl_no (bt := bt) (ln := ln) (p := q) (v := ac) (fun z => by omega); rw [← hqe, e1]; exact ⟨_, _, Or.inl ⟨rfl, by rw [← hqv, e2]; congr 1; omega, fun z => z.elim (fun y => by rw [← hqv, e2] at y; omega) (fun y => hz (by rw [← hqe, e1]; exact y))⟩, rfl, rfl⟩) dX4_takeDigits_143
                · skip
                  refine j_iconst (q := 136) (v := nI 4) F (by decide) dX4_takeDigits_135 rfl ?_
                  refine j_goto (t := 140) F dX4_takeDigits_136 rfl ?_
                  refine j_put (q := 143) (ci := 4) (q0 := 0) (kf := 4) (v := .int (nI 4)) (w' := [(r0, .inr (4, [.ref u0, .int (nI pl), .ref x0, .int (nI q), .int (nI 4), .int (nI (min ac 100))])), (x0, .inr (5, [.ref x1, .int (nI ln)])), (x1, .inl (G.2.2.1, 200, .inl (nF bt)))]) F inX4 tyX4_ok nmX4 rfl rfl rfl tw_134 rfl rfl rfl rfl rfl rfl dX4_takeDigits_140 rfl ?_
                  exact j_vret (w2 := [(r0, .inr (4, [.ref u0, .int (nI pl), .ref x0, .int (nI q), .int (nI 4), .int (nI (min ac 100))])), (x0, .inr (5, [.ref x1, .int (nI ln)])), (x1, .inl (G.2.2.1, 200, .inl (nF bt)))]) F R0 rfl [0, 1, 2] rfl rfl (by have e1 := dEn_no (bt := bt) (ln := ln) (p := q) (fun z => by omega); have e2 := dVl_no (bt := bt) (ln := ln) (p := q) (v := ac) (fun z => by omega); rw [← hqe, e1]; exact ⟨_, _, Or.inr ⟨rfl, Or.inl (by rw [← hqv, e2]; omega)⟩, rfl, rfl⟩) dX4_takeDigits_143
              · skip
                refine j_aload_n (q := 61) (i0 := 0) F rfl dX4_takeDigits_60 rfl ?_
                refine j_get (q := 64) (ci := 4) (q0 := 0) (kf := 2) (v := .ref x0) F inX4 rfl rfl rfl tw_132 rfl rfl dX4_takeDigits_61 rfl ?_
                refine j_aload_n (q := 65) (i0 := 0) F rfl dX4_takeDigits_64 rfl ?_
                refine j_get (q := 68) (ci := 4) (q0 := 0) (kf := 3) (v := .int (nI q)) F inX4 rfl rfl rfl tw_133 rfl rfl dX4_takeDigits_65 rfl ?_
                refine j_callV (q := 71) (ci := 5) (q0 := 0) (As := [.int (nI q)]) (wr := [(r0, .inr (4, [.ref u0, .int (nI pl), .ref x0, .int (nI q), .int (nI so), .int (nI (min ac 100))]))]) (st := []) F (c_X5_at G (p := q) hl (by omega)) kwX5_at tw_326 tw_327 tw_325 ⟨Nat.le_of_ble_eq_true rfl, Nat.le_of_ble_eq_true rfl, rfl, rfl, Nat.le_of_ble_eq_true rfl, Nat.le_of_ble_eq_true rfl⟩ [1, 2] [0] rfl rfl rfl rfl rfl rfl rfl rfl rfl (Nat.le_of_ble_eq_true rfl) dX4_takeDigits_68 rfl ?_
                rintro r_ w_ ⟨rfl, (⟨hat_, rfl⟩ | ⟨hat_, rfl⟩)⟩
                · skip
                  refine j_w (w' := [(r0, .inr (4, [.ref u0, .int (nI pl), .ref x0, .int (nI q), .int (nI so), .int (nI (min ac 100))])), (x0, .inr (5, [.ref x1, .int (nI ln)])), (x1, .inl (G.2.2.1, 200, .inl (nF bt)))]) [0, 1, 2] rfl rfl ?_
                  show Jw G X _ 0 0 71 _ [.int (nI (bt q))] _
                  refine j_callS (q := 74) (As := [.int (nI (bt q))]) (wr := [(r0, .inr (4, [.ref u0, .int (nI pl), .ref x0, .int (nI q), .int (nI so), .int (nI (min ac 100))])), (x0, .inr (5, [.ref x1, .int (nI ln)])), (x1, .inl (G.2.2.1, 200, .inl (nF bt)))]) (st := []) F (c_X4_isDigit G (c := bt q) (hbt q (by omega))) kwX4_isDigit tw_337 tw_336 ⟨Nat.le_of_ble_eq_true rfl, Nat.le_of_ble_eq_true rfl, rfl, rfl, Nat.le_of_ble_eq_true rfl, Nat.le_of_ble_eq_true rfl⟩ [] [0, 1, 2] rfl rfl rfl rfl rfl rfl rfl (Nat.le_of_ble_eq_true rfl) dX4_takeDigits_71 rfl ?_
                  rintro r_ w_ ⟨rfl, (⟨rfl, hD2⟩ | ⟨rfl, hD2⟩)⟩
                  · skip
                    refine j_w (w' := [(r0, .inr (4, [.ref u0, .int (nI pl), .ref x0, .int (nI q), .int (nI so), .int (nI (min ac 100))])), (x0, .inr (5, [.ref x1, .int (nI ln)])), (x1, .inl (G.2.2.1, 200, .inl (nF bt)))]) [0, 1, 2] rfl rfl ?_
                    show Jw G X _ 0 0 74 _ [.int (nI 1)] _
                    refine j_if_eq (q := 77) (t := 121) F (cf (by decide)) dX4_takeDigits_74 rfl rfl (fun z => False.elim z) (fun _ => ?_)
                    refine j_aload_n (q := 78) (i0 := 0) F rfl dX4_takeDigits_77 rfl ?_
                    refine j_bipush (q := 80) (v := nI 10) F (by decide) dX4_takeDigits_78 rfl ?_
                    refine j_aload_n (q := 81) (i0 := 0) F rfl dX4_takeDigits_80 rfl ?_
                    refine j_get (q := 84) (ci := 4) (q0 := 0) (kf := 5) (v := .int (nI (min ac 100))) F inX4 rfl rfl rfl tw_135 rfl rfl dX4_takeDigits_81 rfl ?_
                    refine j_imul (q := 85) (v := nI (10 * min ac 100)) F (pk_mul _ _) dX4_takeDigits_84 rfl ?_
                    refine j_aload_n (q := 86) (i0 := 0) F rfl dX4_takeDigits_85 rfl ?_
                    refine j_get (q := 89) (ci := 4) (q0 := 0) (kf := 2) (v := .ref x0) F inX4 rfl rfl rfl tw_132 rfl rfl dX4_takeDigits_86 rfl ?_
                    refine j_aload_n (q := 90) (i0 := 0) F rfl dX4_takeDigits_89 rfl ?_
                    refine j_get (q := 93) (ci := 4) (q0 := 0) (kf := 3) (v := .int (nI q)) F inX4 rfl rfl rfl tw_133 rfl rfl dX4_takeDigits_90 rfl ?_
                    refine j_callV (q := 96) (ci := 5) (q0 := 0) (As := [.int (nI q)]) (wr := [(r0, .inr (4, [.ref u0, .int (nI pl), .ref x0, .int (nI q), .int (nI so), .int (nI (min ac 100))]))]) (st := [.int (nI (10 * min ac 100)), .ref r0]) F (c_X5_at G (p := q) hl (by omega)) kwX5_at tw_326 tw_327 tw_325 ⟨Nat.le_of_ble_eq_true rfl, Nat.le_of_ble_eq_true rfl, rfl, rfl, Nat.le_of_ble_eq_true rfl, Nat.le_of_ble_eq_true rfl⟩ [1, 2] [0] rfl rfl rfl rfl rfl rfl rfl rfl rfl (Nat.le_of_ble_eq_true rfl) dX4_takeDigits_93 rfl ?_
                    rintro r_ w_ ⟨rfl, (⟨hat_, rfl⟩ | ⟨hat_, rfl⟩)⟩
                    · skip
                      refine j_w (w' := [(r0, .inr (4, [.ref u0, .int (nI pl), .ref x0, .int (nI q), .int (nI so), .int (nI (min ac 100))])), (x0, .inr (5, [.ref x1, .int (nI ln)])), (x1, .inl (G.2.2.1, 200, .inl (nF bt)))]) [0, 1, 2] rfl rfl ?_
                      show Jw G X _ 0 0 96 _ [.int (nI (bt q)), .int (nI (10 * min ac 100)), .ref r0] _
                      refine j_iadd (q := 97) (v := nI ((10 * min ac 100) + (bt q))) F (nI_add _ _) dX4_takeDigits_96 rfl ?_
                      refine j_bipush (q := 99) (v := nI 48) F (by decide) dX4_takeDigits_97 rfl ?_
                      refine j_isub (q := 100) (v := nI (((10 * min ac 100) + (bt q)) - 48)) F (pk_sub (by omega)) dX4_takeDigits_99 rfl ?_
                      refine j_bipush (q := 102) (v := nI 100) F (by decide) dX4_takeDigits_100 rfl ?_
                      refine j_mmin (q := 105) (v := nI (min (10 * min ac 100 + bt q - 48) 100)) F tw_343 tw_344 tw_48 tw_345 (Nat.le_of_ble_eq_true rfl) (Nat.le_of_ble_eq_true rfl) ⟨Nat.le_of_ble_eq_true rfl, Nat.le_of_ble_eq_true rfl⟩ (nI_min (by have := hbt q (by omega); omega) (by omega)) dX4_takeDigits_102 rfl ?_
                      refine j_put (q := 108) (ci := 4) (q0 := 0) (kf := 5) (v := .int (nI (min (10 * min ac 100 + bt q - 48) 100))) (w' := [(r0, .inr (4, [.ref u0, .int (nI pl), .ref x0, .int (nI q), .int (nI so), .int (nI (min (10 * min ac 100 + bt q - 48) 100))])), (x0, .inr (5, [.ref x1, .int (nI ln)])), (x1, .inl (G.2.2.1, 200, .inl (nF bt)))]) F inX4 tyX4_ok nmX4 rfl rfl rfl tw_135 rfl rfl rfl rfl rfl rfl dX4_takeDigits_105 rfl ?_
                      refine j_aload_n (q := 109) (i0 := 0) F rfl dX4_takeDigits_108 rfl ?_
                      refine j_dup (q := 110) F rfl dX4_takeDigits_109 rfl ?_
                      refine j_get (q := 113) (ci := 4) (q0 := 0) (kf := 3) (v := .int (nI q)) F inX4 rfl rfl rfl tw_133 rfl rfl dX4_takeDigits_110 rfl ?_
                      refine j_iconst (q := 114) (v := nI 1) F (by decide) dX4_takeDigits_113 rfl ?_
                      refine j_iadd (q := 115) (v := nI (q + 1)) F (nI_add _ _) dX4_takeDigits_114 rfl ?_
                      refine j_put (q := 118) (ci := 4) (q0 := 0) (kf := 3) (v := .int (nI (q + 1))) (w' := [(r0, .inr (4, [.ref u0, .int (nI pl), .ref x0, .int (nI (q + 1)), .int (nI so), .int (nI (min (10 * min ac 100 + bt q - 48) 100))])), (x0, .inr (5, [.ref x1, .int (nI ln)])), (x1, .inl (G.2.2.1, 200, .inl (nF bt)))]) F inX4 tyX4_ok nmX4 rfl rfl rfl tw_133 rfl rfl rfl rfl rfl rfl dX4_takeDigits_115 rfl ?_
                      refine j_goto (t := 46) F dX4_takeDigits_118 rfl ?_
                      rw [show min (10 * min ac 100 + bt q - 48) 100 = min (if 99 < ac then ac else 10 * ac + bt q - 48) 100 from by split <;> omega]
                      refine j_lv [0, 1] (lv' := [(0, .ref r0), (1, .int (nI 0))]) rfl ?_
                      exact ih18 (q + 1) _ (by omega) (by omega) ((dEn_yes (by omega) hD2).symm.trans hqe) ((dVl_yes (by omega) hD2).symm.trans hqv) (by omega)
                    · skip
                      exact absurd hat_ (by omega)
                  · skip
                    refine j_w (w' := [(r0, .inr (4, [.ref u0, .int (nI pl), .ref x0, .int (nI q), .int (nI so), .int (nI (min ac 100))])), (x0, .inr (5, [.ref x1, .int (nI ln)])), (x1, .inl (G.2.2.1, 200, .inl (nF bt)))]) [0, 1, 2] rfl rfl ?_
                    show Jw G X _ 0 0 74 _ [.int (nI 0)] _
                    refine j_if_eq (q := 77) (t := 121) F (ct (by decide)) dX4_takeDigits_74 rfl rfl (fun _ => ?_) (fun z => absurd trivial z)
                    refine j_aload_n (q := 122) (i0 := 0) F rfl dX4_takeDigits_121 rfl ?_
                    refine j_iload_n (q := 123) (i0 := 1) F rfl dX4_takeDigits_122 rfl ?_
                    refine j_if_ne (q := 126) (t := 135) F (ct (by decide)) dX4_takeDigits_123 rfl rfl (fun z => absurd trivial z) (fun _ => ?_)
                    refine j_aload_n (q := 127) (i0 := 0) F rfl dX4_takeDigits_126 rfl ?_
                    refine j_get (q := 130) (ci := 4) (q0 := 0) (kf := 5) (v := .int (nI (min ac 100))) F inX4 rfl rfl rfl tw_135 rfl rfl dX4_takeDigits_127 rfl ?_
                    refine j_bipush (q := 132) (v := nI 99) F (by decide) dX4_takeDigits_130 rfl ?_
                    refine j_icmp_le (q := 135) (t := 139) F (Pp := min ac 100 ≤ 99) (nI_leI (by omega) (by omega)) dX4_takeDigits_132 rfl rfl (fun c25 => ?_) (fun c25 => ?_)
                    · skip
                      refine j_iconst (q := 140) (v := nI 2) F (by decide) dX4_takeDigits_139 rfl ?_
                      refine j_put (q := 143) (ci := 4) (q0 := 0) (kf := 4) (v := .int (nI 2)) (w' := [(r0, .inr (4, [.ref u0, .int (nI pl), .ref x0, .int (nI q), .int (nI 2), .int (nI (min ac 100))])), (x0, .inr (5, [.ref x1, .int (nI ln)])), (x1, .inl (G.2.2.1, 200, .inl (nF bt)))]) F inX4 tyX4_ok nmX4 rfl rfl rfl tw_134 rfl rfl rfl rfl rfl rfl dX4_takeDigits_140 rfl ?_
                      exact j_vret (w2 := [(r0, .inr (4, [.ref u0, .int (nI pl), .ref x0, .int (nI q), .int (nI 2), .int (nI (min ac 100))])), (x0, .inr (5, [.ref x1, .int (nI ln)])), (x1, .inl (G.2.2.1, 200, .inl (nF bt)))]) F R0 rfl [0, 1, 2] rfl rfl (by have e1 := dEn_no (bt := bt) (ln := ln) (p := q) (fun z => hD2 z.2); have e2 := dVl_no (bt := bt) (ln := ln) (p := q) (v := ac) (fun z => hD2 z.2); rw [← hqe, e1]; exact ⟨_, _, Or.inl ⟨rfl, by rw [← hqv, e2]; congr 1; omega, fun z => z.elim (fun y => by rw [← hqv, e2] at y; omega) (fun y => hz (by rw [← hqe, e1]; exact y))⟩, rfl, rfl⟩) dX4_takeDigits_143
                    · skip
                      refine j_iconst (q := 136) (v := nI 4) F (by decide) dX4_takeDigits_135 rfl ?_
                      refine j_goto (t := 140) F dX4_takeDigits_136 rfl ?_
                      refine j_put (q := 143) (ci := 4) (q0 := 0) (kf := 4) (v := .int (nI 4)) (w' := [(r0, .inr (4, [.ref u0, .int (nI pl), .ref x0, .int (nI q), .int (nI 4), .int (nI (min ac 100))])), (x0, .inr (5, [.ref x1, .int (nI ln)])), (x1, .inl (G.2.2.1, 200, .inl (nF bt)))]) F inX4 tyX4_ok nmX4 rfl rfl rfl tw_134 rfl rfl rfl rfl rfl rfl dX4_takeDigits_140 rfl ?_
                      exact j_vret (w2 := [(r0, .inr (4, [.ref u0, .int (nI pl), .ref x0, .int (nI q), .int (nI 4), .int (nI (min ac 100))])), (x0, .inr (5, [.ref x1, .int (nI ln)])), (x1, .inl (G.2.2.1, 200, .inl (nF bt)))]) F R0 rfl [0, 1, 2] rfl rfl (by have e1 := dEn_no (bt := bt) (ln := ln) (p := q) (fun z => hD2 z.2); have e2 := dVl_no (bt := bt) (ln := ln) (p := q) (v := ac) (fun z => hD2 z.2); rw [← hqe, e1]; exact ⟨_, _, Or.inr ⟨rfl, Or.inl (by rw [← hqv, e2]; omega)⟩, rfl, rfl⟩) dX4_takeDigits_143
                · skip
                  exact absurd hat_ (by omega)
          refine j_lv [1, 0] (lv' := [(0, .ref r0), (1, .int (nI 0))]) rfl ?_
          exact lp18 _ b 0 (Nat.le_refl b) (by omega) rfl rfl (Nat.lt_succ_self _)
      · skip
        refine j_w (w' := [(r0, .inr (4, [.ref u0, .int (nI pl), .ref x0, .int (nI b), .int (nI so), .int va])), (x0, .inr (5, [.ref x1, .int (nI ln)])), (x1, .inl (G.2.2.1, 200, .inl (nF bt)))]) [0, 1, 2] rfl rfl ?_
        show Jw G X _ 0 0 29 _ [.int (-1)] _
        refine j_callS (q := 32) (As := [.int (-1)]) (wr := [(r0, .inr (4, [.ref u0, .int (nI pl), .ref x0, .int (nI b), .int (nI so), .int va])), (x0, .inr (5, [.ref x1, .int (nI ln)])), (x1, .inl (G.2.2.1, 200, .inl (nF bt)))]) (st := []) F (c_X4_isDigit_m G) kwX4_isDigit tw_337 tw_336 ⟨Nat.le_of_ble_eq_true rfl, Nat.le_of_ble_eq_true rfl, rfl, rfl, Nat.le_of_ble_eq_true rfl, Nat.le_of_ble_eq_true rfl⟩ [] [0, 1, 2] rfl rfl rfl rfl rfl rfl rfl (Nat.le_of_ble_eq_true rfl) dX4_takeDigits_29 rfl ?_
        rintro r_ w_ ⟨rfl, rfl⟩
        refine j_w (w' := [(r0, .inr (4, [.ref u0, .int (nI pl), .ref x0, .int (nI b), .int (nI so), .int va])), (x0, .inr (5, [.ref x1, .int (nI ln)])), (x1, .inl (G.2.2.1, 200, .inl (nF bt)))]) [0, 1, 2] rfl rfl ?_
        show Jw G X _ 0 0 32 _ [.int (nI 0)] _
        refine j_if_eq (q := 35) (t := 39) F (ct (by decide)) dX4_takeDigits_32 rfl rfl (fun _ => ?_) (fun z => absurd trivial z)
        refine j_iconst (q := 40) (v := nI 0) F (by decide) dX4_takeDigits_39 rfl ?_
        refine j_istore_n (q := 41) (lv' := [(1, .int (nI 0)), (0, .ref r0)]) F dX4_takeDigits_40 (by decide) rfl rfl ?_
        have hz : ¬ (1 < dEn bt ln b - b ∧ bt b = 48) := by
          have h1 := dEn_yes hb hD
          have h2 := dEn_no (bt := bt) (ln := ln) (p := b + 1) (by omega)
          omega
        refine j_aload_n (q := 42) (i0 := 1) F rfl dX4_takeDigits_41 rfl ?_
        refine j_iconst (q := 43) (v := nI 0) F (by decide) dX4_takeDigits_42 rfl ?_
        refine j_put (q := 46) (ci := 4) (q0 := 0) (kf := 5) (v := .int (nI 0)) (w' := [(r0, .inr (4, [.ref u0, .int (nI pl), .ref x0, .int (nI b), .int (nI so), .int (nI 0)])), (x0, .inr (5, [.ref x1, .int (nI ln)])), (x1, .inl (G.2.2.1, 200, .inl (nF bt)))]) F inX4 tyX4_ok nmX4 rfl rfl rfl tw_135 rfl rfl rfl rfl rfl rfl dX4_takeDigits_43 rfl ?_
        have lp27 : ∀ (fu : Nat) (q : Nat) (ac : Nat) (hq1 : b ≤ q) (hq2 : q ≤ ln) (hqe : dEn bt ln q = dEn bt ln b) (hqv : dVl bt ln q ac = dVl bt ln b 0), (ln - q) < fu → Jw G X 2 0 0 46 [(0, .ref r0), (1, .int (nI 0))] [] [(r0, .inr (4, [.ref u0, .int (nI pl), .ref x0, .int (nI q), .int (nI so), .int (nI (min ac 100))])), (x0, .inr (5, [.ref x1, .int (nI ln)])), (x1, .inl (G.2.2.1, 200, .inl (nF bt)))] := by
          intro fu
          induction fu with
          | zero => intro q ac hq1 hq2 hqe hqv hfu; exact absurd hfu (Nat.not_lt_zero _)
          | succ fu ih27 =>
            intro q ac hq1 hq2 hqe hqv hfu
            refine j_aload_n (q := 47) (i0 := 0) F rfl dX4_takeDigits_46 rfl ?_
            refine j_get (q := 50) (ci := 4) (q0 := 0) (kf := 3) (v := .int (nI q)) F inX4 rfl rfl rfl tw_133 rfl rfl dX4_takeDigits_47 rfl ?_
            refine j_aload_n (q := 51) (i0 := 0) F rfl dX4_takeDigits_50 rfl ?_
            refine j_get (q := 54) (ci := 4) (q0 := 0) (kf := 2) (v := .ref x0) F inX4 rfl rfl rfl tw_132 rfl rfl dX4_takeDigits_51 rfl ?_
            refine j_get (q := 57) (ci := 5) (q0 := 1) (kf := 1) (v := .int (nI ln)) F inX5 rfl rfl rfl tw_68 rfl rfl dX4_takeDigits_54 rfl ?_
            refine j_icmp_ge (q := 60) (t := 121) F (Pp := ln ≤ q) (nI_leI (by omega) (by omega)) dX4_takeDigits_57 rfl rfl (fun c28 => ?_) (fun c28 => ?_)
            · skip
              refine j_aload_n (q := 122) (i0 := 0) F rfl dX4_takeDigits_121 rfl ?_
              refine j_iload_n (q := 123) (i0 := 1) F rfl dX4_takeDigits_122 rfl ?_
              refine j_if_ne (q := 126) (t := 135) F (ct (by decide)) dX4_takeDigits_123 rfl rfl (fun z => absurd trivial z) (fun _ => ?_)
              refine j_aload_n (q := 127) (i0 := 0) F rfl dX4_takeDigits_126 rfl ?_
              refine j_get (q := 130) (ci := 4) (q0 := 0) (kf := 5) (v := .int (nI (min ac 100))) F inX4 rfl rfl rfl tw_135 rfl rfl dX4_takeDigits_127 rfl ?_
              refine j_bipush (q := 132) (v := nI 99) F (by decide) dX4_takeDigits_130 rfl ?_
              refine j_icmp_le (q := 135) (t := 139) F (Pp := min ac 100 ≤ 99) (nI_leI (by omega) (by omega)) dX4_takeDigits_132 rfl rfl (fun c30 => ?_) (fun c30 => ?_)
              · skip
                refine j_iconst (q := 140) (v := nI 2) F (by decide) dX4_takeDigits_139 rfl ?_
                refine j_put (q := 143) (ci := 4) (q0 := 0) (kf := 4) (v := .int (nI 2)) (w' := [(r0, .inr (4, [.ref u0, .int (nI pl), .ref x0, .int (nI q), .int (nI 2), .int (nI (min ac 100))])), (x0, .inr (5, [.ref x1, .int (nI ln)])), (x1, .inl (G.2.2.1, 200, .inl (nF bt)))]) F inX4 tyX4_ok nmX4 rfl rfl rfl tw_134 rfl rfl rfl rfl rfl rfl dX4_takeDigits_140 rfl ?_
                exact j_vret (w2 := [(r0, .inr (4, [.ref u0, .int (nI pl), .ref x0, .int (nI q), .int (nI 2), .int (nI (min ac 100))])), (x0, .inr (5, [.ref x1, .int (nI ln)])), (x1, .inl (G.2.2.1, 200, .inl (nF bt)))]) F R0 rfl [0, 1, 2] rfl rfl (by have e1 := dEn_no (bt := bt) (ln := ln) (p := q) (fun z => by omega); have e2 := dVl_no (bt := bt) (ln := ln) (p := q) (v := ac) (fun z => by omega); rw [← hqe, e1]; exact ⟨_, _, Or.inl ⟨rfl, by rw [← hqv, e2]; congr 1; omega, fun z => z.elim (fun y => by rw [← hqv, e2] at y; omega) (fun y => hz (by rw [← hqe, e1]; exact y))⟩, rfl, rfl⟩) dX4_takeDigits_143
              · skip
                refine j_iconst (q := 136) (v := nI 4) F (by decide) dX4_takeDigits_135 rfl ?_
                refine j_goto (t := 140) F dX4_takeDigits_136 rfl ?_
                refine j_put (q := 143) (ci := 4) (q0 := 0) (kf := 4) (v := .int (nI 4)) (w' := [(r0, .inr (4, [.ref u0, .int (nI pl), .ref x0, .int (nI q), .int (nI 4), .int (nI (min ac 100))])), (x0, .inr (5, [.ref x1, .int (nI ln)])), (x1, .inl (G.2.2.1, 200, .inl (nF bt)))]) F inX4 tyX4_ok nmX4 rfl rfl rfl tw_134 rfl rfl rfl rfl rfl rfl dX4_takeDigits_140 rfl ?_
                exact j_vret (w2 := [(r0, .inr (4, [.ref u0, .int (nI pl), .ref x0, .int (nI q), .int (nI 4), .int (nI (min ac 100))])), (x0, .inr (5, [.ref x1, .int (nI ln)])), (x1, .inl (G.2.2.1, 200, .inl (nF bt)))]) F R0 rfl [0, 1, 2] rfl rfl (by have e1 := dEn_no (bt := bt) (ln := ln) (p := q) (fun z => by omega); have e2 := dVl_no (bt := bt) (ln := ln) (p := q) (v := ac) (fun z => by omega); rw [← hqe, e1]; exact ⟨_, _, Or.inr ⟨rfl, Or.inl (by rw [← hqv, e2]; omega)⟩, rfl, rfl⟩) dX4_takeDigits_143
            · skip
              refine j_aload_n (q := 61) (i0 := 0) F rfl dX4_takeDigits_60 rfl ?_
              refine j_get (q := 64) (ci := 4) (q0 := 0) (kf := 2) (v := .ref x0) F inX4 rfl rfl rfl tw_132 rfl rfl dX4_takeDigits_61 rfl ?_
              refine j_aload_n (q := 65) (i0 := 0) F rfl dX4_takeDigits_64 rfl ?_
              refine j_get (q := 68) (ci := 4) (q0 := 0) (kf := 3) (v := .int (nI q)) F inX4 rfl rfl rfl tw_133 rfl rfl dX4_takeDigits_65 rfl ?_
              refine j_callV (q := 71) (ci := 5) (q0 := 0) (As := [.int (nI q)]) (wr := [(r0, .inr (4, [.ref u0, .int (nI pl), .ref x0, .int (nI q), .int (nI so), .int (nI (min ac 100))]))]) (st := []) F (c_X5_at G (p := q) hl (by omega)) kwX5_at tw_326 tw_327 tw_325 ⟨Nat.le_of_ble_eq_true rfl, Nat.le_of_ble_eq_true rfl, rfl, rfl, Nat.le_of_ble_eq_true rfl, Nat.le_of_ble_eq_true rfl⟩ [1, 2] [0] rfl rfl rfl rfl rfl rfl rfl rfl rfl (Nat.le_of_ble_eq_true rfl) dX4_takeDigits_68 rfl ?_
              rintro r_ w_ ⟨rfl, (⟨hat_, rfl⟩ | ⟨hat_, rfl⟩)⟩
              · skip
                refine j_w (w' := [(r0, .inr (4, [.ref u0, .int (nI pl), .ref x0, .int (nI q), .int (nI so), .int (nI (min ac 100))])), (x0, .inr (5, [.ref x1, .int (nI ln)])), (x1, .inl (G.2.2.1, 200, .inl (nF bt)))]) [0, 1, 2] rfl rfl ?_
                show Jw G X _ 0 0 71 _ [.int (nI (bt q))] _
                refine j_callS (q := 74) (As := [.int (nI (bt q))]) (wr := [(r0, .inr (4, [.ref u0, .int (nI pl), .ref x0, .int (nI q), .int (nI so), .int (nI (min ac 100))])), (x0, .inr (5, [.ref x1, .int (nI ln)])), (x1, .inl (G.2.2.1, 200, .inl (nF bt)))]) (st := []) F (c_X4_isDigit G (c := bt q) (hbt q (by omega))) kwX4_isDigit tw_337 tw_336 ⟨Nat.le_of_ble_eq_true rfl, Nat.le_of_ble_eq_true rfl, rfl, rfl, Nat.le_of_ble_eq_true rfl, Nat.le_of_ble_eq_true rfl⟩ [] [0, 1, 2] rfl rfl rfl rfl rfl rfl rfl (Nat.le_of_ble_eq_true rfl) dX4_takeDigits_71 rfl ?_
                rintro r_ w_ ⟨rfl, (⟨rfl, hD2⟩ | ⟨rfl, hD2⟩)⟩
                · skip
                  refine j_w (w' := [(r0, .inr (4, [.ref u0, .int (nI pl), .ref x0, .int (nI q), .int (nI so), .int (nI (min ac 100))])), (x0, .inr (5, [.ref x1, .int (nI ln)])), (x1, .inl (G.2.2.1, 200, .inl (nF bt)))]) [0, 1, 2] rfl rfl ?_
                  show Jw G X _ 0 0 74 _ [.int (nI 1)] _
                  refine j_if_eq (q := 77) (t := 121) F (cf (by decide)) dX4_takeDigits_74 rfl rfl (fun z => False.elim z) (fun _ => ?_)
                  refine j_aload_n (q := 78) (i0 := 0) F rfl dX4_takeDigits_77 rfl ?_
                  refine j_bipush (q := 80) (v := nI 10) F (by decide) dX4_takeDigits_78 rfl ?_
                  refine j_aload_n (q := 81) (i0 := 0) F rfl dX4_takeDigits_80 rfl ?_
                  refine j_get (q := 84) (ci := 4) (q0 := 0) (kf := 5) (v := .int (nI (min ac 100))) F inX4 rfl rfl rfl tw_135 rfl rfl dX4_takeDigits_81 rfl ?_
                  refine j_imul (q := 85) (v := nI (10 * min ac 100)) F (pk_mul _ _) dX4_takeDigits_84 rfl ?_
                  refine j_aload_n (q := 86) (i0 := 0) F rfl dX4_takeDigits_85 rfl ?_
                  refine j_get (q := 89) (ci := 4) (q0 := 0) (kf := 2) (v := .ref x0) F inX4 rfl rfl rfl tw_132 rfl rfl dX4_takeDigits_86 rfl ?_
                  refine j_aload_n (q := 90) (i0 := 0) F rfl dX4_takeDigits_89 rfl ?_
                  refine j_get (q := 93) (ci := 4) (q0 := 0) (kf := 3) (v := .int (nI q)) F inX4 rfl rfl rfl tw_133 rfl rfl dX4_takeDigits_90 rfl ?_
                  refine j_callV (q := 96) (ci := 5) (q0 := 0) (As := [.int (nI q)]) (wr := [(r0, .inr (4, [.ref u0, .int (nI pl), .ref x0, .int (nI q), .int (nI so), .int (nI (min ac 100))]))]) (st := [.int (nI (10 * min ac 100)), .ref r0]) F (c_X5_at G (p := q) hl (by omega)) kwX5_at tw_326 tw_327 tw_325 ⟨Nat.le_of_ble_eq_true rfl, Nat.le_of_ble_eq_true rfl, rfl, rfl, Nat.le_of_ble_eq_true rfl, Nat.le_of_ble_eq_true rfl⟩ [1, 2] [0] rfl rfl rfl rfl rfl rfl rfl rfl rfl (Nat.le_of_ble_eq_true rfl) dX4_takeDigits_93 rfl ?_
                  rintro r_ w_ ⟨rfl, (⟨hat_, rfl⟩ | ⟨hat_, rfl⟩)⟩
                  · skip
                    refine j_w (w' := [(r0, .inr (4, [.ref u0, .int (nI pl), .ref x0, .int (nI q), .int (nI so), .int (nI (min ac 100))])), (x0, .inr (5, [.ref x1, .int (nI ln)])), (x1, .inl (G.2.2.1, 200, .inl (nF bt)))]) [0, 1, 2] rfl rfl ?_
                    show Jw G X _ 0 0 96 _ [.int (nI (bt q)), .int (nI (10 * min ac 100)), .ref r0] _
                    refine j_iadd (q := 97) (v := nI ((10 * min ac 100) + (bt q))) F (nI_add _ _) dX4_takeDigits_96 rfl ?_
                    refine j_bipush (q := 99) (v := nI 48) F (by decide) dX4_takeDigits_97 rfl ?_
                    refine j_isub (q := 100) (v := nI (((10 * min ac 100) + (bt q)) - 48)) F (pk_sub (by omega)) dX4_takeDigits_99 rfl ?_
                    refine j_bipush (q := 102) (v := nI 100) F (by decide) dX4_takeDigits_100 rfl ?_
                    refine j_mmin (q := 105) (v := nI (min (10 * min ac 100 + bt q - 48) 100)) F tw_343 tw_344 tw_48 tw_345 (Nat.le_of_ble_eq_true rfl) (Nat.le_of_ble_eq_true rfl) ⟨Nat.le_of_ble_eq_true rfl, Nat.le_of_ble_eq_true rfl⟩ (nI_min (by have := hbt q (by omega); omega) (by omega)) dX4_takeDigits_102 rfl ?_
                    refine j_put (q := 108) (ci := 4) (q0 := 0) (kf := 5) (v := .int (nI (min (10 * min ac 100 + bt q - 48) 100))) (w' := [(r0, .inr (4, [.ref u0, .int (nI pl), .ref x0, .int (nI q), .int (nI so), .int (nI (min (10 * min ac 100 + bt q - 48) 100))])), (x0, .inr (5, [.ref x1, .int (nI ln)])), (x1, .inl (G.2.2.1, 200, .inl (nF bt)))]) F inX4 tyX4_ok nmX4 rfl rfl rfl tw_135 rfl rfl rfl rfl rfl rfl dX4_takeDigits_105 rfl ?_
                    refine j_aload_n (q := 109) (i0 := 0) F rfl dX4_takeDigits_108 rfl ?_
                    refine j_dup (q := 110) F rfl dX4_takeDigits_109 rfl ?_
                    refine j_get (q := 113) (ci := 4) (q0 := 0) (kf := 3) (v := .int (nI q)) F inX4 rfl rfl rfl tw_133 rfl rfl dX4_takeDigits_110 rfl ?_
                    refine j_iconst (q := 114) (v := nI 1) F (by decide) dX4_takeDigits_113 rfl ?_
                    refine j_iadd (q := 115) (v := nI (q + 1)) F (nI_add _ _) dX4_takeDigits_114 rfl ?_
                    refine j_put (q := 118) (ci := 4) (q0 := 0) (kf := 3) (v := .int (nI (q + 1))) (w' := [(r0, .inr (4, [.ref u0, .int (nI pl), .ref x0, .int (nI (q + 1)), .int (nI so), .int (nI (min (10 * min ac 100 + bt q - 48) 100))])), (x0, .inr (5, [.ref x1, .int (nI ln)])), (x1, .inl (G.2.2.1, 200, .inl (nF bt)))]) F inX4 tyX4_ok nmX4 rfl rfl rfl tw_133 rfl rfl rfl rfl rfl rfl dX4_takeDigits_115 rfl ?_
                    refine j_goto (t := 46) F dX4_takeDigits_118 rfl ?_
                    rw [show min (10 * min ac 100 + bt q - 48) 100 = min (if 99 < ac then ac else 10 * ac + bt q - 48) 100 from by split <;> omega]
                    refine j_lv [0, 1] (lv' := [(0, .ref r0), (1, .int (nI 0))]) rfl ?_
                    exact ih27 (q + 1) _ (by omega) (by omega) ((dEn_yes (by omega) hD2).symm.trans hqe) ((dVl_yes (by omega) hD2).symm.trans hqv) (by omega)
                  · skip
                    exact absurd hat_ (by omega)
                · skip
                  refine j_w (w' := [(r0, .inr (4, [.ref u0, .int (nI pl), .ref x0, .int (nI q), .int (nI so), .int (nI (min ac 100))])), (x0, .inr (5, [.ref x1, .int (nI ln)])), (x1, .inl (G.2.2.1, 200, .inl (nF bt)))]) [0, 1, 2] rfl rfl ?_
                  show Jw G X _ 0 0 74 _ [.int (nI 0)] _
                  refine j_if_eq (q := 77) (t := 121) F (ct (by decide)) dX4_takeDigits_74 rfl rfl (fun _ => ?_) (fun z => absurd trivial z)
                  refine j_aload_n (q := 122) (i0 := 0) F rfl dX4_takeDigits_121 rfl ?_
                  refine j_iload_n (q := 123) (i0 := 1) F rfl dX4_takeDigits_122 rfl ?_
                  refine j_if_ne (q := 126) (t := 135) F (ct (by decide)) dX4_takeDigits_123 rfl rfl (fun z => absurd trivial z) (fun _ => ?_)
                  refine j_aload_n (q := 127) (i0 := 0) F rfl dX4_takeDigits_126 rfl ?_
                  refine j_get (q := 130) (ci := 4) (q0 := 0) (kf := 5) (v := .int (nI (min ac 100))) F inX4 rfl rfl rfl tw_135 rfl rfl dX4_takeDigits_127 rfl ?_
                  refine j_bipush (q := 132) (v := nI 99) F (by decide) dX4_takeDigits_130 rfl ?_
                  refine j_icmp_le (q := 135) (t := 139) F (Pp := min ac 100 ≤ 99) (nI_leI (by omega) (by omega)) dX4_takeDigits_132 rfl rfl (fun c34 => ?_) (fun c34 => ?_)
                  · skip
                    refine j_iconst (q := 140) (v := nI 2) F (by decide) dX4_takeDigits_139 rfl ?_
                    refine j_put (q := 143) (ci := 4) (q0 := 0) (kf := 4) (v := .int (nI 2)) (w' := [(r0, .inr (4, [.ref u0, .int (nI pl), .ref x0, .int (nI q), .int (nI 2), .int (nI (min ac 100))])), (x0, .inr (5, [.ref x1, .int (nI ln)])), (x1, .inl (G.2.2.1, 200, .inl (nF bt)))]) F inX4 tyX4_ok nmX4 rfl rfl rfl tw_134 rfl rfl rfl rfl rfl rfl dX4_takeDigits_140 rfl ?_
                    exact j_vret (w2 := [(r0, .inr (4, [.ref u0, .int (nI pl), .ref x0, .int (nI q), .int (nI 2), .int (nI (min ac 100))])), (x0, .inr (5, [.ref x1, .int (nI ln)])), (x1, .inl (G.2.2.1, 200, .inl (nF bt)))]) F R0 rfl [0, 1, 2] rfl rfl (by have e1 := dEn_no (bt := bt) (ln := ln) (p := q) (fun z => hD2 z.2); have e2 := dVl_no (bt := bt) (ln := ln) (p := q) (v := ac) (fun z => hD2 z.2); rw [← hqe, e1]; exact ⟨_, _, Or.inl ⟨rfl, by rw [← hqv, e2]; congr 1; omega, fun z => z.elim (fun y => by rw [← hqv, e2] at y; omega) (fun y => hz (by rw [← hqe, e1]; exact y))⟩, rfl, rfl⟩) dX4_takeDigits_143
                  · skip
                    refine j_iconst (q := 136) (v := nI 4) F (by decide) dX4_takeDigits_135 rfl ?_
                    refine j_goto (t := 140) F dX4_takeDigits_136 rfl ?_
                    refine j_put (q := 143) (ci := 4) (q0 := 0) (kf := 4) (v := .int (nI 4)) (w' := [(r0, .inr (4, [.ref u0, .int (nI pl), .ref x0, .int (nI q), .int (nI 4), .int (nI (min ac 100))])), (x0, .inr (5, [.ref x1, .int (nI ln)])), (x1, .inl (G.2.2.1, 200, .inl (nF bt)))]) F inX4 tyX4_ok nmX4 rfl rfl rfl tw_134 rfl rfl rfl rfl rfl rfl dX4_takeDigits_140 rfl ?_
                    exact j_vret (w2 := [(r0, .inr (4, [.ref u0, .int (nI pl), .ref x0, .int (nI q), .int (nI 4), .int (nI (min ac 100))])), (x0, .inr (5, [.ref x1, .int (nI ln)])), (x1, .inl (G.2.2.1, 200, .inl (nF bt)))]) F R0 rfl [0, 1, 2] rfl rfl (by have e1 := dEn_no (bt := bt) (ln := ln) (p := q) (fun z => hD2 z.2); have e2 := dVl_no (bt := bt) (ln := ln) (p := q) (v := ac) (fun z => hD2 z.2); rw [← hqe, e1]; exact ⟨_, _, Or.inr ⟨rfl, Or.inl (by rw [← hqv, e2]; omega)⟩, rfl, rfl⟩) dX4_takeDigits_143
              · skip
                exact absurd hat_ (by omega)
        refine j_lv [1, 0] (lv' := [(0, .ref r0), (1, .int (nI 0))]) rfl ?_
        exact lp27 _ b 0 (Nat.le_refl b) (by omega) rfl rfl (Nat.lt_succ_self _)
  · skip
    exact absurd hat_ (by omega)

section RV
variable {bt : Nat → Nat} {ln p q : Nat}
theorem ct_let {va : Int32} (hs : sk bt ln p = q) (hn : ¬ q = ln) (hL : isL (bt q)) (hv : (lEn bt ln q = q + 1 ∧ va = nI (bt q)) ∨ (lEn bt ln q ≠ q + 1 ∧ va = -1)) : CTok bt ln p 1 va (lEn bt ln q) := by
  have hk : tK bt ln p = if lEn bt ln q = q + 1 ∧ bt q = 108 then 1 else if lEn bt ln q = q + 1 ∧ bt q = 115 then 2 else 5 := by
    unfold tK
    rw [hs, if_neg hn, if_pos hL]
  by_cases e1 : lEn bt ln q = q + 1 ∧ bt q = 108
  · rw [if_pos e1] at hk
    refine Or.inr (Or.inl ⟨hk, rfl, ?_, ?_⟩)
    · rcases hv with h | h
      · rw [h.2, e1.2]
      · exact absurd e1.1 h.1
    · rw [tE, if_neg (by omega), hs, e1.1]
  · rw [if_neg e1] at hk
    by_cases e2 : lEn bt ln q = q + 1 ∧ bt q = 115
    · rw [if_pos e2] at hk
      refine Or.inr (Or.inr (Or.inl ⟨hk, rfl, ?_, ?_⟩))
      · rcases hv with h | h
        · rw [h.2, e2.2]
        · exact absurd e2.1 h.1
      · rw [tE, if_neg (by omega), hs, e2.1]
    · rw [if_neg e2] at hk
      refine Or.inr (Or.inr (Or.inr (Or.inr (Or.inr ⟨hk, Or.inr ⟨rfl, ?_, ?_⟩⟩))))
      · rcases hv with h | h
        · rw [h.2]; intro z; rw [nI_eq (by omega) (by omega)] at z; exact e1 ⟨h.1, z⟩
        · rw [h.2]; decide
      · rcases hv with h | h
        · rw [h.2]; intro z; rw [nI_eq (by omega) (by omega)] at z; exact e2 ⟨h.1, z⟩
        · rw [h.2]; decide
theorem ct_dig {so : Nat} {va : Int32} (hs : sk bt ln p = q) (hn : ¬ q = ln) (hL : ¬ isL (bt q)) (hD : isD (bt q)) (hv : (so = 2 ∧ va = nI (dVl bt ln q 0) ∧ ¬ (99 < dVl bt ln q 0 ∨ (1 < dEn bt ln q - q ∧ bt q = 48))) ∨ (so = 4 ∧ (99 < dVl bt ln q 0 ∨ (1 < dEn bt ln q - q ∧ bt q = 48)))) : CTok bt ln p so va (dEn bt ln q) := by
  have hk : tK bt ln p = if 99 < dVl bt ln q 0 ∨ (1 < dEn bt ln q - q ∧ bt q = 48) then 5 else 3 := by
    unfold tK
    rw [hs, if_neg hn, if_neg hL, if_pos hD]
  rcases hv with ⟨h1, h2, h3⟩ | ⟨h1, h2⟩
  · rw [if_neg h3] at hk
    exact Or.inr (Or.inr (Or.inr (Or.inl ⟨hk, h1, by rw [h2, tV, hs], by rw [tE, if_pos hk, hs]⟩)))
  · rw [if_pos h2] at hk
    exact Or.inr (Or.inr (Or.inr (Or.inr (Or.inr ⟨hk, Or.inl h1⟩))))
theorem ct_sem {va : Int32} (hs : sk bt ln p = q) (hn : ¬ q = ln) (hL : ¬ isL (bt q)) (hD : ¬ isD (bt q)) (h : bt q = 59) : CTok bt ln p 3 va (q + 1) := by
  have hk : tK bt ln p = 4 := by
    unfold tK
    rw [hs, if_neg hn, if_neg hL, if_neg hD, if_pos h]
  exact Or.inr (Or.inr (Or.inr (Or.inr (Or.inl ⟨hk, rfl, by rw [tE, if_neg (by omega), hs]⟩))))
theorem ct_bad {va : Int32} (hs : sk bt ln p = q) (hn : ¬ q = ln) (hL : ¬ isL (bt q)) (hD : ¬ isD (bt q)) (h : ¬ bt q = 59) : CTok bt ln p 4 va (q + 1) := by
  have hk : tK bt ln p = 5 := by
    unfold tK
    rw [hs, if_neg hn, if_neg hL, if_neg hD, if_neg h]
  exact Or.inr (Or.inr (Or.inr (Or.inr (Or.inr ⟨hk, Or.inl rfl⟩))))
end RV
set_option maxHeartbeats 4000000 in
set_option maxRecDepth 100000 in
theorem c_X4_nextToken (G : Gm) {r0 u0 x0 x1 ln pl so p : Nat} {va : Int32} {bt : Nat → Nat} (hl : ln ≤ 200) (hbt : ∀ i, i < ln → bt i < 256) (hp : p ≤ ln) : Mg G yX4_nextToken cX4_nextToken 2 none ({ frames := 2, cells := 0, slots := 0, locals := 43 } : Room) 0 0 [.ref r0] [(r0, .inr (4, [.ref u0, .int (nI pl), .ref x0, .int (nI p), .int (nI so), .int va])), (x0, .inr (5, [.ref x1, .int (nI ln)])), (x1, .inl (G.2.2.1, 200, .inl (nF bt)))] (fun r w2 => ∃ so2 va2 re2, CTok bt ln p so2 va2 re2 ∧ re2 ≤ ln ∧ r = none ∧ w2 = [(r0, .inr (4, [.ref u0, .int (nI (sk bt ln p)), .ref x0, .int (nI re2), .int (nI so2), .int va2])), (x0, .inr (5, [.ref x1, .int (nI ln)])), (x1, .inl (G.2.2.1, 200, .inl (nF bt)))]) := by
  refine Mg.mk (lv := [(0, .ref r0)]) (by decide) rfl rfl (fun X F R0 => ?_)
  have lp1 : ∀ (fu : Nat) (q : Nat) (hq1 : p ≤ q) (hq2 : q ≤ ln) (hqe : sk bt ln q = sk bt ln p), (ln - q) < fu → Jw G X 2 0 0 0 [(0, .ref r0)] [] [(r0, .inr (4, [.ref u0, .int (nI pl), .ref x0, .int (nI q), .int (nI so), .int va])), (x0, .inr (5, [.ref x1, .int (nI ln)])), (x1, .inl (G.2.2.1, 200, .inl (nF bt)))] := by
    intro fu
    induction fu with
    | zero => intro q hq1 hq2 hqe hfu; exact absurd hfu (Nat.not_lt_zero _)
    | succ fu ih1 =>
      intro q hq1 hq2 hqe hfu
      refine j_aload_n (q := 1) (i0 := 0) F rfl dX4_nextToken_0 rfl ?_
      refine j_get (q := 4) (ci := 4) (q0 := 0) (kf := 3) (v := .int (nI q)) F inX4 rfl rfl rfl tw_133 rfl rfl dX4_nextToken_1 rfl ?_
      refine j_aload_n (q := 5) (i0 := 0) F rfl dX4_nextToken_4 rfl ?_
      refine j_get (q := 8) (ci := 4) (q0 := 0) (kf := 2) (v := .ref x0) F inX4 rfl rfl rfl tw_132 rfl rfl dX4_nextToken_5 rfl ?_
      refine j_get (q := 11) (ci := 5) (q0 := 1) (kf := 1) (v := .int (nI ln)) F inX5 rfl rfl rfl tw_68 rfl rfl dX4_nextToken_8 rfl ?_
      refine j_icmp_ge (q := 14) (t := 43) F (Pp := ln ≤ q) (nI_leI (by omega) (by omega)) dX4_nextToken_11 rfl rfl (fun c2 => ?_) (fun c2 => ?_)
      · skip
        have hsk : sk bt ln p = q := hqe.symm.trans (sk_no (fun z => by omega))
        refine j_aload_n (q := 44) (i0 := 0) F rfl dX4_nextToken_43 rfl ?_
        refine j_aload_n (q := 45) (i0 := 0) F rfl dX4_nextToken_44 rfl ?_
        refine j_get (q := 48) (ci := 4) (q0 := 0) (kf := 3) (v := .int (nI q)) F inX4 rfl rfl rfl tw_133 rfl rfl dX4_nextToken_45 rfl ?_
        refine j_put (q := 51) (ci := 4) (q0 := 0) (kf := 1) (v := .int (nI q)) (w' := [(r0, .inr (4, [.ref u0, .int (nI q), .ref x0, .int (nI q), .int (nI so), .int va])), (x0, .inr (5, [.ref x1, .int (nI ln)])), (x1, .inl (G.2.2.1, 200, .inl (nF bt)))]) F inX4 tyX4_ok nmX4 rfl rfl rfl tw_131 rfl rfl rfl rfl rfl rfl dX4_nextToken_48 rfl ?_
        refine j_aload_n (q := 52) (i0 := 0) F rfl dX4_nextToken_51 rfl ?_
        refine j_get (q := 55) (ci := 4) (q0 := 0) (kf := 2) (v := .ref x0) F inX4 rfl rfl rfl tw_132 rfl rfl dX4_nextToken_52 rfl ?_
        refine j_aload_n (q := 56) (i0 := 0) F rfl dX4_nextToken_55 rfl ?_
        refine j_get (q := 59) (ci := 4) (q0 := 0) (kf := 3) (v := .int (nI q)) F inX4 rfl rfl rfl tw_133 rfl rfl dX4_nextToken_56 rfl ?_
        refine j_callV (q := 62) (ci := 5) (q0 := 0) (As := [.int (nI q)]) (wr := [(r0, .inr (4, [.ref u0, .int (nI q), .ref x0, .int (nI q), .int (nI so), .int va]))]) (st := []) F (c_X5_at G (p := q) hl (by omega)) kwX5_at tw_326 tw_327 tw_325 ⟨Nat.le_of_ble_eq_true rfl, Nat.le_of_ble_eq_true rfl, rfl, rfl, Nat.le_of_ble_eq_true rfl, Nat.le_of_ble_eq_true rfl⟩ [1, 2] [0] rfl rfl rfl rfl rfl rfl rfl rfl rfl (Nat.le_of_ble_eq_true rfl) dX4_nextToken_59 rfl ?_
        rintro r_ w_ ⟨rfl, (⟨hat2, rfl⟩ | ⟨hat2, rfl⟩)⟩
        · skip
          refine j_w (w' := [(r0, .inr (4, [.ref u0, .int (nI q), .ref x0, .int (nI q), .int (nI so), .int va])), (x0, .inr (5, [.ref x1, .int (nI ln)])), (x1, .inl (G.2.2.1, 200, .inl (nF bt)))]) [0, 1, 2] rfl rfl ?_
          show Jw G X _ 0 0 62 _ [.int (nI (bt q))] _
          have hne_ : ¬ q = ln := by omega
          have hbq2 := hbt q (by omega)
          refine j_istore_n (q := 63) (lv' := [(1, .int (nI (bt q))), (0, .ref r0)]) F dX4_nextToken_62 (by decide) rfl rfl ?_
          refine j_iload_n (q := 64) (i0 := 0) F rfl dX4_nextToken_63 rfl ?_
          refine j_if_ge (q := 67) (t := 75) F (Pp := True) (ct (nI_pos' (by omega))) dX4_nextToken_64 rfl rfl (fun cge => ?_) (fun cge => ?_)
          · skip
            refine j_iload_n (q := 76) (i0 := 0) F rfl dX4_nextToken_75 rfl ?_
            refine j_callS (q := 79) (As := [.int (nI (bt q))]) (wr := [(r0, .inr (4, [.ref u0, .int (nI q), .ref x0, .int (nI q), .int (nI so), .int va])), (x0, .inr (5, [.ref x1, .int (nI ln)])), (x1, .inl (G.2.2.1, 200, .inl (nF bt)))]) (st := []) F (c_X4_isLetter G (c := bt q) (hbq2)) kwX4_isLetter tw_330 tw_329 ⟨Nat.le_of_ble_eq_true rfl, Nat.le_of_ble_eq_true rfl, rfl, rfl, Nat.le_of_ble_eq_true rfl, Nat.le_of_ble_eq_true rfl⟩ [] [0, 1, 2] rfl rfl rfl rfl rfl rfl rfl (Nat.le_of_ble_eq_true rfl) dX4_nextToken_76 rfl ?_
            rintro r_ w_ ⟨rfl, (⟨rfl, hlet⟩ | ⟨rfl, hlet⟩)⟩
            · skip
              refine j_w (w' := [(r0, .inr (4, [.ref u0, .int (nI q), .ref x0, .int (nI q), .int (nI so), .int va])), (x0, .inr (5, [.ref x1, .int (nI ln)])), (x1, .inl (G.2.2.1, 200, .inl (nF bt)))]) [0, 1, 2] rfl rfl ?_
              show Jw G X _ 0 0 79 _ [.int (nI 1)] _
              refine j_if_eq (q := 82) (t := 89) F (cf (by decide)) dX4_nextToken_79 rfl rfl (fun z => False.elim z) (fun _ => ?_)
              refine j_aload_n (q := 83) (i0 := 1) F rfl dX4_nextToken_82 rfl ?_
              refine j_callV (q := 86) (ci := 4) (q0 := 0) (As := []) (wr := []) (st := []) F (c_X4_takeLetters G hl hbt (show q < ln by omega) hlet) kwX4_takeLetters tw_334 tw_1 tw_332 ⟨Nat.le_of_ble_eq_true rfl, Nat.le_of_ble_eq_true rfl, rfl, rfl, Nat.le_of_ble_eq_true rfl, Nat.le_of_ble_eq_true rfl⟩ [0, 1, 2] [] rfl rfl rfl rfl rfl rfl rfl rfl rfl (Nat.le_of_ble_eq_true rfl) dX4_nextToken_83 rfl ?_
              rintro r_ w_ ⟨va2, hva, rfl, rfl⟩
              refine j_w (w' := [(r0, .inr (4, [.ref u0, .int (nI q), .ref x0, .int (nI (lEn bt ln q)), .int (nI 1), .int va2])), (x0, .inr (5, [.ref x1, .int (nI ln)])), (x1, .inl (G.2.2.1, 200, .inl (nF bt)))]) [0, 1, 2] rfl rfl ?_
              show Jw G X _ 0 0 86 _ [] _
              refine j_goto (t := 128) F dX4_nextToken_86 rfl ?_
              exact j_vret (w2 := [(r0, .inr (4, [.ref u0, .int (nI q), .ref x0, .int (nI (lEn bt ln q)), .int (nI 1), .int va2])), (x0, .inr (5, [.ref x1, .int (nI ln)])), (x1, .inl (G.2.2.1, 200, .inl (nF bt)))]) F R0 rfl [0, 1, 2] rfl rfl (by refine ⟨_, _, _, ?_, (lEn_in (by omega)).2, rfl, by rw [hsk]⟩; exact ct_let hsk hne_ hlet hva) dX4_nextToken_128
            · skip
              refine j_w (w' := [(r0, .inr (4, [.ref u0, .int (nI q), .ref x0, .int (nI q), .int (nI so), .int va])), (x0, .inr (5, [.ref x1, .int (nI ln)])), (x1, .inl (G.2.2.1, 200, .inl (nF bt)))]) [0, 1, 2] rfl rfl ?_
              show Jw G X _ 0 0 79 _ [.int (nI 0)] _
              refine j_if_eq (q := 82) (t := 89) F (ct (by decide)) dX4_nextToken_79 rfl rfl (fun _ => ?_) (fun z => absurd trivial z)
              refine j_iload_n (q := 90) (i0 := 0) F rfl dX4_nextToken_89 rfl ?_
              refine j_callS (q := 93) (As := [.int (nI (bt q))]) (wr := [(r0, .inr (4, [.ref u0, .int (nI q), .ref x0, .int (nI q), .int (nI so), .int va])), (x0, .inr (5, [.ref x1, .int (nI ln)])), (x1, .inl (G.2.2.1, 200, .inl (nF bt)))]) (st := []) F (c_X4_isDigit G (c := bt q) (hbq2)) kwX4_isDigit tw_337 tw_336 ⟨Nat.le_of_ble_eq_true rfl, Nat.le_of_ble_eq_true rfl, rfl, rfl, Nat.le_of_ble_eq_true rfl, Nat.le_of_ble_eq_true rfl⟩ [] [0, 1, 2] rfl rfl rfl rfl rfl rfl rfl (Nat.le_of_ble_eq_true rfl) dX4_nextToken_90 rfl ?_
              rintro r_ w_ ⟨rfl, (⟨rfl, hdig⟩ | ⟨rfl, hdig⟩)⟩
              · skip
                refine j_w (w' := [(r0, .inr (4, [.ref u0, .int (nI q), .ref x0, .int (nI q), .int (nI so), .int va])), (x0, .inr (5, [.ref x1, .int (nI ln)])), (x1, .inl (G.2.2.1, 200, .inl (nF bt)))]) [0, 1, 2] rfl rfl ?_
                show Jw G X _ 0 0 93 _ [.int (nI 1)] _
                refine j_if_eq (q := 96) (t := 103) F (cf (by decide)) dX4_nextToken_93 rfl rfl (fun z => False.elim z) (fun _ => ?_)
                refine j_aload_n (q := 97) (i0 := 1) F rfl dX4_nextToken_96 rfl ?_
                refine j_callV (q := 100) (ci := 4) (q0 := 0) (As := []) (wr := []) (st := []) F (c_X4_takeDigits G hl hbt (show q < ln by omega) hdig) kwX4_takeDigits tw_341 tw_2 tw_339 ⟨Nat.le_of_ble_eq_true rfl, Nat.le_of_ble_eq_true rfl, rfl, rfl, Nat.le_of_ble_eq_true rfl, Nat.le_of_ble_eq_true rfl⟩ [0, 1, 2] [] rfl rfl rfl rfl rfl rfl rfl rfl rfl (Nat.le_of_ble_eq_true rfl) dX4_nextToken_97 rfl ?_
                rintro r_ w_ ⟨so2, va2, hva, rfl, rfl⟩
                refine j_w (w' := [(r0, .inr (4, [.ref u0, .int (nI q), .ref x0, .int (nI (dEn bt ln q)), .int (nI so2), .int va2])), (x0, .inr (5, [.ref x1, .int (nI ln)])), (x1, .inl (G.2.2.1, 200, .inl (nF bt)))]) [0, 1, 2] rfl rfl ?_
                show Jw G X _ 0 0 100 _ [] _
                refine j_goto (t := 128) F dX4_nextToken_100 rfl ?_
                exact j_vret (w2 := [(r0, .inr (4, [.ref u0, .int (nI q), .ref x0, .int (nI (dEn bt ln q)), .int (nI so2), .int va2])), (x0, .inr (5, [.ref x1, .int (nI ln)])), (x1, .inl (G.2.2.1, 200, .inl (nF bt)))]) F R0 rfl [0, 1, 2] rfl rfl (by refine ⟨_, _, _, ?_, (dEn_in (by omega)).2, rfl, by rw [hsk]⟩; exact ct_dig hsk hne_ hlet hdig hva) dX4_nextToken_128
              · skip
                refine j_w (w' := [(r0, .inr (4, [.ref u0, .int (nI q), .ref x0, .int (nI q), .int (nI so), .int va])), (x0, .inr (5, [.ref x1, .int (nI ln)])), (x1, .inl (G.2.2.1, 200, .inl (nF bt)))]) [0, 1, 2] rfl rfl ?_
                show Jw G X _ 0 0 93 _ [.int (nI 0)] _
                refine j_if_eq (q := 96) (t := 103) F (ct (by decide)) dX4_nextToken_93 rfl rfl (fun _ => ?_) (fun z => absurd trivial z)
                refine j_aload_n (q := 104) (i0 := 1) F rfl dX4_nextToken_103 rfl ?_
                refine j_iload_n (q := 105) (i0 := 0) F rfl dX4_nextToken_104 rfl ?_
                refine j_bipush (q := 107) (v := nI 59) F (by decide) dX4_nextToken_105 rfl ?_
                refine j_icmp_ne (q := 110) (t := 114) F (Pp := bt q = 59) (nI_eq (by omega) (by omega)) dX4_nextToken_107 rfl rfl (fun c59 => ?_) (fun c59 => ?_)
                · skip
                  refine j_iconst (q := 115) (v := nI 4) F (by decide) dX4_nextToken_114 rfl ?_
                  refine j_put (q := 118) (ci := 4) (q0 := 0) (kf := 4) (v := .int (nI 4)) (w' := [(r0, .inr (4, [.ref u0, .int (nI q), .ref x0, .int (nI q), .int (nI 4), .int va])), (x0, .inr (5, [.ref x1, .int (nI ln)])), (x1, .inl (G.2.2.1, 200, .inl (nF bt)))]) F inX4 tyX4_ok nmX4 rfl rfl rfl tw_134 rfl rfl rfl rfl rfl rfl dX4_nextToken_115 rfl ?_
                  refine j_aload_n (q := 119) (i0 := 1) F rfl dX4_nextToken_118 rfl ?_
                  refine j_dup (q := 120) F rfl dX4_nextToken_119 rfl ?_
                  refine j_get (q := 123) (ci := 4) (q0 := 0) (kf := 3) (v := .int (nI q)) F inX4 rfl rfl rfl tw_133 rfl rfl dX4_nextToken_120 rfl ?_
                  refine j_iconst (q := 124) (v := nI 1) F (by decide) dX4_nextToken_123 rfl ?_
                  refine j_iadd (q := 125) (v := nI (q + 1)) F (nI_add _ _) dX4_nextToken_124 rfl ?_
                  refine j_put (q := 128) (ci := 4) (q0 := 0) (kf := 3) (v := .int (nI (q + 1))) (w' := [(r0, .inr (4, [.ref u0, .int (nI q), .ref x0, .int (nI (q + 1)), .int (nI 4), .int va])), (x0, .inr (5, [.ref x1, .int (nI ln)])), (x1, .inl (G.2.2.1, 200, .inl (nF bt)))]) F inX4 tyX4_ok nmX4 rfl rfl rfl tw_133 rfl rfl rfl rfl rfl rfl dX4_nextToken_125 rfl ?_
                  exact j_vret (w2 := [(r0, .inr (4, [.ref u0, .int (nI q), .ref x0, .int (nI (q + 1)), .int (nI 4), .int va])), (x0, .inr (5, [.ref x1, .int (nI ln)])), (x1, .inl (G.2.2.1, 200, .inl (nF bt)))]) F R0 rfl [0, 1, 2] rfl rfl (⟨_, _, _, ct_bad hsk hne_ hlet hdig c59, by omega, rfl, by rw [hsk]⟩) dX4_nextToken_128
                · skip
                  refine j_iconst (q := 111) (v := nI 3) F (by decide) dX4_nextToken_110 rfl ?_
                  refine j_goto (t := 115) F dX4_nextToken_111 rfl ?_
                  refine j_put (q := 118) (ci := 4) (q0 := 0) (kf := 4) (v := .int (nI 3)) (w' := [(r0, .inr (4, [.ref u0, .int (nI q), .ref x0, .int (nI q), .int (nI 3), .int va])), (x0, .inr (5, [.ref x1, .int (nI ln)])), (x1, .inl (G.2.2.1, 200, .inl (nF bt)))]) F inX4 tyX4_ok nmX4 rfl rfl rfl tw_134 rfl rfl rfl rfl rfl rfl dX4_nextToken_115 rfl ?_
                  refine j_aload_n (q := 119) (i0 := 1) F rfl dX4_nextToken_118 rfl ?_
                  refine j_dup (q := 120) F rfl dX4_nextToken_119 rfl ?_
                  refine j_get (q := 123) (ci := 4) (q0 := 0) (kf := 3) (v := .int (nI q)) F inX4 rfl rfl rfl tw_133 rfl rfl dX4_nextToken_120 rfl ?_
                  refine j_iconst (q := 124) (v := nI 1) F (by decide) dX4_nextToken_123 rfl ?_
                  refine j_iadd (q := 125) (v := nI (q + 1)) F (nI_add _ _) dX4_nextToken_124 rfl ?_
                  refine j_put (q := 128) (ci := 4) (q0 := 0) (kf := 3) (v := .int (nI (q + 1))) (w' := [(r0, .inr (4, [.ref u0, .int (nI q), .ref x0, .int (nI (q + 1)), .int (nI 3), .int va])), (x0, .inr (5, [.ref x1, .int (nI ln)])), (x1, .inl (G.2.2.1, 200, .inl (nF bt)))]) F inX4 tyX4_ok nmX4 rfl rfl rfl tw_133 rfl rfl rfl rfl rfl rfl dX4_nextToken_125 rfl ?_
                  exact j_vret (w2 := [(r0, .inr (4, [.ref u0, .int (nI q), .ref x0, .int (nI (q + 1)), .int (nI 3), .int va])), (x0, .inr (5, [.ref x1, .int (nI ln)])), (x1, .inl (G.2.2.1, 200, .inl (nF bt)))]) F R0 rfl [0, 1, 2] rfl rfl (⟨_, _, _, ct_sem hsk hne_ hlet hdig c59, by omega, rfl, by rw [hsk]⟩) dX4_nextToken_128
          · exact absurd trivial cge
        · skip
          refine j_w (w' := [(r0, .inr (4, [.ref u0, .int (nI q), .ref x0, .int (nI q), .int (nI so), .int va])), (x0, .inr (5, [.ref x1, .int (nI ln)])), (x1, .inl (G.2.2.1, 200, .inl (nF bt)))]) [0, 1, 2] rfl rfl ?_
          show Jw G X _ 0 0 62 _ [.int (-1)] _
          refine j_istore_n (q := 63) (lv' := [(1, .int (-1)), (0, .ref r0)]) F dX4_nextToken_62 (by decide) rfl rfl ?_
          refine j_iload_n (q := 64) (i0 := 0) F rfl dX4_nextToken_63 rfl ?_
          refine j_if_ge (q := 67) (t := 75) F (cf (by decide)) dX4_nextToken_64 rfl rfl (fun z => False.elim z) (fun _ => ?_)
          refine j_aload_n (q := 68) (i0 := 1) F rfl dX4_nextToken_67 rfl ?_
          refine j_iconst (q := 69) (v := nI 0) F (by decide) dX4_nextToken_68 rfl ?_
          refine j_put (q := 72) (ci := 4) (q0 := 0) (kf := 4) (v := .int (nI 0)) (w' := [(r0, .inr (4, [.ref u0, .int (nI q), .ref x0, .int (nI q), .int (nI 0), .int va])), (x0, .inr (5, [.ref x1, .int (nI ln)])), (x1, .inl (G.2.2.1, 200, .inl (nF bt)))]) F inX4 tyX4_ok nmX4 rfl rfl rfl tw_134 rfl rfl rfl rfl rfl rfl dX4_nextToken_69 rfl ?_
          refine j_goto (t := 128) F dX4_nextToken_72 rfl ?_
          exact j_vret (w2 := [(r0, .inr (4, [.ref u0, .int (nI q), .ref x0, .int (nI q), .int (nI 0), .int va])), (x0, .inr (5, [.ref x1, .int (nI ln)])), (x1, .inl (G.2.2.1, 200, .inl (nF bt)))]) F R0 rfl [0, 1, 2] rfl rfl (⟨0, va, _, Or.inl ⟨tK0.mpr (by omega), rfl⟩, by omega, rfl, by rw [hsk]⟩) dX4_nextToken_128
      · skip
        refine j_aload_n (q := 15) (i0 := 0) F rfl dX4_nextToken_14 rfl ?_
        refine j_get (q := 18) (ci := 4) (q0 := 0) (kf := 2) (v := .ref x0) F inX4 rfl rfl rfl tw_132 rfl rfl dX4_nextToken_15 rfl ?_
        refine j_aload_n (q := 19) (i0 := 0) F rfl dX4_nextToken_18 rfl ?_
        refine j_get (q := 22) (ci := 4) (q0 := 0) (kf := 3) (v := .int (nI q)) F inX4 rfl rfl rfl tw_133 rfl rfl dX4_nextToken_19 rfl ?_
        refine j_callV (q := 25) (ci := 5) (q0 := 0) (As := [.int (nI q)]) (wr := [(r0, .inr (4, [.ref u0, .int (nI pl), .ref x0, .int (nI q), .int (nI so), .int va]))]) (st := []) F (c_X5_at G (p := q) hl (by omega)) kwX5_at tw_326 tw_327 tw_325 ⟨Nat.le_of_ble_eq_true rfl, Nat.le_of_ble_eq_true rfl, rfl, rfl, Nat.le_of_ble_eq_true rfl, Nat.le_of_ble_eq_true rfl⟩ [1, 2] [0] rfl rfl rfl rfl rfl rfl rfl rfl rfl (Nat.le_of_ble_eq_true rfl) dX4_nextToken_22 rfl ?_
        rintro r_ w_ ⟨rfl, (⟨hat_, rfl⟩ | ⟨hat_, rfl⟩)⟩
        · skip
          refine j_w (w' := [(r0, .inr (4, [.ref u0, .int (nI pl), .ref x0, .int (nI q), .int (nI so), .int va])), (x0, .inr (5, [.ref x1, .int (nI ln)])), (x1, .inl (G.2.2.1, 200, .inl (nF bt)))]) [0, 1, 2] rfl rfl ?_
          show Jw G X _ 0 0 25 _ [.int (nI (bt q))] _
          have hbq := hbt q (by omega)
          refine j_bipush (q := 27) (v := nI 32) F (by decide) dX4_nextToken_25 rfl ?_
          refine j_icmp_ne (q := 30) (t := 43) F (Pp := bt q = 32) (nI_eq (by omega) (by omega)) dX4_nextToken_27 rfl rfl (fun c32 => ?_) (fun c32 => ?_)
          · skip
            have hsk : sk bt ln p = q := hqe.symm.trans (sk_no (fun z => c32 z.2))
            refine j_aload_n (q := 44) (i0 := 0) F rfl dX4_nextToken_43 rfl ?_
            refine j_aload_n (q := 45) (i0 := 0) F rfl dX4_nextToken_44 rfl ?_
            refine j_get (q := 48) (ci := 4) (q0 := 0) (kf := 3) (v := .int (nI q)) F inX4 rfl rfl rfl tw_133 rfl rfl dX4_nextToken_45 rfl ?_
            refine j_put (q := 51) (ci := 4) (q0 := 0) (kf := 1) (v := .int (nI q)) (w' := [(r0, .inr (4, [.ref u0, .int (nI q), .ref x0, .int (nI q), .int (nI so), .int va])), (x0, .inr (5, [.ref x1, .int (nI ln)])), (x1, .inl (G.2.2.1, 200, .inl (nF bt)))]) F inX4 tyX4_ok nmX4 rfl rfl rfl tw_131 rfl rfl rfl rfl rfl rfl dX4_nextToken_48 rfl ?_
            refine j_aload_n (q := 52) (i0 := 0) F rfl dX4_nextToken_51 rfl ?_
            refine j_get (q := 55) (ci := 4) (q0 := 0) (kf := 2) (v := .ref x0) F inX4 rfl rfl rfl tw_132 rfl rfl dX4_nextToken_52 rfl ?_
            refine j_aload_n (q := 56) (i0 := 0) F rfl dX4_nextToken_55 rfl ?_
            refine j_get (q := 59) (ci := 4) (q0 := 0) (kf := 3) (v := .int (nI q)) F inX4 rfl rfl rfl tw_133 rfl rfl dX4_nextToken_56 rfl ?_
            refine j_callV (q := 62) (ci := 5) (q0 := 0) (As := [.int (nI q)]) (wr := [(r0, .inr (4, [.ref u0, .int (nI q), .ref x0, .int (nI q), .int (nI so), .int va]))]) (st := []) F (c_X5_at G (p := q) hl (by omega)) kwX5_at tw_326 tw_327 tw_325 ⟨Nat.le_of_ble_eq_true rfl, Nat.le_of_ble_eq_true rfl, rfl, rfl, Nat.le_of_ble_eq_true rfl, Nat.le_of_ble_eq_true rfl⟩ [1, 2] [0] rfl rfl rfl rfl rfl rfl rfl rfl rfl (Nat.le_of_ble_eq_true rfl) dX4_nextToken_59 rfl ?_
            rintro r_ w_ ⟨rfl, (⟨hat2, rfl⟩ | ⟨hat2, rfl⟩)⟩
            · skip
              refine j_w (w' := [(r0, .inr (4, [.ref u0, .int (nI q), .ref x0, .int (nI q), .int (nI so), .int va])), (x0, .inr (5, [.ref x1, .int (nI ln)])), (x1, .inl (G.2.2.1, 200, .inl (nF bt)))]) [0, 1, 2] rfl rfl ?_
              show Jw G X _ 0 0 62 _ [.int (nI (bt q))] _
              have hne_ : ¬ q = ln := by omega
              have hbq2 := hbt q (by omega)
              refine j_istore_n (q := 63) (lv' := [(1, .int (nI (bt q))), (0, .ref r0)]) F dX4_nextToken_62 (by decide) rfl rfl ?_
              refine j_iload_n (q := 64) (i0 := 0) F rfl dX4_nextToken_63 rfl ?_
              refine j_if_ge (q := 67) (t := 75) F (Pp := True) (ct (nI_pos' (by omega))) dX4_nextToken_64 rfl rfl (fun cge => ?_) (fun cge => ?_)
              · skip
                refine j_iload_n (q := 76) (i0 := 0) F rfl dX4_nextToken_75 rfl ?_
                refine j_callS (q := 79) (As := [.int (nI (bt q))]) (wr := [(r0, .inr (4, [.ref u0, .int (nI q), .ref x0, .int (nI q), .int (nI so), .int va])), (x0, .inr (5, [.ref x1, .int (nI ln)])), (x1, .inl (G.2.2.1, 200, .inl (nF bt)))]) (st := []) F (c_X4_isLetter G (c := bt q) (hbq2)) kwX4_isLetter tw_330 tw_329 ⟨Nat.le_of_ble_eq_true rfl, Nat.le_of_ble_eq_true rfl, rfl, rfl, Nat.le_of_ble_eq_true rfl, Nat.le_of_ble_eq_true rfl⟩ [] [0, 1, 2] rfl rfl rfl rfl rfl rfl rfl (Nat.le_of_ble_eq_true rfl) dX4_nextToken_76 rfl ?_
                rintro r_ w_ ⟨rfl, (⟨rfl, hlet⟩ | ⟨rfl, hlet⟩)⟩
                · skip
                  refine j_w (w' := [(r0, .inr (4, [.ref u0, .int (nI q), .ref x0, .int (nI q), .int (nI so), .int va])), (x0, .inr (5, [.ref x1, .int (nI ln)])), (x1, .inl (G.2.2.1, 200, .inl (nF bt)))]) [0, 1, 2] rfl rfl ?_
                  show Jw G X _ 0 0 79 _ [.int (nI 1)] _
                  refine j_if_eq (q := 82) (t := 89) F (cf (by decide)) dX4_nextToken_79 rfl rfl (fun z => False.elim z) (fun _ => ?_)
                  refine j_aload_n (q := 83) (i0 := 1) F rfl dX4_nextToken_82 rfl ?_
                  refine j_callV (q := 86) (ci := 4) (q0 := 0) (As := []) (wr := []) (st := []) F (c_X4_takeLetters G hl hbt (show q < ln by omega) hlet) kwX4_takeLetters tw_334 tw_1 tw_332 ⟨Nat.le_of_ble_eq_true rfl, Nat.le_of_ble_eq_true rfl, rfl, rfl, Nat.le_of_ble_eq_true rfl, Nat.le_of_ble_eq_true rfl⟩ [0, 1, 2] [] rfl rfl rfl rfl rfl rfl rfl rfl rfl (Nat.le_of_ble_eq_true rfl) dX4_nextToken_83 rfl ?_
                  rintro r_ w_ ⟨va2, hva, rfl, rfl⟩
                  refine j_w (w' := [(r0, .inr (4, [.ref u0, .int (nI q), .ref x0, .int (nI (lEn bt ln q)), .int (nI 1), .int va2])), (x0, .inr (5, [.ref x1, .int (nI ln)])), (x1, .inl (G.2.2.1, 200, .inl (nF bt)))]) [0, 1, 2] rfl rfl ?_
                  show Jw G X _ 0 0 86 _ [] _
                  refine j_goto (t := 128) F dX4_nextToken_86 rfl ?_
                  exact j_vret (w2 := [(r0, .inr (4, [.ref u0, .int (nI q), .ref x0, .int (nI (lEn bt ln q)), .int (nI 1), .int va2])), (x0, .inr (5, [.ref x1, .int (nI ln)])), (x1, .inl (G.2.2.1, 200, .inl (nF bt)))]) F R0 rfl [0, 1, 2] rfl rfl (by refine ⟨_, _, _, ?_, (lEn_in (by omega)).2, rfl, by rw [hsk]⟩; exact ct_let hsk hne_ hlet hva) dX4_nextToken_128
                · skip
                  refine j_w (w' := [(r0, .inr (4, [.ref u0, .int (nI q), .ref x0, .int (nI q), .int (nI so), .int va])), (x0, .inr (5, [.ref x1, .int (nI ln)])), (x1, .inl (G.2.2.1, 200, .inl (nF bt)))]) [0, 1, 2] rfl rfl ?_
                  show Jw G X _ 0 0 79 _ [.int (nI 0)] _
                  refine j_if_eq (q := 82) (t := 89) F (ct (by decide)) dX4_nextToken_79 rfl rfl (fun _ => ?_) (fun z => absurd trivial z)
                  refine j_iload_n (q := 90) (i0 := 0) F rfl dX4_nextToken_89 rfl ?_
                  refine j_callS (q := 93) (As := [.int (nI (bt q))]) (wr := [(r0, .inr (4, [.ref u0, .int (nI q), .ref x0, .int (nI q), .int (nI so), .int va])), (x0, .inr (5, [.ref x1, .int (nI ln)])), (x1, .inl (G.2.2.1, 200, .inl (nF bt)))]) (st := []) F (c_X4_isDigit G (c := bt q) (hbq2)) kwX4_isDigit tw_337 tw_336 ⟨Nat.le_of_ble_eq_true rfl, Nat.le_of_ble_eq_true rfl, rfl, rfl, Nat.le_of_ble_eq_true rfl, Nat.le_of_ble_eq_true rfl⟩ [] [0, 1, 2] rfl rfl rfl rfl rfl rfl rfl (Nat.le_of_ble_eq_true rfl) dX4_nextToken_90 rfl ?_
                  rintro r_ w_ ⟨rfl, (⟨rfl, hdig⟩ | ⟨rfl, hdig⟩)⟩
                  · skip
                    refine j_w (w' := [(r0, .inr (4, [.ref u0, .int (nI q), .ref x0, .int (nI q), .int (nI so), .int va])), (x0, .inr (5, [.ref x1, .int (nI ln)])), (x1, .inl (G.2.2.1, 200, .inl (nF bt)))]) [0, 1, 2] rfl rfl ?_
                    show Jw G X _ 0 0 93 _ [.int (nI 1)] _
                    refine j_if_eq (q := 96) (t := 103) F (cf (by decide)) dX4_nextToken_93 rfl rfl (fun z => False.elim z) (fun _ => ?_)
                    refine j_aload_n (q := 97) (i0 := 1) F rfl dX4_nextToken_96 rfl ?_
                    refine j_callV (q := 100) (ci := 4) (q0 := 0) (As := []) (wr := []) (st := []) F (c_X4_takeDigits G hl hbt (show q < ln by omega) hdig) kwX4_takeDigits tw_341 tw_2 tw_339 ⟨Nat.le_of_ble_eq_true rfl, Nat.le_of_ble_eq_true rfl, rfl, rfl, Nat.le_of_ble_eq_true rfl, Nat.le_of_ble_eq_true rfl⟩ [0, 1, 2] [] rfl rfl rfl rfl rfl rfl rfl rfl rfl (Nat.le_of_ble_eq_true rfl) dX4_nextToken_97 rfl ?_
                    rintro r_ w_ ⟨so2, va2, hva, rfl, rfl⟩
                    refine j_w (w' := [(r0, .inr (4, [.ref u0, .int (nI q), .ref x0, .int (nI (dEn bt ln q)), .int (nI so2), .int va2])), (x0, .inr (5, [.ref x1, .int (nI ln)])), (x1, .inl (G.2.2.1, 200, .inl (nF bt)))]) [0, 1, 2] rfl rfl ?_
                    show Jw G X _ 0 0 100 _ [] _
                    refine j_goto (t := 128) F dX4_nextToken_100 rfl ?_
                    exact j_vret (w2 := [(r0, .inr (4, [.ref u0, .int (nI q), .ref x0, .int (nI (dEn bt ln q)), .int (nI so2), .int va2])), (x0, .inr (5, [.ref x1, .int (nI ln)])), (x1, .inl (G.2.2.1, 200, .inl (nF bt)))]) F R0 rfl [0, 1, 2] rfl rfl (by refine ⟨_, _, _, ?_, (dEn_in (by omega)).2, rfl, by rw [hsk]⟩; exact ct_dig hsk hne_ hlet hdig hva) dX4_nextToken_128
                  · skip
                    refine j_w (w' := [(r0, .inr (4, [.ref u0, .int (nI q), .ref x0, .int (nI q), .int (nI so), .int va])), (x0, .inr (5, [.ref x1, .int (nI ln)])), (x1, .inl (G.2.2.1, 200, .inl (nF bt)))]) [0, 1, 2] rfl rfl ?_
                    show Jw G X _ 0 0 93 _ [.int (nI 0)] _
                    refine j_if_eq (q := 96) (t := 103) F (ct (by decide)) dX4_nextToken_93 rfl rfl (fun _ => ?_) (fun z => absurd trivial z)
                    refine j_aload_n (q := 104) (i0 := 1) F rfl dX4_nextToken_103 rfl ?_
                    refine j_iload_n (q := 105) (i0 := 0) F rfl dX4_nextToken_104 rfl ?_
                    refine j_bipush (q := 107) (v := nI 59) F (by decide) dX4_nextToken_105 rfl ?_
                    refine j_icmp_ne (q := 110) (t := 114) F (Pp := bt q = 59) (nI_eq (by omega) (by omega)) dX4_nextToken_107 rfl rfl (fun c59 => ?_) (fun c59 => ?_)
                    · skip
                      refine j_iconst (q := 115) (v := nI 4) F (by decide) dX4_nextToken_114 rfl ?_
                      refine j_put (q := 118) (ci := 4) (q0 := 0) (kf := 4) (v := .int (nI 4)) (w' := [(r0, .inr (4, [.ref u0, .int (nI q), .ref x0, .int (nI q), .int (nI 4), .int va])), (x0, .inr (5, [.ref x1, .int (nI ln)])), (x1, .inl (G.2.2.1, 200, .inl (nF bt)))]) F inX4 tyX4_ok nmX4 rfl rfl rfl tw_134 rfl rfl rfl rfl rfl rfl dX4_nextToken_115 rfl ?_
                      refine j_aload_n (q := 119) (i0 := 1) F rfl dX4_nextToken_118 rfl ?_
                      refine j_dup (q := 120) F rfl dX4_nextToken_119 rfl ?_
                      refine j_get (q := 123) (ci := 4) (q0 := 0) (kf := 3) (v := .int (nI q)) F inX4 rfl rfl rfl tw_133 rfl rfl dX4_nextToken_120 rfl ?_
                      refine j_iconst (q := 124) (v := nI 1) F (by decide) dX4_nextToken_123 rfl ?_
                      refine j_iadd (q := 125) (v := nI (q + 1)) F (nI_add _ _) dX4_nextToken_124 rfl ?_
                      refine j_put (q := 128) (ci := 4) (q0 := 0) (kf := 3) (v := .int (nI (q + 1))) (w' := [(r0, .inr (4, [.ref u0, .int (nI q), .ref x0, .int (nI (q + 1)), .int (nI 4), .int va])), (x0, .inr (5, [.ref x1, .int (nI ln)])), (x1, .inl (G.2.2.1, 200, .inl (nF bt)))]) F inX4 tyX4_ok nmX4 rfl rfl rfl tw_133 rfl rfl rfl rfl rfl rfl dX4_nextToken_125 rfl ?_
                      exact j_vret (w2 := [(r0, .inr (4, [.ref u0, .int (nI q), .ref x0, .int (nI (q + 1)), .int (nI 4), .int va])), (x0, .inr (5, [.ref x1, .int (nI ln)])), (x1, .inl (G.2.2.1, 200, .inl (nF bt)))]) F R0 rfl [0, 1, 2] rfl rfl (⟨_, _, _, ct_bad hsk hne_ hlet hdig c59, by omega, rfl, by rw [hsk]⟩) dX4_nextToken_128
                    · skip
                      refine j_iconst (q := 111) (v := nI 3) F (by decide) dX4_nextToken_110 rfl ?_
                      refine j_goto (t := 115) F dX4_nextToken_111 rfl ?_
                      refine j_put (q := 118) (ci := 4) (q0 := 0) (kf := 4) (v := .int (nI 3)) (w' := [(r0, .inr (4, [.ref u0, .int (nI q), .ref x0, .int (nI q), .int (nI 3), .int va])), (x0, .inr (5, [.ref x1, .int (nI ln)])), (x1, .inl (G.2.2.1, 200, .inl (nF bt)))]) F inX4 tyX4_ok nmX4 rfl rfl rfl tw_134 rfl rfl rfl rfl rfl rfl dX4_nextToken_115 rfl ?_
                      refine j_aload_n (q := 119) (i0 := 1) F rfl dX4_nextToken_118 rfl ?_
                      refine j_dup (q := 120) F rfl dX4_nextToken_119 rfl ?_
                      refine j_get (q := 123) (ci := 4) (q0 := 0) (kf := 3) (v := .int (nI q)) F inX4 rfl rfl rfl tw_133 rfl rfl dX4_nextToken_120 rfl ?_
                      refine j_iconst (q := 124) (v := nI 1) F (by decide) dX4_nextToken_123 rfl ?_
                      refine j_iadd (q := 125) (v := nI (q + 1)) F (nI_add _ _) dX4_nextToken_124 rfl ?_
                      refine j_put (q := 128) (ci := 4) (q0 := 0) (kf := 3) (v := .int (nI (q + 1))) (w' := [(r0, .inr (4, [.ref u0, .int (nI q), .ref x0, .int (nI (q + 1)), .int (nI 3), .int va])), (x0, .inr (5, [.ref x1, .int (nI ln)])), (x1, .inl (G.2.2.1, 200, .inl (nF bt)))]) F inX4 tyX4_ok nmX4 rfl rfl rfl tw_133 rfl rfl rfl rfl rfl rfl dX4_nextToken_125 rfl ?_
                      exact j_vret (w2 := [(r0, .inr (4, [.ref u0, .int (nI q), .ref x0, .int (nI (q + 1)), .int (nI 3), .int va])), (x0, .inr (5, [.ref x1, .int (nI ln)])), (x1, .inl (G.2.2.1, 200, .inl (nF bt)))]) F R0 rfl [0, 1, 2] rfl rfl (⟨_, _, _, ct_sem hsk hne_ hlet hdig c59, by omega, rfl, by rw [hsk]⟩) dX4_nextToken_128
              · exact absurd trivial cge
            · skip
              refine j_w (w' := [(r0, .inr (4, [.ref u0, .int (nI q), .ref x0, .int (nI q), .int (nI so), .int va])), (x0, .inr (5, [.ref x1, .int (nI ln)])), (x1, .inl (G.2.2.1, 200, .inl (nF bt)))]) [0, 1, 2] rfl rfl ?_
              show Jw G X _ 0 0 62 _ [.int (-1)] _
              refine j_istore_n (q := 63) (lv' := [(1, .int (-1)), (0, .ref r0)]) F dX4_nextToken_62 (by decide) rfl rfl ?_
              refine j_iload_n (q := 64) (i0 := 0) F rfl dX4_nextToken_63 rfl ?_
              refine j_if_ge (q := 67) (t := 75) F (cf (by decide)) dX4_nextToken_64 rfl rfl (fun z => False.elim z) (fun _ => ?_)
              refine j_aload_n (q := 68) (i0 := 1) F rfl dX4_nextToken_67 rfl ?_
              refine j_iconst (q := 69) (v := nI 0) F (by decide) dX4_nextToken_68 rfl ?_
              refine j_put (q := 72) (ci := 4) (q0 := 0) (kf := 4) (v := .int (nI 0)) (w' := [(r0, .inr (4, [.ref u0, .int (nI q), .ref x0, .int (nI q), .int (nI 0), .int va])), (x0, .inr (5, [.ref x1, .int (nI ln)])), (x1, .inl (G.2.2.1, 200, .inl (nF bt)))]) F inX4 tyX4_ok nmX4 rfl rfl rfl tw_134 rfl rfl rfl rfl rfl rfl dX4_nextToken_69 rfl ?_
              refine j_goto (t := 128) F dX4_nextToken_72 rfl ?_
              exact j_vret (w2 := [(r0, .inr (4, [.ref u0, .int (nI q), .ref x0, .int (nI q), .int (nI 0), .int va])), (x0, .inr (5, [.ref x1, .int (nI ln)])), (x1, .inl (G.2.2.1, 200, .inl (nF bt)))]) F R0 rfl [0, 1, 2] rfl rfl (⟨0, va, _, Or.inl ⟨tK0.mpr (by omega), rfl⟩, by omega, rfl, by rw [hsk]⟩) dX4_nextToken_128
          · skip
            refine j_aload_n (q := 31) (i0 := 0) F rfl dX4_nextToken_30 rfl ?_
            refine j_dup (q := 32) F rfl dX4_nextToken_31 rfl ?_
            refine j_get (q := 35) (ci := 4) (q0 := 0) (kf := 3) (v := .int (nI q)) F inX4 rfl rfl rfl tw_133 rfl rfl dX4_nextToken_32 rfl ?_
            refine j_iconst (q := 36) (v := nI 1) F (by decide) dX4_nextToken_35 rfl ?_
            refine j_iadd (q := 37) (v := nI (q + 1)) F (nI_add _ _) dX4_nextToken_36 rfl ?_
            refine j_put (q := 40) (ci := 4) (q0 := 0) (kf := 3) (v := .int (nI (q + 1))) (w' := [(r0, .inr (4, [.ref u0, .int (nI pl), .ref x0, .int (nI (q + 1)), .int (nI so), .int va])), (x0, .inr (5, [.ref x1, .int (nI ln)])), (x1, .inl (G.2.2.1, 200, .inl (nF bt)))]) F inX4 tyX4_ok nmX4 rfl rfl rfl tw_133 rfl rfl rfl rfl rfl rfl dX4_nextToken_37 rfl ?_
            refine j_goto (t := 0) F dX4_nextToken_40 rfl ?_
            refine j_lv [0] (lv' := [(0, .ref r0)]) rfl ?_
            exact ih1 (q + 1) (by omega) (by omega) ((sk_yes (by omega) c32).symm.trans hqe) (by omega)
        · skip
          exact absurd hat_ (by omega)
  refine j_lv [0] (lv' := [(0, .ref r0)]) rfl ?_
  exact lp1 _ p (Nat.le_refl p) hp rfl (Nat.lt_succ_self _)

