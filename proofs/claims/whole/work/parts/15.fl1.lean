theorem arrV_cong {cI : ClassId} {N : Nat} {f g : Nat → Int32} (h : ∀ i, i < N → f i = g i) : vp_cell cI (N, .inl f) = vp_cell cI (N, .inl g) := by
  rw [vp_cell_i, vp_cell_i, arrV, arrV]
  congr 2
  funext j
  rw [h j.val j.isLt]
theorem j_arr {G : Gm} {X : Cx} {nL k n pc q0 b N : Nat} {lv : List (Nat × Value)} {st : List Value} {w w' : va_W} {f g : Nat → Int32} (he : w[q0]? = some (b, .inl (G.2.2.1, N, .inl f))) (h : ∀ i, i < N → f i = g i) (hw : w.set q0 (b, .inl (G.2.2.1, N, .inl g)) = w') (kk : Jw G X nL k n pc lv st w') : Jw G X nL k n pc lv st w := by
  obtain ⟨l, D, cI, cP⟩ := G
  obtain ⟨p, e, R, s, m, args, below, meth, c, A, Q⟩ := X
  subst hw
  intro H locs ls hP hD hS hl
  refine kk H locs ls (hP.set hD he ?_ (fun _ _ => rfl)) (hD.set he) hS hl
  have h1 := hP q0 _ he
  show H[b]? = some (vp_cell cI (N, .inl g))
  rw [← arrV_cong h]
  exact h1
theorem inR_le {x : Int32} {k : Nat} (h1 : ¬ x < 0) (h2 : x ≤ nI k) (hk : k < 2 ^ 30) : inR x (k + 1) := by
  refine inR_of h1 (fun z => ?_) (by omega)
  rw [Int32.le_iff_toInt_le] at h2 z
  rw [nI_toInt (by omega)] at h2 z
  omega
theorem inR_gt {x : Int32} {k : Nat} (h2 : ¬ x ≤ nI k) (hk : k < 2 ^ 30) : ¬ inR x (k + 1) := by
  rintro ⟨j, hj, rfl⟩
  exact h2 ((nI_leI (by omega) (by omega)).mpr (by omega))
theorem inR_gt2 {x : Int32} {k : Nat} (h2 : nI k < x) (hk : k < 2 ^ 30) : ¬ inR x (k + 1) := by
  rintro ⟨j, hj, rfl⟩
  have := (nI_ltI (by omega) (by omega)).mp h2
  omega
theorem inR_lt {x : Int32} {k : Nat} (h1 : ¬ x < 0) (h2 : x < nI k) (hk : k < 2 ^ 30) : inR x k := by
  refine inR_of h1 (fun z => ?_) (by omega)
  rw [Int32.lt_iff_toInt_lt] at h2
  rw [Int32.le_iff_toInt_le] at z
  omega
theorem inR_nlt {x : Int32} {k : Nat} (h2 : ¬ x < nI k) (hk : k < 2 ^ 30) : ¬ inR x k := by
  rintro ⟨j, hj, rfl⟩
  exact h2 ((nI_ltI (by omega) (by omega)).mpr hj)
theorem Wk.join {n m : Nat} {ru la lb ne : Nat → Nat} {wo a b : Nat} (h : Tok n m ru la lb) (h2 : NeOk n m la lb wo ne) (ha : a < n) (hb : b < n) : Wk n ru (va_up (va_up ne a (ne a ||| 2 ^ b)) b (va_up ne a (ne a ||| 2 ^ b) b ||| 2 ^ a)) (nwS n m ru la lb wo a b) := by
  have hn := h.1
  have key : ∀ l, l < n → va_up (va_up ne a (ne a ||| 2 ^ b)) b (va_up ne a (ne a ||| 2 ^ b) b ||| 2 ^ a) l = va_up (va_up (fun l => bsd la lb wo l m) a (bsd la lb wo a m ||| 2 ^ b)) b (va_up (fun l => bsd la lb wo l m) a (bsd la lb wo a m ||| 2 ^ b) b ||| 2 ^ a) l := by
    intro l hl
    unfold va_up
    simp only [h2 a ha, h2 b hb, h2 l hl]
  have pw : ∀ i, i < n → 2 ^ i < 2 ^ 9 := fun i hi => Nat.pow_lt_pow_right (by decide) (by omega)
  have hb5 : ∀ l, l < n → ne l < 2 ^ 9 := fun l hl => by rw [h2 l hl]; exact bsd_lt h wo l
  refine ⟨hn, h.2.2.1, fun l hl => ?_, fun s hs => rg_cong (fun _ _ => rfl) key⟩
  by_cases e : l = b
  · subst e
    rw [up_s]
    apply Nat.or_lt_two_pow (n := 9) _ (pw a ha)
    by_cases e2 : l = a
    · subst e2; rw [up_s]; exact Nat.or_lt_two_pow (hb5 l hl) (pw l hl)
    · rw [up_n _ _ e2]; exact hb5 l hl
  · rw [up_n _ _ e]
    by_cases e2 : l = a
    · subst e2; rw [up_s]; exact Nat.or_lt_two_pow (n := 9) (hb5 l hl) (pw b hb)
    · rw [up_n _ _ e2]; exact hb5 l hl
set_option maxHeartbeats 4000000 in
set_option maxRecDepth 100000 in
theorem c_X7_isSeen (G : Gm) {x : Int32}  : Mg G yX7_isSeen cX7_isSeen 1 (some .boolean) ({ frames := 0, cells := 0, slots := 0, locals := 0 } : Room) 0 0 [.int x] [] (fun r w2 => w2 = [] ∧ ((r = some (.int (nI 1)) ∧ inR x 61) ∨ (r = some (.int (nI 0)) ∧ ¬ inR x 61))) := by
  refine Mg.mk (lv := [(0, .int x)]) (by decide) rfl rfl (fun X F R0 => ?_)
  refine j_iload_n (q := 1) (i0 := 0) F rfl dX7_isSeen_0 rfl ?_
  refine j_if_lt (q := 4) (t := 14) F (Pp := x < 0) (Iff.rfl) dX7_isSeen_1 rfl rfl (fun c1 => ?_) (fun c1 => ?_)
  · skip
    refine j_iconst (q := 15) (v := nI 0) F (by decide) dX7_isSeen_14 rfl ?_
    exact j_zret (w2 := []) F R0 rfl rfl [] rfl rfl (⟨rfl, Or.inr ⟨rfl, inR_neg c1 (by decide)⟩⟩) dX7_isSeen_15
  · skip
    refine j_iload_n (q := 5) (i0 := 0) F rfl dX7_isSeen_4 rfl ?_
    refine j_bipush (q := 7) (v := nI 60) F (by decide) dX7_isSeen_5 rfl ?_
    refine j_icmp_gt (q := 10) (t := 14) F (Pp := nI 60 < x) (Iff.rfl) dX7_isSeen_7 rfl rfl (fun c2 => ?_) (fun c2 => ?_)
    · skip
      refine j_iconst (q := 15) (v := nI 0) F (by decide) dX7_isSeen_14 rfl ?_
      exact j_zret (w2 := []) F R0 rfl rfl [] rfl rfl (⟨rfl, Or.inr ⟨rfl, inR_gt2 c2 (by decide)⟩⟩) dX7_isSeen_15
    · skip
      refine j_iconst (q := 11) (v := nI 1) F (by decide) dX7_isSeen_10 rfl ?_
      refine j_goto (t := 15) F dX7_isSeen_11 rfl ?_
      exact j_zret (w2 := []) F R0 rfl rfl [] rfl rfl (⟨rfl, Or.inl ⟨rfl, inR_of c1 (fun z => c2 (by rw [Int32.le_iff_toInt_le] at z; rw [Int32.lt_iff_toInt_lt]; rw [nI_toInt (by decide)] at z ⊢; omega)) (by decide)⟩⟩) dX7_isSeen_15

set_option maxHeartbeats 4000000 in
set_option maxRecDepth 100000 in
theorem c_X7_workNow (G : Gm) {o0 x0 r0 t0 t1 t2 t3 t4 p0 p1 i0 b0 b1 b2 b3 d0 h0 k0 : Nat} {ki n m t be sd tu fo kn lz lf ld lg : Nat}   {ru la lb ro ne : Nat → Nat} {md se : Nat → Int32} (hT : Tok n m ru la lb) (hro : NeOk n m la lb 0 ro) (hly : LyOk n m ru la lb lz lf ne md) (hfo : fo < 32768) : Mg G yX7_workNow cX7_workNow 1 (some (.object "FewerLamps$Bellwork")) ({ frames := 2, cells := 0, slots := 0, locals := 62 } : Room) 0 0 [.ref o0] [(o0, .inr (7, [.ref x0, .ref r0, .ref t0, .ref p0, .ref i0, .int (nI ki), .ref b0, .ref d0, .ref h0, .ref k0])), (p0, .inr (3, [.int (nI be), .int (nI sd), .int (nI tu), .int (nI fo), .int (nI kn), .ref p1])), (b0, .inr (0, [.ref t0, .ref b1, .ref b2, .ref b3, .int (nI lz), .int (nI lf), .int (nI ld), .int (nI lg)])), (b1, .inl (G.2.2.1, 9, .inl (nF ne))), (b2, .inl (G.2.2.1, 512, .inl md)), (b3, .inl (G.2.2.1, 512, .inl se)), (t0, .inr (6, [.int (nI n), .int (nI m), .int (nI t), .ref t1, .ref t2, .ref t3, .ref t4])), (t1, .inl (G.2.2.1, 9, .inl (nF ru))), (t2, .inl (G.2.2.1, 15, .inl (nF la))), (t3, .inl (G.2.2.1, 15, .inl (nF lb))), (t4, .inl (G.2.2.1, 9, .inl (nF ro)))] (fun r w2 => ∃ ne2 md2, NeOk n m la lb fo ne2 ∧ MdOk (Fw n m ru la lb fo) md2 ∧ r = some (.ref b0) ∧ w2 = [(o0, .inr (7, [.ref x0, .ref r0, .ref t0, .ref p0, .ref i0, .int (nI ki), .ref b0, .ref d0, .ref h0, .ref k0])), (p0, .inr (3, [.int (nI be), .int (nI sd), .int (nI tu), .int (nI fo), .int (nI kn), .ref p1])), (b0, .inr (0, [.ref t0, .ref b1, .ref b2, .ref b3, .int (nI 1), .int (nI fo), .int (nI ld), .int (nI lg)])), (b1, .inl (G.2.2.1, 9, .inl (nF ne2))), (b2, .inl (G.2.2.1, 512, .inl md2)), (b3, .inl (G.2.2.1, 512, .inl se)), (t0, .inr (6, [.int (nI n), .int (nI m), .int (nI t), .ref t1, .ref t2, .ref t3, .ref t4])), (t1, .inl (G.2.2.1, 9, .inl (nF ru))), (t2, .inl (G.2.2.1, 15, .inl (nF la))), (t3, .inl (G.2.2.1, 15, .inl (nF lb))), (t4, .inl (G.2.2.1, 9, .inl (nF ro)))]) := by
  refine Mg.mk (lv := [(0, .ref o0)]) (by decide) rfl rfl (fun X F R0 => ?_)
  refine j_aload_n (q := 1) (i0 := 0) F rfl dX7_workNow_0 rfl ?_
  refine j_get (q := 4) (ci := 7) (q0 := 0) (kf := 6) (v := .ref b0) F inX7 rfl rfl rfl tw_269 rfl rfl dX7_workNow_1 rfl ?_
  refine j_aload_n (q := 5) (i0 := 0) F rfl dX7_workNow_4 rfl ?_
  refine j_get (q := 8) (ci := 7) (q0 := 0) (kf := 3) (v := .ref p0) F inX7 rfl rfl rfl tw_266 rfl rfl dX7_workNow_5 rfl ?_
  refine j_get (q := 11) (ci := 3) (q0 := 1) (kf := 3) (v := .int (nI fo)) F inX3 rfl rfl rfl tw_165 rfl rfl dX7_workNow_8 rfl ?_
  refine j_callV (q := 14) (ci := 0) (q0 := 0) (As := [.int (nI fo)]) (wr := [(o0, .inr (7, [.ref x0, .ref r0, .ref t0, .ref p0, .ref i0, .int (nI ki), .ref b0, .ref d0, .ref h0, .ref k0])), (p0, .inr (3, [.int (nI be), .int (nI sd), .int (nI tu), .int (nI fo), .int (nI kn), .ref p1]))]) (st := []) F (c_X0_lay G hT hro hly.1 hly.2.2 hfo hly.2.1) kwX0_lay tw_417 tw_418 tw_416 ⟨Nat.le_of_ble_eq_true rfl, Nat.le_of_ble_eq_true rfl, rfl, rfl, Nat.le_of_ble_eq_true rfl, Nat.le_of_ble_eq_true rfl⟩ [2, 3, 4, 5, 6, 7, 8, 9, 10] [0, 1] rfl rfl rfl rfl rfl rfl rfl rfl rfl (Nat.le_of_ble_eq_true rfl) dX7_workNow_11 rfl ?_
  rintro r_ w_ ⟨ne2, md2, hne2, hmd2, rfl, rfl⟩
  refine j_w (w' := [(o0, .inr (7, [.ref x0, .ref r0, .ref t0, .ref p0, .ref i0, .int (nI ki), .ref b0, .ref d0, .ref h0, .ref k0])), (p0, .inr (3, [.int (nI be), .int (nI sd), .int (nI tu), .int (nI fo), .int (nI kn), .ref p1])), (b0, .inr (0, [.ref t0, .ref b1, .ref b2, .ref b3, .int (nI 1), .int (nI fo), .int (nI ld), .int (nI lg)])), (b1, .inl (G.2.2.1, 9, .inl (nF ne2))), (b2, .inl (G.2.2.1, 512, .inl md2)), (b3, .inl (G.2.2.1, 512, .inl se)), (t0, .inr (6, [.int (nI n), .int (nI m), .int (nI t), .ref t1, .ref t2, .ref t3, .ref t4])), (t1, .inl (G.2.2.1, 9, .inl (nF ru))), (t2, .inl (G.2.2.1, 15, .inl (nF la))), (t3, .inl (G.2.2.1, 15, .inl (nF lb))), (t4, .inl (G.2.2.1, 9, .inl (nF ro)))]) [0, 1, 2, 3, 4, 5, 6, 7, 8, 9, 10] rfl rfl ?_
  show Jw G X _ 0 0 14 _ [] _
  refine j_aload_n (q := 15) (i0 := 0) F rfl dX7_workNow_14 rfl ?_
  refine j_get (q := 18) (ci := 7) (q0 := 0) (kf := 6) (v := .ref b0) F inX7 rfl rfl rfl tw_269 rfl rfl dX7_workNow_15 rfl ?_
  exact j_aret (w2 := [(o0, .inr (7, [.ref x0, .ref r0, .ref t0, .ref p0, .ref i0, .int (nI ki), .ref b0, .ref d0, .ref h0, .ref k0])), (p0, .inr (3, [.int (nI be), .int (nI sd), .int (nI tu), .int (nI fo), .int (nI kn), .ref p1])), (b0, .inr (0, [.ref t0, .ref b1, .ref b2, .ref b3, .int (nI 1), .int (nI fo), .int (nI ld), .int (nI lg)])), (b1, .inl (G.2.2.1, 9, .inl (nF ne2))), (b2, .inl (G.2.2.1, 512, .inl md2)), (b3, .inl (G.2.2.1, 512, .inl se)), (t0, .inr (6, [.int (nI n), .int (nI m), .int (nI t), .ref t1, .ref t2, .ref t3, .ref t4])), (t1, .inl (G.2.2.1, 9, .inl (nF ru))), (t2, .inl (G.2.2.1, 15, .inl (nF la))), (t3, .inl (G.2.2.1, 15, .inl (nF lb))), (t4, .inl (G.2.2.1, 9, .inl (nF ro)))]) F R0 (Or.inl ⟨_, rfl⟩) rfl [0, 1, 2, 3, 4, 5, 6, 7, 8, 9, 10] rfl rfl (⟨_, _, hne2, hmd2, rfl, rfl⟩) dX7_workNow_18

set_option maxHeartbeats 4000000 in
set_option maxRecDepth 100000 in
theorem c_X7_type1 (G : Gm) {o0 x0 x1 r0 t0 p0 i0 b0 d0 h0 k0 ki ln j : Nat} {bt : Nat → Nat} (hj : j < 256) (h2 : ln < 200) : Mg G yX7_type cX7_type 2 (some .int) ({ frames := 1, cells := 0, slots := 0, locals := 21 } : Room) 0 0 [.ref o0, .int (nI j)] [(o0, .inr (7, [.ref x0, .ref r0, .ref t0, .ref p0, .ref i0, .int (nI ki), .ref b0, .ref d0, .ref h0, .ref k0])), (x0, .inr (5, [.ref x1, .int (nI ln)])), (x1, .inl (G.2.2.1, 200, .inl (nF bt)))] (fun r w2 => r = some (.int (nI (ln + 1))) ∧ w2 = [(o0, .inr (7, [.ref x0, .ref r0, .ref t0, .ref p0, .ref i0, .int (nI ki), .ref b0, .ref d0, .ref h0, .ref k0])), (x0, .inr (5, [.ref x1, .int (nI (ln + 1))])), (x1, .inl (G.2.2.1, 200, .inl (nF (va_up bt ln j))))]) := by
  refine Mg.mk (lv := [(0, .ref o0), (1, .int (nI j))]) (by decide) rfl rfl (fun X F R0 => ?_)
  refine j_iload_n (q := 1) (i0 := 1) F rfl dX7_type_0 rfl ?_
  refine j_if_lt (q := 4) (t := 11) F (Pp := False) (cf (nI_pos (by omega))) dX7_type_1 rfl rfl (fun c1 => ?_) (fun c1 => ?_)
  · exact c1.elim
  · skip
    refine j_iload_n (q := 5) (i0 := 1) F rfl dX7_type_4 rfl ?_
    refine j_sipush (q := 8) (v := nI 255) F (by decide) dX7_type_5 rfl ?_
    refine j_icmp_le (q := 11) (t := 13) F (Pp := True) (ct ((nI_leI (by omega) (by omega)).mpr (by omega))) dX7_type_8 rfl rfl (fun c2 => ?_) (fun c2 => ?_)
    · skip
      refine j_aload_n (q := 14) (i0 := 0) F rfl dX7_type_13 rfl ?_
      refine j_get (q := 17) (ci := 7) (q0 := 0) (kf := 0) (v := .ref x0) F inX7 rfl rfl rfl tw_263 rfl rfl dX7_type_14 rfl ?_
      refine j_iload_n (q := 18) (i0 := 1) F rfl dX7_type_17 rfl ?_
      refine j_callV (q := 21) (ci := 5) (q0 := 0) (As := [.int (nI j)]) (wr := [(o0, .inr (7, [.ref x0, .ref r0, .ref t0, .ref p0, .ref i0, .int (nI ki), .ref b0, .ref d0, .ref h0, .ref k0]))]) (st := []) F (c_X5_add G h2) kwX5_add tw_299 tw_300 tw_298 ⟨Nat.le_of_ble_eq_true rfl, Nat.le_of_ble_eq_true rfl, rfl, rfl, Nat.le_of_ble_eq_true rfl, Nat.le_of_ble_eq_true rfl⟩ [1, 2] [0] rfl rfl rfl rfl rfl rfl rfl rfl rfl (Nat.le_of_ble_eq_true rfl) dX7_type_18 rfl ?_
      rintro r_ w_ ⟨rfl, rfl⟩
      refine j_w (w' := [(o0, .inr (7, [.ref x0, .ref r0, .ref t0, .ref p0, .ref i0, .int (nI ki), .ref b0, .ref d0, .ref h0, .ref k0])), (x0, .inr (5, [.ref x1, .int (nI (ln + 1))])), (x1, .inl (G.2.2.1, 200, .inl (nF (va_up bt ln j))))]) [0, 1, 2] rfl rfl ?_
      show Jw G X _ 0 0 21 _ [.int (nI 1)] _
      refine j_if_eq (q := 24) (t := 34) F (cf (by decide)) dX7_type_21 rfl rfl (fun z => False.elim z) (fun _ => ?_)
      refine j_aload_n (q := 25) (i0 := 0) F rfl dX7_type_24 rfl ?_
      refine j_get (q := 28) (ci := 7) (q0 := 0) (kf := 0) (v := .ref x0) F inX7 rfl rfl rfl tw_263 rfl rfl dX7_type_25 rfl ?_
      refine j_get (q := 31) (ci := 5) (q0 := 1) (kf := 1) (v := .int (nI (ln + 1))) F inX5 rfl rfl rfl tw_67 rfl rfl dX7_type_28 rfl ?_
      refine j_goto (t := 36) F dX7_type_31 rfl ?_
      exact j_iret (w2 := [(o0, .inr (7, [.ref x0, .ref r0, .ref t0, .ref p0, .ref i0, .int (nI ki), .ref b0, .ref d0, .ref h0, .ref k0])), (x0, .inr (5, [.ref x1, .int (nI (ln + 1))])), (x1, .inl (G.2.2.1, 200, .inl (nF (va_up bt ln j))))]) F R0 rfl [0, 1, 2] rfl rfl (⟨rfl, rfl⟩) dX7_type_36
    · exact absurd trivial c2

set_option maxHeartbeats 4000000 in
set_option maxRecDepth 100000 in
theorem c_X7_type2 (G : Gm) {o0 x0 x1 r0 t0 p0 i0 b0 d0 h0 k0 ki ln j : Nat} {bt : Nat → Nat} (hj : j < 256) (h2 : ¬ ln < 200) (h3 : ln ≤ 200) : Mg G yX7_type cX7_type 2 (some .int) ({ frames := 1, cells := 0, slots := 0, locals := 21 } : Room) 0 0 [.ref o0, .int (nI j)] [(o0, .inr (7, [.ref x0, .ref r0, .ref t0, .ref p0, .ref i0, .int (nI ki), .ref b0, .ref d0, .ref h0, .ref k0])), (x0, .inr (5, [.ref x1, .int (nI ln)])), (x1, .inl (G.2.2.1, 200, .inl (nF bt)))] (fun r w2 => r = some (.int (-3)) ∧ w2 = [(o0, .inr (7, [.ref x0, .ref r0, .ref t0, .ref p0, .ref i0, .int (nI ki), .ref b0, .ref d0, .ref h0, .ref k0])), (x0, .inr (5, [.ref x1, .int (nI ln)])), (x1, .inl (G.2.2.1, 200, .inl (nF bt)))]) := by
  refine Mg.mk (lv := [(0, .ref o0), (1, .int (nI j))]) (by decide) rfl rfl (fun X F R0 => ?_)
  refine j_iload_n (q := 1) (i0 := 1) F rfl dX7_type_0 rfl ?_
  refine j_if_lt (q := 4) (t := 11) F (Pp := False) (cf (nI_pos (by omega))) dX7_type_1 rfl rfl (fun c1 => ?_) (fun c1 => ?_)
  · exact c1.elim
  · skip
    refine j_iload_n (q := 5) (i0 := 1) F rfl dX7_type_4 rfl ?_
    refine j_sipush (q := 8) (v := nI 255) F (by decide) dX7_type_5 rfl ?_
    refine j_icmp_le (q := 11) (t := 13) F (Pp := True) (ct ((nI_leI (by omega) (by omega)).mpr (by omega))) dX7_type_8 rfl rfl (fun c2 => ?_) (fun c2 => ?_)
    · skip
      refine j_aload_n (q := 14) (i0 := 0) F rfl dX7_type_13 rfl ?_
      refine j_get (q := 17) (ci := 7) (q0 := 0) (kf := 0) (v := .ref x0) F inX7 rfl rfl rfl tw_263 rfl rfl dX7_type_14 rfl ?_
      refine j_iload_n (q := 18) (i0 := 1) F rfl dX7_type_17 rfl ?_
      refine j_callV (q := 21) (ci := 5) (q0 := 0) (As := [.int (nI j)]) (wr := [(o0, .inr (7, [.ref x0, .ref r0, .ref t0, .ref p0, .ref i0, .int (nI ki), .ref b0, .ref d0, .ref h0, .ref k0]))]) (st := []) F (c_X5_add0 G h2 h3) kwX5_add tw_299 tw_300 tw_298 ⟨Nat.le_of_ble_eq_true rfl, Nat.le_of_ble_eq_true rfl, rfl, rfl, Nat.le_of_ble_eq_true rfl, Nat.le_of_ble_eq_true rfl⟩ [1, 2] [0] rfl rfl rfl rfl rfl rfl rfl rfl rfl (Nat.le_of_ble_eq_true rfl) dX7_type_18 rfl ?_
      rintro r_ w_ ⟨rfl, rfl⟩
      refine j_w (w' := [(o0, .inr (7, [.ref x0, .ref r0, .ref t0, .ref p0, .ref i0, .int (nI ki), .ref b0, .ref d0, .ref h0, .ref k0])), (x0, .inr (5, [.ref x1, .int (nI ln)])), (x1, .inl (G.2.2.1, 200, .inl (nF bt)))]) [0, 1, 2] rfl rfl ?_
      show Jw G X _ 0 0 21 _ [.int (nI 0)] _
      refine j_if_eq (q := 24) (t := 34) F (ct (by decide)) dX7_type_21 rfl rfl (fun _ => ?_) (fun z => absurd trivial z)
      refine j_bipush (q := 36) (v := (-3)) F (by decide) dX7_type_34 rfl ?_
      exact j_iret (w2 := [(o0, .inr (7, [.ref x0, .ref r0, .ref t0, .ref p0, .ref i0, .int (nI ki), .ref b0, .ref d0, .ref h0, .ref k0])), (x0, .inr (5, [.ref x1, .int (nI ln)])), (x1, .inl (G.2.2.1, 200, .inl (nF bt)))]) F R0 rfl [0, 1, 2] rfl rfl (⟨rfl, rfl⟩) dX7_type_36
    · exact absurd trivial c2

set_option maxHeartbeats 4000000 in
set_option maxRecDepth 100000 in
theorem c_X7_type3 (G : Gm) {o0 x0 x1 r0 t0 p0 i0 b0 d0 h0 k0 ki ln : Nat} {bt : Nat → Nat} {c : Int32} (hj : ¬ inR c 256) : Mg G yX7_type cX7_type 2 (some .int) ({ frames := 1, cells := 0, slots := 0, locals := 21 } : Room) 0 0 [.ref o0, .int c] [(o0, .inr (7, [.ref x0, .ref r0, .ref t0, .ref p0, .ref i0, .int (nI ki), .ref b0, .ref d0, .ref h0, .ref k0])), (x0, .inr (5, [.ref x1, .int (nI ln)])), (x1, .inl (G.2.2.1, 200, .inl (nF bt)))] (fun r w2 => r = some (.int (-1)) ∧ w2 = [(o0, .inr (7, [.ref x0, .ref r0, .ref t0, .ref p0, .ref i0, .int (nI ki), .ref b0, .ref d0, .ref h0, .ref k0])), (x0, .inr (5, [.ref x1, .int (nI ln)])), (x1, .inl (G.2.2.1, 200, .inl (nF bt)))]) := by
  refine Mg.mk (lv := [(0, .ref o0), (1, .int c)]) (by decide) rfl rfl (fun X F R0 => ?_)
  refine j_iload_n (q := 1) (i0 := 1) F rfl dX7_type_0 rfl ?_
  refine j_if_lt (q := 4) (t := 11) F (Pp := c < 0) (Iff.rfl) dX7_type_1 rfl rfl (fun c1 => ?_) (fun c1 => ?_)
  · skip
    refine j_iconst (q := 12) (v := (-1)) F (by decide) dX7_type_11 rfl ?_
    exact j_iret (w2 := [(o0, .inr (7, [.ref x0, .ref r0, .ref t0, .ref p0, .ref i0, .int (nI ki), .ref b0, .ref d0, .ref h0, .ref k0])), (x0, .inr (5, [.ref x1, .int (nI ln)])), (x1, .inl (G.2.2.1, 200, .inl (nF bt)))]) F R0 rfl [0, 1, 2] rfl rfl (⟨rfl, rfl⟩) dX7_type_12
  · skip
    refine j_iload_n (q := 5) (i0 := 1) F rfl dX7_type_4 rfl ?_
    refine j_sipush (q := 8) (v := nI 255) F (by decide) dX7_type_5 rfl ?_
    refine j_icmp_le (q := 11) (t := 13) F (Pp := c ≤ nI 255) (Iff.rfl) dX7_type_8 rfl rfl (fun c2 => ?_) (fun c2 => ?_)
    · exact absurd (inR_le c1 c2 (by decide)) hj
    · skip
      refine j_iconst (q := 12) (v := (-1)) F (by decide) dX7_type_11 rfl ?_
      exact j_iret (w2 := [(o0, .inr (7, [.ref x0, .ref r0, .ref t0, .ref p0, .ref i0, .int (nI ki), .ref b0, .ref d0, .ref h0, .ref k0])), (x0, .inr (5, [.ref x1, .int (nI ln)])), (x1, .inl (G.2.2.1, 200, .inl (nF bt)))]) F R0 rfl [0, 1, 2] rfl rfl (⟨rfl, rfl⟩) dX7_type_12

theorem c_X7_type (G : Gm) {o0 x0 x1 r0 t0 p0 i0 b0 d0 h0 k0 ki ln : Nat} {bt : Nat → Nat} {c : Int32} (hx : TxOk ln bt) : Mg G yX7_type cX7_type 2 (some .int) ({ frames := 1, cells := 0, slots := 0, locals := 21 } : Room) 0 0 [.ref o0, .int c] [(o0, .inr (7, [.ref x0, .ref r0, .ref t0, .ref p0, .ref i0, .int (nI ki), .ref b0, .ref d0, .ref h0, .ref k0])), (x0, .inr (5, [.ref x1, .int (nI ln)])), (x1, .inl (G.2.2.1, 200, .inl (nF bt)))] (fun r w2 => r = some (.int (aType ln c)) ∧ w2 = [(o0, .inr (7, [.ref x0, .ref r0, .ref t0, .ref p0, .ref i0, .int (nI ki), .ref b0, .ref d0, .ref h0, .ref k0])), (x0, .inr (5, [.ref x1, .int (nI (lType ln c))])), (x1, .inl (G.2.2.1, 200, .inl (nF (bType ln bt c))))]) := by
  by_cases h1 : inR c 256
  · have hc := cb_1 h1
    obtain ⟨j, hj, rfl⟩ := h1
    by_cases h2 : ln < 200
    · refine (c_X7_type1 G hj h2).imp fun r w2 h => ?_
      rw [aType, lType, bType, if_pos hc, if_pos h2, if_pos ⟨hc, h2⟩, if_pos ⟨hc, h2⟩, nI_clamp (by omega)]
      exact h
    · refine (c_X7_type2 G hj h2 hx.1).imp fun r w2 h => ?_
      rw [aType, lType, bType, if_pos hc, if_neg h2, if_neg (fun z => h2 z.2), if_neg (fun z => h2 z.2)]
      exact h
  · have hc := cb_0 h1
    refine (c_X7_type3 G h1).imp fun r w2 h => ?_
    rw [aType, lType, bType, hc, if_neg (by decide), if_neg (fun z => absurd z.1 (by decide)), if_neg (fun z => absurd z.1 (by decide))]
    exact h
set_option maxHeartbeats 4000000 in
set_option maxRecDepth 100000 in
theorem c_X7_clear (G : Gm) {o0 x0 x1 r0 t0 p0 i0 b0 d0 h0 k0 : Nat} {ki ln : Nat}      : Mg G yX7_clear cX7_clear 2 (some .int) ({ frames := 0, cells := 0, slots := 0, locals := 0 } : Room) 0 0 [.ref o0] [(o0, .inr (7, [.ref x0, .ref r0, .ref t0, .ref p0, .ref i0, .int (nI ki), .ref b0, .ref d0, .ref h0, .ref k0])), (x0, .inr (5, [.ref x1, .int (nI ln)]))] (fun r w2 => r = some (.int (nI ln)) ∧ w2 = [(o0, .inr (7, [.ref x0, .ref r0, .ref t0, .ref p0, .ref i0, .int (nI ki), .ref b0, .ref d0, .ref h0, .ref k0])), (x0, .inr (5, [.ref x1, .int (nI 0)]))]) := by
  refine Mg.mk (lv := [(0, .ref o0)]) (by decide) rfl rfl (fun X F R0 => ?_)
  refine j_aload_n (q := 1) (i0 := 0) F rfl dX7_clear_0 rfl ?_
  refine j_get (q := 4) (ci := 7) (q0 := 0) (kf := 0) (v := .ref x0) F inX7 rfl rfl rfl tw_263 rfl rfl dX7_clear_1 rfl ?_
  refine j_get (q := 7) (ci := 5) (q0 := 1) (kf := 1) (v := .int (nI ln)) F inX5 rfl rfl rfl tw_67 rfl rfl dX7_clear_4 rfl ?_
  refine j_istore_n (q := 8) (lv' := [(1, .int (nI ln)), (0, .ref o0)]) F dX7_clear_7 (by decide) rfl rfl ?_
  refine j_aload_n (q := 9) (i0 := 1) F rfl dX7_clear_8 rfl ?_
  refine j_get (q := 12) (ci := 7) (q0 := 0) (kf := 0) (v := .ref x0) F inX7 rfl rfl rfl tw_263 rfl rfl dX7_clear_9 rfl ?_
  refine j_iconst (q := 13) (v := nI 0) F (by decide) dX7_clear_12 rfl ?_
  refine j_put (q := 16) (ci := 5) (q0 := 1) (kf := 1) (v := .int (nI 0)) (w' := [(o0, .inr (7, [.ref x0, .ref r0, .ref t0, .ref p0, .ref i0, .int (nI ki), .ref b0, .ref d0, .ref h0, .ref k0])), (x0, .inr (5, [.ref x1, .int (nI 0)]))]) F inX5 tyX5_ok nmX5 rfl rfl rfl tw_67 rfl rfl rfl rfl rfl rfl dX7_clear_13 rfl ?_
  refine j_iload_n (q := 17) (i0 := 0) F rfl dX7_clear_16 rfl ?_
  exact j_iret (w2 := [(o0, .inr (7, [.ref x0, .ref r0, .ref t0, .ref p0, .ref i0, .int (nI ki), .ref b0, .ref d0, .ref h0, .ref k0])), (x0, .inr (5, [.ref x1, .int (nI 0)]))]) F R0 rfl [0, 1] rfl rfl (⟨rfl, rfl⟩) dX7_clear_17

theorem sw_out {y : Int32} {k : Nat} {N : Nat} (h : y.toInt < 0 ∨ (N : Int) < y.toInt) (hk : k ≤ N) (hN : N < 1000) : ¬ y = nI k := by
  rintro rfl
  rw [nI_toInt (by omega)] at h
  omega
set_option maxHeartbeats 4000000 in
set_option maxRecDepth 100000 in
theorem c_X7_count (G : Gm) {o0 x0 x1 r0 t0 t1 t2 t3 t4 p0 p1 i0 b0 d0 h0 k0 : Nat} {ki ln n m t be sd tu fo kn : Nat}     {y : Int32}  : Mg G yX7_count cX7_count 2 (some .int) ({ frames := 0, cells := 0, slots := 0, locals := 0 } : Room) 0 0 [.ref o0, .int y] [(o0, .inr (7, [.ref x0, .ref r0, .ref t0, .ref p0, .ref i0, .int (nI ki), .ref b0, .ref d0, .ref h0, .ref k0])), (x0, .inr (5, [.ref x1, .int (nI ln)])), (p0, .inr (3, [.int (nI be), .int (nI sd), .int (nI tu), .int (nI fo), .int (nI kn), .ref p1])), (t0, .inr (6, [.int (nI n), .int (nI m), .int (nI t), .ref t1, .ref t2, .ref t3, .ref t4]))] (fun r w2 => r = some (.int (aCount n m kn ln y)) ∧ w2 = [(o0, .inr (7, [.ref x0, .ref r0, .ref t0, .ref p0, .ref i0, .int (nI ki), .ref b0, .ref d0, .ref h0, .ref k0])), (x0, .inr (5, [.ref x1, .int (nI ln)])), (p0, .inr (3, [.int (nI be), .int (nI sd), .int (nI tu), .int (nI fo), .int (nI kn), .ref p1])), (t0, .inr (6, [.int (nI n), .int (nI m), .int (nI t), .ref t1, .ref t2, .ref t3, .ref t4]))]) := by
  refine Mg.mk (lv := [(0, .ref o0), (1, .int y)]) (by decide) rfl rfl (fun X F R0 => ?_)
  refine j_iload_n (q := 1) (i0 := 1) F rfl dX7_count_0 rfl ?_
  rcases sw_3 y with rfl | rfl | rfl | rfl | hs1
  · refine j_tabIn (t := 32) F dX7_count_1 (by decide) (by decide) rfl rfl ?_
    refine j_aload_n (q := 33) (i0 := 0) F rfl dX7_count_32 rfl ?_
    refine j_get (q := 36) (ci := 7) (q0 := 0) (kf := 2) (v := .ref t0) F inX7 rfl rfl rfl tw_265 rfl rfl dX7_count_33 rfl ?_
    refine j_get (q := 39) (ci := 6) (q0 := 3) (kf := 0) (v := .int (nI n)) F inX6 rfl rfl rfl tw_89 rfl rfl dX7_count_36 rfl ?_
    exact j_iret (w2 := [(o0, .inr (7, [.ref x0, .ref r0, .ref t0, .ref p0, .ref i0, .int (nI ki), .ref b0, .ref d0, .ref h0, .ref k0])), (x0, .inr (5, [.ref x1, .int (nI ln)])), (p0, .inr (3, [.int (nI be), .int (nI sd), .int (nI tu), .int (nI fo), .int (nI kn), .ref p1])), (t0, .inr (6, [.int (nI n), .int (nI m), .int (nI t), .ref t1, .ref t2, .ref t3, .ref t4]))]) F R0 rfl [0, 1, 2, 3] rfl rfl (⟨by rw [aCount, if_pos rfl], rfl⟩) dX7_count_39
  · refine j_tabIn (t := 40) F dX7_count_1 (by decide) (by decide) rfl rfl ?_
    refine j_aload_n (q := 41) (i0 := 0) F rfl dX7_count_40 rfl ?_
    refine j_get (q := 44) (ci := 7) (q0 := 0) (kf := 2) (v := .ref t0) F inX7 rfl rfl rfl tw_265 rfl rfl dX7_count_41 rfl ?_
    refine j_get (q := 47) (ci := 6) (q0 := 3) (kf := 1) (v := .int (nI m)) F inX6 rfl rfl rfl tw_95 rfl rfl dX7_count_44 rfl ?_
    exact j_iret (w2 := [(o0, .inr (7, [.ref x0, .ref r0, .ref t0, .ref p0, .ref i0, .int (nI ki), .ref b0, .ref d0, .ref h0, .ref k0])), (x0, .inr (5, [.ref x1, .int (nI ln)])), (p0, .inr (3, [.int (nI be), .int (nI sd), .int (nI tu), .int (nI fo), .int (nI kn), .ref p1])), (t0, .inr (6, [.int (nI n), .int (nI m), .int (nI t), .ref t1, .ref t2, .ref t3, .ref t4]))]) F R0 rfl [0, 1, 2, 3] rfl rfl (⟨by rw [aCount, if_neg (by decide), if_pos rfl], rfl⟩) dX7_count_47
  · refine j_tabIn (t := 48) F dX7_count_1 (by decide) (by decide) rfl rfl ?_
    refine j_aload_n (q := 49) (i0 := 0) F rfl dX7_count_48 rfl ?_
    refine j_get (q := 52) (ci := 7) (q0 := 0) (kf := 3) (v := .ref p0) F inX7 rfl rfl rfl tw_266 rfl rfl dX7_count_49 rfl ?_
    refine j_get (q := 55) (ci := 3) (q0 := 2) (kf := 4) (v := .int (nI kn)) F inX3 rfl rfl rfl tw_167 rfl rfl dX7_count_52 rfl ?_
    exact j_iret (w2 := [(o0, .inr (7, [.ref x0, .ref r0, .ref t0, .ref p0, .ref i0, .int (nI ki), .ref b0, .ref d0, .ref h0, .ref k0])), (x0, .inr (5, [.ref x1, .int (nI ln)])), (p0, .inr (3, [.int (nI be), .int (nI sd), .int (nI tu), .int (nI fo), .int (nI kn), .ref p1])), (t0, .inr (6, [.int (nI n), .int (nI m), .int (nI t), .ref t1, .ref t2, .ref t3, .ref t4]))]) F R0 rfl [0, 1, 2, 3] rfl rfl (⟨by rw [aCount, if_neg (by decide), if_neg (by decide), if_pos rfl], rfl⟩) dX7_count_55
  · refine j_tabIn (t := 56) F dX7_count_1 (by decide) (by decide) rfl rfl ?_
    refine j_aload_n (q := 57) (i0 := 0) F rfl dX7_count_56 rfl ?_
    refine j_get (q := 60) (ci := 7) (q0 := 0) (kf := 0) (v := .ref x0) F inX7 rfl rfl rfl tw_263 rfl rfl dX7_count_57 rfl ?_
    refine j_get (q := 63) (ci := 5) (q0 := 1) (kf := 1) (v := .int (nI ln)) F inX5 rfl rfl rfl tw_67 rfl rfl dX7_count_60 rfl ?_
    exact j_iret (w2 := [(o0, .inr (7, [.ref x0, .ref r0, .ref t0, .ref p0, .ref i0, .int (nI ki), .ref b0, .ref d0, .ref h0, .ref k0])), (x0, .inr (5, [.ref x1, .int (nI ln)])), (p0, .inr (3, [.int (nI be), .int (nI sd), .int (nI tu), .int (nI fo), .int (nI kn), .ref p1])), (t0, .inr (6, [.int (nI n), .int (nI m), .int (nI t), .ref t1, .ref t2, .ref t3, .ref t4]))]) F R0 rfl [0, 1, 2, 3] rfl rfl (⟨by rw [aCount, if_neg (by decide), if_neg (by decide), if_neg (by decide), if_pos rfl], rfl⟩) dX7_count_63
  · refine j_tabOut (t := 64) F dX7_count_1 hs1 rfl ?_
    refine j_iconst (q := 65) (v := (-1)) F (by decide) dX7_count_64 rfl ?_
    exact j_iret (w2 := [(o0, .inr (7, [.ref x0, .ref r0, .ref t0, .ref p0, .ref i0, .int (nI ki), .ref b0, .ref d0, .ref h0, .ref k0])), (x0, .inr (5, [.ref x1, .int (nI ln)])), (p0, .inr (3, [.int (nI be), .int (nI sd), .int (nI tu), .int (nI fo), .int (nI kn), .ref p1])), (t0, .inr (6, [.int (nI n), .int (nI m), .int (nI t), .ref t1, .ref t2, .ref t3, .ref t4]))]) F R0 rfl [0, 1, 2, 3] rfl rfl (⟨by rw [aCount, if_neg (sw_out hs1 (N := 3) (by decide) (by decide)), if_neg (sw_out hs1 (N := 3) (by decide) (by decide)), if_neg (sw_out hs1 (N := 3) (by decide) (by decide)), if_neg (sw_out hs1 (N := 3) (by decide) (by decide))], rfl⟩) dX7_count_65

set_option maxHeartbeats 4000000 in
set_option maxRecDepth 100000 in
theorem c_X7_now (G : Gm) {o0 x0 r0 t0 p0 p1 i0 b0 d0 h0 k0 : Nat} {ki n m be sd tu fo kn : Nat}   {pa : Nat → Nat}  {y : Int32} (hP : PrOk n m (be, sd, tu, fo, kn, pa)) (hn : n ≤ 9) : Mg G yX7_now cX7_now 2 (some .int) ({ frames := 1, cells := 0, slots := 0, locals := 20 } : Room) 0 0 [.ref o0, .int y] [(o0, .inr (7, [.ref x0, .ref r0, .ref t0, .ref p0, .ref i0, .int (nI ki), .ref b0, .ref d0, .ref h0, .ref k0])), (p0, .inr (3, [.int (nI be), .int (nI sd), .int (nI tu), .int (nI fo), .int (nI kn), .ref p1]))] (fun r w2 => r = some (.int (aNow (be, sd, tu, fo, kn, pa) y)) ∧ w2 = [(o0, .inr (7, [.ref x0, .ref r0, .ref t0, .ref p0, .ref i0, .int (nI ki), .ref b0, .ref d0, .ref h0, .ref k0])), (p0, .inr (3, [.int (nI be), .int (nI sd), .int (nI tu), .int (nI fo), .int (nI kn), .ref p1]))]) := by
  have h9 := p9 hn
  have hsd : sd < 512 := by have := hP.2.1; dsimp only at this; omega
  have htu : tu ≤ 3 := hP.2.2.1
  refine Mg.mk (lv := [(0, .ref o0), (1, .int y)]) (by decide) rfl rfl (fun X F R0 => ?_)
  refine j_iload_n (q := 1) (i0 := 1) F rfl dX7_now_0 rfl ?_
  rcases sw_4 y with rfl | rfl | rfl | rfl | rfl | hs1
  · refine j_tabIn (t := 36) F dX7_now_1 (by decide) (by decide) rfl rfl ?_
    refine j_aload_n (q := 37) (i0 := 0) F rfl dX7_now_36 rfl ?_
    refine j_get (q := 40) (ci := 7) (q0 := 0) (kf := 3) (v := .ref p0) F inX7 rfl rfl rfl tw_266 rfl rfl dX7_now_37 rfl ?_
    refine j_get (q := 43) (ci := 3) (q0 := 1) (kf := 0) (v := .int (nI be)) F inX3 rfl rfl rfl tw_158 rfl rfl dX7_now_40 rfl ?_
    exact j_iret (w2 := [(o0, .inr (7, [.ref x0, .ref r0, .ref t0, .ref p0, .ref i0, .int (nI ki), .ref b0, .ref d0, .ref h0, .ref k0])), (p0, .inr (3, [.int (nI be), .int (nI sd), .int (nI tu), .int (nI fo), .int (nI kn), .ref p1]))]) F R0 rfl [0, 1] rfl rfl (⟨by rw [aNow, if_pos rfl], rfl⟩) dX7_now_43
  · refine j_tabIn (t := 44) F dX7_now_1 (by decide) (by decide) rfl rfl ?_
    refine j_aload_n (q := 45) (i0 := 0) F rfl dX7_now_44 rfl ?_
    refine j_get (q := 48) (ci := 7) (q0 := 0) (kf := 3) (v := .ref p0) F inX7 rfl rfl rfl tw_266 rfl rfl dX7_now_45 rfl ?_
    refine j_get (q := 51) (ci := 3) (q0 := 1) (kf := 1) (v := .int (nI sd)) F inX3 rfl rfl rfl tw_161 rfl rfl dX7_now_48 rfl ?_
    exact j_iret (w2 := [(o0, .inr (7, [.ref x0, .ref r0, .ref t0, .ref p0, .ref i0, .int (nI ki), .ref b0, .ref d0, .ref h0, .ref k0])), (p0, .inr (3, [.int (nI be), .int (nI sd), .int (nI tu), .int (nI fo), .int (nI kn), .ref p1]))]) F R0 rfl [0, 1] rfl rfl (⟨by rw [aNow, if_neg (by decide), if_pos rfl], rfl⟩) dX7_now_51
  · refine j_tabIn (t := 52) F dX7_now_1 (by decide) (by decide) rfl rfl ?_
    refine j_aload_n (q := 53) (i0 := 0) F rfl dX7_now_52 rfl ?_
    refine j_get (q := 56) (ci := 7) (q0 := 0) (kf := 3) (v := .ref p0) F inX7 rfl rfl rfl tw_266 rfl rfl dX7_now_53 rfl ?_
    refine j_get (q := 59) (ci := 3) (q0 := 1) (kf := 1) (v := .int (nI sd)) F inX3 rfl rfl rfl tw_161 rfl rfl dX7_now_56 rfl ?_
    refine j_callS (q := 62) (As := [.int (nI sd)]) (wr := [(o0, .inr (7, [.ref x0, .ref r0, .ref t0, .ref p0, .ref i0, .int (nI ki), .ref b0, .ref d0, .ref h0, .ref k0])), (p0, .inr (3, [.int (nI be), .int (nI sd), .int (nI tu), .int (nI fo), .int (nI kn), .ref p1]))]) (st := []) F (c_bitCount G (k := sd) (by omega)) kwJ6_bitCount_0f7a4 tw_407 tw_406 ⟨Nat.le_of_ble_eq_true rfl, Nat.le_of_ble_eq_true rfl, rfl, rfl, Nat.le_of_ble_eq_true rfl, Nat.le_of_ble_eq_true rfl⟩ [] [0, 1] rfl rfl rfl rfl rfl rfl rfl (Nat.le_of_ble_eq_true rfl) dX7_now_59 rfl ?_
    rintro r_ w_ ⟨rfl, rfl⟩
    refine j_w (w' := [(o0, .inr (7, [.ref x0, .ref r0, .ref t0, .ref p0, .ref i0, .int (nI ki), .ref b0, .ref d0, .ref h0, .ref k0])), (p0, .inr (3, [.int (nI be), .int (nI sd), .int (nI tu), .int (nI fo), .int (nI kn), .ref p1]))]) [0, 1] rfl rfl ?_
    show Jw G X _ 0 0 62 _ [.int (nI (pcN sd))] _
    exact j_iret (w2 := [(o0, .inr (7, [.ref x0, .ref r0, .ref t0, .ref p0, .ref i0, .int (nI ki), .ref b0, .ref d0, .ref h0, .ref k0])), (p0, .inr (3, [.int (nI be), .int (nI sd), .int (nI tu), .int (nI fo), .int (nI kn), .ref p1]))]) F R0 rfl [0, 1] rfl rfl (⟨by rw [aNow, if_neg (by decide), if_neg (by decide), if_pos rfl], rfl⟩) dX7_now_62
  · refine j_tabIn (t := 63) F dX7_now_1 (by decide) (by decide) rfl rfl ?_
    refine j_aload_n (q := 64) (i0 := 0) F rfl dX7_now_63 rfl ?_
    refine j_get (q := 67) (ci := 7) (q0 := 0) (kf := 3) (v := .ref p0) F inX7 rfl rfl rfl tw_266 rfl rfl dX7_now_64 rfl ?_
    refine j_get (q := 70) (ci := 3) (q0 := 1) (kf := 3) (v := .int (nI fo)) F inX3 rfl rfl rfl tw_165 rfl rfl dX7_now_67 rfl ?_
    exact j_iret (w2 := [(o0, .inr (7, [.ref x0, .ref r0, .ref t0, .ref p0, .ref i0, .int (nI ki), .ref b0, .ref d0, .ref h0, .ref k0])), (p0, .inr (3, [.int (nI be), .int (nI sd), .int (nI tu), .int (nI fo), .int (nI kn), .ref p1]))]) F R0 rfl [0, 1] rfl rfl (⟨by rw [aNow, if_neg (by decide), if_neg (by decide), if_neg (by decide), if_pos rfl], rfl⟩) dX7_now_70
  · refine j_tabIn (t := 71) F dX7_now_1 (by decide) (by decide) rfl rfl ?_
    refine j_iconst (q := 72) (v := nI 3) F (by decide) dX7_now_71 rfl ?_
    refine j_aload_n (q := 73) (i0 := 0) F rfl dX7_now_72 rfl ?_
    refine j_get (q := 76) (ci := 7) (q0 := 0) (kf := 3) (v := .ref p0) F inX7 rfl rfl rfl tw_266 rfl rfl dX7_now_73 rfl ?_
    refine j_get (q := 79) (ci := 3) (q0 := 1) (kf := 2) (v := .int (nI tu)) F inX3 rfl rfl rfl tw_163 rfl rfl dX7_now_76 rfl ?_
    refine j_isub (q := 80) (v := nI (3 - tu)) F (pk_sub (by omega)) dX7_now_79 rfl ?_
    exact j_iret (w2 := [(o0, .inr (7, [.ref x0, .ref r0, .ref t0, .ref p0, .ref i0, .int (nI ki), .ref b0, .ref d0, .ref h0, .ref k0])), (p0, .inr (3, [.int (nI be), .int (nI sd), .int (nI tu), .int (nI fo), .int (nI kn), .ref p1]))]) F R0 rfl [0, 1] rfl rfl (⟨by rw [aNow, if_neg (by decide), if_neg (by decide), if_neg (by decide), if_neg (by decide), if_pos rfl], rfl⟩) dX7_now_80
  · refine j_tabOut (t := 81) F dX7_now_1 hs1 rfl ?_
    refine j_iconst (q := 82) (v := (-1)) F (by decide) dX7_now_81 rfl ?_
    exact j_iret (w2 := [(o0, .inr (7, [.ref x0, .ref r0, .ref t0, .ref p0, .ref i0, .int (nI ki), .ref b0, .ref d0, .ref h0, .ref k0])), (p0, .inr (3, [.int (nI be), .int (nI sd), .int (nI tu), .int (nI fo), .int (nI kn), .ref p1]))]) F R0 rfl [0, 1] rfl rfl (⟨by rw [aNow, if_neg (sw_out hs1 (N := 4) (by decide) (by decide)), if_neg (sw_out hs1 (N := 4) (by decide) (by decide)), if_neg (sw_out hs1 (N := 4) (by decide) (by decide)), if_neg (sw_out hs1 (N := 4) (by decide) (by decide)), if_neg (sw_out hs1 (N := 4) (by decide) (by decide))], rfl⟩) dX7_now_82

set_option maxHeartbeats 4000000 in
set_option maxRecDepth 100000 in
theorem c_X7_trace (G : Gm) {o0 x0 r0 t0 p0 i0 b0 d0 h0 k0 : Nat} {ki : Nat}  {tr : Int64}    : Mg G yX7_trace cX7_trace 1 (some .long) ({ frames := 0, cells := 0, slots := 0, locals := 0 } : Room) 0 0 [.ref o0] [(o0, .inr (7, [.ref x0, .ref r0, .ref t0, .ref p0, .ref i0, .int (nI ki), .ref b0, .ref d0, .ref h0, .ref k0])), (k0, .inr (2, [.ref t0, .ref p0, .long tr]))] (fun r w2 => r = some (.long tr) ∧ w2 = [(o0, .inr (7, [.ref x0, .ref r0, .ref t0, .ref p0, .ref i0, .int (nI ki), .ref b0, .ref d0, .ref h0, .ref k0])), (k0, .inr (2, [.ref t0, .ref p0, .long tr]))]) := by
  refine Mg.mk (lv := [(0, .ref o0)]) (by decide) rfl rfl (fun X F R0 => ?_)
  refine j_aload_n (q := 1) (i0 := 0) F rfl dX7_trace_0 rfl ?_
  refine j_get (q := 4) (ci := 7) (q0 := 0) (kf := 9) (v := .ref k0) F inX7 rfl rfl rfl tw_272 rfl rfl dX7_trace_1 rfl ?_
  refine j_get (q := 7) (ci := 2) (q0 := 1) (kf := 2) (v := .long tr) F inX2 rfl rfl rfl tw_255 rfl rfl dX7_trace_4 rfl ?_
  exact j_lret (w2 := [(o0, .inr (7, [.ref x0, .ref r0, .ref t0, .ref p0, .ref i0, .int (nI ki), .ref b0, .ref d0, .ref h0, .ref k0])), (k0, .inr (2, [.ref t0, .ref p0, .long tr]))]) F R0 rfl [0, 1] rfl rfl (⟨rfl, rfl⟩) dX7_trace_7

