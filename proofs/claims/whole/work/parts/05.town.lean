set_option maxHeartbeats 4000000 in
set_option maxRecDepth 100000 in
theorem c_X6_isLamp (G : Gm) {t0 t1 t2 t3 t4 n m t : Nat} {x : Int32} (hn : n ≤ 9)  : Mg G yX6_isLamp cX6_isLamp 2 (some .boolean) ({ frames := 0, cells := 0, slots := 0, locals := 0 } : Room) 0 0 [.ref t0, .int x] [(t0, .inr (6, [.int (nI n), .int (nI m), .int (nI t), .ref t1, .ref t2, .ref t3, .ref t4]))] (fun r w2 => w2 = [(t0, .inr (6, [.int (nI n), .int (nI m), .int (nI t), .ref t1, .ref t2, .ref t3, .ref t4]))] ∧ ((r = some (.int (nI 1)) ∧ inR x n) ∨ (r = some (.int (nI 0)) ∧ ¬ inR x n))) := by
  refine Mg.mk (by decide) rfl rfl (fun X F R0 => ?_)
  refine j_iload_n (q := 1) (i0 := 1) F rfl dX6_isLamp_0 rfl ?_
  refine j_if_lt (q := 4) (t := 16) F (Pp := x < 0) (Iff.rfl) dX6_isLamp_1 rfl rfl (fun c1 => ?_) (fun c1 => ?_)
  · skip
    refine j_iconst (q := 17) (v := nI 0) F (by decide) dX6_isLamp_16 rfl ?_
    exact j_zret (w2 := [(t0, .inr (6, [.int (nI n), .int (nI m), .int (nI t), .ref t1, .ref t2, .ref t3, .ref t4]))]) F R0 rfl rfl [0] rfl rfl (⟨rfl, Or.inr ⟨rfl, inR_neg c1 (by omega)⟩⟩) dX6_isLamp_17
  · skip
    refine j_iload_n (q := 5) (i0 := 1) F rfl dX6_isLamp_4 rfl ?_
    refine j_aload_n (q := 6) (i0 := 0) F rfl dX6_isLamp_5 rfl ?_
    refine j_get (q := 9) (ci := 6) (q0 := 0) (kf := 0) (v := .int (nI n)) F inX6 rfl rfl rfl tw_87 rfl rfl dX6_isLamp_6 rfl ?_
    refine j_icmp_ge (q := 12) (t := 16) F (Pp := nI n ≤ x) (Iff.rfl) dX6_isLamp_9 rfl rfl (fun c2 => ?_) (fun c2 => ?_)
    · skip
      refine j_iconst (q := 17) (v := nI 0) F (by decide) dX6_isLamp_16 rfl ?_
      exact j_zret (w2 := [(t0, .inr (6, [.int (nI n), .int (nI m), .int (nI t), .ref t1, .ref t2, .ref t3, .ref t4]))]) F R0 rfl rfl [0] rfl rfl (⟨rfl, Or.inr ⟨rfl, inR_big c2 (by omega)⟩⟩) dX6_isLamp_17
    · skip
      refine j_iconst (q := 13) (v := nI 1) F (by decide) dX6_isLamp_12 rfl ?_
      refine j_goto (t := 17) F dX6_isLamp_13 rfl ?_
      exact j_zret (w2 := [(t0, .inr (6, [.int (nI n), .int (nI m), .int (nI t), .ref t1, .ref t2, .ref t3, .ref t4]))]) F R0 rfl rfl [0] rfl rfl (⟨rfl, Or.inl ⟨rfl, inR_of c1 c2 (by omega)⟩⟩) dX6_isLamp_17

