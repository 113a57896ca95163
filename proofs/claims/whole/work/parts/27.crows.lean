section CR
variable {G : Gm} {X : Cx} {y : MethodName} {cc : ByteArray} {nL k n : Nat} {ret : Option FieldType} {rm : Room} {pc q : Nat} {lv : List (Nat × Value)} {st : List Value} {w w' : va_W}
theorem j_objI (F : Fx G X y cc nL ret rm) {a idx : Nat} (hlk : Cond.methodLink y.cls idx Lib.objectInit ∈ TB) (hin : Cond.instanceMethod Lib.objectInit ∈ TB) (hco : Cond.code Lib.objectInit ⟨#[0xb1]⟩ 1 none ∈ TB) (hfr : 1 ≤ rm.frames) (hlo : (st.map fun v => v.category).sum + 12 ≤ rm.locals) (d : decode cc pc = .ok (.invokespecial idx, 3)) (hq : pc + 3 = q) (kk : Jw G X nL k n q lv st w) : Jw G X nL k n pc lv (.ref a :: st) w := by
  obtain ⟨l, D, cI, cP⟩ := G
  obtain ⟨p, e, R, s, m, args, below, meth, c, A, Q⟩ := X
  obtain ⟨hx, hb, hml, hown, hts, hr, hlocks, hK, hA, hR, hnm⟩ := F
  subst hq
  subst hR
  intro H locs ls hP hD hS hl
  refine W.objInit hx hb hown (hts _ hlk) (hts _ hin) (hts _ hco) rfl (by rw [hml]; exact hl.1) rfl d hfr (by show 2 * 0 + _ + 12 ≤ _; omega) ?_
  exact kk H locs ls hP hD hS hl
theorem j_new (F : Fx G X y cc nL ret rm) {ci N idx : Nat} {C : String} {T : u_T} {ty0 : Nat → FieldType} {fs : List Value} (hin : ∀ z ∈ u_ws C T N, z ∈ TB) (hty : ∀ k, k < N → parseFieldDescriptor (T k).2.2.1 = some (ty0 k)) (hcl : Cond.classLink y.cls idx C ∈ TB) (hinst : Cond.instantiable C N ∈ TB) (hini : Cond.initialized C ∈ TB) (hc : vwCl[ci]? = some (C, T, N)) (hfs : ∀ j, j < N → defaultValue (ty0 j) = vp_V fs j) (hce : k + 1 ≤ rm.cells) (hsl : n + N ≤ rm.slots) (d : decode cc pc = .ok (.new idx, 3)) (hq : pc + 3 = q) (kk : ∀ a : Nat, Jw G X nL (k + 1) (n + N) q lv (.ref a :: st) (w ++ [(a, .inr (ci, fs))])) : Jw G X nL k n pc lv st w := by
  obtain ⟨l, D, cI, cP⟩ := G
  obtain ⟨p, e, R, s, m, args, below, meth, c, A, Q⟩ := X
  obtain ⟨hx, hb, hml, hown, hts, hr, hlocks, hK, hA, hR, hnm⟩ := F
  subst hq
  subst hR
  intro H locs ls hP hD hS hl
  exact va_new hx hb hts hin ty0 hty hown (hts _ hcl) (hts _ hinst) (hts _ hini) hK.1 hP hD hS hA hc hfs hce hsl d (fun a H1 hP hD hS => kk a H1 locs ls hP hD hS hl)
theorem j_newa (F : Fx G X y cc nL ret rm) {N : Nat} {x : Int32} (hx0 : x = nI N) (hN : Nat.ble N 1000 = true) (har : Cond.arrayClass .int ∈ TB) (hce : k + 1 ≤ rm.cells) (hsl : n + N ≤ rm.slots) (d : decode cc pc = .ok (.newarray .int, 2)) (hq : pc + 2 = q) (kk : ∀ a : Nat, Jw G X nL (k + 1) (n + N) q lv (.ref a :: st) (w ++ [(a, .inl (G.2.2.1, N, .inl (nF fun _ => 0)))])) : Jw G X nL k n pc lv (.int x :: st) w := by
  obtain ⟨l, D, cI, cP⟩ := G
  obtain ⟨p, e, R, s, m, args, below, meth, c, A, Q⟩ := X
  obtain ⟨hx, hb, hml, hown, hts, hr, hlocks, hK, hA, hR, hnm⟩ := F
  subst hq
  subst hR
  subst hx0
  have h1 := Nat.le_of_ble_eq_true hN
  intro H locs ls hP hD hS hl
  refine va_newa (atype := .int) (ty := .int) (a0 := (N, .inl (nF fun _ => 0))) hx hb (hts _ har) rfl hK.1 hP hD hS hA (fun _ => rfl) (nI_pos (by omega)) (nI_clamp (by omega)) (Nat.le_trans (Nat.mul_le_mul_right (componentBytes .int) h1) (Nat.le_of_ble_eq_true rfl)) hce hsl d (fun a cA H1 hK2 hP hD hS => ?_)
  have e1 := va_nm_int (hK2.2 2 _ rfl).2
  have e2 := va_nm_int (hK.1.2 0 _ rfl).2
  have e3 : cA = cI := Option.some.inj (e1.symm.trans e2)
  subst e3
  exact kk a H1 locs ls hP hD hS hl
theorem j_newq (F : Fx G X y cc nL ret rm) {N idx : Nat} {x : Int32} (hx0 : x = nI N) (hN : Nat.ble N 1000 = true) (hcl : Cond.classLink y.cls idx "FewerLamps$Present" ∈ TB) (hce : k + 1 ≤ rm.cells) (hsl : n + N ≤ rm.slots) (d : decode cc pc = .ok (.anewarray idx, 3)) (hq : pc + 3 = q) (kk : ∀ a : Nat, Jw G X nL (k + 1) (n + N) q lv (.ref a :: st) (w ++ [(a, .inl (G.2.2.2, N, .inr (.inr (.inr (.inr fun _ => none)))))])) : Jw G X nL k n pc lv (.int x :: st) w := by
  obtain ⟨l, D, cI, cP⟩ := G
  obtain ⟨p, e, R, s, m, args, below, meth, c, A, Q⟩ := X
  obtain ⟨hx, hb, hml, hown, hts, hr, hlocks, hK, hA, hR, hnm⟩ := F
  subst hq
  subst hR
  subst hx0
  have h1 := Nat.le_of_ble_eq_true hN
  intro H locs ls hP hD hS hl
  refine va_newq (C := "FewerLamps$Present") hx hb hown (hts _ hcl) hK.2.2 hK.1 hP hD hS hA (nI_pos (by omega)) (nI_clamp (by omega)) (by omega) hce hsl d (fun a cA H1 hK2 hP hD hS => ?_)
  have e1 := va_nmO (hK2.2 2 _ rfl).2 rfl
  have e2 := va_nmO (hK.1.2 1 _ rfl).2 rfl
  have e3 : cA = cP := Option.some.inj (e1.symm.trans e2)
  subst e3
  exact kk a H1 locs ls hP hD hS hl
theorem j_aast (F : Fx G X y cc nL ret rm) {b v q0 qk ci N N2 i : Nat} {T : u_T} {vs : List Value} {f f2 : Nat → Option Nat} {x : Int32} (he : w[q0]? = some (b, .inl (G.2.2.2, N, .inr (.inr (.inr (.inr f)))))) (hv : w[qk]? = some (v, .inr (ci, vs))) (hc : vwCl[ci]? = some ("FewerLamps$Present", T, N2)) (hi : x = nI i) (hiN : i < N) (hN : Nat.ble N 1000 = true) (hf : va_up f i (some v) = f2) (hw : w.set q0 (b, .inl (G.2.2.2, N, .inr (.inr (.inr (.inr f2))))) = w') (d : decode cc pc = .ok (.aastore, 1)) (hq : pc + 1 = q) (kk : Jw G X nL k n q lv st w') : Jw G X nL k n pc lv (.ref v :: .int x :: .ref b :: st) w := by
  obtain ⟨l, D, cI, cP⟩ := G
  obtain ⟨p, e, R, s, m, args, below, meth, c, A, Q⟩ := X
  obtain ⟨hx, hb, hml, hown, hts, hr, hlocks, hK, hA, hR, hnm⟩ := F
  subst hq
  subst hf
  subst hw
  have hb2 : N < 2 ^ 31 := Nat.lt_of_le_of_lt (Nat.le_of_ble_eq_true hN) (by decide)
  intro H locs ls hP hD hS hl
  refine va_astq hx hb hK.1 hP hD hS q0 1 qk ci he rfl hv hc (by rw [hi]; exact vp_in_nI hiN hb2) d (fun H locs hP hD hS => ?_)
  rw [hi, nI_clamp (Nat.lt_trans hiN hb2)] at hP hD
  exact kk H locs ls hP hD hS hl
theorem j_arrq {q0 b N : Nat} {f g : Nat → Option Nat} (he : w[q0]? = some (b, .inl (G.2.2.2, N, .inr (.inr (.inr (.inr f)))))) (h : ∀ i, i < N → f i = g i) (hw : w.set q0 (b, .inl (G.2.2.2, N, .inr (.inr (.inr (.inr g))))) = w') (kk : Jw G X nL k n pc lv st w') : Jw G X nL k n pc lv st w := by
  obtain ⟨l, D, cI, cP⟩ := G
  obtain ⟨p, e, R, s, m, args, below, meth, c, A, Q⟩ := X
  subst hw
  intro H locs ls hP hD hS hl
  refine kk H locs ls (hP.set hD he ?_ (fun _ _ => rfl)) (hD.set he) hS hl
  have h1 := hP q0 _ he
  have e : vp_cell cP (N, .inr (.inr (.inr (.inr f)))) = vp_cell cP (N, .inr (.inr (.inr (.inr g)))) := by
    rw [vp_cell_q, vp_cell_q, arrV, arrV]
    congr 2
    funext j
    rw [h j.val j.isLt]
  show H[b]? = some (vp_cell cP (N, .inr (.inr (.inr (.inr g)))))
  rw [← e]
  exact h1
end CR
