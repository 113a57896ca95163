/-! THE CLAIM OUT OF ONE WALK OF THE LAW'S BODY. Your part is whole_start (and what it stands on); all else here is the same for every law, but numbers. -/
def R_law : String := "FewerLampsLaw"
def lw_P (b : Addr) (xs : List Int32) (args : Array Value) (s : State) : Prop := args = #[.ref b] ∧ s.IntsAt b xs ∧ xs.length ≤ 256 ∧ (Jvm.Cond.and given_1 narrow_1).before args s = true
def lw_Q (_ : Array Value) (s : State) (o : Outcome) (t : State) : Prop := o = .returned (some (.int 1)) ∧ Framed s o t [] 44 3528
def lw_Z (below : List Frame) (a : Array Value) (s : State) : State → Prop := fun t => ∃ o, t.status = .running ∧ Ended t below o ∧ lw_Q a s o t
/-- the law's own end, with 1 on the stack, nothing written that was there before, its room as the claim has it -/
theorem lw_ret {p : Program} {l : Launch} {e : Env} {s : State} {m : MethodId} {below : List Frame} {meth : Method} {c : Code} {b : Nat} (hx : p.tables.exec = Jvm.exec) (hb : c.code = code) (hr : meth.sig.returnType = ret) (hlocks : meth.locks = false) {pc : Nat} {H : Heap} {ls : Array Slot} (hdg : decode code pc = .ok (.ireturn, 1)) : W p l e room_1 s m #[Value.ref b] below meth c H [] 44 3528 (lw_Z below #[Value.ref b] s) (F0 m pc ls [.int 1]) := by
  intro T hT X
  obtain ⟨fs, hret, hrun, hended, hW, hframe⟩ := X.leave (v := some (.int 1)) (hlocks := hlocks) (fun h => by rw [hr] at h; cases h)
  have hmeth' : T.vm.method? m = some meth := X.method'
  refine ⟨T.setFrames fs, ?_, .returned (some (.int 1)), hrun, hended, rfl, ⟨_, rfl⟩, hW, hframe⟩
  jvm_step X.here [X.here.top, hx, hb, hdg, hmeth', hr, ret, narrow_b1]
  (try refine ⟨rfl, ?_⟩); (try refine ⟨rfl, ?_⟩)
  first | (intro acts; rw [hret _ acts rfl rfl rfl]) | rw [hret _ _ rfl rfl rfl]
  exact Steps.refl _
/-- what holds at the law's entry: the machine, the code, the tables' words (any of lw_tbl by 'hts w (by decide +kernel)'), the script of L ints xs at the cell b, what the Statement gives of the start (any of its parts by flat_of_before) -/
def lw_At (p : Program) (s : State) (m : MethodId) (meth : Method) (c : Code) (b L : Nat) (xs : Nat → Int32) : Prop :=
  p.tables.exec = Jvm.exec ∧ c.code = code ∧ meth.sig.returnType = ret ∧ c.maxLocals = 4 ∧ s.vm.findClass R_law = some m.cls ∧ (∀ w ∈ lw_tbl, w.before #[Value.ref b] s = true) ∧ va_X b L xs s s.heap ∧ b < s.heap.size ∧ meth.locks = false ∧ (Jvm.Cond.and given_1 narrow_1).before #[Value.ref b] s = true

def Sc (X : Cx) (b L : Nat) (xs : Nat → Int32) : Prop := match X with
  | (_, _, _, s, _, _, _, _, _, A, _) => va_X b L xs s s.heap ∧ b < s.heap.size ∧ ¬ A b
section LR
variable {G : Gm} {X : Cx} {y : MethodName} {cc : ByteArray} {nL k n : Nat} {ret : Option FieldType} {rm : Room} {pc q b L : Nat} {xs : Nat → Int32} {lv : List (Nat × Value)} {st : List Value} {w : va_W}
theorem j_sld (F : Fx G X y cc nL ret rm) (hSc : Sc X b L xs) {i : Nat} {x : Int32} (hi : x = nI i) (hiL : i < L) (hL : L ≤ 256) (d : decode cc pc = .ok (.iaload, 1)) (hq : pc + 1 = q) (kk : Jw G X nL k n q lv (.int (xs i) :: st) w) : Jw G X nL k n pc lv (.int x :: .ref b :: st) w := by
  obtain ⟨l, D, cI, cP⟩ := G
  obtain ⟨p, e, R, s, m, args, below, meth, c, A, Q⟩ := X
  obtain ⟨hx, hb, hml, hown, hts, hr, hlocks, hK, hA, hR, hnm⟩ := F
  subst hq
  intro H locs ls hP hD hS hl
  refine va_sld hx hb hSc.1 hSc.2.1 hSc.2.2 hS (by rw [hi]; exact vp_in_nI hiL (by omega)) d ?_
  rw [hi, nI_clamp (by omega)]
  exact kk H locs ls hP hD hS hl
theorem j_slen (F : Fx G X y cc nL ret rm) (hSc : Sc X b L xs) (d : decode cc pc = .ok (.arraylength, 1)) (hq : pc + 1 = q) (kk : Jw G X nL k n q lv (.int (nI L) :: st) w) : Jw G X nL k n pc lv (.ref b :: st) w := by
  obtain ⟨l, D, cI, cP⟩ := G
  obtain ⟨p, e, R, s, m, args, below, meth, c, A, Q⟩ := X
  obtain ⟨hx, hb, hml, hown, hts, hr, hlocks, hK, hA, hR, hnm⟩ := F
  subst hq
  intro H locs ls hP hD hS hl
  exact va_slen hx hb hSc.1 hSc.2.1 hSc.2.2 hS d (kk H locs ls hP hD hS hl)
end LR
section CG
variable {n m : Nat} {ru la lb ru2 la2 lb2 : Nat → Nat}
theorem bsd_fun (h2 : ∀ k, k < m → la k = la2 k) (h3 : ∀ k, k < m → lb k = lb2 k) (wo l : Nat) : bsd la lb wo l m = bsd la2 lb2 wo l m := bsd_cong h2 h3
theorem aLamp_cong (hn : n ≤ 9) (h1 : ∀ l, l < n → ru l = ru2 l) (h2 : ∀ k, k < m → la k = la2 k) (h3 : ∀ k, k < m → lb k = lb2 k) (P : Pr) (x y : Int32) : aLamp n m ru la lb P x y = aLamp n m ru2 la2 lb2 P x y := by
  unfold aLamp
  by_cases hx : inR x n
  · rw [if_pos (cb_1 hx), if_pos (cb_1 hx)]
    obtain ⟨j, hj, rfl⟩ := hx
    rw [nI_clamp (by omega), h1 j hj]
    simp only [bsd_fun h2 h3]
  · rw [cb_0 hx, if_neg (by decide), if_neg (by decide)]
theorem aStreet_cong (hm : m ≤ 15) (h2 : ∀ k, k < m → la k = la2 k) (h3 : ∀ k, k < m → lb k = lb2 k) (P : Pr) (x y : Int32) : aStreet m la lb P x y = aStreet m la2 lb2 P x y := by
  unfold aStreet
  by_cases hx : inR x m
  · rw [if_pos (cb_1 hx), if_pos (cb_1 hx)]
    obtain ⟨j, hj, rfl⟩ := hx
    rw [nI_clamp (by omega), h2 j hj, h3 j hj]
  · rw [cb_0 hx, if_neg (by decide), if_neg (by decide)]
theorem aMark_cong (hn : n ≤ 9) (h1 : ∀ l, l < n → ru l = ru2 l) (h2 : ∀ k, k < m → la k = la2 k) (h3 : ∀ k, k < m → lb k = lb2 k) (sd : Nat) (x y : Int32) : aMark n m ru la lb sd x y = aMark n m ru2 la2 lb2 sd x y := by
  unfold aMark
  by_cases hy : inR y n
  · obtain ⟨j, hj, rfl⟩ := hy
    rw [nI_clamp (by omega), h1 j hj, bsd_fun h2 h3]
  · rw [cb_0 hy, if_neg (fun z => absurd z.2 (by decide)), if_neg (fun z => absurd z.2 (by decide))]
theorem mst_cong (h1 : ∀ l, l < n → ru l = ru2 l) (h2 : ∀ k, k < m → la k = la2 k) (h3 : ∀ k, k < m → lb k = lb2 k) (fo sd to : Nat) : ∀ k, mst n m ru la lb fo sd to k = mst n m ru2 la2 lb2 fo sd to k
  | 0 => rfl
  | k + 1 => by rw [mst, mst, mst_cong h1 h2 h3 fo sd to k, Fw_cong h1 h2 h3]
theorem aMist_cong (h1 : ∀ l, l < n → ru l = ru2 l) (h2 : ∀ k, k < m → la k = la2 k) (h3 : ∀ k, k < m → lb k = lb2 k) (fo sd : Nat) (x : Int32) : aMist n m ru la lb fo sd x = aMist n m ru2 la2 lb2 fo sd x := by
  unfold aMist
  rw [mst_cong h1 h2 h3]
theorem aThief_cong (h2 : ∀ k, k < m → la k = la2 k) (h3 : ∀ k, k < m → lb k = lb2 k) {f : Nat → Nat} {sd : Nat} {x y r : Int32} (h : aThief n m la lb f sd x y r) : aThief n m la2 lb2 f sd x y r := by
  unfold aThief at h ⊢
  rw [show (fun l => bsd la2 lb2 0 l m) = (fun l => bsd la lb 0 l m) from funext fun l => (bsd_fun h2 h3 0 l).symm]
  exact h
theorem nwS_cong (h1 : ∀ l, l < n → ru l = ru2 l) (h2 : ∀ k, k < m → la k = la2 k) (h3 : ∀ k, k < m → lb k = lb2 k) (wo a b : Nat) : nwS n m ru la lb wo a b = nwS n m ru2 la2 lb2 wo a b := by
  funext s
  unfold nwS
  rw [show (fun l => bsd la lb wo l m) = (fun l => bsd la2 lb2 wo l m) from funext fun l => bsd_fun h2 h3 wo l, bsd_fun h2 h3 wo a]
  exact rg_cong h1 (fun _ _ => rfl)
theorem aStill_cong (h1 : ∀ l, l < n → ru l = ru2 l) (h2 : ∀ k, k < m → la k = la2 k) (h3 : ∀ k, k < m → lb k = lb2 k) {wo sd : Nat} {x r : Int32} (h : aStill n m ru la lb wo sd x r) : aStill n m ru2 la2 lb2 wo sd x r := by
  unfold aStill SPr at h ⊢
  simp only [nwS_cong h1 h2 h3, bsd_fun h2 h3] at h
  exact h
end CG
theorem Tok.cong {n m : Nat} {ru la lb ru2 la2 lb2 : Nat → Nat} (h : Tok n m ru la lb) (h1 : ∀ l, l < n → ru l = ru2 l) (h2 : ∀ k, k < m → la k = la2 k) (h3 : ∀ k, k < m → lb k = lb2 k) : Tok n m ru2 la2 lb2 := by
  refine ⟨h.1, h.2.1, fun l hl => ?_, fun k hk => ?_, fun j k hjk hk => ?_⟩
  · rw [← h1 l hl]; exact h.2.2.1 l hl
  · rw [← h2 k hk, ← h3 k hk]; exact h.2.2.2.1 k hk
  · rw [← h2 j (by omega), ← h3 j (by omega), ← h2 k hk, ← h3 k hk]; exact h.2.2.2.2 j k hjk hk
theorem KpIs.town {o : Nat} {kp : Nat → Nat} {I : Pr} (hI : KpIs o kp I) (ho : o = 0 ∨ o = 46) : KpIs o (va_up (va_up kp 0 0) 46 0) I := by
  refine ⟨?_, ?_, ?_, ?_, ?_, fun j hj => ?_⟩ <;> rw [up_n _ _ (by omega), up_n _ _ (by omega)]
  · exact hI.1
  · exact hI.2.1
  · exact hI.2.2.1
  · exact hI.2.2.2.1
  · exact hI.2.2.2.2.1
  · exact hI.2.2.2.2.2 j hj
