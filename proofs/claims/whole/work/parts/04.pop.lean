/-- how many bits of x (16 of them) stand -/
def pcN (x : Nat) : Nat := fb_ct (fun i => x.testBit i) 16
def allR (p : Nat → Bool) : Nat → Nat → Bool
  | 0, s => p s
  | d + 1, s => allR p d (2 * s) && allR p d (2 * s + 1)
theorem allR_spec {p : Nat → Bool} : ∀ (d s : Nat), allR p d s = true → ∀ k, k / 2 ^ d = s → p k = true
  | 0, s, h, k, hk => by
    rw [Nat.pow_zero, Nat.div_one] at hk
    subst hk
    exact h
  | d + 1, s, h, k, hk => by
    have h2 : allR p d (2 * s) = true ∧ allR p d (2 * s + 1) = true := by
      have h3 : (allR p d (2 * s) && allR p d (2 * s + 1)) = true := h
      rwa [Bool.and_eq_true] at h3
    rw [Nat.pow_succ, ← Nat.div_div_eq_div_mul] at hk
    rcases (show k / 2 ^ d = 2 * s ∨ k / 2 ^ d = 2 * s + 1 by omega) with e | e
    · exact allR_spec d _ h2.1 k e
    · exact allR_spec d _ h2.2 k e
def pcF (k : Nat) : Nat := Nat.add (Nat.land k 1) (Nat.add (Nat.land (Nat.shiftRight k 1) 1) (Nat.add (Nat.land (Nat.shiftRight k 2) 1) (Nat.add (Nat.land (Nat.shiftRight k 3) 1) (Nat.add (Nat.land (Nat.shiftRight k 4) 1) (Nat.add (Nat.land (Nat.shiftRight k 5) 1) (Nat.add (Nat.land (Nat.shiftRight k 6) 1) (Nat.add (Nat.land (Nat.shiftRight k 7) 1) (Nat.add (Nat.land (Nat.shiftRight k 8) 1) (Nat.add (Nat.land (Nat.shiftRight k 9) 1) (Nat.add (Nat.land (Nat.shiftRight k 10) 1) (Nat.add (Nat.land (Nat.shiftRight k 11) 1) (Nat.add (Nat.land (Nat.shiftRight k 12) 1) (Nat.add (Nat.land (Nat.shiftRight k 13) 1) (Nat.add (Nat.land (Nat.shiftRight k 14) 1) (Nat.land (Nat.shiftRight k 15) 1)))))))))))))))
def br1 (k : Nat) : Nat := Nat.sub k (Nat.land (Nat.shiftRight k 1) 1431655765)
def br2 (k : Nat) : Nat := Nat.add (Nat.land k 858993459) (Nat.land (Nat.shiftRight k 2) 858993459)
def br3 (k : Nat) : Nat := Nat.land (Nat.add k (Nat.shiftRight k 4)) 252645135
def br4 (k : Nat) : Nat := Nat.add k (Nat.shiftRight k 8)
def br5 (k : Nat) : Nat := Nat.add k (Nat.shiftRight k 16)
def bcK (k : Nat) : Bool := Nat.beq (Nat.land (br5 (br4 (br3 (br2 (br1 k))))) 63) (pcF k)
def bcM (k : Nat) : Bool := Nat.beq (Nat.add (pcF (Nat.land k (Nat.sub k 1))) 1) (pcF k)
set_option maxRecDepth 100000 in
theorem bc_a0 : allR bcK 12 0 = true := by decide +kernel
set_option maxRecDepth 100000 in
theorem bc_m0 : allR (fun k => Nat.beq k 0 || bcM k) 12 0 = true := by decide +kernel
set_option maxRecDepth 100000 in
theorem bc_a1 : allR bcK 12 1 = true := by decide +kernel
set_option maxRecDepth 100000 in
theorem bc_m1 : allR (fun k => Nat.beq k 0 || bcM k) 12 1 = true := by decide +kernel
set_option maxRecDepth 100000 in
theorem bc_a2 : allR bcK 12 2 = true := by decide +kernel
set_option maxRecDepth 100000 in
theorem bc_m2 : allR (fun k => Nat.beq k 0 || bcM k) 12 2 = true := by decide +kernel
set_option maxRecDepth 100000 in
theorem bc_a3 : allR bcK 12 3 = true := by decide +kernel
set_option maxRecDepth 100000 in
theorem bc_m3 : allR (fun k => Nat.beq k 0 || bcM k) 12 3 = true := by decide +kernel
set_option maxRecDepth 100000 in
theorem bc_a4 : allR bcK 12 4 = true := by decide +kernel
set_option maxRecDepth 100000 in
theorem bc_m4 : allR (fun k => Nat.beq k 0 || bcM k) 12 4 = true := by decide +kernel
set_option maxRecDepth 100000 in
theorem bc_a5 : allR bcK 12 5 = true := by decide +kernel
set_option maxRecDepth 100000 in
theorem bc_m5 : allR (fun k => Nat.beq k 0 || bcM k) 12 5 = true := by decide +kernel
set_option maxRecDepth 100000 in
theorem bc_a6 : allR bcK 12 6 = true := by decide +kernel
set_option maxRecDepth 100000 in
theorem bc_m6 : allR (fun k => Nat.beq k 0 || bcM k) 12 6 = true := by decide +kernel
set_option maxRecDepth 100000 in
theorem bc_a7 : allR bcK 12 7 = true := by decide +kernel
set_option maxRecDepth 100000 in
theorem bc_m7 : allR (fun k => Nat.beq k 0 || bcM k) 12 7 = true := by decide +kernel
theorem bc_K {k : Nat} (h : k < 32768) : bcK k = true := by
  have h2 : k / 2 ^ 12 < 8 := by omega
  rcases (show k / 2 ^ 12 = 0 ∨ k / 2 ^ 12 = 1 ∨ k / 2 ^ 12 = 2 ∨ k / 2 ^ 12 = 3 ∨ k / 2 ^ 12 = 4 ∨ k / 2 ^ 12 = 5 ∨ k / 2 ^ 12 = 6 ∨ k / 2 ^ 12 = 7 by omega) with e | e | e | e | e | e | e | e
  · exact allR_spec 12 _ bc_a0 k e
  · exact allR_spec 12 _ bc_a1 k e
  · exact allR_spec 12 _ bc_a2 k e
  · exact allR_spec 12 _ bc_a3 k e
  · exact allR_spec 12 _ bc_a4 k e
  · exact allR_spec 12 _ bc_a5 k e
  · exact allR_spec 12 _ bc_a6 k e
  · exact allR_spec 12 _ bc_a7 k e
theorem bc_M {k : Nat} (h : k < 32768) (h0 : k ≠ 0) : bcM k = true := by
  have h2 : k / 2 ^ 12 < 8 := by omega
  have h3 : (Nat.beq k 0 || bcM k) = true := by
    rcases (show k / 2 ^ 12 = 0 ∨ k / 2 ^ 12 = 1 ∨ k / 2 ^ 12 = 2 ∨ k / 2 ^ 12 = 3 ∨ k / 2 ^ 12 = 4 ∨ k / 2 ^ 12 = 5 ∨ k / 2 ^ 12 = 6 ∨ k / 2 ^ 12 = 7 by omega) with e | e | e | e | e | e | e | e
    · exact allR_spec 12 _ bc_m0 k e
    · exact allR_spec 12 _ bc_m1 k e
    · exact allR_spec 12 _ bc_m2 k e
    · exact allR_spec 12 _ bc_m3 k e
    · exact allR_spec 12 _ bc_m4 k e
    · exact allR_spec 12 _ bc_m5 k e
    · exact allR_spec 12 _ bc_m6 k e
    · exact allR_spec 12 _ bc_m7 k e
  rw [Bool.or_eq_true, Nat.beq_eq] at h3
  exact h3.resolve_left h0
theorem pcF_N (k : Nat) : pcF k = pcN k := by
  have e : ∀ i, Nat.land (Nat.shiftRight k i) 1 = if k.testBit i then 1 else 0 := by
    intro i
    have h := bitN_t k i
    unfold bitN at h
    show k >>> i &&& 1 = _
    rw [h]
    cases k.testBit i <;> rfl
  have e0 : Nat.land k 1 = if k.testBit 0 then 1 else 0 := by
    have h := e 0
    exact h
  unfold pcF pcN
  simp only [fb_ct, e, e0]
  simp only [Nat.add_eq, Nat.zero_add, Nat.add_assoc]
theorem pc_many {k : Nat} (h : k < 32768) (h0 : k ≠ 0) : pcN (k &&& (k - 1)) + 1 = pcN k := by
  have h1 := bc_M h h0
  unfold bcM at h1
  rw [Nat.beq_eq, pcF_N, pcF_N] at h1
  exact h1
theorem shr_le (k i : Nat) : k >>> i ≤ k := by rw [Nat.shiftRight_eq_div_pow]; exact Nat.div_le_self _ _
theorem pc_bc {k : Nat} (h : k < 32768) : br5 (br4 (br3 (br2 (br1 k)))) &&& 63 = pcN k := by
  have h1 := bc_K h
  unfold bcK at h1
  rw [Nat.beq_eq, pcF_N] at h1
  exact h1
theorem pcN_le (k : Nat) : pcN k ≤ 16 := fb_ct_le _ _
theorem pcN_split (a s : Nat) : pcN (a &&& s) + pcN (a &&& (s ^^^ 4294967295)) = pcN a := by
  have hb : ∀ i, i < 16 → (4294967295 : Nat).testBit i = true := by decide
  unfold pcN
  rw [← fb_ct_or (p := fun i => (a &&& s).testBit i) (q := fun i => (a &&& (s ^^^ 4294967295)).testBit i)]
  · apply fb_ct_cong
    intro i hi
    simp only [Nat.testBit_and, Nat.testBit_xor, hb i hi]
    cases a.testBit i <;> cases s.testBit i <;> rfl
  · intro i hi
    simp only [Nat.testBit_and, Nat.testBit_xor, hb i hi]
    cases a.testBit i <;> cases s.testBit i <;> simp
theorem pcN_sub (a s : Nat) : pcN (a &&& (s ^^^ 4294967295)) = pcN a - pcN (a &&& s) := by
  have := pcN_split a s
  omega
theorem and_lt {a b c : Nat} (h : a < c) : a &&& b < c := Nat.lt_of_le_of_lt Nat.and_le_left h
theorem nx_su : ∀ n, n < 32 → (((nI n).toUInt32 &&& Int32.toUInt32 31).toBitVec % 32).toNat = n := by decide +kernel
