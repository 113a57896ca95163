/-- an int array's contents out of naturals -/
abbrev nF (f : Nat → Nat) : Nat → Int32 := fun j => nI (f j)
theorem nF_up (f : Nat → Nat) (k v : Nat) : upd (nF f) k (nI v) = nF (va_up f k v) := by
  funext j
  unfold upd va_up
  by_cases h : j = k
  · simp [nF, h]
  · simp [nF, h]
theorem nF_cpy (f g : Nat → Nat) (a b c : Nat) : va_cpy (nF f) (nF g) a b c = nF (va_cpy f g a b c) := by
  funext j
  unfold va_cpy
  by_cases h : b ≤ j ∧ j < b + c
  · simp [nF, h]
  · simp only [nF, if_neg h]
theorem up_s {α : Type} (f : Nat → α) (k : Nat) (v : α) : va_up f k v k = v := by simp [va_up]
theorem up_n {α : Type} (f : Nat → α) {k j : Nat} (v : α) (h : j ≠ k) : va_up f k v j = f j := by simp [va_up, h]
theorem ct {p : Prop} (h : p) : p ↔ True := ⟨fun _ => trivial, fun _ => h⟩
theorem cf {p : Prop} (h : ¬ p) : p ↔ False := ⟨fun z => h z, fun z => z.elim⟩
theorem nx_and (a b : Nat) : nI a &&& nI b = nI (a &&& b) := by
  apply Int32.toBitVec_inj.1
  show BitVec.ofNat 32 a &&& BitVec.ofNat 32 b = BitVec.ofNat 32 (a &&& b)
  apply BitVec.eq_of_getLsbD_eq
  intro i hi
  simp [hi]
theorem nx_or (a b : Nat) : nI a ||| nI b = nI (a ||| b) := by
  apply Int32.toBitVec_inj.1
  show BitVec.ofNat 32 a ||| BitVec.ofNat 32 b = BitVec.ofNat 32 (a ||| b)
  apply BitVec.eq_of_getLsbD_eq
  intro i hi
  simp [hi]
theorem nx_xor (a b : Nat) : nI a ^^^ nI b = nI (a ^^^ b) := by
  apply Int32.toBitVec_inj.1
  show BitVec.ofNat 32 a ^^^ BitVec.ofNat 32 b = BitVec.ofNat 32 (a ^^^ b)
  apply BitVec.eq_of_getLsbD_eq
  intro i hi
  simp [hi]
theorem nx_sl : ∀ n, n < 32 → ((nI n &&& 31).toBitVec.smod 32).toNat = n := by decide +kernel
theorem nx_shl {a l : Nat} (hl : l < 31) (h : a * 2 ^ l < 2 ^ 32) : nI a <<< (nI l &&& 31) = nI (a * 2 ^ l) := pk_shlN _ l (nx_sl l (by omega)) h
theorem nx_shl1 {l : Nat} (hl : l < 31) : nI 1 <<< (nI l &&& 31) = nI (2 ^ l) := by
  have h : 2 ^ l < 2 ^ 32 := Nat.pow_lt_pow_right (by decide) (by omega)
  have := nx_shl (a := 1) hl (by rw [Nat.one_mul]; exact h)
  rw [this, Nat.one_mul]
theorem nx_shr {s l : Nat} (hs : s < 2 ^ 31) (hl : l < 32) : nI s >>> (nI l &&& 31) = nI (s >>> l) := by
  rw [pk_shrN hs _ l (nx_sl l hl), Nat.shiftRight_eq_div_pow]
/-- bit l of s, as 0 or 1 -/
def bitN (s l : Nat) : Nat := s >>> l &&& 1
theorem bitN_le (s l : Nat) : bitN s l ≤ 1 := by
  unfold bitN
  rw [Nat.and_one_is_mod]
  omega
theorem bitN_t (s l : Nat) : bitN s l = (s.testBit l).toNat := by
  unfold bitN
  rw [Nat.toNat_testBit, Nat.and_one_is_mod, Nat.shiftRight_eq_div_pow]
theorem bitN_1 {s l : Nat} (h : s.testBit l = true) : bitN s l = 1 := by rw [bitN_t, h]; rfl
theorem bitN_0 {s l : Nat} (h : s.testBit l = false) : bitN s l = 0 := by rw [bitN_t, h]; rfl
theorem bit_is1 (s l : Nat) : nI (bitN s l) = nI 1 ↔ s.testBit l = true := by
  rw [bitN_t]
  cases s.testBit l
  · exact ⟨fun h => absurd h (by decide), fun h => by cases h⟩
  · exact ⟨fun _ => rfl, fun _ => rfl⟩
theorem bit_is0 (s l : Nat) : nI (bitN s l) = 0 ↔ s.testBit l = false := by
  rw [bitN_t]
  cases s.testBit l
  · exact ⟨fun _ => rfl, fun _ => rfl⟩
  · exact ⟨fun h => absurd h (by decide), fun h => by cases h⟩
theorem nI_eq0 {a : Nat} (h : a < 2 ^ 31) : nI a = 0 ↔ a = 0 := by
  rw [show (0 : Int32) = nI 0 from rfl, nI_eq h (by decide)]
theorem tbF {b : Bool} (h : ¬ b = true) : b = false := by cases b <;> simp_all
theorem tbT {b : Bool} (h : ¬ b = false) : b = true := by cases b <;> simp_all
/-- x is one of 0 .. n-1 -/
def inR (x : Int32) (n : Nat) : Prop := ∃ j : Nat, j < n ∧ x = nI j
theorem inR_of {x : Int32} {n : Nat} (h1 : ¬ x < 0) (h2 : ¬ nI n ≤ x) (hn : n < 2 ^ 31) : inR x n := by
  rcases pk_ix x hn with h | h | h
  · exact absurd h h1
  · exact absurd h h2
  · exact h
theorem inR_neg {x : Int32} {n : Nat} (h : x < 0) (hn : n < 2 ^ 31) : ¬ inR x n := by
  rintro ⟨j, hj, rfl⟩
  exact nI_pos (by omega) h
theorem inR_big {x : Int32} {n : Nat} (h : nI n ≤ x) (hn : n < 2 ^ 31) : ¬ inR x n := by
  rintro ⟨j, hj, rfl⟩
  exact nI_ge hj hn h
theorem inR_nI {j n : Nat} (hj : j < 2 ^ 31) (hn : n < 2 ^ 31) : inR (nI j) n ↔ j < n := by
  constructor
  · rintro ⟨i, hi, e⟩
    rw [nI_eq hj (by omega)] at e
    omega
  · intro h
    exact ⟨j, h, rfl⟩
theorem inL_iff {x : Int32} {Hh : Int64} {n : Nat} (hn : n < 2 ^ 31) (hH : Hh.toInt = (n : Int) - 1) : (0 ≤ x.toInt64 ∧ x.toInt64 ≤ Hh) ↔ inR x n := by
  rw [Int64.le_iff_toInt_le, Int64.le_iff_toInt_le, Int32.toInt_toInt64, hH, show (0 : Int64).toInt = 0 from rfl]
  constructor
  · rintro ⟨h1, h2⟩
    exact inR_of (fun h => by rw [Int32.lt_iff_toInt_lt, show (0 : Int32).toInt = 0 from rfl] at h; omega) (fun h => by rw [Int32.le_iff_toInt_le, nI_toInt hn] at h; omega) hn
  · rintro ⟨j, hj, rfl⟩
    rw [nI_toInt (by omega)]
    omega
theorem inL_c {n : Nat} (hn : n < 2 ^ 30) : (Int32.toInt64 (nI n - nI 1)).toInt = (n : Int) - 1 := by
  rw [Int32.toInt_toInt64, pk_sub_toInt hn (by decide)]
  rfl
theorem sw_1 (x : Int32) : x = nI 0 ∨ x = nI 1 ∨ (x.toInt < 0 ∨ 1 < x.toInt) := by
  rcases pk_ix x (n := 2) (by decide) with h | h | ⟨j, hj, rfl⟩
  · rw [Int32.lt_iff_toInt_lt] at h; exact Or.inr (Or.inr (Or.inl h))
  · rw [Int32.le_iff_toInt_le, nI_toInt (by decide)] at h; exact Or.inr (Or.inr (Or.inr (by omega)))
  · rcases (show j = 0 ∨ j = 1 by omega) with rfl | rfl <;> simp
theorem sw_2 (x : Int32) : x = nI 0 ∨ x = nI 1 ∨ x = nI 2 ∨ (x.toInt < 0 ∨ 2 < x.toInt) := by
  rcases pk_ix x (n := 3) (by decide) with h | h | ⟨j, hj, rfl⟩
  · rw [Int32.lt_iff_toInt_lt] at h; exact Or.inr (Or.inr (Or.inr (Or.inl h)))
  · rw [Int32.le_iff_toInt_le, nI_toInt (by decide)] at h; exact Or.inr (Or.inr (Or.inr (Or.inr (by omega))))
  · rcases (show j = 0 ∨ j = 1 ∨ j = 2 by omega) with rfl | rfl | rfl <;> simp
theorem sw_3 (x : Int32) : x = nI 0 ∨ x = nI 1 ∨ x = nI 2 ∨ x = nI 3 ∨ (x.toInt < 0 ∨ 3 < x.toInt) := by
  rcases pk_ix x (n := 4) (by decide) with h | h | ⟨j, hj, rfl⟩
  · rw [Int32.lt_iff_toInt_lt] at h; exact Or.inr (Or.inr (Or.inr (Or.inr (Or.inl h))))
  · rw [Int32.le_iff_toInt_le, nI_toInt (by decide)] at h; exact Or.inr (Or.inr (Or.inr (Or.inr (Or.inr (by omega)))))
  · rcases (show j = 0 ∨ j = 1 ∨ j = 2 ∨ j = 3 by omega) with rfl | rfl | rfl | rfl <;> simp
theorem sw_4 (x : Int32) : x = nI 0 ∨ x = nI 1 ∨ x = nI 2 ∨ x = nI 3 ∨ x = nI 4 ∨ (x.toInt < 0 ∨ 4 < x.toInt) := by
  rcases pk_ix x (n := 5) (by decide) with h | h | ⟨j, hj, rfl⟩
  · rw [Int32.lt_iff_toInt_lt] at h; exact Or.inr (Or.inr (Or.inr (Or.inr (Or.inr (Or.inl h)))))
  · rw [Int32.le_iff_toInt_le, nI_toInt (by decide)] at h; exact Or.inr (Or.inr (Or.inr (Or.inr (Or.inr (Or.inr (by omega))))))
  · rcases (show j = 0 ∨ j = 1 ∨ j = 2 ∨ j = 3 ∨ j = 4 by omega) with rfl | rfl | rfl | rfl | rfl <;> simp
theorem nx_not (a : Nat) : nI a ^^^ (-1) = nI (a ^^^ 4294967295) := by
  rw [show (-1 : Int32) = nI 4294967295 from by decide +kernel]
  exact nx_xor _ _
theorem Mg.imp {G : Gm} {y : MethodName} {cc : ByteArray} {nL mc ms : Nat} {ret : Option FieldType} {rm : Room} {av : List Value} {w : va_W} {post post' : Option Value → va_W → Prop} (h : Mg G y cc nL ret rm mc ms av w post) (hp : ∀ r w2, post r w2 → post' r w2) : Mg G y cc nL ret rm mc ms av w post' := by
  have hf : post' = fun r w2 => post' r w2 := rfl
  intro sz
  have h0 := h sz
  intro p e ha hc hk s m args below hfr hap hP hT
  obtain ⟨k, o, h1, h2, h3, h4, h5⟩ := h0 p e ha hc hk s m args below hfr hap hP hT
  obtain ⟨⟨r, w2, q1, q2, q3, q4⟩, q5⟩ := h4
  exact ⟨k, o, h1, h2, h3, ⟨⟨r, w2, q1, hp r w2 q2, q3, q4⟩, q5⟩, h5⟩
def fillF (f : Nat → Int32) (v : Int32) (i : Nat) : Nat → Int32 := fun j => if j < i then v else f j
def fillN (f : Nat → Nat) (v i : Nat) : Nat → Nat := fun j => if j < i then v else f j
theorem fillF_0 (f : Nat → Int32) (v : Int32) : fillF f v 0 = f := funext fun j => if_neg (Nat.not_lt_zero j)
theorem fillF_s (f : Nat → Int32) (v : Int32) (i : Nat) : upd (fillF f v i) i v = fillF f v (i + 1) := by
  funext j
  unfold upd fillF
  by_cases h : j = i
  · rw [if_pos h, if_pos (by omega)]
  · rw [if_neg h]
    by_cases h2 : j < i
    · rw [if_pos h2, if_pos (by omega)]
    · rw [if_neg h2, if_neg (by omega)]
theorem fillF_n (f : Nat → Nat) (v i : Nat) : fillF (nF f) (nI v) i = nF (fillN f v i) := by
  funext j
  unfold fillF fillN
  by_cases h : j < i
  · simp [nF, h]
  · simp [nF, h]
theorem nx_cnt : ∀ j : Fin 32, (UInt32.ofNat j.val &&& Int32.toUInt32 31).toNat % 32 = j.val := by decide +kernel
theorem nx_ush {k j : Nat} (hk : k < 65536) (hj : j < 32) : ((nI k).toUInt32 >>> ((nI j).toUInt32 &&& Int32.toUInt32 31)).toInt32 = nI (k >>> j) := by
  have hs : k >>> j ≤ k := by
    rw [Nat.shiftRight_eq_div_pow]
    exact Nat.div_le_self _ _
  have e2 : UInt32.ofNat k >>> (UInt32.ofNat j &&& Int32.toUInt32 31) = UInt32.ofNat (k >>> j) := by
    apply UInt32.toNat_inj.1
    have h1 : (UInt32.ofNat k).toNat = k := Nat.mod_eq_of_lt (by omega)
    have h2 : (UInt32.ofNat (k >>> j)).toNat = k >>> j := Nat.mod_eq_of_lt (by omega)
    rw [UInt32.toNat_shiftRight, nx_cnt ⟨j, hj⟩, h1, h2]
  show (UInt32.ofNat k >>> (UInt32.ofNat j &&& Int32.toUInt32 31)).toInt32 = _
  rw [e2]
  rfl
theorem kwX0_init : Kw yX0_init cX0_init 2 none 1 := ⟨tw_187, tw_43, by decide, by decide, by decide +kernel⟩
theorem kwX0_forget : Kw yX0_forget cX0_forget 1 none 0 := ⟨tw_396, tw_43, by decide, by decide, by decide +kernel⟩
theorem kwX0_lay : Kw yX0_lay cX0_lay 3 none 1 := ⟨tw_419, tw_43, by decide, by decide, by decide +kernel⟩
theorem kwX0_join : Kw yX0_join cX0_join 3 none 2 := ⟨tw_570, tw_43, by decide, by decide, by decide +kernel⟩
theorem kwX0_struck : Kw yX0_struck cX0_struck 2 (some .int) 1 := ⟨tw_442, tw_43, by decide, by decide, by decide +kernel⟩
theorem kwX0_strike : Kw yX0_strike cX0_strike 4 (some .int) 1 := ⟨tw_446, tw_43, by decide, by decide, by decide +kernel⟩
theorem kwX0_isOnBehind : Kw yX0_isOnBehind cX0_isOnBehind 7 (some .boolean) 2 := ⟨tw_450, tw_43, by decide, by decide, by decide +kernel⟩
theorem kwX0_struckOften : Kw yX0_struckOften cX0_struckOften 5 (some .int) 2 := ⟨tw_479, tw_43, by decide, by decide, by decide +kernel⟩
theorem kwX0_findRound : Kw yX0_findRound cX0_findRound 4 none 1 := ⟨tw_488, tw_43, by decide, by decide, by decide +kernel⟩
theorem kwX0_countUnmade : Kw yX0_countUnmade cX0_countUnmade 4 (some .int) 0 := ⟨tw_513, tw_43, by decide, by decide, by decide +kernel⟩
theorem kwX0_isLitForEver : Kw yX0_isLitForEver cX0_isLitForEver 7 (some .boolean) 2 := ⟨tw_536, tw_43, by decide, by decide, by decide +kernel⟩
theorem kwX1_init : Kw yX1_init cX1_init 3 none 2 := ⟨tw_221, tw_44, by decide, by decide, by decide +kernel⟩
theorem kwX1_findNone : Kw yX1_findNone cX1_findNone 1 none 0 := ⟨tw_529, tw_44, by decide, by decide, by decide +kernel⟩
theorem kwX1_findLit : Kw yX1_findLit cX1_findLit 6 none 3 := ⟨tw_525, tw_44, by decide, by decide, by decide +kernel⟩
theorem kwX1_findWho : Kw yX1_findWho cX1_findWho 5 none 3 := ⟨tw_544, tw_44, by decide, by decide, by decide +kernel⟩
theorem kwX1_soonest : Kw yX1_soonest cX1_soonest 7 (some .int) 3 := ⟨tw_552, tw_44, by decide, by decide, by decide +kernel⟩
theorem kwX1_withRoads : Kw yX1_withRoads cX1_withRoads 4 (some .int) 1 := ⟨tw_557, tw_44, by decide, by decide, by decide +kernel⟩
theorem kwX1_countFlickers : Kw yX1_countFlickers cX1_countFlickers 7 none 2 := ⟨tw_587, tw_44, by decide, by decide, by decide +kernel⟩
theorem kwX1_mostFlickering : Kw yX1_mostFlickering cX1_mostFlickering 3 (some .int) 0 := ⟨tw_592, tw_44, by decide, by decide, by decide +kernel⟩
theorem kwX2_init : Kw yX2_init cX2_init 3 none 2 := ⟨tw_250, tw_45, by decide, by decide, by decide +kernel⟩
theorem kwX2_markAs : Kw yX2_markAs cX2_markAs 3 (some .int) 2 := ⟨tw_601, tw_45, by decide, by decide, by decide +kernel⟩
theorem kwX2_asLamp : Kw yX2_asLamp cX2_asLamp 2 (some .int) 1 := ⟨tw_610, tw_45, by decide, by decide, by decide +kernel⟩
theorem kwX2_asCorner : Kw yX2_asCorner cX2_asCorner 2 (some .int) 1 := ⟨tw_605, tw_45, by decide, by decide, by decide +kernel⟩
theorem kwX2_asBroken : Kw yX2_asBroken cX2_asBroken 2 (some .int) 1 := ⟨tw_615, tw_45, by decide, by decide, by decide +kernel⟩
theorem kwX2_asHarbour : Kw yX2_asHarbour cX2_asHarbour 2 (some .int) 1 := ⟨tw_620, tw_45, by decide, by decide, by decide +kernel⟩
theorem kwX2_asAlley : Kw yX2_asAlley cX2_asAlley 2 (some .int) 1 := ⟨tw_625, tw_45, by decide, by decide, by decide +kernel⟩
theorem kwX2_asBrides : Kw yX2_asBrides cX2_asBrides 2 (some .int) 1 := ⟨tw_630, tw_45, by decide, by decide, by decide +kernel⟩
theorem kwX3_init : Kw yX3_init cX3_init 1 none 0 := ⟨tw_155, tw_42, by decide, by decide, by decide +kernel⟩
theorem kwX3_begin : Kw yX3_begin cX3_begin 2 none 1 := ⟨tw_400, tw_42, by decide, by decide, by decide +kernel⟩
theorem kwX3_remember : Kw yX3_remember cX3_remember 2 none 0 := ⟨tw_437, tw_42, by decide, by decide, by decide +kernel⟩
theorem kwX3_recall : Kw yX3_recall cX3_recall 2 none 0 := ⟨tw_467, tw_42, by decide, by decide, by decide +kernel⟩
theorem kwX3_take : Kw yX3_take cX3_take 2 none 1 := ⟨tw_639, tw_42, by decide, by decide, by decide +kernel⟩
theorem kwX4_init : Kw yX4_init cX4_init 2 none 1 := ⟨tw_79, tw_40, by decide, by decide, by decide +kernel⟩
theorem kwX4_read : Kw yX4_read cX4_read 2 (some .boolean) 0 := ⟨tw_313, tw_40, by decide, by decide, by decide +kernel⟩
theorem kwX4_readItem : Kw yX4_readItem cX4_readItem 1 (some .boolean) 0 := ⟨tw_349, tw_40, by decide, by decide, by decide +kernel⟩
theorem kwX4_readLamp : Kw yX4_readLamp cX4_readLamp 3 (some .boolean) 0 := ⟨tw_353, tw_40, by decide, by decide, by decide +kernel⟩
theorem kwX4_readStreet : Kw yX4_readStreet cX4_readStreet 3 (some .boolean) 0 := ⟨tw_369, tw_40, by decide, by decide, by decide +kernel⟩
theorem kwX4_readNumber : Kw yX4_readNumber cX4_readNumber 2 (some .boolean) 1 := ⟨tw_357, tw_40, by decide, by decide, by decide +kernel⟩
theorem kwX4_readSemicolon : Kw yX4_readSemicolon cX4_readSemicolon 1 (some .boolean) 0 := ⟨tw_361, tw_40, by decide, by decide, by decide +kernel⟩
theorem kwX4_nextToken : Kw yX4_nextToken cX4_nextToken 2 none 0 := ⟨tw_324, tw_40, by decide, by decide, by decide +kernel⟩
theorem kwX4_takeLetters : Kw yX4_takeLetters cX4_takeLetters 1 none 0 := ⟨tw_335, tw_40, by decide, by decide, by decide +kernel⟩
theorem kwX4_takeDigits : Kw yX4_takeDigits cX4_takeDigits 2 none 0 := ⟨tw_342, tw_40, by decide, by decide, by decide +kernel⟩
theorem kwX4_isLetter : Kw yX4_isLetter cX4_isLetter 1 (some .boolean) 1 := ⟨tw_331, tw_40, by decide, by decide, by decide +kernel⟩
theorem kwX4_isDigit : Kw yX4_isDigit cX4_isDigit 1 (some .boolean) 1 := ⟨tw_338, tw_40, by decide, by decide, by decide +kernel⟩
theorem kwX5_init : Kw yX5_init cX5_init 1 none 0 := ⟨tw_63, tw_39, by decide, by decide, by decide +kernel⟩
theorem kwX5_add : Kw yX5_add cX5_add 2 (some .boolean) 1 := ⟨tw_301, tw_39, by decide, by decide, by decide +kernel⟩
theorem kwX5_at : Kw yX5_at cX5_at 2 (some .int) 1 := ⟨tw_328, tw_39, by decide, by decide, by decide +kernel⟩
theorem kwX6_init : Kw yX6_init cX6_init 1 none 0 := ⟨tw_85, tw_41, by decide, by decide, by decide +kernel⟩
theorem kwX6_isLamp : Kw yX6_isLamp cX6_isLamp 2 (some .boolean) 1 := ⟨tw_377, tw_41, by decide, by decide, by decide +kernel⟩
theorem kwX6_isStreet : Kw yX6_isStreet cX6_isStreet 2 (some .boolean) 1 := ⟨tw_429, tw_41, by decide, by decide, by decide +kernel⟩
theorem kwX6_isStand : Kw yX6_isStand cX6_isStand 2 (some .boolean) 1 := ⟨tw_500, tw_41, by decide, by decide, by decide +kernel⟩
theorem kwX6_stands : Kw yX6_stands cX6_stands 1 (some .int) 0 := ⟨tw_504, tw_41, by decide, by decide, by decide +kernel⟩
theorem kwX6_isJoined : Kw yX6_isJoined cX6_isJoined 3 (some .boolean) 2 := ⟨tw_373, tw_41, by decide, by decide, by decide +kernel⟩
theorem kwX6_empty : Kw yX6_empty cX6_empty 1 none 0 := ⟨tw_317, tw_41, by decide, by decide, by decide +kernel⟩
theorem kwX6_addLamp : Kw yX6_addLamp cX6_addLamp 3 none 2 := ⟨tw_365, tw_41, by decide, by decide, by decide +kernel⟩
theorem kwX6_addStreet : Kw yX6_addStreet cX6_addStreet 3 none 2 := ⟨tw_381, tw_41, by decide, by decide, by decide +kernel⟩
theorem kwX6_take : Kw yX6_take cX6_take 2 none 1 := ⟨tw_389, tw_41, by decide, by decide, by decide +kernel⟩
theorem kwX7_init : Kw yX7_init cX7_init 1 none 0 := ⟨tw_55, tw_38, by decide, by decide, by decide +kernel⟩
theorem kwX7_type : Kw yX7_type cX7_type 2 (some .int) 1 := ⟨tw_297, tw_38, by decide, by decide, by decide +kernel⟩
theorem kwX7_clear : Kw yX7_clear cX7_clear 2 (some .int) 0 := ⟨tw_305, tw_38, by decide, by decide, by decide +kernel⟩
theorem kwX7_town : Kw yX7_town cX7_town 1 (some .int) 0 := ⟨tw_309, tw_38, by decide, by decide, by decide +kernel⟩
theorem kwX7_lamp : Kw yX7_lamp cX7_lamp 3 (some .int) 2 := ⟨tw_404, tw_38, by decide, by decide, by decide +kernel⟩
theorem kwX7_street : Kw yX7_street cX7_street 3 (some .int) 2 := ⟨tw_425, tw_38, by decide, by decide, by decide +kernel⟩
theorem kwX7_bell : Kw yX7_bell cX7_bell 1 (some .int) 0 := ⟨tw_433, tw_38, by decide, by decide, by decide +kernel⟩
theorem kwX7_turn : Kw yX7_turn cX7_turn 2 (some .int) 1 := ⟨tw_455, tw_38, by decide, by decide, by decide +kernel⟩
theorem kwX7_fog : Kw yX7_fog cX7_fog 3 (some .int) 2 := ⟨tw_459, tw_38, by decide, by decide, by decide +kernel⟩
theorem kwX7_undo : Kw yX7_undo cX7_undo 1 (some .int) 0 := ⟨tw_463, tw_38, by decide, by decide, by decide +kernel⟩
theorem kwX7_now : Kw yX7_now cX7_now 2 (some .int) 1 := ⟨tw_471, tw_38, by decide, by decide, by decide +kernel⟩
theorem kwX7_after : Kw yX7_after cX7_after 2 (some .int) 1 := ⟨tw_475, tw_38, by decide, by decide, by decide +kernel⟩
theorem kwX7_round : Kw yX7_round cX7_round 2 (some .int) 1 := ⟨tw_484, tw_38, by decide, by decide, by decide +kernel⟩
theorem kwX7_again : Kw yX7_again cX7_again 1 (some .int) 0 := ⟨tw_492, tw_38, by decide, by decide, by decide +kernel⟩
theorem kwX7_ahead : Kw yX7_ahead cX7_ahead 6 (some .int) 2 := ⟨tw_496, tw_38, by decide, by decide, by decide +kernel⟩
theorem kwX7_eden : Kw yX7_eden cX7_eden 1 (some .int) 0 := ⟨tw_509, tw_38, by decide, by decide, by decide +kernel⟩
theorem kwX7_lit : Kw yX7_lit cX7_lit 4 (some .int) 3 := ⟨tw_518, tw_38, by decide, by decide, by decide +kernel⟩
theorem kwX7_who : Kw yX7_who cX7_who 4 (some .int) 3 := ⟨tw_540, tw_38, by decide, by decide, by decide +kernel⟩
theorem kwX7_thief : Kw yX7_thief cX7_thief 3 (some .int) 2 := ⟨tw_548, tw_38, by decide, by decide, by decide +kernel⟩
theorem kwX7_still : Kw yX7_still cX7_still 4 (some .int) 1 := ⟨tw_561, tw_38, by decide, by decide, by decide +kernel⟩
theorem kwX7_mist : Kw yX7_mist cX7_mist 5 (some .int) 1 := ⟨tw_575, tw_38, by decide, by decide, by decide +kernel⟩
theorem kwX7_flickers : Kw yX7_flickers cX7_flickers 3 (some .int) 2 := ⟨tw_583, tw_38, by decide, by decide, by decide +kernel⟩
theorem kwX7_mark : Kw yX7_mark cX7_mark 3 (some .int) 2 := ⟨tw_596, tw_38, by decide, by decide, by decide +kernel⟩
theorem kwX7_keep : Kw yX7_keep cX7_keep 2 (some .int) 1 := ⟨tw_635, tw_38, by decide, by decide, by decide +kernel⟩
theorem kwX7_back : Kw yX7_back cX7_back 2 (some .int) 1 := ⟨tw_643, tw_38, by decide, by decide, by decide +kernel⟩
theorem kwX7_count : Kw yX7_count cX7_count 2 (some .int) 1 := ⟨tw_647, tw_38, by decide, by decide, by decide +kernel⟩
theorem kwX7_trace : Kw yX7_trace cX7_trace 1 (some .long) 0 := ⟨tw_651, tw_38, by decide, by decide, by decide +kernel⟩
theorem kwX7_isSeen : Kw yX7_isSeen cX7_isSeen 1 (some .boolean) 1 := ⟨tw_521, tw_38, by decide, by decide, by decide +kernel⟩
theorem kwX7_workNow : Kw yX7_workNow cX7_workNow 1 (some (.object "FewerLamps$Bellwork")) 0 := ⟨tw_415, tw_38, by decide, by decide, by decide +kernel⟩
theorem kwX7_stillsBy : Kw yX7_stillsBy cX7_stillsBy 3 (some .boolean) 2 := ⟨tw_566, tw_38, by decide, by decide, by decide +kernel⟩
theorem kwX7_standsInFog : Kw yX7_standsInFog cX7_standsInFog 2 (some .int) 1 := ⟨tw_579, tw_38, by decide, by decide, by decide +kernel⟩
theorem kwX8_in : Kw yX8_in cX8_in 6 (some .boolean) 3 := ⟨tw_753, tw_46, by decide, by decide, by decide +kernel⟩
theorem kwX8_init : Kw yX8_init cX8_init 1 none 0 := ⟨tw_656, tw_46, by decide, by decide, by decide +kernel⟩
theorem kwX8_type : Kw yX8_type cX8_type 2 (some .int) 1 := ⟨tw_749, tw_46, by decide, by decide, by decide +kernel⟩
theorem kwX8_clear : Kw yX8_clear cX8_clear 2 (some .int) 0 := ⟨tw_757, tw_46, by decide, by decide, by decide +kernel⟩
theorem kwX8_isLetter : Kw yX8_isLetter cX8_isLetter 1 (some .boolean) 1 := ⟨tw_768, tw_46, by decide, by decide, by decide +kernel⟩
theorem kwX8_isFigure : Kw yX8_isFigure cX8_isFigure 1 (some .boolean) 1 := ⟨tw_777, tw_46, by decide, by decide, by decide +kernel⟩
theorem kwX8_readLetters : Kw yX8_readLetters cX8_readLetters 1 none 0 := ⟨tw_774, tw_46, by decide, by decide, by decide +kernel⟩
theorem kwX8_readNumber : Kw yX8_readNumber cX8_readNumber 2 none 0 := ⟨tw_783, tw_46, by decide, by decide, by decide +kernel⟩
theorem kwX8_reads : Kw yX8_reads cX8_reads 1 none 0 := ⟨tw_765, tw_46, by decide, by decide, by decide +kernel⟩
theorem kwX8_number : Kw yX8_number cX8_number 3 (some .boolean) 2 := ⟨tw_791, tw_46, by decide, by decide, by decide +kernel⟩
theorem kwX8_readLamp : Kw yX8_readLamp cX8_readLamp 1 (some .boolean) 0 := ⟨tw_787, tw_46, by decide, by decide, by decide +kernel⟩
theorem kwX8_readStreet : Kw yX8_readStreet cX8_readStreet 5 (some .boolean) 0 := ⟨tw_795, tw_46, by decide, by decide, by decide +kernel⟩
theorem kwX8_town : Kw yX8_town cX8_town 3 (some .int) 0 := ⟨tw_761, tw_46, by decide, by decide, by decide +kernel⟩
theorem kwX8_isLamp : Kw yX8_isLamp cX8_isLamp 2 (some .boolean) 1 := ⟨tw_803, tw_46, by decide, by decide, by decide +kernel⟩
theorem kwX8_isStand : Kw yX8_isStand cX8_isStand 2 (some .boolean) 1 := ⟨tw_876, tw_46, by decide, by decide, by decide +kernel⟩
theorem kwX8_many : Kw yX8_many cX8_many 3 (some .int) 1 := ⟨tw_810, tw_46, by decide, by decide, by decide +kernel⟩
theorem kwX8_beside : Kw yX8_beside cX8_beside 6 (some .int) 2 := ⟨tw_807, tw_46, by decide, by decide, by decide +kernel⟩
theorem kwX8_lamp : Kw yX8_lamp cX8_lamp 3 (some .int) 2 := ⟨tw_799, tw_46, by decide, by decide, by decide +kernel⟩
theorem kwX8_street : Kw yX8_street cX8_street 3 (some .int) 2 := ⟨tw_814, tw_46, by decide, by decide, by decide +kernel⟩
theorem kwX8_looks : Kw yX8_looks cX8_looks 3 none 1 := ⟨tw_827, tw_46, by decide, by decide, by decide +kernel⟩
theorem kwX8_rings : Kw yX8_rings cX8_rings 8 (some .int) 1 := ⟨tw_831, tw_46, by decide, by decide, by decide +kernel⟩
theorem kwX8_notes : Kw yX8_notes cX8_notes 2 none 0 := ⟨tw_823, tw_46, by decide, by decide, by decide +kernel⟩
theorem kwX8_bell : Kw yX8_bell cX8_bell 1 (some .int) 0 := ⟨tw_819, tw_46, by decide, by decide, by decide +kernel⟩
theorem kwX8_turn : Kw yX8_turn cX8_turn 2 (some .int) 1 := ⟨tw_835, tw_46, by decide, by decide, by decide +kernel⟩
theorem kwX8_fog : Kw yX8_fog cX8_fog 3 (some .int) 2 := ⟨tw_839, tw_46, by decide, by decide, by decide +kernel⟩
theorem kwX8_undo : Kw yX8_undo cX8_undo 1 (some .int) 0 := ⟨tw_843, tw_46, by decide, by decide, by decide +kernel⟩
theorem kwX8_now : Kw yX8_now cX8_now 2 (some .int) 1 := ⟨tw_847, tw_46, by decide, by decide, by decide +kernel⟩
theorem kwX8_goesOn : Kw yX8_goesOn cX8_goesOn 5 (some .int) 2 := ⟨tw_856, tw_46, by decide, by decide, by decide +kernel⟩
theorem kwX8_after : Kw yX8_after cX8_after 2 (some .int) 1 := ⟨tw_851, tw_46, by decide, by decide, by decide +kernel⟩
theorem kwX8_rounds : Kw yX8_rounds cX8_rounds 4 none 1 := ⟨tw_864, tw_46, by decide, by decide, by decide +kernel⟩
theorem kwX8_round : Kw yX8_round cX8_round 2 (some .int) 1 := ⟨tw_860, tw_46, by decide, by decide, by decide +kernel⟩
theorem kwX8_again : Kw yX8_again cX8_again 1 (some .int) 0 := ⟨tw_868, tw_46, by decide, by decide, by decide +kernel⟩
theorem kwX8_ahead : Kw yX8_ahead cX8_ahead 7 (some .int) 2 := ⟨tw_872, tw_46, by decide, by decide, by decide +kernel⟩
theorem kwX8_eden : Kw yX8_eden cX8_eden 3 (some .int) 0 := ⟨tw_880, tw_46, by decide, by decide, by decide +kernel⟩
theorem kwX8_stays : Kw yX8_stays cX8_stays 7 (some .boolean) 3 := ⟨tw_889, tw_46, by decide, by decide, by decide +kernel⟩
theorem kwX8_lit : Kw yX8_lit cX8_lit 9 (some .int) 3 := ⟨tw_884, tw_46, by decide, by decide, by decide +kernel⟩
theorem kwX8_who : Kw yX8_who cX8_who 8 (some .int) 3 := ⟨tw_893, tw_46, by decide, by decide, by decide +kernel⟩
theorem kwX8_thief : Kw yX8_thief cX8_thief 8 (some .int) 2 := ⟨tw_897, tw_46, by decide, by decide, by decide +kernel⟩
theorem kwX8_still : Kw yX8_still cX8_still 4 (some .int) 1 := ⟨tw_901, tw_46, by decide, by decide, by decide +kernel⟩
theorem kwX8_mist : Kw yX8_mist cX8_mist 4 (some .int) 1 := ⟨tw_905, tw_46, by decide, by decide, by decide +kernel⟩
theorem kwX8_changes : Kw yX8_changes cX8_changes 7 (some .int) 2 := ⟨tw_913, tw_46, by decide, by decide, by decide +kernel⟩
theorem kwX8_flickers : Kw yX8_flickers cX8_flickers 7 (some .int) 2 := ⟨tw_909, tw_46, by decide, by decide, by decide +kernel⟩
theorem kwX8_mark : Kw yX8_mark cX8_mark 5 (some .int) 2 := ⟨tw_917, tw_46, by decide, by decide, by decide +kernel⟩
theorem kwX8_trace : Kw yX8_trace cX8_trace 1 (some .long) 0 := ⟨tw_928, tw_46, by decide, by decide, by decide +kernel⟩
theorem kwX8_keep : Kw yX8_keep cX8_keep 4 (some .int) 1 := ⟨tw_932, tw_46, by decide, by decide, by decide +kernel⟩
theorem kwX8_back : Kw yX8_back cX8_back 4 (some .int) 1 := ⟨tw_936, tw_46, by decide, by decide, by decide +kernel⟩
theorem kwX8_count : Kw yX8_count cX8_count 2 (some .int) 1 := ⟨tw_940, tw_46, by decide, by decide, by decide +kernel⟩
theorem kwJ6_bitCount_0f7a4 : Kw yJ6_bitCount_0f7a4 cJ6_bitCount_0f7a4 1 (some .int) 1 := ⟨tw_408, tw_50, by decide, by decide, by decide +kernel⟩
theorem kwJ7_fill_53178 : Kw yJ7_fill_53178 cJ7_fill_53178 4 none 2 := ⟨tw_320, tw_47, by decide, by decide, by decide +kernel⟩
