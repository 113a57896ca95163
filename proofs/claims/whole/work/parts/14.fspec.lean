abbrev Pr : Type := Nat × Nat × Nat × Nat × Nat × (Nat → Nat)
def TxOk (ln : Nat) (bt : Nat → Nat) : Prop := ln ≤ 200 ∧ ∀ i, i < ln → bt i < 256
def PrOk (n m : Nat) (P : Pr) : Prop := P.1 ≤ 999 ∧ P.2.1 < 2 ^ n ∧ P.2.2.1 ≤ 3 ∧ P.2.2.2.1 < 2 ^ m ∧ P.2.2.2.2.1 ≤ 10 ∧ ∀ j, j < P.2.2.2.2.1 → P.2.2.2.2.2 (j * 4) ≤ 999 ∧ P.2.2.2.2.2 (j * 4 + 1) < 2 ^ n ∧ P.2.2.2.2.2 (j * 4 + 2) ≤ 3 ∧ P.2.2.2.2.2 (j * 4 + 3) < 2 ^ m
def LyOk (n m : Nat) (ru la lb : Nat → Nat) (lz lf : Nat) (ne : Nat → Nat) (md : Nat → Int32) : Prop := lz ≤ 1 ∧ lf < 32768 ∧ (lz = 1 → NeOk n m la lb lf ne ∧ MdOk (Fw n m ru la lb lf) md)
theorem p15 {m : Nat} (h : m ≤ 15) : 2 ^ m ≤ 32768 := Nat.pow_le_pow_right (by decide) h
theorem LyOk.laid {n m : Nat} {ru la lb : Nat → Nat} {fo : Nat} {ne : Nat → Nat} {md : Nat → Int32} (hf : fo < 32768) (h1 : NeOk n m la lb fo ne) (h2 : MdOk (Fw n m ru la lb fo) md) : LyOk n m ru la lb 1 fo ne md := ⟨by omega, hf, fun _ => ⟨h1, h2⟩⟩
theorem LyOk.not {n m : Nat} {ru la lb : Nat → Nat} {lf : Nat} {ne : Nat → Nat} {md : Nat → Int32} (hf : lf < 32768) : LyOk n m ru la lb 0 lf ne md := ⟨by omega, hf, fun h => by cases h⟩
theorem Fw_cong {n m : Nat} {ru la lb ru2 la2 lb2 : Nat → Nat} (h1 : ∀ l, l < n → ru l = ru2 l) (h2 : ∀ k, k < m → la k = la2 k) (h3 : ∀ k, k < m → lb k = lb2 k) (wo : Nat) : Fw n m ru la lb wo = Fw n m ru2 la2 lb2 wo := by
  funext s
  exact rg_cong h1 (fun l _ => bsd_cong h2 h3)
/-- what is known of the past behind one deed more -/
def remK (P : Pr) : Nat := rmK P.2.2.2.2.1
def remP (P : Pr) : Nat → Nat := rmP P.2.2.2.2.1 P.1 P.2.1 P.2.2.1 P.2.2.2.1 P.2.2.2.2.2
def pBell (f : Nat → Nat) (P : Pr) : Pr := if P.1 < 999 then (P.1 + 1, f P.2.1, 0, P.2.2.2.1, remK P, remP P) else P
def aBell (f : Nat → Nat) (P : Pr) : Int32 := if P.1 < 999 then nI (f P.2.1) else -2
noncomputable def pTurn (n : Nat) (x : Int32) (P : Pr) : Pr := if cb (inR x n) = true ∧ P.2.2.1 < 3 then (P.1, P.2.1 ^^^ 2 ^ x.toNatClampNeg, P.2.2.1 + 1, P.2.2.2.1, remK P, remP P) else P
noncomputable def aTurn (n : Nat) (x : Int32) (P : Pr) : Int32 := if cb (inR x n) = true then (if P.2.2.1 < 3 then nI (P.2.1 ^^^ 2 ^ x.toNatClampNeg) else -2) else -1
noncomputable def pFog (m : Nat) (x y : Int32) (P : Pr) : Pr := if (cb (inR x m) = true ∧ cb (inR y 2) = true) ∧ ¬ bitN P.2.2.2.1 x.toNatClampNeg = y.toNatClampNeg then (P.1, P.2.1, P.2.2.1, P.2.2.2.1 ^^^ 2 ^ x.toNatClampNeg, remK P, remP P) else P
noncomputable def aFog (m : Nat) (x y : Int32) (P : Pr) : Int32 := if cb (inR x m) = true ∧ cb (inR y 2) = true then (if bitN P.2.2.2.1 x.toNatClampNeg = y.toNatClampNeg then -2 else nI (pcN (P.2.2.2.1 ^^^ 2 ^ x.toNatClampNeg))) else -1
def pUndo (P : Pr) : Pr := if P.2.2.2.2.1 = 0 then P else (P.2.2.2.2.2 ((P.2.2.2.2.1 - 1) * 4), P.2.2.2.2.2 ((P.2.2.2.2.1 - 1) * 4 + 1), P.2.2.2.2.2 ((P.2.2.2.2.1 - 1) * 4 + 2), P.2.2.2.2.2 ((P.2.2.2.2.1 - 1) * 4 + 3), P.2.2.2.2.1 - 1, P.2.2.2.2.2)
def aUndo (P : Pr) : Int32 := if P.2.2.2.2.1 = 0 then -2 else nI (P.2.2.2.2.1 - 1)
theorem rmP_ok {n m kn be sd tu fo : Nat} {pa : Nat → Nat} (h : PrOk n m (be, sd, tu, fo, kn, pa)) : rmK kn ≤ 10 ∧ ∀ j, j < rmK kn → rmP kn be sd tu fo pa (j * 4) ≤ 999 ∧ rmP kn be sd tu fo pa (j * 4 + 1) < 2 ^ n ∧ rmP kn be sd tu fo pa (j * 4 + 2) ≤ 3 ∧ rmP kn be sd tu fo pa (j * 4 + 3) < 2 ^ m := by
  obtain ⟨h1, h2, h3, h4, h5, h6⟩ := h
  dsimp only at h1 h2 h3 h4 h5 h6
  have key : ∀ (g : Nat → Nat) (k : Nat), (∀ j, j < k → g (j * 4) ≤ 999 ∧ g (j * 4 + 1) < 2 ^ n ∧ g (j * 4 + 2) ≤ 3 ∧ g (j * 4 + 3) < 2 ^ m) → ∀ j, j < k + 1 → put4 g k be sd tu fo (j * 4) ≤ 999 ∧ put4 g k be sd tu fo (j * 4 + 1) < 2 ^ n ∧ put4 g k be sd tu fo (j * 4 + 2) ≤ 3 ∧ put4 g k be sd tu fo (j * 4 + 3) < 2 ^ m := by
    intro g k hg j hj
    unfold put4
    by_cases e : j = k
    · subst e
      refine ⟨?_, ?_, ?_, ?_⟩
      · rw [up_n _ _ (by omega), up_n _ _ (by omega), up_n _ _ (by omega), up_s]; exact h1
      · rw [up_n _ _ (by omega), up_n _ _ (by omega), up_s]; exact h2
      · rw [up_n _ _ (by omega), up_s]; exact h3
      · rw [up_s]; exact h4
    · have := hg j (by omega)
      refine ⟨?_, ?_, ?_, ?_⟩ <;> rw [up_n _ _ (by omega), up_n _ _ (by omega), up_n _ _ (by omega), up_n _ _ (by omega)]
      · exact this.1
      · exact this.2.1
      · exact this.2.2.1
      · exact this.2.2.2
  unfold rmK rmP
  by_cases hk : kn < 10
  · rw [if_pos hk, if_pos hk]
    exact ⟨by omega, key pa kn h6⟩
  · rw [if_neg hk, if_neg hk]
    refine ⟨by omega, key (va_cpy pa pa 4 0 36) 9 ?_⟩
    intro j hj
    have e : ∀ i, i < 4 → va_cpy pa pa 4 0 36 (j * 4 + i) = pa ((j + 1) * 4 + i) := by
      intro i hi
      rw [pk_cpy_in (by omega) (by omega)]
      congr 1
      omega
    have e0 := e 0 (by omega)
    have := h6 (j + 1) (by omega)
    rw [Nat.add_zero, Nat.add_zero] at e0
    rw [e0, e 1 (by omega), e 2 (by omega), e 3 (by omega)]
    exact this
theorem pBell_ok {n m : Nat} {f : Nat → Nat} {P : Pr} (h : PrOk n m P) (hf : ∀ s, s < 2 ^ n → f s < 2 ^ n) : PrOk n m (pBell f P) := by
  obtain ⟨be, sd, tu, fo, kn, pa⟩ := P
  unfold pBell
  split
  · rename_i hb
    have hr := rmP_ok h
    exact ⟨by dsimp only at hb ⊢; omega, hf _ h.2.1, by dsimp only; omega, h.2.2.2.1, hr.1, hr.2⟩
  · exact h
theorem pTurn_ok {n m : Nat} {x : Int32} {P : Pr} (h : PrOk n m P) (hn : n ≤ 9) : PrOk n m (pTurn n x P) := by
  obtain ⟨be, sd, tu, fo, kn, pa⟩ := P
  unfold pTurn
  split
  · rename_i hb
    obtain ⟨j, hj, rfl⟩ := cb_t.mp hb.1
    have hr := rmP_ok h
    refine ⟨h.1, ?_, by have := hb.2; dsimp only at this ⊢; omega, h.2.2.2.1, hr.1, hr.2⟩
    dsimp only
    rw [nI_clamp (by omega)]
    exact Nat.xor_lt_two_pow h.2.1 (Nat.pow_lt_pow_right (by decide) hj)
  · exact h
theorem pFog_ok {n m : Nat} {x y : Int32} {P : Pr} (h : PrOk n m P) (hm : m ≤ 15) : PrOk n m (pFog m x y P) := by
  obtain ⟨be, sd, tu, fo, kn, pa⟩ := P
  unfold pFog
  split
  · rename_i hb
    obtain ⟨j, hj, rfl⟩ := cb_t.mp hb.1.1
    have hr := rmP_ok h
    refine ⟨h.1, h.2.1, h.2.2.1, ?_, hr.1, hr.2⟩
    dsimp only
    rw [nI_clamp (by omega)]
    exact Nat.xor_lt_two_pow h.2.2.2.1 (Nat.pow_lt_pow_right (by decide) hj)
  · exact h
theorem pUndo_ok {n m : Nat} {P : Pr} (h : PrOk n m P) : PrOk n m (pUndo P) := by
  obtain ⟨be, sd, tu, fo, kn, pa⟩ := P
  unfold pUndo
  split
  · exact h
  · rename_i hb
    dsimp only at hb
    have h5 := h.2.2.2.2.1
    have h6 := h.2.2.2.2.2
    dsimp only at h5 h6
    have := h6 (kn - 1) (by omega)
    exact ⟨this.1, this.2.1, this.2.2.1, this.2.2.2, by dsimp only; omega, fun j hj => h6 j (by dsimp only at hj; omega)⟩
/-- what the calls that only look answer -/
noncomputable def aLamp (n m : Nat) (ru la lb : Nat → Nat) (P : Pr) (x y : Int32) : Int32 := if cb (inR x n) = true then (if y = nI 0 then nI (ru x.toNatClampNeg) else if y = nI 1 then nI (bitN P.2.1 x.toNatClampNeg) else if y = nI 2 then nI (pcN (bsd la lb 0 x.toNatClampNeg m)) else if y = nI 3 then nI (pcN (bsd la lb P.2.2.2.1 x.toNatClampNeg m &&& P.2.1)) else if y = nI 4 then nI (pcN (bsd la lb P.2.2.2.1 x.toNatClampNeg m &&& (P.2.1 ^^^ 4294967295))) else -1) else -1
noncomputable def aStreet (m : Nat) (la lb : Nat → Nat) (P : Pr) (x y : Int32) : Int32 := if cb (inR x m) = true then (if y = nI 0 then nI (la x.toNatClampNeg) else if y = nI 1 then nI (lb x.toNatClampNeg) else if y = nI 2 then nI (bitN P.2.2.2.1 x.toNatClampNeg) else -1) else -1
def aNow (P : Pr) (y : Int32) : Int32 := if y = nI 0 then nI P.1 else if y = nI 1 then nI P.2.1 else if y = nI 2 then nI (pcN P.2.1) else if y = nI 3 then nI P.2.2.2.1 else if y = nI 4 then nI (3 - P.2.2.1) else -1
def aCount (n m kn ln : Nat) (y : Int32) : Int32 := if y = nI 0 then nI n else if y = nI 1 then nI m else if y = nI 2 then nI kn else if y = nI 3 then nI ln else -1
noncomputable def aAfter (f : Nat → Nat) (sd : Nat) (x : Int32) : Int32 := if cb (inR x 601) = true then nI (it f x.toNatClampNeg sd) else -1
def aRound (f : Nat → Nat) (sd : Nat) (x r : Int32) : Prop := (¬ inR x 2 ∧ r = -1) ∨ (inR x 2 ∧ ∃ ld lg, IsRnd f sd ld lg ∧ r = if x = nI 0 then nI ld else nI lg)
theorem aRound.one {f : Nat → Nat} {sd : Nat} {x r r2 : Int32} (h : aRound f sd x r) (h2 : aRound f sd x r2) : r = r2 := by
  rcases h with ⟨a, rfl⟩ | ⟨a, ld, lg, q, rfl⟩ <;> rcases h2 with ⟨b, rfl⟩ | ⟨b, ld2, lg2, q2, rfl⟩
  · rfl
  · exact absurd b a
  · exact absurd a b
  · obtain ⟨rfl, rfl⟩ := q.one q2; rfl
def aAgain (f : Nat → Nat) (sd : Nat) (r : Int32) : Prop := ∃ ld lg, IsRnd f sd ld lg ∧ r = if ld = 0 then nI lg else -9
theorem aAgain.one {f : Nat → Nat} {sd : Nat} {r r2 : Int32} (h : aAgain f sd r) (h2 : aAgain f sd r2) : r = r2 := by
  obtain ⟨ld, lg, q, rfl⟩ := h
  obtain ⟨ld2, lg2, q2, rfl⟩ := h2
  obtain ⟨rfl, rfl⟩ := q.one q2
  rfl
def aAhead (n : Nat) (f : Nat → Nat) (x y r : Int32) : Prop := (¬ (inR x (2 ^ n) ∧ inR y 2) ∧ r = -1) ∨ ((inR x (2 ^ n) ∧ inR y 2) ∧ ∃ mn le, CnSt (fun s => nI (f s) = x) (2 ^ n) mn le ∧ r = if y = nI 0 then nI mn else le)
theorem aAhead.one {n : Nat} {f : Nat → Nat} {x y r r2 : Int32} (h : aAhead n f x y r) (h2 : aAhead n f x y r2) : r = r2 := by
  rcases h with ⟨a, rfl⟩ | ⟨a, mn, le, q, rfl⟩ <;> rcases h2 with ⟨b, rfl⟩ | ⟨b, mn2, le2, q2, rfl⟩
  · rfl
  · exact absurd b a
  · exact absurd a b
  · obtain ⟨rfl, rfl⟩ := q.one q2; rfl
def aLit (n : Nat) (f : Nat → Nat) (sd : Nat) (x y z r : Int32) : Prop := (¬ (inR x (2 ^ n) ∧ ¬ x = nI 0 ∧ inR y 61 ∧ inR z 3) ∧ r = -1) ∨ ((inR x (2 ^ n) ∧ ¬ x = nI 0 ∧ inR y 61 ∧ inR z 3) ∧ ∃ sz mn le, LiSt f sd x.toNatClampNeg y.toNatClampNeg (2 ^ n) sz mn le ∧ r = if mn = 0 then -9 else if z = nI 0 then nI sz else if z = nI 1 then nI mn else le)
theorem LiSt.one {f : Nat → Nat} {sd so k i a b c d : Nat} {e g : Int32} (h : LiSt f sd so k i a b e) (h2 : LiSt f sd so k i c d g) : a = c ∧ b = d ∧ e = g := by
  have hac : a = c := by
    rcases Nat.lt_trichotomy a c with q | q | q
    · by_cases hb : b = 0
      · have := h.2.2.1 hb
        have := h2.1
        omega
      · obtain ⟨x, hx, -, px, -⟩ := h.2.1.2.2 hb
        exact absurd px (h2.2.2.2 a q x hx)
    · exact q
    · by_cases hb : d = 0
      · have := h2.2.2.1 hb
        have := h.1
        omega
      · obtain ⟨x, hx, -, px, -⟩ := h2.2.1.2.2 hb
        exact absurd px (h.2.2.2 c q x hx)
  subst hac
  exact ⟨rfl, h.2.1.one h2.2.1⟩
theorem aLit.one {n : Nat} {f : Nat → Nat} {sd : Nat} {x y z r r2 : Int32} (h : aLit n f sd x y z r) (h2 : aLit n f sd x y z r2) : r = r2 := by
  rcases h with ⟨a, rfl⟩ | ⟨a, sz, mn, le, q, rfl⟩ <;> rcases h2 with ⟨b, rfl⟩ | ⟨b, sz2, mn2, le2, q2, rfl⟩
  · rfl
  · exact absurd b a
  · exact absurd a b
  · obtain ⟨rfl, rfl, rfl⟩ := q.one q2; rfl
def aWho (n : Nat) (f : Nat → Nat) (sd : Nat) (x y z r : Int32) : Prop := (¬ (inR x 61 ∧ inR y (2 ^ n) ∧ inR z 2) ∧ r = -1) ∨ ((inR x 61 ∧ inR y (2 ^ n) ∧ inR z 2) ∧ ∃ mn le, CnSt (fun s => pcN s ≤ 3 ∧ it f x.toNatClampNeg (sd ^^^ s) = y.toNatClampNeg) (2 ^ n) mn le ∧ r = if z = nI 0 then nI mn else le)
theorem aWho.one {n : Nat} {f : Nat → Nat} {sd : Nat} {x y z r r2 : Int32} (h : aWho n f sd x y z r) (h2 : aWho n f sd x y z r2) : r = r2 := by
  rcases h with ⟨a, rfl⟩ | ⟨a, mn, le, q, rfl⟩ <;> rcases h2 with ⟨b, rfl⟩ | ⟨b, mn2, le2, q2, rfl⟩
  · rfl
  · exact absurd b a
  · exact absurd a b
  · obtain ⟨rfl, rfl⟩ := q.one q2; rfl
def aThief (n m : Nat) (la lb f : Nat → Nat) (sd : Nat) (x y r : Int32) : Prop := (¬ (inR x n ∧ inR y n) ∧ r = -1) ∨ ((inR x n ∧ inR y n) ∧ ThA f (fun l => bsd la lb 0 l m) n sd x.toNatClampNeg y.toNatClampNeg r)
theorem aThief.one {n m : Nat} {la lb f : Nat → Nat} {sd : Nat} {x y r r2 : Int32} (h : aThief n m la lb f sd x y r) (h2 : aThief n m la lb f sd x y r2) : r = r2 := by
  rcases h with ⟨a, rfl⟩ | ⟨a, q⟩ <;> rcases h2 with ⟨b, rfl⟩ | ⟨b, q2⟩
  · rfl
  · exact absurd b a
  · exact absurd a b
  · exact q.one q2
theorem plc_cong {f ro ro2 : Nat → Nat} {n sd fr : Nat} (h : ∀ i, i < n → ro i = ro2 i) : ∀ b, plc f ro n sd fr b = plc f ro2 n sd fr b
  | 0 => rfl
  | b + 1 => by rw [plc, plc, plc_cong h b, wrF_cong h]
theorem ThA.cong {f ro ro2 : Nat → Nat} {n sd fr to : Nat} {r : Int32} (h : ∀ i, i < n → ro i = ro2 i) (hT : ThA f ro n sd fr to r) : ThA f ro2 n sd fr to r := by
  unfold ThA at hT ⊢
  simp only [plc_cong h] at hT
  exact hT
/-- a new street between a and b, in fog wo -/
def nwS (n m : Nat) (ru la lb : Nat → Nat) (wo a b : Nat) : Nat → Nat := fun s => rg ru (va_up (va_up (fun l => bsd la lb wo l m) a (bsd la lb wo a m ||| 2 ^ b)) b (va_up (fun l => bsd la lb wo l m) a (bsd la lb wo a m ||| 2 ^ b) b ||| 2 ^ a)) s n
def SPr (n m : Nat) (ru la lb : Nat → Nat) (wo sd a b : Nat) : Prop := (bsd la lb 0 a m).testBit b = false ∧ ∃ ld, IsRnd (nwS n m ru la lb wo a b) sd ld 1
def aStill (n m : Nat) (ru la lb : Nat → Nat) (wo sd : Nat) (x r : Int32) : Prop := (¬ inR x 2 ∧ r = -1) ∨ (inR x 2 ∧ ((∃ a b ld, a < b ∧ b < n ∧ SPr n m ru la lb wo sd a b ∧ IsRnd (nwS n m ru la lb wo a b) sd ld 1 ∧ (∀ c d, c < d → d < n → (c < a ∨ (c = a ∧ d < b)) → ¬ SPr n m ru la lb wo sd c d) ∧ r = if x = nI 0 then nI (10 * a + b) else nI ld) ∨ (r = -9 ∧ ∀ c d, c < d → d < n → ¬ SPr n m ru la lb wo sd c d)))
theorem aStill.one {n m : Nat} {ru la lb : Nat → Nat} {wo sd : Nat} {x r r2 : Int32} (h : aStill n m ru la lb wo sd x r) (h2 : aStill n m ru la lb wo sd x r2) : r = r2 := by
  rcases h with ⟨a, rfl⟩ | ⟨hx, ⟨a, b, ld, hab, hb, hs, hr, hf, rfl⟩ | ⟨rfl, hf⟩⟩ <;> rcases h2 with ⟨c, rfl⟩ | ⟨hx2, ⟨c, d, ld2, hcd, hd, hs2, hr2, hf2, rfl⟩ | ⟨rfl, hf2⟩⟩
  · rfl
  · exact absurd hx2 a
  · exact absurd hx2 a
  · exact absurd hx c
  · have e : a = c ∧ b = d := by
      rcases Nat.lt_trichotomy a c with q | q | q
      · exact absurd hs (hf2 a b hab hb (Or.inl q))
      · subst q
        rcases Nat.lt_trichotomy b d with q | q | q
        · exact absurd hs (hf2 a b hab hb (Or.inr ⟨rfl, q⟩))
        · exact ⟨rfl, q⟩
        · exact absurd hs2 (hf a d hcd hd (Or.inr ⟨rfl, q⟩))
      · exact absurd hs2 (hf c d hcd hd (Or.inl q))
    obtain ⟨rfl, rfl⟩ := e
    obtain ⟨rfl, -⟩ := hr.one hr2
    rfl
  · exact absurd hs (hf2 a b hab hb)
  · exact absurd hx c
  · exact absurd hs2 (hf c d hcd hd)
  · rfl
/-- the streets that in fog make a told stand -/
def mst (n m : Nat) (ru la lb : Nat → Nat) (fo sd to : Nat) : Nat → Nat
  | 0 => 0
  | k + 1 => if fo.testBit k = false ∧ Fw n m ru la lb (fo ||| 2 ^ k) sd = to then mst n m ru la lb fo sd to k ||| 2 ^ k else mst n m ru la lb fo sd to k
theorem mst_lt (n m : Nat) (ru la lb : Nat → Nat) (fo sd to : Nat) : ∀ k, mst n m ru la lb fo sd to k < 2 ^ k
  | 0 => by simp [mst]
  | k + 1 => by
    have h1 := mst_lt n m ru la lb fo sd to k
    have h2 : 2 ^ k < 2 ^ (k + 1) := Nat.pow_lt_pow_right (by decide) (by omega)
    rw [mst]
    split
    · exact Nat.or_lt_two_pow (by omega) h2
    · omega
noncomputable def aMist (n m : Nat) (ru la lb : Nat → Nat) (fo sd : Nat) (x : Int32) : Int32 := if cb (inR x (2 ^ n)) = true then nI (mst n m ru la lb fo sd x.toNatClampNeg m) else -1
noncomputable def aFlick (n : Nat) (f : Nat → Nat) (sd : Nat) (x y : Int32) : Int32 := if (x = -1 ∨ cb (inR x n) = true) ∧ cb (inR y 61) = true then (if x = -1 then mfl (flk f sd y.toNatClampNeg) n else nI (flk f sd y.toNatClampNeg x.toNatClampNeg)) else -1
noncomputable def aMark (n m : Nat) (ru la lb : Nat → Nat) (sd : Nat) (x y : Int32) : Int32 := if cb (inR x 6) = true ∧ cb (inR y n) = true then mkV x.toNatClampNeg (bitN sd y.toNatClampNeg) (pcN (bsd la lb 0 y.toNatClampNeg m)) (ru y.toNatClampNeg) (pcN sd) y.toNatClampNeg else -1000000
noncomputable def tMark (n : Nat) (x y : Int32) (tr : Int64) : Int64 := if cb (inR x 6) = true ∧ cb (inR y n) = true then tr + mkT x.toNatClampNeg else tr
noncomputable def aType (ln : Nat) (c : Int32) : Int32 := if cb (inR c 256) = true then (if ln < 200 then nI (ln + 1) else -3) else -1
noncomputable def lType (ln : Nat) (c : Int32) : Nat := if cb (inR c 256) = true ∧ ln < 200 then ln + 1 else ln
noncomputable def bType (ln : Nat) (bt : Nat → Nat) (c : Int32) : Nat → Nat := if cb (inR c 256) = true ∧ ln < 200 then va_up bt ln c.toNatClampNeg else bt
theorem tType_ok {ln : Nat} {bt : Nat → Nat} {c : Int32} (h : TxOk ln bt) : TxOk (lType ln c) (bType ln bt c) := by
  unfold lType bType
  split
  · rename_i hb
    obtain ⟨j, hj, rfl⟩ := cb_t.mp hb.1
    refine ⟨by omega, fun i hi => ?_⟩
    rw [nI_clamp (by omega)]
    by_cases e : i = ln
    · subst e; rw [up_s]; exact hj
    · rw [up_n _ _ e]; exact h.2 i (by omega)
  · exact h
noncomputable def aKeep (P : Pr) (x : Int32) : Int32 := if cb (inR x 2) = true then nI P.1 else -1
noncomputable def kKeep (ki : Nat) (x : Int32) : Nat := if cb (inR x 2) = true then ki ||| 2 ^ x.toNatClampNeg else ki
noncomputable def iKeep (j : Nat) (P I : Pr) (x : Int32) : Pr := if x = nI j then P else I
noncomputable def aBack (ki : Nat) (I J : Pr) (x : Int32) : Int32 := if cb (inR x 2) = true then (if ki.testBit x.toNatClampNeg = true then nI (if x = nI 0 then I.1 else J.1) else -2) else -1
noncomputable def pBack (ki : Nat) (I J P : Pr) (x : Int32) : Pr := if cb (inR x 2) = true ∧ ki.testBit x.toNatClampNeg = true then (if x = nI 0 then I else J) else P
