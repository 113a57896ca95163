noncomputable def cb (p : Prop) : Bool := @decide p (Classical.propDecidable p)
theorem cb_t {p : Prop} : cb p = true ↔ p := @decide_eq_true_iff p (Classical.propDecidable p)
theorem cb_1 {p : Prop} (h : p) : cb p = true := cb_t.mpr h
theorem cb_0 {p : Prop} (h : ¬ p) : cb p = false := tbF (fun z => h (cb_t.mp z))
/-- of those below i with p: how many, and the least (none: -9) -/
def CnSt (p : Nat → Prop) (i mn : Nat) (le : Int32) : Prop := mn = fb_ct (fun x => cb (p x)) i ∧ (mn = 0 → le = -9) ∧ (mn ≠ 0 → ∃ x, x < i ∧ le = nI x ∧ p x ∧ ∀ y, y < x → ¬ p y)
theorem CnSt.z (p : Nat → Prop) : CnSt p 0 0 (-9) := ⟨rfl, fun _ => rfl, fun h => absurd rfl h⟩
theorem CnSt.skip {p : Nat → Prop} {i mn : Nat} {le : Int32} (h : CnSt p i mn le) (hp : ¬ p i) : CnSt p (i + 1) mn le := by
  refine ⟨?_, h.2.1, fun hm => ?_⟩
  · rw [fb_ct_succ, cb_0 hp]; exact h.1
  · obtain ⟨x, hx, r⟩ := h.2.2 hm
    exact ⟨x, by omega, r⟩
theorem CnSt.none {p : Nat → Prop} {i mn : Nat} {le : Int32} (h : CnSt p i mn le) (hm : mn = 0) : ∀ y, y < i → ¬ p y := by
  intro y hy hp
  have h1 := h.1
  rw [hm] at h1
  have h2 := fb_ct_zero.mp h1.symm y hy
  rw [cb_1 hp] at h2
  cases h2
theorem CnSt.first {p : Nat → Prop} {i mn : Nat} {le : Int32} (h : CnSt p i mn le) (hm : mn = 0) (hp : p i) : CnSt p (i + 1) (mn + 1) (nI i) := by
  refine ⟨?_, fun z => by omega, fun _ => ⟨i, by omega, rfl, hp, h.none hm⟩⟩
  rw [fb_ct_succ, cb_1 hp, ← h.1]
  rfl
theorem CnSt.more {p : Nat → Prop} {i mn : Nat} {le : Int32} (h : CnSt p i mn le) (hm : mn ≠ 0) (hp : p i) : CnSt p (i + 1) (mn + 1) le := by
  refine ⟨?_, fun z => by omega, fun _ => ?_⟩
  · rw [fb_ct_succ, cb_1 hp, ← h.1]; rfl
  · obtain ⟨x, hx, r⟩ := h.2.2 hm
    exact ⟨x, by omega, r⟩
theorem CnSt.le_i {p : Nat → Prop} {i mn : Nat} {le : Int32} (h : CnSt p i mn le) : mn ≤ i := by rw [h.1]; exact fb_ct_le _ _
theorem CnSt.one {p : Nat → Prop} {i a b : Nat} {c d : Int32} (h1 : CnSt p i a c) (h2 : CnSt p i b d) : a = b ∧ c = d := by
  have e : a = b := h1.1.trans h2.1.symm
  refine ⟨e, ?_⟩
  by_cases hz : a = 0
  · rw [h1.2.1 hz, h2.2.1 (by omega)]
  · obtain ⟨x, hx, rfl, px, fx⟩ := h1.2.2 hz
    obtain ⟨y, hy, rfl, py, fy⟩ := h2.2.2 (by omega)
    rw [fb_first_one px fx py fy]
theorem CnSt.cong {p q : Nat → Prop} {i mn : Nat} {le : Int32} (h : CnSt p i mn le) (e : ∀ x, x < i → (p x ↔ q x)) : CnSt q i mn le := by
  refine ⟨?_, h.2.1, fun hm => ?_⟩
  · rw [h.1]
    apply fb_ct_cong
    intro k hk
    show cb (p k) = cb (q k)
    by_cases hp : p k
    · rw [cb_1 hp, cb_1 ((e k hk).mp hp)]
    · rw [cb_0 hp, cb_0 (fun z => hp ((e k hk).mpr z))]
  · obtain ⟨x, hx, e1, px, fx⟩ := h.2.2 hm
    exact ⟨x, hx, e1, (e x hx).mp px, fun y hy z => fx y hy ((e y (by omega)).mpr z)⟩
/-- the sets of q lamps that, turned now, light 'so' from bell k on -/
def LitS (f : Nat → Nat) (sd so k q : Nat) (x : Nat) : Prop := pcN x = q ∧ Lit f (it f k (sd ^^^ x)) so
/-- lit: behind the sets below i: the least size, how many, the least -/
def LiSt (f : Nat → Nat) (sd so k i sz mn : Nat) (le : Int32) : Prop := sz ≤ 3 ∧ CnSt (LitS f sd so k sz) i mn le ∧ (mn = 0 → sz = 3) ∧ ∀ q, q < sz → ∀ x, x < i → ¬ LitS f sd so k q x
theorem LiSt.z (f : Nat → Nat) (sd so k : Nat) : LiSt f sd so k 0 3 0 (-9) := ⟨by omega, CnSt.z _, fun _ => rfl, fun _ _ x h => absurd h (Nat.not_lt_zero x)⟩
theorem LiSt.big {f : Nat → Nat} {sd so k i sz mn : Nat} {le : Int32} (h : LiSt f sd so k i sz mn le) (hb : sz < pcN i) : LiSt f sd so k (i + 1) sz mn le := by
  refine ⟨h.1, h.2.1.skip (fun z => by have := z.1; omega), h.2.2.1, fun q hq x hx z => ?_⟩
  rcases (show x < i ∨ x = i by omega) with y | y
  · exact h.2.2.2 q hq x y z
  · subst y; have := z.1; omega
theorem LiSt.dark {f : Nat → Nat} {sd so k i sz mn : Nat} {le : Int32} (h : LiSt f sd so k i sz mn le) (hb : ¬ Lit f (it f k (sd ^^^ i)) so) : LiSt f sd so k (i + 1) sz mn le := by
  refine ⟨h.1, h.2.1.skip (fun z => hb z.2), h.2.2.1, fun q hq x hx z => ?_⟩
  rcases (show x < i ∨ x = i by omega) with y | y
  · exact h.2.2.2 q hq x y z
  · subst y; exact hb z.2
theorem LiSt.new {f : Nat → Nat} {sd so k i sz mn : Nat} {le : Int32} (h : LiSt f sd so k i sz mn le) (hb : Lit f (it f k (sd ^^^ i)) so) (hs : pcN i ≤ sz) (hn : mn = 0 ∨ pcN i < sz) : LiSt f sd so k (i + 1) (pcN i) 1 (nI i) := by
  have hno : ∀ y, y < i → ¬ LitS f sd so k (pcN i) y := by
    rcases Nat.lt_or_ge (pcN i) sz with q | q
    · exact h.2.2.2 _ q
    · have e : pcN i = sz := by omega
      rw [e]
      exact h.2.1.none (by omega)
  have h0 : CnSt (LitS f sd so k (pcN i)) i 0 (-9) := by
    refine ⟨?_, fun _ => rfl, fun z => absurd rfl z⟩
    exact (fb_ct_zero.mpr (fun x hx => cb_0 (hno x hx))).symm
  refine ⟨by have := h.1; omega, h0.first rfl ⟨rfl, hb⟩, fun z => by omega, fun q hq x hx z => ?_⟩
  rcases (show x < i ∨ x = i by omega) with y | y
  · exact h.2.2.2 q (by omega) x y z
  · subst y; have := z.1; omega
theorem LiSt.more {f : Nat → Nat} {sd so k i sz mn : Nat} {le : Int32} (h : LiSt f sd so k i sz mn le) (hb : Lit f (it f k (sd ^^^ i)) so) (hs : pcN i ≤ sz) (hn : ¬ mn = 0) (hs2 : ¬ pcN i < sz) : LiSt f sd so k (i + 1) sz (mn + 1) le := by
  have e : pcN i = sz := by omega
  refine ⟨h.1, h.2.1.more hn ⟨e, hb⟩, fun z => by omega, fun q hq x hx z => ?_⟩
  rcases (show x < i ∨ x = i by omega) with y | y
  · exact h.2.2.2 q hq x y z
  · subst y; have := z.1; omega
/-- places that a thief can come to, with one street more -/
def wrF (ro : Nat → Nat) (p : Nat) : Nat → Nat
  | 0 => p
  | l + 1 => if p.testBit l = true then wrF ro p l ||| ro l else wrF ro p l
theorem wrF_lt {ro : Nat → Nat} {p : Nat} (hp : p < 512) : ∀ l, (∀ i, i < l → ro i < 512) → wrF ro p l < 512
  | 0, _ => hp
  | l + 1, h => by
    have ih := wrF_lt hp l (fun i hi => h i (by omega))
    rw [wrF]
    split
    · exact Nat.or_lt_two_pow (n := 9) ih (h l (by omega))
    · exact ih
theorem wrF_cong {ro ro2 : Nat → Nat} {p : Nat} : ∀ {l : Nat}, (∀ i, i < l → ro i = ro2 i) → wrF ro p l = wrF ro2 p l
  | 0, _ => rfl
  | l + 1, h => by rw [wrF, wrF, wrF_cong (fun i hi => h i (by omega)), h l (by omega)]
/-- the dark lamps where he can be behind b bells -/
def plc (f ro : Nat → Nat) (n sd fr : Nat) : Nat → Nat
  | 0 => 2 ^ fr &&& (sd ^^^ 4294967295)
  | b + 1 => wrF ro (plc f ro n sd fr b) n &&& (it f (b + 1) sd ^^^ 4294967295)
theorem plc_lt {f ro : Nat → Nat} {n sd fr : Nat} (hfr : fr < 9) (hro : ∀ i, i < n → ro i < 512) : ∀ b, plc f ro n sd fr b < 512
  | 0 => and_lt (show 2 ^ fr < 2 ^ 9 from Nat.pow_lt_pow_right (by decide) hfr)
  | b + 1 => and_lt (wrF_lt (plc_lt hfr hro b) n hro)
def ThA (f ro : Nat → Nat) (n sd fr to : Nat) (r : Int32) : Prop := (∃ b, b ≤ 99 ∧ r = nI b ∧ (plc f ro n sd fr b).testBit to = true ∧ ∀ c, c < b → (plc f ro n sd fr c).testBit to = false) ∨ (r = -9 ∧ ∀ c, c ≤ 99 → (plc f ro n sd fr c).testBit to = false)
theorem ThA.one {f ro : Nat → Nat} {n sd fr to : Nat} {r r2 : Int32} (h : ThA f ro n sd fr to r) (h2 : ThA f ro n sd fr to r2) : r = r2 := by
  rcases h with ⟨b, hb, rfl, h3, h4⟩ | ⟨rfl, h3⟩ <;> rcases h2 with ⟨c, hc, rfl, k3, k4⟩ | ⟨rfl, k3⟩
  · rcases Nat.lt_trichotomy b c with q | q | q
    · rw [k4 b q] at h3; cases h3
    · rw [q]
    · rw [h4 c q] at k3; cases k3
  · rw [k3 b hb] at h3; cases h3
  · rw [h3 c hc] at k3; cases k3
  · rfl
/-- how often lamp l has flickered in b bells -/
def flk (f : Nat → Nat) (sd : Nat) : Nat → Nat → Nat
  | 0, _ => 0
  | b + 1, l => flk f sd b l + bitN (it f b sd ^^^ it f (b + 1) sd) l
theorem flk_le (f : Nat → Nat) (sd l : Nat) : ∀ b, flk f sd b l ≤ b
  | 0 => Nat.le_refl _
  | b + 1 => by
    have h1 := flk_le f sd l b
    have h2 := bitN_le (it f b sd ^^^ it f (b + 1) sd) l
    show flk f sd b l + _ ≤ _
    omega
/-- the first of the greatest -/
def amx (g : Nat → Nat) : Nat → Nat
  | 0 => 0
  | l + 1 => if l = 0 then 0 else if g (amx g l) < g l then l else amx g l
theorem amx_lt (g : Nat → Nat) : ∀ l, 0 < l → amx g l < l
  | 0, h => absurd h (Nat.lt_irrefl 0)
  | l + 1, _ => by
    rw [amx]
    split
    · omega
    · split
      · omega
      · have := amx_lt g l (by omega); omega
theorem amx_cong {g g2 : Nat → Nat} : ∀ {l : Nat}, (∀ i, i < l → g i = g2 i) → amx g l = amx g2 l
  | 0, _ => rfl
  | l + 1, h => by
    have ih := amx_cong (l := l) (fun i hi => h i (by omega))
    rw [amx, amx, ih]
    by_cases h0 : l = 0
    · rw [if_pos h0, if_pos h0]
    · rw [if_neg h0, if_neg h0, h l (by omega), h (amx g2 l) (by have := amx_lt g2 l (by omega); omega)]
def mfl (g : Nat → Nat) (l : Nat) : Int32 := if l = 0 then -9 else nI (amx g l)
theorem mfl_ne {g : Nat → Nat} {l : Nat} (h : ¬ l = 0) : mfl g l = nI (amx g l) := if_neg h
theorem mfl_neg {g : Nat → Nat} {l : Nat} (hl : l < 2 ^ 31) : mfl g l < 0 ↔ l = 0 := by
  unfold mfl
  by_cases h : l = 0
  · rw [if_pos h]; exact ⟨fun _ => h, fun _ => by decide⟩
  · rw [if_neg h]
    have := amx_lt g l (by omega)
    exact ⟨fun z => absurd z (nI_pos (by omega)), fun z => absurd z h⟩
theorem mfl_s0 {g : Nat → Nat} {l : Nat} (h : l = 0) : nI l = mfl g (l + 1) := by subst h; rfl
theorem mfl_up {g : Nat → Nat} {l : Nat} (h : ¬ l = 0) (hg : g (amx g l) < g l) : nI l = mfl g (l + 1) := by
  rw [mfl, if_neg (by omega), amx, if_neg h, if_pos hg]
theorem mfl_st {g : Nat → Nat} {l : Nat} (h : ¬ l = 0) (hg : ¬ g (amx g l) < g l) : nI (amx g l) = mfl g (l + 1) := by
  rw [mfl, if_neg (by omega), amx, if_neg h, if_neg hg]
theorem mfl_cong {g g2 : Nat → Nat} {l : Nat} (h : ∀ i, i < l → g i = g2 i) : mfl g l = mfl g2 l := by
  unfold mfl
  rw [amx_cong h]
/-- a lamp's mark by its kind -/
def mkV (kd bi pc ru ps l : Nat) : Int32 := if kd = 0 then nI bi else if kd = 1 then nI (bi + pc) else if kd = 2 then nI bi - nI ru else if kd = 3 then nI ((bi + pc) * 2) else if kd = 4 then nI bi - nI ru + nI l else nI (bi + ps)
def mkT (kd : Nat) : Int64 := if kd = 0 then 1 else if kd = 1 then 11 else if kd = 2 then 101 else if kd = 3 then 1011 else if kd = 4 then 10101 else 100001
