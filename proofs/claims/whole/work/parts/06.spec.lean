/-- lamp l behind a bell: its rule r, its neighbours a, the stand s -/
def lampOn (r a s l : Nat) : Nat := if r = 2 then 1 - bitN s l else if r = 3 ∨ pcN (a &&& s) = pcN a - pcN (a &&& s) then bitN s l else if r = 0 then (if pcN (a &&& s) < pcN a - pcN (a &&& s) then 1 else 0) else (if pcN a - pcN (a &&& s) < pcN (a &&& s) then 1 else 0)
theorem lampOn_le (r a s l : Nat) : lampOn r a s l ≤ 1 := by
  have h := bitN_le s l
  unfold lampOn
  repeat' split
  all_goals omega
/-- the stand that a bell makes of s, its first lamps -/
def rg (ru ne : Nat → Nat) (s : Nat) : Nat → Nat
  | 0 => 0
  | l + 1 => rg ru ne s l ||| lampOn (ru l) (ne l) s l * 2 ^ l
theorem rg_1 {ru ne : Nat → Nat} {s l : Nat} (h : lampOn (ru l) (ne l) s l = 1) : rg ru ne s l ||| 2 ^ l = rg ru ne s (l + 1) := by
  rw [rg, h, Nat.one_mul]
theorem rg_0 {ru ne : Nat → Nat} {s l : Nat} (h : lampOn (ru l) (ne l) s l = 0) : rg ru ne s l = rg ru ne s (l + 1) := by
  rw [rg, h, Nat.zero_mul, Nat.or_zero]
theorem rg_lt (ru ne : Nat → Nat) (s : Nat) : ∀ l, rg ru ne s l < 2 ^ l
  | 0 => by simp [rg]
  | l + 1 => by
    rw [rg]
    apply Nat.or_lt_two_pow
    · exact Nat.lt_trans (rg_lt ru ne s l) (Nat.pow_lt_pow_right (by decide) (by omega))
    · have h := lampOn_le (ru l) (ne l) s l
      have h2 : 2 ^ l < 2 ^ (l + 1) := Nat.pow_lt_pow_right (by decide) (by omega)
      have h3 : lampOn (ru l) (ne l) s l * 2 ^ l ≤ 1 * 2 ^ l := Nat.mul_le_mul_right _ h
      omega
theorem rg_cong {ru ne ru2 ne2 : Nat → Nat} {s : Nat} : ∀ {l : Nat}, (∀ i, i < l → ru i = ru2 i) → (∀ i, i < l → ne i = ne2 i) → rg ru ne s l = rg ru2 ne2 s l
  | 0, _, _ => rfl
  | l + 1, h1, h2 => by
    rw [rg, rg, rg_cong (fun i hi => h1 i (by omega)) (fun i hi => h2 i (by omega)), h1 l (by omega), h2 l (by omega)]
/-- f, b times -/
def it (f : Nat → Nat) : Nat → Nat → Nat
  | 0, s => s
  | b + 1, s => f (it f b s)
theorem it_lt {f : Nat → Nat} {N s : Nat} (hf : ∀ x, x < N → f x < N) (hs : s < N) : ∀ b, it f b s < N
  | 0 => hs
  | b + 1 => hf _ (it_lt hf hs b)
theorem it_add (f : Nat → Nat) (s a : Nat) : ∀ b, it f (a + b) s = it f b (it f a s)
  | 0 => rfl
  | b + 1 => by
    show f (it f (a + b) s) = f (it f b (it f a s))
    rw [it_add f s a b]
theorem it_cong {f g : Nat → Nat} {N s : Nat} (hf : ∀ x, x < N → f x < N) (h : ∀ x, x < N → f x = g x) (hs : s < N) : ∀ b, it f b s = it g b s
  | 0 => rfl
  | b + 1 => by
    show f (it f b s) = g (it g b s)
    rw [← it_cong hf h hs b, h _ (it_lt hf hs b)]
/-- the works of a town: lamps, rules, neighbours, what a bell makes -/
def Wk (n : Nat) (ru ne f : Nat → Nat) : Prop := n ≤ 9 ∧ (∀ l, l < n → ru l ≤ 3) ∧ (∀ l, l < n → ne l < 512) ∧ ∀ s, s < 512 → rg ru ne s n = f s
def MdOk (f : Nat → Nat) (md : Nat → Int32) : Prop := ∀ s, s < 512 → md s = -1 ∨ md s = nI (f s)
theorem Wk.flt {n : Nat} {ru ne f : Nat → Nat} (h : Wk n ru ne f) {s : Nat} (hs : s < 512) : f s < 2 ^ n := by
  rw [← h.2.2.2 s hs]
  exact rg_lt ru ne s n
theorem Wk.f5 {n : Nat} {ru ne f : Nat → Nat} (h : Wk n ru ne f) : ∀ s, s < 512 → f s < 512 := fun s hs => Nat.lt_of_lt_of_le (h.flt hs) (p9 h.1)
theorem Wk.fn {n : Nat} {ru ne f : Nat → Nat} (h : Wk n ru ne f) : ∀ s, s < 2 ^ n → f s < 2 ^ n := fun s hs => h.flt (Nat.lt_of_lt_of_le hs (p9 h.1))
theorem MdOk.up {f : Nat → Nat} {md : Nat → Int32} (h : MdOk f md) (s : Nat) : MdOk f (upd md s (nI (f s))) := by
  intro x hx
  by_cases e : x = s
  · subst e; exact Or.inr pk_us
  · rw [pk_un e]; exact h x hx
theorem MdOk.fill (f : Nat → Nat) (md : Nat → Int32) : MdOk f (fillF md (-1) 512) := by
  intro x hx
  exact Or.inl (if_pos hx)
/-- stands come round behind ld bells, lg of them -/
def IsRnd (f : Nat → Nat) (s ld lg : Nat) : Prop := 1 ≤ lg ∧ it f (ld + lg) s = it f ld s ∧ ∀ i j, i < j → j < ld + lg → it f i s ≠ it f j s
theorem IsRnd.one {f : Nat → Nat} {s a b c d : Nat} (h1 : IsRnd f s a b) (h2 : IsRnd f s c d) : a = c ∧ b = d := by
  obtain ⟨p1, p2, p3⟩ := h1
  obtain ⟨q1, q2, q3⟩ := h2
  have e : a + b = c + d := by
    rcases Nat.lt_trichotomy (a + b) (c + d) with h | h | h
    · exact absurd p2.symm (q3 a (a + b) (by omega) h)
    · exact h
    · exact absurd q2.symm (p3 c (c + d) (by omega) h)
  have e2 : a = c := by
    rcases Nat.lt_trichotomy a c with h | h | h
    · exact absurd (p2.symm.trans (by rw [e]; exact q2)) (p3 a c h (by omega))
    · exact h
    · exact absurd (q2.symm.trans (by rw [← e]; exact p2)) (q3 c a h (by omega))
  omega
def SeOk (f : Nat → Nat) (s b : Nat) (se : Nat → Int32) : Prop := (∀ t, t < 512 → (se t = -1 ∧ ∀ i, i < b → it f i s ≠ t) ∨ ∃ i, i < b ∧ se t = nI i ∧ it f i s = t) ∧ ∀ i j, i < j → j < b → it f i s ≠ it f j s
theorem SeOk.start (f : Nat → Nat) (s : Nat) (se : Nat → Int32) : SeOk f s 0 (fillF se (-1) 512) := ⟨fun t ht => Or.inl ⟨if_pos ht, fun i hi => absurd hi (Nat.not_lt_zero i)⟩, fun i j _ hj => absurd hj (Nat.not_lt_zero j)⟩
theorem nI_m1 {i : Nat} (h : i < 2 ^ 31) : ¬ nI i = -1 := by
  intro e
  have h2 := nI_pos h
  rw [e] at h2
  exact h2 (by decide)
theorem SeOk.next {f : Nat → Nat} {s b : Nat} {se : Nat → Int32} (h : SeOk f s b se) (hn : se (it f b s) = -1) (hl : it f b s < 512) (hb : b < 2 ^ 31) : SeOk f s (b + 1) (upd se (it f b s) (nI b)) := by
  have hne : ∀ i, i < b → it f i s ≠ it f b s := by
    rcases h.1 _ hl with h1 | ⟨i, hi, h1, h2⟩
    · exact h1.2
    · rw [hn] at h1
      exact absurd h1.symm (nI_m1 (by omega))
  constructor
  · intro t ht
    by_cases e : t = it f b s
    · subst e
      exact Or.inr ⟨b, by omega, pk_us, rfl⟩
    · rw [pk_un e]
      rcases h.1 t ht with ⟨h1, h2⟩ | ⟨i, hi, h1, h2⟩
      · refine Or.inl ⟨h1, fun i hi => ?_⟩
        rcases (show i < b ∨ i = b by omega) with q | q
        · exact h2 i q
        · subst q; exact fun z => e z.symm
      · exact Or.inr ⟨i, by omega, h1, h2⟩
  · intro i j hij hj
    rcases (show j < b ∨ j = b by omega) with q | q
    · exact h.2 i j hij q
    · subst q; exact hne i hij
theorem SeOk.few {f : Nat → Nat} {s b : Nat} {se : Nat → Int32} (h : SeOk f s b se) (hl : ∀ i, it f i s < 512) : b ≤ 512 := fb_holes 512 b (fun i => it f i s) (fun i _ => hl i) h.2
/-- some lamps are lit in s and for ever behind it -/
def Lit (f : Nat → Nat) (s so : Nat) : Prop := ∀ b, it f b s &&& so = so
theorem it_back {f : Nat → Nat} {s a b : Nat} (hab : a < b) (e : it f b s = it f a s) : ∀ c, ∃ i, i < b ∧ it f c s = it f i s := by
  intro c
  induction c with
  | zero => exact ⟨0, by omega, rfl⟩
  | succ c ih =>
    obtain ⟨i, hi, h⟩ := ih
    rcases (show i + 1 < b ∨ i + 1 = b by omega) with q | q
    · exact ⟨i + 1, q, by show f _ = f _; rw [h]⟩
    · refine ⟨a, hab, ?_⟩
      show f (it f c s) = _
      rw [h, ← e, ← q]
      rfl
theorem Lit.of_back {f : Nat → Nat} {s a b so : Nat} (hab : a < b) (e : it f b s = it f a s) (h : ∀ i, i < b → it f i s &&& so = so) : Lit f s so := by
  intro c
  obtain ⟨i, hi, h2⟩ := it_back hab e c
  rw [h2]
  exact h i hi
theorem Lit.of_all {f : Nat → Nat} {s so : Nat} (hl : ∀ i, it f i s < 512) (h : ∀ i, i < 512 → it f i s &&& so = so) : Lit f s so := by
  obtain ⟨i, j, hij, hj, e⟩ := fb_twice (m := 512) (n := 513) (f := fun i => it f i s) (fun i _ => hl i) (by decide)
  exact Lit.of_back hij e.symm (fun k hk => h k (by omega))
def hitB (f : Nat → Nat) : Nat → Nat → Bool
  | 0, _ => false
  | k + 1, t => hitB f k t || f k == t
theorem hitB_s (f : Nat → Nat) (k : Nat) : hitB f (k + 1) = fun t => if t = f k then true else hitB f k t := by
  funext t
  by_cases h : t = f k
  · subst h; simp [hitB]
  · rw [if_neg h]
    have : (f k == t) = false := by simp; exact fun z => h z.symm
    simp [hitB, this]
theorem hitB_same {f : Nat → Nat} {k : Nat} (h : hitB f k (f k) = true) : hitB f (k + 1) = hitB f k := by
  rw [hitB_s]
  funext t
  by_cases e : t = f k
  · rw [if_pos e, e, h]
  · rw [if_neg e]
/-- how many stands no stand makes -/
def edn (f : Nat → Nat) (N : Nat) : Nat := N - fb_ct (hitB f N) N
theorem hit_new {f : Nat → Nat} {k N : Nat} (hk : f k < N) (h : hitB f k (f k) = false) : fb_ct (hitB f (k + 1)) N = fb_ct (hitB f k) N + 1 := by
  have h1 := fb_ct_upd (hitB f k) true hk
  rw [h] at h1
  rw [hitB_s]
  simpa using h1
/-- neighbours of l by the first k streets, but for those of wo -/
def bsd (la lb : Nat → Nat) (wo l : Nat) : Nat → Nat
  | 0 => 0
  | k + 1 => (bsd la lb wo l k ||| (if wo.testBit k = false ∧ la k = l then 2 ^ lb k else 0)) ||| (if wo.testBit k = false ∧ lb k = l then 2 ^ la k else 0)
theorem bsd_cong {la lb la2 lb2 : Nat → Nat} {wo l : Nat} : ∀ {k : Nat}, (∀ i, i < k → la i = la2 i) → (∀ i, i < k → lb i = lb2 i) → bsd la lb wo l k = bsd la2 lb2 wo l k
  | 0, _, _ => rfl
  | k + 1, h1, h2 => by
    rw [bsd, bsd, bsd_cong (fun i hi => h1 i (by omega)) (fun i hi => h2 i (by omega)), h1 k (by omega), h2 k (by omega)]
theorem bsd_bit {la lb : Nat → Nat} {wo l j : Nat} : ∀ {k : Nat}, (bsd la lb wo l k).testBit j = true ↔ ∃ i, i < k ∧ wo.testBit i = false ∧ ((la i = l ∧ lb i = j) ∨ (lb i = l ∧ la i = j))
  | 0 => by
    simp [bsd]
  | k + 1 => by
    rw [bsd, Nat.testBit_or, Nat.testBit_or, Bool.or_eq_true, Bool.or_eq_true, bsd_bit (k := k)]
    constructor
    · rintro ((⟨i, hi, h⟩ | h) | h)
      · exact ⟨i, by omega, h⟩
      · split at h
        · rename_i q
          rw [Nat.testBit_two_pow, decide_eq_true_eq] at h
          exact ⟨k, by omega, q.1, Or.inl ⟨q.2, h⟩⟩
        · simp at h
      · split at h
        · rename_i q
          rw [Nat.testBit_two_pow, decide_eq_true_eq] at h
          exact ⟨k, by omega, q.1, Or.inr ⟨q.2, h⟩⟩
        · simp at h
    · rintro ⟨i, hi, h0, h⟩
      rcases (show i < k ∨ i = k by omega) with q | q
      · exact Or.inl (Or.inl ⟨i, q, h0, h⟩)
      · subst q
        rcases h with ⟨e1, e2⟩ | ⟨e1, e2⟩
        · refine Or.inl (Or.inr ?_)
          rw [if_pos ⟨h0, e1⟩, Nat.testBit_two_pow]
          exact decide_eq_true e2
        · refine Or.inr ?_
          rw [if_pos ⟨h0, e1⟩, Nat.testBit_two_pow]
          exact decide_eq_true e2
/-- a town: n lamps, m streets -/
def Tok (n m : Nat) (ru la lb : Nat → Nat) : Prop := n ≤ 9 ∧ m ≤ 15 ∧ (∀ l, l < n → ru l ≤ 3) ∧ (∀ k, k < m → la k < lb k ∧ lb k < n) ∧ ∀ j k, j < k → k < m → ¬ (la j = la k ∧ lb j = lb k)
theorem bsd_lt {n m : Nat} {ru la lb : Nat → Nat} (h : Tok n m ru la lb) (wo l : Nat) : bsd la lb wo l m < 512 := by
  apply Nat.lt_of_lt_of_le (m := 2 ^ n) _ (p9 h.1)
  apply Nat.lt_pow_two_of_testBit
  intro j hj
  cases hb : (bsd la lb wo l m).testBit j
  · rfl
  · obtain ⟨i, hi, -, h2⟩ := bsd_bit.mp hb
    have h3 := h.2.2.2.1 i hi
    exfalso
    rcases h2 with ⟨e1, e2⟩ | ⟨e1, e2⟩ <;> omega
/-- what a bell makes, with fog wo -/
def Fw (n m : Nat) (ru la lb : Nat → Nat) (wo : Nat) : Nat → Nat := fun s => rg ru (fun l => bsd la lb wo l m) s n
def NeOk (n m : Nat) (la lb : Nat → Nat) (wo : Nat) (ne : Nat → Nat) : Prop := ∀ l, l < n → ne l = bsd la lb wo l m
theorem Wk.of {n m : Nat} {ru la lb ne : Nat → Nat} {wo : Nat} (h : Tok n m ru la lb) (h2 : NeOk n m la lb wo ne) : Wk n ru ne (Fw n m ru la lb wo) := by
  refine ⟨h.1, h.2.2.1, fun l hl => ?_, fun s hs => rg_cong (fun _ _ => rfl) h2⟩
  rw [h2 l hl]
  exact bsd_lt h wo l
/-- the rows of neighbours while fog comes, street by street -/
def lyF (la lb : Nat → Nat) (wo : Nat) (ro : Nat → Nat) : Nat → Nat → Nat
  | 0 => ro
  | k + 1 => if wo.testBit k = true then va_up (va_up (lyF la lb wo ro k) (la k) (lyF la lb wo ro k (la k) &&& (2 ^ lb k ^^^ 4294967295))) (lb k) (va_up (lyF la lb wo ro k) (la k) (lyF la lb wo ro k (la k) &&& (2 ^ lb k ^^^ 4294967295)) (lb k) &&& (2 ^ la k ^^^ 4294967295)) else lyF la lb wo ro k
theorem lyF_bit {n m : Nat} {ru la lb : Nat → Nat} (h : Tok n m ru la lb) (wo : Nat) (ro : Nat → Nat) (l j : Nat) (hj : j < 16) : ∀ k, k ≤ m → ((lyF la lb wo ro k l).testBit j = true ↔ ((ro l).testBit j = true ∧ ¬ ∃ i, i < k ∧ wo.testBit i = true ∧ ((la i = l ∧ lb i = j) ∨ (lb i = l ∧ la i = j))))
  | 0, _ => by simp [lyF]
  | k + 1, hk => by
    have ih := lyF_bit h wo ro l j hj k (by omega)
    have hb : (4294967295 : Nat).testBit j = true := by
      have : ∀ j, j < 16 → (4294967295 : Nat).testBit j = true := by decide
      exact this j hj
    have hlt := h.2.2.2.1 k (by omega)
    have ex : (∃ i, i < k + 1 ∧ wo.testBit i = true ∧ ((la i = l ∧ lb i = j) ∨ (lb i = l ∧ la i = j))) ↔ ((∃ i, i < k ∧ wo.testBit i = true ∧ ((la i = l ∧ lb i = j) ∨ (lb i = l ∧ la i = j))) ∨ (wo.testBit k = true ∧ ((la k = l ∧ lb k = j) ∨ (lb k = l ∧ la k = j)))) := by
      constructor
      · rintro ⟨i, hi, q⟩
        rcases (show i < k ∨ i = k by omega) with z | z
        · exact Or.inl ⟨i, z, q⟩
        · subst z; exact Or.inr q
      · rintro (⟨i, hi, q⟩ | q)
        · exact ⟨i, by omega, q⟩
        · exact ⟨k, by omega, q⟩
    rw [ex, lyF]
    by_cases hw : wo.testBit k = true
    · rw [if_pos hw]
      by_cases e1 : l = lb k
      · have e2 : lb k ≠ la k := by omega
        subst e1
        rw [up_s, up_n _ _ e2, Nat.testBit_and, Nat.testBit_xor, Nat.testBit_two_pow, hb, Bool.and_eq_true, ih]
        by_cases e3 : la k = j
        · simp [e3, hw]
        · have e4 : decide (la k = j) = false := decide_eq_false e3
          simp only [e4, Bool.false_xor, and_true, hw, true_and]
          constructor
          · rintro ⟨a1, a2⟩
            exact ⟨a1, fun z => z.elim a2 (fun y => y.elim (fun x => by omega) (fun x => e3 x))⟩
          · rintro ⟨a1, a2⟩
            exact ⟨a1, fun z => a2 (Or.inl z)⟩
      · rw [up_n _ _ e1]
        by_cases e2 : l = la k
        · subst e2
          rw [up_s, Nat.testBit_and, Nat.testBit_xor, Nat.testBit_two_pow, hb, Bool.and_eq_true, ih]
          by_cases e3 : lb k = j
          · simp [e3, hw]
          · have e4 : decide (lb k = j) = false := decide_eq_false e3
            simp only [e4, Bool.false_xor, and_true, hw, true_and]
            constructor
            · rintro ⟨a1, a2⟩
              exact ⟨a1, fun z => z.elim a2 (fun y => y.elim (fun x => e3 x) (fun x => by omega))⟩
            · rintro ⟨a1, a2⟩
              exact ⟨a1, fun z => a2 (Or.inl z)⟩
        · rw [up_n _ _ e2, ih]
          constructor
          · rintro ⟨a1, a2⟩
            exact ⟨a1, fun z => z.elim a2 (fun y => y.2.elim (fun x => e2 x.1.symm) (fun x => e1 x.1.symm))⟩
          · rintro ⟨a1, a2⟩
            exact ⟨a1, fun z => a2 (Or.inl z)⟩
    · rw [if_neg hw, ih]
      constructor
      · rintro ⟨a1, a2⟩
        exact ⟨a1, fun z => z.elim a2 (fun y => hw y.1)⟩
      · rintro ⟨a1, a2⟩
        exact ⟨a1, fun z => a2 (Or.inl z)⟩
theorem lyF_le (la lb : Nat → Nat) (wo : Nat) (ro : Nat → Nat) (l : Nat) : ∀ k, lyF la lb wo ro k l ≤ ro l
  | 0 => Nat.le_refl _
  | k + 1 => by
    have ih := fun l => lyF_le la lb wo ro l k
    rw [lyF]
    split
    · by_cases e1 : l = lb k
      · subst e1
        rw [up_s]
        refine Nat.le_trans Nat.and_le_left ?_
        by_cases e2 : lb k = la k
        · rw [e2, up_s]; exact Nat.le_trans Nat.and_le_left (ih _)
        · rw [up_n _ _ e2]; exact ih _
      · rw [up_n _ _ e1]
        by_cases e2 : l = la k
        · subst e2; rw [up_s]; exact Nat.le_trans Nat.and_le_left (ih _)
        · rw [up_n _ _ e2]; exact ih _
    · exact ih l
theorem lyF_ok {n m : Nat} {ru la lb ro : Nat → Nat} (h : Tok n m ru la lb) (wo : Nat) (hr : ∀ l, l < n → ro l = bsd la lb 0 l m) : NeOk n m la lb wo (lyF la lb wo ro m) := by
  intro l hl
  apply Nat.eq_of_testBit_eq
  intro j
  by_cases hj : j < 16
  · apply Bool.eq_iff_iff.mpr
    rw [lyF_bit h wo ro l j hj m (Nat.le_refl m), hr l hl, bsd_bit, bsd_bit]
    constructor
    · rintro ⟨⟨i, hi, -, h2⟩, h3⟩
      refine ⟨i, hi, tbF (fun z => h3 ⟨i, hi, z, h2⟩), h2⟩
    · rintro ⟨i, hi, h1, h2⟩
      refine ⟨⟨i, hi, by simp, h2⟩, ?_⟩
      rintro ⟨k, hk, h3, h4⟩
      have e : i = k := by
        have t1 := h.2.2.2.1 i hi
        have t2 := h.2.2.2.1 k hk
        rcases Nat.lt_trichotomy i k with q | q | q
        · refine absurd ?_ (h.2.2.2.2 i k q hk)
          rcases h2 with ⟨x1, x2⟩ | ⟨x1, x2⟩ <;> rcases h4 with ⟨y1, y2⟩ | ⟨y1, y2⟩ <;> constructor <;> omega
        · exact q
        · refine absurd ?_ (h.2.2.2.2 k i q hi)
          rcases h2 with ⟨x1, x2⟩ | ⟨x1, x2⟩ <;> rcases h4 with ⟨y1, y2⟩ | ⟨y1, y2⟩ <;> constructor <;> omega
      subst e
      rw [h1] at h3
      cases h3
  · have b1 : lyF la lb wo ro m l < 2 ^ j := by
      have := lyF_le la lb wo ro l m
      have h2 : ro l < 512 := by rw [hr l hl]; exact bsd_lt h 0 l
      have h3 : 2 ^ 9 ≤ 2 ^ j := Nat.pow_le_pow_right (by decide) (by omega)
      omega
    have b2 : bsd la lb wo l m < 2 ^ j := by
      have h2 := bsd_lt h wo l
      have h3 : 2 ^ 9 ≤ 2 ^ j := Nat.pow_le_pow_right (by decide) (by omega)
      omega
    rw [Nat.testBit_lt_two_pow b1, Nat.testBit_lt_two_pow b2]
theorem hit_se {f : Nat → Nat} {k : Nat} {se : Nat → Int32} (h : ∀ t, t < 512 → (se t = -1 ↔ hitB f k t = false)) (hk : k < 2 ^ 31) : ∀ t, t < 512 → (upd se (f k) (nI k) t = -1 ↔ hitB f (k + 1) t = false) := by
  intro t ht
  have hs : hitB f (k + 1) t = if t = f k then true else hitB f k t := congrFun (hitB_s f k) t
  rw [hs]
  by_cases e : t = f k
  · subst e
    rw [pk_us, if_pos rfl]
    exact ⟨fun z => absurd z (nI_m1 hk), fun z => by cases z⟩
  · rw [pk_un e, if_neg e]
    exact h t ht
