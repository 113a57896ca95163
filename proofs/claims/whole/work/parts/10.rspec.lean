abbrev isL (c : Nat) : Prop := 97 ≤ c ∧ c ≤ 122
abbrev isD (c : Nat) : Prop := 48 ≤ c ∧ c ≤ 57
section RS
variable (bt : Nat → Nat) (ln : Nat)
/-- the first place from p on without a blank -/
def skp : Nat → Nat → Nat
  | 0, p => p
  | u + 1, p => if p < ln ∧ bt p = 32 then skp u (p + 1) else p
/-- the first place from p on without a letter -/
def lE : Nat → Nat → Nat
  | 0, p => p
  | u + 1, p => if p < ln ∧ isL (bt p) then lE u (p + 1) else p
def dE : Nat → Nat → Nat
  | 0, p => p
  | u + 1, p => if p < ln ∧ isD (bt p) then dE u (p + 1) else p
def dV : Nat → Nat → Nat → Nat
  | 0, _, v => v
  | u + 1, p, v => if p < ln ∧ isD (bt p) then dV u (p + 1) (if 99 < v then v else 10 * v + bt p - 48) else v
/-- where the token behind p begins -/
def sk (p : Nat) : Nat := skp bt ln (ln - p) p
def lEn (p : Nat) : Nat := lE bt ln (ln - p) p
def dEn (p : Nat) : Nat := dE bt ln (ln - p) p
def dVl (p v : Nat) : Nat := dV bt ln (ln - p) p v
/-- its kind: 0 the end, 1 l, 2 s, 3 a number, 4 ;, 5 none that may stand -/
def tK (p : Nat) : Nat := if sk bt ln p = ln then 0 else if isL (bt (sk bt ln p)) then (if lEn bt ln (sk bt ln p) = sk bt ln p + 1 ∧ bt (sk bt ln p) = 108 then 1 else if lEn bt ln (sk bt ln p) = sk bt ln p + 1 ∧ bt (sk bt ln p) = 115 then 2 else 5) else if isD (bt (sk bt ln p)) then (if 99 < dVl bt ln (sk bt ln p) 0 ∨ (1 < dEn bt ln (sk bt ln p) - sk bt ln p ∧ bt (sk bt ln p) = 48) then 5 else 3) else if bt (sk bt ln p) = 59 then 4 else 5
def tV (p : Nat) : Nat := dVl bt ln (sk bt ln p) 0
def tE (p : Nat) : Nat := if tK bt ln p = 3 then dEn bt ln (sk bt ln p) else sk bt ln p + 1
end RS
section RT
variable {bt : Nat → Nat} {ln : Nat}
theorem sk_yes {p : Nat} (h : p < ln) (h2 : bt p = 32) : sk bt ln p = sk bt ln (p + 1) := by
  unfold sk
  rw [show ln - p = (ln - (p + 1)) + 1 by omega, skp, if_pos ⟨h, h2⟩]
theorem sk_no {p : Nat} (h : ¬ (p < ln ∧ bt p = 32)) : sk bt ln p = p := by
  unfold sk
  cases hq : ln - p with
  | zero => rfl
  | succ u => rw [skp, if_neg h]
theorem lEn_yes {p : Nat} (h : p < ln) (h2 : isL (bt p)) : lEn bt ln p = lEn bt ln (p + 1) := by
  unfold lEn
  rw [show ln - p = (ln - (p + 1)) + 1 by omega, lE, if_pos ⟨h, h2⟩]
theorem lEn_no {p : Nat} (h : ¬ (p < ln ∧ isL (bt p))) : lEn bt ln p = p := by
  unfold lEn
  cases hq : ln - p with
  | zero => rfl
  | succ u => rw [lE, if_neg h]
theorem dEn_yes {p : Nat} (h : p < ln) (h2 : isD (bt p)) : dEn bt ln p = dEn bt ln (p + 1) := by
  unfold dEn
  rw [show ln - p = (ln - (p + 1)) + 1 by omega, dE, if_pos ⟨h, h2⟩]
theorem dEn_no {p : Nat} (h : ¬ (p < ln ∧ isD (bt p))) : dEn bt ln p = p := by
  unfold dEn
  cases hq : ln - p with
  | zero => rfl
  | succ u => rw [dE, if_neg h]
theorem dVl_yes {p v : Nat} (h : p < ln) (h2 : isD (bt p)) : dVl bt ln p v = dVl bt ln (p + 1) (if 99 < v then v else 10 * v + bt p - 48) := by
  unfold dVl
  rw [show ln - p = (ln - (p + 1)) + 1 by omega, dV, if_pos ⟨h, h2⟩]
theorem dVl_no {p v : Nat} (h : ¬ (p < ln ∧ isD (bt p))) : dVl bt ln p v = v := by
  unfold dVl
  cases hq : ln - p with
  | zero => rfl
  | succ u => rw [dV, if_neg h]
theorem skp_in : ∀ (u p : Nat), p ≤ ln → p ≤ skp bt ln u p ∧ skp bt ln u p ≤ ln
  | 0, p, h => ⟨Nat.le_refl p, h⟩
  | u + 1, p, h => by
    rw [skp]
    split
    · rename_i q
      have := skp_in u (p + 1) (by omega)
      omega
    · exact ⟨Nat.le_refl p, h⟩
theorem sk_in {p : Nat} (h : p ≤ ln) : p ≤ sk bt ln p ∧ sk bt ln p ≤ ln := skp_in _ p h
theorem dE_in : ∀ (u p : Nat), p ≤ ln → p ≤ dE bt ln u p ∧ dE bt ln u p ≤ ln
  | 0, p, h => ⟨Nat.le_refl p, h⟩
  | u + 1, p, h => by
    rw [dE]
    split
    · rename_i q
      have := dE_in u (p + 1) (by omega)
      omega
    · exact ⟨Nat.le_refl p, h⟩
theorem dEn_in {p : Nat} (h : p ≤ ln) : p ≤ dEn bt ln p ∧ dEn bt ln p ≤ ln := dE_in _ p h
theorem lE_in : ∀ (u p : Nat), p ≤ ln → p ≤ lE bt ln u p ∧ lE bt ln u p ≤ ln
  | 0, p, h => ⟨Nat.le_refl p, h⟩
  | u + 1, p, h => by
    rw [lE]
    split
    · rename_i q
      have := lE_in u (p + 1) (by omega)
      omega
    · exact ⟨Nat.le_refl p, h⟩
theorem lEn_in {p : Nat} (h : p ≤ ln) : p ≤ lEn bt ln p ∧ lEn bt ln p ≤ ln := lE_in _ p h
theorem tK0 {p : Nat} : tK bt ln p = 0 ↔ sk bt ln p = ln := by
  unfold tK
  constructor
  · intro h
    by_cases e : sk bt ln p = ln
    · exact e
    · rw [if_neg e] at h
      repeat' split at h
      all_goals omega
  · intro h
    rw [if_pos h]
theorem tE_in {p : Nat} (h : p ≤ ln) (hk : tK bt ln p ≠ 0) : p < tE bt ln p ∧ tE bt ln p ≤ ln := by
  have h1 := sk_in (bt := bt) h
  have h2 : sk bt ln p ≠ ln := fun e => hk (tK0.mpr e)
  unfold tE
  split
  · rename_i h3
    have h4 : isD (bt (sk bt ln p)) := by
      unfold tK at h3
      rw [if_neg h2] at h3
      by_cases e1 : isL (bt (sk bt ln p))
      · rw [if_pos e1] at h3
        repeat' split at h3
        all_goals omega
      · rw [if_neg e1] at h3
        by_cases e2 : isD (bt (sk bt ln p))
        · exact e2
        · rw [if_neg e2] at h3
          split at h3 <;> omega
    rw [dEn_yes (by omega) h4]
    have := dEn_in (bt := bt) (ln := ln) (p := sk bt ln p + 1) (by omega)
    omega
  · omega
/-- what the Reader holds behind a token: its sort, value, place reached -/
def CTok (bt : Nat → Nat) (ln p so : Nat) (va : Int32) (re : Nat) : Prop :=
  (tK bt ln p = 0 ∧ so = 0) ∨ (tK bt ln p = 1 ∧ so = 1 ∧ va = nI 108 ∧ re = tE bt ln p) ∨ (tK bt ln p = 2 ∧ so = 1 ∧ va = nI 115 ∧ re = tE bt ln p) ∨ (tK bt ln p = 3 ∧ so = 2 ∧ va = nI (tV bt ln p) ∧ re = tE bt ln p) ∨ (tK bt ln p = 4 ∧ so = 3 ∧ re = tE bt ln p) ∨ (tK bt ln p = 5 ∧ (so = 4 ∨ (so = 1 ∧ va ≠ nI 108 ∧ va ≠ nI 115)))
theorem CTok.so_le {p so : Nat} {va : Int32} {re : Nat} (h : CTok bt ln p so va re) : so ≤ 4 := by
  rcases h with h | h | h | h | h | ⟨_, h | h⟩ <;> omega
theorem tV_le {p : Nat} (h : tK bt ln p = 3) : tV bt ln p ≤ 99 := by
  unfold tK at h
  unfold tV
  repeat' split at h
  all_goals omega
end RT
abbrev PSt : Type := Nat × Nat × Nat × Nat × (Nat → Nat) × (Nat → Nat) × (Nat → Nat)
abbrev jnd (la lb : Nat → Nat) (m a b : Nat) : Prop := ∃ k, k < m ∧ la k = a ∧ lb k = b
/-- a lamp behind its letter: a fault's place, or rule, on, and where it ends -/
def lmpF (bt : Nat → Nat) (ln p : Nat) : Nat ⊕ (Nat × Nat × Nat) :=
  if ¬ (tK bt ln p = 3 ∧ tV bt ln p < 4) then .inl (sk bt ln p)
  else if ¬ (tK bt ln (tE bt ln p) = 3 ∧ tV bt ln (tE bt ln p) < 2) then .inl (sk bt ln (tE bt ln p))
  else if ¬ tK bt ln (tE bt ln (tE bt ln p)) = 4 then .inl (sk bt ln (tE bt ln (tE bt ln p)))
  else .inr (tV bt ln p, tV bt ln (tE bt ln p), tE bt ln (tE bt ln (tE bt ln p)))
/-- a street behind its letter: a fault's place, or its two lamps and where it ends -/
noncomputable def strF (bt : Nat → Nat) (ln n m : Nat) (la lb : Nat → Nat) (p : Nat) : Nat ⊕ (Nat × Nat × Nat) :=
  if ¬ (tK bt ln p = 3 ∧ tV bt ln p < n) then .inl (sk bt ln p)
  else if ¬ (tK bt ln (tE bt ln p) = 3 ∧ tV bt ln (tE bt ln p) < n) ∨ tV bt ln (tE bt ln p) = tV bt ln p ∨ cb (jnd la lb m (min (tV bt ln p) (tV bt ln (tE bt ln p))) (max (tV bt ln p) (tV bt ln (tE bt ln p)))) = true then .inl (sk bt ln (tE bt ln p))
  else if ¬ tK bt ln (tE bt ln (tE bt ln p)) = 4 then .inl (sk bt ln (tE bt ln (tE bt ln p)))
  else .inr (tV bt ln p, tV bt ln (tE bt ln p), tE bt ln (tE bt ln (tE bt ln p)))
/-- an item from its first token on: a fault's place, or what is told then -/
noncomputable def stp (bt : Nat → Nat) (ln : Nat) (S : PSt) : Nat ⊕ PSt := match S with
  | (p, n, m, t, ru, la, lb) =>
    if tK bt ln p = 1 then
      (if n = 9 then .inl (sk bt ln p) else match lmpF bt ln (tE bt ln p) with
        | .inl q => .inl q
        | .inr (a, b, e) => .inr (e, n + 1, m, t ||| b * 2 ^ n, va_up ru n a, la, lb))
    else if tK bt ln p = 2 then
      (if m = 15 then .inl (sk bt ln p) else match strF bt ln n m la lb (tE bt ln p) with
        | .inl q => .inl q
        | .inr (a, b, e) => .inr (e, n, m + 1, t, ru, va_up la m (min a b), va_up lb m (max a b)))
    else .inl (sk bt ln p)
noncomputable def prs (bt : Nat → Nat) (ln : Nat) : Nat → PSt → Nat ⊕ PSt
  | 0, _ => .inl 0
  | u + 1, S => if tK bt ln S.1 = 0 then .inr S else match stp bt ln S with
    | .inl q => .inl q
    | .inr S2 => prs bt ln u S2
/-- the rows of roads, with one street more -/
theorem bsd_add {la lb ro : Nat → Nat} {m a b : Nat} (hab : a ≠ b) (hr : ∀ l, l < 9 → ro l = bsd la lb 0 l m) : ∀ l, l < 9 → va_up (va_up ro a (ro a ||| 2 ^ b)) b (va_up ro a (ro a ||| 2 ^ b) b ||| 2 ^ a) l = bsd (va_up la m (min a b)) (va_up lb m (max a b)) 0 l (m + 1) := by
  intro l hl
  have h1 : bsd (va_up la m (min a b)) (va_up lb m (max a b)) 0 l m = bsd la lb 0 l m := bsd_cong (fun i hi => up_n _ _ (by omega)) (fun i hi => up_n _ _ (by omega))
  have z : (0 : Nat).testBit m = false := Nat.zero_testBit m
  rw [bsd, h1, up_s, up_s]
  simp only [z, true_and]
  by_cases e2 : l = b
  · subst e2
    rw [up_s, up_n _ _ (Ne.symm hab), hr l hl]
    rcases Nat.lt_or_ge a l with q | q
    · rw [Nat.min_eq_left (by omega), Nat.max_eq_right (by omega), if_neg hab, if_pos rfl, Nat.or_zero]
    · rw [Nat.min_eq_right (by omega), Nat.max_eq_left (by omega), if_pos rfl, if_neg hab, Nat.or_zero]
  · rw [up_n _ _ e2]
    by_cases e1 : l = a
    · subst e1
      rw [up_s, hr l hl]
      rcases Nat.lt_or_ge l b with q | q
      · rw [Nat.min_eq_left (by omega), Nat.max_eq_right (by omega), if_pos rfl, if_neg (Ne.symm e2), Nat.or_zero]
      · rw [Nat.min_eq_right (by omega), Nat.max_eq_left (by omega), if_neg (Ne.symm e2), if_pos rfl, Nat.or_zero]
    · rw [up_n _ _ e1, hr l hl]
      rcases Nat.lt_or_ge a b with q | q
      · rw [Nat.min_eq_left (by omega), Nat.max_eq_right (by omega), if_neg (Ne.symm e1), if_neg (Ne.symm e2), Nat.or_zero, Nat.or_zero]
      · rw [Nat.min_eq_right (by omega), Nat.max_eq_left (by omega), if_neg (Ne.symm e2), if_neg (Ne.symm e1), Nat.or_zero, Nat.or_zero]
theorem jnd_bit {la lb : Nat → Nat} {m n a b : Nat} (hl : ∀ k, k < m → la k < lb k ∧ lb k < n) : (bsd la lb 0 a m).testBit b = true ↔ jnd la lb m (min a b) (max a b) := by
  rw [bsd_bit]
  constructor
  · rintro ⟨i, hi, -, h⟩
    have h2 := hl i hi
    rcases h with ⟨e1, e2⟩ | ⟨e1, e2⟩
    · exact ⟨i, hi, by omega, by omega⟩
    · exact ⟨i, hi, by omega, by omega⟩
  · rintro ⟨i, hi, e1, e2⟩
    have h2 := hl i hi
    refine ⟨i, hi, Nat.zero_testBit i, ?_⟩
    omega
section RU
variable {bt : Nat → Nat} {ln : Nat}
theorem lmpF_f1 {p : Nat} (h : ¬ (tK bt ln p = 3 ∧ tV bt ln p < 4)) : lmpF bt ln p = .inl (sk bt ln p) := if_pos h
theorem lmpF_f2 {p : Nat} (h : tK bt ln p = 3 ∧ tV bt ln p < 4) (h2 : ¬ (tK bt ln (tE bt ln p) = 3 ∧ tV bt ln (tE bt ln p) < 2)) : lmpF bt ln p = .inl (sk bt ln (tE bt ln p)) := by
  unfold lmpF
  rw [if_neg (fun z => z h), if_pos h2]
theorem lmpF_f3 {p : Nat} (h : tK bt ln p = 3 ∧ tV bt ln p < 4) (h2 : tK bt ln (tE bt ln p) = 3 ∧ tV bt ln (tE bt ln p) < 2) (h3 : ¬ tK bt ln (tE bt ln (tE bt ln p)) = 4) : lmpF bt ln p = .inl (sk bt ln (tE bt ln (tE bt ln p))) := by
  unfold lmpF
  rw [if_neg (fun z => z h), if_neg (fun z => z h2), if_pos h3]
theorem lmpF_ok {p : Nat} (h : tK bt ln p = 3 ∧ tV bt ln p < 4) (h2 : tK bt ln (tE bt ln p) = 3 ∧ tV bt ln (tE bt ln p) < 2) (h3 : tK bt ln (tE bt ln (tE bt ln p)) = 4) : lmpF bt ln p = .inr (tV bt ln p, tV bt ln (tE bt ln p), tE bt ln (tE bt ln (tE bt ln p))) := by
  unfold lmpF
  rw [if_neg (fun z => z h), if_neg (fun z => z h2), if_neg (fun z => z h3)]
theorem lmpF_in {p a b e : Nat} (hp : p ≤ ln) (h : lmpF bt ln p = .inr (a, b, e)) : a < 4 ∧ b < 2 ∧ p < e ∧ e ≤ ln := by
  unfold lmpF at h
  by_cases h1 : tK bt ln p = 3 ∧ tV bt ln p < 4
  · rw [if_neg (fun z => z h1)] at h
    by_cases h2 : tK bt ln (tE bt ln p) = 3 ∧ tV bt ln (tE bt ln p) < 2
    · rw [if_neg (fun z => z h2)] at h
      by_cases h3 : tK bt ln (tE bt ln (tE bt ln p)) = 4
      · rw [if_neg (fun z => z h3)] at h
        cases h
        have q1 := tE_in (bt := bt) hp (by omega)
        have q2 := tE_in (bt := bt) q1.2 (by omega)
        have q3 := tE_in (bt := bt) q2.2 (by omega)
        omega
      · rw [if_pos h3] at h; cases h
    · rw [if_pos h2] at h; cases h
  · rw [if_pos h1] at h; cases h
theorem strF_in {n m : Nat} {la lb : Nat → Nat} {p a b e : Nat} (hp : p ≤ ln) (h : strF bt ln n m la lb p = .inr (a, b, e)) : a < n ∧ b < n ∧ a ≠ b ∧ ¬ jnd la lb m (min a b) (max a b) ∧ p < e ∧ e ≤ ln := by
  unfold strF at h
  by_cases h1 : tK bt ln p = 3 ∧ tV bt ln p < n
  · rw [if_neg (fun z => z h1)] at h
    split at h
    · cases h
    · rename_i h2
      by_cases h3 : tK bt ln (tE bt ln (tE bt ln p)) = 4
      · rw [if_neg (fun z => z h3)] at h
        cases h
        have g1 : tK bt ln (tE bt ln p) = 3 ∧ tV bt ln (tE bt ln p) < n := Classical.byContradiction (fun z => h2 (Or.inl z))
        have g2 : ¬ tV bt ln (tE bt ln p) = tV bt ln p := fun z => h2 (Or.inr (Or.inl z))
        have g3 : ¬ jnd la lb m (min (tV bt ln p) (tV bt ln (tE bt ln p))) (max (tV bt ln p) (tV bt ln (tE bt ln p))) := fun z => h2 (Or.inr (Or.inr (cb_1 z)))
        have q1 := tE_in (bt := bt) hp (by omega)
        have q2 := tE_in (bt := bt) q1.2 (by omega)
        have q3 := tE_in (bt := bt) q2.2 (by omega)
        exact ⟨h1.2, g1.2, fun z => g2 z.symm, g3, by omega, by omega⟩
      · rw [if_pos h3] at h; cases h
  · rw [if_pos h1] at h; cases h
theorem strF_f1 {n m : Nat} {la lb : Nat → Nat} {p : Nat} (h : ¬ (tK bt ln p = 3 ∧ tV bt ln p < n)) : strF bt ln n m la lb p = .inl (sk bt ln p) := if_pos h
theorem strF_f2 {n m : Nat} {la lb : Nat → Nat} {p : Nat} (h : tK bt ln p = 3 ∧ tV bt ln p < n) (h2 : ¬ (tK bt ln (tE bt ln p) = 3 ∧ tV bt ln (tE bt ln p) < n) ∨ tV bt ln (tE bt ln p) = tV bt ln p ∨ jnd la lb m (min (tV bt ln p) (tV bt ln (tE bt ln p))) (max (tV bt ln p) (tV bt ln (tE bt ln p)))) : strF bt ln n m la lb p = .inl (sk bt ln (tE bt ln p)) := by
  unfold strF
  rw [if_neg (fun z => z h), if_pos]
  rcases h2 with z | z | z
  · exact Or.inl z
  · exact Or.inr (Or.inl z)
  · exact Or.inr (Or.inr (cb_1 z))
theorem strF_n2 {n m : Nat} {la lb : Nat → Nat} {p : Nat} (h2 : tK bt ln (tE bt ln p) = 3 ∧ tV bt ln (tE bt ln p) < n) (h3 : ¬ tV bt ln (tE bt ln p) = tV bt ln p) (h4 : ¬ jnd la lb m (min (tV bt ln p) (tV bt ln (tE bt ln p))) (max (tV bt ln p) (tV bt ln (tE bt ln p)))) : ¬ (¬ (tK bt ln (tE bt ln p) = 3 ∧ tV bt ln (tE bt ln p) < n) ∨ tV bt ln (tE bt ln p) = tV bt ln p ∨ cb (jnd la lb m (min (tV bt ln p) (tV bt ln (tE bt ln p))) (max (tV bt ln p) (tV bt ln (tE bt ln p)))) = true) := by
  rintro (z | z | z)
  · exact z h2
  · exact h3 z
  · exact h4 (cb_t.mp z)
theorem strF_f3 {n m : Nat} {la lb : Nat → Nat} {p : Nat} (h : tK bt ln p = 3 ∧ tV bt ln p < n) (h2 : tK bt ln (tE bt ln p) = 3 ∧ tV bt ln (tE bt ln p) < n) (h3 : ¬ tV bt ln (tE bt ln p) = tV bt ln p) (h4 : ¬ jnd la lb m (min (tV bt ln p) (tV bt ln (tE bt ln p))) (max (tV bt ln p) (tV bt ln (tE bt ln p)))) (h5 : ¬ tK bt ln (tE bt ln (tE bt ln p)) = 4) : strF bt ln n m la lb p = .inl (sk bt ln (tE bt ln (tE bt ln p))) := by
  unfold strF
  rw [if_neg (fun z => z h), if_neg (strF_n2 h2 h3 h4), if_pos h5]
theorem strF_ok {n m : Nat} {la lb : Nat → Nat} {p : Nat} (h : tK bt ln p = 3 ∧ tV bt ln p < n) (h2 : tK bt ln (tE bt ln p) = 3 ∧ tV bt ln (tE bt ln p) < n) (h3 : ¬ tV bt ln (tE bt ln p) = tV bt ln p) (h4 : ¬ jnd la lb m (min (tV bt ln p) (tV bt ln (tE bt ln p))) (max (tV bt ln p) (tV bt ln (tE bt ln p)))) (h5 : tK bt ln (tE bt ln (tE bt ln p)) = 4) : strF bt ln n m la lb p = .inr (tV bt ln p, tV bt ln (tE bt ln p), tE bt ln (tE bt ln (tE bt ln p))) := by
  unfold strF
  rw [if_neg (fun z => z h), if_neg (strF_n2 h2 h3 h4), if_neg (fun z => z h5)]
theorem strF_cong {n m : Nat} {la lb la2 lb2 : Nat → Nat} {p : Nat} (h1 : ∀ i, i < m → la i = la2 i) (h2 : ∀ i, i < m → lb i = lb2 i) : strF bt ln n m la lb p = strF bt ln n m la2 lb2 p := by
  have e : ∀ a b, cb (jnd la lb m a b) = cb (jnd la2 lb2 m a b) := by
    intro a b
    congr 1
    apply propext
    constructor
    · rintro ⟨k, hk, e1, e2⟩
      exact ⟨k, hk, by rw [← h1 k hk]; exact e1, by rw [← h2 k hk]; exact e2⟩
    · rintro ⟨k, hk, e1, e2⟩
      exact ⟨k, hk, by rw [h1 k hk]; exact e1, by rw [h2 k hk]; exact e2⟩
  unfold strF
  simp only [e]
end RU
