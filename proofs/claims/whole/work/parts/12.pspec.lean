section RW
variable {bt : Nat → Nat} {ln p so : Nat} {va : Int32} {re : Nat}
theorem ctE (h : CTok bt ln p so va re) : so = 0 ↔ tK bt ln p = 0 := by
  rcases h with h | h | h | h | h | ⟨h0, h | h⟩ <;> omega
theorem ctN (h : CTok bt ln p so va re) (e : so = 2) : tK bt ln p = 3 ∧ va = nI (tV bt ln p) ∧ re = tE bt ln p := by
  rcases h with h | h | h | h | h | ⟨h0, h | h⟩
  · omega
  · omega
  · omega
  · exact ⟨h.1, h.2.2.1, h.2.2.2⟩
  · omega
  · omega
  · omega
theorem ctNn (h : CTok bt ln p so va re) (e : ¬ so = 2) : ¬ tK bt ln p = 3 := by
  rcases h with h | h | h | h | h | ⟨h0, h | h⟩ <;> omega
theorem ctS (h : CTok bt ln p so va re) (e : so = 3) : tK bt ln p = 4 ∧ re = tE bt ln p := by
  rcases h with h | h | h | h | h | ⟨h0, h | h⟩ <;> omega
theorem ctSn (h : CTok bt ln p so va re) (e : ¬ so = 3) : ¬ tK bt ln p = 4 := by
  rcases h with h | h | h | h | h | ⟨h0, h | h⟩ <;> omega
theorem ctLn (h : CTok bt ln p so va re) (e : ¬ so = 1) (hk : ¬ tK bt ln p = 0) : ¬ tK bt ln p = 1 ∧ ¬ tK bt ln p = 2 := by
  rcases h with h | h | h | h | h | ⟨h0, h | h⟩ <;> omega
theorem ct108 : ¬ nI 115 = nI 108 := by decide
theorem ctl (h : CTok bt ln p so va re) (e : so = 1) (hv : va = nI 108) : tK bt ln p = 1 ∧ re = tE bt ln p := by
  rcases h with h | h | h | h | h | ⟨h0, h | h⟩
  · omega
  · exact ⟨h.1, h.2.2.2⟩
  · rw [h.2.2.1] at hv; exact absurd hv ct108
  · omega
  · omega
  · omega
  · exact absurd hv h.2.1
theorem cts (h : CTok bt ln p so va re) (e : so = 1) (hn : ¬ va = nI 108) (hv : va = nI 115) : tK bt ln p = 2 ∧ re = tE bt ln p := by
  rcases h with h | h | h | h | h | ⟨h0, h | h⟩
  · omega
  · exact absurd h.2.2.1 hn
  · exact ⟨h.1, h.2.2.2⟩
  · omega
  · omega
  · omega
  · exact absurd hv h.2.2
theorem cto (h : CTok bt ln p so va re) (e : so = 1) (hn : ¬ va = nI 108) (hv : ¬ va = nI 115) : ¬ tK bt ln p = 1 ∧ ¬ tK bt ln p = 2 := by
  rcases h with h | h | h | h | h | ⟨h0, h | h⟩
  · omega
  · exact absurd h.2.2.1 hn
  · exact absurd h.2.2.1 hv
  · omega
  · omega
  · omega
  · omega
end RW
theorem mo_c {h lim : Nat} (hl : lim = h + 1) (h3 : h < 1000) : ∀ v, v ≤ 99 → (nI h < nI v ↔ ¬ v < lim) := by
  intro v hv
  rw [nI_ltI (by omega) (by omega)]
  omega
theorem mo_n {n : Nat} (hn : n ≤ 9) : ∀ v, v ≤ 99 → (nI n - nI 1 < nI v ↔ ¬ v < n) := by
  intro v hv
  rw [Int32.lt_iff_toInt_lt, pk_sub_toInt (by omega) (by decide), nI_toInt (by omega)]
  omega
/-- a draft: a town, its roads by the streets told, what is on at first -/
def Dok (n m t : Nat) (ru la lb ro : Nat → Nat) : Prop := Tok n m ru la lb ∧ (∀ l, l < 9 → ro l = bsd la lb 0 l m) ∧ t < 2 ^ n
theorem Dok.z (ru la lb ro : Nat → Nat) : Dok 0 0 0 ru la lb (fillN ro 0 9) := ⟨⟨by omega, by omega, fun l h => absurd h (Nat.not_lt_zero l), fun k h => absurd h (Nat.not_lt_zero k), fun j k _ h => absurd h (Nat.not_lt_zero k)⟩, fun l hl => if_pos hl, by decide⟩
theorem Dok.lamp {n m t : Nat} {ru la lb ro : Nat → Nat} (h : Dok n m t ru la lb ro) (hn : n < 9) {a b : Nat} (ha : a < 4) (hb : b < 2) : Dok (n + 1) m (t ||| b * 2 ^ n) (va_up ru n a) la lb ro := by
  obtain ⟨⟨h1, h2, h3, h4, h5⟩, h6, h7⟩ := h
  refine ⟨⟨by omega, h2, fun l hl => ?_, fun k hk => ⟨(h4 k hk).1, by have := (h4 k hk).2; omega⟩, h5⟩, h6, ?_⟩
  · by_cases e : l = n
    · subst e; rw [up_s]; omega
    · rw [up_n _ _ e]; exact h3 l (by omega)
  · apply Nat.or_lt_two_pow
    · exact Nat.lt_trans h7 (Nat.pow_lt_pow_right (by decide) (by omega))
    · have h8 : 2 ^ n < 2 ^ (n + 1) := Nat.pow_lt_pow_right (by decide) (by omega)
      rcases (show b = 0 ∨ b = 1 by omega) with rfl | rfl <;> omega
theorem Dok.street {n m t : Nat} {ru la lb ro : Nat → Nat} (h : Dok n m t ru la lb ro) (hm : m < 15) {a b : Nat} (ha : a < n) (hb : b < n) (hab : a ≠ b) (hj : ¬ jnd la lb m (min a b) (max a b)) : Dok n (m + 1) t ru (va_up la m (min a b)) (va_up lb m (max a b)) (va_up (va_up ro a (ro a ||| 2 ^ b)) b (va_up ro a (ro a ||| 2 ^ b) b ||| 2 ^ a)) := by
  obtain ⟨⟨h1, h2, h3, h4, h5⟩, h6, h7⟩ := h
  refine ⟨⟨h1, by omega, h3, fun k hk => ?_, fun j k hjk hk => ?_⟩, bsd_add hab h6, h7⟩
  · by_cases e : k = m
    · subst e; rw [up_s, up_s]; omega
    · rw [up_n _ _ e, up_n _ _ e]; exact h4 k (by omega)
  · by_cases e : k = m
    · subst e
      rw [up_s, up_s, up_n _ _ (by omega), up_n _ _ (by omega)]
      exact fun z => hj ⟨j, hjk, z.1, z.2⟩
    · rw [up_n _ _ e, up_n _ _ e, up_n _ _ (by omega), up_n _ _ (by omega)]
      exact h5 j k hjk (by omega)
section RX
variable {bt : Nat → Nat} {ln p n m t : Nat} {ru la lb : Nat → Nat}
theorem stp_x (h1 : ¬ tK bt ln p = 1) (h2 : ¬ tK bt ln p = 2) : stp bt ln (p, n, m, t, ru, la, lb) = .inl (sk bt ln p) := by
  simp only [stp, if_neg h1, if_neg h2]
theorem stp_l9 (h1 : tK bt ln p = 1) (hn : n = 9) : stp bt ln (p, n, m, t, ru, la, lb) = .inl (sk bt ln p) := by
  simp only [stp, if_pos h1, if_pos hn]
theorem stp_lf (h1 : tK bt ln p = 1) (hn : ¬ n = 9) {q : Nat} (h : lmpF bt ln (tE bt ln p) = .inl q) : stp bt ln (p, n, m, t, ru, la, lb) = .inl q := by
  simp only [stp, if_pos h1, if_neg hn, h]
theorem stp_lk (h1 : tK bt ln p = 1) (hn : ¬ n = 9) {a b e : Nat} (h : lmpF bt ln (tE bt ln p) = .inr (a, b, e)) : stp bt ln (p, n, m, t, ru, la, lb) = .inr (e, n + 1, m, t ||| b * 2 ^ n, va_up ru n a, la, lb) := by
  simp only [stp, if_pos h1, if_neg hn, h]
theorem stp_s15 (h1 : tK bt ln p = 2) (hn : m = 15) : stp bt ln (p, n, m, t, ru, la, lb) = .inl (sk bt ln p) := by
  simp only [stp, if_neg (show ¬ tK bt ln p = 1 by omega), if_pos h1, if_pos hn]
theorem stp_sf (h1 : tK bt ln p = 2) (hn : ¬ m = 15) {q : Nat} (h : strF bt ln n m la lb (tE bt ln p) = .inl q) : stp bt ln (p, n, m, t, ru, la, lb) = .inl q := by
  simp only [stp, if_neg (show ¬ tK bt ln p = 1 by omega), if_pos h1, if_neg hn, h]
theorem stp_sk (h1 : tK bt ln p = 2) (hn : ¬ m = 15) {a b e : Nat} (h : strF bt ln n m la lb (tE bt ln p) = .inr (a, b, e)) : stp bt ln (p, n, m, t, ru, la, lb) = .inr (e, n, m + 1, t, ru, va_up la m (min a b), va_up lb m (max a b)) := by
  simp only [stp, if_neg (show ¬ tK bt ln p = 1 by omega), if_pos h1, if_neg hn, h]
theorem prs_e {u : Nat} (h : tK bt ln p = 0) : prs bt ln (u + 1) (p, n, m, t, ru, la, lb) = .inr (p, n, m, t, ru, la, lb) := by
  rw [prs, if_pos h]
theorem prs_f {u : Nat} (h : ¬ tK bt ln p = 0) {q : Nat} (h2 : stp bt ln (p, n, m, t, ru, la, lb) = .inl q) : prs bt ln (u + 1) (p, n, m, t, ru, la, lb) = .inl q := by
  rw [prs, if_neg h, h2]
theorem prs_s {u : Nat} (h : ¬ tK bt ln p = 0) {S2 : PSt} (h2 : stp bt ln (p, n, m, t, ru, la, lb) = .inr S2) : prs bt ln (u + 1) (p, n, m, t, ru, la, lb) = prs bt ln u S2 := by
  rw [prs, if_neg h, h2]
end RX
/-- two readings that hold the same lamps and streets -/
def PEq (S S2 : PSt) : Prop := S.1 = S2.1 ∧ S.2.1 = S2.2.1 ∧ S.2.2.1 = S2.2.2.1 ∧ S.2.2.2.1 = S2.2.2.2.1 ∧ (∀ l, l < S.2.1 → S.2.2.2.2.1 l = S2.2.2.2.2.1 l) ∧ (∀ k, k < S.2.2.1 → S.2.2.2.2.2.1 k = S2.2.2.2.2.2.1 k) ∧ ∀ k, k < S.2.2.1 → S.2.2.2.2.2.2 k = S2.2.2.2.2.2.2 k
def PRel : Nat ⊕ PSt → Nat ⊕ PSt → Prop
  | .inl a, .inl b => a = b
  | .inr S, .inr S2 => PEq S S2
  | _, _ => False
theorem up_agr {f g : Nat → Nat} {n v : Nat} (h : ∀ l, l < n → f l = g l) : ∀ l, l < n + 1 → va_up f n v l = va_up g n v l := by
  intro l hl
  by_cases e : l = n
  · subst e; rw [up_s, up_s]
  · rw [up_n _ _ e, up_n _ _ e]; exact h l (by omega)
theorem stp_rel {bt : Nat → Nat} {ln : Nat} {S S2 : PSt} (h : PEq S S2) : PRel (stp bt ln S) (stp bt ln S2) := by
  obtain ⟨p, n, m, t, ru, la, lb⟩ := S
  obtain ⟨p2, n2, m2, t2, ru2, la2, lb2⟩ := S2
  obtain ⟨e1, e2, e3, e4, h5, h6, h7⟩ := h
  dsimp only at e1 e2 e3 e4 h5 h6 h7
  subst e1; subst e2; subst e3; subst e4
  by_cases k1 : tK bt ln p = 1
  · by_cases k9 : n = 9
    · rw [stp_l9 k1 k9, stp_l9 k1 k9]; exact rfl
    · cases hL : lmpF bt ln (tE bt ln p) with
      | inl q => rw [stp_lf k1 k9 hL, stp_lf k1 k9 hL]; exact rfl
      | inr x =>
        obtain ⟨a, b, e⟩ := x
        rw [stp_lk k1 k9 hL, stp_lk k1 k9 hL]
        exact ⟨rfl, rfl, rfl, rfl, up_agr h5, h6, h7⟩
  · by_cases k2 : tK bt ln p = 2
    · by_cases k9 : m = 15
      · rw [stp_s15 k2 k9, stp_s15 k2 k9]; exact rfl
      · have hc := strF_cong (bt := bt) (ln := ln) (n := n) (p := tE bt ln p) h6 h7
        cases hL : strF bt ln n m la lb (tE bt ln p) with
        | inl q => rw [stp_sf k2 k9 hL, stp_sf k2 k9 (hc.symm.trans hL)]; exact rfl
        | inr x =>
          obtain ⟨a, b, e⟩ := x
          rw [stp_sk k2 k9 hL, stp_sk k2 k9 (hc.symm.trans hL)]
          exact ⟨rfl, rfl, rfl, rfl, h5, up_agr h6, up_agr h7⟩
    · rw [stp_x k1 k2, stp_x k1 k2]; exact rfl
theorem prs_rel {bt : Nat → Nat} {ln : Nat} : ∀ (u : Nat) {S S2 : PSt}, PEq S S2 → PRel (prs bt ln u S) (prs bt ln u S2)
  | 0, _, _, _ => rfl
  | u + 1, S, S2, h => by
    have h1 := stp_rel (bt := bt) (ln := ln) h
    rw [prs, prs, ← h.1]
    by_cases k0 : tK bt ln S.1 = 0
    · rw [if_pos k0, if_pos k0]; exact h
    · rw [if_neg k0, if_neg k0]
      cases hs : stp bt ln S with
      | inl q =>
        cases hs2 : stp bt ln S2 with
        | inl q2 => rw [hs, hs2] at h1; exact h1
        | inr x => rw [hs, hs2] at h1; exact h1.elim
      | inr x =>
        cases hs2 : stp bt ln S2 with
        | inl q2 => rw [hs, hs2] at h1; exact h1.elim
        | inr y => rw [hs, hs2] at h1; exact prs_rel u h1
