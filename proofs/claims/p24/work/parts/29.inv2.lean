/-! a round of rows -/
theorem nI_or6 : ∀ j : Nat, j < 64 → ∀ b : Nat, b < 64 → nI j ||| nI b = nI (j ||| b) := by decide +kernel
def btF (S : cS) (i : Nat) : Nat := if (sRc S i).2.2.2.1 = 0 then 2 ^ ndF S i else 0
theorem nb_pow {S : cS} : ∀ i, nbF S i = nI (2 ^ ndF S i)
  | 0 => by
    show (1 : Int32) = nI (2 ^ 0)
    decide
  | i + 1 => by
    have h := nb_pow (S := S) i
    unfold nbF ndF
    by_cases hi : i < sNr S
    · rw [if_pos hi, if_pos hi]
      by_cases hr : (sRc S i).2.2.2.1 = 0
      · rw [if_pos hr, if_pos hr, h, nI_add, Nat.pow_succ, Nat.mul_two]
      · rw [if_neg hr, if_neg hr, h]
        exact Int32.add_zero _
    · rw [if_neg hi, if_neg hi, h]
theorem bit_bt {S : cS} {i : Nat} : bitF S i = nI (btF S i) := by
  unfold bitF btF
  by_cases hr : (sRc S i).2.2.2.1 = 0
  · rw [if_pos hr, if_pos hr, nb_pow]
  · rw [if_neg hr, if_neg hr]
    decide
/-- ends of the roads, as numbers below 7 -/
def ends (S : cS) (o z : Nat → Nat) : Prop := ∀ i, i < sNr S → (sRc S i).1 = nI (o i) ∧ (sRc S i).2.1 = nI (z i) ∧ o i < 7 ∧ z i < 7
def upV (S : cS) (i : Nat) (v : Int32) : Int32 := (v / 10000000 + (sRc S i).2.2.1) * 10000000 + ((v - v / 10000000 * 10000000) * 10 + nI i)
theorem lnJ_inv {P P' : Nat → Int32 → Prop} {S : cS} {o z : Nat → Nat} {K L : Nat → Int32} {i n : Nat} (he : ends S o z) (hi : i < sNr S) (hb : btF S i < 64) (hn : n ≤ 64) (hK : ∀ k, k < 448 → K k = farK ∨ P k (K k)) (hL : ∀ k, k < 448 → L k = farK ∨ P' k (L k)) (hst : ∀ j v, j < n → (P (j * 7 + o i) v → P' ((j ||| btF S i) * 7 + z i) (upV S i v)) ∧ (P (j * 7 + z i) v → P' ((j ||| btF S i) * 7 + o i) (upV S i v))) : ∀ j, j ≤ n → ∀ k, k < 448 → lnJ S K i L j k = farK ∨ P' k (lnJ S K i L j k)
  | 0, _ => hL
  | j + 1, hj => by
    have ih := lnJ_inv he hi hb hn hK hL hst j (by omega)
    obtain ⟨h1, h2, h3, h4⟩ := he i hi
    have hor : j ||| btF S i < 64 := Nat.or_lt_two_pow (n := 6) (by omega) hb
    have e7 : (7 : Int32) = nI 7 := by decide
    have e1 : nI j * 7 + (sRc S i).1 = nI (j * 7 + o i) := by rw [h1, e7, nI_m, nI_add]
    have e2 : nI j * 7 + (sRc S i).2.1 = nI (j * 7 + z i) := by rw [h2, e7, nI_m, nI_add]
    have e3 : (nI j ||| bitF S i) * 7 + (sRc S i).2.1 = nI ((j ||| btF S i) * 7 + z i) := by rw [bit_bt, nI_or6 j (by omega) _ hb, h2, e7, nI_m, nI_add]
    have e4 : (nI j ||| bitF S i) * 7 + (sRc S i).1 = nI ((j ||| btF S i) * 7 + o i) := by rw [bit_bt, nI_or6 j (by omega) _ hb, h1, e7, nI_m, nI_add]
    unfold lnJ
    rw [e1, e2, e3, e4]
    exact gaF_inv hK (gaF_inv hK ih (by omega) (by omega) (fun v => (hst j v (by omega)).1)) (by omega) (by omega) (fun v => (hst j v (by omega)).2)
theorem lnI_inv {P P' : Nat → Int32 → Prop} {S : cS} {o z : Nat → Nat} {K : Nat → Int32} {n : Nat} (he : ends S o z) (hb : ∀ i, i < sNr S → btF S i < 64) (hn : n ≤ 64) (hK : ∀ k, k < 448 → K k = farK ∨ P k (K k)) (hst : ∀ i, i < sNr S → ∀ j v, j < n → (P (j * 7 + o i) v → P' ((j ||| btF S i) * 7 + z i) (upV S i v)) ∧ (P (j * 7 + z i) v → P' ((j ||| btF S i) * 7 + o i) (upV S i v))) : ∀ i, ∀ k, k < 448 → lnI S n K i k = farK ∨ P' k (lnI S n K i k)
  | 0 => fun _ _ => Or.inl rfl
  | i + 1 => by
    have ih := lnI_inv he hb hn hK hst i
    unfold lnI
    by_cases hi : i < sNr S
    · rw [if_pos hi]
      exact lnJ_inv he hi (hb i hi) hn hK ih (hst i hi) n (Nat.le_refl n)
    · rw [if_neg hi]
      exact ih
