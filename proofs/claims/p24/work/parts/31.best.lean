/-! best orders: a row of joined roads along all roads of the first class -/
theorem n_pos {S : cS} : 0 < 2 ^ ndF S 8 := Nat.two_pow_pos _
theorem n_le {S : cS} (h6 : ndF S 8 ≤ 6) : 2 ^ ndF S 8 ≤ 64 := Nat.le_trans (Nat.pow_le_pow_right (by decide) h6) (by decide)
theorem nk_0 {S : cS} {n : Nat} {K : Nat → Int32} : nkF S n K 0 = K := rfl
theorem bb_0 {S : cS} {n : Nat} {K : Nat → Int32} : bbF S n K 0 = bwF K (nI n) 7 := rfl
theorem bb_s {S : cS} {n k : Nat} {K : Nat → Int32} : bbF S n K (k + 1) = if bbF S n K k / 10000000 ≤ bwF (nkF S n K (k + 1)) (nI n) 7 / 10000000 then bbF S n K k else bwF (nkF S n K (k + 1)) (nI n) 7 := rfl
theorem bb_gen {S : cS} {n : Nat} {K : Nat → Int32} {P : Nat → Nat → Int32 → Prop} (hn : 0 < n) (hn2 : n < 1000) (hK : ∀ k, k ≤ 6 → ∀ x, x < 448 → nkF S n K k x = farK ∨ P k x (nkF S n K k x)) : ∀ k, k ≤ 6 → bbF S n K k = farK ∨ ∃ k' j, k' ≤ 6 ∧ j < 7 ∧ P k' ((n - 1) * 7 + j) (bbF S n K k)
  | 0, _ => by
    have hw := bw_inv (P := P 0) (hK 0 (by omega)) hn hn2 7 (Nat.le_refl 7)
    rw [nk_0] at hw
    rw [bb_0]
    rcases hw with h | ⟨j, h1, h2⟩
    · exact Or.inl h
    · exact Or.inr ⟨0, j, by omega, h1, h2⟩
  | k + 1, hk => by
    have hw := bw_inv (P := P (k + 1)) (hK (k + 1) hk) hn hn2 7 (Nat.le_refl 7)
    have ih := bb_gen hn hn2 hK k (by omega)
    rw [bb_s]
    by_cases hc : bbF S n K k / 10000000 ≤ bwF (nkF S n K (k + 1)) (nI n) 7 / 10000000
    · rw [if_pos hc]
      exact ih
    · rw [if_neg hc]
      rcases hw with h | ⟨j, h1, h2⟩
      · exact Or.inl h
      · exact Or.inr ⟨k + 1, j, hk, h1, h2⟩
theorem rb_sound {S : cS} {o z g : Nat → Nat} {a : Nat} (h8 : sNr S ≤ 8) (hg : lens S g) (he : ends S o z) (ha : a < 7) : rbF S (nI a) = 0 ∨ ∃ ds n len, ds.length ≤ 6 ∧ Pth S o z g a ds n len ∧ setR S ds = 2 ^ ndF S 8 - 1 ∧ n < 7 ∧ len ≤ 36 ∧ digR ds < 2000001 ∧ rbF S (nI a) = nI (digR ds) := by
  unfold rbF
  by_cases h6 : 6 < ndF S 8
  · rw [if_pos h6]
    exact Or.inl rfl
  · rw [if_neg h6]
    by_cases hf : bbF S (2 ^ ndF S 8) (lowA 448 (fun _ => farK) (nI a) 1) 6 = farK
    · rw [if_pos hf]
      exact Or.inl rfl
    · rw [if_neg hf]
      have hn := n_le (S := S) (by omega)
      rcases bb_gen (P := Row S o z g a) (n_pos (S := S)) (by omega) (nk_inv h8 hg he (by omega) ha) 6 (Nat.le_refl 6) with h | ⟨k', j, h1, h2, ds, n, len, h3, h4, h5, h7, h9⟩
      · exact absurd h hf
      · obtain ⟨b1, b2, -⟩ := row_dig h8 hg h4 (by omega)
        refine Or.inr ⟨ds, n, len, by omega, h4, by omega, h5, b2, b1, ?_⟩
        rw [h9, nI_bas, nI_r (by omega) (by decide), show (len * 10000000 + digR ds) % 10000000 = digR ds by omega]
theorem nd_ne {S : cS} {i j : Nat} (hi : i < sNr S) (hr : (sRc S i).2.2.2.1 = 0) (hij : i < j) : ndF S i < ndF S j := by
  have h1 : ndF S (i + 1) = ndF S i + 1 := (if_pos hi).trans (if_pos hr)
  have h2 := nd_mono (S := S) (i + 1) (j - (i + 1))
  rw [show i + 1 + (j - (i + 1)) = j by omega] at h2
  omega
theorem set_bit {S : cS} {o z g : Nat → Nat} {a r : Nat} (hr : r < sNr S) (hc : (sRc S r).2.2.2.1 = 0) : ∀ (ds : List Nat) (n len : Nat), Pth S o z g a ds n len → r ∉ ds → (setR S ds).testBit (ndF S r) = false
  | [], _, _, _, _ => Nat.zero_testBit _
  | d :: ds, n, len, h, hn => by
    obtain ⟨n', len', h1, h2, -, -⟩ := h
    have ih := set_bit hr hc ds n' len' h1 (fun hm => hn (List.Mem.tail _ hm))
    have hd : d ≠ r := fun hd => hn (by rw [hd]; exact List.Mem.head _)
    show (setR S ds ||| btF S d).testBit (ndF S r) = false
    rw [Nat.testBit_or, ih, Bool.false_or]
    unfold btF
    by_cases hz : (sRc S d).2.2.2.1 = 0
    · rw [if_pos hz]
      refine Nat.testBit_two_pow_of_ne (fun he => ?_)
      rcases Nat.lt_or_gt_of_ne hd with hl | hl
      · have := nd_ne h2 hz hl
        omega
      · have := nd_ne hr hc hl
        omega
    · rw [if_neg hz]
      exact Nat.zero_testBit _
/-- every road of the first class is on it -/
theorem cover {S : cS} {o z g : Nat → Nat} {a r : Nat} (h8 : sNr S ≤ 8) {ds : List Nat} {n len : Nat} (h : Pth S o z g a ds n len) (hs : setR S ds = 2 ^ ndF S 8 - 1) (hr : r < sNr S) (hc : (sRc S r).2.2.2.1 = 0) : r ∈ ds := by
  by_cases hm : r ∈ ds
  · exact hm
  · have h1 := set_bit hr hc ds n len h hm
    rw [hs, Nat.testBit_two_pow_sub_one] at h1
    have h2 := nd_lt hr hc (by omega)
    exact absurd h2 (of_decide_eq_false h1)
