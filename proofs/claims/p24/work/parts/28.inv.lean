/-! what the kept rows hold: a property of index and value, carried along -/
theorem lowA_inv {P : Nat → Int32 → Prop} {L : Nat → Int32} {z : Nat} {w : Int32} (hL : ∀ k, k < 448 → L k = farK ∨ P k (L k)) (hz : z < 2 ^ 31) (hw : z < 448 → P z w) (k : Nat) (hk : k < 448) : lowA 448 L (nI z) w k = farK ∨ P k (lowA 448 L (nI z) w k) := by
  unfold lowA
  by_cases h1 : nI z < 0
  · rw [if_pos h1]
    exact hL k hk
  · rw [if_neg h1]
    by_cases h2 : nI 448 ≤ nI z
    · rw [if_pos h2]
      exact hL k hk
    · rw [if_neg h2]
      by_cases h3 : L (nI z).toNatClampNeg ≤ w
      · rw [if_pos h3]
        exact hL k hk
      · rw [if_neg h3, nI_clamp hz]
        unfold upd
        by_cases h : k = z
        · subst h
          rw [if_pos rfl]
          exact Or.inr (hw hk)
        · rw [if_neg h]
          exact hL k hk
theorem numA_val {K : Nat → Int32} {x : Nat} (hx : x < 2 ^ 31) : numA 448 K (nI x) = if x < 448 then K x else farK := by
  unfold numA
  rw [if_neg (nI_pos hx)]
  by_cases h : x < 448
  · rw [if_pos h, if_neg (nI_ge h (by decide)), nI_clamp hx]
  · rw [if_neg h, if_pos (nI_le (by omega) hx)]
theorem gaF_inv {P P' : Nat → Int32 → Prop} {K L : Nat → Int32} {len num : Int32} {x z : Nat} (hK : ∀ k, k < 448 → K k = farK ∨ P k (K k)) (hL : ∀ k, k < 448 → L k = farK ∨ P' k (L k)) (hx : x < 2 ^ 31) (hz : z < 2 ^ 31) (hst : ∀ v, P x v → P' z ((v / 10000000 + len) * 10000000 + ((v - v / 10000000 * 10000000) * 10 + num))) (k : Nat) (hk : k < 448) : gaF K L len num (nI x) (nI z) k = farK ∨ P' k (gaF K L len num (nI x) (nI z) k) := by
  unfold gaF
  by_cases h : numA 448 K (nI x) = farK
  · rw [if_pos h]
    exact hL k hk
  · rw [if_neg h]
    have hv := numA_val (K := K) hx
    by_cases h4 : x < 448
    · rw [if_pos h4] at hv
      rcases hK x h4 with h5 | h5
      · exact absurd (hv.trans h5) h
      · refine lowA_inv hL hz (fun _ => ?_) k hk
        rw [hv]
        exact hst _ h5
    · rw [if_neg h4] at hv
      exact absurd hv h
theorem fillF_inv {P : Nat → Int32 → Prop} (k : Nat) (_ : k < 448) : (fun _ : Nat => farK) k = farK ∨ P k ((fun _ : Nat => farK) k) := Or.inl rfl
/-- the best of a set's nodes is FAR or one of them -/
theorem bw_inv {P : Nat → Int32 → Prop} {K : Nat → Int32} {n : Nat} (hK : ∀ k, k < 448 → K k = farK ∨ P k (K k)) (hn : 0 < n) (hn2 : n < 1000) : ∀ i, i ≤ 7 → bwF K (nI n) i = farK ∨ ∃ j, j < i ∧ P ((n - 1) * 7 + j) (bwF K (nI n) i)
  | 0, _ => Or.inl rfl
  | i + 1, h7 => by
    have hx : numA 448 K ((nI n - 1) * 7 + nI i) = numA 448 K (nI ((n - 1) * 7 + i)) := by
      obtain ⟨q, rfl⟩ : ∃ q, n = q + 1 := ⟨n - 1, by omega⟩
      rw [nI_pred, show (7 : Int32) = nI 7 by decide, nI_m, nI_add]
      rfl
    unfold bwF
    rw [hx]
    by_cases h : numA 448 K (nI ((n - 1) * 7 + i)) < bwF K (nI n) i
    · rw [if_pos h]
      by_cases hb : (n - 1) * 7 + i < 448
      · rw [numA_val (by omega), if_pos hb]
        rcases hK _ hb with h5 | h5
        · exact Or.inl h5
        · exact Or.inr ⟨i, Nat.lt_succ_self i, h5⟩
      · rw [numA_val (by omega), if_neg hb]
        exact Or.inl rfl
    · rw [if_neg h]
      rcases bw_inv hK hn hn2 i (by omega) with h5 | ⟨j, h6, h8⟩
      · exact Or.inl h5
      · exact Or.inr ⟨j, by omega, h8⟩
