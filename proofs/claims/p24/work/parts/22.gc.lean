/-! a road, a lorry more -/
theorem cont_ad {cy : Nat → ClassId} {ad ad' : Nat → Nat} {S : cS} {J : jS} (h : ∀ n, (n < 16 ∨ n < 16 + 4 * sNr S ∨ (48 ≤ n ∧ n < 48 + 2 * sNl S)) → ad' n = ad n) : cont cy ad' S J = cont cy ad S J := by
  have hR : rRf ad' (sNr S) = rRf ad (sNr S) := by
    funext i
    unfold rRf
    by_cases hi : i < sNr S
    · rw [if_pos hi, if_pos hi, h _ (Or.inr (Or.inl (by omega)))]
    · rw [if_neg hi, if_neg hi]
  have hL : lRf ad' (sNl S) = lRf ad (sNl S) := by
    funext i
    unfold lRf
    by_cases hi : i < sNl S
    · rw [if_pos hi, if_pos hi, h _ (Or.inr (Or.inr (by omega)))]
    · rw [if_neg hi, if_neg hi]
  have e : ∀ n, n < 16 → ad' n = ad n := fun n hn => h n (Or.inl hn)
  funext k
  unfold cont
  split
  · unfold cont0
    have hG : gE ad' (sNr S) (sNl S) (sG S) = gE ad (sNr S) (sNl S) (sG S) := by
      unfold gE
      rw [e 1 (by decide), e 2 (by decide), e 3 (by decide), e 4 (by decide), e 5 (by decide), e 6 (by decide), e 7 (by decide), e 8 (by decide)]
    rw [hR, hL, hG, e 9 (by decide), e 10 (by decide)]
  · split
    · unfold contR
      by_cases hi : (k - 16) / 4 < sNr S
      · rw [if_pos hi, if_pos hi]
        have hG : roadE ad' ((k - 16) / 4) (sRc S ((k - 16) / 4)) = roadE ad ((k - 16) / 4) (sRc S ((k - 16) / 4)) := by
          unfold roadE
          rw [h (17 + 4 * ((k - 16) / 4)) (Or.inr (Or.inl (by omega))), h (18 + 4 * ((k - 16) / 4)) (Or.inr (Or.inl (by omega))), h (19 + 4 * ((k - 16) / 4)) (Or.inr (Or.inl (by omega)))]
        rw [hG]
      · rw [if_neg hi, if_neg hi]
    · split
      · unfold contL
        by_cases hi : (k - 48) / 2 < sNl S
        · rw [if_pos hi, if_pos hi]
          have hG : lorE ad' ((k - 48) / 2) (sLo S ((k - 48) / 2)) = lorE ad ((k - 48) / 2) (sLo S ((k - 48) / 2)) := by
            unfold lorE
            rw [h (49 + 2 * ((k - 48) / 2)) (Or.inr (Or.inr (by omega)))]
          rw [hG]
        · rw [if_neg hi, if_neg hi]
      · rfl
theorem ct_eq {cy : Nat → ClassId} {ad : Nat → Nat} {S : cS} {J : jS} {c : rC} (h0 : ∀ k, k < 16 → c k = cont0 cy ad S J k) (hR : ∀ i k, i < 8 → k < 4 → c (16 + k + 4 * i) = contR cy ad S i k) (hL : ∀ i k, i < 3 → k < 2 → c (48 + k + 2 * i) = contL cy ad S i k) (hN : ∀ k, 54 ≤ k → c k = none) : c = cont cy ad S J := by
  funext k
  unfold cont
  split
  · rename_i h
    exact h0 k h
  · split
    · rename_i h1 h2
      have := hR ((k - 16) / 4) ((k - 16) % 4) (by omega) (by omega)
      rwa [show 16 + (k - 16) % 4 + 4 * ((k - 16) / 4) = k by omega] at this
    · split
      · rename_i h1 h2 h3
        have := hL ((k - 48) / 2) ((k - 48) % 2) (by omega) (by omega)
        rwa [show 48 + (k - 48) % 2 + 2 * ((k - 48) / 2) = k by omega] at this
      · rename_i h1 h2 h3
        exact hN k (by omega)
theorem ct_hi {cy : Nat → ClassId} {ad : Nat → Nat} {S : cS} {J : jS} {k : Nat} (h : 54 ≤ k) : cont cy ad S J k = none := by
  unfold cont
  rw [if_neg (by omega), if_neg (by omega), if_neg (by omega)]
theorem ct_nR {cy : Nat → ClassId} {ad : Nat → Nat} {S : cS} {J : jS} {k : Nat} (h8 : sNr S < 8) (hk : k < 4) : cont cy ad S J (16 + k + 4 * sNr S) = none := (ct_R h8 hk).trans (if_neg (Nat.lt_irrefl _))
theorem ct_nL {cy : Nat → ClassId} {ad : Nat → Nat} {S : cS} {J : jS} {k : Nat} (h3 : sNl S < 3) (hk : k < 2) : cont cy ad S J (48 + k + 2 * sNl S) = none := (ct_L h3 hk).trans (if_neg (Nat.lt_irrefl _))
def addL (S : cS) (x : lo9) (od : Nat → Int32) : cS := setNl (setOd (setLo S (sNl S) x) (sNl S) od) (sNl S + 1)
def addR (S : cS) (x : rc9) (f : sf8) (sl tr : Nat → Int32) : cS := setNr (setTr (setSl (setSf (setRc S (sNr S) x) (sNr S) f) (sNr S) sl) (sNr S) tr) (sNr S + 1)
theorem lRf_1 {ad : Nat → Nat} {n : Nat} (hn : n < 2 ^ 31) : va_up (lRf ad n) (nI n).toNatClampNeg (some (ad (48 + 2 * n))) = lRf ad (n + 1) := by
  rw [nI_clamp hn]
  funext i
  by_cases h : i = n
  · subst h
    rw [va_up_self]
    exact (if_pos (Nat.lt_succ_self i)).symm
  · rw [va_up_ne _ _ h]
    by_cases h1 : i < n
    · exact (if_pos h1).trans (if_pos (Nat.lt_succ_of_lt h1)).symm
    · exact (if_neg h1).trans (if_neg (by omega)).symm
theorem rRf_1 {ad : Nat → Nat} {n : Nat} (hn : n < 2 ^ 31) : va_up (rRf ad n) (nI n).toNatClampNeg (some (ad (16 + 4 * n))) = rRf ad (n + 1) := by
  rw [nI_clamp hn]
  funext i
  by_cases h : i = n
  · subst h
    rw [va_up_self]
    exact (if_pos (Nat.lt_succ_self i)).symm
  · rw [va_up_ne _ _ h]
    by_cases h1 : i < n
    · exact (if_pos h1).trans (if_pos (Nat.lt_succ_of_lt h1)).symm
    · exact (if_neg h1).trans (if_neg (by omega)).symm
theorem ct_addL {cy : Nat → ClassId} {ad : Nat → Nat} {S : cS} {J : jS} {x : lo9} {od : Nat → Int32} (h8 : sNr S ≤ 8) (h3 : sNl S < 3) : va_up (va_up (va_up (va_up (cont cy ad S J) (48 + 2 * sNl S) (some (lorE ad (sNl S) x))) (49 + 2 * sNl S) (some (iE (cy 0) 8 od))) 2 (some (qE (cy 3) 3 (lRf ad (sNl S + 1))))) 0 (some (gE ad (sNr S) (sNl S + 1) (sG S))) = cont cy ad (addL S x od) J := by
  refine ct_eq (fun k hk => ?_) (fun i k hi hk => ?_) (fun i k hi hk => ?_) (fun k hk => ?_)
  · by_cases k0 : k = 0
    · subst k0
      exact rup_self
    · by_cases k2 : k = 2
      · subst k2
        exact rup_ne (by omega) rup_self
      · refine rup_ne (by omega) (rup_ne (by omega) (rup_ne (by omega) (rup_ne (by omega) ((ct_lo hk).trans ?_))))
        unfold cont0
        split <;> first | rfl | exact absurd rfl k0 | exact absurd rfl k2
  · exact rup_ne (by omega) (rup_ne (by omega) (rup_ne (by omega) (rup_ne (by omega) (ct_R hi hk))))
  · by_cases hij : i = sNl S
    · subst hij
      refine Eq.trans ?_ (if_pos (Nat.lt_succ_self (sNl S))).symm
      match k, hk with
      | 0, _ => exact rup_ne (by omega) (rup_ne (by omega) (rup_ne (by omega) (rup_self.trans (congrArg (fun y => some (lorE ad (sNl S) y)) (va_up_self (sLo S) (sNl S) x).symm))))
      | 1, _ => exact rup_ne (by omega) (rup_ne (by omega) (rup_self.trans (congrArg (fun y => some (iE (cy 0) 8 y)) (va_up_self (sOd S) (sNl S) od).symm)))
      | k + 2, hk => omega
    · refine rup_ne (by omega) (rup_ne (by omega) (rup_ne (by omega) (rup_ne (by omega) ((ct_L hi hk).trans ?_))))
      by_cases hl : i < sNl S
      · refine (if_pos hl).trans (Eq.trans ?_ (if_pos (Nat.lt_succ_of_lt hl)).symm)
        match k, hk with
        | 0, _ => exact congrArg (fun y => some (lorE ad i y)) (va_up_ne (sLo S) x hij).symm
        | 1, _ => exact congrArg (fun y => some (iE (cy 0) 8 y)) (va_up_ne (sOd S) od hij).symm
        | k + 2, hk => omega
      · exact (if_neg hl).trans (if_neg (show ¬ i < sNl S + 1 by omega)).symm
  · exact rup_ne (by omega) (rup_ne (by omega) (rup_ne (by omega) (rup_ne (by omega) (ct_hi hk))))
theorem ct_addR {cy : Nat → ClassId} {ad : Nat → Nat} {S : cS} {J : jS} {x : rc9} {f : sf8} {sl tr : Nat → Int32} (h8 : sNr S < 8) (h3 : sNl S ≤ 3) : va_up (va_up (va_up (va_up (va_up (va_up (cont cy ad S J) (16 + 4 * sNr S) (some (roadE ad (sNr S) x))) (17 + 4 * sNr S) (some (surfE f))) (18 + 4 * sNr S) (some (iE (cy 1) 200 sl))) (19 + 4 * sNr S) (some (iE (cy 1) 200 tr))) 1 (some (qE (cy 2) 8 (rRf ad (sNr S + 1))))) 0 (some (gE ad (sNr S + 1) (sNl S) (sG S))) = cont cy ad (addR S x f sl tr) J := by
  refine ct_eq (fun k hk => ?_) (fun i k hi hk => ?_) (fun i k hi hk => ?_) (fun k hk => ?_)
  · by_cases k0 : k = 0
    · subst k0
      exact rup_self
    · by_cases k1 : k = 1
      · subst k1
        exact rup_ne (by omega) rup_self
      · refine rup_ne (by omega) (rup_ne (by omega) (rup_ne (by omega) (rup_ne (by omega) (rup_ne (by omega) (rup_ne (by omega) ((ct_lo hk).trans ?_))))))
        unfold cont0
        split <;> first | rfl | exact absurd rfl k0 | exact absurd rfl k1
  · by_cases hij : i = sNr S
    · subst hij
      refine Eq.trans ?_ (if_pos (Nat.lt_succ_self (sNr S))).symm
      match k, hk with
      | 0, _ => exact rup_ne (by omega) (rup_ne (by omega) (rup_ne (by omega) (rup_ne (by omega) (rup_ne (by omega) (rup_self.trans (congrArg (fun y => some (roadE ad (sNr S) y)) (va_up_self (sRc S) (sNr S) x).symm))))))
      | 1, _ => exact rup_ne (by omega) (rup_ne (by omega) (rup_ne (by omega) (rup_ne (by omega) (rup_self.trans (congrArg (fun y => some (surfE y)) (va_up_self (sSf S) (sNr S) f).symm)))))
      | 2, _ => exact rup_ne (by omega) (rup_ne (by omega) (rup_ne (by omega) (rup_self.trans (congrArg (fun y => some (iE (cy 1) 200 y)) (va_up_self (sSl S) (sNr S) sl).symm))))
      | 3, _ => exact rup_ne (by omega) (rup_ne (by omega) (rup_self.trans (congrArg (fun y => some (iE (cy 1) 200 y)) (va_up_self (sTr S) (sNr S) tr).symm)))
      | k + 4, hk => omega
    · refine rup_ne (by omega) (rup_ne (by omega) (rup_ne (by omega) (rup_ne (by omega) (rup_ne (by omega) (rup_ne (by omega) ((ct_R hi hk).trans ?_))))))
      by_cases hl : i < sNr S
      · refine (if_pos hl).trans (Eq.trans ?_ (if_pos (Nat.lt_succ_of_lt hl)).symm)
        match k, hk with
        | 0, _ => exact congrArg (fun y => some (roadE ad i y)) (va_up_ne (sRc S) x hij).symm
        | 1, _ => exact congrArg (fun y => some (surfE y)) (va_up_ne (sSf S) f hij).symm
        | 2, _ => exact congrArg (fun y => some (iE (cy 1) 200 y)) (va_up_ne (sSl S) sl hij).symm
        | 3, _ => exact congrArg (fun y => some (iE (cy 1) 200 y)) (va_up_ne (sTr S) tr hij).symm
        | k + 4, hk => omega
      · exact (if_neg hl).trans (if_neg (show ¬ i < sNr S + 1 by omega)).symm
  · exact rup_ne (by omega) (rup_ne (by omega) (rup_ne (by omega) (rup_ne (by omega) (rup_ne (by omega) (rup_ne (by omega) (ct_L hi hk))))))
  · exact rup_ne (by omega) (rup_ne (by omega) (rup_ne (by omega) (rup_ne (by omega) (rup_ne (by omega) (rup_ne (by omega) (ct_hi hk))))))
