/-! quarters one by one beside the trial's -/
def itx (S : cS) (q : Nat) : Nat → sf8
  | 0 => sSf S q
  | i + 1 => wqS S q (itx S q i)
def slx (S : cS) (q i : Nat) : Int32 := slipF (itx S q i).2.2.1 (itx S q i).2.2.2.1
def tmx (S : cS) (q : Nat) : Nat → Int32
  | 0 => (sRc S q).2.2.2.2.2.2.2.1
  | i + 1 => if slx S q (i + 1) = 0 then tmx S q i else tmx S q i + 1
def st4 (x : rc9) : Int32 × Int32 × Int32 × Int32 := (x.2.2.2.1, x.2.2.2.2.1, x.2.2.2.2.2.1, x.2.2.2.2.2.2.1)
theorem wq_st4 {S S' : cS} {q : Nat} {x : sf8} (hr : st4 (sRc S' q) = st4 (sRc S q)) (hw : sWe S' = sWe S) : wqS S' q x = wqS S q x := by
  have h1 : (sRc S' q).2.2.2.1 = (sRc S q).2.2.2.1 := congrArg (fun z => z.1) hr
  have h2 : (sRc S' q).2.2.2.2.1 = (sRc S q).2.2.2.2.1 := congrArg (fun z => z.2.1) hr
  have h3 : (sRc S' q).2.2.2.2.2.1 = (sRc S q).2.2.2.2.2.1 := congrArg (fun z => z.2.2.1) hr
  have h4 : (sRc S' q).2.2.2.2.2.2.1 = (sRc S q).2.2.2.2.2.2.1 := congrArg (fun z => z.2.2.2) hr
  unfold wqS
  rw [h1, h2, h3, h4, hw]
theorem rcQ_st4 {S : cS} {q : Nat} : st4 (rcQ S q) = st4 (sRc S q) := by
  unfold rcQ
  split <;> rfl
theorem ps_idle {S : cS} {t q : Nat} (h : idle S) (h8 : sNr S ≤ 8) (hq : q < sNr S) : ∀ i, idle (psF S t i) ∧ sNr (psF S t i) = sNr S ∧ sNl (psF S t i) = sNl S ∧ sWe (psF S t i) = sWe S ∧ sLo (psF S t i) = sLo S ∧ sOd (psF S t i) = sOd S ∧ sSf (psF S t i) q = itx S q i ∧ st4 (sRc (psF S t i) q) = st4 (sRc S q) ∧ (sRc (psF S t i) q).2.2.2.2.2.2.2.1 = tmx S q i
  | 0 => ⟨h, rfl, rfl, rfl, rfl, rfl, rfl, rfl, rfl⟩
  | i + 1 => by
    obtain ⟨a1, a2, a3, a4, a5, a6, a7, a8, a9⟩ := ps_idle (t := t) h h8 hq i
    obtain ⟨b1, b2, b3, b4, b5, b6, b7, b8⟩ := pq_idle (t := t + i + 1) a1 (by rw [a2]; exact h8) (show q < sNr (psF S t i) by rw [a2]; exact hq)
    have hw : ∀ x, wqS (psF S t i) q x = wqS S q x := fun x => wq_st4 a8 a4
    unfold psF
    refine ⟨b8, b3.trans a2, b4.trans a3, b5.trans a4, b6.trans a5, b7.trans a6, ?_, ?_, ?_⟩
    · rw [b1, hw, a7]
      rfl
    · rw [b2]
      exact rcQ_st4.trans a8
    · rw [b2]
      unfold rcQ
      rw [hw, a7]
      unfold tmx
      by_cases hs : slx S q (i + 1) = 0
      · rw [if_pos hs, if_pos (show slipF (wqS S q (itx S q i)).2.2.1 (wqS S q (itx S q i)).2.2.2.1 = 0 from hs)]
        exact a9
      · rw [if_neg hs, if_neg (show ¬ slipF (wqS S q (itx S q i)).2.2.1 (wqS S q (itx S q i)).2.2.2.1 = 0 from hs)]
        exact congrArg (fun z : Int32 => z + 1) a9
theorem fs_none {S : cS} {q : Nat} : ∀ (n i : Nat), i + n < 1000 → fsF S q n (i + 1) (itx S q i) = -1 → ∀ j, i < j → j ≤ i + n → slx S q j = 0
  | 0, _, _, _, _, h1, h2 => by omega
  | n + 1, i, hb, h, j, h1, h2 => by
    unfold fsF at h
    by_cases hs : slx S q (i + 1) = 0
    · rw [if_pos (show slipF (wqS S q (itx S q i)).2.2.1 (wqS S q (itx S q i)).2.2.2.1 = 0 from hs)] at h
      by_cases hj : j = i + 1
      · rw [hj]
        exact hs
      · exact fs_none n (i + 1) (by omega) h j (by omega) (by omega)
    · rw [if_neg (show ¬ slipF (wqS S q (itx S q i)).2.2.1 (wqS S q (itx S q i)).2.2.2.1 = 0 from hs)] at h
      exact absurd h (nI_m1 (by omega))
theorem fs_some {S : cS} {q f : Nat} (hf : f < 1000) : ∀ (n i : Nat), i + n < 1000 → fsF S q n (i + 1) (itx S q i) = nI f → i < f ∧ f ≤ i + n ∧ slx S q f ≠ 0 ∧ ∀ j, i < j → j < f → slx S q j = 0
  | 0, _, _, h => absurd h.symm (nI_m1 (by omega))
  | n + 1, i, hb, h => by
    unfold fsF at h
    by_cases hs : slx S q (i + 1) = 0
    · rw [if_pos (show slipF (wqS S q (itx S q i)).2.2.1 (wqS S q (itx S q i)).2.2.2.1 = 0 from hs)] at h
      obtain ⟨b1, b2, b3, b4⟩ := fs_some hf n (i + 1) (by omega) h
      refine ⟨by omega, by omega, b3, fun j h1 h2 => ?_⟩
      by_cases hj : j = i + 1
      · rw [hj]
        exact hs
      · exact b4 j (by omega) h2
    · rw [if_neg (show ¬ slipF (wqS S q (itx S q i)).2.2.1 (wqS S q (itx S q i)).2.2.2.1 = 0 from hs)] at h
      have h3 : (nI (i + 1)).toNatClampNeg = (nI f).toNatClampNeg := congrArg Int32.toNatClampNeg h
      rw [nI_clamp (by omega), nI_clamp (by omega)] at h3
      subst h3
      exact ⟨by omega, by omega, hs, fun j h1 h2 => by omega⟩
theorem fsR_it {S : cS} {q k : Nat} : fsR S q 0 k = fsF S q k (0 + 1) (itx S q 0) := by
  unfold fsR
  refine fs_five k 1 ?_
  unfold five fsX itx
  rw [show (sSf S q).2.2.2.2.1 + 0 = (sSf S q).2.2.2.2.1 from Int32.add_zero _]
theorem tmx_same {S : cS} {q : Nat} : ∀ i, (∀ j, 0 < j → j ≤ i → slx S q j = 0) → tmx S q i = tmx S q 0
  | 0, _ => rfl
  | i + 1, h => (if_pos (h (i + 1) (by omega) (Nat.le_refl _))).trans (tmx_same i (fun j h1 h2 => h j h1 (by omega)))
theorem tmx_first {S : cS} {q f : Nat} (h0 : slx S q (f + 1) ≠ 0) (h : ∀ j, 0 < j → j < f + 1 → slx S q j = 0) : tmx S q (f + 1) = tmx S q 0 + 1 :=
  (if_neg h0).trans (congrArg (fun z : Int32 => z + 1) (tmx_same f (fun j h1 h2 => h j h1 (by omega))))
