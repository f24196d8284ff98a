/-! what p24 says of a road while no lorry works -/
theorem fs_vals {S : cS} {q : Nat} : ∀ (n i : Nat) (x : sf8), fsF S q n i x = -1 ∨ ∃ j, i ≤ j ∧ j < i + n ∧ fsF S q n i x = nI j
  | 0, _, _ => Or.inl rfl
  | n + 1, i, x => by
    unfold fsF
    split
    · rcases fs_vals n (i + 1) (wqS S q x) with h | ⟨j, h1, h2, h3⟩
      · exact Or.inl h
      · exact Or.inr ⟨j, by omega, by omega, h3⟩
    · exact Or.inr ⟨i, by omega, by omega, rfl⟩
theorem nI_m1 {j : Nat} (hj : j < 2 ^ 31) : nI j ≠ -1 := by
  intro h
  have h1 := nI_pos (n := j) hj
  rw [h] at h1
  exact absurd h1 (by decide)
theorem ls_vals {S : cS} {q k : Nat} : ∀ (n i : Nat), 1 ≤ i → i + n < 1000 → lsF S q k n i ≠ 0
  | 0, _, _, _ => by
    show (-1 : Int32) ≠ 0
    decide
  | n + 1, i, h1, h2 => by
    unfold lsF
    split
    · intro h
      have h3 : (nI i).toNatClampNeg = (nI 0).toNatClampNeg := congrArg Int32.toNatClampNeg (h.trans (by decide : (0 : Int32) = nI 0))
      rw [nI_clamp (by omega), nI_clamp (by decide)] at h3
      omega
    · exact ls_vals n (i + 1) (by omega) (by omega)
theorem ls_zero {S : cS} {q k : Nat} : lsF S q k 61 0 = 0 ↔ fsR S q 0 k = -1 := by
  unfold lsF
  rw [show nI 0 = 0 by decide]
  split
  · rename_i h
    exact ⟨fun _ => h, fun _ => rfl⟩
  · rename_i h
    exact ⟨fun h1 => absurd h1 (ls_vals 60 1 (by omega) (by omega)), fun h1 => absurd h1 h⟩
theorem wq_same {S S' : cS} {q : Nat} {x : sf8} (hr : sRc S' q = sRc S q) (hw : sWe S' = sWe S) : wqS S' q x = wqS S q x := by
  unfold wqS
  rw [hr, hw]
def rcQ (S : cS) (q : Nat) : rc9 := if slipF (wqS S q (sSf S q)).2.2.1 (wqS S q (sSf S q)).2.2.2.1 = 0 then sRc S q else rcS (sRc S q)
theorem qr_self {S : cS} {t q : Nat} : sSf (qrF S t q) q = wqS S q (sSf S q) ∧ sRc (qrF S t q) q = rcQ S q := by
  unfold qrF rcQ
  split
  · exact ⟨va_up_self _ _ _, rfl⟩
  · exact ⟨va_up_self _ _ _, va_up_self _ _ _⟩
theorem qr_ne {S : cS} {t q i : Nat} (h : q ≠ i) : sSf (qrF S t i) q = sSf S q ∧ sRc (qrF S t i) q = sRc S q := by
  unfold qrF
  split
  · exact ⟨va_up_ne _ _ h, rfl⟩
  · exact ⟨va_up_ne _ _ h, va_up_ne _ _ h⟩
theorem qr_rest {S : cS} {t i : Nat} : sNr (qrF S t i) = sNr S ∧ sNl (qrF S t i) = sNl S ∧ sWe (qrF S t i) = sWe S ∧ sLo (qrF S t i) = sLo S ∧ sOd (qrF S t i) = sOd S := by
  unfold qrF
  split <;> exact ⟨rfl, rfl, rfl, rfl, rfl⟩
theorem rq_rest {S : cS} {t : Nat} : ∀ i, sNr (rqF S t i) = sNr S ∧ sNl (rqF S t i) = sNl S ∧ sWe (rqF S t i) = sWe S ∧ sLo (rqF S t i) = sLo S ∧ sOd (rqF S t i) = sOd S
  | 0 => ⟨rfl, rfl, rfl, rfl, rfl⟩
  | i + 1 => by
    obtain ⟨a1, a2, a3, a4, a5⟩ := rq_rest (S := S) (t := t) i
    unfold rqF
    split
    · obtain ⟨b1, b2, b3, b4, b5⟩ := qr_rest (S := rqF S t i) (t := t) (i := i)
      exact ⟨b1.trans a1, b2.trans a2, b3.trans a3, b4.trans a4, b5.trans a5⟩
    · exact ⟨a1, a2, a3, a4, a5⟩
theorem rq_before {S : cS} {t q : Nat} : ∀ i, i ≤ q → sSf (rqF S t i) q = sSf S q ∧ sRc (rqF S t i) q = sRc S q
  | 0, _ => ⟨rfl, rfl⟩
  | i + 1, h => by
    obtain ⟨a1, a2⟩ := rq_before (S := S) (t := t) (q := q) i (by omega)
    unfold rqF
    split
    · obtain ⟨b1, b2⟩ := qr_ne (S := rqF S t i) (t := t) (q := q) (i := i) (by omega)
      exact ⟨b1.trans a1, b2.trans a2⟩
    · exact ⟨a1, a2⟩
theorem rq_after {S : cS} {t q : Nat} (hq : q < sNr S) : ∀ k, sSf (rqF S t (q + 1 + k)) q = wqS S q (sSf S q) ∧ sRc (rqF S t (q + 1 + k)) q = rcQ S q
  | 0 => by
    obtain ⟨a1, a2⟩ := rq_before (S := S) (t := t) (q := q) q (Nat.le_refl q)
    obtain ⟨r1, r2, r3, r4, r5⟩ := rq_rest (S := S) (t := t) q
    obtain ⟨b1, b2⟩ := qr_self (S := rqF S t q) (t := t) (q := q)
    have hw : ∀ x, wqS (rqF S t q) q x = wqS S q x := fun x => wq_same a2 r3
    have hc : rcQ (rqF S t q) q = rcQ S q := by
      unfold rcQ
      rw [hw, a1, a2]
    show sSf (rqF S t (q + 1)) q = _ ∧ sRc (rqF S t (q + 1)) q = _
    rw [← rq_y (show q < sNr (rqF S t q) by rw [r1]; exact hq)]
    exact ⟨by rw [b1, hw, a1], b2.trans hc⟩
  | k + 1 => by
    obtain ⟨a1, a2⟩ := rq_after (t := t) hq k
    show sSf (rqF S t (q + 1 + k + 1)) q = _ ∧ sRc (rqF S t (q + 1 + k + 1)) q = _
    by_cases h : q + 1 + k < sNr (rqF S t (q + 1 + k))
    · rw [← rq_y h]
      obtain ⟨b1, b2⟩ := qr_ne (S := rqF S t (q + 1 + k)) (t := t) (q := q) (i := q + 1 + k) (by omega)
      exact ⟨b1.trans a1, b2.trans a2⟩
    · rw [← rq_n h]
      exact ⟨a1, a2⟩
/-- no lorry has an order -/
def idle (S : cS) : Prop := ∀ j, j < sNl S → (sLo S j).2.1 = 0
theorem lj_idle {S : cS} {t : Nat} (h : idle S) : ∀ i, ljF S t i = S
  | 0 => rfl
  | i + 1 => by
    unfold ljF
    rw [lj_idle h i]
    split
    · rename_i hi
      exact if_pos (h i hi)
    · rfl
theorem idle_rq {S : cS} {t : Nat} (h : idle S) (i : Nat) : idle (rqF S t i) := by
  obtain ⟨r1, r2, r3, r4, r5⟩ := rq_rest (S := S) (t := t) i
  intro j hj
  rw [r4]
  rw [r2] at hj
  exact h j hj
/-- a quarter without work: road q goes over as its trial does -/
theorem pq_idle {S : cS} {t q : Nat} (h : idle S) (h8 : sNr S ≤ 8) (hq : q < sNr S) : sSf (pqF S t) q = wqS S q (sSf S q) ∧ sRc (pqF S t) q = rcQ S q ∧ sNr (pqF S t) = sNr S ∧ sNl (pqF S t) = sNl S ∧ sWe (pqF S t) = sWe S ∧ sLo (pqF S t) = sLo S ∧ sOd (pqF S t) = sOd S ∧ idle (pqF S t) := by
  have h0 : idle (nowS S (nI t)) := h
  have h1 : pqF S t = rqF (nowS S (nI t)) t 8 := by
    unfold pqF
    exact lj_idle (idle_rq h0 8) 3
  obtain ⟨a1, a2⟩ := rq_after (S := nowS S (nI t)) (t := t) (q := q) hq (7 - q)
  rw [show q + 1 + (7 - q) = 8 by omega] at a1 a2
  obtain ⟨r1, r2, r3, r4, r5⟩ := rq_rest (S := nowS S (nI t)) (t := t) 8
  rw [h1]
  exact ⟨a1, a2, r1, r2, r3, r4, r5, idle_rq h0 8⟩
