/-! the lorry's walk along its orders -/
def las (x : rc9) : Int32 := x.2.2.2.2.2.2.2.2
def rs7 (x : rc9) : Int32 × Int32 × Int32 × Int32 × Int32 × Int32 × Int32 := (x.1, x.2.1, x.2.2.1, x.2.2.2.1, x.2.2.2.2.1, x.2.2.2.2.2.1, x.2.2.2.2.2.2.1)
theorem rs7_p {x y : rc9} (h : rs7 x = rs7 y) : x.1 = y.1 ∧ x.2.1 = y.2.1 ∧ x.2.2.1 = y.2.2.1 ∧ x.2.2.2.1 = y.2.2.2.1 := ⟨congrArg (fun z => z.1) h, congrArg (fun z => z.2.1) h, congrArg (fun z => z.2.2.1) h, congrArg (fun z => z.2.2.2.1) h⟩
theorem lo_up (S : cS) (j : Nat) (x : lo9) : sLo (setLo S j x) j = x := va_up_self (sLo S) j x
theorem od_up (S : cS) (j : Nat) (x : Nat → Int32) : sOd (setOd S j x) j = x := va_up_self (sOd S) j x
theorem rcQ_7 {S : cS} {q : Nat} : rs7 (rcQ S q) = rs7 (sRc S q) ∧ las (rcQ S q) = las (sRc S q) := by
  unfold rcQ
  split <;> exact ⟨rfl, rfl⟩
theorem rq_7 {S : cS} {t r : Nat} : ∀ i, rs7 (sRc (rqF S t i) r) = rs7 (sRc S r) ∧ las (sRc (rqF S t i) r) = las (sRc S r)
  | 0 => ⟨rfl, rfl⟩
  | i + 1 => by
    obtain ⟨h1, h2⟩ := rq_7 (S := S) (t := t) (r := r) i
    unfold rqF
    split
    · by_cases hr : r = i
      · subst hr
        rw [qr_self.2]
        exact ⟨rcQ_7.1.trans h1, rcQ_7.2.trans h2⟩
      · rw [(qr_ne hr).2]
        exact ⟨h1, h2⟩
    · exact ⟨h1, h2⟩
/-- the one lorry: its orders, its node (-1 on a road, then the node ahead), what is done, its hours -/
def Lat (S : cS) (ds : List Nat) (nd ah : Int32) (k h : Nat) : Prop := sNl S = 1 ∧ (sLo S 0).1 ≠ 0 ∧ (sLo S 0).2.1 = nI ds.length ∧ (sLo S 0).2.2.1 = nd ∧ (nd = -1 → (sLo S 0).2.2.2.1 = ah) ∧ (sLo S 0).2.2.2.2.1 = nI k ∧ (sLo S 0).2.2.2.2.2.2.2.1 = nI h ∧ ∀ i, i < ds.length → sOd S 0 i = nI (ds.getD i 0)
theorem Lat.of {S S' : cS} {ds : List Nat} {nd ah : Int32} {k h : Nat} (hL : Lat S ds nd ah k h) (h1 : sNl S' = sNl S) (h2 : sLo S' = sLo S) (h3 : sOd S' = sOd S) : Lat S' ds nd ah k h := by
  unfold Lat at hL ⊢
  rw [h1, h2, h3]
  exact hL
theorem mx_0 {m : Nat} (hm : m < 2 ^ 31) : mx 0 (nI m) = nI m := by
  unfold mx
  cases m with
  | zero => decide +kernel
  | succ m => exact if_pos (nI_lt (a := 0) (by omega) hm)
/-- what no quarter changes of the roads, and what the treating does -/
def Kp (S T : cS) (t u : Nat) : Prop := sNr T = sNr S ∧ sWe T = sWe S ∧ ∀ r, rs7 (sRc T r) = rs7 (sRc S r) ∧ (las (sRc T r) = las (sRc S r) ∨ ∃ w, t < w ∧ w ≤ u ∧ las (sRc T r) = nI w)
theorem Kp.rf {S : cS} {t : Nat} : Kp S S t t := ⟨rfl, rfl, fun _ => ⟨rfl, Or.inl rfl⟩⟩
theorem Kp.tr {S T U : cS} {t u w : Nat} (h1 : Kp S T t u) (h2 : Kp T U u w) (htu : t ≤ u) (huw : u ≤ w) : Kp S U t w := by
  obtain ⟨a1, a2, a3⟩ := h1
  obtain ⟨b1, b2, b3⟩ := h2
  refine ⟨b1.trans a1, b2.trans a2, fun r => ⟨(b3 r).1.trans (a3 r).1, ?_⟩⟩
  rcases (b3 r).2 with h | ⟨x, x1, x2, x3⟩
  · rcases (a3 r).2 with g | ⟨y, y1, y2, y3⟩
    · exact Or.inl (h.trans g)
    · exact Or.inr ⟨y, y1, by omega, h.trans y3⟩
  · exact Or.inr ⟨x, by omega, x2, x3⟩
theorem fin_go {S : cS} {t d k h b len : Nat} {ds : List Nat} {nd ah : Int32} (hL : Lat S (d :: ds) nd ah k h) (hlen : (sRc S d).2.2.1 = nI len) (hl7 : len < 7) (hk : k + 1 < len) : Lat (finS S 0 t d (-1) (nI b)) (d :: ds) (-1) (nI b) (k + 1) (h + 1) ∧ sNr (finS S 0 t d (-1) (nI b)) = sNr S ∧ sWe (finS S 0 t d (-1) (nI b)) = sWe S ∧ sRc (finS S 0 t d (-1) (nI b)) = sRc S := by
  obtain ⟨h1, h2, h3, h4, h5, h6, h7, h8⟩ := hL
  have e : finS S 0 t d (-1) (nI b) = setLo S 0 (loP (sLo S 0) (-1) (nI b)) := if_pos (by rw [h6, hlen, nI_1]; exact nI_lt hk (by omega))
  rw [e]
  have e1 : sLo (setLo S 0 (loP (sLo S 0) (-1) (nI b))) 0 = loP (sLo S 0) (-1) (nI b) := lo_up _ _ _
  refine ⟨?_, rfl, rfl, rfl⟩
  unfold Lat
  rw [e1]
  exact ⟨h1, h2, h3, rfl, fun _ => rfl, (congrArg (fun z : Int32 => z + 1) h6).trans (nI_1 k), (congrArg (fun z : Int32 => z + 1) h7).trans (nI_1 h), h8⟩
theorem fin_end {S : cS} {t d k h b len : Nat} {ds : List Nat} {nd ah : Int32} (hL : Lat S (d :: ds) nd ah k h) (hlen : (sRc S d).2.2.1 = nI len) (hl7 : len < 7) (hk : k + 1 = len) (hb : b < 7) (hm : ds.length < 8) : Lat (finS S 0 t d (-1) (nI b)) ds (nI b) 0 0 (h + 1) ∧ sNr (finS S 0 t d (-1) (nI b)) = sNr S ∧ sWe (finS S 0 t d (-1) (nI b)) = sWe S ∧ (∀ r, r ≠ d → sRc (finS S 0 t d (-1) (nI b)) r = sRc S r) ∧ sRc (finS S 0 t d (-1) (nI b)) d = rcT (sRc S d) (nI t) := by
  obtain ⟨h1, h2, h3, h4, h5, h6, h7, h8⟩ := hL
  have e : finS S 0 t d (-1) (nI b) = treatF (setOd (setLo S 0 (loA (sLo S 0) (nI b))) 0 (shF (sOd S 0) 8)) d 0 t := if_neg (by rw [h6, hlen, nI_1, hk]; exact nI_nlt (Nat.le_refl _) (by omega))
  rw [e]
  generalize hS1 : setOd (setLo S 0 (loA (sLo S 0) (nI b))) 0 (shF (sOd S 0) 8) = S1
  have f1 : sLo S1 0 = loA (sLo S 0) (nI b) := by rw [← hS1]; show sLo (setLo S 0 (loA (sLo S 0) (nI b))) 0 = _; exact lo_up _ _ _
  have f2 : sOd S1 0 = shF (sOd S 0) 8 := by rw [← hS1]; exact od_up _ _ _
  have f3 : sRc S1 = sRc S ∧ sNr S1 = sNr S ∧ sNl S1 = sNl S ∧ sWe S1 = sWe S := by rw [← hS1]; exact ⟨rfl, rfl, rfl, rfl⟩
  have e2 : treatF S1 d 0 t = trT (trB S1 d 0) d t := if_neg (by rw [f1]; exact h2)
  rw [e2]
  have g1 : sLo (trT (trB S1 d 0) d t) 0 = loT (sLo S1 0) (amF S1 d 0) := lo_up S1 _ _
  refine ⟨?_, f3.2.1, f3.2.2.2, fun r hr => ?_, ?_⟩
  · unfold Lat
    rw [g1, f1]
    refine ⟨f3.2.2.1.trans h1, h2, ?_, rfl, fun z => absurd z (nI_m1 (by omega)), rfl, (congrArg (fun z : Int32 => z + 1) h7).trans (nI_1 h), fun i hi => ?_⟩
    · show mx 0 ((sLo S 0).2.1 - 1) = nI ds.length
      rw [h3, show (d :: ds).length = ds.length + 1 from rfl, nI_pred, mx_0 (by omega)]
    · show sOd S1 0 i = _
      rw [f2]
      unfold shF
      rw [if_pos (by omega), h8 (i + 1) (by simp only [List.length_cons]; omega)]
      rfl
  · show va_up (sRc S1) d _ r = _
    rw [va_up_ne _ _ hr, f3.1]
  · show va_up (sRc S1) d (rcT (sRc S1 d) (nI t)) d = _
    rw [va_up_self, f3.1]
/-- ready to go along d, to b: at its end, or on it -/
def Rdy (S : cS) (d b : Nat) (ds : List Nat) (k h : Nat) : Prop := Lat S (d :: ds) (-1) (nI b) k h ∨ (k = 0 ∧ ∃ (v o z : Nat) (ah : Int32), Lat S (d :: ds) (nI v) ah 0 h ∧ (sRc S d).1 = nI o ∧ (sRc S d).2.1 = nI z ∧ o < 7 ∧ z < 7 ∧ ((v = o ∧ b = z) ∨ (v = z ∧ b = o)))
theorem fo_first {S : cS} {d : Nat} {ds : List Nat} {nd ah : Int32} {k h : Nat} (hL : Lat S (d :: ds) nd ah k h) (hm : ds.length < 8) : foF (sLo S 0).2.1 (sOd S 0) = nI d ∧ (sLo S 0).2.1 ≠ 0 := by
  obtain ⟨h1, h2, h3, h4, h5, h6, h7, h8⟩ := hL
  have hp : ¬ (nI (d :: ds).length ≤ 0) := fun z => by
    have z9 := nI_lt (a := 0) (b := (d :: ds).length) (by simp) (by simp only [List.length_cons]; omega)
    exact absurd z (Int32.not_le.mpr z9)
  refine ⟨?_, fun z => hp (by rw [← h3, z]; exact Int32.le_refl _)⟩
  unfold foF
  rw [h3]
  have h9 := h8 0 (by simp)
  first | (rw [if_neg hp]; exact h9) | (rw [if_pos (Int32.not_le.mp hp)]; exact h9)
theorem work_rdy {S : cS} {t d b k h : Nat} {ds : List Nat} (hR : Rdy S d b ds k h) (hd : d < sNr S) (h8 : sNr S ≤ 8) (hm : ds.length < 8) (hh : h < 40) : workF S 0 t = finS S 0 t d (-1) (nI b) := by
  have key : ∀ {nd ah : Int32} {k : Nat}, Lat S (d :: ds) nd ah k h → workF S 0 t = workQ S 0 t d := fun hL => by
    obtain ⟨f1, f2⟩ := fo_first hL hm
    obtain ⟨h1, h2, h3, h4, h5, h6, h7, -⟩ := hL
    unfold workF
    rw [if_neg f2, if_pos (by rw [h7]; exact nI_lt (b := 40) hh (by omega)), f1, nI_clamp (by omega)]
  rcases hR with hL | ⟨rfl, v, o, z, ah, hL, r1, r2, ho, hz, hv⟩
  · obtain ⟨f1, -⟩ := fo_first hL hm
    rw [key hL]
    obtain ⟨h1, h2, h3, h4, h5, h6, h7, -⟩ := hL
    unfold workQ
    rw [if_pos ⟨f1, hd⟩, if_pos h4, h4, h5 rfl]
  · obtain ⟨f1, -⟩ := fo_first hL hm
    rw [key hL]
    obtain ⟨h1, h2, h3, h4, h5, h6, h7, -⟩ := hL
    unfold workQ
    have hv7 : v < 7 := by omega
    rw [if_pos ⟨f1, hd⟩, if_neg (by rw [h4]; exact nI_m1 (by omega))]
    have hj : ¬ jnF S 0 d = 0 := by
      unfold jnF
      rw [h4, r1, r2]
      by_cases e1 : nI v = nI o
      · rw [if_pos e1]; decide
      · rw [if_neg e1]
        have e2 : nI v = nI z := by
          rcases hv with ⟨g, -⟩ | ⟨g, -⟩
          · exact absurd (by rw [g]) e1
          · rw [g]
        rw [if_pos e2]; decide
    rw [if_neg hj]
    have ho9 : ohF S 0 d = nI b := by
      unfold ohF
      rw [h4, r1, r2]
      by_cases e1 : nI v = nI o
      · rw [if_pos e1]
        have e3 : v = o := (nI_eq (by omega) (by omega)).mp e1
        rcases hv with ⟨-, g⟩ | ⟨g1, g2⟩
        · rw [g]
        · rw [g2, ← g1, e3]
      · rw [if_neg e1]
        rcases hv with ⟨g, -⟩ | ⟨-, g⟩
        · exact absurd (by rw [g]) e1
        · rw [g]
    rw [ho9]
theorem pq_one {S : cS} {t : Nat} (h1 : sNl S = 1) (h2 : sNl (workF (rqF (nowS S (nI t)) t 8) 0 t) = 1) : pqF S t = workF (rqF (nowS S (nI t)) t 8) 0 t := by
  generalize hS1 : rqF (nowS S (nI t)) t 8 = S1 at h2 ⊢
  have hl : sNl S1 = 1 := by rw [← hS1]; exact (rq_rest 8).2.1.trans h1
  have e1 : ljF S1 t 1 = workF S1 0 t := by
    show (if 0 < sNl (ljF S1 t 0) then workF (ljF S1 t 0) 0 t else ljF S1 t 0) = _
    exact if_pos (show 0 < sNl S1 by rw [hl]; decide)
  have e2 : ljF S1 t 2 = workF S1 0 t := by
    show (if 1 < sNl (ljF S1 t 1) then workF (ljF S1 t 1) 1 t else ljF S1 t 1) = _
    rw [e1]
    exact if_neg (by rw [h2]; decide)
  unfold pqF
  rw [hS1]
  show (if 2 < sNl (ljF S1 t 2) then workF (ljF S1 t 2) 2 t else ljF S1 t 2) = _
  rw [e2]
  exact if_neg (by rw [h2]; decide)
theorem rdy_rq {S : cS} {d b t k h : Nat} {ds : List Nat} (hR : Rdy S d b ds k h) : Rdy (rqF (nowS S (nI t)) t 8) d b ds k h := by
  obtain ⟨a1, a2, a3, a4, a5⟩ := rq_rest (S := nowS S (nI t)) (t := t) 8
  have h7 := (rq_7 (S := nowS S (nI t)) (t := t) (r := d) 8).1
  rcases hR with hL | ⟨hk, v, o, z, ah, hL, r1, r2, r3⟩
  · exact Or.inl (hL.of a2 a4 a5)
  · refine Or.inr ⟨hk, v, o, z, ah, hL.of a2 a4 a5, ?_, ?_, r3⟩
    · exact (rs7_p h7).1.trans r1
    · exact (rs7_p h7).2.1.trans r2
theorem Rdy.lat {S : cS} {d b k h : Nat} {ds : List Nat} (hR : Rdy S d b ds k h) : ∃ nd ah, Lat S (d :: ds) nd ah k h := by
  rcases hR with hL | ⟨rfl, v, o, z, ah, hL, -⟩
  · exact ⟨_, _, hL⟩
  · exact ⟨_, _, hL⟩
/-- a quarter on the way -/
theorem quarter {S : cS} {t d b k h len : Nat} {ds : List Nat} (hR : Rdy S d b ds k h) (hd : d < sNr S) (h8 : sNr S ≤ 8) (hm : ds.length < 8) (hh : h < 40) (hlen : (sRc S d).2.2.1 = nI len) (hl7 : len < 7) (hk : k < len) (hb : b < 7) :
    (k + 1 < len → Lat (pqF S (t + 1)) (d :: ds) (-1) (nI b) (k + 1) (h + 1)) ∧ (k + 1 = len → Lat (pqF S (t + 1)) ds (nI b) 0 0 (h + 1) ∧ las (sRc (pqF S (t + 1)) d) = nI (t + 1)) ∧ Kp S (pqF S (t + 1)) t (t + 1) := by
  obtain ⟨a1, a2, a3, a4, a5⟩ := rq_rest (S := nowS S (nI (t + 1))) (t := t + 1) 8
  have hR1 := rdy_rq (t := t + 1) hR
  have r7 := fun r => rq_7 (S := nowS S (nI (t + 1))) (t := t + 1) (r := r) 8
  generalize hS1 : rqF (nowS S (nI (t + 1))) (t + 1) 8 = S1 at a1 a2 a3 a4 a5 hR1 r7
  have hd1 : d < sNr S1 := by rw [a1]; exact hd
  have h81 : sNr S1 ≤ 8 := by rw [a1]; exact h8
  have hl1 : (sRc S1 d).2.2.1 = nI len := (rs7_p (r7 d).1).2.2.1.trans hlen
  have hw := work_rdy (t := t + 1) hR1 hd1 h81 hm hh
  obtain ⟨nd, ah, hL⟩ := hR.lat
  obtain ⟨nd1, ah1, hL1⟩ := hR1.lat
  rcases Nat.lt_or_ge (k + 1) len with hlt | hge
  · obtain ⟨g1, g2, g3, g4⟩ := fin_go (t := t + 1) (b := b) hL1 hl1 hl7 hlt
    have hp : pqF S (t + 1) = finS S1 0 (t + 1) d (-1) (nI b) := by
      rw [pq_one (t := t + 1) hL.1 (by rw [hS1, hw]; exact g1.1), hS1, hw]
    rw [hp]
    refine ⟨fun _ => g1, fun z => by omega, g2.trans a1, g3.trans a3, fun r => ?_⟩
    rw [g4]
    exact ⟨(r7 r).1, Or.inl (r7 r).2⟩
  · have he : k + 1 = len := by omega
    obtain ⟨g1, g2, g3, g4, g5⟩ := fin_end (t := t + 1) (b := b) hL1 hl1 hl7 he hb hm
    have hp : pqF S (t + 1) = finS S1 0 (t + 1) d (-1) (nI b) := by
      rw [pq_one (t := t + 1) hL.1 (by rw [hS1, hw]; exact g1.1), hS1, hw]
    rw [hp]
    refine ⟨fun z => by omega, fun _ => ⟨g1, by rw [g5]; rfl⟩, g2.trans a1, g3.trans a3, fun r => ?_⟩
    by_cases hr : r = d
    · subst hr
      rw [g5]
      exact ⟨(r7 r).1, Or.inr ⟨t + 1, by omega, by omega, rfl⟩⟩
    · rw [g4 r hr]
      exact ⟨(r7 r).1, Or.inl (r7 r).2⟩
theorem ps_add {S : cS} {t i : Nat} : ∀ j, psF S t (i + j) = psF (psF S t i) (t + i) j
  | 0 => rfl
  | j + 1 => by
    show pqF (psF S t (i + j)) (t + (i + j) + 1) = pqF (psF (psF S t i) (t + i) j) (t + i + j + 1)
    rw [ps_add j, Nat.add_assoc t i j]
theorem ps_one {S : cS} {t : Nat} : psF S t 1 = pqF S (t + 1) := rfl
theorem ps_s1 {S : cS} {t : Nat} : psF S t (0 + 1) = pqF S (t + 1) := rfl
theorem ps_s2 {S : cS} {t n : Nat} : psF S t (n + 1 + 1) = psF (pqF S (t + 1)) (t + 1) (n + 1) := by
  rw [show n + 1 + 1 = 1 + (n + 1) by omega, ps_add]
  rfl
theorem road_go {d b len : Nat} {ds : List Nat} (hm : ds.length < 8) (hl7 : len < 7) (hb : b < 7) (n : Nat) : ∀ (k h t : Nat) (S : cS), Rdy S d b ds k h → d < sNr S → sNr S ≤ 8 → (sRc S d).2.2.1 = nI len → k + (n + 1) = len → h + (n + 1) ≤ 40 →
    Lat (psF S t (n + 1)) ds (nI b) 0 0 (h + (n + 1)) ∧ las (sRc (psF S t (n + 1)) d) = nI (t + (n + 1)) ∧ Kp S (psF S t (n + 1)) t (t + (n + 1)) := by
  induction n with
  | zero =>
    intro k h t S hR hd h8 hlen hk hh
    obtain ⟨-, q2, q3⟩ := quarter (t := t) hR hd h8 hm (by omega) hlen hl7 (by omega) hb
    rw [ps_s1]
    generalize pqF S (t + 1) = T at q2 q3 ⊢
    obtain ⟨q4, q5⟩ := q2 (by omega)
    exact ⟨q4, q5, q3⟩
  | succ n ih =>
    intro k h t S hR hd h8 hlen hk hh
    obtain ⟨q1, -, q3⟩ := quarter (t := t) hR hd h8 hm (by omega) hlen hl7 (by omega) hb
    rw [ps_s2]
    generalize pqF S (t + 1) = T at q1 q3 ⊢
    have hl := (q3.2.2 d).1
    obtain ⟨i1, i2, i3⟩ := ih (k + 1) (h + 1) (t + 1) T (Or.inl (q1 (by omega))) (by rw [q3.1]; exact hd) (by rw [q3.1]; exact h8) ((rs7_p hl).2.2.1.trans hlen) (by omega) (by omega)
    have e2 : t + 1 + (n + 1) = t + (n + 1 + 1) := by omega
    rw [e2] at i2 i3
    exact ⟨by rw [show h + (n + 1 + 1) = h + 1 + (n + 1) by omega]; exact i1, i2, q3.tr i3 (by omega) (by omega)⟩
/-- a row of roads in the order in which it's gone -/
def Fwd (nr : Nat) (o z g : Nat → Nat) : Nat → List Nat → Nat → Nat → Prop
  | a, [], n, len => n = a ∧ len = 0
  | a, d :: ds, n, len => ∃ b len', d < nr ∧ ((a = o d ∧ b = z d) ∨ (a = z d ∧ b = o d)) ∧ Fwd nr o z g b ds n len' ∧ len = g d + len'
theorem fwd_snoc {nr : Nat} {o z g : Nat → Nat} {d n' n : Nat} (hd : d < nr) (he : (n' = o d ∧ n = z d) ∨ (n' = z d ∧ n = o d)) : ∀ (ds : List Nat) (a len : Nat), Fwd nr o z g a ds n' len → Fwd nr o z g a (ds ++ [d]) n (len + g d)
  | [], a, len, h => by
    obtain ⟨rfl, rfl⟩ := h
    exact ⟨n, 0, hd, he, ⟨rfl, rfl⟩, by omega⟩
  | c :: ds, a, len, h => by
    obtain ⟨b, len', h1, h2, h3, h4⟩ := h
    exact ⟨b, len' + g d, h1, h2, fwd_snoc hd he ds b len' h3, by omega⟩
theorem pth_fwd {S : cS} {o z g : Nat → Nat} {a : Nat} : ∀ (ds : List Nat) (n len : Nat), Pth S o z g a ds n len → Fwd (sNr S) o z g a ds.reverse n len
  | [], n, len, h => h
  | d :: ds, n, len, h => by
    obtain ⟨n', len', h1, h2, h3, h4⟩ := h
    rw [List.reverse_cons, h3]
    exact fwd_snoc h2 h4 ds.reverse a len' (pth_fwd ds n' len' h1)
/-- the whole way -/
theorem walk_all {o z g : Nat → Nat} : ∀ (ds : List Nat) (S : cS) (t v h n len : Nat) (ah : Int32), Lat S ds (nI v) ah 0 h → Fwd (sNr S) o z g v ds n len → sNr S ≤ 8 → (∀ i, i < sNr S → (sRc S i).1 = nI (o i) ∧ (sRc S i).2.1 = nI (z i) ∧ o i < 7 ∧ z i < 7) → (∀ i, i < sNr S → (sRc S i).2.2.1 = nI (g i) ∧ 0 < g i ∧ g i < 7) → h + len ≤ 40 → ds.length ≤ 8 →
    (∃ ah', Lat (psF S t len) [] (nI n) ah' 0 (h + len)) ∧ Kp S (psF S t len) t (t + len) ∧ ∀ r ∈ ds, ∃ w, t < w ∧ w ≤ t + len ∧ las (sRc (psF S t len) r) = nI w
  | [], S, t, v, h, n, len, ah, hL, hF, h8, he, hg, hh, hm => by
    obtain ⟨rfl, rfl⟩ := hF
    exact ⟨⟨ah, hL⟩, Kp.rf, fun r hr => absurd hr List.not_mem_nil⟩
  | d :: ds, S, t, v, h, n, len, ah, hL, hF, h8, he, hg, hh, hm => by
    obtain ⟨b, len', f1, f2, f3, rfl⟩ := hF
    obtain ⟨e1, e2, e3, e4⟩ := he d f1
    obtain ⟨g1, g2, g3⟩ := hg d f1
    have hm1 : ds.length < 8 := by simp only [List.length_cons] at hm; omega
    obtain ⟨i1, i2, i3⟩ := road_go (d := d) (b := b) (len := g d) (ds := ds) hm1 g3 (by omega) (g d - 1) 0 h t S (Or.inr ⟨rfl, v, o d, z d, ah, hL, e1, e2, e3, e4, f2⟩) f1 h8 g1 (by omega) (by omega)
    rw [show g d - 1 + 1 = g d by omega] at i1 i2 i3
    have st : ∀ i, rs7 (sRc (psF S t (g d)) i) = rs7 (sRc S i) := fun i => (i3.2.2 i).1
    obtain ⟨⟨ah', j1⟩, j2, j3⟩ := walk_all ds (psF S t (g d)) (t + g d) b (h + g d) n len' 0 i1 (by rw [i3.1]; exact f3) (by rw [i3.1]; exact h8)
      (fun i hi => by
        rw [i3.1] at hi
        obtain ⟨x1, x2, x3⟩ := he i hi
        exact ⟨(rs7_p (st i)).1.trans x1, (rs7_p (st i)).2.1.trans x2, x3⟩)
      (fun i hi => by
        rw [i3.1] at hi
        obtain ⟨x1, x2⟩ := hg i hi
        exact ⟨(rs7_p (st i)).2.2.1.trans x1, x2⟩) (by omega) (by omega)
    rw [ps_add, show h + (g d + len') = h + g d + len' by omega]
    have k2 : Kp S (psF (psF S t (g d)) (t + g d) len') t (t + (g d + len')) := by
      rw [show t + (g d + len') = t + g d + len' by omega]
      exact i3.tr j2 (by omega) (by omega)
    refine ⟨⟨ah', j1⟩, k2, fun r hr => ?_⟩
    rcases List.mem_cons.mp hr with rfl | hr
    · rcases (j2.2.2 r).2 with q | ⟨w, w1, w2, w3⟩
      · exact ⟨t + g r, by omega, by omega, q.trans i2⟩
      · exact ⟨w, by omega, by omega, w3⟩
    · obtain ⟨w, w1, w2, w3⟩ := j3 r hr
      exact ⟨w, by omega, by omega, w3⟩
