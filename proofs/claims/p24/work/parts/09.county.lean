/-! what a county is: its numbers (S), its scratch rows (J), and what the names hold -/
abbrev rc9 : Type := Int32 × Int32 × Int32 × Int32 × Int32 × Int32 × Int32 × Int32 × Int32
abbrev lo9 : Type := Int32 × Int32 × Int32 × Int32 × Int32 × Int32 × Int32 × Int32 × Int32
abbrev we5 : Type := Int32 × Int32 × Int32 × Int32 × Int32
abbrev g5 : Type := Int32 × Int32 × Int32 × Int32 × Int32
/-- roads, lorries: how many; now, barn, delivered, returned, ploughed; the weather; roads, surfaces, slippery, treated; lorries, orders -/
abbrev cS : Type := Nat × Nat × g5 × we5 × (Nat → rc9) × (Nat → sf8) × (Nat → Nat → Int32) × (Nat → Nat → Int32) × (Nat → lo9) × (Nat → Nat → Int32)
abbrev jS : Type := sf8 × (Nat → Int32) × (Nat → Int32) × (Nat → Int32)
abbrev sNr (S : cS) : Nat := S.1
abbrev sNl (S : cS) : Nat := S.2.1
abbrev sG (S : cS) : g5 := S.2.2.1
abbrev sNow (S : cS) : Int32 := (sG S).1
abbrev sBarn (S : cS) : Int32 := (sG S).2.1
abbrev sDel (S : cS) : Int32 := (sG S).2.2.1
abbrev sRet (S : cS) : Int32 := (sG S).2.2.2.1
abbrev sPlo (S : cS) : Int32 := (sG S).2.2.2.2
abbrev sWe (S : cS) : we5 := S.2.2.2.1
abbrev sRc (S : cS) : Nat → rc9 := S.2.2.2.2.1
abbrev sSf (S : cS) : Nat → sf8 := S.2.2.2.2.2.1
abbrev sSl (S : cS) : Nat → Nat → Int32 := S.2.2.2.2.2.2.1
abbrev sTr (S : cS) : Nat → Nat → Int32 := S.2.2.2.2.2.2.2.1
abbrev sLo (S : cS) : Nat → lo9 := S.2.2.2.2.2.2.2.2.1
abbrev sOd (S : cS) : Nat → Nat → Int32 := S.2.2.2.2.2.2.2.2.2
def setG (S : cS) (g : g5) : cS := (sNr S, sNl S, g, sWe S, sRc S, sSf S, sSl S, sTr S, sLo S, sOd S)
def setWe (S : cS) (w : we5) : cS := (sNr S, sNl S, sG S, w, sRc S, sSf S, sSl S, sTr S, sLo S, sOd S)
def setRc (S : cS) (i : Nat) (x : rc9) : cS := (sNr S, sNl S, sG S, sWe S, va_up (sRc S) i x, sSf S, sSl S, sTr S, sLo S, sOd S)
def setSf (S : cS) (i : Nat) (x : sf8) : cS := (sNr S, sNl S, sG S, sWe S, sRc S, va_up (sSf S) i x, sSl S, sTr S, sLo S, sOd S)
def setSl (S : cS) (i : Nat) (x : Nat → Int32) : cS := (sNr S, sNl S, sG S, sWe S, sRc S, sSf S, va_up (sSl S) i x, sTr S, sLo S, sOd S)
def setTr (S : cS) (i : Nat) (x : Nat → Int32) : cS := (sNr S, sNl S, sG S, sWe S, sRc S, sSf S, sSl S, va_up (sTr S) i x, sLo S, sOd S)
def setLo (S : cS) (i : Nat) (x : lo9) : cS := (sNr S, sNl S, sG S, sWe S, sRc S, sSf S, sSl S, sTr S, va_up (sLo S) i x, sOd S)
def setOd (S : cS) (i : Nat) (x : Nat → Int32) : cS := (sNr S, sNl S, sG S, sWe S, sRc S, sSf S, sSl S, sTr S, sLo S, va_up (sOd S) i x)
def setNr (S : cS) (n : Nat) : cS := (n, sNl S, sG S, sWe S, sRc S, sSf S, sSl S, sTr S, sLo S, sOd S)
def setNl (S : cS) (n : Nat) : cS := (sNr S, n, sG S, sWe S, sRc S, sSf S, sSl S, sTr S, sLo S, sOd S)
abbrev gE (ad : Nat → Nat) (nr nl : Nat) (g : g5) : va_E := .inr (5, [.ref (ad 1), .ref (ad 2), .ref (ad 3), .ref (ad 4), .ref (ad 5), .ref (ad 6), .ref (ad 7), .ref (ad 8), .int (nI nr), .int (nI nl), .int 0, .int g.1, .int g.2.1, .int g.2.2.1, .int g.2.2.2.1, .int g.2.2.2.2])
abbrev weaE (x : we5) : va_E := .inr (1, [.int x.1, .int x.2.1, .int x.2.2.1, .int x.2.2.2.1, .int x.2.2.2.2])
abbrev roadE (ad : Nat → Nat) (i : Nat) (x : rc9) : va_E := .inr (2, [.int x.1, .int x.2.1, .int x.2.2.1, .int x.2.2.2.1, .int x.2.2.2.2.1, .int x.2.2.2.2.2.1, .int x.2.2.2.2.2.2.1, .ref (ad (17 + 4 * i)), .ref (ad (18 + 4 * i)), .ref (ad (19 + 4 * i)), .int x.2.2.2.2.2.2.2.1, .int x.2.2.2.2.2.2.2.2])
abbrev lorE (ad : Nat → Nat) (i : Nat) (x : lo9) : va_E := .inr (3, [.int x.1, .ref (ad (49 + 2 * i)), .int x.2.1, .int x.2.2.1, .int x.2.2.2.1, .int x.2.2.2.2.1, .int x.2.2.2.2.2.1, .int x.2.2.2.2.2.2.1, .int x.2.2.2.2.2.2.2.1, .int x.2.2.2.2.2.2.2.2])
abbrev iE (cA : ClassId) (n : Nat) (f : Nat → Int32) : va_E := .inl (cA, n, .inl f)
abbrev qE (cA : ClassId) (n : Nat) (f : Nat → Option Nat) : va_E := .inl (cA, n, .inr (.inr (.inr (.inr f))))
abbrev rRf (ad : Nat → Nat) (nr : Nat) : Nat → Option Nat := fun i => if i < nr then some (ad (16 + 4 * i)) else none
abbrev lRf (ad : Nat → Nat) (nl : Nat) : Nat → Option Nat := fun i => if i < nl then some (ad (48 + 2 * i)) else none
def cont0 (cy : Nat → ClassId) (ad : Nat → Nat) (S : cS) (J : jS) : rC := fun n => match n with
  | 0 => some (gE ad (sNr S) (sNl S) (sG S))
  | 1 => some (qE (cy 2) 8 (rRf ad (sNr S)))
  | 2 => some (qE (cy 3) 3 (lRf ad (sNl S)))
  | 3 => some (qE (cy 4) 20 (fun _ => none))
  | 4 => some (qE (cy 5) 5 (fun _ => none))
  | 5 => some (weaE (sWe S))
  | 6 => some (surfE J.1)
  | 7 => some (iE (cy 0) 7 J.2.1)
  | 8 => some (.inr (4, [.ref (ad 9), .ref (ad 10)]))
  | 9 => some (iE (cy 0) 448 J.2.2.1)
  | 10 => some (iE (cy 0) 448 J.2.2.2)
  | _ => none
def contR (cy : Nat → ClassId) (ad : Nat → Nat) (S : cS) (i k : Nat) : Option va_E := if i < sNr S then (match k with
  | 0 => some (roadE ad i (sRc S i))
  | 1 => some (surfE (sSf S i))
  | 2 => some (iE (cy 1) 200 (sSl S i))
  | _ => some (iE (cy 1) 200 (sTr S i))) else none
def contL (cy : Nat → ClassId) (ad : Nat → Nat) (S : cS) (i k : Nat) : Option va_E := if i < sNl S then (match k with
  | 0 => some (lorE ad i (sLo S i))
  | _ => some (iE (cy 0) 8 (sOd S i))) else none
def cont (cy : Nat → ClassId) (ad : Nat → Nat) (S : cS) (J : jS) : rC := fun n =>
  if n < 16 then cont0 cy ad S J n else if n < 48 then contR cy ad S ((n - 16) / 4) ((n - 16) % 4) else if n < 54 then contL cy ad S ((n - 48) / 2) ((n - 48) % 2) else none
section CONT
variable {cy : Nat → ClassId} {ad : Nat → Nat} {S : cS} {J : jS} {i : Nat}
theorem ct_lo {n : Nat} (h : n < 16) : cont cy ad S J n = cont0 cy ad S J n := if_pos h
theorem ct_R {k : Nat} (hi : i < 8) (hk : k < 4) : cont cy ad S J (16 + k + 4 * i) = contR cy ad S i k := by
  unfold cont
  rw [if_neg (by omega), if_pos (by omega), show (16 + k + 4 * i - 16) / 4 = i by omega, show (16 + k + 4 * i - 16) % 4 = k by omega]
theorem ct_L {k : Nat} (hi : i < 3) (hk : k < 2) : cont cy ad S J (48 + k + 2 * i) = contL cy ad S i k := by
  unfold cont
  rw [if_neg (by omega), if_neg (by omega), if_pos (by omega), show (48 + k + 2 * i - 48) / 2 = i by omega, show (48 + k + 2 * i - 48) % 2 = k by omega]
theorem ct_road (h8 : sNr S ≤ 8) (hi : i < sNr S) : cont cy ad S J (16 + 4 * i) = some (roadE ad i (sRc S i)) := (ct_R (k := 0) (by omega) (by omega)).trans (if_pos hi)
theorem ct_surf (h8 : sNr S ≤ 8) (hi : i < sNr S) : cont cy ad S J (17 + 4 * i) = some (surfE (sSf S i)) := (ct_R (k := 1) (by omega) (by omega)).trans (if_pos hi)
theorem ct_sl (h8 : sNr S ≤ 8) (hi : i < sNr S) : cont cy ad S J (18 + 4 * i) = some (iE (cy 1) 200 (sSl S i)) := (ct_R (k := 2) (by omega) (by omega)).trans (if_pos hi)
theorem ct_tr (h8 : sNr S ≤ 8) (hi : i < sNr S) : cont cy ad S J (19 + 4 * i) = some (iE (cy 1) 200 (sTr S i)) := (ct_R (k := 3) (by omega) (by omega)).trans (if_pos hi)
theorem ct_lor (h3 : sNl S ≤ 3) (hi : i < sNl S) : cont cy ad S J (48 + 2 * i) = some (lorE ad i (sLo S i)) := (ct_L (k := 0) (by omega) (by omega)).trans (if_pos hi)
theorem ct_od (h3 : sNl S ≤ 3) (hi : i < sNl S) : cont cy ad S J (49 + 2 * i) = some (iE (cy 0) 8 (sOd S i)) := (ct_L (k := 1) (by omega) (by omega)).trans (if_pos hi)
-- a change of one name
theorem cu_gen {S' : cS} {J' : jS} {n : Nat} {e : va_E} (h : cont cy ad S' J' n = some e) (h0 : ∀ k, k < 16 → k ≠ n → cont0 cy ad S J k = cont0 cy ad S' J' k) (hR : ∀ i k, i < 8 → k < 4 → 16 + k + 4 * i ≠ n → contR cy ad S i k = contR cy ad S' i k) (hL : ∀ i k, i < 3 → k < 2 → 48 + k + 2 * i ≠ n → contL cy ad S i k = contL cy ad S' i k) : va_up (cont cy ad S J) n (some e) = cont cy ad S' J' := by
  funext k
  by_cases hk : k = n
  · subst hk
    rw [va_up_self, h]
  · rw [va_up_ne _ _ hk]
    unfold cont
    by_cases h1 : k < 16
    · rw [if_pos h1, if_pos h1, h0 k h1 hk]
    · rw [if_neg h1, if_neg h1]
      by_cases h2 : k < 48
      · rw [if_pos h2, if_pos h2]
        exact hR _ _ (by omega) (by omega) (by omega)
      · rw [if_neg h2, if_neg h2]
        by_cases h3 : k < 54
        · rw [if_pos h3, if_pos h3]
          exact hL _ _ (by omega) (by omega) (by omega)
        · rw [if_neg h3, if_neg h3]
theorem cu_g {g : g5} : va_up (cont cy ad S J) 0 (some (gE ad (sNr S) (sNl S) g)) = cont cy ad (setG S g) J :=
  cu_gen rfl (fun k hk hn => by
    unfold cont0
    split <;> first | rfl | exact absurd rfl hn) (fun _ _ _ _ _ => rfl) (fun _ _ _ _ _ => rfl)
theorem cu_we {w : we5} : va_up (cont cy ad S J) 5 (some (weaE w)) = cont cy ad (setWe S w) J :=
  cu_gen rfl (fun k hk hn => by
    unfold cont0
    split <;> first | rfl | exact absurd rfl hn) (fun _ _ _ _ _ => rfl) (fun _ _ _ _ _ => rfl)
theorem cu_tri {x : sf8} : va_up (cont cy ad S J) 6 (some (surfE x)) = cont cy ad S (x, J.2) :=
  cu_gen rfl (fun k hk hn => by
    unfold cont0
    split <;> first | rfl | exact absurd rfl hn) (fun _ _ _ _ _ => rfl) (fun _ _ _ _ _ => rfl)
theorem cu_wy {f : Nat → Int32} : va_up (cont cy ad S J) 7 (some (iE (cy 0) 7 f)) = cont cy ad S (J.1, f, J.2.2) :=
  cu_gen rfl (fun k hk hn => by
    unfold cont0
    split <;> first | rfl | exact absurd rfl hn) (fun _ _ _ _ _ => rfl) (fun _ _ _ _ _ => rfl)
theorem cu_kp {f : Nat → Int32} : va_up (cont cy ad S J) 9 (some (iE (cy 0) 448 f)) = cont cy ad S (J.1, J.2.1, f, J.2.2.2) :=
  cu_gen rfl (fun k hk hn => by
    unfold cont0
    split <;> first | rfl | exact absurd rfl hn) (fun _ _ _ _ _ => rfl) (fun _ _ _ _ _ => rfl)
theorem cu_lg {f : Nat → Int32} : va_up (cont cy ad S J) 10 (some (iE (cy 0) 448 f)) = cont cy ad S (J.1, J.2.1, J.2.2.1, f) :=
  cu_gen rfl (fun k hk hn => by
    unfold cont0
    split <;> first | rfl | exact absurd rfl hn) (fun _ _ _ _ _ => rfl) (fun _ _ _ _ _ => rfl)
theorem cu_rc {x : rc9} (h8 : sNr S ≤ 8) (hi : i < sNr S) : va_up (cont cy ad S J) (16 + 4 * i) (some (roadE ad i x)) = cont cy ad (setRc S i x) J :=
  cu_gen ((ct_road (S := setRc S i x) h8 hi).trans (by show some (roadE ad i (va_up (sRc S) i x i)) = _; rw [va_up_self])) (fun _ _ _ => rfl) (fun j k hj hk hn => by
    unfold contR
    by_cases hji : j = i
    · subst hji
      match k, hk, hn with
      | 0, _, hn => exact absurd rfl hn
      | 1, _, _ => rfl
      | 2, _, _ => rfl
      | 3, _, _ => rfl
      | k + 4, hk, _ => omega
    · show _ = if j < sNr S then (match k with
        | 0 => some (roadE ad j (va_up (sRc S) i x j))
        | 1 => _
        | 2 => _
        | _ => _) else none
      rw [va_up_ne _ _ hji]
      rfl) (fun _ _ _ _ _ => rfl)
theorem cu_sf {x : sf8} (h8 : sNr S ≤ 8) (hi : i < sNr S) : va_up (cont cy ad S J) (17 + 4 * i) (some (surfE x)) = cont cy ad (setSf S i x) J :=
  cu_gen ((ct_surf (S := setSf S i x) h8 hi).trans (by show some (surfE (va_up (sSf S) i x i)) = _; rw [va_up_self])) (fun _ _ _ => rfl) (fun j k hj hk hn => by
    unfold contR
    by_cases hji : j = i
    · subst hji
      match k, hk, hn with
      | 0, _, _ => rfl
      | 1, _, hn => exact absurd rfl hn
      | 2, _, _ => rfl
      | 3, _, _ => rfl
      | k + 4, hk, _ => omega
    · show _ = if j < sNr S then (match k with
        | 0 => _
        | 1 => some (surfE (va_up (sSf S) i x j))
        | 2 => _
        | _ => _) else none
      rw [va_up_ne _ _ hji]
      rfl) (fun _ _ _ _ _ => rfl)
theorem cu_sl {x : Nat → Int32} (h8 : sNr S ≤ 8) (hi : i < sNr S) : va_up (cont cy ad S J) (18 + 4 * i) (some (iE (cy 1) 200 x)) = cont cy ad (setSl S i x) J :=
  cu_gen ((ct_sl (S := setSl S i x) h8 hi).trans (by show some (iE (cy 1) 200 (va_up (sSl S) i x i)) = _; rw [va_up_self])) (fun _ _ _ => rfl) (fun j k hj hk hn => by
    unfold contR
    by_cases hji : j = i
    · subst hji
      match k, hk, hn with
      | 0, _, _ => rfl
      | 1, _, _ => rfl
      | 2, _, hn => exact absurd rfl hn
      | 3, _, _ => rfl
      | k + 4, hk, _ => omega
    · show _ = if j < sNr S then (match k with
        | 0 => _
        | 1 => _
        | 2 => some (iE (cy 1) 200 (va_up (sSl S) i x j))
        | _ => _) else none
      rw [va_up_ne _ _ hji]
      rfl) (fun _ _ _ _ _ => rfl)
theorem cu_tr {x : Nat → Int32} (h8 : sNr S ≤ 8) (hi : i < sNr S) : va_up (cont cy ad S J) (19 + 4 * i) (some (iE (cy 1) 200 x)) = cont cy ad (setTr S i x) J :=
  cu_gen ((ct_tr (S := setTr S i x) h8 hi).trans (by show some (iE (cy 1) 200 (va_up (sTr S) i x i)) = _; rw [va_up_self])) (fun _ _ _ => rfl) (fun j k hj hk hn => by
    unfold contR
    by_cases hji : j = i
    · subst hji
      match k, hk, hn with
      | 0, _, _ => rfl
      | 1, _, _ => rfl
      | 2, _, _ => rfl
      | 3, _, hn => exact absurd rfl hn
      | k + 4, hk, _ => omega
    · show _ = if j < sNr S then (match k with
        | 0 => _
        | 1 => _
        | 2 => _
        | _ => some (iE (cy 1) 200 (va_up (sTr S) i x j))) else none
      rw [va_up_ne _ _ hji]
      rfl) (fun _ _ _ _ _ => rfl)
theorem cu_lo {x : lo9} (h3 : sNl S ≤ 3) (hi : i < sNl S) : va_up (cont cy ad S J) (48 + 2 * i) (some (lorE ad i x)) = cont cy ad (setLo S i x) J :=
  cu_gen ((ct_lor (S := setLo S i x) h3 hi).trans (by show some (lorE ad i (va_up (sLo S) i x i)) = _; rw [va_up_self])) (fun _ _ _ => rfl) (fun _ _ _ _ _ => rfl) (fun j k hj hk hn => by
    unfold contL
    by_cases hji : j = i
    · subst hji
      match k, hk, hn with
      | 0, _, hn => exact absurd rfl hn
      | k + 1, _, _ => rfl
    · show _ = if j < sNl S then (match k with
        | 0 => some (lorE ad j (va_up (sLo S) i x j))
        | _ => _) else none
      rw [va_up_ne _ _ hji]
      rfl)
theorem cu_od {x : Nat → Int32} (h3 : sNl S ≤ 3) (hi : i < sNl S) : va_up (cont cy ad S J) (49 + 2 * i) (some (iE (cy 0) 8 x)) = cont cy ad (setOd S i x) J :=
  cu_gen ((ct_od (S := setOd S i x) h3 hi).trans (by show some (iE (cy 0) 8 (va_up (sOd S) i x i)) = _; rw [va_up_self])) (fun _ _ _ => rfl) (fun _ _ _ _ _ => rfl) (fun j k hj hk hn => by
    unfold contL
    by_cases hji : j = i
    · subst hji
      match k, hk, hn with
      | 0, _, _ => rfl
      | 1, _, hn => exact absurd rfl hn
      | k + 2, hk, _ => omega
    · show _ = if j < sNl S then (match k with
        | 0 => _
        | _ => some (iE (cy 0) 8 (va_up (sOd S) i x j))) else none
      rw [va_up_ne _ _ hji]
      rfl)
end CONT
/-- the county in order: at most eight roads and three lorries, now a quarter below 200, each lorry's orders at most eight -/
def wfS (S : cS) : Prop := sNr S ≤ 8 ∧ sNl S ≤ 3 ∧ (∃ t : Nat, t < 200 ∧ sNow S = nI t) ∧ ∀ i, i < sNl S → ∃ q : Nat, q ≤ 8 ∧ (sLo S i).2.1 = nI q
/-- numbers of the first n, of those that are there -/
def sumN (nr : Nat) (f : Nat → Int32) : Nat → Int32
  | 0 => 0
  | k + 1 => sumN nr f k + (if k < nr then f k else 0)
