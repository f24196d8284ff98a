/-! a row of roads, told by its value -/
def Pth (S : cS) (o z g : Nat → Nat) (a : Nat) : List Nat → Nat → Nat → Prop
  | [], n, len => n = a ∧ len = 0
  | d :: ds, n, len => ∃ n' len', Pth S o z g a ds n' len' ∧ d < sNr S ∧ len = len' + g d ∧ ((n' = o d ∧ n = z d) ∨ (n' = z d ∧ n = o d))
def digR : List Nat → Nat
  | [] => 1
  | d :: ds => digR ds * 10 + d
def setR (S : cS) : List Nat → Nat
  | [] => 0
  | d :: ds => setR S ds ||| btF S d
def Row (S : cS) (o z g : Nat → Nat) (a k : Nat) (x : Nat) (v : Int32) : Prop := ∃ ds n len, ds.length = k ∧ Pth S o z g a ds n len ∧ n < 7 ∧ x = setR S ds * 7 + n ∧ v = nI (len * 10000000 + digR ds)
def lens (S : cS) (g : Nat → Nat) : Prop := ∀ i, i < sNr S → (sRc S i).2.2.1 = nI (g i) ∧ g i < 7
theorem pth_le {S : cS} {o z g : Nat → Nat} {a : Nat} (h8 : sNr S ≤ 8) (hg : lens S g) : ∀ (ds : List Nat) (n len : Nat), Pth S o z g a ds n len → digR ds < 2 * 10 ^ ds.length ∧ len ≤ 6 * ds.length
  | [], n, len, h => by
    obtain ⟨-, h2⟩ := h
    subst h2
    exact ⟨by decide, by omega⟩
  | d :: ds, n, len, h => by
    obtain ⟨n', len', h1, h2, h3, -⟩ := h
    obtain ⟨h4, h5⟩ := pth_le h8 hg ds n' len' h1
    have h6 := (hg d h2).2
    show digR ds * 10 + d < 2 * 10 ^ (ds.length + 1) ∧ len ≤ 6 * (ds.length + 1)
    rw [Nat.pow_succ]
    omega
theorem row_dig {S : cS} {o z g : Nat → Nat} {a : Nat} (h8 : sNr S ≤ 8) (hg : lens S g) {ds : List Nat} {n len : Nat} (h : Pth S o z g a ds n len) (hk : ds.length ≤ 6) : digR ds < 2000001 ∧ len ≤ 36 ∧ (ds.length ≤ 5 → digR ds < 200001) := by
  obtain ⟨h1, h2⟩ := pth_le h8 hg ds n len h
  have h3 : 10 ^ ds.length ≤ 10 ^ 6 := Nat.pow_le_pow_right (by decide) hk
  refine ⟨by omega, by omega, fun h5 => ?_⟩
  have h4 : 10 ^ ds.length ≤ 10 ^ 5 := Nat.pow_le_pow_right (by decide) h5
  omega
theorem row_step {S : cS} {o z g : Nat → Nat} {a k i j : Nat} {v : Int32} (h8 : sNr S ≤ 8) (hg : lens S g) (he : ends S o z) (hi : i < sNr S) (hk : k ≤ 5) : (Row S o z g a k (j * 7 + o i) v → Row S o z g a (k + 1) ((j ||| btF S i) * 7 + z i) (upV S i v)) ∧ (Row S o z g a k (j * 7 + z i) v → Row S o z g a (k + 1) ((j ||| btF S i) * 7 + o i) (upV S i v)) := by
  obtain ⟨-, -, e3, e4⟩ := he i hi
  obtain ⟨g1, g2⟩ := hg i hi
  have key : ∀ (ds : List Nat) (n len : Nat), ds.length = k → Pth S o z g a ds n len → upV S i (nI (len * 10000000 + digR ds)) = nI ((len + g i) * 10000000 + digR (i :: ds)) := by
    intro ds n len h1 h2
    obtain ⟨b1, b2, b3⟩ := row_dig h8 hg h2 (by omega)
    have b4 := b3 (by omega)
    unfold upV
    rw [g1, row_len (by omega) (by omega) (by omega) (by omega) (by omega)]
    rw [show (len * 10000000 + digR ds) / 10000000 = len by omega, show (len * 10000000 + digR ds) % 10000000 = digR ds by omega]
    rfl
  constructor
  · rintro ⟨ds, n, len, h1, h2, h3, h4, rfl⟩
    have hj : j = setR S ds := by omega
    have hn : n = o i := by omega
    refine ⟨i :: ds, z i, len + g i, congrArg (· + 1) h1, ⟨n, len, h2, hi, rfl, Or.inl ⟨hn, rfl⟩⟩, e4, ?_, key ds n len h1 h2⟩
    rw [hj]
    rfl
  · rintro ⟨ds, n, len, h1, h2, h3, h4, rfl⟩
    have hj : j = setR S ds := by omega
    have hn : n = z i := by omega
    refine ⟨i :: ds, o i, len + g i, congrArg (· + 1) h1, ⟨n, len, h2, hi, rfl, Or.inr ⟨hn, rfl⟩⟩, e3, ?_, key ds n len h1 h2⟩
    rw [hj]
    rfl
theorem nd_mono {S : cS} (i : Nat) : ∀ k, ndF S i ≤ ndF S (i + k)
  | 0 => Nat.le_refl _
  | k + 1 => by
    have h := nd_mono (S := S) i k
    show ndF S i ≤ if i + k < sNr S then (if (sRc S (i + k)).2.2.2.1 = 0 then ndF S (i + k) + 1 else ndF S (i + k)) else ndF S (i + k)
    split
    · split <;> omega
    · exact h
theorem nd_lt {S : cS} {i : Nat} (hi : i < sNr S) (hr : (sRc S i).2.2.2.1 = 0) (h8 : i < 8) : ndF S i < ndF S 8 := by
  have h1 : ndF S (i + 1) = ndF S i + 1 := (if_pos hi).trans (if_pos hr)
  have h2 := nd_mono (S := S) (i + 1) (7 - i)
  rw [show i + 1 + (7 - i) = 8 by omega] at h2
  omega
theorem bt_lt {S : cS} {i : Nat} (h8 : sNr S ≤ 8) (h6 : ndF S 8 ≤ 6) (hi : i < sNr S) : btF S i < 64 := by
  unfold btF
  split
  · rename_i hr
    have h1 := nd_lt hi hr (by omega)
    exact Nat.lt_of_lt_of_le (Nat.pow_lt_pow_right (by decide) (by omega : ndF S i < 6)) (by decide)
  · decide
theorem nk_inv {S : cS} {o z g : Nat → Nat} {a : Nat} (h8 : sNr S ≤ 8) (hg : lens S g) (he : ends S o z) (h6 : ndF S 8 ≤ 6) (ha : a < 7) : ∀ k, k ≤ 6 → ∀ x, x < 448 → nkF S (2 ^ ndF S 8) (lowA 448 (fun _ => farK) (nI a) 1) k x = farK ∨ Row S o z g a k x (nkF S (2 ^ ndF S 8) (lowA 448 (fun _ => farK) (nI a) 1) k x)
  | 0, _ => lowA_inv (fun _ _ => Or.inl rfl) (by omega) (fun _ => ⟨[], a, 0, rfl, ⟨rfl, rfl⟩, ha, by show a = 0 * 7 + a; omega, by show (1 : Int32) = nI (0 * 10000000 + 1); decide⟩)
  | k + 1, hk => by
    have ih := nk_inv h8 hg he h6 ha k (by omega)
    have hn : 2 ^ ndF S 8 ≤ 64 := Nat.le_trans (Nat.pow_le_pow_right (by decide) h6) (by decide)
    exact lnI_inv he (fun i hi => bt_lt h8 h6 hi) hn ih (fun i hi j v _ => row_step h8 hg he hi (by omega)) 8
