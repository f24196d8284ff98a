/-! a county that is told, as a block of 128 names: its object o, its rows o + 1 and o + 2, its county from o + 64 on -/
def told (ad : Nat → Nat) (o b : Nat) (S : cS) (d : Int32) (v4 v5 v7 : Value) : va_E := .inr (6, [.ref (ad (o + 64)), .ref b, .int d, .ref (ad (o + 1)), v4, v5, .ref (ad (o + 2)), v7, .int (nI (sNr S)), .int (nI (sNl S)), .int 0, .int (sWe S).1, .int (sWe S).2.1, .int (sWe S).2.2.1, .int (sWe S).2.2.2.1, .int (sWe S).2.2.2.2, .int 100, .int 0, .int 0, .int 0, .int 0])
def TB (cy : Nat → ClassId) (b : Nat) (S : cS) (d : Int32) (o : Nat) (ad : Nat → Nat) (c : rC) : Prop :=
  (∃ v4 v5 v7 : Value, c o = some (told ad o b S d v4 v5 v7)) ∧ (∃ f, c (o + 1) = some (qE (cy 6) 8 f)) ∧ (∃ f, c (o + 2) = some (qE (cy 6) 3 f)) ∧ (∀ k, 3 ≤ k → k < 64 → c (o + k) = none) ∧ ∃ J, shC (o + 64) c = cont cy (shA (o + 64) ad) S J
theorem shC_congr {o : Nat} {c c' : rC} (h : ∀ k, o ≤ k → k < o + 64 → c' k = c k) : shC o c' = shC o c := by
  funext k
  unfold shC
  by_cases hk : k < 64
  · rw [if_pos hk, if_pos hk]
    exact h _ (by omega) (by omega)
  · rw [if_neg hk, if_neg hk]
theorem ct_same {cy : Nat → ClassId} {a a' : Nat → Nat} {S : cS} {J : jS} (h8 : sNr S ≤ 8) (h3 : sNl S ≤ 3) (h : ∀ k, k < 64 → a' k = a k) : cont cy a' S J = cont cy a S J := cont_ad (fun n hn => h n (by omega))
theorem TB_ct {cy : Nat → ClassId} {b : Nat} {S : cS} {d : Int32} {o : Nat} {ad : Nat → Nat} {c : rC} (h : TB cy b S d o ad c) : ∃ J, shC (o + 64) c = cont cy (shA (o + 64) ad) S J := h.2.2.2.2
/-- the county's object -/
theorem ct_obj {cy : Nat → ClassId} {S : cS} {J : jS} {o : Nat} {ad : Nat → Nat} {c : rC} (h : shC o c = cont cy (shA o ad) S J) : c o = some (gE (shA o ad) (sNr S) (sNl S) (sG S)) := by
  have h1 : shC o c 0 = c (o + 0) := if_pos (by decide)
  rw [Nat.add_zero] at h1
  rw [← h1, h]
  rfl
theorem TB_congr {cy : Nat → ClassId} {b : Nat} {S : cS} {d : Int32} {o : Nat} {ad ad' : Nat → Nat} {c c' : rC} (h8 : sNr S ≤ 8) (h3 : sNl S ≤ 3) (h : TB cy b S d o ad c) (hf : ∀ k, o ≤ k → k < o + 128 → ad' k = ad k ∧ c' k = c k) : TB cy b S d o ad' c' := by
  obtain ⟨⟨v4, v5, v7, h1⟩, ⟨f1, h2⟩, ⟨f2, h3'⟩, h4, J, h5⟩ := h
  refine ⟨⟨v4, v5, v7, ?_⟩, ⟨f1, ?_⟩, ⟨f2, ?_⟩, fun k k1 k2 => ?_, J, ?_⟩
  · rw [(hf o (Nat.le_refl _) (by omega)).2, h1]
    unfold told
    rw [(hf (o + 64) (by omega) (by omega)).1, (hf (o + 1) (by omega) (by omega)).1, (hf (o + 2) (by omega) (by omega)).1]
  · rw [(hf (o + 1) (by omega) (by omega)).2, h2]
  · rw [(hf (o + 2) (by omega) (by omega)).2, h3']
  · rw [(hf (o + k) (by omega) (by omega)).2, h4 k k1 k2]
  · rw [shC_congr (fun k k1 k2 => (hf k (by omega) (by omega)).2), h5]
    exact (ct_same h8 h3 (fun k hk => (hf (o + 64 + k) (by omega) (by omega)).1)).symm
/-- the county of a block goes on -/
theorem TB_go {cy : Nat → ClassId} {b : Nat} {S S' : cS} {d : Int32} {o : Nat} {ad : Nat → Nat} {c c' : rC} (h : TB cy b S d o ad c) (h1 : sNr S' = sNr S) (h2 : sNl S' = sNl S) (h3 : sWe S' = sWe S) (hf : ∀ k, k < o + 64 → c' k = c k) {J : jS} (hC : shC (o + 64) c' = cont cy (shA (o + 64) ad) S' J) : TB cy b S' d o ad c' := by
  obtain ⟨⟨v4, v5, v7, e1⟩, ⟨f1, e2⟩, ⟨f2, e3⟩, e4, -⟩ := h
  refine ⟨⟨v4, v5, v7, ?_⟩, ⟨f1, ?_⟩, ⟨f2, ?_⟩, fun k k1 k2 => ?_, J, hC⟩
  · rw [hf o (by omega), e1]
    unfold told
    rw [h1, h2, h3]
  · rw [hf (o + 1) (by omega), e2]
  · rw [hf (o + 2) (by omega), e3]
  · rw [hf (o + k) (by omega), e4 k k1 k2]
theorem sh_s2 {o : Nat} {c : rC} : shC (0 + 64) (s2C o c) = shC (o + 64) c := by
  funext k
  unfold shC s2C
  by_cases hk : k < 64
  · rw [if_pos hk, if_pos hk, if_pos (by omega), show o + (0 + 64 + k) = o + 64 + k by omega]
  · rw [if_neg hk, if_neg hk]
theorem sa_s2 {o : Nat} {ad : Nat → Nat} : shA (0 + 64) (s2A o ad) = shA (o + 64) ad := by
  funext k
  show ad (o + (0 + 64 + k)) = ad (o + 64 + k)
  rw [show o + (0 + 64 + k) = o + 64 + k by omega]
theorem TB_dn {cy : Nat → ClassId} {b : Nat} {S : cS} {d : Int32} {o : Nat} {ad : Nat → Nat} {c : rC} (h : TB cy b S d o ad c) : TB cy b S d 0 (s2A o ad) (s2C o c) := by
  obtain ⟨⟨v4, v5, v7, h1⟩, ⟨f1, h2⟩, ⟨f2, h3⟩, h4, J, h5⟩ := h
  have hs : ∀ k, k < 128 → s2C o c k = c (o + k) := fun k hk => if_pos hk
  refine ⟨⟨v4, v5, v7, ?_⟩, ⟨f1, ?_⟩, ⟨f2, ?_⟩, fun k k1 k2 => ?_, J, ?_⟩
  · rw [hs 0 (by decide), Nat.add_zero, h1]
    unfold told s2A
    rw [Nat.zero_add, Nat.zero_add, Nat.zero_add]
  · rw [hs (0 + 1) (by decide), Nat.zero_add, h2]
  · rw [hs (0 + 2) (by decide), Nat.zero_add, h3]
  · rw [Nat.zero_add, hs k (by omega), h4 k k1 k2]
  · rw [sh_s2, sa_s2, h5]
theorem TB_up {cy : Nat → ClassId} {b : Nat} {S : cS} {d : Int32} {o : Nat} {ad a1 : Nat → Nat} {c c1 : rC} (h8 : sNr S ≤ 8) (h3 : sNl S ≤ 3) (h : TB cy b S d 0 a1 c1) : TB cy b S d o (j2A o ad a1) (j2C o c c1) := by
  obtain ⟨⟨v4, v5, v7, h1⟩, ⟨f1, h2⟩, ⟨f2, h3'⟩, h4, J, h5⟩ := h
  have hc : ∀ k, k < 128 → j2C o c c1 (o + k) = c1 k := fun k hk => (if_pos (by omega)).trans (by rw [show o + k - o = k by omega])
  have ha : ∀ k, k < 128 → j2A o ad a1 (o + k) = a1 k := fun k hk => (if_pos (by omega)).trans (by rw [show o + k - o = k by omega])
  refine ⟨⟨v4, v5, v7, ?_⟩, ⟨f1, ?_⟩, ⟨f2, ?_⟩, fun k k1 k2 => ?_, J, ?_⟩
  · have := hc 0 (by decide)
    rw [Nat.add_zero] at this
    rw [this, h1]
    unfold told
    rw [ha 64 (by decide), ha 1 (by decide), ha 2 (by decide)]
  · rw [hc 1 (by decide)]; exact h2
  · rw [hc 2 (by decide)]; exact h3'
  · rw [hc k (by omega)]
    have := h4 k k1 k2
    rwa [Nat.zero_add] at this
  · have e1 : shC (o + 64) (j2C o c c1) = shC (0 + 64) c1 := by
      funext k
      unfold shC
      by_cases hk : k < 64
      · rw [if_pos hk, if_pos hk, show o + 64 + k = o + (0 + 64 + k) by omega, hc _ (by omega)]
      · rw [if_neg hk, if_neg hk]
    rw [e1, h5]
    refine (ct_same h8 h3 (fun k hk => ?_)).symm
    show j2A o ad a1 (o + 64 + k) = a1 (0 + 64 + k)
    rw [show o + 64 + k = o + (0 + 64 + k) by omega, ha _ (by omega)]
section LIFT
variable {l : Launch} {D : va_G} {cl : List vw_C} {tys : List (ClassId × FieldType)} {NW : List Cond} {y : MethodName} {ws : List Cond} {rm : Room} {args : List Value} {ad : Nat → Nat} {c : rC} {cy : Nat → ClassId} {S S' : cS} {J : jS} {b9 L9 : Nat} {xs9 : Nat → Int32}
theorem jn_in {o : Nat} {c c1 : rC} {cy : Nat → ClassId} {a1 : Nat → Nat} {S' : cS} {J' : jS} (h : cont cy a1 S' J' = c1) : shC o (jnC o c c1) = cont cy a1 S' J' := by
  funext k
  unfold shC
  by_cases hk : k < 64
  · rw [if_pos hk, ← h]
    unfold jnC
    rw [if_pos (by omega), show o + k - o = k by omega]
  · rw [if_neg hk, ct_hi (by omega)]
theorem jn_out {o k : Nat} {c c1 : rC} (h : k < o ∨ o + 64 ≤ k) : jnC o c c1 k = c k := if_neg (by omega)
theorem jnA_out {o k : Nat} {ad a1 : Nat → Nat} (h : k < o ∨ o + 64 ≤ k) : jnA o ad a1 k = ad k := if_neg (by omega)
theorem jnA_in {o k : Nat} {ad a1 : Nat → Nat} (h : k < 64) : jnA o ad a1 (o + k) = a1 k := (if_pos (by omega)).trans (by rw [show o + k - o = k by omega])
theorem jnA_id {o : Nat} {ad : Nat → Nat} : jnA o ad (shA o ad) = ad := by
  funext k
  unfold jnA
  by_cases h : o ≤ k ∧ k < o + 64
  · rw [if_pos h]
    show ad (o + (k - o)) = ad k
    rw [show o + (k - o) = k by omega]
  · rw [if_neg h]
theorem j2A_id {o : Nat} {ad : Nat → Nat} : j2A o ad (s2A o ad) = ad := by
  funext k
  unfold j2A
  by_cases h : o ≤ k ∧ k < o + 128
  · rw [if_pos h]
    show ad (o + (k - o)) = ad k
    rw [show o + (k - o) = k by omega]
  · rw [if_neg h]
/-- a call on a county at o: nothing is made -/
theorem ct_i (o : Nat) {v : Int32} {post : Int32 → (Nat → Nat) → rC → Prop} (hC : shC o c = cont cy (shA o ad) S J) (h : rMi l D cl tys NW y ws rm args (shA o ad) (cont cy (shA o ad) S J) post) (hp : ∀ r a c', post r a c' → v = r ∧ shA o ad = a ∧ ∃ J', cont cy (shA o ad) S' J' = c') : rMi l D cl tys NW y ws rm args ad c (fun r ad' c' => v = r ∧ ad = ad' ∧ (∀ k, (k < o ∨ o + 64 ≤ k) → c' k = c k) ∧ ∃ J', shC o c' = cont cy (shA o ad) S' J') := by
  refine (sub_i o (by rw [hC]; exact h)).mono fun r a' c' hq => ?_
  obtain ⟨a1, c1, q, rfl, rfl⟩ := hq
  obtain ⟨q1, q2, J', q3⟩ := hp _ _ _ q
  exact ⟨q1, by rw [← q2, jnA_id], fun k hk => jn_out hk, J', jn_in q3⟩
theorem ct_l (o : Nat) {v : Int64} {post : Int64 → (Nat → Nat) → rC → Prop} (hC : shC o c = cont cy (shA o ad) S J) (h : rMl l D cl tys NW y ws rm args (shA o ad) (cont cy (shA o ad) S J) post) (hp : ∀ r a c', post r a c' → v = r ∧ shA o ad = a ∧ ∃ J', cont cy (shA o ad) S' J' = c') : rMl l D cl tys NW y ws rm args ad c (fun r ad' c' => v = r ∧ ad = ad' ∧ (∀ k, (k < o ∨ o + 64 ≤ k) → c' k = c k) ∧ ∃ J', shC o c' = cont cy (shA o ad) S' J') := by
  refine (sub_l o (by rw [hC]; exact h)).mono fun r a' c' hq => ?_
  obtain ⟨a1, c1, q, rfl, rfl⟩ := hq
  obtain ⟨q1, q2, J', q3⟩ := hp _ _ _ q
  exact ⟨q1, by rw [← q2, jnA_id], fun k hk => jn_out hk, J', jn_in q3⟩
/-- a call on a county at o that makes something -/
theorem ct_m (o : Nat) (h8 : sNr S' ≤ 8) (h3 : sNl S' ≤ 3) {v : Int32} {post : Int32 → (Nat → Nat) → rC → Prop} (hC : shC o c = cont cy (shA o ad) S J) (h : rMi l D cl tys NW y ws rm args (shA o ad) (cont cy (shA o ad) S J) post) (hp : ∀ r a c', post r a c' → v = r ∧ a 0 = ad o ∧ ∃ J', cont cy a S' J' = c') : rMi l D cl tys NW y ws rm args ad c (fun r ad' c' => v = r ∧ ad' o = ad o ∧ (∀ k, (k < o ∨ o + 64 ≤ k) → ad' k = ad k ∧ c' k = c k) ∧ ∃ J', shC o c' = cont cy (shA o ad') S' J') := by
  refine (sub_i o (by rw [hC]; exact h)).mono fun r a' c' hq => ?_
  obtain ⟨a1, c1, q, rfl, rfl⟩ := hq
  obtain ⟨q1, q2, J', q3⟩ := hp _ _ _ q
  refine ⟨q1, (jnA_in (k := 0) (by decide)).trans q2, fun k hk => ⟨jnA_out hk, jn_out hk⟩, J', (jn_in q3).trans (ct_same h8 h3 (fun k hk => ?_)).symm⟩
  exact jnA_in hk
theorem j2_out {o k : Nat} {c c1 : rC} (h : k < o ∨ o + 128 ≤ k) : j2C o c c1 k = c k := if_neg (by omega)
theorem j2A_out {o k : Nat} {ad a1 : Nat → Nat} (h : k < o ∨ o + 128 ≤ k) : j2A o ad a1 k = ad k := if_neg (by omega)
/-- a call on what is told at o -/
theorem tb_i (o : Nat) (h8 : sNr S' ≤ 8) (h3 : sNl S' ≤ 3) {v : Int32} {b : Nat} {d' : Int32} {post : Int32 → (Nat → Nat) → rC → Prop} (h : rMi l D cl tys NW y ws rm args (s2A o ad) (s2C o c) post) (hp : ∀ r a c', post r a c' → v = r ∧ (a 0 = ad o ∧ a 64 = ad (o + 64)) ∧ TB cy b S' d' 0 a c') : rMi l D cl tys NW y ws rm args ad c (fun r ad' c' => v = r ∧ (ad' o = ad o ∧ ad' (o + 64) = ad (o + 64)) ∧ (∀ k, (k < o ∨ o + 128 ≤ k) → ad' k = ad k ∧ c' k = c k) ∧ TB cy b S' d' o ad' c') := by
  refine (s2_i o h).mono fun r a' c' hq => ?_
  obtain ⟨a1, c1, q, rfl, rfl⟩ := hq
  obtain ⟨q1, q2, q3⟩ := hp _ _ _ q
  refine ⟨q1, ⟨?_, ?_⟩, fun k hk => ⟨j2A_out hk, j2_out hk⟩, TB_up h8 h3 q3⟩
  · show j2A o ad a1 o = ad o
    unfold j2A
    rw [if_pos (by omega), Nat.sub_self, q2.1]
  · show j2A o ad a1 (o + 64) = ad (o + 64)
    unfold j2A
    rw [if_pos (by omega), show o + 64 - o = 64 by omega, q2.2]
theorem xMi.mono {post post' : Int32 → (Nat → Nat) → rC → Prop} (h : xMi l D cl tys NW b9 L9 xs9 y ws rm args ad c post) (hp : ∀ r a c', post r a c' → post' r a c') : xMi l D cl tys NW b9 L9 xs9 y ws rm args ad c post' := fun sz => met_lift (h sz) (fun _ _ hU => hU) (fun _ _ _ _ _ hq => by
  obtain ⟨⟨r, u, q1, q2, q3⟩, qF⟩ := hq
  exact ⟨⟨r, u, q1, hp _ _ _ q2, q3⟩, qF⟩) (fun _ hq => hq)
theorem tb_x (o : Nat) (h8 : sNr S' ≤ 8) (h3 : sNl S' ≤ 3) {v : Int32} {b : Nat} {d' : Int32} {post : Int32 → (Nat → Nat) → rC → Prop} (h : xMi l D cl tys NW b9 L9 xs9 y ws rm args (s2A o ad) (s2C o c) post) (hp : ∀ r a c', post r a c' → v = r ∧ (a 0 = ad o ∧ a 64 = ad (o + 64)) ∧ TB cy b S' d' 0 a c') : xMi l D cl tys NW b9 L9 xs9 y ws rm args ad c (fun r ad' c' => v = r ∧ (ad' o = ad o ∧ ad' (o + 64) = ad (o + 64)) ∧ (∀ k, (k < o ∨ o + 128 ≤ k) → ad' k = ad k ∧ c' k = c k) ∧ TB cy b S' d' o ad' c') := by
  refine (s2_x o h).mono fun r a' c' hq => ?_
  obtain ⟨a1, c1, q, rfl, rfl⟩ := hq
  obtain ⟨q1, q2, q3⟩ := hp _ _ _ q
  refine ⟨q1, ⟨?_, ?_⟩, fun k hk => ⟨j2A_out hk, j2_out hk⟩, TB_up h8 h3 q3⟩
  · show j2A o ad a1 o = ad o
    unfold j2A
    rw [if_pos (by omega), Nat.sub_self, q2.1]
  · show j2A o ad a1 (o + 64) = ad (o + 64)
    unfold j2A
    rw [if_pos (by omega), show o + 64 - o = 64 by omega, q2.2]
theorem tb_xe (o : Nat) (h8 : sNr S' ≤ 8) (h3 : sNl S' ≤ 3) {v : Int32} {b : Nat} {d' : Int32} {post : Int32 → (Nat → Nat) → rC → Prop} (h : xMi l D cl tys NW b9 L9 xs9 y ws rm args (s2A o ad) (s2C o c) post) (hp : ∀ r a c', post r a c' → v = r ∧ s2A o ad = a ∧ TB cy b S' d' 0 a c') : xMi l D cl tys NW b9 L9 xs9 y ws rm args ad c (fun r ad' c' => v = r ∧ ad = ad' ∧ (∀ k, (k < o ∨ o + 128 ≤ k) → c' k = c k) ∧ TB cy b S' d' o ad' c') := by
  refine (s2_x o h).mono fun r a' c' hq => ?_
  obtain ⟨a1, c1, q, rfl, rfl⟩ := hq
  obtain ⟨q1, q2, q3⟩ := hp _ _ _ q
  refine ⟨q1, ?_, fun k hk => j2_out hk, TB_up h8 h3 q3⟩
  rw [← q2, j2A_id]
theorem tb_ie (o : Nat) (h8 : sNr S' ≤ 8) (h3 : sNl S' ≤ 3) {v : Int32} {b : Nat} {d' : Int32} {post : Int32 → (Nat → Nat) → rC → Prop} (h : rMi l D cl tys NW y ws rm args (s2A o ad) (s2C o c) post) (hp : ∀ r a c', post r a c' → v = r ∧ s2A o ad = a ∧ TB cy b S' d' 0 a c') : rMi l D cl tys NW y ws rm args ad c (fun r ad' c' => v = r ∧ ad = ad' ∧ (∀ k, (k < o ∨ o + 128 ≤ k) → c' k = c k) ∧ TB cy b S' d' o ad' c') := by
  refine (s2_i o h).mono fun r a' c' hq => ?_
  obtain ⟨a1, c1, q, rfl, rfl⟩ := hq
  obtain ⟨q1, q2, q3⟩ := hp _ _ _ q
  refine ⟨q1, ?_, fun k hk => j2_out hk, TB_up h8 h3 q3⟩
  rw [← q2, j2A_id]
end LIFT
/-- a constructor's call on a block -/
theorem tb_v {l : Launch} {D : va_G} {cl : List vw_C} {tys : List (ClassId × FieldType)} {NW : List Cond} {y : MethodName} {ws : List Cond} {rm : Room} {args : List Value} {ad : Nat → Nat} {c : rC} {cy : Nat → ClassId} {S' : cS} (o : Nat) (h8 : sNr S' ≤ 8) (h3 : sNl S' ≤ 3) {b : Nat} {d' : Int32} (h : rMv l D cl tys NW y ws rm args (s2A o ad) (s2C o c) (fun a c' => a 0 = s2A o ad 0 ∧ TB cy b S' d' 0 a c')) : rMv l D cl tys NW y ws rm args ad c (fun ad' c' => ad' o = ad o ∧ (∀ k, (k < o ∨ o + 128 ≤ k) → ad' k = ad k ∧ c' k = c k) ∧ TB cy b S' d' o ad' c') := fun sz => met_lift (s2_v o h sz) (fun _ _ hU => hU) (fun _ _ _ _ _ hq => by
  obtain ⟨⟨u, q1, ⟨a1, c1, ⟨q2, q3⟩, e1, e2⟩, q4⟩, qF⟩ := hq
  refine ⟨⟨u, q1, ⟨?_, fun k hk => ?_, ?_⟩, q4⟩, qF⟩
  · rw [e1]
    show j2A o ad a1 o = ad o
    unfold j2A
    rw [if_pos (by omega), Nat.sub_self, q2]
    rfl
  · rw [e1, e2]
    exact ⟨j2A_out hk, j2_out hk⟩
  · rw [e1, e2]
    exact TB_up h8 h3 q3) (fun _ hq => hq)
/-! what is drawn -/
theorem and_nn (v : Int32) : ¬ (v &&& 2147483647) < 0 := by
  intro h
  have h1 : (v &&& 2147483647).toBitVec.msb = false := by
    have e : (2147483647 : Int32).toBitVec.msb = false := by decide +kernel
    rw [Int32.toBitVec_and, BitVec.msb_and, e, Bool.and_false]
  have h2 : (v &&& 2147483647).toInt < 0 := by
    have := Int32.lt_iff_toInt_lt.mp h
    simpa using this
  have h3 : (0 : Int) ≤ (v &&& 2147483647).toBitVec.toInt := by
    rw [BitVec.toInt_eq_msb_cond, h1]
    simp
  exact absurd h2 (Int.not_lt.mpr h3)
def belF (v : Int32) (n : Nat) : Nat := (v &&& 2147483647).toNatClampNeg % n
theorem bel_lt {v : Int32} {n : Nat} (h : 0 < n) : belF v n < n := Nat.mod_lt _ h
theorem bel_eq {v : Int32} {n : Nat} (h : 0 < n) (hn : n < 2 ^ 31) : (v &&& 2147483647) - (v &&& 2147483647) / nI n * nI n = nI (belF v n) := by
  obtain ⟨j, hj, e⟩ := nI_of (and_nn v)
  unfold belF
  rw [e, nI_r hj hn, nI_clamp hj]
def celF (xs : Nat → Int32) (L k : Nat) : Int32 := if k < L then xs k else 790386105 * (nI k + 3)
def drw (xs : Nat → Int32) (L d n : Nat) : Nat := belF ((celF xs L (d % 24) >>> (nI (d / 24 % 8) &&& 31)) + 307 * nI d) n
