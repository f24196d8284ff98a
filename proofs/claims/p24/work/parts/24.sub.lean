/-! a call out of a bigger world: the names off .. off + 63 are the callee's 0 .. 63 -/
def shC (off : Nat) (c : rC) : rC := fun k => if k < 64 then c (off + k) else none
def shA (off : Nat) (ad : Nat → Nat) : Nat → Nat := fun k => ad (off + k)
def jnC (off : Nat) (c c1 : rC) : rC := fun n => if off ≤ n ∧ n < off + 64 then c1 (n - off) else c n
def jnA (off : Nat) (ad a1 : Nat → Nat) : Nat → Nat := fun n => if off ≤ n ∧ n < off + 64 then a1 (n - off) else ad n
theorem met_lift {l : Launch} {y : MethodName} {ws : List Cond} {rm : Room} {Pc Pc' : Array Value → State → Prop} {Qc Qc' : Array Value → State → Outcome → State → Prop} {mc ms : Nat} {free free' : Addr → Prop} (h : Met l y ws rm Pc Qc mc ms free) (hP : ∀ a U, Pc' a U → Pc a U) (hQ : ∀ a st o t, Pc' a st → Qc a st o t → Qc' a st o t) (hf : ∀ q, free q → free' q) : Met l y ws rm Pc' Qc' mc ms free' := by
  intro p e hl h1 h2 s m args below hfr hap hPr hK
  obtain ⟨n, o, a1, a2, a3, a4, L, a5, a6⟩ := h p e hl h1 h2 s m args below hfr hap (hP _ _ hPr) hK
  exact ⟨n, o, a1, a2, a3, hQ _ _ _ _ hPr a4, L, a5, fun q hq => hf _ (a6 q hq)⟩
theorem sh_some {off : Nat} {c : rC} {k : Nat} (h : shC off c k ≠ none) : k < 64 ∧ c (off + k) ≠ none := by
  unfold shC at h
  by_cases hk : k < 64
  · rw [if_pos hk] at h
    exact ⟨hk, h⟩
  · rw [if_neg hk] at h
    exact absurd rfl h
theorem rp_sh {D : va_G} {cl : List vw_C} {A : Nat → Prop} {ad : Nat → Nat} {c : rC} {H : Heap} (off : Nat) (h : rp D cl A ad c H) : rp D cl A (shA off ad) (shC off c) H := by
  refine ⟨fun k e hk => ?_, fun i j hi hj hij => ?_⟩
  · have h1 := sh_some (c := c) (off := off) (k := k) (by rw [hk]; exact (fun z => by cases z))
    unfold shC at hk
    rw [if_pos h1.1] at hk
    exact h.1 _ _ hk
  · have h1 := sh_some hi
    have h2 := sh_some hj
    have h3 := h.2 _ _ h1.2 h2.2 hij
    omega
theorem rA_sh {off sz : Nat} {ad : Nat → Nat} {c : rC} {q : Nat} (h : rA (shA off ad) (shC off c) sz q) : rA ad c sz q := by
  rcases h with ⟨k, h1, h2⟩ | h
  · exact Or.inl ⟨off + k, (sh_some h1).2, h2⟩
  · exact Or.inr h
theorem rp_jn {D : va_G} {cl : List vw_C} {A : Nat → Prop} {ad a1 : Nat → Nat} {c c1 : rC} {H H1 : Heap} (off : Nat) (h : rp D cl A ad c H) (h1 : rp D cl (rA (shA off ad) (shC off c) H.size) a1 c1 H1) (hk : ∀ q : Nat, q < H.size → ¬ rA (shA off ad) (shC off c) H.size q → H1[q]? = H[q]?) : rp D cl (rA ad c H.size) (jnA off ad a1) (jnC off c c1) H1 := by
  -- a name outside: its place is not the callee's
  have hout : ∀ n, ¬ (off ≤ n ∧ n < off + 64) → c n ≠ none → ¬ rA (shA off ad) (shC off c) H.size (ad n) := by
    intro n hn hc hr
    rcases hr with ⟨k, g1, g2⟩ | hr
    · have g3 := sh_some g1
      have g4 := h.2 _ _ g3.2 hc g2
      omega
    · have := h.lt hc
      omega
  have hin : ∀ k, c1 k ≠ none → rA (shA off ad) (shC off c) H.size (a1 k) := by
    intro k hk1
    cases e : c1 k with
    | none => exact absurd e hk1
    | some x => exact (h1.1 k x e).2
  refine ⟨fun n e hn => ?_, fun i j hi hj hij => ?_⟩
  · by_cases hr : off ≤ n ∧ n < off + 64
    · have hn1 : c1 (n - off) = some e := by
        unfold jnC at hn
        rwa [if_pos hr] at hn
      rw [show jnA off ad a1 n = a1 (n - off) from if_pos hr]
      exact ⟨(h1.1 _ _ hn1).1, rA_sh (h1.1 _ _ hn1).2⟩
    · have hn1 : c n = some e := by
        unfold jnC at hn
        rwa [if_neg hr] at hn
      rw [show jnA off ad a1 n = ad n from if_neg hr]
      have hne : c n ≠ none := by rw [hn1]; exact (fun z => by cases z)
      exact ⟨(h.1 _ _ hn1).1.kept (hk _ (h.1 _ _ hn1).1.lt (hout n hr hne)), Or.inl ⟨n, hne, rfl⟩⟩
  · by_cases hr : off ≤ i ∧ i < off + 64
    · rw [show jnC off c c1 i = c1 (i - off) from if_pos hr] at hi
      rw [show jnA off ad a1 i = a1 (i - off) from if_pos hr] at hij
      by_cases hs : off ≤ j ∧ j < off + 64
      · rw [show jnC off c c1 j = c1 (j - off) from if_pos hs] at hj
        rw [show jnA off ad a1 j = a1 (j - off) from if_pos hs] at hij
        have := h1.2 _ _ hi hj hij
        omega
      · rw [show jnC off c c1 j = c j from if_neg hs] at hj
        rw [show jnA off ad a1 j = ad j from if_neg hs] at hij
        exact absurd (hij ▸ hin _ hi) (hout j hs hj)
    · rw [show jnC off c c1 i = c i from if_neg hr] at hi
      rw [show jnA off ad a1 i = ad i from if_neg hr] at hij
      by_cases hs : off ≤ j ∧ j < off + 64
      · rw [show jnC off c c1 j = c1 (j - off) from if_pos hs] at hj
        rw [show jnA off ad a1 j = a1 (j - off) from if_pos hs] at hij
        exact absurd (hij ▸ hin _ hj) (hout i hr hi)
      · rw [show jnC off c c1 j = c j from if_neg hs] at hj
        rw [show jnA off ad a1 j = ad j from if_neg hs] at hij
        exact h.2 _ _ hi hj hij
section RSUB
variable {l : Launch} {D : va_G} {cl : List vw_C} {tys : List (ClassId × FieldType)} {NW : List Cond} {y : MethodName} {ws : List Cond} {rm : Room} {args : List Value} {ad : Nat → Nat} {c : rC}
theorem rP_sh {off sz : Nat} {U : State} (h : rP D cl tys NW ad c sz U) : rP D cl tys NW (shA off ad) (shC off c) sz U := ⟨h.1, rp_sh off h.2.1, h.2.2.1, h.2.2.2⟩
theorem vaF_sh {off sz : Nat} {st t : State} (h : va_F (rA (shA off ad) (shC off c) sz) st t) : va_F (rA ad c sz) st t := ⟨h.1, fun q h1 h2 => h.2 q h1 (fun z => h2 (rA_sh z))⟩
theorem rp_jn_of {off sz : Nat} {st t : State} {a1 : Nat → Nat} {c1 : rC} (h : rP D cl tys NW ad c sz st) (hF : va_F (rA (shA off ad) (shC off c) sz) st t) (h1 : rp D cl (rA (shA off ad) (shC off c) sz) a1 c1 t.heap) : rp D cl (rA ad c sz) (jnA off ad a1) (jnC off c c1) t.heap := by
  obtain ⟨hs, hp, -, -⟩ := h
  subst hs
  exact rp_jn off hp h1 hF.2
theorem sub_v (off : Nat) {post : (Nat → Nat) → rC → Prop} (h : rMv l D cl tys NW y ws rm args (shA off ad) (shC off c) post) : rMv l D cl tys NW y ws rm args ad c (fun ad' c' => ∃ a1 c1, post a1 c1 ∧ ad' = jnA off ad a1 ∧ c' = jnC off c c1) := by
  intro sz
  refine met_lift (h sz) (fun a U hU => ⟨hU.1, rP_sh hU.2⟩) (fun a st o t hU hq => ?_) (fun q hq => rA_sh hq)
  obtain ⟨⟨u, q1, q2, q3⟩, qF⟩ := hq
  exact ⟨⟨(jnA off ad u.1, jnC off c u.2), q1, ⟨u.1, u.2, q2, rfl, rfl⟩, rp_jn_of hU.2 qF q3⟩, vaF_sh qF⟩
theorem sub_i (off : Nat) {post : Int32 → (Nat → Nat) → rC → Prop} (h : rMi l D cl tys NW y ws rm args (shA off ad) (shC off c) post) : rMi l D cl tys NW y ws rm args ad c (fun r ad' c' => ∃ a1 c1, post r a1 c1 ∧ ad' = jnA off ad a1 ∧ c' = jnC off c c1) := by
  intro sz
  refine met_lift (h sz) (fun a U hU => ⟨hU.1, rP_sh hU.2⟩) (fun a st o t hU hq => ?_) (fun q hq => rA_sh hq)
  obtain ⟨⟨r, u, q1, q2, q3⟩, qF⟩ := hq
  exact ⟨⟨r, (jnA off ad u.1, jnC off c u.2), q1, ⟨u.1, u.2, q2, rfl, rfl⟩, rp_jn_of hU.2 qF q3⟩, vaF_sh qF⟩
theorem sub_l (off : Nat) {post : Int64 → (Nat → Nat) → rC → Prop} (h : rMl l D cl tys NW y ws rm args (shA off ad) (shC off c) post) : rMl l D cl tys NW y ws rm args ad c (fun r ad' c' => ∃ a1 c1, post r a1 c1 ∧ ad' = jnA off ad a1 ∧ c' = jnC off c c1) := by
  intro sz
  refine met_lift (h sz) (fun a U hU => ⟨hU.1, rP_sh hU.2⟩) (fun a st o t hU hq => ?_) (fun q hq => rA_sh hq)
  obtain ⟨⟨r, u, q1, q2, q3⟩, qF⟩ := hq
  exact ⟨⟨r, (jnA off ad u.1, jnC off c u.2), q1, ⟨u.1, u.2, q2, rfl, rfl⟩, rp_jn_of hU.2 qF q3⟩, vaF_sh qF⟩
end RSUB
