/-! the lorry is driven: by program (wip/p24/md.py) -/
theorem lg_self (x : Int64) : lg_cmp x x = 0 := by
  unfold lg_cmp
  rw [if_neg (by simp), if_pos rfl]
def tr3 (S : cS) : Nat × Nat × we5 := (sNr S, sNl S, sWe S)
theorem tr_treat {S : cS} {q j t : Nat} : tr3 (treatF S q j t) = tr3 S := by
  unfold treatF
  split
  · split <;> rfl
  · rfl
theorem tr_fin {S : cS} {j t q : Nat} {nd ah : Int32} : tr3 (finS S j t q nd ah) = tr3 S := by
  unfold finS
  split
  · rfl
  · exact tr_treat
theorem tr_work {S : cS} {j t : Nat} : tr3 (workF S j t) = tr3 S := by
  unfold workF
  split
  · rfl
  · split
    · unfold workQ
      split
      · split
        · exact tr_fin
        · split
          · rfl
          · exact tr_fin
      · rfl
    · rfl
theorem tr_lj {S : cS} {t : Nat} : ∀ i, tr3 (ljF S t i) = tr3 S
  | 0 => rfl
  | i + 1 => by
    unfold ljF
    split
    · exact tr_work.trans (tr_lj i)
    · exact tr_lj i
theorem tr_rq {S : cS} {t i : Nat} : tr3 (rqF S t i) = tr3 S := by
  obtain ⟨a1, a2, a3, -, -⟩ := rq_rest (S := S) (t := t) i
  unfold tr3
  rw [a1, a2, a3]
theorem tr_pq {S : cS} {t : Nat} : tr3 (pqF S t) = tr3 S := by
  unfold pqF
  rw [tr_lj, tr_rq]
  rfl
theorem tr_ps {S : cS} {t : Nat} (i : Nat) : tr3 (psF S t i) = tr3 S := by
  induction i with
  | zero => rfl
  | succ i ih =>
    rw [show psF S t (i + 1) = pqF (psF S t i) (t + i + 1) from rfl, tr_pq, ih]
theorem ps_nr {S : cS} {t : Nat} (i : Nat) : sNr (psF S t i) = sNr S := congrArg (fun z => z.1) (tr_ps (S := S) (t := t) i)
theorem ps_nl {S : cS} {t : Nat} (i : Nat) : sNl (psF S t i) = sNl S := congrArg (fun z => z.2.1) (tr_ps (S := S) (t := t) i)
theorem ps_w5 {S : cS} {t : Nat} (i : Nat) : sWe (psF S t i) = sWe S := congrArg (fun z => z.2.2) (tr_ps (S := S) (t := t) i)
/-- both that are told, and what lies below -/
def LB (cy : Nat → ClassId) (b : Nat) (low : rC) (S1 S2 : cS) (d1 d2 : Int32) (ad : Nat → Nat) (c : rC) : Prop := TB cy b S1 d1 128 ad c ∧ TB cy b S2 d2 256 ad c ∧ ∀ k, k < 128 → c k = low k
theorem LB_t {cy : Nat → ClassId} {b : Nat} {low : rC} {S1 S2 S' : cS} {d1 d2 : Int32} {ad : Nat → Nat} {c c' : rC} (h : LB cy b low S1 S2 d1 d2 ad c) (w2 : sNr S2 ≤ 8 ∧ sNl S2 ≤ 3) (e : tr3 S' = tr3 S1) (hf : ∀ k, (k < 192 ∨ 192 + 64 ≤ k) → c' k = c k) {J : jS} (hC : shC 192 c' = cont cy (shA 192 ad) S' J) : LB cy b low S' S2 d1 d2 ad c' :=
  ⟨TB_go h.1 (congrArg (fun z => z.1) e) (congrArg (fun z => z.2.1) e) (congrArg (fun z => z.2.2) e) (fun k hk => hf k (Or.inl hk)) hC, TB_congr w2.1 w2.2 h.2.1 (fun k k1 k2 => ⟨rfl, hf k (Or.inr k1)⟩), fun k hk => (hf k (Or.inl (by omega))).trans (h.2.2 k hk)⟩
theorem LB_o {cy : Nat → ClassId} {b : Nat} {low : rC} {S1 S2 S' : cS} {d1 d2 : Int32} {ad : Nat → Nat} {c c' : rC} (h : LB cy b low S1 S2 d1 d2 ad c) (w1 : sNr S1 ≤ 8 ∧ sNl S1 ≤ 3) (e : tr3 S' = tr3 S2) (hf : ∀ k, (k < 320 ∨ 320 + 64 ≤ k) → c' k = c k) {J : jS} (hC : shC 320 c' = cont cy (shA 320 ad) S' J) : LB cy b low S1 S' d1 d2 ad c' :=
  ⟨TB_congr w1.1 w1.2 h.1 (fun k k1 k2 => ⟨rfl, hf k (Or.inl (by omega))⟩), TB_go h.2.1 (congrArg (fun z => z.1) e) (congrArg (fun z => z.2.1) e) (congrArg (fun z => z.2.2) e) (fun k hk => hf k (Or.inl hk)) hC, fun k hk => (hf k (Or.inl (by omega))).trans (h.2.2 k hk)⟩
theorem wf_2 {S : cS} (h : wfS S) : sNr S ≤ 8 ∧ sNl S ≤ 3 := ⟨h.1, h.2.1⟩
theorem nI_m4 : ∀ a : Nat, a < 30 → 4 < a → nI a + (-4) = nI (a - 4) := by decide +kernel
theorem nI_m4' : ∀ a : Nat, a < 5 → nI a + (-4) ≤ 0 := by decide +kernel
theorem digV_pos {ds : List Nat} : 1 ≤ digV 1 ds := by
  induction ds with
  | nil => exact Nat.le_refl 1
  | cons d ds ih =>
    show 1 ≤ digV 1 ds * 10 + d
    omega
theorem nI_dif {a b : Nat} (h : b ≤ a) : nI a - nI b = nI (a - b) := by
  obtain ⟨k, rfl⟩ : ∃ k, a = k + b := ⟨a - b, by omega⟩
  rw [← nI_add, Nat.add_sub_cancel]
  exact Int32.add_sub_cancel _ _
theorem i_dec (x : Int32) : x + (-1) = x - 1 := (Int32.sub_eq_add_neg x 1).symm
def lP (g : Nat → Nat) (r : List Nat) : Nat → Nat
  | 0 => 0
  | i + 1 => lP g r i + g (r.getD i 0)
theorem lP_cons {g : Nat → Nat} {d : Nat} {r : List Nat} : ∀ i, lP g (d :: r) (i + 1) = g d + lP g r i
  | 0 => by
    show 0 + g d = g d + 0
    omega
  | i + 1 => by
    show lP g (d :: r) (i + 1) + g (r.getD i 0) = g d + (lP g r i + g (r.getD i 0))
    rw [lP_cons i]
    omega
theorem lP_all {g : Nat → Nat} : ∀ r : List Nat, lP g r r.length = lS g r
  | [] => rfl
  | d :: r => by
    show lP g (d :: r) (r.length + 1) = g d + lS g r
    rw [lP_cons, lP_all r]
theorem getD_mem {r : List Nat} {i : Nat} (h : i < r.length) : r.getD i 0 ∈ r := by
  rw [List.getD_eq_getElem?_getD, List.getElem?_eq_getElem h]
  exact List.getElem_mem h
theorem lP_le {g : Nat → Nat} {r : List Nat} (h : ∀ d ∈ r, g d ≤ 4) : ∀ i, i ≤ r.length → lP g r i ≤ 4 * i
  | 0, _ => Nat.le_refl _
  | i + 1, hi => by
    have h1 := lP_le h i (by omega)
    have h2 := h _ (getD_mem (r := r) (i := i) (by omega))
    show lP g r i + g (r.getD i 0) ≤ 4 * (i + 1)
    omega
theorem rev_at {d : Nat} {es : List Nat} : (d :: es).reverse.getD es.length 0 = d := by
  rw [List.reverse_cons, List.getD_eq_getElem?_getD, List.getElem?_append_right (by rw [List.length_reverse]; exact Nat.le_refl _), List.length_reverse, Nat.sub_self]
  rfl
theorem rev_lo {d j : Nat} {es : List Nat} (h : j < es.length) : (d :: es).reverse.getD j 0 = es.reverse.getD j 0 := by
  rw [List.reverse_cons, List.getD_eq_getElem?_getD, List.getElem?_append_left (by rw [List.length_reverse]; exact h), ← List.getD_eq_getElem?_getD]
set_option maxRecDepth 100000 in
set_option maxHeartbeats 4000000 in
theorem id_6 {p : Program} {l : Launch} {e : Env} {s : State} {m : MethodId} {args : Array Value} {below : List Frame} {meth : Method} {cd : Code} {b9 : Nat} {D : va_G} {cy : Nat → ClassId} {A : Nat → Prop} {Q : State → Prop} {cells slots : Nat} {d1 d2 : Int32} {bst v : Nat} (X : rX p s m args cd b_Law_isDriven 12 R_Law W0 D cls (TY cy) A) (hN : rN NW s) (hc1 : cells ≤ 1) (hc2 : slots ≤ 6) {ad : Nat → Nat} {T T2 : cS} {t len : Nat} (hS : wfS T) (hS2 : wfS T2) (h5 : sNr T = 5) (hnow : sNow T = nI (t + len)) (htl : t + len < 200) (hcov : 0 < bst → 0 < len → ∀ r, r < 5 → (sRc T r).2.2.2.1 = 0 → ∃ w, t < w ∧ w ≤ t + len ∧ las (sRc T r) = nI w) (hbs : bst < 2 ^ 31)
    (kk : ∀ c' : rC, LB cy b9 (fun _ => none) T T2 d1 d2 ad c' → rW p l e { frames := 7, cells := 1, slots := 6, locals := 166 } s m args below meth cd 12 D cls A cells slots Q ad c' 318 [(4, .int (nI bst)), (3, .int (nI v)), (2, .ref (ad 192)), (1, .ref (ad 256)), (0, .ref (ad 128))] []) : ∀ (n i : Nat) (c : rC), i + n = 5 → LB cy b9 (fun _ => none) T T2 d1 d2 ad c → rW p l e { frames := 7, cells := 1, slots := 6, locals := 166 } s m args below meth cd 12 D cls A cells slots Q ad c 265 [(8, .int (nI i)), (7, .int (nI len)), (4, .int (nI bst)), (3, .int (nI v)), (2, .ref (ad 192)), (1, .ref (ad 256)), (0, .ref (ad 128))] [] := by
  intro n
  induction n with
  | zero =>
    intro i c hi hL
    obtain rfl : i = 5 := by omega
    obtain ⟨⟨w4_t0, w5_t0, w7_t0, hb_t0⟩, -⟩ := id hL.1
    have hb_t0 : c 128 = some (.inr (6, [.ref (ad 192), .ref b9, .int d1, .ref (ad 129), w4_t0, w5_t0, .ref (ad 130), w7_t0, .int (nI (sNr T)), .int (nI (sNl T)), .int 0, .int ((sWe T).1), .int ((sWe T).2.1), .int ((sWe T).2.2.1), .int ((sWe T).2.2.2.1), .int ((sWe T).2.2.2.2), .int 100, .int 0, .int 0, .int 0, .int 0])) := hb_t0
    obtain ⟨⟨w4_o0, w5_o0, w7_o0, hb_o0⟩, -⟩ := id hL.2.1
    have hb_o0 : c 256 = some (.inr (6, [.ref (ad 320), .ref b9, .int d2, .ref (ad 257), w4_o0, w5_o0, .ref (ad 258), w7_o0, .int (nI (sNr T2)), .int (nI (sNl T2)), .int 0, .int ((sWe T2).1), .int ((sWe T2).2.1), .int ((sWe T2).2.2.1), .int ((sWe T2).2.2.2.1), .int ((sWe T2).2.2.2.2), .int 100, .int 0, .int 0, .int 0, .int 0])) := hb_o0
    refine r_iload X 0 d_Law_isDriven_265 rfl ?_
    refine r_iconst X 5 d_Law_isDriven_267 (by decide) ?_
    refine r_icmp_ge X 318 d_Law_isDriven_268 (by decide) (fun _ => ?_) (fun h9 => absurd (show (5 : Int32) ≤ nI 5 from by decide) h9)
    refine r_lv [2, 3, 4, 5, 6] [(4, .int (nI bst)), (3, .int (nI v)), (2, .ref (ad 192)), (1, .ref (ad 256)), (0, .ref (ad 128))] rfl ?_
    exact kk c hL
  | succ n ih =>
    intro i c hi hL
    obtain ⟨⟨w4_t100, w5_t100, w7_t100, hb_t100⟩, -⟩ := id hL.1
    have hb_t100 : c 128 = some (.inr (6, [.ref (ad 192), .ref b9, .int d1, .ref (ad 129), w4_t100, w5_t100, .ref (ad 130), w7_t100, .int (nI (sNr T)), .int (nI (sNl T)), .int 0, .int ((sWe T).1), .int ((sWe T).2.1), .int ((sWe T).2.2.1), .int ((sWe T).2.2.2.1), .int ((sWe T).2.2.2.2), .int 100, .int 0, .int 0, .int 0, .int 0])) := hb_t100
    obtain ⟨⟨w4_o100, w5_o100, w7_o100, hb_o100⟩, -⟩ := id hL.2.1
    have hb_o100 : c 256 = some (.inr (6, [.ref (ad 320), .ref b9, .int d2, .ref (ad 257), w4_o100, w5_o100, .ref (ad 258), w7_o100, .int (nI (sNr T2)), .int (nI (sNl T2)), .int 0, .int ((sWe T2).1), .int ((sWe T2).2.1), .int ((sWe T2).2.2.1), .int ((sWe T2).2.2.2.1), .int ((sWe T2).2.2.2.2), .int 100, .int 0, .int 0, .int 0, .int 0])) := hb_o100
    refine r_iload X 0 d_Law_isDriven_265 rfl ?_
    refine r_iconst X 5 d_Law_isDriven_267 (by decide) ?_
    refine r_icmp_ge X 318 d_Law_isDriven_268 (by decide) (fun h9 => absurd h9 (nI_ge (b := 5) (by omega) (by decide))) (fun _ => ?_)
    refine r_iload X 2 d_Law_isDriven_271 rfl ?_
    by_cases hb0 : 0 < bst
    · refine r_if_le X 318 d_Law_isDriven_273 (by decide) (fun h9 => absurd h9 (Int32.not_le.mpr (nI_lt (a := 0) hb0 hbs))) (fun _ => ?_)
      refine r_aload_n X 4 d_Law_isDriven_276 rfl rfl ?_
      refine r_iload X 0 d_Law_isDriven_277 rfl ?_
      refine r_iconst X 3 d_Law_isDriven_279 (by decide) ?_
      obtain ⟨J_101, hC_101⟩ := TB_ct hL.1
      have hC_101 : shC 192 c = cont cy (shA 192 ad) T J_101 := hC_101
      refine r_Vi X W0_good hN (As := [.int (nI i), .int 3]) (ct_i 192 (S' := T) (v := (sRc T i).2.2.2.1) hC_101 (c_G_ofRoad l D cy (shA 192 ad) T J_101 hS i 3 (by omega) (by decide)) (fun r a c' h => ⟨h.1, h.2.1, _, h.2.2⟩)) yv_G_ofRoad m_Law_53 (ct_obj hC_101) k_G.2.1 rfl rfl rfl ⟨by decide, by decide⟩ (Nat.le_of_ble_eq_true rfl) ⟨(by show cells + 0 ≤ 1; omega), (by show slots + 0 ≤ 6; omega)⟩ d_Law_isDriven_280 (fun r9_101 ad9_101 c_101 hp9 => ?_)
      obtain ⟨hr_101, rfl, hf_101, Jn_101, hD_101⟩ := hp9
      subst hr_101
      have hL_101 := LB_t hL (wf_2 hS2) (S' := T) rfl hf_101 hD_101
      obtain ⟨⟨w4_t102, w5_t102, w7_t102, hb_t102⟩, -⟩ := id hL_101.1
      have hb_t102 : c_101 128 = some (.inr (6, [.ref (ad 192), .ref b9, .int d1, .ref (ad 129), w4_t102, w5_t102, .ref (ad 130), w7_t102, .int (nI (sNr T)), .int (nI (sNl T)), .int 0, .int ((sWe T).1), .int ((sWe T).2.1), .int ((sWe T).2.2.1), .int ((sWe T).2.2.2.1), .int ((sWe T).2.2.2.2), .int 100, .int 0, .int 0, .int 0, .int 0])) := hb_t102
      obtain ⟨⟨w4_o102, w5_o102, w7_o102, hb_o102⟩, -⟩ := id hL_101.2.1
      have hb_o102 : c_101 256 = some (.inr (6, [.ref (ad 320), .ref b9, .int d2, .ref (ad 257), w4_o102, w5_o102, .ref (ad 258), w7_o102, .int (nI (sNr T2)), .int (nI (sNl T2)), .int 0, .int ((sWe T2).1), .int ((sWe T2).2.1), .int ((sWe T2).2.2.1), .int ((sWe T2).2.2.2.1), .int ((sWe T2).2.2.2.2), .int 100, .int 0, .int 0, .int 0, .int 0])) := hb_o102
      by_cases hcl : (sRc T i).2.2.2.1 = 0
      · refine r_if_ne X 312 d_Law_isDriven_283 (by decide) (fun h9 => absurd hcl h9) (fun _ => ?_)
        refine r_iload X 1 d_Law_isDriven_286 rfl ?_
        by_cases hl0 : 0 < len
        · obtain ⟨x9, x1, x2, x3⟩ := hcov hb0 hl0 i (by omega) hcl
          refine r_if_le X 312 d_Law_isDriven_288 (by decide) (fun h9 => absurd h9 (Int32.not_le.mpr (nI_lt (a := 0) hl0 (by omega)))) (fun _ => ?_)
          refine r_aload_n X 4 d_Law_isDriven_291 rfl rfl ?_
          refine r_iconst X 1 d_Law_isDriven_292 (by decide) ?_
          obtain ⟨J_103, hC_103⟩ := TB_ct hL_101.1
          have hC_103 : shC 192 c_101 = cont cy (shA 192 ad) T J_103 := hC_103
          refine r_Vi X W0_good hN (As := [.int 1]) (ct_i 192 (S' := T) (v := sNow T) hC_103 (c_G_many l D cy (shA 192 ad) T J_103 hS 1 (by decide)) (fun r a c' h => ⟨h.1, h.2.1, _, h.2.2⟩)) yv_G_many m_Law_76 (ct_obj hC_103) k_G.2.1 rfl rfl rfl ⟨by decide, by decide⟩ (Nat.le_of_ble_eq_true rfl) ⟨(by show cells + 0 ≤ 1; omega), (by show slots + 0 ≤ 6; omega)⟩ d_Law_isDriven_293 (fun r9_103 ad9_103 c_103 hp9 => ?_)
          obtain ⟨hr_103, rfl, hf_103, Jn_103, hD_103⟩ := hp9
          subst hr_103
          have hL_103 := LB_t hL_101 (wf_2 hS2) (S' := T) rfl hf_103 hD_103
          obtain ⟨⟨w4_t104, w5_t104, w7_t104, hb_t104⟩, -⟩ := id hL_103.1
          have hb_t104 : c_103 128 = some (.inr (6, [.ref (ad 192), .ref b9, .int d1, .ref (ad 129), w4_t104, w5_t104, .ref (ad 130), w7_t104, .int (nI (sNr T)), .int (nI (sNl T)), .int 0, .int ((sWe T).1), .int ((sWe T).2.1), .int ((sWe T).2.2.1), .int ((sWe T).2.2.2.1), .int ((sWe T).2.2.2.2), .int 100, .int 0, .int 0, .int 0, .int 0])) := hb_t104
          obtain ⟨⟨w4_o104, w5_o104, w7_o104, hb_o104⟩, -⟩ := id hL_103.2.1
          have hb_o104 : c_103 256 = some (.inr (6, [.ref (ad 320), .ref b9, .int d2, .ref (ad 257), w4_o104, w5_o104, .ref (ad 258), w7_o104, .int (nI (sNr T2)), .int (nI (sNl T2)), .int 0, .int ((sWe T2).1), .int ((sWe T2).2.1), .int ((sWe T2).2.2.1), .int ((sWe T2).2.2.2.1), .int ((sWe T2).2.2.2.2), .int 100, .int 0, .int 0, .int 0, .int 0])) := hb_o104
          refine r_aload_n X 4 d_Law_isDriven_296 rfl rfl ?_
          refine r_iload X 0 d_Law_isDriven_297 rfl ?_
          refine r_bipush X 14 d_Law_isDriven_299 (by decide) ?_
          obtain ⟨J_105, hC_105⟩ := TB_ct hL_103.1
          have hC_105 : shC 192 c_103 = cont cy (shA 192 ad) T J_105 := hC_105
          refine r_Vi X W0_good hN (As := [.int (nI i), .int 14]) (ct_i 192 (S' := T) (v := las (sRc T i)) hC_105 (c_G_ofRoad l D cy (shA 192 ad) T J_105 hS i 14 (by omega) (by decide)) (fun r a c' h => ⟨h.1, h.2.1, _, h.2.2⟩)) yv_G_ofRoad m_Law_53 (ct_obj hC_105) k_G.2.1 rfl rfl rfl ⟨by decide, by decide⟩ (Nat.le_of_ble_eq_true rfl) ⟨(by show cells + 0 ≤ 1; omega), (by show slots + 0 ≤ 6; omega)⟩ d_Law_isDriven_301 (fun r9_105 ad9_105 c_105 hp9 => ?_)
          obtain ⟨hr_105, rfl, hf_105, Jn_105, hD_105⟩ := hp9
          subst hr_105
          have hL_105 := LB_t hL_103 (wf_2 hS2) (S' := T) rfl hf_105 hD_105
          obtain ⟨⟨w4_t106, w5_t106, w7_t106, hb_t106⟩, -⟩ := id hL_105.1
          have hb_t106 : c_105 128 = some (.inr (6, [.ref (ad 192), .ref b9, .int d1, .ref (ad 129), w4_t106, w5_t106, .ref (ad 130), w7_t106, .int (nI (sNr T)), .int (nI (sNl T)), .int 0, .int ((sWe T).1), .int ((sWe T).2.1), .int ((sWe T).2.2.1), .int ((sWe T).2.2.2.1), .int ((sWe T).2.2.2.2), .int 100, .int 0, .int 0, .int 0, .int 0])) := hb_t106
          obtain ⟨⟨w4_o106, w5_o106, w7_o106, hb_o106⟩, -⟩ := id hL_105.2.1
          have hb_o106 : c_105 256 = some (.inr (6, [.ref (ad 320), .ref b9, .int d2, .ref (ad 257), w4_o106, w5_o106, .ref (ad 258), w7_o106, .int (nI (sNr T2)), .int (nI (sNl T2)), .int 0, .int ((sWe T2).1), .int ((sWe T2).2.1), .int ((sWe T2).2.2.1), .int ((sWe T2).2.2.2.1), .int ((sWe T2).2.2.2.2), .int 100, .int 0, .int 0, .int 0, .int 0])) := hb_o106
          refine r_isub X d_Law_isDriven_304 ?_
          refine r_top (y := nI (t + len - x9)) (by rw [hnow, x3]; exact nI_dif (by omega)) ?_
          refine r_iload X 1 d_Law_isDriven_305 rfl ?_
          refine r_icmp_lt X 312 d_Law_isDriven_307 (by decide) (fun _ => ?_) (fun h9 => absurd (nI_lt (by omega) (by omega)) h9)
          refine r_iinc X 0 [(8, .int (nI (i + 1))), (7, .int (nI len)), (4, .int (nI bst)), (3, .int (nI v)), (2, .ref (ad 192)), (1, .ref (ad 256)), (0, .ref (ad 128))] d_Law_isDriven_312 rfl (nI_1 i) (by decide) rfl ?_
          refine r_goto X 265 d_Law_isDriven_315 (by decide) ?_
          refine r_lv [0, 1, 2, 3, 4, 5, 6] [(8, .int (nI (i + 1))), (7, .int (nI len)), (4, .int (nI bst)), (3, .int (nI v)), (2, .ref (ad 192)), (1, .ref (ad 256)), (0, .ref (ad 128))] rfl ?_
          exact ih (i + 1) c_105 (by omega) hL_105
        · refine r_if_le X 312 d_Law_isDriven_288 (by decide) (fun _ => ?_) (fun h9 => absurd (nI_le (b := 0) (by omega) (by decide)) h9)
          refine r_iinc X 0 [(8, .int (nI (i + 1))), (7, .int (nI len)), (4, .int (nI bst)), (3, .int (nI v)), (2, .ref (ad 192)), (1, .ref (ad 256)), (0, .ref (ad 128))] d_Law_isDriven_312 rfl (nI_1 i) (by decide) rfl ?_
          refine r_goto X 265 d_Law_isDriven_315 (by decide) ?_
          refine r_lv [0, 1, 2, 3, 4, 5, 6] [(8, .int (nI (i + 1))), (7, .int (nI len)), (4, .int (nI bst)), (3, .int (nI v)), (2, .ref (ad 192)), (1, .ref (ad 256)), (0, .ref (ad 128))] rfl ?_
          exact ih (i + 1) c_101 (by omega) hL_101
      · refine r_if_ne X 312 d_Law_isDriven_283 (by decide) (fun _ => ?_) (fun h9 => absurd h9 hcl)
        refine r_iinc X 0 [(8, .int (nI (i + 1))), (7, .int (nI len)), (4, .int (nI bst)), (3, .int (nI v)), (2, .ref (ad 192)), (1, .ref (ad 256)), (0, .ref (ad 128))] d_Law_isDriven_312 rfl (nI_1 i) (by decide) rfl ?_
        refine r_goto X 265 d_Law_isDriven_315 (by decide) ?_
        refine r_lv [0, 1, 2, 3, 4, 5, 6] [(8, .int (nI (i + 1))), (7, .int (nI len)), (4, .int (nI bst)), (3, .int (nI v)), (2, .ref (ad 192)), (1, .ref (ad 256)), (0, .ref (ad 128))] rfl ?_
        exact ih (i + 1) c_101 (by omega) hL_101
    · refine r_if_le X 318 d_Law_isDriven_273 (by decide) (fun _ => ?_) (fun h9 => absurd (nI_le (b := 0) (by omega) (by decide)) h9)
      refine r_lv [2, 3, 4, 5, 6] [(4, .int (nI bst)), (3, .int (nI v)), (2, .ref (ad 192)), (1, .ref (ad 256)), (0, .ref (ad 128))] rfl ?_
      exact kk c hL
set_option maxRecDepth 100000 in
set_option maxHeartbeats 4000000 in
theorem id_5 {p : Program} {l : Launch} {e : Env} {s : State} {m : MethodId} {args : Array Value} {below : List Frame} {meth : Method} {cd : Code} {b9 : Nat} {D : va_G} {cy : Nat → ClassId} {A : Nat → Prop} {Q : State → Prop} {cells slots : Nat} {d1 d2 : Int32} {bst v : Nat} (X : rX p s m args cd b_Law_isDriven 12 R_Law W0 D cls (TY cy) A) (hN : rN NW s) (hc1 : cells ≤ 1) (hc2 : slots ≤ 6) {ad : Nat → Nat} {T T1 : cS} {t len : Nat} (hS : wfS T) (hS1 : wfS T1) (hnow : sNow T = nI t) (htl : t + len < 200)
    (kk : ∀ c' : rC, LB cy b9 (fun _ => none) T1 (psF T t len) d1 d2 ad c' → rW p l e { frames := 7, cells := 1, slots := 6, locals := 166 } s m args below meth cd 12 D cls A cells slots Q ad c' 235 [(7, .int (nI len)), (4, .int (nI bst)), (3, .int (nI v)), (2, .ref (ad 192)), (1, .ref (ad 256)), (0, .ref (ad 128))] []) : ∀ (n i : Nat) (c : rC), i + n = len → LB cy b9 (fun _ => none) T1 (psF T t i) d1 d2 ad c → rW p l e { frames := 7, cells := 1, slots := 6, locals := 166 } s m args below meth cd 12 D cls A cells slots Q ad c 213 [(8, .int (nI i)), (7, .int (nI len)), (4, .int (nI bst)), (3, .int (nI v)), (2, .ref (ad 192)), (1, .ref (ad 256)), (0, .ref (ad 128))] [] := by
  intro n
  induction n with
  | zero =>
    intro i c hi hL
    obtain rfl : i = len := by omega
    obtain ⟨⟨w4_t0, w5_t0, w7_t0, hb_t0⟩, -⟩ := id hL.1
    have hb_t0 : c 128 = some (.inr (6, [.ref (ad 192), .ref b9, .int d1, .ref (ad 129), w4_t0, w5_t0, .ref (ad 130), w7_t0, .int (nI (sNr T1)), .int (nI (sNl T1)), .int 0, .int ((sWe T1).1), .int ((sWe T1).2.1), .int ((sWe T1).2.2.1), .int ((sWe T1).2.2.2.1), .int ((sWe T1).2.2.2.2), .int 100, .int 0, .int 0, .int 0, .int 0])) := hb_t0
    obtain ⟨⟨w4_o0, w5_o0, w7_o0, hb_o0⟩, -⟩ := id hL.2.1
    have hb_o0 : c 256 = some (.inr (6, [.ref (ad 320), .ref b9, .int d2, .ref (ad 257), w4_o0, w5_o0, .ref (ad 258), w7_o0, .int (nI (sNr (psF T t i))), .int (nI (sNl (psF T t i))), .int 0, .int ((sWe (psF T t i)).1), .int ((sWe (psF T t i)).2.1), .int ((sWe (psF T t i)).2.2.1), .int ((sWe (psF T t i)).2.2.2.1), .int ((sWe (psF T t i)).2.2.2.2), .int 100, .int 0, .int 0, .int 0, .int 0])) := hb_o0
    refine r_iload X 0 d_Law_isDriven_213 rfl ?_
    refine r_iload X 1 d_Law_isDriven_215 rfl ?_
    refine r_icmp_ge X 235 d_Law_isDriven_217 (by decide) (fun _ => ?_) (fun h9 => absurd (Int32.le_refl _) h9)
    refine r_lv [1, 2, 3, 4, 5, 6] [(7, .int (nI i)), (4, .int (nI bst)), (3, .int (nI v)), (2, .ref (ad 192)), (1, .ref (ad 256)), (0, .ref (ad 128))] rfl ?_
    exact kk c hL
  | succ n ih =>
    intro i c hi hL
    obtain ⟨⟨w4_t100, w5_t100, w7_t100, hb_t100⟩, -⟩ := id hL.1
    have hb_t100 : c 128 = some (.inr (6, [.ref (ad 192), .ref b9, .int d1, .ref (ad 129), w4_t100, w5_t100, .ref (ad 130), w7_t100, .int (nI (sNr T1)), .int (nI (sNl T1)), .int 0, .int ((sWe T1).1), .int ((sWe T1).2.1), .int ((sWe T1).2.2.1), .int ((sWe T1).2.2.2.1), .int ((sWe T1).2.2.2.2), .int 100, .int 0, .int 0, .int 0, .int 0])) := hb_t100
    obtain ⟨⟨w4_o100, w5_o100, w7_o100, hb_o100⟩, -⟩ := id hL.2.1
    have hb_o100 : c 256 = some (.inr (6, [.ref (ad 320), .ref b9, .int d2, .ref (ad 257), w4_o100, w5_o100, .ref (ad 258), w7_o100, .int (nI (sNr (psF T t i))), .int (nI (sNl (psF T t i))), .int 0, .int ((sWe (psF T t i)).1), .int ((sWe (psF T t i)).2.1), .int ((sWe (psF T t i)).2.2.1), .int ((sWe (psF T t i)).2.2.2.1), .int ((sWe (psF T t i)).2.2.2.2), .int 100, .int 0, .int 0, .int 0, .int 0])) := hb_o100
    refine r_iload X 0 d_Law_isDriven_213 rfl ?_
    refine r_iload X 1 d_Law_isDriven_215 rfl ?_
    refine r_icmp_ge X 235 d_Law_isDriven_217 (by decide) (fun h9 => absurd h9 (nI_ge (by omega) (by omega))) (fun _ => ?_)
    refine r_aload_n X 5 d_Law_isDriven_220 rfl rfl ?_
    refine r_get X k_Told 0 (by decide) f_Law_14 rfl hb_o100 rfl d_Law_isDriven_221 ?_
    refine r_iconst X 1 d_Law_isDriven_224 (by decide) ?_
    obtain ⟨J_101, hC_101⟩ := TB_ct hL.2.1
    have hC_101 : shC 320 c = cont cy (shA 320 ad) (psF T t i) J_101 := hC_101
    refine r_Vi X W0_good hN (As := [.int 1]) (ct_i 320 (S' := psF T t (i + 1)) (v := spF (psF T t i) (t + i) 1) hC_101 (c_G_pass l D cy (shA 320 ad) (psF T t i) J_101 (wf_ps hS htl i (by omega)) (t + i) 1 (by decide) (by decide) (by omega) (now_ps hnow i)) (fun r a c' h => ⟨h.1, h.2.1, _, h.2.2⟩)) yv_G_pass m_Law_56 (ct_obj hC_101) k_G.2.1 rfl rfl rfl ⟨by decide, by decide⟩ (Nat.le_of_ble_eq_true rfl) ⟨(by show cells + 0 ≤ 1; omega), (by show slots + 0 ≤ 6; omega)⟩ d_Law_isDriven_225 (fun r9_101 ad9_101 c_101 hp9 => ?_)
    obtain ⟨hr_101, rfl, hf_101, Jn_101, hD_101⟩ := hp9
    subst hr_101
    have hL_101 := LB_o hL (wf_2 hS1) (S' := psF T t (i + 1)) ((tr_ps (i + 1)).trans (tr_ps i).symm) hf_101 hD_101
    obtain ⟨⟨w4_t102, w5_t102, w7_t102, hb_t102⟩, -⟩ := id hL_101.1
    have hb_t102 : c_101 128 = some (.inr (6, [.ref (ad 192), .ref b9, .int d1, .ref (ad 129), w4_t102, w5_t102, .ref (ad 130), w7_t102, .int (nI (sNr T1)), .int (nI (sNl T1)), .int 0, .int ((sWe T1).1), .int ((sWe T1).2.1), .int ((sWe T1).2.2.1), .int ((sWe T1).2.2.2.1), .int ((sWe T1).2.2.2.2), .int 100, .int 0, .int 0, .int 0, .int 0])) := hb_t102
    obtain ⟨⟨w4_o102, w5_o102, w7_o102, hb_o102⟩, -⟩ := id hL_101.2.1
    have hb_o102 : c_101 256 = some (.inr (6, [.ref (ad 320), .ref b9, .int d2, .ref (ad 257), w4_o102, w5_o102, .ref (ad 258), w7_o102, .int (nI (sNr (psF T t (i + 1)))), .int (nI (sNl (psF T t (i + 1)))), .int 0, .int ((sWe (psF T t (i + 1))).1), .int ((sWe (psF T t (i + 1))).2.1), .int ((sWe (psF T t (i + 1))).2.2.1), .int ((sWe (psF T t (i + 1))).2.2.2.1), .int ((sWe (psF T t (i + 1))).2.2.2.2), .int 100, .int 0, .int 0, .int 0, .int 0])) := hb_o102
    refine r_pop X d_Law_isDriven_228 rfl ?_
    refine r_iinc X 0 [(8, .int (nI (i + 1))), (7, .int (nI len)), (4, .int (nI bst)), (3, .int (nI v)), (2, .ref (ad 192)), (1, .ref (ad 256)), (0, .ref (ad 128))] d_Law_isDriven_229 rfl (nI_1 i) (by decide) rfl ?_
    refine r_goto X 213 d_Law_isDriven_232 (by decide) ?_
    refine r_lv [0, 1, 2, 3, 4, 5, 6] [(8, .int (nI (i + 1))), (7, .int (nI len)), (4, .int (nI bst)), (3, .int (nI v)), (2, .ref (ad 192)), (1, .ref (ad 256)), (0, .ref (ad 128))] rfl ?_
    exact ih (i + 1) c_101 (by omega) hL_101
set_option maxRecDepth 100000 in
set_option maxHeartbeats 4000000 in
theorem id_4 {p : Program} {l : Launch} {e : Env} {s : State} {m : MethodId} {args : Array Value} {below : List Frame} {meth : Method} {cd : Code} {b9 : Nat} {D : va_G} {cy : Nat → ClassId} {A : Nat → Prop} {Q : State → Prop} {cells slots : Nat} {d1 d2 : Int32} {bst v : Nat} (X : rX p s m args cd b_Law_isDriven 12 R_Law W0 D cls (TY cy) A) (hN : rN NW s) (hc1 : cells ≤ 1) (hc2 : slots ≤ 6) {ad : Nat → Nat} {T T2 : cS} {t len : Nat} (hS : wfS T) (hS2 : wfS T2) (hnow : sNow T = nI t) (htl : t + len < 200) (hl24 : len ≤ 24)
    (kk : ∀ c' : rC, LB cy b9 (fun _ => none) (psF T t len) T2 d1 d2 ad c' → rW p l e { frames := 7, cells := 1, slots := 6, locals := 166 } s m args below meth cd 12 D cls A cells slots Q ad c' 210 [(7, .int (nI len)), (4, .int (nI bst)), (3, .int (nI v)), (2, .ref (ad 192)), (1, .ref (ad 256)), (0, .ref (ad 128))] []) : ∀ (n i : Nat) (x : Int32) (c : rC), i ≤ len → len ≤ i + n → (i < len → x = nI (len - i)) → (i = len → x ≤ 0) → LB cy b9 (fun _ => none) (psF T t i) T2 d1 d2 ad c → rW p l e { frames := 7, cells := 1, slots := 6, locals := 166 } s m args below meth cd 12 D cls A cells slots Q ad c 188 [(8, .int x), (7, .int (nI len)), (4, .int (nI bst)), (3, .int (nI v)), (2, .ref (ad 192)), (1, .ref (ad 256)), (0, .ref (ad 128))] [] := by
  intro n
  induction n with
  | zero =>
    intro i x c hi hn hx hx0 hL
    obtain rfl : i = len := by omega
    have hx0 := hx0 rfl
    obtain ⟨⟨w4_t0, w5_t0, w7_t0, hb_t0⟩, -⟩ := id hL.1
    have hb_t0 : c 128 = some (.inr (6, [.ref (ad 192), .ref b9, .int d1, .ref (ad 129), w4_t0, w5_t0, .ref (ad 130), w7_t0, .int (nI (sNr (psF T t i))), .int (nI (sNl (psF T t i))), .int 0, .int ((sWe (psF T t i)).1), .int ((sWe (psF T t i)).2.1), .int ((sWe (psF T t i)).2.2.1), .int ((sWe (psF T t i)).2.2.2.1), .int ((sWe (psF T t i)).2.2.2.2), .int 100, .int 0, .int 0, .int 0, .int 0])) := hb_t0
    obtain ⟨⟨w4_o0, w5_o0, w7_o0, hb_o0⟩, -⟩ := id hL.2.1
    have hb_o0 : c 256 = some (.inr (6, [.ref (ad 320), .ref b9, .int d2, .ref (ad 257), w4_o0, w5_o0, .ref (ad 258), w7_o0, .int (nI (sNr T2)), .int (nI (sNl T2)), .int 0, .int ((sWe T2).1), .int ((sWe T2).2.1), .int ((sWe T2).2.2.1), .int ((sWe T2).2.2.2.1), .int ((sWe T2).2.2.2.2), .int 100, .int 0, .int 0, .int 0, .int 0])) := hb_o0
    refine r_iload X 0 d_Law_isDriven_188 rfl ?_
    refine r_if_le X 210 d_Law_isDriven_190 (by decide) (fun _ => ?_) (fun h9 => absurd hx0 h9)
    refine r_lv [1, 2, 3, 4, 5, 6] [(7, .int (nI i)), (4, .int (nI bst)), (3, .int (nI v)), (2, .ref (ad 192)), (1, .ref (ad 256)), (0, .ref (ad 128))] rfl ?_
    exact kk c hL
  | succ n ih =>
    intro i x c hi hn hx hx0 hL
    rcases Nat.lt_or_ge i len with hlt | hge
    rotate_left
    · obtain rfl : i = len := by omega
      have hx0 := hx0 rfl
      obtain ⟨⟨w4_t50, w5_t50, w7_t50, hb_t50⟩, -⟩ := id hL.1
      have hb_t50 : c 128 = some (.inr (6, [.ref (ad 192), .ref b9, .int d1, .ref (ad 129), w4_t50, w5_t50, .ref (ad 130), w7_t50, .int (nI (sNr (psF T t i))), .int (nI (sNl (psF T t i))), .int 0, .int ((sWe (psF T t i)).1), .int ((sWe (psF T t i)).2.1), .int ((sWe (psF T t i)).2.2.1), .int ((sWe (psF T t i)).2.2.2.1), .int ((sWe (psF T t i)).2.2.2.2), .int 100, .int 0, .int 0, .int 0, .int 0])) := hb_t50
      obtain ⟨⟨w4_o50, w5_o50, w7_o50, hb_o50⟩, -⟩ := id hL.2.1
      have hb_o50 : c 256 = some (.inr (6, [.ref (ad 320), .ref b9, .int d2, .ref (ad 257), w4_o50, w5_o50, .ref (ad 258), w7_o50, .int (nI (sNr T2)), .int (nI (sNl T2)), .int 0, .int ((sWe T2).1), .int ((sWe T2).2.1), .int ((sWe T2).2.2.1), .int ((sWe T2).2.2.2.1), .int ((sWe T2).2.2.2.2), .int 100, .int 0, .int 0, .int 0, .int 0])) := hb_o50
      refine r_iload X 0 d_Law_isDriven_188 rfl ?_
      refine r_if_le X 210 d_Law_isDriven_190 (by decide) (fun _ => ?_) (fun h9 => absurd hx0 h9)
      refine r_lv [1, 2, 3, 4, 5, 6] [(7, .int (nI i)), (4, .int (nI bst)), (3, .int (nI v)), (2, .ref (ad 192)), (1, .ref (ad 256)), (0, .ref (ad 128))] rfl ?_
      exact kk c hL
    · obtain rfl := hx hlt
      obtain ⟨⟨w4_t100, w5_t100, w7_t100, hb_t100⟩, -⟩ := id hL.1
      have hb_t100 : c 128 = some (.inr (6, [.ref (ad 192), .ref b9, .int d1, .ref (ad 129), w4_t100, w5_t100, .ref (ad 130), w7_t100, .int (nI (sNr (psF T t i))), .int (nI (sNl (psF T t i))), .int 0, .int ((sWe (psF T t i)).1), .int ((sWe (psF T t i)).2.1), .int ((sWe (psF T t i)).2.2.1), .int ((sWe (psF T t i)).2.2.2.1), .int ((sWe (psF T t i)).2.2.2.2), .int 100, .int 0, .int 0, .int 0, .int 0])) := hb_t100
      obtain ⟨⟨w4_o100, w5_o100, w7_o100, hb_o100⟩, -⟩ := id hL.2.1
      have hb_o100 : c 256 = some (.inr (6, [.ref (ad 320), .ref b9, .int d2, .ref (ad 257), w4_o100, w5_o100, .ref (ad 258), w7_o100, .int (nI (sNr T2)), .int (nI (sNl T2)), .int 0, .int ((sWe T2).1), .int ((sWe T2).2.1), .int ((sWe T2).2.2.1), .int ((sWe T2).2.2.2.1), .int ((sWe T2).2.2.2.2), .int 100, .int 0, .int 0, .int 0, .int 0])) := hb_o100
      have hk : ∃ k, 1 ≤ k ∧ k ≤ 4 ∧ k ≤ len - i ∧ (len - i ≤ 4 → k = len - i) ∧ (4 < len - i → k = 4) ∧ (if nI (len - i) < 4 then nI (len - i) else 4) = nI k := by
        by_cases h : len - i < 4
        · exact ⟨len - i, by omega, by omega, by omega, fun _ => rfl, fun _ => by omega, if_pos (nI_lt (b := 4) h (by decide))⟩
        · exact ⟨4, by decide, by decide, by omega, fun _ => by omega, fun _ => rfl, if_neg (nI_nlt (b := 4) (by omega) (by omega))⟩
      obtain ⟨k, k1, k2, k3, k4, k5, hk⟩ := hk
      refine r_iload X 0 d_Law_isDriven_188 rfl ?_
      refine r_if_le X 210 d_Law_isDriven_190 (by decide) (fun h9 => absurd h9 (Int32.not_le.mpr (nI_lt (a := 0) (by omega) (by omega)))) (fun _ => ?_)
      refine r_aload_n X 4 d_Law_isDriven_193 rfl rfl ?_
      refine r_iconst X 4 d_Law_isDriven_194 (by decide) ?_
      refine r_iload X 0 d_Law_isDriven_195 rfl ?_
      refine r_min X m_Law_71 s_min i_Math cd_min ⟨by decide, by decide, (by show cells ≤ 1; omega), (by show slots ≤ 6; omega)⟩ (Nat.le_of_ble_eq_true rfl) d_Law_isDriven_197 ?_
      refine r_top (y := nI k) hk ?_
      obtain ⟨J_101, hC_101⟩ := TB_ct hL.1
      have hC_101 : shC 192 c = cont cy (shA 192 ad) (psF T t i) J_101 := hC_101
      refine r_Vi X W0_good hN (As := [.int (nI k)]) (ct_i 192 (S' := psF T t (i + k)) (v := spF (psF T t i) (t + i) k) hC_101 (c_G_pass l D cy (shA 192 ad) (psF T t i) J_101 (wf_ps hS htl i (by omega)) (t + i) k k1 (by omega) (by omega) (now_ps hnow i)) (fun r a c' h => ⟨h.1, h.2.1, _, (by rw [ps_add]; exact h.2.2)⟩)) yv_G_pass m_Law_56 (ct_obj hC_101) k_G.2.1 rfl rfl rfl ⟨by decide, by decide⟩ (Nat.le_of_ble_eq_true rfl) ⟨(by show cells + 0 ≤ 1; omega), (by show slots + 0 ≤ 6; omega)⟩ d_Law_isDriven_200 (fun r9_101 ad9_101 c_101 hp9 => ?_)
      obtain ⟨hr_101, rfl, hf_101, Jn_101, hD_101⟩ := hp9
      subst hr_101
      have hL_101 := LB_t hL (wf_2 hS2) (S' := psF T t (i + k)) ((tr_ps (i + k)).trans (tr_ps i).symm) hf_101 hD_101
      obtain ⟨⟨w4_t102, w5_t102, w7_t102, hb_t102⟩, -⟩ := id hL_101.1
      have hb_t102 : c_101 128 = some (.inr (6, [.ref (ad 192), .ref b9, .int d1, .ref (ad 129), w4_t102, w5_t102, .ref (ad 130), w7_t102, .int (nI (sNr (psF T t (i + k)))), .int (nI (sNl (psF T t (i + k)))), .int 0, .int ((sWe (psF T t (i + k))).1), .int ((sWe (psF T t (i + k))).2.1), .int ((sWe (psF T t (i + k))).2.2.1), .int ((sWe (psF T t (i + k))).2.2.2.1), .int ((sWe (psF T t (i + k))).2.2.2.2), .int 100, .int 0, .int 0, .int 0, .int 0])) := hb_t102
      obtain ⟨⟨w4_o102, w5_o102, w7_o102, hb_o102⟩, -⟩ := id hL_101.2.1
      have hb_o102 : c_101 256 = some (.inr (6, [.ref (ad 320), .ref b9, .int d2, .ref (ad 257), w4_o102, w5_o102, .ref (ad 258), w7_o102, .int (nI (sNr T2)), .int (nI (sNl T2)), .int 0, .int ((sWe T2).1), .int ((sWe T2).2.1), .int ((sWe T2).2.2.1), .int ((sWe T2).2.2.2.1), .int ((sWe T2).2.2.2.2), .int 100, .int 0, .int 0, .int 0, .int 0])) := hb_o102
      refine r_pop X d_Law_isDriven_203 rfl ?_
      refine r_iinc X 0 [(8, .int ((nI (len - i)) + (-4))), (7, .int (nI len)), (4, .int (nI bst)), (3, .int (nI v)), (2, .ref (ad 192)), (1, .ref (ad 256)), (0, .ref (ad 128))] d_Law_isDriven_204 rfl rfl (by decide) rfl ?_
      refine r_goto X 188 d_Law_isDriven_207 (by decide) ?_
      refine r_lv [0, 1, 2, 3, 4, 5, 6] [(8, .int ((nI (len - i)) + (-4))), (7, .int (nI len)), (4, .int (nI bst)), (3, .int (nI v)), (2, .ref (ad 192)), (1, .ref (ad 256)), (0, .ref (ad 128))] rfl ?_
      exact ih (i + k) _ c_101 (by omega) (by omega) (fun hh => (nI_m4 (len - i) (by omega) (by omega)).trans (by rw [show len - i - 4 = len - (i + k) by omega])) (fun hh => nI_m4' (len - i) (by omega)) hL_101
set_option maxRecDepth 100000 in
set_option maxHeartbeats 4000000 in
theorem id_3 {p : Program} {l : Launch} {e : Env} {s : State} {m : MethodId} {args : Array Value} {below : List Frame} {meth : Method} {cd : Code} {b9 : Nat} {D : va_G} {cy : Nat → ClassId} {A : Nat → Prop} {Q : State → Prop} {cells slots : Nat} {d1 d2 : Int32} {bst v : Nat} (X : rX p s m args cd b_Law_isDriven 12 R_Law W0 D cls (TY cy) A) (hN : rN NW s) (hc1 : cells ≤ 1) (hc2 : slots ≤ 6) {ad : Nat → Nat} {S : cS} {r : List Nat} {g : Nat → Nat} {n : Nat} {f : Nat → Int32} {ah : Int32} (hS : wfS S) (hS5 : sNr S = 5) (hLa : Lat S [] (nI v) ah 0 0) (hn : r.length = n) (hn6 : n ≤ 6) (hr : ∀ d ∈ r, d < 5) (hg : ∀ i, i < 5 → (sRc S i).2.2.1 = nI (g i) ∧ 0 < g i ∧ g i ≤ 4) (hf : ∀ j, j < n → f j = nI (r.getD j 0))
    (kk : ∀ c' : rC, LB cy b9 (va_up (fun _ => none) 5 (some (iE (cy 0) n f))) (oS S r n) (oS S r n) d1 d2 ad c' → rW p l e { frames := 7, cells := 1, slots := 6, locals := 166 } s m args below meth cd 12 D cls A cells slots Q ad c' 175 [(7, .int (nI (lP g r n))), (5, .int (nI n)), (4, .int (nI bst)), (3, .int (nI v)), (2, .ref (ad 192)), (1, .ref (ad 256)), (0, .ref (ad 128))] []) : ∀ (q i : Nat) (c : rC), i + q = n → LB cy b9 (va_up (fun _ => none) 5 (some (iE (cy 0) n f))) (oS S r i) (oS S r i) d1 d2 ad c → rW p l e { frames := 7, cells := 1, slots := 6, locals := 166 } s m args below meth cd 12 D cls A cells slots Q ad c 124 [(10, .int (nI i)), (9, .int (nI n)), (8, .ref (ad 5)), (7, .int (nI (lP g r i))), (6, .ref (ad 5)), (5, .int (nI n)), (4, .int (nI bst)), (3, .int (nI v)), (2, .ref (ad 192)), (1, .ref (ad 256)), (0, .ref (ad 128))] [] := by
  intro q
  induction q with
  | zero =>
    intro i c hi hL
    obtain rfl : i = n := by omega
    obtain ⟨⟨w4_t0, w5_t0, w7_t0, hb_t0⟩, -⟩ := id hL.1
    have hb_t0 : c 128 = some (.inr (6, [.ref (ad 192), .ref b9, .int d1, .ref (ad 129), w4_t0, w5_t0, .ref (ad 130), w7_t0, .int (nI (sNr (oS S r i))), .int (nI (sNl (oS S r i))), .int 0, .int ((sWe (oS S r i)).1), .int ((sWe (oS S r i)).2.1), .int ((sWe (oS S r i)).2.2.1), .int ((sWe (oS S r i)).2.2.2.1), .int ((sWe (oS S r i)).2.2.2.2), .int 100, .int 0, .int 0, .int 0, .int 0])) := hb_t0
    obtain ⟨⟨w4_o0, w5_o0, w7_o0, hb_o0⟩, -⟩ := id hL.2.1
    have hb_o0 : c 256 = some (.inr (6, [.ref (ad 320), .ref b9, .int d2, .ref (ad 257), w4_o0, w5_o0, .ref (ad 258), w7_o0, .int (nI (sNr (oS S r i))), .int (nI (sNl (oS S r i))), .int 0, .int ((sWe (oS S r i)).1), .int ((sWe (oS S r i)).2.1), .int ((sWe (oS S r i)).2.2.1), .int ((sWe (oS S r i)).2.2.2.1), .int ((sWe (oS S r i)).2.2.2.2), .int 100, .int 0, .int 0, .int 0, .int 0])) := hb_o0
    refine r_iload X 0 d_Law_isDriven_124 rfl ?_
    refine r_iload X 1 d_Law_isDriven_126 rfl ?_
    refine r_icmp_ge X 175 d_Law_isDriven_128 (by decide) (fun _ => ?_) (fun h9 => absurd (Int32.le_refl _) h9)
    refine r_lv [3, 5, 6, 7, 8, 9, 10] [(7, .int (nI (lP g r i))), (5, .int (nI i)), (4, .int (nI bst)), (3, .int (nI v)), (2, .ref (ad 192)), (1, .ref (ad 256)), (0, .ref (ad 128))] rfl ?_
    exact kk c hL
  | succ q ih =>
    intro i c hi hL
    have hd5 : r.getD i 0 < 5 := hr _ (getD_mem (by omega))
    have hgi := hg _ hd5
    obtain ⟨o1, o2, o3, o4, o5⟩ := oS_same (S := S) (r := r) i
    have hw := oS_wf (r := r) hS i (by omega)
    have hlo := (oS_lat (r := r) hLa i).1
    have hlp := lP_le (g := g) (r := r) (fun d hd => (hg d (hr d hd)).2.2) i (by omega)
    obtain ⟨⟨w4_t100, w5_t100, w7_t100, hb_t100⟩, -⟩ := id hL.1
    have hb_t100 : c 128 = some (.inr (6, [.ref (ad 192), .ref b9, .int d1, .ref (ad 129), w4_t100, w5_t100, .ref (ad 130), w7_t100, .int (nI (sNr (oS S r i))), .int (nI (sNl (oS S r i))), .int 0, .int ((sWe (oS S r i)).1), .int ((sWe (oS S r i)).2.1), .int ((sWe (oS S r i)).2.2.1), .int ((sWe (oS S r i)).2.2.2.1), .int ((sWe (oS S r i)).2.2.2.2), .int 100, .int 0, .int 0, .int 0, .int 0])) := hb_t100
    obtain ⟨⟨w4_o100, w5_o100, w7_o100, hb_o100⟩, -⟩ := id hL.2.1
    have hb_o100 : c 256 = some (.inr (6, [.ref (ad 320), .ref b9, .int d2, .ref (ad 257), w4_o100, w5_o100, .ref (ad 258), w7_o100, .int (nI (sNr (oS S r i))), .int (nI (sNl (oS S r i))), .int 0, .int ((sWe (oS S r i)).1), .int ((sWe (oS S r i)).2.1), .int ((sWe (oS S r i)).2.2.1), .int ((sWe (oS S r i)).2.2.2.1), .int ((sWe (oS S r i)).2.2.2.2), .int 100, .int 0, .int 0, .int 0, .int 0])) := hb_o100
    refine r_iload X 0 d_Law_isDriven_124 rfl ?_
    refine r_iload X 1 d_Law_isDriven_126 rfl ?_
    refine r_icmp_ge X 175 d_Law_isDriven_128 (by decide) (fun h9 => absurd h9 (nI_ge (by omega) (by omega))) (fun _ => ?_)
    refine r_aload X 2 d_Law_isDriven_131 rfl ?_
    refine r_iload X 0 d_Law_isDriven_133 rfl ?_
    refine r_iald (v := (nI (r.getD i 0))) X 0 ((hL.2.2 5 (by decide)).trans (va_up_self _ _ _)) rfl (vp_in_nI (by omega) (by omega)) ((congrArg f (nI_clamp (by omega))).trans (hf i (by omega))) d_Law_isDriven_135 ?_
    refine r_istore X [(11, .int (nI (r.getD i 0))), (10, .int (nI i)), (9, .int (nI n)), (8, .ref (ad 5)), (7, .int (nI (lP g r i))), (6, .ref (ad 5)), (5, .int (nI n)), (4, .int (nI bst)), (3, .int (nI v)), (2, .ref (ad 192)), (1, .ref (ad 256)), (0, .ref (ad 128))] d_Law_isDriven_136 (by decide) rfl ?_
    refine r_iload X 4 d_Law_isDriven_138 rfl ?_
    refine r_aload_n X 9 d_Law_isDriven_140 rfl rfl ?_
    refine r_iload X 0 d_Law_isDriven_141 rfl ?_
    refine r_iconst X 2 d_Law_isDriven_143 (by decide) ?_
    obtain ⟨J_101, hC_101⟩ := TB_ct hL.1
    have hC_101 : shC 192 c = cont cy (shA 192 ad) (oS S r i) J_101 := hC_101
    refine r_Vi X W0_good hN (As := [.int (nI (r.getD i 0)), .int 2]) (ct_i 192 (S' := oS S r i) (v := (sRc (oS S r i) (r.getD i 0)).2.2.1) hC_101 (c_G_ofRoad l D cy (shA 192 ad) (oS S r i) J_101 hw (r.getD i 0) 2 (by rw [o1, hS5]; exact hd5) (by decide)) (fun r a c' h => ⟨h.1, h.2.1, _, h.2.2⟩)) yv_G_ofRoad m_Law_53 (ct_obj hC_101) k_G.2.1 rfl rfl rfl ⟨by decide, by decide⟩ (Nat.le_of_ble_eq_true rfl) ⟨(by show cells + 0 ≤ 1; omega), (by show slots + 0 ≤ 6; omega)⟩ d_Law_isDriven_144 (fun r9_101 ad9_101 c_101 hp9 => ?_)
    obtain ⟨hr_101, rfl, hf_101, Jn_101, hD_101⟩ := hp9
    subst hr_101
    have hL_101 := LB_t hL (wf_2 hw) (S' := oS S r i) rfl hf_101 hD_101
    obtain ⟨⟨w4_t102, w5_t102, w7_t102, hb_t102⟩, -⟩ := id hL_101.1
    have hb_t102 : c_101 128 = some (.inr (6, [.ref (ad 192), .ref b9, .int d1, .ref (ad 129), w4_t102, w5_t102, .ref (ad 130), w7_t102, .int (nI (sNr (oS S r i))), .int (nI (sNl (oS S r i))), .int 0, .int ((sWe (oS S r i)).1), .int ((sWe (oS S r i)).2.1), .int ((sWe (oS S r i)).2.2.1), .int ((sWe (oS S r i)).2.2.2.1), .int ((sWe (oS S r i)).2.2.2.2), .int 100, .int 0, .int 0, .int 0, .int 0])) := hb_t102
    obtain ⟨⟨w4_o102, w5_o102, w7_o102, hb_o102⟩, -⟩ := id hL_101.2.1
    have hb_o102 : c_101 256 = some (.inr (6, [.ref (ad 320), .ref b9, .int d2, .ref (ad 257), w4_o102, w5_o102, .ref (ad 258), w7_o102, .int (nI (sNr (oS S r i))), .int (nI (sNl (oS S r i))), .int 0, .int ((sWe (oS S r i)).1), .int ((sWe (oS S r i)).2.1), .int ((sWe (oS S r i)).2.2.1), .int ((sWe (oS S r i)).2.2.2.1), .int ((sWe (oS S r i)).2.2.2.2), .int 100, .int 0, .int 0, .int 0, .int 0])) := hb_o102
    refine r_iadd X d_Law_isDriven_147 ?_
    refine r_top (y := nI (lP g r (i + 1))) (by rw [o4, hgi.1]; exact nI_add _ _) ?_
    refine r_istore X [(7, .int (nI (lP g r (i + 1)))), (11, .int (nI (r.getD i 0))), (10, .int (nI i)), (9, .int (nI n)), (8, .ref (ad 5)), (6, .ref (ad 5)), (5, .int (nI n)), (4, .int (nI bst)), (3, .int (nI v)), (2, .ref (ad 192)), (1, .ref (ad 256)), (0, .ref (ad 128))] d_Law_isDriven_148 (by decide) rfl ?_
    refine r_aload_n X 9 d_Law_isDriven_150 rfl rfl ?_
    refine r_iconst X 0 d_Law_isDriven_151 (by decide) ?_
    refine r_iload X 1 d_Law_isDriven_152 rfl ?_
    obtain ⟨J_103, hC_103⟩ := TB_ct hL_101.1
    have hC_103 : shC 192 c_101 = cont cy (shA 192 ad) (oS S r i) J_103 := hC_103
    refine r_Vi X W0_good hN (As := [.int 0, .int (nI (r.getD i 0))]) (ct_i 192 (S' := oS S r (i + 1)) (v := nI (i + 1)) hC_103 (c_G_order l D cy (shA 192 ad) (oS S r i) J_103 hw 0 (r.getD i 0) i (by rw [o2, hLa.1]; decide) (by rw [o1, hS5]; exact hd5) (by omega) (by rw [hlo]; rfl)) (fun r a c' h => ⟨h.1, h.2.1, _, h.2.2⟩)) yv_G_order m_Law_68 (ct_obj hC_103) k_G.2.1 rfl rfl rfl ⟨by decide, by decide⟩ (Nat.le_of_ble_eq_true rfl) ⟨(by show cells + 0 ≤ 1; omega), (by show slots + 0 ≤ 6; omega)⟩ d_Law_isDriven_154 (fun r9_103 ad9_103 c_103 hp9 => ?_)
    obtain ⟨hr_103, rfl, hf_103, Jn_103, hD_103⟩ := hp9
    subst hr_103
    have hL_103 := LB_t hL_101 (wf_2 hw) (S' := oS S r (i + 1)) rfl hf_103 hD_103
    obtain ⟨⟨w4_t104, w5_t104, w7_t104, hb_t104⟩, -⟩ := id hL_103.1
    have hb_t104 : c_103 128 = some (.inr (6, [.ref (ad 192), .ref b9, .int d1, .ref (ad 129), w4_t104, w5_t104, .ref (ad 130), w7_t104, .int (nI (sNr (oS S r (i + 1)))), .int (nI (sNl (oS S r (i + 1)))), .int 0, .int ((sWe (oS S r (i + 1))).1), .int ((sWe (oS S r (i + 1))).2.1), .int ((sWe (oS S r (i + 1))).2.2.1), .int ((sWe (oS S r (i + 1))).2.2.2.1), .int ((sWe (oS S r (i + 1))).2.2.2.2), .int 100, .int 0, .int 0, .int 0, .int 0])) := hb_t104
    obtain ⟨⟨w4_o104, w5_o104, w7_o104, hb_o104⟩, -⟩ := id hL_103.2.1
    have hb_o104 : c_103 256 = some (.inr (6, [.ref (ad 320), .ref b9, .int d2, .ref (ad 257), w4_o104, w5_o104, .ref (ad 258), w7_o104, .int (nI (sNr (oS S r i))), .int (nI (sNl (oS S r i))), .int 0, .int ((sWe (oS S r i)).1), .int ((sWe (oS S r i)).2.1), .int ((sWe (oS S r i)).2.2.1), .int ((sWe (oS S r i)).2.2.2.1), .int ((sWe (oS S r i)).2.2.2.2), .int 100, .int 0, .int 0, .int 0, .int 0])) := hb_o104
    refine r_pop X d_Law_isDriven_157 rfl ?_
    refine r_aload_n X 10 d_Law_isDriven_158 rfl rfl ?_
    refine r_get X k_Told 0 (by decide) f_Law_14 rfl hb_o104 rfl d_Law_isDriven_159 ?_
    refine r_iconst X 0 d_Law_isDriven_162 (by decide) ?_
    refine r_iload X 1 d_Law_isDriven_163 rfl ?_
    obtain ⟨J_105, hC_105⟩ := TB_ct hL_103.2.1
    have hC_105 : shC 320 c_103 = cont cy (shA 320 ad) (oS S r i) J_105 := hC_105
    refine r_Vi X W0_good hN (As := [.int 0, .int (nI (r.getD i 0))]) (ct_i 320 (S' := oS S r (i + 1)) (v := nI (i + 1)) hC_105 (c_G_order l D cy (shA 320 ad) (oS S r i) J_105 hw 0 (r.getD i 0) i (by rw [o2, hLa.1]; decide) (by rw [o1, hS5]; exact hd5) (by omega) (by rw [hlo]; rfl)) (fun r a c' h => ⟨h.1, h.2.1, _, h.2.2⟩)) yv_G_order m_Law_68 (ct_obj hC_105) k_G.2.1 rfl rfl rfl ⟨by decide, by decide⟩ (Nat.le_of_ble_eq_true rfl) ⟨(by show cells + 0 ≤ 1; omega), (by show slots + 0 ≤ 6; omega)⟩ d_Law_isDriven_165 (fun r9_105 ad9_105 c_105 hp9 => ?_)
    obtain ⟨hr_105, rfl, hf_105, Jn_105, hD_105⟩ := hp9
    subst hr_105
    have hL_105 := LB_o hL_103 (wf_2 (wf_ord hw (by omega))) (S' := oS S r (i + 1)) rfl hf_105 hD_105
    obtain ⟨⟨w4_t106, w5_t106, w7_t106, hb_t106⟩, -⟩ := id hL_105.1
    have hb_t106 : c_105 128 = some (.inr (6, [.ref (ad 192), .ref b9, .int d1, .ref (ad 129), w4_t106, w5_t106, .ref (ad 130), w7_t106, .int (nI (sNr (oS S r (i + 1)))), .int (nI (sNl (oS S r (i + 1)))), .int 0, .int ((sWe (oS S r (i + 1))).1), .int ((sWe (oS S r (i + 1))).2.1), .int ((sWe (oS S r (i + 1))).2.2.1), .int ((sWe (oS S r (i + 1))).2.2.2.1), .int ((sWe (oS S r (i + 1))).2.2.2.2), .int 100, .int 0, .int 0, .int 0, .int 0])) := hb_t106
    obtain ⟨⟨w4_o106, w5_o106, w7_o106, hb_o106⟩, -⟩ := id hL_105.2.1
    have hb_o106 : c_105 256 = some (.inr (6, [.ref (ad 320), .ref b9, .int d2, .ref (ad 257), w4_o106, w5_o106, .ref (ad 258), w7_o106, .int (nI (sNr (oS S r (i + 1)))), .int (nI (sNl (oS S r (i + 1)))), .int 0, .int ((sWe (oS S r (i + 1))).1), .int ((sWe (oS S r (i + 1))).2.1), .int ((sWe (oS S r (i + 1))).2.2.1), .int ((sWe (oS S r (i + 1))).2.2.2.1), .int ((sWe (oS S r (i + 1))).2.2.2.2), .int 100, .int 0, .int 0, .int 0, .int 0])) := hb_o106
    refine r_pop X d_Law_isDriven_168 rfl ?_
    refine r_iinc X 2 [(10, .int (nI (i + 1))), (7, .int (nI (lP g r (i + 1)))), (11, .int (nI (r.getD i 0))), (9, .int (nI n)), (8, .ref (ad 5)), (6, .ref (ad 5)), (5, .int (nI n)), (4, .int (nI bst)), (3, .int (nI v)), (2, .ref (ad 192)), (1, .ref (ad 256)), (0, .ref (ad 128))] d_Law_isDriven_169 rfl (nI_1 i) (by decide) rfl ?_
    refine r_goto X 124 d_Law_isDriven_172 (by decide) ?_
    refine r_lv [0, 3, 4, 1, 5, 6, 7, 8, 9, 10, 11] [(10, .int (nI (i + 1))), (9, .int (nI n)), (8, .ref (ad 5)), (7, .int (nI (lP g r (i + 1)))), (6, .ref (ad 5)), (5, .int (nI n)), (4, .int (nI bst)), (3, .int (nI v)), (2, .ref (ad 192)), (1, .ref (ad 256)), (0, .ref (ad 128))] rfl ?_
    exact ih (i + 1) c_105 (by omega) hL_105
set_option maxRecDepth 100000 in
set_option maxHeartbeats 4000000 in
theorem id_2 {p : Program} {l : Launch} {e : Env} {s : State} {m : MethodId} {args : Array Value} {below : List Frame} {meth : Method} {cd : Code} {b9 : Nat} {D : va_G} {cy : Nat → ClassId} {A : Nat → Prop} {Q : State → Prop} {cells slots : Nat} {d1 d2 : Int32} {bst v : Nat} (X : rX p s m args cd b_Law_isDriven 12 R_Law W0 D cls (TY cy) A) (hN : rN NW s) (hc1 : cells ≤ 1) (hc2 : slots ≤ 6) {ad : Nat → Nat} {c : rC} {r : List Nat} {n : Nat} {e0 : Nat} (hn6 : n ≤ 6)
    (kk : ∀ f' : Nat → Int32, (∀ j, j < n → f' j = nI (r.getD j 0)) → rW p l e { frames := 7, cells := 1, slots := 6, locals := 166 } s m args below meth cd 12 D cls A cells slots Q ad (va_up c 5 (some (iE (cy 0) n f'))) 109 [(6, .ref (ad 5)), (5, .int (nI n)), (4, .int (nI bst)), (3, .int (nI v)), (2, .ref (ad 192)), (1, .ref (ad 256)), (0, .ref (ad 128))] []) : ∀ (es : List Nat) (f : Nat → Int32), es.length ≤ n → (∀ d ∈ es, d < 10) → digV e0 es < 2000001 → (∀ j, j < es.length → r.getD j 0 = es.reverse.getD j 0) → (∀ j, es.length ≤ j → j < n → f j = nI (r.getD j 0)) → rW p l e { frames := 7, cells := 1, slots := 6, locals := 166 } s m args below meth cd 12 D cls A cells slots Q ad (va_up c 5 (some (iE (cy 0) n f))) 81 [(8, .int (nI (digV e0 es))), (7, .int (nI es.length - 1)), (6, .ref (ad 5)), (5, .int (nI n)), (4, .int (nI bst)), (3, .int (nI v)), (2, .ref (ad 192)), (1, .ref (ad 256)), (0, .ref (ad 128))] [] := by
  intro es
  induction es with
  | nil =>
    intro f h1 h2 h3 h4 h5
    refine r_iload X 1 d_Law_isDriven_81 rfl ?_
    refine r_if_lt X 109 d_Law_isDriven_83 (by decide) (fun _ => ?_) (fun h9 => absurd (show nI ([] : List Nat).length - 1 < 0 from by decide) h9)
    refine r_lv [2, 3, 4, 5, 6, 7, 8] [(6, .ref (ad 5)), (5, .int (nI n)), (4, .int (nI bst)), (3, .int (nI v)), (2, .ref (ad 192)), (1, .ref (ad 256)), (0, .ref (ad 128))] rfl ?_
    exact kk f (fun j hj => h5 j (Nat.zero_le _) hj)
  | cons d es ih =>
    intro f h1 h2 h3 h4 h5
    have hl : es.length + 1 ≤ n := h1
    have hd : d < 10 := h2 d List.mem_cons_self
    have h3 : digV e0 es * 10 + d < 2000001 := h3
    refine r_show _ [(8, .int (nI (digV e0 es * 10 + d))), (7, .int (nI es.length)), (6, .ref (ad 5)), (5, .int (nI n)), (4, .int (nI bst)), (3, .int (nI v)), (2, .ref (ad 192)), (1, .ref (ad 256)), (0, .ref (ad 128))] [] rfl (by rw [show (d :: es).length = es.length + 1 from rfl, nI_pred]; rfl) rfl ?_
    refine r_iload X 1 d_Law_isDriven_81 rfl ?_
    refine r_if_lt X 109 d_Law_isDriven_83 (by decide) (fun h9 => absurd h9 (nI_pos (by omega))) (fun _ => ?_)
    refine r_aload X 2 d_Law_isDriven_86 rfl ?_
    refine r_iload X 1 d_Law_isDriven_88 rfl ?_
    refine r_iload X 0 d_Law_isDriven_90 rfl ?_
    refine r_bipush X 10 d_Law_isDriven_92 (by decide) ?_
    refine r_irem X d_Law_isDriven_94 (by decide) ?_
    refine r_top (y := nI d) ((nI_r (b := 10) (by omega) (by decide)).trans (congrArg nI (by omega))) ?_
    refine r_iast X 0 rup_self rfl (vp_in_nI (by omega) (by omega)) (congrArg (fun q9 => upd f q9 (nI d)) (nI_clamp (by omega))) (va_up c 5 (some (.inl (cy 0, n, .inl (upd f es.length (nI d)))))) rup_up d_Law_isDriven_95 ?_
    refine r_iinc X 1 [(7, .int ((nI es.length) + (-1))), (8, .int (nI (digV e0 es * 10 + d))), (6, .ref (ad 5)), (5, .int (nI n)), (4, .int (nI bst)), (3, .int (nI v)), (2, .ref (ad 192)), (1, .ref (ad 256)), (0, .ref (ad 128))] d_Law_isDriven_96 rfl rfl (by decide) rfl ?_
    refine r_iload X 1 d_Law_isDriven_99 rfl ?_
    refine r_bipush X 10 d_Law_isDriven_101 (by decide) ?_
    refine r_idiv X d_Law_isDriven_103 (by decide) ?_
    refine r_top (y := nI (digV e0 es)) ((nI_d (b := 10) (by omega) (by decide)).trans (congrArg nI (by omega))) ?_
    refine r_istore X [(8, .int (nI (digV e0 es))), (7, .int ((nI es.length) + (-1))), (6, .ref (ad 5)), (5, .int (nI n)), (4, .int (nI bst)), (3, .int (nI v)), (2, .ref (ad 192)), (1, .ref (ad 256)), (0, .ref (ad 128))] d_Law_isDriven_104 (by decide) rfl ?_
    refine r_goto X 81 d_Law_isDriven_106 (by decide) ?_
    refine r_lv [0, 1, 2, 3, 4, 5, 6, 7, 8] [(8, .int (nI (digV e0 es))), (7, .int ((nI es.length) + (-1))), (6, .ref (ad 5)), (5, .int (nI n)), (4, .int (nI bst)), (3, .int (nI v)), (2, .ref (ad 192)), (1, .ref (ad 256)), (0, .ref (ad 128))] rfl ?_
    refine r_show _ [(8, .int (nI (digV e0 es))), (7, .int (nI es.length - 1)), (6, .ref (ad 5)), (5, .int (nI n)), (4, .int (nI bst)), (3, .int (nI v)), (2, .ref (ad 192)), (1, .ref (ad 256)), (0, .ref (ad 128))] [] rfl (by rw [i_dec]) rfl ?_
    refine ih (upd f es.length (nI d)) (by omega) (fun x hx => h2 x (List.mem_cons_of_mem _ hx)) (by omega) (fun j hj => (h4 j (by show j < es.length + 1; omega)).trans (rev_lo hj)) (fun j j1 j2 => ?_)
    by_cases hj : j = es.length
    · subst hj; rw [h4 _ (by show es.length < es.length + 1; omega), rev_at]; simp [upd]
    · have := h5 j (by show es.length + 1 ≤ j; omega) j2
      simp only [upd, hj, if_false]; exact this
set_option maxRecDepth 100000 in
set_option maxHeartbeats 4000000 in
theorem id_1 {p : Program} {l : Launch} {e : Env} {s : State} {m : MethodId} {args : Array Value} {below : List Frame} {meth : Method} {cd : Code} {b9 : Nat} {D : va_G} {cy : Nat → ClassId} {A : Nat → Prop} {Q : State → Prop} {cells slots : Nat} {d1 d2 : Int32} {bst v : Nat} (X : rX p s m args cd b_Law_isDriven 12 R_Law W0 D cls (TY cy) A) (hN : rN NW s) (hc1 : cells ≤ 1) (hc2 : slots ≤ 6) {ad : Nat → Nat} {c : rC} {e0 n : Nat} (h01 : e0 ≤ 1) (hn6 : n ≤ 6)
    (kk : rW p l e { frames := 7, cells := 1, slots := 6, locals := 166 } s m args below meth cd 12 D cls A cells slots Q ad c 65 [(5, .int (nI n)), (4, .int (nI bst)), (3, .int (nI v)), (2, .ref (ad 192)), (1, .ref (ad 256)), (0, .ref (ad 128))] []) : ∀ (es : List Nat) (k : Nat), k + es.length = n → (e0 = 0 → es = []) → (∀ d ∈ es, d < 10) → digV e0 es < 2000001 → rW p l e { frames := 7, cells := 1, slots := 6, locals := 166 } s m args below meth cd 12 D cls A cells slots Q ad c 45 [(6, .int (nI (digV e0 es))), (5, .int (nI k)), (4, .int (nI bst)), (3, .int (nI v)), (2, .ref (ad 192)), (1, .ref (ad 256)), (0, .ref (ad 128))] [] := by
  intro es
  induction es with
  | nil =>
    intro k h1 h2 h3 h4
    obtain rfl : k = n := by have : k + 0 = n := h1; omega
    refine r_iload X 0 d_Law_isDriven_45 rfl ?_
    refine r_bipush X 9 d_Law_isDriven_47 (by decide) ?_
    refine r_icmp_le X 65 d_Law_isDriven_49 (by decide) (fun _ => ?_) (fun h9 => absurd (show nI (digV e0 []) ≤ 9 from nI_le (b := 9) (Nat.le_trans h01 (by decide)) (by decide)) h9)
    refine r_lv [1, 2, 3, 4, 5, 6] [(5, .int (nI k)), (4, .int (nI bst)), (3, .int (nI v)), (2, .ref (ad 192)), (1, .ref (ad 256)), (0, .ref (ad 128))] rfl ?_
    exact kk
  | cons d es ih =>
    intro k h1 h2 h3 h4
    have he1 : e0 = 1 := by
      rcases Nat.eq_zero_or_pos e0 with h | h
      · exact absurd (h2 h) (List.cons_ne_nil _ _)
      · omega
    subst he1
    have hp := digV_pos (ds := es)
    have hd : d < 10 := h3 d List.mem_cons_self
    have h4 : digV 1 es * 10 + d < 2000001 := h4
    have h1 : k + (es.length + 1) = n := h1
    refine r_show c [(6, .int (nI (digV 1 es * 10 + d))), (5, .int (nI k)), (4, .int (nI bst)), (3, .int (nI v)), (2, .ref (ad 192)), (1, .ref (ad 256)), (0, .ref (ad 128))] [] rfl rfl rfl ?_
    refine r_iload X 0 d_Law_isDriven_45 rfl ?_
    refine r_bipush X 9 d_Law_isDriven_47 (by decide) ?_
    refine r_icmp_le X 65 d_Law_isDriven_49 (by decide) (fun h9 => absurd h9 (nI_ge (a := 9) (by omega) (by omega))) (fun _ => ?_)
    refine r_iinc X 1 [(5, .int (nI (k + 1))), (6, .int (nI (digV 1 es * 10 + d))), (4, .int (nI bst)), (3, .int (nI v)), (2, .ref (ad 192)), (1, .ref (ad 256)), (0, .ref (ad 128))] d_Law_isDriven_52 rfl (nI_1 k) (by decide) rfl ?_
    refine r_iload X 1 d_Law_isDriven_55 rfl ?_
    refine r_bipush X 10 d_Law_isDriven_57 (by decide) ?_
    refine r_idiv X d_Law_isDriven_59 (by decide) ?_
    refine r_top (y := nI (digV 1 es)) ((nI_d (b := 10) (by omega) (by decide)).trans (congrArg nI (by omega))) ?_
    refine r_istore X [(6, .int (nI (digV 1 es))), (5, .int (nI (k + 1))), (4, .int (nI bst)), (3, .int (nI v)), (2, .ref (ad 192)), (1, .ref (ad 256)), (0, .ref (ad 128))] d_Law_isDriven_60 (by decide) rfl ?_
    refine r_goto X 45 d_Law_isDriven_62 (by decide) ?_
    refine r_lv [0, 1, 2, 3, 4, 5, 6] [(6, .int (nI (digV 1 es))), (5, .int (nI (k + 1))), (4, .int (nI bst)), (3, .int (nI v)), (2, .ref (ad 192)), (1, .ref (ad 256)), (0, .ref (ad 128))] rfl ?_
    exact ih (k + 1) (by omega) (fun z => absurd z (by decide)) (fun x hx => h3 x (List.mem_cons_of_mem _ hx)) (by omega)
