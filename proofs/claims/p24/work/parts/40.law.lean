/-! the law: its loops; by program (wip/p24/ml.py) -/
theorem LB_dt {cy : Nat → ClassId} {b : Nat} {low : rC} {S1 S2 S' : cS} {d1 d2 d' : Int32} {ad : Nat → Nat} {c c' : rC} (h : LB cy b low S1 S2 d1 d2 ad c) (w2 : sNr S2 ≤ 8 ∧ sNl S2 ≤ 3) (hf : ∀ k, (k < 128 ∨ 128 + 128 ≤ k) → c' k = c k) (hT : TB cy b S' d' 128 ad c') : LB cy b low S' S2 d' d2 ad c' :=
  ⟨hT, TB_congr w2.1 w2.2 h.2.1 (fun k k1 k2 => ⟨rfl, hf k (Or.inr k1)⟩), fun k hk => (hf k (Or.inl hk)).trans (h.2.2 k hk)⟩
theorem LB_do {cy : Nat → ClassId} {b : Nat} {low : rC} {S1 S2 S' : cS} {d1 d2 d' : Int32} {ad : Nat → Nat} {c c' : rC} (h : LB cy b low S1 S2 d1 d2 ad c) (w1 : sNr S1 ≤ 8 ∧ sNl S1 ≤ 3) (hf : ∀ k, (k < 256 ∨ 256 + 128 ≤ k) → c' k = c k) (hT : TB cy b S' d' 256 ad c') : LB cy b low S1 S' d1 d' ad c' :=
  ⟨TB_congr w1.1 w1.2 h.1 (fun k k1 k2 => ⟨rfl, hf k (Or.inl k2)⟩), hT, fun k hk => (hf k (Or.inl (by omega))).trans (h.2.2 k hk)⟩
theorem LB_mt {cy : Nat → ClassId} {b : Nat} {low : rC} {S1 S2 S' : cS} {d1 d2 d' : Int32} {ad ad' : Nat → Nat} {c c' : rC} (h : LB cy b low S1 S2 d1 d2 ad c) (w2 : sNr S2 ≤ 8 ∧ sNl S2 ≤ 3) (hf : ∀ k, (k < 128 ∨ 128 + 128 ≤ k) → ad' k = ad k ∧ c' k = c k) (hT : TB cy b S' d' 128 ad' c') : LB cy b low S' S2 d' d2 ad' c' :=
  ⟨hT, TB_congr w2.1 w2.2 h.2.1 (fun k k1 k2 => hf k (Or.inr k1)), fun k hk => ((hf k (Or.inl hk)).2).trans (h.2.2 k hk)⟩
theorem LB_mo {cy : Nat → ClassId} {b : Nat} {low : rC} {S1 S2 S' : cS} {d1 d2 d' : Int32} {ad ad' : Nat → Nat} {c c' : rC} (h : LB cy b low S1 S2 d1 d2 ad c) (w1 : sNr S1 ≤ 8 ∧ sNl S1 ≤ 3) (hf : ∀ k, (k < 256 ∨ 256 + 128 ≤ k) → ad' k = ad k ∧ c' k = c k) (hT : TB cy b S' d' 256 ad' c') : LB cy b low S1 S' d1 d' ad' c' :=
  ⟨TB_congr w1.1 w1.2 h.1 (fun k k1 k2 => hf k (Or.inl k2)), hT, fun k hk => ((hf k (Or.inl (by omega))).2).trans (h.2.2 k hk)⟩
theorem air_in : ∀ a : Nat, a < 14 → inF (nI a - 9) (-20) 20 = 1 := by decide +kernel
theorem bit_2 : ∀ a : Nat, a < 2 → nI a = 0 ∨ nI a = 1 := by decide +kernel
theorem fl_eq {S : cS} {r q f : Nat} (hf1 : f < 2 ^ 31) (h : (f = 0 ∧ fsR S r 0 q = -1) ∨ (1 ≤ f ∧ fsR S r 0 q = nI f)) : (if 0 ≤ fsR S r 0 q then (0 : Int32) else 1) = (if lsF S r q 61 0 = 0 then 1 else 0) := by
  rcases h with ⟨-, h⟩ | ⟨-, h⟩
  · rw [if_pos (ls_zero.mpr h), h]
    exact if_neg (by decide)
  · rw [if_neg (fun z => nI_m1 hf1 (h.symm.trans (ls_zero.mp z))), h, if_pos (nI_pos' hf1)]
theorem fl_le {S : cS} {r q f : Nat} (hq : q < 30) (hfq : f ≤ q) (h : (f = 0 ∧ fsR S r 0 q = -1) ∨ (1 ≤ f ∧ fsR S r 0 q = nI f)) : fsR S r 0 q ≤ nI q := by
  rcases h with ⟨-, h⟩ | ⟨-, h⟩
  · rw [h]
    exact Int32.le_trans (by decide : (-1 : Int32) ≤ 0) (nI_pos' (by omega))
  · rw [h]
    exact nI_le hfq (by omega)
set_option maxRecDepth 100000 in
set_option maxHeartbeats 4000000 in
theorem law_d {p : Program} {l : Launch} {e : Env} {s : State} {m : MethodId} {below : List Frame} {meth : Method} {cd : Code} {b9 L9 : Nat} {xs9 : Nat → Int32} {D : va_G} {cy : Nat → ClassId} (X : rX p s m #[Value.ref b9] cd b_Law_law 20 R_Law W0 D cls (TY cy) (fun q => s.heap.size ≤ q)) (hN : rN NW s) (hE : rE b9 L9 xs9 (fun q => s.heap.size ≤ q) s s.heap) (hL9 : L9 < 2 ^ 31) {Q : State → Prop} {cells slots : Nat} (hc1 : cells ≤ 600000) (hc2 : slots ≤ 7301000) {ad : Nat → Nat} {S : cS} {t v h r q f k tm : Nat} {fi d1 d2 : Int32} (hG : GS S t v h) (htq : t + q < 200) (hr5 : r < 5) (hq : q ≤ 6) (hf : (f = 0 ∧ fi = -1) ∨ (1 ≤ f ∧ fi = nI f)) (hfs : ∀ i, i ≤ q → (f = 0 ∨ i < f) → tmx S r i = tmx S r 0) (hfe : 1 ≤ f → tmx S r f = tmx S r 0 + 1) (hfq : f ≤ q)
    (kk : ∀ c' : rC, LB cy b9 (fun _ => none) (psF S t q) S d1 d2 ad c' → rW p l e room_1 s m #[Value.ref b9] below meth cd 20 D cls (fun q => s.heap.size ≤ q) cells slots Q ad c' 378 [(12, .int (nI q)), (5, .int (nI k)), (4, .ref (ad 192)), (3, .ref (ad 256)), (2, .ref (ad 128)), (1, .int (nI tm)), (0, .ref b9)] []) : ∀ (n i : Nat) (c : rC), i + n = q → LB cy b9 (fun _ => none) (psF S t i) S d1 d2 ad c → rW p l e room_1 s m #[Value.ref b9] below meth cd 20 D cls (fun q => s.heap.size ≤ q) cells slots Q ad c 301 [(18, .int (nI (i + 1))), (17, .int (tmx S r 0)), (15, .int fi), (12, .int (nI q)), (11, .int (nI r)), (5, .int (nI k)), (4, .ref (ad 192)), (3, .ref (ad 256)), (2, .ref (ad 128)), (1, .int (nI tm)), (0, .ref b9)] [] := by
  have hw := hG.wf (by omega)
  have h5 := hG.1
  intro n
  induction n with
  | zero =>
    intro i c hi hL
    obtain rfl : i = q := by omega
    obtain ⟨⟨w4_t0, w5_t0, w7_t0, hb_t0⟩, -⟩ := id hL.1
    have hb_t0 : c 128 = some (.inr (6, [.ref (ad 192), .ref b9, .int d1, .ref (ad 129), w4_t0, w5_t0, .ref (ad 130), w7_t0, .int (nI (sNr (psF S t i))), .int (nI (sNl (psF S t i))), .int 0, .int ((sWe (psF S t i)).1), .int ((sWe (psF S t i)).2.1), .int ((sWe (psF S t i)).2.2.1), .int ((sWe (psF S t i)).2.2.2.1), .int ((sWe (psF S t i)).2.2.2.2), .int 100, .int 0, .int 0, .int 0, .int 0])) := hb_t0
    obtain ⟨⟨w4_o0, w5_o0, w7_o0, hb_o0⟩, -⟩ := id hL.2.1
    have hb_o0 : c 256 = some (.inr (6, [.ref (ad 320), .ref b9, .int d2, .ref (ad 257), w4_o0, w5_o0, .ref (ad 258), w7_o0, .int (nI (sNr S)), .int (nI (sNl S)), .int 0, .int ((sWe S).1), .int ((sWe S).2.1), .int ((sWe S).2.2.1), .int ((sWe S).2.2.2.1), .int ((sWe S).2.2.2.2), .int 100, .int 0, .int 0, .int 0, .int 0])) := hb_o0
    refine r_iload X 0 d_Law_law_301 rfl ?_
    refine r_iload X 3 d_Law_law_303 rfl ?_
    refine r_icmp_gt X 378 d_Law_law_305 (by decide) (fun _ => ?_) (fun h9 => absurd (nI_lt (by omega) (by omega)) h9)
    refine r_lv [3, 5, 6, 7, 8, 9, 10] [(12, .int (nI i)), (5, .int (nI k)), (4, .ref (ad 192)), (3, .ref (ad 256)), (2, .ref (ad 128)), (1, .int (nI tm)), (0, .ref b9)] rfl ?_
    exact kk c hL
  | succ n ih =>
    intro i c hi hL
    obtain ⟨⟨w4_t100, w5_t100, w7_t100, hb_t100⟩, -⟩ := id hL.1
    have hb_t100 : c 128 = some (.inr (6, [.ref (ad 192), .ref b9, .int d1, .ref (ad 129), w4_t100, w5_t100, .ref (ad 130), w7_t100, .int (nI (sNr (psF S t i))), .int (nI (sNl (psF S t i))), .int 0, .int ((sWe (psF S t i)).1), .int ((sWe (psF S t i)).2.1), .int ((sWe (psF S t i)).2.2.1), .int ((sWe (psF S t i)).2.2.2.1), .int ((sWe (psF S t i)).2.2.2.2), .int 100, .int 0, .int 0, .int 0, .int 0])) := hb_t100
    obtain ⟨⟨w4_o100, w5_o100, w7_o100, hb_o100⟩, -⟩ := id hL.2.1
    have hb_o100 : c 256 = some (.inr (6, [.ref (ad 320), .ref b9, .int d2, .ref (ad 257), w4_o100, w5_o100, .ref (ad 258), w7_o100, .int (nI (sNr S)), .int (nI (sNl S)), .int 0, .int ((sWe S).1), .int ((sWe S).2.1), .int ((sWe S).2.2.1), .int ((sWe S).2.2.2.1), .int ((sWe S).2.2.2.2), .int 100, .int 0, .int 0, .int 0, .int 0])) := hb_o100
    refine r_iload X 0 d_Law_law_301 rfl ?_
    refine r_iload X 3 d_Law_law_303 rfl ?_
    refine r_icmp_gt X 378 d_Law_law_305 (by decide) (fun h9 => absurd h9 (nI_nlt (by omega) (by omega))) (fun _ => ?_)
    refine r_aload X 6 d_Law_law_308 rfl ?_
    refine r_iconst X 1 d_Law_law_310 (by decide) ?_
    obtain ⟨J_101, hC_101⟩ := TB_ct hL.1
    have hC_101 : shC 192 c = cont cy (shA 192 ad) (psF S t i) J_101 := hC_101
    refine r_Vi X W0_good hN (As := [.int 1]) (ct_i 192 (S' := psF S t (i + 1)) (v := spF (psF S t i) (t + i) 1) hC_101 (c_G_pass l D cy (shA 192 ad) (psF S t i) J_101 ((hG.ps i).wf (by omega)) (t + i) 1 (by decide) (by decide) (by omega) (hG.ps i).2.1) (fun r a c' h => ⟨h.1, h.2.1, _, h.2.2⟩)) yv_G_pass m_Law_56 (ct_obj hC_101) k_G.2.1 rfl rfl rfl ⟨by decide, by decide⟩ (Nat.le_of_ble_eq_true rfl) ⟨(by show cells + 0 ≤ 600064; omega), (by show slots + 0 ≤ 7301640; omega)⟩ d_Law_law_311 (fun r9_101 ad9_101 c_101 hp9 => ?_)
    obtain ⟨hr_101, rfl, hf_101, Jn_101, hD_101⟩ := hp9
    subst hr_101
    have hL_101 := LB_t hL (wf_2 hw) (S' := psF S t (i + 1)) ((tr_ps (i + 1)).trans (tr_ps i).symm) hf_101 hD_101
    obtain ⟨⟨w4_t102, w5_t102, w7_t102, hb_t102⟩, -⟩ := id hL_101.1
    have hb_t102 : c_101 128 = some (.inr (6, [.ref (ad 192), .ref b9, .int d1, .ref (ad 129), w4_t102, w5_t102, .ref (ad 130), w7_t102, .int (nI (sNr (psF S t (i + 1)))), .int (nI (sNl (psF S t (i + 1)))), .int 0, .int ((sWe (psF S t (i + 1))).1), .int ((sWe (psF S t (i + 1))).2.1), .int ((sWe (psF S t (i + 1))).2.2.1), .int ((sWe (psF S t (i + 1))).2.2.2.1), .int ((sWe (psF S t (i + 1))).2.2.2.2), .int 100, .int 0, .int 0, .int 0, .int 0])) := hb_t102
    obtain ⟨⟨w4_o102, w5_o102, w7_o102, hb_o102⟩, -⟩ := id hL_101.2.1
    have hb_o102 : c_101 256 = some (.inr (6, [.ref (ad 320), .ref b9, .int d2, .ref (ad 257), w4_o102, w5_o102, .ref (ad 258), w7_o102, .int (nI (sNr S)), .int (nI (sNl S)), .int 0, .int ((sWe S).1), .int ((sWe S).2.1), .int ((sWe S).2.2.1), .int ((sWe S).2.2.2.1), .int ((sWe S).2.2.2.2), .int 100, .int 0, .int 0, .int 0, .int 0])) := hb_o102
    refine r_istore X [(19, .int (spF (psF S t i) (t + i) 1)), (18, .int (nI (i + 1))), (17, .int (tmx S r 0)), (15, .int fi), (12, .int (nI q)), (11, .int (nI r)), (5, .int (nI k)), (4, .ref (ad 192)), (3, .ref (ad 256)), (2, .ref (ad 128)), (1, .int (nI tm)), (0, .ref b9)] d_Law_law_314 (by decide) rfl ?_
    refine r_iload X 0 d_Law_law_316 rfl ?_
    refine r_if_lt X 370 d_Law_law_318 (by decide) (fun h9 => absurd h9 (sp_nn (by decide))) (fun _ => ?_)
    rcases hf with ⟨f0, rfl⟩ | ⟨f1, rfl⟩
    · refine r_iload X 3 d_Law_law_321 rfl ?_
      refine r_if_lt X 333 d_Law_law_323 (by decide) (fun _ => ?_) (fun h9 => absurd h9 (by decide))
      refine r_aload X 7 d_Law_law_333 rfl ?_
      refine r_iload X 5 d_Law_law_335 rfl ?_
      refine r_bipush X 13 d_Law_law_337 (by decide) ?_
      obtain ⟨J_103, hC_103⟩ := TB_ct hL_101.1
      have hC_103 : shC 192 c_101 = cont cy (shA 192 ad) (psF S t (i + 1)) J_103 := hC_103
      refine r_Vi X W0_good hN (As := [.int (nI r), .int 13]) (ct_i 192 (S' := psF S t (i + 1)) (v := (sRc (psF S t (i + 1)) r).2.2.2.2.2.2.2.1) hC_103 (c_G_ofRoad l D cy (shA 192 ad) (psF S t (i + 1)) J_103 ((hG.ps (i + 1)).wf (by omega)) r 13 (by rw [(hG.ps (i + 1)).1]; exact hr5) (by decide)) (fun r a c' h => ⟨h.1, h.2.1, _, h.2.2⟩)) yv_G_ofRoad m_Law_53 (ct_obj hC_103) k_G.2.1 rfl rfl rfl ⟨by decide, by decide⟩ (Nat.le_of_ble_eq_true rfl) ⟨(by show cells + 0 ≤ 600064; omega), (by show slots + 0 ≤ 7301640; omega)⟩ d_Law_law_339 (fun r9_103 ad9_103 c_103 hp9 => ?_)
      obtain ⟨hr_103, rfl, hf_103, Jn_103, hD_103⟩ := hp9
      subst hr_103
      have hL_103 := LB_t hL_101 (wf_2 hw) (S' := psF S t (i + 1)) rfl hf_103 hD_103
      obtain ⟨⟨w4_t104, w5_t104, w7_t104, hb_t104⟩, -⟩ := id hL_103.1
      have hb_t104 : c_103 128 = some (.inr (6, [.ref (ad 192), .ref b9, .int d1, .ref (ad 129), w4_t104, w5_t104, .ref (ad 130), w7_t104, .int (nI (sNr (psF S t (i + 1)))), .int (nI (sNl (psF S t (i + 1)))), .int 0, .int ((sWe (psF S t (i + 1))).1), .int ((sWe (psF S t (i + 1))).2.1), .int ((sWe (psF S t (i + 1))).2.2.1), .int ((sWe (psF S t (i + 1))).2.2.2.1), .int ((sWe (psF S t (i + 1))).2.2.2.2), .int 100, .int 0, .int 0, .int 0, .int 0])) := hb_t104
      obtain ⟨⟨w4_o104, w5_o104, w7_o104, hb_o104⟩, -⟩ := id hL_103.2.1
      have hb_o104 : c_103 256 = some (.inr (6, [.ref (ad 320), .ref b9, .int d2, .ref (ad 257), w4_o104, w5_o104, .ref (ad 258), w7_o104, .int (nI (sNr S)), .int (nI (sNl S)), .int 0, .int ((sWe S).1), .int ((sWe S).2.1), .int ((sWe S).2.2.1), .int ((sWe S).2.2.2.1), .int ((sWe S).2.2.2.2), .int 100, .int 0, .int 0, .int 0, .int 0])) := hb_o104
      refine r_top (y := tmx S r 0) ((ps_tm hG hr5).trans (hfs (i + 1) (by omega) (Or.inl f0))) ?_
      refine r_iload X 2 d_Law_law_342 rfl ?_
      refine r_icmp_ne X 370 d_Law_law_344 (by decide) (fun h9 => absurd rfl h9) (fun _ => ?_)
      refine r_iload X 1 d_Law_law_347 rfl ?_
      refine r_iload X 3 d_Law_law_349 rfl ?_
      refine r_icmp_ne X 372 d_Law_law_351 (by decide) (fun _ => ?_) (fun h9 => absurd h9 (nI_m1 (by omega)))
      refine r_iinc X 1 [(18, .int (nI (i + 1 + 1))), (19, .int (spF (psF S t i) (t + i) 1)), (17, .int (tmx S r 0)), (15, .int (-1)), (12, .int (nI q)), (11, .int (nI r)), (5, .int (nI k)), (4, .ref (ad 192)), (3, .ref (ad 256)), (2, .ref (ad 128)), (1, .int (nI tm)), (0, .ref b9)] d_Law_law_372 rfl (nI_1 _) (by decide) rfl ?_
      refine r_goto X 301 d_Law_law_375 (by decide) ?_
      refine r_lv [0, 2, 3, 4, 5, 6, 7, 8, 9, 10, 11] [(18, .int (nI (i + 1 + 1))), (17, .int (tmx S r 0)), (15, .int (-1)), (12, .int (nI q)), (11, .int (nI r)), (5, .int (nI k)), (4, .ref (ad 192)), (3, .ref (ad 256)), (2, .ref (ad 128)), (1, .int (nI tm)), (0, .ref b9)] rfl ?_
      exact ih (i + 1) c_103 (by omega) hL_103
    · rcases Nat.lt_trichotomy (i + 1) f with h1 | h1 | h1
      · refine r_iload X 3 d_Law_law_321 rfl ?_
        refine r_if_lt X 333 d_Law_law_323 (by decide) (fun h9 => absurd h9 (nI_pos (by omega))) (fun _ => ?_)
        refine r_iload X 1 d_Law_law_326 rfl ?_
        refine r_iload X 3 d_Law_law_328 rfl ?_
        refine r_icmp_ge X 347 d_Law_law_330 (by decide) (fun h9 => absurd h9 (nI_ge (by omega) (by omega))) (fun _ => ?_)
        refine r_aload X 7 d_Law_law_333 rfl ?_
        refine r_iload X 5 d_Law_law_335 rfl ?_
        refine r_bipush X 13 d_Law_law_337 (by decide) ?_
        obtain ⟨J_105, hC_105⟩ := TB_ct hL_101.1
        have hC_105 : shC 192 c_101 = cont cy (shA 192 ad) (psF S t (i + 1)) J_105 := hC_105
        refine r_Vi X W0_good hN (As := [.int (nI r), .int 13]) (ct_i 192 (S' := psF S t (i + 1)) (v := (sRc (psF S t (i + 1)) r).2.2.2.2.2.2.2.1) hC_105 (c_G_ofRoad l D cy (shA 192 ad) (psF S t (i + 1)) J_105 ((hG.ps (i + 1)).wf (by omega)) r 13 (by rw [(hG.ps (i + 1)).1]; exact hr5) (by decide)) (fun r a c' h => ⟨h.1, h.2.1, _, h.2.2⟩)) yv_G_ofRoad m_Law_53 (ct_obj hC_105) k_G.2.1 rfl rfl rfl ⟨by decide, by decide⟩ (Nat.le_of_ble_eq_true rfl) ⟨(by show cells + 0 ≤ 600064; omega), (by show slots + 0 ≤ 7301640; omega)⟩ d_Law_law_339 (fun r9_105 ad9_105 c_105 hp9 => ?_)
        obtain ⟨hr_105, rfl, hf_105, Jn_105, hD_105⟩ := hp9
        subst hr_105
        have hL_105 := LB_t hL_101 (wf_2 hw) (S' := psF S t (i + 1)) rfl hf_105 hD_105
        obtain ⟨⟨w4_t106, w5_t106, w7_t106, hb_t106⟩, -⟩ := id hL_105.1
        have hb_t106 : c_105 128 = some (.inr (6, [.ref (ad 192), .ref b9, .int d1, .ref (ad 129), w4_t106, w5_t106, .ref (ad 130), w7_t106, .int (nI (sNr (psF S t (i + 1)))), .int (nI (sNl (psF S t (i + 1)))), .int 0, .int ((sWe (psF S t (i + 1))).1), .int ((sWe (psF S t (i + 1))).2.1), .int ((sWe (psF S t (i + 1))).2.2.1), .int ((sWe (psF S t (i + 1))).2.2.2.1), .int ((sWe (psF S t (i + 1))).2.2.2.2), .int 100, .int 0, .int 0, .int 0, .int 0])) := hb_t106
        obtain ⟨⟨w4_o106, w5_o106, w7_o106, hb_o106⟩, -⟩ := id hL_105.2.1
        have hb_o106 : c_105 256 = some (.inr (6, [.ref (ad 320), .ref b9, .int d2, .ref (ad 257), w4_o106, w5_o106, .ref (ad 258), w7_o106, .int (nI (sNr S)), .int (nI (sNl S)), .int 0, .int ((sWe S).1), .int ((sWe S).2.1), .int ((sWe S).2.2.1), .int ((sWe S).2.2.2.1), .int ((sWe S).2.2.2.2), .int 100, .int 0, .int 0, .int 0, .int 0])) := hb_o106
        refine r_top (y := tmx S r 0) ((ps_tm hG hr5).trans (hfs (i + 1) (by omega) (Or.inr (by omega)))) ?_
        refine r_iload X 2 d_Law_law_342 rfl ?_
        refine r_icmp_ne X 370 d_Law_law_344 (by decide) (fun h9 => absurd rfl h9) (fun _ => ?_)
        refine r_iload X 1 d_Law_law_347 rfl ?_
        refine r_iload X 3 d_Law_law_349 rfl ?_
        refine r_icmp_ne X 372 d_Law_law_351 (by decide) (fun _ => ?_) (fun h9 => absurd h9 (fun z => by have := (nI_eq (by omega) (by omega)).mp z; omega))
        refine r_iinc X 1 [(18, .int (nI (i + 1 + 1))), (19, .int (spF (psF S t i) (t + i) 1)), (17, .int (tmx S r 0)), (15, .int (nI f)), (12, .int (nI q)), (11, .int (nI r)), (5, .int (nI k)), (4, .ref (ad 192)), (3, .ref (ad 256)), (2, .ref (ad 128)), (1, .int (nI tm)), (0, .ref b9)] d_Law_law_372 rfl (nI_1 _) (by decide) rfl ?_
        refine r_goto X 301 d_Law_law_375 (by decide) ?_
        refine r_lv [0, 2, 3, 4, 5, 6, 7, 8, 9, 10, 11] [(18, .int (nI (i + 1 + 1))), (17, .int (tmx S r 0)), (15, .int (nI f)), (12, .int (nI q)), (11, .int (nI r)), (5, .int (nI k)), (4, .ref (ad 192)), (3, .ref (ad 256)), (2, .ref (ad 128)), (1, .int (nI tm)), (0, .ref b9)] rfl ?_
        exact ih (i + 1) c_105 (by omega) hL_105
      · subst h1
        refine r_iload X 3 d_Law_law_321 rfl ?_
        refine r_if_lt X 333 d_Law_law_323 (by decide) (fun h9 => absurd h9 (nI_pos (by omega))) (fun _ => ?_)
        refine r_iload X 1 d_Law_law_326 rfl ?_
        refine r_iload X 3 d_Law_law_328 rfl ?_
        refine r_icmp_ge X 347 d_Law_law_330 (by decide) (fun _ => ?_) (fun h9 => absurd (nI_le (by omega) (by omega)) h9)
        refine r_iload X 1 d_Law_law_347 rfl ?_
        refine r_iload X 3 d_Law_law_349 rfl ?_
        refine r_icmp_ne X 372 d_Law_law_351 (by decide) (fun h9 => absurd rfl h9) (fun _ => ?_)
        refine r_aload X 7 d_Law_law_354 rfl ?_
        refine r_iload X 5 d_Law_law_356 rfl ?_
        refine r_bipush X 13 d_Law_law_358 (by decide) ?_
        obtain ⟨J_107, hC_107⟩ := TB_ct hL_101.1
        have hC_107 : shC 192 c_101 = cont cy (shA 192 ad) (psF S t (i + 1)) J_107 := hC_107
        refine r_Vi X W0_good hN (As := [.int (nI r), .int 13]) (ct_i 192 (S' := psF S t (i + 1)) (v := (sRc (psF S t (i + 1)) r).2.2.2.2.2.2.2.1) hC_107 (c_G_ofRoad l D cy (shA 192 ad) (psF S t (i + 1)) J_107 ((hG.ps (i + 1)).wf (by omega)) r 13 (by rw [(hG.ps (i + 1)).1]; exact hr5) (by decide)) (fun r a c' h => ⟨h.1, h.2.1, _, h.2.2⟩)) yv_G_ofRoad m_Law_53 (ct_obj hC_107) k_G.2.1 rfl rfl rfl ⟨by decide, by decide⟩ (Nat.le_of_ble_eq_true rfl) ⟨(by show cells + 0 ≤ 600064; omega), (by show slots + 0 ≤ 7301640; omega)⟩ d_Law_law_360 (fun r9_107 ad9_107 c_107 hp9 => ?_)
        obtain ⟨hr_107, rfl, hf_107, Jn_107, hD_107⟩ := hp9
        subst hr_107
        have hL_107 := LB_t hL_101 (wf_2 hw) (S' := psF S t (i + 1)) rfl hf_107 hD_107
        obtain ⟨⟨w4_t108, w5_t108, w7_t108, hb_t108⟩, -⟩ := id hL_107.1
        have hb_t108 : c_107 128 = some (.inr (6, [.ref (ad 192), .ref b9, .int d1, .ref (ad 129), w4_t108, w5_t108, .ref (ad 130), w7_t108, .int (nI (sNr (psF S t (i + 1)))), .int (nI (sNl (psF S t (i + 1)))), .int 0, .int ((sWe (psF S t (i + 1))).1), .int ((sWe (psF S t (i + 1))).2.1), .int ((sWe (psF S t (i + 1))).2.2.1), .int ((sWe (psF S t (i + 1))).2.2.2.1), .int ((sWe (psF S t (i + 1))).2.2.2.2), .int 100, .int 0, .int 0, .int 0, .int 0])) := hb_t108
        obtain ⟨⟨w4_o108, w5_o108, w7_o108, hb_o108⟩, -⟩ := id hL_107.2.1
        have hb_o108 : c_107 256 = some (.inr (6, [.ref (ad 320), .ref b9, .int d2, .ref (ad 257), w4_o108, w5_o108, .ref (ad 258), w7_o108, .int (nI (sNr S)), .int (nI (sNl S)), .int 0, .int ((sWe S).1), .int ((sWe S).2.1), .int ((sWe S).2.2.1), .int ((sWe S).2.2.2.1), .int ((sWe S).2.2.2.2), .int 100, .int 0, .int 0, .int 0, .int 0])) := hb_o108
        refine r_top (y := (tmx S r 0 + 1)) ((ps_tm hG hr5).trans (hfe (by omega))) ?_
        refine r_iload X 2 d_Law_law_363 rfl ?_
        refine r_iconst X 1 d_Law_law_365 (by decide) ?_
        refine r_iadd X d_Law_law_366 ?_
        refine r_icmp_eq X 372 d_Law_law_367 (by decide) (fun _ => ?_) (fun h9 => absurd rfl h9)
        refine r_iinc X 1 [(18, .int (nI (i + 1 + 1))), (19, .int (spF (psF S t i) (t + i) 1)), (17, .int (tmx S r 0)), (15, .int (nI (i + 1))), (12, .int (nI q)), (11, .int (nI r)), (5, .int (nI k)), (4, .ref (ad 192)), (3, .ref (ad 256)), (2, .ref (ad 128)), (1, .int (nI tm)), (0, .ref b9)] d_Law_law_372 rfl (nI_1 _) (by decide) rfl ?_
        refine r_goto X 301 d_Law_law_375 (by decide) ?_
        refine r_lv [0, 2, 3, 4, 5, 6, 7, 8, 9, 10, 11] [(18, .int (nI (i + 1 + 1))), (17, .int (tmx S r 0)), (15, .int (nI (i + 1))), (12, .int (nI q)), (11, .int (nI r)), (5, .int (nI k)), (4, .ref (ad 192)), (3, .ref (ad 256)), (2, .ref (ad 128)), (1, .int (nI tm)), (0, .ref b9)] rfl ?_
        exact ih (i + 1) c_107 (by omega) hL_107
      · refine r_iload X 3 d_Law_law_321 rfl ?_
        refine r_if_lt X 333 d_Law_law_323 (by decide) (fun h9 => absurd h9 (nI_pos (by omega))) (fun _ => ?_)
        refine r_iload X 1 d_Law_law_326 rfl ?_
        refine r_iload X 3 d_Law_law_328 rfl ?_
        refine r_icmp_ge X 347 d_Law_law_330 (by decide) (fun _ => ?_) (fun h9 => absurd (nI_le (by omega) (by omega)) h9)
        refine r_iload X 1 d_Law_law_347 rfl ?_
        refine r_iload X 3 d_Law_law_349 rfl ?_
        refine r_icmp_ne X 372 d_Law_law_351 (by decide) (fun _ => ?_) (fun h9 => absurd h9 (fun z => by have := (nI_eq (by omega) (by omega)).mp z; omega))
        refine r_iinc X 1 [(18, .int (nI (i + 1 + 1))), (19, .int (spF (psF S t i) (t + i) 1)), (17, .int (tmx S r 0)), (15, .int (nI f)), (12, .int (nI q)), (11, .int (nI r)), (5, .int (nI k)), (4, .ref (ad 192)), (3, .ref (ad 256)), (2, .ref (ad 128)), (1, .int (nI tm)), (0, .ref b9)] d_Law_law_372 rfl (nI_1 _) (by decide) rfl ?_
        refine r_goto X 301 d_Law_law_375 (by decide) ?_
        refine r_lv [0, 2, 3, 4, 5, 6, 7, 8, 9, 10, 11] [(18, .int (nI (i + 1 + 1))), (17, .int (tmx S r 0)), (15, .int (nI f)), (12, .int (nI q)), (11, .int (nI r)), (5, .int (nI k)), (4, .ref (ad 192)), (3, .ref (ad 256)), (2, .ref (ad 128)), (1, .int (nI tm)), (0, .ref b9)] rfl ?_
        exact ih (i + 1) c_101 (by omega) hL_101
set_option maxRecDepth 100000 in
set_option maxHeartbeats 4000000 in
theorem law_c {p : Program} {l : Launch} {e : Env} {s : State} {m : MethodId} {below : List Frame} {meth : Method} {cd : Code} {b9 L9 : Nat} {xs9 : Nat → Int32} {D : va_G} {cy : Nat → ClassId} (X : rX p s m #[Value.ref b9] cd b_Law_law 20 R_Law W0 D cls (TY cy) (fun q => s.heap.size ≤ q)) (hN : rN NW s) (hE : rE b9 L9 xs9 (fun q => s.heap.size ≤ q) s s.heap) (hL9 : L9 < 2 ^ 31) {Q : State → Prop} {C0 L0 D0 k tm dz : Nat} (hC0 : C0 + 10 ≤ 600000) (hL0 : L0 + 60 ≤ 7301000) (hD0 : D0 + 80 ≤ 900) (hk : k < 10) {ad : Nat → Nat} {c : rC} {S : cS} {t v h dq : Nat} (hG : GS S t v h) (ht : t ≤ 6 * k + 18 * (k / 3)) (hdq : dq ≤ D0 + 8 * k + 6) (hL : LB cy b9 (fun _ => none) S S (nI dq) (nI dz) ad c)
    (kk : ∀ (S' : cS) (t' v' h' dq' : Nat) (ad' : Nat → Nat) (c' : rC), GS S' t' v' h' → t' ≤ 6 * (k + 1) + 18 * ((k + 1) / 3) → dq' ≤ D0 + 8 * (k + 1) → LB cy b9 (fun _ => none) S' S' (nI dq') (nI dz) ad' c' → rW p l e room_1 s m #[Value.ref b9] below meth cd 20 D cls (fun q => s.heap.size ≤ q) (C0 + k + 1) (L0 + 6 * (k + 1)) Q ad' c' 412 [(5, .int (nI k)), (4, .ref (ad' 192)), (3, .ref (ad' 256)), (2, .ref (ad' 128)), (1, .int (nI tm)), (0, .ref b9)] []) : rW p l e room_1 s m #[Value.ref b9] below meth cd 20 D cls (fun q => s.heap.size ≤ q) (C0 + k) (L0 + 6 * k) Q ad c 176 [(5, .int (nI k)), (4, .ref (ad 192)), (3, .ref (ad 256)), (2, .ref (ad 128)), (1, .int (nI tm)), (0, .ref b9)] [] := by
  have hw := hG.wf (by omega)
  have h5 := hG.1
  obtain ⟨⟨w4_t0, w5_t0, w7_t0, hb_t0⟩, -⟩ := id hL.1
  have hb_t0 : c 128 = some (.inr (6, [.ref (ad 192), .ref b9, .int (nI dq), .ref (ad 129), w4_t0, w5_t0, .ref (ad 130), w7_t0, .int (nI (sNr S)), .int (nI (sNl S)), .int 0, .int ((sWe S).1), .int ((sWe S).2.1), .int ((sWe S).2.2.1), .int ((sWe S).2.2.2.1), .int ((sWe S).2.2.2.2), .int 100, .int 0, .int 0, .int 0, .int 0])) := hb_t0
  obtain ⟨⟨w4_o0, w5_o0, w7_o0, hb_o0⟩, -⟩ := id hL.2.1
  have hb_o0 : c 256 = some (.inr (6, [.ref (ad 320), .ref b9, .int (nI dz), .ref (ad 257), w4_o0, w5_o0, .ref (ad 258), w7_o0, .int (nI (sNr S)), .int (nI (sNl S)), .int 0, .int ((sWe S).1), .int ((sWe S).2.1), .int ((sWe S).2.2.1), .int ((sWe S).2.2.2.1), .int ((sWe S).2.2.2.2), .int 100, .int 0, .int 0, .int 0, .int 0])) := hb_o0
  refine r_aload_n X 3 d_Law_law_176 rfl rfl ?_
  refine r_iconst X 5 d_Law_law_177 (by decide) ?_
  refine x_Vi X W0_good hN hE (As := [.int (nI 5)]) (tb_xe 128 (S' := S) (wf_2 hw).1 (wf_2 hw).2 (v := nI (drw xs9 L9 dq 5)) (d' := nI (dq + 1)) (c_Told_draw l D cy b9 L9 xs9 (s2A 128 ad) (s2C 128 c) S dq 5 (by omega) (by decide) (by decide) hL9 (TB_dn hL.1)) (fun r a c' h => h)) yv_Told_draw m_Law_26 (hb_t0) k_Told.2.1 rfl rfl rfl ⟨by decide, by decide⟩ (Nat.le_of_ble_eq_true rfl) ⟨(by show C0 + k + 0 ≤ 600064; omega), (by show L0 + 6 * k + 0 ≤ 7301640; omega)⟩ d_Law_law_178 (fun r9_1 ad9_1 c_1 hp9 => ?_)
  obtain ⟨hr_1, rfl, hf_1, hT_1⟩ := hp9
  subst hr_1
  have hL_1 := LB_dt hL (wf_2 hw) hf_1 hT_1
  obtain ⟨⟨w4_t2, w5_t2, w7_t2, hb_t2⟩, -⟩ := id hL_1.1
  have hb_t2 : c_1 128 = some (.inr (6, [.ref (ad 192), .ref b9, .int (nI (dq + 1)), .ref (ad 129), w4_t2, w5_t2, .ref (ad 130), w7_t2, .int (nI (sNr S)), .int (nI (sNl S)), .int 0, .int ((sWe S).1), .int ((sWe S).2.1), .int ((sWe S).2.2.1), .int ((sWe S).2.2.2.1), .int ((sWe S).2.2.2.2), .int 100, .int 0, .int 0, .int 0, .int 0])) := hb_t2
  obtain ⟨⟨w4_o2, w5_o2, w7_o2, hb_o2⟩, -⟩ := id hL_1.2.1
  have hb_o2 : c_1 256 = some (.inr (6, [.ref (ad 320), .ref b9, .int (nI dz), .ref (ad 257), w4_o2, w5_o2, .ref (ad 258), w7_o2, .int (nI (sNr S)), .int (nI (sNl S)), .int 0, .int ((sWe S).1), .int ((sWe S).2.1), .int ((sWe S).2.2.1), .int ((sWe S).2.2.2.1), .int ((sWe S).2.2.2.2), .int 100, .int 0, .int 0, .int 0, .int 0])) := hb_o2
  obtain ⟨r, hr5, er⟩ : ∃ r, r < 5 ∧ nI (drw xs9 L9 dq 5) = nI r := ⟨_, drw_lt (by decide), rfl⟩
  refine r_top (y := nI r) er ?_
  refine r_istore X [(11, .int (nI r)), (5, .int (nI k)), (4, .ref (ad 192)), (3, .ref (ad 256)), (2, .ref (ad 128)), (1, .int (nI tm)), (0, .ref b9)] d_Law_law_181 (by decide) rfl ?_
  refine r_iconst X 1 d_Law_law_183 (by decide) ?_
  refine r_aload_n X 4 d_Law_law_184 rfl rfl ?_
  refine r_bipush X 6 d_Law_law_185 (by decide) ?_
  refine x_Vi X W0_good hN hE (As := [.int (nI 6)]) (tb_xe 128 (S' := S) (wf_2 hw).1 (wf_2 hw).2 (v := nI (drw xs9 L9 (dq + 1) 6)) (d' := nI (dq + 2)) (c_Told_draw l D cy b9 L9 xs9 (s2A 128 ad) (s2C 128 c_1) S (dq + 1) 6 (by omega) (by decide) (by decide) hL9 (TB_dn hL_1.1)) (fun r a c' h => h)) yv_Told_draw m_Law_26 (hb_t2) k_Told.2.1 rfl rfl rfl ⟨by decide, by decide⟩ (Nat.le_of_ble_eq_true rfl) ⟨(by show C0 + k + 0 ≤ 600064; omega), (by show L0 + 6 * k + 0 ≤ 7301640; omega)⟩ d_Law_law_187 (fun r9_3 ad9_3 c_3 hp9 => ?_)
  obtain ⟨hr_3, rfl, hf_3, hT_3⟩ := hp9
  subst hr_3
  have hL_3 := LB_dt hL_1 (wf_2 hw) hf_3 hT_3
  obtain ⟨⟨w4_t4, w5_t4, w7_t4, hb_t4⟩, -⟩ := id hL_3.1
  have hb_t4 : c_3 128 = some (.inr (6, [.ref (ad 192), .ref b9, .int (nI (dq + 2)), .ref (ad 129), w4_t4, w5_t4, .ref (ad 130), w7_t4, .int (nI (sNr S)), .int (nI (sNl S)), .int 0, .int ((sWe S).1), .int ((sWe S).2.1), .int ((sWe S).2.2.1), .int ((sWe S).2.2.2.1), .int ((sWe S).2.2.2.2), .int 100, .int 0, .int 0, .int 0, .int 0])) := hb_t4
  obtain ⟨⟨w4_o4, w5_o4, w7_o4, hb_o4⟩, -⟩ := id hL_3.2.1
  have hb_o4 : c_3 256 = some (.inr (6, [.ref (ad 320), .ref b9, .int (nI dz), .ref (ad 257), w4_o4, w5_o4, .ref (ad 258), w7_o4, .int (nI (sNr S)), .int (nI (sNl S)), .int 0, .int ((sWe S).1), .int ((sWe S).2.1), .int ((sWe S).2.2.1), .int ((sWe S).2.2.2.1), .int ((sWe S).2.2.2.2), .int 100, .int 0, .int 0, .int 0, .int 0])) := hb_o4
  refine r_iadd X d_Law_law_190 ?_
  obtain ⟨q, q1, q6, eq⟩ : ∃ q, 1 ≤ q ∧ q ≤ 6 ∧ 1 + (nI (drw xs9 L9 (dq + 1) 6)) = nI q := ⟨1 + drw xs9 L9 (dq + 1) 6, by omega, (by have h9 : drw xs9 L9 (dq + 1) 6 < 6 := drw_lt (by decide); omega), nI_add 1 _⟩
  refine r_top (y := nI q) eq ?_
  obtain ⟨f, hfq, hfi, hfs, hfe⟩ := fir (S := S) (r := r) (q := q) (by omega)
  refine r_istore X [(12, .int (nI q)), (11, .int (nI r)), (5, .int (nI k)), (4, .ref (ad 192)), (3, .ref (ad 256)), (2, .ref (ad 128)), (1, .int (nI tm)), (0, .ref b9)] d_Law_law_191 (by decide) rfl ?_
  refine r_aload X 3 d_Law_law_193 rfl ?_
  obtain ⟨J_5, hC_5⟩ := TB_ct hL_3.1
  have hC_5 : shC 192 c_3 = cont cy (shA 192 ad) S J_5 := hC_5
  refine r_Vl X W0_good hN (As := []) (ct_l 192 (S' := S) (v := digF S) hC_5 (c_G_digest l D cy (shA 192 ad) S J_5 hw) (fun r a c' h => ⟨h.1, h.2.1, h.2.2⟩)) yv_G_digest m_Law_34 (ct_obj hC_5) k_G.2.1 rfl rfl rfl ⟨by decide, by decide⟩ (Nat.le_of_ble_eq_true rfl) ⟨(by show C0 + k + 0 ≤ 600064; omega), (by show L0 + 6 * k + 0 ≤ 7301640; omega)⟩ d_Law_law_195 (fun r9_5 ad9_5 c_5 hp9 => ?_)
  obtain ⟨hr_5, rfl, hf_5, Jn_5, hD_5⟩ := hp9
  subst hr_5
  have hL_5 := LB_t hL_3 (wf_2 hw) (S' := S) rfl hf_5 hD_5
  obtain ⟨⟨w4_t6, w5_t6, w7_t6, hb_t6⟩, -⟩ := id hL_5.1
  have hb_t6 : c_5 128 = some (.inr (6, [.ref (ad 192), .ref b9, .int (nI (dq + 2)), .ref (ad 129), w4_t6, w5_t6, .ref (ad 130), w7_t6, .int (nI (sNr S)), .int (nI (sNl S)), .int 0, .int ((sWe S).1), .int ((sWe S).2.1), .int ((sWe S).2.2.1), .int ((sWe S).2.2.2.1), .int ((sWe S).2.2.2.2), .int 100, .int 0, .int 0, .int 0, .int 0])) := hb_t6
  obtain ⟨⟨w4_o6, w5_o6, w7_o6, hb_o6⟩, -⟩ := id hL_5.2.1
  have hb_o6 : c_5 256 = some (.inr (6, [.ref (ad 320), .ref b9, .int (nI dz), .ref (ad 257), w4_o6, w5_o6, .ref (ad 258), w7_o6, .int (nI (sNr S)), .int (nI (sNl S)), .int 0, .int ((sWe S).1), .int ((sWe S).2.1), .int ((sWe S).2.2.1), .int ((sWe S).2.2.2.1), .int ((sWe S).2.2.2.2), .int 100, .int 0, .int 0, .int 0, .int 0])) := hb_o6
  refine r_lstore X [(13, .long (digF S)), (12, .int (nI q)), (11, .int (nI r)), (5, .int (nI k)), (4, .ref (ad 192)), (3, .ref (ad 256)), (2, .ref (ad 128)), (1, .int (nI tm)), (0, .ref b9)] d_Law_law_198 (by decide) rfl ?_
  refine r_lload X 0 d_Law_law_200 rfl ?_
  refine r_aload_n X 5 d_Law_law_202 rfl rfl ?_
  refine r_get X k_Told 0 (by decide) f_Law_14 rfl hb_o6 rfl d_Law_law_203 ?_
  obtain ⟨J_7, hC_7⟩ := TB_ct hL_5.2.1
  have hC_7 : shC 320 c_5 = cont cy (shA 320 ad) S J_7 := hC_7
  refine r_Vl X W0_good hN (As := []) (ct_l 320 (S' := S) (v := digF S) hC_7 (c_G_digest l D cy (shA 320 ad) S J_7 hw) (fun r a c' h => ⟨h.1, h.2.1, h.2.2⟩)) yv_G_digest m_Law_34 (ct_obj hC_7) k_G.2.1 rfl rfl rfl ⟨by decide, by decide⟩ (Nat.le_of_ble_eq_true rfl) ⟨(by show C0 + k + 0 ≤ 600064; omega), (by show L0 + 6 * k + 0 ≤ 7301640; omega)⟩ d_Law_law_206 (fun r9_7 ad9_7 c_7 hp9 => ?_)
  obtain ⟨hr_7, rfl, hf_7, Jn_7, hD_7⟩ := hp9
  subst hr_7
  have hL_7 := LB_o hL_5 (wf_2 hw) (S' := S) rfl hf_7 hD_7
  obtain ⟨⟨w4_t8, w5_t8, w7_t8, hb_t8⟩, -⟩ := id hL_7.1
  have hb_t8 : c_7 128 = some (.inr (6, [.ref (ad 192), .ref b9, .int (nI (dq + 2)), .ref (ad 129), w4_t8, w5_t8, .ref (ad 130), w7_t8, .int (nI (sNr S)), .int (nI (sNl S)), .int 0, .int ((sWe S).1), .int ((sWe S).2.1), .int ((sWe S).2.2.1), .int ((sWe S).2.2.2.1), .int ((sWe S).2.2.2.2), .int 100, .int 0, .int 0, .int 0, .int 0])) := hb_t8
  obtain ⟨⟨w4_o8, w5_o8, w7_o8, hb_o8⟩, -⟩ := id hL_7.2.1
  have hb_o8 : c_7 256 = some (.inr (6, [.ref (ad 320), .ref b9, .int (nI dz), .ref (ad 257), w4_o8, w5_o8, .ref (ad 258), w7_o8, .int (nI (sNr S)), .int (nI (sNl S)), .int 0, .int ((sWe S).1), .int ((sWe S).2.1), .int ((sWe S).2.2.1), .int ((sWe S).2.2.2.1), .int ((sWe S).2.2.2.2), .int 100, .int 0, .int 0, .int 0, .int 0])) := hb_o8
  refine r_lcmp X d_Law_law_209 ?_
  refine r_top (y := 0) (lg_self _) ?_
  refine r_if_eq X 215 d_Law_law_210 (by decide) (fun _ => ?_) (fun h9 => absurd h9 (by decide))
  refine r_aload X 4 d_Law_law_215 rfl ?_
  refine r_iload X 2 d_Law_law_217 rfl ?_
  refine r_iload X 1 d_Law_law_219 rfl ?_
  obtain ⟨J_9, hC_9⟩ := TB_ct hL_7.1
  have hC_9 : shC 192 c_7 = cont cy (shA 192 ad) S J_9 := hC_9
  refine r_Vi X W0_good hN (As := [.int (nI r), .int (nI q)]) (ct_i 192 (S' := S) (v := fsR S r 0 q) hC_9 (c_G_slipperyIn l D cy (shA 192 ad) S J_9 hw r q (by rw [h5]; exact hr5) q1 (by omega)) (fun r a c' h => ⟨h.1, h.2.1, (let ⟨_, q⟩ := h.2.2; ⟨_, q⟩)⟩)) yv_G_slipperyIn m_Law_40 (ct_obj hC_9) k_G.2.1 rfl rfl rfl ⟨by decide, by decide⟩ (Nat.le_of_ble_eq_true rfl) ⟨(by show C0 + k + 0 ≤ 600064; omega), (by show L0 + 6 * k + 0 ≤ 7301640; omega)⟩ d_Law_law_221 (fun r9_9 ad9_9 c_9 hp9 => ?_)
  obtain ⟨hr_9, rfl, hf_9, Jn_9, hD_9⟩ := hp9
  subst hr_9
  have hL_9 := LB_t hL_7 (wf_2 hw) (S' := S) rfl hf_9 hD_9
  obtain ⟨⟨w4_t10, w5_t10, w7_t10, hb_t10⟩, -⟩ := id hL_9.1
  have hb_t10 : c_9 128 = some (.inr (6, [.ref (ad 192), .ref b9, .int (nI (dq + 2)), .ref (ad 129), w4_t10, w5_t10, .ref (ad 130), w7_t10, .int (nI (sNr S)), .int (nI (sNl S)), .int 0, .int ((sWe S).1), .int ((sWe S).2.1), .int ((sWe S).2.2.1), .int ((sWe S).2.2.2.1), .int ((sWe S).2.2.2.2), .int 100, .int 0, .int 0, .int 0, .int 0])) := hb_t10
  obtain ⟨⟨w4_o10, w5_o10, w7_o10, hb_o10⟩, -⟩ := id hL_9.2.1
  have hb_o10 : c_9 256 = some (.inr (6, [.ref (ad 320), .ref b9, .int (nI dz), .ref (ad 257), w4_o10, w5_o10, .ref (ad 258), w7_o10, .int (nI (sNr S)), .int (nI (sNl S)), .int 0, .int ((sWe S).1), .int ((sWe S).2.1), .int ((sWe S).2.2.1), .int ((sWe S).2.2.2.1), .int ((sWe S).2.2.2.2), .int 100, .int 0, .int 0, .int 0, .int 0])) := hb_o10
  refine r_istore X [(15, .int (fsR S r 0 q)), (13, .long (digF S)), (12, .int (nI q)), (11, .int (nI r)), (5, .int (nI k)), (4, .ref (ad 192)), (3, .ref (ad 256)), (2, .ref (ad 128)), (1, .int (nI tm)), (0, .ref b9)] d_Law_law_224 (by decide) rfl ?_
  refine r_aload X 5 d_Law_law_226 rfl ?_
  refine r_iload X 3 d_Law_law_228 rfl ?_
  refine r_iload X 2 d_Law_law_230 rfl ?_
  obtain ⟨J_11, hC_11⟩ := TB_ct hL_9.1
  have hC_11 : shC 192 c_9 = cont cy (shA 192 ad) S J_11 := hC_11
  refine r_Vi X W0_good hN (As := [.int (nI r), .int (nI q)]) (ct_i 192 (S' := S) (v := lsF S r q 61 0) hC_11 (c_G_saltFor l D cy (shA 192 ad) S J_11 hw r q (by rw [h5]; exact hr5) q1 (by omega)) (fun r a c' h => ⟨h.1, h.2.1, (let ⟨_, q⟩ := h.2.2; ⟨_, q⟩)⟩)) yv_G_saltFor m_Law_44 (ct_obj hC_11) k_G.2.1 rfl rfl rfl ⟨by decide, by decide⟩ (Nat.le_of_ble_eq_true rfl) ⟨(by show C0 + k + 0 ≤ 600064; omega), (by show L0 + 6 * k + 0 ≤ 7301640; omega)⟩ d_Law_law_232 (fun r9_11 ad9_11 c_11 hp9 => ?_)
  obtain ⟨hr_11, rfl, hf_11, Jn_11, hD_11⟩ := hp9
  subst hr_11
  have hL_11 := LB_t hL_9 (wf_2 hw) (S' := S) rfl hf_11 hD_11
  obtain ⟨⟨w4_t12, w5_t12, w7_t12, hb_t12⟩, -⟩ := id hL_11.1
  have hb_t12 : c_11 128 = some (.inr (6, [.ref (ad 192), .ref b9, .int (nI (dq + 2)), .ref (ad 129), w4_t12, w5_t12, .ref (ad 130), w7_t12, .int (nI (sNr S)), .int (nI (sNl S)), .int 0, .int ((sWe S).1), .int ((sWe S).2.1), .int ((sWe S).2.2.1), .int ((sWe S).2.2.2.1), .int ((sWe S).2.2.2.2), .int 100, .int 0, .int 0, .int 0, .int 0])) := hb_t12
  obtain ⟨⟨w4_o12, w5_o12, w7_o12, hb_o12⟩, -⟩ := id hL_11.2.1
  have hb_o12 : c_11 256 = some (.inr (6, [.ref (ad 320), .ref b9, .int (nI dz), .ref (ad 257), w4_o12, w5_o12, .ref (ad 258), w7_o12, .int (nI (sNr S)), .int (nI (sNl S)), .int 0, .int ((sWe S).1), .int ((sWe S).2.1), .int ((sWe S).2.2.1), .int ((sWe S).2.2.2.1), .int ((sWe S).2.2.2.2), .int 100, .int 0, .int 0, .int 0, .int 0])) := hb_o12
  refine r_istore X [(16, .int (lsF S r q 61 0)), (15, .int (fsR S r 0 q)), (13, .long (digF S)), (12, .int (nI q)), (11, .int (nI r)), (5, .int (nI k)), (4, .ref (ad 192)), (3, .ref (ad 256)), (2, .ref (ad 128)), (1, .int (nI tm)), (0, .ref b9)] d_Law_law_235 (by decide) rfl ?_
  refine r_iload X 1 d_Law_law_237 rfl ?_
  refine r_cut (fun u9 : Int32 => u9 = (if 0 ≤ (fsR S r 0 q) then 0 else 1)) (fun _ => c_11) 247 (fun _ => [(16, .int (lsF S r q 61 0)), (15, .int (fsR S r 0 q)), (13, .long (digF S)), (12, .int (nI q)), (11, .int (nI r)), (5, .int (nI k)), (4, .ref (ad 192)), (3, .ref (ad 256)), (2, .ref (ad 128)), (1, .int (nI tm)), (0, .ref b9)]) (fun u9 => [.int u9]) (fun J9 => ?_) (fun t_1 ht_1 => ?_)
  · refine r_if_ge X 246 d_Law_law_239 (by decide) (fun h9 => ?_) (fun h9 => ?_)
    · refine r_iconst X 0 d_Law_law_246 (by decide) ?_
      exact J9 _ (if_pos h9).symm
    · refine r_iconst X 1 d_Law_law_242 (by decide) ?_
      refine r_goto X 247 d_Law_law_243 (by decide) ?_
      exact J9 _ (if_neg h9).symm
  subst ht_1
  refine r_iload X 0 d_Law_law_247 rfl ?_
  refine r_cut (fun u9 : Int32 => u9 = (if (lsF S r q 61 0) = 0 then 1 else 0)) (fun _ => c_11) 257 (fun _ => [(16, .int (lsF S r q 61 0)), (15, .int (fsR S r 0 q)), (13, .long (digF S)), (12, .int (nI q)), (11, .int (nI r)), (5, .int (nI k)), (4, .ref (ad 192)), (3, .ref (ad 256)), (2, .ref (ad 128)), (1, .int (nI tm)), (0, .ref b9)]) (fun u9 => [.int u9, .int (if 0 ≤ (fsR S r 0 q) then 0 else 1)]) (fun J9 => ?_) (fun t_2 ht_2 => ?_)
  · refine r_if_ne X 256 d_Law_law_249 (by decide) (fun h9 => ?_) (fun h9 => ?_)
    · refine r_iconst X 0 d_Law_law_256 (by decide) ?_
      exact J9 _ (if_neg h9).symm
    · refine r_iconst X 1 d_Law_law_252 (by decide) ?_
      refine r_goto X 257 d_Law_law_253 (by decide) ?_
      exact J9 _ (if_pos h9).symm
  subst ht_2
  refine r_icmp_ne X 267 d_Law_law_257 (by decide) (fun h9 => absurd (fl_eq (by omega) hfi) h9) (fun _ => ?_)
  refine r_iload X 1 d_Law_law_260 rfl ?_
  refine r_iload X 3 d_Law_law_262 rfl ?_
  refine r_icmp_le X 269 d_Law_law_264 (by decide) (fun _ => ?_) (fun h9 => absurd (fl_le (by omega) hfq hfi) h9)
  refine r_lv [1, 3, 4, 5, 6, 7, 8, 9, 10] [(15, .int (fsR S r 0 q)), (12, .int (nI q)), (11, .int (nI r)), (5, .int (nI k)), (4, .ref (ad 192)), (3, .ref (ad 256)), (2, .ref (ad 128)), (1, .int (nI tm)), (0, .ref b9)] rfl ?_
  refine r_iload X 3 d_Law_law_269 rfl ?_
  refine r_iconst X 3 d_Law_law_271 (by decide) ?_
  refine r_irem X d_Law_law_272 (by decide) ?_
  refine r_top (y := nI (k % 3)) (nI_r (b := 3) (by omega) (by decide)) ?_
  by_cases hk3 : k % 3 = 2
  · refine r_iconst X 2 d_Law_law_273 (by decide) ?_
    refine r_icmp_ne X 287 d_Law_law_274 (by decide) (fun h9 => absurd (show nI (k % 3) = 2 from by rw [hk3]; rfl) h9) (fun _ => ?_)
    refine r_aload_n X 6 d_Law_law_277 rfl rfl ?_
    refine r_aload_n X 5 d_Law_law_278 rfl rfl ?_
    refine r_Si X W0_good hN (As := [.ref (ad 128), .ref (ad 256)]) (c_Law_isDriven l D cy b9 ad c_11 S t v h hG (by omega) (nI (dq + 2)) (nI dz) hL_11) ys_Law_isDriven m_Law_47 rfl rfl ⟨by decide, by decide⟩ (Nat.le_of_ble_eq_true rfl) ⟨(by show C0 + k + 1 ≤ 600064; omega), (by show L0 + 6 * k + 6 ≤ 7301640; omega)⟩ d_Law_law_279 (fun r9 ad9 c9 hp9 => ?_)
    obtain ⟨rfl, had, S9, t9, v9, h9, hG9, ht9, hL9b⟩ := hp9
    refine r_lv [3, 4, 5, 6, 7, 8] [(5, .int (nI k)), (4, .ref (ad 192)), (3, .ref (ad 256)), (2, .ref (ad 128)), (1, .int (nI tm)), (0, .ref b9)] rfl ?_
    refine r_show c9 [(5, .int (nI k)), (4, .ref (ad9 192)), (3, .ref (ad9 256)), (2, .ref (ad9 128)), (1, .int (nI tm)), (0, .ref b9)] [.int 1] rfl (by rw [had 192 (by decide), had 256 (by decide), had 128 (by decide)]) rfl ?_
    refine r_if_ne X 412 d_Law_law_282 (by decide) (fun _ => ?_) (fun h9 => absurd h9 (by decide))
    refine r_lv [0, 1, 2, 3, 4, 5] [(5, .int (nI k)), (4, .ref (ad9 192)), (3, .ref (ad9 256)), (2, .ref (ad9 128)), (1, .int (nI tm)), (0, .ref b9)] rfl ?_
    refine r_wide (C0 + k + 1) (L0 + 6 * (k + 1)) (Nat.le_refl _) (by show L0 + 6 * k + 6 ≤ L0 + 6 * (k + 1); omega) ?_
    exact kk S9 t9 v9 h9 (dq + 2) ad9 c9 hG9 (by omega) (by omega) hL9b
  · refine r_iconst X 2 d_Law_law_273 (by decide) ?_
    refine r_icmp_ne X 287 d_Law_law_274 (by decide) (fun _ => ?_) (fun h9 => absurd ((nI_eq (b := 2) (by omega) (by decide)).mp h9) hk3)
    refine r_aload X 4 d_Law_law_287 rfl ?_
    refine r_iload X 2 d_Law_law_289 rfl ?_
    refine r_bipush X 13 d_Law_law_291 (by decide) ?_
    obtain ⟨J_13, hC_13⟩ := TB_ct hL_11.1
    have hC_13 : shC 192 c_11 = cont cy (shA 192 ad) S J_13 := hC_13
    refine r_Vi X W0_good hN (As := [.int (nI r), .int 13]) (ct_i 192 (S' := S) (v := (sRc S r).2.2.2.2.2.2.2.1) hC_13 (c_G_ofRoad l D cy (shA 192 ad) S J_13 hw r 13 (by rw [h5]; exact hr5) (by decide)) (fun r a c' h => ⟨h.1, h.2.1, _, h.2.2⟩)) yv_G_ofRoad m_Law_53 (ct_obj hC_13) k_G.2.1 rfl rfl rfl ⟨by decide, by decide⟩ (Nat.le_of_ble_eq_true rfl) ⟨(by show C0 + k + 0 ≤ 600064; omega), (by show L0 + 6 * k + 0 ≤ 7301640; omega)⟩ d_Law_law_293 (fun r9_13 ad9_13 c_13 hp9 => ?_)
    obtain ⟨hr_13, rfl, hf_13, Jn_13, hD_13⟩ := hp9
    subst hr_13
    have hL_13 := LB_t hL_11 (wf_2 hw) (S' := S) rfl hf_13 hD_13
    obtain ⟨⟨w4_t14, w5_t14, w7_t14, hb_t14⟩, -⟩ := id hL_13.1
    have hb_t14 : c_13 128 = some (.inr (6, [.ref (ad 192), .ref b9, .int (nI (dq + 2)), .ref (ad 129), w4_t14, w5_t14, .ref (ad 130), w7_t14, .int (nI (sNr S)), .int (nI (sNl S)), .int 0, .int ((sWe S).1), .int ((sWe S).2.1), .int ((sWe S).2.2.1), .int ((sWe S).2.2.2.1), .int ((sWe S).2.2.2.2), .int 100, .int 0, .int 0, .int 0, .int 0])) := hb_t14
    obtain ⟨⟨w4_o14, w5_o14, w7_o14, hb_o14⟩, -⟩ := id hL_13.2.1
    have hb_o14 : c_13 256 = some (.inr (6, [.ref (ad 320), .ref b9, .int (nI dz), .ref (ad 257), w4_o14, w5_o14, .ref (ad 258), w7_o14, .int (nI (sNr S)), .int (nI (sNl S)), .int 0, .int ((sWe S).1), .int ((sWe S).2.1), .int ((sWe S).2.2.1), .int ((sWe S).2.2.2.1), .int ((sWe S).2.2.2.2), .int 100, .int 0, .int 0, .int 0, .int 0])) := hb_o14
    refine r_top (y := tmx S r 0) rfl ?_
    refine r_istore X [(17, .int (tmx S r 0)), (15, .int (fsR S r 0 q)), (12, .int (nI q)), (11, .int (nI r)), (5, .int (nI k)), (4, .ref (ad 192)), (3, .ref (ad 256)), (2, .ref (ad 128)), (1, .int (nI tm)), (0, .ref b9)] d_Law_law_296 (by decide) rfl ?_
    refine r_iconst X 1 d_Law_law_298 (by decide) ?_
    refine r_istore X [(18, .int 1), (17, .int (tmx S r 0)), (15, .int (fsR S r 0 q)), (12, .int (nI q)), (11, .int (nI r)), (5, .int (nI k)), (4, .ref (ad 192)), (3, .ref (ad 256)), (2, .ref (ad 128)), (1, .int (nI tm)), (0, .ref b9)] d_Law_law_299 (by decide) rfl ?_
    refine r_lv [0, 1, 2, 3, 4, 5, 6, 7, 8, 9, 10] [(18, .int 1), (17, .int (tmx S r 0)), (15, .int (fsR S r 0 q)), (12, .int (nI q)), (11, .int (nI r)), (5, .int (nI k)), (4, .ref (ad 192)), (3, .ref (ad 256)), (2, .ref (ad 128)), (1, .int (nI tm)), (0, .ref b9)] rfl ?_
    refine r_show c_13 [(18, .int (nI (0 + 1))), (17, .int (tmx S r 0)), (15, .int (fsR S r 0 q)), (12, .int (nI q)), (11, .int (nI r)), (5, .int (nI k)), (4, .ref (ad 192)), (3, .ref (ad 256)), (2, .ref (ad 128)), (1, .int (nI tm)), (0, .ref b9)] [] rfl rfl rfl ?_
    refine law_d X hN hE hL9 (cells := C0 + k) (slots := L0 + 6 * k) (by omega) (by omega) (S := S) (t := t) (v := v) (h := h) (r := r) (q := q) (f := f) (fi := fsR S r 0 q) (d1 := nI (dq + 2)) (d2 := nI dz) hG (by omega) hr5 q6 hfi hfs hfe hfq (fun c5 hL5 => ?_) q 0 _ (Nat.zero_add _) hL_13
    have hwU := (hG.ps q).wf (by omega)
    obtain ⟨⟨w4_t15, w5_t15, w7_t15, hb_t15⟩, -⟩ := id hL5.1
    have hb_t15 : c5 128 = some (.inr (6, [.ref (ad 192), .ref b9, .int (nI (dq + 2)), .ref (ad 129), w4_t15, w5_t15, .ref (ad 130), w7_t15, .int (nI (sNr (psF S t q))), .int (nI (sNl (psF S t q))), .int 0, .int ((sWe (psF S t q)).1), .int ((sWe (psF S t q)).2.1), .int ((sWe (psF S t q)).2.2.1), .int ((sWe (psF S t q)).2.2.2.1), .int ((sWe (psF S t q)).2.2.2.2), .int 100, .int 0, .int 0, .int 0, .int 0])) := hb_t15
    obtain ⟨⟨w4_o15, w5_o15, w7_o15, hb_o15⟩, -⟩ := id hL5.2.1
    have hb_o15 : c5 256 = some (.inr (6, [.ref (ad 320), .ref b9, .int (nI dz), .ref (ad 257), w4_o15, w5_o15, .ref (ad 258), w7_o15, .int (nI (sNr S)), .int (nI (sNl S)), .int 0, .int ((sWe S).1), .int ((sWe S).2.1), .int ((sWe S).2.2.1), .int ((sWe S).2.2.2.1), .int ((sWe S).2.2.2.2), .int 100, .int 0, .int 0, .int 0, .int 0])) := hb_o15
    refine r_aload_n X 3 d_Law_law_378 rfl rfl ?_
    refine r_get X k_Told 0 (by decide) f_Law_14 rfl hb_o15 rfl d_Law_law_379 ?_
    refine r_iload X 0 d_Law_law_382 rfl ?_
    obtain ⟨J_16, hC_16⟩ := TB_ct hL5.2.1
    have hC_16 : shC 320 c5 = cont cy (shA 320 ad) S J_16 := hC_16
    refine r_Vi X W0_good hN (As := [.int (nI q)]) (ct_i 320 (S' := psF S t q) (v := spF S t q) hC_16 (c_G_pass l D cy (shA 320 ad) S J_16 hw t q q1 (by omega) (by omega) hG.2.1) (fun r a c' h => ⟨h.1, h.2.1, _, h.2.2⟩)) yv_G_pass m_Law_56 (ct_obj hC_16) k_G.2.1 rfl rfl rfl ⟨by decide, by decide⟩ (Nat.le_of_ble_eq_true rfl) ⟨(by show C0 + k + 0 ≤ 600064; omega), (by show L0 + 6 * k + 0 ≤ 7301640; omega)⟩ d_Law_law_384 (fun r9_16 ad9_16 c_16 hp9 => ?_)
    obtain ⟨hr_16, rfl, hf_16, Jn_16, hD_16⟩ := hp9
    subst hr_16
    have hL_16 := LB_o hL5 (wf_2 hwU) (S' := psF S t q) (tr_ps q) hf_16 hD_16
    obtain ⟨⟨w4_t17, w5_t17, w7_t17, hb_t17⟩, -⟩ := id hL_16.1
    have hb_t17 : c_16 128 = some (.inr (6, [.ref (ad 192), .ref b9, .int (nI (dq + 2)), .ref (ad 129), w4_t17, w5_t17, .ref (ad 130), w7_t17, .int (nI (sNr (psF S t q))), .int (nI (sNl (psF S t q))), .int 0, .int ((sWe (psF S t q)).1), .int ((sWe (psF S t q)).2.1), .int ((sWe (psF S t q)).2.2.1), .int ((sWe (psF S t q)).2.2.2.1), .int ((sWe (psF S t q)).2.2.2.2), .int 100, .int 0, .int 0, .int 0, .int 0])) := hb_t17
    obtain ⟨⟨w4_o17, w5_o17, w7_o17, hb_o17⟩, -⟩ := id hL_16.2.1
    have hb_o17 : c_16 256 = some (.inr (6, [.ref (ad 320), .ref b9, .int (nI dz), .ref (ad 257), w4_o17, w5_o17, .ref (ad 258), w7_o17, .int (nI (sNr (psF S t q))), .int (nI (sNl (psF S t q))), .int 0, .int ((sWe (psF S t q)).1), .int ((sWe (psF S t q)).2.1), .int ((sWe (psF S t q)).2.2.1), .int ((sWe (psF S t q)).2.2.2.1), .int ((sWe (psF S t q)).2.2.2.2), .int 100, .int 0, .int 0, .int 0, .int 0])) := hb_o17
    refine r_istore X [(18, .int (spF S t q)), (12, .int (nI q)), (5, .int (nI k)), (4, .ref (ad 192)), (3, .ref (ad 256)), (2, .ref (ad 128)), (1, .int (nI tm)), (0, .ref b9)] d_Law_law_387 (by decide) rfl ?_
    refine r_iload X 0 d_Law_law_389 rfl ?_
    refine r_if_lt X 410 d_Law_law_391 (by decide) (fun h9 => absurd h9 (sp_nn (by omega))) (fun _ => ?_)
    refine r_aload X 3 d_Law_law_394 rfl ?_
    obtain ⟨J_18, hC_18⟩ := TB_ct hL_16.1
    have hC_18 : shC 192 c_16 = cont cy (shA 192 ad) (psF S t q) J_18 := hC_18
    refine r_Vl X W0_good hN (As := []) (ct_l 192 (S' := psF S t q) (v := digF (psF S t q)) hC_18 (c_G_digest l D cy (shA 192 ad) (psF S t q) J_18 hwU) (fun r a c' h => ⟨h.1, h.2.1, h.2.2⟩)) yv_G_digest m_Law_34 (ct_obj hC_18) k_G.2.1 rfl rfl rfl ⟨by decide, by decide⟩ (Nat.le_of_ble_eq_true rfl) ⟨(by show C0 + k + 0 ≤ 600064; omega), (by show L0 + 6 * k + 0 ≤ 7301640; omega)⟩ d_Law_law_396 (fun r9_18 ad9_18 c_18 hp9 => ?_)
    obtain ⟨hr_18, rfl, hf_18, Jn_18, hD_18⟩ := hp9
    subst hr_18
    have hL_18 := LB_t hL_16 (wf_2 hwU) (S' := psF S t q) rfl hf_18 hD_18
    obtain ⟨⟨w4_t19, w5_t19, w7_t19, hb_t19⟩, -⟩ := id hL_18.1
    have hb_t19 : c_18 128 = some (.inr (6, [.ref (ad 192), .ref b9, .int (nI (dq + 2)), .ref (ad 129), w4_t19, w5_t19, .ref (ad 130), w7_t19, .int (nI (sNr (psF S t q))), .int (nI (sNl (psF S t q))), .int 0, .int ((sWe (psF S t q)).1), .int ((sWe (psF S t q)).2.1), .int ((sWe (psF S t q)).2.2.1), .int ((sWe (psF S t q)).2.2.2.1), .int ((sWe (psF S t q)).2.2.2.2), .int 100, .int 0, .int 0, .int 0, .int 0])) := hb_t19
    obtain ⟨⟨w4_o19, w5_o19, w7_o19, hb_o19⟩, -⟩ := id hL_18.2.1
    have hb_o19 : c_18 256 = some (.inr (6, [.ref (ad 320), .ref b9, .int (nI dz), .ref (ad 257), w4_o19, w5_o19, .ref (ad 258), w7_o19, .int (nI (sNr (psF S t q))), .int (nI (sNl (psF S t q))), .int 0, .int ((sWe (psF S t q)).1), .int ((sWe (psF S t q)).2.1), .int ((sWe (psF S t q)).2.2.1), .int ((sWe (psF S t q)).2.2.2.1), .int ((sWe (psF S t q)).2.2.2.2), .int 100, .int 0, .int 0, .int 0, .int 0])) := hb_o19
    refine r_aload_n X 4 d_Law_law_399 rfl rfl ?_
    refine r_get X k_Told 0 (by decide) f_Law_14 rfl hb_o19 rfl d_Law_law_400 ?_
    obtain ⟨J_20, hC_20⟩ := TB_ct hL_18.2.1
    have hC_20 : shC 320 c_18 = cont cy (shA 320 ad) (psF S t q) J_20 := hC_20
    refine r_Vl X W0_good hN (As := []) (ct_l 320 (S' := psF S t q) (v := digF (psF S t q)) hC_20 (c_G_digest l D cy (shA 320 ad) (psF S t q) J_20 hwU) (fun r a c' h => ⟨h.1, h.2.1, h.2.2⟩)) yv_G_digest m_Law_34 (ct_obj hC_20) k_G.2.1 rfl rfl rfl ⟨by decide, by decide⟩ (Nat.le_of_ble_eq_true rfl) ⟨(by show C0 + k + 0 ≤ 600064; omega), (by show L0 + 6 * k + 0 ≤ 7301640; omega)⟩ d_Law_law_403 (fun r9_20 ad9_20 c_20 hp9 => ?_)
    obtain ⟨hr_20, rfl, hf_20, Jn_20, hD_20⟩ := hp9
    subst hr_20
    have hL_20 := LB_o hL_18 (wf_2 hwU) (S' := psF S t q) rfl hf_20 hD_20
    obtain ⟨⟨w4_t21, w5_t21, w7_t21, hb_t21⟩, -⟩ := id hL_20.1
    have hb_t21 : c_20 128 = some (.inr (6, [.ref (ad 192), .ref b9, .int (nI (dq + 2)), .ref (ad 129), w4_t21, w5_t21, .ref (ad 130), w7_t21, .int (nI (sNr (psF S t q))), .int (nI (sNl (psF S t q))), .int 0, .int ((sWe (psF S t q)).1), .int ((sWe (psF S t q)).2.1), .int ((sWe (psF S t q)).2.2.1), .int ((sWe (psF S t q)).2.2.2.1), .int ((sWe (psF S t q)).2.2.2.2), .int 100, .int 0, .int 0, .int 0, .int 0])) := hb_t21
    obtain ⟨⟨w4_o21, w5_o21, w7_o21, hb_o21⟩, -⟩ := id hL_20.2.1
    have hb_o21 : c_20 256 = some (.inr (6, [.ref (ad 320), .ref b9, .int (nI dz), .ref (ad 257), w4_o21, w5_o21, .ref (ad 258), w7_o21, .int (nI (sNr (psF S t q))), .int (nI (sNl (psF S t q))), .int 0, .int ((sWe (psF S t q)).1), .int ((sWe (psF S t q)).2.1), .int ((sWe (psF S t q)).2.2.1), .int ((sWe (psF S t q)).2.2.2.1), .int ((sWe (psF S t q)).2.2.2.2), .int 100, .int 0, .int 0, .int 0, .int 0])) := hb_o21
    refine r_lcmp X d_Law_law_406 ?_
    refine r_top (y := 0) (lg_self _) ?_
    refine r_if_eq X 412 d_Law_law_407 (by decide) (fun _ => ?_) (fun h9 => absurd h9 (by decide))
    refine r_lv [2, 3, 4, 5, 6, 7] [(5, .int (nI k)), (4, .ref (ad 192)), (3, .ref (ad 256)), (2, .ref (ad 128)), (1, .int (nI tm)), (0, .ref b9)] rfl ?_
    refine r_wide (C0 + k + 1) (L0 + 6 * (k + 1)) (by show C0 + k ≤ C0 + k + 1; omega) (by show L0 + 6 * k ≤ L0 + 6 * (k + 1); omega) ?_
    exact kk (psF S t q) (t + q) v h (dq + 2) ad c_20 (hG.ps q) (by omega) (by omega) hL_20
set_option maxRecDepth 100000 in
set_option maxHeartbeats 4000000 in
theorem law_b {p : Program} {l : Launch} {e : Env} {s : State} {m : MethodId} {below : List Frame} {meth : Method} {cd : Code} {b9 L9 : Nat} {xs9 : Nat → Int32} {D : va_G} {cy : Nat → ClassId} (X : rX p s m #[Value.ref b9] cd b_Law_law 20 R_Law W0 D cls (TY cy) (fun q => s.heap.size ≤ q)) (hN : rN NW s) (hE : rE b9 L9 xs9 (fun q => s.heap.size ≤ q) s s.heap) (hL9 : L9 < 2 ^ 31) {Q : State → Prop} {C0 L0 D0 k tm dz : Nat} (hC0 : C0 + 10 ≤ 600000) (hL0 : L0 + 60 ≤ 7301000) (hD0 : D0 + 80 ≤ 900) (hk : k < 10) {ad : Nat → Nat} {c : rC} {S : cS} {t v h dq : Nat} {a z r f : Int32} (ha : inF a (-20) 20 = 1) (hzz : z = 0 ∨ z = 1) (hr0 : inF r 0 3 = 1) (hf0 : inF f 0 3 = 1) (hG : GS S t v h) (ht : t ≤ 6 * k + 18 * (k / 3)) (hdq : dq ≤ D0 + 8 * k + 5) (hL : LB cy b9 (fun _ => none) S S (nI dq) (nI dz) ad c)
    (kk : ∀ (S' : cS) (t' v' h' dq' : Nat) (ad' : Nat → Nat) (c' : rC), GS S' t' v' h' → t' ≤ 6 * (k + 1) + 18 * ((k + 1) / 3) → dq' ≤ D0 + 8 * (k + 1) → LB cy b9 (fun _ => none) S' S' (nI dq') (nI dz) ad' c' → rW p l e room_1 s m #[Value.ref b9] below meth cd 20 D cls (fun q => s.heap.size ≤ q) (C0 + k + 1) (L0 + 6 * (k + 1)) Q ad' c' 412 [(5, .int (nI k)), (4, .ref (ad' 192)), (3, .ref (ad' 256)), (2, .ref (ad' 128)), (1, .int (nI tm)), (0, .ref b9)] []) : rW p l e room_1 s m #[Value.ref b9] below meth cd 20 D cls (fun q => s.heap.size ≤ q) (C0 + k) (L0 + 6 * k) Q ad c 133 [(9, .int f), (8, .int r), (7, .int z), (6, .int a), (5, .int (nI k)), (4, .ref (ad 192)), (3, .ref (ad 256)), (2, .ref (ad 128)), (1, .int (nI tm)), (0, .ref b9)] [] := by
  have hw := hG.wf (by omega)
  obtain ⟨⟨w4_t0, w5_t0, w7_t0, hb_t0⟩, -⟩ := id hL.1
  have hb_t0 : c 128 = some (.inr (6, [.ref (ad 192), .ref b9, .int (nI dq), .ref (ad 129), w4_t0, w5_t0, .ref (ad 130), w7_t0, .int (nI (sNr S)), .int (nI (sNl S)), .int 0, .int ((sWe S).1), .int ((sWe S).2.1), .int ((sWe S).2.2.1), .int ((sWe S).2.2.2.1), .int ((sWe S).2.2.2.2), .int 100, .int 0, .int 0, .int 0, .int 0])) := hb_t0
  obtain ⟨⟨w4_o0, w5_o0, w7_o0, hb_o0⟩, -⟩ := id hL.2.1
  have hb_o0 : c 256 = some (.inr (6, [.ref (ad 320), .ref b9, .int (nI dz), .ref (ad 257), w4_o0, w5_o0, .ref (ad 258), w7_o0, .int (nI (sNr S)), .int (nI (sNl S)), .int 0, .int ((sWe S).1), .int ((sWe S).2.1), .int ((sWe S).2.2.1), .int ((sWe S).2.2.2.1), .int ((sWe S).2.2.2.2), .int 100, .int 0, .int 0, .int 0, .int 0])) := hb_o0
  refine r_aload_n X 7 d_Law_law_133 rfl rfl ?_
  refine r_iconst X 3 d_Law_law_134 (by decide) ?_
  refine x_Vi X W0_good hN hE (As := [.int (nI 3)]) (tb_xe 128 (S' := S) (wf_2 hw).1 (wf_2 hw).2 (v := nI (drw xs9 L9 dq 3)) (d' := nI (dq + 1)) (c_Told_draw l D cy b9 L9 xs9 (s2A 128 ad) (s2C 128 c) S dq 3 (by omega) (by decide) (by decide) hL9 (TB_dn hL.1)) (fun r a c' h => h)) yv_Told_draw m_Law_26 (hb_t0) k_Told.2.1 rfl rfl rfl ⟨by decide, by decide⟩ (Nat.le_of_ble_eq_true rfl) ⟨(by show C0 + k + 0 ≤ 600064; omega), (by show L0 + 6 * k + 0 ≤ 7301640; omega)⟩ d_Law_law_135 (fun r9_1 ad9_1 c_1 hp9 => ?_)
  obtain ⟨hr_1, rfl, hf_1, hT_1⟩ := hp9
  subst hr_1
  have hL_1 := LB_dt hL (wf_2 hw) hf_1 hT_1
  obtain ⟨⟨w4_t2, w5_t2, w7_t2, hb_t2⟩, -⟩ := id hL_1.1
  have hb_t2 : c_1 128 = some (.inr (6, [.ref (ad 192), .ref b9, .int (nI (dq + 1)), .ref (ad 129), w4_t2, w5_t2, .ref (ad 130), w7_t2, .int (nI (sNr S)), .int (nI (sNl S)), .int 0, .int ((sWe S).1), .int ((sWe S).2.1), .int ((sWe S).2.2.1), .int ((sWe S).2.2.2.1), .int ((sWe S).2.2.2.2), .int 100, .int 0, .int 0, .int 0, .int 0])) := hb_t2
  obtain ⟨⟨w4_o2, w5_o2, w7_o2, hb_o2⟩, -⟩ := id hL_1.2.1
  have hb_o2 : c_1 256 = some (.inr (6, [.ref (ad 320), .ref b9, .int (nI dz), .ref (ad 257), w4_o2, w5_o2, .ref (ad 258), w7_o2, .int (nI (sNr S)), .int (nI (sNl S)), .int 0, .int ((sWe S).1), .int ((sWe S).2.1), .int ((sWe S).2.2.1), .int ((sWe S).2.2.2.1), .int ((sWe S).2.2.2.2), .int 100, .int 0, .int 0, .int 0, .int 0])) := hb_o2
  obtain ⟨wi, hv0, ew⟩ : ∃ wi, inF wi 0 3 = 1 ∧ nI (drw xs9 L9 dq 3) = wi := ⟨_, inF_in (a := 0) (b := 3) (by omega) (by have h9 : drw xs9 L9 dq 3 < 3 := drw_lt (by decide); omega) (by decide), rfl⟩
  refine r_top (y := wi) ew ?_
  refine r_istore X [(10, .int wi), (9, .int f), (8, .int r), (7, .int z), (6, .int a), (5, .int (nI k)), (4, .ref (ad 192)), (3, .ref (ad 256)), (2, .ref (ad 128)), (1, .int (nI tm)), (0, .ref b9)] d_Law_law_138 (by decide) rfl ?_
  refine r_aload_n X 8 d_Law_law_140 rfl rfl ?_
  refine r_iload X 4 d_Law_law_141 rfl ?_
  refine r_iload X 3 d_Law_law_143 rfl ?_
  refine r_iload X 2 d_Law_law_145 rfl ?_
  refine r_iload X 1 d_Law_law_147 rfl ?_
  refine r_iload X 0 d_Law_law_149 rfl ?_
  refine r_Vi X W0_good hN (As := [.int a, .int z, .int r, .int f, .int wi]) (tb_ie 128 (S' := fallS (airS S a z) r f wi) hw.1 hw.2.1 (v := 1) (d' := nI (dq + 1)) (c_Told_sky l D cy b9 (s2A 128 ad) (s2C 128 c_1) S (dq + 1) hw a z r f wi ha hzz hr0 hf0 hv0 (TB_dn hL_1.1)) (fun r a c' h => h)) yv_Told_sky m_Law_30 (hb_t2) k_Told.2.1 rfl rfl rfl ⟨by decide, by decide⟩ (Nat.le_of_ble_eq_true rfl) ⟨(by show C0 + k + 0 ≤ 600064; omega), (by show L0 + 6 * k + 0 ≤ 7301640; omega)⟩ d_Law_law_151 (fun r9_3 ad9_3 c_3 hp9 => ?_)
  obtain ⟨hr_3, rfl, hf_3, hT_3⟩ := hp9
  subst hr_3
  have hL_3 := LB_dt hL_1 (wf_2 hw) hf_3 hT_3
  obtain ⟨⟨w4_t4, w5_t4, w7_t4, hb_t4⟩, -⟩ := id hL_3.1
  have hb_t4 : c_3 128 = some (.inr (6, [.ref (ad 192), .ref b9, .int (nI (dq + 1)), .ref (ad 129), w4_t4, w5_t4, .ref (ad 130), w7_t4, .int (nI (sNr (fallS (airS S a z) r f wi))), .int (nI (sNl (fallS (airS S a z) r f wi))), .int 0, .int ((sWe (fallS (airS S a z) r f wi)).1), .int ((sWe (fallS (airS S a z) r f wi)).2.1), .int ((sWe (fallS (airS S a z) r f wi)).2.2.1), .int ((sWe (fallS (airS S a z) r f wi)).2.2.2.1), .int ((sWe (fallS (airS S a z) r f wi)).2.2.2.2), .int 100, .int 0, .int 0, .int 0, .int 0])) := hb_t4
  obtain ⟨⟨w4_o4, w5_o4, w7_o4, hb_o4⟩, -⟩ := id hL_3.2.1
  have hb_o4 : c_3 256 = some (.inr (6, [.ref (ad 320), .ref b9, .int (nI dz), .ref (ad 257), w4_o4, w5_o4, .ref (ad 258), w7_o4, .int (nI (sNr S)), .int (nI (sNl S)), .int 0, .int ((sWe S).1), .int ((sWe S).2.1), .int ((sWe S).2.2.1), .int ((sWe S).2.2.2.1), .int ((sWe S).2.2.2.2), .int 100, .int 0, .int 0, .int 0, .int 0])) := hb_o4
  refine r_if_eq X 174 d_Law_law_154 (by decide) (fun h9 => absurd h9 (by decide)) (fun _ => ?_)
  refine r_aload_n X 7 d_Law_law_157 rfl rfl ?_
  refine r_iload X 4 d_Law_law_158 rfl ?_
  refine r_iload X 3 d_Law_law_160 rfl ?_
  refine r_iload X 2 d_Law_law_162 rfl ?_
  refine r_iload X 1 d_Law_law_164 rfl ?_
  refine r_iload X 0 d_Law_law_166 rfl ?_
  refine r_Vi X W0_good hN (As := [.int a, .int z, .int r, .int f, .int wi]) (tb_ie 256 (S' := fallS (airS S a z) r f wi) hw.1 hw.2.1 (v := 1) (d' := nI dz) (c_Told_sky l D cy b9 (s2A 256 ad) (s2C 256 c_3) S dz hw a z r f wi ha hzz hr0 hf0 hv0 (TB_dn hL_3.2.1)) (fun r a c' h => h)) yv_Told_sky m_Law_30 (hb_o4) k_Told.2.1 rfl rfl rfl ⟨by decide, by decide⟩ (Nat.le_of_ble_eq_true rfl) ⟨(by show C0 + k + 0 ≤ 600064; omega), (by show L0 + 6 * k + 0 ≤ 7301640; omega)⟩ d_Law_law_168 (fun r9_5 ad9_5 c_5 hp9 => ?_)
  obtain ⟨hr_5, rfl, hf_5, hT_5⟩ := hp9
  subst hr_5
  have hL_5 := LB_do hL_3 (wf_2 hw) hf_5 hT_5
  obtain ⟨⟨w4_t6, w5_t6, w7_t6, hb_t6⟩, -⟩ := id hL_5.1
  have hb_t6 : c_5 128 = some (.inr (6, [.ref (ad 192), .ref b9, .int (nI (dq + 1)), .ref (ad 129), w4_t6, w5_t6, .ref (ad 130), w7_t6, .int (nI (sNr (fallS (airS S a z) r f wi))), .int (nI (sNl (fallS (airS S a z) r f wi))), .int 0, .int ((sWe (fallS (airS S a z) r f wi)).1), .int ((sWe (fallS (airS S a z) r f wi)).2.1), .int ((sWe (fallS (airS S a z) r f wi)).2.2.1), .int ((sWe (fallS (airS S a z) r f wi)).2.2.2.1), .int ((sWe (fallS (airS S a z) r f wi)).2.2.2.2), .int 100, .int 0, .int 0, .int 0, .int 0])) := hb_t6
  obtain ⟨⟨w4_o6, w5_o6, w7_o6, hb_o6⟩, -⟩ := id hL_5.2.1
  have hb_o6 : c_5 256 = some (.inr (6, [.ref (ad 320), .ref b9, .int (nI dz), .ref (ad 257), w4_o6, w5_o6, .ref (ad 258), w7_o6, .int (nI (sNr (fallS (airS S a z) r f wi))), .int (nI (sNl (fallS (airS S a z) r f wi))), .int 0, .int ((sWe (fallS (airS S a z) r f wi)).1), .int ((sWe (fallS (airS S a z) r f wi)).2.1), .int ((sWe (fallS (airS S a z) r f wi)).2.2.1), .int ((sWe (fallS (airS S a z) r f wi)).2.2.2.1), .int ((sWe (fallS (airS S a z) r f wi)).2.2.2.2), .int 100, .int 0, .int 0, .int 0, .int 0])) := hb_o6
  refine r_if_ne X 176 d_Law_law_171 (by decide) (fun _ => ?_) (fun h9 => absurd h9 (by decide))
  refine r_lv [5, 6, 7, 8, 9, 10] [(5, .int (nI k)), (4, .ref (ad 192)), (3, .ref (ad 256)), (2, .ref (ad 128)), (1, .int (nI tm)), (0, .ref b9)] rfl ?_
  exact law_c X hN hE hL9 hC0 hL0 hD0 hk (S := fallS (airS S a z) r f wi) (dq := dq + 1) hG.sky ht (by omega) hL_5 kk
set_option maxRecDepth 100000 in
set_option maxHeartbeats 4000000 in
theorem law_a {p : Program} {l : Launch} {e : Env} {s : State} {m : MethodId} {below : List Frame} {meth : Method} {cd : Code} {b9 L9 : Nat} {xs9 : Nat → Int32} {D : va_G} {cy : Nat → ClassId} (X : rX p s m #[Value.ref b9] cd b_Law_law 20 R_Law W0 D cls (TY cy) (fun q => s.heap.size ≤ q)) (hN : rN NW s) (hE : rE b9 L9 xs9 (fun q => s.heap.size ≤ q) s s.heap) (hL9 : L9 < 2 ^ 31) {Q : State → Prop} {C0 L0 D0 k tm dz : Nat} (hC0 : C0 + 10 ≤ 600000) (hL0 : L0 + 60 ≤ 7301000) (hD0 : D0 + 80 ≤ 900) (hk : k < 10) {ad : Nat → Nat} {c : rC} {S : cS} {t v h dq : Nat} (hG : GS S t v h) (ht : t ≤ 6 * k + 18 * (k / 3)) (hdq : dq ≤ D0 + 8 * k) (hL : LB cy b9 (fun _ => none) S S (nI dq) (nI dz) ad c)
    (kk : ∀ (S' : cS) (t' v' h' dq' : Nat) (ad' : Nat → Nat) (c' : rC), GS S' t' v' h' → t' ≤ 6 * (k + 1) + 18 * ((k + 1) / 3) → dq' ≤ D0 + 8 * (k + 1) → LB cy b9 (fun _ => none) S' S' (nI dq') (nI dz) ad' c' → rW p l e room_1 s m #[Value.ref b9] below meth cd 20 D cls (fun q => s.heap.size ≤ q) (C0 + k + 1) (L0 + 6 * (k + 1)) Q ad' c' 412 [(5, .int (nI k)), (4, .ref (ad' 192)), (3, .ref (ad' 256)), (2, .ref (ad' 128)), (1, .int (nI tm)), (0, .ref b9)] []) : rW p l e room_1 s m #[Value.ref b9] below meth cd 20 D cls (fun q => s.heap.size ≤ q) (C0 + k) (L0 + 6 * k) Q ad c 89 [(5, .int (nI k)), (4, .ref (ad 192)), (3, .ref (ad 256)), (2, .ref (ad 128)), (1, .int (nI tm)), (0, .ref b9)] [] := by
  have hw := hG.wf (by omega)
  obtain ⟨⟨w4_t0, w5_t0, w7_t0, hb_t0⟩, -⟩ := id hL.1
  have hb_t0 : c 128 = some (.inr (6, [.ref (ad 192), .ref b9, .int (nI dq), .ref (ad 129), w4_t0, w5_t0, .ref (ad 130), w7_t0, .int (nI (sNr S)), .int (nI (sNl S)), .int 0, .int ((sWe S).1), .int ((sWe S).2.1), .int ((sWe S).2.2.1), .int ((sWe S).2.2.2.1), .int ((sWe S).2.2.2.2), .int 100, .int 0, .int 0, .int 0, .int 0])) := hb_t0
  obtain ⟨⟨w4_o0, w5_o0, w7_o0, hb_o0⟩, -⟩ := id hL.2.1
  have hb_o0 : c 256 = some (.inr (6, [.ref (ad 320), .ref b9, .int (nI dz), .ref (ad 257), w4_o0, w5_o0, .ref (ad 258), w7_o0, .int (nI (sNr S)), .int (nI (sNl S)), .int 0, .int ((sWe S).1), .int ((sWe S).2.1), .int ((sWe S).2.2.1), .int ((sWe S).2.2.2.1), .int ((sWe S).2.2.2.2), .int 100, .int 0, .int 0, .int 0, .int 0])) := hb_o0
  refine r_aload_n X 3 d_Law_law_89 rfl rfl ?_
  refine r_bipush X 14 d_Law_law_90 (by decide) ?_
  refine x_Vi X W0_good hN hE (As := [.int (nI 14)]) (tb_xe 128 (S' := S) (wf_2 hw).1 (wf_2 hw).2 (v := nI (drw xs9 L9 dq 14)) (d' := nI (dq + 1)) (c_Told_draw l D cy b9 L9 xs9 (s2A 128 ad) (s2C 128 c) S dq 14 (by omega) (by decide) (by decide) hL9 (TB_dn hL.1)) (fun r a c' h => h)) yv_Told_draw m_Law_26 (hb_t0) k_Told.2.1 rfl rfl rfl ⟨by decide, by decide⟩ (Nat.le_of_ble_eq_true rfl) ⟨(by show C0 + k + 0 ≤ 600064; omega), (by show L0 + 6 * k + 0 ≤ 7301640; omega)⟩ d_Law_law_92 (fun r9_1 ad9_1 c_1 hp9 => ?_)
  obtain ⟨hr_1, rfl, hf_1, hT_1⟩ := hp9
  subst hr_1
  have hL_1 := LB_dt hL (wf_2 hw) hf_1 hT_1
  obtain ⟨⟨w4_t2, w5_t2, w7_t2, hb_t2⟩, -⟩ := id hL_1.1
  have hb_t2 : c_1 128 = some (.inr (6, [.ref (ad 192), .ref b9, .int (nI (dq + 1)), .ref (ad 129), w4_t2, w5_t2, .ref (ad 130), w7_t2, .int (nI (sNr S)), .int (nI (sNl S)), .int 0, .int ((sWe S).1), .int ((sWe S).2.1), .int ((sWe S).2.2.1), .int ((sWe S).2.2.2.1), .int ((sWe S).2.2.2.2), .int 100, .int 0, .int 0, .int 0, .int 0])) := hb_t2
  obtain ⟨⟨w4_o2, w5_o2, w7_o2, hb_o2⟩, -⟩ := id hL_1.2.1
  have hb_o2 : c_1 256 = some (.inr (6, [.ref (ad 320), .ref b9, .int (nI dz), .ref (ad 257), w4_o2, w5_o2, .ref (ad 258), w7_o2, .int (nI (sNr S)), .int (nI (sNl S)), .int 0, .int ((sWe S).1), .int ((sWe S).2.1), .int ((sWe S).2.2.1), .int ((sWe S).2.2.2.1), .int ((sWe S).2.2.2.2), .int 100, .int 0, .int 0, .int 0, .int 0])) := hb_o2
  refine r_bipush X 9 d_Law_law_95 (by decide) ?_
  refine r_isub X d_Law_law_97 ?_
  obtain ⟨a, ha, e_a⟩ : ∃ a, (inF a (-20) 20 = 1) ∧ (nI (drw xs9 L9 dq 14)) - 9 = a := ⟨_, air_in _ (drw_lt (by decide)), rfl⟩
  refine r_top (y := a) e_a ?_
  refine r_istore X [(6, .int a), (5, .int (nI k)), (4, .ref (ad 192)), (3, .ref (ad 256)), (2, .ref (ad 128)), (1, .int (nI tm)), (0, .ref b9)] d_Law_law_98 (by decide) rfl ?_
  refine r_aload_n X 4 d_Law_law_100 rfl rfl ?_
  refine r_iconst X 2 d_Law_law_101 (by decide) ?_
  refine x_Vi X W0_good hN hE (As := [.int (nI 2)]) (tb_xe 128 (S' := S) (wf_2 hw).1 (wf_2 hw).2 (v := nI (drw xs9 L9 (dq + 1) 2)) (d' := nI (dq + 2)) (c_Told_draw l D cy b9 L9 xs9 (s2A 128 ad) (s2C 128 c_1) S (dq + 1) 2 (by omega) (by decide) (by decide) hL9 (TB_dn hL_1.1)) (fun r a c' h => h)) yv_Told_draw m_Law_26 (hb_t2) k_Told.2.1 rfl rfl rfl ⟨by decide, by decide⟩ (Nat.le_of_ble_eq_true rfl) ⟨(by show C0 + k + 0 ≤ 600064; omega), (by show L0 + 6 * k + 0 ≤ 7301640; omega)⟩ d_Law_law_102 (fun r9_3 ad9_3 c_3 hp9 => ?_)
  obtain ⟨hr_3, rfl, hf_3, hT_3⟩ := hp9
  subst hr_3
  have hL_3 := LB_dt hL_1 (wf_2 hw) hf_3 hT_3
  obtain ⟨⟨w4_t4, w5_t4, w7_t4, hb_t4⟩, -⟩ := id hL_3.1
  have hb_t4 : c_3 128 = some (.inr (6, [.ref (ad 192), .ref b9, .int (nI (dq + 2)), .ref (ad 129), w4_t4, w5_t4, .ref (ad 130), w7_t4, .int (nI (sNr S)), .int (nI (sNl S)), .int 0, .int ((sWe S).1), .int ((sWe S).2.1), .int ((sWe S).2.2.1), .int ((sWe S).2.2.2.1), .int ((sWe S).2.2.2.2), .int 100, .int 0, .int 0, .int 0, .int 0])) := hb_t4
  obtain ⟨⟨w4_o4, w5_o4, w7_o4, hb_o4⟩, -⟩ := id hL_3.2.1
  have hb_o4 : c_3 256 = some (.inr (6, [.ref (ad 320), .ref b9, .int (nI dz), .ref (ad 257), w4_o4, w5_o4, .ref (ad 258), w7_o4, .int (nI (sNr S)), .int (nI (sNl S)), .int 0, .int ((sWe S).1), .int ((sWe S).2.1), .int ((sWe S).2.2.1), .int ((sWe S).2.2.2.1), .int ((sWe S).2.2.2.2), .int 100, .int 0, .int 0, .int 0, .int 0])) := hb_o4
  obtain ⟨z, hzz, e_z⟩ : ∃ z, (z = 0 ∨ z = 1) ∧ nI (drw xs9 L9 (dq + 1) 2) = z := ⟨_, bit_2 _ (drw_lt (by decide)), rfl⟩
  refine r_top (y := z) e_z ?_
  refine r_istore X [(7, .int z), (6, .int a), (5, .int (nI k)), (4, .ref (ad 192)), (3, .ref (ad 256)), (2, .ref (ad 128)), (1, .int (nI tm)), (0, .ref b9)] d_Law_law_105 (by decide) rfl ?_
  refine r_aload_n X 5 d_Law_law_107 rfl rfl ?_
  refine r_iconst X 3 d_Law_law_108 (by decide) ?_
  refine x_Vi X W0_good hN hE (As := [.int (nI 3)]) (tb_xe 128 (S' := S) (wf_2 hw).1 (wf_2 hw).2 (v := nI (drw xs9 L9 (dq + 2) 3)) (d' := nI (dq + 3)) (c_Told_draw l D cy b9 L9 xs9 (s2A 128 ad) (s2C 128 c_3) S (dq + 2) 3 (by omega) (by decide) (by decide) hL9 (TB_dn hL_3.1)) (fun r a c' h => h)) yv_Told_draw m_Law_26 (hb_t4) k_Told.2.1 rfl rfl rfl ⟨by decide, by decide⟩ (Nat.le_of_ble_eq_true rfl) ⟨(by show C0 + k + 0 ≤ 600064; omega), (by show L0 + 6 * k + 0 ≤ 7301640; omega)⟩ d_Law_law_109 (fun r9_5 ad9_5 c_5 hp9 => ?_)
  obtain ⟨hr_5, rfl, hf_5, hT_5⟩ := hp9
  subst hr_5
  have hL_5 := LB_dt hL_3 (wf_2 hw) hf_5 hT_5
  obtain ⟨⟨w4_t6, w5_t6, w7_t6, hb_t6⟩, -⟩ := id hL_5.1
  have hb_t6 : c_5 128 = some (.inr (6, [.ref (ad 192), .ref b9, .int (nI (dq + 3)), .ref (ad 129), w4_t6, w5_t6, .ref (ad 130), w7_t6, .int (nI (sNr S)), .int (nI (sNl S)), .int 0, .int ((sWe S).1), .int ((sWe S).2.1), .int ((sWe S).2.2.1), .int ((sWe S).2.2.2.1), .int ((sWe S).2.2.2.2), .int 100, .int 0, .int 0, .int 0, .int 0])) := hb_t6
  obtain ⟨⟨w4_o6, w5_o6, w7_o6, hb_o6⟩, -⟩ := id hL_5.2.1
  have hb_o6 : c_5 256 = some (.inr (6, [.ref (ad 320), .ref b9, .int (nI dz), .ref (ad 257), w4_o6, w5_o6, .ref (ad 258), w7_o6, .int (nI (sNr S)), .int (nI (sNl S)), .int 0, .int ((sWe S).1), .int ((sWe S).2.1), .int ((sWe S).2.2.1), .int ((sWe S).2.2.2.1), .int ((sWe S).2.2.2.2), .int 100, .int 0, .int 0, .int 0, .int 0])) := hb_o6
  obtain ⟨r, hr0, e_r⟩ : ∃ r, (inF r 0 3 = 1) ∧ nI (drw xs9 L9 (dq + 2) 3) = r := ⟨_, inF_in (a := 0) (b := 3) (by omega) (by have h9 : drw xs9 L9 (dq + 2) 3 < 3 := drw_lt (by decide); omega) (by decide), rfl⟩
  refine r_top (y := r) e_r ?_
  refine r_istore X [(8, .int r), (7, .int z), (6, .int a), (5, .int (nI k)), (4, .ref (ad 192)), (3, .ref (ad 256)), (2, .ref (ad 128)), (1, .int (nI tm)), (0, .ref b9)] d_Law_law_112 (by decide) rfl ?_
  refine r_aload_n X 6 d_Law_law_114 rfl rfl ?_
  refine r_iconst X 4 d_Law_law_115 (by decide) ?_
  refine x_Vi X W0_good hN hE (As := [.int (nI 4)]) (tb_xe 128 (S' := S) (wf_2 hw).1 (wf_2 hw).2 (v := nI (drw xs9 L9 (dq + 3) 4)) (d' := nI (dq + 4)) (c_Told_draw l D cy b9 L9 xs9 (s2A 128 ad) (s2C 128 c_5) S (dq + 3) 4 (by omega) (by decide) (by decide) hL9 (TB_dn hL_5.1)) (fun r a c' h => h)) yv_Told_draw m_Law_26 (hb_t6) k_Told.2.1 rfl rfl rfl ⟨by decide, by decide⟩ (Nat.le_of_ble_eq_true rfl) ⟨(by show C0 + k + 0 ≤ 600064; omega), (by show L0 + 6 * k + 0 ≤ 7301640; omega)⟩ d_Law_law_116 (fun r9_7 ad9_7 c_7 hp9 => ?_)
  obtain ⟨hr_7, rfl, hf_7, hT_7⟩ := hp9
  subst hr_7
  have hL_7 := LB_dt hL_5 (wf_2 hw) hf_7 hT_7
  obtain ⟨⟨w4_t8, w5_t8, w7_t8, hb_t8⟩, -⟩ := id hL_7.1
  have hb_t8 : c_7 128 = some (.inr (6, [.ref (ad 192), .ref b9, .int (nI (dq + 4)), .ref (ad 129), w4_t8, w5_t8, .ref (ad 130), w7_t8, .int (nI (sNr S)), .int (nI (sNl S)), .int 0, .int ((sWe S).1), .int ((sWe S).2.1), .int ((sWe S).2.2.1), .int ((sWe S).2.2.2.1), .int ((sWe S).2.2.2.2), .int 100, .int 0, .int 0, .int 0, .int 0])) := hb_t8
  obtain ⟨⟨w4_o8, w5_o8, w7_o8, hb_o8⟩, -⟩ := id hL_7.2.1
  have hb_o8 : c_7 256 = some (.inr (6, [.ref (ad 320), .ref b9, .int (nI dz), .ref (ad 257), w4_o8, w5_o8, .ref (ad 258), w7_o8, .int (nI (sNr S)), .int (nI (sNl S)), .int 0, .int ((sWe S).1), .int ((sWe S).2.1), .int ((sWe S).2.2.1), .int ((sWe S).2.2.2.1), .int ((sWe S).2.2.2.2), .int 100, .int 0, .int 0, .int 0, .int 0])) := hb_o8
  by_cases h4 : nI (drw xs9 L9 (dq + 3) 4) = 0
  · refine r_if_ne X 130 d_Law_law_119 (by decide) (fun h9 => absurd h4 h9) (fun _ => ?_)
    refine r_aload_n X 6 d_Law_law_122 rfl rfl ?_
    refine r_iconst X 3 d_Law_law_123 (by decide) ?_
    refine x_Vi X W0_good hN hE (As := [.int (nI 3)]) (tb_xe 128 (S' := S) (wf_2 hw).1 (wf_2 hw).2 (v := nI (drw xs9 L9 (dq + 4) 3)) (d' := nI (dq + 5)) (c_Told_draw l D cy b9 L9 xs9 (s2A 128 ad) (s2C 128 c_7) S (dq + 4) 3 (by omega) (by decide) (by decide) hL9 (TB_dn hL_7.1)) (fun r a c' h => h)) yv_Told_draw m_Law_26 (hb_t8) k_Told.2.1 rfl rfl rfl ⟨by decide, by decide⟩ (Nat.le_of_ble_eq_true rfl) ⟨(by show C0 + k + 0 ≤ 600064; omega), (by show L0 + 6 * k + 0 ≤ 7301640; omega)⟩ d_Law_law_124 (fun r9_9 ad9_9 c_9 hp9 => ?_)
    obtain ⟨hr_9, rfl, hf_9, hT_9⟩ := hp9
    subst hr_9
    have hL_9 := LB_dt hL_7 (wf_2 hw) hf_9 hT_9
    obtain ⟨⟨w4_t10, w5_t10, w7_t10, hb_t10⟩, -⟩ := id hL_9.1
    have hb_t10 : c_9 128 = some (.inr (6, [.ref (ad 192), .ref b9, .int (nI (dq + 5)), .ref (ad 129), w4_t10, w5_t10, .ref (ad 130), w7_t10, .int (nI (sNr S)), .int (nI (sNl S)), .int 0, .int ((sWe S).1), .int ((sWe S).2.1), .int ((sWe S).2.2.1), .int ((sWe S).2.2.2.1), .int ((sWe S).2.2.2.2), .int 100, .int 0, .int 0, .int 0, .int 0])) := hb_t10
    obtain ⟨⟨w4_o10, w5_o10, w7_o10, hb_o10⟩, -⟩ := id hL_9.2.1
    have hb_o10 : c_9 256 = some (.inr (6, [.ref (ad 320), .ref b9, .int (nI dz), .ref (ad 257), w4_o10, w5_o10, .ref (ad 258), w7_o10, .int (nI (sNr S)), .int (nI (sNl S)), .int 0, .int ((sWe S).1), .int ((sWe S).2.1), .int ((sWe S).2.2.1), .int ((sWe S).2.2.2.1), .int ((sWe S).2.2.2.2), .int 100, .int 0, .int 0, .int 0, .int 0])) := hb_o10
    obtain ⟨f, hf0, e_f⟩ : ∃ f, (inF f 0 3 = 1) ∧ nI (drw xs9 L9 (dq + 4) 3) = f := ⟨_, inF_in (a := 0) (b := 3) (by omega) (by have h9 : drw xs9 L9 (dq + 4) 3 < 3 := drw_lt (by decide); omega) (by decide), rfl⟩
    refine r_top (y := f) e_f ?_
    refine r_goto X 131 d_Law_law_127 (by decide) ?_
    refine r_istore X [(9, .int f), (8, .int r), (7, .int z), (6, .int a), (5, .int (nI k)), (4, .ref (ad 192)), (3, .ref (ad 256)), (2, .ref (ad 128)), (1, .int (nI tm)), (0, .ref b9)] d_Law_law_131 (by decide) rfl ?_
    refine r_lv [0, 1, 2, 3, 4, 5, 6, 7, 8, 9] [(9, .int f), (8, .int r), (7, .int z), (6, .int a), (5, .int (nI k)), (4, .ref (ad 192)), (3, .ref (ad 256)), (2, .ref (ad 128)), (1, .int (nI tm)), (0, .ref b9)] rfl ?_
    exact law_b X hN hE hL9 hC0 hL0 hD0 hk (dq := dq + 5) ha hzz hr0 hf0 hG ht (by omega) hL_9 kk
  · refine r_if_ne X 130 d_Law_law_119 (by decide) (fun _ => ?_) (fun h9 => absurd h9 h4)
    refine r_iconst X 0 d_Law_law_130 (by decide) ?_
    refine r_istore X [(9, .int 0), (8, .int r), (7, .int z), (6, .int a), (5, .int (nI k)), (4, .ref (ad 192)), (3, .ref (ad 256)), (2, .ref (ad 128)), (1, .int (nI tm)), (0, .ref b9)] d_Law_law_131 (by decide) rfl ?_
    refine r_lv [0, 1, 2, 3, 4, 5, 6, 7, 8, 9] [(9, .int 0), (8, .int r), (7, .int z), (6, .int a), (5, .int (nI k)), (4, .ref (ad 192)), (3, .ref (ad 256)), (2, .ref (ad 128)), (1, .int (nI tm)), (0, .ref b9)] rfl ?_
    exact law_b X hN hE hL9 hC0 hL0 hD0 hk (dq := dq + 4) ha hzz hr0 (by decide) hG ht (by omega) hL_7 kk
set_option maxRecDepth 100000 in
set_option maxHeartbeats 4000000 in
theorem law_k {p : Program} {l : Launch} {e : Env} {s : State} {m : MethodId} {below : List Frame} {meth : Method} {cd : Code} {b9 L9 : Nat} {xs9 : Nat → Int32} {D : va_G} {cy : Nat → ClassId} (X : rX p s m #[Value.ref b9] cd b_Law_law 20 R_Law W0 D cls (TY cy) (fun q => s.heap.size ≤ q)) (hN : rN NW s) (hE : rE b9 L9 xs9 (fun q => s.heap.size ≤ q) s s.heap) (hL9 : L9 < 2 ^ 31) {Q : State → Prop} {C0 L0 D0 tm dz : Nat} (hC0 : C0 + 10 ≤ 600000) (hL0 : L0 + 60 ≤ 7301000) (hD0 : D0 + 80 ≤ 900)
    (kk : ∀ (ad' : Nat → Nat) (c' : rC), rW p l e room_1 s m #[Value.ref b9] below meth cd 20 D cls (fun q => s.heap.size ≤ q) (C0 + 10) (L0 + 60) Q ad' c' 418 [(1, .int (nI tm)), (0, .ref b9)] []) : ∀ (n k : Nat) (ad : Nat → Nat) (c : rC) (S : cS) (t v h dq : Nat), k + n = 10 → GS S t v h → t ≤ 6 * k + 18 * (k / 3) → dq ≤ D0 + 8 * k → LB cy b9 (fun _ => none) S S (nI dq) (nI dz) ad c → rW p l e room_1 s m #[Value.ref b9] below meth cd 20 D cls (fun q => s.heap.size ≤ q) (C0 + k) (L0 + 6 * k) Q ad c 82 [(5, .int (nI k)), (4, .ref (ad 192)), (3, .ref (ad 256)), (2, .ref (ad 128)), (1, .int (nI tm)), (0, .ref b9)] [] := by
  intro n
  induction n with
  | zero =>
    intro k ad c S t v h dq hi hG ht hdq hL
    obtain rfl : k = 10 := by omega
    refine r_iload X 0 d_Law_law_82 rfl ?_
    refine r_bipush X 10 d_Law_law_84 (by decide) ?_
    refine r_icmp_ge X 418 d_Law_law_86 (by decide) (fun _ => ?_) (fun h9 => absurd (show (10 : Int32) ≤ nI 10 from by decide) h9)
    refine r_lv [4, 5] [(1, .int (nI tm)), (0, .ref b9)] rfl ?_
    exact kk ad c
  | succ n ih =>
    intro k ad c S t v h dq hi hG ht hdq hL
    refine r_iload X 0 d_Law_law_82 rfl ?_
    refine r_bipush X 10 d_Law_law_84 (by decide) ?_
    refine r_icmp_ge X 418 d_Law_law_86 (by decide) (fun h9 => absurd h9 (nI_ge (b := 10) (by omega) (by decide))) (fun _ => ?_)
    refine r_lv [0, 1, 2, 3, 4, 5] [(5, .int (nI k)), (4, .ref (ad 192)), (3, .ref (ad 256)), (2, .ref (ad 128)), (1, .int (nI tm)), (0, .ref b9)] rfl ?_
    refine law_a X hN hE hL9 hC0 hL0 hD0 (by omega) hG ht hdq hL (fun S1 t1 v1 h1 dq1 ad1 c1 hG1 ht1 hdq1 hL1 => ?_)
    refine r_iinc X 0 [(5, .int (nI (k + 1))), (4, .ref (ad1 192)), (3, .ref (ad1 256)), (2, .ref (ad1 128)), (1, .int (nI tm)), (0, .ref b9)] d_Law_law_412 rfl (nI_1 k) (by decide) rfl ?_
    refine r_goto X 82 d_Law_law_415 (by decide) ?_
    refine r_lv [0, 1, 2, 3, 4, 5] [(5, .int (nI (k + 1))), (4, .ref (ad1 192)), (3, .ref (ad1 256)), (2, .ref (ad1 128)), (1, .int (nI tm)), (0, .ref b9)] rfl ?_
    exact ih (k + 1) ad1 c1 S1 t1 v1 h1 dq1 (by omega) hG1 ht1 hdq1 hL1
