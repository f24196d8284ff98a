/-! the law's own methods: a call of the class, and which exception it had: by program (wip/p1/m5.py) -/
theorem ca_ioo : Cond.castable E_ioo E_ioo ∈ lw_tbl := List.mem_append_right _ (List.mem_of_getElem? (i := 374) (by decide +kernel))
theorem ca_iae : Cond.castable E_iae E_iae ∈ lw_tbl := List.mem_append_right _ (List.mem_of_getElem? (i := 442) (by decide +kernel))
theorem h64_of {cy : Nat → ClassId} {ad : Nat → Nat} {c : rC} {S : cS} {J : jS} (hC : shC 64 c = cont cy (shA 64 ad) S J) : c 64 = cont cy (shA 64 ad) S J 0 := by
  have h := congrFun hC 0
  unfold shC at h
  rw [if_pos (by decide)] at h
  exact h
abbrev hh_road : List (Nat × Nat × Nat × Nat) := [(0, 20, 23, 13), (0, 20, 27, 15), (0, 20, 31, 17)]
theorem yh_road : rYH W0 y_Law_road b_Law_road 10 (some .int) hh_road 9 := ⟨W0_of 361 (by decide +kernel) rfl, W0_of 360 (by decide +kernel) rfl, W0_of 0 (by decide +kernel) rfl, by decide +kernel, by decide +kernel, by decide +kernel⟩
set_option maxRecDepth 100000 in
set_option maxHeartbeats 4000000 in
theorem w_road (l : Launch) (hst9 : l.stackTraces = false) (D : va_G) (cy : Nat → ClassId) (t0 : Nat) (ad : Nat → Nat) (c : rC) (hC : shC 64 c = cont cy (shA 64 ad) S00 J00) (f : Nat → Int64) (hO : c 0 = some (.inl (cy 7, 1, .inr (.inl f)))) (p0 p1 p2 p3 p4 p5 p6 : Int32) (hz : p6 = 0 ∨ p6 = 1) : xMh l D cls (TY cy) NW t0 y_Law_road (Cond.codeWith y_Law_road b_Law_road 10 (some .int) hh_road :: W0) { frames := 7, cells := 4, slots := 420, locals := 130 } [.ref (ad 64), .int p0, .int p1, .int p2, .int p3, .int p4, .int p5, .int p6, .ref (ad 0)] ad c (fun r ad' c' => r = (kF_road p0 p1 p2 p3 p4 p5 p6) ∧ ((kF_road p0 p1 p2 p3 p4 p5 p6) = 0 → ∃ f, c' 0 = some (.inl (cy 7, 1, .inr (.inl f))) ∧ f 0 = (0 : Int32).toInt64) ∧ ad' 0 = ad 0 ∧ ∀ n, 128 ≤ n → ad' n = ad n ∧ c' n = c n) := by
  intro sz
  refine x_ofh (own := R_Law) rfl (by decide +kernel) (Nat.le_of_ble_eq_true rfl) ?_
  intro p e s m below meth cd hsz X htab hr hlk hN hE
  have h64 := (h64_of hC).trans (ct_lo (by decide))
  refine r_lv [0, 1, 2, 3, 4, 5, 6, 7, 8] [(0, .ref (ad 64)), (1, .int p0), (2, .int p1), (3, .int p2), (4, .int p3), (5, .int p4), (6, .int p5), (7, .int p6), (8, .ref (ad 0))] rfl ?_
  rcases inF_or p0 0 6 with h0 | h0
  · rcases inF_or p1 0 6 with h1 | h1
    · by_cases h2 : p0 = p1
      · have hk : (kF_road p0 p1 p2 p3 p4 p5 p6) = 2 := by unfold kF_road; rw [if_pos h0, if_pos h1, if_pos h2]
        refine r_aload X 8 d_Law_road_0 rfl ?_
        refine r_iconst X 0 d_Law_road_2 (by decide) ?_
        refine r_aload_n X 0 d_Law_road_3 rfl rfl ?_
        refine r_iload_n X 1 d_Law_road_4 rfl rfl ?_
        refine r_iload_n X 2 d_Law_road_5 rfl rfl ?_
        refine r_iload_n X 3 d_Law_road_6 rfl rfl ?_
        refine r_iload X 4 d_Law_road_7 rfl ?_
        refine r_iload X 5 d_Law_road_9 rfl ?_
        refine r_iload X 6 d_Law_road_11 rfl ?_
        refine r_iload X 7 d_Law_road_13 rfl ?_
        refine x_Vt X W0_good hN hE (sub_t 64 (by rw [hC]; exact t_G_road_2 l hst9 D cy t0 (shA 64 ad) p0 p1 p2 p3 p4 p5 p6 h0 h1 h2)) yv_G_road m_Law_7 h64 k_G.2.1 rfl rfl rfl ⟨by decide, by decide⟩ (Nat.le_of_ble_eq_true rfl) ⟨by decide, by decide⟩ d_Law_road_15 (hh := hh_road) htab (name := E_iae) [⟨0, 20, 23, 13⟩] ⟨0, 20, 27, 15⟩ [⟨0, 20, 31, 17⟩] rfl (fun z hz9 => by rw [List.mem_singleton.mp hz9]; exact Or.inr ⟨by decide, E_ioo, c_Law_13, hE.2.2.2.1⟩) rfl (by decide) c_Law_15 (hE.1 _ ca_iae rfl) (fun q9 => ?_)
        refine r_astore X [(9, .ref q9), (0, .ref (ad 64)), (1, .int p0), (2, .int p1), (3, .int p2), (4, .int p3), (5, .int p4), (6, .int p5), (7, .int p6), (8, .ref (ad 0))] d_Law_road_27 (by decide) rfl ?_
        refine r_iconst X 2 d_Law_road_29 (by decide) ?_
        exact x_iret (r_iret (post := fun r ad' c' => r = (kF_road p0 p1 p2 p3 p4 p5 p6) ∧ ((kF_road p0 p1 p2 p3 p4 p5 p6) = 0 → ∃ f, c' 0 = some (.inl (cy 7, 1, .inr (.inl f))) ∧ f 0 = (0 : Int32).toInt64) ∧ ad' 0 = ad 0 ∧ ∀ n, 128 ≤ n → ad' n = ad n ∧ c' n = c n) X hr hlk d_Law_road_30 (by decide) (by decide) ⟨hk.symm, fun h9 => absurd (hk.symm.trans h9) (by decide), rfl, fun _ _ => ⟨rfl, rfl⟩⟩)
      · rcases inF_or p2 1 6 with h3 | h3
        · rcases inF_or p3 0 2 with h4 | h4
          · rcases inF_or p4 0 9 with h5 | h5
            · rcases inF_or p5 0 2 with h6 | h6
              · have hk : (kF_road p0 p1 p2 p3 p4 p5 p6) = 0 := by unfold kF_road; rw [if_pos h0, if_pos h1, if_neg h2, if_pos h3, if_pos h4, if_pos h5, if_pos h6]
                refine r_aload X 8 d_Law_road_0 rfl ?_
                refine r_iconst X 0 d_Law_road_2 (by decide) ?_
                refine r_aload_n X 0 d_Law_road_3 rfl rfl ?_
                refine r_iload_n X 1 d_Law_road_4 rfl rfl ?_
                refine r_iload_n X 2 d_Law_road_5 rfl rfl ?_
                refine r_iload_n X 3 d_Law_road_6 rfl rfl ?_
                refine r_iload X 4 d_Law_road_7 rfl ?_
                refine r_iload X 5 d_Law_road_9 rfl ?_
                refine r_iload X 6 d_Law_road_11 rfl ?_
                refine r_iload X 7 d_Law_road_13 rfl ?_
                refine r_Vi X W0_good hN (sub_i 64 (by rw [hC]; exact c_G_road l D cy (shA 64 ad) S00 J00 wf_00 (by decide) p0 p1 p2 p3 p4 p5 p6 h0 h1 h2 h3 h4 h5 h6 hz)) yv_G_road m_Law_7 h64 k_G.2.1 rfl rfl rfl ⟨by decide, by decide⟩ (Nat.le_of_ble_eq_true rfl) ⟨by decide, by decide⟩ d_Law_road_15 (fun r9 ad9 c9 hp9 => ?_)
                obtain ⟨a1, c1, hp9, rfl, rfl⟩ := hp9
                have hr9 : r9 = 0 := hp9.1.symm
                subst hr9
                refine r_lv [] [] rfl ?_
                refine r_show (jnC 64 c c1) [] [.int 0, .int 0, .ref ((jnA 64 ad a1) 0)] rfl rfl (by rw [show jnA 64 ad a1 0 = ad 0 from if_neg (by decide)]) ?_
                refine r_i2l X d_Law_road_18 ?_
                refine x_last X 7 ((if_neg (by decide)).trans hO) rfl (by unfold vp_in; decide +kernel) rfl _ rfl d_Law_road_19 ?_
                refine r_goto X 35 d_Law_road_20 (by decide) ?_
                refine r_iconst X 0 d_Law_road_35 (by decide) ?_
                exact x_iret (r_iret (post := fun r ad' c' => r = (kF_road p0 p1 p2 p3 p4 p5 p6) ∧ ((kF_road p0 p1 p2 p3 p4 p5 p6) = 0 → ∃ f, c' 0 = some (.inl (cy 7, 1, .inr (.inl f))) ∧ f 0 = (0 : Int32).toInt64) ∧ ad' 0 = ad 0 ∧ ∀ n, 128 ≤ n → ad' n = ad n ∧ c' n = c n) X hr hlk d_Law_road_36 (by decide) (by decide) ⟨hk.symm, fun _ => ⟨_, rup_self, rfl⟩, if_neg (by decide), fun n9 hn9 => ⟨if_neg (by omega), rup_ne (by omega) (if_neg (by omega))⟩⟩)
              · have hk : (kF_road p0 p1 p2 p3 p4 p5 p6) = 2 := by unfold kF_road; rw [if_pos h0, if_pos h1, if_neg h2, if_pos h3, if_pos h4, if_pos h5, if_neg (inF_n1 h6)]
                refine r_aload X 8 d_Law_road_0 rfl ?_
                refine r_iconst X 0 d_Law_road_2 (by decide) ?_
                refine r_aload_n X 0 d_Law_road_3 rfl rfl ?_
                refine r_iload_n X 1 d_Law_road_4 rfl rfl ?_
                refine r_iload_n X 2 d_Law_road_5 rfl rfl ?_
                refine r_iload_n X 3 d_Law_road_6 rfl rfl ?_
                refine r_iload X 4 d_Law_road_7 rfl ?_
                refine r_iload X 5 d_Law_road_9 rfl ?_
                refine r_iload X 6 d_Law_road_11 rfl ?_
                refine r_iload X 7 d_Law_road_13 rfl ?_
                refine x_Vt X W0_good hN hE (sub_t 64 (by rw [hC]; exact t_G_road_6 l hst9 D cy t0 (shA 64 ad) p0 p1 p2 p3 p4 p5 p6 h0 h1 h2 h3 h4 h5 h6)) yv_G_road m_Law_7 h64 k_G.2.1 rfl rfl rfl ⟨by decide, by decide⟩ (Nat.le_of_ble_eq_true rfl) ⟨by decide, by decide⟩ d_Law_road_15 (hh := hh_road) htab (name := E_iae) [⟨0, 20, 23, 13⟩] ⟨0, 20, 27, 15⟩ [⟨0, 20, 31, 17⟩] rfl (fun z hz9 => by rw [List.mem_singleton.mp hz9]; exact Or.inr ⟨by decide, E_ioo, c_Law_13, hE.2.2.2.1⟩) rfl (by decide) c_Law_15 (hE.1 _ ca_iae rfl) (fun q9 => ?_)
                refine r_astore X [(9, .ref q9), (0, .ref (ad 64)), (1, .int p0), (2, .int p1), (3, .int p2), (4, .int p3), (5, .int p4), (6, .int p5), (7, .int p6), (8, .ref (ad 0))] d_Law_road_27 (by decide) rfl ?_
                refine r_iconst X 2 d_Law_road_29 (by decide) ?_
                exact x_iret (r_iret (post := fun r ad' c' => r = (kF_road p0 p1 p2 p3 p4 p5 p6) ∧ ((kF_road p0 p1 p2 p3 p4 p5 p6) = 0 → ∃ f, c' 0 = some (.inl (cy 7, 1, .inr (.inl f))) ∧ f 0 = (0 : Int32).toInt64) ∧ ad' 0 = ad 0 ∧ ∀ n, 128 ≤ n → ad' n = ad n ∧ c' n = c n) X hr hlk d_Law_road_30 (by decide) (by decide) ⟨hk.symm, fun h9 => absurd (hk.symm.trans h9) (by decide), rfl, fun _ _ => ⟨rfl, rfl⟩⟩)
            · have hk : (kF_road p0 p1 p2 p3 p4 p5 p6) = 2 := by unfold kF_road; rw [if_pos h0, if_pos h1, if_neg h2, if_pos h3, if_pos h4, if_neg (inF_n1 h5)]
              refine r_aload X 8 d_Law_road_0 rfl ?_
              refine r_iconst X 0 d_Law_road_2 (by decide) ?_
              refine r_aload_n X 0 d_Law_road_3 rfl rfl ?_
              refine r_iload_n X 1 d_Law_road_4 rfl rfl ?_
              refine r_iload_n X 2 d_Law_road_5 rfl rfl ?_
              refine r_iload_n X 3 d_Law_road_6 rfl rfl ?_
              refine r_iload X 4 d_Law_road_7 rfl ?_
              refine r_iload X 5 d_Law_road_9 rfl ?_
              refine r_iload X 6 d_Law_road_11 rfl ?_
              refine r_iload X 7 d_Law_road_13 rfl ?_
              refine x_Vt X W0_good hN hE (sub_t 64 (by rw [hC]; exact t_G_road_5 l hst9 D cy t0 (shA 64 ad) p0 p1 p2 p3 p4 p5 p6 h0 h1 h2 h3 h4 h5)) yv_G_road m_Law_7 h64 k_G.2.1 rfl rfl rfl ⟨by decide, by decide⟩ (Nat.le_of_ble_eq_true rfl) ⟨by decide, by decide⟩ d_Law_road_15 (hh := hh_road) htab (name := E_iae) [⟨0, 20, 23, 13⟩] ⟨0, 20, 27, 15⟩ [⟨0, 20, 31, 17⟩] rfl (fun z hz9 => by rw [List.mem_singleton.mp hz9]; exact Or.inr ⟨by decide, E_ioo, c_Law_13, hE.2.2.2.1⟩) rfl (by decide) c_Law_15 (hE.1 _ ca_iae rfl) (fun q9 => ?_)
              refine r_astore X [(9, .ref q9), (0, .ref (ad 64)), (1, .int p0), (2, .int p1), (3, .int p2), (4, .int p3), (5, .int p4), (6, .int p5), (7, .int p6), (8, .ref (ad 0))] d_Law_road_27 (by decide) rfl ?_
              refine r_iconst X 2 d_Law_road_29 (by decide) ?_
              exact x_iret (r_iret (post := fun r ad' c' => r = (kF_road p0 p1 p2 p3 p4 p5 p6) ∧ ((kF_road p0 p1 p2 p3 p4 p5 p6) = 0 → ∃ f, c' 0 = some (.inl (cy 7, 1, .inr (.inl f))) ∧ f 0 = (0 : Int32).toInt64) ∧ ad' 0 = ad 0 ∧ ∀ n, 128 ≤ n → ad' n = ad n ∧ c' n = c n) X hr hlk d_Law_road_30 (by decide) (by decide) ⟨hk.symm, fun h9 => absurd (hk.symm.trans h9) (by decide), rfl, fun _ _ => ⟨rfl, rfl⟩⟩)
          · have hk : (kF_road p0 p1 p2 p3 p4 p5 p6) = 2 := by unfold kF_road; rw [if_pos h0, if_pos h1, if_neg h2, if_pos h3, if_neg (inF_n1 h4)]
            refine r_aload X 8 d_Law_road_0 rfl ?_
            refine r_iconst X 0 d_Law_road_2 (by decide) ?_
            refine r_aload_n X 0 d_Law_road_3 rfl rfl ?_
            refine r_iload_n X 1 d_Law_road_4 rfl rfl ?_
            refine r_iload_n X 2 d_Law_road_5 rfl rfl ?_
            refine r_iload_n X 3 d_Law_road_6 rfl rfl ?_
            refine r_iload X 4 d_Law_road_7 rfl ?_
            refine r_iload X 5 d_Law_road_9 rfl ?_
            refine r_iload X 6 d_Law_road_11 rfl ?_
            refine r_iload X 7 d_Law_road_13 rfl ?_
            refine x_Vt X W0_good hN hE (sub_t 64 (by rw [hC]; exact t_G_road_4 l hst9 D cy t0 (shA 64 ad) p0 p1 p2 p3 p4 p5 p6 h0 h1 h2 h3 h4)) yv_G_road m_Law_7 h64 k_G.2.1 rfl rfl rfl ⟨by decide, by decide⟩ (Nat.le_of_ble_eq_true rfl) ⟨by decide, by decide⟩ d_Law_road_15 (hh := hh_road) htab (name := E_iae) [⟨0, 20, 23, 13⟩] ⟨0, 20, 27, 15⟩ [⟨0, 20, 31, 17⟩] rfl (fun z hz9 => by rw [List.mem_singleton.mp hz9]; exact Or.inr ⟨by decide, E_ioo, c_Law_13, hE.2.2.2.1⟩) rfl (by decide) c_Law_15 (hE.1 _ ca_iae rfl) (fun q9 => ?_)
            refine r_astore X [(9, .ref q9), (0, .ref (ad 64)), (1, .int p0), (2, .int p1), (3, .int p2), (4, .int p3), (5, .int p4), (6, .int p5), (7, .int p6), (8, .ref (ad 0))] d_Law_road_27 (by decide) rfl ?_
            refine r_iconst X 2 d_Law_road_29 (by decide) ?_
            exact x_iret (r_iret (post := fun r ad' c' => r = (kF_road p0 p1 p2 p3 p4 p5 p6) ∧ ((kF_road p0 p1 p2 p3 p4 p5 p6) = 0 → ∃ f, c' 0 = some (.inl (cy 7, 1, .inr (.inl f))) ∧ f 0 = (0 : Int32).toInt64) ∧ ad' 0 = ad 0 ∧ ∀ n, 128 ≤ n → ad' n = ad n ∧ c' n = c n) X hr hlk d_Law_road_30 (by decide) (by decide) ⟨hk.symm, fun h9 => absurd (hk.symm.trans h9) (by decide), rfl, fun _ _ => ⟨rfl, rfl⟩⟩)
        · have hk : (kF_road p0 p1 p2 p3 p4 p5 p6) = 2 := by unfold kF_road; rw [if_pos h0, if_pos h1, if_neg h2, if_neg (inF_n1 h3)]
          refine r_aload X 8 d_Law_road_0 rfl ?_
          refine r_iconst X 0 d_Law_road_2 (by decide) ?_
          refine r_aload_n X 0 d_Law_road_3 rfl rfl ?_
          refine r_iload_n X 1 d_Law_road_4 rfl rfl ?_
          refine r_iload_n X 2 d_Law_road_5 rfl rfl ?_
          refine r_iload_n X 3 d_Law_road_6 rfl rfl ?_
          refine r_iload X 4 d_Law_road_7 rfl ?_
          refine r_iload X 5 d_Law_road_9 rfl ?_
          refine r_iload X 6 d_Law_road_11 rfl ?_
          refine r_iload X 7 d_Law_road_13 rfl ?_
          refine x_Vt X W0_good hN hE (sub_t 64 (by rw [hC]; exact t_G_road_3 l hst9 D cy t0 (shA 64 ad) p0 p1 p2 p3 p4 p5 p6 h0 h1 h2 h3)) yv_G_road m_Law_7 h64 k_G.2.1 rfl rfl rfl ⟨by decide, by decide⟩ (Nat.le_of_ble_eq_true rfl) ⟨by decide, by decide⟩ d_Law_road_15 (hh := hh_road) htab (name := E_iae) [⟨0, 20, 23, 13⟩] ⟨0, 20, 27, 15⟩ [⟨0, 20, 31, 17⟩] rfl (fun z hz9 => by rw [List.mem_singleton.mp hz9]; exact Or.inr ⟨by decide, E_ioo, c_Law_13, hE.2.2.2.1⟩) rfl (by decide) c_Law_15 (hE.1 _ ca_iae rfl) (fun q9 => ?_)
          refine r_astore X [(9, .ref q9), (0, .ref (ad 64)), (1, .int p0), (2, .int p1), (3, .int p2), (4, .int p3), (5, .int p4), (6, .int p5), (7, .int p6), (8, .ref (ad 0))] d_Law_road_27 (by decide) rfl ?_
          refine r_iconst X 2 d_Law_road_29 (by decide) ?_
          exact x_iret (r_iret (post := fun r ad' c' => r = (kF_road p0 p1 p2 p3 p4 p5 p6) ∧ ((kF_road p0 p1 p2 p3 p4 p5 p6) = 0 → ∃ f, c' 0 = some (.inl (cy 7, 1, .inr (.inl f))) ∧ f 0 = (0 : Int32).toInt64) ∧ ad' 0 = ad 0 ∧ ∀ n, 128 ≤ n → ad' n = ad n ∧ c' n = c n) X hr hlk d_Law_road_30 (by decide) (by decide) ⟨hk.symm, fun h9 => absurd (hk.symm.trans h9) (by decide), rfl, fun _ _ => ⟨rfl, rfl⟩⟩)
    · have hk : (kF_road p0 p1 p2 p3 p4 p5 p6) = 1 := by unfold kF_road; rw [if_pos h0, if_neg (inF_n1 h1)]
      refine r_aload X 8 d_Law_road_0 rfl ?_
      refine r_iconst X 0 d_Law_road_2 (by decide) ?_
      refine r_aload_n X 0 d_Law_road_3 rfl rfl ?_
      refine r_iload_n X 1 d_Law_road_4 rfl rfl ?_
      refine r_iload_n X 2 d_Law_road_5 rfl rfl ?_
      refine r_iload_n X 3 d_Law_road_6 rfl rfl ?_
      refine r_iload X 4 d_Law_road_7 rfl ?_
      refine r_iload X 5 d_Law_road_9 rfl ?_
      refine r_iload X 6 d_Law_road_11 rfl ?_
      refine r_iload X 7 d_Law_road_13 rfl ?_
      refine x_Vt X W0_good hN hE (sub_t 64 (by rw [hC]; exact t_G_road_1 l hst9 D cy t0 (shA 64 ad) p0 p1 p2 p3 p4 p5 p6 h0 h1)) yv_G_road m_Law_7 h64 k_G.2.1 rfl rfl rfl ⟨by decide, by decide⟩ (Nat.le_of_ble_eq_true rfl) ⟨by decide, by decide⟩ d_Law_road_15 (hh := hh_road) htab (name := E_ioo) [] ⟨0, 20, 23, 13⟩ [⟨0, 20, 27, 15⟩, ⟨0, 20, 31, 17⟩] rfl (fun z hz9 => absurd hz9 List.not_mem_nil) rfl (by decide) c_Law_13 (hE.1 _ ca_ioo rfl) (fun q9 => ?_)
      refine r_astore X [(9, .ref q9), (0, .ref (ad 64)), (1, .int p0), (2, .int p1), (3, .int p2), (4, .int p3), (5, .int p4), (6, .int p5), (7, .int p6), (8, .ref (ad 0))] d_Law_road_23 (by decide) rfl ?_
      refine r_iconst X 1 d_Law_road_25 (by decide) ?_
      exact x_iret (r_iret (post := fun r ad' c' => r = (kF_road p0 p1 p2 p3 p4 p5 p6) ∧ ((kF_road p0 p1 p2 p3 p4 p5 p6) = 0 → ∃ f, c' 0 = some (.inl (cy 7, 1, .inr (.inl f))) ∧ f 0 = (0 : Int32).toInt64) ∧ ad' 0 = ad 0 ∧ ∀ n, 128 ≤ n → ad' n = ad n ∧ c' n = c n) X hr hlk d_Law_road_26 (by decide) (by decide) ⟨hk.symm, fun h9 => absurd (hk.symm.trans h9) (by decide), rfl, fun _ _ => ⟨rfl, rfl⟩⟩)
  · have hk : (kF_road p0 p1 p2 p3 p4 p5 p6) = 1 := by unfold kF_road; rw [if_neg (inF_n1 h0)]
    refine r_aload X 8 d_Law_road_0 rfl ?_
    refine r_iconst X 0 d_Law_road_2 (by decide) ?_
    refine r_aload_n X 0 d_Law_road_3 rfl rfl ?_
    refine r_iload_n X 1 d_Law_road_4 rfl rfl ?_
    refine r_iload_n X 2 d_Law_road_5 rfl rfl ?_
    refine r_iload_n X 3 d_Law_road_6 rfl rfl ?_
    refine r_iload X 4 d_Law_road_7 rfl ?_
    refine r_iload X 5 d_Law_road_9 rfl ?_
    refine r_iload X 6 d_Law_road_11 rfl ?_
    refine r_iload X 7 d_Law_road_13 rfl ?_
    refine x_Vt X W0_good hN hE (sub_t 64 (by rw [hC]; exact t_G_road_0 l hst9 D cy t0 (shA 64 ad) p0 p1 p2 p3 p4 p5 p6 h0)) yv_G_road m_Law_7 h64 k_G.2.1 rfl rfl rfl ⟨by decide, by decide⟩ (Nat.le_of_ble_eq_true rfl) ⟨by decide, by decide⟩ d_Law_road_15 (hh := hh_road) htab (name := E_ioo) [] ⟨0, 20, 23, 13⟩ [⟨0, 20, 27, 15⟩, ⟨0, 20, 31, 17⟩] rfl (fun z hz9 => absurd hz9 List.not_mem_nil) rfl (by decide) c_Law_13 (hE.1 _ ca_ioo rfl) (fun q9 => ?_)
    refine r_astore X [(9, .ref q9), (0, .ref (ad 64)), (1, .int p0), (2, .int p1), (3, .int p2), (4, .int p3), (5, .int p4), (6, .int p5), (7, .int p6), (8, .ref (ad 0))] d_Law_road_23 (by decide) rfl ?_
    refine r_iconst X 1 d_Law_road_25 (by decide) ?_
    exact x_iret (r_iret (post := fun r ad' c' => r = (kF_road p0 p1 p2 p3 p4 p5 p6) ∧ ((kF_road p0 p1 p2 p3 p4 p5 p6) = 0 → ∃ f, c' 0 = some (.inl (cy 7, 1, .inr (.inl f))) ∧ f 0 = (0 : Int32).toInt64) ∧ ad' 0 = ad 0 ∧ ∀ n, 128 ≤ n → ad' n = ad n ∧ c' n = c n) X hr hlk d_Law_road_26 (by decide) (by decide) ⟨hk.symm, fun h9 => absurd (hk.symm.trans h9) (by decide), rfl, fun _ _ => ⟨rfl, rfl⟩⟩)
abbrev hh_air : List (Nat × Nat × Nat × Nat) := [(0, 10, 13, 15)]
theorem yh_air : rYH W0 y_Law_air b_Law_air 5 (some .int) hh_air 4 := ⟨W0_of 528 (by decide +kernel) rfl, W0_of 527 (by decide +kernel) rfl, W0_of 0 (by decide +kernel) rfl, by decide +kernel, by decide +kernel, by decide +kernel⟩
set_option maxRecDepth 100000 in
set_option maxHeartbeats 4000000 in
theorem w_air (l : Launch) (hst9 : l.stackTraces = false) (D : va_G) (cy : Nat → ClassId) (t0 : Nat) (ad : Nat → Nat) (c : rC) (hC : shC 64 c = cont cy (shA 64 ad) S00 J00) (f : Nat → Int64) (hO : c 0 = some (.inl (cy 7, 1, .inr (.inl f)))) (p0 p1 : Int32) (hz : p1 = 0 ∨ p1 = 1) : xMh l D cls (TY cy) NW t0 y_Law_air (Cond.codeWith y_Law_air b_Law_air 5 (some .int) hh_air :: W0) { frames := 7, cells := 4, slots := 420, locals := 130 } [.ref (ad 64), .int p0, .int p1, .ref (ad 0)] ad c (fun r ad' c' => r = (kF_air p0 p1) ∧ ((kF_air p0 p1) = 0 → ∃ f, c' 0 = some (.inl (cy 7, 1, .inr (.inl f))) ∧ f 0 = (5 : Int32).toInt64) ∧ ad' 0 = ad 0 ∧ ∀ n, 128 ≤ n → ad' n = ad n ∧ c' n = c n) := by
  intro sz
  refine x_ofh (own := R_Law) rfl (by decide +kernel) (Nat.le_of_ble_eq_true rfl) ?_
  intro p e s m below meth cd hsz X htab hr hlk hN hE
  have h64 := (h64_of hC).trans (ct_lo (by decide))
  refine r_lv [0, 1, 2, 3] [(0, .ref (ad 64)), (1, .int p0), (2, .int p1), (3, .ref (ad 0))] rfl ?_
  rcases inF_or p0 (-20) 20 with h0 | h0
  · have hk : (kF_air p0 p1) = 0 := by unfold kF_air; rw [if_pos h0]
    refine r_aload_n X 3 d_Law_air_0 rfl rfl ?_
    refine r_iconst X 0 d_Law_air_1 (by decide) ?_
    refine r_aload_n X 0 d_Law_air_2 rfl rfl ?_
    refine r_iload_n X 1 d_Law_air_3 rfl rfl ?_
    refine r_iload_n X 2 d_Law_air_4 rfl rfl ?_
    refine r_Vi X W0_good hN (sub_i 64 (by rw [hC]; exact c_G_air l D cy (shA 64 ad) S00 J00 wf_00 p0 p1 h0 hz)) yv_G_air m_Law_19 h64 k_G.2.1 rfl rfl rfl ⟨by decide, by decide⟩ (Nat.le_of_ble_eq_true rfl) ⟨by decide, by decide⟩ d_Law_air_5 (fun r9 ad9 c9 hp9 => ?_)
    obtain ⟨a1, c1, hp9, rfl, rfl⟩ := hp9
    have hr9 : r9 = 5 := hp9.1.symm
    subst hr9
    refine r_lv [] [] rfl ?_
    refine r_show (jnC 64 c c1) [] [.int 5, .int 0, .ref ((jnA 64 ad a1) 0)] rfl rfl (by rw [show jnA 64 ad a1 0 = ad 0 from if_neg (by decide)]) ?_
    refine r_i2l X d_Law_air_8 ?_
    refine x_last X 7 ((if_neg (by decide)).trans hO) rfl (by unfold vp_in; decide +kernel) rfl _ rfl d_Law_air_9 ?_
    refine r_goto X 17 d_Law_air_10 (by decide) ?_
    refine r_iconst X 0 d_Law_air_17 (by decide) ?_
    exact x_iret (r_iret (post := fun r ad' c' => r = (kF_air p0 p1) ∧ ((kF_air p0 p1) = 0 → ∃ f, c' 0 = some (.inl (cy 7, 1, .inr (.inl f))) ∧ f 0 = (5 : Int32).toInt64) ∧ ad' 0 = ad 0 ∧ ∀ n, 128 ≤ n → ad' n = ad n ∧ c' n = c n) X hr hlk d_Law_air_18 (by decide) (by decide) ⟨hk.symm, fun _ => ⟨_, rup_self, rfl⟩, if_neg (by decide), fun n9 hn9 => ⟨if_neg (by omega), rup_ne (by omega) (if_neg (by omega))⟩⟩)
  · have hk : (kF_air p0 p1) = 1 := by unfold kF_air; rw [if_neg (inF_n1 h0)]
    refine r_aload_n X 3 d_Law_air_0 rfl rfl ?_
    refine r_iconst X 0 d_Law_air_1 (by decide) ?_
    refine r_aload_n X 0 d_Law_air_2 rfl rfl ?_
    refine r_iload_n X 1 d_Law_air_3 rfl rfl ?_
    refine r_iload_n X 2 d_Law_air_4 rfl rfl ?_
    refine x_Vt X W0_good hN hE (sub_t 64 (by rw [hC]; exact t_G_air_0 l hst9 D cy t0 (shA 64 ad) p0 p1 h0)) yv_G_air m_Law_19 h64 k_G.2.1 rfl rfl rfl ⟨by decide, by decide⟩ (Nat.le_of_ble_eq_true rfl) ⟨by decide, by decide⟩ d_Law_air_5 (hh := hh_air) htab (name := E_iae) [] ⟨0, 10, 13, 15⟩ [] rfl (fun z hz9 => absurd hz9 List.not_mem_nil) rfl (by decide) c_Law_15 (hE.1 _ ca_iae rfl) (fun q9 => ?_)
    refine r_astore X [(4, .ref q9), (0, .ref (ad 64)), (1, .int p0), (2, .int p1), (3, .ref (ad 0))] d_Law_air_13 (by decide) rfl ?_
    refine r_iconst X 1 d_Law_air_15 (by decide) ?_
    exact x_iret (r_iret (post := fun r ad' c' => r = (kF_air p0 p1) ∧ ((kF_air p0 p1) = 0 → ∃ f, c' 0 = some (.inl (cy 7, 1, .inr (.inl f))) ∧ f 0 = (5 : Int32).toInt64) ∧ ad' 0 = ad 0 ∧ ∀ n, 128 ≤ n → ad' n = ad n ∧ c' n = c n) X hr hlk d_Law_air_16 (by decide) (by decide) ⟨hk.symm, fun h9 => absurd (hk.symm.trans h9) (by decide), rfl, fun _ _ => ⟨rfl, rfl⟩⟩)
abbrev hh_fall : List (Nat × Nat × Nat × Nat) := [(0, 12, 15, 15)]
theorem yh_fall : rYH W0 y_Law_fall b_Law_fall 6 (some .int) hh_fall 5 := ⟨W0_of 539 (by decide +kernel) rfl, W0_of 538 (by decide +kernel) rfl, W0_of 0 (by decide +kernel) rfl, by decide +kernel, by decide +kernel, by decide +kernel⟩
set_option maxRecDepth 100000 in
set_option maxHeartbeats 4000000 in
theorem w_fall (l : Launch) (hst9 : l.stackTraces = false) (D : va_G) (cy : Nat → ClassId) (t0 : Nat) (ad : Nat → Nat) (c : rC) (hC : shC 64 c = cont cy (shA 64 ad) S00 J00) (f : Nat → Int64) (hO : c 0 = some (.inl (cy 7, 1, .inr (.inl f)))) (p0 p1 p2 : Int32)  : xMh l D cls (TY cy) NW t0 y_Law_fall (Cond.codeWith y_Law_fall b_Law_fall 6 (some .int) hh_fall :: W0) { frames := 7, cells := 4, slots := 420, locals := 130 } [.ref (ad 64), .int p0, .int p1, .int p2, .ref (ad 0)] ad c (fun r ad' c' => r = (kF_fall p0 p1 p2) ∧ ((kF_fall p0 p1 p2) = 0 → ∃ f, c' 0 = some (.inl (cy 7, 1, .inr (.inl f))) ∧ f 0 = (0 : Int32).toInt64) ∧ ad' 0 = ad 0 ∧ ∀ n, 128 ≤ n → ad' n = ad n ∧ c' n = c n) := by
  intro sz
  refine x_ofh (own := R_Law) rfl (by decide +kernel) (Nat.le_of_ble_eq_true rfl) ?_
  intro p e s m below meth cd hsz X htab hr hlk hN hE
  have h64 := (h64_of hC).trans (ct_lo (by decide))
  refine r_lv [0, 1, 2, 3, 4] [(0, .ref (ad 64)), (1, .int p0), (2, .int p1), (3, .int p2), (4, .ref (ad 0))] rfl ?_
  rcases inF_or p0 0 3 with h0 | h0
  · rcases inF_or p1 0 3 with h1 | h1
    · rcases inF_or p2 0 3 with h2 | h2
      · have hk : (kF_fall p0 p1 p2) = 0 := by unfold kF_fall; rw [if_pos h0, if_pos h1, if_pos h2]
        refine r_aload X 4 d_Law_fall_0 rfl ?_
        refine r_iconst X 0 d_Law_fall_2 (by decide) ?_
        refine r_aload_n X 0 d_Law_fall_3 rfl rfl ?_
        refine r_iload_n X 1 d_Law_fall_4 rfl rfl ?_
        refine r_iload_n X 2 d_Law_fall_5 rfl rfl ?_
        refine r_iload_n X 3 d_Law_fall_6 rfl rfl ?_
        refine r_Vi X W0_good hN (sub_i 64 (by rw [hC]; exact c_G_fall l D cy (shA 64 ad) S00 J00 wf_00 p0 p1 p2 h0 h1 h2)) yv_G_fall m_Law_23 h64 k_G.2.1 rfl rfl rfl ⟨by decide, by decide⟩ (Nat.le_of_ble_eq_true rfl) ⟨by decide, by decide⟩ d_Law_fall_7 (fun r9 ad9 c9 hp9 => ?_)
        obtain ⟨a1, c1, hp9, rfl, rfl⟩ := hp9
        have hr9 : r9 = 0 := hp9.1.symm
        subst hr9
        refine r_lv [] [] rfl ?_
        refine r_show (jnC 64 c c1) [] [.int 0, .int 0, .ref ((jnA 64 ad a1) 0)] rfl rfl (by rw [show jnA 64 ad a1 0 = ad 0 from if_neg (by decide)]) ?_
        refine r_i2l X d_Law_fall_10 ?_
        refine x_last X 7 ((if_neg (by decide)).trans hO) rfl (by unfold vp_in; decide +kernel) rfl _ rfl d_Law_fall_11 ?_
        refine r_goto X 19 d_Law_fall_12 (by decide) ?_
        refine r_iconst X 0 d_Law_fall_19 (by decide) ?_
        exact x_iret (r_iret (post := fun r ad' c' => r = (kF_fall p0 p1 p2) ∧ ((kF_fall p0 p1 p2) = 0 → ∃ f, c' 0 = some (.inl (cy 7, 1, .inr (.inl f))) ∧ f 0 = (0 : Int32).toInt64) ∧ ad' 0 = ad 0 ∧ ∀ n, 128 ≤ n → ad' n = ad n ∧ c' n = c n) X hr hlk d_Law_fall_20 (by decide) (by decide) ⟨hk.symm, fun _ => ⟨_, rup_self, rfl⟩, if_neg (by decide), fun n9 hn9 => ⟨if_neg (by omega), rup_ne (by omega) (if_neg (by omega))⟩⟩)
      · have hk : (kF_fall p0 p1 p2) = 1 := by unfold kF_fall; rw [if_pos h0, if_pos h1, if_neg (inF_n1 h2)]
        refine r_aload X 4 d_Law_fall_0 rfl ?_
        refine r_iconst X 0 d_Law_fall_2 (by decide) ?_
        refine r_aload_n X 0 d_Law_fall_3 rfl rfl ?_
        refine r_iload_n X 1 d_Law_fall_4 rfl rfl ?_
        refine r_iload_n X 2 d_Law_fall_5 rfl rfl ?_
        refine r_iload_n X 3 d_Law_fall_6 rfl rfl ?_
        refine x_Vt X W0_good hN hE (sub_t 64 (by rw [hC]; exact t_G_fall_2 l hst9 D cy t0 (shA 64 ad) p0 p1 p2 h0 h1 h2)) yv_G_fall m_Law_23 h64 k_G.2.1 rfl rfl rfl ⟨by decide, by decide⟩ (Nat.le_of_ble_eq_true rfl) ⟨by decide, by decide⟩ d_Law_fall_7 (hh := hh_fall) htab (name := E_iae) [] ⟨0, 12, 15, 15⟩ [] rfl (fun z hz9 => absurd hz9 List.not_mem_nil) rfl (by decide) c_Law_15 (hE.1 _ ca_iae rfl) (fun q9 => ?_)
        refine r_astore X [(5, .ref q9), (0, .ref (ad 64)), (1, .int p0), (2, .int p1), (3, .int p2), (4, .ref (ad 0))] d_Law_fall_15 (by decide) rfl ?_
        refine r_iconst X 1 d_Law_fall_17 (by decide) ?_
        exact x_iret (r_iret (post := fun r ad' c' => r = (kF_fall p0 p1 p2) ∧ ((kF_fall p0 p1 p2) = 0 → ∃ f, c' 0 = some (.inl (cy 7, 1, .inr (.inl f))) ∧ f 0 = (0 : Int32).toInt64) ∧ ad' 0 = ad 0 ∧ ∀ n, 128 ≤ n → ad' n = ad n ∧ c' n = c n) X hr hlk d_Law_fall_18 (by decide) (by decide) ⟨hk.symm, fun h9 => absurd (hk.symm.trans h9) (by decide), rfl, fun _ _ => ⟨rfl, rfl⟩⟩)
    · have hk : (kF_fall p0 p1 p2) = 1 := by unfold kF_fall; rw [if_pos h0, if_neg (inF_n1 h1)]
      refine r_aload X 4 d_Law_fall_0 rfl ?_
      refine r_iconst X 0 d_Law_fall_2 (by decide) ?_
      refine r_aload_n X 0 d_Law_fall_3 rfl rfl ?_
      refine r_iload_n X 1 d_Law_fall_4 rfl rfl ?_
      refine r_iload_n X 2 d_Law_fall_5 rfl rfl ?_
      refine r_iload_n X 3 d_Law_fall_6 rfl rfl ?_
      refine x_Vt X W0_good hN hE (sub_t 64 (by rw [hC]; exact t_G_fall_1 l hst9 D cy t0 (shA 64 ad) p0 p1 p2 h0 h1)) yv_G_fall m_Law_23 h64 k_G.2.1 rfl rfl rfl ⟨by decide, by decide⟩ (Nat.le_of_ble_eq_true rfl) ⟨by decide, by decide⟩ d_Law_fall_7 (hh := hh_fall) htab (name := E_iae) [] ⟨0, 12, 15, 15⟩ [] rfl (fun z hz9 => absurd hz9 List.not_mem_nil) rfl (by decide) c_Law_15 (hE.1 _ ca_iae rfl) (fun q9 => ?_)
      refine r_astore X [(5, .ref q9), (0, .ref (ad 64)), (1, .int p0), (2, .int p1), (3, .int p2), (4, .ref (ad 0))] d_Law_fall_15 (by decide) rfl ?_
      refine r_iconst X 1 d_Law_fall_17 (by decide) ?_
      exact x_iret (r_iret (post := fun r ad' c' => r = (kF_fall p0 p1 p2) ∧ ((kF_fall p0 p1 p2) = 0 → ∃ f, c' 0 = some (.inl (cy 7, 1, .inr (.inl f))) ∧ f 0 = (0 : Int32).toInt64) ∧ ad' 0 = ad 0 ∧ ∀ n, 128 ≤ n → ad' n = ad n ∧ c' n = c n) X hr hlk d_Law_fall_18 (by decide) (by decide) ⟨hk.symm, fun h9 => absurd (hk.symm.trans h9) (by decide), rfl, fun _ _ => ⟨rfl, rfl⟩⟩)
  · have hk : (kF_fall p0 p1 p2) = 1 := by unfold kF_fall; rw [if_neg (inF_n1 h0)]
    refine r_aload X 4 d_Law_fall_0 rfl ?_
    refine r_iconst X 0 d_Law_fall_2 (by decide) ?_
    refine r_aload_n X 0 d_Law_fall_3 rfl rfl ?_
    refine r_iload_n X 1 d_Law_fall_4 rfl rfl ?_
    refine r_iload_n X 2 d_Law_fall_5 rfl rfl ?_
    refine r_iload_n X 3 d_Law_fall_6 rfl rfl ?_
    refine x_Vt X W0_good hN hE (sub_t 64 (by rw [hC]; exact t_G_fall_0 l hst9 D cy t0 (shA 64 ad) p0 p1 p2 h0)) yv_G_fall m_Law_23 h64 k_G.2.1 rfl rfl rfl ⟨by decide, by decide⟩ (Nat.le_of_ble_eq_true rfl) ⟨by decide, by decide⟩ d_Law_fall_7 (hh := hh_fall) htab (name := E_iae) [] ⟨0, 12, 15, 15⟩ [] rfl (fun z hz9 => absurd hz9 List.not_mem_nil) rfl (by decide) c_Law_15 (hE.1 _ ca_iae rfl) (fun q9 => ?_)
    refine r_astore X [(5, .ref q9), (0, .ref (ad 64)), (1, .int p0), (2, .int p1), (3, .int p2), (4, .ref (ad 0))] d_Law_fall_15 (by decide) rfl ?_
    refine r_iconst X 1 d_Law_fall_17 (by decide) ?_
    exact x_iret (r_iret (post := fun r ad' c' => r = (kF_fall p0 p1 p2) ∧ ((kF_fall p0 p1 p2) = 0 → ∃ f, c' 0 = some (.inl (cy 7, 1, .inr (.inl f))) ∧ f 0 = (0 : Int32).toInt64) ∧ ad' 0 = ad 0 ∧ ∀ n, 128 ≤ n → ad' n = ad n ∧ c' n = c n) X hr hlk d_Law_fall_18 (by decide) (by decide) ⟨hk.symm, fun h9 => absurd (hk.symm.trans h9) (by decide), rfl, fun _ _ => ⟨rfl, rfl⟩⟩)
abbrev hh_forecast : List (Nat × Nat × Nat × Nat) := [(0, 16, 19, 15), (0, 16, 23, 17)]
theorem yh_forecast : rYH W0 y_Law_forecast b_Law_forecast 8 (some .int) hh_forecast 7 := ⟨W0_of 547 (by decide +kernel) rfl, W0_of 546 (by decide +kernel) rfl, W0_of 0 (by decide +kernel) rfl, by decide +kernel, by decide +kernel, by decide +kernel⟩
set_option maxRecDepth 100000 in
set_option maxHeartbeats 4000000 in
theorem w_forecast (l : Launch) (hst9 : l.stackTraces = false) (D : va_G) (cy : Nat → ClassId) (t0 : Nat) (ad : Nat → Nat) (c : rC) (hC : shC 64 c = cont cy (shA 64 ad) S00 J00) (f : Nat → Int64) (hO : c 0 = some (.inl (cy 7, 1, .inr (.inl f)))) (p0 p1 p2 p3 p4 : Int32) (hz : p4 = 0 ∨ p4 = 1) : xMh l D cls (TY cy) NW t0 y_Law_forecast (Cond.codeWith y_Law_forecast b_Law_forecast 8 (some .int) hh_forecast :: W0) { frames := 7, cells := 4, slots := 420, locals := 130 } [.ref (ad 64), .int p0, .int p1, .int p2, .int p3, .int p4, .ref (ad 0)] ad c (fun r ad' c' => r = (kF_forecast p0 p1 p2 p3 p4) ∧ ((kF_forecast p0 p1 p2 p3 p4) = 0 → ∃ f, c' 0 = some (.inl (cy 7, 1, .inr (.inl f))) ∧ f 0 = (0 : Int32).toInt64) ∧ ad' 0 = ad 0 ∧ ∀ n, 128 ≤ n → ad' n = ad n ∧ c' n = c n) := by
  intro sz
  refine x_ofh (own := R_Law) rfl (by decide +kernel) (Nat.le_of_ble_eq_true rfl) ?_
  intro p e s m below meth cd hsz X htab hr hlk hN hE
  have h64 := (h64_of hC).trans (ct_lo (by decide))
  refine r_lv [0, 1, 2, 3, 4, 5, 6] [(0, .ref (ad 64)), (1, .int p0), (2, .int p1), (3, .int p2), (4, .int p3), (5, .int p4), (6, .ref (ad 0))] rfl ?_
  rcases inF_or p0 1 48 with h0 | h0
  · rcases inF_or p1 (-20) 20 with h1 | h1
    · rcases inF_or p2 (-20) 20 with h2 | h2
      · rcases inF_or p3 (-20) 20 with h3 | h3
        · have hk : (kF_forecast p0 p1 p2 p3 p4) = 0 := by unfold kF_forecast; rw [if_pos h0, if_pos h1, if_pos h2, if_pos h3]
          refine r_aload X 6 d_Law_forecast_0 rfl ?_
          refine r_iconst X 0 d_Law_forecast_2 (by decide) ?_
          refine r_aload_n X 0 d_Law_forecast_3 rfl rfl ?_
          refine r_iload_n X 1 d_Law_forecast_4 rfl rfl ?_
          refine r_iload_n X 2 d_Law_forecast_5 rfl rfl ?_
          refine r_iload_n X 3 d_Law_forecast_6 rfl rfl ?_
          refine r_iload X 4 d_Law_forecast_7 rfl ?_
          refine r_iload X 5 d_Law_forecast_9 rfl ?_
          refine r_Vi X W0_good hN (sub_i 64 (by rw [hC]; exact c_G_forecast l D cy (shA 64 ad) p0 p1 p2 p3 p4 h0 h1 h2 h3 hz)) yv_G_forecast m_Law_27 h64 k_G.2.1 rfl rfl rfl ⟨by decide, by decide⟩ (Nat.le_of_ble_eq_true rfl) ⟨by decide, by decide⟩ d_Law_forecast_11 (fun r9 ad9 c9 hp9 => ?_)
          obtain ⟨a1, c1, hp9, rfl, rfl⟩ := hp9
          have hr9 : r9 = 0 := hp9.symm
          subst hr9
          refine r_lv [] [] rfl ?_
          refine r_show (jnC 64 c c1) [] [.int 0, .int 0, .ref ((jnA 64 ad a1) 0)] rfl rfl (by rw [show jnA 64 ad a1 0 = ad 0 from if_neg (by decide)]) ?_
          refine r_i2l X d_Law_forecast_14 ?_
          refine x_last X 7 ((if_neg (by decide)).trans hO) rfl (by unfold vp_in; decide +kernel) rfl _ rfl d_Law_forecast_15 ?_
          refine r_goto X 27 d_Law_forecast_16 (by decide) ?_
          refine r_iconst X 0 d_Law_forecast_27 (by decide) ?_
          exact x_iret (r_iret (post := fun r ad' c' => r = (kF_forecast p0 p1 p2 p3 p4) ∧ ((kF_forecast p0 p1 p2 p3 p4) = 0 → ∃ f, c' 0 = some (.inl (cy 7, 1, .inr (.inl f))) ∧ f 0 = (0 : Int32).toInt64) ∧ ad' 0 = ad 0 ∧ ∀ n, 128 ≤ n → ad' n = ad n ∧ c' n = c n) X hr hlk d_Law_forecast_28 (by decide) (by decide) ⟨hk.symm, fun _ => ⟨_, rup_self, rfl⟩, if_neg (by decide), fun n9 hn9 => ⟨if_neg (by omega), rup_ne (by omega) (if_neg (by omega))⟩⟩)
        · have hk : (kF_forecast p0 p1 p2 p3 p4) = 1 := by unfold kF_forecast; rw [if_pos h0, if_pos h1, if_pos h2, if_neg (inF_n1 h3)]
          refine r_aload X 6 d_Law_forecast_0 rfl ?_
          refine r_iconst X 0 d_Law_forecast_2 (by decide) ?_
          refine r_aload_n X 0 d_Law_forecast_3 rfl rfl ?_
          refine r_iload_n X 1 d_Law_forecast_4 rfl rfl ?_
          refine r_iload_n X 2 d_Law_forecast_5 rfl rfl ?_
          refine r_iload_n X 3 d_Law_forecast_6 rfl rfl ?_
          refine r_iload X 4 d_Law_forecast_7 rfl ?_
          refine r_iload X 5 d_Law_forecast_9 rfl ?_
          refine x_Vt X W0_good hN hE (sub_t 64 (by rw [hC]; exact t_G_forecast_3 l hst9 D cy t0 (shA 64 ad) p0 p1 p2 p3 p4 h0 h1 h2 h3)) yv_G_forecast m_Law_27 h64 k_G.2.1 rfl rfl rfl ⟨by decide, by decide⟩ (Nat.le_of_ble_eq_true rfl) ⟨by decide, by decide⟩ d_Law_forecast_11 (hh := hh_forecast) htab (name := E_iae) [] ⟨0, 16, 19, 15⟩ [⟨0, 16, 23, 17⟩] rfl (fun z hz9 => absurd hz9 List.not_mem_nil) rfl (by decide) c_Law_15 (hE.1 _ ca_iae rfl) (fun q9 => ?_)
          refine r_astore X [(7, .ref q9), (0, .ref (ad 64)), (1, .int p0), (2, .int p1), (3, .int p2), (4, .int p3), (5, .int p4), (6, .ref (ad 0))] d_Law_forecast_19 (by decide) rfl ?_
          refine r_iconst X 1 d_Law_forecast_21 (by decide) ?_
          exact x_iret (r_iret (post := fun r ad' c' => r = (kF_forecast p0 p1 p2 p3 p4) ∧ ((kF_forecast p0 p1 p2 p3 p4) = 0 → ∃ f, c' 0 = some (.inl (cy 7, 1, .inr (.inl f))) ∧ f 0 = (0 : Int32).toInt64) ∧ ad' 0 = ad 0 ∧ ∀ n, 128 ≤ n → ad' n = ad n ∧ c' n = c n) X hr hlk d_Law_forecast_22 (by decide) (by decide) ⟨hk.symm, fun h9 => absurd (hk.symm.trans h9) (by decide), rfl, fun _ _ => ⟨rfl, rfl⟩⟩)
      · have hk : (kF_forecast p0 p1 p2 p3 p4) = 1 := by unfold kF_forecast; rw [if_pos h0, if_pos h1, if_neg (inF_n1 h2)]
        refine r_aload X 6 d_Law_forecast_0 rfl ?_
        refine r_iconst X 0 d_Law_forecast_2 (by decide) ?_
        refine r_aload_n X 0 d_Law_forecast_3 rfl rfl ?_
        refine r_iload_n X 1 d_Law_forecast_4 rfl rfl ?_
        refine r_iload_n X 2 d_Law_forecast_5 rfl rfl ?_
        refine r_iload_n X 3 d_Law_forecast_6 rfl rfl ?_
        refine r_iload X 4 d_Law_forecast_7 rfl ?_
        refine r_iload X 5 d_Law_forecast_9 rfl ?_
        refine x_Vt X W0_good hN hE (sub_t 64 (by rw [hC]; exact t_G_forecast_2 l hst9 D cy t0 (shA 64 ad) p0 p1 p2 p3 p4 h0 h1 h2)) yv_G_forecast m_Law_27 h64 k_G.2.1 rfl rfl rfl ⟨by decide, by decide⟩ (Nat.le_of_ble_eq_true rfl) ⟨by decide, by decide⟩ d_Law_forecast_11 (hh := hh_forecast) htab (name := E_iae) [] ⟨0, 16, 19, 15⟩ [⟨0, 16, 23, 17⟩] rfl (fun z hz9 => absurd hz9 List.not_mem_nil) rfl (by decide) c_Law_15 (hE.1 _ ca_iae rfl) (fun q9 => ?_)
        refine r_astore X [(7, .ref q9), (0, .ref (ad 64)), (1, .int p0), (2, .int p1), (3, .int p2), (4, .int p3), (5, .int p4), (6, .ref (ad 0))] d_Law_forecast_19 (by decide) rfl ?_
        refine r_iconst X 1 d_Law_forecast_21 (by decide) ?_
        exact x_iret (r_iret (post := fun r ad' c' => r = (kF_forecast p0 p1 p2 p3 p4) ∧ ((kF_forecast p0 p1 p2 p3 p4) = 0 → ∃ f, c' 0 = some (.inl (cy 7, 1, .inr (.inl f))) ∧ f 0 = (0 : Int32).toInt64) ∧ ad' 0 = ad 0 ∧ ∀ n, 128 ≤ n → ad' n = ad n ∧ c' n = c n) X hr hlk d_Law_forecast_22 (by decide) (by decide) ⟨hk.symm, fun h9 => absurd (hk.symm.trans h9) (by decide), rfl, fun _ _ => ⟨rfl, rfl⟩⟩)
    · have hk : (kF_forecast p0 p1 p2 p3 p4) = 1 := by unfold kF_forecast; rw [if_pos h0, if_neg (inF_n1 h1)]
      refine r_aload X 6 d_Law_forecast_0 rfl ?_
      refine r_iconst X 0 d_Law_forecast_2 (by decide) ?_
      refine r_aload_n X 0 d_Law_forecast_3 rfl rfl ?_
      refine r_iload_n X 1 d_Law_forecast_4 rfl rfl ?_
      refine r_iload_n X 2 d_Law_forecast_5 rfl rfl ?_
      refine r_iload_n X 3 d_Law_forecast_6 rfl rfl ?_
      refine r_iload X 4 d_Law_forecast_7 rfl ?_
      refine r_iload X 5 d_Law_forecast_9 rfl ?_
      refine x_Vt X W0_good hN hE (sub_t 64 (by rw [hC]; exact t_G_forecast_1 l hst9 D cy t0 (shA 64 ad) p0 p1 p2 p3 p4 h0 h1)) yv_G_forecast m_Law_27 h64 k_G.2.1 rfl rfl rfl ⟨by decide, by decide⟩ (Nat.le_of_ble_eq_true rfl) ⟨by decide, by decide⟩ d_Law_forecast_11 (hh := hh_forecast) htab (name := E_iae) [] ⟨0, 16, 19, 15⟩ [⟨0, 16, 23, 17⟩] rfl (fun z hz9 => absurd hz9 List.not_mem_nil) rfl (by decide) c_Law_15 (hE.1 _ ca_iae rfl) (fun q9 => ?_)
      refine r_astore X [(7, .ref q9), (0, .ref (ad 64)), (1, .int p0), (2, .int p1), (3, .int p2), (4, .int p3), (5, .int p4), (6, .ref (ad 0))] d_Law_forecast_19 (by decide) rfl ?_
      refine r_iconst X 1 d_Law_forecast_21 (by decide) ?_
      exact x_iret (r_iret (post := fun r ad' c' => r = (kF_forecast p0 p1 p2 p3 p4) ∧ ((kF_forecast p0 p1 p2 p3 p4) = 0 → ∃ f, c' 0 = some (.inl (cy 7, 1, .inr (.inl f))) ∧ f 0 = (0 : Int32).toInt64) ∧ ad' 0 = ad 0 ∧ ∀ n, 128 ≤ n → ad' n = ad n ∧ c' n = c n) X hr hlk d_Law_forecast_22 (by decide) (by decide) ⟨hk.symm, fun h9 => absurd (hk.symm.trans h9) (by decide), rfl, fun _ _ => ⟨rfl, rfl⟩⟩)
  · have hk : (kF_forecast p0 p1 p2 p3 p4) = 1 := by unfold kF_forecast; rw [if_neg (inF_n1 h0)]
    refine r_aload X 6 d_Law_forecast_0 rfl ?_
    refine r_iconst X 0 d_Law_forecast_2 (by decide) ?_
    refine r_aload_n X 0 d_Law_forecast_3 rfl rfl ?_
    refine r_iload_n X 1 d_Law_forecast_4 rfl rfl ?_
    refine r_iload_n X 2 d_Law_forecast_5 rfl rfl ?_
    refine r_iload_n X 3 d_Law_forecast_6 rfl rfl ?_
    refine r_iload X 4 d_Law_forecast_7 rfl ?_
    refine r_iload X 5 d_Law_forecast_9 rfl ?_
    refine x_Vt X W0_good hN hE (sub_t 64 (by rw [hC]; exact t_G_forecast_0 l hst9 D cy t0 (shA 64 ad) p0 p1 p2 p3 p4 h0)) yv_G_forecast m_Law_27 h64 k_G.2.1 rfl rfl rfl ⟨by decide, by decide⟩ (Nat.le_of_ble_eq_true rfl) ⟨by decide, by decide⟩ d_Law_forecast_11 (hh := hh_forecast) htab (name := E_iae) [] ⟨0, 16, 19, 15⟩ [⟨0, 16, 23, 17⟩] rfl (fun z hz9 => absurd hz9 List.not_mem_nil) rfl (by decide) c_Law_15 (hE.1 _ ca_iae rfl) (fun q9 => ?_)
    refine r_astore X [(7, .ref q9), (0, .ref (ad 64)), (1, .int p0), (2, .int p1), (3, .int p2), (4, .int p3), (5, .int p4), (6, .ref (ad 0))] d_Law_forecast_19 (by decide) rfl ?_
    refine r_iconst X 1 d_Law_forecast_21 (by decide) ?_
    exact x_iret (r_iret (post := fun r ad' c' => r = (kF_forecast p0 p1 p2 p3 p4) ∧ ((kF_forecast p0 p1 p2 p3 p4) = 0 → ∃ f, c' 0 = some (.inl (cy 7, 1, .inr (.inl f))) ∧ f 0 = (0 : Int32).toInt64) ∧ ad' 0 = ad 0 ∧ ∀ n, 128 ≤ n → ad' n = ad n ∧ c' n = c n) X hr hlk d_Law_forecast_22 (by decide) (by decide) ⟨hk.symm, fun h9 => absurd (hk.symm.trans h9) (by decide), rfl, fun _ _ => ⟨rfl, rfl⟩⟩)
abbrev hh_pass : List (Nat × Nat × Nat × Nat) := [(0, 9, 12, 15), (0, 9, 15, 17)]
theorem yh_pass : rYH W0 y_Law_pass b_Law_pass 4 (some .int) hh_pass 3 := ⟨W0_of 595 (by decide +kernel) rfl, W0_of 594 (by decide +kernel) rfl, W0_of 0 (by decide +kernel) rfl, by decide +kernel, by decide +kernel, by decide +kernel⟩
set_option maxRecDepth 100000 in
set_option maxHeartbeats 4000000 in
theorem w_pass (l : Launch) (hst9 : l.stackTraces = false) (D : va_G) (cy : Nat → ClassId) (t0 : Nat) (ad : Nat → Nat) (c : rC) (hC : shC 64 c = cont cy (shA 64 ad) S00 J00) (f : Nat → Int64) (hO : c 0 = some (.inl (cy 7, 1, .inr (.inl f)))) (p0 : Int32)  : xMh l D cls (TY cy) NW t0 y_Law_pass (Cond.codeWith y_Law_pass b_Law_pass 4 (some .int) hh_pass :: W0) { frames := 7, cells := 4, slots := 420, locals := 131 } [.ref (ad 64), .int p0, .ref (ad 0)] ad c (fun r ad' c' => r = (kF_pass p0) ∧ ((kF_pass p0) = 0 → ∃ f, c' 0 = some (.inl (cy 7, 1, .inr (.inl f))) ∧ f 0 = (0 : Int32).toInt64) ∧ ad' 0 = ad 0 ∧ ∀ n, 128 ≤ n → ad' n = ad n ∧ c' n = c n) := by
  intro sz
  refine x_ofh (own := R_Law) rfl (by decide +kernel) (Nat.le_of_ble_eq_true rfl) ?_
  intro p e s m below meth cd hsz X htab hr hlk hN hE
  have h64 := (h64_of hC).trans (ct_lo (by decide))
  refine r_lv [0, 1, 2] [(0, .ref (ad 64)), (1, .int p0), (2, .ref (ad 0))] rfl ?_
  rcases inF_or p0 1 20 with h0 | h0
  · obtain ⟨t, ht1, ht2, hte⟩ := inF_nI (a := 1) (n := 20) (by decide) (by decide) h0
    subst hte
    have hk : (kF_pass (nI t)) = 0 := by unfold kF_pass; rw [if_pos h0]
    refine r_aload_n X 2 d_Law_pass_0 rfl rfl ?_
    refine r_iconst X 0 d_Law_pass_1 (by decide) ?_
    refine r_aload_n X 0 d_Law_pass_2 rfl rfl ?_
    refine r_iload_n X 1 d_Law_pass_3 rfl rfl ?_
    refine r_Vi X W0_good hN (sub_i 64 (by rw [hC]; exact c_G_pass l D cy (shA 64 ad) S00 J00 wf_00 0 t ht1 ht2 (by omega) rfl)) yv_G_pass m_Law_31 h64 k_G.2.1 rfl rfl rfl ⟨by decide, by decide⟩ (Nat.le_of_ble_eq_true rfl) ⟨by decide, by decide⟩ d_Law_pass_4 (fun r9 ad9 c9 hp9 => ?_)
    obtain ⟨a1, c1, hp9, rfl, rfl⟩ := hp9
    have hr9 : r9 = 0 := (hp9.1.symm).trans (sp00 t (by omega))
    subst hr9
    refine r_lv [] [] rfl ?_
    refine r_show (jnC 64 c c1) [] [.int 0, .int 0, .ref ((jnA 64 ad a1) 0)] rfl rfl (by rw [show jnA 64 ad a1 0 = ad 0 from if_neg (by decide)]) ?_
    refine r_i2l X d_Law_pass_7 ?_
    refine x_last X 7 ((if_neg (by decide)).trans hO) rfl (by unfold vp_in; decide +kernel) rfl _ rfl d_Law_pass_8 ?_
    refine r_goto X 18 d_Law_pass_9 (by decide) ?_
    refine r_iconst X 0 d_Law_pass_18 (by decide) ?_
    exact x_iret (r_iret (post := fun r ad' c' => r = (kF_pass (nI t)) ∧ ((kF_pass (nI t)) = 0 → ∃ f, c' 0 = some (.inl (cy 7, 1, .inr (.inl f))) ∧ f 0 = (0 : Int32).toInt64) ∧ ad' 0 = ad 0 ∧ ∀ n, 128 ≤ n → ad' n = ad n ∧ c' n = c n) X hr hlk d_Law_pass_19 (by decide) (by decide) ⟨hk.symm, fun _ => ⟨_, rup_self, rfl⟩, if_neg (by decide), fun n9 hn9 => ⟨if_neg (by omega), rup_ne (by omega) (if_neg (by omega))⟩⟩)
  · have hk : (kF_pass p0) = 1 := by unfold kF_pass; rw [if_neg (inF_n1 h0)]
    refine r_aload_n X 2 d_Law_pass_0 rfl rfl ?_
    refine r_iconst X 0 d_Law_pass_1 (by decide) ?_
    refine r_aload_n X 0 d_Law_pass_2 rfl rfl ?_
    refine r_iload_n X 1 d_Law_pass_3 rfl rfl ?_
    refine x_Vt X W0_good hN hE (sub_t 64 (by rw [hC]; exact t_G_pass_0 l hst9 D cy t0 (shA 64 ad) p0 h0)) yv_G_pass m_Law_31 h64 k_G.2.1 rfl rfl rfl ⟨by decide, by decide⟩ (Nat.le_of_ble_eq_true rfl) ⟨by decide, by decide⟩ d_Law_pass_4 (hh := hh_pass) htab (name := E_iae) [] ⟨0, 9, 12, 15⟩ [⟨0, 9, 15, 17⟩] rfl (fun z hz9 => absurd hz9 List.not_mem_nil) rfl (by decide) c_Law_15 (hE.1 _ ca_iae rfl) (fun q9 => ?_)
    refine r_astore_n X [(3, .ref q9), (0, .ref (ad 64)), (1, .int p0), (2, .ref (ad 0))] d_Law_pass_12 rfl (by decide) rfl ?_
    refine r_iconst X 1 d_Law_pass_13 (by decide) ?_
    exact x_iret (r_iret (post := fun r ad' c' => r = (kF_pass p0) ∧ ((kF_pass p0) = 0 → ∃ f, c' 0 = some (.inl (cy 7, 1, .inr (.inl f))) ∧ f 0 = (0 : Int32).toInt64) ∧ ad' 0 = ad 0 ∧ ∀ n, 128 ≤ n → ad' n = ad n ∧ c' n = c n) X hr hlk d_Law_pass_14 (by decide) (by decide) ⟨hk.symm, fun h9 => absurd (hk.symm.trans h9) (by decide), rfl, fun _ _ => ⟨rfl, rfl⟩⟩)
abbrev hh_lorry : List (Nat × Nat × Nat × Nat) := [(0, 9, 12, 17)]
theorem yh_lorry : rYH W0 y_Law_lorry b_Law_lorry 4 (some .int) hh_lorry 3 := ⟨W0_of 653 (by decide +kernel) rfl, W0_of 652 (by decide +kernel) rfl, W0_of 0 (by decide +kernel) rfl, by decide +kernel, by decide +kernel, by decide +kernel⟩
set_option maxRecDepth 100000 in
set_option maxHeartbeats 4000000 in
theorem w_lorry (l : Launch) (hst9 : l.stackTraces = false) (D : va_G) (cy : Nat → ClassId) (t0 : Nat) (ad : Nat → Nat) (c : rC) (hC : shC 64 c = cont cy (shA 64 ad) S00 J00) (f : Nat → Int64) (hO : c 0 = some (.inl (cy 7, 1, .inr (.inl f)))) (p0 : Int32) (hz : p0 = 0 ∨ p0 = 1) : xMh l D cls (TY cy) NW t0 y_Law_lorry (Cond.codeWith y_Law_lorry b_Law_lorry 4 (some .int) hh_lorry :: W0) { frames := 7, cells := 4, slots := 420, locals := 130 } [.ref (ad 64), .int p0, .ref (ad 0)] ad c (fun r ad' c' => r = (kF_lorry p0) ∧ ((kF_lorry p0) = 0 → ∃ f, c' 0 = some (.inl (cy 7, 1, .inr (.inl f))) ∧ f 0 = (0 : Int32).toInt64) ∧ ad' 0 = ad 0 ∧ ∀ n, 128 ≤ n → ad' n = ad n ∧ c' n = c n) := by
  intro sz
  refine x_ofh (own := R_Law) rfl (by decide +kernel) (Nat.le_of_ble_eq_true rfl) ?_
  intro p e s m below meth cd hsz X htab hr hlk hN hE
  have h64 := (h64_of hC).trans (ct_lo (by decide))
  refine r_lv [0, 1, 2] [(0, .ref (ad 64)), (1, .int p0), (2, .ref (ad 0))] rfl ?_
  have hk : (kF_lorry p0) = 0 := rfl
  refine r_aload_n X 2 d_Law_lorry_0 rfl rfl ?_
  refine r_iconst X 0 d_Law_lorry_1 (by decide) ?_
  refine r_aload_n X 0 d_Law_lorry_2 rfl rfl ?_
  refine r_iload_n X 1 d_Law_lorry_3 rfl rfl ?_
  refine r_Vi X W0_good hN (sub_i 64 (by rw [hC]; exact c_G_lorry l D cy (shA 64 ad) S00 J00 wf_00 (by decide) p0 hz)) yv_G_lorry m_Law_35 h64 k_G.2.1 rfl rfl rfl ⟨by decide, by decide⟩ (Nat.le_of_ble_eq_true rfl) ⟨by decide, by decide⟩ d_Law_lorry_4 (fun r9 ad9 c9 hp9 => ?_)
  obtain ⟨a1, c1, hp9, rfl, rfl⟩ := hp9
  have hr9 : r9 = 0 := hp9.1.symm
  subst hr9
  refine r_lv [] [] rfl ?_
  refine r_show (jnC 64 c c1) [] [.int 0, .int 0, .ref ((jnA 64 ad a1) 0)] rfl rfl (by rw [show jnA 64 ad a1 0 = ad 0 from if_neg (by decide)]) ?_
  refine r_i2l X d_Law_lorry_7 ?_
  refine x_last X 7 ((if_neg (by decide)).trans hO) rfl (by unfold vp_in; decide +kernel) rfl _ rfl d_Law_lorry_8 ?_
  refine r_goto X 15 d_Law_lorry_9 (by decide) ?_
  refine r_iconst X 0 d_Law_lorry_15 (by decide) ?_
  exact x_iret (r_iret (post := fun r ad' c' => r = (kF_lorry p0) ∧ ((kF_lorry p0) = 0 → ∃ f, c' 0 = some (.inl (cy 7, 1, .inr (.inl f))) ∧ f 0 = (0 : Int32).toInt64) ∧ ad' 0 = ad 0 ∧ ∀ n, 128 ≤ n → ad' n = ad n ∧ c' n = c n) X hr hlk d_Law_lorry_16 (by decide) (by decide) ⟨hk.symm, fun _ => ⟨_, rup_self, rfl⟩, if_neg (by decide), fun n9 hn9 => ⟨if_neg (by omega), rup_ne (by omega) (if_neg (by omega))⟩⟩)
abbrev hh_rate : List (Nat × Nat × Nat × Nat) := [(0, 10, 13, 13), (0, 10, 17, 15)]
theorem yh_rate : rYH W0 y_Law_rate b_Law_rate 5 (some .int) hh_rate 4 := ⟨W0_of 706 (by decide +kernel) rfl, W0_of 705 (by decide +kernel) rfl, W0_of 0 (by decide +kernel) rfl, by decide +kernel, by decide +kernel, by decide +kernel⟩
set_option maxRecDepth 100000 in
set_option maxHeartbeats 4000000 in
theorem w_rate (l : Launch) (hst9 : l.stackTraces = false) (D : va_G) (cy : Nat → ClassId) (t0 : Nat) (ad : Nat → Nat) (c : rC) (hC : shC 64 c = cont cy (shA 64 ad) S00 J00) (f : Nat → Int64) (hO : c 0 = some (.inl (cy 7, 1, .inr (.inl f)))) (p0 p1 : Int32)  : xMh l D cls (TY cy) NW t0 y_Law_rate (Cond.codeWith y_Law_rate b_Law_rate 5 (some .int) hh_rate :: W0) { frames := 7, cells := 4, slots := 420, locals := 130 } [.ref (ad 64), .int p0, .int p1, .ref (ad 0)] ad c (fun r ad' c' => r = (kF_rate p0 p1) ∧ ((kF_rate p0 p1) = 0 → ∃ f, c' 0 = some (.inl (cy 7, 1, .inr (.inl f))) ∧ f 0 = (0 : Int32).toInt64) ∧ ad' 0 = ad 0 ∧ ∀ n, 128 ≤ n → ad' n = ad n ∧ c' n = c n) := by
  intro sz
  refine x_ofh (own := R_Law) rfl (by decide +kernel) (Nat.le_of_ble_eq_true rfl) ?_
  intro p e s m below meth cd hsz X htab hr hlk hN hE
  have h64 := (h64_of hC).trans (ct_lo (by decide))
  refine r_lv [0, 1, 2, 3] [(0, .ref (ad 64)), (1, .int p0), (2, .int p1), (3, .ref (ad 0))] rfl ?_
  have hk : (kF_rate p0 p1) = 1 := rfl
  refine r_aload_n X 3 d_Law_rate_0 rfl rfl ?_
  refine r_iconst X 0 d_Law_rate_1 (by decide) ?_
  refine r_aload_n X 0 d_Law_rate_2 rfl rfl ?_
  refine r_iload_n X 1 d_Law_rate_3 rfl rfl ?_
  refine r_iload_n X 2 d_Law_rate_4 rfl rfl ?_
  refine x_Vt X W0_good hN hE (sub_t 64 (by rw [hC]; exact t_G_rate_0 l hst9 D cy t0 (shA 64 ad) p0 p1 )) yv_G_rate m_Law_39 h64 k_G.2.1 rfl rfl rfl ⟨by decide, by decide⟩ (Nat.le_of_ble_eq_true rfl) ⟨by decide, by decide⟩ d_Law_rate_5 (hh := hh_rate) htab (name := E_ioo) [] ⟨0, 10, 13, 13⟩ [⟨0, 10, 17, 15⟩] rfl (fun z hz9 => absurd hz9 List.not_mem_nil) rfl (by decide) c_Law_13 (hE.1 _ ca_ioo rfl) (fun q9 => ?_)
  refine r_astore X [(4, .ref q9), (0, .ref (ad 64)), (1, .int p0), (2, .int p1), (3, .ref (ad 0))] d_Law_rate_13 (by decide) rfl ?_
  refine r_iconst X 1 d_Law_rate_15 (by decide) ?_
  exact x_iret (r_iret (post := fun r ad' c' => r = (kF_rate p0 p1) ∧ ((kF_rate p0 p1) = 0 → ∃ f, c' 0 = some (.inl (cy 7, 1, .inr (.inl f))) ∧ f 0 = (0 : Int32).toInt64) ∧ ad' 0 = ad 0 ∧ ∀ n, 128 ≤ n → ad' n = ad n ∧ c' n = c n) X hr hlk d_Law_rate_16 (by decide) (by decide) ⟨hk.symm, fun h9 => absurd (hk.symm.trans h9) (by decide), rfl, fun _ _ => ⟨rfl, rfl⟩⟩)
abbrev hh_order : List (Nat × Nat × Nat × Nat) := [(0, 10, 13, 13), (0, 10, 17, 17)]
theorem yh_order : rYH W0 y_Law_order b_Law_order 5 (some .int) hh_order 4 := ⟨W0_of 719 (by decide +kernel) rfl, W0_of 718 (by decide +kernel) rfl, W0_of 0 (by decide +kernel) rfl, by decide +kernel, by decide +kernel, by decide +kernel⟩
set_option maxRecDepth 100000 in
set_option maxHeartbeats 4000000 in
theorem w_order (l : Launch) (hst9 : l.stackTraces = false) (D : va_G) (cy : Nat → ClassId) (t0 : Nat) (ad : Nat → Nat) (c : rC) (hC : shC 64 c = cont cy (shA 64 ad) S00 J00) (f : Nat → Int64) (hO : c 0 = some (.inl (cy 7, 1, .inr (.inl f)))) (p0 p1 : Int32)  : xMh l D cls (TY cy) NW t0 y_Law_order (Cond.codeWith y_Law_order b_Law_order 5 (some .int) hh_order :: W0) { frames := 7, cells := 4, slots := 420, locals := 130 } [.ref (ad 64), .int p0, .int p1, .ref (ad 0)] ad c (fun r ad' c' => r = (kF_order p0 p1) ∧ ((kF_order p0 p1) = 0 → ∃ f, c' 0 = some (.inl (cy 7, 1, .inr (.inl f))) ∧ f 0 = (0 : Int32).toInt64) ∧ ad' 0 = ad 0 ∧ ∀ n, 128 ≤ n → ad' n = ad n ∧ c' n = c n) := by
  intro sz
  refine x_ofh (own := R_Law) rfl (by decide +kernel) (Nat.le_of_ble_eq_true rfl) ?_
  intro p e s m below meth cd hsz X htab hr hlk hN hE
  have h64 := (h64_of hC).trans (ct_lo (by decide))
  refine r_lv [0, 1, 2, 3] [(0, .ref (ad 64)), (1, .int p0), (2, .int p1), (3, .ref (ad 0))] rfl ?_
  have hk : (kF_order p0 p1) = 1 := rfl
  refine r_aload_n X 3 d_Law_order_0 rfl rfl ?_
  refine r_iconst X 0 d_Law_order_1 (by decide) ?_
  refine r_aload_n X 0 d_Law_order_2 rfl rfl ?_
  refine r_iload_n X 1 d_Law_order_3 rfl rfl ?_
  refine r_iload_n X 2 d_Law_order_4 rfl rfl ?_
  refine x_Vt X W0_good hN hE (sub_t 64 (by rw [hC]; exact t_G_order_0 l hst9 D cy t0 (shA 64 ad) p0 p1 )) yv_G_order m_Law_43 h64 k_G.2.1 rfl rfl rfl ⟨by decide, by decide⟩ (Nat.le_of_ble_eq_true rfl) ⟨by decide, by decide⟩ d_Law_order_5 (hh := hh_order) htab (name := E_ioo) [] ⟨0, 10, 13, 13⟩ [⟨0, 10, 17, 17⟩] rfl (fun z hz9 => absurd hz9 List.not_mem_nil) rfl (by decide) c_Law_13 (hE.1 _ ca_ioo rfl) (fun q9 => ?_)
  refine r_astore X [(4, .ref q9), (0, .ref (ad 64)), (1, .int p0), (2, .int p1), (3, .ref (ad 0))] d_Law_order_13 (by decide) rfl ?_
  refine r_iconst X 1 d_Law_order_15 (by decide) ?_
  exact x_iret (r_iret (post := fun r ad' c' => r = (kF_order p0 p1) ∧ ((kF_order p0 p1) = 0 → ∃ f, c' 0 = some (.inl (cy 7, 1, .inr (.inl f))) ∧ f 0 = (0 : Int32).toInt64) ∧ ad' 0 = ad 0 ∧ ∀ n, 128 ≤ n → ad' n = ad n ∧ c' n = c n) X hr hlk d_Law_order_16 (by decide) (by decide) ⟨hk.symm, fun h9 => absurd (hk.symm.trans h9) (by decide), rfl, fun _ _ => ⟨rfl, rfl⟩⟩)
abbrev hh_load : List (Nat × Nat × Nat × Nat) := [(0, 9, 12, 13), (0, 9, 15, 17)]
theorem yh_load : rYH W0 y_Law_load b_Law_load 4 (some .int) hh_load 3 := ⟨W0_of 732 (by decide +kernel) rfl, W0_of 731 (by decide +kernel) rfl, W0_of 0 (by decide +kernel) rfl, by decide +kernel, by decide +kernel, by decide +kernel⟩
set_option maxRecDepth 100000 in
set_option maxHeartbeats 4000000 in
theorem w_load (l : Launch) (hst9 : l.stackTraces = false) (D : va_G) (cy : Nat → ClassId) (t0 : Nat) (ad : Nat → Nat) (c : rC) (hC : shC 64 c = cont cy (shA 64 ad) S00 J00) (f : Nat → Int64) (hO : c 0 = some (.inl (cy 7, 1, .inr (.inl f)))) (p0 : Int32)  : xMh l D cls (TY cy) NW t0 y_Law_load (Cond.codeWith y_Law_load b_Law_load 4 (some .int) hh_load :: W0) { frames := 7, cells := 4, slots := 420, locals := 130 } [.ref (ad 64), .int p0, .ref (ad 0)] ad c (fun r ad' c' => r = (kF_load p0) ∧ ((kF_load p0) = 0 → ∃ f, c' 0 = some (.inl (cy 7, 1, .inr (.inl f))) ∧ f 0 = (0 : Int32).toInt64) ∧ ad' 0 = ad 0 ∧ ∀ n, 128 ≤ n → ad' n = ad n ∧ c' n = c n) := by
  intro sz
  refine x_ofh (own := R_Law) rfl (by decide +kernel) (Nat.le_of_ble_eq_true rfl) ?_
  intro p e s m below meth cd hsz X htab hr hlk hN hE
  have h64 := (h64_of hC).trans (ct_lo (by decide))
  refine r_lv [0, 1, 2] [(0, .ref (ad 64)), (1, .int p0), (2, .ref (ad 0))] rfl ?_
  have hk : (kF_load p0) = 1 := rfl
  refine r_aload_n X 2 d_Law_load_0 rfl rfl ?_
  refine r_iconst X 0 d_Law_load_1 (by decide) ?_
  refine r_aload_n X 0 d_Law_load_2 rfl rfl ?_
  refine r_iload_n X 1 d_Law_load_3 rfl rfl ?_
  refine x_Vt X W0_good hN hE (sub_t 64 (by rw [hC]; exact t_G_load_0 l hst9 D cy t0 (shA 64 ad) p0 )) yv_G_load m_Law_46 h64 k_G.2.1 rfl rfl rfl ⟨by decide, by decide⟩ (Nat.le_of_ble_eq_true rfl) ⟨by decide, by decide⟩ d_Law_load_4 (hh := hh_load) htab (name := E_ioo) [] ⟨0, 9, 12, 13⟩ [⟨0, 9, 15, 17⟩] rfl (fun z hz9 => absurd hz9 List.not_mem_nil) rfl (by decide) c_Law_13 (hE.1 _ ca_ioo rfl) (fun q9 => ?_)
  refine r_astore_n X [(3, .ref q9), (0, .ref (ad 64)), (1, .int p0), (2, .ref (ad 0))] d_Law_load_12 rfl (by decide) rfl ?_
  refine r_iconst X 1 d_Law_load_13 (by decide) ?_
  exact x_iret (r_iret (post := fun r ad' c' => r = (kF_load p0) ∧ ((kF_load p0) = 0 → ∃ f, c' 0 = some (.inl (cy 7, 1, .inr (.inl f))) ∧ f 0 = (0 : Int32).toInt64) ∧ ad' 0 = ad 0 ∧ ∀ n, 128 ≤ n → ad' n = ad n ∧ c' n = c n) X hr hlk d_Law_load_14 (by decide) (by decide) ⟨hk.symm, fun h9 => absurd (hk.symm.trans h9) (by decide), rfl, fun _ _ => ⟨rfl, rfl⟩⟩)
abbrev hh_rest : List (Nat × Nat × Nat × Nat) := [(0, 9, 12, 13), (0, 9, 15, 17)]
theorem yh_rest : rYH W0 y_Law_rest b_Law_rest 4 (some .int) hh_rest 3 := ⟨W0_of 740 (by decide +kernel) rfl, W0_of 739 (by decide +kernel) rfl, W0_of 0 (by decide +kernel) rfl, by decide +kernel, by decide +kernel, by decide +kernel⟩
set_option maxRecDepth 100000 in
set_option maxHeartbeats 4000000 in
theorem w_rest (l : Launch) (hst9 : l.stackTraces = false) (D : va_G) (cy : Nat → ClassId) (t0 : Nat) (ad : Nat → Nat) (c : rC) (hC : shC 64 c = cont cy (shA 64 ad) S00 J00) (f : Nat → Int64) (hO : c 0 = some (.inl (cy 7, 1, .inr (.inl f)))) (p0 : Int32)  : xMh l D cls (TY cy) NW t0 y_Law_rest (Cond.codeWith y_Law_rest b_Law_rest 4 (some .int) hh_rest :: W0) { frames := 7, cells := 4, slots := 420, locals := 130 } [.ref (ad 64), .int p0, .ref (ad 0)] ad c (fun r ad' c' => r = (kF_rest p0) ∧ ((kF_rest p0) = 0 → ∃ f, c' 0 = some (.inl (cy 7, 1, .inr (.inl f))) ∧ f 0 = (0 : Int32).toInt64) ∧ ad' 0 = ad 0 ∧ ∀ n, 128 ≤ n → ad' n = ad n ∧ c' n = c n) := by
  intro sz
  refine x_ofh (own := R_Law) rfl (by decide +kernel) (Nat.le_of_ble_eq_true rfl) ?_
  intro p e s m below meth cd hsz X htab hr hlk hN hE
  have h64 := (h64_of hC).trans (ct_lo (by decide))
  refine r_lv [0, 1, 2] [(0, .ref (ad 64)), (1, .int p0), (2, .ref (ad 0))] rfl ?_
  have hk : (kF_rest p0) = 1 := rfl
  refine r_aload_n X 2 d_Law_rest_0 rfl rfl ?_
  refine r_iconst X 0 d_Law_rest_1 (by decide) ?_
  refine r_aload_n X 0 d_Law_rest_2 rfl rfl ?_
  refine r_iload_n X 1 d_Law_rest_3 rfl rfl ?_
  refine x_Vt X W0_good hN hE (sub_t 64 (by rw [hC]; exact t_G_rest_0 l hst9 D cy t0 (shA 64 ad) p0 )) yv_G_rest m_Law_49 h64 k_G.2.1 rfl rfl rfl ⟨by decide, by decide⟩ (Nat.le_of_ble_eq_true rfl) ⟨by decide, by decide⟩ d_Law_rest_4 (hh := hh_rest) htab (name := E_ioo) [] ⟨0, 9, 12, 13⟩ [⟨0, 9, 15, 17⟩] rfl (fun z hz9 => absurd hz9 List.not_mem_nil) rfl (by decide) c_Law_13 (hE.1 _ ca_ioo rfl) (fun q9 => ?_)
  refine r_astore_n X [(3, .ref q9), (0, .ref (ad 64)), (1, .int p0), (2, .ref (ad 0))] d_Law_rest_12 rfl (by decide) rfl ?_
  refine r_iconst X 1 d_Law_rest_13 (by decide) ?_
  exact x_iret (r_iret (post := fun r ad' c' => r = (kF_rest p0) ∧ ((kF_rest p0) = 0 → ∃ f, c' 0 = some (.inl (cy 7, 1, .inr (.inl f))) ∧ f 0 = (0 : Int32).toInt64) ∧ ad' 0 = ad 0 ∧ ∀ n, 128 ≤ n → ad' n = ad n ∧ c' n = c n) X hr hlk d_Law_rest_14 (by decide) (by decide) ⟨hk.symm, fun h9 => absurd (hk.symm.trans h9) (by decide), rfl, fun _ _ => ⟨rfl, rfl⟩⟩)
abbrev hh_deliver : List (Nat × Nat × Nat × Nat) := [(0, 10, 13, 15), (0, 10, 17, 17)]
theorem yh_deliver : rYH W0 y_Law_deliver b_Law_deliver 5 (some .int) hh_deliver 4 := ⟨W0_of 748 (by decide +kernel) rfl, W0_of 747 (by decide +kernel) rfl, W0_of 0 (by decide +kernel) rfl, by decide +kernel, by decide +kernel, by decide +kernel⟩
set_option maxRecDepth 100000 in
set_option maxHeartbeats 4000000 in
theorem w_deliver (l : Launch) (hst9 : l.stackTraces = false) (D : va_G) (cy : Nat → ClassId) (t0 : Nat) (ad : Nat → Nat) (c : rC) (hC : shC 64 c = cont cy (shA 64 ad) S00 J00) (f : Nat → Int64) (hO : c 0 = some (.inl (cy 7, 1, .inr (.inl f)))) (p0 p1 : Int32)  : xMh l D cls (TY cy) NW t0 y_Law_deliver (Cond.codeWith y_Law_deliver b_Law_deliver 5 (some .int) hh_deliver :: W0) { frames := 7, cells := 4, slots := 420, locals := 130 } [.ref (ad 64), .int p0, .int p1, .ref (ad 0)] ad c (fun r ad' c' => r = (kF_deliver p0 p1) ∧ ((kF_deliver p0 p1) = 0 → ∃ f, c' 0 = some (.inl (cy 7, 1, .inr (.inl f))) ∧ f 0 = (1 : Int32).toInt64) ∧ ad' 0 = ad 0 ∧ ∀ n, 128 ≤ n → ad' n = ad n ∧ c' n = c n) := by
  intro sz
  refine x_ofh (own := R_Law) rfl (by decide +kernel) (Nat.le_of_ble_eq_true rfl) ?_
  intro p e s m below meth cd hsz X htab hr hlk hN hE
  have h64 := (h64_of hC).trans (ct_lo (by decide))
  refine r_lv [0, 1, 2, 3] [(0, .ref (ad 64)), (1, .int p0), (2, .int p1), (3, .ref (ad 0))] rfl ?_
  rcases inF_or p0 1 500 with h0 | h0
  · rcases inF_or p1 1 96 with h1 | h1
    · have hk : (kF_deliver p0 p1) = 0 := by unfold kF_deliver; rw [if_pos h0, if_pos h1]
      refine r_aload_n X 3 d_Law_deliver_0 rfl rfl ?_
      refine r_iconst X 0 d_Law_deliver_1 (by decide) ?_
      refine r_aload_n X 0 d_Law_deliver_2 rfl rfl ?_
      refine r_iload_n X 1 d_Law_deliver_3 rfl rfl ?_
      refine r_iload_n X 2 d_Law_deliver_4 rfl rfl ?_
      refine r_Vi X W0_good hN (sub_i 64 (by rw [hC]; exact c_G_deliver l D cy (shA 64 ad) p0 p1 h0 h1)) yv_G_deliver m_Law_52 h64 k_G.2.1 rfl rfl rfl ⟨by decide, by decide⟩ (Nat.le_of_ble_eq_true rfl) ⟨by decide, by decide⟩ d_Law_deliver_5 (fun r9 ad9 c9 hp9 => ?_)
      obtain ⟨a1, c1, hp9, rfl, rfl⟩ := hp9
      have hr9 : r9 = 1 := hp9.symm
      subst hr9
      refine r_lv [] [] rfl ?_
      refine r_show (jnC 64 c c1) [] [.int 1, .int 0, .ref ((jnA 64 ad a1) 0)] rfl rfl (by rw [show jnA 64 ad a1 0 = ad 0 from if_neg (by decide)]) ?_
      refine r_i2l X d_Law_deliver_8 ?_
      refine x_last X 7 ((if_neg (by decide)).trans hO) rfl (by unfold vp_in; decide +kernel) rfl _ rfl d_Law_deliver_9 ?_
      refine r_goto X 21 d_Law_deliver_10 (by decide) ?_
      refine r_iconst X 0 d_Law_deliver_21 (by decide) ?_
      exact x_iret (r_iret (post := fun r ad' c' => r = (kF_deliver p0 p1) ∧ ((kF_deliver p0 p1) = 0 → ∃ f, c' 0 = some (.inl (cy 7, 1, .inr (.inl f))) ∧ f 0 = (1 : Int32).toInt64) ∧ ad' 0 = ad 0 ∧ ∀ n, 128 ≤ n → ad' n = ad n ∧ c' n = c n) X hr hlk d_Law_deliver_22 (by decide) (by decide) ⟨hk.symm, fun _ => ⟨_, rup_self, rfl⟩, if_neg (by decide), fun n9 hn9 => ⟨if_neg (by omega), rup_ne (by omega) (if_neg (by omega))⟩⟩)
    · have hk : (kF_deliver p0 p1) = 1 := by unfold kF_deliver; rw [if_pos h0, if_neg (inF_n1 h1)]
      refine r_aload_n X 3 d_Law_deliver_0 rfl rfl ?_
      refine r_iconst X 0 d_Law_deliver_1 (by decide) ?_
      refine r_aload_n X 0 d_Law_deliver_2 rfl rfl ?_
      refine r_iload_n X 1 d_Law_deliver_3 rfl rfl ?_
      refine r_iload_n X 2 d_Law_deliver_4 rfl rfl ?_
      refine x_Vt X W0_good hN hE (sub_t 64 (by rw [hC]; exact t_G_deliver_1 l hst9 D cy t0 (shA 64 ad) p0 p1 h0 h1)) yv_G_deliver m_Law_52 h64 k_G.2.1 rfl rfl rfl ⟨by decide, by decide⟩ (Nat.le_of_ble_eq_true rfl) ⟨by decide, by decide⟩ d_Law_deliver_5 (hh := hh_deliver) htab (name := E_iae) [] ⟨0, 10, 13, 15⟩ [⟨0, 10, 17, 17⟩] rfl (fun z hz9 => absurd hz9 List.not_mem_nil) rfl (by decide) c_Law_15 (hE.1 _ ca_iae rfl) (fun q9 => ?_)
      refine r_astore X [(4, .ref q9), (0, .ref (ad 64)), (1, .int p0), (2, .int p1), (3, .ref (ad 0))] d_Law_deliver_13 (by decide) rfl ?_
      refine r_iconst X 1 d_Law_deliver_15 (by decide) ?_
      exact x_iret (r_iret (post := fun r ad' c' => r = (kF_deliver p0 p1) ∧ ((kF_deliver p0 p1) = 0 → ∃ f, c' 0 = some (.inl (cy 7, 1, .inr (.inl f))) ∧ f 0 = (1 : Int32).toInt64) ∧ ad' 0 = ad 0 ∧ ∀ n, 128 ≤ n → ad' n = ad n ∧ c' n = c n) X hr hlk d_Law_deliver_16 (by decide) (by decide) ⟨hk.symm, fun h9 => absurd (hk.symm.trans h9) (by decide), rfl, fun _ _ => ⟨rfl, rfl⟩⟩)
  · have hk : (kF_deliver p0 p1) = 1 := by unfold kF_deliver; rw [if_neg (inF_n1 h0)]
    refine r_aload_n X 3 d_Law_deliver_0 rfl rfl ?_
    refine r_iconst X 0 d_Law_deliver_1 (by decide) ?_
    refine r_aload_n X 0 d_Law_deliver_2 rfl rfl ?_
    refine r_iload_n X 1 d_Law_deliver_3 rfl rfl ?_
    refine r_iload_n X 2 d_Law_deliver_4 rfl rfl ?_
    refine x_Vt X W0_good hN hE (sub_t 64 (by rw [hC]; exact t_G_deliver_0 l hst9 D cy t0 (shA 64 ad) p0 p1 h0)) yv_G_deliver m_Law_52 h64 k_G.2.1 rfl rfl rfl ⟨by decide, by decide⟩ (Nat.le_of_ble_eq_true rfl) ⟨by decide, by decide⟩ d_Law_deliver_5 (hh := hh_deliver) htab (name := E_iae) [] ⟨0, 10, 13, 15⟩ [⟨0, 10, 17, 17⟩] rfl (fun z hz9 => absurd hz9 List.not_mem_nil) rfl (by decide) c_Law_15 (hE.1 _ ca_iae rfl) (fun q9 => ?_)
    refine r_astore X [(4, .ref q9), (0, .ref (ad 64)), (1, .int p0), (2, .int p1), (3, .ref (ad 0))] d_Law_deliver_13 (by decide) rfl ?_
    refine r_iconst X 1 d_Law_deliver_15 (by decide) ?_
    exact x_iret (r_iret (post := fun r ad' c' => r = (kF_deliver p0 p1) ∧ ((kF_deliver p0 p1) = 0 → ∃ f, c' 0 = some (.inl (cy 7, 1, .inr (.inl f))) ∧ f 0 = (1 : Int32).toInt64) ∧ ad' 0 = ad 0 ∧ ∀ n, 128 ≤ n → ad' n = ad n ∧ c' n = c n) X hr hlk d_Law_deliver_16 (by decide) (by decide) ⟨hk.symm, fun h9 => absurd (hk.symm.trans h9) (by decide), rfl, fun _ _ => ⟨rfl, rfl⟩⟩)
abbrev hh_claim : List (Nat × Nat × Nat × Nat) := [(0, 10, 13, 13), (0, 10, 17, 15)]
theorem yh_claim : rYH W0 y_Law_claim b_Law_claim 5 (some .int) hh_claim 4 := ⟨W0_of 775 (by decide +kernel) rfl, W0_of 774 (by decide +kernel) rfl, W0_of 0 (by decide +kernel) rfl, by decide +kernel, by decide +kernel, by decide +kernel⟩
set_option maxRecDepth 100000 in
set_option maxHeartbeats 4000000 in
theorem w_claim (l : Launch) (hst9 : l.stackTraces = false) (D : va_G) (cy : Nat → ClassId) (t0 : Nat) (ad : Nat → Nat) (c : rC) (hC : shC 64 c = cont cy (shA 64 ad) S00 J00) (f : Nat → Int64) (hO : c 0 = some (.inl (cy 7, 1, .inr (.inl f)))) (p0 p1 : Int32)  : xMh l D cls (TY cy) NW t0 y_Law_claim (Cond.codeWith y_Law_claim b_Law_claim 5 (some .int) hh_claim :: W0) { frames := 7, cells := 4, slots := 420, locals := 130 } [.ref (ad 64), .int p0, .int p1, .ref (ad 0)] ad c (fun r ad' c' => r = (kF_claim p0 p1) ∧ ((kF_claim p0 p1) = 0 → ∃ f, c' 0 = some (.inl (cy 7, 1, .inr (.inl f))) ∧ f 0 = (0 : Int32).toInt64) ∧ ad' 0 = ad 0 ∧ ∀ n, 128 ≤ n → ad' n = ad n ∧ c' n = c n) := by
  intro sz
  refine x_ofh (own := R_Law) rfl (by decide +kernel) (Nat.le_of_ble_eq_true rfl) ?_
  intro p e s m below meth cd hsz X htab hr hlk hN hE
  have h64 := (h64_of hC).trans (ct_lo (by decide))
  refine r_lv [0, 1, 2, 3] [(0, .ref (ad 64)), (1, .int p0), (2, .int p1), (3, .ref (ad 0))] rfl ?_
  have hk : (kF_claim p0 p1) = 1 := rfl
  refine r_aload_n X 3 d_Law_claim_0 rfl rfl ?_
  refine r_iconst X 0 d_Law_claim_1 (by decide) ?_
  refine r_aload_n X 0 d_Law_claim_2 rfl rfl ?_
  refine r_iload_n X 1 d_Law_claim_3 rfl rfl ?_
  refine r_iload_n X 2 d_Law_claim_4 rfl rfl ?_
  refine x_Vt X W0_good hN hE (sub_t 64 (by rw [hC]; exact t_G_claim_0 l hst9 D cy t0 (shA 64 ad) p0 p1 )) yv_G_claim m_Law_55 h64 k_G.2.1 rfl rfl rfl ⟨by decide, by decide⟩ (Nat.le_of_ble_eq_true rfl) ⟨by decide, by decide⟩ d_Law_claim_5 (hh := hh_claim) htab (name := E_ioo) [] ⟨0, 10, 13, 13⟩ [⟨0, 10, 17, 15⟩] rfl (fun z hz9 => absurd hz9 List.not_mem_nil) rfl (by decide) c_Law_13 (hE.1 _ ca_ioo rfl) (fun q9 => ?_)
  refine r_astore X [(4, .ref q9), (0, .ref (ad 64)), (1, .int p0), (2, .int p1), (3, .ref (ad 0))] d_Law_claim_13 (by decide) rfl ?_
  refine r_iconst X 1 d_Law_claim_15 (by decide) ?_
  exact x_iret (r_iret (post := fun r ad' c' => r = (kF_claim p0 p1) ∧ ((kF_claim p0 p1) = 0 → ∃ f, c' 0 = some (.inl (cy 7, 1, .inr (.inl f))) ∧ f 0 = (0 : Int32).toInt64) ∧ ad' 0 = ad 0 ∧ ∀ n, 128 ≤ n → ad' n = ad n ∧ c' n = c n) X hr hlk d_Law_claim_16 (by decide) (by decide) ⟨hk.symm, fun h9 => absurd (hk.symm.trans h9) (by decide), rfl, fun _ _ => ⟨rfl, rfl⟩⟩)
abbrev hh_ofRoad : List (Nat × Nat × Nat × Nat) := [(0, 10, 13, 13), (0, 10, 17, 15)]
theorem yh_ofRoad : rYH W0 y_Law_ofRoad b_Law_ofRoad 5 (some .int) hh_ofRoad 4 := ⟨W0_of 784 (by decide +kernel) rfl, W0_of 783 (by decide +kernel) rfl, W0_of 0 (by decide +kernel) rfl, by decide +kernel, by decide +kernel, by decide +kernel⟩
set_option maxRecDepth 100000 in
set_option maxHeartbeats 4000000 in
theorem w_ofRoad (l : Launch) (hst9 : l.stackTraces = false) (D : va_G) (cy : Nat → ClassId) (t0 : Nat) (ad : Nat → Nat) (c : rC) (hC : shC 64 c = cont cy (shA 64 ad) S00 J00) (f : Nat → Int64) (hO : c 0 = some (.inl (cy 7, 1, .inr (.inl f)))) (p0 p1 : Int32)  : xMh l D cls (TY cy) NW t0 y_Law_ofRoad (Cond.codeWith y_Law_ofRoad b_Law_ofRoad 5 (some .int) hh_ofRoad :: W0) { frames := 7, cells := 4, slots := 420, locals := 130 } [.ref (ad 64), .int p0, .int p1, .ref (ad 0)] ad c (fun r ad' c' => r = (kF_ofRoad p0 p1) ∧ ((kF_ofRoad p0 p1) = 0 → ∃ f, c' 0 = some (.inl (cy 7, 1, .inr (.inl f))) ∧ f 0 = (0 : Int32).toInt64) ∧ ad' 0 = ad 0 ∧ ∀ n, 128 ≤ n → ad' n = ad n ∧ c' n = c n) := by
  intro sz
  refine x_ofh (own := R_Law) rfl (by decide +kernel) (Nat.le_of_ble_eq_true rfl) ?_
  intro p e s m below meth cd hsz X htab hr hlk hN hE
  have h64 := (h64_of hC).trans (ct_lo (by decide))
  refine r_lv [0, 1, 2, 3] [(0, .ref (ad 64)), (1, .int p0), (2, .int p1), (3, .ref (ad 0))] rfl ?_
  have hk : (kF_ofRoad p0 p1) = 1 := rfl
  refine r_aload_n X 3 d_Law_ofRoad_0 rfl rfl ?_
  refine r_iconst X 0 d_Law_ofRoad_1 (by decide) ?_
  refine r_aload_n X 0 d_Law_ofRoad_2 rfl rfl ?_
  refine r_iload_n X 1 d_Law_ofRoad_3 rfl rfl ?_
  refine r_iload_n X 2 d_Law_ofRoad_4 rfl rfl ?_
  refine x_Vt X W0_good hN hE (sub_t 64 (by rw [hC]; exact t_G_ofRoad_0 l hst9 D cy t0 (shA 64 ad) p0 p1 )) yv_G_ofRoad m_Law_58 h64 k_G.2.1 rfl rfl rfl ⟨by decide, by decide⟩ (Nat.le_of_ble_eq_true rfl) ⟨by decide, by decide⟩ d_Law_ofRoad_5 (hh := hh_ofRoad) htab (name := E_ioo) [] ⟨0, 10, 13, 13⟩ [⟨0, 10, 17, 15⟩] rfl (fun z hz9 => absurd hz9 List.not_mem_nil) rfl (by decide) c_Law_13 (hE.1 _ ca_ioo rfl) (fun q9 => ?_)
  refine r_astore X [(4, .ref q9), (0, .ref (ad 64)), (1, .int p0), (2, .int p1), (3, .ref (ad 0))] d_Law_ofRoad_13 (by decide) rfl ?_
  refine r_iconst X 1 d_Law_ofRoad_15 (by decide) ?_
  exact x_iret (r_iret (post := fun r ad' c' => r = (kF_ofRoad p0 p1) ∧ ((kF_ofRoad p0 p1) = 0 → ∃ f, c' 0 = some (.inl (cy 7, 1, .inr (.inl f))) ∧ f 0 = (0 : Int32).toInt64) ∧ ad' 0 = ad 0 ∧ ∀ n, 128 ≤ n → ad' n = ad n ∧ c' n = c n) X hr hlk d_Law_ofRoad_16 (by decide) (by decide) ⟨hk.symm, fun h9 => absurd (hk.symm.trans h9) (by decide), rfl, fun _ _ => ⟨rfl, rfl⟩⟩)
abbrev hh_ofLorry : List (Nat × Nat × Nat × Nat) := [(0, 10, 13, 13), (0, 10, 17, 15)]
theorem yh_ofLorry : rYH W0 y_Law_ofLorry b_Law_ofLorry 5 (some .int) hh_ofLorry 4 := ⟨W0_of 792 (by decide +kernel) rfl, W0_of 791 (by decide +kernel) rfl, W0_of 0 (by decide +kernel) rfl, by decide +kernel, by decide +kernel, by decide +kernel⟩
set_option maxRecDepth 100000 in
set_option maxHeartbeats 4000000 in
theorem w_ofLorry (l : Launch) (hst9 : l.stackTraces = false) (D : va_G) (cy : Nat → ClassId) (t0 : Nat) (ad : Nat → Nat) (c : rC) (hC : shC 64 c = cont cy (shA 64 ad) S00 J00) (f : Nat → Int64) (hO : c 0 = some (.inl (cy 7, 1, .inr (.inl f)))) (p0 p1 : Int32)  : xMh l D cls (TY cy) NW t0 y_Law_ofLorry (Cond.codeWith y_Law_ofLorry b_Law_ofLorry 5 (some .int) hh_ofLorry :: W0) { frames := 7, cells := 4, slots := 420, locals := 130 } [.ref (ad 64), .int p0, .int p1, .ref (ad 0)] ad c (fun r ad' c' => r = (kF_ofLorry p0 p1) ∧ ((kF_ofLorry p0 p1) = 0 → ∃ f, c' 0 = some (.inl (cy 7, 1, .inr (.inl f))) ∧ f 0 = (0 : Int32).toInt64) ∧ ad' 0 = ad 0 ∧ ∀ n, 128 ≤ n → ad' n = ad n ∧ c' n = c n) := by
  intro sz
  refine x_ofh (own := R_Law) rfl (by decide +kernel) (Nat.le_of_ble_eq_true rfl) ?_
  intro p e s m below meth cd hsz X htab hr hlk hN hE
  have h64 := (h64_of hC).trans (ct_lo (by decide))
  refine r_lv [0, 1, 2, 3] [(0, .ref (ad 64)), (1, .int p0), (2, .int p1), (3, .ref (ad 0))] rfl ?_
  have hk : (kF_ofLorry p0 p1) = 1 := rfl
  refine r_aload_n X 3 d_Law_ofLorry_0 rfl rfl ?_
  refine r_iconst X 0 d_Law_ofLorry_1 (by decide) ?_
  refine r_aload_n X 0 d_Law_ofLorry_2 rfl rfl ?_
  refine r_iload_n X 1 d_Law_ofLorry_3 rfl rfl ?_
  refine r_iload_n X 2 d_Law_ofLorry_4 rfl rfl ?_
  refine x_Vt X W0_good hN hE (sub_t 64 (by rw [hC]; exact t_G_ofLorry_0 l hst9 D cy t0 (shA 64 ad) p0 p1 )) yv_G_ofLorry m_Law_61 h64 k_G.2.1 rfl rfl rfl ⟨by decide, by decide⟩ (Nat.le_of_ble_eq_true rfl) ⟨by decide, by decide⟩ d_Law_ofLorry_5 (hh := hh_ofLorry) htab (name := E_ioo) [] ⟨0, 10, 13, 13⟩ [⟨0, 10, 17, 15⟩] rfl (fun z hz9 => absurd hz9 List.not_mem_nil) rfl (by decide) c_Law_13 (hE.1 _ ca_ioo rfl) (fun q9 => ?_)
  refine r_astore X [(4, .ref q9), (0, .ref (ad 64)), (1, .int p0), (2, .int p1), (3, .ref (ad 0))] d_Law_ofLorry_13 (by decide) rfl ?_
  refine r_iconst X 1 d_Law_ofLorry_15 (by decide) ?_
  exact x_iret (r_iret (post := fun r ad' c' => r = (kF_ofLorry p0 p1) ∧ ((kF_ofLorry p0 p1) = 0 → ∃ f, c' 0 = some (.inl (cy 7, 1, .inr (.inl f))) ∧ f 0 = (0 : Int32).toInt64) ∧ ad' 0 = ad 0 ∧ ∀ n, 128 ≤ n → ad' n = ad n ∧ c' n = c n) X hr hlk d_Law_ofLorry_16 (by decide) (by decide) ⟨hk.symm, fun h9 => absurd (hk.symm.trans h9) (by decide), rfl, fun _ _ => ⟨rfl, rfl⟩⟩)
abbrev hh_many : List (Nat × Nat × Nat × Nat) := [(0, 9, 12, 15)]
theorem yh_many : rYH W0 y_Law_many b_Law_many 4 (some .int) hh_many 3 := ⟨W0_of 800 (by decide +kernel) rfl, W0_of 799 (by decide +kernel) rfl, W0_of 0 (by decide +kernel) rfl, by decide +kernel, by decide +kernel, by decide +kernel⟩
set_option maxRecDepth 100000 in
set_option maxHeartbeats 4000000 in
theorem w_many (l : Launch) (hst9 : l.stackTraces = false) (D : va_G) (cy : Nat → ClassId) (t0 : Nat) (ad : Nat → Nat) (c : rC) (hC : shC 64 c = cont cy (shA 64 ad) S00 J00) (f : Nat → Int64) (hO : c 0 = some (.inl (cy 7, 1, .inr (.inl f)))) (p0 : Int32)  : xMh l D cls (TY cy) NW t0 y_Law_many (Cond.codeWith y_Law_many b_Law_many 4 (some .int) hh_many :: W0) { frames := 7, cells := 4, slots := 420, locals := 130 } [.ref (ad 64), .int p0, .ref (ad 0)] ad c (fun r ad' c' => r = (kF_many p0) ∧ ((kF_many p0) = 0 → ∃ f, c' 0 = some (.inl (cy 7, 1, .inr (.inl f))) ∧ f 0 = ((cntF S00 (p0).toNatClampNeg) : Int32).toInt64) ∧ ad' 0 = ad 0 ∧ ∀ n, 128 ≤ n → ad' n = ad n ∧ c' n = c n) := by
  intro sz
  refine x_ofh (own := R_Law) rfl (by decide +kernel) (Nat.le_of_ble_eq_true rfl) ?_
  intro p e s m below meth cd hsz X htab hr hlk hN hE
  have h64 := (h64_of hC).trans (ct_lo (by decide))
  refine r_lv [0, 1, 2] [(0, .ref (ad 64)), (1, .int p0), (2, .ref (ad 0))] rfl ?_
  rcases inF_or p0 0 14 with h0 | h0
  · obtain ⟨t, ht1, ht2, hte⟩ := inF_nI (a := 0) (n := 14) (by decide) (by decide) h0
    subst hte
    have hk : (kF_many (nI t)) = 0 := by unfold kF_many; rw [if_pos h0]
    refine r_aload_n X 2 d_Law_many_0 rfl rfl ?_
    refine r_iconst X 0 d_Law_many_1 (by decide) ?_
    refine r_aload_n X 0 d_Law_many_2 rfl rfl ?_
    refine r_iload_n X 1 d_Law_many_3 rfl rfl ?_
    refine r_Vi X W0_good hN (sub_i 64 (by rw [hC]; exact c_G_many l D cy (shA 64 ad) S00 J00 wf_00 t (by omega))) yv_G_many m_Law_64 h64 k_G.2.1 rfl rfl rfl ⟨by decide, by decide⟩ (Nat.le_of_ble_eq_true rfl) ⟨by decide, by decide⟩ d_Law_many_4 (fun r9 ad9 c9 hp9 => ?_)
    obtain ⟨a1, c1, hp9, rfl, rfl⟩ := hp9
    have hr9 : r9 = (cntF S00 ((nI t)).toNatClampNeg) := (hp9.1.symm).trans (by rw [nI_clamp (by omega)])
    subst hr9
    refine r_lv [] [] rfl ?_
    refine r_show (jnC 64 c c1) [] [.int (cntF S00 ((nI t)).toNatClampNeg), .int 0, .ref ((jnA 64 ad a1) 0)] rfl rfl (by rw [show jnA 64 ad a1 0 = ad 0 from if_neg (by decide)]) ?_
    refine r_i2l X d_Law_many_7 ?_
    refine x_last X 7 ((if_neg (by decide)).trans hO) rfl (by unfold vp_in; decide +kernel) rfl _ rfl d_Law_many_8 ?_
    refine r_goto X 15 d_Law_many_9 (by decide) ?_
    refine r_iconst X 0 d_Law_many_15 (by decide) ?_
    exact x_iret (r_iret (post := fun r ad' c' => r = (kF_many (nI t)) ∧ ((kF_many (nI t)) = 0 → ∃ f, c' 0 = some (.inl (cy 7, 1, .inr (.inl f))) ∧ f 0 = ((cntF S00 ((nI t)).toNatClampNeg) : Int32).toInt64) ∧ ad' 0 = ad 0 ∧ ∀ n, 128 ≤ n → ad' n = ad n ∧ c' n = c n) X hr hlk d_Law_many_16 (by decide) (by decide) ⟨hk.symm, fun _ => ⟨_, rup_self, rfl⟩, if_neg (by decide), fun n9 hn9 => ⟨if_neg (by omega), rup_ne (by omega) (if_neg (by omega))⟩⟩)
  · have hk : (kF_many p0) = 1 := by unfold kF_many; rw [if_neg (inF_n1 h0)]
    refine r_aload_n X 2 d_Law_many_0 rfl rfl ?_
    refine r_iconst X 0 d_Law_many_1 (by decide) ?_
    refine r_aload_n X 0 d_Law_many_2 rfl rfl ?_
    refine r_iload_n X 1 d_Law_many_3 rfl rfl ?_
    refine x_Vt X W0_good hN hE (sub_t 64 (by rw [hC]; exact t_G_many_0 l hst9 D cy t0 (shA 64 ad) p0 h0)) yv_G_many m_Law_64 h64 k_G.2.1 rfl rfl rfl ⟨by decide, by decide⟩ (Nat.le_of_ble_eq_true rfl) ⟨by decide, by decide⟩ d_Law_many_4 (hh := hh_many) htab (name := E_iae) [] ⟨0, 9, 12, 15⟩ [] rfl (fun z hz9 => absurd hz9 List.not_mem_nil) rfl (by decide) c_Law_15 (hE.1 _ ca_iae rfl) (fun q9 => ?_)
    refine r_astore_n X [(3, .ref q9), (0, .ref (ad 64)), (1, .int p0), (2, .ref (ad 0))] d_Law_many_12 rfl (by decide) rfl ?_
    refine r_iconst X 1 d_Law_many_13 (by decide) ?_
    exact x_iret (r_iret (post := fun r ad' c' => r = (kF_many p0) ∧ ((kF_many p0) = 0 → ∃ f, c' 0 = some (.inl (cy 7, 1, .inr (.inl f))) ∧ f 0 = ((cntF S00 (p0).toNatClampNeg) : Int32).toInt64) ∧ ad' 0 = ad 0 ∧ ∀ n, 128 ≤ n → ad' n = ad n ∧ c' n = c n) X hr hlk d_Law_many_14 (by decide) (by decide) ⟨hk.symm, fun h9 => absurd (hk.symm.trans h9) (by decide), rfl, fun _ _ => ⟨rfl, rfl⟩⟩)
abbrev hh_way : List (Nat × Nat × Nat × Nat) := [(0, 10, 13, 13)]
theorem yh_way : rYH W0 y_Law_way b_Law_way 5 (some .int) hh_way 4 := ⟨W0_of 807 (by decide +kernel) rfl, W0_of 806 (by decide +kernel) rfl, W0_of 0 (by decide +kernel) rfl, by decide +kernel, by decide +kernel, by decide +kernel⟩
set_option maxRecDepth 100000 in
set_option maxHeartbeats 4000000 in
theorem w_way (l : Launch) (hst9 : l.stackTraces = false) (D : va_G) (cy : Nat → ClassId) (t0 : Nat) (ad : Nat → Nat) (c : rC) (hC : shC 64 c = cont cy (shA 64 ad) S00 J00) (f : Nat → Int64) (hO : c 0 = some (.inl (cy 7, 1, .inr (.inl f)))) (p0 p1 : Int32)  : xMh l D cls (TY cy) NW t0 y_Law_way (Cond.codeWith y_Law_way b_Law_way 5 (some .int) hh_way :: W0) { frames := 7, cells := 4, slots := 420, locals := 130 } [.ref (ad 64), .int p0, .int p1, .ref (ad 0)] ad c (fun r ad' c' => r = (kF_way p0 p1) ∧ ((kF_way p0 p1) = 0 → ∃ f, c' 0 = some (.inl (cy 7, 1, .inr (.inl f))) ∧ f 0 = ((if p0 = p1 then 0 else -1) : Int32).toInt64) ∧ ad' 0 = ad 0 ∧ ∀ n, 128 ≤ n → ad' n = ad n ∧ c' n = c n) := by
  intro sz
  refine x_ofh (own := R_Law) rfl (by decide +kernel) (Nat.le_of_ble_eq_true rfl) ?_
  intro p e s m below meth cd hsz X htab hr hlk hN hE
  have h64 := (h64_of hC).trans (ct_lo (by decide))
  refine r_lv [0, 1, 2, 3] [(0, .ref (ad 64)), (1, .int p0), (2, .int p1), (3, .ref (ad 0))] rfl ?_
  rcases inF_or p0 0 6 with h0 | h0
  · rcases inF_or p1 0 6 with h1 | h1
    · obtain ⟨t, ht1, ht2, hte⟩ := inF_nI (a := 0) (n := 6) (by decide) (by decide) h0
      subst hte
      obtain ⟨u, hu1, hu2, hue⟩ := inF_nI (a := 0) (n := 6) (by decide) (by decide) h1
      subst hue
      have hk : (kF_way (nI t) (nI u)) = 0 := by unfold kF_way; rw [if_pos h0, if_pos h1]
      refine r_aload_n X 3 d_Law_way_0 rfl rfl ?_
      refine r_iconst X 0 d_Law_way_1 (by decide) ?_
      refine r_aload_n X 0 d_Law_way_2 rfl rfl ?_
      refine r_iload_n X 1 d_Law_way_3 rfl rfl ?_
      refine r_iload_n X 2 d_Law_way_4 rfl rfl ?_
      refine r_Vi X W0_good hN (sub_i 64 (by rw [hC]; exact c_G_way l D cy (shA 64 ad) t u (by omega) (by omega))) yv_G_way m_Law_67 h64 k_G.2.1 rfl rfl rfl ⟨by decide, by decide⟩ (Nat.le_of_ble_eq_true rfl) ⟨by decide, by decide⟩ d_Law_way_5 (fun r9 ad9 c9 hp9 => ?_)
      obtain ⟨a1, c1, hp9, rfl, rfl⟩ := hp9
      have hr9 : r9 = (if (nI t) = (nI u) then 0 else -1) := hp9.symm
      subst hr9
      refine r_lv [] [] rfl ?_
      refine r_show (jnC 64 c c1) [] [.int (if (nI t) = (nI u) then 0 else -1), .int 0, .ref ((jnA 64 ad a1) 0)] rfl rfl (by rw [show jnA 64 ad a1 0 = ad 0 from if_neg (by decide)]) ?_
      refine r_i2l X d_Law_way_8 ?_
      refine x_last X 7 ((if_neg (by decide)).trans hO) rfl (by unfold vp_in; decide +kernel) rfl _ rfl d_Law_way_9 ?_
      refine r_goto X 17 d_Law_way_10 (by decide) ?_
      refine r_iconst X 0 d_Law_way_17 (by decide) ?_
      exact x_iret (r_iret (post := fun r ad' c' => r = (kF_way (nI t) (nI u)) ∧ ((kF_way (nI t) (nI u)) = 0 → ∃ f, c' 0 = some (.inl (cy 7, 1, .inr (.inl f))) ∧ f 0 = ((if (nI t) = (nI u) then 0 else -1) : Int32).toInt64) ∧ ad' 0 = ad 0 ∧ ∀ n, 128 ≤ n → ad' n = ad n ∧ c' n = c n) X hr hlk d_Law_way_18 (by decide) (by decide) ⟨hk.symm, fun _ => ⟨_, rup_self, rfl⟩, if_neg (by decide), fun n9 hn9 => ⟨if_neg (by omega), rup_ne (by omega) (if_neg (by omega))⟩⟩)
    · have hk : (kF_way p0 p1) = 1 := by unfold kF_way; rw [if_pos h0, if_neg (inF_n1 h1)]
      refine r_aload_n X 3 d_Law_way_0 rfl rfl ?_
      refine r_iconst X 0 d_Law_way_1 (by decide) ?_
      refine r_aload_n X 0 d_Law_way_2 rfl rfl ?_
      refine r_iload_n X 1 d_Law_way_3 rfl rfl ?_
      refine r_iload_n X 2 d_Law_way_4 rfl rfl ?_
      refine x_Vt X W0_good hN hE (sub_t 64 (by rw [hC]; exact t_G_way_1 l hst9 D cy t0 (shA 64 ad) p0 p1 h0 h1)) yv_G_way m_Law_67 h64 k_G.2.1 rfl rfl rfl ⟨by decide, by decide⟩ (Nat.le_of_ble_eq_true rfl) ⟨by decide, by decide⟩ d_Law_way_5 (hh := hh_way) htab (name := E_ioo) [] ⟨0, 10, 13, 13⟩ [] rfl (fun z hz9 => absurd hz9 List.not_mem_nil) rfl (by decide) c_Law_13 (hE.1 _ ca_ioo rfl) (fun q9 => ?_)
      refine r_astore X [(4, .ref q9), (0, .ref (ad 64)), (1, .int p0), (2, .int p1), (3, .ref (ad 0))] d_Law_way_13 (by decide) rfl ?_
      refine r_iconst X 1 d_Law_way_15 (by decide) ?_
      exact x_iret (r_iret (post := fun r ad' c' => r = (kF_way p0 p1) ∧ ((kF_way p0 p1) = 0 → ∃ f, c' 0 = some (.inl (cy 7, 1, .inr (.inl f))) ∧ f 0 = ((if p0 = p1 then 0 else -1) : Int32).toInt64) ∧ ad' 0 = ad 0 ∧ ∀ n, 128 ≤ n → ad' n = ad n ∧ c' n = c n) X hr hlk d_Law_way_16 (by decide) (by decide) ⟨hk.symm, fun h9 => absurd (hk.symm.trans h9) (by decide), rfl, fun _ _ => ⟨rfl, rfl⟩⟩)
  · have hk : (kF_way p0 p1) = 1 := by unfold kF_way; rw [if_neg (inF_n1 h0)]
    refine r_aload_n X 3 d_Law_way_0 rfl rfl ?_
    refine r_iconst X 0 d_Law_way_1 (by decide) ?_
    refine r_aload_n X 0 d_Law_way_2 rfl rfl ?_
    refine r_iload_n X 1 d_Law_way_3 rfl rfl ?_
    refine r_iload_n X 2 d_Law_way_4 rfl rfl ?_
    refine x_Vt X W0_good hN hE (sub_t 64 (by rw [hC]; exact t_G_way_0 l hst9 D cy t0 (shA 64 ad) p0 p1 h0)) yv_G_way m_Law_67 h64 k_G.2.1 rfl rfl rfl ⟨by decide, by decide⟩ (Nat.le_of_ble_eq_true rfl) ⟨by decide, by decide⟩ d_Law_way_5 (hh := hh_way) htab (name := E_ioo) [] ⟨0, 10, 13, 13⟩ [] rfl (fun z hz9 => absurd hz9 List.not_mem_nil) rfl (by decide) c_Law_13 (hE.1 _ ca_ioo rfl) (fun q9 => ?_)
    refine r_astore X [(4, .ref q9), (0, .ref (ad 64)), (1, .int p0), (2, .int p1), (3, .ref (ad 0))] d_Law_way_13 (by decide) rfl ?_
    refine r_iconst X 1 d_Law_way_15 (by decide) ?_
    exact x_iret (r_iret (post := fun r ad' c' => r = (kF_way p0 p1) ∧ ((kF_way p0 p1) = 0 → ∃ f, c' 0 = some (.inl (cy 7, 1, .inr (.inl f))) ∧ f 0 = ((if p0 = p1 then 0 else -1) : Int32).toInt64) ∧ ad' 0 = ad 0 ∧ ∀ n, 128 ≤ n → ad' n = ad n ∧ c' n = c n) X hr hlk d_Law_way_16 (by decide) (by decide) ⟨hk.symm, fun h9 => absurd (hk.symm.trans h9) (by decide), rfl, fun _ _ => ⟨rfl, rfl⟩⟩)
abbrev hh_slipperyIn : List (Nat × Nat × Nat × Nat) := [(0, 10, 13, 13), (0, 10, 17, 15)]
theorem yh_slipperyIn : rYH W0 y_Law_slipperyIn b_Law_slipperyIn 5 (some .int) hh_slipperyIn 4 := ⟨W0_of 814 (by decide +kernel) rfl, W0_of 813 (by decide +kernel) rfl, W0_of 0 (by decide +kernel) rfl, by decide +kernel, by decide +kernel, by decide +kernel⟩
set_option maxRecDepth 100000 in
set_option maxHeartbeats 4000000 in
theorem w_slipperyIn (l : Launch) (hst9 : l.stackTraces = false) (D : va_G) (cy : Nat → ClassId) (t0 : Nat) (ad : Nat → Nat) (c : rC) (hC : shC 64 c = cont cy (shA 64 ad) S00 J00) (f : Nat → Int64) (hO : c 0 = some (.inl (cy 7, 1, .inr (.inl f)))) (p0 p1 : Int32)  : xMh l D cls (TY cy) NW t0 y_Law_slipperyIn (Cond.codeWith y_Law_slipperyIn b_Law_slipperyIn 5 (some .int) hh_slipperyIn :: W0) { frames := 7, cells := 4, slots := 420, locals := 130 } [.ref (ad 64), .int p0, .int p1, .ref (ad 0)] ad c (fun r ad' c' => r = (kF_slipperyIn p0 p1) ∧ ((kF_slipperyIn p0 p1) = 0 → ∃ f, c' 0 = some (.inl (cy 7, 1, .inr (.inl f))) ∧ f 0 = (0 : Int32).toInt64) ∧ ad' 0 = ad 0 ∧ ∀ n, 128 ≤ n → ad' n = ad n ∧ c' n = c n) := by
  intro sz
  refine x_ofh (own := R_Law) rfl (by decide +kernel) (Nat.le_of_ble_eq_true rfl) ?_
  intro p e s m below meth cd hsz X htab hr hlk hN hE
  have h64 := (h64_of hC).trans (ct_lo (by decide))
  refine r_lv [0, 1, 2, 3] [(0, .ref (ad 64)), (1, .int p0), (2, .int p1), (3, .ref (ad 0))] rfl ?_
  have hk : (kF_slipperyIn p0 p1) = 1 := rfl
  refine r_aload_n X 3 d_Law_slipperyIn_0 rfl rfl ?_
  refine r_iconst X 0 d_Law_slipperyIn_1 (by decide) ?_
  refine r_aload_n X 0 d_Law_slipperyIn_2 rfl rfl ?_
  refine r_iload_n X 1 d_Law_slipperyIn_3 rfl rfl ?_
  refine r_iload_n X 2 d_Law_slipperyIn_4 rfl rfl ?_
  refine x_Vt X W0_good hN hE (sub_t 64 (by rw [hC]; exact t_G_slipperyIn_0 l hst9 D cy t0 (shA 64 ad) p0 p1 )) yv_G_slipperyIn m_Law_70 h64 k_G.2.1 rfl rfl rfl ⟨by decide, by decide⟩ (Nat.le_of_ble_eq_true rfl) ⟨by decide, by decide⟩ d_Law_slipperyIn_5 (hh := hh_slipperyIn) htab (name := E_ioo) [] ⟨0, 10, 13, 13⟩ [⟨0, 10, 17, 15⟩] rfl (fun z hz9 => absurd hz9 List.not_mem_nil) rfl (by decide) c_Law_13 (hE.1 _ ca_ioo rfl) (fun q9 => ?_)
  refine r_astore X [(4, .ref q9), (0, .ref (ad 64)), (1, .int p0), (2, .int p1), (3, .ref (ad 0))] d_Law_slipperyIn_13 (by decide) rfl ?_
  refine r_iconst X 1 d_Law_slipperyIn_15 (by decide) ?_
  exact x_iret (r_iret (post := fun r ad' c' => r = (kF_slipperyIn p0 p1) ∧ ((kF_slipperyIn p0 p1) = 0 → ∃ f, c' 0 = some (.inl (cy 7, 1, .inr (.inl f))) ∧ f 0 = (0 : Int32).toInt64) ∧ ad' 0 = ad 0 ∧ ∀ n, 128 ≤ n → ad' n = ad n ∧ c' n = c n) X hr hlk d_Law_slipperyIn_16 (by decide) (by decide) ⟨hk.symm, fun h9 => absurd (hk.symm.trans h9) (by decide), rfl, fun _ _ => ⟨rfl, rfl⟩⟩)
abbrev hh_saltFor : List (Nat × Nat × Nat × Nat) := [(0, 10, 13, 13), (0, 10, 17, 15)]
theorem yh_saltFor : rYH W0 y_Law_saltFor b_Law_saltFor 5 (some .int) hh_saltFor 4 := ⟨W0_of 822 (by decide +kernel) rfl, W0_of 821 (by decide +kernel) rfl, W0_of 0 (by decide +kernel) rfl, by decide +kernel, by decide +kernel, by decide +kernel⟩
set_option maxRecDepth 100000 in
set_option maxHeartbeats 4000000 in
theorem w_saltFor (l : Launch) (hst9 : l.stackTraces = false) (D : va_G) (cy : Nat → ClassId) (t0 : Nat) (ad : Nat → Nat) (c : rC) (hC : shC 64 c = cont cy (shA 64 ad) S00 J00) (f : Nat → Int64) (hO : c 0 = some (.inl (cy 7, 1, .inr (.inl f)))) (p0 p1 : Int32)  : xMh l D cls (TY cy) NW t0 y_Law_saltFor (Cond.codeWith y_Law_saltFor b_Law_saltFor 5 (some .int) hh_saltFor :: W0) { frames := 7, cells := 4, slots := 420, locals := 137 } [.ref (ad 64), .int p0, .int p1, .ref (ad 0)] ad c (fun r ad' c' => r = (kF_saltFor p0 p1) ∧ ((kF_saltFor p0 p1) = 0 → ∃ f, c' 0 = some (.inl (cy 7, 1, .inr (.inl f))) ∧ f 0 = (0 : Int32).toInt64) ∧ ad' 0 = ad 0 ∧ ∀ n, 128 ≤ n → ad' n = ad n ∧ c' n = c n) := by
  intro sz
  refine x_ofh (own := R_Law) rfl (by decide +kernel) (Nat.le_of_ble_eq_true rfl) ?_
  intro p e s m below meth cd hsz X htab hr hlk hN hE
  have h64 := (h64_of hC).trans (ct_lo (by decide))
  refine r_lv [0, 1, 2, 3] [(0, .ref (ad 64)), (1, .int p0), (2, .int p1), (3, .ref (ad 0))] rfl ?_
  have hk : (kF_saltFor p0 p1) = 1 := rfl
  refine r_aload_n X 3 d_Law_saltFor_0 rfl rfl ?_
  refine r_iconst X 0 d_Law_saltFor_1 (by decide) ?_
  refine r_aload_n X 0 d_Law_saltFor_2 rfl rfl ?_
  refine r_iload_n X 1 d_Law_saltFor_3 rfl rfl ?_
  refine r_iload_n X 2 d_Law_saltFor_4 rfl rfl ?_
  refine x_Vt X W0_good hN hE (sub_t 64 (by rw [hC]; exact t_G_saltFor_0 l hst9 D cy t0 (shA 64 ad) p0 p1 )) yv_G_saltFor m_Law_73 h64 k_G.2.1 rfl rfl rfl ⟨by decide, by decide⟩ (Nat.le_of_ble_eq_true rfl) ⟨by decide, by decide⟩ d_Law_saltFor_5 (hh := hh_saltFor) htab (name := E_ioo) [] ⟨0, 10, 13, 13⟩ [⟨0, 10, 17, 15⟩] rfl (fun z hz9 => absurd hz9 List.not_mem_nil) rfl (by decide) c_Law_13 (hE.1 _ ca_ioo rfl) (fun q9 => ?_)
  refine r_astore X [(4, .ref q9), (0, .ref (ad 64)), (1, .int p0), (2, .int p1), (3, .ref (ad 0))] d_Law_saltFor_13 (by decide) rfl ?_
  refine r_iconst X 1 d_Law_saltFor_15 (by decide) ?_
  exact x_iret (r_iret (post := fun r ad' c' => r = (kF_saltFor p0 p1) ∧ ((kF_saltFor p0 p1) = 0 → ∃ f, c' 0 = some (.inl (cy 7, 1, .inr (.inl f))) ∧ f 0 = (0 : Int32).toInt64) ∧ ad' 0 = ad 0 ∧ ∀ n, 128 ≤ n → ad' n = ad n ∧ c' n = c n) X hr hlk d_Law_saltFor_16 (by decide) (by decide) ⟨hk.symm, fun h9 => absurd (hk.symm.trans h9) (by decide), rfl, fun _ _ => ⟨rfl, rfl⟩⟩)
abbrev hh_bestOrders : List (Nat × Nat × Nat × Nat) := [(0, 10, 13, 13)]
theorem yh_bestOrders : rYH W0 y_Law_bestOrders b_Law_bestOrders 5 (some .int) hh_bestOrders 4 := ⟨W0_of 829 (by decide +kernel) rfl, W0_of 828 (by decide +kernel) rfl, W0_of 0 (by decide +kernel) rfl, by decide +kernel, by decide +kernel, by decide +kernel⟩
set_option maxRecDepth 100000 in
set_option maxHeartbeats 4000000 in
theorem w_bestOrders (l : Launch) (hst9 : l.stackTraces = false) (D : va_G) (cy : Nat → ClassId) (t0 : Nat) (ad : Nat → Nat) (c : rC) (hC : shC 64 c = cont cy (shA 64 ad) S00 J00) (f : Nat → Int64) (hO : c 0 = some (.inl (cy 7, 1, .inr (.inl f)))) (p0 p1 : Int32)  : xMh l D cls (TY cy) NW t0 y_Law_bestOrders (Cond.codeWith y_Law_bestOrders b_Law_bestOrders 5 (some .int) hh_bestOrders :: W0) { frames := 7, cells := 4, slots := 420, locals := 130 } [.ref (ad 64), .int p0, .int p1, .ref (ad 0)] ad c (fun r ad' c' => r = (kF_bestOrders p0 p1) ∧ ((kF_bestOrders p0 p1) = 0 → ∃ f, c' 0 = some (.inl (cy 7, 1, .inr (.inl f))) ∧ f 0 = (0 : Int32).toInt64) ∧ ad' 0 = ad 0 ∧ ∀ n, 128 ≤ n → ad' n = ad n ∧ c' n = c n) := by
  intro sz
  refine x_ofh (own := R_Law) rfl (by decide +kernel) (Nat.le_of_ble_eq_true rfl) ?_
  intro p e s m below meth cd hsz X htab hr hlk hN hE
  have h64 := (h64_of hC).trans (ct_lo (by decide))
  refine r_lv [0, 1, 2, 3] [(0, .ref (ad 64)), (1, .int p0), (2, .int p1), (3, .ref (ad 0))] rfl ?_
  have hk : (kF_bestOrders p0 p1) = 1 := rfl
  refine r_aload_n X 3 d_Law_bestOrders_0 rfl rfl ?_
  refine r_iconst X 0 d_Law_bestOrders_1 (by decide) ?_
  refine r_aload_n X 0 d_Law_bestOrders_2 rfl rfl ?_
  refine r_iload_n X 1 d_Law_bestOrders_3 rfl rfl ?_
  refine r_iload_n X 2 d_Law_bestOrders_4 rfl rfl ?_
  refine x_Vt X W0_good hN hE (sub_t 64 (by rw [hC]; exact t_G_bestOrders_0 l hst9 D cy t0 (shA 64 ad) p0 p1 )) yv_G_bestOrders m_Law_76 h64 k_G.2.1 rfl rfl rfl ⟨by decide, by decide⟩ (Nat.le_of_ble_eq_true rfl) ⟨by decide, by decide⟩ d_Law_bestOrders_5 (hh := hh_bestOrders) htab (name := E_ioo) [] ⟨0, 10, 13, 13⟩ [] rfl (fun z hz9 => absurd hz9 List.not_mem_nil) rfl (by decide) c_Law_13 (hE.1 _ ca_ioo rfl) (fun q9 => ?_)
  refine r_astore X [(4, .ref q9), (0, .ref (ad 64)), (1, .int p0), (2, .int p1), (3, .ref (ad 0))] d_Law_bestOrders_13 (by decide) rfl ?_
  refine r_iconst X 1 d_Law_bestOrders_15 (by decide) ?_
  exact x_iret (r_iret (post := fun r ad' c' => r = (kF_bestOrders p0 p1) ∧ ((kF_bestOrders p0 p1) = 0 → ∃ f, c' 0 = some (.inl (cy 7, 1, .inr (.inl f))) ∧ f 0 = (0 : Int32).toInt64) ∧ ad' 0 = ad 0 ∧ ∀ n, 128 ≤ n → ad' n = ad n ∧ c' n = c n) X hr hlk d_Law_bestOrders_16 (by decide) (by decide) ⟨hk.symm, fun h9 => absurd (hk.symm.trans h9) (by decide), rfl, fun _ _ => ⟨rfl, rfl⟩⟩)
