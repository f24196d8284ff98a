/-! a quarter passes -/
def nowS (S : cS) (x : Int32) : cS := setG S (x, sBarn S, sDel S, sRet S, sPlo S)
def rcS (x : rc9) : rc9 := (x.1, x.2.1, x.2.2.1, x.2.2.2.1, x.2.2.2.2.1, x.2.2.2.2.2.1, x.2.2.2.2.2.2.1, x.2.2.2.2.2.2.2.1 + 1, x.2.2.2.2.2.2.2.2)
def qrF (S : cS) (t i : Nat) : cS := if slipF (wqS S i (sSf S i)).2.2.1 (wqS S i (sSf S i)).2.2.2.1 = 0 then setSf S i (wqS S i (sSf S i)) else setRc (setSl (setSf S i (wqS S i (sSf S i))) i (upd (sSl S i) t 1)) i (rcS (sRc S i))
def rqF (S : cS) (t : Nat) : Nat → cS
  | 0 => S
  | i + 1 => if i < sNr (rqF S t i) then qrF (rqF S t i) t i else rqF S t i
def ljF (S : cS) (t : Nat) : Nat → cS
  | 0 => S
  | i + 1 => if i < sNl (ljF S t i) then workF (ljF S t i) i t else ljF S t i
def pqF (S : cS) (t : Nat) : cS := ljF (rqF (nowS S (nI t)) t 8) t 3
def psF (S : cS) (t : Nat) : Nat → cS
  | 0 => S
  | i + 1 => pqF (psF S t i) (t + i + 1)
def spF (S : cS) (t : Nat) : Nat → Int32
  | 0 => 0
  | i + 1 => spF S t i + slipN (psF S t (i + 1)) (sNow (psF S t (i + 1))).toNatClampNeg
theorem rq_y {S : cS} {t i : Nat} (h : i < sNr (rqF S t i)) : qrF (rqF S t i) t i = rqF S t (i + 1) := (if_pos h).symm
theorem rq_n {S : cS} {t i : Nat} (h : ¬ i < sNr (rqF S t i)) : rqF S t i = rqF S t (i + 1) := (if_neg h).symm
theorem lj_y {S : cS} {t i : Nat} (h : i < sNl (ljF S t i)) : workF (ljF S t i) i t = ljF S t (i + 1) := (if_pos h).symm
theorem lj_n {S : cS} {t i : Nat} (h : ¬ i < sNl (ljF S t i)) : ljF S t i = ljF S t (i + 1) := (if_neg h).symm
theorem cu_qr {cy : Nat → ClassId} {ad : Nat → Nat} {S : cS} {J : jS} {t i : Nat} (h8 : sNr S ≤ 8) (hi : i < sNr S) : (if slipF (wqS S i (sSf S i)).2.2.1 (wqS S i (sSf S i)).2.2.2.1 = 0 then cont cy ad (setSf S i (wqS S i (sSf S i))) J else va_up (va_up (cont cy ad (setSf S i (wqS S i (sSf S i))) J) (18 + 4 * i) (some (iE (cy 1) 200 (upd (sSl S i) t 1)))) (16 + 4 * i) (some (roadE ad i (rcS (sRc S i))))) = cont cy ad (qrF S t i) J := by
  unfold qrF
  split
  · rfl
  · rw [cu_sl (S := setSf S i (wqS S i (sSf S i))) h8 hi]
    exact cu_rc (S := setSl (setSf S i (wqS S i (sSf S i))) i (upd (sSl S i) t 1)) h8 hi
theorem wf_now {S : cS} {t : Nat} (hS : wfS S) (ht : t < 200) : wfS (nowS S (nI t)) := ⟨hS.1, hS.2.1, ⟨t, ht, rfl⟩, hS.2.2.2⟩
theorem wf_qr {S : cS} {t i : Nat} (hS : wfS S) : wfS (qrF S t i) := by
  unfold qrF
  split <;> exact hS
theorem now_qr {S : cS} {t i : Nat} : sNow (qrF S t i) = sNow S := by
  unfold qrF
  split <;> rfl
theorem wf_rq {S : cS} {t : Nat} (hS : wfS S) : ∀ i, wfS (rqF S t i)
  | 0 => hS
  | i + 1 => by
    unfold rqF
    split
    · exact wf_qr (wf_rq hS i)
    · exact wf_rq hS i
theorem now_rq {S : cS} {t : Nat} : ∀ i, sNow (rqF S t i) = sNow S
  | 0 => rfl
  | i + 1 => by
    unfold rqF
    split
    · exact now_qr.trans (now_rq i)
    · exact now_rq i
theorem mx_1 : ∀ qc : Nat, qc < 9 → mx 0 (nI qc - 1) = nI (qc - 1) := by decide +kernel
theorem wf_dec {x : Int32} (h : ∃ q : Nat, q ≤ 8 ∧ x = nI q) : ∃ q : Nat, q ≤ 8 ∧ mx 0 (x - 1) = nI q := by
  obtain ⟨q, hq, rfl⟩ := h
  exact ⟨q - 1, by omega, mx_1 q (by omega)⟩
theorem wf_treat {S : cS} {q j t : Nat} (hS : wfS S) (hc : ∃ k : Nat, k ≤ 8 ∧ (sLo S j).2.1 = nI k) : wfS (treatF S q j t) := by
  have h1 : wfS (setLo S j (loT (sLo S j) (amF S q j))) := wf_lo hS hc
  unfold treatF
  split
  · split <;> exact h1
  · exact h1
theorem now_treat {S : cS} {q j t : Nat} : sNow (treatF S q j t) = sNow S := by
  unfold treatF
  split
  · split <;> rfl
  · rfl
theorem wf_fin {S : cS} {j t q : Nat} {nd ah : Int32} (hS : wfS S) (hj : j < sNl S) : wfS (finS S j t q nd ah) := by
  unfold finS
  split
  · exact wf_lo hS (hS.2.2.2 j hj)
  · have h1 : wfS (setLo S j (loA (sLo S j) ah)) := wf_lo hS (wf_dec (hS.2.2.2 j hj))
    exact wf_treat (S := setOd (setLo S j (loA (sLo S j) ah)) j (shF (sOd S j) 8)) h1 (h1.2.2.2 j hj)
theorem now_fin {S : cS} {j t q : Nat} {nd ah : Int32} : sNow (finS S j t q nd ah) = sNow S := by
  unfold finS
  split
  · rfl
  · exact now_treat
theorem wf_drop {S : cS} {j : Nat} (hS : wfS S) (hj : j < sNl S) : wfS (dropS S j) := wf_lo (x := loD (sLo S j)) hS (wf_dec (hS.2.2.2 j hj))
theorem wf_work {S : cS} {j t : Nat} (hS : wfS S) (hj : j < sNl S) : wfS (workF S j t) := by
  unfold workF
  split
  · exact hS
  · split
    · unfold workQ
      split
      · split
        · exact wf_fin hS hj
        · split
          · exact wf_drop hS hj
          · exact wf_fin hS hj
      · exact wf_drop hS hj
    · exact hS
theorem now_work {S : cS} {j t : Nat} : sNow (workF S j t) = sNow S := by
  unfold workF
  split
  · rfl
  · split
    · unfold workQ
      split
      · split
        · exact now_fin
        · split
          · rfl
          · exact now_fin
      · rfl
    · rfl
theorem wf_lj {S : cS} {t : Nat} (hS : wfS S) : ∀ i, wfS (ljF S t i)
  | 0 => hS
  | i + 1 => by
    unfold ljF
    split
    · rename_i h
      exact wf_work (wf_lj hS i) h
    · exact wf_lj hS i
theorem now_lj {S : cS} {t : Nat} : ∀ i, sNow (ljF S t i) = sNow S
  | 0 => rfl
  | i + 1 => by
    unfold ljF
    split
    · exact now_work.trans (now_lj i)
    · exact now_lj i
theorem wf_pq {S : cS} {t : Nat} (hS : wfS S) (ht : t < 200) : wfS (pqF S t) := wf_lj (wf_rq (wf_now hS ht) 8) 3
theorem now_pq {S : cS} {t : Nat} : sNow (pqF S t) = nI t := by
  unfold pqF
  rw [now_lj, now_rq]
  rfl
theorem wf_ps {S : cS} {t k : Nat} (hS : wfS S) (hk : t + k < 200) : ∀ i, i ≤ k → wfS (psF S t i)
  | 0, _ => hS
  | i + 1, h => wf_pq (wf_ps hS hk i (by omega)) (by omega)
theorem now_ps {S : cS} {t : Nat} (hn : sNow S = nI t) : ∀ i, sNow (psF S t i) = nI (t + i)
  | 0 => hn
  | i + 1 => by
    unfold psF
    exact now_pq.trans (congrArg nI (Nat.add_assoc t i 1))
theorem in_20 : ∀ k : Nat, k < 21 → 1 ≤ k → inF (nI k) 1 20 = 1 := by decide +kernel
set_option maxRecDepth 100000 in
set_option maxHeartbeats 4000000 in
/-- G_passQuarter -/
theorem c_G_passQuarter (l : Launch) (D : va_G) (cy : Nat → ClassId) (ad : Nat → Nat)  (S : cS) (J : jS) (hS : wfS S) (t : Nat) (ht : t + 1 < 200) (hnow : sNow S = nI t) : rMv l D cls (TY cy) NW y_G_passQuarter (Cond.code y_G_passQuarter b_G_passQuarter 5 rt_G_passQuarter :: W0) { frames := 4, cells := 0, slots := 0, locals := 84 } [.ref (ad 0)] ad (cont cy ad S J) (fun ad' c' => ad = ad' ∧ cont cy ad (pqF S (t + 1)) J = c') := by
  intro sz
  refine r_of (own := R_G) rfl (by decide +kernel) (Nat.le_of_ble_eq_true rfl) ?_
  intro p e s m below meth cd hsz X hr hlk hN hin
  refine r_lv [0] [(0, .ref (ad 0))] rfl ?_
  refine r_aload_n X 0 d_G_passQuarter_0 rfl rfl ?_
  refine r_dup X d_G_passQuarter_1 rfl ?_
  refine r_get X k_G 11 (by decide) f_G_127 rfl (ct_lo (by decide)) rfl d_G_passQuarter_2 ?_
  refine r_iconst X 1 d_G_passQuarter_5 (by decide) ?_
  refine r_iadd X d_G_passQuarter_6 ?_
  refine r_top (y := nI (t + 1)) ((congrArg (fun x9 : Int32 => x9 + 1) (show (sG S).1 = nI t from hnow)).trans (nI_1 t)) ?_
  refine r_put X k_G 11 (by decide) f_G_127 rfl (ct_lo (by decide)) rfl rfl rfl (Nat.le_of_ble_eq_true rfl) [.ref (ad 1), .ref (ad 2), .ref (ad 3), .ref (ad 4), .ref (ad 5), .ref (ad 6), .ref (ad 7), .ref (ad 8), .int (nI (sNr S)), .int (nI (sNl S)), .int 0, .int (nI (t + 1)), .int ((sG S).2.1), .int ((sG S).2.2.1), .int ((sG S).2.2.2.1), .int ((sG S).2.2.2.2)] rfl (va_up (cont cy ad S J) 0 (some (.inr (5, [.ref (ad 1), .ref (ad 2), .ref (ad 3), .ref (ad 4), .ref (ad 5), .ref (ad 6), .ref (ad 7), .ref (ad 8), .int (nI (sNr S)), .int (nI (sNl S)), .int 0, .int (nI (t + 1)), .int ((sG S).2.1), .int ((sG S).2.2.1), .int ((sG S).2.2.2.1), .int ((sG S).2.2.2.2)])))) rfl d_G_passQuarter_7 ?_
  refine r_c (cont cy ad (nowS S (nI (t + 1))) J) (cu_g (g := (nI (t + 1), sBarn S, sDel S, sRet S, sPlo S))) ?_
  have hW1 : wfS (nowS S (nI (t + 1))) := wf_now hS ht
  have hWq : wfS (rqF (nowS S (nI (t + 1))) (t + 1) 8) := wf_rq hW1 8
  have hNq : sNow (rqF (nowS S (nI (t + 1))) (t + 1) 8) = nI (t + 1) := now_rq 8
  refine r_aload_n X 0 d_G_passQuarter_10 rfl rfl ?_
  refine r_get X k_G 0 (by decide) f_G_11 rfl (ct_lo (by decide)) rfl d_G_passQuarter_11 ?_
  refine r_astore_n X [(1, .ref (ad 1)), (0, .ref (ad 0))] d_G_passQuarter_14 rfl (by decide) rfl ?_
  refine r_aload_n X 0 d_G_passQuarter_15 rfl rfl ?_
  refine r_alen (v := nI 8) X 2 (ct_lo (by decide)) rfl rfl d_G_passQuarter_16 ?_
  refine r_istore_n X [(2, .int (nI 8)), (1, .ref (ad 1)), (0, .ref (ad 0))] d_G_passQuarter_17 rfl (by decide) rfl ?_
  refine r_iconst X 0 d_G_passQuarter_18 (by decide) ?_
  refine r_istore_n X [(3, .int 0), (2, .int (nI 8)), (1, .ref (ad 1)), (0, .ref (ad 0))] d_G_passQuarter_19 rfl (by decide) rfl ?_
  refine r_lv [3, 2, 1, 0] [(0, .ref (ad 0)), (1, .ref (ad 1)), (2, .int (nI 8)), (3, .int (nI 0))] rfl ?_
  refine r_at (r_loop (σ := Nat) (fun f9 i => i ≤ 8 ∧ i + f9 = 8 + 1) (fun i => cont cy ad (rqF (nowS S (nI (t + 1))) (t + 1) i) J) 20 (fun i => [(0, .ref (ad 0)), (1, .ref (ad 1)), (2, .int (nI 8)), (3, .int (nI i))]) (fun _ => []) (fun i h => by have h1 := h.1; have h2 := h.2; omega) (fun f9 i ih_i hI => ?_) (8 + 1 - 0) 0 ⟨by omega, by omega⟩) rfl rfl rfl rfl
  obtain ⟨hi8, hi9⟩ := hI
  refine r_iload_n X 3 d_G_passQuarter_20 rfl rfl ?_
  refine r_iload_n X 2 d_G_passQuarter_21 rfl rfl ?_
  refine r_icmp_ge X 64 d_G_passQuarter_22 (by decide) (fun h_22 => ?_) (fun h_22 => ?_)
  · have hi : 8 = i := by
      rcases Nat.lt_or_ge i 8 with h | h
      · exact absurd h_22 (nI_ge (by omega) (by omega))
      · omega
    subst hi
    refine r_aload_n X 0 d_G_passQuarter_64 rfl rfl ?_
    refine r_get X k_G 1 (by decide) f_G_17 rfl (ct_lo (by decide)) rfl d_G_passQuarter_65 ?_
    refine r_astore_n X [(1, .ref (ad 2)), (0, .ref (ad 0)), (2, .int (nI 8)), (3, .int (nI 8))] d_G_passQuarter_68 rfl (by decide) rfl ?_
    refine r_aload_n X 0 d_G_passQuarter_69 rfl rfl ?_
    refine r_alen (v := nI 3) X 3 (ct_lo (by decide)) rfl rfl d_G_passQuarter_70 ?_
    refine r_istore_n X [(2, .int (nI 3)), (1, .ref (ad 2)), (0, .ref (ad 0)), (3, .int (nI 8))] d_G_passQuarter_71 rfl (by decide) rfl ?_
    refine r_iconst X 0 d_G_passQuarter_72 (by decide) ?_
    refine r_istore_n X [(3, .int 0), (2, .int (nI 3)), (1, .ref (ad 2)), (0, .ref (ad 0))] d_G_passQuarter_73 rfl (by decide) rfl ?_
    refine r_lv [3, 2, 1, 0] [(0, .ref (ad 0)), (1, .ref (ad 2)), (2, .int (nI 3)), (3, .int (nI 0))] rfl ?_
    refine r_at (r_loop (σ := Nat) (fun f9 i => i ≤ 3 ∧ i + f9 = 3 + 1) (fun i => cont cy ad (ljF (rqF (nowS S (nI (t + 1))) (t + 1) 8) (t + 1) i) J) 74 (fun i => [(0, .ref (ad 0)), (1, .ref (ad 2)), (2, .int (nI 3)), (3, .int (nI i))]) (fun _ => []) (fun i h => by have h1 := h.1; have h2 := h.2; omega) (fun f9 i ih_i hI => ?_) (3 + 1 - 0) 0 ⟨by omega, by omega⟩) rfl rfl rfl rfl
    obtain ⟨hi8, hi9⟩ := hI
    refine r_iload_n X 3 d_G_passQuarter_74 rfl rfl ?_
    refine r_iload_n X 2 d_G_passQuarter_75 rfl rfl ?_
    refine r_icmp_ge X 101 d_G_passQuarter_76 (by decide) (fun h_76 => ?_) (fun h_76 => ?_)
    · have hi : 3 = i := by
        rcases Nat.lt_or_ge i 3 with h | h
        · exact absurd h_76 (nI_ge (by omega) (by omega))
        · omega
      subst hi
      refine r_aload_n X 0 d_G_passQuarter_101 rfl rfl ?_
      refine r_Vv X W0_good hN (c_G_takeDeliveries l D cy ad (ljF (rqF (nowS S (nI (t + 1))) (t + 1) 8) (t + 1) 3) J (wf_lj hWq 3)) yv_G_takeDeliveries m_G_290 (ct_lo (by decide)) k_G.2.1 rfl rfl rfl ⟨by decide, by decide⟩ (Nat.le_of_ble_eq_true rfl) ⟨by decide, by decide⟩ d_G_passQuarter_102 (fun ad9 c9 hp9 => ?_)
      obtain ⟨rfl, rfl⟩ := hp9
      exact r_vret (post := fun ad' c' => ad = ad' ∧ cont cy ad (pqF S (t + 1)) J = c') X hr hlk d_G_passQuarter_105 (by decide) (by decide) ⟨rfl, rfl⟩
    · have hi : i < 3 := by
        rcases Nat.lt_or_ge i 3 with h | h
        · exact h
        · exact absurd (nI_le (by omega) (by omega)) h_76
      refine r_aload_n X 1 d_G_passQuarter_79 rfl rfl ?_
      refine r_iload_n X 3 d_G_passQuarter_80 rfl rfl ?_
      have hw3 := (wf_lj (t := t + 1) hWq i).2.1
      by_cases hr9 : i < sNl (ljF (rqF (nowS S (nI (t + 1))) (t + 1) 8) (t + 1) i)
      · refine r_aald (v := .ref (ad (48 + 2 * i))) X 3 (ct_lo (by decide)) rfl (vp_in_nI hi (by decide)) (lRf_y (by omega) hr9) d_G_passQuarter_81 ?_
        refine r_astore X [(4, .ref (ad (48 + 2 * i))), (0, .ref (ad 0)), (1, .ref (ad 2)), (2, .int (nI 3)), (3, .int (nI i))] d_G_passQuarter_82 (by decide) rfl ?_
        refine r_aload X 0 d_G_passQuarter_84 rfl ?_
        refine r_ifnull X d_G_passQuarter_86 ?_
        refine r_aload_n X 1 d_G_passQuarter_89 rfl rfl ?_
        refine r_aload X 0 d_G_passQuarter_90 rfl ?_
        refine r_Vv X W0_good hN (c_G_work l D cy ad (ljF (rqF (nowS S (nI (t + 1))) (t + 1) 8) (t + 1) i) J (wf_lj hWq i) i (t + 1) hr9 ht ((now_lj i).trans hNq)) yv_G_work m_G_286 (ct_lo (by decide)) k_G.2.1 rfl rfl rfl ⟨by decide, by decide⟩ (Nat.le_of_ble_eq_true rfl) ⟨by decide, by decide⟩ d_G_passQuarter_92 (fun ad9 c9 hp9 => ?_)
        obtain ⟨rfl, rfl⟩ := hp9
        refine r_c (cont cy ad (ljF (rqF (nowS S (nI (t + 1))) (t + 1) 8) (t + 1) (i + 1)) J) (congrArg (fun T9 => cont cy ad T9 J) (lj_y hr9)) ?_
        refine r_iinc X 4 [(3, .int (nI (i + 1))), (4, .ref (ad (48 + 2 * i))), (0, .ref (ad 0)), (1, .ref (ad 2)), (2, .int (nI 3))] d_G_passQuarter_95 rfl (nI_1 i) (by decide) rfl ?_
        refine r_goto X 74 d_G_passQuarter_98 (by decide) ?_
        refine r_lv [2, 3, 4, 0] [(0, .ref (ad 0)), (1, .ref (ad 2)), (2, .int (nI 3)), (3, .int (nI (i + 1)))] rfl ?_
        exact ih_i (i + 1) ⟨by omega, by omega⟩
      · refine r_aald (v := .null) X 3 (ct_lo (by decide)) rfl (vp_in_nI hi (by decide)) (lRf_n (by omega) hr9) d_G_passQuarter_81 ?_
        refine r_astoreN X [(4, .null), (0, .ref (ad 0)), (1, .ref (ad 2)), (2, .int (nI 3)), (3, .int (nI i))] d_G_passQuarter_82 (by decide) rfl ?_
        refine r_aloadN X 0 d_G_passQuarter_84 rfl ?_
        refine r_ifnullN X 95 d_G_passQuarter_86 (by decide) ?_
        refine r_c (cont cy ad (ljF (rqF (nowS S (nI (t + 1))) (t + 1) 8) (t + 1) (i + 1)) J) (congrArg (fun T9 => cont cy ad T9 J) (lj_n hr9)) ?_
        refine r_iinc X 4 [(3, .int (nI (i + 1))), (4, .null), (0, .ref (ad 0)), (1, .ref (ad 2)), (2, .int (nI 3))] d_G_passQuarter_95 rfl (nI_1 i) (by decide) rfl ?_
        refine r_goto X 74 d_G_passQuarter_98 (by decide) ?_
        refine r_lv [2, 3, 4, 0] [(0, .ref (ad 0)), (1, .ref (ad 2)), (2, .int (nI 3)), (3, .int (nI (i + 1)))] rfl ?_
        exact ih_i (i + 1) ⟨by omega, by omega⟩
  · have hi : i < 8 := by
      rcases Nat.lt_or_ge i 8 with h | h
      · exact h
      · exact absurd (nI_le (by omega) (by omega)) h_22
    refine r_aload_n X 1 d_G_passQuarter_25 rfl rfl ?_
    refine r_iload_n X 3 d_G_passQuarter_26 rfl rfl ?_
    have hw8 := (wf_rq (t := t + 1) hW1 i).1
    by_cases hr9 : i < sNr (rqF (nowS S (nI (t + 1))) (t + 1) i)
    · refine r_aald (v := .ref (ad (16 + 4 * i))) X 2 (ct_lo (by decide)) rfl (vp_in_nI hi (by decide)) (rRf_y (by omega) hr9) d_G_passQuarter_27 ?_
      refine r_astore X [(4, .ref (ad (16 + 4 * i))), (0, .ref (ad 0)), (1, .ref (ad 1)), (2, .int (nI 8)), (3, .int (nI i))] d_G_passQuarter_28 (by decide) rfl ?_
      refine r_aload X 0 d_G_passQuarter_30 rfl ?_
      refine r_ifnull X d_G_passQuarter_32 ?_
      refine r_aload X 0 d_G_passQuarter_35 rfl ?_
      refine r_aload X 0 d_G_passQuarter_37 rfl ?_
      refine r_get X k_Road 7 (by decide) f_G_245 rfl (ct_road hw8 hr9) rfl d_G_passQuarter_39 ?_
      refine r_aload_n X 1 d_G_passQuarter_42 rfl rfl ?_
      refine r_get X k_G 4 (by decide) f_G_36 rfl (ct_lo (by decide)) rfl d_G_passQuarter_43 ?_
      refine r_Vv X W0_good hN (c_Road_weatherQuarter l D cy ad (cont cy ad (rqF (nowS S (nI (t + 1))) (t + 1) i) J) (16 + 4 * i) (17 + 4 * i) (18 + 4 * i) (19 + 4 * i) ((sRc (rqF (nowS S (nI (t + 1))) (t + 1) i) i).1) ((sRc (rqF (nowS S (nI (t + 1))) (t + 1) i) i).2.1) ((sRc (rqF (nowS S (nI (t + 1))) (t + 1) i) i).2.2.1) ((sRc (rqF (nowS S (nI (t + 1))) (t + 1) i) i).2.2.2.1) ((sRc (rqF (nowS S (nI (t + 1))) (t + 1) i) i).2.2.2.2.1) ((sRc (rqF (nowS S (nI (t + 1))) (t + 1) i) i).2.2.2.2.2.1) ((sRc (rqF (nowS S (nI (t + 1))) (t + 1) i) i).2.2.2.2.2.2.1) ((sRc (rqF (nowS S (nI (t + 1))) (t + 1) i) i).2.2.2.2.2.2.2.1) ((sRc (rqF (nowS S (nI (t + 1))) (t + 1) i) i).2.2.2.2.2.2.2.2) (ct_road hw8 hr9) (17 + 4 * i) 5 (by omega) (by omega) (by omega) ((sSf (rqF (nowS S (nI (t + 1))) (t + 1) i) i).1) ((sSf (rqF (nowS S (nI (t + 1))) (t + 1) i) i).2.1) ((sSf (rqF (nowS S (nI (t + 1))) (t + 1) i) i).2.2.1) ((sSf (rqF (nowS S (nI (t + 1))) (t + 1) i) i).2.2.2.1) ((sSf (rqF (nowS S (nI (t + 1))) (t + 1) i) i).2.2.2.2.1) ((sSf (rqF (nowS S (nI (t + 1))) (t + 1) i) i).2.2.2.2.2.1) ((sSf (rqF (nowS S (nI (t + 1))) (t + 1) i) i).2.2.2.2.2.2.1) ((sSf (rqF (nowS S (nI (t + 1))) (t + 1) i) i).2.2.2.2.2.2.2) ((sWe (rqF (nowS S (nI (t + 1))) (t + 1) i)).1) ((sWe (rqF (nowS S (nI (t + 1))) (t + 1) i)).2.1) ((sWe (rqF (nowS S (nI (t + 1))) (t + 1) i)).2.2.1) ((sWe (rqF (nowS S (nI (t + 1))) (t + 1) i)).2.2.2.1) ((sWe (rqF (nowS S (nI (t + 1))) (t + 1) i)).2.2.2.2) (ct_surf hw8 hr9) (ct_lo (by decide))) yv_Road_weatherQuarter m_G_279 (ct_road hw8 hr9) k_Road.2.1 rfl rfl rfl ⟨by decide, by decide⟩ (Nat.le_of_ble_eq_true rfl) ⟨by decide, by decide⟩ d_G_passQuarter_46 (fun ad9 c9 hp9 => ?_)
      obtain ⟨rfl, rfl⟩ := hp9
      refine r_c (cont cy ad (setSf (rqF (nowS S (nI (t + 1))) (t + 1) i) i (wqS (rqF (nowS S (nI (t + 1))) (t + 1) i) i (sSf (rqF (nowS S (nI (t + 1))) (t + 1) i) i))) J) (cu_sf (S := (rqF (nowS S (nI (t + 1))) (t + 1) i)) (x := (wqS (rqF (nowS S (nI (t + 1))) (t + 1) i) i (sSf (rqF (nowS S (nI (t + 1))) (t + 1) i) i))) hw8 hr9) ?_
      refine r_aload X 0 d_G_passQuarter_49 rfl ?_
      refine r_aload_n X 1 d_G_passQuarter_51 rfl rfl ?_
      refine r_get X k_G 11 (by decide) f_G_127 rfl (ct_lo (by decide)) rfl d_G_passQuarter_52 ?_
      refine r_top (y := nI (t + 1)) (now_rq (S := (nowS S (nI (t + 1)))) (t := t + 1) i) ?_
      refine r_Vv X W0_good hN (c_Road_noteSlippery l D cy ad (cont cy ad (setSf (rqF (nowS S (nI (t + 1))) (t + 1) i) i (wqS (rqF (nowS S (nI (t + 1))) (t + 1) i) i (sSf (rqF (nowS S (nI (t + 1))) (t + 1) i) i))) J) (16 + 4 * i) (17 + 4 * i) (18 + 4 * i) (19 + 4 * i) ((sRc (rqF (nowS S (nI (t + 1))) (t + 1) i) i).1) ((sRc (rqF (nowS S (nI (t + 1))) (t + 1) i) i).2.1) ((sRc (rqF (nowS S (nI (t + 1))) (t + 1) i) i).2.2.1) ((sRc (rqF (nowS S (nI (t + 1))) (t + 1) i) i).2.2.2.1) ((sRc (rqF (nowS S (nI (t + 1))) (t + 1) i) i).2.2.2.2.1) ((sRc (rqF (nowS S (nI (t + 1))) (t + 1) i) i).2.2.2.2.2.1) ((sRc (rqF (nowS S (nI (t + 1))) (t + 1) i) i).2.2.2.2.2.2.1) ((sRc (rqF (nowS S (nI (t + 1))) (t + 1) i) i).2.2.2.2.2.2.2.1) ((sRc (rqF (nowS S (nI (t + 1))) (t + 1) i) i).2.2.2.2.2.2.2.2) (ct_road (S := (setSf (rqF (nowS S (nI (t + 1))) (t + 1) i) i (wqS (rqF (nowS S (nI (t + 1))) (t + 1) i) i (sSf (rqF (nowS S (nI (t + 1))) (t + 1) i) i)))) hw8 hr9) (sSl (rqF (nowS S (nI (t + 1))) (t + 1) i) i) (ct_sl (S := (setSf (rqF (nowS S (nI (t + 1))) (t + 1) i) i (wqS (rqF (nowS S (nI (t + 1))) (t + 1) i) i (sSf (rqF (nowS S (nI (t + 1))) (t + 1) i) i)))) hw8 hr9) (t + 1) ht (by omega) (by omega) (by omega) ((wqS (rqF (nowS S (nI (t + 1))) (t + 1) i) i (sSf (rqF (nowS S (nI (t + 1))) (t + 1) i) i)).1) ((wqS (rqF (nowS S (nI (t + 1))) (t + 1) i) i (sSf (rqF (nowS S (nI (t + 1))) (t + 1) i) i)).2.1) ((wqS (rqF (nowS S (nI (t + 1))) (t + 1) i) i (sSf (rqF (nowS S (nI (t + 1))) (t + 1) i) i)).2.2.1) ((wqS (rqF (nowS S (nI (t + 1))) (t + 1) i) i (sSf (rqF (nowS S (nI (t + 1))) (t + 1) i) i)).2.2.2.1) ((wqS (rqF (nowS S (nI (t + 1))) (t + 1) i) i (sSf (rqF (nowS S (nI (t + 1))) (t + 1) i) i)).2.2.2.2.1) ((wqS (rqF (nowS S (nI (t + 1))) (t + 1) i) i (sSf (rqF (nowS S (nI (t + 1))) (t + 1) i) i)).2.2.2.2.2.1) ((wqS (rqF (nowS S (nI (t + 1))) (t + 1) i) i (sSf (rqF (nowS S (nI (t + 1))) (t + 1) i) i)).2.2.2.2.2.2.1) ((wqS (rqF (nowS S (nI (t + 1))) (t + 1) i) i (sSf (rqF (nowS S (nI (t + 1))) (t + 1) i) i)).2.2.2.2.2.2.2) ((ct_surf (S := (setSf (rqF (nowS S (nI (t + 1))) (t + 1) i) i (wqS (rqF (nowS S (nI (t + 1))) (t + 1) i) i (sSf (rqF (nowS S (nI (t + 1))) (t + 1) i) i)))) hw8 hr9).trans (congrArg (fun q9 => some (surfE q9)) (va_up_self (sSf (rqF (nowS S (nI (t + 1))) (t + 1) i)) i (wqS (rqF (nowS S (nI (t + 1))) (t + 1) i) i (sSf (rqF (nowS S (nI (t + 1))) (t + 1) i) i)))))) yv_Road_noteSlippery m_G_283 (ct_road (S := (setSf (rqF (nowS S (nI (t + 1))) (t + 1) i) i (wqS (rqF (nowS S (nI (t + 1))) (t + 1) i) i (sSf (rqF (nowS S (nI (t + 1))) (t + 1) i) i)))) hw8 hr9) k_Road.2.1 rfl rfl rfl ⟨by decide, by decide⟩ (Nat.le_of_ble_eq_true rfl) ⟨by decide, by decide⟩ d_G_passQuarter_55 (fun ad9 c9 hp9 => ?_)
      obtain ⟨rfl, rfl⟩ := hp9
      refine r_c (cont cy ad (qrF (rqF (nowS S (nI (t + 1))) (t + 1) i) (t + 1) i) J) (cu_qr (S := (rqF (nowS S (nI (t + 1))) (t + 1) i)) (t := t + 1) hw8 hr9) ?_
      refine r_c (cont cy ad (rqF (nowS S (nI (t + 1))) (t + 1) (i + 1)) J) (congrArg (fun T9 => cont cy ad T9 J) (rq_y hr9)) ?_
      refine r_iinc X 4 [(3, .int (nI (i + 1))), (4, .ref (ad (16 + 4 * i))), (0, .ref (ad 0)), (1, .ref (ad 1)), (2, .int (nI 8))] d_G_passQuarter_58 rfl (nI_1 i) (by decide) rfl ?_
      refine r_goto X 20 d_G_passQuarter_61 (by decide) ?_
      refine r_lv [2, 3, 4, 0] [(0, .ref (ad 0)), (1, .ref (ad 1)), (2, .int (nI 8)), (3, .int (nI (i + 1)))] rfl ?_
      exact ih_i (i + 1) ⟨by omega, by omega⟩
    · refine r_aald (v := .null) X 2 (ct_lo (by decide)) rfl (vp_in_nI hi (by decide)) (rRf_n (by omega) hr9) d_G_passQuarter_27 ?_
      refine r_astoreN X [(4, .null), (0, .ref (ad 0)), (1, .ref (ad 1)), (2, .int (nI 8)), (3, .int (nI i))] d_G_passQuarter_28 (by decide) rfl ?_
      refine r_aloadN X 0 d_G_passQuarter_30 rfl ?_
      refine r_ifnullN X 58 d_G_passQuarter_32 (by decide) ?_
      refine r_c (cont cy ad (rqF (nowS S (nI (t + 1))) (t + 1) (i + 1)) J) (congrArg (fun T9 => cont cy ad T9 J) (rq_n hr9)) ?_
      refine r_iinc X 4 [(3, .int (nI (i + 1))), (4, .null), (0, .ref (ad 0)), (1, .ref (ad 1)), (2, .int (nI 8))] d_G_passQuarter_58 rfl (nI_1 i) (by decide) rfl ?_
      refine r_goto X 20 d_G_passQuarter_61 (by decide) ?_
      refine r_lv [2, 3, 4, 0] [(0, .ref (ad 0)), (1, .ref (ad 1)), (2, .int (nI 8)), (3, .int (nI (i + 1)))] rfl ?_
      exact ih_i (i + 1) ⟨by omega, by omega⟩
set_option maxRecDepth 100000 in
set_option maxHeartbeats 4000000 in
/-- G_pass -/
theorem c_G_pass (l : Launch) (D : va_G) (cy : Nat → ClassId) (ad : Nat → Nat)  (S : cS) (J : jS) (hS : wfS S) (t k : Nat) (hk1 : 1 ≤ k) (hk20 : k ≤ 20) (hk : t + k < 200) (hnow : sNow S = nI t) : rMi l D cls (TY cy) NW y_G_pass (Cond.code y_G_pass b_G_pass 4 rt_G_pass :: W0) { frames := 6, cells := 0, slots := 0, locals := 108 } [.ref (ad 0), .int (nI k)] ad (cont cy ad S J) (fun r ad' c' => spF S t k = r ∧ ad = ad' ∧ cont cy ad (psF S t k) J = c') := by
  intro sz
  refine r_of (own := R_G) rfl (by decide +kernel) (Nat.le_of_ble_eq_true rfl) ?_
  intro p e s m below meth cd hsz X hr hlk hN hin
  refine r_lv [0, 1] [(0, .ref (ad 0)), (1, .int (nI k))] rfl ?_
  refine r_iload_n X 1 d_G_pass_0 rfl rfl ?_
  refine r_iconst X 1 d_G_pass_1 (by decide) ?_
  refine r_bipush X 20 d_G_pass_2 (by decide) ?_
  refine r_Si X W0_good hN (c_G_isWithin l D cy ad (cont cy ad S J) (nI k) 1 20) ys_G_isWithin m_G_78 rfl rfl ⟨by decide, by decide⟩ (Nat.le_of_ble_eq_true rfl) ⟨by decide, by decide⟩ d_G_pass_4 (fun r9 ad9 c9 hp9 => ?_)
  obtain ⟨rfl, rfl, rfl⟩ := hp9
  refine r_top (y := 1) (in_20 k (by omega) hk1) ?_
  refine r_if_ne X 20 d_G_pass_7 (by decide) (fun _ => ?_) (fun h9 => absurd h9 (by decide))
  refine r_aload_n X 0 d_G_pass_20 rfl rfl ?_
  refine r_get X k_G 11 (by decide) f_G_127 rfl (ct_lo (by decide)) rfl d_G_pass_21 ?_
  refine r_iload_n X 1 d_G_pass_24 rfl rfl ?_
  refine r_iadd X d_G_pass_25 ?_
  refine r_top (y := nI (t + k)) ((congrArg (fun x9 : Int32 => x9 + nI k) (show (sG S).1 = nI t from hnow)).trans (nI_add t k)) ?_
  refine r_sipush X 199 d_G_pass_26 (by decide) ?_
  refine r_top (y := nI 199) (by decide) ?_
  refine r_icmp_le X 42 d_G_pass_29 (by decide) (fun _ => ?_) (fun h9 => absurd (nI_le (by omega) (by decide)) h9)
  refine r_iconst X 0 d_G_pass_42 (by decide) ?_
  refine r_istore_n X [(2, .int 0), (0, .ref (ad 0)), (1, .int (nI k))] d_G_pass_43 rfl (by decide) rfl ?_
  refine r_iconst X 0 d_G_pass_44 (by decide) ?_
  refine r_istore_n X [(3, .int 0), (2, .int 0), (0, .ref (ad 0)), (1, .int (nI k))] d_G_pass_45 rfl (by decide) rfl ?_
  refine r_lv [2, 3, 1, 0] [(0, .ref (ad 0)), (1, .int (nI k)), (2, .int (spF S t 0)), (3, .int (nI 0))] rfl ?_
  refine r_at (r_loop (σ := Nat) (fun f9 i => i ≤ k ∧ i + f9 = k + 1) (fun i => cont cy ad (psF S t i) J) 46 (fun i => [(0, .ref (ad 0)), (1, .int (nI k)), (2, .int (spF S t i)), (3, .int (nI i))]) (fun _ => []) (fun i h => by have h1 := h.1; have h2 := h.2; omega) (fun f9 i ih_i hI => ?_) (k + 1 - 0) 0 ⟨by omega, by omega⟩) rfl rfl rfl rfl
  obtain ⟨hi8, hi9⟩ := hI
  refine r_iload_n X 3 d_G_pass_46 rfl rfl ?_
  refine r_iload_n X 1 d_G_pass_47 rfl rfl ?_
  refine r_icmp_ge X 68 d_G_pass_48 (by decide) (fun h_48 => ?_) (fun h_48 => ?_)
  · have hi : k = i := by
      rcases Nat.lt_or_ge i k with h | h
      · exact absurd h_48 (nI_ge (by omega) (by omega))
      · omega
    subst hi
    refine r_iload_n X 2 d_G_pass_68 rfl rfl ?_
    exact r_iret (post := fun r ad' c' => spF S t k = r ∧ ad = ad' ∧ cont cy ad (psF S t k) J = c') X hr hlk d_G_pass_69 (by decide) (by decide) ⟨rfl, rfl, rfl⟩
  · have hi : i < k := by
      rcases Nat.lt_or_ge i k with h | h
      · exact h
      · exact absurd (nI_le (by omega) (by omega)) h_48
    refine r_aload_n X 0 d_G_pass_51 rfl rfl ?_
    refine r_Vv X W0_good hN (c_G_passQuarter l D cy ad (psF S t i) J (wf_ps hS hk i (by omega)) (t + i) (by omega) (now_ps hnow i)) yv_G_passQuarter m_G_149 (ct_lo (by decide)) k_G.2.1 rfl rfl rfl ⟨by decide, by decide⟩ (Nat.le_of_ble_eq_true rfl) ⟨by decide, by decide⟩ d_G_pass_52 (fun ad9 c9 hp9 => ?_)
    obtain ⟨rfl, rfl⟩ := hp9
    refine r_c (cont cy ad (psF S t (i + 1)) J) rfl ?_
    refine r_iload_n X 2 d_G_pass_55 rfl rfl ?_
    refine r_aload_n X 0 d_G_pass_56 rfl rfl ?_
    refine r_Vi X W0_good hN (c_G_slipperyNow l D cy ad (psF S t (i + 1)) J (wf_ps hS hk (i + 1) (by omega))) yv_G_slipperyNow m_G_152 (ct_lo (by decide)) k_G.2.1 rfl rfl rfl ⟨by decide, by decide⟩ (Nat.le_of_ble_eq_true rfl) ⟨by decide, by decide⟩ d_G_pass_57 (fun r9 ad9 c9 hp9 => ?_)
    obtain ⟨rfl, rfl, rfl⟩ := hp9
    refine r_iadd X d_G_pass_60 ?_
    refine r_top (y := spF S t (i + 1)) rfl ?_
    refine r_istore_n X [(2, .int (spF S t (i + 1))), (0, .ref (ad 0)), (1, .int (nI k)), (3, .int (nI i))] d_G_pass_61 rfl (by decide) rfl ?_
    refine r_iinc X 3 [(3, .int (nI (i + 1))), (2, .int (spF S t (i + 1))), (0, .ref (ad 0)), (1, .int (nI k))] d_G_pass_62 rfl (nI_1 i) (by decide) rfl ?_
    refine r_goto X 46 d_G_pass_65 (by decide) ?_
    refine r_lv [2, 3, 1, 0] [(0, .ref (ad 0)), (1, .int (nI k)), (2, .int (spF S t (i + 1))), (3, .int (nI (i + 1)))] rfl ?_
    exact ih_i (i + 1) ⟨by omega, by omega⟩
