/-! a quarter -/
def amF (S : cS) (q j : Nat) : Int32 := if (sLo S j).2.2.2.2.2.1 < (sLo S j).2.2.2.2.2.2.1 * (sRc S q).2.2.1 then (sLo S j).2.2.2.2.2.1 else (sLo S j).2.2.2.2.2.2.1 * (sRc S q).2.2.1
/-- the lorry that has spread am -/
def loT (x : lo9) (am : Int32) : lo9 := (x.1, x.2.1, x.2.2.1, x.2.2.2.1, x.2.2.2.2.1, x.2.2.2.2.2.1 - am, x.2.2.2.2.2.2.1, x.2.2.2.2.2.2.2.1, x.2.2.2.2.2.2.2.2 + am)
def sfT (x : sf8) (am sn : Int32) : sf8 := (x.1, x.2.1, x.2.2.1, sn, x.2.2.2.2.1 + am, x.2.2.2.2.2.1, x.2.2.2.2.2.2.1, x.2.2.2.2.2.2.2)
def rcT (x : rc9) (las : Int32) : rc9 := (x.1, x.2.1, x.2.2.1, x.2.2.2.1, x.2.2.2.2.1, x.2.2.2.2.2.1, x.2.2.2.2.2.2.1, x.2.2.2.2.2.2.2.1, las)
def trA (S : cS) (q j : Nat) : cS := setSf (setLo S j (loT (sLo S j) (amF S q j))) q (sfT (sSf S q) (amF S q j) (sSf S q).2.2.2.1)
def trB (S : cS) (q j : Nat) : cS := setG (setSf (setLo S j (loT (sLo S j) (amF S q j))) q (sfT (sSf S q) (amF S q j) 0)) (sNow S, sBarn S, sDel S, sRet S, sPlo S + (sSf S q).2.2.2.1)
def trT (S : cS) (q t : Nat) : cS := setRc (setTr S q (upd (sTr S q) t 1)) q (rcT (sRc S q) (nI t))
def treatF (S : cS) (q j t : Nat) : cS := if (sLo S j).1 = 0 then (if 0 < amF S q j then trT (trA S q j) q t else trA S q j) else trT (trB S q j) q t
theorem cu_trA {cy : Nat → ClassId} {ad : Nat → Nat} {S : cS} {J : jS} {q j : Nat} (h8 : sNr S ≤ 8) (h3 : sNl S ≤ 3) (hq : q < sNr S) (hj : j < sNl S) : va_up (va_up (cont cy ad S J) (48 + 2 * j) (some (lorE ad j (loT (sLo S j) (amF S q j))))) (17 + 4 * q) (some (surfE (sfT (sSf S q) (amF S q j) (sSf S q).2.2.2.1))) = cont cy ad (trA S q j) J := by
  rw [cu_lo h3 hj]
  exact cu_sf (S := setLo S j (loT (sLo S j) (amF S q j))) h8 hq
theorem cu_trB {cy : Nat → ClassId} {ad : Nat → Nat} {S : cS} {J : jS} {q j : Nat} (h8 : sNr S ≤ 8) (h3 : sNl S ≤ 3) (hq : q < sNr S) (hj : j < sNl S) : va_up (va_up (va_up (cont cy ad S J) (48 + 2 * j) (some (lorE ad j (loT (sLo S j) (amF S q j))))) (17 + 4 * q) (some (surfE (sfT (sSf S q) (amF S q j) 0)))) 0 (some (gE ad (sNr S) (sNl S) (sNow S, sBarn S, sDel S, sRet S, sPlo S + (sSf S q).2.2.2.1))) = cont cy ad (trB S q j) J := by
  rw [cu_lo h3 hj, cu_sf (S := setLo S j (loT (sLo S j) (amF S q j))) h8 hq]
  exact cu_g (S := setSf (setLo S j (loT (sLo S j) (amF S q j))) q (sfT (sSf S q) (amF S q j) 0))
theorem cu_trT {cy : Nat → ClassId} {ad : Nat → Nat} {S : cS} {J : jS} {q t : Nat} (h8 : sNr S ≤ 8) (hq : q < sNr S) : va_up (va_up (cont cy ad S J) (19 + 4 * q) (some (iE (cy 1) 200 (upd (sTr S q) t 1)))) (16 + 4 * q) (some (roadE ad q (rcT (sRc S q) (nI t)))) = cont cy ad (trT S q t) J := by
  rw [cu_tr h8 hq]
  exact cu_rc (S := setTr S q (upd (sTr S q) t 1)) h8 hq
set_option maxRecDepth 100000 in
set_option maxHeartbeats 4000000 in
/-- G_treat -/
theorem c_G_treat (l : Launch) (D : va_G) (cy : Nat → ClassId) (ad : Nat → Nat)  (S : cS) (J : jS) (h8 : sNr S ≤ 8) (h3 : sNl S ≤ 3) (q j t : Nat) (hq : q < sNr S) (hj : j < sNl S) (ht : t < 200) (hnow : sNow S = nI t) : rMv l D cls (TY cy) NW y_G_treat (Cond.code y_G_treat b_G_treat 4 rt_G_treat :: W0) { frames := 1, cells := 0, slots := 0, locals := 21 } [.ref (ad 0), .ref (ad (16 + 4 * q)), .ref (ad (48 + 2 * j))] ad (cont cy ad S J) (fun ad' c' => ad = ad' ∧ cont cy ad (treatF S q j t) J = c') := by
  intro sz
  refine r_of (own := R_G) rfl (by decide +kernel) (Nat.le_of_ble_eq_true rfl) ?_
  intro p e s m below meth cd hsz X hr hlk hN hin
  refine r_lv [0, 1, 2] [(0, .ref (ad 0)), (1, .ref (ad (16 + 4 * q))), (2, .ref (ad (48 + 2 * j)))] rfl ?_
  refine r_aload_n X 2 d_G_treat_0 rfl rfl ?_
  refine r_get X k_Lor 7 (by decide) f_G_171 rfl (ct_lor h3 hj) rfl d_G_treat_1 ?_
  refine r_aload_n X 1 d_G_treat_4 rfl rfl ?_
  refine r_get X k_Road 2 (by decide) f_G_311 rfl (ct_road h8 hq) rfl d_G_treat_5 ?_
  refine r_imul X d_G_treat_8 ?_
  refine r_aload_n X 2 d_G_treat_9 rfl rfl ?_
  refine r_get X k_Lor 6 (by decide) f_G_194 rfl (ct_lor h3 hj) rfl d_G_treat_10 ?_
  refine r_min X m_G_197 s_min i_Math cd_min ⟨by decide, by decide, by decide, by decide⟩ (Nat.le_of_ble_eq_true rfl) d_G_treat_13 ?_
  refine r_top (y := amF S q j) rfl ?_
  refine r_istore_n X [(3, .int (amF S q j)), (0, .ref (ad 0)), (1, .ref (ad (16 + 4 * q))), (2, .ref (ad (48 + 2 * j)))] d_G_treat_16 rfl (by decide) rfl ?_
  refine r_aload_n X 3 d_G_treat_17 rfl rfl ?_
  refine r_dup X d_G_treat_18 rfl ?_
  refine r_get X k_Lor 6 (by decide) f_G_194 rfl (ct_lor h3 hj) rfl d_G_treat_19 ?_
  refine r_iload_n X 0 d_G_treat_22 rfl rfl ?_
  refine r_isub X d_G_treat_23 ?_
  refine r_put X k_Lor 6 (by decide) f_G_194 rfl (ct_lor h3 hj) rfl rfl rfl (Nat.le_of_ble_eq_true rfl) [.int ((sLo S j).1), .ref (ad (49 + 2 * j)), .int ((sLo S j).2.1), .int ((sLo S j).2.2.1), .int ((sLo S j).2.2.2.1), .int ((sLo S j).2.2.2.2.1), .int (((sLo S j).2.2.2.2.2.1) - (amF S q j)), .int ((sLo S j).2.2.2.2.2.2.1), .int ((sLo S j).2.2.2.2.2.2.2.1), .int ((sLo S j).2.2.2.2.2.2.2.2)] rfl (va_up (cont cy ad S J) (48 + 2 * j) (some (.inr (3, [.int ((sLo S j).1), .ref (ad (49 + 2 * j)), .int ((sLo S j).2.1), .int ((sLo S j).2.2.1), .int ((sLo S j).2.2.2.1), .int ((sLo S j).2.2.2.2.1), .int (((sLo S j).2.2.2.2.2.1) - (amF S q j)), .int ((sLo S j).2.2.2.2.2.2.1), .int ((sLo S j).2.2.2.2.2.2.2.1), .int ((sLo S j).2.2.2.2.2.2.2.2)])))) rfl d_G_treat_24 ?_
  refine r_aload_n X 3 d_G_treat_27 rfl rfl ?_
  refine r_dup X d_G_treat_28 rfl ?_
  refine r_get X k_Lor 9 (by decide) f_G_321 rfl rup_self rfl d_G_treat_29 ?_
  refine r_iload_n X 0 d_G_treat_32 rfl rfl ?_
  refine r_iadd X d_G_treat_33 ?_
  refine r_put X k_Lor 9 (by decide) f_G_321 rfl rup_self rfl rfl rfl (Nat.le_of_ble_eq_true rfl) [.int ((sLo S j).1), .ref (ad (49 + 2 * j)), .int ((sLo S j).2.1), .int ((sLo S j).2.2.1), .int ((sLo S j).2.2.2.1), .int ((sLo S j).2.2.2.2.1), .int (((sLo S j).2.2.2.2.2.1) - (amF S q j)), .int ((sLo S j).2.2.2.2.2.2.1), .int ((sLo S j).2.2.2.2.2.2.2.1), .int (((sLo S j).2.2.2.2.2.2.2.2) + (amF S q j))] rfl (va_up (cont cy ad S J) (48 + 2 * j) (some (.inr (3, [.int ((sLo S j).1), .ref (ad (49 + 2 * j)), .int ((sLo S j).2.1), .int ((sLo S j).2.2.1), .int ((sLo S j).2.2.2.1), .int ((sLo S j).2.2.2.2.1), .int (((sLo S j).2.2.2.2.2.1) - (amF S q j)), .int ((sLo S j).2.2.2.2.2.2.1), .int ((sLo S j).2.2.2.2.2.2.2.1), .int (((sLo S j).2.2.2.2.2.2.2.2) + (amF S q j))])))) rup_up d_G_treat_34 ?_
  refine r_aload_n X 2 d_G_treat_37 rfl rfl ?_
  refine r_get X k_Road 7 (by decide) f_G_245 rfl (rup_ne (by omega) ((ct_road h8 hq))) rfl d_G_treat_38 ?_
  refine r_dup X d_G_treat_41 rfl ?_
  refine r_get X k_Surf 4 (by decide) f_G_324 rfl (rup_ne (by omega) ((ct_surf h8 hq))) rfl d_G_treat_42 ?_
  refine r_iload_n X 0 d_G_treat_45 rfl rfl ?_
  refine r_iadd X d_G_treat_46 ?_
  refine r_put X k_Surf 4 (by decide) f_G_324 rfl (rup_ne (by omega) ((ct_surf h8 hq))) rfl rfl rfl (Nat.le_of_ble_eq_true rfl) [.int ((sSf S q).1), .int ((sSf S q).2.1), .int ((sSf S q).2.2.1), .int ((sSf S q).2.2.2.1), .int (((sSf S q).2.2.2.2.1) + (amF S q j)), .int ((sSf S q).2.2.2.2.2.1), .int ((sSf S q).2.2.2.2.2.2.1), .int ((sSf S q).2.2.2.2.2.2.2)] rfl (va_up (va_up (cont cy ad S J) (48 + 2 * j) (some (.inr (3, [.int ((sLo S j).1), .ref (ad (49 + 2 * j)), .int ((sLo S j).2.1), .int ((sLo S j).2.2.1), .int ((sLo S j).2.2.2.1), .int ((sLo S j).2.2.2.2.1), .int (((sLo S j).2.2.2.2.2.1) - (amF S q j)), .int ((sLo S j).2.2.2.2.2.2.1), .int ((sLo S j).2.2.2.2.2.2.2.1), .int (((sLo S j).2.2.2.2.2.2.2.2) + (amF S q j))])))) (17 + 4 * q) (some (.inr (0, [.int ((sSf S q).1), .int ((sSf S q).2.1), .int ((sSf S q).2.2.1), .int ((sSf S q).2.2.2.1), .int (((sSf S q).2.2.2.2.1) + (amF S q j)), .int ((sSf S q).2.2.2.2.2.1), .int ((sSf S q).2.2.2.2.2.2.1), .int ((sSf S q).2.2.2.2.2.2.2)])))) rfl d_G_treat_47 ?_
  refine r_aload_n X 3 d_G_treat_50 rfl rfl ?_
  refine r_get X k_Lor 0 (by decide) f_G_327 rfl (rup_ne (by omega) (rup_self)) rfl d_G_treat_51 ?_
  by_cases hp : (sLo S j).1 = 0
  · refine r_if_eq X 81 d_G_treat_54 (by decide) (fun _ => ?_) (fun h9 => absurd hp h9)
    refine r_iload_n X 0 d_G_treat_81 rfl rfl ?_
    by_cases ham : 0 < amF S q j
    · refine r_if_gt X 92 d_G_treat_82 (by decide) (fun _ => ?_) (fun h9 => absurd ham h9)
      refine r_c (cont cy ad (trA S q j) J) (cu_trA h8 h3 hq hj) ?_
      refine r_aload_n X 2 d_G_treat_92 rfl rfl ?_
      refine r_aload_n X 1 d_G_treat_93 rfl rfl ?_
      refine r_get X k_G 11 (by decide) f_G_127 rfl (ct_lo (by decide)) rfl d_G_treat_94 ?_
      refine r_top (y := nI t) hnow ?_
      refine r_Vv X W0_good hN (c_Road_noteTreated l D cy ad (cont cy ad (trA S q j) J) (16 + 4 * q) (17 + 4 * q) (18 + 4 * q) (19 + 4 * q) ((sRc S q).1) ((sRc S q).2.1) ((sRc S q).2.2.1) ((sRc S q).2.2.2.1) ((sRc S q).2.2.2.2.1) ((sRc S q).2.2.2.2.2.1) ((sRc S q).2.2.2.2.2.2.1) ((sRc S q).2.2.2.2.2.2.2.1) ((sRc S q).2.2.2.2.2.2.2.2) (ct_road (S := trA S q j) h8 hq) (sTr S q) (ct_tr (S := trA S q j) h8 hq) (by omega) t ht) yv_Road_noteTreated m_G_336 (ct_road (S := trA S q j) h8 hq) k_Road.2.1 rfl rfl rfl ⟨by decide, by decide⟩ (Nat.le_of_ble_eq_true rfl) ⟨by decide, by decide⟩ d_G_treat_97 (fun ad9 c9 hp9 => ?_)
      obtain ⟨rfl, rfl⟩ := hp9
      refine r_c (cont cy ad (trT (trA S q j) q t) J) (cu_trT (S := trA S q j) h8 hq) ?_
      exact r_vret (post := fun ad' c' => ad = ad' ∧ cont cy ad (treatF S q j t) J = c') X hr hlk d_G_treat_100 (by decide) (by decide) ⟨rfl, congrArg (fun T9 => cont cy ad T9 J) ((if_pos hp).trans (if_pos ham))⟩
    · refine r_if_gt X 92 d_G_treat_82 (by decide) (fun h9 => absurd h9 ham) (fun _ => ?_)
      refine r_aload_n X 3 d_G_treat_85 rfl rfl ?_
      refine r_get X k_Lor 0 (by decide) f_G_327 rfl (rup_ne (by omega) (rup_self)) rfl d_G_treat_86 ?_
      refine r_if_eq X 100 d_G_treat_89 (by decide) (fun _ => ?_) (fun h9 => absurd hp h9)
      refine r_c (cont cy ad (trA S q j) J) (cu_trA h8 h3 hq hj) ?_
      exact r_vret (post := fun ad' c' => ad = ad' ∧ cont cy ad (treatF S q j t) J = c') X hr hlk d_G_treat_100 (by decide) (by decide) ⟨rfl, congrArg (fun T9 => cont cy ad T9 J) ((if_pos hp).trans (if_neg ham))⟩
  · refine r_if_eq X 81 d_G_treat_54 (by decide) (fun h9 => absurd h9 hp) (fun _ => ?_)
    refine r_aload_n X 1 d_G_treat_57 rfl rfl ?_
    refine r_dup X d_G_treat_58 rfl ?_
    refine r_get X k_G 15 (by decide) f_G_330 rfl (rup_ne (by omega) (rup_ne (by omega) ((ct_lo (by decide))))) rfl d_G_treat_59 ?_
    refine r_aload_n X 2 d_G_treat_62 rfl rfl ?_
    refine r_get X k_Road 7 (by decide) f_G_245 rfl (rup_ne (by omega) (rup_ne (by omega) ((ct_road h8 hq)))) rfl d_G_treat_63 ?_
    refine r_get X k_Surf 3 (by decide) f_G_333 rfl rup_self rfl d_G_treat_66 ?_
    refine r_iadd X d_G_treat_69 ?_
    refine r_put X k_G 15 (by decide) f_G_330 rfl (rup_ne (by omega) (rup_ne (by omega) ((ct_lo (by decide))))) rfl rfl rfl (Nat.le_of_ble_eq_true rfl) [.ref (ad 1), .ref (ad 2), .ref (ad 3), .ref (ad 4), .ref (ad 5), .ref (ad 6), .ref (ad 7), .ref (ad 8), .int (nI (sNr S)), .int (nI (sNl S)), .int 0, .int ((sG S).1), .int ((sG S).2.1), .int ((sG S).2.2.1), .int ((sG S).2.2.2.1), .int (((sG S).2.2.2.2) + ((sSf S q).2.2.2.1))] rfl (va_up (va_up (va_up (cont cy ad S J) (48 + 2 * j) (some (.inr (3, [.int ((sLo S j).1), .ref (ad (49 + 2 * j)), .int ((sLo S j).2.1), .int ((sLo S j).2.2.1), .int ((sLo S j).2.2.2.1), .int ((sLo S j).2.2.2.2.1), .int (((sLo S j).2.2.2.2.2.1) - (amF S q j)), .int ((sLo S j).2.2.2.2.2.2.1), .int ((sLo S j).2.2.2.2.2.2.2.1), .int (((sLo S j).2.2.2.2.2.2.2.2) + (amF S q j))])))) (17 + 4 * q) (some (.inr (0, [.int ((sSf S q).1), .int ((sSf S q).2.1), .int ((sSf S q).2.2.1), .int ((sSf S q).2.2.2.1), .int (((sSf S q).2.2.2.2.1) + (amF S q j)), .int ((sSf S q).2.2.2.2.2.1), .int ((sSf S q).2.2.2.2.2.2.1), .int ((sSf S q).2.2.2.2.2.2.2)])))) 0 (some (.inr (5, [.ref (ad 1), .ref (ad 2), .ref (ad 3), .ref (ad 4), .ref (ad 5), .ref (ad 6), .ref (ad 7), .ref (ad 8), .int (nI (sNr S)), .int (nI (sNl S)), .int 0, .int ((sG S).1), .int ((sG S).2.1), .int ((sG S).2.2.1), .int ((sG S).2.2.2.1), .int (((sG S).2.2.2.2) + ((sSf S q).2.2.2.1))])))) rfl d_G_treat_70 ?_
    refine r_aload_n X 2 d_G_treat_73 rfl rfl ?_
    refine r_get X k_Road 7 (by decide) f_G_245 rfl (rup_ne (by omega) (rup_ne (by omega) (rup_ne (by omega) ((ct_road h8 hq))))) rfl d_G_treat_74 ?_
    refine r_iconst X 0 d_G_treat_77 (by decide) ?_
    refine r_put X k_Surf 3 (by decide) f_G_333 rfl (rup_ne (by omega) (rup_self)) rfl rfl rfl (Nat.le_of_ble_eq_true rfl) [.int ((sSf S q).1), .int ((sSf S q).2.1), .int ((sSf S q).2.2.1), .int 0, .int (((sSf S q).2.2.2.2.1) + (amF S q j)), .int ((sSf S q).2.2.2.2.2.1), .int ((sSf S q).2.2.2.2.2.2.1), .int ((sSf S q).2.2.2.2.2.2.2)] rfl (va_up (va_up (va_up (cont cy ad S J) (48 + 2 * j) (some (.inr (3, [.int ((sLo S j).1), .ref (ad (49 + 2 * j)), .int ((sLo S j).2.1), .int ((sLo S j).2.2.1), .int ((sLo S j).2.2.2.1), .int ((sLo S j).2.2.2.2.1), .int (((sLo S j).2.2.2.2.2.1) - (amF S q j)), .int ((sLo S j).2.2.2.2.2.2.1), .int ((sLo S j).2.2.2.2.2.2.2.1), .int (((sLo S j).2.2.2.2.2.2.2.2) + (amF S q j))])))) (17 + 4 * q) (some (.inr (0, [.int ((sSf S q).1), .int ((sSf S q).2.1), .int ((sSf S q).2.2.1), .int 0, .int (((sSf S q).2.2.2.2.1) + (amF S q j)), .int ((sSf S q).2.2.2.2.2.1), .int ((sSf S q).2.2.2.2.2.2.1), .int ((sSf S q).2.2.2.2.2.2.2)])))) 0 (some (.inr (5, [.ref (ad 1), .ref (ad 2), .ref (ad 3), .ref (ad 4), .ref (ad 5), .ref (ad 6), .ref (ad 7), .ref (ad 8), .int (nI (sNr S)), .int (nI (sNl S)), .int 0, .int ((sG S).1), .int ((sG S).2.1), .int ((sG S).2.2.1), .int ((sG S).2.2.2.1), .int (((sG S).2.2.2.2) + ((sSf S q).2.2.2.1))])))) (rup_in (by omega) rup_up rfl) d_G_treat_78 ?_
    refine r_iload_n X 0 d_G_treat_81 rfl rfl ?_
    by_cases ham : 0 < amF S q j
    · refine r_if_gt X 92 d_G_treat_82 (by decide) (fun _ => ?_) (fun h9 => absurd ham h9)
      refine r_c (cont cy ad (trB S q j) J) (cu_trB h8 h3 hq hj) ?_
      refine r_aload_n X 2 d_G_treat_92 rfl rfl ?_
      refine r_aload_n X 1 d_G_treat_93 rfl rfl ?_
      refine r_get X k_G 11 (by decide) f_G_127 rfl (ct_lo (by decide)) rfl d_G_treat_94 ?_
      refine r_top (y := nI t) hnow ?_
      refine r_Vv X W0_good hN (c_Road_noteTreated l D cy ad (cont cy ad (trB S q j) J) (16 + 4 * q) (17 + 4 * q) (18 + 4 * q) (19 + 4 * q) ((sRc S q).1) ((sRc S q).2.1) ((sRc S q).2.2.1) ((sRc S q).2.2.2.1) ((sRc S q).2.2.2.2.1) ((sRc S q).2.2.2.2.2.1) ((sRc S q).2.2.2.2.2.2.1) ((sRc S q).2.2.2.2.2.2.2.1) ((sRc S q).2.2.2.2.2.2.2.2) (ct_road (S := trB S q j) h8 hq) (sTr S q) (ct_tr (S := trB S q j) h8 hq) (by omega) t ht) yv_Road_noteTreated m_G_336 (ct_road (S := trB S q j) h8 hq) k_Road.2.1 rfl rfl rfl ⟨by decide, by decide⟩ (Nat.le_of_ble_eq_true rfl) ⟨by decide, by decide⟩ d_G_treat_97 (fun ad9 c9 hp9 => ?_)
      obtain ⟨rfl, rfl⟩ := hp9
      refine r_c (cont cy ad (trT (trB S q j) q t) J) (cu_trT (S := trB S q j) h8 hq) ?_
      exact r_vret (post := fun ad' c' => ad = ad' ∧ cont cy ad (treatF S q j t) J = c') X hr hlk d_G_treat_100 (by decide) (by decide) ⟨rfl, congrArg (fun T9 => cont cy ad T9 J) (if_neg hp)⟩
    · refine r_if_gt X 92 d_G_treat_82 (by decide) (fun h9 => absurd h9 ham) (fun _ => ?_)
      refine r_aload_n X 3 d_G_treat_85 rfl rfl ?_
      refine r_get X k_Lor 0 (by decide) f_G_327 rfl (rup_ne (by omega) (rup_ne (by omega) (rup_self))) rfl d_G_treat_86 ?_
      refine r_if_eq X 100 d_G_treat_89 (by decide) (fun h9 => absurd h9 hp) (fun _ => ?_)
      refine r_c (cont cy ad (trB S q j) J) (cu_trB h8 h3 hq hj) ?_
      refine r_aload_n X 2 d_G_treat_92 rfl rfl ?_
      refine r_aload_n X 1 d_G_treat_93 rfl rfl ?_
      refine r_get X k_G 11 (by decide) f_G_127 rfl (ct_lo (by decide)) rfl d_G_treat_94 ?_
      refine r_top (y := nI t) hnow ?_
      refine r_Vv X W0_good hN (c_Road_noteTreated l D cy ad (cont cy ad (trB S q j) J) (16 + 4 * q) (17 + 4 * q) (18 + 4 * q) (19 + 4 * q) ((sRc S q).1) ((sRc S q).2.1) ((sRc S q).2.2.1) ((sRc S q).2.2.2.1) ((sRc S q).2.2.2.2.1) ((sRc S q).2.2.2.2.2.1) ((sRc S q).2.2.2.2.2.2.1) ((sRc S q).2.2.2.2.2.2.2.1) ((sRc S q).2.2.2.2.2.2.2.2) (ct_road (S := trB S q j) h8 hq) (sTr S q) (ct_tr (S := trB S q j) h8 hq) (by omega) t ht) yv_Road_noteTreated m_G_336 (ct_road (S := trB S q j) h8 hq) k_Road.2.1 rfl rfl rfl ⟨by decide, by decide⟩ (Nat.le_of_ble_eq_true rfl) ⟨by decide, by decide⟩ d_G_treat_97 (fun ad9 c9 hp9 => ?_)
      obtain ⟨rfl, rfl⟩ := hp9
      refine r_c (cont cy ad (trT (trB S q j) q t) J) (cu_trT (S := trB S q j) h8 hq) ?_
      exact r_vret (post := fun ad' c' => ad = ad' ∧ cont cy ad (treatF S q j t) J = c') X hr hlk d_G_treat_100 (by decide) (by decide) ⟨rfl, congrArg (fun T9 => cont cy ad T9 J) (if_neg hp)⟩
