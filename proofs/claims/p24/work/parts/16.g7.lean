/-! a lorry's work, a quarter -/
def loH (x : lo9) : lo9 := (x.1, x.2.1, x.2.2.1, x.2.2.2.1, x.2.2.2.2.1, x.2.2.2.2.2.1, x.2.2.2.2.2.2.1, x.2.2.2.2.2.2.2.1 + 1, x.2.2.2.2.2.2.2.2)
def loD (x : lo9) : lo9 := (x.1, mx 0 (x.2.1 - 1), x.2.2.1, x.2.2.2.1, x.2.2.2.2.1, x.2.2.2.2.2.1, x.2.2.2.2.2.2.1, x.2.2.2.2.2.2.2.1 + 1, x.2.2.2.2.2.2.2.2)
def loP (x : lo9) (nd ah : Int32) : lo9 := (x.1, x.2.1, nd, ah, x.2.2.2.2.1 + 1, x.2.2.2.2.2.1, x.2.2.2.2.2.2.1, x.2.2.2.2.2.2.2.1 + 1, x.2.2.2.2.2.2.2.2)
def loA (x : lo9) (ah : Int32) : lo9 := (x.1, mx 0 (x.2.1 - 1), ah, ah, 0, x.2.2.2.2.2.1, x.2.2.2.2.2.2.1, x.2.2.2.2.2.2.2.1 + 1, x.2.2.2.2.2.2.2.2)
def dropS (S : cS) (j : Nat) : cS := setOd (setLo S j (loD (sLo S j))) j (shF (sOd S j) 8)
def finS (S : cS) (j t q : Nat) (nd ah : Int32) : cS := if (sLo S j).2.2.2.2.1 + 1 < (sRc S q).2.2.1 then setLo S j (loP (sLo S j) nd ah) else treatF (setOd (setLo S j (loA (sLo S j) ah)) j (shF (sOd S j) 8)) q j t
def jnF (S : cS) (j q : Nat) : Int32 := if (sLo S j).2.2.1 = (sRc S q).1 then 1 else if (sLo S j).2.2.1 = (sRc S q).2.1 then 1 else 0
def ohF (S : cS) (j q : Nat) : Int32 := if (sLo S j).2.2.1 = (sRc S q).1 then (sRc S q).2.1 else (sRc S q).1
def workQ (S : cS) (j t q : Nat) : cS := if foF (sLo S j).2.1 (sOd S j) = nI q ∧ q < sNr S then (if (sLo S j).2.2.1 = -1 then finS S j t q (sLo S j).2.2.1 (sLo S j).2.2.2.1 else if jnF S j q = 0 then dropS S j else finS S j t q (-1) (ohF S j q)) else dropS S j
def workF (S : cS) (j t : Nat) : cS := if (sLo S j).2.1 = 0 then S else if (sLo S j).2.2.2.2.2.2.2.1 < 40 then workQ S j t (foF (sLo S j).2.1 (sOd S j)).toNatClampNeg else S
theorem wf_lo {S : cS} {j : Nat} {x : lo9} (hS : wfS S) (h : ∃ q : Nat, q ≤ 8 ∧ x.2.1 = nI q) : wfS (setLo S j x) := by
  refine ⟨hS.1, hS.2.1, hS.2.2.1, fun i hi => ?_⟩
  show ∃ q : Nat, q ≤ 8 ∧ (va_up (sLo S) j x i).2.1 = nI q
  by_cases hij : i = j
  · subst hij
    rw [va_up_self]
    exact h
  · rw [va_up_ne _ _ hij]
    exact hS.2.2.2 i hi
theorem no_road {x : Int32} {nr : Nat} (h8 : nr ≤ 8) (h : ¬ (x = nI x.toNatClampNeg ∧ x.toNatClampNeg < nr)) : ∀ k, k < nr → x ≠ nI k := fun k hk e => h (by subst e; rw [nI_clamp (by omega)]; exact ⟨rfl, hk⟩)
theorem cu_loOd {cy : Nat → ClassId} {ad : Nat → Nat} {S : cS} {J : jS} {j : Nat} {x : lo9} {od : Nat → Int32} (h3 : sNl S ≤ 3) (hj : j < sNl S) : va_up (va_up (cont cy ad S J) (48 + 2 * j) (some (lorE ad j x))) (49 + 2 * j) (some (iE (cy 0) 8 od)) = cont cy ad (setOd (setLo S j x) j od) J := by
  rw [cu_lo h3 hj]
  exact cu_od (S := setLo S j x) h3 hj
set_option maxRecDepth 100000 in
set_option maxHeartbeats 4000000 in
/-- G_work -/
theorem c_G_work (l : Launch) (D : va_G) (cy : Nat → ClassId) (ad : Nat → Nat)  (S : cS) (J : jS) (hS : wfS S) (j t : Nat) (hj : j < sNl S) (ht : t < 200) (hnow : sNow S = nI t) : rMv l D cls (TY cy) NW y_G_work (Cond.code y_G_work b_G_work 3 rt_G_work :: W0) { frames := 3, cells := 0, slots := 0, locals := 62 } [.ref (ad 0), .ref (ad (48 + 2 * j))] ad (cont cy ad S J) (fun ad' c' => ad = ad' ∧ cont cy ad (workF S j t) J = c') := by
  intro sz
  refine r_of (own := R_G) rfl (by decide +kernel) (Nat.le_of_ble_eq_true rfl) ?_
  intro p e s m below meth cd hsz X hr hlk hN hin
  have h8 := hS.1
  have h3 := hS.2.1
  refine r_lv [0, 1] [(0, .ref (ad 0)), (1, .ref (ad (48 + 2 * j)))] rfl ?_
  refine r_aload_n X 1 d_G_work_0 rfl rfl ?_
  refine r_get X k_Lor 2 (by decide) f_G_180 rfl (ct_lor hS.2.1 hj) rfl d_G_work_1 ?_
  refine r_if_eq X 16 d_G_work_4 (by decide) (fun h_4 => ?_) (fun h_4 => ?_)
  · exact r_vret (post := fun ad' c' => ad = ad' ∧ cont cy ad (workF S j t) J = c') X hr hlk d_G_work_16 (by decide) (by decide) ⟨rfl, congrArg (fun T9 => cont cy ad T9 J) (if_pos h_4 : workF S j t = S)⟩
  · refine r_aload_n X 1 d_G_work_7 rfl rfl ?_
    refine r_get X k_Lor 8 (by decide) f_G_205 rfl (ct_lor hS.2.1 hj) rfl d_G_work_8 ?_
    refine r_bipush X 40 d_G_work_11 (by decide) ?_
    refine r_icmp_lt X 17 d_G_work_13 (by decide) (fun h_13 => ?_) (fun h_13 => ?_)
    · refine r_aload_n X 1 d_G_work_17 rfl rfl ?_
      refine r_dup X d_G_work_18 rfl ?_
      refine r_get X k_Lor 8 (by decide) f_G_205 rfl (ct_lor hS.2.1 hj) rfl d_G_work_19 ?_
      refine r_iconst X 1 d_G_work_22 (by decide) ?_
      refine r_iadd X d_G_work_23 ?_
      refine r_put X k_Lor 8 (by decide) f_G_205 rfl (ct_lor hS.2.1 hj) rfl rfl rfl (Nat.le_of_ble_eq_true rfl) [.int ((sLo S j).1), .ref (ad (49 + 2 * j)), .int ((sLo S j).2.1), .int ((sLo S j).2.2.1), .int ((sLo S j).2.2.2.1), .int ((sLo S j).2.2.2.2.1), .int ((sLo S j).2.2.2.2.2.1), .int ((sLo S j).2.2.2.2.2.2.1), .int (((sLo S j).2.2.2.2.2.2.2.1) + 1), .int ((sLo S j).2.2.2.2.2.2.2.2)] rfl (va_up (cont cy ad S J) (48 + 2 * j) (some (.inr (3, [.int ((sLo S j).1), .ref (ad (49 + 2 * j)), .int ((sLo S j).2.1), .int ((sLo S j).2.2.1), .int ((sLo S j).2.2.2.1), .int ((sLo S j).2.2.2.2.1), .int ((sLo S j).2.2.2.2.2.1), .int ((sLo S j).2.2.2.2.2.2.1), .int (((sLo S j).2.2.2.2.2.2.2.1) + 1), .int ((sLo S j).2.2.2.2.2.2.2.2)])))) rfl d_G_work_24 ?_
      refine r_aload_n X 0 d_G_work_27 rfl rfl ?_
      refine r_aload_n X 1 d_G_work_28 rfl rfl ?_
      refine r_Vi X W0_good hN (c_Lor_firstOrder l D cy ad (va_up (cont cy ad S J) (48 + 2 * j) (some (.inr (3, [.int ((sLo S j).1), .ref (ad (49 + 2 * j)), .int ((sLo S j).2.1), .int ((sLo S j).2.2.1), .int ((sLo S j).2.2.2.1), .int ((sLo S j).2.2.2.2.1), .int ((sLo S j).2.2.2.2.2.1), .int ((sLo S j).2.2.2.2.2.2.1), .int (((sLo S j).2.2.2.2.2.2.2.1) + 1), .int ((sLo S j).2.2.2.2.2.2.2.2)])))) (48 + 2 * j) (49 + 2 * j) (by omega) ((sLo S j).1) ((sLo S j).2.1) ((sLo S j).2.2.1) ((sLo S j).2.2.2.1) ((sLo S j).2.2.2.2.1) ((sLo S j).2.2.2.2.2.1) ((sLo S j).2.2.2.2.2.2.1) (((sLo S j).2.2.2.2.2.2.2.1) + 1) ((sLo S j).2.2.2.2.2.2.2.2) (sOd S j) rup_self (rup_ne (by omega) ((ct_od hS.2.1 hj)))) yv_Lor_firstOrder m_G_293 rup_self k_Lor.2.1 rfl rfl rfl ⟨by decide, by decide⟩ (Nat.le_of_ble_eq_true rfl) ⟨by decide, by decide⟩ d_G_work_29 (fun r9 ad9 c9 hp9 => ?_)
      obtain ⟨rfl, rfl, rfl⟩ := hp9
      refine r_c (cont cy ad (setLo S j (loH (sLo S j))) J) (cu_lo (x := loH (sLo S j)) h3 hj) ?_
      have hW1 : wfS (setLo S j (loH (sLo S j))) := wf_lo hS (hS.2.2.2 j hj)
      obtain ⟨q, hqd⟩ : ∃ q : Nat, q = (foF (sLo S j).2.1 (sOd S j)).toNatClampNeg := ⟨_, rfl⟩
      by_cases hq9 : (foF (sLo S j).2.1 (sOd S j)) = nI q ∧ q < sNr S
      · have hq : q < sNr S := hq9.2
        refine r_top (y := nI q) hq9.1 ?_
        refine r_Vq X W0_good hN (c_G_roadAt_y l D cy ad (setLo S j (loH (sLo S j))) J hW1 q hq) yv_G_roadAt m_G_174 (ct_lo (by decide)) k_G.2.1 rfl rfl rfl ⟨by decide, by decide⟩ (Nat.le_of_ble_eq_true rfl) ⟨by decide, by decide⟩ d_G_work_32 (fun r9 ad9 c9 hp9 => ?_)
        obtain ⟨rfl, rfl, rfl⟩ := hp9
        refine r_c (va_up (cont cy ad S J) (48 + 2 * j) (some (.inr (3, [.int ((sLo S j).1), .ref (ad (49 + 2 * j)), .int ((sLo S j).2.1), .int ((sLo S j).2.2.1), .int ((sLo S j).2.2.2.1), .int ((sLo S j).2.2.2.2.1), .int ((sLo S j).2.2.2.2.2.1), .int ((sLo S j).2.2.2.2.2.2.1), .int (((sLo S j).2.2.2.2.2.2.2.1) + 1), .int ((sLo S j).2.2.2.2.2.2.2.2)])))) (cu_lo (x := loH (sLo S j)) h3 hj).symm ?_
        refine r_astore_n X [(2, .ref (ad (16 + 4 * q))), (0, .ref (ad 0)), (1, .ref (ad (48 + 2 * j)))] d_G_work_35 rfl (by decide) rfl ?_
        refine r_aload_n X 0 d_G_work_36 rfl rfl ?_
        refine r_ifnull X d_G_work_37 ?_
        refine r_aload_n X 2 d_G_work_40 rfl rfl ?_
        refine r_get X k_Lor 3 (by decide) f_G_189 rfl rup_self rfl d_G_work_41 ?_
        refine r_iconst X (-1) d_G_work_44 (by decide) ?_
        by_cases hn : (sLo S j).2.2.1 = -1
        · refine r_icmp_eq X 64 d_G_work_45 (by decide) (fun _ => ?_) (fun h9 => absurd hn h9)
          refine r_aload_n X 2 d_G_work_64 rfl rfl ?_
          refine r_get X k_Lor 3 (by decide) f_G_189 rfl rup_self rfl d_G_work_65 ?_
          refine r_iconst X (-1) d_G_work_68 (by decide) ?_
          refine r_icmp_eq X 89 d_G_work_69 (by decide) (fun _ => ?_) (fun h9 => absurd hn h9)
          refine r_aload_n X 2 d_G_work_89 rfl rfl ?_
          refine r_dup X d_G_work_90 rfl ?_
          refine r_get X k_Lor 5 (by decide) f_G_308 rfl rup_self rfl d_G_work_91 ?_
          refine r_iconst X 1 d_G_work_94 (by decide) ?_
          refine r_iadd X d_G_work_95 ?_
          refine r_put X k_Lor 5 (by decide) f_G_308 rfl rup_self rfl rfl rfl (Nat.le_of_ble_eq_true rfl) [.int ((sLo S j).1), .ref (ad (49 + 2 * j)), .int ((sLo S j).2.1), .int ((sLo S j).2.2.1), .int ((sLo S j).2.2.2.1), .int (((sLo S j).2.2.2.2.1) + 1), .int ((sLo S j).2.2.2.2.2.1), .int ((sLo S j).2.2.2.2.2.2.1), .int (((sLo S j).2.2.2.2.2.2.2.1) + 1), .int ((sLo S j).2.2.2.2.2.2.2.2)] rfl (va_up (cont cy ad S J) (48 + 2 * j) (some (.inr (3, [.int ((sLo S j).1), .ref (ad (49 + 2 * j)), .int ((sLo S j).2.1), .int ((sLo S j).2.2.1), .int ((sLo S j).2.2.2.1), .int (((sLo S j).2.2.2.2.1) + 1), .int ((sLo S j).2.2.2.2.2.1), .int ((sLo S j).2.2.2.2.2.2.1), .int (((sLo S j).2.2.2.2.2.2.2.1) + 1), .int ((sLo S j).2.2.2.2.2.2.2.2)])))) rup_up d_G_work_96 ?_
          refine r_aload_n X 2 d_G_work_99 rfl rfl ?_
          refine r_get X k_Lor 5 (by decide) f_G_308 rfl rup_self rfl d_G_work_100 ?_
          refine r_aload_n X 0 d_G_work_103 rfl rfl ?_
          refine r_get X k_Road 2 (by decide) f_G_311 rfl (rup_ne (by omega) ((ct_road hS.1 hq))) rfl d_G_work_104 ?_
          refine r_icmp_lt X 120 d_G_work_107 (by decide) (fun h_107 => ?_) (fun h_107 => ?_)
          · refine r_c (cont cy ad (setLo S j (loP (sLo S j) (sLo S j).2.2.1 (sLo S j).2.2.2.1)) J) (cu_lo (x := loP (sLo S j) (sLo S j).2.2.1 (sLo S j).2.2.2.1) h3 hj) ?_
            exact r_vret (post := fun ad' c' => ad = ad' ∧ cont cy ad (workF S j t) J = c') X hr hlk d_G_work_120 (by decide) (by decide) ⟨rfl, congrArg (fun T9 => cont cy ad T9 J) ((if_neg h_4).trans ((if_pos h_13).trans ((congrArg (workQ S j t) hqd.symm).trans ((if_pos hq9).trans ((if_pos hn).trans (if_pos h_107))))) : workF S j t = setLo S j (loP (sLo S j) (sLo S j).2.2.1 (sLo S j).2.2.2.1))⟩
          · refine r_aload_n X 2 d_G_work_110 rfl rfl ?_
            refine r_Vv X W0_good hN (c_Lor_arrive l D cy ad (va_up (cont cy ad S J) (48 + 2 * j) (some (.inr (3, [.int ((sLo S j).1), .ref (ad (49 + 2 * j)), .int ((sLo S j).2.1), .int ((sLo S j).2.2.1), .int ((sLo S j).2.2.2.1), .int (((sLo S j).2.2.2.2.1) + 1), .int ((sLo S j).2.2.2.2.2.1), .int ((sLo S j).2.2.2.2.2.2.1), .int (((sLo S j).2.2.2.2.2.2.2.1) + 1), .int ((sLo S j).2.2.2.2.2.2.2.2)])))) (48 + 2 * j) (49 + 2 * j) (by omega) ((sLo S j).1) ((sLo S j).2.1) ((sLo S j).2.2.1) ((sLo S j).2.2.2.1) (((sLo S j).2.2.2.2.1) + 1) ((sLo S j).2.2.2.2.2.1) ((sLo S j).2.2.2.2.2.2.1) (((sLo S j).2.2.2.2.2.2.2.1) + 1) ((sLo S j).2.2.2.2.2.2.2.2) (sOd S j) rup_self (rup_ne (by omega) ((ct_od hS.2.1 hj)))) yv_Lor_arrive m_G_314 rup_self k_Lor.2.1 rfl rfl rfl ⟨by decide, by decide⟩ (Nat.le_of_ble_eq_true rfl) ⟨by decide, by decide⟩ d_G_work_111 (fun ad9 c9 hp9 => ?_)
            obtain ⟨rfl, rfl⟩ := hp9
            refine r_c (va_up (va_up (cont cy ad S J) (48 + 2 * j) (some (.inr (3, [.int ((sLo S j).1), .ref (ad (49 + 2 * j)), .int (mx 0 (((sLo S j).2.1) - 1)), .int ((sLo S j).2.2.2.1), .int ((sLo S j).2.2.2.1), .int 0, .int ((sLo S j).2.2.2.2.2.1), .int ((sLo S j).2.2.2.2.2.2.1), .int (((sLo S j).2.2.2.2.2.2.2.1) + 1), .int ((sLo S j).2.2.2.2.2.2.2.2)])))) (49 + 2 * j) (some (.inl (cy 0, 8, .inl (shF (sOd S j) 8))))) (congrArg (fun q9 => va_up q9 (49 + 2 * j) (some (.inl (cy 0, 8, .inl (shF (sOd S j) 8))))) rup_up) ?_
            refine r_aload_n X 1 d_G_work_114 rfl rfl ?_
            refine r_aload_n X 0 d_G_work_115 rfl rfl ?_
            refine r_aload_n X 2 d_G_work_116 rfl rfl ?_
            refine r_c (cont cy ad (setOd (setLo S j (loA (sLo S j) (sLo S j).2.2.2.1)) j (shF (sOd S j) 8)) J) (cu_loOd (x := loA (sLo S j) (sLo S j).2.2.2.1) h3 hj) ?_
            refine r_Vv X W0_good hN (c_G_treat l D cy ad (setOd (setLo S j (loA (sLo S j) (sLo S j).2.2.2.1)) j (shF (sOd S j) 8)) J h8 h3 q j t hq hj ht hnow) yv_G_treat m_G_317 (ct_lo (by decide)) k_G.2.1 rfl rfl rfl ⟨by decide, by decide⟩ (Nat.le_of_ble_eq_true rfl) ⟨by decide, by decide⟩ d_G_work_117 (fun ad9 c9 hp9 => ?_)
            obtain ⟨rfl, rfl⟩ := hp9
            exact r_vret (post := fun ad' c' => ad = ad' ∧ cont cy ad (workF S j t) J = c') X hr hlk d_G_work_120 (by decide) (by decide) ⟨rfl, congrArg (fun T9 => cont cy ad T9 J) ((if_neg h_4).trans ((if_pos h_13).trans ((congrArg (workQ S j t) hqd.symm).trans ((if_pos hq9).trans ((if_pos hn).trans (if_neg h_107))))) : workF S j t = treatF (setOd (setLo S j (loA (sLo S j) (sLo S j).2.2.2.1)) j (shF (sOd S j) 8)) q j t)⟩
        · refine r_icmp_eq X 64 d_G_work_45 (by decide) (fun h9 => absurd h9 hn) (fun _ => ?_)
          refine r_aload_n X 0 d_G_work_48 rfl rfl ?_
          refine r_aload_n X 2 d_G_work_49 rfl rfl ?_
          refine r_get X k_Lor 3 (by decide) f_G_189 rfl rup_self rfl d_G_work_50 ?_
          refine r_Vi X W0_good hN (c_Road_joins l D cy ad (va_up (cont cy ad S J) (48 + 2 * j) (some (.inr (3, [.int ((sLo S j).1), .ref (ad (49 + 2 * j)), .int ((sLo S j).2.1), .int ((sLo S j).2.2.1), .int ((sLo S j).2.2.2.1), .int ((sLo S j).2.2.2.2.1), .int ((sLo S j).2.2.2.2.2.1), .int ((sLo S j).2.2.2.2.2.2.1), .int (((sLo S j).2.2.2.2.2.2.2.1) + 1), .int ((sLo S j).2.2.2.2.2.2.2.2)])))) (16 + 4 * q) (17 + 4 * q) (18 + 4 * q) (19 + 4 * q) ((sRc S q).1) ((sRc S q).2.1) ((sRc S q).2.2.1) ((sRc S q).2.2.2.1) ((sRc S q).2.2.2.2.1) ((sRc S q).2.2.2.2.2.1) ((sRc S q).2.2.2.2.2.2.1) ((sRc S q).2.2.2.2.2.2.2.1) ((sRc S q).2.2.2.2.2.2.2.2) (rup_ne (by omega) ((ct_road hS.1 hq))) ((sLo S j).2.2.1)) yv_Road_joins m_G_296 (rup_ne (by omega) ((ct_road hS.1 hq))) k_Road.2.1 rfl rfl rfl ⟨by decide, by decide⟩ (Nat.le_of_ble_eq_true rfl) ⟨by decide, by decide⟩ d_G_work_53 (fun r9 ad9 c9 hp9 => ?_)
          obtain ⟨rfl, rfl, rfl⟩ := hp9
          refine r_top (y := jnF S j q) rfl ?_
          refine r_if_ne X 64 d_G_work_56 (by decide) (fun h_56 => ?_) (fun h_56 => ?_)
          · refine r_aload_n X 2 d_G_work_64 rfl rfl ?_
            refine r_get X k_Lor 3 (by decide) f_G_189 rfl rup_self rfl d_G_work_65 ?_
            refine r_iconst X (-1) d_G_work_68 (by decide) ?_
            refine r_icmp_eq X 89 d_G_work_69 (by decide) (fun h9 => absurd h9 hn) (fun _ => ?_)
            refine r_aload_n X 2 d_G_work_72 rfl rfl ?_
            refine r_aload_n X 0 d_G_work_73 rfl rfl ?_
            refine r_aload_n X 2 d_G_work_74 rfl rfl ?_
            refine r_get X k_Lor 3 (by decide) f_G_189 rfl rup_self rfl d_G_work_75 ?_
            refine r_Vi X W0_good hN (c_Road_otherEnd l D cy ad (va_up (cont cy ad S J) (48 + 2 * j) (some (.inr (3, [.int ((sLo S j).1), .ref (ad (49 + 2 * j)), .int ((sLo S j).2.1), .int ((sLo S j).2.2.1), .int ((sLo S j).2.2.2.1), .int ((sLo S j).2.2.2.2.1), .int ((sLo S j).2.2.2.2.2.1), .int ((sLo S j).2.2.2.2.2.2.1), .int (((sLo S j).2.2.2.2.2.2.2.1) + 1), .int ((sLo S j).2.2.2.2.2.2.2.2)])))) (16 + 4 * q) (17 + 4 * q) (18 + 4 * q) (19 + 4 * q) ((sRc S q).1) ((sRc S q).2.1) ((sRc S q).2.2.1) ((sRc S q).2.2.2.1) ((sRc S q).2.2.2.2.1) ((sRc S q).2.2.2.2.2.1) ((sRc S q).2.2.2.2.2.2.1) ((sRc S q).2.2.2.2.2.2.2.1) ((sRc S q).2.2.2.2.2.2.2.2) (rup_ne (by omega) ((ct_road hS.1 hq))) ((sLo S j).2.2.1)) yv_Road_otherEnd m_G_302 (rup_ne (by omega) ((ct_road hS.1 hq))) k_Road.2.1 rfl rfl rfl ⟨by decide, by decide⟩ (Nat.le_of_ble_eq_true rfl) ⟨by decide, by decide⟩ d_G_work_78 (fun r9 ad9 c9 hp9 => ?_)
            obtain ⟨rfl, rfl, rfl⟩ := hp9
            refine r_top (y := ohF S j q) rfl ?_
            refine r_put X k_Lor 4 (by decide) f_G_305 rfl rup_self rfl rfl rfl (Nat.le_of_ble_eq_true rfl) [.int ((sLo S j).1), .ref (ad (49 + 2 * j)), .int ((sLo S j).2.1), .int ((sLo S j).2.2.1), .int (ohF S j q), .int ((sLo S j).2.2.2.2.1), .int ((sLo S j).2.2.2.2.2.1), .int ((sLo S j).2.2.2.2.2.2.1), .int (((sLo S j).2.2.2.2.2.2.2.1) + 1), .int ((sLo S j).2.2.2.2.2.2.2.2)] rfl (va_up (cont cy ad S J) (48 + 2 * j) (some (.inr (3, [.int ((sLo S j).1), .ref (ad (49 + 2 * j)), .int ((sLo S j).2.1), .int ((sLo S j).2.2.1), .int (ohF S j q), .int ((sLo S j).2.2.2.2.1), .int ((sLo S j).2.2.2.2.2.1), .int ((sLo S j).2.2.2.2.2.2.1), .int (((sLo S j).2.2.2.2.2.2.2.1) + 1), .int ((sLo S j).2.2.2.2.2.2.2.2)])))) rup_up d_G_work_81 ?_
            refine r_aload_n X 2 d_G_work_84 rfl rfl ?_
            refine r_iconst X (-1) d_G_work_85 (by decide) ?_
            refine r_put X k_Lor 3 (by decide) f_G_189 rfl rup_self rfl rfl rfl (Nat.le_of_ble_eq_true rfl) [.int ((sLo S j).1), .ref (ad (49 + 2 * j)), .int ((sLo S j).2.1), .int (-1), .int (ohF S j q), .int ((sLo S j).2.2.2.2.1), .int ((sLo S j).2.2.2.2.2.1), .int ((sLo S j).2.2.2.2.2.2.1), .int (((sLo S j).2.2.2.2.2.2.2.1) + 1), .int ((sLo S j).2.2.2.2.2.2.2.2)] rfl (va_up (cont cy ad S J) (48 + 2 * j) (some (.inr (3, [.int ((sLo S j).1), .ref (ad (49 + 2 * j)), .int ((sLo S j).2.1), .int (-1), .int (ohF S j q), .int ((sLo S j).2.2.2.2.1), .int ((sLo S j).2.2.2.2.2.1), .int ((sLo S j).2.2.2.2.2.2.1), .int (((sLo S j).2.2.2.2.2.2.2.1) + 1), .int ((sLo S j).2.2.2.2.2.2.2.2)])))) rup_up d_G_work_86 ?_
            refine r_aload_n X 2 d_G_work_89 rfl rfl ?_
            refine r_dup X d_G_work_90 rfl ?_
            refine r_get X k_Lor 5 (by decide) f_G_308 rfl rup_self rfl d_G_work_91 ?_
            refine r_iconst X 1 d_G_work_94 (by decide) ?_
            refine r_iadd X d_G_work_95 ?_
            refine r_put X k_Lor 5 (by decide) f_G_308 rfl rup_self rfl rfl rfl (Nat.le_of_ble_eq_true rfl) [.int ((sLo S j).1), .ref (ad (49 + 2 * j)), .int ((sLo S j).2.1), .int (-1), .int (ohF S j q), .int (((sLo S j).2.2.2.2.1) + 1), .int ((sLo S j).2.2.2.2.2.1), .int ((sLo S j).2.2.2.2.2.2.1), .int (((sLo S j).2.2.2.2.2.2.2.1) + 1), .int ((sLo S j).2.2.2.2.2.2.2.2)] rfl (va_up (cont cy ad S J) (48 + 2 * j) (some (.inr (3, [.int ((sLo S j).1), .ref (ad (49 + 2 * j)), .int ((sLo S j).2.1), .int (-1), .int (ohF S j q), .int (((sLo S j).2.2.2.2.1) + 1), .int ((sLo S j).2.2.2.2.2.1), .int ((sLo S j).2.2.2.2.2.2.1), .int (((sLo S j).2.2.2.2.2.2.2.1) + 1), .int ((sLo S j).2.2.2.2.2.2.2.2)])))) rup_up d_G_work_96 ?_
            refine r_aload_n X 2 d_G_work_99 rfl rfl ?_
            refine r_get X k_Lor 5 (by decide) f_G_308 rfl rup_self rfl d_G_work_100 ?_
            refine r_aload_n X 0 d_G_work_103 rfl rfl ?_
            refine r_get X k_Road 2 (by decide) f_G_311 rfl (rup_ne (by omega) ((ct_road hS.1 hq))) rfl d_G_work_104 ?_
            refine r_icmp_lt X 120 d_G_work_107 (by decide) (fun h_107 => ?_) (fun h_107 => ?_)
            · refine r_c (cont cy ad (setLo S j (loP (sLo S j) (-1) (ohF S j q))) J) (cu_lo (x := loP (sLo S j) (-1) (ohF S j q)) h3 hj) ?_
              exact r_vret (post := fun ad' c' => ad = ad' ∧ cont cy ad (workF S j t) J = c') X hr hlk d_G_work_120 (by decide) (by decide) ⟨rfl, congrArg (fun T9 => cont cy ad T9 J) ((if_neg h_4).trans ((if_pos h_13).trans ((congrArg (workQ S j t) hqd.symm).trans ((if_pos hq9).trans (((if_neg hn).trans (if_neg h_56)).trans (if_pos h_107))))) : workF S j t = setLo S j (loP (sLo S j) (-1) (ohF S j q)))⟩
            · refine r_aload_n X 2 d_G_work_110 rfl rfl ?_
              refine r_Vv X W0_good hN (c_Lor_arrive l D cy ad (va_up (cont cy ad S J) (48 + 2 * j) (some (.inr (3, [.int ((sLo S j).1), .ref (ad (49 + 2 * j)), .int ((sLo S j).2.1), .int (-1), .int (ohF S j q), .int (((sLo S j).2.2.2.2.1) + 1), .int ((sLo S j).2.2.2.2.2.1), .int ((sLo S j).2.2.2.2.2.2.1), .int (((sLo S j).2.2.2.2.2.2.2.1) + 1), .int ((sLo S j).2.2.2.2.2.2.2.2)])))) (48 + 2 * j) (49 + 2 * j) (by omega) ((sLo S j).1) ((sLo S j).2.1) (-1) (ohF S j q) (((sLo S j).2.2.2.2.1) + 1) ((sLo S j).2.2.2.2.2.1) ((sLo S j).2.2.2.2.2.2.1) (((sLo S j).2.2.2.2.2.2.2.1) + 1) ((sLo S j).2.2.2.2.2.2.2.2) (sOd S j) rup_self (rup_ne (by omega) ((ct_od hS.2.1 hj)))) yv_Lor_arrive m_G_314 rup_self k_Lor.2.1 rfl rfl rfl ⟨by decide, by decide⟩ (Nat.le_of_ble_eq_true rfl) ⟨by decide, by decide⟩ d_G_work_111 (fun ad9 c9 hp9 => ?_)
              obtain ⟨rfl, rfl⟩ := hp9
              refine r_c (va_up (va_up (cont cy ad S J) (48 + 2 * j) (some (.inr (3, [.int ((sLo S j).1), .ref (ad (49 + 2 * j)), .int (mx 0 (((sLo S j).2.1) - 1)), .int (ohF S j q), .int (ohF S j q), .int 0, .int ((sLo S j).2.2.2.2.2.1), .int ((sLo S j).2.2.2.2.2.2.1), .int (((sLo S j).2.2.2.2.2.2.2.1) + 1), .int ((sLo S j).2.2.2.2.2.2.2.2)])))) (49 + 2 * j) (some (.inl (cy 0, 8, .inl (shF (sOd S j) 8))))) (congrArg (fun q9 => va_up q9 (49 + 2 * j) (some (.inl (cy 0, 8, .inl (shF (sOd S j) 8))))) rup_up) ?_
              refine r_aload_n X 1 d_G_work_114 rfl rfl ?_
              refine r_aload_n X 0 d_G_work_115 rfl rfl ?_
              refine r_aload_n X 2 d_G_work_116 rfl rfl ?_
              refine r_c (cont cy ad (setOd (setLo S j (loA (sLo S j) (ohF S j q))) j (shF (sOd S j) 8)) J) (cu_loOd (x := loA (sLo S j) (ohF S j q)) h3 hj) ?_
              refine r_Vv X W0_good hN (c_G_treat l D cy ad (setOd (setLo S j (loA (sLo S j) (ohF S j q))) j (shF (sOd S j) 8)) J h8 h3 q j t hq hj ht hnow) yv_G_treat m_G_317 (ct_lo (by decide)) k_G.2.1 rfl rfl rfl ⟨by decide, by decide⟩ (Nat.le_of_ble_eq_true rfl) ⟨by decide, by decide⟩ d_G_work_117 (fun ad9 c9 hp9 => ?_)
              obtain ⟨rfl, rfl⟩ := hp9
              exact r_vret (post := fun ad' c' => ad = ad' ∧ cont cy ad (workF S j t) J = c') X hr hlk d_G_work_120 (by decide) (by decide) ⟨rfl, congrArg (fun T9 => cont cy ad T9 J) ((if_neg h_4).trans ((if_pos h_13).trans ((congrArg (workQ S j t) hqd.symm).trans ((if_pos hq9).trans (((if_neg hn).trans (if_neg h_56)).trans (if_neg h_107))))) : workF S j t = treatF (setOd (setLo S j (loA (sLo S j) (ohF S j q))) j (shF (sOd S j) 8)) q j t)⟩
          · refine r_aload_n X 2 d_G_work_59 rfl rfl ?_
            refine r_Vv X W0_good hN (c_Lor_dropFirstOrder l D cy ad (va_up (cont cy ad S J) (48 + 2 * j) (some (.inr (3, [.int ((sLo S j).1), .ref (ad (49 + 2 * j)), .int ((sLo S j).2.1), .int ((sLo S j).2.2.1), .int ((sLo S j).2.2.2.1), .int ((sLo S j).2.2.2.2.1), .int ((sLo S j).2.2.2.2.2.1), .int ((sLo S j).2.2.2.2.2.2.1), .int (((sLo S j).2.2.2.2.2.2.2.1) + 1), .int ((sLo S j).2.2.2.2.2.2.2.2)])))) (48 + 2 * j) (49 + 2 * j) (by omega) ((sLo S j).1) ((sLo S j).2.1) ((sLo S j).2.2.1) ((sLo S j).2.2.2.1) ((sLo S j).2.2.2.2.1) ((sLo S j).2.2.2.2.2.1) ((sLo S j).2.2.2.2.2.2.1) (((sLo S j).2.2.2.2.2.2.2.1) + 1) ((sLo S j).2.2.2.2.2.2.2.2) (sOd S j) rup_self (rup_ne (by omega) ((ct_od hS.2.1 hj)))) yv_Lor_dropFirstOrder m_G_299 rup_self k_Lor.2.1 rfl rfl rfl ⟨by decide, by decide⟩ (Nat.le_of_ble_eq_true rfl) ⟨by decide, by decide⟩ d_G_work_60 (fun ad9 c9 hp9 => ?_)
            obtain ⟨rfl, rfl⟩ := hp9
            refine r_c (va_up (va_up (cont cy ad S J) (48 + 2 * j) (some (.inr (3, [.int ((sLo S j).1), .ref (ad (49 + 2 * j)), .int (mx 0 (((sLo S j).2.1) - 1)), .int ((sLo S j).2.2.1), .int ((sLo S j).2.2.2.1), .int ((sLo S j).2.2.2.2.1), .int ((sLo S j).2.2.2.2.2.1), .int ((sLo S j).2.2.2.2.2.2.1), .int (((sLo S j).2.2.2.2.2.2.2.1) + 1), .int ((sLo S j).2.2.2.2.2.2.2.2)])))) (49 + 2 * j) (some (.inl (cy 0, 8, .inl (shF (sOd S j) 8))))) (rup_in (by omega) rup_up rfl) ?_
            refine r_c (cont cy ad (setOd (setLo S j (loD (sLo S j))) j (shF (sOd S j) 8)) J) (cu_loOd (x := loD (sLo S j)) h3 hj) ?_
            exact r_vret (post := fun ad' c' => ad = ad' ∧ cont cy ad (workF S j t) J = c') X hr hlk d_G_work_63 (by decide) (by decide) ⟨rfl, congrArg (fun T9 => cont cy ad T9 J) ((if_neg h_4).trans ((if_pos h_13).trans ((congrArg (workQ S j t) hqd.symm).trans ((if_pos hq9).trans ((if_neg hn).trans (if_pos h_56))))) : workF S j t = setOd (setLo S j (loD (sLo S j))) j (shF (sOd S j) 8))⟩
      · refine r_Vq X W0_good hN (c_G_roadAt_n l D cy ad (setLo S j (loH (sLo S j))) J hW1 (foF (sLo S j).2.1 (sOd S j)) (no_road hS.1 (by rw [← hqd]; exact hq9))) yv_G_roadAt m_G_174 (ct_lo (by decide)) k_G.2.1 rfl rfl rfl ⟨by decide, by decide⟩ (Nat.le_of_ble_eq_true rfl) ⟨by decide, by decide⟩ d_G_work_32 (fun r9 ad9 c9 hp9 => ?_)
        obtain ⟨rfl, rfl, rfl⟩ := hp9
        refine r_c (va_up (cont cy ad S J) (48 + 2 * j) (some (.inr (3, [.int ((sLo S j).1), .ref (ad (49 + 2 * j)), .int ((sLo S j).2.1), .int ((sLo S j).2.2.1), .int ((sLo S j).2.2.2.1), .int ((sLo S j).2.2.2.2.1), .int ((sLo S j).2.2.2.2.2.1), .int ((sLo S j).2.2.2.2.2.2.1), .int (((sLo S j).2.2.2.2.2.2.2.1) + 1), .int ((sLo S j).2.2.2.2.2.2.2.2)])))) (cu_lo (x := loH (sLo S j)) h3 hj).symm ?_
        refine r_astore_nN X [(2, .null), (0, .ref (ad 0)), (1, .ref (ad (48 + 2 * j)))] d_G_work_35 rfl (by decide) rfl ?_
        refine r_aload_nN X 0 d_G_work_36 rfl rfl ?_
        refine r_ifnullN X 59 d_G_work_37 (by decide) ?_
        refine r_aload_n X 2 d_G_work_59 rfl rfl ?_
        refine r_Vv X W0_good hN (c_Lor_dropFirstOrder l D cy ad (va_up (cont cy ad S J) (48 + 2 * j) (some (.inr (3, [.int ((sLo S j).1), .ref (ad (49 + 2 * j)), .int ((sLo S j).2.1), .int ((sLo S j).2.2.1), .int ((sLo S j).2.2.2.1), .int ((sLo S j).2.2.2.2.1), .int ((sLo S j).2.2.2.2.2.1), .int ((sLo S j).2.2.2.2.2.2.1), .int (((sLo S j).2.2.2.2.2.2.2.1) + 1), .int ((sLo S j).2.2.2.2.2.2.2.2)])))) (48 + 2 * j) (49 + 2 * j) (by omega) ((sLo S j).1) ((sLo S j).2.1) ((sLo S j).2.2.1) ((sLo S j).2.2.2.1) ((sLo S j).2.2.2.2.1) ((sLo S j).2.2.2.2.2.1) ((sLo S j).2.2.2.2.2.2.1) (((sLo S j).2.2.2.2.2.2.2.1) + 1) ((sLo S j).2.2.2.2.2.2.2.2) (sOd S j) rup_self (rup_ne (by omega) ((ct_od hS.2.1 hj)))) yv_Lor_dropFirstOrder m_G_299 rup_self k_Lor.2.1 rfl rfl rfl ⟨by decide, by decide⟩ (Nat.le_of_ble_eq_true rfl) ⟨by decide, by decide⟩ d_G_work_60 (fun ad9 c9 hp9 => ?_)
        obtain ⟨rfl, rfl⟩ := hp9
        refine r_c (va_up (va_up (cont cy ad S J) (48 + 2 * j) (some (.inr (3, [.int ((sLo S j).1), .ref (ad (49 + 2 * j)), .int (mx 0 (((sLo S j).2.1) - 1)), .int ((sLo S j).2.2.1), .int ((sLo S j).2.2.2.1), .int ((sLo S j).2.2.2.2.1), .int ((sLo S j).2.2.2.2.2.1), .int ((sLo S j).2.2.2.2.2.2.1), .int (((sLo S j).2.2.2.2.2.2.2.1) + 1), .int ((sLo S j).2.2.2.2.2.2.2.2)])))) (49 + 2 * j) (some (.inl (cy 0, 8, .inl (shF (sOd S j) 8))))) (rup_in (by omega) rup_up rfl) ?_
        refine r_c (cont cy ad (setOd (setLo S j (loD (sLo S j))) j (shF (sOd S j) 8)) J) (cu_loOd (x := loD (sLo S j)) h3 hj) ?_
        exact r_vret (post := fun ad' c' => ad = ad' ∧ cont cy ad (workF S j t) J = c') X hr hlk d_G_work_63 (by decide) (by decide) ⟨rfl, congrArg (fun T9 => cont cy ad T9 J) ((if_neg h_4).trans ((if_pos h_13).trans ((congrArg (workQ S j t) hqd.symm).trans (if_neg hq9))) : workF S j t = setOd (setLo S j (loD (sLo S j))) j (shF (sOd S j) 8))⟩
    · exact r_vret (post := fun ad' c' => ad = ad' ∧ cont cy ad (workF S j t) J = c') X hr hlk d_G_work_16 (by decide) (by decide) ⟨rfl, congrArg (fun T9 => cont cy ad T9 J) ((if_neg h_4).trans (if_neg h_13) : workF S j t = S)⟩
