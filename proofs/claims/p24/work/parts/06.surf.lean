/-! what a quarter does to a surface, as numbers -/
def mn (x z : Int32) : Int32 := if z < x then z else x
def mx (x z : Int32) : Int32 := if x < z then z else x
/-- the point below which it freezes -/
def pointF (w ic sn sa : Int32) : Int32 :=
  let d := if 0 < w + ic + sn then 6 * sa / (w + ic + sn) else 0
  if d ≤ 21 then -d else -21
def nearF (wa g k : Int32) : Int32 := if g ≤ wa then mx g (wa - k) else mn g (wa + k)
def slipF (ic sn : Int32) : Int32 := if 2 ≤ ic then 1 else if sn < 3 then 0 else 1
/-- water, ice and snow behind freezing or thawing -/
def frzF (wa w ic sn sa : Int32) : Int32 × Int32 × Int32 :=
  if pointF w ic sn sa ≤ wa then
    (w + (mn ic (1 + sa / 4) + mn sn (1 + sa / 4 - mn ic (1 + sa / 4))), ic - mn ic (1 + sa / 4), sn - mn sn (1 + sa / 4 - mn ic (1 + sa / 4)))
  else (w - mn 2 w, ic + mn 2 w, sn)
/-- water, salt, river and run-off behind running off -/
def runF (w sa ri ro : Int32) : Int32 × Int32 × Int32 × Int32 :=
  if 8 < w then (8, sa - (w - 8) * sa / w, ri + (w - 8) * sa / w, ro + (w - 8)) else (w, sa, ri, ro)
set_option maxRecDepth 100000 in
set_option maxHeartbeats 4000000 in
/-- Surf_point -/
theorem c_Surf_point (l : Launch) (D : va_G) (cy : Nat → ClassId) (ad : Nat → Nat) (c : rC) (n : Nat) (wa w ic sn sa ri fi ro : Int32) (hc : c n = some (.inr (0, [.int wa, .int w, .int ic, .int sn, .int sa, .int ri, .int fi, .int ro]))) : rMi l D cls (TY cy) NW y_Surf_point (Cond.code y_Surf_point b_Surf_point 3 rt_Surf_point :: W0) { frames := 0, cells := 0, slots := 0, locals := 0 } [.ref (ad n)] ad c (fun r ad' c' => pointF w ic sn sa = r ∧ ad = ad' ∧ c = c') := by
  intro sz
  refine r_of (own := R_Surf) rfl (by decide +kernel) (Nat.le_of_ble_eq_true rfl) ?_
  intro p e s m below meth cd hsz X hr hlk hN hin
  refine r_lv [0] [(0, .ref (ad n))] rfl ?_
  refine r_aload_n X 0 d_Surf_point_0 rfl rfl ?_
  refine r_get X k_Surf 1 (by decide) f_Surf_15 rfl hc rfl d_Surf_point_1 ?_
  refine r_aload_n X 0 d_Surf_point_4 rfl rfl ?_
  refine r_get X k_Surf 2 (by decide) f_Surf_18 rfl hc rfl d_Surf_point_5 ?_
  refine r_iadd X d_Surf_point_8 ?_
  refine r_aload_n X 0 d_Surf_point_9 rfl rfl ?_
  refine r_get X k_Surf 3 (by decide) f_Surf_21 rfl hc rfl d_Surf_point_10 ?_
  refine r_iadd X d_Surf_point_13 ?_
  refine r_istore_n X [(1, .int ((w + ic) + sn)), (0, .ref (ad n))] d_Surf_point_14 rfl (by decide) rfl ?_
  refine r_iload_n X 0 d_Surf_point_15 rfl rfl ?_
  refine r_if_gt X 23 d_Surf_point_16 (by decide) (fun h_16 => ?_) (fun h_16 => ?_)
  · refine r_bipush X 6 d_Surf_point_23 (by decide) ?_
    refine r_aload_n X 1 d_Surf_point_25 rfl rfl ?_
    refine r_get X k_Surf 4 (by decide) f_Surf_24 rfl hc rfl d_Surf_point_26 ?_
    refine r_imul X d_Surf_point_29 ?_
    refine r_iload_n X 0 d_Surf_point_30 rfl rfl ?_
    refine r_idiv X d_Surf_point_31 (fun h9 => by rw [h9] at h_16; exact absurd h_16 (by decide)) ?_
    refine r_istore_n X [(2, .int ((6 * sa) / ((w + ic) + sn))), (1, .int ((w + ic) + sn)), (0, .ref (ad n))] d_Surf_point_32 rfl (by decide) rfl ?_
    refine r_iload_n X 0 d_Surf_point_33 rfl rfl ?_
    refine r_bipush X 21 d_Surf_point_34 (by decide) ?_
    refine r_icmp_le X 44 d_Surf_point_36 (by decide) (fun h_36 => ?_) (fun h_36 => ?_)
    · refine r_iload_n X 0 d_Surf_point_44 rfl rfl ?_
      refine r_ineg X d_Surf_point_45 ?_
      exact r_iret (post := fun r ad' c' => pointF w ic sn sa = r ∧ ad = ad' ∧ c = c') X hr hlk d_Surf_point_46 (by decide) (by decide) ⟨by (try simp only [pointF, if_pos h_16, if_pos h_36]); first | done | rfl | exact rup_id (by assumption), rfl, rfl⟩
    · refine r_bipush X (-21) d_Surf_point_39 (by decide) ?_
      refine r_goto X 46 d_Surf_point_41 (by decide) ?_
      exact r_iret (post := fun r ad' c' => pointF w ic sn sa = r ∧ ad = ad' ∧ c = c') X hr hlk d_Surf_point_46 (by decide) (by decide) ⟨by (try simp only [pointF, if_pos h_16, if_neg h_36]); first | done | rfl | exact rup_id (by assumption), rfl, rfl⟩
  · refine r_iconst X 0 d_Surf_point_19 (by decide) ?_
    refine r_goto X 32 d_Surf_point_20 (by decide) ?_
    refine r_istore_n X [(2, .int 0), (1, .int ((w + ic) + sn)), (0, .ref (ad n))] d_Surf_point_32 rfl (by decide) rfl ?_
    refine r_iload_n X 0 d_Surf_point_33 rfl rfl ?_
    refine r_bipush X 21 d_Surf_point_34 (by decide) ?_
    refine r_icmp_le X 44 d_Surf_point_36 (by decide) (fun h_36 => ?_) (fun h_36 => ?_)
    · refine r_iload_n X 0 d_Surf_point_44 rfl rfl ?_
      refine r_ineg X d_Surf_point_45 ?_
      exact r_iret (post := fun r ad' c' => pointF w ic sn sa = r ∧ ad = ad' ∧ c = c') X hr hlk d_Surf_point_46 (by decide) (by decide) ⟨by (try simp only [pointF, if_neg h_16, if_pos h_36]); first | done | rfl | exact rup_id (by assumption), rfl, rfl⟩
    · refine r_bipush X (-21) d_Surf_point_39 (by decide) ?_
      refine r_goto X 46 d_Surf_point_41 (by decide) ?_
      exact r_iret (post := fun r ad' c' => pointF w ic sn sa = r ∧ ad = ad' ∧ c = c') X hr hlk d_Surf_point_46 (by decide) (by decide) ⟨by (try simp only [pointF, if_neg h_16, if_neg h_36]); first | done | rfl | exact rup_id (by assumption), rfl, rfl⟩
set_option maxRecDepth 100000 in
set_option maxHeartbeats 4000000 in
/-- Surf_isSlippery -/
theorem c_Surf_isSlippery (l : Launch) (D : va_G) (cy : Nat → ClassId) (ad : Nat → Nat) (c : rC) (n : Nat) (wa w ic sn sa ri fi ro : Int32) (hc : c n = some (.inr (0, [.int wa, .int w, .int ic, .int sn, .int sa, .int ri, .int fi, .int ro]))) : rMi l D cls (TY cy) NW y_Surf_isSlippery (Cond.code y_Surf_isSlippery b_Surf_isSlippery 1 rt_Surf_isSlippery :: W0) { frames := 0, cells := 0, slots := 0, locals := 0 } [.ref (ad n)] ad c (fun r ad' c' => slipF ic sn = r ∧ ad = ad' ∧ c = c') := by
  intro sz
  refine r_of (own := R_Surf) rfl (by decide +kernel) (Nat.le_of_ble_eq_true rfl) ?_
  intro p e s m below meth cd hsz X hr hlk hN hin
  refine r_lv [0] [(0, .ref (ad n))] rfl ?_
  refine r_aload_n X 0 d_Surf_isSlippery_0 rfl rfl ?_
  refine r_get X k_Surf 2 (by decide) f_Surf_18 rfl hc rfl d_Surf_isSlippery_1 ?_
  refine r_iconst X 2 d_Surf_isSlippery_4 (by decide) ?_
  refine r_icmp_ge X 16 d_Surf_isSlippery_5 (by decide) (fun h_5 => ?_) (fun h_5 => ?_)
  · refine r_iconst X 1 d_Surf_isSlippery_16 (by decide) ?_
    refine r_goto X 21 d_Surf_isSlippery_17 (by decide) ?_
    exact r_zret (post := fun r ad' c' => slipF ic sn = r ∧ ad = ad' ∧ c = c') X hr hlk (by first | decide | (split <;> decide)) d_Surf_isSlippery_21 (by decide) (by decide) ⟨by (try simp only [slipF, if_pos h_5]); first | done | rfl | exact rup_id (by assumption), rfl, rfl⟩
  · refine r_aload_n X 0 d_Surf_isSlippery_8 rfl rfl ?_
    refine r_get X k_Surf 3 (by decide) f_Surf_21 rfl hc rfl d_Surf_isSlippery_9 ?_
    refine r_iconst X 3 d_Surf_isSlippery_12 (by decide) ?_
    refine r_cut (fun u9 : Int32 => u9 = (if sn < 3 then 0 else 1)) (fun _ => c) 21 (fun _ => [(0, .ref (ad n))]) (fun u9 => [.int u9]) (fun J9 => ?_) (fun t_1 ht_1 => ?_)
    · refine r_icmp_lt X 20 d_Surf_isSlippery_13 (by decide) (fun h9 => ?_) (fun h9 => ?_)
      · refine r_iconst X 0 d_Surf_isSlippery_20 (by decide) ?_
        exact J9 _ (if_pos h9).symm
      · refine r_iconst X 1 d_Surf_isSlippery_16 (by decide) ?_
        refine r_goto X 21 d_Surf_isSlippery_17 (by decide) ?_
        exact J9 _ (if_neg h9).symm
    subst ht_1
    exact r_zret (post := fun r ad' c' => slipF ic sn = r ∧ ad = ad' ∧ c = c') X hr hlk (by first | decide | (split <;> decide)) d_Surf_isSlippery_21 (by decide) (by decide) ⟨by (try simp only [slipF, if_neg h_5]); first | done | rfl | exact rup_id (by assumption), rfl, rfl⟩
set_option maxRecDepth 100000 in
set_option maxHeartbeats 4000000 in
/-- Surf_comeNearer -/
theorem c_Surf_comeNearer (l : Launch) (D : va_G) (cy : Nat → ClassId) (ad : Nat → Nat) (c : rC) (n : Nat) (wa w ic sn sa ri fi ro : Int32) (hc : c n = some (.inr (0, [.int wa, .int w, .int ic, .int sn, .int sa, .int ri, .int fi, .int ro]))) (g k : Int32) : rMv l D cls (TY cy) NW y_Surf_comeNearer (Cond.code y_Surf_comeNearer b_Surf_comeNearer 3 rt_Surf_comeNearer :: W0) { frames := 1, cells := 0, slots := 0, locals := 21 } [.ref (ad n), .int g, .int k] ad c (fun ad' c' => ad = ad' ∧ va_up c n (some (.inr (0, [.int (nearF wa g k), .int w, .int ic, .int sn, .int sa, .int ri, .int fi, .int ro]))) = c') := by
  intro sz
  refine r_of (own := R_Surf) rfl (by decide +kernel) (Nat.le_of_ble_eq_true rfl) ?_
  intro p e s m below meth cd hsz X hr hlk hN hin
  refine r_lv [0, 1, 2] [(0, .ref (ad n)), (1, .int g), (2, .int k)] rfl ?_
  refine r_aload_n X 0 d_Surf_comeNearer_0 rfl rfl ?_
  refine r_get X k_Surf 0 (by decide) f_Surf_9 rfl hc rfl d_Surf_comeNearer_1 ?_
  refine r_iload_n X 1 d_Surf_comeNearer_4 rfl rfl ?_
  refine r_icmp_ge X 25 d_Surf_comeNearer_5 (by decide) (fun h_5 => ?_) (fun h_5 => ?_)
  · refine r_aload_n X 0 d_Surf_comeNearer_25 rfl rfl ?_
    refine r_iload_n X 1 d_Surf_comeNearer_26 rfl rfl ?_
    refine r_aload_n X 0 d_Surf_comeNearer_27 rfl rfl ?_
    refine r_get X k_Surf 0 (by decide) f_Surf_9 rfl hc rfl d_Surf_comeNearer_28 ?_
    refine r_iload_n X 2 d_Surf_comeNearer_31 rfl rfl ?_
    refine r_isub X d_Surf_comeNearer_32 ?_
    refine r_max X m_Surf_33 s_max i_Math cd_max ⟨by decide, by decide, by decide, by decide⟩ (Nat.le_of_ble_eq_true rfl) d_Surf_comeNearer_33 ?_
    refine r_put X k_Surf 0 (by decide) f_Surf_9 rfl hc rfl rfl rfl (Nat.le_of_ble_eq_true rfl) [.int (if g < (wa - k) then wa - k else g), .int w, .int ic, .int sn, .int sa, .int ri, .int fi, .int ro] rfl (va_up c n (some (.inr (0, [.int (if g < (wa - k) then wa - k else g), .int w, .int ic, .int sn, .int sa, .int ri, .int fi, .int ro])))) rfl d_Surf_comeNearer_36 ?_
    exact r_vret (post := fun ad' c' => ad = ad' ∧ va_up c n (some (.inr (0, [.int (nearF wa g k), .int w, .int ic, .int sn, .int sa, .int ri, .int fi, .int ro]))) = c') X hr hlk d_Surf_comeNearer_39 (by decide) (by decide) ⟨rfl, by (try simp only [nearF, mn, mx, if_pos h_5]); first | done | rfl | exact rup_id (by assumption)⟩
  · refine r_aload_n X 0 d_Surf_comeNearer_8 rfl rfl ?_
    refine r_iload_n X 1 d_Surf_comeNearer_9 rfl rfl ?_
    refine r_aload_n X 0 d_Surf_comeNearer_10 rfl rfl ?_
    refine r_get X k_Surf 0 (by decide) f_Surf_9 rfl hc rfl d_Surf_comeNearer_11 ?_
    refine r_iload_n X 2 d_Surf_comeNearer_14 rfl rfl ?_
    refine r_iadd X d_Surf_comeNearer_15 ?_
    refine r_min X m_Surf_27 s_min i_Math cd_min ⟨by decide, by decide, by decide, by decide⟩ (Nat.le_of_ble_eq_true rfl) d_Surf_comeNearer_16 ?_
    refine r_put X k_Surf 0 (by decide) f_Surf_9 rfl hc rfl rfl rfl (Nat.le_of_ble_eq_true rfl) [.int (if (wa + k) < g then wa + k else g), .int w, .int ic, .int sn, .int sa, .int ri, .int fi, .int ro] rfl (va_up c n (some (.inr (0, [.int (if (wa + k) < g then wa + k else g), .int w, .int ic, .int sn, .int sa, .int ri, .int fi, .int ro])))) rfl d_Surf_comeNearer_19 ?_
    refine r_goto X 39 d_Surf_comeNearer_22 (by decide) ?_
    exact r_vret (post := fun ad' c' => ad = ad' ∧ va_up c n (some (.inr (0, [.int (nearF wa g k), .int w, .int ic, .int sn, .int sa, .int ri, .int fi, .int ro]))) = c') X hr hlk d_Surf_comeNearer_39 (by decide) (by decide) ⟨rfl, by (try simp only [nearF, mn, mx, if_neg h_5]); first | done | rfl | exact rup_id (by assumption)⟩
set_option maxRecDepth 100000 in
set_option maxHeartbeats 4000000 in
/-- Surf_freezeOrThaw -/
theorem c_Surf_freezeOrThaw (l : Launch) (D : va_G) (cy : Nat → ClassId) (ad : Nat → Nat) (c : rC) (n : Nat) (wa w ic sn sa ri fi ro : Int32) (hc : c n = some (.inr (0, [.int wa, .int w, .int ic, .int sn, .int sa, .int ri, .int fi, .int ro]))) : rMv l D cls (TY cy) NW y_Surf_freezeOrThaw (Cond.code y_Surf_freezeOrThaw b_Surf_freezeOrThaw 4 rt_Surf_freezeOrThaw :: W0) { frames := 1, cells := 0, slots := 0, locals := 22 } [.ref (ad n)] ad c (fun ad' c' => ad = ad' ∧ va_up c n (some (.inr (0, [.int wa, .int ((frzF wa w ic sn sa).1), .int ((frzF wa w ic sn sa).2.1), .int ((frzF wa w ic sn sa).2.2), .int sa, .int ri, .int fi, .int ro]))) = c') := by
  intro sz
  refine r_of (own := R_Surf) rfl (by decide +kernel) (Nat.le_of_ble_eq_true rfl) ?_
  intro p e s m below meth cd hsz X hr hlk hN hin
  refine r_lv [0] [(0, .ref (ad n))] rfl ?_
  refine r_aload_n X 0 d_Surf_freezeOrThaw_0 rfl rfl ?_
  refine r_get X k_Surf 0 (by decide) f_Surf_9 rfl hc rfl d_Surf_freezeOrThaw_1 ?_
  refine r_aload_n X 0 d_Surf_freezeOrThaw_4 rfl rfl ?_
  refine r_Vi X W0_good hN (c_Surf_point l D cy ad (c) n wa w ic sn sa ri fi ro hc) yv_Surf_point m_Surf_36 hc k_Surf.2.1 rfl rfl rfl ⟨by decide, by decide⟩ (Nat.le_of_ble_eq_true rfl) ⟨by decide, by decide⟩ d_Surf_freezeOrThaw_5 (fun r9 ad9 c9 hp9 => ?_)
  obtain ⟨rfl, rfl, rfl⟩ := hp9
  refine r_icmp_ge X 41 d_Surf_freezeOrThaw_8 (by decide) (fun h_8 => ?_) (fun h_8 => ?_)
  · refine r_iconst X 1 d_Surf_freezeOrThaw_41 (by decide) ?_
    refine r_aload_n X 0 d_Surf_freezeOrThaw_42 rfl rfl ?_
    refine r_get X k_Surf 4 (by decide) f_Surf_24 rfl hc rfl d_Surf_freezeOrThaw_43 ?_
    refine r_iconst X 4 d_Surf_freezeOrThaw_46 (by decide) ?_
    refine r_idiv X d_Surf_freezeOrThaw_47 (by decide) ?_
    refine r_iadd X d_Surf_freezeOrThaw_48 ?_
    refine r_topi (fun v_1 ev_1 => ?_)
    refine r_istore_n X [(1, .int v_1), (0, .ref (ad n))] d_Surf_freezeOrThaw_49 rfl (by decide) rfl ?_
    refine r_aload_n X 1 d_Surf_freezeOrThaw_50 rfl rfl ?_
    refine r_get X k_Surf 2 (by decide) f_Surf_18 rfl hc rfl d_Surf_freezeOrThaw_51 ?_
    refine r_iload_n X 0 d_Surf_freezeOrThaw_54 rfl rfl ?_
    refine r_min X m_Surf_27 s_min i_Math cd_min ⟨by decide, by decide, by decide, by decide⟩ (Nat.le_of_ble_eq_true rfl) d_Surf_freezeOrThaw_55 ?_
    refine r_topi (fun v_2 ev_2 => ?_)
    refine r_istore_n X [(2, .int v_2), (1, .int v_1), (0, .ref (ad n))] d_Surf_freezeOrThaw_58 rfl (by decide) rfl ?_
    refine r_aload_n X 2 d_Surf_freezeOrThaw_59 rfl rfl ?_
    refine r_get X k_Surf 3 (by decide) f_Surf_21 rfl hc rfl d_Surf_freezeOrThaw_60 ?_
    refine r_iload_n X 1 d_Surf_freezeOrThaw_63 rfl rfl ?_
    refine r_iload_n X 0 d_Surf_freezeOrThaw_64 rfl rfl ?_
    refine r_isub X d_Surf_freezeOrThaw_65 ?_
    refine r_min X m_Surf_27 s_min i_Math cd_min ⟨by decide, by decide, by decide, by decide⟩ (Nat.le_of_ble_eq_true rfl) d_Surf_freezeOrThaw_66 ?_
    refine r_topi (fun v_3 ev_3 => ?_)
    refine r_istore_n X [(3, .int v_3), (2, .int v_2), (1, .int v_1), (0, .ref (ad n))] d_Surf_freezeOrThaw_69 rfl (by decide) rfl ?_
    refine r_aload_n X 3 d_Surf_freezeOrThaw_70 rfl rfl ?_
    refine r_dup X d_Surf_freezeOrThaw_71 rfl ?_
    refine r_get X k_Surf 2 (by decide) f_Surf_18 rfl hc rfl d_Surf_freezeOrThaw_72 ?_
    refine r_iload_n X 1 d_Surf_freezeOrThaw_75 rfl rfl ?_
    refine r_isub X d_Surf_freezeOrThaw_76 ?_
    refine r_put X k_Surf 2 (by decide) f_Surf_18 rfl hc rfl rfl rfl (Nat.le_of_ble_eq_true rfl) [.int wa, .int w, .int (ic - v_2), .int sn, .int sa, .int ri, .int fi, .int ro] rfl (va_up c n (some (.inr (0, [.int wa, .int w, .int (ic - v_2), .int sn, .int sa, .int ri, .int fi, .int ro])))) rfl d_Surf_freezeOrThaw_77 ?_
    refine r_aload_n X 3 d_Surf_freezeOrThaw_80 rfl rfl ?_
    refine r_dup X d_Surf_freezeOrThaw_81 rfl ?_
    refine r_get X k_Surf 3 (by decide) f_Surf_21 rfl rup_self rfl d_Surf_freezeOrThaw_82 ?_
    refine r_iload_n X 0 d_Surf_freezeOrThaw_85 rfl rfl ?_
    refine r_isub X d_Surf_freezeOrThaw_86 ?_
    refine r_put X k_Surf 3 (by decide) f_Surf_21 rfl rup_self rfl rfl rfl (Nat.le_of_ble_eq_true rfl) [.int wa, .int w, .int (ic - v_2), .int (sn - v_3), .int sa, .int ri, .int fi, .int ro] rfl (va_up c n (some (.inr (0, [.int wa, .int w, .int (ic - v_2), .int (sn - v_3), .int sa, .int ri, .int fi, .int ro])))) rup_up d_Surf_freezeOrThaw_87 ?_
    refine r_aload_n X 3 d_Surf_freezeOrThaw_90 rfl rfl ?_
    refine r_dup X d_Surf_freezeOrThaw_91 rfl ?_
    refine r_get X k_Surf 1 (by decide) f_Surf_15 rfl rup_self rfl d_Surf_freezeOrThaw_92 ?_
    refine r_iload_n X 1 d_Surf_freezeOrThaw_95 rfl rfl ?_
    refine r_iload_n X 0 d_Surf_freezeOrThaw_96 rfl rfl ?_
    refine r_iadd X d_Surf_freezeOrThaw_97 ?_
    refine r_iadd X d_Surf_freezeOrThaw_98 ?_
    refine r_put X k_Surf 1 (by decide) f_Surf_15 rfl rup_self rfl rfl rfl (Nat.le_of_ble_eq_true rfl) [.int wa, .int (w + (v_2 + v_3)), .int (ic - v_2), .int (sn - v_3), .int sa, .int ri, .int fi, .int ro] rfl (va_up c n (some (.inr (0, [.int wa, .int (w + (v_2 + v_3)), .int (ic - v_2), .int (sn - v_3), .int sa, .int ri, .int fi, .int ro])))) rup_up d_Surf_freezeOrThaw_99 ?_
    exact r_vret (post := fun ad' c' => ad = ad' ∧ va_up c n (some (.inr (0, [.int wa, .int ((frzF wa w ic sn sa).1), .int ((frzF wa w ic sn sa).2.1), .int ((frzF wa w ic sn sa).2.2), .int sa, .int ri, .int fi, .int ro]))) = c') X hr hlk d_Surf_freezeOrThaw_102 (by decide) (by decide) ⟨rfl, by subst ev_1; subst ev_2; subst ev_3; (try simp only [frzF, mn, if_pos h_8]); first | done | rfl | exact rup_id (by assumption)⟩
  · refine r_iconst X 2 d_Surf_freezeOrThaw_11 (by decide) ?_
    refine r_aload_n X 0 d_Surf_freezeOrThaw_12 rfl rfl ?_
    refine r_get X k_Surf 1 (by decide) f_Surf_15 rfl hc rfl d_Surf_freezeOrThaw_13 ?_
    refine r_min X m_Surf_27 s_min i_Math cd_min ⟨by decide, by decide, by decide, by decide⟩ (Nat.le_of_ble_eq_true rfl) d_Surf_freezeOrThaw_16 ?_
    refine r_topi (fun v_4 ev_4 => ?_)
    refine r_istore_n X [(1, .int v_4), (0, .ref (ad n))] d_Surf_freezeOrThaw_19 rfl (by decide) rfl ?_
    refine r_aload_n X 1 d_Surf_freezeOrThaw_20 rfl rfl ?_
    refine r_dup X d_Surf_freezeOrThaw_21 rfl ?_
    refine r_get X k_Surf 1 (by decide) f_Surf_15 rfl hc rfl d_Surf_freezeOrThaw_22 ?_
    refine r_iload_n X 0 d_Surf_freezeOrThaw_25 rfl rfl ?_
    refine r_isub X d_Surf_freezeOrThaw_26 ?_
    refine r_put X k_Surf 1 (by decide) f_Surf_15 rfl hc rfl rfl rfl (Nat.le_of_ble_eq_true rfl) [.int wa, .int (w - v_4), .int ic, .int sn, .int sa, .int ri, .int fi, .int ro] rfl (va_up c n (some (.inr (0, [.int wa, .int (w - v_4), .int ic, .int sn, .int sa, .int ri, .int fi, .int ro])))) rfl d_Surf_freezeOrThaw_27 ?_
    refine r_aload_n X 1 d_Surf_freezeOrThaw_30 rfl rfl ?_
    refine r_dup X d_Surf_freezeOrThaw_31 rfl ?_
    refine r_get X k_Surf 2 (by decide) f_Surf_18 rfl rup_self rfl d_Surf_freezeOrThaw_32 ?_
    refine r_iload_n X 0 d_Surf_freezeOrThaw_35 rfl rfl ?_
    refine r_iadd X d_Surf_freezeOrThaw_36 ?_
    refine r_put X k_Surf 2 (by decide) f_Surf_18 rfl rup_self rfl rfl rfl (Nat.le_of_ble_eq_true rfl) [.int wa, .int (w - v_4), .int (ic + v_4), .int sn, .int sa, .int ri, .int fi, .int ro] rfl (va_up c n (some (.inr (0, [.int wa, .int (w - v_4), .int (ic + v_4), .int sn, .int sa, .int ri, .int fi, .int ro])))) rup_up d_Surf_freezeOrThaw_37 ?_
    exact r_vret (post := fun ad' c' => ad = ad' ∧ va_up c n (some (.inr (0, [.int wa, .int ((frzF wa w ic sn sa).1), .int ((frzF wa w ic sn sa).2.1), .int ((frzF wa w ic sn sa).2.2), .int sa, .int ri, .int fi, .int ro]))) = c') X hr hlk d_Surf_freezeOrThaw_40 (by decide) (by decide) ⟨rfl, by subst ev_4; (try simp only [frzF, mn, if_neg h_8]); first | done | rfl | exact rup_id (by assumption)⟩
set_option maxRecDepth 100000 in
set_option maxHeartbeats 4000000 in
/-- Surf_runOff -/
theorem c_Surf_runOff (l : Launch) (D : va_G) (cy : Nat → ClassId) (ad : Nat → Nat) (c : rC) (n : Nat) (wa w ic sn sa ri fi ro : Int32) (hc : c n = some (.inr (0, [.int wa, .int w, .int ic, .int sn, .int sa, .int ri, .int fi, .int ro]))) : rMv l D cls (TY cy) NW y_Surf_runOff (Cond.code y_Surf_runOff b_Surf_runOff 3 rt_Surf_runOff :: W0) { frames := 0, cells := 0, slots := 0, locals := 0 } [.ref (ad n)] ad c (fun ad' c' => ad = ad' ∧ va_up c n (some (.inr (0, [.int wa, .int ((runF w sa ri ro).1), .int ic, .int sn, .int ((runF w sa ri ro).2.1), .int ((runF w sa ri ro).2.2.1), .int fi, .int ((runF w sa ri ro).2.2.2)]))) = c') := by
  intro sz
  refine r_of (own := R_Surf) rfl (by decide +kernel) (Nat.le_of_ble_eq_true rfl) ?_
  intro p e s m below meth cd hsz X hr hlk hN hin
  refine r_lv [0] [(0, .ref (ad n))] rfl ?_
  refine r_aload_n X 0 d_Surf_runOff_0 rfl rfl ?_
  refine r_get X k_Surf 1 (by decide) f_Surf_15 rfl hc rfl d_Surf_runOff_1 ?_
  refine r_bipush X 8 d_Surf_runOff_4 (by decide) ?_
  refine r_icmp_gt X 10 d_Surf_runOff_6 (by decide) (fun h_6 => ?_) (fun h_6 => ?_)
  · refine r_aload_n X 0 d_Surf_runOff_10 rfl rfl ?_
    refine r_get X k_Surf 1 (by decide) f_Surf_15 rfl hc rfl d_Surf_runOff_11 ?_
    refine r_bipush X 8 d_Surf_runOff_14 (by decide) ?_
    refine r_isub X d_Surf_runOff_16 ?_
    refine r_topi (fun v_1 ev_1 => ?_)
    refine r_istore_n X [(1, .int v_1), (0, .ref (ad n))] d_Surf_runOff_17 rfl (by decide) rfl ?_
    refine r_iload_n X 0 d_Surf_runOff_18 rfl rfl ?_
    refine r_aload_n X 1 d_Surf_runOff_19 rfl rfl ?_
    refine r_get X k_Surf 4 (by decide) f_Surf_24 rfl hc rfl d_Surf_runOff_20 ?_
    refine r_imul X d_Surf_runOff_23 ?_
    refine r_aload_n X 1 d_Surf_runOff_24 rfl rfl ?_
    refine r_get X k_Surf 1 (by decide) f_Surf_15 rfl hc rfl d_Surf_runOff_25 ?_
    refine r_idiv X d_Surf_runOff_28 (fun h9 => by rw [h9] at h_6; exact absurd h_6 (by decide)) ?_
    refine r_topi (fun v_2 ev_2 => ?_)
    refine r_istore_n X [(2, .int v_2), (1, .int v_1), (0, .ref (ad n))] d_Surf_runOff_29 rfl (by decide) rfl ?_
    refine r_aload_n X 2 d_Surf_runOff_30 rfl rfl ?_
    refine r_bipush X 8 d_Surf_runOff_31 (by decide) ?_
    refine r_put X k_Surf 1 (by decide) f_Surf_15 rfl hc rfl rfl rfl (Nat.le_of_ble_eq_true rfl) [.int wa, .int 8, .int ic, .int sn, .int sa, .int ri, .int fi, .int ro] rfl (va_up c n (some (.inr (0, [.int wa, .int 8, .int ic, .int sn, .int sa, .int ri, .int fi, .int ro])))) rfl d_Surf_runOff_33 ?_
    refine r_aload_n X 2 d_Surf_runOff_36 rfl rfl ?_
    refine r_dup X d_Surf_runOff_37 rfl ?_
    refine r_get X k_Surf 7 (by decide) f_Surf_40 rfl rup_self rfl d_Surf_runOff_38 ?_
    refine r_iload_n X 1 d_Surf_runOff_41 rfl rfl ?_
    refine r_iadd X d_Surf_runOff_42 ?_
    refine r_put X k_Surf 7 (by decide) f_Surf_40 rfl rup_self rfl rfl rfl (Nat.le_of_ble_eq_true rfl) [.int wa, .int 8, .int ic, .int sn, .int sa, .int ri, .int fi, .int (ro + v_1)] rfl (va_up c n (some (.inr (0, [.int wa, .int 8, .int ic, .int sn, .int sa, .int ri, .int fi, .int (ro + v_1)])))) rup_up d_Surf_runOff_43 ?_
    refine r_aload_n X 2 d_Surf_runOff_46 rfl rfl ?_
    refine r_dup X d_Surf_runOff_47 rfl ?_
    refine r_get X k_Surf 4 (by decide) f_Surf_24 rfl rup_self rfl d_Surf_runOff_48 ?_
    refine r_iload_n X 0 d_Surf_runOff_51 rfl rfl ?_
    refine r_isub X d_Surf_runOff_52 ?_
    refine r_put X k_Surf 4 (by decide) f_Surf_24 rfl rup_self rfl rfl rfl (Nat.le_of_ble_eq_true rfl) [.int wa, .int 8, .int ic, .int sn, .int (sa - v_2), .int ri, .int fi, .int (ro + v_1)] rfl (va_up c n (some (.inr (0, [.int wa, .int 8, .int ic, .int sn, .int (sa - v_2), .int ri, .int fi, .int (ro + v_1)])))) rup_up d_Surf_runOff_53 ?_
    refine r_aload_n X 2 d_Surf_runOff_56 rfl rfl ?_
    refine r_dup X d_Surf_runOff_57 rfl ?_
    refine r_get X k_Surf 5 (by decide) f_Surf_43 rfl rup_self rfl d_Surf_runOff_58 ?_
    refine r_iload_n X 0 d_Surf_runOff_61 rfl rfl ?_
    refine r_iadd X d_Surf_runOff_62 ?_
    refine r_put X k_Surf 5 (by decide) f_Surf_43 rfl rup_self rfl rfl rfl (Nat.le_of_ble_eq_true rfl) [.int wa, .int 8, .int ic, .int sn, .int (sa - v_2), .int (ri + v_2), .int fi, .int (ro + v_1)] rfl (va_up c n (some (.inr (0, [.int wa, .int 8, .int ic, .int sn, .int (sa - v_2), .int (ri + v_2), .int fi, .int (ro + v_1)])))) rup_up d_Surf_runOff_63 ?_
    exact r_vret (post := fun ad' c' => ad = ad' ∧ va_up c n (some (.inr (0, [.int wa, .int ((runF w sa ri ro).1), .int ic, .int sn, .int ((runF w sa ri ro).2.1), .int ((runF w sa ri ro).2.2.1), .int fi, .int ((runF w sa ri ro).2.2.2)]))) = c') X hr hlk d_Surf_runOff_66 (by decide) (by decide) ⟨rfl, by subst ev_1; subst ev_2; (try simp only [runF, if_pos h_6]); first | done | rfl | exact rup_id (by assumption)⟩
  · exact r_vret (post := fun ad' c' => ad = ad' ∧ va_up c n (some (.inr (0, [.int wa, .int ((runF w sa ri ro).1), .int ic, .int sn, .int ((runF w sa ri ro).2.1), .int ((runF w sa ri ro).2.2.1), .int fi, .int ((runF w sa ri ro).2.2.2)]))) = c') X hr hlk d_Surf_runOff_9 (by decide) (by decide) ⟨rfl, by (try simp only [runF, if_neg h_6]); first | done | rfl | exact rup_id (by assumption)⟩
set_option maxRecDepth 100000 in
set_option maxHeartbeats 4000000 in
/-- Surf_loseToFields -/
theorem c_Surf_loseToFields (l : Launch) (D : va_G) (cy : Nat → ClassId) (ad : Nat → Nat) (c : rC) (n : Nat) (wa w ic sn sa ri fi ro : Int32) (hc : c n = some (.inr (0, [.int wa, .int w, .int ic, .int sn, .int sa, .int ri, .int fi, .int ro]))) (k : Int32) : rMv l D cls (TY cy) NW y_Surf_loseToFields (Cond.code y_Surf_loseToFields b_Surf_loseToFields 3 rt_Surf_loseToFields :: W0) { frames := 1, cells := 0, slots := 0, locals := 21 } [.ref (ad n), .int k] ad c (fun ad' c' => ad = ad' ∧ va_up c n (some (.inr (0, [.int wa, .int w, .int ic, .int sn, .int (sa - mn k sa), .int ri, .int (fi + mn k sa), .int ro]))) = c') := by
  intro sz
  refine r_of (own := R_Surf) rfl (by decide +kernel) (Nat.le_of_ble_eq_true rfl) ?_
  intro p e s m below meth cd hsz X hr hlk hN hin
  refine r_lv [0, 1] [(0, .ref (ad n)), (1, .int k)] rfl ?_
  refine r_iload_n X 1 d_Surf_loseToFields_0 rfl rfl ?_
  refine r_aload_n X 0 d_Surf_loseToFields_1 rfl rfl ?_
  refine r_get X k_Surf 4 (by decide) f_Surf_24 rfl hc rfl d_Surf_loseToFields_2 ?_
  refine r_min X m_Surf_27 s_min i_Math cd_min ⟨by decide, by decide, by decide, by decide⟩ (Nat.le_of_ble_eq_true rfl) d_Surf_loseToFields_5 ?_
  refine r_topi (fun v_1 ev_1 => ?_)
  refine r_istore_n X [(2, .int v_1), (0, .ref (ad n)), (1, .int k)] d_Surf_loseToFields_8 rfl (by decide) rfl ?_
  refine r_aload_n X 1 d_Surf_loseToFields_9 rfl rfl ?_
  refine r_dup X d_Surf_loseToFields_10 rfl ?_
  refine r_get X k_Surf 4 (by decide) f_Surf_24 rfl hc rfl d_Surf_loseToFields_11 ?_
  refine r_iload_n X 0 d_Surf_loseToFields_14 rfl rfl ?_
  refine r_isub X d_Surf_loseToFields_15 ?_
  refine r_put X k_Surf 4 (by decide) f_Surf_24 rfl hc rfl rfl rfl (Nat.le_of_ble_eq_true rfl) [.int wa, .int w, .int ic, .int sn, .int (sa - v_1), .int ri, .int fi, .int ro] rfl (va_up c n (some (.inr (0, [.int wa, .int w, .int ic, .int sn, .int (sa - v_1), .int ri, .int fi, .int ro])))) rfl d_Surf_loseToFields_16 ?_
  refine r_aload_n X 1 d_Surf_loseToFields_19 rfl rfl ?_
  refine r_dup X d_Surf_loseToFields_20 rfl ?_
  refine r_get X k_Surf 6 (by decide) f_Surf_46 rfl rup_self rfl d_Surf_loseToFields_21 ?_
  refine r_iload_n X 0 d_Surf_loseToFields_24 rfl rfl ?_
  refine r_iadd X d_Surf_loseToFields_25 ?_
  refine r_put X k_Surf 6 (by decide) f_Surf_46 rfl rup_self rfl rfl rfl (Nat.le_of_ble_eq_true rfl) [.int wa, .int w, .int ic, .int sn, .int (sa - v_1), .int ri, .int (fi + v_1), .int ro] rfl (va_up c n (some (.inr (0, [.int wa, .int w, .int ic, .int sn, .int (sa - v_1), .int ri, .int (fi + v_1), .int ro])))) rup_up d_Surf_loseToFields_26 ?_
  exact r_vret (post := fun ad' c' => ad = ad' ∧ va_up c n (some (.inr (0, [.int wa, .int w, .int ic, .int sn, .int (sa - mn k sa), .int ri, .int (fi + mn k sa), .int ro]))) = c') X hr hlk d_Surf_loseToFields_29 (by decide) (by decide) ⟨rfl, by subst ev_1; (try simp only [mn]); first | done | rfl | exact rup_id (by assumption)⟩
set_option maxRecDepth 100000 in
set_option maxHeartbeats 4000000 in
/-- Surf_becomeLike -/
theorem c_Surf_becomeLike (l : Launch) (D : va_G) (cy : Nat → ClassId) (ad : Nat → Nat) (c : rC) (n k : Nat) (hnk : n ≠ k) (wa w ic sn sa ri fi ro wa2 w2 ic2 sn2 sa2 ri2 fi2 ro2 : Int32) (hc : c n = some (.inr (0, [.int wa, .int w, .int ic, .int sn, .int sa, .int ri, .int fi, .int ro]))) (hk : c k = some (.inr (0, [.int wa2, .int w2, .int ic2, .int sn2, .int sa2, .int ri2, .int fi2, .int ro2]))) : rMv l D cls (TY cy) NW y_Surf_becomeLike (Cond.code y_Surf_becomeLike b_Surf_becomeLike 2 rt_Surf_becomeLike :: W0) { frames := 0, cells := 0, slots := 0, locals := 0 } [.ref (ad n), .ref (ad k)] ad c (fun ad' c' => ad = ad' ∧ va_up c n (some (.inr (0, [.int wa2, .int w2, .int ic2, .int sn2, .int sa2, .int ri, .int fi, .int ro]))) = c') := by
  intro sz
  refine r_of (own := R_Surf) rfl (by decide +kernel) (Nat.le_of_ble_eq_true rfl) ?_
  intro p e s m below meth cd hsz X hr hlk hN hin
  refine r_lv [0, 1] [(0, .ref (ad n)), (1, .ref (ad k))] rfl ?_
  refine r_aload_n X 0 d_Surf_becomeLike_0 rfl rfl ?_
  refine r_aload_n X 1 d_Surf_becomeLike_1 rfl rfl ?_
  refine r_get X k_Surf 0 (by decide) f_Surf_9 rfl hk rfl d_Surf_becomeLike_2 ?_
  refine r_put X k_Surf 0 (by decide) f_Surf_9 rfl hc rfl rfl rfl (Nat.le_of_ble_eq_true rfl) [.int wa2, .int w, .int ic, .int sn, .int sa, .int ri, .int fi, .int ro] rfl (va_up c n (some (.inr (0, [.int wa2, .int w, .int ic, .int sn, .int sa, .int ri, .int fi, .int ro])))) rfl d_Surf_becomeLike_5 ?_
  refine r_aload_n X 0 d_Surf_becomeLike_8 rfl rfl ?_
  refine r_aload_n X 1 d_Surf_becomeLike_9 rfl rfl ?_
  refine r_get X k_Surf 1 (by decide) f_Surf_15 rfl (rup_ne (by omega) (hk)) rfl d_Surf_becomeLike_10 ?_
  refine r_put X k_Surf 1 (by decide) f_Surf_15 rfl rup_self rfl rfl rfl (Nat.le_of_ble_eq_true rfl) [.int wa2, .int w2, .int ic, .int sn, .int sa, .int ri, .int fi, .int ro] rfl (va_up c n (some (.inr (0, [.int wa2, .int w2, .int ic, .int sn, .int sa, .int ri, .int fi, .int ro])))) rup_up d_Surf_becomeLike_13 ?_
  refine r_aload_n X 0 d_Surf_becomeLike_16 rfl rfl ?_
  refine r_aload_n X 1 d_Surf_becomeLike_17 rfl rfl ?_
  refine r_get X k_Surf 2 (by decide) f_Surf_18 rfl (rup_ne (by omega) (hk)) rfl d_Surf_becomeLike_18 ?_
  refine r_put X k_Surf 2 (by decide) f_Surf_18 rfl rup_self rfl rfl rfl (Nat.le_of_ble_eq_true rfl) [.int wa2, .int w2, .int ic2, .int sn, .int sa, .int ri, .int fi, .int ro] rfl (va_up c n (some (.inr (0, [.int wa2, .int w2, .int ic2, .int sn, .int sa, .int ri, .int fi, .int ro])))) rup_up d_Surf_becomeLike_21 ?_
  refine r_aload_n X 0 d_Surf_becomeLike_24 rfl rfl ?_
  refine r_aload_n X 1 d_Surf_becomeLike_25 rfl rfl ?_
  refine r_get X k_Surf 3 (by decide) f_Surf_21 rfl (rup_ne (by omega) (hk)) rfl d_Surf_becomeLike_26 ?_
  refine r_put X k_Surf 3 (by decide) f_Surf_21 rfl rup_self rfl rfl rfl (Nat.le_of_ble_eq_true rfl) [.int wa2, .int w2, .int ic2, .int sn2, .int sa, .int ri, .int fi, .int ro] rfl (va_up c n (some (.inr (0, [.int wa2, .int w2, .int ic2, .int sn2, .int sa, .int ri, .int fi, .int ro])))) rup_up d_Surf_becomeLike_29 ?_
  refine r_aload_n X 0 d_Surf_becomeLike_32 rfl rfl ?_
  refine r_aload_n X 1 d_Surf_becomeLike_33 rfl rfl ?_
  refine r_get X k_Surf 4 (by decide) f_Surf_24 rfl (rup_ne (by omega) (hk)) rfl d_Surf_becomeLike_34 ?_
  refine r_put X k_Surf 4 (by decide) f_Surf_24 rfl rup_self rfl rfl rfl (Nat.le_of_ble_eq_true rfl) [.int wa2, .int w2, .int ic2, .int sn2, .int sa2, .int ri, .int fi, .int ro] rfl (va_up c n (some (.inr (0, [.int wa2, .int w2, .int ic2, .int sn2, .int sa2, .int ri, .int fi, .int ro])))) rup_up d_Surf_becomeLike_37 ?_
  exact r_vret (post := fun ad' c' => ad = ad' ∧ va_up c n (some (.inr (0, [.int wa2, .int w2, .int ic2, .int sn2, .int sa2, .int ri, .int fi, .int ro]))) = c') X hr hlk d_Surf_becomeLike_40 (by decide) (by decide) ⟨rfl, rfl⟩
