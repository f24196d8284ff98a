/-! roads, as numbers -/
def goalF (hei sha a z : Int32) : Int32 := a - hei / 3 - sha - (if z = 0 then 0 else 2)
def lossF (ran wind w sa fi : Int32) : Int32 × Int32 :=
  let a : Int32 × Int32 := if ran = 0 then (if w ≤ 0 then (sa, fi) else (sa - mn 1 sa, fi + mn 1 sa)) else (sa, fi)
  if wind < 2 then a else if w = 0 then (a.1 - mn 2 a.1, a.2 + mn 2 a.1) else a
/-- a surface's eight numbers: warmth, water, ice, snow, salt, river, fields, run-off -/
abbrev sf8 : Type := Int32 × Int32 × Int32 × Int32 × Int32 × Int32 × Int32 × Int32
abbrev surfE (x : sf8) : va_E := .inr (0, [.int x.1, .int x.2.1, .int x.2.2.1, .int x.2.2.2.1, .int x.2.2.2.2.1, .int x.2.2.2.2.2.1, .int x.2.2.2.2.2.2.1, .int x.2.2.2.2.2.2.2])
def wqF (hei sha bri ran a z rain flakes wind : Int32) (wa w ic sn sa ri fi ro : Int32) : sf8 :=
  let wa1 := nearF wa (goalF hei sha a z) (if bri = 0 then 1 else 2)
  let f := frzF wa1 (w + rain) ic (sn + flakes) sa
  let r := runF f.1 sa ri ro
  let y := lossF ran wind r.1 r.2.1 fi
  (wa1, r.1, f.2.1, f.2.2, y.1, r.2.2.1, y.2, r.2.2.2)
def roadF (k : Nat) (one oth len ran hei sha bri tim las wa w ic sn sa : Int32) : Int32 := match k with
  | 0 => one
  | 1 => oth
  | 2 => len
  | 3 => ran
  | 4 => hei
  | 5 => sha
  | 6 => if bri = 0 then 0 else 1
  | 7 => wa
  | 8 => w
  | 9 => ic
  | 10 => sn
  | 11 => sa
  | 12 => pointF w ic sn sa
  | 13 => tim
  | _ => las
/-- whether one of n places from j on holds something -/
def anyF (f : Nat → Int32) (j : Nat) : Nat → Int32
  | 0 => 0
  | n + 1 => if f j = 0 then anyF f (j + 1) n else 1
theorem anyF_bit (f : Nat → Int32) : ∀ (n j : Nat), anyF f j n = 0 ∨ anyF f j n = 1
  | 0, _ => Or.inl rfl
  | n + 1, j => by
    unfold anyF
    split
    · exact anyF_bit f n (j + 1)
    · exact Or.inr rfl
theorem nb_bit {x : Int32} (h : x = 0 ∨ x = 1) : narrow .boolean (.int x) = .int x := by
  rcases h with rfl | rfl <;> decide
theorem fb_bit {x : Int32} (h : x = 0 ∨ x = 1) : fits .boolean (.int x) = true := by
  rcases h with rfl | rfl <;> decide
theorem upd_nI {f : Nat → Int32} {t : Nat} {x : Int32} (h : t < 2 ^ 31) : upd f (nI t).toNatClampNeg x = upd f t x := by rw [nI_clamp h]
theorem at_nI {f : Nat → Int32} {t : Nat} (h : t < 2 ^ 31) : f (nI t).toNatClampNeg = f t := by rw [nI_clamp h]
set_option maxRecDepth 100000 in
set_option maxHeartbeats 4000000 in
/-- Road_goal -/
theorem c_Road_goal (l : Launch) (D : va_G) (cy : Nat → ClassId) (ad : Nat → Nat) (c : rC) (n ks kl kt : Nat) (one oth len ran hei sha bri tim las : Int32) (hc : c n = some (.inr (2, [.int one, .int oth, .int len, .int ran, .int hei, .int sha, .int bri, .ref (ad ks), .ref (ad kl), .ref (ad kt), .int tim, .int las]))) (a z : Int32) : rMi l D cls (TY cy) NW y_Road_goal (Cond.code y_Road_goal b_Road_goal 3 rt_Road_goal :: W0) { frames := 0, cells := 0, slots := 0, locals := 0 } [.ref (ad n), .int a, .int z] ad c (fun r ad' c' => goalF hei sha a z = r ∧ ad = ad' ∧ c = c') := by
  intro sz
  refine r_of (own := R_Road) rfl (by decide +kernel) (Nat.le_of_ble_eq_true rfl) ?_
  intro p e s m below meth cd hsz X hr hlk hN hin
  refine r_lv [0, 1, 2] [(0, .ref (ad n)), (1, .int a), (2, .int z)] rfl ?_
  refine r_iload_n X 1 d_Road_goal_0 rfl rfl ?_
  refine r_aload_n X 0 d_Road_goal_1 rfl rfl ?_
  refine r_get X k_Road 4 (by decide) f_Road_41 rfl hc rfl d_Road_goal_2 ?_
  refine r_iconst X 3 d_Road_goal_5 (by decide) ?_
  refine r_idiv X d_Road_goal_6 (by decide) ?_
  refine r_isub X d_Road_goal_7 ?_
  refine r_aload_n X 0 d_Road_goal_8 rfl rfl ?_
  refine r_get X k_Road 5 (by decide) f_Road_44 rfl hc rfl d_Road_goal_9 ?_
  refine r_isub X d_Road_goal_12 ?_
  refine r_iload_n X 2 d_Road_goal_13 rfl rfl ?_
  refine r_cut (fun u9 : Int32 => u9 = (if z = 0 then 0 else 2)) (fun _ => c) 22 (fun _ => [(0, .ref (ad n)), (1, .int a), (2, .int z)]) (fun u9 => [.int u9, .int ((a - (hei / 3)) - sha)]) (fun J9 => ?_) (fun t_1 ht_1 => ?_)
  · refine r_if_eq X 21 d_Road_goal_14 (by decide) (fun h9 => ?_) (fun h9 => ?_)
    · refine r_iconst X 0 d_Road_goal_21 (by decide) ?_
      exact J9 _ (if_pos h9).symm
    · refine r_iconst X 2 d_Road_goal_17 (by decide) ?_
      refine r_goto X 22 d_Road_goal_18 (by decide) ?_
      exact J9 _ (if_neg h9).symm
  subst ht_1
  refine r_isub X d_Road_goal_22 ?_
  exact r_iret (post := fun r ad' c' => goalF hei sha a z = r ∧ ad = ad' ∧ c = c') X hr hlk d_Road_goal_23 (by decide) (by decide) ⟨by (try simp only [goalF]); first | done | rfl | exact rup_id (by assumption), rfl, rfl⟩
set_option maxRecDepth 100000 in
set_option maxHeartbeats 4000000 in
/-- Road_notice -/
theorem c_Road_notice (l : Launch) (D : va_G) (cy : Nat → ClassId) (ad : Nat → Nat) (c : rC) (n ks kl kt : Nat) (one oth len ran hei sha bri tim las : Int32) (hc : c n = some (.inr (2, [.int one, .int oth, .int len, .int ran, .int hei, .int sha, .int bri, .ref (ad ks), .ref (ad kl), .ref (ad kt), .int tim, .int las]))) : rMi l D cls (TY cy) NW y_Road_notice (Cond.code y_Road_notice b_Road_notice 1 rt_Road_notice :: W0) { frames := 0, cells := 0, slots := 0, locals := 0 } [.ref (ad n)] ad c (fun r ad' c' => (if ran = 0 then 4 else if ran = 1 then 8 else 16) = r ∧ ad = ad' ∧ c = c') := by
  intro sz
  refine r_of (own := R_Road) rfl (by decide +kernel) (Nat.le_of_ble_eq_true rfl) ?_
  intro p e s m below meth cd hsz X hr hlk hN hin
  refine r_lv [0] [(0, .ref (ad n))] rfl ?_
  refine r_aload_n X 0 d_Road_notice_0 rfl rfl ?_
  refine r_get X k_Road 3 (by decide) f_Road_38 rfl hc rfl d_Road_notice_1 ?_
  refine r_if_ne X 11 d_Road_notice_4 (by decide) (fun h_4 => ?_) (fun h_4 => ?_)
  · refine r_aload_n X 0 d_Road_notice_11 rfl rfl ?_
    refine r_get X k_Road 3 (by decide) f_Road_38 rfl hc rfl d_Road_notice_12 ?_
    refine r_iconst X 1 d_Road_notice_15 (by decide) ?_
    refine r_cut (fun u9 : Int32 => u9 = (if ran = 1 then 8 else 16)) (fun _ => c) 26 (fun _ => [(0, .ref (ad n))]) (fun u9 => [.int u9]) (fun J9 => ?_) (fun t_1 ht_1 => ?_)
    · refine r_icmp_ne X 24 d_Road_notice_16 (by decide) (fun h9 => ?_) (fun h9 => ?_)
      · refine r_bipush X 16 d_Road_notice_24 (by decide) ?_
        exact J9 _ (if_neg h9).symm
      · refine r_bipush X 8 d_Road_notice_19 (by decide) ?_
        refine r_goto X 26 d_Road_notice_21 (by decide) ?_
        exact J9 _ (if_pos h9).symm
    subst ht_1
    exact r_iret (post := fun r ad' c' => (if ran = 0 then 4 else if ran = 1 then 8 else 16) = r ∧ ad = ad' ∧ c = c') X hr hlk d_Road_notice_26 (by decide) (by decide) ⟨by (try simp only [if_neg h_4]); first | done | rfl | exact rup_id (by assumption), rfl, rfl⟩
  · refine r_iconst X 4 d_Road_notice_7 (by decide) ?_
    refine r_goto X 26 d_Road_notice_8 (by decide) ?_
    exact r_iret (post := fun r ad' c' => (if ran = 0 then 4 else if ran = 1 then 8 else 16) = r ∧ ad = ad' ∧ c = c') X hr hlk d_Road_notice_26 (by decide) (by decide) ⟨by (try simp only [if_pos h_4]); first | done | rfl | exact rup_id (by assumption), rfl, rfl⟩
set_option maxRecDepth 100000 in
set_option maxHeartbeats 4000000 in
/-- Road_joins -/
theorem c_Road_joins (l : Launch) (D : va_G) (cy : Nat → ClassId) (ad : Nat → Nat) (c : rC) (n ks kl kt : Nat) (one oth len ran hei sha bri tim las : Int32) (hc : c n = some (.inr (2, [.int one, .int oth, .int len, .int ran, .int hei, .int sha, .int bri, .ref (ad ks), .ref (ad kl), .ref (ad kt), .int tim, .int las]))) (x : Int32) : rMi l D cls (TY cy) NW y_Road_joins (Cond.code y_Road_joins b_Road_joins 2 rt_Road_joins :: W0) { frames := 0, cells := 0, slots := 0, locals := 0 } [.ref (ad n), .int x] ad c (fun r ad' c' => (if x = one then 1 else if x = oth then 1 else 0) = r ∧ ad = ad' ∧ c = c') := by
  intro sz
  refine r_of (own := R_Road) rfl (by decide +kernel) (Nat.le_of_ble_eq_true rfl) ?_
  intro p e s m below meth cd hsz X hr hlk hN hin
  refine r_lv [0, 1] [(0, .ref (ad n)), (1, .int x)] rfl ?_
  refine r_iload_n X 1 d_Road_joins_0 rfl rfl ?_
  refine r_aload_n X 0 d_Road_joins_1 rfl rfl ?_
  refine r_get X k_Road 0 (by decide) f_Road_29 rfl hc rfl d_Road_joins_2 ?_
  refine r_icmp_eq X 16 d_Road_joins_5 (by decide) (fun h_5 => ?_) (fun h_5 => ?_)
  · refine r_iconst X 1 d_Road_joins_16 (by decide) ?_
    refine r_goto X 21 d_Road_joins_17 (by decide) ?_
    exact r_zret (post := fun r ad' c' => (if x = one then 1 else if x = oth then 1 else 0) = r ∧ ad = ad' ∧ c = c') X hr hlk (by first | decide | (split <;> decide) | assumption) d_Road_joins_21 (by decide) (by decide) ⟨by (try simp only [if_pos h_5]); first | done | rfl | exact rup_id (by assumption), rfl, rfl⟩
  · refine r_iload_n X 1 d_Road_joins_8 rfl rfl ?_
    refine r_aload_n X 0 d_Road_joins_9 rfl rfl ?_
    refine r_get X k_Road 1 (by decide) f_Road_32 rfl hc rfl d_Road_joins_10 ?_
    refine r_cut (fun u9 : Int32 => u9 = (if x = oth then 1 else 0)) (fun _ => c) 21 (fun _ => [(0, .ref (ad n)), (1, .int x)]) (fun u9 => [.int u9]) (fun J9 => ?_) (fun t_1 ht_1 => ?_)
    · refine r_icmp_ne X 20 d_Road_joins_13 (by decide) (fun h9 => ?_) (fun h9 => ?_)
      · refine r_iconst X 0 d_Road_joins_20 (by decide) ?_
        exact J9 _ (if_neg h9).symm
      · refine r_iconst X 1 d_Road_joins_16 (by decide) ?_
        refine r_goto X 21 d_Road_joins_17 (by decide) ?_
        exact J9 _ (if_pos h9).symm
    subst ht_1
    exact r_zret (post := fun r ad' c' => (if x = one then 1 else if x = oth then 1 else 0) = r ∧ ad = ad' ∧ c = c') X hr hlk (by first | decide | (split <;> decide) | assumption) d_Road_joins_21 (by decide) (by decide) ⟨by (try simp only [if_neg h_5]); first | done | rfl | exact rup_id (by assumption), rfl, rfl⟩
set_option maxRecDepth 100000 in
set_option maxHeartbeats 4000000 in
/-- Road_otherEnd -/
theorem c_Road_otherEnd (l : Launch) (D : va_G) (cy : Nat → ClassId) (ad : Nat → Nat) (c : rC) (n ks kl kt : Nat) (one oth len ran hei sha bri tim las : Int32) (hc : c n = some (.inr (2, [.int one, .int oth, .int len, .int ran, .int hei, .int sha, .int bri, .ref (ad ks), .ref (ad kl), .ref (ad kt), .int tim, .int las]))) (x : Int32) : rMi l D cls (TY cy) NW y_Road_otherEnd (Cond.code y_Road_otherEnd b_Road_otherEnd 2 rt_Road_otherEnd :: W0) { frames := 0, cells := 0, slots := 0, locals := 0 } [.ref (ad n), .int x] ad c (fun r ad' c' => (if x = one then oth else one) = r ∧ ad = ad' ∧ c = c') := by
  intro sz
  refine r_of (own := R_Road) rfl (by decide +kernel) (Nat.le_of_ble_eq_true rfl) ?_
  intro p e s m below meth cd hsz X hr hlk hN hin
  refine r_lv [0, 1] [(0, .ref (ad n)), (1, .int x)] rfl ?_
  refine r_iload_n X 1 d_Road_otherEnd_0 rfl rfl ?_
  refine r_aload_n X 0 d_Road_otherEnd_1 rfl rfl ?_
  refine r_get X k_Road 0 (by decide) f_Road_29 rfl hc rfl d_Road_otherEnd_2 ?_
  refine r_icmp_ne X 15 d_Road_otherEnd_5 (by decide) (fun h_5 => ?_) (fun h_5 => ?_)
  · refine r_aload_n X 0 d_Road_otherEnd_15 rfl rfl ?_
    refine r_get X k_Road 0 (by decide) f_Road_29 rfl hc rfl d_Road_otherEnd_16 ?_
    exact r_iret (post := fun r ad' c' => (if x = one then oth else one) = r ∧ ad = ad' ∧ c = c') X hr hlk d_Road_otherEnd_19 (by decide) (by decide) ⟨by (try simp only [if_neg h_5]); first | done | rfl | exact rup_id (by assumption), rfl, rfl⟩
  · refine r_aload_n X 0 d_Road_otherEnd_8 rfl rfl ?_
    refine r_get X k_Road 1 (by decide) f_Road_32 rfl hc rfl d_Road_otherEnd_9 ?_
    refine r_goto X 19 d_Road_otherEnd_12 (by decide) ?_
    exact r_iret (post := fun r ad' c' => (if x = one then oth else one) = r ∧ ad = ad' ∧ c = c') X hr hlk d_Road_otherEnd_19 (by decide) (by decide) ⟨by (try simp only [if_pos h_5]); first | done | rfl | exact rup_id (by assumption), rfl, rfl⟩
set_option maxRecDepth 100000 in
set_option maxHeartbeats 4000000 in
/-- Road_weatherQuarter -/
theorem c_Road_weatherQuarter (l : Launch) (D : va_G) (cy : Nat → ClassId) (ad : Nat → Nat) (c : rC) (n ks kl kt : Nat) (one oth len ran hei sha bri tim las : Int32) (hc : c n = some (.inr (2, [.int one, .int oth, .int len, .int ran, .int hei, .int sha, .int bri, .ref (ad ks), .ref (ad kl), .ref (ad kt), .int tim, .int las]))) (k j : Nat) (hnk : n ≠ k) (hnj : n ≠ j) (hkj : k ≠ j) (wa w ic sn sa ri fi ro wea wez wer wef wew : Int32) (hk : c k = some (.inr (0, [.int wa, .int w, .int ic, .int sn, .int sa, .int ri, .int fi, .int ro]))) (hj : c j = some (.inr (1, [.int wea, .int wez, .int wer, .int wef, .int wew]))) : rMv l D cls (TY cy) NW y_Road_weatherQuarter (Cond.code y_Road_weatherQuarter b_Road_weatherQuarter 3 rt_Road_weatherQuarter :: W0) { frames := 2, cells := 0, slots := 0, locals := 45 } [.ref (ad n), .ref (ad k), .ref (ad j)] ad c (fun ad' c' => ad = ad' ∧ va_up c k (some (surfE (wqF hei sha bri ran wea wez wer wef wew wa w ic sn sa ri fi ro))) = c') := by
  intro sz
  refine r_of (own := R_Road) rfl (by decide +kernel) (Nat.le_of_ble_eq_true rfl) ?_
  intro p e s m below meth cd hsz X hr hlk hN hin
  refine r_lv [0, 1, 2] [(0, .ref (ad n)), (1, .ref (ad k)), (2, .ref (ad j))] rfl ?_
  refine r_aload_n X 1 d_Road_weatherQuarter_0 rfl rfl ?_
  refine r_aload_n X 0 d_Road_weatherQuarter_1 rfl rfl ?_
  refine r_aload_n X 2 d_Road_weatherQuarter_2 rfl rfl ?_
  refine r_get X k_Wea 0 (by decide) f_Road_51 rfl hj rfl d_Road_weatherQuarter_3 ?_
  refine r_aload_n X 2 d_Road_weatherQuarter_6 rfl rfl ?_
  refine r_get X k_Wea 1 (by decide) f_Road_56 rfl hj rfl d_Road_weatherQuarter_7 ?_
  refine r_Vi X W0_good hN (c_Road_goal l D cy ad (c) n ks kl kt one oth len ran hei sha bri tim las hc wea wez) yv_Road_goal m_Road_59 hc k_Road.2.1 rfl rfl rfl ⟨by decide, by decide⟩ (Nat.le_of_ble_eq_true rfl) ⟨by decide, by decide⟩ d_Road_weatherQuarter_10 (fun r9 ad9 c9 hp9 => ?_)
  obtain ⟨rfl, rfl, rfl⟩ := hp9
  refine r_aload_n X 0 d_Road_weatherQuarter_13 rfl rfl ?_
  refine r_get X k_Road 6 (by decide) f_Road_47 rfl hc rfl d_Road_weatherQuarter_14 ?_
  refine r_cut (fun u9 : Int32 => u9 = (if bri = 0 then 1 else 2)) (fun _ => c) 25 (fun _ => [(0, .ref (ad n)), (1, .ref (ad k)), (2, .ref (ad j))]) (fun u9 => [.int u9, .int (goalF hei sha wea wez), .ref (ad k)]) (fun J9 => ?_) (fun t_1 ht_1 => ?_)
  · refine r_if_eq X 24 d_Road_weatherQuarter_17 (by decide) (fun h9 => ?_) (fun h9 => ?_)
    · refine r_iconst X 1 d_Road_weatherQuarter_24 (by decide) ?_
      exact J9 _ (if_pos h9).symm
    · refine r_iconst X 2 d_Road_weatherQuarter_20 (by decide) ?_
      refine r_goto X 25 d_Road_weatherQuarter_21 (by decide) ?_
      exact J9 _ (if_neg h9).symm
  subst ht_1
  refine r_Vv X W0_good hN (c_Surf_comeNearer l D cy ad (c) k wa w ic sn sa ri fi ro hk (goalF hei sha wea wez) (if bri = 0 then 1 else 2)) yv_Surf_comeNearer m_Road_63 hk k_Surf.2.1 rfl rfl rfl ⟨by decide, by decide⟩ (Nat.le_of_ble_eq_true rfl) ⟨by decide, by decide⟩ d_Road_weatherQuarter_25 (fun ad9 c9 hp9 => ?_)
  obtain ⟨rfl, rfl⟩ := hp9
  refine r_aload_n X 1 d_Road_weatherQuarter_28 rfl rfl ?_
  refine r_dup X d_Road_weatherQuarter_29 rfl ?_
  refine r_get X k_Surf 1 (by decide) f_Road_67 rfl rup_self rfl d_Road_weatherQuarter_30 ?_
  refine r_aload_n X 2 d_Road_weatherQuarter_33 rfl rfl ?_
  refine r_get X k_Wea 2 (by decide) f_Road_70 rfl (rup_ne (by omega) (hj)) rfl d_Road_weatherQuarter_34 ?_
  refine r_iadd X d_Road_weatherQuarter_37 ?_
  refine r_put X k_Surf 1 (by decide) f_Road_67 rfl rup_self rfl rfl rfl (Nat.le_of_ble_eq_true rfl) [.int (nearF wa (goalF hei sha wea wez) (if bri = 0 then 1 else 2)), .int (w + wer), .int ic, .int sn, .int sa, .int ri, .int fi, .int ro] rfl (va_up c k (some (.inr (0, [.int (nearF wa (goalF hei sha wea wez) (if bri = 0 then 1 else 2)), .int (w + wer), .int ic, .int sn, .int sa, .int ri, .int fi, .int ro])))) rup_up d_Road_weatherQuarter_38 ?_
  refine r_aload_n X 1 d_Road_weatherQuarter_41 rfl rfl ?_
  refine r_dup X d_Road_weatherQuarter_42 rfl ?_
  refine r_get X k_Surf 3 (by decide) f_Road_73 rfl rup_self rfl d_Road_weatherQuarter_43 ?_
  refine r_aload_n X 2 d_Road_weatherQuarter_46 rfl rfl ?_
  refine r_get X k_Wea 3 (by decide) f_Road_76 rfl (rup_ne (by omega) (hj)) rfl d_Road_weatherQuarter_47 ?_
  refine r_iadd X d_Road_weatherQuarter_50 ?_
  refine r_put X k_Surf 3 (by decide) f_Road_73 rfl rup_self rfl rfl rfl (Nat.le_of_ble_eq_true rfl) [.int (nearF wa (goalF hei sha wea wez) (if bri = 0 then 1 else 2)), .int (w + wer), .int ic, .int (sn + wef), .int sa, .int ri, .int fi, .int ro] rfl (va_up c k (some (.inr (0, [.int (nearF wa (goalF hei sha wea wez) (if bri = 0 then 1 else 2)), .int (w + wer), .int ic, .int (sn + wef), .int sa, .int ri, .int fi, .int ro])))) rup_up d_Road_weatherQuarter_51 ?_
  refine r_aload_n X 1 d_Road_weatherQuarter_54 rfl rfl ?_
  refine r_Vv X W0_good hN (c_Surf_freezeOrThaw l D cy ad (va_up c k (some (.inr (0, [.int (nearF wa (goalF hei sha wea wez) (if bri = 0 then 1 else 2)), .int (w + wer), .int ic, .int (sn + wef), .int sa, .int ri, .int fi, .int ro])))) k (nearF wa (goalF hei sha wea wez) (if bri = 0 then 1 else 2)) (w + wer) ic (sn + wef) sa ri fi ro rup_self) yv_Surf_freezeOrThaw m_Road_79 rup_self k_Surf.2.1 rfl rfl rfl ⟨by decide, by decide⟩ (Nat.le_of_ble_eq_true rfl) ⟨by decide, by decide⟩ d_Road_weatherQuarter_55 (fun ad9 c9 hp9 => ?_)
  obtain ⟨rfl, rfl⟩ := hp9
  refine r_c (va_up c k (some (.inr (0, [.int (nearF wa (goalF hei sha wea wez) (if bri = 0 then 1 else 2)), .int ((frzF (nearF wa (goalF hei sha wea wez) (if bri = 0 then 1 else 2)) (w + wer) ic (sn + wef) sa).1), .int ((frzF (nearF wa (goalF hei sha wea wez) (if bri = 0 then 1 else 2)) (w + wer) ic (sn + wef) sa).2.1), .int ((frzF (nearF wa (goalF hei sha wea wez) (if bri = 0 then 1 else 2)) (w + wer) ic (sn + wef) sa).2.2), .int sa, .int ri, .int fi, .int ro])))) rup_up ?_
  refine r_aload_n X 1 d_Road_weatherQuarter_58 rfl rfl ?_
  refine r_Vv X W0_good hN (c_Surf_runOff l D cy ad (va_up c k (some (.inr (0, [.int (nearF wa (goalF hei sha wea wez) (if bri = 0 then 1 else 2)), .int ((frzF (nearF wa (goalF hei sha wea wez) (if bri = 0 then 1 else 2)) (w + wer) ic (sn + wef) sa).1), .int ((frzF (nearF wa (goalF hei sha wea wez) (if bri = 0 then 1 else 2)) (w + wer) ic (sn + wef) sa).2.1), .int ((frzF (nearF wa (goalF hei sha wea wez) (if bri = 0 then 1 else 2)) (w + wer) ic (sn + wef) sa).2.2), .int sa, .int ri, .int fi, .int ro])))) k (nearF wa (goalF hei sha wea wez) (if bri = 0 then 1 else 2)) ((frzF (nearF wa (goalF hei sha wea wez) (if bri = 0 then 1 else 2)) (w + wer) ic (sn + wef) sa).1) ((frzF (nearF wa (goalF hei sha wea wez) (if bri = 0 then 1 else 2)) (w + wer) ic (sn + wef) sa).2.1) ((frzF (nearF wa (goalF hei sha wea wez) (if bri = 0 then 1 else 2)) (w + wer) ic (sn + wef) sa).2.2) sa ri fi ro rup_self) yv_Surf_runOff m_Road_82 rup_self k_Surf.2.1 rfl rfl rfl ⟨by decide, by decide⟩ (Nat.le_of_ble_eq_true rfl) ⟨by decide, by decide⟩ d_Road_weatherQuarter_59 (fun ad9 c9 hp9 => ?_)
  obtain ⟨rfl, rfl⟩ := hp9
  refine r_c (va_up c k (some (.inr (0, [.int (nearF wa (goalF hei sha wea wez) (if bri = 0 then 1 else 2)), .int ((runF ((frzF (nearF wa (goalF hei sha wea wez) (if bri = 0 then 1 else 2)) (w + wer) ic (sn + wef) sa).1) sa ri ro).1), .int ((frzF (nearF wa (goalF hei sha wea wez) (if bri = 0 then 1 else 2)) (w + wer) ic (sn + wef) sa).2.1), .int ((frzF (nearF wa (goalF hei sha wea wez) (if bri = 0 then 1 else 2)) (w + wer) ic (sn + wef) sa).2.2), .int ((runF ((frzF (nearF wa (goalF hei sha wea wez) (if bri = 0 then 1 else 2)) (w + wer) ic (sn + wef) sa).1) sa ri ro).2.1), .int ((runF ((frzF (nearF wa (goalF hei sha wea wez) (if bri = 0 then 1 else 2)) (w + wer) ic (sn + wef) sa).1) sa ri ro).2.2.1), .int fi, .int ((runF ((frzF (nearF wa (goalF hei sha wea wez) (if bri = 0 then 1 else 2)) (w + wer) ic (sn + wef) sa).1) sa ri ro).2.2.2)])))) rup_up ?_
  refine r_aload_n X 0 d_Road_weatherQuarter_62 rfl rfl ?_
  refine r_get X k_Road 3 (by decide) f_Road_38 rfl (rup_ne (by omega) (hc)) rfl d_Road_weatherQuarter_63 ?_
  refine r_if_ne X 81 d_Road_weatherQuarter_66 (by decide) (fun h_66 => ?_) (fun h_66 => ?_)
  · refine r_aload_n X 2 d_Road_weatherQuarter_81 rfl rfl ?_
    refine r_get X k_Wea 4 (by decide) f_Road_89 rfl (rup_ne (by omega) (hj)) rfl d_Road_weatherQuarter_82 ?_
    refine r_iconst X 2 d_Road_weatherQuarter_85 (by decide) ?_
    refine r_icmp_lt X 101 d_Road_weatherQuarter_86 (by decide) (fun h_86 => ?_) (fun h_86 => ?_)
    · exact r_vret (post := fun ad' c' => ad = ad' ∧ va_up c k (some (surfE (wqF hei sha bri ran wea wez wer wef wew wa w ic sn sa ri fi ro))) = c') X hr hlk d_Road_weatherQuarter_101 (by decide) (by decide) ⟨rfl, by (try simp only [wqF, lossF, if_neg h_66, if_pos h_86]); first | done | rfl | exact rup_id (by assumption)⟩
    · refine r_aload_n X 1 d_Road_weatherQuarter_89 rfl rfl ?_
      refine r_get X k_Surf 1 (by decide) f_Road_67 rfl rup_self rfl d_Road_weatherQuarter_90 ?_
      refine r_if_ne X 101 d_Road_weatherQuarter_93 (by decide) (fun h_93 => ?_) (fun h_93 => ?_)
      · exact r_vret (post := fun ad' c' => ad = ad' ∧ va_up c k (some (surfE (wqF hei sha bri ran wea wez wer wef wew wa w ic sn sa ri fi ro))) = c') X hr hlk d_Road_weatherQuarter_101 (by decide) (by decide) ⟨rfl, by (try simp only [wqF, lossF, if_neg h_66, if_neg h_86, if_neg h_93]); first | done | rfl | exact rup_id (by assumption)⟩
      · refine r_aload_n X 1 d_Road_weatherQuarter_96 rfl rfl ?_
        refine r_iconst X 2 d_Road_weatherQuarter_97 (by decide) ?_
        refine r_Vv X W0_good hN (c_Surf_loseToFields l D cy ad (va_up c k (some (.inr (0, [.int (nearF wa (goalF hei sha wea wez) (if bri = 0 then 1 else 2)), .int ((runF ((frzF (nearF wa (goalF hei sha wea wez) (if bri = 0 then 1 else 2)) (w + wer) ic (sn + wef) sa).1) sa ri ro).1), .int ((frzF (nearF wa (goalF hei sha wea wez) (if bri = 0 then 1 else 2)) (w + wer) ic (sn + wef) sa).2.1), .int ((frzF (nearF wa (goalF hei sha wea wez) (if bri = 0 then 1 else 2)) (w + wer) ic (sn + wef) sa).2.2), .int ((runF ((frzF (nearF wa (goalF hei sha wea wez) (if bri = 0 then 1 else 2)) (w + wer) ic (sn + wef) sa).1) sa ri ro).2.1), .int ((runF ((frzF (nearF wa (goalF hei sha wea wez) (if bri = 0 then 1 else 2)) (w + wer) ic (sn + wef) sa).1) sa ri ro).2.2.1), .int fi, .int ((runF ((frzF (nearF wa (goalF hei sha wea wez) (if bri = 0 then 1 else 2)) (w + wer) ic (sn + wef) sa).1) sa ri ro).2.2.2)])))) k (nearF wa (goalF hei sha wea wez) (if bri = 0 then 1 else 2)) ((runF ((frzF (nearF wa (goalF hei sha wea wez) (if bri = 0 then 1 else 2)) (w + wer) ic (sn + wef) sa).1) sa ri ro).1) ((frzF (nearF wa (goalF hei sha wea wez) (if bri = 0 then 1 else 2)) (w + wer) ic (sn + wef) sa).2.1) ((frzF (nearF wa (goalF hei sha wea wez) (if bri = 0 then 1 else 2)) (w + wer) ic (sn + wef) sa).2.2) ((runF ((frzF (nearF wa (goalF hei sha wea wez) (if bri = 0 then 1 else 2)) (w + wer) ic (sn + wef) sa).1) sa ri ro).2.1) ((runF ((frzF (nearF wa (goalF hei sha wea wez) (if bri = 0 then 1 else 2)) (w + wer) ic (sn + wef) sa).1) sa ri ro).2.2.1) fi ((runF ((frzF (nearF wa (goalF hei sha wea wez) (if bri = 0 then 1 else 2)) (w + wer) ic (sn + wef) sa).1) sa ri ro).2.2.2) rup_self 2) yv_Surf_loseToFields m_Road_85 rup_self k_Surf.2.1 rfl rfl rfl ⟨by decide, by decide⟩ (Nat.le_of_ble_eq_true rfl) ⟨by decide, by decide⟩ d_Road_weatherQuarter_98 (fun ad9 c9 hp9 => ?_)
        obtain ⟨rfl, rfl⟩ := hp9
        refine r_c (va_up c k (some (.inr (0, [.int (nearF wa (goalF hei sha wea wez) (if bri = 0 then 1 else 2)), .int ((runF ((frzF (nearF wa (goalF hei sha wea wez) (if bri = 0 then 1 else 2)) (w + wer) ic (sn + wef) sa).1) sa ri ro).1), .int ((frzF (nearF wa (goalF hei sha wea wez) (if bri = 0 then 1 else 2)) (w + wer) ic (sn + wef) sa).2.1), .int ((frzF (nearF wa (goalF hei sha wea wez) (if bri = 0 then 1 else 2)) (w + wer) ic (sn + wef) sa).2.2), .int (((runF ((frzF (nearF wa (goalF hei sha wea wez) (if bri = 0 then 1 else 2)) (w + wer) ic (sn + wef) sa).1) sa ri ro).2.1) - mn 2 ((runF ((frzF (nearF wa (goalF hei sha wea wez) (if bri = 0 then 1 else 2)) (w + wer) ic (sn + wef) sa).1) sa ri ro).2.1)), .int ((runF ((frzF (nearF wa (goalF hei sha wea wez) (if bri = 0 then 1 else 2)) (w + wer) ic (sn + wef) sa).1) sa ri ro).2.2.1), .int (fi + mn 2 ((runF ((frzF (nearF wa (goalF hei sha wea wez) (if bri = 0 then 1 else 2)) (w + wer) ic (sn + wef) sa).1) sa ri ro).2.1)), .int ((runF ((frzF (nearF wa (goalF hei sha wea wez) (if bri = 0 then 1 else 2)) (w + wer) ic (sn + wef) sa).1) sa ri ro).2.2.2)])))) rup_up ?_
        exact r_vret (post := fun ad' c' => ad = ad' ∧ va_up c k (some (surfE (wqF hei sha bri ran wea wez wer wef wew wa w ic sn sa ri fi ro))) = c') X hr hlk d_Road_weatherQuarter_101 (by decide) (by decide) ⟨rfl, by (try simp only [wqF, lossF, if_neg h_66, if_neg h_86, if_pos h_93]); first | done | rfl | exact rup_id (by assumption)⟩
  · refine r_aload_n X 1 d_Road_weatherQuarter_69 rfl rfl ?_
    refine r_get X k_Surf 1 (by decide) f_Road_67 rfl rup_self rfl d_Road_weatherQuarter_70 ?_
    refine r_if_le X 81 d_Road_weatherQuarter_73 (by decide) (fun h_73 => ?_) (fun h_73 => ?_)
    · refine r_aload_n X 2 d_Road_weatherQuarter_81 rfl rfl ?_
      refine r_get X k_Wea 4 (by decide) f_Road_89 rfl (rup_ne (by omega) (hj)) rfl d_Road_weatherQuarter_82 ?_
      refine r_iconst X 2 d_Road_weatherQuarter_85 (by decide) ?_
      refine r_icmp_lt X 101 d_Road_weatherQuarter_86 (by decide) (fun h_86 => ?_) (fun h_86 => ?_)
      · exact r_vret (post := fun ad' c' => ad = ad' ∧ va_up c k (some (surfE (wqF hei sha bri ran wea wez wer wef wew wa w ic sn sa ri fi ro))) = c') X hr hlk d_Road_weatherQuarter_101 (by decide) (by decide) ⟨rfl, by (try simp only [wqF, lossF, if_pos h_66, if_pos h_73, if_pos h_86]); first | done | rfl | exact rup_id (by assumption)⟩
      · refine r_aload_n X 1 d_Road_weatherQuarter_89 rfl rfl ?_
        refine r_get X k_Surf 1 (by decide) f_Road_67 rfl rup_self rfl d_Road_weatherQuarter_90 ?_
        refine r_if_ne X 101 d_Road_weatherQuarter_93 (by decide) (fun h_93 => ?_) (fun h_93 => ?_)
        · exact r_vret (post := fun ad' c' => ad = ad' ∧ va_up c k (some (surfE (wqF hei sha bri ran wea wez wer wef wew wa w ic sn sa ri fi ro))) = c') X hr hlk d_Road_weatherQuarter_101 (by decide) (by decide) ⟨rfl, by (try simp only [wqF, lossF, if_pos h_66, if_pos h_73, if_neg h_86, if_neg h_93]); first | done | rfl | exact rup_id (by assumption)⟩
        · refine r_aload_n X 1 d_Road_weatherQuarter_96 rfl rfl ?_
          refine r_iconst X 2 d_Road_weatherQuarter_97 (by decide) ?_
          refine r_Vv X W0_good hN (c_Surf_loseToFields l D cy ad (va_up c k (some (.inr (0, [.int (nearF wa (goalF hei sha wea wez) (if bri = 0 then 1 else 2)), .int ((runF ((frzF (nearF wa (goalF hei sha wea wez) (if bri = 0 then 1 else 2)) (w + wer) ic (sn + wef) sa).1) sa ri ro).1), .int ((frzF (nearF wa (goalF hei sha wea wez) (if bri = 0 then 1 else 2)) (w + wer) ic (sn + wef) sa).2.1), .int ((frzF (nearF wa (goalF hei sha wea wez) (if bri = 0 then 1 else 2)) (w + wer) ic (sn + wef) sa).2.2), .int ((runF ((frzF (nearF wa (goalF hei sha wea wez) (if bri = 0 then 1 else 2)) (w + wer) ic (sn + wef) sa).1) sa ri ro).2.1), .int ((runF ((frzF (nearF wa (goalF hei sha wea wez) (if bri = 0 then 1 else 2)) (w + wer) ic (sn + wef) sa).1) sa ri ro).2.2.1), .int fi, .int ((runF ((frzF (nearF wa (goalF hei sha wea wez) (if bri = 0 then 1 else 2)) (w + wer) ic (sn + wef) sa).1) sa ri ro).2.2.2)])))) k (nearF wa (goalF hei sha wea wez) (if bri = 0 then 1 else 2)) ((runF ((frzF (nearF wa (goalF hei sha wea wez) (if bri = 0 then 1 else 2)) (w + wer) ic (sn + wef) sa).1) sa ri ro).1) ((frzF (nearF wa (goalF hei sha wea wez) (if bri = 0 then 1 else 2)) (w + wer) ic (sn + wef) sa).2.1) ((frzF (nearF wa (goalF hei sha wea wez) (if bri = 0 then 1 else 2)) (w + wer) ic (sn + wef) sa).2.2) ((runF ((frzF (nearF wa (goalF hei sha wea wez) (if bri = 0 then 1 else 2)) (w + wer) ic (sn + wef) sa).1) sa ri ro).2.1) ((runF ((frzF (nearF wa (goalF hei sha wea wez) (if bri = 0 then 1 else 2)) (w + wer) ic (sn + wef) sa).1) sa ri ro).2.2.1) fi ((runF ((frzF (nearF wa (goalF hei sha wea wez) (if bri = 0 then 1 else 2)) (w + wer) ic (sn + wef) sa).1) sa ri ro).2.2.2) rup_self 2) yv_Surf_loseToFields m_Road_85 rup_self k_Surf.2.1 rfl rfl rfl ⟨by decide, by decide⟩ (Nat.le_of_ble_eq_true rfl) ⟨by decide, by decide⟩ d_Road_weatherQuarter_98 (fun ad9 c9 hp9 => ?_)
          obtain ⟨rfl, rfl⟩ := hp9
          refine r_c (va_up c k (some (.inr (0, [.int (nearF wa (goalF hei sha wea wez) (if bri = 0 then 1 else 2)), .int ((runF ((frzF (nearF wa (goalF hei sha wea wez) (if bri = 0 then 1 else 2)) (w + wer) ic (sn + wef) sa).1) sa ri ro).1), .int ((frzF (nearF wa (goalF hei sha wea wez) (if bri = 0 then 1 else 2)) (w + wer) ic (sn + wef) sa).2.1), .int ((frzF (nearF wa (goalF hei sha wea wez) (if bri = 0 then 1 else 2)) (w + wer) ic (sn + wef) sa).2.2), .int (((runF ((frzF (nearF wa (goalF hei sha wea wez) (if bri = 0 then 1 else 2)) (w + wer) ic (sn + wef) sa).1) sa ri ro).2.1) - mn 2 ((runF ((frzF (nearF wa (goalF hei sha wea wez) (if bri = 0 then 1 else 2)) (w + wer) ic (sn + wef) sa).1) sa ri ro).2.1)), .int ((runF ((frzF (nearF wa (goalF hei sha wea wez) (if bri = 0 then 1 else 2)) (w + wer) ic (sn + wef) sa).1) sa ri ro).2.2.1), .int (fi + mn 2 ((runF ((frzF (nearF wa (goalF hei sha wea wez) (if bri = 0 then 1 else 2)) (w + wer) ic (sn + wef) sa).1) sa ri ro).2.1)), .int ((runF ((frzF (nearF wa (goalF hei sha wea wez) (if bri = 0 then 1 else 2)) (w + wer) ic (sn + wef) sa).1) sa ri ro).2.2.2)])))) rup_up ?_
          exact r_vret (post := fun ad' c' => ad = ad' ∧ va_up c k (some (surfE (wqF hei sha bri ran wea wez wer wef wew wa w ic sn sa ri fi ro))) = c') X hr hlk d_Road_weatherQuarter_101 (by decide) (by decide) ⟨rfl, by (try simp only [wqF, lossF, if_pos h_66, if_pos h_73, if_neg h_86, if_pos h_93]); first | done | rfl | exact rup_id (by assumption)⟩
    · refine r_aload_n X 1 d_Road_weatherQuarter_76 rfl rfl ?_
      refine r_iconst X 1 d_Road_weatherQuarter_77 (by decide) ?_
      refine r_Vv X W0_good hN (c_Surf_loseToFields l D cy ad (va_up c k (some (.inr (0, [.int (nearF wa (goalF hei sha wea wez) (if bri = 0 then 1 else 2)), .int ((runF ((frzF (nearF wa (goalF hei sha wea wez) (if bri = 0 then 1 else 2)) (w + wer) ic (sn + wef) sa).1) sa ri ro).1), .int ((frzF (nearF wa (goalF hei sha wea wez) (if bri = 0 then 1 else 2)) (w + wer) ic (sn + wef) sa).2.1), .int ((frzF (nearF wa (goalF hei sha wea wez) (if bri = 0 then 1 else 2)) (w + wer) ic (sn + wef) sa).2.2), .int ((runF ((frzF (nearF wa (goalF hei sha wea wez) (if bri = 0 then 1 else 2)) (w + wer) ic (sn + wef) sa).1) sa ri ro).2.1), .int ((runF ((frzF (nearF wa (goalF hei sha wea wez) (if bri = 0 then 1 else 2)) (w + wer) ic (sn + wef) sa).1) sa ri ro).2.2.1), .int fi, .int ((runF ((frzF (nearF wa (goalF hei sha wea wez) (if bri = 0 then 1 else 2)) (w + wer) ic (sn + wef) sa).1) sa ri ro).2.2.2)])))) k (nearF wa (goalF hei sha wea wez) (if bri = 0 then 1 else 2)) ((runF ((frzF (nearF wa (goalF hei sha wea wez) (if bri = 0 then 1 else 2)) (w + wer) ic (sn + wef) sa).1) sa ri ro).1) ((frzF (nearF wa (goalF hei sha wea wez) (if bri = 0 then 1 else 2)) (w + wer) ic (sn + wef) sa).2.1) ((frzF (nearF wa (goalF hei sha wea wez) (if bri = 0 then 1 else 2)) (w + wer) ic (sn + wef) sa).2.2) ((runF ((frzF (nearF wa (goalF hei sha wea wez) (if bri = 0 then 1 else 2)) (w + wer) ic (sn + wef) sa).1) sa ri ro).2.1) ((runF ((frzF (nearF wa (goalF hei sha wea wez) (if bri = 0 then 1 else 2)) (w + wer) ic (sn + wef) sa).1) sa ri ro).2.2.1) fi ((runF ((frzF (nearF wa (goalF hei sha wea wez) (if bri = 0 then 1 else 2)) (w + wer) ic (sn + wef) sa).1) sa ri ro).2.2.2) rup_self 1) yv_Surf_loseToFields m_Road_85 rup_self k_Surf.2.1 rfl rfl rfl ⟨by decide, by decide⟩ (Nat.le_of_ble_eq_true rfl) ⟨by decide, by decide⟩ d_Road_weatherQuarter_78 (fun ad9 c9 hp9 => ?_)
      obtain ⟨rfl, rfl⟩ := hp9
      refine r_c (va_up c k (some (.inr (0, [.int (nearF wa (goalF hei sha wea wez) (if bri = 0 then 1 else 2)), .int ((runF ((frzF (nearF wa (goalF hei sha wea wez) (if bri = 0 then 1 else 2)) (w + wer) ic (sn + wef) sa).1) sa ri ro).1), .int ((frzF (nearF wa (goalF hei sha wea wez) (if bri = 0 then 1 else 2)) (w + wer) ic (sn + wef) sa).2.1), .int ((frzF (nearF wa (goalF hei sha wea wez) (if bri = 0 then 1 else 2)) (w + wer) ic (sn + wef) sa).2.2), .int (((runF ((frzF (nearF wa (goalF hei sha wea wez) (if bri = 0 then 1 else 2)) (w + wer) ic (sn + wef) sa).1) sa ri ro).2.1) - mn 1 ((runF ((frzF (nearF wa (goalF hei sha wea wez) (if bri = 0 then 1 else 2)) (w + wer) ic (sn + wef) sa).1) sa ri ro).2.1)), .int ((runF ((frzF (nearF wa (goalF hei sha wea wez) (if bri = 0 then 1 else 2)) (w + wer) ic (sn + wef) sa).1) sa ri ro).2.2.1), .int (fi + mn 1 ((runF ((frzF (nearF wa (goalF hei sha wea wez) (if bri = 0 then 1 else 2)) (w + wer) ic (sn + wef) sa).1) sa ri ro).2.1)), .int ((runF ((frzF (nearF wa (goalF hei sha wea wez) (if bri = 0 then 1 else 2)) (w + wer) ic (sn + wef) sa).1) sa ri ro).2.2.2)])))) rup_up ?_
      refine r_aload_n X 2 d_Road_weatherQuarter_81 rfl rfl ?_
      refine r_get X k_Wea 4 (by decide) f_Road_89 rfl (rup_ne (by omega) (hj)) rfl d_Road_weatherQuarter_82 ?_
      refine r_iconst X 2 d_Road_weatherQuarter_85 (by decide) ?_
      refine r_icmp_lt X 101 d_Road_weatherQuarter_86 (by decide) (fun h_86 => ?_) (fun h_86 => ?_)
      · exact r_vret (post := fun ad' c' => ad = ad' ∧ va_up c k (some (surfE (wqF hei sha bri ran wea wez wer wef wew wa w ic sn sa ri fi ro))) = c') X hr hlk d_Road_weatherQuarter_101 (by decide) (by decide) ⟨rfl, by (try simp only [wqF, lossF, if_pos h_66, if_neg h_73, if_pos h_86]); first | done | rfl | exact rup_id (by assumption)⟩
      · refine r_aload_n X 1 d_Road_weatherQuarter_89 rfl rfl ?_
        refine r_get X k_Surf 1 (by decide) f_Road_67 rfl rup_self rfl d_Road_weatherQuarter_90 ?_
        refine r_if_ne X 101 d_Road_weatherQuarter_93 (by decide) (fun h_93 => ?_) (fun h_93 => ?_)
        · exact r_vret (post := fun ad' c' => ad = ad' ∧ va_up c k (some (surfE (wqF hei sha bri ran wea wez wer wef wew wa w ic sn sa ri fi ro))) = c') X hr hlk d_Road_weatherQuarter_101 (by decide) (by decide) ⟨rfl, by (try simp only [wqF, lossF, if_pos h_66, if_neg h_73, if_neg h_86, if_neg h_93]); first | done | rfl | exact rup_id (by assumption)⟩
        · refine r_aload_n X 1 d_Road_weatherQuarter_96 rfl rfl ?_
          refine r_iconst X 2 d_Road_weatherQuarter_97 (by decide) ?_
          refine r_Vv X W0_good hN (c_Surf_loseToFields l D cy ad (va_up c k (some (.inr (0, [.int (nearF wa (goalF hei sha wea wez) (if bri = 0 then 1 else 2)), .int ((runF ((frzF (nearF wa (goalF hei sha wea wez) (if bri = 0 then 1 else 2)) (w + wer) ic (sn + wef) sa).1) sa ri ro).1), .int ((frzF (nearF wa (goalF hei sha wea wez) (if bri = 0 then 1 else 2)) (w + wer) ic (sn + wef) sa).2.1), .int ((frzF (nearF wa (goalF hei sha wea wez) (if bri = 0 then 1 else 2)) (w + wer) ic (sn + wef) sa).2.2), .int (((runF ((frzF (nearF wa (goalF hei sha wea wez) (if bri = 0 then 1 else 2)) (w + wer) ic (sn + wef) sa).1) sa ri ro).2.1) - mn 1 ((runF ((frzF (nearF wa (goalF hei sha wea wez) (if bri = 0 then 1 else 2)) (w + wer) ic (sn + wef) sa).1) sa ri ro).2.1)), .int ((runF ((frzF (nearF wa (goalF hei sha wea wez) (if bri = 0 then 1 else 2)) (w + wer) ic (sn + wef) sa).1) sa ri ro).2.2.1), .int (fi + mn 1 ((runF ((frzF (nearF wa (goalF hei sha wea wez) (if bri = 0 then 1 else 2)) (w + wer) ic (sn + wef) sa).1) sa ri ro).2.1)), .int ((runF ((frzF (nearF wa (goalF hei sha wea wez) (if bri = 0 then 1 else 2)) (w + wer) ic (sn + wef) sa).1) sa ri ro).2.2.2)])))) k (nearF wa (goalF hei sha wea wez) (if bri = 0 then 1 else 2)) ((runF ((frzF (nearF wa (goalF hei sha wea wez) (if bri = 0 then 1 else 2)) (w + wer) ic (sn + wef) sa).1) sa ri ro).1) ((frzF (nearF wa (goalF hei sha wea wez) (if bri = 0 then 1 else 2)) (w + wer) ic (sn + wef) sa).2.1) ((frzF (nearF wa (goalF hei sha wea wez) (if bri = 0 then 1 else 2)) (w + wer) ic (sn + wef) sa).2.2) (((runF ((frzF (nearF wa (goalF hei sha wea wez) (if bri = 0 then 1 else 2)) (w + wer) ic (sn + wef) sa).1) sa ri ro).2.1) - mn 1 ((runF ((frzF (nearF wa (goalF hei sha wea wez) (if bri = 0 then 1 else 2)) (w + wer) ic (sn + wef) sa).1) sa ri ro).2.1)) ((runF ((frzF (nearF wa (goalF hei sha wea wez) (if bri = 0 then 1 else 2)) (w + wer) ic (sn + wef) sa).1) sa ri ro).2.2.1) (fi + mn 1 ((runF ((frzF (nearF wa (goalF hei sha wea wez) (if bri = 0 then 1 else 2)) (w + wer) ic (sn + wef) sa).1) sa ri ro).2.1)) ((runF ((frzF (nearF wa (goalF hei sha wea wez) (if bri = 0 then 1 else 2)) (w + wer) ic (sn + wef) sa).1) sa ri ro).2.2.2) rup_self 2) yv_Surf_loseToFields m_Road_85 rup_self k_Surf.2.1 rfl rfl rfl ⟨by decide, by decide⟩ (Nat.le_of_ble_eq_true rfl) ⟨by decide, by decide⟩ d_Road_weatherQuarter_98 (fun ad9 c9 hp9 => ?_)
          obtain ⟨rfl, rfl⟩ := hp9
          refine r_c (va_up c k (some (.inr (0, [.int (nearF wa (goalF hei sha wea wez) (if bri = 0 then 1 else 2)), .int ((runF ((frzF (nearF wa (goalF hei sha wea wez) (if bri = 0 then 1 else 2)) (w + wer) ic (sn + wef) sa).1) sa ri ro).1), .int ((frzF (nearF wa (goalF hei sha wea wez) (if bri = 0 then 1 else 2)) (w + wer) ic (sn + wef) sa).2.1), .int ((frzF (nearF wa (goalF hei sha wea wez) (if bri = 0 then 1 else 2)) (w + wer) ic (sn + wef) sa).2.2), .int ((((runF ((frzF (nearF wa (goalF hei sha wea wez) (if bri = 0 then 1 else 2)) (w + wer) ic (sn + wef) sa).1) sa ri ro).2.1) - mn 1 ((runF ((frzF (nearF wa (goalF hei sha wea wez) (if bri = 0 then 1 else 2)) (w + wer) ic (sn + wef) sa).1) sa ri ro).2.1)) - mn 2 (((runF ((frzF (nearF wa (goalF hei sha wea wez) (if bri = 0 then 1 else 2)) (w + wer) ic (sn + wef) sa).1) sa ri ro).2.1) - mn 1 ((runF ((frzF (nearF wa (goalF hei sha wea wez) (if bri = 0 then 1 else 2)) (w + wer) ic (sn + wef) sa).1) sa ri ro).2.1))), .int ((runF ((frzF (nearF wa (goalF hei sha wea wez) (if bri = 0 then 1 else 2)) (w + wer) ic (sn + wef) sa).1) sa ri ro).2.2.1), .int ((fi + mn 1 ((runF ((frzF (nearF wa (goalF hei sha wea wez) (if bri = 0 then 1 else 2)) (w + wer) ic (sn + wef) sa).1) sa ri ro).2.1)) + mn 2 (((runF ((frzF (nearF wa (goalF hei sha wea wez) (if bri = 0 then 1 else 2)) (w + wer) ic (sn + wef) sa).1) sa ri ro).2.1) - mn 1 ((runF ((frzF (nearF wa (goalF hei sha wea wez) (if bri = 0 then 1 else 2)) (w + wer) ic (sn + wef) sa).1) sa ri ro).2.1))), .int ((runF ((frzF (nearF wa (goalF hei sha wea wez) (if bri = 0 then 1 else 2)) (w + wer) ic (sn + wef) sa).1) sa ri ro).2.2.2)])))) rup_up ?_
          exact r_vret (post := fun ad' c' => ad = ad' ∧ va_up c k (some (surfE (wqF hei sha bri ran wea wez wer wef wew wa w ic sn sa ri fi ro))) = c') X hr hlk d_Road_weatherQuarter_101 (by decide) (by decide) ⟨rfl, by (try simp only [wqF, lossF, if_pos h_66, if_neg h_73, if_neg h_86, if_pos h_93]); first | done | rfl | exact rup_id (by assumption)⟩
set_option maxRecDepth 100000 in
set_option maxHeartbeats 4000000 in
/-- Road_noteSlippery -/
theorem c_Road_noteSlippery (l : Launch) (D : va_G) (cy : Nat → ClassId) (ad : Nat → Nat) (c : rC) (n ks kl kt : Nat) (one oth len ran hei sha bri tim las : Int32) (hc : c n = some (.inr (2, [.int one, .int oth, .int len, .int ran, .int hei, .int sha, .int bri, .ref (ad ks), .ref (ad kl), .ref (ad kt), .int tim, .int las]))) (sl : Nat → Int32) (hl : c kl = some (.inl (cy 1, 200, .inl sl))) (t : Nat) (ht : t < 200) (hn1 : n ≠ ks) (hn2 : n ≠ kl) (hn3 : ks ≠ kl) (wa w ic sn sa ri fi ro : Int32) (hk : c ks = some (.inr (0, [.int wa, .int w, .int ic, .int sn, .int sa, .int ri, .int fi, .int ro]))) : rMv l D cls (TY cy) NW y_Road_noteSlippery (Cond.code y_Road_noteSlippery b_Road_noteSlippery 2 rt_Road_noteSlippery :: W0) { frames := 1, cells := 0, slots := 0, locals := 20 } [.ref (ad n), .int (nI t)] ad c (fun ad' c' => ad = ad' ∧ (if slipF ic sn = 0 then c else va_up (va_up c kl (some (.inl (cy 1, 200, .inl (upd sl t 1))))) n (some (.inr (2, [.int one, .int oth, .int len, .int ran, .int hei, .int sha, .int bri, .ref (ad ks), .ref (ad kl), .ref (ad kt), .int (tim + 1), .int las])))) = c') := by
  intro sz
  refine r_of (own := R_Road) rfl (by decide +kernel) (Nat.le_of_ble_eq_true rfl) ?_
  intro p e s m below meth cd hsz X hr hlk hN hin
  refine r_lv [0, 1] [(0, .ref (ad n)), (1, .int (nI t))] rfl ?_
  refine r_aload_n X 0 d_Road_noteSlippery_0 rfl rfl ?_
  refine r_get X k_Road 7 (by decide) f_Road_12 rfl hc rfl d_Road_noteSlippery_1 ?_
  refine r_Vi X W0_good hN (c_Surf_isSlippery l D cy ad (c) ks wa w ic sn sa ri fi ro hk) yv_Surf_isSlippery m_Road_92 hk k_Surf.2.1 rfl rfl rfl ⟨by decide, by decide⟩ (Nat.le_of_ble_eq_true rfl) ⟨by decide, by decide⟩ d_Road_noteSlippery_4 (fun r9 ad9 c9 hp9 => ?_)
  obtain ⟨rfl, rfl, rfl⟩ := hp9
  refine r_if_eq X 40 d_Road_noteSlippery_7 (by decide) (fun h_7 => ?_) (fun h_7 => ?_)
  · exact r_vret (post := fun ad' c' => ad = ad' ∧ (if slipF ic sn = 0 then c else va_up (va_up c kl (some (.inl (cy 1, 200, .inl (upd sl t 1))))) n (some (.inr (2, [.int one, .int oth, .int len, .int ran, .int hei, .int sha, .int bri, .ref (ad ks), .ref (ad kl), .ref (ad kt), .int (tim + 1), .int las])))) = c') X hr hlk d_Road_noteSlippery_40 (by decide) (by decide) ⟨rfl, by (try simp only [if_pos h_7]); first | done | rfl | exact rup_id (by assumption)⟩
  · refine r_iload_n X 1 d_Road_noteSlippery_10 rfl rfl ?_
    refine r_if_lt X 40 d_Road_noteSlippery_11 (by decide) (fun h9 => absurd h9 (nI_pos (by omega))) (fun _ => ?_)
    refine r_iload_n X 1 d_Road_noteSlippery_14 rfl rfl ?_
    refine r_aload_n X 0 d_Road_noteSlippery_15 rfl rfl ?_
    refine r_get X k_Road 8 (by decide) f_Road_18 rfl hc rfl d_Road_noteSlippery_16 ?_
    refine r_alen (v := nI 200) X 1 hl rfl rfl d_Road_noteSlippery_19 ?_
    refine r_icmp_ge X 40 d_Road_noteSlippery_20 (by decide) (fun h9 => absurd h9 (nI_ge (by omega) (by omega))) (fun _ => ?_)
    refine r_aload_n X 0 d_Road_noteSlippery_23 rfl rfl ?_
    refine r_get X k_Road 8 (by decide) f_Road_18 rfl hc rfl d_Road_noteSlippery_24 ?_
    refine r_iload_n X 1 d_Road_noteSlippery_27 rfl rfl ?_
    refine r_iconst X 1 d_Road_noteSlippery_28 (by decide) ?_
    refine r_zast X 1 hl rfl (vp_in_nI ht (by decide)) (by decide) (upd_nI (by omega)) (va_up c kl (some (.inl (cy 1, 200, .inl (upd sl t 1))))) rfl d_Road_noteSlippery_29 ?_
    refine r_aload_n X 0 d_Road_noteSlippery_30 rfl rfl ?_
    refine r_dup X d_Road_noteSlippery_31 rfl ?_
    refine r_get X k_Road 10 (by decide) f_Road_96 rfl (rup_ne (by omega) (hc)) rfl d_Road_noteSlippery_32 ?_
    refine r_iconst X 1 d_Road_noteSlippery_35 (by decide) ?_
    refine r_iadd X d_Road_noteSlippery_36 ?_
    refine r_put X k_Road 10 (by decide) f_Road_96 rfl (rup_ne (by omega) (hc)) rfl rfl rfl (Nat.le_of_ble_eq_true rfl) [.int one, .int oth, .int len, .int ran, .int hei, .int sha, .int bri, .ref (ad ks), .ref (ad kl), .ref (ad kt), .int (tim + 1), .int las] rfl (va_up (va_up c kl (some (.inl (cy 1, 200, .inl (upd sl t 1))))) n (some (.inr (2, [.int one, .int oth, .int len, .int ran, .int hei, .int sha, .int bri, .ref (ad ks), .ref (ad kl), .ref (ad kt), .int (tim + 1), .int las])))) rfl d_Road_noteSlippery_37 ?_
    exact r_vret (post := fun ad' c' => ad = ad' ∧ (if slipF ic sn = 0 then c else va_up (va_up c kl (some (.inl (cy 1, 200, .inl (upd sl t 1))))) n (some (.inr (2, [.int one, .int oth, .int len, .int ran, .int hei, .int sha, .int bri, .ref (ad ks), .ref (ad kl), .ref (ad kt), .int (tim + 1), .int las])))) = c') X hr hlk d_Road_noteSlippery_40 (by decide) (by decide) ⟨rfl, by (try simp only [if_neg h_7]); first | done | rfl | exact rup_id (by assumption)⟩
set_option maxRecDepth 100000 in
set_option maxHeartbeats 4000000 in
/-- Road_noteTreated -/
theorem c_Road_noteTreated (l : Launch) (D : va_G) (cy : Nat → ClassId) (ad : Nat → Nat) (c : rC) (n ks kl kt : Nat) (one oth len ran hei sha bri tim las : Int32) (hc : c n = some (.inr (2, [.int one, .int oth, .int len, .int ran, .int hei, .int sha, .int bri, .ref (ad ks), .ref (ad kl), .ref (ad kt), .int tim, .int las]))) (tr : Nat → Int32) (hl : c kt = some (.inl (cy 1, 200, .inl tr))) (hn2 : n ≠ kt) (t : Nat) (ht : t < 200) : rMv l D cls (TY cy) NW y_Road_noteTreated (Cond.code y_Road_noteTreated b_Road_noteTreated 2 rt_Road_noteTreated :: W0) { frames := 0, cells := 0, slots := 0, locals := 0 } [.ref (ad n), .int (nI t)] ad c (fun ad' c' => ad = ad' ∧ va_up (va_up c kt (some (.inl (cy 1, 200, .inl (upd tr t 1))))) n (some (.inr (2, [.int one, .int oth, .int len, .int ran, .int hei, .int sha, .int bri, .ref (ad ks), .ref (ad kl), .ref (ad kt), .int tim, .int (nI t)]))) = c') := by
  intro sz
  refine r_of (own := R_Road) rfl (by decide +kernel) (Nat.le_of_ble_eq_true rfl) ?_
  intro p e s m below meth cd hsz X hr hlk hN hin
  refine r_lv [0, 1] [(0, .ref (ad n)), (1, .int (nI t))] rfl ?_
  refine r_iload_n X 1 d_Road_noteTreated_0 rfl rfl ?_
  refine r_if_lt X 25 d_Road_noteTreated_1 (by decide) (fun h9 => absurd h9 (nI_pos (by omega))) (fun _ => ?_)
  refine r_iload_n X 1 d_Road_noteTreated_4 rfl rfl ?_
  refine r_aload_n X 0 d_Road_noteTreated_5 rfl rfl ?_
  refine r_get X k_Road 9 (by decide) f_Road_22 rfl hc rfl d_Road_noteTreated_6 ?_
  refine r_alen (v := nI 200) X 1 hl rfl rfl d_Road_noteTreated_9 ?_
  refine r_icmp_ge X 25 d_Road_noteTreated_10 (by decide) (fun h9 => absurd h9 (nI_ge (by omega) (by omega))) (fun _ => ?_)
  refine r_aload_n X 0 d_Road_noteTreated_13 rfl rfl ?_
  refine r_get X k_Road 9 (by decide) f_Road_22 rfl hc rfl d_Road_noteTreated_14 ?_
  refine r_iload_n X 1 d_Road_noteTreated_17 rfl rfl ?_
  refine r_iconst X 1 d_Road_noteTreated_18 (by decide) ?_
  refine r_zast X 1 hl rfl (vp_in_nI ht (by decide)) (by decide) (upd_nI (by omega)) (va_up c kt (some (.inl (cy 1, 200, .inl (upd tr t 1))))) rfl d_Road_noteTreated_19 ?_
  refine r_aload_n X 0 d_Road_noteTreated_20 rfl rfl ?_
  refine r_iload_n X 1 d_Road_noteTreated_21 rfl rfl ?_
  refine r_put X k_Road 11 (by decide) f_Road_25 rfl (rup_ne (by omega) (hc)) rfl rfl rfl (Nat.le_of_ble_eq_true rfl) [.int one, .int oth, .int len, .int ran, .int hei, .int sha, .int bri, .ref (ad ks), .ref (ad kl), .ref (ad kt), .int tim, .int (nI t)] rfl (va_up (va_up c kt (some (.inl (cy 1, 200, .inl (upd tr t 1))))) n (some (.inr (2, [.int one, .int oth, .int len, .int ran, .int hei, .int sha, .int bri, .ref (ad ks), .ref (ad kl), .ref (ad kt), .int tim, .int (nI t)])))) rfl d_Road_noteTreated_22 ?_
  exact r_vret (post := fun ad' c' => ad = ad' ∧ va_up (va_up c kt (some (.inl (cy 1, 200, .inl (upd tr t 1))))) n (some (.inr (2, [.int one, .int oth, .int len, .int ran, .int hei, .int sha, .int bri, .ref (ad ks), .ref (ad kl), .ref (ad kt), .int tim, .int (nI t)]))) = c') X hr hlk d_Road_noteTreated_25 (by decide) (by decide) ⟨rfl, by (try simp only []); first | done | rfl | exact rup_id (by assumption)⟩
set_option maxRecDepth 100000 in
set_option maxHeartbeats 4000000 in
/-- Road_wasSlippery -/
theorem c_Road_wasSlippery (l : Launch) (D : va_G) (cy : Nat → ClassId) (ad : Nat → Nat) (c : rC) (n ks kl kt : Nat) (one oth len ran hei sha bri tim las : Int32) (hc : c n = some (.inr (2, [.int one, .int oth, .int len, .int ran, .int hei, .int sha, .int bri, .ref (ad ks), .ref (ad kl), .ref (ad kt), .int tim, .int las]))) (sl : Nat → Int32) (hl : c kl = some (.inl (cy 1, 200, .inl sl))) (t : Nat) (ht : t < 200) : rMi l D cls (TY cy) NW y_Road_wasSlippery (Cond.code y_Road_wasSlippery b_Road_wasSlippery 2 rt_Road_wasSlippery :: W0) { frames := 0, cells := 0, slots := 0, locals := 0 } [.ref (ad n), .int (nI t)] ad c (fun r ad' c' => (if sl t = 0 then 0 else 1) = r ∧ ad = ad' ∧ c = c') := by
  intro sz
  refine r_of (own := R_Road) rfl (by decide +kernel) (Nat.le_of_ble_eq_true rfl) ?_
  intro p e s m below meth cd hsz X hr hlk hN hin
  refine r_lv [0, 1] [(0, .ref (ad n)), (1, .int (nI t))] rfl ?_
  refine r_iload_n X 1 d_Road_wasSlippery_0 rfl rfl ?_
  refine r_if_lt X 26 d_Road_wasSlippery_1 (by decide) (fun h9 => absurd h9 (nI_pos (by omega))) (fun _ => ?_)
  refine r_iload_n X 1 d_Road_wasSlippery_4 rfl rfl ?_
  refine r_aload_n X 0 d_Road_wasSlippery_5 rfl rfl ?_
  refine r_get X k_Road 8 (by decide) f_Road_18 rfl hc rfl d_Road_wasSlippery_6 ?_
  refine r_alen (v := nI 200) X 1 hl rfl rfl d_Road_wasSlippery_9 ?_
  refine r_icmp_ge X 26 d_Road_wasSlippery_10 (by decide) (fun h9 => absurd h9 (nI_ge (by omega) (by omega))) (fun _ => ?_)
  refine r_aload_n X 0 d_Road_wasSlippery_13 rfl rfl ?_
  refine r_get X k_Road 8 (by decide) f_Road_18 rfl hc rfl d_Road_wasSlippery_14 ?_
  refine r_iload_n X 1 d_Road_wasSlippery_17 rfl rfl ?_
  refine r_zald (v := sl t) X 1 hl rfl (vp_in_nI ht (by decide)) (at_nI (by omega)) d_Road_wasSlippery_18 ?_
  refine r_if_eq X 26 d_Road_wasSlippery_19 (by decide) (fun h_19 => ?_) (fun h_19 => ?_)
  · refine r_iconst X 0 d_Road_wasSlippery_26 (by decide) ?_
    exact r_zret (post := fun r ad' c' => (if sl t = 0 then 0 else 1) = r ∧ ad = ad' ∧ c = c') X hr hlk (by first | decide | (split <;> decide) | assumption) d_Road_wasSlippery_27 (by decide) (by decide) ⟨by (try simp only [if_pos h_19]); first | done | rfl | exact rup_id (by assumption), rfl, rfl⟩
  · refine r_iconst X 1 d_Road_wasSlippery_22 (by decide) ?_
    refine r_goto X 27 d_Road_wasSlippery_23 (by decide) ?_
    exact r_zret (post := fun r ad' c' => (if sl t = 0 then 0 else 1) = r ∧ ad = ad' ∧ c = c') X hr hlk (by first | decide | (split <;> decide) | assumption) d_Road_wasSlippery_27 (by decide) (by decide) ⟨by (try simp only [if_neg h_19]); first | done | rfl | exact rup_id (by assumption), rfl, rfl⟩
set_option maxRecDepth 100000 in
set_option maxHeartbeats 4000000 in
/-- Road_fact -/
theorem c_Road_fact (l : Launch) (D : va_G) (cy : Nat → ClassId) (ad : Nat → Nat) (c : rC) (n ks kl kt : Nat) (one oth len ran hei sha bri tim las : Int32) (hc : c n = some (.inr (2, [.int one, .int oth, .int len, .int ran, .int hei, .int sha, .int bri, .ref (ad ks), .ref (ad kl), .ref (ad kt), .int tim, .int las]))) (wa w ic sn sa ri fi ro : Int32) (hk : c ks = some (.inr (0, [.int wa, .int w, .int ic, .int sn, .int sa, .int ri, .int fi, .int ro]))) (k : Nat) (hk14 : k ≤ 14) : rMi l D cls (TY cy) NW y_Road_fact (Cond.code y_Road_fact b_Road_fact 2 rt_Road_fact :: W0) { frames := 1, cells := 0, slots := 0, locals := 22 } [.ref (ad n), .int (nI k)] ad c (fun r ad' c' => roadF k one oth len ran hei sha bri tim las wa w ic sn sa = r ∧ ad = ad' ∧ c = c') := by
  intro sz
  refine r_of (own := R_Road) rfl (by decide +kernel) (Nat.le_of_ble_eq_true rfl) ?_
  intro p e s m below meth cd hsz X hr hlk hN hin
  refine r_lv [0, 1] [(0, .ref (ad n)), (1, .int (nI k))] rfl ?_
  refine r_iload_n X 1 d_Road_fact_0 rfl rfl ?_
  obtain rfl | rfl | rfl | rfl | rfl | rfl | rfl | rfl | rfl | rfl | rfl | rfl | rfl | rfl | rfl : k = 0 ∨ k = 1 ∨ k = 2 ∨ k = 3 ∨ k = 4 ∨ k = 5 ∨ k = 6 ∨ k = 7 ∨ k = 8 ∨ k = 9 ∨ k = 10 ∨ k = 11 ∨ k = 12 ∨ k = 13 ∨ k = 14 := by omega
  · refine r_tableIn X 72 d_Road_fact_1 (by decide) (by decide) (off := 71) (by decide) (by decide) ?_
    refine r_aload_n X 0 d_Road_fact_72 rfl rfl ?_
    refine r_get X k_Road 0 (by decide) f_Road_29 rfl hc rfl d_Road_fact_73 ?_
    exact r_iret (post := fun r ad' c' => roadF 0 one oth len ran hei sha bri tim las wa w ic sn sa = r ∧ ad = ad' ∧ c = c') X hr hlk d_Road_fact_76 (by decide) (by decide) ⟨by (try simp only [roadF]); first | done | rfl | exact rup_id (by assumption), rfl, rfl⟩
  · refine r_tableIn X 77 d_Road_fact_1 (by decide) (by decide) (off := 76) (by decide) (by decide) ?_
    refine r_aload_n X 0 d_Road_fact_77 rfl rfl ?_
    refine r_get X k_Road 1 (by decide) f_Road_32 rfl hc rfl d_Road_fact_78 ?_
    exact r_iret (post := fun r ad' c' => roadF 1 one oth len ran hei sha bri tim las wa w ic sn sa = r ∧ ad = ad' ∧ c = c') X hr hlk d_Road_fact_81 (by decide) (by decide) ⟨by (try simp only [roadF]); first | done | rfl | exact rup_id (by assumption), rfl, rfl⟩
  · refine r_tableIn X 82 d_Road_fact_1 (by decide) (by decide) (off := 81) (by decide) (by decide) ?_
    refine r_aload_n X 0 d_Road_fact_82 rfl rfl ?_
    refine r_get X k_Road 2 (by decide) f_Road_35 rfl hc rfl d_Road_fact_83 ?_
    exact r_iret (post := fun r ad' c' => roadF 2 one oth len ran hei sha bri tim las wa w ic sn sa = r ∧ ad = ad' ∧ c = c') X hr hlk d_Road_fact_86 (by decide) (by decide) ⟨by (try simp only [roadF]); first | done | rfl | exact rup_id (by assumption), rfl, rfl⟩
  · refine r_tableIn X 87 d_Road_fact_1 (by decide) (by decide) (off := 86) (by decide) (by decide) ?_
    refine r_aload_n X 0 d_Road_fact_87 rfl rfl ?_
    refine r_get X k_Road 3 (by decide) f_Road_38 rfl hc rfl d_Road_fact_88 ?_
    exact r_iret (post := fun r ad' c' => roadF 3 one oth len ran hei sha bri tim las wa w ic sn sa = r ∧ ad = ad' ∧ c = c') X hr hlk d_Road_fact_91 (by decide) (by decide) ⟨by (try simp only [roadF]); first | done | rfl | exact rup_id (by assumption), rfl, rfl⟩
  · refine r_tableIn X 92 d_Road_fact_1 (by decide) (by decide) (off := 91) (by decide) (by decide) ?_
    refine r_aload_n X 0 d_Road_fact_92 rfl rfl ?_
    refine r_get X k_Road 4 (by decide) f_Road_41 rfl hc rfl d_Road_fact_93 ?_
    exact r_iret (post := fun r ad' c' => roadF 4 one oth len ran hei sha bri tim las wa w ic sn sa = r ∧ ad = ad' ∧ c = c') X hr hlk d_Road_fact_96 (by decide) (by decide) ⟨by (try simp only [roadF]); first | done | rfl | exact rup_id (by assumption), rfl, rfl⟩
  · refine r_tableIn X 97 d_Road_fact_1 (by decide) (by decide) (off := 96) (by decide) (by decide) ?_
    refine r_aload_n X 0 d_Road_fact_97 rfl rfl ?_
    refine r_get X k_Road 5 (by decide) f_Road_44 rfl hc rfl d_Road_fact_98 ?_
    exact r_iret (post := fun r ad' c' => roadF 5 one oth len ran hei sha bri tim las wa w ic sn sa = r ∧ ad = ad' ∧ c = c') X hr hlk d_Road_fact_101 (by decide) (by decide) ⟨by (try simp only [roadF]); first | done | rfl | exact rup_id (by assumption), rfl, rfl⟩
  · refine r_tableIn X 102 d_Road_fact_1 (by decide) (by decide) (off := 101) (by decide) (by decide) ?_
    refine r_aload_n X 0 d_Road_fact_102 rfl rfl ?_
    refine r_get X k_Road 6 (by decide) f_Road_47 rfl hc rfl d_Road_fact_103 ?_
    refine r_cut (fun u9 : Int32 => u9 = (if bri = 0 then 0 else 1)) (fun _ => c) 114 (fun _ => [(0, .ref (ad n)), (1, .int (nI 6))]) (fun u9 => [.int u9]) (fun J9 => ?_) (fun t_1 ht_1 => ?_)
    · refine r_if_eq X 113 d_Road_fact_106 (by decide) (fun h9 => ?_) (fun h9 => ?_)
      · refine r_iconst X 0 d_Road_fact_113 (by decide) ?_
        exact J9 _ (if_pos h9).symm
      · refine r_iconst X 1 d_Road_fact_109 (by decide) ?_
        refine r_goto X 114 d_Road_fact_110 (by decide) ?_
        exact J9 _ (if_neg h9).symm
    subst ht_1
    exact r_iret (post := fun r ad' c' => roadF 6 one oth len ran hei sha bri tim las wa w ic sn sa = r ∧ ad = ad' ∧ c = c') X hr hlk d_Road_fact_114 (by decide) (by decide) ⟨by (try simp only [roadF]); first | done | rfl | exact rup_id (by assumption), rfl, rfl⟩
  · refine r_tableIn X 115 d_Road_fact_1 (by decide) (by decide) (off := 114) (by decide) (by decide) ?_
    refine r_aload_n X 0 d_Road_fact_115 rfl rfl ?_
    refine r_get X k_Road 7 (by decide) f_Road_12 rfl hc rfl d_Road_fact_116 ?_
    refine r_get X k_Surf 0 (by decide) f_Road_108 rfl hk rfl d_Road_fact_119 ?_
    exact r_iret (post := fun r ad' c' => roadF 7 one oth len ran hei sha bri tim las wa w ic sn sa = r ∧ ad = ad' ∧ c = c') X hr hlk d_Road_fact_122 (by decide) (by decide) ⟨by (try simp only [roadF]); first | done | rfl | exact rup_id (by assumption), rfl, rfl⟩
  · refine r_tableIn X 123 d_Road_fact_1 (by decide) (by decide) (off := 122) (by decide) (by decide) ?_
    refine r_aload_n X 0 d_Road_fact_123 rfl rfl ?_
    refine r_get X k_Road 7 (by decide) f_Road_12 rfl hc rfl d_Road_fact_124 ?_
    refine r_get X k_Surf 1 (by decide) f_Road_67 rfl hk rfl d_Road_fact_127 ?_
    exact r_iret (post := fun r ad' c' => roadF 8 one oth len ran hei sha bri tim las wa w ic sn sa = r ∧ ad = ad' ∧ c = c') X hr hlk d_Road_fact_130 (by decide) (by decide) ⟨by (try simp only [roadF]); first | done | rfl | exact rup_id (by assumption), rfl, rfl⟩
  · refine r_tableIn X 131 d_Road_fact_1 (by decide) (by decide) (off := 130) (by decide) (by decide) ?_
    refine r_aload_n X 0 d_Road_fact_131 rfl rfl ?_
    refine r_get X k_Road 7 (by decide) f_Road_12 rfl hc rfl d_Road_fact_132 ?_
    refine r_get X k_Surf 2 (by decide) f_Road_111 rfl hk rfl d_Road_fact_135 ?_
    exact r_iret (post := fun r ad' c' => roadF 9 one oth len ran hei sha bri tim las wa w ic sn sa = r ∧ ad = ad' ∧ c = c') X hr hlk d_Road_fact_138 (by decide) (by decide) ⟨by (try simp only [roadF]); first | done | rfl | exact rup_id (by assumption), rfl, rfl⟩
  · refine r_tableIn X 139 d_Road_fact_1 (by decide) (by decide) (off := 138) (by decide) (by decide) ?_
    refine r_aload_n X 0 d_Road_fact_139 rfl rfl ?_
    refine r_get X k_Road 7 (by decide) f_Road_12 rfl hc rfl d_Road_fact_140 ?_
    refine r_get X k_Surf 3 (by decide) f_Road_73 rfl hk rfl d_Road_fact_143 ?_
    exact r_iret (post := fun r ad' c' => roadF 10 one oth len ran hei sha bri tim las wa w ic sn sa = r ∧ ad = ad' ∧ c = c') X hr hlk d_Road_fact_146 (by decide) (by decide) ⟨by (try simp only [roadF]); first | done | rfl | exact rup_id (by assumption), rfl, rfl⟩
  · refine r_tableIn X 147 d_Road_fact_1 (by decide) (by decide) (off := 146) (by decide) (by decide) ?_
    refine r_aload_n X 0 d_Road_fact_147 rfl rfl ?_
    refine r_get X k_Road 7 (by decide) f_Road_12 rfl hc rfl d_Road_fact_148 ?_
    refine r_get X k_Surf 4 (by decide) f_Road_114 rfl hk rfl d_Road_fact_151 ?_
    exact r_iret (post := fun r ad' c' => roadF 11 one oth len ran hei sha bri tim las wa w ic sn sa = r ∧ ad = ad' ∧ c = c') X hr hlk d_Road_fact_154 (by decide) (by decide) ⟨by (try simp only [roadF]); first | done | rfl | exact rup_id (by assumption), rfl, rfl⟩
  · refine r_tableIn X 155 d_Road_fact_1 (by decide) (by decide) (off := 154) (by decide) (by decide) ?_
    refine r_aload_n X 0 d_Road_fact_155 rfl rfl ?_
    refine r_get X k_Road 7 (by decide) f_Road_12 rfl hc rfl d_Road_fact_156 ?_
    refine r_Vi X W0_good hN (c_Surf_point l D cy ad (c) ks wa w ic sn sa ri fi ro hk) yv_Surf_point m_Road_117 hk k_Surf.2.1 rfl rfl rfl ⟨by decide, by decide⟩ (Nat.le_of_ble_eq_true rfl) ⟨by decide, by decide⟩ d_Road_fact_159 (fun r9 ad9 c9 hp9 => ?_)
    obtain ⟨rfl, rfl, rfl⟩ := hp9
    exact r_iret (post := fun r ad' c' => roadF 12 one oth len ran hei sha bri tim las wa w ic sn sa = r ∧ ad = ad' ∧ c = c') X hr hlk d_Road_fact_162 (by decide) (by decide) ⟨by (try simp only [roadF]); first | done | rfl | exact rup_id (by assumption), rfl, rfl⟩
  · refine r_tableIn X 163 d_Road_fact_1 (by decide) (by decide) (off := 162) (by decide) (by decide) ?_
    refine r_aload_n X 0 d_Road_fact_163 rfl rfl ?_
    refine r_get X k_Road 10 (by decide) f_Road_96 rfl hc rfl d_Road_fact_164 ?_
    exact r_iret (post := fun r ad' c' => roadF 13 one oth len ran hei sha bri tim las wa w ic sn sa = r ∧ ad = ad' ∧ c = c') X hr hlk d_Road_fact_167 (by decide) (by decide) ⟨by (try simp only [roadF]); first | done | rfl | exact rup_id (by assumption), rfl, rfl⟩
  · refine r_tableOut X 168 d_Road_fact_1 (by decide) (by decide) ?_
    refine r_aload_n X 0 d_Road_fact_168 rfl rfl ?_
    refine r_get X k_Road 11 (by decide) f_Road_25 rfl hc rfl d_Road_fact_169 ?_
    exact r_iret (post := fun r ad' c' => roadF 14 one oth len ran hei sha bri tim las wa w ic sn sa = r ∧ ad = ad' ∧ c = c') X hr hlk d_Road_fact_172 (by decide) (by decide) ⟨by (try simp only [roadF]); first | done | rfl | exact rup_id (by assumption), rfl, rfl⟩
