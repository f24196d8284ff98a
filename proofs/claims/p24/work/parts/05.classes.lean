/-! classes and methods as the layer over the kit speaks of them, by program -/
theorem yv_G_pass : rYV W0 y_G_pass b_G_pass 4 rt_G_pass R_G 1 := ⟨wc_G_pass, wi_G_pass, we_G_pass, i_G, by decide +kernel⟩
theorem ys_G_isWithin : rYS W0 y_G_isWithin b_G_isWithin 3 rt_G_isWithin 3 := ⟨wc_G_isWithin, wi_G_isWithin, wz_G_isWithin, by decide +kernel⟩
theorem yv_G_passQuarter : rYV W0 y_G_passQuarter b_G_passQuarter 5 rt_G_passQuarter R_G 0 := ⟨wc_G_passQuarter, wi_G_passQuarter, we_G_passQuarter, i_G, by decide +kernel⟩
theorem yv_Road_weatherQuarter : rYV W0 y_Road_weatherQuarter b_Road_weatherQuarter 3 rt_Road_weatherQuarter R_Road 2 := ⟨wc_Road_weatherQuarter, wi_Road_weatherQuarter, we_Road_weatherQuarter, i_Road, by decide +kernel⟩
theorem yv_Road_goal : rYV W0 y_Road_goal b_Road_goal 3 rt_Road_goal R_Road 2 := ⟨wc_Road_goal, wi_Road_goal, we_Road_goal, i_Road, by decide +kernel⟩
theorem yv_Surf_comeNearer : rYV W0 y_Surf_comeNearer b_Surf_comeNearer 3 rt_Surf_comeNearer R_Surf 2 := ⟨wc_Surf_comeNearer, wi_Surf_comeNearer, we_Surf_comeNearer, i_Surf, by decide +kernel⟩
theorem ys_Math_min_7cf53 : rYS W0 y_Math_min_7cf53 b_Math_min_7cf53 2 rt_Math_min_7cf53 2 := ⟨wc_Math_min_7cf53, wi_Math_min_7cf53, wz_Math_min_7cf53, by decide +kernel⟩
theorem ys_Math_max_7cf53 : rYS W0 y_Math_max_7cf53 b_Math_max_7cf53 2 rt_Math_max_7cf53 2 := ⟨wc_Math_max_7cf53, wi_Math_max_7cf53, wz_Math_max_7cf53, by decide +kernel⟩
theorem yv_Surf_freezeOrThaw : rYV W0 y_Surf_freezeOrThaw b_Surf_freezeOrThaw 4 rt_Surf_freezeOrThaw R_Surf 0 := ⟨wc_Surf_freezeOrThaw, wi_Surf_freezeOrThaw, we_Surf_freezeOrThaw, i_Surf, by decide +kernel⟩
theorem yv_Surf_point : rYV W0 y_Surf_point b_Surf_point 3 rt_Surf_point R_Surf 0 := ⟨wc_Surf_point, wi_Surf_point, we_Surf_point, i_Surf, by decide +kernel⟩
theorem yv_Surf_runOff : rYV W0 y_Surf_runOff b_Surf_runOff 3 rt_Surf_runOff R_Surf 0 := ⟨wc_Surf_runOff, wi_Surf_runOff, we_Surf_runOff, i_Surf, by decide +kernel⟩
theorem yv_Surf_loseToFields : rYV W0 y_Surf_loseToFields b_Surf_loseToFields 3 rt_Surf_loseToFields R_Surf 1 := ⟨wc_Surf_loseToFields, wi_Surf_loseToFields, we_Surf_loseToFields, i_Surf, by decide +kernel⟩
theorem yv_Road_noteSlippery : rYV W0 y_Road_noteSlippery b_Road_noteSlippery 2 rt_Road_noteSlippery R_Road 1 := ⟨wc_Road_noteSlippery, wi_Road_noteSlippery, we_Road_noteSlippery, i_Road, by decide +kernel⟩
theorem yv_Surf_isSlippery : rYV W0 y_Surf_isSlippery b_Surf_isSlippery 1 rt_Surf_isSlippery R_Surf 0 := ⟨wc_Surf_isSlippery, wi_Surf_isSlippery, we_Surf_isSlippery, i_Surf, by decide +kernel⟩
theorem yv_G_work : rYV W0 y_G_work b_G_work 3 rt_G_work R_G 1 := ⟨wc_G_work, wi_G_work, we_G_work, i_G, by decide +kernel⟩
theorem yv_Lor_firstOrder : rYV W0 y_Lor_firstOrder b_Lor_firstOrder 1 rt_Lor_firstOrder R_Lor 0 := ⟨wc_Lor_firstOrder, wi_Lor_firstOrder, we_Lor_firstOrder, i_Lor, by decide +kernel⟩
theorem yv_G_roadAt : rYV W0 y_G_roadAt b_G_roadAt 2 rt_G_roadAt R_G 1 := ⟨wc_G_roadAt, wi_G_roadAt, we_G_roadAt, i_G, by decide +kernel⟩
theorem yv_Road_joins : rYV W0 y_Road_joins b_Road_joins 2 rt_Road_joins R_Road 1 := ⟨wc_Road_joins, wi_Road_joins, we_Road_joins, i_Road, by decide +kernel⟩
theorem yv_Lor_dropFirstOrder : rYV W0 y_Lor_dropFirstOrder b_Lor_dropFirstOrder 2 rt_Lor_dropFirstOrder R_Lor 0 := ⟨wc_Lor_dropFirstOrder, wi_Lor_dropFirstOrder, we_Lor_dropFirstOrder, i_Lor, by decide +kernel⟩
theorem yv_Road_otherEnd : rYV W0 y_Road_otherEnd b_Road_otherEnd 2 rt_Road_otherEnd R_Road 1 := ⟨wc_Road_otherEnd, wi_Road_otherEnd, we_Road_otherEnd, i_Road, by decide +kernel⟩
theorem yv_Lor_arrive : rYV W0 y_Lor_arrive b_Lor_arrive 1 rt_Lor_arrive R_Lor 0 := ⟨wc_Lor_arrive, wi_Lor_arrive, we_Lor_arrive, i_Lor, by decide +kernel⟩
theorem yv_G_treat : rYV W0 y_G_treat b_G_treat 4 rt_G_treat R_G 2 := ⟨wc_G_treat, wi_G_treat, we_G_treat, i_G, by decide +kernel⟩
theorem yv_Road_noteTreated : rYV W0 y_Road_noteTreated b_Road_noteTreated 2 rt_Road_noteTreated R_Road 1 := ⟨wc_Road_noteTreated, wi_Road_noteTreated, we_Road_noteTreated, i_Road, by decide +kernel⟩
theorem yv_G_takeDeliveries : rYV W0 y_G_takeDeliveries b_G_takeDeliveries 4 rt_G_takeDeliveries R_G 0 := ⟨wc_G_takeDeliveries, wi_G_takeDeliveries, we_G_takeDeliveries, i_G, by decide +kernel⟩
theorem yv_G_slipperyNow : rYV W0 y_G_slipperyNow b_G_slipperyNow 6 rt_G_slipperyNow R_G 0 := ⟨wc_G_slipperyNow, wi_G_slipperyNow, we_G_slipperyNow, i_G, by decide +kernel⟩
theorem yv_Road_wasSlippery : rYV W0 y_Road_wasSlippery b_Road_wasSlippery 2 rt_Road_wasSlippery R_Road 1 := ⟨wc_Road_wasSlippery, wi_Road_wasSlippery, we_Road_wasSlippery, i_Road, by decide +kernel⟩
theorem yv_G_ofRoad : rYV W0 y_G_ofRoad b_G_ofRoad 4 rt_G_ofRoad R_G 2 := ⟨wc_G_ofRoad, wi_G_ofRoad, we_G_ofRoad, i_G, by decide +kernel⟩
theorem yv_Road_fact : rYV W0 y_Road_fact b_Road_fact 2 rt_Road_fact R_Road 1 := ⟨wc_Road_fact, wi_Road_fact, we_Road_fact, i_Road, by decide +kernel⟩
theorem yv_G_slipperyIn : rYV W0 y_G_slipperyIn b_G_slipperyIn 4 rt_G_slipperyIn R_G 2 := ⟨wc_G_slipperyIn, wi_G_slipperyIn, we_G_slipperyIn, i_G, by decide +kernel⟩
theorem yv_G_firstSlippery : rYV W0 y_G_firstSlippery b_G_firstSlippery 5 rt_G_firstSlippery R_G 3 := ⟨wc_G_firstSlippery, wi_G_firstSlippery, we_G_firstSlippery, i_G, by decide +kernel⟩
theorem yv_Surf_becomeLike : rYV W0 y_Surf_becomeLike b_Surf_becomeLike 2 rt_Surf_becomeLike R_Surf 1 := ⟨wc_Surf_becomeLike, wi_Surf_becomeLike, we_Surf_becomeLike, i_Surf, by decide +kernel⟩
theorem yv_G_saltFor : rYV W0 y_G_saltFor b_G_saltFor 4 rt_G_saltFor R_G 2 := ⟨wc_G_saltFor, wi_G_saltFor, we_G_saltFor, i_G, by decide +kernel⟩
theorem yv_G_leastSalt : rYV W0 y_G_leastSalt b_G_leastSalt 4 rt_G_leastSalt R_G 2 := ⟨wc_G_leastSalt, wi_G_leastSalt, we_G_leastSalt, i_G, by decide +kernel⟩
theorem yv_G_digest : rYV W0 y_G_digest b_G_digest 7 rt_G_digest R_G 0 := ⟨wc_G_digest, wi_G_digest, we_G_digest, i_G, by decide +kernel⟩
theorem yv_G_countOf : rYV W0 y_G_countOf b_G_countOf 2 rt_G_countOf R_G 1 := ⟨wc_G_countOf, wi_G_countOf, we_G_countOf, i_G, by decide +kernel⟩
theorem yv_G_saltInHoppers : rYV W0 y_G_saltInHoppers b_G_saltInHoppers 6 rt_G_saltInHoppers R_G 0 := ⟨wc_G_saltInHoppers, wi_G_saltInHoppers, we_G_saltInHoppers, i_G, by decide +kernel⟩
theorem yv_G_saltOnRoads : rYV W0 y_G_saltOnRoads b_G_saltOnRoads 6 rt_G_saltOnRoads R_G 0 := ⟨wc_G_saltOnRoads, wi_G_saltOnRoads, we_G_saltOnRoads, i_G, by decide +kernel⟩
theorem yv_G_saltInRiver : rYV W0 y_G_saltInRiver b_G_saltInRiver 6 rt_G_saltInRiver R_G 0 := ⟨wc_G_saltInRiver, wi_G_saltInRiver, we_G_saltInRiver, i_G, by decide +kernel⟩
theorem yv_G_saltOnFields : rYV W0 y_G_saltOnFields b_G_saltOnFields 6 rt_G_saltOnFields R_G 0 := ⟨wc_G_saltOnFields, wi_G_saltOnFields, we_G_saltOnFields, i_G, by decide +kernel⟩
theorem yv_G_waterRunOff : rYV W0 y_G_waterRunOff b_G_waterRunOff 6 rt_G_waterRunOff R_G 0 := ⟨wc_G_waterRunOff, wi_G_waterRunOff, we_G_waterRunOff, i_G, by decide +kernel⟩
theorem yv_G_deliveriesOnTheirWay : rYV W0 y_G_deliveriesOnTheirWay b_G_deliveriesOnTheirWay 6 rt_G_deliveriesOnTheirWay R_G 0 := ⟨wc_G_deliveriesOnTheirWay, wi_G_deliveriesOnTheirWay, we_G_deliveriesOnTheirWay, i_G, by decide +kernel⟩
theorem yv_G_digestOfRoad : rYV W0 y_G_digestOfRoad b_G_digestOfRoad 7 rt_G_digestOfRoad R_G 2 := ⟨wc_G_digestOfRoad, wi_G_digestOfRoad, we_G_digestOfRoad, i_G, by decide +kernel⟩
theorem yv_G_answerTo : rYV W0 y_G_answerTo b_G_answerTo 4 rt_G_answerTo R_G 2 := ⟨wc_G_answerTo, wi_G_answerTo, we_G_answerTo, i_G, by decide +kernel⟩
theorem yv_Road_wasTreatedWithin : rYV W0 y_Road_wasTreatedWithin b_Road_wasTreatedWithin 5 rt_Road_wasTreatedWithin R_Road 2 := ⟨wc_Road_wasTreatedWithin, wi_Road_wasTreatedWithin, we_Road_wasTreatedWithin, i_Road, by decide +kernel⟩
theorem yv_G_lastWarning : rYV W0 y_G_lastWarning b_G_lastWarning 8 rt_G_lastWarning R_G 2 := ⟨wc_G_lastWarning, wi_G_lastWarning, we_G_lastWarning, i_G, by decide +kernel⟩
theorem yv_Road_notice : rYV W0 y_Road_notice b_Road_notice 1 rt_Road_notice R_Road 0 := ⟨wc_Road_notice, wi_Road_notice, we_Road_notice, i_Road, by decide +kernel⟩
theorem ys_G_digestOfLorry : rYS W0 y_G_digestOfLorry b_G_digestOfLorry 6 rt_G_digestOfLorry 2 := ⟨wc_G_digestOfLorry, wi_G_digestOfLorry, wz_G_digestOfLorry, by decide +kernel⟩
theorem yv_Lor_fact : rYV W0 y_Lor_fact b_Lor_fact 2 rt_Lor_fact R_Lor 1 := ⟨wc_Lor_fact, wi_Lor_fact, we_Lor_fact, i_Lor, by decide +kernel⟩
theorem yv_G_shortestWay : rYV W0 y_G_shortestWay b_G_shortestWay 8 rt_G_shortestWay R_G 2 := ⟨wc_G_shortestWay, wi_G_shortestWay, we_G_shortestWay, i_G, by decide +kernel⟩
theorem ys_Arrays_fill_53178 : rYS W0 y_Arrays_fill_53178 b_Arrays_fill_53178 4 rt_Arrays_fill_53178 2 := ⟨wc_Arrays_fill_53178, wi_Arrays_fill_53178, wz_Arrays_fill_53178, by decide +kernel⟩
theorem ys_G_lower : rYS W0 y_G_lower b_G_lower 3 rt_G_lower 3 := ⟨wc_G_lower, wi_G_lower, wz_G_lower, by decide +kernel⟩
theorem yv_G_lowerWay : rYV W0 y_G_lowerWay b_G_lowerWay 5 rt_G_lowerWay R_G 3 := ⟨wc_G_lowerWay, wi_G_lowerWay, we_G_lowerWay, i_G, by decide +kernel⟩
theorem ys_G_numberAt : rYS W0 y_G_numberAt b_G_numberAt 2 rt_G_numberAt 2 := ⟨wc_G_numberAt, wi_G_numberAt, wz_G_numberAt, by decide +kernel⟩
theorem yv_Rows_best : rYV W0 y_Rows_best b_Rows_best 8 rt_Rows_best R_Rows 2 := ⟨wc_Rows_best, wi_Rows_best, we_Rows_best, i_Rows, by decide +kernel⟩
theorem yv_Rows_bestWhole : rYV W0 y_Rows_bestWhole b_Rows_bestWhole 4 rt_Rows_bestWhole R_Rows 1 := ⟨wc_Rows_bestWhole, wi_Rows_bestWhole, we_Rows_bestWhole, i_Rows, by decide +kernel⟩
theorem yv_Rows_lengthen : rYV W0 y_Rows_lengthen b_Rows_lengthen 9 rt_Rows_lengthen R_Rows 2 := ⟨wc_Rows_lengthen, wi_Rows_lengthen, we_Rows_lengthen, i_Rows, by decide +kernel⟩
theorem yv_Rows_goAlong : rYV W0 y_Rows_goAlong b_Rows_goAlong 8 rt_Rows_goAlong R_Rows 4 := ⟨wc_Rows_goAlong, wi_Rows_goAlong, we_Rows_goAlong, i_Rows, by decide +kernel⟩
theorem yi_Told_init : rYI W0 y_Told_init b_Told_init 3 2 := ⟨wc_Told_init, wi_Told_init, wz_Told_init, rfl, by decide +kernel⟩
theorem yi_G_init : rYI W0 y_G_init b_G_init 1 0 := ⟨wc_G_init, wi_G_init, wz_G_init, rfl, by decide +kernel⟩
theorem yi_Wea_init : rYI W0 y_Wea_init b_Wea_init 1 0 := ⟨wc_Wea_init, wi_Wea_init, wz_Wea_init, rfl, by decide +kernel⟩
theorem yi_Surf_init : rYI W0 y_Surf_init b_Surf_init 1 0 := ⟨wc_Surf_init, wi_Surf_init, wz_Surf_init, rfl, by decide +kernel⟩
theorem yi_Rows_init : rYI W0 y_Rows_init b_Rows_init 1 0 := ⟨wc_Rows_init, wi_Rows_init, wz_Rows_init, rfl, by decide +kernel⟩
theorem yv_Told_draw : rYV W0 y_Told_draw b_Told_draw 3 rt_Told_draw R_Told 1 := ⟨wc_Told_draw, wi_Told_draw, we_Told_draw, i_Told, by decide +kernel⟩
theorem ys_Law_cell : rYS W0 y_Law_cell b_Law_cell 2 rt_Law_cell 2 := ⟨wc_Law_cell, wi_Law_cell, wz_Law_cell, by decide +kernel⟩
theorem ys_Law_below : rYS W0 y_Law_below b_Law_below 2 rt_Law_below 2 := ⟨wc_Law_below, wi_Law_below, wz_Law_below, by decide +kernel⟩
theorem yv_Told_lorry : rYV W0 y_Told_lorry b_Told_lorry 3 rt_Told_lorry R_Told 1 := ⟨wc_Told_lorry, wi_Told_lorry, we_Told_lorry, i_Told, by decide +kernel⟩
theorem yv_G_lorry : rYV W0 y_G_lorry b_G_lorry 3 rt_G_lorry R_G 1 := ⟨wc_G_lorry, wi_G_lorry, we_G_lorry, i_G, by decide +kernel⟩
theorem yi_Lor_init : rYI W0 y_Lor_init b_Lor_init 2 1 := ⟨wc_Lor_init, wi_Lor_init, wz_Lor_init, rfl, by decide +kernel⟩
theorem yv_Told_sky : rYV W0 y_Told_sky b_Told_sky 7 rt_Told_sky R_Told 5 := ⟨wc_Told_sky, wi_Told_sky, we_Told_sky, i_Told, by decide +kernel⟩
theorem yv_G_air : rYV W0 y_G_air b_G_air 4 rt_G_air R_G 2 := ⟨wc_G_air, wi_G_air, we_G_air, i_G, by decide +kernel⟩
theorem ys_G_isAir : rYS W0 y_G_isAir b_G_isAir 1 rt_G_isAir 1 := ⟨wc_G_isAir, wi_G_isAir, wz_G_isAir, by decide +kernel⟩
theorem yv_G_fall : rYV W0 y_G_fall b_G_fall 5 rt_G_fall R_G 3 := ⟨wc_G_fall, wi_G_fall, we_G_fall, i_G, by decide +kernel⟩
theorem yv_Told_found : rYV W0 y_Told_found b_Told_found 4 rt_Told_found R_Told 1 := ⟨wc_Told_found, wi_Told_found, we_Told_found, i_Told, by decide +kernel⟩
theorem yv_Told_road : rYV W0 y_Told_road b_Told_road 9 rt_Told_road R_Told 7 := ⟨wc_Told_road, wi_Told_road, we_Told_road, i_Told, by decide +kernel⟩
theorem yv_G_road : rYV W0 y_G_road b_G_road 9 rt_G_road R_G 7 := ⟨wc_G_road, wi_G_road, we_G_road, i_G, by decide +kernel⟩
theorem ys_G_isNode : rYS W0 y_G_isNode b_G_isNode 1 rt_G_isNode 1 := ⟨wc_G_isNode, wi_G_isNode, wz_G_isNode, by decide +kernel⟩
theorem yi_Road_init : rYI W0 y_Road_init b_Road_init 8 7 := ⟨wc_Road_init, wi_Road_init, wz_Road_init, rfl, by decide +kernel⟩
theorem ys_Law_isDriven : rYS W0 y_Law_isDriven b_Law_isDriven 12 rt_Law_isDriven 2 := ⟨wc_Law_isDriven, wi_Law_isDriven, wz_Law_isDriven, by decide +kernel⟩
theorem yv_G_rest : rYV W0 y_G_rest b_G_rest 4 rt_G_rest R_G 1 := ⟨wc_G_rest, wi_G_rest, we_G_rest, i_G, by decide +kernel⟩
theorem yv_G_lorryAt : rYV W0 y_G_lorryAt b_G_lorryAt 2 rt_G_lorryAt R_G 1 := ⟨wc_G_lorryAt, wi_G_lorryAt, we_G_lorryAt, i_G, by decide +kernel⟩
theorem yv_G_ofLorry : rYV W0 y_G_ofLorry b_G_ofLorry 4 rt_G_ofLorry R_G 2 := ⟨wc_G_ofLorry, wi_G_ofLorry, we_G_ofLorry, i_G, by decide +kernel⟩
theorem yv_G_bestOrders : rYV W0 y_G_bestOrders b_G_bestOrders 3 rt_G_bestOrders R_G 2 := ⟨wc_G_bestOrders, wi_G_bestOrders, we_G_bestOrders, i_G, by decide +kernel⟩
theorem yv_G_order : rYV W0 y_G_order b_G_order 4 rt_G_order R_G 2 := ⟨wc_G_order, wi_G_order, we_G_order, i_G, by decide +kernel⟩
theorem yv_Lor_addOrder : rYV W0 y_Lor_addOrder b_Lor_addOrder 2 rt_Lor_addOrder R_Lor 1 := ⟨wc_Lor_addOrder, wi_Lor_addOrder, we_Lor_addOrder, i_Lor, by decide +kernel⟩
theorem yv_G_many : rYV W0 y_G_many b_G_many 2 rt_G_many R_G 1 := ⟨wc_G_many, wi_G_many, we_G_many, i_G, by decide +kernel⟩
theorem k_Surf : rF W0 cls 0 R_Surf T_Surf 8 ty_Surf := ⟨by decide +kernel, rfl, by decide +kernel, by decide +kernel⟩
theorem k_Wea : rF W0 cls 1 R_Wea T_Wea 5 ty_Wea := ⟨by decide +kernel, rfl, by decide +kernel, by decide +kernel⟩
theorem k_Road : rF W0 cls 2 R_Road T_Road 12 ty_Road := ⟨by decide +kernel, rfl, by decide +kernel, by decide +kernel⟩
theorem k_Lor : rF W0 cls 3 R_Lor T_Lor 10 ty_Lor := ⟨by decide +kernel, rfl, by decide +kernel, by decide +kernel⟩
theorem k_Rows : rF W0 cls 4 R_Rows T_Rows 2 ty_Rows := ⟨by decide +kernel, rfl, by decide +kernel, by decide +kernel⟩
theorem k_G : rF W0 cls 5 R_G T_G 16 ty_G := ⟨by decide +kernel, rfl, by decide +kernel, by decide +kernel⟩
theorem k_Told : rF W0 cls 6 R_Told T_Told 21 ty_Told := ⟨by decide +kernel, rfl, by decide +kernel, by decide +kernel⟩
abbrev TY (cy : Nat → ClassId) : List (ClassId × FieldType) := [(cy 0, .int), (cy 1, .boolean), (cy 2, .object R_Road), (cy 3, .object R_Lor), (cy 4, .object R_Fc), (cy 5, .object R_Del), (cy 6, .array .int), (cy 7, .array .boolean)]
def NW : List Cond := [Cond.methodLinkNest R_Rows 31 y_G_lower R_G, Cond.methodLinkNest R_Rows 44 y_G_numberAt R_G, Cond.methodLinkNest R_G 35 y_Wea_init R_G, Cond.methodLinkNest R_G 42 y_Surf_init R_G, Cond.methodLinkNest R_G 53 y_Rows_init R_G, Cond.methodLinkNest R_Told 49 y_Law_cell R_Law, Cond.methodLinkNest R_Told 55 y_Law_below R_Law, Cond.methodLinkNest R_Road 11 y_Surf_init R_G, Cond.arrayOver (.object R_Road), Cond.arrayOver (.object R_Lor), Cond.arrayOver (.object R_Fc), Cond.arrayOver (.object R_Del)]
theorem w_Rows_31 : Cond.methodLinkNest R_Rows 31 y_G_lower R_G ∈ NW := List.mem_of_getElem? (i := 0) rfl
theorem w_Rows_44 : Cond.methodLinkNest R_Rows 44 y_G_numberAt R_G ∈ NW := List.mem_of_getElem? (i := 1) rfl
theorem w_G_35 : Cond.methodLinkNest R_G 35 y_Wea_init R_G ∈ NW := List.mem_of_getElem? (i := 2) rfl
theorem w_G_42 : Cond.methodLinkNest R_G 42 y_Surf_init R_G ∈ NW := List.mem_of_getElem? (i := 3) rfl
theorem w_G_53 : Cond.methodLinkNest R_G 53 y_Rows_init R_G ∈ NW := List.mem_of_getElem? (i := 4) rfl
theorem w_Told_49 : Cond.methodLinkNest R_Told 49 y_Law_cell R_Law ∈ NW := List.mem_of_getElem? (i := 5) rfl
theorem w_Told_55 : Cond.methodLinkNest R_Told 55 y_Law_below R_Law ∈ NW := List.mem_of_getElem? (i := 6) rfl
theorem w_Road_11 : Cond.methodLinkNest R_Road 11 y_Surf_init R_G ∈ NW := List.mem_of_getElem? (i := 7) rfl
theorem o_Road : Cond.arrayOver (.object R_Road) ∈ NW := List.mem_of_getElem? (i := 8) rfl
theorem o_Lor : Cond.arrayOver (.object R_Lor) ∈ NW := List.mem_of_getElem? (i := 9) rfl
theorem o_Fc : Cond.arrayOver (.object R_Fc) ∈ NW := List.mem_of_getElem? (i := 10) rfl
theorem o_Del : Cond.arrayOver (.object R_Del) ∈ NW := List.mem_of_getElem? (i := 11) rfl
