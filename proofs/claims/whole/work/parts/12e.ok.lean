set_option maxRecDepth 100000 in
theorem xo_M_aroma_0 : xevery (xchF m_M_aroma false) 0 147 = true := by decide +kernel
theorem xo_M_aroma : xMOK xprog m_M_aroma := xMOK_of (ini := false) (N := 147) _ xmf_M_aroma (fun h => nomatch h) (xhh_nil rfl) (fun _ _ h => xcd_guard h) (fun n h => xevery_ok _ _ xo_M_aroma_0 n (by omega) (by omega))
set_option maxRecDepth 100000 in
theorem xo_M_smell_0 : xevery (xchF m_M_smell false) 0 61 = true := by decide +kernel
theorem xo_M_smell : xMOK xprog m_M_smell := xMOK_of (ini := false) (N := 61) _ xmf_M_smell (fun h => nomatch h) (xhh_nil rfl) (fun _ _ h => xcd_guard h) (fun n h => xevery_ok _ _ xo_M_smell_0 n (by omega) (by omega))
set_option maxRecDepth 100000 in
theorem xo_M_best_0 : xevery (xchF m_M_best false) 0 34 = true := by decide +kernel
theorem xo_M_best : xMOK xprog m_M_best := xMOK_of (ini := false) (N := 34) _ xmf_M_best (fun h => nomatch h) (xhh_nil rfl) (fun _ _ h => xcd_guard h) (fun n h => xevery_ok _ _ xo_M_best_0 n (by omega) (by omega))
set_option maxRecDepth 100000 in
theorem xo_M_measure_0 : xevery (xchF m_M_measure false) 0 98 = true := by decide +kernel
theorem xo_M_measure : xMOK xprog m_M_measure := xMOK_of (ini := false) (N := 98) _ xmf_M_measure (fun h => nomatch h) (xhh_nil rfl) (fun _ _ h => xcd_guard h) (fun n h => xevery_ok _ _ xo_M_measure_0 n (by omega) (by omega))
set_option maxRecDepth 100000 in
theorem xo_M_joined_0 : xevery (xchF m_M_joined false) 0 150 = true := by decide +kernel
set_option maxRecDepth 100000 in
theorem xo_M_joined_1 : xevery (xchF m_M_joined false) 150 59 = true := by decide +kernel
theorem xo_M_joined : xMOK xprog m_M_joined := xMOK_of (ini := false) (N := 209) _ xmf_M_joined (fun h => nomatch h) (xhh_nil rfl) (fun _ _ h => xcd_guard h) (fun n h => (Nat.lt_or_ge n 150).elim (fun q2 => xevery_ok _ _ xo_M_joined_0 n (by omega) (by omega)) (fun q2 => xevery_ok _ _ xo_M_joined_1 n (by omega) (by omega)))
set_option maxRecDepth 100000 in
theorem xo_M_rule_0 : xevery (xchF m_M_rule false) 0 150 = true := by decide +kernel
set_option maxRecDepth 100000 in
theorem xo_M_rule_1 : xevery (xchF m_M_rule false) 150 113 = true := by decide +kernel
theorem xo_M_rule : xMOK xprog m_M_rule := xMOK_of (ini := false) (N := 263) _ xmf_M_rule (fun h => nomatch h) (xhh_nil rfl) (fun _ _ h => xcd_guard h) (fun n h => (Nat.lt_or_ge n 150).elim (fun q2 => xevery_ok _ _ xo_M_rule_0 n (by omega) (by omega)) (fun q2 => xevery_ok _ _ xo_M_rule_1 n (by omega) (by omega)))
set_option maxRecDepth 100000 in
theorem xo_M_speed_0 : xevery (xchF m_M_speed false) 0 29 = true := by decide +kernel
theorem xo_M_speed : xMOK xprog m_M_speed := xMOK_of (ini := false) (N := 29) _ xmf_M_speed (fun h => nomatch h) (xhh_nil rfl) (fun _ _ h => xcd_guard h) (fun n h => xevery_ok _ _ xo_M_speed_0 n (by omega) (by omega))
set_option maxRecDepth 100000 in
theorem xo_M_isAtHome_0 : xevery (xchF m_M_isAtHome false) 0 42 = true := by decide +kernel
theorem xo_M_isAtHome : xMOK xprog m_M_isAtHome := xMOK_of (ini := false) (N := 42) _ xmf_M_isAtHome (fun h => nomatch h) (xhh_nil rfl) (fun _ _ h => xcd_guard h) (fun n h => xevery_ok _ _ xo_M_isAtHome_0 n (by omega) (by omega))
set_option maxRecDepth 100000 in
theorem xo_M_cell_0 : xevery (xchF m_M_cell false) 0 22 = true := by decide +kernel
theorem xo_M_cell : xMOK xprog m_M_cell := xMOK_of (ini := false) (N := 22) _ xmf_M_cell (fun h => nomatch h) (xhh_nil rfl) (fun _ _ h => xcd_guard h) (fun n h => xevery_ok _ _ xo_M_cell_0 n (by omega) (by omega))
set_option maxRecDepth 100000 in
theorem xo_M_moves_0 : xevery (xchF m_M_moves false) 0 70 = true := by decide +kernel
theorem xo_M_moves : xMOK xprog m_M_moves := xMOK_of (ini := false) (N := 70) _ xmf_M_moves (fun h => nomatch h) (xhh_nil rfl) (fun _ _ h => xcd_guard h) (fun n h => xevery_ok _ _ xo_M_moves_0 n (by omega) (by omega))
set_option maxRecDepth 100000 in
theorem xo_M_goes_0 : xevery (xchF m_M_goes false) 0 138 = true := by decide +kernel
theorem xo_M_goes : xMOK xprog m_M_goes := xMOK_of (ini := false) (N := 138) _ xmf_M_goes (fun h => nomatch h) (xhh_nil rfl) (fun _ _ h => xcd_guard h) (fun n h => xevery_ok _ _ xo_M_goes_0 n (by omega) (by omega))
set_option maxRecDepth 100000 in
theorem xo_M_comes_0 : xevery (xchF m_M_comes false) 0 92 = true := by decide +kernel
theorem xo_M_comes : xMOK xprog m_M_comes := xMOK_of (ini := false) (N := 92) _ xmf_M_comes (fun h => nomatch h) (xhh_nil rfl) (fun _ _ h => xcd_guard h) (fun n h => xevery_ok _ _ xo_M_comes_0 n (by omega) (by omega))
set_option maxRecDepth 100000 in
theorem xo_M_hoursOn_0 : xevery (xchF m_M_hoursOn false) 0 121 = true := by decide +kernel
theorem xo_M_hoursOn : xMOK xprog m_M_hoursOn := xMOK_of (ini := false) (N := 121) _ xmf_M_hoursOn (fun h => nomatch h) (xhh_nil rfl) (fun _ _ h => xcd_guard h) (fun n h => xevery_ok _ _ xo_M_hoursOn_0 n (by omega) (by omega))
set_option maxRecDepth 100000 in
theorem xo_M_allPoints_0 : xevery (xchF m_M_allPoints false) 0 32 = true := by decide +kernel
theorem xo_M_allPoints : xMOK xprog m_M_allPoints := xMOK_of (ini := false) (N := 32) _ xmf_M_allPoints (fun h => nomatch h) (xhh_nil rfl) (fun _ _ h => xcd_guard h) (fun n h => xevery_ok _ _ xo_M_allPoints_0 n (by omega) (by omega))
set_option maxRecDepth 100000 in
theorem xo_M_columns_0 : xevery (xchF m_M_columns false) 0 12 = true := by decide +kernel
theorem xo_M_columns : xMOK xprog m_M_columns := xMOK_of (ini := false) (N := 12) _ xmf_M_columns (fun h => nomatch h) (xhh_nil rfl) (fun _ _ h => xcd_guard h) (fun n h => xevery_ok _ _ xo_M_columns_0 n (by omega) (by omega))
set_option maxRecDepth 100000 in
theorem xo_M_rows_0 : xevery (xchF m_M_rows false) 0 12 = true := by decide +kernel
theorem xo_M_rows : xMOK xprog m_M_rows := xMOK_of (ini := false) (N := 12) _ xmf_M_rows (fun h => nomatch h) (xhh_nil rfl) (fun _ _ h => xcd_guard h) (fun n h => xevery_ok _ _ xo_M_rows_0 n (by omega) (by omega))
set_option maxRecDepth 100000 in
theorem xo_M_kettles_0 : xevery (xchF m_M_kettles false) 0 12 = true := by decide +kernel
theorem xo_M_kettles : xMOK xprog m_M_kettles := xMOK_of (ini := false) (N := 12) _ xmf_M_kettles (fun h => nomatch h) (xhh_nil rfl) (fun _ _ h => xcd_guard h) (fun n h => xevery_ok _ _ xo_M_kettles_0 n (by omega) (by omega))
set_option maxRecDepth 100000 in
theorem xo_M_clippers_0 : xevery (xchF m_M_clippers false) 0 12 = true := by decide +kernel
theorem xo_M_clippers : xMOK xprog m_M_clippers := xMOK_of (ini := false) (N := 12) _ xmf_M_clippers (fun h => nomatch h) (xhh_nil rfl) (fun _ _ h => xcd_guard h) (fun n h => xevery_ok _ _ xo_M_clippers_0 n (by omega) (by omega))
set_option maxRecDepth 100000 in
theorem xo_M_isClipper_0 : xevery (xchF m_M_isClipper false) 0 15 = true := by decide +kernel
theorem xo_M_isClipper : xMOK xprog m_M_isClipper := xMOK_of (ini := false) (N := 15) _ xmf_M_isClipper (fun h => nomatch h) (xhh_nil rfl) (fun _ _ h => xcd_guard h) (fun n h => xevery_ok _ _ xo_M_isClipper_0 n (by omega) (by omega))
set_option maxRecDepth 100000 in
theorem xo_M_isKettle_0 : xevery (xchF m_M_isKettle false) 0 15 = true := by decide +kernel
theorem xo_M_isKettle : xMOK xprog m_M_isKettle := xMOK_of (ini := false) (N := 15) _ xmf_M_isKettle (fun h => nomatch h) (xhh_nil rfl) (fun _ _ h => xcd_guard h) (fun n h => xevery_ok _ _ xo_M_isKettle_0 n (by omega) (by omega))
set_option maxRecDepth 100000 in
theorem xo_M_hasCustoms_0 : xevery (xchF m_M_hasCustoms false) 0 41 = true := by decide +kernel
theorem xo_M_hasCustoms : xMOK xprog m_M_hasCustoms := xMOK_of (ini := false) (N := 41) _ xmf_M_hasCustoms (fun h => nomatch h) (xhh_nil rfl) (fun _ _ h => xcd_guard h) (fun n h => xevery_ok _ _ xo_M_hasCustoms_0 n (by omega) (by omega))
set_option maxRecDepth 100000 in
theorem xo_M_hasSteam_0 : xevery (xchF m_M_hasSteam false) 0 59 = true := by decide +kernel
theorem xo_M_hasSteam : xMOK xprog m_M_hasSteam := xMOK_of (ini := false) (N := 59) _ xmf_M_hasSteam (fun h => nomatch h) (xhh_nil rfl) (fun _ _ h => xcd_guard h) (fun n h => xevery_ok _ _ xo_M_hasSteam_0 n (by omega) (by omega))
set_option maxRecDepth 100000 in
theorem xo_M_aromaAt_0 : xevery (xchF m_M_aromaAt false) 0 29 = true := by decide +kernel
theorem xo_M_aromaAt : xMOK xprog m_M_aromaAt := xMOK_of (ini := false) (N := 29) _ xmf_M_aromaAt (fun h => nomatch h) (xhh_nil rfl) (fun _ _ h => xcd_guard h) (fun n h => xevery_ok _ _ xo_M_aromaAt_0 n (by omega) (by omega))
set_option maxRecDepth 100000 in
theorem xo_M_becalmedFor_0 : xevery (xchF m_M_becalmedFor false) 0 28 = true := by decide +kernel
theorem xo_M_becalmedFor : xMOK xprog m_M_becalmedFor := xMOK_of (ini := false) (N := 28) _ xmf_M_becalmedFor (fun h => nomatch h) (xhh_nil rfl) (fun _ _ h => xcd_guard h) (fun n h => xevery_ok _ _ xo_M_becalmedFor_0 n (by omega) (by omega))
set_option maxRecDepth 100000 in
theorem xo_M_visitsTo_0 : xevery (xchF m_M_visitsTo false) 0 28 = true := by decide +kernel
theorem xo_M_visitsTo : xMOK xprog m_M_visitsTo := xMOK_of (ini := false) (N := 28) _ xmf_M_visitsTo (fun h => nomatch h) (xhh_nil rfl) (fun _ _ h => xcd_guard h) (fun n h => xevery_ok _ _ xo_M_visitsTo_0 n (by omega) (by omega))
set_option maxRecDepth 100000 in
theorem xo_M_windDirection_0 : xevery (xchF m_M_windDirection false) 0 11 = true := by decide +kernel
theorem xo_M_windDirection : xMOK xprog m_M_windDirection := xMOK_of (ini := false) (N := 11) _ xmf_M_windDirection (fun h => nomatch h) (xhh_nil rfl) (fun _ _ h => xcd_guard h) (fun n h => xevery_ok _ _ xo_M_windDirection_0 n (by omega) (by omega))
set_option maxRecDepth 100000 in
theorem xo_M_windForce_0 : xevery (xchF m_M_windForce false) 0 11 = true := by decide +kernel
theorem xo_M_windForce : xMOK xprog m_M_windForce := xMOK_of (ini := false) (N := 11) _ xmf_M_windForce (fun h => nomatch h) (xhh_nil rfl) (fun _ _ h => xcd_guard h) (fun n h => xevery_ok _ _ xo_M_windForce_0 n (by omega) (by omega))
set_option maxRecDepth 100000 in
theorem xo_M_hour_0 : xevery (xchF m_M_hour false) 0 11 = true := by decide +kernel
theorem xo_M_hour : xMOK xprog m_M_hour := xMOK_of (ini := false) (N := 11) _ xmf_M_hour (fun h => nomatch h) (xhh_nil rfl) (fun _ _ h => xcd_guard h) (fun n h => xevery_ok _ _ xo_M_hour_0 n (by omega) (by omega))
set_option maxRecDepth 100000 in
theorem xo_M_clipper_0 : xevery (xchF m_M_clipper false) 0 28 = true := by decide +kernel
theorem xo_M_clipper : xMOK xprog m_M_clipper := xMOK_of (ini := false) (N := 28) _ xmf_M_clipper (fun h => nomatch h) (xhh_nil rfl) (fun _ _ h => xcd_guard h) (fun n h => xevery_ok _ _ xo_M_clipper_0 n (by omega) (by omega))
set_option maxRecDepth 100000 in
theorem xo_M_columnOf_0 : xevery (xchF m_M_columnOf false) 0 7 = true := by decide +kernel
theorem xo_M_columnOf : xMOK xprog m_M_columnOf := xMOK_of (ini := false) (N := 7) _ xmf_M_columnOf (fun h => nomatch h) (xhh_nil rfl) (fun _ _ h => xcd_guard h) (fun n h => xevery_ok _ _ xo_M_columnOf_0 n (by omega) (by omega))
set_option maxRecDepth 100000 in
theorem xo_M_rowOf_0 : xevery (xchF m_M_rowOf false) 0 7 = true := by decide +kernel
theorem xo_M_rowOf : xMOK xprog m_M_rowOf := xMOK_of (ini := false) (N := 7) _ xmf_M_rowOf (fun h => nomatch h) (xhh_nil rfl) (fun _ _ h => xcd_guard h) (fun n h => xevery_ok _ _ xo_M_rowOf_0 n (by omega) (by omega))
set_option maxRecDepth 100000 in
theorem xo_M_isHome_0 : xevery (xchF m_M_isHome false) 0 27 = true := by decide +kernel
theorem xo_M_isHome : xMOK xprog m_M_isHome := xMOK_of (ini := false) (N := 27) _ xmf_M_isHome (fun h => nomatch h) (xhh_nil rfl) (fun _ _ h => xcd_guard h) (fun n h => xevery_ok _ _ xo_M_isHome_0 n (by omega) (by omega))
set_option maxRecDepth 100000 in
theorem xo_M_leafOf_0 : xevery (xchF m_M_leafOf false) 0 7 = true := by decide +kernel
theorem xo_M_leafOf : xMOK xprog m_M_leafOf := xMOK_of (ini := false) (N := 7) _ xmf_M_leafOf (fun h => nomatch h) (xhh_nil rfl) (fun _ _ h => xcd_guard h) (fun n h => xevery_ok _ _ xo_M_leafOf_0 n (by omega) (by omega))
set_option maxRecDepth 100000 in
theorem xo_M_wayOf_0 : xevery (xchF m_M_wayOf false) 0 7 = true := by decide +kernel
theorem xo_M_wayOf : xMOK xprog m_M_wayOf := xMOK_of (ini := false) (N := 7) _ xmf_M_wayOf (fun h => nomatch h) (xhh_nil rfl) (fun _ _ h => xcd_guard h) (fun n h => xevery_ok _ _ xo_M_wayOf_0 n (by omega) (by omega))
set_option maxRecDepth 100000 in
theorem xo_M_speedOf_0 : xevery (xchF m_M_speedOf false) 0 27 = true := by decide +kernel
theorem xo_M_speedOf : xMOK xprog m_M_speedOf := xMOK_of (ini := false) (N := 27) _ xmf_M_speedOf (fun h => nomatch h) (xhh_nil rfl) (fun _ _ h => xcd_guard h) (fun n h => xevery_ok _ _ xo_M_speedOf_0 n (by omega) (by omega))
set_option maxRecDepth 100000 in
theorem xo_M_pointsOf_0 : xevery (xchF m_M_pointsOf false) 0 7 = true := by decide +kernel
theorem xo_M_pointsOf : xMOK xprog m_M_pointsOf := xMOK_of (ini := false) (N := 7) _ xmf_M_pointsOf (fun h => nomatch h) (xhh_nil rfl) (fun _ _ h => xcd_guard h) (fun n h => xevery_ok _ _ xo_M_pointsOf_0 n (by omega) (by omega))
set_option maxRecDepth 100000 in
theorem xo_M_sipsOf_0 : xevery (xchF m_M_sipsOf false) 0 7 = true := by decide +kernel
theorem xo_M_sipsOf : xMOK xprog m_M_sipsOf := xMOK_of (ini := false) (N := 7) _ xmf_M_sipsOf (fun h => nomatch h) (xhh_nil rfl) (fun _ _ h => xcd_guard h) (fun n h => xevery_ok _ _ xo_M_sipsOf_0 n (by omega) (by omega))
set_option maxRecDepth 100000 in
theorem xo_M_smells_0 : xevery (xchF m_M_smells false) 0 37 = true := by decide +kernel
theorem xo_M_smells : xMOK xprog m_M_smells := xMOK_of (ini := false) (N := 37) _ xmf_M_smells (fun h => nomatch h) (xhh_nil rfl) (fun _ _ h => xcd_guard h) (fun n h => xevery_ok _ _ xo_M_smells_0 n (by omega) (by omega))
set_option maxRecDepth 100000 in
theorem xo_M_ruleTells_0 : xevery (xchF m_M_ruleTells false) 0 27 = true := by decide +kernel
theorem xo_M_ruleTells : xMOK xprog m_M_ruleTells := xMOK_of (ini := false) (N := 27) _ xmf_M_ruleTells (fun h => nomatch h) (xhh_nil rfl) (fun _ _ h => xcd_guard h) (fun n h => xevery_ok _ _ xo_M_ruleTells_0 n (by omega) (by omega))
set_option maxRecDepth 100000 in
theorem xo_M_wouldStay_0 : xevery (xchF m_M_wouldStay false) 0 35 = true := by decide +kernel
theorem xo_M_wouldStay : xMOK xprog m_M_wouldStay := xMOK_of (ini := false) (N := 35) _ xmf_M_wouldStay (fun h => nomatch h) (xhh_nil rfl) (fun _ _ h => xcd_guard h) (fun n h => xevery_ok _ _ xo_M_wouldStay_0 n (by omega) (by omega))
set_option maxRecDepth 100000 in
theorem xo_M_steersTo_0 : xevery (xchF m_M_steersTo false) 0 43 = true := by decide +kernel
theorem xo_M_steersTo : xMOK xprog m_M_steersTo := xMOK_of (ini := false) (N := 43) _ xmf_M_steersTo (fun h => nomatch h) (xhh_nil rfl) (fun _ _ h => xcd_guard h) (fun n h => xevery_ok _ _ xo_M_steersTo_0 n (by omega) (by omega))
set_option maxRecDepth 100000 in
theorem xo_M_leader_0 : xevery (xchF m_M_leader false) 0 83 = true := by decide +kernel
theorem xo_M_leader : xMOK xprog m_M_leader := xMOK_of (ini := false) (N := 83) _ xmf_M_leader (fun h => nomatch h) (xhh_nil rfl) (fun _ _ h => xcd_guard h) (fun n h => xevery_ok _ _ xo_M_leader_0 n (by omega) (by omega))
set_option maxRecDepth 100000 in
theorem xo_M_setWind_0 : xevery (xchF m_M_setWind false) 0 58 = true := by decide +kernel
theorem xo_M_setWind : xMOK xprog m_M_setWind := xMOK_of (ini := false) (N := 58) _ xmf_M_setWind (fun h => nomatch h) (xhh_nil rfl) (fun _ _ h => xcd_guard h) (fun n h => xevery_ok _ _ xo_M_setWind_0 n (by omega) (by omega))
set_option maxRecDepth 100000 in
theorem xo_M_jettison_0 : xevery (xchF m_M_jettison false) 0 67 = true := by decide +kernel
theorem xo_M_jettison : xMOK xprog m_M_jettison := xMOK_of (ini := false) (N := 67) _ xmf_M_jettison (fun h => nomatch h) (xhh_nil rfl) (fun _ _ h => xcd_guard h) (fun n h => xevery_ok _ _ xo_M_jettison_0 n (by omega) (by omega))
set_option maxRecDepth 100000 in
theorem xo_M_calmKettle_0 : xevery (xchF m_M_calmKettle false) 0 51 = true := by decide +kernel
theorem xo_M_calmKettle : xMOK xprog m_M_calmKettle := xMOK_of (ini := false) (N := 51) _ xmf_M_calmKettle (fun h => nomatch h) (xhh_nil rfl) (fun _ _ h => xcd_guard h) (fun n h => xevery_ok _ _ xo_M_calmKettle_0 n (by omega) (by omega))
set_option maxRecDepth 100000 in
theorem xo_M_sail_0 : xevery (xchF m_M_sail false) 0 38 = true := by decide +kernel
theorem xo_M_sail : xMOK xprog m_M_sail := xMOK_of (ini := false) (N := 38) _ xmf_M_sail (fun h => nomatch h) (xhh_nil rfl) (fun _ _ h => xcd_guard h) (fun n h => xevery_ok _ _ xo_M_sail_0 n (by omega) (by omega))
set_option maxRecDepth 100000 in
theorem xo_M_pointsBehind_0 : xevery (xchF m_M_pointsBehind false) 0 57 = true := by decide +kernel
theorem xo_M_pointsBehind : xMOK xprog m_M_pointsBehind := xMOK_of (ini := false) (N := 57) _ xmf_M_pointsBehind (fun h => nomatch h) (xhh_nil rfl) (fun _ _ h => xcd_guard h) (fun n h => xevery_ok _ _ xo_M_pointsBehind_0 n (by omega) (by omega))
set_option maxRecDepth 100000 in
theorem xo_M_hoursUntilPoints_0 : xevery (xchF m_M_hoursUntilPoints false) 0 75 = true := by decide +kernel
theorem xo_M_hoursUntilPoints : xMOK xprog m_M_hoursUntilPoints := xMOK_of (ini := false) (N := 75) _ xmf_M_hoursUntilPoints (fun h => nomatch h) (xhh_nil rfl) (fun _ _ h => xcd_guard h) (fun n h => xevery_ok _ _ xo_M_hoursUntilPoints_0 n (by omega) (by omega))
set_option maxRecDepth 100000 in
theorem xo_M_bestWind_0 : xevery (xchF m_M_bestWind false) 0 103 = true := by decide +kernel
theorem xo_M_bestWind : xMOK xprog m_M_bestWind := xMOK_of (ini := false) (N := 103) _ xmf_M_bestWind (fun h => nomatch h) (xhh_nil rfl) (fun _ _ h => xcd_guard h) (fun n h => xevery_ok _ _ xo_M_bestWind_0 n (by omega) (by omega))
set_option maxRecDepth 100000 in
theorem xo_M_meanPoints_0 : xevery (xchF m_M_meanPoints false) 0 34 = true := by decide +kernel
theorem xo_M_meanPoints : xMOK xprog m_M_meanPoints := xMOK_of (ini := false) (N := 34) _ xmf_M_meanPoints (fun h => nomatch h) (xhh_nil rfl) (fun _ _ h => xcd_guard h) (fun n h => xevery_ok _ _ xo_M_meanPoints_0 n (by omega) (by omega))
set_option maxRecDepth 100000 in
theorem xo_M_digest_0 : xevery (xchF m_M_digest false) 0 150 = true := by decide +kernel
set_option maxRecDepth 100000 in
theorem xo_M_digest_1 : xevery (xchF m_M_digest false) 150 150 = true := by decide +kernel
set_option maxRecDepth 100000 in
theorem xo_M_digest_2 : xevery (xchF m_M_digest false) 300 1 = true := by decide +kernel
theorem xo_M_digest : xMOK xprog m_M_digest := xMOK_of (ini := false) (N := 301) _ xmf_M_digest (fun h => nomatch h) (xhh_nil rfl) (fun _ _ h => xcd_guard h) (fun n h => (Nat.lt_or_ge n 150).elim (fun q3 => xevery_ok _ _ xo_M_digest_0 n (by omega) (by omega)) (fun q3 => (Nat.lt_or_ge n 300).elim (fun q103 => xevery_ok _ _ xo_M_digest_1 n (by omega) (by omega)) (fun q103 => xevery_ok _ _ xo_M_digest_2 n (by omega) (by omega))))
set_option maxRecDepth 100000 in
theorem xo_JS_length_0 : xevery (xchF m_JS_length false) 0 11 = true := by decide +kernel
theorem xo_JS_length : xMOK xprog m_JS_length := xMOK_of (ini := false) (N := 11) _ xmf_JS_length (fun h => nomatch h) (xhh_nil rfl) (fun _ _ h => xcd_guard h) (fun n h => xevery_ok _ _ xo_JS_length_0 n (by omega) (by omega))
set_option maxRecDepth 100000 in
theorem xo_JS_charAt_0 : xevery (xchF m_JS_charAt false) 0 25 = true := by decide +kernel
theorem xo_JS_charAt : xMOK xprog m_JS_charAt := xMOK_of (ini := false) (N := 25) _ xmf_JS_charAt (fun h => nomatch h) (xhh_nil rfl) (fun _ _ h => xcd_guard h) (fun n h => xevery_ok _ _ xo_JS_charAt_0 n (by omega) (by omega))
set_option maxRecDepth 100000 in
theorem xo_JS_indexOf_0 : xevery (xchF m_JS_indexOf false) 0 7 = true := by decide +kernel
theorem xo_JS_indexOf : xMOK xprog m_JS_indexOf := xMOK_of (ini := false) (N := 7) _ xmf_JS_indexOf (fun h => nomatch h) (xhh_nil rfl) (fun _ _ h => xcd_guard h) (fun n h => xevery_ok _ _ xo_JS_indexOf_0 n (by omega) (by omega))
set_option maxRecDepth 100000 in
theorem xo_JS_indexOf2_0 : xevery (xchF m_JS_indexOf2 false) 0 37 = true := by decide +kernel
theorem xo_JS_indexOf2 : xMOK xprog m_JS_indexOf2 := xMOK_of (ini := false) (N := 37) _ xmf_JS_indexOf2 (fun h => nomatch h) (xhh_nil rfl) (fun _ _ h => xcd_guard h) (fun n h => xevery_ok _ _ xo_JS_indexOf2_0 n (by omega) (by omega))
set_option maxRecDepth 100000 in
theorem xo_JS_coder_0 : xevery (xchF m_JS_coder false) 0 15 = true := by decide +kernel
theorem xo_JS_coder : xMOK xprog m_JS_coder := xMOK_of (ini := false) (N := 15) _ xmf_JS_coder (fun h => nomatch h) (xhh_nil rfl) (fun _ _ h => xcd_guard h) (fun n h => xevery_ok _ _ xo_JS_coder_0 n (by omega) (by omega))
set_option maxRecDepth 100000 in
theorem xo_JS_isLatin1_0 : xevery (xchF m_JS_isLatin1 false) 0 19 = true := by decide +kernel
theorem xo_JS_isLatin1 : xMOK xprog m_JS_isLatin1 := xMOK_of (ini := false) (N := 19) _ xmf_JS_isLatin1 (fun h => nomatch h) (xhh_nil rfl) (fun _ _ h => xcd_guard h) (fun n h => xevery_ok _ _ xo_JS_isLatin1_0 n (by omega) (by omega))
set_option maxRecDepth 100000 in
theorem xo_JS_checkIndex_0 : xevery (xchF m_JS_checkIndex false) 0 10 = true := by decide +kernel
theorem xo_JS_checkIndex : xMOK xprog m_JS_checkIndex := xMOK_of (ini := false) (N := 10) _ xmf_JS_checkIndex (fun h => nomatch h) (xhh_nil rfl) (fun _ _ h => xcd_guard h) (fun n h => xevery_ok _ _ xo_JS_checkIndex_0 n (by omega) (by omega))
set_option maxRecDepth 100000 in
theorem xo_JL_charAt_0 : xevery (xchF m_JL_charAt false) 0 15 = true := by decide +kernel
theorem xo_JL_charAt : xMOK xprog m_JL_charAt := xMOK_of (ini := false) (N := 15) _ xmf_JL_charAt (fun h => nomatch h) (xhh_nil rfl) (fun _ _ h => xcd_guard h) (fun n h => xevery_ok _ _ xo_JL_charAt_0 n (by omega) (by omega))
set_option maxRecDepth 100000 in
theorem xo_JL_canEncode_0 : xevery (xchF m_JL_canEncode false) 0 17 = true := by decide +kernel
theorem xo_JL_canEncode : xMOK xprog m_JL_canEncode := xMOK_of (ini := false) (N := 17) _ xmf_JL_canEncode (fun h => nomatch h) (xhh_nil rfl) (fun _ _ h => xcd_guard h) (fun n h => xevery_ok _ _ xo_JL_canEncode_0 n (by omega) (by omega))
set_option maxRecDepth 100000 in
theorem xo_JL_indexOf_0 : xevery (xchF m_JL_indexOf false) 0 37 = true := by decide +kernel
theorem xo_JL_indexOf : xMOK xprog m_JL_indexOf := xMOK_of (ini := false) (N := 37) _ xmf_JL_indexOf (fun h => nomatch h) (xhh_nil rfl) (fun _ _ h => xcd_guard h) (fun n h => xevery_ok _ _ xo_JL_indexOf_0 n (by omega) (by omega))
set_option maxRecDepth 100000 in
theorem xo_JL_indexOfChar_0 : xevery (xchF m_JL_indexOfChar false) 0 33 = true := by decide +kernel
theorem xo_JL_indexOfChar : xMOK xprog m_JL_indexOfChar := xMOK_of (ini := false) (N := 33) _ xmf_JL_indexOfChar (fun h => nomatch h) (xhh_nil rfl) (fun _ _ h => xcd_guard h) (fun n h => xevery_ok _ _ xo_JL_indexOfChar_0 n (by omega) (by omega))
set_option maxRecDepth 100000 in
theorem xo_JP_checkIndex_0 : xevery (xchF m_JP_checkIndex false) 0 18 = true := by decide +kernel
theorem xo_JP_checkIndex : xMOK xprog m_JP_checkIndex := xMOK_of (ini := false) (N := 18) _ xmf_JP_checkIndex (fun h => nomatch h) (xhh_nil rfl) (fun _ _ h => xcd_guard h) (fun n h => xevery_ok _ _ xo_JP_checkIndex_0 n (by omega) (by omega))
set_option maxRecDepth 100000 in
theorem xo_L_feed_0 : xevery (xchF m_L_feed false) 0 25 = true := by decide +kernel
theorem xo_L_feed : xMOK xprog m_L_feed := xMOK_of (ini := false) (N := 25) _ xmf_L_feed (fun h => nomatch h) (List.forall_mem_cons.mpr ⟨⟨(xt3 (List.mem_of_getElem? (i := 204) rfl)), by decide, by decide, by decide, (xt3 (List.mem_of_getElem? (i := 211) rfl))⟩, fun _ h => nomatch h⟩) (fun _ _ h => xcd_guard h) (fun n h => xevery_ok _ _ xo_L_feed_0 n (by omega) (by omega))
set_option maxRecDepth 100000 in
theorem xo_L_trim_0 : xevery (xchF m_L_trim false) 0 17 = true := by decide +kernel
theorem xo_L_trim : xMOK xprog m_L_trim := xMOK_of (ini := false) (N := 17) _ xmf_L_trim (fun h => nomatch h) (List.forall_mem_cons.mpr ⟨⟨(xt4 (List.mem_of_getElem? (i := 43) rfl)), by decide, by decide, by decide, (xt4 (List.mem_of_getElem? (i := 50) rfl))⟩, fun _ h => nomatch h⟩) (fun _ _ h => xcd_guard h) (fun n h => xevery_ok _ _ xo_L_trim_0 n (by omega) (by omega))
set_option maxRecDepth 100000 in
theorem xo_L_hasCustoms_0 : xevery (xchF m_L_hasCustoms false) 0 26 = true := by decide +kernel
theorem xo_L_hasCustoms : xMOK xprog m_L_hasCustoms := xMOK_of (ini := false) (N := 26) _ xmf_L_hasCustoms (fun h => nomatch h) (List.forall_mem_cons.mpr ⟨⟨(xt4 (List.mem_of_getElem? (i := 67) rfl)), by decide, by decide, by decide, (xt4 (List.mem_of_getElem? (i := 79) rfl))⟩, fun _ h => nomatch h⟩) (fun _ _ h => xcd_guard h) (fun n h => xevery_ok _ _ xo_L_hasCustoms_0 n (by omega) (by omega))
set_option maxRecDepth 100000 in
theorem xo_L_hasSteam_0 : xevery (xchF m_L_hasSteam false) 0 26 = true := by decide +kernel
theorem xo_L_hasSteam : xMOK xprog m_L_hasSteam := xMOK_of (ini := false) (N := 26) _ xmf_L_hasSteam (fun h => nomatch h) (List.forall_mem_cons.mpr ⟨⟨(xt4 (List.mem_of_getElem? (i := 67) rfl)), by decide, by decide, by decide, (xt4 (List.mem_of_getElem? (i := 79) rfl))⟩, fun _ h => nomatch h⟩) (fun _ _ h => xcd_guard h) (fun n h => xevery_ok _ _ xo_L_hasSteam_0 n (by omega) (by omega))
set_option maxRecDepth 100000 in
theorem xo_L_aromaAt_0 : xevery (xchF m_L_aromaAt false) 0 19 = true := by decide +kernel
theorem xo_L_aromaAt : xMOK xprog m_L_aromaAt := xMOK_of (ini := false) (N := 19) _ xmf_L_aromaAt (fun h => nomatch h) (List.forall_mem_cons.mpr ⟨⟨(xt4 (List.mem_of_getElem? (i := 67) rfl)), by decide, by decide, by decide, (xt4 (List.mem_of_getElem? (i := 79) rfl))⟩, fun _ h => nomatch h⟩) (fun _ _ h => xcd_guard h) (fun n h => xevery_ok _ _ xo_L_aromaAt_0 n (by omega) (by omega))
set_option maxRecDepth 100000 in
theorem xo_L_becalmedFor_0 : xevery (xchF m_L_becalmedFor false) 0 17 = true := by decide +kernel
theorem xo_L_becalmedFor : xMOK xprog m_L_becalmedFor := xMOK_of (ini := false) (N := 17) _ xmf_L_becalmedFor (fun h => nomatch h) (List.forall_mem_cons.mpr ⟨⟨(xt4 (List.mem_of_getElem? (i := 67) rfl)), by decide, by decide, by decide, (xt4 (List.mem_of_getElem? (i := 79) rfl))⟩, fun _ h => nomatch h⟩) (fun _ _ h => xcd_guard h) (fun n h => xevery_ok _ _ xo_L_becalmedFor_0 n (by omega) (by omega))
set_option maxRecDepth 100000 in
theorem xo_L_visitsTo_0 : xevery (xchF m_L_visitsTo false) 0 17 = true := by decide +kernel
theorem xo_L_visitsTo : xMOK xprog m_L_visitsTo := xMOK_of (ini := false) (N := 17) _ xmf_L_visitsTo (fun h => nomatch h) (List.forall_mem_cons.mpr ⟨⟨(xt4 (List.mem_of_getElem? (i := 67) rfl)), by decide, by decide, by decide, (xt4 (List.mem_of_getElem? (i := 79) rfl))⟩, fun _ h => nomatch h⟩) (fun _ _ h => xcd_guard h) (fun n h => xevery_ok _ _ xo_L_visitsTo_0 n (by omega) (by omega))
set_option maxRecDepth 100000 in
theorem xo_L_columnOf_0 : xevery (xchF m_L_columnOf false) 0 17 = true := by decide +kernel
theorem xo_L_columnOf : xMOK xprog m_L_columnOf := xMOK_of (ini := false) (N := 17) _ xmf_L_columnOf (fun h => nomatch h) (List.forall_mem_cons.mpr ⟨⟨(xt4 (List.mem_of_getElem? (i := 67) rfl)), by decide, by decide, by decide, (xt4 (List.mem_of_getElem? (i := 79) rfl))⟩, fun _ h => nomatch h⟩) (fun _ _ h => xcd_guard h) (fun n h => xevery_ok _ _ xo_L_columnOf_0 n (by omega) (by omega))
set_option maxRecDepth 100000 in
theorem xo_L_rowOf_0 : xevery (xchF m_L_rowOf false) 0 17 = true := by decide +kernel
theorem xo_L_rowOf : xMOK xprog m_L_rowOf := xMOK_of (ini := false) (N := 17) _ xmf_L_rowOf (fun h => nomatch h) (List.forall_mem_cons.mpr ⟨⟨(xt4 (List.mem_of_getElem? (i := 67) rfl)), by decide, by decide, by decide, (xt4 (List.mem_of_getElem? (i := 79) rfl))⟩, fun _ h => nomatch h⟩) (fun _ _ h => xcd_guard h) (fun n h => xevery_ok _ _ xo_L_rowOf_0 n (by omega) (by omega))
set_option maxRecDepth 100000 in
theorem xo_L_isHome_0 : xevery (xchF m_L_isHome false) 0 24 = true := by decide +kernel
theorem xo_L_isHome : xMOK xprog m_L_isHome := xMOK_of (ini := false) (N := 24) _ xmf_L_isHome (fun h => nomatch h) (List.forall_mem_cons.mpr ⟨⟨(xt4 (List.mem_of_getElem? (i := 67) rfl)), by decide, by decide, by decide, (xt4 (List.mem_of_getElem? (i := 79) rfl))⟩, fun _ h => nomatch h⟩) (fun _ _ h => xcd_guard h) (fun n h => xevery_ok _ _ xo_L_isHome_0 n (by omega) (by omega))
set_option maxRecDepth 100000 in
theorem xo_L_leafOf_0 : xevery (xchF m_L_leafOf false) 0 17 = true := by decide +kernel
theorem xo_L_leafOf : xMOK xprog m_L_leafOf := xMOK_of (ini := false) (N := 17) _ xmf_L_leafOf (fun h => nomatch h) (List.forall_mem_cons.mpr ⟨⟨(xt4 (List.mem_of_getElem? (i := 67) rfl)), by decide, by decide, by decide, (xt4 (List.mem_of_getElem? (i := 79) rfl))⟩, fun _ h => nomatch h⟩) (fun _ _ h => xcd_guard h) (fun n h => xevery_ok _ _ xo_L_leafOf_0 n (by omega) (by omega))
set_option maxRecDepth 100000 in
theorem xo_L_wayOf_0 : xevery (xchF m_L_wayOf false) 0 17 = true := by decide +kernel
theorem xo_L_wayOf : xMOK xprog m_L_wayOf := xMOK_of (ini := false) (N := 17) _ xmf_L_wayOf (fun h => nomatch h) (List.forall_mem_cons.mpr ⟨⟨(xt4 (List.mem_of_getElem? (i := 67) rfl)), by decide, by decide, by decide, (xt4 (List.mem_of_getElem? (i := 79) rfl))⟩, fun _ h => nomatch h⟩) (fun _ _ h => xcd_guard h) (fun n h => xevery_ok _ _ xo_L_wayOf_0 n (by omega) (by omega))
set_option maxRecDepth 100000 in
theorem xo_L_speedOf_0 : xevery (xchF m_L_speedOf false) 0 17 = true := by decide +kernel
theorem xo_L_speedOf : xMOK xprog m_L_speedOf := xMOK_of (ini := false) (N := 17) _ xmf_L_speedOf (fun h => nomatch h) (List.forall_mem_cons.mpr ⟨⟨(xt4 (List.mem_of_getElem? (i := 67) rfl)), by decide, by decide, by decide, (xt4 (List.mem_of_getElem? (i := 79) rfl))⟩, fun _ h => nomatch h⟩) (fun _ _ h => xcd_guard h) (fun n h => xevery_ok _ _ xo_L_speedOf_0 n (by omega) (by omega))
set_option maxRecDepth 100000 in
theorem xo_L_pointsOf_0 : xevery (xchF m_L_pointsOf false) 0 17 = true := by decide +kernel
theorem xo_L_pointsOf : xMOK xprog m_L_pointsOf := xMOK_of (ini := false) (N := 17) _ xmf_L_pointsOf (fun h => nomatch h) (List.forall_mem_cons.mpr ⟨⟨(xt4 (List.mem_of_getElem? (i := 67) rfl)), by decide, by decide, by decide, (xt4 (List.mem_of_getElem? (i := 79) rfl))⟩, fun _ h => nomatch h⟩) (fun _ _ h => xcd_guard h) (fun n h => xevery_ok _ _ xo_L_pointsOf_0 n (by omega) (by omega))
set_option maxRecDepth 100000 in
theorem xo_L_sipsOf_0 : xevery (xchF m_L_sipsOf false) 0 17 = true := by decide +kernel
theorem xo_L_sipsOf : xMOK xprog m_L_sipsOf := xMOK_of (ini := false) (N := 17) _ xmf_L_sipsOf (fun h => nomatch h) (List.forall_mem_cons.mpr ⟨⟨(xt4 (List.mem_of_getElem? (i := 67) rfl)), by decide, by decide, by decide, (xt4 (List.mem_of_getElem? (i := 79) rfl))⟩, fun _ h => nomatch h⟩) (fun _ _ h => xcd_guard h) (fun n h => xevery_ok _ _ xo_L_sipsOf_0 n (by omega) (by omega))
set_option maxRecDepth 100000 in
theorem xo_L_smells_0 : xevery (xchF m_L_smells false) 0 19 = true := by decide +kernel
theorem xo_L_smells : xMOK xprog m_L_smells := xMOK_of (ini := false) (N := 19) _ xmf_L_smells (fun h => nomatch h) (List.forall_mem_cons.mpr ⟨⟨(xt4 (List.mem_of_getElem? (i := 67) rfl)), by decide, by decide, by decide, (xt4 (List.mem_of_getElem? (i := 79) rfl))⟩, fun _ h => nomatch h⟩) (fun _ _ h => xcd_guard h) (fun n h => xevery_ok _ _ xo_L_smells_0 n (by omega) (by omega))
set_option maxRecDepth 100000 in
theorem xo_L_ruleTells_0 : xevery (xchF m_L_ruleTells false) 0 17 = true := by decide +kernel
theorem xo_L_ruleTells : xMOK xprog m_L_ruleTells := xMOK_of (ini := false) (N := 17) _ xmf_L_ruleTells (fun h => nomatch h) (List.forall_mem_cons.mpr ⟨⟨(xt4 (List.mem_of_getElem? (i := 67) rfl)), by decide, by decide, by decide, (xt4 (List.mem_of_getElem? (i := 79) rfl))⟩, fun _ h => nomatch h⟩) (fun _ _ h => xcd_guard h) (fun n h => xevery_ok _ _ xo_L_ruleTells_0 n (by omega) (by omega))
set_option maxRecDepth 100000 in
theorem xo_L_wouldStay_0 : xevery (xchF m_L_wouldStay false) 0 24 = true := by decide +kernel
theorem xo_L_wouldStay : xMOK xprog m_L_wouldStay := xMOK_of (ini := false) (N := 24) _ xmf_L_wouldStay (fun h => nomatch h) (List.forall_mem_cons.mpr ⟨⟨(xt4 (List.mem_of_getElem? (i := 67) rfl)), by decide, by decide, by decide, (xt4 (List.mem_of_getElem? (i := 79) rfl))⟩, fun _ h => nomatch h⟩) (fun _ _ h => xcd_guard h) (fun n h => xevery_ok _ _ xo_L_wouldStay_0 n (by omega) (by omega))
set_option maxRecDepth 100000 in
theorem xo_L_steersTo_0 : xevery (xchF m_L_steersTo false) 0 20 = true := by decide +kernel
theorem xo_L_steersTo : xMOK xprog m_L_steersTo := xMOK_of (ini := false) (N := 20) _ xmf_L_steersTo (fun h => nomatch h) (List.forall_mem_cons.mpr ⟨⟨(xt4 (List.mem_of_getElem? (i := 67) rfl)), by decide, by decide, by decide, (xt4 (List.mem_of_getElem? (i := 79) rfl))⟩, List.forall_mem_cons.mpr ⟨⟨(xt3 (List.mem_of_getElem? (i := 204) rfl)), by decide, by decide, by decide, (xt3 (List.mem_of_getElem? (i := 211) rfl))⟩, fun _ h => nomatch h⟩⟩) (fun _ _ h => xcd_guard h) (fun n h => xevery_ok _ _ xo_L_steersTo_0 n (by omega) (by omega))
set_option maxRecDepth 100000 in
theorem xo_L_leader_0 : xevery (xchF m_L_leader false) 0 16 = true := by decide +kernel
theorem xo_L_leader : xMOK xprog m_L_leader := xMOK_of (ini := false) (N := 16) _ xmf_L_leader (fun h => nomatch h) (List.forall_mem_cons.mpr ⟨⟨(xt3 (List.mem_of_getElem? (i := 204) rfl)), by decide, by decide, by decide, (xt3 (List.mem_of_getElem? (i := 211) rfl))⟩, fun _ h => nomatch h⟩) (fun _ _ h => xcd_guard h) (fun n h => xevery_ok _ _ xo_L_leader_0 n (by omega) (by omega))
set_option maxRecDepth 100000 in
theorem xo_L_setWind_0 : xevery (xchF m_L_setWind false) 0 23 = true := by decide +kernel
theorem xo_L_setWind : xMOK xprog m_L_setWind := xMOK_of (ini := false) (N := 23) _ xmf_L_setWind (fun h => nomatch h) (List.forall_mem_cons.mpr ⟨⟨(xt4 (List.mem_of_getElem? (i := 67) rfl)), by decide, by decide, by decide, (xt4 (List.mem_of_getElem? (i := 79) rfl))⟩, List.forall_mem_cons.mpr ⟨⟨(xt4 (List.mem_of_getElem? (i := 43) rfl)), by decide, by decide, by decide, (xt4 (List.mem_of_getElem? (i := 50) rfl))⟩, fun _ h => nomatch h⟩⟩) (fun _ _ h => xcd_guard h) (fun n h => xevery_ok _ _ xo_L_setWind_0 n (by omega) (by omega))
set_option maxRecDepth 100000 in
theorem xo_L_jettison_0 : xevery (xchF m_L_jettison false) 0 27 = true := by decide +kernel
theorem xo_L_jettison : xMOK xprog m_L_jettison := xMOK_of (ini := false) (N := 27) _ xmf_L_jettison (fun h => nomatch h) (List.forall_mem_cons.mpr ⟨⟨(xt4 (List.mem_of_getElem? (i := 67) rfl)), by decide, by decide, by decide, (xt4 (List.mem_of_getElem? (i := 79) rfl))⟩, List.forall_mem_cons.mpr ⟨⟨(xt4 (List.mem_of_getElem? (i := 43) rfl)), by decide, by decide, by decide, (xt4 (List.mem_of_getElem? (i := 50) rfl))⟩, List.forall_mem_cons.mpr ⟨⟨(xt3 (List.mem_of_getElem? (i := 204) rfl)), by decide, by decide, by decide, (xt3 (List.mem_of_getElem? (i := 211) rfl))⟩, fun _ h => nomatch h⟩⟩⟩) (fun _ _ h => xcd_guard h) (fun n h => xevery_ok _ _ xo_L_jettison_0 n (by omega) (by omega))
set_option maxRecDepth 100000 in
theorem xo_L_calmKettle_0 : xevery (xchF m_L_calmKettle false) 0 23 = true := by decide +kernel
theorem xo_L_calmKettle : xMOK xprog m_L_calmKettle := xMOK_of (ini := false) (N := 23) _ xmf_L_calmKettle (fun h => nomatch h) (List.forall_mem_cons.mpr ⟨⟨(xt4 (List.mem_of_getElem? (i := 67) rfl)), by decide, by decide, by decide, (xt4 (List.mem_of_getElem? (i := 79) rfl))⟩, List.forall_mem_cons.mpr ⟨⟨(xt4 (List.mem_of_getElem? (i := 43) rfl)), by decide, by decide, by decide, (xt4 (List.mem_of_getElem? (i := 50) rfl))⟩, fun _ h => nomatch h⟩⟩) (fun _ _ h => xcd_guard h) (fun n h => xevery_ok _ _ xo_L_calmKettle_0 n (by omega) (by omega))
set_option maxRecDepth 100000 in
theorem xo_L_sail_0 : xevery (xchF m_L_sail false) 0 17 = true := by decide +kernel
theorem xo_L_sail : xMOK xprog m_L_sail := xMOK_of (ini := false) (N := 17) _ xmf_L_sail (fun h => nomatch h) (List.forall_mem_cons.mpr ⟨⟨(xt4 (List.mem_of_getElem? (i := 43) rfl)), by decide, by decide, by decide, (xt4 (List.mem_of_getElem? (i := 50) rfl))⟩, fun _ h => nomatch h⟩) (fun _ _ h => xcd_guard h) (fun n h => xevery_ok _ _ xo_L_sail_0 n (by omega) (by omega))
set_option maxRecDepth 100000 in
theorem xo_L_pointsBehind_0 : xevery (xchF m_L_pointsBehind false) 0 23 = true := by decide +kernel
theorem xo_L_pointsBehind : xMOK xprog m_L_pointsBehind := xMOK_of (ini := false) (N := 23) _ xmf_L_pointsBehind (fun h => nomatch h) (List.forall_mem_cons.mpr ⟨⟨(xt4 (List.mem_of_getElem? (i := 67) rfl)), by decide, by decide, by decide, (xt4 (List.mem_of_getElem? (i := 79) rfl))⟩, List.forall_mem_cons.mpr ⟨⟨(xt4 (List.mem_of_getElem? (i := 43) rfl)), by decide, by decide, by decide, (xt4 (List.mem_of_getElem? (i := 50) rfl))⟩, fun _ h => nomatch h⟩⟩) (fun _ _ h => xcd_guard h) (fun n h => xevery_ok _ _ xo_L_pointsBehind_0 n (by omega) (by omega))
set_option maxRecDepth 100000 in
theorem xo_L_hoursUntilPoints_0 : xevery (xchF m_L_hoursUntilPoints false) 0 17 = true := by decide +kernel
theorem xo_L_hoursUntilPoints : xMOK xprog m_L_hoursUntilPoints := xMOK_of (ini := false) (N := 17) _ xmf_L_hoursUntilPoints (fun h => nomatch h) (List.forall_mem_cons.mpr ⟨⟨(xt4 (List.mem_of_getElem? (i := 67) rfl)), by decide, by decide, by decide, (xt4 (List.mem_of_getElem? (i := 79) rfl))⟩, fun _ h => nomatch h⟩) (fun _ _ h => xcd_guard h) (fun n h => xevery_ok _ _ xo_L_hoursUntilPoints_0 n (by omega) (by omega))
set_option maxRecDepth 100000 in
theorem xo_L_bestWind_0 : xevery (xchF m_L_bestWind false) 0 23 = true := by decide +kernel
theorem xo_L_bestWind : xMOK xprog m_L_bestWind := xMOK_of (ini := false) (N := 23) _ xmf_L_bestWind (fun h => nomatch h) (List.forall_mem_cons.mpr ⟨⟨(xt4 (List.mem_of_getElem? (i := 67) rfl)), by decide, by decide, by decide, (xt4 (List.mem_of_getElem? (i := 79) rfl))⟩, List.forall_mem_cons.mpr ⟨⟨(xt4 (List.mem_of_getElem? (i := 43) rfl)), by decide, by decide, by decide, (xt4 (List.mem_of_getElem? (i := 50) rfl))⟩, fun _ h => nomatch h⟩⟩) (fun _ _ h => xcd_guard h) (fun n h => xevery_ok _ _ xo_L_bestWind_0 n (by omega) (by omega))
