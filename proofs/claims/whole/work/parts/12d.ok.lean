set_option maxRecDepth 100000 in
theorem xo_T_init_0 : xevery (xchF m_T_init true) 0 98 = true := by decide +kernel
theorem xo_T_init : xMOK xprog m_T_init := xMOK_of (ini := true) (N := 98) _ xmf_T_init (fun _ => rfl) (xhh_nil rfl) (fun _ _ h => xcd_guard h) (fun n h => xevery_ok _ _ xo_T_init_0 n (by omega) (by omega))
set_option maxRecDepth 100000 in
theorem xo_T_feed_0 : xevery (xchF m_T_feed false) 0 73 = true := by decide +kernel
theorem xo_T_feed : xMOK xprog m_T_feed := xMOK_of (ini := false) (N := 73) _ xmf_T_feed (fun h => nomatch h) (xhh_nil rfl) (fun _ _ h => xcd_guard h) (fun n h => xevery_ok _ _ xo_T_feed_0 n (by omega) (by omega))
set_option maxRecDepth 100000 in
theorem xo_T_trim_0 : xevery (xchF m_T_trim false) 0 35 = true := by decide +kernel
theorem xo_T_trim : xMOK xprog m_T_trim := xMOK_of (ini := false) (N := 35) _ xmf_T_trim (fun h => nomatch h) (xhh_nil rfl) (fun _ _ h => xcd_guard h) (fun n h => xevery_ok _ _ xo_T_trim_0 n (by omega) (by omega))
set_option maxRecDepth 100000 in
theorem xo_T_teach_0 : xevery (xchF m_T_teach false) 0 66 = true := by decide +kernel
theorem xo_T_teach : xMOK xprog m_T_teach := xMOK_of (ini := false) (N := 66) _ xmf_T_teach (fun h => nomatch h) (xhh_nil rfl) (fun _ _ h => xcd_guard h) (fun n h => xevery_ok _ _ xo_T_teach_0 n (by omega) (by omega))
set_option maxRecDepth 100000 in
theorem xo_T_errorAt_0 : xevery (xchF m_T_errorAt false) 0 5 = true := by decide +kernel
theorem xo_T_errorAt : xMOK xprog m_T_errorAt := xMOK_of (ini := false) (N := 5) _ xmf_T_errorAt (fun h => nomatch h) (xhh_nil rfl) (fun _ _ h => xcd_guard h) (fun n h => xevery_ok _ _ xo_T_errorAt_0 n (by omega) (by omega))
set_option maxRecDepth 100000 in
theorem xo_T_columns_0 : xevery (xchF m_T_columns false) 0 8 = true := by decide +kernel
theorem xo_T_columns : xMOK xprog m_T_columns := xMOK_of (ini := false) (N := 8) _ xmf_T_columns (fun h => nomatch h) (xhh_nil rfl) (fun _ _ h => xcd_guard h) (fun n h => xevery_ok _ _ xo_T_columns_0 n (by omega) (by omega))
set_option maxRecDepth 100000 in
theorem xo_T_rows_0 : xevery (xchF m_T_rows false) 0 8 = true := by decide +kernel
theorem xo_T_rows : xMOK xprog m_T_rows := xMOK_of (ini := false) (N := 8) _ xmf_T_rows (fun h => nomatch h) (xhh_nil rfl) (fun _ _ h => xcd_guard h) (fun n h => xevery_ok _ _ xo_T_rows_0 n (by omega) (by omega))
set_option maxRecDepth 100000 in
theorem xo_T_kettles_0 : xevery (xchF m_T_kettles false) 0 8 = true := by decide +kernel
theorem xo_T_kettles : xMOK xprog m_T_kettles := xMOK_of (ini := false) (N := 8) _ xmf_T_kettles (fun h => nomatch h) (xhh_nil rfl) (fun _ _ h => xcd_guard h) (fun n h => xevery_ok _ _ xo_T_kettles_0 n (by omega) (by omega))
set_option maxRecDepth 100000 in
theorem xo_T_clippers_0 : xevery (xchF m_T_clippers false) 0 8 = true := by decide +kernel
theorem xo_T_clippers : xMOK xprog m_T_clippers := xMOK_of (ini := false) (N := 8) _ xmf_T_clippers (fun h => nomatch h) (xhh_nil rfl) (fun _ _ h => xcd_guard h) (fun n h => xevery_ok _ _ xo_T_clippers_0 n (by omega) (by omega))
set_option maxRecDepth 100000 in
theorem xo_T_hasCustoms_0 : xevery (xchF m_T_hasCustoms false) 0 16 = true := by decide +kernel
theorem xo_T_hasCustoms : xMOK xprog m_T_hasCustoms := xMOK_of (ini := false) (N := 16) _ xmf_T_hasCustoms (fun h => nomatch h) (xhh_nil rfl) (fun _ _ h => xcd_guard h) (fun n h => xevery_ok _ _ xo_T_hasCustoms_0 n (by omega) (by omega))
set_option maxRecDepth 100000 in
theorem xo_T_hasSteam_0 : xevery (xchF m_T_hasSteam false) 0 25 = true := by decide +kernel
theorem xo_T_hasSteam : xMOK xprog m_T_hasSteam := xMOK_of (ini := false) (N := 25) _ xmf_T_hasSteam (fun h => nomatch h) (xhh_nil rfl) (fun _ _ h => xcd_guard h) (fun n h => xevery_ok _ _ xo_T_hasSteam_0 n (by omega) (by omega))
set_option maxRecDepth 100000 in
theorem xo_T_aromaAt_0 : xevery (xchF m_T_aromaAt false) 0 16 = true := by decide +kernel
theorem xo_T_aromaAt : xMOK xprog m_T_aromaAt := xMOK_of (ini := false) (N := 16) _ xmf_T_aromaAt (fun h => nomatch h) (xhh_nil rfl) (fun _ _ h => xcd_guard h) (fun n h => xevery_ok _ _ xo_T_aromaAt_0 n (by omega) (by omega))
set_option maxRecDepth 100000 in
theorem xo_T_becalmedFor_0 : xevery (xchF m_T_becalmedFor false) 0 15 = true := by decide +kernel
theorem xo_T_becalmedFor : xMOK xprog m_T_becalmedFor := xMOK_of (ini := false) (N := 15) _ xmf_T_becalmedFor (fun h => nomatch h) (xhh_nil rfl) (fun _ _ h => xcd_guard h) (fun n h => xevery_ok _ _ xo_T_becalmedFor_0 n (by omega) (by omega))
set_option maxRecDepth 100000 in
theorem xo_T_visitsTo_0 : xevery (xchF m_T_visitsTo false) 0 15 = true := by decide +kernel
theorem xo_T_visitsTo : xMOK xprog m_T_visitsTo := xMOK_of (ini := false) (N := 15) _ xmf_T_visitsTo (fun h => nomatch h) (xhh_nil rfl) (fun _ _ h => xcd_guard h) (fun n h => xevery_ok _ _ xo_T_visitsTo_0 n (by omega) (by omega))
set_option maxRecDepth 100000 in
theorem xo_T_windDirection_0 : xevery (xchF m_T_windDirection false) 0 8 = true := by decide +kernel
theorem xo_T_windDirection : xMOK xprog m_T_windDirection := xMOK_of (ini := false) (N := 8) _ xmf_T_windDirection (fun h => nomatch h) (xhh_nil rfl) (fun _ _ h => xcd_guard h) (fun n h => xevery_ok _ _ xo_T_windDirection_0 n (by omega) (by omega))
set_option maxRecDepth 100000 in
theorem xo_T_windForce_0 : xevery (xchF m_T_windForce false) 0 8 = true := by decide +kernel
theorem xo_T_windForce : xMOK xprog m_T_windForce := xMOK_of (ini := false) (N := 8) _ xmf_T_windForce (fun h => nomatch h) (xhh_nil rfl) (fun _ _ h => xcd_guard h) (fun n h => xevery_ok _ _ xo_T_windForce_0 n (by omega) (by omega))
set_option maxRecDepth 100000 in
theorem xo_T_hour_0 : xevery (xchF m_T_hour false) 0 8 = true := by decide +kernel
theorem xo_T_hour : xMOK xprog m_T_hour := xMOK_of (ini := false) (N := 8) _ xmf_T_hour (fun h => nomatch h) (xhh_nil rfl) (fun _ _ h => xcd_guard h) (fun n h => xevery_ok _ _ xo_T_hour_0 n (by omega) (by omega))
set_option maxRecDepth 100000 in
theorem xo_T_columnOf_0 : xevery (xchF m_T_columnOf false) 0 15 = true := by decide +kernel
theorem xo_T_columnOf : xMOK xprog m_T_columnOf := xMOK_of (ini := false) (N := 15) _ xmf_T_columnOf (fun h => nomatch h) (xhh_nil rfl) (fun _ _ h => xcd_guard h) (fun n h => xevery_ok _ _ xo_T_columnOf_0 n (by omega) (by omega))
set_option maxRecDepth 100000 in
theorem xo_T_rowOf_0 : xevery (xchF m_T_rowOf false) 0 15 = true := by decide +kernel
theorem xo_T_rowOf : xMOK xprog m_T_rowOf := xMOK_of (ini := false) (N := 15) _ xmf_T_rowOf (fun h => nomatch h) (xhh_nil rfl) (fun _ _ h => xcd_guard h) (fun n h => xevery_ok _ _ xo_T_rowOf_0 n (by omega) (by omega))
set_option maxRecDepth 100000 in
theorem xo_T_isHome_0 : xevery (xchF m_T_isHome false) 0 14 = true := by decide +kernel
theorem xo_T_isHome : xMOK xprog m_T_isHome := xMOK_of (ini := false) (N := 14) _ xmf_T_isHome (fun h => nomatch h) (xhh_nil rfl) (fun _ _ h => xcd_guard h) (fun n h => xevery_ok _ _ xo_T_isHome_0 n (by omega) (by omega))
set_option maxRecDepth 100000 in
theorem xo_T_leafOf_0 : xevery (xchF m_T_leafOf false) 0 15 = true := by decide +kernel
theorem xo_T_leafOf : xMOK xprog m_T_leafOf := xMOK_of (ini := false) (N := 15) _ xmf_T_leafOf (fun h => nomatch h) (xhh_nil rfl) (fun _ _ h => xcd_guard h) (fun n h => xevery_ok _ _ xo_T_leafOf_0 n (by omega) (by omega))
set_option maxRecDepth 100000 in
theorem xo_T_wayOf_0 : xevery (xchF m_T_wayOf false) 0 15 = true := by decide +kernel
theorem xo_T_wayOf : xMOK xprog m_T_wayOf := xMOK_of (ini := false) (N := 15) _ xmf_T_wayOf (fun h => nomatch h) (xhh_nil rfl) (fun _ _ h => xcd_guard h) (fun n h => xevery_ok _ _ xo_T_wayOf_0 n (by omega) (by omega))
set_option maxRecDepth 100000 in
theorem xo_T_speedOf_0 : xevery (xchF m_T_speedOf false) 0 14 = true := by decide +kernel
theorem xo_T_speedOf : xMOK xprog m_T_speedOf := xMOK_of (ini := false) (N := 14) _ xmf_T_speedOf (fun h => nomatch h) (xhh_nil rfl) (fun _ _ h => xcd_guard h) (fun n h => xevery_ok _ _ xo_T_speedOf_0 n (by omega) (by omega))
set_option maxRecDepth 100000 in
theorem xo_T_pointsOf_0 : xevery (xchF m_T_pointsOf false) 0 15 = true := by decide +kernel
theorem xo_T_pointsOf : xMOK xprog m_T_pointsOf := xMOK_of (ini := false) (N := 15) _ xmf_T_pointsOf (fun h => nomatch h) (xhh_nil rfl) (fun _ _ h => xcd_guard h) (fun n h => xevery_ok _ _ xo_T_pointsOf_0 n (by omega) (by omega))
set_option maxRecDepth 100000 in
theorem xo_T_sipsOf_0 : xevery (xchF m_T_sipsOf false) 0 15 = true := by decide +kernel
theorem xo_T_sipsOf : xMOK xprog m_T_sipsOf := xMOK_of (ini := false) (N := 15) _ xmf_T_sipsOf (fun h => nomatch h) (xhh_nil rfl) (fun _ _ h => xcd_guard h) (fun n h => xevery_ok _ _ xo_T_sipsOf_0 n (by omega) (by omega))
set_option maxRecDepth 100000 in
theorem xo_T_smells_0 : xevery (xchF m_T_smells false) 0 19 = true := by decide +kernel
theorem xo_T_smells : xMOK xprog m_T_smells := xMOK_of (ini := false) (N := 19) _ xmf_T_smells (fun h => nomatch h) (xhh_nil rfl) (fun _ _ h => xcd_guard h) (fun n h => xevery_ok _ _ xo_T_smells_0 n (by omega) (by omega))
set_option maxRecDepth 100000 in
theorem xo_T_ruleTells_0 : xevery (xchF m_T_ruleTells false) 0 14 = true := by decide +kernel
theorem xo_T_ruleTells : xMOK xprog m_T_ruleTells := xMOK_of (ini := false) (N := 14) _ xmf_T_ruleTells (fun h => nomatch h) (xhh_nil rfl) (fun _ _ h => xcd_guard h) (fun n h => xevery_ok _ _ xo_T_ruleTells_0 n (by omega) (by omega))
set_option maxRecDepth 100000 in
theorem xo_T_wouldStay_0 : xevery (xchF m_T_wouldStay false) 0 22 = true := by decide +kernel
theorem xo_T_wouldStay : xMOK xprog m_T_wouldStay := xMOK_of (ini := false) (N := 22) _ xmf_T_wouldStay (fun h => nomatch h) (xhh_nil rfl) (fun _ _ h => xcd_guard h) (fun n h => xevery_ok _ _ xo_T_wouldStay_0 n (by omega) (by omega))
set_option maxRecDepth 100000 in
theorem xo_T_steersTo_0 : xevery (xchF m_T_steersTo false) 0 32 = true := by decide +kernel
theorem xo_T_steersTo : xMOK xprog m_T_steersTo := xMOK_of (ini := false) (N := 32) _ xmf_T_steersTo (fun h => nomatch h) (xhh_nil rfl) (fun _ _ h => xcd_guard h) (fun n h => xevery_ok _ _ xo_T_steersTo_0 n (by omega) (by omega))
set_option maxRecDepth 100000 in
theorem xo_T_leader_0 : xevery (xchF m_T_leader false) 0 58 = true := by decide +kernel
theorem xo_T_leader : xMOK xprog m_T_leader := xMOK_of (ini := false) (N := 58) _ xmf_T_leader (fun h => nomatch h) (xhh_nil rfl) (fun _ _ h => xcd_guard h) (fun n h => xevery_ok _ _ xo_T_leader_0 n (by omega) (by omega))
set_option maxRecDepth 100000 in
theorem xo_T_setWind_0 : xevery (xchF m_T_setWind false) 0 49 = true := by decide +kernel
theorem xo_T_setWind : xMOK xprog m_T_setWind := xMOK_of (ini := false) (N := 49) _ xmf_T_setWind (fun h => nomatch h) (xhh_nil rfl) (fun _ _ h => xcd_guard h) (fun n h => xevery_ok _ _ xo_T_setWind_0 n (by omega) (by omega))
set_option maxRecDepth 100000 in
theorem xo_T_jettison_0 : xevery (xchF m_T_jettison false) 0 66 = true := by decide +kernel
theorem xo_T_jettison : xMOK xprog m_T_jettison := xMOK_of (ini := false) (N := 66) _ xmf_T_jettison (fun h => nomatch h) (xhh_nil rfl) (fun _ _ h => xcd_guard h) (fun n h => xevery_ok _ _ xo_T_jettison_0 n (by omega) (by omega))
set_option maxRecDepth 100000 in
theorem xo_T_calmKettle_0 : xevery (xchF m_T_calmKettle false) 0 47 = true := by decide +kernel
theorem xo_T_calmKettle : xMOK xprog m_T_calmKettle := xMOK_of (ini := false) (N := 47) _ xmf_T_calmKettle (fun h => nomatch h) (xhh_nil rfl) (fun _ _ h => xcd_guard h) (fun n h => xevery_ok _ _ xo_T_calmKettle_0 n (by omega) (by omega))
set_option maxRecDepth 100000 in
theorem xo_T_sail_0 : xevery (xchF m_T_sail false) 0 13 = true := by decide +kernel
theorem xo_T_sail : xMOK xprog m_T_sail := xMOK_of (ini := false) (N := 13) _ xmf_T_sail (fun h => nomatch h) (xhh_nil rfl) (fun _ _ h => xcd_guard h) (fun n h => xevery_ok _ _ xo_T_sail_0 n (by omega) (by omega))
set_option maxRecDepth 100000 in
theorem xo_T_pointsBehind_0 : xevery (xchF m_T_pointsBehind false) 0 39 = true := by decide +kernel
theorem xo_T_pointsBehind : xMOK xprog m_T_pointsBehind := xMOK_of (ini := false) (N := 39) _ xmf_T_pointsBehind (fun h => nomatch h) (xhh_nil rfl) (fun _ _ h => xcd_guard h) (fun n h => xevery_ok _ _ xo_T_pointsBehind_0 n (by omega) (by omega))
set_option maxRecDepth 100000 in
theorem xo_T_hoursUntilPoints_0 : xevery (xchF m_T_hoursUntilPoints false) 0 63 = true := by decide +kernel
theorem xo_T_hoursUntilPoints : xMOK xprog m_T_hoursUntilPoints := xMOK_of (ini := false) (N := 63) _ xmf_T_hoursUntilPoints (fun h => nomatch h) (xhh_nil rfl) (fun _ _ h => xcd_guard h) (fun n h => xevery_ok _ _ xo_T_hoursUntilPoints_0 n (by omega) (by omega))
set_option maxRecDepth 100000 in
theorem xo_T_bestWind_0 : xevery (xchF m_T_bestWind false) 0 88 = true := by decide +kernel
theorem xo_T_bestWind : xMOK xprog m_T_bestWind := xMOK_of (ini := false) (N := 88) _ xmf_T_bestWind (fun h => nomatch h) (xhh_nil rfl) (fun _ _ h => xcd_guard h) (fun n h => xevery_ok _ _ xo_T_bestWind_0 n (by omega) (by omega))
set_option maxRecDepth 100000 in
theorem xo_T_meanPoints_0 : xevery (xchF m_T_meanPoints false) 0 48 = true := by decide +kernel
theorem xo_T_meanPoints : xMOK xprog m_T_meanPoints := xMOK_of (ini := false) (N := 48) _ xmf_T_meanPoints (fun h => nomatch h) (xhh_nil rfl) (fun _ _ h => xcd_guard h) (fun n h => xevery_ok _ _ xo_T_meanPoints_0 n (by omega) (by omega))
set_option maxRecDepth 100000 in
theorem xo_T_digest_0 : xevery (xchF m_T_digest false) 0 106 = true := by decide +kernel
theorem xo_T_digest : xMOK xprog m_T_digest := xMOK_of (ini := false) (N := 106) _ xmf_T_digest (fun h => nomatch h) (xhh_nil rfl) (fun _ _ h => xcd_guard h) (fun n h => xevery_ok _ _ xo_T_digest_0 n (by omega) (by omega))
set_option maxRecDepth 100000 in
theorem xo_T_digestAromas_0 : xevery (xchF m_T_digestAromas false) 0 62 = true := by decide +kernel
theorem xo_T_digestAromas : xMOK xprog m_T_digestAromas := xMOK_of (ini := false) (N := 62) _ xmf_T_digestAromas (fun h => nomatch h) (xhh_nil rfl) (fun _ _ h => xcd_guard h) (fun n h => xevery_ok _ _ xo_T_digestAromas_0 n (by omega) (by omega))
set_option maxRecDepth 100000 in
theorem xo_T_digestKettles_0 : xevery (xchF m_T_digestKettles false) 0 55 = true := by decide +kernel
theorem xo_T_digestKettles : xMOK xprog m_T_digestKettles := xMOK_of (ini := false) (N := 55) _ xmf_T_digestKettles (fun h => nomatch h) (xhh_nil rfl) (fun _ _ h => xcd_guard h) (fun n h => xevery_ok _ _ xo_T_digestKettles_0 n (by omega) (by omega))
set_option maxRecDepth 100000 in
theorem xo_T_digestClippers_0 : xevery (xchF m_T_digestClippers false) 0 129 = true := by decide +kernel
theorem xo_T_digestClippers : xMOK xprog m_T_digestClippers := xMOK_of (ini := false) (N := 129) _ xmf_T_digestClippers (fun h => nomatch h) (xhh_nil rfl) (fun _ _ h => xcd_guard h) (fun n h => xevery_ok _ _ xo_T_digestClippers_0 n (by omega) (by omega))
set_option maxRecDepth 100000 in
theorem xo_T_digestWith_0 : xevery (xchF m_T_digestWith false) 0 9 = true := by decide +kernel
theorem xo_T_digestWith : xMOK xprog m_T_digestWith := xMOK_of (ini := false) (N := 9) _ xmf_T_digestWith (fun h => nomatch h) (xhh_nil rfl) (fun _ _ h => xcd_guard h) (fun n h => xevery_ok _ _ xo_T_digestWith_0 n (by omega) (by omega))
set_option maxRecDepth 100000 in
theorem xo_T_needCell_0 : xevery (xchF m_T_needCell false) 0 23 = true := by decide +kernel
theorem xo_T_needCell : xMOK xprog m_T_needCell := xMOK_of (ini := false) (N := 23) _ xmf_T_needCell (fun h => nomatch h) (xhh_nil rfl) (fun _ _ h => xcd_guard h) (fun n h => xevery_ok _ _ xo_T_needCell_0 n (by omega) (by omega))
set_option maxRecDepth 100000 in
theorem xo_T_needKettle_0 : xevery (xchF m_T_needKettle false) 0 26 = true := by decide +kernel
theorem xo_T_needKettle : xMOK xprog m_T_needKettle := xMOK_of (ini := false) (N := 26) _ xmf_T_needKettle (fun h => nomatch h) (xhh_nil rfl) (fun _ _ h => xcd_guard h) (fun n h => xevery_ok _ _ xo_T_needKettle_0 n (by omega) (by omega))
set_option maxRecDepth 100000 in
theorem xo_T_needClipper_0 : xevery (xchF m_T_needClipper false) 0 26 = true := by decide +kernel
theorem xo_T_needClipper : xMOK xprog m_T_needClipper := xMOK_of (ini := false) (N := 26) _ xmf_T_needClipper (fun h => nomatch h) (xhh_nil rfl) (fun _ _ h => xcd_guard h) (fun n h => xevery_ok _ _ xo_T_needClipper_0 n (by omega) (by omega))
set_option maxRecDepth 100000 in
theorem xo_T_needDirection_0 : xevery (xchF m_T_needDirection false) 0 20 = true := by decide +kernel
theorem xo_T_needDirection : xMOK xprog m_T_needDirection := xMOK_of (ini := false) (N := 20) _ xmf_T_needDirection (fun h => nomatch h) (xhh_nil rfl) (fun _ _ h => xcd_guard h) (fun n h => xevery_ok _ _ xo_T_needDirection_0 n (by omega) (by omega))
set_option maxRecDepth 100000 in
theorem xo_T_needHours_0 : xevery (xchF m_T_needHours false) 0 22 = true := by decide +kernel
theorem xo_T_needHours : xMOK xprog m_T_needHours := xMOK_of (ini := false) (N := 22) _ xmf_T_needHours (fun h => nomatch h) (xhh_nil rfl) (fun _ _ h => xcd_guard h) (fun n h => xevery_ok _ _ xo_T_needHours_0 n (by omega) (by omega))
set_option maxRecDepth 100000 in
theorem xo_MB_init_0 : xevery (xchF m_MB_init true) 0 82 = true := by decide +kernel
theorem xo_MB_init : xMOK xprog m_MB_init := xMOK_of (ini := true) (N := 82) _ xmf_MB_init (fun _ => rfl) (xhh_nil rfl) (fun _ _ h => xcd_guard h) (fun n h => xevery_ok _ _ xo_MB_init_0 n (by omega) (by omega))
set_option maxRecDepth 100000 in
theorem xo_MB_put_0 : xevery (xchF m_MB_put false) 0 37 = true := by decide +kernel
theorem xo_MB_put : xMOK xprog m_MB_put := xMOK_of (ini := false) (N := 37) _ xmf_MB_put (fun h => nomatch h) (xhh_nil rfl) (fun _ _ h => xcd_guard h) (fun n h => xevery_ok _ _ xo_MB_put_0 n (by omega) (by omega))
set_option maxRecDepth 100000 in
theorem xo_MB_kettle_0 : xevery (xchF m_MB_kettle false) 0 30 = true := by decide +kernel
theorem xo_MB_kettle : xMOK xprog m_MB_kettle := xMOK_of (ini := false) (N := 30) _ xmf_MB_kettle (fun h => nomatch h) (xhh_nil rfl) (fun _ _ h => xcd_guard h) (fun n h => xevery_ok _ _ xo_MB_kettle_0 n (by omega) (by omega))
set_option maxRecDepth 100000 in
theorem xo_MB_hasCustoms_0 : xevery (xchF m_MB_hasCustoms false) 0 30 = true := by decide +kernel
theorem xo_MB_hasCustoms : xMOK xprog m_MB_hasCustoms := xMOK_of (ini := false) (N := 30) _ xmf_MB_hasCustoms (fun h => nomatch h) (xhh_nil rfl) (fun _ _ h => xcd_guard h) (fun n h => xevery_ok _ _ xo_MB_hasCustoms_0 n (by omega) (by omega))
set_option maxRecDepth 100000 in
theorem xo_MR_init_0 : xevery (xchF m_MR_init true) 0 39 = true := by decide +kernel
theorem xo_MR_init : xMOK xprog m_MR_init := xMOK_of (ini := true) (N := 39) _ xmf_MR_init (fun _ => rfl) (xhh_nil rfl) (fun _ _ h => xcd_guard h) (fun n h => xevery_ok _ _ xo_MR_init_0 n (by omega) (by omega))
set_option maxRecDepth 100000 in
theorem xo_MR_note_0 : xevery (xchF m_MR_note false) 0 41 = true := by decide +kernel
theorem xo_MR_note : xMOK xprog m_MR_note := xMOK_of (ini := false) (N := 41) _ xmf_MR_note (fun h => nomatch h) (xhh_nil rfl) (fun _ _ h => xcd_guard h) (fun n h => xevery_ok _ _ xo_MR_note_0 n (by omega) (by omega))
set_option maxRecDepth 100000 in
theorem xo_MR_wrong_0 : xevery (xchF m_MR_wrong false) 0 10 = true := by decide +kernel
theorem xo_MR_wrong : xMOK xprog m_MR_wrong := xMOK_of (ini := false) (N := 10) _ xmf_MR_wrong (fun h => nomatch h) (xhh_nil rfl) (fun _ _ h => xcd_guard h) (fun n h => xevery_ok _ _ xo_MR_wrong_0 n (by omega) (by omega))
set_option maxRecDepth 100000 in
theorem xo_MR_isLetter_0 : xevery (xchF m_MR_isLetter false) 0 45 = true := by decide +kernel
theorem xo_MR_isLetter : xMOK xprog m_MR_isLetter := xMOK_of (ini := false) (N := 45) _ xmf_MR_isLetter (fun h => nomatch h) (xhh_nil rfl) (fun _ _ h => xcd_guard h) (fun n h => xevery_ok _ _ xo_MR_isLetter_0 n (by omega) (by omega))
set_option maxRecDepth 100000 in
theorem xo_MR_isDigit_0 : xevery (xchF m_MR_isDigit false) 0 45 = true := by decide +kernel
theorem xo_MR_isDigit : xMOK xprog m_MR_isDigit := xMOK_of (ini := false) (N := 45) _ xmf_MR_isDigit (fun h => nomatch h) (xhh_nil rfl) (fun _ _ h => xcd_guard h) (fun n h => xevery_ok _ _ xo_MR_isDigit_0 n (by omega) (by omega))
set_option maxRecDepth 100000 in
theorem xo_MR_next_0 : xevery (xchF m_MR_next false) 0 110 = true := by decide +kernel
theorem xo_MR_next : xMOK xprog m_MR_next := xMOK_of (ini := false) (N := 110) _ xmf_MR_next (fun h => nomatch h) (xhh_nil rfl) (fun _ _ h => xcd_guard h) (fun n h => xevery_ok _ _ xo_MR_next_0 n (by omega) (by omega))
set_option maxRecDepth 100000 in
theorem xo_MR_isSign_0 : xevery (xchF m_MR_isSign false) 0 78 = true := by decide +kernel
theorem xo_MR_isSign : xMOK xprog m_MR_isSign := xMOK_of (ini := false) (N := 78) _ xmf_MR_isSign (fun h => nomatch h) (xhh_nil rfl) (fun _ _ h => xcd_guard h) (fun n h => xevery_ok _ _ xo_MR_isSign_0 n (by omega) (by omega))
set_option maxRecDepth 100000 in
theorem xo_MR_token_0 : xevery (xchF m_MR_token false) 0 150 = true := by decide +kernel
set_option maxRecDepth 100000 in
theorem xo_MR_token_1 : xevery (xchF m_MR_token false) 150 18 = true := by decide +kernel
theorem xo_MR_token : xMOK xprog m_MR_token := xMOK_of (ini := false) (N := 168) _ xmf_MR_token (fun h => nomatch h) (xhh_nil rfl) (fun _ _ h => xcd_guard h) (fun n h => (Nat.lt_or_ge n 150).elim (fun q2 => xevery_ok _ _ xo_MR_token_0 n (by omega) (by omega)) (fun q2 => xevery_ok _ _ xo_MR_token_1 n (by omega) (by omega)))
set_option maxRecDepth 100000 in
theorem xo_MR_word_0 : xevery (xchF m_MR_word false) 0 132 = true := by decide +kernel
theorem xo_MR_word : xMOK xprog m_MR_word := xMOK_of (ini := false) (N := 132) _ xmf_MR_word (fun h => nomatch h) (xhh_nil rfl) (fun _ _ h => xcd_guard h) (fun n h => xevery_ok _ _ xo_MR_word_0 n (by omega) (by omega))
set_option maxRecDepth 100000 in
theorem xo_MR_code_0 : xevery (xchF m_MR_code false) 0 42 = true := by decide +kernel
theorem xo_MR_code : xMOK xprog m_MR_code := xMOK_of (ini := false) (N := 42) _ xmf_MR_code (fun h => nomatch h) (xhh_nil rfl) (fun _ _ h => xcd_guard h) (fun n h => xevery_ok _ _ xo_MR_code_0 n (by omega) (by omega))
set_option maxRecDepth 100000 in
theorem xo_MR_take_0 : xevery (xchF m_MR_take false) 0 19 = true := by decide +kernel
theorem xo_MR_take : xMOK xprog m_MR_take := xMOK_of (ini := false) (N := 19) _ xmf_MR_take (fun h => nomatch h) (xhh_nil rfl) (fun _ _ h => xcd_guard h) (fun n h => xevery_ok _ _ xo_MR_take_0 n (by omega) (by omega))
set_option maxRecDepth 100000 in
theorem xo_MR_number_0 : xevery (xchF m_MR_number false) 0 32 = true := by decide +kernel
theorem xo_MR_number : xMOK xprog m_MR_number := xMOK_of (ini := false) (N := 32) _ xmf_MR_number (fun h => nomatch h) (xhh_nil rfl) (fun _ _ h => xcd_guard h) (fun n h => xevery_ok _ _ xo_MR_number_0 n (by omega) (by omega))
set_option maxRecDepth 100000 in
theorem xo_MR_book_0 : xevery (xchF m_MR_book false) 0 39 = true := by decide +kernel
theorem xo_MR_book : xMOK xprog m_MR_book := xMOK_of (ini := false) (N := 39) _ xmf_MR_book (fun h => nomatch h) (xhh_nil rfl) (fun _ _ h => xcd_guard h) (fun n h => xevery_ok _ _ xo_MR_book_0 n (by omega) (by omega))
set_option maxRecDepth 100000 in
theorem xo_MR_line_0 : xevery (xchF m_MR_line false) 0 66 = true := by decide +kernel
theorem xo_MR_line : xMOK xprog m_MR_line := xMOK_of (ini := false) (N := 66) _ xmf_MR_line (fun h => nomatch h) (xhh_nil rfl) (fun _ _ h => xcd_guard h) (fun n h => xevery_ok _ _ xo_MR_line_0 n (by omega) (by omega))
set_option maxRecDepth 100000 in
theorem xo_MR_bay_0 : xevery (xchF m_MR_bay false) 0 84 = true := by decide +kernel
theorem xo_MR_bay : xMOK xprog m_MR_bay := xMOK_of (ini := false) (N := 84) _ xmf_MR_bay (fun h => nomatch h) (xhh_nil rfl) (fun _ _ h => xcd_guard h) (fun n h => xevery_ok _ _ xo_MR_bay_0 n (by omega) (by omega))
set_option maxRecDepth 100000 in
theorem xo_MR_cell_0 : xevery (xchF m_MR_cell false) 0 63 = true := by decide +kernel
theorem xo_MR_cell : xMOK xprog m_MR_cell := xMOK_of (ini := false) (N := 63) _ xmf_MR_cell (fun h => nomatch h) (xhh_nil rfl) (fun _ _ h => xcd_guard h) (fun n h => xevery_ok _ _ xo_MR_cell_0 n (by omega) (by omega))
set_option maxRecDepth 100000 in
theorem xo_MR_isFree_0 : xevery (xchF m_MR_isFree false) 0 29 = true := by decide +kernel
theorem xo_MR_isFree : xMOK xprog m_MR_isFree := xMOK_of (ini := false) (N := 29) _ xmf_MR_isFree (fun h => nomatch h) (xhh_nil rfl) (fun _ _ h => xcd_guard h) (fun n h => xevery_ok _ _ xo_MR_isFree_0 n (by omega) (by omega))
set_option maxRecDepth 100000 in
theorem xo_MR_kettle_0 : xevery (xchF m_MR_kettle false) 0 147 = true := by decide +kernel
theorem xo_MR_kettle : xMOK xprog m_MR_kettle := xMOK_of (ini := false) (N := 147) _ xmf_MR_kettle (fun h => nomatch h) (xhh_nil rfl) (fun _ _ h => xcd_guard h) (fun n h => xevery_ok _ _ xo_MR_kettle_0 n (by omega) (by omega))
set_option maxRecDepth 100000 in
theorem xo_MR_customs_0 : xevery (xchF m_MR_customs false) 0 102 = true := by decide +kernel
theorem xo_MR_customs : xMOK xprog m_MR_customs := xMOK_of (ini := false) (N := 102) _ xmf_MR_customs (fun h => nomatch h) (xhh_nil rfl) (fun _ _ h => xcd_guard h) (fun n h => xevery_ok _ _ xo_MR_customs_0 n (by omega) (by omega))
set_option maxRecDepth 100000 in
theorem xo_MR_clipper_0 : xevery (xchF m_MR_clipper false) 0 150 = true := by decide +kernel
set_option maxRecDepth 100000 in
theorem xo_MR_clipper_1 : xevery (xchF m_MR_clipper false) 150 142 = true := by decide +kernel
theorem xo_MR_clipper : xMOK xprog m_MR_clipper := xMOK_of (ini := false) (N := 292) _ xmf_MR_clipper (fun h => nomatch h) (xhh_nil rfl) (fun _ _ h => xcd_guard h) (fun n h => (Nat.lt_or_ge n 150).elim (fun q2 => xevery_ok _ _ xo_MR_clipper_0 n (by omega) (by omega)) (fun q2 => xevery_ok _ _ xo_MR_clipper_1 n (by omega) (by omega)))
set_option maxRecDepth 100000 in
theorem xo_MR_rule_0 : xevery (xchF m_MR_rule false) 0 96 = true := by decide +kernel
theorem xo_MR_rule : xMOK xprog m_MR_rule := xMOK_of (ini := false) (N := 96) _ xmf_MR_rule (fun h => nomatch h) (xhh_nil rfl) (fun _ _ h => xcd_guard h) (fun n h => xevery_ok _ _ xo_MR_rule_0 n (by omega) (by omega))
set_option maxRecDepth 100000 in
theorem xo_MR_either_0 : xevery (xchF m_MR_either false) 0 50 = true := by decide +kernel
theorem xo_MR_either : xMOK xprog m_MR_either := xMOK_of (ini := false) (N := 50) _ xmf_MR_either (fun h => nomatch h) (xhh_nil rfl) (fun _ _ h => xcd_guard h) (fun n h => xevery_ok _ _ xo_MR_either_0 n (by omega) (by omega))
set_option maxRecDepth 100000 in
theorem xo_MR_both_0 : xevery (xchF m_MR_both false) 0 50 = true := by decide +kernel
theorem xo_MR_both : xMOK xprog m_MR_both := xMOK_of (ini := false) (N := 50) _ xmf_MR_both (fun h => nomatch h) (xhh_nil rfl) (fun _ _ h => xcd_guard h) (fun n h => xevery_ok _ _ xo_MR_both_0 n (by omega) (by omega))
set_option maxRecDepth 100000 in
theorem xo_MR_compare_0 : xevery (xchF m_MR_compare false) 0 60 = true := by decide +kernel
theorem xo_MR_compare : xMOK xprog m_MR_compare := xMOK_of (ini := false) (N := 60) _ xmf_MR_compare (fun h => nomatch h) (xhh_nil rfl) (fun _ _ h => xcd_guard h) (fun n h => xevery_ok _ _ xo_MR_compare_0 n (by omega) (by omega))
set_option maxRecDepth 100000 in
theorem xo_MR_sum_0 : xevery (xchF m_MR_sum false) 0 61 = true := by decide +kernel
theorem xo_MR_sum : xMOK xprog m_MR_sum := xMOK_of (ini := false) (N := 61) _ xmf_MR_sum (fun h => nomatch h) (xhh_nil rfl) (fun _ _ h => xcd_guard h) (fun n h => xevery_ok _ _ xo_MR_sum_0 n (by omega) (by omega))
set_option maxRecDepth 100000 in
theorem xo_MR_product_0 : xevery (xchF m_MR_product false) 0 70 = true := by decide +kernel
theorem xo_MR_product : xMOK xprog m_MR_product := xMOK_of (ini := false) (N := 70) _ xmf_MR_product (fun h => nomatch h) (xhh_nil rfl) (fun _ _ h => xcd_guard h) (fun n h => xevery_ok _ _ xo_MR_product_0 n (by omega) (by omega))
set_option maxRecDepth 100000 in
theorem xo_MR_value_0 : xevery (xchF m_MR_value false) 0 150 = true := by decide +kernel
set_option maxRecDepth 100000 in
theorem xo_MR_value_1 : xevery (xchF m_MR_value false) 150 137 = true := by decide +kernel
theorem xo_MR_value : xMOK xprog m_MR_value := xMOK_of (ini := false) (N := 287) _ xmf_MR_value (fun h => nomatch h) (xhh_nil rfl) (fun _ _ h => xcd_guard h) (fun n h => (Nat.lt_or_ge n 150).elim (fun q2 => xevery_ok _ _ xo_MR_value_0 n (by omega) (by omega)) (fun q2 => xevery_ok _ _ xo_MR_value_1 n (by omega) (by omega)))
set_option maxRecDepth 100000 in
theorem xo_MR_begin_0 : xevery (xchF m_MR_begin false) 0 26 = true := by decide +kernel
theorem xo_MR_begin : xMOK xprog m_MR_begin := xMOK_of (ini := false) (N := 26) _ xmf_MR_begin (fun h => nomatch h) (xhh_nil rfl) (fun _ _ h => xcd_guard h) (fun n h => xevery_ok _ _ xo_MR_begin_0 n (by omega) (by omega))
set_option maxRecDepth 100000 in
theorem xo_M_init_0 : xevery (xchF m_M_init true) 0 67 = true := by decide +kernel
theorem xo_M_init : xMOK xprog m_M_init := xMOK_of (ini := true) (N := 67) _ xmf_M_init (fun _ => rfl) (xhh_nil rfl) (fun _ _ h => xcd_guard h) (fun n h => xevery_ok _ _ xo_M_init_0 n (by omega) (by omega))
set_option maxRecDepth 100000 in
theorem xo_M_thrown_0 : xevery (xchF m_M_thrown false) 0 5 = true := by decide +kernel
theorem xo_M_thrown : xMOK xprog m_M_thrown := xMOK_of (ini := false) (N := 5) _ xmf_M_thrown (fun h => nomatch h) (xhh_nil rfl) (fun _ _ h => xcd_guard h) (fun n h => xevery_ok _ _ xo_M_thrown_0 n (by omega) (by omega))
set_option maxRecDepth 100000 in
theorem xo_M_fail_0 : xevery (xchF m_M_fail false) 0 7 = true := by decide +kernel
theorem xo_M_fail : xMOK xprog m_M_fail := xMOK_of (ini := false) (N := 7) _ xmf_M_fail (fun h => nomatch h) (xhh_nil rfl) (fun _ _ h => xcd_guard h) (fun n h => xevery_ok _ _ xo_M_fail_0 n (by omega) (by omega))
set_option maxRecDepth 100000 in
theorem xo_M_failed_0 : xevery (xchF m_M_failed false) 0 7 = true := by decide +kernel
theorem xo_M_failed : xMOK xprog m_M_failed := xMOK_of (ini := false) (N := 7) _ xmf_M_failed (fun h => nomatch h) (xhh_nil rfl) (fun _ _ h => xcd_guard h) (fun n h => xevery_ok _ _ xo_M_failed_0 n (by omega) (by omega))
set_option maxRecDepth 100000 in
theorem xo_M_told_0 : xevery (xchF m_M_told false) 0 7 = true := by decide +kernel
theorem xo_M_told : xMOK xprog m_M_told := xMOK_of (ini := false) (N := 7) _ xmf_M_told (fun h => nomatch h) (xhh_nil rfl) (fun _ _ h => xcd_guard h) (fun n h => xevery_ok _ _ xo_M_told_0 n (by omega) (by omega))
set_option maxRecDepth 100000 in
theorem xo_M_isIn_0 : xevery (xchF m_M_isIn false) 0 16 = true := by decide +kernel
theorem xo_M_isIn : xMOK xprog m_M_isIn := xMOK_of (ini := false) (N := 16) _ xmf_M_isIn (fun h => nomatch h) (xhh_nil rfl) (fun _ _ h => xcd_guard h) (fun n h => xevery_ok _ _ xo_M_isIn_0 n (by omega) (by omega))
set_option maxRecDepth 100000 in
theorem xo_M_feed_0 : xevery (xchF m_M_feed false) 0 114 = true := by decide +kernel
theorem xo_M_feed : xMOK xprog m_M_feed := xMOK_of (ini := false) (N := 114) _ xmf_M_feed (fun h => nomatch h) (xhh_nil rfl) (fun _ _ h => xcd_guard h) (fun n h => xevery_ok _ _ xo_M_feed_0 n (by omega) (by omega))
set_option maxRecDepth 100000 in
theorem xo_M_trim_0 : xevery (xchF m_M_trim false) 0 30 = true := by decide +kernel
theorem xo_M_trim : xMOK xprog m_M_trim := xMOK_of (ini := false) (N := 30) _ xmf_M_trim (fun h => nomatch h) (xhh_nil rfl) (fun _ _ h => xcd_guard h) (fun n h => xevery_ok _ _ xo_M_trim_0 n (by omega) (by omega))
set_option maxRecDepth 100000 in
theorem xo_M_teach_0 : xevery (xchF m_M_teach false) 0 76 = true := by decide +kernel
theorem xo_M_teach : xMOK xprog m_M_teach := xMOK_of (ini := false) (N := 76) _ xmf_M_teach (fun h => nomatch h) (xhh_nil rfl) (fun _ _ h => xcd_guard h) (fun n h => xevery_ok _ _ xo_M_teach_0 n (by omega) (by omega))
set_option maxRecDepth 100000 in
theorem xo_M_errorAt_0 : xevery (xchF m_M_errorAt false) 0 9 = true := by decide +kernel
theorem xo_M_errorAt : xMOK xprog m_M_errorAt := xMOK_of (ini := false) (N := 9) _ xmf_M_errorAt (fun h => nomatch h) (xhh_nil rfl) (fun _ _ h => xcd_guard h) (fun n h => xevery_ok _ _ xo_M_errorAt_0 n (by omega) (by omega))
set_option maxRecDepth 100000 in
theorem xo_M_begin_0 : xevery (xchF m_M_begin false) 0 71 = true := by decide +kernel
theorem xo_M_begin : xMOK xprog m_M_begin := xMOK_of (ini := false) (N := 71) _ xmf_M_begin (fun h => nomatch h) (xhh_nil rfl) (fun _ _ h => xcd_guard h) (fun n h => xevery_ok _ _ xo_M_begin_0 n (by omega) (by omega))
set_option maxRecDepth 100000 in
theorem xo_M_keep_0 : xevery (xchF m_M_keep false) 0 16 = true := by decide +kernel
theorem xo_M_keep : xMOK xprog m_M_keep := xMOK_of (ini := false) (N := 16) _ xmf_M_keep (fun h => nomatch h) (xhh_nil rfl) (fun _ _ h => xcd_guard h) (fun n h => xevery_ok _ _ xo_M_keep_0 n (by omega) (by omega))
set_option maxRecDepth 100000 in
theorem xo_M_bringBack_0 : xevery (xchF m_M_bringBack false) 0 16 = true := by decide +kernel
theorem xo_M_bringBack : xMOK xprog m_M_bringBack := xMOK_of (ini := false) (N := 16) _ xmf_M_bringBack (fun h => nomatch h) (xhh_nil rfl) (fun _ _ h => xcd_guard h) (fun n h => xevery_ok _ _ xo_M_bringBack_0 n (by omega) (by omega))
set_option maxRecDepth 100000 in
theorem xo_M_cl_0 : xevery (xchF m_M_cl false) 0 15 = true := by decide +kernel
theorem xo_M_cl : xMOK xprog m_M_cl := xMOK_of (ini := false) (N := 15) _ xmf_M_cl (fun h => nomatch h) (xhh_nil rfl) (fun _ _ h => xcd_guard h) (fun n h => xevery_ok _ _ xo_M_cl_0 n (by omega) (by omega))
set_option maxRecDepth 100000 in
theorem xo_M_let_0 : xevery (xchF m_M_let false) 0 16 = true := by decide +kernel
theorem xo_M_let : xMOK xprog m_M_let := xMOK_of (ini := false) (N := 16) _ xmf_M_let (fun h => nomatch h) (xhh_nil rfl) (fun _ _ h => xcd_guard h) (fun n h => xevery_ok _ _ xo_M_let_0 n (by omega) (by omega))
set_option maxRecDepth 100000 in
theorem xo_M_ke_0 : xevery (xchF m_M_ke false) 0 13 = true := by decide +kernel
theorem xo_M_ke : xMOK xprog m_M_ke := xMOK_of (ini := false) (N := 13) _ xmf_M_ke (fun h => nomatch h) (xhh_nil rfl) (fun _ _ h => xcd_guard h) (fun n h => xevery_ok _ _ xo_M_ke_0 n (by omega) (by omega))
set_option maxRecDepth 100000 in
theorem xo_M_letKettle_0 : xevery (xchF m_M_letKettle false) 0 14 = true := by decide +kernel
theorem xo_M_letKettle : xMOK xprog m_M_letKettle := xMOK_of (ini := false) (N := 14) _ xmf_M_letKettle (fun h => nomatch h) (xhh_nil rfl) (fun _ _ h => xcd_guard h) (fun n h => xevery_ok _ _ xo_M_letKettle_0 n (by omega) (by omega))
set_option maxRecDepth 100000 in
theorem xo_M_across_0 : xevery (xchF m_M_across false) 0 20 = true := by decide +kernel
theorem xo_M_across : xMOK xprog m_M_across := xMOK_of (ini := false) (N := 20) _ xmf_M_across (fun h => nomatch h) (xhh_nil rfl) (fun _ _ h => xcd_guard h) (fun n h => xevery_ok _ _ xo_M_across_0 n (by omega) (by omega))
set_option maxRecDepth 100000 in
theorem xo_M_down_0 : xevery (xchF m_M_down false) 0 19 = true := by decide +kernel
theorem xo_M_down : xMOK xprog m_M_down := xMOK_of (ini := false) (N := 19) _ xmf_M_down (fun h => nomatch h) (xhh_nil rfl) (fun _ _ h => xcd_guard h) (fun n h => xevery_ok _ _ xo_M_down_0 n (by omega) (by omega))
set_option maxRecDepth 100000 in
theorem xo_M_isCell_0 : xevery (xchF m_M_isCell false) 0 40 = true := by decide +kernel
theorem xo_M_isCell : xMOK xprog m_M_isCell := xMOK_of (ini := false) (N := 40) _ xmf_M_isCell (fun h => nomatch h) (xhh_nil rfl) (fun _ _ h => xcd_guard h) (fun n h => xevery_ok _ _ xo_M_isCell_0 n (by omega) (by omega))
