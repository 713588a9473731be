set_option maxRecDepth 100000 in
theorem xo_T_teach_0 : xevery (xchF m_T_teach false) 0 66 = true := by decide +kernel
theorem xo_T_teach : xMOK xprog m_T_teach := xMOK_of (ini := false) (N := 66) _ xmf_T_teach (fun h => nomatch h) (xhh_nil rfl) (fun _ _ h => xcd_guard h) (fun n h => xevery_ok _ _ xo_T_teach_0 n (by omega) (by omega))
set_option maxRecDepth 100000 in
theorem xo_T_columns_0 : xevery (xchF m_T_columns false) 0 8 = true := by decide +kernel
theorem xo_T_columns : xMOK xprog m_T_columns := xMOK_of (ini := false) (N := 8) _ xmf_T_columns (fun h => nomatch h) (xhh_nil rfl) (fun _ _ h => xcd_guard h) (fun n h => xevery_ok _ _ xo_T_columns_0 n (by omega) (by omega))
set_option maxRecDepth 100000 in
theorem xo_T_rows_0 : xevery (xchF m_T_rows false) 0 8 = true := by decide +kernel
theorem xo_T_rows : xMOK xprog m_T_rows := xMOK_of (ini := false) (N := 8) _ xmf_T_rows (fun h => nomatch h) (xhh_nil rfl) (fun _ _ h => xcd_guard h) (fun n h => xevery_ok _ _ xo_T_rows_0 n (by omega) (by omega))
set_option maxRecDepth 100000 in
theorem xo_T_kettles_0 : xevery (xchF m_T_kettles false) 0 8 = true := by decide +kernel
theorem xo_T_kettles : xMOK xprog m_T_kettles := xMOK_of (ini := false) (N := 8) _ xmf_T_kettles (fun h => nomatch h) (xhh_nil rfl) (fun _ _ h => xcd_guard h) (fun n h => xevery_ok _ _ xo_T_kettles_0 n (by omega) (by omega))
set_option maxRecDepth 100000 in
theorem xo_T_clippers_0 : xevery (xchF m_T_clippers false) 0 8 = true := by decide +kernel
theorem xo_T_clippers : xMOK xprog m_T_clippers := xMOK_of (ini := false) (N := 8) _ xmf_T_clippers (fun h => nomatch h) (xhh_nil rfl) (fun _ _ h => xcd_guard h) (fun n h => xevery_ok _ _ xo_T_clippers_0 n (by omega) (by omega))
set_option maxRecDepth 100000 in
theorem xo_T_hasCustoms_0 : xevery (xchF m_T_hasCustoms false) 0 16 = true := by decide +kernel
theorem xo_T_hasCustoms : xMOK xprog m_T_hasCustoms := xMOK_of (ini := false) (N := 16) _ xmf_T_hasCustoms (fun h => nomatch h) (xhh_nil rfl) (fun _ _ h => xcd_guard h) (fun n h => xevery_ok _ _ xo_T_hasCustoms_0 n (by omega) (by omega))
set_option maxRecDepth 100000 in
theorem xo_T_hasSteam_0 : xevery (xchF m_T_hasSteam false) 0 25 = true := by decide +kernel
theorem xo_T_hasSteam : xMOK xprog m_T_hasSteam := xMOK_of (ini := false) (N := 25) _ xmf_T_hasSteam (fun h => nomatch h) (xhh_nil rfl) (fun _ _ h => xcd_guard h) (fun n h => xevery_ok _ _ xo_T_hasSteam_0 n (by omega) (by omega))
set_option maxRecDepth 100000 in
theorem xo_T_aromaAt_0 : xevery (xchF m_T_aromaAt false) 0 16 = true := by decide +kernel
theorem xo_T_aromaAt : xMOK xprog m_T_aromaAt := xMOK_of (ini := false) (N := 16) _ xmf_T_aromaAt (fun h => nomatch h) (xhh_nil rfl) (fun _ _ h => xcd_guard h) (fun n h => xevery_ok _ _ xo_T_aromaAt_0 n (by omega) (by omega))
set_option maxRecDepth 100000 in
theorem xo_T_becalmedFor_0 : xevery (xchF m_T_becalmedFor false) 0 15 = true := by decide +kernel
theorem xo_T_becalmedFor : xMOK xprog m_T_becalmedFor := xMOK_of (ini := false) (N := 15) _ xmf_T_becalmedFor (fun h => nomatch h) (xhh_nil rfl) (fun _ _ h => xcd_guard h) (fun n h => xevery_ok _ _ xo_T_becalmedFor_0 n (by omega) (by omega))
set_option maxRecDepth 100000 in
theorem xo_T_visitsTo_0 : xevery (xchF m_T_visitsTo false) 0 15 = true := by decide +kernel
theorem xo_T_visitsTo : xMOK xprog m_T_visitsTo := xMOK_of (ini := false) (N := 15) _ xmf_T_visitsTo (fun h => nomatch h) (xhh_nil rfl) (fun _ _ h => xcd_guard h) (fun n h => xevery_ok _ _ xo_T_visitsTo_0 n (by omega) (by omega))
set_option maxRecDepth 100000 in
theorem xo_T_windDirection_0 : xevery (xchF m_T_windDirection false) 0 8 = true := by decide +kernel
theorem xo_T_windDirection : xMOK xprog m_T_windDirection := xMOK_of (ini := false) (N := 8) _ xmf_T_windDirection (fun h => nomatch h) (xhh_nil rfl) (fun _ _ h => xcd_guard h) (fun n h => xevery_ok _ _ xo_T_windDirection_0 n (by omega) (by omega))
set_option maxRecDepth 100000 in
theorem xo_T_windForce_0 : xevery (xchF m_T_windForce false) 0 8 = true := by decide +kernel
theorem xo_T_windForce : xMOK xprog m_T_windForce := xMOK_of (ini := false) (N := 8) _ xmf_T_windForce (fun h => nomatch h) (xhh_nil rfl) (fun _ _ h => xcd_guard h) (fun n h => xevery_ok _ _ xo_T_windForce_0 n (by omega) (by omega))
set_option maxRecDepth 100000 in
theorem xo_T_hour_0 : xevery (xchF m_T_hour false) 0 8 = true := by decide +kernel
theorem xo_T_hour : xMOK xprog m_T_hour := xMOK_of (ini := false) (N := 8) _ xmf_T_hour (fun h => nomatch h) (xhh_nil rfl) (fun _ _ h => xcd_guard h) (fun n h => xevery_ok _ _ xo_T_hour_0 n (by omega) (by omega))
set_option maxRecDepth 100000 in
theorem xo_T_columnOf_0 : xevery (xchF m_T_columnOf false) 0 15 = true := by decide +kernel
theorem xo_T_columnOf : xMOK xprog m_T_columnOf := xMOK_of (ini := false) (N := 15) _ xmf_T_columnOf (fun h => nomatch h) (xhh_nil rfl) (fun _ _ h => xcd_guard h) (fun n h => xevery_ok _ _ xo_T_columnOf_0 n (by omega) (by omega))
set_option maxRecDepth 100000 in
theorem xo_T_rowOf_0 : xevery (xchF m_T_rowOf false) 0 15 = true := by decide +kernel
theorem xo_T_rowOf : xMOK xprog m_T_rowOf := xMOK_of (ini := false) (N := 15) _ xmf_T_rowOf (fun h => nomatch h) (xhh_nil rfl) (fun _ _ h => xcd_guard h) (fun n h => xevery_ok _ _ xo_T_rowOf_0 n (by omega) (by omega))
set_option maxRecDepth 100000 in
theorem xo_T_isHome_0 : xevery (xchF m_T_isHome false) 0 14 = true := by decide +kernel
theorem xo_T_isHome : xMOK xprog m_T_isHome := xMOK_of (ini := false) (N := 14) _ xmf_T_isHome (fun h => nomatch h) (xhh_nil rfl) (fun _ _ h => xcd_guard h) (fun n h => xevery_ok _ _ xo_T_isHome_0 n (by omega) (by omega))
set_option maxRecDepth 100000 in
theorem xo_T_leafOf_0 : xevery (xchF m_T_leafOf false) 0 15 = true := by decide +kernel
theorem xo_T_leafOf : xMOK xprog m_T_leafOf := xMOK_of (ini := false) (N := 15) _ xmf_T_leafOf (fun h => nomatch h) (xhh_nil rfl) (fun _ _ h => xcd_guard h) (fun n h => xevery_ok _ _ xo_T_leafOf_0 n (by omega) (by omega))
set_option maxRecDepth 100000 in
theorem xo_T_wayOf_0 : xevery (xchF m_T_wayOf false) 0 15 = true := by decide +kernel
theorem xo_T_wayOf : xMOK xprog m_T_wayOf := xMOK_of (ini := false) (N := 15) _ xmf_T_wayOf (fun h => nomatch h) (xhh_nil rfl) (fun _ _ h => xcd_guard h) (fun n h => xevery_ok _ _ xo_T_wayOf_0 n (by omega) (by omega))
set_option maxRecDepth 100000 in
theorem xo_T_speedOf_0 : xevery (xchF m_T_speedOf false) 0 14 = true := by decide +kernel
theorem xo_T_speedOf : xMOK xprog m_T_speedOf := xMOK_of (ini := false) (N := 14) _ xmf_T_speedOf (fun h => nomatch h) (xhh_nil rfl) (fun _ _ h => xcd_guard h) (fun n h => xevery_ok _ _ xo_T_speedOf_0 n (by omega) (by omega))
set_option maxRecDepth 100000 in
theorem xo_T_pointsOf_0 : xevery (xchF m_T_pointsOf false) 0 15 = true := by decide +kernel
theorem xo_T_pointsOf : xMOK xprog m_T_pointsOf := xMOK_of (ini := false) (N := 15) _ xmf_T_pointsOf (fun h => nomatch h) (xhh_nil rfl) (fun _ _ h => xcd_guard h) (fun n h => xevery_ok _ _ xo_T_pointsOf_0 n (by omega) (by omega))
set_option maxRecDepth 100000 in
theorem xo_T_sipsOf_0 : xevery (xchF m_T_sipsOf false) 0 15 = true := by decide +kernel
theorem xo_T_sipsOf : xMOK xprog m_T_sipsOf := xMOK_of (ini := false) (N := 15) _ xmf_T_sipsOf (fun h => nomatch h) (xhh_nil rfl) (fun _ _ h => xcd_guard h) (fun n h => xevery_ok _ _ xo_T_sipsOf_0 n (by omega) (by omega))
set_option maxRecDepth 100000 in
theorem xo_T_smells_0 : xevery (xchF m_T_smells false) 0 19 = true := by decide +kernel
theorem xo_T_smells : xMOK xprog m_T_smells := xMOK_of (ini := false) (N := 19) _ xmf_T_smells (fun h => nomatch h) (xhh_nil rfl) (fun _ _ h => xcd_guard h) (fun n h => xevery_ok _ _ xo_T_smells_0 n (by omega) (by omega))
set_option maxRecDepth 100000 in
theorem xo_T_ruleTells_0 : xevery (xchF m_T_ruleTells false) 0 14 = true := by decide +kernel
theorem xo_T_ruleTells : xMOK xprog m_T_ruleTells := xMOK_of (ini := false) (N := 14) _ xmf_T_ruleTells (fun h => nomatch h) (xhh_nil rfl) (fun _ _ h => xcd_guard h) (fun n h => xevery_ok _ _ xo_T_ruleTells_0 n (by omega) (by omega))
set_option maxRecDepth 100000 in
theorem xo_T_wouldStay_0 : xevery (xchF m_T_wouldStay false) 0 22 = true := by decide +kernel
theorem xo_T_wouldStay : xMOK xprog m_T_wouldStay := xMOK_of (ini := false) (N := 22) _ xmf_T_wouldStay (fun h => nomatch h) (xhh_nil rfl) (fun _ _ h => xcd_guard h) (fun n h => xevery_ok _ _ xo_T_wouldStay_0 n (by omega) (by omega))
set_option maxRecDepth 100000 in
theorem xo_T_steersTo_0 : xevery (xchF m_T_steersTo false) 0 32 = true := by decide +kernel
theorem xo_T_steersTo : xMOK xprog m_T_steersTo := xMOK_of (ini := false) (N := 32) _ xmf_T_steersTo (fun h => nomatch h) (xhh_nil rfl) (fun _ _ h => xcd_guard h) (fun n h => xevery_ok _ _ xo_T_steersTo_0 n (by omega) (by omega))
set_option maxRecDepth 100000 in
theorem xo_T_leader_0 : xevery (xchF m_T_leader false) 0 58 = true := by decide +kernel
theorem xo_T_leader : xMOK xprog m_T_leader := xMOK_of (ini := false) (N := 58) _ xmf_T_leader (fun h => nomatch h) (xhh_nil rfl) (fun _ _ h => xcd_guard h) (fun n h => xevery_ok _ _ xo_T_leader_0 n (by omega) (by omega))
set_option maxRecDepth 100000 in
theorem xo_T_setWind_0 : xevery (xchF m_T_setWind false) 0 49 = true := by decide +kernel
theorem xo_T_setWind : xMOK xprog m_T_setWind := xMOK_of (ini := false) (N := 49) _ xmf_T_setWind (fun h => nomatch h) (xhh_nil rfl) (fun _ _ h => xcd_guard h) (fun n h => xevery_ok _ _ xo_T_setWind_0 n (by omega) (by omega))
set_option maxRecDepth 100000 in
theorem xo_T_jettison_0 : xevery (xchF m_T_jettison false) 0 66 = true := by decide +kernel
theorem xo_T_jettison : xMOK xprog m_T_jettison := xMOK_of (ini := false) (N := 66) _ xmf_T_jettison (fun h => nomatch h) (xhh_nil rfl) (fun _ _ h => xcd_guard h) (fun n h => xevery_ok _ _ xo_T_jettison_0 n (by omega) (by omega))
set_option maxRecDepth 100000 in
theorem xo_T_calmKettle_0 : xevery (xchF m_T_calmKettle false) 0 47 = true := by decide +kernel
theorem xo_T_calmKettle : xMOK xprog m_T_calmKettle := xMOK_of (ini := false) (N := 47) _ xmf_T_calmKettle (fun h => nomatch h) (xhh_nil rfl) (fun _ _ h => xcd_guard h) (fun n h => xevery_ok _ _ xo_T_calmKettle_0 n (by omega) (by omega))
set_option maxRecDepth 100000 in
theorem xo_T_sail_0 : xevery (xchF m_T_sail false) 0 13 = true := by decide +kernel
theorem xo_T_sail : xMOK xprog m_T_sail := xMOK_of (ini := false) (N := 13) _ xmf_T_sail (fun h => nomatch h) (xhh_nil rfl) (fun _ _ h => xcd_guard h) (fun n h => xevery_ok _ _ xo_T_sail_0 n (by omega) (by omega))
set_option maxRecDepth 100000 in
theorem xo_T_meanPoints_0 : xevery (xchF m_T_meanPoints false) 0 48 = true := by decide +kernel
theorem xo_T_meanPoints : xMOK xprog m_T_meanPoints := xMOK_of (ini := false) (N := 48) _ xmf_T_meanPoints (fun h => nomatch h) (xhh_nil rfl) (fun _ _ h => xcd_guard h) (fun n h => xevery_ok _ _ xo_T_meanPoints_0 n (by omega) (by omega))
set_option maxRecDepth 100000 in
theorem xo_T_needCell_0 : xevery (xchF m_T_needCell false) 0 23 = true := by decide +kernel
theorem xo_T_needCell : xMOK xprog m_T_needCell := xMOK_of (ini := false) (N := 23) _ xmf_T_needCell (fun h => nomatch h) (xhh_nil rfl) (fun _ _ h => xcd_guard h) (fun n h => xevery_ok _ _ xo_T_needCell_0 n (by omega) (by omega))
set_option maxRecDepth 100000 in
theorem xo_T_needKettle_0 : xevery (xchF m_T_needKettle false) 0 26 = true := by decide +kernel
theorem xo_T_needKettle : xMOK xprog m_T_needKettle := xMOK_of (ini := false) (N := 26) _ xmf_T_needKettle (fun h => nomatch h) (xhh_nil rfl) (fun _ _ h => xcd_guard h) (fun n h => xevery_ok _ _ xo_T_needKettle_0 n (by omega) (by omega))
set_option maxRecDepth 100000 in
theorem xo_T_needClipper_0 : xevery (xchF m_T_needClipper false) 0 26 = true := by decide +kernel
theorem xo_T_needClipper : xMOK xprog m_T_needClipper := xMOK_of (ini := false) (N := 26) _ xmf_T_needClipper (fun h => nomatch h) (xhh_nil rfl) (fun _ _ h => xcd_guard h) (fun n h => xevery_ok _ _ xo_T_needClipper_0 n (by omega) (by omega))
set_option maxRecDepth 100000 in
theorem xo_T_needDirection_0 : xevery (xchF m_T_needDirection false) 0 20 = true := by decide +kernel
theorem xo_T_needDirection : xMOK xprog m_T_needDirection := xMOK_of (ini := false) (N := 20) _ xmf_T_needDirection (fun h => nomatch h) (xhh_nil rfl) (fun _ _ h => xcd_guard h) (fun n h => xevery_ok _ _ xo_T_needDirection_0 n (by omega) (by omega))
set_option maxRecDepth 100000 in
theorem xo_T_needHours_0 : xevery (xchF m_T_needHours false) 0 22 = true := by decide +kernel
theorem xo_T_needHours : xMOK xprog m_T_needHours := xMOK_of (ini := false) (N := 22) _ xmf_T_needHours (fun h => nomatch h) (xhh_nil rfl) (fun _ _ h => xcd_guard h) (fun n h => xevery_ok _ _ xo_T_needHours_0 n (by omega) (by omega))
set_option maxRecDepth 100000 in
theorem xo_R_init_0 : xevery (xchF m_R_init true) 0 150 = true := by decide +kernel
set_option maxRecDepth 100000 in
theorem xo_R_init_1 : xevery (xchF m_R_init true) 150 65 = true := by decide +kernel
theorem xo_R_init : xMOK xprog m_R_init := xMOK_of (ini := true) (N := 215) _ xmf_R_init (fun _ => rfl) (xhh_nil rfl) (fun _ _ h => xcd_guard h) (fun n h => (Nat.lt_or_ge n 150).elim (fun q2 => xevery_ok _ _ xo_R_init_0 n (by omega) (by omega)) (fun q2 => xevery_ok _ _ xo_R_init_1 n (by omega) (by omega)))
set_option maxRecDepth 100000 in
theorem xo_R_write_0 : xevery (xchF m_R_write false) 0 150 = true := by decide +kernel
set_option maxRecDepth 100000 in
theorem xo_R_write_1 : xevery (xchF m_R_write false) 150 150 = true := by decide +kernel
set_option maxRecDepth 100000 in
theorem xo_R_write_2 : xevery (xchF m_R_write false) 300 19 = true := by decide +kernel
theorem xo_R_write : xMOK xprog m_R_write := xMOK_of (ini := false) (N := 319) _ xmf_R_write (fun h => nomatch h) (xhh_nil rfl) (fun _ _ h => xcd_guard h) (fun n h => (Nat.lt_or_ge n 150).elim (fun q3 => xevery_ok _ _ xo_R_write_0 n (by omega) (by omega)) (fun q3 => (Nat.lt_or_ge n 300).elim (fun q103 => xevery_ok _ _ xo_R_write_1 n (by omega) (by omega)) (fun q103 => xevery_ok _ _ xo_R_write_2 n (by omega) (by omega))))
set_option maxRecDepth 100000 in
theorem xo_R_of_0 : xevery (xchF m_R_of false) 0 150 = true := by decide +kernel
set_option maxRecDepth 100000 in
theorem xo_R_of_1 : xevery (xchF m_R_of false) 150 136 = true := by decide +kernel
theorem xo_R_of : xMOK xprog m_R_of := xMOK_of (ini := false) (N := 286) _ xmf_R_of (fun h => nomatch h) (xhh_nil rfl) (fun _ _ h => xcd_guard h) (fun n h => (Nat.lt_or_ge n 150).elim (fun q2 => xevery_ok _ _ xo_R_of_0 n (by omega) (by omega)) (fun q2 => xevery_ok _ _ xo_R_of_1 n (by omega) (by omega)))
set_option maxRecDepth 100000 in
theorem xo_S_with_0 : xevery (xchF m_S_with false) 0 35 = true := by decide +kernel
theorem xo_S_with : xMOK xprog m_S_with := xMOK_of (ini := false) (N := 35) _ xmf_S_with (fun h => nomatch h) (xhh_nil rfl) (fun _ _ h => xcd_guard h) (fun n h => xevery_ok _ _ xo_S_with_0 n (by omega) (by omega))
set_option maxRecDepth 100000 in
theorem xo_S_at_0 : xevery (xchF m_S_at false) 0 36 = true := by decide +kernel
theorem xo_S_at : xMOK xprog m_S_at := xMOK_of (ini := false) (N := 36) _ xmf_S_at (fun h => nomatch h) (xhh_nil rfl) (fun _ _ h => xcd_guard h) (fun n h => xevery_ok _ _ xo_S_at_0 n (by omega) (by omega))
set_option maxRecDepth 100000 in
theorem xo_S_init_0 : xevery (xchF m_S_init true) 0 150 = true := by decide +kernel
set_option maxRecDepth 100000 in
theorem xo_S_init_1 : xevery (xchF m_S_init true) 150 150 = true := by decide +kernel
set_option maxRecDepth 100000 in
theorem xo_S_init_2 : xevery (xchF m_S_init true) 300 129 = true := by decide +kernel
theorem xo_S_init : xMOK xprog m_S_init := xMOK_of (ini := true) (N := 429) _ xmf_S_init (fun _ => rfl) (xhh_nil rfl) (fun _ _ h => xcd_guard h) (fun n h => (Nat.lt_or_ge n 150).elim (fun q3 => xevery_ok _ _ xo_S_init_0 n (by omega) (by omega)) (fun q3 => (Nat.lt_or_ge n 300).elim (fun q103 => xevery_ok _ _ xo_S_init_1 n (by omega) (by omega)) (fun q103 => xevery_ok _ _ xo_S_init_2 n (by omega) (by omega))))
set_option maxRecDepth 100000 in
theorem xo_S_text_0 : xevery (xchF m_S_text false) 0 150 = true := by decide +kernel
set_option maxRecDepth 100000 in
theorem xo_S_text_1 : xevery (xchF m_S_text false) 150 121 = true := by decide +kernel
theorem xo_S_text : xMOK xprog m_S_text := xMOK_of (ini := false) (N := 271) _ xmf_S_text (fun h => nomatch h) (xhh_nil rfl) (fun _ _ h => xcd_guard h) (fun n h => (Nat.lt_or_ge n 150).elim (fun q2 => xevery_ok _ _ xo_S_text_0 n (by omega) (by omega)) (fun q2 => xevery_ok _ _ xo_S_text_1 n (by omega) (by omega)))
set_option maxRecDepth 100000 in
theorem xo_S_aroma_0 : xevery (xchF m_S_aroma false) 0 150 = true := by decide +kernel
set_option maxRecDepth 100000 in
theorem xo_S_aroma_1 : xevery (xchF m_S_aroma false) 150 11 = true := by decide +kernel
theorem xo_S_aroma : xMOK xprog m_S_aroma := xMOK_of (ini := false) (N := 161) _ xmf_S_aroma (fun h => nomatch h) (xhh_nil rfl) (fun _ _ h => xcd_guard h) (fun n h => (Nat.lt_or_ge n 150).elim (fun q2 => xevery_ok _ _ xo_S_aroma_0 n (by omega) (by omega)) (fun q2 => xevery_ok _ _ xo_S_aroma_1 n (by omega) (by omega)))
set_option maxRecDepth 100000 in
theorem xo_S_smell_0 : xevery (xchF m_S_smell false) 0 117 = true := by decide +kernel
theorem xo_S_smell : xMOK xprog m_S_smell := xMOK_of (ini := false) (N := 117) _ xmf_S_smell (fun h => nomatch h) (xhh_nil rfl) (fun _ _ h => xcd_guard h) (fun n h => xevery_ok _ _ xo_S_smell_0 n (by omega) (by omega))
set_option maxRecDepth 100000 in
theorem xo_S_tells_0 : xevery (xchF m_S_tells false) 0 140 = true := by decide +kernel
theorem xo_S_tells : xMOK xprog m_S_tells := xMOK_of (ini := false) (N := 140) _ xmf_S_tells (fun h => nomatch h) (xhh_nil rfl) (fun _ _ h => xcd_guard h) (fun n h => xevery_ok _ _ xo_S_tells_0 n (by omega) (by omega))
set_option maxRecDepth 100000 in
theorem xo_S_speed_0 : xevery (xchF m_S_speed false) 0 27 = true := by decide +kernel
theorem xo_S_speed : xMOK xprog m_S_speed := xMOK_of (ini := false) (N := 27) _ xmf_S_speed (fun h => nomatch h) (xhh_nil rfl) (fun _ _ h => xcd_guard h) (fun n h => xevery_ok _ _ xo_S_speed_0 n (by omega) (by omega))
set_option maxRecDepth 100000 in
theorem xo_S_pass_0 : xevery (xchF m_S_pass false) 0 150 = true := by decide +kernel
set_option maxRecDepth 100000 in
theorem xo_S_pass_1 : xevery (xchF m_S_pass false) 150 150 = true := by decide +kernel
set_option maxRecDepth 100000 in
theorem xo_S_pass_2 : xevery (xchF m_S_pass false) 300 150 = true := by decide +kernel
set_option maxRecDepth 100000 in
theorem xo_S_pass_3 : xevery (xchF m_S_pass false) 450 24 = true := by decide +kernel
theorem xo_S_pass : xMOK xprog m_S_pass := xMOK_of (ini := false) (N := 474) _ xmf_S_pass (fun h => nomatch h) (xhh_nil rfl) (fun _ _ h => xcd_guard h) (fun n h => (Nat.lt_or_ge n 300).elim (fun q4 => (Nat.lt_or_ge n 150).elim (fun q2 => xevery_ok _ _ xo_S_pass_0 n (by omega) (by omega)) (fun q2 => xevery_ok _ _ xo_S_pass_1 n (by omega) (by omega))) (fun q4 => (Nat.lt_or_ge n 450).elim (fun q204 => xevery_ok _ _ xo_S_pass_2 n (by omega) (by omega)) (fun q204 => xevery_ok _ _ xo_S_pass_3 n (by omega) (by omega))))
set_option maxRecDepth 100000 in
theorem xo_S_behind_0 : xevery (xchF m_S_behind false) 0 24 = true := by decide +kernel
theorem xo_S_behind : xMOK xprog m_S_behind := xMOK_of (ini := false) (N := 24) _ xmf_S_behind (fun h => nomatch h) (xhh_nil rfl) (fun _ _ h => xcd_guard h) (fun n h => xevery_ok _ _ xo_S_behind_0 n (by omega) (by omega))
set_option maxRecDepth 100000 in
theorem xo_S_isSame_0 : xevery (xchF m_S_isSame false) 0 150 = true := by decide +kernel
set_option maxRecDepth 100000 in
theorem xo_S_isSame_1 : xevery (xchF m_S_isSame false) 150 150 = true := by decide +kernel
set_option maxRecDepth 100000 in
theorem xo_S_isSame_2 : xevery (xchF m_S_isSame false) 300 150 = true := by decide +kernel
set_option maxRecDepth 100000 in
theorem xo_S_isSame_3 : xevery (xchF m_S_isSame false) 450 90 = true := by decide +kernel
theorem xo_S_isSame : xMOK xprog m_S_isSame := xMOK_of (ini := false) (N := 540) _ xmf_S_isSame (fun h => nomatch h) (xhh_nil rfl) (fun _ _ h => xcd_guard h) (fun n h => (Nat.lt_or_ge n 300).elim (fun q4 => (Nat.lt_or_ge n 150).elim (fun q2 => xevery_ok _ _ xo_S_isSame_0 n (by omega) (by omega)) (fun q2 => xevery_ok _ _ xo_S_isSame_1 n (by omega) (by omega))) (fun q4 => (Nat.lt_or_ge n 450).elim (fun q204 => xevery_ok _ _ xo_S_isSame_2 n (by omega) (by omega)) (fun q204 => xevery_ok _ _ xo_S_isSame_3 n (by omega) (by omega))))
set_option maxRecDepth 100000 in
theorem xo_AB_init_0 : xevery (xchF m_AB_init true) 0 39 = true := by decide +kernel
theorem xo_AB_init : xMOK xprog m_AB_init := xMOK_of (ini := true) (N := 39) _ xmf_AB_init (fun _ => rfl) (xhh_nil rfl) (fun _ _ h => xcd_guard h) (fun n h => xevery_ok _ _ xo_AB_init_0 n (by omega) (by omega))
set_option maxRecDepth 100000 in
theorem xo_AB_initS_0 : xevery (xchF m_AB_initS true) 0 63 = true := by decide +kernel
theorem xo_AB_initS : xMOK xprog m_AB_initS := xMOK_of (ini := true) (N := 63) _ xmf_AB_initS (fun _ => rfl) (xhh_nil rfl) (fun _ _ h => xcd_guard h) (fun n h => xevery_ok _ _ xo_AB_initS_0 n (by omega) (by omega))
set_option maxRecDepth 100000 in
theorem xo_AB_length_0 : xevery (xchF m_AB_length false) 0 5 = true := by decide +kernel
theorem xo_AB_length : xMOK xprog m_AB_length := xMOK_of (ini := false) (N := 5) _ xmf_AB_length (fun h => nomatch h) (xhh_nil rfl) (fun _ _ h => xcd_guard h) (fun n h => xevery_ok _ _ xo_AB_length_0 n (by omega) (by omega))
set_option maxRecDepth 100000 in
theorem xo_AB_ensureCapacityInternal_0 : xevery (xchF m_AB_ensureCapacityInternal false) 0 39 = true := by decide +kernel
theorem xo_AB_ensureCapacityInternal : xMOK xprog m_AB_ensureCapacityInternal := xMOK_of (ini := false) (N := 39) _ xmf_AB_ensureCapacityInternal (fun h => nomatch h) (xhh_nil rfl) (fun _ _ h => xcd_guard h) (fun n h => xevery_ok _ _ xo_AB_ensureCapacityInternal_0 n (by omega) (by omega))
set_option maxRecDepth 100000 in
theorem xo_AB_newCapacity_0 : xevery (xchF m_AB_newCapacity false) 0 59 = true := by decide +kernel
theorem xo_AB_newCapacity : xMOK xprog m_AB_newCapacity := xMOK_of (ini := false) (N := 59) _ xmf_AB_newCapacity (fun h => nomatch h) (xhh_nil rfl) (fun _ _ h => xcd_guard h) (fun n h => xevery_ok _ _ xo_AB_newCapacity_0 n (by omega) (by omega))
set_option maxRecDepth 100000 in
theorem xo_AB_charAt_0 : xevery (xchF m_AB_charAt false) 0 48 = true := by decide +kernel
theorem xo_AB_charAt : xMOK xprog m_AB_charAt := xMOK_of (ini := false) (N := 48) _ xmf_AB_charAt (fun h => nomatch h) (xhh_nil rfl) (fun _ _ h => xcd_guard h) (fun n h => xevery_ok _ _ xo_AB_charAt_0 n (by omega) (by omega))
set_option maxRecDepth 100000 in
theorem xo_AB_appS_0 : xevery (xchF m_AB_appS false) 0 45 = true := by decide +kernel
theorem xo_AB_appS : xMOK xprog m_AB_appS := xMOK_of (ini := false) (N := 45) _ xmf_AB_appS (fun h => nomatch h) (xhh_nil rfl) (fun _ _ h => xcd_guard h) (fun n h => xevery_ok _ _ xo_AB_appS_0 n (by omega) (by omega))
set_option maxRecDepth 100000 in
theorem xo_AB_appC_0 : xevery (xchF m_AB_appC false) 0 77 = true := by decide +kernel
theorem xo_AB_appC : xMOK xprog m_AB_appC := xMOK_of (ini := false) (N := 77) _ xmf_AB_appC (fun h => nomatch h) (xhh_nil rfl) (fun _ _ h => xcd_guard h) (fun n h => xevery_ok _ _ xo_AB_appC_0 n (by omega) (by omega))
set_option maxRecDepth 100000 in
theorem xo_AB_appI_0 : xevery (xchF m_AB_appI false) 0 55 = true := by decide +kernel
theorem xo_AB_appI : xMOK xprog m_AB_appI := xMOK_of (ini := false) (N := 55) _ xmf_AB_appI (fun h => nomatch h) (xhh_nil rfl) (fun _ _ h => xcd_guard h) (fun n h => xevery_ok _ _ xo_AB_appI_0 n (by omega) (by omega))
set_option maxRecDepth 100000 in
theorem xo_AB_getValue_0 : xevery (xchF m_AB_getValue false) 0 5 = true := by decide +kernel
theorem xo_AB_getValue : xMOK xprog m_AB_getValue := xMOK_of (ini := false) (N := 5) _ xmf_AB_getValue (fun h => nomatch h) (xhh_nil rfl) (fun _ _ h => xcd_guard h) (fun n h => xevery_ok _ _ xo_AB_getValue_0 n (by omega) (by omega))
set_option maxRecDepth 100000 in
theorem xo_AB_isLatin1_0 : xevery (xchF m_AB_isLatin1 false) 0 19 = true := by decide +kernel
theorem xo_AB_isLatin1 : xMOK xprog m_AB_isLatin1 := xMOK_of (ini := false) (N := 19) _ xmf_AB_isLatin1 (fun h => nomatch h) (xhh_nil rfl) (fun _ _ h => xcd_guard h) (fun n h => xevery_ok _ _ xo_AB_isLatin1_0 n (by omega) (by omega))
set_option maxRecDepth 100000 in
theorem xo_AB_inflateIfNeededFor_0 : xevery (xchF m_AB_inflateIfNeededFor false) 0 22 = true := by decide +kernel
theorem xo_AB_inflateIfNeededFor : xMOK xprog m_AB_inflateIfNeededFor := xMOK_of (ini := false) (N := 22) _ xmf_AB_inflateIfNeededFor (fun h => nomatch h) (xhh_nil rfl) (fun _ _ h => xcd_guard h) (fun n h => xevery_ok _ _ xo_AB_inflateIfNeededFor_0 n (by omega) (by omega))
set_option maxRecDepth 100000 in
theorem xo_AB_putStringAt_0 : xevery (xchF m_AB_putStringAt false) 0 19 = true := by decide +kernel
theorem xo_AB_putStringAt : xMOK xprog m_AB_putStringAt := xMOK_of (ini := false) (N := 19) _ xmf_AB_putStringAt (fun h => nomatch h) (xhh_nil rfl) (fun _ _ h => xcd_guard h) (fun n h => xevery_ok _ _ xo_AB_putStringAt_0 n (by omega) (by omega))
