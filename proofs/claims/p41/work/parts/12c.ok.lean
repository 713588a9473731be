set_option maxRecDepth 100000 in
theorem xo_Bay_init_0 : xevery (xchF m_Bay_init true) 0 87 = true := by decide +kernel
theorem xo_Bay_init : xMOK xprog m_Bay_init := xMOK_of (ini := true) (N := 87) _ xmf_Bay_init (fun _ => rfl) (xhh_nil rfl) (fun _ _ h => xcd_guard h) (fun n h => xevery_ok _ _ xo_Bay_init_0 n (by omega) (by omega))
set_option maxRecDepth 100000 in
theorem xo_Bay_begin_0 : xevery (xchF m_Bay_begin false) 0 121 = true := by decide +kernel
theorem xo_Bay_begin : xMOK xprog m_Bay_begin := xMOK_of (ini := false) (N := 121) _ xmf_Bay_begin (fun h => nomatch h) (xhh_nil rfl) (fun _ _ h => xcd_guard h) (fun n h => xevery_ok _ _ xo_Bay_begin_0 n (by omega) (by omega))
set_option maxRecDepth 100000 in
theorem xo_Bay_aroma_0 : xevery (xchF m_Bay_aroma false) 0 126 = true := by decide +kernel
theorem xo_Bay_aroma : xMOK xprog m_Bay_aroma := xMOK_of (ini := false) (N := 126) _ xmf_Bay_aroma (fun h => nomatch h) (xhh_nil rfl) (fun _ _ h => xcd_guard h) (fun n h => xevery_ok _ _ xo_Bay_aroma_0 n (by omega) (by omega))
set_option maxRecDepth 100000 in
theorem xo_Bay_steamingKettleAt_0 : xevery (xchF m_Bay_steamingKettleAt false) 0 30 = true := by decide +kernel
theorem xo_Bay_steamingKettleAt : xMOK xprog m_Bay_steamingKettleAt := xMOK_of (ini := false) (N := 30) _ xmf_Bay_steamingKettleAt (fun h => nomatch h) (xhh_nil rfl) (fun _ _ h => xcd_guard h) (fun n h => xevery_ok _ _ xo_Bay_steamingKettleAt_0 n (by omega) (by omega))
set_option maxRecDepth 100000 in
theorem xo_Bay_isAtHome_0 : xevery (xchF m_Bay_isAtHome false) 0 42 = true := by decide +kernel
theorem xo_Bay_isAtHome : xMOK xprog m_Bay_isAtHome := xMOK_of (ini := false) (N := 42) _ xmf_Bay_isAtHome (fun h => nomatch h) (xhh_nil rfl) (fun _ _ h => xcd_guard h) (fun n h => xevery_ok _ _ xo_Bay_isAtHome_0 n (by omega) (by omega))
set_option maxRecDepth 100000 in
theorem xo_Bay_wayOfAnHour_0 : xevery (xchF m_Bay_wayOfAnHour false) 0 27 = true := by decide +kernel
theorem xo_Bay_wayOfAnHour : xMOK xprog m_Bay_wayOfAnHour := xMOK_of (ini := false) (N := 27) _ xmf_Bay_wayOfAnHour (fun h => nomatch h) (xhh_nil rfl) (fun _ _ h => xcd_guard h) (fun n h => xevery_ok _ _ xo_Bay_wayOfAnHour_0 n (by omega) (by omega))
set_option maxRecDepth 100000 in
theorem xo_Bay_isAhead_0 : xevery (xchF m_Bay_isAhead false) 0 57 = true := by decide +kernel
theorem xo_Bay_isAhead : xMOK xprog m_Bay_isAhead := xMOK_of (ini := false) (N := 57) _ xmf_Bay_isAhead (fun h => nomatch h) (xhh_nil rfl) (fun _ _ h => xcd_guard h) (fun n h => xevery_ok _ _ xo_Bay_isAhead_0 n (by omega) (by omega))
set_option maxRecDepth 100000 in
theorem xo_Bay_smell_0 : xevery (xchF m_Bay_smell false) 0 62 = true := by decide +kernel
theorem xo_Bay_smell : xMOK xprog m_Bay_smell := xMOK_of (ini := false) (N := 62) _ xmf_Bay_smell (fun h => nomatch h) (xhh_nil rfl) (fun _ _ h => xcd_guard h) (fun n h => xevery_ok _ _ xo_Bay_smell_0 n (by omega) (by omega))
set_option maxRecDepth 100000 in
theorem xo_Bay_tell_0 : xevery (xchF m_Bay_tell false) 0 150 = true := by decide +kernel
set_option maxRecDepth 100000 in
theorem xo_Bay_tell_1 : xevery (xchF m_Bay_tell false) 150 26 = true := by decide +kernel
theorem xo_Bay_tell : xMOK xprog m_Bay_tell := xMOK_of (ini := false) (N := 176) _ xmf_Bay_tell (fun h => nomatch h) (xhh_nil rfl) (fun _ _ h => xcd_guard h) (fun n h => (Nat.lt_or_ge n 150).elim (fun q2 => xevery_ok _ _ xo_Bay_tell_0 n (by omega) (by omega)) (fun q2 => xevery_ok _ _ xo_Bay_tell_1 n (by omega) (by omega)))
set_option maxRecDepth 100000 in
theorem xo_Bay_passHours_0 : xevery (xchF m_Bay_passHours false) 0 24 = true := by decide +kernel
theorem xo_Bay_passHours : xMOK xprog m_Bay_passHours := xMOK_of (ini := false) (N := 24) _ xmf_Bay_passHours (fun h => nomatch h) (xhh_nil rfl) (fun _ _ h => xcd_guard h) (fun n h => xevery_ok _ _ xo_Bay_passHours_0 n (by omega) (by omega))
set_option maxRecDepth 100000 in
theorem xo_Bay_passHour_0 : xevery (xchF m_Bay_passHour false) 0 110 = true := by decide +kernel
theorem xo_Bay_passHour : xMOK xprog m_Bay_passHour := xMOK_of (ini := false) (N := 110) _ xmf_Bay_passHour (fun h => nomatch h) (xhh_nil rfl) (fun _ _ h => xcd_guard h) (fun n h => xevery_ok _ _ xo_Bay_passHour_0 n (by omega) (by omega))
set_option maxRecDepth 100000 in
theorem xo_Bay_sailClipper_0 : xevery (xchF m_Bay_sailClipper false) 0 69 = true := by decide +kernel
theorem xo_Bay_sailClipper : xMOK xprog m_Bay_sailClipper := xMOK_of (ini := false) (N := 69) _ xmf_Bay_sailClipper (fun h => nomatch h) (xhh_nil rfl) (fun _ _ h => xcd_guard h) (fun n h => xevery_ok _ _ xo_Bay_sailClipper_0 n (by omega) (by omega))
set_option maxRecDepth 100000 in
theorem xo_Bay_moves_0 : xevery (xchF m_Bay_moves false) 0 67 = true := by decide +kernel
theorem xo_Bay_moves : xMOK xprog m_Bay_moves := xMOK_of (ini := false) (N := 67) _ xmf_Bay_moves (fun h => nomatch h) (xhh_nil rfl) (fun _ _ h => xcd_guard h) (fun n h => xevery_ok _ _ xo_Bay_moves_0 n (by omega) (by omega))
set_option maxRecDepth 100000 in
theorem xo_Bay_paySip_0 : xevery (xchF m_Bay_paySip false) 0 60 = true := by decide +kernel
theorem xo_Bay_paySip : xMOK xprog m_Bay_paySip := xMOK_of (ini := false) (N := 60) _ xmf_Bay_paySip (fun h => nomatch h) (xhh_nil rfl) (fun _ _ h => xcd_guard h) (fun n h => xevery_ok _ _ xo_Bay_paySip_0 n (by omega) (by omega))
set_option maxRecDepth 100000 in
theorem xo_Bay_winAtHome_0 : xevery (xchF m_Bay_winAtHome false) 0 36 = true := by decide +kernel
theorem xo_Bay_winAtHome : xMOK xprog m_Bay_winAtHome := xMOK_of (ini := false) (N := 36) _ xmf_Bay_winAtHome (fun h => nomatch h) (xhh_nil rfl) (fun _ _ h => xcd_guard h) (fun n h => xevery_ok _ _ xo_Bay_winAtHome_0 n (by omega) (by omega))
set_option maxRecDepth 100000 in
theorem xo_Bay_takeLeaf_0 : xevery (xchF m_Bay_takeLeaf false) 0 71 = true := by decide +kernel
theorem xo_Bay_takeLeaf : xMOK xprog m_Bay_takeLeaf := xMOK_of (ini := false) (N := 71) _ xmf_Bay_takeLeaf (fun h => nomatch h) (xhh_nil rfl) (fun _ _ h => xcd_guard h) (fun n h => xevery_ok _ _ xo_Bay_takeLeaf_0 n (by omega) (by omega))
set_option maxRecDepth 100000 in
theorem xo_Bay_eastwards_0 : xevery (xchF m_Bay_eastwards false) 0 20 = true := by decide +kernel
theorem xo_Bay_eastwards : xMOK xprog m_Bay_eastwards := xMOK_of (ini := false) (N := 20) _ xmf_Bay_eastwards (fun h => nomatch h) (xhh_nil rfl) (fun _ _ h => xcd_guard h) (fun n h => xevery_ok _ _ xo_Bay_eastwards_0 n (by omega) (by omega))
set_option maxRecDepth 100000 in
theorem xo_Bay_southwards_0 : xevery (xchF m_Bay_southwards false) 0 19 = true := by decide +kernel
theorem xo_Bay_southwards : xMOK xprog m_Bay_southwards := xMOK_of (ini := false) (N := 19) _ xmf_Bay_southwards (fun h => nomatch h) (xhh_nil rfl) (fun _ _ h => xcd_guard h) (fun n h => xevery_ok _ _ xo_Bay_southwards_0 n (by omega) (by omega))
set_option maxRecDepth 100000 in
theorem xo_Bk_init_0 : xevery (xchF m_Bk_init true) 0 116 = true := by decide +kernel
theorem xo_Bk_init : xMOK xprog m_Bk_init := xMOK_of (ini := true) (N := 116) _ xmf_Bk_init (fun _ => rfl) (xhh_nil rfl) (fun _ _ h => xcd_guard h) (fun n h => xevery_ok _ _ xo_Bk_init_0 n (by omega) (by omega))
set_option maxRecDepth 100000 in
theorem xo_Bk_empty_0 : xevery (xchF m_Bk_empty false) 0 36 = true := by decide +kernel
theorem xo_Bk_empty : xMOK xprog m_Bk_empty := xMOK_of (ini := false) (N := 36) _ xmf_Bk_empty (fun h => nomatch h) (xhh_nil rfl) (fun _ _ h => xcd_guard h) (fun n h => xevery_ok _ _ xo_Bk_empty_0 n (by omega) (by omega))
set_option maxRecDepth 100000 in
theorem xo_Bk_addKettle_0 : xevery (xchF m_Bk_addKettle false) 0 50 = true := by decide +kernel
theorem xo_Bk_addKettle : xMOK xprog m_Bk_addKettle := xMOK_of (ini := false) (N := 50) _ xmf_Bk_addKettle (fun h => nomatch h) (xhh_nil rfl) (fun _ _ h => xcd_guard h) (fun n h => xevery_ok _ _ xo_Bk_addKettle_0 n (by omega) (by omega))
set_option maxRecDepth 100000 in
theorem xo_Bk_addCustoms_0 : xevery (xchF m_Bk_addCustoms false) 0 40 = true := by decide +kernel
theorem xo_Bk_addCustoms : xMOK xprog m_Bk_addCustoms := xMOK_of (ini := false) (N := 40) _ xmf_Bk_addCustoms (fun h => nomatch h) (xhh_nil rfl) (fun _ _ h => xcd_guard h) (fun n h => xevery_ok _ _ xo_Bk_addCustoms_0 n (by omega) (by omega))
set_option maxRecDepth 100000 in
theorem xo_Bk_addClipper_0 : xevery (xchF m_Bk_addClipper false) 0 89 = true := by decide +kernel
theorem xo_Bk_addClipper : xMOK xprog m_Bk_addClipper := xMOK_of (ini := false) (N := 89) _ xmf_Bk_addClipper (fun h => nomatch h) (xhh_nil rfl) (fun _ _ h => xcd_guard h) (fun n h => xevery_ok _ _ xo_Bk_addClipper_0 n (by omega) (by omega))
set_option maxRecDepth 100000 in
theorem xo_Bk_hasCell_0 : xevery (xchF m_Bk_hasCell false) 0 30 = true := by decide +kernel
theorem xo_Bk_hasCell : xMOK xprog m_Bk_hasCell := xMOK_of (ini := false) (N := 30) _ xmf_Bk_hasCell (fun h => nomatch h) (xhh_nil rfl) (fun _ _ h => xcd_guard h) (fun n h => xevery_ok _ _ xo_Bk_hasCell_0 n (by omega) (by omega))
set_option maxRecDepth 100000 in
theorem xo_Bk_kettleAt_0 : xevery (xchF m_Bk_kettleAt false) 0 40 = true := by decide +kernel
theorem xo_Bk_kettleAt : xMOK xprog m_Bk_kettleAt := xMOK_of (ini := false) (N := 40) _ xmf_Bk_kettleAt (fun h => nomatch h) (xhh_nil rfl) (fun _ _ h => xcd_guard h) (fun n h => xevery_ok _ _ xo_Bk_kettleAt_0 n (by omega) (by omega))
set_option maxRecDepth 100000 in
theorem xo_Bk_hasCustomsAt_0 : xevery (xchF m_Bk_hasCustomsAt false) 0 40 = true := by decide +kernel
theorem xo_Bk_hasCustomsAt : xMOK xprog m_Bk_hasCustomsAt := xMOK_of (ini := false) (N := 40) _ xmf_Bk_hasCustomsAt (fun h => nomatch h) (xhh_nil rfl) (fun _ _ h => xcd_guard h) (fun n h => xevery_ok _ _ xo_Bk_hasCustomsAt_0 n (by omega) (by omega))
set_option maxRecDepth 100000 in
theorem xo_Bk_hasName_0 : xevery (xchF m_Bk_hasName false) 0 31 = true := by decide +kernel
theorem xo_Bk_hasName : xMOK xprog m_Bk_hasName := xMOK_of (ini := false) (N := 31) _ xmf_Bk_hasName (fun h => nomatch h) (xhh_nil rfl) (fun _ _ h => xcd_guard h) (fun n h => xevery_ok _ _ xo_Bk_hasName_0 n (by omega) (by omega))
set_option maxRecDepth 100000 in
theorem xo_BR_init_0 : xevery (xchF m_BR_init true) 0 32 = true := by decide +kernel
theorem xo_BR_init : xMOK xprog m_BR_init := xMOK_of (ini := true) (N := 32) _ xmf_BR_init (fun _ => rfl) (xhh_nil rfl) (fun _ _ h => xcd_guard h) (fun n h => xevery_ok _ _ xo_BR_init_0 n (by omega) (by omega))
set_option maxRecDepth 100000 in
theorem xo_BR_read_0 : xevery (xchF m_BR_read false) 0 150 = true := by decide +kernel
set_option maxRecDepth 100000 in
theorem xo_BR_read_1 : xevery (xchF m_BR_read false) 150 5 = true := by decide +kernel
theorem xo_BR_read : xMOK xprog m_BR_read := xMOK_of (ini := false) (N := 155) _ xmf_BR_read (fun h => nomatch h) (xhh_nil rfl) (fun _ _ h => xcd_guard h) (fun n h => (Nat.lt_or_ge n 150).elim (fun q2 => xevery_ok _ _ xo_BR_read_0 n (by omega) (by omega)) (fun q2 => xevery_ok _ _ xo_BR_read_1 n (by omega) (by omega)))
set_option maxRecDepth 100000 in
theorem xo_BR_note_0 : xevery (xchF m_BR_note false) 0 24 = true := by decide +kernel
theorem xo_BR_note : xMOK xprog m_BR_note := xMOK_of (ini := false) (N := 24) _ xmf_BR_note (fun h => nomatch h) (xhh_nil rfl) (fun _ _ h => xcd_guard h) (fun n h => xevery_ok _ _ xo_BR_note_0 n (by omega) (by omega))
set_option maxRecDepth 100000 in
theorem xo_BR_readBay_0 : xevery (xchF m_BR_readBay false) 0 80 = true := by decide +kernel
theorem xo_BR_readBay : xMOK xprog m_BR_readBay := xMOK_of (ini := false) (N := 80) _ xmf_BR_readBay (fun h => nomatch h) (xhh_nil rfl) (fun _ _ h => xcd_guard h) (fun n h => xevery_ok _ _ xo_BR_readBay_0 n (by omega) (by omega))
set_option maxRecDepth 100000 in
theorem xo_BR_readKettle_0 : xevery (xchF m_BR_readKettle false) 0 81 = true := by decide +kernel
theorem xo_BR_readKettle : xMOK xprog m_BR_readKettle := xMOK_of (ini := false) (N := 81) _ xmf_BR_readKettle (fun h => nomatch h) (xhh_nil rfl) (fun _ _ h => xcd_guard h) (fun n h => xevery_ok _ _ xo_BR_readKettle_0 n (by omega) (by omega))
set_option maxRecDepth 100000 in
theorem xo_BR_readCustoms_0 : xevery (xchF m_BR_readCustoms false) 0 53 = true := by decide +kernel
theorem xo_BR_readCustoms : xMOK xprog m_BR_readCustoms := xMOK_of (ini := false) (N := 53) _ xmf_BR_readCustoms (fun h => nomatch h) (xhh_nil rfl) (fun _ _ h => xcd_guard h) (fun n h => xevery_ok _ _ xo_BR_readCustoms_0 n (by omega) (by omega))
set_option maxRecDepth 100000 in
theorem xo_BR_readClipper_0 : xevery (xchF m_BR_readClipper false) 0 150 = true := by decide +kernel
set_option maxRecDepth 100000 in
theorem xo_BR_readClipper_1 : xevery (xchF m_BR_readClipper false) 150 27 = true := by decide +kernel
theorem xo_BR_readClipper : xMOK xprog m_BR_readClipper := xMOK_of (ini := false) (N := 177) _ xmf_BR_readClipper (fun h => nomatch h) (xhh_nil rfl) (fun _ _ h => xcd_guard h) (fun n h => (Nat.lt_or_ge n 150).elim (fun q2 => xevery_ok _ _ xo_BR_readClipper_0 n (by omega) (by omega)) (fun q2 => xevery_ok _ _ xo_BR_readClipper_1 n (by omega) (by omega)))
set_option maxRecDepth 100000 in
theorem xo_BR_readCell_0 : xevery (xchF m_BR_readCell false) 0 120 = true := by decide +kernel
theorem xo_BR_readCell : xMOK xprog m_BR_readCell := xMOK_of (ini := false) (N := 120) _ xmf_BR_readCell (fun h => nomatch h) (xhh_nil rfl) (fun _ _ h => xcd_guard h) (fun n h => xevery_ok _ _ xo_BR_readCell_0 n (by omega) (by omega))
set_option maxRecDepth 100000 in
theorem xo_BR_takeNumber_0 : xevery (xchF m_BR_takeNumber false) 0 46 = true := by decide +kernel
theorem xo_BR_takeNumber : xMOK xprog m_BR_takeNumber := xMOK_of (ini := false) (N := 46) _ xmf_BR_takeNumber (fun h => nomatch h) (xhh_nil rfl) (fun _ _ h => xcd_guard h) (fun n h => xevery_ok _ _ xo_BR_takeNumber_0 n (by omega) (by omega))
set_option maxRecDepth 100000 in
theorem xo_RR_init_0 : xevery (xchF m_RR_init true) 0 10 = true := by decide +kernel
theorem xo_RR_init : xMOK xprog m_RR_init := xMOK_of (ini := true) (N := 10) _ xmf_RR_init (fun _ => rfl) (xhh_nil rfl) (fun _ _ h => xcd_guard h) (fun n h => xevery_ok _ _ xo_RR_init_0 n (by omega) (by omega))
set_option maxRecDepth 100000 in
theorem xo_RR_readRule_0 : xevery (xchF m_RR_readRule false) 0 107 = true := by decide +kernel
theorem xo_RR_readRule : xMOK xprog m_RR_readRule := xMOK_of (ini := false) (N := 107) _ xmf_RR_readRule (fun h => nomatch h) (xhh_nil rfl) (fun _ _ h => xcd_guard h) (fun n h => xevery_ok _ _ xo_RR_readRule_0 n (by omega) (by omega))
set_option maxRecDepth 100000 in
theorem xo_RR_readJoined_0 : xevery (xchF m_RR_readJoined false) 0 106 = true := by decide +kernel
theorem xo_RR_readJoined : xMOK xprog m_RR_readJoined := xMOK_of (ini := false) (N := 106) _ xmf_RR_readJoined (fun h => nomatch h) (xhh_nil rfl) (fun _ _ h => xcd_guard h) (fun n h => xevery_ok _ _ xo_RR_readJoined_0 n (by omega) (by omega))
set_option maxRecDepth 100000 in
theorem xo_RR_readValue_0 : xevery (xchF m_RR_readValue false) 0 150 = true := by decide +kernel
set_option maxRecDepth 100000 in
theorem xo_RR_readValue_1 : xevery (xchF m_RR_readValue false) 150 103 = true := by decide +kernel
theorem xo_RR_readValue : xMOK xprog m_RR_readValue := xMOK_of (ini := false) (N := 253) _ xmf_RR_readValue (fun h => nomatch h) (xhh_nil rfl) (fun _ _ h => xcd_guard h) (fun n h => (Nat.lt_or_ge n 150).elim (fun q2 => xevery_ok _ _ xo_RR_readValue_0 n (by omega) (by omega)) (fun q2 => xevery_ok _ _ xo_RR_readValue_1 n (by omega) (by omega)))
set_option maxRecDepth 100000 in
theorem xo_RR_levelOf_0 : xevery (xchF m_RR_levelOf false) 0 104 = true := by decide +kernel
theorem xo_RR_levelOf : xMOK xprog m_RR_levelOf := xMOK_of (ini := false) (N := 104) _ xmf_RR_levelOf (fun h => nomatch h) (xhh_nil rfl) (fun _ _ h => xcd_guard h) (fun n h => xevery_ok _ _ xo_RR_levelOf_0 n (by omega) (by omega))
set_option maxRecDepth 100000 in
theorem xo_RT_init_0 : xevery (xchF m_RT_init true) 0 27 = true := by decide +kernel
theorem xo_RT_init : xMOK xprog m_RT_init := xMOK_of (ini := true) (N := 27) _ xmf_RT_init (fun _ => rfl) (xhh_nil rfl) (fun _ _ h => xcd_guard h) (fun n h => xevery_ok _ _ xo_RT_init_0 n (by omega) (by omega))
set_option maxRecDepth 100000 in
theorem xo_RT_measure_0 : xevery (xchF m_RT_measure false) 0 23 = true := by decide +kernel
theorem xo_RT_measure : xMOK xprog m_RT_measure := xMOK_of (ini := false) (N := 23) _ xmf_RT_measure (fun h => nomatch h) (xhh_nil rfl) (fun _ _ h => xcd_guard h) (fun n h => xevery_ok _ _ xo_RT_measure_0 n (by omega) (by omega))
set_option maxRecDepth 100000 in
theorem xo_RT_number_0 : xevery (xchF m_RT_number false) 0 150 = true := by decide +kernel
set_option maxRecDepth 100000 in
theorem xo_RT_number_1 : xevery (xchF m_RT_number false) 150 62 = true := by decide +kernel
theorem xo_RT_number : xMOK xprog m_RT_number := xMOK_of (ini := false) (N := 212) _ xmf_RT_number (fun h => nomatch h) (xhh_nil rfl) (fun _ _ h => xcd_guard h) (fun n h => (Nat.lt_or_ge n 150).elim (fun q2 => xevery_ok _ _ xo_RT_number_0 n (by omega) (by omega)) (fun q2 => xevery_ok _ _ xo_RT_number_1 n (by omega) (by omega)))
set_option maxRecDepth 100000 in
theorem xo_RT_push_0 : xevery (xchF m_RT_push false) 0 40 = true := by decide +kernel
theorem xo_RT_push : xMOK xprog m_RT_push := xMOK_of (ini := false) (N := 40) _ xmf_RT_push (fun h => nomatch h) (xhh_nil rfl) (fun _ _ h => xcd_guard h) (fun n h => xevery_ok _ _ xo_RT_push_0 n (by omega) (by omega))
set_option maxRecDepth 100000 in
theorem xo_RT_pop_0 : xevery (xchF m_RT_pop false) 0 42 = true := by decide +kernel
theorem xo_RT_pop : xMOK xprog m_RT_pop := xMOK_of (ini := false) (N := 42) _ xmf_RT_pop (fun h => nomatch h) (xhh_nil rfl) (fun _ _ h => xcd_guard h) (fun n h => xevery_ok _ _ xo_RT_pop_0 n (by omega) (by omega))
set_option maxRecDepth 100000 in
theorem xo_RT_joined_0 : xevery (xchF m_RT_joined false) 0 150 = true := by decide +kernel
set_option maxRecDepth 100000 in
theorem xo_RT_joined_1 : xevery (xchF m_RT_joined false) 150 69 = true := by decide +kernel
theorem xo_RT_joined : xMOK xprog m_RT_joined := xMOK_of (ini := false) (N := 219) _ xmf_RT_joined (fun h => nomatch h) (xhh_nil rfl) (fun _ _ h => xcd_guard h) (fun n h => (Nat.lt_or_ge n 150).elim (fun q2 => xevery_ok _ _ xo_RT_joined_0 n (by omega) (by omega)) (fun q2 => xevery_ok _ _ xo_RT_joined_1 n (by omega) (by omega)))
set_option maxRecDepth 100000 in
theorem xo_Ru_init_0 : xevery (xchF m_Ru_init true) 0 28 = true := by decide +kernel
theorem xo_Ru_init : xMOK xprog m_Ru_init := xMOK_of (ini := true) (N := 28) _ xmf_Ru_init (fun _ => rfl) (xhh_nil rfl) (fun _ _ h => xcd_guard h) (fun n h => xevery_ok _ _ xo_Ru_init_0 n (by omega) (by omega))
set_option maxRecDepth 100000 in
theorem xo_Ru_add_0 : xevery (xchF m_Ru_add false) 0 43 = true := by decide +kernel
theorem xo_Ru_add : xMOK xprog m_Ru_add := xMOK_of (ini := false) (N := 43) _ xmf_Ru_add (fun h => nomatch h) (xhh_nil rfl) (fun _ _ h => xcd_guard h) (fun n h => xevery_ok _ _ xo_Ru_add_0 n (by omega) (by omega))
set_option maxRecDepth 100000 in
theorem xo_Ta_init_0 : xevery (xchF m_Ta_init true) 0 19 = true := by decide +kernel
theorem xo_Ta_init : xMOK xprog m_Ta_init := xMOK_of (ini := true) (N := 19) _ xmf_Ta_init (fun _ => rfl) (xhh_nil rfl) (fun _ _ h => xcd_guard h) (fun n h => xevery_ok _ _ xo_Ta_init_0 n (by omega) (by omega))
set_option maxRecDepth 100000 in
theorem xo_Ta_append_0 : xevery (xchF m_Ta_append false) 0 49 = true := by decide +kernel
theorem xo_Ta_append : xMOK xprog m_Ta_append := xMOK_of (ini := false) (N := 49) _ xmf_Ta_append (fun h => nomatch h) (xhh_nil rfl) (fun _ _ h => xcd_guard h) (fun n h => xevery_ok _ _ xo_Ta_append_0 n (by omega) (by omega))
set_option maxRecDepth 100000 in
theorem xo_Ta_byteAt_0 : xevery (xchF m_Ta_byteAt false) 0 25 = true := by decide +kernel
theorem xo_Ta_byteAt : xMOK xprog m_Ta_byteAt := xMOK_of (ini := false) (N := 25) _ xmf_Ta_byteAt (fun h => nomatch h) (xhh_nil rfl) (fun _ _ h => xcd_guard h) (fun n h => xevery_ok _ _ xo_Ta_byteAt_0 n (by omega) (by omega))
set_option maxRecDepth 100000 in
theorem xo_To_init_0 : xevery (xchF m_To_init true) 0 112 = true := by decide +kernel
theorem xo_To_init : xMOK xprog m_To_init := xMOK_of (ini := true) (N := 112) _ xmf_To_init (fun _ => rfl) (xhh_nil rfl) (fun _ _ h => xcd_guard h) (fun n h => xevery_ok _ _ xo_To_init_0 n (by omega) (by omega))
set_option maxRecDepth 100000 in
theorem xo_To_cutTape_0 : xevery (xchF m_To_cutTape false) 0 127 = true := by decide +kernel
theorem xo_To_cutTape : xMOK xprog m_To_cutTape := xMOK_of (ini := false) (N := 127) _ xmf_To_cutTape (fun h => nomatch h) (xhh_nil rfl) (fun _ _ h => xcd_guard h) (fun n h => xevery_ok _ _ xo_To_cutTape_0 n (by omega) (by omega))
set_option maxRecDepth 100000 in
theorem xo_To_kindHere_0 : xevery (xchF m_To_kindHere false) 0 32 = true := by decide +kernel
theorem xo_To_kindHere : xMOK xprog m_To_kindHere := xMOK_of (ini := false) (N := 32) _ xmf_To_kindHere (fun h => nomatch h) (xhh_nil rfl) (fun _ _ h => xcd_guard h) (fun n h => xevery_ok _ _ xo_To_kindHere_0 n (by omega) (by omega))
set_option maxRecDepth 100000 in
theorem xo_To_startHere_0 : xevery (xchF m_To_startHere false) 0 38 = true := by decide +kernel
theorem xo_To_startHere : xMOK xprog m_To_startHere := xMOK_of (ini := false) (N := 38) _ xmf_To_startHere (fun h => nomatch h) (xhh_nil rfl) (fun _ _ h => xcd_guard h) (fun n h => xevery_ok _ _ xo_To_startHere_0 n (by omega) (by omega))
set_option maxRecDepth 100000 in
theorem xo_To_valueHere_0 : xevery (xchF m_To_valueHere false) 0 32 = true := by decide +kernel
theorem xo_To_valueHere : xMOK xprog m_To_valueHere := xMOK_of (ini := false) (N := 32) _ xmf_To_valueHere (fun h => nomatch h) (xhh_nil rfl) (fun _ _ h => xcd_guard h) (fun n h => xevery_ok _ _ xo_To_valueHere_0 n (by omega) (by omega))
set_option maxRecDepth 100000 in
theorem xo_To_skip_0 : xevery (xchF m_To_skip false) 0 11 = true := by decide +kernel
theorem xo_To_skip : xMOK xprog m_To_skip := xMOK_of (ini := false) (N := 11) _ xmf_To_skip (fun h => nomatch h) (xhh_nil rfl) (fun _ _ h => xcd_guard h) (fun n h => xevery_ok _ _ xo_To_skip_0 n (by omega) (by omega))
set_option maxRecDepth 100000 in
theorem xo_To_take_0 : xevery (xchF m_To_take false) 0 22 = true := by decide +kernel
theorem xo_To_take : xMOK xprog m_To_take := xMOK_of (ini := false) (N := 22) _ xmf_To_take (fun h => nomatch h) (xhh_nil rfl) (fun _ _ h => xcd_guard h) (fun n h => xevery_ok _ _ xo_To_take_0 n (by omega) (by omega))
set_option maxRecDepth 100000 in
theorem xo_To_behindBlanks_0 : xevery (xchF m_To_behindBlanks false) 0 47 = true := by decide +kernel
theorem xo_To_behindBlanks : xMOK xprog m_To_behindBlanks := xMOK_of (ini := false) (N := 47) _ xmf_To_behindBlanks (fun h => nomatch h) (xhh_nil rfl) (fun _ _ h => xcd_guard h) (fun n h => xevery_ok _ _ xo_To_behindBlanks_0 n (by omega) (by omega))
set_option maxRecDepth 100000 in
theorem xo_To_endOfToken_0 : xevery (xchF m_To_endOfToken false) 0 91 = true := by decide +kernel
theorem xo_To_endOfToken : xMOK xprog m_To_endOfToken := xMOK_of (ini := false) (N := 91) _ xmf_To_endOfToken (fun h => nomatch h) (xhh_nil rfl) (fun _ _ h => xcd_guard h) (fun n h => xevery_ok _ _ xo_To_endOfToken_0 n (by omega) (by omega))
set_option maxRecDepth 100000 in
theorem xo_To_valueOf_0 : xevery (xchF m_To_valueOf false) 0 60 = true := by decide +kernel
theorem xo_To_valueOf : xMOK xprog m_To_valueOf := xMOK_of (ini := false) (N := 60) _ xmf_To_valueOf (fun h => nomatch h) (xhh_nil rfl) (fun _ _ h => xcd_guard h) (fun n h => xevery_ok _ _ xo_To_valueOf_0 n (by omega) (by omega))
set_option maxRecDepth 100000 in
theorem xo_To_kindOf_0 : xevery (xchF m_To_kindOf false) 0 83 = true := by decide +kernel
theorem xo_To_kindOf : xMOK xprog m_To_kindOf := xMOK_of (ini := false) (N := 83) _ xmf_To_kindOf (fun h => nomatch h) (xhh_nil rfl) (fun _ _ h => xcd_guard h) (fun n h => xevery_ok _ _ xo_To_kindOf_0 n (by omega) (by omega))
set_option maxRecDepth 100000 in
theorem xo_To_kindOfWord_0 : xevery (xchF m_To_kindOfWord false) 0 32 = true := by decide +kernel
theorem xo_To_kindOfWord : xMOK xprog m_To_kindOfWord := xMOK_of (ini := false) (N := 32) _ xmf_To_kindOfWord (fun h => nomatch h) (xhh_nil rfl) (fun _ _ h => xcd_guard h) (fun n h => xevery_ok _ _ xo_To_kindOfWord_0 n (by omega) (by omega))
set_option maxRecDepth 100000 in
theorem xo_To_wordWith_0 : xevery (xchF m_To_wordWith false) 0 12 = true := by decide +kernel
theorem xo_To_wordWith : xMOK xprog m_To_wordWith := xMOK_of (ini := false) (N := 12) _ xmf_To_wordWith (fun h => nomatch h) (xhh_nil rfl) (fun _ _ h => xcd_guard h) (fun n h => xevery_ok _ _ xo_To_wordWith_0 n (by omega) (by omega))
set_option maxRecDepth 100000 in
theorem xo_To_isLetter_0 : xevery (xchF m_To_isLetter false) 0 18 = true := by decide +kernel
theorem xo_To_isLetter : xMOK xprog m_To_isLetter := xMOK_of (ini := false) (N := 18) _ xmf_To_isLetter (fun h => nomatch h) (xhh_nil rfl) (fun _ _ h => xcd_guard h) (fun n h => xevery_ok _ _ xo_To_isLetter_0 n (by omega) (by omega))
set_option maxRecDepth 100000 in
theorem xo_To_isDigit_0 : xevery (xchF m_To_isDigit false) 0 18 = true := by decide +kernel
theorem xo_To_isDigit : xMOK xprog m_To_isDigit := xMOK_of (ini := false) (N := 18) _ xmf_To_isDigit (fun h => nomatch h) (xhh_nil rfl) (fun _ _ h => xcd_guard h) (fun n h => xevery_ok _ _ xo_To_isDigit_0 n (by omega) (by omega))
set_option maxRecDepth 100000 in
theorem xo_T_init_0 : xevery (xchF m_T_init true) 0 98 = true := by decide +kernel
theorem xo_T_init : xMOK xprog m_T_init := xMOK_of (ini := true) (N := 98) _ xmf_T_init (fun _ => rfl) (xhh_nil rfl) (fun _ _ h => xcd_guard h) (fun n h => xevery_ok _ _ xo_T_init_0 n (by omega) (by omega))
set_option maxRecDepth 100000 in
theorem xo_T_feed_0 : xevery (xchF m_T_feed false) 0 73 = true := by decide +kernel
theorem xo_T_feed : xMOK xprog m_T_feed := xMOK_of (ini := false) (N := 73) _ xmf_T_feed (fun h => nomatch h) (xhh_nil rfl) (fun _ _ h => xcd_guard h) (fun n h => xevery_ok _ _ xo_T_feed_0 n (by omega) (by omega))
set_option maxRecDepth 100000 in
theorem xo_T_trim_0 : xevery (xchF m_T_trim false) 0 35 = true := by decide +kernel
theorem xo_T_trim : xMOK xprog m_T_trim := xMOK_of (ini := false) (N := 35) _ xmf_T_trim (fun h => nomatch h) (xhh_nil rfl) (fun _ _ h => xcd_guard h) (fun n h => xevery_ok _ _ xo_T_trim_0 n (by omega) (by omega))
