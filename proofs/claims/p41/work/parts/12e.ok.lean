set_option maxRecDepth 100000 in
theorem xo_JI_getChars_0 : xevery (xchF m_JI_getChars false) 0 121 = true := by decide +kernel
theorem xo_JI_getChars : xMOK xprog m_JI_getChars := xMOK_of (ini := false) (N := 121) _ xmf_JI_getChars (fun h => nomatch h) (xhh_nil rfl) (fun _ _ h => xcd_guard h) (fun n h => xevery_ok _ _ xo_JI_getChars_0 n (by omega) (by omega))
set_option maxRecDepth 100000 in
theorem xo_JI_stringSize_0 : xevery (xchF m_JI_stringSize false) 0 47 = true := by decide +kernel
theorem xo_JI_stringSize : xMOK xprog m_JI_stringSize := xMOK_of (ini := false) (N := 47) _ xmf_JI_stringSize (fun h => nomatch h) (xhh_nil rfl) (fun _ _ h => xcd_guard h) (fun n h => xevery_ok _ _ xo_JI_stringSize_0 n (by omega) (by omega))
set_option maxRecDepth 100000 in
theorem xo_JS_init_0 : xevery (xchF m_JS_init true) 0 7 = true := by decide +kernel
theorem xo_JS_init : xMOK xprog m_JS_init := xMOK_of (ini := true) (N := 7) _ xmf_JS_init (fun _ => rfl) (xhh_nil rfl) (fun _ _ h => xcd_guard h) (fun n h => xevery_ok _ _ xo_JS_init_0 n (by omega) (by omega))
set_option maxRecDepth 100000 in
theorem xo_JS_length_0 : xevery (xchF m_JS_length false) 0 11 = true := by decide +kernel
theorem xo_JS_length : xMOK xprog m_JS_length := xMOK_of (ini := false) (N := 11) _ xmf_JS_length (fun h => nomatch h) (xhh_nil rfl) (fun _ _ h => xcd_guard h) (fun n h => xevery_ok _ _ xo_JS_length_0 n (by omega) (by omega))
set_option maxRecDepth 100000 in
theorem xo_JS_charAt_0 : xevery (xchF m_JS_charAt false) 0 25 = true := by decide +kernel
theorem xo_JS_charAt : xMOK xprog m_JS_charAt := xMOK_of (ini := false) (N := 25) _ xmf_JS_charAt (fun h => nomatch h) (xhh_nil rfl) (fun _ _ h => xcd_guard h) (fun n h => xevery_ok _ _ xo_JS_charAt_0 n (by omega) (by omega))
set_option maxRecDepth 100000 in
theorem xo_JS_indexOf_0 : xevery (xchF m_JS_indexOf false) 0 7 = true := by decide +kernel
theorem xo_JS_indexOf : xMOK xprog m_JS_indexOf := xMOK_of (ini := false) (N := 7) _ xmf_JS_indexOf (fun h => nomatch h) (xhh_nil rfl) (fun _ _ h => xcd_guard h) (fun n h => xevery_ok _ _ xo_JS_indexOf_0 n (by omega) (by omega))
set_option maxRecDepth 100000 in
theorem xo_JS_indexOf2_0 : xevery (xchF m_JS_indexOf2 false) 0 37 = true := by decide +kernel
theorem xo_JS_indexOf2 : xMOK xprog m_JS_indexOf2 := xMOK_of (ini := false) (N := 37) _ xmf_JS_indexOf2 (fun h => nomatch h) (xhh_nil rfl) (fun _ _ h => xcd_guard h) (fun n h => xevery_ok _ _ xo_JS_indexOf2_0 n (by omega) (by omega))
set_option maxRecDepth 100000 in
theorem xo_JS_getBytes_0 : xevery (xchF m_JS_getBytes false) 0 44 = true := by decide +kernel
theorem xo_JS_getBytes : xMOK xprog m_JS_getBytes := xMOK_of (ini := false) (N := 44) _ xmf_JS_getBytes (fun h => nomatch h) (xhh_nil rfl) (fun _ _ h => xcd_guard h) (fun n h => xevery_ok _ _ xo_JS_getBytes_0 n (by omega) (by omega))
set_option maxRecDepth 100000 in
theorem xo_JS_initA_0 : xevery (xchF m_JS_initA true) 0 98 = true := by decide +kernel
theorem xo_JS_initA : xMOK xprog m_JS_initA := xMOK_of (ini := true) (N := 98) _ xmf_JS_initA (fun _ => rfl) (xhh_nil rfl) (fun _ _ h => xcd_guard h) (fun n h => xevery_ok _ _ xo_JS_initA_0 n (by omega) (by omega))
set_option maxRecDepth 100000 in
theorem xo_JS_coder_0 : xevery (xchF m_JS_coder false) 0 15 = true := by decide +kernel
theorem xo_JS_coder : xMOK xprog m_JS_coder := xMOK_of (ini := false) (N := 15) _ xmf_JS_coder (fun h => nomatch h) (xhh_nil rfl) (fun _ _ h => xcd_guard h) (fun n h => xevery_ok _ _ xo_JS_coder_0 n (by omega) (by omega))
set_option maxRecDepth 100000 in
theorem xo_JS_isLatin1_0 : xevery (xchF m_JS_isLatin1 false) 0 19 = true := by decide +kernel
theorem xo_JS_isLatin1 : xMOK xprog m_JS_isLatin1 := xMOK_of (ini := false) (N := 19) _ xmf_JS_isLatin1 (fun h => nomatch h) (xhh_nil rfl) (fun _ _ h => xcd_guard h) (fun n h => xevery_ok _ _ xo_JS_isLatin1_0 n (by omega) (by omega))
set_option maxRecDepth 100000 in
theorem xo_JS_checkIndex_0 : xevery (xchF m_JS_checkIndex false) 0 10 = true := by decide +kernel
theorem xo_JS_checkIndex : xMOK xprog m_JS_checkIndex := xMOK_of (ini := false) (N := 10) _ xmf_JS_checkIndex (fun h => nomatch h) (xhh_nil rfl) (fun _ _ h => xcd_guard h) (fun n h => xevery_ok _ _ xo_JS_checkIndex_0 n (by omega) (by omega))
set_option maxRecDepth 100000 in
theorem xo_JS_checkBoundsOffCount_0 : xevery (xchF m_JS_checkBoundsOffCount false) 0 10 = true := by decide +kernel
theorem xo_JS_checkBoundsOffCount : xMOK xprog m_JS_checkBoundsOffCount := xMOK_of (ini := false) (N := 10) _ xmf_JS_checkBoundsOffCount (fun h => nomatch h) (xhh_nil rfl) (fun _ _ h => xcd_guard h) (fun n h => xevery_ok _ _ xo_JS_checkBoundsOffCount_0 n (by omega) (by omega))
set_option maxRecDepth 100000 in
theorem xo_SB_init_0 : xevery (xchF m_SB_init true) 0 7 = true := by decide +kernel
theorem xo_SB_init : xMOK xprog m_SB_init := xMOK_of (ini := true) (N := 7) _ xmf_SB_init (fun _ => rfl) (xhh_nil rfl) (fun _ _ h => xcd_guard h) (fun n h => xevery_ok _ _ xo_SB_init_0 n (by omega) (by omega))
set_option maxRecDepth 100000 in
theorem xo_SB_initS_0 : xevery (xchF m_SB_initS true) 0 6 = true := by decide +kernel
theorem xo_SB_initS : xMOK xprog m_SB_initS := xMOK_of (ini := true) (N := 6) _ xmf_SB_initS (fun _ => rfl) (xhh_nil rfl) (fun _ _ h => xcd_guard h) (fun n h => xevery_ok _ _ xo_SB_initS_0 n (by omega) (by omega))
set_option maxRecDepth 100000 in
theorem xo_SB_appS_0 : xevery (xchF m_SB_appS false) 0 8 = true := by decide +kernel
theorem xo_SB_appS : xMOK xprog m_SB_appS := xMOK_of (ini := false) (N := 8) _ xmf_SB_appS (fun h => nomatch h) (xhh_nil rfl) (fun _ _ h => xcd_guard h) (fun n h => xevery_ok _ _ xo_SB_appS_0 n (by omega) (by omega))
set_option maxRecDepth 100000 in
theorem xo_SB_appC_0 : xevery (xchF m_SB_appC false) 0 8 = true := by decide +kernel
theorem xo_SB_appC : xMOK xprog m_SB_appC := xMOK_of (ini := false) (N := 8) _ xmf_SB_appC (fun h => nomatch h) (xhh_nil rfl) (fun _ _ h => xcd_guard h) (fun n h => xevery_ok _ _ xo_SB_appC_0 n (by omega) (by omega))
set_option maxRecDepth 100000 in
theorem xo_SB_appI_0 : xevery (xchF m_SB_appI false) 0 8 = true := by decide +kernel
theorem xo_SB_appI : xMOK xprog m_SB_appI := xMOK_of (ini := false) (N := 8) _ xmf_SB_appI (fun h => nomatch h) (xhh_nil rfl) (fun _ _ h => xcd_guard h) (fun n h => xevery_ok _ _ xo_SB_appI_0 n (by omega) (by omega))
set_option maxRecDepth 100000 in
theorem xo_SB_toString_0 : xevery (xchF m_SB_toString false) 0 9 = true := by decide +kernel
theorem xo_SB_toString : xMOK xprog m_SB_toString := xMOK_of (ini := false) (N := 9) _ xmf_SB_toString (fun h => nomatch h) (xhh_nil rfl) (fun _ _ h => xcd_guard h) (fun n h => xevery_ok _ _ xo_SB_toString_0 n (by omega) (by omega))
set_option maxRecDepth 100000 in
theorem xo_SB_appB_0 : xevery (xchF m_SB_appB false) 0 6 = true := by decide +kernel
theorem xo_SB_appB : xMOK xprog m_SB_appB := xMOK_of (ini := false) (N := 6) _ xmf_SB_appB (fun h => nomatch h) (xhh_nil rfl) (fun _ _ h => xcd_guard h) (fun n h => xevery_ok _ _ xo_SB_appB_0 n (by omega) (by omega))
set_option maxRecDepth 100000 in
theorem xo_SB_charAt_0 : xevery (xchF m_SB_charAt false) 0 6 = true := by decide +kernel
theorem xo_SB_charAt : xMOK xprog m_SB_charAt := xMOK_of (ini := false) (N := 6) _ xmf_SB_charAt (fun h => nomatch h) (xhh_nil rfl) (fun _ _ h => xcd_guard h) (fun n h => xevery_ok _ _ xo_SB_charAt_0 n (by omega) (by omega))
set_option maxRecDepth 100000 in
theorem xo_SB_length_0 : xevery (xchF m_SB_length false) 0 5 = true := by decide +kernel
theorem xo_SB_length : xMOK xprog m_SB_length := xMOK_of (ini := false) (N := 5) _ xmf_SB_length (fun h => nomatch h) (xhh_nil rfl) (fun _ _ h => xcd_guard h) (fun n h => xevery_ok _ _ xo_SB_length_0 n (by omega) (by omega))
set_option maxRecDepth 100000 in
theorem xo_JL_charAt_0 : xevery (xchF m_JL_charAt false) 0 15 = true := by decide +kernel
theorem xo_JL_charAt : xMOK xprog m_JL_charAt := xMOK_of (ini := false) (N := 15) _ xmf_JL_charAt (fun h => nomatch h) (xhh_nil rfl) (fun _ _ h => xcd_guard h) (fun n h => xevery_ok _ _ xo_JL_charAt_0 n (by omega) (by omega))
set_option maxRecDepth 100000 in
theorem xo_JL_canEncode_0 : xevery (xchF m_JL_canEncode false) 0 13 = true := by decide +kernel
theorem xo_JL_canEncode : xMOK xprog m_JL_canEncode := xMOK_of (ini := false) (N := 13) _ xmf_JL_canEncode (fun h => nomatch h) (xhh_nil rfl) (fun _ _ h => xcd_guard h) (fun n h => xevery_ok _ _ xo_JL_canEncode_0 n (by omega) (by omega))
set_option maxRecDepth 100000 in
theorem xo_JL_canEncode2_0 : xevery (xchF m_JL_canEncode2 false) 0 17 = true := by decide +kernel
theorem xo_JL_canEncode2 : xMOK xprog m_JL_canEncode2 := xMOK_of (ini := false) (N := 17) _ xmf_JL_canEncode2 (fun h => nomatch h) (xhh_nil rfl) (fun _ _ h => xcd_guard h) (fun n h => xevery_ok _ _ xo_JL_canEncode2_0 n (by omega) (by omega))
set_option maxRecDepth 100000 in
theorem xo_JL_indexOf_0 : xevery (xchF m_JL_indexOf false) 0 37 = true := by decide +kernel
theorem xo_JL_indexOf : xMOK xprog m_JL_indexOf := xMOK_of (ini := false) (N := 37) _ xmf_JL_indexOf (fun h => nomatch h) (xhh_nil rfl) (fun _ _ h => xcd_guard h) (fun n h => xevery_ok _ _ xo_JL_indexOf_0 n (by omega) (by omega))
set_option maxRecDepth 100000 in
theorem xo_JL_indexOfChar_0 : xevery (xchF m_JL_indexOfChar false) 0 33 = true := by decide +kernel
theorem xo_JL_indexOfChar : xMOK xprog m_JL_indexOfChar := xMOK_of (ini := false) (N := 33) _ xmf_JL_indexOfChar (fun h => nomatch h) (xhh_nil rfl) (fun _ _ h => xcd_guard h) (fun n h => xevery_ok _ _ xo_JL_indexOfChar_0 n (by omega) (by omega))
set_option maxRecDepth 100000 in
theorem xo_JA_copyOf_0 : xevery (xchF m_JA_copyOf false) 0 33 = true := by decide +kernel
theorem xo_JA_copyOf : xMOK xprog m_JA_copyOf := xMOK_of (ini := false) (N := 33) _ xmf_JA_copyOf (fun h => nomatch h) (xhh_nil rfl) (fun _ _ h => xcd_guard h) (fun n h => xevery_ok _ _ xo_JA_copyOf_0 n (by omega) (by omega))
set_option maxRecDepth 100000 in
theorem xo_JA_checkLength_0 : xevery (xchF m_JA_checkLength false) 0 38 = true := by decide +kernel
theorem xo_JA_checkLength : xMOK xprog m_JA_checkLength := xMOK_of (ini := false) (N := 38) _ xmf_JA_checkLength (fun h => nomatch h) (xhh_nil rfl) (fun _ _ h => xcd_guard h) (fun n h => xevery_ok _ _ xo_JA_checkLength_0 n (by omega) (by omega))
set_option maxRecDepth 100000 in
theorem xo_JA_copyOfRange_0 : xevery (xchF m_JA_copyOfRange false) 0 25 = true := by decide +kernel
theorem xo_JA_copyOfRange : xMOK xprog m_JA_copyOfRange := xMOK_of (ini := false) (N := 25) _ xmf_JA_copyOfRange (fun h => nomatch h) (xhh_nil rfl) (fun _ _ h => xcd_guard h) (fun n h => xevery_ok _ _ xo_JA_copyOfRange_0 n (by omega) (by omega))
set_option maxRecDepth 100000 in
theorem xo_JA_copyOfRangeByte_0 : xevery (xchF m_JA_copyOfRangeByte false) 0 33 = true := by decide +kernel
theorem xo_JA_copyOfRangeByte : xMOK xprog m_JA_copyOfRangeByte := xMOK_of (ini := false) (N := 33) _ xmf_JA_copyOfRangeByte (fun h => nomatch h) (xhh_nil rfl) (fun _ _ h => xcd_guard h) (fun n h => xevery_ok _ _ xo_JA_copyOfRangeByte_0 n (by omega) (by omega))
set_option maxRecDepth 100000 in
theorem xo_JX_newLength_0 : xevery (xchF m_JX_newLength false) 0 27 = true := by decide +kernel
theorem xo_JX_newLength : xMOK xprog m_JX_newLength := xMOK_of (ini := false) (N := 27) _ xmf_JX_newLength (fun h => nomatch h) (xhh_nil rfl) (fun _ _ h => xcd_guard h) (fun n h => xevery_ok _ _ xo_JX_newLength_0 n (by omega) (by omega))
set_option maxRecDepth 100000 in
theorem xo_JP_checkIndex_0 : xevery (xchF m_JP_checkIndex false) 0 18 = true := by decide +kernel
theorem xo_JP_checkIndex : xMOK xprog m_JP_checkIndex := xMOK_of (ini := false) (N := 18) _ xmf_JP_checkIndex (fun h => nomatch h) (xhh_nil rfl) (fun _ _ h => xcd_guard h) (fun n h => xevery_ok _ _ xo_JP_checkIndex_0 n (by omega) (by omega))
set_option maxRecDepth 100000 in
theorem xo_JP_checkFromIndexSize_0 : xevery (xchF m_JP_checkFromIndexSize false) 0 25 = true := by decide +kernel
theorem xo_JP_checkFromIndexSize : xMOK xprog m_JP_checkFromIndexSize := xMOK_of (ini := false) (N := 25) _ xmf_JP_checkFromIndexSize (fun h => nomatch h) (xhh_nil rfl) (fun _ _ h => xcd_guard h) (fun n h => xevery_ok _ _ xo_JP_checkFromIndexSize_0 n (by omega) (by omega))
set_option maxRecDepth 100000 in
theorem xo_L_below_0 : xevery (xchF m_L_below false) 0 7 = true := by decide +kernel
theorem xo_L_below : xMOK xprog m_L_below := xMOK_of (ini := false) (N := 7) _ xmf_L_below (fun h => nomatch h) (xhh_nil rfl) (fun _ _ h => xcd_guard h) (fun n h => xevery_ok _ _ xo_L_below_0 n (by omega) (by omega))
set_option maxRecDepth 100000 in
theorem xo_L_cell_0 : xevery (xchF m_L_cell false) 0 19 = true := by decide +kernel
theorem xo_L_cell : xMOK xprog m_L_cell := xMOK_of (ini := false) (N := 19) _ xmf_L_cell (fun h => nomatch h) (xhh_nil rfl) (fun _ _ h => xcd_guard h) (fun n h => xevery_ok _ _ xo_L_cell_0 n (by omega) (by omega))
set_option maxRecDepth 100000 in
theorem xo_L_say_0 : xevery (xchF m_L_say false) 0 117 = true := by decide +kernel
theorem xo_L_say : xMOK xprog m_L_say := xMOK_of (ini := false) (N := 117) _ xmf_L_say (fun h => nomatch h) (xhh_nil rfl) (fun _ _ h => xcd_guard h) (fun n h => xevery_ok _ _ xo_L_say_0 n (by omega) (by omega))
set_option maxRecDepth 100000 in
theorem xo_L_act_0 : xevery (xchF m_L_act false) 0 150 = true := by decide +kernel
set_option maxRecDepth 100000 in
theorem xo_L_act_1 : xevery (xchF m_L_act false) 150 150 = true := by decide +kernel
set_option maxRecDepth 100000 in
theorem xo_L_act_2 : xevery (xchF m_L_act false) 300 1 = true := by decide +kernel
theorem xo_L_act : xMOK xprog m_L_act := xMOK_of (ini := false) (N := 301) _ xmf_L_act (fun h => nomatch h) (xhh_nil rfl) (fun _ _ h => xcd_guard h) (fun n h => (Nat.lt_or_ge n 150).elim (fun q3 => xevery_ok _ _ xo_L_act_0 n (by omega) (by omega)) (fun q3 => (Nat.lt_or_ge n 300).elim (fun q103 => xevery_ok _ _ xo_L_act_1 n (by omega) (by omega)) (fun q103 => xevery_ok _ _ xo_L_act_2 n (by omega) (by omega))))
set_option maxRecDepth 100000 in
theorem xo_L_build_0 : xevery (xchF m_L_build false) 0 86 = true := by decide +kernel
theorem xo_L_build : xMOK xprog m_L_build := xMOK_of (ini := false) (N := 86) _ xmf_L_build (fun h => nomatch h) (xhh_nil rfl) (fun _ _ h => xcd_guard h) (fun n h => xevery_ok _ _ xo_L_build_0 n (by omega) (by omega))
set_option maxRecDepth 100000 in
theorem xo_L_isTooLong_0 : xevery (xchF m_L_isTooLong false) 0 35 = true := by decide +kernel
theorem xo_L_isTooLong : xMOK xprog m_L_isTooLong := xMOK_of (ini := false) (N := 35) _ xmf_L_isTooLong (fun h => nomatch h) (xhh_nil rfl) (fun _ _ h => xcd_guard h) (fun n h => xevery_ok _ _ xo_L_isTooLong_0 n (by omega) (by omega))
set_option maxRecDepth 100000 in
theorem xo_L_isOver_0 : xevery (xchF m_L_isOver false) 0 118 = true := by decide +kernel
theorem xo_L_isOver : xMOK xprog m_L_isOver := xMOK_of (ini := false) (N := 118) _ xmf_L_isOver (fun h => nomatch h) (xhh_nil rfl) (fun _ _ h => xcd_guard h) (fun n h => xevery_ok _ _ xo_L_isOver_0 n (by omega) (by omega))
set_option maxRecDepth 100000 in
theorem xo_L_law_0 : xevery (xchF m_L_law false) 0 150 = true := by decide +kernel
set_option maxRecDepth 100000 in
theorem xo_L_law_1 : xevery (xchF m_L_law false) 150 150 = true := by decide +kernel
set_option maxRecDepth 100000 in
theorem xo_L_law_2 : xevery (xchF m_L_law false) 300 150 = true := by decide +kernel
set_option maxRecDepth 100000 in
theorem xo_L_law_3 : xevery (xchF m_L_law false) 450 150 = true := by decide +kernel
set_option maxRecDepth 100000 in
theorem xo_L_law_4 : xevery (xchF m_L_law false) 600 150 = true := by decide +kernel
set_option maxRecDepth 100000 in
theorem xo_L_law_5 : xevery (xchF m_L_law false) 750 150 = true := by decide +kernel
set_option maxRecDepth 100000 in
theorem xo_L_law_6 : xevery (xchF m_L_law false) 900 150 = true := by decide +kernel
set_option maxRecDepth 100000 in
theorem xo_L_law_7 : xevery (xchF m_L_law false) 1050 132 = true := by decide +kernel
theorem xo_L_law : xMOK xprog m_L_law := xMOK_of (ini := false) (N := 1182) _ xmf_L_law (fun h => nomatch h) (xhh_nil rfl) (fun _ _ h => xcd_guard h) (fun n h => (Nat.lt_or_ge n 600).elim (fun q8 => (Nat.lt_or_ge n 300).elim (fun q4 => (Nat.lt_or_ge n 150).elim (fun q2 => xevery_ok _ _ xo_L_law_0 n (by omega) (by omega)) (fun q2 => xevery_ok _ _ xo_L_law_1 n (by omega) (by omega))) (fun q4 => (Nat.lt_or_ge n 450).elim (fun q204 => xevery_ok _ _ xo_L_law_2 n (by omega) (by omega)) (fun q204 => xevery_ok _ _ xo_L_law_3 n (by omega) (by omega)))) (fun q8 => (Nat.lt_or_ge n 900).elim (fun q408 => (Nat.lt_or_ge n 750).elim (fun q406 => xevery_ok _ _ xo_L_law_4 n (by omega) (by omega)) (fun q406 => xevery_ok _ _ xo_L_law_5 n (by omega) (by omega))) (fun q408 => (Nat.lt_or_ge n 1050).elim (fun q608 => xevery_ok _ _ xo_L_law_6 n (by omega) (by omega)) (fun q608 => xevery_ok _ _ xo_L_law_7 n (by omega) (by omega)))))
