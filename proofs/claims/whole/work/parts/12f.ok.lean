set_option maxRecDepth 100000 in
theorem xo_L_law_0 : xevery (xchF m_L_law false) 0 150 = true := by decide +kernel
set_option maxRecDepth 100000 in
theorem xo_L_law_1 : xevery (xchF m_L_law false) 150 150 = true := by decide +kernel
set_option maxRecDepth 100000 in
theorem xo_L_law_2 : xevery (xchF m_L_law false) 300 150 = true := by decide +kernel
set_option maxRecDepth 100000 in
theorem xo_L_law_3 : xevery (xchF m_L_law false) 450 150 = true := by decide +kernel
set_option maxRecDepth 100000 in
theorem xo_L_law_4 : xevery (xchF m_L_law false) 600 150 = true := by decide +kernel
set_option maxRecDepth 100000 in
theorem xo_L_law_5 : xevery (xchF m_L_law false) 750 150 = true := by decide +kernel
set_option maxRecDepth 100000 in
theorem xo_L_law_6 : xevery (xchF m_L_law false) 900 150 = true := by decide +kernel
set_option maxRecDepth 100000 in
theorem xo_L_law_7 : xevery (xchF m_L_law false) 1050 150 = true := by decide +kernel
set_option maxRecDepth 100000 in
theorem xo_L_law_8 : xevery (xchF m_L_law false) 1200 150 = true := by decide +kernel
set_option maxRecDepth 100000 in
theorem xo_L_law_9 : xevery (xchF m_L_law false) 1350 150 = true := by decide +kernel
set_option maxRecDepth 100000 in
theorem xo_L_law_10 : xevery (xchF m_L_law false) 1500 150 = true := by decide +kernel
set_option maxRecDepth 100000 in
theorem xo_L_law_11 : xevery (xchF m_L_law false) 1650 150 = true := by decide +kernel
set_option maxRecDepth 100000 in
theorem xo_L_law_12 : xevery (xchF m_L_law false) 1800 150 = true := by decide +kernel
set_option maxRecDepth 100000 in
theorem xo_L_law_13 : xevery (xchF m_L_law false) 1950 122 = true := by decide +kernel
theorem xo_L_law : xMOK xprog m_L_law := xMOK_of (ini := false) (N := 2072) _ xmf_L_law (fun h => nomatch h) (xhh_nil rfl) (fun _ _ h => xcd_guard h) (fun n h => (Nat.lt_or_ge n 1050).elim (fun q14 => (Nat.lt_or_ge n 450).elim (fun q7 => (Nat.lt_or_ge n 150).elim (fun q3 => xevery_ok _ _ xo_L_law_0 n (by omega) (by omega)) (fun q3 => (Nat.lt_or_ge n 300).elim (fun q103 => xevery_ok _ _ xo_L_law_1 n (by omega) (by omega)) (fun q103 => xevery_ok _ _ xo_L_law_2 n (by omega) (by omega)))) (fun q7 => (Nat.lt_or_ge n 750).elim (fun q307 => (Nat.lt_or_ge n 600).elim (fun q305 => xevery_ok _ _ xo_L_law_3 n (by omega) (by omega)) (fun q305 => xevery_ok _ _ xo_L_law_4 n (by omega) (by omega))) (fun q307 => (Nat.lt_or_ge n 900).elim (fun q507 => xevery_ok _ _ xo_L_law_5 n (by omega) (by omega)) (fun q507 => xevery_ok _ _ xo_L_law_6 n (by omega) (by omega))))) (fun q14 => (Nat.lt_or_ge n 1500).elim (fun q714 => (Nat.lt_or_ge n 1200).elim (fun q710 => xevery_ok _ _ xo_L_law_7 n (by omega) (by omega)) (fun q710 => (Nat.lt_or_ge n 1350).elim (fun q810 => xevery_ok _ _ xo_L_law_8 n (by omega) (by omega)) (fun q810 => xevery_ok _ _ xo_L_law_9 n (by omega) (by omega)))) (fun q714 => (Nat.lt_or_ge n 1800).elim (fun q1014 => (Nat.lt_or_ge n 1650).elim (fun q1012 => xevery_ok _ _ xo_L_law_10 n (by omega) (by omega)) (fun q1012 => xevery_ok _ _ xo_L_law_11 n (by omega) (by omega))) (fun q1014 => (Nat.lt_or_ge n 1950).elim (fun q1214 => xevery_ok _ _ xo_L_law_12 n (by omega) (by omega)) (fun q1214 => xevery_ok _ _ xo_L_law_13 n (by omega) (by omega))))))
