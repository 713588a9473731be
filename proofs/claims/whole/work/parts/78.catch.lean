/-! ===== the law's catches ===== -/
section CATCH
variable {E : xE} {d : Nat} {Q : xR → Prop}
theorem k_feed_12 (a0 : Nat) (a1 : Int32) (a2 : Int32) (a3 : Int32) (a4 : Int32) (a5 : Int32) (a6 : Nat) (rest : List Value) (H : xH) : xk E d m_L_feed Q 11 14 [some (.ref a0), some (.int a1), some (.int a2), some (.int a3), some (.int a4), some (.int a5), some (.ref a6), none] rest (.inr 12, H) = xr E d m_L_feed Q (21, [some (.ref a0), some (.int a1), some (.int a2), some (.int a3), some (.int a4), some (.int a5), some (.ref a6), none], [], H) := by
  show xthr m_L_feed Q (xr E d m_L_feed Q) 11 [some (.ref a0), some (.int a1), some (.int a2), some (.int a3), some (.int a4), some (.int a5), some (.ref a6), none] 12 H = _
  unfold xthr
  rw [if_neg (by show ¬ (_ :: _ = []); exact List.cons_ne_nil _ _)]
  exact propext ⟨fun q => q.2, fun q => ⟨Nat.le_of_ble_eq_true rfl, q⟩⟩
theorem k_trim_13 (a0 : Nat) (a1 : Int32) (a2 : Nat) (rest : List Value) (H : xH) : xk E d m_L_trim Q 4 7 [some (.ref a0), some (.int a1), some (.ref a2), none] rest (.inr 13, H) = xr E d m_L_trim Q (13, [some (.ref a0), some (.int a1), some (.ref a2), none], [], H) := by
  show xthr m_L_trim Q (xr E d m_L_trim Q) 4 [some (.ref a0), some (.int a1), some (.ref a2), none] 13 H = _
  unfold xthr
  rw [if_neg (by show ¬ (_ :: _ = []); exact List.cons_ne_nil _ _)]
  exact propext ⟨fun q => q.2, fun q => ⟨Nat.le_of_ble_eq_true rfl, q⟩⟩
theorem k_hasCustoms_14 (a0 : Nat) (a1 : Int32) (a2 : Int32) (a3 : Nat) (rest : List Value) (H : xH) : xk E d m_L_hasCustoms Q 5 8 [some (.ref a0), some (.int a1), some (.int a2), some (.ref a3), none] rest (.inr 14, H) = xr E d m_L_hasCustoms Q (22, [some (.ref a0), some (.int a1), some (.int a2), some (.ref a3), none], [], H) := by
  show xthr m_L_hasCustoms Q (xr E d m_L_hasCustoms Q) 5 [some (.ref a0), some (.int a1), some (.int a2), some (.ref a3), none] 14 H = _
  unfold xthr
  rw [if_neg (by show ¬ (_ :: _ = []); exact List.cons_ne_nil _ _)]
  exact propext ⟨fun q => q.2, fun q => ⟨Nat.le_of_ble_eq_true rfl, q⟩⟩
theorem k_hasSteam_14 (a0 : Nat) (a1 : Int32) (a2 : Int32) (a3 : Nat) (rest : List Value) (H : xH) : xk E d m_L_hasSteam Q 5 8 [some (.ref a0), some (.int a1), some (.int a2), some (.ref a3), none] rest (.inr 14, H) = xr E d m_L_hasSteam Q (22, [some (.ref a0), some (.int a1), some (.int a2), some (.ref a3), none], [], H) := by
  show xthr m_L_hasSteam Q (xr E d m_L_hasSteam Q) 5 [some (.ref a0), some (.int a1), some (.int a2), some (.ref a3), none] 14 H = _
  unfold xthr
  rw [if_neg (by show ¬ (_ :: _ = []); exact List.cons_ne_nil _ _)]
  exact propext ⟨fun q => q.2, fun q => ⟨Nat.le_of_ble_eq_true rfl, q⟩⟩
theorem k_aromaAt_14 (a0 : Nat) (a1 : Int32) (a2 : Int32) (a3 : Nat) (rest : List Value) (H : xH) : xk E d m_L_aromaAt Q 5 8 [some (.ref a0), some (.int a1), some (.int a2), some (.ref a3), none] rest (.inr 14, H) = xr E d m_L_aromaAt Q (15, [some (.ref a0), some (.int a1), some (.int a2), some (.ref a3), none], [], H) := by
  show xthr m_L_aromaAt Q (xr E d m_L_aromaAt Q) 5 [some (.ref a0), some (.int a1), some (.int a2), some (.ref a3), none] 14 H = _
  unfold xthr
  rw [if_neg (by show ¬ (_ :: _ = []); exact List.cons_ne_nil _ _)]
  exact propext ⟨fun q => q.2, fun q => ⟨Nat.le_of_ble_eq_true rfl, q⟩⟩
theorem k_becalmedFor_14 (a0 : Nat) (a1 : Int32) (a2 : Nat) (rest : List Value) (H : xH) : xk E d m_L_becalmedFor Q 4 7 [some (.ref a0), some (.int a1), some (.ref a2), none] rest (.inr 14, H) = xr E d m_L_becalmedFor Q (13, [some (.ref a0), some (.int a1), some (.ref a2), none], [], H) := by
  show xthr m_L_becalmedFor Q (xr E d m_L_becalmedFor Q) 4 [some (.ref a0), some (.int a1), some (.ref a2), none] 14 H = _
  unfold xthr
  rw [if_neg (by show ¬ (_ :: _ = []); exact List.cons_ne_nil _ _)]
  exact propext ⟨fun q => q.2, fun q => ⟨Nat.le_of_ble_eq_true rfl, q⟩⟩
theorem k_visitsTo_14 (a0 : Nat) (a1 : Int32) (a2 : Nat) (rest : List Value) (H : xH) : xk E d m_L_visitsTo Q 4 7 [some (.ref a0), some (.int a1), some (.ref a2), none] rest (.inr 14, H) = xr E d m_L_visitsTo Q (13, [some (.ref a0), some (.int a1), some (.ref a2), none], [], H) := by
  show xthr m_L_visitsTo Q (xr E d m_L_visitsTo Q) 4 [some (.ref a0), some (.int a1), some (.ref a2), none] 14 H = _
  unfold xthr
  rw [if_neg (by show ¬ (_ :: _ = []); exact List.cons_ne_nil _ _)]
  exact propext ⟨fun q => q.2, fun q => ⟨Nat.le_of_ble_eq_true rfl, q⟩⟩
theorem k_columnOf_14 (a0 : Nat) (a1 : Int32) (a2 : Nat) (rest : List Value) (H : xH) : xk E d m_L_columnOf Q 4 7 [some (.ref a0), some (.int a1), some (.ref a2), none] rest (.inr 14, H) = xr E d m_L_columnOf Q (13, [some (.ref a0), some (.int a1), some (.ref a2), none], [], H) := by
  show xthr m_L_columnOf Q (xr E d m_L_columnOf Q) 4 [some (.ref a0), some (.int a1), some (.ref a2), none] 14 H = _
  unfold xthr
  rw [if_neg (by show ¬ (_ :: _ = []); exact List.cons_ne_nil _ _)]
  exact propext ⟨fun q => q.2, fun q => ⟨Nat.le_of_ble_eq_true rfl, q⟩⟩
theorem k_rowOf_14 (a0 : Nat) (a1 : Int32) (a2 : Nat) (rest : List Value) (H : xH) : xk E d m_L_rowOf Q 4 7 [some (.ref a0), some (.int a1), some (.ref a2), none] rest (.inr 14, H) = xr E d m_L_rowOf Q (13, [some (.ref a0), some (.int a1), some (.ref a2), none], [], H) := by
  show xthr m_L_rowOf Q (xr E d m_L_rowOf Q) 4 [some (.ref a0), some (.int a1), some (.ref a2), none] 14 H = _
  unfold xthr
  rw [if_neg (by show ¬ (_ :: _ = []); exact List.cons_ne_nil _ _)]
  exact propext ⟨fun q => q.2, fun q => ⟨Nat.le_of_ble_eq_true rfl, q⟩⟩
theorem k_isHome_14 (a0 : Nat) (a1 : Int32) (a2 : Nat) (rest : List Value) (H : xH) : xk E d m_L_isHome Q 4 7 [some (.ref a0), some (.int a1), some (.ref a2), none] rest (.inr 14, H) = xr E d m_L_isHome Q (20, [some (.ref a0), some (.int a1), some (.ref a2), none], [], H) := by
  show xthr m_L_isHome Q (xr E d m_L_isHome Q) 4 [some (.ref a0), some (.int a1), some (.ref a2), none] 14 H = _
  unfold xthr
  rw [if_neg (by show ¬ (_ :: _ = []); exact List.cons_ne_nil _ _)]
  exact propext ⟨fun q => q.2, fun q => ⟨Nat.le_of_ble_eq_true rfl, q⟩⟩
theorem k_leafOf_14 (a0 : Nat) (a1 : Int32) (a2 : Nat) (rest : List Value) (H : xH) : xk E d m_L_leafOf Q 4 7 [some (.ref a0), some (.int a1), some (.ref a2), none] rest (.inr 14, H) = xr E d m_L_leafOf Q (13, [some (.ref a0), some (.int a1), some (.ref a2), none], [], H) := by
  show xthr m_L_leafOf Q (xr E d m_L_leafOf Q) 4 [some (.ref a0), some (.int a1), some (.ref a2), none] 14 H = _
  unfold xthr
  rw [if_neg (by show ¬ (_ :: _ = []); exact List.cons_ne_nil _ _)]
  exact propext ⟨fun q => q.2, fun q => ⟨Nat.le_of_ble_eq_true rfl, q⟩⟩
theorem k_wayOf_14 (a0 : Nat) (a1 : Int32) (a2 : Nat) (rest : List Value) (H : xH) : xk E d m_L_wayOf Q 4 7 [some (.ref a0), some (.int a1), some (.ref a2), none] rest (.inr 14, H) = xr E d m_L_wayOf Q (13, [some (.ref a0), some (.int a1), some (.ref a2), none], [], H) := by
  show xthr m_L_wayOf Q (xr E d m_L_wayOf Q) 4 [some (.ref a0), some (.int a1), some (.ref a2), none] 14 H = _
  unfold xthr
  rw [if_neg (by show ¬ (_ :: _ = []); exact List.cons_ne_nil _ _)]
  exact propext ⟨fun q => q.2, fun q => ⟨Nat.le_of_ble_eq_true rfl, q⟩⟩
theorem k_speedOf_14 (a0 : Nat) (a1 : Int32) (a2 : Nat) (rest : List Value) (H : xH) : xk E d m_L_speedOf Q 4 7 [some (.ref a0), some (.int a1), some (.ref a2), none] rest (.inr 14, H) = xr E d m_L_speedOf Q (13, [some (.ref a0), some (.int a1), some (.ref a2), none], [], H) := by
  show xthr m_L_speedOf Q (xr E d m_L_speedOf Q) 4 [some (.ref a0), some (.int a1), some (.ref a2), none] 14 H = _
  unfold xthr
  rw [if_neg (by show ¬ (_ :: _ = []); exact List.cons_ne_nil _ _)]
  exact propext ⟨fun q => q.2, fun q => ⟨Nat.le_of_ble_eq_true rfl, q⟩⟩
theorem k_pointsOf_14 (a0 : Nat) (a1 : Int32) (a2 : Nat) (rest : List Value) (H : xH) : xk E d m_L_pointsOf Q 4 7 [some (.ref a0), some (.int a1), some (.ref a2), none] rest (.inr 14, H) = xr E d m_L_pointsOf Q (13, [some (.ref a0), some (.int a1), some (.ref a2), none], [], H) := by
  show xthr m_L_pointsOf Q (xr E d m_L_pointsOf Q) 4 [some (.ref a0), some (.int a1), some (.ref a2), none] 14 H = _
  unfold xthr
  rw [if_neg (by show ¬ (_ :: _ = []); exact List.cons_ne_nil _ _)]
  exact propext ⟨fun q => q.2, fun q => ⟨Nat.le_of_ble_eq_true rfl, q⟩⟩
theorem k_sipsOf_14 (a0 : Nat) (a1 : Int32) (a2 : Nat) (rest : List Value) (H : xH) : xk E d m_L_sipsOf Q 4 7 [some (.ref a0), some (.int a1), some (.ref a2), none] rest (.inr 14, H) = xr E d m_L_sipsOf Q (13, [some (.ref a0), some (.int a1), some (.ref a2), none], [], H) := by
  show xthr m_L_sipsOf Q (xr E d m_L_sipsOf Q) 4 [some (.ref a0), some (.int a1), some (.ref a2), none] 14 H = _
  unfold xthr
  rw [if_neg (by show ¬ (_ :: _ = []); exact List.cons_ne_nil _ _)]
  exact propext ⟨fun q => q.2, fun q => ⟨Nat.le_of_ble_eq_true rfl, q⟩⟩
theorem k_smells_14 (a0 : Nat) (a1 : Int32) (a2 : Int32) (a3 : Nat) (rest : List Value) (H : xH) : xk E d m_L_smells Q 5 8 [some (.ref a0), some (.int a1), some (.int a2), some (.ref a3), none] rest (.inr 14, H) = xr E d m_L_smells Q (15, [some (.ref a0), some (.int a1), some (.int a2), some (.ref a3), none], [], H) := by
  show xthr m_L_smells Q (xr E d m_L_smells Q) 5 [some (.ref a0), some (.int a1), some (.int a2), some (.ref a3), none] 14 H = _
  unfold xthr
  rw [if_neg (by show ¬ (_ :: _ = []); exact List.cons_ne_nil _ _)]
  exact propext ⟨fun q => q.2, fun q => ⟨Nat.le_of_ble_eq_true rfl, q⟩⟩
theorem k_ruleTells_14 (a0 : Nat) (a1 : Int32) (a2 : Nat) (rest : List Value) (H : xH) : xk E d m_L_ruleTells Q 4 7 [some (.ref a0), some (.int a1), some (.ref a2), none] rest (.inr 14, H) = xr E d m_L_ruleTells Q (13, [some (.ref a0), some (.int a1), some (.ref a2), none], [], H) := by
  show xthr m_L_ruleTells Q (xr E d m_L_ruleTells Q) 4 [some (.ref a0), some (.int a1), some (.ref a2), none] 14 H = _
  unfold xthr
  rw [if_neg (by show ¬ (_ :: _ = []); exact List.cons_ne_nil _ _)]
  exact propext ⟨fun q => q.2, fun q => ⟨Nat.le_of_ble_eq_true rfl, q⟩⟩
theorem k_wouldStay_14 (a0 : Nat) (a1 : Int32) (a2 : Nat) (rest : List Value) (H : xH) : xk E d m_L_wouldStay Q 4 7 [some (.ref a0), some (.int a1), some (.ref a2), none] rest (.inr 14, H) = xr E d m_L_wouldStay Q (20, [some (.ref a0), some (.int a1), some (.ref a2), none], [], H) := by
  show xthr m_L_wouldStay Q (xr E d m_L_wouldStay Q) 4 [some (.ref a0), some (.int a1), some (.ref a2), none] 14 H = _
  unfold xthr
  rw [if_neg (by show ¬ (_ :: _ = []); exact List.cons_ne_nil _ _)]
  exact propext ⟨fun q => q.2, fun q => ⟨Nat.le_of_ble_eq_true rfl, q⟩⟩
theorem k_steersTo_14 (a0 : Nat) (a1 : Int32) (a2 : Nat) (rest : List Value) (H : xH) : xk E d m_L_steersTo Q 4 7 [some (.ref a0), some (.int a1), some (.ref a2), none] rest (.inr 14, H) = xr E d m_L_steersTo Q (13, [some (.ref a0), some (.int a1), some (.ref a2), none], [], H) := by
  show xthr m_L_steersTo Q (xr E d m_L_steersTo Q) 4 [some (.ref a0), some (.int a1), some (.ref a2), none] 14 H = _
  unfold xthr
  rw [if_neg (by show ¬ (_ :: _ = []); exact List.cons_ne_nil _ _)]
  exact propext ⟨fun q => q.2, fun q => ⟨Nat.le_of_ble_eq_true rfl, q⟩⟩
theorem k_steersTo_12 (a0 : Nat) (a1 : Int32) (a2 : Nat) (rest : List Value) (H : xH) : xk E d m_L_steersTo Q 4 7 [some (.ref a0), some (.int a1), some (.ref a2), none] rest (.inr 12, H) = xr E d m_L_steersTo Q (16, [some (.ref a0), some (.int a1), some (.ref a2), none], [], H) := by
  show xthr m_L_steersTo Q (xr E d m_L_steersTo Q) 4 [some (.ref a0), some (.int a1), some (.ref a2), none] 12 H = _
  unfold xthr
  rw [if_neg (by show ¬ (_ :: _ = []); exact List.cons_ne_nil _ _)]
  exact propext ⟨fun q => q.2, fun q => ⟨Nat.le_of_ble_eq_true rfl, q⟩⟩
theorem k_leader_12 (a0 : Nat) (a1 : Nat) (rest : List Value) (H : xH) : xk E d m_L_leader Q 3 6 [some (.ref a0), some (.ref a1), none] rest (.inr 12, H) = xr E d m_L_leader Q (12, [some (.ref a0), some (.ref a1), none], [], H) := by
  show xthr m_L_leader Q (xr E d m_L_leader Q) 3 [some (.ref a0), some (.ref a1), none] 12 H = _
  unfold xthr
  rw [if_neg (by show ¬ (_ :: _ = []); exact List.cons_ne_nil _ _)]
  exact propext ⟨fun q => q.2, fun q => ⟨Nat.le_of_ble_eq_true rfl, q⟩⟩
theorem k_setWind_14 (a0 : Nat) (a1 : Int32) (a2 : Int32) (a3 : Nat) (rest : List Value) (H : xH) : xk E d m_L_setWind Q 5 8 [some (.ref a0), some (.int a1), some (.int a2), some (.ref a3), none] rest (.inr 14, H) = xr E d m_L_setWind Q (15, [some (.ref a0), some (.int a1), some (.int a2), some (.ref a3), none], [], H) := by
  show xthr m_L_setWind Q (xr E d m_L_setWind Q) 5 [some (.ref a0), some (.int a1), some (.int a2), some (.ref a3), none] 14 H = _
  unfold xthr
  rw [if_neg (by show ¬ (_ :: _ = []); exact List.cons_ne_nil _ _)]
  exact propext ⟨fun q => q.2, fun q => ⟨Nat.le_of_ble_eq_true rfl, q⟩⟩
theorem k_setWind_13 (a0 : Nat) (a1 : Int32) (a2 : Int32) (a3 : Nat) (rest : List Value) (H : xH) : xk E d m_L_setWind Q 5 8 [some (.ref a0), some (.int a1), some (.int a2), some (.ref a3), none] rest (.inr 13, H) = xr E d m_L_setWind Q (19, [some (.ref a0), some (.int a1), some (.int a2), some (.ref a3), none], [], H) := by
  show xthr m_L_setWind Q (xr E d m_L_setWind Q) 5 [some (.ref a0), some (.int a1), some (.int a2), some (.ref a3), none] 13 H = _
  unfold xthr
  rw [if_neg (by show ¬ (_ :: _ = []); exact List.cons_ne_nil _ _)]
  exact propext ⟨fun q => q.2, fun q => ⟨Nat.le_of_ble_eq_true rfl, q⟩⟩
theorem k_jettison_14 (a0 : Nat) (a1 : Int32) (a2 : Int32) (a3 : Nat) (rest : List Value) (H : xH) : xk E d m_L_jettison Q 5 8 [some (.ref a0), some (.int a1), some (.int a2), some (.ref a3), none] rest (.inr 14, H) = xr E d m_L_jettison Q (15, [some (.ref a0), some (.int a1), some (.int a2), some (.ref a3), none], [], H) := by
  show xthr m_L_jettison Q (xr E d m_L_jettison Q) 5 [some (.ref a0), some (.int a1), some (.int a2), some (.ref a3), none] 14 H = _
  unfold xthr
  rw [if_neg (by show ¬ (_ :: _ = []); exact List.cons_ne_nil _ _)]
  exact propext ⟨fun q => q.2, fun q => ⟨Nat.le_of_ble_eq_true rfl, q⟩⟩
theorem k_jettison_13 (a0 : Nat) (a1 : Int32) (a2 : Int32) (a3 : Nat) (rest : List Value) (H : xH) : xk E d m_L_jettison Q 5 8 [some (.ref a0), some (.int a1), some (.int a2), some (.ref a3), none] rest (.inr 13, H) = xr E d m_L_jettison Q (19, [some (.ref a0), some (.int a1), some (.int a2), some (.ref a3), none], [], H) := by
  show xthr m_L_jettison Q (xr E d m_L_jettison Q) 5 [some (.ref a0), some (.int a1), some (.int a2), some (.ref a3), none] 13 H = _
  unfold xthr
  rw [if_neg (by show ¬ (_ :: _ = []); exact List.cons_ne_nil _ _)]
  exact propext ⟨fun q => q.2, fun q => ⟨Nat.le_of_ble_eq_true rfl, q⟩⟩
theorem k_jettison_12 (a0 : Nat) (a1 : Int32) (a2 : Int32) (a3 : Nat) (rest : List Value) (H : xH) : xk E d m_L_jettison Q 5 8 [some (.ref a0), some (.int a1), some (.int a2), some (.ref a3), none] rest (.inr 12, H) = xr E d m_L_jettison Q (23, [some (.ref a0), some (.int a1), some (.int a2), some (.ref a3), none], [], H) := by
  show xthr m_L_jettison Q (xr E d m_L_jettison Q) 5 [some (.ref a0), some (.int a1), some (.int a2), some (.ref a3), none] 12 H = _
  unfold xthr
  rw [if_neg (by show ¬ (_ :: _ = []); exact List.cons_ne_nil _ _)]
  exact propext ⟨fun q => q.2, fun q => ⟨Nat.le_of_ble_eq_true rfl, q⟩⟩
theorem k_calmKettle_14 (a0 : Nat) (a1 : Int32) (a2 : Int32) (a3 : Nat) (rest : List Value) (H : xH) : xk E d m_L_calmKettle Q 5 8 [some (.ref a0), some (.int a1), some (.int a2), some (.ref a3), none] rest (.inr 14, H) = xr E d m_L_calmKettle Q (15, [some (.ref a0), some (.int a1), some (.int a2), some (.ref a3), none], [], H) := by
  show xthr m_L_calmKettle Q (xr E d m_L_calmKettle Q) 5 [some (.ref a0), some (.int a1), some (.int a2), some (.ref a3), none] 14 H = _
  unfold xthr
  rw [if_neg (by show ¬ (_ :: _ = []); exact List.cons_ne_nil _ _)]
  exact propext ⟨fun q => q.2, fun q => ⟨Nat.le_of_ble_eq_true rfl, q⟩⟩
theorem k_calmKettle_13 (a0 : Nat) (a1 : Int32) (a2 : Int32) (a3 : Nat) (rest : List Value) (H : xH) : xk E d m_L_calmKettle Q 5 8 [some (.ref a0), some (.int a1), some (.int a2), some (.ref a3), none] rest (.inr 13, H) = xr E d m_L_calmKettle Q (19, [some (.ref a0), some (.int a1), some (.int a2), some (.ref a3), none], [], H) := by
  show xthr m_L_calmKettle Q (xr E d m_L_calmKettle Q) 5 [some (.ref a0), some (.int a1), some (.int a2), some (.ref a3), none] 13 H = _
  unfold xthr
  rw [if_neg (by show ¬ (_ :: _ = []); exact List.cons_ne_nil _ _)]
  exact propext ⟨fun q => q.2, fun q => ⟨Nat.le_of_ble_eq_true rfl, q⟩⟩
theorem k_sail_13 (a0 : Nat) (a1 : Int32) (a2 : Nat) (rest : List Value) (H : xH) : xk E d m_L_sail Q 4 7 [some (.ref a0), some (.int a1), some (.ref a2), none] rest (.inr 13, H) = xr E d m_L_sail Q (13, [some (.ref a0), some (.int a1), some (.ref a2), none], [], H) := by
  show xthr m_L_sail Q (xr E d m_L_sail Q) 4 [some (.ref a0), some (.int a1), some (.ref a2), none] 13 H = _
  unfold xthr
  rw [if_neg (by show ¬ (_ :: _ = []); exact List.cons_ne_nil _ _)]
  exact propext ⟨fun q => q.2, fun q => ⟨Nat.le_of_ble_eq_true rfl, q⟩⟩
theorem k_pointsBehind_14 (a0 : Nat) (a1 : Int32) (a2 : Int32) (a3 : Nat) (rest : List Value) (H : xH) : xk E d m_L_pointsBehind Q 5 8 [some (.ref a0), some (.int a1), some (.int a2), some (.ref a3), none] rest (.inr 14, H) = xr E d m_L_pointsBehind Q (15, [some (.ref a0), some (.int a1), some (.int a2), some (.ref a3), none], [], H) := by
  show xthr m_L_pointsBehind Q (xr E d m_L_pointsBehind Q) 5 [some (.ref a0), some (.int a1), some (.int a2), some (.ref a3), none] 14 H = _
  unfold xthr
  rw [if_neg (by show ¬ (_ :: _ = []); exact List.cons_ne_nil _ _)]
  exact propext ⟨fun q => q.2, fun q => ⟨Nat.le_of_ble_eq_true rfl, q⟩⟩
theorem k_pointsBehind_13 (a0 : Nat) (a1 : Int32) (a2 : Int32) (a3 : Nat) (rest : List Value) (H : xH) : xk E d m_L_pointsBehind Q 5 8 [some (.ref a0), some (.int a1), some (.int a2), some (.ref a3), none] rest (.inr 13, H) = xr E d m_L_pointsBehind Q (19, [some (.ref a0), some (.int a1), some (.int a2), some (.ref a3), none], [], H) := by
  show xthr m_L_pointsBehind Q (xr E d m_L_pointsBehind Q) 5 [some (.ref a0), some (.int a1), some (.int a2), some (.ref a3), none] 13 H = _
  unfold xthr
  rw [if_neg (by show ¬ (_ :: _ = []); exact List.cons_ne_nil _ _)]
  exact propext ⟨fun q => q.2, fun q => ⟨Nat.le_of_ble_eq_true rfl, q⟩⟩
theorem k_hoursUntilPoints_14 (a0 : Nat) (a1 : Int32) (a2 : Nat) (rest : List Value) (H : xH) : xk E d m_L_hoursUntilPoints Q 4 7 [some (.ref a0), some (.int a1), some (.ref a2), none] rest (.inr 14, H) = xr E d m_L_hoursUntilPoints Q (13, [some (.ref a0), some (.int a1), some (.ref a2), none], [], H) := by
  show xthr m_L_hoursUntilPoints Q (xr E d m_L_hoursUntilPoints Q) 4 [some (.ref a0), some (.int a1), some (.ref a2), none] 14 H = _
  unfold xthr
  rw [if_neg (by show ¬ (_ :: _ = []); exact List.cons_ne_nil _ _)]
  exact propext ⟨fun q => q.2, fun q => ⟨Nat.le_of_ble_eq_true rfl, q⟩⟩
theorem k_bestWind_14 (a0 : Nat) (a1 : Int32) (a2 : Int32) (a3 : Nat) (rest : List Value) (H : xH) : xk E d m_L_bestWind Q 5 8 [some (.ref a0), some (.int a1), some (.int a2), some (.ref a3), none] rest (.inr 14, H) = xr E d m_L_bestWind Q (15, [some (.ref a0), some (.int a1), some (.int a2), some (.ref a3), none], [], H) := by
  show xthr m_L_bestWind Q (xr E d m_L_bestWind Q) 5 [some (.ref a0), some (.int a1), some (.int a2), some (.ref a3), none] 14 H = _
  unfold xthr
  rw [if_neg (by show ¬ (_ :: _ = []); exact List.cons_ne_nil _ _)]
  exact propext ⟨fun q => q.2, fun q => ⟨Nat.le_of_ble_eq_true rfl, q⟩⟩
theorem k_bestWind_13 (a0 : Nat) (a1 : Int32) (a2 : Int32) (a3 : Nat) (rest : List Value) (H : xH) : xk E d m_L_bestWind Q 5 8 [some (.ref a0), some (.int a1), some (.int a2), some (.ref a3), none] rest (.inr 13, H) = xr E d m_L_bestWind Q (19, [some (.ref a0), some (.int a1), some (.int a2), some (.ref a3), none], [], H) := by
  show xthr m_L_bestWind Q (xr E d m_L_bestWind Q) 5 [some (.ref a0), some (.int a1), some (.int a2), some (.ref a3), none] 13 H = _
  unfold xthr
  rw [if_neg (by show ¬ (_ :: _ = []); exact List.cons_ne_nil _ _)]
  exact propext ⟨fun q => q.2, fun q => ⟨Nat.le_of_ble_eq_true rfl, q⟩⟩
end CATCH
