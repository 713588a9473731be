/-! ===== the law's reckoning is made: a thing's cell ===== -/
section TURN
variable {E : xE} {d D : Nat} {Q : xR → Prop} {H X Z : xH} {p v n m i c rk ru rc tn k cx cy : Nat} {x : Int32} {L : List Nat} {j4 j5 j6 : Option Value}
theorem si_2 (hE : E.1 ≤ 260) (hp : H.1 p = simF (drC E) (drR E) 0 0 0 rk ru rc .null) (hk : k < tn) (ht : tn ≤ 10) : xr E (d + 5) m_S_init Q (73, [some (.ref p), some (.retAddr 0), some (.int (nI tn)), some (.int (nI k)), j4, j5, j6], [], H) = xr E (d + 5) m_S_init Q (113, [some (.ref p), some (.retAddr 0), some (.int (nI tn)), some (.int (nI k)), some (.int (cel E (3 + k))), some (.int (nI (bel (cel E (3 + k) >>> (1 &&& 31)) (drC E)))), some (.int (nI (bel (cel E (3 + k) >>> (4 &&& 31)) (drR E))))], [], H) := by
  have hc := drC_b (E := E)
  have hr := drR_b (E := E)
  have h1 : ∀ (Q : xR → Prop), xcall E xprog (d + 5) 168 [.retAddr 0, .int (nI (3 + k))] H Q = Q (.inl (some (.int (cel E (3 + k)))), H) := fun Q => f_L_cell hE (by omega)
  have h2 : ∀ (Q : xR → Prop) (v : Int32), xcall E xprog (d + 5) 167 [.int v, .int (nI (drC E))] H Q = Q (.inl (some (.int (nI (bel v (drC E))))), H) := fun Q v => f_L_below v (by omega) (by omega)
  have h3 : ∀ (Q : xR → Prop) (v : Int32), xcall E xprog (d + 5) 167 [.int v, .int (nI (drR E))] H Q = Q (.inl (some (.int (nI (bel v (drR E))))), H) := fun Q v => f_L_below v (by omega) (by omega)
  rw [s_S_init_73]
  simp only [↓reduceIte, s_S_init_74, s_S_init_75, s_S_init_78, s_S_init_79, s_S_init_80, s_S_init_81, s_S_init_82, s_S_init_85, s_S_init_87, s_S_init_89, s_S_init_90, s_S_init_91, s_S_init_92, s_S_init_95, s_S_init_98, s_S_init_100, s_S_init_102, s_S_init_103, s_S_init_104, s_S_init_105, s_S_init_108, s_S_init_111, not_false_eq_true, Nat.reduceLT, Nat.reduceAdd, true_and, and_true, if_true, if_false, ite_true, ite_false, xnb_0, xnb_1, xnb_b, xk_v, xk_n, xf_of hp, xll_10, xlg_10_0, xlg_10_1, xlg_10_2, xlg_10_3, xlg_10_4, xlg_10_5, xlg_10_6, xlg_10_7, xlg_10_8, nlt hk (show tn < 2147483648 by omega), show (3 : Int32) + nI k = nI (3 + k) from nI_ad 3 k, h1, h2, h3]
theorem si_9 : xr E (d + 5) m_S_init Q (247, [some (.ref p), some (.retAddr 0), some (.int (nI tn)), some (.int (nI k)), some (.int x), some (.int (nI cx)), some (.int (nI cy))], [], H) = xr E (d + 5) m_S_init Q (73, [some (.ref p), some (.retAddr 0), some (.int (nI tn)), some (.int (nI (k + 1))), some (.int x), some (.int (nI cx)), some (.int (nI cy))], [], H) := by
  simp only [s_S_init_247, s_S_init_250, show nI k + 1 = nI (k + 1) from nI_ad k 1]
end TURN
