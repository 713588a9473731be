/-! ===== the bay's text is cut as it was put together ===== -/
section TOKS
variable {E : xE} {co rw' : Nat} {kx ky kz ux uy hx hy hz : Nat → Nat} {nk nc nn : Nat}
theorem adj_t {t : tok} {r : List tok} {c : Nat} (h : t.1 = true ∨ tcl t = 0) (hr : adjF (tcl t) r) : adjF c (t :: r) := by
  refine ⟨?_, hr⟩
  rcases h with h | h
  · exact Or.inl h
  · rw [h]
    by_cases e : c = 0
    · exact Or.inr (Or.inl e)
    · exact Or.inr (Or.inr e)
theorem adj_l {A B : List tok} {c : Nat} (h : adjF c A) (hB : ∀ c, adjF c B) : adjF c (A ++ B) := adj_app h (hB _)
theorem tcl_w {b : Bool} {k v : Nat} (h : 100 ≤ k) : tcl (b, k, v) = 1 := by
  unfold tcl
  rw [if_neg (by show ¬ k = 2; omega), if_neg (by show ¬ k = 3; omega), if_pos h]
theorem tcl_s {b : Bool} {k v : Nat} (h : k < 100) (h2 : ¬ k = 2) (h3 : ¬ k = 3) : tcl (b, k, v) = 0 := by
  unfold tcl
  rw [if_neg h2, if_neg h3, if_neg (by show ¬ 100 ≤ k; omega)]
theorem sgk_ad {k : Nat} (h1 : ¬ k < 4) (h2 : k < 14) : sgb k = true ∨ tcl (sgb k, sgk k, 0) = 0 := by
  rcases (show k = 4 ∨ k = 5 ∨ k = 6 ∨ k = 7 ∨ k = 8 ∨ k = 9 ∨ k = 10 ∨ k = 11 ∨ k = 12 ∨ k = 13 by omega) with r | r | r | r | r | r | r | r | r | r <;> subst r <;> decide
theorem rtk_adj : ∀ (n fr dp : Nat) (free bl : Bool) (c : Nat), (bl = true ∨ c = 0) → adjF c (rtk E n fr dp free bl)
  | 0, _, _, _, _, _, _ => trivial
  | n + 1, fr, dp, free, bl, c, h => by
    have hle := rud_le (E := E) fr dp
    have ih := fun fr dp free bl c h => rtk_adj n fr dp free bl c h
    have iT := fun fr dp free c => ih fr dp free true c (Or.inl rfl)
    have i0 := fun fr dp free bl => ih fr dp free bl 0 (Or.inr rfl)
    have hd : ∀ (t : tok) (r : List tok), t.1 = bl → adjF (tcl t) r → adjF c (t :: r) := fun t r e hr => ⟨by rw [e]; exact h.elim Or.inl (fun q => Or.inr (Or.inl q)), hr⟩
    have w : ∀ {b : Bool} {k v : Nat}, 100 ≤ k → tcl (b, k, v) = 1 := tcl_w
    unfold rtk
    by_cases c0 : rud E fr dp = 0
    · rw [if_pos c0]; exact hd _ _ rfl trivial
    rw [if_neg c0]
    by_cases c1 : rud E fr dp = 1
    · rw [if_pos c1]; exact hd _ _ rfl trivial
    rw [if_neg c1]
    by_cases c2 : rud E fr dp = 2
    · rw [if_pos c2]; exact hd _ _ rfl (i0 _ _ _ _)
    rw [if_neg c2]
    by_cases c3 : rud E fr dp = 3
    · rw [if_pos c3]; exact hd _ _ rfl (iT _ _ _ _)
    rw [if_neg c3]
    have cl : ∀ c, adjF c [(false, 41, 0)] := fun c => adj_t (Or.inr rfl) trivial
    by_cases c14 : rud E fr dp = 14
    · rw [if_pos c14]
      exact hd _ _ rfl (adj_t (Or.inr rfl) (adj_l (i0 _ _ _ _) fun c => adj_t (Or.inr rfl) (adj_l (i0 _ _ _ _) cl)))
    rw [if_neg c14]
    by_cases c15 : rud E fr dp = 15
    · rw [if_pos c15]
      exact hd _ _ rfl (adj_t (Or.inr rfl) (adj_l (i0 _ _ _ _) fun c => adj_t (Or.inr rfl) (adj_l (i0 _ _ _ _) cl)))
    rw [if_neg c15]
    by_cases c16 : rud E fr dp = 16
    · rw [if_pos c16]
      by_cases f : free = true
      · rw [if_pos f]
        exact hd _ _ rfl (adj_l (iT _ _ _ _) fun c => adj_t (Or.inl rfl) (adj_l (iT _ _ _ _) fun c => adj_t (Or.inl rfl) (iT _ _ _ _)))
      · rw [if_neg f]
        exact hd _ _ rfl ⟨Or.inr (Or.inl rfl), adj_l (iT _ _ _ _) fun c => adj_t (Or.inl rfl) (adj_l (iT _ _ _ _) fun c => adj_t (Or.inl rfl) (adj_l (iT _ _ _ _) cl))⟩
    rw [if_neg c16]
    have sg := sgk_ad (k := rud E fr dp) (by omega) (by omega)
    have after : adjF (tcl (sgb (rud E fr dp), sgk (rud E fr dp), 0)) (rtk E n (fr * 2 + 4) (dp + 1) false (sgb (rud E fr dp))) := ih _ _ _ _ _ sg
    by_cases f : free = true
    · rw [if_pos f]
      exact adj_l (ih _ _ _ _ _ h) fun c => adj_t sg after
    · rw [if_neg f]
      exact hd _ _ rfl (adj_l (i0 _ _ _ _) fun c => adj_t sg (adj_l after cl))
theorem allO_c {t : tok} {r : List tok} (h : tkO t) (hr : allO r) : allO (t :: r) := fun x hx => by
  rcases List.mem_cons.mp hx with e | e
  · rw [e]; exact h
  · exact hr x e
theorem allO_n : allO [] := fun t ht => by cases ht
theorem tk_w {b : Bool} {k v : Nat} (h : 100 ≤ k) (h2 : k < 126) : tkO (b, k, v) := Or.inr (Or.inr (Or.inl ⟨h, h2⟩))
theorem tk_s {b : Bool} {k v : Nat} (h : k ∈ sgs) : tkO (b, k, v) := Or.inr (Or.inr (Or.inr h))
theorem tk_n {b : Bool} {v : Nat} (h : v ≤ 9999) : tkO (b, 2, v) := Or.inl ⟨rfl, h⟩
theorem rtk_all : ∀ (n fr dp : Nat) (free bl : Bool), allO (rtk E n fr dp free bl)
  | 0, _, _, _, _ => allO_n
  | n + 1, fr, dp, free, bl => by
    have hle := rud_le (E := E) fr dp
    have ih := fun fr dp free bl => rtk_all n fr dp free bl
    have cl : allO [(false, 41, 0)] := allO_c (tk_s (by decide)) allO_n
    unfold rtk
    by_cases c0 : rud E fr dp = 0
    · rw [if_pos c0]; exact allO_c (tk_n (run_0 c0)) allO_n
    rw [if_neg c0]
    by_cases c1 : rud E fr dp = 1
    · rw [if_pos c1]; exact allO_c (tk_w (by omega) (by have := run_1 c1; omega)) allO_n
    rw [if_neg c1]
    by_cases c2 : rud E fr dp = 2
    · rw [if_pos c2]; exact allO_c (tk_s (by decide)) (ih _ _ _ _)
    rw [if_neg c2]
    by_cases c3 : rud E fr dp = 3
    · rw [if_pos c3]; exact allO_c (tk_w (by omega) (by omega)) (ih _ _ _ _)
    rw [if_neg c3]
    by_cases c14 : rud E fr dp = 14
    · rw [if_pos c14]
      exact allO_c (tk_w (by omega) (by omega)) (allO_c (tk_s (by decide)) (allO_app (ih _ _ _ _) (allO_c (tk_s (by decide)) (allO_app (ih _ _ _ _) cl))))
    rw [if_neg c14]
    by_cases c15 : rud E fr dp = 15
    · rw [if_pos c15]
      exact allO_c (tk_w (by omega) (by omega)) (allO_c (tk_s (by decide)) (allO_app (ih _ _ _ _) (allO_c (tk_s (by decide)) (allO_app (ih _ _ _ _) cl))))
    rw [if_neg c15]
    by_cases c16 : rud E fr dp = 16
    · rw [if_pos c16]
      by_cases f : free = true
      · rw [if_pos f]
        exact allO_c (tk_w (by omega) (by omega)) (allO_app (ih _ _ _ _) (allO_c (tk_w (by omega) (by omega)) (allO_app (ih _ _ _ _) (allO_c (tk_w (by omega) (by omega)) (ih _ _ _ _)))))
      · rw [if_neg f]
        exact allO_c (tk_s (by decide)) (allO_c (tk_w (by omega) (by omega)) (allO_app (ih _ _ _ _) (allO_c (tk_w (by omega) (by omega)) (allO_app (ih _ _ _ _) (allO_c (tk_w (by omega) (by omega)) (allO_app (ih _ _ _ _) cl))))))
    rw [if_neg c16]
    have sg : ∀ b, tkO (b, sgk (rud E fr dp), 0) := fun b => by
      rcases sgk_in (k := rud E fr dp) (by omega) (by omega) with r | r | r | r | r | r | r | r | r | r <;> rw [r]
      · exact tk_s (by decide)
      · exact tk_s (by decide)
      · exact tk_s (by decide)
      · exact tk_s (by decide)
      · exact tk_s (by decide)
      · exact tk_s (by decide)
      · exact tk_s (by decide)
      · exact tk_s (by decide)
      · exact tk_w (by omega) (by omega)
      · exact tk_w (by omega) (by omega)
    by_cases f : free = true
    · rw [if_pos f]
      exact allO_app (ih _ _ _ _) (allO_c (sg _) (ih _ _ _ _))
    · rw [if_neg f]
      exact allO_c (tk_s (by decide)) (allO_app (ih _ _ _ _) (allO_c (sg _) (allO_app (ih _ _ _ _) cl)))
/-- a line: it stands behind a line, ends with a sign -/
def lnO (L : List tok) : Prop := allO L ∧ adjF 0 L ∧ ∀ c, c = 0 → lcl c L = 0
theorem lnO_app {A B : List tok} (ha : lnO A) (hb : lnO B) : lnO (A ++ B) :=
  ⟨allO_app ha.1 hb.1, adj_app ha.2.1 (by rw [ha.2.2 0 rfl]; exact hb.2.1), fun c hc => by rw [lcl_app, ha.2.2 c hc]; exact hb.2.2 0 rfl⟩
theorem lnO_cat {f : Nat → List tok} : ∀ m i, (∀ k, i ≤ k → k < i + m → lnO (f k)) → lnO (catL f i m)
  | 0, _, _ => ⟨allO_n, trivial, fun _ h => h⟩
  | m + 1, i, h => lnO_app (h i (by omega) (by omega)) (lnO_cat m (i + 1) fun k h1 h2 => h k (by omega) (by omega))
theorem lnO_bay (h1 : co ≤ 9999) (h2 : rw' ≤ 9999) : lnO (bayT co rw') :=
  ⟨allO_c (tk_w (by omega) (by omega)) (allO_c (tk_n h1) (allO_c (tk_s (by decide)) (allO_c (tk_n h2) (allO_c (tk_s (by decide)) allO_n)))),
    ⟨Or.inr (Or.inl rfl), Or.inl rfl, adj_t (Or.inr rfl) ⟨Or.inr (Or.inl rfl), adj_t (Or.inr rfl) trivial⟩⟩, fun _ _ => rfl⟩
theorem lnO_ket {x y z : Nat} (h1 : x ≤ 9999) (h2 : y ≤ 9999) (h3 : z ≤ 9999) : lnO (ketT x y z) :=
  ⟨allO_c (tk_w (by omega) (by omega)) (allO_c (tk_n h1) (allO_c (tk_s (by decide)) (allO_c (tk_n h2) (allO_c (tk_w (by omega) (by omega)) (allO_c (tk_n h3) (allO_c (tk_s (by decide)) allO_n)))))),
    ⟨Or.inr (Or.inl rfl), Or.inl rfl, adj_t (Or.inr rfl) ⟨Or.inr (Or.inl rfl), Or.inl rfl, Or.inl rfl, adj_t (Or.inr rfl) trivial⟩⟩, fun _ _ => rfl⟩
theorem lnO_cus {x y : Nat} (h1 : x ≤ 9999) (h2 : y ≤ 9999) : lnO (cusT x y) :=
  ⟨allO_c (tk_w (by omega) (by omega)) (allO_c (tk_n h1) (allO_c (tk_s (by decide)) (allO_c (tk_n h2) (allO_c (tk_s (by decide)) allO_n)))),
    ⟨Or.inr (Or.inl rfl), Or.inl rfl, adj_t (Or.inr rfl) ⟨Or.inr (Or.inl rfl), adj_t (Or.inr rfl) trivial⟩⟩, fun _ _ => rfl⟩
theorem lnO_cli {c x y z : Nat} (h0 : c < 6) (h1 : x ≤ 9999) (h2 : y ≤ 9999) (h3 : z ≤ 9999) : lnO (cliT E c x y z) := by
  refine ⟨allO_app (allO_c (tk_w (by omega) (by omega)) (allO_c (Or.inr (Or.inl ⟨rfl, h0⟩)) (allO_c (tk_w (by omega) (by omega)) (allO_c (tk_n h1) (allO_c (tk_s (by decide)) (allO_c (tk_n h2) (allO_c (tk_w (by omega) (by omega)) (allO_c (tk_n h3) (allO_c (tk_w (by omega) (by omega)) allO_n))))))))) (allO_app (rtk_all _ _ _ _ _) (allO_c (tk_s (by decide)) allO_n)), ?_, fun c _ => ?_⟩
  · refine adj_app ⟨Or.inr (Or.inl rfl), Or.inl rfl, Or.inl rfl, Or.inl rfl, adj_t (Or.inr rfl) ⟨Or.inr (Or.inl rfl), Or.inl rfl, Or.inl rfl, Or.inl rfl, trivial⟩⟩ ?_
    exact adj_l (rtk_adj _ _ _ _ _ _ (Or.inl rfl)) fun c => adj_t (Or.inr rfl) trivial
  · unfold cliT
    rw [lcl_app, lcl_app]; rfl
theorem lnO_book (hO : bayO E co rw' kx ky kz ux uy hx hy hz nk nc nn) : lnO (bookT E co rw' kx ky kz ux uy hx hy hz nk nc nn) := by
  obtain ⟨o1, o2, o3, o4, o5, o6, o7, o8, -⟩ := hO
  refine lnO_app (lnO_bay (by omega) (by omega)) (lnO_app (lnO_cat _ _ fun k _ hk => ?_) (lnO_app (lnO_cat _ _ fun k _ hk => ?_) (lnO_cat _ _ fun c _ hc => ?_)))
  · have := o6 k (by omega)
    exact lnO_ket (by omega) (by omega) (by omega)
  · have := o7 k (by omega)
    exact lnO_cus (by omega) (by omega)
  · have := o8 c (by omega)
    exact lnO_cli (by omega) (by omega) (by omega) (by omega)
theorem wby_lt : ∀ i, i < 26 → ∀ c ∈ wby i, c < 128 := by decide
theorem txt_128 : ∀ (L : List tok), allO L → ∀ c ∈ txt L, c < 128
  | [], _ => fun c hc => by cases hc
  | t :: r, h => fun c hc => by
    have ih := txt_128 r fun x hx => h x (List.mem_cons_of_mem _ hx)
    have ht := h t List.mem_cons_self
    rcases List.mem_append.mp hc with hb | hc
    · unfold bln at hb
      split at hb
      · rw [List.mem_singleton] at hb; omega
      · cases hb
    rcases List.mem_append.mp hc with hb | hc
    · unfold tby at hb
      by_cases e2 : t.2.1 = 2
      · rw [if_pos e2] at hb
        rcases ht with q | q | q | q
        · have := (dc_ok q.2).2.2 c hb; omega
        · omega
        · omega
        · rw [e2] at q; exact absurd q (by decide)
      rw [if_neg e2] at hb
      by_cases e3 : t.2.1 = 3
      · rw [if_pos e3] at hb
        rcases ht with q | q | q | q
        · omega
        · rcases List.mem_cons.mp hb with z | z
          · omega
          · rw [List.mem_singleton] at z; omega
        · omega
        · rw [e3] at q; exact absurd q (by decide)
      rw [if_neg e3] at hb
      by_cases e4 : 100 ≤ t.2.1
      · rw [if_pos e4] at hb
        rcases ht with q | q | q | q
        · omega
        · omega
        · exact wby_lt _ (by omega) c hb
        · have := (sg_in _ q).2.2.2.2.2.2.2; omega
      · rw [if_neg e4] at hb
        rw [List.mem_singleton] at hb
        rcases ht with q | q | q | q
        · omega
        · omega
        · omega
        · have := (sg_in _ q).1; omega
    · exact ih c hc
theorem book_pos : 0 < (txt (bookT E co rw' kx ky kz ux uy hx hy hz nk nc nn)).length := by
  unfold bookT
  rw [txt_app, List.length_append]
  have : 1 ≤ (txt (bayT co rw')).length := by
    show 1 ≤ (bln false ++ (tby (false, 100, 0) ++ txt [(true, 2, co), (false, 44, 0), (false, 2, rw'), (false, 59, 0)])).length
    rw [List.length_append, List.length_append, show (tby (false, 100, 0)).length = 3 from rfl]
    omega
  omega
end TOKS
