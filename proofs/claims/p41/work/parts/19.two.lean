/-! ===== the other bay's picture, rows in order ===== -/
section SHTWO
variable {H : xH} {B C K K' K2 : Nat} {b : Nat → Nat → Int32} {nm : Nat → Int64} {s : Nat → Int32} {a a' : Nat → Nat → Int32} {t t' : Nat → Int32} {ms sk : Nat → Int32} {h : Int32}
theorem upr_c {r q : Nat} {f g : Nat → Int32} (n : ¬ r = q) : upr (upr a r f) q g = upr (upr a q g) r f := by
  funext i
  unfold upr
  by_cases p : i = q
  · rw [if_pos p, if_neg (by omega), if_pos p]
  · rw [if_neg p]
    by_cases p' : i = r
    · rw [if_pos p', if_pos p']
    · rw [if_neg p', if_neg p', if_neg p]
theorem sH_kYo (hY : kY H C K2 a' t') (hc : 42 < C) (hb : C + 9 < B) : kY (sH H B K a t ms sk h) C K2 a' t' := by
  obtain ⟨y0, y1, y2, y3, y4, y5, y6, y7, y8, y9⟩ := id hY
  refine ⟨?_, ?_, ?_, ?_, ?_, ?_, ?_, ?_, ?_, ?_⟩ <;> rw [sH_o (by omega) _ (Or.inr (Or.inl (by omega)))] <;> assumption
theorem oF (hY : kY H C K2 a' t') (hc : 42 < C) (hb : C + 9 < B) : xfls (sH H B K a t ms sk h) C 0 = [.ref 40, .ref (C + 1), .ref (C + 2), .ref (C + 3), .ref (C + 4), .ref (C + 5), .ref (C + 6), .ref (C + 7), .ref (C + 8), .ref (C + 9), .ref K2, .int (t' 0), .int (t' 1), .int (t' 2)] := xf_of (sH_kYo (K := K) (a := a) (t := t) (ms := ms) (sk := sk) (h := h) hY hc hb).1
theorem oC (hY : kY H C K2 a' t') (hc : 42 < C) (hb : C + 9 < B) : xcl (sH H B K a t ms sk h) C = 0 := xc_of (sH_kYo (K := K) (a := a) (t := t) (ms := ms) (sk := sk) (h := h) hY hc hb).1
theorem ol_0 (hY : kY H C K2 a' t') (hc : 42 < C) (hb : C + 9 < B) : xlenI (sH H B K a t ms sk h) (C + 1) = 6 := xIl_of (sH_kYo (K := K) (a := a) (t := t) (ms := ms) (sk := sk) (h := h) hY hc hb).2.1
theorem of_0 (hY : kY H C K2 a' t') (hc : 42 < C) (hb : C + 9 < B) : xfnI (sH H B K a t ms sk h) (C + 1) = a' 0 := xIf_of (sH_kYo (K := K) (a := a) (t := t) (ms := ms) (sk := sk) (h := h) hY hc hb).2.1
theorem ol_1 (hY : kY H C K2 a' t') (hc : 42 < C) (hb : C + 9 < B) : xlenI (sH H B K a t ms sk h) (C + 2) = 6 := xIl_of (sH_kYo (K := K) (a := a) (t := t) (ms := ms) (sk := sk) (h := h) hY hc hb).2.2.1
theorem of_1 (hY : kY H C K2 a' t') (hc : 42 < C) (hb : C + 9 < B) : xfnI (sH H B K a t ms sk h) (C + 2) = a' 1 := xIf_of (sH_kYo (K := K) (a := a) (t := t) (ms := ms) (sk := sk) (h := h) hY hc hb).2.2.1
theorem ol_2 (hY : kY H C K2 a' t') (hc : 42 < C) (hb : C + 9 < B) : xlenI (sH H B K a t ms sk h) (C + 3) = 6 := xIl_of (sH_kYo (K := K) (a := a) (t := t) (ms := ms) (sk := sk) (h := h) hY hc hb).2.2.2.1
theorem of_2 (hY : kY H C K2 a' t') (hc : 42 < C) (hb : C + 9 < B) : xfnI (sH H B K a t ms sk h) (C + 3) = a' 2 := xIf_of (sH_kYo (K := K) (a := a) (t := t) (ms := ms) (sk := sk) (h := h) hY hc hb).2.2.2.1
theorem ol_3 (hY : kY H C K2 a' t') (hc : 42 < C) (hb : C + 9 < B) : xlenI (sH H B K a t ms sk h) (C + 4) = 6 := xIl_of (sH_kYo (K := K) (a := a) (t := t) (ms := ms) (sk := sk) (h := h) hY hc hb).2.2.2.2.1
theorem of_3 (hY : kY H C K2 a' t') (hc : 42 < C) (hb : C + 9 < B) : xfnI (sH H B K a t ms sk h) (C + 4) = a' 3 := xIf_of (sH_kYo (K := K) (a := a) (t := t) (ms := ms) (sk := sk) (h := h) hY hc hb).2.2.2.2.1
theorem ol_4 (hY : kY H C K2 a' t') (hc : 42 < C) (hb : C + 9 < B) : xlenI (sH H B K a t ms sk h) (C + 5) = 6 := xIl_of (sH_kYo (K := K) (a := a) (t := t) (ms := ms) (sk := sk) (h := h) hY hc hb).2.2.2.2.2.1
theorem of_4 (hY : kY H C K2 a' t') (hc : 42 < C) (hb : C + 9 < B) : xfnI (sH H B K a t ms sk h) (C + 5) = a' 4 := xIf_of (sH_kYo (K := K) (a := a) (t := t) (ms := ms) (sk := sk) (h := h) hY hc hb).2.2.2.2.2.1
theorem ol_5 (hY : kY H C K2 a' t') (hc : 42 < C) (hb : C + 9 < B) : xlenI (sH H B K a t ms sk h) (C + 6) = 6 := xIl_of (sH_kYo (K := K) (a := a) (t := t) (ms := ms) (sk := sk) (h := h) hY hc hb).2.2.2.2.2.2.1
theorem of_5 (hY : kY H C K2 a' t') (hc : 42 < C) (hb : C + 9 < B) : xfnI (sH H B K a t ms sk h) (C + 6) = a' 5 := xIf_of (sH_kYo (K := K) (a := a) (t := t) (ms := ms) (sk := sk) (h := h) hY hc hb).2.2.2.2.2.2.1
theorem ol_6 (hY : kY H C K2 a' t') (hc : 42 < C) (hb : C + 9 < B) : xlenI (sH H B K a t ms sk h) (C + 7) = 6 := xIl_of (sH_kYo (K := K) (a := a) (t := t) (ms := ms) (sk := sk) (h := h) hY hc hb).2.2.2.2.2.2.2.1
theorem of_6 (hY : kY H C K2 a' t') (hc : 42 < C) (hb : C + 9 < B) : xfnI (sH H B K a t ms sk h) (C + 7) = a' 6 := xIf_of (sH_kYo (K := K) (a := a) (t := t) (ms := ms) (sk := sk) (h := h) hY hc hb).2.2.2.2.2.2.2.1
theorem ol_7 (hY : kY H C K2 a' t') (hc : 42 < C) (hb : C + 9 < B) : xlenI (sH H B K a t ms sk h) (C + 8) = 6 := xIl_of (sH_kYo (K := K) (a := a) (t := t) (ms := ms) (sk := sk) (h := h) hY hc hb).2.2.2.2.2.2.2.2.1
theorem of_7 (hY : kY H C K2 a' t') (hc : 42 < C) (hb : C + 9 < B) : xfnI (sH H B K a t ms sk h) (C + 8) = a' 7 := xIf_of (sH_kYo (K := K) (a := a) (t := t) (ms := ms) (sk := sk) (h := h) hY hc hb).2.2.2.2.2.2.2.2.1
theorem ol_8 (hY : kY H C K2 a' t') (hc : 42 < C) (hb : C + 9 < B) : xlenI (sH H B K a t ms sk h) (C + 9) = 6 := xIl_of (sH_kYo (K := K) (a := a) (t := t) (ms := ms) (sk := sk) (h := h) hY hc hb).2.2.2.2.2.2.2.2.2
theorem of_8 (hY : kY H C K2 a' t') (hc : 42 < C) (hb : C + 9 < B) : xfnI (sH H B K a t ms sk h) (C + 9) = a' 8 := xIf_of (sH_kYo (K := K) (a := a) (t := t) (ms := ms) (sk := sk) (h := h) hY hc hb).2.2.2.2.2.2.2.2.2
theorem uc_1_0 {f g : Nat → Int32} : upr (upr a 1 f) 0 g = upr (upr a 0 g) 1 f := upr_c (by decide)
theorem uc_2_0 {f g : Nat → Int32} : upr (upr a 2 f) 0 g = upr (upr a 0 g) 2 f := upr_c (by decide)
theorem uc_2_1 {f g : Nat → Int32} : upr (upr a 2 f) 1 g = upr (upr a 1 g) 2 f := upr_c (by decide)
theorem uc_3_0 {f g : Nat → Int32} : upr (upr a 3 f) 0 g = upr (upr a 0 g) 3 f := upr_c (by decide)
theorem uc_3_1 {f g : Nat → Int32} : upr (upr a 3 f) 1 g = upr (upr a 1 g) 3 f := upr_c (by decide)
theorem uc_3_2 {f g : Nat → Int32} : upr (upr a 3 f) 2 g = upr (upr a 2 g) 3 f := upr_c (by decide)
theorem uc_4_0 {f g : Nat → Int32} : upr (upr a 4 f) 0 g = upr (upr a 0 g) 4 f := upr_c (by decide)
theorem uc_4_1 {f g : Nat → Int32} : upr (upr a 4 f) 1 g = upr (upr a 1 g) 4 f := upr_c (by decide)
theorem uc_4_2 {f g : Nat → Int32} : upr (upr a 4 f) 2 g = upr (upr a 2 g) 4 f := upr_c (by decide)
theorem uc_4_3 {f g : Nat → Int32} : upr (upr a 4 f) 3 g = upr (upr a 3 g) 4 f := upr_c (by decide)
theorem uc_5_0 {f g : Nat → Int32} : upr (upr a 5 f) 0 g = upr (upr a 0 g) 5 f := upr_c (by decide)
theorem uc_5_1 {f g : Nat → Int32} : upr (upr a 5 f) 1 g = upr (upr a 1 g) 5 f := upr_c (by decide)
theorem uc_5_2 {f g : Nat → Int32} : upr (upr a 5 f) 2 g = upr (upr a 2 g) 5 f := upr_c (by decide)
theorem uc_5_3 {f g : Nat → Int32} : upr (upr a 5 f) 3 g = upr (upr a 3 g) 5 f := upr_c (by decide)
theorem uc_5_4 {f g : Nat → Int32} : upr (upr a 5 f) 4 g = upr (upr a 4 g) 5 f := upr_c (by decide)
theorem uc_6_0 {f g : Nat → Int32} : upr (upr a 6 f) 0 g = upr (upr a 0 g) 6 f := upr_c (by decide)
theorem uc_6_1 {f g : Nat → Int32} : upr (upr a 6 f) 1 g = upr (upr a 1 g) 6 f := upr_c (by decide)
theorem uc_6_2 {f g : Nat → Int32} : upr (upr a 6 f) 2 g = upr (upr a 2 g) 6 f := upr_c (by decide)
theorem uc_6_3 {f g : Nat → Int32} : upr (upr a 6 f) 3 g = upr (upr a 3 g) 6 f := upr_c (by decide)
theorem uc_6_4 {f g : Nat → Int32} : upr (upr a 6 f) 4 g = upr (upr a 4 g) 6 f := upr_c (by decide)
theorem uc_6_5 {f g : Nat → Int32} : upr (upr a 6 f) 5 g = upr (upr a 5 g) 6 f := upr_c (by decide)
theorem uc_7_0 {f g : Nat → Int32} : upr (upr a 7 f) 0 g = upr (upr a 0 g) 7 f := upr_c (by decide)
theorem uc_7_1 {f g : Nat → Int32} : upr (upr a 7 f) 1 g = upr (upr a 1 g) 7 f := upr_c (by decide)
theorem uc_7_2 {f g : Nat → Int32} : upr (upr a 7 f) 2 g = upr (upr a 2 g) 7 f := upr_c (by decide)
theorem uc_7_3 {f g : Nat → Int32} : upr (upr a 7 f) 3 g = upr (upr a 3 g) 7 f := upr_c (by decide)
theorem uc_7_4 {f g : Nat → Int32} : upr (upr a 7 f) 4 g = upr (upr a 4 g) 7 f := upr_c (by decide)
theorem uc_7_5 {f g : Nat → Int32} : upr (upr a 7 f) 5 g = upr (upr a 5 g) 7 f := upr_c (by decide)
theorem uc_7_6 {f g : Nat → Int32} : upr (upr a 7 f) 6 g = upr (upr a 6 g) 7 f := upr_c (by decide)
theorem uc_8_0 {f g : Nat → Int32} : upr (upr a 8 f) 0 g = upr (upr a 0 g) 8 f := upr_c (by decide)
theorem uc_8_1 {f g : Nat → Int32} : upr (upr a 8 f) 1 g = upr (upr a 1 g) 8 f := upr_c (by decide)
theorem uc_8_2 {f g : Nat → Int32} : upr (upr a 8 f) 2 g = upr (upr a 2 g) 8 f := upr_c (by decide)
theorem uc_8_3 {f g : Nat → Int32} : upr (upr a 8 f) 3 g = upr (upr a 3 g) 8 f := upr_c (by decide)
theorem uc_8_4 {f g : Nat → Int32} : upr (upr a 8 f) 4 g = upr (upr a 4 g) 8 f := upr_c (by decide)
theorem uc_8_5 {f g : Nat → Int32} : upr (upr a 8 f) 5 g = upr (upr a 5 g) 8 f := upr_c (by decide)
theorem uc_8_6 {f g : Nat → Int32} : upr (upr a 8 f) 6 g = upr (upr a 6 g) 8 f := upr_c (by decide)
theorem uc_8_7 {f g : Nat → Int32} : upr (upr a 8 f) 7 g = upr (upr a 7 g) 8 f := upr_c (by decide)
theorem upr_s {r : Nat} {f g : Nat → Int32} : upr (upr a r f) r g = upr a r g := by
  funext i
  unfold upr
  split <;> rfl
end SHTWO
