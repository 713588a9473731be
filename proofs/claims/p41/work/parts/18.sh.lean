/-! ===== one bay and the teller over a heap: what they are, as one heap ===== -/
section SHEAP
def upr (a : Nat → Nat → Int32) (r : Nat) (f : Nat → Int32) : Nat → Nat → Int32 := fun i => if i = r then f else a i
def tri (x y z : Int32) : Nat → Int32 := fun i => if i = 0 then x else if i = 1 then y else z
theorem tri_0 {x y z : Int32} : tri x y z 0 = x := rfl
theorem tri_1 {x y z : Int32} : tri x y z 1 = y := rfl
theorem tri_2 {x y z : Int32} : tri x y z 2 = z := rfl
/-- the heap H with the bay at B over the book at K (rows a, wind, force, hour t) and the teller's measures, stack and height -/
def sH (H : xH) (B K : Nat) (a : Nat → Nat → Int32) (t : Nat → Int32) (ms sk : Nat → Int32) (h : Int32) : xH :=
  (fun n => if n = 40 then .inr (4, [.ref 41, .ref 42, .int h]) else if n = 41 then xarI 10 ms else if n = 42 then xarI 400 sk
    else if n = B then .inr (0, [.ref 40, .ref (B + 1), .ref (B + 2), .ref (B + 3), .ref (B + 4), .ref (B + 5), .ref (B + 6), .ref (B + 7), .ref (B + 8), .ref (B + 9), .ref K, .int (t 0), .int (t 1), .int (t 2)])
    else if n < B then H.1 n else if n < B + 10 then xarI 6 (a (n - B - 1)) else H.1 n, H.2)
variable {H : xH} {B K K' : Nat} {b : Nat → Nat → Int32} {nm : Nat → Int64} {s : Nat → Int32} {a a' : Nat → Nat → Int32} {t t' : Nat → Int32} {ms sk ms' sk' : Nat → Int32} {h h' : Int32}
theorem sH_2 : (sH H B K a t ms sk h).2 = H.2 := rfl
theorem sH_o (hb : 42 < B) (n : Nat) (p : n < 40 ∨ (42 < n ∧ n < B) ∨ (42 < n ∧ B + 9 < n)) : (sH H B K a t ms sk h).1 n = H.1 n := by
  unfold sH
  dsimp only
  rw [if_neg (by omega), if_neg (by omega), if_neg (by omega), if_neg (by omega)]
  split
  · rfl
  · rw [if_neg (by omega)]
theorem sH_sH : sH (sH H B K a t ms sk h) B K' a' t' ms' sk' h' = sH H B K' a' t' ms' sk' h' := by
  refine Prod.ext ?_ rfl
  funext n
  unfold sH
  dsimp only
  by_cases p0 : n = 40
  · simp only [if_pos p0]
  by_cases p1 : n = 41
  · simp only [if_neg p0, if_pos p1]
  by_cases p2 : n = 42
  · simp only [if_neg p0, if_neg p1, if_pos p2]
  by_cases p3 : n = B
  · simp only [if_neg p0, if_neg p1, if_neg p2, if_pos p3]
  by_cases p4 : n < B
  · simp only [if_neg p0, if_neg p1, if_neg p2, if_neg p3, if_pos p4]
  by_cases p5 : n < B + 10
  · simp only [if_neg p0, if_neg p1, if_neg p2, if_neg p3, if_neg p4, if_pos p5]
  simp only [if_neg p0, if_neg p1, if_neg p2, if_neg p3, if_neg p4, if_neg p5]
theorem sH_40 : (sH H B K a t ms sk h).1 40 = .inr (4, [.ref 41, .ref 42, .int h]) := rfl
theorem sH_41 : (sH H B K a t ms sk h).1 41 = xarI 10 ms := rfl
theorem sH_42 : (sH H B K a t ms sk h).1 42 = xarI 400 sk := rfl
theorem sH_B (hb : 42 < B) : (sH H B K a t ms sk h).1 B = .inr (0, [.ref 40, .ref (B + 1), .ref (B + 2), .ref (B + 3), .ref (B + 4), .ref (B + 5), .ref (B + 6), .ref (B + 7), .ref (B + 8), .ref (B + 9), .ref K, .int (t 0), .int (t 1), .int (t 2)]) := by
  unfold sH
  dsimp only
  rw [if_neg (by omega), if_neg (by omega), if_neg (by omega), if_pos rfl]
theorem sH_r (hb : 42 < B) (r : Nat) (hr : r < 9) : (sH H B K a t ms sk h).1 (B + (r + 1)) = xarI 6 (a r) := by
  unfold sH
  dsimp only
  rw [if_neg (by omega), if_neg (by omega), if_neg (by omega), if_neg (by omega), if_neg (by omega), if_pos (by omega), show B + (r + 1) - B - 1 = r by omega]
theorem sH_wB {x y z : Int32} : xset (sH H B K a t ms sk h) B (.inr (0, [.ref 40, .ref (B + 1), .ref (B + 2), .ref (B + 3), .ref (B + 4), .ref (B + 5), .ref (B + 6), .ref (B + 7), .ref (B + 8), .ref (B + 9), .ref K', .int x, .int y, .int z])) = (if 42 < B then sH H B K' a (tri x y z) ms sk h else xset (sH H B K a t ms sk h) B (.inr (0, [.ref 40, .ref (B + 1), .ref (B + 2), .ref (B + 3), .ref (B + 4), .ref (B + 5), .ref (B + 6), .ref (B + 7), .ref (B + 8), .ref (B + 9), .ref K', .int x, .int y, .int z]))) := by
  split
  · refine Prod.ext ?_ rfl
    funext n
    unfold xset xup sH tri
    dsimp only
    repeat' split
    all_goals first | rfl | omega
  · rfl
theorem sH_w (hb : 42 < B) {f : Nat → Int32} (r : Nat) (hr : r < 9) : xset (sH H B K a t ms sk h) (B + (r + 1)) (xarI 6 f) = sH H B K (upr a r f) t ms sk h := by
  refine Prod.ext ?_ rfl
  funext n
  unfold xset xup sH upr
  dsimp only
  repeat' split
  all_goals first | rfl | omega
theorem sH_w40 : xset (sH H B K a t ms sk h) 40 (.inr (4, [.ref 41, .ref 42, .int h'])) = sH H B K a t ms sk h' := by
  refine Prod.ext ?_ rfl
  funext n
  unfold xset xup sH
  dsimp only
  repeat' split
  all_goals first | rfl | omega
theorem sH_w41 : xset (sH H B K a t ms sk h) 41 (xarI 10 ms') = sH H B K a t ms' sk h := by
  refine Prod.ext ?_ rfl
  funext n
  unfold xset xup sH
  dsimp only
  repeat' split
  all_goals first | rfl | omega
theorem sH_w42 : xset (sH H B K a t ms sk h) 42 (xarI 400 sk') = sH H B K a t ms sk' h := by
  refine Prod.ext ?_ rfl
  funext n
  unfold xset xup sH
  dsimp only
  repeat' split
  all_goals first | rfl | omega
theorem sH_kY (hb : 42 < B) : kY (sH H B K a t ms sk h) B K a t :=
  ⟨sH_B hb, sH_r hb 0 (by decide), sH_r hb 1 (by decide), sH_r hb 2 (by decide), sH_r hb 3 (by decide), sH_r hb 4 (by decide), sH_r hb 5 (by decide), sH_r hb 6 (by decide), sH_r hb 7 (by decide), sH_r hb 8 (by decide)⟩
theorem sH_kT : kT (sH H B K a t ms sk h) ms sk h := ⟨rfl, rfl, rfl⟩
theorem sH_kB (hB : kB H K b nm s) (hK : K < 26) (hb : 42 < B) : kB (sH H B K' a t ms sk h) K b nm s := by
  obtain ⟨b00, b01, b02, b03, b04, b05, b06, b07, b08, b09, b10, b11, b12, b13, b14⟩ := id hB
  refine ⟨?_, ?_, ?_, ?_, ?_, ?_, ?_, ?_, ?_, ?_, ?_, ?_, ?_, ?_, ?_⟩ <;> rw [sH_o hb _ (Or.inl (by omega))] <;> assumption
theorem sH_of (hY : kY H B K a t) (hT : kT H ms sk h) : H = sH H B K a t ms sk h := by
  obtain ⟨y0, y1, y2, y3, y4, y5, y6, y7, y8, y9⟩ := id hY
  obtain ⟨t0, t1, t2⟩ := id hT
  refine Prod.ext ?_ rfl
  funext n
  unfold sH
  dsimp only
  split
  · subst n; exact t0
  split
  · subst n; exact t1
  split
  · subst n; exact t2
  split
  · subst n; exact y0
  split
  · rfl
  split
  · have hn : n = B + 1 ∨ n = B + 2 ∨ n = B + 3 ∨ n = B + 4 ∨ n = B + 5 ∨ n = B + 6 ∨ n = B + 7 ∨ n = B + 8 ∨ n = B + 9 := by omega
    rcases hn with p | p | p | p | p | p | p | p | p <;> subst p
    · rw [y1, show B + 1 - B - 1 = 0 by omega]
    · rw [y2, show B + 2 - B - 1 = 1 by omega]
    · rw [y3, show B + 3 - B - 1 = 2 by omega]
    · rw [y4, show B + 4 - B - 1 = 3 by omega]
    · rw [y5, show B + 5 - B - 1 = 4 by omega]
    · rw [y6, show B + 6 - B - 1 = 5 by omega]
    · rw [y7, show B + 7 - B - 1 = 6 by omega]
    · rw [y8, show B + 8 - B - 1 = 7 by omega]
    · rw [y9, show B + 9 - B - 1 = 8 by omega]
  · rfl
theorem yF (hb : 42 < B) : xfls (sH H B K a t ms sk h) B 0 = [.ref 40, .ref (B + 1), .ref (B + 2), .ref (B + 3), .ref (B + 4), .ref (B + 5), .ref (B + 6), .ref (B + 7), .ref (B + 8), .ref (B + 9), .ref K, .int (t 0), .int (t 1), .int (t 2)] := xf_of (sH_B hb)
theorem yC (hb : 42 < B) : xcl (sH H B K a t ms sk h) B = 0 := xc_of (sH_B hb)
theorem yl_0 (hb : 42 < B) : xlenI (sH H B K a t ms sk h) (B + 1) = 6 := xIl_of (sH_r hb 0 (by decide))
theorem yf_0 (hb : 42 < B) : xfnI (sH H B K a t ms sk h) (B + 1) = a 0 := xIf_of (sH_r hb 0 (by decide))
theorem yw_0 (hb : 42 < B) {f : Nat → Int32} : xset (sH H B K a t ms sk h) (B + 1) (xarI 6 f) = sH H B K (upr a 0 f) t ms sk h := sH_w hb 0 (by decide)
theorem u_0_0 {f : Nat → Int32} : upr a 0 f 0 = f := rfl
theorem u_0_1 {f : Nat → Int32} : upr a 0 f 1 = a 1 := rfl
theorem u_0_2 {f : Nat → Int32} : upr a 0 f 2 = a 2 := rfl
theorem u_0_3 {f : Nat → Int32} : upr a 0 f 3 = a 3 := rfl
theorem u_0_4 {f : Nat → Int32} : upr a 0 f 4 = a 4 := rfl
theorem u_0_5 {f : Nat → Int32} : upr a 0 f 5 = a 5 := rfl
theorem u_0_6 {f : Nat → Int32} : upr a 0 f 6 = a 6 := rfl
theorem u_0_7 {f : Nat → Int32} : upr a 0 f 7 = a 7 := rfl
theorem u_0_8 {f : Nat → Int32} : upr a 0 f 8 = a 8 := rfl
theorem yl_1 (hb : 42 < B) : xlenI (sH H B K a t ms sk h) (B + 2) = 6 := xIl_of (sH_r hb 1 (by decide))
theorem yf_1 (hb : 42 < B) : xfnI (sH H B K a t ms sk h) (B + 2) = a 1 := xIf_of (sH_r hb 1 (by decide))
theorem yw_1 (hb : 42 < B) {f : Nat → Int32} : xset (sH H B K a t ms sk h) (B + 2) (xarI 6 f) = sH H B K (upr a 1 f) t ms sk h := sH_w hb 1 (by decide)
theorem u_1_0 {f : Nat → Int32} : upr a 1 f 0 = a 0 := rfl
theorem u_1_1 {f : Nat → Int32} : upr a 1 f 1 = f := rfl
theorem u_1_2 {f : Nat → Int32} : upr a 1 f 2 = a 2 := rfl
theorem u_1_3 {f : Nat → Int32} : upr a 1 f 3 = a 3 := rfl
theorem u_1_4 {f : Nat → Int32} : upr a 1 f 4 = a 4 := rfl
theorem u_1_5 {f : Nat → Int32} : upr a 1 f 5 = a 5 := rfl
theorem u_1_6 {f : Nat → Int32} : upr a 1 f 6 = a 6 := rfl
theorem u_1_7 {f : Nat → Int32} : upr a 1 f 7 = a 7 := rfl
theorem u_1_8 {f : Nat → Int32} : upr a 1 f 8 = a 8 := rfl
theorem yl_2 (hb : 42 < B) : xlenI (sH H B K a t ms sk h) (B + 3) = 6 := xIl_of (sH_r hb 2 (by decide))
theorem yf_2 (hb : 42 < B) : xfnI (sH H B K a t ms sk h) (B + 3) = a 2 := xIf_of (sH_r hb 2 (by decide))
theorem yw_2 (hb : 42 < B) {f : Nat → Int32} : xset (sH H B K a t ms sk h) (B + 3) (xarI 6 f) = sH H B K (upr a 2 f) t ms sk h := sH_w hb 2 (by decide)
theorem u_2_0 {f : Nat → Int32} : upr a 2 f 0 = a 0 := rfl
theorem u_2_1 {f : Nat → Int32} : upr a 2 f 1 = a 1 := rfl
theorem u_2_2 {f : Nat → Int32} : upr a 2 f 2 = f := rfl
theorem u_2_3 {f : Nat → Int32} : upr a 2 f 3 = a 3 := rfl
theorem u_2_4 {f : Nat → Int32} : upr a 2 f 4 = a 4 := rfl
theorem u_2_5 {f : Nat → Int32} : upr a 2 f 5 = a 5 := rfl
theorem u_2_6 {f : Nat → Int32} : upr a 2 f 6 = a 6 := rfl
theorem u_2_7 {f : Nat → Int32} : upr a 2 f 7 = a 7 := rfl
theorem u_2_8 {f : Nat → Int32} : upr a 2 f 8 = a 8 := rfl
theorem yl_3 (hb : 42 < B) : xlenI (sH H B K a t ms sk h) (B + 4) = 6 := xIl_of (sH_r hb 3 (by decide))
theorem yf_3 (hb : 42 < B) : xfnI (sH H B K a t ms sk h) (B + 4) = a 3 := xIf_of (sH_r hb 3 (by decide))
theorem yw_3 (hb : 42 < B) {f : Nat → Int32} : xset (sH H B K a t ms sk h) (B + 4) (xarI 6 f) = sH H B K (upr a 3 f) t ms sk h := sH_w hb 3 (by decide)
theorem u_3_0 {f : Nat → Int32} : upr a 3 f 0 = a 0 := rfl
theorem u_3_1 {f : Nat → Int32} : upr a 3 f 1 = a 1 := rfl
theorem u_3_2 {f : Nat → Int32} : upr a 3 f 2 = a 2 := rfl
theorem u_3_3 {f : Nat → Int32} : upr a 3 f 3 = f := rfl
theorem u_3_4 {f : Nat → Int32} : upr a 3 f 4 = a 4 := rfl
theorem u_3_5 {f : Nat → Int32} : upr a 3 f 5 = a 5 := rfl
theorem u_3_6 {f : Nat → Int32} : upr a 3 f 6 = a 6 := rfl
theorem u_3_7 {f : Nat → Int32} : upr a 3 f 7 = a 7 := rfl
theorem u_3_8 {f : Nat → Int32} : upr a 3 f 8 = a 8 := rfl
theorem yl_4 (hb : 42 < B) : xlenI (sH H B K a t ms sk h) (B + 5) = 6 := xIl_of (sH_r hb 4 (by decide))
theorem yf_4 (hb : 42 < B) : xfnI (sH H B K a t ms sk h) (B + 5) = a 4 := xIf_of (sH_r hb 4 (by decide))
theorem yw_4 (hb : 42 < B) {f : Nat → Int32} : xset (sH H B K a t ms sk h) (B + 5) (xarI 6 f) = sH H B K (upr a 4 f) t ms sk h := sH_w hb 4 (by decide)
theorem u_4_0 {f : Nat → Int32} : upr a 4 f 0 = a 0 := rfl
theorem u_4_1 {f : Nat → Int32} : upr a 4 f 1 = a 1 := rfl
theorem u_4_2 {f : Nat → Int32} : upr a 4 f 2 = a 2 := rfl
theorem u_4_3 {f : Nat → Int32} : upr a 4 f 3 = a 3 := rfl
theorem u_4_4 {f : Nat → Int32} : upr a 4 f 4 = f := rfl
theorem u_4_5 {f : Nat → Int32} : upr a 4 f 5 = a 5 := rfl
theorem u_4_6 {f : Nat → Int32} : upr a 4 f 6 = a 6 := rfl
theorem u_4_7 {f : Nat → Int32} : upr a 4 f 7 = a 7 := rfl
theorem u_4_8 {f : Nat → Int32} : upr a 4 f 8 = a 8 := rfl
theorem yl_5 (hb : 42 < B) : xlenI (sH H B K a t ms sk h) (B + 6) = 6 := xIl_of (sH_r hb 5 (by decide))
theorem yf_5 (hb : 42 < B) : xfnI (sH H B K a t ms sk h) (B + 6) = a 5 := xIf_of (sH_r hb 5 (by decide))
theorem yw_5 (hb : 42 < B) {f : Nat → Int32} : xset (sH H B K a t ms sk h) (B + 6) (xarI 6 f) = sH H B K (upr a 5 f) t ms sk h := sH_w hb 5 (by decide)
theorem u_5_0 {f : Nat → Int32} : upr a 5 f 0 = a 0 := rfl
theorem u_5_1 {f : Nat → Int32} : upr a 5 f 1 = a 1 := rfl
theorem u_5_2 {f : Nat → Int32} : upr a 5 f 2 = a 2 := rfl
theorem u_5_3 {f : Nat → Int32} : upr a 5 f 3 = a 3 := rfl
theorem u_5_4 {f : Nat → Int32} : upr a 5 f 4 = a 4 := rfl
theorem u_5_5 {f : Nat → Int32} : upr a 5 f 5 = f := rfl
theorem u_5_6 {f : Nat → Int32} : upr a 5 f 6 = a 6 := rfl
theorem u_5_7 {f : Nat → Int32} : upr a 5 f 7 = a 7 := rfl
theorem u_5_8 {f : Nat → Int32} : upr a 5 f 8 = a 8 := rfl
theorem yl_6 (hb : 42 < B) : xlenI (sH H B K a t ms sk h) (B + 7) = 6 := xIl_of (sH_r hb 6 (by decide))
theorem yf_6 (hb : 42 < B) : xfnI (sH H B K a t ms sk h) (B + 7) = a 6 := xIf_of (sH_r hb 6 (by decide))
theorem yw_6 (hb : 42 < B) {f : Nat → Int32} : xset (sH H B K a t ms sk h) (B + 7) (xarI 6 f) = sH H B K (upr a 6 f) t ms sk h := sH_w hb 6 (by decide)
theorem u_6_0 {f : Nat → Int32} : upr a 6 f 0 = a 0 := rfl
theorem u_6_1 {f : Nat → Int32} : upr a 6 f 1 = a 1 := rfl
theorem u_6_2 {f : Nat → Int32} : upr a 6 f 2 = a 2 := rfl
theorem u_6_3 {f : Nat → Int32} : upr a 6 f 3 = a 3 := rfl
theorem u_6_4 {f : Nat → Int32} : upr a 6 f 4 = a 4 := rfl
theorem u_6_5 {f : Nat → Int32} : upr a 6 f 5 = a 5 := rfl
theorem u_6_6 {f : Nat → Int32} : upr a 6 f 6 = f := rfl
theorem u_6_7 {f : Nat → Int32} : upr a 6 f 7 = a 7 := rfl
theorem u_6_8 {f : Nat → Int32} : upr a 6 f 8 = a 8 := rfl
theorem yl_7 (hb : 42 < B) : xlenI (sH H B K a t ms sk h) (B + 8) = 6 := xIl_of (sH_r hb 7 (by decide))
theorem yf_7 (hb : 42 < B) : xfnI (sH H B K a t ms sk h) (B + 8) = a 7 := xIf_of (sH_r hb 7 (by decide))
theorem yw_7 (hb : 42 < B) {f : Nat → Int32} : xset (sH H B K a t ms sk h) (B + 8) (xarI 6 f) = sH H B K (upr a 7 f) t ms sk h := sH_w hb 7 (by decide)
theorem u_7_0 {f : Nat → Int32} : upr a 7 f 0 = a 0 := rfl
theorem u_7_1 {f : Nat → Int32} : upr a 7 f 1 = a 1 := rfl
theorem u_7_2 {f : Nat → Int32} : upr a 7 f 2 = a 2 := rfl
theorem u_7_3 {f : Nat → Int32} : upr a 7 f 3 = a 3 := rfl
theorem u_7_4 {f : Nat → Int32} : upr a 7 f 4 = a 4 := rfl
theorem u_7_5 {f : Nat → Int32} : upr a 7 f 5 = a 5 := rfl
theorem u_7_6 {f : Nat → Int32} : upr a 7 f 6 = a 6 := rfl
theorem u_7_7 {f : Nat → Int32} : upr a 7 f 7 = f := rfl
theorem u_7_8 {f : Nat → Int32} : upr a 7 f 8 = a 8 := rfl
theorem yl_8 (hb : 42 < B) : xlenI (sH H B K a t ms sk h) (B + 9) = 6 := xIl_of (sH_r hb 8 (by decide))
theorem yf_8 (hb : 42 < B) : xfnI (sH H B K a t ms sk h) (B + 9) = a 8 := xIf_of (sH_r hb 8 (by decide))
theorem yw_8 (hb : 42 < B) {f : Nat → Int32} : xset (sH H B K a t ms sk h) (B + 9) (xarI 6 f) = sH H B K (upr a 8 f) t ms sk h := sH_w hb 8 (by decide)
theorem u_8_0 {f : Nat → Int32} : upr a 8 f 0 = a 0 := rfl
theorem u_8_1 {f : Nat → Int32} : upr a 8 f 1 = a 1 := rfl
theorem u_8_2 {f : Nat → Int32} : upr a 8 f 2 = a 2 := rfl
theorem u_8_3 {f : Nat → Int32} : upr a 8 f 3 = a 3 := rfl
theorem u_8_4 {f : Nat → Int32} : upr a 8 f 4 = a 4 := rfl
theorem u_8_5 {f : Nat → Int32} : upr a 8 f 5 = a 5 := rfl
theorem u_8_6 {f : Nat → Int32} : upr a 8 f 6 = a 6 := rfl
theorem u_8_7 {f : Nat → Int32} : upr a 8 f 7 = a 7 := rfl
theorem u_8_8 {f : Nat → Int32} : upr a 8 f 8 = f := rfl
theorem ywB (hb : 42 < B) {x y z : Int32} : xset (sH H B K a t ms sk h) B (.inr (0, [.ref 40, .ref (B + 1), .ref (B + 2), .ref (B + 3), .ref (B + 4), .ref (B + 5), .ref (B + 6), .ref (B + 7), .ref (B + 8), .ref (B + 9), .ref K', .int x, .int y, .int z])) = sH H B K' a (tri x y z) ms sk h := by rw [sH_wB, if_pos hb]
theorem tF : xfls (sH H B K a t ms sk h) 40 4 = [.ref 41, .ref 42, .int h] := xf_of sH_40
theorem tC : xcl (sH H B K a t ms sk h) 40 = 4 := xc_of sH_40
theorem tl_1 : xlenI (sH H B K a t ms sk h) 41 = 10 := xIl_of sH_41
theorem tf_1 : xfnI (sH H B K a t ms sk h) 41 = ms := xIf_of sH_41
theorem tl_2 : xlenI (sH H B K a t ms sk h) 42 = 400 := xIl_of sH_42
theorem tf_2 : xfnI (sH H B K a t ms sk h) 42 = sk := xIf_of sH_42
theorem bF (hB : kB H K b nm s) (hK : K < 26) (hb : 42 < B) : xfls (sH H B K' a t ms sk h) K 1 = [.ref (K + 1), .ref (K + 4), .ref (K + 5), .ref (K + 6), .ref (K + 7), .ref (K + 8), .ref (K + 9), .ref (K + 10), .ref (K + 11), .ref (K + 12), .ref (K + 13), .ref (K + 14), .int (s 0), .int (s 1), .int (s 2), .int (s 3), .int (s 4)] := xf_of (sH_kB (K' := K') (a := a) (t := t) (ms := ms) (sk := sk) (h := h) hB hK hb).1
theorem bC (hB : kB H K b nm s) (hK : K < 26) (hb : 42 < B) : xcl (sH H B K' a t ms sk h) K = 1 := xc_of (sH_kB (K' := K') (a := a) (t := t) (ms := ms) (sk := sk) (h := h) hB hK hb).1
theorem rF (hB : kB H K b nm s) (hK : K < 26) (hb : 42 < B) : xfls (sH H B K' a t ms sk h) (K + 1) 5 = [.ref (K + 2), .ref (K + 3), .int (s 5)] := xf_of (sH_kB (K' := K') (a := a) (t := t) (ms := ms) (sk := sk) (h := h) hB hK hb).2.1
theorem rC (hB : kB H K b nm s) (hK : K < 26) (hb : 42 < B) : xcl (sH H B K' a t ms sk h) (K + 1) = 5 := xc_of (sH_kB (K' := K') (a := a) (t := t) (ms := ms) (sk := sk) (h := h) hB hK hb).2.1
theorem bl_0 (hB : kB H K b nm s) (hK : K < 26) (hb : 42 < B) : xlenI (sH H B K' a t ms sk h) (K + 2) = 400 := xIl_of (sH_kB (K' := K') (a := a) (t := t) (ms := ms) (sk := sk) (h := h) hB hK hb).2.2.1
theorem bf_0 (hB : kB H K b nm s) (hK : K < 26) (hb : 42 < B) : xfnI (sH H B K' a t ms sk h) (K + 2) = b 0 := xIf_of (sH_kB (K' := K') (a := a) (t := t) (ms := ms) (sk := sk) (h := h) hB hK hb).2.2.1
theorem bl_1 (hB : kB H K b nm s) (hK : K < 26) (hb : 42 < B) : xlenI (sH H B K' a t ms sk h) (K + 3) = 400 := xIl_of (sH_kB (K' := K') (a := a) (t := t) (ms := ms) (sk := sk) (h := h) hB hK hb).2.2.2.1
theorem bf_1 (hB : kB H K b nm s) (hK : K < 26) (hb : 42 < B) : xfnI (sH H B K' a t ms sk h) (K + 3) = b 1 := xIf_of (sH_kB (K' := K') (a := a) (t := t) (ms := ms) (sk := sk) (h := h) hB hK hb).2.2.2.1
theorem bl_2 (hB : kB H K b nm s) (hK : K < 26) (hb : 42 < B) : xlenI (sH H B K' a t ms sk h) (K + 4) = 6 := xIl_of (sH_kB (K' := K') (a := a) (t := t) (ms := ms) (sk := sk) (h := h) hB hK hb).2.2.2.2.1
theorem bf_2 (hB : kB H K b nm s) (hK : K < 26) (hb : 42 < B) : xfnI (sH H B K' a t ms sk h) (K + 4) = b 2 := xIf_of (sH_kB (K' := K') (a := a) (t := t) (ms := ms) (sk := sk) (h := h) hB hK hb).2.2.2.2.1
theorem bl_3 (hB : kB H K b nm s) (hK : K < 26) (hb : 42 < B) : xlenI (sH H B K' a t ms sk h) (K + 5) = 6 := xIl_of (sH_kB (K' := K') (a := a) (t := t) (ms := ms) (sk := sk) (h := h) hB hK hb).2.2.2.2.2.1
theorem bf_3 (hB : kB H K b nm s) (hK : K < 26) (hb : 42 < B) : xfnI (sH H B K' a t ms sk h) (K + 5) = b 3 := xIf_of (sH_kB (K' := K') (a := a) (t := t) (ms := ms) (sk := sk) (h := h) hB hK hb).2.2.2.2.2.1
theorem bl_4 (hB : kB H K b nm s) (hK : K < 26) (hb : 42 < B) : xlenI (sH H B K' a t ms sk h) (K + 6) = 6 := xIl_of (sH_kB (K' := K') (a := a) (t := t) (ms := ms) (sk := sk) (h := h) hB hK hb).2.2.2.2.2.2.1
theorem bf_4 (hB : kB H K b nm s) (hK : K < 26) (hb : 42 < B) : xfnI (sH H B K' a t ms sk h) (K + 6) = b 4 := xIf_of (sH_kB (K' := K') (a := a) (t := t) (ms := ms) (sk := sk) (h := h) hB hK hb).2.2.2.2.2.2.1
theorem bl_5 (hB : kB H K b nm s) (hK : K < 26) (hb : 42 < B) : xlenI (sH H B K' a t ms sk h) (K + 7) = 6 := xIl_of (sH_kB (K' := K') (a := a) (t := t) (ms := ms) (sk := sk) (h := h) hB hK hb).2.2.2.2.2.2.2.1
theorem bf_5 (hB : kB H K b nm s) (hK : K < 26) (hb : 42 < B) : xfnI (sH H B K' a t ms sk h) (K + 7) = b 5 := xIf_of (sH_kB (K' := K') (a := a) (t := t) (ms := ms) (sk := sk) (h := h) hB hK hb).2.2.2.2.2.2.2.1
theorem bl_6 (hB : kB H K b nm s) (hK : K < 26) (hb : 42 < B) : xlenI (sH H B K' a t ms sk h) (K + 8) = 6 := xIl_of (sH_kB (K' := K') (a := a) (t := t) (ms := ms) (sk := sk) (h := h) hB hK hb).2.2.2.2.2.2.2.2.1
theorem bf_6 (hB : kB H K b nm s) (hK : K < 26) (hb : 42 < B) : xfnI (sH H B K' a t ms sk h) (K + 8) = b 6 := xIf_of (sH_kB (K' := K') (a := a) (t := t) (ms := ms) (sk := sk) (h := h) hB hK hb).2.2.2.2.2.2.2.2.1
theorem bl_7 (hB : kB H K b nm s) (hK : K < 26) (hb : 42 < B) : xlenI (sH H B K' a t ms sk h) (K + 10) = 6 := xIl_of (sH_kB (K' := K') (a := a) (t := t) (ms := ms) (sk := sk) (h := h) hB hK hb).2.2.2.2.2.2.2.2.2.2.1
theorem bf_7 (hB : kB H K b nm s) (hK : K < 26) (hb : 42 < B) : xfnI (sH H B K' a t ms sk h) (K + 10) = b 7 := xIf_of (sH_kB (K' := K') (a := a) (t := t) (ms := ms) (sk := sk) (h := h) hB hK hb).2.2.2.2.2.2.2.2.2.2.1
theorem bl_8 (hB : kB H K b nm s) (hK : K < 26) (hb : 42 < B) : xlenI (sH H B K' a t ms sk h) (K + 11) = 6 := xIl_of (sH_kB (K' := K') (a := a) (t := t) (ms := ms) (sk := sk) (h := h) hB hK hb).2.2.2.2.2.2.2.2.2.2.2.1
theorem bf_8 (hB : kB H K b nm s) (hK : K < 26) (hb : 42 < B) : xfnI (sH H B K' a t ms sk h) (K + 11) = b 8 := xIf_of (sH_kB (K' := K') (a := a) (t := t) (ms := ms) (sk := sk) (h := h) hB hK hb).2.2.2.2.2.2.2.2.2.2.2.1
theorem bl_9 (hB : kB H K b nm s) (hK : K < 26) (hb : 42 < B) : xlenI (sH H B K' a t ms sk h) (K + 12) = 6 := xIl_of (sH_kB (K' := K') (a := a) (t := t) (ms := ms) (sk := sk) (h := h) hB hK hb).2.2.2.2.2.2.2.2.2.2.2.2.1
theorem bf_9 (hB : kB H K b nm s) (hK : K < 26) (hb : 42 < B) : xfnI (sH H B K' a t ms sk h) (K + 12) = b 9 := xIf_of (sH_kB (K' := K') (a := a) (t := t) (ms := ms) (sk := sk) (h := h) hB hK hb).2.2.2.2.2.2.2.2.2.2.2.2.1
theorem bl_10 (hB : kB H K b nm s) (hK : K < 26) (hb : 42 < B) : xlenI (sH H B K' a t ms sk h) (K + 13) = 6 := xIl_of (sH_kB (K' := K') (a := a) (t := t) (ms := ms) (sk := sk) (h := h) hB hK hb).2.2.2.2.2.2.2.2.2.2.2.2.2.1
theorem bf_10 (hB : kB H K b nm s) (hK : K < 26) (hb : 42 < B) : xfnI (sH H B K' a t ms sk h) (K + 13) = b 10 := xIf_of (sH_kB (K' := K') (a := a) (t := t) (ms := ms) (sk := sk) (h := h) hB hK hb).2.2.2.2.2.2.2.2.2.2.2.2.2.1
theorem bl_11 (hB : kB H K b nm s) (hK : K < 26) (hb : 42 < B) : xlenI (sH H B K' a t ms sk h) (K + 14) = 6 := xIl_of (sH_kB (K' := K') (a := a) (t := t) (ms := ms) (sk := sk) (h := h) hB hK hb).2.2.2.2.2.2.2.2.2.2.2.2.2.2
theorem bf_11 (hB : kB H K b nm s) (hK : K < 26) (hb : 42 < B) : xfnI (sH H B K' a t ms sk h) (K + 14) = b 11 := xIf_of (sH_kB (K' := K') (a := a) (t := t) (ms := ms) (sk := sk) (h := h) hB hK hb).2.2.2.2.2.2.2.2.2.2.2.2.2.2
end SHEAP
