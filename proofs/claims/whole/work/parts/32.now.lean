/-! ===== the model's numbers, out of the bay's ===== -/
section NOW
variable {E : xE} {d : Nat} {Q : xR → Prop} {H : xH} {K B : Nat} {b : Nat → Nat → Int32} {nm : Nat → Int64} {s : Nat → Int32} {a : Nat → Nat → Int32} {t : Nat → Int32} {ms sk : Nat → Int32} {h : Int32}
def nwO (nn : Nat) (a : Nat → Nat → Int32) (t : Nat → Int32) : Nat → Int32 := fun i =>
  if i = 0 then t 2 else if i = 1 then t 0 else if i = 2 then t 1 else if i < 15 then a ((i - 3) % 2 * 2) ((i - 3) / 2) else if (i - 15) / 6 < nn then a ((i - 15) % 6 + 3) ((i - 15) / 6) else 0
theorem nw_0 {nn : Nat} : nwO nn a t 0 = t 2 := rfl
theorem nw_1 {nn : Nat} : nwO nn a t 1 = t 0 := rfl
theorem nw_2 {nn : Nat} : nwO nn a t 2 = t 1 := rfl
theorem nwu_0 {nn : Nat} {v : Int32} : upd (nwO nn a t) 0 v = nwO nn a (tri (t 0) (t 1) v) := by
  funext i
  unfold upd nwO tri
  repeat' split
  all_goals first | rfl | omega
theorem nwu_1 {nn : Nat} {v : Int32} : upd (nwO nn a t) 1 v = nwO nn a (tri v (t 1) (t 2)) := by
  funext i
  unfold upd nwO tri
  repeat' split
  all_goals first | rfl | omega
theorem nwu_2 {nn : Nat} {v : Int32} : upd (nwO nn a t) 2 v = nwO nn a (tri (t 0) v (t 2)) := by
  funext i
  unfold upd nwO tri
  repeat' split
  all_goals first | rfl | omega
theorem nw_k0 {nn k : Nat} (hk : k < 6) : nwO nn a t (3 + 2 * k + 0) = a 0 k := by
  unfold nwO
  rw [if_neg (by omega), if_neg (by omega), if_neg (by omega), if_pos (by omega), show (3 + 2 * k + 0 - 3) % 2 * 2 = 0 by omega, show (3 + 2 * k + 0 - 3) / 2 = k by omega]
theorem nwu_k0 {nn k : Nat} (hk : k < 6) {v : Int32} : upd (nwO nn a t) (3 + 2 * k + 0) v = nwO nn (upr a 0 (upd (a 0) k v)) t := by
  funext i
  by_cases p : i = 3 + 2 * k + 0
  · subst p
    rw [nw_k0 hk]
    unfold upd upr
    rw [if_pos rfl, if_pos rfl, if_pos rfl]
  · unfold nwO
    rw [show upd _ (3 + 2 * k + 0) v i = _ from if_neg p]
    unfold upr upd
    repeat' split
    all_goals first | rfl | omega | (rename_i z; rw [z]; exact (if_neg (by omega)).symm)
theorem nw_k1 {nn k : Nat} (hk : k < 6) : nwO nn a t (3 + 2 * k + 1) = a 2 k := by
  unfold nwO
  rw [if_neg (by omega), if_neg (by omega), if_neg (by omega), if_pos (by omega), show (3 + 2 * k + 1 - 3) % 2 * 2 = 2 by omega, show (3 + 2 * k + 1 - 3) / 2 = k by omega]
theorem nwu_k1 {nn k : Nat} (hk : k < 6) {v : Int32} : upd (nwO nn a t) (3 + 2 * k + 1) v = nwO nn (upr a 2 (upd (a 2) k v)) t := by
  funext i
  by_cases p : i = 3 + 2 * k + 1
  · subst p
    rw [nw_k1 hk]
    unfold upd upr
    rw [if_pos rfl, if_pos rfl, if_pos rfl]
  · unfold nwO
    rw [show upd _ (3 + 2 * k + 1) v i = _ from if_neg p]
    unfold upr upd
    repeat' split
    all_goals first | rfl | omega | (rename_i z; rw [z]; exact (if_neg (by omega)).symm)
theorem nw_c0 {nn c : Nat} (hc : c < nn) : nwO nn a t (15 + 6 * c + 0) = a 3 c := by
  unfold nwO
  rw [if_neg (by omega), if_neg (by omega), if_neg (by omega), if_neg (by omega), show (15 + 6 * c + 0 - 15) % 6 + 3 = 3 by omega, show (15 + 6 * c + 0 - 15) / 6 = c by omega, if_pos hc]
theorem nw_c1 {nn c : Nat} (hc : c < nn) : nwO nn a t (15 + 6 * c + 1) = a 4 c := by
  unfold nwO
  rw [if_neg (by omega), if_neg (by omega), if_neg (by omega), if_neg (by omega), show (15 + 6 * c + 1 - 15) % 6 + 3 = 4 by omega, show (15 + 6 * c + 1 - 15) / 6 = c by omega, if_pos hc]
theorem nw_c2 {nn c : Nat} (hc : c < nn) : nwO nn a t (15 + 6 * c + 2) = a 5 c := by
  unfold nwO
  rw [if_neg (by omega), if_neg (by omega), if_neg (by omega), if_neg (by omega), show (15 + 6 * c + 2 - 15) % 6 + 3 = 5 by omega, show (15 + 6 * c + 2 - 15) / 6 = c by omega, if_pos hc]
theorem nw_c3 {nn c : Nat} (hc : c < nn) : nwO nn a t (15 + 6 * c + 3) = a 6 c := by
  unfold nwO
  rw [if_neg (by omega), if_neg (by omega), if_neg (by omega), if_neg (by omega), show (15 + 6 * c + 3 - 15) % 6 + 3 = 6 by omega, show (15 + 6 * c + 3 - 15) / 6 = c by omega, if_pos hc]
theorem nw_c4 {nn c : Nat} (hc : c < nn) : nwO nn a t (15 + 6 * c + 4) = a 7 c := by
  unfold nwO
  rw [if_neg (by omega), if_neg (by omega), if_neg (by omega), if_neg (by omega), show (15 + 6 * c + 4 - 15) % 6 + 3 = 7 by omega, show (15 + 6 * c + 4 - 15) / 6 = c by omega, if_pos hc]
theorem nw_c5 {nn c : Nat} (hc : c < nn) : nwO nn a t (15 + 6 * c + 5) = a 8 c := by
  unfold nwO
  rw [if_neg (by omega), if_neg (by omega), if_neg (by omega), if_neg (by omega), show (15 + 6 * c + 5 - 15) % 6 + 3 = 8 by omega, show (15 + 6 * c + 5 - 15) / 6 = c by omega, if_pos hc]
theorem nwu_c0 {nn c : Nat} (hc : c < nn) {v : Int32} : upd (nwO nn a t) (15 + 6 * c + 0) v = nwO nn (upr a 3 (upd (a 3) c v)) t := by
  funext i
  by_cases p : i = 15 + 6 * c + 0
  · subst p
    rw [nw_c0 hc]
    unfold upd upr
    rw [if_pos rfl, if_pos rfl, if_pos rfl]
  · unfold nwO
    rw [show upd _ (15 + 6 * c + 0) v i = _ from if_neg p]
    unfold upr upd
    repeat' split
    all_goals first | rfl | omega | (rename_i z; rw [z]; exact (if_neg (by omega)).symm)
theorem nwu_c1 {nn c : Nat} (hc : c < nn) {v : Int32} : upd (nwO nn a t) (15 + 6 * c + 1) v = nwO nn (upr a 4 (upd (a 4) c v)) t := by
  funext i
  by_cases p : i = 15 + 6 * c + 1
  · subst p
    rw [nw_c1 hc]
    unfold upd upr
    rw [if_pos rfl, if_pos rfl, if_pos rfl]
  · unfold nwO
    rw [show upd _ (15 + 6 * c + 1) v i = _ from if_neg p]
    unfold upr upd
    repeat' split
    all_goals first | rfl | omega | (rename_i z; rw [z]; exact (if_neg (by omega)).symm)
theorem nwu_c2 {nn c : Nat} (hc : c < nn) {v : Int32} : upd (nwO nn a t) (15 + 6 * c + 2) v = nwO nn (upr a 5 (upd (a 5) c v)) t := by
  funext i
  by_cases p : i = 15 + 6 * c + 2
  · subst p
    rw [nw_c2 hc]
    unfold upd upr
    rw [if_pos rfl, if_pos rfl, if_pos rfl]
  · unfold nwO
    rw [show upd _ (15 + 6 * c + 2) v i = _ from if_neg p]
    unfold upr upd
    repeat' split
    all_goals first | rfl | omega | (rename_i z; rw [z]; exact (if_neg (by omega)).symm)
theorem nwu_c3 {nn c : Nat} (hc : c < nn) {v : Int32} : upd (nwO nn a t) (15 + 6 * c + 3) v = nwO nn (upr a 6 (upd (a 6) c v)) t := by
  funext i
  by_cases p : i = 15 + 6 * c + 3
  · subst p
    rw [nw_c3 hc]
    unfold upd upr
    rw [if_pos rfl, if_pos rfl, if_pos rfl]
  · unfold nwO
    rw [show upd _ (15 + 6 * c + 3) v i = _ from if_neg p]
    unfold upr upd
    repeat' split
    all_goals first | rfl | omega | (rename_i z; rw [z]; exact (if_neg (by omega)).symm)
theorem nwu_c4 {nn c : Nat} (hc : c < nn) {v : Int32} : upd (nwO nn a t) (15 + 6 * c + 4) v = nwO nn (upr a 7 (upd (a 7) c v)) t := by
  funext i
  by_cases p : i = 15 + 6 * c + 4
  · subst p
    rw [nw_c4 hc]
    unfold upd upr
    rw [if_pos rfl, if_pos rfl, if_pos rfl]
  · unfold nwO
    rw [show upd _ (15 + 6 * c + 4) v i = _ from if_neg p]
    unfold upr upd
    repeat' split
    all_goals first | rfl | omega | (rename_i z; rw [z]; exact (if_neg (by omega)).symm)
theorem nwu_c5 {nn c : Nat} (hc : c < nn) {v : Int32} : upd (nwO nn a t) (15 + 6 * c + 5) v = nwO nn (upr a 8 (upd (a 8) c v)) t := by
  funext i
  by_cases p : i = 15 + 6 * c + 5
  · subst p
    rw [nw_c5 hc]
    unfold upd upr
    rw [if_pos rfl, if_pos rfl, if_pos rfl]
  · unfold nwO
    rw [show upd _ (15 + 6 * c + 5) v i = _ from if_neg p]
    unfold upr upd
    repeat' split
    all_goals first | rfl | omega | (rename_i z; rw [z]; exact (if_neg (by omega)).symm)
end NOW
