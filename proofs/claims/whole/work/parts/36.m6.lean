/-! ===== the model: measuring ===== -/
section MMEAS
variable {b a : Nat → Nat → Int32} {s t : Nat → Int32}
theorem upd_s {f : Nat → Int32} {i : Nat} {v : Int32} : upd f i v i = v := if_pos rfl
theorem upd_o {f : Nat → Int32} {i j : Nat} {v : Int32} (h : ¬ j = i) : upd f i v j = f j := if_neg h
theorem tms_9 {nk c : Nat} {ms : Nat → Int32} : tms a b t s nk c ms 9 = t 1 := by
  unfold tms
  rw [upd_s]
theorem tms_8 {nk c : Nat} {ms : Nat → Int32} : tms a b t s nk c ms 8 = t 0 := by
  unfold tms
  rw [upd_o (by decide), upd_s]
theorem tms_7 {nk c : Nat} {ms : Nat → Int32} : tms a b t s nk c ms 7 = t 2 := by
  unfold tms
  rw [upd_o (by decide), upd_o (by decide), upd_s]
theorem tms_6 {nk c : Nat} {ms : Nat → Int32} : tms a b t s nk c ms 6 = a 5 c := by
  unfold tms
  rw [upd_o (by decide), upd_o (by decide), upd_o (by decide), upd_s]
theorem tms_5 {nk c : Nat} {ms : Nat → Int32} : tms a b t s nk c ms 5 = tlB (fun i => smeC a b t s nk c (nI i)) 0 4 0 (-1) := by
  unfold tms
  rw [upd_o (by decide), upd_o (by decide), upd_o (by decide), upd_o (by decide), upd_s]
theorem tms_4 {nk c : Nat} {ms : Nat → Int32} : tms a b t s nk c ms 4 = aroC a t b nk (a 3 c) (a 4 c) := by
  unfold tms
  rw [upd_o (by decide), upd_o (by decide), upd_o (by decide), upd_o (by decide), upd_o (by decide), upd_s]
theorem tlM_4 {f ms : Nat → Int32} : tlM f 0 4 ms = upd (upd (upd (upd ms 0 (f 0)) 1 (f 1)) 2 (f 2)) 3 (f 3) := rfl
theorem tms_r {nk c i : Nat} {ms : Nat → Int32} (h : i < 4) : tms a b t s nk c ms i = smeC a b t s nk c (nI i) := by
  unfold tms
  rw [upd_o (by omega), upd_o (by omega), upd_o (by omega), upd_o (by omega), upd_o (by omega), upd_o (by omega), tlM_4]
  have p : i = 0 ∨ i = 1 ∨ i = 2 ∨ i = 3 := by omega
  rcases p with p | p | p | p <;> subst p
  · rw [upd_o (by decide), upd_o (by decide), upd_o (by decide), upd_s]
  · rw [upd_o (by decide), upd_o (by decide), upd_s]
  · rw [upd_o (by decide), upd_s]
  · rw [upd_s]
end MMEAS
