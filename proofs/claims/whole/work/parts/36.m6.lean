/-! ===== the model: measuring ===== -/
section MMEAS
variable {b a : Nat → Nat → Int32} {s t : Nat → Int32}
theorem upd_s {f : Nat → Int32} {i : Nat} {v : Int32} : upd f i v i = v := if_pos rfl
theorem upd_o {f : Nat → Int32} {i j : Nat} {v : Int32} (h : ¬ j = i) : upd f i v j = f j := if_neg h
theorem tms_9 {nk c : Nat} {ms : Nat → Int32} : tms a b t s nk c ms 9 = t 1 := by
  unfold tms
  rw [upd_s]
theorem tms_8 {nk c : Nat} {ms : Nat → Int32} : tms a b t s nk c ms 8 = t 0 := by
  unfold tms
  rw [upd_o (by decide), upd_s]
end MMEAS
