/-! ===== what is drawn, as the reckoning holds it ===== -/
section START
variable {E : xE}
def drB (E : xE) : Nat → Nat → Int32 := fun r i => if r = 2 then nI (drKx E i) else if r = 3 then nI (drKy E i) else if r = 4 then nI (drKz E i) else if r = 5 then nI (drUx E i) else if r = 6 then nI (drUy E i) else if r = 7 then nI (drX E i) else if r = 8 then nI (drY E i) else if r = 9 then nI (drZ E i) else 0
def drS (E : xE) : Nat → Int32 := fun i => if i = 0 then nI (drC E) else nI (drR E)
def drA (E : xE) : Nat → Nat → Int32 := fun r i => if r = 3 then nI (drX E i) else if r = 4 then nI (drY E i) else 0
theorem dr_kNm : kNm (drB E) (drS E) (drC E) (drR E) (drKx E) (drKy E) (drKz E) (drUx E) (drUy E) (drX E) (drY E) (drZ E) (drP E).1.length (drP E).2.length (drN E) := by
  obtain ⟨o1, o2, o3, o4, o5, o6, o7, o8, -⟩ := dr_bay (E := E)
  refine ⟨rfl, rfl, by omega, by omega, fun k hk => ⟨rfl, rfl, rfl, ?_, ?_, ?_⟩, fun k hk => ⟨rfl, rfl, ?_, ?_⟩, fun c hc => ⟨rfl, rfl, rfl, ?_, ?_, ?_⟩⟩
  · have := o6 k hk; omega
  · have := o6 k hk; omega
  · have := o6 k hk; omega
  · have := o7 k hk; omega
  · have := o7 k hk; omega
  · have := o8 c hc; omega
  · have := o8 c hc; omega
  · have := o8 c hc; omega
theorem dr_kBo : kBo (drB E) (drS E) (drC E) (drR E) (drP E).1.length (drN E) := by
  obtain ⟨o1, o2, o3, o4, o5, o6, o7, o8, -⟩ := dr_bay (E := E)
  refine ⟨rfl, rfl, o1.2, o2.2, o3, fun k hk => ?_, fun c hc => ?_⟩
  · obtain ⟨q1, q2, q3, q4⟩ := o6 k hk
    exact ⟨_, _, _, q1, q2, q4, rfl, rfl, rfl⟩
  · obtain ⟨q1, q2, q3, q4⟩ := o8 c hc
    exact ⟨_, q3, q4, rfl⟩
theorem dr_kSt : kSt (drA E) (fun _ => 0) (drC E) (drR E) (drP E).1.length (drN E) 0 := by
  obtain ⟨o1, o2, o3, o4, o5, o6, o7, o8, -⟩ := dr_bay (E := E)
  refine ⟨fun k hk => ⟨0, by omega, rfl⟩, fun c hc => ?_, ⟨0, 0, by omega, by omega, rfl, rfl⟩⟩
  obtain ⟨q1, q2, q3, q4⟩ := o8 c hc
  exact ⟨drX E c, drY E c, 0, 0, q1, q2, by omega, by omega, rfl, rfl, rfl, rfl⟩
end START
