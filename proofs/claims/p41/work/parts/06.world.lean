/-! ===== what stands from the law's start on, seen from a method's start ===== -/
def xgw : Jvm.Cond → Bool
  | .methodLinkNest .. => true
  | .fieldLinkNest .. => true
  | .castable .. => true
  | .declares _ => true
  | w => goodWord w
/-- the exceptions' texts: (class's word list number, text) -/
def xmsg : List (Nat × String) := [(59, "the tape would be too long"), (70, "the tape has not so many bytes"), (166, "the clipper would stay"), (168, "there are no clippers"), (173, "no such force"), (175, "less than 1 leaf"), (177, "the clipper has not so much leaf"), (179, "hours are not 0 to 20"), (218, "no such cell"), (221, "no such kettle"), (223, "no such clipper"), (225, "no such direction"), (227, "hours are not 1 to 60")]
def xen (ci : Nat) : String := if ci = 13 then "java/lang/IllegalStateException" else if ci = 14 then "java/lang/IllegalArgumentException" else "java/lang/IndexOutOfBoundsException"
abbrev xAA (N0 : Nat) : Nat → Prop := fun q => N0 ≤ q
abbrev xstr : String := "java/lang/String"
/-- private methods that are run on a StringBuilder -/
def xselB : List MethodName := [yJ5_ensureCapacityInternal_d00df, yJ5_newCapacity_0f7a4, yJ5_inflateIfNeededFor_a7421, yJ5_putStringAt_47b60]
/-- rows of rows of numbers -/
def xAOI (U : State) : Prop := (Cond.arrayOver (.array .int)).before #[] U = true
theorem xAOI.moved {u U : State} (hvm : u.vm.Alike U.vm) (h : xAOI u) : xAOI U := by
  obtain ⟨comp, c, k, h1, h2, h3, h4, h5⟩ := arrayOverA_spec h
  obtain ⟨k', hk', he⟩ := hvm.2.2 _ _ h3
  have hi : (U.vm.classes.findIdx? fun (x : Class) => match x.kind with | .array component _ => component == comp | _ => false) = some c := by
    rw [hvm.findIdx?_eq _ (fun _ => rfl)]
    exact h2
  have hkind : k'.kind = .array comp (.array .int) := by rw [he]; exact h4
  have f1 : U.vm.findClass (FieldType.array .int).toString = some comp := by rw [hvm.findClass]; exact h1
  have f2 : U.vm.findClass ("[" ++ (FieldType.array .int).toString) = some c := by rw [hvm.findClass]; exact h5
  unfold xAOI Cond.before Cond.holds
  simp only [Cond.value]
  rw [f1, Option.bind_some]
  refine (congrArg (fun o : Option Nat => (o.bind (fun c => (U.vm.classes[c]?).map fun (k : Class) => match k.kind with | .array _ ty => decide (ty = FieldType.array .int) && decide (U.vm.findClass ("[" ++ (FieldType.array .int).toString) = some c) | _ => false) == some true)) hi).trans ?_
  simp [hk', hkind, f2]
def xL (s : State) (args : Array Value) (E : xE) (N0 : Nat) (κ : Nat → Value) (cA : FieldType → ClassId) (D : va_G) : Prop :=
  (∀ w ∈ lw_tbl, xgw w = true → w.before args s = true) ∧ va_K D xcls (xtys cA) s ∧
  (∃ b : Nat, κ 0 = .ref b ∧ b < s.heap.size ∧ ¬ xAA N0 b ∧ va_X b E.1 E.2 s s.heap) ∧
  (va_Z xstr "COMPACT_STRINGS" "Z" (.int 1) (xAA N0) s s.heap ∧ va_Z "jdk/internal/util/Preconditions" "SIOOBE_FORMATTER" "Ljava/util/function/BiFunction;" (κ 2) (xAA N0) s s.heap ∧ (va_Z "TeaRegattaLaw" "MEASURES" "[Ljava/lang/String;" (κ 1) (xAA N0) s s.heap ∧ ∃ t, κ 1 = .ref t ∧ va_T (.object xstr) t 10 (fun j => κ (100 + 2 * j)) (xAA N0) s s.heap) ∧ (va_Z "TeaRegattaLaw" "SIGNS" "[Ljava/lang/String;" (κ 5) (xAA N0) s s.heap ∧ ∃ t, κ 5 = .ref t ∧ va_T (.object xstr) t 10 (fun j => κ (120 + 2 * j)) (xAA N0) s s.heap) ∧ (va_Z "java/lang/Integer" "DigitOnes" "[B" (κ 3) (xAA N0) s s.heap ∧ ∃ t, κ 3 = .ref t ∧ va_T .byte t 100 (fun j => .int (xdig 3 j)) (xAA N0) s s.heap) ∧ va_Z "java/lang/Integer" "DigitTens" "[B" (κ 4) (xAA N0) s s.heap ∧ ∃ t, κ 4 = .ref t ∧ va_T .byte t 100 (fun j => .int (xdig 4 j)) (xAA N0) s s.heap) ∧
  (∀ i, i < 43 → ∃ ak av : Nat, κ (100 + 2 * i) = .ref ak ∧ κ (101 + 2 * i) = .ref av ∧ va_O xstr ak (xAA N0) s s.heap ∧ va_OF xstr "coder" "B" (.int 0) ak (xAA N0) s s.heap ∧ va_OF xstr "value" "[B" (.ref av) ak (xAA N0) s s.heap ∧ va_T .byte av (xtb.getD i []).length (fun j => .int ((xtb.getD i []).getD j 0)) (xAA N0) s s.heap) ∧
  (∀ i, i < 43 → ∃ q, κ (100 + 2 * i) = .ref q ∧ vk_R (xsr.getD i ("", 0)).1 (xsr.getD i ("", 0)).2 (xtx.getD i "") q s) ∧
  (∀ x ∈ xmsg, ∃ q, vk_R RX8 x.1 x.2 q s) ∧
  (vx_Zq Bundle.tN "UNASSIGNED_STACK" Bundle.steD (xAA N0) s s.heap ∧ vx_Zq Bundle.tN "SUPPRESSED_SENTINEL" Bundle.listD (xAA N0) s s.heap) ∧
  True ∧
  ((∀ k, (κ k).category = 1) ∧ ∀ k, (∃ a, κ k = .ref a) ∨ κ k = .null) ∧ va_AO RX9 s ∧ xAOI s ∧ ∀ x ∈ xselB, (Jvm.Cond.selects RJ4 x x).before args s = true
/-- a later state: nothing that stood there at first has changed -/
def xAt (s0 : State) (N0 n : Nat) (s : State) : Prop := s0.WarmedH s.vm ∧ s.heap.size = N0 + n ∧ ∀ q : Nat, q < N0 → s.heap[q]? = s0.heap[q]?
theorem xword {w : Jvm.Cond} {s0 s : State} {a0 args : Array Value} (hW : s0.WarmedH s.vm) (hg : xgw w = true) (h : w.before a0 s0 = true) : w.before args s = true := by
  cases w
  case methodLinkNest a i x hst => exact va_Nw.use rfl (va_Nw.warmM hW (va_Nw.of rfl h))
  case fieldLinkNest a i b n d hst => exact va_Nw.use rfl (va_Nw.warmF hW (va_Nw.of rfl h))
  case castable a b => exact va_Nw.use rfl (va_Nw.warmC hW (va_Nw.of rfl h))
  case declares a => exact va_Nw.use rfl (va_Nw.warmD hW (va_Nw.of rfl h))
  all_goals exact word_at hW (good_of_word hg) h
theorem xL_at {s0 s : State} {a0 args : Array Value} {E : xE} {N0 n : Nat} {κ : Nat → Value} {cA : FieldType → ClassId} {D : va_G} (h0 : s0.heap.size = N0) (h : xL s0 a0 E N0 κ cA D) (hs : xAt s0 N0 n s) : xL s args E N0 κ cA D := by
  obtain ⟨h1, h2, ⟨b, b1, b2, b3, b4⟩, ⟨z1, z2, ⟨z3, t, z4, z5⟩, ⟨z6, t2, z7, z8⟩, ⟨z9, t3, z10, z11⟩, z12, t4, z13, z14⟩, h5, h6, h7, ⟨h8, h9⟩, h10, h11, h12, h13, h14⟩ := h
  obtain ⟨hW, hsz, hq⟩ := hs
  have hq' : ∀ a : Nat, a < s0.heap.size → ¬ xAA N0 a → s.heap[a]? = s0.heap[a]? := fun a ha _ => hq a (by omega)
  have hvm := hW.alike
  refine ⟨fun w hw hg => xword hW hg (h1 w hw hg), h2.moved hvm, ⟨b, b1, by omega, b3, (b4.moved hvm).kept (hq b (by omega))⟩, ⟨(z1.moved hvm).kept hq', (z2.moved hvm).kept hq', ⟨(z3.moved hvm).kept hq', t, z4, (va_T.moved hvm z5).kept hq'⟩, ⟨(z6.moved hvm).kept hq', t2, z7, (va_T.moved hvm z8).kept hq'⟩, ⟨(z9.moved hvm).kept hq', t3, z10, (va_T.moved hvm z11).kept hq'⟩, (z12.moved hvm).kept hq', t4, z13, (va_T.moved hvm z14).kept hq'⟩, fun i hi => ?_, fun i hi => ?_, fun x hx => ?_, ⟨(h8.moved hvm).kept hq', (h9.moved hvm).kept hq'⟩, trivial, h11, h12.moved hvm, h13.moved hvm, fun x hx => word_at hW (good_of_word rfl) (h14 x hx)⟩
  · obtain ⟨ak, av, e1, e2, e3, e4, e5, e6⟩ := h5 i hi
    exact ⟨ak, av, e1, e2, (va_O.moved hvm e3).kept hq', (va_OF.moved hvm e4).kept hq', (va_OF.moved hvm e5).kept hq', (va_T.moved hvm e6).kept hq'⟩
  · obtain ⟨q, hq2, hq3⟩ := h6 i hi
    exact ⟨q, hq2, hq3.warm hW⟩
  · obtain ⟨q, hq3⟩ := h7 x hx
    exact ⟨q, hq3.warm hW⟩
