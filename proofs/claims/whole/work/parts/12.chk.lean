/-! ===== the table is what the tables of the Statement say ===== -/
def xT (k : Nat) (w : Jvm.Cond) : Bool := decide (tables_1[k]? = some w)
theorem xT_ok {k : Nat} {w : Jvm.Cond} (h : xT k w = true) : w ∈ lw_tbl := List.mem_append_right _ (List.mem_of_getElem? (of_decide_eq_true h))
def xTN (k : Nat) (f : String → Jvm.Cond) : Bool := xT k (f "TeaRegatta") || xT k (f "TeaRegattaModel")
theorem xTN_ok {k : Nat} {f : String → Jvm.Cond} (h : xTN k f = true) : ∃ hst, f hst ∈ lw_tbl := by
  unfold xTN at h
  rw [Bool.or_eq_true] at h
  rcases h with h | h
  · exact ⟨_, xT_ok h⟩
  · exact ⟨_, xT_ok h⟩
/-- what the tables say of a method, by the places of its words -/
def xmfB (n : Nat) : Bool := match xpl n, xprog n with
  | (pi, pc, ps, psel, ar, kd), y =>
    xT pi (.initialized y.nm.cls) && xT pc (xcw y) && decide (y.nm.cls ≠ "java/lang/invoke/MethodHandle") && decide (y.nm.cls ≠ "java/lang/invoke/VarHandle") && decide ((parseMethodDescriptor y.nm.desc).map (fun d => d.parameters.length) = some ar) && Nat.ble y.ml 40 && decide (y.hh = []) == !(Nat.beq kd 6) &&
    (match kd with
      | 0 => xT ps (.instanceMethod y.nm) && decide (lw_tbl[psel]? = some (.selects y.nm.cls y.nm y.nm)) && (Nat.blt y.ci 12 && decide (xcN y.ci = y.nm.cls) || Nat.beq y.ci 1000 && decide (y.nm.cls = xstr))
      | 1 => xT ps (.static y.nm)
      | 2 => xT ps (.instanceMethod y.nm) && decide (y.nm.name = "<init>") && decide (y.rt = none)
      | 6 => xT ps (.static y.nm)
      | _ => false)
def xkok (k kd : Nat) : Bool := match k with | 0 => Nat.beq kd 0 | 3 => Nat.beq kd 0 | 1 => Nat.beq kd 1 | 4 => Nat.beq kd 1 | 2 => Nat.beq kd 2 | 5 => Nat.beq kd 2 | 6 => Nat.beq kd 6 | _ => false

/-- a call's row: its link, its kind, its number of arguments; the method's own words are xmfB -/
def xchC (own : String) (k x ar pl mn : Nat) : Bool := Nat.blt mn 261 && Nat.beq ar (xpl mn).2.2.2.2.1 && xkok k (xpl mn).2.2.2.2.2 && (if Nat.ble k 2 || Nat.beq k 6 then xT pl (.methodLink own x (xprog mn).nm) else xTN pl (fun h => .methodLinkNest own x (xprog mn).nm h))
theorem xchC_ok {own : String} {k x ar pl mn : Nat} (hm : ∀ n, n < 261 → xmfB n = true) (h : xchC own k x ar pl mn = true) : xokC own k x ar (xprog mn) := by
  unfold xchC at h
  simp only [Bool.and_eq_true] at h
  obtain ⟨⟨⟨h1, h2⟩, h3⟩, h4⟩ := h
  have hf := hm mn (Nat.blt_eq.mp h1)
  unfold xmfB at hf
  generalize hxp : xpl mn = xq at hf h2 h3
  obtain ⟨pi, pc, ps, psel, ar', kd⟩ := xq
  dsimp only at hf h2 h3
  have har : ar = ar' := Nat.eq_of_beq_eq_true h2
  subst har
  generalize xprog mn = y at hf h4 ⊢
  simp only [Bool.and_eq_true, decide_eq_true_eq] at hf
  obtain ⟨⟨⟨⟨⟨⟨⟨f1, f2⟩, f3⟩, f4⟩, f5⟩, f6⟩, f7⟩, f8⟩ := hf
  have hL : (k ≤ 2 ∨ k = 6) → Jvm.Cond.methodLink own x y.nm ∈ lw_tbl := by
    intro q
    rw [if_pos (by simp only [Bool.or_eq_true, Nat.ble_eq, Nat.beq_eq]; exact q)] at h4
    exact xT_ok h4
  have hN : ¬ (k ≤ 2 ∨ k = 6) → ∃ hst, Jvm.Cond.methodLinkNest own x y.nm hst ∈ lw_tbl := by
    intro q
    rw [if_neg (by simp only [Bool.or_eq_true, Nat.ble_eq, Nat.beq_eq]; exact q)] at h4
    exact xTN_ok h4
  have hhh : kd ≠ 6 → y.hh = [] := by
    intro q
    rw [beq_iff_eq] at f7
    have : Nat.beq kd 6 = false := by
      cases z : Nat.beq kd 6
      · rfl
      · exact absurd (Nat.eq_of_beq_eq_true z) q
    rw [this] at f7
    exact of_decide_eq_true f7
  have hh6 : kd = 6 → ¬ y.hh = [] := by
    intro q
    subst q
    rw [beq_iff_eq] at f7
    exact of_decide_eq_false f7
  refine ⟨⟨xT_ok f1, xT_ok f2, ⟨f3, f4⟩, f5, Nat.le_of_ble_eq_true f6⟩, fun q => ?_, fun q => ?_, fun q => ?_, fun q => ?_, fun q => hL (by omega), fun q => hN (by omega)⟩
  · have hk : kd = 0 := by rcases q with rfl | rfl <;> exact Nat.eq_of_beq_eq_true h3
    subst hk
    simp only [Bool.and_eq_true, Bool.or_eq_true, decide_eq_true_eq, Nat.blt_eq, Nat.beq_eq] at f8
    exact ⟨hhh (by decide), xT_ok f8.1.1, List.mem_of_getElem? f8.1.2, f8.2⟩
  · have hk : kd = 1 := by rcases q with rfl | rfl <;> exact Nat.eq_of_beq_eq_true h3
    subst hk
    exact ⟨hhh (by decide), xT_ok f8⟩
  · have hk : kd = 2 := by rcases q with rfl | rfl <;> exact Nat.eq_of_beq_eq_true h3
    subst hk
    simp only [Bool.and_eq_true, decide_eq_true_eq] at f8
    exact ⟨hhh (by decide), xT_ok f8.1.1, f8.1.2, f8.2⟩
  · subst q
    have hk : kd = 6 := Nat.eq_of_beq_eq_true h3
    subst hk
    exact ⟨hh6 rfl, xT_ok f8⟩
def xchk (y : xM) (pc : Nat) (q : xI) : Bool := match q with
  | (i, len, r1, r2, r3, pl) => decide (decode y.by pc = .ok (i, len)) && (match i with
    | .iconst _ | .lconst _ | .dconst _ | .iload_n _ | .lload_n _ | .aload_n _ | .istore_n _ | .lstore_n _ | .astore_n _ => Nat.beq len 1
    | .iadd | .isub | .imul | .iand | .ishr | .iushr | .idiv | .irem | .ineg | .ladd | .lsub | .lmul | .lcmp | .i2l | .l2i | .i2b | .i2c | .i2d | .ddiv | .dcmp _ | .dup | .dup2 | .pop => Nat.beq len 1
    | .iaload | .iastore | .laload | .lastore | .baload | .bastore | .aaload | .arraylength | .athrow | .ireturn | .lreturn | .dreturn | .return_ => Nat.beq len 1
    | .bipush _ | .iload _ | .lload _ | .dload _ | .aload _ | .istore _ | .lstore _ | .dstore _ | .astore _ | .newarray _ => Nat.beq len 2
    | .sipush _ | .iinc _ _ | .ifCond _ _ | .if_icmp _ _ | .goto _ => Nat.beq len 3
    | .ldc2_w x => Nat.beq len 3 && xT pl (.constantLong y.nm.cls x (Int64.ofNat r2))
    | .ldc x => Nat.beq len 2 && decide (y.nm.cls = RX7) && (Nat.beq x 29 && Nat.beq r2 152 || Nat.beq x 90 && Nat.beq r2 154)
    | .getstatic x => Nat.beq len 3 && (Nat.beq r1 0 && xT pl (.fieldLink y.nm.cls x xstr "COMPACT_STRINGS" "Z") || Nat.beq r1 2 && xT pl (.fieldLink y.nm.cls x "jdk/internal/util/Preconditions" "SIOOBE_FORMATTER" "Ljava/util/function/BiFunction;") || Nat.beq r1 1 && xT pl (.fieldLinkNest y.nm.cls x "TeaRegattaModel" "WORDS" "[Ljava/lang/String;" "TeaRegattaModel"))
    | .getfield x => Nat.beq len 3 && (bif Nat.beq r1 1000 then (Nat.beq r2 0 && xT pl (.fieldLink y.nm.cls x xstr "value" "[B") || Nat.beq r2 1 && xT pl (.fieldLink y.nm.cls x xstr "coder" "B")) else (Nat.blt r2 (xnf r1) && (xT pl (.fieldLink y.nm.cls x (xcT r1 r2).1 (xcT r1 r2).2.1 (xcT r1 r2).2.2.1) || xTN pl (fun h => .fieldLinkNest y.nm.cls x (xcT r1 r2).1 (xcT r1 r2).2.1 (xcT r1 r2).2.2.1 h))))
    | .putfield x => Nat.beq len 3 && Nat.blt r2 (xnf r1) && (bif (xcT r1 r2).2.2.2 then (decide (y.nm.name = "<init>") && decide ((xcT r1 r2).1 = y.nm.cls) && xT pl (.fieldLink y.nm.cls x (xcT r1 r2).1 (xcT r1 r2).2.1 (xcT r1 r2).2.2.1)) else (xT pl (.fieldLink y.nm.cls x (xcT r1 r2).1 (xcT r1 r2).2.1 (xcT r1 r2).2.2.1) || xTN pl (fun h => .fieldLinkNest y.nm.cls x (xcT r1 r2).1 (xcT r1 r2).2.1 (xcT r1 r2).2.2.1 h)))
    | .new x => Nat.beq len 3 && (bif Nat.blt r1 12 then xT pl (.classLink y.nm.cls x (xcN r1)) else (decide (y.nm.cls = RX8) && xT pl (.classLink RX8 x (xen r1)) && (Nat.beq r1 12 && Nat.beq r3 61 || Nat.beq r1 13 && Nat.beq r3 72 || Nat.beq r1 14 && Nat.beq r3 220) && (xmsg.any (fun z => Nat.beq z.1 r2)) && decide (decode y.by (pc + 3) = .ok (.dup, 1)) && decide (decode y.by (pc + 4) = .ok (.ldc r2, 2)) && decide (decode y.by (pc + 6) = .ok (.invokespecial r3, 3))))
    | .invokevirtual x => Nat.beq len 3 && xchC y.nm.cls r1 x r3 pl r2
    | .invokestatic x => Nat.beq len 3 && (bif Nat.beq r1 8 then xT pl (.methodLink y.nm.cls x arraycopyName) else xchC y.nm.cls r1 x r3 pl r2)
    | .invokespecial x => Nat.beq len 3 && (bif Nat.beq r1 7 then xT pl (.methodLink y.nm.cls x Lib.objectInit) else xchC y.nm.cls r1 x r3 pl r2)
    | _ => true)
theorem xw_new : ∀ ci, ci < 12 → Jvm.Cond.instantiable (xcN ci) (xnf ci) ∈ lw_tbl ∧ Jvm.Cond.initialized (xcN ci) ∈ lw_tbl := by
  intro ci h
  match ci, h with
  | 0, _ => decide +kernel
  | 1, _ => decide +kernel
  | 2, _ => decide +kernel
  | 3, _ => decide +kernel
  | 4, _ => decide +kernel
  | 5, _ => decide +kernel
  | 6, _ => decide +kernel
  | 7, _ => decide +kernel
  | 8, _ => decide +kernel
  | 9, _ => decide +kernel
  | 10, _ => decide +kernel
  | 11, _ => decide +kernel
set_option maxRecDepth 100000 in
theorem xw_exc : ∀ (ci ic ik : Nat), (ci = 12 ∧ ic = 61 ∨ ci = 13 ∧ ic = 72 ∨ ci = 14 ∧ ic = 220) → Jvm.Cond.initialized (xen ci) ∈ lw_tbl ∧ (∀ w ∈ vx_atS RX8 ic (xen ci) ["java/lang/RuntimeException", "java/lang/Exception"], w ∈ lw_tbl ∧ xgw w = true) ∧ (∀ w ∈ Jvm.Cond.classLink RX8 ik (xen ci) :: Jvm.Cond.initialized (xen ci) :: vx_atS RX8 ic (xen ci) ["java/lang/RuntimeException", "java/lang/Exception"], vx_ot w = true) := by
  intro ci ic ik h
  rcases h with ⟨rfl, rfl⟩ | ⟨rfl, rfl⟩ | ⟨rfl, rfl⟩
  · exact ⟨by decide +kernel, by decide +kernel, List.forall_mem_cons.mpr ⟨rfl, by decide +kernel⟩⟩
  · exact ⟨by decide +kernel, by decide +kernel, List.forall_mem_cons.mpr ⟨rfl, by decide +kernel⟩⟩
  · exact ⟨by decide +kernel, by decide +kernel, List.forall_mem_cons.mpr ⟨rfl, by decide +kernel⟩⟩
theorem xw_copy : Jvm.Cond.native arraycopyName ∈ lw_tbl ∧ Jvm.Cond.static arraycopyName ∈ lw_tbl ∧ Jvm.Cond.initialized "java/lang/System" ∈ lw_tbl := by decide +kernel
theorem xw_obj : Jvm.Cond.instanceMethod Lib.objectInit ∈ lw_tbl ∧ Jvm.Cond.code Lib.objectInit ⟨#[0xb1]⟩ 1 none ∈ lw_tbl := by decide +kernel
theorem xchk_ok {y : xM} {pc : Nat} {i : Instr} {len r1 r2 r3 pl : Nat} (hm : ∀ n, n < 261 → xmfB n = true) (h : xchk y pc (i, len, r1, r2, r3, pl) = true) : decode y.by pc = .ok (i, len) ∧ xlk xprog y pc i len r1 r2 r3 := by
  unfold xchk at h
  dsimp only at h
  rw [Bool.and_eq_true] at h
  obtain ⟨h1, h2⟩ := h
  refine ⟨of_decide_eq_true h1, ?_⟩
  cases i
  case ldc2_w x =>
    simp only [Bool.and_eq_true, Nat.beq_eq] at h2
    exact ⟨h2.1, xT_ok h2.2⟩
  case ldc x =>
    simp only [Bool.and_eq_true, Bool.or_eq_true, Nat.beq_eq, decide_eq_true_eq] at h2
    exact ⟨h2.1.1, h2.1.2, h2.2⟩
  case getstatic x =>
    simp only [Bool.and_eq_true, Bool.or_eq_true, Nat.beq_eq] at h2
    refine ⟨h2.1, ?_⟩
    rcases h2.2 with (⟨q1, q2⟩ | ⟨q1, q2⟩) | ⟨q1, q2⟩
    · exact Or.inl ⟨q1, xT_ok q2⟩
    · exact Or.inr (Or.inl ⟨q1, xT_ok q2⟩)
    · exact Or.inr (Or.inr ⟨q1, xT_ok q2⟩)
  case getfield x =>
    simp only [Bool.and_eq_true, Nat.beq_eq] at h2
    refine ⟨h2.1, fun q => ?_, fun q => ?_⟩
    · have e : Nat.beq r1 1000 = false := by
        cases z : Nat.beq r1 1000
        · rfl
        · have := Nat.eq_of_beq_eq_true z; omega
      rw [e, cond_false] at h2
      simp only [Bool.and_eq_true, Bool.or_eq_true, Nat.blt_eq] at h2
      refine ⟨h2.2.1, ?_⟩
      rcases h2.2.2 with q2 | q2
      · exact Or.inl (xT_ok q2)
      · exact Or.inr (xTN_ok q2)
    · subst q
      have e : Nat.beq 1000 1000 = true := rfl
      rw [e, cond_true] at h2
      simp only [Bool.and_eq_true, Bool.or_eq_true, Nat.beq_eq] at h2
      rcases h2.2 with ⟨q1, q2⟩ | ⟨q1, q2⟩
      · exact Or.inl ⟨q1, xT_ok q2⟩
      · exact Or.inr ⟨q1, xT_ok q2⟩
  case putfield x =>
    simp only [Bool.and_eq_true, Nat.beq_eq, Nat.blt_eq] at h2
    refine ⟨h2.1.1, fun q => ⟨h2.1.2, ?_⟩⟩
    cases z : (xcT r1 r2).2.2.2
    · rw [z, cond_false] at h2
      rw [Bool.or_eq_true] at h2
      refine Or.inl ⟨rfl, ?_⟩
      rcases h2.2 with q2 | q2
      · exact Or.inl (xT_ok q2)
      · exact Or.inr (xTN_ok q2)
    · rw [z, cond_true] at h2
      simp only [Bool.and_eq_true, decide_eq_true_eq] at h2
      exact Or.inr ⟨rfl, h2.2.1.1, h2.2.1.2, xT_ok h2.2.2⟩
  case new x =>
    rw [Bool.and_eq_true] at h2
    obtain ⟨g1, g2⟩ := h2
    refine ⟨Nat.eq_of_beq_eq_true g1, fun q => ?_, fun q => ?_⟩
    · rw [Nat.blt_eq.mpr q, cond_true] at g2
      exact ⟨xT_ok g2, xw_new r1 q⟩
    · have e : Nat.blt r1 12 = false := by
        cases z : Nat.blt r1 12
        · rfl
        · have := Nat.blt_eq.mp z; omega
      rw [e, cond_false] at g2
      simp only [Bool.and_eq_true, Bool.or_eq_true, Nat.beq_eq, decide_eq_true_eq] at g2
      obtain ⟨⟨⟨⟨⟨⟨k1, k2⟩, k3⟩, k4⟩, k5⟩, k6⟩, k7⟩ := g2
      have k3' : r1 = 12 ∧ r3 = 61 ∨ r1 = 13 ∧ r3 = 72 ∨ r1 = 14 ∧ r3 = 220 := by
        rcases k3 with (z | z) | z
        · exact Or.inl z
        · exact Or.inr (Or.inl z)
        · exact Or.inr (Or.inr z)
      obtain ⟨w1, w2, w3⟩ := xw_exc r1 r3 x k3'
      obtain ⟨⟨z1, z2⟩, z3, z4⟩ := List.any_eq_true.mp k4
      have z5 : z1 = r2 := Nat.eq_of_beq_eq_true z4
      subst z5
      show xokX _ _ _ _ _ _ _
      unfold xokX
      rw [k1]
      exact ⟨rfl, xT_ok k2, w1, ⟨z2, z3⟩, w2, w3, k5, k6, k7⟩
  case invokevirtual x =>
    rw [Bool.and_eq_true] at h2
    exact ⟨Nat.eq_of_beq_eq_true h2.1, xchC_ok hm h2.2⟩
  case invokestatic x =>
    rw [Bool.and_eq_true] at h2
    refine ⟨Nat.eq_of_beq_eq_true h2.1, fun q => ?_, fun q => ?_⟩
    · subst q
      have e : Nat.beq 8 8 = true := rfl
      rw [e, cond_true] at h2
      exact ⟨xT_ok h2.2, xw_copy⟩
    · have e : Nat.beq r1 8 = false := by
        cases z : Nat.beq r1 8
        · rfl
        · exact absurd (Nat.eq_of_beq_eq_true z) q
      rw [e, cond_false] at h2
      exact xchC_ok hm h2.2
  case invokespecial x =>
    rw [Bool.and_eq_true] at h2
    refine ⟨Nat.eq_of_beq_eq_true h2.1, fun q => ?_, fun q => ?_⟩
    · subst q
      have e : Nat.beq 7 7 = true := rfl
      rw [e, cond_true] at h2
      exact ⟨xT_ok h2.2, xw_obj⟩
    · have e : Nat.beq r1 7 = false := by
        cases z : Nat.beq r1 7
        · rfl
        · exact absurd (Nat.eq_of_beq_eq_true z) q
      rw [e, cond_false] at h2
      exact xchC_ok hm h2.2
  all_goals first | exact Nat.eq_of_beq_eq_true h2 | trivial
/-- every number from a to a + n - 1 -/
def xevery (f : Nat → Bool) (a : Nat) : Nat → Bool
  | 0 => true
  | n + 1 => f a && xevery f (a + 1) n
theorem xevery_ok {f : Nat → Bool} : ∀ (n a : Nat), xevery f a n = true → ∀ k, a ≤ k → k < a + n → f k = true
  | 0, _, _, _, _, _ => by omega
  | n + 1, a, h, k, h1, h2 => by
    simp only [xevery, Bool.and_eq_true] at h
    by_cases q : k = a
    · rw [q]; exact h.1
    · exact xevery_ok n (a + 1) h.2 k (by omega) (by omega)
def xchF (y : xM) (pc : Nat) : Bool := match y.cd pc with | none => true | some q => xchk y pc q
def xhkB (y : xM) : Bool := y.hh.all (fun q => decide (Jvm.Cond.classLink y.nm.cls q.2.2.2.1 (xen q.2.2.2.2) ∈ lw_tbl) && decide (q.2.2.2.1 ≠ 0) && Nat.ble 12 q.2.2.2.2 && Nat.blt q.2.2.2.2 15 && decide (Jvm.Cond.castable (xen q.2.2.2.2) (xen q.2.2.2.2) ∈ lw_tbl))
theorem xMOK_of {y : xM} {N : Nat} (hm : ∀ n, n < 261 → xmfB n = true) (hp : plainName y.nm.cls = true) (hh : xhkB y = true) (hN : ∀ pc q, y.cd pc = some q → pc < N) (hc : ∀ pc, pc < N → xchF y pc = true) : xMOK xprog y := by
  refine ⟨hp, fun q hq => ?_, fun pc i len r1 r2 r3 r4 hcd => ?_⟩
  · have := List.all_eq_true.mp hh q hq
    simp only [Bool.and_eq_true, decide_eq_true_eq, Nat.ble_eq, Nat.blt_eq] at this
    exact ⟨this.1.1.1.1, this.1.1.1.2, this.1.1.2, this.1.2, this.2⟩
  · have h1 := hc pc (hN pc _ hcd)
    unfold xchF at h1
    rw [hcd] at h1
    exact xchk_ok hm h1
theorem xcd_guard {n N : Nat} {t : Option xI} {q : xI} (h : (bif Nat.blt n N then t else none) = some q) : n < N := by
  cases z : Nat.blt n N
  · rw [z] at h; cases h
  · exact Nat.blt_eq.mp z


