/-- a row of bytes made again -/
def xcln (own : String) (x : Nat) : Prop := Jvm.Cond.methodLink own x ⟨"[B", "clone", "()Ljava/lang/Object;"⟩ ∈ lw_tbl ∧ Jvm.Cond.sameMethod "[B" "java/lang/Object" "clone" "()Ljava/lang/Object;" ∈ lw_tbl ∧ Jvm.Cond.native ⟨"java/lang/Object", "clone", "()Ljava/lang/Object;"⟩ ∈ lw_tbl ∧ Jvm.Cond.instanceMethod ⟨"java/lang/Object", "clone", "()Ljava/lang/Object;"⟩ ∈ lw_tbl ∧ Jvm.Cond.selects "[B" ⟨"[B", "clone", "()Ljava/lang/Object;"⟩ ⟨"java/lang/Object", "clone", "()Ljava/lang/Object;"⟩ ∈ lw_tbl ∧ Jvm.Cond.castable "[B" "java/lang/Cloneable" ∈ lw_tbl
/-- what the tables say of an instruction -/
def xlk (prog : Nat → xM) (y : xM) (pc : Nat) (i : Instr) (len r1 r2 r3 : Nat) : Prop := match i with
  | .iconst _ | .lconst _ | .dconst _ | .iload_n _ | .lload_n _ | .aload_n _ | .istore_n _ | .lstore_n _ | .astore_n _ => len = 1
  | .iadd | .isub | .imul | .iand | .ior | .ishl | .dup_x1 | .aconst_null | .aastore | .areturn | .ishr | .iushr | .idiv | .irem | .ineg | .ladd | .lsub | .lmul | .lcmp | .i2l | .l2i | .i2b | .i2c | .i2d | .ddiv | .dcmp _ | .dup | .dup2 | .pop => len = 1
  | .iaload | .iastore | .laload | .lastore | .baload | .bastore | .aaload | .arraylength | .athrow | .ireturn | .lreturn | .dreturn | .return_ => len = 1
  | .bipush _ | .iload _ | .lload _ | .dload _ | .aload _ | .istore _ | .lstore _ | .dstore _ | .astore _ | .newarray _ => len = 2
  | .sipush _ | .iinc _ _ | .ifCond _ _ | .if_icmp _ _ | .goto _ | .ifnonnull _ => len = 3
  | .ldc2_w x => len = 3 ∧ Jvm.Cond.constantLong y.nm.cls x (Int64.ofNat r2) ∈ lw_tbl
  | .ldc x => len = 2 ∧ ((r1 = 1 → Jvm.Cond.constant y.nm.cls x (Int32.ofNat r2) ∈ lw_tbl) ∧ (¬ r1 = 1 → ∃ i, i < 43 ∧ r2 = 100 + 2 * i ∧ xsr.getD i ("", 0) = (y.nm.cls, x)))
  | .checkcast x => len = 3 ∧ Jvm.Cond.classLink y.nm.cls x "[B" ∈ lw_tbl
  | .anewarray x => len = 3 ∧ (r1 = 0 → Jvm.Cond.classLink y.nm.cls x "[I" ∈ lw_tbl) ∧ (¬ r1 = 0 → Jvm.Cond.classLink y.nm.cls x RX9 ∈ lw_tbl)
  | .getstatic x => len = 3 ∧ xgst y.nm.cls x r1
  | .getfield x => len = 3 ∧ (r1 < 13 → r2 < xnf r1 ∧ xlkf y.nm.cls x r1 r2) ∧ (r1 = 12 → (r2 = 0 ∧ Jvm.Cond.fieldLink y.nm.cls x xstr "value" "[B" ∈ lw_tbl) ∨ (r2 = 1 ∧ Jvm.Cond.fieldLink y.nm.cls x xstr "coder" "B" ∈ lw_tbl))
  | .putfield x => len = 3 ∧ (r1 < 13 → r2 < xnf r1 ∧ ((xcT r1 r2).2.2.2 = false ∧ xlkf y.nm.cls x r1 r2 ∨ (xcT r1 r2).2.2.2 = true ∧ y.nm.name = "<init>" ∧ (xcT r1 r2).1 = y.nm.cls ∧ Jvm.Cond.fieldLink y.nm.cls x (xcT r1 r2).1 (xcT r1 r2).2.1 (xcT r1 r2).2.2.1 ∈ lw_tbl))
  | .new x => len = 3 ∧ (r1 < 13 → Jvm.Cond.classLink y.nm.cls x (xcN r1) ∈ lw_tbl ∧ Jvm.Cond.instantiable (xcN r1) (xnf r1) ∈ lw_tbl ∧ Jvm.Cond.initialized (xcN r1) ∈ lw_tbl) ∧ (13 ≤ r1 → xokX y.nm.cls y.by pc x r1 r2 r3)
  | .invokevirtual x => len = 3 ∧ (r1 = 14 → xcln y.nm.cls x) ∧ (¬ r1 = 14 → xokC y.nm.cls r1 x r3 (prog r2))
  | .invokestatic x => len = 3 ∧ (r1 = 8 → Jvm.Cond.methodLink y.nm.cls x arraycopyName ∈ lw_tbl ∧ Jvm.Cond.native arraycopyName ∈ lw_tbl ∧ Jvm.Cond.static arraycopyName ∈ lw_tbl ∧ Jvm.Cond.initialized "java/lang/System" ∈ lw_tbl) ∧ (9 ≤ r1 → Jvm.Cond.initialized "java/lang/Math" ∈ lw_tbl ∧ (r1 = 11 ∧ Jvm.Cond.methodLink y.nm.cls x Lib.Math.abs.name ∈ lw_tbl ∧ Jvm.Cond.static Lib.Math.abs.name ∈ lw_tbl ∧ Jvm.Cond.code Lib.Math.abs.name Lib.Math.abs.code 1 (some .int) ∈ lw_tbl ∨ r1 = 9 ∧ Jvm.Cond.methodLink y.nm.cls x Lib.Math.max.name ∈ lw_tbl ∧ Jvm.Cond.static Lib.Math.max.name ∈ lw_tbl ∧ Jvm.Cond.code Lib.Math.max.name Lib.Math.max.code 2 (some .int) ∈ lw_tbl ∨ r1 = 10 ∧ Jvm.Cond.methodLink y.nm.cls x Lib.Math.min.name ∈ lw_tbl ∧ Jvm.Cond.static Lib.Math.min.name ∈ lw_tbl ∧ Jvm.Cond.code Lib.Math.min.name Lib.Math.min.code 2 (some .int) ∈ lw_tbl)) ∧ (r1 < 8 → xokC y.nm.cls r1 x r3 (prog r2))
  | .invokespecial x => len = 3 ∧ (r1 = 7 → Jvm.Cond.methodLink y.nm.cls x Lib.objectInit ∈ lw_tbl ∧ Jvm.Cond.instanceMethod Lib.objectInit ∈ lw_tbl ∧ Jvm.Cond.code Lib.objectInit ⟨#[0xb1]⟩ 1 none ∈ lw_tbl) ∧ (¬ r1 = 7 → xokC y.nm.cls r1 x r3 (prog r2))
  | _ => True
def xMOK (prog : Nat → xM) (y : xM) : Prop := plainName y.nm.cls = true ∧ xokH y.nm.cls y ∧ ∀ pc i len r1 r2 r3 r4, y.cd pc = some (i, len, r1, r2, r3, r4) → decode y.by pc = .ok (i, len) ∧ xlk prog y pc i len r1 r2 r3
/-- an end: which instruction gives which value -/
def xrv (y : xM) (i : Instr) (v : Option Value) : Prop := match i with
  | .ireturn => ∃ x ty, v = some (.int x) ∧ y.rt = some ty ∧ narrow ty (.int x) = .int x
  | .lreturn => ∃ x, v = some (.long x) ∧ y.rt = some .long
  | .dreturn => ∃ x, v = some (.double x) ∧ y.rt = some .double
  | .areturn => ∃ w, v = some w ∧ xisr w = true ∧ xrrt y.rt
  | .return_ => v = none ∧ y.rt = none
  | _ => False
section XALL
set_option maxRecDepth 20000 in
theorem xloc_400 {d L : Nat} (h2 : 60 * d + 460 ≤ L) : 400 ≤ L := by omega
variable {p : Program} {l : Launch} {e : Env} {R : Room} {s : State} {m : MethodId} {args : Array Value} {below : List Frame} {meth : Method} {c : Code} {Qf : State → Prop}
variable {N0 : Nat} {κ : Nat → Value} {cA : FieldType → ClassId} {D : va_G} {n0 k0 : Nat} {rf : xR} {E : xE} {prog : Nat → xM} {y : xM}
theorem xwA : Jvm.Cond.arrayClass .int ∈ lw_tbl ∧ Jvm.Cond.arrayClass .long ∈ lw_tbl ∧ Jvm.Cond.arrayClass .byte ∈ lw_tbl := by decide +kernel

theorem xnext_ok (hst : l.stackTraces = false) (hκ : ∀ k, (κ k).category = 1) (hκ2 : ∀ k, (∃ a, κ k = .ref a) ∨ κ k = .null) (hL : xL s args E N0 κ cA D) (hsz : s.heap.size = N0 + n0) (hR1 : rf.2.2.1 - n0 ≤ R.cells) (hR2 : rf.2.2.2 - k0 ≤ R.slots) (hR3 : 8 ≤ R.frames) (hR4 : 400 ≤ R.locals) (hx : p.tables.exec = Jvm.exec) (hb : c.code = y.by) (hown : s.vm.findClass y.nm.cls = some m.cls) (hnm : meth.name = y.nm.name) {i : Instr} {len r1 r2 r3 pc : Nat} {AL : List (Option Value)} {st : List Value} {AH : xH} {g : Prop} {st' : xF} (hdg : decode y.by pc = .ok (i, len)) (hlk : xlk prog y pc i len r1 r2 r3) (e0 : xop E prog y i len r1 r2 r3 (pc, AL, st, AH) = some (g, .inl st')) (hg : g)
    (h : xP p l e R s m args below meth c Qf N0 κ cA D n0 k0 rf st') : xP p l e R s m args below meth c Qf N0 κ cA D n0 k0 rf (pc, AL, st, AH) := by
  cases i
  case iconst z => exact xs_iconst hκ hκ2 hx hb hdg e0 hg hlk h
  case bipush z => exact xs_bipush hκ hκ2 hx hb hdg e0 hg hlk h
  case sipush z => exact xs_sipush hκ hκ2 hx hb hdg e0 hg hlk h
  case lconst z => exact xs_lconst hκ hκ2 hx hb hdg e0 hg hlk h
  case dconst z => exact xs_dconst hκ hκ2 hx hb hdg e0 hg hlk h
  case iload k => exact xs_iload hκ hκ2 hx hb hdg e0 hg hlk h
  case iload_n k => exact xs_iload_n hκ hκ2 hx hb hdg e0 hg hlk h
  case lload k => exact xs_lload hκ hκ2 hx hb hdg e0 hg hlk h
  case lload_n k => exact xs_lload_n hκ hκ2 hx hb hdg e0 hg hlk h
  case dload k => exact xs_dload hκ hκ2 hx hb hdg e0 hg hlk h
  case aload k => exact xs_aload hκ hκ2 hx hb hdg e0 hg hlk h
  case aload_n k => exact xs_aload_n hκ hκ2 hx hb hdg e0 hg hlk h
  case istore k => exact xs_istore hκ hκ2 hx hb hdg e0 hg hlk h
  case istore_n k => exact xs_istore_n hκ hκ2 hx hb hdg e0 hg hlk h
  case astore k => exact xs_astore hκ hκ2 hx hb hdg e0 hg hlk h
  case astore_n k => exact xs_astore_n hκ hκ2 hx hb hdg e0 hg hlk h
  case lstore k => exact xs_lstore hκ hκ2 hx hb hdg e0 hg hlk h
  case lstore_n k => exact xs_lstore_n hκ hκ2 hx hb hdg e0 hg hlk h
  case dstore k => exact xs_dstore hκ hκ2 hx hb hdg e0 hg hlk h
  case iinc k z => exact xs_iinc hκ hκ2 hx hb hdg e0 hg hlk h
  case iadd  => exact xs_iadd hκ hκ2 hx hb hdg e0 hg hlk h
  case isub  => exact xs_isub hκ hκ2 hx hb hdg e0 hg hlk h
  case imul  => exact xs_imul hκ hκ2 hx hb hdg e0 hg hlk h
  case iand  => exact xs_iand hκ hκ2 hx hb hdg e0 hg hlk h
  case ior  => exact xs_ior hκ hκ2 hx hb hdg e0 hg hlk h
  case ishl  => exact xs_ishl hκ hκ2 hx hb hdg e0 hg hlk h
  case dup_x1  => exact xs_dup_x1 hκ hκ2 hx hb hdg e0 hg hlk h
  case aconst_null  => exact xs_aconst_null hκ hκ2 hx hb hdg e0 hg hlk h
  case ishr  => exact xs_ishr hκ hκ2 hx hb hdg e0 hg hlk h
  case iushr  => exact xs_iushr hκ hκ2 hx hb hdg e0 hg hlk h
  case ladd  => exact xs_ladd hκ hκ2 hx hb hdg e0 hg hlk h
  case lsub  => exact xs_lsub hκ hκ2 hx hb hdg e0 hg hlk h
  case lmul  => exact xs_lmul hκ hκ2 hx hb hdg e0 hg hlk h
  case lcmp  => exact xs_lcmp hκ hκ2 hx hb hdg e0 hg hlk h
  case idiv  => exact xs_idiv hκ hκ2 hx hb hdg e0 hg hlk h
  case irem  => exact xs_irem hκ hκ2 hx hb hdg e0 hg hlk h
  case ddiv  => exact xs_ddiv hκ hκ2 hx hb hdg e0 hg hlk h
  case ineg  => exact xs_ineg hκ hκ2 hx hb hdg e0 hg hlk h
  case i2l  => exact xs_i2l hκ hκ2 hx hb hdg e0 hg hlk h
  case l2i  => exact xs_l2i hκ hκ2 hx hb hdg e0 hg hlk h
  case i2b  => exact xs_i2b hκ hκ2 hx hb hdg e0 hg hlk h
  case i2c  => exact xs_i2c hκ hκ2 hx hb hdg e0 hg hlk h
  case i2d  => exact xs_i2d hκ hκ2 hx hb hdg e0 hg hlk h
  case dcmp op => exact xs_dcmp hκ hκ2 hx hb hdg e0 hg hlk h
  case dup  => exact xs_dup hκ hκ2 hx hb hdg e0 hg hlk h
  case pop  => exact xs_pop hκ hκ2 hx hb hdg e0 hg hlk h
  case dup2  => exact xs_dup2 hκ hκ2 hx hb hdg e0 hg hlk h
  case goto off => exact xs_goto hκ hκ2 hx hb hdg e0 hg hlk h
  case tableswitch d lo hi offs => exact xs_tableswitch hκ hx hb hdg e0 hg h
  case lookupswitch d ps => exact xs_lookupswitch hκ hx hb hdg e0 hg h
  case iaload => exact xs_iaload hL hx hb hdg e0 hg hlk h
  case laload => exact xs_laload hL hx hb hdg e0 hg hlk h
  case baload => exact xs_baload hL hx hb hdg e0 hg hlk h
  case iastore => exact xs_iastore hL hx hb hdg e0 hg hlk h
  case lastore => exact xs_lastore hL hx hb hdg e0 hg hlk h
  case bastore => exact xs_bastore hL hx hb hdg e0 hg hlk h
  case aaload => exact xs_aaload hL hx hb hdg e0 hg hlk h
  case aastore => exact xs_aastore hL hx hb hdg e0 hg hlk h
  case arraylength => exact xs_arraylength hL hx hb hdg e0 hg hlk h
  case getfield x => exact xs_getfield hL hx hb hown hdg e0 hg hlk.1 hlk.2.1 hlk.2.2 h
  case putfield x => exact xs_putfield hL hx hb hown hdg e0 hg hlk.1 (fun q => by obtain ⟨q1, q2⟩ := hlk.2 q; exact ⟨q1, q2.imp (fun z => z) (fun z => by rw [hnm]; exact z)⟩) h
  case ldc2_w x => exact xs_ldc2_w hL hx hb hown hdg e0 hg hlk.1 hlk.2 h
  case ldc x => exact xs_ldc hL hx hb hown hdg e0 hg hlk.1 hlk.2 h
  case getstatic x => exact xs_getstatic hL hx hb hown hdg e0 hg hlk.1 hlk.2 h
  case checkcast x => exact xs_checkcast hL hx hb hown hdg e0 hg hlk.1 hlk.2 h
  case ifnonnull off => exact xs_ifnonnull hL hx hb hdg e0 hg hlk h
  case anewarray x => exact xs_anewarray hL hsz hR1 hR2 hx hb hown hdg e0 hg hlk.1 hlk.2 h
  case newarray t => exact xs_newarray hL hsz hR1 hR2 hx hb hdg e0 hg hlk xwA h
  case new x =>
    by_cases q : r1 < 13
    · exact xs_new hL hsz hR1 hR2 hx hb hown hdg e0 hg hlk.1 q (hlk.2.1 q) h
    · exact xs_newE hL hst hsz hR1 hR2 hR3 hR4 hx hb hown hdg e0 hg hlk.1 hκ (by omega) (hlk.2.2 (by omega)) h
  case invokestatic x =>
    by_cases q : r1 = 8
    · subst q
      exact xs_copy hκ hL hR3 hR4 hx hb hown hdg e0 hg hlk.1 (hlk.2.1 rfl) h
    · unfold xop at e0
      dsimp only at e0
      rw [if_neg q] at e0
      split at e0
      · rename_i q9
        exact xs_math hκ hL hR1 hR2 hR3 hR4 hx hb hown hdg e0 hg hlk.1 (hlk.2.2.1 q9) h
      · split at e0 <;> cases e0
  case invokespecial x =>
    by_cases q : r1 = 7
    · subst q
      exact xs_objinit hκ hL hR3 hR4 hx hb hown hdg e0 hg hlk.1 (hlk.2.1 rfl) h
    · unfold xop at e0
      dsimp only at e0
      rw [if_neg q] at e0
      split at e0
      · cases e0
      · split at e0 <;> cases e0
  case invokevirtual x =>
    by_cases q : r1 = 14
    · subst q
      exact xs_clone hκ hL hsz hR1 hR2 hR3 hR4 hx hb hown hdg e0 hg hlk.1 (hlk.2.1 rfl) h
    · unfold xop at e0
      dsimp only at e0
      rw [if_neg q] at e0
      split at e0
      · cases e0
      · split at e0 <;> cases e0
  case ifCond c off => unfold xop at e0; dsimp only at e0; split at e0 <;> cases e0
  case if_icmp c off => unfold xop at e0; dsimp only at e0; split at e0 <;> cases e0
  case athrow =>
    unfold xop at e0
    dsimp only at e0
    split at e0
    · split at e0 <;> cases e0
    · cases e0
  case ireturn =>
    unfold xop at e0
    dsimp only at e0
    split at e0
    · split at e0 <;> cases e0
    · cases e0
  case areturn => unfold xop at e0; dsimp only at e0; split at e0 <;> cases e0
  case lreturn => unfold xop at e0; dsimp only at e0; split at e0 <;> cases e0
  case dreturn => unfold xop at e0; dsimp only at e0; split at e0 <;> cases e0
  case return_ => unfold xop at e0; dsimp only at e0; split at e0 <;> cases e0
  all_goals (exfalso; revert e0; exact fun q => nomatch q)
/-- which instructions do what -/
theorem xop_fork {i : Instr} {len r1 r2 r3 pc : Nat} {AL : List (Option Value)} {st : List Value} {AH : xH} {g cq : Prop} {sa sb : xF} (e0 : xop E prog y i len r1 r2 r3 (pc, AL, st, AH) = some (g, .inr (.inl (cq, sa, sb)))) : (∃ cc off, i = .ifCond cc off) ∨ ∃ cc off, i = .if_icmp cc off := by
  cases i
  case ifCond c off => exact Or.inl ⟨_, _, rfl⟩
  case if_icmp c off => exact Or.inr ⟨_, _, rfl⟩
  all_goals (exfalso; unfold xop at e0; dsimp only at e0; (repeat' split at e0) <;> first | cases e0 | exact xmath_no e0)
theorem xop_ret {i : Instr} {len r1 r2 r3 pc : Nat} {AL : List (Option Value)} {st : List Value} {AH : xH} {g : Prop} {v : Option Value} (e0 : xop E prog y i len r1 r2 r3 (pc, AL, st, AH) = some (g, .inr (.inr (.inl v)))) (hg : g) : xrv y i v ∧ st = v.toList := by
  cases i
  case ireturn =>
    unfold xop at e0
    dsimp only at e0
    split at e0
    · split at e0
      · rename_i ty hty
        cases e0
        exact ⟨⟨_, _, rfl, hty, hg⟩, rfl⟩
      · cases e0
    · cases e0
  case lreturn =>
    unfold xop at e0
    dsimp only at e0
    split at e0
    · cases e0
      exact ⟨⟨_, rfl, hg⟩, rfl⟩
    · cases e0
  case dreturn =>
    unfold xop at e0
    dsimp only at e0
    split at e0
    · cases e0
      exact ⟨⟨_, rfl, hg⟩, rfl⟩
    · cases e0
  case areturn =>
    unfold xop at e0
    dsimp only at e0
    split at e0
    · cases e0
      exact ⟨⟨_, rfl, hg.1, hg.2⟩, rfl⟩
    · cases e0
  case return_ =>
    unfold xop at e0
    dsimp only at e0
    split at e0
    · cases e0
      exact ⟨⟨rfl, hg⟩, rfl⟩
    · cases e0
  all_goals (exfalso; unfold xop at e0; dsimp only at e0; (repeat' split at e0) <;> first | cases e0 | exact xmath_no e0)
theorem xop_call {i : Instr} {len r1 r2 r3 pc k mn : Nat} {as rest : List Value} {AL : List (Option Value)} {st : List Value} {AH : xH} {g : Prop} (e0 : xop E prog y i len r1 r2 r3 (pc, AL, st, AH) = some (g, .inr (.inr (.inr (.inl (k, mn, as, rest)))))) : k = r1 ∧ mn = r2 ∧ ((∃ x, i = .invokevirtual x ∧ ¬ r1 = 14) ∨ (∃ x, i = .invokestatic x ∧ r1 < 8) ∨ ∃ x, i = .invokespecial x ∧ ¬ r1 = 7) := by
  cases i
  case invokevirtual x =>
    unfold xop at e0
    dsimp only at e0
    split at e0
    · exact absurd e0 (by (repeat' split) <;> (intro q; cases q))
    · rename_i h14
      split at e0
      · cases e0
      · split at e0
        · cases e0; exact ⟨rfl, rfl, Or.inl ⟨_, rfl, h14⟩⟩
        · cases e0
  case invokestatic x =>
    unfold xop at e0
    dsimp only at e0
    split at e0
    · exact absurd e0 (by (repeat' split) <;> (intro q; cases q))
    · rename_i hk
      split at e0
      · exact absurd e0 xmath_no
      · rename_i hk9
        split at e0
        · cases e0
        · cases e0; exact ⟨rfl, rfl, Or.inr (Or.inl ⟨_, rfl, by omega⟩)⟩
  case invokespecial x =>
    unfold xop at e0
    dsimp only at e0
    split at e0
    · split at e0 <;> cases e0
    · rename_i hk
      split at e0
      · cases e0
      · split at e0
        · cases e0; exact ⟨rfl, rfl, Or.inr (Or.inr ⟨_, rfl, hk⟩)⟩
        · cases e0
  all_goals (exfalso; unfold xop at e0; dsimp only at e0; (repeat' split at e0) <;> first | cases e0 | exact xmath_no e0)
theorem xop_thr {i : Instr} {len r1 r2 r3 pc ci : Nat} {AL : List (Option Value)} {st : List Value} {AH : xH} {g : Prop} (e0 : xop E prog y i len r1 r2 r3 (pc, AL, st, AH) = some (g, .inr (.inr (.inr (.inr ci))))) : i = .athrow ∧ ∃ a st', st = .ref a :: st' ∧ xcl AH a = ci ∧ 13 ≤ ci ∧ ci < 16 := by
  cases i
  case athrow =>
    unfold xop at e0
    dsimp only at e0
    split at e0
    · split at e0
      · rename_i hc
        cases e0
        exact ⟨rfl, _, _, rfl, rfl, hc.1, hc.2⟩
      · cases e0
    · cases e0
  all_goals (exfalso; unfold xop at e0; dsimp only at e0; (repeat' split at e0) <;> first | cases e0 | exact xmath_no e0)
/-- one step -/
theorem xstep_ok {s0 : State} {d : Nat} (hst : l.stackTraces = false) (hκ : ∀ k, (κ k).category = 1) (hκ2 : ∀ k, (∃ a, κ k = .ref a) ∨ κ k = .null) (hL : xL s args E N0 κ cA D) (hAt : xAt s0 N0 n0 s) (hR1 : rf.2.2.1 - n0 ≤ R.cells) (hR2 : rf.2.2.2 - k0 ≤ R.slots) (hR3 : d + 9 ≤ R.frames) (hR4 : 60 * d + 460 ≤ R.locals) (hx : p.tables.exec = Jvm.exec) (hb : c.code = y.by) (hown : s.vm.findClass y.nm.cls = some m.cls) (hnm : meth.name = y.nm.name) (hok : xMOK prog y)
    (htab : ¬ y.hh = [] → c.exceptionTable.toList = Jvm.tableOf (xh4 y))
    (hfin : ∀ v AH, (Sum.inl v, AH) = rf → ∀ AL ls H locs pc i, xG s c N0 κ cA D AH AL H locs ls → decode y.by pc = .ok (i, 1) → xrv y i v → W p l e R s m args below meth c H locs (AH.2.1 - n0) (AH.2.2 - k0) Qf (F0 m pc ls (v.toList.map (xm N0 κ))))
    (hthr : ∀ ci AH, (Sum.inr ci, AH) = rf → ∀ AL ls H locs pc rest q ce, y.hh = [] → xG s c N0 κ cA D AH AL H locs ls → xTX s H q ce ci → vx_W p l e R s m args below meth c H locs (AH.2.1 - n0) (AH.2.2 - k0) Qf (F0 m pc ls rest) q)
    (hcall : ∀ mn av AH r, xcall E prog d mn av AH (fun r' => r' = r) → xCon l s0 N0 κ cA D (prog mn) d av AH r)
    (st : xF) (h : xS E prog (xcall E prog d) y (fun r => r = rf) (xP p l e R s m args below meth c Qf N0 κ cA D n0 k0 rf) st) : xP p l e R s m args below meth c Qf N0 κ cA D n0 k0 rf st := by
  obtain ⟨pc, AL, st, AH⟩ := st
  have hR3' : 8 ≤ R.frames := by omega
  have hR4' : 400 ≤ R.locals := xloc_400 hR4
  have hdec : ∀ pc i len r1 r2 r3 r4, y.cd pc = some (i, len, r1, r2, r3, r4) → decode y.by pc = .ok (i, len) ∧ ((∀ k, i = .astore k → len = 2) ∧ ∀ k, i = .astore_n k → len = 1) := by
    intro pc i len r1 r2 r3 r4 q
    obtain ⟨q1, q2⟩ := hok.2.2 pc i len r1 r2 r3 r4 q
    exact ⟨q1, fun k z => by subst z; exact q2, fun k z => by subst z; exact q2⟩
  unfold xS xact at h
  dsimp only at h
  cases hcd : y.cd pc with
  | none => rw [hcd] at h; exact h.elim
  | some q =>
    obtain ⟨i, len, r1, r2, r3, r4⟩ := q
    obtain ⟨hdg, hlk⟩ := hok.2.2 pc i len r1 r2 r3 r4 hcd
    rw [hcd] at h
    dsimp only at h
    split at h
    · exact h.elim
    · rename_i e0
      exact xnext_ok hst hκ hκ2 hL hAt.2.1 hR1 hR2 hR3' hR4' hx hb hown hnm hdg hlk e0 h.1 h.2
    · rename_i g cq sa sb e0
      rcases xop_fork e0 with ⟨cc, off, rfl⟩ | ⟨cc, off, rfl⟩
      · exact xs_if hx hb hdg e0 h.1 hlk h.2.1 h.2.2
      · exact xs_icmp hx hb hdg e0 h.1 hlk h.2.1 h.2.2
    · rename_i g v e0
      obtain ⟨hrv, hsv⟩ := xop_ret e0 h.1
      have hlen : len = 1 := by
        unfold xrv at hrv
        split at hrv <;> first | exact hlk | exact hrv.elim
      subst hlen
      subst hsv
      have hrf : ((Sum.inl v, AH) : xR) = rf := h.2
      intro h1 h2
      exact ⟨by rw [← hrf]; exact ⟨Nat.le_refl _, Nat.le_refl _⟩, fun ls H locs gg => hfin v AH hrf AL ls H locs pc i gg hdg hrv⟩
    · rename_i g k mn as rest e0
      obtain ⟨rfl, rfl, hi⟩ := xop_call e0
      rcases hi with ⟨x, rfl, h14⟩ | ⟨x, rfl, h8⟩ | ⟨x, rfl, h7⟩
      · exact xs_call (x := x) hκ hL hAt hR1 hR2 hR3 hR4 hx hb hown hdec htab hok.2.1 hthr hcall (Or.inl rfl) hdg hlk.1 e0 h.1 (hlk.2.2 h14) h.2
      · exact xs_call (x := x) hκ hL hAt hR1 hR2 hR3 hR4 hx hb hown hdec htab hok.2.1 hthr hcall (Or.inr (Or.inl rfl)) hdg hlk.1 e0 h.1 (hlk.2.2.2 h8) h.2
      · exact xs_call (x := x) hκ hL hAt hR1 hR2 hR3 hR4 hx hb hown hdec htab hok.2.1 hthr hcall (Or.inr (Or.inr rfl)) hdg hlk.1 e0 h.1 (hlk.2.2 h7) h.2
    · rename_i g ci e0
      obtain ⟨rfl, a, st', rfl, hc1, hc2, hc3⟩ := xop_thr e0
      have hlen : len = 1 := hlk
      subst hlen
      intro h1 h2
      obtain ⟨hm, hW⟩ := xthr_s hκ hL hx hb hown hdec htab hok.2.1 hthr h.2 h1 h2
      refine ⟨hm, fun ls H locs gg => ?_⟩
      have hc : ∃ fs, AH.1 a = .inr (ci, fs) := by
        unfold xcl at hc1
        cases q : AH.1 a with
        | inl w => rw [q] at hc1; dsimp only at hc1; omega
        | inr w => obtain ⟨w1, w2⟩ := w; rw [q] at hc1; dsimp only at hc1; exact ⟨w2, by rw [hc1]⟩
      obtain ⟨fs, hfs⟩ := hc
      have hb1 : a < AH.2.1 := xJ_lt gg.1.2.2.2 (by
        rw [hfs]; intro q
        have h9 := (Prod.mk.inj (Sum.inr.inj q)).1
        omega)
      have hq := xws_get (N0 := N0) (κ := κ) (cA := cA) hb1
      rw [hfs] at hq
      obtain ⟨q', z1, cell, z2, z3, z4, -⟩ := gg.1.1 a _ hq
      have z5 := hL.2.1.1 ci _ (xcls_getE ci hc2 hc3)
      exact vx_athrow hx hb hdg (hW ls H locs _ (N0 + a) cell gg ⟨z2, z4, by rw [z3]; exact z5.2.1, hc2, hc3⟩)
end XALL
section XMETS
variable {l : Launch} {N0 : Nat} {κ : Nat → Value} {cA : FieldType → ClassId} {D : va_G} {E : xE} {prog : Nat → xM}
/-- a method at its end, in the model -/
theorem xfin_met {p : Program} {e : Env} {R : Room} {s : State} {m : MethodId} {args : Array Value} {below : List Frame} {meth : Method} {c : Code} {n0 k0 : Nat} {r : xR} {y : xM} (hκ2 : ∀ k, (∃ a, κ k = .ref a) ∨ κ k = .null) (hx : p.tables.exec = Jvm.exec) (hb : c.code = y.by) (hr : meth.sig.returnType = y.rt) (hlocks : meth.locks = false) {v : Option Value} {AH : xH} (hrf : (Sum.inl v, AH) = r) {AL : List (Option Value)} {ls : Array Slot} {H : Heap} {locs : List Loc} {pc : Nat} {i : Instr} (gg : xG s c N0 κ cA D AH AL H locs ls) (hdg : decode y.by pc = .ok (i, 1)) (hrv : xrv y i v) :
    W p l e R s m args below meth c H locs (AH.2.1 - n0) (AH.2.2 - k0) (vx_MQ below (xQc N0 κ cA D r) (xXC N0 κ cA D r) args s (r.2.2.1 - n0) (r.2.2.2 - k0) (xAA N0)) (F0 m pc ls (v.toList.map (xm N0 κ))) := by
  subst hrf
  have hq : ∀ t : State, t.heap = H → s.WarmedH t.vm → xQc N0 κ cA D (Sum.inl v, AH) args s (.returned (v.map (xm N0 κ))) t := fun t ht _ => ⟨⟨v, rfl, rfl⟩, by rw [ht]; exact gg.1.1, gg.1.2.1, gg.1.2.2.2, gg.1.2.2.1.F ht⟩
  refine vx_ret ?_
  cases i
  case ireturn =>
    obtain ⟨x, ty, rfl, h1, h2⟩ := hrv
    exact W.zret hx hb (hr.trans h1) h2 hq gg.1.2.2.1.2.2 hdg hlocks
  case lreturn =>
    obtain ⟨x, rfl, h1⟩ := hrv
    exact W.lret hx hb (hr.trans h1) hq gg.1.2.2.1.2.2 hdg hlocks
  case dreturn =>
    obtain ⟨x, rfl, h1⟩ := hrv
    exact W.dret hx hb (hr.trans h1) hq gg.1.2.2.1.2.2 hdg hlocks
  case areturn =>
    obtain ⟨w, rfl, h1, h2⟩ := hrv
    have hw : xm N0 κ w = .null ∨ ∃ a, xm N0 κ w = .ref a := (xisr_m hκ2 h1).symm
    cases h3 : y.rt with
    | none => rw [h3] at h2; exact h2.elim
    | some ty =>
      rw [h3] at h2
      refine W.aret hx hb (hr.trans h3) ?_ hw hq gg.1.2.2.1.2.2 hdg hlocks
      unfold xrrt at h2
      split at h2
      · rename_i n e; cases e; exact Or.inl ⟨_, rfl⟩
      · rename_i n e; cases e; exact Or.inr ⟨_, rfl⟩
      · exact h2.elim
  case return_ =>
    obtain ⟨rfl, h1⟩ := hrv
    exact W.vret hx hb (hr.trans h1) hq gg.1.2.2.1.2.2 hdg hlocks
  all_goals exact hrv.elim
theorem xop_mono {E : xE} {prog : Nat → xM} {y : xM} {i : Instr} {len r1 r2 r3 pc : Nat} {AL : List (Option Value)} {st : List Value} {AH : xH} {g : Prop} {st' : xF} (e0 : xop E prog y i len r1 r2 r3 (pc, AL, st, AH) = some (g, .inl st')) : AH.2.1 ≤ st'.2.2.2.2.1 ∧ AH.2.2 ≤ st'.2.2.2.2.2 := by
  cases i
  all_goals (unfold xop at e0; dsimp only at e0; (try unfold xmath at e0); (repeat' split at e0) <;> cases e0 <;> first | exact ⟨Nat.le_refl _, Nat.le_refl _⟩ | exact ⟨Nat.le_succ _, Nat.le_add_right _ _⟩)
theorem xop_fork2 {E : xE} {prog : Nat → xM} {y : xM} {i : Instr} {len r1 r2 r3 pc : Nat} {AL : List (Option Value)} {st : List Value} {AH : xH} {g cq : Prop} {sa sb : xF} (e0 : xop E prog y i len r1 r2 r3 (pc, AL, st, AH) = some (g, .inr (.inl (cq, sa, sb)))) : sa.2.2.2 = AH ∧ sb.2.2.2 = AH := by
  rcases xop_fork e0 with ⟨cc, off, rfl⟩ | ⟨cc, off, rfl⟩
  all_goals (unfold xop at e0; dsimp only at e0; split at e0 <;> cases e0 <;> exact ⟨rfl, rfl⟩)
theorem xthr_mn {y : xM} {r : xR} {pc ci : Nat} {AL : List (Option Value)} {H : xH} (h : xthr y (fun r' => r' = r) (fun st => st.2.2.2.2.1 ≤ r.2.2.1 ∧ st.2.2.2.2.2 ≤ r.2.2.2) pc AL ci H) : H.2.1 ≤ r.2.2.1 ∧ H.2.2 ≤ r.2.2.2 := by
  unfold xthr at h
  split at h
  · have h : ((Sum.inr ci, H) : xR) = r := h
    rw [← h]; exact ⟨Nat.le_refl _, Nat.le_refl _⟩
  · split at h
    · exact h.2
    · exact h.elim
theorem xmono {E : xE} {prog : Nat → xM} : ∀ (d mn : Nat) (av : List Value) (AH : xH) (r : xR), xcall E prog d mn av AH (fun r' => r' = r) → AH.2.1 ≤ r.2.2.1 ∧ AH.2.2 ≤ r.2.2.2
  | 0, _, _, _, _, h => h.elim
  | d + 1, mn, av, AH, r, h => by
    refine h.2 (fun st => st.2.2.2.2.1 ≤ r.2.2.1 ∧ st.2.2.2.2.2 ≤ r.2.2.2) (fun st hs => ?_)
    obtain ⟨pc, AL, st, H⟩ := st
    unfold xS xact at hs
    dsimp only at hs
    cases hcd : (prog mn).cd pc with
    | none => rw [hcd] at hs; exact hs.elim
    | some q =>
      obtain ⟨i, len, r1, r2, r3, r4⟩ := q
      rw [hcd] at hs
      dsimp only at hs
      split at hs
      · exact hs.elim
      · rename_i e0
        obtain ⟨q1, q2⟩ := xop_mono e0
        exact ⟨Nat.le_trans q1 hs.2.1, Nat.le_trans q2 hs.2.2⟩
      · rename_i g cq sa sb e0
        obtain ⟨q1, q2⟩ := xop_fork2 e0
        by_cases hq : cq
        · have := hs.2.1 hq; rw [q1] at this; exact this
        · have := hs.2.2 hq; rw [q2] at this; exact this
      · have hs2 : ((Sum.inl _, H) : xR) = r := hs.2
        rw [← hs2]; exact ⟨Nat.le_refl _, Nat.le_refl _⟩
      · obtain ⟨r', hp, ho⟩ := xcall_one d _ _ _ _ hs.2
        obtain ⟨q1, q2⟩ := xmono d _ _ _ _ ho
        split at hp
        · exact ⟨Nat.le_trans q1 hp.1, Nat.le_trans q2 hp.2⟩
        · obtain ⟨q3, q4⟩ := xthr_mn hp
          exact ⟨Nat.le_trans q1 q3, Nat.le_trans q2 q4⟩
      · exact xthr_mn hs.2
end XMETS
