def xKP (n : Nat) (q : Nat) : Prop := Jvm.Cond.constantLong (xon (n / 10000)) (n % 10000) (Int64.ofNat q) ∈ lw_tbl
def xLC : Nat → Option Nat := fun n => (bif Nat.blt n 70095 then (bif Nat.beq n 70084 then some 10 else none) else (bif Nat.beq n 70095 then some 32 else none))
theorem xk_70084 : xKP 70084 10 := (xt5 (List.mem_of_getElem? (i := 233) rfl))
theorem xk_70095 : xKP 70095 32 := (xt1 (List.mem_of_getElem? (i := 118) rfl))
theorem xLC_ok (n : Nat) : ∀ q, xLC n = some q → xKP n q := xot (xol xk_70084) (xol xk_70095)
/-- plain links (no nest mate's) of final fields -/
def xnest : Nat → Bool := fun n => (bif Nat.blt n 10047 then (bif Nat.blt n 10012 then (bif Nat.blt n 32 then (bif Nat.blt n 23 then (bif Nat.blt n 19 then Nat.beq n 15 else Nat.beq n 19) else (bif Nat.blt n 26 then Nat.beq n 23 else (bif Nat.blt n 29 then Nat.beq n 26 else Nat.beq n 29))) else (bif Nat.blt n 38 then (bif Nat.blt n 35 then Nat.beq n 32 else Nat.beq n 35) else (bif Nat.blt n 41 then Nat.beq n 38 else (bif Nat.blt n 44 then Nat.beq n 41 else Nat.beq n 44)))) else (bif Nat.blt n 10031 then (bif Nat.blt n 10022 then (bif Nat.blt n 10018 then Nat.beq n 10012 else Nat.beq n 10018) else (bif Nat.blt n 10025 then Nat.beq n 10022 else (bif Nat.blt n 10028 then Nat.beq n 10025 else Nat.beq n 10028))) else (bif Nat.blt n 10038 then (bif Nat.blt n 10034 then Nat.beq n 10031 else Nat.beq n 10034) else (bif Nat.blt n 10041 then Nat.beq n 10038 else (bif Nat.blt n 10044 then Nat.beq n 10041 else Nat.beq n 10044))))) else (bif Nat.blt n 70009 then (bif Nat.blt n 40009 then (bif Nat.blt n 20014 then (bif Nat.blt n 10050 then Nat.beq n 10047 else Nat.beq n 10050) else (bif Nat.blt n 20025 then Nat.beq n 20014 else (bif Nat.blt n 30009 then Nat.beq n 20025 else Nat.beq n 30009))) else (bif Nat.blt n 50009 then (bif Nat.blt n 40015 then Nat.beq n 40009 else Nat.beq n 40015) else (bif Nat.blt n 50015 then Nat.beq n 50009 else (bif Nat.blt n 60009 then Nat.beq n 50015 else Nat.beq n 60009)))) else (bif Nat.blt n 80010 then (bif Nat.blt n 70019 then (bif Nat.blt n 70015 then Nat.beq n 70009 else Nat.beq n 70015) else (bif Nat.blt n 70023 then Nat.beq n 70019 else (bif Nat.blt n 70026 then Nat.beq n 70023 else Nat.beq n 70026))) else (bif Nat.blt n 80047 then (bif Nat.blt n 80021 then Nat.beq n 80010 else (bif Nat.blt n 80043 then Nat.beq n 80021 else Nat.beq n 80043)) else (bif Nat.blt n 120009 then Nat.beq n 80047 else (bif Nat.blt n 120015 then Nat.beq n 120009 else Nat.beq n 120015))))))
theorem xnt {Q : Nat → Prop} {n : Nat} {c a b : Bool} (ha : a = true → Q n) (hb : b = true → Q n) : (bif c then a else b) = true → Q n := by cases c; exact hb; exact ha
theorem xnl {Q : Nat → Prop} {n k : Nat} (h : Q k) : Nat.beq n k = true → Q n := fun e => by rw [Nat.eq_of_beq_eq_true e]; exact h
def xNP (n : Nat) : Prop := ∀ q, xFL n = some q → Jvm.Cond.fieldLink (xon (n / 10000)) (n % 10000) (xcT q.1 q.2).1 (xcT q.1 q.2).2.1 (xcT q.1 q.2).2.2.1 ∈ lw_tbl
theorem xn_15 : xNP 15 := fun q h => by cases (show some (0, 0) = some q from h); exact (xt2 (List.mem_of_getElem? (i := 55) rfl))
theorem xn_19 : xNP 19 := fun q h => by cases (show some (0, 1) = some q from h); exact (xt2 (List.mem_of_getElem? (i := 56) rfl))
theorem xn_23 : xNP 23 := fun q h => by cases (show some (0, 2) = some q from h); exact (xt2 (List.mem_of_getElem? (i := 58) rfl))
theorem xn_26 : xNP 26 := fun q h => by cases (show some (0, 3) = some q from h); exact (xt2 (List.mem_of_getElem? (i := 59) rfl))
theorem xn_29 : xNP 29 := fun q h => by cases (show some (0, 4) = some q from h); exact (xt2 (List.mem_of_getElem? (i := 61) rfl))
theorem xn_32 : xNP 32 := fun q h => by cases (show some (0, 5) = some q from h); exact (xt2 (List.mem_of_getElem? (i := 63) rfl))
theorem xn_35 : xNP 35 := fun q h => by cases (show some (0, 6) = some q from h); exact (xt2 (List.mem_of_getElem? (i := 65) rfl))
theorem xn_38 : xNP 38 := fun q h => by cases (show some (0, 7) = some q from h); exact (xt2 (List.mem_of_getElem? (i := 67) rfl))
theorem xn_41 : xNP 41 := fun q h => by cases (show some (0, 8) = some q from h); exact (xt2 (List.mem_of_getElem? (i := 69) rfl))
theorem xn_44 : xNP 44 := fun q h => by cases (show some (0, 9) = some q from h); exact (xt2 (List.mem_of_getElem? (i := 71) rfl))
theorem xn_10012 : xNP 10012 := fun q h => by cases (show some (1, 0) = some q from h); exact (xt1 (List.mem_of_getElem? (i := 200) rfl))
theorem xn_10018 : xNP 10018 := fun q h => by cases (show some (1, 1) = some q from h); exact (xt1 (List.mem_of_getElem? (i := 203) rfl))
theorem xn_10022 : xNP 10022 := fun q h => by cases (show some (1, 2) = some q from h); exact (xt1 (List.mem_of_getElem? (i := 205) rfl))
theorem xn_10025 : xNP 10025 := fun q h => by cases (show some (1, 3) = some q from h); exact (xt1 (List.mem_of_getElem? (i := 207) rfl))
theorem xn_10028 : xNP 10028 := fun q h => by cases (show some (1, 4) = some q from h); exact (xt1 (List.mem_of_getElem? (i := 209) rfl))
theorem xn_10031 : xNP 10031 := fun q h => by cases (show some (1, 5) = some q from h); exact (xt1 (List.mem_of_getElem? (i := 210) rfl))
theorem xn_10034 : xNP 10034 := fun q h => by cases (show some (1, 6) = some q from h); exact (xt1 (List.mem_of_getElem? (i := 211) rfl))
theorem xn_10038 : xNP 10038 := fun q h => by cases (show some (1, 7) = some q from h); exact (xt1 (List.mem_of_getElem? (i := 212) rfl))
theorem xn_10041 : xNP 10041 := fun q h => by cases (show some (1, 8) = some q from h); exact (xt1 (List.mem_of_getElem? (i := 214) rfl))
theorem xn_10044 : xNP 10044 := fun q h => by cases (show some (1, 9) = some q from h); exact (xt1 (List.mem_of_getElem? (i := 216) rfl))
theorem xn_10047 : xNP 10047 := fun q h => by cases (show some (1, 10) = some q from h); exact (xt1 (List.mem_of_getElem? (i := 218) rfl))
theorem xn_10050 : xNP 10050 := fun q h => by cases (show some (1, 11) = some q from h); exact (xt1 (List.mem_of_getElem? (i := 220) rfl))
theorem xn_20014 : xNP 20014 := fun q h => by cases (show some (2, 0) = some q from h); exact (xt1 (List.mem_of_getElem? (i := 153) rfl))
theorem xn_20025 : xNP 20025 := fun q h => by cases (show some (2, 1) = some q from h); exact (xt1 (List.mem_of_getElem? (i := 154) rfl))
theorem xn_30009 : xNP 30009 := fun q h => by cases (show some (3, 0) = some q from h); exact (xt1 (List.mem_of_getElem? (i := 149) rfl))
theorem xn_40009 : xNP 40009 := fun q h => by cases (show some (4, 0) = some q from h); exact (xt2 (List.mem_of_getElem? (i := 39) rfl))
theorem xn_40015 : xNP 40015 := fun q h => by cases (show some (4, 1) = some q from h); exact (xt2 (List.mem_of_getElem? (i := 40) rfl))
theorem xn_50009 : xNP 50009 := fun q h => by cases (show some (5, 0) = some q from h); exact (xt1 (List.mem_of_getElem? (i := 185) rfl))
theorem xn_50015 : xNP 50015 := fun q h => by cases (show some (5, 1) = some q from h); exact (xt1 (List.mem_of_getElem? (i := 187) rfl))
theorem xn_60009 : xNP 60009 := fun q h => by cases (show some (6, 0) = some q from h); exact (xt1 (List.mem_of_getElem? (i := 44) rfl))
theorem xn_70009 : xNP 70009 := fun q h => by cases (show some (7, 0) = some q from h); exact (xt1 (List.mem_of_getElem? (i := 119) rfl))
theorem xn_70015 : xNP 70015 := fun q h => by cases (show some (7, 1) = some q from h); exact (xt1 (List.mem_of_getElem? (i := 120) rfl))
theorem xn_70019 : xNP 70019 := fun q h => by cases (show some (7, 2) = some q from h); exact (xt1 (List.mem_of_getElem? (i := 121) rfl))
theorem xn_70023 : xNP 70023 := fun q h => by cases (show some (7, 3) = some q from h); exact (xt1 (List.mem_of_getElem? (i := 122) rfl))
theorem xn_70026 : xNP 70026 := fun q h => by cases (show some (7, 4) = some q from h); exact (xt1 (List.mem_of_getElem? (i := 123) rfl))
theorem xn_80010 : xNP 80010 := fun q h => by cases (show some (8, 0) = some q from h); exact (xt2 (List.mem_of_getElem? (i := 109) rfl))
theorem xn_80021 : xNP 80021 := fun q h => by cases (show some (8, 1) = some q from h); exact (xt2 (List.mem_of_getElem? (i := 110) rfl))
theorem xn_80043 : xNP 80043 := fun q h => by cases (show some (8, 2) = some q from h); exact (xt2 (List.mem_of_getElem? (i := 111) rfl))
theorem xn_80047 : xNP 80047 := fun q h => by cases (show some (8, 3) = some q from h); exact (xt2 (List.mem_of_getElem? (i := 112) rfl))
theorem xn_120009 : xNP 120009 := fun q h => by cases (show some (12, 0) = some q from h); exact (xt5 (List.mem_of_getElem? (i := 152) rfl))
theorem xn_120015 : xNP 120015 := fun q h => by cases (show some (12, 1) = some q from h); exact (xt5 (List.mem_of_getElem? (i := 153) rfl))
theorem xnest_ok (n : Nat) : xnest n = true → xNP n := xnt (Q := xNP) (xnt (Q := xNP) (xnt (Q := xNP) (xnt (Q := xNP) (xnt (Q := xNP) (xnl (Q := xNP) xn_15) (xnl (Q := xNP) xn_19)) (xnt (Q := xNP) (xnl (Q := xNP) xn_23) (xnt (Q := xNP) (xnl (Q := xNP) xn_26) (xnl (Q := xNP) xn_29)))) (xnt (Q := xNP) (xnt (Q := xNP) (xnl (Q := xNP) xn_32) (xnl (Q := xNP) xn_35)) (xnt (Q := xNP) (xnl (Q := xNP) xn_38) (xnt (Q := xNP) (xnl (Q := xNP) xn_41) (xnl (Q := xNP) xn_44))))) (xnt (Q := xNP) (xnt (Q := xNP) (xnt (Q := xNP) (xnl (Q := xNP) xn_10012) (xnl (Q := xNP) xn_10018)) (xnt (Q := xNP) (xnl (Q := xNP) xn_10022) (xnt (Q := xNP) (xnl (Q := xNP) xn_10025) (xnl (Q := xNP) xn_10028)))) (xnt (Q := xNP) (xnt (Q := xNP) (xnl (Q := xNP) xn_10031) (xnl (Q := xNP) xn_10034)) (xnt (Q := xNP) (xnl (Q := xNP) xn_10038) (xnt (Q := xNP) (xnl (Q := xNP) xn_10041) (xnl (Q := xNP) xn_10044)))))) (xnt (Q := xNP) (xnt (Q := xNP) (xnt (Q := xNP) (xnt (Q := xNP) (xnl (Q := xNP) xn_10047) (xnl (Q := xNP) xn_10050)) (xnt (Q := xNP) (xnl (Q := xNP) xn_20014) (xnt (Q := xNP) (xnl (Q := xNP) xn_20025) (xnl (Q := xNP) xn_30009)))) (xnt (Q := xNP) (xnt (Q := xNP) (xnl (Q := xNP) xn_40009) (xnl (Q := xNP) xn_40015)) (xnt (Q := xNP) (xnl (Q := xNP) xn_50009) (xnt (Q := xNP) (xnl (Q := xNP) xn_50015) (xnl (Q := xNP) xn_60009))))) (xnt (Q := xNP) (xnt (Q := xNP) (xnt (Q := xNP) (xnl (Q := xNP) xn_70009) (xnl (Q := xNP) xn_70015)) (xnt (Q := xNP) (xnl (Q := xNP) xn_70019) (xnt (Q := xNP) (xnl (Q := xNP) xn_70023) (xnl (Q := xNP) xn_70026)))) (xnt (Q := xNP) (xnt (Q := xNP) (xnl (Q := xNP) xn_80010) (xnt (Q := xNP) (xnl (Q := xNP) xn_80021) (xnl (Q := xNP) xn_80043))) (xnt (Q := xNP) (xnl (Q := xNP) xn_80047) (xnt (Q := xNP) (xnl (Q := xNP) xn_120009) (xnl (Q := xNP) xn_120015))))))
def xkok (k kd : Nat) : Bool := match k with | 0 => Nat.beq kd 0 | 3 => Nat.beq kd 0 | 1 => Nat.beq kd 1 | 4 => Nat.beq kd 1 | 2 => Nat.beq kd 2 | 5 => Nat.beq kd 2 | 6 => Nat.beq kd 6 | 12 => Nat.beq kd 0 || Nat.beq kd 12 | 13 => Nat.beq kd 12 | _ => false
def xon2 (a : Option (Nat × Nat)) (x y : Nat) : Bool := match a with | some (p, q) => Nat.beq p x && Nat.beq q y | none => false
def xon1 (a : Option Nat) (x : Nat) : Bool := match a with | some p => Nat.beq p x | none => false
theorem xon2_ok {a : Option (Nat × Nat)} {x y : Nat} (h : xon2 a x y = true) : a = some (x, y) := by
  unfold xon2 at h
  split at h
  · simp only [Bool.and_eq_true, Nat.beq_eq] at h; rw [h.1, h.2]
  · cases h
theorem xon1_ok {a : Option Nat} {x : Nat} (h : xon1 a x = true) : a = some x := by
  unfold xon1 at h
  split at h
  · rw [Nat.eq_of_beq_eq_true h]
  · cases h
/-- a call's row: its link, its kind, its number of arguments -/
def xchC (own k x ar mn : Nat) : Bool := Nat.beq ar (xar mn).1 && xkok k (xar mn).2 && xon2 (xML (own * 10000 + x)) k mn
theorem xdm {a x : Nat} (h : x < 10000) : (a * 10000 + x) / 10000 = a ∧ (a * 10000 + x) % 10000 = x := by omega
theorem xchC_ok {own k x ar mn : Nat} (hx : x < 10000) (h : xchC own k x ar mn = true) : xokC (xon own) k x ar (xprog mn) := by
  unfold xchC at h
  simp only [Bool.and_eq_true] at h
  obtain ⟨⟨h1, h2⟩, h3⟩ := h
  have hl := xML_ok _ _ (xon2_ok h3)
  unfold xMP at hl
  rw [(xdm hx).1, (xdm hx).2] at hl
  have hf := xMF_all mn
  generalize hgm : xar mn = q at h1 h2 hf
  obtain ⟨ar', kd⟩ := q
  dsimp only at h1 h2
  have e1 : ar = ar' := Nat.eq_of_beq_eq_true h1
  subst e1
  have hm1 : (xar mn).1 = ar := by rw [hgm]
  unfold xMF at hf
  obtain ⟨-, -, hf⟩ := hf
  have hk9 : kd ≠ 9 := by
    intro z; subst z
    unfold xkok at h2
    split at h2 <;> cases h2
  obtain ⟨f1, f2, f3, f4, f5, f6⟩ := hf hk9
  refine ⟨f1, fun q => f2 ?_, fun q => f3 ?_, fun q => f4 ?_, fun q => f5 ?_, fun q => hl.2.2.2.1 q, fun q => hl.2.2.2.2.1 q, fun q => ⟨?_, ?_⟩, fun q => ⟨?_, hl.2.2.2.2.2.2.1 q⟩⟩
  · rcases q with rfl | rfl <;> exact Nat.eq_of_beq_eq_true h2
  · rcases q with rfl | rfl <;> exact Nat.eq_of_beq_eq_true h2
  · rcases q with rfl | rfl <;> exact Nat.eq_of_beq_eq_true h2
  · subst q; exact Nat.eq_of_beq_eq_true h2
  · subst q
    have h2 : (Nat.beq kd 0 || Nat.beq kd 12) = true := h2
    rw [Bool.or_eq_true] at h2
    rcases h2 with z | z
    · exact (f2 (Nat.eq_of_beq_eq_true z)).1
    · exact f6 (Nat.eq_of_beq_eq_true z)
  · have h9 := hl.2.2.2.2.2.1 q
    rw [hm1] at h9
    exact h9
  · subst q; exact f6 (Nat.eq_of_beq_eq_true h2)
def xchk (y : xM) (ini : Bool) (pc : Nat) (q : xI) : Bool := match q with
  | (i, len, r1, r2, r3, _) => decide (decode y.by pc = .ok (i, len)) && (match i with
    | .iconst _ | .lconst _ | .dconst _ | .iload_n _ | .lload_n _ | .aload_n _ | .istore_n _ | .lstore_n _ | .astore_n _ => Nat.beq len 1
    | .iadd | .isub | .imul | .iand | .ior | .ishl | .dup_x1 | .aconst_null | .aastore | .areturn | .ishr | .iushr | .idiv | .irem | .ineg | .ladd | .lsub | .lmul | .lcmp | .i2l | .l2i | .i2b | .i2c | .i2d | .ddiv | .dcmp _ | .dup | .dup2 | .pop => Nat.beq len 1
    | .iaload | .iastore | .laload | .lastore | .baload | .bastore | .aaload | .arraylength | .athrow | .ireturn | .lreturn | .dreturn | .return_ => Nat.beq len 1
    | .bipush _ | .iload _ | .lload _ | .dload _ | .aload _ | .istore _ | .lstore _ | .dstore _ | .astore _ | .newarray _ => Nat.beq len 2
    | .sipush _ | .iinc _ _ | .ifCond _ _ | .if_icmp _ _ | .goto _ | .ifnonnull _ => Nat.beq len 3
    | .ldc2_w x => Nat.beq len 3 && Nat.blt x 10000 && xon1 (xLC (y.ci * 10000 + x)) r2
    | .ldc x => Nat.beq len 2 && Nat.blt x 10000 && xon2 (xLD (y.ci * 10000 + x)) r1 r2
    | .checkcast x => Nat.beq len 3 && Nat.blt x 10000 && xon1 (xAL (y.ci * 10000 + x)) 2
    | .anewarray x => Nat.beq len 3 && Nat.blt x 10000 && Nat.blt r1 2 && xon1 (xAL (y.ci * 10000 + x)) r1
    | .getstatic x => Nat.beq len 3 && Nat.blt x 10000 && xon1 (xGT (y.ci * 10000 + x)) r1
    | .getfield x => Nat.beq len 3 && Nat.blt x 10000 && xon2 (xFL (y.ci * 10000 + x)) r1 r2
    | .putfield x => Nat.beq len 3 && Nat.blt x 10000 && xon2 (xFL (y.ci * 10000 + x)) r1 r2 && (if (xcT r1 r2).2.2.2 then ini && Nat.beq r1 y.ci && xnest (y.ci * 10000 + x) else true)
    | .new x => Nat.beq len 3 && Nat.blt x 10000 && xon1 (xCL (y.ci * 10000 + x)) r1 && (Nat.blt r1 13 || (Nat.beq y.ci 8 && (Nat.beq r1 13 && Nat.beq r3 61 || Nat.beq r1 14 && Nat.beq r3 72 || Nat.beq r1 15 && Nat.beq r3 220) && (xmsg.any (fun z => Nat.beq z.1 r2)) && decide (decode y.by (pc + 3) = .ok (.dup, 1)) && decide (decode y.by (pc + 4) = .ok (.ldc r2, 2)) && decide (decode y.by (pc + 6) = .ok (.invokespecial r3, 3))))
    | .invokevirtual x => Nat.beq len 3 && Nat.blt x 10000 && (bif Nat.beq r1 14 then xon2 (xML (y.ci * 10000 + x)) 14 0 else xchC y.ci r1 x r3 r2)
    | .invokestatic x => Nat.beq len 3 && Nat.blt x 10000 && (bif Nat.beq r1 8 then xon2 (xML (y.ci * 10000 + x)) 8 0 else bif Nat.ble 9 r1 then Nat.ble r1 11 && xon2 (xML (y.ci * 10000 + x)) r1 0 else xchC y.ci r1 x r3 r2)
    | .invokespecial x => Nat.beq len 3 && Nat.blt x 10000 && (bif Nat.beq r1 7 then xon2 (xML (y.ci * 10000 + x)) 7 0 else xchC y.ci r1 x r3 r2)
    | _ => true)
theorem xw_new : ∀ ci, ci < 13 → Jvm.Cond.instantiable (xcN ci) (xnf ci) ∈ lw_tbl ∧ Jvm.Cond.initialized (xcN ci) ∈ lw_tbl := by
  intro ci h
  match ci, h with
  | 0, _ => decide +kernel
  | 1, _ => decide +kernel
  | 2, _ => decide +kernel
  | 3, _ => decide +kernel
  | 4, _ => decide +kernel
  | 5, _ => decide +kernel
  | 6, _ => decide +kernel
  | 7, _ => decide +kernel
  | 8, _ => decide +kernel
  | 9, _ => decide +kernel
  | 10, _ => decide +kernel
  | 11, _ => decide +kernel
  | 12, _ => decide +kernel
set_option maxRecDepth 100000 in
theorem xw_exc : ∀ (ci ic ik : Nat), (ci = 13 ∧ ic = 61 ∨ ci = 14 ∧ ic = 72 ∨ ci = 15 ∧ ic = 220) → Jvm.Cond.initialized (xen ci) ∈ lw_tbl ∧ (∀ w ∈ vx_atS RX8 ic (xen ci) ["java/lang/RuntimeException", "java/lang/Exception"], w ∈ lw_tbl ∧ xgw w = true) ∧ (∀ w ∈ Jvm.Cond.classLink RX8 ik (xen ci) :: Jvm.Cond.initialized (xen ci) :: vx_atS RX8 ic (xen ci) ["java/lang/RuntimeException", "java/lang/Exception"], vx_ot w = true) := by
  intro ci ic ik h
  rcases h with ⟨rfl, rfl⟩ | ⟨rfl, rfl⟩ | ⟨rfl, rfl⟩
  · exact ⟨by decide +kernel, by decide +kernel, List.forall_mem_cons.mpr ⟨rfl, by decide +kernel⟩⟩
  · exact ⟨by decide +kernel, by decide +kernel, List.forall_mem_cons.mpr ⟨rfl, by decide +kernel⟩⟩
  · exact ⟨by decide +kernel, by decide +kernel, List.forall_mem_cons.mpr ⟨rfl, by decide +kernel⟩⟩
theorem xw_copy : Jvm.Cond.native arraycopyName ∈ lw_tbl ∧ Jvm.Cond.static arraycopyName ∈ lw_tbl ∧ Jvm.Cond.initialized "java/lang/System" ∈ lw_tbl := by decide +kernel
theorem xw_math : Jvm.Cond.initialized "java/lang/Math" ∈ lw_tbl ∧ Jvm.Cond.static Lib.Math.abs.name ∈ lw_tbl ∧ Jvm.Cond.code Lib.Math.abs.name Lib.Math.abs.code 1 (some .int) ∈ lw_tbl ∧ Jvm.Cond.static Lib.Math.max.name ∈ lw_tbl ∧ Jvm.Cond.code Lib.Math.max.name Lib.Math.max.code 2 (some .int) ∈ lw_tbl ∧ Jvm.Cond.static Lib.Math.min.name ∈ lw_tbl ∧ Jvm.Cond.code Lib.Math.min.name Lib.Math.min.code 2 (some .int) ∈ lw_tbl := by decide +kernel
theorem xw_obj : Jvm.Cond.instanceMethod Lib.objectInit ∈ lw_tbl ∧ Jvm.Cond.code Lib.objectInit ⟨#[0xb1]⟩ 1 none ∈ lw_tbl := by decide +kernel
theorem xw_cl : Jvm.Cond.sameMethod "[B" "java/lang/Object" "clone" "()Ljava/lang/Object;" ∈ lw_tbl ∧ Jvm.Cond.native ⟨"java/lang/Object", "clone", "()Ljava/lang/Object;"⟩ ∈ lw_tbl ∧ Jvm.Cond.instanceMethod ⟨"java/lang/Object", "clone", "()Ljava/lang/Object;"⟩ ∈ lw_tbl ∧ Jvm.Cond.selects "[B" ⟨"[B", "clone", "()Ljava/lang/Object;"⟩ ⟨"java/lang/Object", "clone", "()Ljava/lang/Object;"⟩ ∈ lw_tbl ∧ Jvm.Cond.castable "[B" "java/lang/Cloneable" ∈ lw_tbl := by decide +kernel
theorem xw_own : ∀ ci, ci < 13 → xon ci = xcN ci := by
  intro ci h
  match ci, h with
  | 0, _ => rfl
  | 1, _ => rfl
  | 2, _ => rfl
  | 3, _ => rfl
  | 4, _ => rfl
  | 5, _ => rfl
  | 6, _ => rfl
  | 7, _ => rfl
  | 8, _ => rfl
  | 9, _ => rfl
  | 10, _ => rfl
  | 11, _ => rfl
  | 12, _ => rfl
theorem xw_decl : ∀ ci, ci < 13 → ∀ k, k < xnf ci → (xcT ci k).2.2.2 = true → (xcT ci k).1 = xcN ci := by
  intro ci h
  match ci, h with
  | 0, _ => decide +kernel
  | 1, _ => decide +kernel
  | 2, _ => decide +kernel
  | 3, _ => decide +kernel
  | 4, _ => decide +kernel
  | 5, _ => decide +kernel
  | 6, _ => decide +kernel
  | 7, _ => decide +kernel
  | 8, _ => decide +kernel
  | 9, _ => decide +kernel
  | 10, _ => decide +kernel
  | 11, _ => decide +kernel
  | 12, _ => decide +kernel
theorem xchk_ok {y : xM} {ini : Bool} {pc : Nat} {i : Instr} {len r1 r2 r3 pl : Nat} (hy : y.nm.cls = xon y.ci) (hini : ini = true → y.nm.name = "<init>") (h : xchk y ini pc (i, len, r1, r2, r3, pl) = true) : decode y.by pc = .ok (i, len) ∧ xlk xprog y pc i len r1 r2 r3 := by
  unfold xchk at h
  dsimp only at h
  rw [Bool.and_eq_true] at h
  obtain ⟨h1, h2⟩ := h
  refine ⟨of_decide_eq_true h1, ?_⟩
  cases i
  case ldc2_w x =>
    simp only [Bool.and_eq_true, Nat.beq_eq, Nat.blt_eq] at h2
    have := xLC_ok _ _ (xon1_ok h2.2)
    unfold xKP at this
    rw [(xdm h2.1.2).1, (xdm h2.1.2).2, ← hy] at this
    exact ⟨h2.1.1, this⟩
  case ldc x =>
    simp only [Bool.and_eq_true, Nat.beq_eq, Nat.blt_eq] at h2
    have := xLD_ok _ _ (xon2_ok h2.2)
    unfold xLP at this
    rw [(xdm h2.1.2).1, (xdm h2.1.2).2, ← hy] at this
    exact ⟨h2.1.1, this⟩
  case checkcast x =>
    simp only [Bool.and_eq_true, Nat.beq_eq, Nat.blt_eq] at h2
    have := xAL_ok _ _ (xon1_ok h2.2)
    unfold xAP at this
    rw [(xdm h2.1.2).1, (xdm h2.1.2).2, ← hy] at this
    exact ⟨h2.1.1, this⟩
  case anewarray x =>
    simp only [Bool.and_eq_true, Nat.beq_eq, Nat.blt_eq] at h2
    have := xAL_ok _ _ (xon1_ok h2.2)
    unfold xAP at this
    rw [(xdm h2.1.1.2).1, (xdm h2.1.1.2).2, ← hy] at this
    refine ⟨h2.1.1.1, fun q => ?_, fun q => ?_⟩
    · rw [if_pos q] at this; exact this
    · have q1 : r1 = 1 := by omega
      rw [if_neg q, if_pos q1] at this; exact this
  case getstatic x =>
    simp only [Bool.and_eq_true, Nat.beq_eq, Nat.blt_eq] at h2
    have := xGT_ok _ _ (xon1_ok h2.2)
    unfold xGP at this
    rw [(xdm h2.1.2).1, (xdm h2.1.2).2, ← hy] at this
    exact ⟨h2.1.1, this⟩
  case getfield x =>
    simp only [Bool.and_eq_true, Nat.beq_eq, Nat.blt_eq] at h2
    have := xFL_ok _ _ (xon2_ok h2.2)
    unfold xFP at this
    rw [(xdm h2.1.2).1, (xdm h2.1.2).2, ← hy] at this
    exact ⟨h2.1.1, this.1, this.2⟩
  case putfield x =>
    simp only [Bool.and_eq_true, Nat.beq_eq, Nat.blt_eq] at h2
    obtain ⟨⟨⟨g1, g2⟩, g3⟩, g4⟩ := h2
    have hl := xFL_ok _ _ (xon2_ok g3)
    unfold xFP at hl
    rw [(xdm g2).1, (xdm g2).2, ← hy] at hl
    refine ⟨g1, fun q => ⟨(hl.1 q).1, ?_⟩⟩
    cases z : (xcT r1 r2).2.2.2
    · exact Or.inl ⟨rfl, (hl.1 q).2⟩
    · rw [if_pos z] at g4
      simp only [Bool.and_eq_true, Nat.beq_eq] at g4
      have hn := xnest_ok _ g4.2 _ (xon2_ok g3)
      rw [(xdm g2).1, (xdm g2).2, ← hy] at hn
      exact Or.inr ⟨rfl, hini g4.1.1, by rw [xw_decl r1 q r2 (hl.1 q).1 z, ← xw_own r1 q, g4.1.2, hy], hn⟩
  case new x =>
    simp only [Bool.and_eq_true, Nat.beq_eq, Nat.blt_eq] at h2
    obtain ⟨⟨⟨g1, g2⟩, g3⟩, g4⟩ := h2
    have hl := xCL_ok _ _ (xon1_ok g3)
    unfold xCP at hl
    rw [(xdm g2).1, (xdm g2).2, ← hy] at hl
    refine ⟨g1, fun q => ?_, fun q => ?_⟩
    · rw [if_pos q] at hl
      exact ⟨hl, xw_new r1 q⟩
    · rw [if_neg (by omega)] at hl
      rw [Bool.or_eq_true] at g4
      rcases g4 with g4 | g4
      · have := Nat.blt_eq.mp g4; omega
      · simp only [Bool.and_eq_true, Bool.or_eq_true, Nat.beq_eq, decide_eq_true_eq] at g4
        obtain ⟨⟨⟨⟨⟨k1, k3⟩, k4⟩, k5⟩, k6⟩, k7⟩ := g4
        have k3' : r1 = 13 ∧ r3 = 61 ∨ r1 = 14 ∧ r3 = 72 ∨ r1 = 15 ∧ r3 = 220 := by
          rcases k3 with (z | z) | z
          · exact Or.inl z
          · exact Or.inr (Or.inl z)
          · exact Or.inr (Or.inr z)
        obtain ⟨w1, w2, w3⟩ := xw_exc r1 r3 x k3'
        obtain ⟨⟨z1, z2⟩, z3, z4⟩ := List.any_eq_true.mp k4
        have z5 : z1 = r2 := Nat.eq_of_beq_eq_true z4
        subst z5
        have hyy : y.nm.cls = RX8 := by rw [hy, k1]; rfl
        rw [hyy] at hl
        show xokX _ _ _ _ _ _ _
        unfold xokX
        rw [hyy]
        exact ⟨rfl, hl, w1, ⟨z2, z3⟩, w2, w3, k5, k6, k7⟩
  case invokevirtual x =>
    simp only [Bool.and_eq_true, Nat.beq_eq, Nat.blt_eq] at h2
    obtain ⟨⟨g1, g2⟩, g3⟩ := h2
    refine ⟨g1, fun q => ?_, fun q => ?_⟩
    · subst q
      have e : Nat.beq 14 14 = true := rfl
      rw [e, cond_true] at g3
      have hl := xML_ok _ _ (xon2_ok g3)
      unfold xMP at hl
      rw [(xdm g2).1, (xdm g2).2, ← hy] at hl
      exact ⟨hl.2.2.2.2.2.2.2 rfl, xw_cl⟩
    · have e : Nat.beq r1 14 = false := by
        cases z : Nat.beq r1 14
        · rfl
        · exact absurd (Nat.eq_of_beq_eq_true z) q
      rw [e, cond_false] at g3
      rw [hy]
      exact xchC_ok g2 g3
  case invokestatic x =>
    simp only [Bool.and_eq_true, Nat.beq_eq, Nat.blt_eq] at h2
    obtain ⟨⟨g1, g2⟩, g3⟩ := h2
    refine ⟨g1, fun q => ?_, fun q => ?_, fun q => ?_⟩
    · subst q
      have e : Nat.beq 8 8 = true := rfl
      rw [e, cond_true] at g3
      have hl := xML_ok _ _ (xon2_ok g3)
      unfold xMP at hl
      rw [(xdm g2).1, (xdm g2).2, ← hy] at hl
      exact ⟨hl.2.1 rfl, xw_copy⟩
    · have e : Nat.beq r1 8 = false := by
        cases z : Nat.beq r1 8
        · rfl
        · have := Nat.eq_of_beq_eq_true z; omega
      rw [e, cond_false, Nat.ble_eq_true_of_le q, cond_true, Bool.and_eq_true] at g3
      have q11 := Nat.le_of_ble_eq_true g3.1
      have hl := xML_ok _ _ (xon2_ok g3.2)
      unfold xMP at hl
      rw [(xdm g2).1, (xdm g2).2, ← hy] at hl
      obtain ⟨w1, w2, w3, w4, w5, w6, w7⟩ := xw_math
      refine ⟨w1, ?_⟩
      rcases hl.2.2.1 q q11 with ⟨z1, z2⟩ | ⟨z1, z2⟩ | ⟨z1, z2⟩
      · exact Or.inl ⟨z1, z2, w2, w3⟩
      · exact Or.inr (Or.inl ⟨z1, z2, w4, w5⟩)
      · exact Or.inr (Or.inr ⟨z1, z2, w6, w7⟩)
    · have e : Nat.beq r1 8 = false := by
        cases z : Nat.beq r1 8
        · rfl
        · have := Nat.eq_of_beq_eq_true z; omega
      have e2 : Nat.ble 9 r1 = false := by
        cases z : Nat.ble 9 r1
        · rfl
        · have := Nat.le_of_ble_eq_true z; omega
      rw [e, e2, cond_false, cond_false] at g3
      rw [hy]
      exact xchC_ok g2 g3
  case invokespecial x =>
    simp only [Bool.and_eq_true, Nat.beq_eq, Nat.blt_eq] at h2
    obtain ⟨⟨g1, g2⟩, g3⟩ := h2
    refine ⟨g1, fun q => ?_, fun q => ?_⟩
    · subst q
      have e : Nat.beq 7 7 = true := rfl
      rw [e, cond_true] at g3
      have hl := xML_ok _ _ (xon2_ok g3)
      unfold xMP at hl
      rw [(xdm g2).1, (xdm g2).2, ← hy] at hl
      exact ⟨hl.1 rfl, xw_obj⟩
    · have e : Nat.beq r1 7 = false := by
        cases z : Nat.beq r1 7
        · rfl
        · exact absurd (Nat.eq_of_beq_eq_true z) q
      rw [e, cond_false] at g3
      rw [hy]
      exact xchC_ok g2 g3
  all_goals first | exact Nat.eq_of_beq_eq_true h2 | trivial
/-- every number from a to a + n - 1 -/
def xevery (f : Nat → Bool) (a : Nat) : Nat → Bool
  | 0 => true
  | n + 1 => f a && xevery f (a + 1) n
theorem xevery_ok {f : Nat → Bool} : ∀ (n a : Nat), xevery f a n = true → ∀ k, a ≤ k → k < a + n → f k = true
  | 0, _, _, _, _, _ => by omega
  | n + 1, a, h, k, h1, h2 => by
    simp only [xevery, Bool.and_eq_true] at h
    by_cases q : k = a
    · rw [q]; exact h.1
    · exact xevery_ok n (a + 1) h.2 k (by omega) (by omega)
def xchF (y : xM) (ini : Bool) (pc : Nat) : Bool := match y.cd pc with | none => true | some q => xchk y ini pc q
theorem xMOK_of {y : xM} {ini : Bool} {N : Nat} (q : Nat × Nat) (hm : xMF y q) (hini : ini = true → y.nm.name = "<init>") (hh : xokH y.nm.cls y) (hN : ∀ pc q, y.cd pc = some q → pc < N) (hc : ∀ pc, pc < N → xchF y ini pc = true) : xMOK xprog y := by
  refine ⟨hm.2.1, hh, fun pc i len r1 r2 r3 r4 hcd => ?_⟩
  have h1 := hc pc (hN pc _ hcd)
  unfold xchF at h1
  rw [hcd] at h1
  exact xchk_ok hm.1 hini h1
theorem xhh_nil {own : String} {y : xM} (h : y.hh = []) : xokH own y := fun q hq => by rw [h] at hq; cases hq
theorem xcd_guard {n N : Nat} {t : Option xI} {q : xI} (h : (bif Nat.blt n N then t else none) = some q) : n < N := by
  cases z : Nat.blt n N
  · rw [z] at h; cases h
  · exact Nat.blt_eq.mp z
