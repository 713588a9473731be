/-! ===== what stands at the law's start ===== -/
section TOPW
variable {s : State} {b : Nat} {args : Array Value}
def xNC : Jvm.Cond := Jvm.Cond.and given_1 narrow_1
def xtL (tm : Jvm.Term) (bs : List Int32) : List Jvm.Cond := [.exactly tm "java/lang/String", .eq (.field tm "java/lang/String" "coder" "B") (.int 0), .arrayOf (.field tm "java/lang/String" "value" "[B") .byte, .eq (.length (.field tm "java/lang/String" "value" "[B")) (.int (Int32.ofNat bs.length))] ++ (List.range bs.length).map (fun j => Jvm.Cond.eq (.elem (.field tm "java/lang/String" "value" "[B") (.int (Int32.ofNat j))) (.int (bs.getD j 0)))
def xtms : List (String × Nat) := [("TeaRegattaModel", 227), ("TeaRegattaModel", 229), ("TeaRegattaModel", 230), ("TeaRegattaModel", 231), ("TeaRegattaModel", 233), ("TeaRegattaModel", 234), ("TeaRegattaModel", 236), ("TeaRegattaModel", 237), ("TeaRegattaModel", 239), ("TeaRegattaModel", 241), ("TeaRegattaModel", 243), ("TeaRegattaModel", 245), ("TeaRegattaModel", 247), ("TeaRegattaModel", 249), ("TeaRegattaModel", 251), ("TeaRegattaModel", 253), ("TeaRegattaModel", 255), ("TeaRegattaModel", 257), ("TeaRegattaModel", 259), ("TeaRegattaModel", 261), ("TeaRegattaModel", 263), ("TeaRegattaModel", 265), ("TeaRegattaModel", 266), ("TeaRegattaModel", 268), ("TeaRegattaModel", 270), ("TeaRegattaModel", 272), ("TeaRegatta$Tokens", 29), ("TeaRegatta$Tokens", 90)]
def xtm (i : Nat) : Jvm.Term := .string (xtms.getD i ("", 0)).1 (xtms.getD i ("", 0)).2
theorem sl_in {L : List Jvm.Cond} {p n : Nat} (h : ((flatC xNC).drop p).take n = L) : ∀ c ∈ L, c ∈ flatC xNC := fun c hc => List.mem_of_mem_drop (List.mem_of_mem_take (by rw [h]; exact hc))
theorem tp_0 : ((flatC xNC).drop 554).take 7 = xtL (xtm 0) (xtb.getD 0 []) := by
  rw [xtb_is]
  decide +kernel
theorem tp_1 : ((flatC xNC).drop 561).take 10 = xtL (xtm 1) (xtb.getD 1 []) := by
  rw [xtb_is]
  decide +kernel
theorem tp_2 : ((flatC xNC).drop 571).take 10 = xtL (xtm 2) (xtb.getD 2 []) := by
  rw [xtb_is]
  decide +kernel
theorem tp_3 : ((flatC xNC).drop 581).take 11 = xtL (xtm 3) (xtb.getD 3 []) := by
  rw [xtb_is]
  decide +kernel
theorem tp_4 : ((flatC xNC).drop 592).take 11 = xtL (xtm 4) (xtb.getD 4 []) := by
  rw [xtb_is]
  decide +kernel
theorem tp_5 : ((flatC xNC).drop 603).take 8 = xtL (xtm 5) (xtb.getD 5 []) := by
  rw [xtb_is]
  decide +kernel
theorem tp_6 : ((flatC xNC).drop 611).take 9 = xtL (xtm 6) (xtb.getD 6 []) := by
  rw [xtb_is]
  decide +kernel
theorem tp_7 : ((flatC xNC).drop 620).take 10 = xtL (xtm 7) (xtb.getD 7 []) := by
  rw [xtb_is]
  decide +kernel
theorem tp_8 : ((flatC xNC).drop 630).take 6 = xtL (xtm 8) (xtb.getD 8 []) := by
  rw [xtb_is]
  decide +kernel
theorem tp_9 : ((flatC xNC).drop 636).take 8 = xtL (xtm 9) (xtb.getD 9 []) := by
  rw [xtb_is]
  decide +kernel
theorem tp_10 : ((flatC xNC).drop 644).take 8 = xtL (xtm 10) (xtb.getD 10 []) := by
  rw [xtb_is]
  decide +kernel
theorem tp_11 : ((flatC xNC).drop 652).take 6 = xtL (xtm 11) (xtb.getD 11 []) := by
  rw [xtb_is]
  decide +kernel
theorem tp_12 : ((flatC xNC).drop 658).take 7 = xtL (xtm 12) (xtb.getD 12 []) := by
  rw [xtb_is]
  decide +kernel
theorem tp_13 : ((flatC xNC).drop 665).take 7 = xtL (xtm 13) (xtb.getD 13 []) := by
  rw [xtb_is]
  decide +kernel
theorem tp_14 : ((flatC xNC).drop 672).take 9 = xtL (xtm 14) (xtb.getD 14 []) := by
  rw [xtb_is]
  decide +kernel
theorem tp_15 : ((flatC xNC).drop 681).take 8 = xtL (xtm 15) (xtb.getD 15 []) := by
  rw [xtb_is]
  decide +kernel
theorem tp_16 : ((flatC xNC).drop 689).take 9 = xtL (xtm 16) (xtb.getD 16 []) := by
  rw [xtb_is]
  decide +kernel
theorem tp_17 : ((flatC xNC).drop 698).take 8 = xtL (xtm 17) (xtb.getD 17 []) := by
  rw [xtb_is]
  decide +kernel
theorem tp_18 : ((flatC xNC).drop 706).take 9 = xtL (xtm 18) (xtb.getD 18 []) := by
  rw [xtb_is]
  decide +kernel
theorem tp_19 : ((flatC xNC).drop 715).take 8 = xtL (xtm 19) (xtb.getD 19 []) := by
  rw [xtb_is]
  decide +kernel
theorem tp_20 : ((flatC xNC).drop 723).take 8 = xtL (xtm 20) (xtb.getD 20 []) := by
  rw [xtb_is]
  decide +kernel
theorem tp_21 : ((flatC xNC).drop 731).take 8 = xtL (xtm 21) (xtb.getD 21 []) := by
  rw [xtb_is]
  decide +kernel
theorem tp_22 : ((flatC xNC).drop 739).take 8 = xtL (xtm 22) (xtb.getD 22 []) := by
  rw [xtb_is]
  decide +kernel
theorem tp_23 : ((flatC xNC).drop 747).take 8 = xtL (xtm 23) (xtb.getD 23 []) := by
  rw [xtb_is]
  decide +kernel
theorem tp_24 : ((flatC xNC).drop 755).take 8 = xtL (xtm 24) (xtb.getD 24 []) := by
  rw [xtb_is]
  decide +kernel
theorem tp_25 : ((flatC xNC).drop 763).take 9 = xtL (xtm 25) (xtb.getD 25 []) := by
  rw [xtb_is]
  decide +kernel
theorem tp_26 : ((flatC xNC).drop 82).take 144 = xtL (xtm 26) (xtb.getD 26 []) := by
  rw [xtb_is]
  decide +kernel
theorem tp_27 : ((flatC xNC).drop 226).take 16 = xtL (xtm 27) (xtb.getD 27 []) := by
  rw [xtb_is]
  decide +kernel
theorem tp_all : ∀ i, i < 28 → ∀ c ∈ xtL (xtm i) (xtb.getD i []), c ∈ flatC xNC := by
  intro i h
  rcases (show i = 0 ∨ i = 1 ∨ i = 2 ∨ i = 3 ∨ i = 4 ∨ i = 5 ∨ i = 6 ∨ i = 7 ∨ i = 8 ∨ i = 9 ∨ i = 10 ∨ i = 11 ∨ i = 12 ∨ i = 13 ∨ i = 14 ∨ i = 15 ∨ i = 16 ∨ i = 17 ∨ i = 18 ∨ i = 19 ∨ i = 20 ∨ i = 21 ∨ i = 22 ∨ i = 23 ∨ i = 24 ∨ i = 25 ∨ i = 26 ∨ i = 27 by omega) with rfl | rfl | rfl | rfl | rfl | rfl | rfl | rfl | rfl | rfl | rfl | rfl | rfl | rfl | rfl | rfl | rfl | rfl | rfl | rfl | rfl | rfl | rfl | rfl | rfl | rfl | rfl | rfl
  · exact sl_in tp_0
  · exact sl_in tp_1
  · exact sl_in tp_2
  · exact sl_in tp_3
  · exact sl_in tp_4
  · exact sl_in tp_5
  · exact sl_in tp_6
  · exact sl_in tp_7
  · exact sl_in tp_8
  · exact sl_in tp_9
  · exact sl_in tp_10
  · exact sl_in tp_11
  · exact sl_in tp_12
  · exact sl_in tp_13
  · exact sl_in tp_14
  · exact sl_in tp_15
  · exact sl_in tp_16
  · exact sl_in tp_17
  · exact sl_in tp_18
  · exact sl_in tp_19
  · exact sl_in tp_20
  · exact sl_in tp_21
  · exact sl_in tp_22
  · exact sl_in tp_23
  · exact sl_in tp_24
  · exact sl_in tp_25
  · exact sl_in tp_26
  · exact sl_in tp_27
theorem xtx1 {tm : Jvm.Term} {bs : List Int32} {A : Nat → Prop} (h : ∀ c ∈ xtL tm bs, c.before args s = true) (hl : bs.length < 2 ^ 31) (hA : ∀ a : Nat, a < s.heap.size → ¬ A a) : ∃ ak av : Nat, tm.eval args s none [] s = some (.ref ak) ∧ va_O xstr ak A s s.heap ∧ va_OF xstr "coder" "B" (.int 0) ak A s s.heap ∧ va_OF xstr "value" "[B" (.ref av) ak A s s.heap ∧ va_T .byte av bs.length (fun j => .int (bs.getD j 0)) A s s.heap := by
  have h' : ∀ c ∈ ([.exactly tm "java/lang/String", .eq (.field tm "java/lang/String" "coder" "B") (.int 0), .arrayOf (.field tm "java/lang/String" "value" "[B") .byte, .eq (.length (.field tm "java/lang/String" "value" "[B")) (.int (Int32.ofNat bs.length))] : List Jvm.Cond), c.before args s = true := fun c hc => h c (List.mem_append_left _ hc)
  obtain ⟨adK, adV, h1, h2⟩ := vk_Sof (args := args) (s := s) (N := 1) (tm := fun _ => tm) (len := [bs.length]) (byt := [bs]) (A := A)
    (fun i hi => by obtain rfl : i = 0 := by omega
                    exact hl)
    (fun i _ => h' _ List.mem_cons_self)
    (fun i _ => h' _ (List.mem_cons_of_mem _ List.mem_cons_self))
    (fun i _ => h' _ (List.mem_cons_of_mem _ (List.mem_cons_of_mem _ List.mem_cons_self)))
    (fun i hi => by obtain rfl : i = 0 := by omega
                    exact h' _ (List.mem_cons_of_mem _ (List.mem_cons_of_mem _ (List.mem_cons_of_mem _ List.mem_cons_self))))
    (fun i hi j hj => by obtain rfl : i = 0 := by omega
                         exact h _ (List.mem_append_right _ (List.mem_map.mpr ⟨j, List.mem_range.mpr hj, rfl⟩)))
    (fun i j hi hj hne => absurd (show i = j by omega) hne) hA
  obtain ⟨g1, g2, g3, g4⟩ := h1.1 0 (by decide)
  exact ⟨adK 0, adV 0, h2 0 (by decide), g1, g2, g3, g4⟩
theorem ins_ok : ∀ ci, ci < 12 → Jvm.Cond.instantiable (xcN ci) (xnf ci) ∈ lw_tbl := by
  intro ci h
  match ci, h with
  | 0, _ => decide +kernel
  | 1, _ => decide +kernel
  | 2, _ => decide +kernel
  | 3, _ => decide +kernel
  | 4, _ => decide +kernel
  | 5, _ => decide +kernel
  | 6, _ => decide +kernel
  | 7, _ => decide +kernel
  | 8, _ => decide +kernel
  | 9, _ => decide +kernel
  | 10, _ => decide +kernel
  | 11, _ => decide +kernel
theorem inE_ok : ∀ ci, 12 ≤ ci → ci < 15 → Jvm.Cond.instantiable (xen ci) 6 ∈ lw_tbl := by
  intro ci h1 h2
  rcases (show ci = 12 ∨ ci = 13 ∨ ci = 14 by omega) with rfl | rfl | rfl <;> decide +kernel
theorem xcls_g : ∀ ci, ci < 12 → xcls[ci]? = some (xcN ci, xcT ci, xnf ci) := by
  intro ci h
  match ci, h with
  | 0, _ => rfl
  | 1, _ => rfl
  | 2, _ => rfl
  | 3, _ => rfl
  | 4, _ => rfl
  | 5, _ => rfl
  | 6, _ => rfl
  | 7, _ => rfl
  | 8, _ => rfl
  | 9, _ => rfl
  | 10, _ => rfl
  | 11, _ => rfl
theorem arr_of {ty : FieldType} (h : (Jvm.Cond.arrayClass ty).before args s = true) : ∃ cA : ClassId, ArrOfT s cA ty ∧ s.vm.findClass ("[" ++ ty.toString) = some cA := by
  obtain ⟨c, k, comp, h1, h2, h3⟩ := Cond.arrayClass_spec h
  exact ⟨c, fun N z => ⟨(fun k h => by cases h), k, h2, comp, h3⟩, h1⟩
theorem xK_of (hts : ∀ w ∈ lw_tbl, w.before args s = true) : ∃ (D : va_G) (cA : FieldType → ClassId), va_K D xcls (xtys cA) s := by
  have h : ∀ k : Nat, ∃ q : ClassId × (Nat → Nat), ∀ r, xcls[k]? = some r → u_Kn s r.1 r.2.1 r.2.2 q.1 q.2 := by
    intro k
    by_cases h1 : k < 12
    · obtain ⟨c, i, hk⟩ := u_known (C := xcN k) (T := xcT k) (N := xnf k) (n := xnf k) hts (fun w hw => (List.mem_filter.mp (xin_ok k h1 w hw)).1) (hts _ (ins_ok k h1))
      exact ⟨(c, i), fun r hr => by rw [xcls_g k h1] at hr; cases hr; exact hk⟩
    · by_cases h2 : k < 15
      · obtain ⟨c, i, hk⟩ := u_known (C := xen k) (T := xTE) (N := 0) (n := 6) hts (fun w hw => by simp [u_ws] at hw) (hts _ (inE_ok k (by omega) h2))
        exact ⟨(c, i), fun r hr => by rw [xcls_getE k (by omega) h2] at hr; cases hr; exact hk⟩
      · obtain ⟨c, i, hk⟩ := u_known (C := xen 12) (T := xTE) (N := 0) (n := 6) hts (fun w hw => by simp [u_ws] at hw) (hts _ (inE_ok 12 (by omega) (by omega)))
        exact ⟨(c, i), fun r hr => by rw [List.getElem?_eq_none (show xcls.length ≤ k from by show 15 ≤ k; omega)] at hr; cases hr⟩
  obtain ⟨f, hf⟩ := Classical.axiomOfChoice h
  obtain ⟨c1, a1, a2⟩ := arr_of (hts _ xwA.1)
  obtain ⟨c2, a3, a4⟩ := arr_of (hts _ xwA.2.1)
  obtain ⟨c3, a5, a6⟩ := arr_of (hts _ xwA.2.2)
  refine ⟨(fun k => (f k).1, fun k => (f k).2), fun ty => match ty with | .int => c1 | .long => c2 | _ => c3, fun k r hr => hf k r hr, fun k q hq => ?_⟩
  match k, hq with
  | 0, hq => cases hq; exact ⟨a1, a2⟩
  | 1, hq => cases hq; exact ⟨a3, a4⟩
  | 2, hq => cases hq; exact ⟨a5, a6⟩
  | k + 3, hq => simp [xtys] at hq
theorem wd_in : ∀ j, j < 26 → Jvm.Cond.eq (.elem (.static "TeaRegattaModel" "WORDS" "[Ljava/lang/String;") (.int (Int32.ofNat j))) (xtm j) ∈ flatC xNC := by
  have h : ((flatC xNC).drop 14).take 26 = (List.range 26).map (fun j => Jvm.Cond.eq (.elem (.static "TeaRegattaModel" "WORDS" "[Ljava/lang/String;") (.int (Int32.ofNat j))) (xtm j)) := by decide +kernel
  exact fun j hj => sl_in h _ (List.mem_map.mpr ⟨j, List.mem_range.mpr hj, rfl⟩)
theorem msg_in : ∀ x ∈ xmsg, Jvm.Cond.stringRef RX8 x.1 x.2 ∈ lw_tbl ∧ Jvm.Cond.exactly (.string RX8 x.1) "java/lang/String" ∈ flatC xNC := by
  have h1 : (xmsg.map fun x => Jvm.Cond.exactly (.string RX8 x.1) "java/lang/String") = [242, 272, 380, 406, 431, 448, 468, 504, 306, 322, 340, 359, 529].map (fun i => (flatC xNC).getD i (.count 0)) := by decide +kernel
  have h2 : ∀ x ∈ xmsg, Jvm.Cond.stringRef RX8 x.1 x.2 ∈ lw_tbl := by decide +kernel
  have h3 : ∀ c ∈ [242, 272, 380, 406, 431, 448, 468, 504, 306, 322, 340, 359, 529].map (fun i => (flatC xNC).getD i (.count 0)), c ∈ flatC xNC := by
    have hl : 772 ≤ (flatC xNC).length := by decide +kernel
    have hb : ∀ i ∈ [242, 272, 380, 406, 431, 448, 468, 504, 306, 322, 340, 359, 529], i < 772 := by decide
    intro c hc
    obtain ⟨i, hi, rfl⟩ := List.mem_map.mp hc
    have hi2 := hb i hi
    show (flatC xNC)[i]?.getD _ ∈ _
    rw [List.getElem?_eq_getElem (by omega)]
    exact List.getElem_mem _
  exact fun x hx => ⟨h2 x hx, h3 _ (by rw [← h1]; exact List.mem_map.mpr ⟨x, hx, rfl⟩)⟩
theorem nc_in : ∀ a b, 12 ≤ a → a < 15 → 12 ≤ b → b < 15 → a ≠ b → Jvm.Cond.not (.castable (xen a) (xen b)) ∈ flatC xNC := by
  intro a b h1 h2 h3 h4 h5
  rcases (show a = 12 ∨ a = 13 ∨ a = 14 by omega) with rfl | rfl | rfl <;> rcases (show b = 12 ∨ b = 13 ∨ b = 14 by omega) with rfl | rfl | rfl
  · exact absurd rfl h5
  · exact List.mem_of_getElem? (i := 65) (by decide +kernel)
  · exact List.mem_of_getElem? (i := 79) (by decide +kernel)
  · exact List.mem_of_getElem? (i := 51) (by decide +kernel)
  · exact absurd rfl h5
  · exact List.mem_of_getElem? (i := 80) (by decide +kernel)
  · exact List.mem_of_getElem? (i := 53) (by decide +kernel)
  · exact List.mem_of_getElem? (i := 67) (by decide +kernel)
  · exact absurd rfl h5
theorem xL_of {L : Nat} {xs : Nat → Int32} (hts : ∀ w ∈ lw_tbl, w.before #[Value.ref b] s = true) (hX : va_X b L xs s s.heap) (hbl : b < s.heap.size) (hgv : xNC.before #[Value.ref b] s = true) : ∃ (κ : Nat → Value) (cA : FieldType → ClassId) (D : va_G), κ 0 = .ref b ∧ xL s #[Value.ref b] (L, xs) s.heap.size κ cA D := by
  have hs := flat_of_before _ hgv
  have hA : ∀ a : Nat, a < s.heap.size → ¬ xAA s.heap.size a := fun a h1 h2 => by
    have h2' : s.heap.size ≤ a := h2
    omega
  obtain ⟨D, cA, hK⟩ := xK_of hts
  have ht : ∀ i : Nat, ∃ q : Nat × Nat, i < 28 → (xtm i).eval #[Value.ref b] s none [] s = some (.ref q.1) ∧ va_O xstr q.1 (xAA s.heap.size) s s.heap ∧ va_OF xstr "coder" "B" (.int 0) q.1 (xAA s.heap.size) s s.heap ∧ va_OF xstr "value" "[B" (.ref q.2) q.1 (xAA s.heap.size) s s.heap ∧ va_T .byte q.2 (xtb.getD i []).length (fun j => .int ((xtb.getD i []).getD j 0)) (xAA s.heap.size) s s.heap := by
    intro i
    by_cases h : i < 28
    · obtain ⟨ak, av, g⟩ := xtx1 (A := xAA s.heap.size) (fun c hc => hs c (tp_all i h c hc)) (Nat.lt_of_le_of_lt (tx_ok i h).2.1 (by decide)) hA
      exact ⟨(ak, av), fun _ => g⟩
    · exact ⟨(0, 0), fun z => absurd z h⟩
  obtain ⟨q, hq⟩ := Classical.axiomOfChoice ht
  obtain ⟨tW, w1, w2⟩ := va_Tof (args := #[Value.ref b]) (s := s) (tm := .static "TeaRegattaModel" "WORDS" "[Ljava/lang/String;") (ty := .object "java/lang/String") (N := 26) (f := fun j => .ref (q j).1) (A := xAA s.heap.size) (by decide)
    (hs _ (List.mem_of_getElem? (i := 12) (by decide +kernel))) (va_eqt (hs _ (List.mem_of_getElem? (i := 13) (by decide +kernel)))) (fun j hj => va_eqv (hs _ (wd_in j hj)) (hq j (by omega)).1) hA
  have z3 := va_Zof (A := xAA s.heap.size) (hts (.laysStatic "TeaRegattaModel" "WORDS" "[Ljava/lang/String;") (by decide +kernel)) (hts (.initialized "TeaRegattaModel") (by decide +kernel)) w1 hA
  have z1 := va_Zof (A := xAA s.heap.size) (hts (.laysStatic xstr "COMPACT_STRINGS" "Z") (by decide +kernel)) (hts (.initialized xstr) (by decide +kernel)) (va_eqi (z := 1) (hs _ (List.mem_of_getElem? (i := 4) (by decide +kernel)))) hA
  obtain ⟨vS, hvS, z2⟩ : ∃ v : Value, ((∃ a, v = .ref a) ∨ v = .null) ∧ va_Z "jdk/internal/util/Preconditions" "SIOOBE_FORMATTER" "Ljava/util/function/BiFunction;" v (xAA s.heap.size) s s.heap := by
    rcases va_Zqof (A := xAA s.heap.size) (hts (.laysStatic "jdk/internal/util/Preconditions" "SIOOBE_FORMATTER" "Ljava/util/function/BiFunction;") (by decide +kernel)) (hts (.initialized "jdk/internal/util/Preconditions") (by decide +kernel)) (hs _ (List.mem_of_getElem? (i := 5) (by decide +kernel))) hA with z | ⟨t, z⟩
    · exact ⟨.null, Or.inr rfl, z⟩
    · exact ⟨.ref t, Or.inl ⟨t, rfl⟩, z⟩
  have zq1 := vx_Zqof (A := xAA s.heap.size) (hts (.laysStatic Bundle.tN "UNASSIGNED_STACK" Bundle.steD) (by decide +kernel)) (hts (.initialized Bundle.tN) (by decide +kernel)) (hs _ (List.mem_of_getElem? (i := 9) (by decide +kernel))) hA
  have zq2 := vx_Zqof (A := xAA s.heap.size) (hts (.laysStatic Bundle.tN "SUPPRESSED_SENTINEL" Bundle.listD) (by decide +kernel)) (hts (.initialized Bundle.tN) (by decide +kernel)) (hs _ (List.mem_of_getElem? (i := 10) (by decide +kernel))) hA
  let κ : Nat → Value := fun k => if k = 0 then .ref b else if k = 1 then .ref tW else if k = 2 then vS else if k % 2 = 0 then .ref (q ((k - 100) / 2)).1 else .ref (q ((k - 101) / 2)).2
  have k1 : ∀ i, κ (100 + 2 * i) = .ref (q i).1 := fun i => by
    show (if 100 + 2 * i = 0 then _ else _) = _
    rw [if_neg (by omega), if_neg (by omega), if_neg (by omega), if_pos (by omega), show (100 + 2 * i - 100) / 2 = i by omega]
  have k2 : ∀ i, κ (101 + 2 * i) = .ref (q i).2 := fun i => by
    show (if 101 + 2 * i = 0 then _ else _) = _
    rw [if_neg (by omega), if_neg (by omega), if_neg (by omega), if_neg (by omega), show (101 + 2 * i - 101) / 2 = i by omega]
  have k3 : ∀ k, (∃ a, κ k = .ref a) ∨ κ k = .null := by
    intro k
    show (∃ a, (if k = 0 then Value.ref b else if k = 1 then .ref tW else if k = 2 then vS else if k % 2 = 0 then .ref (q ((k - 100) / 2)).1 else .ref (q ((k - 101) / 2)).2) = .ref a) ∨ (if k = 0 then Value.ref b else if k = 1 then .ref tW else if k = 2 then vS else if k % 2 = 0 then .ref (q ((k - 100) / 2)).1 else .ref (q ((k - 101) / 2)).2) = .null
    repeat' split
    · exact Or.inl ⟨_, rfl⟩
    · exact Or.inl ⟨_, rfl⟩
    · exact hvS
    · exact Or.inl ⟨_, rfl⟩
    · exact Or.inl ⟨_, rfl⟩
  refine ⟨κ, cA, D, rfl, fun w hw _ => hts w hw, hK, ⟨b, rfl, hbl, hA b hbl, hX⟩, ⟨z1, z2, z3, tW, rfl, ?_⟩, fun i hi => ?_, ⟨?_, ?_⟩, fun x hx => ?_, ⟨zq1, zq2⟩, fun a b h1 h2 h3 h4 h5 => va_Nc.of (hs _ (nc_in a b h1 h2 h3 h4 h5)), fun k => ?_, k3⟩
  · have e : (fun j => κ (100 + 2 * j)) = fun j => Value.ref (q j).1 := funext k1
    rw [e]
    exact w2
  · obtain ⟨g0, g1, g2, g3, g4⟩ := hq i hi
    exact ⟨(q i).1, (q i).2, k1 i, k2 i, g1, g2, g3, g4⟩
  · exact ⟨(q 26).1, k1 26, vk_R.of (A := #[Value.ref b]) (hts (.stringRef RX7 29 (xtx.getD 26 "")) (by decide +kernel)) (by have := (hq 26 (by decide)).1; exact this)⟩
  · exact ⟨(q 27).1, k1 27, vk_R.of (A := #[Value.ref b]) (hts (.stringRef RX7 90 (xtx.getD 27 "")) (by decide +kernel)) (by have := (hq 27 (by decide)).1; exact this)⟩
  · obtain ⟨m1, m2⟩ := msg_in x hx
    obtain ⟨a, c, cl, kA, q1, -⟩ := Cond.exactly_spec (args := #[Value.ref b]) (first := s) (o := none) (s := s) (idx := []) (t := .string RX8 x.1) (cls := "java/lang/String") (hs _ m2)
    exact ⟨a, vk_R.of (A := #[Value.ref b]) (hts _ m1) q1⟩
  · rcases k3 k with ⟨a, e⟩ | e <;> rw [e] <;> rfl
end TOPW
