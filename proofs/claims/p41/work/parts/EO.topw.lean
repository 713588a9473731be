/-! ===== what stands at the law's start ===== -/
section TOPW
variable {s : State} {b : Nat} {args : Array Value}
def xNC : Jvm.Cond := Jvm.Cond.and given_1 narrow_1
def xtL (tm : Jvm.Term) (bs : List Int32) : List Jvm.Cond := [.exactly tm "java/lang/String", .eq (.field tm "java/lang/String" "coder" "B") (.int 0), .arrayOf (.field tm "java/lang/String" "value" "[B") .byte, .eq (.length (.field tm "java/lang/String" "value" "[B")) (.int (Int32.ofNat bs.length))] ++ (List.range bs.length).map (fun j => Jvm.Cond.eq (.elem (.field tm "java/lang/String" "value" "[B") (.int (Int32.ofNat j))) (.int (bs.getD j 0)))
def xtm (i : Nat) : Jvm.Term := .string (xsr.getD i ("", 0)).1 (xsr.getD i ("", 0)).2
theorem sl_in {L : List Jvm.Cond} {p n : Nat} (h : ((flatC xNC).drop p).take n = L) : ∀ c ∈ L, c ∈ flatC xNC := fun c hc => List.mem_of_mem_drop (List.mem_of_mem_take (by rw [h]; exact hc))
theorem tp_0 : ((flatC xNC).drop 893).take 9 = xtL (xtm 0) (xtb.getD 0 []) := by
  rw [xtb_is]
  decide +kernel
theorem tp_1 : ((flatC xNC).drop 902).take 8 = xtL (xtm 1) (xtb.getD 1 []) := by
  rw [xtb_is]
  decide +kernel
theorem tp_2 : ((flatC xNC).drop 910).take 9 = xtL (xtm 2) (xtb.getD 2 []) := by
  rw [xtb_is]
  decide +kernel
theorem tp_3 : ((flatC xNC).drop 919).take 8 = xtL (xtm 3) (xtb.getD 3 []) := by
  rw [xtb_is]
  decide +kernel
theorem tp_4 : ((flatC xNC).drop 927).take 8 = xtL (xtm 4) (xtb.getD 4 []) := by
  rw [xtb_is]
  decide +kernel
theorem tp_5 : ((flatC xNC).drop 935).take 8 = xtL (xtm 5) (xtb.getD 5 []) := by
  rw [xtb_is]
  decide +kernel
theorem tp_6 : ((flatC xNC).drop 943).take 8 = xtL (xtm 6) (xtb.getD 6 []) := by
  rw [xtb_is]
  decide +kernel
theorem tp_7 : ((flatC xNC).drop 951).take 8 = xtL (xtm 7) (xtb.getD 7 []) := by
  rw [xtb_is]
  decide +kernel
theorem tp_8 : ((flatC xNC).drop 959).take 8 = xtL (xtm 8) (xtb.getD 8 []) := by
  rw [xtb_is]
  decide +kernel
theorem tp_9 : ((flatC xNC).drop 967).take 9 = xtL (xtm 9) (xtb.getD 9 []) := by
  rw [xtb_is]
  decide +kernel
theorem tp_10 : ((flatC xNC).drop 976).take 5 = xtL (xtm 10) (xtb.getD 10 []) := by
  rw [xtb_is]
  decide +kernel
theorem tp_11 : ((flatC xNC).drop 981).take 5 = xtL (xtm 11) (xtb.getD 11 []) := by
  rw [xtb_is]
  decide +kernel
theorem tp_12 : ((flatC xNC).drop 987).take 5 = xtL (xtm 12) (xtb.getD 12 []) := by
  rw [xtb_is]
  decide +kernel
theorem tp_13 : ((flatC xNC).drop 992).take 5 = xtL (xtm 13) (xtb.getD 13 []) := by
  rw [xtb_is]
  decide +kernel
theorem tp_14 : ((flatC xNC).drop 997).take 5 = xtL (xtm 14) (xtb.getD 14 []) := by
  rw [xtb_is]
  decide +kernel
theorem tp_15 : ((flatC xNC).drop 1002).take 5 = xtL (xtm 15) (xtb.getD 15 []) := by
  rw [xtb_is]
  decide +kernel
theorem tp_16 : ((flatC xNC).drop 1007).take 5 = xtL (xtm 16) (xtb.getD 16 []) := by
  rw [xtb_is]
  decide +kernel
theorem tp_17 : ((flatC xNC).drop 1012).take 5 = xtL (xtm 17) (xtb.getD 17 []) := by
  rw [xtb_is]
  decide +kernel
theorem tp_18 : ((flatC xNC).drop 1017).take 9 = xtL (xtm 18) (xtb.getD 18 []) := by
  rw [xtb_is]
  decide +kernel
theorem tp_19 : ((flatC xNC).drop 1026).take 8 = xtL (xtm 19) (xtb.getD 19 []) := by
  rw [xtb_is]
  decide +kernel
theorem tp_20 : ((flatC xNC).drop 635).take 8 = xtL (xtm 20) (xtb.getD 20 []) := by
  rw [xtb_is]
  decide +kernel
theorem tp_21 : ((flatC xNC).drop 643).take 5 = xtL (xtm 21) (xtb.getD 21 []) := by
  rw [xtb_is]
  decide +kernel
theorem tp_22 : ((flatC xNC).drop 648).take 5 = xtL (xtm 22) (xtb.getD 22 []) := by
  rw [xtb_is]
  decide +kernel
theorem tp_23 : ((flatC xNC).drop 653).take 11 = xtL (xtm 23) (xtb.getD 23 []) := by
  rw [xtb_is]
  decide +kernel
theorem tp_24 : ((flatC xNC).drop 664).take 12 = xtL (xtm 24) (xtb.getD 24 []) := by
  rw [xtb_is]
  decide +kernel
theorem tp_25 : ((flatC xNC).drop 676).take 12 = xtL (xtm 25) (xtb.getD 25 []) := by
  rw [xtb_is]
  decide +kernel
theorem tp_26 : ((flatC xNC).drop 243).take 144 = xtL (xtm 26) (xtb.getD 26 []) := by
  rw [xtb_is]
  decide +kernel
theorem tp_27 : ((flatC xNC).drop 877).take 16 = xtL (xtm 27) (xtb.getD 27 []) := by
  rw [xtb_is]
  decide +kernel
theorem tp_28 : ((flatC xNC).drop 688).take 13 = xtL (xtm 28) (xtb.getD 28 []) := by
  rw [xtb_is]
  decide +kernel
theorem tp_29 : ((flatC xNC).drop 701).take 10 = xtL (xtm 29) (xtb.getD 29 []) := by
  rw [xtb_is]
  decide +kernel
theorem tp_30 : ((flatC xNC).drop 711).take 11 = xtL (xtm 30) (xtb.getD 30 []) := by
  rw [xtb_is]
  decide +kernel
theorem tp_31 : ((flatC xNC).drop 722).take 12 = xtL (xtm 31) (xtb.getD 31 []) := by
  rw [xtb_is]
  decide +kernel
theorem tp_32 : ((flatC xNC).drop 734).take 4 = xtL (xtm 32) (xtb.getD 32 []) := by
  rw [xtb_is]
  decide +kernel
theorem tp_33 : ((flatC xNC).drop 738).take 5 = xtL (xtm 33) (xtb.getD 33 []) := by
  rw [xtb_is]
  decide +kernel
theorem tp_34 : ((flatC xNC).drop 743).take 8 = xtL (xtm 34) (xtb.getD 34 []) := by
  rw [xtb_is]
  decide +kernel
theorem tp_35 : ((flatC xNC).drop 751).take 10 = xtL (xtm 35) (xtb.getD 35 []) := by
  rw [xtb_is]
  decide +kernel
theorem tp_36 : ((flatC xNC).drop 761).take 9 = xtL (xtm 36) (xtb.getD 36 []) := by
  rw [xtb_is]
  decide +kernel
theorem tp_37 : ((flatC xNC).drop 770).take 5 = xtL (xtm 37) (xtb.getD 37 []) := by
  rw [xtb_is]
  decide +kernel
theorem tp_38 : ((flatC xNC).drop 776).take 5 = xtL (xtm 38) (xtb.getD 38 []) := by
  rw [xtb_is]
  decide +kernel
theorem tp_39 : ((flatC xNC).drop 781).take 5 = xtL (xtm 39) (xtb.getD 39 []) := by
  rw [xtb_is]
  decide +kernel
theorem tp_40 : ((flatC xNC).drop 786).take 7 = xtL (xtm 40) (xtb.getD 40 []) := by
  rw [xtb_is]
  decide +kernel
theorem tp_41 : ((flatC xNC).drop 793).take 10 = xtL (xtm 41) (xtb.getD 41 []) := by
  rw [xtb_is]
  decide +kernel
theorem tp_42 : ((flatC xNC).drop 803).take 10 = xtL (xtm 42) (xtb.getD 42 []) := by
  rw [xtb_is]
  decide +kernel
theorem tp_all : ∀ i, i < 43 → ∀ c ∈ xtL (xtm i) (xtb.getD i []), c ∈ flatC xNC := by
  intro i h
  match i, h with
  | 0, _ => exact sl_in tp_0
  | 1, _ => exact sl_in tp_1
  | 2, _ => exact sl_in tp_2
  | 3, _ => exact sl_in tp_3
  | 4, _ => exact sl_in tp_4
  | 5, _ => exact sl_in tp_5
  | 6, _ => exact sl_in tp_6
  | 7, _ => exact sl_in tp_7
  | 8, _ => exact sl_in tp_8
  | 9, _ => exact sl_in tp_9
  | 10, _ => exact sl_in tp_10
  | 11, _ => exact sl_in tp_11
  | 12, _ => exact sl_in tp_12
  | 13, _ => exact sl_in tp_13
  | 14, _ => exact sl_in tp_14
  | 15, _ => exact sl_in tp_15
  | 16, _ => exact sl_in tp_16
  | 17, _ => exact sl_in tp_17
  | 18, _ => exact sl_in tp_18
  | 19, _ => exact sl_in tp_19
  | 20, _ => exact sl_in tp_20
  | 21, _ => exact sl_in tp_21
  | 22, _ => exact sl_in tp_22
  | 23, _ => exact sl_in tp_23
  | 24, _ => exact sl_in tp_24
  | 25, _ => exact sl_in tp_25
  | 26, _ => exact sl_in tp_26
  | 27, _ => exact sl_in tp_27
  | 28, _ => exact sl_in tp_28
  | 29, _ => exact sl_in tp_29
  | 30, _ => exact sl_in tp_30
  | 31, _ => exact sl_in tp_31
  | 32, _ => exact sl_in tp_32
  | 33, _ => exact sl_in tp_33
  | 34, _ => exact sl_in tp_34
  | 35, _ => exact sl_in tp_35
  | 36, _ => exact sl_in tp_36
  | 37, _ => exact sl_in tp_37
  | 38, _ => exact sl_in tp_38
  | 39, _ => exact sl_in tp_39
  | 40, _ => exact sl_in tp_40
  | 41, _ => exact sl_in tp_41
  | 42, _ => exact sl_in tp_42
  | n + 43, h => exact absurd h (by omega)
theorem sr_in : ∀ i, i < 43 → Jvm.Cond.stringRef (xsr.getD i ("", 0)).1 (xsr.getD i ("", 0)).2 (xtx.getD i "") ∈ lw_tbl := by
  intro i h
  match i, h with
  | 0, _ => decide +kernel
  | 1, _ => decide +kernel
  | 2, _ => decide +kernel
  | 3, _ => decide +kernel
  | 4, _ => decide +kernel
  | 5, _ => decide +kernel
  | 6, _ => decide +kernel
  | 7, _ => decide +kernel
  | 8, _ => decide +kernel
  | 9, _ => decide +kernel
  | 10, _ => decide +kernel
  | 11, _ => decide +kernel
  | 12, _ => decide +kernel
  | 13, _ => decide +kernel
  | 14, _ => decide +kernel
  | 15, _ => decide +kernel
  | 16, _ => decide +kernel
  | 17, _ => decide +kernel
  | 18, _ => decide +kernel
  | 19, _ => decide +kernel
  | 20, _ => decide +kernel
  | 21, _ => decide +kernel
  | 22, _ => decide +kernel
  | 23, _ => decide +kernel
  | 24, _ => decide +kernel
  | 25, _ => decide +kernel
  | 26, _ => decide +kernel
  | 27, _ => decide +kernel
  | 28, _ => decide +kernel
  | 29, _ => decide +kernel
  | 30, _ => decide +kernel
  | 31, _ => decide +kernel
  | 32, _ => decide +kernel
  | 33, _ => decide +kernel
  | 34, _ => decide +kernel
  | 35, _ => decide +kernel
  | 36, _ => decide +kernel
  | 37, _ => decide +kernel
  | 38, _ => decide +kernel
  | 39, _ => decide +kernel
  | 40, _ => decide +kernel
  | 41, _ => decide +kernel
  | 42, _ => decide +kernel
  | n + 43, h => exact absurd h (by omega)
theorem xtx1 {tm : Jvm.Term} {bs : List Int32} {A : Nat → Prop} (h : ∀ c ∈ xtL tm bs, c.before args s = true) (hl : bs.length < 2 ^ 31) (hA : ∀ a : Nat, a < s.heap.size → ¬ A a) : ∃ ak av : Nat, tm.eval args s none [] s = some (.ref ak) ∧ va_O xstr ak A s s.heap ∧ va_OF xstr "coder" "B" (.int 0) ak A s s.heap ∧ va_OF xstr "value" "[B" (.ref av) ak A s s.heap ∧ va_T .byte av bs.length (fun j => .int (bs.getD j 0)) A s s.heap := by
  have h' : ∀ c ∈ ([.exactly tm "java/lang/String", .eq (.field tm "java/lang/String" "coder" "B") (.int 0), .arrayOf (.field tm "java/lang/String" "value" "[B") .byte, .eq (.length (.field tm "java/lang/String" "value" "[B")) (.int (Int32.ofNat bs.length))] : List Jvm.Cond), c.before args s = true := fun c hc => h c (List.mem_append_left _ hc)
  obtain ⟨adK, adV, h1, h2⟩ := vk_Sof (args := args) (s := s) (N := 1) (tm := fun _ => tm) (len := [bs.length]) (byt := [bs]) (A := A)
    (fun i hi => by obtain rfl : i = 0 := by omega
                    exact hl)
    (fun i _ => h' _ List.mem_cons_self)
    (fun i _ => h' _ (List.mem_cons_of_mem _ List.mem_cons_self))
    (fun i _ => h' _ (List.mem_cons_of_mem _ (List.mem_cons_of_mem _ List.mem_cons_self)))
    (fun i hi => by obtain rfl : i = 0 := by omega
                    exact h' _ (List.mem_cons_of_mem _ (List.mem_cons_of_mem _ (List.mem_cons_of_mem _ List.mem_cons_self))))
    (fun i hi j hj => by obtain rfl : i = 0 := by omega
                         exact h _ (List.mem_append_right _ (List.mem_map.mpr ⟨j, List.mem_range.mpr hj, rfl⟩)))
    (fun i j hi hj hne => absurd (show i = j by omega) hne) hA
  obtain ⟨g1, g2, g3, g4⟩ := h1.1 0 (by decide)
  exact ⟨adK 0, adV 0, h2 0 (by decide), g1, g2, g3, g4⟩
theorem ins_ok : ∀ ci, ci < 13 → Jvm.Cond.instantiable (xcN ci) (xnf ci) ∈ lw_tbl := by
  intro ci h
  match ci, h with
  | 0, _ => decide +kernel
  | 1, _ => decide +kernel
  | 2, _ => decide +kernel
  | 3, _ => decide +kernel
  | 4, _ => decide +kernel
  | 5, _ => decide +kernel
  | 6, _ => decide +kernel
  | 7, _ => decide +kernel
  | 8, _ => decide +kernel
  | 9, _ => decide +kernel
  | 10, _ => decide +kernel
  | 11, _ => decide +kernel
  | 12, _ => decide +kernel
theorem inE_ok : ∀ ci, 13 ≤ ci → ci < 16 → Jvm.Cond.instantiable (xen ci) 6 ∈ lw_tbl := by
  intro ci h1 h2
  rcases (show ci = 13 ∨ ci = 14 ∨ ci = 15 by omega) with rfl | rfl | rfl <;> decide +kernel
theorem xcls_g : ∀ ci, ci < 13 → xcls[ci]? = some (xcN ci, xcT ci, xnf ci) := by
  intro ci h
  match ci, h with
  | 0, _ => rfl
  | 1, _ => rfl
  | 2, _ => rfl
  | 3, _ => rfl
  | 4, _ => rfl
  | 5, _ => rfl
  | 6, _ => rfl
  | 7, _ => rfl
  | 8, _ => rfl
  | 9, _ => rfl
  | 10, _ => rfl
  | 11, _ => rfl
  | 12, _ => rfl
theorem arr_of {ty : FieldType} (h : (Jvm.Cond.arrayClass ty).before args s = true) : ∃ cA : ClassId, ArrOfT s cA ty ∧ s.vm.findClass ("[" ++ ty.toString) = some cA := by
  obtain ⟨c, k, comp, h1, h2, h3⟩ := Cond.arrayClass_spec h
  exact ⟨c, fun N z => ⟨(fun k h => by cases h), k, h2, comp, h3⟩, h1⟩
theorem aoi_in : Jvm.Cond.arrayOver (.array .int) ∈ lw_tbl := by decide +kernel
theorem aor_in : Jvm.Cond.arrayOver (.object RX9) ∈ lw_tbl := by decide +kernel
theorem xK_of (hts : ∀ w ∈ lw_tbl, w.before args s = true) : ∃ (D : va_G) (cA : FieldType → ClassId), va_K D xcls (xtys cA) s := by
  have h : ∀ k : Nat, ∃ q : ClassId × (Nat → Nat), ∀ r, xcls[k]? = some r → u_Kn s r.1 r.2.1 r.2.2 q.1 q.2 := by
    intro k
    by_cases h1 : k < 13
    · obtain ⟨c, i, hk⟩ := u_known (C := xcN k) (T := xcT k) (N := xnf k) (n := xnf k) hts (fun w hw => (List.mem_filter.mp (xin_ok k h1 w hw)).1) (hts _ (ins_ok k h1))
      exact ⟨(c, i), fun r hr => by rw [xcls_g k h1] at hr; cases hr; exact hk⟩
    · by_cases h2 : k < 16
      · obtain ⟨c, i, hk⟩ := u_known (C := xen k) (T := xTE) (N := 0) (n := 6) hts (fun w hw => by simp [u_ws] at hw) (hts _ (inE_ok k (by omega) h2))
        exact ⟨(c, i), fun r hr => by rw [xcls_getE k (by omega) h2] at hr; cases hr; exact hk⟩
      · obtain ⟨c, i, hk⟩ := u_known (C := xen 13) (T := xTE) (N := 0) (n := 6) hts (fun w hw => by simp [u_ws] at hw) (hts _ (inE_ok 13 (by omega) (by omega)))
        exact ⟨(c, i), fun r hr => by rw [List.getElem?_eq_none (show xcls.length ≤ k from by show 16 ≤ k; omega)] at hr; cases hr⟩
  obtain ⟨f, hf⟩ := Classical.axiomOfChoice h
  obtain ⟨c1, a1, a2⟩ := arr_of (hts _ xwA.1)
  obtain ⟨c2, a3, a4⟩ := arr_of (hts _ xwA.2.1)
  obtain ⟨c3, a5, a6⟩ := arr_of (hts _ xwA.2.2)
  obtain ⟨p4, c4, k4, b1, b2, b3, b4, b5⟩ := arrayOverA_spec (hts _ aoi_in)
  obtain ⟨p5, c5, k5, d1, d2, d3, d4, d5⟩ := Cond.arrayOver_spec (hts _ aor_in)
  refine ⟨(fun k => (f k).1, fun k => (f k).2), fun ty => match ty with | .int => c1 | .long => c2 | .char => c4 | .boolean => c5 | _ => c3, fun k r hr => hf k r hr, fun k q hq => ?_⟩
  match k, hq with
  | 0, hq => cases hq; exact ⟨a1, a2⟩
  | 1, hq => cases hq; exact ⟨a3, a4⟩
  | 2, hq => cases hq; exact ⟨a5, a6⟩
  | 3, hq => cases hq; exact ⟨fun N z => ⟨(fun k h => by cases h), k4, b3, _, b4⟩, b5⟩
  | 4, hq => cases hq; exact ⟨fun N z => ⟨(fun k h => by cases h), k5, d3, _, d4⟩, k5, p5, d3, d4, d1, d5⟩
  | k + 5, hq => simp [xtys] at hq
theorem me_in : ∀ j, j < 10 → Jvm.Cond.eq (.elem (.static "TeaRegattaLaw" "MEASURES" "[Ljava/lang/String;") (.int (Int32.ofNat j))) (xtm j) ∈ flatC xNC := by
  have h : ((flatC xNC).drop 220).take 10 = (List.range 10).map (fun j => Jvm.Cond.eq (.elem (.static "TeaRegattaLaw" "MEASURES" "[Ljava/lang/String;") (.int (Int32.ofNat j))) (xtm j)) := by decide +kernel
  exact fun j hj => sl_in h _ (List.mem_map.mpr ⟨j, List.mem_range.mpr hj, rfl⟩)
theorem sg_in2 : ∀ j, j < 10 → Jvm.Cond.eq (.elem (.static "TeaRegattaLaw" "SIGNS" "[Ljava/lang/String;") (.int (Int32.ofNat j))) (xtm (10 + j)) ∈ flatC xNC := by
  have h : ((flatC xNC).drop 233).take 10 = (List.range 10).map (fun j => Jvm.Cond.eq (.elem (.static "TeaRegattaLaw" "SIGNS" "[Ljava/lang/String;") (.int (Int32.ofNat j))) (xtm (10 + j))) := by decide +kernel
  exact fun j hj => sl_in h _ (List.mem_map.mpr ⟨j, List.mem_range.mpr hj, rfl⟩)
theorem d1_in : ∀ j, j < 100 → Jvm.Cond.eq (.elem (.static "java/lang/Integer" "DigitOnes" "[B") (.int (Int32.ofNat j))) (.int (xdig 3 j)) ∈ flatC xNC := by
  have h : ((flatC xNC).drop 14).take 100 = (List.range 100).map (fun j => Jvm.Cond.eq (.elem (.static "java/lang/Integer" "DigitOnes" "[B") (.int (Int32.ofNat j))) (.int (xdig 3 j))) := by decide +kernel
  exact fun j hj => sl_in h _ (List.mem_map.mpr ⟨j, List.mem_range.mpr hj, rfl⟩)
theorem d2_in : ∀ j, j < 100 → Jvm.Cond.eq (.elem (.static "java/lang/Integer" "DigitTens" "[B") (.int (Int32.ofNat j))) (.int (xdig 4 j)) ∈ flatC xNC := by
  have h : ((flatC xNC).drop 117).take 100 = (List.range 100).map (fun j => Jvm.Cond.eq (.elem (.static "java/lang/Integer" "DigitTens" "[B") (.int (Int32.ofNat j))) (.int (xdig 4 j))) := by decide +kernel
  exact fun j hj => sl_in h _ (List.mem_map.mpr ⟨j, List.mem_range.mpr hj, rfl⟩)
theorem msg_in : ∀ x ∈ xmsg, Jvm.Cond.stringRef RX8 x.1 x.2 ∈ lw_tbl ∧ Jvm.Cond.exactly (.string RX8 x.1) "java/lang/String" ∈ flatC xNC := by
  have h1 : (xmsg.map fun x => Jvm.Cond.exactly (.string RX8 x.1) "java/lang/String") = [813, 843, 486, 512, 537, 554, 574, 610, 387, 403, 421, 440, 461].map (fun i => (flatC xNC).getD i (.count 0)) := by decide +kernel
  have h2 : ∀ x ∈ xmsg, Jvm.Cond.stringRef RX8 x.1 x.2 ∈ lw_tbl := by decide +kernel
  have h3 : ∀ c ∈ [813, 843, 486, 512, 537, 554, 574, 610, 387, 403, 421, 440, 461].map (fun i => (flatC xNC).getD i (.count 0)), c ∈ flatC xNC := by
    have hl : 1092 ≤ (flatC xNC).length := by decide +kernel
    have hb : ∀ i ∈ [813, 843, 486, 512, 537, 554, 574, 610, 387, 403, 421, 440, 461], i < 1092 := by decide
    intro c hc
    obtain ⟨i, hi, rfl⟩ := List.mem_map.mp hc
    have hi2 := hb i hi
    show (flatC xNC)[i]?.getD _ ∈ _
    rw [List.getElem?_eq_getElem (by omega)]
    exact List.getElem_mem _
  exact fun x hx => ⟨h2 x hx, h3 _ (by rw [← h1]; exact List.mem_map.mpr ⟨x, hx, rfl⟩)⟩
theorem selB_of {s : State} {args : Array Value} {C : String} {n : Nat} {y z : MethodName} (hy : y.cls ≠ "java/lang/invoke/MethodHandle" ∧ y.cls ≠ "java/lang/invoke/VarHandle") (hz : z.cls = y.cls)
    (hins : (Cond.instantiable C n).before args s = true) (hpriv : (Cond.privateMethod y).before args s = true) (hinst : (Cond.instanceMethod y).before args s = true) (hsel : (Cond.selects C z z).before args s = true) :
    (Cond.selects C y y).before args s = true := by
  obtain ⟨c, k, hc, hk, -, -, -, -⟩ := Cond.instantiable_spec hins
  obtain ⟨mk, methM, hnamed, hmethM, -, -⟩ := Cond.instanceMethod_spec hinst
  have hfound : s.methodFound? y.cls y.name y.desc = some mk := State.methodFound?_of_named hnamed hy
  have hselm : selectMethod {} s.vm c mk = .method mk := selectMethod_private hmethM (Cond.privateMethod_at hpriv mk methM hnamed hmethM)
  have hif : (s.vm.classes[mk.cls]?).any (fun k => !k.isInterface) = true := by
    simp only [Cond.before, Cond.holds, Cond.value, hc] at hsel
    cases hm : s.methodNamed? z with
    | none =>
      rw [hm] at hsel
      cases hf : s.methodFound? z.cls z.name z.desc with
      | none => rw [hf] at hsel; simp at hsel
      | some r => rw [hf] at hsel; simp at hsel
    | some m =>
      rw [hm] at hsel
      have e : m.cls = mk.cls := by
        have h1 := findClass_of_methodNamed hm
        have h2 := findClass_of_methodNamed hnamed
        rw [hz, h2] at h1
        exact (Option.some.inj h1).symm
      cases hf : s.methodFound? z.cls z.name z.desc with
      | none => rw [hf] at hsel; simp at hsel
      | some r =>
        rw [hf] at hsel
        simp only [e] at hsel
        cases hq : selectMethod {} s.vm c r with
        | method m' =>
          rw [hq] at hsel
          simp at hsel
          simpa using hsel.2
        | _ => rw [hq] at hsel; simp at hsel
  simp only [Cond.before, Cond.holds, Cond.value, hc, hfound, hnamed, hselm, hif]
  simp
theorem selB_all (hts : ∀ w ∈ lw_tbl, w.before args s = true) : ∀ x ∈ xselB, (Jvm.Cond.selects RJ4 x x).before args s = true := by
  have hins : Jvm.Cond.instantiable RJ4 4 ∈ lw_tbl := ins_ok 11 (by decide)
  have hsel : Jvm.Cond.selects RJ4 ⟨"java/lang/AbstractStringBuilder", "isLatin1", "()Z"⟩ ⟨"java/lang/AbstractStringBuilder", "isLatin1", "()Z"⟩ ∈ lw_tbl := by decide +kernel
  have h : ∀ x ∈ xselB, x.cls = "java/lang/AbstractStringBuilder" ∧ Jvm.Cond.privateMethod x ∈ lw_tbl ∧ Jvm.Cond.instanceMethod x ∈ lw_tbl := by decide +kernel
  intro x hx
  obtain ⟨h1, h2, h3⟩ := h x hx
  exact selB_of (z := ⟨"java/lang/AbstractStringBuilder", "isLatin1", "()Z"⟩) (by rw [h1]; exact ⟨by decide, by decide⟩) h1.symm (hts _ hins) (hts _ h2) (hts _ h3) (hts _ hsel)
theorem xL_of {L : Nat} {xs : Nat → Int32} (hts : ∀ w ∈ lw_tbl, w.before #[Value.ref b] s = true) (hX : va_X b L xs s s.heap) (hbl : b < s.heap.size) (hgv : xNC.before #[Value.ref b] s = true) : ∃ (κ : Nat → Value) (cA : FieldType → ClassId) (D : va_G), κ 0 = .ref b ∧ xL s #[Value.ref b] (L, xs) s.heap.size κ cA D := by
  have hs := flat_of_before _ hgv
  have hA : ∀ a : Nat, a < s.heap.size → ¬ xAA s.heap.size a := fun a h1 h2 => by
    have h2' : s.heap.size ≤ a := h2
    omega
  obtain ⟨D, cA, hK⟩ := xK_of hts
  have ht : ∀ i : Nat, ∃ q : Nat × Nat, i < 43 → (xtm i).eval #[Value.ref b] s none [] s = some (.ref q.1) ∧ va_O xstr q.1 (xAA s.heap.size) s s.heap ∧ va_OF xstr "coder" "B" (.int 0) q.1 (xAA s.heap.size) s s.heap ∧ va_OF xstr "value" "[B" (.ref q.2) q.1 (xAA s.heap.size) s s.heap ∧ va_T .byte q.2 (xtb.getD i []).length (fun j => .int ((xtb.getD i []).getD j 0)) (xAA s.heap.size) s s.heap := by
    intro i
    by_cases h : i < 43
    · obtain ⟨ak, av, g⟩ := xtx1 (A := xAA s.heap.size) (fun c hc => hs c (tp_all i h c hc)) (Nat.lt_of_le_of_lt (show (xtb.getD i []).length ≤ 200 from (tx_ok i h).1) (by decide)) hA
      exact ⟨(ak, av), fun _ => g⟩
    · exact ⟨(0, 0), fun z => absurd z h⟩
  obtain ⟨q, hq⟩ := Classical.axiomOfChoice ht
  obtain ⟨tM, m1, m2⟩ := va_Tof (args := #[Value.ref b]) (s := s) (tm := .static "TeaRegattaLaw" "MEASURES" "[Ljava/lang/String;") (ty := .object "java/lang/String") (N := 10) (f := fun j => .ref (q j).1) (A := xAA s.heap.size) (by decide)
    (hs _ (List.mem_of_getElem? (i := 218) (by decide +kernel))) (va_eqt (hs _ (List.mem_of_getElem? (i := 219) (by decide +kernel)))) (fun j hj => va_eqv (hs _ (me_in j hj)) (hq j (by omega)).1) hA
  obtain ⟨tS, n1, n2⟩ := va_Tof (args := #[Value.ref b]) (s := s) (tm := .static "TeaRegattaLaw" "SIGNS" "[Ljava/lang/String;") (ty := .object "java/lang/String") (N := 10) (f := fun j => .ref (q (10 + j)).1) (A := xAA s.heap.size) (by decide)
    (hs _ (List.mem_of_getElem? (i := 231) (by decide +kernel))) (va_eqt (hs _ (List.mem_of_getElem? (i := 232) (by decide +kernel)))) (fun j hj => va_eqv (hs _ (sg_in2 j hj)) (hq (10 + j) (by omega)).1) hA
  obtain ⟨tO, o1, o2⟩ := va_Tof (args := #[Value.ref b]) (s := s) (tm := .static "java/lang/Integer" "DigitOnes" "[B") (ty := .byte) (N := 100) (f := fun j => .int (xdig 3 j)) (A := xAA s.heap.size) (by decide)
    (hs _ (List.mem_of_getElem? (i := 12) (by decide +kernel))) (va_eqt (hs _ (List.mem_of_getElem? (i := 13) (by decide +kernel)))) (fun j hj => va_eqt (hs _ (d1_in j hj))) hA
  obtain ⟨tT, p1, p2⟩ := va_Tof (args := #[Value.ref b]) (s := s) (tm := .static "java/lang/Integer" "DigitTens" "[B") (ty := .byte) (N := 100) (f := fun j => .int (xdig 4 j)) (A := xAA s.heap.size) (by decide)
    (hs _ (List.mem_of_getElem? (i := 115) (by decide +kernel))) (va_eqt (hs _ (List.mem_of_getElem? (i := 116) (by decide +kernel)))) (fun j hj => va_eqt (hs _ (d2_in j hj))) hA
  have z3 := va_Zof (A := xAA s.heap.size) (hts (.laysStatic "TeaRegattaLaw" "MEASURES" "[Ljava/lang/String;") (by decide +kernel)) (hts (.initialized "TeaRegattaLaw") (by decide +kernel)) m1 hA
  have z4 := va_Zof (A := xAA s.heap.size) (hts (.laysStatic "TeaRegattaLaw" "SIGNS" "[Ljava/lang/String;") (by decide +kernel)) (hts (.initialized "TeaRegattaLaw") (by decide +kernel)) n1 hA
  have z5 := va_Zof (A := xAA s.heap.size) (hts (.laysStatic "java/lang/Integer" "DigitOnes" "[B") (by decide +kernel)) (hts (.initialized "java/lang/Integer") (by decide +kernel)) o1 hA
  have z6 := va_Zof (A := xAA s.heap.size) (hts (.laysStatic "java/lang/Integer" "DigitTens" "[B") (by decide +kernel)) (hts (.initialized "java/lang/Integer") (by decide +kernel)) p1 hA
  have z1 := va_Zof (A := xAA s.heap.size) (hts (.laysStatic xstr "COMPACT_STRINGS" "Z") (by decide +kernel)) (hts (.initialized xstr) (by decide +kernel)) (va_eqi (z := 1) (hs _ (List.mem_of_getElem? (i := 4) (by decide +kernel)))) hA
  obtain ⟨vS, hvS, z2⟩ : ∃ v : Value, ((∃ a, v = .ref a) ∨ v = .null) ∧ va_Z "jdk/internal/util/Preconditions" "SIOOBE_FORMATTER" "Ljava/util/function/BiFunction;" v (xAA s.heap.size) s s.heap := by
    rcases va_Zqof (A := xAA s.heap.size) (hts (.laysStatic "jdk/internal/util/Preconditions" "SIOOBE_FORMATTER" "Ljava/util/function/BiFunction;") (by decide +kernel)) (hts (.initialized "jdk/internal/util/Preconditions") (by decide +kernel)) (hs _ (List.mem_of_getElem? (i := 5) (by decide +kernel))) hA with z | ⟨t, z⟩
    · exact ⟨.null, Or.inr rfl, z⟩
    · exact ⟨.ref t, Or.inl ⟨t, rfl⟩, z⟩
  have zq1 := vx_Zqof (A := xAA s.heap.size) (hts (.laysStatic Bundle.tN "UNASSIGNED_STACK" Bundle.steD) (by decide +kernel)) (hts (.initialized Bundle.tN) (by decide +kernel)) (hs _ (List.mem_of_getElem? (i := 9) (by decide +kernel))) hA
  have zq2 := vx_Zqof (A := xAA s.heap.size) (hts (.laysStatic Bundle.tN "SUPPRESSED_SENTINEL" Bundle.listD) (by decide +kernel)) (hts (.initialized Bundle.tN) (by decide +kernel)) (hs _ (List.mem_of_getElem? (i := 10) (by decide +kernel))) hA
  let κ : Nat → Value := fun k => if k = 0 then Value.ref b else if k = 1 then .ref tM else if k = 2 then vS else if k = 3 then .ref tO else if k = 4 then .ref tT else if k = 5 then .ref tS else if k % 2 = 0 then .ref (q ((k - 100) / 2)).1 else .ref (q ((k - 101) / 2)).2
  have k1 : ∀ i, κ (100 + 2 * i) = .ref (q i).1 := fun i => by
    show (if 100 + 2 * i = 0 then _ else _) = _
    rw [if_neg (by omega), if_neg (by omega), if_neg (by omega), if_neg (by omega), if_neg (by omega), if_neg (by omega), if_pos (by omega), show (100 + 2 * i - 100) / 2 = i by omega]
  have k2 : ∀ i, κ (101 + 2 * i) = .ref (q i).2 := fun i => by
    show (if 101 + 2 * i = 0 then _ else _) = _
    rw [if_neg (by omega), if_neg (by omega), if_neg (by omega), if_neg (by omega), if_neg (by omega), if_neg (by omega), if_neg (by omega), show (101 + 2 * i - 101) / 2 = i by omega]
  have k3 : ∀ k, (∃ a, κ k = .ref a) ∨ κ k = .null := by
    intro k
    show (∃ a, (if k = 0 then Value.ref b else if k = 1 then .ref tM else if k = 2 then vS else if k = 3 then .ref tO else if k = 4 then .ref tT else if k = 5 then .ref tS else if k % 2 = 0 then .ref (q ((k - 100) / 2)).1 else .ref (q ((k - 101) / 2)).2) = .ref a) ∨ (if k = 0 then Value.ref b else if k = 1 then .ref tM else if k = 2 then vS else if k = 3 then .ref tO else if k = 4 then .ref tT else if k = 5 then .ref tS else if k % 2 = 0 then .ref (q ((k - 100) / 2)).1 else .ref (q ((k - 101) / 2)).2) = .null
    repeat' split
    · exact Or.inl ⟨_, rfl⟩
    · exact Or.inl ⟨_, rfl⟩
    · exact hvS
    · exact Or.inl ⟨_, rfl⟩
    · exact Or.inl ⟨_, rfl⟩
    · exact Or.inl ⟨_, rfl⟩
    · exact Or.inl ⟨_, rfl⟩
    · exact Or.inl ⟨_, rfl⟩
  refine ⟨κ, cA, D, rfl, fun w hw _ => hts w hw, hK, ⟨b, rfl, hbl, hA b hbl, hX⟩, ⟨z1, z2, ⟨z3, tM, rfl, ?_⟩, ⟨z4, tS, rfl, ?_⟩, ⟨z5, tO, rfl, o2⟩, z6, tT, rfl, p2⟩, fun i hi => ?_, fun i hi => ?_, fun x hx => ?_, ⟨zq1, zq2⟩, trivial, ⟨fun k => ?_, k3⟩, va_AO.of (hts _ aor_in), hts _ aoi_in, selB_all hts⟩
  · have e : (fun j => κ (100 + 2 * j)) = fun j => Value.ref (q j).1 := funext k1
    rw [e]
    exact m2
  · have e : (fun j => κ (120 + 2 * j)) = fun j => Value.ref (q (10 + j)).1 := funext fun j => by
      rw [show 120 + 2 * j = 100 + 2 * (10 + j) by omega]; exact k1 _
    rw [e]
    exact n2
  · obtain ⟨g0, g1, g2, g3, g4⟩ := hq i hi
    exact ⟨(q i).1, (q i).2, k1 i, k2 i, g1, g2, g3, g4⟩
  · exact ⟨(q i).1, k1 i, vk_R.of (A := #[Value.ref b]) (hts _ (sr_in i hi)) (hq i hi).1⟩
  · obtain ⟨m1, m2⟩ := msg_in x hx
    obtain ⟨a, c, cl, kA, q1, -⟩ := Cond.exactly_spec (args := #[Value.ref b]) (first := s) (o := none) (s := s) (idx := []) (t := .string RX8 x.1) (cls := "java/lang/String") (hs _ m2)
    exact ⟨a, vk_R.of (A := #[Value.ref b]) (hts _ m1) q1⟩
  · rcases k3 k with ⟨a, e⟩ | e <;> rw [e] <;> rfl
end TOPW
