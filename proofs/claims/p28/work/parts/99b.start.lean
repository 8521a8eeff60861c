/-! THE START: what the Statement gives of it -/
def FL : List Cond := flatC (Jvm.Cond.and given_1 narrow_1)
def tmS (i : Nat) : Term := .string ((["KitePainter$SetupReader", "KitePainter$SetupReader", "KitePainter$SetupReader", "KitePainter$SetupReader", "KitePainter$SetupReader", "KitePainter$SetupReader", "KitePainter$SetupReader", "KitePainter$SetupReader", "KitePainter$SetupReader", "KitePainter$SetupReader", "KitePainter", "KitePainter", "KitePainter", "KitePainter", "KitePainter", "KitePainter", "KitePainter", "KitePainter", "KitePainterLaw", "KitePainterLaw", "KitePainterLaw", "KitePainterLaw", "KitePainterLaw", "KitePainterLaw"] : List String).getD i "") (([103, 117, 122, 130, 134, 140, 145, 171, 173, 150, 119, 249, 148, 254, 252, 199, 225, 228, 109, 135, 150, 163, 165, 184] : List Nat).getD i 0)
def vlS (i : Nat) : Term := .field (tmS i) "java/lang/String" "value" "[B"
def pS (i : Nat) : List Cond := Cond.exactly (tmS i) "java/lang/String" :: Cond.eq (.field (tmS i) "java/lang/String" "coder" "B") (.int 0) :: Cond.arrayOf (vlS i) .byte :: Cond.eq (.length (vlS i)) (.int (Int32.ofNat (txtN.getD i 0))) :: (List.range (txtN.getD i 0)).map (fun j => Cond.eq (.elem (vlS i) (.int (Int32.ofNat j))) (.int ((txtB.getD i []).getD j 0)))
set_option maxRecDepth 100000 in
theorem pS_at : ∀ i, i < 24 → (FL.drop (([351, 359, 368, 377, 385, 395, 402, 410, 418, 428, 643, 439, 674, 326, 462, 702, 481, 505, 534, 539, 564, 592, 605, 632] : List Nat).getD i 0)).take (pS i).length = pS i := by decide +kernel
theorem pS_in {i : Nat} (hi : i < 24) {w : Cond} (hw : w ∈ pS i) : w ∈ FL := by
  rw [← pS_at i hi] at hw
  exact List.mem_of_mem_drop (List.mem_of_mem_take hw)
theorem tN_lt : ∀ i, i < 24 → txtN.getD i 0 < 2 ^ 31 := by decide
section ST
variable {args : Array Value} {s : State} {A : Nat → Prop}
theorem str_one (hs : ∀ w ∈ FL, w.before args s = true) (hA : ∀ a : Nat, a < s.heap.size → ¬ A a) {i : Nat} (hi : i < 24) : ∃ q : Nat × Nat, (tmS i).eval args s none [] s = some (.ref q.1) ∧ va_O "java/lang/String" q.1 A s s.heap ∧ va_OF "java/lang/String" "coder" "B" (.int 0) q.1 A s s.heap ∧ va_OF "java/lang/String" "value" "[B" (.ref q.2) q.1 A s s.heap ∧ va_T .byte q.2 (txtN.getD i 0) (fun j => .int ((txtB.getD i []).getD j 0)) A s s.heap := by
  have hp : ∀ w ∈ pS i, w.before args s = true := fun w hw => hs w (pS_in hi hw)
  obtain ⟨adK, adV, hS, hev⟩ := vk_Sof (args := args) (s := s) (N := 1) (tm := fun _ => tmS i) (len := [txtN.getD i 0]) (byt := [txtB.getD i []]) (A := A)
    (fun k hk => by rw [show k = 0 by omega]; exact tN_lt i hi)
    (fun k hk => hp _ (by unfold pS; exact List.mem_cons_self))
    (fun k hk => hp _ (by unfold pS; exact List.mem_cons_of_mem _ List.mem_cons_self))
    (fun k hk => hp _ (by unfold pS; exact List.mem_cons_of_mem _ (List.mem_cons_of_mem _ List.mem_cons_self)))
    (fun k hk => by rw [show k = 0 by omega]; exact hp _ (by unfold pS; exact List.mem_cons_of_mem _ (List.mem_cons_of_mem _ (List.mem_cons_of_mem _ List.mem_cons_self))))
    (fun k hk j hj => by
      rw [show k = 0 by omega] at hj ⊢
      exact hp _ (by unfold pS; exact List.mem_cons_of_mem _ (List.mem_cons_of_mem _ (List.mem_cons_of_mem _ (List.mem_cons_of_mem _ (List.mem_map.mpr ⟨j, List.mem_range.mpr hj, rfl⟩))))))
    (fun k j hk hj hkj => absurd (show k = j by omega) hkj) hA
  obtain ⟨h1, h2, h3, h4⟩ := hS.1 0 (by omega)
  exact ⟨(adK 0, adV 0), hev 0 (by omega), h1, h2, h3, h4⟩
theorem str_all (hs : ∀ w ∈ FL, w.before args s = true) (hA : ∀ a : Nat, a < s.heap.size → ¬ A a) : ∃ ad adV : Nat → Nat, (∀ i, i < 24 → (tmS i).eval args s none [] s = some (.ref (ad i))) ∧ strO ad adV A s s.heap := by
  have h0 : ∀ i : Nat, ∃ q : Nat × Nat, i < 24 → (tmS i).eval args s none [] s = some (.ref q.1) ∧ va_O "java/lang/String" q.1 A s s.heap ∧ va_OF "java/lang/String" "coder" "B" (.int 0) q.1 A s s.heap ∧ va_OF "java/lang/String" "value" "[B" (.ref q.2) q.1 A s s.heap ∧ va_T .byte q.2 (txtN.getD i 0) (fun j => .int ((txtB.getD i []).getD j 0)) A s s.heap := by
    intro i
    by_cases hi : i < 24
    · obtain ⟨q, h⟩ := str_one hs hA hi
      exact ⟨q, fun _ => h⟩
    · exact ⟨(0, 0), fun h => absurd h hi⟩
  obtain ⟨ad, had⟩ := Classical.axiomOfChoice h0
  exact ⟨fun i => (ad i).1, fun i => (ad i).2, fun i hi => (had i hi).1, fun i hi => (had i hi).2⟩
theorem tab_0 (hts : ∀ w ∈ lw_tbl, w.before args s = true) (hs : ∀ w ∈ FL, w.before args s = true) (hA : ∀ a : Nat, a < s.heap.size → ¬ A a) : ∃ t : Nat, va_Z "KitePainter" "NEIGHBOUR_X" "[I" (.ref t) A s s.heap ∧ va_T .int t 4 (fun i => .int (tabF 0 i)) A s s.heap := by
  obtain ⟨t, e, h⟩ := va_Tof (args := args) (s := s) (tm := .static "KitePainter" "NEIGHBOUR_X" "[I") (ty := .int) (N := 4) (f := fun i => .int (tabF 0 i)) (A := A) (by omega) (hs _ (List.mem_of_getElem? (i := 12) (by decide +kernel))) (va_eqt (hs _ (List.mem_of_getElem? (i := 13) (by decide +kernel)))) (fun k hk => by
    rcases (by omega : k = 0 ∨ k = 1 ∨ k = 2 ∨ k = 3) with rfl | rfl | rfl | rfl
    · exact va_eqt (hs _ (List.mem_of_getElem? (i := 14) (by decide +kernel)))
    · exact va_eqt (hs _ (List.mem_of_getElem? (i := 15) (by decide +kernel)))
    · exact va_eqt (hs _ (List.mem_of_getElem? (i := 16) (by decide +kernel)))
    · exact va_eqt (hs _ (List.mem_of_getElem? (i := 17) (by decide +kernel)))) hA
  exact ⟨t, va_Zof (hts _ (List.mem_of_getElem? (i := 810) (by decide +kernel))) (hts _ (List.mem_of_getElem? (i := 28) (by decide +kernel))) e hA, h⟩
theorem tab_1 (hts : ∀ w ∈ lw_tbl, w.before args s = true) (hs : ∀ w ∈ FL, w.before args s = true) (hA : ∀ a : Nat, a < s.heap.size → ¬ A a) : ∃ t : Nat, va_Z "KitePainter" "NEIGHBOUR_Y" "[I" (.ref t) A s s.heap ∧ va_T .int t 4 (fun i => .int (tabF 1 i)) A s s.heap := by
  obtain ⟨t, e, h⟩ := va_Tof (args := args) (s := s) (tm := .static "KitePainter" "NEIGHBOUR_Y" "[I") (ty := .int) (N := 4) (f := fun i => .int (tabF 1 i)) (A := A) (by omega) (hs _ (List.mem_of_getElem? (i := 19) (by decide +kernel))) (va_eqt (hs _ (List.mem_of_getElem? (i := 20) (by decide +kernel)))) (fun k hk => by
    rcases (by omega : k = 0 ∨ k = 1 ∨ k = 2 ∨ k = 3) with rfl | rfl | rfl | rfl
    · exact va_eqt (hs _ (List.mem_of_getElem? (i := 21) (by decide +kernel)))
    · exact va_eqt (hs _ (List.mem_of_getElem? (i := 22) (by decide +kernel)))
    · exact va_eqt (hs _ (List.mem_of_getElem? (i := 23) (by decide +kernel)))
    · exact va_eqt (hs _ (List.mem_of_getElem? (i := 24) (by decide +kernel)))) hA
  exact ⟨t, va_Zof (hts _ (List.mem_of_getElem? (i := 812) (by decide +kernel))) (hts _ (List.mem_of_getElem? (i := 28) (by decide +kernel))) e hA, h⟩
theorem tab_2 (hts : ∀ w ∈ lw_tbl, w.before args s = true) (hs : ∀ w ∈ FL, w.before args s = true) (hA : ∀ a : Nat, a < s.heap.size → ¬ A a) : ∃ t : Nat, va_Z "KitePainter" "WAY_X" "[I" (.ref t) A s s.heap ∧ va_T .int t 4 (fun i => .int (tabF 2 i)) A s s.heap := by
  obtain ⟨t, e, h⟩ := va_Tof (args := args) (s := s) (tm := .static "KitePainter" "WAY_X" "[I") (ty := .int) (N := 4) (f := fun i => .int (tabF 2 i)) (A := A) (by omega) (hs _ (List.mem_of_getElem? (i := 26) (by decide +kernel))) (va_eqt (hs _ (List.mem_of_getElem? (i := 27) (by decide +kernel)))) (fun k hk => by
    rcases (by omega : k = 0 ∨ k = 1 ∨ k = 2 ∨ k = 3) with rfl | rfl | rfl | rfl
    · exact va_eqt (hs _ (List.mem_of_getElem? (i := 28) (by decide +kernel)))
    · exact va_eqt (hs _ (List.mem_of_getElem? (i := 29) (by decide +kernel)))
    · exact va_eqt (hs _ (List.mem_of_getElem? (i := 30) (by decide +kernel)))
    · exact va_eqt (hs _ (List.mem_of_getElem? (i := 31) (by decide +kernel)))) hA
  exact ⟨t, va_Zof (hts _ (List.mem_of_getElem? (i := 956) (by decide +kernel))) (hts _ (List.mem_of_getElem? (i := 28) (by decide +kernel))) e hA, h⟩
theorem tab_3 (hts : ∀ w ∈ lw_tbl, w.before args s = true) (hs : ∀ w ∈ FL, w.before args s = true) (hA : ∀ a : Nat, a < s.heap.size → ¬ A a) : ∃ t : Nat, va_Z "KitePainter" "WAY_Y" "[I" (.ref t) A s s.heap ∧ va_T .int t 4 (fun i => .int (tabF 3 i)) A s s.heap := by
  obtain ⟨t, e, h⟩ := va_Tof (args := args) (s := s) (tm := .static "KitePainter" "WAY_Y" "[I") (ty := .int) (N := 4) (f := fun i => .int (tabF 3 i)) (A := A) (by omega) (hs _ (List.mem_of_getElem? (i := 33) (by decide +kernel))) (va_eqt (hs _ (List.mem_of_getElem? (i := 34) (by decide +kernel)))) (fun k hk => by
    rcases (by omega : k = 0 ∨ k = 1 ∨ k = 2 ∨ k = 3) with rfl | rfl | rfl | rfl
    · exact va_eqt (hs _ (List.mem_of_getElem? (i := 35) (by decide +kernel)))
    · exact va_eqt (hs _ (List.mem_of_getElem? (i := 36) (by decide +kernel)))
    · exact va_eqt (hs _ (List.mem_of_getElem? (i := 37) (by decide +kernel)))
    · exact va_eqt (hs _ (List.mem_of_getElem? (i := 38) (by decide +kernel)))) hA
  exact ⟨t, va_Zof (hts _ (List.mem_of_getElem? (i := 958) (by decide +kernel))) (hts _ (List.mem_of_getElem? (i := 28) (by decide +kernel))) e hA, h⟩
theorem gT_sub {w : Cond} (h : w ∈ gT) : w ∈ lw_tbl := (List.mem_filter.mp h).1
theorem kn_all (hts : ∀ w ∈ lw_tbl, w.before args s = true) : ∃ D : va_G, ∀ (c : Nat) (q : vw_C), vwCl[c]? = some q → u_Kn s q.1 q.2.1 q.2.2 (D.1 c) (D.2 c) := by
  have hg : ∀ w ∈ gT, w.before args s = true := fun w hw => hts w (gT_sub hw)
  have h0 : ∀ c : Nat, ∃ d : ClassId × (Nat → Nat), ∀ q : vw_C, vwCl[c]? = some q → u_Kn s q.1 q.2.1 q.2.2 d.1 d.2 := by
    intro c
    rcases (by omega : c = 0 ∨ c = 1 ∨ c = 2 ∨ c = 3 ∨ c = 4 ∨ c = 5 ∨ c = 6 ∨ c = 7 ∨ c = 8 ∨ c = 9 ∨ c = 10 ∨ 11 ≤ c) with rfl | rfl | rfl | rfl | rfl | rfl | rfl | rfl | rfl | rfl | rfl | h
    · obtain ⟨cC, iS, h⟩ := u_known (n := 2) (ws := gT) hg ck0.2.1 (hg _ (gT_mem 170 (by decide +kernel) (by decide +kernel)))
      exact ⟨(cC, iS), fun q hq => by cases ck0.1.symm.trans hq; exact h⟩
    · obtain ⟨cC, iS, h⟩ := u_known (n := 3) (ws := gT) hg ck1.2.1 (hg _ (gT_mem 150 (by decide +kernel) (by decide +kernel)))
      exact ⟨(cC, iS), fun q hq => by cases ck1.1.symm.trans hq; exact h⟩
    · obtain ⟨cC, iS, h⟩ := u_known (n := 4) (ws := gT) hg ck2.2.1 (hg _ (gT_mem 183 (by decide +kernel) (by decide +kernel)))
      exact ⟨(cC, iS), fun q hq => by cases ck2.1.symm.trans hq; exact h⟩
    · obtain ⟨cC, iS, h⟩ := u_known (n := 15) (ws := gT) hg ck3.2.1 (hg _ (gT_mem 64 (by decide +kernel) (by decide +kernel)))
      exact ⟨(cC, iS), fun q hq => by cases ck3.1.symm.trans hq; exact h⟩
    · obtain ⟨cC, iS, h⟩ := u_known (n := 13) (ws := gT) hg ck4.2.1 (hg _ (gT_mem 202 (by decide +kernel) (by decide +kernel)))
      exact ⟨(cC, iS), fun q hq => by cases ck4.1.symm.trans hq; exact h⟩
    · obtain ⟨cC, iS, h⟩ := u_known (n := 7) (ws := gT) hg ck5.2.1 (hg _ (gT_mem 56 (by decide +kernel) (by decide +kernel)))
      exact ⟨(cC, iS), fun q hq => by cases ck5.1.symm.trans hq; exact h⟩
    · obtain ⟨cC, iS, h⟩ := u_known (n := 5) (ws := gT) hg ck6.2.1 (hg _ (gT_mem 345 (by decide +kernel) (by decide +kernel)))
      exact ⟨(cC, iS), fun q hq => by cases ck6.1.symm.trans hq; exact h⟩
    · obtain ⟨cC, iS, h⟩ := u_known (n := 9) (ws := gT) hg ck7.2.1 (hg _ (gT_mem 292 (by decide +kernel) (by decide +kernel)))
      exact ⟨(cC, iS), fun q hq => by cases ck7.1.symm.trans hq; exact h⟩
    · obtain ⟨cC, iS, h⟩ := u_known (n := 1) (ws := gT) hg ck8.2.1 (hg _ (gT_mem 508 (by decide +kernel) (by decide +kernel)))
      exact ⟨(cC, iS), fun q hq => by cases ck8.1.symm.trans hq; exact h⟩
    · obtain ⟨cC, iS, h⟩ := u_known (n := 4) (ws := gT) hg ck9.2.1 (hg _ (gT_mem 1214 (by decide +kernel) (by decide +kernel)))
      exact ⟨(cC, iS), fun q hq => by cases ck9.1.symm.trans hq; exact h⟩
    · obtain ⟨cC, iS, h⟩ := u_known (n := 4) (ws := gT) hg ck10.2.1 (hg _ (gT_mem 1072 (by decide +kernel) (by decide +kernel)))
      exact ⟨(cC, iS), fun q hq => by cases ck10.1.symm.trans hq; exact h⟩
    · have hl7 : vwCl.length = 11 := rfl
      exact ⟨(0, fun _ => 0), fun q hq => absurd (List.getElem?_eq_some_iff.mp hq).1 (by omega)⟩
  obtain ⟨d, hd⟩ := Classical.axiomOfChoice h0
  exact ⟨(fun c => (d c).1, fun c => (d c).2), fun c q hq => hd c q hq⟩
theorem prim_arr {ty : FieldType} (h : (Cond.arrayClass ty).before args s = true) : ∃ c : ClassId, ArrOfT s c ty ∧ s.vm.findClass ("[" ++ ty.toString) = some c := by
  obtain ⟨c, k, comp, h1, h2, h3⟩ := Cond.arrayClass_spec h
  exact ⟨c, fun n z => ⟨(fun k h => by cases h), k, h2, comp, h3⟩, h1⟩
theorem K_all (hts : ∀ w ∈ lw_tbl, w.before args s = true) (ad : Nat → Nat) (A : Nat → Prop) : ∃ (D : va_G) (cy : Nat → ClassId), va_K D vwCl (tysOf (ad, D, cy, A)) s := by
  obtain ⟨D, hD⟩ := kn_all hts
  obtain ⟨c0, a0, f0⟩ := prim_arr (ty := .int) (hts _ (List.mem_of_getElem? (i := 148) (by decide +kernel)))
  obtain ⟨c1, a1, f1⟩ := prim_arr (ty := .byte) (hts _ (List.mem_of_getElem? (i := 249) (by decide +kernel)))
  obtain ⟨c2, a2, f2⟩ := prim_arr (ty := .boolean) (hts _ (List.mem_of_getElem? (i := 445) (by decide +kernel)))
  obtain ⟨m3, c3, k3, g3_1, g3_2, g3_3, g3_4, g3_5⟩ := Cond.arrayOver_spec (n := "KitePainter$Sail") (show (Cond.arrayOver (.object "KitePainter$Sail")).before args s = true from (hts _ (List.mem_of_getElem? (i := 156) (by decide +kernel))))
  obtain ⟨m6, c6, k6, g6_1, g6_2, g6_3, g6_4, g6_5⟩ := Cond.arrayOver_spec (n := "KitePainterLaw$Cell") (show (Cond.arrayOver (.object "KitePainterLaw$Cell")).before args s = true from (hts _ (List.mem_of_getElem? (i := 302) (by decide +kernel))))
  obtain ⟨m7, c7, k7, g7_1, g7_2, g7_3, g7_4, g7_5⟩ := Cond.arrayOver_spec (n := "KitePainterLaw$Kite") (show (Cond.arrayOver (.object "KitePainterLaw$Kite")).before args s = true from (hts _ (List.mem_of_getElem? (i := 1376) (by decide +kernel))))
  obtain ⟨m8, c8, k8, g8_1, g8_2, g8_3, g8_4, g8_5⟩ := Cond.arrayOver_spec (n := "java/lang/String") (show (Cond.arrayOver (.object "java/lang/String")).before args s = true from (hts _ (List.mem_of_getElem? (i := 1068) (by decide +kernel))))
  have hAI : va_AOA .int s := (show (Cond.arrayOver (.array .int)).before args s = true from (hts _ (List.mem_of_getElem? (i := 298) (by decide +kernel))))
  have hAS : va_AOA (.object "java/lang/String") s := (show (Cond.arrayOver (.array (.object "java/lang/String"))).before args s = true from (hts _ (List.mem_of_getElem? (i := 300) (by decide +kernel))))
  obtain ⟨m4, c4, k4, e1, e2, e3, e4, e5⟩ := aoa_spec hAI
  obtain ⟨m9, c9, k9, d1, d2, d3, d4, d5⟩ := aoa_spec hAS
  refine ⟨D, fun i => if i = 0 then c0 else if i = 1 then c1 else if i = 2 then c2 else if i = 3 then c3 else if i = 4 then c4 else if i = 5 then c0 else if i = 6 then c6 else if i = 7 then c7 else if i = 8 then c8 else c9, hD, fun k q hk => ?_⟩
  unfold tysOf at hk
  rcases (by omega : k = 0 ∨ k = 1 ∨ k = 2 ∨ k = 3 ∨ k = 4 ∨ k = 5 ∨ k = 6 ∨ k = 7 ∨ k = 8 ∨ k = 9 ∨ 10 ≤ k) with rfl | rfl | rfl | rfl | rfl | rfl | rfl | rfl | rfl | rfl | h
  · cases hk; exact ⟨a0, f0⟩
  · cases hk; exact ⟨a1, f1⟩
  · cases hk; exact ⟨a2, f2⟩
  · cases hk; exact ⟨fun n z => ⟨(fun k h => by cases h), k3, g3_3, m3, g3_4⟩, ⟨k3, m3, g3_3, g3_4, g3_1, g3_5⟩⟩
  · cases hk; exact ⟨fun n z => ⟨(fun k h => by cases h), k4, e3, m4, e4⟩, e5⟩
  · cases hk; exact ⟨a0, f0⟩
  · cases hk; exact ⟨fun n z => ⟨(fun k h => by cases h), k6, g6_3, m6, g6_4⟩, ⟨k6, m6, g6_3, g6_4, g6_1, g6_5⟩⟩
  · cases hk; exact ⟨fun n z => ⟨(fun k h => by cases h), k7, g7_3, m7, g7_4⟩, ⟨k7, m7, g7_3, g7_4, g7_1, g7_5⟩⟩
  · cases hk; exact ⟨fun n z => ⟨(fun k h => by cases h), k8, g8_3, m8, g8_4⟩, ⟨k8, m8, g8_3, g8_4, g8_1, g8_5⟩⟩
  · cases hk; exact ⟨fun n z => ⟨(fun k h => by cases h), k9, d3, m9, d4⟩, d5⟩
  · exact absurd (List.getElem?_eq_some_iff.mp hk).1 (by simp only [List.length_cons, List.length_nil]; omega)
theorem strR_all {ad : Nat → Nat} (hts : ∀ w ∈ lw_tbl, w.before args s = true) (hs : ∀ w ∈ FL, w.before args s = true) (hev : ∀ i, i < 24 → (tmS i).eval args s none [] s = some (.ref (ad i))) : ∀ (own : String) (ix j : Nat) (tx : String), (own, ix, j, tx) ∈ strL → vk_R own ix tx (ad j) s := by
  intro own ix j tx hm
  unfold strL at hm
  simp only [List.mem_cons, Prod.mk.injEq, List.not_mem_nil, or_false] at hm
  rcases hm with ⟨rfl, rfl, rfl, rfl⟩ | ⟨rfl, rfl, rfl, rfl⟩ | ⟨rfl, rfl, rfl, rfl⟩ | ⟨rfl, rfl, rfl, rfl⟩ | ⟨rfl, rfl, rfl, rfl⟩ | ⟨rfl, rfl, rfl, rfl⟩ | ⟨rfl, rfl, rfl, rfl⟩ | ⟨rfl, rfl, rfl, rfl⟩ | ⟨rfl, rfl, rfl, rfl⟩ | ⟨rfl, rfl, rfl, rfl⟩ | ⟨rfl, rfl, rfl, rfl⟩ | ⟨rfl, rfl, rfl, rfl⟩ | ⟨rfl, rfl, rfl, rfl⟩ | ⟨rfl, rfl, rfl, rfl⟩ | ⟨rfl, rfl, rfl, rfl⟩ | ⟨rfl, rfl, rfl, rfl⟩ | ⟨rfl, rfl, rfl, rfl⟩ | ⟨rfl, rfl, rfl, rfl⟩
  · exact vk_R.of (hts _ (List.mem_of_getElem? (i := 623) (by decide +kernel))) (hev 0 (by omega))
  · exact vk_R.of (hts _ (List.mem_of_getElem? (i := 659) (by decide +kernel))) (hev 1 (by omega))
  · exact vk_R.of (hts _ (List.mem_of_getElem? (i := 672) (by decide +kernel))) (hev 2 (by omega))
  · exact vk_R.of (hts _ (List.mem_of_getElem? (i := 673) (by decide +kernel))) (hev 3 (by omega))
  · exact vk_R.of (hts _ (List.mem_of_getElem? (i := 674) (by decide +kernel))) (hev 4 (by omega))
  · exact vk_R.of (hts _ (List.mem_of_getElem? (i := 675) (by decide +kernel))) (hev 5 (by omega))
  · exact vk_R.of (hts _ (List.mem_of_getElem? (i := 688) (by decide +kernel))) (hev 6 (by omega))
  · exact vk_R.of (hts _ (List.mem_of_getElem? (i := 693) (by decide +kernel))) (hev 7 (by omega))
  · exact vk_R.of (hts _ (List.mem_of_getElem? (i := 694) (by decide +kernel))) (hev 8 (by omega))
  · exact vk_R.of (hts _ (List.mem_of_getElem? (i := 712) (by decide +kernel))) (hev 9 (by omega))
  · exact vk_R.of (hts _ (List.mem_of_getElem? (i := 1329) (by decide +kernel))) (hev 10 (by omega))
  · exact vk_R.of (hts _ (List.mem_of_getElem? (i := 787) (by decide +kernel))) (hev 11 (by omega))
  · exact vk_R.of (hts _ (List.mem_of_getElem? (i := 1336) (by decide +kernel))) (hev 12 (by omega))
  · exact vk_R.of (hts _ (List.mem_of_getElem? (i := 574) (by decide +kernel))) (hev 13 (by omega))
  · exact vk_R.of (hts _ (List.mem_of_getElem? (i := 970) (by decide +kernel))) (hev 14 (by omega))
  · exact vk_R.of (hts _ (List.mem_of_getElem? (i := 1375) (by decide +kernel))) (hev 15 (by omega))
  · exact vk_R.of (hts _ (List.mem_of_getElem? (i := 1007) (by decide +kernel))) (hev 16 (by omega))
  · exact vk_R.of (hts _ (List.mem_of_getElem? (i := 1022) (by decide +kernel))) (hev 17 (by omega))
theorem strG_all {ad : Nat → Nat} (hts : ∀ w ∈ lw_tbl, w.before args s = true) (hs : ∀ w ∈ FL, w.before args s = true) (hev : ∀ i, i < 24 → (tmS i).eval args s none [] s = some (.ref (ad i))) : ∀ (own : String) (ix j : Nat) (tx : String), (own, ix, j, tx) ∈ strG → vk_R own ix tx (ad j) s := by
  intro own ix j tx hm
  unfold strG at hm
  simp only [List.mem_cons, Prod.mk.injEq, List.not_mem_nil, or_false] at hm
  rcases hm with ⟨rfl, rfl, rfl, rfl⟩ | ⟨rfl, rfl, rfl, rfl⟩ | ⟨rfl, rfl, rfl, rfl⟩ | ⟨rfl, rfl, rfl, rfl⟩ | ⟨rfl, rfl, rfl, rfl⟩ | ⟨rfl, rfl, rfl, rfl⟩ | ⟨rfl, rfl, rfl, rfl⟩ | ⟨rfl, rfl, rfl, rfl⟩ | ⟨rfl, rfl, rfl, rfl⟩ | ⟨rfl, rfl, rfl, rfl⟩ | ⟨rfl, rfl, rfl, rfl⟩ | ⟨rfl, rfl, rfl, rfl⟩
  · exact vk_R.of (hts _ (List.mem_of_getElem? (i := 1031) (by decide +kernel))) (va_eqR (hs _ (List.mem_of_getElem? (i := 533) (by decide +kernel))) (hev 0 (by omega)))
  · exact vk_R.of (hts _ (List.mem_of_getElem? (i := 1054) (by decide +kernel))) (hev 18 (by omega))
  · exact vk_R.of (hts _ (List.mem_of_getElem? (i := 1058) (by decide +kernel))) (hev 19 (by omega))
  · exact vk_R.of (hts _ (List.mem_of_getElem? (i := 1059) (by decide +kernel))) (va_eqR (hs _ (List.mem_of_getElem? (i := 553) (by decide +kernel))) (hev 1 (by omega)))
  · exact vk_R.of (hts _ (List.mem_of_getElem? (i := 1060) (by decide +kernel))) (va_eqR (hs _ (List.mem_of_getElem? (i := 563) (by decide +kernel))) (hev 2 (by omega)))
  · exact vk_R.of (hts _ (List.mem_of_getElem? (i := 1061) (by decide +kernel))) (hev 20 (by omega))
  · exact vk_R.of (hts _ (List.mem_of_getElem? (i := 1062) (by decide +kernel))) (va_eqR (hs _ (List.mem_of_getElem? (i := 583) (by decide +kernel))) (hev 4 (by omega)))
  · exact vk_R.of (hts _ (List.mem_of_getElem? (i := 1063) (by decide +kernel))) (va_eqR (hs _ (List.mem_of_getElem? (i := 591) (by decide +kernel))) (hev 5 (by omega)))
  · exact vk_R.of (hts _ (List.mem_of_getElem? (i := 1064) (by decide +kernel))) (hev 21 (by omega))
  · exact vk_R.of (hts _ (List.mem_of_getElem? (i := 1065) (by decide +kernel))) (hev 22 (by omega))
  · exact vk_R.of (hts _ (List.mem_of_getElem? (i := 1069) (by decide +kernel))) (va_eqR (hs _ (List.mem_of_getElem? (i := 631) (by decide +kernel))) (hev 9 (by omega)))
  · exact vk_R.of (hts _ (List.mem_of_getElem? (i := 1070) (by decide +kernel))) (hev 23 (by omega))
theorem nest_tbl : ∀ w ∈ nestW ++ nestM, w ∈ lw_tbl := by
  intro w hw
  unfold nestW nestM at hw
  simp only [List.cons_append, List.nil_append, List.mem_cons, List.not_mem_nil, or_false] at hw
  rcases hw with rfl | rfl | rfl | rfl | rfl | rfl | rfl
  · exact (List.mem_of_getElem? (i := 809) (by decide +kernel))
  · exact (List.mem_of_getElem? (i := 811) (by decide +kernel))
  · exact (List.mem_of_getElem? (i := 838) (by decide +kernel))
  · exact (List.mem_of_getElem? (i := 839) (by decide +kernel))
  · exact (List.mem_of_getElem? (i := 171) (by decide +kernel))
  · exact (List.mem_of_getElem? (i := 184) (by decide +kernel))
  · exact (List.mem_of_getElem? (i := 203) (by decide +kernel))
theorem start_env (hts : ∀ w ∈ lw_tbl, w.before args s = true) (hp : (Jvm.Cond.and given_1 narrow_1).before args s = true) {b L : Nat} {xs : Nat → Int32} (hX : va_X b L xs s s.heap) (hbl : b < s.heap.size) : ∃ Γ : en, (∀ i, i < 1000 → Γ.1 i = s.heap.size + i) ∧ Γ.1 3000 = b ∧ (∀ q, Γ.2.2.2 q ↔ s.heap.size ≤ q) ∧ va_K Γ.2.1 vwCl (tysOf Γ) s ∧ StL Γ.1 Γ.2.2.2 (L, xs) s := by
  have hs : ∀ w ∈ FL, w.before args s = true := flat_of_before _ hp
  have hA : ∀ a : Nat, a < s.heap.size → ¬ (fun q => s.heap.size ≤ q) a := fun a h1 h2 => absurd h2 (Nat.not_le.mpr h1)
  obtain ⟨adK, adV, hev, hstr⟩ := str_all (A := fun q => s.heap.size ≤ q) hs hA
  obtain ⟨t0, z0, y0⟩ := tab_0 (A := fun q => s.heap.size ≤ q) hts hs hA
  obtain ⟨t1, z1, y1⟩ := tab_1 (A := fun q => s.heap.size ≤ q) hts hs hA
  obtain ⟨t2, z2, y2⟩ := tab_2 (A := fun q => s.heap.size ≤ q) hts hs hA
  obtain ⟨t3, z3, y3⟩ := tab_3 (A := fun q => s.heap.size ≤ q) hts hs hA
  obtain ⟨ad, had⟩ : ∃ ad : Nat → Nat, ad = fun i => if i < 1000 then s.heap.size + i else if i < 2000 then (if i = 1000 then t0 else if i = 1001 then t1 else if i = 1002 then t2 else t3) else if i < 3000 then adK (i - 2000) else if i < 4000 then b else adV (i - 4000) := ⟨_, rfl⟩
  have d0 : ad (1000 + 0) = t0 := by rw [had]; rfl
  have d1 : ad (1000 + 1) = t1 := by rw [had]; rfl
  have d2 : ad (1000 + 2) = t2 := by rw [had]; rfl
  have d3 : ad (1000 + 3) = t3 := by rw [had]; rfl
  have dS : ∀ i, i < 24 → ad (2000 + i) = adK i := fun i hi => by
    rw [had]
    show (if 2000 + i < 1000 then _ else if 2000 + i < 2000 then _ else if 2000 + i < 3000 then adK (2000 + i - 2000) else if 2000 + i < 4000 then b else adV (2000 + i - 4000)) = _
    rw [if_neg (by omega), if_neg (by omega), if_pos (by omega), show 2000 + i - 2000 = i by omega]
  have dV : ∀ i, i < 24 → ad (4000 + i) = adV i := fun i hi => by
    rw [had]
    show (if 4000 + i < 1000 then _ else if 4000 + i < 2000 then _ else if 4000 + i < 3000 then adK (4000 + i - 2000) else if 4000 + i < 4000 then b else adV (4000 + i - 4000)) = _
    rw [if_neg (by omega), if_neg (by omega), if_neg (by omega), if_neg (by omega), show 4000 + i - 4000 = i by omega]
  have dB : ad 3000 = b := by rw [had]; rfl
  obtain ⟨D, cy, hK⟩ := K_all hts ad (fun q => s.heap.size ≤ q)
  refine ⟨(ad, D, cy, fun q => s.heap.size ≤ q), fun i hi => ?_, ?_, fun q => Iff.rfl, hK, ?_⟩
  · show ad i = _
    rw [had]
    exact if_pos hi
  · show ad 3000 = b
    rw [had]; rfl
  · refine ⟨fun j hj => ?_, fun j hj => ?_, strR_all (ad := fun j => ad (2000 + j)) hts hs (fun i hi => by show _ = some (Value.ref (ad (2000 + i))); rw [dS i hi]; exact hev i hi), fun w hw => va_Nw.of (nest_on w (List.mem_append_left _ hw)) (hts w (nest_tbl w (List.mem_append_left _ hw))), fun w hw => va_Nw.of (nest_on w (List.mem_append_right _ hw)) (hts w (nest_tbl w (List.mem_append_right _ hw))), fun q h => h, fun i hi => ?_, va_Zof (hts _ (List.mem_of_getElem? (i := 464) (by decide +kernel))) (hts _ (List.mem_of_getElem? (i := 48) (by decide +kernel))) (va_eqt (hs _ (List.mem_of_getElem? (i := 4) (by decide +kernel)))) hA, va_Zqof (hts _ (List.mem_of_getElem? (i := 480) (by decide +kernel))) (hts _ (List.mem_of_getElem? (i := 50) (by decide +kernel))) (hs _ (List.mem_of_getElem? (i := 5) (by decide +kernel))) hA, vx_Zqof (hts _ (List.mem_of_getElem? (i := 560) (by decide +kernel))) (hts _ (List.mem_of_getElem? (i := 41) (by decide +kernel))) (hs _ (List.mem_of_getElem? (i := 9) (by decide +kernel))) hA, vx_Zqof (hts _ (List.mem_of_getElem? (i := 562) (by decide +kernel))) (hts _ (List.mem_of_getElem? (i := 41) (by decide +kernel))) (hs _ (List.mem_of_getElem? (i := 10) (by decide +kernel))) hA, fun w hw => va_tabs (fT_on hw) rfl (hts w (List.mem_filter.mp hw).1), (show (Cond.arrayOver (.object "KitePainter$Sail")).before args s = true from (hts _ (List.mem_of_getElem? (i := 156) (by decide +kernel)))), (show (Cond.arrayOver (.array .int)).before args s = true from (hts _ (List.mem_of_getElem? (i := 298) (by decide +kernel)))), va_Nc.of (hs _ (List.mem_of_getElem? (i := 267) (by decide +kernel))), va_Nc.of (hs _ (List.mem_of_getElem? (i := 268) (by decide +kernel))), strG_all (ad := fun j => ad (2000 + j)) hts hs (fun i hi => by show _ = some (Value.ref (ad (2000 + i))); rw [dS i hi]; exact hev i hi), ⟨by show va_X (ad 3000) L xs s s.heap; rw [dB]; exact hX, by show ad 3000 < _; rw [dB]; exact hbl, fun z => by have z9 : s.heap.size ≤ ad 3000 := z; rw [dB] at z9; omega⟩, (show (Cond.arrayOver (.array (.object "java/lang/String"))).before args s = true from (hts _ (List.mem_of_getElem? (i := 300) (by decide +kernel)))), ⟨(show (Cond.arrayOver (.object "KitePainterLaw$Cell")).before args s = true from (hts _ (List.mem_of_getElem? (i := 302) (by decide +kernel)))), (show (Cond.arrayOver (.object "KitePainterLaw$Kite")).before args s = true from (hts _ (List.mem_of_getElem? (i := 1376) (by decide +kernel)))), (show (Cond.arrayOver (.object "java/lang/String")).before args s = true from (hts _ (List.mem_of_getElem? (i := 1068) (by decide +kernel))))⟩, va_Nw.of nest9_on (hts _ (List.mem_of_getElem? (i := 293) (by decide +kernel)))⟩
    · rcases (by omega : j = 0 ∨ j = 1 ∨ j = 2 ∨ j = 3) with rfl | rfl | rfl | rfl
      · show va_Z _ _ _ (.ref (ad (1000 + 0))) _ _ _; rw [d0]; exact z0
      · show va_Z _ _ _ (.ref (ad (1000 + 1))) _ _ _; rw [d1]; exact z1
      · show va_Z _ _ _ (.ref (ad (1000 + 2))) _ _ _; rw [d2]; exact z2
      · show va_Z _ _ _ (.ref (ad (1000 + 3))) _ _ _; rw [d3]; exact z3
    · rcases (by omega : j = 0 ∨ j = 1 ∨ j = 2 ∨ j = 3) with rfl | rfl | rfl | rfl
      · show va_T _ (ad (1000 + 0)) _ _ _ _ _; rw [d0]; exact y0
      · show va_T _ (ad (1000 + 1)) _ _ _ _ _; rw [d1]; exact y1
      · show va_T _ (ad (1000 + 2)) _ _ _ _ _; rw [d2]; exact y2
      · show va_T _ (ad (1000 + 3)) _ _ _ _ _; rw [d3]; exact y3
    · obtain ⟨h1, h2, h3, h4⟩ := hstr i hi
      show va_O _ (ad (2000 + i)) _ _ _ ∧ va_OF _ _ _ _ (ad (2000 + i)) _ _ _ ∧ va_OF _ _ _ (.ref (ad (4000 + i))) (ad (2000 + i)) _ _ _ ∧ _
      rw [dS i hi]
      refine ⟨h1, h2, ?_, ?_⟩
      · rw [dV i hi]; exact h3
      · show va_T _ (ad (4000 + i)) _ _ _ _ _; rw [dV i hi]; exact h4
end ST
