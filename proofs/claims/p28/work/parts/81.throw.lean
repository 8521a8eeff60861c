/-! SOUNDNESS of the throws -/
def strO (adK adV : Nat → Nat) (A : Nat → Prop) (U : State) (H : Heap) : Prop := ∀ i : Nat, i < 24 → va_O "java/lang/String" (adK i) A U H ∧ va_OF "java/lang/String" "coder" "B" (.int 0) (adK i) A U H ∧ va_OF "java/lang/String" "value" "[B" (.ref (adV i)) (adK i) A U H ∧ va_T .byte (adV i) (txtN.getD i 0) (fun j => .int ((txtB.getD i []).getD j 0)) A U H
/-- words of the tables that outlive warming without being good words -/
def fT : List Cond := lw_tbl.filter (fun w => w.faceAtom && w.onTables)
/-- what the library's members and the throws need of a state -/
def envX (Γ : en) (St : State → Prop) (adV : Nat → Nat) : Prop :=
  (∀ s : State, St s → ∀ q : Nat, s.heap.size ≤ q → Γ.2.2.2 q) ∧
  (∀ s : State, St s → strO (fun j => Γ.1 (2000 + j)) adV Γ.2.2.2 s s.heap) ∧
  (∀ s : State, St s → va_Z "java/lang/String" "COMPACT_STRINGS" "Z" (.int 1) Γ.2.2.2 s s.heap) ∧
  (∀ s : State, St s → va_Zq "jdk/internal/util/Preconditions" "SIOOBE_FORMATTER" "Ljava/util/function/BiFunction;" Γ.2.2.2 s s.heap) ∧
  (∀ s : State, St s → vx_Zq Bundle.tN "UNASSIGNED_STACK" Bundle.steD Γ.2.2.2 s s.heap) ∧
  (∀ s : State, St s → vx_Zq Bundle.tN "SUPPRESSED_SENTINEL" Bundle.listD Γ.2.2.2 s s.heap) ∧
  (∀ s : State, St s → ∀ w ∈ fT, w.before #[] s = true)
abbrev thN : List String := ["java/lang/RuntimeException", "java/lang/Exception"]
set_option maxRecDepth 100000 in
theorem th_at_IAE : ∀ w ∈ vx_atS "KitePainter" 121 "java/lang/IllegalArgumentException" thN, w ∈ gT ∨ w ∈ fT := by decide +kernel
set_option maxRecDepth 100000 in
theorem th_gd_IAE : ∀ w ∈ Cond.classLink "KitePainter" 117 "java/lang/IllegalArgumentException" :: Cond.initialized "java/lang/IllegalArgumentException" :: vx_atS "KitePainter" 121 "java/lang/IllegalArgumentException" thN, vx_ot w = true := by decide +kernel
set_option maxRecDepth 100000 in
theorem th_at_ISE : ∀ w ∈ vx_atS "KitePainter" 227 "java/lang/IllegalStateException" thN, w ∈ gT ∨ w ∈ fT := by decide +kernel
set_option maxRecDepth 100000 in
theorem th_gd_ISE : ∀ w ∈ Cond.classLink "KitePainter" 223 "java/lang/IllegalStateException" :: Cond.initialized "java/lang/IllegalStateException" :: vx_atS "KitePainter" 227 "java/lang/IllegalStateException" thN, vx_ot w = true := by decide +kernel
set_option maxRecDepth 100000 in
theorem th_at_IOO : ∀ w ∈ vx_atS "KitePainter" 251 "java/lang/IndexOutOfBoundsException" thN, w ∈ gT ∨ w ∈ fT := by decide +kernel
set_option maxRecDepth 100000 in
theorem th_gd_IOO : ∀ w ∈ Cond.classLink "KitePainter" 247 "java/lang/IndexOutOfBoundsException" :: Cond.initialized "java/lang/IndexOutOfBoundsException" :: vx_atS "KitePainter" 251 "java/lang/IndexOutOfBoundsException" thN, vx_ot w = true := by decide +kernel
def isCd (y : MethodName) (c : ByteArray) (w : Cond) : Bool := match w with
  | .code y2 c2 _ _ => decide (y2 ≠ y) || decide (c2 = c)
  | _ => true
set_option maxRecDepth 100000 in
theorem cd_state : gT.all (isCd yX5_state cX5_state) = true := by decide +kernel
set_option maxRecDepth 100000 in
theorem cd_cell : gT.all (isCd yX5_cell cX5_cell) = true := by decide +kernel
set_option maxRecDepth 100000 in
theorem cd_pattern : gT.all (isCd yX5_pattern cX5_pattern) = true := by decide +kernel
set_option maxRecDepth 100000 in
theorem cd_strip : gT.all (isCd yX5_strip cX5_strip) = true := by decide +kernel
set_option maxRecDepth 100000 in
theorem cd_wash : gT.all (isCd yX5_wash cX5_wash) = true := by decide +kernel
set_option maxRecDepth 100000 in
theorem cd_requireCell : gT.all (isCd yX5_requireCell cX5_requireCell) = true := by decide +kernel
set_option maxRecDepth 100000 in
theorem cd_requirePattern : gT.all (isCd yX5_requirePattern cX5_requirePattern) = true := by decide +kernel
set_option maxRecDepth 100000 in
theorem cd_requireRange : gT.all (isCd yX5_requireRange cX5_requireRange) = true := by decide +kernel
theorem cd_use {y : MethodName} {c : ByteArray} (h : gT.all (isCd y c) = true) {M : mt} (hM : Cond.code M.1 M.2.1 M.2.2.1 M.2.2.2.1 ∈ gT) (e : M.1 = y) : M.2.1 = c := by
  have h1 := List.all_eq_true.mp h _ hM
  have h2 : (decide (M.1 ≠ y) || decide (M.2.1 = c)) = true := h1
  rw [e] at h2
  simpa using h2
theorem fT_on {w : Cond} (h : w ∈ fT) : w.onTables = true := by
  have := (List.mem_filter.mp h).2
  simp only [Bool.and_eq_true] at this
  exact this.2
section TH
variable {Γ : en} {l : Launch} {St : State → Prop} {NC : Nat}
theorem thr_gen (hE : envOK Γ St) {adV : Nat → Nat} (hX : envX Γ St adV) (hl : l.stackTraces = false) {E : String} {M : mt} {pc : Nat} {L : List Value} {h : hp} {Q : qt} {ik is ic j : Nat} {text : String} (ho : M.1.cls = "KitePainter") (hcls : Bundle.fit E = true) (hk : Cond.classLink "KitePainter" ik E ∈ gT) (hini : Cond.initialized E ∈ gT) (hstr : ("KitePainter", is, j, text) ∈ strL) (hat : ∀ w ∈ vx_atS "KitePainter" ic E thN, w ∈ gT ∨ w ∈ fT) (hgd : ∀ w ∈ Cond.classLink "KitePainter" ik E :: Cond.initialized E :: vx_atS "KitePainter" ic E thN, vx_ot w = true)
    (d0 : decode M.2.1 pc = .ok (.new ik, 3)) (d3 : decode M.2.1 (pc + 3) = .ok (.dup, 1)) (d4 : decode M.2.1 (pc + 4) = .ok (.ldc is, 2)) (d6 : decode M.2.1 (pc + 6) = .ok (.invokespecial ic, 3)) (d9 : decode M.2.1 (pc + 9) = .ok (.athrow, 1)) (h8 : 8 ≤ M.2.2.2.2.1) (h120 : 120 ≤ M.2.2.2.2.2) (hq : Q .null h) : Snd Γ l St NC (some E) M pc L [] h Q := by
  intro p e s m args below meth c H locs ls hC hW hL
  obtain ⟨hx, hb, hrt, hml, hown, hts, hlocks, hexc, hK, hSt⟩ := id hC
  obtain ⟨hP, hD, hS⟩ := id hW
  rw [ho] at hown
  refine vx_throwS (names := thN) (sa := Γ.1 (2000 + j)) (A := Γ.2.2.2) (text := text) (own := "KitePainter") (cls := E) (ik := ik) (is := is) (ic := ic) (R := rmM (some E) M) hx hb hl hown hcls (by decide +kernel) (hts _ hk) (hts _ hini) (hE.2.2.2.2.1 s _ _ _ _ hstr hSt) (fun w hw => (hat w hw).elim (fun z => hts w z) (fun z => va_tabs (fT_on z) rfl (hX.2.2.2.2.2.2 s hSt w z))) hgd (hX.2.2.2.2.1 s hSt) (hX.2.2.2.2.2.1 s hSt) hS (hL.1.trans hml.symm) d0 d3 d4 d6 d9 (fun x hx => (hexc x hx).elim) (by show 2 + 3 < M.2.2.2.2.1; omega) (by show 0 + (13 * (2 + 1) + 43) ≤ M.2.2.2.2.2; omega) (Nat.le_refl _) (Nat.le_refl _) hlocks (fun t ht hsz hkp => ?_) hS.2.2 (Nat.le_refl _) (Nat.le_refl _)
  refine ⟨rfl, ⟨h, hq, ?_, hD⟩, ?_, ?_⟩
  · intro k q hk9
    have h1 := hP k q hk9
    have h2 := vx_lt hP hk9
    have h3 := hkp q.1 h2
    unfold va_at at h1 ⊢
    split at h1
    · rw [h3]; exact h1
    · obtain ⟨r, hr, h4⟩ := h1
      refine ⟨r, hr, ?_⟩
      unfold t_OB at h4 ⊢
      rw [h3]
      exact h4
  · exact Nat.le_trans hS.1 hsz
  · intro q g1 g2
    rw [hkp q (Nat.lt_of_lt_of_le g1 hS.1)]
    exact hS.2.1 q g1 g2
theorem thr_state (hE : envOK Γ St) {adV : Nat → Nat} (hX : envX Γ St adV) (hl : l.stackTraces = false) {M : mt} {L : List Value} {h : hp} {Q : qt} (hM : Cond.code M.1 M.2.1 M.2.2.1 M.2.2.2.1 ∈ gT) (e : M.1 = yX5_state) (h8 : 8 ≤ M.2.2.2.2.1) (h120 : 120 ≤ M.2.2.2.2.2) (hq : Q .null h) : Snd Γ l St NC (some "java/lang/IllegalArgumentException") M 173 L [] h Q := by
  have ec := cd_use cd_state hM e
  exact thr_gen hE hX hl (ik := 117) (is := 119) (ic := 121) (j := 10) (text := "no such number of the state") (by rw [e]; rfl) (by decide +kernel) (gT_mem 533 (by decide +kernel) (by decide +kernel)) (gT_mem 44 (by decide +kernel) (by decide +kernel)) (by decide) th_at_IAE th_gd_IAE (by rw [ec]; exact dX5_state_173) (by rw [ec]; exact dX5_state_176) (by rw [ec]; exact dX5_state_177) (by rw [ec]; exact dX5_state_179) (by rw [ec]; exact dX5_state_182) h8 h120 hq
theorem thr_cell (hE : envOK Γ St) {adV : Nat → Nat} (hX : envX Γ St adV) (hl : l.stackTraces = false) {M : mt} {L : List Value} {h : hp} {Q : qt} (hM : Cond.code M.1 M.2.1 M.2.2.1 M.2.2.2.1 ∈ gT) (e : M.1 = yX5_cell) (h8 : 8 ≤ M.2.2.2.2.1) (h120 : 120 ≤ M.2.2.2.2.2) (hq : Q .null h) : Snd Γ l St NC (some "java/lang/IllegalArgumentException") M 112 L [] h Q := by
  have ec := cd_use cd_cell hM e
  exact thr_gen hE hX hl (ik := 117) (is := 148) (ic := 121) (j := 12) (text := "no such number of a cell") (by rw [e]; rfl) (by decide +kernel) (gT_mem 533 (by decide +kernel) (by decide +kernel)) (gT_mem 44 (by decide +kernel) (by decide +kernel)) (by decide) th_at_IAE th_gd_IAE (by rw [ec]; exact dX5_cell_112) (by rw [ec]; exact dX5_cell_115) (by rw [ec]; exact dX5_cell_116) (by rw [ec]; exact dX5_cell_118) (by rw [ec]; exact dX5_cell_121) h8 h120 hq
theorem thr_pattern (hE : envOK Γ St) {adV : Nat → Nat} (hX : envX Γ St adV) (hl : l.stackTraces = false) {M : mt} {L : List Value} {h : hp} {Q : qt} (hM : Cond.code M.1 M.2.1 M.2.2.1 M.2.2.2.1 ∈ gT) (e : M.1 = yX5_pattern) (h8 : 8 ≤ M.2.2.2.2.1) (h120 : 120 ≤ M.2.2.2.2.2) (hq : Q .null h) : Snd Γ l St NC (some "java/lang/IllegalArgumentException") M 61 L [] h Q := by
  have ec := cd_use cd_pattern hM e
  exact thr_gen hE hX hl (ik := 117) (is := 199) (ic := 121) (j := 15) (text := "no such number of a pattern") (by rw [e]; rfl) (by decide +kernel) (gT_mem 533 (by decide +kernel) (by decide +kernel)) (gT_mem 44 (by decide +kernel) (by decide +kernel)) (by decide) th_at_IAE th_gd_IAE (by rw [ec]; exact dX5_pattern_61) (by rw [ec]; exact dX5_pattern_64) (by rw [ec]; exact dX5_pattern_65) (by rw [ec]; exact dX5_pattern_67) (by rw [ec]; exact dX5_pattern_70) h8 h120 hq
theorem thr_strip (hE : envOK Γ St) {adV : Nat → Nat} (hX : envX Γ St adV) (hl : l.stackTraces = false) {M : mt} {L : List Value} {h : hp} {Q : qt} (hM : Cond.code M.1 M.2.1 M.2.2.1 M.2.2.2.1 ∈ gT) (e : M.1 = yX5_strip) (h8 : 8 ≤ M.2.2.2.2.1) (h120 : 120 ≤ M.2.2.2.2.2) (hq : Q .null h) : Snd Γ l St NC (some "java/lang/IllegalStateException") M 28 L [] h Q := by
  have ec := cd_use cd_strip hM e
  exact thr_gen hE hX hl (ik := 223) (is := 225) (ic := 227) (j := 16) (text := "the cell has no spar") (by rw [e]; rfl) (by decide +kernel) (gT_mem 998 (by decide +kernel) (by decide +kernel)) (gT_mem 47 (by decide +kernel) (by decide +kernel)) (by decide) th_at_ISE th_gd_ISE (by rw [ec]; exact dX5_strip_28) (by rw [ec]; exact dX5_strip_31) (by rw [ec]; exact dX5_strip_32) (by rw [ec]; exact dX5_strip_34) (by rw [ec]; exact dX5_strip_37) h8 h120 hq
theorem thr_wash (hE : envOK Γ St) {adV : Nat → Nat} (hX : envX Γ St adV) (hl : l.stackTraces = false) {M : mt} {L : List Value} {h : hp} {Q : qt} (hM : Cond.code M.1 M.2.1 M.2.2.1 M.2.2.2.1 ∈ gT) (e : M.1 = yX5_wash) (h8 : 8 ≤ M.2.2.2.2.1) (h120 : 120 ≤ M.2.2.2.2.2) (hq : Q .null h) : Snd Γ l St NC (some "java/lang/IllegalStateException") M 26 L [] h Q := by
  have ec := cd_use cd_wash hM e
  exact thr_gen hE hX hl (ik := 223) (is := 228) (ic := 227) (j := 17) (text := "the cell is bare") (by rw [e]; rfl) (by decide +kernel) (gT_mem 998 (by decide +kernel) (by decide +kernel)) (gT_mem 47 (by decide +kernel) (by decide +kernel)) (by decide) th_at_ISE th_gd_ISE (by rw [ec]; exact dX5_wash_26) (by rw [ec]; exact dX5_wash_29) (by rw [ec]; exact dX5_wash_30) (by rw [ec]; exact dX5_wash_32) (by rw [ec]; exact dX5_wash_35) h8 h120 hq
theorem thr_requireCell (hE : envOK Γ St) {adV : Nat → Nat} (hX : envX Γ St adV) (hl : l.stackTraces = false) {M : mt} {L : List Value} {h : hp} {Q : qt} (hM : Cond.code M.1 M.2.1 M.2.2.1 M.2.2.2.1 ∈ gT) (e : M.1 = yX5_requireCell) (h8 : 8 ≤ M.2.2.2.2.1) (h120 : 120 ≤ M.2.2.2.2.2) (hq : Q .null h) : Snd Γ l St NC (some "java/lang/IndexOutOfBoundsException") M 12 L [] h Q := by
  have ec := cd_use cd_requireCell hM e
  exact thr_gen hE hX hl (ik := 247) (is := 249) (ic := 251) (j := 11) (text := "no cell of the sail") (by rw [e]; rfl) (by decide +kernel) (gT_mem 778 (by decide +kernel) (by decide +kernel)) (gT_mem 45 (by decide +kernel) (by decide +kernel)) (by decide) th_at_IOO th_gd_IOO (by rw [ec]; exact dX5_requireCell_12) (by rw [ec]; exact dX5_requireCell_15) (by rw [ec]; exact dX5_requireCell_16) (by rw [ec]; exact dX5_requireCell_18) (by rw [ec]; exact dX5_requireCell_21) h8 h120 hq
theorem thr_requirePattern (hE : envOK Γ St) {adV : Nat → Nat} (hX : envX Γ St adV) (hl : l.stackTraces = false) {M : mt} {L : List Value} {h : hp} {Q : qt} (hM : Cond.code M.1 M.2.1 M.2.2.1 M.2.2.2.1 ∈ gT) (e : M.1 = yX5_requirePattern) (h8 : 8 ≤ M.2.2.2.2.1) (h120 : 120 ≤ M.2.2.2.2.2) (hq : Q .null h) : Snd Γ l St NC (some "java/lang/IndexOutOfBoundsException") M 15 L [] h Q := by
  have ec := cd_use cd_requirePattern hM e
  exact thr_gen hE hX hl (ik := 247) (is := 252) (ic := 251) (j := 14) (text := "no such pattern") (by rw [e]; rfl) (by decide +kernel) (gT_mem 778 (by decide +kernel) (by decide +kernel)) (gT_mem 45 (by decide +kernel) (by decide +kernel)) (by decide) th_at_IOO th_gd_IOO (by rw [ec]; exact dX5_requirePattern_15) (by rw [ec]; exact dX5_requirePattern_18) (by rw [ec]; exact dX5_requirePattern_19) (by rw [ec]; exact dX5_requirePattern_21) (by rw [ec]; exact dX5_requirePattern_24) h8 h120 hq
theorem thr_requireRange (hE : envOK Γ St) {adV : Nat → Nat} (hX : envX Γ St adV) (hl : l.stackTraces = false) {M : mt} {L : List Value} {h : hp} {Q : qt} (hM : Cond.code M.1 M.2.1 M.2.2.1 M.2.2.2.1 ∈ gT) (e : M.1 = yX5_requireRange) (h8 : 8 ≤ M.2.2.2.2.1) (h120 : 120 ≤ M.2.2.2.2.2) (hq : Q .null h) : Snd Γ l St NC (some "java/lang/IllegalArgumentException") M 10 L [] h Q := by
  have ec := cd_use cd_requireRange hM e
  exact thr_gen hE hX hl (ik := 117) (is := 254) (ic := 121) (j := 13) (text := "a number out of range") (by rw [e]; rfl) (by decide +kernel) (gT_mem 533 (by decide +kernel) (by decide +kernel)) (gT_mem 44 (by decide +kernel) (by decide +kernel)) (by decide) th_at_IAE th_gd_IAE (by rw [ec]; exact dX5_requireRange_10) (by rw [ec]; exact dX5_requireRange_13) (by rw [ec]; exact dX5_requireRange_14) (by rw [ec]; exact dX5_requireRange_16) (by rw [ec]; exact dX5_requireRange_19) h8 h120 hq
theorem sn_thr (hE : envOK Γ St) {adV : Nat → Nat} (hX : envX Γ St adV) (hl : l.stackTraces = false) {E : String} {M : mt} {pc : Nat} {L : List Value} {h : hp} {Q : qt} (hM : Cond.code M.1 M.2.1 M.2.2.1 M.2.2.2.1 ∈ gT) (h0 : (M.1, pc, E) ∈ thrL) (h8 : 8 ≤ M.2.2.2.2.1) (h120 : 120 ≤ M.2.2.2.2.2) (hq : Q .null h) : Snd Γ l St NC (some E) M pc L [] h Q := by
  unfold thrL at h0
  simp only [List.mem_cons, Prod.mk.injEq, List.not_mem_nil, or_false] at h0
  rcases h0 with ⟨e, rfl, rfl⟩ | ⟨e, rfl, rfl⟩ | ⟨e, rfl, rfl⟩ | ⟨e, rfl, rfl⟩ | ⟨e, rfl, rfl⟩ | ⟨e, rfl, rfl⟩ | ⟨e, rfl, rfl⟩ | ⟨e, rfl, rfl⟩
  · exact thr_state hE hX hl hM e h8 h120 hq
  · exact thr_cell hE hX hl hM e h8 h120 hq
  · exact thr_pattern hE hX hl hM e h8 h120 hq
  · exact thr_strip hE hX hl hM e h8 h120 hq
  · exact thr_wash hE hX hl hM e h8 h120 hq
  · exact thr_requireCell hE hX hl hM e h8 h120 hq
  · exact thr_requirePattern hE hX hl hM e h8 h120 hq
  · exact thr_requireRange hE hX hl hM e h8 h120 hq
end TH
