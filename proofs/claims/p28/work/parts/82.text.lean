/-! SOUNDNESS of String.length and charAt of the constants -/
def yJ_coder : MethodName := ⟨"java/lang/String", "coder", "()B"⟩
abbrev J_coder : mt := (yJ_coder, prog_22_method_152_code, 1, some .byte, 0, 0)
theorem dJ_coder_0 : decode prog_22_method_152_code 0 = .ok (.getstatic 38, 3) := by decide +kernel
theorem dJ_coder_3 : decode prog_22_method_152_code 3 = .ok (.ifCond .eq 10, 3) := by decide +kernel
theorem dJ_coder_6 : decode prog_22_method_152_code 6 = .ok (.aload_n 0, 1) := by decide +kernel
theorem dJ_coder_7 : decode prog_22_method_152_code 7 = .ok (.getfield 15, 3) := by decide +kernel
theorem dJ_coder_10 : decode prog_22_method_152_code 10 = .ok (.goto 4, 3) := by decide +kernel
theorem dJ_coder_14 : decode prog_22_method_152_code 14 = .ok (.ireturn, 1) := by decide +kernel
def yJ_isL1 : MethodName := ⟨"java/lang/String", "isLatin1", "()Z"⟩
abbrev J_isL1 : mt := (yJ_isL1, prog_22_method_154_code, 1, some .boolean, 0, 0)
theorem dJ_isL1_0 : decode prog_22_method_154_code 0 = .ok (.getstatic 38, 3) := by decide +kernel
theorem dJ_isL1_3 : decode prog_22_method_154_code 3 = .ok (.ifCond .eq 14, 3) := by decide +kernel
theorem dJ_isL1_6 : decode prog_22_method_154_code 6 = .ok (.aload_n 0, 1) := by decide +kernel
theorem dJ_isL1_7 : decode prog_22_method_154_code 7 = .ok (.getfield 15, 3) := by decide +kernel
theorem dJ_isL1_10 : decode prog_22_method_154_code 10 = .ok (.ifCond .ne 7, 3) := by decide +kernel
theorem dJ_isL1_13 : decode prog_22_method_154_code 13 = .ok (.iconst 1, 1) := by decide +kernel
theorem dJ_isL1_14 : decode prog_22_method_154_code 14 = .ok (.goto 4, 3) := by decide +kernel
theorem dJ_isL1_18 : decode prog_22_method_154_code 18 = .ok (.ireturn, 1) := by decide +kernel
def yJ_len : MethodName := ⟨"java/lang/String", "length", "()I"⟩
abbrev J_len : mt := (yJ_len, prog_22_method_54_code, 1, some .int, 1, 20)
theorem dJ_len_0 : decode prog_22_method_54_code 0 = .ok (.aload_n 0, 1) := by decide +kernel
theorem dJ_len_1 : decode prog_22_method_54_code 1 = .ok (.getfield 9, 3) := by decide +kernel
theorem dJ_len_4 : decode prog_22_method_54_code 4 = .ok (.arraylength, 1) := by decide +kernel
theorem dJ_len_5 : decode prog_22_method_54_code 5 = .ok (.aload_n 0, 1) := by decide +kernel
theorem dJ_len_6 : decode prog_22_method_54_code 6 = .ok (.invokevirtual 335, 3) := by decide +kernel
theorem dJ_len_9 : decode prog_22_method_54_code 9 = .ok (.ishr, 1) := by decide +kernel
theorem dJ_len_10 : decode prog_22_method_54_code 10 = .ok (.ireturn, 1) := by decide +kernel
def yJ_pci : MethodName := ⟨"jdk/internal/util/Preconditions", "checkIndex", "(IILjava/util/function/BiFunction;)I"⟩
abbrev J_pci : mt := (yJ_pci, prog_30_method_11_code, 3, some .int, 0, 0)
theorem dJ_pci_0 : decode prog_30_method_11_code 0 = .ok (.iload_n 0, 1) := by decide +kernel
theorem dJ_pci_1 : decode prog_30_method_11_code 1 = .ok (.ifCond .lt 8, 3) := by decide +kernel
theorem dJ_pci_4 : decode prog_30_method_11_code 4 = .ok (.iload_n 0, 1) := by decide +kernel
theorem dJ_pci_5 : decode prog_30_method_11_code 5 = .ok (.iload_n 1, 1) := by decide +kernel
theorem dJ_pci_6 : decode prog_30_method_11_code 6 = .ok (.if_icmp .lt 10, 3) := by decide +kernel
theorem dJ_pci_16 : decode prog_30_method_11_code 16 = .ok (.iload_n 0, 1) := by decide +kernel
theorem dJ_pci_17 : decode prog_30_method_11_code 17 = .ok (.ireturn, 1) := by decide +kernel
def yJ_sci : MethodName := ⟨"java/lang/String", "checkIndex", "(II)V"⟩
abbrev J_sci : mt := (yJ_sci, prog_22_method_155_code, 2, none, 1, 22)
theorem dJ_sci_0 : decode prog_22_method_155_code 0 = .ok (.iload_n 0, 1) := by decide +kernel
theorem dJ_sci_1 : decode prog_22_method_155_code 1 = .ok (.iload_n 1, 1) := by decide +kernel
theorem dJ_sci_2 : decode prog_22_method_155_code 2 = .ok (.getstatic 1053, 3) := by decide +kernel
theorem dJ_sci_5 : decode prog_22_method_155_code 5 = .ok (.invokestatic 1059, 3) := by decide +kernel
theorem dJ_sci_8 : decode prog_22_method_155_code 8 = .ok (.pop, 1) := by decide +kernel
theorem dJ_sci_9 : decode prog_22_method_155_code 9 = .ok (.return_, 1) := by decide +kernel
def yJ_l1c : MethodName := ⟨"java/lang/StringLatin1", "charAt", "([BI)C"⟩
abbrev J_l1c : mt := (yJ_l1c, prog_24_method_2_code, 2, some .char, 2, 43)
theorem dJ_l1c_0 : decode prog_24_method_2_code 0 = .ok (.iload_n 1, 1) := by decide +kernel
theorem dJ_l1c_1 : decode prog_24_method_2_code 1 = .ok (.aload_n 0, 1) := by decide +kernel
theorem dJ_l1c_2 : decode prog_24_method_2_code 2 = .ok (.arraylength, 1) := by decide +kernel
theorem dJ_l1c_3 : decode prog_24_method_2_code 3 = .ok (.invokestatic 9, 3) := by decide +kernel
theorem dJ_l1c_6 : decode prog_24_method_2_code 6 = .ok (.aload_n 0, 1) := by decide +kernel
theorem dJ_l1c_7 : decode prog_24_method_2_code 7 = .ok (.iload_n 1, 1) := by decide +kernel
theorem dJ_l1c_8 : decode prog_24_method_2_code 8 = .ok (.baload, 1) := by decide +kernel
theorem dJ_l1c_9 : decode prog_24_method_2_code 9 = .ok (.sipush 255, 3) := by decide +kernel
theorem dJ_l1c_12 : decode prog_24_method_2_code 12 = .ok (.iand, 1) := by decide +kernel
theorem dJ_l1c_13 : decode prog_24_method_2_code 13 = .ok (.i2c, 1) := by decide +kernel
theorem dJ_l1c_14 : decode prog_24_method_2_code 14 = .ok (.ireturn, 1) := by decide +kernel
def yJ_chr : MethodName := ⟨"java/lang/String", "charAt", "(I)C"⟩
abbrev J_chr : mt := (yJ_chr, prog_22_method_56_code, 2, some .char, 3, 64)
theorem dJ_chr_0 : decode prog_22_method_56_code 0 = .ok (.aload_n 0, 1) := by decide +kernel
theorem dJ_chr_1 : decode prog_22_method_56_code 1 = .ok (.invokevirtual 492, 3) := by decide +kernel
theorem dJ_chr_4 : decode prog_22_method_56_code 4 = .ok (.ifCond .eq 12, 3) := by decide +kernel
theorem dJ_chr_7 : decode prog_22_method_56_code 7 = .ok (.aload_n 0, 1) := by decide +kernel
theorem dJ_chr_8 : decode prog_22_method_56_code 8 = .ok (.getfield 9, 3) := by decide +kernel
theorem dJ_chr_11 : decode prog_22_method_56_code 11 = .ok (.iload_n 1, 1) := by decide +kernel
theorem dJ_chr_12 : decode prog_22_method_56_code 12 = .ok (.invokestatic 495, 3) := by decide +kernel
theorem dJ_chr_15 : decode prog_22_method_56_code 15 = .ok (.ireturn, 1) := by decide +kernel
theorem lnJ_len_coder : lnV J_len 335 J_coder 0 := ⟨⟨gT_mem 459 (by decide +kernel) (by decide +kernel), gT_mem 48 (by decide +kernel) (by decide +kernel), gT_mem 462 (by decide +kernel) (by decide +kernel), ⟨by decide +kernel, by decide +kernel, by decide +kernel⟩, by decide, by decide, by decide⟩, gT_mem 460 (by decide +kernel) (by decide +kernel), gT_mem 461 (by decide +kernel) (by decide +kernel), by decide⟩
theorem lnJ_chr_isL1 : lnV J_chr 492 J_isL1 0 := ⟨⟨gT_mem 469 (by decide +kernel) (by decide +kernel), gT_mem 48 (by decide +kernel) (by decide +kernel), gT_mem 472 (by decide +kernel) (by decide +kernel), ⟨by decide +kernel, by decide +kernel, by decide +kernel⟩, by decide, by decide, by decide⟩, gT_mem 470 (by decide +kernel) (by decide +kernel), gT_mem 471 (by decide +kernel) (by decide +kernel), by decide⟩
theorem lnJ_chr_l1c : lnS J_chr 495 J_l1c 2 := ⟨⟨gT_mem 473 (by decide +kernel) (by decide +kernel), gT_mem 49 (by decide +kernel) (by decide +kernel), gT_mem 475 (by decide +kernel) (by decide +kernel), ⟨by decide +kernel, by decide +kernel, by decide +kernel⟩, by decide, by decide, by decide⟩, gT_mem 474 (by decide +kernel) (by decide +kernel), by decide⟩
theorem lnJ_l1c_sci : lnS J_l1c 9 J_sci 2 := ⟨⟨gT_mem 476 (by decide +kernel) (by decide +kernel), gT_mem 48 (by decide +kernel) (by decide +kernel), gT_mem 478 (by decide +kernel) (by decide +kernel), ⟨by decide +kernel, by decide +kernel, by decide +kernel⟩, by decide, by decide, by decide⟩, gT_mem 477 (by decide +kernel) (by decide +kernel), by decide⟩
theorem lnJ_sci_pci : lnS J_sci 1059 J_pci 3 := ⟨⟨gT_mem 481 (by decide +kernel) (by decide +kernel), gT_mem 50 (by decide +kernel) (by decide +kernel), gT_mem 483 (by decide +kernel) (by decide +kernel), ⟨by decide +kernel, by decide +kernel, by decide +kernel⟩, by decide, by decide, by decide⟩, gT_mem 482 (by decide +kernel) (by decide +kernel), by decide⟩
theorem lnL_len {M : mt} {ix : Nat} (h : (M.1.cls, ix, 7) ∈ libL) (r : lbR M 7) : lnV M ix J_len 0 := by
  have r2 : 3 ≤ M.2.2.2.2.1 ∧ 60 ≤ M.2.2.2.2.2 := by simpa [lbR] using r
  have hl : Cond.methodLink M.1.cls ix yJ_len ∈ gT := by
    unfold libL at h
    simp at h

    rw [h.1, h.2]; exact gT_mem 632 (by decide +kernel) (by decide +kernel)
  exact ⟨⟨hl, gT_mem 48 (by decide +kernel) (by decide +kernel), gT_mem 458 (by decide +kernel) (by decide +kernel), ⟨by decide +kernel, by decide +kernel, by decide +kernel⟩, by decide, by show 1 + 1 ≤ _; omega, by show 8 + (1 + 11) + 20 ≤ _; omega⟩, gT_mem 456 (by decide +kernel) (by decide +kernel), gT_mem 457 (by decide +kernel) (by decide +kernel), by decide⟩
theorem lnL_chr {M : mt} {ix : Nat} (h : (M.1.cls, ix, 8) ∈ libL) (r : lbR M 8) : lnV M ix J_chr 1 := by
  have r2 : 5 ≤ M.2.2.2.2.1 ∧ 110 ≤ M.2.2.2.2.2 := by simpa [lbR] using r
  have hl : Cond.methodLink M.1.cls ix yJ_chr ∈ gT := by
    unfold libL at h
    simp at h

    rw [h.1, h.2]; exact gT_mem 633 (by decide +kernel) (by decide +kernel)
  exact ⟨⟨hl, gT_mem 48 (by decide +kernel) (by decide +kernel), gT_mem 468 (by decide +kernel) (by decide +kernel), ⟨by decide +kernel, by decide +kernel, by decide +kernel⟩, by decide, by show 3 + 1 ≤ _; omega, by show 8 + (2 + 11) + 64 ≤ _; omega⟩, gT_mem 466 (by decide +kernel) (by decide +kernel), gT_mem 467 (by decide +kernel) (by decide +kernel), by decide⟩
theorem tx_ok : ∀ j, j < 24 → ∀ i, i < txtN.getD j 0 → ((((txtB.getD j []).getD i 0 &&& 255).toUInt32 % 65536).toInt32 = (txtB.getD j []).getD i 0 ∧ narrow .char (.int ((txtB.getD j []).getD i 0)) = .int ((txtB.getD j []).getD i 0)) := by decide +kernel
theorem tx_len : ∀ j, j < 24 → txtN.getD j 0 < 100 := by decide +kernel
section STR
variable {Γ : en} {l : Launch} {St : State → Prop} {NC : Nat}
/-- a method's start, its arguments as they are -/
def PcR (Γ : en) (St : State → Prop) (NC : Nat) (h : hp) (vs : List Value) : Array Value → State → Prop := va_Pc vs (fun U => va_P Γ.2.1 vwCl (wsOf Γ NC h) U.heap ∧ va_D Γ.2.2.2 (wsOf Γ NC h) ∧ va_K Γ.2.1 vwCl (tysOf Γ) U ∧ St U)
theorem PcR.blind (hE : envOK Γ St) {h : hp} {vs : List Value} : FrameBlind (PcR Γ St NC h vs) := by
  intro a U g mk q
  obtain ⟨q0, qP, qD, qK, qS⟩ := q
  exact ⟨q0, qP, qD, va_K.moved (u := U) (U := U.calling g mk a) (Vm.Alike.refl U.vm) qK, hE.2.1 U g mk a qS⟩
theorem metR_of (hE : envOK Γ St) {Y : mt} {vs : List Value} {h : hp} {Q : qt} (hpl : plainName Y.1.cls = true) (hn : (lg_sl vs).length ≤ Y.2.2.1) (k : ∀ (p : Program) (e : Env) (s : State) (m : MethodId) (args : Array Value) (below : List Frame) (meth : Method) (c : Code) (H : Heap) (locs : List Loc) (ls : Array Slot), Cx Γ St Y p s m args meth c → Hw Γ NC h H s locs → lv_has ls Y.2.2.1 (lv_args 0 vs) → W p l e (rmM none Y) s m args below meth c H locs 0 0 (MQ below (QcM Γ NC Y Q) args s 0 0 Γ.2.2.2) (F0 m 0 ls [])) : Met l Y.1 (wsM Y) (rmM none Y) (PcR Γ St NC h vs) (QcM Γ NC Y Q) 0 0 Γ.2.2.2 := by
  refine Met.ofW (cc := Y.2.1) (maxL := Y.2.2.1) (ret := Y.2.2.2.1) hpl rfl ?_
  intro p e s m args below meth c s₁ B hml hv
  obtain ⟨rfl, hP, hD, hK, hSt⟩ := hv
  have hts := atoms_spec (ws := wsM Y) B.pre
  have ht : ∀ x ∈ c.exceptionTable.toList, False := by
    obtain ⟨meth9, c9, h1, h2, -, -, -, -, h7, -⟩ := Cond.code_spec B.named (hts _ List.mem_cons_self)
    cases Option.some.inj (h1.symm.trans B.method)
    cases Option.some.inj (h2.symm.trans (Stand.of_body B).code)
    intro x hx
    rw [Array.isEmpty_iff.mp h7] at hx
    cases hx
  rw [lg_entry_eq]
  exact k p e s m _ below meth c s.heap [] _ ⟨B.exec, B.bytes, B.returns, hml, findClass_of_methodNamed B.named, fun w hw => hts w (List.mem_cons_of_mem _ hw), B.notSynchronized, ht, hK, hSt⟩ ⟨hP, hD, va_S.rf⟩ (lv_entry vs hn)
/-- calls of a static method, the arguments as they are -/
theorem rw_csi (hE : envOK Γ St) {b : Option String} {p : Program} {e : Env} {s : State} {m : MethodId} {args : Array Value} {below : List Frame} {meth : Method} {c : Code} {H : Heap} {locs : List Loc} {ls : Array Slot} {Z : State → Prop} {M Y : mt} {ix n pc : Nat} {h : hp} {Q1 : qt} {As rest : List Value} (hC : Cx Γ St M p s m args meth c) (hW : Hw Γ NC h H s locs) (hsz : ls.size = M.2.2.1) (hd : decode M.2.1 pc = .ok (.invokestatic ix, 3)) (hl : lnS M ix Y n) (hlen : As.length = n) (hcr : (rest.map fun v => v.category).sum ≤ 8) (hret : Y.2.2.2.1 = some .int ∨ Y.2.2.2.1 = some .boolean ∨ Y.2.2.2.1 = some .char ∨ Y.2.2.2.1 = some .byte) (hM : Met l Y.1 (wsM Y) (rmM none Y) (PcR Γ St NC h As) (QcM Γ NC Y Q1) 0 0 Γ.2.2.2)
    (kk : ∀ (r : Int32) (h1 : hp) (H1 : Heap) (locs1 : List Loc), Q1 (.int r) h1 → Hw Γ NC h1 H1 s locs1 → W p l e (rmM b M) s m args below meth c H1 locs1 0 0 Z (F0 m (pc + 3) ls (.int r :: rest))) : W p l e (rmM b M) s m args below meth c H locs 0 0 Z (F0 m pc ls (As.reverse ++ rest)) := by
  obtain ⟨hx, hb, hr, hml, hown, hts, hlocks, hexc, hK, hSt⟩ := id hC
  obtain ⟨hP, hD, hS⟩ := id hW
  have hcw := va_cwS (R := rmM b M) (own := M.1.cls) (index := ix) (y := Y.1) (bytes := Y.2.1) (maxL := Y.2.2.1) (ret := Y.2.2.2.1) (ws := wsM Y) (rm := rmM none Y) (mc := 0) (ms := 0) n hts (lnS_good hl) rfl rfl rfl hl.1.2.2.2.1 ⟨hl.1.2.2.2.2.2.1, hl.1.2.2.2.2.2.2⟩
  have hrun := va_runS (p := p) (e := e) (R := rmM b M) (below := below) (meth := meth) (cells := 0) (slots := 0) (locs := locs) (g := F0 m pc ls (As.reverse ++ rest)) (rest := rest) ⟨hx, hb, hml, hown, hts⟩ hM hcw ⟨PcR.blind hE, fun U hU hW => ⟨rfl, by rw [hU]; exact hP, hD, va_K.moved hW.alike hK, hE.1 s U H locs hSt hS hU hW⟩⟩ rfl hlen hsz rfl (lv_room hcr) hd (rm_le _ _)
  have hq9 : QcM Γ NC Y Q1 = va_Qi (fun (r : Int32) (u : hp) => Q1 (.int r) u) (BW Γ NC) Γ.2.2.2 := by
    unfold QcM
    rcases hret with h | h | h | h <;> rw [h]
  rw [hq9] at hrun
  refine va_calli hrun hS (fun q _ h => h) (fun q h => h) (fun r u t H1 locs1 ht hvm hq hB hz hk1 hS1 => ?_)
  exact kk r u H1 locs1 hq ⟨by rw [← ht]; exact hB.1, hB.2, hS1⟩
theorem rw_csv (hE : envOK Γ St) {b : Option String} {p : Program} {e : Env} {s : State} {m : MethodId} {args : Array Value} {below : List Frame} {meth : Method} {c : Code} {H : Heap} {locs : List Loc} {ls : Array Slot} {Z : State → Prop} {M Y : mt} {ix n pc : Nat} {h : hp} {Q1 : qt} {As rest : List Value} (hC : Cx Γ St M p s m args meth c) (hW : Hw Γ NC h H s locs) (hsz : ls.size = M.2.2.1) (hd : decode M.2.1 pc = .ok (.invokestatic ix, 3)) (hl : lnS M ix Y n) (hlen : As.length = n) (hcr : (rest.map fun v => v.category).sum ≤ 8) (hret : Y.2.2.2.1 = none) (hM : Met l Y.1 (wsM Y) (rmM none Y) (PcR Γ St NC h As) (QcM Γ NC Y Q1) 0 0 Γ.2.2.2)
    (kk : ∀ (h1 : hp) (H1 : Heap) (locs1 : List Loc), Q1 .null h1 → Hw Γ NC h1 H1 s locs1 → W p l e (rmM b M) s m args below meth c H1 locs1 0 0 Z (F0 m (pc + 3) ls rest)) : W p l e (rmM b M) s m args below meth c H locs 0 0 Z (F0 m pc ls (As.reverse ++ rest)) := by
  obtain ⟨hx, hb, hr, hml, hown, hts, hlocks, hexc, hK, hSt⟩ := id hC
  obtain ⟨hP, hD, hS⟩ := id hW
  have hcw := va_cwS (R := rmM b M) (own := M.1.cls) (index := ix) (y := Y.1) (bytes := Y.2.1) (maxL := Y.2.2.1) (ret := Y.2.2.2.1) (ws := wsM Y) (rm := rmM none Y) (mc := 0) (ms := 0) n hts (lnS_good hl) rfl rfl rfl hl.1.2.2.2.1 ⟨hl.1.2.2.2.2.2.1, hl.1.2.2.2.2.2.2⟩
  have hrun := va_runS (p := p) (e := e) (R := rmM b M) (below := below) (meth := meth) (cells := 0) (slots := 0) (locs := locs) (g := F0 m pc ls (As.reverse ++ rest)) (rest := rest) ⟨hx, hb, hml, hown, hts⟩ hM hcw ⟨PcR.blind hE, fun U hU hW => ⟨rfl, by rw [hU]; exact hP, hD, va_K.moved hW.alike hK, hE.1 s U H locs hSt hS hU hW⟩⟩ rfl hlen hsz rfl (lv_room hcr) hd (rm_le _ _)
  rw [Qc_void hret] at hrun
  refine va_callv hrun hS (fun q _ h => h) (fun q h => h) (fun u t H1 locs1 ht hvm hq hB hz hk1 hS1 => ?_)
  exact kk u H1 locs1 hq ⟨by rw [← ht]; exact hB.1, hB.2, hS1⟩
/-- a call of a constant's method -/
theorem rw_cvi (hE : envOK Γ St) {adV : Nat → Nat} (hX : envX Γ St adV) {b : Option String} {p : Program} {e : Env} {s : State} {m : MethodId} {args : Array Value} {below : List Frame} {meth : Method} {c : Code} {H : Heap} {locs : List Loc} {ls : Array Slot} {Z : State → Prop} {M Y : mt} {ix n pc j : Nat} {h : hp} {Q1 : qt} {As rest : List Value} (hC : Cx Γ St M p s m args meth c) (hW : Hw Γ NC h H s locs) (hsz : ls.size = M.2.2.1) (hj : j < 24) (hy : Y.1.cls = "java/lang/String") (hd : decode M.2.1 pc = .ok (.invokevirtual ix, 3)) (hl : lnV M ix Y n) (hlen : As.length = n) (hcr : (rest.map fun v => v.category).sum ≤ 8) (hret : Y.2.2.2.1 = some .int ∨ Y.2.2.2.1 = some .boolean ∨ Y.2.2.2.1 = some .char ∨ Y.2.2.2.1 = some .byte) (hM : Met l Y.1 (wsM Y) (rmM none Y) (PcR Γ St NC h (.ref (Γ.1 (2000 + j)) :: As)) (QcM Γ NC Y Q1) 0 0 Γ.2.2.2)
    (kk : ∀ (r : Int32) (h1 : hp) (H1 : Heap) (locs1 : List Loc), Q1 (.int r) h1 → Hw Γ NC h1 H1 s locs1 → W p l e (rmM b M) s m args below meth c H1 locs1 0 0 Z (F0 m (pc + 3) ls (.int r :: rest))) : W p l e (rmM b M) s m args below meth c H locs 0 0 Z (F0 m pc ls (As.reverse ++ .ref (Γ.1 (2000 + j)) :: rest)) := by
  obtain ⟨hx, hb, hr, hml, hown, hts, hlocks, hexc, hK, hSt⟩ := id hC
  obtain ⟨hP, hD, hS⟩ := id hW
  have hcw := cwV (R := rmM b M) (own := M.1.cls) (index := ix) (C := Y.1.cls) (y := Y.1) (bytes := Y.2.1) (maxL := Y.2.2.1) (ret := Y.2.2.2.1) (ws := wsM Y) (rm := rmM none Y) (mc := 0) (ms := 0) n hts (lnV_good hl) rfl rfl rfl ⟨rfl, hl.1.2.2.2.1⟩ ⟨hl.1.2.2.2.2.2.1, hl.1.2.2.2.2.2.2⟩
  have hrecv : ∃ cell : Cell, H[Γ.1 (2000 + j)]? = some cell ∧ cell.vm.isStatics = false ∧ s.vm.findClass Y.1.cls = some cell.cls := by
    obtain ⟨cell, h1, h2, h3, -⟩ := (hX.2.1 s hSt j hj).1.kept hS.2.1
    rw [hy]
    exact ⟨cell, h1, h2, h3⟩
  have hrun := va_runV (p := p) (e := e) (R := rmM b M) (below := below) (meth := meth) (cells := 0) (slots := 0) (locs := locs) (g := F0 m pc ls (As.reverse ++ .ref (Γ.1 (2000 + j)) :: rest)) (rest := rest) ⟨hx, hb, hml, hown, hts⟩ hM hcw ⟨PcR.blind hE, hrecv, fun U hU hW => ⟨rfl, by rw [hU]; exact hP, hD, va_K.moved hW.alike hK, hE.1 s U H locs hSt hS hU hW⟩⟩ rfl hlen hsz rfl (lv_room hcr) hd (rm_le _ _)
  have hq9 : QcM Γ NC Y Q1 = va_Qi (fun (r : Int32) (u : hp) => Q1 (.int r) u) (BW Γ NC) Γ.2.2.2 := by
    unfold QcM
    rcases hret with h | h | h | h <;> rw [h]
  rw [hq9] at hrun
  refine va_calli hrun hS (fun q _ h => h) (fun q h => h) (fun r u t H1 locs1 ht hvm hq hB hz hk1 hS1 => ?_)
  exact kk r u H1 locs1 hq ⟨by rw [← ht]; exact hB.1, hB.2, hS1⟩
theorem j_coder (hE : envOK Γ St) {adV : Nat → Nat} (hX : envX Γ St adV) {h : hp} {j : Nat} (hj : j < 24) : Met l J_coder.1 (wsM J_coder) (rmM none J_coder) (PcR Γ St NC h [.ref (Γ.1 (2000 + j))]) (QcM Γ NC J_coder (fun v h1 => v = .int 0 ∧ h1 = h)) 0 0 Γ.2.2.2 := by
  refine metR_of hE (by decide) (Nat.le_of_ble_eq_true rfl) (fun p e s m args below meth c H locs ls hC hW hL => ?_)
  obtain ⟨hx, hb, hr, hml, hown, hts, hlocks, hexc, hK, hSt⟩ := id hC
  obtain ⟨hP, hD, hS⟩ := id hW
  refine va_gets hx hb (hX.2.2.1 s hSt) hS hown (hts _ (gT_mem 463 (by decide +kernel) (by decide +kernel))) (fun _ h => h) dJ_coder_0 ?_
  refine lv_if_eq (tgt := 13) hx hb dJ_coder_3 (by decide) (fun q => absurd q (by decide)) (fun _ => ?_)
  refine lv_aload_n hx hb dJ_coder_6 rfl (lv_at hL 0 rfl) ?_
  refine vk_getf hx hb (hX.2.1 s hSt j hj).2.1 hS hown (hts _ (gT_mem 1288 (by decide +kernel) (by decide +kernel))) (fun _ h => h) dJ_coder_7 ?_
  refine lv_goto (tgt := 14) hx hb dJ_coder_10 (by decide) ?_
  exact W.zret (ty := .byte) hx hb (hr.trans rfl) rfl (fun t ht _ => ⟨⟨_, h, rfl, ⟨rfl, rfl⟩, by rw [BW, ht]; exact ⟨hP, hD⟩⟩, hS.F ht⟩) hS.2.2 dJ_coder_14 hlocks
theorem j_isL1 (hE : envOK Γ St) {adV : Nat → Nat} (hX : envX Γ St adV) {h : hp} {j : Nat} (hj : j < 24) : Met l J_isL1.1 (wsM J_isL1) (rmM none J_isL1) (PcR Γ St NC h [.ref (Γ.1 (2000 + j))]) (QcM Γ NC J_isL1 (fun v h1 => v = .int 1 ∧ h1 = h)) 0 0 Γ.2.2.2 := by
  refine metR_of hE (by decide) (Nat.le_of_ble_eq_true rfl) (fun p e s m args below meth c H locs ls hC hW hL => ?_)
  obtain ⟨hx, hb, hr, hml, hown, hts, hlocks, hexc, hK, hSt⟩ := id hC
  obtain ⟨hP, hD, hS⟩ := id hW
  refine va_gets hx hb (hX.2.2.1 s hSt) hS hown (hts _ (gT_mem 463 (by decide +kernel) (by decide +kernel))) (fun _ h => h) dJ_isL1_0 ?_
  refine lv_if_eq (tgt := 17) hx hb dJ_isL1_3 (by decide) (fun q => absurd q (by decide)) (fun _ => ?_)
  refine lv_aload_n hx hb dJ_isL1_6 rfl (lv_at hL 0 rfl) ?_
  refine vk_getf hx hb (hX.2.1 s hSt j hj).2.1 hS hown (hts _ (gT_mem 1288 (by decide +kernel) (by decide +kernel))) (fun _ h => h) dJ_isL1_7 ?_
  refine lv_if_ne (tgt := 17) hx hb dJ_isL1_10 (by decide) (fun q => absurd rfl q) (fun _ => ?_)
  refine lv_iconst (v := 1) hx hb dJ_isL1_13 (by decide) ?_
  refine lv_goto (tgt := 18) hx hb dJ_isL1_14 (by decide) ?_
  exact W.zret (ty := .boolean) hx hb (hr.trans rfl) rfl (fun t ht _ => ⟨⟨_, h, rfl, ⟨rfl, rfl⟩, by rw [BW, ht]; exact ⟨hP, hD⟩⟩, hS.F ht⟩) hS.2.2 dJ_isL1_18 hlocks
theorem j_len (hE : envOK Γ St) {adV : Nat → Nat} (hX : envX Γ St adV) {h : hp} {j : Nat} (hj : j < 24) : Met l J_len.1 (wsM J_len) (rmM none J_len) (PcR Γ St NC h [.ref (Γ.1 (2000 + j))]) (QcM Γ NC J_len (fun v h1 => v = .int (Int32.ofNat (txtN.getD j 0)) ∧ h1 = h)) 0 0 Γ.2.2.2 := by
  refine metR_of hE (by decide) (Nat.le_of_ble_eq_true rfl) (fun p e s m args below meth c H locs ls hC hW hL => ?_)
  obtain ⟨hx, hb, hr, hml, hown, hts, hlocks, hexc, hK, hSt⟩ := id hC
  obtain ⟨hP, hD, hS⟩ := id hW
  refine lv_aload_n hx hb dJ_len_0 rfl (lv_at hL 0 rfl) ?_
  refine vk_getf hx hb (hX.2.1 s hSt j hj).2.2.1 hS hown (hts _ (gT_mem 1287 (by decide +kernel) (by decide +kernel))) (fun _ h => h) dJ_len_1 ?_
  refine va_tlen hx hb (hX.2.1 s hSt j hj).2.2.2 hS rfl dJ_len_4 ?_
  refine lv_aload_n hx hb dJ_len_5 rfl (lv_at hL 0 rfl) ?_
  refine rw_cvi hE hX (As := []) (rest := [.int (Int32.ofNat (txtN.getD j 0))]) hC hW hL.1 hj rfl dJ_len_6 lnJ_len_coder rfl (Nat.le_of_ble_eq_true rfl) (Or.inr (Or.inr (Or.inr rfl))) (j_coder hE hX hj) (fun r h1 H1 locs1 hq hW1 => ?_)
  obtain ⟨hq1, rfl⟩ := hq
  cases hq1
  obtain ⟨hP, hD, hS⟩ := id hW1
  refine lv_ishr hx hb dJ_len_9 ?_
  have e9 : ∀ x : Int32, x >>> ((0 : Int32) &&& 31) = x := fun x => by
    rw [show ((0 : Int32) &&& 31) = 0 by decide]
    apply Int32.toBitVec_inj.mp
    show x.toBitVec.sshiftRight 0 = x.toBitVec
    exact BitVec.sshiftRight_zero
  rw [e9]
  exact W.iret hx hb (hr.trans rfl) (fun t ht _ => ⟨⟨_, _, rfl, ⟨rfl, rfl⟩, by rw [BW, ht]; exact ⟨hP, hD⟩⟩, hS.F ht⟩) hS.2.2 dJ_len_10 hlocks
theorem j_pci (hE : envOK Γ St) {adV : Nat → Nat} (hX : envX Γ St adV) {h : hp} {x y : Int32} {z : Value} (hz : z.category = 1) (h1 : ¬ x < 0) (h2 : x < y) : Met l J_pci.1 (wsM J_pci) (rmM none J_pci) (PcR Γ St NC h [.int x, .int y, z]) (QcM Γ NC J_pci (fun v h1 => v = .int x ∧ h1 = h)) 0 0 Γ.2.2.2 := by
  refine metR_of hE (by decide) (by rw [lg_len (by intro v hv; simp only [List.mem_cons, List.not_mem_nil, or_false] at hv; rcases hv with rfl | rfl | rfl; rfl; rfl; exact hz)]; exact Nat.le_refl 3) (fun p e s m args below meth c H locs ls hC hW hL => ?_)
  obtain ⟨hx, hb, hr, hml, hown, hts, hlocks, hexc, hK, hSt⟩ := id hC
  obtain ⟨hP, hD, hS⟩ := id hW
  have hL0 : ls[0]? = some (.val (.int x)) := lv_at hL 0 rfl
  have hL1 : ls[1]? = some (.val (.int y)) := lv_at hL 1 rfl
  refine lv_iload_n hx hb dJ_pci_0 rfl hL0 ?_
  refine lv_if_lt (tgt := 9) hx hb dJ_pci_1 (by decide) (fun q => absurd q h1) (fun _ => ?_)
  refine lv_iload_n hx hb dJ_pci_4 rfl hL0 ?_
  refine lv_iload_n hx hb dJ_pci_5 rfl hL1 ?_
  refine lv_icmp_lt (tgt := 16) hx hb dJ_pci_6 (by decide) (fun _ => ?_) (fun q => absurd h2 q)
  refine lv_iload_n hx hb dJ_pci_16 rfl hL0 ?_
  exact W.iret hx hb (hr.trans rfl) (fun t ht _ => ⟨⟨_, h, rfl, ⟨rfl, rfl⟩, by rw [BW, ht]; exact ⟨hP, hD⟩⟩, hS.F ht⟩) hS.2.2 dJ_pci_17 hlocks
theorem j_sci (hE : envOK Γ St) {adV : Nat → Nat} (hX : envX Γ St adV) {h : hp} {x y : Int32} (h1 : ¬ x < 0) (h2 : x < y) : Met l J_sci.1 (wsM J_sci) (rmM none J_sci) (PcR Γ St NC h [.int x, .int y]) (QcM Γ NC J_sci (fun v h1 => v = .null ∧ h1 = h)) 0 0 Γ.2.2.2 := by
  refine metR_of hE (by decide) (Nat.le_of_ble_eq_true rfl) (fun p e s m args below meth c H locs ls hC hW hL => ?_)
  obtain ⟨hx, hb, hr, hml, hown, hts, hlocks, hexc, hK, hSt⟩ := id hC
  obtain ⟨hP, hD, hS⟩ := id hW
  refine lv_iload_n hx hb dJ_sci_0 rfl (lv_at hL 0 rfl) ?_
  refine lv_iload_n hx hb dJ_sci_1 rfl (lv_at hL 1 rfl) ?_
  rcases hX.2.2.2.1 s hSt with hz | ⟨t9, hz⟩
  · refine va_gets hx hb hz hS hown (hts _ (gT_mem 479 (by decide +kernel) (by decide +kernel))) (fun _ h => h) dJ_sci_2 ?_
    refine rw_csi hE (As := [.int x, .int y, .null]) (rest := []) hC hW hL.1 dJ_sci_5 lnJ_sci_pci rfl (by decide) (Or.inl rfl) (j_pci hE hX rfl h1 h2) (fun r h1 H1 locs1 hq hW1 => ?_)
    obtain ⟨hq1, rfl⟩ := hq
    obtain ⟨hP, hD, hS⟩ := id hW1
    refine lv_pop hx hb dJ_sci_8 rfl ?_
    exact W.vret hx hb (hr.trans rfl) (fun t ht _ => ⟨⟨_, rfl, ⟨rfl, rfl⟩, by rw [BW, ht]; exact ⟨hP, hD⟩⟩, hS.F ht⟩) hS.2.2 dJ_sci_9 hlocks
  · refine va_gets hx hb hz hS hown (hts _ (gT_mem 479 (by decide +kernel) (by decide +kernel))) (fun _ h => h) dJ_sci_2 ?_
    refine rw_csi hE (As := [.int x, .int y, .ref t9]) (rest := []) hC hW hL.1 dJ_sci_5 lnJ_sci_pci rfl (by decide) (Or.inl rfl) (j_pci hE hX rfl h1 h2) (fun r h1 H1 locs1 hq hW1 => ?_)
    obtain ⟨hq1, rfl⟩ := hq
    obtain ⟨hP, hD, hS⟩ := id hW1
    refine lv_pop hx hb dJ_sci_8 rfl ?_
    exact W.vret hx hb (hr.trans rfl) (fun t ht _ => ⟨⟨_, rfl, ⟨rfl, rfl⟩, by rw [BW, ht]; exact ⟨hP, hD⟩⟩, hS.F ht⟩) hS.2.2 dJ_sci_9 hlocks
theorem j_l1c (hE : envOK Γ St) {adV : Nat → Nat} (hX : envX Γ St adV) {h : hp} {j i : Nat} {x : Int32} (hj : j < 24) (hi : i < txtN.getD j 0) (hxi : x = nI i) : Met l J_l1c.1 (wsM J_l1c) (rmM none J_l1c) (PcR Γ St NC h [.ref (adV j), .int x]) (QcM Γ NC J_l1c (fun v h1 => v = .int ((txtB.getD j []).getD i 0) ∧ h1 = h)) 0 0 Γ.2.2.2 := by
  refine metR_of hE (by decide) (Nat.le_of_ble_eq_true rfl) (fun p e s m args below meth c H locs ls hC hW hL => ?_)
  obtain ⟨hx, hb, hr, hml, hown, hts, hlocks, hexc, hK, hSt⟩ := id hC
  obtain ⟨hP, hD, hS⟩ := id hW
  have tl := tx_len j hj
  have tk := tx_ok j hj i hi
  have h0 : ¬ x < 0 := by rw [hxi]; exact nI_pos (by omega)
  have h2 : x < Int32.ofNat (txtN.getD j 0) := by rw [hxi]; exact nI_lt hi (by omega)
  refine lv_iload_n hx hb dJ_l1c_0 rfl (lv_at hL 1 rfl) ?_
  refine lv_aload_n hx hb dJ_l1c_1 rfl (lv_at hL 0 rfl) ?_
  refine va_tlen hx hb (hX.2.1 s hSt j hj).2.2.2 hS rfl dJ_l1c_2 ?_
  refine rw_csv hE (As := [.int x, .int (Int32.ofNat (txtN.getD j 0))]) (rest := []) hC hW hL.1 dJ_l1c_3 lnJ_l1c_sci rfl (by decide) rfl (j_sci hE hX h0 h2) (fun h1 H1 locs1 hq hW1 => ?_)
  obtain ⟨-, rfl⟩ := hq
  obtain ⟨hP, hD, hS⟩ := id hW1
  refine lv_aload_n hx hb dJ_l1c_6 rfl (lv_at hL 0 rfl) ?_
  refine lv_iload_n hx hb dJ_l1c_7 rfl (lv_at hL 1 rfl) ?_
  refine va_tb hx hb (hX.2.1 s hSt j hj).2.2.2 hS (by rw [hxi]; exact vp_in_nI hi (by omega)) (v := .int ((txtB.getD j []).getD i 0)) (by rw [hxi, nI_clamp (by omega)]) dJ_l1c_8 ?_
  refine lv_sipush (v := 255) hx hb dJ_l1c_9 (by decide) ?_
  refine lv_iand hx hb dJ_l1c_12 ?_
  refine lv_i2c (v := (txtB.getD j []).getD i 0) hx hb dJ_l1c_13 tk.1 ?_
  exact W.zret (ty := .char) hx hb (hr.trans rfl) tk.2 (fun t ht _ => ⟨⟨_, _, rfl, ⟨rfl, rfl⟩, by rw [BW, ht]; exact ⟨hP, hD⟩⟩, hS.F ht⟩) hS.2.2 dJ_l1c_14 hlocks
theorem j_chr (hE : envOK Γ St) {adV : Nat → Nat} (hX : envX Γ St adV) {h : hp} {j i : Nat} {x : Int32} (hj : j < 24) (hi : i < txtN.getD j 0) (hxi : x = nI i) : Met l J_chr.1 (wsM J_chr) (rmM none J_chr) (PcR Γ St NC h [.ref (Γ.1 (2000 + j)), .int x]) (QcM Γ NC J_chr (fun v h1 => v = .int ((txtB.getD j []).getD i 0) ∧ h1 = h)) 0 0 Γ.2.2.2 := by
  refine metR_of hE (by decide) (Nat.le_of_ble_eq_true rfl) (fun p e s m args below meth c H locs ls hC hW hL => ?_)
  obtain ⟨hx, hb, hr, hml, hown, hts, hlocks, hexc, hK, hSt⟩ := id hC
  obtain ⟨hP, hD, hS⟩ := id hW
  have tk := tx_ok j hj i hi
  refine lv_aload_n hx hb dJ_chr_0 rfl (lv_at hL 0 rfl) ?_
  refine rw_cvi hE hX (As := []) (rest := []) hC hW hL.1 hj rfl dJ_chr_1 lnJ_chr_isL1 rfl (by decide) (Or.inr (Or.inl rfl)) (j_isL1 hE hX hj) (fun r h1 H1 locs1 hq hW1 => ?_)
  obtain ⟨hq1, rfl⟩ := hq
  cases hq1
  obtain ⟨hP, hD, hS⟩ := id hW1
  refine lv_if_eq (tgt := 16) hx hb dJ_chr_4 (by decide) (fun q => absurd q (by decide)) (fun _ => ?_)
  refine lv_aload_n hx hb dJ_chr_7 rfl (lv_at hL 0 rfl) ?_
  refine vk_getf hx hb (hX.2.1 s hSt j hj).2.2.1 hS hown (hts _ (gT_mem 1287 (by decide +kernel) (by decide +kernel))) (fun _ h => h) dJ_chr_8 ?_
  refine lv_iload_n hx hb dJ_chr_11 rfl (lv_at hL 1 rfl) ?_
  refine rw_csi hE (As := [.ref (adV j), .int x]) (rest := []) hC hW1 hL.1 dJ_chr_12 lnJ_chr_l1c rfl (by decide) (Or.inr (Or.inr (Or.inl rfl))) (j_l1c hE hX hj hi hxi) (fun r h1 H1 locs1 hq hW2 => ?_)
  obtain ⟨hq1, rfl⟩ := hq
  cases hq1
  obtain ⟨hP, hD, hS⟩ := id hW2
  exact W.zret (ty := .char) hx hb (hr.trans rfl) tk.2 (fun t ht _ => ⟨⟨_, _, rfl, ⟨rfl, rfl⟩, by rw [BW, ht]; exact ⟨hP, hD⟩⟩, hS.F ht⟩) hS.2.2 dJ_chr_15 hlocks
theorem sn_l_length (hE : envOK Γ St) {adV : Nat → Nat} (hX : envX Γ St adV) : k_l_length (Snd Γ l St NC) := by
  intro b M pc L S h Q ix j v hd hi hr hcS hj hv kn p e s m args below meth c H locs ls hC hW hL
  refine rw_cvi hE hX (As := []) (rest := S.map (trV Γ.1)) hC hW hL.1 hj rfl hd (lnL_len hi hr) rfl (cat_map hcS) (Or.inl rfl) (j_len hE hX hj) (fun r h1 H1 locs1 hq hW1 => ?_)
  obtain ⟨hq1, rfl⟩ := hq
  cases hq1
  rw [hv]
  exact kn p e s m args below meth c H1 locs1 ls hC hW1 hL
theorem sn_l_charAt (hE : envOK Γ St) {adV : Nat → Nat} (hX : envX Γ St adV) : k_l_charAt (Snd Γ l St NC) := by
  intro b M pc L S h Q ix j i x v hd hi hr hcS hj hlt hxi hv kn p e s m args below meth c H locs ls hC hW hL
  refine rw_cvi hE hX (As := [.int x]) (rest := S.map (trV Γ.1)) hC hW hL.1 hj rfl hd (lnL_chr hi hr) rfl (cat_map hcS) (Or.inr (Or.inr (Or.inl rfl))) (j_chr hE hX hj hlt hxi) (fun r h1 H1 locs1 hq hW1 => ?_)
  obtain ⟨hq1, rfl⟩ := hq
  cases hq1
  rw [hv]
  exact kn p e s m args below meth c H1 locs1 ls hC hW1 hL
end STR
