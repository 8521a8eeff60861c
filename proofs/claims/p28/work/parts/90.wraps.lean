/-! the law's wrappers -/
theorem cast_40 : Cond.castable "java/lang/IllegalArgumentException" "java/lang/IllegalArgumentException" ∈ fT := fT_mem 535 (by decide +kernel) (by decide +kernel)
theorem cast_50 : Cond.castable "java/lang/IndexOutOfBoundsException" "java/lang/IndexOutOfBoundsException" ∈ fT := fT_mem 780 (by decide +kernel) (by decide +kernel)
theorem cast_99 : Cond.castable "java/lang/IllegalStateException" "java/lang/IllegalStateException" ∈ fT := fT_mem 1000 (by decide +kernel) (by decide +kernel)
theorem clk_40 : Cond.classLink "KitePainterLaw" 40 "java/lang/IllegalArgumentException" ∈ gT := gT_mem 525 (by decide +kernel) (by decide +kernel)
theorem clk_50 : Cond.classLink "KitePainterLaw" 50 "java/lang/IndexOutOfBoundsException" ∈ gT := gT_mem 768 (by decide +kernel) (by decide +kernel)
theorem clk_99 : Cond.classLink "KitePainterLaw" 99 "java/lang/IllegalStateException" ∈ gT := gT_mem 993 (by decide +kernel) (by decide +kernel)
theorem cst_42 : Cond.constant "KitePainterLaw" 42 (I (-2000000098)) ∈ gT := gT_mem 739 (by decide +kernel) (by decide +kernel)
theorem cst_52 : Cond.constant "KitePainterLaw" 52 (I (-2000000097)) ∈ gT := gT_mem 813 (by decide +kernel) (by decide +kernel)
theorem cst_101 : Cond.constant "KitePainterLaw" 101 (I (-2000000099)) ∈ gT := gT_mem 1014 (by decide +kernel) (by decide +kernel)
theorem ini_law : Cond.initialized "KitePainterLaw" ∈ gT := gT_mem 27 (by decide +kernel) (by decide +kernel)
section WH
variable {Γ : en} {l : Launch} {St : State → Prop} {NC : Nat} {p : Program} {e : Env} {R : Room} {s : State} {m : MethodId} {args : Array Value} {below : List Frame} {meth : Method} {c : Code} {Q : State → Prop} {M : mt} {k sl pc : Nat} {lv : List (Nat × Value)} {S : List Value} {h : hp}
/-- the handler: the thing caught is put away, a constant given -/
theorem w_hdc {Qw : Int32 → hp → Prop} {mc ms : Nat} {j ix : Nat} {v : Int32} {q : Nat} {H : Heap} {locs : List Loc} {ls : Array Slot} (hC : CF Γ St M R p s m args c) (hd1 : decode M.2.1 pc = .ok (.astore j, 2)) (hcs : Cond.constant M.1.cls ix v ∈ gT) (hd2 : decode M.2.1 (pc + 2) = .ok (.ldc ix, 2)) (hd3 : decode M.2.1 (pc + 4) = .ok (.ireturn, 1)) (hj : j < M.2.2.1) (hr : meth.sig.returnType = some .int) (hlocks : meth.locks = false) (hk : k ≤ mc) (hs : sl ≤ ms) (hW : Hw Γ NC h H s locs) (hL : lv_has ls M.2.2.1 (lv.map (trp Γ.1))) (hq : Qw v h) : W p l e R s m args below meth c H locs k sl (MQ below (va_Qi Qw (BW Γ NC) Γ.2.2.2) args s mc ms Γ.2.2.2) (F0 m pc ls [.ref q]) := by
  refine lv_astore hC.1 hC.2.1 hd1 hL hj rfl (fun ls9 hl9 => ?_)
  refine lv_ldc hC.1 hC.2.1 hC.2.2.2.1 (hC.2.2.2.2.1 _ hcs) hd2 ?_
  refine W.widen hk hs ?_
  exact W.iret hC.1 hC.2.1 hr (fun t ht _ => ⟨⟨_, h, rfl, hq, by rw [BW, ht]; exact ⟨hW.1, hW.2.1⟩⟩, hW.2.2.F ht⟩) hW.2.2.2.2 hd3 hlocks
theorem w_hdc_n {Qw : Int32 → hp → Prop} {mc ms : Nat} {j : Fin 4} {ix : Nat} {v : Int32} {q : Nat} {H : Heap} {locs : List Loc} {ls : Array Slot} (hC : CF Γ St M R p s m args c) (hd1 : decode M.2.1 pc = .ok (.astore_n j, 1)) (hcs : Cond.constant M.1.cls ix v ∈ gT) (hd2 : decode M.2.1 (pc + 1) = .ok (.ldc ix, 2)) (hd3 : decode M.2.1 (pc + 3) = .ok (.ireturn, 1)) (hj : (j : Nat) < M.2.2.1) (hr : meth.sig.returnType = some .int) (hlocks : meth.locks = false) (hk : k ≤ mc) (hs : sl ≤ ms) (hW : Hw Γ NC h H s locs) (hL : lv_has ls M.2.2.1 (lv.map (trp Γ.1))) (hq : Qw v h) : W p l e R s m args below meth c H locs k sl (MQ below (va_Qi Qw (BW Γ NC) Γ.2.2.2) args s mc ms Γ.2.2.2) (F0 m pc ls [.ref q]) := by
  refine lv_astore_n hC.1 hC.2.1 hd1 rfl hL hj rfl (fun ls9 hl9 => ?_)
  refine lv_ldc hC.1 hC.2.1 hC.2.2.2.1 (hC.2.2.2.2.1 _ hcs) hd2 ?_
  refine W.widen hk hs ?_
  exact W.iret hC.1 hC.2.1 hr (fun t ht _ => ⟨⟨_, h, rfl, hq, by rw [BW, ht]; exact ⟨hW.1, hW.2.1⟩⟩, hW.2.2.F ht⟩) hW.2.2.2.2 hd3 hlocks
end WH
abbrev H_load : List (Nat × Nat × Nat × Nat) := [(0, 5, 6, 40)]
abbrev M_L_load : mt := (yL_load, cL_load, 3, some .int, 11, 248)
theorem lnL_load : lnV M_L_load 37 M_X5_load 1 := ⟨⟨gT_mem 526 (by decide +kernel) (by decide +kernel), mi_X5_load.1, mi_X5_load.2.1, ⟨by decide +kernel, by decide +kernel, by decide +kernel⟩, mi_X5_load.2.2, by decide, by decide⟩, mv_X5_load.1, mv_X5_load.2, by decide⟩
theorem mw_load : Cond.codeWith M_L_load.1 M_L_load.2.1 M_L_load.2.2.1 M_L_load.2.2.2.1 H_load ∈ gT ∧ Cond.static M_L_load.1 ∈ gT := ⟨gT_mem 524 (by decide +kernel) (by decide +kernel), gT_mem 523 (by decide +kernel) (by decide +kernel)⟩
abbrev H_state : List (Nat × Nat × Nat × Nat) := [(0, 5, 6, 40)]
abbrev M_L_state : mt := (yL_state, cL_state, 3, some .int, 9, 156)
theorem lnL_state : lnV M_L_state 43 M_X5_state 1 := ⟨⟨gT_mem 1358 (by decide +kernel) (by decide +kernel), mi_X5_state.1, mi_X5_state.2.1, ⟨by decide +kernel, by decide +kernel, by decide +kernel⟩, mi_X5_state.2.2, by decide, by decide⟩, mv_X5_state.1, mv_X5_state.2, by decide⟩
theorem mw_state : Cond.codeWith M_L_state.1 M_L_state.2.1 M_L_state.2.2.1 M_L_state.2.2.2.1 H_state ∈ gT ∧ Cond.static M_L_state.1 ∈ gT := ⟨gT_mem 1357 (by decide +kernel) (by decide +kernel), gT_mem 1356 (by decide +kernel) (by decide +kernel)⟩
abbrev H_cell : List (Nat × Nat × Nat × Nat) := [(0, 7, 8, 50), (0, 7, 13, 40)]
abbrev M_L_cell : mt := (yL_cell, cL_cell, 5, some .int, 10, 166)
theorem lnL_cell : lnV M_L_cell 46 M_X5_cell 3 := ⟨⟨gT_mem 1362 (by decide +kernel) (by decide +kernel), mi_X5_cell.1, mi_X5_cell.2.1, ⟨by decide +kernel, by decide +kernel, by decide +kernel⟩, mi_X5_cell.2.2, by decide, by decide⟩, mv_X5_cell.1, mv_X5_cell.2, by decide⟩
theorem mw_cell : Cond.codeWith M_L_cell.1 M_L_cell.2.1 M_L_cell.2.2.1 M_L_cell.2.2.2.1 H_cell ∈ gT ∧ Cond.static M_L_cell.1 ∈ gT := ⟨gT_mem 1361 (by decide +kernel) (by decide +kernel), gT_mem 1360 (by decide +kernel) (by decide +kernel)⟩
abbrev H_mix : List (Nat × Nat × Nat × Nat) := [(0, 6, 7, 40)]
abbrev M_L_mix : mt := (yL_mix, cL_mix, 4, some .int, 10, 164)
theorem lnL_mix : lnV M_L_mix 53 M_X5_mix 2 := ⟨⟨gT_mem 743 (by decide +kernel) (by decide +kernel), mi_X5_mix.1, mi_X5_mix.2.1, ⟨by decide +kernel, by decide +kernel, by decide +kernel⟩, mi_X5_mix.2.2, by decide, by decide⟩, mv_X5_mix.1, mv_X5_mix.2, by decide⟩
theorem mw_mix : Cond.codeWith M_L_mix.1 M_L_mix.2.1 M_L_mix.2.2.1 M_L_mix.2.2.2.1 H_mix ∈ gT ∧ Cond.static M_L_mix.1 ∈ gT := ⟨gT_mem 742 (by decide +kernel) (by decide +kernel), gT_mem 741 (by decide +kernel) (by decide +kernel)⟩
abbrev H_count : List (Nat × Nat × Nat × Nat) := [(0, 5, 6, 40)]
abbrev M_L_count : mt := (yL_count, cL_count, 3, some .int, 10, 163)
theorem lnL_count : lnV M_L_count 57 M_X5_count 1 := ⟨⟨gT_mem 756 (by decide +kernel) (by decide +kernel), mi_X5_count.1, mi_X5_count.2.1, ⟨by decide +kernel, by decide +kernel, by decide +kernel⟩, mi_X5_count.2.2, by decide, by decide⟩, mv_X5_count.1, mv_X5_count.2, by decide⟩
theorem mw_count : Cond.codeWith M_L_count.1 M_L_count.2.1 M_L_count.2.2.1 M_L_count.2.2.2.1 H_count ∈ gT ∧ Cond.static M_L_count.1 ∈ gT := ⟨gT_mem 755 (by decide +kernel) (by decide +kernel), gT_mem 754 (by decide +kernel) (by decide +kernel)⟩
abbrev H_region : List (Nat × Nat × Nat × Nat) := [(0, 6, 7, 50)]
abbrev M_L_region : mt := (yL_region, cL_region, 4, some .int, 10, 164)
theorem lnL_region : lnV M_L_region 60 M_X5_region 2 := ⟨⟨gT_mem 769 (by decide +kernel) (by decide +kernel), mi_X5_region.1, mi_X5_region.2.1, ⟨by decide +kernel, by decide +kernel, by decide +kernel⟩, mi_X5_region.2.2, by decide, by decide⟩, mv_X5_region.1, mv_X5_region.2, by decide⟩
theorem mw_region : Cond.codeWith M_L_region.1 M_L_region.2.1 M_L_region.2.2.1 M_L_region.2.2.2.1 H_region ∈ gT ∧ Cond.static M_L_region.1 ∈ gT := ⟨gT_mem 767 (by decide +kernel) (by decide +kernel), gT_mem 766 (by decide +kernel) (by decide +kernel)⟩
abbrev H_regions : List (Nat × Nat × Nat × Nat) := [(0, 5, 6, 40)]
abbrev M_L_regions : mt := (yL_regions, cL_regions, 3, some .int, 10, 163)
theorem lnL_regions : lnV M_L_regions 63 M_X5_regions 1 := ⟨⟨gT_mem 817 (by decide +kernel) (by decide +kernel), mi_X5_regions.1, mi_X5_regions.2.1, ⟨by decide +kernel, by decide +kernel, by decide +kernel⟩, mi_X5_regions.2.2, by decide, by decide⟩, mv_X5_regions.1, mv_X5_regions.2, by decide⟩
theorem mw_regions : Cond.codeWith M_L_regions.1 M_L_regions.2.1 M_L_regions.2.2.1 M_L_regions.2.2.2.1 H_regions ∈ gT ∧ Cond.static M_L_regions.1 ∈ gT := ⟨gT_mem 816 (by decide +kernel) (by decide +kernel), gT_mem 815 (by decide +kernel) (by decide +kernel)⟩
abbrev H_bleeds : List (Nat × Nat × Nat × Nat) := [(0, 6, 7, 50)]
abbrev M_L_bleeds : mt := (yL_bleeds, cL_bleeds, 4, some .int, 10, 164)
theorem lnL_bleeds : lnV M_L_bleeds 66 M_X5_bleeds 2 := ⟨⟨gT_mem 830 (by decide +kernel) (by decide +kernel), mi_X5_bleeds.1, mi_X5_bleeds.2.1, ⟨by decide +kernel, by decide +kernel, by decide +kernel⟩, mi_X5_bleeds.2.2, by decide, by decide⟩, mv_X5_bleeds.1, mv_X5_bleeds.2, by decide⟩
theorem mw_bleeds : Cond.codeWith M_L_bleeds.1 M_L_bleeds.2.1 M_L_bleeds.2.2.1 M_L_bleeds.2.2.2.1 H_bleeds ∈ gT ∧ Cond.static M_L_bleeds.1 ∈ gT := ⟨gT_mem 829 (by decide +kernel) (by decide +kernel), gT_mem 828 (by decide +kernel) (by decide +kernel)⟩
abbrev H_foretold : List (Nat × Nat × Nat × Nat) := [(0, 6, 7, 40)]
abbrev M_L_foretold : mt := (yL_foretold, cL_foretold, 4, some .int, 10, 170)
theorem lnL_foretold : lnV M_L_foretold 69 M_X5_foretold 2 := ⟨⟨gT_mem 848 (by decide +kernel) (by decide +kernel), mi_X5_foretold.1, mi_X5_foretold.2.1, ⟨by decide +kernel, by decide +kernel, by decide +kernel⟩, mi_X5_foretold.2.2, by decide, by decide⟩, mv_X5_foretold.1, mv_X5_foretold.2, by decide⟩
theorem mw_foretold : Cond.codeWith M_L_foretold.1 M_L_foretold.2.1 M_L_foretold.2.2.1 M_L_foretold.2.2.2.1 H_foretold ∈ gT ∧ Cond.static M_L_foretold.1 ∈ gT := ⟨gT_mem 847 (by decide +kernel) (by decide +kernel), gT_mem 846 (by decide +kernel) (by decide +kernel)⟩
abbrev H_evens : List (Nat × Nat × Nat × Nat) := [(0, 5, 6, 40)]
abbrev M_L_evens : mt := (yL_evens, cL_evens, 3, some .int, 10, 171)
theorem lnL_evens : lnV M_L_evens 72 M_X5_evens 1 := ⟨⟨gT_mem 917 (by decide +kernel) (by decide +kernel), mi_X5_evens.1, mi_X5_evens.2.1, ⟨by decide +kernel, by decide +kernel, by decide +kernel⟩, mi_X5_evens.2.2, by decide, by decide⟩, mv_X5_evens.1, mv_X5_evens.2, by decide⟩
theorem mw_evens : Cond.codeWith M_L_evens.1 M_L_evens.2.1 M_L_evens.2.2.1 M_L_evens.2.2.2.1 H_evens ∈ gT ∧ Cond.static M_L_evens.1 ∈ gT := ⟨gT_mem 916 (by decide +kernel) (by decide +kernel), gT_mem 915 (by decide +kernel) (by decide +kernel)⟩
abbrev H_pattern : List (Nat × Nat × Nat × Nat) := [(0, 6, 7, 50), (0, 6, 11, 40)]
abbrev M_L_pattern : mt := (yL_pattern, cL_pattern, 4, some .int, 10, 163)
theorem lnL_pattern : lnV M_L_pattern 75 M_X5_pattern 2 := ⟨⟨gT_mem 1366 (by decide +kernel) (by decide +kernel), mi_X5_pattern.1, mi_X5_pattern.2.1, ⟨by decide +kernel, by decide +kernel, by decide +kernel⟩, mi_X5_pattern.2.2, by decide, by decide⟩, mv_X5_pattern.1, mv_X5_pattern.2, by decide⟩
theorem mw_pattern : Cond.codeWith M_L_pattern.1 M_L_pattern.2.1 M_L_pattern.2.2.1 M_L_pattern.2.2.2.1 H_pattern ∈ gT ∧ Cond.static M_L_pattern.1 ∈ gT := ⟨gT_mem 1365 (by decide +kernel) (by decide +kernel), gT_mem 1364 (by decide +kernel) (by decide +kernel)⟩
abbrev H_pass : List (Nat × Nat × Nat × Nat) := [(0, 5, 6, 40)]
abbrev M_L_pass : mt := (yL_pass, cL_pass, 3, some .int, 10, 168)
theorem lnL_pass : lnV M_L_pass 78 M_X5_pass 1 := ⟨⟨gT_mem 929 (by decide +kernel) (by decide +kernel), mi_X5_pass.1, mi_X5_pass.2.1, ⟨by decide +kernel, by decide +kernel, by decide +kernel⟩, mi_X5_pass.2.2, by decide, by decide⟩, mv_X5_pass.1, mv_X5_pass.2, by decide⟩
theorem mw_pass : Cond.codeWith M_L_pass.1 M_L_pass.2.1 M_L_pass.2.2.1 M_L_pass.2.2.2.1 H_pass ∈ gT ∧ Cond.static M_L_pass.1 ∈ gT := ⟨gT_mem 928 (by decide +kernel) (by decide +kernel), gT_mem 927 (by decide +kernel) (by decide +kernel)⟩
abbrev H_paint : List (Nat × Nat × Nat × Nat) := [(0, 11, 12, 50), (0, 11, 17, 40)]
abbrev M_L_paint : mt := (yL_paint, cL_paint, 7, some .int, 10, 167)
theorem lnL_paint : lnV M_L_paint 81 M_X5_paint 5 := ⟨⟨gT_mem 936 (by decide +kernel) (by decide +kernel), mi_X5_paint.1, mi_X5_paint.2.1, ⟨by decide +kernel, by decide +kernel, by decide +kernel⟩, mi_X5_paint.2.2, by decide, by decide⟩, mv_X5_paint.1, mv_X5_paint.2, by decide⟩
theorem mw_paint : Cond.codeWith M_L_paint.1 M_L_paint.2.1 M_L_paint.2.2.1 M_L_paint.2.2.2.1 H_paint ∈ gT ∧ Cond.static M_L_paint.1 ∈ gT := ⟨gT_mem 935 (by decide +kernel) (by decide +kernel), gT_mem 934 (by decide +kernel) (by decide +kernel)⟩
abbrev H_stroke : List (Nat × Nat × Nat × Nat) := [(0, 11, 12, 50), (0, 11, 17, 40)]
abbrev M_L_stroke : mt := (yL_stroke, cL_stroke, 7, some .int, 10, 170)
theorem lnL_stroke : lnV M_L_stroke 85 M_X5_stroke 5 := ⟨⟨gT_mem 951 (by decide +kernel) (by decide +kernel), mi_X5_stroke.1, mi_X5_stroke.2.1, ⟨by decide +kernel, by decide +kernel, by decide +kernel⟩, mi_X5_stroke.2.2, by decide, by decide⟩, mv_X5_stroke.1, mv_X5_stroke.2, by decide⟩
theorem mw_stroke : Cond.codeWith M_L_stroke.1 M_L_stroke.2.1 M_L_stroke.2.2.1 M_L_stroke.2.2.2.1 H_stroke ∈ gT ∧ Cond.static M_L_stroke.1 ∈ gT := ⟨gT_mem 950 (by decide +kernel) (by decide +kernel), gT_mem 949 (by decide +kernel) (by decide +kernel)⟩
abbrev H_stamp : List (Nat × Nat × Nat × Nat) := [(0, 9, 10, 50)]
abbrev M_L_stamp : mt := (yL_stamp, cL_stamp, 6, some .int, 10, 169)
theorem lnL_stamp : lnV M_L_stamp 88 M_X5_stamp 4 := ⟨⟨gT_mem 962 (by decide +kernel) (by decide +kernel), mi_X5_stamp.1, mi_X5_stamp.2.1, ⟨by decide +kernel, by decide +kernel, by decide +kernel⟩, mi_X5_stamp.2.2, by decide, by decide⟩, mv_X5_stamp.1, mv_X5_stamp.2, by decide⟩
theorem mw_stamp : Cond.codeWith M_L_stamp.1 M_L_stamp.2.1 M_L_stamp.2.2.1 M_L_stamp.2.2.2.1 H_stamp ∈ gT ∧ Cond.static M_L_stamp.1 ∈ gT := ⟨gT_mem 961 (by decide +kernel) (by decide +kernel), gT_mem 960 (by decide +kernel) (by decide +kernel)⟩
abbrev H_spar : List (Nat × Nat × Nat × Nat) := [(0, 9, 10, 50), (0, 9, 15, 40)]
abbrev M_L_spar : mt := (yL_spar, cL_spar, 6, some .int, 10, 170)
theorem lnL_spar : lnV M_L_spar 92 M_X5_spar 4 := ⟨⟨gT_mem 982 (by decide +kernel) (by decide +kernel), mi_X5_spar.1, mi_X5_spar.2.1, ⟨by decide +kernel, by decide +kernel, by decide +kernel⟩, mi_X5_spar.2.2, by decide, by decide⟩, mv_X5_spar.1, mv_X5_spar.2, by decide⟩
theorem mw_spar : Cond.codeWith M_L_spar.1 M_L_spar.2.1 M_L_spar.2.2.1 M_L_spar.2.2.2.1 H_spar ∈ gT ∧ Cond.static M_L_spar.1 ∈ gT := ⟨gT_mem 981 (by decide +kernel) (by decide +kernel), gT_mem 980 (by decide +kernel) (by decide +kernel)⟩
abbrev H_strip : List (Nat × Nat × Nat × Nat) := [(0, 6, 7, 50), (0, 6, 11, 99)]
abbrev M_L_strip : mt := (yL_strip, cL_strip, 4, some .int, 10, 165)
theorem lnL_strip : lnV M_L_strip 96 M_X5_strip 2 := ⟨⟨gT_mem 994 (by decide +kernel) (by decide +kernel), mi_X5_strip.1, mi_X5_strip.2.1, ⟨by decide +kernel, by decide +kernel, by decide +kernel⟩, mi_X5_strip.2.2, by decide, by decide⟩, mv_X5_strip.1, mv_X5_strip.2, by decide⟩
theorem mw_strip : Cond.codeWith M_L_strip.1 M_L_strip.2.1 M_L_strip.2.2.1 M_L_strip.2.2.2.1 H_strip ∈ gT ∧ Cond.static M_L_strip.1 ∈ gT := ⟨gT_mem 992 (by decide +kernel) (by decide +kernel), gT_mem 991 (by decide +kernel) (by decide +kernel)⟩
abbrev H_wash : List (Nat × Nat × Nat × Nat) := [(0, 6, 7, 50), (0, 6, 11, 99)]
abbrev M_L_wash : mt := (yL_wash, cL_wash, 4, some .int, 10, 165)
theorem lnL_wash : lnV M_L_wash 102 M_X5_wash 2 := ⟨⟨gT_mem 1018 (by decide +kernel) (by decide +kernel), mi_X5_wash.1, mi_X5_wash.2.1, ⟨by decide +kernel, by decide +kernel, by decide +kernel⟩, mi_X5_wash.2.2, by decide, by decide⟩, mv_X5_wash.1, mv_X5_wash.2, by decide⟩
theorem mw_wash : Cond.codeWith M_L_wash.1 M_L_wash.2.1 M_L_wash.2.2.1 M_L_wash.2.2.2.1 H_wash ∈ gT ∧ Cond.static M_L_wash.1 ∈ gT := ⟨gT_mem 1017 (by decide +kernel) (by decide +kernel), gT_mem 1016 (by decide +kernel) (by decide +kernel)⟩
section WS
variable {Γ : en} {l : Launch} {St : State → Prop} {NC : Nat} {h : hp}
theorem wr_load (hE : envOK Γ St) {adV : Nat → Nat} (hX : envX Γ St adV) (hl9 : l.stackTraces = false) (hN : 1 ≤ NC) {fs : List Value} (ha : h 0 = .inr (5, fs)) {w1 : Int32} {Q1 : qt} (k1 : Cl NC M_X5_load [.ref 0, .int w1] h Q1) : MetW Γ l St NC M_L_load H_load [.ref 0, .int w1] h (fun r u => Q1 (.int r) u) := by
  refine metW_of (by decide) rfl rfl (fun v hv => by simp only [List.mem_cons, List.not_mem_nil, or_false] at hv; rcases hv with rfl | rfl <;> (intro z; cases z)) (Nat.le_of_ble_eq_true rfl) (fun p e s m args below meth c hC hr hlk ht => ?_)
  refine fs_aload_n hC dL_load_0 rfl ?_
  refine fs_iload_n hC dL_load_1 rfl ?_
  refine fs_cvi hE hX hl9 hC ⟨Nat.zero_le _, Nat.zero_le _⟩ (As := [.int w1]) dL_load_2 lnL_load rfl rfl (Nat.le_of_ble_eq_true rfl) (by omega) ha rfl (Or.inl rfl) k1 (fun r h1 hq => ?_)
  exact fs_iretW hC dL_load_5 hr hlk (Nat.zero_le _) (Nat.zero_le _) hq
theorem wx_load0 (hE : envOK Γ St) {adV : Nat → Nat} (hX : envX Γ St adV) (hl9 : l.stackTraces = false) (hLn : envL St) (hN : 1 ≤ NC) {fs : List Value} (ha : h 0 = .inr (5, fs)) {w1 : Int32} {Q1 : qt} (k1 : Ct NC "java/lang/IllegalArgumentException" M_X5_load [.ref 0, .int w1] h Q1) : MetW Γ l St NC M_L_load H_load [.ref 0, .int w1] h (fun r u => r = I (-2000000098) ∧ Q1 .null u) := by
  refine metW_of (by decide) rfl rfl (fun v hv => by simp only [List.mem_cons, List.not_mem_nil, or_false] at hv; rcases hv with rfl | rfl <;> (intro z; cases z)) (Nat.le_of_ble_eq_true rfl) (fun p e s m args below meth c hC hr hlk ht => ?_)
  refine fs_aload_n hC dL_load_0 rfl ?_
  refine fs_iload_n hC dL_load_1 rfl ?_
  refine fs_cvx hE hX hl9 hC ⟨Nat.le_refl _, Nat.le_refl _⟩ (As := [.int w1]) dL_load_2 lnL_load rfl rfl (Nat.le_of_ble_eq_true rfl) (by omega) ha rfl k1 [] ⟨0, 5, 6, 40⟩ [] ht (fun z hz => by cases hz) (by decide) (by decide) clk_40 cast_40 (fun h1 hq H locs ls q hW hL => ?_)
  exact w_hdc_n hC dL_load_6 cst_42 dL_load_7 dL_load_9 (by decide) hr hlk (Nat.le_refl _) (Nat.le_refl _) hW hL ⟨rfl, hq⟩
theorem wr_state (hE : envOK Γ St) {adV : Nat → Nat} (hX : envX Γ St adV) (hl9 : l.stackTraces = false) (hN : 1 ≤ NC) {fs : List Value} (ha : h 0 = .inr (5, fs)) {w1 : Int32} {Q1 : qt} (k1 : Cl NC M_X5_state [.ref 0, .int w1] h Q1) : MetW Γ l St NC M_L_state H_state [.ref 0, .int w1] h (fun r u => Q1 (.int r) u) := by
  refine metW_of (by decide) rfl rfl (fun v hv => by simp only [List.mem_cons, List.not_mem_nil, or_false] at hv; rcases hv with rfl | rfl <;> (intro z; cases z)) (Nat.le_of_ble_eq_true rfl) (fun p e s m args below meth c hC hr hlk ht => ?_)
  refine fs_aload_n hC dL_state_0 rfl ?_
  refine fs_iload_n hC dL_state_1 rfl ?_
  refine fs_cvi hE hX hl9 hC ⟨Nat.zero_le _, Nat.zero_le _⟩ (As := [.int w1]) dL_state_2 lnL_state rfl rfl (Nat.le_of_ble_eq_true rfl) (by omega) ha rfl (Or.inl rfl) k1 (fun r h1 hq => ?_)
  exact fs_iretW hC dL_state_5 hr hlk (Nat.zero_le _) (Nat.zero_le _) hq
theorem wx_state0 (hE : envOK Γ St) {adV : Nat → Nat} (hX : envX Γ St adV) (hl9 : l.stackTraces = false) (hLn : envL St) (hN : 1 ≤ NC) {fs : List Value} (ha : h 0 = .inr (5, fs)) {w1 : Int32} {Q1 : qt} (k1 : Ct NC "java/lang/IllegalArgumentException" M_X5_state [.ref 0, .int w1] h Q1) : MetW Γ l St NC M_L_state H_state [.ref 0, .int w1] h (fun r u => r = I (-2000000098) ∧ Q1 .null u) := by
  refine metW_of (by decide) rfl rfl (fun v hv => by simp only [List.mem_cons, List.not_mem_nil, or_false] at hv; rcases hv with rfl | rfl <;> (intro z; cases z)) (Nat.le_of_ble_eq_true rfl) (fun p e s m args below meth c hC hr hlk ht => ?_)
  refine fs_aload_n hC dL_state_0 rfl ?_
  refine fs_iload_n hC dL_state_1 rfl ?_
  refine fs_cvx hE hX hl9 hC ⟨Nat.le_refl _, Nat.le_refl _⟩ (As := [.int w1]) dL_state_2 lnL_state rfl rfl (Nat.le_of_ble_eq_true rfl) (by omega) ha rfl k1 [] ⟨0, 5, 6, 40⟩ [] ht (fun z hz => by cases hz) (by decide) (by decide) clk_40 cast_40 (fun h1 hq H locs ls q hW hL => ?_)
  exact w_hdc_n hC dL_state_6 cst_42 dL_state_7 dL_state_9 (by decide) hr hlk (Nat.le_refl _) (Nat.le_refl _) hW hL ⟨rfl, hq⟩
theorem wr_cell (hE : envOK Γ St) {adV : Nat → Nat} (hX : envX Γ St adV) (hl9 : l.stackTraces = false) (hN : 1 ≤ NC) {fs : List Value} (ha : h 0 = .inr (5, fs)) {w1 w2 w3 : Int32} {Q1 : qt} (k1 : Cl NC M_X5_cell [.ref 0, .int w1, .int w2, .int w3] h Q1) : MetW Γ l St NC M_L_cell H_cell [.ref 0, .int w1, .int w2, .int w3] h (fun r u => Q1 (.int r) u) := by
  refine metW_of (by decide) rfl rfl (fun v hv => by simp only [List.mem_cons, List.not_mem_nil, or_false] at hv; rcases hv with rfl | rfl | rfl | rfl <;> (intro z; cases z)) (Nat.le_of_ble_eq_true rfl) (fun p e s m args below meth c hC hr hlk ht => ?_)
  refine fs_aload_n hC dL_cell_0 rfl ?_
  refine fs_iload_n hC dL_cell_1 rfl ?_
  refine fs_iload_n hC dL_cell_2 rfl ?_
  refine fs_iload_n hC dL_cell_3 rfl ?_
  refine fs_cvi hE hX hl9 hC ⟨Nat.zero_le _, Nat.zero_le _⟩ (As := [.int w1, .int w2, .int w3]) dL_cell_4 lnL_cell rfl rfl (Nat.le_of_ble_eq_true rfl) (by omega) ha rfl (Or.inl rfl) k1 (fun r h1 hq => ?_)
  exact fs_iretW hC dL_cell_7 hr hlk (Nat.zero_le _) (Nat.zero_le _) hq
theorem wx_cell0 (hE : envOK Γ St) {adV : Nat → Nat} (hX : envX Γ St adV) (hl9 : l.stackTraces = false) (hLn : envL St) (hN : 1 ≤ NC) {fs : List Value} (ha : h 0 = .inr (5, fs)) {w1 w2 w3 : Int32} {Q1 : qt} (k1 : Ct NC "java/lang/IndexOutOfBoundsException" M_X5_cell [.ref 0, .int w1, .int w2, .int w3] h Q1) : MetW Γ l St NC M_L_cell H_cell [.ref 0, .int w1, .int w2, .int w3] h (fun r u => r = I (-2000000097) ∧ Q1 .null u) := by
  refine metW_of (by decide) rfl rfl (fun v hv => by simp only [List.mem_cons, List.not_mem_nil, or_false] at hv; rcases hv with rfl | rfl | rfl | rfl <;> (intro z; cases z)) (Nat.le_of_ble_eq_true rfl) (fun p e s m args below meth c hC hr hlk ht => ?_)
  refine fs_aload_n hC dL_cell_0 rfl ?_
  refine fs_iload_n hC dL_cell_1 rfl ?_
  refine fs_iload_n hC dL_cell_2 rfl ?_
  refine fs_iload_n hC dL_cell_3 rfl ?_
  refine fs_cvx hE hX hl9 hC ⟨Nat.le_refl _, Nat.le_refl _⟩ (As := [.int w1, .int w2, .int w3]) dL_cell_4 lnL_cell rfl rfl (Nat.le_of_ble_eq_true rfl) (by omega) ha rfl k1 [] ⟨0, 7, 8, 50⟩ [⟨0, 7, 13, 40⟩] ht (fun z hz => by cases hz) (by decide) (by decide) clk_50 cast_50 (fun h1 hq H locs ls q hW hL => ?_)
  exact w_hdc hC dL_cell_8 cst_52 dL_cell_10 dL_cell_12 (by decide) hr hlk (Nat.le_refl _) (Nat.le_refl _) hW hL ⟨rfl, hq⟩
theorem wx_cell1 (hE : envOK Γ St) {adV : Nat → Nat} (hX : envX Γ St adV) (hl9 : l.stackTraces = false) (hLn : envL St) (hN : 1 ≤ NC) {fs : List Value} (ha : h 0 = .inr (5, fs)) {w1 w2 w3 : Int32} {Q1 : qt} (k1 : Ct NC "java/lang/IllegalArgumentException" M_X5_cell [.ref 0, .int w1, .int w2, .int w3] h Q1) : MetW Γ l St NC M_L_cell H_cell [.ref 0, .int w1, .int w2, .int w3] h (fun r u => r = I (-2000000098) ∧ Q1 .null u) := by
  refine metW_of (by decide) rfl rfl (fun v hv => by simp only [List.mem_cons, List.not_mem_nil, or_false] at hv; rcases hv with rfl | rfl | rfl | rfl <;> (intro z; cases z)) (Nat.le_of_ble_eq_true rfl) (fun p e s m args below meth c hC hr hlk ht => ?_)
  refine fs_aload_n hC dL_cell_0 rfl ?_
  refine fs_iload_n hC dL_cell_1 rfl ?_
  refine fs_iload_n hC dL_cell_2 rfl ?_
  refine fs_iload_n hC dL_cell_3 rfl ?_
  refine fs_cvx hE hX hl9 hC ⟨Nat.le_refl _, Nat.le_refl _⟩ (As := [.int w1, .int w2, .int w3]) dL_cell_4 lnL_cell rfl rfl (Nat.le_of_ble_eq_true rfl) (by omega) ha rfl k1 [⟨0, 7, 8, 50⟩] ⟨0, 7, 13, 40⟩ [] ht (fun z hz => by cases List.mem_singleton.mp hz; exact ⟨by decide, _, clk_50, (hLn s hC.2.2.2.2.2.2.1).1⟩) (by decide) (by decide) clk_40 cast_40 (fun h1 hq H locs ls q hW hL => ?_)
  exact w_hdc hC dL_cell_13 cst_42 dL_cell_15 dL_cell_17 (by decide) hr hlk (Nat.le_refl _) (Nat.le_refl _) hW hL ⟨rfl, hq⟩
theorem wr_mix (hE : envOK Γ St) {adV : Nat → Nat} (hX : envX Γ St adV) (hl9 : l.stackTraces = false) (hN : 1 ≤ NC) {fs : List Value} (ha : h 0 = .inr (5, fs)) {w1 w2 : Int32} {Q1 : qt} (k1 : Cl NC M_X5_mix [.ref 0, .int w1, .int w2] h Q1) : MetW Γ l St NC M_L_mix H_mix [.ref 0, .int w1, .int w2] h (fun r u => Q1 (.int r) u) := by
  refine metW_of (by decide) rfl rfl (fun v hv => by simp only [List.mem_cons, List.not_mem_nil, or_false] at hv; rcases hv with rfl | rfl | rfl <;> (intro z; cases z)) (Nat.le_of_ble_eq_true rfl) (fun p e s m args below meth c hC hr hlk ht => ?_)
  refine fs_aload_n hC dL_mix_0 rfl ?_
  refine fs_iload_n hC dL_mix_1 rfl ?_
  refine fs_iload_n hC dL_mix_2 rfl ?_
  refine fs_cvi hE hX hl9 hC ⟨Nat.zero_le _, Nat.zero_le _⟩ (As := [.int w1, .int w2]) dL_mix_3 lnL_mix rfl rfl (Nat.le_of_ble_eq_true rfl) (by omega) ha rfl (Or.inl rfl) k1 (fun r h1 hq => ?_)
  exact fs_iretW hC dL_mix_6 hr hlk (Nat.zero_le _) (Nat.zero_le _) hq
theorem wx_mix0 (hE : envOK Γ St) {adV : Nat → Nat} (hX : envX Γ St adV) (hl9 : l.stackTraces = false) (hLn : envL St) (hN : 1 ≤ NC) {fs : List Value} (ha : h 0 = .inr (5, fs)) {w1 w2 : Int32} {Q1 : qt} (k1 : Ct NC "java/lang/IllegalArgumentException" M_X5_mix [.ref 0, .int w1, .int w2] h Q1) : MetW Γ l St NC M_L_mix H_mix [.ref 0, .int w1, .int w2] h (fun r u => r = I (-2000000098) ∧ Q1 .null u) := by
  refine metW_of (by decide) rfl rfl (fun v hv => by simp only [List.mem_cons, List.not_mem_nil, or_false] at hv; rcases hv with rfl | rfl | rfl <;> (intro z; cases z)) (Nat.le_of_ble_eq_true rfl) (fun p e s m args below meth c hC hr hlk ht => ?_)
  refine fs_aload_n hC dL_mix_0 rfl ?_
  refine fs_iload_n hC dL_mix_1 rfl ?_
  refine fs_iload_n hC dL_mix_2 rfl ?_
  refine fs_cvx hE hX hl9 hC ⟨Nat.le_refl _, Nat.le_refl _⟩ (As := [.int w1, .int w2]) dL_mix_3 lnL_mix rfl rfl (Nat.le_of_ble_eq_true rfl) (by omega) ha rfl k1 [] ⟨0, 6, 7, 40⟩ [] ht (fun z hz => by cases hz) (by decide) (by decide) clk_40 cast_40 (fun h1 hq H locs ls q hW hL => ?_)
  exact w_hdc_n hC dL_mix_7 cst_42 dL_mix_8 dL_mix_10 (by decide) hr hlk (Nat.le_refl _) (Nat.le_refl _) hW hL ⟨rfl, hq⟩
theorem wr_count (hE : envOK Γ St) {adV : Nat → Nat} (hX : envX Γ St adV) (hl9 : l.stackTraces = false) (hN : 1 ≤ NC) {fs : List Value} (ha : h 0 = .inr (5, fs)) {w1 : Int32} {Q1 : qt} (k1 : Cl NC M_X5_count [.ref 0, .int w1] h Q1) : MetW Γ l St NC M_L_count H_count [.ref 0, .int w1] h (fun r u => Q1 (.int r) u) := by
  refine metW_of (by decide) rfl rfl (fun v hv => by simp only [List.mem_cons, List.not_mem_nil, or_false] at hv; rcases hv with rfl | rfl <;> (intro z; cases z)) (Nat.le_of_ble_eq_true rfl) (fun p e s m args below meth c hC hr hlk ht => ?_)
  refine fs_aload_n hC dL_count_0 rfl ?_
  refine fs_iload_n hC dL_count_1 rfl ?_
  refine fs_cvi hE hX hl9 hC ⟨Nat.zero_le _, Nat.zero_le _⟩ (As := [.int w1]) dL_count_2 lnL_count rfl rfl (Nat.le_of_ble_eq_true rfl) (by omega) ha rfl (Or.inl rfl) k1 (fun r h1 hq => ?_)
  exact fs_iretW hC dL_count_5 hr hlk (Nat.zero_le _) (Nat.zero_le _) hq
theorem wx_count0 (hE : envOK Γ St) {adV : Nat → Nat} (hX : envX Γ St adV) (hl9 : l.stackTraces = false) (hLn : envL St) (hN : 1 ≤ NC) {fs : List Value} (ha : h 0 = .inr (5, fs)) {w1 : Int32} {Q1 : qt} (k1 : Ct NC "java/lang/IllegalArgumentException" M_X5_count [.ref 0, .int w1] h Q1) : MetW Γ l St NC M_L_count H_count [.ref 0, .int w1] h (fun r u => r = I (-2000000098) ∧ Q1 .null u) := by
  refine metW_of (by decide) rfl rfl (fun v hv => by simp only [List.mem_cons, List.not_mem_nil, or_false] at hv; rcases hv with rfl | rfl <;> (intro z; cases z)) (Nat.le_of_ble_eq_true rfl) (fun p e s m args below meth c hC hr hlk ht => ?_)
  refine fs_aload_n hC dL_count_0 rfl ?_
  refine fs_iload_n hC dL_count_1 rfl ?_
  refine fs_cvx hE hX hl9 hC ⟨Nat.le_refl _, Nat.le_refl _⟩ (As := [.int w1]) dL_count_2 lnL_count rfl rfl (Nat.le_of_ble_eq_true rfl) (by omega) ha rfl k1 [] ⟨0, 5, 6, 40⟩ [] ht (fun z hz => by cases hz) (by decide) (by decide) clk_40 cast_40 (fun h1 hq H locs ls q hW hL => ?_)
  exact w_hdc_n hC dL_count_6 cst_42 dL_count_7 dL_count_9 (by decide) hr hlk (Nat.le_refl _) (Nat.le_refl _) hW hL ⟨rfl, hq⟩
theorem wr_region (hE : envOK Γ St) {adV : Nat → Nat} (hX : envX Γ St adV) (hl9 : l.stackTraces = false) (hN : 1 ≤ NC) {fs : List Value} (ha : h 0 = .inr (5, fs)) {w1 w2 : Int32} {Q1 : qt} (k1 : Cl NC M_X5_region [.ref 0, .int w1, .int w2] h Q1) : MetW Γ l St NC M_L_region H_region [.ref 0, .int w1, .int w2] h (fun r u => Q1 (.int r) u) := by
  refine metW_of (by decide) rfl rfl (fun v hv => by simp only [List.mem_cons, List.not_mem_nil, or_false] at hv; rcases hv with rfl | rfl | rfl <;> (intro z; cases z)) (Nat.le_of_ble_eq_true rfl) (fun p e s m args below meth c hC hr hlk ht => ?_)
  refine fs_aload_n hC dL_region_0 rfl ?_
  refine fs_iload_n hC dL_region_1 rfl ?_
  refine fs_iload_n hC dL_region_2 rfl ?_
  refine fs_cvi hE hX hl9 hC ⟨Nat.zero_le _, Nat.zero_le _⟩ (As := [.int w1, .int w2]) dL_region_3 lnL_region rfl rfl (Nat.le_of_ble_eq_true rfl) (by omega) ha rfl (Or.inl rfl) k1 (fun r h1 hq => ?_)
  exact fs_iretW hC dL_region_6 hr hlk (Nat.zero_le _) (Nat.zero_le _) hq
theorem wx_region0 (hE : envOK Γ St) {adV : Nat → Nat} (hX : envX Γ St adV) (hl9 : l.stackTraces = false) (hLn : envL St) (hN : 1 ≤ NC) {fs : List Value} (ha : h 0 = .inr (5, fs)) {w1 w2 : Int32} {Q1 : qt} (k1 : Ct NC "java/lang/IndexOutOfBoundsException" M_X5_region [.ref 0, .int w1, .int w2] h Q1) : MetW Γ l St NC M_L_region H_region [.ref 0, .int w1, .int w2] h (fun r u => r = I (-2000000097) ∧ Q1 .null u) := by
  refine metW_of (by decide) rfl rfl (fun v hv => by simp only [List.mem_cons, List.not_mem_nil, or_false] at hv; rcases hv with rfl | rfl | rfl <;> (intro z; cases z)) (Nat.le_of_ble_eq_true rfl) (fun p e s m args below meth c hC hr hlk ht => ?_)
  refine fs_aload_n hC dL_region_0 rfl ?_
  refine fs_iload_n hC dL_region_1 rfl ?_
  refine fs_iload_n hC dL_region_2 rfl ?_
  refine fs_cvx hE hX hl9 hC ⟨Nat.le_refl _, Nat.le_refl _⟩ (As := [.int w1, .int w2]) dL_region_3 lnL_region rfl rfl (Nat.le_of_ble_eq_true rfl) (by omega) ha rfl k1 [] ⟨0, 6, 7, 50⟩ [] ht (fun z hz => by cases hz) (by decide) (by decide) clk_50 cast_50 (fun h1 hq H locs ls q hW hL => ?_)
  exact w_hdc_n hC dL_region_7 cst_52 dL_region_8 dL_region_10 (by decide) hr hlk (Nat.le_refl _) (Nat.le_refl _) hW hL ⟨rfl, hq⟩
theorem wr_regions (hE : envOK Γ St) {adV : Nat → Nat} (hX : envX Γ St adV) (hl9 : l.stackTraces = false) (hN : 1 ≤ NC) {fs : List Value} (ha : h 0 = .inr (5, fs)) {w1 : Int32} {Q1 : qt} (k1 : Cl NC M_X5_regions [.ref 0, .int w1] h Q1) : MetW Γ l St NC M_L_regions H_regions [.ref 0, .int w1] h (fun r u => Q1 (.int r) u) := by
  refine metW_of (by decide) rfl rfl (fun v hv => by simp only [List.mem_cons, List.not_mem_nil, or_false] at hv; rcases hv with rfl | rfl <;> (intro z; cases z)) (Nat.le_of_ble_eq_true rfl) (fun p e s m args below meth c hC hr hlk ht => ?_)
  refine fs_aload_n hC dL_regions_0 rfl ?_
  refine fs_iload_n hC dL_regions_1 rfl ?_
  refine fs_cvi hE hX hl9 hC ⟨Nat.zero_le _, Nat.zero_le _⟩ (As := [.int w1]) dL_regions_2 lnL_regions rfl rfl (Nat.le_of_ble_eq_true rfl) (by omega) ha rfl (Or.inl rfl) k1 (fun r h1 hq => ?_)
  exact fs_iretW hC dL_regions_5 hr hlk (Nat.zero_le _) (Nat.zero_le _) hq
theorem wx_regions0 (hE : envOK Γ St) {adV : Nat → Nat} (hX : envX Γ St adV) (hl9 : l.stackTraces = false) (hLn : envL St) (hN : 1 ≤ NC) {fs : List Value} (ha : h 0 = .inr (5, fs)) {w1 : Int32} {Q1 : qt} (k1 : Ct NC "java/lang/IllegalArgumentException" M_X5_regions [.ref 0, .int w1] h Q1) : MetW Γ l St NC M_L_regions H_regions [.ref 0, .int w1] h (fun r u => r = I (-2000000098) ∧ Q1 .null u) := by
  refine metW_of (by decide) rfl rfl (fun v hv => by simp only [List.mem_cons, List.not_mem_nil, or_false] at hv; rcases hv with rfl | rfl <;> (intro z; cases z)) (Nat.le_of_ble_eq_true rfl) (fun p e s m args below meth c hC hr hlk ht => ?_)
  refine fs_aload_n hC dL_regions_0 rfl ?_
  refine fs_iload_n hC dL_regions_1 rfl ?_
  refine fs_cvx hE hX hl9 hC ⟨Nat.le_refl _, Nat.le_refl _⟩ (As := [.int w1]) dL_regions_2 lnL_regions rfl rfl (Nat.le_of_ble_eq_true rfl) (by omega) ha rfl k1 [] ⟨0, 5, 6, 40⟩ [] ht (fun z hz => by cases hz) (by decide) (by decide) clk_40 cast_40 (fun h1 hq H locs ls q hW hL => ?_)
  exact w_hdc_n hC dL_regions_6 cst_42 dL_regions_7 dL_regions_9 (by decide) hr hlk (Nat.le_refl _) (Nat.le_refl _) hW hL ⟨rfl, hq⟩
theorem wr_bleeds (hE : envOK Γ St) {adV : Nat → Nat} (hX : envX Γ St adV) (hl9 : l.stackTraces = false) (hN : 1 ≤ NC) {fs : List Value} (ha : h 0 = .inr (5, fs)) {w1 w2 : Int32} {Q1 : qt} (k1 : Cl NC M_X5_bleeds [.ref 0, .int w1, .int w2] h Q1) : MetW Γ l St NC M_L_bleeds H_bleeds [.ref 0, .int w1, .int w2] h (fun r u => Q1 (.int r) u) := by
  refine metW_of (by decide) rfl rfl (fun v hv => by simp only [List.mem_cons, List.not_mem_nil, or_false] at hv; rcases hv with rfl | rfl | rfl <;> (intro z; cases z)) (Nat.le_of_ble_eq_true rfl) (fun p e s m args below meth c hC hr hlk ht => ?_)
  refine fs_aload_n hC dL_bleeds_0 rfl ?_
  refine fs_iload_n hC dL_bleeds_1 rfl ?_
  refine fs_iload_n hC dL_bleeds_2 rfl ?_
  refine fs_cvi hE hX hl9 hC ⟨Nat.zero_le _, Nat.zero_le _⟩ (As := [.int w1, .int w2]) dL_bleeds_3 lnL_bleeds rfl rfl (Nat.le_of_ble_eq_true rfl) (by omega) ha rfl (Or.inl rfl) k1 (fun r h1 hq => ?_)
  exact fs_iretW hC dL_bleeds_6 hr hlk (Nat.zero_le _) (Nat.zero_le _) hq
theorem wx_bleeds0 (hE : envOK Γ St) {adV : Nat → Nat} (hX : envX Γ St adV) (hl9 : l.stackTraces = false) (hLn : envL St) (hN : 1 ≤ NC) {fs : List Value} (ha : h 0 = .inr (5, fs)) {w1 w2 : Int32} {Q1 : qt} (k1 : Ct NC "java/lang/IndexOutOfBoundsException" M_X5_bleeds [.ref 0, .int w1, .int w2] h Q1) : MetW Γ l St NC M_L_bleeds H_bleeds [.ref 0, .int w1, .int w2] h (fun r u => r = I (-2000000097) ∧ Q1 .null u) := by
  refine metW_of (by decide) rfl rfl (fun v hv => by simp only [List.mem_cons, List.not_mem_nil, or_false] at hv; rcases hv with rfl | rfl | rfl <;> (intro z; cases z)) (Nat.le_of_ble_eq_true rfl) (fun p e s m args below meth c hC hr hlk ht => ?_)
  refine fs_aload_n hC dL_bleeds_0 rfl ?_
  refine fs_iload_n hC dL_bleeds_1 rfl ?_
  refine fs_iload_n hC dL_bleeds_2 rfl ?_
  refine fs_cvx hE hX hl9 hC ⟨Nat.le_refl _, Nat.le_refl _⟩ (As := [.int w1, .int w2]) dL_bleeds_3 lnL_bleeds rfl rfl (Nat.le_of_ble_eq_true rfl) (by omega) ha rfl k1 [] ⟨0, 6, 7, 50⟩ [] ht (fun z hz => by cases hz) (by decide) (by decide) clk_50 cast_50 (fun h1 hq H locs ls q hW hL => ?_)
  exact w_hdc_n hC dL_bleeds_7 cst_52 dL_bleeds_8 dL_bleeds_10 (by decide) hr hlk (Nat.le_refl _) (Nat.le_refl _) hW hL ⟨rfl, hq⟩
theorem wr_foretold (hE : envOK Γ St) {adV : Nat → Nat} (hX : envX Γ St adV) (hl9 : l.stackTraces = false) (hN : 1 ≤ NC) {fs : List Value} (ha : h 0 = .inr (5, fs)) {w1 w2 : Int32} {Q1 : qt} (k1 : Cl NC M_X5_foretold [.ref 0, .int w1, .int w2] h Q1) : MetW Γ l St NC M_L_foretold H_foretold [.ref 0, .int w1, .int w2] h (fun r u => Q1 (.int r) u) := by
  refine metW_of (by decide) rfl rfl (fun v hv => by simp only [List.mem_cons, List.not_mem_nil, or_false] at hv; rcases hv with rfl | rfl | rfl <;> (intro z; cases z)) (Nat.le_of_ble_eq_true rfl) (fun p e s m args below meth c hC hr hlk ht => ?_)
  refine fs_aload_n hC dL_foretold_0 rfl ?_
  refine fs_iload_n hC dL_foretold_1 rfl ?_
  refine fs_iload_n hC dL_foretold_2 rfl ?_
  refine fs_cvi hE hX hl9 hC ⟨Nat.zero_le _, Nat.zero_le _⟩ (As := [.int w1, .int w2]) dL_foretold_3 lnL_foretold rfl rfl (Nat.le_of_ble_eq_true rfl) (by omega) ha rfl (Or.inl rfl) k1 (fun r h1 hq => ?_)
  exact fs_iretW hC dL_foretold_6 hr hlk (Nat.zero_le _) (Nat.zero_le _) hq
theorem wx_foretold0 (hE : envOK Γ St) {adV : Nat → Nat} (hX : envX Γ St adV) (hl9 : l.stackTraces = false) (hLn : envL St) (hN : 1 ≤ NC) {fs : List Value} (ha : h 0 = .inr (5, fs)) {w1 w2 : Int32} {Q1 : qt} (k1 : Ct NC "java/lang/IllegalArgumentException" M_X5_foretold [.ref 0, .int w1, .int w2] h Q1) : MetW Γ l St NC M_L_foretold H_foretold [.ref 0, .int w1, .int w2] h (fun r u => r = I (-2000000098) ∧ Q1 .null u) := by
  refine metW_of (by decide) rfl rfl (fun v hv => by simp only [List.mem_cons, List.not_mem_nil, or_false] at hv; rcases hv with rfl | rfl | rfl <;> (intro z; cases z)) (Nat.le_of_ble_eq_true rfl) (fun p e s m args below meth c hC hr hlk ht => ?_)
  refine fs_aload_n hC dL_foretold_0 rfl ?_
  refine fs_iload_n hC dL_foretold_1 rfl ?_
  refine fs_iload_n hC dL_foretold_2 rfl ?_
  refine fs_cvx hE hX hl9 hC ⟨Nat.le_refl _, Nat.le_refl _⟩ (As := [.int w1, .int w2]) dL_foretold_3 lnL_foretold rfl rfl (Nat.le_of_ble_eq_true rfl) (by omega) ha rfl k1 [] ⟨0, 6, 7, 40⟩ [] ht (fun z hz => by cases hz) (by decide) (by decide) clk_40 cast_40 (fun h1 hq H locs ls q hW hL => ?_)
  exact w_hdc_n hC dL_foretold_7 cst_42 dL_foretold_8 dL_foretold_10 (by decide) hr hlk (Nat.le_refl _) (Nat.le_refl _) hW hL ⟨rfl, hq⟩
theorem wr_evens (hE : envOK Γ St) {adV : Nat → Nat} (hX : envX Γ St adV) (hl9 : l.stackTraces = false) (hN : 1 ≤ NC) {fs : List Value} (ha : h 0 = .inr (5, fs)) {w1 : Int32} {Q1 : qt} (k1 : Cl NC M_X5_evens [.ref 0, .int w1] h Q1) : MetW Γ l St NC M_L_evens H_evens [.ref 0, .int w1] h (fun r u => Q1 (.int r) u) := by
  refine metW_of (by decide) rfl rfl (fun v hv => by simp only [List.mem_cons, List.not_mem_nil, or_false] at hv; rcases hv with rfl | rfl <;> (intro z; cases z)) (Nat.le_of_ble_eq_true rfl) (fun p e s m args below meth c hC hr hlk ht => ?_)
  refine fs_aload_n hC dL_evens_0 rfl ?_
  refine fs_iload_n hC dL_evens_1 rfl ?_
  refine fs_cvi hE hX hl9 hC ⟨Nat.zero_le _, Nat.zero_le _⟩ (As := [.int w1]) dL_evens_2 lnL_evens rfl rfl (Nat.le_of_ble_eq_true rfl) (by omega) ha rfl (Or.inl rfl) k1 (fun r h1 hq => ?_)
  exact fs_iretW hC dL_evens_5 hr hlk (Nat.zero_le _) (Nat.zero_le _) hq
theorem wx_evens0 (hE : envOK Γ St) {adV : Nat → Nat} (hX : envX Γ St adV) (hl9 : l.stackTraces = false) (hLn : envL St) (hN : 1 ≤ NC) {fs : List Value} (ha : h 0 = .inr (5, fs)) {w1 : Int32} {Q1 : qt} (k1 : Ct NC "java/lang/IllegalArgumentException" M_X5_evens [.ref 0, .int w1] h Q1) : MetW Γ l St NC M_L_evens H_evens [.ref 0, .int w1] h (fun r u => r = I (-2000000098) ∧ Q1 .null u) := by
  refine metW_of (by decide) rfl rfl (fun v hv => by simp only [List.mem_cons, List.not_mem_nil, or_false] at hv; rcases hv with rfl | rfl <;> (intro z; cases z)) (Nat.le_of_ble_eq_true rfl) (fun p e s m args below meth c hC hr hlk ht => ?_)
  refine fs_aload_n hC dL_evens_0 rfl ?_
  refine fs_iload_n hC dL_evens_1 rfl ?_
  refine fs_cvx hE hX hl9 hC ⟨Nat.le_refl _, Nat.le_refl _⟩ (As := [.int w1]) dL_evens_2 lnL_evens rfl rfl (Nat.le_of_ble_eq_true rfl) (by omega) ha rfl k1 [] ⟨0, 5, 6, 40⟩ [] ht (fun z hz => by cases hz) (by decide) (by decide) clk_40 cast_40 (fun h1 hq H locs ls q hW hL => ?_)
  exact w_hdc_n hC dL_evens_6 cst_42 dL_evens_7 dL_evens_9 (by decide) hr hlk (Nat.le_refl _) (Nat.le_refl _) hW hL ⟨rfl, hq⟩
theorem wr_pattern (hE : envOK Γ St) {adV : Nat → Nat} (hX : envX Γ St adV) (hl9 : l.stackTraces = false) (hN : 1 ≤ NC) {fs : List Value} (ha : h 0 = .inr (5, fs)) {w1 w2 : Int32} {Q1 : qt} (k1 : Cl NC M_X5_pattern [.ref 0, .int w1, .int w2] h Q1) : MetW Γ l St NC M_L_pattern H_pattern [.ref 0, .int w1, .int w2] h (fun r u => Q1 (.int r) u) := by
  refine metW_of (by decide) rfl rfl (fun v hv => by simp only [List.mem_cons, List.not_mem_nil, or_false] at hv; rcases hv with rfl | rfl | rfl <;> (intro z; cases z)) (Nat.le_of_ble_eq_true rfl) (fun p e s m args below meth c hC hr hlk ht => ?_)
  refine fs_aload_n hC dL_pattern_0 rfl ?_
  refine fs_iload_n hC dL_pattern_1 rfl ?_
  refine fs_iload_n hC dL_pattern_2 rfl ?_
  refine fs_cvi hE hX hl9 hC ⟨Nat.zero_le _, Nat.zero_le _⟩ (As := [.int w1, .int w2]) dL_pattern_3 lnL_pattern rfl rfl (Nat.le_of_ble_eq_true rfl) (by omega) ha rfl (Or.inl rfl) k1 (fun r h1 hq => ?_)
  exact fs_iretW hC dL_pattern_6 hr hlk (Nat.zero_le _) (Nat.zero_le _) hq
theorem wx_pattern0 (hE : envOK Γ St) {adV : Nat → Nat} (hX : envX Γ St adV) (hl9 : l.stackTraces = false) (hLn : envL St) (hN : 1 ≤ NC) {fs : List Value} (ha : h 0 = .inr (5, fs)) {w1 w2 : Int32} {Q1 : qt} (k1 : Ct NC "java/lang/IndexOutOfBoundsException" M_X5_pattern [.ref 0, .int w1, .int w2] h Q1) : MetW Γ l St NC M_L_pattern H_pattern [.ref 0, .int w1, .int w2] h (fun r u => r = I (-2000000097) ∧ Q1 .null u) := by
  refine metW_of (by decide) rfl rfl (fun v hv => by simp only [List.mem_cons, List.not_mem_nil, or_false] at hv; rcases hv with rfl | rfl | rfl <;> (intro z; cases z)) (Nat.le_of_ble_eq_true rfl) (fun p e s m args below meth c hC hr hlk ht => ?_)
  refine fs_aload_n hC dL_pattern_0 rfl ?_
  refine fs_iload_n hC dL_pattern_1 rfl ?_
  refine fs_iload_n hC dL_pattern_2 rfl ?_
  refine fs_cvx hE hX hl9 hC ⟨Nat.le_refl _, Nat.le_refl _⟩ (As := [.int w1, .int w2]) dL_pattern_3 lnL_pattern rfl rfl (Nat.le_of_ble_eq_true rfl) (by omega) ha rfl k1 [] ⟨0, 6, 7, 50⟩ [⟨0, 6, 11, 40⟩] ht (fun z hz => by cases hz) (by decide) (by decide) clk_50 cast_50 (fun h1 hq H locs ls q hW hL => ?_)
  exact w_hdc_n hC dL_pattern_7 cst_52 dL_pattern_8 dL_pattern_10 (by decide) hr hlk (Nat.le_refl _) (Nat.le_refl _) hW hL ⟨rfl, hq⟩
theorem wx_pattern1 (hE : envOK Γ St) {adV : Nat → Nat} (hX : envX Γ St adV) (hl9 : l.stackTraces = false) (hLn : envL St) (hN : 1 ≤ NC) {fs : List Value} (ha : h 0 = .inr (5, fs)) {w1 w2 : Int32} {Q1 : qt} (k1 : Ct NC "java/lang/IllegalArgumentException" M_X5_pattern [.ref 0, .int w1, .int w2] h Q1) : MetW Γ l St NC M_L_pattern H_pattern [.ref 0, .int w1, .int w2] h (fun r u => r = I (-2000000098) ∧ Q1 .null u) := by
  refine metW_of (by decide) rfl rfl (fun v hv => by simp only [List.mem_cons, List.not_mem_nil, or_false] at hv; rcases hv with rfl | rfl | rfl <;> (intro z; cases z)) (Nat.le_of_ble_eq_true rfl) (fun p e s m args below meth c hC hr hlk ht => ?_)
  refine fs_aload_n hC dL_pattern_0 rfl ?_
  refine fs_iload_n hC dL_pattern_1 rfl ?_
  refine fs_iload_n hC dL_pattern_2 rfl ?_
  refine fs_cvx hE hX hl9 hC ⟨Nat.le_refl _, Nat.le_refl _⟩ (As := [.int w1, .int w2]) dL_pattern_3 lnL_pattern rfl rfl (Nat.le_of_ble_eq_true rfl) (by omega) ha rfl k1 [⟨0, 6, 7, 50⟩] ⟨0, 6, 11, 40⟩ [] ht (fun z hz => by cases List.mem_singleton.mp hz; exact ⟨by decide, _, clk_50, (hLn s hC.2.2.2.2.2.2.1).1⟩) (by decide) (by decide) clk_40 cast_40 (fun h1 hq H locs ls q hW hL => ?_)
  exact w_hdc_n hC dL_pattern_11 cst_42 dL_pattern_12 dL_pattern_14 (by decide) hr hlk (Nat.le_refl _) (Nat.le_refl _) hW hL ⟨rfl, hq⟩
theorem wr_pass (hE : envOK Γ St) {adV : Nat → Nat} (hX : envX Γ St adV) (hl9 : l.stackTraces = false) (hN : 1 ≤ NC) {fs : List Value} (ha : h 0 = .inr (5, fs)) {w1 : Int32} {Q1 : qt} (k1 : Cl NC M_X5_pass [.ref 0, .int w1] h Q1) : MetW Γ l St NC M_L_pass H_pass [.ref 0, .int w1] h (fun r u => Q1 (.int r) u) := by
  refine metW_of (by decide) rfl rfl (fun v hv => by simp only [List.mem_cons, List.not_mem_nil, or_false] at hv; rcases hv with rfl | rfl <;> (intro z; cases z)) (Nat.le_of_ble_eq_true rfl) (fun p e s m args below meth c hC hr hlk ht => ?_)
  refine fs_aload_n hC dL_pass_0 rfl ?_
  refine fs_iload_n hC dL_pass_1 rfl ?_
  refine fs_cvi hE hX hl9 hC ⟨Nat.zero_le _, Nat.zero_le _⟩ (As := [.int w1]) dL_pass_2 lnL_pass rfl rfl (Nat.le_of_ble_eq_true rfl) (by omega) ha rfl (Or.inl rfl) k1 (fun r h1 hq => ?_)
  exact fs_iretW hC dL_pass_5 hr hlk (Nat.zero_le _) (Nat.zero_le _) hq
theorem wx_pass0 (hE : envOK Γ St) {adV : Nat → Nat} (hX : envX Γ St adV) (hl9 : l.stackTraces = false) (hLn : envL St) (hN : 1 ≤ NC) {fs : List Value} (ha : h 0 = .inr (5, fs)) {w1 : Int32} {Q1 : qt} (k1 : Ct NC "java/lang/IllegalArgumentException" M_X5_pass [.ref 0, .int w1] h Q1) : MetW Γ l St NC M_L_pass H_pass [.ref 0, .int w1] h (fun r u => r = I (-2000000098) ∧ Q1 .null u) := by
  refine metW_of (by decide) rfl rfl (fun v hv => by simp only [List.mem_cons, List.not_mem_nil, or_false] at hv; rcases hv with rfl | rfl <;> (intro z; cases z)) (Nat.le_of_ble_eq_true rfl) (fun p e s m args below meth c hC hr hlk ht => ?_)
  refine fs_aload_n hC dL_pass_0 rfl ?_
  refine fs_iload_n hC dL_pass_1 rfl ?_
  refine fs_cvx hE hX hl9 hC ⟨Nat.le_refl _, Nat.le_refl _⟩ (As := [.int w1]) dL_pass_2 lnL_pass rfl rfl (Nat.le_of_ble_eq_true rfl) (by omega) ha rfl k1 [] ⟨0, 5, 6, 40⟩ [] ht (fun z hz => by cases hz) (by decide) (by decide) clk_40 cast_40 (fun h1 hq H locs ls q hW hL => ?_)
  exact w_hdc_n hC dL_pass_6 cst_42 dL_pass_7 dL_pass_9 (by decide) hr hlk (Nat.le_refl _) (Nat.le_refl _) hW hL ⟨rfl, hq⟩
theorem wr_paint (hE : envOK Γ St) {adV : Nat → Nat} (hX : envX Γ St adV) (hl9 : l.stackTraces = false) (hN : 1 ≤ NC) {fs : List Value} (ha : h 0 = .inr (5, fs)) {w1 w2 w3 w4 w5 : Int32} {Q1 : qt} (k1 : Cl NC M_X5_paint [.ref 0, .int w1, .int w2, .int w3, .int w4, .int w5] h Q1) : MetW Γ l St NC M_L_paint H_paint [.ref 0, .int w1, .int w2, .int w3, .int w4, .int w5] h (fun r u => Q1 (.int r) u) := by
  refine metW_of (by decide) rfl rfl (fun v hv => by simp only [List.mem_cons, List.not_mem_nil, or_false] at hv; rcases hv with rfl | rfl | rfl | rfl | rfl | rfl <;> (intro z; cases z)) (Nat.le_of_ble_eq_true rfl) (fun p e s m args below meth c hC hr hlk ht => ?_)
  refine fs_aload_n hC dL_paint_0 rfl ?_
  refine fs_iload_n hC dL_paint_1 rfl ?_
  refine fs_iload_n hC dL_paint_2 rfl ?_
  refine fs_iload_n hC dL_paint_3 rfl ?_
  refine fs_iload hC dL_paint_4 rfl ?_
  refine fs_iload hC dL_paint_6 rfl ?_
  refine fs_cvi hE hX hl9 hC ⟨Nat.zero_le _, Nat.zero_le _⟩ (As := [.int w1, .int w2, .int w3, .int w4, .int w5]) dL_paint_8 lnL_paint rfl rfl (Nat.le_of_ble_eq_true rfl) (by omega) ha rfl (Or.inl rfl) k1 (fun r h1 hq => ?_)
  exact fs_iretW hC dL_paint_11 hr hlk (Nat.zero_le _) (Nat.zero_le _) hq
theorem wx_paint0 (hE : envOK Γ St) {adV : Nat → Nat} (hX : envX Γ St adV) (hl9 : l.stackTraces = false) (hLn : envL St) (hN : 1 ≤ NC) {fs : List Value} (ha : h 0 = .inr (5, fs)) {w1 w2 w3 w4 w5 : Int32} {Q1 : qt} (k1 : Ct NC "java/lang/IndexOutOfBoundsException" M_X5_paint [.ref 0, .int w1, .int w2, .int w3, .int w4, .int w5] h Q1) : MetW Γ l St NC M_L_paint H_paint [.ref 0, .int w1, .int w2, .int w3, .int w4, .int w5] h (fun r u => r = I (-2000000097) ∧ Q1 .null u) := by
  refine metW_of (by decide) rfl rfl (fun v hv => by simp only [List.mem_cons, List.not_mem_nil, or_false] at hv; rcases hv with rfl | rfl | rfl | rfl | rfl | rfl <;> (intro z; cases z)) (Nat.le_of_ble_eq_true rfl) (fun p e s m args below meth c hC hr hlk ht => ?_)
  refine fs_aload_n hC dL_paint_0 rfl ?_
  refine fs_iload_n hC dL_paint_1 rfl ?_
  refine fs_iload_n hC dL_paint_2 rfl ?_
  refine fs_iload_n hC dL_paint_3 rfl ?_
  refine fs_iload hC dL_paint_4 rfl ?_
  refine fs_iload hC dL_paint_6 rfl ?_
  refine fs_cvx hE hX hl9 hC ⟨Nat.le_refl _, Nat.le_refl _⟩ (As := [.int w1, .int w2, .int w3, .int w4, .int w5]) dL_paint_8 lnL_paint rfl rfl (Nat.le_of_ble_eq_true rfl) (by omega) ha rfl k1 [] ⟨0, 11, 12, 50⟩ [⟨0, 11, 17, 40⟩] ht (fun z hz => by cases hz) (by decide) (by decide) clk_50 cast_50 (fun h1 hq H locs ls q hW hL => ?_)
  exact w_hdc hC dL_paint_12 cst_52 dL_paint_14 dL_paint_16 (by decide) hr hlk (Nat.le_refl _) (Nat.le_refl _) hW hL ⟨rfl, hq⟩
theorem wx_paint1 (hE : envOK Γ St) {adV : Nat → Nat} (hX : envX Γ St adV) (hl9 : l.stackTraces = false) (hLn : envL St) (hN : 1 ≤ NC) {fs : List Value} (ha : h 0 = .inr (5, fs)) {w1 w2 w3 w4 w5 : Int32} {Q1 : qt} (k1 : Ct NC "java/lang/IllegalArgumentException" M_X5_paint [.ref 0, .int w1, .int w2, .int w3, .int w4, .int w5] h Q1) : MetW Γ l St NC M_L_paint H_paint [.ref 0, .int w1, .int w2, .int w3, .int w4, .int w5] h (fun r u => r = I (-2000000098) ∧ Q1 .null u) := by
  refine metW_of (by decide) rfl rfl (fun v hv => by simp only [List.mem_cons, List.not_mem_nil, or_false] at hv; rcases hv with rfl | rfl | rfl | rfl | rfl | rfl <;> (intro z; cases z)) (Nat.le_of_ble_eq_true rfl) (fun p e s m args below meth c hC hr hlk ht => ?_)
  refine fs_aload_n hC dL_paint_0 rfl ?_
  refine fs_iload_n hC dL_paint_1 rfl ?_
  refine fs_iload_n hC dL_paint_2 rfl ?_
  refine fs_iload_n hC dL_paint_3 rfl ?_
  refine fs_iload hC dL_paint_4 rfl ?_
  refine fs_iload hC dL_paint_6 rfl ?_
  refine fs_cvx hE hX hl9 hC ⟨Nat.le_refl _, Nat.le_refl _⟩ (As := [.int w1, .int w2, .int w3, .int w4, .int w5]) dL_paint_8 lnL_paint rfl rfl (Nat.le_of_ble_eq_true rfl) (by omega) ha rfl k1 [⟨0, 11, 12, 50⟩] ⟨0, 11, 17, 40⟩ [] ht (fun z hz => by cases List.mem_singleton.mp hz; exact ⟨by decide, _, clk_50, (hLn s hC.2.2.2.2.2.2.1).1⟩) (by decide) (by decide) clk_40 cast_40 (fun h1 hq H locs ls q hW hL => ?_)
  exact w_hdc hC dL_paint_17 cst_42 dL_paint_19 dL_paint_21 (by decide) hr hlk (Nat.le_refl _) (Nat.le_refl _) hW hL ⟨rfl, hq⟩
theorem wr_stroke (hE : envOK Γ St) {adV : Nat → Nat} (hX : envX Γ St adV) (hl9 : l.stackTraces = false) (hN : 1 ≤ NC) {fs : List Value} (ha : h 0 = .inr (5, fs)) {w1 w2 w3 w4 w5 : Int32} {Q1 : qt} (k1 : Cl NC M_X5_stroke [.ref 0, .int w1, .int w2, .int w3, .int w4, .int w5] h Q1) : MetW Γ l St NC M_L_stroke H_stroke [.ref 0, .int w1, .int w2, .int w3, .int w4, .int w5] h (fun r u => Q1 (.int r) u) := by
  refine metW_of (by decide) rfl rfl (fun v hv => by simp only [List.mem_cons, List.not_mem_nil, or_false] at hv; rcases hv with rfl | rfl | rfl | rfl | rfl | rfl <;> (intro z; cases z)) (Nat.le_of_ble_eq_true rfl) (fun p e s m args below meth c hC hr hlk ht => ?_)
  refine fs_aload_n hC dL_stroke_0 rfl ?_
  refine fs_iload_n hC dL_stroke_1 rfl ?_
  refine fs_iload_n hC dL_stroke_2 rfl ?_
  refine fs_iload_n hC dL_stroke_3 rfl ?_
  refine fs_iload hC dL_stroke_4 rfl ?_
  refine fs_iload hC dL_stroke_6 rfl ?_
  refine fs_cvi hE hX hl9 hC ⟨Nat.zero_le _, Nat.zero_le _⟩ (As := [.int w1, .int w2, .int w3, .int w4, .int w5]) dL_stroke_8 lnL_stroke rfl rfl (Nat.le_of_ble_eq_true rfl) (by omega) ha rfl (Or.inl rfl) k1 (fun r h1 hq => ?_)
  exact fs_iretW hC dL_stroke_11 hr hlk (Nat.zero_le _) (Nat.zero_le _) hq
theorem wx_stroke0 (hE : envOK Γ St) {adV : Nat → Nat} (hX : envX Γ St adV) (hl9 : l.stackTraces = false) (hLn : envL St) (hN : 1 ≤ NC) {fs : List Value} (ha : h 0 = .inr (5, fs)) {w1 w2 w3 w4 w5 : Int32} {Q1 : qt} (k1 : Ct NC "java/lang/IndexOutOfBoundsException" M_X5_stroke [.ref 0, .int w1, .int w2, .int w3, .int w4, .int w5] h Q1) : MetW Γ l St NC M_L_stroke H_stroke [.ref 0, .int w1, .int w2, .int w3, .int w4, .int w5] h (fun r u => r = I (-2000000097) ∧ Q1 .null u) := by
  refine metW_of (by decide) rfl rfl (fun v hv => by simp only [List.mem_cons, List.not_mem_nil, or_false] at hv; rcases hv with rfl | rfl | rfl | rfl | rfl | rfl <;> (intro z; cases z)) (Nat.le_of_ble_eq_true rfl) (fun p e s m args below meth c hC hr hlk ht => ?_)
  refine fs_aload_n hC dL_stroke_0 rfl ?_
  refine fs_iload_n hC dL_stroke_1 rfl ?_
  refine fs_iload_n hC dL_stroke_2 rfl ?_
  refine fs_iload_n hC dL_stroke_3 rfl ?_
  refine fs_iload hC dL_stroke_4 rfl ?_
  refine fs_iload hC dL_stroke_6 rfl ?_
  refine fs_cvx hE hX hl9 hC ⟨Nat.le_refl _, Nat.le_refl _⟩ (As := [.int w1, .int w2, .int w3, .int w4, .int w5]) dL_stroke_8 lnL_stroke rfl rfl (Nat.le_of_ble_eq_true rfl) (by omega) ha rfl k1 [] ⟨0, 11, 12, 50⟩ [⟨0, 11, 17, 40⟩] ht (fun z hz => by cases hz) (by decide) (by decide) clk_50 cast_50 (fun h1 hq H locs ls q hW hL => ?_)
  exact w_hdc hC dL_stroke_12 cst_52 dL_stroke_14 dL_stroke_16 (by decide) hr hlk (Nat.le_refl _) (Nat.le_refl _) hW hL ⟨rfl, hq⟩
theorem wx_stroke1 (hE : envOK Γ St) {adV : Nat → Nat} (hX : envX Γ St adV) (hl9 : l.stackTraces = false) (hLn : envL St) (hN : 1 ≤ NC) {fs : List Value} (ha : h 0 = .inr (5, fs)) {w1 w2 w3 w4 w5 : Int32} {Q1 : qt} (k1 : Ct NC "java/lang/IllegalArgumentException" M_X5_stroke [.ref 0, .int w1, .int w2, .int w3, .int w4, .int w5] h Q1) : MetW Γ l St NC M_L_stroke H_stroke [.ref 0, .int w1, .int w2, .int w3, .int w4, .int w5] h (fun r u => r = I (-2000000098) ∧ Q1 .null u) := by
  refine metW_of (by decide) rfl rfl (fun v hv => by simp only [List.mem_cons, List.not_mem_nil, or_false] at hv; rcases hv with rfl | rfl | rfl | rfl | rfl | rfl <;> (intro z; cases z)) (Nat.le_of_ble_eq_true rfl) (fun p e s m args below meth c hC hr hlk ht => ?_)
  refine fs_aload_n hC dL_stroke_0 rfl ?_
  refine fs_iload_n hC dL_stroke_1 rfl ?_
  refine fs_iload_n hC dL_stroke_2 rfl ?_
  refine fs_iload_n hC dL_stroke_3 rfl ?_
  refine fs_iload hC dL_stroke_4 rfl ?_
  refine fs_iload hC dL_stroke_6 rfl ?_
  refine fs_cvx hE hX hl9 hC ⟨Nat.le_refl _, Nat.le_refl _⟩ (As := [.int w1, .int w2, .int w3, .int w4, .int w5]) dL_stroke_8 lnL_stroke rfl rfl (Nat.le_of_ble_eq_true rfl) (by omega) ha rfl k1 [⟨0, 11, 12, 50⟩] ⟨0, 11, 17, 40⟩ [] ht (fun z hz => by cases List.mem_singleton.mp hz; exact ⟨by decide, _, clk_50, (hLn s hC.2.2.2.2.2.2.1).1⟩) (by decide) (by decide) clk_40 cast_40 (fun h1 hq H locs ls q hW hL => ?_)
  exact w_hdc hC dL_stroke_17 cst_42 dL_stroke_19 dL_stroke_21 (by decide) hr hlk (Nat.le_refl _) (Nat.le_refl _) hW hL ⟨rfl, hq⟩
theorem wr_stamp (hE : envOK Γ St) {adV : Nat → Nat} (hX : envX Γ St adV) (hl9 : l.stackTraces = false) (hN : 1 ≤ NC) {fs : List Value} (ha : h 0 = .inr (5, fs)) {w1 w2 w3 w4 : Int32} {Q1 : qt} (k1 : Cl NC M_X5_stamp [.ref 0, .int w1, .int w2, .int w3, .int w4] h Q1) : MetW Γ l St NC M_L_stamp H_stamp [.ref 0, .int w1, .int w2, .int w3, .int w4] h (fun r u => Q1 (.int r) u) := by
  refine metW_of (by decide) rfl rfl (fun v hv => by simp only [List.mem_cons, List.not_mem_nil, or_false] at hv; rcases hv with rfl | rfl | rfl | rfl | rfl <;> (intro z; cases z)) (Nat.le_of_ble_eq_true rfl) (fun p e s m args below meth c hC hr hlk ht => ?_)
  refine fs_aload_n hC dL_stamp_0 rfl ?_
  refine fs_iload_n hC dL_stamp_1 rfl ?_
  refine fs_iload_n hC dL_stamp_2 rfl ?_
  refine fs_iload_n hC dL_stamp_3 rfl ?_
  refine fs_iload hC dL_stamp_4 rfl ?_
  refine fs_cvi hE hX hl9 hC ⟨Nat.zero_le _, Nat.zero_le _⟩ (As := [.int w1, .int w2, .int w3, .int w4]) dL_stamp_6 lnL_stamp rfl rfl (Nat.le_of_ble_eq_true rfl) (by omega) ha rfl (Or.inl rfl) k1 (fun r h1 hq => ?_)
  exact fs_iretW hC dL_stamp_9 hr hlk (Nat.zero_le _) (Nat.zero_le _) hq
theorem wx_stamp0 (hE : envOK Γ St) {adV : Nat → Nat} (hX : envX Γ St adV) (hl9 : l.stackTraces = false) (hLn : envL St) (hN : 1 ≤ NC) {fs : List Value} (ha : h 0 = .inr (5, fs)) {w1 w2 w3 w4 : Int32} {Q1 : qt} (k1 : Ct NC "java/lang/IndexOutOfBoundsException" M_X5_stamp [.ref 0, .int w1, .int w2, .int w3, .int w4] h Q1) : MetW Γ l St NC M_L_stamp H_stamp [.ref 0, .int w1, .int w2, .int w3, .int w4] h (fun r u => r = I (-2000000097) ∧ Q1 .null u) := by
  refine metW_of (by decide) rfl rfl (fun v hv => by simp only [List.mem_cons, List.not_mem_nil, or_false] at hv; rcases hv with rfl | rfl | rfl | rfl | rfl <;> (intro z; cases z)) (Nat.le_of_ble_eq_true rfl) (fun p e s m args below meth c hC hr hlk ht => ?_)
  refine fs_aload_n hC dL_stamp_0 rfl ?_
  refine fs_iload_n hC dL_stamp_1 rfl ?_
  refine fs_iload_n hC dL_stamp_2 rfl ?_
  refine fs_iload_n hC dL_stamp_3 rfl ?_
  refine fs_iload hC dL_stamp_4 rfl ?_
  refine fs_cvx hE hX hl9 hC ⟨Nat.le_refl _, Nat.le_refl _⟩ (As := [.int w1, .int w2, .int w3, .int w4]) dL_stamp_6 lnL_stamp rfl rfl (Nat.le_of_ble_eq_true rfl) (by omega) ha rfl k1 [] ⟨0, 9, 10, 50⟩ [] ht (fun z hz => by cases hz) (by decide) (by decide) clk_50 cast_50 (fun h1 hq H locs ls q hW hL => ?_)
  exact w_hdc hC dL_stamp_10 cst_52 dL_stamp_12 dL_stamp_14 (by decide) hr hlk (Nat.le_refl _) (Nat.le_refl _) hW hL ⟨rfl, hq⟩
theorem wr_spar (hE : envOK Γ St) {adV : Nat → Nat} (hX : envX Γ St adV) (hl9 : l.stackTraces = false) (hN : 1 ≤ NC) {fs : List Value} (ha : h 0 = .inr (5, fs)) {w1 w2 w3 w4 : Int32} {Q1 : qt} (k1 : Cl NC M_X5_spar [.ref 0, .int w1, .int w2, .int w3, .int w4] h Q1) : MetW Γ l St NC M_L_spar H_spar [.ref 0, .int w1, .int w2, .int w3, .int w4] h (fun r u => Q1 (.int r) u) := by
  refine metW_of (by decide) rfl rfl (fun v hv => by simp only [List.mem_cons, List.not_mem_nil, or_false] at hv; rcases hv with rfl | rfl | rfl | rfl | rfl <;> (intro z; cases z)) (Nat.le_of_ble_eq_true rfl) (fun p e s m args below meth c hC hr hlk ht => ?_)
  refine fs_aload_n hC dL_spar_0 rfl ?_
  refine fs_iload_n hC dL_spar_1 rfl ?_
  refine fs_iload_n hC dL_spar_2 rfl ?_
  refine fs_iload_n hC dL_spar_3 rfl ?_
  refine fs_iload hC dL_spar_4 rfl ?_
  refine fs_cvi hE hX hl9 hC ⟨Nat.zero_le _, Nat.zero_le _⟩ (As := [.int w1, .int w2, .int w3, .int w4]) dL_spar_6 lnL_spar rfl rfl (Nat.le_of_ble_eq_true rfl) (by omega) ha rfl (Or.inl rfl) k1 (fun r h1 hq => ?_)
  exact fs_iretW hC dL_spar_9 hr hlk (Nat.zero_le _) (Nat.zero_le _) hq
theorem wx_spar0 (hE : envOK Γ St) {adV : Nat → Nat} (hX : envX Γ St adV) (hl9 : l.stackTraces = false) (hLn : envL St) (hN : 1 ≤ NC) {fs : List Value} (ha : h 0 = .inr (5, fs)) {w1 w2 w3 w4 : Int32} {Q1 : qt} (k1 : Ct NC "java/lang/IndexOutOfBoundsException" M_X5_spar [.ref 0, .int w1, .int w2, .int w3, .int w4] h Q1) : MetW Γ l St NC M_L_spar H_spar [.ref 0, .int w1, .int w2, .int w3, .int w4] h (fun r u => r = I (-2000000097) ∧ Q1 .null u) := by
  refine metW_of (by decide) rfl rfl (fun v hv => by simp only [List.mem_cons, List.not_mem_nil, or_false] at hv; rcases hv with rfl | rfl | rfl | rfl | rfl <;> (intro z; cases z)) (Nat.le_of_ble_eq_true rfl) (fun p e s m args below meth c hC hr hlk ht => ?_)
  refine fs_aload_n hC dL_spar_0 rfl ?_
  refine fs_iload_n hC dL_spar_1 rfl ?_
  refine fs_iload_n hC dL_spar_2 rfl ?_
  refine fs_iload_n hC dL_spar_3 rfl ?_
  refine fs_iload hC dL_spar_4 rfl ?_
  refine fs_cvx hE hX hl9 hC ⟨Nat.le_refl _, Nat.le_refl _⟩ (As := [.int w1, .int w2, .int w3, .int w4]) dL_spar_6 lnL_spar rfl rfl (Nat.le_of_ble_eq_true rfl) (by omega) ha rfl k1 [] ⟨0, 9, 10, 50⟩ [⟨0, 9, 15, 40⟩] ht (fun z hz => by cases hz) (by decide) (by decide) clk_50 cast_50 (fun h1 hq H locs ls q hW hL => ?_)
  exact w_hdc hC dL_spar_10 cst_52 dL_spar_12 dL_spar_14 (by decide) hr hlk (Nat.le_refl _) (Nat.le_refl _) hW hL ⟨rfl, hq⟩
theorem wx_spar1 (hE : envOK Γ St) {adV : Nat → Nat} (hX : envX Γ St adV) (hl9 : l.stackTraces = false) (hLn : envL St) (hN : 1 ≤ NC) {fs : List Value} (ha : h 0 = .inr (5, fs)) {w1 w2 w3 w4 : Int32} {Q1 : qt} (k1 : Ct NC "java/lang/IllegalArgumentException" M_X5_spar [.ref 0, .int w1, .int w2, .int w3, .int w4] h Q1) : MetW Γ l St NC M_L_spar H_spar [.ref 0, .int w1, .int w2, .int w3, .int w4] h (fun r u => r = I (-2000000098) ∧ Q1 .null u) := by
  refine metW_of (by decide) rfl rfl (fun v hv => by simp only [List.mem_cons, List.not_mem_nil, or_false] at hv; rcases hv with rfl | rfl | rfl | rfl | rfl <;> (intro z; cases z)) (Nat.le_of_ble_eq_true rfl) (fun p e s m args below meth c hC hr hlk ht => ?_)
  refine fs_aload_n hC dL_spar_0 rfl ?_
  refine fs_iload_n hC dL_spar_1 rfl ?_
  refine fs_iload_n hC dL_spar_2 rfl ?_
  refine fs_iload_n hC dL_spar_3 rfl ?_
  refine fs_iload hC dL_spar_4 rfl ?_
  refine fs_cvx hE hX hl9 hC ⟨Nat.le_refl _, Nat.le_refl _⟩ (As := [.int w1, .int w2, .int w3, .int w4]) dL_spar_6 lnL_spar rfl rfl (Nat.le_of_ble_eq_true rfl) (by omega) ha rfl k1 [⟨0, 9, 10, 50⟩] ⟨0, 9, 15, 40⟩ [] ht (fun z hz => by cases List.mem_singleton.mp hz; exact ⟨by decide, _, clk_50, (hLn s hC.2.2.2.2.2.2.1).1⟩) (by decide) (by decide) clk_40 cast_40 (fun h1 hq H locs ls q hW hL => ?_)
  exact w_hdc hC dL_spar_15 cst_42 dL_spar_17 dL_spar_19 (by decide) hr hlk (Nat.le_refl _) (Nat.le_refl _) hW hL ⟨rfl, hq⟩
theorem wr_strip (hE : envOK Γ St) {adV : Nat → Nat} (hX : envX Γ St adV) (hl9 : l.stackTraces = false) (hN : 1 ≤ NC) {fs : List Value} (ha : h 0 = .inr (5, fs)) {w1 w2 : Int32} {Q1 : qt} (k1 : Cl NC M_X5_strip [.ref 0, .int w1, .int w2] h Q1) : MetW Γ l St NC M_L_strip H_strip [.ref 0, .int w1, .int w2] h (fun r u => Q1 (.int r) u) := by
  refine metW_of (by decide) rfl rfl (fun v hv => by simp only [List.mem_cons, List.not_mem_nil, or_false] at hv; rcases hv with rfl | rfl | rfl <;> (intro z; cases z)) (Nat.le_of_ble_eq_true rfl) (fun p e s m args below meth c hC hr hlk ht => ?_)
  refine fs_aload_n hC dL_strip_0 rfl ?_
  refine fs_iload_n hC dL_strip_1 rfl ?_
  refine fs_iload_n hC dL_strip_2 rfl ?_
  refine fs_cvi hE hX hl9 hC ⟨Nat.zero_le _, Nat.zero_le _⟩ (As := [.int w1, .int w2]) dL_strip_3 lnL_strip rfl rfl (Nat.le_of_ble_eq_true rfl) (by omega) ha rfl (Or.inl rfl) k1 (fun r h1 hq => ?_)
  exact fs_iretW hC dL_strip_6 hr hlk (Nat.zero_le _) (Nat.zero_le _) hq
theorem wx_strip0 (hE : envOK Γ St) {adV : Nat → Nat} (hX : envX Γ St adV) (hl9 : l.stackTraces = false) (hLn : envL St) (hN : 1 ≤ NC) {fs : List Value} (ha : h 0 = .inr (5, fs)) {w1 w2 : Int32} {Q1 : qt} (k1 : Ct NC "java/lang/IndexOutOfBoundsException" M_X5_strip [.ref 0, .int w1, .int w2] h Q1) : MetW Γ l St NC M_L_strip H_strip [.ref 0, .int w1, .int w2] h (fun r u => r = I (-2000000097) ∧ Q1 .null u) := by
  refine metW_of (by decide) rfl rfl (fun v hv => by simp only [List.mem_cons, List.not_mem_nil, or_false] at hv; rcases hv with rfl | rfl | rfl <;> (intro z; cases z)) (Nat.le_of_ble_eq_true rfl) (fun p e s m args below meth c hC hr hlk ht => ?_)
  refine fs_aload_n hC dL_strip_0 rfl ?_
  refine fs_iload_n hC dL_strip_1 rfl ?_
  refine fs_iload_n hC dL_strip_2 rfl ?_
  refine fs_cvx hE hX hl9 hC ⟨Nat.le_refl _, Nat.le_refl _⟩ (As := [.int w1, .int w2]) dL_strip_3 lnL_strip rfl rfl (Nat.le_of_ble_eq_true rfl) (by omega) ha rfl k1 [] ⟨0, 6, 7, 50⟩ [⟨0, 6, 11, 99⟩] ht (fun z hz => by cases hz) (by decide) (by decide) clk_50 cast_50 (fun h1 hq H locs ls q hW hL => ?_)
  exact w_hdc_n hC dL_strip_7 cst_52 dL_strip_8 dL_strip_10 (by decide) hr hlk (Nat.le_refl _) (Nat.le_refl _) hW hL ⟨rfl, hq⟩
theorem wx_strip1 (hE : envOK Γ St) {adV : Nat → Nat} (hX : envX Γ St adV) (hl9 : l.stackTraces = false) (hLn : envL St) (hN : 1 ≤ NC) {fs : List Value} (ha : h 0 = .inr (5, fs)) {w1 w2 : Int32} {Q1 : qt} (k1 : Ct NC "java/lang/IllegalStateException" M_X5_strip [.ref 0, .int w1, .int w2] h Q1) : MetW Γ l St NC M_L_strip H_strip [.ref 0, .int w1, .int w2] h (fun r u => r = I (-2000000099) ∧ Q1 .null u) := by
  refine metW_of (by decide) rfl rfl (fun v hv => by simp only [List.mem_cons, List.not_mem_nil, or_false] at hv; rcases hv with rfl | rfl | rfl <;> (intro z; cases z)) (Nat.le_of_ble_eq_true rfl) (fun p e s m args below meth c hC hr hlk ht => ?_)
  refine fs_aload_n hC dL_strip_0 rfl ?_
  refine fs_iload_n hC dL_strip_1 rfl ?_
  refine fs_iload_n hC dL_strip_2 rfl ?_
  refine fs_cvx hE hX hl9 hC ⟨Nat.le_refl _, Nat.le_refl _⟩ (As := [.int w1, .int w2]) dL_strip_3 lnL_strip rfl rfl (Nat.le_of_ble_eq_true rfl) (by omega) ha rfl k1 [⟨0, 6, 7, 50⟩] ⟨0, 6, 11, 99⟩ [] ht (fun z hz => by cases List.mem_singleton.mp hz; exact ⟨by decide, _, clk_50, (hLn s hC.2.2.2.2.2.2.1).2⟩) (by decide) (by decide) clk_99 cast_99 (fun h1 hq H locs ls q hW hL => ?_)
  exact w_hdc_n hC dL_strip_11 cst_101 dL_strip_12 dL_strip_14 (by decide) hr hlk (Nat.le_refl _) (Nat.le_refl _) hW hL ⟨rfl, hq⟩
theorem wr_wash (hE : envOK Γ St) {adV : Nat → Nat} (hX : envX Γ St adV) (hl9 : l.stackTraces = false) (hN : 1 ≤ NC) {fs : List Value} (ha : h 0 = .inr (5, fs)) {w1 w2 : Int32} {Q1 : qt} (k1 : Cl NC M_X5_wash [.ref 0, .int w1, .int w2] h Q1) : MetW Γ l St NC M_L_wash H_wash [.ref 0, .int w1, .int w2] h (fun r u => Q1 (.int r) u) := by
  refine metW_of (by decide) rfl rfl (fun v hv => by simp only [List.mem_cons, List.not_mem_nil, or_false] at hv; rcases hv with rfl | rfl | rfl <;> (intro z; cases z)) (Nat.le_of_ble_eq_true rfl) (fun p e s m args below meth c hC hr hlk ht => ?_)
  refine fs_aload_n hC dL_wash_0 rfl ?_
  refine fs_iload_n hC dL_wash_1 rfl ?_
  refine fs_iload_n hC dL_wash_2 rfl ?_
  refine fs_cvi hE hX hl9 hC ⟨Nat.zero_le _, Nat.zero_le _⟩ (As := [.int w1, .int w2]) dL_wash_3 lnL_wash rfl rfl (Nat.le_of_ble_eq_true rfl) (by omega) ha rfl (Or.inl rfl) k1 (fun r h1 hq => ?_)
  exact fs_iretW hC dL_wash_6 hr hlk (Nat.zero_le _) (Nat.zero_le _) hq
theorem wx_wash0 (hE : envOK Γ St) {adV : Nat → Nat} (hX : envX Γ St adV) (hl9 : l.stackTraces = false) (hLn : envL St) (hN : 1 ≤ NC) {fs : List Value} (ha : h 0 = .inr (5, fs)) {w1 w2 : Int32} {Q1 : qt} (k1 : Ct NC "java/lang/IndexOutOfBoundsException" M_X5_wash [.ref 0, .int w1, .int w2] h Q1) : MetW Γ l St NC M_L_wash H_wash [.ref 0, .int w1, .int w2] h (fun r u => r = I (-2000000097) ∧ Q1 .null u) := by
  refine metW_of (by decide) rfl rfl (fun v hv => by simp only [List.mem_cons, List.not_mem_nil, or_false] at hv; rcases hv with rfl | rfl | rfl <;> (intro z; cases z)) (Nat.le_of_ble_eq_true rfl) (fun p e s m args below meth c hC hr hlk ht => ?_)
  refine fs_aload_n hC dL_wash_0 rfl ?_
  refine fs_iload_n hC dL_wash_1 rfl ?_
  refine fs_iload_n hC dL_wash_2 rfl ?_
  refine fs_cvx hE hX hl9 hC ⟨Nat.le_refl _, Nat.le_refl _⟩ (As := [.int w1, .int w2]) dL_wash_3 lnL_wash rfl rfl (Nat.le_of_ble_eq_true rfl) (by omega) ha rfl k1 [] ⟨0, 6, 7, 50⟩ [⟨0, 6, 11, 99⟩] ht (fun z hz => by cases hz) (by decide) (by decide) clk_50 cast_50 (fun h1 hq H locs ls q hW hL => ?_)
  exact w_hdc_n hC dL_wash_7 cst_52 dL_wash_8 dL_wash_10 (by decide) hr hlk (Nat.le_refl _) (Nat.le_refl _) hW hL ⟨rfl, hq⟩
theorem wx_wash1 (hE : envOK Γ St) {adV : Nat → Nat} (hX : envX Γ St adV) (hl9 : l.stackTraces = false) (hLn : envL St) (hN : 1 ≤ NC) {fs : List Value} (ha : h 0 = .inr (5, fs)) {w1 w2 : Int32} {Q1 : qt} (k1 : Ct NC "java/lang/IllegalStateException" M_X5_wash [.ref 0, .int w1, .int w2] h Q1) : MetW Γ l St NC M_L_wash H_wash [.ref 0, .int w1, .int w2] h (fun r u => r = I (-2000000099) ∧ Q1 .null u) := by
  refine metW_of (by decide) rfl rfl (fun v hv => by simp only [List.mem_cons, List.not_mem_nil, or_false] at hv; rcases hv with rfl | rfl | rfl <;> (intro z; cases z)) (Nat.le_of_ble_eq_true rfl) (fun p e s m args below meth c hC hr hlk ht => ?_)
  refine fs_aload_n hC dL_wash_0 rfl ?_
  refine fs_iload_n hC dL_wash_1 rfl ?_
  refine fs_iload_n hC dL_wash_2 rfl ?_
  refine fs_cvx hE hX hl9 hC ⟨Nat.le_refl _, Nat.le_refl _⟩ (As := [.int w1, .int w2]) dL_wash_3 lnL_wash rfl rfl (Nat.le_of_ble_eq_true rfl) (by omega) ha rfl k1 [⟨0, 6, 7, 50⟩] ⟨0, 6, 11, 99⟩ [] ht (fun z hz => by cases List.mem_singleton.mp hz; exact ⟨by decide, _, clk_50, (hLn s hC.2.2.2.2.2.2.1).2⟩) (by decide) (by decide) clk_99 cast_99 (fun h1 hq H locs ls q hW hL => ?_)
  exact w_hdc_n hC dL_wash_11 cst_101 dL_wash_12 dL_wash_14 (by decide) hr hlk (Nat.le_refl _) (Nat.le_refl _) hW hL ⟨rfl, hq⟩
end WS
