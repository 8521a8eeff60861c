/-! the law's eighteen wrappers -/
theorem cast_13 : Cond.castable "java/lang/IllegalArgumentException" "java/lang/IllegalArgumentException" ∈ fT := fT_mem 444 (by decide +kernel) (by decide +kernel)
theorem cast_22 : Cond.castable "java/lang/IndexOutOfBoundsException" "java/lang/IndexOutOfBoundsException" ∈ fT := fT_mem 525 (by decide +kernel) (by decide +kernel)
theorem cast_71 : Cond.castable "java/lang/IllegalStateException" "java/lang/IllegalStateException" ∈ fT := fT_mem 926 (by decide +kernel) (by decide +kernel)
theorem clk_13 : Cond.classLink "KitePainterLaw" 13 "java/lang/IllegalArgumentException" ∈ gT := gT_mem 546 (by decide +kernel) (by decide +kernel)
theorem clk_22 : Cond.classLink "KitePainterLaw" 22 "java/lang/IndexOutOfBoundsException" ∈ gT := gT_mem 725 (by decide +kernel) (by decide +kernel)
theorem clk_71 : Cond.classLink "KitePainterLaw" 71 "java/lang/IllegalStateException" ∈ gT := gT_mem 919 (by decide +kernel) (by decide +kernel)
abbrev M_law : mt := (yL_law, cL_law, 9, some .boolean, 14, 536)
theorem ini_law : Cond.initialized "KitePainterLaw" ∈ gT := gT_mem 75 (by decide +kernel) (by decide +kernel)
abbrev H_load : List (Nat × Nat × Nat × Nat) := [(0, 9, 12, 13)]
abbrev M_L_load : mt := (yL_load, cL_load, 4, some .int, 11, 248)
theorem lnL_load : lnV M_L_load 7 M_X5_load 1 := ⟨⟨gT_mem 547 (by decide +kernel) (by decide +kernel), mi_X5_load.1, mi_X5_load.2.1, ⟨by decide +kernel, by decide +kernel, by decide +kernel⟩, mi_X5_load.2.2, by decide, by decide⟩, mv_X5_load.1, mv_X5_load.2, by decide⟩
theorem lnW_load : lnW M_law 84 M_L_load H_load 3 := ⟨gT_mem 543 (by decide +kernel) (by decide +kernel), ini_law, gT_mem 545 (by decide +kernel) (by decide +kernel), gT_mem 544 (by decide +kernel) (by decide +kernel), ⟨by decide +kernel, by decide +kernel, by decide +kernel⟩, by decide, by decide⟩
abbrev H_state : List (Nat × Nat × Nat × Nat) := [(0, 9, 12, 13)]
abbrev M_L_state : mt := (yL_state, cL_state, 4, some .int, 9, 156)
theorem lnL_state : lnV M_L_state 15 M_X5_state 1 := ⟨⟨gT_mem 721 (by decide +kernel) (by decide +kernel), mi_X5_state.1, mi_X5_state.2.1, ⟨by decide +kernel, by decide +kernel, by decide +kernel⟩, mi_X5_state.2.2, by decide, by decide⟩, mv_X5_state.1, mv_X5_state.2, by decide⟩
theorem lnW_state : lnW M_law 98 M_L_state H_state 3 := ⟨gT_mem 718 (by decide +kernel) (by decide +kernel), ini_law, gT_mem 720 (by decide +kernel) (by decide +kernel), gT_mem 719 (by decide +kernel) (by decide +kernel), ⟨by decide +kernel, by decide +kernel, by decide +kernel⟩, by decide, by decide⟩
abbrev H_cell : List (Nat × Nat × Nat × Nat) := [(0, 12, 15, 22), (0, 12, 19, 13)]
abbrev M_L_cell : mt := (yL_cell, cL_cell, 6, some .int, 10, 166)
theorem lnL_cell : lnV M_L_cell 18 M_X5_cell 3 := ⟨⟨gT_mem 726 (by decide +kernel) (by decide +kernel), mi_X5_cell.1, mi_X5_cell.2.1, ⟨by decide +kernel, by decide +kernel, by decide +kernel⟩, mi_X5_cell.2.2, by decide, by decide⟩, mv_X5_cell.1, mv_X5_cell.2, by decide⟩
theorem lnW_cell : lnW M_law 101 M_L_cell H_cell 5 := ⟨gT_mem 722 (by decide +kernel) (by decide +kernel), ini_law, gT_mem 724 (by decide +kernel) (by decide +kernel), gT_mem 723 (by decide +kernel) (by decide +kernel), ⟨by decide +kernel, by decide +kernel, by decide +kernel⟩, by decide, by decide⟩
abbrev H_mix : List (Nat × Nat × Nat × Nat) := [(0, 10, 13, 13)]
abbrev M_L_mix : mt := (yL_mix, cL_mix, 5, some .int, 10, 164)
theorem lnL_mix : lnV M_L_mix 24 M_X5_mix 2 := ⟨⟨gT_mem 730 (by decide +kernel) (by decide +kernel), mi_X5_mix.1, mi_X5_mix.2.1, ⟨by decide +kernel, by decide +kernel, by decide +kernel⟩, mi_X5_mix.2.2, by decide, by decide⟩, mv_X5_mix.1, mv_X5_mix.2, by decide⟩
theorem lnW_mix : lnW M_law 105 M_L_mix H_mix 4 := ⟨gT_mem 727 (by decide +kernel) (by decide +kernel), ini_law, gT_mem 729 (by decide +kernel) (by decide +kernel), gT_mem 728 (by decide +kernel) (by decide +kernel), ⟨by decide +kernel, by decide +kernel, by decide +kernel⟩, by decide, by decide⟩
abbrev H_count : List (Nat × Nat × Nat × Nat) := [(0, 9, 12, 13)]
abbrev M_L_count : mt := (yL_count, cL_count, 4, some .int, 10, 163)
theorem lnL_count : lnV M_L_count 28 M_X5_count 1 := ⟨⟨gT_mem 742 (by decide +kernel) (by decide +kernel), mi_X5_count.1, mi_X5_count.2.1, ⟨by decide +kernel, by decide +kernel, by decide +kernel⟩, mi_X5_count.2.2, by decide, by decide⟩, mv_X5_count.1, mv_X5_count.2, by decide⟩
theorem lnW_count : lnW M_law 109 M_L_count H_count 3 := ⟨gT_mem 739 (by decide +kernel) (by decide +kernel), ini_law, gT_mem 741 (by decide +kernel) (by decide +kernel), gT_mem 740 (by decide +kernel) (by decide +kernel), ⟨by decide +kernel, by decide +kernel, by decide +kernel⟩, by decide, by decide⟩
abbrev H_region : List (Nat × Nat × Nat × Nat) := [(0, 10, 13, 22)]
abbrev M_L_region : mt := (yL_region, cL_region, 5, some .int, 10, 164)
theorem lnL_region : lnV M_L_region 31 M_X5_region 2 := ⟨⟨gT_mem 749 (by decide +kernel) (by decide +kernel), mi_X5_region.1, mi_X5_region.2.1, ⟨by decide +kernel, by decide +kernel, by decide +kernel⟩, mi_X5_region.2.2, by decide, by decide⟩, mv_X5_region.1, mv_X5_region.2, by decide⟩
theorem lnW_region : lnW M_law 116 M_L_region H_region 4 := ⟨gT_mem 746 (by decide +kernel) (by decide +kernel), ini_law, gT_mem 748 (by decide +kernel) (by decide +kernel), gT_mem 747 (by decide +kernel) (by decide +kernel), ⟨by decide +kernel, by decide +kernel, by decide +kernel⟩, by decide, by decide⟩
abbrev H_regions : List (Nat × Nat × Nat × Nat) := [(0, 9, 12, 13)]
abbrev M_L_regions : mt := (yL_regions, cL_regions, 4, some .int, 10, 163)
theorem lnL_regions : lnV M_L_regions 34 M_X5_regions 1 := ⟨⟨gT_mem 775 (by decide +kernel) (by decide +kernel), mi_X5_regions.1, mi_X5_regions.2.1, ⟨by decide +kernel, by decide +kernel, by decide +kernel⟩, mi_X5_regions.2.2, by decide, by decide⟩, mv_X5_regions.1, mv_X5_regions.2, by decide⟩
theorem lnW_regions : lnW M_law 119 M_L_regions H_regions 3 := ⟨gT_mem 772 (by decide +kernel) (by decide +kernel), ini_law, gT_mem 774 (by decide +kernel) (by decide +kernel), gT_mem 773 (by decide +kernel) (by decide +kernel), ⟨by decide +kernel, by decide +kernel, by decide +kernel⟩, by decide, by decide⟩
abbrev H_bleeds : List (Nat × Nat × Nat × Nat) := [(0, 10, 13, 22)]
abbrev M_L_bleeds : mt := (yL_bleeds, cL_bleeds, 5, some .int, 10, 164)
theorem lnL_bleeds : lnV M_L_bleeds 37 M_X5_bleeds 2 := ⟨⟨gT_mem 788 (by decide +kernel) (by decide +kernel), mi_X5_bleeds.1, mi_X5_bleeds.2.1, ⟨by decide +kernel, by decide +kernel, by decide +kernel⟩, mi_X5_bleeds.2.2, by decide, by decide⟩, mv_X5_bleeds.1, mv_X5_bleeds.2, by decide⟩
theorem lnW_bleeds : lnW M_law 122 M_L_bleeds H_bleeds 4 := ⟨gT_mem 785 (by decide +kernel) (by decide +kernel), ini_law, gT_mem 787 (by decide +kernel) (by decide +kernel), gT_mem 786 (by decide +kernel) (by decide +kernel), ⟨by decide +kernel, by decide +kernel, by decide +kernel⟩, by decide, by decide⟩
abbrev H_foretold : List (Nat × Nat × Nat × Nat) := [(0, 10, 13, 13)]
abbrev M_L_foretold : mt := (yL_foretold, cL_foretold, 5, some .int, 10, 170)
theorem lnL_foretold : lnV M_L_foretold 40 M_X5_foretold 2 := ⟨⟨gT_mem 806 (by decide +kernel) (by decide +kernel), mi_X5_foretold.1, mi_X5_foretold.2.1, ⟨by decide +kernel, by decide +kernel, by decide +kernel⟩, mi_X5_foretold.2.2, by decide, by decide⟩, mv_X5_foretold.1, mv_X5_foretold.2, by decide⟩
theorem lnW_foretold : lnW M_law 129 M_L_foretold H_foretold 4 := ⟨gT_mem 803 (by decide +kernel) (by decide +kernel), ini_law, gT_mem 805 (by decide +kernel) (by decide +kernel), gT_mem 804 (by decide +kernel) (by decide +kernel), ⟨by decide +kernel, by decide +kernel, by decide +kernel⟩, by decide, by decide⟩
abbrev H_evens : List (Nat × Nat × Nat × Nat) := [(0, 9, 12, 13)]
abbrev M_L_evens : mt := (yL_evens, cL_evens, 4, some .int, 10, 171)
theorem lnL_evens : lnV M_L_evens 43 M_X5_evens 1 := ⟨⟨gT_mem 835 (by decide +kernel) (by decide +kernel), mi_X5_evens.1, mi_X5_evens.2.1, ⟨by decide +kernel, by decide +kernel, by decide +kernel⟩, mi_X5_evens.2.2, by decide, by decide⟩, mv_X5_evens.1, mv_X5_evens.2, by decide⟩
theorem lnW_evens : lnW M_law 132 M_L_evens H_evens 3 := ⟨gT_mem 832 (by decide +kernel) (by decide +kernel), ini_law, gT_mem 834 (by decide +kernel) (by decide +kernel), gT_mem 833 (by decide +kernel) (by decide +kernel), ⟨by decide +kernel, by decide +kernel, by decide +kernel⟩, by decide, by decide⟩
abbrev H_pattern : List (Nat × Nat × Nat × Nat) := [(0, 10, 13, 22), (0, 10, 17, 13)]
abbrev M_L_pattern : mt := (yL_pattern, cL_pattern, 5, some .int, 10, 163)
theorem lnL_pattern : lnV M_L_pattern 46 M_X5_pattern 2 := ⟨⟨gT_mem 846 (by decide +kernel) (by decide +kernel), mi_X5_pattern.1, mi_X5_pattern.2.1, ⟨by decide +kernel, by decide +kernel, by decide +kernel⟩, mi_X5_pattern.2.2, by decide, by decide⟩, mv_X5_pattern.1, mv_X5_pattern.2, by decide⟩
theorem lnW_pattern : lnW M_law 135 M_L_pattern H_pattern 4 := ⟨gT_mem 843 (by decide +kernel) (by decide +kernel), ini_law, gT_mem 845 (by decide +kernel) (by decide +kernel), gT_mem 844 (by decide +kernel) (by decide +kernel), ⟨by decide +kernel, by decide +kernel, by decide +kernel⟩, by decide, by decide⟩
abbrev H_pass : List (Nat × Nat × Nat × Nat) := [(0, 9, 12, 13)]
abbrev M_L_pass : mt := (yL_pass, cL_pass, 4, some .int, 10, 168)
theorem lnL_pass : lnV M_L_pass 49 M_X5_pass 1 := ⟨⟨gT_mem 867 (by decide +kernel) (by decide +kernel), mi_X5_pass.1, mi_X5_pass.2.1, ⟨by decide +kernel, by decide +kernel, by decide +kernel⟩, mi_X5_pass.2.2, by decide, by decide⟩, mv_X5_pass.1, mv_X5_pass.2, by decide⟩
theorem lnW_pass : lnW M_law 143 M_L_pass H_pass 3 := ⟨gT_mem 864 (by decide +kernel) (by decide +kernel), ini_law, gT_mem 866 (by decide +kernel) (by decide +kernel), gT_mem 865 (by decide +kernel) (by decide +kernel), ⟨by decide +kernel, by decide +kernel, by decide +kernel⟩, by decide, by decide⟩
abbrev H_paint : List (Nat × Nat × Nat × Nat) := [(0, 16, 19, 22), (0, 16, 23, 13)]
abbrev M_L_paint : mt := (yL_paint, cL_paint, 8, some .int, 10, 167)
theorem lnL_paint : lnV M_L_paint 52 M_X5_paint 5 := ⟨⟨gT_mem 874 (by decide +kernel) (by decide +kernel), mi_X5_paint.1, mi_X5_paint.2.1, ⟨by decide +kernel, by decide +kernel, by decide +kernel⟩, mi_X5_paint.2.2, by decide, by decide⟩, mv_X5_paint.1, mv_X5_paint.2, by decide⟩
theorem lnW_paint : lnW M_law 146 M_L_paint H_paint 7 := ⟨gT_mem 871 (by decide +kernel) (by decide +kernel), ini_law, gT_mem 873 (by decide +kernel) (by decide +kernel), gT_mem 872 (by decide +kernel) (by decide +kernel), ⟨by decide +kernel, by decide +kernel, by decide +kernel⟩, by decide, by decide⟩
abbrev H_stroke : List (Nat × Nat × Nat × Nat) := [(0, 16, 19, 22), (0, 16, 23, 13)]
abbrev M_L_stroke : mt := (yL_stroke, cL_stroke, 8, some .int, 10, 170)
theorem lnL_stroke : lnV M_L_stroke 56 M_X5_stroke 5 := ⟨⟨gT_mem 889 (by decide +kernel) (by decide +kernel), mi_X5_stroke.1, mi_X5_stroke.2.1, ⟨by decide +kernel, by decide +kernel, by decide +kernel⟩, mi_X5_stroke.2.2, by decide, by decide⟩, mv_X5_stroke.1, mv_X5_stroke.2, by decide⟩
theorem lnW_stroke : lnW M_law 150 M_L_stroke H_stroke 7 := ⟨gT_mem 886 (by decide +kernel) (by decide +kernel), ini_law, gT_mem 888 (by decide +kernel) (by decide +kernel), gT_mem 887 (by decide +kernel) (by decide +kernel), ⟨by decide +kernel, by decide +kernel, by decide +kernel⟩, by decide, by decide⟩
abbrev H_stamp : List (Nat × Nat × Nat × Nat) := [(0, 14, 17, 22)]
abbrev M_L_stamp : mt := (yL_stamp, cL_stamp, 7, some .int, 10, 169)
theorem lnL_stamp : lnV M_L_stamp 60 M_X5_stamp 4 := ⟨⟨gT_mem 900 (by decide +kernel) (by decide +kernel), mi_X5_stamp.1, mi_X5_stamp.2.1, ⟨by decide +kernel, by decide +kernel, by decide +kernel⟩, mi_X5_stamp.2.2, by decide, by decide⟩, mv_X5_stamp.1, mv_X5_stamp.2, by decide⟩
theorem lnW_stamp : lnW M_law 154 M_L_stamp H_stamp 6 := ⟨gT_mem 897 (by decide +kernel) (by decide +kernel), ini_law, gT_mem 899 (by decide +kernel) (by decide +kernel), gT_mem 898 (by decide +kernel) (by decide +kernel), ⟨by decide +kernel, by decide +kernel, by decide +kernel⟩, by decide, by decide⟩
abbrev H_spar : List (Nat × Nat × Nat × Nat) := [(0, 14, 17, 22), (0, 14, 21, 13)]
abbrev M_L_spar : mt := (yL_spar, cL_spar, 7, some .int, 10, 170)
theorem lnL_spar : lnV M_L_spar 64 M_X5_spar 4 := ⟨⟨gT_mem 912 (by decide +kernel) (by decide +kernel), mi_X5_spar.1, mi_X5_spar.2.1, ⟨by decide +kernel, by decide +kernel, by decide +kernel⟩, mi_X5_spar.2.2, by decide, by decide⟩, mv_X5_spar.1, mv_X5_spar.2, by decide⟩
theorem lnW_spar : lnW M_law 158 M_L_spar H_spar 6 := ⟨gT_mem 909 (by decide +kernel) (by decide +kernel), ini_law, gT_mem 911 (by decide +kernel) (by decide +kernel), gT_mem 910 (by decide +kernel) (by decide +kernel), ⟨by decide +kernel, by decide +kernel, by decide +kernel⟩, by decide, by decide⟩
abbrev H_strip : List (Nat × Nat × Nat × Nat) := [(0, 10, 13, 22), (0, 10, 17, 71)]
abbrev M_L_strip : mt := (yL_strip, cL_strip, 5, some .int, 10, 165)
theorem lnL_strip : lnV M_L_strip 68 M_X5_strip 2 := ⟨⟨gT_mem 920 (by decide +kernel) (by decide +kernel), mi_X5_strip.1, mi_X5_strip.2.1, ⟨by decide +kernel, by decide +kernel, by decide +kernel⟩, mi_X5_strip.2.2, by decide, by decide⟩, mv_X5_strip.1, mv_X5_strip.2, by decide⟩
theorem lnW_strip : lnW M_law 162 M_L_strip H_strip 4 := ⟨gT_mem 916 (by decide +kernel) (by decide +kernel), ini_law, gT_mem 918 (by decide +kernel) (by decide +kernel), gT_mem 917 (by decide +kernel) (by decide +kernel), ⟨by decide +kernel, by decide +kernel, by decide +kernel⟩, by decide, by decide⟩
abbrev H_wash : List (Nat × Nat × Nat × Nat) := [(0, 10, 13, 22), (0, 10, 17, 71)]
abbrev M_L_wash : mt := (yL_wash, cL_wash, 5, some .int, 10, 165)
theorem lnL_wash : lnV M_L_wash 73 M_X5_wash 2 := ⟨⟨gT_mem 943 (by decide +kernel) (by decide +kernel), mi_X5_wash.1, mi_X5_wash.2.1, ⟨by decide +kernel, by decide +kernel, by decide +kernel⟩, mi_X5_wash.2.2, by decide, by decide⟩, mv_X5_wash.1, mv_X5_wash.2, by decide⟩
theorem lnW_wash : lnW M_law 165 M_L_wash H_wash 4 := ⟨gT_mem 940 (by decide +kernel) (by decide +kernel), ini_law, gT_mem 942 (by decide +kernel) (by decide +kernel), gT_mem 941 (by decide +kernel) (by decide +kernel), ⟨by decide +kernel, by decide +kernel, by decide +kernel⟩, by decide, by decide⟩
section WS
variable {Γ : en} {l : Launch} {St : State → Prop} {NC : Nat} {h : hp}
theorem wr_load (hE : envOK Γ St) {adV : Nat → Nat} (hX : envX Γ St adV) (hl9 : l.stackTraces = false) (hN : 132 ≤ NC) {fs : List Value} (ha : h 0 = .inr (5, fs)) {w1 : Int32} {Q1 : qt} (k1 : Cl NC M_X5_load [.ref 0, .int w1] h Q1) (ho : ∀ v h1, Q1 v h1 → ∃ f, h1 131 = .inl (5, 1, .inr (.inl f))) : MetW Γ l St NC M_L_load H_load [.ref 0, .int w1, .ref 131] h (fun r u => r = I 0 ∧ ∃ v h1 f, Q1 (.int v) h1 ∧ u = va_up h1 131 (.inl (5, 1, .inr (.inl f))) ∧ f 0 = v.toInt64) := by
  refine metW_of (by decide) rfl rfl (fun v hv => by simp only [List.mem_cons, List.not_mem_nil, or_false] at hv; rcases hv with rfl | rfl | rfl <;> (intro z; cases z)) (Nat.le_of_ble_eq_true rfl) (fun p e s m args below meth c hC hr hlk ht => ?_)
  refine fs_aload_n hC dL_load_0 rfl ?_
  refine fs_iconst hC dL_load_1 ?_
  refine fs_aload_n hC dL_load_2 rfl ?_
  refine fs_iload_n hC dL_load_3 rfl ?_
  refine fs_cvi hE hX hl9 hC ⟨Nat.zero_le _, Nat.zero_le _⟩ (As := [.int w1]) dL_load_4 lnL_load rfl rfl (Nat.le_of_ble_eq_true rfl) (by omega) ha rfl (Or.inl rfl) k1 (fun r h1 hq => ?_)
  obtain ⟨f, hf⟩ := ho _ _ hq
  refine fs_i2l hC dL_load_7 ?_
  refine fs_last hC dL_load_8 (by omega) hf (fun f1 hf1 => ?_)
  refine fs_goto hC (tgt := 15) dL_load_9 (by decide) ?_
  refine fs_iconst hC dL_load_15 ?_
  exact fs_iretW hC dL_load_16 hr hlk (Nat.zero_le _) (Nat.zero_le _) ⟨rfl, r, h1, f1, hq, rfl, hf1⟩
theorem wx_load1 (hE : envOK Γ St) {adV : Nat → Nat} (hX : envX Γ St adV) (hl9 : l.stackTraces = false) (hLn : envL St) (hN : 132 ≤ NC) {fs : List Value} (ha : h 0 = .inr (5, fs)) {w1 : Int32} {Q1 : qt} (k1 : Ct NC "java/lang/IllegalArgumentException" M_X5_load [.ref 0, .int w1] h Q1) : MetW Γ l St NC M_L_load H_load [.ref 0, .int w1, .ref 131] h (fun r u => r = I 1 ∧ Q1 .null u) := by
  refine metW_of (by decide) rfl rfl (fun v hv => by simp only [List.mem_cons, List.not_mem_nil, or_false] at hv; rcases hv with rfl | rfl | rfl <;> (intro z; cases z)) (Nat.le_of_ble_eq_true rfl) (fun p e s m args below meth c hC hr hlk ht => ?_)
  refine fs_aload_n hC dL_load_0 rfl ?_
  refine fs_iconst hC dL_load_1 ?_
  refine fs_aload_n hC dL_load_2 rfl ?_
  refine fs_iload_n hC dL_load_3 rfl ?_
  refine fs_cvx hE hX hl9 hC ⟨Nat.le_refl _, Nat.le_refl _⟩ (As := [.int w1]) dL_load_4 lnL_load rfl rfl (Nat.le_of_ble_eq_true rfl) (by omega) ha rfl k1 [] ⟨0, 9, 12, 13⟩ [] ht (fun z hz => by cases hz) (by decide) (by decide) clk_13 cast_13 (fun h1 hq H locs ls q hW hL => ?_)
  exact w_hand_n hC dL_load_12 dL_load_13 dL_load_14 (by decide) hr hlk (Nat.le_refl _) (Nat.le_refl _) hW hL ⟨rfl, hq⟩
theorem wr_state (hE : envOK Γ St) {adV : Nat → Nat} (hX : envX Γ St adV) (hl9 : l.stackTraces = false) (hN : 132 ≤ NC) {fs : List Value} (ha : h 0 = .inr (5, fs)) {w1 : Int32} {Q1 : qt} (k1 : Cl NC M_X5_state [.ref 0, .int w1] h Q1) (ho : ∀ v h1, Q1 v h1 → ∃ f, h1 131 = .inl (5, 1, .inr (.inl f))) : MetW Γ l St NC M_L_state H_state [.ref 0, .int w1, .ref 131] h (fun r u => r = I 0 ∧ ∃ v h1 f, Q1 (.int v) h1 ∧ u = va_up h1 131 (.inl (5, 1, .inr (.inl f))) ∧ f 0 = v.toInt64) := by
  refine metW_of (by decide) rfl rfl (fun v hv => by simp only [List.mem_cons, List.not_mem_nil, or_false] at hv; rcases hv with rfl | rfl | rfl <;> (intro z; cases z)) (Nat.le_of_ble_eq_true rfl) (fun p e s m args below meth c hC hr hlk ht => ?_)
  refine fs_aload_n hC dL_state_0 rfl ?_
  refine fs_iconst hC dL_state_1 ?_
  refine fs_aload_n hC dL_state_2 rfl ?_
  refine fs_iload_n hC dL_state_3 rfl ?_
  refine fs_cvi hE hX hl9 hC ⟨Nat.zero_le _, Nat.zero_le _⟩ (As := [.int w1]) dL_state_4 lnL_state rfl rfl (Nat.le_of_ble_eq_true rfl) (by omega) ha rfl (Or.inl rfl) k1 (fun r h1 hq => ?_)
  obtain ⟨f, hf⟩ := ho _ _ hq
  refine fs_i2l hC dL_state_7 ?_
  refine fs_last hC dL_state_8 (by omega) hf (fun f1 hf1 => ?_)
  refine fs_goto hC (tgt := 15) dL_state_9 (by decide) ?_
  refine fs_iconst hC dL_state_15 ?_
  exact fs_iretW hC dL_state_16 hr hlk (Nat.zero_le _) (Nat.zero_le _) ⟨rfl, r, h1, f1, hq, rfl, hf1⟩
theorem wx_state1 (hE : envOK Γ St) {adV : Nat → Nat} (hX : envX Γ St adV) (hl9 : l.stackTraces = false) (hLn : envL St) (hN : 132 ≤ NC) {fs : List Value} (ha : h 0 = .inr (5, fs)) {w1 : Int32} {Q1 : qt} (k1 : Ct NC "java/lang/IllegalArgumentException" M_X5_state [.ref 0, .int w1] h Q1) : MetW Γ l St NC M_L_state H_state [.ref 0, .int w1, .ref 131] h (fun r u => r = I 1 ∧ Q1 .null u) := by
  refine metW_of (by decide) rfl rfl (fun v hv => by simp only [List.mem_cons, List.not_mem_nil, or_false] at hv; rcases hv with rfl | rfl | rfl <;> (intro z; cases z)) (Nat.le_of_ble_eq_true rfl) (fun p e s m args below meth c hC hr hlk ht => ?_)
  refine fs_aload_n hC dL_state_0 rfl ?_
  refine fs_iconst hC dL_state_1 ?_
  refine fs_aload_n hC dL_state_2 rfl ?_
  refine fs_iload_n hC dL_state_3 rfl ?_
  refine fs_cvx hE hX hl9 hC ⟨Nat.le_refl _, Nat.le_refl _⟩ (As := [.int w1]) dL_state_4 lnL_state rfl rfl (Nat.le_of_ble_eq_true rfl) (by omega) ha rfl k1 [] ⟨0, 9, 12, 13⟩ [] ht (fun z hz => by cases hz) (by decide) (by decide) clk_13 cast_13 (fun h1 hq H locs ls q hW hL => ?_)
  exact w_hand_n hC dL_state_12 dL_state_13 dL_state_14 (by decide) hr hlk (Nat.le_refl _) (Nat.le_refl _) hW hL ⟨rfl, hq⟩
theorem wr_cell (hE : envOK Γ St) {adV : Nat → Nat} (hX : envX Γ St adV) (hl9 : l.stackTraces = false) (hN : 132 ≤ NC) {fs : List Value} (ha : h 0 = .inr (5, fs)) {w1 w2 w3 : Int32} {Q1 : qt} (k1 : Cl NC M_X5_cell [.ref 0, .int w1, .int w2, .int w3] h Q1) (ho : ∀ v h1, Q1 v h1 → ∃ f, h1 131 = .inl (5, 1, .inr (.inl f))) : MetW Γ l St NC M_L_cell H_cell [.ref 0, .int w1, .int w2, .int w3, .ref 131] h (fun r u => r = I 0 ∧ ∃ v h1 f, Q1 (.int v) h1 ∧ u = va_up h1 131 (.inl (5, 1, .inr (.inl f))) ∧ f 0 = v.toInt64) := by
  refine metW_of (by decide) rfl rfl (fun v hv => by simp only [List.mem_cons, List.not_mem_nil, or_false] at hv; rcases hv with rfl | rfl | rfl | rfl | rfl <;> (intro z; cases z)) (Nat.le_of_ble_eq_true rfl) (fun p e s m args below meth c hC hr hlk ht => ?_)
  refine fs_aload hC dL_cell_0 rfl ?_
  refine fs_iconst hC dL_cell_2 ?_
  refine fs_aload_n hC dL_cell_3 rfl ?_
  refine fs_iload_n hC dL_cell_4 rfl ?_
  refine fs_iload_n hC dL_cell_5 rfl ?_
  refine fs_iload_n hC dL_cell_6 rfl ?_
  refine fs_cvi hE hX hl9 hC ⟨Nat.zero_le _, Nat.zero_le _⟩ (As := [.int w1, .int w2, .int w3]) dL_cell_7 lnL_cell rfl rfl (Nat.le_of_ble_eq_true rfl) (by omega) ha rfl (Or.inl rfl) k1 (fun r h1 hq => ?_)
  obtain ⟨f, hf⟩ := ho _ _ hq
  refine fs_i2l hC dL_cell_10 ?_
  refine fs_last hC dL_cell_11 (by omega) hf (fun f1 hf1 => ?_)
  refine fs_goto hC (tgt := 23) dL_cell_12 (by decide) ?_
  refine fs_iconst hC dL_cell_23 ?_
  exact fs_iretW hC dL_cell_24 hr hlk (Nat.zero_le _) (Nat.zero_le _) ⟨rfl, r, h1, f1, hq, rfl, hf1⟩
theorem wx_cell1 (hE : envOK Γ St) {adV : Nat → Nat} (hX : envX Γ St adV) (hl9 : l.stackTraces = false) (hLn : envL St) (hN : 132 ≤ NC) {fs : List Value} (ha : h 0 = .inr (5, fs)) {w1 w2 w3 : Int32} {Q1 : qt} (k1 : Ct NC "java/lang/IndexOutOfBoundsException" M_X5_cell [.ref 0, .int w1, .int w2, .int w3] h Q1) : MetW Γ l St NC M_L_cell H_cell [.ref 0, .int w1, .int w2, .int w3, .ref 131] h (fun r u => r = I 1 ∧ Q1 .null u) := by
  refine metW_of (by decide) rfl rfl (fun v hv => by simp only [List.mem_cons, List.not_mem_nil, or_false] at hv; rcases hv with rfl | rfl | rfl | rfl | rfl <;> (intro z; cases z)) (Nat.le_of_ble_eq_true rfl) (fun p e s m args below meth c hC hr hlk ht => ?_)
  refine fs_aload hC dL_cell_0 rfl ?_
  refine fs_iconst hC dL_cell_2 ?_
  refine fs_aload_n hC dL_cell_3 rfl ?_
  refine fs_iload_n hC dL_cell_4 rfl ?_
  refine fs_iload_n hC dL_cell_5 rfl ?_
  refine fs_iload_n hC dL_cell_6 rfl ?_
  refine fs_cvx hE hX hl9 hC ⟨Nat.le_refl _, Nat.le_refl _⟩ (As := [.int w1, .int w2, .int w3]) dL_cell_7 lnL_cell rfl rfl (Nat.le_of_ble_eq_true rfl) (by omega) ha rfl k1 [] ⟨0, 12, 15, 22⟩ [⟨0, 12, 19, 13⟩] ht (fun z hz => by cases hz) (by decide) (by decide) clk_22 cast_22 (fun h1 hq H locs ls q hW hL => ?_)
  exact w_hand hC dL_cell_15 dL_cell_17 dL_cell_18 (by decide) hr hlk (Nat.le_refl _) (Nat.le_refl _) hW hL ⟨rfl, hq⟩
theorem wx_cell2 (hE : envOK Γ St) {adV : Nat → Nat} (hX : envX Γ St adV) (hl9 : l.stackTraces = false) (hLn : envL St) (hN : 132 ≤ NC) {fs : List Value} (ha : h 0 = .inr (5, fs)) {w1 w2 w3 : Int32} {Q1 : qt} (k1 : Ct NC "java/lang/IllegalArgumentException" M_X5_cell [.ref 0, .int w1, .int w2, .int w3] h Q1) : MetW Γ l St NC M_L_cell H_cell [.ref 0, .int w1, .int w2, .int w3, .ref 131] h (fun r u => r = I 2 ∧ Q1 .null u) := by
  refine metW_of (by decide) rfl rfl (fun v hv => by simp only [List.mem_cons, List.not_mem_nil, or_false] at hv; rcases hv with rfl | rfl | rfl | rfl | rfl <;> (intro z; cases z)) (Nat.le_of_ble_eq_true rfl) (fun p e s m args below meth c hC hr hlk ht => ?_)
  refine fs_aload hC dL_cell_0 rfl ?_
  refine fs_iconst hC dL_cell_2 ?_
  refine fs_aload_n hC dL_cell_3 rfl ?_
  refine fs_iload_n hC dL_cell_4 rfl ?_
  refine fs_iload_n hC dL_cell_5 rfl ?_
  refine fs_iload_n hC dL_cell_6 rfl ?_
  refine fs_cvx hE hX hl9 hC ⟨Nat.le_refl _, Nat.le_refl _⟩ (As := [.int w1, .int w2, .int w3]) dL_cell_7 lnL_cell rfl rfl (Nat.le_of_ble_eq_true rfl) (by omega) ha rfl k1 [⟨0, 12, 15, 22⟩] ⟨0, 12, 19, 13⟩ [] ht (fun z hz => by cases List.mem_singleton.mp hz; exact ⟨by decide, _, clk_22, (hLn s hC.2.2.2.2.2.2.1).1⟩) (by decide) (by decide) clk_13 cast_13 (fun h1 hq H locs ls q hW hL => ?_)
  exact w_hand hC dL_cell_19 dL_cell_21 dL_cell_22 (by decide) hr hlk (Nat.le_refl _) (Nat.le_refl _) hW hL ⟨rfl, hq⟩
theorem wr_mix (hE : envOK Γ St) {adV : Nat → Nat} (hX : envX Γ St adV) (hl9 : l.stackTraces = false) (hN : 132 ≤ NC) {fs : List Value} (ha : h 0 = .inr (5, fs)) {w1 w2 : Int32} {Q1 : qt} (k1 : Cl NC M_X5_mix [.ref 0, .int w1, .int w2] h Q1) (ho : ∀ v h1, Q1 v h1 → ∃ f, h1 131 = .inl (5, 1, .inr (.inl f))) : MetW Γ l St NC M_L_mix H_mix [.ref 0, .int w1, .int w2, .ref 131] h (fun r u => r = I 0 ∧ ∃ v h1 f, Q1 (.int v) h1 ∧ u = va_up h1 131 (.inl (5, 1, .inr (.inl f))) ∧ f 0 = v.toInt64) := by
  refine metW_of (by decide) rfl rfl (fun v hv => by simp only [List.mem_cons, List.not_mem_nil, or_false] at hv; rcases hv with rfl | rfl | rfl | rfl <;> (intro z; cases z)) (Nat.le_of_ble_eq_true rfl) (fun p e s m args below meth c hC hr hlk ht => ?_)
  refine fs_aload_n hC dL_mix_0 rfl ?_
  refine fs_iconst hC dL_mix_1 ?_
  refine fs_aload_n hC dL_mix_2 rfl ?_
  refine fs_iload_n hC dL_mix_3 rfl ?_
  refine fs_iload_n hC dL_mix_4 rfl ?_
  refine fs_cvi hE hX hl9 hC ⟨Nat.zero_le _, Nat.zero_le _⟩ (As := [.int w1, .int w2]) dL_mix_5 lnL_mix rfl rfl (Nat.le_of_ble_eq_true rfl) (by omega) ha rfl (Or.inl rfl) k1 (fun r h1 hq => ?_)
  obtain ⟨f, hf⟩ := ho _ _ hq
  refine fs_i2l hC dL_mix_8 ?_
  refine fs_last hC dL_mix_9 (by omega) hf (fun f1 hf1 => ?_)
  refine fs_goto hC (tgt := 17) dL_mix_10 (by decide) ?_
  refine fs_iconst hC dL_mix_17 ?_
  exact fs_iretW hC dL_mix_18 hr hlk (Nat.zero_le _) (Nat.zero_le _) ⟨rfl, r, h1, f1, hq, rfl, hf1⟩
theorem wx_mix1 (hE : envOK Γ St) {adV : Nat → Nat} (hX : envX Γ St adV) (hl9 : l.stackTraces = false) (hLn : envL St) (hN : 132 ≤ NC) {fs : List Value} (ha : h 0 = .inr (5, fs)) {w1 w2 : Int32} {Q1 : qt} (k1 : Ct NC "java/lang/IllegalArgumentException" M_X5_mix [.ref 0, .int w1, .int w2] h Q1) : MetW Γ l St NC M_L_mix H_mix [.ref 0, .int w1, .int w2, .ref 131] h (fun r u => r = I 1 ∧ Q1 .null u) := by
  refine metW_of (by decide) rfl rfl (fun v hv => by simp only [List.mem_cons, List.not_mem_nil, or_false] at hv; rcases hv with rfl | rfl | rfl | rfl <;> (intro z; cases z)) (Nat.le_of_ble_eq_true rfl) (fun p e s m args below meth c hC hr hlk ht => ?_)
  refine fs_aload_n hC dL_mix_0 rfl ?_
  refine fs_iconst hC dL_mix_1 ?_
  refine fs_aload_n hC dL_mix_2 rfl ?_
  refine fs_iload_n hC dL_mix_3 rfl ?_
  refine fs_iload_n hC dL_mix_4 rfl ?_
  refine fs_cvx hE hX hl9 hC ⟨Nat.le_refl _, Nat.le_refl _⟩ (As := [.int w1, .int w2]) dL_mix_5 lnL_mix rfl rfl (Nat.le_of_ble_eq_true rfl) (by omega) ha rfl k1 [] ⟨0, 10, 13, 13⟩ [] ht (fun z hz => by cases hz) (by decide) (by decide) clk_13 cast_13 (fun h1 hq H locs ls q hW hL => ?_)
  exact w_hand hC dL_mix_13 dL_mix_15 dL_mix_16 (by decide) hr hlk (Nat.le_refl _) (Nat.le_refl _) hW hL ⟨rfl, hq⟩
theorem wr_count (hE : envOK Γ St) {adV : Nat → Nat} (hX : envX Γ St adV) (hl9 : l.stackTraces = false) (hN : 132 ≤ NC) {fs : List Value} (ha : h 0 = .inr (5, fs)) {w1 : Int32} {Q1 : qt} (k1 : Cl NC M_X5_count [.ref 0, .int w1] h Q1) (ho : ∀ v h1, Q1 v h1 → ∃ f, h1 131 = .inl (5, 1, .inr (.inl f))) : MetW Γ l St NC M_L_count H_count [.ref 0, .int w1, .ref 131] h (fun r u => r = I 0 ∧ ∃ v h1 f, Q1 (.int v) h1 ∧ u = va_up h1 131 (.inl (5, 1, .inr (.inl f))) ∧ f 0 = v.toInt64) := by
  refine metW_of (by decide) rfl rfl (fun v hv => by simp only [List.mem_cons, List.not_mem_nil, or_false] at hv; rcases hv with rfl | rfl | rfl <;> (intro z; cases z)) (Nat.le_of_ble_eq_true rfl) (fun p e s m args below meth c hC hr hlk ht => ?_)
  refine fs_aload_n hC dL_count_0 rfl ?_
  refine fs_iconst hC dL_count_1 ?_
  refine fs_aload_n hC dL_count_2 rfl ?_
  refine fs_iload_n hC dL_count_3 rfl ?_
  refine fs_cvi hE hX hl9 hC ⟨Nat.zero_le _, Nat.zero_le _⟩ (As := [.int w1]) dL_count_4 lnL_count rfl rfl (Nat.le_of_ble_eq_true rfl) (by omega) ha rfl (Or.inl rfl) k1 (fun r h1 hq => ?_)
  obtain ⟨f, hf⟩ := ho _ _ hq
  refine fs_i2l hC dL_count_7 ?_
  refine fs_last hC dL_count_8 (by omega) hf (fun f1 hf1 => ?_)
  refine fs_goto hC (tgt := 15) dL_count_9 (by decide) ?_
  refine fs_iconst hC dL_count_15 ?_
  exact fs_iretW hC dL_count_16 hr hlk (Nat.zero_le _) (Nat.zero_le _) ⟨rfl, r, h1, f1, hq, rfl, hf1⟩
theorem wx_count1 (hE : envOK Γ St) {adV : Nat → Nat} (hX : envX Γ St adV) (hl9 : l.stackTraces = false) (hLn : envL St) (hN : 132 ≤ NC) {fs : List Value} (ha : h 0 = .inr (5, fs)) {w1 : Int32} {Q1 : qt} (k1 : Ct NC "java/lang/IllegalArgumentException" M_X5_count [.ref 0, .int w1] h Q1) : MetW Γ l St NC M_L_count H_count [.ref 0, .int w1, .ref 131] h (fun r u => r = I 1 ∧ Q1 .null u) := by
  refine metW_of (by decide) rfl rfl (fun v hv => by simp only [List.mem_cons, List.not_mem_nil, or_false] at hv; rcases hv with rfl | rfl | rfl <;> (intro z; cases z)) (Nat.le_of_ble_eq_true rfl) (fun p e s m args below meth c hC hr hlk ht => ?_)
  refine fs_aload_n hC dL_count_0 rfl ?_
  refine fs_iconst hC dL_count_1 ?_
  refine fs_aload_n hC dL_count_2 rfl ?_
  refine fs_iload_n hC dL_count_3 rfl ?_
  refine fs_cvx hE hX hl9 hC ⟨Nat.le_refl _, Nat.le_refl _⟩ (As := [.int w1]) dL_count_4 lnL_count rfl rfl (Nat.le_of_ble_eq_true rfl) (by omega) ha rfl k1 [] ⟨0, 9, 12, 13⟩ [] ht (fun z hz => by cases hz) (by decide) (by decide) clk_13 cast_13 (fun h1 hq H locs ls q hW hL => ?_)
  exact w_hand_n hC dL_count_12 dL_count_13 dL_count_14 (by decide) hr hlk (Nat.le_refl _) (Nat.le_refl _) hW hL ⟨rfl, hq⟩
theorem wr_region (hE : envOK Γ St) {adV : Nat → Nat} (hX : envX Γ St adV) (hl9 : l.stackTraces = false) (hN : 132 ≤ NC) {fs : List Value} (ha : h 0 = .inr (5, fs)) {w1 w2 : Int32} {Q1 : qt} (k1 : Cl NC M_X5_region [.ref 0, .int w1, .int w2] h Q1) (ho : ∀ v h1, Q1 v h1 → ∃ f, h1 131 = .inl (5, 1, .inr (.inl f))) : MetW Γ l St NC M_L_region H_region [.ref 0, .int w1, .int w2, .ref 131] h (fun r u => r = I 0 ∧ ∃ v h1 f, Q1 (.int v) h1 ∧ u = va_up h1 131 (.inl (5, 1, .inr (.inl f))) ∧ f 0 = v.toInt64) := by
  refine metW_of (by decide) rfl rfl (fun v hv => by simp only [List.mem_cons, List.not_mem_nil, or_false] at hv; rcases hv with rfl | rfl | rfl | rfl <;> (intro z; cases z)) (Nat.le_of_ble_eq_true rfl) (fun p e s m args below meth c hC hr hlk ht => ?_)
  refine fs_aload_n hC dL_region_0 rfl ?_
  refine fs_iconst hC dL_region_1 ?_
  refine fs_aload_n hC dL_region_2 rfl ?_
  refine fs_iload_n hC dL_region_3 rfl ?_
  refine fs_iload_n hC dL_region_4 rfl ?_
  refine fs_cvi hE hX hl9 hC ⟨Nat.zero_le _, Nat.zero_le _⟩ (As := [.int w1, .int w2]) dL_region_5 lnL_region rfl rfl (Nat.le_of_ble_eq_true rfl) (by omega) ha rfl (Or.inl rfl) k1 (fun r h1 hq => ?_)
  obtain ⟨f, hf⟩ := ho _ _ hq
  refine fs_i2l hC dL_region_8 ?_
  refine fs_last hC dL_region_9 (by omega) hf (fun f1 hf1 => ?_)
  refine fs_goto hC (tgt := 17) dL_region_10 (by decide) ?_
  refine fs_iconst hC dL_region_17 ?_
  exact fs_iretW hC dL_region_18 hr hlk (Nat.zero_le _) (Nat.zero_le _) ⟨rfl, r, h1, f1, hq, rfl, hf1⟩
theorem wx_region1 (hE : envOK Γ St) {adV : Nat → Nat} (hX : envX Γ St adV) (hl9 : l.stackTraces = false) (hLn : envL St) (hN : 132 ≤ NC) {fs : List Value} (ha : h 0 = .inr (5, fs)) {w1 w2 : Int32} {Q1 : qt} (k1 : Ct NC "java/lang/IndexOutOfBoundsException" M_X5_region [.ref 0, .int w1, .int w2] h Q1) : MetW Γ l St NC M_L_region H_region [.ref 0, .int w1, .int w2, .ref 131] h (fun r u => r = I 1 ∧ Q1 .null u) := by
  refine metW_of (by decide) rfl rfl (fun v hv => by simp only [List.mem_cons, List.not_mem_nil, or_false] at hv; rcases hv with rfl | rfl | rfl | rfl <;> (intro z; cases z)) (Nat.le_of_ble_eq_true rfl) (fun p e s m args below meth c hC hr hlk ht => ?_)
  refine fs_aload_n hC dL_region_0 rfl ?_
  refine fs_iconst hC dL_region_1 ?_
  refine fs_aload_n hC dL_region_2 rfl ?_
  refine fs_iload_n hC dL_region_3 rfl ?_
  refine fs_iload_n hC dL_region_4 rfl ?_
  refine fs_cvx hE hX hl9 hC ⟨Nat.le_refl _, Nat.le_refl _⟩ (As := [.int w1, .int w2]) dL_region_5 lnL_region rfl rfl (Nat.le_of_ble_eq_true rfl) (by omega) ha rfl k1 [] ⟨0, 10, 13, 22⟩ [] ht (fun z hz => by cases hz) (by decide) (by decide) clk_22 cast_22 (fun h1 hq H locs ls q hW hL => ?_)
  exact w_hand hC dL_region_13 dL_region_15 dL_region_16 (by decide) hr hlk (Nat.le_refl _) (Nat.le_refl _) hW hL ⟨rfl, hq⟩
theorem wr_regions (hE : envOK Γ St) {adV : Nat → Nat} (hX : envX Γ St adV) (hl9 : l.stackTraces = false) (hN : 132 ≤ NC) {fs : List Value} (ha : h 0 = .inr (5, fs)) {w1 : Int32} {Q1 : qt} (k1 : Cl NC M_X5_regions [.ref 0, .int w1] h Q1) (ho : ∀ v h1, Q1 v h1 → ∃ f, h1 131 = .inl (5, 1, .inr (.inl f))) : MetW Γ l St NC M_L_regions H_regions [.ref 0, .int w1, .ref 131] h (fun r u => r = I 0 ∧ ∃ v h1 f, Q1 (.int v) h1 ∧ u = va_up h1 131 (.inl (5, 1, .inr (.inl f))) ∧ f 0 = v.toInt64) := by
  refine metW_of (by decide) rfl rfl (fun v hv => by simp only [List.mem_cons, List.not_mem_nil, or_false] at hv; rcases hv with rfl | rfl | rfl <;> (intro z; cases z)) (Nat.le_of_ble_eq_true rfl) (fun p e s m args below meth c hC hr hlk ht => ?_)
  refine fs_aload_n hC dL_regions_0 rfl ?_
  refine fs_iconst hC dL_regions_1 ?_
  refine fs_aload_n hC dL_regions_2 rfl ?_
  refine fs_iload_n hC dL_regions_3 rfl ?_
  refine fs_cvi hE hX hl9 hC ⟨Nat.zero_le _, Nat.zero_le _⟩ (As := [.int w1]) dL_regions_4 lnL_regions rfl rfl (Nat.le_of_ble_eq_true rfl) (by omega) ha rfl (Or.inl rfl) k1 (fun r h1 hq => ?_)
  obtain ⟨f, hf⟩ := ho _ _ hq
  refine fs_i2l hC dL_regions_7 ?_
  refine fs_last hC dL_regions_8 (by omega) hf (fun f1 hf1 => ?_)
  refine fs_goto hC (tgt := 15) dL_regions_9 (by decide) ?_
  refine fs_iconst hC dL_regions_15 ?_
  exact fs_iretW hC dL_regions_16 hr hlk (Nat.zero_le _) (Nat.zero_le _) ⟨rfl, r, h1, f1, hq, rfl, hf1⟩
theorem wx_regions1 (hE : envOK Γ St) {adV : Nat → Nat} (hX : envX Γ St adV) (hl9 : l.stackTraces = false) (hLn : envL St) (hN : 132 ≤ NC) {fs : List Value} (ha : h 0 = .inr (5, fs)) {w1 : Int32} {Q1 : qt} (k1 : Ct NC "java/lang/IllegalArgumentException" M_X5_regions [.ref 0, .int w1] h Q1) : MetW Γ l St NC M_L_regions H_regions [.ref 0, .int w1, .ref 131] h (fun r u => r = I 1 ∧ Q1 .null u) := by
  refine metW_of (by decide) rfl rfl (fun v hv => by simp only [List.mem_cons, List.not_mem_nil, or_false] at hv; rcases hv with rfl | rfl | rfl <;> (intro z; cases z)) (Nat.le_of_ble_eq_true rfl) (fun p e s m args below meth c hC hr hlk ht => ?_)
  refine fs_aload_n hC dL_regions_0 rfl ?_
  refine fs_iconst hC dL_regions_1 ?_
  refine fs_aload_n hC dL_regions_2 rfl ?_
  refine fs_iload_n hC dL_regions_3 rfl ?_
  refine fs_cvx hE hX hl9 hC ⟨Nat.le_refl _, Nat.le_refl _⟩ (As := [.int w1]) dL_regions_4 lnL_regions rfl rfl (Nat.le_of_ble_eq_true rfl) (by omega) ha rfl k1 [] ⟨0, 9, 12, 13⟩ [] ht (fun z hz => by cases hz) (by decide) (by decide) clk_13 cast_13 (fun h1 hq H locs ls q hW hL => ?_)
  exact w_hand_n hC dL_regions_12 dL_regions_13 dL_regions_14 (by decide) hr hlk (Nat.le_refl _) (Nat.le_refl _) hW hL ⟨rfl, hq⟩
theorem wr_bleeds (hE : envOK Γ St) {adV : Nat → Nat} (hX : envX Γ St adV) (hl9 : l.stackTraces = false) (hN : 132 ≤ NC) {fs : List Value} (ha : h 0 = .inr (5, fs)) {w1 w2 : Int32} {Q1 : qt} (k1 : Cl NC M_X5_bleeds [.ref 0, .int w1, .int w2] h Q1) (ho : ∀ v h1, Q1 v h1 → ∃ f, h1 131 = .inl (5, 1, .inr (.inl f))) : MetW Γ l St NC M_L_bleeds H_bleeds [.ref 0, .int w1, .int w2, .ref 131] h (fun r u => r = I 0 ∧ ∃ v h1 f, Q1 (.int v) h1 ∧ u = va_up h1 131 (.inl (5, 1, .inr (.inl f))) ∧ f 0 = v.toInt64) := by
  refine metW_of (by decide) rfl rfl (fun v hv => by simp only [List.mem_cons, List.not_mem_nil, or_false] at hv; rcases hv with rfl | rfl | rfl | rfl <;> (intro z; cases z)) (Nat.le_of_ble_eq_true rfl) (fun p e s m args below meth c hC hr hlk ht => ?_)
  refine fs_aload_n hC dL_bleeds_0 rfl ?_
  refine fs_iconst hC dL_bleeds_1 ?_
  refine fs_aload_n hC dL_bleeds_2 rfl ?_
  refine fs_iload_n hC dL_bleeds_3 rfl ?_
  refine fs_iload_n hC dL_bleeds_4 rfl ?_
  refine fs_cvi hE hX hl9 hC ⟨Nat.zero_le _, Nat.zero_le _⟩ (As := [.int w1, .int w2]) dL_bleeds_5 lnL_bleeds rfl rfl (Nat.le_of_ble_eq_true rfl) (by omega) ha rfl (Or.inl rfl) k1 (fun r h1 hq => ?_)
  obtain ⟨f, hf⟩ := ho _ _ hq
  refine fs_i2l hC dL_bleeds_8 ?_
  refine fs_last hC dL_bleeds_9 (by omega) hf (fun f1 hf1 => ?_)
  refine fs_goto hC (tgt := 17) dL_bleeds_10 (by decide) ?_
  refine fs_iconst hC dL_bleeds_17 ?_
  exact fs_iretW hC dL_bleeds_18 hr hlk (Nat.zero_le _) (Nat.zero_le _) ⟨rfl, r, h1, f1, hq, rfl, hf1⟩
theorem wx_bleeds1 (hE : envOK Γ St) {adV : Nat → Nat} (hX : envX Γ St adV) (hl9 : l.stackTraces = false) (hLn : envL St) (hN : 132 ≤ NC) {fs : List Value} (ha : h 0 = .inr (5, fs)) {w1 w2 : Int32} {Q1 : qt} (k1 : Ct NC "java/lang/IndexOutOfBoundsException" M_X5_bleeds [.ref 0, .int w1, .int w2] h Q1) : MetW Γ l St NC M_L_bleeds H_bleeds [.ref 0, .int w1, .int w2, .ref 131] h (fun r u => r = I 1 ∧ Q1 .null u) := by
  refine metW_of (by decide) rfl rfl (fun v hv => by simp only [List.mem_cons, List.not_mem_nil, or_false] at hv; rcases hv with rfl | rfl | rfl | rfl <;> (intro z; cases z)) (Nat.le_of_ble_eq_true rfl) (fun p e s m args below meth c hC hr hlk ht => ?_)
  refine fs_aload_n hC dL_bleeds_0 rfl ?_
  refine fs_iconst hC dL_bleeds_1 ?_
  refine fs_aload_n hC dL_bleeds_2 rfl ?_
  refine fs_iload_n hC dL_bleeds_3 rfl ?_
  refine fs_iload_n hC dL_bleeds_4 rfl ?_
  refine fs_cvx hE hX hl9 hC ⟨Nat.le_refl _, Nat.le_refl _⟩ (As := [.int w1, .int w2]) dL_bleeds_5 lnL_bleeds rfl rfl (Nat.le_of_ble_eq_true rfl) (by omega) ha rfl k1 [] ⟨0, 10, 13, 22⟩ [] ht (fun z hz => by cases hz) (by decide) (by decide) clk_22 cast_22 (fun h1 hq H locs ls q hW hL => ?_)
  exact w_hand hC dL_bleeds_13 dL_bleeds_15 dL_bleeds_16 (by decide) hr hlk (Nat.le_refl _) (Nat.le_refl _) hW hL ⟨rfl, hq⟩
theorem wr_foretold (hE : envOK Γ St) {adV : Nat → Nat} (hX : envX Γ St adV) (hl9 : l.stackTraces = false) (hN : 132 ≤ NC) {fs : List Value} (ha : h 0 = .inr (5, fs)) {w1 w2 : Int32} {Q1 : qt} (k1 : Cl NC M_X5_foretold [.ref 0, .int w1, .int w2] h Q1) (ho : ∀ v h1, Q1 v h1 → ∃ f, h1 131 = .inl (5, 1, .inr (.inl f))) : MetW Γ l St NC M_L_foretold H_foretold [.ref 0, .int w1, .int w2, .ref 131] h (fun r u => r = I 0 ∧ ∃ v h1 f, Q1 (.int v) h1 ∧ u = va_up h1 131 (.inl (5, 1, .inr (.inl f))) ∧ f 0 = v.toInt64) := by
  refine metW_of (by decide) rfl rfl (fun v hv => by simp only [List.mem_cons, List.not_mem_nil, or_false] at hv; rcases hv with rfl | rfl | rfl | rfl <;> (intro z; cases z)) (Nat.le_of_ble_eq_true rfl) (fun p e s m args below meth c hC hr hlk ht => ?_)
  refine fs_aload_n hC dL_foretold_0 rfl ?_
  refine fs_iconst hC dL_foretold_1 ?_
  refine fs_aload_n hC dL_foretold_2 rfl ?_
  refine fs_iload_n hC dL_foretold_3 rfl ?_
  refine fs_iload_n hC dL_foretold_4 rfl ?_
  refine fs_cvi hE hX hl9 hC ⟨Nat.zero_le _, Nat.zero_le _⟩ (As := [.int w1, .int w2]) dL_foretold_5 lnL_foretold rfl rfl (Nat.le_of_ble_eq_true rfl) (by omega) ha rfl (Or.inl rfl) k1 (fun r h1 hq => ?_)
  obtain ⟨f, hf⟩ := ho _ _ hq
  refine fs_i2l hC dL_foretold_8 ?_
  refine fs_last hC dL_foretold_9 (by omega) hf (fun f1 hf1 => ?_)
  refine fs_goto hC (tgt := 17) dL_foretold_10 (by decide) ?_
  refine fs_iconst hC dL_foretold_17 ?_
  exact fs_iretW hC dL_foretold_18 hr hlk (Nat.zero_le _) (Nat.zero_le _) ⟨rfl, r, h1, f1, hq, rfl, hf1⟩
theorem wx_foretold1 (hE : envOK Γ St) {adV : Nat → Nat} (hX : envX Γ St adV) (hl9 : l.stackTraces = false) (hLn : envL St) (hN : 132 ≤ NC) {fs : List Value} (ha : h 0 = .inr (5, fs)) {w1 w2 : Int32} {Q1 : qt} (k1 : Ct NC "java/lang/IllegalArgumentException" M_X5_foretold [.ref 0, .int w1, .int w2] h Q1) : MetW Γ l St NC M_L_foretold H_foretold [.ref 0, .int w1, .int w2, .ref 131] h (fun r u => r = I 1 ∧ Q1 .null u) := by
  refine metW_of (by decide) rfl rfl (fun v hv => by simp only [List.mem_cons, List.not_mem_nil, or_false] at hv; rcases hv with rfl | rfl | rfl | rfl <;> (intro z; cases z)) (Nat.le_of_ble_eq_true rfl) (fun p e s m args below meth c hC hr hlk ht => ?_)
  refine fs_aload_n hC dL_foretold_0 rfl ?_
  refine fs_iconst hC dL_foretold_1 ?_
  refine fs_aload_n hC dL_foretold_2 rfl ?_
  refine fs_iload_n hC dL_foretold_3 rfl ?_
  refine fs_iload_n hC dL_foretold_4 rfl ?_
  refine fs_cvx hE hX hl9 hC ⟨Nat.le_refl _, Nat.le_refl _⟩ (As := [.int w1, .int w2]) dL_foretold_5 lnL_foretold rfl rfl (Nat.le_of_ble_eq_true rfl) (by omega) ha rfl k1 [] ⟨0, 10, 13, 13⟩ [] ht (fun z hz => by cases hz) (by decide) (by decide) clk_13 cast_13 (fun h1 hq H locs ls q hW hL => ?_)
  exact w_hand hC dL_foretold_13 dL_foretold_15 dL_foretold_16 (by decide) hr hlk (Nat.le_refl _) (Nat.le_refl _) hW hL ⟨rfl, hq⟩
theorem wr_evens (hE : envOK Γ St) {adV : Nat → Nat} (hX : envX Γ St adV) (hl9 : l.stackTraces = false) (hN : 132 ≤ NC) {fs : List Value} (ha : h 0 = .inr (5, fs)) {w1 : Int32} {Q1 : qt} (k1 : Cl NC M_X5_evens [.ref 0, .int w1] h Q1) (ho : ∀ v h1, Q1 v h1 → ∃ f, h1 131 = .inl (5, 1, .inr (.inl f))) : MetW Γ l St NC M_L_evens H_evens [.ref 0, .int w1, .ref 131] h (fun r u => r = I 0 ∧ ∃ v h1 f, Q1 (.int v) h1 ∧ u = va_up h1 131 (.inl (5, 1, .inr (.inl f))) ∧ f 0 = v.toInt64) := by
  refine metW_of (by decide) rfl rfl (fun v hv => by simp only [List.mem_cons, List.not_mem_nil, or_false] at hv; rcases hv with rfl | rfl | rfl <;> (intro z; cases z)) (Nat.le_of_ble_eq_true rfl) (fun p e s m args below meth c hC hr hlk ht => ?_)
  refine fs_aload_n hC dL_evens_0 rfl ?_
  refine fs_iconst hC dL_evens_1 ?_
  refine fs_aload_n hC dL_evens_2 rfl ?_
  refine fs_iload_n hC dL_evens_3 rfl ?_
  refine fs_cvi hE hX hl9 hC ⟨Nat.zero_le _, Nat.zero_le _⟩ (As := [.int w1]) dL_evens_4 lnL_evens rfl rfl (Nat.le_of_ble_eq_true rfl) (by omega) ha rfl (Or.inl rfl) k1 (fun r h1 hq => ?_)
  obtain ⟨f, hf⟩ := ho _ _ hq
  refine fs_i2l hC dL_evens_7 ?_
  refine fs_last hC dL_evens_8 (by omega) hf (fun f1 hf1 => ?_)
  refine fs_goto hC (tgt := 15) dL_evens_9 (by decide) ?_
  refine fs_iconst hC dL_evens_15 ?_
  exact fs_iretW hC dL_evens_16 hr hlk (Nat.zero_le _) (Nat.zero_le _) ⟨rfl, r, h1, f1, hq, rfl, hf1⟩
theorem wx_evens1 (hE : envOK Γ St) {adV : Nat → Nat} (hX : envX Γ St adV) (hl9 : l.stackTraces = false) (hLn : envL St) (hN : 132 ≤ NC) {fs : List Value} (ha : h 0 = .inr (5, fs)) {w1 : Int32} {Q1 : qt} (k1 : Ct NC "java/lang/IllegalArgumentException" M_X5_evens [.ref 0, .int w1] h Q1) : MetW Γ l St NC M_L_evens H_evens [.ref 0, .int w1, .ref 131] h (fun r u => r = I 1 ∧ Q1 .null u) := by
  refine metW_of (by decide) rfl rfl (fun v hv => by simp only [List.mem_cons, List.not_mem_nil, or_false] at hv; rcases hv with rfl | rfl | rfl <;> (intro z; cases z)) (Nat.le_of_ble_eq_true rfl) (fun p e s m args below meth c hC hr hlk ht => ?_)
  refine fs_aload_n hC dL_evens_0 rfl ?_
  refine fs_iconst hC dL_evens_1 ?_
  refine fs_aload_n hC dL_evens_2 rfl ?_
  refine fs_iload_n hC dL_evens_3 rfl ?_
  refine fs_cvx hE hX hl9 hC ⟨Nat.le_refl _, Nat.le_refl _⟩ (As := [.int w1]) dL_evens_4 lnL_evens rfl rfl (Nat.le_of_ble_eq_true rfl) (by omega) ha rfl k1 [] ⟨0, 9, 12, 13⟩ [] ht (fun z hz => by cases hz) (by decide) (by decide) clk_13 cast_13 (fun h1 hq H locs ls q hW hL => ?_)
  exact w_hand_n hC dL_evens_12 dL_evens_13 dL_evens_14 (by decide) hr hlk (Nat.le_refl _) (Nat.le_refl _) hW hL ⟨rfl, hq⟩
theorem wr_pattern (hE : envOK Γ St) {adV : Nat → Nat} (hX : envX Γ St adV) (hl9 : l.stackTraces = false) (hN : 132 ≤ NC) {fs : List Value} (ha : h 0 = .inr (5, fs)) {w1 w2 : Int32} {Q1 : qt} (k1 : Cl NC M_X5_pattern [.ref 0, .int w1, .int w2] h Q1) (ho : ∀ v h1, Q1 v h1 → ∃ f, h1 131 = .inl (5, 1, .inr (.inl f))) : MetW Γ l St NC M_L_pattern H_pattern [.ref 0, .int w1, .int w2, .ref 131] h (fun r u => r = I 0 ∧ ∃ v h1 f, Q1 (.int v) h1 ∧ u = va_up h1 131 (.inl (5, 1, .inr (.inl f))) ∧ f 0 = v.toInt64) := by
  refine metW_of (by decide) rfl rfl (fun v hv => by simp only [List.mem_cons, List.not_mem_nil, or_false] at hv; rcases hv with rfl | rfl | rfl | rfl <;> (intro z; cases z)) (Nat.le_of_ble_eq_true rfl) (fun p e s m args below meth c hC hr hlk ht => ?_)
  refine fs_aload_n hC dL_pattern_0 rfl ?_
  refine fs_iconst hC dL_pattern_1 ?_
  refine fs_aload_n hC dL_pattern_2 rfl ?_
  refine fs_iload_n hC dL_pattern_3 rfl ?_
  refine fs_iload_n hC dL_pattern_4 rfl ?_
  refine fs_cvi hE hX hl9 hC ⟨Nat.zero_le _, Nat.zero_le _⟩ (As := [.int w1, .int w2]) dL_pattern_5 lnL_pattern rfl rfl (Nat.le_of_ble_eq_true rfl) (by omega) ha rfl (Or.inl rfl) k1 (fun r h1 hq => ?_)
  obtain ⟨f, hf⟩ := ho _ _ hq
  refine fs_i2l hC dL_pattern_8 ?_
  refine fs_last hC dL_pattern_9 (by omega) hf (fun f1 hf1 => ?_)
  refine fs_goto hC (tgt := 21) dL_pattern_10 (by decide) ?_
  refine fs_iconst hC dL_pattern_21 ?_
  exact fs_iretW hC dL_pattern_22 hr hlk (Nat.zero_le _) (Nat.zero_le _) ⟨rfl, r, h1, f1, hq, rfl, hf1⟩
theorem wx_pattern1 (hE : envOK Γ St) {adV : Nat → Nat} (hX : envX Γ St adV) (hl9 : l.stackTraces = false) (hLn : envL St) (hN : 132 ≤ NC) {fs : List Value} (ha : h 0 = .inr (5, fs)) {w1 w2 : Int32} {Q1 : qt} (k1 : Ct NC "java/lang/IndexOutOfBoundsException" M_X5_pattern [.ref 0, .int w1, .int w2] h Q1) : MetW Γ l St NC M_L_pattern H_pattern [.ref 0, .int w1, .int w2, .ref 131] h (fun r u => r = I 1 ∧ Q1 .null u) := by
  refine metW_of (by decide) rfl rfl (fun v hv => by simp only [List.mem_cons, List.not_mem_nil, or_false] at hv; rcases hv with rfl | rfl | rfl | rfl <;> (intro z; cases z)) (Nat.le_of_ble_eq_true rfl) (fun p e s m args below meth c hC hr hlk ht => ?_)
  refine fs_aload_n hC dL_pattern_0 rfl ?_
  refine fs_iconst hC dL_pattern_1 ?_
  refine fs_aload_n hC dL_pattern_2 rfl ?_
  refine fs_iload_n hC dL_pattern_3 rfl ?_
  refine fs_iload_n hC dL_pattern_4 rfl ?_
  refine fs_cvx hE hX hl9 hC ⟨Nat.le_refl _, Nat.le_refl _⟩ (As := [.int w1, .int w2]) dL_pattern_5 lnL_pattern rfl rfl (Nat.le_of_ble_eq_true rfl) (by omega) ha rfl k1 [] ⟨0, 10, 13, 22⟩ [⟨0, 10, 17, 13⟩] ht (fun z hz => by cases hz) (by decide) (by decide) clk_22 cast_22 (fun h1 hq H locs ls q hW hL => ?_)
  exact w_hand hC dL_pattern_13 dL_pattern_15 dL_pattern_16 (by decide) hr hlk (Nat.le_refl _) (Nat.le_refl _) hW hL ⟨rfl, hq⟩
theorem wx_pattern2 (hE : envOK Γ St) {adV : Nat → Nat} (hX : envX Γ St adV) (hl9 : l.stackTraces = false) (hLn : envL St) (hN : 132 ≤ NC) {fs : List Value} (ha : h 0 = .inr (5, fs)) {w1 w2 : Int32} {Q1 : qt} (k1 : Ct NC "java/lang/IllegalArgumentException" M_X5_pattern [.ref 0, .int w1, .int w2] h Q1) : MetW Γ l St NC M_L_pattern H_pattern [.ref 0, .int w1, .int w2, .ref 131] h (fun r u => r = I 2 ∧ Q1 .null u) := by
  refine metW_of (by decide) rfl rfl (fun v hv => by simp only [List.mem_cons, List.not_mem_nil, or_false] at hv; rcases hv with rfl | rfl | rfl | rfl <;> (intro z; cases z)) (Nat.le_of_ble_eq_true rfl) (fun p e s m args below meth c hC hr hlk ht => ?_)
  refine fs_aload_n hC dL_pattern_0 rfl ?_
  refine fs_iconst hC dL_pattern_1 ?_
  refine fs_aload_n hC dL_pattern_2 rfl ?_
  refine fs_iload_n hC dL_pattern_3 rfl ?_
  refine fs_iload_n hC dL_pattern_4 rfl ?_
  refine fs_cvx hE hX hl9 hC ⟨Nat.le_refl _, Nat.le_refl _⟩ (As := [.int w1, .int w2]) dL_pattern_5 lnL_pattern rfl rfl (Nat.le_of_ble_eq_true rfl) (by omega) ha rfl k1 [⟨0, 10, 13, 22⟩] ⟨0, 10, 17, 13⟩ [] ht (fun z hz => by cases List.mem_singleton.mp hz; exact ⟨by decide, _, clk_22, (hLn s hC.2.2.2.2.2.2.1).1⟩) (by decide) (by decide) clk_13 cast_13 (fun h1 hq H locs ls q hW hL => ?_)
  exact w_hand hC dL_pattern_17 dL_pattern_19 dL_pattern_20 (by decide) hr hlk (Nat.le_refl _) (Nat.le_refl _) hW hL ⟨rfl, hq⟩
theorem wr_pass (hE : envOK Γ St) {adV : Nat → Nat} (hX : envX Γ St adV) (hl9 : l.stackTraces = false) (hN : 132 ≤ NC) {fs : List Value} (ha : h 0 = .inr (5, fs)) {w1 : Int32} {Q1 : qt} (k1 : Cl NC M_X5_pass [.ref 0, .int w1] h Q1) (ho : ∀ v h1, Q1 v h1 → ∃ f, h1 131 = .inl (5, 1, .inr (.inl f))) : MetW Γ l St NC M_L_pass H_pass [.ref 0, .int w1, .ref 131] h (fun r u => r = I 0 ∧ ∃ v h1 f, Q1 (.int v) h1 ∧ u = va_up h1 131 (.inl (5, 1, .inr (.inl f))) ∧ f 0 = v.toInt64) := by
  refine metW_of (by decide) rfl rfl (fun v hv => by simp only [List.mem_cons, List.not_mem_nil, or_false] at hv; rcases hv with rfl | rfl | rfl <;> (intro z; cases z)) (Nat.le_of_ble_eq_true rfl) (fun p e s m args below meth c hC hr hlk ht => ?_)
  refine fs_aload_n hC dL_pass_0 rfl ?_
  refine fs_iconst hC dL_pass_1 ?_
  refine fs_aload_n hC dL_pass_2 rfl ?_
  refine fs_iload_n hC dL_pass_3 rfl ?_
  refine fs_cvi hE hX hl9 hC ⟨Nat.zero_le _, Nat.zero_le _⟩ (As := [.int w1]) dL_pass_4 lnL_pass rfl rfl (Nat.le_of_ble_eq_true rfl) (by omega) ha rfl (Or.inl rfl) k1 (fun r h1 hq => ?_)
  obtain ⟨f, hf⟩ := ho _ _ hq
  refine fs_i2l hC dL_pass_7 ?_
  refine fs_last hC dL_pass_8 (by omega) hf (fun f1 hf1 => ?_)
  refine fs_goto hC (tgt := 15) dL_pass_9 (by decide) ?_
  refine fs_iconst hC dL_pass_15 ?_
  exact fs_iretW hC dL_pass_16 hr hlk (Nat.zero_le _) (Nat.zero_le _) ⟨rfl, r, h1, f1, hq, rfl, hf1⟩
theorem wx_pass1 (hE : envOK Γ St) {adV : Nat → Nat} (hX : envX Γ St adV) (hl9 : l.stackTraces = false) (hLn : envL St) (hN : 132 ≤ NC) {fs : List Value} (ha : h 0 = .inr (5, fs)) {w1 : Int32} {Q1 : qt} (k1 : Ct NC "java/lang/IllegalArgumentException" M_X5_pass [.ref 0, .int w1] h Q1) : MetW Γ l St NC M_L_pass H_pass [.ref 0, .int w1, .ref 131] h (fun r u => r = I 1 ∧ Q1 .null u) := by
  refine metW_of (by decide) rfl rfl (fun v hv => by simp only [List.mem_cons, List.not_mem_nil, or_false] at hv; rcases hv with rfl | rfl | rfl <;> (intro z; cases z)) (Nat.le_of_ble_eq_true rfl) (fun p e s m args below meth c hC hr hlk ht => ?_)
  refine fs_aload_n hC dL_pass_0 rfl ?_
  refine fs_iconst hC dL_pass_1 ?_
  refine fs_aload_n hC dL_pass_2 rfl ?_
  refine fs_iload_n hC dL_pass_3 rfl ?_
  refine fs_cvx hE hX hl9 hC ⟨Nat.le_refl _, Nat.le_refl _⟩ (As := [.int w1]) dL_pass_4 lnL_pass rfl rfl (Nat.le_of_ble_eq_true rfl) (by omega) ha rfl k1 [] ⟨0, 9, 12, 13⟩ [] ht (fun z hz => by cases hz) (by decide) (by decide) clk_13 cast_13 (fun h1 hq H locs ls q hW hL => ?_)
  exact w_hand_n hC dL_pass_12 dL_pass_13 dL_pass_14 (by decide) hr hlk (Nat.le_refl _) (Nat.le_refl _) hW hL ⟨rfl, hq⟩
theorem wr_paint (hE : envOK Γ St) {adV : Nat → Nat} (hX : envX Γ St adV) (hl9 : l.stackTraces = false) (hN : 132 ≤ NC) {fs : List Value} (ha : h 0 = .inr (5, fs)) {w1 w2 w3 w4 w5 : Int32} {Q1 : qt} (k1 : Cl NC M_X5_paint [.ref 0, .int w1, .int w2, .int w3, .int w4, .int w5] h Q1) (ho : ∀ v h1, Q1 v h1 → ∃ f, h1 131 = .inl (5, 1, .inr (.inl f))) : MetW Γ l St NC M_L_paint H_paint [.ref 0, .int w1, .int w2, .int w3, .int w4, .int w5, .ref 131] h (fun r u => r = I 0 ∧ ∃ v h1 f, Q1 (.int v) h1 ∧ u = va_up h1 131 (.inl (5, 1, .inr (.inl f))) ∧ f 0 = v.toInt64) := by
  refine metW_of (by decide) rfl rfl (fun v hv => by simp only [List.mem_cons, List.not_mem_nil, or_false] at hv; rcases hv with rfl | rfl | rfl | rfl | rfl | rfl | rfl <;> (intro z; cases z)) (Nat.le_of_ble_eq_true rfl) (fun p e s m args below meth c hC hr hlk ht => ?_)
  refine fs_aload hC dL_paint_0 rfl ?_
  refine fs_iconst hC dL_paint_2 ?_
  refine fs_aload_n hC dL_paint_3 rfl ?_
  refine fs_iload_n hC dL_paint_4 rfl ?_
  refine fs_iload_n hC dL_paint_5 rfl ?_
  refine fs_iload_n hC dL_paint_6 rfl ?_
  refine fs_iload hC dL_paint_7 rfl ?_
  refine fs_iload hC dL_paint_9 rfl ?_
  refine fs_cvi hE hX hl9 hC ⟨Nat.zero_le _, Nat.zero_le _⟩ (As := [.int w1, .int w2, .int w3, .int w4, .int w5]) dL_paint_11 lnL_paint rfl rfl (Nat.le_of_ble_eq_true rfl) (by omega) ha rfl (Or.inl rfl) k1 (fun r h1 hq => ?_)
  obtain ⟨f, hf⟩ := ho _ _ hq
  refine fs_i2l hC dL_paint_14 ?_
  refine fs_last hC dL_paint_15 (by omega) hf (fun f1 hf1 => ?_)
  refine fs_goto hC (tgt := 27) dL_paint_16 (by decide) ?_
  refine fs_iconst hC dL_paint_27 ?_
  exact fs_iretW hC dL_paint_28 hr hlk (Nat.zero_le _) (Nat.zero_le _) ⟨rfl, r, h1, f1, hq, rfl, hf1⟩
theorem wx_paint1 (hE : envOK Γ St) {adV : Nat → Nat} (hX : envX Γ St adV) (hl9 : l.stackTraces = false) (hLn : envL St) (hN : 132 ≤ NC) {fs : List Value} (ha : h 0 = .inr (5, fs)) {w1 w2 w3 w4 w5 : Int32} {Q1 : qt} (k1 : Ct NC "java/lang/IndexOutOfBoundsException" M_X5_paint [.ref 0, .int w1, .int w2, .int w3, .int w4, .int w5] h Q1) : MetW Γ l St NC M_L_paint H_paint [.ref 0, .int w1, .int w2, .int w3, .int w4, .int w5, .ref 131] h (fun r u => r = I 1 ∧ Q1 .null u) := by
  refine metW_of (by decide) rfl rfl (fun v hv => by simp only [List.mem_cons, List.not_mem_nil, or_false] at hv; rcases hv with rfl | rfl | rfl | rfl | rfl | rfl | rfl <;> (intro z; cases z)) (Nat.le_of_ble_eq_true rfl) (fun p e s m args below meth c hC hr hlk ht => ?_)
  refine fs_aload hC dL_paint_0 rfl ?_
  refine fs_iconst hC dL_paint_2 ?_
  refine fs_aload_n hC dL_paint_3 rfl ?_
  refine fs_iload_n hC dL_paint_4 rfl ?_
  refine fs_iload_n hC dL_paint_5 rfl ?_
  refine fs_iload_n hC dL_paint_6 rfl ?_
  refine fs_iload hC dL_paint_7 rfl ?_
  refine fs_iload hC dL_paint_9 rfl ?_
  refine fs_cvx hE hX hl9 hC ⟨Nat.le_refl _, Nat.le_refl _⟩ (As := [.int w1, .int w2, .int w3, .int w4, .int w5]) dL_paint_11 lnL_paint rfl rfl (Nat.le_of_ble_eq_true rfl) (by omega) ha rfl k1 [] ⟨0, 16, 19, 22⟩ [⟨0, 16, 23, 13⟩] ht (fun z hz => by cases hz) (by decide) (by decide) clk_22 cast_22 (fun h1 hq H locs ls q hW hL => ?_)
  exact w_hand hC dL_paint_19 dL_paint_21 dL_paint_22 (by decide) hr hlk (Nat.le_refl _) (Nat.le_refl _) hW hL ⟨rfl, hq⟩
theorem wx_paint2 (hE : envOK Γ St) {adV : Nat → Nat} (hX : envX Γ St adV) (hl9 : l.stackTraces = false) (hLn : envL St) (hN : 132 ≤ NC) {fs : List Value} (ha : h 0 = .inr (5, fs)) {w1 w2 w3 w4 w5 : Int32} {Q1 : qt} (k1 : Ct NC "java/lang/IllegalArgumentException" M_X5_paint [.ref 0, .int w1, .int w2, .int w3, .int w4, .int w5] h Q1) : MetW Γ l St NC M_L_paint H_paint [.ref 0, .int w1, .int w2, .int w3, .int w4, .int w5, .ref 131] h (fun r u => r = I 2 ∧ Q1 .null u) := by
  refine metW_of (by decide) rfl rfl (fun v hv => by simp only [List.mem_cons, List.not_mem_nil, or_false] at hv; rcases hv with rfl | rfl | rfl | rfl | rfl | rfl | rfl <;> (intro z; cases z)) (Nat.le_of_ble_eq_true rfl) (fun p e s m args below meth c hC hr hlk ht => ?_)
  refine fs_aload hC dL_paint_0 rfl ?_
  refine fs_iconst hC dL_paint_2 ?_
  refine fs_aload_n hC dL_paint_3 rfl ?_
  refine fs_iload_n hC dL_paint_4 rfl ?_
  refine fs_iload_n hC dL_paint_5 rfl ?_
  refine fs_iload_n hC dL_paint_6 rfl ?_
  refine fs_iload hC dL_paint_7 rfl ?_
  refine fs_iload hC dL_paint_9 rfl ?_
  refine fs_cvx hE hX hl9 hC ⟨Nat.le_refl _, Nat.le_refl _⟩ (As := [.int w1, .int w2, .int w3, .int w4, .int w5]) dL_paint_11 lnL_paint rfl rfl (Nat.le_of_ble_eq_true rfl) (by omega) ha rfl k1 [⟨0, 16, 19, 22⟩] ⟨0, 16, 23, 13⟩ [] ht (fun z hz => by cases List.mem_singleton.mp hz; exact ⟨by decide, _, clk_22, (hLn s hC.2.2.2.2.2.2.1).1⟩) (by decide) (by decide) clk_13 cast_13 (fun h1 hq H locs ls q hW hL => ?_)
  exact w_hand hC dL_paint_23 dL_paint_25 dL_paint_26 (by decide) hr hlk (Nat.le_refl _) (Nat.le_refl _) hW hL ⟨rfl, hq⟩
theorem wr_stroke (hE : envOK Γ St) {adV : Nat → Nat} (hX : envX Γ St adV) (hl9 : l.stackTraces = false) (hN : 132 ≤ NC) {fs : List Value} (ha : h 0 = .inr (5, fs)) {w1 w2 w3 w4 w5 : Int32} {Q1 : qt} (k1 : Cl NC M_X5_stroke [.ref 0, .int w1, .int w2, .int w3, .int w4, .int w5] h Q1) (ho : ∀ v h1, Q1 v h1 → ∃ f, h1 131 = .inl (5, 1, .inr (.inl f))) : MetW Γ l St NC M_L_stroke H_stroke [.ref 0, .int w1, .int w2, .int w3, .int w4, .int w5, .ref 131] h (fun r u => r = I 0 ∧ ∃ v h1 f, Q1 (.int v) h1 ∧ u = va_up h1 131 (.inl (5, 1, .inr (.inl f))) ∧ f 0 = v.toInt64) := by
  refine metW_of (by decide) rfl rfl (fun v hv => by simp only [List.mem_cons, List.not_mem_nil, or_false] at hv; rcases hv with rfl | rfl | rfl | rfl | rfl | rfl | rfl <;> (intro z; cases z)) (Nat.le_of_ble_eq_true rfl) (fun p e s m args below meth c hC hr hlk ht => ?_)
  refine fs_aload hC dL_stroke_0 rfl ?_
  refine fs_iconst hC dL_stroke_2 ?_
  refine fs_aload_n hC dL_stroke_3 rfl ?_
  refine fs_iload_n hC dL_stroke_4 rfl ?_
  refine fs_iload_n hC dL_stroke_5 rfl ?_
  refine fs_iload_n hC dL_stroke_6 rfl ?_
  refine fs_iload hC dL_stroke_7 rfl ?_
  refine fs_iload hC dL_stroke_9 rfl ?_
  refine fs_cvi hE hX hl9 hC ⟨Nat.zero_le _, Nat.zero_le _⟩ (As := [.int w1, .int w2, .int w3, .int w4, .int w5]) dL_stroke_11 lnL_stroke rfl rfl (Nat.le_of_ble_eq_true rfl) (by omega) ha rfl (Or.inl rfl) k1 (fun r h1 hq => ?_)
  obtain ⟨f, hf⟩ := ho _ _ hq
  refine fs_i2l hC dL_stroke_14 ?_
  refine fs_last hC dL_stroke_15 (by omega) hf (fun f1 hf1 => ?_)
  refine fs_goto hC (tgt := 27) dL_stroke_16 (by decide) ?_
  refine fs_iconst hC dL_stroke_27 ?_
  exact fs_iretW hC dL_stroke_28 hr hlk (Nat.zero_le _) (Nat.zero_le _) ⟨rfl, r, h1, f1, hq, rfl, hf1⟩
theorem wx_stroke1 (hE : envOK Γ St) {adV : Nat → Nat} (hX : envX Γ St adV) (hl9 : l.stackTraces = false) (hLn : envL St) (hN : 132 ≤ NC) {fs : List Value} (ha : h 0 = .inr (5, fs)) {w1 w2 w3 w4 w5 : Int32} {Q1 : qt} (k1 : Ct NC "java/lang/IndexOutOfBoundsException" M_X5_stroke [.ref 0, .int w1, .int w2, .int w3, .int w4, .int w5] h Q1) : MetW Γ l St NC M_L_stroke H_stroke [.ref 0, .int w1, .int w2, .int w3, .int w4, .int w5, .ref 131] h (fun r u => r = I 1 ∧ Q1 .null u) := by
  refine metW_of (by decide) rfl rfl (fun v hv => by simp only [List.mem_cons, List.not_mem_nil, or_false] at hv; rcases hv with rfl | rfl | rfl | rfl | rfl | rfl | rfl <;> (intro z; cases z)) (Nat.le_of_ble_eq_true rfl) (fun p e s m args below meth c hC hr hlk ht => ?_)
  refine fs_aload hC dL_stroke_0 rfl ?_
  refine fs_iconst hC dL_stroke_2 ?_
  refine fs_aload_n hC dL_stroke_3 rfl ?_
  refine fs_iload_n hC dL_stroke_4 rfl ?_
  refine fs_iload_n hC dL_stroke_5 rfl ?_
  refine fs_iload_n hC dL_stroke_6 rfl ?_
  refine fs_iload hC dL_stroke_7 rfl ?_
  refine fs_iload hC dL_stroke_9 rfl ?_
  refine fs_cvx hE hX hl9 hC ⟨Nat.le_refl _, Nat.le_refl _⟩ (As := [.int w1, .int w2, .int w3, .int w4, .int w5]) dL_stroke_11 lnL_stroke rfl rfl (Nat.le_of_ble_eq_true rfl) (by omega) ha rfl k1 [] ⟨0, 16, 19, 22⟩ [⟨0, 16, 23, 13⟩] ht (fun z hz => by cases hz) (by decide) (by decide) clk_22 cast_22 (fun h1 hq H locs ls q hW hL => ?_)
  exact w_hand hC dL_stroke_19 dL_stroke_21 dL_stroke_22 (by decide) hr hlk (Nat.le_refl _) (Nat.le_refl _) hW hL ⟨rfl, hq⟩
theorem wx_stroke2 (hE : envOK Γ St) {adV : Nat → Nat} (hX : envX Γ St adV) (hl9 : l.stackTraces = false) (hLn : envL St) (hN : 132 ≤ NC) {fs : List Value} (ha : h 0 = .inr (5, fs)) {w1 w2 w3 w4 w5 : Int32} {Q1 : qt} (k1 : Ct NC "java/lang/IllegalArgumentException" M_X5_stroke [.ref 0, .int w1, .int w2, .int w3, .int w4, .int w5] h Q1) : MetW Γ l St NC M_L_stroke H_stroke [.ref 0, .int w1, .int w2, .int w3, .int w4, .int w5, .ref 131] h (fun r u => r = I 2 ∧ Q1 .null u) := by
  refine metW_of (by decide) rfl rfl (fun v hv => by simp only [List.mem_cons, List.not_mem_nil, or_false] at hv; rcases hv with rfl | rfl | rfl | rfl | rfl | rfl | rfl <;> (intro z; cases z)) (Nat.le_of_ble_eq_true rfl) (fun p e s m args below meth c hC hr hlk ht => ?_)
  refine fs_aload hC dL_stroke_0 rfl ?_
  refine fs_iconst hC dL_stroke_2 ?_
  refine fs_aload_n hC dL_stroke_3 rfl ?_
  refine fs_iload_n hC dL_stroke_4 rfl ?_
  refine fs_iload_n hC dL_stroke_5 rfl ?_
  refine fs_iload_n hC dL_stroke_6 rfl ?_
  refine fs_iload hC dL_stroke_7 rfl ?_
  refine fs_iload hC dL_stroke_9 rfl ?_
  refine fs_cvx hE hX hl9 hC ⟨Nat.le_refl _, Nat.le_refl _⟩ (As := [.int w1, .int w2, .int w3, .int w4, .int w5]) dL_stroke_11 lnL_stroke rfl rfl (Nat.le_of_ble_eq_true rfl) (by omega) ha rfl k1 [⟨0, 16, 19, 22⟩] ⟨0, 16, 23, 13⟩ [] ht (fun z hz => by cases List.mem_singleton.mp hz; exact ⟨by decide, _, clk_22, (hLn s hC.2.2.2.2.2.2.1).1⟩) (by decide) (by decide) clk_13 cast_13 (fun h1 hq H locs ls q hW hL => ?_)
  exact w_hand hC dL_stroke_23 dL_stroke_25 dL_stroke_26 (by decide) hr hlk (Nat.le_refl _) (Nat.le_refl _) hW hL ⟨rfl, hq⟩
theorem wr_stamp (hE : envOK Γ St) {adV : Nat → Nat} (hX : envX Γ St adV) (hl9 : l.stackTraces = false) (hN : 132 ≤ NC) {fs : List Value} (ha : h 0 = .inr (5, fs)) {w1 w2 w3 w4 : Int32} {Q1 : qt} (k1 : Cl NC M_X5_stamp [.ref 0, .int w1, .int w2, .int w3, .int w4] h Q1) (ho : ∀ v h1, Q1 v h1 → ∃ f, h1 131 = .inl (5, 1, .inr (.inl f))) : MetW Γ l St NC M_L_stamp H_stamp [.ref 0, .int w1, .int w2, .int w3, .int w4, .ref 131] h (fun r u => r = I 0 ∧ ∃ v h1 f, Q1 (.int v) h1 ∧ u = va_up h1 131 (.inl (5, 1, .inr (.inl f))) ∧ f 0 = v.toInt64) := by
  refine metW_of (by decide) rfl rfl (fun v hv => by simp only [List.mem_cons, List.not_mem_nil, or_false] at hv; rcases hv with rfl | rfl | rfl | rfl | rfl | rfl <;> (intro z; cases z)) (Nat.le_of_ble_eq_true rfl) (fun p e s m args below meth c hC hr hlk ht => ?_)
  refine fs_aload hC dL_stamp_0 rfl ?_
  refine fs_iconst hC dL_stamp_2 ?_
  refine fs_aload_n hC dL_stamp_3 rfl ?_
  refine fs_iload_n hC dL_stamp_4 rfl ?_
  refine fs_iload_n hC dL_stamp_5 rfl ?_
  refine fs_iload_n hC dL_stamp_6 rfl ?_
  refine fs_iload hC dL_stamp_7 rfl ?_
  refine fs_cvi hE hX hl9 hC ⟨Nat.zero_le _, Nat.zero_le _⟩ (As := [.int w1, .int w2, .int w3, .int w4]) dL_stamp_9 lnL_stamp rfl rfl (Nat.le_of_ble_eq_true rfl) (by omega) ha rfl (Or.inl rfl) k1 (fun r h1 hq => ?_)
  obtain ⟨f, hf⟩ := ho _ _ hq
  refine fs_i2l hC dL_stamp_12 ?_
  refine fs_last hC dL_stamp_13 (by omega) hf (fun f1 hf1 => ?_)
  refine fs_goto hC (tgt := 21) dL_stamp_14 (by decide) ?_
  refine fs_iconst hC dL_stamp_21 ?_
  exact fs_iretW hC dL_stamp_22 hr hlk (Nat.zero_le _) (Nat.zero_le _) ⟨rfl, r, h1, f1, hq, rfl, hf1⟩
theorem wx_stamp1 (hE : envOK Γ St) {adV : Nat → Nat} (hX : envX Γ St adV) (hl9 : l.stackTraces = false) (hLn : envL St) (hN : 132 ≤ NC) {fs : List Value} (ha : h 0 = .inr (5, fs)) {w1 w2 w3 w4 : Int32} {Q1 : qt} (k1 : Ct NC "java/lang/IndexOutOfBoundsException" M_X5_stamp [.ref 0, .int w1, .int w2, .int w3, .int w4] h Q1) : MetW Γ l St NC M_L_stamp H_stamp [.ref 0, .int w1, .int w2, .int w3, .int w4, .ref 131] h (fun r u => r = I 1 ∧ Q1 .null u) := by
  refine metW_of (by decide) rfl rfl (fun v hv => by simp only [List.mem_cons, List.not_mem_nil, or_false] at hv; rcases hv with rfl | rfl | rfl | rfl | rfl | rfl <;> (intro z; cases z)) (Nat.le_of_ble_eq_true rfl) (fun p e s m args below meth c hC hr hlk ht => ?_)
  refine fs_aload hC dL_stamp_0 rfl ?_
  refine fs_iconst hC dL_stamp_2 ?_
  refine fs_aload_n hC dL_stamp_3 rfl ?_
  refine fs_iload_n hC dL_stamp_4 rfl ?_
  refine fs_iload_n hC dL_stamp_5 rfl ?_
  refine fs_iload_n hC dL_stamp_6 rfl ?_
  refine fs_iload hC dL_stamp_7 rfl ?_
  refine fs_cvx hE hX hl9 hC ⟨Nat.le_refl _, Nat.le_refl _⟩ (As := [.int w1, .int w2, .int w3, .int w4]) dL_stamp_9 lnL_stamp rfl rfl (Nat.le_of_ble_eq_true rfl) (by omega) ha rfl k1 [] ⟨0, 14, 17, 22⟩ [] ht (fun z hz => by cases hz) (by decide) (by decide) clk_22 cast_22 (fun h1 hq H locs ls q hW hL => ?_)
  exact w_hand hC dL_stamp_17 dL_stamp_19 dL_stamp_20 (by decide) hr hlk (Nat.le_refl _) (Nat.le_refl _) hW hL ⟨rfl, hq⟩
theorem wr_spar (hE : envOK Γ St) {adV : Nat → Nat} (hX : envX Γ St adV) (hl9 : l.stackTraces = false) (hN : 132 ≤ NC) {fs : List Value} (ha : h 0 = .inr (5, fs)) {w1 w2 w3 w4 : Int32} {Q1 : qt} (k1 : Cl NC M_X5_spar [.ref 0, .int w1, .int w2, .int w3, .int w4] h Q1) (ho : ∀ v h1, Q1 v h1 → ∃ f, h1 131 = .inl (5, 1, .inr (.inl f))) : MetW Γ l St NC M_L_spar H_spar [.ref 0, .int w1, .int w2, .int w3, .int w4, .ref 131] h (fun r u => r = I 0 ∧ ∃ v h1 f, Q1 (.int v) h1 ∧ u = va_up h1 131 (.inl (5, 1, .inr (.inl f))) ∧ f 0 = v.toInt64) := by
  refine metW_of (by decide) rfl rfl (fun v hv => by simp only [List.mem_cons, List.not_mem_nil, or_false] at hv; rcases hv with rfl | rfl | rfl | rfl | rfl | rfl <;> (intro z; cases z)) (Nat.le_of_ble_eq_true rfl) (fun p e s m args below meth c hC hr hlk ht => ?_)
  refine fs_aload hC dL_spar_0 rfl ?_
  refine fs_iconst hC dL_spar_2 ?_
  refine fs_aload_n hC dL_spar_3 rfl ?_
  refine fs_iload_n hC dL_spar_4 rfl ?_
  refine fs_iload_n hC dL_spar_5 rfl ?_
  refine fs_iload_n hC dL_spar_6 rfl ?_
  refine fs_iload hC dL_spar_7 rfl ?_
  refine fs_cvi hE hX hl9 hC ⟨Nat.zero_le _, Nat.zero_le _⟩ (As := [.int w1, .int w2, .int w3, .int w4]) dL_spar_9 lnL_spar rfl rfl (Nat.le_of_ble_eq_true rfl) (by omega) ha rfl (Or.inl rfl) k1 (fun r h1 hq => ?_)
  obtain ⟨f, hf⟩ := ho _ _ hq
  refine fs_i2l hC dL_spar_12 ?_
  refine fs_last hC dL_spar_13 (by omega) hf (fun f1 hf1 => ?_)
  refine fs_goto hC (tgt := 25) dL_spar_14 (by decide) ?_
  refine fs_iconst hC dL_spar_25 ?_
  exact fs_iretW hC dL_spar_26 hr hlk (Nat.zero_le _) (Nat.zero_le _) ⟨rfl, r, h1, f1, hq, rfl, hf1⟩
theorem wx_spar1 (hE : envOK Γ St) {adV : Nat → Nat} (hX : envX Γ St adV) (hl9 : l.stackTraces = false) (hLn : envL St) (hN : 132 ≤ NC) {fs : List Value} (ha : h 0 = .inr (5, fs)) {w1 w2 w3 w4 : Int32} {Q1 : qt} (k1 : Ct NC "java/lang/IndexOutOfBoundsException" M_X5_spar [.ref 0, .int w1, .int w2, .int w3, .int w4] h Q1) : MetW Γ l St NC M_L_spar H_spar [.ref 0, .int w1, .int w2, .int w3, .int w4, .ref 131] h (fun r u => r = I 1 ∧ Q1 .null u) := by
  refine metW_of (by decide) rfl rfl (fun v hv => by simp only [List.mem_cons, List.not_mem_nil, or_false] at hv; rcases hv with rfl | rfl | rfl | rfl | rfl | rfl <;> (intro z; cases z)) (Nat.le_of_ble_eq_true rfl) (fun p e s m args below meth c hC hr hlk ht => ?_)
  refine fs_aload hC dL_spar_0 rfl ?_
  refine fs_iconst hC dL_spar_2 ?_
  refine fs_aload_n hC dL_spar_3 rfl ?_
  refine fs_iload_n hC dL_spar_4 rfl ?_
  refine fs_iload_n hC dL_spar_5 rfl ?_
  refine fs_iload_n hC dL_spar_6 rfl ?_
  refine fs_iload hC dL_spar_7 rfl ?_
  refine fs_cvx hE hX hl9 hC ⟨Nat.le_refl _, Nat.le_refl _⟩ (As := [.int w1, .int w2, .int w3, .int w4]) dL_spar_9 lnL_spar rfl rfl (Nat.le_of_ble_eq_true rfl) (by omega) ha rfl k1 [] ⟨0, 14, 17, 22⟩ [⟨0, 14, 21, 13⟩] ht (fun z hz => by cases hz) (by decide) (by decide) clk_22 cast_22 (fun h1 hq H locs ls q hW hL => ?_)
  exact w_hand hC dL_spar_17 dL_spar_19 dL_spar_20 (by decide) hr hlk (Nat.le_refl _) (Nat.le_refl _) hW hL ⟨rfl, hq⟩
theorem wx_spar2 (hE : envOK Γ St) {adV : Nat → Nat} (hX : envX Γ St adV) (hl9 : l.stackTraces = false) (hLn : envL St) (hN : 132 ≤ NC) {fs : List Value} (ha : h 0 = .inr (5, fs)) {w1 w2 w3 w4 : Int32} {Q1 : qt} (k1 : Ct NC "java/lang/IllegalArgumentException" M_X5_spar [.ref 0, .int w1, .int w2, .int w3, .int w4] h Q1) : MetW Γ l St NC M_L_spar H_spar [.ref 0, .int w1, .int w2, .int w3, .int w4, .ref 131] h (fun r u => r = I 2 ∧ Q1 .null u) := by
  refine metW_of (by decide) rfl rfl (fun v hv => by simp only [List.mem_cons, List.not_mem_nil, or_false] at hv; rcases hv with rfl | rfl | rfl | rfl | rfl | rfl <;> (intro z; cases z)) (Nat.le_of_ble_eq_true rfl) (fun p e s m args below meth c hC hr hlk ht => ?_)
  refine fs_aload hC dL_spar_0 rfl ?_
  refine fs_iconst hC dL_spar_2 ?_
  refine fs_aload_n hC dL_spar_3 rfl ?_
  refine fs_iload_n hC dL_spar_4 rfl ?_
  refine fs_iload_n hC dL_spar_5 rfl ?_
  refine fs_iload_n hC dL_spar_6 rfl ?_
  refine fs_iload hC dL_spar_7 rfl ?_
  refine fs_cvx hE hX hl9 hC ⟨Nat.le_refl _, Nat.le_refl _⟩ (As := [.int w1, .int w2, .int w3, .int w4]) dL_spar_9 lnL_spar rfl rfl (Nat.le_of_ble_eq_true rfl) (by omega) ha rfl k1 [⟨0, 14, 17, 22⟩] ⟨0, 14, 21, 13⟩ [] ht (fun z hz => by cases List.mem_singleton.mp hz; exact ⟨by decide, _, clk_22, (hLn s hC.2.2.2.2.2.2.1).1⟩) (by decide) (by decide) clk_13 cast_13 (fun h1 hq H locs ls q hW hL => ?_)
  exact w_hand hC dL_spar_21 dL_spar_23 dL_spar_24 (by decide) hr hlk (Nat.le_refl _) (Nat.le_refl _) hW hL ⟨rfl, hq⟩
theorem wr_strip (hE : envOK Γ St) {adV : Nat → Nat} (hX : envX Γ St adV) (hl9 : l.stackTraces = false) (hN : 132 ≤ NC) {fs : List Value} (ha : h 0 = .inr (5, fs)) {w1 w2 : Int32} {Q1 : qt} (k1 : Cl NC M_X5_strip [.ref 0, .int w1, .int w2] h Q1) (ho : ∀ v h1, Q1 v h1 → ∃ f, h1 131 = .inl (5, 1, .inr (.inl f))) : MetW Γ l St NC M_L_strip H_strip [.ref 0, .int w1, .int w2, .ref 131] h (fun r u => r = I 0 ∧ ∃ v h1 f, Q1 (.int v) h1 ∧ u = va_up h1 131 (.inl (5, 1, .inr (.inl f))) ∧ f 0 = v.toInt64) := by
  refine metW_of (by decide) rfl rfl (fun v hv => by simp only [List.mem_cons, List.not_mem_nil, or_false] at hv; rcases hv with rfl | rfl | rfl | rfl <;> (intro z; cases z)) (Nat.le_of_ble_eq_true rfl) (fun p e s m args below meth c hC hr hlk ht => ?_)
  refine fs_aload_n hC dL_strip_0 rfl ?_
  refine fs_iconst hC dL_strip_1 ?_
  refine fs_aload_n hC dL_strip_2 rfl ?_
  refine fs_iload_n hC dL_strip_3 rfl ?_
  refine fs_iload_n hC dL_strip_4 rfl ?_
  refine fs_cvi hE hX hl9 hC ⟨Nat.zero_le _, Nat.zero_le _⟩ (As := [.int w1, .int w2]) dL_strip_5 lnL_strip rfl rfl (Nat.le_of_ble_eq_true rfl) (by omega) ha rfl (Or.inl rfl) k1 (fun r h1 hq => ?_)
  obtain ⟨f, hf⟩ := ho _ _ hq
  refine fs_i2l hC dL_strip_8 ?_
  refine fs_last hC dL_strip_9 (by omega) hf (fun f1 hf1 => ?_)
  refine fs_goto hC (tgt := 21) dL_strip_10 (by decide) ?_
  refine fs_iconst hC dL_strip_21 ?_
  exact fs_iretW hC dL_strip_22 hr hlk (Nat.zero_le _) (Nat.zero_le _) ⟨rfl, r, h1, f1, hq, rfl, hf1⟩
theorem wx_strip1 (hE : envOK Γ St) {adV : Nat → Nat} (hX : envX Γ St adV) (hl9 : l.stackTraces = false) (hLn : envL St) (hN : 132 ≤ NC) {fs : List Value} (ha : h 0 = .inr (5, fs)) {w1 w2 : Int32} {Q1 : qt} (k1 : Ct NC "java/lang/IndexOutOfBoundsException" M_X5_strip [.ref 0, .int w1, .int w2] h Q1) : MetW Γ l St NC M_L_strip H_strip [.ref 0, .int w1, .int w2, .ref 131] h (fun r u => r = I 1 ∧ Q1 .null u) := by
  refine metW_of (by decide) rfl rfl (fun v hv => by simp only [List.mem_cons, List.not_mem_nil, or_false] at hv; rcases hv with rfl | rfl | rfl | rfl <;> (intro z; cases z)) (Nat.le_of_ble_eq_true rfl) (fun p e s m args below meth c hC hr hlk ht => ?_)
  refine fs_aload_n hC dL_strip_0 rfl ?_
  refine fs_iconst hC dL_strip_1 ?_
  refine fs_aload_n hC dL_strip_2 rfl ?_
  refine fs_iload_n hC dL_strip_3 rfl ?_
  refine fs_iload_n hC dL_strip_4 rfl ?_
  refine fs_cvx hE hX hl9 hC ⟨Nat.le_refl _, Nat.le_refl _⟩ (As := [.int w1, .int w2]) dL_strip_5 lnL_strip rfl rfl (Nat.le_of_ble_eq_true rfl) (by omega) ha rfl k1 [] ⟨0, 10, 13, 22⟩ [⟨0, 10, 17, 71⟩] ht (fun z hz => by cases hz) (by decide) (by decide) clk_22 cast_22 (fun h1 hq H locs ls q hW hL => ?_)
  exact w_hand hC dL_strip_13 dL_strip_15 dL_strip_16 (by decide) hr hlk (Nat.le_refl _) (Nat.le_refl _) hW hL ⟨rfl, hq⟩
theorem wx_strip2 (hE : envOK Γ St) {adV : Nat → Nat} (hX : envX Γ St adV) (hl9 : l.stackTraces = false) (hLn : envL St) (hN : 132 ≤ NC) {fs : List Value} (ha : h 0 = .inr (5, fs)) {w1 w2 : Int32} {Q1 : qt} (k1 : Ct NC "java/lang/IllegalStateException" M_X5_strip [.ref 0, .int w1, .int w2] h Q1) : MetW Γ l St NC M_L_strip H_strip [.ref 0, .int w1, .int w2, .ref 131] h (fun r u => r = I 2 ∧ Q1 .null u) := by
  refine metW_of (by decide) rfl rfl (fun v hv => by simp only [List.mem_cons, List.not_mem_nil, or_false] at hv; rcases hv with rfl | rfl | rfl | rfl <;> (intro z; cases z)) (Nat.le_of_ble_eq_true rfl) (fun p e s m args below meth c hC hr hlk ht => ?_)
  refine fs_aload_n hC dL_strip_0 rfl ?_
  refine fs_iconst hC dL_strip_1 ?_
  refine fs_aload_n hC dL_strip_2 rfl ?_
  refine fs_iload_n hC dL_strip_3 rfl ?_
  refine fs_iload_n hC dL_strip_4 rfl ?_
  refine fs_cvx hE hX hl9 hC ⟨Nat.le_refl _, Nat.le_refl _⟩ (As := [.int w1, .int w2]) dL_strip_5 lnL_strip rfl rfl (Nat.le_of_ble_eq_true rfl) (by omega) ha rfl k1 [⟨0, 10, 13, 22⟩] ⟨0, 10, 17, 71⟩ [] ht (fun z hz => by cases List.mem_singleton.mp hz; exact ⟨by decide, _, clk_22, (hLn s hC.2.2.2.2.2.2.1).2⟩) (by decide) (by decide) clk_71 cast_71 (fun h1 hq H locs ls q hW hL => ?_)
  exact w_hand hC dL_strip_17 dL_strip_19 dL_strip_20 (by decide) hr hlk (Nat.le_refl _) (Nat.le_refl _) hW hL ⟨rfl, hq⟩
theorem wr_wash (hE : envOK Γ St) {adV : Nat → Nat} (hX : envX Γ St adV) (hl9 : l.stackTraces = false) (hN : 132 ≤ NC) {fs : List Value} (ha : h 0 = .inr (5, fs)) {w1 w2 : Int32} {Q1 : qt} (k1 : Cl NC M_X5_wash [.ref 0, .int w1, .int w2] h Q1) (ho : ∀ v h1, Q1 v h1 → ∃ f, h1 131 = .inl (5, 1, .inr (.inl f))) : MetW Γ l St NC M_L_wash H_wash [.ref 0, .int w1, .int w2, .ref 131] h (fun r u => r = I 0 ∧ ∃ v h1 f, Q1 (.int v) h1 ∧ u = va_up h1 131 (.inl (5, 1, .inr (.inl f))) ∧ f 0 = v.toInt64) := by
  refine metW_of (by decide) rfl rfl (fun v hv => by simp only [List.mem_cons, List.not_mem_nil, or_false] at hv; rcases hv with rfl | rfl | rfl | rfl <;> (intro z; cases z)) (Nat.le_of_ble_eq_true rfl) (fun p e s m args below meth c hC hr hlk ht => ?_)
  refine fs_aload_n hC dL_wash_0 rfl ?_
  refine fs_iconst hC dL_wash_1 ?_
  refine fs_aload_n hC dL_wash_2 rfl ?_
  refine fs_iload_n hC dL_wash_3 rfl ?_
  refine fs_iload_n hC dL_wash_4 rfl ?_
  refine fs_cvi hE hX hl9 hC ⟨Nat.zero_le _, Nat.zero_le _⟩ (As := [.int w1, .int w2]) dL_wash_5 lnL_wash rfl rfl (Nat.le_of_ble_eq_true rfl) (by omega) ha rfl (Or.inl rfl) k1 (fun r h1 hq => ?_)
  obtain ⟨f, hf⟩ := ho _ _ hq
  refine fs_i2l hC dL_wash_8 ?_
  refine fs_last hC dL_wash_9 (by omega) hf (fun f1 hf1 => ?_)
  refine fs_goto hC (tgt := 21) dL_wash_10 (by decide) ?_
  refine fs_iconst hC dL_wash_21 ?_
  exact fs_iretW hC dL_wash_22 hr hlk (Nat.zero_le _) (Nat.zero_le _) ⟨rfl, r, h1, f1, hq, rfl, hf1⟩
theorem wx_wash1 (hE : envOK Γ St) {adV : Nat → Nat} (hX : envX Γ St adV) (hl9 : l.stackTraces = false) (hLn : envL St) (hN : 132 ≤ NC) {fs : List Value} (ha : h 0 = .inr (5, fs)) {w1 w2 : Int32} {Q1 : qt} (k1 : Ct NC "java/lang/IndexOutOfBoundsException" M_X5_wash [.ref 0, .int w1, .int w2] h Q1) : MetW Γ l St NC M_L_wash H_wash [.ref 0, .int w1, .int w2, .ref 131] h (fun r u => r = I 1 ∧ Q1 .null u) := by
  refine metW_of (by decide) rfl rfl (fun v hv => by simp only [List.mem_cons, List.not_mem_nil, or_false] at hv; rcases hv with rfl | rfl | rfl | rfl <;> (intro z; cases z)) (Nat.le_of_ble_eq_true rfl) (fun p e s m args below meth c hC hr hlk ht => ?_)
  refine fs_aload_n hC dL_wash_0 rfl ?_
  refine fs_iconst hC dL_wash_1 ?_
  refine fs_aload_n hC dL_wash_2 rfl ?_
  refine fs_iload_n hC dL_wash_3 rfl ?_
  refine fs_iload_n hC dL_wash_4 rfl ?_
  refine fs_cvx hE hX hl9 hC ⟨Nat.le_refl _, Nat.le_refl _⟩ (As := [.int w1, .int w2]) dL_wash_5 lnL_wash rfl rfl (Nat.le_of_ble_eq_true rfl) (by omega) ha rfl k1 [] ⟨0, 10, 13, 22⟩ [⟨0, 10, 17, 71⟩] ht (fun z hz => by cases hz) (by decide) (by decide) clk_22 cast_22 (fun h1 hq H locs ls q hW hL => ?_)
  exact w_hand hC dL_wash_13 dL_wash_15 dL_wash_16 (by decide) hr hlk (Nat.le_refl _) (Nat.le_refl _) hW hL ⟨rfl, hq⟩
theorem wx_wash2 (hE : envOK Γ St) {adV : Nat → Nat} (hX : envX Γ St adV) (hl9 : l.stackTraces = false) (hLn : envL St) (hN : 132 ≤ NC) {fs : List Value} (ha : h 0 = .inr (5, fs)) {w1 w2 : Int32} {Q1 : qt} (k1 : Ct NC "java/lang/IllegalStateException" M_X5_wash [.ref 0, .int w1, .int w2] h Q1) : MetW Γ l St NC M_L_wash H_wash [.ref 0, .int w1, .int w2, .ref 131] h (fun r u => r = I 2 ∧ Q1 .null u) := by
  refine metW_of (by decide) rfl rfl (fun v hv => by simp only [List.mem_cons, List.not_mem_nil, or_false] at hv; rcases hv with rfl | rfl | rfl | rfl <;> (intro z; cases z)) (Nat.le_of_ble_eq_true rfl) (fun p e s m args below meth c hC hr hlk ht => ?_)
  refine fs_aload_n hC dL_wash_0 rfl ?_
  refine fs_iconst hC dL_wash_1 ?_
  refine fs_aload_n hC dL_wash_2 rfl ?_
  refine fs_iload_n hC dL_wash_3 rfl ?_
  refine fs_iload_n hC dL_wash_4 rfl ?_
  refine fs_cvx hE hX hl9 hC ⟨Nat.le_refl _, Nat.le_refl _⟩ (As := [.int w1, .int w2]) dL_wash_5 lnL_wash rfl rfl (Nat.le_of_ble_eq_true rfl) (by omega) ha rfl k1 [⟨0, 10, 13, 22⟩] ⟨0, 10, 17, 71⟩ [] ht (fun z hz => by cases List.mem_singleton.mp hz; exact ⟨by decide, _, clk_22, (hLn s hC.2.2.2.2.2.2.1).2⟩) (by decide) (by decide) clk_71 cast_71 (fun h1 hq H locs ls q hW hL => ?_)
  exact w_hand hC dL_wash_17 dL_wash_19 dL_wash_20 (by decide) hr hlk (Nat.le_refl _) (Nat.le_refl _) hW hL ⟨rfl, hq⟩
end WS
