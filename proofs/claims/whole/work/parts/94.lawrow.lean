/-! THE LAW: its own rows, and its links -/
def scr (Γ : en) (s : State) (L : Nat) (xs : Nat → Int32) : Prop := va_X (Γ.1 3000) L xs s s.heap ∧ Γ.1 3000 < s.heap.size ∧ ¬ Γ.2.2.2 (Γ.1 3000)
abbrev L0 (t : Nat) : List (Nat × Value) := [(0, .ref 3000), (1, .ref 0), (2, .ref 112), (3, .ref 131), (4, .int (I ((6 * t : Nat) : Int)))]
section LR
variable {Γ : en} {l : Launch} {St : State → Prop} {p : Program} {e : Env} {R : Room} {s : State} {m : MethodId} {args : Array Value} {below : List Frame} {meth : Method} {c : Code} {Q : State → Prop} {k sl pc : Nat} {lv : List (Nat × Value)} {S : List Value} {h : hp} {L : Nat} {xs : Nat → Int32}
theorem fs_widen {NC nL : Nat} (kn : Fs Γ NC p l e R s m args below meth c nL Q (k + 1) (sl + 6) pc lv S h) : Fs Γ NC p l e R s m args below meth c nL Q k sl pc lv S h := fun H locs ls hW hL => W.widen (by omega) (by omega) (kn H locs ls hW hL)
theorem fs_sld (hC : CF Γ St M_law R p s m args c) (hs : scr Γ s L xs) {j : Nat} (hd : decode M_law.2.1 pc = .ok (.iaload, 1)) (hj : j < L) (hL9 : L ≤ 3072) (kn : (Fs Γ 132 p l e R s m args below meth c M_law.2.2.1 Q k sl (pc + 1) lv (.int (xs j) :: S) h)) : Fs Γ 132 p l e R s m args below meth c M_law.2.2.1 Q k sl pc lv (.int (I (j : Int)) :: .ref 3000 :: S) h := by
  intro H locs ls hW hL
  have h1 : (I (j : Int)).toNatClampNeg = j := I_clamp (by omega)
  have h2 : vp_in (I (j : Int)) L := by
    rintro (q | q)
    · rw [I_0, I_lt (by omega) (by omega)] at q; omega
    · rw [h1] at q; omega
  have kz := kn H locs ls hW hL
  rw [← h1] at kz
  exact va_sld hC.1 hC.2.1 hs.1 hs.2.1 hs.2.2 hW.2.2 h2 hd kz
theorem fs_slen (hC : CF Γ St M_law R p s m args c) (hs : scr Γ s L xs) (hd : decode M_law.2.1 pc = .ok (.arraylength, 1)) (hL9 : L ≤ 3072) (kn : (Fs Γ 132 p l e R s m args below meth c M_law.2.2.1 Q k sl (pc + 1) lv (.int (I (L : Int)) :: S) h)) : Fs Γ 132 p l e R s m args below meth c M_law.2.2.1 Q k sl pc lv (.ref 3000 :: S) h := by
  intro H locs ls hW hL
  have e1 : Int32.ofNat L = I (L : Int) := by unfold I; rw [Int32.ofInt_eq_ofNat]
  have kz := kn H locs ls hW hL
  rw [← e1] at kz
  exact va_slen hC.1 hC.2.1 hs.1 hs.2.1 hs.2.2 hW.2.2 hd kz
theorem fs_iand (hC : CF Γ St M_law R p s m args c) {x y : Int32} (hd : decode M_law.2.1 pc = .ok (.iand, 1)) (kn : (Fs Γ 132 p l e R s m args below meth c M_law.2.2.1 Q k sl (pc + 1) lv (.int (x &&& y) :: S) h)) : Fs Γ 132 p l e R s m args below meth c M_law.2.2.1 Q k sl pc lv (.int y :: .int x :: S) h := by
  intro H locs ls hW hL
  exact lv_iand hC.1 hC.2.1 hd (kn H locs ls hW hL)
theorem fs_tabO (hC : CF Γ St M_law R p s m args c) {dflt lo hi : Int} {offs : Array Int} {len : Nat} {x : Int32} {tgt : Nat} (hd : decode M_law.2.1 pc = .ok (.tableswitch dflt lo hi offs, len)) (h1 : x.toInt < lo ∨ hi < x.toInt) (ht : (pc : Int) + dflt = (tgt : Int)) (kn : (Fs Γ 132 p l e R s m args below meth c M_law.2.2.1 Q k sl tgt lv S h)) : Fs Γ 132 p l e R s m args below meth c M_law.2.2.1 Q k sl pc lv (.int x :: S) h := by
  intro H locs ls hW hL
  exact lv_tableOut hC.1 hC.2.1 hd h1 ht (kn H locs ls hW hL)
theorem fs_tabI (hC : CF Γ St M_law R p s m args c) {dflt lo hi : Int} {offs : Array Int} {len n : Nat} {x : Int32} {off : Int} {tgt : Nat} (hd : decode M_law.2.1 pc = .ok (.tableswitch dflt lo hi offs, len)) (hx : x.toInt = lo + (n : Int)) (h2 : lo + (n : Int) ≤ hi) (ho : offs[n]? = some off) (ht : (pc : Int) + off = (tgt : Int)) (kn : (Fs Γ 132 p l e R s m args below meth c M_law.2.2.1 Q k sl tgt lv S h)) : Fs Γ 132 p l e R s m args below meth c M_law.2.2.1 Q k sl pc lv (.int x :: S) h := by
  intro H locs ls hW hL
  exact lv_tableIn hC.1 hC.2.1 hd (by omega) (by omega) (by rw [show (x.toInt - lo).toNat = n by omega]; exact ho) ht (kn H locs ls hW hL)
theorem fs_lcmpT (hC : CF Γ St M_law R p s m args c) {x y : Int64} (hd : decode M_law.2.1 pc = .ok (.lcmp, 1)) (hxy : x = y) (kn : (Fs Γ 132 p l e R s m args below meth c M_law.2.2.1 Q k sl (pc + 1) lv (.int (I 0) :: S) h)) : Fs Γ 132 p l e R s m args below meth c M_law.2.2.1 Q k sl pc lv (.long y :: .long x :: S) h := by
  intro H locs ls hW hL
  subst hxy
  have kz := kn H locs ls hW hL
  have e1 : (Value.int (I 0)) = .int (lg_cmp x x) := by simp [lg_cmp, I]
  rw [List.map_cons, show trV Γ.1 (.int (I 0)) = .int (lg_cmp x x) from e1] at kz
  exact W.lcmp hC.1 hC.2.1 hd kz
theorem fs_f2d (hC : CF Γ St M_law R p s m args c) {x : UInt32} (hd : decode M_law.2.1 pc = .ok (.f2d, 1)) (hn : vf_n64 (FP.f2d x)) (kn : (Fs Γ 132 p l e R s m args below meth c M_law.2.2.1 Q k sl (pc + 1) lv (.double (FP.f2d x) :: S) h)) : Fs Γ 132 p l e R s m args below meth c M_law.2.2.1 Q k sl pc lv (.float x :: S) h := by
  intro H locs ls hW hL
  exact lv_f2d hC.1 hC.2.1 hd hn (kn H locs ls hW hL)
theorem fs_dcmp (hC : CF Γ St M_law R p s m args c) {x y : UInt64} {op : CmpOp} (hd : decode M_law.2.1 pc = .ok (.dcmp op, 1)) (hv : Op.cmpValue (FP.dcmp x y) op = I 0) (kn : (Fs Γ 132 p l e R s m args below meth c M_law.2.2.1 Q k sl (pc + 1) lv (.int (I 0) :: S) h)) : Fs Γ 132 p l e R s m args below meth c M_law.2.2.1 Q k sl pc lv (.double y :: .double x :: S) h := by
  intro H locs ls hW hL
  have kz := kn H locs ls hW hL
  rw [List.map_cons, show trV Γ.1 (.int (I 0)) = .int (Op.cmpValue (FP.dcmp x y) op) by rw [hv]; rfl] at kz
  exact lv_dcmp hC.1 hC.2.1 hd kz
/-- the j-th int behind the row's first -/
theorem fs_arg (j : Nat) (hC : CF Γ St M_law R p s m args c) (hs : scr Γ s L xs) (hL9 : L ≤ 3072) {t : Nat} (ht : 6 * t + 6 ≤ L) (hd0 : decode M_law.2.1 pc = .ok (.aload_n 0, 1)) (hd1 : decode M_law.2.1 (pc + 1) = .ok (.iload 4, 2)) (hd2 : decode M_law.2.1 (pc + 3) = .ok (.iconst (j : Int), 1)) (hd3 : decode M_law.2.1 (pc + 4) = .ok (.iadd, 1)) (hd4 : decode M_law.2.1 (pc + 5) = .ok (.iaload, 1)) (hj : j < 6) (h0 : lget lv 0 = some (.ref 3000)) (h4 : lget lv 4 = some (.int (I ((6 * t : Nat) : Int)))) (kn : (Fs Γ 132 p l e R s m args below meth c M_law.2.2.1 Q k sl (pc + 6) lv (.int (xs (6 * t + j)) :: S) h)) : Fs Γ 132 p l e R s m args below meth c M_law.2.2.1 Q k sl pc lv S h := by
  refine fs_aload_n hC hd0 h0 ?_
  refine fs_iload hC hd1 h4 ?_
  refine fs_iconst hC hd2 ?_
  refine fs_iadd hC hd3 ?_
  rw [show (((6 * t : Nat) : Int) + (j : Int)) = ((6 * t + j : Nat) : Int) by push_cast; rfl]
  exact fs_sld hC hs hd4 (by omega) hL9 kn
theorem fs_bool (hC : CF Γ St M_law R p s m args c) {x : Int32} (hd0 : decode M_law.2.1 pc = .ok (.ifCond .eq 7, 3)) (hd1 : decode M_law.2.1 (pc + 3) = .ok (.iconst 1, 1)) (hd2 : decode M_law.2.1 (pc + 4) = .ok (.goto 4, 3)) (hd3 : decode M_law.2.1 (pc + 7) = .ok (.iconst 0, 1)) (kn : (Fs Γ 132 p l e R s m args below meth c M_law.2.2.1 Q k sl (pc + 8) lv (.int (I (if decide (x ≠ 0) = true then 1 else 0)) :: S) h)) : Fs Γ 132 p l e R s m args below meth c M_law.2.2.1 Q k sl pc lv (.int x :: S) h := by
  obtain ⟨a, rfl, ga⟩ := I_any x
  refine fs_if_eq hC (tgt := pc + 7) hd0 (by push_cast; rfl) ga (fun q => ?_) (fun q => ?_)
  · refine fs_iconst hC hd3 ?_
    subst q
    exact kn
  · refine fs_iconst hC hd1 ?_
    refine fs_goto hC (tgt := pc + 8) hd2 (by push_cast; omega) ?_
    rw [if_pos (by
      rw [decide_eq_true_iff]
      intro z
      exact q ((I_eq ga (by omega)).mp (z.trans I_0)))] at kn
    exact kn
end LR
theorem lnM_X5_append : lnV M_law 80 M_X5_append 5 := ⟨⟨gT_mem 314 (by decide +kernel) (by decide +kernel), mi_X5_append.1, mi_X5_append.2.1, ⟨by decide +kernel, by decide +kernel, by decide +kernel⟩, mi_X5_append.2.2, by decide, by decide⟩, mv_X5_append.1, mv_X5_append.2, by decide⟩
theorem lnM_X5_errorOffset : lnV M_law 94 M_X5_errorOffset 0 := ⟨⟨gT_mem 322 (by decide +kernel) (by decide +kernel), mi_X5_errorOffset.1, mi_X5_errorOffset.2.1, ⟨by decide +kernel, by decide +kernel, by decide +kernel⟩, mi_X5_errorOffset.2.2, by decide, by decide⟩, mv_X5_errorOffset.1, mv_X5_errorOffset.2, by decide⟩
theorem lnM_X5_unlike : lnV M_law 112 M_X5_unlike 0 := ⟨⟨gT_mem 326 (by decide +kernel) (by decide +kernel), mi_X5_unlike.1, mi_X5_unlike.2.1, ⟨by decide +kernel, by decide +kernel, by decide +kernel⟩, mi_X5_unlike.2.2, by decide, by decide⟩, mv_X5_unlike.1, mv_X5_unlike.2, by decide⟩
theorem lnM_X5_driesIn : lnV M_law 125 M_X5_driesIn 0 := ⟨⟨gT_mem 350 (by decide +kernel) (by decide +kernel), mi_X5_driesIn.1, mi_X5_driesIn.2.1, ⟨by decide +kernel, by decide +kernel, by decide +kernel⟩, mi_X5_driesIn.2.2, by decide, by decide⟩, mv_X5_driesIn.1, mv_X5_driesIn.2, by decide⟩
theorem lnM_X5_covered : lnV M_law 138 M_X5_covered 0 := ⟨⟨gT_mem 361 (by decide +kernel) (by decide +kernel), mi_X5_covered.1, mi_X5_covered.2.1, ⟨by decide +kernel, by decide +kernel, by decide +kernel⟩, mi_X5_covered.2.2, by decide, by decide⟩, mv_X5_covered.1, mv_X5_covered.2, by decide⟩
theorem lnM_X5_undo : lnV M_law 168 M_X5_undo 0 := ⟨⟨gT_mem 377 (by decide +kernel) (by decide +kernel), mi_X5_undo.1, mi_X5_undo.2.1, ⟨by decide +kernel, by decide +kernel, by decide +kernel⟩, mi_X5_undo.2.2, by decide, by decide⟩, mv_X5_undo.1, mv_X5_undo.2, by decide⟩
theorem lnM_X5_checksum : lnV M_law 172 M_X5_checksum 0 := ⟨⟨gT_mem 392 (by decide +kernel) (by decide +kernel), mi_X5_checksum.1, mi_X5_checksum.2.1, ⟨by decide +kernel, by decide +kernel, by decide +kernel⟩, mi_X5_checksum.2.2, by decide, by decide⟩, mv_X5_checksum.1, mv_X5_checksum.2, by decide⟩
theorem lnM_X6_thrown : lnV M_law 90 M_X6_thrown 0 := ⟨⟨gT_mem 1029 (by decide +kernel) (by decide +kernel), mi_X6_thrown.1, mi_X6_thrown.2.1, ⟨by decide +kernel, by decide +kernel, by decide +kernel⟩, mi_X6_thrown.2.2, by decide, by decide⟩, mv_X6_thrown.1, mv_X6_thrown.2, by decide⟩
theorem lnM_X6_append : lnV M_law 83 M_X6_append 5 := ⟨⟨gT_mem 1033 (by decide +kernel) (by decide +kernel), mi_X6_append.1, mi_X6_append.2.1, ⟨by decide +kernel, by decide +kernel, by decide +kernel⟩, mi_X6_append.2.2, by decide, by decide⟩, mv_X6_append.1, mv_X6_append.2, by decide⟩
theorem lnM_X6_load : lnV M_law 89 M_X6_load 1 := ⟨⟨gT_mem 1037 (by decide +kernel) (by decide +kernel), mi_X6_load.1, mi_X6_load.2.1, ⟨by decide +kernel, by decide +kernel, by decide +kernel⟩, mi_X6_load.2.2, by decide, by decide⟩, mv_X6_load.1, mv_X6_load.2, by decide⟩
theorem lnM_X6_errorOffset : lnV M_law 97 M_X6_errorOffset 0 := ⟨⟨gT_mem 1158 (by decide +kernel) (by decide +kernel), mi_X6_errorOffset.1, mi_X6_errorOffset.2.1, ⟨by decide +kernel, by decide +kernel, by decide +kernel⟩, mi_X6_errorOffset.2.2, by decide, by decide⟩, mv_X6_errorOffset.1, mv_X6_errorOffset.2, by decide⟩
theorem lnM_X6_state : lnV M_law 100 M_X6_state 1 := ⟨⟨gT_mem 1162 (by decide +kernel) (by decide +kernel), mi_X6_state.1, mi_X6_state.2.1, ⟨by decide +kernel, by decide +kernel, by decide +kernel⟩, mi_X6_state.2.2, by decide, by decide⟩, mv_X6_state.1, mv_X6_state.2, by decide⟩
theorem lnM_X6_cell : lnV M_law 104 M_X6_cell 3 := ⟨⟨gT_mem 1208 (by decide +kernel) (by decide +kernel), mi_X6_cell.1, mi_X6_cell.2.1, ⟨by decide +kernel, by decide +kernel, by decide +kernel⟩, mi_X6_cell.2.2, by decide, by decide⟩, mv_X6_cell.1, mv_X6_cell.2, by decide⟩
theorem lnM_X6_mix : lnV M_law 108 M_X6_mix 2 := ⟨⟨gT_mem 1228 (by decide +kernel) (by decide +kernel), mi_X6_mix.1, mi_X6_mix.2.1, ⟨by decide +kernel, by decide +kernel, by decide +kernel⟩, mi_X6_mix.2.2, by decide, by decide⟩, mv_X6_mix.1, mv_X6_mix.2, by decide⟩
theorem lnM_X6_count : lnV M_law 111 M_X6_count 1 := ⟨⟨gT_mem 1236 (by decide +kernel) (by decide +kernel), mi_X6_count.1, mi_X6_count.2.1, ⟨by decide +kernel, by decide +kernel, by decide +kernel⟩, mi_X6_count.2.2, by decide, by decide⟩, mv_X6_count.1, mv_X6_count.2, by decide⟩
theorem lnM_X6_unlike : lnV M_law 115 M_X6_unlike 0 := ⟨⟨gT_mem 1240 (by decide +kernel) (by decide +kernel), mi_X6_unlike.1, mi_X6_unlike.2.1, ⟨by decide +kernel, by decide +kernel, by decide +kernel⟩, mi_X6_unlike.2.2, by decide, by decide⟩, mv_X6_unlike.1, mv_X6_unlike.2, by decide⟩
theorem lnM_X6_region : lnV M_law 118 M_X6_region 2 := ⟨⟨gT_mem 1248 (by decide +kernel) (by decide +kernel), mi_X6_region.1, mi_X6_region.2.1, ⟨by decide +kernel, by decide +kernel, by decide +kernel⟩, mi_X6_region.2.2, by decide, by decide⟩, mv_X6_region.1, mv_X6_region.2, by decide⟩
theorem lnM_X6_regions : lnV M_law 121 M_X6_regions 1 := ⟨⟨gT_mem 1264 (by decide +kernel) (by decide +kernel), mi_X6_regions.1, mi_X6_regions.2.1, ⟨by decide +kernel, by decide +kernel, by decide +kernel⟩, mi_X6_regions.2.2, by decide, by decide⟩, mv_X6_regions.1, mv_X6_regions.2, by decide⟩
theorem lnM_X6_bleeds : lnV M_law 124 M_X6_bleeds 2 := ⟨⟨gT_mem 1268 (by decide +kernel) (by decide +kernel), mi_X6_bleeds.1, mi_X6_bleeds.2.1, ⟨by decide +kernel, by decide +kernel, by decide +kernel⟩, mi_X6_bleeds.2.2, by decide, by decide⟩, mv_X6_bleeds.1, mv_X6_bleeds.2, by decide⟩
theorem lnM_X6_driesIn : lnV M_law 128 M_X6_driesIn 0 := ⟨⟨gT_mem 1280 (by decide +kernel) (by decide +kernel), mi_X6_driesIn.1, mi_X6_driesIn.2.1, ⟨by decide +kernel, by decide +kernel, by decide +kernel⟩, mi_X6_driesIn.2.2, by decide, by decide⟩, mv_X6_driesIn.1, mv_X6_driesIn.2, by decide⟩
theorem lnM_X6_foretold : lnV M_law 131 M_X6_foretold 2 := ⟨⟨gT_mem 1288 (by decide +kernel) (by decide +kernel), mi_X6_foretold.1, mi_X6_foretold.2.1, ⟨by decide +kernel, by decide +kernel, by decide +kernel⟩, mi_X6_foretold.2.2, by decide, by decide⟩, mv_X6_foretold.1, mv_X6_foretold.2, by decide⟩
theorem lnM_X6_evens : lnV M_law 134 M_X6_evens 1 := ⟨⟨gT_mem 1292 (by decide +kernel) (by decide +kernel), mi_X6_evens.1, mi_X6_evens.2.1, ⟨by decide +kernel, by decide +kernel, by decide +kernel⟩, mi_X6_evens.2.2, by decide, by decide⟩, mv_X6_evens.1, mv_X6_evens.2, by decide⟩
theorem lnM_X6_pattern : lnV M_law 137 M_X6_pattern 2 := ⟨⟨gT_mem 1296 (by decide +kernel) (by decide +kernel), mi_X6_pattern.1, mi_X6_pattern.2.1, ⟨by decide +kernel, by decide +kernel, by decide +kernel⟩, mi_X6_pattern.2.2, by decide, by decide⟩, mv_X6_pattern.1, mv_X6_pattern.2, by decide⟩
theorem lnM_X6_covered : lnV M_law 142 M_X6_covered 0 := ⟨⟨gT_mem 1316 (by decide +kernel) (by decide +kernel), mi_X6_covered.1, mi_X6_covered.2.1, ⟨by decide +kernel, by decide +kernel, by decide +kernel⟩, mi_X6_covered.2.2, by decide, by decide⟩, mv_X6_covered.1, mv_X6_covered.2, by decide⟩
theorem lnM_X6_pass : lnV M_law 145 M_X6_pass 1 := ⟨⟨gT_mem 1320 (by decide +kernel) (by decide +kernel), mi_X6_pass.1, mi_X6_pass.2.1, ⟨by decide +kernel, by decide +kernel, by decide +kernel⟩, mi_X6_pass.2.2, by decide, by decide⟩, mv_X6_pass.1, mv_X6_pass.2, by decide⟩
theorem lnM_X6_paint : lnV M_law 149 M_X6_paint 5 := ⟨⟨gT_mem 1324 (by decide +kernel) (by decide +kernel), mi_X6_paint.1, mi_X6_paint.2.1, ⟨by decide +kernel, by decide +kernel, by decide +kernel⟩, mi_X6_paint.2.2, by decide, by decide⟩, mv_X6_paint.1, mv_X6_paint.2, by decide⟩
theorem lnM_X6_stroke : lnV M_law 153 M_X6_stroke 5 := ⟨⟨gT_mem 1336 (by decide +kernel) (by decide +kernel), mi_X6_stroke.1, mi_X6_stroke.2.1, ⟨by decide +kernel, by decide +kernel, by decide +kernel⟩, mi_X6_stroke.2.2, by decide, by decide⟩, mv_X6_stroke.1, mv_X6_stroke.2, by decide⟩
theorem lnM_X6_stamp : lnV M_law 157 M_X6_stamp 4 := ⟨⟨gT_mem 1340 (by decide +kernel) (by decide +kernel), mi_X6_stamp.1, mi_X6_stamp.2.1, ⟨by decide +kernel, by decide +kernel, by decide +kernel⟩, mi_X6_stamp.2.2, by decide, by decide⟩, mv_X6_stamp.1, mv_X6_stamp.2, by decide⟩
theorem lnM_X6_spar : lnV M_law 161 M_X6_spar 4 := ⟨⟨gT_mem 1344 (by decide +kernel) (by decide +kernel), mi_X6_spar.1, mi_X6_spar.2.1, ⟨by decide +kernel, by decide +kernel, by decide +kernel⟩, mi_X6_spar.2.2, by decide, by decide⟩, mv_X6_spar.1, mv_X6_spar.2, by decide⟩
theorem lnM_X6_strip : lnV M_law 164 M_X6_strip 2 := ⟨⟨gT_mem 1348 (by decide +kernel) (by decide +kernel), mi_X6_strip.1, mi_X6_strip.2.1, ⟨by decide +kernel, by decide +kernel, by decide +kernel⟩, mi_X6_strip.2.2, by decide, by decide⟩, mv_X6_strip.1, mv_X6_strip.2, by decide⟩
theorem lnM_X6_wash : lnV M_law 167 M_X6_wash 2 := ⟨⟨gT_mem 1352 (by decide +kernel) (by decide +kernel), mi_X6_wash.1, mi_X6_wash.2.1, ⟨by decide +kernel, by decide +kernel, by decide +kernel⟩, mi_X6_wash.2.2, by decide, by decide⟩, mv_X6_wash.1, mv_X6_wash.2, by decide⟩
theorem lnM_X6_undo : lnV M_law 171 M_X6_undo 0 := ⟨⟨gT_mem 1356 (by decide +kernel) (by decide +kernel), mi_X6_undo.1, mi_X6_undo.2.1, ⟨by decide +kernel, by decide +kernel, by decide +kernel⟩, mi_X6_undo.2.2, by decide, by decide⟩, mv_X6_undo.1, mv_X6_undo.2, by decide⟩
theorem lnM_X6_checksum : lnV M_law 176 M_X6_checksum 0 := ⟨⟨gT_mem 1360 (by decide +kernel) (by decide +kernel), mi_X6_checksum.1, mi_X6_checksum.2.1, ⟨by decide +kernel, by decide +kernel, by decide +kernel⟩, mi_X6_checksum.2.2, by decide, by decide⟩, mv_X6_checksum.1, mv_X6_checksum.2, by decide⟩
