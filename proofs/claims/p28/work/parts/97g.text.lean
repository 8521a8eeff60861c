/-! TEXTS: String, StringBuilder as the JDK's code -/
theorem cs_str : Cond.fieldLink "java/lang/String" 38 "java/lang/String" "COMPACT_STRINGS" "Z" ∈ gT := gT_mem 463 (by decide +kernel) (by decide +kernel)
theorem cs_asb : Cond.fieldLink "java/lang/AbstractStringBuilder" 18 "java/lang/String" "COMPACT_STRINGS" "Z" ∈ gT := gT_mem 1080 (by decide +kernel) (by decide +kernel)
theorem sm_i2c : ∀ n : Nat, n < 256 → ((I (n : Int)).toUInt32 % 65536).toInt32 = I (n : Int) := by decide +kernel
theorem sm_i2b : ∀ n : Nat, n < 128 → (I (n : Int)).toInt8.toInt32 = I (n : Int) := by decide +kernel
theorem sm_and : ∀ n : Nat, n < 256 → I (n : Int) &&& 255 = I (n : Int) := by decide +kernel
theorem sm_nar : ∀ n : Nat, n < 128 → vp_nar .byte (I (n : Int)) = I (n : Int) := by decide +kernel
theorem sm_fit : ∀ n : Nat, n < 128 → fits .byte (.int (I (n : Int))) = true := by decide +kernel
theorem sm_chr : ∀ n : Nat, n < 256 → narrow .char (.int (I (n : Int))) = .int (I (n : Int)) := by decide +kernel
theorem nat_of {z : Int} {c : Nat} (h0 : 0 ≤ z) (h : z < c) : ∃ n : Nat, n < c ∧ z = (n : Int) := ⟨z.toNat, by omega, by omega⟩
theorem shr0 (x : Int32) : x >>> (I 0 &&& 31) = x := by
  rw [show (I 0 &&& 31) = 0 by decide]
  apply Int32.toBitVec_inj.mp
  show x.toBitVec.sshiftRight 0 = x.toBitVec
  exact BitVec.sshiftRight_zero
theorem shl0 (x : Int32) : x <<< (I 0 &&& 31) = x := by
  rw [show (I 0 &&& 31) = 0 by decide]
  apply Int32.toBitVec_inj.mp
  show x.toBitVec <<< ((0 : BitVec 32).smod 32) = x.toBitVec
  simp
section BXS
variable {ad : Nat → Nat} {sc : Nat × (Nat → Int32)} {M : mt} {pc : Nat} {L S : List Value} {c sl : Nat} {u : hp} {h : hg} {Q : qg}
theorem bx_csn {ix : Nat} (hj : Cond.fieldLink M.1.cls ix "java/lang/String" "COMPACT_STRINGS" "Z" ∈ gT) (hd : decode M.2.1 pc = .ok (.getstatic ix, 3)) (kk : Gx ad sc M (pc + 3) L (.int (I 1) :: S) c sl u h Q) : Gx ad sc M pc L S c sl u h Q := gx_csn hj hd (show Gx ad sc M (pc + 3) L (.int 1 :: S) c sl u h Q from (show I 1 = 1 by decide) ▸ kk)
theorem bx_bret {x : Int32} (hd : decode M.2.1 pc = .ok (.ireturn, 1)) (hr : M.2.2.2.1 = some .byte) (hq : Q (.int x) u h) (hx : narrow .byte (.int x) = .int x := by rfl) : Gx ad sc M pc L [.int x] c sl u h Q := gx_nret hd hr hx hq
theorem bx_cret {z : Int} (hd : decode M.2.1 pc = .ok (.ireturn, 1)) (hr : M.2.2.2.1 = some .char) (hz : 0 ≤ z ∧ z < 256) (hq : Q (.int (I z)) u h) : Gx ad sc M pc L [.int (I z)] c sl u h Q := by
  obtain ⟨n, hn, rfl⟩ := nat_of hz.1 hz.2
  exact gx_nret hd hr (sm_chr n hn) hq
theorem bx_sci {i n ix : Nat} {z : Int} (hd : decode M.2.1 pc = .ok (.invokestatic ix, 3)) (hl : lnS M ix J_sci 2) (hS : catS S) (hz : z = (i : Int)) (hi : i < n) (hn : n < 2147483648) (kk : Gx ad sc M (pc + 3) L S c sl u h Q) : Gx ad sc M pc L (.int (I (n : Int)) :: .int (I z) :: S) c sl u h Q := by
  subst hz
  refine gx_sci hd hl hS ?_ ?_ kk
  · rw [← I_nat]; exact nI_pos (by omega)
  · rw [← I_nat, ← I_nat]; exact nI_lt hi (by omega)
theorem bx_cpb {ix a q n0 n1 sp dp n : Nat} {z1 z2 z3 : Int} {f g : Nat → Int} (hd : decode M.2.1 pc = .ok (.invokestatic ix, 3)) (hl : Cond.methodLink M.1.cls ix arraycopyName ∈ gT) (hr : 1 ≤ M.2.2.2.2.1 ∧ 30 ≤ M.2.2.2.2.2) (hS : catS S) (ha : rwI 1 (h a) n0 f) (hb : rwI 1 (h q) n1 g) (h1 : z1 = (sp : Int)) (h2 : z2 = (dp : Int)) (h3 : z3 = (n : Int)) (g1 : sp + n ≤ n0) (g2 : dp + n ≤ n1) (g3 : n0 < 2147483648) (g4 : n1 < 2147483648) (g5 : ∀ i, i < n → 0 ≤ f (sp + i) ∧ f (sp + i) < 128) (kk : ∀ e, rwI 1 (some e) n1 (fun i => if dp ≤ i ∧ i < dp + n then f (sp + (i - dp)) else g i) → Gx ad sc M (pc + 3) L S c sl u (up h q e) Q) : Gx ad sc M pc L (.int (I z3) :: .int (I z2) :: .ref q :: .int (I z1) :: .ref a :: S) c sl u h Q := by
  subst h1
  subst h2
  subst h3
  obtain ⟨F, a1, a2⟩ := ha
  obtain ⟨G, b1, b2⟩ := hb
  have e : ∀ x : Nat, x < 2147483648 → (I (x : Int)).toNatClampNeg = x := fun x hx => I_clamp hx
  refine gx_l_cpb hl hr hS a1 b1 (by rw [← I_nat]; exact nI_pos (by omega)) (by rw [← I_nat]; exact nI_pos (by omega)) (by rw [← I_nat]; exact nI_pos (by omega)) (by rw [e _ (by omega), e _ (by omega)]; exact g1) (by rw [e _ (by omega), e _ (by omega)]; exact g2) (fun i hi => ?_) hd (kk _ ⟨_, rfl, fun i hi => ?_⟩)
  · rw [e _ (by omega)] at hi
    rw [e _ (by omega), a2 _ (by omega)]
    obtain ⟨m, hm, he⟩ := nat_of (g5 i hi).1 (g5 i hi).2
    rw [he]
    exact sm_fit m hm
  · rw [e _ (by omega), e _ (by omega), e _ (by omega)]
    unfold va_cpy
    by_cases z : dp ≤ i ∧ i < dp + n
    · rw [if_pos z]
      simp only [if_pos z]
      rw [a2 _ (by omega)]
    · rw [if_neg z]
      simp only [if_neg z]
      rw [b2 _ hi]
theorem bx_cu0 {ix cy sy : Nat} {Y : mt} {a ci : Nat} {fs : List Value} {T : u_T} {N : Nat} {C : String} {x : MethodName} {Q1 : qg} (hd : decode M.2.1 pc = .ok (.invokevirtual ix, 3)) (hl : lnU M ix x C Y 0) (hS : catS S) (hr : Y.2.2.2.1 ≠ none) (ha : h a = some (.inr (ci, fs))) (hc : vwCl[ci]? = some (C, T, N)) (hcy : cy ≤ c) (hsy : sy ≤ sl) (k1 : Gl ad sc cy sy Y (.ref a :: []) u h Q1) (k2 : ∀ v u1 h1, Q1 v u1 h1 → Gx ad sc M (pc + 3) L (v :: S) (c - cy) (sl - sy) u1 h1 Q) (hcat : cat1 [] := by exact rfl) : Gx ad sc M pc L (.ref a :: S) c sl u h Q := gx_cu (As := []) hd hl rfl hcat hS ha hc hr hcy hsy k1 k2
theorem bx_cuP0 {ix : Nat} {Y : mt} {a ci : Nat} {fs : List Value} {T : u_T} {N : Nat} {C : String} {x : MethodName} {w : Value} (hd : decode M.2.1 pc = .ok (.invokevirtual ix, 3)) (hl : lnU M ix x C Y 0) (hS : catS S) (hr : Y.2.2.2.1 ≠ none) (ha : h a = some (.inr (ci, fs))) (hc : vwCl[ci]? = some (C, T, N)) (k1 : Gl ad sc 0 0 Y (.ref a :: []) u h (fun v u1 h1 => v = w ∧ u1 = u ∧ h1 = h)) (k2 : Gx ad sc M (pc + 3) L (w :: S) c sl u h Q) (hcat : cat1 [] := by exact rfl) : Gx ad sc M pc L (.ref a :: S) c sl u h Q := gx_cu (As := []) hd hl rfl hcat hS ha hc hr (Nat.zero_le c) (Nat.zero_le sl) k1 (fun v u1 h1 q => by obtain ⟨rfl, rfl, rfl⟩ := q; exact k2)
theorem bx_csu0 {ix cy sy : Nat} {Y : mt} {a ci : Nat} {fs : List Value} {T : u_T} {N : Nat} {C : String} {Q1 : qg} (hd : decode M.2.1 pc = .ok (.invokespecial ix, 3)) (hl : lnQ M ix Y 0) (hS : catS S) (hr : Y.2.2.2.1 ≠ none) (ha : h a = some (.inr (ci, fs))) (hc : vwCl[ci]? = some (C, T, N)) (hcy : cy ≤ c) (hsy : sy ≤ sl) (k1 : Gl ad sc cy sy Y (.ref a :: []) u h Q1) (k2 : ∀ v u1 h1, Q1 v u1 h1 → Gx ad sc M (pc + 3) L (v :: S) (c - cy) (sl - sy) u1 h1 Q) (hcat : cat1 [] := by exact rfl) : Gx ad sc M pc L (.ref a :: S) c sl u h Q := gx_csu (As := []) hd hl rfl hcat hS ha hc hr hcy hsy k1 k2
theorem bx_csuP0 {ix : Nat} {Y : mt} {a ci : Nat} {fs : List Value} {T : u_T} {N : Nat} {C : String} {w : Value} (hd : decode M.2.1 pc = .ok (.invokespecial ix, 3)) (hl : lnQ M ix Y 0) (hS : catS S) (hr : Y.2.2.2.1 ≠ none) (ha : h a = some (.inr (ci, fs))) (hc : vwCl[ci]? = some (C, T, N)) (k1 : Gl ad sc 0 0 Y (.ref a :: []) u h (fun v u1 h1 => v = w ∧ u1 = u ∧ h1 = h)) (k2 : Gx ad sc M (pc + 3) L (w :: S) c sl u h Q) (hcat : cat1 [] := by exact rfl) : Gx ad sc M pc L (.ref a :: S) c sl u h Q := gx_csu (As := []) hd hl rfl hcat hS ha hc hr (Nat.zero_le c) (Nat.zero_le sl) k1 (fun v u1 h1 q => by obtain ⟨rfl, rfl, rfl⟩ := q; exact k2)
theorem bx_cpv0 {ix cy sy : Nat} {Y : mt} {a ci : Nat} {fs : List Value} {T : u_T} {N : Nat} {C : String} {Q1 : qg} (hd : decode M.2.1 pc = .ok (.invokevirtual ix, 3)) (hl : lnP M ix C Y 0) (hS : catS S) (hr : Y.2.2.2.1 = none) (ha : h a = some (.inr (ci, fs))) (hc : vwCl[ci]? = some (C, T, N)) (hcy : cy ≤ c) (hsy : sy ≤ sl) (k1 : Gl ad sc cy sy Y (.ref a :: []) u h Q1) (k2 : ∀ u1 h1, Q1 .null u1 h1 → Gx ad sc M (pc + 3) L S (c - cy) (sl - sy) u1 h1 Q) (hcat : cat1 [] := by exact rfl) : Gx ad sc M pc L (.ref a :: S) c sl u h Q := gx_cpv (As := []) hd hl rfl hcat hS ha hc hr hcy hsy k1 k2
theorem bx_cu1 {ix cy sy : Nat} {Y : mt} {a ci : Nat} {fs : List Value} {T : u_T} {N : Nat} {C : String} {x : MethodName} {v1 : Value} {Q1 : qg} (hd : decode M.2.1 pc = .ok (.invokevirtual ix, 3)) (hl : lnU M ix x C Y 1) (hS : catS S) (hr : Y.2.2.2.1 ≠ none) (ha : h a = some (.inr (ci, fs))) (hc : vwCl[ci]? = some (C, T, N)) (hcy : cy ≤ c) (hsy : sy ≤ sl) (k1 : Gl ad sc cy sy Y (.ref a :: [v1]) u h Q1) (k2 : ∀ v u1 h1, Q1 v u1 h1 → Gx ad sc M (pc + 3) L (v :: S) (c - cy) (sl - sy) u1 h1 Q) (hcat : cat1 [v1] := by exact rfl) : Gx ad sc M pc L (v1 :: .ref a :: S) c sl u h Q := gx_cu (As := [v1]) hd hl rfl hcat hS ha hc hr hcy hsy k1 k2
theorem bx_cuP1 {ix : Nat} {Y : mt} {a ci : Nat} {fs : List Value} {T : u_T} {N : Nat} {C : String} {x : MethodName} {v1 : Value} {w : Value} (hd : decode M.2.1 pc = .ok (.invokevirtual ix, 3)) (hl : lnU M ix x C Y 1) (hS : catS S) (hr : Y.2.2.2.1 ≠ none) (ha : h a = some (.inr (ci, fs))) (hc : vwCl[ci]? = some (C, T, N)) (k1 : Gl ad sc 0 0 Y (.ref a :: [v1]) u h (fun v u1 h1 => v = w ∧ u1 = u ∧ h1 = h)) (k2 : Gx ad sc M (pc + 3) L (w :: S) c sl u h Q) (hcat : cat1 [v1] := by exact rfl) : Gx ad sc M pc L (v1 :: .ref a :: S) c sl u h Q := gx_cu (As := [v1]) hd hl rfl hcat hS ha hc hr (Nat.zero_le c) (Nat.zero_le sl) k1 (fun v u1 h1 q => by obtain ⟨rfl, rfl, rfl⟩ := q; exact k2)
theorem bx_csu1 {ix cy sy : Nat} {Y : mt} {a ci : Nat} {fs : List Value} {T : u_T} {N : Nat} {C : String} {v1 : Value} {Q1 : qg} (hd : decode M.2.1 pc = .ok (.invokespecial ix, 3)) (hl : lnQ M ix Y 1) (hS : catS S) (hr : Y.2.2.2.1 ≠ none) (ha : h a = some (.inr (ci, fs))) (hc : vwCl[ci]? = some (C, T, N)) (hcy : cy ≤ c) (hsy : sy ≤ sl) (k1 : Gl ad sc cy sy Y (.ref a :: [v1]) u h Q1) (k2 : ∀ v u1 h1, Q1 v u1 h1 → Gx ad sc M (pc + 3) L (v :: S) (c - cy) (sl - sy) u1 h1 Q) (hcat : cat1 [v1] := by exact rfl) : Gx ad sc M pc L (v1 :: .ref a :: S) c sl u h Q := gx_csu (As := [v1]) hd hl rfl hcat hS ha hc hr hcy hsy k1 k2
theorem bx_csuP1 {ix : Nat} {Y : mt} {a ci : Nat} {fs : List Value} {T : u_T} {N : Nat} {C : String} {v1 : Value} {w : Value} (hd : decode M.2.1 pc = .ok (.invokespecial ix, 3)) (hl : lnQ M ix Y 1) (hS : catS S) (hr : Y.2.2.2.1 ≠ none) (ha : h a = some (.inr (ci, fs))) (hc : vwCl[ci]? = some (C, T, N)) (k1 : Gl ad sc 0 0 Y (.ref a :: [v1]) u h (fun v u1 h1 => v = w ∧ u1 = u ∧ h1 = h)) (k2 : Gx ad sc M (pc + 3) L (w :: S) c sl u h Q) (hcat : cat1 [v1] := by exact rfl) : Gx ad sc M pc L (v1 :: .ref a :: S) c sl u h Q := gx_csu (As := [v1]) hd hl rfl hcat hS ha hc hr (Nat.zero_le c) (Nat.zero_le sl) k1 (fun v u1 h1 q => by obtain ⟨rfl, rfl, rfl⟩ := q; exact k2)
theorem bx_cpv1 {ix cy sy : Nat} {Y : mt} {a ci : Nat} {fs : List Value} {T : u_T} {N : Nat} {C : String} {v1 : Value} {Q1 : qg} (hd : decode M.2.1 pc = .ok (.invokevirtual ix, 3)) (hl : lnP M ix C Y 1) (hS : catS S) (hr : Y.2.2.2.1 = none) (ha : h a = some (.inr (ci, fs))) (hc : vwCl[ci]? = some (C, T, N)) (hcy : cy ≤ c) (hsy : sy ≤ sl) (k1 : Gl ad sc cy sy Y (.ref a :: [v1]) u h Q1) (k2 : ∀ u1 h1, Q1 .null u1 h1 → Gx ad sc M (pc + 3) L S (c - cy) (sl - sy) u1 h1 Q) (hcat : cat1 [v1] := by exact rfl) : Gx ad sc M pc L (v1 :: .ref a :: S) c sl u h Q := gx_cpv (As := [v1]) hd hl rfl hcat hS ha hc hr hcy hsy k1 k2
theorem bx_cu2 {ix cy sy : Nat} {Y : mt} {a ci : Nat} {fs : List Value} {T : u_T} {N : Nat} {C : String} {x : MethodName} {v1 v2 : Value} {Q1 : qg} (hd : decode M.2.1 pc = .ok (.invokevirtual ix, 3)) (hl : lnU M ix x C Y 2) (hS : catS S) (hr : Y.2.2.2.1 ≠ none) (ha : h a = some (.inr (ci, fs))) (hc : vwCl[ci]? = some (C, T, N)) (hcy : cy ≤ c) (hsy : sy ≤ sl) (k1 : Gl ad sc cy sy Y (.ref a :: [v1, v2]) u h Q1) (k2 : ∀ v u1 h1, Q1 v u1 h1 → Gx ad sc M (pc + 3) L (v :: S) (c - cy) (sl - sy) u1 h1 Q) (hcat : cat1 [v1, v2] := by exact rfl) : Gx ad sc M pc L (v2 :: v1 :: .ref a :: S) c sl u h Q := gx_cu (As := [v1, v2]) hd hl rfl hcat hS ha hc hr hcy hsy k1 k2
theorem bx_cuP2 {ix : Nat} {Y : mt} {a ci : Nat} {fs : List Value} {T : u_T} {N : Nat} {C : String} {x : MethodName} {v1 v2 : Value} {w : Value} (hd : decode M.2.1 pc = .ok (.invokevirtual ix, 3)) (hl : lnU M ix x C Y 2) (hS : catS S) (hr : Y.2.2.2.1 ≠ none) (ha : h a = some (.inr (ci, fs))) (hc : vwCl[ci]? = some (C, T, N)) (k1 : Gl ad sc 0 0 Y (.ref a :: [v1, v2]) u h (fun v u1 h1 => v = w ∧ u1 = u ∧ h1 = h)) (k2 : Gx ad sc M (pc + 3) L (w :: S) c sl u h Q) (hcat : cat1 [v1, v2] := by exact rfl) : Gx ad sc M pc L (v2 :: v1 :: .ref a :: S) c sl u h Q := gx_cu (As := [v1, v2]) hd hl rfl hcat hS ha hc hr (Nat.zero_le c) (Nat.zero_le sl) k1 (fun v u1 h1 q => by obtain ⟨rfl, rfl, rfl⟩ := q; exact k2)
theorem bx_csu2 {ix cy sy : Nat} {Y : mt} {a ci : Nat} {fs : List Value} {T : u_T} {N : Nat} {C : String} {v1 v2 : Value} {Q1 : qg} (hd : decode M.2.1 pc = .ok (.invokespecial ix, 3)) (hl : lnQ M ix Y 2) (hS : catS S) (hr : Y.2.2.2.1 ≠ none) (ha : h a = some (.inr (ci, fs))) (hc : vwCl[ci]? = some (C, T, N)) (hcy : cy ≤ c) (hsy : sy ≤ sl) (k1 : Gl ad sc cy sy Y (.ref a :: [v1, v2]) u h Q1) (k2 : ∀ v u1 h1, Q1 v u1 h1 → Gx ad sc M (pc + 3) L (v :: S) (c - cy) (sl - sy) u1 h1 Q) (hcat : cat1 [v1, v2] := by exact rfl) : Gx ad sc M pc L (v2 :: v1 :: .ref a :: S) c sl u h Q := gx_csu (As := [v1, v2]) hd hl rfl hcat hS ha hc hr hcy hsy k1 k2
theorem bx_csuP2 {ix : Nat} {Y : mt} {a ci : Nat} {fs : List Value} {T : u_T} {N : Nat} {C : String} {v1 v2 : Value} {w : Value} (hd : decode M.2.1 pc = .ok (.invokespecial ix, 3)) (hl : lnQ M ix Y 2) (hS : catS S) (hr : Y.2.2.2.1 ≠ none) (ha : h a = some (.inr (ci, fs))) (hc : vwCl[ci]? = some (C, T, N)) (k1 : Gl ad sc 0 0 Y (.ref a :: [v1, v2]) u h (fun v u1 h1 => v = w ∧ u1 = u ∧ h1 = h)) (k2 : Gx ad sc M (pc + 3) L (w :: S) c sl u h Q) (hcat : cat1 [v1, v2] := by exact rfl) : Gx ad sc M pc L (v2 :: v1 :: .ref a :: S) c sl u h Q := gx_csu (As := [v1, v2]) hd hl rfl hcat hS ha hc hr (Nat.zero_le c) (Nat.zero_le sl) k1 (fun v u1 h1 q => by obtain ⟨rfl, rfl, rfl⟩ := q; exact k2)
theorem bx_cpv2 {ix cy sy : Nat} {Y : mt} {a ci : Nat} {fs : List Value} {T : u_T} {N : Nat} {C : String} {v1 v2 : Value} {Q1 : qg} (hd : decode M.2.1 pc = .ok (.invokevirtual ix, 3)) (hl : lnP M ix C Y 2) (hS : catS S) (hr : Y.2.2.2.1 = none) (ha : h a = some (.inr (ci, fs))) (hc : vwCl[ci]? = some (C, T, N)) (hcy : cy ≤ c) (hsy : sy ≤ sl) (k1 : Gl ad sc cy sy Y (.ref a :: [v1, v2]) u h Q1) (k2 : ∀ u1 h1, Q1 .null u1 h1 → Gx ad sc M (pc + 3) L S (c - cy) (sl - sy) u1 h1 Q) (hcat : cat1 [v1, v2] := by exact rfl) : Gx ad sc M pc L (v2 :: v1 :: .ref a :: S) c sl u h Q := gx_cpv (As := [v1, v2]) hd hl rfl hcat hS ha hc hr hcy hsy k1 k2
end BXS
section TX
variable {ad : Nat → Nat} {sc : Nat × (Nat → Int32)} {u : hp} {h : hg} {Q : qg} {k w m p cl : Nat} {ce : Nat → Nat} {K : Nat → Nat} {c sl : Nat}
theorem t_coder {a va : Nat} {hs hz : Int32} (ha : h a = some (.inr (9, [.ref va, .int (I 0), .int hs, .int hz]))) : Gl ad sc c sl M_J0_coder_7d493 [.ref a] u h (fun v u1 h1 => v = .int (I 0) ∧ u1 = u ∧ h1 = h) := by
  refine bx_csn cs_str dJ0_coder_7d493_0 ?_
  refine bx_if_eq (tgt := 13) dJ0_coder_7d493_3 (by decide) (by decide) (fun c3 => ?_) (fun c3 => ?_)
  · exact absurd c3 (by decide)
  · refine bx_aload_n dJ0_coder_7d493_6 rfl ?_
    refine bx_getf dJ0_coder_7d493_7 ck9 fg_java_lang_String_15 (by decide) ha rfl ?_
    refine bx_goto (tgt := 14) dJ0_coder_7d493_10 (by decide) ?_
    exact bx_bret dJ0_coder_7d493_14 rfl ⟨rfl, rfl, rfl⟩
theorem t_isL1 {a va : Nat} {hs hz : Int32} (ha : h a = some (.inr (9, [.ref va, .int (I 0), .int hs, .int hz]))) : Gl ad sc c sl M_J0_isLatin1_aae02 [.ref a] u h (fun v u1 h1 => v = .int (I 1) ∧ u1 = u ∧ h1 = h) := by
  refine bx_csn cs_str dJ0_isLatin1_aae02_0 ?_
  refine bx_if_eq (tgt := 17) dJ0_isLatin1_aae02_3 (by decide) (by decide) (fun c3 => ?_) (fun c3 => ?_)
  · exact absurd c3 (by decide)
  · refine bx_aload_n dJ0_isLatin1_aae02_6 rfl ?_
    refine bx_getf dJ0_isLatin1_aae02_7 ck9 fg_java_lang_String_15 (by decide) ha rfl ?_
    refine bx_if_ne (tgt := 17) dJ0_isLatin1_aae02_10 (by decide) (by decide) (fun c10 => ?_) (fun c10 => ?_)
    · exact absurd rfl c10
    · refine bx_iconst dJ0_isLatin1_aae02_13 ?_
      refine bx_goto (tgt := 18) dJ0_isLatin1_aae02_14 (by decide) ?_
      exact bx_zret dJ0_isLatin1_aae02_18 rfl (by first | exact Or.inl rfl | exact Or.inr rfl) ⟨rfl, rfl, rfl⟩
theorem t_len {a va n : Nat} {f : Nat → Int} {hs hz : Int32} (ha : h a = some (.inr (9, [.ref va, .int (I 0), .int hs, .int hz]))) (hv : rwI 1 (h va) n f) : Gl ad sc c sl M_J0_length_8abf5 [.ref a] u h (fun v u1 h1 => v = .int (I (n : Int)) ∧ u1 = u ∧ h1 = h) := by
  refine bx_aload_n dJ0_length_8abf5_0 rfl ?_
  refine bx_getf dJ0_length_8abf5_1 ck9 fg_java_lang_String_9 (by decide) ha rfl ?_
  refine bx_alni dJ0_length_8abf5_4 hv (by decide) ?_
  refine bx_aload_n dJ0_length_8abf5_5 rfl ?_
  refine bx_cvP0 dJ0_length_8abf5_6 ln_J0_length_8abf5_335 (Nat.le_of_ble_eq_true rfl) (by decide) ha rfl (t_coder ha) ?_
  refine gx_ishr dJ0_length_8abf5_9 ?_
  rw [shr0]
  exact bx_iret dJ0_length_8abf5_10 rfl ⟨rfl, rfl, rfl⟩
theorem t_l1c {va n i : Nat} {f : Nat → Int} (hv : rwI 1 (h va) n f) (hi : i < n) (hn : n < 2147483648) (hf : 0 ≤ f i ∧ f i < 128) : Gl ad sc c sl M_J1_charAt_3b067 [.ref va, .int (I (i : Int))] u h (fun v u1 h1 => v = .int (I (f i)) ∧ u1 = u ∧ h1 = h) := by
  obtain ⟨m, hm, he⟩ := nat_of hf.1 hf.2
  refine bx_iload_n dJ1_charAt_3b067_0 rfl ?_
  refine bx_aload_n dJ1_charAt_3b067_1 rfl ?_
  refine bx_alni dJ1_charAt_3b067_2 hv (by decide) ?_
  refine bx_sci (i := i) (n := n) dJ1_charAt_3b067_3 ln_J1_charAt_3b067_9 (Nat.le_of_ble_eq_true rfl) rfl (by omega) (by omega) ?_
  refine bx_aload_n dJ1_charAt_3b067_6 rfl ?_
  refine bx_iload_n dJ1_charAt_3b067_7 rfl ?_
  refine bx_balr (j := i) (w := (f i)) dJ1_charAt_3b067_8 hv rfl hi (by omega) rfl ?_
  refine bx_sipush dJ1_charAt_3b067_9 (by decide) ?_
  refine gx_iand dJ1_charAt_3b067_12 ?_
  rw [he, show I (255 : Int) = 255 by decide, sm_and m (by omega)]
  refine gx_i2c (sm_i2c m (by omega)) dJ1_charAt_3b067_13 ?_
  exact bx_cret dJ1_charAt_3b067_14 rfl (by omega) ⟨rfl, rfl, rfl⟩
theorem t_chr {a va n : Nat} {f : Nat → Int} {hs hz : Int32} (ha : h a = some (.inr (9, [.ref va, .int (I 0), .int hs, .int hz]))) (hv : rwI 1 (h va) n f) {i : Nat} (hi : i < n) (hn : n < 2147483648) (hf : 0 ≤ f i ∧ f i < 128) : Gl ad sc c sl M_J0_charAt_5068e [.ref a, .int (I (i : Int))] u h (fun v u1 h1 => v = .int (I (f i)) ∧ u1 = u ∧ h1 = h) := by
  refine bx_aload_n dJ0_charAt_5068e_0 rfl ?_
  refine bx_cvP0 dJ0_charAt_5068e_1 ln_J0_charAt_5068e_492 (Nat.le_of_ble_eq_true rfl) (by decide) ha rfl (t_isL1 ha) ?_
  refine bx_if_eq (tgt := 16) dJ0_charAt_5068e_4 (by decide) (by decide) (fun c4 => ?_) (fun c4 => ?_)
  · exact absurd c4 (by decide)
  · refine bx_aload_n dJ0_charAt_5068e_7 rfl ?_
    refine bx_getf dJ0_charAt_5068e_8 ck9 fg_java_lang_String_9 (by decide) ha rfl ?_
    refine bx_iload_n dJ0_charAt_5068e_11 rfl ?_
    refine bx_csP2 dJ0_charAt_5068e_12 ln_J0_charAt_5068e_495 (Nat.le_of_ble_eq_true rfl) (by decide) (t_l1c hv hi hn hf) ?_
    exact bx_cret dJ0_charAt_5068e_15 rfl (by omega) ⟨rfl, rfl, rfl⟩
abbrev df_9 : List Value := [.null, .int 0, .int 0, .int 0]
abbrev df_10 : List Value := [.null, .int 0, .int 0, .int 0]
theorem dv_9 : ∀ j, j < 4 → defaultValue (tyJ0 j) = vp_V df_9 j := fun j hj => by
  match j, hj with
  | 0, _ => rfl
  | 1, _ => rfl
  | 2, _ => rfl
  | 3, _ => rfl
theorem dv_10 : ∀ j, j < 4 → defaultValue (tyJ4 j) = vp_V df_10 j := fun j hj => by
  match j, hj with
  | 0, _ => rfl
  | 1, _ => rfl
  | 2, _ => rfl
  | 3, _ => rfl
theorem mn_I {x y : Int} (hx : -2147483648 ≤ x ∧ x < 2147483648) (hy : -2147483648 ≤ y ∧ y < 2147483648) : (if I y < I x then I y else I x) = I (min x y) := by
  by_cases h : y < x
  · rw [if_pos ((I_lt hy hx).mpr h), show min x y = y by omega]
  · rw [if_neg (fun z => h ((I_lt hy hx).mp z)), show min x y = x by omega]
theorem bx_min {M : mt} {pc : Nat} {L S : List Value} {Q : qg} {ix : Nat} {x y : Int} (hd : decode M.2.1 pc = .ok (.invokestatic ix, 3)) (hl : Cond.methodLink M.1.cls ix Lib.Math.min.name ∈ gT) (hr : 1 ≤ M.2.2.2.2.1 ∧ 30 ≤ M.2.2.2.2.2) (hS : catS S) (hx : -2147483648 ≤ x ∧ x < 2147483648) (hy : -2147483648 ≤ y ∧ y < 2147483648) (kk : Gx ad sc M (pc + 3) L (.int (I (min x y)) :: S) c sl u h Q) : Gx ad sc M pc L (.int (I y) :: .int (I x) :: S) c sl u h Q := gx_l_min hl hr hS hd (by rw [mn_I hx hy]; exact kk)
theorem t_asbi {b : Nat} (hb : h b = some (.inr (10, df_10))) : Gl ad sc 1 16 M_J5_init_d00df [.ref b, .int (I 16)] u h (fun v u1 h1 => v = .null ∧ u1 = u ∧ ∃ va e, h va = none ∧ rwI 1 (some e) 16 (fun _ => 0) ∧ h1 = up (up h va e) b (.inr (10, [.ref va, .int (I 0), .int 0, .int 0]))) := by
  refine bx_aload_n dJ5_init_d00df_0 rfl ?_
  refine gx_obj ln_J5_init_d00df_3 ⟨by decide, by decide⟩ (Nat.le_of_ble_eq_true rfl) dJ5_init_d00df_1 ?_
  refine bx_csn cs_asb dJ5_init_d00df_4 ?_
  refine bx_if_eq (tgt := 25) dJ5_init_d00df_7 (by decide) (by decide) (fun c7 => ?_) (fun c7 => ?_)
  · exact absurd c7 (by decide)
  · refine bx_aload_n dJ5_init_d00df_10 rfl ?_
    refine bx_iload_n dJ5_init_d00df_11 rfl ?_
    refine bx_newa (N := 16) dJ5_init_d00df_12 (Or.inr (Or.inl ⟨rfl, rfl⟩)) rfl (by omega) (by omega) (by omega) (fun va eva hva heva => ?_)
    refine bx_putf dJ5_init_d00df_14 ck10 fg_java_lang_AbstractStringBuilder_15 (by decide) ((ug_ne (KN.ne ⟨_, hb⟩ hva)).trans hb) rfl ⟨rfl, rfl⟩ (Nat.le_of_ble_eq_true rfl) rfl ?_
    refine bx_aload_n dJ5_init_d00df_17 rfl ?_
    refine bx_iconst dJ5_init_d00df_18 ?_
    refine bx_putf dJ5_init_d00df_19 ck10 fg_java_lang_AbstractStringBuilder_22 (by decide) ug_eq rfl ⟨rfl, rfl⟩ (Nat.le_of_ble_eq_true rfl) rfl ?_
    rw [up_up]
    refine bx_goto (tgt := 38) dJ5_init_d00df_22 (by decide) ?_
    exact bx_vret dJ5_init_d00df_38 rfl ⟨rfl, rfl, va, eva, hva, heva, rfl⟩
theorem t_sbi {b : Nat} (hb : h b = some (.inr (10, df_10))) : Gl ad sc 1 16 M_J4_init_da8c8 [.ref b] u h (fun v u1 h1 => v = .null ∧ u1 = u ∧ ∃ va e, h va = none ∧ rwI 1 (some e) 16 (fun _ => 0) ∧ h1 = up (up h va e) b (.inr (10, [.ref va, .int (I 0), .int 0, .int 0]))) := by
  refine bx_aload_n dJ4_init_da8c8_0 rfl ?_
  refine bx_bipush dJ4_init_da8c8_1 (by decide) ?_
  refine bx_ci1 dJ4_init_da8c8_3 ln_J4_init_da8c8_1 (Nat.le_of_ble_eq_true rfl) (Nat.le_refl _) (Nat.le_refl _) (t_asbi hb) (fun u9 h9 hq9 => ?_)
  exact bx_vret dJ4_init_da8c8_6 rfl hq9
theorem t_ens {b va n : Nat} {v2 : Value} {g : Nat → Int} {q : Nat} (hb : h b = some (.inr (10, [.ref va, .int (I 0), v2, .int (I (n : Int))]))) (hv : rwI 1 (h va) 16 g) (hq : q ≤ 16) : Gl ad sc 0 0 M_J5_ensureCapacityInternal_d00df [.ref b, .int (I (q : Int))] u h (fun v u1 h1 => v = .null ∧ u1 = u ∧ h1 = h) := by
  refine bx_aload_n dJ5_ensureCapacityInternal_d00df_0 rfl ?_
  refine bx_getf dJ5_ensureCapacityInternal_d00df_1 ck10 fg_java_lang_AbstractStringBuilder_15 (by decide) hb rfl ?_
  refine bx_alni dJ5_ensureCapacityInternal_d00df_4 hv (by decide) ?_
  refine bx_aload_n dJ5_ensureCapacityInternal_d00df_5 rfl ?_
  refine bx_getf dJ5_ensureCapacityInternal_d00df_6 ck10 fg_java_lang_AbstractStringBuilder_22 (by decide) hb rfl ?_
  refine gx_ishr dJ5_ensureCapacityInternal_d00df_9 ?_
  rw [shr0]
  refine bx_istore_n dJ5_ensureCapacityInternal_d00df_10 rfl (by decide) rfl ?_
  refine bx_iload_n dJ5_ensureCapacityInternal_d00df_11 rfl ?_
  refine bx_iload_n dJ5_ensureCapacityInternal_d00df_12 rfl ?_
  refine bx_isub dJ5_ensureCapacityInternal_d00df_13 ?_
  refine bx_if_le (tgt := 38) dJ5_ensureCapacityInternal_d00df_14 (by decide) (by omega) (fun c14 => ?_) (fun c14 => ?_)
  · exact bx_vret dJ5_ensureCapacityInternal_d00df_38 rfl ⟨rfl, rfl, rfl⟩
  · exfalso
    omega
theorem t_sbL1 {b va n : Nat} {v2 : Value} (hb : h b = some (.inr (10, [.ref va, .int (I 0), v2, .int (I (n : Int))]))) : Gl ad sc 0 0 M_J5_isLatin1_aae02 [.ref b] u h (fun v u1 h1 => v = .int (I 1) ∧ u1 = u ∧ h1 = h) := by
  refine bx_csn cs_asb dJ5_isLatin1_aae02_0 ?_
  refine bx_if_eq (tgt := 17) dJ5_isLatin1_aae02_3 (by decide) (by decide) (fun c3 => ?_) (fun c3 => ?_)
  · exact absurd c3 (by decide)
  · refine bx_aload_n dJ5_isLatin1_aae02_6 rfl ?_
    refine bx_getf dJ5_isLatin1_aae02_7 ck10 fg_java_lang_AbstractStringBuilder_22 (by decide) hb rfl ?_
    refine bx_if_ne (tgt := 17) dJ5_isLatin1_aae02_10 (by decide) (by decide) (fun c10 => ?_) (fun c10 => ?_)
    · exact absurd rfl c10
    · refine bx_iconst dJ5_isLatin1_aae02_13 ?_
      refine bx_goto (tgt := 18) dJ5_isLatin1_aae02_14 (by decide) ?_
      exact bx_zret dJ5_isLatin1_aae02_18 rfl (by first | exact Or.inl rfl | exact Or.inr rfl) ⟨rfl, rfl, rfl⟩
theorem t_enc {z : Int} (hz : 0 ≤ z ∧ z < 128) : Gl ad sc 0 0 M_J1_canEncode_fc78d [.int (I z)] u h (fun v u1 h1 => v = .int (I 1) ∧ u1 = u ∧ h1 = h) := by
  refine bx_iload_n dJ1_canEncode_fc78d_0 rfl ?_
  refine bx_sipush dJ1_canEncode_fc78d_1 (by decide) ?_
  refine bx_icmp_gt (tgt := 11) dJ1_canEncode_fc78d_4 (by decide) (by omega) (by omega) (fun c4 => ?_) (fun c4 => ?_)
  · exfalso
    omega
  · refine bx_iconst dJ1_canEncode_fc78d_7 ?_
    refine bx_goto (tgt := 12) dJ1_canEncode_fc78d_8 (by decide) ?_
    exact bx_zret dJ1_canEncode_fc78d_12 rfl (by first | exact Or.inl rfl | exact Or.inr rfl) ⟨rfl, rfl, rfl⟩
theorem t_asbC {b va n : Nat} {v2 : Value} {g : Nat → Int} {z : Int} (hb : h b = some (.inr (10, [.ref va, .int (I 0), v2, .int (I (n : Int))]))) (hv : rwI 1 (h va) 16 g) (hn : n < 16) (hz : 0 ≤ z ∧ z < 128) : Gl ad sc 0 0 M_J5_append_3fe6f [.ref b, .int (I z)] u h (fun v u1 h1 => v = .ref b ∧ u1 = u ∧ ∃ e, rwI 1 (some e) 16 (upZ g n z) ∧ h1 = up (up h b (.inr (10, [.ref va, .int (I 0), v2, .int (I ((n + 1 : Nat) : Int))]))) va e) := by
  obtain ⟨m, hm, rfl⟩ := nat_of hz.1 hz.2
  have hnb := hv.no hb
  refine bx_aload_n dJ5_append_3fe6f_0 rfl ?_
  refine bx_aload_n dJ5_append_3fe6f_1 rfl ?_
  refine bx_getf dJ5_append_3fe6f_2 ck10 fg_java_lang_AbstractStringBuilder_79 (by decide) hb rfl ?_
  refine bx_iconst dJ5_append_3fe6f_5 ?_
  refine bx_iadd dJ5_append_3fe6f_6 ?_
  refine bx_cpv1 dJ5_append_3fe6f_7 ln_J5_append_3fe6f_100 (Nat.le_of_ble_eq_true rfl) rfl hb rfl (Nat.zero_le _) (Nat.zero_le _) (t_ens (q := n + 1) hb hv (by omega)) (fun u9 h9 hq9 => ?_)
  obtain ⟨-, rfl, rfl⟩ := hq9
  refine bx_aload_n dJ5_append_3fe6f_10 rfl ?_
  refine bx_cuP0 dJ5_append_3fe6f_11 ln_J5_append_3fe6f_83 (Nat.le_of_ble_eq_true rfl) (by decide) hb rfl (t_sbL1 hb) ?_
  refine bx_if_eq (tgt := 45) dJ5_append_3fe6f_14 (by decide) (by decide) (fun c14 => ?_) (fun c14 => ?_)
  · exact absurd c14 (by decide)
  · refine bx_iload_n dJ5_append_3fe6f_17 rfl ?_
    refine bx_csP1 dJ5_append_3fe6f_18 ln_J5_append_3fe6f_191 (Nat.le_of_ble_eq_true rfl) (by decide) (t_enc hz) ?_
    refine bx_if_eq (tgt := 45) dJ5_append_3fe6f_21 (by decide) (by decide) (fun c21 => ?_) (fun c21 => ?_)
    · exact absurd c21 (by decide)
    · refine bx_aload_n dJ5_append_3fe6f_24 rfl ?_
      refine bx_getf dJ5_append_3fe6f_25 ck10 fg_java_lang_AbstractStringBuilder_15 (by decide) hb rfl ?_
      refine bx_aload_n dJ5_append_3fe6f_28 rfl ?_
      refine bx_dup dJ5_append_3fe6f_29 rfl ?_
      refine bx_getf dJ5_append_3fe6f_30 ck10 fg_java_lang_AbstractStringBuilder_79 (by decide) hb rfl ?_
      refine gx_dup_x1 rfl rfl dJ5_append_3fe6f_33 ?_
      refine bx_iconst dJ5_append_3fe6f_34 ?_
      refine bx_iadd dJ5_append_3fe6f_35 ?_
      refine bx_putf dJ5_append_3fe6f_36 ck10 fg_java_lang_AbstractStringBuilder_79 (by decide) hb rfl ⟨rfl, rfl⟩ (Nat.le_of_ble_eq_true rfl) rfl ?_
      refine bx_iload_n dJ5_append_3fe6f_39 rfl ?_
      refine gx_i2b (sm_i2b m hm) dJ5_append_3fe6f_40 ?_
      refine bx_basr (j := n) dJ5_append_3fe6f_41 (hv.mv (ug_ne hnb)) rfl hn (by omega) (sm_nar m hm) (fun e41 he41 => ?_)
      refine bx_goto (tgt := 75) dJ5_append_3fe6f_42 (by decide) ?_
      refine bx_aload_n dJ5_append_3fe6f_75 rfl ?_
      exact bx_aret dJ5_append_3fe6f_76 rfl ⟨rfl, rfl, e41, he41, rfl⟩
theorem t_sbC {b va n : Nat} {v2 : Value} {g : Nat → Int} {z : Int} (hb : h b = some (.inr (10, [.ref va, .int (I 0), v2, .int (I (n : Int))]))) (hv : rwI 1 (h va) 16 g) (hn : n < 16) (hz : 0 ≤ z ∧ z < 128) : Gl ad sc 0 0 M_J4_append_cf468 [.ref b, .int (I z)] u h (fun v u1 h1 => v = .ref b ∧ u1 = u ∧ ∃ e, rwI 1 (some e) 16 (upZ g n z) ∧ h1 = up (up h b (.inr (10, [.ref va, .int (I 0), v2, .int (I ((n + 1 : Nat) : Int))]))) va e) := by
  refine bx_aload_n dJ4_append_cf468_0 rfl ?_
  refine bx_iload_n dJ4_append_cf468_1 rfl ?_
  refine bx_csu1 dJ4_append_cf468_2 ln_J4_append_cf468_50 (Nat.le_of_ble_eq_true rfl) (by decide) hb rfl (Nat.zero_le _) (Nat.zero_le _) (t_asbC hb hv hn hz) (fun v9 u9 h9 hq9 => ?_)
  obtain ⟨rfl, rfl, e9, he9, rfl⟩ := hq9
  refine bx_pop dJ4_append_cf468_5 rfl ?_
  refine bx_aload_n dJ4_append_cf468_6 rfl ?_
  exact bx_aret dJ4_append_cf468_7 rfl ⟨rfl, rfl, e9, he9, rfl⟩
theorem t_gb {q n : Nat} {g : Nat → Int} {s vs k : Nat} {f : Nat → Int} {hs hz : Int32} (ha : h s = some (.inr (9, [.ref vs, .int (I 0), .int hs, .int hz]))) (hw : rwI 1 (h vs) k f) (hf : ∀ i, i < k → 0 ≤ f i ∧ f i < 128) (hv : rwI 1 (h q) 16 g) (hk : n + k ≤ 16) : Gl ad sc 0 0 M_J0_getBytes_840e7 [.ref s, .ref q, .int (I (n : Int)), .int (I 0)] u h (fun v u1 h1 => v = .null ∧ u1 = u ∧ ∃ e, rwI 1 (some e) 16 (fun i => if n ≤ i ∧ i < n + k then f (0 + (i - n)) else g i) ∧ h1 = up h q e) := by
  refine bx_aload_n dJ0_getBytes_840e7_0 rfl ?_
  refine bx_cvP0 dJ0_getBytes_840e7_1 ln_J0_getBytes_840e7_335 (Nat.le_of_ble_eq_true rfl) (by decide) ha rfl (t_coder ha) ?_
  refine bx_iload_n dJ0_getBytes_840e7_4 rfl ?_
  refine bx_icmp_ne (tgt := 28) dJ0_getBytes_840e7_5 (by decide) (by decide) (by decide) (fun c5 => ?_) (fun c5 => ?_)
  · exact absurd rfl c5
  · refine bx_aload_n dJ0_getBytes_840e7_8 rfl ?_
    refine bx_getf dJ0_getBytes_840e7_9 ck9 fg_java_lang_String_9 (by decide) ha rfl ?_
    refine bx_iconst dJ0_getBytes_840e7_12 ?_
    refine bx_aload_n dJ0_getBytes_840e7_13 rfl ?_
    refine bx_iload_n dJ0_getBytes_840e7_14 rfl ?_
    refine bx_iload_n dJ0_getBytes_840e7_15 rfl ?_
    refine gx_ishl dJ0_getBytes_840e7_16 ?_
    rw [shl0]
    refine bx_aload_n dJ0_getBytes_840e7_17 rfl ?_
    refine bx_getf dJ0_getBytes_840e7_18 ck9 fg_java_lang_String_9 (by decide) ha rfl ?_
    refine bx_alni dJ0_getBytes_840e7_21 hw (by decide) ?_
    refine bx_cpb (sp := 0) (dp := n) (n := k) dJ0_getBytes_840e7_22 ln_J0_getBytes_840e7_212 ⟨by decide, by decide⟩ (Nat.le_of_ble_eq_true rfl) hw hv rfl rfl rfl (by omega) (by omega) (by omega) (by omega) (fun i hi => by rw [Nat.zero_add]; exact hf i hi) (fun e22 he22 => ?_)
    refine bx_goto (tgt := 43) dJ0_getBytes_840e7_25 (by decide) ?_
    exact bx_vret dJ0_getBytes_840e7_43 rfl ⟨rfl, rfl, e22, he22, rfl⟩
theorem t_gbL {q n : Nat} {g : Nat → Int} {j : Nat} (hj : j < 24) (hj0 : txtN.getD j 0 = 0) (hv : rwI 1 (h q) 16 g) (hk : n ≤ 16) : Gl ad sc 0 0 M_J0_getBytes_840e7 [.ref (ad (2000 + j)), .ref q, .int (I (n : Int)), .int (I 0)] u h (fun v u1 h1 => v = .null ∧ u1 = u ∧ ∃ e, rwI 1 (some e) 16 (fun i => if n ≤ i ∧ i < n + 0 then (fun _ => 0) (0 + (i - n)) else g i) ∧ h1 = up h q e) := by
  obtain ⟨G9, hv1, hv2⟩ := hv
  refine bx_aload_n dJ0_getBytes_840e7_0 rfl ?_
  refine gx_tcod (j := j) dJ0_getBytes_840e7_1 ln_J0_getBytes_840e7_335 (Nat.le_of_ble_eq_true rfl) hj ?_
  rw [show (0 : Int32) = I 0 from rfl]
  refine bx_iload_n dJ0_getBytes_840e7_4 rfl ?_
  refine bx_icmp_ne (tgt := 28) dJ0_getBytes_840e7_5 (by decide) (by decide) (by decide) (fun c5 => ?_) (fun c5 => ?_)
  · exact absurd rfl c5
  · refine bx_aload_n dJ0_getBytes_840e7_8 rfl ?_
    refine gx_tgv (j := j) fg_java_lang_String_9 hj dJ0_getBytes_840e7_9 ?_
    refine bx_iconst dJ0_getBytes_840e7_12 ?_
    refine bx_aload_n dJ0_getBytes_840e7_13 rfl ?_
    refine bx_iload_n dJ0_getBytes_840e7_14 rfl ?_
    refine bx_iload_n dJ0_getBytes_840e7_15 rfl ?_
    refine gx_ishl dJ0_getBytes_840e7_16 ?_
    rw [shl0]
    refine bx_aload_n dJ0_getBytes_840e7_17 rfl ?_
    refine gx_tgv (j := j) fg_java_lang_String_9 hj dJ0_getBytes_840e7_18 ?_
    refine gx_tal (j := j) (v := I 0) hj (by rw [hj0]; rfl) dJ0_getBytes_840e7_21 ?_
    have e0 : (I 0).toNatClampNeg = 0 := by decide
    have en : (I (n : Int)).toNatClampNeg = n := I_clamp (by omega)
    refine gx_cpt (j := j) ln_J0_getBytes_840e7_212 ⟨by decide, by decide⟩ (Nat.le_of_ble_eq_true rfl) hj hv1 (by decide) (by rw [← I_nat]; exact nI_pos (by omega)) (by decide) (by rw [e0, hj0]; exact Nat.le_refl 0) (by rw [en, e0]; exact hk) (fun i hi => by rw [e0] at hi; exact absurd hi (Nat.not_lt_zero _)) dJ0_getBytes_840e7_22 ?_
    refine bx_goto (tgt := 43) dJ0_getBytes_840e7_25 (by decide) ?_
    exact bx_vret dJ0_getBytes_840e7_43 rfl ⟨rfl, rfl, _, ⟨_, rfl, fun i hi => by rw [en, e0]; unfold va_cpy; rw [if_neg (by omega)]; simp only [if_neg (show ¬ (n ≤ i ∧ i < n + 0) by omega)]; exact hv2 i hi⟩, rfl⟩
theorem t_inf {b va n : Nat} {v2 : Value} {g : Nat → Int} {s vs : Nat} {hs hz : Int32} (ha : h s = some (.inr (9, [.ref vs, .int (I 0), .int hs, .int hz]))) (hb : h b = some (.inr (10, [.ref va, .int (I 0), v2, .int (I (n : Int))]))) (hv : rwI 1 (h va) 16 g) : Gl ad sc 0 0 M_J5_inflateIfNeededFor_a7421 [.ref b, .ref s] u h (fun v u1 h1 => v = .null ∧ u1 = u ∧ h1 = h) := by
  refine bx_csn cs_asb dJ5_inflateIfNeededFor_a7421_0 ?_
  refine bx_if_eq (tgt := 21) dJ5_inflateIfNeededFor_a7421_3 (by decide) (by decide) (fun c3 => ?_) (fun c3 => ?_)
  · exact absurd c3 (by decide)
  · refine bx_aload_n dJ5_inflateIfNeededFor_a7421_6 rfl ?_
    refine bx_getf dJ5_inflateIfNeededFor_a7421_7 ck10 fg_java_lang_AbstractStringBuilder_22 (by decide) hb rfl ?_
    refine bx_aload_n dJ5_inflateIfNeededFor_a7421_10 rfl ?_
    refine bx_cvP0 dJ5_inflateIfNeededFor_a7421_11 ln_J5_inflateIfNeededFor_a7421_40 (Nat.le_of_ble_eq_true rfl) (by decide) ha rfl (t_coder ha) ?_
    refine bx_icmp_eq (tgt := 21) dJ5_inflateIfNeededFor_a7421_14 (by decide) (by decide) (by decide) (fun c14 => ?_) (fun c14 => ?_)
    · exact bx_vret dJ5_inflateIfNeededFor_a7421_21 rfl ⟨rfl, rfl, rfl⟩
    · exact absurd rfl c14
theorem t_psa {b va n : Nat} {v2 : Value} {g : Nat → Int} {s vs k : Nat} {f : Nat → Int} {hs hz : Int32} (ha : h s = some (.inr (9, [.ref vs, .int (I 0), .int hs, .int hz]))) (hw : rwI 1 (h vs) k f) (hf : ∀ i, i < k → 0 ≤ f i ∧ f i < 128) (hb : h b = some (.inr (10, [.ref va, .int (I 0), v2, .int (I (n : Int))]))) (hv : rwI 1 (h va) 16 g) (hk : n + k ≤ 16) : Gl ad sc 0 0 M_J5_putStringAt_47b60 [.ref b, .int (I (n : Int)), .ref s] u h (fun v u1 h1 => v = .null ∧ u1 = u ∧ ∃ e, rwI 1 (some e) 16 (fun i => if n ≤ i ∧ i < n + k then f (0 + (i - n)) else g i) ∧ h1 = up h va e) := by
  refine bx_aload_n dJ5_putStringAt_47b60_0 rfl ?_
  refine bx_aload_n dJ5_putStringAt_47b60_1 rfl ?_
  refine bx_cpv1 dJ5_putStringAt_47b60_2 ln_J5_putStringAt_47b60_397 (Nat.le_of_ble_eq_true rfl) rfl hb rfl (Nat.zero_le _) (Nat.zero_le _) (t_inf ha hb hv) (fun u9 h9 hq9 => ?_)
  obtain ⟨-, rfl, rfl⟩ := hq9
  refine bx_aload_n dJ5_putStringAt_47b60_5 rfl ?_
  refine bx_aload_n dJ5_putStringAt_47b60_6 rfl ?_
  refine bx_getf dJ5_putStringAt_47b60_7 ck10 fg_java_lang_AbstractStringBuilder_15 (by decide) hb rfl ?_
  refine bx_iload_n dJ5_putStringAt_47b60_10 rfl ?_
  refine bx_aload_n dJ5_putStringAt_47b60_11 rfl ?_
  refine bx_getf dJ5_putStringAt_47b60_12 ck10 fg_java_lang_AbstractStringBuilder_22 (by decide) hb rfl ?_
  refine bx_cvv3 dJ5_putStringAt_47b60_15 ln_J5_putStringAt_47b60_399 (Nat.le_of_ble_eq_true rfl) rfl ha rfl (Nat.zero_le _) (Nat.zero_le _) (t_gb ha hw hf hv hk) (fun u8 h8 hq8 => ?_)
  exact bx_vret dJ5_putStringAt_47b60_18 rfl hq8
theorem t_asbS {b va n : Nat} {v2 : Value} {g : Nat → Int} {s vs k : Nat} {f : Nat → Int} {hs hz : Int32} (ha : h s = some (.inr (9, [.ref vs, .int (I 0), .int hs, .int hz]))) (hw : rwI 1 (h vs) k f) (hf : ∀ i, i < k → 0 ≤ f i ∧ f i < 128) (hb : h b = some (.inr (10, [.ref va, .int (I 0), v2, .int (I (n : Int))]))) (hv : rwI 1 (h va) 16 g) (hk : n + k ≤ 16) : Gl ad sc 0 0 M_J5_append_cf1ce [.ref b, .ref s] u h (fun v u1 h1 => v = .ref b ∧ u1 = u ∧ ∃ e, rwI 1 (some e) 16 (fun i => if n ≤ i ∧ i < n + k then f (0 + (i - n)) else g i) ∧ h1 = up (up h va e) b (.inr (10, [.ref va, .int (I 0), v2, .int (I ((n + k : Nat) : Int))]))) := by
  have hnb := hv.no hb
  refine bx_aload_n dJ5_append_cf1ce_0 rfl ?_
  refine gx_nonnull (tgt := 9) dJ5_append_cf1ce_1 (by decide) ?_
  refine bx_aload_n dJ5_append_cf1ce_9 rfl ?_
  refine bx_cvP0 dJ5_append_cf1ce_10 ln_J5_append_cf1ce_32 (Nat.le_of_ble_eq_true rfl) (by decide) ha rfl (t_len ha hw) ?_
  refine bx_istore_n dJ5_append_cf1ce_13 rfl (by decide) rfl ?_
  refine bx_aload_n dJ5_append_cf1ce_14 rfl ?_
  refine bx_aload_n dJ5_append_cf1ce_15 rfl ?_
  refine bx_getf dJ5_append_cf1ce_16 ck10 fg_java_lang_AbstractStringBuilder_79 (by decide) hb rfl ?_
  refine bx_iload_n dJ5_append_cf1ce_19 rfl ?_
  refine bx_iadd dJ5_append_cf1ce_20 ?_
  refine bx_cpv1 dJ5_append_cf1ce_21 ln_J5_append_cf1ce_100 (Nat.le_of_ble_eq_true rfl) rfl hb rfl (Nat.zero_le _) (Nat.zero_le _) (t_ens (q := n + k) hb hv hk) (fun u9 h9 hq9 => ?_)
  obtain ⟨-, rfl, rfl⟩ := hq9
  refine bx_aload_n dJ5_append_cf1ce_24 rfl ?_
  refine bx_aload_n dJ5_append_cf1ce_25 rfl ?_
  refine bx_getf dJ5_append_cf1ce_26 ck10 fg_java_lang_AbstractStringBuilder_79 (by decide) hb rfl ?_
  refine bx_aload_n dJ5_append_cf1ce_29 rfl ?_
  refine bx_cpv2 dJ5_append_cf1ce_30 ln_J5_append_cf1ce_208 (Nat.le_of_ble_eq_true rfl) rfl hb rfl (Nat.zero_le _) (Nat.zero_le _) (t_psa ha hw hf hb hv hk) (fun u8 h8 hq8 => ?_)
  obtain ⟨-, rfl, e8, he8, rfl⟩ := hq8
  have hb8 := (ug_ne (e := e8) (h := h9) (Ne.symm hnb)).trans hb
  refine bx_aload_n dJ5_append_cf1ce_33 rfl ?_
  refine bx_dup dJ5_append_cf1ce_34 rfl ?_
  refine bx_getf dJ5_append_cf1ce_35 ck10 fg_java_lang_AbstractStringBuilder_79 (by decide) hb8 rfl ?_
  refine bx_iload_n dJ5_append_cf1ce_38 rfl ?_
  refine bx_iadd dJ5_append_cf1ce_39 ?_
  refine bx_putf dJ5_append_cf1ce_40 ck10 fg_java_lang_AbstractStringBuilder_79 (by decide) hb8 rfl ⟨rfl, rfl⟩ (Nat.le_of_ble_eq_true rfl) rfl ?_
  refine bx_aload_n dJ5_append_cf1ce_43 rfl ?_
  exact bx_aret dJ5_append_cf1ce_44 rfl ⟨rfl, rfl, e8, he8, rfl⟩
theorem t_sbS {b va n : Nat} {v2 : Value} {g : Nat → Int} {s vs k : Nat} {f : Nat → Int} {hs hz : Int32} (ha : h s = some (.inr (9, [.ref vs, .int (I 0), .int hs, .int hz]))) (hw : rwI 1 (h vs) k f) (hf : ∀ i, i < k → 0 ≤ f i ∧ f i < 128) (hb : h b = some (.inr (10, [.ref va, .int (I 0), v2, .int (I (n : Int))]))) (hv : rwI 1 (h va) 16 g) (hk : n + k ≤ 16) : Gl ad sc 0 0 M_J4_append_15ec4 [.ref b, .ref s] u h (fun v u1 h1 => v = .ref b ∧ u1 = u ∧ ∃ e, rwI 1 (some e) 16 (fun i => if n ≤ i ∧ i < n + k then f (0 + (i - n)) else g i) ∧ h1 = up (up h va e) b (.inr (10, [.ref va, .int (I 0), v2, .int (I ((n + k : Nat) : Int))]))) := by
  refine bx_aload_n dJ4_append_15ec4_0 rfl ?_
  refine bx_aload_n dJ4_append_15ec4_1 rfl ?_
  refine bx_csu1 dJ4_append_15ec4_2 ln_J4_append_15ec4_29 (Nat.le_of_ble_eq_true rfl) (by decide) hb rfl (Nat.zero_le _) (Nat.zero_le _) (t_asbS ha hw hf hb hv hk) (fun v9 u9 h9 hq9 => ?_)
  obtain ⟨rfl, rfl, e9, he9, rfl⟩ := hq9
  refine bx_pop dJ4_append_15ec4_5 rfl ?_
  refine bx_aload_n dJ4_append_15ec4_6 rfl ?_
  exact bx_aret dJ4_append_15ec4_7 rfl ⟨rfl, rfl, e9, he9, rfl⟩
theorem t_infL {b va n : Nat} {v2 : Value} {g : Nat → Int} {j : Nat} (hj : j < 24) (hj0 : txtN.getD j 0 = 0) (hb : h b = some (.inr (10, [.ref va, .int (I 0), v2, .int (I (n : Int))]))) (hv : rwI 1 (h va) 16 g) : Gl ad sc 0 0 M_J5_inflateIfNeededFor_a7421 [.ref b, .ref (ad (2000 + j))] u h (fun v u1 h1 => v = .null ∧ u1 = u ∧ h1 = h) := by
  refine bx_csn cs_asb dJ5_inflateIfNeededFor_a7421_0 ?_
  refine bx_if_eq (tgt := 21) dJ5_inflateIfNeededFor_a7421_3 (by decide) (by decide) (fun c3 => ?_) (fun c3 => ?_)
  · exact absurd c3 (by decide)
  · refine bx_aload_n dJ5_inflateIfNeededFor_a7421_6 rfl ?_
    refine bx_getf dJ5_inflateIfNeededFor_a7421_7 ck10 fg_java_lang_AbstractStringBuilder_22 (by decide) hb rfl ?_
    refine bx_aload_n dJ5_inflateIfNeededFor_a7421_10 rfl ?_
    refine gx_tcod (j := j) dJ5_inflateIfNeededFor_a7421_11 ln_J5_inflateIfNeededFor_a7421_40 (Nat.le_of_ble_eq_true rfl) hj ?_
    rw [show (0 : Int32) = I 0 from rfl]
    refine bx_icmp_eq (tgt := 21) dJ5_inflateIfNeededFor_a7421_14 (by decide) (by decide) (by decide) (fun c14 => ?_) (fun c14 => ?_)
    · exact bx_vret dJ5_inflateIfNeededFor_a7421_21 rfl ⟨rfl, rfl, rfl⟩
    · exact absurd rfl c14
theorem t_psaL {b va n : Nat} {v2 : Value} {g : Nat → Int} {j : Nat} (hj : j < 24) (hj0 : txtN.getD j 0 = 0) (hb : h b = some (.inr (10, [.ref va, .int (I 0), v2, .int (I (n : Int))]))) (hv : rwI 1 (h va) 16 g) (hk : n + 0 ≤ 16) : Gl ad sc 0 0 M_J5_putStringAt_47b60 [.ref b, .int (I (n : Int)), .ref (ad (2000 + j))] u h (fun v u1 h1 => v = .null ∧ u1 = u ∧ ∃ e, rwI 1 (some e) 16 (fun i => if n ≤ i ∧ i < n + 0 then (fun _ => 0) (0 + (i - n)) else g i) ∧ h1 = up h va e) := by
  refine bx_aload_n dJ5_putStringAt_47b60_0 rfl ?_
  refine bx_aload_n dJ5_putStringAt_47b60_1 rfl ?_
  refine bx_cpv1 dJ5_putStringAt_47b60_2 ln_J5_putStringAt_47b60_397 (Nat.le_of_ble_eq_true rfl) rfl hb rfl (Nat.zero_le _) (Nat.zero_le _) (t_infL hj hj0 hb hv) (fun u9 h9 hq9 => ?_)
  obtain ⟨-, rfl, rfl⟩ := hq9
  refine bx_aload_n dJ5_putStringAt_47b60_5 rfl ?_
  refine bx_aload_n dJ5_putStringAt_47b60_6 rfl ?_
  refine bx_getf dJ5_putStringAt_47b60_7 ck10 fg_java_lang_AbstractStringBuilder_15 (by decide) hb rfl ?_
  refine bx_iload_n dJ5_putStringAt_47b60_10 rfl ?_
  refine bx_aload_n dJ5_putStringAt_47b60_11 rfl ?_
  refine bx_getf dJ5_putStringAt_47b60_12 ck10 fg_java_lang_AbstractStringBuilder_22 (by decide) hb rfl ?_
  refine gx_cvL (j := j) (As := [.ref va, .int (I (n : Int)), .int (I 0)]) dJ5_putStringAt_47b60_15 ln_J5_putStringAt_47b60_399 rfl rfl (Nat.le_of_ble_eq_true rfl) hj rfl rfl (Nat.zero_le _) (Nat.zero_le _) (t_gbL hj hj0 hv (by omega)) (fun u8 h8 hq8 => ?_)
  exact bx_vret dJ5_putStringAt_47b60_18 rfl hq8
theorem t_asbSL {b va n : Nat} {v2 : Value} {g : Nat → Int} {j : Nat} (hj : j < 24) (hj0 : txtN.getD j 0 = 0) (hb : h b = some (.inr (10, [.ref va, .int (I 0), v2, .int (I (n : Int))]))) (hv : rwI 1 (h va) 16 g) (hk : n + 0 ≤ 16) : Gl ad sc 0 0 M_J5_append_cf1ce [.ref b, .ref (ad (2000 + j))] u h (fun v u1 h1 => v = .ref b ∧ u1 = u ∧ ∃ e, rwI 1 (some e) 16 (fun i => if n ≤ i ∧ i < n + 0 then (fun _ => 0) (0 + (i - n)) else g i) ∧ h1 = up (up h va e) b (.inr (10, [.ref va, .int (I 0), v2, .int (I ((n + 0 : Nat) : Int))]))) := by
  have hnb := hv.no hb
  refine bx_aload_n dJ5_append_cf1ce_0 rfl ?_
  refine gx_nonnull (tgt := 9) dJ5_append_cf1ce_1 (by decide) ?_
  refine bx_aload_n dJ5_append_cf1ce_9 rfl ?_
  refine gx_tlen (j := j) (v := I 0) dJ5_append_cf1ce_10 ln_J5_append_cf1ce_32 (Nat.le_of_ble_eq_true rfl) hj (by rw [hj0]; rfl) ?_
  rw [show I 0 = I ((0 : Nat) : Int) from rfl]
  refine bx_istore_n dJ5_append_cf1ce_13 rfl (by decide) rfl ?_
  refine bx_aload_n dJ5_append_cf1ce_14 rfl ?_
  refine bx_aload_n dJ5_append_cf1ce_15 rfl ?_
  refine bx_getf dJ5_append_cf1ce_16 ck10 fg_java_lang_AbstractStringBuilder_79 (by decide) hb rfl ?_
  refine bx_iload_n dJ5_append_cf1ce_19 rfl ?_
  refine bx_iadd dJ5_append_cf1ce_20 ?_
  refine bx_cpv1 dJ5_append_cf1ce_21 ln_J5_append_cf1ce_100 (Nat.le_of_ble_eq_true rfl) rfl hb rfl (Nat.zero_le _) (Nat.zero_le _) (t_ens (q := n + 0) hb hv hk) (fun u9 h9 hq9 => ?_)
  obtain ⟨-, rfl, rfl⟩ := hq9
  refine bx_aload_n dJ5_append_cf1ce_24 rfl ?_
  refine bx_aload_n dJ5_append_cf1ce_25 rfl ?_
  refine bx_getf dJ5_append_cf1ce_26 ck10 fg_java_lang_AbstractStringBuilder_79 (by decide) hb rfl ?_
  refine bx_aload_n dJ5_append_cf1ce_29 rfl ?_
  refine bx_cpv2 dJ5_append_cf1ce_30 ln_J5_append_cf1ce_208 (Nat.le_of_ble_eq_true rfl) rfl hb rfl (Nat.zero_le _) (Nat.zero_le _) (t_psaL hj hj0 hb hv hk) (fun u8 h8 hq8 => ?_)
  obtain ⟨-, rfl, e8, he8, rfl⟩ := hq8
  have hb8 := (ug_ne (e := e8) (h := h9) (Ne.symm hnb)).trans hb
  refine bx_aload_n dJ5_append_cf1ce_33 rfl ?_
  refine bx_dup dJ5_append_cf1ce_34 rfl ?_
  refine bx_getf dJ5_append_cf1ce_35 ck10 fg_java_lang_AbstractStringBuilder_79 (by decide) hb8 rfl ?_
  refine bx_iload_n dJ5_append_cf1ce_38 rfl ?_
  refine bx_iadd dJ5_append_cf1ce_39 ?_
  refine bx_putf dJ5_append_cf1ce_40 ck10 fg_java_lang_AbstractStringBuilder_79 (by decide) hb8 rfl ⟨rfl, rfl⟩ (Nat.le_of_ble_eq_true rfl) rfl ?_
  refine bx_aload_n dJ5_append_cf1ce_43 rfl ?_
  exact bx_aret dJ5_append_cf1ce_44 rfl ⟨rfl, rfl, e8, he8, rfl⟩
theorem t_sbSL {b va n : Nat} {v2 : Value} {g : Nat → Int} {j : Nat} (hj : j < 24) (hj0 : txtN.getD j 0 = 0) (hb : h b = some (.inr (10, [.ref va, .int (I 0), v2, .int (I (n : Int))]))) (hv : rwI 1 (h va) 16 g) (hk : n + 0 ≤ 16) : Gl ad sc 0 0 M_J4_append_15ec4 [.ref b, .ref (ad (2000 + j))] u h (fun v u1 h1 => v = .ref b ∧ u1 = u ∧ ∃ e, rwI 1 (some e) 16 (fun i => if n ≤ i ∧ i < n + 0 then (fun _ => 0) (0 + (i - n)) else g i) ∧ h1 = up (up h va e) b (.inr (10, [.ref va, .int (I 0), v2, .int (I ((n + 0 : Nat) : Int))]))) := by
  refine bx_aload_n dJ4_append_15ec4_0 rfl ?_
  refine bx_aload_n dJ4_append_15ec4_1 rfl ?_
  refine bx_csu1 dJ4_append_15ec4_2 ln_J4_append_15ec4_29 (Nat.le_of_ble_eq_true rfl) (by decide) hb rfl (Nat.zero_le _) (Nat.zero_le _) (t_asbSL hj hj0 hb hv hk) (fun v9 u9 h9 hq9 => ?_)
  obtain ⟨rfl, rfl, e9, he9, rfl⟩ := hq9
  refine bx_pop dJ4_append_15ec4_5 rfl ?_
  refine bx_aload_n dJ4_append_15ec4_6 rfl ?_
  exact bx_aret dJ4_append_15ec4_7 rfl ⟨rfl, rfl, e9, he9, rfl⟩
theorem bx_aretA {M : mt} {pc : Nat} {L : List Value} {Q : qg} {r : Nat} {t : FieldType} (hd : decode M.2.1 pc = .ok (.areturn, 1)) (hr : M.2.2.2.1 = some (.array t)) (hq : Q (.ref r) u h) : Gx ad sc M pc L [.ref r] c sl u h Q := gx_aret hd hr (Or.inr ⟨_, rfl⟩) (Or.inr ⟨r, rfl⟩) hq
theorem t_getv {b va n : Nat} {v2 : Value} (hb : h b = some (.inr (10, [.ref va, .int (I 0), v2, .int (I (n : Int))]))) : Gl ad sc 0 0 M_J5_getValue_6d5f1 [.ref b] u h (fun v u1 h1 => v = .ref va ∧ u1 = u ∧ h1 = h) := by
  refine bx_aload_n dJ5_getValue_6d5f1_0 rfl ?_
  refine bx_getf dJ5_getValue_6d5f1_1 ck10 fg_java_lang_AbstractStringBuilder_15 (by decide) hb rfl ?_
  exact bx_aretA dJ5_getValue_6d5f1_4 rfl ⟨rfl, rfl, rfl⟩
theorem t_alen {b va n : Nat} {v2 : Value} (hb : h b = some (.inr (10, [.ref va, .int (I 0), v2, .int (I (n : Int))]))) : Gl ad sc 0 0 M_J5_length_8abf5 [.ref b] u h (fun v u1 h1 => v = .int (I (n : Int)) ∧ u1 = u ∧ h1 = h) := by
  refine bx_aload_n dJ5_length_8abf5_0 rfl ?_
  refine bx_getf dJ5_length_8abf5_1 ck10 fg_java_lang_AbstractStringBuilder_79 (by decide) hb rfl ?_
  exact bx_iret dJ5_length_8abf5_4 rfl ⟨rfl, rfl, rfl⟩
theorem t_blen {b va n : Nat} {v2 : Value} (hb : h b = some (.inr (10, [.ref va, .int (I 0), v2, .int (I (n : Int))]))) : Gl ad sc 0 0 M_J4_length_8abf5 [.ref b] u h (fun v u1 h1 => v = .int (I (n : Int)) ∧ u1 = u ∧ h1 = h) := by
  refine bx_aload_n dJ4_length_8abf5_0 rfl ?_
  refine bx_csuP0 dJ4_length_8abf5_1 ln_J4_length_8abf5_343 (Nat.le_of_ble_eq_true rfl) (by decide) hb rfl (t_alen hb) ?_
  exact bx_iret dJ4_length_8abf5_4 rfl ⟨rfl, rfl, rfl⟩
theorem t_ckl {p q : Int} (hp9 : 0 ≤ p ∧ p ≤ q ∧ q < 2147483648) : Gl ad sc 0 0 M_J7_checkLength_df160 [.int (I p), .int (I q)] u h (fun v u1 h1 => v = .null ∧ u1 = u ∧ h1 = h) := by
  refine bx_iload_n dJ7_checkLength_df160_0 rfl ?_
  refine bx_iload_n dJ7_checkLength_df160_1 rfl ?_
  refine bx_icmp_ge (tgt := 37) dJ7_checkLength_df160_2 (by decide) (by omega) (by omega) (fun c2 => ?_) (fun c2 => ?_)
  · exact bx_vret dJ7_checkLength_df160_37 rfl ⟨rfl, rfl, rfl⟩
  · exfalso
    omega
theorem t_crb {va n : Nat} {g : Nat → Int} (hv : rwI 1 (h va) 16 g) (hn : n < 16) (hg : ∀ i, i < n → 0 ≤ g i ∧ g i < 128) : Gl ad sc 1 16 M_J7_copyOfRangeByte_39247 [.ref va, .int (I 0), .int (I (n : Int))] u h (fun v u1 h1 => u1 = u ∧ ∃ vb e, v = .ref vb ∧ h vb = none ∧ rwI 1 (some e) n g ∧ h1 = up h vb e) := by
  refine bx_iload_n dJ7_copyOfRangeByte_39247_0 rfl ?_
  refine bx_iload_n dJ7_copyOfRangeByte_39247_1 rfl ?_
  refine bx_csv2 dJ7_copyOfRangeByte_39247_2 ln_J7_copyOfRangeByte_39247_343 (Nat.le_of_ble_eq_true rfl) rfl (Nat.zero_le _) (Nat.zero_le _) (t_ckl (by omega)) (fun u9 h9 hq9 => ?_)
  obtain ⟨-, rfl, rfl⟩ := hq9
  refine bx_iload_n dJ7_copyOfRangeByte_39247_5 rfl ?_
  refine bx_iload_n dJ7_copyOfRangeByte_39247_6 rfl ?_
  refine bx_isub dJ7_copyOfRangeByte_39247_7 ?_
  refine bx_istore_n dJ7_copyOfRangeByte_39247_8 rfl (by decide) rfl ?_
  refine bx_iload_n dJ7_copyOfRangeByte_39247_9 rfl ?_
  refine bx_newa (N := n) dJ7_copyOfRangeByte_39247_10 (Or.inr (Or.inl ⟨rfl, rfl⟩)) (by omega) (by omega) (by omega) (by omega) (fun vb evb hvb hevb => ?_)
  refine bx_astore dJ7_copyOfRangeByte_39247_12 rfl (by decide) rfl ?_
  refine bx_aload_n dJ7_copyOfRangeByte_39247_14 rfl ?_
  refine bx_iload_n dJ7_copyOfRangeByte_39247_15 rfl ?_
  refine bx_aload dJ7_copyOfRangeByte_39247_16 rfl ?_
  refine bx_iconst dJ7_copyOfRangeByte_39247_18 ?_
  refine bx_aload_n dJ7_copyOfRangeByte_39247_19 rfl ?_
  refine bx_alni dJ7_copyOfRangeByte_39247_20 (hv.mv (ug_ne (hv.kn.ne hvb))) (by decide) ?_
  refine bx_iload_n dJ7_copyOfRangeByte_39247_21 rfl ?_
  refine bx_isub dJ7_copyOfRangeByte_39247_22 ?_
  refine bx_iload_n dJ7_copyOfRangeByte_39247_23 rfl ?_
  refine bx_min dJ7_copyOfRangeByte_39247_24 ln_J7_copyOfRangeByte_39247_304 ⟨by decide, by decide⟩ (Nat.le_of_ble_eq_true rfl) (by omega) (by omega) ?_
  refine bx_cpb (sp := 0) (dp := 0) (n := n) dJ7_copyOfRangeByte_39247_27 ln_J7_copyOfRangeByte_39247_150 ⟨by decide, by decide⟩ (Nat.le_of_ble_eq_true rfl) (hv.mv (ug_ne (hv.kn.ne hvb))) (hevb.mv ug_eq) rfl rfl (by omega) (by omega) (by omega) (by omega) (by omega) (fun i hi => by rw [Nat.zero_add]; exact hg i hi) (fun e27 he27 => ?_)
  rw [up_up]
  refine bx_aload dJ7_copyOfRangeByte_39247_30 rfl ?_
  exact bx_aretA dJ7_copyOfRangeByte_39247_32 rfl ⟨rfl, vb, e27, rfl, hvb, he27.cong (fun i hi => by rw [if_pos ⟨Nat.zero_le _, by omega⟩, Nat.zero_add, Nat.sub_zero]), rfl⟩
theorem t_cor {va n : Nat} {g : Nat → Int} (hv : rwI 1 (h va) 16 g) (hn : n < 16) (hg : ∀ i, i < n → 0 ≤ g i ∧ g i < 128) : Gl ad sc 1 16 M_J7_copyOfRange_39247 [.ref va, .int (I 0), .int (I (n : Int))] u h (fun v u1 h1 => u1 = u ∧ ∃ vb e, v = .ref vb ∧ h vb = none ∧ rwI 1 (some e) n g ∧ h1 = up h vb e) := by
  refine bx_iload_n dJ7_copyOfRange_39247_0 rfl ?_
  refine bx_if_ne (tgt := 10) dJ7_copyOfRange_39247_1 (by decide) (by omega) (fun c1 => ?_) (fun c1 => ?_)
  · exfalso
    omega
  · refine bx_iload_n dJ7_copyOfRange_39247_4 rfl ?_
    refine bx_aload_n dJ7_copyOfRange_39247_5 rfl ?_
    refine bx_alni dJ7_copyOfRange_39247_6 hv (by decide) ?_
    refine bx_icmp_eq (tgt := 17) dJ7_copyOfRange_39247_7 (by decide) (by omega) (by omega) (fun c7 => ?_) (fun c7 => ?_)
    · exfalso
      omega
    · refine bx_aload_n dJ7_copyOfRange_39247_10 rfl ?_
      refine bx_iload_n dJ7_copyOfRange_39247_11 rfl ?_
      refine bx_iload_n dJ7_copyOfRange_39247_12 rfl ?_
      refine bx_cs3 dJ7_copyOfRange_39247_13 ln_J7_copyOfRange_39247_339 (Nat.le_of_ble_eq_true rfl) (by decide) (Nat.le_refl _) (Nat.le_refl _) (t_crb hv hn hg) (fun v9 u9 h9 hq9 => ?_)
      obtain ⟨rfl, vb, e9, rfl, hvb, he9, rfl⟩ := hq9
      exact bx_aretA dJ7_copyOfRange_39247_16 rfl ⟨rfl, vb, e9, rfl, hvb, he9, rfl⟩
theorem t_sinit {a : Nat} (ha0 : h a = some (.inr (9, df_9))) {g : Nat → Int} {b va n : Nat} {v2 : Value} (hb : h b = some (.inr (10, [.ref va, .int (I 0), v2, .int (I (n : Int))]))) (hv : rwI 1 (h va) 16 g) (hn : n < 16) (hg : ∀ i, i < n → 0 ≤ g i ∧ g i < 128) : Gl ad sc 1 16 M_J0_init_db425 [.ref a, .ref b, .null] u h (fun v u1 h1 => v = .null ∧ u1 = u ∧ ∃ vb e, h vb = none ∧ rwI 1 (some e) n g ∧ h1 = up (up h vb e) a (.inr (9, [.ref vb, .int (I 0), .int 0, .int 0]))) := by
  refine bx_aload_n dJ0_init_db425_0 rfl ?_
  refine gx_obj ln_J0_init_db425_1 ⟨by decide, by decide⟩ (Nat.le_of_ble_eq_true rfl) dJ0_init_db425_1 ?_
  refine bx_aload_n dJ0_init_db425_4 rfl ?_
  refine bx_cuP0 dJ0_init_db425_5 ln_J0_init_db425_552 (Nat.le_of_ble_eq_true rfl) (by decide) hb rfl (t_getv hb) ?_
  refine bx_astore_n dJ0_init_db425_8 rfl (by decide) rfl ?_
  refine bx_aload_n dJ0_init_db425_9 rfl ?_
  refine bx_cuP0 dJ0_init_db425_10 ln_J0_init_db425_549 (Nat.le_of_ble_eq_true rfl) (by decide) hb rfl (t_blen hb) ?_
  refine bx_istore dJ0_init_db425_13 rfl (by decide) rfl ?_
  refine bx_aload_n dJ0_init_db425_15 rfl ?_
  refine bx_cuP0 dJ0_init_db425_16 ln_J0_init_db425_1047 (Nat.le_of_ble_eq_true rfl) (by decide) hb rfl (t_sbL1 hb) ?_
  refine bx_if_eq (tgt := 41) dJ0_init_db425_19 (by decide) (by decide) (fun c19 => ?_) (fun c19 => ?_)
  · exact absurd c19 (by decide)
  · refine bx_aload_n dJ0_init_db425_22 rfl ?_
    refine bx_iconst dJ0_init_db425_23 ?_
    refine bx_putF dJ0_init_db425_24 ck9 fg_java_lang_String_15 (by decide) ha0 rfl rfl rfl ⟨rfl, rfl⟩ (Nat.le_of_ble_eq_true rfl) rfl ?_
    refine bx_aload_n dJ0_init_db425_27 rfl ?_
    refine bx_aload_n dJ0_init_db425_28 rfl ?_
    refine bx_iconst dJ0_init_db425_29 ?_
    refine bx_iload dJ0_init_db425_30 rfl ?_
    refine bx_cs3 dJ0_init_db425_32 ln_J0_init_db425_54 (Nat.le_of_ble_eq_true rfl) (by decide) (Nat.le_refl _) (Nat.le_refl _) (t_cor (hv.mv (ug_ne (hv.no ha0))) hn hg) (fun v9 u9 h9 hq9 => ?_)
    obtain ⟨rfl, vb, e9, rfl, hvb, he9, rfl⟩ := hq9
    have hab : a ≠ vb := KN.ne ⟨_, ug_eq⟩ hvb
    refine bx_putF dJ0_init_db425_35 ck9 fg_java_lang_String_9 (by decide) ((ug_ne hab).trans ug_eq) rfl rfl rfl ⟨rfl, rfl⟩ (Nat.le_of_ble_eq_true rfl) rfl ?_
    have hcm : up (up (up h a (.inr (9, df_9.set 1 (.int (I 0))))) vb e9) a (.inr (9, [.ref vb, .int (I 0), .int 0, .int 0])) = up (up h vb e9) a (.inr (9, [.ref vb, .int (I 0), .int 0, .int 0])) := by
      funext x
      unfold up
      by_cases q : x = a
      · rw [if_pos q, if_pos q]
      · rw [if_neg q, if_neg q]
        by_cases q2 : x = vb
        · simp [q2, Ne.symm hab]
        · simp [q2, q]
    have hvb0 : h vb = none := (ug_ne (Ne.symm hab)).symm.trans hvb
    refine bx_goto (tgt := 97) dJ0_init_db425_38 (by decide) ?_
    exact bx_vret dJ0_init_db425_97 rfl ⟨rfl, rfl, vb, e9, hvb0, he9, hcm⟩
theorem t_sinit1 {a : Nat} (ha0 : h a = some (.inr (9, df_9))) {g : Nat → Int} {b va n : Nat} {v2 : Value} (hb : h b = some (.inr (10, [.ref va, .int (I 0), v2, .int (I (n : Int))]))) (hv : rwI 1 (h va) 16 g) (hn : n < 16) (hg : ∀ i, i < n → 0 ≤ g i ∧ g i < 128) : Gl ad sc 1 16 M_J0_init_81219 [.ref a, .ref b] u h (fun v u1 h1 => v = .null ∧ u1 = u ∧ ∃ vb e, h vb = none ∧ rwI 1 (some e) n g ∧ h1 = up (up h vb e) a (.inr (9, [.ref vb, .int (I 0), .int 0, .int 0]))) := by
  refine bx_aload_n dJ0_init_81219_0 rfl ?_
  refine bx_aload_n dJ0_init_81219_1 rfl ?_
  refine gx_null dJ0_init_81219_2 ?_
  refine bx_ci2 dJ0_init_81219_3 ln_J0_init_81219_489 (Nat.le_of_ble_eq_true rfl) (Nat.le_refl _) (Nat.le_refl _) (t_sinit ha0 hb hv hn hg) (fun u9 h9 hq9 => ?_)
  exact bx_vret dJ0_init_81219_6 rfl hq9
theorem t_tostr {g : Nat → Int} {b va n : Nat} {v2 : Value} (hb : h b = some (.inr (10, [.ref va, .int (I 0), v2, .int (I (n : Int))]))) (hv : rwI 1 (h va) 16 g) (hn : n < 16) (hg : ∀ i, i < n → 0 ≤ g i ∧ g i < 128) : Gl ad sc 2 20 M_J4_toString_0e30d [.ref b] u h (fun v u1 h1 => u1 = u ∧ ∃ a vb, v = .ref a ∧ h a = none ∧ h vb = none ∧ h1 a = some (.inr (9, [.ref vb, .int (I 0), .int 0, .int 0])) ∧ rwI 1 (h1 vb) n g ∧ FRM h h1 (fun _ => False)) := by
  refine gx_new (fs := df_9) ck9 cg_java_lang_StringBuilder_18 ist_9 ini_9 dv_9 (by omega) (by omega) dJ4_toString_0e30d_0 (fun a9 ha9 => ?_)
  refine bx_dup dJ4_toString_0e30d_3 rfl ?_
  refine bx_aload_n dJ4_toString_0e30d_4 rfl ?_
  refine bx_ci1 dJ4_toString_0e30d_5 ln_J4_toString_0e30d_137 (Nat.le_of_ble_eq_true rfl) (by omega) (by omega) (t_sinit1 ug_eq ((ug_ne (KN.ne ⟨_, hb⟩ ha9)).trans hb) (hv.mv (ug_ne (hv.kn.ne ha9))) hn hg) (fun u9 h9 hq9 => ?_)
  obtain ⟨-, rfl, vb, e9, hvb, he9, rfl⟩ := hq9
  have hab : a9 ≠ vb := KN.ne ⟨_, ug_eq⟩ hvb
  have hvb0 : h vb = none := (ug_ne (Ne.symm hab)).symm.trans hvb
  exact bx_aret dJ4_toString_0e30d_8 rfl ⟨rfl, a9, vb, rfl, ha9, hvb0, ug_eq, he9.mv (by rw [ug_ne (Ne.symm hab), ug_eq]), fun x e hx _ => by rw [ug_ne (KN.ne ⟨_, hx⟩ ha9), ug_ne (KN.ne ⟨_, hx⟩ hvb0), ug_ne (KN.ne ⟨_, hx⟩ ha9)]; exact hx⟩
end TX
