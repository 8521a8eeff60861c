/-! WRITING: flush, put -/
def LA (h : hp) (K : Nat → Nat) (H : Nat → Nat → Nat) (d : Nat) (e : Int) (r T : Nat → Int) : Prop := SA 112 h 1 K ∧ (∃ KS, SA 112 h 11 KS) ∧ KO h e ∧ CH 112 h H d ∧ RO h r ∧ TR h T ∧ BO h ∧ sh 0 (h 104) 180 ∧ sh 0 (h 105) 180 ∧ (∃ n0, FO h n0) ∧ sh 0 (h 107) 180 ∧ sh 0 (h 108) 180 ∧ sh 0 (h 109) 180
/-- written so far -/
def LW (u : hp) (K : Nat → Nat) (H : Nat → Nat → Nat) (d : Nat) (e : Int) (xs : List Int) : Prop := ∃ r T, LA u K H d e r T ∧ TX T ∧ r 1 = ((FF xs : Nat) : Int) ∧ ∀ i, i < FF xs → T i = gd xs i
theorem nrI {xs : List Int32} : ∀ v ∈ xs.map Value.int, ∀ a, v ≠ .ref a := fun v hv a z => by
  obtain ⟨x, -, rfl⟩ := List.mem_map.mp hv
  cases z
theorem buf_or {xs : List Int} (hx : ltr xs) {c : Nat} (hc : c < 128) : I (bufF xs (1 + xs.length % 20 / 4)) ||| I ((c * 2 ^ (24 - 8 * (xs.length % 4)) : Nat) : Int) = I (bufF xs (1 + xs.length % 20 / 4) + (c : Int) * 2 ^ (24 - 8 * (xs.length % 4))) := by
  have hF : FF xs + xs.length % 20 = xs.length := by unfold FF; omega
  unfold bufF
  rw [if_neg (by omega), if_pos (by omega)]
  generalize hq : xs.length % 20 / 4 = q at *
  have a := gd_rg hx (FF xs + 4 * (1 + q - 1))
  have b := gd_rg hx (FF xs + 4 * (1 + q - 1) + 1)
  have d := gd_rg hx (FF xs + 4 * (1 + q - 1) + 2)
  have hm : FF xs + 4 * (1 + q - 1) + xs.length % 4 = xs.length := by omega
  have o3 : gd xs (FF xs + 4 * (1 + q - 1) + 3) = 0 := gd_out (by omega)
  have h4 : xs.length % 4 = 0 ∨ xs.length % 4 = 1 ∨ xs.length % 4 = 2 ∨ xs.length % 4 = 3 := by omega
  have fin : ∀ (k w v : Nat) (z : Int), (w : Int) = z → w % 2 ^ k = 0 → v < 2 ^ k → w + v < 2147483648 → I z ||| I (v : Int) = I (z + v) := fun k w v z e1 e2 e3 e4 => by
    rw [← e1, or_add k e2 e3 e4, Int.natCast_add]
  rw [o3]
  rcases h4 with h4 | h4 | h4 | h4 <;> rw [h4] at hm ⊢ <;> unfold wd4
  · have o0 : gd xs (FF xs + 4 * (1 + q - 1)) = 0 := gd_out (by omega)
    have o1 : gd xs (FF xs + 4 * (1 + q - 1) + 1) = 0 := gd_out (by omega)
    have o2 : gd xs (FF xs + 4 * (1 + q - 1) + 2) = 0 := gd_out (by omega)
    rw [o0, o1, o2]
    have := fin 32 0 (c * 2 ^ 24) 0 rfl (by decide) (by omega) (by omega)
    rw [Int.natCast_mul] at this
    simpa using this
  · have o1 : gd xs (FF xs + 4 * (1 + q - 1) + 1) = 0 := gd_out (by omega)
    have o2 : gd xs (FF xs + 4 * (1 + q - 1) + 2) = 0 := gd_out (by omega)
    rw [o1, o2]
    obtain ⟨w, hw⟩ : ∃ w : Nat, gd xs (FF xs + 4 * (1 + q - 1)) = (w : Int) := ⟨(gd xs (FF xs + 4 * (1 + q - 1))).toNat, by omega⟩
    rw [hw] at a ⊢
    have := fin 24 (w * 16777216) (c * 2 ^ 16) ((w : Int) * 16777216 + 0 * 65536 + 0 * 256 + 0) (by omega) (by omega) (by omega) (by omega)
    rw [Int.natCast_mul] at this
    exact this
  · have o2 : gd xs (FF xs + 4 * (1 + q - 1) + 2) = 0 := gd_out (by omega)
    rw [o2]
    obtain ⟨w, hw⟩ : ∃ w : Nat, gd xs (FF xs + 4 * (1 + q - 1)) * 256 + gd xs (FF xs + 4 * (1 + q - 1) + 1) = (w : Int) := ⟨(gd xs (FF xs + 4 * (1 + q - 1)) * 256 + gd xs (FF xs + 4 * (1 + q - 1) + 1)).toNat, by omega⟩
    have := fin 16 (w * 65536) (c * 2 ^ 8) (gd xs (FF xs + 4 * (1 + q - 1)) * 16777216 + gd xs (FF xs + 4 * (1 + q - 1) + 1) * 65536 + 0 * 256 + 0) (by omega) (by omega) (by omega) (by omega)
    rw [Int.natCast_mul] at this
    exact this
  · obtain ⟨w, hw⟩ : ∃ w : Nat, gd xs (FF xs + 4 * (1 + q - 1)) * 65536 + gd xs (FF xs + 4 * (1 + q - 1) + 1) * 256 + gd xs (FF xs + 4 * (1 + q - 1) + 2) = (w : Int) := ⟨(gd xs (FF xs + 4 * (1 + q - 1)) * 65536 + gd xs (FF xs + 4 * (1 + q - 1) + 1) * 256 + gd xs (FF xs + 4 * (1 + q - 1) + 2)).toNat, by omega⟩
    have := fin 8 (w * 256) (c * 2 ^ 0) (gd xs (FF xs + 4 * (1 + q - 1)) * 16777216 + gd xs (FF xs + 4 * (1 + q - 1) + 1) * 65536 + gd xs (FF xs + 4 * (1 + q - 1) + 2) * 256 + 0) (by omega) (by omega) (by omega) (by omega)
    rw [Int.natCast_mul] at this
    exact this
theorem buf_full {xs : List Int} {c : Int} (h20 : xs.length % 20 = 19) : ∀ j, j < 5 → upZ (upZ (bufF xs) (1 + xs.length % 20 / 4) (bufF xs (1 + xs.length % 20 / 4) + c * 2 ^ (24 - 8 * (xs.length % 4)))) 0 ((xs.length : Int) + 1) (1 + j) = wdR (xs ++ [c]) (FF xs) j := by
  intro j hj
  have hF : FF xs + 19 = xs.length := by unfold FF; omega
  unfold upZ
  rw [if_neg (by omega), h20, show xs.length % 4 = 3 by omega]
  unfold wdR
  by_cases h : j = 4
  · subst h
    rw [if_pos (by decide)]
    unfold bufF
    rw [if_neg (by decide), if_pos (by decide)]
    rw [gd_1 (by omega), gd_1 (by omega), gd_1 (by omega), show FF xs + 4 * 4 + 3 = xs.length by omega, gd_n]
    rw [show FF xs + 4 * (1 + 19 / 4 - 1) = FF xs + 4 * 4 by omega, gd_out (xs := xs) (i := xs.length) (by omega)]
    unfold wd4
    omega
  · rw [if_neg (by omega)]
    unfold bufF
    rw [if_neg (by omega), if_pos (by omega), show 1 + j - 1 = j by omega, gd_1 (by omega), gd_1 (by omega), gd_1 (by omega), gd_1 (by omega)]
section WM
variable {ad : Nat → Nat} {sc : Nat × (Nat → Int32)} {u : hp} {h : hg} {Q : qg} {k w m p cl : Nat} {ce : Nat → Nat} {K : Nat → Nat} {c sl : Nat}
variable {H : Nat → Nat → Nat} {d : Nat} {e : Int} {b : Nat}
theorem kl_flush {B : Nat → Int} {h0 : hg} (kk : ∀ h1, rwI 0 (h1 b) 8 (fun i => if 1 ≤ i ∧ i < 6 then 0 else B i) → FRM h0 h1 (fun x => x = b) → Gx ad sc M_L_flush 38 [.ref (ad 0), .ref b, .int (I ((6 : Nat) : Int))] [] c sl u h1 Q) : ∀ (n k : Nat) (h1 : hg), k + n = 6 → 1 ≤ k → rwI 0 (h1 b) 8 (fun i => if 1 ≤ i ∧ i < k then 0 else B i) → FRM h0 h1 (fun x => x = b) → Gx ad sc M_L_flush 22 [.ref (ad 0), .ref b, .int (I (k : Int))] [] c sl u h1 Q := by
  intro n
  induction n with
  | zero =>
    intro k h1 hk hk1 hB hF
    refine bx_iload_n dL_flush_22 rfl ?_
    refine bx_bipush dL_flush_23 (by decide) ?_
    refine bx_icmp_ge (tgt := 38) dL_flush_25 (by decide) (by omega) (by omega) (fun c25 => ?_) (fun c25 => ?_)
    · obtain rfl : k = 6 := by omega
      exact kk h1 hB hF
    · exfalso
      omega
  | succ n ih =>
    intro k h1 hk hk1 hB hF
    refine bx_iload_n dL_flush_22 rfl ?_
    refine bx_bipush dL_flush_23 (by decide) ?_
    refine bx_icmp_ge (tgt := 38) dL_flush_25 (by decide) (by omega) (by omega) (fun c25 => ?_) (fun c25 => ?_)
    · exfalso
      omega
    · refine bx_aload_n dL_flush_28 rfl ?_
      refine bx_iload_n dL_flush_29 rfl ?_
      refine bx_iconst dL_flush_30 ?_
      refine bx_iasr (j := k) dL_flush_31 hB rfl (by omega) (by omega) (fun e31 he31 => ?_)
      refine bx_iinc dL_flush_32 rfl rfl (by decide) rfl ?_
      refine bx_goto (tgt := 22) dL_flush_35 (by decide) ?_
      exact ih (k + 1) _ (by omega) (by omega) ((he31.cong (fun i hi => by
        simp only [upZ]
        by_cases q : i = k
        · rw [if_pos q, if_pos (by omega)]
        · rw [if_neg q]
          by_cases q2 : 1 ≤ i ∧ i < k
          · rw [if_pos q2, if_pos (by omega)]
          · rw [if_neg q2, if_neg (by omega)])).mv ug_eq) (hF.tr (FRM.u1 rfl))
theorem kt_flush {B r T : Nat → Int} {xs : List Int} {f : Nat} (hx : ltr xs) (hL : LA u K H d e r T) (hT : TX T) (hr1 : r 1 = (f : Int)) (hf : f ≤ 580) (hB : rwI 0 (h b) 8 B) (hw : ∀ j, j < 5 → B (1 + j) = wdR xs f j) : Gl ad sc 0 0 M_L_flush [.ref (ad 0), .ref b] u h (fun v u1 h1 => v = .null ∧ (∃ r1 T1, LA u1 K H d e r1 T1 ∧ TX T1 ∧ r1 1 = ((f + 20 : Nat) : Int) ∧ (∀ i, i < f → T1 i = T i) ∧ ∀ i, i < 20 → T1 (f + i) = gd xs (f + i)) ∧ rwI 0 (h1 b) 8 (fun i => if 1 ≤ i ∧ i < 6 then 0 else B i) ∧ FRM h h1 (fun x => x = b)) := by
  obtain ⟨a1, ⟨KS, a2⟩, a3, a4, a5, a6, a7, a8, a9, ⟨n0, a10⟩, a11, a12, a13⟩ := hL
  refine bx_aload_n dL_flush_0 rfl ?_
  refine bx_aload_n dL_flush_1 rfl ?_
  refine bx_iconst dL_flush_2 ?_
  refine bx_ialr (j := 1) (w := (wdR xs f 0)) dL_flush_3 hB rfl (by decide) (by omega) (hw 0 (by decide)) ?_
  refine bx_aload_n dL_flush_4 rfl ?_
  refine bx_iconst dL_flush_5 ?_
  refine bx_ialr (j := 2) (w := (wdR xs f 1)) dL_flush_6 hB rfl (by decide) (by omega) (hw 1 (by decide)) ?_
  refine bx_aload_n dL_flush_7 rfl ?_
  refine bx_iconst dL_flush_8 ?_
  refine bx_ialr (j := 3) (w := (wdR xs f 2)) dL_flush_9 hB rfl (by decide) (by omega) (hw 2 (by decide)) ?_
  refine bx_aload_n dL_flush_10 rfl ?_
  refine bx_iconst dL_flush_11 ?_
  refine bx_ialr (j := 4) (w := (wdR xs f 3)) dL_flush_12 hB rfl (by decide) (by omega) (hw 3 (by decide)) ?_
  refine bx_aload_n dL_flush_13 rfl ?_
  refine bx_iconst dL_flush_14 ?_
  refine bx_ialr (j := 5) (w := (wdR xs f 4)) dL_flush_15 hB rfl (by decide) (by omega) (hw 4 (by decide)) ?_
  refine gx_cam (n := 5) (As := [.int (I (wdR xs f 0)), .int (I (wdR xs f 1)), .int (I (wdR xs f 2)), .int (I (wdR xs f 3)), .int (I (wdR xs f 4))]) dL_flush_16 ln_L_flush_13 rfl rfl (Nat.le_of_ble_eq_true rfl) (nrI (xs := [I (wdR xs f 0), I (wdR xs f 1), I (wdR xs f 2), I (wdR xs f 3), I (wdR xs f 4)])) ⟨_, a3⟩ rfl (Or.inl rfl) (sp_append (NC := 112) (Nat.le_refl _) a3 a5 a6 hr1 hf) (fun r9 u9 hq9 => ?_)
  obtain ⟨r1, hv1, hR1, hT1, hr2, hk2, hy2⟩ := hq9
  have hLA : LA u9 K H d e r1 (aK T f (wS (I (wdR xs f 0)) (I (wdR xs f 1)) (I (wdR xs f 2)) (I (wdR xs f 3)) (I (wdR xs f 4))) 20) := ⟨a1.eq (fun x h1 h2 => hy2 x (by omega) (by omega)), ⟨KS, a2.eq (fun x h1 h2 => hy2 x (by omega) (by omega))⟩, (hy2 0 (by decide) (by decide)).trans a3, a4.eq (fun x h1 h2 => hy2 x (by omega) (by omega)), hR1, hT1, (hy2 103 (by decide) (by decide)).trans a7, a8.mv (hy2 104 (by decide) (by decide)), a9.mv (hy2 105 (by decide) (by decide)), ⟨n0, (hy2 106 (by decide) (by decide)).trans a10⟩, a11.mv (hy2 107 (by decide) (by decide)), a12.mv (hy2 108 (by decide) (by decide)), a13.mv (hy2 109 (by decide) (by decide))⟩
  have hws : ∀ j, j < 5 → wS (I (wdR xs f 0)) (I (wdR xs f 1)) (I (wdR xs f 2)) (I (wdR xs f 3)) (I (wdR xs f 4)) j = I (wdR xs f j) := fun j hj => by
    match j, hj with
    | 0, _ => rfl
    | 1, _ => rfl
    | 2, _ => rfl
    | 3, _ => rfl
    | 4, _ => rfl
  have hin : ∀ i, i < 20 → aK T f (wS (I (wdR xs f 0)) (I (wdR xs f 1)) (I (wdR xs f 2)) (I (wdR xs f 3)) (I (wdR xs f 4))) 20 (f + i) = gd xs (f + i) := fun i hi => by
    rw [aK_in hi, hws _ (by omega), wB_wd hx (by omega), show f + 4 * (i / 4) + i % 4 = f + i by omega]
  refine bx_pop dL_flush_19 rfl ?_
  refine bx_iconst dL_flush_20 ?_
  refine bx_istore_n dL_flush_21 rfl (by decide) rfl ?_
  refine kl_flush (B := B) (fun h1 hB1 hF1 => ?_) 5 1 h (by omega) (by omega) (hB.cong (fun i hi => by rw [if_neg (by omega)])) FRM.rf
  exact bx_vret dL_flush_38 rfl ⟨rfl, ⟨r1, _, hLA, TX.aK hT 20, hr2, fun i hi => aK_out (Or.inl hi), hin⟩, hB1, hF1⟩
theorem kt_put {xs : List Int} {z : Int} (hx : ltr xs) (hz : 0 ≤ z ∧ z < 128) (hL : LW u K H d e xs) (hB : rwI 0 (h b) 8 (bufF xs)) (hn : xs.length < 580) : Gl ad sc 0 0 M_L_put [.ref (ad 0), .ref b, .int (I z)] u h (fun v u1 h1 => v = .null ∧ LW u1 K H d e (xs ++ [z]) ∧ rwI 0 (h1 b) 8 (bufF (xs ++ [z])) ∧ FRM h h1 (fun x => x = b)) := by
  obtain ⟨r, T, hLA, hT, hr1, hTi⟩ := hL
  obtain ⟨cn, hcn, rfl⟩ := nat_of hz.1 hz.2
  have hF : FF xs + xs.length % 20 = xs.length := by unfold FF; omega
  have el : (xs ++ [(cn : Int)]).length = xs.length + 1 := by rw [List.length_append]; rfl
  have hx2 : ltr (xs ++ [(cn : Int)]) := fun y hy => by
    rcases List.mem_append.mp hy with q | q
    · exact hx y q
    · rw [List.mem_singleton.mp q]; exact hz
  refine bx_aload_n dL_put_0 rfl ?_
  refine bx_iconst dL_put_1 ?_
  refine bx_aload_n dL_put_2 rfl ?_
  refine bx_iconst dL_put_3 ?_
  refine bx_ialr (j := 0) (w := (xs.length : Int)) dL_put_4 hB rfl (by decide) (by omega) rfl ?_
  refine bx_bipush dL_put_5 (by decide) ?_
  refine bx_irem dL_put_7 (by omega) (by omega) ?_
  refine bx_iconst dL_put_8 ?_
  refine bx_idiv dL_put_9 (by omega) (by omega) ?_
  refine bx_iadd dL_put_10 ?_
  refine bx_dup2 dL_put_11 rfl rfl ?_
  refine bx_ialr (j := 1 + xs.length % 20 / 4) (w := (bufF xs (1 + xs.length % 20 / 4))) dL_put_12 hB (by omega) (by omega) (by omega) rfl ?_
  refine bx_iload_n dL_put_13 rfl ?_
  refine bx_bipush dL_put_14 (by decide) ?_
  refine bx_bipush dL_put_16 (by decide) ?_
  refine bx_aload_n dL_put_18 rfl ?_
  refine bx_iconst dL_put_19 ?_
  refine bx_ialr (j := 0) (w := (xs.length : Int)) dL_put_20 hB rfl (by decide) (by omega) rfl ?_
  refine bx_iconst dL_put_21 ?_
  refine bx_irem dL_put_22 (by omega) (by omega) ?_
  refine bx_imul dL_put_23 ?_
  refine bx_isub dL_put_24 ?_
  refine gx_ishl dL_put_25 ?_
  rw [show (24 - 8 * ((xs.length : Int) % 4)) = ((24 - 8 * (xs.length % 4) : Nat) : Int) by omega, shl_I (c := cn) (s := 24 - 8 * (xs.length % 4)) (by omega) (by
    have h4 : xs.length % 4 = 0 ∨ xs.length % 4 = 1 ∨ xs.length % 4 = 2 ∨ xs.length % 4 = 3 := by omega
    rcases h4 with h4 | h4 | h4 | h4 <;> rw [h4] <;> omega)]
  refine gx_ior dL_put_26 ?_
  rw [buf_or hx hcn]
  refine bx_iasr (j := 1 + xs.length % 20 / 4) dL_put_27 hB (by omega) (by omega) (by omega) (fun e27 he27 => ?_)
  refine gx_gen (fun g1 q1 => ?_)
  have B1 := he27.mv (show g1 b = some e27 by rw [q1]; exact ug_eq)
  have F1 : FRM h g1 (fun x => x = b) := by rw [q1]; exact FRM.u1 rfl
  refine bx_aload_n dL_put_28 rfl ?_
  refine bx_iconst dL_put_29 ?_
  refine bx_dup2 dL_put_30 rfl rfl ?_
  refine bx_ialr (j := 0) (w := (xs.length : Int)) dL_put_31 B1 rfl (by decide) (by omega) (by unfold upZ; rw [if_neg (by omega)]; rfl) ?_
  refine bx_iconst dL_put_32 ?_
  refine bx_iadd dL_put_33 ?_
  refine bx_iasr (j := 0) dL_put_34 B1 rfl (by decide) (by omega) (fun e34 he34 => ?_)
  refine gx_gen (fun g2 q2 => ?_)
  have B2 := he34.mv (show g2 b = some e34 by rw [q2]; exact ug_eq)
  have F2 : FRM h g2 (fun x => x = b) := F1.tr (by rw [q2]; exact FRM.u1 rfl)
  refine bx_aload_n dL_put_35 rfl ?_
  refine bx_iconst dL_put_36 ?_
  refine bx_ialr (j := 0) (w := ((xs.length : Int) + 1)) dL_put_37 B2 rfl (by decide) (by omega) (by unfold upZ; rw [if_pos rfl]) ?_
  refine bx_bipush dL_put_38 (by decide) ?_
  refine bx_irem dL_put_40 (by omega) (by omega) ?_
  refine bx_if_ne (tgt := 49) dL_put_41 (by decide) (by omega) (fun q41 => ?_) (fun q41 => ?_)
  · exact bx_vret dL_put_49 rfl ⟨rfl, ⟨r, T, hLA, hT, by rw [hr1]; unfold FF; rw [el]; omega, fun i hi => by rw [gd_l (by have : FF (xs ++ [(cn : Int)]) = FF xs := (by unfold FF; rw [el]; omega); omega)]; exact hTi i (by have : FF (xs ++ [(cn : Int)]) = FF xs := (by unfold FF; rw [el]; omega); omega)⟩, B2.cong (fun i hi => buf_put hx hz (by omega) i hi), F2⟩
  · refine bx_aload_n dL_put_44 rfl ?_
    refine bx_aload_n dL_put_45 rfl ?_
    refine bx_csv2 dL_put_46 ln_L_put_7 (Nat.le_of_ble_eq_true rfl) rfl (Nat.zero_le _) (Nat.zero_le _) (kt_flush hx2 hLA hT hr1 (by unfold FF at *; omega) B2 (buf_full (by omega))) (fun u9 h9 hq9 => ?_)
    obtain ⟨-, ⟨r3, T3, hLA3, hT3, hr3, ho3, hi3⟩, B3, F3⟩ := hq9
    have h20 : xs.length % 20 = 19 := by omega
    have hF2 : FF (xs ++ [(cn : Int)]) = FF xs + 20 := by unfold FF; rw [el]; omega
    exact bx_vret dL_put_49 rfl ⟨rfl, ⟨r3, T3, hLA3, hT3, by rw [hr3, hF2], fun i hi => by
      by_cases q : i < FF xs
      · rw [ho3 i q, hTi i q, gd_l (by omega)]
      · have := hi3 (i - FF xs) (by omega)
        rw [show FF xs + (i - FF xs) = i by omega] at this
        exact this⟩, B3.cong (fun i hi => by
      rw [buf_new (by rw [el]; omega) i hi]
      by_cases q : i = 0
      · subst q; rw [if_neg (by omega), if_pos rfl, el]; unfold upZ; rw [if_pos rfl]; omega
      · rw [if_neg q]
        by_cases q6 : i < 6
        · rw [if_pos (by omega)]
        · rw [if_neg (by omega)]
          unfold upZ bufF
          rw [if_neg q, if_neg (by omega), if_neg q, if_neg q6]), F2.tr F3⟩
end WM
