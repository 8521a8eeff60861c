/-! THE LAW: its body behind the new KitePainter -/
theorem buf_0 : ∀ i, i < 8 → bufF [] i = 0 := by decide
theorem fr5 : freshK 5 5 5 = 0 := rfl
section LS
variable {ad : Nat → Nat} {sc : Nat × (Nat → Int32)} {u : hp} {h : hg} {Q : qg} {b r B n8 t k k2 w m p cl c sl : Nat} {ce : Nat → Nat} {K K0 : Nat → Nat} {H : Nat → Nat → Nat}
variable {rr T : Nat → Int}
set_option maxRecDepth 20000 in
theorem ls_rest (hLA : LA u (freshK 5 5) H 0 (-1) rr T) (hTX : TX T) (hz1 : rr 1 = 0) (hB : rwI 0 (h b) 8 (bufF [])) (hRn : RND h r) (hc : 39000 ≤ c) (hs : 390000 ≤ sl) (hQ : ∀ u1 h1, Q (.int (I 1)) u1 h1) : Gx ad sc M_L_law 246 [.ref (ad 3000), .int (I 1), .int (I 0), .ref (ad 0), .ref b, .ref r, uk, uk, uk, uk, uk, uk, uk, uk, uk, uk, uk, uk, uk, uk, uk, uk, uk, uk, uk, uk, uk, uk] [] c sl u h Q := by
  have hWB : WB u h b (freshK 5 5) H 0 (-1) [] := ⟨⟨rr, T, hLA, hTX, hz1, fun i hi => absurd hi (show ¬ i < 0 from Nat.not_lt_zero _)⟩, hB, fun x hx => absurd hx (by simp)⟩
  refine bx_aload_n dL_law_246 rfl ?_
  refine bx_aload dL_law_247 rfl ?_
  refine bx_aload dL_law_249 rfl ?_
  refine bx_cs3 dL_law_251 ln_L_law_255 (Nat.le_of_ble_eq_true rfl) (by decide) (by omega) (by omega) (kt_random hWB hRn) (fun v9 u9 g1 hq9 => ?_)
  obtain ⟨k, w, m, p, cl, ce, K1, rfl, hT, hR, hK1, hk0, hk1, ⟨⟨r1, T1, hLA1, hTX1, hr1, -⟩, -, -⟩, hRn1⟩ := hq9
  have Z0 : LZ u9 K1 (psh (freshK 5 5) H) (min (0 + 1) 8) := ⟨⟨_, r1, T1, hLA1, hTX1, by rw [hr1]; exact ⟨by decide, by decide⟩⟩, hK1, psh_ki KI.fr0 (fun t ht => absurd ht (Nat.not_lt_zero _))⟩
  refine bx_astore dL_law_254 rfl (by decide) rfl ?_
  refine bx_aload dL_law_256 rfl ?_
  refine gx_nonnull (tgt := 263) dL_law_258 (by decide) ?_
  refine bx_iload_n dL_law_263 rfl ?_
  refine bx_if_eq (tgt := 280) dL_law_264 (by decide) (by decide) (fun c264 => ?_) (fun c264 => ?_)
  · exact absurd c264 (by decide)
  · refine bx_aload_n dL_law_267 rfl ?_
    refine bx_aload dL_law_268 rfl ?_
    refine bx_cs2 dL_law_270 ln_L_law_227 (Nat.le_of_ble_eq_true rfl) (by decide) (by omega) (by omega) (kt_agrees Z0 hT hR) (fun v9 u9 h9 hq9 => ?_)
    obtain ⟨rfl, rfl, rfl⟩ := hq9
    refine bx_if_eq (tgt := 280) dL_law_273 (by decide) (by decide) (fun c273 => ?_) (fun c273 => ?_)
    · exact absurd c273 (by decide)
    · refine bx_iconst dL_law_276 ?_
      refine bx_goto (tgt := 281) dL_law_277 (by decide) ?_
      refine bx_istore_n dL_law_281 rfl (by decide) rfl ?_
      refine bx_bipush dL_law_282 (by decide) ?_
      refine bx_anew (t := 7) (N := 9) (C := "KitePainterLaw$Kite") dL_law_284 ⟨by unfold tagO; simp, by decide⟩ cg_KitePainterLaw_114 rfl (by omega) (by omega) (by omega) (fun B eB hB heB => ?_)
      refine gx_gen (fun g2 q2 => ?_)
      have F2 : FRM h9 g2 (fun _ => False) := by rw [q2]; exact FRM.new hB
      have V2 : KV g2 r B 0 k w m p cl ce K1 (psh (freshK 5 5) H) := ⟨hT.own F2 (fun b z => False.elim z), hR.kp (fun b e hb he => F2 b e hb (fun z => z)), hRn1.fr F2 (fun z => z), fun _ => none, heB.mv (by rw [q2]; exact ug_eq), fun t h8 => Or.inr ⟨Nat.zero_le _, rfl⟩⟩
      refine bx_astore dL_law_287 rfl (by decide) rfl ?_
      refine bx_iconst dL_law_289 ?_
      refine bx_istore dL_law_290 rfl (by decide) rfl ?_
      refine bx_iconst dL_law_292 ?_
      refine bx_istore dL_law_293 rfl (by decide) rfl ?_
      refine lw_loop (b := b) (fun u1 h1 K1 n1 H1 c1 s1 Z1 V1 h1n b1 b2 => ?_) 20 0 _ _ _ 0 _ _ _ rfl Z0 V2 (Nat.le_refl _) (by omega) (by omega)
      refine bx_iconst dL_law_1086 ?_
      refine bx_istore dL_law_1087 rfl (by decide) rfl ?_
      refine lw_undo h1n V1.2.2.2 (fun u2 x2 K2 H2 d2 c2 s2 Z2 b2 b3 => lw_end Z2 h1n b2 b3 (hQ _ _)) 8 0 _ _ _ _ rfl (Nat.zero_le _) Z1 (by omega) (by omega)
set_option maxRecDepth 20000 in
theorem lw_all (hI : vp_in (I 0) sc.1) (hLA : LA u (freshK 5 5) H 0 (-1) rr T) (hTX : TX T) (hz1 : rr 1 = 0) (hc : 40000 ≤ c) (hs : 400000 ≤ sl) (hQ : ∀ u1 h1, Q (.int (I 1)) u1 h1) : Gx ad sc M_L_law 26 [.ref (ad 3000), .int (I 1), .int (I 0), uk, uk, uk, uk, uk, uk, uk, uk, uk, uk, uk, uk, uk, uk, uk, uk, uk, uk, uk, uk, uk, uk, uk, uk, uk] [.ref (ad 0)] c sl u h Q := by
  have hK := KI.fr0
  have Z0 : LZ u (freshK 5 5) H 0 := ⟨⟨_, rr, T, hLA, hTX, by rw [hz1]; exact ⟨by decide, by decide⟩⟩, hK, fun t ht => absurd ht (Nat.not_lt_zero _)⟩
  refine bx_astore_n dL_law_26 rfl (by decide) rfl ?_
  refine bx_bipush dL_law_27 (by decide) ?_
  refine bx_newa (N := 8) dL_law_29 (Or.inl ⟨rfl, rfl⟩) rfl (by omega) (by omega) (by omega) (fun b eb hb heb => ?_)
  refine gx_gen (fun g1 q1 => ?_)
  have B1 : rwI 0 (g1 b) 8 (bufF []) := (heb.mv (show g1 b = some eb by rw [q1]; exact ug_eq)).cong (fun i hi => (buf_0 i hi).symm)
  refine bx_astore dL_law_31 rfl (by decide) rfl ?_
  refine gx_new (fs := df_8) ck8 cg_KitePainterLaw_118 ist_8 ini_8 dv_8 (by omega) (by omega) dL_law_33 (fun r hr => ?_)
  refine gx_gen (fun g2 q2 => ?_)
  have F2 : FRM g1 g2 (fun _ => False) := by rw [q2]; exact FRM.new hr
  have R2 : g2 r = some (.inr (8, df_8)) := by rw [q2]; exact ug_eq
  have B2 := B1.fr F2 (fun z => z)
  refine bx_dup dL_law_36 rfl ?_
  refine bx_aload_n dL_law_37 rfl ?_
  refine bx_iload_n dL_law_38 rfl ?_
  refine gx_sld hI dL_law_39 ?_
  refine bx_ci1 dL_law_40 ln_L_law_224 (Nat.le_of_ble_eq_true rfl) (Nat.zero_le _) (Nat.zero_le _) (kr_init R2) (fun u9 g3 hq9 => ?_)
  obtain ⟨-, rfl, q3⟩ := hq9
  have F3 : FRM g2 g3 (fun x => x = r) := by rw [q3]; exact FRM.u1 rfl
  have R3 : RND g3 r := ⟨_, by rw [q3]; exact ug_eq⟩
  have B3 := B2.fr F3 (B2.no R2)
  refine bx_astore dL_law_43 rfl (by decide) rfl ?_
  refine bx_aload_n dL_law_45 rfl ?_
  refine gx_new (fs := df_7) ck7 cg_KitePainterLaw_114 ist_7 ini_7 dv_7 (by omega) (by omega) dL_law_46 (fun k hk => ?_)
  refine gx_gen (fun g4 q4 => ?_)
  have F4 : FRM g3 g4 (fun _ => False) := by rw [q4]; exact FRM.new hk
  have K4 : g4 k = some (.inr (7, df_7)) := by rw [q4]; exact ug_eq
  have B4 := B3.fr F4 (fun z => z)
  have R4 := R3.fr F4 (fun z => z)
  refine bx_dup dL_law_49 rfl ?_
  refine bx_cn0 dL_law_50 ln_L_law_116 (Nat.le_of_ble_eq_true rfl) (by omega) (by omega) (kt_init K4) (fun u9 g5 hq9 => ?_)
  obtain ⟨-, rfl, w, m, p, cl, hN⟩ := hq9
  obtain ⟨n1, n2, n3, n4, n5, n6, nF, -⟩ := id hN
  have B5 := B4.fr nF (B4.no K4)
  have R5 : RND g5 r := R4.fr nF (fun z => by obtain ⟨s, hs⟩ := R4; rw [z, K4] at hs; cases hs)
  have S5 : SHR g5 w m p (freshK 5 5) := ⟨n2, ⟨_, n3, fun a ha => (n4 a ha).cong (fun i hi => by rw [fresh_hi (by omega), if_neg (by omega)]; rfl)⟩, fun _ => 0, by rw [fr5]; exact n5.cong (fun i hi => absurd hi (Nat.not_lt_zero _)), fun j hj => absurd hj (by rw [fr5]; exact Nat.not_lt_zero _)⟩
  refine bx_iconst dL_law_53 ?_
  refine bx_newa (N := 5) dL_law_54 (Or.inl ⟨rfl, rfl⟩) rfl (by omega) (by omega) (by omega) (fun aa eaa haa heaa => ?_)
  refine bx_dup dL_law_56 rfl ?_
  refine bx_iconst dL_law_57 ?_
  refine bx_iconst dL_law_58 ?_
  refine bx_iasr (j := 0) dL_law_59 (heaa.mv ug_eq) rfl (by decide) (by omega) (fun e59 he59 => ?_)
  rw [up_up]
  refine bx_dup dL_law_60 rfl ?_
  refine bx_iconst dL_law_61 ?_
  refine bx_iconst dL_law_62 ?_
  refine bx_iasr (j := 1) dL_law_63 (he59.mv ug_eq) rfl (by decide) (by omega) (fun e63 he63 => ?_)
  rw [up_up]
  refine bx_dup dL_law_64 rfl ?_
  refine bx_iconst dL_law_65 ?_
  refine bx_iconst dL_law_66 ?_
  refine bx_iasr (j := 2) dL_law_67 (he63.mv ug_eq) rfl (by decide) (by omega) (fun e67 he67 => ?_)
  rw [up_up]
  refine bx_dup dL_law_68 rfl ?_
  refine bx_iconst dL_law_69 ?_
  refine bx_iconst dL_law_70 ?_
  refine bx_iasr (j := 3) dL_law_71 (he67.mv ug_eq) rfl (by decide) (by omega) (fun e71 he71 => ?_)
  rw [up_up]
  refine bx_dup dL_law_72 rfl ?_
  refine bx_iconst dL_law_73 ?_
  refine bx_iconst dL_law_74 ?_
  refine bx_iasr (j := 4) dL_law_75 (he71.mv ug_eq) rfl (by decide) (by omega) (fun e75 he75 => ?_)
  rw [up_up]
  refine gx_gen (fun g6 q6 => ?_)
  have F6 : FRM g5 g6 (fun _ => False) := by rw [q6]; exact FRM.new haa
  have A6 : rwI 0 (g6 aa) 5 (fun y => (freshK 5 5 (6 + y) : Int)) := (he75.mv (show g6 aa = some e75 by rw [q6]; exact ug_eq)).cong (fun i hi => by
    rcases (by omega : i = 0 ∨ i = 1 ∨ i = 2 ∨ i = 3 ∨ i = 4) with rfl | rfl | rfl | rfl | rfl <;> rfl)
  have K6 := F6 _ _ n1 (fun z => z)
  have B6 := B5.fr F6 (fun z => z)
  have R6 := R5.fr F6 (fun z => z)
  have S6 := S5.kp (fun b e hb he => F6 b e hb (fun z => z))
  refine bx_cv1 dL_law_76 ln_L_law_139 (Nat.le_of_ble_eq_true rfl) (by decide) K6 rfl (by omega) (by omega) (kt_lay K6 hK A6 ⟨by decide, by decide⟩ (fun i hi => ⟨by rw [fresh_hi (by omega), if_neg (by omega)], by rw [fresh_hi (by omega), if_neg (by omega)], by rw [fresh_hi (by omega), if_neg (by omega)]⟩)) (fun v9 u9 g7 hq9 => ?_)
  obtain ⟨rfl, rfl, cl2, ce2, hL⟩ := hq9
  have T7 := hL.kt
  have F7 := hL.2.2.2.1
  have S7 := S6.kp (fun b e hb he => F7 b e hb (fun z => by rw [z, K6] at hb; cases hb; exact absurd (show (7 : Nat) = 9 from he) (by decide)))
  have B7 := B6.fr F7 (B6.no K6)
  have R7 : RND g7 r := R6.fr F7 (fun z => by obtain ⟨s, hs⟩ := R6; rw [z, K6] at hs; cases hs)
  refine bx_cs2 dL_law_79 ln_L_law_227 (Nat.le_of_ble_eq_true rfl) (by decide) (by omega) (by omega) (kt_agrees Z0 T7 S7) (fun v9 u9 h9 hq9 => ?_)
  obtain ⟨rfl, rfl, rfl⟩ := hq9
  refine bx_if_eq (tgt := 244) dL_law_82 (by decide) (by decide) (fun c82 => ?_) (fun c82 => ?_)
  · exact absurd c82 (by decide)
  · refine ls_checks hLA hTX (by rw [hz1]; exact ⟨by decide, by decide⟩) (by omega) (by omega) (fun u8 H8 c8 s8 L8 b8 b9 => ?_)
    exact ls_rest L8 hTX hz1 B7 R7 (by omega) (by omega) hQ
end LS
