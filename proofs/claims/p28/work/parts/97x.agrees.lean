/-! THE LAW: agrees -/
def LZ (u : hp) (K : Nat → Nat) (H : Nat → Nat → Nat) (d : Nat) : Prop := (∃ e r T, LA u K H d e r T ∧ TX T ∧ 0 ≤ r 1 ∧ r 1 ≤ 600) ∧ KI K ∧ ∀ t, t < d → KI (H t)
theorem lg_rf (x : Int64) : lg_cmp x x = I 0 := by
  unfold lg_cmp
  simp
  rfl
section RX
variable {ad : Nat → Nat} {sc : Nat × (Nat → Int32)} {u : hp} {h : hg} {Q : qg} {k w m p cl : Nat} {ce : Nat → Nat} {K : Nat → Nat} {c sl : Nat}
variable {H : Nat → Nat → Nat} {d : Nat}
theorem cn_L_42 {M : mt} (h : M.1.cls = "KitePainterLaw") : Cond.constant M.1.cls 42 (I (-2000000098)) ∈ gT := by
  rw [h]
  exact gT_mem 739 (by decide +kernel) (by decide +kernel)
theorem cn_L_52 {M : mt} (h : M.1.cls = "KitePainterLaw") : Cond.constant M.1.cls 52 (I (-2000000097)) ∈ gT := by
  rw [h]
  exact gT_mem 813 (by decide +kernel) (by decide +kernel)
theorem kl_agr (hZ : LZ u K H d) (hT : KT h k w m p cl ce K) (hR : SHR h w m p K) (kk : ∀ c2 s2, c - 13 ≤ c2 → sl - 78 ≤ s2 → Gx ad sc M_L_agrees 107 [.ref (ad 0), .ref k, .int (I 1), .int (I ((13 : Nat) : Int))] [] c2 s2 u h Q) : ∀ (n q c1 s1 : Nat), q + n = 13 → c - 13 + n ≤ c1 → sl - 78 + 6 * n ≤ s1 → Gx ad sc M_L_agrees 72 [.ref (ad 0), .ref k, .int (I 1), .int (I (q : Int))] [] c1 s1 u h Q := by
  obtain ⟨⟨e, r, T, hLA, hTX, hr0, hr6⟩, hK, hH⟩ := id hZ
  obtain ⟨a1, ⟨KS, a2⟩, a3, a4, a5, a6, a7, a8, a9, ⟨n0, a10⟩, a11, a12, a13⟩ := id hLA
  intro n
  induction n with
  | zero =>
    intro q c1 s1 hq hc hs
    refine bx_iload_n dL_agrees_72 rfl ?_
    refine bx_bipush dL_agrees_73 (by decide) ?_
    refine bx_icmp_ge (tgt := 107) dL_agrees_75 (by decide) (by omega) (by omega) (fun c75 => ?_) (fun c75 => ?_)
    · obtain rfl : q = 13 := by omega
      exact kk c1 s1 (by omega) (by omega)
    · exfalso
      omega
  | succ n ih =>
    intro q c1 s1 hq hc hs
    refine bx_iload_n dL_agrees_72 rfl ?_
    refine bx_bipush dL_agrees_73 (by decide) ?_
    refine bx_icmp_ge (tgt := 107) dL_agrees_75 (by decide) (by omega) (by omega) (fun c75 => ?_) (fun c75 => ?_)
    · exfalso
      omega
    · refine bx_iload_n dL_agrees_78 rfl ?_
      refine bx_if_eq (tgt := 107) dL_agrees_79 (by decide) (by decide) (fun c79 => ?_) (fun c79 => ?_)
      · exact absurd c79 (by decide)
      · refine bx_aload_n dL_agrees_82 rfl ?_
        refine bx_iload_n dL_agrees_83 rfl ?_
        refine gx_cwr (n := 2) (As := [.int (I (q : Int))]) dL_agrees_84 ln_L_agrees_215 rfl (Nat.le_of_ble_eq_true rfl) (nrI (xs := [I (q : Int)])) (by omega) (by omega) (fun Γ l St adV hE hX hl9 hLn => wr_state hE hX hl9 (by decide) a3 (sp_state (Nat.le_refl _) a3 a1 hK (w := q) (by omega))) (fun r9 u9 hq9 => ?_)
        obtain ⟨hv9, rfl⟩ := hq9
        cases hv9
        refine bx_aload_n dL_agrees_87 rfl ?_
        refine bx_iload_n dL_agrees_88 rfl ?_
        refine bx_cvP1 dL_agrees_89 ln_L_agrees_203 (Nat.le_of_ble_eq_true rfl) (by decide) hT.1 rfl (kt_told hT hK hR (by omega)) ?_
        refine gx_icmp_ne (tgt := 99) dL_agrees_92 (by decide) (fun q9 => absurd rfl q9) (fun _ => ?_)
        refine bx_iconst dL_agrees_95 ?_
        refine bx_goto (tgt := 100) dL_agrees_96 (by decide) ?_
        refine bx_istore_n dL_agrees_100 rfl (by decide) rfl ?_
        refine bx_iinc dL_agrees_101 rfl rfl (by decide) rfl ?_
        refine bx_goto (tgt := 72) dL_agrees_104 (by decide) ?_
        exact ih (q + 1) _ _ (by omega) (by omega) (by omega)
theorem kt_agrees (hZ : LZ u K H d) (hT : KT h k w m p cl ce K) (hR : SHR h w m p K) : Gl ad sc 20 120 M_L_agrees [.ref (ad 0), .ref k] u h (fun v u1 h1 => v = .int (I 1) ∧ u1 = u ∧ h1 = h) := by
  obtain ⟨⟨e, r, T, hLA, hTX, hr0, hr6⟩, hK, hH⟩ := id hZ
  obtain ⟨a1, ⟨KS, a2⟩, a3, a4, a5, a6, a7, a8, a9, ⟨n0, a10⟩, a11, a12, a13⟩ := id hLA
  have hn9 := nC_le hK
  obtain ⟨pr, hp1, hp2⟩ := hR.2.2
  refine bx_aload_n dL_agrees_0 rfl ?_
  refine gx_cck dL_agrees_1 ln_L_agrees_206 (Nat.le_of_ble_eq_true rfl) ⟨_, a3⟩ (fun Γ l St adV hE hX hl9 => sl_checksum hE hX hl9 (by decide) a3 a1 hK) (fun r9 u9 hq9 => ?_)
  obtain ⟨rfl, rfl⟩ := hq9
  refine bx_aload_n dL_agrees_4 rfl ?_
  refine bx_cvP0 dL_agrees_5 ln_L_agrees_210 (Nat.le_of_ble_eq_true rfl) (by decide) hT.1 rfl (kt_checksum hT hK hR) ?_
  refine gx_lcmp dL_agrees_8 ?_
  rw [lg_rf]
  refine bx_if_ne (tgt := 68) dL_agrees_9 (by decide) (by decide) (fun c9 => ?_) (fun c9 => ?_)
  · exact absurd rfl c9
  · refine bx_aload_n dL_agrees_12 rfl ?_
    refine gx_cam (n := 0) (As := []) dL_agrees_13 ln_L_agrees_211 rfl rfl (Nat.le_of_ble_eq_true rfl) (nrI (xs := [])) ⟨_, a3⟩ rfl (Or.inl rfl) (sp_unlike (NC := 112) (Nat.le_refl _) a3 a1 hK) (fun r9 u9 hq9 => ?_)
    obtain ⟨hv9, rfl⟩ := hq9
    cases hv9
    refine bx_aload_n dL_agrees_16 rfl ?_
    refine bx_cvP0 dL_agrees_17 ln_L_agrees_214 (Nat.le_of_ble_eq_true rfl) (by decide) hT.1 rfl (kt_unlike hT hK) ?_
    refine gx_icmp_ne (tgt := 68) dL_agrees_20 (by decide) (fun q9 => absurd rfl q9) (fun _ => ?_)
    refine bx_aload_n dL_agrees_23 rfl ?_
    refine bx_bipush dL_agrees_24 (by decide) ?_
    refine gx_cwr (n := 2) (As := [.int (I 13)]) dL_agrees_26 ln_L_agrees_215 rfl (Nat.le_of_ble_eq_true rfl) (nrI (xs := [I 13])) (by omega) (by omega) (fun Γ l St adV hE hX hl9 hLn => wx_state0 hE hX hl9 hLn (by decide) a3 (sx_state (Nat.le_refl _) (a := 13) (by omega) (by omega))) (fun r9 u9 hq9 => ?_)
    obtain ⟨rfl, rfl⟩ := hq9
    refine gx_ldcI (cn_L_42 rfl) dL_agrees_29 ?_
    refine bx_icmp_ne (tgt := 68) dL_agrees_31 (by decide) (by decide) (by decide) (fun c31 => ?_) (fun c31 => ?_)
    · exact absurd rfl c31
    · refine bx_aload_n dL_agrees_34 rfl ?_
      refine bx_aload_n dL_agrees_35 rfl ?_
      refine bx_getf dL_agrees_36 ck7 fg_KitePainterLaw_122 (by decide) hT.1 rfl ?_
      refine bx_iconst dL_agrees_39 ?_
      refine bx_iconst dL_agrees_40 ?_
      refine gx_cwr (n := 4) (As := [.int (I (K 0 : Int)), .int (I 0), .int (I 0)]) dL_agrees_41 ln_L_agrees_217 rfl (Nat.le_of_ble_eq_true rfl) (nrI (xs := [I (K 0 : Int), I 0, I 0])) (by omega) (by omega) (fun Γ l St adV hE hX hl9 hLn => wx_cell0 hE hX hl9 hLn (by decide) a3 (sx_cellQ1 (Nat.le_refl _) a3 a1 hK (x := (K 0 : Int)) (y := 0) (z := 0) (by have := hK.1; omega) (by omega) (by rw [onZ_out hK (by omega)]; decide))) (fun r9 u9 hq9 => ?_)
      obtain ⟨rfl, rfl⟩ := hq9
      refine gx_ldcI (cn_L_52 rfl) dL_agrees_44 ?_
      refine bx_icmp_ne (tgt := 68) dL_agrees_46 (by decide) (by decide) (by decide) (fun c46 => ?_) (fun c46 => ?_)
      · exact absurd rfl c46
      · refine bx_aload_n dL_agrees_49 rfl ?_
        refine bx_aload_n dL_agrees_50 rfl ?_
        refine bx_getf dL_agrees_51 ck7 fg_KitePainterLaw_179 (by decide) hT.1 rfl ?_
        refine bx_alnq dL_agrees_54 hp1 (by decide) ?_
        refine bx_iconst dL_agrees_55 ?_
        refine gx_cwr (n := 3) (As := [.int (I (K 5 : Int)), .int (I 0)]) dL_agrees_56 ln_L_agrees_220 rfl (Nat.le_of_ble_eq_true rfl) (nrI (xs := [I (K 5 : Int), I 0])) (by omega) (by omega) (fun Γ l St adV hE hX hl9 hLn => wx_pattern0 hE hX hl9 hLn (by decide) a3 (sx_pattern1 (Nat.le_refl _) a3 a1 hK (a := (K 5 : Int)) (z := 0) (by have := hK.1; omega) (by omega))) (fun r9 u9 hq9 => ?_)
        obtain ⟨rfl, rfl⟩ := hq9
        refine gx_ldcI (cn_L_52 rfl) dL_agrees_59 ?_
        refine bx_icmp_ne (tgt := 68) dL_agrees_61 (by decide) (by decide) (by decide) (fun c61 => ?_) (fun c61 => ?_)
        · exact absurd rfl c61
        · refine bx_iconst dL_agrees_64 ?_
          refine bx_goto (tgt := 69) dL_agrees_65 (by decide) ?_
          refine bx_istore_n dL_agrees_69 rfl (by decide) rfl ?_
          refine bx_iconst dL_agrees_70 ?_
          refine bx_istore_n dL_agrees_71 rfl (by decide) rfl ?_
          refine kl_agr (c := 17) (sl := 102) hZ hT hR (fun c2 s2 _ _ => ?_) 13 0 _ _ (by omega) (by omega) (by omega)
          refine bx_iload_n dL_agrees_107 rfl ?_
          exact bx_zret dL_agrees_108 rfl (by first | exact Or.inl rfl | exact Or.inr rfl) ⟨rfl, rfl, rfl⟩
end RX
