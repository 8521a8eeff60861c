/-! THE RANDOM KITE: its beginning -/
theorem reaK_at {K f : Nat → Nat} {y : Nat} : ∀ {N : Nat}, reaK K f N (6 + y) = if y < N then f y else K (6 + y)
  | 0 => by rw [if_neg (Nat.not_lt_zero _)]; rfl
  | N + 1 => by
    show upN (reaK K f N) (6 + N) (f N) (6 + y) = _
    by_cases q : y = N
    · subst q; rw [up_same, if_pos (by omega)]
    · rw [up_ne (by omega), reaK_at (N := N)]
      by_cases z : y < N
      · rw [if_pos z, if_pos (by omega)]
      · rw [if_neg z, if_neg (by omega)]
theorem reaK_hi {K f : Nat → Nat} {j : Nat} (hj : 18 ≤ j) : ∀ {N : Nat}, N ≤ 12 → reaK K f N j = K j
  | 0, _ => rfl
  | N + 1, h => by
    show upN (reaK K f N) (6 + N) (f N) j = _
    rw [up_ne (by omega), reaK_hi hj (by omega)]
theorem fresh_hi {w t j : Nat} (hj : 18 ≤ j) : freshK w t j = if 19 ≤ j ∧ j < 25 then 2 else 0 := by
  unfold freshK
  rw [if_neg (by omega), if_neg (by omega), if_neg (by omega), if_neg (by omega), if_neg (by omega)]
section BN4
variable {la : Bool} {u : hp} {h h1 : hg} {b r k w m p cl cl2 : Nat} {ce ce2 K K0 K' : Nat → Nat} {H : Nat → Nat → Nat} {d : Nat} {e : Int} {xs ys : List Int}
theorem Bn.lay (hB : Bn false u h b r k w m p cl ce K K0 H d e xs) (hL : LI h h1 k w m p cl2 ce2 K (nC K)) : Bn true u h1 b r k w m p cl2 ce2 K K0 H d e xs := by
  have hT := hL.kt
  have hF := hL.2.2.2.1
  obtain ⟨s, hs⟩ := hB.rnd
  exact ⟨⟨hT.1, hB.wr.fr hF (hB.wr.no hB.kf), hB.mr.fr hF (hB.mr.no hB.kf), fun a ha => (hB.mx ha).fr hF ((hB.mx ha).no hB.kf)⟩, fun _ => ⟨hT.2.1, hT.2.2⟩, hB.wb.fr hF (hB.bf.no hB.kf), ⟨s, hF _ _ hs (fun z => by have h9 := hB.kf; rw [← z, hs] at h9; simp at h9)⟩, hB.2.2.2.2⟩
theorem Bn.kz (hB : Bn false u h b r k w m p cl ce K K0 H d e xs) (h1 : ∀ j, j < 5 → K' j = K j) (h2 : ∀ j, 18 ≤ j → j < 74 → K' j = K j) : Bn false u h b r k w m p cl ce K' K0 H d e xs := ⟨hB.1.k h1 h2, fun q => absurd q (by decide), hB.2.2⟩
theorem Bn.kf0 {fs : List Value} (hB : Bn false u h b r k w m p cl ce K K0 H d e xs) (h2 : ∀ j, 18 ≤ j → j < 74 → K' j = K j) (hfs : fs = kiteF K' w m p cl) : Bn false u (up h k (.inr (7, fs))) b r k w m p cl ce K' K0 H d e xs := by
  subst hfs
  obtain ⟨s, hs⟩ := hB.rnd
  have hF : FRM h (up h k (.inr (7, kiteF K' w m p cl))) (fun x => x = k) := FRM.u1 rfl
  exact ⟨⟨ug_eq, (hB.wr.fr hF (hB.wr.no hB.kf)).cong (fun i hi => by rw [h2 _ (by omega) (by omega)]), hB.mr.fr hF (hB.mr.no hB.kf), fun a ha => ((hB.mx ha).fr hF ((hB.mx ha).no hB.kf)).cong (fun i hi => by rw [h2 _ (by omega) (by omega)])⟩, fun q => absurd q (by decide), hB.wb.fr hF (hB.bf.no hB.kf), ⟨s, hF _ _ hs (fun z => by have h9 := hB.kf; rw [← z, hs] at h9; simp at h9)⟩, hB.2.2.2.2⟩
theorem Bn.af {a n : Nat} {f : Nat → Int} (hB : Bn false u h b r k w m p cl ce K K0 H d e xs) (ha : rwI 0 (h a) n f) (hF : FRM h h1 (fun x => x = a)) (nw : w ≠ a) (nm : ∀ j, j < 8 → m + j ≠ a) (nb : b ≠ a) : Bn false u h1 b r k w m p cl ce K K0 H d e xs := by
  obtain ⟨s, hs⟩ := hB.rnd
  exact ⟨hB.1.fr hF (fun z => (ha.no hB.kf) z.symm) nw nm, fun q => absurd q (by decide), hB.wb.fr hF nb, ⟨s, hF _ _ hs (fun z => (ha.no hs) z.symm)⟩, hB.2.2.2.2⟩
end BN4
section RW
variable {ad : Nat → Nat} {sc : Nat × (Nat → Int32)} {u : hp} {h : hg} {Q : qg} {k w m p cl : Nat} {ce : Nat → Nat} {K : Nat → Nat} {c sl : Nat}
variable {H : Nat → Nat → Nat} {d : Nat} {e : Int} {b r : Nat} {K0 : Nat → Nat}
theorem rk_157 {a4 : Nat} {x5 : Int32} {x6 : Int32} {xs : List Int} {f1 : Int} (hB : Bn false u h b r k w m p cl ce K K0 H d e xs) (hR : RDs xs K f1 0 0 0) (ha : rwI 0 (h a4) (K 1) (fun y => (K (6 + y) : Int))) (hz : ∀ j, 25 ≤ j → K j = 0) (h5 : K 5 = 0) (hsz : K 0 ≤ 7 ∧ K 1 ≤ 6) (hn : xs.length ≤ 90) (hc : 380 ≤ c) (hs : 2620 ≤ sl) : Gx ad sc M_L_randomKite 157 [.ref (ad 0), .ref b, .ref r, .ref k, .ref a4, .int x5, .int x6, uk, uk, uk, uk, uk, uk] [] c sl u h (RKQ b r K0 H d) := by
  have hK := hR.ki
  have hn9 := nC_le hK
  have hk5 : K 5 = 0 := h5
  refine bx_aload_n dL_randomKite_157 rfl ?_
  refine bx_aload dL_randomKite_158 rfl ?_
  refine bx_cv1 dL_randomKite_160 ln_L_randomKite_139 (Nat.le_of_ble_eq_true rfl) (by decide) hB.kf rfl (by omega) (by omega) (kt_lay hB.kf hK ha ⟨Nat.le_refl _, by omega⟩ (fun i hi => ⟨hz _ (by omega), hz _ (by omega), hz _ (by omega)⟩)) (fun v9 u9 h9 hq9 => ?_)
  obtain ⟨rfl, rfl, cl2, ce2, hL2⟩ := hq9
  have B9 := hB.lay hL2
  refine bx_pop dL_randomKite_163 rfl ?_
  refine gx_forg (i := 4) ?_
  refine gx_forg (i := 5) ?_
  refine gx_forg (i := 6) ?_
  exact rk_164 B9 hR hk5 hsz hn (by omega) (by omega)
theorem rk_136 {a4 : Nat} {tl : Nat} {x6 : Int32} {xs : List Int} {f : Nat → Nat} (htl : tl ≤ 1) (hB : Bn false u h b r k w m p cl ce K K0 H d e xs) (hR : RDs xs K 0 0 0 0) (ha : rwI 0 (h a4) (K 1) (fun y => (f y : Int))) (nab : a4 ≠ b) (hf : ∀ y, y < K 1 → f y ≤ K 0 / 2 ∧ (tl = 0 → f y = K 0 / 2)) (hz : ∀ j, 25 ≤ j → K j = 0) (h5 : K 5 = 0) (h6 : ∀ y, y < 12 → K (6 + y) = K 0 / 2) (hsz : K 0 ≤ 7 ∧ K 1 ≤ 6) (hn : xs.length ≤ 60) (hc : 380 ≤ c) (hs : 2620 ≤ sl) : Gx ad sc M_L_randomKite 136 [.ref (ad 0), .ref b, .ref r, .ref k, .ref a4, .int (I (tl : Int)), .int x6, uk, uk, uk, uk, uk, uk] [] c sl u h (RKQ b r K0 H d) := by
  have hK := hR.ki
  have k1 := hK.1.2.2.1
  have l19 : (litL 19).length = 1 := by decide +kernel
  have l1 : (litL 1).length = 5 := by decide +kernel
  refine bx_iload dL_randomKite_136 rfl ?_
  refine bx_if_eq (tgt := 157) dL_randomKite_138 (by decide) (by omega) (fun q138 => ?_) (fun q138 => ?_)
  · exact rk_157 hB hR (ha.cong (fun y hy => by rw [h6 y (by omega), (hf y hy).2 (by omega)])) hz h5 hsz (by omega) hc hs
  · refine bx_aload_n dL_randomKite_141 rfl ?_
    refine bx_aload_n dL_randomKite_142 rfl ?_
    refine gx_ldcS (j := 1) (tx := "reach") (by decide) dL_randomKite_143 ?_
    refine bx_aload dL_randomKite_145 rfl ?_
    refine bx_csv4 dL_randomKite_147 ln_L_randomKite_131 (Nat.le_of_ble_eq_true rfl) rfl (Nat.zero_le _) (Nat.zero_le _) (kw_all (j := 1) (by decide) ha (by omega) nab (fun i hi => by have := (hf i hi).1; omega) hB.wb (by rw [l1]; omega)) (fun u8 h8 hq8 => ?_)
    obtain ⟨-, hW8, hF8⟩ := hq8
    have B8 := hB.wt hW8 hF8
    have A8 := ha.fr hF8 nab
    have n1 := num_len (f := f) (n := K 1)
    refine bx_aload_n dL_randomKite_150 rfl ?_
    refine bx_aload_n dL_randomKite_151 rfl ?_
    refine gx_ldcS (j := 19) (tx := ";") (by decide) dL_randomKite_152 ?_
    refine bx_csv3 dL_randomKite_154 ln_L_randomKite_105 (Nat.le_of_ble_eq_true rfl) rfl (Nat.zero_le _) (Nat.zero_le _) (kw_lit (j := 19) (by decide) B8.wb (by rw [List.length_append, List.length_append, l1, l19]; omega)) (fun u9 h9 hq9 => ?_)
    obtain ⟨-, hW9, hF9⟩ := hq9
    have B9 := B8.wt hW9 hF9
    have A9 := A8.fr hF9 nab
    rw [sm_eq] at B9
    have R9 := rd_reach hR (f := f) (by decide) (by decide) k1 (fun i hi => (hf i hi).1) (by omega)
    have el := sm_len (j := 1) (f := f) (N := K 1)
    rw [l1] at el
    have lo : ∀ j, j < 6 → reaK K f (K 1) j = K j := fun j hj => reaK_lo hj _
    have hi9 : ∀ j, 18 ≤ j → reaK K f (K 1) j = K j := fun j hj => reaK_hi hj (by omega)
    have z9 := rk_157 (ad := ad) (sc := sc) (H := H) (d := d) (c := c) (sl := sl) (x5 := I (tl : Int)) (x6 := x6) (a4 := a4) (B9.kz (fun j hj => lo j (by omega)) (fun j h1 h2 => hi9 j h1)) R9 (by rw [lo 1 (by omega)]; exact A9.cong (fun y hy => by rw [reaK_at, if_pos hy])) (fun j hj => by rw [hi9 j (by omega)]; exact hz j hj) (by rw [lo 5 (by omega)]; exact h5) (by rw [lo 0 (by omega), lo 1 (by omega)]; exact hsz) (by rw [List.length_append]; omega) hc hs
    exact z9
theorem rk_90 {a4 tl : Nat} {xs : List Int} (htl : tl ≤ 1) (hR : RDs xs K 0 0 0 0) (nw : w ≠ a4) (nm : ∀ j, j < 8 → m + j ≠ a4) (nb : b ≠ a4) (hz : ∀ j, 25 ≤ j → K j = 0) (h5 : K 5 = 0) (h6 : ∀ y, y < 12 → K (6 + y) = K 0 / 2) (hsz : K 0 ≤ 7 ∧ K 1 ≤ 6) (hn : xs.length ≤ 60) (hc : 380 ≤ c) (hs : 2620 ≤ sl) : ∀ (n y : Nat) (u : hp) (h : hg) (f : Nat → Nat), y + n = K 1 → Bn false u h b r k w m p cl ce K K0 H d e xs → rwI 0 (h a4) (K 1) (fun y => (f y : Int)) → (∀ i, i < y → f i ≤ K 0 / 2 ∧ (tl = 0 → f i = K 0 / 2)) → Gx ad sc M_L_randomKite 90 [.ref (ad 0), .ref b, .ref r, .ref k, .ref a4, .int (I (tl : Int)), .int (I (y : Int)), uk, uk, uk, uk, uk, uk] [] c sl u h (RKQ b r K0 H d) := by
  intro n
  induction n with
  | zero =>
    intro y u h f hy hB ha hf
    refine bx_iload dL_randomKite_90 rfl ?_
    refine bx_aload_n dL_randomKite_92 rfl ?_
    refine bx_getf dL_randomKite_93 ck7 fg_KitePainterLaw_126 (by decide) hB.kf rfl ?_
    refine bx_icmp_ge (tgt := 136) dL_randomKite_96 (by decide) (by omega) (by omega) (fun c96 => ?_) (fun c96 => ?_)
    · obtain rfl : y = K 1 := by omega
      exact rk_136 htl hB hR ha nb.symm hf hz h5 h6 hsz hn hc hs
    · exfalso
      omega
  | succ n ih =>
    intro y u h f hy hB ha hf
    have hK := hR.ki
    have k0 := hK.1
    refine bx_iload dL_randomKite_90 rfl ?_
    refine bx_aload_n dL_randomKite_92 rfl ?_
    refine bx_getf dL_randomKite_93 ck7 fg_KitePainterLaw_126 (by decide) hB.kf rfl ?_
    refine bx_icmp_ge (tgt := 136) dL_randomKite_96 (by decide) (by omega) (by omega) (fun c96 => ?_) (fun c96 => ?_)
    · exfalso
      omega
    · refine bx_aload dL_randomKite_99 rfl ?_
      refine bx_iload dL_randomKite_101 rfl ?_
      refine bx_iload dL_randomKite_103 rfl ?_
      refine bx_if_eq (tgt := 123) dL_randomKite_105 (by decide) (by omega) (fun q105 => ?_) (fun q105 => ?_)
      · refine bx_aload_n dL_randomKite_123 rfl ?_
        refine bx_getf dL_randomKite_124 ck7 fg_KitePainterLaw_122 (by decide) hB.kf rfl ?_
        refine bx_iconst dL_randomKite_127 ?_
        refine bx_idiv dL_randomKite_128 (by omega) (by omega) ?_
        rw [show ((K 0 : Int) / 2) = ((K 0 / 2 : Nat) : Int) by omega]
        refine bx_iasr (j := y) dL_randomKite_129 ha rfl (by omega) (by omega) (fun e129 he129 => ?_)
        refine gx_gen (fun g9 q9 => ?_)
        have F9 : FRM h g9 (fun x => x = a4) := by rw [q9]; exact FRM.u1 rfl
        have B9 := (hB).af ha F9 nw nm nb
        have A9 : rwI 0 (g9 a4) (K 1) (fun i => ((if i = y then K 0 / 2 else f i : Nat) : Int)) := (he129.mv (show g9 a4 = some e129 by rw [q9]; exact ug_eq)).cong (fun i hi => by
          unfold upZ
          by_cases z : i = y
          · rw [if_pos z, if_pos z]
          · rw [if_neg z, if_neg z])
        refine bx_iinc dL_randomKite_130 rfl rfl (by decide) rfl ?_
        refine bx_goto (tgt := 90) dL_randomKite_133 (by decide) ?_
        exact ih (y + 1) _ g9 (fun i => if i = y then K 0 / 2 else f i) (by omega) B9 A9 (fun i hi => by
          by_cases z : i = y
          · simp only [if_pos z]
            exact ⟨Nat.le_refl _, fun _ => trivial⟩
          · simp only [if_neg z]
            exact hf i (by omega))
      · refine bx_aload_n dL_randomKite_108 rfl ?_
        refine bx_aload_n dL_randomKite_109 rfl ?_
        refine bx_getf dL_randomKite_110 ck7 fg_KitePainterLaw_122 (by decide) hB.kf rfl ?_
        refine bx_iconst dL_randomKite_113 ?_
        refine bx_idiv dL_randomKite_114 (by omega) (by omega) ?_
        rw [show ((K 0 : Int) / 2) = ((K 0 / 2 : Nat) : Int) by omega]
        refine bx_iconst dL_randomKite_115 ?_
        refine bx_iadd dL_randomKite_116 ?_
        obtain ⟨sR2, hsR2⟩ := hB.rnd
        rw [show (((K 0 / 2 : Nat) : Int) + 1) = ((K 0 / 2 + 1 : Nat) : Int) by omega]
        refine bx_cv1 dL_randomKite_117 ln_L_randomKite_117 (Nat.le_of_ble_eq_true rfl) (by decide) hsR2 rfl (Nat.zero_le _) (Nat.zero_le _) (kr_below hsR2 (b := K 0 / 2 + 1) (by omega)) (fun v2 u2 h2 hq2 => ?_)
        obtain ⟨rfl, ⟨z2, hz2, rfl⟩, s12, hh2⟩ := hq2
        have F2 : FRM h h2 (fun x => x = r) := by rw [hh2]; exact FRM.u1 rfl
        have B2 := hB.rf F2 ⟨s12, by rw [hh2]; exact ug_eq⟩
        have A2 := ha.fr F2 (ha.no hsR2)
        refine bx_goto (tgt := 129) dL_randomKite_120 (by decide) ?_
        refine bx_iasr (j := y) dL_randomKite_129 A2 rfl (by omega) (by omega) (fun e129 he129 => ?_)
        refine gx_gen (fun g9 q9 => ?_)
        have F9 : FRM h2 g9 (fun x => x = a4) := by rw [q9]; exact FRM.u1 rfl
        have B9 := (B2).af A2 F9 nw nm nb
        have A9 : rwI 0 (g9 a4) (K 1) (fun i => ((if i = y then z2 else f i : Nat) : Int)) := (he129.mv (show g9 a4 = some e129 by rw [q9]; exact ug_eq)).cong (fun i hi => by
          unfold upZ
          by_cases z : i = y
          · rw [if_pos z, if_pos z]
          · rw [if_neg z, if_neg z])
        refine bx_iinc dL_randomKite_130 rfl rfl (by decide) rfl ?_
        refine bx_goto (tgt := 90) dL_randomKite_133 (by decide) ?_
        exact ih (y + 1) _ g9 (fun i => if i = y then z2 else f i) (by omega) B9 A9 (fun i hi => by
          by_cases z : i = y
          · simp only [if_pos z]
            exact ⟨by omega, fun q => by omega⟩
          · simp only [if_neg z]
            exact hf i (by omega))
theorem kt_random (hW : WB u h b K0 H d e []) (hRn : RND h r) : Gl ad sc 1000 10000 M_L_randomKite [.ref (ad 0), .ref b, .ref r] u h (RKQ b r K0 H d) := by
  have l19 : (litL 19).length = 1 := by decide +kernel
  have l0 : (litL 0).length = 4 := by decide +kernel
  refine gx_new (fs := df_7) ck7 cg_KitePainterLaw_114 ist_7 ini_7 dv_7 (by omega) (by omega) dL_randomKite_0 (fun k hk => ?_)
  refine bx_dup dL_randomKite_3 rfl ?_
  refine bx_cn0 dL_randomKite_4 ln_L_randomKite_116 (Nat.le_of_ble_eq_true rfl) (by omega) (by omega) (kt_init ug_eq) (fun u9 h9 hq9 => ?_)
  obtain ⟨-, rfl, w, m, p, cl, hN⟩ := hq9
  obtain ⟨n1, n2, n3, n4, n5, n6, n7, n8, n9, n10, n11⟩ := hN
  obtain ⟨sR, hsR⟩ := hRn
  have kr : r ≠ k := KN.ne ⟨_, hsR⟩ hk
  have kb : b ≠ k := hW.2.1.kn.ne hk
  have F9 : FRM h h9 (fun _ => False) := fun x e hx _ => n7 x e (by rw [ug_ne (KN.ne ⟨_, hx⟩ hk)]; exact hx) (KN.ne ⟨_, hx⟩ hk)
  have nwb : w ≠ b := fun z => by
    have y := n8
    rw [z, ug_ne kb] at y
    exact absurd rfl (hW.2.1.kn.ne y)
  have nmb : ∀ j, j < 8 → m + j ≠ b ∧ m + j ≠ w := fun j hj => ⟨fun z => by
      have y := (n9 j hj).1
      rw [z, ug_ne kb] at y
      exact absurd rfl (hW.2.1.kn.ne y), (n9 j hj).2⟩
  have B9 : Bn false u9 h9 b r k w m p cl (fun _ => 0) (freshK 5 5) K0 H d e [] := ⟨⟨n1, n2, n3, fun a ha => (n4 a ha).cong (fun i hi => by
      have : freshK 5 5 (25 + (a * 7 + i)) = 0 := by unfold freshK; rw [if_neg (by omega), if_neg (by omega), if_neg (by omega), if_neg (by omega), if_neg (by omega), if_neg (by omega)]
      rw [this]; rfl)⟩, fun q => absurd q (by decide), hW.fr F9 (fun z => z), ⟨sR, F9 _ _ hsR (fun z => z)⟩, nwb, nmb⟩
  refine bx_astore_n dL_randomKite_7 rfl (by decide) rfl ?_
  refine bx_aload_n dL_randomKite_8 rfl ?_
  refine bx_iconst dL_randomKite_9 ?_
  refine bx_iconst dL_randomKite_10 ?_
  refine bx_aload_n dL_randomKite_11 rfl ?_
  refine bx_iconst dL_randomKite_12 ?_
  obtain ⟨sR2, hsR2⟩ := B9.rnd
  refine bx_cv1 dL_randomKite_13 ln_L_randomKite_117 (Nat.le_of_ble_eq_true rfl) (by decide) hsR2 rfl (Nat.zero_le _) (Nat.zero_le _) (kr_below hsR2 (b := 4) (by decide)) (fun v2 u2 h2 hq2 => ?_)
  obtain ⟨rfl, ⟨z2, hz2, rfl⟩, s12, hh2⟩ := hq2
  have F2 : FRM h9 h2 (fun x => x = r) := by rw [hh2]; exact FRM.u1 rfl
  have B2 := B9.rf F2 ⟨s12, by rw [hh2]; exact ug_eq⟩
  refine bx_imul dL_randomKite_16 ?_
  refine bx_iadd dL_randomKite_17 ?_
  refine bx_putf dL_randomKite_18 ck7 fg_KitePainterLaw_122 (by decide) B2.kf rfl ⟨rfl, rfl⟩ (Nat.le_of_ble_eq_true rfl) rfl ?_
  refine gx_gen (fun g3 q3 => ?_)
  have B3 : Bn false u2 g3 b r k w m p cl (fun _ => 0) (upN (freshK 5 5) 0 (1 + 2 * z2)) K0 H d e [] := by
    rw [q3]
    exact B2.kf0 (fun j h1 h2 => up_ne (by omega)) (by
      show _ = kiteF (upN (freshK 5 5) 0 (1 + 2 * z2)) w m p cl
      unfold kiteF
      rw [up_same]
      rw [show (((1 + 2 * z2 : Nat) : Int)) = 1 + 2 * (z2 : Int) by omega]
      rfl)
  refine bx_aload_n dL_randomKite_21 rfl ?_
  refine bx_iconst dL_randomKite_22 ?_
  refine bx_aload_n dL_randomKite_23 rfl ?_
  refine bx_bipush dL_randomKite_24 (by decide) ?_
  obtain ⟨sR4, hsR4⟩ := B3.rnd
  refine bx_cv1 dL_randomKite_26 ln_L_randomKite_117 (Nat.le_of_ble_eq_true rfl) (by decide) hsR4 rfl (Nat.zero_le _) (Nat.zero_le _) (kr_below hsR4 (b := 6) (by decide)) (fun v4 u4 h4 hq4 => ?_)
  obtain ⟨rfl, ⟨z4, hz4, rfl⟩, s14, hh4⟩ := hq4
  have F4 : FRM g3 h4 (fun x => x = r) := by rw [hh4]; exact FRM.u1 rfl
  have B4 := B3.rf F4 ⟨s14, by rw [hh4]; exact ug_eq⟩
  refine bx_iadd dL_randomKite_29 ?_
  refine bx_putf dL_randomKite_30 ck7 fg_KitePainterLaw_126 (by decide) B4.kf rfl ⟨rfl, rfl⟩ (Nat.le_of_ble_eq_true rfl) rfl ?_
  refine gx_gen (fun g5 q5 => ?_)
  have B5 : Bn false u4 g5 b r k w m p cl (fun _ => 0) (freshK (1 + 2 * z2) (1 + z4)) K0 H d e [] := by
    rw [q5]
    refine (B4.kf0 (K' := upN (upN (freshK 5 5) 0 (1 + 2 * z2)) 1 (1 + z4)) (fun j h1 h2 => by rw [up_ne (by omega)]) (by
      show _ = kiteF (upN (upN (freshK 5 5) 0 (1 + 2 * z2)) 1 (1 + z4)) w m p cl
      unfold kiteF
      rw [up_same, up_ne (by decide), up_same]
      rw [show (((1 + z4 : Nat) : Int)) = 1 + (z4 : Int) by omega]
      rfl)).kz (fun j hj => ?_) (fun j h1 h2 => ?_)
    · match j, hj with
      | 0, _ => rfl
      | 1, _ => rfl
      | 2, _ => rfl
      | 3, _ => rfl
      | 4, _ => rfl
    · rw [up_ne (by omega), up_ne (by omega)]
      rw [fresh_hi h1, fresh_hi h1]
  have e0 : freshK (1 + 2 * z2) (1 + z4) 0 = 1 + 2 * z2 := rfl
  have e1 : freshK (1 + 2 * z2) (1 + z4) 1 = 1 + z4 := rfl
  refine bx_aload_n dL_randomKite_33 rfl ?_
  refine bx_aload_n dL_randomKite_34 rfl ?_
  refine gx_ldcS (j := 0) (tx := "kite") (by decide) dL_randomKite_35 ?_
  refine bx_iconst dL_randomKite_37 ?_
  refine bx_newa (N := 2) dL_randomKite_38 (Or.inl ⟨rfl, rfl⟩) rfl (by omega) (by omega) (by omega) (fun a6 ea6 ha6 hea6 => ?_)
  refine bx_dup dL_randomKite_40 rfl ?_
  refine bx_iconst dL_randomKite_41 ?_
  refine bx_aload_n dL_randomKite_42 rfl ?_
  refine bx_getf dL_randomKite_43 ck7 fg_KitePainterLaw_122 (by decide) ((ug_ne (KN.ne ⟨_, B5.kf⟩ ha6)).trans B5.kf) rfl ?_
  refine bx_iasr (j := 0) dL_randomKite_46 (hea6.mv ug_eq) rfl (by decide) (by omega) (fun e46 he46 => ?_)
  rw [up_up]
  refine bx_dup dL_randomKite_47 rfl ?_
  refine bx_iconst dL_randomKite_48 ?_
  refine bx_aload_n dL_randomKite_49 rfl ?_
  refine bx_getf dL_randomKite_50 ck7 fg_KitePainterLaw_126 (by decide) ((ug_ne (KN.ne ⟨_, B5.kf⟩ ha6)).trans B5.kf) rfl ?_
  refine bx_iasr (j := 1) dL_randomKite_53 (he46.mv ug_eq) rfl (by decide) (by omega) (fun e53 he53 => ?_)
  rw [up_up]
  refine gx_gen (fun g6 q6 => ?_)
  have F6 : FRM g5 g6 (fun _ => False) := by rw [q6]; exact FRM.new ha6
  have A6 : rwI 0 (g6 a6) 2 (fun i => (f2x (1 + 2 * z2) (1 + z4) i : Int)) := a2x (he53.mv (show g6 a6 = some e53 by rw [q6]; exact ug_eq))
  have B6 := B5.n F6
  have nb6 : a6 ≠ b := (B5.bf.kn.ne ha6).symm
  have hf9 : ∀ i, i < 2 → f2x (1 + 2 * z2) (1 + z4) i < 100 := fun i hi => by unfold f2x; split <;> omega
  refine bx_csv4 dL_randomKite_54 ln_L_randomKite_131 (Nat.le_of_ble_eq_true rfl) rfl (Nat.zero_le _) (Nat.zero_le _) (kw_all (j := 0) (by decide) A6 (by decide) nb6 hf9 B6.wb (by rw [l0]; decide)) (fun u7 h7 hq7 => ?_)
  obtain ⟨-, hW7, hF7⟩ := hq7
  have B7 := B6.wt hW7 hF7
  have n1 := num_len (f := f2x (1 + 2 * z2) (1 + z4)) (n := 2)
  refine bx_aload_n dL_randomKite_57 rfl ?_
  refine bx_aload_n dL_randomKite_58 rfl ?_
  refine gx_ldcS (j := 19) (tx := ";") (by decide) dL_randomKite_59 ?_
  refine bx_csv3 dL_randomKite_61 ln_L_randomKite_105 (Nat.le_of_ble_eq_true rfl) rfl (Nat.zero_le _) (Nat.zero_le _) (kw_lit (j := 19) (by decide) B7.wb (by rw [List.length_append, List.length_append, l0, l19]; show 0 + _ + _ ≤ _; omega)) (fun u8 h8 hq8 => ?_)
  obtain ⟨-, hW8, hF8⟩ := hq8
  have B8 := B7.wt hW8 hF8
  rw [sm_eq] at B8
  rw [List.nil_append] at B8
  have R8 : RDs (smL 0 (f2x (1 + 2 * z2) (1 + z4)) 2) (freshK (1 + 2 * z2) (1 + z4)) 0 0 0 0 := rd_kite (f := f2x (1 + 2 * z2) (1 + z4)) (show 1 ≤ 1 + 2 * z2 ∧ 1 + 2 * z2 ≤ 15 ∧ (1 + 2 * z2) % 2 = 1 by omega) (show 1 ≤ 1 + z4 ∧ 1 + z4 ≤ 12 by omega)
  have el := sm_len (j := 0) (f := f2x (1 + 2 * z2) (1 + z4)) (N := 2)
  rw [l0] at el
  refine bx_aload_n dL_randomKite_64 rfl ?_
  refine bx_getf dL_randomKite_65 ck7 fg_KitePainterLaw_126 (by decide) B8.kf rfl ?_
  refine bx_newa (N := 1 + z4) dL_randomKite_68 (Or.inl ⟨rfl, rfl⟩) rfl (by omega) (by omega) (by omega) (fun a4 ea4 ha4 hea4 => ?_)
  refine gx_gen (fun g10 q10 => ?_)
  have F10 : FRM h8 g10 (fun _ => False) := by rw [q10]; exact FRM.new ha4
  have B10 := B8.n F10
  have A10 := hea4.mv (show g10 a4 = some ea4 by rw [q10]; exact ug_eq)
  have nw4 : w ≠ a4 := B8.wr.kn.ne ha4
  have nm4 : ∀ j, j < 8 → m + j ≠ a4 := fun j hj => by
    by_cases z : j = 0
    · subst z; exact B8.mr.kn.ne ha4
    · have := (B8.mx (a := j - 1) (by omega)).kn.ne ha4
      rw [show m + 1 + (j - 1) = m + j by omega] at this
      exact this
  have nb4 : b ≠ a4 := B8.bf.kn.ne ha4
  refine bx_astore dL_randomKite_70 rfl (by decide) rfl ?_
  refine bx_aload_n dL_randomKite_72 rfl ?_
  refine bx_iconst dL_randomKite_73 ?_
  obtain ⟨sR11, hsR11⟩ := B10.rnd
  refine bx_cv1 dL_randomKite_74 ln_L_randomKite_117 (Nat.le_of_ble_eq_true rfl) (by decide) hsR11 rfl (Nat.zero_le _) (Nat.zero_le _) (kr_below hsR11 (b := 3) (by decide)) (fun v11 u11 h11 hq11 => ?_)
  obtain ⟨rfl, ⟨z11, hz11, rfl⟩, s111, hh11⟩ := hq11
  have F11 : FRM g10 h11 (fun x => x = r) := by rw [hh11]; exact FRM.u1 rfl
  have B11 := B10.rf F11 ⟨s111, by rw [hh11]; exact ug_eq⟩
  have A11 := A10.fr F11 (A10.no hsR11)
  refine bx_if_le (tgt := 84) dL_randomKite_77 (by decide) (by omega) (fun q77 => ?_) (fun q77 => ?_)
  · refine bx_iconst dL_randomKite_84 ?_
    refine bx_istore dL_randomKite_85 rfl (by decide) rfl ?_
    refine bx_iconst dL_randomKite_87 ?_
    refine bx_istore dL_randomKite_88 rfl (by decide) rfl ?_
    exact rk_90 (tl := 0) (by omega) R8 nw4 nm4 nb4 (fun j hj => by unfold freshK; rw [if_neg (by omega), if_neg (by omega), if_neg (by omega), if_neg (by omega), if_neg (by omega), if_neg (by omega)]) rfl (fun y hy => by rw [e0]; unfold freshK; rw [if_neg (by omega), if_neg (by omega), if_neg (by omega), if_neg (by omega), if_pos (by omega)]) (by rw [e0, e1]; omega) (by omega) (by omega) (by omega) (1 + z4) 0 u11 h11 (fun _ => 0) (by rw [e1]; omega) B11 A11 (fun i hi => absurd hi (Nat.not_lt_zero _))
  · refine bx_iconst dL_randomKite_80 ?_
    refine bx_goto (tgt := 85) dL_randomKite_81 (by decide) ?_
    refine bx_istore dL_randomKite_85 rfl (by decide) rfl ?_
    refine bx_iconst dL_randomKite_87 ?_
    refine bx_istore dL_randomKite_88 rfl (by decide) rfl ?_
    exact rk_90 (tl := 1) (by omega) R8 nw4 nm4 nb4 (fun j hj => by unfold freshK; rw [if_neg (by omega), if_neg (by omega), if_neg (by omega), if_neg (by omega), if_neg (by omega), if_neg (by omega)]) rfl (fun y hy => by rw [e0]; unfold freshK; rw [if_neg (by omega), if_neg (by omega), if_neg (by omega), if_neg (by omega), if_pos (by omega)]) (by rw [e0, e1]; omega) (by omega) (by omega) (by omega) (1 + z4) 0 u11 h11 (fun _ => 0) (by rw [e1]; omega) B11 A11 (fun i hi => absurd hi (Nat.not_lt_zero _))
end RW
