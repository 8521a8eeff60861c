/-! THE KITE: washes, ticks, stamps -/
theorem mut_arr {h : hg} {k w m p cl : Nat} {ce K : Nat → Nat} (hT : KT h k w m p cl ce K) {b : Nat} {e} (hb : h b = some (.inl e)) : ¬ mutD K k ce b := fun hd => by
  rcases hd with rfl | ⟨i, h1, h2, rfl⟩
  · rw [hT.1] at hb; cases hb
  · rw [hT.2.2 i h1 h2] at hb; cases hb
theorem mut_str {h : hg} {k w m p cl : Nat} {ce K : Nat → Nat} (hT : KT h k w m p cl ce K) {b : Nat} {x : List Value} (hb : h b = some (.inr (9, x))) : ¬ mutD K k ce b := fun hd => by
  rcases hd with rfl | ⟨i, h1, h2, rfl⟩
  · rw [hT.1] at hb; cases hb
  · rw [hT.2.2 i h1 h2] at hb; cases hb
theorem rwI.fr {h h1 : hg} {D : Nat → Prop} {t a n : Nat} {f : Nat → Int} (hr : rwI t (h a) n f) (hF : FRM h h1 D) (hd : ¬ D a) : rwI t (h1 a) n f := by
  obtain ⟨g, e, z⟩ := hr
  exact ⟨g, hF a _ e hd, z⟩
theorem rwQ.fr {h h1 : hg} {D : Nat → Prop} {t a n : Nat} {f : Nat → Option Nat} (hr : rwQ t (h a) n f) (hF : FRM h h1 D) (hd : ¬ D a) : rwQ t (h1 a) n f := by
  obtain ⟨g, e, z⟩ := hr
  exact ⟨g, hF a _ e hd, z⟩
theorem rwI.nm {h : hg} {k w m p cl t a n : Nat} {ce K : Nat → Nat} {f : Nat → Int} (hr : rwI t (h a) n f) (hT : KT h k w m p cl ce K) : ¬ mutD K k ce a := by
  obtain ⟨g, e, z⟩ := hr
  exact mut_arr hT e
theorem rwQ.nm {h : hg} {k w m p cl t a n : Nat} {ce K : Nat → Nat} {f : Nat → Option Nat} (hr : rwQ t (h a) n f) (hT : KT h k w m p cl ce K) : ¬ mutD K k ce a := by
  obtain ⟨g, e, z⟩ := hr
  exact mut_arr hT e
def cutN (N : Nat → Int) (q : Nat) : Nat → Int := fun j => if j < q then N j else 0
theorem cut_ne {N : Nat → Int} {q x : Nat} (h : x ≠ q) : cutN N q x = cutN N (q + 1) x := by
  unfold cutN
  by_cases z : x < q
  · rw [if_pos z, if_pos (by omega)]
  · rw [if_neg z, if_neg (by omega)]
theorem cut_st0 {K : Nat → Nat} {N : Nat → Int} {q : Nat} (h : N q ≠ 1) : wshK K (cutN N q) = wshK K (cutN N (q + 1)) := wsh_cong (fun j hj => by
  by_cases z : j = q
  · subst z
    unfold cutN
    rw [if_neg (by omega), if_pos (by omega)]
    exact ⟨fun z => absurd z (by decide), fun z => absurd z h⟩
  · rw [cut_ne z])
theorem cut_st1 {K : Nat → Nat} {N : Nat → Int} {q : Nat} (h : N q = 1) (hq : q < 180) : setC (wshK K (cutN N q)) q 0 0 = wshK K (cutN N (q + 1)) := by
  have hc : cutN N (q + 1) q = 1 := by unfold cutN; rw [if_pos (by omega)]; exact h
  funext j
  unfold setC
  by_cases a : j = 254 + q
  · subst a
    rw [up_same, wsh_w (by omega), show 254 + q - 254 = q by omega, if_pos hc]
  · rw [up_ne a]
    by_cases b : j = 74 + q
    · subst b
      rw [up_same, wsh_c (by omega), show 74 + q - 74 = q by omega, if_pos hc]
    · rw [up_ne b]
      by_cases c1 : 74 ≤ j ∧ j < 254
      · rw [wsh_c c1, wsh_c c1, cut_ne (by omega)]
      · by_cases c2 : 254 ≤ j ∧ j < 434
        · rw [wsh_w c2, wsh_w c2, cut_ne (by omega)]
        · rw [wsh_lo (by omega), wsh_lo (by omega)]
theorem cut_0 {K : Nat → Nat} {N : Nat → Int} : wshK K (cutN N 0) = K := wsh_0 (fun j hj => by unfold cutN; rw [if_neg (by omega)]; decide)
theorem conn_on {K : Nat → Nat} (hK : KI K) {c j : Nat} (h : conn K c j) (hc : c < nC K ∧ on K c = true) : j < nC K ∧ on K j = true := h (fun x => x < nC K ∧ on K x = true) hc (fun a b _ hb => by
  obtain ⟨w, -, w2, -⟩ := hb
  exact nb_on hK w2)
theorem dfs_end {K : Nat → Nat} (hK : KI K) {c : Nat} {N : Nat → Int} (hc : c < nC K) (h : dfsP K c (fun _ => 0) N) : mkEnd K c (fun _ => 0) (cutN N (nC K)) ∧ si (cutN N (nC K)) 180 = si N (nC K) := by
  have hn := nC_le hK
  obtain ⟨a1, a2, a3, a4⟩ := h
  have cp : ∀ {j}, j < nC K → cutN N (nC K) j = N j := fun hj => if_pos hj
  have cn : ∀ {j}, ¬ j < nC K → cutN N (nC K) j = 0 := fun hj => if_neg hj
  refine ⟨⟨fun j hj => ?_, fun a b ha h1 hb => ?_, fun j hj => ⟨fun z => ?_, fun z => ?_⟩⟩, ?_⟩
  · by_cases q : j < nC K
    · rw [cp q]; exact a1 j q
    · exact Or.inl (cn q)
  · by_cases q : a < nC K
    · rw [cp q] at h1
      obtain ⟨w, w1, w2, w3⟩ := hb
      rw [cp (nb_on hK w2).1]
      exact (a4 a q h1 rfl).2 b ⟨w, w1, w2, w3⟩
    · rw [cn q] at h1; exact absurd h1 (by decide)
  · by_cases q : j < nC K
    · rw [cp q] at z; exact Or.inr (a4 j q z rfl).1
    · rw [cn q] at z; exact absurd z (by decide)
  · rcases z with z | z
    · exact absurd (show (0 : Int) = 1 from z) (by decide)
    · have := z (fun x => x < nC K ∧ N x = 1) ⟨hc, a3⟩ (fun a b ha hb => by
        obtain ⟨w, w1, w2, w3⟩ := hb
        exact ⟨(nb_on hK w2).1, (a4 a ha.1 ha.2 rfl).2 b ⟨w, w1, w2, w3⟩⟩)
      rw [cp this.1]; exact this.2
  · rw [si_skip (a := nC K) hn (fun k h1 _ => cn (by omega))]
    exact si_cong (fun k hk => cp hk)
section TC
variable {K K' : Nat → Nat}
theorem mix_cg (h : ∀ j, j ≠ 2 → K' j = K j) (a c : Nat) : mixN K' a c = mixN K a c := by
  have h25 : ∀ i, K' (25 + i) = K (25 + i) := fun i => h _ (by omega)
  simp only [mixN, h25]
theorem blT_cg (h : ∀ j, j ≠ 2 → K' j = K j) (i : Nat) : blT K' i = blT K i := by
  have h0 := h 0 (by decide)
  have h1 := h 1 (by decide)
  have h6 : ∀ y, K' (6 + y) = K (6 + y) := fun y => h _ (by omega)
  have h74 : ∀ i, K' (74 + i) = K (74 + i) := fun i => h _ (by omega)
  have h254 : ∀ i, K' (254 + i) = K (254 + i) := fun i => h _ (by omega)
  have h434 : ∀ i, K' (434 + i) = K (434 + i) := fun i => h _ (by omega)
  have hon : ∀ x y, onZ K' x y = onZ K x y := by intro x y; simp only [onZ, h0, h1, h6]
  have hsc : ∀ n, scN K' n = scN K n := by intro n; simp only [scN, h74, h254]
  have hpk : ∀ i b x y, pkN K' i b x y = pkN K i b x y := by intro i b x y; simp only [pkN, hon, h0, h254, h434, hsc]
  have hsr : ∀ x y, srcN K' x y = srcN K x y := by intro x y; simp only [srcN, hpk, h0]
  have hbl : ∀ x y, blN K' x y = blN K x y := by intro x y; simp only [blN, hsr, h0, h74, h254, h434]
  have ho2 : on K' i = on K i := by simp only [on, hon, h0]
  have hb2 : blC K' i = blC K i := by simp only [blC, hbl, h0]
  unfold blT
  rw [ho2, hb2]
theorem tikW_cg (h : ∀ j, j ≠ 2 → K' j = K j) {j : Nat} (hj : j ≠ 2) : tikW K' j = tikW K j := by
  have h74 : ∀ i, K' (74 + i) = K (74 + i) := fun i => h _ (by omega)
  have h254 : ∀ i, K' (254 + i) = K (254 + i) := fun i => h _ (by omega)
  simp only [tikW, colT, wetT, halT, blT_cg h, mix_cg h, h74, h254, h j hj]
theorem bleC_cg (h : ∀ j, j ≠ 2 → K' j = K j) : bleC K' = bleC K := by
  simp only [bleC, nC, h 0 (by decide), h 1 (by decide)]
  exact si_cong (fun k _ => by simp only [cfB, blT_cg h])
theorem tik_2 (v : Nat) : tikW (upN K 2 v) = upN (tikW K) 2 v := by
  funext j
  by_cases q : j = 2
  · subst q; rw [up_same, tikW_lo (by decide), up_same]
  · rw [up_ne q, tikW_cg (fun j hj => up_ne hj) q]
theorem ble_2 (v : Nat) : bleC (upN K 2 v) = bleC K := bleC_cg (fun j hj => up_ne hj)
theorem tikN_eq : tikN K = upN (tikW K) 2 (K 2 + 1) := by
  funext j
  unfold tikN upN tikW
  by_cases q : j = 2
  · rw [if_pos q]
  · rw [if_neg q]
theorem un_un {i v w : Nat} : upN (upN K i v) i w = upN K i w := by
  funext j; unfold upN; split <;> rfl
theorem fot_0 : fotK K 0 = K := by
  funext j; show upN K 2 (K 2 + 0) j = K j
  unfold upN; split
  · subst j; rfl
  · rfl
theorem fot_s (T : Nat) : tikN (fotK K T) = fotK K (T + 1) := by
  rw [tikN_eq]
  unfold fotK
  rw [tik_2, un_un, up_same]
  rfl
theorem ble_fot (T : Nat) : bleC (fotK K T) = bleC (twI K T) := ble_2 _
end TC
section KH
variable {ad : Nat → Nat} {sc : Nat × (Nat → Int32)} {u : hp} {h : hg} {Q : qg} {k w m p cl : Nat} {ce : Nat → Nat} {K : Nat → Nat} {c sl : Nat}
theorem kl_wash {v1 : Value} {v3 : Int32} {r : Nat} {N : Nat → Int} {h0 : hg} (hK : KI K) (hT0 : KT h0 k w m p cl ce K) (hr0 : rwI 2 (h0 r) (nC K) N) (hN : z01 K N) (hon : ∀ j, j < nC K → N j = 1 → on K j = true) (kk : ∀ h1, KT h1 k w m p cl ce (wshK K (cutN N (nC K))) → FRM h0 h1 (mutD K k ce) → Gx ad sc M_X7_washes 55 [.ref k, v1, .ref r, .int v3, .int (I (nC K : Int))] [] c sl u h1 Q) : ∀ (n q : Nat) (h1 : hg), q + n = nC K → KT h1 k w m p cl ce (wshK K (cutN N q)) → FRM h0 h1 (mutD K k ce) → Gx ad sc M_X7_washes 18 [.ref k, v1, .ref r, .int v3, .int (I (q : Int))] [] c sl u h1 Q := by
  have hn9 := nC_le hK
  have k0 := hK.1
  intro n
  induction n with
  | zero =>
    intro q h1 hq hT hF
    have hg : geo K (wshK K (cutN N q)) := geo.of (fun j hj => wsh_lo (by omega))
    have hT2 := hT.2.1
    rw [hg.gn] at hT2
    refine bx_iload dX7_washes_18 rfl ?_
    refine bx_aload_n dX7_washes_20 rfl ?_
    refine bx_getf dX7_washes_21 ck7 fg_KitePainterLaw_Kite_39 (by decide) hT.1 rfl ?_
    refine bx_alnq dX7_washes_24 hT2 (by decide) ?_
    refine bx_icmp_ge (tgt := 55) dX7_washes_25 (by decide) (by omega) (by omega) (fun c25 => ?_) (fun c25 => ?_)
    · obtain rfl : q = nC K := by omega
      exact kk h1 hT hF
    · exfalso
      omega
  | succ n ih =>
    intro q h1 hq hT hF
    have hg : geo K (wshK K (cutN N q)) := geo.of (fun j hj => wsh_lo (by omega))
    have hT2 := hT.2.1
    rw [hg.gn] at hT2
    have hr := hr0.fr hF (hr0.nm hT0)
    have hq9 := hN q (by omega)
    refine bx_iload dX7_washes_18 rfl ?_
    refine bx_aload_n dX7_washes_20 rfl ?_
    refine bx_getf dX7_washes_21 ck7 fg_KitePainterLaw_Kite_39 (by decide) hT.1 rfl ?_
    refine bx_alnq dX7_washes_24 hT2 (by decide) ?_
    refine bx_icmp_ge (tgt := 55) dX7_washes_25 (by decide) (by omega) (by omega) (fun c25 => ?_) (fun c25 => ?_)
    · exfalso
      omega
    · refine bx_aload_n dX7_washes_28 rfl ?_
      refine bx_iload dX7_washes_29 rfl ?_
      refine bx_zalr (j := q) dX7_washes_31 hr rfl (by omega) (by omega) rfl ?_
      refine bx_if_eq (tgt := 49) dX7_washes_32 (by decide) (by omega) (fun q32 => ?_) (fun q32 => ?_)
      · refine bx_iinc dX7_washes_49 rfl rfl (by decide) rfl ?_
        refine bx_goto (tgt := 18) dX7_washes_52 (by decide) ?_
        first
          | exact ih (q + 1) h1 (by omega) (by rw [← cut_st0 (by omega)]; exact hT) hF
          | (obtain ⟨rfl, hT3, hF3⟩ := hq8; exact ih (q + 1) h8 (by omega) (by rw [← cut_st1 (by omega) (by omega)]; exact hT3) (hF.tr (hF3.wk (fun b hb => mutD.geo hK hg hb))))
      · have ho9 := hon q (by omega) (by omega)
        have honq : on (wshK K (cutN N q)) q = true := by rw [hg.go hK (by omega)]; exact ho9
        refine bx_aload_n dX7_washes_35 rfl ?_
        refine bx_aload_n dX7_washes_36 rfl ?_
        refine bx_getf dX7_washes_37 ck7 fg_KitePainterLaw_Kite_39 (by decide) hT.1 rfl ?_
        refine bx_iload dX7_washes_40 rfl ?_
        refine bx_aals (j := q) (q := ce q) dX7_washes_42 hT2 (by decide) rfl (by omega) (by omega) (if_pos honq) ?_
        refine bx_iconst dX7_washes_43 ?_
        refine bx_iconst dX7_washes_44 ?_
        refine bx_iconst dX7_washes_45 ?_
        refine bx_cvv4 dX7_washes_46 ln_X7_washes_127 (Nat.le_of_ble_eq_true rfl) rfl hT.1 rfl (Nat.zero_le _) (Nat.zero_le _) (kt_paints0 (c := 0) (sl := 0) (c9 := 0) (w9 := 0) hT hK.wsh (by rw [hg.gn]; omega) honq) (fun u8 h8 hq8 => ?_)
        refine bx_iinc dX7_washes_49 rfl rfl (by decide) rfl ?_
        refine bx_goto (tgt := 18) dX7_washes_52 (by decide) ?_
        first
          | exact ih (q + 1) h1 (by omega) (by rw [← cut_st0 (by omega)]; exact hT) hF
          | (obtain ⟨rfl, hT3, hF3⟩ := hq8; exact ih (q + 1) h8 (by omega) (by rw [← cut_st1 (by omega) (by omega)]; exact hT3) (hF.tr (hF3.wk (fun b hb => mutD.geo hK hg hb))))
theorem kt_washes (hT : KT h k w m p cl ce K) (hK : KI K) {i : Nat} (hi : i < nC K) (hon : on K i = true) : Gl ad sc 1 180 M_X7_washes [.ref k, .ref (ce i)] u h (fun v u1 h1 => ∃ N : Nat → Int, v = .int (I (si N 180)) ∧ u1 = u ∧ mkEnd K i (fun _ => 0) N ∧ KT h1 k w m p cl ce (wshK K N) ∧ FRM h h1 (mutD K k ce)) := by
  have hn9 := nC_le hK
  have k0 := hK.1
  refine bx_aload_n dX7_washes_0 rfl ?_
  refine bx_getf dX7_washes_1 ck7 fg_KitePainterLaw_Kite_39 (by decide) hT.1 rfl ?_
  refine bx_alnq dX7_washes_4 hT.2.1 (by decide) ?_
  refine bx_newa (N := nC K) dX7_washes_5 (Or.inr (Or.inr ⟨rfl, rfl⟩)) rfl (by omega) (by omega) (by omega) (fun r er hr her => ?_)
  refine gx_gen (fun g1 q1 => ?_)
  have F1 : FRM h g1 (fun _ => False) := by rw [q1]; exact FRM.new hr
  have hT1 : KT g1 k w m p cl ce K := hT.frm F1 (fun z => z) (fun z => z) (fun _ _ _ z => z)
  have r1 : rwI 2 (g1 r) (nC K) (fun _ => 0) := her.mv (by rw [q1]; exact ug_eq)
  have s0 : si (fun _ => 0) (nC K) = 0 := by
    have := si_skip (f := fun _ => 0) (a := 0) (b := nC K) (Nat.zero_le _) (fun _ _ _ => rfl)
    exact this
  refine bx_astore_n dX7_washes_7 rfl (by decide) rfl ?_
  refine bx_aload_n dX7_washes_8 rfl ?_
  refine bx_aload_n dX7_washes_9 rfl ?_
  refine bx_aload_n dX7_washes_10 rfl ?_
  refine bx_cv2 dX7_washes_11 ln_X7_washes_123 (Nat.le_of_ble_eq_true rfl) (by decide) hT1.1 rfl (Nat.zero_le _) (Nat.zero_le _) (kt_marks hK 180 hT1 r1 (fun _ _ => Or.inl rfl) (by rw [s0]; omega) hi hon) (fun v9 u9 h9 hq9 => ?_)
  obtain ⟨N, n1, rfl, rfl, F2, r2, P2, hn1⟩ := hq9
  have hT2 : KT h9 k w m p cl ce K := hT1.frr r1 F2
  obtain ⟨he1, he2⟩ := dfs_end hK hi P2
  have en : n1 = si (cutN N (nC K)) 180 := by rw [he2, hn1, s0, Int.sub_zero]
  refine bx_istore_n dX7_washes_14 rfl (by decide) rfl ?_
  refine bx_iconst dX7_washes_15 ?_
  refine bx_istore dX7_washes_16 rfl (by decide) rfl ?_
  refine kl_wash hK hT2 r2 P2.1 (fun j hj h1 => (conn_on hK (P2.2.2.2 j hj h1 rfl).1 ⟨hi, hon⟩).2) (fun h1 hT3 F3 => ?_) (nC K) 0 h9 (by omega) (by rw [cut_0]; exact hT2) FRM.rf
  refine bx_iload_n dX7_washes_55 rfl ?_
  exact bx_iret dX7_washes_56 rfl ⟨cutN N (nC K), by rw [en], rfl, he1, hT3, fun b e hb hd => F3 b e (F2 b e (F1 b e hb (fun z => z)) (fun z => by rw [z, hr] at hb; cases hb)) hd⟩
end KH
