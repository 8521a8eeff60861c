/-! Kite.lay, Kite.copy -/
def LI (h0 h1 : hg) (k w m p cl : Nat) (ce : Nat → Nat) (K : Nat → Nat) (i : Nat) : Prop := h1 k = some (.inr (7, kiteF K w m p cl)) ∧ rwQ 6 (h1 cl) (nC K) (fun j => if j < i ∧ on K j = true then some (ce j) else none) ∧ (∀ j, j < i → on K j = true → h1 (ce j) = some (.inr (6, cellF K j)) ∧ h0 (ce j) = none) ∧ FRM h0 h1 (fun b => b = k) ∧ h0 cl = none
theorem LI.zero {h0 h1 : hg} {k w m p cl : Nat} {ce : Nat → Nat} {K : Nat → Nat} (hk : h1 k = some (.inr (7, kiteF K w m p cl))) (hc : rwQ 6 (h1 cl) (nC K) (fun _ => none)) (hF : FRM h0 h1 (fun b => b = k)) (hn : h0 cl = none) : LI h0 h1 k w m p cl ce K 0 :=
  ⟨hk, hc.cong (fun j hj => by rw [if_neg (by omega)]), fun j hj => absurd hj (by omega), hF, hn⟩
theorem LI.skp {h0 h1 : hg} {k w m p cl i : Nat} {ce : Nat → Nat} {K : Nat → Nat} (hL : LI h0 h1 k w m p cl ce K i) (hon : ¬ on K i = true) : LI h0 h1 k w m p cl ce K (i + 1) := by
  obtain ⟨a1, a2, a3, a4, a5⟩ := hL
  refine ⟨a1, a2.cong (fun j hj => ?_), fun j hj oj => a3 j ?_ oj, a4, a5⟩
  · by_cases z : j < i ∧ on K j = true
    · rw [if_pos z, if_pos ⟨by omega, z.2⟩]
    · rw [if_neg z, if_neg (fun y => z ⟨by
        rcases Nat.lt_or_ge j i with q | q
        · exact q
        · have : j = i := by omega
          rw [this] at y
          exact absurd y.2 hon, y.2⟩)]
  · rcases Nat.lt_or_ge j i with q | q
    · exact q
    · have : j = i := by omega
      rw [this] at oj
      exact absurd oj hon
theorem LI.put {h0 h1 : hg} {k w m p cl i a : Nat} {ce : Nat → Nat} {K : Nat → Nat} {e : va_E} (hL : LI h0 h1 k w m p cl ce K i) (hon : on K i = true) (ha : h1 a = none) (he : rwQ 6 (some e) (nC K) (upQ (fun j => if j < i ∧ on K j = true then some (ce j) else none) i (some a))) : LI h0 (up (up h1 a (.inr (6, cellF K i))) cl e) k w m p cl (fun j => if j = i then a else ce j) K (i + 1) := by
  obtain ⟨a1, a2, a3, a4, a5⟩ := hL
  have n1 : k ≠ a := KN.ne ⟨_, a1⟩ ha
  have n2 : cl ≠ a := a2.kn.ne ha
  have n3 : cl ≠ k := a2.no a1
  have n4 : h0 a = none := by
    cases z : h0 a with
    | none => rfl
    | some x => have := a4 _ _ z (Ne.symm n1); rw [ha] at this; cases this
  refine ⟨by rw [ug_ne (Ne.symm n3), ug_ne n1]; exact a1, ?_, fun j hj oj => ?_, ?_, a5⟩
  · rw [ug_eq]
    refine he.cong (fun j hj => ?_)
    unfold upQ
    by_cases q : j = i
    · subst q
      dsimp only
      rw [if_pos rfl, if_pos ⟨by omega, hon⟩, if_pos rfl]
    · dsimp only
      rw [if_neg q]
      by_cases z : j < i ∧ on K j = true
      · rw [if_pos z, if_pos ⟨by omega, z.2⟩, if_neg q]
      · rw [if_neg z, if_neg (fun y => z ⟨by omega, y.2⟩)]
  · by_cases q : j = i
    · subst q
      dsimp only
      rw [if_pos rfl, ug_ne (Ne.symm n2), ug_eq]
      exact ⟨rfl, n4⟩
    · dsimp only
      rw [if_neg q]
      obtain ⟨b1, b2⟩ := a3 j (by omega) oj
      refine ⟨?_, b2⟩
      have n5 : cl ≠ ce j := a2.no b1
      rw [ug_ne (Ne.symm n5), ug_ne (KN.ne ⟨_, b1⟩ ha)]
      exact b1
  · intro b x hb hd
    have hb1 := a4 b x hb hd
    rw [ug_ne (KN.ne ⟨_, hb⟩ a5), ug_ne (KN.ne ⟨_, hb1⟩ ha)]
    exact hb1
theorem LI.kt {h0 h1 : hg} {k w m p cl : Nat} {ce : Nat → Nat} {K : Nat → Nat} (hL : LI h0 h1 k w m p cl ce K (nC K)) : KT h1 k w m p cl ce K :=
  ⟨hL.1, hL.2.1.cong (fun j hj => by
    by_cases z : on K j = true
    · rw [if_pos z, if_pos ⟨hj, z⟩]
    · rw [if_neg z, if_neg (fun y => z y.2)]), fun i hi oi => (hL.2.2.1 i hi oi).1⟩
theorem LI.new {h0 h1 : hg} {k w m p cl : Nat} {ce : Nat → Nat} {K : Nat → Nat} (hL : LI h0 h1 k w m p cl ce K (nC K)) : h0 cl = none ∧ ∀ i, i < nC K → on K i = true → h0 (ce i) = none := ⟨hL.2.2.2.2, fun i hi oi => (hL.2.2.1 i hi oi).2⟩
section KE
variable {ad : Nat → Nat} {sc : Nat × (Nat → Int32)} {u : hp} {h : hg} {Q : qg} {k w m p cl : Nat} {ce : Nat → Nat} {K : Nat → Nat} {c sl : Nat}
theorem kl_layx {h0 : hg} {r nr c0 s0 : Nat} (hK : KI K) (hr : rwI 0 (h0 r) nr (fun y => (K (6 + y) : Int))) (hnr : K 1 ≤ nr ∧ nr < 100) (hkr : r ≠ k) (hz : ∀ i, i < nC K → K (74 + i) = 0 ∧ K (254 + i) = 0 ∧ K (434 + i) = 0) {y : Nat} (hy : y < K 1) (kk : ∀ (h2 : hg) (ce2 : Nat → Nat) (c2 s2 : Nat), c0 + (nC K - (y + 1) * K 0) ≤ c2 → s0 + 5 * (nC K - (y + 1) * K 0) ≤ s2 → LI h0 h2 k w m p cl ce2 K ((y + 1) * K 0) → Gx ad sc M_X7_lay 85 [.ref k, .ref r, .int (I (y : Int)), .int (I (K 0 : Int))] [] c2 s2 u h2 Q) : ∀ (n x : Nat) (h1 : hg) (ce : Nat → Nat) (c sl i : Nat), x + n = K 0 → i = y * K 0 + x → c0 + (nC K - i) ≤ c → s0 + 5 * (nC K - i) ≤ sl → LI h0 h1 k w m p cl ce K i → Gx ad sc M_X7_lay 28 [.ref k, .ref r, .int (I (y : Int)), .int (I (x : Int))] [] c sl u h1 Q := by
  have hn9 := nC_le hK
  have k0 := hK.1
  have ey : (y + 1) * K 0 = y * K 0 + K 0 := Nat.succ_mul _ _
  intro n
  induction n with
  | zero =>
    intro x h1 ce c sl i hx hi hc hs hL
    have hk := hL.1
    refine bx_iload_n dX7_lay_28 rfl ?_
    refine bx_aload_n dX7_lay_29 rfl ?_
    refine bx_getf dX7_lay_30 ck7 fg_KitePainterLaw_Kite_7 (by decide) hk rfl ?_
    refine bx_icmp_ge (tgt := 85) dX7_lay_33 (by decide) (by omega) (by omega) (fun c33 => ?_) (fun c33 => ?_)
    · obtain rfl : x = K 0 := by omega
      have e : i = (y + 1) * K 0 := by omega
      subst e
      exact kk h1 ce c sl hc hs hL
    · exfalso
      omega
  | succ n ih =>
    intro x h1 ce c sl i hx hi hc hs hL
    have hk := hL.1
    have hic : i < nC K := by rw [hi]; exact ci_lt hy (by omega)
    have hr1 : rwI 0 (h1 r) nr (fun y => (K (6 + y) : Int)) := by obtain ⟨g, e, z⟩ := hr; exact ⟨g, hL.2.2.2.1 r _ e hkr, z⟩
    have hrb := hK.2.1 y (by omega)
    have hoi : on K i = true ↔ (K 0 / 2 ≤ x + K (6 + y) ∧ x ≤ K 0 / 2 + K (6 + y)) := by
      rw [hi, on_at (by omega), onZ_iff, Int.toNat_natCast]; omega
    have z9 := hz i hic
    have ec : cellF K i = [.int (I (x : Int)), .int (I (y : Int)), .int 0, .int 0, .int 0] := by
      unfold cellF
      rw [z9.1, z9.2.1, z9.2.2, hi, ci_mod (by omega), ci_div (by omega)]
      rfl
    refine bx_iload_n dX7_lay_28 rfl ?_
    refine bx_aload_n dX7_lay_29 rfl ?_
    refine bx_getf dX7_lay_30 ck7 fg_KitePainterLaw_Kite_7 (by decide) hk rfl ?_
    refine bx_icmp_ge (tgt := 85) dX7_lay_33 (by decide) (by omega) (by omega) (fun c33 => ?_) (fun c33 => ?_)
    · exfalso
      omega
    · refine bx_iconst dX7_lay_36 ?_
      refine bx_iload_n dX7_lay_37 rfl ?_
      refine bx_imul dX7_lay_38 ?_
      refine bx_aload_n dX7_lay_39 rfl ?_
      refine bx_getf dX7_lay_40 ck7 fg_KitePainterLaw_Kite_7 (by decide) hk rfl ?_
      refine bx_isub dX7_lay_43 ?_
      refine bx_iconst dX7_lay_44 ?_
      refine bx_iadd dX7_lay_45 ?_
      refine bx_abs dX7_lay_46 ln_X7_lay_43 ⟨by decide, by decide⟩ (Nat.le_of_ble_eq_true rfl) (by omega) ?_
      refine bx_iconst dX7_lay_49 ?_
      refine bx_aload_n dX7_lay_50 rfl ?_
      refine bx_iload_n dX7_lay_51 rfl ?_
      refine bx_ialr (j := y) dX7_lay_52 hr1 rfl (by omega) (by omega) rfl ?_
      refine bx_imul dX7_lay_53 ?_
      refine bx_icmp_gt (tgt := 79) dX7_lay_54 (by decide) (by omega) (by omega) (fun q54 => ?_) (fun q54 => ?_)
      · refine bx_iinc dX7_lay_79 rfl rfl (by decide) rfl ?_
        refine bx_goto (tgt := 28) dX7_lay_82 (by decide) ?_
        first
          | exact ih (x + 1) h1 ce c sl (i + 1) (by omega) (by omega) (by omega) (by omega) (hL.skp (fun z => by have := hoi.mp z; omega))
          | (have z8 := hL.put (hoi.mpr (by omega)) ha9 (by exact he78); rw [ec] at z8; exact ih (x + 1) _ _ _ _ (i + 1) (by omega) (by omega) (by omega) (by omega) z8)
      · refine bx_aload_n dX7_lay_57 rfl ?_
        refine bx_getf dX7_lay_58 ck7 fg_KitePainterLaw_Kite_39 (by decide) hk rfl ?_
        refine bx_iload_n dX7_lay_61 rfl ?_
        refine bx_aload_n dX7_lay_62 rfl ?_
        refine bx_getf dX7_lay_63 ck7 fg_KitePainterLaw_Kite_7 (by decide) hk rfl ?_
        refine bx_imul dX7_lay_66 ?_
        refine bx_iload_n dX7_lay_67 rfl ?_
        refine bx_iadd dX7_lay_68 ?_
        refine gx_new (fs := df_6) ck6 cg_KitePainterLaw_Kite_37 ist_6 ini_6 dv_6 (by omega) (by omega) dX7_lay_69 (fun a9 ha9 => ?_)
        refine bx_dup dX7_lay_72 rfl ?_
        refine bx_iload_n dX7_lay_73 rfl ?_
        refine bx_iload_n dX7_lay_74 rfl ?_
        refine bx_ci2 dX7_lay_75 ln_X7_lay_49 (Nat.le_of_ble_eq_true rfl) (Nat.zero_le _) (Nat.zero_le _) (kc_init (c := 0) (sl := 0) ug_eq) (fun u9 h9 hq9 => ?_)
        obtain ⟨-, rfl, rfl⟩ := hq9
        rw [up_up]
        refine bx_aasq (j := i) dX7_lay_78 (hL.2.1.mv (ug_ne (hL.2.1.kn.ne ha9))) ug_eq rfl (Or.inr (Or.inl ⟨rfl, rfl⟩)) (by rw [← Int.natCast_mul, ← Int.natCast_add, ← hi]) hic (by omega) (fun e78 he78 => ?_)
        refine bx_iinc dX7_lay_79 rfl rfl (by decide) rfl ?_
        refine bx_goto (tgt := 28) dX7_lay_82 (by decide) ?_
        first
          | exact ih (x + 1) h1 ce c sl (i + 1) (by omega) (by omega) (by omega) (by omega) (hL.skp (fun z => by have := hoi.mp z; omega))
          | (have z8 := hL.put (hoi.mpr (by omega)) ha9 (by exact he78); rw [ec] at z8; exact ih (x + 1) _ _ _ _ (i + 1) (by omega) (by omega) (by omega) (by omega) z8)
theorem kl_layy {h0 : hg} {r nr c0 s0 : Nat} (hK : KI K) (hr : rwI 0 (h0 r) nr (fun y => (K (6 + y) : Int))) (hnr : K 1 ≤ nr ∧ nr < 100) (hkr : r ≠ k) (hz : ∀ i, i < nC K → K (74 + i) = 0 ∧ K (254 + i) = 0 ∧ K (434 + i) = 0) (kk : ∀ (h2 : hg) (ce2 : Nat → Nat) (c2 s2 : Nat), c0 ≤ c2 → s0 ≤ s2 → LI h0 h2 k w m p cl ce2 K (nC K) → Gx ad sc M_X7_lay 91 [.ref k, .ref r, .int (I (K 1 : Int)), uk] [] c2 s2 u h2 Q) : ∀ (n y : Nat) (h1 : hg) (ce : Nat → Nat) (c sl : Nat), y + n = K 1 → c0 + (nC K - y * K 0) ≤ c → s0 + 5 * (nC K - y * K 0) ≤ sl → LI h0 h1 k w m p cl ce K (y * K 0) → Gx ad sc M_X7_lay 18 [.ref k, .ref r, .int (I (y : Int)), uk] [] c sl u h1 Q := by
  have hn9 := nC_le hK
  have k0 := hK.1
  have en : nC K = K 1 * K 0 := by unfold nC; exact Nat.mul_comm _ _
  intro n
  induction n with
  | zero =>
    intro y h1 ce c sl hy hc hs hL
    have hk := hL.1
    refine bx_iload_n dX7_lay_18 rfl ?_
    refine bx_aload_n dX7_lay_19 rfl ?_
    refine bx_getf dX7_lay_20 ck7 fg_KitePainterLaw_Kite_13 (by decide) hk rfl ?_
    refine bx_icmp_ge (tgt := 91) dX7_lay_23 (by decide) (by omega) (by omega) (fun c23 => ?_) (fun c23 => ?_)
    · obtain rfl : y = K 1 := by omega
      rw [← en] at hc hs hL
      exact kk h1 ce c sl (by omega) (by omega) hL
    · exfalso
      omega
  | succ n ih =>
    intro y h1 ce c sl hy hc hs hL
    have hk := hL.1
    have ey : (y + 1) * K 0 = y * K 0 + K 0 := Nat.succ_mul _ _
    refine bx_iload_n dX7_lay_18 rfl ?_
    refine bx_aload_n dX7_lay_19 rfl ?_
    refine bx_getf dX7_lay_20 ck7 fg_KitePainterLaw_Kite_13 (by decide) hk rfl ?_
    refine bx_icmp_ge (tgt := 91) dX7_lay_23 (by decide) (by omega) (by omega) (fun c23 => ?_) (fun c23 => ?_)
    · exfalso
      omega
    · refine bx_iconst dX7_lay_26 ?_
      refine bx_istore_n dX7_lay_27 rfl (by decide) rfl ?_
      refine kl_layx (c0 := c0) (s0 := s0) hK hr hnr hkr hz (by omega) (fun h2 ce2 c2 s2 hc2 hs2 hL2 => ?_) (K 0) 0 h1 ce c sl (y * K 0) (by omega) (by omega) hc hs hL
      refine bx_iinc dX7_lay_85 rfl rfl (by decide) rfl ?_
      refine bx_goto (tgt := 18) dX7_lay_88 (by decide) ?_
      refine gx_forg (i := 3) ?_
      exact ih (y + 1) h2 ce2 c2 s2 (by omega) hc2 hs2 hL2
theorem kt_lay {r nr : Nat} (hk : h k = some (.inr (7, kiteF K w m p cl))) (hK : KI K) (hr : rwI 0 (h r) nr (fun y => (K (6 + y) : Int))) (hnr : K 1 ≤ nr ∧ nr < 100) (hz : ∀ i, i < nC K → K (74 + i) = 0 ∧ K (254 + i) = 0 ∧ K (434 + i) = 0) : Gl ad sc 200 1200 M_X7_lay [.ref k, .ref r] u h (fun v u1 h1 => v = .ref k ∧ u1 = u ∧ ∃ cl ce, LI h h1 k w m p cl ce K (nC K)) := by
  have hn9 := nC_le hK
  have k0 := hK.1
  have hkr := hr.no hk
  have en : nC K = K 1 * K 0 := by unfold nC; exact Nat.mul_comm _ _
  refine bx_aload_n dX7_lay_0 rfl ?_
  refine bx_aload_n dX7_lay_1 rfl ?_
  refine bx_getf dX7_lay_2 ck7 fg_KitePainterLaw_Kite_7 (by decide) hk rfl ?_
  refine bx_aload_n dX7_lay_5 rfl ?_
  refine bx_getf dX7_lay_6 ck7 fg_KitePainterLaw_Kite_13 (by decide) hk rfl ?_
  refine bx_imul dX7_lay_9 ?_
  refine bx_anew (t := 6) (N := nC K) (C := "KitePainterLaw$Cell") dX7_lay_10 ⟨by unfold tagO; simp, by decide⟩ cg_KitePainterLaw_Kite_37 (by rw [en, Int.natCast_mul, Int.mul_comm]) (by omega) (by omega) (by omega) (fun cl9 ecl9 hcl9 hecl9 => ?_)
  refine bx_putf dX7_lay_13 ck7 fg_KitePainterLaw_Kite_39 (by decide) ((ug_ne (KN.ne ⟨_, hk⟩ hcl9)).trans hk) rfl ⟨rfl, rfl⟩ (Nat.le_of_ble_eq_true rfl) rfl ?_
  refine gx_gen (fun g1 q1 => ?_)
  have zk : k ≠ cl9 := KN.ne ⟨_, hk⟩ hcl9
  have hL0 : LI h g1 k w m p cl9 (fun _ => 0) K 0 := LI.zero (by rw [q1]; exact ug_eq) (hecl9.mv (by rw [q1, ug_ne (Ne.symm zk), ug_eq])) (fun b e hb hd => by rw [q1, ug_ne hd, ug_ne (KN.ne ⟨_, hb⟩ hcl9)]; exact hb) hcl9
  refine bx_iconst dX7_lay_16 ?_
  refine bx_istore_n dX7_lay_17 rfl (by decide) rfl ?_
  refine kl_layy (c0 := 0) (s0 := 0) hK hr hnr hkr hz (fun h2 ce2 c2 s2 hc2 hs2 hL2 => ?_) (K 1) 0 g1 (fun _ => 0) _ _ (by omega) (by omega) (by omega) (by rw [Nat.zero_mul]; exact hL0)
  refine bx_aload_n dX7_lay_91 rfl ?_
  exact bx_aret dX7_lay_92 rfl ⟨rfl, rfl, cl9, ce2, hL2⟩
theorem kl_copy  {h0 : hg} {k2 cl2 c0 s0 : Nat} (hT0 : KT h0 k w m p cl ce K) (hK : KI K) (nk : h0 k2 = none) (kk : ∀ (h2 : hg) (ce2 : Nat → Nat) (c2 s2 : Nat), c0 ≤ c2 → s0 ≤ s2 → LI h0 h2 k2 w m p cl2 ce2 K (nC K) → Gx ad sc M_X7_copy 125 [.ref k, .ref k2, .int (I (nC K : Int))] [] c2 s2 u h2 Q) : ∀ (n i : Nat) (h1 : hg) (ce2 : Nat → Nat) (c sl : Nat), i + n = nC K → c0 + n ≤ c → s0 + 5 * n ≤ sl → LI h0 h1 k2 w m p cl2 ce2 K i → Gx ad sc M_X7_copy 86 [.ref k, .ref k2, .int (I (i : Int))] [] c sl u h1 Q := by
  have hn9 := nC_le hK
  have k0 := hK.1
  intro n
  induction n with
  | zero =>
    intro i h1 ce2 c sl hi hc hs hL
    have hT : KT h1 k w m p cl ce K := hT0.frm hL.2.2.2.1 (KN.ne ⟨_, hT0.1⟩ nk) (hT0.2.1.kn.ne nk) (fun j hj oj => KN.ne ⟨_, hT0.2.2 j hj oj⟩ nk)
    refine bx_iload_n dX7_copy_86 rfl ?_
    refine bx_aload_n dX7_copy_87 rfl ?_
    refine bx_getf dX7_copy_88 ck7 fg_KitePainterLaw_Kite_39 (by decide) hT.1 rfl ?_
    refine bx_alnq dX7_copy_91 hT.2.1 (by decide) ?_
    refine bx_icmp_ge (tgt := 125) dX7_copy_92 (by decide) (by omega) (by omega) (fun c92 => ?_) (fun c92 => ?_)
    · obtain rfl : i = nC K := by omega
      exact kk h1 ce2 c sl hc hs hL
    · exfalso
      omega
  | succ n ih =>
    intro i h1 ce2 c sl hi hc hs hL
    have hT : KT h1 k w m p cl ce K := hT0.frm hL.2.2.2.1 (KN.ne ⟨_, hT0.1⟩ nk) (hT0.2.1.kn.ne nk) (fun j hj oj => KN.ne ⟨_, hT0.2.2 j hj oj⟩ nk)
    refine bx_iload_n dX7_copy_86 rfl ?_
    refine bx_aload_n dX7_copy_87 rfl ?_
    refine bx_getf dX7_copy_88 ck7 fg_KitePainterLaw_Kite_39 (by decide) hT.1 rfl ?_
    refine bx_alnq dX7_copy_91 hT.2.1 (by decide) ?_
    refine bx_icmp_ge (tgt := 125) dX7_copy_92 (by decide) (by omega) (by omega) (fun c92 => ?_) (fun c92 => ?_)
    · exfalso
      omega
    · refine bx_aload_n dX7_copy_95 rfl ?_
      refine bx_getf dX7_copy_96 ck7 fg_KitePainterLaw_Kite_39 (by decide) hT.1 rfl ?_
      refine bx_iload_n dX7_copy_99 rfl ?_
      by_cases hon : on K i = true
      · have hc := hT.2.2 i (by omega) hon
        have hc9 := hT.2.2 i (by omega) hon
        refine bx_aals (j := i) (q := ce i) dX7_copy_100 hT.2.1 (by decide) rfl (by omega) (by omega) (if_pos hon) ?_
        refine gx_ifnull dX7_copy_101 ?_
        refine bx_aload_n dX7_copy_104 rfl ?_
        refine bx_getf dX7_copy_105 ck7 fg_KitePainterLaw_Kite_39 (by decide) hL.1 rfl ?_
        refine bx_iload_n dX7_copy_108 rfl ?_
        refine bx_aload_n dX7_copy_109 rfl ?_
        refine bx_getf dX7_copy_110 ck7 fg_KitePainterLaw_Kite_39 (by decide) hT.1 rfl ?_
        refine bx_iload_n dX7_copy_113 rfl ?_
        refine bx_aals (j := i) (q := ce i) dX7_copy_114 hT.2.1 (by decide) rfl (by omega) (by omega) (if_pos hon) ?_
        refine bx_cv0 dX7_copy_115 ln_X7_copy_56 (Nat.le_of_ble_eq_true rfl) (by decide) hc9 rfl (by omega) (by omega) (kc_copy hc9 (hK.2.2.2.2.2.2.1 i (by omega))) (fun v9 u9 h9 hq9 => ?_)
        obtain ⟨a9, ha9, rfl, rfl, rfl⟩ := hq9
        refine bx_aasq (j := i) dX7_copy_118 (hL.2.1.mv (ug_ne (hL.2.1.kn.ne ha9))) ug_eq rfl (Or.inr (Or.inl ⟨rfl, rfl⟩)) rfl (by omega) (by omega) (fun e118 he118 => ?_)
        refine bx_iinc dX7_copy_119 rfl rfl (by decide) rfl ?_
        refine bx_goto (tgt := 86) dX7_copy_122 (by decide) ?_
        exact ih (i + 1) _ _ _ _ (by omega) (by omega) (by omega) (hL.put hon ha9 he118)
      · refine bx_aaln (j := i) dX7_copy_100 hT.2.1 (by decide) rfl (by omega) (by omega) (if_neg hon) ?_
        refine gx_ifnullN (tgt := 119) dX7_copy_101 (by decide) ?_
        refine bx_iinc dX7_copy_119 rfl rfl (by decide) rfl ?_
        refine bx_goto (tgt := 86) dX7_copy_122 (by decide) ?_
        exact ih (i + 1) h1 ce2 c sl (by omega) (by omega) (by omega) (hL.skp hon)
theorem kt_copy (hT : KT h k w m p cl ce K) (hK : KI K) : Gl ad sc 200 1200 M_X7_copy [.ref k] u h (fun v u1 h1 => u1 = u ∧ ∃ k2 cl2 ce2, v = .ref k2 ∧ h k2 = none ∧ LI h h1 k2 w m p cl2 ce2 K (nC K)) := by
  have hn9 := nC_le hK
  have k0 := hK.1
  refine gx_new (fs := df_7) ck7 cg_KitePainterLaw_Kite_8 ist_7 ini_7 dv_7 (by omega) (by omega) dX7_copy_0 (fun k2 hk2 => ?_)
  refine bx_dup dX7_copy_3 rfl ?_
  refine bx_ci0 dX7_copy_4 ln_X7_copy_52 (Nat.le_of_ble_eq_true rfl) (by omega) (by omega) (kt_init ug_eq) (fun u9 h9 hq9 => ?_)
  obtain ⟨-, rfl, w0, m0, p0, cl0, hN⟩ := hq9
  have b2 := hN.1
  have dk : k ≠ k2 := KN.ne ⟨_, hT.1⟩ hk2
  have f2 : FRM h h9 (fun b => b = k2) := fun b e hb hd => hN.2.2.2.2.2.2.1 b e (by rw [ug_ne hd]; exact hb) hd
  have a2 := f2 k _ hT.1 dk
  refine bx_astore_n dX7_copy_7 rfl (by decide) rfl ?_
  refine bx_aload_n dX7_copy_8 rfl ?_
  refine bx_aload_n dX7_copy_9 rfl ?_
  refine bx_getf dX7_copy_10 ck7 fg_KitePainterLaw_Kite_7 (by decide) a2 rfl ?_
  refine bx_putf dX7_copy_13 ck7 fg_KitePainterLaw_Kite_7 (by decide) b2 rfl ⟨rfl, rfl⟩ (Nat.le_of_ble_eq_true rfl) rfl ?_
  refine gx_gen (fun g3 q3 => ?_)
  have b3 : g3 k2 = some (.inr (7, [.int (I (K 0)), .int (I (freshK 5 5 1)), .int (I (freshK 5 5 2)), .int (I (freshK 5 5 3)), .int (I (freshK 5 5 4)), .ref w0, .ref m0, .ref p0, .ref cl0])) := by rw [q3]; exact ug_eq
  have f3 : FRM h g3 (fun b => b = k2) := f2.tr (by rw [q3]; exact FRM.u1 rfl)
  have a3 := f3 k _ hT.1 dk
  refine bx_aload_n dX7_copy_16 rfl ?_
  refine bx_aload_n dX7_copy_17 rfl ?_
  refine bx_getf dX7_copy_18 ck7 fg_KitePainterLaw_Kite_13 (by decide) a3 rfl ?_
  refine bx_putf dX7_copy_21 ck7 fg_KitePainterLaw_Kite_13 (by decide) b3 rfl ⟨rfl, rfl⟩ (Nat.le_of_ble_eq_true rfl) rfl ?_
  refine gx_gen (fun g4 q4 => ?_)
  have b4 : g4 k2 = some (.inr (7, [.int (I (K 0)), .int (I (K 1)), .int (I (freshK 5 5 2)), .int (I (freshK 5 5 3)), .int (I (freshK 5 5 4)), .ref w0, .ref m0, .ref p0, .ref cl0])) := by rw [q4]; exact ug_eq
  have f4 : FRM h g4 (fun b => b = k2) := f3.tr (by rw [q4]; exact FRM.u1 rfl)
  have a4 := f4 k _ hT.1 dk
  refine bx_aload_n dX7_copy_24 rfl ?_
  refine bx_aload_n dX7_copy_25 rfl ?_
  refine bx_getf dX7_copy_26 ck7 fg_KitePainterLaw_Kite_53 (by decide) a4 rfl ?_
  refine bx_putf dX7_copy_29 ck7 fg_KitePainterLaw_Kite_53 (by decide) b4 rfl ⟨rfl, rfl⟩ (Nat.le_of_ble_eq_true rfl) rfl ?_
  refine gx_gen (fun g5 q5 => ?_)
  have b5 : g5 k2 = some (.inr (7, [.int (I (K 0)), .int (I (K 1)), .int (I (K 2)), .int (I (freshK 5 5 3)), .int (I (freshK 5 5 4)), .ref w0, .ref m0, .ref p0, .ref cl0])) := by rw [q5]; exact ug_eq
  have f5 : FRM h g5 (fun b => b = k2) := f4.tr (by rw [q5]; exact FRM.u1 rfl)
  have a5 := f5 k _ hT.1 dk
  refine bx_aload_n dX7_copy_32 rfl ?_
  refine bx_aload_n dX7_copy_33 rfl ?_
  refine bx_getf dX7_copy_34 ck7 fg_KitePainterLaw_Kite_16 (by decide) a5 rfl ?_
  refine bx_putf dX7_copy_37 ck7 fg_KitePainterLaw_Kite_16 (by decide) b5 rfl ⟨rfl, rfl⟩ (Nat.le_of_ble_eq_true rfl) rfl ?_
  refine gx_gen (fun g6 q6 => ?_)
  have b6 : g6 k2 = some (.inr (7, [.int (I (K 0)), .int (I (K 1)), .int (I (K 2)), .int (I (K 3)), .int (I (freshK 5 5 4)), .ref w0, .ref m0, .ref p0, .ref cl0])) := by rw [q6]; exact ug_eq
  have f6 : FRM h g6 (fun b => b = k2) := f5.tr (by rw [q6]; exact FRM.u1 rfl)
  have a6 := f6 k _ hT.1 dk
  refine bx_aload_n dX7_copy_40 rfl ?_
  refine bx_aload_n dX7_copy_41 rfl ?_
  refine bx_getf dX7_copy_42 ck7 fg_KitePainterLaw_Kite_19 (by decide) a6 rfl ?_
  refine bx_putf dX7_copy_45 ck7 fg_KitePainterLaw_Kite_19 (by decide) b6 rfl ⟨rfl, rfl⟩ (Nat.le_of_ble_eq_true rfl) rfl ?_
  refine gx_gen (fun g7 q7 => ?_)
  have b7 : g7 k2 = some (.inr (7, [.int (I (K 0)), .int (I (K 1)), .int (I (K 2)), .int (I (K 3)), .int (I (K 4)), .ref w0, .ref m0, .ref p0, .ref cl0])) := by rw [q7]; exact ug_eq
  have f7 : FRM h g7 (fun b => b = k2) := f6.tr (by rw [q7]; exact FRM.u1 rfl)
  have a7 := f7 k _ hT.1 dk
  refine bx_aload_n dX7_copy_48 rfl ?_
  refine bx_aload_n dX7_copy_49 rfl ?_
  refine bx_getf dX7_copy_50 ck7 fg_KitePainterLaw_Kite_22 (by decide) a7 rfl ?_
  refine bx_putf dX7_copy_53 ck7 fg_KitePainterLaw_Kite_22 (by decide) b7 rfl ⟨rfl, rfl⟩ (Nat.le_of_ble_eq_true rfl) rfl ?_
  refine gx_gen (fun g8 q8 => ?_)
  have b8 : g8 k2 = some (.inr (7, [.int (I (K 0)), .int (I (K 1)), .int (I (K 2)), .int (I (K 3)), .int (I (K 4)), .ref w, .ref m0, .ref p0, .ref cl0])) := by rw [q8]; exact ug_eq
  have f8 : FRM h g8 (fun b => b = k2) := f7.tr (by rw [q8]; exact FRM.u1 rfl)
  have a8 := f8 k _ hT.1 dk
  refine bx_aload_n dX7_copy_56 rfl ?_
  refine bx_aload_n dX7_copy_57 rfl ?_
  refine bx_getf dX7_copy_58 ck7 fg_KitePainterLaw_Kite_28 (by decide) a8 rfl ?_
  refine bx_putf dX7_copy_61 ck7 fg_KitePainterLaw_Kite_28 (by decide) b8 rfl ⟨rfl, rfl⟩ (Nat.le_of_ble_eq_true rfl) rfl ?_
  refine gx_gen (fun g9 q9 => ?_)
  have b9 : g9 k2 = some (.inr (7, [.int (I (K 0)), .int (I (K 1)), .int (I (K 2)), .int (I (K 3)), .int (I (K 4)), .ref w, .ref m, .ref p0, .ref cl0])) := by rw [q9]; exact ug_eq
  have f9 : FRM h g9 (fun b => b = k2) := f8.tr (by rw [q9]; exact FRM.u1 rfl)
  have a9 := f9 k _ hT.1 dk
  refine bx_aload_n dX7_copy_64 rfl ?_
  refine bx_aload_n dX7_copy_65 rfl ?_
  refine bx_getf dX7_copy_66 ck7 fg_KitePainterLaw_Kite_33 (by decide) a9 rfl ?_
  refine bx_putf dX7_copy_69 ck7 fg_KitePainterLaw_Kite_33 (by decide) b9 rfl ⟨rfl, rfl⟩ (Nat.le_of_ble_eq_true rfl) rfl ?_
  refine gx_gen (fun g10 q10 => ?_)
  have b10 : g10 k2 = some (.inr (7, [.int (I (K 0)), .int (I (K 1)), .int (I (K 2)), .int (I (K 3)), .int (I (K 4)), .ref w, .ref m, .ref p, .ref cl0])) := by rw [q10]; exact ug_eq
  have f10 : FRM h g10 (fun b => b = k2) := f9.tr (by rw [q10]; exact FRM.u1 rfl)
  have a10 := f10 k _ hT.1 dk
  have cc9 : rwQ 6 (g10 cl) (nC K) (fun i => if on K i = true then some (ce i) else none) := by obtain ⟨g, e, z⟩ := hT.2.1; exact ⟨g, f10 cl _ e (hT.2.1.kn.ne hk2), z⟩
  refine bx_aload_n dX7_copy_72 rfl ?_
  refine bx_aload_n dX7_copy_73 rfl ?_
  refine bx_getf dX7_copy_74 ck7 fg_KitePainterLaw_Kite_39 (by decide) a10 rfl ?_
  refine bx_alnq dX7_copy_77 cc9 (by decide) ?_
  refine bx_anew (t := 6) (N := nC K) (C := "KitePainterLaw$Cell") dX7_copy_78 ⟨by unfold tagO; simp, by decide⟩ cg_KitePainterLaw_Kite_37 rfl (by omega) (by omega) (by omega) (fun cl9 ecl9 hcl9 hecl9 => ?_)
  refine bx_putf dX7_copy_81 ck7 fg_KitePainterLaw_Kite_39 (by decide) ((ug_ne (KN.ne ⟨_, b10⟩ hcl9)).trans b10) rfl ⟨rfl, rfl⟩ (Nat.le_of_ble_eq_true rfl) rfl ?_
  refine gx_gen (fun g11 q11 => ?_)
  have zk : k2 ≠ cl9 := KN.ne ⟨_, b10⟩ hcl9
  have nc : h cl9 = none := by
    cases z : h cl9 with
    | none => rfl
    | some e => have := f10 _ e z (Ne.symm zk); rw [hcl9] at this; cases this
  have hL0 : LI h g11 k2 w m p cl9 (fun _ => 0) K 0 := LI.zero (by rw [q11]; exact ug_eq) (hecl9.mv (by rw [q11, ug_ne (Ne.symm zk), ug_eq])) (fun b e hb hd => by rw [q11, ug_ne hd, ug_ne (KN.ne ⟨_, f10 b e hb hd⟩ hcl9)]; exact f10 b e hb hd) nc
  refine bx_iconst dX7_copy_84 ?_
  refine bx_istore_n dX7_copy_85 rfl (by decide) rfl ?_
  refine kl_copy (c0 := 0) (s0 := 0) hT hK hk2 (fun h2 ce2 c2 s2 hc2 hs2 hL2 => ?_) (nC K) 0 g11 (fun _ => 0) _ _ (by omega) (by omega) (by omega) hL0
  refine bx_aload_n dX7_copy_125 rfl ?_
  exact bx_aret dX7_copy_126 rfl ⟨rfl, k2, cl9, ce2, rfl, hk2, hL2⟩
/-- what a copy is: a Kite of its own, all else as it was -/
theorem LI.frm0 {h0 h1 : hg} {k w m p cl : Nat} {ce : Nat → Nat} {K : Nat → Nat} {i : Nat} (hL : LI h0 h1 k w m p cl ce K i) (nk : h0 k = none) : FRM h0 h1 (fun _ => False) := fun b e hb _ => hL.2.2.2.1 b e hb (KN.ne ⟨_, hb⟩ nk)
end KE
