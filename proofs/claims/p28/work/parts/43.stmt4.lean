/-! the class's reader: statements as a whole -/
theorem ST.inr {A : Type} {x : (Int × Int) ⊕ A} {e a e1 a1 : Int} {G : A → Prop} (h : ST x e a e1 a1 G) (he : e = 0) (h1 : e1 = 0) : ∃ y, x = .inr y ∧ a1 = a ∧ G y := by
  rcases h with h | ⟨h, ⟨c, b, h2, h3, h4, h5⟩ | ⟨y, h2, h3, h4, h5⟩⟩
  · exact absurd he h.1
  · omega
  · exact ⟨y, h2, h4, h5⟩
theorem chk_in {p : Bool} {c b : Int} {u : Unit} (h : chk p c b = .inr u) : p = false := by
  unfold chk at h
  cases p with
  | true => cases h
  | false => rfl
theorem bnd_in {A B : Type} {x : (Int × Int) ⊕ A} {f : A → (Int × Int) ⊕ B} {y : B} (h : bnd x f = .inr y) : ∃ z, x = .inr z ∧ f z = .inr y := by
  cases x with
  | inl e => cases h
  | inr z => exact ⟨z, rfl, h⟩
theorem linC_in {T : Nat → Int} {n s p hi : Nat} {K : Nat → Nat} {u : Unit} (h : linC T n s p hi K = .inr u) : lnM T n s ≤ 7 ∧ hi < 6 ∧ (0 < hi → lnM T n s = K (614 + 44 * p)) ∧ ∀ i, i < lnM T n s → T (s + i) ≤ 54 := by
  unfold linC at h
  obtain ⟨_, h1, h⟩ := bnd_in h
  obtain ⟨_, h2, h3⟩ := bnd_in h
  have a1 := chk_in h1
  have a2 := chk_in h2
  unfold lc1 at a1
  rw [decide_eq_false_iff_not] at a1 a2
  exact ⟨by omega, by omega, fun q => by omega, fun i hi => digC_in h3 i (by omega) (by omega)⟩
section RD
variable {NC b : Nat} {h : hp} {r T : Nat → Int} {n s : Nat} {K : Nat → Nat} {Q : qt}
theorem l_pat (hN : 112 ≤ NC) (hb : b + 10 ≤ 103) (hT : TX T) {h0 : hp} (hTr0 : TR h0 T) {p : Nat} (hp3 : p < 3) : ∀ (f : Nat) (hi : Nat) (g : hp) (r : Nat → Int) (s : Nat) (K : Nat → Nat), hi + f = 7 → RO g r → TK T n r s → (-1000 ≤ r 6 ∧ r 6 ≤ 1000) → SA NC g b K → YB b h0 g → K (614 + 44 * p) ≤ 7 → (∀ (g1 : hp) (r1 : Nat → Int) (s1 : Nat) (K1 : Nat → Nat), RO g1 r1 → TK T n r1 s1 → agF r r1 → SA NC g1 b K1 → YB b h0 g1 → ST (lnL T n p f hi s K) (r 6) (r 7) (r1 6) (r1 7) (fun v => s1 = v.1 ∧ K1 = v.2) → Q .null g1) → Ex NC none M_X4_readPattern 58 [.ref 110, .ref b, .int (I (p : Int)), .int (I (hi : Int))] [] g Q := by
  intro f
  induction f with
  | zero =>
    intro hi g r s K hf hO hk h6 hS hY hw kk
    have hTr : TR g T := hTr0.mv (hY 111 (by decide) (by omega))
    refine ax_iload_n dX4_readPattern_58 rfl ?_
    refine ax_bipush dX4_readPattern_59 (by decide) ?_
    refine ax_icmp_gt (tgt := 110) dX4_readPattern_61 (by decide) (by omega) (by omega) (fun c61 => ?_) (fun c61 => ?_)
    · refine ax_vret dX4_readPattern_110 rfl (kk g r s K hO hk ⟨rfl, rfl, rfl, rfl, rfl⟩ hS hY (ST.ok ⟨rfl, rfl⟩))
    · exfalso
      omega
  | succ f ih =>
    intro hi g r s K hf hO hk h6 hS hY hw kk
    have hTr : TR g T := hTr0.mv (hY 111 (by decide) (by omega))
    refine ax_iload_n dX4_readPattern_58 rfl ?_
    refine ax_bipush dX4_readPattern_59 (by decide) ?_
    refine ax_icmp_gt (tgt := 110) dX4_readPattern_61 (by decide) (by omega) (by omega) (fun c61 => ?_) (fun c61 => ?_)
    · exfalso
      omega
    · refine ax_aload_n dX4_readPattern_64 rfl ?_
      refine ax_getf dX4_readPattern_65 ck4 fl_X4_57 (by decide) (by omega) hO rfl ?_
      refine ax_iconst dX4_readPattern_68 ?_
      rw [hk.2.2.2.2.1]
      refine ax_icmp_ne (tgt := 110) dX4_readPattern_69 (by decide) (by have := kd_rg (T := T) (n := n) (s := s); omega) (by omega) (fun c69 => ?_) (fun c69 => ?_)
      · refine ax_vret dX4_readPattern_110 rfl (kk g r s K hO hk ⟨rfl, rfl, rfl, rfl, rfl⟩ hS hY ?_)
        show ST (if isD T n s = true then _ else _) _ _ _ _ _
        rw [if_neg (fun w => c69 (kd_d.mpr w))]
        exact ST.ok ⟨rfl, rfl⟩
      · have hd := kd_d.mp c69
        refine ax_aload_n dX4_readPattern_72 rfl ?_
        refine ax_getf dX4_readPattern_73 ck4 fl_X4_31 (by decide) (by omega) hO rfl ?_
        refine ax_if_ne (tgt := 110) dX4_readPattern_76 (by decide) (by omega) (fun c76 => ?_) (fun c76 => ?_)
        · exact ax_vret dX4_readPattern_110 rfl (kk g r s K hO hk ⟨rfl, rfl, rfl, rfl, rfl⟩ hS hY (Or.inl ⟨c76, rfl, rfl⟩))
        · refine ax_aload_n dX4_readPattern_79 rfl ?_
          refine ax_aload_n dX4_readPattern_80 rfl ?_
          refine ax_iload_n dX4_readPattern_81 rfl ?_
          refine ax_iload_n dX4_readPattern_82 rfl ?_
          refine ax_cvv3 dX4_readPattern_83 ln_X4_readPattern_191 (Nat.le_of_ble_eq_true rfl) rfl (by omega) hO rfl (sp_checkLine hN hb hT hp3 (by omega) hTr hd hO hk h6 hS hw) (fun g1 hq => ?_)
          obtain ⟨r1, hO1, hk1, ha1, y1, st1⟩ := hq
          have hTr1 : TR g1 T := hTr.mv (y1 111 (by decide))
          have hS1 : SA NC g1 b K := hS.eq (fun a a1 a2 => y1 a (by omega))
          have h61 := st1.rg h6
          refine ax_aload_n dX4_readPattern_86 rfl ?_
          refine ax_getf dX4_readPattern_87 ck4 fl_X4_31 (by decide) (by omega) hO1 rfl ?_
          refine ax_if_ne (tgt := 100) dX4_readPattern_90 (by decide) (by omega) (fun c90 => ?_) (fun c90 => ?_)
          · refine ax_aload_n dX4_readPattern_100 rfl ?_
            refine ax_cvv0 dX4_readPattern_101 ln_X4_readPattern_50 (Nat.le_of_ble_eq_true rfl) rfl (by omega) hO1 rfl (sp_next hN hO1 hT hTr1 hk1) (fun g3 hq3 => ?_)
            obtain ⟨r3, hO3, ha3, hk3, y3⟩ := hq3
            refine ax_iinc dX4_readPattern_104 rfl rfl (by decide) ?_
            refine ax_goto (tgt := 58) dX4_readPattern_107 (by decide) ?_
            have e6 : r3 6 = r1 6 := ha3 6 (by decide) (by decide) (by decide)
            have e7 : r3 7 = r1 7 := ha3 7 (by decide) (by decide) (by decide)
            refine ih (hi + 1) g3 r3 (sN T n s) K (by omega) hO3 hk3 (by rw [e6]; exact st1.rg h6) (hS1.eq (fun a a1 a2 => y3 a (by omega))) ((hY.y y1).y y3) (hw) (fun g4 r4 s4 K4 hO4 hk4 ha4 hS4 hY4 st4 => kk g4 r4 s4 K4 hO4 hk4 (ha1.tr (ha3.F.tr ha4)) hS4 hY4 ?_)
            rw [e6, e7] at st4
            show ST (if isD T n s = true then _ else _) _ _ _ _ _
            rw [if_pos hd]
            exact ST.bnd st1 (fun e => st4.keep e) (fun _ e0 _ => absurd e0 c90)
          · obtain ⟨u, hlc, -, -⟩ := st1.inr c76 c90
            have hl := linC_in hlc
            refine ax_aload_n dX4_readPattern_93 rfl ?_
            refine ax_aload_n dX4_readPattern_94 rfl ?_
            refine ax_iload_n dX4_readPattern_95 rfl ?_
            refine ax_iload_n dX4_readPattern_96 rfl ?_
            refine ax_cvv3 dX4_readPattern_97 ln_X4_readPattern_195 (Nat.le_of_ble_eq_true rfl) rfl (by omega) hO1 rfl (sp_takeLine hN hb hT hp3 hl.2.1 hTr1 hd hl.1 hO1 hk1 hS1) (fun g2 hq => ?_)
            obtain ⟨hS2, hF2⟩ := hq
            have hO2 : RO g2 r1 := (hF2 110 (by omega)).trans hO1
            have hTr2 : TR g2 T := hTr1.mv (hF2 111 (by omega))
            refine ax_aload_n dX4_readPattern_100 rfl ?_
            refine ax_cvv0 dX4_readPattern_101 ln_X4_readPattern_50 (Nat.le_of_ble_eq_true rfl) rfl (by omega) hO2 rfl (sp_next hN hO2 hT hTr2 hk1) (fun g3 hq3 => ?_)
            obtain ⟨r3, hO3, ha3, hk3, y3⟩ := hq3
            refine ax_iinc dX4_readPattern_104 rfl rfl (by decide) ?_
            refine ax_goto (tgt := 58) dX4_readPattern_107 (by decide) ?_
            have e6 : r3 6 = r1 6 := ha3 6 (by decide) (by decide) (by decide)
            have e7 : r3 7 = r1 7 := ha3 7 (by decide) (by decide) (by decide)
            refine ih (hi + 1) g3 r3 (sN T n s) (linQ K p hi (lnM T n s) T s (lnM T n s)) (by omega) hO3 hk3 (by rw [e6]; exact st1.rg h6) (hS2.eq (fun a a1 a2 => y3 a (by omega))) (((hY.y y1).f hF2).y y3) (by unfold linQ; rw [if_pos rfl]; exact hl.1) (fun g4 r4 s4 K4 hO4 hk4 ha4 hS4 hY4 st4 => kk g4 r4 s4 K4 hO4 hk4 (ha1.tr (ha3.F.tr ha4)) hS4 hY4 ?_)
            rw [e6, e7] at st4
            show ST (if isD T n s = true then _ else _) _ _ _ _ _
            rw [if_pos hd]
            exact ST.bnd st1 (fun e => st4.keep e) (fun _ _ _ => st4)
theorem sp_readPattern (hN : 112 ≤ NC) (hb : b + 10 ≤ 103) (hT : TX T) (hO : RO h r) (hTr : TR h T) (hk : TK T n r s) (h6 : -1000 ≤ r 6 ∧ r 6 ≤ 1000) (hS : SA NC h b K) (hK : KI K) : Cl NC M_X4_readPattern [.ref 110, .ref b] h (fun _ h1 => ∃ r1 s1 K1, RO h1 r1 ∧ TK T n r1 s1 ∧ SA NC h1 b K1 ∧ YB b h h1 ∧ agF r r1 ∧ ST (patP T n s K) (r 6) (r 7) (r1 6) (r1 7) (fun v => s1 = v.1 ∧ K1 = v.2)) := by
  have k0 := hK.1
  refine ax_aload_n dX4_readPattern_0 rfl ?_
  refine ax_getf dX4_readPattern_1 ck3 fl_X4_188 (by decide) hS.n0 hS.o rfl ?_
  refine ax_iconst dX4_readPattern_4 ?_
  refine ax_icmp_lt (tgt := 19) dX4_readPattern_5 (by decide) (by omega) (by omega) (fun c5 => ?_) (fun c5 => ?_)
  · refine ax_aload_n dX4_readPattern_19 rfl ?_
    refine ax_getf dX4_readPattern_20 ck3 fl_X4_188 (by decide) hS.n0 hS.o rfl ?_
    refine ax_istore_n dX4_readPattern_23 rfl (by decide) ?_
    refine ax_aload_n dX4_readPattern_24 rfl ?_
    refine ax_dup dX4_readPattern_25 rfl ?_
    refine ax_getf dX4_readPattern_26 ck3 fl_X4_188 (by decide) hS.n0 hS.o rfl ?_
    refine ax_iconst dX4_readPattern_29 ?_
    refine ax_iadd dX4_readPattern_30 ?_
    rw [show (K 5 : Int) + 1 = ((K 5 + 1 : Nat) : Int) by push_cast; rfl]
    refine ax_putf dX4_readPattern_31 ck3 fl_X4_188 (by decide) hS.n0 hS.o rfl (Or.inl rfl) (Nat.le_of_ble_eq_true rfl) rfl ?_
    have hSa := hS.f5 (c := K 5 + 1)
    have hFa : Fr h (va_up h b (.inr (3, (sailF K b).set 5 (.int (I ((K 5 + 1 : Nat) : Int)))))) b := fun a ha => vu_ne (by omega)
    generalize va_up h b (.inr (3, (sailF K b).set 5 (.int (I ((K 5 + 1 : Nat) : Int))))) = ga at *
    have hOa : RO ga r := (hFa 110 (by omega)).trans hO
    have hTra : TR ga T := hTr.mv (hFa 111 (by omega))
    refine ax_aload_n dX4_readPattern_34 rfl ?_
    refine ax_cvv0 dX4_readPattern_35 ln_X4_readPattern_50 (Nat.le_of_ble_eq_true rfl) rfl (by omega) hOa rfl (sp_next hN hOa hT hTra hk) (fun g0 hq => ?_)
    obtain ⟨r0, hO0, ha0, hk0, y0⟩ := hq
    have e06 : r0 6 = r 6 := ha0 6 (by decide) (by decide) (by decide)
    have e07 : r0 7 = r 7 := ha0 7 (by decide) (by decide) (by decide)
    have h60 : -1000 ≤ r0 6 ∧ r0 6 ≤ 1000 := by omega
    have hS0 : SA NC g0 b (upN K 5 (K 5 + 1)) := hSa.eq (fun a a1 a2 => y0 a (by omega))
    have yb0 : YB b h g0 := (YB.rf.f hFa).y y0
    refine ax_aload_n dX4_readPattern_38 rfl ?_
    refine ax_getf dX4_readPattern_39 ck4 fl_X4_57 (by decide) (by omega) hO0 rfl ?_
    refine ax_iconst dX4_readPattern_42 ?_
    rw [hk0.2.2.2.2.1]
    refine ax_icmp_eq (tgt := 56) dX4_readPattern_43 (by decide) (by have := kd_rg (T := T) (n := n) (s := sN T n s); omega) (by omega) (fun c43 => ?_) (fun c43 => ?_)
    · refine ax_iconst dX4_readPattern_56 ?_
      refine ax_istore_n dX4_readPattern_57 rfl (by decide) ?_
      have stb : ST (chk (!isD T n (sN T n s)) (-2) ((sN T n s : Nat) : Int)) (r0 6) (r0 7) (r0 6) (r0 7) (fun _ => (!isD T n (sN T n s)) = false) := ST.chk (by decide) (if_neg (by rw [kd_d.mp c43]; decide)).symm
      refine l_pat (f := 7) hN hb hT (h0 := h) hTr (p := K 5) (by omega) 0 g0 r0 (sN T n s) (upN K 5 (K 5 + 1)) (by omega) hO0 hk0 h60 hS0 yb0 (by rw [up_ne (by omega)]; exact (hK.2.2.2.2.2.2.2.2 (K 5) (by omega)).1) (fun g4 r4 s4 K4 hO4 hk4 ha4 hS4 hY4 st4 => ⟨r4, s4, K4, hO4, hk4, hS4, hY4, (ha0.F).tr (agF.tr (⟨rfl, rfl, rfl, rfl, rfl⟩ : agF r0 r0) ha4), ?_⟩)
      unfold patP
      rw [← e06, ← e07]
      refine ST.bnd (ST.chk (p := decide (3 ≤ K 5)) (c := -5) (b := (s : Int)) (r := r0) (r1 := r0) (by decide) (if_neg (by rw [decide_eq_true_iff]; omega)).symm) (fun e => by have k1 := stb.keep e; have k2 := st4.keep (by omega); omega) (fun _ _ _ => ?_)
      exact ST.bnd stb (fun e => st4.keep e) (fun _ _ _ => st4)
    · refine ax_aload_n dX4_readPattern_46 rfl ?_
      refine ax_bipush dX4_readPattern_47 (by decide) ?_
      refine ax_aload_n dX4_readPattern_49 rfl ?_
      refine ax_getf dX4_readPattern_50 ck4 fl_X4_66 (by decide) (by omega) hO0 rfl ?_
      rw [hk0.2.2.2.1]
      refine ax_cvv2 dX4_readPattern_53 ln_X4_readPattern_89 (Nat.le_of_ble_eq_true rfl) rfl (by omega) hO0 rfl (sp_fail hN hO0 h60) (fun g1 hq => ?_)
      refine ax_iconst dX4_readPattern_56 ?_
      refine ax_istore_n dX4_readPattern_57 rfl (by decide) ?_
      obtain ⟨hO1, y1⟩ := hq
      have stb : ST (chk (!isD T n (sN T n s)) (-2) ((sN T n s : Nat) : Int)) (r0 6) (r0 7) (flr r0 (-2) ((sN T n s : Nat) : Int) 6) (flr r0 (-2) ((sN T n s : Nat) : Int) 7) (fun _ => (!isD T n (sN T n s)) = false) := ST.chk (by decide) (if_pos (by cases e : isD T n (sN T n s) with | true => exact absurd (kd_d.mpr e) c43 | false => rfl)).symm
      refine l_pat (f := 7) hN hb hT (h0 := h) hTr (p := K 5) (by omega) 0 g1 _ (sN T n s) (upN K 5 (K 5 + 1)) (by omega) hO1 hk0.fl (stb.rg h60) (hS0.eq (fun a a1 a2 => y1 a (by omega))) (yb0.y y1) (by rw [up_ne (by omega)]; exact (hK.2.2.2.2.2.2.2.2 (K 5) (by omega)).1) (fun g4 r4 s4 K4 hO4 hk4 ha4 hS4 hY4 st4 => ⟨r4, s4, K4, hO4, hk4, hS4, hY4, (ha0.F).tr (agF.tr flrF ha4), ?_⟩)
      unfold patP
      rw [← e06, ← e07]
      refine ST.bnd (ST.chk (p := decide (3 ≤ K 5)) (c := -5) (b := (s : Int)) (r := r0) (r1 := r0) (by decide) (if_neg (by rw [decide_eq_true_iff]; omega)).symm) (fun e => by have k1 := stb.keep e; have k2 := st4.keep (by omega); omega) (fun _ _ _ => ?_)
      exact ST.bnd stb (fun e => st4.keep e) (fun _ _ _ => st4)
  · refine ax_aload_n dX4_readPattern_8 rfl ?_
    refine ax_bipush dX4_readPattern_9 (by decide) ?_
    refine ax_aload_n dX4_readPattern_11 rfl ?_
    refine ax_getf dX4_readPattern_12 ck4 fl_X4_66 (by decide) (by omega) hO rfl ?_
    rw [hk.2.2.2.1]
    refine ax_cvv2 dX4_readPattern_15 ln_X4_readPattern_89 (Nat.le_of_ble_eq_true rfl) rfl (by omega) hO rfl (sp_fail hN hO h6) (fun g1 hq => ?_)
    obtain ⟨hO1, y1⟩ := hq
    exact ax_vret dX4_readPattern_18 rfl ⟨_, s, K, hO1, hk.fl, hS.eq (fun a a1 a2 => y1 a (by omega)), YB.rf.y y1, flrF, by unfold patP; have sta : ST (chk (decide (3 ≤ K 5)) (-5) (s : Int)) (r 6) (r 7) (flr r (-5) (s : Int) 6) (flr r (-5) (s : Int) 7) (fun _ => decide (3 ≤ K 5) = false) := ST.chk (by decide) (if_pos (decide_eq_true (by omega))).symm; exact ST.bnd sta (fun e => ⟨rfl, rfl⟩) (fun _ _ q => absurd q (by simp; omega))⟩
def kitP (T : Nat → Int) (n s : Nat) : (Int × Int) ⊕ (Nat × (Nat → Nat)) := bnd (wrdP T n 0 s) (fun s1 => bnd (numP T n 1 15 s1) (fun w => bnd (chk (decide (w.1 % 2 = 0)) (-3) (s1 : Int)) (fun _ => bnd (numP T n 1 12 w.2) (fun t => bnd (semP T n t.2) (fun s3 => .inr (s3, freshK w.1.toNat t.1.toNat))))))
theorem kit_fin {T : Nat → Int} {n s0 s1 s2 s4 s5 v1 v2 : Nat} {e a e1 a1 e2 a2 e3 a3 e4 a4 e5 a5 q2 q4 : Int} (h1 : ST (wrdP T n 0 s0) e a e1 a1 (fun y => s1 = y)) (h2 : ST (numP T n 1 15 s1) e1 a1 e2 a2 (fun y => (v1 : Int) = y.1 ∧ s2 = y.2 ∧ q2 = (s1 : Int)))
    (h3 : ST (chk (decide ((v1 : Int) % 2 = 0)) (-3) q2) e2 a2 e3 a3 (fun _ => decide ((v1 : Int) % 2 = 0) = false)) (h4 : ST (numP T n 1 12 s2) e3 a3 e4 a4 (fun y => (v2 : Int) = y.1 ∧ s4 = y.2 ∧ q4 = (s2 : Int))) (h5 : ST (semP T n s4) e4 a4 e5 a5 (fun y => s5 = y)) : ST (kitP T n s0) e a e5 a5 (fun v => s5 = v.1 ∧ freshK v1 v2 = v.2) := by
  unfold kitP
  refine ST.bnd h1 (fun e => by have k2 := h2.keep e; have k3 := h3.keep (by omega); have k4 := h4.keep (by omega); have k5 := h5.keep (by omega); omega) (fun y _ hy => ?_)
  subst hy
  refine ST.bnd h2 (fun e => by have k3 := h3.keep e; have k4 := h4.keep (by omega); have k5 := h5.keep (by omega); omega) (fun y _ hy => ?_)
  obtain ⟨w1, w2, w3⟩ := hy
  rw [← w1, ← w2, ← w3]
  refine ST.bnd h3 (fun e => by have k4 := h4.keep e; have k5 := h5.keep (by omega); omega) (fun y _ _ => ?_)
  refine ST.bnd h4 (fun e => by have k5 := h5.keep e; omega) (fun y _ hy => ?_)
  obtain ⟨w1, w2, -⟩ := hy
  rw [← w1, ← w2, Int.toNat_natCast, Int.toNat_natCast]
  refine ST.bnd h5 (fun e => ⟨rfl, rfl⟩) (fun y _ hy => ?_)
  subst hy
  exact ST.ok ⟨rfl, rfl⟩
theorem sp_readKite (hN : 112 ≤ NC) (hb : b + 10 ≤ 103) (hT : TX T) (hO : RO h r) (hTr : TR h T) (hk : TK T n r s) (h6 : -1000 ≤ r 6 ∧ r 6 ≤ 1000) (hS : SA NC h b K) : Cl NC M_X4_readKite [.ref 110, .ref b] h (fun _ h1 => ∃ r1 s1 K1, RO h1 r1 ∧ TK T n r1 s1 ∧ SA NC h1 b K1 ∧ YB b h h1 ∧ agF r r1 ∧ ST (kitP T n s) (r 6) (r 7) (r1 6) (r1 7) (fun v => s1 = v.1 ∧ K1 = v.2)) := by
  refine ax_aload_n dX4_readKite_0 rfl ?_
  refine ex_ldcS (j := 0) (tx := "kite") (by decide) dX4_readKite_1 ?_
  refine ax_cvv1 dX4_readKite_3 ln_X4_readKite_105 (Nat.le_of_ble_eq_true rfl) rfl (by omega) hO rfl (sp_readWord hN hO hT hTr hk h6 (j := 0) (by decide)) (fun g1 hq => ?_)
  obtain ⟨r1, s1, hO1, hk1, ha1, y1, st1⟩ := hq
  have hS1 : SA NC g1 b K := hS.eq (fun a a1 a2 => y1 a (by omega))
  have hTr1 : TR g1 T := hTr.mv (y1 111 (by decide))
  have h61 := st1.rg h6
  refine ax_aload_n dX4_readKite_6 rfl ?_
  refine ax_iconst dX4_readKite_7 ?_
  refine ax_bipush dX4_readKite_8 (by decide) ?_
  refine ax_cvi2 dX4_readKite_10 ln_X4_readKite_109 (Nat.le_of_ble_eq_true rfl) (Or.inl rfl) (by omega) hO1 rfl (sp_readNumber hN hO1 hT hTr1 hk1 h61 (by omega)) (fun ret g2 hq => ?_)
  obtain ⟨z2, r2, s2, hv, hz2, hO2, hk2, ha2, y2, st2⟩ := hq
  cases hv
  obtain ⟨v2, rfl⟩ : ∃ m : Nat, z2 = (m : Int) := ⟨z2.toNat, by omega⟩
  have hS2 : SA NC g2 b K := hS1.eq (fun a a1 a2 => y2 a (by omega))
  have hTr2 : TR g2 T := hTr1.mv (y2 111 (by decide))
  have h62 := st2.rg h61
  have yb2 : YB b h g2 := (YB.rf.y y1).y y2
  refine ax_istore_n dX4_readKite_13 rfl (by decide) ?_
  refine ax_iload_n dX4_readKite_14 rfl ?_
  refine ax_iconst dX4_readKite_15 ?_
  refine ax_irem dX4_readKite_16 (by omega) (by omega) ?_
  refine ax_if_ne (tgt := 30) dX4_readKite_17 (by decide) (by omega) (fun c17 => ?_) (fun c17 => ?_)
  · have st3 : ST (chk (decide ((v2 : Int) % 2 = 0)) (-3) (r2 8)) (r2 6) (r2 7) (r2 6) (r2 7) (fun _ => decide ((v2 : Int) % 2 = 0) = false) := ST.chk (by decide) (if_neg (by rw [decide_eq_true_iff]; omega)).symm
    refine ax_aload_n dX4_readKite_30 rfl ?_
    refine ax_iconst dX4_readKite_31 ?_
    refine ax_bipush dX4_readKite_32 (by decide) ?_
    refine ax_cvi2 dX4_readKite_34 ln_X4_readKite_109 (Nat.le_of_ble_eq_true rfl) (Or.inl rfl) (by omega) hO2 rfl (sp_readNumber hN hO2 hT hTr2 hk2 h62 (by omega)) (fun ret g4 hq => ?_)
    obtain ⟨z4, r4, s4, hv, hz4, hO4, hk4, ha4, y4, st4⟩ := hq
    cases hv
    obtain ⟨v4, rfl⟩ : ∃ m : Nat, z4 = (m : Int) := ⟨z4.toNat, by omega⟩
    have hS4 : SA NC g4 b K := hS2.eq (fun a a1 a2 => y4 a (by omega))
    have hTr4 : TR g4 T := hTr2.mv (y4 111 (by decide))
    have h64 := st4.rg h62
    refine ax_istore_n dX4_readKite_37 rfl (by decide) ?_
    refine ax_aload_n dX4_readKite_38 rfl ?_
    refine ax_cvv0 dX4_readKite_39 ln_X4_readKite_63 (Nat.le_of_ble_eq_true rfl) rfl (by omega) hO4 rfl (sp_readSemicolon hN hO4 hT hTr4 hk4 h64) (fun g5 hq => ?_)
    obtain ⟨r5, s5, hO5, hk5, ha5, y5, st5⟩ := hq
    have hS5 : SA NC g5 b K := hS4.eq (fun a a1 a2 => y5 a (by omega))
    refine ax_aload_n dX4_readKite_42 rfl ?_
    refine ax_iload_n dX4_readKite_43 rfl ?_
    refine ax_iload_n dX4_readKite_44 rfl ?_
    refine ax_cvv2 dX4_readKite_45 ln_X4_readKite_112 (Nat.le_of_ble_eq_true rfl) rfl hS5.n0 hS5.o rfl (sp_beginAnew hS5 (w := v2) (t := v4) (by omega)) (fun g6 hq => ?_)
    obtain ⟨hS6, hF6⟩ := hq
    exact ax_vret dX4_readKite_48 rfl ⟨r5, s5, _, (hF6 110 (by omega)).trans hO5, hk5, hS6, (((yb2).y y4).y y5).f hF6, (ha1.tr ha2).tr (agF.tr (⟨rfl, rfl, rfl, rfl, rfl⟩ : agF r2 r2) (ha4.tr ha5)), kit_fin st1 st2 st3 st4 st5⟩
  · refine ax_aload_n dX4_readKite_20 rfl ?_
    refine ax_bipush dX4_readKite_21 (by decide) ?_
    refine ax_aload_n dX4_readKite_23 rfl ?_
    refine ax_getf dX4_readKite_24 ck4 fl_X4_93 (by decide) (by omega) hO2 rfl ?_
    refine ax_cvv2 dX4_readKite_27 ln_X4_readKite_89 (Nat.le_of_ble_eq_true rfl) rfl (by omega) hO2 rfl (sp_fail hN hO2 h62) (fun g3 hq => ?_)
    obtain ⟨hO3, y3⟩ := hq
    have st3 : ST (chk (decide ((v2 : Int) % 2 = 0)) (-3) (r2 8)) (r2 6) (r2 7) (flr r2 (-3) (r2 8) 6) (flr r2 (-3) (r2 8) 7) (fun _ => decide ((v2 : Int) % 2 = 0) = false) := ST.chk (by decide) (if_pos (decide_eq_true (by omega))).symm
    have hTr3 : TR g3 T := hTr2.mv (y3 111 (by decide))
    have hS3 : SA NC g3 b K := hS2.eq (fun a a1 a2 => y3 a (by omega))
    have h63 := st3.rg h62
    have hk3 : TK T n (flr r2 (-3) (r2 8)) s2 := hk2.fl
    refine ax_aload_n dX4_readKite_30 rfl ?_
    refine ax_iconst dX4_readKite_31 ?_
    refine ax_bipush dX4_readKite_32 (by decide) ?_
    refine ax_cvi2 dX4_readKite_34 ln_X4_readKite_109 (Nat.le_of_ble_eq_true rfl) (Or.inl rfl) (by omega) hO3 rfl (sp_readNumber hN hO3 hT hTr3 hk3 h63 (by omega)) (fun ret g4 hq => ?_)
    obtain ⟨z4, r4, s4, hv, hz4, hO4, hk4, ha4, y4, st4⟩ := hq
    cases hv
    obtain ⟨v4, rfl⟩ : ∃ m : Nat, z4 = (m : Int) := ⟨z4.toNat, by omega⟩
    have hS4 : SA NC g4 b K := hS3.eq (fun a a1 a2 => y4 a (by omega))
    have hTr4 : TR g4 T := hTr3.mv (y4 111 (by decide))
    have h64 := st4.rg h63
    refine ax_istore_n dX4_readKite_37 rfl (by decide) ?_
    refine ax_aload_n dX4_readKite_38 rfl ?_
    refine ax_cvv0 dX4_readKite_39 ln_X4_readKite_63 (Nat.le_of_ble_eq_true rfl) rfl (by omega) hO4 rfl (sp_readSemicolon hN hO4 hT hTr4 hk4 h64) (fun g5 hq => ?_)
    obtain ⟨r5, s5, hO5, hk5, ha5, y5, st5⟩ := hq
    have hS5 : SA NC g5 b K := hS4.eq (fun a a1 a2 => y5 a (by omega))
    refine ax_aload_n dX4_readKite_42 rfl ?_
    refine ax_iload_n dX4_readKite_43 rfl ?_
    refine ax_iload_n dX4_readKite_44 rfl ?_
    refine ax_cvv2 dX4_readKite_45 ln_X4_readKite_112 (Nat.le_of_ble_eq_true rfl) rfl hS5.n0 hS5.o rfl (sp_beginAnew hS5 (w := v2) (t := v4) (by omega)) (fun g6 hq => ?_)
    obtain ⟨hS6, hF6⟩ := hq
    exact ax_vret dX4_readKite_48 rfl ⟨r5, s5, _, (hF6 110 (by omega)).trans hO5, hk5, hS6, (((yb2.y y3).y y4).y y5).f hF6, (ha1.tr ha2).tr (agF.tr flrF (ha4.tr ha5)), kit_fin st1 st2 st3 st4 st5⟩
end RD
