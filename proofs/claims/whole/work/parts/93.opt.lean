/-! load, and the rows without a wrapper -/
section OPT
variable {Γ : en} {l : Launch} {St : State → Prop} {h : hp}
theorem op_load (hE : envOK Γ St) {adV : Nat → Nat} (hX : envX Γ St adV) (hl9 : l.stackTraces = false) (hLn : envL St) (hI : LI h) {a : Int} (ga : -2147483648 ≤ a ∧ a < 2147483648)  : OpW Γ l St M_L_load H_load M_X6_load [.int (I a)] h := by
  obtain ⟨K, H, d, T, e, s, r, fl, hLK, hA, hB, hO⟩ := hI
  have hK := hLK.1
  obtain ⟨hK0, hH, hT, h7, h1, h2, hfl⟩ := id hLK
  by_cases q : 0 ≤ a ∧ a ≤ (fl : Int)
  · obtain ⟨a, rfl⟩ := Int.eq_ofNat_of_zero_le (show 0 ≤ a by omega)
    obtain ⟨a1, ⟨KS, a2⟩, a3, a4, a5, a6, a7, a8, a9, ⟨n0, a10⟩, a11, a12, a13⟩ := id hA
    refine op_fine hO ⟨_, hB.1.1⟩ (fun c ho => wr_load hE hX hl9 (by omega) hA.2.2.1 c ho) (sp_load (by omega) hT hA.2.2.1 hA.1 a2 a4 a5 a6 (n := a) (by omega)) (fun v h1 q9 => ?_)
    obtain ⟨e1, r1, KS1, z, rfl, qW, qR, q1, qP, qf, qq⟩ := q9
    have fr : ∀ a, a ≠ 110 ∧ 103 ≤ a → h1 a = h a := fun b hb => qf b hb.1 hb.2
    refine ⟨fun a ha => fr a (by omega), ?_⟩
    have hu6 : ∀ u : hp, (∀ a, a ≠ 131 → u a = h1 a) → LB u s K H d T := fun u hu => hB.eq (fun a k1 k2 => (hu a (by omega)).trans (fr a (by omega)))
    rcases qq with ⟨c, b, qs, rfl, rfl, qS, qC⟩ | ⟨K1, qs, rfl, rfl, qS, qC⟩
    · refine ⟨_, K, H, d, _, r1, T, rfl, ⟨qS, ⟨_, qP⟩, qW, qC, qR, a6.mv (fr 111 (by omega)), (fr 103 (by omega)).trans a7, a8.mv (fr 104 (by omega)), a9.mv (fr 105 (by omega)), ⟨n0, (fr 106 (by omega)).trans a10⟩, a11.mv (fr 107 (by omega)), a12.mv (fr 108 (by omega)), a13.mv (fr 109 (by omega))⟩, fun u hu => ?_⟩
      obtain ⟨b1, b2, b3, b4, b5, b6, b7, b8, b9, b10, b11⟩ := hu6 u hu
      refine ⟨_, s6_load (by omega) hT b1.1 b4 b5 b1.2 b2 b3 (n := a) (by omega), fun v2 u2 q8 => ?_⟩
      obtain ⟨s1, v, rfl, pO, p0, p2, p15, pf, pp⟩ := q8
      rcases pp with ⟨c2, b9', ps, rfl, p7, p12, p114, pH⟩ | ⟨K2, ps, rfl, p7, p12, pR, pH⟩
      · have e9 := qs.symm.trans ps
        cases e9
        refine ⟨rfl, (fun a ha => pf a (by omega) (by omega) (by omega) (by omega)), s1, 0, ⟨hK, hH, hT, p7, q1, p2, by omega⟩, ⟨⟨pO, b1.2.mv p114⟩, b2.eq ?_, p12.trans b3, b4.mv (pf 113 (by omega) (by omega) (by omega) (by omega)), p15, b6.mv (pf 116 (by omega) (by omega) (by omega) (by omega)), b7.mv (pf 126 (by omega) (by omega) (by omega) (by omega)), b8.mv (pf 127 (by omega) (by omega) (by omega) (by omega)), b9.mv (pf 128 (by omega) (by omega) (by omega) (by omega)), b10.mv (pf 129 (by omega) (by omega) (by omega) (by omega)), b11.mv (pf 130 (by omega) (by omega) (by omega) (by omega))⟩, p0⟩
        intro a k1 k2
        rcases (by omega : a = 117 ∨ 118 ≤ a) with rfl | k3
        · exact pf 117 (by omega) (by omega) (by omega) (by omega)
        · exact pH a k3 k2
      · exact absurd (qs.symm.trans ps) (by intro z; cases z)
    · refine ⟨_, K1, psh K H, min (d + 1) 8, _, r1, T, rfl, ⟨qS, ⟨_, qP⟩, qW, qC, qR, a6.mv (fr 111 (by omega)), (fr 103 (by omega)).trans a7, a8.mv (fr 104 (by omega)), a9.mv (fr 105 (by omega)), ⟨n0, (fr 106 (by omega)).trans a10⟩, a11.mv (fr 107 (by omega)), a12.mv (fr 108 (by omega)), a13.mv (fr 109 (by omega))⟩, fun u hu => ?_⟩
      obtain ⟨b1, b2, b3, b4, b5, b6, b7, b8, b9, b10, b11⟩ := hu6 u hu
      refine ⟨_, s6_load (by omega) hT b1.1 b4 b5 b1.2 b2 b3 (n := a) (by omega), fun v2 u2 q8 => ?_⟩
      obtain ⟨s1, v, rfl, pO, p0, p2, p15, pf, pp⟩ := q8
      rcases pp with ⟨c2, b9', ps, rfl, p7, p12, p114, pH⟩ | ⟨K2, ps, rfl, p7, p12, pR, pH⟩
      · exact absurd (qs.symm.trans ps) (by intro z; cases z)
      · have e9 := qs.symm.trans ps
        cases e9
        exact ⟨rfl, (fun a ha => pf a (by omega) (by omega) (by omega) (by omega)), s1, 0, ⟨set_in qs, psh_KI hK hH, hT, p7, q1, p2, by omega⟩, ⟨⟨pO, pR⟩, pH, p12, b4.mv (pf 113 (by omega) (by omega) (by omega) (by omega)), p15, b6.mv (pf 116 (by omega) (by omega) (by omega) (by omega)), b7.mv (pf 126 (by omega) (by omega) (by omega) (by omega)), b8.mv (pf 127 (by omega) (by omega) (by omega) (by omega)), b9.mv (pf 128 (by omega) (by omega) (by omega) (by omega)), b10.mv (pf 129 (by omega) (by omega) (by omega) (by omega)), b11.mv (pf 130 (by omega) (by omega) (by omega) (by omega))⟩, p0⟩
  · exact op_throw (z := 1) (by omega) hLK hA hB hO (wx_load1 hE hX hl9 hLn (by omega) hA.2.2.1 (sx_load (by omega) ga hA.2.2.1 hA.2.2.2.2.1 (by omega) (by omega))) (s6_loadT (by omega) hB.1 ga (by omega) (by omega))
theorem opD_pure {Y5 Y6 : mt} {As : List Value} {z : Int} {K : Nat → Nat} {H : Nat → Nat → Nat} {d : Nat} {e : Int} {s r T : Nat → Int} {fl : Nat} (hLK : LK K H d T e s r fl) (hA : LA h K H d e r T) (hB : LB h s K H d T) (hO : LO h) (c5 : Cl 132 Y5 (.ref 0 :: As) h (fun v h1 => v = .int (I z) ∧ h1 = h)) (c6 : Cl 132 Y6 (.ref 112 :: As) h (fun v h1 => v = .int (I z) ∧ MD h1 (upZ s 0 0) K ∧ Y2 h h1)) : OpD Y5 Y6 As h := by
  refine ⟨_, c5, fun v h1 q => ?_⟩
  obtain ⟨q1, rfl⟩ := q
  obtain ⟨f, hf⟩ := hO
  exact ⟨I z, _, _, q1, hB.1.1, c6, fun v2 u q2 => ⟨q2.1, K, H, d, T, e, upZ s 0 0, r, fl, hLK, hA.eq (fun a ha => q2.2.2 a (by omega)), hB.s0 q2.2.1 q2.2.2, f, (q2.2.2 131 (by omega)).trans hf⟩⟩
theorem op_errorOffset (hI : LI h) : OpD M_X5_errorOffset M_X6_errorOffset [] h := by
  obtain ⟨K, H, d, T, e, s, r, fl, hLK, hA, hB, hO⟩ := hI
  have c6 := s6_errorOffset (NC := 132) (by omega) hB.1
  rw [hLK.2.2.2.1] at c6
  exact opD_pure hLK hA hB hO (sp_errorOffset (by omega) hA.2.2.1) c6
theorem op_unlike (hI : LI h) : OpD M_X5_unlike M_X6_unlike [] h := by
  obtain ⟨K, H, d, T, e, s, r, fl, hLK, hA, hB, hO⟩ := hI
  exact opD_pure hLK hA hB hO (sp_unlike (by omega) hA.2.2.1 hA.1 hLK.1) (s6_unlike (by omega) hB.1 hLK.1)
theorem op_driesIn (hI : LI h) : OpD M_X5_driesIn M_X6_driesIn [] h := by
  obtain ⟨K, H, d, T, e, s, r, fl, hLK, hA, hB, hO⟩ := hI
  have hK := hLK.1
  refine ⟨_, sp_driesIn (by omega) hA.2.2.1 hA.1 hK, fun v h1 q => ?_⟩
  obtain ⟨q1, rfl⟩ := q
  obtain ⟨b1, b2, b3, b4, b5, b6, b7, b8, b9, b10, b11⟩ := id hB
  obtain ⟨f, hf⟩ := hO
  refine ⟨_, _, _, q1, hB.1.1, s6_driesIn (by omega) b1 hK b6 b7 b8 b9, fun v2 u2 q8 => ?_⟩
  obtain ⟨rfl, pM, p16, p1, p2, p3, pf⟩ := q8
  have gr : ∀ a, a ≠ 112 ∧ a ≠ 114 ∧ a ≠ 116 ∧ a ≠ 126 ∧ a ≠ 127 ∧ a ≠ 128 → u2 a = h1 a := fun b hb => pf b hb.1 hb.2.1 hb.2.2.1 hb.2.2.2.1 hb.2.2.2.2.1 hb.2.2.2.2.2
  exact ⟨rfl, K, H, d, T, e, upZ s 0 0, r, fl, hLK, hA.eq (fun a ha => gr a (by omega)), ⟨pM, b2.eq (fun a h1 h2 => gr a (by omega)), b3, b4.mv (gr 113 (by omega)), b5.mv (gr 115 (by omega)), p16, p1, p2, p3, b10.mv (gr 129 (by omega)), b11.mv (gr 130 (by omega))⟩, f, (gr 131 (by omega)).trans hf⟩
theorem op_undo (hI : LI h) : OpD M_X5_undo M_X6_undo [] h := by
  obtain ⟨K, H, d, T, e, s, r, fl, hLK, hA, hB, hO⟩ := hI
  have hK := hLK.1
  obtain ⟨a1, ⟨KS, a2⟩, a3, a4, a5, a6, a7, a8, a9, ⟨n0, a10⟩, a11, a12, a13⟩ := id hA
  by_cases q : d = 0
  · subst q
    exact opD_pure hLK hA hB hO (sp_undo0 (by omega) a3 a1 hK a4) (s6_undo0 (by omega) hB.1 hB.2.2.1)
  · refine ⟨_, sp_undo (by omega) a3 a1 hK a4 (by omega), fun v h1 q9 => ?_⟩
    obtain ⟨rfl, qC, qS, qf⟩ := q9
    have fr : ∀ a, a ≠ 21 ∧ (a < 1 ∨ 11 ≤ a) → h1 a = h a := fun b hb => qf b hb.1 hb.2
    have hB1 : LB h1 s K H d T := hB.eq (fun a k1 k2 => fr a (by omega))
    obtain ⟨b1, b2, b3, b4, b5, b6, b7, b8, b9, b10, b11⟩ := id hB1
    obtain ⟨f, hf⟩ := hO
    refine ⟨_, _, _, rfl, b1.1, s6_undo (by omega) b1 b3 b2 (by omega), fun v2 u2 q8 => ?_⟩
    obtain ⟨rfl, pM, pH, pf⟩ := q8
    have gr : ∀ a, a ≠ 112 ∧ a ≠ 114 → u2 a = h1 a := fun b hb => pf b hb.1 hb.2
    have hA1 : LA h1 (H 0) (fun t => H (t + 1)) (d - 1) e r T := ⟨qS, ⟨KS, a2.eq (fun a h1 h2 => fr a (by omega))⟩, (fr 0 (by omega)).trans a3, qC, (fr 110 (by omega)).trans a5, a6.mv (fr 111 (by omega)), (fr 103 (by omega)).trans a7, a8.mv (fr 104 (by omega)), a9.mv (fr 105 (by omega)), ⟨n0, (fr 106 (by omega)).trans a10⟩, a11.mv (fr 107 (by omega)), a12.mv (fr 108 (by omega)), a13.mv (fr 109 (by omega))⟩
    exact ⟨rfl, H 0, fun t => H (t + 1), d - 1, T, e, upZ (upZ s 0 0) 12 ((d - 1 : Nat) : Int), r, fl, ⟨hLK.2.1 0 (by omega), fun t ht => hLK.2.1 (t + 1) (by omega), hLK.2.2⟩, hA1.eq (fun a ha => gr a (by omega)), ⟨pM, pH, rfl, b4.mv (gr 113 (by omega)), b5.mv (gr 115 (by omega)), b6.mv (gr 116 (by omega)), b7.mv (gr 126 (by omega)), b8.mv (gr 127 (by omega)), b9.mv (gr 128 (by omega)), b10.mv (gr 129 (by omega)), b11.mv (gr 130 (by omega))⟩, f, (gr 131 (by omega)).trans ((fr 131 (by omega)).trans hf)⟩
theorem op_append {w0 w1 w2 w3 w4 : Int32} (hI : LI h) : OpD M_X5_append M_X6_append [.int w0, .int w1, .int w2, .int w3, .int w4] h := by
  obtain ⟨K, H, d, T, e, s, r, fl, hLK, hA, hB, hO⟩ := hI
  obtain ⟨hK, hH, hT, h7, h1, h2, hfl⟩ := id hLK
  obtain ⟨a1, ⟨KS, a2⟩, a3, a4, a5, a6, a7, a8, a9, ⟨n0, a10⟩, a11, a12, a13⟩ := id hA
  by_cases q : fl ≤ 580
  · refine ⟨_, sp_append (by omega) a3 a5 a6 h1 q, fun v h1 q9 => ?_⟩
    obtain ⟨r1, rfl, qR, qT, q1, qr, qf⟩ := q9
    have fr : ∀ a, a ≠ 110 ∧ a ≠ 111 → h1 a = h a := fun b hb => qf b hb.1 hb.2
    have hB1 : LB h1 s K H d T := hB.eq (fun a k1 k2 => fr a (by omega))
    obtain ⟨b1, b2, b3, b4, b5, b6, b7, b8, b9, b10, b11⟩ := id hB1
    obtain ⟨f, hf⟩ := hO
    refine ⟨_, _, _, rfl, b1.1, s6_append (by omega) b1.1 b4 h2 q, fun v2 u2 q8 => ?_⟩
    obtain ⟨s1, rfl, pO, pT, p2, p0, ps, pf⟩ := q8
    have gr : ∀ a, a ≠ 112 ∧ a ≠ 113 → u2 a = h1 a := fun b hb => pf b hb.1 hb.2
    have hA1 : LA h1 K H d e r1 (aK T fl (wS w0 w1 w2 w3 w4) 20) := ⟨a1.eq (fun a h1 h2 => fr a (by omega)), ⟨KS, a2.eq (fun a h1 h2 => fr a (by omega))⟩, (fr 0 (by omega)).trans a3, a4.eq (fun a h1 h2 => fr a (by omega)), qR, qT, (fr 103 (by omega)).trans a7, a8.mv (fr 104 (by omega)), a9.mv (fr 105 (by omega)), ⟨n0, (fr 106 (by omega)).trans a10⟩, a11.mv (fr 107 (by omega)), a12.mv (fr 108 (by omega)), a13.mv (fr 109 (by omega))⟩
    exact ⟨rfl, K, H, d, _, e, s1, r1, fl + 20, ⟨hK, hH, hT.aK 20, (ps 7 (by omega) (by omega)).trans h7, q1, p2, by omega⟩, hA1.eq (fun a ha => gr a (by omega)), ⟨⟨pO, b1.2.mv (gr 114 (by omega))⟩, b2.eq (fun a h1 h2 => gr a (by omega)), (ps 12 (by omega) (by omega)).trans b3, pT, b5.mv (gr 115 (by omega)), b6.mv (gr 116 (by omega)), b7.mv (gr 126 (by omega)), b8.mv (gr 127 (by omega)), b9.mv (gr 128 (by omega)), b10.mv (gr 129 (by omega)), b11.mv (gr 130 (by omega))⟩, f, (gr 131 (by omega)).trans ((fr 131 (by omega)).trans hf)⟩
  · refine ⟨_, sp_append0 (by omega) a3 a5 h1 (by omega), fun v h1 q9 => ?_⟩
    obtain ⟨q1, rfl⟩ := q9
    obtain ⟨f, hf⟩ := hO
    exact ⟨I (-1), _, _, q1, hB.1.1, s6_append0 (by omega) hB.1.1 h2 (by omega), fun v2 u q2 => ⟨q2.1, K, H, d, T, e, upZ s 0 0, r, fl, hLK, hA.eq (fun a ha => q2.2.2 a (by omega)), hB.s0 ⟨q2.2.1, hB.1.2.mv (q2.2.2 114 (by omega))⟩ q2.2.2, f, (q2.2.2 131 (by omega)).trans hf⟩⟩
def OpV (h : hp) : Prop := ∃ (w : UInt32) (fs fs6 : List Value) (Q6 : qt), h 0 = .inr (5, fs) ∧ h 112 = .inr (6, fs6) ∧ vf_n64 (FP.f2d w) ∧ (∀ op, Op.cmpValue (FP.dcmp (FP.f2d w) (FP.f2d w)) op = 0) ∧ Cl 132 M_X5_covered [.ref 0] h (fun v h1 => v = .float w ∧ h1 = h) ∧ Cl 132 M_X6_covered [.ref 112] h Q6 ∧ ∀ v u, Q6 v u → v = .float w ∧ LI u
def OpL (Γ : en) (l : Launch) (St : State → Prop) (h : hp) : Prop := ∃ (w : Int64) (fs fs6 : List Value) (Q6 : Int64 → hp → Prop), h 0 = .inr (5, fs) ∧ h 112 = .inr (6, fs6) ∧ MetL Γ l St 132 M_X5_checksum [.ref 0] h (fun r u => r = w ∧ u = h) ∧ MetL Γ l St 132 M_X6_checksum [.ref 112] h Q6 ∧ ∀ r u, Q6 r u → r = w ∧ LI u
theorem op_checksum (hE : envOK Γ St) {adV : Nat → Nat} (hX : envX Γ St adV) (hl9 : l.stackTraces = false) (hI : LI h) : OpL Γ l St h := by
  obtain ⟨K, H, d, T, e, s, r, fl, hLK, hA, hB, f, hf⟩ := hI
  exact ⟨sumC K (nC K), _, _, _, hA.2.2.1, hB.1.1, sl_checksum hE hX hl9 (by omega) hA.2.2.1 hA.1 hLK.1, s6l_checksum hE hX hl9 (by omega) hB.1 hLK.1, fun r9 u q2 => ⟨q2.1, K, H, d, T, e, upZ s 0 0, r, fl, hLK, hA.eq (fun a ha => q2.2.2 a (by omega)), hB.s0 q2.2.1 q2.2.2, f, (q2.2.2 131 (by omega)).trans hf⟩⟩
theorem fin_ok {a b : Int32} (hb : b ≠ 0) : vf_n32 (FP.fdiv (FP.i2f a) (FP.i2f b)) ∧ vf_n64 (FP.f2d (FP.fdiv (FP.i2f a) (FP.i2f b))) ∧ FP.dcmp (FP.f2d (FP.fdiv (FP.i2f a) (FP.i2f b))) (FP.f2d (FP.fdiv (FP.i2f a) (FP.i2f b))) = some Ordering.eq := by
  have ha : FP.Core.fIsNaN (FP.Core.i2f a) = false := by
    have := FP.Core.i2f_mag a
    rw [FP.Core.notNaN_iff32, FP.Core.ne_nan32]; omega
  have hw : FP.Core.fIsNaN (FP.Core.fdiv (FP.Core.i2f a) (FP.Core.i2f b)) = false := FP.Core.fdiv_out ha (FP.Core.i2f_fin b) (by rw [FP.Core.zero_bits232]; exact FP.Core.i2f_ne_zero hb)
  have hd := FP.Core.f2d_out hw
  have e1 : FP.fdiv (FP.i2f a) (FP.i2f b) = FP.Core.fdiv (FP.Core.i2f a) (FP.Core.i2f b) := rfl
  have e2 : FP.f2d (FP.Core.fdiv (FP.Core.i2f a) (FP.Core.i2f b)) = FP.Core.f2d (FP.Core.fdiv (FP.Core.i2f a) (FP.Core.i2f b)) := by
    unfold FP.f2d; rw [hw]; rfl
  rw [e1, e2]
  have n1 := (FP.Core.ne_nan32 _).mp ((FP.Core.notNaN_iff32 _).mp hw)
  have n2 := (FP.Core.ne_nan _).mp ((FP.Core.notNaN_iff _).mp hd)
  refine ⟨?_, ?_, FP.Core.dcmp_self ((FP.Core.notNaN_iff _).mp hd)⟩
  · unfold vf_n32
    rw [UInt32.le_iff_toNat_le, UInt32.toNat_and, show (0x7fffffff : UInt32).toNat = 2 ^ 31 - 1 from rfl, Nat.and_two_pow_sub_one_eq_mod]
    exact n1
  · unfold vf_n64
    rw [UInt64.le_iff_toNat_le, UInt64.toNat_and, show (0x7fffffffffffffff : UInt64).toNat = 2 ^ 63 - 1 from rfl, Nat.and_two_pow_sub_one_eq_mod]
    exact n2
theorem op_covered (hI : LI h) : OpV h := by
  obtain ⟨K, H, d, T, e, s, r, fl, hLK, hA, hB, f, hf⟩ := hI
  have hK := hLK.1
  have a1 := all_pos hK
  have n0 := nC_le hK
  have a2 := cnt_rg (K := K) 0 (nC K)
  change 0 ≤ cntC K 0 ∧ cntC K 0 ≤ allC K ∧ allC K ≤ _ at a2
  have hb : I (allC K) ≠ 0 := fun q => by
    have := (I_eq (by omega) (by omega)).mp (q.trans I_0)
    omega
  obtain ⟨c1, c2, c3⟩ : vf_n32 (covN K) ∧ vf_n64 (FP.f2d (covN K)) ∧ FP.dcmp (FP.f2d (covN K)) (FP.f2d (covN K)) = some Ordering.eq := fin_ok hb
  refine ⟨covN K, _, _, _, hA.2.2.1, hB.1.1, c2, fun op => by rw [c3]; rfl, sp_covered (by omega) hA.2.2.1 hA.1 hK c1, s6_covered (by omega) hB.1 hK c1, fun v u q2 => ⟨q2.1, K, H, d, T, e, upZ s 0 0, r, fl, hLK, hA.eq (fun a ha => q2.2.2 a (by omega)), hB.s0 q2.2.1 q2.2.2, f, (q2.2.2 131 (by omega)).trans hf⟩⟩
end OPT
