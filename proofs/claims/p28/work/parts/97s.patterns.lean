/-! THE RANDOM KITE: patterns, the end -/
theorem PL.fr {h h1 : hg} {q j : Nat} {K : Nat → Nat} {D : Nat → Prop} (hP : PL h q K j) (hF : FRM h h1 D) (dq : ¬ D q) (ds : ∀ a x, h a = some (.inr (9, x)) → ¬ D a) (dv : ∀ a n g, h a = some (.inl (1, n, g)) → ¬ D a) : PL h1 q K j := by
  obtain ⟨st, a1, a2⟩ := hP
  refine ⟨st, a1.fr hF dq, fun l hl => ?_⟩
  obtain ⟨va, hs, hz, b1, b2⟩ := a2 l hl
  refine ⟨va, hs, hz, hF _ _ b1 (ds _ _ b1), b2.fr hF ?_⟩
  obtain ⟨g, e, -⟩ := b2
  exact dv _ _ _ e
theorem STR.fr {h h1 : hg} {a n : Nat} {f : Nat → Int} {D : Nat → Prop} (hP : STR h a n f) (hF : FRM h h1 D) (ds : ∀ a x, h a = some (.inr (9, x)) → ¬ D a) (dv : ∀ a n g, h a = some (.inl (1, n, g)) → ¬ D a) : STR h1 a n f := by
  obtain ⟨va, hs, hz, b1, b2⟩ := hP
  refine ⟨va, hs, hz, hF _ _ b1 (ds _ _ b1), b2.fr hF ?_⟩
  obtain ⟨g, e, -⟩ := b2
  exact dv _ _ _ e
theorem PL.k {h : hg} {q j : Nat} {K K' : Nat → Nat} (hP : PL h q K j) (hk : ∀ i, 614 + 44 * j ≤ i → i < 614 + 44 * j + 44 → K' i = K i) (h6 : K (615 + 44 * j) ≤ 6) (h7 : K (614 + 44 * j) ≤ 7) : PL h q K' j := by
  obtain ⟨st, a1, a2⟩ := hP
  refine ⟨st, by rw [hk _ (by omega) (by omega)]; exact a1, fun l hl => ?_⟩
  rw [hk _ (by omega) (by omega)] at hl
  obtain ⟨va, hs, hz, b1, b2⟩ := a2 l hl
  refine ⟨va, hs, hz, b1, ?_⟩
  rw [hk _ (by omega) (by omega)]
  exact b2.cong (fun d hd => by rw [hk _ (by omega) (by omega)])
/-- kinds of cells that a frame spares -/
def spB (h : hg) (D : Nat → Prop) : Prop := (∀ a x, h a = some (.inr (9, x)) → ¬ D a) ∧ ∀ a n g, h a = some (.inl (1, n, g)) → ¬ D a
theorem spB.i {h : hg} {b n : Nat} {f : Nat → Int} (hb : rwI 0 (h b) n f) : spB h (fun x => x = b) := by
  obtain ⟨g, e, -⟩ := hb
  exact ⟨fun a x h1 z => (by rw [z, e] at h1; cases h1), fun a n1 g1 h1 z => (by rw [z, e] at h1; cases h1)⟩
theorem spB.q {h : hg} {b n : Nat} {t : Nat} {f : Nat → Option Nat} (hb : rwQ t (h b) n f) (ht : t ≠ 1) : spB h (fun x => x = b) := by
  obtain ⟨g, e, -⟩ := hb
  refine ⟨fun a x h1 z => (by rw [z, e] at h1; cases h1), fun a n1 g1 h1 z => ?_⟩
  rw [z, e] at h1
  simp at h1
  exact ht h1.1
theorem spB.o {h : hg} {r ci : Nat} {vs : List Value} (hb : h r = some (.inr (ci, vs))) (ht : ci ≠ 9) : spB h (fun x => x = r) := by
  refine ⟨fun a x h1 z => ?_, fun a n1 g1 h1 z => by rw [z, hb] at h1; cases h1⟩
  rw [z, hb] at h1
  simp at h1
  exact ht h1.1
theorem spB.f {h : hg} : spB h (fun _ => False) := ⟨fun _ _ _ z => z, fun _ _ _ _ z => z⟩
section BN2
variable {la : Bool} {u : hp} {h h1 : hg} {b r k w m p cl : Nat} {ce K K0 : Nat → Nat} {H : Nat → Nat → Nat} {d : Nat} {e : Int} {xs ys : List Int}
theorem Bn.rf (hB : Bn la u h b r k w m p cl ce K K0 H d e xs) (hF : FRM h h1 (fun x => x = r)) (hR : RND h1 r) : Bn la u h1 b r k w m p cl ce K K0 H d e xs := by
  obtain ⟨s0, hs⟩ := hB.rnd
  refine ⟨hB.1.fr hF (fun z => ?_) (hB.wr.no hs) (fun j hj => ?_), fun q => (hB.2.1 q).fr hF ((hB.2.1 q).1.no hs) (fun i hi oi z => ?_), hB.wb.fr hF (hB.bf.no hs), hR, hB.2.2.2.2⟩
  · have := hB.kf
    rw [z, hs] at this
    simp at this
  · by_cases z : j = 0
    · subst z; exact hB.mr.no hs
    · have := (hB.mx (a := j - 1) (by omega)).no hs
      rw [show m + 1 + (j - 1) = m + j by omega] at this
      exact this
  · have := (hB.2.1 q).2 i hi oi
    rw [z, hs] at this
    simp at this
/-- an array of references of another kind is written -/
theorem Bn.qf {t q n : Nat} {f : Nat → Option Nat} (hB : Bn la u h b r k w m p cl ce K K0 H d e xs) (hq : rwQ t (h q) n f) (ht : t = 8 ∨ t = 9) (hF : FRM h h1 (fun x => x = q)) : Bn la u h1 b r k w m p cl ce K K0 H d e xs := by
  obtain ⟨s0, hs⟩ := hB.rnd
  have hi : ∀ {a n1 : Nat} {f1 : Nat → Int}, rwI 0 (h a) n1 f1 → a ≠ q := fun ⟨g1, e1, _⟩ z => by
    obtain ⟨g2, e2, -⟩ := hq
    rw [z, e2] at e1
    cases e1
  have hq2 : ∀ {a n1 t1 : Nat} {f1 : Nat → Option Nat}, rwQ t1 (h a) n1 f1 → t1 ≠ t → a ≠ q := fun ⟨g1, e1, _⟩ h9 z => by
    obtain ⟨g2, e2, -⟩ := hq
    rw [z, e2] at e1
    simp at e1
    exact h9 e1.1.symm
  refine ⟨hB.1.fr hF (fun z => (hq.no hB.kf) z.symm) (hi hB.wr) (fun j hj => ?_), fun y => (hB.2.1 y).fr hF (hq2 (hB.2.1 y).1 (by omega)) (fun i hi2 oi z => (hq.no ((hB.2.1 y).2 i hi2 oi)) z.symm), hB.wb.fr hF (hi hB.bf), ⟨s0, hF _ _ hs (fun z => (hq.no hs) z.symm)⟩, hB.2.2.2.2⟩
  by_cases z : j = 0
  · subst z; exact hq2 hB.mr (by omega)
  · have := hi (hB.mx (a := j - 1) (by omega))
    rw [show m + 1 + (j - 1) = m + j by omega] at this
    exact this
theorem Bn.kk {K' : Nat → Nat} (hB : Bn la u h b r k w m p cl ce K K0 H d e xs) (hK : KI K) (h1 : ∀ j, j < 614 → j ≠ 5 → K' j = K j) : Bn la u h b r k w m p cl ce K' K0 H d e xs :=
  ⟨hB.1.k (fun j hj => h1 j (by omega) (by omega)) (fun j h2 h3 => h1 j (by omega) (by omega)), fun y => (hB.2.1 y).k hK ⟨h1 0 (by omega) (by omega), h1 1 (by omega) (by omega), fun y hy => h1 _ (by omega) (by omega)⟩ (fun j h2 h3 => h1 j h3 (by omega)), hB.2.2⟩
end BN2
theorem ptL_cong {dg dg' : Nat → Nat → Nat} {wi : Nat} : ∀ {n : Nat}, (∀ i, i < n → dg i = dg' i) → ptL dg wi n = ptL dg' wi n
  | 0, _ => rfl
  | n + 1, h => by
    show ptL dg wi n ++ (32 :: lnT (dg n) wi) = ptL dg' wi n ++ (32 :: lnT (dg' n) wi)
    rw [ptL_cong (fun i hi => h i (by omega)), h n (by omega)]
def PT (h : hg) (p P : Nat) (pr K : Nat → Nat) : Prop := rwQ 9 (h p) P (fun i => if i < K 5 then some (pr i) else none) ∧ ∀ i, i < K 5 → PL h (pr i) K i
section RP
variable {ad : Nat → Nat} {sc : Nat × (Nat → Int32)} {u : hp} {h : hg} {Q : qg} {k w m p cl : Nat} {ce : Nat → Nat} {K : Nat → Nat} {c sl : Nat}
variable {H : Nat → Nat → Nat} {d : Nat} {e : Int} {b r : Nat} {K0 : Nat → Nat}
abbrev RKQ (b r : Nat) (K0 : Nat → Nat) (H : Nat → Nat → Nat) (d : Nat) : qg := fun v u1 h1 => ∃ (k w m p cl : Nat) (ce K1 : Nat → Nat), v = .ref k ∧ KT h1 k w m p cl ce K1 ∧ SHR h1 w m p K1 ∧ KI K1 ∧ K1 0 ≤ 7 ∧ K1 1 ≤ 6 ∧ WB u1 h1 b K1 (psh K0 H) (min (d + 1) 8) (-1) [] ∧ RND h1 r
theorem all_rg {K : Nat → Nat} (hK : KI K) : 0 ≤ allC K ∧ allC K ≤ 180 := by
  have n0 := nC_le hK
  have := si_bd (f := cfA K) (c := 1) (by omega) (n := nC K) (fun k _ => by unfold cfA; split <;> omega)
  unfold allC
  omega
theorem rk_end {x4 x5 x6 x7 x8 x9 x10 x11 x12 : Value} {pr : Nat → Nat} {xs : List Int} {f1 f2 f3 f4 : Int} (hB : Bn true u h b r k w m p cl ce K K0 H d e xs) (hP : PT h p (K 5) pr K) (hR : RDs xs K f1 f2 f3 f4) (h7 : K 0 ≤ 7 ∧ K 1 ≤ 6) (hn : xs.length ≤ 560) (hc : 1 ≤ c) (hs : 6 ≤ sl) : Gx ad sc M_L_randomKite 769 [.ref (ad 0), .ref b, .ref r, .ref k, x4, x5, x6, x7, x8, x9, x10, x11, x12] [] c sl u h (RKQ b r K0 H d) := by
  refine bx_aload_n dL_randomKite_769 rfl ?_
  refine bx_aload_n dL_randomKite_770 rfl ?_
  refine bx_cs2 dL_randomKite_771 ln_L_randomKite_199 (Nat.le_of_ble_eq_true rfl) (by decide) hc hs (kw_load hB.wb hn (fun T hT => hR.fin hT)) (fun v9 u9 h9 hq9 => ?_)
  obtain ⟨rfl, hW9, hF9⟩ := hq9
  have hB9 : Bn true u9 h9 b r k w m p cl ce K K (psh K0 H) (min (d + 1) 8) (-1) [] := by
    obtain ⟨s, hs9⟩ := hB.rnd
    have h0 := hB.1.fr hF9 (fun z => (hB.bf.no hB.kf) z.symm) hB.2.2.2.2.1 (fun j hj => (hB.2.2.2.2.2 j hj).1)
    refine ⟨h0, fun q => hB.cls.fr hF9 (fun z => ?_) (fun i hi oi z => (hB.bf.no (hB.cls.2 i hi oi)) z.symm), hW9, ⟨s, hF9 _ _ hs9 (fun z => (hB.bf.no hs9) z.symm)⟩, hB.2.2.2.2⟩
    obtain ⟨g1, a1, -⟩ := hB.cls.1
    obtain ⟨g2, a2, -⟩ := hB.bf
    rw [z, a2] at a1
    cases a1
  have hSH : SHR h9 w m p K := by
    refine ⟨hB9.wr, ⟨fun a => m + 1 + a, hB9.mr, fun a ha => hB9.mx ha⟩, pr, ?_, fun j hj => ?_⟩
    · refine (hP.1.fr hF9 (fun z => ?_)).cong (fun i hi => if_pos hi)
      obtain ⟨g1, a1, -⟩ := hP.1
      obtain ⟨g2, a2, -⟩ := hB.bf
      rw [z, a2] at a1
      cases a1
    · refine (hP.2 j hj).fr hF9 (fun z => ?_) (spB.i hB.bf).1 (spB.i hB.bf).2
      obtain ⟨st, ⟨g1, a1, -⟩, -⟩ := hP.2 j hj
      obtain ⟨g2, a2, -⟩ := hB.bf
      rw [z, a2] at a1
      cases a1
  have hK := hR.ki
  have ha9 : 0 ≤ allC K ∧ allC K ≤ 180 := all_rg hK
  refine bx_aload_n dL_randomKite_774 rfl ?_
  refine bx_iconst dL_randomKite_775 ?_
  refine bx_cvP1 dL_randomKite_776 ln_L_randomKite_203 (Nat.le_of_ble_eq_true rfl) (by decide) hB9.kf rfl (kt_told hB9.kt hK hSH (q := 3) (by decide)) ?_
  rw [show stN K 3 = allC K from rfl]
  refine bx_icmp_ne (tgt := 786) dL_randomKite_779 (by decide) (by omega) (by omega) (fun c779 => ?_) (fun c779 => ?_)
  · exact absurd rfl c779
  · refine bx_aload_n dL_randomKite_782 rfl ?_
    refine bx_goto (tgt := 787) dL_randomKite_783 (by decide) ?_
    exact bx_aret dL_randomKite_787 rfl ⟨k, w, m, p, cl, ce, K, rfl, hB9.kt, hSH, hK, h7.1, h7.2, hB9.wb, hB9.rnd⟩
theorem rk_lines {wi nl PN q c0 s0 : Nat} {P : Int32} {pr : Nat → Nat} {xs : List Int} (hwi : 1 ≤ wi ∧ wi ≤ 4) (hnl : nl ≤ 3) (hPN : K 5 < PN) (hPN2 : PN < 10) (hpq : pr (K 5) = q) (hpr : ∀ i, i < K 5 → pr i ≠ q) (hn : xs.length ≤ 500) (kk : ∀ (u1 : hp) (h1 : hg) (st : Nat → Nat) (dg : Nat → Nat → Nat) (c2 s2 : Nat), c0 ≤ c2 → s0 ≤ s2 → Bn true u1 h1 b r k w m p cl ce K K0 H d e (xs ++ (litL 9 ++ ptL dg wi nl)) → rwQ 9 (h1 p) PN (fun i => if i < K 5 + 1 then some (pr i) else none) → (∀ i, i < K 5 → PL h1 (pr i) K i) → rwQ 8 (h1 q) nl (fun i => if i < nl then some (st i) else none) → (∀ i, i < nl → STR h1 (st i) wi (fun z => 48 + (dg i z : Int)) ∧ ∀ z, z < wi → dg i z < 7) → Gx ad sc M_L_randomKite 756 [.ref (ad 0), .ref b, .ref r, .ref k, uk, uk, .int P, .int (I (K 5 : Int)), .int (I (wi : Int)), .int (I (nl : Int)), uk, uk, uk] [] c2 s2 u1 h1 Q) : ∀ (n l : Nat) (u1 : hp) (h1 : hg) (st : Nat → Nat) (dg : Nat → Nat → Nat) (c sl : Nat), l + n = nl → c0 + 16 * n ≤ c → s0 + 160 * n ≤ sl → Bn true u1 h1 b r k w m p cl ce K K0 H d e (xs ++ (litL 9 ++ ptL dg wi l)) → rwQ 9 (h1 p) PN (fun i => if i < K 5 + 1 then some (pr i) else none) → (∀ i, i < K 5 → PL h1 (pr i) K i) → rwQ 8 (h1 q) nl (fun i => if i < l then some (st i) else none) → (∀ i, i < l → STR h1 (st i) wi (fun z => 48 + (dg i z : Int)) ∧ ∀ z, z < wi → dg i z < 7) → Gx ad sc M_L_randomKite 661 [.ref (ad 0), .ref b, .ref r, .ref k, uk, uk, .int P, .int (I (K 5 : Int)), .int (I (wi : Int)), .int (I (l : Int)), uk, uk, uk] [] c sl u1 h1 Q := by
  have l9 : (litL 9).length = 7 := by decide +kernel
  intro n
  induction n with
  | zero =>
    intro l u1 h1 st dg c sl hl hc hs hB hp1 hp2 hq1 hq2
    refine bx_iload dL_randomKite_661 rfl ?_
    refine bx_aload_n dL_randomKite_663 rfl ?_
    refine bx_getf dL_randomKite_664 ck7 fg_KitePainterLaw_179 (by decide) hB.kf rfl ?_
    refine bx_iload dL_randomKite_667 rfl ?_
    refine bx_aals (j := K 5) (q := q) dL_randomKite_669 hp1 (by decide) rfl hPN (by omega) (by rw [if_pos (by omega), hpq]) ?_
    refine bx_alnq dL_randomKite_670 hq1 (by decide) ?_
    refine bx_icmp_ge (tgt := 756) dL_randomKite_671 (by decide) (by omega) (by omega) (fun c671 => ?_) (fun c671 => ?_)
    · obtain rfl : l = nl := by omega
      exact kk u1 h1 st dg c sl hc hs hB hp1 hp2 hq1 hq2
    · exfalso
      omega
  | succ n ih =>
    intro l u1 h1 st dg c sl hl hc hs hB hp1 hp2 hq1 hq2
    refine bx_iload dL_randomKite_661 rfl ?_
    refine bx_aload_n dL_randomKite_663 rfl ?_
    refine bx_getf dL_randomKite_664 ck7 fg_KitePainterLaw_179 (by decide) hB.kf rfl ?_
    refine bx_iload dL_randomKite_667 rfl ?_
    refine bx_aals (j := K 5) (q := q) dL_randomKite_669 hp1 (by decide) rfl hPN (by omega) (by rw [if_pos (by omega), hpq]) ?_
    refine bx_alnq dL_randomKite_670 hq1 (by decide) ?_
    refine bx_icmp_ge (tgt := 756) dL_randomKite_671 (by decide) (by omega) (by omega) (fun c671 => ?_) (fun c671 => ?_)
    · exfalso
      omega
    · refine gx_ldcS (j := 23) (tx := "") (by decide) dL_randomKite_674 ?_
      refine bx_astore dL_randomKite_676 rfl (by decide) rfl ?_
      refine bx_iconst dL_randomKite_678 ?_
      refine bx_istore dL_randomKite_679 rfl (by decide) rfl ?_
      refine rk_chars (hS := h1) (c0 := c0 + 16 * n) (s0 := s0 + 160 * n) hwi.2 (fun h2 s va hs9 hz9 g c2 s2 hc2 hs2 hg hF2 hR2 a1 a2 a3 => ?_) hwi.1 wi 0 h1 _ (fun _ => 0) c sl (by omega) (by omega) (by omega) (fun q9 hq9 => absurd hq9 (Nat.not_lt_zero _)) FRM.rf hB.rnd (Or.inl ⟨rfl, rfl⟩)
      obtain ⟨sR, hsR⟩ := hB.rnd
      have B2 := hB.rf hF2 hR2
      have sp2 := spB.o (r := r) hsR (by decide)
      have q2 := hq1.fr hF2 (hq1.no hsR)
      have p2 := hp1.fr hF2 (hp1.no hsR)
      have pl2 : ∀ i, i < K 5 → PL h2 (pr i) K i := fun i hi => (hp2 i hi).fr hF2 (by obtain ⟨st9, y, -⟩ := hp2 i hi; exact y.no hsR) sp2.1 sp2.2
      have st2 : ∀ i, i < l → STR h2 (st i) wi (fun z => 48 + (dg i z : Int)) ∧ ∀ z, z < wi → dg i z < 7 := fun i hi => ⟨(hq2 i hi).1.fr hF2 sp2.1 sp2.2, (hq2 i hi).2⟩
      refine bx_aload_n dL_randomKite_724 rfl ?_
      refine bx_getf dL_randomKite_725 ck7 fg_KitePainterLaw_179 (by decide) B2.kf rfl ?_
      refine bx_iload dL_randomKite_728 rfl ?_
      refine bx_aals (j := K 5) (q := q) dL_randomKite_730 p2 (by decide) rfl hPN (by omega) (by rw [if_pos (by omega), hpq]) ?_
      refine bx_iload dL_randomKite_731 rfl ?_
      refine bx_aload dL_randomKite_733 rfl ?_
      refine bx_aasq (j := l) dL_randomKite_735 q2 a1 rfl (Or.inr (Or.inr (Or.inr ⟨rfl, rfl⟩))) rfl (by omega) (by omega) (fun e735 he735 => ?_)
      refine gx_gen (fun g3 q3 => ?_)
      have F3 : FRM h2 g3 (fun x => x = q) := by rw [q3]; exact FRM.u1 rfl
      have sp3 := spB.q q2 (by decide)
      have B3 := B2.qf q2 (Or.inl rfl) F3
      have qq3 := he735.mv (show g3 q = some e735 by rw [q3]; exact ug_eq)
      have p3 := p2.fr F3 (fun z => by obtain ⟨y1, y2, -⟩ := p2; obtain ⟨y3, y4, -⟩ := q2; rw [z, y4] at y2; simp at y2)
      have pl3 : ∀ i, i < K 5 → PL g3 (pr i) K i := fun i hi => (pl2 i hi).fr F3 (hpr i hi) sp3.1 sp3.2
      have st3 : ∀ i, i < l → STR g3 (st i) wi (fun z => 48 + (dg i z : Int)) ∧ ∀ z, z < wi → dg i z < 7 := fun i hi => ⟨(st2 i hi).1.fr F3 sp3.1 sp3.2, (st2 i hi).2⟩
      have s3 : STR g3 s wi (fun z => 48 + (g z : Int)) := STR.fr ⟨va, hs9, hz9, a1, a2⟩ F3 sp3.1 sp3.2
      have nlen := ptL_len (dg := dg) (wi := wi) (n := l)
      have hmul : l * (wi + 1) ≤ 2 * 5 := Nat.mul_le_mul (by omega) (by omega)
      refine bx_aload_n dL_randomKite_736 rfl ?_
      refine bx_aload_n dL_randomKite_737 rfl ?_
      refine gx_ldcS (j := 18) (tx := " ") (by decide) dL_randomKite_738 ?_
      refine bx_csv3 dL_randomKite_740 ln_L_randomKite_105 (Nat.le_of_ble_eq_true rfl) rfl (Nat.zero_le _) (Nat.zero_le _) (kw_lit (j := 18) (by decide) B3.wb (by rw [List.length_append, List.length_append, nlen, l9, show (litL 18).length = 1 by decide +kernel]; omega)) (fun u4 h4 hq4 => ?_)
      obtain ⟨-, hW4, hF4⟩ := hq4
      have sp4 := spB.i (B3).bf
      have B4 := (B3).wt hW4 hF4
      have bq : ∀ {t n9 : Nat} {f9 : Nat → Option Nat} {a9 : Nat}, rwQ t (g3 a9) n9 f9 → a9 ≠ b := fun ⟨y1, y2, _⟩ z => by obtain ⟨y3, y4, -⟩ := B3.bf; rw [z, y4] at y2; cases y2
      have q4 := qq3.fr hF4 (bq qq3)
      have p4 := p3.fr hF4 (bq p3)
      have pl4 : ∀ i, i < K 5 → PL h4 (pr i) K i := fun i hi => (pl3 i hi).fr hF4 (by obtain ⟨st9, y, -⟩ := pl3 i hi; exact bq y) sp4.1 sp4.2
      have st4 : ∀ i, i < l → STR h4 (st i) wi (fun z => 48 + (dg i z : Int)) ∧ ∀ z, z < wi → dg i z < 7 := fun i hi => ⟨(st3 i hi).1.fr hF4 sp4.1 sp4.2, (st3 i hi).2⟩
      have s4 := s3.fr hF4 sp4.1 sp4.2
      obtain ⟨va4, hs4, hz4, x1, x2⟩ := id s4
      have l18 : litL 18 = [32] := by decide +kernel
      refine bx_aload_n dL_randomKite_743 rfl ?_
      refine bx_aload_n dL_randomKite_744 rfl ?_
      refine bx_aload dL_randomKite_745 rfl ?_
      refine bx_csv3 dL_randomKite_747 ln_L_randomKite_105 (Nat.le_of_ble_eq_true rfl) rfl (Nat.zero_le _) (Nat.zero_le _) (kw_str (ys := lnT g wi) x1 (by rw [lnT_len]; exact x2) (fun i hi => by rw [lnT_len] at hi; rw [lnT_at hi]) (lnT_rg hg) B4.wb (by rw [List.length_append, List.length_append, List.length_append, nlen, l9, lnT_len, show (litL 18).length = 1 by decide +kernel]; omega)) (fun u5 h5 hq5 => ?_)
      obtain ⟨-, hW5, hF5⟩ := hq5
      have sp5 := spB.i (B4).bf
      have B5 := (B4).wt hW5 hF5
      have bq5 : ∀ {t n9 : Nat} {f9 : Nat → Option Nat} {a9 : Nat}, rwQ t (h4 a9) n9 f9 → a9 ≠ b := fun ⟨y1, y2, _⟩ z => by obtain ⟨y3, y4, -⟩ := B4.bf; rw [z, y4] at y2; cases y2
      have pl5 : ∀ i, i < K 5 → PL h5 (pr i) K i := fun i hi => (pl4 i hi).fr hF5 (by obtain ⟨st9, y, -⟩ := pl4 i hi; exact bq5 y) sp5.1 sp5.2
      refine bx_iinc dL_randomKite_750 rfl rfl (by decide) rfl ?_
      refine bx_goto (tgt := 661) dL_randomKite_753 (by decide) ?_
      refine gx_forg (i := 10) ?_
      refine gx_forg (i := 11) ?_
      have hdc : ptL dg wi l = ptL (fun i => if i = l then g else dg i) wi l := ptL_cong (fun i hi => by rw [if_neg (by omega)])
      have et : (xs ++ (litL 9 ++ ptL dg wi l)) ++ litL 18 ++ lnT g wi = xs ++ (litL 9 ++ ptL (fun i => if i = l then g else dg i) wi (l + 1)) := by
        rw [hdc, l18]
        show _ = xs ++ (litL 9 ++ (ptL (fun i => if i = l then g else dg i) wi l ++ (32 :: lnT (if l = l then g else dg l) wi)))
        rw [if_pos rfl]
        simp only [List.append_assoc]
        rfl
      rw [et] at B5
      exact ih (l + 1) u5 h5 (fun i => if i = l then s else st i) (fun i => if i = l then g else dg i) c2 s2 (by omega) hc2 hs2 B5 (p4.fr hF5 (bq5 p4)) pl5 ((q4.fr hF5 (bq5 q4)).cong (fun i hi => by
        unfold upQ
        by_cases y : i = l
        · rw [if_pos y, if_pos (by omega), if_pos y]
        · rw [if_neg y]
          dsimp only
          by_cases y2 : i < l
          · rw [if_pos y2, if_pos (by omega), if_neg y]
          · rw [if_neg y2, if_neg (by omega)])) (fun i hi => by
        by_cases y : i = l
        · subst y
          simp only [if_true]
          exact ⟨s4.fr hF5 sp5.1 sp5.2, hg⟩
        · simp only [if_neg y]
          exact ⟨(st4 i (by omega)).1.fr hF5 sp5.1 sp5.2, (st4 i (by omega)).2⟩)
end RP
