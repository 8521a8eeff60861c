/-! THE RANDOM KITE: all patterns -/
section RT
variable {ad : Nat → Nat} {sc : Nat × (Nat → Int32)} {u : hp} {h : hg} {Q : qg} {k w m p cl : Nat} {ce : Nat → Nat} {K : Nat → Nat} {c sl : Nat}
variable {H : Nat → Nat → Nat} {d : Nat} {e : Int} {b r : Nat} {K0 : Nat → Nat}
theorem bx_aasA {M : mt} {pc : Nat} {L S : List Value} {Q : qg} {a n j n1 q : Nat} {z : Int} {f f1 : Nat → Option Nat} (hd : decode M.2.1 pc = .ok (.aastore, 1)) (ha : rwQ 9 (h a) n f) (hb9 : rwQ 8 (h q) n1 f1) (hz : z = (j : Int)) (hj : j < n) (hn2 : n < 2147483648) (kk : ∀ e, rwQ 9 (some e) n (upQ f j (some q)) → Gx ad sc M (pc + 1) L S c sl u (up h a e) Q) : Gx ad sc M pc L (.ref q :: .int (I z) :: .ref a :: S) c sl u h Q := by
  subst hz
  obtain ⟨g, h1, h2⟩ := ha
  obtain ⟨g1, b1, b2⟩ := hb9
  refine gx_aastA h1 b1 (I_in hj hn2) hd ?_
  rw [I_clamp (by omega)]
  exact kk _ (rwQ.up h2)
theorem PT.fr {h h1 : hg} {p P : Nat} {pr K : Nat → Nat} {D : Nat → Prop} (hP : PT h p P pr K) (hF : FRM h h1 D) (dp : ¬ D p) (dq : ∀ i, i < K 5 → ¬ D (pr i)) (sp : spB h D) : PT h1 p P pr K := ⟨hP.1.fr hF dp, fun i hi => (hP.2 i hi).fr hF (dq i hi) sp.1 sp.2⟩
theorem PT.wt {h h1 : hg} {p P b n : Nat} {pr K : Nat → Nat} {f : Nat → Int} (hP : PT h p P pr K) (hb : rwI 0 (h b) n f) (hF : FRM h h1 (fun x => x = b)) : PT h1 p P pr K := by
  have bq : ∀ {t n9 : Nat} {f9 : Nat → Option Nat} {a9 : Nat}, rwQ t (h a9) n9 f9 → a9 ≠ b := fun ⟨y1, y2, _⟩ z => by obtain ⟨y3, y4, -⟩ := hb; rw [z, y4] at y2; cases y2
  exact hP.fr hF (bq hP.1) (fun i hi => by obtain ⟨st9, y, -⟩ := hP.2 i hi; exact bq y) (spB.i hb)
theorem PT.rd {h h1 : hg} {p P r : Nat} {pr K : Nat → Nat} {x : List Value} (hP : PT h p P pr K) (hr : h r = some (.inr (8, x))) (hF : FRM h h1 (fun x => x = r)) : PT h1 p P pr K :=
  hP.fr hF (hP.1.no hr) (fun i hi => by obtain ⟨st9, y, -⟩ := hP.2 i hi; exact y.no hr) (spB.o hr (by decide))
theorem PT.n {h h1 : hg} {p P : Nat} {pr K : Nat → Nat} (hP : PT h p P pr K) (hF : FRM h h1 (fun _ => False)) : PT h1 p P pr K := hP.fr hF (fun z => z) (fun _ _ z => z) spB.f
theorem Bn.bq {xs : List Int} (hB : Bn true u h b r k w m p cl ce K K0 H d e xs) {t n9 : Nat} {f9 : Nat → Option Nat} {a9 : Nat} (hq : rwQ t (h a9) n9 f9) : a9 ≠ b := fun z => by
  obtain ⟨y1, y2, -⟩ := hq
  obtain ⟨y3, y4, -⟩ := hB.bf
  rw [z, y4] at y2
  cases y2
theorem pt_new {K : Nat → Nat} {wi nl q PN : Nat} {pr st : Nat → Nat} {dg : Nat → Nat → Nat} {h : hg} {p : Nat} (hK : KI K) (h5 : K 5 < 3) (hwi : 1 ≤ wi ∧ wi ≤ 4) (hnl : 1 ≤ nl ∧ nl ≤ 3) (hpq : pr (K 5) = q) (hp1 : rwQ 9 (h p) PN (fun i => if i < K 5 + 1 then some (pr i) else none)) (hp2 : ∀ i, i < K 5 → PL h (pr i) K i) (hq1 : rwQ 8 (h q) nl (fun i => if i < nl then some (st i) else none)) (hq2 : ∀ i, i < nl → STR h (st i) wi (fun z => 48 + (dg i z : Int)) ∧ ∀ z, z < wi → dg i z < 7) : PT h p PN pr (patK K (K 5) wi dg nl) := by
  have e5 : patK K (K 5) wi dg nl 5 = K 5 + 1 := by
    unfold patK
    rw [if_neg (by omega), if_neg (by omega), if_neg (by omega), if_pos rfl]
  have e14 : patK K (K 5) wi dg nl (614 + 44 * K 5) = wi := if_pos ⟨by omega, rfl⟩
  have e15 : patK K (K 5) wi dg nl (615 + 44 * K 5) = nl := by
    unfold patK
    rw [if_neg (by omega), if_pos ⟨by omega, rfl⟩]
  refine ⟨by rw [e5]; exact hp1, fun i hi => ?_⟩
  rw [e5] at hi
  by_cases q9 : i = K 5
  · subst q9
    rw [hpq]
    refine ⟨st, by rw [e15]; exact hq1.cong (fun l hl => if_pos hl), fun l hl => ?_⟩
    rw [e15] at hl
    rw [e14]
    obtain ⟨va, hs, hz, b1, b2⟩ := (hq2 l hl).1
    refine ⟨va, hs, hz, b1, b2.cong (fun z hz9 => ?_)⟩
    have e16 : patK K (K 5) wi dg nl (616 + 44 * K 5 + (7 * l + z)) = dg l z := by
      unfold patK
      rw [if_neg (by omega), if_neg (by omega), if_pos ⟨by omega, by omega, by omega⟩, show (616 + 44 * K 5 + (7 * l + z) - (616 + 44 * K 5)) / 7 = l by omega, show (616 + 44 * K 5 + (7 * l + z) - (616 + 44 * K 5)) % 7 = z by omega]
    rw [e16]
  · have hpp := hK.2.2.2.2.2.2.2.2 i (by omega)
    refine (hp2 i (by omega)).k (fun x h1 h2 => ?_) hpp.2.1 hpp.1
    unfold patK
    rw [if_neg (by omega), if_neg (by omega), if_neg (by omega), if_neg (by omega)]
theorem rk_pats {PN : Nat} (hPN : PN ≤ 2) : ∀ (n : Nat) (u1 : hp) (h1 : hg) (K pr : Nat → Nat) (xs : List Int) (f1 f2 f3 f4 : Int) (c sl : Nat), K 5 + n = PN → 1 + 60 * n ≤ c → 6 + 600 * n ≤ sl → xs.length + 30 * n ≤ 450 → Bn true u1 h1 b r k w m p cl ce K K0 H d e xs → PT h1 p PN pr K → RDs xs K f1 f2 f3 f4 → K 0 ≤ 7 ∧ K 1 ≤ 6 → Gx ad sc M_L_randomKite 618 [.ref (ad 0), .ref b, .ref r, .ref k, uk, uk, .int (I (PN : Int)), .int (I (K 5 : Int)), uk, uk, uk, uk, uk] [] c sl u1 h1 (RKQ b r K0 H d) := by
  have l9 : (litL 9).length = 7 := by decide +kernel
  have l19 : (litL 19).length = 1 := by decide +kernel
  intro n
  induction n with
  | zero =>
    intro u1 h1 K pr xs f1 f2 f3 f4 c sl hj hc hs hn hB hP hR hsz
    refine bx_iload dL_randomKite_618 rfl ?_
    refine bx_iload dL_randomKite_620 rfl ?_
    refine bx_icmp_ge (tgt := 769) dL_randomKite_622 (by decide) (by omega) (by omega) (fun c622 => ?_) (fun c622 => ?_)
    · obtain rfl : PN = K 5 := by omega
      exact rk_end hB hP hR hsz (by omega) (by omega) (by omega)
    · exfalso
      omega
  | succ n ih =>
    intro u1 h1 K pr xs f1 f2 f3 f4 c sl hj hc hs hn hB hP hR hsz
    have hK := hR.ki
    refine bx_iload dL_randomKite_618 rfl ?_
    refine bx_iload dL_randomKite_620 rfl ?_
    refine bx_icmp_ge (tgt := 769) dL_randomKite_622 (by decide) (by omega) (by omega) (fun c622 => ?_) (fun c622 => ?_)
    · exfalso
      omega
    · refine bx_iconst dL_randomKite_625 ?_
      refine bx_aload_n dL_randomKite_626 rfl ?_
      refine bx_iconst dL_randomKite_627 ?_
      obtain ⟨sR2, hsR2⟩ := hB.rnd
      refine bx_cv1 dL_randomKite_628 ln_L_randomKite_117 (Nat.le_of_ble_eq_true rfl) (by decide) hsR2 rfl (Nat.zero_le _) (Nat.zero_le _) (kr_below hsR2 (b := 4) (by decide)) (fun v2 u2 h2 hq2 => ?_)
      obtain ⟨rfl, ⟨z2, hz2, rfl⟩, s12, hh2⟩ := hq2
      have F2 : FRM h1 h2 (fun x => x = r) := by rw [hh2]; exact FRM.u1 rfl
      have B2 := hB.rf F2 ⟨s12, by rw [hh2]; exact ug_eq⟩
      have P2 := hP.rd hsR2 F2
      refine bx_iadd dL_randomKite_631 ?_
      rw [show (1 + (z2 : Int)) = ((1 + z2 : Nat) : Int) by omega]
      refine bx_istore dL_randomKite_632 rfl (by decide) rfl ?_
      refine bx_aload_n dL_randomKite_634 rfl ?_
      refine bx_getf dL_randomKite_635 ck7 fg_KitePainterLaw_179 (by decide) B2.kf rfl ?_
      refine bx_iload dL_randomKite_638 rfl ?_
      refine bx_iconst dL_randomKite_640 ?_
      refine bx_aload_n dL_randomKite_641 rfl ?_
      refine bx_iconst dL_randomKite_642 ?_
      obtain ⟨sR3, hsR3⟩ := B2.rnd
      refine bx_cv1 dL_randomKite_643 ln_L_randomKite_117 (Nat.le_of_ble_eq_true rfl) (by decide) hsR3 rfl (Nat.zero_le _) (Nat.zero_le _) (kr_below hsR3 (b := 3) (by decide)) (fun v3 u3 h3 hq3 => ?_)
      obtain ⟨rfl, ⟨z3, hz3, rfl⟩, s13, hh3⟩ := hq3
      have F3 : FRM h2 h3 (fun x => x = r) := by rw [hh3]; exact FRM.u1 rfl
      have B3 := B2.rf F3 ⟨s13, by rw [hh3]; exact ug_eq⟩
      have P3 := P2.rd hsR3 F3
      refine bx_iadd dL_randomKite_646 ?_
      rw [show (1 + (z3 : Int)) = ((1 + z3 : Nat) : Int) by omega]
      refine bx_anew (t := 8) (N := 1 + z3) (C := "java/lang/String") dL_randomKite_647 ⟨by unfold tagO; simp, by decide⟩ cg_KitePainterLaw_24 rfl (by omega) (by omega) (by omega) (fun q eq hq heq => ?_)
      refine gx_gen (fun g4 q4 => ?_)
      have F4 : FRM h3 g4 (fun _ => False) := by rw [q4]; exact FRM.new hq
      have B4 := B3.n F4
      have P4 := P3.n F4
      have Q4 := heq.mv (show g4 q = some eq by rw [q4]; exact ug_eq)
      have nq : ∀ i, i < K 5 → pr i ≠ q := fun i hi => by obtain ⟨st9, y, -⟩ := P3.2 i hi; exact y.kn.ne hq
      refine bx_aasA (j := K 5) dL_randomKite_650 P4.1 Q4 rfl (by omega) (by omega) (fun e650 he650 => ?_)
      refine gx_gen (fun g5 q5 => ?_)
      have F5 : FRM g4 g5 (fun x => x = p) := by rw [q5]; exact FRM.u1 rfl
      have B5 := B4.qf P4.1 (Or.inr rfl) F5
      have pq : q ≠ p := fun z => by obtain ⟨y1, y2, -⟩ := Q4; obtain ⟨y3, y4, -⟩ := P4.1; rw [z, y4] at y2; simp at y2
      have Q5 := Q4.fr F5 pq
      have sp5 := spB.q P4.1 (by decide)
      have pl5 : ∀ i, i < K 5 → PL g5 (pr i) K i := fun i hi => (P4.2 i hi).fr F5 (fun z => by obtain ⟨st9, ⟨y1, y2, -⟩, -⟩ := P4.2 i hi; obtain ⟨y3, y4, -⟩ := P4.1; rw [z, y4] at y2; simp at y2) sp5.1 sp5.2
      have p5 : rwQ 9 (g5 p) PN (fun i => if i < K 5 + 1 then some (if i = K 5 then q else pr i) else none) := (he650.mv (show g5 p = some e650 by rw [q5]; exact ug_eq)).cong (fun i hi => by
        unfold upQ
        by_cases y : i = K 5
        · rw [if_pos y, if_pos (by omega), if_pos y]
        · rw [if_neg y]
          dsimp only
          by_cases y2 : i < K 5
          · rw [if_pos y2, if_pos (by omega), if_neg y]
          · rw [if_neg y2, if_neg (by omega)])
      have pl5b : ∀ i, i < K 5 → PL g5 (if i = K 5 then q else pr i) K i := fun i hi => by rw [if_neg (by omega)]; exact pl5 i hi
      refine bx_aload_n dL_randomKite_651 rfl ?_
      refine bx_aload_n dL_randomKite_652 rfl ?_
      refine gx_ldcS (j := 9) (tx := "pattern") (by decide) dL_randomKite_653 ?_
      refine bx_csv3 dL_randomKite_655 ln_L_randomKite_105 (Nat.le_of_ble_eq_true rfl) rfl (Nat.zero_le _) (Nat.zero_le _) (kw_lit (j := 9) (by decide) B5.wb (by omega)) (fun u6 h6 hq6 => ?_)
      obtain ⟨-, hW6, hF6⟩ := hq6
      have sp6 := spB.i B5.bf
      have B6 := B5.wt hW6 hF6
      have p6 := p5.fr hF6 (B5.bq p5)
      have q6 := Q5.fr hF6 (B5.bq Q5)
      have pl6 : ∀ i, i < K 5 → PL h6 (if i = K 5 then q else pr i) K i := fun i hi => (pl5b i hi).fr hF6 (by obtain ⟨st9, y, -⟩ := pl5b i hi; exact B5.bq y) sp6.1 sp6.2
      refine bx_iconst dL_randomKite_658 ?_
      refine bx_istore dL_randomKite_659 rfl (by decide) rfl ?_
      refine rk_lines (xs := xs) (wi := 1 + z2) (nl := 1 + z3) (PN := PN) (q := q) (c0 := 1 + 60 * n) (s0 := 6 + 600 * n) (pr := fun i => if i = K 5 then q else pr i) ⟨by omega, by omega⟩ (by omega) (by omega) (by omega) (if_pos rfl) (fun i hi => by rw [if_neg (by omega)]; exact nq i hi) (by omega) (fun u7 h7 st dg c2 s2 hc2 hs2 B7 p7 pl7 q7 st7 => ?_) (1 + z3) 0 u6 h6 (fun _ => 0) (fun _ _ => 0) _ _ (by omega) (by omega) (by omega) (by rw [show ptL (fun _ _ => 0) (1 + z2) 0 = [] from rfl, List.append_nil]; exact B6) p6 pl6 (q6.cong (fun i hi => by rw [if_neg (by omega)])) (fun i hi => absurd hi (Nat.not_lt_zero _))
      refine bx_aload_n dL_randomKite_756 rfl ?_
      refine bx_aload_n dL_randomKite_757 rfl ?_
      refine gx_ldcS (j := 19) (tx := ";") (by decide) dL_randomKite_758 ?_
      refine bx_csv3 dL_randomKite_760 ln_L_randomKite_105 (Nat.le_of_ble_eq_true rfl) rfl (Nat.zero_le _) (Nat.zero_le _) (kw_lit (j := 19) (by decide) B7.wb (by rw [List.length_append, List.length_append, l9, l19, ptL_len]; have hm : (1 + z3) * (1 + z2 + 1) ≤ 3 * 5 := Nat.mul_le_mul (by omega) (by omega); omega)) (fun u8 h8 hq8 => ?_)
      obtain ⟨-, hW8, hF8⟩ := hq8
      have sp8 := spB.i B7.bf
      have B8 := B7.wt hW8 hF8
      have p8 := p7.fr hF8 (B7.bq p7)
      have q8 := q7.fr hF8 (B7.bq q7)
      have pl8 : ∀ i, i < K 5 → PL h8 (if i = K 5 then q else pr i) K i := fun i hi => (pl7 i hi).fr hF8 (by obtain ⟨st9, y, -⟩ := pl7 i hi; exact B7.bq y) sp8.1 sp8.2
      have st8 : ∀ i, i < 1 + z3 → STR h8 (st i) (1 + z2) (fun z => 48 + (dg i z : Int)) ∧ ∀ z, z < 1 + z2 → dg i z < 7 := fun i hi => ⟨(st7 i hi).1.fr hF8 sp8.1 sp8.2, (st7 i hi).2⟩
      have et : xs ++ (litL 9 ++ ptL dg (1 + z2) (1 + z3)) ++ litL 19 = xs ++ (litL 9 ++ (ptL dg (1 + z2) (1 + z3) ++ [59])) := by rw [lit19]; simp only [List.append_assoc]
      rw [et] at B8
      have R8 := rd_pat hR (by omega) (wi := 1 + z2) (nl := 1 + z3) (dg := dg) ⟨by omega, by omega⟩ ⟨by omega, by omega⟩ (fun l i hl hi => (st8 l hl).2 i hi)
      have e5 : patK K (K 5) (1 + z2) dg (1 + z3) 5 = K 5 + 1 := by
        unfold patK
        rw [if_neg (by omega), if_neg (by omega), if_neg (by omega), if_pos rfl]
      have lo : ∀ j, j < 614 → j ≠ 5 → patK K (K 5) (1 + z2) dg (1 + z3) j = K j := fun j h1 h2 => by
        unfold patK
        rw [if_neg (by omega), if_neg (by omega), if_neg (by omega), if_neg h2]
      have B9 := B8.kk hK lo
      have P9 := pt_new hK (by omega) ⟨by omega, by omega⟩ ⟨by omega, by omega⟩ (pr := fun i => if i = K 5 then q else pr i) (if_pos rfl) p8 pl8 q8 st8
      refine bx_iinc dL_randomKite_763 rfl rfl (by decide) rfl ?_
      refine bx_goto (tgt := 618) dL_randomKite_766 (by decide) ?_
      refine gx_forg (i := 8) ?_
      refine gx_forg (i := 9) ?_
      have hm : (1 + z3) * (1 + z2 + 1) ≤ 3 * 5 := Nat.mul_le_mul (by omega) (by omega)
      have z9 := ih u8 h8 _ _ _ f1 f2 f3 f4 c2 s2 (by rw [e5]; omega) hc2 hs2 (by rw [List.length_append, List.length_append, List.length_append, l9, ptL_len]; show _ + (7 + (_ + 1)) + _ ≤ _; omega) B9 P9 R8 (by rw [lo 0 (by omega) (by omega), lo 1 (by omega) (by omega)]; exact hsz)
      rw [e5] at z9
      exact z9
end RT
