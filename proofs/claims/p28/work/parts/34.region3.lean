/-! regions: the class's spread, wash and count -/
theorem BI.no {K : Nat → Nat} (hK : KI K) {c0 cc n i b2 : Nat} {M N : Nat → Int} {q : Nat → Nat} (hB : BI K c0 M N q n) (hM01 : mk01 M) (hcc : conn K c0 cc) (hv : ∀ d, ¬ visB K N (((cc % K 0 : Nat) : Int) + dxW (prm i)) (((cc / K 0 : Nat) : Int) + dyW (prm i)) (K (74 + c0)) n d) (h1 : nbN K cc (prm i) = (b2 : Int)) (h2 : K (74 + b2) = K (74 + cc)) : N b2 = 1 := by
  have n0 := nC_le hK
  have hb := nb_on hK h1
  rcases hB.1 b2 (by omega) with z | z
  · exfalso
    have n1 := (hB.push hK hb.1 hb.2 z (hcc.st ⟨prm i, prm_lt i, h1, h2⟩)).n_le hM01
    unfold nbN at h1
    by_cases e : onZ K (((cc % K 0 : Nat) : Int) + dxW (prm i)) (((cc / K 0 : Nat) : Int) + dyW (prm i)) = true
    · rw [if_pos e] at h1
      exact hv b2 ⟨e, h1, hb.1, by omega, h2.trans hcc.col, by omega⟩
    · rw [if_neg e] at h1; omega
  · exact z
def wshK (K : Nat → Nat) (N : Nat → Int) : Nat → Nat := fun j => if (74 ≤ j ∧ j < 254 ∧ N (j - 74) = 1) ∨ (254 ≤ j ∧ j < 434 ∧ N (j - 254) = 1) then 0 else K j
def mq (q : Nat → Nat) : Nat → Nat → Int
  | 0 => fun _ => 0
  | n + 1 => upZ (mq q n) (q n) 1
theorem mq_iff {q : Nat → Nat} {j : Nat} : ∀ {n : Nat}, mq q n j = 1 ↔ ∃ k, k < n ∧ q k = j
  | 0 => by simp [mq]
  | n + 1 => by
    show upZ (mq q n) (q n) 1 j = 1 ↔ _
    unfold upZ
    by_cases e : j = q n
    · rw [if_pos e]; exact ⟨fun _ => ⟨n, by omega, e.symm⟩, fun _ => rfl⟩
    · rw [if_neg e, mq_iff (n := n)]
      constructor
      · rintro ⟨k, hk, z⟩; exact ⟨k, by omega, z⟩
      · rintro ⟨k, hk, z⟩
        by_cases e2 : k = n
        · subst e2; exact absurd z.symm e
        · exact ⟨k, by omega, z⟩
theorem wsh_c {K : Nat → Nat} {N : Nat → Int} {j : Nat} (h : 74 ≤ j ∧ j < 254) : wshK K N j = if N (j - 74) = 1 then 0 else K j := by
  unfold wshK
  by_cases e : N (j - 74) = 1
  · rw [if_pos e, if_pos (Or.inl ⟨h.1, h.2, e⟩)]
  · rw [if_neg e, if_neg (by omega)]
theorem wsh_w {K : Nat → Nat} {N : Nat → Int} {j : Nat} (h : 254 ≤ j ∧ j < 434) : wshK K N j = if N (j - 254) = 1 then 0 else K j := by
  unfold wshK
  by_cases e : N (j - 254) = 1
  · rw [if_pos e, if_pos (Or.inr ⟨h.1, h.2, e⟩)]
  · rw [if_neg e, if_neg (by omega)]
theorem mq_st {q : Nat → Nat} {i j : Nat} : mq q (i + 1) j = if j = q i then 1 else mq q i j := rfl
theorem wsh_st {K q : Nat → Nat} {i : Nat} (hq : q i < 180) : setC (wshK K (mq q i)) (q i) 0 0 = wshK K (mq q (i + 1)) := by
  funext j
  unfold setC upN
  by_cases z : 74 ≤ j ∧ j < 254
  · rw [if_neg (by omega), wsh_c z, wsh_c z, mq_st]
    by_cases e : j = 74 + q i
    · rw [if_pos e]
      have : j - 74 = q i := by omega
      rw [if_pos this, if_pos rfl]
    · have : ¬ (j - 74 = q i) := by omega
      rw [if_neg e, if_neg this]
  · by_cases z2 : 254 ≤ j ∧ j < 434
    · rw [wsh_w z2, wsh_w z2, mq_st]
      by_cases e : j = 254 + q i
      · rw [if_pos e]
        have : j - 254 = q i := by omega
        rw [if_pos this, if_pos rfl]
      · have : ¬ (j - 254 = q i) := by omega
        rw [if_neg e, if_neg this, if_neg (by omega)]
    · rw [if_neg (by omega), if_neg (by omega)]
      unfold wshK
      rw [if_neg (by omega), if_neg (by omega)]
theorem wsh_lo {K : Nat → Nat} {N : Nat → Int} {j : Nat} (h : j < 74 ∨ 434 ≤ j) : wshK K N j = K j := if_neg (by omega)
theorem wsh_0 {K : Nat → Nat} {N : Nat → Int} (h : ∀ j, j < 180 → N j ≠ 1) : wshK K N = K := by
  funext j
  unfold wshK
  rw [if_neg]
  rintro (⟨z1, z2, z⟩ | ⟨z1, z2, z⟩)
  · exact h _ (by omega) z
  · exact h _ (by omega) z
theorem wsh_cong {K : Nat → Nat} {N M : Nat → Int} (h : ∀ j, j < 180 → (N j = 1 ↔ M j = 1)) : wshK K N = wshK K M := by
  funext j
  unfold wshK
  by_cases z : 74 ≤ j ∧ j < 254
  · have := h (j - 74) (by omega)
    by_cases w : N (j - 74) = 1
    · rw [if_pos (Or.inl ⟨z.1, z.2, w⟩), if_pos (Or.inl ⟨z.1, z.2, this.mp w⟩)]
    · rw [if_neg (by omega), if_neg (by omega)]
  · by_cases z2 : 254 ≤ j ∧ j < 434
    · have := h (j - 254) (by omega)
      by_cases w : N (j - 254) = 1
      · rw [if_pos (Or.inr ⟨z2.1, z2.2, w⟩), if_pos (Or.inr ⟨z2.1, z2.2, this.mp w⟩)]
      · rw [if_neg (by omega), if_neg (by omega)]
    · rw [if_neg (by omega), if_neg (by omega)]
theorem KI.wsh {K : Nat → Nat} (hK : KI K) {N : Nat → Int} : KI (wshK K N) := by
  refine hK.of (fun j hj _ => wsh_lo (Or.inl hj)) (fun j hj => wsh_lo (Or.inr (by omega))) (fun i hi => ?_) (fun i hi => ?_) (fun i hi => ?_) (fun i hi h => ?_)
  · have := hK.2.2.2.2.1 i hi
    unfold wshK; split <;> omega
  · have := hK.2.2.2.2.2.1 i hi
    unfold wshK; split <;> omega
  · rw [wsh_lo (Or.inr (by omega))]; exact hK.2.2.2.2.2.2.1 i hi
  · have z : K (74 + i) = 0 ∧ K (254 + i) = 0 ∧ K (434 + i) = 0 := by
      rcases hK.2.2.2.2.2.2.2.1 i hi with y | y
      · exact absurd y h
      · exact y
    rw [wsh_lo (j := 434 + i) (Or.inr (by omega))]
    refine ⟨?_, ?_, z.2.2⟩
    · unfold wshK; split
      · rfl
      · exact z.1
    · unfold wshK; split
      · rfl
      · exact z.2.1
/-- how many regions of a colour there are in the first cells, and the marks that say so -/
def RG (K : Nat → Nat) (col : Nat) : Nat → (Nat → Int) → Int → Prop
  | 0, N, a => (∀ j, j < 180 → N j = 0) ∧ a = 0
  | i + 1, N, a => ∃ N' a', RG K col i N' a' ∧ ((on K i = true ∧ K (74 + i) = col ∧ N' i = 0 ∧ mkEnd K i N' N ∧ a = a' + 1) ∨ (¬ (on K i = true ∧ K (74 + i) = col ∧ N' i = 0) ∧ (∀ j, j < 180 → N j = N' j) ∧ a = a'))
theorem RG.mk {K : Nat → Nat} (hK : KI K) {col : Nat} : ∀ {i : Nat} {N : Nat → Int} {a : Int}, RG K col i N a → mk01 N ∧ mkCl K N
  | 0, N, a, h => ⟨fun j hj => Or.inl (h.1 j hj), fun x b hx h1 => by have := h.1 x hx; omega⟩
  | i + 1, N, a, h => by
    have n0 := nC_le hK
    obtain ⟨N', a', h1, (h2 | h2)⟩ := h
    · exact ⟨h2.2.2.2.1.1, h2.2.2.2.1.2.1⟩
    · have m := RG.mk hK h1
      refine ⟨fun j hj => by rw [h2.2.1 j hj]; exact m.1 j hj, fun x b hx h3 h4 => ?_⟩
      have hb : b < 180 := by obtain ⟨w, -, e, -⟩ := h4; have := (nb_on hK e).1; omega
      rw [h2.2.1 x hx] at h3
      rw [h2.2.1 b hb]
      exact m.2 x b hx h3 h4
theorem RG.uniq {K : Nat → Nat} {col : Nat} : ∀ {i : Nat} {N M : Nat → Int} {a c : Int}, i ≤ 180 → RG K col i N a → RG K col i M c → (∀ j, j < 180 → N j = M j) ∧ a = c
  | 0, N, M, a, c, _, h, k => ⟨fun j hj => (h.1 j hj).trans (k.1 j hj).symm, h.2.trans k.2.symm⟩
  | i + 1, N, M, a, c, hi, h, k => by
    obtain ⟨N', a', h1, h2⟩ := h
    obtain ⟨M', c', k1, k2⟩ := k
    have u := RG.uniq (by omega) h1 k1
    have e : N' i = M' i := u.1 i (by omega)
    rcases h2 with h2 | h2
    · rcases k2 with k2 | k2
      · exact ⟨mk_uniq u.1 h2.2.2.2.1 k2.2.2.2.1, by rw [h2.2.2.2.2, k2.2.2.2.2, u.2]⟩
      · exact absurd ⟨h2.1, h2.2.1, by rw [← e]; exact h2.2.2.1⟩ k2.1
    · rcases k2 with k2 | k2
      · exact absurd ⟨k2.1, k2.2.1, by rw [e]; exact k2.2.2.1⟩ h2.1
      · exact ⟨fun j hj => ((h2.2.1 j hj).trans (u.1 j hj)).trans (k2.2.1 j hj).symm, by rw [h2.2.2, k2.2.2, u.2]⟩
theorem RG.skip {K : Nat → Nat} {col a : Nat} {N : Nat → Int} {acc : Int} : ∀ {b : Nat}, a ≤ b → (∀ k, a ≤ k → k < b → on K k = false) → RG K col a N acc → RG K col b N acc
  | 0, h, _, r => by
    have : a = 0 := by omega
    subst this; exact r
  | b + 1, h, hz, r => by
    rcases Nat.lt_or_ge a (b + 1) with q | q
    · have r1 := RG.skip (b := b) (by omega) (fun k h1 h2 => hz k h1 (by omega)) r
      refine ⟨N, acc, r1, Or.inr ⟨?_, fun j _ => rfl, rfl⟩⟩
      rw [hz b (by omega) (by omega)]
      rintro ⟨z, -⟩
      cases z
    · have : a = b + 1 := by omega
      subst this; exact r
section FN
variable {NC b : Nat} {h : hp} {K : Nat → Nat} {Q : qt}
theorem nb_xy {x y : Int} {d : Nat} (hK : KI K) (z1 : onZ K x y = true) (z2 : y * (K 0 : Int) + x = (d : Int)) : x = ((d % K 0 : Nat) : Int) ∧ y = ((d / K 0 : Nat) : Int) := by
  obtain ⟨u, v, rfl, rfl, u1, v1, -⟩ := onZ_nat hK z1
  have e : d = u + K 0 * v := by rw [Nat.mul_comm]; have : ((v : Int) * (K 0 : Int)) = ((v * K 0 : Nat) : Int) := by push_cast; rfl
                                 omega
  rw [e, Nat.add_mul_mod_self_left, Nat.mod_eq_of_lt u1, Nat.add_mul_div_left _ _ (by omega), Nat.div_eq_of_lt u1, Nat.zero_add]
  exact ⟨rfl, rfl⟩
theorem li_spr (hN : 112 ≤ NC) (hb : b + 10 ≤ 103) (hK : KI K) {c0 cc a : Nat} {v2 v3 : Value} {M : Nat → Int} (hM01 : mk01 M) (hcc : conn K c0 cc) (hcn : cc < nC K) (kk : ∀ (m : Nat) (g : hp) (N X Y : Nat → Int) (q : Nat → Nat), SA NC g b K → FO g m → row 0 (g 107) 180 N → row 0 (g 108) 180 X → row 0 (g 109) 180 Y → BI K c0 M N q m → PI K N q a → XY K q X Y m → N c0 = 1 → EqX [106, 107, 108, 109] h g → a < m → q a = cc → WP K N cc 4 → Ex NC none M_X2_spread 100 [.ref 106, .ref b, v2, v3, .int (I (K (74 + c0) : Int)), .int (I (a : Int)), .int (I 4)] [] g Q) : ∀ (n : Nat) (i m : Nat) (g : hp) (N X Y : Nat → Int) (q : Nat → Nat), i + n = 4 → SA NC g b K → FO g m → row 0 (g 107) 180 N → row 0 (g 108) 180 X → row 0 (g 109) 180 Y → BI K c0 M N q m → PI K N q a → XY K q X Y m → N c0 = 1 → EqX [106, 107, 108, 109] h g → a < m → q a = cc → WP K N cc i → Ex NC none M_X2_spread 50 [.ref 106, .ref b, v2, v3, .int (I (K (74 + c0) : Int)), .int (I (a : Int)), .int (I (i : Int))] [] g Q := by
  have k0 := hK.1
  have n0 := nC_le hK
  have hcol := hK.2.2.2.2.1 c0
  intro n
  induction n with
  | zero =>
    intro i m g N X Y q hi hS hF hR hX hY hB hP hXY hc1 hE ha9 hca hw
    have nle := hB.n_le hM01
    have d1 := dxy_rg (prm i)
    have d2 := div_12 hK hcn
    have d4 := Int.natCast_nonneg (cc / K 0)
    have d3 : cc % K 0 < K 0 := Nat.mod_lt _ (by omega)
    have hcol0 : K (74 + c0) ≤ 6 := by rw [← hcc.col]; exact hK.2.2.2.2.1 cc (by omega)
    refine ax_iload dX2_spread_50 rfl ?_
    refine ex_gets (j := 0) (by decide) dX2_spread_52 ?_
    refine ax_tlen dX2_spread_55 (by decide) ?_
    refine ax_icmp_ge (tgt := 100) dX2_spread_56 (by decide) (by omega) (by omega) (fun c56 => ?_) (fun c56 => ?_)
    · have e : i = 4 := by omega
      subst e
      exact kk m g N X Y q hS hF hR hX hY hB hP hXY hc1 hE ha9 hca hw
    · exfalso
      omega
  | succ n ih =>
    intro i m g N X Y q hi hS hF hR hX hY hB hP hXY hc1 hE ha9 hca hw
    have nle := hB.n_le hM01
    have d1 := dxy_rg (prm i)
    have d2 := div_12 hK hcn
    have d4 := Int.natCast_nonneg (cc / K 0)
    have d3 : cc % K 0 < K 0 := Nat.mod_lt _ (by omega)
    have hcol0 : K (74 + c0) ≤ 6 := by rw [← hcc.col]; exact hK.2.2.2.2.1 cc (by omega)
    refine ax_iload dX2_spread_50 rfl ?_
    refine ex_gets (j := 0) (by decide) dX2_spread_52 ?_
    refine ax_tlen dX2_spread_55 (by decide) ?_
    refine ax_icmp_ge (tgt := 100) dX2_spread_56 (by decide) (by omega) (by omega) (fun c56 => ?_) (fun c56 => ?_)
    · exfalso
      omega
    · refine ax_aload_n dX2_spread_59 rfl ?_
      refine ax_aload_n dX2_spread_60 rfl ?_
      refine ax_aload_n dX2_spread_61 rfl ?_
      refine ax_getf dX2_spread_62 ck2 fl_X2_15 (by decide) (by omega) hF rfl ?_
      refine ax_iload dX2_spread_65 rfl ?_
      refine ax_ialr (j := a) (w := (((cc % K 0 : Nat) : Int) : Int)) dX2_spread_67 (by omega) hX (by omega) (by omega) (by decide) ((hXY a ha9).1.trans (by rw [hca])) ?_
      refine ex_gets (j := 0) (by decide) dX2_spread_68 ?_
      refine ax_iload dX2_spread_71 rfl ?_
      refine ax_tld (i := i) (v := I (dxW (prm i))) dX2_spread_73 (by omega) (by omega) (by decide) (prm_x (by omega)) ?_
      refine ax_iadd dX2_spread_74 ?_
      refine ax_aload_n dX2_spread_75 rfl ?_
      refine ax_getf dX2_spread_76 ck2 fl_X2_18 (by decide) (by omega) hF rfl ?_
      refine ax_iload dX2_spread_79 rfl ?_
      refine ax_ialr (j := a) (w := (((cc / K 0 : Nat) : Int) : Int)) dX2_spread_81 (by omega) hY (by omega) (by omega) (by decide) ((hXY a ha9).2.trans (by rw [hca])) ?_
      refine ex_gets (j := 1) (by decide) dX2_spread_82 ?_
      refine ax_iload dX2_spread_85 rfl ?_
      refine ax_tld (i := i) (v := I (dyW (prm i))) dX2_spread_87 (by omega) (by omega) (by decide) (prm_y (by omega)) ?_
      refine ax_iadd dX2_spread_88 ?_
      refine ax_iload dX2_spread_89 rfl ?_
      refine ax_cvv4 dX2_spread_91 ln_X2_spread_58 (Nat.le_of_ble_eq_true rfl) rfl (by omega) hF rfl (sp_visit hN hb hS hK hF nle hB.1 hR hX hY (by omega) (by omega) (by omega)) (fun g1 hq => ?_)
      rcases hq with ⟨d, hv, hF1, hR1, hX1, hY1, hE1⟩ | ⟨hv, rfl⟩
      · obtain ⟨z1, z2, z3, z4, z5, z6⟩ := hv
        have eb : nbN K cc (prm i) = (d : Int) := by unfold nbN; rw [if_pos z1]; exact z2
        have hd := nb_on hK eb
        have hd0 : N d = 0 := (hB.1 d (by omega)).resolve_right z4
        have hS1 : SA NC g1 b K := hS.eq (fun a h1 h2 => hE1 a (by simp; omega))
        have hB1 := hB.push hK hd.1 hd.2 hd0 (hcc.st ⟨prm i, prm_lt i, eb, by rw [z5]; exact hcc.col.symm⟩)
        have nxy := nb_xy hK z1 z2
        refine ax_iinc dX2_spread_94 rfl rfl (by decide) ?_
        refine ax_goto (tgt := 50) dX2_spread_97 (by decide) ?_
        refine ih (i + 1) (m + 1) g1 _ _ _ (uq q m d) (by omega) hS1 hF1 hR1 hX1 hY1 hB1 (hP.push (by omega)) ?_ (up1 hc1) (hE.tr hE1) (by omega) (by unfold uq; rw [if_neg (by omega)]; exact hca) ?_
        · intro k hk
          unfold uq upZ
          by_cases e : k = m
          · rw [if_pos e, if_pos e, if_pos e]; exact nxy
          · rw [if_neg e, if_neg e, if_neg e]; exact hXY k (by omega)
        · intro j hj b2 h1 h2
          by_cases e : j = i
          · subst e
            have e2 : b2 = d := by omega
            subst e2; unfold upZ; rw [if_pos rfl]
          · exact up1 (hw j (by omega) b2 h1 h2)
      · refine ax_iinc dX2_spread_94 rfl rfl (by decide) ?_
        refine ax_goto (tgt := 50) dX2_spread_97 (by decide) ?_
        refine ih (i + 1) m g1 N X Y q (by omega) hS hF hR hX hY hB hP hXY hc1 hE ha9 hca ?_
        intro j hj b2 h1 h2
        by_cases e : j = i
        · subst e; exact hB.no hK hM01 hcc hv h1 h2
        · exact hw j (by omega) b2 h1 h2
theorem lo_spr (hN : 112 ≤ NC) (hb : b + 10 ≤ 103) (hK : KI K) {c0 : Nat} {v2 v3 : Value} {M : Nat → Int} (hM01 : mk01 M) (hc0 : c0 < 180) (kk : ∀ (a : Nat) (m : Nat) (g : hp) (N X Y : Nat → Int) (q : Nat → Nat) (w6 : Value), a = m → SA NC g b K → FO g m → row 0 (g 107) 180 N → row 0 (g 108) 180 X → row 0 (g 109) 180 Y → BI K c0 M N q m → PI K N q a → XY K q X Y m → N c0 = 1 → EqX [106, 107, 108, 109] h g → Ex NC none M_X2_spread 106 [.ref 106, .ref b, v2, v3, .int (I (K (74 + c0) : Int)), .int (I (a : Int)), w6] [] g Q) : ∀ (f a : Nat) (m : Nat) (g : hp) (N X Y : Nat → Int) (q : Nat → Nat) (w6 : Value), a + f = 181 → a ≤ m → SA NC g b K → FO g m → row 0 (g 107) 180 N → row 0 (g 108) 180 X → row 0 (g 109) 180 Y → BI K c0 M N q m → PI K N q a → XY K q X Y m → N c0 = 1 → EqX [106, 107, 108, 109] h g → Ex NC none M_X2_spread 30 [.ref 106, .ref b, v2, v3, .int (I (K (74 + c0) : Int)), .int (I (a : Int)), w6] [] g Q := by
  have k0 := hK.1
  have n0 := nC_le hK
  intro f
  induction f with
  | zero =>
    intro a m g N X Y q w6 haf ham hS hF hR hX hY hB hP hXY hc1 hE
    have nle := hB.n_le hM01
    refine ax_iload dX2_spread_30 rfl ?_
    refine ax_aload_n dX2_spread_32 rfl ?_
    refine ax_getf dX2_spread_33 ck2 fl_X2_51 (by decide) (by omega) hF rfl ?_
    refine ax_icmp_ge (tgt := 106) dX2_spread_36 (by decide) (by omega) (by omega) (fun c36 => ?_) (fun c36 => ?_)
    · exact kk a m g N X Y q w6 (by omega) hS hF hR hX hY hB hP hXY hc1 hE
    · exfalso
      omega
  | succ f ih =>
    intro a m g N X Y q w6 haf ham hS hF hR hX hY hB hP hXY hc1 hE
    have nle := hB.n_le hM01
    refine ax_iload dX2_spread_30 rfl ?_
    refine ax_aload_n dX2_spread_32 rfl ?_
    refine ax_getf dX2_spread_33 ck2 fl_X2_51 (by decide) (by omega) hF rfl ?_
    refine ax_icmp_ge (tgt := 106) dX2_spread_36 (by decide) (by omega) (by omega) (fun c36 => ?_) (fun c36 => ?_)
    · exact kk a m g N X Y q w6 (by omega) hS hF hR hX hY hB hP hXY hc1 hE
    · refine ax_iload dX2_spread_39 rfl ?_
      refine ax_sipush dX2_spread_41 (by decide) ?_
      refine ax_icmp_ge (tgt := 106) dX2_spread_44 (by decide) (by omega) (by omega) (fun c44 => ?_) (fun c44 => ?_)
      · exfalso
        omega
      · refine ax_iconst dX2_spread_47 ?_
        refine ax_istore dX2_spread_48 rfl (by decide) ?_
        have ha9 : a < m := by omega
        have hqa := hB.2.2.1 a ha9
        refine li_spr (h := h) (c0 := c0) (cc := q a) (a := a) hN hb hK hM01 hqa.2.2 hqa.1 (fun m1 g1 N1 X1 Y1 q1 hS1 hF1 hR1 hX1 hY1 hB1 hP1 hXY1 hc11 hE1 ha1 hca1 hw1 => ?_) 4 0 m g N X Y q (by omega) hS hF hR hX hY hB hP hXY hc1 hE ha9 rfl (fun j hj => absurd hj (Nat.not_lt_zero _))
        refine ax_iinc dX2_spread_100 rfl rfl (by decide) ?_
        refine ax_goto (tgt := 30) dX2_spread_103 (by decide) ?_
        refine ih (a + 1) m1 g1 N1 X1 Y1 q1 _ (by omega) (by omega) hS1 hF1 hR1 hX1 hY1 hB1 ?_ hXY1 hc11 hE1
        intro k hk b2 hab
        by_cases e : k = a
        · subst e
          obtain ⟨w, hw4, e1, e2⟩ := hab
          rw [hca1] at e1 e2
          obtain ⟨j, hj, rfl⟩ := prm_all hw4
          exact hw1 j hj b2 e1 e2
        · exact hP1 k (by omega) b2 hab
theorem sp_spread (hN : 112 ≤ NC) (hb : b + 10 ≤ 103) (hS : SA NC h b K) (hK : KI K) {n0 : Nat} (hF : FO h n0) {M : Nat → Int} (hR : row 0 (h 107) 180 M) (s8 : sh 0 (h 108) 180) (s9 : sh 0 (h 109) 180) (hM01 : mk01 M) (hMcl : mkCl K M) {u v : Nat} (hon : onZ K (u : Int) (v : Int) = true) (hMc : M (v * K 0 + u) = 0) {c0 : Nat} (hc : c0 = v * K 0 + u) : Cl NC M_X2_spread [.ref 106, .ref b, .int (I (u : Int)), .int (I (v : Int))] h (fun _ h1 => ∃ (n : Nat) (N X Y : Nat → Int) (q : Nat → Nat), n ≤ 180 ∧ FO h1 n ∧ row 0 (h1 107) 180 N ∧ row 0 (h1 108) 180 X ∧ row 0 (h1 109) 180 Y ∧ BI K c0 M N q n ∧ mkEnd K c0 M N ∧ XY K q X Y n ∧ EqX [106, 107, 108, 109] h h1) := by
  subst hc
  have k0 := hK.1
  have nc := nC_le hK
  obtain ⟨X0, hX⟩ := s8
  obtain ⟨Y0, hY⟩ := s9
  have hh := onZ_nat hK hon
  obtain ⟨u2, v2, eu, ev, hu, hv9, hlt, -⟩ := hh
  have : u2 = u := by omega
  subst this
  have : v2 = v := by omega
  subst this
  have ed : ((v2 : Int) * (K 0 : Int) + (u2 : Int)) = ((v2 * K 0 + u2 : Nat) : Int) := by push_cast; omega
  have hcol := hK.2.2.2.2.1 (v2 * K 0 + u2) (by omega)
  refine ax_aload_n dX2_spread_0 rfl ?_
  refine ax_iconst dX2_spread_1 ?_
  refine ax_putf dX2_spread_2 ck2 fl_X2_51 (by decide) (by omega) hF rfl (Or.inl rfl) (Nat.le_of_ble_eq_true rfl) rfl ?_
  generalize hg : va_up h 106 _ = g1
  have hF0 : FO g1 0 := by rw [← hg]; unfold FO; exact vu_eq
  have y1 : ∀ a, a ≠ 106 → g1 a = h a := fun a ha => by rw [← hg]; exact vu_ne ha
  have x1 : EqX [106, 107, 108, 109] h g1 := fun a ha => y1 a (by simp at ha; omega)
  have hS1 : SA NC g1 b K := hS.eq (fun a h1 h2 => y1 a (by omega))
  have r7 : row 0 (g1 107) 180 M := hR.mv (y1 _ (by decide))
  have r8 : row 0 (g1 108) 180 X0 := hX.mv (y1 _ (by decide))
  have r9 : row 0 (g1 109) 180 Y0 := hY.mv (y1 _ (by decide))
  refine ax_aload_n dX2_spread_5 rfl ?_
  refine ax_getf dX2_spread_6 ck3 fl_X2_44 (by decide) hS1.n0 hS1.o rfl ?_
  refine ax_aload_n dX2_spread_9 rfl ?_
  refine ax_iload_n dX2_spread_10 rfl ?_
  refine ax_iload_n dX2_spread_11 rfl ?_
  refine ax_cviP2 dX2_spread_12 ln_X2_spread_40 (Nat.le_of_ble_eq_true rfl) (Or.inl rfl) hS1.n0 hS1.o rfl (sp_numberOf hS1) ?_
  rw [ed]
  refine ax_ialr (j := (v2 * K 0 + u2)) (w := (K (74 + (v2 * K 0 + u2)) : Int)) dX2_spread_15 (hS1.n 7 (by omega)) hS1.co (by omega) (by omega) (by decide) rfl ?_
  refine ax_istore dX2_spread_16 rfl (by decide) ?_
  refine ax_aload_n dX2_spread_18 rfl ?_
  refine ax_aload_n dX2_spread_19 rfl ?_
  refine ax_iload_n dX2_spread_20 rfl ?_
  refine ax_iload_n dX2_spread_21 rfl ?_
  refine ax_iload dX2_spread_22 rfl ?_
  refine ax_cvv4 dX2_spread_24 ln_X2_spread_58 (Nat.le_of_ble_eq_true rfl) rfl (by omega) hF0 rfl (sp_visit hN hb hS1 hK hF0 (by omega) hM01 r7 r8 r9 (by omega) (by omega) (by omega)) (fun g2 hq => ?_)
  rcases hq with ⟨d, hv, hF2, hR2, hX2, hY2, hE2⟩ | ⟨hv, rfl⟩
  case inr => exact absurd ⟨hon, ed, hlt, by omega, rfl, by omega⟩ (hv (v2 * K 0 + u2))
  have e2 : d = v2 * K 0 + u2 := by have := hv.2.1; omega
  subst e2
  have hS2 : SA NC g2 b K := hS1.eq (fun a h1 h2 => hE2 a (by simp; omega))
  have hB := (BI.z (c := v2 * K 0 + u2) (q := fun _ => 0) hM01).push hK hlt (by rw [on_at hu]; exact hon) hMc conn.rf
  refine ax_iconst dX2_spread_27 ?_
  refine ax_istore dX2_spread_28 rfl (by decide) ?_
  refine lo_spr (h := h) (c0 := v2 * K 0 + u2) hN hb hK hM01 (by omega) (fun a m g N X Y q w6 hz hS3 hF3 hR3 hX3 hY3 hB3 hP3 hXY3 hc3 hE3 => ?_) 181 0 1 g2 _ _ _ (uq (fun _ => 0) 0 (v2 * K 0 + u2)) _ (by omega) (by omega) hS2 hF2 hR2 hX2 hY2 hB (fun k hk => absurd hk (Nat.not_lt_zero _)) (fun k hk => by unfold uq upZ; rw [if_pos (by omega), if_pos (by omega), if_pos (by omega)]; exact nb_xy hK hon ed) (by unfold upZ; rw [if_pos rfl]) (x1.tr hE2)
  subst hz
  exact ax_vret dX2_spread_106 rfl ⟨a, N, X, Y, q, hB3.n_le hM01, hF3, hR3, hX3, hY3, hB3, hB3.fin hMcl (fun j hj z => (hB3.2.1 j hj).mpr (Or.inl z)) (fun _ => hc3) (by omega) hP3 hK, hXY3, hE3⟩
end FN
