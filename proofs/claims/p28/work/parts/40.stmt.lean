/-! the class's reader: statements -/
theorem sp_middle0 {NC b : Nat} {h : hp} {K : Nat → Nat} (hS : SA NC h b K) (hk : K 0 < 1000) : Cl NC M_X3_middle [.ref b] h (fun v h1 => v = .int (I ((K 0 / 2 : Nat) : Int)) ∧ h1 = h) := by
  refine ax_aload_n dX3_middle_0 rfl ?_
  refine ax_getf dX3_middle_1 ck3 fl_X3_43 (by decide) hS.n0 hS.o rfl ?_
  refine ax_iconst dX3_middle_4 ?_
  refine ax_idiv dX3_middle_5 (by omega) (by omega) ?_
  exact ax_iret dX3_middle_6 rfl ⟨iq (by omega), rfl⟩
def YB (b : Nat) (h g : hp) : Prop := ∀ a, a ≠ 110 → (a < b ∨ b + 10 ≤ a) → g a = h a
theorem YB.rf {b : Nat} {h : hp} : YB b h h := fun _ _ _ => rfl
theorem YB.y {b : Nat} {h g k : hp} (H : YB b h g) (H1 : Y1 g k) : YB b h k := fun a h1 h2 => (H1 a h1).trans (H a h1 h2)
theorem YB.f {b : Nat} {h g k : hp} (H : YB b h g) (H1 : Fr g k b) : YB b h k := fun a h1 h2 => (H1 a h2).trans (H a h1 h2)
theorem YB.up {b j : Nat} {h g : hp} {e : va_E} (H : YB b h g) (hj : j < 10) : YB b h (va_up g (b + j) e) := fun a h1 h2 => (vu_ne (by omega)).trans (H a h1 h2)
theorem YB.tr {b : Nat} {h g k : hp} (H : YB b h g) (H1 : YB b g k) : YB b h k := fun a h1 h2 => (H1 a h1 h2).trans (H a h1 h2)
def chk (p : Bool) (c b : Int) : (Int × Int) ⊕ Unit := if p = true then .inl (c, b) else .inr ()
theorem chk_unf {p : Bool} {c b : Int} : chk p c b = if p = true then .inl (c, b) else .inr () := rfl
theorem ST.chk {p : Bool} {r r1 : Nat → Int} {c b : Int} (hc : c < 0 ∧ -1000 ≤ c) (h : r1 = if p = true then flr r c b else r) : ST (chk p c b) (r 6) (r 7) (r1 6) (r1 7) (fun _ => p = false) := by
  subst h
  rw [chk_unf]
  by_cases q : p = true
  · rw [if_pos q, if_pos q, flr6, flr7]; exact ST.no hc
  · rw [if_neg q, if_neg q]; exact ST.ok (by cases p with | true => exact absurd rfl q | false => rfl)
/-- the reaches of f rows from y on -/
def reaL (T : Nat → Int) (n : Nat) : Nat → Nat → Nat → (Nat → Nat) → (Int × Int) ⊕ (Nat × (Nat → Nat))
  | 0, _, s, K => .inr (s, K)
  | f + 1, y, s, K => bnd (numP T n 0 ((K 0 / 2 : Nat) : Int) s) (fun v => reaL T n f (y + 1) v.2 (upN K (6 + y) v.1.toNat))
def reaP (T : Nat → Int) (n : Nat) (s : Nat) (K : Nat → Nat) (rch spr : Int) : (Int × Int) ⊕ (Nat × (Nat → Nat)) := bnd (chk (decide (rch = 1 ∨ spr = 1)) (-2) (s : Int)) (fun _ => reaL T n (K 1) 0 (sN T n s) K)
def mixP (T : Nat → Int) (n : Nat) (s : Nat) (K : Nat → Nat) : (Int × Int) ⊕ (Nat × (Nat → Nat)) := bnd (numP T n 1 6 s) (fun a => bnd (numP T n 1 6 a.2) (fun c => bnd (chk (decide (a.1 = c.1)) (-3) (a.2 : Int)) (fun _ => bnd (chk (decide (K (25 + (a.1.toNat * 7 + c.1.toNat)) ≠ 0)) (-4) (a.2 : Int)) (fun _ => bnd (numP T n 1 6 c.2) (fun m => .inr (m.2, telM K a.1.toNat c.1.toNat m.1.toNat))))))
def stS (K L : Nat → Nat) (u v : Nat) : Nat → Nat := if onZ K (u : Int) (v : Int) = true then upN L (434 + (v * K 0 + u)) 1 else L
def spX (d : Bool) (x i : Nat) : Nat := if d = true then x else x + i
def spY (d : Bool) (y i : Nat) : Nat := if d = true then y + i else y
def spL (K : Nat → Nat) (d : Bool) (x y : Nat) : Nat → (Nat → Nat)
  | 0 => K
  | i + 1 => stS K (spL K d x y i) (spX d x i) (spY d y i)
theorem stS_lo {K L : Nat → Nat} {u v j : Nat} (hj : j < 434) : stS K L u v j = L j := by
  unfold stS; split
  · rw [up_ne (by omega)]
  · rfl
theorem stS_hi {K L : Nat → Nat} {u v j : Nat} (hK : KI K) (hj : 614 ≤ j) : stS K L u v j = L j := by
  have n0 := nC_le hK
  unfold stS; split
  · rename_i z
    obtain ⟨u2, v2, e1, e2, h1, h2, h3, -⟩ := onZ_nat hK z
    have : u2 = u := by omega
    subst this
    have : v2 = v := by omega
    subst this
    rw [up_ne (by omega)]
  · rfl
theorem stS_unf {K L : Nat → Nat} {u v : Nat} : stS K L u v = if onZ K (u : Int) (v : Int) = true then upN L (434 + (v * K 0 + u)) 1 else L := rfl
theorem KI.stS {K L : Nat → Nat} {u v : Nat} (hK : KI K) (hL : KI L) (hlo : ∀ j, j < 18 → L j = K j) : KI (stS K L u v) := by
  rw [stS_unf]
  split
  · rename_i z
    obtain ⟨u2, v2, e1, e2, h1, h2, h3, -⟩ := onZ_nat hK z
    have : u2 = u := by omega
    subst this
    have : v2 = v := by omega
    subst this
    refine hL.upS ?_ ?_ (by omega)
    · rw [nC_lo hlo]; exact h3
    · rw [on_lo hK hlo h3, on_at h1]; exact z
  · exact hL
theorem spL_lo {K : Nat → Nat} {d : Bool} {x y j : Nat} (hj : j < 434) : ∀ i, spL K d x y i j = K j
  | 0 => rfl
  | i + 1 => (stS_lo hj).trans (spL_lo hj i)
theorem KI.spL {K : Nat → Nat} (hK : KI K) {d : Bool} {x y : Nat} : ∀ i, KI (spL K d x y i)
  | 0 => hK
  | i + 1 => hK.stS (KI.spL hK i) (fun j hj => spL_lo (by omega) i)
def sprP (T : Nat → Int) (n : Nat) (s : Nat) (K : Nat → Nat) : (Int × Int) ⊕ (Nat × (Nat → Nat)) := bnd (if wd T n 7 s = true then .inr (sN T n s) else wrdP T n 8 s) (fun s1 => bnd (numP T n 0 ((K 0 : Int) - 1) s1) (fun x => bnd (numP T n 0 ((K 1 : Int) - 1) x.2) (fun y => bnd (numP T n 1 15 y.2) (fun l => .inr (l.2, spL K (wd T n 7 s) x.1.toNat y.1.toNat l.1.toNat)))))
def FLG (r : Nat → Int) : Prop := (r 9 = 0 ∨ r 9 = 1) ∧ (r 10 = 0 ∨ r 10 = 1) ∧ (r 11 = 0 ∨ r 11 = 1) ∧ (r 12 = 0 ∨ r 12 = 1)
section RD
variable {NC b : Nat} {h : hp} {r T : Nat → Int} {n s : Nat} {K : Nat → Nat} {Q : qt}
theorem l_rea (hN : 112 ≤ NC) (hb : b + 10 ≤ 103) (hT : TX T) {h0 : hp} (hTr0 : TR h0 T) {w0 t0 : Nat} (hw : w0 ≤ 15) (ht : t0 ≤ 12) : ∀ (f : Nat) (y : Nat) (g : hp) (r : Nat → Int) (s : Nat) (K : Nat → Nat), y + f = t0 → K 0 = w0 → K 1 = t0 → RO g r → TK T n r s → (-1000 ≤ r 6 ∧ r 6 ≤ 1000) → SA NC g b K → YB b h0 g → (∀ (g1 : hp) (r1 : Nat → Int) (s1 : Nat) (K1 : Nat → Nat), RO g1 r1 → TK T n r1 s1 → agF r r1 → SA NC g1 b K1 → YB b h0 g1 → ST (reaL T n f y s K) (r 6) (r 7) (r1 6) (r1 7) (fun v => s1 = v.1 ∧ K1 = v.2) → Ex NC none M_X4_readReach 63 [.ref 110, .ref b, .int (I ((y + f : Nat) : Int))] [] g1 Q) → Ex NC none M_X4_readReach 34 [.ref 110, .ref b, .int (I (y : Int))] [] g Q := by
  intro f
  induction f with
  | zero =>
    intro y g r s K hy hw0 ht0 hO hk h6 hS hY kk
    have hTr : TR g T := hTr0.mv (hY 111 (by decide) (by omega))
    refine ax_iload_n dX4_readReach_34 rfl ?_
    refine ax_aload_n dX4_readReach_35 rfl ?_
    refine ax_getf dX4_readReach_36 ck3 fl_X4_155 (by decide) hS.n0 hS.o rfl ?_
    refine ax_icmp_ge (tgt := 63) dX4_readReach_39 (by decide) (by omega) (by omega) (fun c39 => ?_) (fun c39 => ?_)
    · have e : y = t0 := by omega
      have z := kk g r s K hO hk ⟨rfl, rfl, rfl, rfl, rfl⟩ hS hY (ST.ok ⟨rfl, rfl⟩)
      exact z
    · exfalso
      omega
  | succ f ih =>
    intro y g r s K hy hw0 ht0 hO hk h6 hS hY kk
    have hTr : TR g T := hTr0.mv (hY 111 (by decide) (by omega))
    refine ax_iload_n dX4_readReach_34 rfl ?_
    refine ax_aload_n dX4_readReach_35 rfl ?_
    refine ax_getf dX4_readReach_36 ck3 fl_X4_155 (by decide) hS.n0 hS.o rfl ?_
    refine ax_icmp_ge (tgt := 63) dX4_readReach_39 (by decide) (by omega) (by omega) (fun c39 => ?_) (fun c39 => ?_)
    · exfalso
      omega
    · refine ax_aload_n dX4_readReach_42 rfl ?_
      refine ax_getf dX4_readReach_43 ck3 fl_X4_158 (by decide) hS.n0 hS.o rfl ?_
      refine ax_iload_n dX4_readReach_46 rfl ?_
      refine ax_aload_n dX4_readReach_47 rfl ?_
      refine ax_iconst dX4_readReach_48 ?_
      refine ax_aload_n dX4_readReach_49 rfl ?_
      refine ax_cviP0 dX4_readReach_50 ln_X4_readReach_161 (Nat.le_of_ble_eq_true rfl) (Or.inl rfl) hS.n0 hS.o rfl (sp_middle0 hS (by omega)) ?_
      refine ax_cvi2 dX4_readReach_53 ln_X4_readReach_109 (Nat.le_of_ble_eq_true rfl) (Or.inl rfl) (by omega) hO rfl (sp_readNumber hN hO hT hTr hk h6 (by omega)) (fun v g1 hq => ?_)
      obtain ⟨v1, r1, s1, hv, hv2, hO1, hk1, ha1, y1, st1⟩ := hq
      cases hv
      obtain ⟨v, rfl⟩ : ∃ m : Nat, v1 = (m : Int) := ⟨v1.toNat, by omega⟩
      have hS1 : SA NC g1 b K := hS.eq (fun a a1 a2 => y1 a (by omega))
      refine ax_iasr (j := y) dX4_readReach_56 (hS1.n 1 (by omega)) hS1.re (by omega) (by omega) (by decide) (fun e56 he56 => ?_)
      have hS2 := hS1.w1 (j := y) (by omega) he56
      have hO2 : RO (va_up g1 (b + 1) e56) r1 := (vu_ne (by omega)).trans hO1
      have hY2 := (hY.y y1).up (j := 1) (e := e56) (by decide)
      generalize va_up g1 (b + 1) e56 = g2 at *
      refine ax_iinc dX4_readReach_57 rfl rfl (by decide) ?_
      refine ax_goto (tgt := 34) dX4_readReach_60 (by decide) ?_
      refine ih (y + 1) g2 r1 s1 _ (by omega) (by rw [up_ne (by omega)]; exact hw0) (by rw [up_ne (by omega)]; exact ht0) hO2 hk1 (st1.rg h6) hS2 hY2 (fun g3 r3 s3 K3 hO3 hk3 ha3 hS3 hY3 st3 => ?_)
      rw [show y + 1 + f = y + (f + 1) by omega]
      refine kk g3 r3 s3 K3 hO3 hk3 (ha1.tr ha3) hS3 hY3 (ST.bnd st1 (fun e => st3.keep e) (fun yy e0 hy => ?_))
      obtain ⟨q1, q2, -⟩ := hy
      rw [← q1, ← q2, Int.toNat_natCast]
      exact st3
theorem rea_tail (hN : 112 ≤ NC) (hb : b + 10 ≤ 103) (hT : TX T) (hO : RO h r) (hTr : TR h T) (hk : TK T n r s) (h6 : -1000 ≤ r 6 ∧ r 6 ≤ 1000) (hS : SA NC h b K) (hK : KI K) (hq : ∀ zz : Int, zz = (if decide (r 9 = 1 ∨ r 12 = 1) = true then (1 : Int) else 0) → True) : Ex NC none M_X4_readReach 20 [.ref 110, .ref b, .null] [.int (I (if decide (r 9 = 1 ∨ r 12 = 1) = true then (1 : Int) else 0)), .ref 110] h (fun _ h1 => ∃ r1 s1 K1, RO h1 r1 ∧ TK T n r1 s1 ∧ SA NC h1 b K1 ∧ YB b h h1 ∧ (r1 1 = r 1 ∧ r1 9 = 1 ∧ r1 10 = r 10 ∧ r1 11 = r 11 ∧ r1 12 = r 12) ∧ ST (reaP T n s K (r 9) (r 12)) (r 6) (r 7) (r1 6) (r1 7) (fun v => s1 = v.1 ∧ K1 = v.2)) := by
  have k0 := hK.1
  clear hq
  refine ax_cvv1 dX4_readReach_20 ln_X4_readReach_124 (Nat.le_of_ble_eq_true rfl) rfl (by omega) hO rfl (sp_refuseIf hN hO hT hTr hk h6 (by split <;> simp)) (fun g1 hq => ?_)
  rw [show (if (if decide (r 9 = 1 ∨ r 12 = 1) = true then (1 : Int) else 0) = 1 then flr r (-2) (s : Int) else r) = (if decide (r 9 = 1 ∨ r 12 = 1) = true then flr r (-2) (s : Int) else r) by split <;> simp] at hq
  obtain ⟨hO1, y1⟩ := hq
  obtain ⟨ra, era⟩ : ∃ ra, ra = (if decide (r 9 = 1 ∨ r 12 = 1) = true then flr r (-2) (s : Int) else r) := ⟨_, rfl⟩
  have hO1a : RO g1 ra := by rw [era]; exact hO1
  have sta := ST.chk (by decide) era
  have hka : TK T n ra s := by rw [era]; split; exact hk.fl; exact hk
  have hfa : agF r ra := by rw [era]; split; exact flrF; exact ⟨rfl, rfl, rfl, rfl, rfl⟩
  refine ax_aload_n dX4_readReach_23 rfl ?_
  refine ax_iconst dX4_readReach_24 ?_
  refine ax_putf dX4_readReach_25 ck4 fl_X4_37 (by decide) (by omega) hO1a rfl (Or.inr ⟨rfl, Or.inr rfl⟩) (Nat.le_of_ble_eq_true rfl) rfl ?_
  generalize hgg2 : va_up g1 110 _ = g2
  obtain ⟨rb, hO2, erb⟩ : ∃ rr, RO g2 rr ∧ rr = upZ ra 9 1 := ⟨_, by rw [← hgg2]; exact hO1a.s9, rfl⟩
  have y2 : Y1 h g2 := fun a ha => by rw [← hgg2]; exact (vu_ne ha).trans (y1 a ha)
  have hkb : TK T n rb s := by rw [erb]; exact hka
  have hTr2 : TR g2 T := hTr.mv (y2 111 (by decide))
  refine ax_aload_n dX4_readReach_28 rfl ?_
  refine ax_cvv0 dX4_readReach_29 ln_X4_readReach_50 (Nat.le_of_ble_eq_true rfl) rfl (by omega) hO2 rfl (sp_next hN hO2 hT hTr2 hkb) (fun g3 hq => ?_)
  obtain ⟨rc, hO3, hac, hkc, y3⟩ := hq
  have y4 : YB b h g3 := YB.rf.y (y2.tr y3)
  have hS3 : SA NC g3 b K := hS.eq (fun a a1 a2 => (y3 a (by omega)).trans (y2 a (by omega)))
  have e6 : rc 6 = ra 6 := (hac 6 (by decide) (by decide) (by decide)).trans (by rw [erb]; rfl)
  have e7 : rc 7 = ra 7 := (hac 7 (by decide) (by decide) (by decide)).trans (by rw [erb]; rfl)
  have hcF := hac.F
  refine ax_iconst dX4_readReach_32 ?_
  refine ax_istore_n dX4_readReach_33 rfl (by decide) ?_
  refine l_rea (f := K 1) hN hb hT (h0 := h) hTr (w0 := K 0) (t0 := K 1) (by omega) (by omega) 0 g3 rc (sN T n s) K (by omega) rfl rfl hO3 hkc (by rw [e6]; exact sta.rg h6) hS3 y4 (fun g5 r5 s5 K5 hO5 hk5 ha5 hS5 hY5 st5 => ?_)
  rw [Nat.zero_add]
  refine ax_vret dX4_readReach_63 rfl ⟨r5, s5, K5, hO5, hk5, hS5, hY5, ⟨?_, ?_, ?_, ?_, ?_⟩, ?_⟩
  · rw [ha5.1, hcF.1, erb]; exact hfa.1
  · rw [ha5.2.1, hcF.2.1, erb]; rfl
  · rw [ha5.2.2.1, hcF.2.2.1, erb]; exact hfa.2.2.1
  · rw [ha5.2.2.2.1, hcF.2.2.2.1, erb]; exact hfa.2.2.2.1
  · rw [ha5.2.2.2.2, hcF.2.2.2.2, erb]; exact hfa.2.2.2.2
  · rw [e6, e7] at st5
    exact ST.bnd sta (fun e => st5.keep e) (fun _ e0 _ => st5)
theorem sp_readReach (hN : 112 ≤ NC) (hb : b + 10 ≤ 103) (hT : TX T) (hO : RO h r) (hTr : TR h T) (hk : TK T n r s) (h6 : -1000 ≤ r 6 ∧ r 6 ≤ 1000) (hS : SA NC h b K) (hK : KI K) (hf : FLG r) : Cl NC M_X4_readReach [.ref 110, .ref b] h (fun _ h1 => ∃ r1 s1 K1, RO h1 r1 ∧ TK T n r1 s1 ∧ SA NC h1 b K1 ∧ YB b h h1 ∧ (r1 1 = r 1 ∧ r1 9 = 1 ∧ r1 10 = r 10 ∧ r1 11 = r 11 ∧ r1 12 = r 12) ∧ ST (reaP T n s K (r 9) (r 12)) (r 6) (r 7) (r1 6) (r1 7) (fun v => s1 = v.1 ∧ K1 = v.2)) := by
  obtain ⟨f9, f10, f11, f12⟩ := hf
  refine ax_aload_n dX4_readReach_0 rfl ?_
  refine ax_aload_n dX4_readReach_1 rfl ?_
  refine ax_getf dX4_readReach_2 ck4 fl_X4_37 (by decide) (by omega) hO rfl ?_
  refine ax_if_ne (tgt := 15) dX4_readReach_5 (by decide) (by omega) (fun c5 => ?_) (fun c5 => ?_)
  · refine ax_iconst dX4_readReach_15 ?_
    refine ax_goto (tgt := 20) dX4_readReach_16 (by decide) ?_
    have z := rea_tail hN hb hT hO hTr hk h6 hS hK (fun _ _ => trivial)
    rw [if_pos (decide_eq_true (Or.inl (by omega)))] at z
    exact z
  · refine ax_aload_n dX4_readReach_8 rfl ?_
    refine ax_getf dX4_readReach_9 ck4 fl_X4_47 (by decide) (by omega) hO rfl ?_
    refine ax_if_eq (tgt := 19) dX4_readReach_12 (by decide) (by omega) (fun c12 => ?_) (fun c12 => ?_)
    · refine ax_iconst dX4_readReach_19 ?_
      have z := rea_tail hN hb hT hO hTr hk h6 hS hK (fun _ _ => trivial)
      rw [if_neg (by rw [decide_eq_true_iff]; omega)] at z
      exact z
    · refine ax_iconst dX4_readReach_15 ?_
      refine ax_goto (tgt := 20) dX4_readReach_16 (by decide) ?_
      have z := rea_tail hN hb hT hO hTr hk h6 hS hK (fun _ _ => trivial)
      rw [if_pos (decide_eq_true (Or.inr (by omega)))] at z
      exact z
end RD
