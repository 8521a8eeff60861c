/-! THE KITE: what is written -/
theorem rf_c1 (r : Option Nat) : ((va_rf r).category == 1) = true := by cases r <;> rfl
theorem up_up {h : hg} {a : Nat} {e e1 : va_E} : up (up h a e) a e1 = up h a e1 := by
  funext b
  unfold up
  by_cases q : b = a
  · rw [if_pos q, if_pos q]
  · rw [if_neg q, if_neg q, if_neg q]
/-- the same shape -/
def geo (K K' : Nat → Nat) : Prop := K' 0 = K 0 ∧ K' 1 = K 1 ∧ ∀ y, y < 12 → K' (6 + y) = K (6 + y)
theorem geo.rf {K : Nat → Nat} : geo K K := ⟨rfl, rfl, fun _ _ => rfl⟩
theorem geo.of {K K' : Nat → Nat} (h : ∀ j, j < 74 → K' j = K j) : geo K K' := ⟨h 0 (by omega), h 1 (by omega), fun y hy => h _ (by omega)⟩
theorem geo.tr {K K' K2 : Nat → Nat} (h : geo K K') (h2 : geo K' K2) : geo K K2 := ⟨h2.1.trans h.1, h2.2.1.trans h.2.1, fun y hy => (h2.2.2 y hy).trans (h.2.2 y hy)⟩
theorem geo.gn {K K' : Nat → Nat} (h : geo K K') : nC K' = nC K := by unfold nC; rw [h.1, h.2.1]
theorem geo.gz {K K' : Nat → Nat} (h : geo K K') {x y : Int} (hy : y < 12) : onZ K' x y = onZ K x y := by
  unfold onZ
  rw [h.1, h.2.1]
  by_cases h0 : 0 ≤ y
  · rw [h.2.2 y.toNat (by omega)]
  · rw [show decide (0 ≤ y) = false from decide_eq_false h0]
    simp
theorem geo.go {K K' : Nat → Nat} (hK : KI K) (h : geo K K') {i : Nat} (hi : i < nC K) : on K' i = on K i := by
  have hd := div_12 hK hi
  unfold on
  rw [h.1]
  exact h.gz (by omega)
theorem geo.gm {K K' : Nat → Nat} (h : geo K K') (i : Nat) : mirN K' i = mirN K i := by unfold mirN; rw [h.1]
/-- what a Kite's own methods may write -/
def mutD (K : Nat → Nat) (k : Nat) (ce : Nat → Nat) : Nat → Prop := fun b => b = k ∨ ∃ i, i < nC K ∧ on K i = true ∧ b = ce i
def FRM (h h1 : hg) (D : Nat → Prop) : Prop := ∀ b e, h b = some e → ¬ D b → h1 b = some e
theorem FRM.rf {h : hg} {D : Nat → Prop} : FRM h h D := fun _ _ h _ => h
theorem FRM.tr {h h1 h2 : hg} {D : Nat → Prop} (a : FRM h h1 D) (b : FRM h1 h2 D) : FRM h h2 D := fun x e hx hd => b x e (a x e hx hd) hd
theorem FRM.wk {h h1 : hg} {D D' : Nat → Prop} (a : FRM h h1 D) (hd : ∀ b, D b → D' b) : FRM h h1 D' := fun x e hx hn => a x e hx (fun z => hn (hd x z))
theorem FRM.u1 {h : hg} {D : Nat → Prop} {a : Nat} {e : va_E} (ha : D a) : FRM h (up h a e) D := fun x e hx hn => by
  rw [ug_ne (fun z => hn (by rw [z]; exact ha))]
  exact hx
theorem FRM.new {h : hg} {D : Nat → Prop} {a : Nat} {e : va_E} (ha : h a = none) : FRM h (up h a e) D := fun x e hx hn => by
  rw [ug_ne (fun z => by rw [z, ha] at hx; cases hx)]
  exact hx
theorem mutD.geo {K K' : Nat → Nat} (hK : KI K) (hg : geo K K') {k : Nat} {ce : Nat → Nat} {b : Nat} (h : mutD K' k ce b) : mutD K k ce b := by
  rcases h with h | ⟨i, h1, h2, h3⟩
  · exact Or.inl h
  · rw [hg.gn] at h1
    rw [hg.go hK h1] at h2
    exact Or.inr ⟨i, h1, h2, h3⟩
section KC
variable {h : hg} {k w m p cl : Nat} {ce : Nat → Nat} {K : Nat → Nat}
theorem cell_inj (hK : KI K) {i j : Nat} (hi : i < nC K) (hj : j < nC K) (h : cellF K i = cellF K j) : i = j := by
  unfold cellF at h
  have k0 := hK.1
  have x1 := Nat.mod_lt i (show 0 < K 0 by omega)
  have x2 := Nat.mod_lt j (show 0 < K 0 by omega)
  have y1 := div_12 hK hi
  have y2 := div_12 hK hj
  simp only [List.cons.injEq, Value.int.injEq] at h
  have e1 := (I_eq (by omega) (by omega)).mp h.1
  have z1 : (0 : Int) ≤ ((i / K 0 : Nat) : Int) := Int.natCast_nonneg _
  have z2 : (0 : Int) ≤ ((j / K 0 : Nat) : Int) := Int.natCast_nonneg _
  have e2 := (I_eq (by omega) (by omega)).mp h.2.1
  rw [← cd_eq (K := K) i, ← cd_eq (K := K) j]
  rw [show i / K 0 = j / K 0 from Int.ofNat.inj e2, show i % K 0 = j % K 0 from Int.ofNat.inj e1]
theorem KT.inj (hT : KT h k w m p cl ce K) (hK : KI K) {i j : Nat} (hi : i < nC K) (hj : j < nC K) (oi : on K i = true) (oj : on K j = true) (e : ce i = ce j) : i = j := by
  have h1 := hT.2.2 i hi oi
  have h2 := hT.2.2 j hj oj
  rw [e, h2] at h1
  simp only [Option.some.injEq, Sum.inr.injEq, Prod.mk.injEq] at h1
  exact (cell_inj hK hj hi h1.2).symm
theorem KT.ck (hT : KT h k w m p cl ce K) {i : Nat} (hi : i < nC K) (oi : on K i = true) : ce i ≠ k := fun e => by
  have h1 := hT.2.2 i hi oi
  rw [e, hT.1] at h1
  simp at h1
theorem KT.cc (hT : KT h k w m p cl ce K) {i : Nat} (hi : i < nC K) (oi : on K i = true) : ce i ≠ cl := fun e => by
  have h1 := hT.2.2 i hi oi
  obtain ⟨f, h2, -⟩ := hT.2.1
  rw [e, h2] at h1
  simp at h1
theorem KT.kc (hT : KT h k w m p cl ce K) : k ≠ cl := fun e => by
  have h1 := hT.1
  obtain ⟨f, h2, -⟩ := hT.2.1
  rw [e, h2] at h1
  simp at h1
theorem kiteF_geo {K' : Nat → Nat} (hg : geo K K') (h2 : K' 2 = K 2 ∧ K' 3 = K 3 ∧ K' 4 = K 4) : kiteF K' w m p cl = kiteF K w m p cl := by
  unfold kiteF
  rw [hg.1, hg.2.1, h2.1, h2.2.1, h2.2.2]
/-- one cell is written -/
theorem KT.set (hT : KT h k w m p cl ce K) (hK : KI K) {i : Nat} (hi : i < nC K) (hon : on K i = true) {K' : Nat → Nat} (hg : geo K K') (h2 : K' 2 = K 2 ∧ K' 3 = K 3 ∧ K' 4 = K 4) (ho : ∀ j, j < nC K → j ≠ i → K' (74 + j) = K (74 + j) ∧ K' (254 + j) = K (254 + j) ∧ K' (434 + j) = K (434 + j)) {fs : List Value} (hfs : fs = cellF K' i) : KT (up h (ce i) (.inr (6, fs))) k w m p cl ce K' := by
  subst hfs
  refine ⟨?_, ?_, fun j hj oj => ?_⟩
  · rw [ug_ne (Ne.symm (hT.ck hi hon)), kiteF_geo hg h2]
    exact hT.1
  · rw [hg.gn]
    exact (hT.2.1.mv (ug_ne (Ne.symm (hT.cc hi hon)))).cong (fun j hj => by simp only [hg.go hK hj])
  · rw [hg.gn] at hj
    rw [hg.go hK hj] at oj
    by_cases e : j = i
    · subst e
      exact ug_eq
    · rw [ug_ne (fun z => e (hT.inj hK hj hi oj hon z)), hT.2.2 j hj oj]
      obtain ⟨a1, a2, a3⟩ := ho j hj e
      unfold cellF
      rw [hg.1, a1, a2, a3]
/-- a frame that spares a Kite -/
theorem KT.frm (hT : KT h k w m p cl ce K) {h1 : hg} {D : Nat → Prop} (hF : FRM h h1 D) (h0 : ¬ D k) (hc : ¬ D cl) (hx : ∀ i, i < nC K → on K i = true → ¬ D (ce i)) : KT h1 k w m p cl ce K := by
  refine ⟨hF k _ hT.1 h0, ?_, fun i hi oi => hF _ _ (hT.2.2 i hi oi) (hx i hi oi)⟩
  obtain ⟨g, h2, h3⟩ := hT.2.1
  exact ⟨g, hF cl _ h2 hc, h3⟩
/-- what is shared has contents of these kinds -/
def shE : va_E → Prop
  | .inl (t, n, _) => (t = 0 ∧ n = 7) ∨ t = 4 ∨ t = 9 ∨ t = 8 ∨ t = 1
  | .inr (c, _) => c = 9
theorem SHR.kp (hR : SHR h w m p K) {h1 : hg} (hF : ∀ b e, h b = some e → shE e → h1 b = some e) : SHR h1 w m p K := by
  obtain ⟨⟨f, a1, a2⟩, ⟨mr, ⟨g, b1, b2⟩, b3⟩, pr, ⟨q, c1, c2⟩, c3⟩ := hR
  refine ⟨⟨f, hF _ _ a1 (Or.inl ⟨rfl, rfl⟩), a2⟩, ⟨mr, ⟨g, hF _ _ b1 (Or.inr (Or.inl rfl)), b2⟩, fun a ha => ?_⟩, pr, ⟨q, hF _ _ c1 (Or.inr (Or.inr (Or.inl rfl))), c2⟩, fun j hj => ?_⟩
  · obtain ⟨f, d1, d2⟩ := b3 a ha
    exact ⟨f, hF _ _ d1 (Or.inl ⟨rfl, rfl⟩), d2⟩
  · obtain ⟨st, ⟨f, d1, d2⟩, d3⟩ := c3 j hj
    refine ⟨st, ⟨f, hF _ _ d1 (Or.inr (Or.inr (Or.inr (Or.inl rfl)))), d2⟩, fun l hl => ?_⟩
    obtain ⟨va, hs, hz, e1, f, e2, e3⟩ := d3 l hl
    exact ⟨va, hs, hz, hF _ _ e1 rfl, f, hF _ _ e2 (Or.inr (Or.inr (Or.inr (Or.inr rfl)))), e3⟩
theorem SHR.frm (hR : SHR h w m p K) (hT : KT h k w m p cl ce K) {h1 : hg} (hF : FRM h h1 (mutD K k ce)) : SHR h1 w m p K := hR.kp (fun b e hb he => hF b e hb (fun hd => by
  rcases hd with rfl | ⟨i, h1, h2, rfl⟩
  · rw [hT.1] at hb
    cases hb
    exact absurd (show (7 : Nat) = 9 from he) (by decide)
  · rw [hT.2.2 i h1 h2] at hb
    cases hb
    exact absurd (show (6 : Nat) = 9 from he) (by decide)))
theorem SHR.rk {K' : Nat → Nat} (hR : SHR h w m p K) (h1 : ∀ j, 18 ≤ j → j < 74 → K' j = K j) (h5 : K' 5 = K 5) (h6 : ∀ j, 614 ≤ j → K' j = K j) : SHR h w m p K' := by
  obtain ⟨a1, ⟨mr, b1, b3⟩, pr, c1, c3⟩ := hR
  refine ⟨a1.cong (fun i hi => by rw [h1 _ (by omega) (by omega)]), ⟨mr, b1, fun a ha => (b3 a ha).cong (fun i hi => by rw [h1 _ (by omega) (by omega)])⟩, pr, by rw [h5]; exact c1, fun j hj => ?_⟩
  rw [h5] at hj
  obtain ⟨st, d1, d3⟩ := c3 j hj
  refine ⟨st, by rw [h6 _ (by omega)]; exact d1, fun l hl => ?_⟩
  rw [h6 _ (by omega)] at hl
  obtain ⟨va, hs, hz, e1, e2⟩ := d3 l hl
  refine ⟨va, hs, hz, e1, ?_⟩
  rw [h6 _ (by omega)]
  exact e2.cong (fun d hd => by rw [h6 _ (by omega)])
theorem set_cell {K : Nat → Nat} {i c w9 : Nat} : cellF (setC K i c w9) i = [.int (I ((i % K 0 : Nat) : Int)), .int (I ((i / K 0 : Nat) : Int)), .int (I (c : Int)), .int (I (w9 : Int)), .int (I (K (434 + i) : Int))] := by
  have e0 : setC K i c w9 0 = K 0 := setC_0 (by omega)
  have e1 : setC K i c w9 (74 + i) = c := by unfold setC; rw [up_ne (by omega), up_same]
  have e2 : setC K i c w9 (254 + i) = w9 := by unfold setC; rw [up_same]
  have e3 : setC K i c w9 (434 + i) = K (434 + i) := by unfold setC; rw [up_ne (by omega), up_ne (by omega)]
  unfold cellF
  rw [e0, e1, e2, e3]
theorem set_oth {K : Nat → Nat} {i c w9 j : Nat} (h : j < 180 ∧ i < 180 ∧ j ≠ i) : setC K i c w9 (74 + j) = K (74 + j) ∧ setC K i c w9 (254 + j) = K (254 + j) ∧ setC K i c w9 (434 + j) = K (434 + j) := by
  unfold setC upN
  refine ⟨?_, ?_, ?_⟩ <;> rw [if_neg (by omega), if_neg (by omega)]
theorem KT.setC (hT : KT h k w m p cl ce K) (hK : KI K) {i c w9 : Nat} (hi : i < nC K) (hon : on K i = true) {fs : List Value} (hfs : fs = [.int (I ((i % K 0 : Nat) : Int)), .int (I ((i / K 0 : Nat) : Int)), .int (I (c : Int)), .int (I (w9 : Int)), .int (I (K (434 + i) : Int))]) : KT (up h (ce i) (.inr (6, fs))) k w m p cl ce (setC K i c w9) := by
  have hn := nC_le hK
  exact hT.set hK hi hon (geo.of (fun j hj => setC_0 hj)) ⟨setC_0 (by omega), setC_0 (by omega), setC_0 (by omega)⟩ (fun j hj hne => set_oth ⟨by omega, by omega, hne⟩) (hfs.trans set_cell.symm)
theorem KT.setS (hT : KT h k w m p cl ce K) (hK : KI K) {i v : Nat} (hi : i < nC K) (hon : on K i = true) {fs : List Value} (hfs : fs = [.int (I ((i % K 0 : Nat) : Int)), .int (I ((i / K 0 : Nat) : Int)), .int (I (K (74 + i) : Int)), .int (I (K (254 + i) : Int)), .int (I (v : Int))]) : KT (up h (ce i) (.inr (6, fs))) k w m p cl ce (upN K (434 + i) v) := by
  have hn := nC_le hK
  refine hT.set (K' := upN K (434 + i) v) hK hi hon (geo.of (fun j hj => up_ne (by omega))) ⟨up_ne (by omega), up_ne (by omega), up_ne (by omega)⟩ (fun j hj hne => ⟨up_ne (by omega), up_ne (by omega), up_ne (by omega)⟩) (hfs.trans ?_)
  unfold cellF
  rw [up_same, up_ne (by omega), up_ne (by omega), up_ne (by omega)]
theorem mutD.c {i : Nat} (hi : i < nC K) (hon : on K i = true) : mutD K k ce (ce i) := Or.inr ⟨i, hi, hon, rfl⟩
end KC
section KC2
variable {ad : Nat → Nat} {sc : Nat × (Nat → Int32)} {u : hp} {h : hg} {Q : qg} {k w m p cl : Nat} {ce : Nat → Nat} {K : Nat → Nat} {c sl : Nat}
theorem kt_paints0 (hT : KT h k w m p cl ce K) (hK : KI K) {i c9 w9 : Nat} (hi : i < nC K) (hon : on K i = true) {d : Nat} : Gl ad sc c sl (M_X7_paints d) [.ref k, .ref (ce i), .int (I (c9 : Int)), .int (I (w9 : Int)), .int (I 0)] u h (fun v u1 h1 => u1 = u ∧ KT h1 k w m p cl ce (setC K i c9 w9) ∧ FRM h h1 (mutD K k ce)) := by
  have hn9 := nC_le hK
  have k0 := hK.1
  have hc := hT.2.2 i hi hon
  refine bx_aload_n dX7_paints_0 rfl ?_
  refine bx_iload_n dX7_paints_1 rfl ?_
  refine bx_putf dX7_paints_2 ck6 fg_KitePainterLaw_Kite_74 (by decide) hc rfl ⟨rfl, rfl⟩ (Nat.le_of_ble_eq_true rfl) rfl ?_
  refine bx_aload_n dX7_paints_5 rfl ?_
  refine bx_iload_n dX7_paints_6 rfl ?_
  refine bx_putf dX7_paints_7 ck6 fg_KitePainterLaw_Kite_93 (by decide) ug_eq rfl ⟨rfl, rfl⟩ (Nat.le_of_ble_eq_true rfl) rfl ?_
  refine bx_iload dX7_paints_10 rfl ?_
  refine bx_if_eq (tgt := 27) dX7_paints_12 (by decide) (by omega) (fun c12 => ?_) (fun c12 => ?_)
  · exact bx_vret dX7_paints_27 rfl ⟨rfl, by rw [up_up]; exact hT.setC hK hi hon rfl, by rw [up_up]; exact FRM.u1 (mutD.c hi hon)⟩
  · exfalso
    omega
theorem kt_paints1 (hT : KT h k w m p cl ce K) (hK : KI K) {i c9 w9 : Nat} (hi : i < nC K) (hon : on K i = true) (hc9 : c9 ≤ 6) (hw9 : w9 ≤ 9) {d : Nat} : Gl ad sc c sl (M_X7_paints (d + 1)) [.ref k, .ref (ce i), .int (I (c9 : Int)), .int (I (w9 : Int)), .int (I 1)] u h (fun v u1 h1 => u1 = u ∧ KT h1 k w m p cl ce (setC (setC K i c9 w9) (mirN K i) c9 w9) ∧ FRM h h1 (mutD K k ce)) := by
  have hn9 := nC_le hK
  have k0 := hK.1
  have hc := hT.2.2 i hi hon
  have hK2 := hK.setC hi hon hc9 hw9
  have hg : geo K (setC K i c9 w9) := geo.of (fun j hj => setC_0 hj)
  have k1 := Nat.mod_lt i (show 0 < K 0 by omega)
  have kd := cd_eq (K := K) i
  have hmx : onZ K ((K 0 - 1 - i % K 0 : Nat) : Int) ((i / K 0 : Nat) : Int) = true := mir_on hK k1 hon
  have hmi : mirN K i < nC K := ci_lt (div_lt9 hK hi) (by omega)
  have hmo : on K (mirN K i) = true := by unfold mirN; rw [on_at (by omega)]; exact hmx
  have hat : atR (setC K i c9 w9) ce (((setC K i c9 w9) 0 : Int) - 1 - ((i % (setC K i c9 w9) 0 : Nat) : Int)) ((i / (setC K i c9 w9) 0 : Nat) : Int) = some (ce (mirN K i)) := by
    rw [hg.1, show (K 0 : Int) - 1 - ((i % K 0 : Nat) : Int) = ((K 0 - 1 - i % K 0 : Nat) : Int) by omega]
    unfold atR
    rw [hg.gz (by have := div_12 hK hi; omega), if_pos hmx, hg.1, Int.toNat_natCast, Int.toNat_natCast]
    rfl
  refine bx_aload_n dX7_paints_0 rfl ?_
  refine bx_iload_n dX7_paints_1 rfl ?_
  refine bx_putf dX7_paints_2 ck6 fg_KitePainterLaw_Kite_74 (by decide) hc rfl ⟨rfl, rfl⟩ (Nat.le_of_ble_eq_true rfl) rfl ?_
  refine bx_aload_n dX7_paints_5 rfl ?_
  refine bx_iload_n dX7_paints_6 rfl ?_
  refine bx_putf dX7_paints_7 ck6 fg_KitePainterLaw_Kite_93 (by decide) ug_eq rfl ⟨rfl, rfl⟩ (Nat.le_of_ble_eq_true rfl) rfl ?_
  refine bx_iload dX7_paints_10 rfl ?_
  refine bx_if_eq (tgt := 27) dX7_paints_12 (by decide) (by omega) (fun c12 => ?_) (fun c12 => ?_)
  · exfalso
    omega
  · rw [up_up]
    obtain ⟨h2, e2⟩ : ∃ x, x = up h (ce i) (.inr (6, ([.int (I ((i % K 0 : Nat) : Int)), .int (I ((i / K 0 : Nat) : Int)), .int (I (c9 : Int)), .int (I (w9 : Int)), .int (I (K (434 + i) : Int))] : List Value))) := ⟨_, rfl⟩
    have hT2 : KT h2 k w m p cl ce (setC K i c9 w9) := by rw [e2]; exact hT.setC hK hi hon rfl
    have hF2 : FRM h h2 (mutD K k ce) := by rw [e2]; exact FRM.u1 (mutD.c hi hon)
    have hc2 := hT2.2.2 i (by rw [hg.gn]; exact hi) (by rw [hg.go hK hi]; exact hon)
    change Gx _ _ _ _ _ _ _ _ _ (up h (ce i) (.inr (6, ([.int (I ((i % K 0 : Nat) : Int)), .int (I ((i / K 0 : Nat) : Int)), .int (I (c9 : Int)), .int (I (w9 : Int)), .int (I (K (434 + i) : Int))] : List Value)))) _
    rw [← e2]
    refine bx_aload_n dX7_paints_15 rfl ?_
    refine bx_aload_n dX7_paints_16 rfl ?_
    refine bx_aload_n dX7_paints_17 rfl ?_
    refine bx_cvP1 dX7_paints_18 ln_X7_paints_115 (Nat.le_of_ble_eq_true rfl) (by decide) hT2.1 rfl (by have := kt_mirror hT2 hK2 (ad := ad) (sc := sc) (u := u) (c := 0) (sl := 0) hc2 (by rw [hg.gn]; exact hi); rw [hat] at this; exact this) ?_
    refine bx_iload_n dX7_paints_21 rfl ?_
    refine bx_iload_n dX7_paints_22 rfl ?_
    refine bx_iconst dX7_paints_23 ?_
    refine bx_cvv4 dX7_paints_24 ln_X7_paints_127 (Nat.le_of_ble_eq_true rfl) rfl hT2.1 rfl (Nat.zero_le _) (Nat.zero_le _) (kt_paints0 (c := 0) (sl := 0) (c9 := c9) (w9 := w9) hT2 hK2 (by rw [hg.gn]; exact hmi) (by rw [hg.go hK hmi]; exact hmo)) (fun u9 h9 hq9 => ?_)
    exact bx_vret dX7_paints_27 rfl ⟨hq9.1, hq9.2.1, hF2.tr (hq9.2.2.wk (fun b hb => mutD.geo hK hg hb))⟩
theorem put_set {K : Nat → Nat} (hK : KI K) {x y : Int} {c9 w9 : Nat} {i : Nat} (hz : onZ K x y = true) (hi : i = y.toNat * K 0 + x.toNat) {mi : Bool} : putC K x y c9 w9 mi = if mi = true then setC (setC K i c9 w9) (mirN K i) c9 w9 else setC K i c9 w9 := by
  obtain ⟨a, b, rfl, rfl, h1, h2, -⟩ := onZ_nat hK hz
  rw [Int.toNat_natCast, Int.toNat_natCast] at hi
  subst hi
  unfold putC
  rw [if_pos hz, Int.toNat_natCast, Int.toNat_natCast, mir_at h1]
theorem at_ix {K : Nat → Nat} (hK : KI K) {x y : Int} (hz : onZ K x y = true) : ∃ i, i = y.toNat * K 0 + x.toNat ∧ i < nC K ∧ on K i = true ∧ x = ((i % K 0 : Nat) : Int) ∧ y = ((i / K 0 : Nat) : Int) := by
  obtain ⟨a, b, rfl, rfl, h1, h2, h3, -⟩ := onZ_nat hK hz
  refine ⟨b * K 0 + a, by rw [Int.toNat_natCast, Int.toNat_natCast], h3, by rw [on_at h1]; exact hz, by rw [ci_mod h1], by rw [ci_div h1]⟩
theorem kl_strokes {w1 : Value} {wy len c9 : Nat} (hwy : wy < 4) (hlen : len ≤ 100) (hc9 : c9 ≤ 6) {h0 : hg} {D : Nat → Prop} : ∀ (n : Nat) {h : hg} {K : Nat → Nat} (acc : Nat) (x y : Int), acc + n = len → KT h k w m p cl ce K → KI K → FRM h0 h D → (∀ b, mutD K k ce b → D b) → Gx ad sc M_X7_strokes 6 [.ref k, w1, .int (I (wy : Int)), .int (I (len : Int)), .int (I (c9 : Int)), .int (I (acc : Int)), va_rf (atR K ce x y)] [] c sl u h (fun v u1 h1 => v = .int (I (acc + (strP c9 (dxW wy) (dyW wy) n K x y).1)) ∧ u1 = u ∧ KT h1 k w m p cl ce (strP c9 (dxW wy) (dyW wy) n K x y).2 ∧ FRM h0 h1 D) := by
  intro n
  induction n with
  | zero =>
    intro h K acc x y hn hT hK hF hD
    have hn9 := nC_le hK
    have k0 := hK.1
    by_cases hz : onZ K x y = true
    · obtain ⟨i, hi, hic, hio, hx, hy⟩ := at_ix hK hz
      have e9 : atR K ce x y = some (ce i) := by unfold atR; rw [if_pos hz, ← hi]
      rw [e9]
      have hc := hT.2.2 i hic hio
      have h7 := hK.2.2.2.2.2.2.1 i (by omega)
      refine bx_aload dX7_strokes_6 rfl ?_
      refine gx_ifnull dX7_strokes_8 ?_
      refine bx_aload dX7_strokes_11 rfl ?_
      refine bx_getf dX7_strokes_13 ck6 fg_KitePainterLaw_Kite_77 (by decide) hc rfl ?_
      refine bx_if_ne (tgt := 51) dX7_strokes_16 (by decide) (by omega) (fun c16 => ?_) (fun c16 => ?_)
      · refine bx_iload dX7_strokes_51 rfl ?_
        exact bx_iret dX7_strokes_53 rfl ⟨by apply iq; show _ = (acc : Int) + 0; omega, rfl, hT, hF⟩
      · refine bx_iload dX7_strokes_19 rfl ?_
        refine bx_iload_n dX7_strokes_21 rfl ?_
        refine bx_icmp_ge (tgt := 51) dX7_strokes_22 (by decide) (by omega) (by omega) (fun c22 => ?_) (fun c22 => ?_)
        · refine bx_iload dX7_strokes_51 rfl ?_
          exact bx_iret dX7_strokes_53 rfl ⟨by apply iq; show _ = (acc : Int) + 0; omega, rfl, hT, hF⟩
        · exfalso
          omega
    · have e9 : atR K ce x y = none := if_neg hz
      rw [e9]
      refine gx_aloadN rfl dX7_strokes_6 ?_
      refine gx_ifnullN (tgt := 51) dX7_strokes_8 (by decide) ?_
      refine bx_iload dX7_strokes_51 rfl ?_
      exact bx_iret dX7_strokes_53 rfl ⟨by apply iq; skip; show _ = (acc : Int) + 0; omega, rfl, by skip; exact hT, hF⟩
  | succ n ih =>
    intro h K acc x y hn hT hK hF hD
    have hn9 := nC_le hK
    have k0 := hK.1
    by_cases hz : onZ K x y = true
    · obtain ⟨i, hi, hic, hio, hx, hy⟩ := at_ix hK hz
      have e9 : atR K ce x y = some (ce i) := by unfold atR; rw [if_pos hz, ← hi]
      rw [e9]
      have hc := hT.2.2 i hic hio
      have h7 := hK.2.2.2.2.2.2.1 i (by omega)
      have hst : K (434 + i) = 0 → strP c9 (dxW wy) (dyW wy) (n + 1) K x y = ((strP c9 (dxW wy) (dyW wy) n (putC K x y c9 6 true) (x + dxW wy) (y + dyW wy)).1 + 1, (strP c9 (dxW wy) (dyW wy) n (putC K x y c9 6 true) (x + dxW wy) (y + dyW wy)).2) := fun z => str_t ⟨hz, by rw [← hi]; exact z⟩
      refine bx_aload dX7_strokes_6 rfl ?_
      refine gx_ifnull dX7_strokes_8 ?_
      refine bx_aload dX7_strokes_11 rfl ?_
      refine bx_getf dX7_strokes_13 ck6 fg_KitePainterLaw_Kite_77 (by decide) hc rfl ?_
      refine bx_if_ne (tgt := 51) dX7_strokes_16 (by decide) (by omega) (fun c16 => ?_) (fun c16 => ?_)
      · refine bx_iload dX7_strokes_51 rfl ?_
        exact bx_iret dX7_strokes_53 rfl ⟨by apply iq; rw [str_f (fun z => by have := z.2; rw [← hi] at this; omega)]; show _ = (acc : Int) + 0; omega, rfl, by rw [str_f (fun z => by have := z.2; rw [← hi] at this; omega)]; exact hT, hF⟩
      · refine bx_iload dX7_strokes_19 rfl ?_
        refine bx_iload_n dX7_strokes_21 rfl ?_
        refine bx_icmp_ge (tgt := 51) dX7_strokes_22 (by decide) (by omega) (by omega) (fun c22 => ?_) (fun c22 => ?_)
        · exfalso
          omega
        · refine bx_aload_n dX7_strokes_25 rfl ?_
          refine bx_aload dX7_strokes_26 rfl ?_
          refine bx_iload dX7_strokes_28 rfl ?_
          refine bx_bipush dX7_strokes_30 (by decide) ?_
          refine bx_iconst dX7_strokes_32 ?_
          refine bx_cvv4 dX7_strokes_33 ln_X7_strokes_127 (Nat.le_of_ble_eq_true rfl) rfl hT.1 rfl (Nat.zero_le _) (Nat.zero_le _) (kt_paints1 (d := 0) (c := 0) (sl := 0) (c9 := c9) (w9 := 6) hT hK hic hio hc9 (by omega)) (fun u9 h9 hq9 => ?_)
          obtain ⟨rfl, hT2, hF2⟩ := hq9
          have ep : putC K x y c9 6 true = setC (setC K i c9 6) (mirN K i) c9 6 := by rw [put_set hK hz hi]; rfl
          rw [← ep] at hT2
          have hg2 : geo K (putC K x y c9 6 true) := geo.of (fun j hj => putC_0 hj)
          have hc2 := hT2.2.2 i (by rw [hg2.gn]; exact hic) (by rw [hg2.go hK hic]; exact hio)
          refine bx_iinc dX7_strokes_36 rfl rfl (by decide) rfl ?_
          refine bx_aload_n dX7_strokes_39 rfl ?_
          refine bx_aload dX7_strokes_40 rfl ?_
          refine bx_iload_n dX7_strokes_42 rfl ?_
          refine bx_cvP2 dX7_strokes_43 ln_X7_strokes_119 (Nat.le_of_ble_eq_true rfl) (by decide) hT2.1 rfl (by have := kt_beside hT2 (hK.pC (x := x) (y := y) (c := c9) (w := 6) (mi := true) hc9 (by omega)) (ad := ad) (sc := sc) (u := u9) (c := 0) (sl := 0) hc2 (by rw [hg2.gn]; exact hic) hwy; rw [hg2.1, ← hx, ← hy] at this; exact this) ?_
          refine bx_astoreq dX7_strokes_46 rfl (by decide) rfl ?_
          refine bx_goto (tgt := 6) dX7_strokes_48 (by decide) ?_
          have hK2 := hK.pC (x := x) (y := y) (c := c9) (w := 6) (mi := true) hc9 (by omega)
          have z9 := ih (acc + 1) (x + dxW wy) (y + dyW wy) (by omega) hT2 hK2 (hF.tr (hF2.wk (fun b hb => hD b hb))) (fun b hb => hD b (mutD.geo hK hg2 hb))
          rw [hst (by omega)]
          have e8 : ((acc : Int) + ((strP c9 (dxW wy) (dyW wy) n (putC K x y c9 6 true) (x + dxW wy) (y + dyW wy)).1 + 1)) = (((acc + 1 : Nat) : Int) + (strP c9 (dxW wy) (dyW wy) n (putC K x y c9 6 true) (x + dxW wy) (y + dyW wy)).1) := by omega
          show Gx _ _ _ _ _ _ _ _ _ _ (fun v u1 h1 => v = .int (I ((acc : Int) + ((strP c9 (dxW wy) (dyW wy) n (putC K x y c9 6 true) (x + dxW wy) (y + dyW wy)).1 + 1))) ∧ _)
          rw [e8]
          exact z9
    · have e9 : atR K ce x y = none := if_neg hz
      rw [e9]
      refine gx_aloadN rfl dX7_strokes_6 ?_
      refine gx_ifnullN (tgt := 51) dX7_strokes_8 (by decide) ?_
      refine bx_iload dX7_strokes_51 rfl ?_
      exact bx_iret dX7_strokes_53 rfl ⟨by apply iq; rw [str_f (fun z => hz z.1)]; show _ = (acc : Int) + 0; omega, rfl, by rw [str_f (fun z => hz z.1)]; exact hT, hF⟩
theorem kt_strokes (hT : KT h k w m p cl ce K) (hK : KI K) {i wy len c9 : Nat} (hi : i < nC K) (hon : on K i = true) (hwy : wy < 4) (hlen : len ≤ 100) (hc9 : c9 ≤ 6) : Gl ad sc c sl M_X7_strokes [.ref k, .ref (ce i), .int (I (wy : Int)), .int (I (len : Int)), .int (I (c9 : Int))] u h (fun v u1 h1 => v = .int (I (strP c9 (dxW wy) (dyW wy) len K ((i % K 0 : Nat) : Int) ((i / K 0 : Nat) : Int)).1) ∧ u1 = u ∧ KT h1 k w m p cl ce (strP c9 (dxW wy) (dyW wy) len K ((i % K 0 : Nat) : Int) ((i / K 0 : Nat) : Int)).2 ∧ FRM h h1 (mutD K k ce)) := by
  have hn9 := nC_le hK
  have k0 := hK.1
  have kd := cd_eq (K := K) i
  have e9 : atR K ce ((i % K 0 : Nat) : Int) ((i / K 0 : Nat) : Int) = some (ce i) := by
    unfold atR
    rw [show onZ K ((i % K 0 : Nat) : Int) ((i / K 0 : Nat) : Int) = true from hon, if_pos rfl, Int.toNat_natCast, Int.toNat_natCast, kd]
  have z9 := kl_strokes (ad := ad) (sc := sc) (u := u) (c := c) (sl := sl) (w1 := .ref (ce i)) hwy hlen hc9 len 0 ((i % K 0 : Nat) : Int) ((i / K 0 : Nat) : Int) (by omega) hT hK (FRM.rf (D := mutD K k ce)) (fun b hb => hb)
  rw [e9, show ((0 : Nat) : Int) + (strP c9 (dxW wy) (dyW wy) len K ((i % K 0 : Nat) : Int) ((i / K 0 : Nat) : Int)).1 = (strP c9 (dxW wy) (dyW wy) len K ((i % K 0 : Nat) : Int) ((i / K 0 : Nat) : Int)).1 by omega] at z9
  refine bx_iconst dX7_strokes_0 ?_
  refine bx_istore dX7_strokes_1 rfl (by decide) rfl ?_
  refine bx_aload_n dX7_strokes_3 rfl ?_
  refine bx_astore dX7_strokes_4 rfl (by decide) rfl ?_
  exact z9
theorem kl_spars {w1 : Value} {len : Nat} {dn : Bool} (hlen : len ≤ 100) {h0 : hg} {D : Nat → Prop} : ∀ (n : Nat) {h : hg} {K : Nat → Nat} (q : Nat) (acc : Int) (x y : Int), q + n = len → KT h k w m p cl ce K → KI K → FRM h0 h D → (∀ b, mutD K k ce b → D b) → Gx ad sc M_X7_spars 9 [.ref k, w1, .int (I (if dn = true then 1 else 0)), .int (I (len : Int)), .int (I acc), va_rf (atR K ce x y), .int (I (q : Int))] [] c sl u h (fun v u1 h1 => v = .int (I (acc + (spaP (sdx dn) (sdy dn) n K x y).1)) ∧ u1 = u ∧ KT h1 k w m p cl ce (spaP (sdx dn) (sdy dn) n K x y).2 ∧ FRM h0 h1 D) := by
  intro n
  induction n with
  | zero =>
    intro h K q acc x y hn hT hK hF hD
    have hn9 := nC_le hK
    have k0 := hK.1
    refine bx_iload dX7_spars_9 rfl ?_
    refine bx_iload_n dX7_spars_11 rfl ?_
    refine bx_icmp_ge (tgt := 67) dX7_spars_12 (by decide) (by omega) (by omega) (fun c12 => ?_) (fun c12 => ?_)
    · refine bx_iload dX7_spars_67 rfl ?_
      exact bx_iret dX7_spars_69 rfl ⟨by apply iq; show _ = acc + 0; omega, rfl, hT, hF⟩
    · exfalso
      omega
  | succ n ih =>
    intro h K q acc x y hn hT hK hF hD
    have hn9 := nC_le hK
    have k0 := hK.1
    by_cases hz : onZ K x y = true
    · obtain ⟨i, hi, hic, hio, hx, hy⟩ := at_ix hK hz
      have e9 : atR K ce x y = some (ce i) := by unfold atR; rw [if_pos hz, ← hi]
      rw [e9]
      have hc := hT.2.2 i hic hio
      have h7 := hK.2.2.2.2.2.2.1 i (by omega)
      have hT2 : KT (up h (ce i) (.inr (6, (cellF K i).set 4 (.int (I 1))))) k w m p cl ce (upN K (434 + i) 1) := hT.setS (v := 1) hK hic hio rfl
      have hK2 := hK.upS hic hio (v := 1) (by omega)
      have hg2 : geo K (upN K (434 + i) 1) := geo.of (fun j hj => up_ne (by omega))
      have hc2 := hT2.2.2 i (by rw [hg2.gn]; exact hic) (by rw [hg2.go hK hic]; exact hio)
      cases dn with
      | false =>
        refine bx_iload dX7_spars_9 rfl ?_
        refine bx_iload_n dX7_spars_11 rfl ?_
        refine bx_icmp_ge (tgt := 67) dX7_spars_12 (by decide) (by omega) (by omega) (fun c12 => ?_) (fun c12 => ?_)
        · exfalso
          omega
        · refine bx_aload dX7_spars_15 rfl ?_
          refine gx_ifnull dX7_spars_17 ?_
          refine bx_iload dX7_spars_20 rfl ?_
          refine bx_aload dX7_spars_22 rfl ?_
          refine bx_getf dX7_spars_24 ck6 fg_KitePainterLaw_Kite_77 (by decide) hc rfl ?_
          refine bx_if_eq (tgt := 34) dX7_spars_27 (by decide) (by omega) (fun q27 => ?_) (fun q27 => ?_)
          · refine bx_iconst dX7_spars_34 ?_
            refine bx_iadd dX7_spars_35 ?_
            refine bx_istore dX7_spars_36 rfl (by decide) rfl ?_
            refine bx_aload dX7_spars_38 rfl ?_
            refine bx_iconst dX7_spars_40 ?_
            refine bx_putf dX7_spars_41 ck6 fg_KitePainterLaw_Kite_77 (by decide) hc rfl ⟨rfl, rfl⟩ (Nat.le_of_ble_eq_true rfl) rfl ?_
            refine bx_aload_n dX7_spars_44 rfl ?_
            refine bx_aload dX7_spars_45 rfl ?_
            refine bx_iload_n dX7_spars_47 rfl ?_
            refine bx_if_eq (tgt := 55) dX7_spars_48 (by decide) (by decide) (fun c48 => ?_) (fun c48 => ?_)
            · refine bx_iconst dX7_spars_55 ?_
              refine bx_cvP2 dX7_spars_56 ln_X7_spars_119 (Nat.le_of_ble_eq_true rfl) (by decide) hT2.1 rfl (by have := kt_beside hT2 hK2 (ad := ad) (sc := sc) (u := u) (c := 0) (sl := 0) (j := 3) hc2 (by rw [hg2.gn]; exact hic) (by omega); rw [hg2.1, ← hx, ← hy] at this; exact this) ?_
              refine bx_astoreq dX7_spars_59 rfl (by decide) rfl ?_
              refine bx_iinc dX7_spars_61 rfl rfl (by decide) (rf_c1 _) ?_
              refine bx_goto (tgt := 9) dX7_spars_64 (by decide) ?_
              have z9 := ih (q + 1) (acc + 1) (x + sdx false) (y + sdy false) (by omega) hT2 hK2 (hF.tr (FRM.u1 (hD _ (mutD.c hic hio)))) (fun b hb => hD b (mutD.geo hK hg2 hb))
              have e7 : spaP (sdx false) (sdy false) (n + 1) K x y = ((spaP (sdx false) (sdy false) n (upN K (434 + i) 1) (x + sdx false) (y + sdy false)).1 + (1 - (K (434 + i) : Int)), (spaP (sdx false) (sdy false) n (upN K (434 + i) 1) (x + sdx false) (y + sdy false)).2) := by rw [spa_t hz, ← hi]
              rw [e7]
              show Gx _ _ _ _ _ _ _ _ _ _ (fun v u1 h1 => v = .int (I (acc + ((spaP (sdx false) (sdy false) n (upN K (434 + i) 1) (x + sdx false) (y + sdy false)).1 + (1 - (K (434 + i) : Int))))) ∧ _)
              rw [show acc + ((spaP (sdx false) (sdy false) n (upN K (434 + i) 1) (x + sdx false) (y + sdy false)).1 + (1 - (K (434 + i) : Int))) = acc + 1 + (spaP (sdx false) (sdy false) n (upN K (434 + i) 1) (x + sdx false) (y + sdy false)).1 by omega]
              exact z9
            · exact absurd c48 (by decide)
          · refine bx_iconst dX7_spars_30 ?_
            refine bx_goto (tgt := 35) dX7_spars_31 (by decide) ?_
            refine bx_iadd dX7_spars_35 ?_
            refine bx_istore dX7_spars_36 rfl (by decide) rfl ?_
            refine bx_aload dX7_spars_38 rfl ?_
            refine bx_iconst dX7_spars_40 ?_
            refine bx_putf dX7_spars_41 ck6 fg_KitePainterLaw_Kite_77 (by decide) hc rfl ⟨rfl, rfl⟩ (Nat.le_of_ble_eq_true rfl) rfl ?_
            refine bx_aload_n dX7_spars_44 rfl ?_
            refine bx_aload dX7_spars_45 rfl ?_
            refine bx_iload_n dX7_spars_47 rfl ?_
            refine bx_if_eq (tgt := 55) dX7_spars_48 (by decide) (by decide) (fun c48 => ?_) (fun c48 => ?_)
            · refine bx_iconst dX7_spars_55 ?_
              refine bx_cvP2 dX7_spars_56 ln_X7_spars_119 (Nat.le_of_ble_eq_true rfl) (by decide) hT2.1 rfl (by have := kt_beside hT2 hK2 (ad := ad) (sc := sc) (u := u) (c := 0) (sl := 0) (j := 3) hc2 (by rw [hg2.gn]; exact hic) (by omega); rw [hg2.1, ← hx, ← hy] at this; exact this) ?_
              refine bx_astoreq dX7_spars_59 rfl (by decide) rfl ?_
              refine bx_iinc dX7_spars_61 rfl rfl (by decide) (rf_c1 _) ?_
              refine bx_goto (tgt := 9) dX7_spars_64 (by decide) ?_
              have z9 := ih (q + 1) (acc + 0) (x + sdx false) (y + sdy false) (by omega) hT2 hK2 (hF.tr (FRM.u1 (hD _ (mutD.c hic hio)))) (fun b hb => hD b (mutD.geo hK hg2 hb))
              have e7 : spaP (sdx false) (sdy false) (n + 1) K x y = ((spaP (sdx false) (sdy false) n (upN K (434 + i) 1) (x + sdx false) (y + sdy false)).1 + (1 - (K (434 + i) : Int)), (spaP (sdx false) (sdy false) n (upN K (434 + i) 1) (x + sdx false) (y + sdy false)).2) := by rw [spa_t hz, ← hi]
              rw [e7]
              show Gx _ _ _ _ _ _ _ _ _ _ (fun v u1 h1 => v = .int (I (acc + ((spaP (sdx false) (sdy false) n (upN K (434 + i) 1) (x + sdx false) (y + sdy false)).1 + (1 - (K (434 + i) : Int))))) ∧ _)
              rw [show acc + ((spaP (sdx false) (sdy false) n (upN K (434 + i) 1) (x + sdx false) (y + sdy false)).1 + (1 - (K (434 + i) : Int))) = acc + 0 + (spaP (sdx false) (sdy false) n (upN K (434 + i) 1) (x + sdx false) (y + sdy false)).1 by omega]
              exact z9
            · exact absurd c48 (by decide)
      | true =>
        refine bx_iload dX7_spars_9 rfl ?_
        refine bx_iload_n dX7_spars_11 rfl ?_
        refine bx_icmp_ge (tgt := 67) dX7_spars_12 (by decide) (by omega) (by omega) (fun c12 => ?_) (fun c12 => ?_)
        · exfalso
          omega
        · refine bx_aload dX7_spars_15 rfl ?_
          refine gx_ifnull dX7_spars_17 ?_
          refine bx_iload dX7_spars_20 rfl ?_
          refine bx_aload dX7_spars_22 rfl ?_
          refine bx_getf dX7_spars_24 ck6 fg_KitePainterLaw_Kite_77 (by decide) hc rfl ?_
          refine bx_if_eq (tgt := 34) dX7_spars_27 (by decide) (by omega) (fun q27 => ?_) (fun q27 => ?_)
          · refine bx_iconst dX7_spars_34 ?_
            refine bx_iadd dX7_spars_35 ?_
            refine bx_istore dX7_spars_36 rfl (by decide) rfl ?_
            refine bx_aload dX7_spars_38 rfl ?_
            refine bx_iconst dX7_spars_40 ?_
            refine bx_putf dX7_spars_41 ck6 fg_KitePainterLaw_Kite_77 (by decide) hc rfl ⟨rfl, rfl⟩ (Nat.le_of_ble_eq_true rfl) rfl ?_
            refine bx_aload_n dX7_spars_44 rfl ?_
            refine bx_aload dX7_spars_45 rfl ?_
            refine bx_iload_n dX7_spars_47 rfl ?_
            refine bx_if_eq (tgt := 55) dX7_spars_48 (by decide) (by decide) (fun c48 => ?_) (fun c48 => ?_)
            · exact absurd c48 (by decide)
            · refine bx_iconst dX7_spars_51 ?_
              refine bx_goto (tgt := 56) dX7_spars_52 (by decide) ?_
              refine bx_cvP2 dX7_spars_56 ln_X7_spars_119 (Nat.le_of_ble_eq_true rfl) (by decide) hT2.1 rfl (by have := kt_beside hT2 hK2 (ad := ad) (sc := sc) (u := u) (c := 0) (sl := 0) (j := 1) hc2 (by rw [hg2.gn]; exact hic) (by omega); rw [hg2.1, ← hx, ← hy] at this; exact this) ?_
              refine bx_astoreq dX7_spars_59 rfl (by decide) rfl ?_
              refine bx_iinc dX7_spars_61 rfl rfl (by decide) (rf_c1 _) ?_
              refine bx_goto (tgt := 9) dX7_spars_64 (by decide) ?_
              have z9 := ih (q + 1) (acc + 1) (x + sdx true) (y + sdy true) (by omega) hT2 hK2 (hF.tr (FRM.u1 (hD _ (mutD.c hic hio)))) (fun b hb => hD b (mutD.geo hK hg2 hb))
              have e7 : spaP (sdx true) (sdy true) (n + 1) K x y = ((spaP (sdx true) (sdy true) n (upN K (434 + i) 1) (x + sdx true) (y + sdy true)).1 + (1 - (K (434 + i) : Int)), (spaP (sdx true) (sdy true) n (upN K (434 + i) 1) (x + sdx true) (y + sdy true)).2) := by rw [spa_t hz, ← hi]
              rw [e7]
              show Gx _ _ _ _ _ _ _ _ _ _ (fun v u1 h1 => v = .int (I (acc + ((spaP (sdx true) (sdy true) n (upN K (434 + i) 1) (x + sdx true) (y + sdy true)).1 + (1 - (K (434 + i) : Int))))) ∧ _)
              rw [show acc + ((spaP (sdx true) (sdy true) n (upN K (434 + i) 1) (x + sdx true) (y + sdy true)).1 + (1 - (K (434 + i) : Int))) = acc + 1 + (spaP (sdx true) (sdy true) n (upN K (434 + i) 1) (x + sdx true) (y + sdy true)).1 by omega]
              exact z9
          · refine bx_iconst dX7_spars_30 ?_
            refine bx_goto (tgt := 35) dX7_spars_31 (by decide) ?_
            refine bx_iadd dX7_spars_35 ?_
            refine bx_istore dX7_spars_36 rfl (by decide) rfl ?_
            refine bx_aload dX7_spars_38 rfl ?_
            refine bx_iconst dX7_spars_40 ?_
            refine bx_putf dX7_spars_41 ck6 fg_KitePainterLaw_Kite_77 (by decide) hc rfl ⟨rfl, rfl⟩ (Nat.le_of_ble_eq_true rfl) rfl ?_
            refine bx_aload_n dX7_spars_44 rfl ?_
            refine bx_aload dX7_spars_45 rfl ?_
            refine bx_iload_n dX7_spars_47 rfl ?_
            refine bx_if_eq (tgt := 55) dX7_spars_48 (by decide) (by decide) (fun c48 => ?_) (fun c48 => ?_)
            · exact absurd c48 (by decide)
            · refine bx_iconst dX7_spars_51 ?_
              refine bx_goto (tgt := 56) dX7_spars_52 (by decide) ?_
              refine bx_cvP2 dX7_spars_56 ln_X7_spars_119 (Nat.le_of_ble_eq_true rfl) (by decide) hT2.1 rfl (by have := kt_beside hT2 hK2 (ad := ad) (sc := sc) (u := u) (c := 0) (sl := 0) (j := 1) hc2 (by rw [hg2.gn]; exact hic) (by omega); rw [hg2.1, ← hx, ← hy] at this; exact this) ?_
              refine bx_astoreq dX7_spars_59 rfl (by decide) rfl ?_
              refine bx_iinc dX7_spars_61 rfl rfl (by decide) (rf_c1 _) ?_
              refine bx_goto (tgt := 9) dX7_spars_64 (by decide) ?_
              have z9 := ih (q + 1) (acc + 0) (x + sdx true) (y + sdy true) (by omega) hT2 hK2 (hF.tr (FRM.u1 (hD _ (mutD.c hic hio)))) (fun b hb => hD b (mutD.geo hK hg2 hb))
              have e7 : spaP (sdx true) (sdy true) (n + 1) K x y = ((spaP (sdx true) (sdy true) n (upN K (434 + i) 1) (x + sdx true) (y + sdy true)).1 + (1 - (K (434 + i) : Int)), (spaP (sdx true) (sdy true) n (upN K (434 + i) 1) (x + sdx true) (y + sdy true)).2) := by rw [spa_t hz, ← hi]
              rw [e7]
              show Gx _ _ _ _ _ _ _ _ _ _ (fun v u1 h1 => v = .int (I (acc + ((spaP (sdx true) (sdy true) n (upN K (434 + i) 1) (x + sdx true) (y + sdy true)).1 + (1 - (K (434 + i) : Int))))) ∧ _)
              rw [show acc + ((spaP (sdx true) (sdy true) n (upN K (434 + i) 1) (x + sdx true) (y + sdy true)).1 + (1 - (K (434 + i) : Int))) = acc + 0 + (spaP (sdx true) (sdy true) n (upN K (434 + i) 1) (x + sdx true) (y + sdy true)).1 by omega]
              exact z9
    · have e9 : atR K ce x y = none := if_neg hz
      rw [e9]
      refine bx_iload dX7_spars_9 rfl ?_
      refine bx_iload_n dX7_spars_11 rfl ?_
      refine bx_icmp_ge (tgt := 67) dX7_spars_12 (by decide) (by omega) (by omega) (fun c12 => ?_) (fun c12 => ?_)
      · exfalso
        omega
      · refine gx_aloadN rfl dX7_spars_15 ?_
        refine gx_ifnullN (tgt := 67) dX7_spars_17 (by decide) ?_
        refine bx_iload dX7_spars_67 rfl ?_
        exact bx_iret dX7_spars_69 rfl ⟨by apply iq; rw [spa_f hz]; show _ = acc + 0; omega, rfl, by rw [spa_f hz]; exact hT, hF⟩
theorem kt_spars (hT : KT h k w m p cl ce K) (hK : KI K) {i len : Nat} {dn : Bool} (hi : i < nC K) (hon : on K i = true) (hlen : len ≤ 100) : Gl ad sc c sl M_X7_spars [.ref k, .ref (ce i), .int (I (if dn = true then 1 else 0)), .int (I (len : Int))] u h (fun v u1 h1 => v = .int (I (spaP (sdx dn) (sdy dn) len K ((i % K 0 : Nat) : Int) ((i / K 0 : Nat) : Int)).1) ∧ u1 = u ∧ KT h1 k w m p cl ce (spaP (sdx dn) (sdy dn) len K ((i % K 0 : Nat) : Int) ((i / K 0 : Nat) : Int)).2 ∧ FRM h h1 (mutD K k ce)) := by
  have hn9 := nC_le hK
  have k0 := hK.1
  have kd := cd_eq (K := K) i
  have e9 : atR K ce ((i % K 0 : Nat) : Int) ((i / K 0 : Nat) : Int) = some (ce i) := by
    unfold atR
    rw [show onZ K ((i % K 0 : Nat) : Int) ((i / K 0 : Nat) : Int) = true from hon, if_pos rfl, Int.toNat_natCast, Int.toNat_natCast, kd]
  have z9 := kl_spars (ad := ad) (sc := sc) (u := u) (c := c) (sl := sl) (w1 := .ref (ce i)) (dn := dn) hlen len 0 0 ((i % K 0 : Nat) : Int) ((i / K 0 : Nat) : Int) (by omega) hT hK (FRM.rf (D := mutD K k ce)) (fun b hb => hb)
  rw [e9, show (0 : Int) + (spaP (sdx dn) (sdy dn) len K ((i % K 0 : Nat) : Int) ((i / K 0 : Nat) : Int)).1 = (spaP (sdx dn) (sdy dn) len K ((i % K 0 : Nat) : Int) ((i / K 0 : Nat) : Int)).1 by omega] at z9
  refine bx_iconst dX7_spars_0 ?_
  refine bx_istore dX7_spars_1 rfl (by decide) rfl ?_
  refine bx_aload_n dX7_spars_3 rfl ?_
  refine bx_astore dX7_spars_4 rfl (by decide) rfl ?_
  refine bx_iconst dX7_spars_6 ?_
  refine bx_istore dX7_spars_7 rfl (by decide) rfl ?_
  exact z9
end KC2
