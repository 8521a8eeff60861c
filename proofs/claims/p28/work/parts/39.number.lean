/-! what reading comes to: an error and its place, or something read -/
def bnd {A B : Type} (x : (Int × Int) ⊕ A) (f : A → (Int × Int) ⊕ B) : (Int × Int) ⊕ B := Sum.elim Sum.inl f x
/-- from error e at a to error e1 at a1: what was wrong stays, what is read is x -/
def ST {A : Type} (x : (Int × Int) ⊕ A) (e a e1 a1 : Int) (G : A → Prop) : Prop := (e ≠ 0 ∧ e1 = e ∧ a1 = a) ∨ (e = 0 ∧ ((∃ c b, x = .inl (c, b) ∧ (c < 0 ∧ -1000 ≤ c) ∧ e1 = c ∧ a1 = b) ∨ (∃ y, x = .inr y ∧ e1 = 0 ∧ a1 = a ∧ G y)))
theorem ST.keep {A : Type} {x : (Int × Int) ⊕ A} {e a e1 a1 : Int} {G : A → Prop} (h : ST x e a e1 a1 G) (he : e ≠ 0) : e1 = e ∧ a1 = a := by
  rcases h with h | h
  · exact h.2
  · exact absurd h.1 he
theorem ST.rg {A : Type} {x : (Int × Int) ⊕ A} {e a e1 a1 : Int} {G : A → Prop} (h : ST x e a e1 a1 G) (he : -1000 ≤ e ∧ e ≤ 1000) : -1000 ≤ e1 ∧ e1 ≤ 1000 := by
  rcases h with h | ⟨h, ⟨c, b, h1, h2, h3, h4⟩ | ⟨y, h1, h2, h3⟩⟩
  · omega
  · omega
  · omega
theorem ST.bnd {A B : Type} {x : (Int × Int) ⊕ A} {f : A → (Int × Int) ⊕ B} {e a e1 a1 e2 a2 : Int} {G : A → Prop} {G2 : B → Prop} (h : ST x e a e1 a1 G) (k1 : e1 ≠ 0 → e2 = e1 ∧ a2 = a1) (k2 : ∀ y, e1 = 0 → G y → ST (f y) e1 a1 e2 a2 G2) : ST (bnd x f) e a e2 a2 G2 := by
  rcases h with ⟨h1, h2, h3⟩ | ⟨h, ⟨c, b, h1, h2, h3, h4⟩ | ⟨y, h1, h2, h3, h4⟩⟩
  · have := k1 (by omega)
    exact Or.inl ⟨h1, by omega, by omega⟩
  · have := k1 (by omega)
    exact Or.inr ⟨h, Or.inl ⟨c, b, by rw [h1]; rfl, h2, by omega, by omega⟩⟩
  · have := k2 y h2 h4
    rw [h2, h3] at this
    rw [h1, h]
    exact this
theorem ST.ok {A : Type} {y : A} {e a : Int} {G : A → Prop} (h : G y) : ST (.inr y) e a e a G := by
  by_cases q : e = 0
  · exact Or.inr ⟨q, Or.inr ⟨y, rfl, q, rfl, h⟩⟩
  · exact Or.inl ⟨q, rfl, rfl⟩
theorem ST.no {A : Type} {c b e a : Int} {G : A → Prop} (hc : c < 0 ∧ -1000 ≤ c) : ST (.inl (c, b)) e a (if e = 0 then c else e) (if e = 0 then b else a) G := by
  by_cases q : e = 0
  · rw [if_pos q, if_pos q]; exact Or.inr ⟨q, Or.inl ⟨c, b, rfl, hc, rfl, rfl⟩⟩
  · rw [if_neg q, if_neg q]; exact Or.inl ⟨q, rfl, rfl⟩
theorem ST.wk {A : Type} {x : (Int × Int) ⊕ A} {e a e1 a1 : Int} {G G2 : A → Prop} (h : ST x e a e1 a1 G) (k : ∀ y, e1 = 0 → G y → G2 y) : ST x e a e1 a1 G2 := by
  rcases h with h | ⟨h, h1 | ⟨y, h1, h2, h3, h4⟩⟩
  · exact Or.inl h
  · exact Or.inr ⟨h, Or.inl h1⟩
  · exact Or.inr ⟨h, Or.inr ⟨y, h1, h2, h3, k y h2 h4⟩⟩
def sN (T : Nat → Int) (n s : Nat) : Nat := sk T n (tE T n s)
theorem sN_le {T : Nat → Int} {n s : Nat} (h : s ≤ n) : sN T n s ≤ n := sk_le (tE_le h)
def numP (T : Nat → Int) (n : Nat) (lo hi : Int) (s : Nat) : (Int × Int) ⊕ (Int × Nat) := if isD T n s = true then (if lo ≤ vN T n s ∧ vN T n s ≤ hi then .inr (vN T n s, sN T n s) else .inl (-3, (s : Int))) else .inl (-2, (s : Int))
/-- the fields that no token changes -/
def agF (r r1 : Nat → Int) : Prop := r1 1 = r 1 ∧ r1 9 = r 9 ∧ r1 10 = r 10 ∧ r1 11 = r 11 ∧ r1 12 = r 12
theorem agr.F {r r1 : Nat → Int} (h : agr r r1) : agF r r1 := ⟨h 1 (by decide) (by decide) (by decide), h 9 (by decide) (by decide) (by decide), h 10 (by decide) (by decide) (by decide), h 11 (by decide) (by decide) (by decide), h 12 (by decide) (by decide) (by decide)⟩
theorem agF.tr {r r1 r2 : Nat → Int} (h : agF r r1) (k : agF r1 r2) : agF r r2 := ⟨k.1.trans h.1, k.2.1.trans h.2.1, k.2.2.1.trans h.2.2.1, k.2.2.2.1.trans h.2.2.2.1, k.2.2.2.2.trans h.2.2.2.2⟩
theorem flr6 {r : Nat → Int} {c b : Int} : flr r c b 6 = (if r 6 = 0 then c else r 6) := by
  unfold flr; split
  · rfl
  · rfl
theorem flr7 {r : Nat → Int} {c b : Int} : flr r c b 7 = (if r 6 = 0 then b else r 7) := by
  unfold flr; split
  · rfl
  · rfl
theorem flrk {r : Nat → Int} {c b : Int} {k : Nat} (h : k ≠ 6) (h2 : k ≠ 7) : flr r c b k = r k := by
  unfold flr; split
  · simp only [upZ]; rw [if_neg h2, if_neg h]
  · rfl
theorem flrF {r : Nat → Int} {c b : Int} : agF r (flr r c b) := ⟨flrk (by decide) (by decide), flrk (by decide) (by decide), flrk (by decide) (by decide), flrk (by decide) (by decide), flrk (by decide) (by decide)⟩
theorem TK.fl {T r : Nat → Int} {n s : Nat} {c b : Int} (h : TK T n r s) : TK T n (flr r c b) s := ⟨h.1, h.2.1, (flrk (by decide) (by decide)).trans h.2.2.1, (flrk (by decide) (by decide)).trans h.2.2.2.1, (flrk (by decide) (by decide)).trans h.2.2.2.2.1, (flrk (by decide) (by decide)).trans h.2.2.2.2.2⟩
section RD
variable {NC : Nat} {h : hp} {r T : Nat → Int} {n s : Nat} {Q : qt}
theorem sp_next (hN : 112 ≤ NC) (hO : RO h r) (hT : TX T) (hTr : TR h T) (hk : TK T n r s) : Cl NC M_X4_goOn [.ref 110] h (fun _ h1 => ∃ r1, RO h1 r1 ∧ agr r r1 ∧ TK T n r1 (sN T n s) ∧ Y1 h h1) := sp_goOn hN hO hT hTr hk.1 (p := tE T n s) (tE_le hk.2.1) hk.2.2.1 hk.2.2.2.2.2
theorem l_val (hN : 112 ≤ NC) (hO : RO h r) (hT : TX T) (hTr : TR h T) (hk : TK T n r s) (hd : isD T n s = true) {lim : Int} (hl : 0 ≤ lim ∧ lim ≤ 1000) (kk : Q (.int (I (min (vN T n s) lim))) h) : ∀ (n1 : Nat) (k : Nat), k + n1 = rn (cD T) n s - s → Ex NC none M_X4_valueUpTo 7 [.ref 110, .int (I lim), .int (I (min (xv T s k) lim)), .int (I ((s : Int) + (k : Nat)))] [] h Q := by
  obtain ⟨hn, hsn, h2, h4, h3, h5⟩ := hk
  have rg := rn_ge (c := cD T) (n := n) (p := s)
  have rl := rn_le (c := cD T) hsn
  have hdg : ∀ i, i < rn (cD T) n s - s → 48 ≤ T (s + i) ∧ T (s + i) ≤ 57 := fun i hi => of_decide_eq_true (rn_in (c := cD T) (n := n) (p := s) (k := s + i) (by omega) (by omega)).2
  intro n1
  induction n1 with
  | zero =>
    intro k hk9
    refine ax_iload_n dX4_valueUpTo_7 rfl ?_
    refine ax_aload_n dX4_valueUpTo_8 rfl ?_
    refine ax_getf dX4_valueUpTo_9 ck4 fl_X4_28 (by decide) (by omega) hO rfl ?_
    rw [h5, tE_d hd]
    refine ax_icmp_ge (tgt := 36) dX4_valueUpTo_12 (by decide) (by omega) (by omega) (fun c12 => ?_) (fun c12 => ?_)
    · have e : k = rn (cD T) n s - s := by omega
      subst e
      refine ax_iload_n dX4_valueUpTo_36 rfl ?_
      exact ax_iret dX4_valueUpTo_37 rfl kk
    · exfalso
      omega
  | succ n1 ih =>
    intro k hk9
    refine ax_iload_n dX4_valueUpTo_7 rfl ?_
    refine ax_aload_n dX4_valueUpTo_8 rfl ?_
    refine ax_getf dX4_valueUpTo_9 ck4 fl_X4_28 (by decide) (by omega) hO rfl ?_
    rw [h5, tE_d hd]
    refine ax_icmp_ge (tgt := 36) dX4_valueUpTo_12 (by decide) (by omega) (by omega) (fun c12 => ?_) (fun c12 => ?_)
    · exfalso
      omega
    · refine ax_bipush dX4_valueUpTo_15 (by decide) ?_
      refine ax_iload_n dX4_valueUpTo_17 rfl ?_
      refine ax_imul dX4_valueUpTo_18 ?_
      refine ax_aload_n dX4_valueUpTo_19 rfl ?_
      refine ax_iload_n dX4_valueUpTo_20 rfl ?_
      have hdk := rn_in (c := cD T) (n := n) (p := s) (k := s + k) (by omega) (by omega)
      have hv := hdg k (by omega)
      rw [show (s : Int) + (k : Nat) = ((s + k : Nat) : Int) by push_cast; rfl]
      refine ax_cviP1 dX4_valueUpTo_21 ln_X4_valueUpTo_100 (Nat.le_of_ble_eq_true rfl) (Or.inl rfl) (by omega) hO rfl (sp_digitAt hN hO hT hTr (by omega)) ?_
      rw [show sb (T (s + k)) = T (s + k) from (sb_eq (hT (s + k) (by omega)) (c := T (s + k)) (by omega)).mpr rfl]
      have h0 := xv_ge (T := T) (s := s) (k := k) (fun i hi => (hdg i (by omega)).1)
      refine ax_iadd dX4_valueUpTo_24 ?_
      refine ax_iload_n dX4_valueUpTo_25 rfl ?_
      refine ex_l_min (by exact dX4_valueUpTo_26) (by decide) (show 2 ≤ _ ∧ 50 ≤ _ from ⟨by decide, by decide⟩) (Nat.le_of_ble_eq_true rfl) ?_
      rw [min_I (by omega) (by omega), xv_min (by omega) (fun i hi => (hdg i (by omega)).1)]
      refine ax_istore_n dX4_valueUpTo_29 rfl (by decide) ?_
      refine ax_iinc dX4_valueUpTo_30 rfl rfl (by decide) ?_
      refine ax_goto (tgt := 7) dX4_valueUpTo_33 (by decide) ?_
      rw [show ((s + k : Nat) : Int) + 1 = (s : Int) + ((k + 1 : Nat) : Int) by push_cast; omega]
      exact ih (k + 1) (by omega)
theorem sp_value (hN : 112 ≤ NC) (hO : RO h r) (hT : TX T) (hTr : TR h T) (hk : TK T n r s) (hd : isD T n s = true) {lim : Int} (hl : 0 ≤ lim ∧ lim ≤ 1000) : Cl NC M_X4_valueUpTo [.ref 110, .int (I lim)] h (fun v h1 => v = .int (I (min (vN T n s) lim)) ∧ h1 = h) := by
  refine ax_iconst dX4_valueUpTo_0 ?_
  refine ax_istore_n dX4_valueUpTo_1 rfl (by decide) ?_
  refine ax_aload_n dX4_valueUpTo_2 rfl ?_
  refine ax_getf dX4_valueUpTo_3 ck4 fl_X4_66 (by decide) (by omega) hO rfl ?_
  rw [hk.2.2.2.1]
  refine ax_istore_n dX4_valueUpTo_6 rfl (by decide) ?_
  have z := l_val (NC := NC) (h := h) (Q := fun v h1 => v = .int (I (min (vN T n s) lim)) ∧ h1 = h) hN hO hT hTr hk hd hl ⟨rfl, rfl⟩ (rn (cD T) n s - s) 0 (by omega)
  rw [show min (xv T s 0) lim = 0 by show min (0 : Int) lim = 0; omega, show (s : Int) + ((0 : Nat) : Int) = (s : Int) by simp] at z
  exact z
theorem sp_readNumber (hN : 112 ≤ NC) (hO : RO h r) (hT : TX T) (hTr : TR h T) (hk : TK T n r s) (h6 : -1000 ≤ r 6 ∧ r 6 ≤ 1000) {lo hi : Int} (hlh : 0 ≤ lo ∧ lo ≤ hi ∧ hi ≤ 200) : Cl NC M_X4_readNumber [.ref 110, .int (I lo), .int (I hi)] h (fun ret h1 => ∃ v r1 s1, ret = .int (I v) ∧ (lo ≤ v ∧ v ≤ hi) ∧ RO h1 r1 ∧ TK T n r1 s1 ∧ agF r r1 ∧ Y1 h h1 ∧ ST (numP T n lo hi s) (r 6) (r 7) (r1 6) (r1 7) (fun y => v = y.1 ∧ s1 = y.2 ∧ r1 8 = (s : Int))) := by
  have hk0 := hk
  obtain ⟨hn, hsn, h2, h4, h3, h5⟩ := hk
  have hk := hk0
  refine ax_aload_n dX4_readNumber_0 rfl ?_
  refine ax_getf dX4_readNumber_1 ck4 fl_X4_57 (by decide) (by omega) hO rfl ?_
  refine ax_iconst dX4_readNumber_4 ?_
  rw [h3]
  refine ax_icmp_eq (tgt := 20) dX4_readNumber_5 (by decide) (by have := kd_rg (T := T) (n := n) (s := s); omega) (by omega) (fun c5 => ?_) (fun c5 => ?_)
  · refine ax_aload_n dX4_readNumber_20 rfl ?_
    refine ax_aload_n dX4_readNumber_21 rfl ?_
    refine ax_getf dX4_readNumber_22 ck4 fl_X4_66 (by decide) (by omega) hO rfl ?_
    have hd := kd_d.mp c5
    rw [h4]
    refine ax_putf dX4_readNumber_25 ck4 fl_X4_93 (by decide) (by omega) hO rfl (Or.inl rfl) (Nat.le_of_ble_eq_true rfl) rfl ?_
    generalize hgg1 : va_up h 110 _ = g1
    obtain ⟨r1, hO1, er1⟩ : ∃ rr, RO g1 rr ∧ rr = upZ r 8 (s : Int) := ⟨_, by rw [← hgg1]; exact hO.s8, rfl⟩
    have y1 : Y1 h g1 := fun a ha => by rw [← hgg1]; exact (vu_ne ha)
    have hk1 : TK T n r1 s := by rw [er1]; exact hk
    have hTr1 : TR g1 T := hTr.mv (y1 111 (by decide))
    refine ax_aload_n dX4_readNumber_28 rfl ?_
    refine ax_iload_n dX4_readNumber_29 rfl ?_
    refine ax_iconst dX4_readNumber_30 ?_
    refine ax_iadd dX4_readNumber_31 ?_
    refine ax_cviP1 dX4_readNumber_32 ln_X4_readNumber_96 (Nat.le_of_ble_eq_true rfl) (Or.inl rfl) (by omega) hO1 rfl (sp_value hN hO1 hT hTr1 hk1 hd (by omega)) ?_
    refine ax_istore_n dX4_readNumber_35 rfl (by decide) ?_
    refine ax_aload_n dX4_readNumber_36 rfl ?_
    refine ax_cvv0 dX4_readNumber_37 ln_X4_readNumber_50 (Nat.le_of_ble_eq_true rfl) rfl (by omega) hO1 rfl (sp_next hN hO1 hT hTr1 hk1) (fun g2 hq => ?_)
    obtain ⟨r2, hO2, ha2, hk2, y2⟩ := hq
    have y3 := y1.tr y2
    have e6 : r2 6 = r 6 := (ha2 6 (by decide) (by decide) (by decide)).trans (by rw [er1]; rfl)
    have e7 : r2 7 = r 7 := (ha2 7 (by decide) (by decide) (by decide)).trans (by rw [er1]; rfl)
    have e8 : r2 8 = (s : Int) := (ha2 8 (by decide) (by decide) (by decide)).trans (by rw [er1]; rfl)
    have hF : agF r r2 := agF.tr (r1 := r1) (by rw [er1]; exact ⟨rfl, rfl, rfl, rfl, rfl⟩) ha2.F
    have hv0 : 0 ≤ vN T n s := xv_ge (fun i hi => (of_decide_eq_true (rn_in (c := cD T) (n := n) (p := s) (k := s + i) (by omega) (by omega)).2 : 48 ≤ T (s + i) ∧ _).1)
    refine ax_iload_n dX4_readNumber_40 rfl ?_
    refine ax_iload_n dX4_readNumber_41 rfl ?_
    refine ax_icmp_lt (tgt := 50) dX4_readNumber_42 (by decide) (by omega) (by omega) (fun c42 => ?_) (fun c42 => ?_)
    · refine ax_aload_n dX4_readNumber_50 rfl ?_
      refine ax_bipush dX4_readNumber_51 (by decide) ?_
      refine ax_aload_n dX4_readNumber_53 rfl ?_
      refine ax_getf dX4_readNumber_54 ck4 fl_X4_93 (by decide) (by omega) hO2 rfl ?_
      rw [e8]
      refine ax_cvv2 dX4_readNumber_57 ln_X4_readNumber_89 (Nat.le_of_ble_eq_true rfl) rfl (by omega) hO2 rfl (sp_fail hN hO2 (by omega)) (fun g3 hq => ?_)
      obtain ⟨hO3, y4⟩ := hq
      refine ax_iload_n dX4_readNumber_60 rfl ?_
      exact ax_iret dX4_readNumber_61 rfl ⟨lo, _, _, rfl, by omega, hO3, hk2.fl, hF.tr flrF, y3.tr y4, by rw [flr6, flr7, e6, e7]; unfold numP; rw [if_pos hd, if_neg (by omega)]; exact ST.no (by decide)⟩
    · refine ax_iload_n dX4_readNumber_45 rfl ?_
      refine ax_iload_n dX4_readNumber_46 rfl ?_
      refine ax_icmp_le (tgt := 62) dX4_readNumber_47 (by decide) (by omega) (by omega) (fun c47 => ?_) (fun c47 => ?_)
      · refine ax_iload_n dX4_readNumber_62 rfl ?_
        exact ax_iret dX4_readNumber_63 rfl ⟨_, r2, _, rfl, by omega, hO2, hk2, hF, y3, by rw [e6, e7]; unfold numP; rw [if_pos hd, if_pos (by omega)]; exact ST.ok ⟨by show min _ _ = vN T n s; omega, rfl, e8⟩⟩
      · refine ax_aload_n dX4_readNumber_50 rfl ?_
        refine ax_bipush dX4_readNumber_51 (by decide) ?_
        refine ax_aload_n dX4_readNumber_53 rfl ?_
        refine ax_getf dX4_readNumber_54 ck4 fl_X4_93 (by decide) (by omega) hO2 rfl ?_
        rw [e8]
        refine ax_cvv2 dX4_readNumber_57 ln_X4_readNumber_89 (Nat.le_of_ble_eq_true rfl) rfl (by omega) hO2 rfl (sp_fail hN hO2 (by omega)) (fun g3 hq => ?_)
        obtain ⟨hO3, y4⟩ := hq
        refine ax_iload_n dX4_readNumber_60 rfl ?_
        exact ax_iret dX4_readNumber_61 rfl ⟨lo, _, _, rfl, by omega, hO3, hk2.fl, hF.tr flrF, y3.tr y4, by rw [flr6, flr7, e6, e7]; unfold numP; rw [if_pos hd, if_neg (by omega)]; exact ST.no (by decide)⟩
  · refine ax_aload_n dX4_readNumber_8 rfl ?_
    refine ax_bipush dX4_readNumber_9 (by decide) ?_
    refine ax_aload_n dX4_readNumber_11 rfl ?_
    refine ax_getf dX4_readNumber_12 ck4 fl_X4_66 (by decide) (by omega) hO rfl ?_
    rw [h4]
    refine ax_cvv2 dX4_readNumber_15 ln_X4_readNumber_89 (Nat.le_of_ble_eq_true rfl) rfl (by omega) hO rfl (sp_fail hN hO h6) (fun g1 hq => ?_)
    obtain ⟨hO1, y1⟩ := hq
    refine ax_iload_n dX4_readNumber_18 rfl ?_
    exact ax_iret dX4_readNumber_19 rfl ⟨lo, _, s, rfl, by omega, hO1, hk.fl, flrF, y1, by rw [flr6, flr7]; unfold numP; rw [if_neg (fun w => c5 (kd_d.mpr w))]; exact ST.no (by decide)⟩
def wrdP (T : Nat → Int) (n j s : Nat) : (Int × Int) ⊕ Nat := if wd T n j s = true then .inr (sN T n s) else .inl (-2, (s : Int))
def semP (T : Nat → Int) (n s : Nat) : (Int × Int) ⊕ Nat := if kd T n s = 3 then .inr (sN T n s) else .inl (-2, (s : Int))
theorem sp_readWord (hN : 112 ≤ NC) (hO : RO h r) (hT : TX T) (hTr : TR h T) (hk : TK T n r s) (h6 : -1000 ≤ r 6 ∧ r 6 ≤ 1000) {j : Nat} (hj : j < 10) : Cl NC M_X4_readWord [.ref 110, .ref (2000 + j)] h (fun _ h1 => ∃ r1 s1, RO h1 r1 ∧ TK T n r1 s1 ∧ agF r r1 ∧ Y1 h h1 ∧ ST (wrdP T n j s) (r 6) (r 7) (r1 6) (r1 7) (fun y => s1 = y)) := by
  have hk0 := hk
  obtain ⟨hn, hsn, h2, h4, h3, h5⟩ := hk
  have hk := hk0
  refine ax_aload_n dX4_readWord_0 rfl ?_
  refine ax_aload_n dX4_readWord_1 rfl ?_
  refine ax_cviP1 dX4_readWord_2 ln_X4_readWord_85 (Nat.le_of_ble_eq_true rfl) (Or.inr rfl) (by omega) hO rfl (sp_isWord hN hO hT hTr hk hj) ?_
  refine ax_if_eq (tgt := 15) dX4_readWord_5 (by decide) (by split <;> omega) (fun c5 => ?_) (fun c5 => ?_)
  · have z : ¬ wd T n j s = true := fun w => by (rw [if_pos w] at c5; omega)
    refine ax_aload_n dX4_readWord_15 rfl ?_
    refine ax_bipush dX4_readWord_16 (by decide) ?_
    refine ax_aload_n dX4_readWord_18 rfl ?_
    refine ax_getf dX4_readWord_19 ck4 fl_X4_66 (by decide) (by omega) hO rfl ?_
    rw [h4]
    refine ax_cvv2 dX4_readWord_22 ln_X4_readWord_89 (Nat.le_of_ble_eq_true rfl) rfl (by omega) hO rfl (sp_fail hN hO h6) (fun g1 hq => ?_)
    obtain ⟨hO1, y1⟩ := hq
    exact ax_vret dX4_readWord_25 rfl ⟨_, s, hO1, hk.fl, flrF, y1, by rw [flr6, flr7]; unfold wrdP; rw [if_neg z]; exact ST.no (by decide)⟩
  · have z : wd T n j s = true := by (by_cases w : wd T n j s = true; exact w; rw [if_neg w] at c5; exact absurd rfl c5)
    refine ax_aload_n dX4_readWord_8 rfl ?_
    refine ax_cvv0 dX4_readWord_9 ln_X4_readWord_50 (Nat.le_of_ble_eq_true rfl) rfl (by omega) hO rfl (sp_next hN hO hT hTr hk) (fun g1 hq => ?_)
    obtain ⟨r2, hO2, ha2, hk2, y2⟩ := hq
    refine ax_goto (tgt := 25) dX4_readWord_12 (by decide) ?_
    exact ax_vret dX4_readWord_25 rfl ⟨r2, _, hO2, hk2, ha2.F, y2, by rw [ha2 6 (by decide) (by decide) (by decide), ha2 7 (by decide) (by decide) (by decide)]; unfold wrdP; rw [if_pos z]; exact ST.ok rfl⟩
theorem sp_readSemicolon (hN : 112 ≤ NC) (hO : RO h r) (hT : TX T) (hTr : TR h T) (hk : TK T n r s) (h6 : -1000 ≤ r 6 ∧ r 6 ≤ 1000) : Cl NC M_X4_readSemicolon [.ref 110] h (fun _ h1 => ∃ r1 s1, RO h1 r1 ∧ TK T n r1 s1 ∧ agF r r1 ∧ Y1 h h1 ∧ ST (semP T n s) (r 6) (r 7) (r1 6) (r1 7) (fun y => s1 = y)) := by
  have hk0 := hk
  obtain ⟨hn, hsn, h2, h4, h3, h5⟩ := hk
  have hk := hk0
  refine ax_aload_n dX4_readSemicolon_0 rfl ?_
  refine ax_getf dX4_readSemicolon_1 ck4 fl_X4_57 (by decide) (by omega) hO rfl ?_
  refine ax_iconst dX4_readSemicolon_4 ?_
  rw [h3]
  refine ax_icmp_ne (tgt := 15) dX4_readSemicolon_5 (by decide) (by have := kd_rg (T := T) (n := n) (s := s); omega) (by omega) (fun c5 => ?_) (fun c5 => ?_)
  · refine ax_aload_n dX4_readSemicolon_15 rfl ?_
    refine ax_bipush dX4_readSemicolon_16 (by decide) ?_
    refine ax_aload_n dX4_readSemicolon_18 rfl ?_
    refine ax_getf dX4_readSemicolon_19 ck4 fl_X4_66 (by decide) (by omega) hO rfl ?_
    rw [h4]
    refine ax_cvv2 dX4_readSemicolon_22 ln_X4_readSemicolon_89 (Nat.le_of_ble_eq_true rfl) rfl (by omega) hO rfl (sp_fail hN hO h6) (fun g1 hq => ?_)
    obtain ⟨hO1, y1⟩ := hq
    exact ax_vret dX4_readSemicolon_25 rfl ⟨_, s, hO1, hk.fl, flrF, y1, by rw [flr6, flr7]; unfold semP; rw [if_neg c5]; exact ST.no (by decide)⟩
  · refine ax_aload_n dX4_readSemicolon_8 rfl ?_
    refine ax_cvv0 dX4_readSemicolon_9 ln_X4_readSemicolon_50 (Nat.le_of_ble_eq_true rfl) rfl (by omega) hO rfl (sp_next hN hO hT hTr hk) (fun g1 hq => ?_)
    obtain ⟨r2, hO2, ha2, hk2, y2⟩ := hq
    refine ax_goto (tgt := 25) dX4_readSemicolon_12 (by decide) ?_
    exact ax_vret dX4_readSemicolon_25 rfl ⟨r2, _, hO2, hk2, ha2.F, y2, by rw [ha2 6 (by decide) (by decide) (by decide), ha2 7 (by decide) (by decide) (by decide)]; unfold semP; rw [if_pos c5]; exact ST.ok rfl⟩
theorem sp_refuseIf (hN : 112 ≤ NC) (hO : RO h r) (hT : TX T) (hTr : TR h T) (hk : TK T n r s) (h6 : -1000 ≤ r 6 ∧ r 6 ≤ 1000) {z : Int} (hz : z = 0 ∨ z = 1) : Cl NC M_X4_refuseIf [.ref 110, .int (I z)] h (fun _ h1 => RO h1 (if z = 1 then flr r (-2) (s : Int) else r) ∧ Y1 h h1) := by
  refine ax_iload_n dX4_refuseIf_0 rfl ?_
  refine ax_if_eq (tgt := 14) dX4_refuseIf_1 (by decide) (by omega) (fun c1 => ?_) (fun c1 => ?_)
  · exact ax_vret dX4_refuseIf_14 rfl ⟨by rw [if_neg (by omega)]; exact hO, fun a ha => rfl⟩
  · refine ax_aload_n dX4_refuseIf_4 rfl ?_
    refine ax_bipush dX4_refuseIf_5 (by decide) ?_
    refine ax_aload_n dX4_refuseIf_7 rfl ?_
    refine ax_getf dX4_refuseIf_8 ck4 fl_X4_66 (by decide) (by omega) hO rfl ?_
    rw [hk.2.2.2.1]
    refine ax_cvv2 dX4_refuseIf_11 ln_X4_refuseIf_89 (Nat.le_of_ble_eq_true rfl) rfl (by omega) hO rfl (sp_fail hN hO h6) (fun g1 hq => ?_)
    obtain ⟨hO1, y1⟩ := hq
    exact ax_vret dX4_refuseIf_14 rfl ⟨by rw [if_pos (by omega)]; exact hO1, y1⟩
end RD
