/-! regions: the reference's search as a whole; the class's search -/
theorem BI.z {K : Nat → Nat} {c : Nat} {M : Nat → Int} {q : Nat → Nat} (h : mk01 M) : BI K c M M q 0 :=
  ⟨h, fun j hj => ⟨fun z => Or.inl z, fun z => z.elim id (fun ⟨k, hk, _⟩ => absurd hk (Nat.not_lt_zero _))⟩, fun k hk => absurd hk (Nat.not_lt_zero _), by simp⟩
section MK2
variable {NC : Nat} {h : hp} {s : Nat → Int} {K : Nat → Nat} {Q : qt}
end MK2
/-! the class's finder: 106, its rows 107 (seen), 108, 109 (found) -/
def FO (h : hp) (n : Nat) : Prop := h 106 = .inr (2, [.ref 107, .ref 108, .ref 109, .int (I (n : Int))])
def prm (j : Nat) : Nat := if j = 0 then 0 else if j = 1 then 2 else if j = 2 then 3 else 1
theorem prm_x {j : Nat} (hj : j < 4) : tabF 0 j = I (dxW (prm j)) := by
  match j with
  | 0 => decide
  | 1 => decide
  | 2 => decide
  | 3 => decide
theorem prm_y {j : Nat} (hj : j < 4) : tabF 1 j = I (dyW (prm j)) := by
  match j with
  | 0 => decide
  | 1 => decide
  | 2 => decide
  | 3 => decide
theorem prm_lt (j : Nat) : prm j < 4 := by unfold prm; repeat' split
                                           all_goals omega
theorem prm_all {w : Nat} (hw : w < 4) : ∃ j, j < 4 ∧ prm j = w := by
  match w with
  | 0 => exact ⟨0, by decide⟩
  | 1 => exact ⟨3, by decide⟩
  | 2 => exact ⟨1, by decide⟩
  | 3 => exact ⟨2, by decide⟩
theorem dxy_rg (j : Nat) : (-1 ≤ dxW j ∧ dxW j ≤ 1) ∧ (-1 ≤ dyW j ∧ dyW j ≤ 1) := by
  unfold dxW dyW
  constructor
  · split <;> (try split) <;> omega
  · split <;> (try split) <;> omega
def WP (K : Nat → Nat) (N : Nat → Int) (c : Nat) (w : Nat) : Prop := ∀ j, j < w → ∀ b : Nat, nbN K c (prm j) = (b : Int) → K (74 + b) = K (74 + c) → N b = 1
theorem WP.push {K : Nat → Nat} {N : Nat → Int} {c w b : Nat} (h : WP K N c w) : WP K (upZ N b 1) c w := fun j hj x h1 h2 => up1 (h j hj x h1 h2)
/-- what a visit asks -/
def visB (K : Nat → Nat) (N : Nat → Int) (x y : Int) (c n d : Nat) : Prop := onZ K x y = true ∧ y * (K 0 : Int) + x = (d : Int) ∧ d < nC K ∧ N d ≠ 1 ∧ K (74 + d) = c ∧ n < 180
def XY (K q : Nat → Nat) (X Y : Nat → Int) (n : Nat) : Prop := ∀ k, k < n → X k = ((q k % K 0 : Nat) : Int) ∧ Y k = ((q k / K 0 : Nat) : Int)
section FN
variable {NC b : Nat} {h : hp} {K : Nat → Nat} {Q : qt}
theorem sp_visit (hN : 112 ≤ NC) (hb : b + 10 ≤ 103) (hS : SA NC h b K) (hK : KI K) {n : Nat} (hF : FO h n) (hn : n ≤ 180) {N X Y : Nat → Int} (h01 : mk01 N) (hR : row 0 (h 107) 180 N) (hX : row 0 (h 108) 180 X) (hY : row 0 (h 109) 180 Y) {x y : Int} (hx : -1000 ≤ x ∧ x < 1000) (hy : -1000 ≤ y ∧ y < 1000) {c : Nat} (hc : c < 100) : Cl NC M_X2_visit [.ref 106, .ref b, .int (I x), .int (I y), .int (I (c : Int))] h (fun _ h1 => (∃ d, visB K N x y c n d ∧ FO h1 (n + 1) ∧ row 0 (h1 107) 180 (upZ N d 1) ∧ row 0 (h1 108) 180 (upZ X n x) ∧ row 0 (h1 109) 180 (upZ Y n y) ∧ EqX [106, 107, 108, 109] h h1) ∨ ((∀ d, ¬ visB K N x y c n d) ∧ h1 = h)) := by
  have k0 := hK.1
  have n0 := nC_le hK
  refine ax_aload_n dX2_visit_0 rfl ?_
  refine ax_iload_n dX2_visit_1 rfl ?_
  refine ax_iload_n dX2_visit_2 rfl ?_
  refine ax_cviP2 dX2_visit_3 ln_X2_visit_68 (Nat.le_of_ble_eq_true rfl) (Or.inr rfl) hS.n0 hS.o rfl (sp_holds hS hK (by omega) (by omega)) ?_
  refine ax_if_ne (tgt := 10) dX2_visit_6 (by decide) (by split <;> omega) (fun c6 => ?_) (fun c6 => ?_)
  · have z : onZ K x y = true := by (by_cases q : onZ K x y = true; exact q; rw [if_neg q] at c6; exact absurd rfl c6)
    obtain ⟨u, v, rfl, rfl, u1, v1, n1, n2, -⟩ := onZ_nat hK z
    have ed : ((v : Int) * (K 0 : Int) + (u : Int)) = ((v * K 0 + u : Nat) : Int) := by push_cast; omega
    refine ax_aload_n dX2_visit_10 rfl ?_
    refine ax_iload_n dX2_visit_11 rfl ?_
    refine ax_iload_n dX2_visit_12 rfl ?_
    refine ax_cviP2 dX2_visit_13 ln_X2_visit_40 (Nat.le_of_ble_eq_true rfl) (Or.inl rfl) hS.n0 hS.o rfl (sp_numberOf hS) ?_
    rw [ed]
    generalize v * K 0 + u = d0 at *
    refine ax_istore dX2_visit_16 rfl (by decide) ?_
    refine ax_aload_n dX2_visit_18 rfl ?_
    refine ax_getf dX2_visit_19 ck2 fl_X2_9 (by decide) (by omega) hF rfl ?_
    refine ax_iload dX2_visit_22 rfl ?_
    refine ax_ialr (j := d0) (w := (N d0 : Int)) dX2_visit_24 (by omega) hR (by omega) (by omega) (by decide) rfl ?_
    refine ax_iconst dX2_visit_25 ?_
    refine ax_icmp_eq (tgt := 51) dX2_visit_26 (by decide) (by rcases h01 d0 (by omega) with z | z <;> omega) (by omega) (fun c26 => ?_) (fun c26 => ?_)
    · exact ax_vret dX2_visit_51 rfl (Or.inr ⟨fun d hd => hd.2.2.2.1 (by have := hd.2.1; rw [show d = d0 by omega]; omega), rfl⟩)
    · refine ax_aload_n dX2_visit_29 rfl ?_
      refine ax_getf dX2_visit_30 ck3 fl_X2_44 (by decide) hS.n0 hS.o rfl ?_
      refine ax_iload dX2_visit_33 rfl ?_
      refine ax_ialr (j := d0) (w := (K (74 + d0) : Int)) dX2_visit_35 (hS.n 7 (by omega)) hS.co (by omega) (by omega) (by decide) rfl ?_
      refine ax_iload dX2_visit_36 rfl ?_
      refine ax_icmp_ne (tgt := 51) dX2_visit_38 (by decide) (by have := hK.2.2.2.2.1 d0 (by omega); omega) (by omega) (fun c38 => ?_) (fun c38 => ?_)
      · exact ax_vret dX2_visit_51 rfl (Or.inr ⟨fun d hd => c38 (by have := hd.2.1; have e := hd.2.2.2.2.1; rw [show d = d0 by omega] at e; omega), rfl⟩)
      · refine ax_aload_n dX2_visit_41 rfl ?_
        refine ax_getf dX2_visit_42 ck2 fl_X2_51 (by decide) (by omega) hF rfl ?_
        refine ax_sipush dX2_visit_45 (by decide) ?_
        refine ax_icmp_lt (tgt := 52) dX2_visit_48 (by decide) (by omega) (by omega) (fun c48 => ?_) (fun c48 => ?_)
        · refine ax_aload_n dX2_visit_52 rfl ?_
          refine ax_getf dX2_visit_53 ck2 fl_X2_9 (by decide) (by omega) hF rfl ?_
          refine ax_iload dX2_visit_56 rfl ?_
          refine ax_iconst dX2_visit_58 ?_
          refine ax_iasr (j := d0) dX2_visit_59 (by omega) hR (by omega) (by omega) (by decide) (fun e59 he59 => ?_)
          have x1 : EqX [106, 107, 108, 109] h (va_up h 107 e59) := EqX.rf.up (by decide)
          have hF1 : FO (va_up h 107 e59) n := (vu_ne (by decide)).trans hF
          have r1 : row 0 (va_up h 107 e59 107) 180 _ := he59.mv vu_eq
          have rx : row 0 (va_up h 107 e59 108) 180 _ := hX.mv (vu_ne (by decide))
          have ry : row 0 (va_up h 107 e59 109) 180 _ := hY.mv (vu_ne (by decide))
          generalize va_up h 107 e59 = g1 at *
          refine ax_aload_n dX2_visit_60 rfl ?_
          refine ax_getf dX2_visit_61 ck2 fl_X2_15 (by decide) (by omega) hF1 rfl ?_
          refine ax_aload_n dX2_visit_64 rfl ?_
          refine ax_getf dX2_visit_65 ck2 fl_X2_51 (by decide) (by omega) hF1 rfl ?_
          refine ax_iload_n dX2_visit_68 rfl ?_
          refine ax_iasr (j := n) dX2_visit_69 (by omega) rx (by omega) (by omega) (by decide) (fun e69 he69 => ?_)
          have x2 := x1.up (b := 108) (e := e69) (by decide)
          have hF2 : FO (va_up g1 108 e69) n := (vu_ne (by decide)).trans hF1
          have r2 : row 0 (va_up g1 108 e69 107) 180 _ := r1.mv (vu_ne (by decide))
          have rx2 : row 0 (va_up g1 108 e69 108) 180 _ := he69.mv vu_eq
          have ry2 : row 0 (va_up g1 108 e69 109) 180 _ := ry.mv (vu_ne (by decide))
          generalize va_up g1 108 e69 = g2 at *
          refine ax_aload_n dX2_visit_70 rfl ?_
          refine ax_getf dX2_visit_71 ck2 fl_X2_18 (by decide) (by omega) hF2 rfl ?_
          refine ax_aload_n dX2_visit_74 rfl ?_
          refine ax_getf dX2_visit_75 ck2 fl_X2_51 (by decide) (by omega) hF2 rfl ?_
          refine ax_iload_n dX2_visit_78 rfl ?_
          refine ax_iasr (j := n) dX2_visit_79 (by omega) ry2 (by omega) (by omega) (by decide) (fun e79 he79 => ?_)
          have x3 := x2.up (b := 109) (e := e79) (by decide)
          have hF3 : FO (va_up g2 109 e79) n := (vu_ne (by decide)).trans hF2
          have r3 : row 0 (va_up g2 109 e79 107) 180 _ := r2.mv (vu_ne (by decide))
          have rx3 : row 0 (va_up g2 109 e79 108) 180 _ := rx2.mv (vu_ne (by decide))
          have ry3 : row 0 (va_up g2 109 e79 109) 180 _ := he79.mv vu_eq
          generalize va_up g2 109 e79 = g3 at *
          refine ax_aload_n dX2_visit_80 rfl ?_
          refine ax_dup dX2_visit_81 rfl ?_
          refine ax_getf dX2_visit_82 ck2 fl_X2_51 (by decide) (by omega) hF3 rfl ?_
          refine ax_iconst dX2_visit_85 ?_
          refine ax_iadd dX2_visit_86 ?_
          refine ax_putf dX2_visit_87 ck2 fl_X2_51 (by decide) (by omega) hF3 rfl (Or.inl rfl) (Nat.le_of_ble_eq_true rfl) rfl ?_
          exact ax_vret dX2_visit_90 rfl (Or.inl ⟨d0, ⟨z, ed, by omega, c26, by omega, by omega⟩, by unfold FO; exact vu_eq, r3.mv (vu_ne (by decide)), rx3.mv (vu_ne (by decide)), ry3.mv (vu_ne (by decide)), x3.up (by decide)⟩)
        · exact ax_vret dX2_visit_51 rfl (Or.inr ⟨fun d hd => by have := hd.2.2.2.2.2; omega, rfl⟩)
  · have z : ¬ onZ K x y = true := fun q => by (rw [if_pos q] at c6; omega)
    exact ax_vret dX2_visit_9 rfl (Or.inr ⟨fun d hd => z hd.1, rfl⟩)
end FN
