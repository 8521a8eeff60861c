/-! the sail of the class: what bleeds into a cell -/
def scN (K : Nat → Nat) (n : Nat) : Nat := (K (254 + n) * 10 + K (74 + n)) * 1000 + (999 - n)
def pkN (K : Nat → Nat) (i : Nat) (best nx ny : Int) : Int := if (onZ K nx ny = true ∧ K (434 + (ny * (K 0 : Int) + nx).toNat) = 0 ∧ K (254 + i) + 2 ≤ K (254 + (ny * (K 0 : Int) + nx).toNat)) ∧ (best < 0 ∨ scN K best.toNat < scN K (ny * (K 0 : Int) + nx).toNat) then ny * (K 0 : Int) + nx else best
def srcN (K : Nat → Nat) (x y : Nat) : Int := pkN K (y * K 0 + x) (pkN K (y * K 0 + x) (pkN K (y * K 0 + x) (pkN K (y * K 0 + x) (-1) x ((y : Int) - 1)) ((x : Int) - 1) y) ((x : Int) + 1) y) x ((y : Int) + 1)
def blN (K : Nat → Nat) (x y : Nat) : Int := if K (434 + (y * K 0 + x)) = 1 then -2 else if K (254 + (y * K 0 + x)) = 0 ∧ K (74 + (y * K 0 + x)) ≠ 0 then -3 else srcN K x y
theorem ah_sc {K : Nat → Nat} (hK : KI K) {n m : Nat} (hn : n < 180) (hm : m < 180) (h : m < n) : ahN K n m ↔ scN K m < scN K n := by
  have h1 := hK.2.2.2.2.1 n hn
  have h2 := hK.2.2.2.2.1 m hm
  unfold ahN scN
  omega
/-- a cell of the sail by naturals -/
theorem onZ_nat {K : Nat → Nat} (hK : KI K) {x y : Int} (h : onZ K x y = true) : ∃ u v : Nat, x = (u : Int) ∧ y = (v : Int) ∧ u < K 0 ∧ v < K 1 ∧ v * K 0 + u < nC K ∧ nC K ≤ 180 ∧ K 0 / 2 ≤ u + K (6 + v) ∧ u ≤ K 0 / 2 + K (6 + v) := by
  have k0 := hK.1
  rw [onZ_iff] at h
  have k1 := hK.2.1 y.toNat (by omega)
  refine ⟨x.toNat, y.toNat, by omega, by omega, by omega, by omega, ci_lt (by omega) (by omega), nC_le hK, by omega, by omega⟩
theorem pk_rg {K : Nat → Nat} (hK : KI K) {i : Nat} {best nx ny : Int} (hb : -1 ≤ best ∧ best < 180) : -1 ≤ pkN K i best nx ny ∧ pkN K i best nx ny < 180 := by
  unfold pkN
  split
  · rename_i h
    obtain ⟨u, v, rfl, rfl, h1, h2, h3, h4, -⟩ := onZ_nat hK h.1.1
    have e : ((v : Int) * (K 0 : Int) + (u : Int)) = ((v * K 0 + u : Nat) : Int) := by push_cast; omega
    omega
  · exact hb
theorem pk_bd {K : Nat → Nat} {i : Nat} {best nx ny B : Int} (hb : best < 0 ∨ best < B) (hn : onZ K nx ny = true → ny * (K 0 : Int) + nx < B) : pkN K i best nx ny < 0 ∨ pkN K i best nx ny < B := by
  unfold pkN
  split
  · rename_i h
    exact Or.inr (hn h.1.1)
  · exact hb
section SM
variable {NC b : Nat} {h : hp} {K : Nat → Nat} {Q : qt}
theorem src_step (hS : SA NC h b K) (hK : KI K) {x y : Nat} (hx : x < K 0) (hy : y < K 1) {j : Nat} (hj : j < 4) {dx dy nx ny best : Int} (h0 : tabF 0 j = I dx) (h1 : tabF 1 j = I dy) (hnx : (x : Int) + dx = nx) (hny : (y : Int) + dy = ny) (hd : -1 ≤ dx ∧ dx ≤ 1 ∧ -1 ≤ dy ∧ dy ≤ 1) (hb : -1 ≤ best ∧ best < 180) (hlt : onZ K nx ny = true → best < 0 ∨ best < ny * (K 0 : Int) + nx)
    (kk : ∀ best' : Int, best' = pkN K (y * K 0 + x) best nx ny → ∀ w6 w7 w8 w9 : Value, Ex NC none M_X3_sourceOf 47 [.ref b, .int (I (x : Int)), .int (I (y : Int)), .int (I ((y * K 0 + x : Nat) : Int)), .int (I best'), .int (I ((j : Int) + 1)), w6, w7, w8, w9] [] h Q) (w6 w7 w8 w9 : Value) : Ex NC none M_X3_sourceOf 47 [.ref b, .int (I (x : Int)), .int (I (y : Int)), .int (I ((y * K 0 + x : Nat) : Int)), .int (I best), .int (I (j : Int)), w6, w7, w8, w9] [] h Q := by
  have k0 := hK.1
  have hi : y * K 0 + x < 180 := by have := ci_lt hy hx; have := nC_le hK; omega
  refine ax_iload dX3_sourceOf_47 rfl ?_
  refine ex_gets (j := 0) (by decide) dX3_sourceOf_49 ?_
  refine ax_tlen dX3_sourceOf_52 (by decide) ?_
  refine ax_icmp_ge (tgt := 166) dX3_sourceOf_53 (by decide) (by omega) (by omega) (fun c53 => ?_) (fun c53 => ?_)
  · exfalso
    omega
  · refine ax_iload_n dX3_sourceOf_56 rfl ?_
    refine ex_gets (j := 0) (by decide) dX3_sourceOf_57 ?_
    refine ax_iload dX3_sourceOf_60 rfl ?_
    refine ax_tld (i := j) (v := I (dx)) dX3_sourceOf_62 (by omega) (by omega) (by decide) h0 ?_
    refine ax_iadd dX3_sourceOf_63 ?_
    rw [hnx]
    refine ax_istore dX3_sourceOf_64 rfl (by decide) ?_
    refine ax_iload_n dX3_sourceOf_66 rfl ?_
    refine ex_gets (j := 1) (by decide) dX3_sourceOf_67 ?_
    refine ax_iload dX3_sourceOf_70 rfl ?_
    refine ax_tld (i := j) (v := I (dy)) dX3_sourceOf_72 (by omega) (by omega) (by decide) h1 ?_
    refine ax_iadd dX3_sourceOf_73 ?_
    rw [hny]
    refine ax_istore dX3_sourceOf_74 rfl (by decide) ?_
    refine ax_aload_n dX3_sourceOf_76 rfl ?_
    refine ax_iload dX3_sourceOf_77 rfl ?_
    refine ax_iload dX3_sourceOf_79 rfl ?_
    refine ax_cviP2 dX3_sourceOf_81 ln_X3_sourceOf_124 (Nat.le_of_ble_eq_true rfl) (Or.inr rfl) hS.n0 hS.o rfl (sp_holds hS hK (by omega) (by omega)) ?_
    refine ax_if_ne (tgt := 90) dX3_sourceOf_84 (by decide) (by split <;> omega) (fun c84 => ?_) (fun c84 => ?_)
    · have hon : onZ K nx ny = true := by by_cases z : onZ K nx ny = true; exact z; rw [if_neg z] at c84; omega
      obtain ⟨u, v, rfl, rfl, u1, v1, n1, n2, -⟩ := onZ_nat hK hon
      have etn : ((v : Int) * (K 0 : Int) + (u : Int)).toNat = v * K 0 + u := by rw [show ((v : Int) * (K 0 : Int) + (u : Int)) = ((v * K 0 + u : Nat) : Int) by push_cast; omega]; exact Int.toNat_natCast _
      refine ax_aload_n dX3_sourceOf_90 rfl ?_
      refine ax_iload dX3_sourceOf_91 rfl ?_
      refine ax_iload dX3_sourceOf_93 rfl ?_
      refine ax_cviP2 dX3_sourceOf_95 ln_X3_sourceOf_99 (Nat.le_of_ble_eq_true rfl) (Or.inl rfl) hS.n0 hS.o rfl (sp_numberOf hS) ?_
      rw [show ((v : Int) * (K 0 : Int) + (u : Int)) = ((v * K 0 + u : Nat) : Int) by push_cast; omega]
      have hlt2 : best < 0 ∨ best < ((v * K 0 + u : Nat) : Int) := by have := hlt hon; push_cast; omega
      have w8a := hK.2.2.2.2.2.1 (v * K 0 + u) (by omega)
      have w8b := hK.2.2.2.2.2.1 (y * K 0 + x) (by omega)
      have w8c := hK.2.2.2.2.2.2.1 (v * K 0 + u) (by omega)
      refine ax_istore dX3_sourceOf_98 rfl (by decide) ?_
      refine ax_aload_n dX3_sourceOf_100 rfl ?_
      refine ax_getf dX3_sourceOf_101 ck3 fl_X3_36 (by decide) hS.n0 hS.o rfl ?_
      refine ax_iload dX3_sourceOf_104 rfl ?_
      refine ax_ialr (j := (v * K 0 + u)) (w := (K (434 + (v * K 0 + u)) : Int)) dX3_sourceOf_106 (hS.n 9 (by omega)) hS.sp (by omega) (by omega) (by decide) rfl ?_
      refine ax_if_ne (tgt := 132) dX3_sourceOf_107 (by decide) (by omega) (fun c107 => ?_) (fun c107 => ?_)
      · refine ax_iconst dX3_sourceOf_132 ?_
        refine ax_istore dX3_sourceOf_133 rfl (by decide) ?_
        refine ax_iload dX3_sourceOf_135 rfl ?_
        refine ax_if_eq (tgt := 160) dX3_sourceOf_137 (by decide) (by omega) (fun c137 => ?_) (fun c137 => ?_)
        · refine ax_iinc dX3_sourceOf_160 rfl rfl (by decide) ?_
          refine ax_goto (tgt := 47) dX3_sourceOf_163 (by decide) ?_
          exact kk _ (by unfold pkN; rw [if_neg (by first | (rintro ⟨⟨z1, -, -⟩, -⟩; exact hno z1) | (rintro ⟨⟨-, z2, z3⟩, z4⟩; rw [etn] at z2 z3 z4; first | omega | (rw [Int.toNat_natCast] at z4; rw [ah_sc hK (by omega) (by omega) (by omega)] at hq; omega)))]) _ _ _ _
        · exfalso
          omega
      · refine ax_aload_n dX3_sourceOf_110 rfl ?_
        refine ax_getf dX3_sourceOf_111 ck3 fl_X3_33 (by decide) hS.n0 hS.o rfl ?_
        refine ax_iload dX3_sourceOf_114 rfl ?_
        refine ax_ialr (j := (v * K 0 + u)) (w := (K (254 + (v * K 0 + u)) : Int)) dX3_sourceOf_116 (hS.n 8 (by omega)) hS.we (by omega) (by omega) (by decide) rfl ?_
        refine ax_aload_n dX3_sourceOf_117 rfl ?_
        refine ax_getf dX3_sourceOf_118 ck3 fl_X3_33 (by decide) hS.n0 hS.o rfl ?_
        refine ax_iload_n dX3_sourceOf_121 rfl ?_
        refine ax_ialr (j := (y * K 0 + x)) (w := (K (254 + (y * K 0 + x)) : Int)) dX3_sourceOf_122 (hS.n 8 (by omega)) hS.we (by omega) (by omega) (by decide) rfl ?_
        refine ax_iconst dX3_sourceOf_123 ?_
        refine ax_iadd dX3_sourceOf_124 ?_
        refine ax_icmp_lt (tgt := 132) dX3_sourceOf_125 (by decide) (by omega) (by omega) (fun c125 => ?_) (fun c125 => ?_)
        · refine ax_iconst dX3_sourceOf_132 ?_
          refine ax_istore dX3_sourceOf_133 rfl (by decide) ?_
          refine ax_iload dX3_sourceOf_135 rfl ?_
          refine ax_if_eq (tgt := 160) dX3_sourceOf_137 (by decide) (by omega) (fun c137 => ?_) (fun c137 => ?_)
          · refine ax_iinc dX3_sourceOf_160 rfl rfl (by decide) ?_
            refine ax_goto (tgt := 47) dX3_sourceOf_163 (by decide) ?_
            exact kk _ (by unfold pkN; rw [if_neg (by first | (rintro ⟨⟨z1, -, -⟩, -⟩; exact hno z1) | (rintro ⟨⟨-, z2, z3⟩, z4⟩; rw [etn] at z2 z3 z4; first | omega | (rw [Int.toNat_natCast] at z4; rw [ah_sc hK (by omega) (by omega) (by omega)] at hq; omega)))]) _ _ _ _
          · exfalso
            omega
        · refine ax_iconst dX3_sourceOf_128 ?_
          refine ax_goto (tgt := 133) dX3_sourceOf_129 (by decide) ?_
          refine ax_istore dX3_sourceOf_133 rfl (by decide) ?_
          refine ax_iload dX3_sourceOf_135 rfl ?_
          refine ax_if_eq (tgt := 160) dX3_sourceOf_137 (by decide) (by omega) (fun c137 => ?_) (fun c137 => ?_)
          · exfalso
            omega
          · refine ax_iload dX3_sourceOf_140 rfl ?_
            refine ax_if_lt (tgt := 156) dX3_sourceOf_142 (by decide) (by omega) (fun c142 => ?_) (fun c142 => ?_)
            · refine ax_iload dX3_sourceOf_156 rfl ?_
              refine ax_istore dX3_sourceOf_158 rfl (by decide) ?_
              refine ax_iinc dX3_sourceOf_160 rfl rfl (by decide) ?_
              refine ax_goto (tgt := 47) dX3_sourceOf_163 (by decide) ?_
              exact kk _ (by unfold pkN; rw [if_pos ⟨⟨hon, by rw [etn]; omega, by rw [etn]; omega⟩, by rw [etn]; first | exact Or.inl (by omega) | exact Or.inr (by rw [Int.toNat_natCast]; exact (ah_sc hK (by omega) (by omega) (by omega)).mp hq)⟩]; push_cast; rfl) _ _ _ _
            · refine ax_aload_n dX3_sourceOf_145 rfl ?_
              refine ax_iload dX3_sourceOf_146 rfl ?_
              refine ax_iload dX3_sourceOf_148 rfl ?_
              obtain ⟨q, rfl⟩ : ∃ q : Nat, best = (q : Int) := ⟨best.toNat, by omega⟩
              refine ax_cvi2 dX3_sourceOf_150 ln_X3_sourceOf_138 (Nat.le_of_ble_eq_true rfl) (Or.inr rfl) hS.n0 hS.o rfl (sp_isAhead hS hK (n := v * K 0 + u) (m := q) (by omega) (by omega)) (fun r hh hq0 => ?_)
              obtain ⟨hq0, rfl⟩ := hq0
              rcases hq0 with ⟨hr, hq⟩ | ⟨hr, hq⟩
              · cases hr
                refine ax_if_eq (tgt := 160) dX3_sourceOf_153 (by decide) (by omega) (fun c153 => ?_) (fun c153 => ?_)
                · exfalso
                  omega
                · refine ax_iload dX3_sourceOf_156 rfl ?_
                  refine ax_istore dX3_sourceOf_158 rfl (by decide) ?_
                  refine ax_iinc dX3_sourceOf_160 rfl rfl (by decide) ?_
                  refine ax_goto (tgt := 47) dX3_sourceOf_163 (by decide) ?_
                  exact kk _ (by unfold pkN; rw [if_pos ⟨⟨hon, by rw [etn]; omega, by rw [etn]; omega⟩, by rw [etn]; first | exact Or.inl (by omega) | exact Or.inr (by rw [Int.toNat_natCast]; exact (ah_sc hK (by omega) (by omega) (by omega)).mp hq)⟩]; push_cast; rfl) _ _ _ _
              · cases hr
                refine ax_if_eq (tgt := 160) dX3_sourceOf_153 (by decide) (by omega) (fun c153 => ?_) (fun c153 => ?_)
                · refine ax_iinc dX3_sourceOf_160 rfl rfl (by decide) ?_
                  refine ax_goto (tgt := 47) dX3_sourceOf_163 (by decide) ?_
                  exact kk _ (by unfold pkN; rw [if_neg (by first | (rintro ⟨⟨z1, -, -⟩, -⟩; exact hno z1) | (rintro ⟨⟨-, z2, z3⟩, z4⟩; rw [etn] at z2 z3 z4; first | omega | (rw [Int.toNat_natCast] at z4; rw [ah_sc hK (by omega) (by omega) (by omega)] at hq; omega)))]) _ _ _ _
                · exfalso
                  omega
    · have hno : ¬ onZ K nx ny = true := by intro z; rw [if_pos z] at c84; omega
      refine ax_goto (tgt := 160) dX3_sourceOf_87 (by decide) ?_
      refine ax_iinc dX3_sourceOf_160 rfl rfl (by decide) ?_
      refine ax_goto (tgt := 47) dX3_sourceOf_163 (by decide) ?_
      exact kk _ (by unfold pkN; rw [if_neg (by first | (rintro ⟨⟨z1, -, -⟩, -⟩; exact hno z1) | (rintro ⟨⟨-, z2, z3⟩, z4⟩; rw [etn] at z2 z3 z4; first | omega | (rw [Int.toNat_natCast] at z4; rw [ah_sc hK (by omega) (by omega) (by omega)] at hq; omega)))]) _ _ _ _
theorem sp_sourceOf (hS : SA NC h b K) (hK : KI K) {x y : Nat} (hon : onZ K (x : Int) (y : Int) = true) : Cl NC M_X3_sourceOf [.ref b, .int (I (x : Int)), .int (I (y : Int))] h (fun v h1 => v = .int (I (blN K x y)) ∧ h1 = h) := by
  have k0 := hK.1
  obtain ⟨u, v, hu, hv, hx, hy, n1, n2, -⟩ := onZ_nat hK hon
  have hu2 : x = u := by omega
  have hv2 : y = v := by omega
  subst hu2
  subst hv2
  have w8c := hK.2.2.2.2.2.2.1 (y * K 0 + x) (by omega)
  have w8b := hK.2.2.2.2.2.1 (y * K 0 + x) (by omega)
  have w8d := hK.2.2.2.2.1 (y * K 0 + x) (by omega)
  refine ax_aload_n dX3_sourceOf_0 rfl ?_
  refine ax_iload_n dX3_sourceOf_1 rfl ?_
  refine ax_iload_n dX3_sourceOf_2 rfl ?_
  refine ax_cviP2 dX3_sourceOf_3 ln_X3_sourceOf_99 (Nat.le_of_ble_eq_true rfl) (Or.inl rfl) hS.n0 hS.o rfl (sp_numberOf hS) ?_
  rw [show ((y : Int) * (K 0 : Int) + (x : Int)) = ((y * K 0 + x : Nat) : Int) by push_cast; omega]
  refine ax_istore_n dX3_sourceOf_6 rfl (by decide) ?_
  refine ax_aload_n dX3_sourceOf_7 rfl ?_
  refine ax_getf dX3_sourceOf_8 ck3 fl_X3_36 (by decide) hS.n0 hS.o rfl ?_
  refine ax_iload_n dX3_sourceOf_11 rfl ?_
  refine ax_ialr (j := (y * K 0 + x)) (w := (K (434 + (y * K 0 + x)) : Int)) dX3_sourceOf_12 (hS.n 9 (by omega)) hS.sp (by omega) (by omega) (by decide) rfl ?_
  refine ax_iconst dX3_sourceOf_13 ?_
  refine ax_icmp_ne (tgt := 20) dX3_sourceOf_14 (by decide) (by omega) (by omega) (fun c14 => ?_) (fun c14 => ?_)
  · refine ax_aload_n dX3_sourceOf_20 rfl ?_
    refine ax_getf dX3_sourceOf_21 ck3 fl_X3_33 (by decide) hS.n0 hS.o rfl ?_
    refine ax_iload_n dX3_sourceOf_24 rfl ?_
    refine ax_ialr (j := (y * K 0 + x)) (w := (K (254 + (y * K 0 + x)) : Int)) dX3_sourceOf_25 (hS.n 8 (by omega)) hS.we (by omega) (by omega) (by decide) rfl ?_
    refine ax_if_ne (tgt := 41) dX3_sourceOf_26 (by decide) (by omega) (fun c26 => ?_) (fun c26 => ?_)
    · refine ax_iconst dX3_sourceOf_41 ?_
      refine ax_istore dX3_sourceOf_42 rfl (by decide) ?_
      refine ax_iconst dX3_sourceOf_44 ?_
      refine ax_istore dX3_sourceOf_45 rfl (by decide) ?_
      refine src_step hS hK hx hy (j := 0) (dx := 0) (dy := -1) (nx := (x : Int)) (ny := (y : Int) - 1) (by decide) (by decide) (by decide) (by omega) (by omega) (by omega) (by omega) (fun _ => Or.inl (by omega)) (fun b1 e1 w6 w7 w8 w9 => ?_) _ _ _ _
      have g1 : -1 ≤ b1 ∧ b1 < 180 := by rw [e1]; exact pk_rg hK (by omega)
      have k1 := hK.2.1 y (by omega)
      have q1 : onZ K ((x : Int) - 1) (y : Int) = true → b1 < 0 ∨ b1 < (y : Int) * (K 0 : Int) + ((x : Int) - 1) := by
        intro z
        rw [onZ_iff, Int.toNat_natCast] at z
        rw [e1]; exact pk_bd (Or.inl (by omega)) (fun _ => by rw [Int.sub_mul]; omega)
      refine src_step hS hK hx hy (j := 1) (dx := -1) (dy := 0) (nx := (x : Int) - 1) (ny := (y : Int)) (by decide) (by decide) (by decide) (by omega) (by omega) (by omega) g1 q1 (fun b2 e2 w6 w7 w8 w9 => ?_) _ _ _ _
      have g2 : -1 ≤ b2 ∧ b2 < 180 := by rw [e2]; exact pk_rg hK g1
      have q2 : b2 < 0 ∨ b2 < (y : Int) * (K 0 : Int) + ((x : Int) + 1) := by
        rw [e2]; exact pk_bd (by rw [e1]; exact pk_bd (Or.inl (by omega)) (fun _ => by rw [Int.sub_mul]; omega)) (fun _ => by omega)
      refine src_step hS hK hx hy (j := 2) (dx := 1) (dy := 0) (nx := (x : Int) + 1) (ny := (y : Int)) (by decide) (by decide) (by decide) (by omega) (by omega) (by omega) g2 (fun _ => q2) (fun b3 e3 w6 w7 w8 w9 => ?_) _ _ _ _
      have g3 : -1 ≤ b3 ∧ b3 < 180 := by rw [e3]; exact pk_rg hK g2
      have q3 : b3 < 0 ∨ b3 < ((y : Int) + 1) * (K 0 : Int) + (x : Int) := by
        rw [e3, Int.add_mul]; exact pk_bd (by omega) (fun z => by rw [onZ_iff, Int.toNat_natCast] at z; omega)
      refine src_step hS hK hx hy (j := 3) (dx := 0) (dy := 1) (nx := (x : Int)) (ny := (y : Int) + 1) (by decide) (by decide) (by decide) (by omega) (by omega) (by omega) g3 (fun _ => q3) (fun b4 e4 w6 w7 w8 w9 => ?_) _ _ _ _
      refine ax_iload dX3_sourceOf_47 rfl ?_
      refine ex_gets (j := 0) (by decide) dX3_sourceOf_49 ?_
      refine ax_tlen dX3_sourceOf_52 (by decide) ?_
      refine ax_icmp_ge (tgt := 166) dX3_sourceOf_53 (by decide) (by omega) (by omega) (fun c53 => ?_) (fun c53 => ?_)
      · refine ax_iload dX3_sourceOf_166 rfl ?_
        exact ax_iret dX3_sourceOf_168 rfl ⟨iq (by unfold blN; rw [if_neg (by omega), if_neg (by omega)]; unfold srcN; rw [← e1, ← e2, ← e3, ← e4]), rfl⟩
      · exfalso
        omega
    · refine ax_aload_n dX3_sourceOf_29 rfl ?_
      refine ax_getf dX3_sourceOf_30 ck3 fl_X3_30 (by decide) hS.n0 hS.o rfl ?_
      refine ax_iload_n dX3_sourceOf_33 rfl ?_
      refine ax_ialr (j := (y * K 0 + x)) (w := (K (74 + (y * K 0 + x)) : Int)) dX3_sourceOf_34 (hS.n 7 (by omega)) hS.co (by omega) (by omega) (by decide) rfl ?_
      refine ax_if_eq (tgt := 41) dX3_sourceOf_35 (by decide) (by omega) (fun c35 => ?_) (fun c35 => ?_)
      · refine ax_iconst dX3_sourceOf_41 ?_
        refine ax_istore dX3_sourceOf_42 rfl (by decide) ?_
        refine ax_iconst dX3_sourceOf_44 ?_
        refine ax_istore dX3_sourceOf_45 rfl (by decide) ?_
        refine src_step hS hK hx hy (j := 0) (dx := 0) (dy := -1) (nx := (x : Int)) (ny := (y : Int) - 1) (by decide) (by decide) (by decide) (by omega) (by omega) (by omega) (by omega) (fun _ => Or.inl (by omega)) (fun b1 e1 w6 w7 w8 w9 => ?_) _ _ _ _
        have g1 : -1 ≤ b1 ∧ b1 < 180 := by rw [e1]; exact pk_rg hK (by omega)
        have k1 := hK.2.1 y (by omega)
        have q1 : onZ K ((x : Int) - 1) (y : Int) = true → b1 < 0 ∨ b1 < (y : Int) * (K 0 : Int) + ((x : Int) - 1) := by
          intro z
          rw [onZ_iff, Int.toNat_natCast] at z
          rw [e1]; exact pk_bd (Or.inl (by omega)) (fun _ => by rw [Int.sub_mul]; omega)
        refine src_step hS hK hx hy (j := 1) (dx := -1) (dy := 0) (nx := (x : Int) - 1) (ny := (y : Int)) (by decide) (by decide) (by decide) (by omega) (by omega) (by omega) g1 q1 (fun b2 e2 w6 w7 w8 w9 => ?_) _ _ _ _
        have g2 : -1 ≤ b2 ∧ b2 < 180 := by rw [e2]; exact pk_rg hK g1
        have q2 : b2 < 0 ∨ b2 < (y : Int) * (K 0 : Int) + ((x : Int) + 1) := by
          rw [e2]; exact pk_bd (by rw [e1]; exact pk_bd (Or.inl (by omega)) (fun _ => by rw [Int.sub_mul]; omega)) (fun _ => by omega)
        refine src_step hS hK hx hy (j := 2) (dx := 1) (dy := 0) (nx := (x : Int) + 1) (ny := (y : Int)) (by decide) (by decide) (by decide) (by omega) (by omega) (by omega) g2 (fun _ => q2) (fun b3 e3 w6 w7 w8 w9 => ?_) _ _ _ _
        have g3 : -1 ≤ b3 ∧ b3 < 180 := by rw [e3]; exact pk_rg hK g2
        have q3 : b3 < 0 ∨ b3 < ((y : Int) + 1) * (K 0 : Int) + (x : Int) := by
          rw [e3, Int.add_mul]; exact pk_bd (by omega) (fun z => by rw [onZ_iff, Int.toNat_natCast] at z; omega)
        refine src_step hS hK hx hy (j := 3) (dx := 0) (dy := 1) (nx := (x : Int)) (ny := (y : Int) + 1) (by decide) (by decide) (by decide) (by omega) (by omega) (by omega) g3 (fun _ => q3) (fun b4 e4 w6 w7 w8 w9 => ?_) _ _ _ _
        refine ax_iload dX3_sourceOf_47 rfl ?_
        refine ex_gets (j := 0) (by decide) dX3_sourceOf_49 ?_
        refine ax_tlen dX3_sourceOf_52 (by decide) ?_
        refine ax_icmp_ge (tgt := 166) dX3_sourceOf_53 (by decide) (by omega) (by omega) (fun c53 => ?_) (fun c53 => ?_)
        · refine ax_iload dX3_sourceOf_166 rfl ?_
          exact ax_iret dX3_sourceOf_168 rfl ⟨iq (by unfold blN; rw [if_neg (by omega), if_neg (by omega)]; unfold srcN; rw [← e1, ← e2, ← e3, ← e4]), rfl⟩
        · exfalso
          omega
      · refine ax_bipush dX3_sourceOf_38 (by decide) ?_
        exact ax_iret dX3_sourceOf_40 rfl ⟨iq (by unfold blN; rw [if_neg (by omega), if_pos (by omega)]), rfl⟩
  · refine ax_bipush dX3_sourceOf_17 (by decide) ?_
    exact ax_iret dX3_sourceOf_19 rfl ⟨iq (by unfold blN; rw [if_pos (by omega)]), rfl⟩
end SM
