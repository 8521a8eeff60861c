/-! THE KITE: bleeds -/
def mxS (K : Nat → Nat) (E : Nat → Prop) (v : Int) : Prop := (v = -1 ∧ ∀ d, ¬ E d) ∨ ∃ d : Nat, v = (d : Int) ∧ E d ∧ ∀ e, E e → scN K e ≤ scN K d
theorem mxS.uniq {K : Nat → Nat} {E F : Nat → Prop} {v w : Int} (hE : ∀ d, E d → d < 180) (hF : ∀ d, E d ↔ F d) (h : mxS K E v) (h' : mxS K F w) : v = w := by
  rcases h with ⟨rfl, h⟩ | ⟨d, rfl, h1, h2⟩
  · rcases h' with ⟨rfl, h'⟩ | ⟨e, rfl, h3, h4⟩
    · rfl
    · exact absurd ((hF e).mpr h3) (h e)
  · rcases h' with ⟨rfl, h'⟩ | ⟨e, rfl, h3, h4⟩
    · exact absurd ((hF d).mp h1) (h' d)
    · have a1 := h2 e ((hF e).mpr h3)
      have a2 := h4 d ((hF d).mp h1)
      have b1 := hE d h1
      have b2 := hE e ((hF e).mpr h3)
      unfold scN at a1 a2
      omega
theorem mxS.step {K : Nat → Nat} {E : Nat → Prop} {b v : Int} {d : Nat} {el : Prop} (h : mxS K E b) (hv : (el ∧ (b < 0 ∨ scN K b.toNat < scN K d) ∧ v = (d : Int)) ∨ (¬ (el ∧ (b < 0 ∨ scN K b.toNat < scN K d)) ∧ v = b)) : mxS K (fun e => E e ∨ (e = d ∧ el)) v := by
  rcases hv with ⟨he, hb, rfl⟩ | ⟨hn, rfl⟩
  · refine Or.inr ⟨d, rfl, Or.inr ⟨rfl, he⟩, fun e hq => ?_⟩
    rcases hq with hq | ⟨rfl, -⟩
    · rcases h with ⟨rfl, h⟩ | ⟨f, rfl, h1, h2⟩
      · exact absurd hq (h e)
      · have := h2 e hq
        rw [Int.toNat_natCast] at hb
        omega
    · exact Nat.le_refl _
  · rcases h with ⟨rfl, h⟩ | ⟨f, rfl, h1, h2⟩
    · refine Or.inl ⟨rfl, fun e hq => ?_⟩
      rcases hq with hq | ⟨rfl, he⟩
      · exact h e hq
      · exact hn ⟨he, Or.inl (by omega)⟩
    · refine Or.inr ⟨f, rfl, Or.inl h1, fun e hq => ?_⟩
      rcases hq with hq | ⟨rfl, he⟩
      · exact h2 e hq
      · rw [Int.toNat_natCast] at hn
        exact Nat.not_lt.mp (fun z => hn ⟨he, Or.inr z⟩)
theorem mxS.pk {K : Nat → Nat} {E : Nat → Prop} {b nx ny : Int} {i : Nat} (hK : KI K) (h : mxS K E b) : mxS K (fun e => E e ∨ (e = (ny * (K 0 : Int) + nx).toNat ∧ (onZ K nx ny = true ∧ K (434 + (ny * (K 0 : Int) + nx).toNat) = 0 ∧ K (254 + i) + 2 ≤ K (254 + (ny * (K 0 : Int) + nx).toNat)))) (pkN K i b nx ny) := by
  refine mxS.step h ?_
  unfold pkN
  by_cases hc : (onZ K nx ny = true ∧ K (434 + (ny * (K 0 : Int) + nx).toNat) = 0 ∧ K (254 + i) + 2 ≤ K (254 + (ny * (K 0 : Int) + nx).toNat)) ∧ (b < 0 ∨ scN K b.toNat < scN K (ny * (K 0 : Int) + nx).toNat)
  · rw [if_pos hc]
    refine Or.inl ⟨hc.1, hc.2, ?_⟩
    obtain ⟨p, q, rfl, rfl, -⟩ := onZ_nat hK hc.1.1
    rw [Int.toNat_of_nonneg]
    exact Int.add_nonneg (Int.mul_nonneg (Int.natCast_nonneg _) (Int.natCast_nonneg _)) (Int.natCast_nonneg _)
  · rw [if_neg hc]
    exact Or.inr ⟨hc, rfl⟩
abbrev elB (K : Nat → Nat) (cc i : Nat) : Prop := on K i = true ∧ (max (((i % K 0 : Nat) : Int) - ((cc % K 0 : Nat) : Int)) (-(((i % K 0 : Nat) : Int) - ((cc % K 0 : Nat) : Int)))) + (max (((i / K 0 : Nat) : Int) - ((cc / K 0 : Nat) : Int)) (-(((i / K 0 : Nat) : Int) - ((cc / K 0 : Nat) : Int)))) = 1 ∧ K (434 + i) = 0 ∧ K (254 + cc) + 2 ≤ K (254 + i)
def bst (K : Nat → Nat) (cc : Nat) : Nat → Int
  | 0 => -1
  | i + 1 => if elB K cc i ∧ (bst K cc i < 0 ∨ K (254 + (bst K cc i).toNat) < K (254 + i) ∨ (K (254 + (bst K cc i).toNat) = K (254 + i) ∧ K (74 + (bst K cc i).toNat) < K (74 + i))) then (i : Int) else bst K cc i
theorem bst_rg {K : Nat → Nat} {cc : Nat} : ∀ i, -1 ≤ bst K cc i ∧ bst K cc i < i
  | 0 => by unfold bst; omega
  | i + 1 => by
    have := bst_rg (K := K) (cc := cc) i
    unfold bst
    split <;> omega
theorem bst_mx {K : Nat → Nat} (hK : KI K) {cc : Nat} : ∀ i, i ≤ 180 → mxS K (fun e => e < i ∧ elB K cc e) (bst K cc i)
  | 0, _ => Or.inl ⟨rfl, fun d h => by omega⟩
  | i + 1, hi => by
    have h0 := bst_mx hK (cc := cc) i (by omega)
    have hr := bst_rg (K := K) (cc := cc) i
    have hah : 0 ≤ bst K cc i → ((K (254 + (bst K cc i).toNat) < K (254 + i) ∨ (K (254 + (bst K cc i).toNat) = K (254 + i) ∧ K (74 + (bst K cc i).toNat) < K (74 + i))) ↔ scN K (bst K cc i).toNat < scN K i) := fun h => ah_sc hK (n := i) (m := (bst K cc i).toNat) (by omega) (by omega) (by omega)
    have h1 := mxS.step (v := bst K cc (i + 1)) (d := i) (el := elB K cc i) h0 (by
      show (elB K cc i ∧ _ ∧ (if _ then _ else _) = _) ∨ (_ ∧ (if _ then _ else _) = _)
      by_cases hc : elB K cc i ∧ (bst K cc i < 0 ∨ K (254 + (bst K cc i).toNat) < K (254 + i) ∨ (K (254 + (bst K cc i).toNat) = K (254 + i) ∧ K (74 + (bst K cc i).toNat) < K (74 + i)))
      · rw [if_pos hc]
        refine Or.inl ⟨hc.1, ?_, rfl⟩
        by_cases hn : bst K cc i < 0
        · exact Or.inl hn
        · exact Or.inr ((hah (by omega)).mp (hc.2.resolve_left hn))
      · rw [if_neg hc]
        refine Or.inr ⟨fun z => hc ⟨z.1, ?_⟩, rfl⟩
        by_cases hn : bst K cc i < 0
        · exact Or.inl hn
        · exact Or.inr ((hah (by omega)).mpr (z.2.resolve_left hn)))
    rcases h1 with ⟨e, h⟩ | ⟨d, e, h2, h3⟩
    · refine Or.inl ⟨e, fun d hd => ?_⟩
      rcases Nat.lt_or_ge d i with q | q
      · exact h d (Or.inl ⟨q, hd.2⟩)
      · obtain rfl : d = i := by omega
        exact h d (Or.inr ⟨rfl, hd.2⟩)
    · refine Or.inr ⟨d, e, ?_, fun f hf => h3 f ?_⟩
      · rcases h2 with h2 | ⟨rfl, h2⟩
        · exact ⟨by omega, h2.2⟩
        · exact ⟨by omega, h2⟩
      · rcases Nat.lt_or_ge f i with q | q
        · exact Or.inl ⟨q, hf.2⟩
        · obtain rfl : f = i := by omega
          exact Or.inr ⟨rfl, hf.2⟩
theorem bst_src {K : Nat → Nat} (hK : KI K) {cc : Nat} (hc : cc < nC K) : bst K cc (nC K) = srcN K (cc % K 0) (cc / K 0) := by
  have k0 := hK.1
  have hn := nC_le hK
  have k1 := Nat.mod_lt cc (show 0 < K 0 by omega)
  have kd := cd_eq (K := K) cc
  have m0 : mxS K (fun _ => False) (-1) := Or.inl ⟨rfl, fun _ h => h⟩
  have m4 := ((((m0.pk hK (i := cc) (nx := ((cc % K 0 : Nat) : Int)) (ny := ((cc / K 0 : Nat) : Int) - 1)).pk hK (i := cc) (nx := ((cc % K 0 : Nat) : Int) - 1) (ny := ((cc / K 0 : Nat) : Int))).pk hK (i := cc) (nx := ((cc % K 0 : Nat) : Int) + 1) (ny := ((cc / K 0 : Nat) : Int))).pk hK (i := cc) (nx := ((cc % K 0 : Nat) : Int)) (ny := ((cc / K 0 : Nat) : Int) + 1))
  refine mxS.uniq (fun d hd => by have := hd.1; omega) (fun d => ?_) (bst_mx hK (nC K) hn) (by
    have e : srcN K (cc % K 0) (cc / K 0) = pkN K cc (pkN K cc (pkN K cc (pkN K cc (-1) ((cc % K 0 : Nat) : Int) (((cc / K 0 : Nat) : Int) - 1)) (((cc % K 0 : Nat) : Int) - 1) ((cc / K 0 : Nat) : Int)) (((cc % K 0 : Nat) : Int) + 1) ((cc / K 0 : Nat) : Int)) ((cc % K 0 : Nat) : Int) (((cc / K 0 : Nat) : Int) + 1) := by
      unfold srcN
      rw [kd]
    rw [e]
    exact m4)
  have key : ∀ {nx ny : Int}, onZ K nx ny = true → d = (ny * (K 0 : Int) + nx).toNat → d < nC K ∧ on K d = true ∧ nx = ((d % K 0 : Nat) : Int) ∧ ny = ((d / K 0 : Nat) : Int) := by
    intro nx ny hz hd
    obtain ⟨p, q, rfl, rfl, h1, h2, h3, -⟩ := onZ_nat hK hz
    rw [← Int.natCast_mul, ← Int.natCast_add, Int.toNat_natCast] at hd
    subst hd
    refine ⟨h3, by rw [on_at h1]; exact hz, by rw [ci_mod h1], by rw [ci_div h1]⟩
  have back : ∀ {nx ny : Int}, d < nC K → on K d = true → nx = ((d % K 0 : Nat) : Int) → ny = ((d / K 0 : Nat) : Int) → d = (ny * (K 0 : Int) + nx).toNat ∧ onZ K nx ny = true := by
    intro nx ny h1 h2 h3 h4
    subst h3
    subst h4
    refine ⟨?_, h2⟩
    rw [← Int.natCast_mul, ← Int.natCast_add, Int.toNat_natCast]
    exact (cd_eq (K := K) d).symm
  constructor
  · rintro ⟨h1, h2, h3, h4, h5⟩
    have h6 := Nat.mod_lt d (show 0 < K 0 by omega)
    have cs : (((d % K 0 : Nat) : Int) = ((cc % K 0 : Nat) : Int) ∧ ((d / K 0 : Nat) : Int) = ((cc / K 0 : Nat) : Int) - 1) ∨ (((d % K 0 : Nat) : Int) = ((cc % K 0 : Nat) : Int) - 1 ∧ ((d / K 0 : Nat) : Int) = ((cc / K 0 : Nat) : Int)) ∨ (((d % K 0 : Nat) : Int) = ((cc % K 0 : Nat) : Int) + 1 ∧ ((d / K 0 : Nat) : Int) = ((cc / K 0 : Nat) : Int)) ∨ (((d % K 0 : Nat) : Int) = ((cc % K 0 : Nat) : Int) ∧ ((d / K 0 : Nat) : Int) = ((cc / K 0 : Nat) : Int) + 1) := by
      generalize ((d % K 0 : Nat) : Int) = a1 at h3 ⊢
      generalize ((d / K 0 : Nat) : Int) = a2 at h3 ⊢
      generalize ((cc % K 0 : Nat) : Int) = a3 at h3 ⊢
      generalize ((cc / K 0 : Nat) : Int) = a4 at h3 ⊢
      omega
    rcases cs with ⟨e1, e2⟩ | ⟨e1, e2⟩ | ⟨e1, e2⟩ | ⟨e1, e2⟩
    · obtain ⟨q1, q2⟩ := back h1 h2 e1.symm e2.symm
      exact Or.inl (Or.inl (Or.inl (Or.inr ⟨q1, q2, by rw [← q1]; exact h4, by rw [← q1]; exact h5⟩)))
    · obtain ⟨q1, q2⟩ := back h1 h2 e1.symm e2.symm
      exact Or.inl (Or.inl (Or.inr ⟨q1, q2, by rw [← q1]; exact h4, by rw [← q1]; exact h5⟩))
    · obtain ⟨q1, q2⟩ := back h1 h2 e1.symm e2.symm
      exact Or.inl (Or.inr ⟨q1, q2, by rw [← q1]; exact h4, by rw [← q1]; exact h5⟩)
    · obtain ⟨q1, q2⟩ := back h1 h2 e1.symm e2.symm
      exact Or.inr ⟨q1, q2, by rw [← q1]; exact h4, by rw [← q1]; exact h5⟩
  · intro hh
    have fin : ∀ {nx ny : Int}, (d = (ny * (K 0 : Int) + nx).toNat ∧ onZ K nx ny = true ∧ K (434 + (ny * (K 0 : Int) + nx).toNat) = 0 ∧ K (254 + cc) + 2 ≤ K (254 + (ny * (K 0 : Int) + nx).toNat)) → ((nx = ((cc % K 0 : Nat) : Int) ∧ (ny = ((cc / K 0 : Nat) : Int) - 1 ∨ ny = ((cc / K 0 : Nat) : Int) + 1)) ∨ (ny = ((cc / K 0 : Nat) : Int) ∧ (nx = ((cc % K 0 : Nat) : Int) - 1 ∨ nx = ((cc % K 0 : Nat) : Int) + 1))) → d < nC K ∧ elB K cc d := by
      rintro nx ny ⟨h1, h2, h3, h4⟩ h5
      obtain ⟨g1, g2, g3, g4⟩ := key h2 h1
      refine ⟨g1, g2, ?_, by rw [← h1] at h3; exact h3, by rw [← h1] at h4; exact h4⟩
      rw [← g3, ← g4]
      generalize ((cc % K 0 : Nat) : Int) = a3 at h5 ⊢
      generalize ((cc / K 0 : Nat) : Int) = a4 at h5 ⊢
      omega
    rcases hh with (((hh | hh) | hh) | hh) | hh
    · exact hh.elim
    · exact fin hh (Or.inl ⟨rfl, Or.inl rfl⟩)
    · exact fin hh (Or.inr ⟨rfl, Or.inl rfl⟩)
    · exact fin hh (Or.inr ⟨rfl, Or.inr rfl⟩)
    · exact fin hh (Or.inl ⟨rfl, Or.inr rfl⟩)
def boR (ce : Nat → Nat) (b : Int) : Option Nat := if b < 0 then none else some (ce b.toNat)
theorem boR_n {ce : Nat → Nat} {b : Int} (h : b < 0) : boR ce b = none := if_pos h
theorem boR_s {ce : Nat → Nat} {d : Nat} : boR ce (d : Int) = some (ce d) := by unfold boR; rw [if_neg (by omega), Int.toNat_natCast]
section KB3
variable {ad : Nat → Nat} {sc : Nat × (Nat → Int32)} {u : hp} {h : hg} {Q : qg} {k w m p cl : Nat} {ce : Nat → Nat} {K : Nat → Nat} {c sl : Nat}
theorem bst_on {K : Nat → Nat} {cc : Nat} : ∀ (i d : Nat), bst K cc i = (d : Int) → d < i ∧ on K d = true
  | 0, d, h => by unfold bst at h; omega
  | i + 1, d, h => by
    have h0 : (if elB K cc i ∧ (bst K cc i < 0 ∨ K (254 + (bst K cc i).toNat) < K (254 + i) ∨ (K (254 + (bst K cc i).toNat) = K (254 + i) ∧ K (74 + (bst K cc i).toNat) < K (74 + i))) then (i : Int) else bst K cc i) = (d : Int) := h
    split at h0
    · rename_i hz
      have e : i = d := by omega
      subst e
      exact ⟨by omega, hz.1.1⟩
    · have := bst_on i d h0
      exact ⟨by omega, this.2⟩
theorem kl_bleeds (hT : KT h k w m p cl ce K) (hK : KI K) {a cc : Nat} (hc0 : h a = some (.inr (6, cellF K cc))) (hcc : cc < nC K) (kk : Gx ad sc M_X7_bleeds 164 [.ref k, .ref a, va_rf (boR ce (bst K cc (nC K))), .ref cl, .int (I (nC K : Int)), .int (I (nC K : Int)), uk] [] c sl u h Q) : ∀ (n i : Nat) (b : Int), i + n = nC K → b = bst K cc i → Gx ad sc M_X7_bleeds 41 [.ref k, .ref a, va_rf (boR ce b), .ref cl, .int (I (nC K : Int)), .int (I (i : Int)), uk] [] c sl u h Q := by
  have hn9 := nC_le hK
  have k0 := hK.1
  have k1 := Nat.mod_lt cc (show 0 < K 0 by omega)
  have k2 := div_12 hK hcc
  have k3 : (0 : Int) ≤ ((cc / K 0 : Nat) : Int) := Int.natCast_nonneg _
  have w6 := hK.2.2.2.2.2.1 cc (by omega)
  intro n
  induction n with
  | zero =>
    intro i b hi hb
    refine bx_iload dX7_bleeds_41 rfl ?_
    refine bx_iload dX7_bleeds_43 rfl ?_
    refine bx_icmp_ge (tgt := 164) dX7_bleeds_45 (by decide) (by omega) (by omega) (fun c45 => ?_) (fun c45 => ?_)
    · have e : i = nC K := by omega
      subst e
      rw [hb]
      exact kk
    · exfalso
      omega
  | succ n ih =>
    intro i b hi hb
    have hr := bst_rg (K := K) (cc := cc) i
    by_cases hb0 : b < 0
    · rw [boR_n hb0]
      refine bx_iload dX7_bleeds_41 rfl ?_
      refine bx_iload dX7_bleeds_43 rfl ?_
      refine bx_icmp_ge (tgt := 164) dX7_bleeds_45 (by decide) (by omega) (by omega) (fun c45 => ?_) (fun c45 => ?_)
      · exfalso
        omega
      · refine bx_aload_n dX7_bleeds_48 rfl ?_
        refine bx_iload dX7_bleeds_49 rfl ?_
        by_cases hon : on K i = true
        · have hc := hT.2.2 i (by omega) hon
          have h6 := hK.2.2.2.2.2.1 i (by omega)
          have h5 := hK.2.2.2.2.1 i (by omega)
          have h7 := hK.2.2.2.2.2.2.1 i (by omega)
          have y1 : (0 : Int) ≤ ((i / K 0 : Nat) : Int) := Int.natCast_nonneg _
          have y2 := div_12 hK (j := i) (by omega)
          have x1 := Nat.mod_lt i (show 0 < K 0 by omega)
          refine bx_aals (j := i) (q := ce i) dX7_bleeds_51 hT.2.1 (by decide) rfl (by omega) (by omega) (if_pos hon) ?_
          refine bx_astore dX7_bleeds_52 rfl (by decide) rfl ?_
          refine bx_aload dX7_bleeds_54 rfl ?_
          refine gx_ifnull dX7_bleeds_56 ?_
          refine bx_aload dX7_bleeds_59 rfl ?_
          refine bx_getf dX7_bleeds_61 ck6 fg_KitePainterLaw_Kite_63 (by decide) hc rfl ?_
          refine bx_aload_n dX7_bleeds_64 rfl ?_
          refine bx_getf dX7_bleeds_65 ck6 fg_KitePainterLaw_Kite_63 (by decide) hc0 rfl ?_
          refine bx_isub dX7_bleeds_68 ?_
          refine bx_abs dX7_bleeds_69 ln_X7_bleeds_43 ⟨by decide, by decide⟩ (Nat.le_of_ble_eq_true rfl) (by omega) ?_
          refine bx_aload dX7_bleeds_72 rfl ?_
          refine bx_getf dX7_bleeds_74 ck6 fg_KitePainterLaw_Kite_60 (by decide) hc rfl ?_
          refine bx_aload_n dX7_bleeds_77 rfl ?_
          refine bx_getf dX7_bleeds_78 ck6 fg_KitePainterLaw_Kite_60 (by decide) hc0 rfl ?_
          refine bx_isub dX7_bleeds_81 ?_
          refine bx_abs dX7_bleeds_82 ln_X7_bleeds_43 ⟨by decide, by decide⟩ (Nat.le_of_ble_eq_true rfl) (by omega) ?_
          refine bx_iadd dX7_bleeds_85 ?_
          refine bx_iconst dX7_bleeds_86 ?_
          refine bx_icmp_ne (tgt := 158) dX7_bleeds_87 (by decide) (by omega) (by omega) (fun c87 => ?_) (fun c87 => ?_)
          · refine bx_iinc dX7_bleeds_158 rfl rfl (by decide) rfl ?_
            refine bx_goto (tgt := 41) dX7_bleeds_161 (by decide) ?_
            refine gx_forg (i := 6) ?_
            have e9 : bst K cc (i + 1) = b := by
              show (if _ then _ else _) = _
              rw [← hb]
              rw [if_neg (fun z => by have z1 := z.1.2.1; have z2 := z.1.2.2.1; have z3 := z.1.2.2.2; have z4 := z.2; omega)]
            have z9 := ih (i + 1) _ (by omega) rfl
            rw [e9, boR_n hb0] at z9
            exact z9
          · refine bx_aload dX7_bleeds_90 rfl ?_
            refine bx_getf dX7_bleeds_92 ck6 fg_KitePainterLaw_Kite_77 (by decide) hc rfl ?_
            refine bx_if_ne (tgt := 158) dX7_bleeds_95 (by decide) (by omega) (fun c95 => ?_) (fun c95 => ?_)
            · refine bx_iinc dX7_bleeds_158 rfl rfl (by decide) rfl ?_
              refine bx_goto (tgt := 41) dX7_bleeds_161 (by decide) ?_
              refine gx_forg (i := 6) ?_
              have e9 : bst K cc (i + 1) = b := by
                show (if _ then _ else _) = _
                rw [← hb]
                rw [if_neg (fun z => by have z1 := z.1.2.1; have z2 := z.1.2.2.1; have z3 := z.1.2.2.2; have z4 := z.2; omega)]
              have z9 := ih (i + 1) _ (by omega) rfl
              rw [e9, boR_n hb0] at z9
              exact z9
            · refine bx_aload dX7_bleeds_98 rfl ?_
              refine bx_getf dX7_bleeds_100 ck6 fg_KitePainterLaw_Kite_93 (by decide) hc rfl ?_
              refine bx_aload_n dX7_bleeds_103 rfl ?_
              refine bx_getf dX7_bleeds_104 ck6 fg_KitePainterLaw_Kite_93 (by decide) hc0 rfl ?_
              refine bx_isub dX7_bleeds_107 ?_
              refine bx_iconst dX7_bleeds_108 ?_
              refine bx_icmp_ge (tgt := 115) dX7_bleeds_109 (by decide) (by omega) (by omega) (fun c109 => ?_) (fun c109 => ?_)
              · refine gx_aload_nN rfl rfl dX7_bleeds_115 ?_
                refine gx_ifnullN (tgt := 155) dX7_bleeds_116 (by decide) ?_
                refine bx_aload dX7_bleeds_155 rfl ?_
                refine bx_astore_n dX7_bleeds_157 rfl (by decide) rfl ?_
                refine bx_iinc dX7_bleeds_158 rfl rfl (by decide) rfl ?_
                refine bx_goto (tgt := 41) dX7_bleeds_161 (by decide) ?_
                refine gx_forg (i := 6) ?_
                have e9 : bst K cc (i + 1) = (i : Int) := by
                  show (if _ then _ else _) = _
                  rw [← hb]
                  rw [if_pos ⟨⟨hon, by omega, by omega, by omega⟩, by omega⟩]
                have z9 := ih (i + 1) _ (by omega) rfl
                rw [e9, boR_s] at z9
                exact z9
              · refine bx_goto (tgt := 158) dX7_bleeds_112 (by decide) ?_
                refine bx_iinc dX7_bleeds_158 rfl rfl (by decide) rfl ?_
                refine bx_goto (tgt := 41) dX7_bleeds_161 (by decide) ?_
                refine gx_forg (i := 6) ?_
                have e9 : bst K cc (i + 1) = b := by
                  show (if _ then _ else _) = _
                  rw [← hb]
                  rw [if_neg (fun z => by have z1 := z.1.2.1; have z2 := z.1.2.2.1; have z3 := z.1.2.2.2; have z4 := z.2; omega)]
                have z9 := ih (i + 1) _ (by omega) rfl
                rw [e9, boR_n hb0] at z9
                exact z9
        · refine bx_aaln (j := i) dX7_bleeds_51 hT.2.1 (by decide) rfl (by omega) (by omega) (if_neg hon) ?_
          refine bx_astoreN dX7_bleeds_52 rfl (by decide) rfl ?_
          refine gx_aloadN rfl dX7_bleeds_54 ?_
          refine gx_ifnullN (tgt := 158) dX7_bleeds_56 (by decide) ?_
          refine bx_iinc dX7_bleeds_158 rfl rfl (by decide) rfl ?_
          refine bx_goto (tgt := 41) dX7_bleeds_161 (by decide) ?_
          refine gx_forg (i := 6) ?_
          have e9 : bst K cc (i + 1) = b := by
            show (if _ then _ else _) = _
            rw [← hb]
            rw [if_neg (fun z => hon z.1.1)]
          have z9 := ih (i + 1) _ (by omega) rfl
          rw [e9, boR_n hb0] at z9
          exact z9
    · obtain ⟨d, rfl⟩ : ∃ d : Nat, b = (d : Int) := ⟨b.toNat, by omega⟩
      rw [boR_s]
      obtain ⟨hd1, hd2⟩ := bst_on (K := K) (cc := cc) i d hb.symm
      have hbc := hT.2.2 d (by omega) hd2
      have b6 := hK.2.2.2.2.2.1 d (by omega)
      have b5 := hK.2.2.2.2.1 d (by omega)
      refine bx_iload dX7_bleeds_41 rfl ?_
      refine bx_iload dX7_bleeds_43 rfl ?_
      refine bx_icmp_ge (tgt := 164) dX7_bleeds_45 (by decide) (by omega) (by omega) (fun c45 => ?_) (fun c45 => ?_)
      · exfalso
        omega
      · refine bx_aload_n dX7_bleeds_48 rfl ?_
        refine bx_iload dX7_bleeds_49 rfl ?_
        by_cases hon : on K i = true
        · have hc := hT.2.2 i (by omega) hon
          have h6 := hK.2.2.2.2.2.1 i (by omega)
          have h5 := hK.2.2.2.2.1 i (by omega)
          have h7 := hK.2.2.2.2.2.2.1 i (by omega)
          have y1 : (0 : Int) ≤ ((i / K 0 : Nat) : Int) := Int.natCast_nonneg _
          have y2 := div_12 hK (j := i) (by omega)
          have x1 := Nat.mod_lt i (show 0 < K 0 by omega)
          refine bx_aals (j := i) (q := ce i) dX7_bleeds_51 hT.2.1 (by decide) rfl (by omega) (by omega) (if_pos hon) ?_
          refine bx_astore dX7_bleeds_52 rfl (by decide) rfl ?_
          refine bx_aload dX7_bleeds_54 rfl ?_
          refine gx_ifnull dX7_bleeds_56 ?_
          refine bx_aload dX7_bleeds_59 rfl ?_
          refine bx_getf dX7_bleeds_61 ck6 fg_KitePainterLaw_Kite_63 (by decide) hc rfl ?_
          refine bx_aload_n dX7_bleeds_64 rfl ?_
          refine bx_getf dX7_bleeds_65 ck6 fg_KitePainterLaw_Kite_63 (by decide) hc0 rfl ?_
          refine bx_isub dX7_bleeds_68 ?_
          refine bx_abs dX7_bleeds_69 ln_X7_bleeds_43 ⟨by decide, by decide⟩ (Nat.le_of_ble_eq_true rfl) (by omega) ?_
          refine bx_aload dX7_bleeds_72 rfl ?_
          refine bx_getf dX7_bleeds_74 ck6 fg_KitePainterLaw_Kite_60 (by decide) hc rfl ?_
          refine bx_aload_n dX7_bleeds_77 rfl ?_
          refine bx_getf dX7_bleeds_78 ck6 fg_KitePainterLaw_Kite_60 (by decide) hc0 rfl ?_
          refine bx_isub dX7_bleeds_81 ?_
          refine bx_abs dX7_bleeds_82 ln_X7_bleeds_43 ⟨by decide, by decide⟩ (Nat.le_of_ble_eq_true rfl) (by omega) ?_
          refine bx_iadd dX7_bleeds_85 ?_
          refine bx_iconst dX7_bleeds_86 ?_
          refine bx_icmp_ne (tgt := 158) dX7_bleeds_87 (by decide) (by omega) (by omega) (fun c87 => ?_) (fun c87 => ?_)
          · refine bx_iinc dX7_bleeds_158 rfl rfl (by decide) rfl ?_
            refine bx_goto (tgt := 41) dX7_bleeds_161 (by decide) ?_
            refine gx_forg (i := 6) ?_
            have e9 : bst K cc (i + 1) = (d : Int) := by
              show (if _ then _ else _) = _
              rw [← hb]
              simp only [Int.toNat_natCast]
              rw [if_neg (fun z => by have z1 := z.1.2.1; have z2 := z.1.2.2.1; have z3 := z.1.2.2.2; have z4 := z.2; omega)]
            have z9 := ih (i + 1) _ (by omega) rfl
            rw [e9, boR_s] at z9
            exact z9
          · refine bx_aload dX7_bleeds_90 rfl ?_
            refine bx_getf dX7_bleeds_92 ck6 fg_KitePainterLaw_Kite_77 (by decide) hc rfl ?_
            refine bx_if_ne (tgt := 158) dX7_bleeds_95 (by decide) (by omega) (fun c95 => ?_) (fun c95 => ?_)
            · refine bx_iinc dX7_bleeds_158 rfl rfl (by decide) rfl ?_
              refine bx_goto (tgt := 41) dX7_bleeds_161 (by decide) ?_
              refine gx_forg (i := 6) ?_
              have e9 : bst K cc (i + 1) = (d : Int) := by
                show (if _ then _ else _) = _
                rw [← hb]
                simp only [Int.toNat_natCast]
                rw [if_neg (fun z => by have z1 := z.1.2.1; have z2 := z.1.2.2.1; have z3 := z.1.2.2.2; have z4 := z.2; omega)]
              have z9 := ih (i + 1) _ (by omega) rfl
              rw [e9, boR_s] at z9
              exact z9
            · refine bx_aload dX7_bleeds_98 rfl ?_
              refine bx_getf dX7_bleeds_100 ck6 fg_KitePainterLaw_Kite_93 (by decide) hc rfl ?_
              refine bx_aload_n dX7_bleeds_103 rfl ?_
              refine bx_getf dX7_bleeds_104 ck6 fg_KitePainterLaw_Kite_93 (by decide) hc0 rfl ?_
              refine bx_isub dX7_bleeds_107 ?_
              refine bx_iconst dX7_bleeds_108 ?_
              refine bx_icmp_ge (tgt := 115) dX7_bleeds_109 (by decide) (by omega) (by omega) (fun c109 => ?_) (fun c109 => ?_)
              · refine bx_aload_n dX7_bleeds_115 rfl ?_
                refine gx_ifnull dX7_bleeds_116 ?_
                refine bx_aload dX7_bleeds_119 rfl ?_
                refine bx_getf dX7_bleeds_121 ck6 fg_KitePainterLaw_Kite_93 (by decide) hc rfl ?_
                refine bx_aload_n dX7_bleeds_124 rfl ?_
                refine bx_getf dX7_bleeds_125 ck6 fg_KitePainterLaw_Kite_93 (by decide) hbc rfl ?_
                refine bx_icmp_gt (tgt := 155) dX7_bleeds_128 (by decide) (by omega) (by omega) (fun c128 => ?_) (fun c128 => ?_)
                · refine bx_aload dX7_bleeds_155 rfl ?_
                  refine bx_astore_n dX7_bleeds_157 rfl (by decide) rfl ?_
                  refine bx_iinc dX7_bleeds_158 rfl rfl (by decide) rfl ?_
                  refine bx_goto (tgt := 41) dX7_bleeds_161 (by decide) ?_
                  refine gx_forg (i := 6) ?_
                  have e9 : bst K cc (i + 1) = (i : Int) := by
                    show (if _ then _ else _) = _
                    rw [← hb]
                    simp only [Int.toNat_natCast]
                    rw [if_pos ⟨⟨hon, by omega, by omega, by omega⟩, by omega⟩]
                  have z9 := ih (i + 1) _ (by omega) rfl
                  rw [e9, boR_s] at z9
                  exact z9
                · refine bx_aload dX7_bleeds_131 rfl ?_
                  refine bx_getf dX7_bleeds_133 ck6 fg_KitePainterLaw_Kite_93 (by decide) hc rfl ?_
                  refine bx_aload_n dX7_bleeds_136 rfl ?_
                  refine bx_getf dX7_bleeds_137 ck6 fg_KitePainterLaw_Kite_93 (by decide) hbc rfl ?_
                  refine bx_icmp_ne (tgt := 158) dX7_bleeds_140 (by decide) (by omega) (by omega) (fun c140 => ?_) (fun c140 => ?_)
                  · refine bx_iinc dX7_bleeds_158 rfl rfl (by decide) rfl ?_
                    refine bx_goto (tgt := 41) dX7_bleeds_161 (by decide) ?_
                    refine gx_forg (i := 6) ?_
                    have e9 : bst K cc (i + 1) = (d : Int) := by
                      show (if _ then _ else _) = _
                      rw [← hb]
                      simp only [Int.toNat_natCast]
                      rw [if_neg (fun z => by have z1 := z.1.2.1; have z2 := z.1.2.2.1; have z3 := z.1.2.2.2; have z4 := z.2; omega)]
                    have z9 := ih (i + 1) _ (by omega) rfl
                    rw [e9, boR_s] at z9
                    exact z9
                  · refine bx_aload dX7_bleeds_143 rfl ?_
                    refine bx_getf dX7_bleeds_145 ck6 fg_KitePainterLaw_Kite_74 (by decide) hc rfl ?_
                    refine bx_aload_n dX7_bleeds_148 rfl ?_
                    refine bx_getf dX7_bleeds_149 ck6 fg_KitePainterLaw_Kite_74 (by decide) hbc rfl ?_
                    refine bx_icmp_le (tgt := 158) dX7_bleeds_152 (by decide) (by omega) (by omega) (fun c152 => ?_) (fun c152 => ?_)
                    · refine bx_iinc dX7_bleeds_158 rfl rfl (by decide) rfl ?_
                      refine bx_goto (tgt := 41) dX7_bleeds_161 (by decide) ?_
                      refine gx_forg (i := 6) ?_
                      have e9 : bst K cc (i + 1) = (d : Int) := by
                        show (if _ then _ else _) = _
                        rw [← hb]
                        simp only [Int.toNat_natCast]
                        rw [if_neg (fun z => by have z1 := z.1.2.1; have z2 := z.1.2.2.1; have z3 := z.1.2.2.2; have z4 := z.2; omega)]
                      have z9 := ih (i + 1) _ (by omega) rfl
                      rw [e9, boR_s] at z9
                      exact z9
                    · refine bx_aload dX7_bleeds_155 rfl ?_
                      refine bx_astore_n dX7_bleeds_157 rfl (by decide) rfl ?_
                      refine bx_iinc dX7_bleeds_158 rfl rfl (by decide) rfl ?_
                      refine bx_goto (tgt := 41) dX7_bleeds_161 (by decide) ?_
                      refine gx_forg (i := 6) ?_
                      have e9 : bst K cc (i + 1) = (i : Int) := by
                        show (if _ then _ else _) = _
                        rw [← hb]
                        simp only [Int.toNat_natCast]
                        rw [if_pos ⟨⟨hon, by omega, by omega, by omega⟩, by omega⟩]
                      have z9 := ih (i + 1) _ (by omega) rfl
                      rw [e9, boR_s] at z9
                      exact z9
              · refine bx_goto (tgt := 158) dX7_bleeds_112 (by decide) ?_
                refine bx_iinc dX7_bleeds_158 rfl rfl (by decide) rfl ?_
                refine bx_goto (tgt := 41) dX7_bleeds_161 (by decide) ?_
                refine gx_forg (i := 6) ?_
                have e9 : bst K cc (i + 1) = (d : Int) := by
                  show (if _ then _ else _) = _
                  rw [← hb]
                  simp only [Int.toNat_natCast]
                  rw [if_neg (fun z => by have z1 := z.1.2.1; have z2 := z.1.2.2.1; have z3 := z.1.2.2.2; have z4 := z.2; omega)]
                have z9 := ih (i + 1) _ (by omega) rfl
                rw [e9, boR_s] at z9
                exact z9
        · refine bx_aaln (j := i) dX7_bleeds_51 hT.2.1 (by decide) rfl (by omega) (by omega) (if_neg hon) ?_
          refine bx_astoreN dX7_bleeds_52 rfl (by decide) rfl ?_
          refine gx_aloadN rfl dX7_bleeds_54 ?_
          refine gx_ifnullN (tgt := 158) dX7_bleeds_56 (by decide) ?_
          refine bx_iinc dX7_bleeds_158 rfl rfl (by decide) rfl ?_
          refine bx_goto (tgt := 41) dX7_bleeds_161 (by decide) ?_
          refine gx_forg (i := 6) ?_
          have e9 : bst K cc (i + 1) = (d : Int) := by
            show (if _ then _ else _) = _
            rw [← hb]
            simp only [Int.toNat_natCast]
            rw [if_neg (fun z => hon z.1.1)]
          have z9 := ih (i + 1) _ (by omega) rfl
          rw [e9, boR_s] at z9
          exact z9
theorem kt_bleeds (hT : KT h k w m p cl ce K) (hK : KI K) {a cc : Nat} (hc0 : h a = some (.inr (6, cellF K cc))) (hcc : cc < nC K) (hon0 : on K cc = true) : Gl ad sc c sl M_X7_bleeds [.ref k, .ref a] u h (fun v u1 h1 => v = .int (I (blC K cc)) ∧ u1 = u ∧ h1 = h) := by
  have hn9 := nC_le hK
  have k0 := hK.1
  have k1 := Nat.mod_lt cc (show 0 < K 0 by omega)
  have k2 := div_12 hK hcc
  have k3 : (0 : Int) ≤ ((cc / K 0 : Nat) : Int) := Int.natCast_nonneg _
  have w6 := hK.2.2.2.2.2.1 cc (by omega)
  have kd := cd_eq (K := K) cc
  have h7 := hK.2.2.2.2.2.2.1 cc (by omega)
  have h5 := hK.2.2.2.2.1 cc (by omega)
  have hr := bst_rg (K := K) (cc := cc) (nC K)
  refine bx_aload_n dX7_bleeds_0 rfl ?_
  refine bx_getf dX7_bleeds_1 ck6 fg_KitePainterLaw_Kite_77 (by decide) hc0 rfl ?_
  refine bx_if_eq (tgt := 10) dX7_bleeds_4 (by decide) (by omega) (fun c4 => ?_) (fun c4 => ?_)
  · refine bx_aload_n dX7_bleeds_10 rfl ?_
    refine bx_getf dX7_bleeds_11 ck6 fg_KitePainterLaw_Kite_93 (by decide) hc0 rfl ?_
    refine bx_if_ne (tgt := 27) dX7_bleeds_14 (by decide) (by omega) (fun c14 => ?_) (fun c14 => ?_)
    · refine gx_null dX7_bleeds_27 ?_
      refine bx_astore_nN dX7_bleeds_28 rfl (by decide) rfl ?_
      refine bx_aload_n dX7_bleeds_29 rfl ?_
      refine bx_getf dX7_bleeds_30 ck7 fg_KitePainterLaw_Kite_39 (by decide) hT.1 rfl ?_
      refine bx_astore_n dX7_bleeds_33 rfl (by decide) rfl ?_
      refine bx_aload_n dX7_bleeds_34 rfl ?_
      refine bx_alnq dX7_bleeds_35 hT.2.1 (by decide) ?_
      refine bx_istore dX7_bleeds_36 rfl (by decide) rfl ?_
      refine bx_iconst dX7_bleeds_38 ?_
      refine bx_istore dX7_bleeds_39 rfl (by decide) rfl ?_
      refine kl_bleeds hT hK hc0 hcc ?_ (nC K) 0 (-1) (by omega) rfl
      by_cases hb0 : bst K cc (nC K) < 0
      · rw [boR_n hb0]
        refine gx_aload_nN rfl rfl dX7_bleeds_164 ?_
        refine gx_nonnullN dX7_bleeds_165 ?_
        refine bx_iconst dX7_bleeds_168 ?_
        refine bx_goto (tgt := 177) dX7_bleeds_169 (by decide) ?_
        exact bx_iret dX7_bleeds_177 rfl ⟨by apply iq; unfold blC blN; rw [kd]; rw [if_neg (by omega), if_neg (by omega), ← bst_src hK hcc]; omega, rfl, rfl⟩
      · obtain ⟨d, hd⟩ : ∃ d : Nat, bst K cc (nC K) = (d : Int) := ⟨(bst K cc (nC K)).toNat, by omega⟩
        obtain ⟨hd1, hd2⟩ := bst_on (K := K) (cc := cc) (nC K) d hd
        rw [hd, boR_s]
        have hbc := hT.2.2 d (by omega) hd2
        refine bx_aload_n dX7_bleeds_164 rfl ?_
        refine gx_nonnull (tgt := 172) dX7_bleeds_165 (by decide) ?_
        refine bx_aload_n dX7_bleeds_172 rfl ?_
        refine bx_aload_n dX7_bleeds_173 rfl ?_
        refine bx_cvP1 dX7_bleeds_174 ln_X7_bleeds_96 (Nat.le_of_ble_eq_true rfl) (by decide) hT.1 rfl (kt_numberOf hT hK hbc) ?_
        exact bx_iret dX7_bleeds_177 rfl ⟨by apply iq; unfold blC blN; rw [kd]; rw [if_neg (by omega), if_neg (by omega), ← bst_src hK hcc, hd], rfl, rfl⟩
    · refine bx_aload_n dX7_bleeds_17 rfl ?_
      refine bx_getf dX7_bleeds_18 ck6 fg_KitePainterLaw_Kite_74 (by decide) hc0 rfl ?_
      refine bx_if_le (tgt := 27) dX7_bleeds_21 (by decide) (by omega) (fun c21 => ?_) (fun c21 => ?_)
      · refine gx_null dX7_bleeds_27 ?_
        refine bx_astore_nN dX7_bleeds_28 rfl (by decide) rfl ?_
        refine bx_aload_n dX7_bleeds_29 rfl ?_
        refine bx_getf dX7_bleeds_30 ck7 fg_KitePainterLaw_Kite_39 (by decide) hT.1 rfl ?_
        refine bx_astore_n dX7_bleeds_33 rfl (by decide) rfl ?_
        refine bx_aload_n dX7_bleeds_34 rfl ?_
        refine bx_alnq dX7_bleeds_35 hT.2.1 (by decide) ?_
        refine bx_istore dX7_bleeds_36 rfl (by decide) rfl ?_
        refine bx_iconst dX7_bleeds_38 ?_
        refine bx_istore dX7_bleeds_39 rfl (by decide) rfl ?_
        refine kl_bleeds hT hK hc0 hcc ?_ (nC K) 0 (-1) (by omega) rfl
        by_cases hb0 : bst K cc (nC K) < 0
        · rw [boR_n hb0]
          refine gx_aload_nN rfl rfl dX7_bleeds_164 ?_
          refine gx_nonnullN dX7_bleeds_165 ?_
          refine bx_iconst dX7_bleeds_168 ?_
          refine bx_goto (tgt := 177) dX7_bleeds_169 (by decide) ?_
          exact bx_iret dX7_bleeds_177 rfl ⟨by apply iq; unfold blC blN; rw [kd]; rw [if_neg (by omega), if_neg (by omega), ← bst_src hK hcc]; omega, rfl, rfl⟩
        · obtain ⟨d, hd⟩ : ∃ d : Nat, bst K cc (nC K) = (d : Int) := ⟨(bst K cc (nC K)).toNat, by omega⟩
          obtain ⟨hd1, hd2⟩ := bst_on (K := K) (cc := cc) (nC K) d hd
          rw [hd, boR_s]
          have hbc := hT.2.2 d (by omega) hd2
          refine bx_aload_n dX7_bleeds_164 rfl ?_
          refine gx_nonnull (tgt := 172) dX7_bleeds_165 (by decide) ?_
          refine bx_aload_n dX7_bleeds_172 rfl ?_
          refine bx_aload_n dX7_bleeds_173 rfl ?_
          refine bx_cvP1 dX7_bleeds_174 ln_X7_bleeds_96 (Nat.le_of_ble_eq_true rfl) (by decide) hT.1 rfl (kt_numberOf hT hK hbc) ?_
          exact bx_iret dX7_bleeds_177 rfl ⟨by apply iq; unfold blC blN; rw [kd]; rw [if_neg (by omega), if_neg (by omega), ← bst_src hK hcc, hd], rfl, rfl⟩
      · refine bx_bipush dX7_bleeds_24 (by decide) ?_
        exact bx_iret dX7_bleeds_26 rfl ⟨by apply iq; unfold blC blN; rw [kd]; rw [if_neg (by omega), if_pos (by omega)], rfl, rfl⟩
  · refine bx_bipush dX7_bleeds_7 (by decide) ?_
    exact bx_iret dX7_bleeds_9 rfl ⟨by apply iq; unfold blC blN; rw [kd]; rw [if_pos (by omega)], rfl, rfl⟩
end KB3
