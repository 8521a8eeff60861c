/-! THE RANDOM KITE: a line of a pattern -/
def lineAt (ad : Nat → Nat) (h : hg) (v : Value) (i : Nat) (g : Nat → Nat) : Prop := (i = 0 ∧ v = .ref (ad (2000 + 23))) ∨ (1 ≤ i ∧ ∃ (s va : Nat) (hs hz : Int32), v = .ref s ∧ h s = some (.inr (9, [.ref va, .int (I 0), .int hs, .int hz])) ∧ rwI 1 (h va) i (fun q => 48 + (g q : Int)))
section RC
variable {ad : Nat → Nat} {sc : Nat × (Nat → Int32)} {u : hp} {h : hg} {Q : qg} {k w m p cl : Nat} {ce : Nat → Nat} {K : Nat → Nat} {c sl : Nat}
theorem rk_chars {b r k j wi l c0 s0 : Nat} {P : Int32} {hS : hg} (hwi : wi ≤ 4) (kk : ∀ (h1 : hg) (s va : Nat) (hs hz : Int32) (g : Nat → Nat) (c2 s2 : Nat), c0 ≤ c2 → s0 ≤ s2 → (∀ q, q < wi → g q < 7) → FRM hS h1 (fun x => x = r) → RND h1 r → h1 s = some (.inr (9, [.ref va, .int (I 0), .int hs, .int hz])) → rwI 1 (h1 va) wi (fun q => 48 + (g q : Int)) → hS s = none → Gx ad sc M_L_randomKite 724 [.ref (ad 0), .ref b, .ref r, .ref k, uk, uk, .int P, .int (I (j : Int)), .int (I (wi : Int)), .int (I (l : Int)), .ref s, .int (I (wi : Int)), uk] [] c2 s2 u h1 Q) (hw1 : 1 ≤ wi) : ∀ (n i : Nat) (h1 : hg) (v : Value) (g : Nat → Nat) (c sl : Nat), i + n = wi → c0 + 4 * n ≤ c → s0 + 40 * n ≤ sl → (∀ q, q < i → g q < 7) → FRM hS h1 (fun x => x = r) → RND h1 r → ((i = 0 ∧ v = .ref (ad (2000 + 23))) ∨ (1 ≤ i ∧ ∃ (s va : Nat) (hs hz : Int32), v = .ref s ∧ h1 s = some (.inr (9, [.ref va, .int (I 0), .int hs, .int hz])) ∧ rwI 1 (h1 va) i (fun q => 48 + (g q : Int)) ∧ hS s = none)) → Gx ad sc M_L_randomKite 681 [.ref (ad 0), .ref b, .ref r, .ref k, uk, uk, .int P, .int (I (j : Int)), .int (I (wi : Int)), .int (I (l : Int)), v, .int (I (i : Int)), uk] [] c sl u h1 Q := by
  intro n
  induction n with
  | zero =>
    intro i h1 v g c sl hi hc hs hg hF hR hv
    rcases hv with ⟨h0, -⟩ | ⟨h0, s, va, hs9, hz9, rfl, a1, a2, a3⟩
    · exfalso; omega
    · refine bx_iload dL_randomKite_681 rfl ?_
      refine bx_iload dL_randomKite_683 rfl ?_
      refine bx_icmp_ge (tgt := 724) dL_randomKite_685 (by decide) (by omega) (by omega) (fun c685 => ?_) (fun c685 => ?_)
      · obtain rfl : i = wi := by omega
        exact kk h1 s va hs9 hz9 g c sl hc hs hg hF hR a1 a2 a3
      · exfalso
        omega
  | succ n ih =>
    intro i h1 v g c sl hi hc hs hg hF hR hv
    rcases hv with ⟨h0, rfl⟩ | ⟨h0, s, vs, hs9, hz9, rfl, a1, a2, a3⟩
    · obtain ⟨sR, hsR⟩ := hR
      obtain rfl : i = 0 := h0
      refine bx_iload dL_randomKite_681 rfl ?_
      refine bx_iload dL_randomKite_683 rfl ?_
      refine bx_icmp_ge (tgt := 724) dL_randomKite_685 (by decide) (by omega) (by omega) (fun c685 => ?_) (fun c685 => ?_)
      · exfalso
        omega
      · refine gx_new (fs := df_10) ck10 cg_KitePainterLaw_186 ist_10 ini_10 dv_10 (by omega) (by omega) dL_randomKite_688 (fun sb hsb => ?_)
        refine gx_gen (fun g1 q1 => ?_)
        have b1 : g1 sb = some (.inr (10, df_10)) := by rw [q1]; exact ug_eq
        have F1 : FRM h1 g1 (fun _ => False) := by rw [q1]; exact FRM.new hsb
        refine bx_dup dL_randomKite_691 rfl ?_
        refine bx_ci0 dL_randomKite_692 ln_L_randomKite_188 (Nat.le_of_ble_eq_true rfl) (by omega) (by omega) (t_sbi b1) (fun u9 h9 hq9 => ?_)
        obtain ⟨-, rfl, va, e9, hva, he9, hh9⟩ := hq9
        have dsv : sb ≠ va := KN.ne ⟨_, b1⟩ hva
        have b2 : h9 sb = some (.inr (10, [.ref va, .int (I 0), .int 0, .int (I ((0 : Nat) : Int))])) := by rw [hh9]; exact ug_eq
        have v2 : rwI 1 (h9 va) 16 (fun _ => 0) := he9.mv (by rw [hh9, ug_ne (Ne.symm dsv)]; exact ug_eq)
        have F2 : FRM h1 h9 (fun _ => False) := fun x e hx _ => by rw [hh9, ug_ne (KN.ne ⟨_, hx⟩ hsb), ug_ne (KN.ne ⟨_, F1 x e hx (fun z => z)⟩ hva)]; exact F1 x e hx (fun z => z)
        refine bx_aload dL_randomKite_695 rfl ?_
        refine bx_cv1 dL_randomKite_697 ln_L_randomKite_189 (Nat.le_of_ble_eq_true rfl) (by decide) b2 rfl (Nat.zero_le _) (Nat.zero_le _) (t_sbSL (j := 23) (by decide) (by decide) b2 v2 (by omega)) (fun v8 u8 h8 hq8 => ?_)
        obtain ⟨rfl, rfl, e8, he8, hh8⟩ := hq8
        have b3 : h8 sb = some (.inr (10, [.ref va, .int (I 0), .int 0, .int (I ((0 + 0 : Nat) : Int))])) := by rw [hh8]; exact ug_eq
        have v3 : rwI 1 (h8 va) 16 _ := he8.mv (by rw [hh8, ug_ne (Ne.symm dsv), ug_eq])
        have F3 : FRM h1 h8 (fun _ => False) := fun x e hx _ => by rw [hh8, ug_ne (KN.ne ⟨_, hx⟩ hsb), ug_ne (KN.ne ⟨_, F1 x e hx (fun z => z)⟩ hva)]; exact F2 x e hx (fun z => z)
        have hr3 := F3 _ _ hsR (fun z => z)
        refine bx_bipush dL_randomKite_700 (by decide) ?_
        refine bx_aload_n dL_randomKite_702 rfl ?_
        refine bx_bipush dL_randomKite_703 (by decide) ?_
        refine bx_cv1 dL_randomKite_705 ln_L_randomKite_117 (Nat.le_of_ble_eq_true rfl) (by decide) hr3 rfl (Nat.zero_le _) (Nat.zero_le _) (kr_below hr3 (b := 7) (by decide)) (fun v7 u7 h7 hq7 => ?_)
        obtain ⟨rfl, ⟨z, hz, rfl⟩, s1, hh7⟩ := hq7
        have drs : sb ≠ r := fun q => by rw [q, hr3] at b3; cases b3
        have b4 : h7 sb = some (.inr (10, [.ref va, .int (I 0), .int 0, .int (I ((0 + 0 : Nat) : Int))])) := by rw [hh7, ug_ne drs]; exact b3
        have v4 := v3.mv (show h7 va = h8 va by rw [hh7, ug_ne (v3.no hr3)])
        have F4 : FRM h1 h7 (fun x => x = r) := fun x e hx hd => by rw [hh7, ug_ne hd]; exact F3 x e hx (fun z => z)
        have R4 : RND h7 r := ⟨s1, by rw [hh7]; exact ug_eq⟩
        refine bx_iadd dL_randomKite_708 ?_
        rw [show (48 + (z : Int)) = ((48 + z : Nat) : Int) by omega]
        refine gx_i2c (sm_i2c (48 + z) (by omega)) dL_randomKite_709 ?_
        refine bx_cv1 dL_randomKite_710 ln_L_randomKite_192 (Nat.le_of_ble_eq_true rfl) (by decide) b4 rfl (Nat.zero_le _) (Nat.zero_le _) (t_sbC b4 v4 (by omega) (by omega)) (fun v6 u6 h6 hq6 => ?_)
        obtain ⟨rfl, rfl, e6, he6, hh6⟩ := hq6
        have b5 : h6 sb = some (.inr (10, [.ref va, .int (I 0), .int 0, .int (I ((0 + 0 + 1 : Nat) : Int))])) := by rw [hh6, ug_ne dsv]; exact ug_eq
        have v5 : rwI 1 (h6 va) 16 _ := he6.mv (by rw [hh6, ug_eq])
        have F5 : FRM h1 h6 (fun x => x = r) := fun x e hx hd => by rw [hh6, ug_ne (KN.ne ⟨_, F1 x e hx (fun z => z)⟩ hva), ug_ne (KN.ne ⟨_, hx⟩ hsb)]; exact F4 x e hx hd
        refine bx_cv0 dL_randomKite_713 ln_L_randomKite_195 (Nat.le_of_ble_eq_true rfl) (by decide) b5 rfl (by omega) (by omega) (t_tostr b5 v5 (by omega) (fun q hq => by
          unfold upZ
          split
          · omega
          · omega)) (fun v5 u5 h5 hq5 => ?_)
        obtain ⟨sR9, hsR9⟩ : RND h6 r := by obtain ⟨q1, q2⟩ := R4; exact ⟨q1, by rw [hh6, ug_ne (fun z => (v4.no q2) z.symm), ug_ne (Ne.symm drs)]; exact q2⟩
        obtain ⟨rfl, a, vb, rfl, n1, n2, x1, x2, F6⟩ := hq5
        have F7 : FRM h1 h5 (fun x => x = r) := fun x e hx hd => F6 x e (F5 x e hx hd) (fun z => z)
        have ha0 : hS a = none := by
          cases z9 : hS a with
          | none => rfl
          | some e0 => exact absurd rfl (KN.ne ⟨_, F5 _ _ (hF _ _ z9 (fun y => by rw [y, hsR9] at n1; cases n1)) (fun y => by rw [y, hsR9] at n1; cases n1)⟩ n1)
        refine bx_astore dL_randomKite_716 rfl (by decide) rfl ?_
        refine bx_iinc dL_randomKite_718 rfl rfl (by decide) rfl ?_
        refine bx_goto (tgt := 681) dL_randomKite_721 (by decide) ?_
        refine ih (0 + 1) h5 (.ref a) (fun q => if q = 0 then z else g q) _ _ (by omega) (by omega) (by omega) (fun q hq => by
          by_cases y : q = 0
          · rw [if_pos y]; exact hz
          · rw [if_neg y]; exact hg q (by omega)) (hF.tr F7) ⟨sR9, F6 _ _ hsR9 (fun z => z)⟩ (Or.inr ⟨by omega, a, vb, 0, 0, rfl, x1, ?_, ha0⟩)
        rw [show (0 + 1 : Nat) = 0 + 0 + 1 by omega]
        refine x2.cong (fun q hq => ?_)
        unfold upZ
        by_cases y : q = 0 + 0
        · rw [if_pos y, if_pos (by omega)]; push_cast; rfl
        · rw [if_neg y, if_neg (by omega)]
          exact absurd hq (by omega)
    · obtain ⟨sR, hsR⟩ := hR
      refine bx_iload dL_randomKite_681 rfl ?_
      refine bx_iload dL_randomKite_683 rfl ?_
      refine bx_icmp_ge (tgt := 724) dL_randomKite_685 (by decide) (by omega) (by omega) (fun c685 => ?_) (fun c685 => ?_)
      · exfalso
        omega
      · refine gx_new (fs := df_10) ck10 cg_KitePainterLaw_186 ist_10 ini_10 dv_10 (by omega) (by omega) dL_randomKite_688 (fun sb hsb => ?_)
        refine gx_gen (fun g1 q1 => ?_)
        have b1 : g1 sb = some (.inr (10, df_10)) := by rw [q1]; exact ug_eq
        have F1 : FRM h1 g1 (fun _ => False) := by rw [q1]; exact FRM.new hsb
        refine bx_dup dL_randomKite_691 rfl ?_
        refine bx_ci0 dL_randomKite_692 ln_L_randomKite_188 (Nat.le_of_ble_eq_true rfl) (by omega) (by omega) (t_sbi b1) (fun u9 h9 hq9 => ?_)
        obtain ⟨-, rfl, va, e9, hva, he9, hh9⟩ := hq9
        have dsv : sb ≠ va := KN.ne ⟨_, b1⟩ hva
        have b2 : h9 sb = some (.inr (10, [.ref va, .int (I 0), .int 0, .int (I ((0 : Nat) : Int))])) := by rw [hh9]; exact ug_eq
        have v2 : rwI 1 (h9 va) 16 (fun _ => 0) := he9.mv (by rw [hh9, ug_ne (Ne.symm dsv)]; exact ug_eq)
        have F2 : FRM h1 h9 (fun _ => False) := fun x e hx _ => by rw [hh9, ug_ne (KN.ne ⟨_, hx⟩ hsb), ug_ne (KN.ne ⟨_, F1 x e hx (fun z => z)⟩ hva)]; exact F1 x e hx (fun z => z)
        refine bx_aload dL_randomKite_695 rfl ?_
        refine bx_cv1 dL_randomKite_697 ln_L_randomKite_189 (Nat.le_of_ble_eq_true rfl) (by decide) b2 rfl (Nat.zero_le _) (Nat.zero_le _) (t_sbS (F2 _ _ a1 (fun z => z)) (a2.fr F2 (fun z => z)) (fun q hq => by have := hg q hq; omega) b2 v2 (by omega)) (fun v8 u8 h8 hq8 => ?_)
        obtain ⟨rfl, rfl, e8, he8, hh8⟩ := hq8
        have b3 : h8 sb = some (.inr (10, [.ref va, .int (I 0), .int 0, .int (I ((0 + i : Nat) : Int))])) := by rw [hh8]; exact ug_eq
        have v3 : rwI 1 (h8 va) 16 _ := he8.mv (by rw [hh8, ug_ne (Ne.symm dsv), ug_eq])
        have F3 : FRM h1 h8 (fun _ => False) := fun x e hx _ => by rw [hh8, ug_ne (KN.ne ⟨_, hx⟩ hsb), ug_ne (KN.ne ⟨_, F1 x e hx (fun z => z)⟩ hva)]; exact F2 x e hx (fun z => z)
        have hr3 := F3 _ _ hsR (fun z => z)
        refine bx_bipush dL_randomKite_700 (by decide) ?_
        refine bx_aload_n dL_randomKite_702 rfl ?_
        refine bx_bipush dL_randomKite_703 (by decide) ?_
        refine bx_cv1 dL_randomKite_705 ln_L_randomKite_117 (Nat.le_of_ble_eq_true rfl) (by decide) hr3 rfl (Nat.zero_le _) (Nat.zero_le _) (kr_below hr3 (b := 7) (by decide)) (fun v7 u7 h7 hq7 => ?_)
        obtain ⟨rfl, ⟨z, hz, rfl⟩, s1, hh7⟩ := hq7
        have drs : sb ≠ r := fun q => by rw [q, hr3] at b3; cases b3
        have b4 : h7 sb = some (.inr (10, [.ref va, .int (I 0), .int 0, .int (I ((0 + i : Nat) : Int))])) := by rw [hh7, ug_ne drs]; exact b3
        have v4 := v3.mv (show h7 va = h8 va by rw [hh7, ug_ne (v3.no hr3)])
        have F4 : FRM h1 h7 (fun x => x = r) := fun x e hx hd => by rw [hh7, ug_ne hd]; exact F3 x e hx (fun z => z)
        have R4 : RND h7 r := ⟨s1, by rw [hh7]; exact ug_eq⟩
        refine bx_iadd dL_randomKite_708 ?_
        rw [show (48 + (z : Int)) = ((48 + z : Nat) : Int) by omega]
        refine gx_i2c (sm_i2c (48 + z) (by omega)) dL_randomKite_709 ?_
        refine bx_cv1 dL_randomKite_710 ln_L_randomKite_192 (Nat.le_of_ble_eq_true rfl) (by decide) b4 rfl (Nat.zero_le _) (Nat.zero_le _) (t_sbC b4 v4 (by omega) (by omega)) (fun v6 u6 h6 hq6 => ?_)
        obtain ⟨rfl, rfl, e6, he6, hh6⟩ := hq6
        have b5 : h6 sb = some (.inr (10, [.ref va, .int (I 0), .int 0, .int (I ((0 + i + 1 : Nat) : Int))])) := by rw [hh6, ug_ne dsv]; exact ug_eq
        have v5 : rwI 1 (h6 va) 16 _ := he6.mv (by rw [hh6, ug_eq])
        have F5 : FRM h1 h6 (fun x => x = r) := fun x e hx hd => by rw [hh6, ug_ne (KN.ne ⟨_, F1 x e hx (fun z => z)⟩ hva), ug_ne (KN.ne ⟨_, hx⟩ hsb)]; exact F4 x e hx hd
        refine bx_cv0 dL_randomKite_713 ln_L_randomKite_195 (Nat.le_of_ble_eq_true rfl) (by decide) b5 rfl (by omega) (by omega) (t_tostr b5 v5 (by omega) (fun q hq => by
          unfold upZ
          split
          · omega
          · (dsimp only; rw [if_pos (by omega)]; have := hg (0 + (q - 0)) (by omega); omega))) (fun v5 u5 h5 hq5 => ?_)
        obtain ⟨sR9, hsR9⟩ : RND h6 r := by obtain ⟨q1, q2⟩ := R4; exact ⟨q1, by rw [hh6, ug_ne (fun z => (v4.no q2) z.symm), ug_ne (Ne.symm drs)]; exact q2⟩
        obtain ⟨rfl, a, vb, rfl, n1, n2, x1, x2, F6⟩ := hq5
        have F7 : FRM h1 h5 (fun x => x = r) := fun x e hx hd => F6 x e (F5 x e hx hd) (fun z => z)
        have ha0 : hS a = none := by
          cases z9 : hS a with
          | none => rfl
          | some e0 => exact absurd rfl (KN.ne ⟨_, F5 _ _ (hF _ _ z9 (fun y => by rw [y, hsR9] at n1; cases n1)) (fun y => by rw [y, hsR9] at n1; cases n1)⟩ n1)
        refine bx_astore dL_randomKite_716 rfl (by decide) rfl ?_
        refine bx_iinc dL_randomKite_718 rfl rfl (by decide) rfl ?_
        refine bx_goto (tgt := 681) dL_randomKite_721 (by decide) ?_
        refine ih (i + 1) h5 (.ref a) (fun q => if q = i then z else g q) _ _ (by omega) (by omega) (by omega) (fun q hq => by
          by_cases y : q = i
          · rw [if_pos y]; exact hz
          · rw [if_neg y]; exact hg q (by omega)) (hF.tr F7) ⟨sR9, F6 _ _ hsR9 (fun z => z)⟩ (Or.inr ⟨by omega, a, vb, 0, 0, rfl, x1, ?_, ha0⟩)
        rw [show (i + 1 : Nat) = 0 + i + 1 by omega]
        refine x2.cong (fun q hq => ?_)
        unfold upZ
        by_cases y : q = 0 + i
        · rw [if_pos y, if_pos (by omega)]; push_cast; rfl
        · rw [if_neg y, if_neg (by omega)]
          dsimp only
          rw [if_pos (by omega), show 0 + (q - 0) = q by omega]
end RC
