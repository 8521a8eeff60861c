/-! ALLOCATION: Cell.<init>, Cell.copy, Kite.<init>, Kite.lay, Kite.copy -/
theorem gx_gen {ad : Nat → Nat} {sc : Nat × (Nat → Int32)} {M : mt} {pc : Nat} {L S : List Value} {c sl : Nat} {u : hp} {h : hg} {Q : qg} (k : ∀ h1, h1 = h → Gx ad sc M pc L S c sl u h1 Q) : Gx ad sc M pc L S c sl u h Q := k h rfl
abbrev df_6 : List Value := [.int 0, .int 0, .int 0, .int 0, .int 0]
abbrev df_7 : List Value := [.int 0, .int 0, .int 0, .int 0, .int 0, .null, .null, .null, .null]
abbrev df_8 : List Value := [.int 0]

theorem dv_6 : ∀ j, j < 5 → defaultValue (tyX6 j) = vp_V df_6 j := fun j hj => by
  match j, hj with
  | 0, _ => rfl
  | 1, _ => rfl
  | 2, _ => rfl
  | 3, _ => rfl
  | 4, _ => rfl
theorem dv_7 : ∀ j, j < 9 → defaultValue (tyX7 j) = vp_V df_7 j := fun j hj => by
  match j, hj with
  | 0, _ => rfl
  | 1, _ => rfl
  | 2, _ => rfl
  | 3, _ => rfl
  | 4, _ => rfl
  | 5, _ => rfl
  | 6, _ => rfl
  | 7, _ => rfl
  | 8, _ => rfl
theorem dv_8 : ∀ j, j < 1 → defaultValue (tyX8 j) = vp_V df_8 j := fun j hj => by
  match j, hj with
  | 0, _ => rfl
theorem cg_KitePainterLaw_Kite_8 : Cond.classLink "KitePainterLaw$Kite" 8 "KitePainterLaw$Kite" ∈ gT := gT_mem 377 (by decide +kernel) (by decide +kernel)
theorem cg_KitePainterLaw_Kite_26 : Cond.classLink "KitePainterLaw$Kite" 26 "[[I" ∈ gT := gT_mem 297 (by decide +kernel) (by decide +kernel)
theorem cg_KitePainterLaw_Kite_31 : Cond.classLink "KitePainterLaw$Kite" 31 "[Ljava/lang/String;" ∈ gT := gT_mem 299 (by decide +kernel) (by decide +kernel)
theorem cg_KitePainterLaw_Kite_37 : Cond.classLink "KitePainterLaw$Kite" 37 "KitePainterLaw$Cell" ∈ gT := gT_mem 301 (by decide +kernel) (by decide +kernel)
theorem cg_KitePainterLaw_Cell_8 : Cond.classLink "KitePainterLaw$Cell" 8 "KitePainterLaw$Cell" ∈ gT := gT_mem 383 (by decide +kernel) (by decide +kernel)
theorem cg_KitePainterLaw_114 : Cond.classLink "KitePainterLaw" 114 "KitePainterLaw$Kite" ∈ gT := gT_mem 291 (by decide +kernel) (by decide +kernel)
theorem cg_KitePainterLaw_118 : Cond.classLink "KitePainterLaw" 118 "KitePainterLaw$Random" ∈ gT := gT_mem 507 (by decide +kernel) (by decide +kernel)
theorem cg_KitePainterLaw_177 : Cond.classLink "KitePainterLaw" 177 "[Ljava/lang/String;" ∈ gT := gT_mem 1066 (by decide +kernel) (by decide +kernel)
theorem cg_KitePainterLaw_24 : Cond.classLink "KitePainterLaw" 24 "java/lang/String" ∈ gT := gT_mem 1067 (by decide +kernel) (by decide +kernel)
theorem cg_KitePainterLaw_186 : Cond.classLink "KitePainterLaw" 186 "java/lang/StringBuilder" ∈ gT := gT_mem 1071 (by decide +kernel) (by decide +kernel)
theorem cg_java_lang_StringBuilder_18 : Cond.classLink "java/lang/StringBuilder" 18 "java/lang/String" ∈ gT := gT_mem 1213 (by decide +kernel) (by decide +kernel)
theorem ist_6 : Cond.instantiable "KitePainterLaw$Cell" 5 ∈ gT := gT_mem 345 (by decide +kernel) (by decide +kernel)
theorem ini_6 : Cond.initialized "KitePainterLaw$Cell" ∈ gT := gT_mem 38 (by decide +kernel) (by decide +kernel)
theorem ist_7 : Cond.instantiable "KitePainterLaw$Kite" 9 ∈ gT := gT_mem 292 (by decide +kernel) (by decide +kernel)
theorem ini_7 : Cond.initialized "KitePainterLaw$Kite" ∈ gT := gT_mem 36 (by decide +kernel) (by decide +kernel)
theorem ist_8 : Cond.instantiable "KitePainterLaw$Random" 1 ∈ gT := gT_mem 508 (by decide +kernel) (by decide +kernel)
theorem ini_8 : Cond.initialized "KitePainterLaw$Random" ∈ gT := gT_mem 35 (by decide +kernel) (by decide +kernel)
theorem ist_9 : Cond.instantiable "java/lang/String" 4 ∈ gT := gT_mem 1214 (by decide +kernel) (by decide +kernel)
theorem ini_9 : Cond.initialized "java/lang/String" ∈ gT := gT_mem 48 (by decide +kernel) (by decide +kernel)
theorem ist_10 : Cond.instantiable "java/lang/StringBuilder" 4 ∈ gT := gT_mem 1072 (by decide +kernel) (by decide +kernel)
theorem ini_10 : Cond.initialized "java/lang/StringBuilder" ∈ gT := gT_mem 53 (by decide +kernel) (by decide +kernel)
def KN (g : hg) (a : Nat) : Prop := ∃ e, g a = some e
theorem rwI.kn {g : hg} {a t n : Nat} {f : Nat → Int} (h : rwI t (g a) n f) : KN g a := by obtain ⟨q, e, -⟩ := h; exact ⟨_, e⟩
theorem rwQ.kn {g : hg} {a t n : Nat} {f : Nat → Option Nat} (h : rwQ t (g a) n f) : KN g a := by obtain ⟨q, e, -⟩ := h; exact ⟨_, e⟩
theorem KN.ne {g : hg} {a x : Nat} (h : KN g a) (hx : g x = none) : a ≠ x := fun z => by obtain ⟨e, h⟩ := h; rw [z, hx] at h; cases h
theorem rwI.no {g : hg} {a k t n : Nat} {f : Nat → Int} {z : Nat × List Value} (h : rwI t (g a) n f) (hk : g k = some (.inr z)) : a ≠ k := fun y => by obtain ⟨q, e, -⟩ := h; rw [y, hk] at e; cases e
theorem rwQ.no {g : hg} {a k t n : Nat} {f : Nat → Option Nat} {z : Nat × List Value} (h : rwQ t (g a) n f) (hk : g k = some (.inr z)) : a ≠ k := fun y => by obtain ⟨q, e, -⟩ := h; rw [y, hk] at e; cases e
section KD0
variable {ad : Nat → Nat} {sc : Nat × (Nat → Int32)} {u : hp} {h : hg} {Q : qg} {k w m p cl : Nat} {ce : Nat → Nat} {K : Nat → Nat} {c sl : Nat}
theorem kc_init {a : Nat} {x y : Int} {v0 v1 v2 v3 v4 : Value} (hc : h a = some (.inr (6, [v0, v1, v2, v3, v4]))) : Gl ad sc c sl M_X6_init [.ref a, .int (I x), .int (I y)] u h (fun v u1 h1 => v = .null ∧ u1 = u ∧ h1 = up h a (.inr (6, [.int (I x), .int (I y), v2, v3, v4]))) := by
  refine bx_aload_n dX6_init_0 rfl ?_
  refine gx_obj ln_X6_init_1 ⟨by decide, by decide⟩ (Nat.le_of_ble_eq_true rfl) dX6_init_1 ?_
  refine bx_aload_n dX6_init_4 rfl ?_
  refine bx_iload_n dX6_init_5 rfl ?_
  refine bx_putF dX6_init_6 ck6 fg_KitePainterLaw_Cell_7 (by decide) hc rfl rfl rfl ⟨rfl, rfl⟩ (Nat.le_of_ble_eq_true rfl) rfl ?_
  refine bx_aload_n dX6_init_9 rfl ?_
  refine bx_iload_n dX6_init_10 rfl ?_
  refine bx_putF dX6_init_11 ck6 fg_KitePainterLaw_Cell_13 (by decide) ug_eq rfl rfl rfl ⟨rfl, rfl⟩ (Nat.le_of_ble_eq_true rfl) rfl ?_
  exact bx_vret dX6_init_14 rfl ⟨rfl, rfl, up_up⟩
theorem kc_copy {a i : Nat} (hc : h a = some (.inr (6, cellF K i))) (hs : K (434 + i) ≤ 1) : Gl ad sc 1 5 M_X6_copy [.ref a] u h (fun v u1 h1 => ∃ a2, h a2 = none ∧ v = .ref a2 ∧ u1 = u ∧ h1 = up h a2 (.inr (6, cellF K i))) := by
  refine gx_new (fs := df_6) ck6 cg_KitePainterLaw_Cell_8 ist_6 ini_6 dv_6 (by omega) (by omega) dX6_copy_0 (fun b hb => ?_)
  refine bx_dup dX6_copy_3 rfl ?_
  refine bx_aload_n dX6_copy_4 rfl ?_
  refine bx_getf dX6_copy_5 ck6 fg_KitePainterLaw_Cell_7 (by decide) ((ug_ne (fun z => by rw [z, hb] at hc; cases hc)).trans hc) rfl ?_
  refine bx_aload_n dX6_copy_8 rfl ?_
  refine bx_getf dX6_copy_9 ck6 fg_KitePainterLaw_Cell_13 (by decide) ((ug_ne (fun z => by rw [z, hb] at hc; cases hc)).trans hc) rfl ?_
  refine bx_ci2 dX6_copy_12 ln_X6_copy_16 (Nat.le_of_ble_eq_true rfl) (Nat.zero_le _) (Nat.zero_le _) (kc_init (c := 0) (sl := 0) ug_eq) (fun u9 h9 hq9 => ?_)
  obtain ⟨-, rfl, rfl⟩ := hq9
  rw [up_up]
  refine bx_astore_n dX6_copy_15 rfl (by decide) rfl ?_
  refine bx_aload_n dX6_copy_16 rfl ?_
  refine bx_aload_n dX6_copy_17 rfl ?_
  refine bx_getf dX6_copy_18 ck6 fg_KitePainterLaw_Cell_19 (by decide) ((ug_ne (fun z => by rw [z, hb] at hc; cases hc)).trans hc) rfl ?_
  refine bx_putf dX6_copy_21 ck6 fg_KitePainterLaw_Cell_19 (by decide) ug_eq rfl ⟨rfl, rfl⟩ (Nat.le_of_ble_eq_true rfl) rfl ?_
  rw [up_up]
  refine bx_aload_n dX6_copy_24 rfl ?_
  refine bx_aload_n dX6_copy_25 rfl ?_
  refine bx_getf dX6_copy_26 ck6 fg_KitePainterLaw_Cell_22 (by decide) ((ug_ne (fun z => by rw [z, hb] at hc; cases hc)).trans hc) rfl ?_
  refine bx_putf dX6_copy_29 ck6 fg_KitePainterLaw_Cell_22 (by decide) ug_eq rfl ⟨rfl, rfl⟩ (Nat.le_of_ble_eq_true rfl) rfl ?_
  rw [up_up]
  refine bx_aload_n dX6_copy_32 rfl ?_
  refine bx_aload_n dX6_copy_33 rfl ?_
  refine bx_getf dX6_copy_34 ck6 fg_KitePainterLaw_Cell_25 (by decide) ((ug_ne (fun z => by rw [z, hb] at hc; cases hc)).trans hc) rfl ?_
  refine bx_putf dX6_copy_37 ck6 fg_KitePainterLaw_Cell_25 (by decide) ug_eq rfl (by show narrow .boolean (.int (I (K (434 + i) : Int))) = _ ∧ fits .boolean (.int (I (K (434 + i) : Int))) = true; rcases (show K (434 + i) = 0 ∨ K (434 + i) = 1 by omega) with z | z <;> rw [z] <;> exact ⟨rfl, rfl⟩) (Nat.le_of_ble_eq_true rfl) rfl ?_
  rw [up_up]
  refine bx_aload_n dX6_copy_40 rfl ?_
  exact bx_aret dX6_copy_41 rfl ⟨b, hb, rfl, rfl, rfl⟩
def wt0 : Nat → Int := fun i => (freshK 5 5 (18 + i) : Int)
/-- a Kite new made: its rows -/
def NK (h h1 : hg) (k w m p cl : Nat) : Prop := h1 k = some (.inr (7, kiteF (freshK 5 5) w m p cl)) ∧ rwI 0 (h1 w) 7 wt0 ∧ rwQ 4 (h1 m) 7 (fun a => some (m + 1 + a)) ∧ (∀ a, a < 7 → rwI 0 (h1 (m + 1 + a)) 7 (fun _ => 0)) ∧ rwQ 9 (h1 p) 0 (fun _ => none) ∧ rwQ 6 (h1 cl) 0 (fun _ => none) ∧ FRM h h1 (fun b => b = k) ∧ h w = none ∧ (∀ j, j < 8 → h (m + j) = none ∧ m + j ≠ w) ∧ h p = none ∧ h cl = none
theorem kt_init {k0 : Nat} (hk : h k0 = some (.inr (7, df_7))) : Gl ad sc 11 63 M_X7_init [.ref k0] u h (fun v u1 h1 => v = .null ∧ u1 = u ∧ ∃ w m p cl, NK h h1 k0 w m p cl) := by
  refine bx_aload_n dX7_init_0 rfl ?_
  refine gx_obj ln_X7_init_1 ⟨by decide, by decide⟩ (Nat.le_of_ble_eq_true rfl) dX7_init_1 ?_
  refine bx_aload_n dX7_init_4 rfl ?_
  refine bx_iconst dX7_init_5 ?_
  refine bx_putf dX7_init_6 ck7 fg_KitePainterLaw_Kite_7 (by decide) hk rfl ⟨rfl, rfl⟩ (Nat.le_of_ble_eq_true rfl) rfl ?_
  refine bx_aload_n dX7_init_9 rfl ?_
  refine bx_iconst dX7_init_10 ?_
  refine bx_putf dX7_init_11 ck7 fg_KitePainterLaw_Kite_13 (by decide) ug_eq rfl ⟨rfl, rfl⟩ (Nat.le_of_ble_eq_true rfl) rfl ?_
  rw [up_up]
  refine bx_aload_n dX7_init_14 rfl ?_
  refine bx_iconst dX7_init_15 ?_
  refine bx_putf dX7_init_16 ck7 fg_KitePainterLaw_Kite_16 (by decide) ug_eq rfl ⟨rfl, rfl⟩ (Nat.le_of_ble_eq_true rfl) rfl ?_
  rw [up_up]
  refine bx_aload_n dX7_init_19 rfl ?_
  refine bx_iconst dX7_init_20 ?_
  refine bx_putf dX7_init_21 ck7 fg_KitePainterLaw_Kite_19 (by decide) ug_eq rfl ⟨rfl, rfl⟩ (Nat.le_of_ble_eq_true rfl) rfl ?_
  rw [up_up]
  refine gx_gen (fun g1 q1 => ?_)
  have k1 : g1 k0 = some (.inr (7, [.int (I 5), .int (I 5), .int 0, .int (I 1), .int (I 5), .null, .null, .null, .null])) := by rw [q1]; exact ug_eq
  have f1 : FRM h g1 (fun b => b = k0) := by rw [q1]; exact FRM.u1 rfl
  refine bx_aload_n dX7_init_24 rfl ?_
  refine bx_bipush dX7_init_25 (by decide) ?_
  refine bx_newa (N := 7) dX7_init_27 (Or.inl ⟨rfl, rfl⟩) rfl (by omega) (by omega) (by omega) (fun w ew hw hew => ?_)
  have nw : h w = none := by
    rw [q1] at hw
    by_cases z : w = k0
    · rw [z, ug_eq] at hw; cases hw
    · rw [ug_ne z] at hw; exact hw
  refine bx_dup dX7_init_29 rfl ?_
  refine bx_iconst dX7_init_30 ?_
  refine bx_iconst dX7_init_31 ?_
  refine bx_iasr (j := 0) dX7_init_32 (hew.mv ug_eq) rfl (by decide) (by omega) (fun e32 he32 => ?_)
  rw [up_up]
  refine bx_dup dX7_init_33 rfl ?_
  refine bx_iconst dX7_init_34 ?_
  refine bx_iconst dX7_init_35 ?_
  refine bx_iasr (j := 1) dX7_init_36 (he32.mv ug_eq) rfl (by decide) (by omega) (fun e36 he36 => ?_)
  rw [up_up]
  refine bx_dup dX7_init_37 rfl ?_
  refine bx_iconst dX7_init_38 ?_
  refine bx_iconst dX7_init_39 ?_
  refine bx_iasr (j := 2) dX7_init_40 (he36.mv ug_eq) rfl (by decide) (by omega) (fun e40 he40 => ?_)
  rw [up_up]
  refine bx_dup dX7_init_41 rfl ?_
  refine bx_iconst dX7_init_42 ?_
  refine bx_iconst dX7_init_43 ?_
  refine bx_iasr (j := 3) dX7_init_44 (he40.mv ug_eq) rfl (by decide) (by omega) (fun e44 he44 => ?_)
  rw [up_up]
  refine bx_dup dX7_init_45 rfl ?_
  refine bx_iconst dX7_init_46 ?_
  refine bx_iconst dX7_init_47 ?_
  refine bx_iasr (j := 4) dX7_init_48 (he44.mv ug_eq) rfl (by decide) (by omega) (fun e48 he48 => ?_)
  rw [up_up]
  refine bx_dup dX7_init_49 rfl ?_
  refine bx_iconst dX7_init_50 ?_
  refine bx_iconst dX7_init_51 ?_
  refine bx_iasr (j := 5) dX7_init_52 (he48.mv ug_eq) rfl (by decide) (by omega) (fun e52 he52 => ?_)
  rw [up_up]
  refine bx_dup dX7_init_53 rfl ?_
  refine bx_bipush dX7_init_54 (by decide) ?_
  refine bx_iconst dX7_init_56 ?_
  refine bx_iasr (j := 6) dX7_init_57 (he52.mv ug_eq) rfl (by decide) (by omega) (fun e57 he57 => ?_)
  rw [up_up]
  refine gx_gen (fun g2 q2 => ?_)
  have dkw : k0 ≠ w := fun z => by rw [← z, hk] at nw; cases nw
  have k2 : g2 k0 = some (.inr (7, [.int (I 5), .int (I 5), .int 0, .int (I 1), .int (I 5), .null, .null, .null, .null])) := by rw [q2, ug_ne dkw]; exact k1
  have w2 : rwI 0 (g2 w) 7 wt0 := by
    rw [q2, ug_eq]
    refine he57.cong (fun i hi => ?_)
    match i, hi with
    | 0, _ => rfl
    | 1, _ => rfl
    | 2, _ => rfl
    | 3, _ => rfl
    | 4, _ => rfl
    | 5, _ => rfl
    | 6, _ => rfl
  have f2 : FRM h g2 (fun b => b = k0) := f1.tr (by rw [q2]; exact FRM.new hw)
  refine bx_putf dX7_init_58 ck7 fg_KitePainterLaw_Kite_22 (by decide) k2 rfl ⟨rfl, rfl⟩ (Nat.le_of_ble_eq_true rfl) rfl ?_
  refine gx_gen (fun g3 q3 => ?_)
  have k3 : g3 k0 = some (.inr (7, [.int (I 5), .int (I 5), .int 0, .int (I 1), .int (I 5), .ref w, .null, .null, .null])) := by rw [q3]; exact ug_eq
  have w3 : rwI 0 (g3 w) 7 wt0 := w2.mv (by rw [q3, ug_ne (Ne.symm dkw)])
  have f3 : FRM h g3 (fun b => b = k0) := f2.tr (by rw [q3]; exact FRM.u1 rfl)
  refine bx_aload_n dX7_init_61 rfl ?_
  refine bx_bipush dX7_init_62 (by decide) ?_
  refine bx_bipush dX7_init_64 (by decide) ?_
  refine gx_mna (N := 7) (K := 7) dX7_init_66 cg_KitePainterLaw_Kite_26 (by decide) (by decide) (by decide) (by decide) (by decide) (by decide) (by omega) (by omega) (fun m hm => ?_)
  refine gx_gen (fun g4 q4 => ?_)
  have sm : ∀ b, (∀ j, j ≤ 7 → b ≠ m + j) → g4 b = g3 b := fun b hb => by
    rw [q4]
    unfold upM
    rw [if_neg (show ¬ b = m from hb 0 (by omega)), if_neg (fun z => hb (b - m) (by omega) (by omega))]
  have dm : ∀ j, j ≤ 7 → m + j ≠ w ∧ m + j ≠ k0 := fun j hj => ⟨(w3.kn.ne (hm j hj)).symm, (KN.ne ⟨_, k3⟩ (hm j hj)).symm⟩
  have nm : ∀ j, j < 8 → h (m + j) = none ∧ m + j ≠ w := fun j hj => by
      refine ⟨?_, (dm j (by omega)).1⟩
      cases z : h (m + j) with
      | none => rfl
      | some e => have := f3 _ e z (dm j (by omega)).2; rw [hm j (by omega)] at this; cases this
  have k4 : g4 k0 = some (.inr (7, [.int (I 5), .int (I 5), .int 0, .int (I 1), .int (I 5), .ref w, .null, .null, .null])) := by rw [sm k0 (fun j hj => (dm j hj).2.symm)]; exact k3
  have w4 : rwI 0 (g4 w) 7 wt0 := w3.mv (sm w (fun j hj => (dm j hj).1.symm))
  have m4 : rwQ 4 (g4 m) 7 (fun a => some (m + 1 + a)) := ⟨_, by rw [q4]; exact if_pos rfl, fun i hi => if_pos hi⟩
  have r4 : ∀ a, a < 7 → rwI 0 (g4 (m + 1 + a)) 7 (fun _ => 0) := fun a ha => ⟨fun _ => 0, by rw [q4]; unfold upM; rw [if_neg (by omega), if_pos (by omega)], fun _ _ => rfl⟩
  have f4 : FRM h g4 (fun b => b = k0) := f3.tr (fun b e hb _ => by
    by_cases z : ∃ j, j ≤ 7 ∧ b = m + j
    · obtain ⟨j, hj, rfl⟩ := z
      rw [hm j hj] at hb; cases hb
    · rw [sm b (fun j hj y => z ⟨j, hj, y⟩)]; exact hb)
  refine bx_putf dX7_init_70 ck7 fg_KitePainterLaw_Kite_28 (by decide) k4 rfl ⟨rfl, rfl⟩ (Nat.le_of_ble_eq_true rfl) rfl ?_
  refine gx_gen (fun g5 q5 => ?_)
  have k5 : g5 k0 = some (.inr (7, [.int (I 5), .int (I 5), .int 0, .int (I 1), .int (I 5), .ref w, .ref m, .null, .null])) := by rw [q5]; exact ug_eq
  have w5 : rwI 0 (g5 w) 7 wt0 := w4.mv (by rw [q5, ug_ne (Ne.symm dkw)])
  have m5 : rwQ 4 (g5 m) 7 (fun a => some (m + 1 + a)) := m4.mv (by rw [q5, ug_ne (show m ≠ k0 from (dm 0 (by omega)).2)])
  have r5 : ∀ a, a < 7 → rwI 0 (g5 (m + 1 + a)) 7 (fun _ => 0) := fun a ha => (r4 a ha).mv (by rw [q5, ug_ne (by have := (dm (1 + a) (by omega)).2; rw [← Nat.add_assoc] at this; exact this)])
  have f5 : FRM h g5 (fun b => b = k0) := f4.tr (by rw [q5]; exact FRM.u1 rfl)
  refine bx_aload_n dX7_init_73 rfl ?_
  refine bx_iconst dX7_init_74 ?_
  refine bx_anewA (N := 0) dX7_init_75 cg_KitePainterLaw_Kite_31 rfl (by omega) (by omega) (by omega) (fun pt ept hpt hept => ?_)
  refine gx_gen (fun g6 q6 => ?_)
  have k6 : g6 k0 = some (.inr (7, [.int (I 5), .int (I 5), .int 0, .int (I 1), .int (I 5), .ref w, .ref m, .null, .null])) := by rw [q6, ug_ne (KN.ne ⟨_, k5⟩ hpt)]; exact k5
  have w6 : rwI 0 (g6 w) 7 wt0 := w5.mv (by rw [q6, ug_ne (w5.kn.ne hpt)])
  have m6 : rwQ 4 (g6 m) 7 (fun a => some (m + 1 + a)) := m5.mv (by rw [q6, ug_ne (m5.kn.ne hpt)])
  have r6 : ∀ a, a < 7 → rwI 0 (g6 (m + 1 + a)) 7 (fun _ => 0) := fun a ha => (r5 a ha).mv (by rw [q6, ug_ne ((r5 a ha).kn.ne hpt)])
  have f6 : FRM h g6 (fun b => b = k0) := f5.tr (by rw [q6]; exact FRM.new hpt)
  have zpt : h pt = none := by
    cases z : h pt with
    | none => rfl
    | some e => have := f5 _ e z (KN.ne ⟨_, k5⟩ hpt).symm; rw [hpt] at this; cases this
  have p6 : rwQ 9 (g6 pt) 0 (fun _ => none) := hept.mv (by rw [q6]; exact ug_eq)
  refine bx_putf dX7_init_78 ck7 fg_KitePainterLaw_Kite_33 (by decide) k6 rfl ⟨rfl, rfl⟩ (Nat.le_of_ble_eq_true rfl) rfl ?_
  refine gx_gen (fun g7 q7 => ?_)
  have k7 : g7 k0 = some (.inr (7, [.int (I 5), .int (I 5), .int 0, .int (I 1), .int (I 5), .ref w, .ref m, .ref pt, .null])) := by rw [q7]; exact ug_eq
  have w7 : rwI 0 (g7 w) 7 wt0 := w6.mv (by rw [q7, ug_ne (Ne.symm dkw)])
  have m7 : rwQ 4 (g7 m) 7 (fun a => some (m + 1 + a)) := m6.mv (by rw [q7, ug_ne (show m ≠ k0 from (dm 0 (by omega)).2)])
  have r7 : ∀ a, a < 7 → rwI 0 (g7 (m + 1 + a)) 7 (fun _ => 0) := fun a ha => (r6 a ha).mv (by rw [q7, ug_ne (by have := (dm (1 + a) (by omega)).2; rw [← Nat.add_assoc] at this; exact this)])
  have f7 : FRM h g7 (fun b => b = k0) := f6.tr (by rw [q7]; exact FRM.u1 rfl)
  have p7 : rwQ 9 (g7 pt) 0 (fun _ => none) := p6.mv (by rw [q7, ug_ne (p6.no k6)])
  refine bx_aload_n dX7_init_81 rfl ?_
  refine bx_iconst dX7_init_82 ?_
  refine bx_anew (t := 6) (N := 0) (C := "KitePainterLaw$Cell") dX7_init_83 ⟨by unfold tagO; simp, by decide⟩ cg_KitePainterLaw_Kite_37 rfl (by omega) (by omega) (by omega) (fun cl ecl hcl hecl => ?_)
  refine gx_gen (fun g8 q8 => ?_)
  have k8 : g8 k0 = some (.inr (7, [.int (I 5), .int (I 5), .int 0, .int (I 1), .int (I 5), .ref w, .ref m, .ref pt, .null])) := by rw [q8, ug_ne (KN.ne ⟨_, k7⟩ hcl)]; exact k7
  have w8 : rwI 0 (g8 w) 7 wt0 := w7.mv (by rw [q8, ug_ne (w7.kn.ne hcl)])
  have m8 : rwQ 4 (g8 m) 7 (fun a => some (m + 1 + a)) := m7.mv (by rw [q8, ug_ne (m7.kn.ne hcl)])
  have r8 : ∀ a, a < 7 → rwI 0 (g8 (m + 1 + a)) 7 (fun _ => 0) := fun a ha => (r7 a ha).mv (by rw [q8, ug_ne ((r7 a ha).kn.ne hcl)])
  have f8 : FRM h g8 (fun b => b = k0) := f7.tr (by rw [q8]; exact FRM.new hcl)
  have zcl : h cl = none := by
    cases z : h cl with
    | none => rfl
    | some e => have := f7 _ e z (KN.ne ⟨_, k7⟩ hcl).symm; rw [hcl] at this; cases this
  have p8 : rwQ 9 (g8 pt) 0 (fun _ => none) := p7.mv (by rw [q8, ug_ne (p7.kn.ne hcl)])
  have c8 : rwQ 6 (g8 cl) 0 (fun _ => none) := hecl.mv (by rw [q8]; exact ug_eq)
  refine bx_putf dX7_init_86 ck7 fg_KitePainterLaw_Kite_39 (by decide) k8 rfl ⟨rfl, rfl⟩ (Nat.le_of_ble_eq_true rfl) rfl ?_
  refine gx_gen (fun g9 q9 => ?_)
  have k9 : g9 k0 = some (.inr (7, [.int (I 5), .int (I 5), .int 0, .int (I 1), .int (I 5), .ref w, .ref m, .ref pt, .ref cl])) := by rw [q9]; exact ug_eq
  have w9 : rwI 0 (g9 w) 7 wt0 := w8.mv (by rw [q9, ug_ne (Ne.symm dkw)])
  have m9 : rwQ 4 (g9 m) 7 (fun a => some (m + 1 + a)) := m8.mv (by rw [q9, ug_ne (show m ≠ k0 from (dm 0 (by omega)).2)])
  have r9 : ∀ a, a < 7 → rwI 0 (g9 (m + 1 + a)) 7 (fun _ => 0) := fun a ha => (r8 a ha).mv (by rw [q9, ug_ne (by have := (dm (1 + a) (by omega)).2; rw [← Nat.add_assoc] at this; exact this)])
  have f9 : FRM h g9 (fun b => b = k0) := f8.tr (by rw [q9]; exact FRM.u1 rfl)
  have p9 : rwQ 9 (g9 pt) 0 (fun _ => none) := p8.mv (by rw [q9, ug_ne (p8.no k8)])
  have c9 : rwQ 6 (g9 cl) 0 (fun _ => none) := c8.mv (by rw [q9, ug_ne (c8.no k8)])
  exact bx_vret dX7_init_89 rfl ⟨rfl, rfl, w, m, pt, cl, k9, w9, m9, r9, p9, c9, f9, nw, nm, zpt, zcl⟩
end KD0
