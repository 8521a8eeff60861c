/-! THE LAW'S WORLD: what holds between two calls -/
def LA (h : hp) (K : Nat → Nat) (H : Nat → Nat → Nat) (d : Nat) (e : Int) (r T : Nat → Int) : Prop := SA 132 h 1 K ∧ (∃ KS, SA 132 h 11 KS) ∧ KO h e ∧ CH 132 h H d ∧ RO h r ∧ TR h T ∧ BO h ∧ sh 0 (h 104) 180 ∧ sh 0 (h 105) 180 ∧ (∃ n0, FO h n0) ∧ sh 0 (h 107) 180 ∧ sh 0 (h 108) 180 ∧ sh 0 (h 109) 180
theorem LA.eq {h g : hp} {K : Nat → Nat} {H : Nat → Nat → Nat} {d : Nat} {e : Int} {r T : Nat → Int} (hA : LA h K H d e r T) (q : ∀ a, a < 112 → g a = h a) : LA g K H d e r T := by
  obtain ⟨a1, ⟨KS, a2⟩, a3, a4, a5, a6, a7, a8, a9, ⟨n0, a10⟩, a11, a12, a13⟩ := hA
  exact ⟨a1.eq (fun a h1 h2 => q a (by omega)), ⟨KS, a2.eq (fun a h1 h2 => q a (by omega))⟩, (q 0 (by omega)).trans a3, a4.eq (fun a h1 h2 => q a (by omega)), (q 110 (by omega)).trans a5, a6.mv (q 111 (by omega)), (q 103 (by omega)).trans a7, a8.mv (q 104 (by omega)), a9.mv (q 105 (by omega)), ⟨n0, (q 106 (by omega)).trans a10⟩, a11.mv (q 107 (by omega)), a12.mv (q 108 (by omega)), a13.mv (q 109 (by omega))⟩
def LB (h : hp) (s : Nat → Int) (K : Nat → Nat) (H : Nat → Nat → Nat) (d : Nat) (T : Nat → Int) : Prop := MD h s K ∧ MH h H d ∧ s 12 = (d : Int) ∧ BT h T ∧ sh 0 (h 115) 746 ∧ sh 0 (h 116) 746 ∧ sh 0 (h 126) 180 ∧ sh 0 (h 127) 180 ∧ sh 0 (h 128) 180 ∧ sh 2 (h 129) 180 ∧ sh 0 (h 130) 180
theorem LB.eq {h g : hp} {s : Nat → Int} {K : Nat → Nat} {H : Nat → Nat → Nat} {d : Nat} {T : Nat → Int} (hB : LB h s K H d T) (q : ∀ a, 112 ≤ a → a < 131 → g a = h a) : LB g s K H d T := by
  obtain ⟨a1, a2, a3, a4, a5, a6, a7, a8, a9, a10, a11⟩ := hB
  exact ⟨a1.eq (q 112 (by omega) (by omega)) (q 114 (by omega) (by omega)), a2.eq (fun a h1 h2 => q a (by omega) (by omega)), a3, a4.mv (q 113 (by omega) (by omega)), a5.mv (q 115 (by omega) (by omega)), a6.mv (q 116 (by omega) (by omega)), a7.mv (q 126 (by omega) (by omega)), a8.mv (q 127 (by omega) (by omega)), a9.mv (q 128 (by omega) (by omega)), a10.mv (q 129 (by omega) (by omega)), a11.mv (q 130 (by omega) (by omega))⟩
/-- the reference alone changed its object, by an answer without effect -/
theorem LB.s0 {h g : hp} {s : Nat → Int} {K : Nat → Nat} {H : Nat → Nat → Nat} {d : Nat} {T : Nat → Int} {c : Int} (hB : LB h s K H d T) (hM : MD g (upZ s 0 c) K) (q : Y2 h g) : LB g (upZ s 0 c) K H d T := by
  obtain ⟨a1, a2, a3, a4, a5, a6, a7, a8, a9, a10, a11⟩ := hB
  exact ⟨hM, a2.eq (fun a h1 h2 => q a (by omega)), a3, a4.mv (q 113 (by omega)), a5.mv (q 115 (by omega)), a6.mv (q 116 (by omega)), a7.mv (q 126 (by omega)), a8.mv (q 127 (by omega)), a9.mv (q 128 (by omega)), a10.mv (q 129 (by omega)), a11.mv (q 130 (by omega))⟩
def LK (K : Nat → Nat) (H : Nat → Nat → Nat) (d : Nat) (T : Nat → Int) (e : Int) (s r : Nat → Int) (fl : Nat) : Prop := KI K ∧ (∀ t, t < d → KI (H t)) ∧ TX T ∧ s 7 = e ∧ r 1 = (fl : Int) ∧ s 2 = (fl : Int) ∧ fl ≤ 600
def LO (h : hp) : Prop := ∃ f : Nat → Int64, h 131 = .inl (5, 1, .inr (.inl f))
def LI (h : hp) : Prop := ∃ (K : Nat → Nat) (H : Nat → Nat → Nat) (d : Nat) (T : Nat → Int) (e : Int) (s r : Nat → Int) (fl : Nat), LK K H d T e s r fl ∧ LA h K H d e r T ∧ LB h s K H d T ∧ LO h
/-- behind both calls of one row of the script -/
def PL (z : Int) (b : Int32) (u : hp) : Prop := ∃ (K : Nat → Nat) (H : Nat → Nat → Nat) (d : Nat) (T : Nat → Int) (e : Int) (s r : Nat → Int) (fl : Nat) (f : Nat → Int64), LK K H d T e s r fl ∧ LA u K H d e r T ∧ LB u s K H d T ∧ u 131 = .inl (5, 1, .inr (.inl f)) ∧ s 0 = z ∧ (z = 0 → f 0 = b.toInt64)
theorem PL.li {z : Int} {b : Int32} {u : hp} (h : PL z b u) : LI u := by
  obtain ⟨K, H, d, T, e, s, r, fl, f, h1, h2, h3, h4, h5, h6⟩ := h
  exact ⟨K, H, d, T, e, s, r, fl, h1, h2, h3, f, h4⟩
def outW (r : Int32) (u : hp) (Q1 : qt) : Prop := r = I 0 ∧ ∃ (v : Int32) (h1 : hp) (f : Nat → Int64), Q1 (.int v) h1 ∧ u = va_up h1 131 (.inl (5, 1, .inr (.inl f))) ∧ f 0 = v.toInt64
section OP
variable {Γ : en} {l : Launch} {St : State → Prop}
def OpW (Γ : en) (l : Launch) (St : State → Prop) (W9 : mt) (hh : List (Nat × Nat × Nat × Nat)) (Y6 : mt) (As : List Value) (h : hp) : Prop := ∃ Qw : Int32 → hp → Prop, MetW Γ l St 132 W9 hh (.ref 0 :: (As ++ [.ref 131])) h Qw ∧ ∀ r u, Qw r u → ∃ (z : Int) (fs : List Value) (Q2 : qt), r = I z ∧ (0 ≤ z ∧ z ≤ 2) ∧ u 112 = .inr (6, fs) ∧ Cl 132 Y6 (.ref 112 :: As) u Q2 ∧ ∀ v u', Q2 v u' → ∃ b : Int32, v = .int b ∧ PL z b u'
theorem op_fine {W9 : mt} {hh : List (Nat × Nat × Nat × Nat)} {Y5 Y6 : mt} {As : List Value} {h : hp} {Q5 : qt} (hO : LO h) (hB : ∃ fs, h 112 = .inr (6, fs))
    (hw : ∀ {Q1 : qt}, Cl 132 Y5 (.ref 0 :: As) h Q1 → (∀ v h1, Q1 v h1 → ∃ f, h1 131 = .inl (5, 1, .inr (.inl f))) → MetW Γ l St 132 W9 hh (.ref 0 :: (As ++ [.ref 131])) h (fun r u => r = I 0 ∧ ∃ v h1 f, Q1 (.int v) h1 ∧ u = va_up h1 131 (.inl (5, 1, .inr (.inl f))) ∧ f 0 = v.toInt64))
    (c5 : Cl 132 Y5 (.ref 0 :: As) h Q5)
    (m5 : ∀ v h1, Q5 v h1 → (∀ a, 112 ≤ a → h1 a = h a) ∧ ∃ (z : Int) (K : Nat → Nat) (H : Nat → Nat → Nat) (d : Nat) (e : Int) (r T : Nat → Int), v = .int (I z) ∧ LA h1 K H d e r T ∧ ∀ u : hp, (∀ a, a ≠ 131 → u a = h1 a) → ∃ Q2 : qt, Cl 132 Y6 (.ref 112 :: As) u Q2 ∧ ∀ v2 u', Q2 v2 u' → v2 = .int (I z) ∧ (∀ a, (a < 112 ∨ a = 131) → u' a = u a) ∧ ∃ (s : Nat → Int) (fl : Nat), LK K H d T e s r fl ∧ LB u' s K H d T ∧ s 0 = 0) : OpW Γ l St W9 hh Y6 As h := by
  refine ⟨_, hw c5 (fun v h1 q => ?_), fun r u q => ?_⟩
  · obtain ⟨f, hf⟩ := hO
    exact ⟨f, ((m5 v h1 q).1 131 (by omega)).trans hf⟩
  · obtain ⟨rfl, v, h1, f, hq, rfl, hf⟩ := q
    obtain ⟨hk, z, K, H, d, e, r, T, hv, hA, k6⟩ := m5 _ _ hq
    obtain ⟨Q2, c6, p6⟩ := k6 (va_up h1 131 (.inl (5, 1, .inr (.inl f)))) (fun a ha => vu_ne ha)
    obtain ⟨fs, hfs⟩ := hB
    refine ⟨0, fs, Q2, rfl, by omega, (vu_ne (by omega)).trans ((hk 112 (by omega)).trans hfs), c6, fun v2 u' q2 => ?_⟩
    obtain ⟨e2, fr, s, fl, hLK, hLB, hs0⟩ := p6 v2 u' q2
    cases hv
    exact ⟨I z, e2, K, H, d, T, e, s, r, fl, f, hLK, hA.eq (fun a ha => (fr a (Or.inl ha)).trans (vu_ne (by omega))), hLB, (fr 131 (Or.inr rfl)).trans vu_eq, hs0, fun _ => hf⟩
theorem op_pure {W9 : mt} {hh : List (Nat × Nat × Nat × Nat)} {Y5 Y6 : mt} {As : List Value} {h : hp} {z : Int} {K : Nat → Nat} {H : Nat → Nat → Nat} {d : Nat} {e : Int} {s r T : Nat → Int} {fl : Nat} (hLK : LK K H d T e s r fl) (hA : LA h K H d e r T) (hB : LB h s K H d T) (hO : LO h)
    (hw : ∀ {Q1 : qt}, Cl 132 Y5 (.ref 0 :: As) h Q1 → (∀ v h1, Q1 v h1 → ∃ f, h1 131 = .inl (5, 1, .inr (.inl f))) → MetW Γ l St 132 W9 hh (.ref 0 :: (As ++ [.ref 131])) h (fun r u => r = I 0 ∧ ∃ v h1 f, Q1 (.int v) h1 ∧ u = va_up h1 131 (.inl (5, 1, .inr (.inl f))) ∧ f 0 = v.toInt64))
    (c5 : Cl 132 Y5 (.ref 0 :: As) h (fun v h1 => v = .int (I z) ∧ h1 = h))
    (c6 : ∀ u : hp, MD u s K → Cl 132 Y6 (.ref 112 :: As) u (fun v h1 => v = .int (I z) ∧ MD h1 (upZ s 0 0) K ∧ Y2 u h1)) : OpW Γ l St W9 hh Y6 As h := by
  refine op_fine hO ⟨_, hB.1.1⟩ hw c5 (fun v h1 q => ?_)
  obtain ⟨q1, rfl⟩ := q
  refine ⟨fun a _ => rfl, z, K, H, d, e, r, T, q1, hA, fun u hu => ?_⟩
  have hB1 : LB u s K H d T := hB.eq (fun a _ h2 => hu a (by omega))
  refine ⟨_, c6 u hB1.1, fun v2 u' q2 => ⟨q2.1, fun a ha => q2.2.2 a (by omega), upZ s 0 0, fl, hLK, hB1.s0 q2.2.1 q2.2.2, rfl⟩⟩
theorem op_throw {W9 : mt} {hh : List (Nat × Nat × Nat × Nat)} {Y6 : mt} {As : List Value} {h : hp} {z : Int} (hz : 1 ≤ z ∧ z ≤ 2) {K : Nat → Nat} {H : Nat → Nat → Nat} {d : Nat} {e : Int} {s r T : Nat → Int} {fl : Nat} (hLK : LK K H d T e s r fl) (hA : LA h K H d e r T) (hB : LB h s K H d T) (hO : LO h)
    (hw : MetW Γ l St 132 W9 hh (.ref 0 :: (As ++ [.ref 131])) h (fun r u => r = I z ∧ u = h))
    (c6 : Cl 132 Y6 (.ref 112 :: As) h (fun v h1 => v = .int (I 0) ∧ MD h1 (upZ s 0 z) K ∧ Y2 h h1)) : OpW Γ l St W9 hh Y6 As h := by
  obtain ⟨f, hf⟩ := hO
  refine ⟨_, hw, fun r9 u q => ?_⟩
  obtain ⟨rfl, rfl⟩ := q
  refine ⟨z, _, _, rfl, by omega, hB.1.1, c6, fun v u' q2 => ⟨I 0, q2.1, K, H, d, T, e, upZ s 0 z, r, fl, f, hLK, hA.eq (fun a ha => q2.2.2 a (by omega)), hB.s0 q2.2.1 q2.2.2, (q2.2.2 131 (by omega)).trans hf, rfl, fun h0 => ?_⟩⟩
  omega
/-- the two calls whose answers are ints, side by side -/
def OpD (Y5 Y6 : mt) (As : List Value) (h : hp) : Prop := ∃ Q5 : qt, Cl 132 Y5 (.ref 0 :: As) h Q5 ∧ ∀ v h1, Q5 v h1 → ∃ (b : Int32) (fs : List Value) (Q6 : qt), v = .int b ∧ h1 112 = .inr (6, fs) ∧ Cl 132 Y6 (.ref 112 :: As) h1 Q6 ∧ ∀ v2 u, Q6 v2 u → v2 = .int b ∧ LI u
end OP
theorem s6_loadT {NC : Nat} (hN : 132 ≤ NC) {h : hp} {s : Nat → Int} {K : Nat → Nat} (hM : MD h s K) {n : Int} (gn : -2147483648 ≤ n ∧ n < 2147483648) (h2 : 0 ≤ s 2 ∧ s 2 ≤ 600) (hx : ¬ (0 ≤ n ∧ n ≤ s 2)) : Cl NC M_X6_load [.ref 112, .int (I n)] h (fun v h1 => v = .int (I 0) ∧ MD h1 (upZ s 0 1) K ∧ Y2 h h1) := by
  refine ax_aload_n dX6_load_0 rfl ?_
  refine ax_iconst dX6_load_1 ?_
  refine ax_putf dX6_load_2 ck6 fl_X6_51 (by decide) (by omega) hM.1 rfl (Or.inl rfl) (Nat.le_of_ble_eq_true rfl) rfl ?_
  generalize hg0 : va_up h 112 _ = g0
  have hM0 : MD g0 (upZ s 0 0) K := by rw [← hg0]; exact hM.s0
  have y0 : Y2 h g0 := fun a ha => by rw [← hg0]; exact vu_ne ha
  have z0 : upZ s 0 0 0 = 0 := rfl
  refine ax_aload_n dX6_load_5 rfl ?_
  refine ax_iload_n dX6_load_6 rfl ?_
  refine ax_iconst dX6_load_7 ?_
  refine ax_aload_n dX6_load_8 rfl ?_
  refine ax_getf dX6_load_9 ck6 fl_X6_64 (by decide) (by omega) hM0.1 rfl ?_
  rw [show upZ s 0 0 2 = s 2 from rfl]
  refine ax_csiP3 dX6_load_12 ln_X6_load_54 (Nat.le_of_ble_eq_true rfl) (Or.inr rfl) (s6_in gn (by omega) (by omega)) ?_
  rw [if_neg hx]
  refine ax_if_ne (tgt := 22) dX6_load_15 (by decide) (by omega) (fun c15 => absurd rfl c15) (fun c15 => ?_)
  refine ax_iconst dX6_load_18 ?_
  refine ax_goto (tgt := 23) dX6_load_19 (by decide) ?_
  refine ax_iconst dX6_load_23 ?_
  refine ax_cvi2 dX6_load_24 ln_X6_load_173 (Nat.le_of_ble_eq_true rfl) (Or.inr rfl) (by omega) hM0.1 rfl (s6_failsT hN hM0.1 z0 (by decide)) (fun r g1 hq => ?_)
  obtain ⟨hv, hO1, y1⟩ := hq
  cases hv
  have hM1 : MD g1 (upZ (upZ s 0 0) 0 1) K := ⟨hO1, hM0.2.mv (y1 114 (by decide))⟩
  refine ax_if_eq (tgt := 32) dX6_load_27 (by decide) (by omega) (fun c25 => absurd c25 (by decide)) (fun c25 => ?_)
  refine ax_iconst dX6_load_30 ?_
  exact ax_iret dX6_load_31 rfl ⟨rfl, hM1.up0, y0.tr y1⟩
theorem KI.str {c : Nat} (hc : c ≤ 6) {dx dy : Int} : ∀ (n : Nat) {K : Nat → Nat} (x y : Int), KI K → KI (strP c dx dy n K x y).2
  | 0, K, x, y, h => h
  | n + 1, K, x, y, h => by
    by_cases q : onZ K x y = true ∧ K (434 + (y.toNat * K 0 + x.toNat)) = 0
    · rw [str_t q]; exact KI.str hc n _ _ (h.pC hc (by omega))
    · rw [str_f q]; exact h
theorem psh_KI {K : Nat → Nat} {H : Nat → Nat → Nat} {d : Nat} (hK : KI K) (hH : ∀ t, t < d → KI (H t)) : ∀ t, t < min (d + 1) 8 → KI (psh K H t) := by
  intro t ht
  unfold psh
  by_cases q : t = 0
  · rw [if_pos q]; exact hK
  · rw [if_neg q]; exact hH _ (by omega)
theorem I_any (w : Int32) : ∃ a : Int, w = I a ∧ (-2147483648 ≤ a ∧ a < 2147483648) := ⟨w.toInt, by unfold I; rw [Int32.ofInt_toInt], by have h1 := Int32.le_toInt w; have h2 := Int32.toInt_lt w; constructor <;> omega⟩
