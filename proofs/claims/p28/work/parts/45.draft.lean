/-! what a text that is read leaves: a draft that is a sail -/
theorem KI.of3 {K K' : Nat → Nat} (hK : KI K) (h1 : ∀ j, j < 18 → j ≠ 2 → j ≠ 3 → j ≠ 4 → j ≠ 5 → K' j = K j) (h3 : K' 3 ≤ 99 ∧ K' 4 ≤ 99 ∧ K' 5 ≤ 3 ∧ K' 18 = 0) (hw : ∀ c, c < 7 → K' (18 + c) ≤ 99) (hm : ∀ i, i < 49 → K' (25 + i) ≤ 6) (h2 : ∀ j, 74 ≤ j → j < 614 → K' j = K j) (hp : ∀ p, p < 3 → K' (614 + 44 * p) ≤ 7 ∧ K' (615 + 44 * p) ≤ 6 ∧ ∀ j, j < 42 → K' (616 + 44 * p + j) ≤ 6) : KI K' := by
  have e0 := h1 0 (by omega) (by omega) (by omega) (by omega) (by omega)
  have e1 := h1 1 (by omega) (by omega) (by omega) (by omega) (by omega)
  have n1 : nC K' = nC K := by unfold nC; rw [e0, e1]
  have k0 := hK.1
  have o1 : ∀ i, i < nC K → on K' i = on K i := by
    intro i hi
    have d := div_12 hK hi
    unfold on onZ
    rw [e0, e1, h1 (6 + ((i / K 0 : Nat) : Int).toNat) (by rw [Int.toNat_natCast]; omega) (by omega) (by omega) (by omega) (by omega)]
  refine ⟨by omega, fun y hy => ?_, hw, hm, fun i hi => ?_, fun i hi => ?_, fun i hi => ?_, fun i hi => ?_, hp⟩
  · rw [e0, h1 (6 + y) (by omega) (by omega) (by omega) (by omega) (by omega)]; exact hK.2.1 y hy
  · rw [h2 (74 + i) (by omega) (by omega)]; exact hK.2.2.2.2.1 i hi
  · rw [h2 (254 + i) (by omega) (by omega)]; exact hK.2.2.2.2.2.1 i hi
  · rw [h2 (434 + i) (by omega) (by omega)]; exact hK.2.2.2.2.2.2.1 i hi
  · rw [n1, h2 (74 + i) (by omega) (by omega), h2 (254 + i) (by omega) (by omega), h2 (434 + i) (by omega) (by omega)]
    rcases hK.2.2.2.2.2.2.2.1 i hi with z | z
    · left; exact ⟨z.1, by rw [o1 i z.1]; exact z.2⟩
    · right; exact z
/-- a draft: nothing is painted, and there is a spar only if one was told -/
def KD (K : Nat → Nat) (f4 : Int) : Prop := KI K ∧ (∀ i, i < 180 → K (74 + i) = 0 ∧ K (254 + i) = 0) ∧ (f4 ≠ 1 → ∀ i, i < 180 → K (434 + i) = 0) ∧ (∀ p, p < 3 → K 5 ≤ p → K (615 + 44 * p) = 0 ∧ K (614 + 44 * p) = 0)
theorem KI.rea {K K' : Nat → Nat} (hK : KI K) (h1 : ∀ j, (j < 6 ∨ 18 ≤ j) → K' j = K j) (h2 : ∀ y, y < 12 → K' (6 + y) ≤ K 0 / 2) (hz : ∀ i, i < 180 → K (74 + i) = 0 ∧ K (254 + i) = 0 ∧ K (434 + i) = 0) : KI K' := by
  have k0 := hK.1
  refine ⟨?_, fun y hy => by rw [h1 0 (by omega)]; exact h2 y hy, fun c hc => by rw [h1 (18 + c) (by omega)]; exact hK.2.2.1 c hc, fun i hi => by rw [h1 (25 + i) (by omega)]; exact hK.2.2.2.1 i hi, fun i hi => by rw [h1 (74 + i) (by omega)]; exact hK.2.2.2.2.1 i hi, fun i hi => by rw [h1 (254 + i) (by omega)]; exact hK.2.2.2.2.2.1 i hi, fun i hi => by rw [h1 (434 + i) (by omega)]; exact hK.2.2.2.2.2.2.1 i hi, fun i hi => ?_, fun p hp => ?_⟩
  · rw [h1 0 (by omega), h1 1 (by omega), h1 3 (by omega), h1 4 (by omega), h1 5 (by omega), h1 18 (by omega)]; exact k0
  · right; rw [h1 (74 + i) (by omega), h1 (254 + i) (by omega), h1 (434 + i) (by omega)]; exact hz i hi
  · rw [h1 (614 + 44 * p) (by omega), h1 (615 + 44 * p) (by omega)]
    have z := hK.2.2.2.2.2.2.2.2 p hp
    exact ⟨z.1, z.2.1, fun j hj => by rw [h1 (616 + 44 * p + j) (by omega)]; exact z.2.2 j hj⟩
theorem sN_ge {T : Nat → Int} {n s : Nat} : s ≤ sN T n s := by
  have h1 := tE_ge (T := T) (n := n) (s := s)
  have h2 := rn_ge (c := cB T) (n := n) (p := tE T n s)
  unfold sN sk; omega
theorem num_in {T : Nat → Int} {n s : Nat} {lo hi : Int} {v : Int × Nat} (h : numP T n lo hi s = .inr v) : lo ≤ v.1 ∧ v.1 ≤ hi ∧ s ≤ v.2 := by
  have z := numP_in h
  exact ⟨z.1, z.2.1, by rw [z.2.2]; exact sN_ge⟩
theorem rea_in {T : Nat → Int} {n : Nat} : ∀ {f y s : Nat} {K : Nat → Nat} {v : Nat × (Nat → Nat)}, y + f ≤ 12 → (∀ y, y < 12 → K (6 + y) ≤ K 0 / 2) → reaL T n f y s K = .inr v → s ≤ v.1 ∧ (∀ j, (j < 6 ∨ 18 ≤ j) → v.2 j = K j) ∧ (∀ y, y < 12 → v.2 (6 + y) ≤ K 0 / 2)
  | 0, y, s, K, v, _, hr, h => by cases h; exact ⟨Nat.le_refl _, fun j _ => rfl, hr⟩
  | f + 1, y, s, K, v, hy, hr, h => by
    obtain ⟨w, h1, h2⟩ := bnd_in (show bnd (numP T n 0 ((K 0 / 2 : Nat) : Int) s) (fun v => reaL T n f (y + 1) v.2 (upN K (6 + y) v.1.toNat)) = .inr v from h)
    have n1 := num_in h1
    have e0 : upN K (6 + y) w.1.toNat 0 = K 0 := up_ne (by omega)
    have ih := rea_in (f := f) (y := y + 1) (by omega) (fun y2 hy2 => by rw [e0]; unfold upN; split; omega; exact hr y2 hy2) h2
    rw [e0] at ih
    exact ⟨by omega, fun j hj => by rw [ih.2.1 j hj, up_ne (by omega)], ih.2.2⟩
theorem spL_hi {K : Nat → Nat} (hK : KI K) {d : Bool} {x y j : Nat} (hj : 614 ≤ j) : ∀ i, spL K d x y i j = K j
  | 0 => rfl
  | i + 1 => (stS_hi hK hj).trans (spL_hi hK hj i)
theorem lnL_in {T : Nat → Int} {n p : Nat} (hp : p < 3) : ∀ {f hi s : Nat} {K : Nat → Nat} {v : Nat × (Nat → Nat)}, KI K → lnL T n p f hi s K = .inr v → s ≤ v.1 ∧ KI v.2 ∧ (∀ j, (j < 614 + 44 * p ∨ 658 + 44 * p ≤ j) → v.2 j = K j)
  | 0, hi, s, K, v, hK, h => by cases h; exact ⟨Nat.le_refl _, hK, fun j _ => rfl⟩
  | f + 1, hi, s, K, v, hK, h => by
    have h0 : (if isD T n s = true then bnd (linC T n s p hi K) (fun _ => lnL T n p f (hi + 1) (sN T n s) (linQ K p hi (lnM T n s) T s (lnM T n s))) else .inr (s, K)) = .inr v := h
    by_cases q : isD T n s = true
    · rw [if_pos q] at h0
      obtain ⟨_, h1, h2⟩ := bnd_in h0
      have l := linC_in h1
      have out : ∀ j, (j < 614 + 44 * p ∨ 658 + 44 * p ≤ j) → linQ K p hi (lnM T n s) T s (lnM T n s) j = K j := fun j hj => by
        unfold linQ; rw [if_neg (by omega), if_neg (by omega), if_neg (by omega)]
      have hK1 : KI (linQ K p hi (lnM T n s) T s (lnM T n s)) := by
        refine hK.of2 (fun j hj _ _ => out j (by omega)) (by rw [out 5 (by omega)]; exact hK.1.2.2.2.2.2.2.1) (fun p2 hp2 => ?_)
        have z := hK.2.2.2.2.2.2.2.2 p2 hp2
        by_cases e : p2 = p
        · subst e
          unfold linQ
          refine ⟨by rw [if_pos rfl]; exact l.1, by rw [if_neg (by omega), if_pos rfl]; omega, fun j hj => ?_⟩
          rw [if_neg (by omega), if_neg (by omega)]
          split
          · rename_i w
            have l4 := l.2.2.2 (616 + 44 * p2 + j - (616 + 44 * p2 + 7 * hi)) (by omega)
            omega
          · exact z.2.2 j hj
        · rw [out _ (by omega), out _ (by omega)]
          exact ⟨z.1, z.2.1, fun j hj => by rw [out _ (by omega)]; exact z.2.2 j hj⟩
      have ih := lnL_in hp (f := f) (hi := hi + 1) hK1 h2
      have g := sN_ge (T := T) (n := n) (s := s)
      exact ⟨by omega, ih.2.1, fun j hj => by rw [ih.2.2 j hj, out j hj]⟩
    · rw [if_neg q] at h0; cases h0; exact ⟨Nat.le_refl _, hK, fun j _ => rfl⟩
theorem KD.up {K : Nat → Nat} {f4 : Int} (hK : KD K f4) {i v : Nat} (hi : i = 3 ∧ v ≤ 99 ∨ i = 4 ∧ v ≤ 99 ∨ (19 ≤ i ∧ i < 25 ∧ v ≤ 99) ∨ (25 ≤ i ∧ i < 74 ∧ v ≤ 6)) : KD (upN K i v) f4 := by
  have k0 := hK.1.1
  have ge : ∀ j, 74 ≤ j → upN K i v j = K j := fun j hj => up_ne (by omega)
  refine ⟨hK.1.of3 (fun j h1 h2 h3 h4 h5 => up_ne (by omega)) ?_ (fun c hc => ?_) (fun j hj => ?_) (fun j h1 _ => ge j h1) (fun p hp => ?_), fun j hj => ?_, fun q j hj => ?_, fun p hp q => ?_⟩
  · unfold upN
    refine ⟨?_, ?_, ?_, ?_⟩
    · split <;> omega
    · split <;> omega
    · rw [if_neg (by omega)]; omega
    · rw [if_neg (by omega)]; omega
  · have := hK.1.2.2.1 c hc
    unfold upN; split
    · omega
    · exact this
  · have := hK.1.2.2.2.1 j hj
    unfold upN; split
    · omega
    · exact this
  · have z := hK.1.2.2.2.2.2.2.2.2 p hp
    rw [ge _ (by omega), ge _ (by omega)]
    exact ⟨z.1, z.2.1, fun j hj => by rw [ge _ (by omega)]; exact z.2.2 j hj⟩
  · rw [ge _ (by omega), ge _ (by omega)]; exact hK.2.1 j hj
  · rw [ge _ (by omega)]; exact hK.2.2.1 q j hj
  · rw [up_ne (by omega)] at q
    rw [ge _ (by omega), ge _ (by omega)]; exact hK.2.2.2 p hp q
def F01 (f1 f2 f3 f4 : Int) : Prop := (f1 = 0 ∨ f1 = 1) ∧ (f2 = 0 ∨ f2 = 1) ∧ (f3 = 0 ∨ f3 = 1) ∧ (f4 = 0 ∨ f4 = 1)
theorem stm_in {T : Nat → Int} {n s : Nat} {K : Nat → Nat} {f1 f2 f3 f4 : Int} {v : Nat × (Nat → Nat) × Int × Int × Int × Int} (hK : KD K f4) (hf : F01 f1 f2 f3 f4) (h : stmP T n s K f1 f2 f3 f4 = .inr v) : s ≤ v.1 ∧ KD v.2.1 v.2.2.2.2.2 ∧ F01 v.2.2.1 v.2.2.2.1 v.2.2.2.2.1 v.2.2.2.2.2 := by
  have k0 := hK.1.1
  have g := sN_ge (T := T) (n := n) (s := s)
  obtain ⟨a1, a2, a3, a4⟩ := hf
  unfold stmP at h
  by_cases z1 : wd T n 1 s = true
  · rw [if_pos z1] at h
    obtain ⟨w, h1, h2⟩ := bnd_in h
    cases h2
    unfold reaP at h1
    obtain ⟨_, h3, h4⟩ := bnd_in h1
    have c := chk_in h3
    rw [decide_eq_false_iff_not] at c
    have r := rea_in (by omega) hK.1.2.1 h4
    have sp := hK.2.2.1 (by omega)
    refine ⟨by have := r.1; show s ≤ w.1; omega, ⟨hK.1.rea r.2.1 r.2.2 (fun i hi => ⟨(hK.2.1 i hi).1, (hK.2.1 i hi).2, sp i hi⟩), fun i hi => ?_, fun q i hi => ?_, fun p hp q => ?_⟩, Or.inr rfl, a2, a3, a4⟩
    · show w.2 _ = 0 ∧ w.2 _ = 0
      rw [r.2.1 _ (by omega), r.2.1 _ (by omega)]; exact hK.2.1 i hi
    · show w.2 _ = 0
      rw [r.2.1 _ (by omega)]; exact sp i hi
    · have q2 : w.2 5 ≤ p := q
      show w.2 _ = 0 ∧ w.2 _ = 0
      rw [r.2.1 _ (by omega)] at q2
      rw [r.2.1 _ (by omega), r.2.1 _ (by omega)]; exact hK.2.2.2 p hp q2
  rw [if_neg z1] at h
  by_cases z2 : wd T n 2 s = true
  · rw [if_pos z2] at h
    obtain ⟨_, _, h⟩ := bnd_in h
    obtain ⟨w, h1, h2⟩ := bnd_in h
    cases h2
    have n1 := num_in h1
    exact ⟨by show s ≤ w.2; omega, hK.up (Or.inl ⟨rfl, by omega⟩), a1, Or.inr rfl, a3, a4⟩
  rw [if_neg z2] at h
  by_cases z3 : wd T n 3 s = true
  · rw [if_pos z3] at h
    obtain ⟨_, _, h⟩ := bnd_in h
    obtain ⟨w, h1, h2⟩ := bnd_in h
    cases h2
    have n1 := num_in h1
    exact ⟨by show s ≤ w.2; omega, hK.up (Or.inr (Or.inl ⟨rfl, by omega⟩)), a1, a2, Or.inr rfl, a4⟩
  rw [if_neg z3] at h
  by_cases z4 : wd T n 4 s = true
  · rw [if_pos z4] at h
    obtain ⟨c, h1, h⟩ := bnd_in h
    obtain ⟨w, h2, h3⟩ := bnd_in h
    cases h3
    have n1 := num_in h1
    have n2 := num_in h2
    exact ⟨by show s ≤ w.2; omega, hK.up (Or.inr (Or.inr (Or.inl ⟨by omega, by omega, by omega⟩))), a1, a2, a3, a4⟩
  rw [if_neg z4] at h
  by_cases z5 : wd T n 5 s = true
  · rw [if_pos z5] at h
    obtain ⟨w, h1, h2⟩ := bnd_in h
    cases h2
    unfold mixP at h1
    obtain ⟨a, m1, h1⟩ := bnd_in h1
    obtain ⟨c, m2, h1⟩ := bnd_in h1
    obtain ⟨_, _, h1⟩ := bnd_in h1
    obtain ⟨_, _, h1⟩ := bnd_in h1
    obtain ⟨m, m3, h1⟩ := bnd_in h1
    cases h1
    have n1 := num_in m1
    have n2 := num_in m2
    have n3 := num_in m3
    refine ⟨by show s ≤ m.2; omega, ?_, a1, a2, a3, a4⟩
    show KD (telM K a.1.toNat c.1.toNat m.1.toNat) f4
    unfold telM
    exact (hK.up (Or.inr (Or.inr (Or.inr ⟨by omega, by omega, by omega⟩)))).up (Or.inr (Or.inr (Or.inr ⟨by omega, by omega, by omega⟩)))
  rw [if_neg z5] at h
  by_cases z6 : wd T n 6 s = true
  · rw [if_pos z6] at h
    obtain ⟨w, h1, h2⟩ := bnd_in h
    cases h2
    unfold sprP at h1
    obtain ⟨t, m0, h1⟩ := bnd_in h1
    obtain ⟨x, m1, h1⟩ := bnd_in h1
    obtain ⟨y, m2, h1⟩ := bnd_in h1
    obtain ⟨l, m3, h1⟩ := bnd_in h1
    cases h1
    have n1 := num_in m1
    have n2 := num_in m2
    have n3 := num_in m3
    have n0 : sN T n s ≤ t := by
      by_cases q : wd T n 7 (sN T n s) = true
      · rw [if_pos q] at m0; cases m0; exact sN_ge
      · rw [if_neg q] at m0; unfold wrdP at m0
        by_cases q2 : wd T n 8 (sN T n s) = true
        · rw [if_pos q2] at m0; cases m0; exact sN_ge
        · rw [if_neg q2] at m0; cases m0
    refine ⟨by show s ≤ l.2; omega, ⟨hK.1.spL _, fun i hi => ?_, fun q => absurd rfl q, fun p hp q => ?_⟩, a1, a2, a3, Or.inr rfl⟩
    · show spL K _ _ _ _ _ = 0 ∧ spL K _ _ _ _ _ = 0
      rw [spL_lo (by omega), spL_lo (by omega)]; exact hK.2.1 i hi
    · have q2 : spL K (wd T n 7 (sN T n s)) x.1.toNat y.1.toNat l.1.toNat 5 ≤ p := q
      rw [spL_lo (by omega)] at q2
      show spL K _ _ _ _ _ = 0 ∧ spL K _ _ _ _ _ = 0
      rw [spL_hi hK.1 (by omega), spL_hi hK.1 (by omega)]; exact hK.2.2.2 p hp q2
  rw [if_neg z6] at h
  by_cases z9 : wd T n 9 s = true
  · rw [if_pos z9] at h
    obtain ⟨w, h1, h2⟩ := bnd_in h
    cases h2
    unfold patP at h1
    obtain ⟨_, m0, h1⟩ := bnd_in h1
    obtain ⟨_, _, h1⟩ := bnd_in h1
    have c := chk_in m0
    rw [decide_eq_false_iff_not] at c
    have hK1 : KI (upN K 5 (K 5 + 1)) := hK.1.of2 (fun j _ _ h5 => up_ne h5) (by unfold upN; rw [if_pos rfl]; omega) (fun p hp => by
      have z := hK.1.2.2.2.2.2.2.2.2 p hp
      rw [up_ne (by omega), up_ne (by omega)]
      exact ⟨z.1, z.2.1, fun j hj => by rw [up_ne (by omega)]; exact z.2.2 j hj⟩)
    have l := lnL_in (by omega) hK1 h1
    have ot : ∀ j, j ≠ 5 → (j < 614 + 44 * K 5 ∨ 658 + 44 * K 5 ≤ j) → w.2 j = K j := fun j h5 hj => by rw [l.2.2 j hj, up_ne h5]
    refine ⟨by have := l.1; show s ≤ w.1; omega, ⟨l.2.1, fun i hi => ?_, fun q i hi => ?_, fun p hp q => ?_⟩, a1, a2, a3, a4⟩
    · show w.2 _ = 0 ∧ w.2 _ = 0
      rw [ot _ (by omega) (by omega), ot _ (by omega) (by omega)]; exact hK.2.1 i hi
    · show w.2 _ = 0
      rw [ot _ (by omega) (by omega)]; exact hK.2.2.1 q i hi
    · have q2 : w.2 5 ≤ p := q
      rw [l.2.2 5 (by omega)] at q2
      unfold upN at q2
      rw [if_pos rfl] at q2
      show w.2 _ = 0 ∧ w.2 _ = 0
      rw [ot _ (by omega) (by omega), ot _ (by omega) (by omega)]; exact hK.2.2.2 p hp (by omega)
  rw [if_neg z9] at h
  cases h
theorem sem_in {T : Nat → Int} {n s t : Nat} (h : semP T n s = .inr t) : s + 1 ≤ t := by
  unfold semP at h
  by_cases q : kd T n s = 3
  · rw [if_pos q] at h
    cases h
    have e : tE T n s = s + 1 := by
      unfold kd at q
      unfold tE
      by_cases q1 : n ≤ s
      · rw [if_pos q1] at q; omega
      · rw [if_neg q1] at q ⊢
        by_cases q2 : cD T s = true
        · rw [if_pos q2] at q; omega
        · rw [if_neg q2] at q ⊢
          by_cases q3 : cL T s = true
          · rw [if_pos q3] at q; omega
          · rw [if_neg q3]
    have := rn_ge (c := cB T) (n := n) (p := tE T n s)
    unfold sN sk; omega
  · rw [if_neg q] at h; cases h
theorem wrd_in {T : Nat → Int} {n j s t : Nat} (h : wrdP T n j s = .inr t) : s ≤ t := by
  unfold wrdP at h
  by_cases q : wd T n j s = true
  · rw [if_pos q] at h; cases h; exact sN_ge
  · rw [if_neg q] at h; cases h
theorem KD.fresh {w t : Nat} (hw : 1 ≤ w ∧ w ≤ 15 ∧ w % 2 = 1) (ht : 1 ≤ t ∧ t ≤ 12) : KD (freshK w t) 0 := by
  have f0 : freshK w t 0 = w := rfl
  have hi : ∀ j, 25 ≤ j → freshK w t j = 0 := fun j hj => by
    unfold freshK; rw [if_neg (by omega), if_neg (by omega), if_neg (by omega), if_neg (by omega), if_neg (by omega), if_neg (by omega)]
  refine ⟨⟨?_, fun y hy => ?_, fun c hc => ?_, fun i _ => by rw [hi _ (by omega)]; omega, fun i _ => by rw [hi _ (by omega)]; omega, fun i _ => by rw [hi _ (by omega)]; omega, fun i _ => by rw [hi _ (by omega)]; omega, fun i _ => Or.inr ⟨hi _ (by omega), hi _ (by omega), hi _ (by omega)⟩, fun p _ => ⟨by rw [hi _ (by omega)]; omega, by rw [hi _ (by omega)]; omega, fun j _ => by rw [hi _ (by omega)]; omega⟩⟩, fun i _ => ⟨hi _ (by omega), hi _ (by omega)⟩, fun _ i _ => hi _ (by omega), fun p _ _ => ⟨hi _ (by omega), hi _ (by omega)⟩⟩
  · refine ⟨hw.2.2, hw.2.1, ht.1, ht.2, ?_, ?_, ?_, rfl⟩ <;> simp [freshK]
  · unfold freshK; rw [if_neg (by omega), if_neg (by omega), if_neg (by omega), if_neg (by omega), if_pos (by omega), if_pos rfl]; exact Nat.le_refl _
  · unfold freshK; rw [if_neg (by omega), if_neg (by omega), if_neg (by omega), if_neg (by omega), if_neg (by omega)]; split <;> omega
theorem kit_in {T : Nat → Int} {n s : Nat} {v : Nat × (Nat → Nat)} (h : kitP T n s = .inr v) : s ≤ v.1 ∧ KD v.2 0 := by
  unfold kitP at h
  obtain ⟨s1, h1, h⟩ := bnd_in h
  obtain ⟨w, h2, h⟩ := bnd_in h
  obtain ⟨_, h3, h⟩ := bnd_in h
  obtain ⟨t, h4, h⟩ := bnd_in h
  obtain ⟨s3, h5, h⟩ := bnd_in h
  cases h
  have a1 := wrd_in h1
  have a2 := num_in h2
  have a3 := chk_in h3
  rw [decide_eq_false_iff_not] at a3
  have a4 := num_in h4
  have a5 := sem_in h5
  exact ⟨by show s ≤ s3; omega, KD.fresh (by omega) (by omega)⟩
/-- the statements up to the end, at most f -/
def lpP (T : Nat → Int) (n : Nat) : Nat → Nat → (Nat → Nat) → Int → Int → Int → Int → (Int × Int) ⊕ (Nat → Nat)
  | 0, _, K, _, _, _, _ => .inr K
  | f + 1, s, K, f1, f2, f3, f4 => if n ≤ s then .inr K else bnd (stmP T n s K f1 f2 f3 f4) (fun v => bnd (semP T n v.1) (fun t => lpP T n f t v.2.1 v.2.2.1 v.2.2.2.1 v.2.2.2.2.1 v.2.2.2.2.2))
def setP (T : Nat → Int) (n : Nat) : (Int × Int) ⊕ (Nat → Nat) := bnd (kitP T n (sk T n 0)) (fun v => lpP T n n v.1 v.2 0 0 0 0)
theorem lp_in {T : Nat → Int} {n : Nat} : ∀ {f s : Nat} {K K1 : Nat → Nat} {f1 f2 f3 f4 : Int}, KD K f4 → F01 f1 f2 f3 f4 → lpP T n f s K f1 f2 f3 f4 = .inr K1 → KI K1
  | 0, s, K, K1, f1, f2, f3, f4, hK, hf, h => by cases h; exact hK.1
  | f + 1, s, K, K1, f1, f2, f3, f4, hK, hf, h => by
    have h0 : (if n ≤ s then .inr K else bnd (stmP T n s K f1 f2 f3 f4) (fun v => bnd (semP T n v.1) (fun t => lpP T n f t v.2.1 v.2.2.1 v.2.2.2.1 v.2.2.2.2.1 v.2.2.2.2.2))) = .inr K1 := h
    by_cases q : n ≤ s
    · rw [if_pos q] at h0; cases h0; exact hK.1
    · rw [if_neg q] at h0
      obtain ⟨v, h1, h2⟩ := bnd_in h0
      obtain ⟨t, h3, h4⟩ := bnd_in h2
      have i := stm_in hK hf h1
      exact lp_in (f := f) i.2.1 i.2.2 h4
theorem set_in {T : Nat → Int} {n : Nat} {K1 : Nat → Nat} (h : setP T n = .inr K1) : KI K1 := by
  unfold setP at h
  obtain ⟨v, h1, h2⟩ := bnd_in h
  exact lp_in (kit_in h1).2 ⟨Or.inl rfl, Or.inl rfl, Or.inl rfl, Or.inl rfl⟩ h2
