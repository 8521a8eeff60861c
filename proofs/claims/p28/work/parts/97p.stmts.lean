/-! READING what was written: statements -/
theorem rd_kite {f : Nat → Nat} (h0 : 1 ≤ f 0 ∧ f 0 ≤ 15 ∧ f 0 % 2 = 1) (h1 : 1 ≤ f 1 ∧ f 1 ≤ 12) : RDs (smL 0 f 2) (freshK (f 0) (f 1)) 0 0 0 0 := by
  intro T n hn hA hx
  have hf : ∀ i, i < 2 → f i < 100 := fun i hi => by
    have : i = 0 ∨ i = 1 := by omega
    rcases this with rfl | rfl <;> omega
  obtain ⟨w1, w2, w3, w4⟩ := smL_ok (n := n) (j := 0) (by decide) (by decide) hf hA (by omega)
  have hl := smL_hd (j := 0) (f := f) (N := 2) (by decide)
  have he := smL_end (j := 0) (f := f) (N := 2)
  have hk : kitP T n 0 = .inr ((smL 0 f 2).length, freshK (f 0) (f 1)) := by
    unfold kitP wrdP
    rw [if_pos w1, w3]
    show bnd (numP T n 1 15 (nP (0 + LN 0) f 2 0)) _ = _
    rw [w2.num (by decide) (by omega)]
    show bnd (chk (decide ((f 0 : Int) % 2 = 0)) (-3) _) _ = _
    rw [chk_ff (decide_eq_false (by omega))]
    show bnd (numP T n 1 12 (nP (0 + LN 0) f 2 1)) _ = _
    rw [w2.num (by decide) (by omega)]
    show bnd (semP T n (nP (0 + LN 0) f 2 2)) _ = _
    rw [w4, sem_ok (by omega) (by rw [hA _ (by omega), he]) (fun q => by rw [show 0 + ((smL 0 f 2).length - 1) + 1 = (smL 0 f 2).length by omega] at q ⊢; exact hx q)]
    show (.inr (0 + ((smL 0 f 2).length - 1) + 1, freshK (f 0 : Int).toNat (f 1 : Int).toNat) : (Int × Int) ⊕ (Nat × (Nat → Nat))) = _
    rw [Int.toNat_natCast, Int.toNat_natCast, show 0 + ((smL 0 f 2).length - 1) + 1 = (smL 0 f 2).length by omega]
  refine ⟨n, by omega, ?_⟩
  unfold setP
  have h9 := hA 0 (by omega)
  rw [Nat.zero_add] at h9
  rw [sk_no (Nat.zero_le _) (fun _ => by rw [h9]; exact hl.2), hk]
  rfl
def reaK (K : Nat → Nat) (f : Nat → Nat) : Nat → (Nat → Nat)
  | 0 => K
  | y + 1 => upN (reaK K f y) (6 + y) (f y)
theorem reaK_lo {K f : Nat → Nat} {j : Nat} (hj : j < 6) : ∀ N, reaK K f N j = K j
  | 0 => rfl
  | N + 1 => by
    show upN _ _ _ j = _
    rw [up_ne (by omega)]
    exact reaK_lo hj N
theorem rea_ok {T : Nat → Int} {n e N : Nat} {f K : Nat → Nat} (h : NX T n e f N) (hf : ∀ i, i < N → f i ≤ K 0 / 2) : ∀ (k y : Nat), y + k = N → reaL T n k y (nP e f N y) (reaK K f y) = .inr (nP e f N N, reaK K f N)
  | 0, y, hy => by
    obtain rfl : y = N := by omega
    rfl
  | k + 1, y, hy => by
    have h1 := hf y (by omega)
    show bnd (numP T n 0 ((reaK K f y 0 / 2 : Nat) : Int) (nP e f N y)) _ = _
    rw [h.num (by omega) (by rw [reaK_lo (by omega)]; omega)]
    have := rea_ok h hf k (y + 1) (by omega)
    show reaL T n k (y + 1) (nP e f N (y + 1)) (upN (reaK K f y) (6 + y) (f y : Int).toNat) = _
    rw [Int.toNat_natCast]
    exact this
theorem rd_reach {xs : List Int} {K f : Nat → Nat} {f1 f2 f3 f4 : Int} (h : RDs xs K f1 f2 f3 f4) (h1 : f1 ≠ 1) (h4 : f4 ≠ 1) (hN : 1 ≤ K 1) (hf : ∀ i, i < K 1 → f i ≤ K 0 / 2) (hw : K 0 / 2 < 100) : RDs (xs ++ smL 1 f (K 1)) (reaK K f (K 1)) 1 f2 f3 f4 := by
  have hl := smL_hd (j := 1) (f := f) (N := K 1) (by decide)
  refine h.step hl.1 hl.2 smL_end (fun T n hA hn => ?_)
  obtain ⟨w1, w2, w3, w4⟩ := smL_ok (j := 1) (by decide) hN (fun i hi => by have := hf i hi; omega) hA hn
  unfold stmP
  rw [if_pos w1]
  unfold reaP
  rw [chk_ff (decide_eq_false (by omega))]
  show bnd (reaL T n (K 1) 0 (sN T n xs.length) K) _ = _
  have := rea_ok w2 hf (K 1) 0 (by omega)
  rw [w3]
  rw [show reaL T n (K 1) 0 (nP (xs.length + LN 1) f (K 1) 0) K = .inr (nP (xs.length + LN 1) f (K 1) (K 1), reaK K f (K 1)) from this, w4]
  rfl

theorem rd_cloth {xs : List Int} {K f : Nat → Nat} {f1 f2 f3 f4 : Int} (h : RDs xs K f1 f2 f3 f4) (h2 : f2 ≠ 1) (h0 : f 0 ≤ 99) : RDs (xs ++ smL 2 f 1) (upN K 3 (f 0)) f1 1 f3 f4 := by
  have hl := smL_hd (j := 2) (f := f) (N := 1) (by decide)
  refine h.step hl.1 hl.2 smL_end (fun T n hA hn => ?_)
  have hf : ∀ i, i < 1 → f i < 100 := fun i hi => by
    obtain rfl : i = 0 := by omega
    omega
  obtain ⟨w1, w2, w3, w4⟩ := smL_ok (j := 2) (by decide) (by decide) hf hA hn
  unfold stmP
  rw [if_neg (wd_no (by decide) (by decide) (by decide) w1), if_pos w1]
  rw [chk_ff (decide_eq_false (by omega))]
  show bnd (numP T n 0 99 (sN T n xs.length)) _ = _
  rw [w3, w2.num (by decide) (by omega)]
  show (.inr (nP (xs.length + LN 2) f 1 1, upN K 3 (f 0 : Int).toNat, f1, 1, f3, f4) : (Int × Int) ⊕ (Nat × (Nat → Nat) × Int × Int × Int × Int)) = _
  rw [w4, Int.toNat_natCast]
theorem rd_wood {xs : List Int} {K f : Nat → Nat} {f1 f2 f3 f4 : Int} (h : RDs xs K f1 f2 f3 f4) (h2 : f3 ≠ 1) (h0 : f 0 ≤ 99) : RDs (xs ++ smL 3 f 1) (upN K 4 (f 0)) f1 f2 1 f4 := by
  have hl := smL_hd (j := 3) (f := f) (N := 1) (by decide)
  refine h.step hl.1 hl.2 smL_end (fun T n hA hn => ?_)
  have hf : ∀ i, i < 1 → f i < 100 := fun i hi => by
    obtain rfl : i = 0 := by omega
    omega
  obtain ⟨w1, w2, w3, w4⟩ := smL_ok (j := 3) (by decide) (by decide) hf hA hn
  unfold stmP
  rw [if_neg (wd_no (by decide) (by decide) (by decide) w1), if_neg (wd_no (by decide) (by decide) (by decide) w1), if_pos w1]
  rw [chk_ff (decide_eq_false (by omega))]
  show bnd (numP T n 0 99 (sN T n xs.length)) _ = _
  rw [w3, w2.num (by decide) (by omega)]
  show (.inr (nP (xs.length + LN 3) f 1 1, upN K 4 (f 0 : Int).toNat, f1, f2, 1, f4) : (Int × Int) ⊕ (Nat × (Nat → Nat) × Int × Int × Int × Int)) = _
  rw [w4, Int.toNat_natCast]
theorem rd_colour {xs : List Int} {K f : Nat → Nat} {f1 f2 f3 f4 : Int} (h : RDs xs K f1 f2 f3 f4) (h0 : 1 ≤ f 0 ∧ f 0 ≤ 6) (h1 : f 1 ≤ 99) : RDs (xs ++ smL 4 f 2) (upN K (18 + f 0) (f 1)) f1 f2 f3 f4 := by
  have hl := smL_hd (j := 4) (f := f) (N := 2) (by decide)
  refine h.step hl.1 hl.2 smL_end (fun T n hA hn => ?_)
  have hf : ∀ i, i < 2 → f i < 100 := fun i hi => by
    have : i = 0 ∨ i = 1 := by omega
    rcases this with rfl | rfl <;> omega
  obtain ⟨w1, w2, w3, w4⟩ := smL_ok (j := 4) (by decide) (by decide) hf hA hn
  unfold stmP
  rw [if_neg (wd_no (by decide) (by decide) (by decide) w1), if_neg (wd_no (by decide) (by decide) (by decide) w1), if_neg (wd_no (by decide) (by decide) (by decide) w1), if_pos w1]
  rw [w3, w2.num (by decide) (by omega)]
  show bnd (numP T n 0 99 (nP (xs.length + LN 4) f 2 1)) _ = _
  rw [w2.num (by decide) (by omega)]
  show (.inr (nP (xs.length + LN 4) f 2 2, upN K (18 + (f 0 : Int).toNat) (f 1 : Int).toNat, f1, f2, f3, f4) : (Int × Int) ⊕ (Nat × (Nat → Nat) × Int × Int × Int × Int)) = _
  rw [w4, Int.toNat_natCast, Int.toNat_natCast]
theorem rd_mix {xs : List Int} {K f : Nat → Nat} {f1 f2 f3 f4 : Int} (h : RDs xs K f1 f2 f3 f4) (h0 : 1 ≤ f 0 ∧ f 0 ≤ 6) (h1 : 1 ≤ f 1 ∧ f 1 ≤ 6) (h2 : 1 ≤ f 2 ∧ f 2 ≤ 6) (hne : f 0 ≠ f 1) (h9 : K (25 + (f 0 * 7 + f 1)) = 0) : RDs (xs ++ smL 5 f 3) (telM K (f 0) (f 1) (f 2)) f1 f2 f3 f4 := by
  have hl := smL_hd (j := 5) (f := f) (N := 3) (by decide)
  refine h.step hl.1 hl.2 smL_end (fun T n hA hn => ?_)
  have hf : ∀ i, i < 3 → f i < 100 := fun i hi => by
    have : i = 0 ∨ i = 1 ∨ i = 2 := by omega
    rcases this with rfl | rfl | rfl <;> omega
  obtain ⟨w1, w2, w3, w4⟩ := smL_ok (j := 5) (by decide) (by decide) hf hA hn
  unfold stmP
  rw [if_neg (wd_no (by decide) (by decide) (by decide) w1), if_neg (wd_no (by decide) (by decide) (by decide) w1), if_neg (wd_no (by decide) (by decide) (by decide) w1), if_neg (wd_no (by decide) (by decide) (by decide) w1), if_pos w1]
  unfold mixP
  rw [w3, w2.num (by decide) (by omega)]
  show bnd (bnd (numP T n 1 6 (nP (xs.length + LN 5) f 3 1)) _) _ = _
  rw [w2.num (by decide) (by omega)]
  show bnd (bnd (chk (decide ((f 0 : Int) = (f 1 : Int))) (-3) _) _) _ = _
  rw [chk_ff (decide_eq_false (by omega))]
  show bnd (bnd (chk (decide (K (25 + ((f 0 : Int).toNat * 7 + (f 1 : Int).toNat)) ≠ 0)) (-4) _) _) _ = _
  rw [chk_ff (decide_eq_false (by rw [Int.toNat_natCast, Int.toNat_natCast]; omega))]
  show bnd (bnd (numP T n 1 6 (nP (xs.length + LN 5) f 3 2)) _) _ = _
  rw [w2.num (by decide) (by omega)]
  show (.inr (nP (xs.length + LN 5) f 3 3, telM K (f 0 : Int).toNat (f 1 : Int).toNat (f 2 : Int).toNat, f1, f2, f3, f4) : (Int × Int) ⊕ (Nat × (Nat → Nat) × Int × Int × Int × Int)) = _
  rw [w4, Int.toNat_natCast, Int.toNat_natCast, Int.toNat_natCast]
/-- spars -/
def spT (dn : Bool) (f : Nat → Nat) : List Int := litL (if dn = true then 21 else 22) ++ (numL f 3 ++ [59])
theorem lit21 : litL 21 = litL 6 ++ (32 :: litL 7) := by decide +kernel
theorem lit22 : litL 22 = litL 6 ++ (32 :: litL 8) := by decide +kernel
theorem rd_spar {xs : List Int} {K f : Nat → Nat} {f1 f2 f3 f4 : Int} (h : RDs xs K f1 f2 f3 f4) {dn : Bool} (h0 : f 0 < K 0) (h1 : f 1 < K 1) (h2 : 1 ≤ f 2 ∧ f 2 ≤ 15) (hK0 : K 0 ≤ 15) (hK1 : K 1 ≤ 12) : RDs (xs ++ spT dn f) (spL K dn (f 0) (f 1) (f 2)) f1 f2 f3 1 := by
  have hf : ∀ i, i < 3 → f i < 100 := fun i hi => by
    have : i = 0 ∨ i = 1 ∨ i = 2 := by omega
    rcases this with rfl | rfl | rfl <;> omega
  have e1 : spT dn f = litL 6 ++ (32 :: smL (if dn = true then 7 else 8) f 3) := by
    unfold spT smL
    cases dn
    · show litL 22 ++ _ = litL 6 ++ (32 :: (litL 8 ++ _))
      rw [lit22, List.append_assoc]; rfl
    · show litL 21 ++ _ = litL 6 ++ (32 :: (litL 7 ++ _))
      rw [lit21, List.append_assoc]; rfl
  have hj : (if dn = true then 7 else 8) < 10 := by split <;> decide
  have hl := smL_hd (f := f) (N := 3) hj
  have he := smL_end (j := (if dn = true then 7 else 8)) (f := f) (N := 3)
  have l6 := lit_LN 6 (by decide)
  have L6 : LN 6 = 4 := by decide
  have el : (spT dn f).length = 5 + (smL (if dn = true then 7 else 8) f 3).length := by rw [e1, List.length_append, List.length_cons, l6, L6]; omega
  refine h.step (by omega) ?_ ?_ (fun T n hA hn => ?_)
  · rw [e1, gd_l (by omega), lit_Wc 6 (by decide) 0 (by decide)]
    have := Wc_rg 6 (by decide) 0 (by decide)
    omega
  · rw [e1, show (litL 6 ++ (32 :: smL (if dn = true then 7 else 8) f 3)).length - 1 = (litL 6).length + (1 + ((smL (if dn = true then 7 else 8) f 3).length - 1)) by rw [List.length_append, List.length_cons]; omega, gd_r]
    rw [show (32 :: smL (if dn = true then 7 else 8) f 3) = [32] ++ smL (if dn = true then 7 else 8) f 3 from rfl, show 1 + ((smL (if dn = true then 7 else 8) f 3).length - 1) = ([32] : List Int).length + ((smL (if dn = true then 7 else 8) f 3).length - 1) from rfl, gd_r]
    exact he
  · rw [e1] at hA
    have hb := hA.r.hd
    have hA2 := hA.r.tl
    rw [l6] at hb hA2
    obtain ⟨v1, v2⟩ := wd_ok (n := n) (s := xs.length) (j := 6) (by decide) hA.l (by omega) (fun _ => by rw [hb]; decide)
    obtain ⟨w1, w2, w3, w4⟩ := smL_ok (n := n) hj (by decide) hf hA2 (by omega)
    have hnb : T (xs.length + LN 6 + 1) ≠ 32 := by
      have := hA2 0 (by omega)
      rw [Nat.add_zero] at this
      rw [this]; exact hl.2
    have hsN : sN T n xs.length = xs.length + LN 6 + 1 := by
      unfold sN
      rw [v2, sk_bl (by omega) hb (fun _ => hnb)]
    unfold stmP
    rw [if_neg (wd_no (by decide) (by decide) (by decide) v1), if_neg (wd_no (by decide) (by decide) (by decide) v1), if_neg (wd_no (by decide) (by decide) (by decide) v1), if_neg (wd_no (by decide) (by decide) (by decide) v1), if_neg (wd_no (by decide) (by decide) (by decide) v1), if_pos v1, hsN]
    have hwd : wd T n 7 (xs.length + LN 6 + 1) = dn := by
      cases dn
      · cases z : wd T n 7 (xs.length + LN 6 + 1) with
        | false => rfl
        | true => exact absurd z (wd_no (j := 8) (k := 7) (by decide) (by decide) (by decide) w1)
      · exact w1
    have hmid : (if wd T n 7 (xs.length + LN 6 + 1) = true then .inr (sN T n (xs.length + LN 6 + 1)) else wrdP T n 8 (xs.length + LN 6 + 1) : (Int × Int) ⊕ Nat) = .inr (nP (xs.length + LN 6 + 1 + LN (if dn = true then 7 else 8)) f 3 0) := by
      rw [hwd, w3]
      cases dn
      · show wrdP T n 8 _ = _
        unfold wrdP
        rw [if_pos (show wd T n 8 (xs.length + LN 6 + 1) = true from w1), w3]
      · rfl
    unfold sprP
    rw [hmid]
    show bnd (bnd (numP T n 0 ((K 0 : Int) - 1) (nP (xs.length + LN 6 + 1 + LN (if dn = true then 7 else 8)) f 3 0)) _) _ = _
    rw [w2.num (by decide) (by omega)]
    show bnd (bnd (numP T n 0 ((K 1 : Int) - 1) (nP (xs.length + LN 6 + 1 + LN (if dn = true then 7 else 8)) f 3 1)) _) _ = _
    rw [w2.num (by decide) (by omega)]
    show bnd (bnd (numP T n 1 15 (nP (xs.length + LN 6 + 1 + LN (if dn = true then 7 else 8)) f 3 2)) _) _ = _
    rw [w2.num (by decide) (by omega), hwd]
    show (.inr (nP (xs.length + LN 6 + 1 + LN (if dn = true then 7 else 8)) f 3 3, spL K dn (f 0 : Int).toNat (f 1 : Int).toNat (f 2 : Int).toNat, f1, f2, f3, 1) : (Int × Int) ⊕ (Nat × (Nat → Nat) × Int × Int × Int × Int)) = _
    rw [w4, Int.toNat_natCast, Int.toNat_natCast, Int.toNat_natCast, el, show xs.length + LN 6 + 1 + ((smL (if dn = true then 7 else 8) f 3).length - 1) = xs.length + (5 + (smL (if dn = true then 7 else 8) f 3).length - 1) by omega]
/-! patterns -/
def lnT (g : Nat → Nat) (wi : Nat) : List Int := (List.range wi).map (fun i => 48 + (g i : Int))
theorem lnT_len {g : Nat → Nat} {wi : Nat} : (lnT g wi).length = wi := by unfold lnT; rw [List.length_map, List.length_range]
theorem lnT_at {g : Nat → Nat} {wi i : Nat} (hi : i < wi) : gd (lnT g wi) i = 48 + (g i : Int) := by
  unfold gd lnT
  rw [List.getD_eq_getElem?_getD, List.getElem?_map, List.getElem?_range hi]
  rfl
theorem lnT_rg {g : Nat → Nat} {wi : Nat} (hg : ∀ i, i < wi → g i < 7) : ltr (lnT g wi) := fun x hx => by
  unfold lnT at hx
  obtain ⟨i, hi, rfl⟩ := List.mem_map.mp hx
  have := hg i (List.mem_range.mp hi)
  omega
def ptL (dg : Nat → Nat → Nat) (wi : Nat) : Nat → List Int
  | 0 => []
  | n + 1 => ptL dg wi n ++ (32 :: lnT (dg n) wi)
theorem ptL_len {dg : Nat → Nat → Nat} {wi : Nat} : ∀ {n : Nat}, (ptL dg wi n).length = n * (wi + 1)
  | 0 => by rw [Nat.zero_mul]; rfl
  | n + 1 => by
    show (ptL dg wi n ++ (32 :: lnT (dg n) wi)).length = _
    rw [List.length_append, List.length_cons, lnT_len, ptL_len, Nat.succ_mul]
theorem ptL_at {T : Nat → Int} {e : Nat} {dg : Nat → Nat → Nat} {wi : Nat} : ∀ {N : Nat}, At T e (ptL dg wi N) → ∀ i, i < N → T (e + i * (wi + 1)) = 32 ∧ At T (e + i * (wi + 1) + 1) (lnT (dg i) wi)
  | 0, _, i, h => absurd h (Nat.not_lt_zero _)
  | N + 1, hA, i, h => by
    have h1 : At T e (ptL dg wi N ++ (32 :: lnT (dg N) wi)) := hA
    rcases Nat.lt_or_ge i N with q | q
    · exact ptL_at h1.l i q
    · obtain rfl : i = N := by omega
      have h2 := h1.r
      rw [ptL_len] at h2
      exact ⟨h2.hd, h2.tl⟩
/-- a pattern of nl lines more -/
def patK (K : Nat → Nat) (pp wi : Nat) (dg : Nat → Nat → Nat) (nl : Nat) : Nat → Nat := fun j => if nl ≠ 0 ∧ j = 614 + 44 * pp then wi else if nl ≠ 0 ∧ j = 615 + 44 * pp then nl else if 616 + 44 * pp ≤ j ∧ (j - (616 + 44 * pp)) / 7 < nl ∧ (j - (616 + 44 * pp)) % 7 < wi then dg ((j - (616 + 44 * pp)) / 7) ((j - (616 + 44 * pp)) % 7) else if j = 5 then pp + 1 else K j
theorem pat_st {K : Nat → Nat} {pp wi hi s : Nat} {dg : Nat → Nat → Nat} {T : Nat → Int} (hpp : pp < 3) (hwi : wi ≤ 7) (h1 : 1 ≤ wi) (hT : ∀ i, i < wi → T (s + i) = 48 + (dg hi i : Int)) : linQ (patK K pp wi dg hi) pp hi wi T s wi = patK K pp wi dg (hi + 1) := by
  funext j
  unfold linQ
  by_cases a : j = 614 + 44 * pp
  · rw [if_pos a]
    unfold patK
    rw [if_pos ⟨by omega, a⟩]
  · rw [if_neg a]
    by_cases b : j = 615 + 44 * pp
    · rw [if_pos b]
      unfold patK
      rw [if_neg (fun z => a z.2), if_pos ⟨by omega, b⟩]
    · rw [if_neg b]
      unfold patK
      have nA : ∀ q : Prop, ¬ (q ∧ j = 614 + 44 * pp) := fun q z => a z.2
      have nB : ∀ q : Prop, ¬ (q ∧ j = 615 + 44 * pp) := fun q z => b z.2
      by_cases c : 616 + 44 * pp + 7 * hi ≤ j ∧ j < 616 + 44 * pp + 7 * hi + wi
      · rw [if_pos c, if_neg (nA _), if_neg (nB _)]
        have e1 : (j - (616 + 44 * pp)) / 7 = hi := by omega
        have e2 : (j - (616 + 44 * pp)) % 7 = j - (616 + 44 * pp + 7 * hi) := by omega
        rw [e1, e2, if_pos ⟨by omega, by omega, by omega⟩, hT _ (by omega)]
        omega
      · rw [if_neg c, if_neg (nA (hi ≠ 0)), if_neg (nB (hi ≠ 0)), if_neg (nA (hi + 1 ≠ 0)), if_neg (nB (hi + 1 ≠ 0))]
        by_cases q : 616 + 44 * pp ≤ j ∧ (j - (616 + 44 * pp)) / 7 < hi ∧ (j - (616 + 44 * pp)) % 7 < wi
        · rw [if_pos q, if_pos ⟨q.1, by omega, q.2.2⟩]
        · rw [if_neg q, if_neg (show ¬ (616 + 44 * pp ≤ j ∧ (j - (616 + 44 * pp)) / 7 < hi + 1 ∧ (j - (616 + 44 * pp)) % 7 < wi) from fun z => by omega)]
theorem digC_ok {T : Nat → Int} {s : Nat} : ∀ {f k : Nat}, (∀ i, k ≤ i → i < k + f → T (s + i) ≤ 54) → digC T s f k = .inr ()
  | 0, k, _ => rfl
  | f + 1, k, h => by
    show bnd (chk (decide (54 < T (s + k))) (-3) _) _ = _
    rw [chk_ff (decide_eq_false (by have := h k (by omega) (by omega); omega))]
    exact digC_ok (fun i h1 h2 => h i (by omega) (by omega))
theorem rd_pat {xs : List Int} {K : Nat → Nat} {f1 f2 f3 f4 : Int} (h : RDs xs K f1 f2 f3 f4) {dg : Nat → Nat → Nat} {wi nl : Nat} (hpp : K 5 < 3) (hwi : 1 ≤ wi ∧ wi ≤ 7) (hnl : 1 ≤ nl ∧ nl ≤ 6) (hdg : ∀ l i, l < nl → i < wi → dg l i < 7) : RDs (xs ++ (litL 9 ++ (ptL dg wi nl ++ [59]))) (patK K (K 5) wi dg nl) f1 f2 f3 f4 := by
  have l9 := lit_LN 9 (by decide)
  have L9 : LN 9 = 7 := by decide
  have el : (litL 9 ++ (ptL dg wi nl ++ [59])).length = 7 + nl * (wi + 1) + 1 := by
    rw [List.length_append, List.length_append, l9, L9, ptL_len]
    show _ + (_ + 1) = _
    omega
  refine h.step (by omega) ?_ ?_ (fun T n hA hn => ?_)
  · rw [gd_l (by omega), lit_Wc 9 (by decide) 0 (by decide)]
    have := Wc_rg 9 (by decide) 0 (by decide)
    omega
  · rw [← List.append_assoc, show ((litL 9 ++ ptL dg wi nl) ++ [(59 : Int)]).length - 1 = (litL 9 ++ ptL dg wi nl).length by rw [List.length_append]; simp, gd_n]
  · generalize hs : xs.length = s at *
    have h2 := hA.r
    rw [l9, L9] at h2
    have h3 := h2.l
    have h4 := h2.r.hd
    rw [ptL_len] at h4
    rw [el] at hn ⊢
    have hb := (ptL_at h3 0 (by omega)).1
    rw [Nat.zero_mul, Nat.add_zero] at hb
    obtain ⟨w1, w2⟩ := wd_ok (n := n) (j := 9) (s := s) (by decide) hA.l (by rw [L9]; omega) (fun _ => by rw [L9, hb]; decide)
    -- the lines
    have tok : ∀ i, i < nl → isD T n (s + 7 + i * (wi + 1) + 1) = true ∧ rn (cD T) n (s + 7 + i * (wi + 1) + 1) = s + 7 + (i + 1) * (wi + 1) ∧ ∀ k, k < wi → T (s + 7 + i * (wi + 1) + 1 + k) = 48 + (dg i k : Int) := fun i hi => by
      obtain ⟨a1, a2⟩ := ptL_at h3 i hi
      have hd : ∀ k, k < wi → T (s + 7 + i * (wi + 1) + 1 + k) = 48 + (dg i k : Int) := fun k hk => by
        rw [a2 k (by rw [lnT_len]; exact hk), lnT_at hk]
      have hm : (i + 1) * (wi + 1) ≤ nl * (wi + 1) := Nat.mul_le_mul_right _ (by omega)
      have hs1 : (i + 1) * (wi + 1) = i * (wi + 1) + (wi + 1) := Nat.succ_mul _ _
      have hr := rn_is (c := cD T) (n := n) (k := wi) (p := s + 7 + i * (wi + 1) + 1) (fun k hk => decide_eq_true (by rw [hd k hk]; have := hdg i k hi hk; omega)) (by omega) (fun q => cD_f (by
        rw [show s + 7 + i * (wi + 1) + 1 + wi = s + 7 + (i + 1) * (wi + 1) by omega]
        by_cases z : i + 1 < nl
        · rw [(ptL_at h3 (i + 1) z).1]; omega
        · obtain rfl : nl = i + 1 := by omega
          rw [h4]; omega))
      have h0 := hd 0 (by omega)
      have := hdg i 0 hi (by omega)
      exact ⟨isD_iff.mpr ⟨by omega, decide_eq_true (by rw [Nat.add_zero] at h0; rw [h0]; omega)⟩, by rw [hr]; omega, hd⟩
    have skp : ∀ i, i ≤ nl → sk T n (s + 7 + i * (wi + 1)) = if i < nl then s + 7 + i * (wi + 1) + 1 else s + 7 + nl * (wi + 1) := fun i hi => by
      have hm : i * (wi + 1) ≤ nl * (wi + 1) := Nat.mul_le_mul_right _ hi
      by_cases q : i < nl
      · rw [if_pos q]
        have hm2 : (i + 1) * (wi + 1) ≤ nl * (wi + 1) := Nat.mul_le_mul_right _ (by omega)
        rw [Nat.succ_mul] at hm2
        refine sk_bl (by omega) (ptL_at h3 i q).1 (fun _ => ?_)
        have := (tok i q).2.2 0 (by omega)
        have hx := hdg i 0 q (by omega)
        rw [Nat.add_zero] at this
        rw [this]; omega
      · rw [if_neg q]
        obtain rfl : i = nl := by omega
        exact sk_no (by omega) (fun _ => by rw [h4]; decide)
    have loop : ∀ (k i : Nat), i + k = nl → ∀ f, k ≤ f → (k = 0 → isD T n (s + 7 + nl * (wi + 1)) = false) → lnL T n (K 5) (f + 1) i (if i < nl then s + 7 + i * (wi + 1) + 1 else s + 7 + nl * (wi + 1)) (patK K (K 5) wi dg i) = .inr (s + 7 + nl * (wi + 1), patK K (K 5) wi dg nl) := by
      intro k
      induction k with
      | zero =>
        intro i hi f hf hz
        obtain rfl : i = nl := by omega
        rw [if_neg (by omega)]
        show (if isD T n _ = true then _ else _) = _
        rw [if_neg (by rw [hz rfl]; decide)]
      | succ k ih =>
        intro i hi f hf hz
        obtain ⟨t1, t2, t3⟩ := tok i (by omega)
        rw [if_pos (by omega)]
        show (if isD T n _ = true then _ else _) = _
        rw [if_pos t1]
        have hs1 : (i + 1) * (wi + 1) = i * (wi + 1) + (wi + 1) := Nat.succ_mul _ _
        have em : lnM T n (s + 7 + i * (wi + 1) + 1) = wi := by unfold lnM; rw [t2]; omega
        have d0 := t3 0 (by omega)
        rw [Nat.add_zero] at d0
        have g0 := hdg i 0 (by omega) (by omega)
        have hc : linC T n (s + 7 + i * (wi + 1) + 1) (K 5) i (patK K (K 5) wi dg i) = .inr () := by
          unfold linC lc1
          rw [em, chk_ff (decide_eq_false (by
            have : 0 < i → patK K (K 5) wi dg i (614 + 44 * K 5) = wi := fun q => if_pos ⟨by omega, rfl⟩
            intro z
            rcases z with z | z | z
            · omega
            · exact z.2 (this z.1).symm
            · omega))]
          show bnd (chk (decide (6 ≤ i)) (-5) _) _ = _
          rw [chk_ff (decide_eq_false (by omega))]
          exact digC_ok (fun q _ hq => by
            rw [t3 q (by omega)]
            have := hdg i q (by omega) (by omega)
            omega)
        rw [hc]
        show lnL T n (K 5) f (i + 1) (sN T n (s + 7 + i * (wi + 1) + 1)) (linQ _ (K 5) i (lnM T n (s + 7 + i * (wi + 1) + 1)) T (s + 7 + i * (wi + 1) + 1) (lnM T n (s + 7 + i * (wi + 1) + 1))) = _
        rw [em, pat_st hpp (by omega) (by omega) t3]
        have eN : sN T n (s + 7 + i * (wi + 1) + 1) = if i + 1 < nl then s + 7 + (i + 1) * (wi + 1) + 1 else s + 7 + nl * (wi + 1) := by
          unfold sN tE
          have hd : cD T (s + 7 + i * (wi + 1) + 1) = true := (isD_iff.mp t1).2
          rw [if_neg (by have := (isD_iff.mp t1).1; omega), if_pos hd, t2, skp (i + 1) (by omega)]
        rw [eN]
        obtain ⟨f', rfl⟩ : ∃ f', f = f' + 1 := ⟨f - 1, by omega⟩
        exact ih (i + 1) (by omega) f' (by omega) (fun q => by
          cases z : isD T n (s + 7 + nl * (wi + 1)) with
          | false => rfl
          | true => have := (isD_iff.mp z).2; rw [cD_f (by rw [h4]; omega)] at this; cases this)
    unfold stmP
    rw [if_neg (wd_no (by decide) (by decide) (by decide) w1), if_neg (wd_no (by decide) (by decide) (by decide) w1), if_neg (wd_no (by decide) (by decide) (by decide) w1), if_neg (wd_no (by decide) (by decide) (by decide) w1), if_neg (wd_no (by decide) (by decide) (by decide) w1), if_neg (wd_no (by decide) (by decide) (by decide) w1), if_pos w1]
    have hsN : sN T n s = s + 7 + 0 * (wi + 1) + 1 := by
      unfold sN
      rw [w2, L9]
      have := skp 0 (by omega)
      rw [Nat.zero_mul, Nat.add_zero] at this
      rw [this, if_pos (by omega), Nat.zero_mul, Nat.add_zero]
    have t0 := (tok 0 (by omega)).1
    unfold patP
    rw [chk_ff (decide_eq_false (by omega)), hsN]
    show bnd (bnd (chk (!isD T n (s + 7 + 0 * (wi + 1) + 1)) (-2) _) _) _ = _
    rw [t0, show (!true) = false from rfl, chk_ff rfl]
    show bnd (lnL T n (K 5) 7 0 (s + 7 + 0 * (wi + 1) + 1) (upN K 5 (K 5 + 1))) _ = _
    have ek : upN K 5 (K 5 + 1) = patK K (K 5) wi dg 0 := by
      funext j
      unfold upN patK
      rw [if_neg (show ¬ ((0 : Nat) ≠ 0 ∧ j = 614 + 44 * K 5) from fun z => z.1 rfl), if_neg (show ¬ ((0 : Nat) ≠ 0 ∧ j = 615 + 44 * K 5) from fun z => z.1 rfl), if_neg (show ¬ (616 + 44 * K 5 ≤ j ∧ (j - (616 + 44 * K 5)) / 7 < 0 ∧ (j - (616 + 44 * K 5)) % 7 < wi) from fun z => absurd z.2.1 (Nat.not_lt_zero _))]
    have := loop nl 0 (by omega) 6 (by omega) (fun q => by omega)
    rw [if_pos (by omega)] at this
    rw [ek, this]
    show (.inr (s + 7 + nl * (wi + 1), _) : (Int × Int) ⊕ (Nat × (Nat → Nat) × Int × Int × Int × Int)) = _
    rw [show s + (7 + nl * (wi + 1) + 1 - 1) = s + 7 + nl * (wi + 1) by omega]

