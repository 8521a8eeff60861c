/-! WRITING: words of four letters -/
theorem or_add {a b : Nat} (k : Nat) (ha : a % 2 ^ k = 0) (hb : b < 2 ^ k) (hab : a + b < 2147483648) : I (a : Int) ||| I (b : Int) = I ((a + b : Nat) : Int) := by
  rw [← I_nat, ← I_nat, ← I_nat]
  apply Int32.toBitVec_inj.mp
  show BitVec.ofNat 32 a ||| BitVec.ofNat 32 b = BitVec.ofNat 32 (a + b)
  apply BitVec.eq_of_toNat_eq
  rw [BitVec.toNat_or, BitVec.toNat_ofNat, BitVec.toNat_ofNat, BitVec.toNat_ofNat, Nat.mod_eq_of_lt (by omega), Nat.mod_eq_of_lt (by omega), Nat.mod_eq_of_lt (by omega)]
  have e : a = (a / 2 ^ k) <<< k := by
    rw [Nat.shiftLeft_eq]
    have := Nat.div_add_mod a (2 ^ k)
    rw [ha, Nat.add_zero, Nat.mul_comm] at this
    exact this.symm
  have h := Nat.shiftLeft_add_eq_or_of_lt hb (a / 2 ^ k)
  rw [← e] at h
  exact h.symm
theorem shl_I {c s : Nat} (hs : s = 24 ∨ s = 16 ∨ s = 8 ∨ s = 0) (hc : c * 2 ^ s < 2147483648) : I (c : Int) <<< (I (s : Int) &&& 31) = I ((c * 2 ^ s : Nat) : Int) := by
  have hc2 : c < 4294967296 := by
    have : 1 ≤ 2 ^ s := Nat.one_le_two_pow
    have := Nat.le_mul_of_pos_right c (show 0 < 2 ^ s by omega)
    omega
  rw [← I_nat c, ← I_nat (c * 2 ^ s)]
  apply Int32.toBitVec_inj.mp
  rcases hs with rfl | rfl | rfl | rfl
  · show BitVec.ofNat 32 c <<< ((I ((24 : Nat) : Int) &&& 31).toBitVec.smod 32) = BitVec.ofNat 32 (c * 2 ^ 24)
    rw [show ((I ((24 : Nat) : Int) &&& 31).toBitVec.smod 32) = 24#32 by decide]
    apply BitVec.eq_of_toNat_eq
    rw [BitVec.shiftLeft_eq', BitVec.toNat_shiftLeft, BitVec.toNat_ofNat, BitVec.toNat_ofNat, Nat.mod_eq_of_lt hc2]
    rw [show (24 % 2 ^ 32 : Nat) = 24 by decide, Nat.shiftLeft_eq, BitVec.toNat_ofNat]
  · show BitVec.ofNat 32 c <<< ((I ((16 : Nat) : Int) &&& 31).toBitVec.smod 32) = BitVec.ofNat 32 (c * 2 ^ 16)
    rw [show ((I ((16 : Nat) : Int) &&& 31).toBitVec.smod 32) = 16#32 by decide]
    apply BitVec.eq_of_toNat_eq
    rw [BitVec.shiftLeft_eq', BitVec.toNat_shiftLeft, BitVec.toNat_ofNat, BitVec.toNat_ofNat, Nat.mod_eq_of_lt hc2]
    rw [show (16 % 2 ^ 32 : Nat) = 16 by decide, Nat.shiftLeft_eq, BitVec.toNat_ofNat]
  · show BitVec.ofNat 32 c <<< ((I ((8 : Nat) : Int) &&& 31).toBitVec.smod 32) = BitVec.ofNat 32 (c * 2 ^ 8)
    rw [show ((I ((8 : Nat) : Int) &&& 31).toBitVec.smod 32) = 8#32 by decide]
    apply BitVec.eq_of_toNat_eq
    rw [BitVec.shiftLeft_eq', BitVec.toNat_shiftLeft, BitVec.toNat_ofNat, BitVec.toNat_ofNat, Nat.mod_eq_of_lt hc2]
    rw [show (8 % 2 ^ 32 : Nat) = 8 by decide, Nat.shiftLeft_eq, BitVec.toNat_ofNat]
  · show BitVec.ofNat 32 c <<< ((I ((0 : Nat) : Int) &&& 31).toBitVec.smod 32) = BitVec.ofNat 32 (c * 2 ^ 0)
    rw [show ((I ((0 : Nat) : Int) &&& 31).toBitVec.smod 32) = 0#32 by decide]
    apply BitVec.eq_of_toNat_eq
    rw [BitVec.shiftLeft_eq', BitVec.toNat_shiftLeft, BitVec.toNat_ofNat, BitVec.toNat_ofNat, Nat.mod_eq_of_lt hc2]
    rw [show (0 % 2 ^ 32 : Nat) = 0 by decide, Nat.shiftLeft_eq, BitVec.toNat_ofNat]
theorem wB_I {w j : Nat} (hj : j < 4) (hw : w < 2147483648) : wB (I (w : Int)) j = ((w / 2 ^ (24 - 8 * j) % 256 : Nat) : Int) := by
  have key : ∀ (s : Nat) (y : Int32), s < 32 → y.toBitVec.smod 32 = BitVec.ofNat 32 s → bt (I (w : Int) >>> y) = ((w / 2 ^ s % 256 : Nat) : Int) := by
    intro s y hs hy
    unfold bt
    have e : (I (w : Int) >>> y).toInt = (w : Int) / ((2 ^ s : Nat) : Int) := by
      show ((I (w : Int)).toBitVec.sshiftRight' (y.toBitVec.smod 32)).toInt = _
      rw [hy, BitVec.sshiftRight_eq', BitVec.toInt_sshiftRight, BitVec.toNat_ofNat, Nat.mod_eq_of_lt (by omega)]
      rw [show (I (w : Int)).toBitVec.toInt = (w : Int) from I_toInt (by omega), Int.shiftRight_eq_div_pow]
    rw [e, Int.natCast_emod, Int.natCast_ediv]
    rfl
  unfold wB
  match j, hj with
  | 0, _ => exact key 24 _ (by decide) (by decide)
  | 1, _ => exact key 16 _ (by decide) (by decide)
  | 2, _ => exact key 8 _ (by decide) (by decide)
  | 3, _ => exact key 0 _ (by decide) (by decide)
/-! the written letters are a list of numbers -/
abbrev gd (xs : List Int) (i : Nat) : Int := xs.getD i 0
def ltr (xs : List Int) : Prop := ∀ x ∈ xs, 0 ≤ x ∧ x < 128
def FF (xs : List Int) : Nat := 20 * (xs.length / 20)
def wd4 (a b c d : Int) : Int := a * 16777216 + b * 65536 + c * 256 + d
def bufF (xs : List Int) : Nat → Int := fun i => if i = 0 then (xs.length : Int) else if i < 6 then wd4 (gd xs (FF xs + 4 * (i - 1))) (gd xs (FF xs + 4 * (i - 1) + 1)) (gd xs (FF xs + 4 * (i - 1) + 2)) (gd xs (FF xs + 4 * (i - 1) + 3)) else 0
theorem gd_rg {xs : List Int} (h : ltr xs) (i : Nat) : 0 ≤ gd xs i ∧ gd xs i < 128 := by
  unfold gd
  rw [List.getD_eq_getElem?_getD]
  cases e : xs[i]? with
  | none => simp
  | some x => exact h x (List.mem_of_getElem? e)
theorem gd_out {xs : List Int} {i : Nat} (h : xs.length ≤ i) : gd xs i = 0 := by
  unfold gd
  rw [List.getD_eq_getElem?_getD, List.getElem?_eq_none h]
  rfl
theorem gd_l {xs ys : List Int} {i : Nat} (h : i < xs.length) : gd (xs ++ ys) i = gd xs i := by
  unfold gd
  rw [List.getD_eq_getElem?_getD, List.getD_eq_getElem?_getD, List.getElem?_append_left h]
theorem gd_r {xs ys : List Int} {i : Nat} : gd (xs ++ ys) (xs.length + i) = gd ys i := by
  unfold gd
  rw [List.getD_eq_getElem?_getD, List.getD_eq_getElem?_getD, List.getElem?_append_right (by omega), show xs.length + i - xs.length = i by omega]
theorem gd_1 {xs : List Int} {c : Int} {i : Nat} (h : i ≠ xs.length) : gd (xs ++ [c]) i = gd xs i := by
  rcases Nat.lt_or_ge i xs.length with q | q
  · exact gd_l q
  · rw [gd_out (xs := xs) q, gd_out (by rw [List.length_append]; show xs.length + 1 ≤ i; omega)]
theorem gd_n {xs : List Int} {c : Int} : gd (xs ++ [c]) xs.length = c := by
  have := gd_r (xs := xs) (ys := [c]) (i := 0)
  rw [Nat.add_zero] at this
  rw [this]; rfl
/-- one letter more, not at the end of a row of 20 -/
theorem buf_put {xs : List Int} (hx : ltr xs) {c : Int} (hc : 0 ≤ c ∧ c < 128) (h20 : (xs.length + 1) % 20 ≠ 0) : ∀ i, i < 8 → upZ (upZ (bufF xs) (1 + xs.length % 20 / 4) (bufF xs (1 + xs.length % 20 / 4) + c * 2 ^ (24 - 8 * (xs.length % 4)))) 0 ((xs.length : Int) + 1) i = bufF (xs ++ [c]) i := by
  intro i hi
  have el : (xs ++ [c]).length = xs.length + 1 := by rw [List.length_append]; rfl
  have eF : FF (xs ++ [c]) = FF xs := by unfold FF; rw [el]; omega
  unfold upZ
  by_cases h0 : i = 0
  · subst h0
    rw [if_pos rfl]
    unfold bufF
    rw [if_pos rfl, el]; push_cast; rfl
  · rw [if_neg h0]
    have hF : FF xs + xs.length % 20 = xs.length := by unfold FF; omega
    by_cases h1 : i = 1 + xs.length % 20 / 4
    · rw [if_pos h1]
      subst h1
      unfold bufF
      rw [if_neg h0, if_pos (by omega), if_neg h0, if_pos (by omega), eF]
      generalize hq : xs.length % 20 / 4 = q at *
      have hm : FF xs + 4 * (1 + q - 1) + xs.length % 4 = xs.length := by omega
      have h4 : xs.length % 4 = 0 ∨ xs.length % 4 = 1 ∨ xs.length % 4 = 2 ∨ xs.length % 4 = 3 := by omega
      rcases h4 with h4 | h4 | h4 | h4 <;> rw [h4] at hm ⊢ <;> unfold wd4
      · rw [show FF xs + 4 * (1 + q - 1) = xs.length by omega, gd_n, gd_1 (by omega), gd_1 (by omega), gd_1 (by omega), gd_out (xs := xs) (i := xs.length) (by omega), gd_out (xs := xs) (i := xs.length + 1) (by omega), gd_out (xs := xs) (i := xs.length + 2) (by omega), gd_out (xs := xs) (i := xs.length + 3) (by omega)]
        omega
      · rw [hm, gd_n, gd_1 (by omega), gd_1 (by omega), gd_1 (by omega), gd_out (xs := xs) (i := xs.length) (by omega), gd_out (xs := xs) (i := FF xs + 4 * (1 + q - 1) + 2) (by omega), gd_out (xs := xs) (i := FF xs + 4 * (1 + q - 1) + 3) (by omega)]
        omega
      · rw [hm, gd_n, gd_1 (by omega), gd_1 (by omega), gd_1 (by omega), gd_out (xs := xs) (i := xs.length) (by omega), gd_out (xs := xs) (i := FF xs + 4 * (1 + q - 1) + 3) (by omega)]
        omega
      · rw [hm, gd_n, gd_1 (by omega), gd_1 (by omega), gd_1 (by omega), gd_out (xs := xs) (i := xs.length) (by omega)]
        omega
    · rw [if_neg h1]
      unfold bufF
      rw [if_neg h0, if_neg h0, eF]
      by_cases h6 : i < 6
      · rw [if_pos h6, if_pos h6, gd_1 (by omega), gd_1 (by omega), gd_1 (by omega), gd_1 (by omega)]
      · rw [if_neg h6, if_neg h6]
/-- behind the 20th letter the words start anew -/
theorem buf_new {xs : List Int} (h20 : xs.length % 20 = 0) : ∀ i, i < 8 → bufF xs i = if i = 0 then (xs.length : Int) else 0 := by
  intro i hi
  have hF : FF xs = xs.length := by unfold FF; omega
  unfold bufF
  by_cases h0 : i = 0
  · rw [if_pos h0, if_pos h0]
  · rw [if_neg h0, if_neg h0, hF]
    by_cases h6 : i < 6
    · rw [if_pos h6, gd_out (by omega), gd_out (by omega), gd_out (by omega), gd_out (by omega)]; rfl
    · rw [if_neg h6]
/-- the words of the row of 20 that ends at f + 20, as they are flushed -/
def wdR (xs : List Int) (f j : Nat) : Int := wd4 (gd xs (f + 4 * j)) (gd xs (f + 4 * j + 1)) (gd xs (f + 4 * j + 2)) (gd xs (f + 4 * j + 3))
theorem wdR_rg {xs : List Int} (h : ltr xs) (f j : Nat) : 0 ≤ wdR xs f j ∧ wdR xs f j < 2147483648 := by
  have a := gd_rg h (f + 4 * j)
  have b := gd_rg h (f + 4 * j + 1)
  have c := gd_rg h (f + 4 * j + 2)
  have d := gd_rg h (f + 4 * j + 3)
  unfold wdR wd4
  omega
theorem wB_wd {xs : List Int} (h : ltr xs) {f j i : Nat} (hi : i < 4) : wB (I (wdR xs f j)) i = gd xs (f + 4 * j + i) := by
  have a := gd_rg h (f + 4 * j)
  have b := gd_rg h (f + 4 * j + 1)
  have c := gd_rg h (f + 4 * j + 2)
  have d := gd_rg h (f + 4 * j + 3)
  have r := wdR_rg h f j
  obtain ⟨w, hw⟩ : ∃ w : Nat, wdR xs f j = (w : Int) := ⟨(wdR xs f j).toNat, by omega⟩
  rw [hw, wB_I hi (by omega)]
  unfold wdR wd4 at hw
  match i, hi with
  | 0, _ => show ((w / 16777216 % 256 : Nat) : Int) = _; rw [Nat.add_zero]; omega
  | 1, _ => show ((w / 65536 % 256 : Nat) : Int) = _; omega
  | 2, _ => show ((w / 256 % 256 : Nat) : Int) = _; omega
  | 3, _ => show ((w / 1 % 256 : Nat) : Int) = _; omega
theorem aK_out {T : Nat → Int} {f : Nat} {w : Nat → Int32} : ∀ {k i : Nat}, (i < f ∨ f + k ≤ i) → aK T f w k i = T i
  | 0, i, _ => rfl
  | k + 1, i, h => by
    show upZ (aK T f w k) (f + k) _ i = T i
    unfold upZ
    rw [if_neg (by omega)]
    exact aK_out (by omega)
theorem aK_in {T : Nat → Int} {f : Nat} {w : Nat → Int32} : ∀ {k i : Nat}, i < k → aK T f w k (f + i) = wB (w (i / 4)) (i % 4)
  | 0, i, h => absurd h (Nat.not_lt_zero _)
  | k + 1, i, h => by
    show upZ (aK T f w k) (f + k) _ (f + i) = _
    unfold upZ
    by_cases q : i = k
    · subst q; rw [if_pos rfl]
    · rw [if_neg (by omega)]
      exact aK_in (by omega)

