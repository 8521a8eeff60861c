/-! bytes of words -/
def bt (x : Int32) : Int := x.toInt % 256
theorem bt_rg (x : Int32) : 0 ≤ bt x ∧ bt x < 256 := by unfold bt; omega
theorem by_1 (x : Int32) : x.toInt8.toInt32 = I (sb (bt x)) := by
  apply Int32.toInt_inj.mp
  rw [Int8.toInt_toInt32, Int32.toInt_toInt8, I_toInt (by have := sb_rg (bt_rg x); omega)]
  unfold sb bt Int.bmod
  show (if x.toInt % 256 < (256 + 1) / 2 then _ else _) = _
  split
  · rw [if_neg (by omega)]; rfl
  · rw [if_pos (by omega)]; rfl
theorem by_2 (x : Int32) : x &&& 255 = I (bt x) := by
  apply Int32.toInt_inj.mp
  rw [I_toInt (by have := bt_rg x; omega)]
  show (x.toBitVec &&& 255#32).toInt = _
  rw [BitVec.toInt_eq_toNat_cond, BitVec.toNat_and]
  have e : x.toBitVec.toNat &&& (255#32).toNat = x.toBitVec.toNat % 256 := Nat.and_two_pow_sub_one_eq_mod _ 8
  have hl := x.toBitVec.isLt
  rw [e]
  unfold bt
  have h : x.toInt = x.toBitVec.toInt := rfl
  rw [h, BitVec.toInt_eq_toNat_cond]
  split <;> split <;> omega
theorem by_3 {z : Int} (h : -128 ≤ z ∧ z < 128) : vp_nar .byte (I z) = I z := by
  rw [vp_nar_byte, by_1]
  congr 1
  unfold sb bt
  rw [I_toInt (by omega)]
  split <;> omega
/-- the byte j of a word -/
def wB (w : Int32) (j : Nat) : Int := bt (w >>> (I (24 - 8 * (j : Int)) &&& 31))
/-- a text with j bytes of a word at f -/
def pB (T : Nat → Int) (f : Nat) (w : Int32) : Nat → (Nat → Int)
  | 0 => T
  | j + 1 => upZ (pB T f w j) (f + j) (wB w j)
theorem TX.pB {T : Nat → Int} (h : TX T) {f : Nat} {w : Int32} : ∀ j, TX (pB T f w j)
  | 0 => h
  | j + 1 => fun i hi => by
    show 0 ≤ upZ _ _ _ i ∧ upZ _ _ _ i < 256
    unfold upZ
    split
    · exact bt_rg _
    · exact TX.pB h j i hi
section RD
variable {NC : Nat} {h : hp} {r T : Nat → Int} {n s : Nat} {Q : qt}
theorem l_put (hN : 112 ≤ NC) {w : Int32} {fl : Nat} (hfl : fl + 4 ≤ 600) (kk : ∀ g r1, RO g r1 → TR g (pB T fl w 4) → r1 1 = ((fl + 4 : Nat) : Int) → (∀ k, k ≠ 1 → r1 k = r k) → (∀ a, a ≠ 110 → a ≠ 111 → g a = h a) → Q .null g) : ∀ (f : Nat) (j : Nat) (g : hp) (r1 : Nat → Int), j + f = 4 → RO g r1 → TR g (pB T fl w j) → r1 1 = ((fl + j : Nat) : Int) → (∀ k, k ≠ 1 → r1 k = r k) → (∀ a, a ≠ 110 → a ≠ 111 → g a = h a) → Ex NC none M_X4_putFourBytes 3 [.ref 110, .int w, .int (I (24 - 8 * (j : Int)))] [] g Q := by
  intro f
  induction f with
  | zero =>
    intro j g r1 hj hO hT h1 hr hY
    refine ax_iload_n dX4_putFourBytes_3 rfl ?_
    refine ax_if_lt (tgt := 46) dX4_putFourBytes_4 (by decide) (by omega) (fun c4 => ?_) (fun c4 => ?_)
    · have e : j = 4 := by omega
      subst e
      exact ax_vret dX4_putFourBytes_46 rfl (kk g r1 hO hT h1 hr hY)
    · exfalso
      omega
  | succ f ih =>
    intro j g r1 hj hO hT h1 hr hY
    refine ax_iload_n dX4_putFourBytes_3 rfl ?_
    refine ax_if_lt (tgt := 46) dX4_putFourBytes_4 (by decide) (by omega) (fun c4 => ?_) (fun c4 => ?_)
    · exfalso
      omega
    · refine ax_aload_n dX4_putFourBytes_7 rfl ?_
      refine ax_getf dX4_putFourBytes_8 ck4 fl_X4_15 (by decide) (by omega) hO rfl ?_
      refine ax_sipush dX4_putFourBytes_11 (by decide) ?_
      rw [h1]
      refine ax_icmp_ge (tgt := 46) dX4_putFourBytes_14 (by decide) (by omega) (by omega) (fun c14 => ?_) (fun c14 => ?_)
      · exfalso
        omega
      · refine ax_aload_n dX4_putFourBytes_17 rfl ?_
        refine ax_getf dX4_putFourBytes_18 ck4 fl_X4_9 (by decide) (by omega) hO rfl ?_
        refine ax_aload_n dX4_putFourBytes_21 rfl ?_
        refine ax_getf dX4_putFourBytes_22 ck4 fl_X4_15 (by decide) (by omega) hO rfl ?_
        rw [h1]
        refine ax_iload_n dX4_putFourBytes_25 rfl ?_
        refine ax_iload_n dX4_putFourBytes_26 rfl ?_
        refine ex_ishr dX4_putFourBytes_27 ?_
        refine ex_i2b (by_1 _) dX4_putFourBytes_28 ?_
        have hbr := sb_rg (bt_rg (w >>> (I (24 - 8 * (j : Int)) &&& 31)))
        refine ax_basr (j := (fl + j)) dX4_putFourBytes_29 (by omega) hT (by omega) (by omega) (by decide) (by_3 hbr) (fun e29 he29 => ?_)
        have hT1 : TR (va_up g 111 e29) (pB T fl w (j + 1)) := (he29.mv vu_eq).cong (fun i hi => by show upZ _ _ _ i = sb (upZ (pB T fl w j) (fl + j) (wB w j) i); unfold upZ; split; rfl; rfl)
        have hO1 : RO (va_up g 111 e29) r1 := (vu_ne (by decide)).trans hO
        have hY1 : ∀ a, a ≠ 110 → a ≠ 111 → va_up g 111 e29 a = h a := fun a a1 a2 => (vu_ne a2).trans (hY a a1 a2)
        generalize va_up g 111 e29 = g1 at *
        refine ax_aload_n dX4_putFourBytes_30 rfl ?_
        refine ax_dup dX4_putFourBytes_31 rfl ?_
        refine ax_getf dX4_putFourBytes_32 ck4 fl_X4_15 (by decide) (by omega) hO1 rfl ?_
        refine ax_iconst dX4_putFourBytes_35 ?_
        refine ax_iadd dX4_putFourBytes_36 ?_
        rw [h1, show ((fl + j : Nat) : Int) + 1 = ((fl + (j + 1) : Nat) : Int) by push_cast; omega]
        refine ax_putf dX4_putFourBytes_37 ck4 fl_X4_15 (by decide) (by omega) hO1 rfl (Or.inl rfl) (Nat.le_of_ble_eq_true rfl) rfl ?_
        generalize hgg2 : va_up g1 110 _ = g2
        obtain ⟨r2, hO2, er2⟩ : ∃ rr, RO g2 rr ∧ rr = upZ r1 1 ((fl + (j + 1) : Nat) : Int) := ⟨_, by rw [← hgg2]; exact hO1.s1, rfl⟩
        have y2 : ∀ a, a ≠ 110 → g2 a = g1 a := fun a ha => by rw [← hgg2]; exact vu_ne ha
        refine ax_iinc dX4_putFourBytes_40 rfl rfl (by decide) ?_
        refine ax_goto (tgt := 3) dX4_putFourBytes_43 (by decide) ?_
        rw [show (24 : Int) - 8 * (j : Int) + -8 = 24 - 8 * ((j + 1 : Nat) : Int) by push_cast; omega]
        exact ih (j + 1) g2 r2 (by omega) hO2 (hT1.mv (y2 111 (by decide))) (by rw [er2]; rfl) (fun k hk => by rw [er2]; exact (if_neg hk).trans (hr k hk)) (fun a a1 a2 => (y2 a a1).trans (hY1 a a1 a2))
theorem sp_putFour (hN : 112 ≤ NC) (hO : RO h r) (hT : TR h T) {w : Int32} {fl : Nat} (h1 : r 1 = (fl : Int)) (hfl : fl + 4 ≤ 600) : Cl NC M_X4_putFourBytes [.ref 110, .int w] h (fun _ h1 => ∃ r1, RO h1 r1 ∧ TR h1 (pB T fl w 4) ∧ r1 1 = ((fl + 4 : Nat) : Int) ∧ (∀ k, k ≠ 1 → r1 k = r k) ∧ (∀ a, a ≠ 110 → a ≠ 111 → h1 a = h a)) := by
  refine ax_bipush dX4_putFourBytes_0 (by decide) ?_
  refine ax_istore_n dX4_putFourBytes_2 rfl (by decide) ?_
  exact l_put (h := h) (r := r) (T := T) (w := w) hN hfl (fun g r1 a b c d e => ⟨r1, a, b, c, d, e⟩) 4 0 h r (by omega) hO hT h1 (fun _ _ => rfl) (fun _ _ _ => rfl)
end RD
