/-! the two sums -/
theorem fs_pick {Γ : en} {l : Launch} {NC : Nat} {p : Program} {e : Env} {R : Room} {s : State} {m : MethodId} {args : Array Value} {below : List Frame} {meth : Method} {c : Code} {Q : State → Prop} {nL k sl pc : Nat} {lv lv1 : List (Nat × Value)} {S : List Value} {h : hp} (ks : List Nat) (hl : lv_pick lv ks = lv1) (kn : Fs Γ NC p l e R s m args below meth c nL Q k sl pc lv1 S h) : Fs Γ NC p l e R s m args below meth c nL Q k sl pc lv S h := by
  subst hl
  intro H locs ls hW hL
  refine kn H locs ls hW (lv_sub hL ks ?_)
  unfold lv_pick
  rw [List.map_filterMap]
  congr 1
  funext i
  rw [List.getElem?_map]
def ckS (K : Nat → Nat) : Nat → Int64
  | 0 => 0
  | n + 1 => 31 * ckS K n + (I (stN K n)).toInt64
def ckW (K : Nat → Nat) (i : Nat) (v : Int64) : Nat → Int64
  | 0 => v
  | n + 1 => 31 * ckW K i v n + (I (celN K i n)).toInt64
def sumC (K : Nat → Nat) : Nat → Int64
  | 0 => ckS K 13
  | n + 1 => bif on K n then ckW K n (sumC K n) 4 else sumC K n
theorem ck_on {K : Nat → Nat} {n : Nat} (h : on K n = true) : sumC K (n + 1) = ckW K n (sumC K n) 4 := by show (bif on K n then _ else _) = _; rw [h]; rfl
theorem ck_off {K : Nat → Nat} {n : Nat} (h : on K n = false) : sumC K (n + 1) = sumC K n := by show (bif on K n then _ else _) = _; rw [h]; rfl
theorem ck_skip {K : Nat → Nat} {a : Nat} : ∀ {b : Nat}, a ≤ b → (∀ k, a ≤ k → k < b → on K k = false) → sumC K b = sumC K a
  | 0, h, _ => by
    have : a = 0 := by omega
    subst this; rfl
  | b + 1, h, hz => by
    rcases Nat.lt_or_ge a (b + 1) with q | q
    · rw [ck_off (hz b (by omega) (by omega)), ck_skip (b := b) (by omega) (fun k h1 h2 => hz k h1 (by omega))]
    · have : a = b + 1 := by omega
      subst this; rfl
theorem c31_5 : Cond.constantLong M_X5_checksum.1.cls 239 31 ∈ gT := gT_mem 1317 (by decide +kernel) (by decide +kernel)
section CK
variable {Γ : en} {l : Launch} {St : State → Prop} {NC : Nat} {p : Program} {e : Env} {R : Room} {s : State} {m : MethodId} {args : Array Value} {below : List Frame} {meth : Method} {c : Code} {Q : State → Prop} {k sl : Nat} {h : hp} {K : Nat → Nat} {e0 : Int}
theorem c5_l1 (hE : envOK Γ St) {adV : Nat → Nat} (hX : envX Γ St adV) (hl9 : l.stackTraces = false) (hC : CF Γ St M_X5_checksum R p s m args c) (hR : k ≤ R.cells ∧ sl ≤ R.slots) (hN : 112 ≤ NC) (hW : KO h e0) (hS : SA NC h 1 K) (hK : KI K) (kk : (Fs Γ NC p l e R s m args below meth c M_X5_checksum.2.2.1 Q k sl 29 [(0, .ref 0), (1, .long (ckS K 13)), (3, .int (I ((13 : Nat) : Int)))] [] h)) : ∀ (n w : Nat), w + n = 13 → (Fs Γ NC p l e R s m args below meth c M_X5_checksum.2.2.1 Q k sl 4 [(0, .ref 0), (1, .long (ckS K w)), (3, .int (I (w : Int)))] [] h) := by
  intro n
  induction n with
  | zero =>
    intro w hw
    have ew : w = 13 := by omega
    subst ew
    refine fs_iload_n hC dX5_checksum_4 rfl ?_
    refine fs_bipush hC dX5_checksum_5 (by decide) ?_
    refine fs_icmp_gt hC (tgt := 29) dX5_checksum_7 (by decide) (by omega) (by omega) (fun q => ?_) (fun q => ?_)
    · exact kk
    · exfalso; omega
  | succ n ih =>
    intro w hw
    refine fs_iload_n hC dX5_checksum_4 rfl ?_
    refine fs_bipush hC dX5_checksum_5 (by decide) ?_
    refine fs_icmp_gt hC (tgt := 29) dX5_checksum_7 (by decide) (by omega) (by omega) (fun q => ?_) (fun q => ?_)
    · exfalso; omega
    refine fs_ldc2 hC dX5_checksum_10 c31_5 ?_
    refine fs_lload_n hC dX5_checksum_13 rfl ?_
    refine fs_lmul hC dX5_checksum_14 ?_
    refine fs_aload_n hC dX5_checksum_15 rfl ?_
    refine fs_iload_n hC dX5_checksum_16 rfl ?_
    refine fs_cvi hE hX hl9 hC hR (As := [.int (I (w : Int))]) dX5_checksum_17 ln_X5_checksum_241 rfl rfl (Nat.le_of_ble_eq_true rfl) (by omega) hW rfl (Or.inl rfl) (sp_state hN hW hS hK (w := w) (by omega)) (fun r h1 hq => ?_)
    obtain ⟨hv, rfl⟩ := hq
    cases hv
    refine fs_i2l hC dX5_checksum_20 ?_
    refine fs_ladd hC dX5_checksum_21 ?_
    refine fs_lstore_n hC dX5_checksum_22 (by decide) rfl ?_
    refine fs_iinc hC dX5_checksum_23 rfl (by decide) rfl ?_
    refine fs_goto hC (tgt := 4) dX5_checksum_26 (by decide) ?_
    refine fs_pick [2, 1, 0] rfl ?_
    exact ih (w + 1) (by omega)
theorem c5_l2 (hE : envOK Γ St) {adV : Nat → Nat} (hX : envX Γ St adV) (hl9 : l.stackTraces = false) (hC : CF Γ St M_X5_checksum R p s m args c) (hR : k ≤ R.cells ∧ sl ≤ R.slots) (hN : 112 ≤ NC) (hW : KO h e0) (hS : SA NC h 1 K) (hK : KI K) {y x : Nat} {v : Int64} (hy : y < 12) (hx : x < 100) (ho : onZ K (x : Int) (y : Int) = true) (kk : (Fs Γ NC p l e R s m args below meth c M_X5_checksum.2.2.1 Q k sl 97 [(0, .ref 0), (1, .long (ckW K (y * K 0 + x) v 4)), (3, .int (I (y : Int))), (4, .int (I (x : Int)))] [] h)) : ∀ (n w : Nat), w + n = 4 → (Fs Γ NC p l e R s m args below meth c M_X5_checksum.2.2.1 Q k sl 68 [(0, .ref 0), (1, .long (ckW K (y * K 0 + x) v w)), (3, .int (I (y : Int))), (4, .int (I (x : Int))), (5, .int (I (w : Int)))] [] h) := by
  intro n
  induction n with
  | zero =>
    intro w hw
    have ew : w = 4 := by omega
    subst ew
    refine fs_iload hC dX5_checksum_68 rfl ?_
    refine fs_iconst hC dX5_checksum_70 ?_
    refine fs_icmp_gt hC (tgt := 97) dX5_checksum_71 (by decide) (by omega) (by omega) (fun q => ?_) (fun q => ?_)
    · exact fs_pick [0, 1, 2, 3] rfl kk
    · exfalso; omega
  | succ n ih =>
    intro w hw
    refine fs_iload hC dX5_checksum_68 rfl ?_
    refine fs_iconst hC dX5_checksum_70 ?_
    refine fs_icmp_gt hC (tgt := 97) dX5_checksum_71 (by decide) (by omega) (by omega) (fun q => ?_) (fun q => ?_)
    · exfalso; omega
    refine fs_ldc2 hC dX5_checksum_74 c31_5 ?_
    refine fs_lload_n hC dX5_checksum_77 rfl ?_
    refine fs_lmul hC dX5_checksum_78 ?_
    refine fs_aload_n hC dX5_checksum_79 rfl ?_
    refine fs_iload hC dX5_checksum_80 rfl ?_
    refine fs_iload_n hC dX5_checksum_82 rfl ?_
    refine fs_iload hC dX5_checksum_83 rfl ?_
    refine fs_cvi hE hX hl9 hC hR (As := [.int (I (x : Int)), .int (I (y : Int)), .int (I (w : Int))]) dX5_checksum_85 ln_X5_checksum_244 rfl rfl (Nat.le_of_ble_eq_true rfl) (by omega) hW rfl (Or.inl rfl) (sp_cellQ hN hW hS hK (x := (x : Int)) (by omega) (y := (y : Int)) (by omega) (w := w) (by omega) ho) (fun r h1 hq => ?_)
    obtain ⟨hv, rfl⟩ := hq
    cases hv
    refine fs_i2l hC dX5_checksum_88 ?_
    refine fs_ladd hC dX5_checksum_89 ?_
    refine fs_lstore_n hC dX5_checksum_90 (by decide) rfl ?_
    refine fs_iinc hC dX5_checksum_91 rfl (by decide) rfl ?_
    refine fs_goto hC (tgt := 68) dX5_checksum_94 (by decide) ?_
    refine fs_pick [2, 1, 3, 4, 0] rfl ?_
    exact ih (w + 1) (by omega)
theorem c5_l3 (hE : envOK Γ St) {adV : Nat → Nat} (hX : envX Γ St adV) (hl9 : l.stackTraces = false) (hC : CF Γ St M_X5_checksum R p s m args c) (hR : k ≤ R.cells ∧ sl ≤ R.slots) (hN : 112 ≤ NC) (hW : KO h e0) (hS : SA NC h 1 K) (hK : KI K) {y : Nat} (hy : y < K 1) (kk : (Fs Γ NC p l e R s m args below meth c M_X5_checksum.2.2.1 Q k sl 103 [(0, .ref 0), (1, .long (sumC K (y * K 0 + (K 0 / 2 + K (6 + y) + 1)))), (3, .int (I (y : Int)))] [] h)) : ∀ (n x : Nat), x + n = K 0 / 2 + K (6 + y) + 1 → K 0 / 2 - K (6 + y) ≤ x → (Fs Γ NC p l e R s m args below meth c M_X5_checksum.2.2.1 Q k sl 52 [(0, .ref 0), (1, .long (sumC K (y * K 0 + x))), (3, .int (I (y : Int))), (4, .int (I (x : Int)))] [] h) := by
  have k0 := hK.1
  have k1 := hK.2.1 y (by omega)
  intro n
  induction n with
  | zero =>
    intro x hx hx0
    refine fs_iload hC dX5_checksum_52 rfl ?_
    refine fs_aload_n hC dX5_checksum_54 rfl ?_
    refine fs_getf hC dX5_checksum_55 ck5 fl_X5_12 (by decide) (by omega) hW rfl ?_
    refine fs_iload_n hC dX5_checksum_58 rfl ?_
    refine fs_cvi hE hX hl9 hC hR (As := [.int (I (y : Int))]) dX5_checksum_59 ln_X5_checksum_178 rfl rfl (Nat.le_of_ble_eq_true rfl) hS.n0 hS.o rfl (Or.inl rfl) (sp_lastX hS hK (y := y) (by omega)) (fun r h1 hq => ?_)
    obtain ⟨hv, rfl⟩ := hq
    cases hv
    refine fs_icmp_gt hC (tgt := 103) dX5_checksum_62 (by decide) (by omega) (by omega) (fun q => ?_) (fun q => ?_)
    · have e : x = K 0 / 2 + K (6 + y) + 1 := by omega
      subst e
      exact fs_pick [0, 1, 2] rfl kk
    · exfalso; omega
  | succ n ih =>
    intro x hx hx0
    refine fs_iload hC dX5_checksum_52 rfl ?_
    refine fs_aload_n hC dX5_checksum_54 rfl ?_
    refine fs_getf hC dX5_checksum_55 ck5 fl_X5_12 (by decide) (by omega) hW rfl ?_
    refine fs_iload_n hC dX5_checksum_58 rfl ?_
    refine fs_cvi hE hX hl9 hC hR (As := [.int (I (y : Int))]) dX5_checksum_59 ln_X5_checksum_178 rfl rfl (Nat.le_of_ble_eq_true rfl) hS.n0 hS.o rfl (Or.inl rfl) (sp_lastX hS hK (y := y) (by omega)) (fun r h1 hq => ?_)
    obtain ⟨hv, rfl⟩ := hq
    cases hv
    refine fs_icmp_gt hC (tgt := 103) dX5_checksum_62 (by decide) (by omega) (by omega) (fun q => ?_) (fun q => ?_)
    · exfalso; omega
    refine fs_iconst hC dX5_checksum_65 ?_
    refine fs_istore hC dX5_checksum_66 (by decide) rfl ?_
    refine fs_pick [1, 2, 3, 4, 0] rfl ?_
    have ho : onZ K (x : Int) (y : Int) = true := onZ_iff.mpr (by rw [Int.toNat_natCast]; omega)
    have o1 : on K (y * K 0 + x) = true := on_of (by omega) hy (by omega) (by omega)
    refine c5_l2 hE hX hl9 hC hR hN hW hS hK (y := y) (x := x) (v := sumC K (y * K 0 + x)) (by omega) (by omega) ho ?_ 4 0 (by omega)
    refine fs_iinc hC dX5_checksum_97 rfl (by decide) rfl ?_
    refine fs_goto hC (tgt := 52) dX5_checksum_100 (by decide) ?_
    refine fs_pick [1, 2, 3, 0] rfl ?_
    have := ih (x + 1) (by omega) (by omega)
    rw [show y * K 0 + (x + 1) = y * K 0 + x + 1 by omega, ck_on o1] at this
    exact this
theorem c5_l4 (hE : envOK Γ St) {adV : Nat → Nat} (hX : envX Γ St adV) (hl9 : l.stackTraces = false) (hC : CF Γ St M_X5_checksum R p s m args c) (hR : k ≤ R.cells ∧ sl ≤ R.slots) (hN : 112 ≤ NC) (hW : KO h e0) (hS : SA NC h 1 K) (hK : KI K) (kk : (Fs Γ NC p l e R s m args below meth c M_X5_checksum.2.2.1 Q k sl 109 [(0, .ref 0), (1, .long (sumC K (nC K)))] [] h)) : ∀ (n y : Nat), y + n = K 1 → (Fs Γ NC p l e R s m args below meth c M_X5_checksum.2.2.1 Q k sl 31 [(0, .ref 0), (1, .long (sumC K (y * K 0))), (3, .int (I (y : Int)))] [] h) := by
  have k0 := hK.1
  intro n
  induction n with
  | zero =>
    intro y hy
    refine fs_iload_n hC dX5_checksum_31 rfl ?_
    refine fs_aload_n hC dX5_checksum_32 rfl ?_
    refine fs_getf hC dX5_checksum_33 ck5 fl_X5_12 (by decide) (by omega) hW rfl ?_
    refine fs_getf hC dX5_checksum_36 ck3 fl_X5_83 (by decide) hS.n0 hS.o rfl ?_
    refine fs_icmp_ge hC (tgt := 109) dX5_checksum_39 (by decide) (by omega) (by omega) (fun q => ?_) (fun q => ?_)
    · have e : y = K 1 := by omega
      subst e
      rw [Nat.mul_comm (K 1) (K 0)]
      exact fs_pick [0, 1] rfl kk
    · exfalso; omega
  | succ n ih =>
    intro y hy
    have hy9 : y < K 1 := by omega
    have k1 := hK.2.1 y (by omega)
    refine fs_iload_n hC dX5_checksum_31 rfl ?_
    refine fs_aload_n hC dX5_checksum_32 rfl ?_
    refine fs_getf hC dX5_checksum_33 ck5 fl_X5_12 (by decide) (by omega) hW rfl ?_
    refine fs_getf hC dX5_checksum_36 ck3 fl_X5_83 (by decide) hS.n0 hS.o rfl ?_
    refine fs_icmp_ge hC (tgt := 109) dX5_checksum_39 (by decide) (by omega) (by omega) (fun q => ?_) (fun q => ?_)
    · exfalso; omega
    refine fs_aload_n hC dX5_checksum_42 rfl ?_
    refine fs_getf hC dX5_checksum_43 ck5 fl_X5_12 (by decide) (by omega) hW rfl ?_
    refine fs_iload_n hC dX5_checksum_46 rfl ?_
    refine fs_cvi hE hX hl9 hC hR (As := [.int (I (y : Int))]) dX5_checksum_47 ln_X5_checksum_175 rfl rfl (Nat.le_of_ble_eq_true rfl) hS.n0 hS.o rfl (Or.inl rfl) (sp_firstX hS hK (y := y) (by omega)) (fun r h1 hq => ?_)
    obtain ⟨hv, rfl⟩ := hq
    cases hv
    rw [show ((K 0 / 2 : Nat) : Int) - (K (6 + y) : Int) = ((K 0 / 2 - K (6 + y) : Nat) : Int) by omega]
    refine fs_istore hC dX5_checksum_50 (by decide) rfl ?_
    refine fs_pick [1, 2, 3, 0] rfl ?_
    have e2 : sumC K (y * K 0 + (K 0 / 2 - K (6 + y))) = sumC K (y * K 0) := ck_skip (by omega) (og1 hK)
    rw [← e2]
    refine c5_l3 hE hX hl9 hC hR hN hW hS hK hy9 ?_ (K 0 / 2 + K (6 + y) + 1 - (K 0 / 2 - K (6 + y))) (K 0 / 2 - K (6 + y)) (by omega) (Nat.le_refl _)
    refine fs_iinc hC dX5_checksum_103 rfl (by decide) rfl ?_
    refine fs_goto hC (tgt := 31) dX5_checksum_106 (by decide) ?_
    have hm : (y + 1) * K 0 = y * K 0 + K 0 := by rw [Nat.add_mul, Nat.one_mul]
    refine fs_pick [1, 2, 0] rfl ?_
    have := ih (y + 1) (by omega)
    rw [ck_skip (a := y * K 0 + (K 0 / 2 + K (6 + y) + 1)) (by omega) (og2 hK hy9)] at this
    exact this
theorem sl_checksum (hE : envOK Γ St) {adV : Nat → Nat} (hX : envX Γ St adV) (hl9 : l.stackTraces = false) (hN : 112 ≤ NC) (hW : KO h e0) (hS : SA NC h 1 K) (hK : KI K) : MetL Γ l St NC M_X5_checksum [.ref 0] h (fun r u => r = sumC K (nC K) ∧ u = h) := by
  refine metL_of hE mi_X5_checksum.2.2 rfl (by decide) (fun p e s m args below meth c hC hr hlk => ?_)
  have hR : 0 ≤ (rmM none M_X5_checksum).cells ∧ 0 ≤ (rmM none M_X5_checksum).slots := ⟨Nat.zero_le _, Nat.zero_le _⟩
  refine fs_lconst hC dX5_checksum_0 ?_
  refine fs_lstore_n hC dX5_checksum_1 (by decide) rfl ?_
  refine fs_iconst hC dX5_checksum_2 ?_
  refine fs_istore_n hC dX5_checksum_3 (by decide) rfl ?_
  refine fs_pick [2, 1, 0] rfl ?_
  refine c5_l1 hE hX hl9 hC hR hN hW hS hK ?_ 13 0 (by omega)
  refine fs_iconst hC dX5_checksum_29 ?_
  refine fs_istore_n hC dX5_checksum_30 (by decide) rfl ?_
  refine fs_pick [1, 2, 0] rfl ?_
  have hz : ckS K 13 = sumC K (0 * K 0) := by rw [Nat.zero_mul]; rfl
  rw [hz]
  refine c5_l4 hE hX hl9 hC hR hN hW hS hK ?_ (K 1) 0 (by omega)
  refine fs_lload_n hC dX5_checksum_109 rfl ?_
  exact fs_lret hE hC dX5_checksum_110 hr hlk ⟨rfl, rfl⟩
end CK
