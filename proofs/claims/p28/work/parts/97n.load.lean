/-! WRITING: texts, numbers, rows of numbers; loading -/
def litL (j : Nat) : List Int := (txtB.getD j []).map Int32.toInt
theorem lit_len : ∀ j, j < 24 → (litL j).length = txtN.getD j 0 := by decide +kernel
theorem lit_rg0 : ∀ j, j < 24 → (litL j).all (fun x => decide (0 ≤ x ∧ x < 128)) = true := by decide +kernel
theorem lit_rg {j : Nat} (hj : j < 24) : ltr (litL j) := fun x hx => by
  have := List.all_eq_true.mp (lit_rg0 j hj) x hx
  exact of_decide_eq_true this
theorem lit_at {j i : Nat} (hj : j < 24) (hi : i < (litL j).length) : (txtB.getD j []).getD i 0 = I (gd (litL j) i) := by
  unfold gd litL at *
  generalize txtB.getD j [] = l at *
  rw [List.length_map] at hi
  rw [List.getD_eq_getElem?_getD, List.getD_eq_getElem?_getD, List.getElem?_map, List.getElem?_eq_getElem hi]
  show _ = Int32.ofInt _
  exact (Int32.ofInt_toInt _).symm
theorem tk_suc {ys : List Int} {k : Nat} (h : k < ys.length) : ys.take (k + 1) = ys.take k ++ [gd ys k] := by
  rw [List.take_succ, List.getElem?_eq_getElem h]
  unfold gd
  rw [List.getD_eq_getElem?_getD, List.getElem?_eq_getElem h]
  rfl
theorem ltr_app {xs ys : List Int} (h : ltr xs) (k : ltr ys) : ltr (xs ++ ys) := fun x hx => by
  rcases List.mem_append.mp hx with q | q
  · exact h x q
  · exact k x q
theorem ltr_take {xs : List Int} (h : ltr xs) (k : Nat) : ltr (xs.take k) := fun x hx => h x (List.mem_of_mem_take hx)
def digL (x : Nat) : List Int := if x < 10 then [48 + (x : Int)] else [48 + (x : Int) / 10, 48 + (x : Int) % 10]
theorem dig_ltr {x : Nat} (hx : x < 100) : ltr (digL x) := fun y hy => by
  unfold digL at hy
  split at hy
  · rw [List.mem_singleton.mp hy]; omega
  · rcases List.mem_cons.mp hy with rfl | hy
    · omega
    · rw [List.mem_singleton.mp hy]; omega
theorem dig_len {x : Nat} : 1 ≤ (digL x).length ∧ (digL x).length ≤ 2 := by
  unfold digL; split <;> simp
def numL (f : Nat → Nat) : Nat → List Int
  | 0 => []
  | n + 1 => numL f n ++ (32 :: digL (f n))
theorem num_ltr {f : Nat → Nat} : ∀ {n : Nat}, (∀ i, i < n → f i < 100) → ltr (numL f n)
  | 0, _ => fun x hx => by cases hx
  | n + 1, h => ltr_app (num_ltr (fun i hi => h i (by omega))) (fun x hx => by
    rcases List.mem_cons.mp hx with rfl | hx
    · omega
    · exact dig_ltr (h n (by omega)) x hx)
theorem num_len {f : Nat → Nat} : ∀ {n : Nat}, (numL f n).length ≤ 3 * n
  | 0 => Nat.le_refl 0
  | n + 1 => by
    have h1 := num_len (f := f) (n := n)
    have h2 := dig_len (x := f n)
    show (numL f n ++ (32 :: digL (f n))).length ≤ _
    rw [List.length_append, List.length_cons]
    omega
/-- the text and the buffer, together -/
def WB (u : hp) (h : hg) (b : Nat) (K : Nat → Nat) (H : Nat → Nat → Nat) (d : Nat) (e : Int) (xs : List Int) : Prop := LW u K H d e xs ∧ rwI 0 (h b) 8 (bufF xs) ∧ ltr xs
section WN
variable {ad : Nat → Nat} {sc : Nat × (Nat → Int32)} {u : hp} {h : hg} {Q : qg} {k w m p cl : Nat} {ce : Nat → Nat} {K : Nat → Nat} {c sl : Nat}
variable {H : Nat → Nat → Nat} {d : Nat} {e : Int} {b : Nat}
theorem kw_put {xs : List Int} {z : Int} (hz : 0 ≤ z ∧ z < 128) (hW : WB u h b K H d e xs) (hn : xs.length < 580) : Gl ad sc 0 0 M_L_put [.ref (ad 0), .ref b, .int (I z)] u h (fun v u1 h1 => v = .null ∧ WB u1 h1 b K H d e (xs ++ [z]) ∧ FRM h h1 (fun x => x = b)) := by
  have hl : ltr (xs ++ [z]) := ltr_app hW.2.2 (fun x hx => by rw [List.mem_singleton.mp hx]; exact hz)
  have e9 : (fun (v : Value) (u1 : hp) (h1 : hg) => v = .null ∧ WB u1 h1 b K H d e (xs ++ [z]) ∧ FRM h h1 (fun x => x = b)) = (fun v u1 h1 => v = .null ∧ LW u1 K H d e (xs ++ [z]) ∧ rwI 0 (h1 b) 8 (bufF (xs ++ [z])) ∧ FRM h h1 (fun x => x = b)) := by
    funext v u1 h1
    apply propext
    unfold WB
    exact ⟨fun q => ⟨q.1, q.2.1.1, q.2.1.2.1, q.2.2⟩, fun q => ⟨q.1, ⟨q.2.1, q.2.2.1, hl⟩, q.2.2.2⟩⟩
  rw [e9]
  exact kt_put hW.2.2 hz hW.1 hW.2.1 hn
theorem kl_wrL {h0 : hg} {j : Nat} (hj : j < 24) {xs : List Int} (hn : xs.length + (litL j).length ≤ 580) (kk : ∀ u1 h1, WB u1 h1 b K H d e (xs ++ (litL j)) → FRM h0 h1 (fun x => x = b) → Gx ad sc M_L_write 26 [.ref (ad 0), .ref b, .ref (ad (2000 + j)), .int (I ((litL j).length : Int))] [] c sl u1 h1 Q) : ∀ (n k : Nat) (u1 : hp) (h1 : hg), k + n = (litL j).length → WB u1 h1 b K H d e (xs ++ (litL j).take k) → FRM h0 h1 (fun x => x = b) → Gx ad sc M_L_write 2 [.ref (ad 0), .ref b, .ref (ad (2000 + j)), .int (I (k : Int))] [] c sl u1 h1 Q := by
  intro n
  induction n with
  | zero =>
    intro k u1 h1 hk hW hF
    have hl := lit_len j hj
    refine bx_iload_n dL_write_2 rfl ?_
    refine bx_aload_n dL_write_3 rfl ?_
    refine gx_tlen (j := j) (v := I ((litL j).length : Nat)) dL_write_4 ln_L_write_23 (Nat.le_of_ble_eq_true rfl) hj (by rw [hl]) ?_
    refine bx_icmp_ge (tgt := 26) dL_write_7 (by decide) (by omega) (by omega) (fun c7 => ?_) (fun c7 => ?_)
    · obtain rfl : k = (litL j).length := by omega
      rw [List.take_length] at hW
      exact kk u1 h1 hW hF
    · exfalso
      omega
  | succ n ih =>
    intro k u1 h1 hk hW hF
    have hl := lit_len j hj
    refine bx_iload_n dL_write_2 rfl ?_
    refine bx_aload_n dL_write_3 rfl ?_
    refine gx_tlen (j := j) (v := I ((litL j).length : Nat)) dL_write_4 ln_L_write_23 (Nat.le_of_ble_eq_true rfl) hj (by rw [hl]) ?_
    refine bx_icmp_ge (tgt := 26) dL_write_7 (by decide) (by omega) (by omega) (fun c7 => ?_) (fun c7 => ?_)
    · exfalso
      omega
    · refine bx_aload_n dL_write_10 rfl ?_
      refine bx_aload_n dL_write_11 rfl ?_
      refine bx_aload_n dL_write_12 rfl ?_
      refine bx_iload_n dL_write_13 rfl ?_
      refine gx_tchr (j := j) (i := k) (v := I (gd (litL j) k)) dL_write_14 ln_L_write_29 (Nat.le_of_ble_eq_true rfl) hj rfl (by omega) (lit_at hj (by omega)) ?_
      refine bx_csv3 dL_write_17 ln_L_write_33 (Nat.le_of_ble_eq_true rfl) rfl (Nat.zero_le _) (Nat.zero_le _) (kw_put (gd_rg (lit_rg hj) k) hW (by rw [List.length_append, List.length_take]; omega)) (fun u9 h9 hq9 => ?_)
      obtain ⟨-, hW9, hF9⟩ := hq9
      refine bx_iinc dL_write_20 rfl rfl (by decide) rfl ?_
      refine bx_goto (tgt := 2) dL_write_23 (by decide) ?_
      exact ih (k + 1) u9 h9 (by omega) (by rw [tk_suc (by omega), ← List.append_assoc]; exact hW9) (hF.tr hF9)
theorem kw_lit {j : Nat} (hj : j < 24) {xs : List Int} (hW : WB u h b K H d e xs) (hn : xs.length + (litL j).length ≤ 580) : Gl ad sc 0 0 M_L_write [.ref (ad 0), .ref b, .ref (ad (2000 + j))] u h (fun v u1 h1 => v = .null ∧ WB u1 h1 b K H d e (xs ++ litL j) ∧ FRM h h1 (fun x => x = b)) := by
  refine bx_iconst dL_write_0 ?_
  refine bx_istore_n dL_write_1 rfl (by decide) rfl ?_
  refine kl_wrL hj hn (fun u1 h1 hW1 hF1 => ?_) (litL j).length 0 u h (by omega) (by rw [List.take_zero, List.append_nil]; exact hW) FRM.rf
  exact bx_vret dL_write_26 rfl ⟨rfl, hW1, hF1⟩
theorem kl_wrS {h0 : hg} {s va : Nat} {f : Nat → Int} {hs hz : Int32} {ys : List Int} (ha : h0 s = some (.inr (9, [.ref va, .int (I 0), .int hs, .int hz]))) (hv : rwI 1 (h0 va) ys.length f) (hf : ∀ i, i < ys.length → f i = gd ys i) (hy : ltr ys) (hsb : s ≠ b) (hvb : va ≠ b) {xs : List Int} (hn : xs.length + ys.length ≤ 580) (kk : ∀ u1 h1, WB u1 h1 b K H d e (xs ++ ys) → FRM h0 h1 (fun x => x = b) → Gx ad sc M_L_write 26 [.ref (ad 0), .ref b, .ref s, .int (I (ys.length : Int))] [] c sl u1 h1 Q) : ∀ (n k : Nat) (u1 : hp) (h1 : hg), k + n = ys.length → WB u1 h1 b K H d e (xs ++ ys.take k) → FRM h0 h1 (fun x => x = b) → Gx ad sc M_L_write 2 [.ref (ad 0), .ref b, .ref s, .int (I (k : Int))] [] c sl u1 h1 Q := by
  intro n
  induction n with
  | zero =>
    intro k u1 h1 hk hW hF
    have e1 : h1 s = some (.inr (9, [.ref va, .int (I 0), .int hs, .int hz])) := hF _ _ ha hsb
    have e2 := hv.fr hF hvb
    refine bx_iload_n dL_write_2 rfl ?_
    refine bx_aload_n dL_write_3 rfl ?_
    refine bx_cvP0 dL_write_4 ln_L_write_23 (Nat.le_of_ble_eq_true rfl) (by decide) e1 rfl (t_len e1 e2) ?_
    refine bx_icmp_ge (tgt := 26) dL_write_7 (by decide) (by omega) (by omega) (fun c7 => ?_) (fun c7 => ?_)
    · obtain rfl : k = ys.length := by omega
      rw [List.take_length] at hW
      exact kk u1 h1 hW hF
    · exfalso
      omega
  | succ n ih =>
    intro k u1 h1 hk hW hF
    have e1 : h1 s = some (.inr (9, [.ref va, .int (I 0), .int hs, .int hz])) := hF _ _ ha hsb
    have e2 := hv.fr hF hvb
    refine bx_iload_n dL_write_2 rfl ?_
    refine bx_aload_n dL_write_3 rfl ?_
    refine bx_cvP0 dL_write_4 ln_L_write_23 (Nat.le_of_ble_eq_true rfl) (by decide) e1 rfl (t_len e1 e2) ?_
    refine bx_icmp_ge (tgt := 26) dL_write_7 (by decide) (by omega) (by omega) (fun c7 => ?_) (fun c7 => ?_)
    · exfalso
      omega
    · refine bx_aload_n dL_write_10 rfl ?_
      refine bx_aload_n dL_write_11 rfl ?_
      refine bx_aload_n dL_write_12 rfl ?_
      refine bx_iload_n dL_write_13 rfl ?_
      refine bx_cvP1 dL_write_14 ln_L_write_29 (Nat.le_of_ble_eq_true rfl) (by decide) e1 rfl (by have := t_chr (ad := ad) (sc := sc) (u := u1) (c := 0) (sl := 0) e1 e2 (show k < ys.length by omega) (by omega) (by rw [hf k (by omega)]; exact gd_rg hy k); rw [hf k (by omega)] at this; exact this) ?_
      refine bx_csv3 dL_write_17 ln_L_write_33 (Nat.le_of_ble_eq_true rfl) rfl (Nat.zero_le _) (Nat.zero_le _) (kw_put (gd_rg hy k) hW (by rw [List.length_append, List.length_take]; omega)) (fun u9 h9 hq9 => ?_)
      obtain ⟨-, hW9, hF9⟩ := hq9
      refine bx_iinc dL_write_20 rfl rfl (by decide) rfl ?_
      refine bx_goto (tgt := 2) dL_write_23 (by decide) ?_
      exact ih (k + 1) u9 h9 (by omega) (by rw [tk_suc (by omega), ← List.append_assoc]; exact hW9) (hF.tr hF9)
theorem kw_str {s va : Nat} {f : Nat → Int} {hs hz : Int32} {ys : List Int} (ha : h s = some (.inr (9, [.ref va, .int (I 0), .int hs, .int hz]))) (hv : rwI 1 (h va) ys.length f) (hf : ∀ i, i < ys.length → f i = gd ys i) (hy : ltr ys) {xs : List Int} (hW : WB u h b K H d e xs) (hn : xs.length + ys.length ≤ 580) : Gl ad sc 0 0 M_L_write [.ref (ad 0), .ref b, .ref s] u h (fun v u1 h1 => v = .null ∧ WB u1 h1 b K H d e (xs ++ ys) ∧ FRM h h1 (fun x => x = b)) := by
  have hsb : s ≠ b := (hW.2.1.no ha).symm
  have hvb : va ≠ b := fun z => by
    obtain ⟨g1, a1, -⟩ := hv
    obtain ⟨g2, a2, -⟩ := hW.2.1
    rw [z, a2] at a1; cases a1
  refine bx_iconst dL_write_0 ?_
  refine bx_istore_n dL_write_1 rfl (by decide) rfl ?_
  refine kl_wrS ha hv hf hy hsb hvb hn (fun u1 h1 hW1 hF1 => ?_) ys.length 0 u h (by omega) (by rw [List.take_zero, List.append_nil]; exact hW) FRM.rf
  exact bx_vret dL_write_26 rfl ⟨rfl, hW1, hF1⟩
theorem kw_num {x : Nat} (hx : x < 100) {xs : List Int} (hW : WB u h b K H d e xs) (hn : xs.length + 2 ≤ 580) : Gl ad sc 0 0 M_L_writeNumber [.ref (ad 0), .ref b, .int (I (x : Int))] u h (fun v u1 h1 => v = .null ∧ WB u1 h1 b K H d e (xs ++ digL x) ∧ FRM h h1 (fun x => x = b)) := by
  by_cases h10 : x < 10
  · skip
    refine bx_iconst dL_writeNumber_0 ?_
    refine bx_istore_n dL_writeNumber_1 rfl (by decide) rfl ?_
    refine bx_iload_n dL_writeNumber_2 rfl ?_
    refine bx_iload_n dL_writeNumber_3 rfl ?_
    refine bx_bipush dL_writeNumber_4 (by decide) ?_
    refine bx_idiv dL_writeNumber_6 (by omega) (by omega) ?_
    refine bx_icmp_gt (tgt := 18) dL_writeNumber_7 (by decide) (by omega) (by omega) (fun c7 => ?_) (fun c7 => ?_)
    · refine bx_iload_n dL_writeNumber_18 rfl ?_
      refine bx_if_le (tgt := 44) dL_writeNumber_19 (by decide) (by omega) (fun c19 => ?_) (fun c19 => ?_)
      · exfalso
        omega
      · refine bx_aload_n dL_writeNumber_22 rfl ?_
        refine bx_aload_n dL_writeNumber_23 rfl ?_
        refine bx_bipush dL_writeNumber_24 (by decide) ?_
        refine bx_iload_n dL_writeNumber_26 rfl ?_
        refine bx_iload_n dL_writeNumber_27 rfl ?_
        refine bx_idiv dL_writeNumber_28 (by omega) (by omega) ?_
        refine bx_bipush dL_writeNumber_29 (by decide) ?_
        refine bx_irem dL_writeNumber_31 (by omega) (by omega) ?_
        refine bx_iadd dL_writeNumber_32 ?_
        refine bx_csv3 dL_writeNumber_33 ln_L_writeNumber_33 (Nat.le_of_ble_eq_true rfl) rfl (Nat.zero_le _) (Nat.zero_le _) (kw_put (z := 48 + (x : Int) / 1 % 10) (by omega) hW (by omega)) (fun u7 h7 hq7 => ?_)
        obtain ⟨-, hW7, hF7⟩ := hq7
        refine bx_iload_n dL_writeNumber_36 rfl ?_
        refine bx_bipush dL_writeNumber_37 (by decide) ?_
        refine bx_idiv dL_writeNumber_39 (by omega) (by omega) ?_
        refine bx_istore_n dL_writeNumber_40 rfl (by decide) rfl ?_
        refine bx_goto (tgt := 18) dL_writeNumber_41 (by decide) ?_
        refine bx_iload_n dL_writeNumber_18 rfl ?_
        refine bx_if_le (tgt := 44) dL_writeNumber_19 (by decide) (by omega) (fun c19 => ?_) (fun c19 => ?_)
        · exact bx_vret dL_writeNumber_44 rfl ⟨rfl, by have e9 : digL x = [48 + (x : Int) / 1 % 10] := (by unfold digL; rw [if_pos h10]; congr 1; omega); rw [e9]; exact hW7, hF7⟩
        · exfalso
          omega
    · exfalso
      omega
  · skip
    refine bx_iconst dL_writeNumber_0 ?_
    refine bx_istore_n dL_writeNumber_1 rfl (by decide) rfl ?_
    refine bx_iload_n dL_writeNumber_2 rfl ?_
    refine bx_iload_n dL_writeNumber_3 rfl ?_
    refine bx_bipush dL_writeNumber_4 (by decide) ?_
    refine bx_idiv dL_writeNumber_6 (by omega) (by omega) ?_
    refine bx_icmp_gt (tgt := 18) dL_writeNumber_7 (by decide) (by omega) (by omega) (fun c7 => ?_) (fun c7 => ?_)
    · exfalso
      omega
    · refine bx_iload_n dL_writeNumber_10 rfl ?_
      refine bx_bipush dL_writeNumber_11 (by decide) ?_
      refine bx_imul dL_writeNumber_13 ?_
      refine bx_istore_n dL_writeNumber_14 rfl (by decide) rfl ?_
      refine bx_goto (tgt := 2) dL_writeNumber_15 (by decide) ?_
      refine bx_iload_n dL_writeNumber_2 rfl ?_
      refine bx_iload_n dL_writeNumber_3 rfl ?_
      refine bx_bipush dL_writeNumber_4 (by decide) ?_
      refine bx_idiv dL_writeNumber_6 (by omega) (by omega) ?_
      refine bx_icmp_gt (tgt := 18) dL_writeNumber_7 (by decide) (by omega) (by omega) (fun c7 => ?_) (fun c7 => ?_)
      · refine bx_iload_n dL_writeNumber_18 rfl ?_
        refine bx_if_le (tgt := 44) dL_writeNumber_19 (by decide) (by omega) (fun c19 => ?_) (fun c19 => ?_)
        · exfalso
          omega
        · refine bx_aload_n dL_writeNumber_22 rfl ?_
          refine bx_aload_n dL_writeNumber_23 rfl ?_
          refine bx_bipush dL_writeNumber_24 (by decide) ?_
          refine bx_iload_n dL_writeNumber_26 rfl ?_
          refine bx_iload_n dL_writeNumber_27 rfl ?_
          refine bx_idiv dL_writeNumber_28 (by omega) (by omega) ?_
          refine bx_bipush dL_writeNumber_29 (by decide) ?_
          refine bx_irem dL_writeNumber_31 (by omega) (by omega) ?_
          refine bx_iadd dL_writeNumber_32 ?_
          refine bx_csv3 dL_writeNumber_33 ln_L_writeNumber_33 (Nat.le_of_ble_eq_true rfl) rfl (Nat.zero_le _) (Nat.zero_le _) (kw_put (z := 48 + (x : Int) / 10 % 10) (by omega) hW (by omega)) (fun u7 h7 hq7 => ?_)
          obtain ⟨-, hW7, hF7⟩ := hq7
          refine bx_iload_n dL_writeNumber_36 rfl ?_
          refine bx_bipush dL_writeNumber_37 (by decide) ?_
          refine bx_idiv dL_writeNumber_39 (by omega) (by omega) ?_
          refine bx_istore_n dL_writeNumber_40 rfl (by decide) rfl ?_
          refine bx_goto (tgt := 18) dL_writeNumber_41 (by decide) ?_
          refine bx_iload_n dL_writeNumber_18 rfl ?_
          refine bx_if_le (tgt := 44) dL_writeNumber_19 (by decide) (by omega) (fun c19 => ?_) (fun c19 => ?_)
          · exfalso
            omega
          · refine bx_aload_n dL_writeNumber_22 rfl ?_
            refine bx_aload_n dL_writeNumber_23 rfl ?_
            refine bx_bipush dL_writeNumber_24 (by decide) ?_
            refine bx_iload_n dL_writeNumber_26 rfl ?_
            refine bx_iload_n dL_writeNumber_27 rfl ?_
            refine bx_idiv dL_writeNumber_28 (by omega) (by omega) ?_
            refine bx_bipush dL_writeNumber_29 (by decide) ?_
            refine bx_irem dL_writeNumber_31 (by omega) (by omega) ?_
            refine bx_iadd dL_writeNumber_32 ?_
            refine bx_csv3 dL_writeNumber_33 ln_L_writeNumber_33 (Nat.le_of_ble_eq_true rfl) rfl (Nat.zero_le _) (Nat.zero_le _) (kw_put (z := 48 + (x : Int) / 1 % 10) (by omega) hW7 (by rw [List.length_append]; show xs.length + 1 < 580; omega)) (fun u8 h8 hq8 => ?_)
            obtain ⟨-, hW8, hF8⟩ := hq8
            refine bx_iload_n dL_writeNumber_36 rfl ?_
            refine bx_bipush dL_writeNumber_37 (by decide) ?_
            refine bx_idiv dL_writeNumber_39 (by omega) (by omega) ?_
            refine bx_istore_n dL_writeNumber_40 rfl (by decide) rfl ?_
            refine bx_goto (tgt := 18) dL_writeNumber_41 (by decide) ?_
            refine bx_iload_n dL_writeNumber_18 rfl ?_
            refine bx_if_le (tgt := 44) dL_writeNumber_19 (by decide) (by omega) (fun c19 => ?_) (fun c19 => ?_)
            · exact bx_vret dL_writeNumber_44 rfl ⟨rfl, by have e9 : digL x = [48 + (x : Int) / 10 % 10, 48 + (x : Int) / 1 % 10] := (by unfold digL; rw [if_neg h10, show (x : Int) / 10 % 10 = (x : Int) / 10 by omega, show (x : Int) / 1 % 10 = (x : Int) % 10 by omega]); rw [e9]; rw [List.append_assoc] at hW8; exact hW8, hF7.tr hF8⟩
            · exfalso
              omega
      · exfalso
        omega
theorem kl_wall {j r N : Nat} {f : Nat → Nat} {h0 : hg} {xs : List Int} (hr : rwI 0 (h0 r) N (fun i => (f i : Int))) (hN : N < 100) (hrb : r ≠ b) (hf : ∀ i, i < N → f i < 100) (hn : xs.length + 3 * N ≤ 580) (kk : ∀ u1 h1, WB u1 h1 b K H d e (xs ++ numL f N) → FRM h0 h1 (fun x => x = b) → Gx ad sc M_L_writeAll 51 [.ref (ad 0), .ref b, .ref (ad (2000 + j)), .ref r, .ref r, .int (I (N : Int)), .int (I (N : Int)), uk] [] c sl u1 h1 Q) : ∀ (n i : Nat) (u1 : hp) (h1 : hg), i + n = N → WB u1 h1 b K H d e (xs ++ numL f i) → FRM h0 h1 (fun x => x = b) → Gx ad sc M_L_writeAll 17 [.ref (ad 0), .ref b, .ref (ad (2000 + j)), .ref r, .ref r, .int (I (N : Int)), .int (I (i : Int)), uk] [] c sl u1 h1 Q := by
  intro n
  induction n with
  | zero =>
    intro i u1 h1 hi hW hF
    refine bx_iload dL_writeAll_17 rfl ?_
    refine bx_iload dL_writeAll_19 rfl ?_
    refine bx_icmp_ge (tgt := 51) dL_writeAll_21 (by decide) (by omega) (by omega) (fun c21 => ?_) (fun c21 => ?_)
    · obtain rfl : i = N := by omega
      exact kk u1 h1 hW hF
    · exfalso
      omega
  | succ n ih =>
    intro i u1 h1 hi hW hF
    have hr1 := hr.fr hF hrb
    have hf1 := hf i (by omega)
    have nl := num_len (f := f) (n := i)
    have l18 : litL 18 = [32] := by decide +kernel
    refine bx_iload dL_writeAll_17 rfl ?_
    refine bx_iload dL_writeAll_19 rfl ?_
    refine bx_icmp_ge (tgt := 51) dL_writeAll_21 (by decide) (by omega) (by omega) (fun c21 => ?_) (fun c21 => ?_)
    · exfalso
      omega
    · refine bx_aload dL_writeAll_24 rfl ?_
      refine bx_iload dL_writeAll_26 rfl ?_
      refine bx_ialr (j := i) dL_writeAll_28 hr1 rfl (by omega) (by omega) rfl ?_
      refine bx_istore dL_writeAll_29 rfl (by decide) rfl ?_
      refine bx_aload_n dL_writeAll_31 rfl ?_
      refine bx_aload_n dL_writeAll_32 rfl ?_
      refine gx_ldcS (j := 18) (tx := " ") (by decide) dL_writeAll_33 ?_
      refine bx_csv3 dL_writeAll_35 ln_L_writeAll_105 (Nat.le_of_ble_eq_true rfl) rfl (Nat.zero_le _) (Nat.zero_le _) (kw_lit (j := 18) (by decide) hW (by rw [l18, List.length_append]; show _ + 1 ≤ _; omega)) (fun u7 h7 hq7 => ?_)
      obtain ⟨-, hW7, hF7⟩ := hq7
      rw [l18] at hW7
      refine bx_aload_n dL_writeAll_38 rfl ?_
      refine bx_aload_n dL_writeAll_39 rfl ?_
      refine bx_iload dL_writeAll_40 rfl ?_
      refine bx_csv3 dL_writeAll_42 ln_L_writeAll_111 (Nat.le_of_ble_eq_true rfl) rfl (Nat.zero_le _) (Nat.zero_le _) (kw_num hf1 hW7 (by rw [List.length_append, List.length_append]; show _ + 1 + 2 ≤ _; omega)) (fun u8 h8 hq8 => ?_)
      obtain ⟨-, hW8, hF8⟩ := hq8
      refine bx_iinc dL_writeAll_45 rfl rfl (by decide) rfl ?_
      refine bx_goto (tgt := 17) dL_writeAll_48 (by decide) ?_
      refine gx_forg (i := 7) ?_
      exact ih (i + 1) u8 h8 (by omega) (by rw [List.append_assoc, List.append_assoc] at hW8; exact hW8) ((hF.tr hF7).tr hF8)
theorem kw_all {j r N : Nat} {f : Nat → Nat} (hj : j < 24) {xs : List Int} (hr : rwI 0 (h r) N (fun i => (f i : Int))) (hN : N < 100) (hrb : r ≠ b) (hf : ∀ i, i < N → f i < 100) (hW : WB u h b K H d e xs) (hn : xs.length + (litL j).length + 3 * N ≤ 580) : Gl ad sc 0 0 M_L_writeAll [.ref (ad 0), .ref b, .ref (ad (2000 + j)), .ref r] u h (fun v u1 h1 => v = .null ∧ WB u1 h1 b K H d e (xs ++ (litL j ++ numL f N)) ∧ FRM h h1 (fun x => x = b)) := by
  refine bx_aload_n dL_writeAll_0 rfl ?_
  refine bx_aload_n dL_writeAll_1 rfl ?_
  refine bx_aload_n dL_writeAll_2 rfl ?_
  refine bx_csv3 dL_writeAll_3 ln_L_writeAll_105 (Nat.le_of_ble_eq_true rfl) rfl (Nat.zero_le _) (Nat.zero_le _) (kw_lit hj hW (by omega)) (fun u7 h7 hq7 => ?_)
  obtain ⟨-, hW7, hF7⟩ := hq7
  refine bx_aload_n dL_writeAll_6 rfl ?_
  refine bx_astore dL_writeAll_7 rfl (by decide) rfl ?_
  refine bx_aload dL_writeAll_9 rfl ?_
  refine bx_alni dL_writeAll_11 (hr.fr hF7 hrb) (by decide) ?_
  refine bx_istore dL_writeAll_12 rfl (by decide) rfl ?_
  refine bx_iconst dL_writeAll_14 ?_
  refine bx_istore dL_writeAll_15 rfl (by decide) rfl ?_
  refine kl_wall (xs := xs ++ litL j) (hr.fr hF7 hrb) hN hrb hf (by rw [List.length_append]; omega) (fun u8 h8 hW8 hF8 => ?_) N 0 u7 h7 (by omega) (by rw [show numL f 0 = [] from rfl, List.append_nil]; exact hW7) FRM.rf
  exact bx_vret dL_writeAll_51 rfl ⟨rfl, by rw [List.append_assoc] at hW8; exact hW8, hF7.tr hF8⟩
theorem LA.rw {u : hp} {K K1 : Nat → Nat} {H H1 : Nat → Nat → Nat} {d d1 : Nat} {e e1 : Int} {r T r1 : Nat → Int} {u1 : hp} (hL : LA u K H d e r T) {KS : Nat → Nat} (h1 : SA 112 u1 1 K1) (h2 : SA 112 u1 11 KS) (h3 : KO u1 e1) (h4 : CH 112 u1 H1 d1) (h5 : RO u1 r1) (hy : ∀ a, a ≠ 110 → 103 ≤ a → u1 a = u a) : LA u1 K1 H1 d1 e1 r1 T := by
  obtain ⟨a1, ⟨KS, a2⟩, a3, a4, a5, a6, a7, a8, a9, ⟨n0, a10⟩, a11, a12, a13⟩ := hL
  exact ⟨h1, ⟨_, h2⟩, h3, h4, h5, a6.mv (hy 111 (by decide) (by decide)), (hy 103 (by decide) (by decide)).trans a7, a8.mv (hy 104 (by decide) (by decide)), a9.mv (hy 105 (by decide) (by decide)), ⟨n0, (hy 106 (by decide) (by decide)).trans a10⟩, a11.mv (hy 107 (by decide) (by decide)), a12.mv (hy 108 (by decide) (by decide)), a13.mv (hy 109 (by decide) (by decide))⟩
theorem kw_load {xs : List Int} {K1 : Nat → Nat} (hW : WB u h b K H d e xs) (hn : xs.length ≤ 560) (hP : ∀ T, (∀ i, i < xs.length → T i = gd xs i) → setP T xs.length = .inr K1) : Gl ad sc 1 6 M_L_loadText [.ref (ad 0), .ref b] u h (fun v u1 h1 => v = .int (I (allC K1)) ∧ WB u1 h1 b K1 (psh K H) (min (d + 1) 8) (-1) [] ∧ FRM h h1 (fun x => x = b)) := by
  obtain ⟨⟨r, T, hLA, hT, hr1, hTi⟩, hB, hx⟩ := hW
  have hF : FF xs + xs.length % 20 = xs.length := by unfold FF; omega
  have hsp : ∀ {u2 : hp} {r2 T2 : Nat → Int}, LA u2 K H d e r2 T2 → TX T2 → (xs.length : Int) ≤ r2 1 ∧ r2 1 ≤ 600 → (∀ i, i < xs.length → T2 i = gd xs i) → ∃ Q1 : Int32 → hp → Prop, WF M_L_load H_load [.ref 0, .int (I (xs.length : Int))] u2 Q1 ∧ ∀ v u3, Q1 v u3 → v = I (allC K1) ∧ ∃ r3, LA u3 K1 (psh K H) (min (d + 1) 8) (-1) r3 T2 ∧ r3 1 = 0 := by
    intro u2 r2 T2 hL2 hT2 hn2 hi2
    obtain ⟨a1, ⟨KS, a2⟩, a3, a4, a5, a6, -⟩ := id hL2
    refine ⟨_, fun Γ l St adV hE hX hl9 hLn => wr_load hE hX hl9 (by decide) a3 (sp_load (Nat.le_refl _) hT2 a3 a1 a2 a4 a5 a6 hn2), fun v u3 hq => ?_⟩
    obtain ⟨e1, r1, KS1, z, hv, h1, h2, h3, h4, h5, h6⟩ := hq
    cases hv
    rcases h6 with ⟨c9, b9, hs, -⟩ | ⟨K2, hs, rfl, rfl, h7, h8⟩
    · rw [hP T2 hi2] at hs; cases hs
    · rw [hP T2 hi2] at hs
      cases hs
      exact ⟨rfl, r1, hL2.rw h7 h4 h1 h8 h2 h5, h3⟩
  refine bx_aload_n dL_loadText_0 rfl ?_
  refine bx_iconst dL_loadText_1 ?_
  refine bx_ialr (j := 0) (w := (xs.length : Int)) dL_loadText_2 hB rfl (by decide) (by omega) rfl ?_
  refine bx_istore_n dL_loadText_3 rfl (by decide) rfl ?_
  refine bx_iload_n dL_loadText_4 rfl ?_
  refine bx_bipush dL_loadText_5 (by decide) ?_
  refine bx_irem dL_loadText_7 (by omega) (by omega) ?_
  refine bx_if_le (tgt := 16) dL_loadText_8 (by decide) (by omega) (fun q8 => ?_) (fun q8 => ?_)
  · refine bx_aload_n dL_loadText_16 rfl ?_
    refine bx_iconst dL_loadText_17 ?_
    refine bx_iconst dL_loadText_18 ?_
    refine bx_iasr (j := 0) dL_loadText_19 hB rfl (by decide) (by omega) (fun e19 he19 => ?_)
    refine gx_gen (fun g2 q2 => ?_)
    have B2 := he19.mv (show g2 b = some e19 by rw [q2]; exact ug_eq)
    have F2 : FRM h g2 (fun x => x = b) := FRM.rf.tr (by rw [q2]; exact FRM.u1 rfl)
    obtain ⟨Q9, hWF, hQ9⟩ := hsp hLA hT ⟨by rw [hr1]; unfold FF at *; omega, by rw [hr1]; unfold FF at *; omega⟩ (fun i hi => hTi i (by omega))
    obtain ⟨-, -, hko, -⟩ := id hLA
    refine bx_aload_n dL_loadText_20 rfl ?_
    refine bx_iload_n dL_loadText_21 rfl ?_
    refine gx_cwr (n := 2) (As := [.int (I (xs.length : Int))]) dL_loadText_22 ln_L_loadText_19 rfl (Nat.le_of_ble_eq_true rfl) (nrI (xs := [I (xs.length : Int)])) (Nat.le_refl _) (Nat.le_refl _) hWF (fun r9 u9 hq9 => ?_)
    obtain ⟨rfl, r3, hL3, hr3⟩ := hQ9 _ _ hq9
    exact bx_iret dL_loadText_25 rfl ⟨rfl, ⟨⟨r3, _, hL3, hT, by rw [hr3]; rfl, fun i hi => absurd hi (Nat.not_lt_zero _)⟩, B2.cong (fun i hi => by
        rw [buf_new (xs := []) rfl i hi]
        unfold upZ
        by_cases q : i = 0
        · rw [if_pos q, if_pos q]; rfl
        · rw [if_neg q, if_neg q]
          have := buf_new (xs := xs) (by omega) i hi
          rw [if_neg q] at this
          exact this), fun x hx => by cases hx⟩, F2⟩
  · refine bx_aload_n dL_loadText_11 rfl ?_
    refine bx_aload_n dL_loadText_12 rfl ?_
    refine bx_csv2 dL_loadText_13 ln_L_loadText_7 (Nat.le_of_ble_eq_true rfl) rfl (Nat.zero_le _) (Nat.zero_le _) (kt_flush (f := FF xs) hx hLA hT hr1 (by unfold FF at *; omega) hB (fun j hj => by
      unfold bufF wdR
      rw [if_neg (by omega), if_pos (by omega), show 1 + j - 1 = j by omega])) (fun u7 h7 hq7 => ?_)
    obtain ⟨-, ⟨r7, T7, hLA7, hT7, hr7, ho7, hi7⟩, B7, F7⟩ := hq7
    refine bx_aload_n dL_loadText_16 rfl ?_
    refine bx_iconst dL_loadText_17 ?_
    refine bx_iconst dL_loadText_18 ?_
    refine bx_iasr (j := 0) dL_loadText_19 B7 rfl (by decide) (by omega) (fun e19 he19 => ?_)
    refine gx_gen (fun g2 q2 => ?_)
    have B2 := he19.mv (show g2 b = some e19 by rw [q2]; exact ug_eq)
    have F2 : FRM h g2 (fun x => x = b) := F7.tr (by rw [q2]; exact FRM.u1 rfl)
    obtain ⟨Q9, hWF, hQ9⟩ := hsp hLA7 hT7 ⟨by rw [hr7]; unfold FF at *; omega, by rw [hr7]; unfold FF at *; omega⟩ (fun i hi => by
    by_cases q : i < FF xs
    · rw [ho7 i q, hTi i q]
    · have := hi7 (i - FF xs) (by omega)
      rw [show FF xs + (i - FF xs) = i by omega] at this
      exact this)
    obtain ⟨-, -, hko, -⟩ := id hLA7
    refine bx_aload_n dL_loadText_20 rfl ?_
    refine bx_iload_n dL_loadText_21 rfl ?_
    refine gx_cwr (n := 2) (As := [.int (I (xs.length : Int))]) dL_loadText_22 ln_L_loadText_19 rfl (Nat.le_of_ble_eq_true rfl) (nrI (xs := [I (xs.length : Int)])) (Nat.le_refl _) (Nat.le_refl _) hWF (fun r9 u9 hq9 => ?_)
    obtain ⟨rfl, r3, hL3, hr3⟩ := hQ9 _ _ hq9
    exact bx_iret dL_loadText_25 rfl ⟨rfl, ⟨⟨r3, _, hL3, hT7, by rw [hr3]; rfl, fun i hi => absurd hi (Nat.not_lt_zero _)⟩, B2.cong (fun i hi => by
        rw [buf_new (xs := []) rfl i hi]
        unfold upZ
        by_cases q : i = 0
        · rw [if_pos q, if_pos q]; rfl
        · rw [if_neg q, if_neg q]
          dsimp only
          by_cases q6 : 1 ≤ i ∧ i < 6
          · rw [if_pos q6]
          · rw [if_neg q6]
            unfold bufF
            rw [if_neg q, if_neg (by omega)]), fun x hx => by cases hx⟩, F2⟩
end WN
