/-! SOUNDNESS of the library's members: Math.max, min, abs, Integer.compare, signum, Arrays.fill, System.arraycopy -/
def yJ_compare : MethodName := ⟨"java/lang/Integer", "compare", "(II)I"⟩
abbrev J_compare : mt := (yJ_compare, prog_18_method_40_code, 2, some .int, 0, 0)
theorem dJ_compare_0 : decode prog_18_method_40_code 0 = .ok (.iload_n 0, 1) := by decide +kernel
theorem dJ_compare_1 : decode prog_18_method_40_code 1 = .ok (.iload_n 1, 1) := by decide +kernel
theorem dJ_compare_2 : decode prog_18_method_40_code 2 = .ok (.if_icmp .ge 7, 3) := by decide +kernel
theorem dJ_compare_5 : decode prog_18_method_40_code 5 = .ok (.iconst (-1), 1) := by decide +kernel
theorem dJ_compare_6 : decode prog_18_method_40_code 6 = .ok (.goto 13, 3) := by decide +kernel
theorem dJ_compare_9 : decode prog_18_method_40_code 9 = .ok (.iload_n 0, 1) := by decide +kernel
theorem dJ_compare_10 : decode prog_18_method_40_code 10 = .ok (.iload_n 1, 1) := by decide +kernel
theorem dJ_compare_11 : decode prog_18_method_40_code 11 = .ok (.if_icmp .ne 7, 3) := by decide +kernel
theorem dJ_compare_14 : decode prog_18_method_40_code 14 = .ok (.iconst 0, 1) := by decide +kernel
theorem dJ_compare_15 : decode prog_18_method_40_code 15 = .ok (.goto 4, 3) := by decide +kernel
theorem dJ_compare_18 : decode prog_18_method_40_code 18 = .ok (.iconst 1, 1) := by decide +kernel
theorem dJ_compare_19 : decode prog_18_method_40_code 19 = .ok (.ireturn, 1) := by decide +kernel
theorem lnJ_compare {M : mt} {ix : Nat} (h : (M.1.cls, ix, 3) ∈ libL) (r : lbR M 3) : lnS M ix J_compare 2 := by
  have r2 : 2 ≤ M.2.2.2.2.1 ∧ 50 ≤ M.2.2.2.2.2 := by simpa [lbR] using r
  have hl : Cond.methodLink M.1.cls ix yJ_compare ∈ gT := by
    unfold libL at h
    simp at h
    rw [h.1, h.2]
    exact gT_mem 893 (by decide +kernel) (by decide +kernel)
  exact ⟨⟨hl, gT_mem 40 (by decide +kernel) (by decide +kernel), gT_mem 399 (by decide +kernel) (by decide +kernel), ⟨by decide +kernel, by decide +kernel, by decide +kernel⟩, by decide, by show 0 + 1 ≤ _; omega, by show 8 + (2 + 11) + 0 ≤ _; omega⟩, gT_mem 398 (by decide +kernel) (by decide +kernel), Nat.le_of_ble_eq_true rfl⟩
def yJ_fill : MethodName := ⟨"java/util/Arrays", "fill", "([II)V"⟩
abbrev J_fill : mt := (yJ_fill, prog_28_method_103_code, 4, none, 0, 0)
theorem dJ_fill_0 : decode prog_28_method_103_code 0 = .ok (.iconst 0, 1) := by decide +kernel
theorem dJ_fill_1 : decode prog_28_method_103_code 1 = .ok (.istore_n 2, 1) := by decide +kernel
theorem dJ_fill_2 : decode prog_28_method_103_code 2 = .ok (.aload_n 0, 1) := by decide +kernel
theorem dJ_fill_3 : decode prog_28_method_103_code 3 = .ok (.arraylength, 1) := by decide +kernel
theorem dJ_fill_4 : decode prog_28_method_103_code 4 = .ok (.istore_n 3, 1) := by decide +kernel
theorem dJ_fill_5 : decode prog_28_method_103_code 5 = .ok (.iload_n 2, 1) := by decide +kernel
theorem dJ_fill_6 : decode prog_28_method_103_code 6 = .ok (.iload_n 3, 1) := by decide +kernel
theorem dJ_fill_7 : decode prog_28_method_103_code 7 = .ok (.if_icmp .ge 13, 3) := by decide +kernel
theorem dJ_fill_10 : decode prog_28_method_103_code 10 = .ok (.aload_n 0, 1) := by decide +kernel
theorem dJ_fill_11 : decode prog_28_method_103_code 11 = .ok (.iload_n 2, 1) := by decide +kernel
theorem dJ_fill_12 : decode prog_28_method_103_code 12 = .ok (.iload_n 1, 1) := by decide +kernel
theorem dJ_fill_13 : decode prog_28_method_103_code 13 = .ok (.iastore, 1) := by decide +kernel
theorem dJ_fill_14 : decode prog_28_method_103_code 14 = .ok (.iinc 2 1, 3) := by decide +kernel
theorem dJ_fill_17 : decode prog_28_method_103_code 17 = .ok (.goto (-12), 3) := by decide +kernel
theorem dJ_fill_20 : decode prog_28_method_103_code 20 = .ok (.return_, 1) := by decide +kernel
theorem lnJ_fill {M : mt} {ix : Nat} (h : (M.1.cls, ix, 5) ∈ libL) (r : lbR M 5) : lnS M ix J_fill 2 := by
  have r2 : 2 ≤ M.2.2.2.2.1 ∧ 50 ≤ M.2.2.2.2.2 := by simpa [lbR] using r
  have hl : Cond.methodLink M.1.cls ix yJ_fill ∈ gT := by
    unfold libL at h
    simp at h
    rcases h with h | h
    · rw [h.1, h.2]; exact gT_mem 798 (by decide +kernel) (by decide +kernel)
    · rw [h.1, h.2]; exact gT_mem 73 (by decide +kernel) (by decide +kernel)
  exact ⟨⟨hl, gT_mem 30 (by decide +kernel) (by decide +kernel), gT_mem 75 (by decide +kernel) (by decide +kernel), ⟨by decide +kernel, by decide +kernel, by decide +kernel⟩, by decide, by show 0 + 1 ≤ _; omega, by show 8 + (4 + 11) + 0 ≤ _; omega⟩, gT_mem 74 (by decide +kernel) (by decide +kernel), Nat.le_of_ble_eq_true rfl⟩
theorem sig_id (x : Int32) : (x >>> ((31 : Int32) &&& 31)) ||| ((-x).toUInt32 >>> ((31 : Int32).toUInt32 &&& Int32.toUInt32 31)).toInt32 = if x < 0 then -1 else if x = 0 then 0 else 1 := by
  have e1 : ((x >>> ((31 : Int32) &&& 31)) ||| ((-x).toUInt32 >>> ((31 : Int32).toUInt32 &&& Int32.toUInt32 31)).toInt32).toBitVec = x.toBitVec.sshiftRight 31 ||| (-x.toBitVec) >>> 31 := rfl
  apply Int32.toBitVec_inj.mp
  rw [e1]
  have hx : x.toInt = x.toBitVec.toInt := rfl
  have h1 := Int32.le_toInt x
  have h2 := Int32.toInt_lt x
  have hs : (x.toBitVec.sshiftRight 31).toInt = x.toInt / 2147483648 := by
    rw [BitVec.toInt_sshiftRight, Int.shiftRight_eq_div_pow]; rfl
  by_cases q1 : x < 0
  · rw [if_pos q1]
    rw [Int32.lt_iff_toInt_lt] at q1
    have q2 : x.toInt < 0 := q1
    have e2 : x.toBitVec.sshiftRight 31 = BitVec.allOnes 32 := by
      apply BitVec.eq_of_toInt_eq
      rw [hs, BitVec.toInt_allOnes]
      simp
      omega
    rw [e2, BitVec.allOnes_or]
    rfl
  · rw [if_neg q1]
    by_cases q3 : x = 0
    · subst q3; rfl
    · rw [if_neg q3]
      have q2 : 0 ≤ x.toInt := by
        rw [Int32.lt_iff_toInt_lt] at q1
        have : ¬ x.toInt < 0 := q1
        omega
      have q4 : x.toInt ≠ 0 := fun z => q3 (Int32.toInt_inj.mp z)
      have e2 : x.toBitVec.sshiftRight 31 = 0#32 := by
        apply BitVec.eq_of_toInt_eq
        rw [hs]
        show x.toInt / 2147483648 = 0
        omega
      have e3 : (-x.toBitVec) >>> 31 = 1#32 := by
        apply BitVec.eq_of_toNat_eq
        rw [BitVec.toNat_ushiftRight, BitVec.toNat_neg, Nat.shiftRight_eq_div_pow]
        have e5 := BitVec.toInt_eq_toNat_cond x.toBitVec
        have e6 := x.toBitVec.isLt
        show (2 ^ 32 - x.toBitVec.toNat) % 2 ^ 32 / 2 ^ 31 = 1
        rw [hx, e5] at q2 q4
        split at q2
        · rename_i q5
          rw [if_pos q5] at q4
          omega
        · omega
      rw [e2, e3]
      rfl
section LIB
variable {Γ : en} {l : Launch} {St : State → Prop} {NC : Nat}
theorem j_compare (hE : envOK Γ St) {h : hp} {x y : Int32} : Snd Γ l St NC none J_compare 0 (pad 2 [.int x, .int y]) [] h (fun v h1 => v = .int (if x < y then -1 else if x = y then 0 else 1) ∧ h1 = h) := by
  refine sn_iload_n hE (i := 0) (x := x) rfl rfl dJ_compare_0 ?_
  refine sn_iload_n hE (i := 1) (x := y) rfl rfl dJ_compare_1 ?_
  refine sn_icmp_ge hE (tgt := 9) dJ_compare_2 (by decide) (fun q => ?_) (fun q => ?_)
  · refine sn_iload_n hE (i := 0) (x := x) rfl rfl dJ_compare_9 ?_
    refine sn_iload_n hE (i := 1) (x := y) rfl rfl dJ_compare_10 ?_
    refine sn_icmp_ne hE (tgt := 18) dJ_compare_11 (by decide) (fun q2 => ?_) (fun q2 => ?_)
    · refine sn_iconst hE (v := 1) (by decide) dJ_compare_18 ?_
      exact sn_iret hE dJ_compare_19 rfl ⟨by rw [if_neg (Int32.not_lt.mpr q), if_neg q2], rfl⟩
    · refine sn_iconst hE (v := 0) (by decide) dJ_compare_14 ?_
      refine sn_goto hE (tgt := 19) dJ_compare_15 (by decide) ?_
      exact sn_iret hE dJ_compare_19 rfl ⟨by rw [if_neg (Int32.not_lt.mpr q), if_pos (Classical.not_not.mp q2)], rfl⟩
  · refine sn_iconst hE (v := -1) (by decide) dJ_compare_5 ?_
    refine sn_goto hE (tgt := 19) dJ_compare_6 (by decide) ?_
    exact sn_iret hE dJ_compare_19 rfl ⟨by rw [if_pos (Int32.not_le.mp q)], rfl⟩
theorem up2_same {h : hp} {a : Nat} {e e2 : va_E} : va_up (va_up h a e) a e2 = va_up h a e2 := by
  funext b; unfold va_up; split <;> rfl
theorem up_id {h : hp} {a : Nat} {e : va_E} (he : h a = e) : va_up h a e = h := by
  funext b; unfold va_up; split
  · rename_i q; rw [q, he]
  · rfl
theorem j_fillL (hE : envOK Γ St) {h : hp} {a n : Nat} {v : Int32} (hn : a < NC) (hn2 : n < 100000) : ∀ (k i : Nat) (g : Nat → Int32), i + k = n → (∀ j, j < i → g j = v) → Snd Γ l St NC none J_fill 5 [.ref a, .int v, .int (nI i), .int (nI n)] [] (va_up h a (.inl (0, n, .inl g))) (fun _ h1 => ∃ g', h1 = va_up h a (.inl (0, n, .inl g')) ∧ ∀ j, j < n → g' j = v) := by
  intro k
  induction k with
  | zero =>
    intro i g hi hg
    have e : i = n := by omega
    subst e
    refine sn_iload_n hE (i := 2) (x := nI i) rfl rfl dJ_fill_5 ?_
    refine sn_iload_n hE (i := 3) (x := nI i) rfl rfl dJ_fill_6 ?_
    refine sn_icmp_ge hE (tgt := 20) dJ_fill_7 (by decide) (fun q => ?_) (fun q => ?_)
    · exact sn_vret hE dJ_fill_20 rfl ⟨g, rfl, hg⟩
    · exact absurd (nI_le (Nat.le_refl i) (by omega)) q
  | succ k ih =>
    intro i g hi hg
    refine sn_iload_n hE (i := 2) (x := nI i) rfl rfl dJ_fill_5 ?_
    refine sn_iload_n hE (i := 3) (x := nI n) rfl rfl dJ_fill_6 ?_
    refine sn_icmp_ge hE (tgt := 20) dJ_fill_7 (by decide) (fun q => ?_) (fun q => ?_)
    · exact absurd q (nI_ge (by omega) (by omega))
    · refine sn_aload_n hE (i := 0) (x := a) rfl rfl dJ_fill_10 ?_
      refine sn_iload_n hE (i := 2) (x := nI i) rfl rfl dJ_fill_11 ?_
      refine sn_iload_n hE (i := 1) (x := v) rfl rfl dJ_fill_12 ?_
      refine sn_iast hE dJ_fill_13 hn vu_eq (vp_in_nI (by omega) (by omega)) ?_
      rw [up2_same, nI_clamp (by omega)]
      refine sn_iinc hE (i := 2) (v := nI (i + 1)) dJ_fill_14 rfl (nI_1 i) (by decide) ?_
      refine sn_goto hE (tgt := 5) dJ_fill_17 (by decide) ?_
      refine ih (i + 1) (upd g i v) (by omega) (fun j hj => ?_)
      unfold upd
      split
      · rfl
      · exact hg j (by omega)
theorem j_fill (hE : envOK Γ St) {h : hp} {a n : Nat} {v : Int32} {f : Nat → Int32} (hn : a < NC) (ha : h a = .inl (0, n, .inl f)) (hn2 : n < 100000) : Snd Γ l St NC none J_fill 0 (pad 4 [.ref a, .int v]) [] h (fun _ h1 => ∃ g', h1 = va_up h a (.inl (0, n, .inl g')) ∧ ∀ j, j < n → g' j = v) := by
  refine sn_iconst hE (v := 0) (by decide) dJ_fill_0 ?_
  refine sn_istore_n hE (i := 2) dJ_fill_1 rfl (by decide) ?_
  refine sn_aload_n hE (i := 0) (x := a) rfl rfl dJ_fill_2 ?_
  refine sn_alen hE (v := nI n) hn ha (by decide) rfl dJ_fill_3 ?_
  refine sn_istore_n hE (i := 3) dJ_fill_4 rfl (by decide) ?_
  have := j_fillL (l := l) hE (h := h) (v := v) hn hn2 n 0 f (by omega) (fun j hj => by omega)
  rw [up_id ha, nI_0] at this
  exact this
theorem cell_cg {cA : ClassId} {n : Nat} {f g : Nat → Int32} (hfg : ∀ j, j < n → f j = g j) : vp_cell cA (n, .inl f) = vp_cell cA (n, .inl g) := by
  show arrV cA n (fun j => .int (f j)) = arrV cA n (fun j => .int (g j))
  unfold arrV
  congr 1
  apply Array.ext
  · simp
  · intro i h1 h2
    simp at h1
    simp [hfg i (by simpa using h1)]
theorem snd_cg {b : Option String} {M : mt} {pc : Nat} {L S : List Value} {h : hp} {Q : qt} {a n : Nat} {f g : Nat → Int32} (hfg : ∀ j, j < n → f j = g j) (k : Snd Γ l St NC b M pc L S (va_up h a (.inl (0, n, .inl f))) Q) : Snd Γ l St NC b M pc L S (va_up h a (.inl (0, n, .inl g))) Q := by
  intro p e s m args below meth c H locs ls hC hW hL
  refine k p e s m args below meth c H locs ls hC ⟨?_, ?_, hW.2.2⟩ hL
  · intro i q hq
    by_cases hi : i < NC
    · rw [ws_get hi] at hq
      cases hq
      have h1 := hW.1 i _ (ws_get (h := va_up h a (.inl (0, n, .inl g))) hi)
      by_cases e : i = a
      · subst e
        rw [vu_eq] at h1 ⊢
        show H[Γ.1 i]? = some (vp_cell (Γ.2.2.1 0) (n, .inl f))
        rw [cell_cg hfg]
        exact h1
      · rw [vu_ne e] at h1 ⊢
        exact h1
    · rw [List.getElem?_eq_none_iff.mpr (by simpa [wsOf] using hi)] at hq
      cases hq
  · have key : ∀ (i : Nat) (q : Nat × va_E), (wsOf Γ NC (va_up h a (.inl (0, n, .inl f))))[i]? = some q → ∃ e, (wsOf Γ NC (va_up h a (.inl (0, n, .inl g))))[i]? = some (q.1, e) := by
      intro i q hq
      by_cases hi : i < NC
      · rw [ws_get hi] at hq
        cases hq
        exact ⟨_, ws_get hi⟩
      · rw [List.getElem?_eq_none_iff.mpr (by simpa [wsOf] using hi)] at hq
        cases hq
    refine ⟨fun i j x y hx hy hxy => ?_, fun i q hq => ?_⟩
    · obtain ⟨e1, h1⟩ := key i x hx
      obtain ⟨e2, h2⟩ := key j y hy
      exact hW.2.1.1 i j _ _ h1 h2 hxy
    · obtain ⟨e1, h1⟩ := key i q hq
      exact hW.2.1.2 i (q.1, e1) h1
theorem sn_l_compare (hE : envOK Γ St) : k_l_compare (Snd Γ l St NC) := by
  intro b M pc L S h Q ix x y hd hi hr hS kn
  exact sn_csi hE (As := [.int x, .int y]) hd (lnJ_compare hi hr) rfl rfl hS (Or.inl rfl) (j_compare hE) (fun r h1 hq => by
    obtain ⟨q1, rfl⟩ := hq
    cases q1
    exact kn)
theorem sn_l_max (hE : envOK Γ St) : k_l_max (Snd Γ l St NC) := by
  intro b M pc L S h Q ix x y hd hi hr hcS kn p e s m args below meth c H locs ls hC hW hL
  obtain ⟨hx, hb, hrt, hml, hown, hts, hlocks, hexc, hK, hSt⟩ := id hC
  have r2 : 2 ≤ M.2.2.2.2.1 ∧ 50 ≤ M.2.2.2.2.2 := by simpa [lbR] using hr
  have hlink : (Cond.methodLink M.1.cls ix Lib.Math.max.name) ∈ gT := by
    unfold libL at hi
    simp at hi
    rw [hi.1, hi.2]; exact gT_mem 752 (by decide +kernel) (by decide +kernel)
  refine va_mmax (rest := S.map (trV Γ.1)) hx hb (hml.trans hL.1.symm) hown (hts _ hlink) (hts _ (gT_mem 423 (by decide +kernel) (by decide +kernel))) (hts _ (gT_mem 37 (by decide +kernel) (by decide +kernel))) (hts _ (gT_mem 424 (by decide +kernel) (by decide +kernel))) (by show 1 ≤ M.2.2.2.2.1; omega) ?_ (Nat.zero_le _) (Nat.zero_le _) hd ?_
  · have := cat_map (ad := Γ.1) hcS
    show _ ≤ M.2.2.2.2.2
    omega
  · exact kn p e s m args below meth c H locs ls hC hW hL
theorem sn_l_min (hE : envOK Γ St) : k_l_min (Snd Γ l St NC) := by
  intro b M pc L S h Q ix x y hd hi hr hcS kn p e s m args below meth c H locs ls hC hW hL
  obtain ⟨hx, hb, hrt, hml, hown, hts, hlocks, hexc, hK, hSt⟩ := id hC
  have r2 : 2 ≤ M.2.2.2.2.1 ∧ 50 ≤ M.2.2.2.2.2 := by simpa [lbR] using hr
  have hlink : (Cond.methodLink M.1.cls ix Lib.Math.min.name) ∈ gT := by
    unfold libL at hi
    simp at hi
    rcases hi with hi | hi
    · rw [hi.1, hi.2]; exact gT_mem 733 (by decide +kernel) (by decide +kernel)
    · rw [hi.1, hi.2]; exact gT_mem 604 (by decide +kernel) (by decide +kernel)
  refine va_mmin (rest := S.map (trV Γ.1)) hx hb (hml.trans hL.1.symm) hown (hts _ hlink) (hts _ (gT_mem 605 (by decide +kernel) (by decide +kernel))) (hts _ (gT_mem 37 (by decide +kernel) (by decide +kernel))) (hts _ (gT_mem 606 (by decide +kernel) (by decide +kernel))) (by show 1 ≤ M.2.2.2.2.1; omega) ?_ (Nat.zero_le _) (Nat.zero_le _) hd ?_
  · have := cat_map (ad := Γ.1) hcS
    show _ ≤ M.2.2.2.2.2
    omega
  · rw [show (if y < x then y else x) = (if x ≤ y then x else y) by by_cases q : y < x; rw [if_pos q, if_neg (Int32.not_le.mpr q)]; rw [if_neg q, if_pos (Int32.not_lt.mp q)]]
    exact kn p e s m args below meth c H locs ls hC hW hL
theorem sn_l_abs (hE : envOK Γ St) : k_l_abs (Snd Γ l St NC) := by
  intro b M pc L S h Q ix x hd hi hr hcS kn p e s m args below meth c H locs ls hC hW hL
  obtain ⟨hx, hb, hrt, hml, hown, hts, hlocks, hexc, hK, hSt⟩ := id hC
  have r2 : 2 ≤ M.2.2.2.2.1 ∧ 50 ≤ M.2.2.2.2.2 := by simpa [lbR] using hr
  have hlink : (Cond.methodLink M.1.cls ix Lib.Math.abs.name) ∈ gT := by
    unfold libL at hi
    simp at hi
    rw [hi.1, hi.2]; exact gT_mem 921 (by decide +kernel) (by decide +kernel)
  refine va_mabs (rest := S.map (trV Γ.1)) hx hb (hml.trans hL.1.symm) hown (hts _ hlink) (hts _ (gT_mem 343 (by decide +kernel) (by decide +kernel))) (hts _ (gT_mem 37 (by decide +kernel) (by decide +kernel))) (hts _ (gT_mem 344 (by decide +kernel) (by decide +kernel))) (by show 1 ≤ M.2.2.2.2.1; omega) ?_ (Nat.zero_le _) (Nat.zero_le _) hd ?_
  · have := cat_map (ad := Γ.1) hcS
    show _ ≤ M.2.2.2.2.2
    omega
  · rw [show (if 0 ≤ x then x else 0 - x) = (if 0 ≤ x then x else -x) by rw [Int32.zero_sub]]
    exact kn p e s m args below meth c H locs ls hC hW hL
theorem sn_l_fill (hE : envOK Γ St) : k_l_fill NC (Snd Γ l St NC) := by
  intro b M pc L S h Q ix a n f v hd hi hr hS hn ha hn2 kn
  exact sn_csv hE (As := [.ref a, .int v]) hd (lnJ_fill hi hr) rfl rfl hS rfl (j_fill hE hn ha hn2) (fun h1 hq => by
    obtain ⟨g', rfl, hg⟩ := hq
    exact snd_cg (f := fun _ => v) (fun j hj => (hg j hj).symm) kn)
theorem sn_l_copy (hE : envOK Γ St) : k_l_copy NC (Snd Γ l St NC) := by
  intro b M pc L S h Q ix a c0 n0 n1 f g n hd hi hr hcS ha hc hfa hgc hn0 h4 h5 kn p e s m args below meth c H locs ls hC hW hL
  obtain ⟨hx, hb, hrt, hml, hown, hts, hlocks, hexc, hK, hSt⟩ := id hC
  obtain ⟨hP, hD, hS⟩ := id hW
  have r2 : 2 ≤ M.2.2.2.2.1 ∧ 50 ≤ M.2.2.2.2.2 := by simpa [lbR] using hr
  have hlink : (Cond.methodLink M.1.cls ix arraycopyName) ∈ gT := by
    unfold libL at hi
    simp at hi
    rcases hi with hi | hi
    · rw [hi.1, hi.2]; exact gT_mem 864 (by decide +kernel) (by decide +kernel)
    · rw [hi.1, hi.2]; exact gT_mem 288 (by decide +kernel) (by decide +kernel)
  have z0 : (0 : Int32).toNatClampNeg = 0 := rfl
  refine va_copyi (a := Γ.1 c0) (a0 := Γ.1 a) (rest := S.map (trV Γ.1)) (ty := .int) hx hb (hml.trans hL.1.symm) hown (hts _ hlink) (hts _ (gT_mem 290 (by decide +kernel) (by decide +kernel))) (hts _ (gT_mem 289 (by decide +kernel) (by decide +kernel))) (hts _ (gT_mem 46 (by decide +kernel) (by decide +kernel))) hK hP hD hS a c0 0 0 (ws_i ha hfa) (ws_i hc hgc) rfl rfl rfl (by decide) (by decide) hn0 (by rw [z0]; omega) (by rw [z0]; omega) (fun i hi => rfl) (by show 1 ≤ M.2.2.2.2.1; omega) ?_ hd (fun H1 locs1 hP1 hD1 hS1 => ?_)
  · have := cat_map (ad := Γ.1) hcS
    have e9 : nativeFrameWords "java/lang/System" "arraycopy" 5 = 7 := by decide
    rw [e9]
    show _ ≤ M.2.2.2.2.2
    omega
  · have e3 : (wsOf Γ NC h).set c0 (Γ.1 c0, .inl (Γ.2.2.1 0, n1, .inl (va_cpy f g 0 0 n.toNatClampNeg))) = wsOf Γ NC (va_up h c0 (.inl (0, n1, .inl (va_cpy f g 0 0 n.toNatClampNeg)))) := ws_set (e := .inl (0, n1, .inl (va_cpy f g 0 0 n.toNatClampNeg)))
    rw [z0, e3] at hP1 hD1
    exact kn p e s m args below meth c H1 locs1 ls hC ⟨hP1, hD1, hS1⟩ hL
end LIB
