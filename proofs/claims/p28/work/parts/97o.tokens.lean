/-! READING what was written: tokens -/
def At (T : Nat → Int) (s : Nat) (ys : List Int) : Prop := ∀ i, i < ys.length → T (s + i) = gd ys i
theorem At.l {T : Nat → Int} {s : Nat} {xs ys : List Int} (h : At T s (xs ++ ys)) : At T s xs := fun i hi => by
  rw [h i (by rw [List.length_append]; omega), gd_l hi]
theorem At.r {T : Nat → Int} {s : Nat} {xs ys : List Int} (h : At T s (xs ++ ys)) : At T (s + xs.length) ys := fun i hi => by
  rw [Nat.add_assoc, h (xs.length + i) (by rw [List.length_append]; omega), gd_r]
theorem At.hd {T : Nat → Int} {s : Nat} {x : Int} {xs : List Int} (h : At T s (x :: xs)) : T s = x := h 0 (by simp)
theorem At.tl {T : Nat → Int} {s : Nat} {x : Int} {xs : List Int} (h : At T s (x :: xs)) : At T (s + 1) xs := fun i hi => by
  have := h (i + 1) (by simp; omega)
  rw [show s + 1 + i = s + (i + 1) by omega, this]
  rfl
theorem rn_is {c : Nat → Bool} {n : Nat} : ∀ {k p : Nat}, (∀ i, i < k → c (p + i) = true) → p + k ≤ n → (p + k < n → c (p + k) = false) → rn c n p = p + k
  | 0, p, _, _, h => by
    rw [rn_st (fun z => by have := h z.1; rw [Nat.add_zero, z.2] at this; cases this)]
    rfl
  | k + 1, p, h1, h2, h3 => by
    rw [rn_go (p := p) ⟨by omega, by have := h1 0 (by omega); rw [Nat.add_zero] at this; exact this⟩]
    rw [rn_is (k := k) (fun i hi => by have := h1 (i + 1) (by omega); rw [show p + 1 + i = p + (i + 1) by omega]; exact this) (by omega) (fun q => by rw [show p + 1 + k = p + (k + 1) by omega] at q ⊢; exact h3 q)]
    omega
theorem sk_no {T : Nat → Int} {n e : Nat} (he : e ≤ n) (h : e < n → T e ≠ 32) : sk T n e = e := by
  unfold sk
  exact rn_is (k := 0) (fun i hi => absurd hi (Nat.not_lt_zero _)) he (fun q => decide_eq_false (h q))
theorem sk_bl {T : Nat → Int} {n e : Nat} (he : e + 1 ≤ n) (h0 : T e = 32) (h : e + 1 < n → T (e + 1) ≠ 32) : sk T n e = e + 1 := by
  unfold sk
  exact rn_is (k := 1) (fun i hi => by obtain rfl : i = 0 := by omega
                                       exact decide_eq_true h0) he (fun q => decide_eq_false (h q))
theorem cD_f {T : Nat → Int} {k : Nat} (h : T k < 48 ∨ 57 < T k) : cD T k = false := decide_eq_false (by omega)
theorem cL_f {T : Nat → Int} {k : Nat} (h : T k < 97 ∨ 122 < T k) : cL T k = false := decide_eq_false (by omega)
theorem lit_Wc : ∀ j, j < 10 → ∀ i, i < LN j → gd (litL j) i = Wc j i := by decide +kernel
theorem lit_LN : ∀ j, j < 10 → (litL j).length = LN j := by decide +kernel
/-- a word -/
theorem wd_ok {T : Nat → Int} {n j s : Nat} (hj : j < 10) (hA : At T s (litL j)) (hn : s + LN j ≤ n) (hx : s + LN j < n → T (s + LN j) < 97) : wd T n j s = true ∧ tE T n s = s + LN j := by
  have h1 := (LN_rg j hj)
  have hW : ∀ i, i < LN j → T (s + i) = Wc j i := fun i hi => by rw [hA i (by rw [lit_LN j hj]; exact hi), lit_Wc j hj i hi]
  have hl : ∀ i, i < LN j → cL T (s + i) = true := fun i hi => by
    have := Wc_rg j hj i hi
    exact decide_eq_true (by rw [hW i hi]; exact this)
  have h0 := Wc_rg j hj 0 (by omega)
  have hT0 := hW 0 (by omega)
  rw [Nat.add_zero] at hT0
  have hd : cD T s = false := cD_f (by omega)
  have hc : cL T s = true := decide_eq_true (by omega)
  have hr : rn (cL T) n s = s + LN j := rn_is hl hn (fun q => cL_f (Or.inl (hx q)))
  have e1 : kd T n s = 1 := by
    unfold kd
    rw [if_neg (by omega), if_neg (by rw [hd]; decide), if_pos hc]
  have e2 : tE T n s = s + LN j := by
    unfold tE
    rw [if_neg (by omega), if_neg (by rw [hd]; decide), if_pos hc, hr]
  exact ⟨wd_iff.mpr ⟨e1, e2, hW⟩, e2⟩
theorem W_df : ∀ j, j < 10 → ∀ k, k < 10 → j ≠ k → LN j ≠ LN k ∨ ∃ i, i < LN j ∧ Wc j i ≠ Wc k i := by decide +kernel
theorem wd_no {T : Nat → Int} {n j k s : Nat} (hj : j < 10) (hk : k < 10) (hjk : j ≠ k) (h : wd T n j s = true) : ¬ wd T n k s = true := fun z => by
  obtain ⟨-, a1, a2⟩ := wd_iff.mp h
  obtain ⟨-, b1, b2⟩ := wd_iff.mp z
  have e : LN j = LN k := by omega
  rcases W_df j hj k hk hjk with q | ⟨i, q1, q2⟩
  · exact q e
  · exact q2 ((a2 i q1).symm.trans (b2 i (by omega)))
/-- a number -/
theorem num_ok {T : Nat → Int} {n s x : Nat} (hx : x < 100) (hA : At T s (digL x)) (hn : s + (digL x).length ≤ n) (hz : s + (digL x).length < n → T (s + (digL x).length) < 48 ∨ 57 < T (s + (digL x).length)) : isD T n s = true ∧ vN T n s = (x : Int) ∧ tE T n s = s + (digL x).length := by
  have hl := dig_len (x := x)
  have hdg : ∀ i, i < (digL x).length → cD T (s + i) = true := fun i hi => by
    have h1 := hA i hi
    refine decide_eq_true ?_
    rw [h1]
    unfold digL at hi ⊢
    split
    · rename_i q
      rw [if_pos q] at hi
      obtain rfl : i = 0 := by simp at hi; omega
      show 48 ≤ 48 + (x : Int) ∧ _
      show 48 ≤ 48 + (x : Int) ∧ 48 + (x : Int) ≤ 57
      omega
    · rename_i q
      rw [if_neg q] at hi
      have : i = 0 ∨ i = 1 := by simp at hi; omega
      rcases this with rfl | rfl
      · show 48 ≤ 48 + (x : Int) / 10 ∧ 48 + (x : Int) / 10 ≤ 57
        omega
      · show 48 ≤ 48 + (x : Int) % 10 ∧ 48 + (x : Int) % 10 ≤ 57
        omega
  have hd := hdg 0 (by omega)
  rw [Nat.add_zero] at hd
  have hr : rn (cD T) n s = s + (digL x).length := rn_is hdg hn (fun q => cD_f (hz q))
  refine ⟨isD_iff.mpr ⟨by omega, hd⟩, ?_, ?_⟩
  · unfold vN
    rw [hr, show s + (digL x).length - s = (digL x).length by omega]
    by_cases q : x < 10
    · have e : digL x = [48 + (x : Int)] := if_pos q
      have h0 := hA 0 (by omega)
      rw [e] at h0 ⊢
      show 10 * 0 + (T (s + 0) - 48) = (x : Int)
      rw [h0]
      show 10 * 0 + (48 + (x : Int) - 48) = (x : Int)
      omega
    · have e : digL x = [48 + (x : Int) / 10, 48 + (x : Int) % 10] := if_neg q
      have h0 := hA 0 (by omega)
      have h1 := hA 1 (by rw [e]; simp)
      rw [e] at h0 h1 ⊢
      show 10 * (10 * 0 + (T (s + 0) - 48)) + (T (s + 1) - 48) = (x : Int)
      rw [h0, h1]
      show 10 * (10 * 0 + (48 + (x : Int) / 10 - 48)) + (48 + (x : Int) % 10 - 48) = (x : Int)
      omega
  · unfold tE
    rw [if_neg (by omega), if_pos hd, hr]
/-- a semicolon -/
theorem sem_ok {T : Nat → Int} {n s : Nat} (hs : s < n) (h : T s = 59) (hx : s + 1 < n → T (s + 1) ≠ 32) : semP T n s = .inr (s + 1) := by
  have hd : cD T s = false := cD_f (by omega)
  have hl : cL T s = false := cL_f (by omega)
  have e1 : kd T n s = 3 := by
    unfold kd
    rw [if_neg (by omega), if_neg (by rw [hd]; decide), if_neg (by rw [hl]; decide), if_pos h]
  have e2 : tE T n s = s + 1 := by
    unfold tE
    rw [if_neg (by omega), if_neg (by rw [hd]; decide), if_neg (by rw [hl]; decide)]
  unfold semP
  rw [if_pos e1]
  unfold sN
  rw [e2, sk_no (by omega) hx]
/-- a row of numbers, from e on, and what ends it -/
def NX (T : Nat → Int) (n e : Nat) (f : Nat → Nat) (N : Nat) : Prop := At T e (numL f N) ∧ e + (numL f N).length < n ∧ T (e + (numL f N).length) = 59 ∧ ∀ i, i < N → f i < 100
def nP (e : Nat) (f : Nat → Nat) (N i : Nat) : Nat := if i < N then e + (numL f i).length + 1 else e + (numL f N).length
theorem num_suc {f : Nat → Nat} {i : Nat} : (numL f (i + 1)).length = (numL f i).length + 1 + (digL (f i)).length := by
  show (numL f i ++ (32 :: digL (f i))).length = _
  rw [List.length_append, List.length_cons]; omega
theorem num_mono {f : Nat → Nat} {i : Nat} : ∀ {N : Nat}, i ≤ N → (numL f i).length ≤ (numL f N).length
  | 0, h => by obtain rfl : i = 0 := by omega
               exact Nat.le_refl _
  | N + 1, h => by
    rcases Nat.lt_or_ge i (N + 1) with q | q
    · have := num_mono (f := f) (i := i) (N := N) (by omega)
      rw [num_suc]; omega
    · obtain rfl : i = N + 1 := by omega
      exact Nat.le_refl _
theorem num_at {T : Nat → Int} {e : Nat} {f : Nat → Nat} : ∀ {N : Nat}, At T e (numL f N) → ∀ i, i < N → T (e + (numL f i).length) = 32 ∧ At T (e + (numL f i).length + 1) (digL (f i))
  | 0, _, i, h => absurd h (Nat.not_lt_zero _)
  | N + 1, hA, i, h => by
    have h1 : At T e (numL f N ++ (32 :: digL (f N))) := hA
    rcases Nat.lt_or_ge i N with q | q
    · exact num_at h1.l i q
    · obtain rfl : i = N := by omega
      exact ⟨h1.r.hd, h1.r.tl⟩
theorem dig_hd {x : Nat} (hx : x < 100) {T : Nat → Int} {s : Nat} (hA : At T s (digL x)) : 48 ≤ T s ∧ T s ≤ 57 := by
  have hl := dig_len (x := x)
  have h0 := hA 0 (by omega)
  rw [Nat.add_zero] at h0
  rw [h0]
  unfold digL
  split
  · show 48 ≤ 48 + (x : Int) ∧ 48 + (x : Int) ≤ 57
    omega
  · show 48 ≤ 48 + (x : Int) / 10 ∧ 48 + (x : Int) / 10 ≤ 57
    omega
theorem NX.sk {T : Nat → Int} {n e N : Nat} {f : Nat → Nat} (h : NX T n e f N) {i : Nat} (hi : i ≤ N) : sk T n (e + (numL f i).length) = nP e f N i := by
  obtain ⟨a, b, c, d⟩ := h
  unfold nP
  by_cases q : i < N
  · rw [if_pos q]
    obtain ⟨h1, h2⟩ := num_at a i q
    have m := num_mono (f := f) (i := i + 1) (N := N) (by omega)
    rw [num_suc] at m
    have h3 := dig_hd (d i q) h2
    exact sk_bl (by omega) h1 (fun _ => by omega)
  · rw [if_neg q]
    obtain rfl : i = N := by omega
    exact sk_no (by omega) (fun _ => by rw [c]; decide)
theorem NX.num {T : Nat → Int} {n e N : Nat} {f : Nat → Nat} (h : NX T n e f N) {i : Nat} (hi : i < N) {lo hi' : Int} (hr : lo ≤ (f i : Int) ∧ (f i : Int) ≤ hi') : numP T n lo hi' (nP e f N i) = .inr ((f i : Int), nP e f N (i + 1)) := by
  obtain ⟨a, b, c, d⟩ := id h
  obtain ⟨h1, h2⟩ := num_at a i hi
  have m := num_mono (f := f) (i := i + 1) (N := N) (by omega)
  have ms := num_suc (f := f) (i := i)
  have e1 : nP e f N i = e + (numL f i).length + 1 := if_pos hi
  have h4 := num_ok (n := n) (d i hi) h2 (by omega) (fun q => by
    rw [show e + (numL f i).length + 1 + (digL (f i)).length = e + (numL f (i + 1)).length by omega]
    by_cases z : i + 1 < N
    · rw [(num_at a (i + 1) z).1]; omega
    · obtain rfl : N = i + 1 := by omega
      rw [c]; omega)
  unfold numP
  rw [e1, if_pos h4.1, h4.2.1, if_pos hr]
  unfold sN
  rw [h4.2.2, show e + (numL f i).length + 1 + (digL (f i)).length = e + (numL f (i + 1)).length by omega, h.sk hi]
theorem chk_ff {p : Bool} {c b : Int} (h : p = false) : chk p c b = .inr () := by unfold chk; rw [h]; rfl
/-! statements -/
def RDs (xs : List Int) (K : Nat → Nat) (f1 f2 f3 f4 : Int) : Prop := ∀ T n, xs.length ≤ n → At T 0 xs → (xs.length < n → T xs.length ≠ 32) → ∃ f, n ≤ f + xs.length ∧ setP T n = lpP T n f xs.length K f1 f2 f3 f4
theorem RDs.fin {xs : List Int} {K : Nat → Nat} {f1 f2 f3 f4 : Int} (h : RDs xs K f1 f2 f3 f4) {T : Nat → Int} (hT : ∀ i, i < xs.length → T i = gd xs i) : setP T xs.length = .inr K := by
  obtain ⟨f, -, h2⟩ := h T xs.length (Nat.le_refl _) (fun i hi => by rw [Nat.zero_add]; exact hT i hi) (fun q => absurd q (Nat.lt_irrefl _))
  rw [h2]
  cases f with
  | zero => rfl
  | succ f => exact if_pos (Nat.le_refl _)
theorem RDs.step {xs st : List Int} {K K' : Nat → Nat} {f1 f2 f3 f4 g1 g2 g3 g4 : Int} (h : RDs xs K f1 f2 f3 f4) (h0 : 1 ≤ st.length) (h1 : gd st 0 ≠ 32) (hl : gd st (st.length - 1) = 59) (hs : ∀ T n, At T xs.length st → xs.length + st.length ≤ n → stmP T n xs.length K f1 f2 f3 f4 = .inr (xs.length + (st.length - 1), K', g1, g2, g3, g4)) : RDs (xs ++ st) K' g1 g2 g3 g4 := by
  intro T n hn hA hx
  rw [List.length_append] at hn hx
  have hA1 := hA.l
  have hA2 := hA.r
  rw [Nat.zero_add] at hA2
  obtain ⟨f, hf, he⟩ := h T n (by omega) hA1 (fun _ => by have := hA2 0 (by omega); rw [Nat.add_zero] at this; rw [this]; exact h1)
  obtain ⟨f', rfl⟩ : ∃ f', f = f' + 1 := ⟨f - 1, by omega⟩
  refine ⟨f', by rw [List.length_append]; omega, he.trans ?_⟩
  show (if n ≤ xs.length then _ else _) = _
  rw [if_neg (by omega), hs T n hA2 hn]
  show bnd (semP T n (xs.length + (st.length - 1))) _ = _
  rw [sem_ok (by omega) (by rw [hA2 (st.length - 1) (by omega), hl]) (fun q => by rw [show xs.length + (st.length - 1) + 1 = xs.length + st.length by omega] at q ⊢; exact hx q)]
  show lpP T n f' (xs.length + (st.length - 1) + 1) K' g1 g2 g3 g4 = _
  rw [List.length_append, show xs.length + (st.length - 1) + 1 = xs.length + st.length by omega]
/-- a statement: its word, its numbers, the semicolon -/
def smL (j : Nat) (f : Nat → Nat) (N : Nat) : List Int := litL j ++ (numL f N ++ [59])
theorem smL_ok {T : Nat → Int} {n s j N : Nat} {f : Nat → Nat} (hj : j < 10) (hN : 1 ≤ N) (hf : ∀ i, i < N → f i < 100) (hA : At T s (smL j f N)) (hn : s + (smL j f N).length ≤ n) : wd T n j s = true ∧ NX T n (s + LN j) f N ∧ sN T n s = nP (s + LN j) f N 0 ∧ nP (s + LN j) f N N = s + ((smL j f N).length - 1) := by
  have ll := lit_LN j hj
  have e : (smL j f N).length = LN j + (numL f N).length + 1 := by
    unfold smL
    rw [List.length_append, List.length_append, ll]
    show _ + (_ + 1) = _
    omega
  have h1 : At T s (litL j ++ (numL f N ++ [59])) := hA
  have h2 := h1.r
  rw [ll] at h2
  have h3 := h2.l
  have h4 := h2.r.hd
  have hNX : NX T n (s + LN j) f N := ⟨h3, by omega, h4, hf⟩
  have hb := (num_at h3 0 (by omega)).1
  rw [show (numL f 0).length = 0 from rfl, Nat.add_zero] at hb
  obtain ⟨w1, w2⟩ := wd_ok (n := n) hj h1.l (by omega) (fun _ => by rw [hb]; decide)
  refine ⟨w1, hNX, ?_, ?_⟩
  · unfold sN
    rw [w2]
    have := hNX.sk (i := 0) (by omega)
    rw [show (numL f 0).length = 0 from rfl, Nat.add_zero] at this
    exact this
  · unfold nP
    rw [if_neg (by omega), e]; omega
theorem smL_end {j N : Nat} {f : Nat → Nat} : gd (smL j f N) ((smL j f N).length - 1) = 59 := by
  unfold smL
  rw [← List.append_assoc]
  have : ((litL j ++ numL f N) ++ [(59 : Int)]).length - 1 = (litL j ++ numL f N).length := by rw [List.length_append]; simp
  rw [this, gd_n]
theorem smL_hd {j N : Nat} {f : Nat → Nat} (hj : j < 10) : 1 ≤ (smL j f N).length ∧ gd (smL j f N) 0 ≠ 32 := by
  have h1 := LN_rg j hj
  have h2 := lit_LN j hj
  unfold smL
  refine ⟨by rw [List.length_append]; omega, ?_⟩
  rw [gd_l (by omega), lit_Wc j hj 0 (by omega)]
  have := Wc_rg j hj 0 (by omega)
  omega

