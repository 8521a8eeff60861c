/-! THE LAW: the class's half of a turn -/
section LN
variable {u u1 : hp} {K K1 : Nat → Nat} {H H1 : Nat → Nat → Nat} {d d1 : Nat} {e : Int} {r T : Nat → Int}
theorem LA.nx (hL : LA u K H d e r T) (h1 : SA 112 u1 1 K1) (h4 : CH 112 u1 H1 d1) (h11 : ∃ KS, SA 112 u1 11 KS) (h104 : sh 0 (u1 104) 180) (h105 : sh 0 (u1 105) 180) (h106 : ∃ n0, FO u1 n0) (h107 : sh 0 (u1 107) 180) (h108 : sh 0 (u1 108) 180) (h109 : sh 0 (u1 109) 180) (h0 : u1 0 = u 0) (h103 : u1 103 = u 103) (h110 : u1 110 = u 110) (h111 : u1 111 = u 111) : LA u1 K1 H1 d1 e r T := by
  obtain ⟨a1, a2, a3, a4, a5, a6, a7, a8, a9, a10, a11, a12, a13⟩ := hL
  exact ⟨h1, h11, h0.trans a3, h4, h110.trans a5, a6.mv h111, h103.trans a7, h104, h105, h106, h107, h108, h109⟩
theorem LA.nA (hL : LA u K H d e r T) (h1 : SA 112 u1 1 K1) (h4 : CH 112 u1 H1 d1) (h11 : ∃ KS, SA 112 u1 11 KS) (hy : ∀ b, (b < 1 ∨ 21 ≤ b) → (b < 21 ∨ 103 ≤ b) → u1 b = u b) : LA u1 K1 H1 d1 e r T := by
  obtain ⟨a1, a2, a3, a4, a5, a6, a7, a8, a9, ⟨n0, a10⟩, a11, a12, a13⟩ := id hL
  have q : ∀ b, 103 ≤ b → u1 b = u b := fun b hb => hy b (by omega) (by omega)
  exact hL.nx h1 h4 h11 (a8.mv (q 104 (by decide))) (a9.mv (q 105 (by decide))) ⟨n0, (q 106 (by decide)).trans a10⟩ (a11.mv (q 107 (by decide))) (a12.mv (q 108 (by decide))) (a13.mv (q 109 (by decide))) (hy 0 (by omega) (by omega)) (q 103 (by decide)) (q 110 (by decide)) (q 111 (by decide))
theorem LA.nB (hL : LA u K H d e r T) (h1 : SA 112 u1 1 K1) (h4 : CH 112 u1 H1 d1) (hy : ∀ b, (b < 1 ∨ 11 ≤ b) → (b < 21 ∨ 103 ≤ b) → u1 b = u b) : LA u1 K1 H1 d1 e r T := by
  obtain ⟨a1, ⟨KS, a2⟩, -⟩ := id hL
  exact hL.nA h1 h4 ⟨KS, a2.eq (fun a ha hb => hy a (by omega) (by omega))⟩ (fun b h1 h2 => hy b (by omega) h2)
theorem psh_ki (hK : KI K) (hH : ∀ t, t < d → KI (H t)) : ∀ t, t < min (d + 1) 8 → KI (psh K H t) := fun t ht => by
  unfold psh
  split
  · exact hK
  · exact hH _ (by omega)
theorem LZ.nB (hZ : LZ u K H d) (hK1 : KI K1) (h1 : SA 112 u1 1 K1) (h4 : CH 112 u1 (psh K H) (min (d + 1) 8)) (hy : ∀ b, (b < 1 ∨ 11 ≤ b) → (b < 21 ∨ 103 ≤ b) → u1 b = u b) : LZ u1 K1 (psh K H) (min (d + 1) 8) := by
  obtain ⟨⟨e, r, T, hL, hT, hr⟩, hK, hH⟩ := hZ
  exact ⟨⟨e, r, T, hL.nB h1 h4 hy, hT, hr⟩, hK1, psh_ki hK hH⟩
theorem LZ.nA (hZ : LZ u K H d) (hK1 : KI K1) (h1 : SA 112 u1 1 K1) (h4 : CH 112 u1 (psh K H) (min (d + 1) 8)) (h11 : ∃ KS, SA 112 u1 11 KS) (hy : ∀ b, (b < 1 ∨ 21 ≤ b) → (b < 21 ∨ 103 ≤ b) → u1 b = u b) : LZ u1 K1 (psh K H) (min (d + 1) 8) := by
  obtain ⟨⟨e, r, T, hL, hT, hr⟩, hK, hH⟩ := hZ
  exact ⟨⟨e, r, T, hL.nA h1 h4 h11 hy, hT, hr⟩, hK1, psh_ki hK hH⟩
/-- after pass -/
theorem LA.nP (hL : LA u K H d e r T) (h1 : SA 112 u1 1 K1) (h4 : CH 112 u1 H1 d1) (h104 : sh 0 (u1 104) 180) (h105 : sh 0 (u1 105) 180) (hy : ∀ b, (b < 1 ∨ 11 ≤ b) → (b < 21 ∨ 103 ≤ b) → b ≠ 104 → b ≠ 105 → u1 b = u b) : LA u1 K1 H1 d1 e r T := by
  obtain ⟨a1, ⟨KS, a2⟩, a3, a4, a5, a6, a7, a8, a9, ⟨n0, a10⟩, a11, a12, a13⟩ := id hL
  have q : ∀ b, 106 ≤ b → u1 b = u b := fun b hb => hy b (by omega) (by omega) (by omega) (by omega)
  exact hL.nx h1 h4 ⟨KS, a2.eq (fun a ha hb => hy a (by omega) (by omega) (by omega) (by omega))⟩ h104 h105 ⟨n0, (q 106 (by decide)).trans a10⟩ (a11.mv (q 107 (by decide))) (a12.mv (q 108 (by decide))) (a13.mv (q 109 (by decide))) (hy 0 (by omega) (by omega) (by omega) (by omega)) (hy 103 (by omega) (by omega) (by omega) (by omega)) (q 110 (by decide)) (q 111 (by decide))
theorem LZ.nP (hZ : LZ u K H d) (hK1 : KI K1) (h1 : SA 112 u1 1 K1) (h4 : CH 112 u1 (psh K H) (min (d + 1) 8)) (h104 : sh 0 (u1 104) 180) (h105 : sh 0 (u1 105) 180) (hy : ∀ b, (b < 1 ∨ 11 ≤ b) → (b < 21 ∨ 103 ≤ b) → b ≠ 104 → b ≠ 105 → u1 b = u b) : LZ u1 K1 (psh K H) (min (d + 1) 8) := by
  obtain ⟨⟨e, r, T, hL, hT, hr⟩, hK, hH⟩ := hZ
  exact ⟨⟨e, r, T, hL.nP h1 h4 h104 h105 hy, hT, hr⟩, hK1, psh_ki hK hH⟩
/-- after wash -/
theorem LZ.nW (hZ : LZ u K H d) (hK1 : KI K1) (h1 : SA 112 u1 1 K1) (h4 : CH 112 u1 (psh K H) (min (d + 1) 8)) (h106 : ∃ n0, FO u1 n0) (h107 : sh 0 (u1 107) 180) (h108 : sh 0 (u1 108) 180) (h109 : sh 0 (u1 109) 180) (hy : ∀ b, (b < 1 ∨ 11 ≤ b) → (b < 21 ∨ 103 ≤ b) → (b < 106 ∨ 109 < b) → u1 b = u b) : LZ u1 K1 (psh K H) (min (d + 1) 8) := by
  obtain ⟨⟨e, r, T, hL, hT, hr⟩, hK, hH⟩ := hZ
  obtain ⟨a1, ⟨KS, a2⟩, a3, a4, a5, a6, a7, a8, a9, -⟩ := id hL
  have q : ∀ b, 103 ≤ b → (b < 106 ∨ 109 < b) → u1 b = u b := fun b hb h9 => hy b (by omega) (by omega) h9
  exact ⟨⟨e, r, T, hL.nx h1 h4 ⟨KS, a2.eq (fun a ha hb => hy a (by omega) (by omega) (by omega))⟩ (a8.mv (q 104 (by decide) (by decide))) (a9.mv (q 105 (by decide) (by decide))) h106 h107 h108 h109 (hy 0 (by omega) (by omega) (by omega)) (q 103 (by decide) (by decide)) (q 110 (by decide) (by decide)) (q 111 (by decide) (by decide)), hT, hr⟩, hK1, psh_ki hK hH⟩
/-- after undo -/
theorem LA.nU (hL : LA u K H d e r T) (h1 : SA 112 u1 1 K1) (h4 : CH 112 u1 H1 d1) (hy : ∀ a, a ≠ 21 → (a < 1 ∨ 11 ≤ a) → u1 a = u a) : LA u1 K1 H1 d1 e r T := hL.nB h1 h4 (fun b h2 h3 => hy b (by omega) h2)
theorem LZ.nU (hZ : LZ u K H d) (hd : 0 < d) (h1 : SA 112 u1 1 (H 0)) (h4 : CH 112 u1 (fun t => H (t + 1)) (d - 1)) (hy : ∀ a, a ≠ 21 → (a < 1 ∨ 11 ≤ a) → u1 a = u a) : LZ u1 (H 0) (fun t => H (t + 1)) (d - 1) := by
  obtain ⟨⟨e, r, T, hL, hT, hr⟩, hK, hH⟩ := hZ
  exact ⟨⟨e, r, T, hL.nU h1 h4 hy, hT, hr⟩, hH 0 hd, fun t ht => hH _ (by omega)⟩
end LN
section LM
variable {K : Nat → Nat}
theorem ix_m {x y : Nat} (hx : x < K 0) : (y * K 0 + x) % K 0 = x := by rw [Nat.mul_comm, Nat.mul_add_mod]; exact Nat.mod_eq_of_lt hx
theorem ix_d {x y : Nat} (hx : x < K 0) : (y * K 0 + x) / K 0 = y := by rw [Nat.mul_comm, Nat.mul_add_div (by omega), Nat.div_eq_of_lt hx]; omega
theorem put_ix {x y c w : Nat} {mi : Bool} (hx : x < K 0) (ho : onZ K (x : Int) (y : Int) = true) : putC K (x : Int) (y : Int) c w mi = if mi = true then setC (setC K (y * K 0 + x) c w) (mirN K (y * K 0 + x)) c w else setC K (y * K 0 + x) c w := by
  unfold putC mirN
  rw [if_pos ho, ix_m hx, ix_d hx]
  rfl
theorem wsh_eq {N N' : Nat → Int} (h : ∀ j, j < 180 → N j = N' j) : wshK K N = wshK K N' := by
  funext j
  unfold wshK
  by_cases a : 74 ≤ j ∧ j < 254
  · rw [h (j - 74) (by omega)]
    by_cases z : N' (j - 74) = 1
    · rw [if_pos (Or.inl ⟨a.1, a.2, z⟩), if_pos (Or.inl ⟨a.1, a.2, z⟩)]
    · rw [if_neg (by omega), if_neg (by omega)]
  · by_cases b : 254 ≤ j ∧ j < 434
    · rw [h (j - 254) (by omega)]
      by_cases z : N' (j - 254) = 1
      · rw [if_pos (Or.inr ⟨b.1, b.2, z⟩), if_pos (Or.inr ⟨b.1, b.2, z⟩)]
      · rw [if_neg (by omega), if_neg (by omega)]
    · rw [if_neg (by omega), if_neg (by omega)]
end LM
