/-! ticks: the time matters to nothing; the wettest cell dries by 1 -/
section TC
variable {K K' : Nat → Nat}
theorem mix_cg (h : ∀ j, j ≠ 2 → K' j = K j) (a c : Nat) : mixN K' a c = mixN K a c := by
  have h25 : ∀ i, K' (25 + i) = K (25 + i) := fun i => h _ (by omega)
  simp only [mixN, h25]
theorem blT_cg (h : ∀ j, j ≠ 2 → K' j = K j) (i : Nat) : blT K' i = blT K i := by
  have h0 := h 0 (by decide)
  have h1 := h 1 (by decide)
  have h6 : ∀ y, K' (6 + y) = K (6 + y) := fun y => h _ (by omega)
  have h74 : ∀ i, K' (74 + i) = K (74 + i) := fun i => h _ (by omega)
  have h254 : ∀ i, K' (254 + i) = K (254 + i) := fun i => h _ (by omega)
  have h434 : ∀ i, K' (434 + i) = K (434 + i) := fun i => h _ (by omega)
  have hon : ∀ x y, onZ K' x y = onZ K x y := by intro x y; simp only [onZ, h0, h1, h6]
  have hsc : ∀ n, scN K' n = scN K n := by intro n; simp only [scN, h74, h254]
  have hpk : ∀ i b x y, pkN K' i b x y = pkN K i b x y := by intro i b x y; simp only [pkN, hon, h0, h254, h434, hsc]
  have hsr : ∀ x y, srcN K' x y = srcN K x y := by intro x y; simp only [srcN, hpk, h0]
  have hbl : ∀ x y, blN K' x y = blN K x y := by intro x y; simp only [blN, hsr, h0, h74, h254, h434]
  have ho2 : on K' i = on K i := by simp only [on, hon, h0]
  have hb2 : blC K' i = blC K i := by simp only [blC, hbl, h0]
  unfold blT
  rw [ho2, hb2]
theorem tikW_cg (h : ∀ j, j ≠ 2 → K' j = K j) {j : Nat} (hj : j ≠ 2) : tikW K' j = tikW K j := by
  have h74 : ∀ i, K' (74 + i) = K (74 + i) := fun i => h _ (by omega)
  have h254 : ∀ i, K' (254 + i) = K (254 + i) := fun i => h _ (by omega)
  simp only [tikW, colT, wetT, halT, blT_cg h, mix_cg h, h74, h254, h j hj]
theorem bleC_cg (h : ∀ j, j ≠ 2 → K' j = K j) : bleC K' = bleC K := by
  simp only [bleC, nC, h 0 (by decide), h 1 (by decide)]
  exact si_cong (fun k _ => by simp only [cfB, blT_cg h])
theorem tik_2 (v : Nat) : tikW (upN K 2 v) = upN (tikW K) 2 v := by
  funext j
  by_cases q : j = 2
  · subst q; rw [up_same, tikW_lo (by decide), up_same]
  · rw [up_ne q, tikW_cg (fun j hj => up_ne hj) q]
theorem ble_2 (v : Nat) : bleC (upN K 2 v) = bleC K := bleC_cg (fun j hj => up_ne hj)
theorem tikN_eq : tikN K = upN (tikW K) 2 (K 2 + 1) := by
  funext j
  unfold tikN upN tikW
  by_cases q : j = 2
  · rw [if_pos q]
  · rw [if_neg q]
theorem up_up {i v w : Nat} : upN (upN K i v) i w = upN K i w := by
  funext j; unfold upN; split <;> rfl
theorem fot_0 : fotK K 0 = K := by
  funext j; show upN K 2 (K 2 + 0) j = K j
  unfold upN; split
  · subst j; rfl
  · rfl
theorem fot_s (T : Nat) : tikN (fotK K T) = fotK K (T + 1) := by
  rw [tikN_eq]
  unfold fotK
  rw [tik_2, up_up, up_same]
  rfl
theorem ble_fot (T : Nat) : bleC (fotK K T) = bleC (twI K T) := ble_2 _
theorem grt_2 (v : Nat) : grtW (upN K 2 v) = grtW K := by
  have e : (fun i => upN K 2 v (254 + i)) = fun i => K (254 + i) := funext fun i => up_ne (by omega)
  unfold grtW
  rw [e]; rfl
theorem pk_src {i : Nat} {b nx ny : Int} (hb : b < 0 ∨ K (254 + i) + 2 ≤ K (254 + b.toNat)) : pkN K i b nx ny < 0 ∨ K (254 + i) + 2 ≤ K (254 + (pkN K i b nx ny).toNat) := by
  unfold pkN
  split
  · rename_i q; exact Or.inr q.1.2.2
  · exact hb
theorem bl_src {i : Nat} (h : 0 ≤ blT K i) : K (254 + i) + 2 ≤ K (254 + (blT K i).toNat) := by
  unfold blT at h ⊢
  split at h
  · rename_i ho
    rw [if_pos ho]
    unfold blC blN at h ⊢
    split at h
    · omega
    · rename_i q1
      rw [if_neg q1]
      split at h
      · omega
      · rename_i q2
        rw [if_neg q2]
        have e := cd_eq (K := K) i
        unfold srcN at h ⊢
        rw [e] at h ⊢
        have z := pk_src (K := K) (nx := ((i % K 0 : Nat) : Int)) (ny := ((i / K 0 : Nat) : Int) + 1) (pk_src (K := K) (nx := ((i % K 0 : Nat) : Int) + 1) (ny := ((i / K 0 : Nat) : Int)) (pk_src (K := K) (nx := ((i % K 0 : Nat) : Int) - 1) (ny := ((i / K 0 : Nat) : Int)) (pk_src (K := K) (i := i) (b := -1) (nx := ((i % K 0 : Nat) : Int)) (ny := ((i / K 0 : Nat) : Int) - 1) (Or.inl (by omega)))))
        rcases z with z | z
        · omega
        · exact z
  · omega
theorem mx_att {f : Nat → Nat} : ∀ {n : Nat}, 0 < mxN f n → ∃ i, i < n ∧ f i = mxN f n
  | 0, h => absurd h (Nat.lt_irrefl 0)
  | n + 1, h => by
    have e : mxN f (n + 1) = max (mxN f n) (f n) := rfl
    rcases Nat.lt_or_ge (f n) (mxN f n) with q | q
    · obtain ⟨i, hi, h2⟩ := mx_att (f := f) (n := n) (by omega)
      exact ⟨i, by omega, by rw [e, h2]; omega⟩
    · exact ⟨n, by omega, by rw [e]; omega⟩
theorem grt_tik (hK : KI K) : grtW (tikW K) = grtW K - 1 := by
  have n0 := nC_le hK
  have nc : nC (tikW K) = nC K := nC_lo (fun j hj => tikW_lo (by omega))
  have ub : ∀ i, i < nC K → tikW K (254 + i) ≤ grtW K - 1 := by
    intro i hi
    rw [tikW_w (by omega)]
    have h1 := wet_le_grt hK (i := i) (by omega)
    unfold wetT
    split
    · rename_i q
      have h2 := bl_src q
      have h3 := blT_rg hK i
      have h4 := wet_le_grt hK (i := (blT K i).toNat) (by omega)
      unfold halT; omega
    · omega
  have u2 : grtW (tikW K) ≤ grtW K - 1 := by
    unfold grtW at ub ⊢
    rw [nc]
    exact mx_le ub
  rcases Nat.eq_zero_or_pos (grtW K) with z | z
  · omega
  · obtain ⟨i, hi, h2⟩ := mx_att (f := fun i => K (254 + i)) (n := nC K) z
    have h3 : K (254 + i) = grtW K := h2
    have nb : ¬ 0 ≤ blT K i := by
      intro q
      have h5 := bl_src q
      have h6 := blT_rg hK i
      have h4 := wet_le_grt hK (i := (blT K i).toNat) (by omega)
      omega
    have h7 : tikW K (254 + i) = grtW K - 1 := by
      rw [tikW_w (by omega)]
      unfold wetT
      rw [if_neg nb, h3]
    have h8 : tikW K (254 + i) ≤ grtW (tikW K) := by
      have := mx_ge (f := fun i => tikW K (254 + i)) (n := nC (tikW K)) (i := i) (by rw [nc]; exact hi)
      exact this
    omega
theorem grt_fot (hK : KI K) : ∀ t : Nat, grtW (fotK K t) = grtW K - t
  | 0 => by rw [fot_0]; rfl
  | t + 1 => by
    rw [← fot_s, tikN_eq, grt_2, grt_tik (hK.fot t), grt_fot hK t]
    omega
theorem wet_pos (hK : KI K) : 0 ≤ wetC K ∧ wetC K ≤ 60000 ∧ (wetC K ≤ 0 ↔ grtW K = 0) := by
  have n0 := nC_le hK
  have h1 := si01 (f := cfW K) n0 (fun k _ => by unfold cfW; split <;> omega)
  refine ⟨h1.1, h1.2, fun q => ?_, fun q => ?_⟩
  · rcases Nat.eq_zero_or_pos (grtW K) with z | z
    · exact z
    · exfalso
      obtain ⟨i, hi, h2⟩ := mx_att (f := fun i => K (254 + i)) (n := nC K) z
      have h3 : K (254 + i) = grtW K := h2
      have h4 : ∀ n : Nat, i < n → 1 ≤ si (cfW K) n := by
        intro n
        induction n with
        | zero => intro z9; omega
        | succ n ih =>
          intro z9
          rw [si_succ]
          have b1 := si_bd (f := cfW K) (c := 1) (by omega) (n := n) (fun k _ => by unfold cfW; split <;> omega)
          rcases Nat.lt_or_ge i n with q2 | q2
          · have := ih q2
            have : 0 ≤ cfW K n := by unfold cfW; split <;> omega
            omega
          · have e : i = n := by omega
            subst e
            have : cfW K i = 1 := by unfold cfW; rw [if_pos (by omega)]
            omega
      have h5 := h4 (nC K) hi
      unfold wetC at q
      omega
  · unfold wetC
    rw [si_skip (Nat.zero_le _) (fun k _ hk => by unfold cfW; have := wet_le_grt hK (i := k) (by omega); rw [if_neg (by omega)])]
    exact Int.le_refl _
end TC
