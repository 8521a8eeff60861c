/-! THE KITE: marks, washes -/
theorem conn.tr {K : Nat → Nat} {i a b : Nat} (h : conn K i a) (k : conn K a b) : conn K i b := fun S h1 h2 => k S (h S h1 h2) h2
def z01 (K : Nat → Nat) (N : Nat → Int) : Prop := ∀ j, j < nC K → N j = 0 ∨ N j = 1
def dfsP (K : Nat → Nat) (c : Nat) (M N : Nat → Int) : Prop := z01 K N ∧ (∀ j, j < nC K → M j = 1 → N j = 1) ∧ N c = 1 ∧ ∀ j, j < nC K → N j = 1 → M j = 0 → conn K c j ∧ ∀ b, adj K j b → N b = 1
def dfsI (K : Nat → Nat) (c : Nat) (M N : Nat → Int) (wy : Nat) : Prop := z01 K N ∧ (∀ j, j < nC K → M j = 1 → N j = 1) ∧ N c = 1 ∧ (∀ j, j < nC K → N j = 1 → M j = 0 → conn K c j ∧ (j = c ∨ ∀ b, adj K j b → N b = 1)) ∧ ∀ j, j < wy → ∀ b : Nat, nbN K c j = (b : Int) → K (74 + b) = K (74 + c) → N b = 1
theorem dfsI.fin {K : Nat → Nat} {c : Nat} {M N : Nat → Int} (h : dfsI K c M N 4) : dfsP K c M N := by
  obtain ⟨a, b, d, e, f⟩ := h
  refine ⟨a, b, d, fun j h1 h2 h3 => ?_⟩
  obtain ⟨g1, g2⟩ := e j h1 h2 h3
  refine ⟨g1, ?_⟩
  rcases g2 with rfl | g2
  · rintro x ⟨w, w1, w2, w3⟩
    exact f w w1 x w2 w3
  · exact g2
theorem dfsI.ini {K : Nat → Nat} {c : Nat} {M : Nat → Int} (hM : z01 K M) : dfsI K c M (upZ M c 1) 0 := by
  refine ⟨fun j hj => ?_, fun j hj h => ?_, ?_, fun j hj h1 h2 => ?_, fun j hj => absurd hj (by omega)⟩
  · unfold upZ; split
    · exact Or.inr rfl
    · exact hM j hj
  · unfold upZ; split
    · rfl
    · exact h
  · unfold upZ; rw [if_pos rfl]
  · by_cases e : j = c
    · exact ⟨by rw [e]; exact conn.rf, Or.inl e⟩
    · unfold upZ at h1; rw [if_neg e, h2] at h1; exact absurd h1 (by decide)
theorem dfsI.no {K : Nat → Nat} {c wy : Nat} {M N : Nat → Int} (h : dfsI K c M N wy) (hn : ∀ b : Nat, nbN K c wy = (b : Int) → K (74 + b) = K (74 + c) → N b = 1) : dfsI K c M N (wy + 1) := by
  obtain ⟨a, b, d, e, f⟩ := h
  refine ⟨a, b, d, e, fun j hj => ?_⟩
  rcases Nat.lt_or_ge j wy with q | q
  · exact f j q
  · obtain rfl : j = wy := by omega
    exact hn
theorem dfsI.st {K : Nat → Nat} (hK : KI K) {c wy b : Nat} {M N N2 : Nat → Int} (h : dfsI K c M N wy) (hc : c < nC K) (hw : wy < 4) (hb : nbN K c wy = (b : Int)) (hq : K (74 + b) = K (74 + c)) (h2 : dfsP K b N N2) : dfsI K c M N2 (wy + 1) := by
  obtain ⟨a1, b1, d1, e1, f1⟩ := h
  obtain ⟨a2, b2, d2, e2⟩ := h2
  have hcb : conn K c b := conn.rf.st ⟨wy, hw, hb, hq⟩
  have hin : ∀ {x y : Nat}, adj K x y → y < nC K := fun {x y} hx => by
    obtain ⟨w, -, w2, -⟩ := hx
    exact (nb_on hK w2).1
  refine ⟨a2, fun j hj h => b2 j hj (b1 j hj h), b2 c hc d1, fun j hj h1 h3 => ?_, fun j hj x hx hy => ?_⟩
  · rcases a1 j hj with z | z
    · obtain ⟨g1, g2⟩ := e2 j hj h1 z
      exact ⟨hcb.tr g1, Or.inr g2⟩
    · obtain ⟨g1, g2⟩ := e1 j hj z h3
      refine ⟨g1, ?_⟩
      rcases g2 with g2 | g2
      · exact Or.inl g2
      · exact Or.inr (fun x hx => b2 x (hin hx) (g2 x hx))
  · rcases Nat.lt_or_ge j wy with q | q
    · exact b2 x (nb_on hK hx).1 (f1 j q x hx hy)
    · obtain rfl : j = wy := by omega
      rw [hb] at hx
      obtain rfl : b = x := Int.ofNat.inj hx
      exact d2
theorem z01.bd {K : Nat → Nat} {N : Nat → Int} (h : z01 K N) : 0 ≤ si N (nC K) ∧ si N (nC K) ≤ nC K := by
  have := si_bd (f := N) (c := 1) (by omega) (n := nC K) (fun k hk => by rcases h k hk with z | z <;> omega)
  omega
theorem z01.up {K : Nat → Nat} {N : Nat → Int} {b : Nat} (h : z01 K N) : z01 K (upZ N b 1) := fun j hj => by
  unfold upZ; split
  · exact Or.inr rfl
  · exact h j hj
theorem rw_nk {h : hg} {k w m p cl n r : Nat} {ce : Nat → Nat} {K : Nat → Nat} {N : Nat → Int} (hT : KT h k w m p cl ce K) (hr : rwI 2 (h r) n N) : k ≠ r ∧ cl ≠ r ∧ ∀ i, i < nC K → on K i = true → ce i ≠ r := by
  refine ⟨(hr.no hT.1).symm, fun e => ?_, fun i hi oi => (hr.no (hT.2.2 i hi oi)).symm⟩
  obtain ⟨f, a, -⟩ := hr
  obtain ⟨g, b, -⟩ := hT.2.1
  rw [e, a] at b
  cases b
theorem KT.frr {h h1 : hg} {k w m p cl n r : Nat} {ce : Nat → Nat} {K : Nat → Nat} {N : Nat → Int} (hT : KT h k w m p cl ce K) (hr : rwI 2 (h r) n N) (hF : FRM h h1 (fun b => b = r)) : KT h1 k w m p cl ce K := by
  obtain ⟨a, b, d⟩ := rw_nk hT hr
  exact hT.frm hF a b d
theorem nb_at {K : Nat → Nat} {c wy b : Nat} (hz : onZ K (((c % K 0 : Nat) : Int) + dxW wy) (((c / K 0 : Nat) : Int) + dyW wy) = true) (hx : ((c % K 0 : Nat) : Int) + dxW wy = ((b % K 0 : Nat) : Int)) (hy : ((c / K 0 : Nat) : Int) + dyW wy = ((b / K 0 : Nat) : Int)) : nbN K c wy = (b : Int) := by
  unfold nbN
  rw [if_pos hz, hx, hy, ← Int.natCast_mul, ← Int.natCast_add, cd_eq]
theorem nb_off {K : Nat → Nat} {c wy b : Nat} (hz : ¬ onZ K (((c % K 0 : Nat) : Int) + dxW wy) (((c / K 0 : Nat) : Int) + dyW wy) = true) : ¬ nbN K c wy = (b : Int) := by
  unfold nbN
  rw [if_neg hz]
  omega
section KF
variable {ad : Nat → Nat} {sc : Nat × (Nat → Int32)} {u : hp} {h : hg} {Q : qg} {k w m p cl : Nat} {ce : Nat → Nat} {K : Nat → Nat} {c sl : Nat}
theorem si_mono {f g : Nat → Int} : ∀ {n : Nat}, (∀ k, k < n → f k ≤ g k) → si f n ≤ si g n
  | 0, _ => Int.le_refl _
  | n + 1, h => by
    rw [si_succ, si_succ]
    have h1 := si_mono (n := n) (fun k hk => h k (by omega))
    have h2 := h n (by omega)
    omega
theorem dfs_mono {K : Nat → Nat} {c : Nat} {M N : Nat → Int} (hM : z01 K M) (h : dfsP K c M N) : si M (nC K) ≤ si N (nC K) := si_mono (fun j hj => by
  have h1 := h.2.1 j hj
  rcases h.1 j hj with z | z <;> rcases hM j hj with y | y
  · omega
  · have := h1 y; omega
  · omega
  · omega)
theorem kl_marks {d r : Nat} (hK : KI K) (IH : ∀ {h : hg} {M : Nat → Int} {c0 : Nat}, KT h k w m p cl ce K → rwI 2 (h r) (nC K) M → z01 K M → (nC K : Int) - si M (nC K) ≤ d → c0 < nC K → on K c0 = true → Gl ad sc 0 0 (M_X7_marks d) [.ref k, .ref (ce c0), .ref r] u h (fun v u1 h1 => ∃ (N : Nat → Int) (n : Int), v = .int (I n) ∧ u1 = u ∧ FRM h h1 (fun b => b = r) ∧ rwI 2 (h1 r) (nC K) N ∧ dfsP K c0 M N ∧ n = si N (nC K) - si M (nC K))) {h0 : hg} {M : Nat → Int} {c0 : Nat} (hT0 : KT h0 k w m p cl ce K) (hr0 : rwI 2 (h0 r) (nC K) M) (hM : z01 K M) (hcc : c0 < nC K) (hco : on K c0 = true) : ∀ (n wy : Nat) {h1 : hg} {N : Nat → Int} {acc : Int}, wy + n = 4 → FRM h0 h1 (fun b => b = r) → rwI 2 (h1 r) (nC K) N → dfsI K c0 M N wy → (nC K : Int) - si N (nC K) ≤ d → acc = si N (nC K) - si M (nC K) → Gx ad sc (M_X7_marks (d + 1)) 25 [.ref k, .ref (ce c0), .ref r, .int (I (acc)), .int (I (wy : Int)), uk] [] c sl u h1 (fun v u1 h1 => ∃ (N : Nat → Int) (n : Int), v = .int (I n) ∧ u1 = u ∧ FRM h0 h1 (fun b => b = r) ∧ rwI 2 (h1 r) (nC K) N ∧ dfsP K c0 M N ∧ n = si N (nC K) - si M (nC K)) := by
  have hn9 := nC_le hK
  have k0 := hK.1
  intro n
  induction n with
  | zero =>
    intro wy h1 N acc hn hF hr hD hu ha
    refine bx_iload dX7_marks_25 rfl ?_
    refine bx_iconst dX7_marks_27 ?_
    refine bx_icmp_ge (tgt := 73) dX7_marks_28 (by decide) (by omega) (by omega) (fun c28 => ?_) (fun c28 => ?_)
    · obtain rfl : wy = 4 := by omega
      refine bx_iload_n dX7_marks_73 rfl ?_
      exact bx_iret dX7_marks_74 rfl ⟨N, acc, rfl, rfl, hF, hr, hD.fin, ha⟩
    · exfalso
      omega
  | succ n ih =>
    intro wy h1 N acc hn hF hr hD hu ha
    have hT := hT0.frr hr0 hF
    have hc1 := hT.2.2 c0 hcc hco
    have hN := hD.1
    have b1 := hN.bd
    have b2 := hM.bd
    have c5 := hK.2.2.2.2.1 c0 (by omega)
    by_cases hz : onZ K (((c0 % K 0 : Nat) : Int) + dxW wy) (((c0 / K 0 : Nat) : Int) + dyW wy) = true
    · obtain ⟨b, hb, hbc, hbo, hx, hy⟩ := at_ix hK hz
      have e9 : atR K ce (((c0 % K 0 : Nat) : Int) + dxW wy) (((c0 / K 0 : Nat) : Int) + dyW wy) = some (ce b) := by unfold atR; rw [if_pos hz, ← hb]
      have hb1 := hT.2.2 b hbc hbo
      have b5 := hK.2.2.2.2.1 b (by omega)
      have hnb := nb_at hz hx hy
      refine bx_iload dX7_marks_25 rfl ?_
      refine bx_iconst dX7_marks_27 ?_
      refine bx_icmp_ge (tgt := 73) dX7_marks_28 (by decide) (by omega) (by omega) (fun c28 => ?_) (fun c28 => ?_)
      · exfalso
        omega
      · refine bx_aload_n dX7_marks_31 rfl ?_
        refine bx_aload_n dX7_marks_32 rfl ?_
        refine bx_iload dX7_marks_33 rfl ?_
        refine bx_cvP2 dX7_marks_35 ln_X7_marks_119 (Nat.le_of_ble_eq_true rfl) (by decide) hT.1 rfl (by have := kt_beside hT hK (ad := ad) (sc := sc) (u := u) (c := 0) (sl := 0) hc1 hcc (show wy < 4 by omega); rw [e9] at this; exact this) ?_
        refine bx_astore dX7_marks_38 rfl (show _ < 6 by decide) rfl ?_
        refine bx_aload dX7_marks_40 rfl ?_
        refine gx_ifnull dX7_marks_42 ?_
        refine bx_aload dX7_marks_45 rfl ?_
        refine bx_getf dX7_marks_47 ck6 fg_KitePainterLaw_Kite_74 (by decide) hb1 rfl ?_
        refine bx_aload_n dX7_marks_50 rfl ?_
        refine bx_getf dX7_marks_51 ck6 fg_KitePainterLaw_Kite_74 (by decide) hc1 rfl ?_
        refine bx_icmp_ne (tgt := 67) dX7_marks_54 (by decide) (by omega) (by omega) (fun q54 => ?_) (fun q54 => ?_)
        · refine bx_iinc dX7_marks_67 rfl rfl (show _ < 6 by decide) rfl ?_
          refine bx_goto (tgt := 25) dX7_marks_70 (by decide) ?_
          first
            | (refine gx_forg (i := 5) ?_; exact ih (wy + 1) (by omega) hF hr (hD.no (fun x h1 h2 => by rw [hnb] at h1; obtain rfl : b = x := Int.ofNat.inj h1; omega)) hu ha)
            | (refine gx_forg (i := 5) ?_; have sm := dfs_mono hN P2; exact ih (wy + 1) (by omega) (hF.tr F2) r2 (hD.st hK hcc (by omega) hnb (by omega) P2) (by omega) (by omega))
        · refine bx_iload_n dX7_marks_57 rfl ?_
          refine bx_aload_n dX7_marks_58 rfl ?_
          refine bx_aload dX7_marks_59 rfl ?_
          refine bx_aload_n dX7_marks_61 rfl ?_
          refine bx_cv2 dX7_marks_62 ln_X7_marks_123 (Nat.le_of_ble_eq_true rfl) (fun z => by cases z) hT.1 rfl (Nat.zero_le _) (Nat.zero_le _) (IH hT hr hN hu hbc hbo) (fun v9 u9 h9 hq9 => ?_)
          obtain ⟨N2, n2, rfl, rfl, F2, r2, P2, hn2⟩ := hq9
          refine bx_iadd dX7_marks_65 ?_
          refine bx_istore_n dX7_marks_66 rfl (show _ < 6 by decide) rfl ?_
          refine bx_iinc dX7_marks_67 rfl rfl (show _ < 6 by decide) rfl ?_
          refine bx_goto (tgt := 25) dX7_marks_70 (by decide) ?_
          first
            | (refine gx_forg (i := 5) ?_; exact ih (wy + 1) (by omega) hF hr (hD.no (fun x h1 h2 => by rw [hnb] at h1; obtain rfl : b = x := Int.ofNat.inj h1; omega)) hu ha)
            | (refine gx_forg (i := 5) ?_; have sm := dfs_mono hN P2; exact ih (wy + 1) (by omega) (hF.tr F2) r2 (hD.st hK hcc (by omega) hnb (by omega) P2) (by omega) (by omega))
    · have e9 : atR K ce (((c0 % K 0 : Nat) : Int) + dxW wy) (((c0 / K 0 : Nat) : Int) + dyW wy) = none := if_neg hz
      refine bx_iload dX7_marks_25 rfl ?_
      refine bx_iconst dX7_marks_27 ?_
      refine bx_icmp_ge (tgt := 73) dX7_marks_28 (by decide) (by omega) (by omega) (fun c28 => ?_) (fun c28 => ?_)
      · exfalso
        omega
      · refine bx_aload_n dX7_marks_31 rfl ?_
        refine bx_aload_n dX7_marks_32 rfl ?_
        refine bx_iload dX7_marks_33 rfl ?_
        refine bx_cvP2 dX7_marks_35 ln_X7_marks_119 (Nat.le_of_ble_eq_true rfl) (by decide) hT.1 rfl (by have := kt_beside hT hK (ad := ad) (sc := sc) (u := u) (c := 0) (sl := 0) hc1 hcc (show wy < 4 by omega); rw [e9] at this; exact this) ?_
        refine bx_astoreN dX7_marks_38 rfl (show _ < 6 by decide) rfl ?_
        refine gx_aloadN rfl dX7_marks_40 ?_
        refine gx_ifnullN (tgt := 67) dX7_marks_42 (by decide) ?_
        refine bx_iinc dX7_marks_67 rfl rfl (show _ < 6 by decide) rfl ?_
        refine bx_goto (tgt := 25) dX7_marks_70 (by decide) ?_
        refine gx_forg (i := 5) ?_
        exact ih (wy + 1) (by omega) hF hr (hD.no (fun x h1 h2 => absurd h1 (nb_off hz))) hu ha
theorem kt_marks {r : Nat} (hK : KI K) : ∀ d : Nat, ∀ {h : hg} {M : Nat → Int} {c0 : Nat}, KT h k w m p cl ce K → rwI 2 (h r) (nC K) M → z01 K M → (nC K : Int) - si M (nC K) ≤ d → c0 < nC K → on K c0 = true → Gl ad sc 0 0 (M_X7_marks d) [.ref k, .ref (ce c0), .ref r] u h (fun v u1 h1 => ∃ (N : Nat → Int) (n : Int), v = .int (I n) ∧ u1 = u ∧ FRM h h1 (fun b => b = r) ∧ rwI 2 (h1 r) (nC K) N ∧ dfsP K c0 M N ∧ n = si N (nC K) - si M (nC K)) := by
  have hn9 := nC_le hK
  have k0 := hK.1
  intro d
  induction d with
  | zero =>
    intro h M c0 hT hr hM hu hcc hco
    have hc1 := hT.2.2 c0 hcc hco
    have b2 := hM.bd
    have s1 := si_upZ (N := M) (v := 1) hcc
    have b3 := (hM.up (b := c0)).bd
    have hm9 := hM c0 hcc
    refine bx_aload_n dX7_marks_0 rfl ?_
    refine bx_aload_n dX7_marks_1 rfl ?_
    refine bx_aload_n dX7_marks_2 rfl ?_
    refine bx_cvP1 dX7_marks_3 ln_X7_marks_96 (Nat.le_of_ble_eq_true rfl) (by decide) hT.1 rfl (kt_numberOf hT hK hc1) ?_
    refine bx_zalr (j := c0) dX7_marks_6 hr rfl hcc (by omega) rfl ?_
    refine bx_if_eq (tgt := 12) dX7_marks_7 (by decide) (by omega) (fun c7 => ?_) (fun c7 => ?_)
    · exfalso
      omega
    · refine bx_iconst dX7_marks_10 ?_
      exact bx_iret dX7_marks_11 rfl ⟨M, 0, rfl, rfl, FRM.rf, hr, ⟨hM, fun j _ z => z, by omega, fun j _ z y => by omega⟩, by omega⟩
  | succ d IH =>
    intro h M c0 hT hr hM hu hcc hco
    have hc1 := hT.2.2 c0 hcc hco
    have b2 := hM.bd
    have s1 := si_upZ (N := M) (v := 1) hcc
    have b3 := (hM.up (b := c0)).bd
    have hm9 := hM c0 hcc
    refine bx_aload_n dX7_marks_0 rfl ?_
    refine bx_aload_n dX7_marks_1 rfl ?_
    refine bx_aload_n dX7_marks_2 rfl ?_
    refine bx_cvP1 dX7_marks_3 ln_X7_marks_96 (Nat.le_of_ble_eq_true rfl) (by decide) hT.1 rfl (kt_numberOf hT hK hc1) ?_
    refine bx_zalr (j := c0) dX7_marks_6 hr rfl hcc (by omega) rfl ?_
    refine bx_if_eq (tgt := 12) dX7_marks_7 (by decide) (by omega) (fun c7 => ?_) (fun c7 => ?_)
    · refine bx_aload_n dX7_marks_12 rfl ?_
      refine bx_aload_n dX7_marks_13 rfl ?_
      refine bx_aload_n dX7_marks_14 rfl ?_
      refine bx_cvP1 dX7_marks_15 ln_X7_marks_96 (Nat.le_of_ble_eq_true rfl) (by decide) hT.1 rfl (kt_numberOf hT hK hc1) ?_
      refine bx_iconst dX7_marks_18 ?_
      refine bx_zasr (j := c0) dX7_marks_19 hr rfl hcc (by omega) (Or.inr rfl) (fun e19 he19 => ?_)
      refine gx_gen (fun g1 q1 => ?_)
      have F1 : FRM h g1 (fun b => b = r) := by rw [q1]; exact FRM.u1 rfl
      have r1 : rwI 2 (g1 r) (nC K) (upZ M c0 1) := he19.mv (by rw [q1]; exact ug_eq)
      refine bx_iconst dX7_marks_20 ?_
      refine bx_istore_n dX7_marks_21 rfl (show _ < 6 by decide) rfl ?_
      refine bx_iconst dX7_marks_22 ?_
      refine bx_istore dX7_marks_23 rfl (show _ < 6 by decide) rfl ?_
      exact kl_marks hK IH hT hr hM hcc hco 4 0 (by omega) F1 r1 (dfsI.ini hM) (by omega) (by omega)
    · refine bx_iconst dX7_marks_10 ?_
      exact bx_iret dX7_marks_11 rfl ⟨M, 0, rfl, rfl, FRM.rf, hr, ⟨hM, fun j _ z => z, by omega, fun j _ z y => by omega⟩, by omega⟩
end KF
