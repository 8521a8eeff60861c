/-! regions: what is connected, and the search for it -/
def nbN (K : Nat → Nat) (a j : Nat) : Int := if onZ K (((a % K 0 : Nat) : Int) + dxW j) (((a / K 0 : Nat) : Int) + dyW j) = true then (((a / K 0 : Nat) : Int) + dyW j) * (K 0 : Int) + (((a % K 0 : Nat) : Int) + dxW j) else -1
def adj (K : Nat → Nat) (a b : Nat) : Prop := ∃ j, j < 4 ∧ nbN K a j = (b : Int) ∧ K (74 + b) = K (74 + a)
def conn (K : Nat → Nat) (i j : Nat) : Prop := ∀ S : Nat → Prop, S i → (∀ a b, S a → adj K a b → S b) → S j
theorem conn.rf {K : Nat → Nat} {i : Nat} : conn K i i := fun _ h _ => h
theorem conn.st {K : Nat → Nat} {i a b : Nat} (h : conn K i a) (k : adj K a b) : conn K i b := fun S h1 h2 => h2 a b (h S h1 h2) k
theorem conn.col {K : Nat → Nat} {i j : Nat} (h : conn K i j) : K (74 + j) = K (74 + i) := h (fun a => K (74 + a) = K (74 + i)) rfl (fun a b h1 h2 => by obtain ⟨j, -, -, e⟩ := h2; rw [e]; exact h1)
theorem nb_on {K : Nat → Nat} (hK : KI K) {a j b : Nat} (h : nbN K a j = (b : Int)) : b < nC K ∧ on K b = true := by
  unfold nbN at h
  by_cases z : onZ K (((a % K 0 : Nat) : Int) + dxW j) (((a / K 0 : Nat) : Int) + dyW j) = true
  · rw [if_pos z] at h
    obtain ⟨u, v, e1, e2, u1, v1, n1, n2, -⟩ := onZ_nat hK z
    rw [e1, e2] at h z
    have e3 : ((v : Int) * (K 0 : Int) + (u : Int)) = ((v * K 0 + u : Nat) : Int) := by push_cast; omega
    have e4 : b = v * K 0 + u := by omega
    rw [e4]
    exact ⟨n1, by rw [on_at u1]; exact z⟩
  · rw [if_neg z] at h; omega
/-- marks are 0 or 1 -/
def mk01 (N : Nat → Int) : Prop := ∀ j, j < 180 → N j = 0 ∨ N j = 1
def mkCl (K : Nat → Nat) (N : Nat → Int) : Prop := ∀ a b, a < 180 → N a = 1 → adj K a b → N b = 1
/-- what a search owes: the marks are those that were there, and what is connected -/
def mkEnd (K : Nat → Nat) (c : Nat) (M N : Nat → Int) : Prop := mk01 N ∧ mkCl K N ∧ ∀ j, j < 180 → (N j = 1 ↔ M j = 1 ∨ conn K c j)
theorem mk_uniq {K : Nat → Nat} {c : Nat} {M M' N N' : Nat → Int} (hM : ∀ j, j < 180 → M j = M' j) (h : mkEnd K c M N) (h' : mkEnd K c M' N') : ∀ j, j < 180 → N j = N' j := by
  intro j hj
  have h1 := h.2.2 j hj
  have h2 := h'.2.2 j hj
  rw [hM j hj] at h1
  have h3 : N j = 1 ↔ N' j = 1 := h1.trans h2.symm
  rcases h.1 j hj with z | z
  · rcases h'.1 j hj with z' | z'
    · rw [z, z']
    · exact absurd (h3.mpr z') (by omega)
  · rw [z, h3.mp z]
theorem si_upZ {N : Nat → Int} {b : Nat} {v : Int} : ∀ {n : Nat}, b < n → si (upZ N b v) n = si N n - N b + v
  | 0, h => absurd h (Nat.not_lt_zero _)
  | n + 1, h => by
    rw [si_succ, si_succ]
    by_cases q : b = n
    · subst q
      have : si (upZ N b v) b = si N b := si_cong (fun k hk => by unfold upZ; rw [if_neg (by omega)])
      rw [this]
      unfold upZ
      rw [if_pos rfl]; omega
    · rw [si_upZ (n := n) (by omega)]
      unfold upZ
      rw [if_neg (by omega)]; omega
def BI (K : Nat → Nat) (c : Nat) (M N : Nat → Int) (q : Nat → Nat) (n : Nat) : Prop :=
  mk01 N ∧ (∀ j, j < 180 → (N j = 1 ↔ M j = 1 ∨ ∃ k, k < n ∧ q k = j)) ∧ (∀ k, k < n → q k < nC K ∧ on K (q k) = true ∧ conn K c (q k)) ∧ (n : Int) = si N 180 - si M 180
def PI (K : Nat → Nat) (N : Nat → Int) (q : Nat → Nat) (a : Nat) : Prop := ∀ k, k < a → ∀ b, adj K (q k) b → N b = 1
def WI (K : Nat → Nat) (N : Nat → Int) (c : Nat) (w : Nat) : Prop := ∀ j, j < w → ∀ b : Nat, nbN K c j = (b : Int) → K (74 + b) = K (74 + c) → N b = 1
def uq (q : Nat → Nat) (n b : Nat) : Nat → Nat := fun k => if k = n then b else q k
theorem si_le1 {N : Nat → Int} (h : mk01 N) : 0 ≤ si N 180 ∧ si N 180 ≤ 180 := by
  have := si_bd (f := N) (c := 1) (by omega) (n := 180) (fun k hk => by rcases h k hk with z | z <;> omega)
  omega
theorem BI.n_le {K : Nat → Nat} {c n : Nat} {M N : Nat → Int} {q : Nat → Nat} (h : BI K c M N q n) (hM : mk01 M) : n ≤ 180 := by
  have h1 := si_le1 h.1
  have h2 := si_le1 hM
  have h3 := h.2.2.2
  omega
theorem BI.push {K : Nat → Nat} (hK : KI K) {c n b : Nat} {M N : Nat → Int} {q : Nat → Nat} (h : BI K c M N q n) (hb : b < nC K) (ho : on K b = true) (h0 : N b = 0) (hc : conn K c b) : BI K c M (upZ N b 1) (uq q n b) (n + 1) := by
  have n0 := nC_le hK
  refine ⟨fun j hj => ?_, fun j hj => ?_, fun k hk => ?_, ?_⟩
  · unfold upZ
    by_cases e : j = b
    · rw [if_pos e]; exact Or.inr rfl
    · rw [if_neg e]; exact h.1 j hj
  · unfold upZ
    by_cases e : j = b
    · rw [if_pos e]
      exact ⟨fun _ => Or.inr ⟨n, by omega, by unfold uq; rw [if_pos rfl, e]⟩, fun _ => rfl⟩
    · rw [if_neg e, h.2.1 j hj]
      constructor
      · rintro (z | ⟨k, hk, z⟩)
        · exact Or.inl z
        · exact Or.inr ⟨k, by omega, by unfold uq; rw [if_neg (by omega)]; exact z⟩
      · rintro (z | ⟨k, hk, z⟩)
        · exact Or.inl z
        · unfold uq at z
          by_cases e2 : k = n
          · rw [if_pos e2] at z; exact absurd z.symm e
          · rw [if_neg e2] at z; exact Or.inr ⟨k, by omega, z⟩
  · unfold uq
    by_cases e2 : k = n
    · rw [if_pos e2]; exact ⟨hb, ho, hc⟩
    · rw [if_neg e2]; exact h.2.2.1 k (by omega)
  · rw [si_upZ (by omega), h0]
    have := h.2.2.2
    push_cast; omega
theorem up1 {N : Nat → Int} {b j : Nat} (h : N j = 1) : upZ N b 1 j = 1 := by
  unfold upZ; split
  · rfl
  · exact h
theorem PI.push {K : Nat → Nat} {N : Nat → Int} {q : Nat → Nat} {a n b : Nat} (h : PI K N q a) (ha : a ≤ n) : PI K (upZ N b 1) (uq q n b) a := by
  intro k hk x hx
  unfold uq at hx
  rw [if_neg (by omega)] at hx
  exact up1 (h k hk x hx)
theorem WI.push {K : Nat → Nat} {N : Nat → Int} {c w b : Nat} (h : WI K N c w) : WI K (upZ N b 1) c w := fun j hj x h1 h2 => up1 (h j hj x h1 h2)
theorem BI.fin {K : Nat → Nat} {c n : Nat} {M N : Nat → Int} {q : Nat → Nat} (h : BI K c M N q n) (hM : mkCl K M) (hN : ∀ j, j < 180 → M j = 1 → N j = 1) (hq : c < 180 → N c = 1) (hc : c < 180) (hP : PI K N q n) (hK : KI K) : mkEnd K c M N := by
  have n0 := nC_le hK
  have cl : mkCl K N := by
    intro a b ha h1 hab
    rcases (h.2.1 a ha).mp h1 with z | ⟨k, hk, z⟩
    · have := hM a b ha z hab
      obtain ⟨j, -, e, -⟩ := hab
      exact hN b (by have := (nb_on hK e).1; omega) this
    · rw [← z] at hab
      exact hP k hk b hab
  refine ⟨h.1, cl, fun j hj => ⟨fun h1 => ?_, ?_⟩⟩
  · rcases (h.2.1 j hj).mp h1 with z | ⟨k, hk, z⟩
    · exact Or.inl z
    · right; rw [← z]; exact (h.2.2.1 k hk).2.2
  · rintro (z | z)
    · exact hN j hj z
    · have := z (fun a => a < 180 ∧ N a = 1) ⟨hc, hq hc⟩ (fun a b h1 h2 => ⟨by obtain ⟨w, -, e, -⟩ := h2; have := (nb_on hK e).1; omega, cl a b h1.1 h1.2 h2⟩)
      exact this.2
section MK
variable {NC : Nat} {h : hp} {s : Nat → Int} {K : Nat → Nat} {Q : qt}
theorem l6_clear (hN : 132 ≤ NC) {F0 : Nat → Int} (kk : ∀ (g : hp) (F : Nat → Int), MD g s K → row 2 (g 129) 180 F → (∀ j, j < 180 → F j = 0) → EqX [129] h g → Ex NC none M_X6_clearMarks 22 [.ref 112, .int (I 180)] [] g Q) : ∀ (n : Nat) (c : Nat) (g : hp) (F : Nat → Int), c + n = 180 → MD g s K → row 2 (g 129) 180 F → (∀ j, j < c → F j = 0) → EqX [129] h g → Ex NC none M_X6_clearMarks 2 [.ref 112, .int (I (c : Int))] [] g Q := by
  intro n
  induction n with
  | zero =>
    intro c g F hc hM hF iF hX
    refine ax_iload_n dX6_clearMarks_2 rfl ?_
    refine ax_sipush dX6_clearMarks_3 (by decide) ?_
    refine ax_icmp_ge (tgt := 22) dX6_clearMarks_6 (by decide) (by omega) (by omega) (fun c6 => ?_) (fun c6 => ?_)
    · have e : c = 180 := by omega
      subst e
      exact kk g F hM hF iF hX
    · exfalso
      omega
  | succ n ih =>
    intro c g F hc hM hF iF hX
    refine ax_iload_n dX6_clearMarks_2 rfl ?_
    refine ax_sipush dX6_clearMarks_3 (by decide) ?_
    refine ax_icmp_ge (tgt := 22) dX6_clearMarks_6 (by decide) (by omega) (by omega) (fun c6 => ?_) (fun c6 => ?_)
    · exfalso
      omega
    · refine ax_aload_n dX6_clearMarks_9 rfl ?_
      refine ax_getf dX6_clearMarks_10 ck6 fl_X6_40 (by decide) (by omega) hM.1 rfl ?_
      refine ax_iload_n dX6_clearMarks_13 rfl ?_
      refine ax_iconst dX6_clearMarks_14 ?_
      refine ax_zasr (j := c) dX6_clearMarks_15 (by omega) hF (by omega) (by omega) (by decide) (Or.inl rfl) (fun e15 he15 => ?_)
      have hX1 := hX.up (b := 129) (e := e15) (by decide)
      have hM1 : MD (va_up g 129 e15) s K := hM.eq (vu_ne (by decide)) (vu_ne (by decide))
      have hF1 : row 2 (va_up g 129 e15 129) 180 _ := he15.mv vu_eq
      refine ax_iinc dX6_clearMarks_16 rfl rfl (by decide) ?_
      refine ax_goto (tgt := 2) dX6_clearMarks_19 (by decide) ?_
      exact ih (c + 1) _ _ (by omega) hM1 hF1 (fun j hj => by unfold upZ; by_cases q : j = c; exact if_pos q; rw [if_neg q]; exact iF j (by omega)) hX1
theorem s6_clearMarks (hN : 132 ≤ NC) (hM : MD h s K) (hF : sh 2 (h 129) 180) : Cl NC M_X6_clearMarks [.ref 112] h (fun _ h1 => MD h1 s K ∧ (∃ F, row 2 (h1 129) 180 F ∧ ∀ j, j < 180 → F j = 0) ∧ EqX [129] h h1) := by
  obtain ⟨F0, hF⟩ := hF
  refine ax_iconst dX6_clearMarks_0 ?_
  refine ax_istore_n dX6_clearMarks_1 rfl (by decide) ?_
  refine l6_clear (h := h) hN (F0 := F0) (fun g F hM1 hF1 iF1 hX1 => ?_) 180 0 h F0 (by omega) hM hF (fun j hj => by omega) EqX.rf
  exact ax_vret dX6_clearMarks_22 rfl ⟨hM1, ⟨F, hF1, iF1⟩, hX1⟩
theorem mk_step (hN : 132 ≤ NC) (hK : KI K) {c0 c a : Nat} {M : Nat → Int} (hM01 : mk01 M) (hc0 : c0 < 180) {j : Nat} (hj : j < 4) {n : Nat} {g : hp} {N W : Nat → Int} {q : Nat → Nat} (hM : MD g s K) (hNr : row 2 (g 129) 180 N) (hWr : row 0 (g 130) 180 W) (iW : ∀ k, k < n → W k = q k) (hB : BI K c0 M N q n) (hP : PI K N q a) (ha : a < n) (hca : q a = c) (hz : q 0 = c0) (hw : WI K N c j) (hX : EqX [129, 130] h g)
    (kk : ∀ (n : Nat) (g : hp) (N W : Nat → Int) (q : Nat → Nat) (w6 : Value), MD g s K → row 2 (g 129) 180 N → row 0 (g 130) 180 W → (∀ k, k < n → W k = q k) → BI K c0 M N q n → PI K N q a → a < n → q a = c → q 0 = c0 → WI K N c (j + 1) → EqX [129, 130] h g → Ex NC none M_X6_mark 37 [.ref 112, .int (I (c0 : Int)), .int (I (n : Int)), .int (I ((a : Int) + 1)), .int (I (c : Int)), .int (I ((j : Int) + 1)), w6] [] g Q) (w6 : Value) : Ex NC none M_X6_mark 37 [.ref 112, .int (I (c0 : Int)), .int (I (n : Int)), .int (I ((a : Int) + 1)), .int (I (c : Int)), .int (I (j : Int)), w6] [] g Q := by
  have n0 := nC_le hK
  have nle := hB.n_le hM01
  have hqa := hB.2.2.1 a ha
  rw [hca] at hqa
  have hcc := hqa.2.2.col
  have sb := s6_beside hN hM hK (c := c) (j := j) (by omega) hj
  rw [show (if onZ K (((c % K 0 : Nat) : Int) + dxW j) (((c / K 0 : Nat) : Int) + dyW j) = true then (((c / K 0 : Nat) : Int) + dyW j) * (K 0 : Int) + (((c % K 0 : Nat) : Int) + dxW j) else -1) = nbN K c j from rfl] at sb
  have rg : nbN K c j = -1 ∨ ∃ b : Nat, nbN K c j = (b : Int) := by
    unfold nbN
    by_cases z : onZ K (((c % K 0 : Nat) : Int) + dxW j) (((c / K 0 : Nat) : Int) + dyW j) = true
    · rw [if_pos z]
      obtain ⟨u, v, e1, e2, u1, v1, n1, n2, -⟩ := onZ_nat hK z
      right; exact ⟨v * K 0 + u, by rw [e1, e2]; push_cast; omega⟩
    · rw [if_neg z]; exact Or.inl rfl
  refine ax_iload dX6_mark_37 rfl ?_
  refine ax_iconst dX6_mark_39 ?_
  refine ax_icmp_ge (tgt := 119) dX6_mark_40 (by decide) (by omega) (by omega) (fun c40 => ?_) (fun c40 => ?_)
  · exfalso
    omega
  · refine ax_aload_n dX6_mark_43 rfl ?_
    refine ax_iload dX6_mark_44 rfl ?_
    refine ax_iload dX6_mark_46 rfl ?_
    refine ax_cviP2 dX6_mark_48 ln_X6_mark_225 (Nat.le_of_ble_eq_true rfl) (Or.inl rfl) (by omega) hM.1 rfl sb ?_
    refine ax_istore dX6_mark_51 rfl (by decide) ?_
    refine ax_iload dX6_mark_53 rfl ?_
    refine ax_iconst dX6_mark_55 ?_
    refine ax_icmp_eq (tgt := 113) dX6_mark_56 (by decide) (by rcases rg with z | ⟨b, z⟩; omega; have := (nb_on hK z).1; omega) (by omega) (fun c56 => ?_) (fun c56 => ?_)
    · refine ax_iinc dX6_mark_113 rfl rfl (by decide) ?_
      refine ax_goto (tgt := 37) dX6_mark_116 (by decide) ?_
      exact kk n g N W q _ hM hNr hWr iW hB hP ha hca hz (fun i hi b2 h1 h2 => by by_cases e : i = j; subst e; (exact absurd (h1.symm.trans c56) (by omega)); exact hw i (by omega) b2 h1 h2) hX
    · obtain ⟨b, eb⟩ : ∃ b : Nat, nbN K c j = (b : Int) := rg.resolve_left c56
      have hb := nb_on hK eb
      rw [eb]
      refine ax_aload_n dX6_mark_59 rfl ?_
      refine ax_getf dX6_mark_60 ck6 fl_X6_40 (by decide) (by omega) hM.1 rfl ?_
      refine ax_iload dX6_mark_63 rfl ?_
      refine ax_zalr (j := b) (w := (N b : Int)) dX6_mark_65 (by omega) hNr (by omega) (by omega) (by decide) rfl ?_
      refine ax_if_ne (tgt := 113) dX6_mark_66 (by decide) (by rcases hB.1 b (by omega) with z | z <;> omega) (fun c66 => ?_) (fun c66 => ?_)
      · refine ax_iinc dX6_mark_113 rfl rfl (by decide) ?_
        refine ax_goto (tgt := 37) dX6_mark_116 (by decide) ?_
        exact kk n g N W q _ hM hNr hWr iW hB hP ha hca hz (fun i hi b2 h1 h2 => by by_cases e : i = j; subst e; (have e2 : b2 = b := (by omega); subst e2; exact (hB.1 b2 (by omega)).resolve_left c66); exact hw i (by omega) b2 h1 h2) hX
      · refine ax_aload_n dX6_mark_69 rfl ?_
        refine ax_getf dX6_mark_70 ck6 fl_X6_17 (by decide) (by omega) hM.1 rfl ?_
        refine ax_bipush dX6_mark_73 (by decide) ?_
        refine ax_iload dX6_mark_75 rfl ?_
        refine ax_iadd dX6_mark_77 ?_
        refine ax_ialr (j := (74 + b)) (w := (K ((74 + b)) : Int)) dX6_mark_78 (by omega) hM.2 (by omega) (by omega) (by decide) rfl ?_
        refine ax_aload_n dX6_mark_79 rfl ?_
        refine ax_getf dX6_mark_80 ck6 fl_X6_17 (by decide) (by omega) hM.1 rfl ?_
        refine ax_bipush dX6_mark_83 (by decide) ?_
        refine ax_iload_n dX6_mark_85 rfl ?_
        refine ax_iadd dX6_mark_86 ?_
        refine ax_ialr (j := (74 + c0)) (w := (K ((74 + c0)) : Int)) dX6_mark_87 (by omega) hM.2 (by omega) (by omega) (by decide) rfl ?_
        refine ax_icmp_eq (tgt := 94) dX6_mark_88 (by decide) (by have := hK.2.2.2.2.1 b (by omega); omega) (by have := hK.2.2.2.2.1 c0 (by omega); omega) (fun c88 => ?_) (fun c88 => ?_)
        · refine ax_aload_n dX6_mark_94 rfl ?_
          refine ax_getf dX6_mark_95 ck6 fl_X6_40 (by decide) (by omega) hM.1 rfl ?_
          refine ax_iload dX6_mark_98 rfl ?_
          refine ax_iconst dX6_mark_100 ?_
          refine ax_zasr (j := b) dX6_mark_101 (by omega) hNr (by omega) (by omega) (by decide) (Or.inr rfl) (fun e101 he101 => ?_)
          have hX1 := hX.up (b := 129) (e := e101) (by decide)
          have hM1 : MD (va_up g 129 e101) s K := hM.eq (vu_ne (by decide)) (vu_ne (by decide))
          have hN1 : row 2 (va_up g 129 e101 129) 180 _ := he101.mv vu_eq
          have hW1 : row 0 (va_up g 129 e101 130) 180 _ := hWr.mv (vu_ne (by decide))
          have hcb : conn K c0 b := hqa.2.2.st ⟨j, hj, eb, by omega⟩
          have hB1 := hB.push hK hb.1 hb.2 c66 hcb
          have nle1 := hB1.n_le hM01
          generalize va_up g 129 e101 = g1 at *
          refine ax_aload_n dX6_mark_102 rfl ?_
          refine ax_getf dX6_mark_103 ck6 fl_X6_44 (by decide) (by omega) hM1.1 rfl ?_
          refine ax_iload_n dX6_mark_106 rfl ?_
          refine ax_iload dX6_mark_107 rfl ?_
          refine ax_iasr (j := n) dX6_mark_109 (by omega) hW1 (by omega) (by omega) (by decide) (fun e109 he109 => ?_)
          have hX2 := hX1.up (b := 130) (e := e109) (by decide)
          have hM2 : MD (va_up g1 130 e109) s K := hM1.eq (vu_ne (by decide)) (vu_ne (by decide))
          have hN2 : row 2 (va_up g1 130 e109 129) 180 _ := hN1.mv (vu_ne (by decide))
          have hW2 : row 0 (va_up g1 130 e109 130) 180 _ := he109.mv vu_eq
          refine ax_iinc dX6_mark_110 rfl rfl (by decide) ?_
          refine ax_iinc dX6_mark_113 rfl rfl (by decide) ?_
          refine ax_goto (tgt := 37) dX6_mark_116 (by decide) ?_
          exact kk (n + 1) _ _ _ (uq q n b) _ hM2 hN2 hW2 (fun k hk => by unfold upZ uq; by_cases e : k = n; rw [if_pos e, if_pos e]; rw [if_neg e, if_neg e]; exact iW k (by omega)) hB1 (hP.push (by omega)) (by omega) (by unfold uq; rw [if_neg (by omega)]; exact hca) (by unfold uq; rw [if_neg (by omega)]; exact hz) (fun i hi b2 h1 h2 => by by_cases e : i = j; (subst e; have e2 : b2 = b := (by omega); subst e2; unfold upZ; rw [if_pos rfl]); exact up1 (hw i (by omega) b2 h1 h2)) hX2
        · refine ax_goto (tgt := 113) dX6_mark_91 (by decide) ?_
          refine ax_iinc dX6_mark_113 rfl rfl (by decide) ?_
          refine ax_goto (tgt := 37) dX6_mark_116 (by decide) ?_
          exact kk n g N W q _ hM hNr hWr iW hB hP ha hca hz (fun i hi b2 h1 h2 => by by_cases e : i = j; subst e; (exact absurd h2 (by have e2 : b2 = b := (by omega); rw [e2]; omega)); exact hw i (by omega) b2 h1 h2) hX
theorem mk_loop (hN : 132 ≤ NC) (hK : KI K) {c0 : Nat} {M : Nat → Int} (hM01 : mk01 M) (hc0 : c0 < 180) (hMcl : mkCl K M) (hMc : M c0 = 0) (kk : ∀ (n : Nat) (g : hp) (N W : Nat → Int) (w4 w5 w6 : Value), MD g s K → row 2 (g 129) 180 N → row 0 (g 130) 180 W → mkEnd K c0 M N → (n : Int) = si N 180 - si M 180 → EqX [129, 130] h g → Ex NC none M_X6_mark 122 [.ref 112, .int (I (c0 : Int)), .int (I (n : Int)), .int (I (n : Int)), w4, w5, w6] [] g Q) :
    ∀ (f a n : Nat) (g : hp) (N W : Nat → Int) (q : Nat → Nat) (w4 w5 w6 : Value), a + f = 181 → MD g s K → row 2 (g 129) 180 N → row 0 (g 130) 180 W → (∀ k, k < n → W k = q k) → BI K c0 M N q n → PI K N q a → a ≤ n → (0 < n ∧ q 0 = c0) → EqX [129, 130] h g → Ex NC none M_X6_mark 18 [.ref 112, .int (I (c0 : Int)), .int (I (n : Int)), .int (I (a : Int)), w4, w5, w6] [] g Q := by
  have n0 := nC_le hK
  intro f
  induction f with
  | zero =>
    intro a n g N W q w4 w5 w6 haf hM hNr hWr iW hB hP han hq0 hX
    have nle := hB.n_le hM01
    refine ax_iload_n dX6_mark_18 rfl ?_
    refine ax_iload_n dX6_mark_19 rfl ?_
    refine ax_icmp_ge (tgt := 122) dX6_mark_20 (by decide) (by omega) (by omega) (fun c20 => ?_) (fun c20 => ?_)
    · exfalso
      omega
    · exfalso
      omega
  | succ f ih =>
    intro a n g N W q w4 w5 w6 haf hM hNr hWr iW hB hP han hq0 hX
    have nle := hB.n_le hM01
    refine ax_iload_n dX6_mark_18 rfl ?_
    refine ax_iload_n dX6_mark_19 rfl ?_
    refine ax_icmp_ge (tgt := 122) dX6_mark_20 (by decide) (by omega) (by omega) (fun c20 => ?_) (fun c20 => ?_)
    · have e : a = n := by omega
      subst e
      refine kk a g N W _ _ _ hM hNr hWr (hB.fin hMcl (fun j hj h1 => (hB.2.1 j hj).mpr (Or.inl h1)) (fun hj => (hB.2.1 c0 hj).mpr (Or.inr ⟨0, hq0.1, hq0.2⟩)) hc0 hP hK) hB.2.2.2 hX
    · refine ax_aload_n dX6_mark_23 rfl ?_
      refine ax_getf dX6_mark_24 ck6 fl_X6_44 (by decide) (by omega) hM.1 rfl ?_
      refine ax_iload_n dX6_mark_27 rfl ?_
      refine ax_ialr (j := a) (w := (q a : Int)) dX6_mark_28 (by omega) hWr (by omega) (by omega) (by decide) (iW a (by omega)) ?_
      refine ax_istore dX6_mark_29 rfl (by decide) ?_
      refine ax_iinc dX6_mark_31 rfl rfl (by decide) ?_
      refine ax_iconst dX6_mark_34 ?_
      refine ax_istore dX6_mark_35 rfl (by decide) ?_
      have ha9 : a < n := by omega
      refine mk_step (h := h) (s := s) hN hK hM01 hc0 (c := q a) (a := a) (j := 0) (by decide) hM hNr hWr iW hB hP ha9 rfl hq0.2 (fun i hi => absurd hi (Nat.not_lt_zero i)) hX (fun n0 g0 N0 W0 q0 w60 hM0 hNr0 hWr0 iW0 hB0 hP0 ha0 hca0 hz0 hw0 hX0 => ?_) _
      refine mk_step (h := h) (s := s) hN hK hM01 hc0 (c := q a) (a := a) (j := 1) (by decide) hM0 hNr0 hWr0 iW0 hB0 hP0 ha0 hca0 hz0 hw0 hX0 (fun n1 g1 N1 W1 q1 w61 hM1 hNr1 hWr1 iW1 hB1 hP1 ha1 hca1 hz1 hw1 hX1 => ?_) _
      refine mk_step (h := h) (s := s) hN hK hM01 hc0 (c := q a) (a := a) (j := 2) (by decide) hM1 hNr1 hWr1 iW1 hB1 hP1 ha1 hca1 hz1 hw1 hX1 (fun n2 g2 N2 W2 q2 w62 hM2 hNr2 hWr2 iW2 hB2 hP2 ha2 hca2 hz2 hw2 hX2 => ?_) _
      refine mk_step (h := h) (s := s) hN hK hM01 hc0 (c := q a) (a := a) (j := 3) (by decide) hM2 hNr2 hWr2 iW2 hB2 hP2 ha2 hca2 hz2 hw2 hX2 (fun n3 g3 N3 W3 q3 w63 hM3 hNr3 hWr3 iW3 hB3 hP3 ha3 hca3 hz3 hw3 hX3 => ?_) _
      refine ax_iload dX6_mark_37 rfl ?_
      refine ax_iconst dX6_mark_39 ?_
      refine ax_icmp_ge (tgt := 119) dX6_mark_40 (by decide) (by omega) (by omega) (fun c40 => ?_) (fun c40 => ?_)
      · refine ax_goto (tgt := 18) dX6_mark_119 (by decide) ?_
        refine ih (a + 1) n3 g3 N3 W3 q3 _ _ _ (by omega) hM3 hNr3 hWr3 iW3 hB3 ?_ (by omega) ?_ hX3
        · intro k hk b hab
          by_cases e : k = a
          · subst e
            obtain ⟨w, hw4, e1, e2⟩ := hab
            rw [hca3] at e1 e2
            exact hw3 w (by omega) b e1 e2
          · exact hP3 k (by omega) b hab
        · refine ⟨by omega, ?_⟩
          exact hz3
      · exfalso
        omega
end MK
