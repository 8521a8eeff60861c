/-! regions: what is connected, and the search for it -/
def nbN (K : Nat → Nat) (a j : Nat) : Int := if onZ K (((a % K 0 : Nat) : Int) + dxW j) (((a / K 0 : Nat) : Int) + dyW j) = true then (((a / K 0 : Nat) : Int) + dyW j) * (K 0 : Int) + (((a % K 0 : Nat) : Int) + dxW j) else -1
def adj (K : Nat → Nat) (a b : Nat) : Prop := ∃ j, j < 4 ∧ nbN K a j = (b : Int) ∧ K (74 + b) = K (74 + a)
def conn (K : Nat → Nat) (i j : Nat) : Prop := ∀ S : Nat → Prop, S i → (∀ a b, S a → adj K a b → S b) → S j
theorem conn.rf {K : Nat → Nat} {i : Nat} : conn K i i := fun _ h _ => h
theorem conn.st {K : Nat → Nat} {i a b : Nat} (h : conn K i a) (k : adj K a b) : conn K i b := fun S h1 h2 => h2 a b (h S h1 h2) k
theorem conn.col {K : Nat → Nat} {i j : Nat} (h : conn K i j) : K (74 + j) = K (74 + i) := h (fun a => K (74 + a) = K (74 + i)) rfl (fun a b h1 h2 => by obtain ⟨j, -, -, e⟩ := h2; rw [e]; exact h1)
theorem nb_on {K : Nat → Nat} (hK : KI K) {a j b : Nat} (h : nbN K a j = (b : Int)) : b < nC K ∧ on K b = true := by
  unfold nbN at h
  by_cases z : onZ K (((a % K 0 : Nat) : Int) + dxW j) (((a / K 0 : Nat) : Int) + dyW j) = true
  · rw [if_pos z] at h
    obtain ⟨u, v, e1, e2, u1, v1, n1, n2, -⟩ := onZ_nat hK z
    rw [e1, e2] at h z
    have e3 : ((v : Int) * (K 0 : Int) + (u : Int)) = ((v * K 0 + u : Nat) : Int) := by push_cast; omega
    have e4 : b = v * K 0 + u := by omega
    rw [e4]
    exact ⟨n1, by rw [on_at u1]; exact z⟩
  · rw [if_neg z] at h; omega
/-- marks are 0 or 1 -/
def mk01 (N : Nat → Int) : Prop := ∀ j, j < 180 → N j = 0 ∨ N j = 1
def mkCl (K : Nat → Nat) (N : Nat → Int) : Prop := ∀ a b, a < 180 → N a = 1 → adj K a b → N b = 1
/-- what a search owes: the marks are those that were there, and what is connected -/
def mkEnd (K : Nat → Nat) (c : Nat) (M N : Nat → Int) : Prop := mk01 N ∧ mkCl K N ∧ ∀ j, j < 180 → (N j = 1 ↔ M j = 1 ∨ conn K c j)
theorem mk_uniq {K : Nat → Nat} {c : Nat} {M M' N N' : Nat → Int} (hM : ∀ j, j < 180 → M j = M' j) (h : mkEnd K c M N) (h' : mkEnd K c M' N') : ∀ j, j < 180 → N j = N' j := by
  intro j hj
  have h1 := h.2.2 j hj
  have h2 := h'.2.2 j hj
  rw [hM j hj] at h1
  have h3 : N j = 1 ↔ N' j = 1 := h1.trans h2.symm
  rcases h.1 j hj with z | z
  · rcases h'.1 j hj with z' | z'
    · rw [z, z']
    · exact absurd (h3.mpr z') (by omega)
  · rw [z, h3.mp z]
theorem si_upZ {N : Nat → Int} {b : Nat} {v : Int} : ∀ {n : Nat}, b < n → si (upZ N b v) n = si N n - N b + v
  | 0, h => absurd h (Nat.not_lt_zero _)
  | n + 1, h => by
    rw [si_succ, si_succ]
    by_cases q : b = n
    · subst q
      have : si (upZ N b v) b = si N b := si_cong (fun k hk => by unfold upZ; rw [if_neg (by omega)])
      rw [this]
      unfold upZ
      rw [if_pos rfl]; omega
    · rw [si_upZ (n := n) (by omega)]
      unfold upZ
      rw [if_neg (by omega)]; omega
def BI (K : Nat → Nat) (c : Nat) (M N : Nat → Int) (q : Nat → Nat) (n : Nat) : Prop :=
  mk01 N ∧ (∀ j, j < 180 → (N j = 1 ↔ M j = 1 ∨ ∃ k, k < n ∧ q k = j)) ∧ (∀ k, k < n → q k < nC K ∧ on K (q k) = true ∧ conn K c (q k)) ∧ (n : Int) = si N 180 - si M 180
def PI (K : Nat → Nat) (N : Nat → Int) (q : Nat → Nat) (a : Nat) : Prop := ∀ k, k < a → ∀ b, adj K (q k) b → N b = 1
def WI (K : Nat → Nat) (N : Nat → Int) (c : Nat) (w : Nat) : Prop := ∀ j, j < w → ∀ b : Nat, nbN K c j = (b : Int) → K (74 + b) = K (74 + c) → N b = 1
def uq (q : Nat → Nat) (n b : Nat) : Nat → Nat := fun k => if k = n then b else q k
theorem si_le1 {N : Nat → Int} (h : mk01 N) : 0 ≤ si N 180 ∧ si N 180 ≤ 180 := by
  have := si_bd (f := N) (c := 1) (by omega) (n := 180) (fun k hk => by rcases h k hk with z | z <;> omega)
  omega
theorem BI.n_le {K : Nat → Nat} {c n : Nat} {M N : Nat → Int} {q : Nat → Nat} (h : BI K c M N q n) (hM : mk01 M) : n ≤ 180 := by
  have h1 := si_le1 h.1
  have h2 := si_le1 hM
  have h3 := h.2.2.2
  omega
theorem BI.push {K : Nat → Nat} (hK : KI K) {c n b : Nat} {M N : Nat → Int} {q : Nat → Nat} (h : BI K c M N q n) (hb : b < nC K) (ho : on K b = true) (h0 : N b = 0) (hc : conn K c b) : BI K c M (upZ N b 1) (uq q n b) (n + 1) := by
  have n0 := nC_le hK
  refine ⟨fun j hj => ?_, fun j hj => ?_, fun k hk => ?_, ?_⟩
  · unfold upZ
    by_cases e : j = b
    · rw [if_pos e]; exact Or.inr rfl
    · rw [if_neg e]; exact h.1 j hj
  · unfold upZ
    by_cases e : j = b
    · rw [if_pos e]
      exact ⟨fun _ => Or.inr ⟨n, by omega, by unfold uq; rw [if_pos rfl, e]⟩, fun _ => rfl⟩
    · rw [if_neg e, h.2.1 j hj]
      constructor
      · rintro (z | ⟨k, hk, z⟩)
        · exact Or.inl z
        · exact Or.inr ⟨k, by omega, by unfold uq; rw [if_neg (by omega)]; exact z⟩
      · rintro (z | ⟨k, hk, z⟩)
        · exact Or.inl z
        · unfold uq at z
          by_cases e2 : k = n
          · rw [if_pos e2] at z; exact absurd z.symm e
          · rw [if_neg e2] at z; exact Or.inr ⟨k, by omega, z⟩
  · unfold uq
    by_cases e2 : k = n
    · rw [if_pos e2]; exact ⟨hb, ho, hc⟩
    · rw [if_neg e2]; exact h.2.2.1 k (by omega)
  · rw [si_upZ (by omega), h0]
    have := h.2.2.2
    push_cast; omega
theorem up1 {N : Nat → Int} {b j : Nat} (h : N j = 1) : upZ N b 1 j = 1 := by
  unfold upZ; split
  · rfl
  · exact h
theorem PI.push {K : Nat → Nat} {N : Nat → Int} {q : Nat → Nat} {a n b : Nat} (h : PI K N q a) (ha : a ≤ n) : PI K (upZ N b 1) (uq q n b) a := by
  intro k hk x hx
  unfold uq at hx
  rw [if_neg (by omega)] at hx
  exact up1 (h k hk x hx)
theorem WI.push {K : Nat → Nat} {N : Nat → Int} {c w b : Nat} (h : WI K N c w) : WI K (upZ N b 1) c w := fun j hj x h1 h2 => up1 (h j hj x h1 h2)
theorem BI.fin {K : Nat → Nat} {c n : Nat} {M N : Nat → Int} {q : Nat → Nat} (h : BI K c M N q n) (hM : mkCl K M) (hN : ∀ j, j < 180 → M j = 1 → N j = 1) (hq : c < 180 → N c = 1) (hc : c < 180) (hP : PI K N q n) (hK : KI K) : mkEnd K c M N := by
  have n0 := nC_le hK
  have cl : mkCl K N := by
    intro a b ha h1 hab
    rcases (h.2.1 a ha).mp h1 with z | ⟨k, hk, z⟩
    · have := hM a b ha z hab
      obtain ⟨j, -, e, -⟩ := hab
      exact hN b (by have := (nb_on hK e).1; omega) this
    · rw [← z] at hab
      exact hP k hk b hab
  refine ⟨h.1, cl, fun j hj => ⟨fun h1 => ?_, ?_⟩⟩
  · rcases (h.2.1 j hj).mp h1 with z | ⟨k, hk, z⟩
    · exact Or.inl z
    · right; rw [← z]; exact (h.2.2.1 k hk).2.2
  · rintro (z | z)
    · exact hN j hj z
    · have := z (fun a => a < 180 ∧ N a = 1) ⟨hc, hq hc⟩ (fun a b h1 h2 => ⟨by obtain ⟨w, -, e, -⟩ := h2; have := (nb_on hK e).1; omega, cl a b h1.1 h1.2 h2⟩)
      exact this.2
section MK
variable {NC : Nat} {h : hp} {s : Nat → Int} {K : Nat → Nat} {Q : qt}
end MK
