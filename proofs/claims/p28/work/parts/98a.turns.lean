/-! THE LAW: what holds between its turns -/
/-- all but the time and the cells' contents is the same -/
def tm (K K' : Nat → Nat) : Prop := ∀ j, (j < 74 ∧ j ≠ 2) ∨ 614 ≤ j → K' j = K j
theorem tm.rf {K : Nat → Nat} : tm K K := fun _ _ => rfl
theorem tm.tr {K K1 K2 : Nat → Nat} (a : tm K K1) (b : tm K1 K2) : tm K K2 := fun j hj => (b j hj).trans (a j hj)
theorem tm.g {K K' : Nat → Nat} (h : tm K K') : geo K K' := ⟨h 0 (by omega), h 1 (by omega), fun y hy => h _ (by omega)⟩
theorem tm.sh {h : hg} {w m p : Nat} {K K' : Nat → Nat} (t : tm K K') (hR : SHR h w m p K) : SHR h w m p K' := hR.rk (fun j _ _ => t j (by omega)) (t 5 (by omega)) (fun j _ => t j (by omega))
theorem tm.up {K : Nat → Nat} {i v : Nat} (hi : 74 ≤ i ∧ i < 614) : tm K (upN K i v) := fun j hj => up_ne (by omega)
theorem tm.set {K : Nat → Nat} {i c w : Nat} (hi : i < 180) : tm K (setC K i c w) := show tm K (upN (upN K (74 + i) c) (254 + i) w) from (tm.up (by omega)).tr (tm.up (by omega))
theorem tm.put {K : Nat → Nat} (hK : KI K) {x y : Int} {c w : Nat} {mi : Bool} : tm K (putC K x y c w mi) := by
  unfold putC
  split
  · rename_i ho
    obtain ⟨u, v, rfl, rfl, h1, h2, h3, h4, -⟩ := onZ_nat hK ho
    have e1 : ((v : Int)).toNat = v := rfl
    have e2 : ((u : Int)).toNat = u := rfl
    rw [e1, e2]
    have b1 : (v + 1) * K 0 ≤ K 1 * K 0 := Nat.mul_le_mul_right _ h2
    have b2 : nC K = K 1 * K 0 := Nat.mul_comm _ _
    rw [Nat.add_mul] at b1
    split
    · exact (tm.set (by omega)).tr (tm.set (by omega))
    · exact tm.set (by omega)
  · exact tm.rf
theorem tm.str {c : Nat} {dx dy : Int} (hc : c ≤ 6) : ∀ (n : Nat) {K : Nat → Nat} (x y : Int), KI K → tm K (strP c dx dy n K x y).2 ∧ KI (strP c dx dy n K x y).2
  | 0, _, _, _, hK => ⟨tm.rf, hK⟩
  | n + 1, K, x, y, hK => by
    by_cases h : onZ K x y = true ∧ K (434 + (y.toNat * K 0 + x.toNat)) = 0
    · rw [str_t h]
      obtain ⟨a, b⟩ := tm.str (dx := dx) (dy := dy) hc n (x + dx) (y + dy) (hK.pC (x := x) (y := y) (c := c) (w := 6) (mi := true) hc (by omega))
      exact ⟨(tm.put hK).tr a, b⟩
    · rw [str_f h]
      exact ⟨tm.rf, hK⟩
theorem tm.spa {dx dy : Int} : ∀ (n : Nat) {K : Nat → Nat} (x y : Int), KI K → tm K (spaP dx dy n K x y).2
  | 0, _, _, _, hK => tm.rf
  | n + 1, K, x, y, hK => by
    by_cases h : onZ K x y = true
    · rw [spa_t h]
      obtain ⟨u, v, rfl, rfl, h1, h2, h3, h4, -⟩ := onZ_nat hK h
      have e1 : ((v : Int)).toNat = v := rfl
      have e2 : ((u : Int)).toNat = u := rfl
      rw [e1, e2]
      exact (tm.up (by omega)).tr (tm.spa n _ _ (hK.upS h3 (by rw [on_at h1]; exact h) (by omega)))
    · rw [spa_f h]
      exact tm.rf
theorem tm.stm {K : Nat → Nat} (hK : KI K) {p : Nat} (hp : p < 3) {x y : Int} {mi : Bool} : tm K (stmK K p x y mi) ∧ KI (stmK K p x y mi) := by
  have a := okO.sl hK hp (x := x) (y := y) (mi := mi) _ (hK.2.2.2.2.2.2.2.2 p hp).2.1
  exact ⟨fun j hj => a.2 j (by omega), a.1⟩
theorem tm.wsh {K : Nat → Nat} {N : Nat → Int} : tm K (wshK K N) := fun j hj => wsh_lo (by omega)
theorem tm.tik {K : Nat → Nat} : tm K (tikN K) := fun j hj => by
  unfold tikN
  rw [if_neg (by omega), if_neg (by omega), if_neg (by omega)]
theorem tm.fot {K : Nat → Nat} : ∀ t, tm K (fotK K t)
  | 0 => by rw [fot_0]; exact tm.rf
  | t + 1 => by rw [← fot_s]; exact (tm.fot t).tr tm.tik
/-- what is one Kite's own -/
def OWN (K : Nat → Nat) (k cl : Nat) (ce : Nat → Nat) (b : Nat) : Prop := b = k ∨ b = cl ∨ ∃ i, i < nC K ∧ on K i = true ∧ b = ce i
/-- a place that is no Kite's -/
def odd (h : hg) (b : Nat) : Prop := h b = none ∨ (∃ fs, h b = some (.inr (8, fs))) ∨ ∃ n x, h b = some (.inl (7, n, x))
section OD
variable {h h1 : hg} {k w m p cl : Nat} {ce : Nat → Nat} {K K' : Nat → Nat} {D E : Nat → Prop}
theorem KT.own (hT : KT h k w m p cl ce K) (hF : FRM h h1 E) (hd : ∀ b, E b → ¬ OWN K k cl ce b) : KT h1 k w m p cl ce K := hT.frm hF (fun z => hd _ z (Or.inl rfl)) (fun z => hd _ z (Or.inr (Or.inl rfl))) (fun i hi oi z => hd _ z (Or.inr (Or.inr ⟨i, hi, oi, rfl⟩)))
theorem odd.own (hT : KT h k w m p cl ce K) {b : Nat} (ho : odd h b) : ¬ OWN K k cl ce b := by
  obtain ⟨t1, ⟨g, t2, t3⟩, t4⟩ := hT
  intro z
  rcases z with rfl | rfl | ⟨i, hi, oi, rfl⟩
  · rcases ho with e | ⟨fs, e⟩ | ⟨n, x, e⟩ <;> rw [t1] at e <;> cases e
  · rcases ho with e | ⟨fs, e⟩ | ⟨n, x, e⟩ <;> rw [t2] at e <;> cases e
  · have := t4 i hi oi
    rcases ho with e | ⟨fs, e⟩ | ⟨n, x, e⟩ <;> rw [this] at e <;> cases e
theorem odd.sh {b : Nat} {e : va_E} (ho : odd h b) (hb : h b = some e) : ¬ shE e := by
  intro z
  rcases ho with e1 | ⟨fs, e1⟩ | ⟨n, x, e1⟩ <;> rw [hb] at e1 <;> cases e1
  · exact absurd (show (8 : Nat) = 9 from z) (by decide)
  · rcases (show ((7 : Nat) = 0 ∧ n = 7) ∨ (7 : Nat) = 4 ∨ (7 : Nat) = 9 ∨ (7 : Nat) = 8 ∨ (7 : Nat) = 1 from z) with z | z | z | z | z <;> omega
theorem mut_sh (hT : KT h k w m p cl ce K) {b : Nat} {e : va_E} (hd : mutD K k ce b) (hb : h b = some e) : ¬ shE e := by
  intro z
  rcases hd with rfl | ⟨i, h1, h2, rfl⟩
  · rw [hT.1] at hb
    cases hb
    exact absurd (show (7 : Nat) = 9 from z) (by decide)
  · rw [hT.2.2 i h1 h2] at hb
    cases hb
    exact absurd (show (6 : Nat) = 9 from z) (by decide)
theorem mut_own {b : Nat} (hd : mutD K k ce b) : OWN K k cl ce b := by
  rcases hd with h | h
  · exact Or.inl h
  · exact Or.inr (Or.inr h)
theorem mut_geo (hK : KI K) (hg : geo K K') {b : Nat} (hd : mutD K' k ce b) : mutD K k ce b := by
  rcases hd with h | ⟨i, h1, h2, h3⟩
  · exact Or.inl h
  · rw [hg.gn] at h1
    exact Or.inr ⟨i, h1, by rw [← hg.go hK h1]; exact h2, h3⟩
/-- a Kite laid by: D is another's -/
def BFt (h : hg) (kt w m p : Nat) (Kt : Nat → Nat) (D : Nat → Prop) : Prop := ∃ clt cet, KT h kt w m p clt cet Kt ∧ SHR h w m p Kt ∧ ∀ b, D b → ¬ OWN Kt kt clt cet b
def EOK (h : hg) (E D : Nat → Prop) : Prop := ∀ b, E b → odd h b ∨ D b ∧ ∀ e, h b = some e → ¬ shE e
theorem EOK.sh (hE : EOK h E D) {b : Nat} {e : va_E} (hb : h b = some e) (he : shE e) : ¬ E b := fun z => by
  rcases hE b z with a | ⟨-, a⟩
  · exact a.sh hb he
  · exact a e hb he
theorem BFt.fr {kt : Nat} {Kt : Nat → Nat} (hB : BFt h kt w m p Kt D) (hF : FRM h h1 E) (hE : EOK h E D) : BFt h1 kt w m p Kt D := by
  obtain ⟨clt, cet, hT, hR, hD⟩ := hB
  refine ⟨clt, cet, hT.own hF (fun b z => ?_), hR.kp (fun b e hb he => hF b e hb (hE.sh hb he)), hD⟩
  rcases hE b z with a | ⟨a, -⟩
  · exact a.own hT
  · exact hD b a
theorem BFt.wk {kt : Nat} {Kt : Nat → Nat} {D' : Nat → Prop} (hB : BFt h kt w m p Kt D) (hd : ∀ b, D' b → D b) : BFt h kt w m p Kt D' := by
  obtain ⟨clt, cet, hT, hR, hD⟩ := hB
  exact ⟨clt, cet, hT, hR, fun b z => hD b (hd b z)⟩
/-- the Kites laid by, newest first -/
def BF (h : hg) (B n8 : Nat) (H : Nat → Nat → Nat) (w m p : Nat) (D : Nat → Prop) : Prop := ∃ f : Nat → Option Nat, rwQ 7 (h B) 9 f ∧ ∀ t, t < 8 → (t < n8 ∧ ∃ kt, f t = some kt ∧ BFt h kt w m p (H t) D) ∨ (n8 ≤ t ∧ f t = none)
theorem BF.fr {B n8 : Nat} {H : Nat → Nat → Nat} (hB : BF h B n8 H w m p D) (hF : FRM h h1 E) (hE : EOK h E D) (nb : ¬ E B) : BF h1 B n8 H w m p D := by
  obtain ⟨f, hr, ht⟩ := hB
  refine ⟨f, hr.fr hF nb, fun t h8 => ?_⟩
  rcases ht t h8 with ⟨hn, kt, e, b⟩ | z
  · exact Or.inl ⟨hn, kt, e, b.fr hF hE⟩
  · exact Or.inr z
theorem BF.wk {B n8 : Nat} {H : Nat → Nat → Nat} {D' : Nat → Prop} (hB : BF h B n8 H w m p D) (hd : ∀ b, D' b → D b) : BF h B n8 H w m p D' := by
  obtain ⟨f, hr, ht⟩ := hB
  refine ⟨f, hr, fun t h8 => ?_⟩
  rcases ht t h8 with ⟨hn, kt, e, b⟩ | z
  · exact Or.inl ⟨hn, kt, e, b.wk hd⟩
  · exact Or.inr z
/-- the law's Kites: the one it changes (K), those laid by (H) -/
def KV (h : hg) (r B n8 k w m p cl : Nat) (ce K : Nat → Nat) (H : Nat → Nat → Nat) : Prop := KT h k w m p cl ce K ∧ SHR h w m p K ∧ RND h r ∧ BF h B n8 H w m p (mutD K k ce)
variable {r B n8 : Nat} {H : Nat → Nat → Nat}
theorem KV.bn (hV : KV h r B n8 k w m p cl ce K H) : odd h B ∧ odd h r ∧ B ≠ r := by
  obtain ⟨f, ⟨g, e, -⟩, -⟩ := hV.2.2.2
  obtain ⟨s, hs⟩ := hV.2.2.1
  refine ⟨Or.inr (Or.inr ⟨_, _, e⟩), Or.inr (Or.inl ⟨_, hs⟩), fun z => ?_⟩
  rw [z, hs] at e
  cases e
/-- a frame of odd places -/
theorem KV.od (hV : KV h r B n8 k w m p cl ce K H) (hF : FRM h h1 E) (hE : ∀ b, E b → odd h b) (nb : ¬ E B) (hr : RND h1 r) : KV h1 r B n8 k w m p cl ce K H :=
  ⟨hV.1.own hF (fun b z => (hE b z).own hV.1), hV.2.1.kp (fun b e hb he => hF b e hb (fun z => (hE b z).sh hb he)), hr, hV.2.2.2.fr hF (fun b z => Or.inl (hE b z)) nb⟩
theorem KV.rd (hV : KV h r B n8 k w m p cl ce K H) (hF : FRM h h1 (fun x => x = r)) (hr : RND h1 r) : KV h1 r B n8 k w m p cl ce K H :=
  hV.od hF (fun b z => by rw [z]; exact hV.bn.2.1) hV.bn.2.2 hr
theorem KV.n (hV : KV h r B n8 k w m p cl ce K H) (hF : FRM h h1 (fun _ => False)) : KV h1 r B n8 k w m p cl ce K H :=
  hV.od hF (fun b z => False.elim z) (fun z => z) (hV.2.2.1.fr hF (fun z => z))
theorem KV.mt (hV : KV h r B n8 k w m p cl ce K H) (hK : KI K) (hF : FRM h h1 (mutD K k ce)) (hT : KT h1 k w m p cl ce K') (ht : tm K K') : KV h1 r B n8 k w m p cl ce K' H := by
  obtain ⟨f, hf, -⟩ := hV.2.2.2
  obtain ⟨s, hs⟩ := hV.2.2.1
  refine ⟨hT, ht.sh (hV.2.1.frm hV.1 hF), ⟨s, hF _ _ hs (fun z => (hV.bn.2.1).own hV.1 (mut_own z))⟩, (hV.2.2.2.fr hF (fun b z => Or.inr ⟨z, fun e hb => mut_sh hV.1 z hb⟩) (hf.nm hV.1)).wk (fun b z => mut_geo hK ht.g z)⟩
/-- with a copy at hand -/
def KC (h : hg) (r B n8 k k2 w m p cl : Nat) (ce K0 K : Nat → Nat) (H : Nat → Nat → Nat) : Prop := KV h r B n8 k w m p cl ce K H ∧ BFt h k2 w m p K0 (mutD K k ce)
variable {k2 : Nat} {K0 : Nat → Nat}
theorem KC.rd (hV : KC h r B n8 k k2 w m p cl ce K0 K H) (hF : FRM h h1 (fun x => x = r)) (hr : RND h1 r) : KC h1 r B n8 k k2 w m p cl ce K0 K H :=
  ⟨hV.1.rd hF hr, hV.2.fr hF (fun b z => Or.inl (by rw [z]; exact hV.1.bn.2.1))⟩
theorem KC.mt (hV : KC h r B n8 k k2 w m p cl ce K0 K H) (hK : KI K) (hF : FRM h h1 (mutD K k ce)) (hT : KT h1 k w m p cl ce K') (ht : tm K K') : KC h1 r B n8 k k2 w m p cl ce K0 K' H :=
  ⟨hV.1.mt hK hF hT ht, (hV.2.fr hF (fun b z => Or.inr ⟨z, fun e hb => mut_sh hV.1.1 z hb⟩)).wk (fun b z => mut_geo hK ht.g z)⟩
theorem KV.cp (hV : KV h r B n8 k w m p cl ce K H) (nk : h k2 = none) {cl2 : Nat} {ce2 : Nat → Nat} (hL : LI h h1 k2 w m p cl2 ce2 K (nC K)) : KC h1 r B n8 k k2 w m p cl ce K K H := by
  have hF := hL.frm0 nk
  have V1 := hV.n hF
  refine ⟨V1, cl2, ce2, hL.kt, V1.2.1, fun b hd ho => ?_⟩
  have hb : KN h b := by
    rcases hd with rfl | ⟨i, h1, h2, rfl⟩
    · exact ⟨_, hV.1.1⟩
    · exact ⟨_, hV.1.2.2 i h1 h2⟩
  rcases ho with rfl | rfl | ⟨i, h1, h2, rfl⟩
  · exact hb.ne nk rfl
  · exact hb.ne hL.new.1 rfl
  · exact hb.ne (hL.new.2 i h1 h2) rfl
theorem KC.ps (hV : KC h r B n8 k k2 w m p cl ce K0 K H) (hF : FRM h h1 (fun x => x = B)) {f : Nat → Option Nat} (hf : ∀ t, t < 8 → (t < n8 ∧ ∃ kt, f t = some kt ∧ BFt h kt w m p (H t) (mutD K k ce)) ∨ (n8 ≤ t ∧ f t = none)) (hr : rwQ 7 (h1 B) 9 (fun i => if i = 0 then some k2 else f (i - 1))) : KV h1 r B (n8 + 1) k w m p cl ce K (psh K0 H) := by
  obtain ⟨⟨v1, v2, ⟨s, hs⟩, v4⟩, v5⟩ := id hV
  have hE : ∀ b, b = B → odd h b := fun b z => by rw [z]; exact hV.1.bn.1
  have hO : EOK h (fun x => x = B) (mutD K k ce) := fun b z => Or.inl (hE b z)
  refine ⟨v1.own hF (fun b z => (hE b z).own v1), v2.kp (fun b e hb he => hF b e hb (fun z => (hE b z).sh hb he)), ⟨s, hF _ _ hs (fun z => hV.1.bn.2.2 z.symm)⟩, _, hr, fun t h8 => ?_⟩
  cases t with
  | zero => exact Or.inl ⟨by omega, k2, rfl, v5.fr hF hO⟩
  | succ t =>
    show (t + 1 < n8 + 1 ∧ ∃ kt, f t = some kt ∧ BFt h1 kt w m p (H t) (mutD K k ce)) ∨ (n8 + 1 ≤ t + 1 ∧ f t = none)
    rcases hf t (by omega) with ⟨hn, kt, e, b⟩ | ⟨a, b⟩
    · exact Or.inl ⟨by omega, kt, e, b.fr hF hO⟩
    · exact Or.inr ⟨by omega, b⟩
end OD
