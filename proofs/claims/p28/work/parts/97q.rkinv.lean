/-! THE RANDOM KITE: what holds between its rows -/
def KS0 (h : hg) (k w m p cl : Nat) (K : Nat → Nat) : Prop := h k = some (.inr (7, kiteF K w m p cl)) ∧ rwI 0 (h w) 7 (fun i => (K (18 + i) : Int)) ∧ rwQ 4 (h m) 7 (fun a => some (m + 1 + a)) ∧ ∀ a, a < 7 → rwI 0 (h (m + 1 + a)) 7 (fun b => (K (25 + (a * 7 + b)) : Int))
def CLS (h : hg) (cl : Nat) (ce K : Nat → Nat) : Prop := rwQ 6 (h cl) (nC K) (fun i => if on K i = true then some (ce i) else none) ∧ ∀ i, i < nC K → on K i = true → h (ce i) = some (.inr (6, cellF K i))
def RND (h : hg) (r : Nat) : Prop := ∃ s : Int32, h r = some (.inr (8, [.int s]))
def Bn (la : Bool) (u : hp) (h : hg) (b r k w m p cl : Nat) (ce K K0 : Nat → Nat) (H : Nat → Nat → Nat) (d : Nat) (e : Int) (xs : List Int) : Prop := KS0 h k w m p cl K ∧ (la = true → CLS h cl ce K) ∧ WB u h b K0 H d e xs ∧ RND h r ∧ (w ≠ b ∧ ∀ j, j < 8 → m + j ≠ b ∧ m + j ≠ w)
theorem KS0.fr {h h1 : hg} {k w m p cl : Nat} {K : Nat → Nat} {D : Nat → Prop} (hS : KS0 h k w m p cl K) (hF : FRM h h1 D) (dk : ¬ D k) (dw : ¬ D w) (dm : ∀ j, j < 8 → ¬ D (m + j)) : KS0 h1 k w m p cl K :=
  ⟨hF _ _ hS.1 dk, hS.2.1.fr hF dw, hS.2.2.1.fr hF (dm 0 (by omega)), fun a ha => (hS.2.2.2 a ha).fr hF (by have := dm (1 + a) (by omega); rw [← Nat.add_assoc] at this; exact this)⟩
theorem CLS.fr {h h1 : hg} {cl : Nat} {ce K : Nat → Nat} {D : Nat → Prop} (hS : CLS h cl ce K) (hF : FRM h h1 D) (dc : ¬ D cl) (de : ∀ i, i < nC K → on K i = true → ¬ D (ce i)) : CLS h1 cl ce K :=
  ⟨hS.1.fr hF dc, fun i hi oi => hF _ _ (hS.2 i hi oi) (de i hi oi)⟩
theorem KS0.k {h : hg} {k w m p cl : Nat} {K K' : Nat → Nat} (hS : KS0 h k w m p cl K) (h1 : ∀ j, j < 5 → K' j = K j) (h2 : ∀ j, 18 ≤ j → j < 74 → K' j = K j) : KS0 h k w m p cl K' := by
  refine ⟨?_, hS.2.1.cong (fun i hi => by rw [h2 _ (by omega) (by omega)]), hS.2.2.1, fun a ha => (hS.2.2.2 a ha).cong (fun i hi => by rw [h2 _ (by omega) (by omega)])⟩
  rw [hS.1]
  unfold kiteF
  rw [h1 0 (by omega), h1 1 (by omega), h1 2 (by omega), h1 3 (by omega), h1 4 (by omega)]
theorem CLS.k {h : hg} {cl : Nat} {ce K K' : Nat → Nat} (hK : KI K) (hS : CLS h cl ce K) (hg : geo K K') (h2 : ∀ j, 74 ≤ j → j < 614 → K' j = K j) : CLS h cl ce K' := by
  have hn := nC_le hK
  refine ⟨?_, fun i hi oi => ?_⟩
  · rw [hg.gn]
    exact hS.1.cong (fun i hi => by rw [hg.go hK hi])
  · rw [hg.gn] at hi
    rw [hg.go hK hi] at oi
    rw [hS.2 i hi oi]
    unfold cellF
    rw [hg.1, h2 _ (by omega) (by omega), h2 _ (by omega) (by omega), h2 _ (by omega) (by omega)]
theorem WB.fr {u : hp} {h h1 : hg} {b : Nat} {K : Nat → Nat} {H : Nat → Nat → Nat} {d : Nat} {e : Int} {xs : List Int} {D : Nat → Prop} (hW : WB u h b K H d e xs) (hF : FRM h h1 D) (hd : ¬ D b) : WB u h1 b K H d e xs := ⟨hW.1, hW.2.1.fr hF hd, hW.2.2⟩
theorem RND.fr {h h1 : hg} {r : Nat} {D : Nat → Prop} (hR : RND h r) (hF : FRM h h1 D) (hd : ¬ D r) : RND h1 r := by
  obtain ⟨s, hs⟩ := hR
  exact ⟨s, hF _ _ hs hd⟩
theorem geo.of2 {K K' : Nat → Nat} (h : ∀ j, j < 18 → K' j = K j) : geo K K' := ⟨h 0 (by omega), h 1 (by omega), fun y hy => h _ (by omega)⟩
section BN
variable {la : Bool} {u : hp} {h h1 : hg} {b r k w m p cl : Nat} {ce K K0 : Nat → Nat} {H : Nat → Nat → Nat} {d : Nat} {e : Int} {xs ys : List Int}
theorem Bn.kf (hB : Bn la u h b r k w m p cl ce K K0 H d e xs) : h k = some (.inr (7, kiteF K w m p cl)) := hB.1.1
theorem Bn.wr (hB : Bn la u h b r k w m p cl ce K K0 H d e xs) : rwI 0 (h w) 7 (fun i => (K (18 + i) : Int)) := hB.1.2.1
theorem Bn.mr (hB : Bn la u h b r k w m p cl ce K K0 H d e xs) : rwQ 4 (h m) 7 (fun a => some (m + 1 + a)) := hB.1.2.2.1
theorem Bn.mx (hB : Bn la u h b r k w m p cl ce K K0 H d e xs) {a : Nat} (ha : a < 7) : rwI 0 (h (m + 1 + a)) 7 (fun b => (K (25 + (a * 7 + b)) : Int)) := hB.1.2.2.2 a ha
theorem Bn.wb (hB : Bn la u h b r k w m p cl ce K K0 H d e xs) : WB u h b K0 H d e xs := hB.2.2.1
theorem Bn.rnd (hB : Bn la u h b r k w m p cl ce K K0 H d e xs) : RND h r := hB.2.2.2.1
theorem Bn.bf (hB : Bn la u h b r k w m p cl ce K K0 H d e xs) : rwI 0 (h b) 8 (bufF xs) := hB.2.2.1.2.1
theorem Bn.cls (hB : Bn true u h b r k w m p cl ce K K0 H d e xs) : CLS h cl ce K := hB.2.1 rfl
theorem Bn.kt (hB : Bn true u h b r k w m p cl ce K K0 H d e xs) : KT h k w m p cl ce K := ⟨hB.1.1, hB.cls.1, hB.cls.2⟩
/-- the cells aside, a frame that spares what is the kite's -/
theorem Bn.fr {D : Nat → Prop} (hB : Bn la u h b r k w m p cl ce K K0 H d e xs) (hF : FRM h h1 D) (dk : ¬ D k) (dw : ¬ D w) (dm : ∀ j, j < 8 → ¬ D (m + j)) (dc : la = true → ¬ D cl) (de : la = true → ∀ i, i < nC K → on K i = true → ¬ D (ce i)) (db : ¬ D b) (dr : ¬ D r) : Bn la u h1 b r k w m p cl ce K K0 H d e xs :=
  ⟨hB.1.fr hF dk dw dm, fun q => (hB.2.1 q).fr hF (dc q) (de q), hB.wb.fr hF db, hB.rnd.fr hF dr, hB.2.2.2.2⟩
theorem Bn.n (hB : Bn la u h b r k w m p cl ce K K0 H d e xs) (hF : FRM h h1 (fun _ => False)) : Bn la u h1 b r k w m p cl ce K K0 H d e xs :=
  hB.fr hF (fun z => z) (fun z => z) (fun _ _ z => z) (fun _ z => z) (fun _ _ _ _ z => z) (fun z => z) (fun z => z)
theorem Bn.wt {u2 : hp} (hB : Bn la u h b r k w m p cl ce K K0 H d e xs) (hW : WB u2 h1 b K0 H d e ys) (hF : FRM h h1 (fun x => x = b)) : Bn la u2 h1 b r k w m p cl ce K K0 H d e ys := by
  obtain ⟨s, hs⟩ := hB.rnd
  refine ⟨hB.1.fr hF (fun z => (hB.bf.no hB.kf) z.symm) hB.2.2.2.2.1 (fun j hj => (hB.2.2.2.2.2 j hj).1), fun q => (hB.2.1 q).fr hF (fun z => ?_) (fun i hi oi z => (hB.bf.no ((hB.2.1 q).2 i hi oi)) z.symm), hW, ⟨s, hF _ _ hs (fun z => (hB.bf.no hs) z.symm)⟩, hB.2.2.2.2⟩
  obtain ⟨g1, a1, -⟩ := (hB.2.1 q).1
  obtain ⟨g2, a2, -⟩ := hB.bf
  rw [z, a2] at a1
  cases a1
theorem Bn.rd (hB : Bn la u h b r k w m p cl ce K K0 H d e xs) (s : Int32) : Bn la u (up h r (.inr (8, [.int s]))) b r k w m p cl ce K K0 H d e xs := by
  obtain ⟨s0, hs⟩ := hB.rnd
  have hF : FRM h (up h r (.inr (8, [.int s]))) (fun x => x = r) := FRM.u1 rfl
  refine ⟨hB.1.fr hF (fun z => ?_) (hB.wr.no hs) (fun j hj => ?_), fun q => (hB.2.1 q).fr hF ((hB.2.1 q).1.no hs) (fun i hi oi z => ?_), hB.wb.fr hF (hB.bf.no hs), ⟨s, ug_eq⟩, hB.2.2.2.2⟩
  · have := hB.kf
    rw [z, hs] at this
    simp at this
  · by_cases z : j = 0
    · subst z; exact hB.mr.no hs
    · have := (hB.mx (a := j - 1) (by omega)).no hs
      rw [show m + 1 + (j - 1) = m + j by omega] at this
      exact this
  · have := (hB.2.1 q).2 i hi oi
    rw [z, hs] at this
    simp at this
/-- a weight is written -/
theorem Bn.wg {c v : Nat} {e1 : va_E} (hB : Bn la u h b r k w m p cl ce K K0 H d e xs) (hK : KI K) (hc : 1 ≤ c ∧ c < 7) (he : rwI 0 (some e1) 7 (upZ (fun i => (K (18 + i) : Int)) c (v : Int))) : Bn la u (up h w e1) b r k w m p cl ce (upN K (18 + c) v) K0 H d e xs := by
  obtain ⟨s, hs⟩ := hB.rnd
  have hF : FRM h (up h w e1) (fun x => x = w) := FRM.u1 rfl
  have dm : ∀ j, j < 8 → m + j ≠ w := fun j hj => (hB.2.2.2.2.2 j hj).2
  refine ⟨⟨?_, ?_, ?_, fun a ha => ?_⟩, fun q => ?_, hB.wb.fr hF (fun z => hB.2.2.2.2.1 z.symm), ⟨s, hF _ _ hs (fun z => (hB.wr.no hs) z.symm)⟩, hB.2.2.2.2⟩
  · rw [ug_ne (fun z => (hB.wr.no hB.kf) z.symm), hB.kf]
    unfold kiteF
    rw [up_ne (by omega), up_ne (by omega), up_ne (by omega), up_ne (by omega), up_ne (by omega)]
  · rw [ug_eq]
    refine he.cong (fun i hi => ?_)
    unfold upZ upN
    by_cases q : i = c
    · rw [if_pos q, if_pos (by omega)]
    · rw [if_neg q, if_neg (by omega)]
  · exact hB.mr.fr hF (dm 0 (by omega))
  · refine ((hB.mx ha).fr hF (by have := dm (1 + a) (by omega); rw [← Nat.add_assoc] at this; exact this)).cong (fun i hi => ?_)
    rw [up_ne (by omega)]
  · have hC := hB.2.1 q
    refine (hC.fr hF (fun z => ?_) (fun i hi oi z => (hB.wr.no (hC.2 i hi oi)) z.symm)).k hK (geo.of2 (fun j hj => up_ne (by omega))) (fun j h1 h2 => up_ne (by omega))
    obtain ⟨g1, a1, -⟩ := hC.1
    obtain ⟨g2, a2, -⟩ := hB.wr
    rw [z, a2] at a1
    cases a1
/-- a row of the mixes is written -/
theorem Bn.mt {a c v : Nat} {e1 : va_E} (hB : Bn la u h b r k w m p cl ce K K0 H d e xs) (hK : KI K) (ha : a < 7) (hc : c < 7) (he : rwI 0 (some e1) 7 (upZ (fun b => (K (25 + (a * 7 + b)) : Int)) c (v : Int))) : Bn la u (up h (m + 1 + a) e1) b r k w m p cl ce (upN K (25 + (a * 7 + c)) v) K0 H d e xs := by
  obtain ⟨s, hs⟩ := hB.rnd
  have hF : FRM h (up h (m + 1 + a) e1) (fun x => x = m + 1 + a) := FRM.u1 rfl
  have dm : m + 1 + a ≠ b ∧ m + 1 + a ≠ w := by have := hB.2.2.2.2.2 (1 + a) (by omega); rw [← Nat.add_assoc] at this; exact this
  have hx := hB.mx ha
  refine ⟨⟨?_, ?_, ?_, fun a1 ha1 => ?_⟩, fun q => ?_, hB.wb.fr hF (fun z => dm.1 z.symm), ⟨s, hF _ _ hs (fun z => (hx.no hs) z.symm)⟩, hB.2.2.2.2⟩
  · rw [ug_ne (fun z => (hx.no hB.kf) z.symm), hB.kf]
    unfold kiteF
    rw [up_ne (by omega), up_ne (by omega), up_ne (by omega), up_ne (by omega), up_ne (by omega)]
  · exact (hB.wr.fr hF (fun z => dm.2 z.symm)).cong (fun i hi => by rw [up_ne (by omega)])
  · refine hB.mr.fr hF (fun z => ?_)
    omega
  · by_cases q : a1 = a
    · subst q
      rw [ug_eq]
      refine he.cong (fun i hi => ?_)
      unfold upZ upN
      by_cases y : i = c
      · rw [if_pos y, if_pos (by omega)]
      · rw [if_neg y, if_neg (by omega)]
    · refine ((hB.mx ha1).fr hF (fun z => q (by omega))).cong (fun i hi => ?_)
      rw [up_ne (by omega)]
  · have hC := hB.2.1 q
    refine (hC.fr hF (fun z => ?_) (fun i hi oi z => (hx.no (hC.2 i hi oi)) z.symm)).k hK (geo.of2 (fun j hj => up_ne (by omega))) (fun j h1 h2 => up_ne (by omega))
    obtain ⟨g1, a1, -⟩ := hC.1
    obtain ⟨g2, a2, -⟩ := hx
    rw [z, a2] at a1
    cases a1
/-- the kite's own fields are written: cloth, wood -/
theorem Bn.kw {K' : Nat → Nat} {fs : List Value} (hB : Bn la u h b r k w m p cl ce K K0 H d e xs) (hK : KI K) (h1 : ∀ j, j ≠ 3 → j ≠ 4 → K' j = K j) (hfs : fs = kiteF K' w m p cl) : Bn la u (up h k (.inr (7, fs))) b r k w m p cl ce K' K0 H d e xs := by
  subst hfs
  obtain ⟨s, hs⟩ := hB.rnd
  have hF : FRM h (up h k (.inr (7, kiteF K' w m p cl))) (fun x => x = k) := FRM.u1 rfl
  refine ⟨⟨ug_eq, ?_, hB.mr.fr hF (hB.mr.no hB.kf), fun a ha => ?_⟩, fun q => ?_, hB.wb.fr hF (hB.bf.no hB.kf), ⟨s, hF _ _ hs (fun z => ?_)⟩, hB.2.2.2.2⟩
  · exact (hB.wr.fr hF (hB.wr.no hB.kf)).cong (fun i hi => by rw [h1 _ (by omega) (by omega)])
  · exact ((hB.mx ha).fr hF ((hB.mx ha).no hB.kf)).cong (fun i hi => by rw [h1 _ (by omega) (by omega)])
  · have hC := hB.2.1 q
    refine (hC.fr hF (hC.1.no hB.kf) (fun i hi oi z => ?_)).k hK ⟨h1 0 (by omega) (by omega), h1 1 (by omega) (by omega), fun y hy => h1 _ (by omega) (by omega)⟩ (fun j h2 h3 => h1 _ (by omega) (by omega))
    have h9 := hC.2 i hi oi
    rw [z, hB.kf] at h9
    simp at h9
  · have h9 := hB.kf
    rw [← z, hs] at h9
    simp at h9
end BN
theorem RDs.ki {xs : List Int} {K : Nat → Nat} {f1 f2 f3 f4 : Int} (h : RDs xs K f1 f2 f3 f4) : KI K := set_in (h.fin (T := gd xs) (fun i _ => rfl))
theorem lit19 : litL 19 = [59] := by decide +kernel
theorem lit20 : litL 20 = 59 :: litL 3 := by decide +kernel
theorem sm_eq {xs : List Int} {j N : Nat} {f : Nat → Nat} : (xs ++ (litL j ++ numL f N)) ++ litL 19 = xs ++ smL j f N := by
  rw [lit19, List.append_assoc, List.append_assoc]; rfl
theorem sm_len {j N : Nat} {f : Nat → Nat} : (smL j f N).length ≤ (litL j).length + 3 * N + 1 := by
  have := num_len (f := f) (n := N)
  unfold smL
  rw [List.length_append, List.length_append]
  show _ + (_ + 1) ≤ _
  omega
/-- two numbers, three numbers -/
def f1x (a : Nat) : Nat → Nat := fun _ => a
def f2x (a b : Nat) : Nat → Nat := fun i => if i = 0 then a else b
def f3x (a b c : Nat) : Nat → Nat := fun i => if i = 0 then a else if i = 1 then b else c
theorem a1x {a : Nat} {e : Option va_E} (h : rwI 0 e 1 (upZ (fun _ => 0) 0 (a : Int))) : rwI 0 e 1 (fun i => (f1x a i : Int)) := h.cong (fun i hi => by
  obtain rfl : i = 0 := by omega
  rfl)
theorem a2x {a b : Nat} {e : Option va_E} (h : rwI 0 e 2 (upZ (upZ (fun _ => 0) 0 (a : Int)) 1 (b : Int))) : rwI 0 e 2 (fun i => (f2x a b i : Int)) := h.cong (fun i hi => by
  have : i = 0 ∨ i = 1 := by omega
  rcases this with rfl | rfl <;> rfl)
theorem a3x {a b c : Nat} {e : Option va_E} (h : rwI 0 e 3 (upZ (upZ (upZ (fun _ => 0) 0 (a : Int)) 1 (b : Int)) 2 (c : Int))) : rwI 0 e 3 (fun i => (f3x a b c i : Int)) := h.cong (fun i hi => by
  have : i = 0 ∨ i = 1 ∨ i = 2 := by omega
  rcases this with rfl | rfl | rfl <;> rfl)

