/-! AG: its locals, its world, and what its soundness rests on -/
/-- the locals -/
def LG (ls : Array Slot) (n : Nat) (L : List Value) : Prop := ls.size = n ∧ lv_wf ls ∧ ∀ (i : Nat) (v : Value), L[i]? = some v → isU v = false → ls[i]? = some (.val v)
theorem LG.get {ls : Array Slot} {n i : Nat} {L : List Value} {v : Value} (h : LG ls n L) (hl : L[i]? = some v) (hv : isU v = false) : ls[i]? = some (.val v) := h.2.2 i v hl hv
def lstG (L : List Value) : List (Nat × Value) := (List.range L.length).filterMap (fun i => match L[i]? with | some v => if isU v then none else some (i, v) | none => none)
theorem lstG_mem {L : List Value} {q : Nat × Value} : q ∈ lstG L ↔ ∃ v, L[q.1]? = some v ∧ isU v = false ∧ q.2 = v := by
  unfold lstG
  rw [List.mem_filterMap]
  constructor
  · rintro ⟨i, hi, h⟩
    cases hv : L[i]? with
    | none => rw [hv] at h; cases h
    | some v =>
      rw [hv] at h
      cases hu : isU v with
      | true => simp [hu] at h
      | false =>
        simp [hu] at h
        subst h
        exact ⟨v, hv, hu, rfl⟩
  · rintro ⟨v, h1, h2, h3⟩
    refine ⟨q.1, List.mem_range.mpr (List.getElem?_eq_some_iff.mp h1).1, ?_⟩
    rw [h1]
    have e3 : q = (q.1, v) := by rw [← h3]
    rw [e3]
    simp [h2]
theorem LG.has {ls : Array Slot} {n : Nat} {L : List Value} (h : LG ls n L) : lv_has ls n (lstG L) := by
  refine ⟨h.1, h.2.1, fun q hq => ?_⟩
  obtain ⟨v, h1, h2, h3⟩ := lstG_mem.mp hq
  rw [h3]
  exact h.get h1 h2
theorem c1_spec {L : List Value} {i j : Nat} {w : Value} (h : c1 L i = true) (hj : j + 1 = i) (hw : L[j]? = some w) : w.category = 1 := by
  subst hj
  have h2 : (match L[j]? with | some v => v.category == 1 | none => true) = true := h
  rw [hw] at h2
  simpa using h2
theorem LG.store1 {ls ls' : Array Slot} {n i : Nat} {L : List Value} {v : Value} (h : LG ls n L) (hc : v.category = 1) (hq : c1 L i = true) (h' : lv_has ls' n ((i, v) :: (lstG L).filter (fun q => !(q.1 == i) && !(q.1 + 1 == i && q.2.category == 2)))) : LG ls' n (L.set i v) := by
  refine ⟨h'.1, h'.2.1, fun j w hj hw => ?_⟩
  by_cases hji : i = j
  · subst hji
    rw [List.getElem?_set] at hj
    rw [if_pos rfl] at hj
    split at hj
    · cases hj
      exact h'.2.2 (i, v) List.mem_cons_self
    · cases hj
  · rw [List.getElem?_set_ne hji] at hj
    refine h'.2.2 (j, w) (List.mem_cons_of_mem _ (List.mem_filter.mpr ⟨lstG_mem.mpr ⟨w, hj, hw, rfl⟩, ?_⟩))
    by_cases e : j + 1 = i
    · have := c1_spec hq e hj
      simp [this, Ne.symm hji]
    · simp [e, Ne.symm hji]
theorem LG.store2 {ls ls' : Array Slot} {n i : Nat} {L : List Value} {v : Value} (h : LG ls n L) (hc : v.category = 2) (hq : c1 L i = true) (h' : lv_has ls' n ((i, v) :: (lstG L).filter (fun q => !(q.1 == i) && (!(q.1 == i + 1) && !(q.1 + 1 == i && q.2.category == 2))))) : LG ls' n ((L.set i v).set (i + 1) uk) := by
  refine ⟨h'.1, h'.2.1, fun j w hj hw => ?_⟩
  by_cases hj1 : i + 1 = j
  · subst hj1
    rw [List.getElem?_set] at hj
    rw [if_pos rfl] at hj
    split at hj
    · cases hj
      cases hw
    · cases hj
  · rw [List.getElem?_set_ne hj1] at hj
    by_cases hji : i = j
    · subst hji
      rw [List.getElem?_set] at hj
      rw [if_pos rfl] at hj
      split at hj
      · cases hj
        exact h'.2.2 (i, v) List.mem_cons_self
      · cases hj
    · rw [List.getElem?_set_ne hji] at hj
      refine h'.2.2 (j, w) (List.mem_cons_of_mem _ (List.mem_filter.mpr ⟨lstG_mem.mpr ⟨w, hj, hw, rfl⟩, ?_⟩))
      by_cases e : j + 1 = i
      · have := c1_spec hq e hj
        simp [this, Ne.symm hji, Ne.symm hj1]
      · simp [e, Ne.symm hji, Ne.symm hj1]
theorem LG.weaken {ls : Array Slot} {n i : Nat} {L : List Value} (h : LG ls n L) : LG ls n (L.set i uk) := by
  refine ⟨h.1, h.2.1, fun j w hj hw => ?_⟩
  by_cases hji : i = j
  · subst hji
    rw [List.getElem?_set] at hj
    rw [if_pos rfl] at hj
    split at hj
    · cases hj
      cases hw
    · cases hj
  · rw [List.getElem?_set_ne hji] at hj
    exact h.2.2 j w hj hw
theorem entry_G {As : List Value} {n : Nat} (hc : cat1 As) (hn : As.length ≤ n) : LG ((lg_sl As ++ List.replicate (n - (lg_sl As).length) Slot.unset).toArray) n (padG n As) := by
  have hc' := cat1_all hc
  have hl := lv_entry As (n := n) (by rw [lg_len hc']; exact hn)
  refine ⟨hl.1, hl.2.1, fun i v hv h0 => ?_⟩
  by_cases hi : i < As.length
  · have h1 : As[i]? = some v := by rw [padG, List.getElem?_append_left hi] at hv; exact hv
    refine hl.2.2 (i, v) ?_
    have := args_mem hc' 0 i v h1
    simpa using this
  · exfalso
    rw [padG, List.getElem?_append_right (by omega)] at hv
    have := List.eq_of_mem_replicate (List.mem_of_getElem? hv)
    subst this
    cases h0
/-- the world: the class's cells, and the law's own -/
def cE (cy : Nat → ClassId) : va_E → va_E
  | .inl (t, x) => .inl (cy t, x)
  | .inr o => .inr o
def WG (Γ : en) (u : hp) (h : hg) (H : Heap) : Prop := va_P Γ.2.1 vwCl (wsOf Γ 112 u) H ∧ va_D Γ.2.2.2 (wsOf Γ 112 u) ∧ ∀ (a : Nat) (e : va_E), h a = some e → va_at Γ.2.1 vwCl (a, cE Γ.2.2.1 e) H ∧ Γ.2.2.2 a ∧ ∀ i, i < 112 → Γ.1 i ≠ a
def wl (Γ : en) (u : hp) (h : hg) (n : Nat) : va_W := wsOf Γ 112 u ++ (List.range n).filterMap (fun a => (h a).map (fun e => (a, cE Γ.2.2.1 e)))
section WGS
variable {Γ : en} {u : hp} {h : hg} {H : Heap}
theorem ws_length {NC : Nat} : (wsOf Γ NC u).length = NC := by simp [wsOf]
theorem wl_r {n a : Nat} {q : Nat × va_E} : q ∈ (List.range n).filterMap (fun a => (h a).map (fun e => (a, cE Γ.2.2.1 e))) ↔ ∃ e, q.1 < n ∧ h q.1 = some e ∧ q.2 = cE Γ.2.2.1 e := by
  rw [List.mem_filterMap]
  constructor
  · rintro ⟨a, ha, hq⟩
    cases hh : h a with
    | none => rw [hh] at hq; cases hq
    | some e =>
      rw [hh] at hq
      cases hq
      exact ⟨e, List.mem_range.mp ha, hh, rfl⟩
  · rintro ⟨e, h1, h2, h3⟩
    refine ⟨q.1, List.mem_range.mpr h1, ?_⟩
    rw [h2, Option.map_some, ← h3]
theorem WG.get (hW : WG Γ u h H) {a : Nat} {e : va_E} (ha : h a = some e) : ∃ k : Nat, (wl Γ u h H.size)[k]? = some (a, cE Γ.2.2.1 e) := by
  have hl := (hW.2.2 a e ha).1.lt
  obtain ⟨k, hk⟩ := List.getElem?_of_mem ((wl_r (Γ := Γ) (h := h) (n := H.size) (a := 0) (q := (a, cE Γ.2.2.1 e))).mpr ⟨e, hl, ha, rfl⟩)
  refine ⟨112 + k, ?_⟩
  unfold wl
  rw [List.getElem?_append_right (by rw [ws_length]; omega), ws_length, show 112 + k - 112 = k by omega]
  exact hk
theorem wl_cases {n k : Nat} {q : Nat × va_E} (hq : (wl Γ u h n)[k]? = some q) : (k < 112 ∧ (wsOf Γ 112 u)[k]? = some q) ∨ (112 ≤ k ∧ ∃ e, h q.1 = some e ∧ q.2 = cE Γ.2.2.1 e) := by
  unfold wl at hq
  by_cases hk : k < 112
  · left
    rw [List.getElem?_append_left (by rw [ws_length]; exact hk)] at hq
    exact ⟨hk, hq⟩
  · right
    rw [List.getElem?_append_right (by rw [ws_length]; omega)] at hq
    obtain ⟨e, -, h2, h3⟩ := wl_r (a := 0) |>.mp (List.mem_of_getElem? hq)
    exact ⟨by omega, e, h2, h3⟩
theorem WG.P (hW : WG Γ u h H) {n : Nat} : va_P Γ.2.1 vwCl (wl Γ u h n) H := by
  intro k q hq
  rcases wl_cases hq with ⟨-, h1⟩ | ⟨-, e, h2, h3⟩
  · exact hW.1 k q h1
  · have := (hW.2.2 q.1 e h2).1
    rw [← h3] at this
    exact this
theorem fm_inj (f : Nat → Option va_E) (cy : Nat → ClassId) : ∀ (n i j : Nat) (p q : Nat × va_E), ((List.range n).filterMap (fun a => (f a).map (fun e => (a, cE cy e))))[i]? = some p → ((List.range n).filterMap (fun a => (f a).map (fun e => (a, cE cy e))))[j]? = some q → p.1 = q.1 → i = j := by
  intro n
  induction n with
  | zero => intro i j p q hp; simp at hp
  | succ n ih =>
    intro i j p q hp hq hpq
    rw [List.range_succ, List.filterMap_append] at hp hq
    have hm : ∀ (k : Nat) (r : Nat × va_E), ((List.range n).filterMap (fun a => (f a).map (fun e => (a, cE cy e))))[k]? = some r → r.1 < n := by
      intro k r hr
      obtain ⟨a, ha, hb⟩ := List.mem_filterMap.mp (List.mem_of_getElem? hr)
      cases hf : f a with
      | none => rw [hf] at hb; cases hb
      | some e => rw [hf] at hb; cases hb; exact List.mem_range.mp ha
    have hs : ∀ (k : Nat) (r : Nat × va_E), (([n] : List Nat).filterMap (fun a => (f a).map (fun e => (a, cE cy e))))[k]? = some r → r.1 = n ∧ k = 0 := by
      intro k r hr
      obtain ⟨a, ha, hb⟩ := List.mem_filterMap.mp (List.mem_of_getElem? hr)
      have ha' : a = n := List.mem_singleton.mp ha
      subst ha'
      have hlt := (List.getElem?_eq_some_iff.mp hr).1
      have hle := List.length_filterMap_le (fun a => (f a).map (fun e => (a, cE cy e))) ([a] : List Nat)
      have h1 : ([a] : List Nat).length = 1 := rfl
      cases hf : f a with
      | none => rw [hf] at hb; cases hb
      | some e => rw [hf] at hb; cases hb; exact ⟨rfl, by omega⟩
    rcases Nat.lt_or_ge i ((List.range n).filterMap (fun a => (f a).map (fun e => (a, cE cy e)))).length with hi | hi
    · rw [List.getElem?_append_left hi] at hp
      rcases Nat.lt_or_ge j ((List.range n).filterMap (fun a => (f a).map (fun e => (a, cE cy e)))).length with hj | hj
      · rw [List.getElem?_append_left hj] at hq
        exact ih i j p q hp hq hpq
      · rw [List.getElem?_append_right hj] at hq
        have a1 := hm i p hp
        have a2 := (hs _ q hq).1
        omega
    · rw [List.getElem?_append_right hi] at hp
      rcases Nat.lt_or_ge j ((List.range n).filterMap (fun a => (f a).map (fun e => (a, cE cy e)))).length with hj | hj
      · rw [List.getElem?_append_left hj] at hq
        have a1 := hm j q hq
        have a2 := (hs _ p hp).1
        omega
      · rw [List.getElem?_append_right hj] at hq
        have a1 := (hs _ p hp).2
        have a2 := (hs _ q hq).2
        omega
theorem WG.D (hW : WG Γ u h H) {n : Nat} : va_D Γ.2.2.2 (wl Γ u h n) := by
  refine va_D.app hW.2.1 ⟨fun i j p q hp hq hpq => fm_inj h Γ.2.2.1 n i j p q hp hq hpq, fun k q hq => ?_⟩ (fun i j p q hp hq hpq => ?_)
  · obtain ⟨e, -, h2, -⟩ := wl_r (a := 0) |>.mp (List.mem_of_getElem? hq)
    exact (hW.2.2 q.1 e h2).2.1
  · obtain ⟨e, -, h2, -⟩ := wl_r (a := 0) |>.mp (List.mem_of_getElem? hq)
    have hi : i < 112 := by have := (List.getElem?_eq_some_iff.mp hp).1; rw [ws_length] at this; exact this
    rw [ws_get hi] at hp
    cases hp
    exact (hW.2.2 q.1 e h2).2.2 i hi hpq
/-- a cell of the law's own is written -/
theorem WG.upd (hW : WG Γ u h H) {H1 : Heap} {a k : Nat} {e0 e1 : va_E} (ha : h a = some e0) (hk : (wl Γ u h H.size)[k]? = some (a, cE Γ.2.2.1 e0)) (hP : va_P Γ.2.1 vwCl ((wl Γ u h H.size).set k (a, cE Γ.2.2.1 e1)) H1) : WG Γ u (up h a e1) H1 := by
  have hl := (List.getElem?_eq_some_iff.mp hk).1
  have hother : ∀ (j : Nat) (q : Nat × va_E), (wl Γ u h H.size)[j]? = some q → q.1 ≠ a → va_at Γ.2.1 vwCl q H1 := by
    intro j q hj hqa
    refine hP j q ?_
    rw [List.getElem?_set_ne (fun e => hqa (by subst e; rw [hk] at hj; cases hj; rfl))]
    exact hj
  refine ⟨fun i q hq => ?_, hW.2.1, fun b e hb => ?_⟩
  · have hi : i < 112 := by have := (List.getElem?_eq_some_iff.mp hq).1; rw [ws_length] at this; exact this
    refine hother i q ?_ ?_
    · unfold wl
      rw [List.getElem?_append_left (by rw [ws_length]; exact hi)]
      exact hq
    · rw [ws_get hi] at hq
      cases hq
      exact (hW.2.2 a e0 ha).2.2 i hi
  · by_cases hba : b = a
    · subst hba
      rw [ug_eq] at hb
      cases hb
      exact ⟨hP k _ (List.getElem?_set_self hl), (hW.2.2 b e0 ha).2⟩
    · rw [ug_ne hba] at hb
      obtain ⟨j, hj⟩ := hW.get hb
      exact ⟨hother j _ hj hba, (hW.2.2 b e hb).2⟩
/-- a new cell -/
theorem WG.push (hW : WG Γ u h H) {H1 : Heap} {a : Nat} {e : va_E} (hP : va_P Γ.2.1 vwCl (wl Γ u h H.size ++ [(a, cE Γ.2.2.1 e)]) H1) (hD : va_D Γ.2.2.2 (wl Γ u h H.size ++ [(a, cE Γ.2.2.1 e)])) : h a = none ∧ WG Γ u (up h a e) H1 := by
  have hnew : (wl Γ u h H.size ++ [(a, cE Γ.2.2.1 e)])[(wl Γ u h H.size).length]? = some (a, cE Γ.2.2.1 e) := by simp
  have hold : ∀ (j : Nat) (q : Nat × va_E), (wl Γ u h H.size)[j]? = some q → (wl Γ u h H.size ++ [(a, cE Γ.2.2.1 e)])[j]? = some q ∧ q.1 ≠ a := by
    intro j q hj
    have hjl := (List.getElem?_eq_some_iff.mp hj).1
    have h1 : (wl Γ u h H.size ++ [(a, cE Γ.2.2.1 e)])[j]? = some q := by rw [List.getElem?_append_left hjl]; exact hj
    refine ⟨h1, fun z => ?_⟩
    have := hD.1 _ _ _ _ h1 hnew z
    omega
  refine ⟨?_, fun i q hq => ?_, hW.2.1, fun b e' hb => ?_⟩
  · cases hh : h a with
    | none => rfl
    | some e0 =>
      obtain ⟨j, hj⟩ := hW.get hh
      exact absurd rfl (hold j _ hj).2
  · have hi : i < 112 := by have := (List.getElem?_eq_some_iff.mp hq).1; rw [ws_length] at this; exact this
    refine hP i q (hold i q ?_).1
    unfold wl
    rw [List.getElem?_append_left (by rw [ws_length]; exact hi)]
    exact hq
  · by_cases hba : b = a
    · subst hba
      rw [ug_eq] at hb
      cases hb
      refine ⟨hP _ _ hnew, hD.2 _ _ hnew, fun i hi z => ?_⟩
      refine (hold i (Γ.1 i, trE Γ.1 Γ.2.2.1 (u i)) ?_).2 z
      unfold wl
      rw [List.getElem?_append_left (by rw [ws_length]; exact hi)]
      exact ws_get hi
    · rw [ug_ne hba] at hb
      obtain ⟨j, hj⟩ := hW.get hb
      exact ⟨hP j _ (hold j _ hj).1, (hW.2.2 b e' hb).2⟩
/-- where nothing that is known has changed -/
theorem WG.kept (hW : WG Γ u h H) {H1 : Heap} (hk : ∀ q, q < H.size → H1[q]? = H[q]?) : WG Γ u h H1 := by
  refine ⟨hW.1.kept (fun k q hq => hk q.1 (hW.1 k q hq).lt), hW.2.1, fun a e ha => ?_⟩
  have := hW.2.2 a e ha
  exact ⟨this.1.kept (hk a this.1.lt), this.2⟩
end WGS
theorem ra_name {U : State} {cA : ClassId} {ty : FieldType} (h : va_RA U cA ty) : U.vm.findClass ("[" ++ ty.toString) = some cA := by
  cases ty with
  | object C => obtain ⟨_, _, _, _, _, h4⟩ := h; exact h4
  | _ => exact h
theorem tg_new {Γ : en} {s : State} {cA : ClassId} {ty : FieldType} {t : Nat} (hK : va_K Γ.2.1 vwCl (tysOf Γ) s) (h1 : va_K Γ.2.1 vwCl (tysOf Γ ++ [(cA, ty)]) s) (ht : (tysOf Γ)[t]? = some (Γ.2.2.1 t, ty)) : cA = Γ.2.2.1 t := by
  have a := ra_name (h1.2 10 (cA, ty) rfl).2
  have b := ra_name (hK.2 t _ ht).2
  exact Option.some.inj (a.symm.trans b)
section AGR
variable {p : Program} {l : Launch} {e : Env} {R : Room} {s : State} {m : MethodId} {args : Array Value} {below : List Frame} {meth : Method} {c : Code} {H : Heap} {locs : List Loc} {cells slots : Nat} {Q : State → Prop}
variable {cc : ByteArray} {pc : Nat} {ls : Array Slot} {rest : List Value} {Γ : en} {a : Nat} {ws : va_W} {H0 : Heap}
theorem ag_aald {k n t : Nat} {f : Nat → Option Nat} {i : Int32} {v : Value} (hk : ws[k]? = some (a, cE Γ.2.2.1 (.inl (t, n, .inr (.inr (.inr (.inr f))))))) (hexec : p.tables.exec = Jvm.exec) (hb : c.code = cc) (hK : va_K Γ.2.1 vwCl (tysOf Γ) s) (hP : va_P Γ.2.1 vwCl ws H) (ht : t = 4 ∨ t = 6 ∨ t = 7 ∨ t = 8 ∨ t = 9) (hin : vp_in i n) (hv : va_rf (f i.toNatClampNeg) = v) (hdg : decode cc pc = .ok (.aaload, 1))
    (kk : W p l e R s m args below meth c H locs cells slots Q (F0 m (pc + 1) ls (v :: rest))) : W p l e R s m args below meth c H locs cells slots Q (F0 m pc ls (.int i :: .ref a :: rest)) := by
  have hlt : i.toNatClampNeg < n := Nat.not_le.mp fun q => hin (Or.inr q)
  subst hv
  have key : ∀ (ty : FieldType), (tysOf Γ)[t]? = some (Γ.2.2.1 t, ty) → ty.isReference = true → W p l e R s m args below meth c H locs cells slots Q (F0 m pc ls (.int i :: .ref a :: rest)) := fun ty h1 h2 =>
    W.aald (v := va_rf (f i.toNatClampNeg)) (ty := ty) hexec hb (hP k _ hk) ((hK.2 t _ h1).1 n (fun j => va_rf (f j))) h2 (fun q => by cases q) (by show ¬ (i < 0 ∨ (arrV _ _ _).slots.size ≤ _); rw [arrV_size]; exact hin) (by show (arrV _ _ _).slots[_]? = _; rw [arrV_read _ _ hlt]) rfl rfl hdg kk
  rcases ht with rfl | rfl | rfl | rfl | rfl
  · exact key _ rfl rfl
  · exact key _ rfl rfl
  · exact key _ rfl rfl
  · exact key _ rfl rfl
  · exact key _ rfl rfl
theorem ag_alen {k n t : Nat} {x : _} {v : Int32} (hk : ws[k]? = some (a, cE Γ.2.2.1 (.inl (t, n, x)))) (hexec : p.tables.exec = Jvm.exec) (hb : c.code = cc) (hK : va_K Γ.2.1 vwCl (tysOf Γ) s) (hP : va_P Γ.2.1 vwCl ws H) (ht : t < 10) (hv : Int32.ofNat n = v) (hdg : decode cc pc = .ok (.arraylength, 1))
    (kk : W p l e R s m args below meth c H locs cells slots Q (F0 m (pc + 1) ls (.int v :: rest))) : W p l e R s m args below meth c H locs cells slots Q (F0 m pc ls (.ref a :: rest)) := by
  rcases (by omega : t = 0 ∨ t = 1 ∨ t = 2 ∨ t = 3 ∨ t = 4 ∨ t = 5 ∨ t = 6 ∨ t = 7 ∨ t = 8 ∨ t = 9) with rfl | rfl | rfl | rfl | rfl | rfl | rfl | rfl | rfl | rfl
  · exact va_alen hexec hb hK hP k 0 hk rfl hv hdg kk
  · exact va_alen hexec hb hK hP k 1 hk rfl hv hdg kk
  · exact va_alen hexec hb hK hP k 2 hk rfl hv hdg kk
  · exact va_alen hexec hb hK hP k 3 hk rfl hv hdg kk
  · exact va_alen hexec hb hK hP k 4 hk rfl hv hdg kk
  · exact va_alen hexec hb hK hP k 5 hk rfl hv hdg kk
  · exact va_alen hexec hb hK hP k 6 hk rfl hv hdg kk
  · exact va_alen hexec hb hK hP k 7 hk rfl hv hdg kk
  · exact va_alen hexec hb hK hP k 8 hk rfl hv hdg kk
  · exact va_alen hexec hb hK hP k 9 hk rfl hv hdg kk
theorem ag_aast {k k8 n q t ci N : Nat} {C : String} {T : u_T} {vs : List Value} {f : Nat → Option Nat} {i : Int32} (hexec : p.tables.exec = Jvm.exec) (hb : c.code = cc) (hK : va_K Γ.2.1 vwCl (tysOf Γ) s) (hP : va_P Γ.2.1 vwCl ws H) (hD : va_D Γ.2.2.2 ws) (hS : va_S Γ.2.2.2 H0 H locs) (hk : ws[k]? = some (a, cE Γ.2.2.1 (.inl (t, n, .inr (.inr (.inr (.inr f))))))) (hk8 : ws[k8]? = some (q, cE Γ.2.2.1 (.inr (ci, vs)))) (hc : vwCl[ci]? = some (C, T, N)) (ht : tagO t C) (hin : vp_in i n) (hdg : decode cc pc = .ok (.aastore, 1))
    (kk : ∀ (H1 : Heap) (locs1 : List Loc), va_P Γ.2.1 vwCl (ws.set k (a, cE Γ.2.2.1 (.inl (t, n, .inr (.inr (.inr (.inr (va_up f i.toNatClampNeg (some q))))))))) H1 → va_D Γ.2.2.2 (ws.set k (a, cE Γ.2.2.1 (.inl (t, n, .inr (.inr (.inr (.inr (va_up f i.toNatClampNeg (some q))))))))) → va_S Γ.2.2.2 H0 H1 locs1 → W p l e R s m args below meth c H1 locs1 cells slots Q (F0 m (pc + 1) ls rest)) : W p l e R s m args below meth c H locs cells slots Q (F0 m pc ls (.ref q :: .int i :: .ref a :: rest)) := by
  rcases ht with ⟨rfl, rfl⟩ | ⟨rfl, rfl⟩ | ⟨rfl, rfl⟩ | ⟨rfl, rfl⟩
  · exact va_astq hexec hb hK hP hD hS k 3 k8 ci hk rfl hk8 hc hin hdg kk
  · exact va_astq hexec hb hK hP hD hS k 6 k8 ci hk rfl hk8 hc hin hdg kk
  · exact va_astq hexec hb hK hP hD hS k 7 k8 ci hk rfl hk8 hc hin hdg kk
  · exact va_astq hexec hb hK hP hD hS k 8 k8 ci hk rfl hk8 hc hin hdg kk
theorem ag_aastN {k n t : Nat} {C : String} {f : Nat → Option Nat} {i : Int32} (hexec : p.tables.exec = Jvm.exec) (hb : c.code = cc) (hK : va_K Γ.2.1 vwCl (tysOf Γ) s) (hP : va_P Γ.2.1 vwCl ws H) (hD : va_D Γ.2.2.2 ws) (hS : va_S Γ.2.2.2 H0 H locs) (hk : ws[k]? = some (a, cE Γ.2.2.1 (.inl (t, n, .inr (.inr (.inr (.inr f))))))) (ht : tagO t C) (hin : vp_in i n) (hdg : decode cc pc = .ok (.aastore, 1))
    (kk : ∀ (H1 : Heap) (locs1 : List Loc), va_P Γ.2.1 vwCl (ws.set k (a, cE Γ.2.2.1 (.inl (t, n, .inr (.inr (.inr (.inr (va_up f i.toNatClampNeg none)))))))) H1 → va_D Γ.2.2.2 (ws.set k (a, cE Γ.2.2.1 (.inl (t, n, .inr (.inr (.inr (.inr (va_up f i.toNatClampNeg none)))))))) → va_S Γ.2.2.2 H0 H1 locs1 → W p l e R s m args below meth c H1 locs1 cells slots Q (F0 m (pc + 1) ls rest)) : W p l e R s m args below meth c H locs cells slots Q (F0 m pc ls (.null :: .int i :: .ref a :: rest)) := by
  rcases ht with ⟨rfl, rfl⟩ | ⟨rfl, rfl⟩ | ⟨rfl, rfl⟩ | ⟨rfl, rfl⟩
  · exact va_astqN hexec hb hK hP hD hS k 3 hk rfl hin hdg kk
  · exact va_astqN hexec hb hK hP hD hS k 6 hk rfl hin hdg kk
  · exact va_astqN hexec hb hK hP hD hS k 7 hk rfl hin hdg kk
  · exact va_astqN hexec hb hK hP hD hS k 8 hk rfl hin hdg kk
/-- a row of texts is put into a row of such rows -/
theorem ag_aastA {k k8 n n1 q : Nat} {f f1 : Nat → Option Nat} {i : Int32} (hAA : va_AOA (.object "java/lang/String") s) (hexec : p.tables.exec = Jvm.exec) (hb : c.code = cc) (hK : va_K Γ.2.1 vwCl (tysOf Γ) s) (hP : va_P Γ.2.1 vwCl ws H) (hD : va_D Γ.2.2.2 ws) (hS : va_S Γ.2.2.2 H0 H locs) (hk : ws[k]? = some (a, cE Γ.2.2.1 (.inl (9, n, .inr (.inr (.inr (.inr f))))))) (hk8 : ws[k8]? = some (q, cE Γ.2.2.1 (.inl (8, n1, .inr (.inr (.inr (.inr f1))))))) (hin : vp_in i n) (hdg : decode cc pc = .ok (.aastore, 1))
    (kk : ∀ (H1 : Heap) (locs1 : List Loc), va_P Γ.2.1 vwCl (ws.set k (a, cE Γ.2.2.1 (.inl (9, n, .inr (.inr (.inr (.inr (va_up f i.toNatClampNeg (some q))))))))) H1 → va_D Γ.2.2.2 (ws.set k (a, cE Γ.2.2.1 (.inl (9, n, .inr (.inr (.inr (.inr (va_up f i.toNatClampNeg (some q))))))))) → va_S Γ.2.2.2 H0 H1 locs1 → W p l e R s m args below meth c H1 locs1 cells slots Q (F0 m (pc + 1) ls rest)) : W p l e R s m args below meth c H locs cells slots Q (F0 m pc ls (.ref q :: .int i :: .ref a :: rest)) := by
  have hlt : i.toNatClampNeg < n := Nat.not_le.mp fun q => hin (Or.inr q)
  have h0 : ¬ i < 0 := fun q => hin (Or.inl q)
  obtain ⟨comp, cA, kA, hcomp, hidx, hkA, hkindA, hnameA⟩ := arrayOverA_spec (va_AOA.use (A := args) hAA)
  have n9 := ra_name (hK.2 9 _ rfl).2
  have n8 := ra_name (hK.2 8 _ rfl).2
  have e9 : cA = Γ.2.2.1 9 := Option.some.inj (hnameA.symm.trans n9)
  have e8 : comp = Γ.2.2.1 8 := Option.some.inj (hcomp.symm.trans n8)
  subst e9
  subst e8
  obtain ⟨kE, hkE, -⟩ := Vm.findClass_spec n8
  refine W.aast hexec hb (hP k _ hk) (fun q h => by cases h) (fun h => by cases h) hkA hkindA rfl hkE ⟨h0, by show _ < (arrV _ _ _).slots.size; rw [arrV_size]; exact hlt⟩ (hP k8 _ hk8) (fun q h => by cases h) hkE (va_asg _ _) rfl rfl hdg fun H1 e z oq => ?_
  refine kk H1 _ (hP.set hD hk ?_ oq) (hD.set hk) (hS.put z oq (hD.2 k _ hk))
  show H1[a]? = some (vp_cell _ _)
  rw [e]
  show some ((vp_cell _ (n, .inr (.inr (.inr (.inr f))))).setSlot _ _) = _
  rw [vp_cell_q, vp_cell_q, arrV_store]
  congr 2
  funext q
  by_cases hq : q = i.toNatClampNeg
  · subst hq
    simp [updV, va_up, va_rf]
  · simp [updV, va_up, hq]
/-- a new row of rows of texts -/
theorem ag_newA (hexec : p.tables.exec = Jvm.exec) (hb : c.code = cc) {own : String} {index : Nat} (hown : s.vm.findClass own = some m.cls) (hclink : (Cond.classLink own index "[Ljava/lang/String;").before args s = true) (hAA : va_AOA (.object "java/lang/String") s) (hK : va_K Γ.2.1 vwCl (tysOf Γ) s) (hP : va_P Γ.2.1 vwCl ws H) (hD : va_D Γ.2.2.2 ws) (hS : va_S Γ.2.2.2 H0 H locs) (hA : ∀ q, H0.size ≤ q → Γ.2.2.2 q)
    {n : Int32} {N' : Nat} (hn : ¬ n < 0) (hN : n.toNatClampNeg = N') (hbytes : N' * 4 ≤ 536870912) (hcells : cells + 1 ≤ R.cells) (hslots : slots + N' ≤ R.slots) (hdg : decode cc pc = .ok (.anewarray index, 3))
    (kk : ∀ (q : Nat) (H1 : Heap), va_P Γ.2.1 vwCl (ws ++ [(q, cE Γ.2.2.1 (.inl (9, N', .inr (.inr (.inr (.inr (fun _ => none)))))))]) H1 → va_D Γ.2.2.2 (ws ++ [(q, cE Γ.2.2.1 (.inl (9, N', .inr (.inr (.inr (.inr (fun _ => none)))))))]) → va_S Γ.2.2.2 H0 H1 locs →
      W p l e R s m args below meth c H1 locs (cells + 1) (slots + N') Q (F0 m (pc + 3) ls (.ref q :: rest))) : W p l e R s m args below meth c H locs cells slots Q (F0 m pc ls (.int n :: rest)) := by
  subst hN
  refine W.anewA (t := .object "java/lang/String") hexec hb hown hclink (va_AOA.use hAA) rfl hdg rfl hn hbytes hcells hslots fun cA kA comp f1 f2 f3 f4 => ?_
  have e9 : cA = Γ.2.2.1 9 := Option.some.inj (f1.symm.trans (ra_name (hK.2 9 _ rfl).2))
  subst e9
  generalize hH1 : H.push ({ cls := Γ.2.2.1 9, slots := Array.replicate n.toNatClampNeg .null, vm := .none } : Cell) = H1
  have z1 : H1.size = H.size + 1 := by rw [← hH1, Array.size_push]
  have e1 : H1[H.size]? = some (arrV (Γ.2.2.1 9) n.toNatClampNeg (fun _ => .null)) := by rw [← hH1, Array.getElem?_push_size, ← arrV_new]
  have o1 : ∀ q : Nat, q < H.size → H1[q]? = H[q]? := fun q hq => by rw [← hH1, Array.getElem?_push, if_neg (Nat.ne_of_lt hq)]
  have hk : ∀ (k : Nat) (x : Nat × va_E), ws[k]? = some x → H1[x.1]? = H[x.1]? := fun k x hx => o1 x.1 ((hP k x hx).lt)
  refine kk H.size H1 ((hP.kept hk).app (fun k x hx => ?_)) (hD.push hP rfl (hA _ hS.1)) ⟨Nat.le_trans hS.1 (by omega), fun x h1 h2 => (o1 x (Nat.lt_of_lt_of_le h1 hS.1)).trans (hS.2.1 x h1 h2), hS.2.2⟩
  have hz : k < 1 := (List.getElem?_eq_some_iff.mp hx).1
  rw [show k = 0 by omega] at hx
  cases hx
  show H1[H.size]? = some (vp_cell _ _)
  rw [e1]
  rfl
end AGR
