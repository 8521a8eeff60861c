/-! SOUNDNESS: what the least relation says of a method holds of its bytecode. Γ: the addresses of the places, the classes' numbers, the arrays' classes, what may be written. -/
abbrev en : Type := (Nat → Nat) × va_G × (Nat → ClassId) × (Nat → Prop)
def trV (ad : Nat → Nat) : Value → Value
  | .ref a => .ref (ad a)
  | v => v
theorem trV_cat (ad : Nat → Nat) (v : Value) : (trV ad v).category = v.category := by cases v <;> rfl
def trE (ad : Nat → Nat) (cy : Nat → ClassId) : va_E → va_E
  | .inl (t, n, .inr (.inr (.inr (.inr f)))) => .inl (cy t, n, .inr (.inr (.inr (.inr (fun i => (f i).map ad)))))
  | .inl (t, n, .inl f) => .inl (cy t, n, .inl f)
  | .inl (t, n, .inr (.inl f)) => .inl (cy t, n, .inr (.inl f))
  | .inl (t, n, .inr (.inr (.inl f))) => .inl (cy t, n, .inr (.inr (.inl f)))
  | .inl (t, n, .inr (.inr (.inr (.inl f)))) => .inl (cy t, n, .inr (.inr (.inr (.inl f))))
  | .inr (ci, fs) => .inr (ci, fs.map (trV ad))
def wsOf (Γ : en) (NC : Nat) (h : hp) : va_W := (List.range NC).map (fun i => (Γ.1 i, trE Γ.1 Γ.2.2.1 (h i)))
def tysOf (Γ : en) : List (ClassId × FieldType) := [(Γ.2.2.1 0, .int), (Γ.2.2.1 1, .byte), (Γ.2.2.1 2, .boolean), (Γ.2.2.1 3, .object "KitePainter$Sail"), (Γ.2.2.1 4, .array .int), (Γ.2.2.1 5, .int), (Γ.2.2.1 6, .object "KitePainterLaw$Cell"), (Γ.2.2.1 7, .object "KitePainterLaw$Kite"), (Γ.2.2.1 8, .object "java/lang/String"), (Γ.2.2.1 9, .array (.object "java/lang/String"))]
theorem ws_get {Γ : en} {NC a : Nat} {h : hp} (hn : a < NC) : (wsOf Γ NC h)[a]? = some (Γ.1 a, trE Γ.1 Γ.2.2.1 (h a)) := by
  simp [wsOf, List.getElem?_map, List.getElem?_range hn]
theorem ws_inr {Γ : en} {NC a ci : Nat} {h : hp} {fs : List Value} (hn : a < NC) (ha : h a = .inr (ci, fs)) : (wsOf Γ NC h)[a]? = some (Γ.1 a, .inr (ci, fs.map (trV Γ.1))) := by
  rw [ws_get hn, ha]; rfl
theorem ws_i {Γ : en} {NC a t n : Nat} {h : hp} {f : Nat → Int32} (hn : a < NC) (ha : h a = .inl (t, n, .inl f)) : (wsOf Γ NC h)[a]? = some (Γ.1 a, .inl (Γ.2.2.1 t, n, .inl f)) := by
  rw [ws_get hn, ha]; rfl
theorem ws_q {Γ : en} {NC a t n : Nat} {h : hp} {f : Nat → Option Nat} (hn : a < NC) (ha : h a = .inl (t, n, .inr (.inr (.inr (.inr f))))) : (wsOf Γ NC h)[a]? = some (Γ.1 a, .inl (Γ.2.2.1 t, n, .inr (.inr (.inr (.inr (fun i => (f i).map Γ.1)))))) := by
  rw [ws_get hn, ha]; rfl
theorem ws_set {Γ : en} {NC a : Nat} {h : hp} {e : va_E} : (wsOf Γ NC h).set a (Γ.1 a, trE Γ.1 Γ.2.2.1 e) = wsOf Γ NC (va_up h a e) := by
  apply List.ext_getElem?
  intro i
  rw [List.getElem?_set]
  by_cases hi : a = i
  · subst hi
    by_cases hn : a < NC
    · rw [if_pos rfl, if_pos (by simpa [wsOf] using hn), ws_get hn]
      simp [va_up]
    · rw [if_pos rfl, if_neg (by simpa [wsOf] using hn)]
      symm
      rw [List.getElem?_eq_none_iff]
      simpa [wsOf] using hn
  · rw [if_neg hi]
    by_cases hn : i < NC
    · rw [ws_get hn, ws_get hn]
      simp [va_up, Ne.symm hi]
    · rw [List.getElem?_eq_none_iff.mpr (by simpa [wsOf] using hn), List.getElem?_eq_none_iff.mpr (by simpa [wsOf] using hn)]
/-- the locals -/
def LRel (ad : Nat → Nat) (ls : Array Slot) (n : Nat) (L : List Value) : Prop := ls.size = n ∧ lv_wf ls ∧ ∀ (i : Nat) (v : Value), L[i]? = some v → v ≠ .null → v.category = 1 ∧ ls[i]? = some (.val (trV ad v))
theorem LRel.get {ad : Nat → Nat} {ls : Array Slot} {n i : Nat} {L : List Value} {v : Value} (h : LRel ad ls n L) (hl : L[i]? = some v) (hv : v ≠ .null) : ls[i]? = some (.val (trV ad v)) := (h.2.2 i v hl hv).2
def lst (ad : Nat → Nat) (L : List Value) : List (Nat × Value) := (List.range L.length).filterMap (fun i => match L[i]? with | some Value.null => none | some v => some (i, trV ad v) | none => none)
theorem lst_mem {ad : Nat → Nat} {L : List Value} {q : Nat × Value} : q ∈ lst ad L ↔ ∃ v, L[q.1]? = some v ∧ v ≠ .null ∧ q.2 = trV ad v := by
  unfold lst
  rw [List.mem_filterMap]
  constructor
  · rintro ⟨i, hi, h⟩
    cases hv : L[i]? with
    | none => rw [hv] at h; cases h
    | some v =>
      rw [hv] at h
      cases v <;> first | (cases h; done) | (cases h; exact ⟨_, hv, (fun z => by cases z), rfl⟩)
  · rintro ⟨v, h1, h2, h3⟩
    refine ⟨q.1, List.mem_range.mpr (List.getElem?_eq_some_iff.mp h1).1, ?_⟩
    rw [h1]
    cases v <;> first | (exact absurd rfl h2) | (show some _ = some _; rw [← h3])
theorem LRel.has {ad : Nat → Nat} {ls : Array Slot} {n : Nat} {L : List Value} (h : LRel ad ls n L) : lv_has ls n (lst ad L) := by
  refine ⟨h.1, h.2.1, fun q hq => ?_⟩
  obtain ⟨v, h1, h2, h3⟩ := lst_mem.mp hq
  rw [h3]
  exact h.get h1 h2
theorem LRel.store {ad : Nat → Nat} {ls ls' : Array Slot} {n i : Nat} {L : List Value} {v : Value} (h : LRel ad ls n L) (hc : v.category = 1) (h' : lv_has ls' n ((i, trV ad v) :: (lst ad L).filter (fun q => !(q.1 == i) && !(q.1 + 1 == i && q.2.category == 2)))) : LRel ad ls' n (L.set i v) := by
  refine ⟨h'.1, h'.2.1, fun j w hj hw => ?_⟩
  by_cases hji : i = j
  · subst hji
    rw [List.getElem?_set] at hj
    rw [if_pos rfl] at hj
    split at hj
    · cases hj
      exact ⟨hc, h'.2.2 (i, trV ad v) List.mem_cons_self⟩
    · cases hj
  · rw [List.getElem?_set_ne hji] at hj
    refine ⟨(h.2.2 j w hj hw).1, h'.2.2 (j, trV ad w) (List.mem_cons_of_mem _ (List.mem_filter.mpr ⟨lst_mem.mpr ⟨w, hj, hw, rfl⟩, ?_⟩))⟩
    have hcw : (trV ad w).category = 1 := by rw [trV_cat]; exact (h.2.2 j w hj hw).1
    simp [hcw, Ne.symm hji]
theorem cat1_all {vs : List Value} (h : cat1 vs) : ∀ v ∈ vs, v.category = 1 := by
  intro v hv
  have := List.all_eq_true.mp h v hv
  simpa using this
theorem lg_len {vs : List Value} (h : ∀ v ∈ vs, v.category = 1) : (lg_sl vs).length = vs.length := by
  induction vs with
  | nil => rfl
  | cons v vs ih =>
    have h1 := h v List.mem_cons_self
    have h2 := ih (fun w hw => h w (List.mem_cons_of_mem _ hw))
    unfold lg_sl at h2 ⊢
    simp [h1, h2]
theorem args_mem {vs : List Value} (h : ∀ v ∈ vs, v.category = 1) : ∀ (k i : Nat) (v : Value), vs[i]? = some v → (k + i, v) ∈ lv_args k vs := by
  induction vs with
  | nil => intro k i v hv; simp at hv
  | cons w vs ih =>
    intro k i v hv
    have h1 := h w List.mem_cons_self
    have e : lv_args k (w :: vs) = (k, w) :: lv_args (k + 1) vs := by
      show (k, w) :: lv_args (if w.category = 2 then k + 2 else k + 1) vs = _
      rw [if_neg (by omega)]
    rw [e]
    cases i with
    | zero =>
      rw [List.getElem?_cons_zero] at hv
      cases hv
      exact List.mem_cons_self
    | succ i =>
      rw [List.getElem?_cons_succ] at hv
      have := ih (fun w hw => h w (List.mem_cons_of_mem _ hw)) (k + 1) i v hv
      rw [show k + (i + 1) = k + 1 + i by omega]
      exact List.mem_cons_of_mem _ this
theorem entry_rel {ad : Nat → Nat} {As : List Value} {n : Nat} (hc : cat1 As) (hn : As.length ≤ n) : LRel ad ((lg_sl (As.map (trV ad)) ++ List.replicate (n - (lg_sl (As.map (trV ad))).length) Slot.unset).toArray) n (pad n As) := by
  have hc' : ∀ v ∈ As.map (trV ad), v.category = 1 := by
    intro v hv
    obtain ⟨w, hw, rfl⟩ := List.mem_map.mp hv
    rw [trV_cat]
    exact cat1_all hc w hw
  have hl := lv_entry (As.map (trV ad)) (n := n) (by rw [lg_len hc', List.length_map]; exact hn)
  refine ⟨hl.1, hl.2.1, fun i v hv h0 => ?_⟩
  by_cases hi : i < As.length
  · have h1 : As[i]? = some v := by rw [pad, List.getElem?_append_left hi] at hv; exact hv
    refine ⟨cat1_all hc v (List.mem_of_getElem? h1), hl.2.2 (i, trV ad v) ?_⟩
    have := args_mem hc' 0 i (trV ad v) (by rw [List.getElem?_map, h1]; rfl)
    simpa using this
  · exfalso
    rw [pad, List.getElem?_append_right (by omega)] at hv
    exact h0 (List.eq_of_mem_replicate (List.mem_of_getElem? hv))
/-- the world -/
def Wd (Γ : en) (NC : Nat) (h : hp) (H : Heap) : Prop := va_P Γ.2.1 vwCl (wsOf Γ NC h) H ∧ va_D Γ.2.2.2 (wsOf Γ NC h)
def Hw (Γ : en) (NC : Nat) (h : hp) (H : Heap) (s : State) (locs : List Loc) : Prop := va_P Γ.2.1 vwCl (wsOf Γ NC h) H ∧ va_D Γ.2.2.2 (wsOf Γ NC h) ∧ va_S Γ.2.2.2 s.heap H locs
/-- what holds of the frame -/
def Cx (Γ : en) (St : State → Prop) (M : mt) (p : Program) (s : State) (m : MethodId) (args : Array Value) (meth : Method) (c : Code) : Prop :=
  p.tables.exec = Jvm.exec ∧ c.code = M.2.1 ∧ meth.sig.returnType = M.2.2.2.1 ∧ c.maxLocals = M.2.2.1 ∧ s.vm.findClass M.1.cls = some m.cls ∧ (∀ w ∈ gT, w.before args s = true) ∧ meth.locks = false ∧ (∀ x ∈ c.exceptionTable.toList, False) ∧ va_K Γ.2.1 vwCl (tysOf Γ) s ∧ St s
def rmM (b : Option String) (M : mt) : Room := { frames := M.2.2.2.2.1, cells := if b.isSome then 1 else 0, slots := if b.isSome then 6 else 0, locals := M.2.2.2.2.2 }
def wsM (M : mt) : List Cond := .code M.1 M.2.1 M.2.2.1 M.2.2.2.1 :: gT
def XCx (Γ : en) (NC : Nat) (E : String) (Q : qt) : String → State → State → Prop := fun E' st t => E' = E ∧ (∃ u, Q .null u ∧ Wd Γ NC u t.heap) ∧ va_F Γ.2.2.2 st t
def BW (Γ : en) (NC : Nat) (u : hp) (t : State) : Prop := Wd Γ NC u t.heap
def QcM (Γ : en) (NC : Nat) (M : mt) (Q : qt) : Array Value → State → Outcome → State → Prop := match M.2.2.2.1 with
  | none => va_Qv (fun u : hp => Q .null u) (BW Γ NC) Γ.2.2.2
  | some .float => va_Qf (fun (r : UInt32) (u : hp) => Q (.float r) u) (BW Γ NC) Γ.2.2.2
  | some _ => va_Qi (fun (r : Int32) (u : hp) => Q (.int r) u) (BW Γ NC) Γ.2.2.2
def TG (Γ : en) (NC : Nat) (b : Option String) (M : mt) (Q : qt) (below : List Frame) (args : Array Value) (s : State) : State → Prop := match b with
  | none => MQ below (QcM Γ NC M Q) args s 0 0 Γ.2.2.2
  | some E => vx_MQ below (fun _ _ _ _ => False) (XCx Γ NC E Q) args s 1 6 Γ.2.2.2
def Snd (Γ : en) (l : Launch) (St : State → Prop) (NC : Nat) : xt := fun b M pc L S h Q =>
  ∀ (p : Program) (e : Env) (s : State) (m : MethodId) (args : Array Value) (below : List Frame) (meth : Method) (c : Code) (H : Heap) (locs : List Loc) (ls : Array Slot),
    Cx Γ St M p s m args meth c → Hw Γ NC h H s locs → LRel Γ.1 ls M.2.2.1 L → W p l e (rmM b M) s m args below meth c H locs 0 0 (TG Γ NC b M Q below args s) (F0 m pc ls (S.map (trV Γ.1)))
def nestW : List Cond := [Cond.fieldLinkNest "KitePainter$RegionFinder" 62 "KitePainter" "NEIGHBOUR_X" "[I" "KitePainter", Cond.fieldLinkNest "KitePainter$RegionFinder" 65 "KitePainter" "NEIGHBOUR_Y" "[I" "KitePainter", Cond.fieldLinkNest "KitePainter$Sail" 132 "KitePainter" "NEIGHBOUR_X" "[I" "KitePainter", Cond.fieldLinkNest "KitePainter$Sail" 135 "KitePainter" "NEIGHBOUR_Y" "[I" "KitePainter"]
def envOK (Γ : en) (St : State → Prop) : Prop :=
  (∀ (s U : State) (H : Heap) (locs : List Loc), St s → va_S Γ.2.2.2 s.heap H locs → U.heap = H → s.WarmedH U.vm → St U) ∧
  (∀ (U : State) (g : JFrame) (mk : MethodId) (a : Array Value), St U → St (U.calling g mk a)) ∧
  (∀ (s : State) (j : Nat), j < 4 → St s → va_Z "KitePainter" (tabN j) "[I" (.ref (Γ.1 (1000 + j))) Γ.2.2.2 s s.heap) ∧
  (∀ (s : State) (j : Nat), j < 4 → St s → va_T .int (Γ.1 (1000 + j)) 4 (fun i => .int (tabF j i)) Γ.2.2.2 s s.heap) ∧
  (∀ (s : State) (own : String) (ix j : Nat) (tx : String), (own, ix, j, tx) ∈ strL → St s → vk_R own ix tx (Γ.1 (2000 + j)) s) ∧
  (∀ (s : State) (w : Cond), w ∈ nestW → St s → va_Nw w s)
section SN
variable {Γ : en} {l : Launch} {St : State → Prop} {NC : Nat}
theorem am_aald {p : Program} {e : Env} {R : Room} {s : State} {m : MethodId} {args : Array Value} {below : List Frame} {meth : Method} {c : Code} {H : Heap} {locs : List Loc} {cells slots : Nat} {Q : State → Prop} {cc : ByteArray} {pc : Nat} {ls : Array Slot} {rest : List Value} {ws : va_W} {a : Nat} (t0 : Nat) {q0 : Nat} {cA : ClassId} {ty : FieldType} {n : Nat} {f : Nat → Option Nat}
    (ha : ws[q0]? = some (a, .inl (cA, n, .inr (.inr (.inr (.inr (fun i => (f i).map Γ.1))))))) (hexec : p.tables.exec = Jvm.exec) (hb : c.code = cc) (hK : va_K Γ.2.1 vwCl (tysOf Γ) s) (hP : va_P Γ.2.1 vwCl ws H) (ht : (tysOf Γ)[t0]? = some (cA, ty)) {i : Int32} {q : Nat} (hin : vp_in i n) (hq : f i.toNatClampNeg = some q) (hdg : decode cc pc = .ok (.aaload, 1)) (hty : ty.isReference = true)
    (kk : W p l e R s m args below meth c H locs cells slots Q (F0 m (pc + 1) ls (.ref (Γ.1 q) :: rest))) : W p l e R s m args below meth c H locs cells slots Q (F0 m pc ls (.int i :: .ref a :: rest)) := by
  have hlt : i.toNatClampNeg < n := Nat.not_le.mp fun q => hin (Or.inr q)
  refine W.aald (v := .ref (Γ.1 q)) (ty := ty) hexec hb (hP q0 _ ha) ((hK.2 t0 _ ht).1 n (fun j => va_rf ((f j).map Γ.1))) hty (fun q => by cases q) (by show ¬ (i < 0 ∨ (arrV _ _ _).slots.size ≤ _); rw [arrV_size]; exact hin) (by show (arrV _ _ _).slots[_]? = _; rw [arrV_read _ _ hlt]; show some (va_rf ((f i.toNatClampNeg).map Γ.1)) = _; rw [hq]; rfl) rfl rfl hdg kk
theorem am_alen {p : Program} {e : Env} {R : Room} {s : State} {m : MethodId} {args : Array Value} {below : List Frame} {meth : Method} {c : Code} {H : Heap} {locs : List Loc} {cells slots : Nat} {Q : State → Prop} {cc : ByteArray} {pc : Nat} {ls : Array Slot} {rest : List Value} {ws : va_W} {a q0 n t : Nat} {f : Nat → Int32}
    (ha : ws[q0]? = some (a, .inl (Γ.2.2.1 t, n, .inl f))) (hexec : p.tables.exec = Jvm.exec) (hb : c.code = cc) (hK : va_K Γ.2.1 vwCl (tysOf Γ) s) (hP : va_P Γ.2.1 vwCl ws H) (ht : t < 3) {v : Int32} (hv : Int32.ofNat n = v) (hdg : decode cc pc = .ok (.arraylength, 1))
    (kk : W p l e R s m args below meth c H locs cells slots Q (F0 m (pc + 1) ls (.int v :: rest))) : W p l e R s m args below meth c H locs cells slots Q (F0 m pc ls (.ref a :: rest)) := by
  rcases (by omega : t = 0 ∨ t = 1 ∨ t = 2) with rfl | rfl | rfl
  · exact va_alen hexec hb hK hP q0 0 ha rfl hv hdg kk
  · exact va_alen hexec hb hK hP q0 1 ha rfl hv hdg kk
  · exact va_alen hexec hb hK hP q0 2 ha rfl hv hdg kk
theorem am_gets (hE : envOK Γ St) {p : Program} {e : Env} {R : Room} {s : State} {m : MethodId} {args : Array Value} {below : List Frame} {meth : Method} {c : Code} {H : Heap} {locs : List Loc} {cells slots : Nat} {Q : State → Prop} {cc : ByteArray} {pc : Nat} {ls : Array Slot} {rest : List Value} {own : String} {ix j : Nat}
    (hexec : p.tables.exec = Jvm.exec) (hb : c.code = cc) (hj : (own, ix, j) ∈ getsL) (hSt : St s) (hS : va_S Γ.2.2.2 s.heap H locs) (hown : s.vm.findClass own = some m.cls) (hts : ∀ w ∈ gT, w.before args s = true) (hdg : decode cc pc = .ok (.getstatic ix, 3))
    (kk : W p l e R s m args below meth c H locs cells slots Q (F0 m (pc + 3) ls (.ref (Γ.1 (1000 + j)) :: rest))) : W p l e R s m args below meth c H locs cells slots Q (F0 m pc ls rest) := by
  unfold getsL at hj
  simp only [List.mem_cons, Prod.mk.injEq, List.not_mem_nil, or_false] at hj
  rcases hj with ⟨rfl, rfl, rfl⟩ | ⟨rfl, rfl, rfl⟩ | ⟨rfl, rfl, rfl⟩ | ⟨rfl, rfl, rfl⟩ | ⟨rfl, rfl, rfl⟩ | ⟨rfl, rfl, rfl⟩
  · exact va_gets (ref := "KitePainter") hexec hb (hE.2.2.1 s 2 (by decide) hSt) hS hown (hts (Cond.fieldLink "KitePainter" 205 "KitePainter" "WAY_X" "[I") (by decide +kernel)) (fun _ h => h) hdg kk
  · exact va_gets (ref := "KitePainter") hexec hb (hE.2.2.1 s 3 (by decide) hSt) hS hown (hts (Cond.fieldLink "KitePainter" 212 "KitePainter" "WAY_Y" "[I") (by decide +kernel)) (fun _ h => h) hdg kk
  · exact va_getsN (ref := "KitePainter") (host := "KitePainter") hexec hb (hE.2.2.1 s 0 (by decide) hSt) hS hown ((hE.2.2.2.2.2 s (Cond.fieldLinkNest "KitePainter$RegionFinder" 62 "KitePainter" "NEIGHBOUR_X" "[I" "KitePainter") (by decide +kernel) hSt).use rfl) (fun _ h => h) hdg kk
  · exact va_getsN (ref := "KitePainter") (host := "KitePainter") hexec hb (hE.2.2.1 s 1 (by decide) hSt) hS hown ((hE.2.2.2.2.2 s (Cond.fieldLinkNest "KitePainter$RegionFinder" 65 "KitePainter" "NEIGHBOUR_Y" "[I" "KitePainter") (by decide +kernel) hSt).use rfl) (fun _ h => h) hdg kk
  · exact va_getsN (ref := "KitePainter") (host := "KitePainter") hexec hb (hE.2.2.1 s 0 (by decide) hSt) hS hown ((hE.2.2.2.2.2 s (Cond.fieldLinkNest "KitePainter$Sail" 132 "KitePainter" "NEIGHBOUR_X" "[I" "KitePainter") (by decide +kernel) hSt).use rfl) (fun _ h => h) hdg kk
  · exact va_getsN (ref := "KitePainter") (host := "KitePainter") hexec hb (hE.2.2.1 s 1 (by decide) hSt) hS hown ((hE.2.2.2.2.2 s (Cond.fieldLinkNest "KitePainter$Sail" 135 "KitePainter" "NEIGHBOUR_Y" "[I" "KitePainter") (by decide +kernel) hSt).use rfl) (fun _ h => h) hdg kk
theorem sn_iconst (hE : envOK Γ St) : k_iconst (Snd Γ l St NC) := by
  intro b M pc L S h Q n v hv hd kn p e s m args below meth c H locs ls hC hW hL
  obtain ⟨hx, hb, hr, hml, hown, hts, hlocks, hexc, hK, hSt⟩ := id hC
  obtain ⟨hP, hD, hS⟩ := id hW
  exact lv_iconst hx hb hd hv (kn p e s m args below meth c H locs ls hC hW hL)
theorem sn_bipush (hE : envOK Γ St) : k_bipush (Snd Γ l St NC) := by
  intro b M pc L S h Q n v hv hd kn p e s m args below meth c H locs ls hC hW hL
  obtain ⟨hx, hb, hr, hml, hown, hts, hlocks, hexc, hK, hSt⟩ := id hC
  obtain ⟨hP, hD, hS⟩ := id hW
  exact lv_bipush hx hb hd hv (kn p e s m args below meth c H locs ls hC hW hL)
theorem sn_sipush (hE : envOK Γ St) : k_sipush (Snd Γ l St NC) := by
  intro b M pc L S h Q n v hv hd kn p e s m args below meth c H locs ls hC hW hL
  obtain ⟨hx, hb, hr, hml, hown, hts, hlocks, hexc, hK, hSt⟩ := id hC
  obtain ⟨hP, hD, hS⟩ := id hW
  exact lv_sipush hx hb hd hv (kn p e s m args below meth c H locs ls hC hW hL)
theorem sn_ldcI (hE : envOK Γ St) : k_ldcI (Snd Γ l St NC) := by
  intro b M pc L S h Q ix v hv hd kn p e s m args below meth c H locs ls hC hW hL
  obtain ⟨hx, hb, hr, hml, hown, hts, hlocks, hexc, hK, hSt⟩ := id hC
  obtain ⟨hP, hD, hS⟩ := id hW
  exact lv_ldc hx hb hown (hts _ hv) hd (kn p e s m args below meth c H locs ls hC hW hL)
theorem sn_iload_n (hE : envOK Γ St) : k_iload_n (Snd Γ l St NC) := by
  intro b M pc L S h Q k i x hi hl hd kn p e s m args below meth c H locs ls hC hW hL
  obtain ⟨hx, hb, hr, hml, hown, hts, hlocks, hexc, hK, hSt⟩ := id hC
  obtain ⟨hP, hD, hS⟩ := id hW
  exact lv_iload_n hx hb hd hi (hL.get hl (by intro h; cases h)) (kn p e s m args below meth c H locs ls hC hW hL)
theorem sn_iload (hE : envOK Γ St) : k_iload (Snd Γ l St NC) := by
  intro b M pc L S h Q i x hl hd kn p e s m args below meth c H locs ls hC hW hL
  obtain ⟨hx, hb, hr, hml, hown, hts, hlocks, hexc, hK, hSt⟩ := id hC
  obtain ⟨hP, hD, hS⟩ := id hW
  exact lv_iload hx hb hd (hL.get hl (by intro h; cases h)) (kn p e s m args below meth c H locs ls hC hW hL)
theorem sn_aload_n (hE : envOK Γ St) : k_aload_n (Snd Γ l St NC) := by
  intro b M pc L S h Q k i x hi hl hd kn p e s m args below meth c H locs ls hC hW hL
  obtain ⟨hx, hb, hr, hml, hown, hts, hlocks, hexc, hK, hSt⟩ := id hC
  obtain ⟨hP, hD, hS⟩ := id hW
  exact lv_aload_n hx hb hd hi (hL.get hl (by intro h; cases h)) (kn p e s m args below meth c H locs ls hC hW hL)
theorem sn_aload (hE : envOK Γ St) : k_aload (Snd Γ l St NC) := by
  intro b M pc L S h Q i x hl hd kn p e s m args below meth c H locs ls hC hW hL
  obtain ⟨hx, hb, hr, hml, hown, hts, hlocks, hexc, hK, hSt⟩ := id hC
  obtain ⟨hP, hD, hS⟩ := id hW
  exact lv_aload hx hb hd (hL.get hl (by intro h; cases h)) (kn p e s m args below meth c H locs ls hC hW hL)
theorem sn_iadd (hE : envOK Γ St) : k_iadd (Snd Γ l St NC) := by
  intro b M pc L S h Q x y  hd kn p e s m args below meth c H locs ls hC hW hL
  obtain ⟨hx, hb, hr, hml, hown, hts, hlocks, hexc, hK, hSt⟩ := id hC
  obtain ⟨hP, hD, hS⟩ := id hW
  exact lv_iadd hx hb hd (kn p e s m args below meth c H locs ls hC hW hL)
theorem sn_isub (hE : envOK Γ St) : k_isub (Snd Γ l St NC) := by
  intro b M pc L S h Q x y  hd kn p e s m args below meth c H locs ls hC hW hL
  obtain ⟨hx, hb, hr, hml, hown, hts, hlocks, hexc, hK, hSt⟩ := id hC
  obtain ⟨hP, hD, hS⟩ := id hW
  exact lv_isub hx hb hd (kn p e s m args below meth c H locs ls hC hW hL)
theorem sn_imul (hE : envOK Γ St) : k_imul (Snd Γ l St NC) := by
  intro b M pc L S h Q x y  hd kn p e s m args below meth c H locs ls hC hW hL
  obtain ⟨hx, hb, hr, hml, hown, hts, hlocks, hexc, hK, hSt⟩ := id hC
  obtain ⟨hP, hD, hS⟩ := id hW
  exact lv_imul hx hb hd (kn p e s m args below meth c H locs ls hC hW hL)
theorem sn_iand (hE : envOK Γ St) : k_iand (Snd Γ l St NC) := by
  intro b M pc L S h Q x y  hd kn p e s m args below meth c H locs ls hC hW hL
  obtain ⟨hx, hb, hr, hml, hown, hts, hlocks, hexc, hK, hSt⟩ := id hC
  obtain ⟨hP, hD, hS⟩ := id hW
  exact lv_iand hx hb hd (kn p e s m args below meth c H locs ls hC hW hL)
theorem sn_ior (hE : envOK Γ St) : k_ior (Snd Γ l St NC) := by
  intro b M pc L S h Q x y  hd kn p e s m args below meth c H locs ls hC hW hL
  obtain ⟨hx, hb, hr, hml, hown, hts, hlocks, hexc, hK, hSt⟩ := id hC
  obtain ⟨hP, hD, hS⟩ := id hW
  exact lv_ior hx hb hd (kn p e s m args below meth c H locs ls hC hW hL)
theorem sn_ishl (hE : envOK Γ St) : k_ishl (Snd Γ l St NC) := by
  intro b M pc L S h Q x y  hd kn p e s m args below meth c H locs ls hC hW hL
  obtain ⟨hx, hb, hr, hml, hown, hts, hlocks, hexc, hK, hSt⟩ := id hC
  obtain ⟨hP, hD, hS⟩ := id hW
  exact lv_ishl hx hb hd (kn p e s m args below meth c H locs ls hC hW hL)
theorem sn_ishr (hE : envOK Γ St) : k_ishr (Snd Γ l St NC) := by
  intro b M pc L S h Q x y  hd kn p e s m args below meth c H locs ls hC hW hL
  obtain ⟨hx, hb, hr, hml, hown, hts, hlocks, hexc, hK, hSt⟩ := id hC
  obtain ⟨hP, hD, hS⟩ := id hW
  exact lv_ishr hx hb hd (kn p e s m args below meth c H locs ls hC hW hL)
theorem sn_idiv (hE : envOK Γ St) : k_idiv (Snd Γ l St NC) := by
  intro b M pc L S h Q x y hn hd kn p e s m args below meth c H locs ls hC hW hL
  obtain ⟨hx, hb, hr, hml, hown, hts, hlocks, hexc, hK, hSt⟩ := id hC
  obtain ⟨hP, hD, hS⟩ := id hW
  exact lv_idiv hx hb hd hn (kn p e s m args below meth c H locs ls hC hW hL)
theorem sn_irem (hE : envOK Γ St) : k_irem (Snd Γ l St NC) := by
  intro b M pc L S h Q x y hn hd kn p e s m args below meth c H locs ls hC hW hL
  obtain ⟨hx, hb, hr, hml, hown, hts, hlocks, hexc, hK, hSt⟩ := id hC
  obtain ⟨hP, hD, hS⟩ := id hW
  exact lv_irem hx hb hd hn (kn p e s m args below meth c H locs ls hC hW hL)
theorem sn_ineg (hE : envOK Γ St) : k_ineg (Snd Γ l St NC) := by
  intro b M pc L S h Q x  hd kn p e s m args below meth c H locs ls hC hW hL
  obtain ⟨hx, hb, hr, hml, hown, hts, hlocks, hexc, hK, hSt⟩ := id hC
  obtain ⟨hP, hD, hS⟩ := id hW
  exact lv_ineg hx hb hd (kn p e s m args below meth c H locs ls hC hW hL)
theorem sn_iushr (hE : envOK Γ St) : k_iushr (Snd Γ l St NC) := by
  intro b M pc L S h Q x y v hv hd kn p e s m args below meth c H locs ls hC hW hL
  obtain ⟨hx, hb, hr, hml, hown, hts, hlocks, hexc, hK, hSt⟩ := id hC
  obtain ⟨hP, hD, hS⟩ := id hW
  exact lv_iushr hx hb hd hv (kn p e s m args below meth c H locs ls hC hW hL)
theorem sn_i2b (hE : envOK Γ St) : k_i2b (Snd Γ l St NC) := by
  intro b M pc L S h Q x v hv hd kn p e s m args below meth c H locs ls hC hW hL
  obtain ⟨hx, hb, hr, hml, hown, hts, hlocks, hexc, hK, hSt⟩ := id hC
  obtain ⟨hP, hD, hS⟩ := id hW
  exact lv_i2b hx hb hd hv (kn p e s m args below meth c H locs ls hC hW hL)
theorem sn_dup (hE : envOK Γ St) : k_dup (Snd Γ l St NC) := by
  intro b M pc L S h Q v hv hd kn p e s m args below meth c H locs ls hC hW hL
  obtain ⟨hx, hb, hr, hml, hown, hts, hlocks, hexc, hK, hSt⟩ := id hC
  obtain ⟨hP, hD, hS⟩ := id hW
  exact lv_dup hx hb hd (by rw [trV_cat]; exact hv) (kn p e s m args below meth c H locs ls hC hW hL)
theorem sn_dup2 (hE : envOK Γ St) : k_dup2 (Snd Γ l St NC) := by
  intro b M pc L S h Q v w hv hw hd kn p e s m args below meth c H locs ls hC hW hL
  obtain ⟨hx, hb, hr, hml, hown, hts, hlocks, hexc, hK, hSt⟩ := id hC
  obtain ⟨hP, hD, hS⟩ := id hW
  exact lv_dup2_11 hx hb hd (by rw [trV_cat]; exact hv) (by rw [trV_cat]; exact hw) (kn p e s m args below meth c H locs ls hC hW hL)
theorem sn_pop (hE : envOK Γ St) : k_pop (Snd Γ l St NC) := by
  intro b M pc L S h Q v hv hd kn p e s m args below meth c H locs ls hC hW hL
  obtain ⟨hx, hb, hr, hml, hown, hts, hlocks, hexc, hK, hSt⟩ := id hC
  obtain ⟨hP, hD, hS⟩ := id hW
  exact lv_pop hx hb hd (by rw [trV_cat]; exact hv) (kn p e s m args below meth c H locs ls hC hW hL)
theorem sn_fconst0 (hE : envOK Γ St) : k_fconst0 (Snd Γ l St NC) := by
  intro b M pc L S h Q   hd kn p e s m args below meth c H locs ls hC hW hL
  obtain ⟨hx, hb, hr, hml, hown, hts, hlocks, hexc, hK, hSt⟩ := id hC
  obtain ⟨hP, hD, hS⟩ := id hW
  exact lv_fconst0 hx hb hd (kn p e s m args below meth c H locs ls hC hW hL)
theorem sn_i2f (hE : envOK Γ St) : k_i2f (Snd Γ l St NC) := by
  intro b M pc L S h Q x  hd kn p e s m args below meth c H locs ls hC hW hL
  obtain ⟨hx, hb, hr, hml, hown, hts, hlocks, hexc, hK, hSt⟩ := id hC
  obtain ⟨hP, hD, hS⟩ := id hW
  exact lv_i2f hx hb hd (kn p e s m args below meth c H locs ls hC hW hL)
theorem sn_fdiv (hE : envOK Γ St) : k_fdiv (Snd Γ l St NC) := by
  intro b M pc L S h Q x y hn hd kn p e s m args below meth c H locs ls hC hW hL
  obtain ⟨hx, hb, hr, hml, hown, hts, hlocks, hexc, hK, hSt⟩ := id hC
  obtain ⟨hP, hD, hS⟩ := id hW
  exact lv_fdiv hx hb hd hn (kn p e s m args below meth c H locs ls hC hW hL)
theorem sn_getf (hE : envOK Γ St) : k_getf NC (Snd Γ l St NC) := by
  intro b M pc L S h Q ci ix k C T N ty a fs v hc hk hw hn ha hv hd kn p e s m args below meth c H locs ls hC hW hL
  obtain ⟨hx, hb, hr, hml, hown, hts, hlocks, hexc, hK, hSt⟩ := id hC
  obtain ⟨hP, hD, hS⟩ := id hW
  exact va_get (D := Γ.2.1) (ci := ci) (C := C) (T := T) (N := N) hx hb hts hc.2.1 hown hK hP a (ws_inr hn ha) hc.1 k hk (hts _ hw) (fun _ h9 => h9) (by rw [List.getElem?_map, hv]; rfl) hd (kn p e s m args below meth c H locs ls hC hW hL)
theorem sn_iald (hE : envOK Γ St) : k_iald NC (Snd Γ l St NC) := by
  intro b M pc L S h Q a n f i hn ha hi hd kn p e s m args below meth c H locs ls hC hW hL
  obtain ⟨hx, hb, hr, hml, hown, hts, hlocks, hexc, hK, hSt⟩ := id hC
  obtain ⟨hP, hD, hS⟩ := id hW
  exact va_iald hx hb hK hP a 0 (ws_i hn ha) rfl hi hd (kn p e s m args below meth c H locs ls hC hW hL)
theorem sn_bald (hE : envOK Γ St) : k_bald NC (Snd Γ l St NC) := by
  intro b M pc L S h Q a n f i hn ha hi hd kn p e s m args below meth c H locs ls hC hW hL
  obtain ⟨hx, hb, hr, hml, hown, hts, hlocks, hexc, hK, hSt⟩ := id hC
  obtain ⟨hP, hD, hS⟩ := id hW
  exact va_bald hx hb hK hP a 1 (ws_i hn ha) rfl hi hd (kn p e s m args below meth c H locs ls hC hW hL)
theorem sn_zald (hE : envOK Γ St) : k_zald NC (Snd Γ l St NC) := by
  intro b M pc L S h Q a n f i hn ha hi hd kn p e s m args below meth c H locs ls hC hW hL
  obtain ⟨hx, hb, hr, hml, hown, hts, hlocks, hexc, hK, hSt⟩ := id hC
  obtain ⟨hP, hD, hS⟩ := id hW
  exact va_zald hx hb hK hP a 2 (ws_i hn ha) rfl hi hd (kn p e s m args below meth c H locs ls hC hW hL)
theorem sn_aald (hE : envOK Γ St) : k_aald NC (Snd Γ l St NC) := by
  intro b M pc L S h Q a n f i q hn ha hi hq hd kn p e s m args below meth c H locs ls hC hW hL
  obtain ⟨hx, hb, hr, hml, hown, hts, hlocks, hexc, hK, hSt⟩ := id hC
  obtain ⟨hP, hD, hS⟩ := id hW
  exact am_aald 3 (ws_q hn ha) hx hb hK hP rfl hi hq hd rfl (kn p e s m args below meth c H locs ls hC hW hL)
theorem sn_aalg (hE : envOK Γ St) : k_aalg NC (Snd Γ l St NC) := by
  intro b M pc L S h Q a n f i q hn ha hi hq hd kn p e s m args below meth c H locs ls hC hW hL
  obtain ⟨hx, hb, hr, hml, hown, hts, hlocks, hexc, hK, hSt⟩ := id hC
  obtain ⟨hP, hD, hS⟩ := id hW
  exact am_aald 4 (ws_q hn ha) hx hb hK hP rfl hi hq hd rfl (kn p e s m args below meth c H locs ls hC hW hL)
theorem sn_alen (hE : envOK Γ St) : k_alen NC (Snd Γ l St NC) := by
  intro b M pc L S h Q a n t f v hn ha ht hv hd kn p e s m args below meth c H locs ls hC hW hL
  obtain ⟨hx, hb, hr, hml, hown, hts, hlocks, hexc, hK, hSt⟩ := id hC
  obtain ⟨hP, hD, hS⟩ := id hW
  exact am_alen (ws_i hn ha) hx hb hK hP ht hv hd (kn p e s m args below meth c H locs ls hC hW hL)
theorem sn_tld (hE : envOK Γ St) : k_tld (Snd Γ l St NC) := by
  intro b M pc L S h Q j i v hj hi hv hd kn p e s m args below meth c H locs ls hC hW hL
  obtain ⟨hx, hb, hr, hml, hown, hts, hlocks, hexc, hK, hSt⟩ := id hC
  obtain ⟨hP, hD, hS⟩ := id hW
  exact va_ti hx hb (hE.2.2.2.1 s j hj hSt) hS hi (congrArg Value.int hv) hd (kn p e s m args below meth c H locs ls hC hW hL)
theorem sn_tlen (hE : envOK Γ St) : k_tlen (Snd Γ l St NC) := by
  intro b M pc L S h Q j v hj hv hd kn p e s m args below meth c H locs ls hC hW hL
  obtain ⟨hx, hb, hr, hml, hown, hts, hlocks, hexc, hK, hSt⟩ := id hC
  obtain ⟨hP, hD, hS⟩ := id hW
  exact va_tlen hx hb (hE.2.2.2.1 s j hj hSt) hS (by rw [hv]; rfl) hd (kn p e s m args below meth c H locs ls hC hW hL)
theorem sn_gets (hE : envOK Γ St) : k_gets (Snd Γ l St NC) := by
  intro b M pc L S h Q ix j hj hd kn p e s m args below meth c H locs ls hC hW hL
  obtain ⟨hx, hb, hr, hml, hown, hts, hlocks, hexc, hK, hSt⟩ := id hC
  obtain ⟨hP, hD, hS⟩ := id hW
  exact am_gets hE hx hb hj hSt hS hown hts hd (kn p e s m args below meth c H locs ls hC hW hL)
theorem sn_ldcS (hE : envOK Γ St) : k_ldcS (Snd Γ l St NC) := by
  intro b M pc L S h Q ix j tx hj hd kn p e s m args below meth c H locs ls hC hW hL
  obtain ⟨hx, hb, hr, hml, hown, hts, hlocks, hexc, hK, hSt⟩ := id hC
  obtain ⟨hP, hD, hS⟩ := id hW
  exact va_ldcS hx hb hown (hE.2.2.2.2.1 s _ _ _ _ hj hSt) hd (kn p e s m args below meth c H locs ls hC hW hL)
end SN

