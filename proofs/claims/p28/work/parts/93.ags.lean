/-! AG: soundness -/
/-- what AG needs of a state beyond AM's: texts, the script, arrays over arrays, the law's own nest mate -/
def envA (Γ : en) (St : State → Prop) (sc : Nat × (Nat → Int32)) : Prop :=
  (∀ (s : State) (own : String) (ix j : Nat) (tx : String), (own, ix, j, tx) ∈ strG → St s → vk_R own ix tx (Γ.1 (2000 + j)) s) ∧
  (∀ s : State, St s → va_X (Γ.1 3000) sc.1 sc.2 s s.heap ∧ Γ.1 3000 < s.heap.size ∧ ¬ Γ.2.2.2 (Γ.1 3000)) ∧
  (∀ s : State, St s → va_Z "java/lang/String" "COMPACT_STRINGS" "Z" (.int 1) Γ.2.2.2 s s.heap) ∧
  (∀ s : State, St s → va_AOA (.object "java/lang/String") s) ∧
  (∀ s : State, St s → va_AO "KitePainterLaw$Cell" s ∧ va_AO "KitePainterLaw$Kite" s ∧ va_AO "java/lang/String" s) ∧
  (∀ s : State, St s → va_AOA .int s) ∧
  (∀ s : State, St s → va_Nw (Cond.methodLinkNest "KitePainterLaw" 116 yX7_init "KitePainterLaw") s) ∧
  (∀ s : State, St s → strO (fun j => Γ.1 (2000 + j)) (fun j => Γ.1 (4000 + j)) Γ.2.2.2 s s.heap)
def CxG (Γ : en) (St : State → Prop) (M : mt) (p : Program) (s : State) (m : MethodId) (args : Array Value) (meth : Method) (c : Code) : Prop := Cx Γ St M p s m args meth c ∧ meth.name = M.1.name ∧ ∀ q, s.heap.size ≤ q → Γ.2.2.2 q
/-- an end with a value of any kind -/
def qvG {S : Type} (post : Value → S → Prop) (B : S → State → Prop) (A : Nat → Prop) : Array Value → State → Outcome → State → Prop := fun _ st oc t => (∃ (v : Value) (w : S), oc = .returned (some v) ∧ post v w ∧ B w t) ∧ va_F A st t
def QcA (Γ : en) (M : mt) (Q : qg) : Array Value → State → Outcome → State → Prop := match M.2.2.2.1 with
  | none => va_Qv (fun w : hp × hg => Q .null w.1 w.2) (fun w t => WG Γ w.1 w.2 t.heap) Γ.2.2.2
  | some _ => qvG (fun (v : Value) (w : hp × hg) => Q v w.1 w.2) (fun w t => WG Γ w.1 w.2 t.heap) Γ.2.2.2
theorem QcA_none {Γ : en} {M : mt} {Q : qg} (h : M.2.2.2.1 = none) : QcA Γ M Q = va_Qv (fun w : hp × hg => Q .null w.1 w.2) (fun w t => WG Γ w.1 w.2 t.heap) Γ.2.2.2 := by
  unfold QcA
  rw [h]
theorem QcA_some {Γ : en} {M : mt} {Q : qg} (h : M.2.2.2.1 ≠ none) : QcA Γ M Q = qvG (fun (v : Value) (w : hp × hg) => Q v w.1 w.2) (fun w t => WG Γ w.1 w.2 t.heap) Γ.2.2.2 := by
  unfold QcA
  cases hm : M.2.2.2.1 with
  | none => exact absurd hm h
  | some t => rfl
def SndG (Γ : en) (l : Launch) (St : State → Prop) : xg := fun M pc L S c sl u h Q =>
  ∀ (k1 n1 : Nat) (p : Program) (e : Env) (s : State) (m : MethodId) (args : Array Value) (below : List Frame) (meth : Method) (c0 : Code) (H : Heap) (locs : List Loc) (ls : Array Slot) (cells slots : Nat),
    CxG Γ St M p s m args meth c0 → WG Γ u h H → va_S Γ.2.2.2 s.heap H locs → LG ls M.2.2.1 L → cells + c ≤ k1 → slots + sl ≤ n1 → W p l e (rmG M k1 n1) s m args below meth c0 H locs cells slots (MQ below (QcA Γ M Q) args s k1 n1 Γ.2.2.2) (F0 m pc ls S)
theorem va_callg {p : Program} {l : Launch} {e : Env} {R : Room} {s : State} {m : MethodId} {args : Array Value} {below : List Frame} {meth : Method} {c : Code} {H : Heap} {locs : List Loc} {cells slots : Nat} {Q : State → Prop} {pc : Nat} {ls : Array Slot} {rest st0 : List Value} {a : Array Value} {A0 A1 : Nat → Prop} {H0 : Heap} {mc ms : Nat} {free : Addr → Prop} {S : Type} {post : Value → S → Prop} {B : S → State → Prop} (hr : va_Run p l e R s m args below meth c H locs cells slots mc ms (F0 m pc ls st0) rest (qvG post B A1 a) free) (hS : va_S A0 H0 H locs) (hA : ∀ q, q < H.size → A1 q → A0 q) (hf : ∀ q, free q → A0 q)
    (kk : ∀ (r : Value) (u : S) (t : State) (H1 : Heap) (locs1 : List Loc), t.heap = H1 → s.vm.Alike t.vm → post r u → B u t → H.size ≤ H1.size → (∀ q : Nat, q < H.size → ¬ A1 q → H1[q]? = H[q]?) → va_S A0 H0 H1 locs1 → W p l e R s m args below meth c H1 locs1 (cells + mc) (slots + ms) Q (F0 m (pc + 3) ls (r :: rest))) : W p l e R s m args below meth c H locs cells slots Q (F0 m pc ls st0) := by
  intro T hT X
  obtain ⟨v, st₀, t, T', L, h0, X', hL, e1, e2, ⟨⟨r, u, hv, hp, hb⟩, hz, hk⟩, st⟩ := hr T hT X
  cases hv
  rw [h0] at hz hk
  obtain ⟨t2, a1, b1⟩ := kk r u t T'.heap (locs ++ L) e1.symm (by rw [← e2]; exact X'.warmed.alike) hp hb (by rw [e1]; exact hz) (fun q h1 h2 => by rw [e1]; exact hk q h1 h2)
    ⟨Nat.le_trans hS.1 (by rw [e1]; exact hz), fun q h1 h2 => by rw [e1, hk q (Nat.lt_of_lt_of_le h1 hS.1) (fun z => h2 (hA q (Nat.lt_of_lt_of_le h1 hS.1) z))]; exact hS.2.1 q h1 h2, fun q hq => by
      rcases List.mem_append.mp hq with h | h
      · exact hS.2.2 q h
      · exact hf _ (hL q h)⟩ T' rfl X'
  exact ⟨t2, st t2 a1, b1⟩
/-- a method's start -/
def PcA (Γ : en) (St : State → Prop) (u : hp) (h : hg) (As : List Value) : Array Value → State → Prop := va_Pc As (fun U => WG Γ u h U.heap ∧ (∀ q, U.heap.size ≤ q → Γ.2.2.2 q) ∧ va_K Γ.2.1 vwCl (tysOf Γ) U ∧ St U)
theorem catG {S : List Value} (h : catS S) : (S.map fun v => v.category).sum ≤ 8 := h
section SG
variable {Γ : en} {l : Launch} {St : State → Prop} {sc : Nat × (Nat → Int32)}
theorem PcA.blind (hE : envOK Γ St) {u : hp} {h : hg} {As : List Value} : FrameBlind (PcA Γ St u h As) := by
  intro a U g mk q
  obtain ⟨q0, qP, qA, qK, qS⟩ := q
  exact ⟨q0, qP, qA, va_K.moved (u := U) (U := U.calling g mk a) (Vm.Alike.refl U.vm) qK, hE.2.1 U g mk a qS⟩
theorem PcA.mk (hE : envOK Γ St) {u : hp} {h : hg} {As : List Value} {s : State} {H : Heap} {locs : List Loc} (hW : WG Γ u h H) (hS : va_S Γ.2.2.2 s.heap H locs) (hK : va_K Γ.2.1 vwCl (tysOf Γ) s) (hSt : St s) (hA0 : ∀ q, s.heap.size ≤ q → Γ.2.2.2 q) : ∀ U : State, U.heap = H → s.WarmedH U.vm → PcA Γ St u h As As.toArray U := fun U hU hw => ⟨rfl, by rw [hU]; exact hW, fun q hq => hA0 q (Nat.le_trans hS.1 (by rw [hU] at hq; exact hq)), va_K.moved hw.alike hK, hE.1 s U H locs hSt hS hU hw⟩
/-- what AG says of a method's entry is a contract of the method -/
theorem sg_met (hE : envOK Γ St) {Y : mt} {As : List Value} {cy sy : Nat} {u : hp} {h : hg} {Q : qg} (hpl : plainName Y.1.cls = true) (hc : cat1 As) (hn : As.length ≤ Y.2.2.1) (k : SndG Γ l St Y 0 (padG Y.2.2.1 As) [] cy sy u h Q) : Met l Y.1 (wsM Y) (rmG Y cy sy) (PcA Γ St u h As) (QcA Γ Y Q) cy sy Γ.2.2.2 := by
  refine Met.ofW (cc := Y.2.1) (maxL := Y.2.2.1) (ret := Y.2.2.2.1) hpl rfl ?_
  intro p e s m args below meth c s₁ B hml hv
  obtain ⟨rfl, hW, hA, hK, hSt⟩ := hv
  have hts := atoms_spec (ws := wsM Y) B.pre
  have ht : ∀ x ∈ c.exceptionTable.toList, False := by
    obtain ⟨meth9, c9, h1, h2, -, -, -, -, h7, -⟩ := Cond.code_spec B.named (hts _ List.mem_cons_self)
    cases Option.some.inj (h1.symm.trans B.method)
    cases Option.some.inj (h2.symm.trans (Stand.of_body B).code)
    intro x hx
    rw [Array.isEmpty_iff.mp h7] at hx
    cases hx
  rw [lg_entry_eq]
  exact k cy sy p e s m _ below meth c s.heap [] _ 0 0 ⟨⟨B.exec, B.bytes, B.returns, hml, findClass_of_methodNamed B.named, fun w hw => hts w (List.mem_cons_of_mem _ hw), B.notSynchronized, ht, hK, hSt⟩, (name_of_methodNamed B.named B.method).1, hA⟩ hW va_S.rf (entry_G hc hn) (by omega) (by omega)
/-- the class's part of the world, for its calls: its own cells and what is new may be written -/
def cutE (Γ : en) (z : Nat) : en := (Γ.1, Γ.2.1, Γ.2.2.1, fun q => (∃ i, i < 112 ∧ Γ.1 i = q) ∨ z ≤ q)
def cutS (St : State → Prop) (z : Nat) : State → Prop := fun s => St s ∧ z ≤ s.heap.size
theorem va_S.wk {A B : Nat → Prop} {H0 H : Heap} {locs : List Loc} (h : va_S A H0 H locs) (hAB : ∀ q, A q → B q) : va_S B H0 H locs := ⟨h.1, fun q h1 h2 => h.2.1 q h1 (fun z => h2 (hAB q z)), fun l hl => hAB _ (h.2.2 l hl)⟩
theorem cut_ok (hE : envOK Γ St) {z : Nat} (hsub : ∀ q, (cutE Γ z).2.2.2 q → Γ.2.2.2 q) : envOK (cutE Γ z) (cutS St z) :=
  ⟨fun s U H locs hs hS hU hw => ⟨hE.1 s U H locs hs.1 (hS.wk hsub) hU hw, by rw [hU]; exact Nat.le_trans hs.2 hS.1⟩,
   fun U g mk a hU => ⟨hE.2.1 U g mk a hU.1, hU.2⟩,
   fun s j hj hs => (hE.2.2.1 s j hj hs.1).narrow hsub,
   fun s j hj hs => (hE.2.2.2.1 s j hj hs.1).narrow hsub,
   fun s own ix j tx hm hs => hE.2.2.2.2.1 s own ix j tx hm hs.1,
   fun s w hw hs => hE.2.2.2.2.2 s w hw hs.1⟩
theorem strO_narrow {adK adV : Nat → Nat} {A B : Nat → Prop} {U : State} {H : Heap} (h : strO adK adV A U H) (hAB : ∀ q, B q → A q) : strO adK adV B U H := fun i hi => ⟨(h i hi).1.narrow hAB, (h i hi).2.1.narrow hAB, (h i hi).2.2.1.narrow hAB, (h i hi).2.2.2.narrow hAB⟩
theorem cut_X {adV : Nat → Nat} (hX : envX Γ St adV) {z : Nat} (hsub : ∀ q, (cutE Γ z).2.2.2 q → Γ.2.2.2 q) : envX (cutE Γ z) (cutS St z) adV :=
  ⟨fun s hs q hq => Or.inr (Nat.le_trans hs.2 hq), fun s hs => strO_narrow (hX.2.1 s hs.1) hsub, fun s hs => (hX.2.2.1 s hs.1).narrow hsub, fun s hs => (hX.2.2.2.1 s hs.1).narrow hsub, fun s hs => (hX.2.2.2.2.1 s hs.1).narrow hsub, fun s hs => (hX.2.2.2.2.2.1 s hs.1).narrow hsub, fun s hs => hX.2.2.2.2.2.2 s hs.1⟩
theorem cut_L (hLn : envL St) {z : Nat} : envL (cutS St z) := fun s hs => hLn s hs.1
theorem no_ref {ad : Nat → Nat} : ∀ {As : List Value}, (∀ v ∈ As, ∀ a, v ≠ .ref a) → As.map (trV ad) = As
  | [], _ => rfl
  | v :: r, h => by
    rw [List.map_cons, no_ref (fun w hw => h w (List.mem_cons_of_mem _ hw))]
    congr 1
    have h1 := h v List.mem_cons_self
    cases v <;> first | rfl | exact absurd rfl (h1 _)
theorem cut_D {u : hp} {h : hg} {H : Heap} (hW : WG Γ u h H) {z : Nat} : va_D (cutE Γ z).2.2.2 (wsOf (cutE Γ z) 112 u) := ⟨hW.2.1.1, fun k q hq => Or.inl (by
    have hi : k < 112 := by have := (List.getElem?_eq_some_iff.mp hq).1; rw [ws_length] at this; exact this
    rw [ws_get hi] at hq
    cases hq
    exact ⟨k, hi, rfl⟩)⟩
/-- behind a call of the class: the law's own cells are as they were -/
theorem cut_back {u u1 : hp} {h : hg} {H H1 : Heap} (hW : WG Γ u h H) (hP : va_P Γ.2.1 vwCl (wsOf Γ 112 u1) H1) (hD : va_D (cutE Γ H.size).2.2.2 (wsOf Γ 112 u1)) (hsub : ∀ q, (cutE Γ H.size).2.2.2 q → Γ.2.2.2 q) (hk : ∀ q : Nat, q < H.size → ¬ (cutE Γ H.size).2.2.2 q → H1[q]? = H[q]?) : WG Γ u1 h H1 := by
  refine ⟨hP, hD.weaken (fun k q _ z => hsub q.1 z), fun a e ha => ?_⟩
  have h1 := hW.2.2 a e ha
  refine ⟨h1.1.kept (hk a h1.1.lt (fun z => ?_)), h1.2⟩
  rcases z with ⟨i, hi, e9⟩ | z
  · exact h1.2.2 i hi e9
  · have := h1.1.lt
    simp only at this
    omega
theorem cut_sub {u : hp} {h : hg} {H : Heap} {s : State} {locs : List Loc} (hW : WG Γ u h H) (hS : va_S Γ.2.2.2 s.heap H locs) (hA0 : ∀ q, s.heap.size ≤ q → Γ.2.2.2 q) : ∀ q, (cutE Γ H.size).2.2.2 q → Γ.2.2.2 q := by
  intro q hq
  rcases hq with ⟨i, hi, rfl⟩ | hq
  · exact hW.2.1.2 i _ (ws_get hi)
  · exact hA0 q (Nat.le_trans hS.1 hq)
theorem sel_priv {x y : MethodName} {s : State} {args : Array Value} {n : Nat} {C : String} (hy : y.cls ≠ "java/lang/invoke/MethodHandle" ∧ y.cls ≠ "java/lang/invoke/VarHandle") (hxy : x.cls = y.cls)
    (hins : (Cond.instantiable C n).before args s = true) (hX : (Cond.selects C x x).before args s = true) (hXi : (Cond.instanceMethod x).before args s = true) (hpriv : (Cond.privateMethod y).before args s = true) (hinst : (Cond.instanceMethod y).before args s = true) :
    (Cond.selects C y y).before args s = true := by
  obtain ⟨c, k, hc, hk, -, hniab, -, -⟩ := Cond.instantiable_spec hins
  obtain ⟨mx, methX, hnx, hmx, -, -⟩ := Cond.instanceMethod_spec hXi
  obtain ⟨mk, methM, hnamed, hmethM, -, -⟩ := Cond.instanceMethod_spec hinst
  have hfound : s.methodFound? y.cls y.name y.desc = some mk := State.methodFound?_of_named hnamed hy
  have hfx : s.methodFound? x.cls x.name x.desc = some mx := State.methodFound?_of_named hnx (by rw [hxy]; exact hy)
  have hcls : mk.cls = mx.cls := by
    have h1 := findClass_of_methodNamed hnamed
    have h2 := findClass_of_methodNamed hnx
    rw [hxy] at h2
    exact Option.some.inj (h1.symm.trans h2)
  have hsel : selectMethod {} s.vm c mk = .method mk := selectMethod_private hmethM (Cond.privateMethod_at hpriv mk methM hnamed hmethM)
  simp only [Cond.before, Cond.holds, Cond.value, hc, hfx, hnx] at hX
  simp only [Cond.before, Cond.holds, Cond.value, hc, hfound, hnamed, hsel, hcls]
  simp at hX
  simp
  split at hX
  · exact (Bool.and_eq_true_iff.mp hX).2
  · cases hX
theorem sg_iconst (hE : envOK Γ St) {adV : Nat → Nat} (hX : envX Γ St adV) (hl9 : l.stackTraces = false) (hA : envA Γ St sc) (hLn : envL St) : g_iconst (SndG Γ l St) := by
  intro M pc L S c sl u h Q n v hv hd kn k1 n1 p e s m args below meth c0 H locs ls cells slots hC hW hS hL hc1 hs1
  obtain ⟨⟨hx, hb, hrt, hm9, hown, hts, hlocks, hexc, hK, hSt⟩, hnm, hA0⟩ := id hC
  exact lv_iconst hx hb hd hv (kn k1 n1 p e s m args below meth c0 H locs ls cells slots hC hW hS hL hc1 hs1)
theorem sg_bipush (hE : envOK Γ St) {adV : Nat → Nat} (hX : envX Γ St adV) (hl9 : l.stackTraces = false) (hA : envA Γ St sc) (hLn : envL St) : g_bipush (SndG Γ l St) := by
  intro M pc L S c sl u h Q n v hv hd kn k1 n1 p e s m args below meth c0 H locs ls cells slots hC hW hS hL hc1 hs1
  obtain ⟨⟨hx, hb, hrt, hm9, hown, hts, hlocks, hexc, hK, hSt⟩, hnm, hA0⟩ := id hC
  exact lv_bipush hx hb hd hv (kn k1 n1 p e s m args below meth c0 H locs ls cells slots hC hW hS hL hc1 hs1)
theorem sg_sipush (hE : envOK Γ St) {adV : Nat → Nat} (hX : envX Γ St adV) (hl9 : l.stackTraces = false) (hA : envA Γ St sc) (hLn : envL St) : g_sipush (SndG Γ l St) := by
  intro M pc L S c sl u h Q n v hv hd kn k1 n1 p e s m args below meth c0 H locs ls cells slots hC hW hS hL hc1 hs1
  obtain ⟨⟨hx, hb, hrt, hm9, hown, hts, hlocks, hexc, hK, hSt⟩, hnm, hA0⟩ := id hC
  exact lv_sipush hx hb hd hv (kn k1 n1 p e s m args below meth c0 H locs ls cells slots hC hW hS hL hc1 hs1)
theorem sg_ldcI (hE : envOK Γ St) {adV : Nat → Nat} (hX : envX Γ St adV) (hl9 : l.stackTraces = false) (hA : envA Γ St sc) (hLn : envL St) : g_ldcI (SndG Γ l St) := by
  intro M pc L S c sl u h Q ix v hv hd kn k1 n1 p e s m args below meth c0 H locs ls cells slots hC hW hS hL hc1 hs1
  obtain ⟨⟨hx, hb, hrt, hm9, hown, hts, hlocks, hexc, hK, hSt⟩, hnm, hA0⟩ := id hC
  exact lv_ldc hx hb hown (hts _ hv) hd (kn k1 n1 p e s m args below meth c0 H locs ls cells slots hC hW hS hL hc1 hs1)
theorem sg_ldc2 (hE : envOK Γ St) {adV : Nat → Nat} (hX : envX Γ St adV) (hl9 : l.stackTraces = false) (hA : envA Γ St sc) (hLn : envL St) : g_ldc2 (SndG Γ l St) := by
  intro M pc L S c sl u h Q ix v hv hd kn k1 n1 p e s m args below meth c0 H locs ls cells slots hC hW hS hL hc1 hs1
  obtain ⟨⟨hx, hb, hrt, hm9, hown, hts, hlocks, hexc, hK, hSt⟩, hnm, hA0⟩ := id hC
  exact lv_ldc2 hx hb hown (hts _ hv) hd (kn k1 n1 p e s m args below meth c0 H locs ls cells slots hC hW hS hL hc1 hs1)
theorem sg_lconst (hE : envOK Γ St) {adV : Nat → Nat} (hX : envX Γ St adV) (hl9 : l.stackTraces = false) (hA : envA Γ St sc) (hLn : envL St) : g_lconst (SndG Γ l St) := by
  intro M pc L S c sl u h Q n v hv hd kn k1 n1 p e s m args below meth c0 H locs ls cells slots hC hW hS hL hc1 hs1
  obtain ⟨⟨hx, hb, hrt, hm9, hown, hts, hlocks, hexc, hK, hSt⟩, hnm, hA0⟩ := id hC
  exact lv_lconst hx hb hd hv (kn k1 n1 p e s m args below meth c0 H locs ls cells slots hC hW hS hL hc1 hs1)
theorem sg_null (hE : envOK Γ St) {adV : Nat → Nat} (hX : envX Γ St adV) (hl9 : l.stackTraces = false) (hA : envA Γ St sc) (hLn : envL St) : g_null (SndG Γ l St) := by
  intro M pc L S c sl u h Q   hd kn k1 n1 p e s m args below meth c0 H locs ls cells slots hC hW hS hL hc1 hs1
  obtain ⟨⟨hx, hb, hrt, hm9, hown, hts, hlocks, hexc, hK, hSt⟩, hnm, hA0⟩ := id hC
  exact lv_null hx hb hd (kn k1 n1 p e s m args below meth c0 H locs ls cells slots hC hW hS hL hc1 hs1)
theorem sg_iload_n (hE : envOK Γ St) {adV : Nat → Nat} (hX : envX Γ St adV) (hl9 : l.stackTraces = false) (hA : envA Γ St sc) (hLn : envL St) : g_iload_n (SndG Γ l St) := by
  intro M pc L S c sl u h Q k i x hi hl hd kn k1 n1 p e s m args below meth c0 H locs ls cells slots hC hW hS hL hc1 hs1
  obtain ⟨⟨hx, hb, hrt, hm9, hown, hts, hlocks, hexc, hK, hSt⟩, hnm, hA0⟩ := id hC
  exact lv_iload_n hx hb hd hi (hL.get hl rfl) (kn k1 n1 p e s m args below meth c0 H locs ls cells slots hC hW hS hL hc1 hs1)
theorem sg_iload (hE : envOK Γ St) {adV : Nat → Nat} (hX : envX Γ St adV) (hl9 : l.stackTraces = false) (hA : envA Γ St sc) (hLn : envL St) : g_iload (SndG Γ l St) := by
  intro M pc L S c sl u h Q i x hl hd kn k1 n1 p e s m args below meth c0 H locs ls cells slots hC hW hS hL hc1 hs1
  obtain ⟨⟨hx, hb, hrt, hm9, hown, hts, hlocks, hexc, hK, hSt⟩, hnm, hA0⟩ := id hC
  exact lv_iload hx hb hd (hL.get hl rfl) (kn k1 n1 p e s m args below meth c0 H locs ls cells slots hC hW hS hL hc1 hs1)
theorem sg_aload_n (hE : envOK Γ St) {adV : Nat → Nat} (hX : envX Γ St adV) (hl9 : l.stackTraces = false) (hA : envA Γ St sc) (hLn : envL St) : g_aload_n (SndG Γ l St) := by
  intro M pc L S c sl u h Q k i x hi hl hd kn k1 n1 p e s m args below meth c0 H locs ls cells slots hC hW hS hL hc1 hs1
  obtain ⟨⟨hx, hb, hrt, hm9, hown, hts, hlocks, hexc, hK, hSt⟩, hnm, hA0⟩ := id hC
  exact lv_aload_n hx hb hd hi (hL.get hl rfl) (kn k1 n1 p e s m args below meth c0 H locs ls cells slots hC hW hS hL hc1 hs1)
theorem sg_aload (hE : envOK Γ St) {adV : Nat → Nat} (hX : envX Γ St adV) (hl9 : l.stackTraces = false) (hA : envA Γ St sc) (hLn : envL St) : g_aload (SndG Γ l St) := by
  intro M pc L S c sl u h Q i x hl hd kn k1 n1 p e s m args below meth c0 H locs ls cells slots hC hW hS hL hc1 hs1
  obtain ⟨⟨hx, hb, hrt, hm9, hown, hts, hlocks, hexc, hK, hSt⟩, hnm, hA0⟩ := id hC
  exact lv_aload hx hb hd (hL.get hl rfl) (kn k1 n1 p e s m args below meth c0 H locs ls cells slots hC hW hS hL hc1 hs1)
theorem sg_lload_n (hE : envOK Γ St) {adV : Nat → Nat} (hX : envX Γ St adV) (hl9 : l.stackTraces = false) (hA : envA Γ St sc) (hLn : envL St) : g_lload_n (SndG Γ l St) := by
  intro M pc L S c sl u h Q k i x hi hl hd kn k1 n1 p e s m args below meth c0 H locs ls cells slots hC hW hS hL hc1 hs1
  obtain ⟨⟨hx, hb, hrt, hm9, hown, hts, hlocks, hexc, hK, hSt⟩, hnm, hA0⟩ := id hC
  exact lv_lload_n hx hb hd hi (hL.get hl rfl) (kn k1 n1 p e s m args below meth c0 H locs ls cells slots hC hW hS hL hc1 hs1)
theorem sg_lload (hE : envOK Γ St) {adV : Nat → Nat} (hX : envX Γ St adV) (hl9 : l.stackTraces = false) (hA : envA Γ St sc) (hLn : envL St) : g_lload (SndG Γ l St) := by
  intro M pc L S c sl u h Q i x hl hd kn k1 n1 p e s m args below meth c0 H locs ls cells slots hC hW hS hL hc1 hs1
  obtain ⟨⟨hx, hb, hrt, hm9, hown, hts, hlocks, hexc, hK, hSt⟩, hnm, hA0⟩ := id hC
  exact lv_lload hx hb hd (hL.get hl rfl) (kn k1 n1 p e s m args below meth c0 H locs ls cells slots hC hW hS hL hc1 hs1)
theorem sg_aload_nN (hE : envOK Γ St) {adV : Nat → Nat} (hX : envX Γ St adV) (hl9 : l.stackTraces = false) (hA : envA Γ St sc) (hLn : envL St) : g_aload_nN (SndG Γ l St) := by
  intro M pc L S c sl u h Q k i hi hl hd kn k1 n1 p e s m args below meth c0 H locs ls cells slots hC hW hS hL hc1 hs1
  obtain ⟨⟨hx, hb, hrt, hm9, hown, hts, hlocks, hexc, hK, hSt⟩, hnm, hA0⟩ := id hC
  exact lv_aload_nN hx hb hd hi (hL.get hl rfl) (kn k1 n1 p e s m args below meth c0 H locs ls cells slots hC hW hS hL hc1 hs1)
theorem sg_aloadN (hE : envOK Γ St) {adV : Nat → Nat} (hX : envX Γ St adV) (hl9 : l.stackTraces = false) (hA : envA Γ St sc) (hLn : envL St) : g_aloadN (SndG Γ l St) := by
  intro M pc L S c sl u h Q i hl hd kn k1 n1 p e s m args below meth c0 H locs ls cells slots hC hW hS hL hc1 hs1
  obtain ⟨⟨hx, hb, hrt, hm9, hown, hts, hlocks, hexc, hK, hSt⟩, hnm, hA0⟩ := id hC
  exact lv_aloadN hx hb hd (hL.get hl rfl) (kn k1 n1 p e s m args below meth c0 H locs ls cells slots hC hW hS hL hc1 hs1)
theorem sg_iadd (hE : envOK Γ St) {adV : Nat → Nat} (hX : envX Γ St adV) (hl9 : l.stackTraces = false) (hA : envA Γ St sc) (hLn : envL St) : g_iadd (SndG Γ l St) := by
  intro M pc L S c sl u h Q x y  hd kn k1 n1 p e s m args below meth c0 H locs ls cells slots hC hW hS hL hc1 hs1
  obtain ⟨⟨hx, hb, hrt, hm9, hown, hts, hlocks, hexc, hK, hSt⟩, hnm, hA0⟩ := id hC
  exact lv_iadd hx hb hd (kn k1 n1 p e s m args below meth c0 H locs ls cells slots hC hW hS hL hc1 hs1)
theorem sg_isub (hE : envOK Γ St) {adV : Nat → Nat} (hX : envX Γ St adV) (hl9 : l.stackTraces = false) (hA : envA Γ St sc) (hLn : envL St) : g_isub (SndG Γ l St) := by
  intro M pc L S c sl u h Q x y  hd kn k1 n1 p e s m args below meth c0 H locs ls cells slots hC hW hS hL hc1 hs1
  obtain ⟨⟨hx, hb, hrt, hm9, hown, hts, hlocks, hexc, hK, hSt⟩, hnm, hA0⟩ := id hC
  exact lv_isub hx hb hd (kn k1 n1 p e s m args below meth c0 H locs ls cells slots hC hW hS hL hc1 hs1)
theorem sg_imul (hE : envOK Γ St) {adV : Nat → Nat} (hX : envX Γ St adV) (hl9 : l.stackTraces = false) (hA : envA Γ St sc) (hLn : envL St) : g_imul (SndG Γ l St) := by
  intro M pc L S c sl u h Q x y  hd kn k1 n1 p e s m args below meth c0 H locs ls cells slots hC hW hS hL hc1 hs1
  obtain ⟨⟨hx, hb, hrt, hm9, hown, hts, hlocks, hexc, hK, hSt⟩, hnm, hA0⟩ := id hC
  exact lv_imul hx hb hd (kn k1 n1 p e s m args below meth c0 H locs ls cells slots hC hW hS hL hc1 hs1)
theorem sg_iand (hE : envOK Γ St) {adV : Nat → Nat} (hX : envX Γ St adV) (hl9 : l.stackTraces = false) (hA : envA Γ St sc) (hLn : envL St) : g_iand (SndG Γ l St) := by
  intro M pc L S c sl u h Q x y  hd kn k1 n1 p e s m args below meth c0 H locs ls cells slots hC hW hS hL hc1 hs1
  obtain ⟨⟨hx, hb, hrt, hm9, hown, hts, hlocks, hexc, hK, hSt⟩, hnm, hA0⟩ := id hC
  exact lv_iand hx hb hd (kn k1 n1 p e s m args below meth c0 H locs ls cells slots hC hW hS hL hc1 hs1)
theorem sg_ior (hE : envOK Γ St) {adV : Nat → Nat} (hX : envX Γ St adV) (hl9 : l.stackTraces = false) (hA : envA Γ St sc) (hLn : envL St) : g_ior (SndG Γ l St) := by
  intro M pc L S c sl u h Q x y  hd kn k1 n1 p e s m args below meth c0 H locs ls cells slots hC hW hS hL hc1 hs1
  obtain ⟨⟨hx, hb, hrt, hm9, hown, hts, hlocks, hexc, hK, hSt⟩, hnm, hA0⟩ := id hC
  exact lv_ior hx hb hd (kn k1 n1 p e s m args below meth c0 H locs ls cells slots hC hW hS hL hc1 hs1)
theorem sg_ishl (hE : envOK Γ St) {adV : Nat → Nat} (hX : envX Γ St adV) (hl9 : l.stackTraces = false) (hA : envA Γ St sc) (hLn : envL St) : g_ishl (SndG Γ l St) := by
  intro M pc L S c sl u h Q x y  hd kn k1 n1 p e s m args below meth c0 H locs ls cells slots hC hW hS hL hc1 hs1
  obtain ⟨⟨hx, hb, hrt, hm9, hown, hts, hlocks, hexc, hK, hSt⟩, hnm, hA0⟩ := id hC
  exact lv_ishl hx hb hd (kn k1 n1 p e s m args below meth c0 H locs ls cells slots hC hW hS hL hc1 hs1)
theorem sg_ishr (hE : envOK Γ St) {adV : Nat → Nat} (hX : envX Γ St adV) (hl9 : l.stackTraces = false) (hA : envA Γ St sc) (hLn : envL St) : g_ishr (SndG Γ l St) := by
  intro M pc L S c sl u h Q x y  hd kn k1 n1 p e s m args below meth c0 H locs ls cells slots hC hW hS hL hc1 hs1
  obtain ⟨⟨hx, hb, hrt, hm9, hown, hts, hlocks, hexc, hK, hSt⟩, hnm, hA0⟩ := id hC
  exact lv_ishr hx hb hd (kn k1 n1 p e s m args below meth c0 H locs ls cells slots hC hW hS hL hc1 hs1)
theorem sg_idiv (hE : envOK Γ St) {adV : Nat → Nat} (hX : envX Γ St adV) (hl9 : l.stackTraces = false) (hA : envA Γ St sc) (hLn : envL St) : g_idiv (SndG Γ l St) := by
  intro M pc L S c sl u h Q x y hn hd kn k1 n1 p e s m args below meth c0 H locs ls cells slots hC hW hS hL hc1 hs1
  obtain ⟨⟨hx, hb, hrt, hm9, hown, hts, hlocks, hexc, hK, hSt⟩, hnm, hA0⟩ := id hC
  exact lv_idiv hx hb hd hn (kn k1 n1 p e s m args below meth c0 H locs ls cells slots hC hW hS hL hc1 hs1)
theorem sg_irem (hE : envOK Γ St) {adV : Nat → Nat} (hX : envX Γ St adV) (hl9 : l.stackTraces = false) (hA : envA Γ St sc) (hLn : envL St) : g_irem (SndG Γ l St) := by
  intro M pc L S c sl u h Q x y hn hd kn k1 n1 p e s m args below meth c0 H locs ls cells slots hC hW hS hL hc1 hs1
  obtain ⟨⟨hx, hb, hrt, hm9, hown, hts, hlocks, hexc, hK, hSt⟩, hnm, hA0⟩ := id hC
  exact lv_irem hx hb hd hn (kn k1 n1 p e s m args below meth c0 H locs ls cells slots hC hW hS hL hc1 hs1)
theorem sg_iushr (hE : envOK Γ St) {adV : Nat → Nat} (hX : envX Γ St adV) (hl9 : l.stackTraces = false) (hA : envA Γ St sc) (hLn : envL St) : g_iushr (SndG Γ l St) := by
  intro M pc L S c sl u h Q x y v hv hd kn k1 n1 p e s m args below meth c0 H locs ls cells slots hC hW hS hL hc1 hs1
  obtain ⟨⟨hx, hb, hrt, hm9, hown, hts, hlocks, hexc, hK, hSt⟩, hnm, hA0⟩ := id hC
  exact lv_iushr hx hb hd hv (kn k1 n1 p e s m args below meth c0 H locs ls cells slots hC hW hS hL hc1 hs1)
theorem sg_i2b (hE : envOK Γ St) {adV : Nat → Nat} (hX : envX Γ St adV) (hl9 : l.stackTraces = false) (hA : envA Γ St sc) (hLn : envL St) : g_i2b (SndG Γ l St) := by
  intro M pc L S c sl u h Q x v hv hd kn k1 n1 p e s m args below meth c0 H locs ls cells slots hC hW hS hL hc1 hs1
  obtain ⟨⟨hx, hb, hrt, hm9, hown, hts, hlocks, hexc, hK, hSt⟩, hnm, hA0⟩ := id hC
  exact lv_i2b hx hb hd hv (kn k1 n1 p e s m args below meth c0 H locs ls cells slots hC hW hS hL hc1 hs1)
theorem sg_i2c (hE : envOK Γ St) {adV : Nat → Nat} (hX : envX Γ St adV) (hl9 : l.stackTraces = false) (hA : envA Γ St sc) (hLn : envL St) : g_i2c (SndG Γ l St) := by
  intro M pc L S c sl u h Q x v hv hd kn k1 n1 p e s m args below meth c0 H locs ls cells slots hC hW hS hL hc1 hs1
  obtain ⟨⟨hx, hb, hrt, hm9, hown, hts, hlocks, hexc, hK, hSt⟩, hnm, hA0⟩ := id hC
  exact lv_i2c hx hb hd hv (kn k1 n1 p e s m args below meth c0 H locs ls cells slots hC hW hS hL hc1 hs1)
theorem sg_ladd (hE : envOK Γ St) {adV : Nat → Nat} (hX : envX Γ St adV) (hl9 : l.stackTraces = false) (hA : envA Γ St sc) (hLn : envL St) : g_ladd (SndG Γ l St) := by
  intro M pc L S c sl u h Q x y  hd kn k1 n1 p e s m args below meth c0 H locs ls cells slots hC hW hS hL hc1 hs1
  obtain ⟨⟨hx, hb, hrt, hm9, hown, hts, hlocks, hexc, hK, hSt⟩, hnm, hA0⟩ := id hC
  exact lv_ladd hx hb hd (kn k1 n1 p e s m args below meth c0 H locs ls cells slots hC hW hS hL hc1 hs1)
theorem sg_lmul (hE : envOK Γ St) {adV : Nat → Nat} (hX : envX Γ St adV) (hl9 : l.stackTraces = false) (hA : envA Γ St sc) (hLn : envL St) : g_lmul (SndG Γ l St) := by
  intro M pc L S c sl u h Q x y  hd kn k1 n1 p e s m args below meth c0 H locs ls cells slots hC hW hS hL hc1 hs1
  obtain ⟨⟨hx, hb, hrt, hm9, hown, hts, hlocks, hexc, hK, hSt⟩, hnm, hA0⟩ := id hC
  exact lv_lmul hx hb hd (kn k1 n1 p e s m args below meth c0 H locs ls cells slots hC hW hS hL hc1 hs1)
theorem sg_i2l (hE : envOK Γ St) {adV : Nat → Nat} (hX : envX Γ St adV) (hl9 : l.stackTraces = false) (hA : envA Γ St sc) (hLn : envL St) : g_i2l (SndG Γ l St) := by
  intro M pc L S c sl u h Q x v hv hd kn k1 n1 p e s m args below meth c0 H locs ls cells slots hC hW hS hL hc1 hs1
  obtain ⟨⟨hx, hb, hrt, hm9, hown, hts, hlocks, hexc, hK, hSt⟩, hnm, hA0⟩ := id hC
  exact lv_i2l hx hb hd hv (kn k1 n1 p e s m args below meth c0 H locs ls cells slots hC hW hS hL hc1 hs1)
theorem sg_lcmp (hE : envOK Γ St) {adV : Nat → Nat} (hX : envX Γ St adV) (hl9 : l.stackTraces = false) (hA : envA Γ St sc) (hLn : envL St) : g_lcmp (SndG Γ l St) := by
  intro M pc L S c sl u h Q x y  hd kn k1 n1 p e s m args below meth c0 H locs ls cells slots hC hW hS hL hc1 hs1
  obtain ⟨⟨hx, hb, hrt, hm9, hown, hts, hlocks, hexc, hK, hSt⟩, hnm, hA0⟩ := id hC
  exact W.lcmp hx hb hd (kn k1 n1 p e s m args below meth c0 H locs ls cells slots hC hW hS hL hc1 hs1)
theorem sg_dup (hE : envOK Γ St) {adV : Nat → Nat} (hX : envX Γ St adV) (hl9 : l.stackTraces = false) (hA : envA Γ St sc) (hLn : envL St) : g_dup (SndG Γ l St) := by
  intro M pc L S c sl u h Q v hv hd kn k1 n1 p e s m args below meth c0 H locs ls cells slots hC hW hS hL hc1 hs1
  obtain ⟨⟨hx, hb, hrt, hm9, hown, hts, hlocks, hexc, hK, hSt⟩, hnm, hA0⟩ := id hC
  exact lv_dup hx hb hd hv (kn k1 n1 p e s m args below meth c0 H locs ls cells slots hC hW hS hL hc1 hs1)
theorem sg_dup2 (hE : envOK Γ St) {adV : Nat → Nat} (hX : envX Γ St adV) (hl9 : l.stackTraces = false) (hA : envA Γ St sc) (hLn : envL St) : g_dup2 (SndG Γ l St) := by
  intro M pc L S c sl u h Q v w hv hw hd kn k1 n1 p e s m args below meth c0 H locs ls cells slots hC hW hS hL hc1 hs1
  obtain ⟨⟨hx, hb, hrt, hm9, hown, hts, hlocks, hexc, hK, hSt⟩, hnm, hA0⟩ := id hC
  exact lv_dup2_11 hx hb hd hv hw (kn k1 n1 p e s m args below meth c0 H locs ls cells slots hC hW hS hL hc1 hs1)
theorem sg_dup_x1 (hE : envOK Γ St) {adV : Nat → Nat} (hX : envX Γ St adV) (hl9 : l.stackTraces = false) (hA : envA Γ St sc) (hLn : envL St) : g_dup_x1 (SndG Γ l St) := by
  intro M pc L S c sl u h Q v w hv hw hd kn k1 n1 p e s m args below meth c0 H locs ls cells slots hC hW hS hL hc1 hs1
  obtain ⟨⟨hx, hb, hrt, hm9, hown, hts, hlocks, hexc, hK, hSt⟩, hnm, hA0⟩ := id hC
  exact lv_dup_x1 hx hb hd hv hw (kn k1 n1 p e s m args below meth c0 H locs ls cells slots hC hW hS hL hc1 hs1)
theorem sg_pop (hE : envOK Γ St) {adV : Nat → Nat} (hX : envX Γ St adV) (hl9 : l.stackTraces = false) (hA : envA Γ St sc) (hLn : envL St) : g_pop (SndG Γ l St) := by
  intro M pc L S c sl u h Q v hv hd kn k1 n1 p e s m args below meth c0 H locs ls cells slots hC hW hS hL hc1 hs1
  obtain ⟨⟨hx, hb, hrt, hm9, hown, hts, hlocks, hexc, hK, hSt⟩, hnm, hA0⟩ := id hC
  exact lv_pop hx hb hd hv (kn k1 n1 p e s m args below meth c0 H locs ls cells slots hC hW hS hL hc1 hs1)
theorem sg_getf (hE : envOK Γ St) {adV : Nat → Nat} (hX : envX Γ St adV) (hl9 : l.stackTraces = false) (hA : envA Γ St sc) (hLn : envL St) : g_getf (SndG Γ l St) := by
  intro M pc L S c sl u h Q ci ix k C T N ty a fs v hc hk hw ha hv hd kn k1 n1 p e s m args below meth c0 H locs ls cells slots hC hW hS hL hc1 hs1
  obtain ⟨⟨hx, hb, hrt, hm9, hown, hts, hlocks, hexc, hK, hSt⟩, hnm, hA0⟩ := id hC
  obtain ⟨k9, hk9⟩ := hW.get ha
  exact va_get (D := Γ.2.1) (ci := ci) (C := C) (T := T) (N := N) hx hb hts hc.2.1 hown hK hW.P k9 hk9 hc.1 k hk (hts _ hw) (fun _ h9 => h9) hv hd (kn k1 n1 p e s m args below meth c0 H locs ls cells slots hC hW hS hL hc1 hs1)
theorem sg_iald (hE : envOK Γ St) {adV : Nat → Nat} (hX : envX Γ St adV) (hl9 : l.stackTraces = false) (hA : envA Γ St sc) (hLn : envL St) : g_iald (SndG Γ l St) := by
  intro M pc L S c sl u h Q a n f i ha hi hd kn k1 n1 p e s m args below meth c0 H locs ls cells slots hC hW hS hL hc1 hs1
  obtain ⟨⟨hx, hb, hrt, hm9, hown, hts, hlocks, hexc, hK, hSt⟩, hnm, hA0⟩ := id hC
  obtain ⟨k9, hk9⟩ := hW.get ha
  exact va_iald hx hb hK hW.P k9 0 hk9 rfl hi hd (kn k1 n1 p e s m args below meth c0 H locs ls cells slots hC hW hS hL hc1 hs1)
theorem sg_bald (hE : envOK Γ St) {adV : Nat → Nat} (hX : envX Γ St adV) (hl9 : l.stackTraces = false) (hA : envA Γ St sc) (hLn : envL St) : g_bald (SndG Γ l St) := by
  intro M pc L S c sl u h Q a n f i ha hi hd kn k1 n1 p e s m args below meth c0 H locs ls cells slots hC hW hS hL hc1 hs1
  obtain ⟨⟨hx, hb, hrt, hm9, hown, hts, hlocks, hexc, hK, hSt⟩, hnm, hA0⟩ := id hC
  obtain ⟨k9, hk9⟩ := hW.get ha
  exact va_bald hx hb hK hW.P k9 1 hk9 rfl hi hd (kn k1 n1 p e s m args below meth c0 H locs ls cells slots hC hW hS hL hc1 hs1)
theorem sg_zald (hE : envOK Γ St) {adV : Nat → Nat} (hX : envX Γ St adV) (hl9 : l.stackTraces = false) (hA : envA Γ St sc) (hLn : envL St) : g_zald (SndG Γ l St) := by
  intro M pc L S c sl u h Q a n f i ha hi hd kn k1 n1 p e s m args below meth c0 H locs ls cells slots hC hW hS hL hc1 hs1
  obtain ⟨⟨hx, hb, hrt, hm9, hown, hts, hlocks, hexc, hK, hSt⟩, hnm, hA0⟩ := id hC
  obtain ⟨k9, hk9⟩ := hW.get ha
  exact va_zald hx hb hK hW.P k9 2 hk9 rfl hi hd (kn k1 n1 p e s m args below meth c0 H locs ls cells slots hC hW hS hL hc1 hs1)
theorem sg_aald (hE : envOK Γ St) {adV : Nat → Nat} (hX : envX Γ St adV) (hl9 : l.stackTraces = false) (hA : envA Γ St sc) (hLn : envL St) : g_aald (SndG Γ l St) := by
  intro M pc L S c sl u h Q a n t f i v ha ht hi hv hd kn k1 n1 p e s m args below meth c0 H locs ls cells slots hC hW hS hL hc1 hs1
  obtain ⟨⟨hx, hb, hrt, hm9, hown, hts, hlocks, hexc, hK, hSt⟩, hnm, hA0⟩ := id hC
  obtain ⟨k9, hk9⟩ := hW.get ha
  exact ag_aald (Γ := Γ) hk9 hx hb hK hW.P ht hi hv hd (kn k1 n1 p e s m args below meth c0 H locs ls cells slots hC hW hS hL hc1 hs1)
theorem sg_alen (hE : envOK Γ St) {adV : Nat → Nat} (hX : envX Γ St adV) (hl9 : l.stackTraces = false) (hA : envA Γ St sc) (hLn : envL St) : g_alen (SndG Γ l St) := by
  intro M pc L S c sl u h Q a n t x v ha ht hv hd kn k1 n1 p e s m args below meth c0 H locs ls cells slots hC hW hS hL hc1 hs1
  obtain ⟨⟨hx, hb, hrt, hm9, hown, hts, hlocks, hexc, hK, hSt⟩, hnm, hA0⟩ := id hC
  obtain ⟨k9, hk9⟩ := hW.get ha
  exact ag_alen (Γ := Γ) hk9 hx hb hK hW.P ht hv hd (kn k1 n1 p e s m args below meth c0 H locs ls cells slots hC hW hS hL hc1 hs1)
theorem sg_ldcS (hE : envOK Γ St) {adV : Nat → Nat} (hX : envX Γ St adV) (hl9 : l.stackTraces = false) (hA : envA Γ St sc) (hLn : envL St) : g_ldcS Γ.1 (SndG Γ l St) := by
  intro M pc L S c sl u h Q ix j tx hj hd kn k1 n1 p e s m args below meth c0 H locs ls cells slots hC hW hS hL hc1 hs1
  obtain ⟨⟨hx, hb, hrt, hm9, hown, hts, hlocks, hexc, hK, hSt⟩, hnm, hA0⟩ := id hC
  exact va_ldcS hx hb hown (hA.1 s _ _ _ _ hj hSt) hd (kn k1 n1 p e s m args below meth c0 H locs ls cells slots hC hW hS hL hc1 hs1)
theorem sg_slen (hE : envOK Γ St) {adV : Nat → Nat} (hX : envX Γ St adV) (hl9 : l.stackTraces = false) (hA : envA Γ St sc) (hLn : envL St) : g_slen Γ.1 sc (SndG Γ l St) := by
  intro M pc L S c sl u h Q v hv hd kn k1 n1 p e s m args below meth c0 H locs ls cells slots hC hW hS hL hc1 hs1
  obtain ⟨⟨hx, hb, hrt, hm9, hown, hts, hlocks, hexc, hK, hSt⟩, hnm, hA0⟩ := id hC
  subst hv
  exact va_slen hx hb (hA.2.1 s hSt).1 (hA.2.1 s hSt).2.1 (hA.2.1 s hSt).2.2 hS hd (kn k1 n1 p e s m args below meth c0 H locs ls cells slots hC hW hS hL hc1 hs1)
theorem sg_sld (hE : envOK Γ St) {adV : Nat → Nat} (hX : envX Γ St adV) (hl9 : l.stackTraces = false) (hA : envA Γ St sc) (hLn : envL St) : g_sld Γ.1 sc (SndG Γ l St) := by
  intro M pc L S c sl u h Q i hi hd kn k1 n1 p e s m args below meth c0 H locs ls cells slots hC hW hS hL hc1 hs1
  obtain ⟨⟨hx, hb, hrt, hm9, hown, hts, hlocks, hexc, hK, hSt⟩, hnm, hA0⟩ := id hC
  exact va_sld hx hb (hA.2.1 s hSt).1 (hA.2.1 s hSt).2.1 (hA.2.1 s hSt).2.2 hS hi hd (kn k1 n1 p e s m args below meth c0 H locs ls cells slots hC hW hS hL hc1 hs1)
theorem sg_csn (hE : envOK Γ St) {adV : Nat → Nat} (hX : envX Γ St adV) (hl9 : l.stackTraces = false) (hA : envA Γ St sc) (hLn : envL St) : g_csn (SndG Γ l St) := by
  intro M pc L S c sl u h Q ix hj hd kn k1 n1 p e s m args below meth c0 H locs ls cells slots hC hW hS hL hc1 hs1
  obtain ⟨⟨hx, hb, hrt, hm9, hown, hts, hlocks, hexc, hK, hSt⟩, hnm, hA0⟩ := id hC
  exact va_gets (ref := "java/lang/String") hx hb (hA.2.2.1 s hSt) hS hown (hts _ hj) (fun _ h => h) hd (kn k1 n1 p e s m args below meth c0 H locs ls cells slots hC hW hS hL hc1 hs1)
theorem sg_istore_n (hE : envOK Γ St) {adV : Nat → Nat} (hX : envX Γ St adV) (hl9 : l.stackTraces = false) (hA : envA Γ St sc) (hLn : envL St) : g_istore_n (SndG Γ l St) := by
  intro M pc L S c sl u h Q k i x hi hn hq hd kn k1 n1 p e s m args below meth c0 H locs ls cells slots hC hW hS hL hc1 hs1
  obtain ⟨⟨hx, hb, hrt, hm9, hown, hts, hlocks, hexc, hK, hSt⟩, hnm, hA0⟩ := id hC
  refine lv_istore_n hx hb hd hi hL.has hn rfl (fun ls9 hl9 => ?_)
  exact kn k1 n1 p e s m args below meth c0 H locs ls9 cells slots hC hW hS (LG.store1 hL (v := .int x) rfl hq hl9) hc1 hs1
theorem sg_istore (hE : envOK Γ St) {adV : Nat → Nat} (hX : envX Γ St adV) (hl9 : l.stackTraces = false) (hA : envA Γ St sc) (hLn : envL St) : g_istore (SndG Γ l St) := by
  intro M pc L S c sl u h Q i x hn hq hd kn k1 n1 p e s m args below meth c0 H locs ls cells slots hC hW hS hL hc1 hs1
  obtain ⟨⟨hx, hb, hrt, hm9, hown, hts, hlocks, hexc, hK, hSt⟩, hnm, hA0⟩ := id hC
  refine lv_istore hx hb hd hL.has hn rfl (fun ls9 hl9 => ?_)
  exact kn k1 n1 p e s m args below meth c0 H locs ls9 cells slots hC hW hS (LG.store1 hL (v := .int x) rfl hq hl9) hc1 hs1
theorem sg_astore_n (hE : envOK Γ St) {adV : Nat → Nat} (hX : envX Γ St adV) (hl9 : l.stackTraces = false) (hA : envA Γ St sc) (hLn : envL St) : g_astore_n (SndG Γ l St) := by
  intro M pc L S c sl u h Q k i x hi hn hq hd kn k1 n1 p e s m args below meth c0 H locs ls cells slots hC hW hS hL hc1 hs1
  obtain ⟨⟨hx, hb, hrt, hm9, hown, hts, hlocks, hexc, hK, hSt⟩, hnm, hA0⟩ := id hC
  refine lv_astore_n hx hb hd hi hL.has hn rfl (fun ls9 hl9 => ?_)
  exact kn k1 n1 p e s m args below meth c0 H locs ls9 cells slots hC hW hS (LG.store1 hL (v := .ref x) rfl hq hl9) hc1 hs1
theorem sg_astore (hE : envOK Γ St) {adV : Nat → Nat} (hX : envX Γ St adV) (hl9 : l.stackTraces = false) (hA : envA Γ St sc) (hLn : envL St) : g_astore (SndG Γ l St) := by
  intro M pc L S c sl u h Q i x hn hq hd kn k1 n1 p e s m args below meth c0 H locs ls cells slots hC hW hS hL hc1 hs1
  obtain ⟨⟨hx, hb, hrt, hm9, hown, hts, hlocks, hexc, hK, hSt⟩, hnm, hA0⟩ := id hC
  refine lv_astore hx hb hd hL.has hn rfl (fun ls9 hl9 => ?_)
  exact kn k1 n1 p e s m args below meth c0 H locs ls9 cells slots hC hW hS (LG.store1 hL (v := .ref x) rfl hq hl9) hc1 hs1
theorem sg_astore_nN (hE : envOK Γ St) {adV : Nat → Nat} (hX : envX Γ St adV) (hl9 : l.stackTraces = false) (hA : envA Γ St sc) (hLn : envL St) : g_astore_nN (SndG Γ l St) := by
  intro M pc L S c sl u h Q k i hi hn hq hd kn k1 n1 p e s m args below meth c0 H locs ls cells slots hC hW hS hL hc1 hs1
  obtain ⟨⟨hx, hb, hrt, hm9, hown, hts, hlocks, hexc, hK, hSt⟩, hnm, hA0⟩ := id hC
  refine lv_astore_nN hx hb hd hi hL.has hn rfl (fun ls9 hl9 => ?_)
  exact kn k1 n1 p e s m args below meth c0 H locs ls9 cells slots hC hW hS (LG.store1 hL (v := .null) rfl hq hl9) hc1 hs1
theorem sg_astoreN (hE : envOK Γ St) {adV : Nat → Nat} (hX : envX Γ St adV) (hl9 : l.stackTraces = false) (hA : envA Γ St sc) (hLn : envL St) : g_astoreN (SndG Γ l St) := by
  intro M pc L S c sl u h Q i hn hq hd kn k1 n1 p e s m args below meth c0 H locs ls cells slots hC hW hS hL hc1 hs1
  obtain ⟨⟨hx, hb, hrt, hm9, hown, hts, hlocks, hexc, hK, hSt⟩, hnm, hA0⟩ := id hC
  refine lv_astoreN hx hb hd hL.has hn rfl (fun ls9 hl9 => ?_)
  exact kn k1 n1 p e s m args below meth c0 H locs ls9 cells slots hC hW hS (LG.store1 hL (v := .null) rfl hq hl9) hc1 hs1
theorem sg_lstore_n (hE : envOK Γ St) {adV : Nat → Nat} (hX : envX Γ St adV) (hl9 : l.stackTraces = false) (hA : envA Γ St sc) (hLn : envL St) : g_lstore_n (SndG Γ l St) := by
  intro M pc L S c sl u h Q k i x hi hn hq hd kn k1 n1 p e s m args below meth c0 H locs ls cells slots hC hW hS hL hc1 hs1
  obtain ⟨⟨hx, hb, hrt, hm9, hown, hts, hlocks, hexc, hK, hSt⟩, hnm, hA0⟩ := id hC
  refine lv_lstore_n hx hb hd hi hL.has hn rfl (fun ls9 hl9 => ?_)
  exact kn k1 n1 p e s m args below meth c0 H locs ls9 cells slots hC hW hS (LG.store2 hL (v := .long x) rfl hq hl9) hc1 hs1
theorem sg_lstore (hE : envOK Γ St) {adV : Nat → Nat} (hX : envX Γ St adV) (hl9 : l.stackTraces = false) (hA : envA Γ St sc) (hLn : envL St) : g_lstore (SndG Γ l St) := by
  intro M pc L S c sl u h Q i x hn hq hd kn k1 n1 p e s m args below meth c0 H locs ls cells slots hC hW hS hL hc1 hs1
  obtain ⟨⟨hx, hb, hrt, hm9, hown, hts, hlocks, hexc, hK, hSt⟩, hnm, hA0⟩ := id hC
  refine lv_lstore hx hb hd hL.has hn rfl (fun ls9 hl9 => ?_)
  exact kn k1 n1 p e s m args below meth c0 H locs ls9 cells slots hC hW hS (LG.store2 hL (v := .long x) rfl hq hl9) hc1 hs1
theorem sg_putf (hE : envOK Γ St) {adV : Nat → Nat} (hX : envX Γ St adV) (hl9 : l.stackTraces = false) (hA : envA Γ St sc) (hLn : envL St) : g_putf (SndG Γ l St) := by
  intro M pc L S c sl u h Q ci ix k C T N ty a fs v hc hk hw ha hf hnr hlt hd kn k1 n1 p e s m args below meth c0 H locs ls cells slots hC hW hS hL hc1 hs1
  obtain ⟨⟨hx, hb, hrt, hm9, hown, hts, hlocks, hexc, hK, hSt⟩, hnm, hA0⟩ := id hC
  obtain ⟨k9, hk9⟩ := hW.get ha
  refine va_put (D := Γ.2.1) (ci := ci) (v := v) (ty := ty k) (C := C) (T := T) (N := N) hx hb hts hc.2.1 ty hc.2.2.1 hc.2.2.2 hown hK hW.P hW.D hS k9 hk9 hc.1 k hk (hts _ hw) (fun _ h9 => h9) hf (hc.2.2.1 k hk) hnr.1 hnr.2 hlt hd (fun H1 locs1 hP1 hD1 hS1 => ?_)
  exact kn k1 n1 p e s m args below meth c0 H1 locs1 ls cells slots hC (hW.upd ha hk9 hP1) hS1 hL hc1 hs1
theorem sg_putF (hE : envOK Γ St) {adV : Nat → Nat} (hX : envX Γ St adV) (hl9 : l.stackTraces = false) (hA : envA Γ St sc) (hLn : envL St) : g_putF (SndG Γ l St) := by
  intro M pc L S c sl u h Q ci ix k C T N ty a fs v hc hk hw ha hf hin hde hnr hlt hd kn k1 n1 p e s m args below meth c0 H locs ls cells slots hC hW hS hL hc1 hs1
  obtain ⟨⟨hx, hb, hrt, hm9, hown, hts, hlocks, hexc, hK, hSt⟩, hnm, hA0⟩ := id hC
  obtain ⟨k9, hk9⟩ := hW.get ha
  refine va_putF (D := Γ.2.1) (ci := ci) (v := v) (ty := ty k) (C := C) (T := T) (N := N) hx hb hts hc.2.1 ty hc.2.2.1 hc.2.2.2 hown hK hW.P hW.D hS k9 hk9 hc.1 k hk (hts _ hw) (fun _ h9 => h9) hf (hnm.trans hin) hde (hc.2.2.1 k hk) hnr.1 hnr.2 hlt hd (fun H1 locs1 hP1 hD1 hS1 => ?_)
  exact kn k1 n1 p e s m args below meth c0 H1 locs1 ls cells slots hC (hW.upd ha hk9 hP1) hS1 hL hc1 hs1
theorem sg_iast (hE : envOK Γ St) {adV : Nat → Nat} (hX : envX Γ St adV) (hl9 : l.stackTraces = false) (hA : envA Γ St sc) (hLn : envL St) : g_iast (SndG Γ l St) := by
  intro M pc L S c sl u h Q a n f i x ha hi hd kn k1 n1 p e s m args below meth c0 H locs ls cells slots hC hW hS hL hc1 hs1
  obtain ⟨⟨hx, hb, hrt, hm9, hown, hts, hlocks, hexc, hK, hSt⟩, hnm, hA0⟩ := id hC
  obtain ⟨k9, hk9⟩ := hW.get ha
  refine va_iast hx hb hK hW.P hW.D hS k9 0 hk9 rfl hi hd (fun H1 locs1 hP1 hD1 hS1 => ?_)
  exact kn k1 n1 p e s m args below meth c0 H1 locs1 ls cells slots hC (hW.upd ha hk9 hP1) hS1 hL hc1 hs1
theorem sg_bast (hE : envOK Γ St) {adV : Nat → Nat} (hX : envX Γ St adV) (hl9 : l.stackTraces = false) (hA : envA Γ St sc) (hLn : envL St) : g_bast (SndG Γ l St) := by
  intro M pc L S c sl u h Q a n f i x ha hi hd kn k1 n1 p e s m args below meth c0 H locs ls cells slots hC hW hS hL hc1 hs1
  obtain ⟨⟨hx, hb, hrt, hm9, hown, hts, hlocks, hexc, hK, hSt⟩, hnm, hA0⟩ := id hC
  obtain ⟨k9, hk9⟩ := hW.get ha
  refine va_bast hx hb hK hW.P hW.D hS k9 1 hk9 rfl hi hd (fun H1 locs1 hP1 hD1 hS1 => ?_)
  exact kn k1 n1 p e s m args below meth c0 H1 locs1 ls cells slots hC (hW.upd ha hk9 hP1) hS1 hL hc1 hs1
theorem sg_zast (hE : envOK Γ St) {adV : Nat → Nat} (hX : envX Γ St adV) (hl9 : l.stackTraces = false) (hA : envA Γ St sc) (hLn : envL St) : g_zast (SndG Γ l St) := by
  intro M pc L S c sl u h Q a n f i x ha hi hd kn k1 n1 p e s m args below meth c0 H locs ls cells slots hC hW hS hL hc1 hs1
  obtain ⟨⟨hx, hb, hrt, hm9, hown, hts, hlocks, hexc, hK, hSt⟩, hnm, hA0⟩ := id hC
  obtain ⟨k9, hk9⟩ := hW.get ha
  refine va_zast hx hb hK hW.P hW.D hS k9 2 hk9 rfl hi hd (fun H1 locs1 hP1 hD1 hS1 => ?_)
  exact kn k1 n1 p e s m args below meth c0 H1 locs1 ls cells slots hC (hW.upd ha hk9 hP1) hS1 hL hc1 hs1
theorem sg_aast (hE : envOK Γ St) {adV : Nat → Nat} (hX : envX Γ St adV) (hl9 : l.stackTraces = false) (hA : envA Γ St sc) (hLn : envL St) : g_aast (SndG Γ l St) := by
  intro M pc L S c sl u h Q a n t q ci N C T vs f i ha hb9 hc ht hi hd kn k1 n1 p e s m args below meth c0 H locs ls cells slots hC hW hS hL hc1 hs1
  obtain ⟨⟨hx, hb, hrt, hm9, hown, hts, hlocks, hexc, hK, hSt⟩, hnm, hA0⟩ := id hC
  obtain ⟨k9, hk9⟩ := hW.get ha
  obtain ⟨k8, hk8⟩ := hW.get hb9
  refine ag_aast hx hb hK hW.P hW.D hS hk9 hk8 hc ht hi hd (fun H1 locs1 hP1 hD1 hS1 => ?_)
  exact kn k1 n1 p e s m args below meth c0 H1 locs1 ls cells slots hC (hW.upd ha hk9 hP1) hS1 hL hc1 hs1
theorem sg_aastN (hE : envOK Γ St) {adV : Nat → Nat} (hX : envX Γ St adV) (hl9 : l.stackTraces = false) (hA : envA Γ St sc) (hLn : envL St) : g_aastN (SndG Γ l St) := by
  intro M pc L S c sl u h Q a n t C f i ha ht hi hd kn k1 n1 p e s m args below meth c0 H locs ls cells slots hC hW hS hL hc1 hs1
  obtain ⟨⟨hx, hb, hrt, hm9, hown, hts, hlocks, hexc, hK, hSt⟩, hnm, hA0⟩ := id hC
  obtain ⟨k9, hk9⟩ := hW.get ha
  refine ag_aastN hx hb hK hW.P hW.D hS hk9 ht hi hd (fun H1 locs1 hP1 hD1 hS1 => ?_)
  exact kn k1 n1 p e s m args below meth c0 H1 locs1 ls cells slots hC (hW.upd ha hk9 hP1) hS1 hL hc1 hs1
theorem sg_aastA (hE : envOK Γ St) {adV : Nat → Nat} (hX : envX Γ St adV) (hl9 : l.stackTraces = false) (hA : envA Γ St sc) (hLn : envL St) : g_aastA (SndG Γ l St) := by
  intro M pc L S c sl u h Q a n n1 q f f1 i ha hb9 hi hd kn k1 n1 p e s m args below meth c0 H locs ls cells slots hC hW hS hL hc1 hs1
  obtain ⟨⟨hx, hb, hrt, hm9, hown, hts, hlocks, hexc, hK, hSt⟩, hnm, hA0⟩ := id hC
  obtain ⟨k9, hk9⟩ := hW.get ha
  obtain ⟨k8, hk8⟩ := hW.get hb9
  refine ag_aastA (hA.2.2.2.1 s hSt) hx hb hK hW.P hW.D hS hk9 hk8 hi hd (fun H1 locs1 hP1 hD1 hS1 => ?_)
  exact kn k1 n1 p e s m args below meth c0 H1 locs1 ls cells slots hC (hW.upd ha hk9 hP1) hS1 hL hc1 hs1
theorem sg_new (hE : envOK Γ St) {adV : Nat → Nat} (hX : envX Γ St adV) (hl9 : l.stackTraces = false) (hA : envA Γ St sc) (hLn : envL St) : g_new (SndG Γ l St) := by
  intro M pc L S c sl u h Q ci ix N C T ty fs hc hcl hin hini hfs hc9 hs9 hd kn k1 n1 p e s m args below meth c0 H locs ls cells slots hC hW hS hL hc1 hs1
  obtain ⟨⟨hx, hb, hrt, hm9, hown, hts, hlocks, hexc, hK, hSt⟩, hnm, hA0⟩ := id hC
  refine va_new (ci := ci) (C := C) (T := T) (N := N) (A := Γ.2.2.2) hx hb hts hc.2.1 ty hc.2.2.1 hown (hts _ hcl) (hts _ hin) (hts _ hini) hK (hW.P (n := H.size)) (hW.D (n := H.size)) hS hA0 hc.1 hfs (by show cells + 1 ≤ k1; omega) (by show slots + N ≤ n1; omega) hd (fun a H1 hP1 hD1 hS1 => ?_)
  have hp9 := hW.push (e := .inr (ci, fs)) hP1 hD1
  exact kn a hp9.1 k1 n1 p e s m args below meth c0 H1 locs ls (cells + 1) (slots + N) hC hp9.2 hS1 hL (by omega) (by omega)
theorem sg_newa (hE : envOK Γ St) {adV : Nat → Nat} (hX : envX Γ St adV) (hl9 : l.stackTraces = false) (hA : envA Γ St sc) (hLn : envL St) : g_newa (SndG Γ l St) := by
  intro M pc L S c sl u h Q t ty N v ht hn0 hv hN hc9 hs9 hd kn k1 n1 p e s m args below meth c0 H locs ls cells slots hC hW hS hL hc1 hs1
  obtain ⟨⟨hx, hb, hrt, hm9, hown, hts, hlocks, hexc, hK, hSt⟩, hnm, hA0⟩ := id hC
  have key : ∀ (q : Nat) (cA : ClassId) (H1 : Heap), va_K Γ.2.1 vwCl (tysOf Γ ++ [(cA, newarray.typeOf ty)]) s → va_P Γ.2.1 vwCl (wl Γ u h H.size ++ [(q, .inl (cA, N, .inl (fun _ => 0)))]) H1 → va_D Γ.2.2.2 (wl Γ u h H.size ++ [(q, .inl (cA, N, .inl (fun _ => 0)))]) → va_S Γ.2.2.2 s.heap H1 locs → W p l e (rmG M k1 n1) s m args below meth c0 H1 locs (cells + 1) (slots + N) (MQ below (QcA Γ M Q) args s k1 n1 Γ.2.2.2) (F0 m (pc + 2) ls (.ref q :: S)) := by
    intro a cA H1 hK1 hP1 hD1 hS1
    have ec : cA = Γ.2.2.1 t := by rcases ht with ⟨rfl, rfl⟩ | ⟨rfl, rfl⟩ | ⟨rfl, rfl⟩ <;> exact tg_new hK hK1 rfl
    subst ec
    have hp9 := hW.push (e := .inl (t, N, .inl (fun _ => 0))) hP1 hD1
    exact kn a hp9.1 k1 n1 p e s m args below meth c0 H1 locs ls (cells + 1) (slots + N) hC hp9.2 hS1 hL (by omega) (by omega)
  rcases ht with ⟨rfl, rfl⟩ | ⟨rfl, rfl⟩ | ⟨rfl, rfl⟩
  · exact va_newa (atype := .int) (a0 := (N, .inl (fun _ => 0))) hx hb (hts _ (gT_mem 148 (by decide +kernel) (by decide +kernel))) rfl hK (hW.P (n := H.size)) (hW.D (n := H.size)) hS hA0 (fun cA => rfl) hn0 hv (by show N * _ ≤ 536870912; simp only [newarray.typeOf, componentBytes]; omega) (by show cells + 1 ≤ k1; omega) (by show slots + N ≤ n1; omega) hd key
  · exact va_newa (atype := .byte) (a0 := (N, .inl (fun _ => 0))) hx hb (hts _ (gT_mem 249 (by decide +kernel) (by decide +kernel))) rfl hK (hW.P (n := H.size)) (hW.D (n := H.size)) hS hA0 (fun cA => rfl) hn0 hv (by show N * _ ≤ 536870912; simp only [newarray.typeOf, componentBytes]; omega) (by show cells + 1 ≤ k1; omega) (by show slots + N ≤ n1; omega) hd key
  · exact va_newa (atype := .boolean) (a0 := (N, .inl (fun _ => 0))) hx hb (hts _ (gT_mem 445 (by decide +kernel) (by decide +kernel))) rfl hK (hW.P (n := H.size)) (hW.D (n := H.size)) hS hA0 (fun cA => rfl) hn0 hv (by show N * _ ≤ 536870912; simp only [newarray.typeOf, componentBytes]; omega) (by show cells + 1 ≤ k1; omega) (by show slots + N ≤ n1; omega) hd key
theorem sg_anew (hE : envOK Γ St) {adV : Nat → Nat} (hX : envX Γ St adV) (hl9 : l.stackTraces = false) (hA : envA Γ St sc) (hLn : envL St) : g_anew (SndG Γ l St) := by
  intro M pc L S c sl u h Q t ix N C v ht hcl hn0 hv hN hc9 hs9 hd kn k1 n1 p e s m args below meth c0 H locs ls cells slots hC hW hS hL hc1 hs1
  obtain ⟨⟨hx, hb, hrt, hm9, hown, hts, hlocks, hexc, hK, hSt⟩, hnm, hA0⟩ := id hC
  obtain ⟨ht, ht3⟩ := ht
  rcases ht with ⟨rfl, rfl⟩ | ⟨rfl, rfl⟩ | ⟨rfl, rfl⟩ | ⟨rfl, rfl⟩
  · exact absurd rfl ht3
  · refine va_newq hx hb hown (hts _ hcl) ((hA.2.2.2.2.1 s hSt).1) hK (hW.P (n := H.size)) (hW.D (n := H.size)) hS hA0 hn0 hv (by omega) (by show cells + 1 ≤ k1; omega) (by show slots + N ≤ n1; omega) hd (fun a cA H1 hK1 hP1 hD1 hS1 => ?_)
    have ec := tg_new (t := 6) hK hK1 rfl
    subst ec
    have hp9 := hW.push (e := .inl (6, N, .inr (.inr (.inr (.inr (fun _ => none)))))) hP1 hD1
    exact kn a hp9.1 k1 n1 p e s m args below meth c0 H1 locs ls (cells + 1) (slots + N) hC hp9.2 hS1 hL (by omega) (by omega)
  · refine va_newq hx hb hown (hts _ hcl) ((hA.2.2.2.2.1 s hSt).2.1) hK (hW.P (n := H.size)) (hW.D (n := H.size)) hS hA0 hn0 hv (by omega) (by show cells + 1 ≤ k1; omega) (by show slots + N ≤ n1; omega) hd (fun a cA H1 hK1 hP1 hD1 hS1 => ?_)
    have ec := tg_new (t := 7) hK hK1 rfl
    subst ec
    have hp9 := hW.push (e := .inl (7, N, .inr (.inr (.inr (.inr (fun _ => none)))))) hP1 hD1
    exact kn a hp9.1 k1 n1 p e s m args below meth c0 H1 locs ls (cells + 1) (slots + N) hC hp9.2 hS1 hL (by omega) (by omega)
  · refine va_newq hx hb hown (hts _ hcl) ((hA.2.2.2.2.1 s hSt).2.2) hK (hW.P (n := H.size)) (hW.D (n := H.size)) hS hA0 hn0 hv (by omega) (by show cells + 1 ≤ k1; omega) (by show slots + N ≤ n1; omega) hd (fun a cA H1 hK1 hP1 hD1 hS1 => ?_)
    have ec := tg_new (t := 8) hK hK1 rfl
    subst ec
    have hp9 := hW.push (e := .inl (8, N, .inr (.inr (.inr (.inr (fun _ => none)))))) hP1 hD1
    exact kn a hp9.1 k1 n1 p e s m args below meth c0 H1 locs ls (cells + 1) (slots + N) hC hp9.2 hS1 hL (by omega) (by omega)
theorem sg_anewA (hE : envOK Γ St) {adV : Nat → Nat} (hX : envX Γ St adV) (hl9 : l.stackTraces = false) (hA : envA Γ St sc) (hLn : envL St) : g_anewA (SndG Γ l St) := by
  intro M pc L S c sl u h Q ix N v hcl hn0 hv hN hc9 hs9 hd kn k1 n1 p e s m args below meth c0 H locs ls cells slots hC hW hS hL hc1 hs1
  obtain ⟨⟨hx, hb, hrt, hm9, hown, hts, hlocks, hexc, hK, hSt⟩, hnm, hA0⟩ := id hC
  refine ag_newA hx hb hown (hts _ hcl) (hA.2.2.2.1 s hSt) hK (hW.P (n := H.size)) (hW.D (n := H.size)) hS hA0 hn0 hv (by omega) (by show cells + 1 ≤ k1; omega) (by show slots + N ≤ n1; omega) hd (fun a H1 hP1 hD1 hS1 => ?_)
  have hp9 := hW.push (e := .inl (9, N, .inr (.inr (.inr (.inr (fun _ => none)))))) hP1 hD1
  exact kn a hp9.1 k1 n1 p e s m args below meth c0 H1 locs ls (cells + 1) (slots + N) hC hp9.2 hS1 hL (by omega) (by omega)
theorem sg_l_max (hE : envOK Γ St) {adV : Nat → Nat} (hX : envX Γ St adV) (hl9 : l.stackTraces = false) (hA : envA Γ St sc) (hLn : envL St) : g_l_max (SndG Γ l St) := by
  intro M pc L S c sl u h Q ix x y hlk hr9 hcS hd kn k1 n1 p e s m args below meth c0 H locs ls cells slots hC hW hS hL hc1 hs1
  obtain ⟨⟨hx, hb, hrt, hm9, hown, hts, hlocks, hexc, hK, hSt⟩, hnm, hA0⟩ := id hC
  refine va_mmax (rest := S) hx hb (hm9.trans hL.1.symm) hown (hts _ hlk) (hts _ (gT_mem 423 (by decide +kernel) (by decide +kernel))) (hts _ (gT_mem 37 (by decide +kernel) (by decide +kernel))) (hts _ (gT_mem 424 (by decide +kernel) (by decide +kernel))) hr9.1 ?_ (by show cells ≤ k1; omega) (by show slots ≤ n1; omega) hd ?_
  · have := catG hcS
    show _ ≤ M.2.2.2.2.2
    omega
  · exact kn k1 n1 p e s m args below meth c0 H locs ls cells slots hC hW hS hL hc1 hs1
theorem sg_l_min (hE : envOK Γ St) {adV : Nat → Nat} (hX : envX Γ St adV) (hl9 : l.stackTraces = false) (hA : envA Γ St sc) (hLn : envL St) : g_l_min (SndG Γ l St) := by
  intro M pc L S c sl u h Q ix x y hlk hr9 hcS hd kn k1 n1 p e s m args below meth c0 H locs ls cells slots hC hW hS hL hc1 hs1
  obtain ⟨⟨hx, hb, hrt, hm9, hown, hts, hlocks, hexc, hK, hSt⟩, hnm, hA0⟩ := id hC
  refine va_mmin (rest := S) hx hb (hm9.trans hL.1.symm) hown (hts _ hlk) (hts _ (gT_mem 605 (by decide +kernel) (by decide +kernel))) (hts _ (gT_mem 37 (by decide +kernel) (by decide +kernel))) (hts _ (gT_mem 606 (by decide +kernel) (by decide +kernel))) hr9.1 ?_ (by show cells ≤ k1; omega) (by show slots ≤ n1; omega) hd ?_
  · have := catG hcS
    show _ ≤ M.2.2.2.2.2
    omega
  · exact kn k1 n1 p e s m args below meth c0 H locs ls cells slots hC hW hS hL hc1 hs1
theorem sg_l_abs (hE : envOK Γ St) {adV : Nat → Nat} (hX : envX Γ St adV) (hl9 : l.stackTraces = false) (hA : envA Γ St sc) (hLn : envL St) : g_l_abs (SndG Γ l St) := by
  intro M pc L S c sl u h Q ix x hlk hr9 hcS hd kn k1 n1 p e s m args below meth c0 H locs ls cells slots hC hW hS hL hc1 hs1
  obtain ⟨⟨hx, hb, hrt, hm9, hown, hts, hlocks, hexc, hK, hSt⟩, hnm, hA0⟩ := id hC
  refine va_mabs (rest := S) hx hb (hm9.trans hL.1.symm) hown (hts _ hlk) (hts _ (gT_mem 343 (by decide +kernel) (by decide +kernel))) (hts _ (gT_mem 37 (by decide +kernel) (by decide +kernel))) (hts _ (gT_mem 344 (by decide +kernel) (by decide +kernel))) hr9.1 ?_ (by show cells ≤ k1; omega) (by show slots ≤ n1; omega) hd ?_
  · have := catG hcS
    show _ ≤ M.2.2.2.2.2
    omega
  · exact kn k1 n1 p e s m args below meth c0 H locs ls cells slots hC hW hS hL hc1 hs1
theorem sg_l_cpb (hE : envOK Γ St) {adV : Nat → Nat} (hX : envX Γ St adV) (hl9 : l.stackTraces = false) (hA : envA Γ St sc) (hLn : envL St) : g_l_cpb (SndG Γ l St) := by
  intro M pc L S c sl u h Q ix a q n0 n1 f g sp dp n hlk hr9 hcS ha hb9 g1 g2 g3 g4 g5 g6 hd kn k1 n1 p e s m args below meth c0 H locs ls cells slots hC hW hS hL hc1 hs1
  obtain ⟨⟨hx, hb, hrt, hm9, hown, hts, hlocks, hexc, hK, hSt⟩, hnm, hA0⟩ := id hC
  obtain ⟨k9, hk9⟩ := hW.get ha
  obtain ⟨k8, hk8⟩ := hW.get hb9
  refine va_copyi (a := q) (a0 := a) (rest := S) (ty := .byte) hx hb (hm9.trans hL.1.symm) hown (hts _ hlk) (hts _ (gT_mem 290 (by decide +kernel) (by decide +kernel))) (hts _ (gT_mem 289 (by decide +kernel) (by decide +kernel))) (hts _ (gT_mem 46 (by decide +kernel) (by decide +kernel))) hK hW.P hW.D hS k9 k8 1 1 hk9 hk8 rfl rfl rfl g1 g2 g3 g4 g5 g6 (by show 1 ≤ M.2.2.2.2.1; omega) ?_ hd (fun H1 locs1 hP1 hD1 hS1 => ?_)
  · have := catG hcS
    have e9 : nativeFrameWords "java/lang/System" "arraycopy" 5 = 7 := by decide
    rw [e9]
    show _ ≤ M.2.2.2.2.2
    omega
  · exact kn k1 n1 p e s m args below meth c0 H1 locs1 ls cells slots hC (hW.upd hb9 hk8 hP1) hS1 hL hc1 hs1
theorem sg_tgv (hE : envOK Γ St) {adV : Nat → Nat} (hX : envX Γ St adV) (hl9 : l.stackTraces = false) (hA : envA Γ St sc) (hLn : envL St) : g_tgv Γ.1 (SndG Γ l St) := by
  intro M pc L S c sl u h Q ix j hlk hj hd kn k1 n1 p e s m args below meth c0 H locs ls cells slots hC hW hS hL hc1 hs1
  obtain ⟨⟨hx, hb, hrt, hm9, hown, hts, hlocks, hexc, hK, hSt⟩, hnm, hA0⟩ := id hC
  exact vk_getf hx hb (hA.2.2.2.2.2.2.2 s hSt j hj).2.2.1 hS hown (hts _ hlk) (fun _ h => h) hd (kn k1 n1 p e s m args below meth c0 H locs ls cells slots hC hW hS hL hc1 hs1)
theorem sg_tal (hE : envOK Γ St) {adV : Nat → Nat} (hX : envX Γ St adV) (hl9 : l.stackTraces = false) (hA : envA Γ St sc) (hLn : envL St) : g_tal Γ.1 (SndG Γ l St) := by
  intro M pc L S c sl u h Q j v hj hv hd kn k1 n1 p e s m args below meth c0 H locs ls cells slots hC hW hS hL hc1 hs1
  obtain ⟨⟨hx, hb, hrt, hm9, hown, hts, hlocks, hexc, hK, hSt⟩, hnm, hA0⟩ := id hC
  exact va_tlen hx hb (hA.2.2.2.2.2.2.2 s hSt j hj).2.2.2 hS ((I_nat _).trans hv.symm) hd (kn k1 n1 p e s m args below meth c0 H locs ls cells slots hC hW hS hL hc1 hs1)
theorem sg_cpt (hE : envOK Γ St) {adV : Nat → Nat} (hX : envX Γ St adV) (hl9 : l.stackTraces = false) (hA : envA Γ St sc) (hLn : envL St) : g_cpt Γ.1 (SndG Γ l St) := by
  intro M pc L S c sl u h Q ix j q n1 g sp dp n hlk hr9 hcS hj hb9 g1 g2 g3 g4 g5 g6 hd kn k1 n1 p e s m args below meth c0 H locs ls cells slots hC hW hS hL hc1 hs1
  obtain ⟨⟨hx, hb, hrt, hm9, hown, hts, hlocks, hexc, hK, hSt⟩, hnm, hA0⟩ := id hC
  obtain ⟨k8, hk8⟩ := hW.get hb9
  refine vk_copyt (a := q) (rest := S) hx hb (hm9.trans hL.1.symm) hown (hts _ hlk) (hts _ (gT_mem 290 (by decide +kernel) (by decide +kernel))) (hts _ (gT_mem 289 (by decide +kernel) (by decide +kernel))) (hts _ (gT_mem 46 (by decide +kernel) (by decide +kernel))) hK hW.P hW.D hS (hA.2.2.2.2.2.2.2 s hSt j hj).2.2.2 k8 1 hk8 rfl g1 g2 g3 g4 g5 g6 (by show 1 ≤ M.2.2.2.2.1; omega) ?_ hd (fun H1 locs1 hP1 hD1 hS1 => ?_)
  · have := catG hcS
    have e9 : nativeFrameWords "java/lang/System" "arraycopy" 5 = 7 := by decide
    rw [e9]
    show _ ≤ M.2.2.2.2.2
    omega
  · exact kn k1 n1 p e s m args below meth c0 H1 locs1 ls cells slots hC (hW.upd hb9 hk8 hP1) hS1 hL hc1 hs1
theorem sg_obj (hE : envOK Γ St) {adV : Nat → Nat} (hX : envX Γ St adV) (hl9 : l.stackTraces = false) (hA : envA Γ St sc) (hLn : envL St) : g_obj (SndG Γ l St) := by
  intro M pc L S c sl u h Q ix a hlk hr9 hcS hd kn k1 n1 p e s m args below meth c0 H locs ls cells slots hC hW hS hL hc1 hs1
  obtain ⟨⟨hx, hb, hrt, hm9, hown, hts, hlocks, hexc, hK, hSt⟩, hnm, hA0⟩ := id hC
  exact W.objInit hx hb hown (hts _ hlk) (hts _ (gT_mem 61 (by decide +kernel) (by decide +kernel))) (hts _ (gT_mem 62 (by decide +kernel) (by decide +kernel))) rfl (hL.1.trans hm9.symm) rfl hd hr9.1 (by have := catG hcS; show 2 * 0 + _ + 12 ≤ M.2.2.2.2.2; omega) (kn k1 n1 p e s m args below meth c0 H locs ls cells slots hC hW hS hL hc1 hs1)
theorem sg_if_eq (hE : envOK Γ St) {adV : Nat → Nat} (hX : envX Γ St adV) (hl9 : l.stackTraces = false) (hA : envA Γ St sc) (hLn : envL St) : g_if_eq (SndG Γ l St) := by
  intro M pc L S c sl u h Q x off tgt hd ht ka kb k1 n1 p e s m args below meth c0 H locs ls cells slots hC hW hS hL hc1 hs1
  obtain ⟨⟨hx, hb, hrt, hm9, hown, hts, hlocks, hexc, hK, hSt⟩, hnm, hA0⟩ := id hC
  exact lv_if_eq hx hb hd ht (fun q => ka q k1 n1 p e s m args below meth c0 H locs ls cells slots hC hW hS hL hc1 hs1) (fun q => kb q k1 n1 p e s m args below meth c0 H locs ls cells slots hC hW hS hL hc1 hs1)
theorem sg_if_ne (hE : envOK Γ St) {adV : Nat → Nat} (hX : envX Γ St adV) (hl9 : l.stackTraces = false) (hA : envA Γ St sc) (hLn : envL St) : g_if_ne (SndG Γ l St) := by
  intro M pc L S c sl u h Q x off tgt hd ht ka kb k1 n1 p e s m args below meth c0 H locs ls cells slots hC hW hS hL hc1 hs1
  obtain ⟨⟨hx, hb, hrt, hm9, hown, hts, hlocks, hexc, hK, hSt⟩, hnm, hA0⟩ := id hC
  exact lv_if_ne hx hb hd ht (fun q => ka q k1 n1 p e s m args below meth c0 H locs ls cells slots hC hW hS hL hc1 hs1) (fun q => kb (fun z => z q) k1 n1 p e s m args below meth c0 H locs ls cells slots hC hW hS hL hc1 hs1)
theorem sg_if_lt (hE : envOK Γ St) {adV : Nat → Nat} (hX : envX Γ St adV) (hl9 : l.stackTraces = false) (hA : envA Γ St sc) (hLn : envL St) : g_if_lt (SndG Γ l St) := by
  intro M pc L S c sl u h Q x off tgt hd ht ka kb k1 n1 p e s m args below meth c0 H locs ls cells slots hC hW hS hL hc1 hs1
  obtain ⟨⟨hx, hb, hrt, hm9, hown, hts, hlocks, hexc, hK, hSt⟩, hnm, hA0⟩ := id hC
  exact lv_if_lt hx hb hd ht (fun q => ka q k1 n1 p e s m args below meth c0 H locs ls cells slots hC hW hS hL hc1 hs1) (fun q => kb q k1 n1 p e s m args below meth c0 H locs ls cells slots hC hW hS hL hc1 hs1)
theorem sg_if_ge (hE : envOK Γ St) {adV : Nat → Nat} (hX : envX Γ St adV) (hl9 : l.stackTraces = false) (hA : envA Γ St sc) (hLn : envL St) : g_if_ge (SndG Γ l St) := by
  intro M pc L S c sl u h Q x off tgt hd ht ka kb k1 n1 p e s m args below meth c0 H locs ls cells slots hC hW hS hL hc1 hs1
  obtain ⟨⟨hx, hb, hrt, hm9, hown, hts, hlocks, hexc, hK, hSt⟩, hnm, hA0⟩ := id hC
  exact lv_if_ge hx hb hd ht (fun q => ka q k1 n1 p e s m args below meth c0 H locs ls cells slots hC hW hS hL hc1 hs1) (fun q => kb q k1 n1 p e s m args below meth c0 H locs ls cells slots hC hW hS hL hc1 hs1)
theorem sg_if_gt (hE : envOK Γ St) {adV : Nat → Nat} (hX : envX Γ St adV) (hl9 : l.stackTraces = false) (hA : envA Γ St sc) (hLn : envL St) : g_if_gt (SndG Γ l St) := by
  intro M pc L S c sl u h Q x off tgt hd ht ka kb k1 n1 p e s m args below meth c0 H locs ls cells slots hC hW hS hL hc1 hs1
  obtain ⟨⟨hx, hb, hrt, hm9, hown, hts, hlocks, hexc, hK, hSt⟩, hnm, hA0⟩ := id hC
  exact lv_if_gt hx hb hd ht (fun q => ka q k1 n1 p e s m args below meth c0 H locs ls cells slots hC hW hS hL hc1 hs1) (fun q => kb q k1 n1 p e s m args below meth c0 H locs ls cells slots hC hW hS hL hc1 hs1)
theorem sg_if_le (hE : envOK Γ St) {adV : Nat → Nat} (hX : envX Γ St adV) (hl9 : l.stackTraces = false) (hA : envA Γ St sc) (hLn : envL St) : g_if_le (SndG Γ l St) := by
  intro M pc L S c sl u h Q x off tgt hd ht ka kb k1 n1 p e s m args below meth c0 H locs ls cells slots hC hW hS hL hc1 hs1
  obtain ⟨⟨hx, hb, hrt, hm9, hown, hts, hlocks, hexc, hK, hSt⟩, hnm, hA0⟩ := id hC
  exact lv_if_le hx hb hd ht (fun q => ka q k1 n1 p e s m args below meth c0 H locs ls cells slots hC hW hS hL hc1 hs1) (fun q => kb q k1 n1 p e s m args below meth c0 H locs ls cells slots hC hW hS hL hc1 hs1)
theorem sg_icmp_eq (hE : envOK Γ St) {adV : Nat → Nat} (hX : envX Γ St adV) (hl9 : l.stackTraces = false) (hA : envA Γ St sc) (hLn : envL St) : g_icmp_eq (SndG Γ l St) := by
  intro M pc L S c sl u h Q x y off tgt hd ht ka kb k1 n1 p e s m args below meth c0 H locs ls cells slots hC hW hS hL hc1 hs1
  obtain ⟨⟨hx, hb, hrt, hm9, hown, hts, hlocks, hexc, hK, hSt⟩, hnm, hA0⟩ := id hC
  exact lv_icmp_eq hx hb hd ht (fun q => ka q k1 n1 p e s m args below meth c0 H locs ls cells slots hC hW hS hL hc1 hs1) (fun q => kb q k1 n1 p e s m args below meth c0 H locs ls cells slots hC hW hS hL hc1 hs1)
theorem sg_icmp_ne (hE : envOK Γ St) {adV : Nat → Nat} (hX : envX Γ St adV) (hl9 : l.stackTraces = false) (hA : envA Γ St sc) (hLn : envL St) : g_icmp_ne (SndG Γ l St) := by
  intro M pc L S c sl u h Q x y off tgt hd ht ka kb k1 n1 p e s m args below meth c0 H locs ls cells slots hC hW hS hL hc1 hs1
  obtain ⟨⟨hx, hb, hrt, hm9, hown, hts, hlocks, hexc, hK, hSt⟩, hnm, hA0⟩ := id hC
  exact lv_icmp_ne hx hb hd ht (fun q => ka q k1 n1 p e s m args below meth c0 H locs ls cells slots hC hW hS hL hc1 hs1) (fun q => kb (fun z => z q) k1 n1 p e s m args below meth c0 H locs ls cells slots hC hW hS hL hc1 hs1)
theorem sg_icmp_lt (hE : envOK Γ St) {adV : Nat → Nat} (hX : envX Γ St adV) (hl9 : l.stackTraces = false) (hA : envA Γ St sc) (hLn : envL St) : g_icmp_lt (SndG Γ l St) := by
  intro M pc L S c sl u h Q x y off tgt hd ht ka kb k1 n1 p e s m args below meth c0 H locs ls cells slots hC hW hS hL hc1 hs1
  obtain ⟨⟨hx, hb, hrt, hm9, hown, hts, hlocks, hexc, hK, hSt⟩, hnm, hA0⟩ := id hC
  exact lv_icmp_lt hx hb hd ht (fun q => ka q k1 n1 p e s m args below meth c0 H locs ls cells slots hC hW hS hL hc1 hs1) (fun q => kb q k1 n1 p e s m args below meth c0 H locs ls cells slots hC hW hS hL hc1 hs1)
theorem sg_icmp_ge (hE : envOK Γ St) {adV : Nat → Nat} (hX : envX Γ St adV) (hl9 : l.stackTraces = false) (hA : envA Γ St sc) (hLn : envL St) : g_icmp_ge (SndG Γ l St) := by
  intro M pc L S c sl u h Q x y off tgt hd ht ka kb k1 n1 p e s m args below meth c0 H locs ls cells slots hC hW hS hL hc1 hs1
  obtain ⟨⟨hx, hb, hrt, hm9, hown, hts, hlocks, hexc, hK, hSt⟩, hnm, hA0⟩ := id hC
  exact lv_icmp_ge hx hb hd ht (fun q => ka q k1 n1 p e s m args below meth c0 H locs ls cells slots hC hW hS hL hc1 hs1) (fun q => kb q k1 n1 p e s m args below meth c0 H locs ls cells slots hC hW hS hL hc1 hs1)
theorem sg_icmp_gt (hE : envOK Γ St) {adV : Nat → Nat} (hX : envX Γ St adV) (hl9 : l.stackTraces = false) (hA : envA Γ St sc) (hLn : envL St) : g_icmp_gt (SndG Γ l St) := by
  intro M pc L S c sl u h Q x y off tgt hd ht ka kb k1 n1 p e s m args below meth c0 H locs ls cells slots hC hW hS hL hc1 hs1
  obtain ⟨⟨hx, hb, hrt, hm9, hown, hts, hlocks, hexc, hK, hSt⟩, hnm, hA0⟩ := id hC
  exact lv_icmp_gt hx hb hd ht (fun q => ka q k1 n1 p e s m args below meth c0 H locs ls cells slots hC hW hS hL hc1 hs1) (fun q => kb q k1 n1 p e s m args below meth c0 H locs ls cells slots hC hW hS hL hc1 hs1)
theorem sg_icmp_le (hE : envOK Γ St) {adV : Nat → Nat} (hX : envX Γ St adV) (hl9 : l.stackTraces = false) (hA : envA Γ St sc) (hLn : envL St) : g_icmp_le (SndG Γ l St) := by
  intro M pc L S c sl u h Q x y off tgt hd ht ka kb k1 n1 p e s m args below meth c0 H locs ls cells slots hC hW hS hL hc1 hs1
  obtain ⟨⟨hx, hb, hrt, hm9, hown, hts, hlocks, hexc, hK, hSt⟩, hnm, hA0⟩ := id hC
  exact lv_icmp_le hx hb hd ht (fun q => ka q k1 n1 p e s m args below meth c0 H locs ls cells slots hC hW hS hL hc1 hs1) (fun q => kb q k1 n1 p e s m args below meth c0 H locs ls cells slots hC hW hS hL hc1 hs1)
theorem sg_goto (hE : envOK Γ St) {adV : Nat → Nat} (hX : envX Γ St adV) (hl9 : l.stackTraces = false) (hA : envA Γ St sc) (hLn : envL St) : g_goto (SndG Γ l St) := by
  intro M pc L S c sl u h Q off tgt hd ht ka k1 n1 p e s m args below meth c0 H locs ls cells slots hC hW hS hL hc1 hs1
  obtain ⟨⟨hx, hb, hrt, hm9, hown, hts, hlocks, hexc, hK, hSt⟩, hnm, hA0⟩ := id hC
  exact lv_goto hx hb hd ht (ka k1 n1 p e s m args below meth c0 H locs ls cells slots hC hW hS hL hc1 hs1)
theorem sg_nonnull (hE : envOK Γ St) {adV : Nat → Nat} (hX : envX Γ St adV) (hl9 : l.stackTraces = false) (hA : envA Γ St sc) (hLn : envL St) : g_nonnull (SndG Γ l St) := by
  intro M pc L S c sl u h Q x off tgt hd ht ka k1 n1 p e s m args below meth c0 H locs ls cells slots hC hW hS hL hc1 hs1
  obtain ⟨⟨hx, hb, hrt, hm9, hown, hts, hlocks, hexc, hK, hSt⟩, hnm, hA0⟩ := id hC
  exact lv_ifnonnull hx hb hd ht (ka k1 n1 p e s m args below meth c0 H locs ls cells slots hC hW hS hL hc1 hs1)
theorem sg_nonnullN (hE : envOK Γ St) {adV : Nat → Nat} (hX : envX Γ St adV) (hl9 : l.stackTraces = false) (hA : envA Γ St sc) (hLn : envL St) : g_nonnullN (SndG Γ l St) := by
  intro M pc L S c sl u h Q off hd ka k1 n1 p e s m args below meth c0 H locs ls cells slots hC hW hS hL hc1 hs1
  obtain ⟨⟨hx, hb, hrt, hm9, hown, hts, hlocks, hexc, hK, hSt⟩, hnm, hA0⟩ := id hC
  exact lv_ifnonnullN hx hb hd (ka k1 n1 p e s m args below meth c0 H locs ls cells slots hC hW hS hL hc1 hs1)
theorem sg_ifnull (hE : envOK Γ St) {adV : Nat → Nat} (hX : envX Γ St adV) (hl9 : l.stackTraces = false) (hA : envA Γ St sc) (hLn : envL St) : g_ifnull (SndG Γ l St) := by
  intro M pc L S c sl u h Q x off hd ka k1 n1 p e s m args below meth c0 H locs ls cells slots hC hW hS hL hc1 hs1
  obtain ⟨⟨hx, hb, hrt, hm9, hown, hts, hlocks, hexc, hK, hSt⟩, hnm, hA0⟩ := id hC
  exact lv_ifnull hx hb hd (ka k1 n1 p e s m args below meth c0 H locs ls cells slots hC hW hS hL hc1 hs1)
theorem sg_ifnullN (hE : envOK Γ St) {adV : Nat → Nat} (hX : envX Γ St adV) (hl9 : l.stackTraces = false) (hA : envA Γ St sc) (hLn : envL St) : g_ifnullN (SndG Γ l St) := by
  intro M pc L S c sl u h Q off tgt hd ht ka k1 n1 p e s m args below meth c0 H locs ls cells slots hC hW hS hL hc1 hs1
  obtain ⟨⟨hx, hb, hrt, hm9, hown, hts, hlocks, hexc, hK, hSt⟩, hnm, hA0⟩ := id hC
  exact lv_ifnullN hx hb hd ht (ka k1 n1 p e s m args below meth c0 H locs ls cells slots hC hW hS hL hc1 hs1)
theorem sg_tabI (hE : envOK Γ St) {adV : Nat → Nat} (hX : envX Γ St adV) (hl9 : l.stackTraces = false) (hA : envA Γ St sc) (hLn : envL St) : g_tabI (SndG Γ l St) := by
  intro M pc L S c sl u h Q dflt lo hi offs len x off tgt hd h1 h2 ho ht ka k1 n1 p e s m args below meth c0 H locs ls cells slots hC hW hS hL hc1 hs1
  obtain ⟨⟨hx, hb, hrt, hm9, hown, hts, hlocks, hexc, hK, hSt⟩, hnm, hA0⟩ := id hC
  exact lv_tableIn hx hb hd h1 h2 ho ht (ka k1 n1 p e s m args below meth c0 H locs ls cells slots hC hW hS hL hc1 hs1)
theorem sg_tabO (hE : envOK Γ St) {adV : Nat → Nat} (hX : envX Γ St adV) (hl9 : l.stackTraces = false) (hA : envA Γ St sc) (hLn : envL St) : g_tabO (SndG Γ l St) := by
  intro M pc L S c sl u h Q dflt lo hi offs len x tgt hd h1 ht ka k1 n1 p e s m args below meth c0 H locs ls cells slots hC hW hS hL hc1 hs1
  obtain ⟨⟨hx, hb, hrt, hm9, hown, hts, hlocks, hexc, hK, hSt⟩, hnm, hA0⟩ := id hC
  exact lv_tableOut hx hb hd h1 ht (ka k1 n1 p e s m args below meth c0 H locs ls cells slots hC hW hS hL hc1 hs1)
theorem sg_iinc (hE : envOK Γ St) {adV : Nat → Nat} (hX : envX Γ St adV) (hl9 : l.stackTraces = false) (hA : envA Γ St sc) (hLn : envL St) : g_iinc (SndG Γ l St) := by
  intro M pc L S c sl u h Q i n x v hd hl hv hn hq ka k1 n1 p e s m args below meth c0 H locs ls cells slots hC hW hS hL hc1 hs1
  obtain ⟨⟨hx, hb, hrt, hm9, hown, hts, hlocks, hexc, hK, hSt⟩, hnm, hA0⟩ := id hC
  have hm : (i, Value.int x) ∈ lstG L := lstG_mem.mpr ⟨.int x, hl, rfl, rfl⟩
  obtain ⟨k9, hk9⟩ := List.getElem?_of_mem hm
  refine lv_iinc hx hb hd hL.has hk9 hv hn rfl (fun ls9 hl9 => ?_)
  exact ka k1 n1 p e s m args below meth c0 H locs ls9 cells slots hC hW hS (LG.store1 hL (v := .int v) rfl hq hl9) hc1 hs1
theorem sg_forg (hE : envOK Γ St) {adV : Nat → Nat} (hX : envX Γ St adV) (hl9 : l.stackTraces = false) (hA : envA Γ St sc) (hLn : envL St) : g_forg (SndG Γ l St) := by
  intro M pc L S c sl u h Q i ka k1 n1 p e s m args below meth c0 H locs ls cells slots hC hW hS hL hc1 hs1
  obtain ⟨⟨hx, hb, hrt, hm9, hown, hts, hlocks, hexc, hK, hSt⟩, hnm, hA0⟩ := id hC
  exact ka k1 n1 p e s m args below meth c0 H locs ls cells slots hC hW hS hL.weaken hc1 hs1
theorem sg_less (hE : envOK Γ St) {adV : Nat → Nat} (hX : envX Γ St adV) (hl9 : l.stackTraces = false) (hA : envA Γ St sc) (hLn : envL St) : g_less (SndG Γ l St) := by
  intro M pc L S c sl u h Q c2 s2 h2 h3 ka k1 n1 p e s m args below meth c0 H locs ls cells slots hC hW hS hL hc1 hs1
  obtain ⟨⟨hx, hb, hrt, hm9, hown, hts, hlocks, hexc, hK, hSt⟩, hnm, hA0⟩ := id hC
  exact ka k1 n1 p e s m args below meth c0 H locs ls cells slots hC hW hS hL (by omega) (by omega)
theorem sg_nret (hE : envOK Γ St) {adV : Nat → Nat} (hX : envX Γ St adV) (hl9 : l.stackTraces = false) (hA : envA Γ St sc) (hLn : envL St) : g_nret (SndG Γ l St) := by
  intro M pc L c sl u h Q x ty hd hr hn hq k1 n1 p e s m args below meth c0 H locs ls cells slots hC hW hS hL hc1 hs1
  obtain ⟨⟨hx, hb, hrt, hm9, hown, hts, hlocks, hexc, hK, hSt⟩, hnm, hA0⟩ := id hC
  rw [QcA_some (by rw [hr]; intro z; cases z)]
  refine W.widen (k := k1) (n := n1) (by omega) (by omega) ?_
  exact W.zret (v := x) (ty := ty) hx hb (hrt.trans hr) hn (fun t ht9 _ => ⟨⟨_, (u, h), rfl, hq, by show WG Γ u h t.heap; rw [ht9]; exact hW⟩, hS.F ht9⟩) hS.2.2 hd hlocks
theorem sg_aret (hE : envOK Γ St) {adV : Nat → Nat} (hX : envX Γ St adV) (hl9 : l.stackTraces = false) (hA : envA Γ St sc) (hLn : envL St) : g_aret (SndG Γ l St) := by
  intro M pc L c sl u h Q v ty hd hr ht hv hq k1 n1 p e s m args below meth c0 H locs ls cells slots hC hW hS hL hc1 hs1
  obtain ⟨⟨hx, hb, hrt, hm9, hown, hts, hlocks, hexc, hK, hSt⟩, hnm, hA0⟩ := id hC
  rw [QcA_some (by rw [hr]; intro z; cases z)]
  refine W.widen (k := k1) (n := n1) (by omega) (by omega) ?_
  exact W.aret (v := v) hx hb (hrt.trans hr) ht hv (fun t ht9 _ => ⟨⟨_, (u, h), rfl, hq, by show WG Γ u h t.heap; rw [ht9]; exact hW⟩, hS.F ht9⟩) hS.2.2 hd hlocks
theorem sg_lret (hE : envOK Γ St) {adV : Nat → Nat} (hX : envX Γ St adV) (hl9 : l.stackTraces = false) (hA : envA Γ St sc) (hLn : envL St) : g_lret (SndG Γ l St) := by
  intro M pc L c sl u h Q x hd hr hq k1 n1 p e s m args below meth c0 H locs ls cells slots hC hW hS hL hc1 hs1
  obtain ⟨⟨hx, hb, hrt, hm9, hown, hts, hlocks, hexc, hK, hSt⟩, hnm, hA0⟩ := id hC
  rw [QcA_some (by rw [hr]; intro z; cases z)]
  refine W.widen (k := k1) (n := n1) (by omega) (by omega) ?_
  exact W.lret (v := x) hx hb (hrt.trans hr) (fun t ht9 _ => ⟨⟨_, (u, h), rfl, hq, by show WG Γ u h t.heap; rw [ht9]; exact hW⟩, hS.F ht9⟩) hS.2.2 hd hlocks
theorem sg_vret (hE : envOK Γ St) {adV : Nat → Nat} (hX : envX Γ St adV) (hl9 : l.stackTraces = false) (hA : envA Γ St sc) (hLn : envL St) : g_vret (SndG Γ l St) := by
  intro M pc L c sl u h Q  hd hr hq k1 n1 p e s m args below meth c0 H locs ls cells slots hC hW hS hL hc1 hs1
  obtain ⟨⟨hx, hb, hrt, hm9, hown, hts, hlocks, hexc, hK, hSt⟩, hnm, hA0⟩ := id hC
  rw [QcA_none hr]
  refine W.widen (k := k1) (n := n1) (by omega) (by omega) ?_
  exact W.vret hx hb (hrt.trans hr) (fun t ht9 _ => ⟨⟨(u, h), rfl, hq, by show WG Γ u h t.heap; rw [ht9]; exact hW⟩, hS.F ht9⟩) hS.2.2 hd hlocks
theorem sg_cv (hE : envOK Γ St) {adV : Nat → Nat} (hX : envX Γ St adV) (hl9 : l.stackTraces = false) (hA : envA Γ St sc) (hLn : envL St) : g_cv (SndG Γ l St) := by
  intro M pc L S c sl u h Q ix n cy sy a ci Y As fs T N Q1 hd hl hlen hcA hcS ha hcl hret hcy hsy ka kb k1 n1 p e s m args below meth c0 H locs ls cells slots hC hW hS hL hc1 hs1
  obtain ⟨⟨hx, hb, hrt, hm9, hown, hts, hlocks, hexc, hK, hSt⟩, hnm, hA0⟩ := id hC
  have hM := sg_met (l := l) (Γ := Γ) (St := St) hE (As := (.ref a :: As)) hl.1.2.2.2.2.1 (by unfold cat1 at hcA ⊢; simp only [List.all_cons, Bool.and_eq_true]; exact ⟨rfl, hcA⟩) (by have := hl.2.2.2; simp only [List.length_cons]; omega) ka
  have hcw := cwV (R := rmG M k1 n1) (own := M.1.cls) (index := ix) (C := Y.1.cls) (y := Y.1) (bytes := Y.2.1) (maxL := Y.2.2.1) (ret := Y.2.2.2.1) (ws := wsM Y) (rm := rmG Y cy sy) (mc := cy) (ms := sy) n hts (lnV_good hl) rfl rfl rfl ⟨rfl, hl.1.2.2.2.1⟩ ⟨hl.1.2.2.2.2.2.1, hl.1.2.2.2.2.2.2⟩
  obtain ⟨k9, hk9⟩ := hW.get ha
  have hrun := va_runV (p := p) (e := e) (R := rmG M k1 n1) (below := below) (meth := meth) (cells := cells) (slots := slots) (locs := locs) (g := F0 m pc ls (As.reverse ++ .ref a :: S)) (rest := S) ⟨hx, hb, hm9, hown, hts⟩ hM hcw ⟨PcA.blind hE, va_recv hK (hW.P (n := H.size)) hcl hk9, PcA.mk hE hW hS hK hSt hA0⟩ rfl hlen hL.1 rfl (lv_room (catG hcS)) hd ⟨by show cells + cy ≤ k1; omega, by show slots + sy ≤ n1; omega⟩
  rw [QcA_some hret] at hrun
  refine va_callg hrun hS (fun q _ h => h) (fun q h => h) (fun r w t H1 locs1 ht hvm hq hB hz hk1 hS1 => ?_)
  exact kb r w.1 w.2 hq k1 n1 p e s m args below meth c0 H1 locs1 ls (cells + cy) (slots + sy) hC (by rw [← ht]; exact hB) hS1 hL (by omega) (by omega)
theorem sg_cvv (hE : envOK Γ St) {adV : Nat → Nat} (hX : envX Γ St adV) (hl9 : l.stackTraces = false) (hA : envA Γ St sc) (hLn : envL St) : g_cvv (SndG Γ l St) := by
  intro M pc L S c sl u h Q ix n cy sy a ci Y As fs T N Q1 hd hl hlen hcA hcS ha hcl hret hcy hsy ka kb k1 n1 p e s m args below meth c0 H locs ls cells slots hC hW hS hL hc1 hs1
  obtain ⟨⟨hx, hb, hrt, hm9, hown, hts, hlocks, hexc, hK, hSt⟩, hnm, hA0⟩ := id hC
  have hM := sg_met (l := l) (Γ := Γ) (St := St) hE (As := (.ref a :: As)) hl.1.2.2.2.2.1 (by unfold cat1 at hcA ⊢; simp only [List.all_cons, Bool.and_eq_true]; exact ⟨rfl, hcA⟩) (by have := hl.2.2.2; simp only [List.length_cons]; omega) ka
  have hcw := cwV (R := rmG M k1 n1) (own := M.1.cls) (index := ix) (C := Y.1.cls) (y := Y.1) (bytes := Y.2.1) (maxL := Y.2.2.1) (ret := Y.2.2.2.1) (ws := wsM Y) (rm := rmG Y cy sy) (mc := cy) (ms := sy) n hts (lnV_good hl) rfl rfl rfl ⟨rfl, hl.1.2.2.2.1⟩ ⟨hl.1.2.2.2.2.2.1, hl.1.2.2.2.2.2.2⟩
  obtain ⟨k9, hk9⟩ := hW.get ha
  have hrun := va_runV (p := p) (e := e) (R := rmG M k1 n1) (below := below) (meth := meth) (cells := cells) (slots := slots) (locs := locs) (g := F0 m pc ls (As.reverse ++ .ref a :: S)) (rest := S) ⟨hx, hb, hm9, hown, hts⟩ hM hcw ⟨PcA.blind hE, va_recv hK (hW.P (n := H.size)) hcl hk9, PcA.mk hE hW hS hK hSt hA0⟩ rfl hlen hL.1 rfl (lv_room (catG hcS)) hd ⟨by show cells + cy ≤ k1; omega, by show slots + sy ≤ n1; omega⟩
  rw [QcA_none hret] at hrun
  refine va_callv hrun hS (fun q _ h => h) (fun q h => h) (fun w t H1 locs1 ht hvm hq hB hz hk1 hS1 => ?_)
  exact kb w.1 w.2 hq k1 n1 p e s m args below meth c0 H1 locs1 ls (cells + cy) (slots + sy) hC (by rw [← ht]; exact hB) hS1 hL (by omega) (by omega)
theorem sg_cs (hE : envOK Γ St) {adV : Nat → Nat} (hX : envX Γ St adV) (hl9 : l.stackTraces = false) (hA : envA Γ St sc) (hLn : envL St) : g_cs (SndG Γ l St) := by
  intro M pc L S c sl u h Q ix n cy sy Y As Q1 hd hl hlen hcA hcS hret hcy hsy ka kb k1 n1 p e s m args below meth c0 H locs ls cells slots hC hW hS hL hc1 hs1
  obtain ⟨⟨hx, hb, hrt, hm9, hown, hts, hlocks, hexc, hK, hSt⟩, hnm, hA0⟩ := id hC
  have hM := sg_met (l := l) (Γ := Γ) (St := St) hE (As := As) hl.1.2.2.2.2.1 hcA (by have := hl.2.2; omega) ka
  have hcw := va_cwS (R := rmG M k1 n1) (own := M.1.cls) (index := ix) (y := Y.1) (bytes := Y.2.1) (maxL := Y.2.2.1) (ret := Y.2.2.2.1) (ws := wsM Y) (rm := rmG Y cy sy) (mc := cy) (ms := sy) n hts (lnS_good hl) rfl rfl rfl hl.1.2.2.2.1 ⟨hl.1.2.2.2.2.2.1, hl.1.2.2.2.2.2.2⟩
  have hrun := va_runS (p := p) (e := e) (R := rmG M k1 n1) (below := below) (meth := meth) (cells := cells) (slots := slots) (locs := locs) (g := F0 m pc ls (As.reverse ++ S)) (rest := S) ⟨hx, hb, hm9, hown, hts⟩ hM hcw ⟨PcA.blind hE, PcA.mk hE hW hS hK hSt hA0⟩ rfl hlen hL.1 rfl (lv_room (catG hcS)) hd ⟨by show cells + cy ≤ k1; omega, by show slots + sy ≤ n1; omega⟩
  rw [QcA_some hret] at hrun
  refine va_callg hrun hS (fun q _ h => h) (fun q h => h) (fun r w t H1 locs1 ht hvm hq hB hz hk1 hS1 => ?_)
  exact kb r w.1 w.2 hq k1 n1 p e s m args below meth c0 H1 locs1 ls (cells + cy) (slots + sy) hC (by rw [← ht]; exact hB) hS1 hL (by omega) (by omega)
theorem sg_csv (hE : envOK Γ St) {adV : Nat → Nat} (hX : envX Γ St adV) (hl9 : l.stackTraces = false) (hA : envA Γ St sc) (hLn : envL St) : g_csv (SndG Γ l St) := by
  intro M pc L S c sl u h Q ix n cy sy Y As Q1 hd hl hlen hcA hcS hret hcy hsy ka kb k1 n1 p e s m args below meth c0 H locs ls cells slots hC hW hS hL hc1 hs1
  obtain ⟨⟨hx, hb, hrt, hm9, hown, hts, hlocks, hexc, hK, hSt⟩, hnm, hA0⟩ := id hC
  have hM := sg_met (l := l) (Γ := Γ) (St := St) hE (As := As) hl.1.2.2.2.2.1 hcA (by have := hl.2.2; omega) ka
  have hcw := va_cwS (R := rmG M k1 n1) (own := M.1.cls) (index := ix) (y := Y.1) (bytes := Y.2.1) (maxL := Y.2.2.1) (ret := Y.2.2.2.1) (ws := wsM Y) (rm := rmG Y cy sy) (mc := cy) (ms := sy) n hts (lnS_good hl) rfl rfl rfl hl.1.2.2.2.1 ⟨hl.1.2.2.2.2.2.1, hl.1.2.2.2.2.2.2⟩
  have hrun := va_runS (p := p) (e := e) (R := rmG M k1 n1) (below := below) (meth := meth) (cells := cells) (slots := slots) (locs := locs) (g := F0 m pc ls (As.reverse ++ S)) (rest := S) ⟨hx, hb, hm9, hown, hts⟩ hM hcw ⟨PcA.blind hE, PcA.mk hE hW hS hK hSt hA0⟩ rfl hlen hL.1 rfl (lv_room (catG hcS)) hd ⟨by show cells + cy ≤ k1; omega, by show slots + sy ≤ n1; omega⟩
  rw [QcA_none hret] at hrun
  refine va_callv hrun hS (fun q _ h => h) (fun q h => h) (fun w t H1 locs1 ht hvm hq hB hz hk1 hS1 => ?_)
  exact kb w.1 w.2 hq k1 n1 p e s m args below meth c0 H1 locs1 ls (cells + cy) (slots + sy) hC (by rw [← ht]; exact hB) hS1 hL (by omega) (by omega)
theorem sg_ci (hE : envOK Γ St) {adV : Nat → Nat} (hX : envX Γ St adV) (hl9 : l.stackTraces = false) (hA : envA Γ St sc) (hLn : envL St) : g_ci (SndG Γ l St) := by
  intro M pc L S c sl u h Q ix n cy sy a Y As Q1 hd hl hlen hcA hcS hcy hsy ka kb k1 n1 p e s m args below meth c0 H locs ls cells slots hC hW hS hL hc1 hs1
  obtain ⟨⟨hx, hb, hrt, hm9, hown, hts, hlocks, hexc, hK, hSt⟩, hnm, hA0⟩ := id hC
  have hM := sg_met (l := l) (Γ := Γ) (St := St) hE (As := (.ref a :: As)) hl.2.2.2.2.2.2.2.1 (by unfold cat1 at hcA ⊢; simp only [List.all_cons, Bool.and_eq_true]; exact ⟨rfl, hcA⟩) (by have := hl.2.2.2.2.2.2.2.2.2.2; simp only [List.length_cons]; omega) ka
  have hgd : GoodIn gT (wsM Y) := by
    intro w hw
    rcases List.mem_cons.mp hw with rfl | hw
    · exact ⟨hl.2.2.1, gT_good hl.2.2.1⟩
    · exact ⟨hw, gT_good hw⟩
  have hcw := cwI (R := rmG M k1 n1) (own := M.1.cls) (index := ix) (y := Y.1) (bytes := Y.2.1) (maxL := Y.2.2.1) (ws := wsM Y) (rm := rmG Y cy sy) (mc := cy) (ms := sy) n hts hgd (by unfold wsM; rw [hl.2.2.2.2.2.1]) rfl rfl (hts _ hl.2.1) (hts _ hl.1) (hts _ hl.2.2.2.1) hl.2.2.2.2.1 hl.2.2.2.2.2.2.1 ⟨hl.2.2.2.2.2.2.2.2.1, hl.2.2.2.2.2.2.2.2.2.1⟩
  have hrun := va_runI (p := p) (e := e) (R := rmG M k1 n1) (below := below) (meth := meth) (cells := cells) (slots := slots) (locs := locs) (As := As) (b := a) (g := F0 m pc ls (As.reverse ++ .ref a :: S)) (rest := S) ⟨hx, hb, hm9, hown, hts⟩ hM hcw ⟨PcA.blind hE, PcA.mk hE hW hS hK hSt hA0⟩ rfl hlen hL.1 rfl (lv_room (catG hcS)) hd ⟨by show cells + cy ≤ k1; omega, by show slots + sy ≤ n1; omega⟩
  rw [QcA_none hl.2.2.2.2.2.1] at hrun
  refine va_callv hrun hS (fun q _ h => h) (fun q h => h) (fun w t H1 locs1 ht hvm hq hB hz hk1 hS1 => ?_)
  exact kb w.1 w.2 hq k1 n1 p e s m args below meth c0 H1 locs1 ls (cells + cy) (slots + sy) hC (by rw [← ht]; exact hB) hS1 hL (by omega) (by omega)
theorem sg_cn (hE : envOK Γ St) {adV : Nat → Nat} (hX : envX Γ St adV) (hl9 : l.stackTraces = false) (hA : envA Γ St sc) (hLn : envL St) : g_cn (SndG Γ l St) := by
  intro M pc L S c sl u h Q ix n cy sy a Y As Q1 hd hl hlen hcA hcS hcy hsy ka kb k1 n1 p e s m args below meth c0 H locs ls cells slots hC hW hS hL hc1 hs1
  obtain ⟨⟨hx, hb, hrt, hm9, hown, hts, hlocks, hexc, hK, hSt⟩, hnm, hA0⟩ := id hC
  have hM := sg_met (l := l) (Γ := Γ) (St := St) hE (As := (.ref a :: As)) hl.2.2.2.2.2.2.2.1 (by unfold cat1 at hcA ⊢; simp only [List.all_cons, Bool.and_eq_true]; exact ⟨rfl, hcA⟩) (by have := hl.2.2.2.2.2.2.2.2.2.2; simp only [List.length_cons]; omega) ka
  have hgd : GoodIn gT (wsM Y) := by
    intro w hw
    rcases List.mem_cons.mp hw with rfl | hw
    · exact ⟨hl.2.2.1, gT_good hl.2.2.1⟩
    · exact ⟨hw, gT_good hw⟩
  have hnest : va_Nw (Cond.methodLinkNest M.1.cls ix Y.1 "KitePainterLaw") s := by rw [hl.1.1, hl.1.2.1, hl.1.2.2]; exact hA.2.2.2.2.2.2.1 s hSt
  have hcw := (⟨va_cnB (R := rmG M k1 n1) (own := M.1.cls) (index := ix) (y := Y.1) (bytes := Y.2.1) (maxL := Y.2.2.1) (ret := none) (ws := wsM Y) (rm := rmG Y cy sy) (mc := cy) (ms := sy) n hts hgd (by unfold wsM; rw [hl.2.2.2.2.2.1]) rfl rfl hnest (hts _ hl.2.1) hl.2.2.2.2.2.2.1 ⟨hl.2.2.2.2.2.2.2.2.1, hl.2.2.2.2.2.2.2.2.2.1⟩, hl.2.2.2.2.1, hts _ hl.2.2.2.1⟩ : va_CN (rmG M k1 n1) s args M.1.cls ix Y.1 "KitePainterLaw" Y.2.1 Y.2.2.1 none (wsM Y) (rmG Y cy sy) cy sy n ∧ Y.1.name = "<init>" ∧ (Cond.instanceMethod Y.1).before args s = true)
  have hrun := va_runIN (p := p) (e := e) (R := rmG M k1 n1) (below := below) (meth := meth) (cells := cells) (slots := slots) (locs := locs) (As := As) (b := a) (g := F0 m pc ls (As.reverse ++ .ref a :: S)) (rest := S) ⟨hx, hb, hm9, hown, hts⟩ hM hcw ⟨PcA.blind hE, PcA.mk hE hW hS hK hSt hA0⟩ rfl hlen hL.1 rfl (lv_room (catG hcS)) hd ⟨by show cells + cy ≤ k1; omega, by show slots + sy ≤ n1; omega⟩
  rw [QcA_none hl.2.2.2.2.2.1] at hrun
  refine va_callv hrun hS (fun q _ h => h) (fun q h => h) (fun w t H1 locs1 ht hvm hq hB hz hk1 hS1 => ?_)
  exact kb w.1 w.2 hq k1 n1 p e s m args below meth c0 H1 locs1 ls (cells + cy) (slots + sy) hC (by rw [← ht]; exact hB) hS1 hL (by omega) (by omega)
theorem sg_mna (hE : envOK Γ St) {adV : Nat → Nat} (hX : envX Γ St adV) (hl9 : l.stackTraces = false) (hA : envA Γ St sc) (hLn : envL St) : g_mna (SndG Γ l St) := by
  intro M pc L S c sl u h Q ix N K v v2 hd hcl hn hn2 hv hv2 hN hK9 hc9 hs9 kn k1 n1 p e s m args below meth c0 H locs ls cells slots hC hW hS hL hc1 hs1
  obtain ⟨⟨hx, hb, hrt, hm9, hown, hts, hlocks, hexc, hK, hSt⟩, hnm, hA0⟩ := id hC
  have hcy : s.vm.findClass "[I" = some (Γ.2.2.1 0) := (hK.2 0 (Γ.2.2.1 0, .int) rfl).2
  refine W_mna (R := rmG M k1 n1) (ty := .int) (cy := Γ.2.2.1 0) (N' := N) (K' := K) (z := (K, .inl (fun _ => 0))) hx hb hown (hts _ hcl) (hA.2.2.2.2.2.1 s hSt) (hts _ (gT_mem 148 (by decide +kernel) (by decide +kernel))) hcy hn hn2 hv hv2 (by omega) (by show K * 4 ≤ 536870912; omega) (by omega) rfl rfl (by show cells + (1 + N) ≤ k1; omega) (by show slots + (N + N * K) ≤ n1; omega) (fun cc9 => ?_) hd (fun cA H1 hcA hz1 ho1 hq1 hr1 => ?_)
  · show ({ cls := cc9, slots := Array.replicate K (.int 0), vm := .none } : Cell) = arrV cc9 K (fun _ => .int 0)
    exact arrV_new cc9 K (.int 0)
  have hcy4 : s.vm.findClass ("[" ++ (FieldType.array .int).toString) = some (Γ.2.2.1 4) := (hK.2 4 (Γ.2.2.1 4, .array .int) rfl).2
  have ecy : cA = Γ.2.2.1 4 := Option.some.inj (hcA.symm.trans hcy4)
  subst ecy
  have hf : ∀ j, h (H.size + j) = none := by
    intro j
    cases hh : h (H.size + j) with
    | none => rfl
    | some e0 => have := (hW.2.2 _ e0 hh).1.lt; simp only at this; omega
  have hWk := hW.kept ho1
  have hS1 : va_S Γ.2.2.2 s.heap H1 locs := ⟨by have := hS.1; omega, fun x h1 h2 => (ho1 x (by have := hS.1; omega)).trans (hS.2.1 x h1 h2), hS.2.2⟩
  have hcls : ∀ (b : Nat), H.size ≤ b → ∀ i, i < 112 → Γ.1 i ≠ b := fun b hb9 i hi z => by
    have := (hW.1 i _ (ws_get hi)).lt
    simp only at this
    omega
  have hW1 : WG Γ u (upM h H.size N K) H1 := by
    refine ⟨hWk.1, hWk.2.1, fun a e0 ha => ?_⟩
    unfold upM at ha
    by_cases q1 : a = H.size
    · subst q1
      rw [if_pos rfl] at ha
      cases ha
      exact ⟨hq1, hA0 _ hS.1, hcls _ (Nat.le_refl _)⟩
    · rw [if_neg q1] at ha
      by_cases q2 : H.size < a ∧ a ≤ H.size + N
      · rw [if_pos q2] at ha
        cases ha
        have h5 := hr1 (a - (H.size + 1)) (by omega)
        rw [show H.size + 1 + (a - (H.size + 1)) = a by omega] at h5
        exact ⟨h5, hA0 _ (Nat.le_trans hS.1 (by omega)), hcls _ (by omega)⟩
      · rw [if_neg q2] at ha
        exact hWk.2.2 a e0 ha
  have kz := kn H.size (fun j _ => hf j) k1 n1 p e s m args below meth c0 H1 locs ls (cells + 1 + N) (slots + N + N * K) hC hW1 hS1 hL (by omega) (by omega)
  exact kz
theorem sg_cam (hE : envOK Γ St) {adV : Nat → Nat} (hX : envX Γ St adV) (hl9 : l.stackTraces = false) (hA : envA Γ St sc) (hLn : envL St) : g_cam Γ.1 (SndG Γ l St) := by
  intro M pc L S c sl u h Q ix n Y As Q1 hd hl hlen hcA hcS hnr hu hcls hret k9 kn k1 n1 p e s m args below meth c0 H locs ls cells slots hC hW hS hL hc1 hs1
  obtain ⟨⟨hx, hb, hrt, hm9, hown, hts, hlocks, hexc, hK, hSt⟩, hnm, hA0⟩ := id hC
  obtain ⟨fs, hu⟩ := hu
  have hsub := cut_sub hW hS hA0
  have hE2 := cut_ok hE hsub
  have hX2 := cut_X hX hsub
  have hM := cl_met (l := l) (NC := 112) hE2 hX2 hl9 (As := .ref 0 :: As) hl.1.2.2.1 hl.1.2.2.2.2.1 (by unfold cat1 at hcA ⊢; simp only [List.all_cons, Bool.and_eq_true]; exact ⟨rfl, hcA⟩) (by have := hl.2.2.2; simp only [List.length_cons]; omega) k9
  have hcw := cwV (R := rmG M k1 n1) (own := M.1.cls) (index := ix) (C := Y.1.cls) (y := Y.1) (bytes := Y.2.1) (maxL := Y.2.2.1) (ret := Y.2.2.2.1) (ws := wsM Y) (rm := rmM none Y) (mc := 0) (ms := 0) n hts (lnV_good hl) rfl rfl rfl ⟨rfl, hl.1.2.2.2.1⟩ ⟨hl.1.2.2.2.2.2.1, hl.1.2.2.2.2.2.2⟩
  have hpre : PreV s H Y.1.cls (Γ.1 0) (PcM (cutE Γ H.size) (cutS St H.size) 112 u (.ref 0 :: As)) As := by
    refine ⟨PcM.blind hE2, ?_, fun U hU hw => ⟨?_, by rw [hU]; exact hW.1, cut_D hW, va_K.moved hw.alike hK, hE.1 s U H locs hSt hS hU hw, by rw [hU]; exact Nat.le_refl _⟩⟩
    · have := va_recv (q := (RX5, TX5, 7)) hK hW.1 (show vwCl[5]? = some (RX5, TX5, 7) from rfl) (ws_inr (show 0 < 112 by decide) hu)
      rw [hcls]
      exact this
    · show (_ : Array Value) = _
      rw [List.map_cons, no_ref hnr]
      rfl
  have hrun := va_runV (p := p) (e := e) (R := rmG M k1 n1) (below := below) (meth := meth) (cells := cells) (slots := slots) (locs := locs) (g := F0 m pc ls (As.reverse ++ .ref (Γ.1 0) :: S)) (rest := S) ⟨hx, hb, hm9, hown, hts⟩ hM hcw hpre rfl hlen hL.1 rfl (lv_room (catG hcS)) hd ⟨by show cells + 0 ≤ k1; omega, by show slots + 0 ≤ n1; omega⟩
  rw [Qc_int hret] at hrun
  refine va_calli hrun hS (fun q _ h => hsub q h) (fun q h => hsub q h) (fun r u1 t H1 locs1 ht hvm hq hB hz hk1 hS1 => ?_)
  exact kn r u1 hq k1 n1 p e s m args below meth c0 H1 locs1 ls cells slots hC (cut_back hW (by rw [← ht]; exact hB.1) hB.2 hsub hk1) hS1 hL hc1 hs1
theorem sg_cwr (hE : envOK Γ St) {adV : Nat → Nat} (hX : envX Γ St adV) (hl9 : l.stackTraces = false) (hA : envA Γ St sc) (hLn : envL St) : g_cwr Γ.1 (SndG Γ l St) := by
  intro M pc L S c sl u h Q ix n Y As hh Q1 hd hl hlen hcS hnr hc9 hs9 hF kn k1 n1 p e s m args below meth c0 H locs ls cells slots hC hW hS hL hc1 hs1
  obtain ⟨⟨hx, hb, hrt, hm9, hown, hts, hlocks, hexc, hK, hSt⟩, hnm, hA0⟩ := id hC
  have hsub := cut_sub hW hS hA0
  have hE2 := cut_ok hE hsub
  have hX2 := cut_X hX hsub
  have hM := hF (cutE Γ H.size) l (cutS St H.size) adV hE2 hX2 hl9 (cut_L hLn)
  unfold MetW at hM
  have hG : GoodIn gT (va_wsS M.1.cls ix Y.1 (wsW Y hh)) := by
    intro w hw
    unfold va_wsS at hw
    rcases List.mem_append.mp hw with hw | hw
    · simp only [List.mem_cons, List.not_mem_nil, or_false] at hw
      rcases hw with rfl | rfl | rfl
      · exact ⟨hl.1, gT_good hl.1⟩
      · exact ⟨hl.2.2.2.1, gT_good hl.2.2.2.1⟩
      · exact ⟨hl.2.1, gT_good hl.2.1⟩
    · unfold wsW at hw
      rcases List.mem_cons.mp hw with rfl | hw
      · exact ⟨hl.2.2.1, gT_good hl.2.2.1⟩
      · exact ⟨hw, gT_good hw⟩
  have hcw := vx_cwSW (R := rmG M k1 n1) (own := M.1.cls) (index := ix) (y := Y.1) (bytes := Y.2.1) (maxL := Y.2.2.1) (ret := Y.2.2.2.1) (hh := hh) (ws := wsW Y hh) (rm := rmW Y) (mc := 1) (ms := 6) n hts hG rfl rfl rfl hl.2.2.2.2.1 ⟨hl.2.2.2.2.2.1, hl.2.2.2.2.2.2⟩
  have hpre : PreS s H (PcM (cutE Γ H.size) (cutS St H.size) 112 u (.ref 0 :: As)) (.ref (Γ.1 0) :: As) := by
    refine ⟨PcM.blind hE2, fun U hU hw => ⟨?_, by rw [hU]; exact hW.1, cut_D hW, va_K.moved hw.alike hK, hE.1 s U H locs hSt hS hU hw, by rw [hU]; exact Nat.le_refl _⟩⟩
    show (_ : Array Value) = _
    rw [List.map_cons, no_ref hnr]
    rfl
  have hrun := vx_runSW (p := p) (e := e) (R := rmG M k1 n1) (below := below) (meth := meth) (cells := cells) (slots := slots) (locs := locs) (g := F0 m pc ls (As.reverse ++ .ref (Γ.1 0) :: S)) (rest := S) ⟨hx, hb, hm9, hown, hts⟩ hM hcw hpre rfl (by simp only [List.length_cons]; exact hlen) hL.1 (by simp [F0]) (lv_room (catG hcS)) hd ⟨by show cells + 1 ≤ k1; omega, by show slots + 6 ≤ n1; omega⟩
  refine va_calli hrun hS (fun q _ h => hsub q h) (fun q h => hsub q h) (fun r u1 t H1 locs1 ht hvm hq hB hz hk1 hS1 => ?_)
  exact kn r u1 hq k1 n1 p e s m args below meth c0 H1 locs1 ls (cells + 1) (slots + 6) hC (cut_back hW (by rw [← ht]; exact hB.1) hB.2 hsub hk1) hS1 hL (by omega) (by omega)
theorem sg_cck (hE : envOK Γ St) {adV : Nat → Nat} (hX : envX Γ St adV) (hl9 : l.stackTraces = false) (hA : envA Γ St sc) (hLn : envL St) : g_cck Γ.1 (SndG Γ l St) := by
  intro M pc L S c sl u h Q ix Q1 hd hl hcS hu hF kn k1 n1 p e s m args below meth c0 H locs ls cells slots hC hW hS hL hc1 hs1
  obtain ⟨⟨hx, hb, hrt, hm9, hown, hts, hlocks, hexc, hK, hSt⟩, hnm, hA0⟩ := id hC
  obtain ⟨fs, hu⟩ := hu
  have hsub := cut_sub hW hS hA0
  have hE2 := cut_ok hE hsub
  have hX2 := cut_X hX hsub
  have hM := hF (cutE Γ H.size) l (cutS St H.size) adV hE2 hX2 hl9
  unfold MetL at hM
  have hcw := cwV (R := rmG M k1 n1) (own := M.1.cls) (index := ix) (C := M_X5_checksum.1.cls) (y := M_X5_checksum.1) (bytes := M_X5_checksum.2.1) (maxL := M_X5_checksum.2.2.1) (ret := M_X5_checksum.2.2.2.1) (ws := wsM M_X5_checksum) (rm := rmM none M_X5_checksum) (mc := 0) (ms := 0) 0 hts (lnV_good hl) rfl rfl rfl ⟨rfl, hl.1.2.2.2.1⟩ ⟨hl.1.2.2.2.2.2.1, hl.1.2.2.2.2.2.2⟩
  have hpre : PreV s H M_X5_checksum.1.cls (Γ.1 0) (PcM (cutE Γ H.size) (cutS St H.size) 112 u [.ref 0]) [] := by
    refine ⟨PcM.blind hE2, ?_, fun U hU hw => ⟨rfl, by rw [hU]; exact hW.1, cut_D hW, va_K.moved hw.alike hK, hE.1 s U H locs hSt hS hU hw, by rw [hU]; exact Nat.le_refl _⟩⟩
    exact va_recv (q := (RX5, TX5, 7)) hK hW.1 (show vwCl[5]? = some (RX5, TX5, 7) from rfl) (ws_inr (show 0 < 112 by decide) hu)
  have hrun := va_runV (p := p) (e := e) (R := rmG M k1 n1) (below := below) (meth := meth) (cells := cells) (slots := slots) (locs := locs) (g := F0 m pc ls (.ref (Γ.1 0) :: S)) (rest := S) ⟨hx, hb, hm9, hown, hts⟩ hM hcw hpre rfl rfl hL.1 rfl (lv_room (catG hcS)) hd ⟨by show cells + 0 ≤ k1; omega, by show slots + 0 ≤ n1; omega⟩
  refine va_calll hrun hS (fun q _ h => hsub q h) (fun q h => hsub q h) (fun r u1 t H1 locs1 ht hvm hq hB hz hk1 hS1 => ?_)
  exact kn r u1 hq k1 n1 p e s m args below meth c0 H1 locs1 ls cells slots hC (cut_back hW (by rw [← ht]; exact hB.1) hB.2 hsub hk1) hS1 hL hc1 hs1
theorem sg_tlen (hE : envOK Γ St) {adV : Nat → Nat} (hX : envX Γ St adV) (hl9 : l.stackTraces = false) (hA : envA Γ St sc) (hLn : envL St) : g_tlen Γ.1 (SndG Γ l St) := by
  intro M pc L S c sl u h Q ix j v hd hl hcS hj hv kn k1 n1 p e s m args below meth c0 H locs ls cells slots hC hW hS hL hc1 hs1
  obtain ⟨⟨hx, hb, hrt, hm9, hown, hts, hlocks, hexc, hK, hSt⟩, hnm, hA0⟩ := id hC
  have hsub := cut_sub hW hS hA0
  have hE2 := cut_ok hE hsub
  have hX2 := cut_X hX hsub
  have hM := j_len (l := l) hE2 hX2 (NC := 112) (h := u) hj
  have hcw := cwV (R := rmG M k1 n1) (own := M.1.cls) (index := ix) (C := J_len.1.cls) (y := J_len.1) (bytes := J_len.2.1) (maxL := J_len.2.2.1) (ret := J_len.2.2.2.1) (ws := wsM J_len) (rm := rmM none J_len) (mc := 0) (ms := 0) 0 hts (lnV_good hl) rfl rfl rfl ⟨rfl, hl.1.2.2.2.1⟩ ⟨hl.1.2.2.2.2.2.1, hl.1.2.2.2.2.2.2⟩
  have hrecv : ∃ cell : Cell, H[Γ.1 (2000 + j)]? = some cell ∧ cell.vm.isStatics = false ∧ s.vm.findClass "java/lang/String" = some cell.cls := by
    obtain ⟨cell, h1, h2, h3, -⟩ := (hX.2.1 s hSt j hj).1.kept hS.2.1
    exact ⟨cell, h1, h2, h3⟩
  have hrun := va_runV (p := p) (e := e) (R := rmG M k1 n1) (below := below) (meth := meth) (cells := cells) (slots := slots) (locs := locs) (As := []) (b := Γ.1 (2000 + j)) (g := F0 m pc ls (.ref (Γ.1 (2000 + j)) :: S)) (rest := S) ⟨hx, hb, hm9, hown, hts⟩ hM hcw ⟨PcR.blind hE2, hrecv, fun U hU hw => ⟨rfl, by rw [hU]; exact hW.1, cut_D hW, va_K.moved hw.alike hK, hE.1 s U H locs hSt hS hU hw, by rw [hU]; exact Nat.le_refl _⟩⟩ rfl rfl hL.1 rfl (lv_room (catG hcS)) hd ⟨by show cells + 0 ≤ k1; omega, by show slots + 0 ≤ n1; omega⟩
  have hq9 : ∀ Q1 : qt, QcM (cutE Γ H.size) 112 J_len Q1 = va_Qi (fun (r : Int32) (u : hp) => Q1 (.int r) u) (BW (cutE Γ H.size) 112) (cutE Γ H.size).2.2.2 := fun _ => rfl
  rw [hq9] at hrun
  refine va_calli hrun hS (fun q _ h => hsub q h) (fun q h => hsub q h) (fun r u1 t H1 locs1 ht hvm hq hB hz hk1 hS1 => ?_)
  obtain ⟨hq1, rfl⟩ := hq
  cases hq1
  have e9 : Int32.ofNat (txtN.getD j 0) = v := by rw [hv]; exact I_nat _
  rw [e9]
  exact kn k1 n1 p e s m args below meth c0 H1 locs1 ls cells slots hC (cut_back hW (by rw [← ht]; exact hB.1) hB.2 hsub hk1) hS1 hL hc1 hs1
theorem sg_tchr (hE : envOK Γ St) {adV : Nat → Nat} (hX : envX Γ St adV) (hl9 : l.stackTraces = false) (hA : envA Γ St sc) (hLn : envL St) : g_tchr Γ.1 (SndG Γ l St) := by
  intro M pc L S c sl u h Q ix j i x v hd hl hcS hj hx9 hi hv kn k1 n1 p e s m args below meth c0 H locs ls cells slots hC hW hS hL hc1 hs1
  obtain ⟨⟨hx, hb, hrt, hm9, hown, hts, hlocks, hexc, hK, hSt⟩, hnm, hA0⟩ := id hC
  have hsub := cut_sub hW hS hA0
  have hE2 := cut_ok hE hsub
  have hX2 := cut_X hX hsub
  have hM := j_chr (l := l) hE2 hX2 (NC := 112) (h := u) hj hi (hx9.trans (I_nat i).symm)
  have hcw := cwV (R := rmG M k1 n1) (own := M.1.cls) (index := ix) (C := J_chr.1.cls) (y := J_chr.1) (bytes := J_chr.2.1) (maxL := J_chr.2.2.1) (ret := J_chr.2.2.2.1) (ws := wsM J_chr) (rm := rmM none J_chr) (mc := 0) (ms := 0) 1 hts (lnV_good hl) rfl rfl rfl ⟨rfl, hl.1.2.2.2.1⟩ ⟨hl.1.2.2.2.2.2.1, hl.1.2.2.2.2.2.2⟩
  have hrecv : ∃ cell : Cell, H[Γ.1 (2000 + j)]? = some cell ∧ cell.vm.isStatics = false ∧ s.vm.findClass "java/lang/String" = some cell.cls := by
    obtain ⟨cell, h1, h2, h3, -⟩ := (hX.2.1 s hSt j hj).1.kept hS.2.1
    exact ⟨cell, h1, h2, h3⟩
  have hrun := va_runV (p := p) (e := e) (R := rmG M k1 n1) (below := below) (meth := meth) (cells := cells) (slots := slots) (locs := locs) (As := [.int x]) (b := Γ.1 (2000 + j)) (g := F0 m pc ls (.int x :: .ref (Γ.1 (2000 + j)) :: S)) (rest := S) ⟨hx, hb, hm9, hown, hts⟩ hM hcw ⟨PcR.blind hE2, hrecv, fun U hU hw => ⟨rfl, by rw [hU]; exact hW.1, cut_D hW, va_K.moved hw.alike hK, hE.1 s U H locs hSt hS hU hw, by rw [hU]; exact Nat.le_refl _⟩⟩ rfl rfl hL.1 rfl (lv_room (catG hcS)) hd ⟨by show cells + 0 ≤ k1; omega, by show slots + 0 ≤ n1; omega⟩
  have hq9 : ∀ Q1 : qt, QcM (cutE Γ H.size) 112 J_chr Q1 = va_Qi (fun (r : Int32) (u : hp) => Q1 (.int r) u) (BW (cutE Γ H.size) 112) (cutE Γ H.size).2.2.2 := fun _ => rfl
  rw [hq9] at hrun
  refine va_calli hrun hS (fun q _ h => hsub q h) (fun q h => hsub q h) (fun r u1 t H1 locs1 ht hvm hq hB hz hk1 hS1 => ?_)
  obtain ⟨hq1, rfl⟩ := hq
  cases hq1
  subst hv
  exact kn k1 n1 p e s m args below meth c0 H1 locs1 ls cells slots hC (cut_back hW (by rw [← ht]; exact hB.1) hB.2 hsub hk1) hS1 hL hc1 hs1
theorem sg_sci (hE : envOK Γ St) {adV : Nat → Nat} (hX : envX Γ St adV) (hl9 : l.stackTraces = false) (hA : envA Γ St sc) (hLn : envL St) : g_sci (SndG Γ l St) := by
  intro M pc L S c sl u h Q ix x y hd hl hcS h1 h2 kn k1 n1 p e s m args below meth c0 H locs ls cells slots hC hW hS hL hc1 hs1
  obtain ⟨⟨hx, hb, hrt, hm9, hown, hts, hlocks, hexc, hK, hSt⟩, hnm, hA0⟩ := id hC
  have hsub := cut_sub hW hS hA0
  have hE2 := cut_ok hE hsub
  have hX2 := cut_X hX hsub
  have hM := j_sci (l := l) hE2 hX2 (NC := 112) (h := u) h1 h2
  have hcw := va_cwS (R := rmG M k1 n1) (own := M.1.cls) (index := ix) (y := J_sci.1) (bytes := J_sci.2.1) (maxL := J_sci.2.2.1) (ret := J_sci.2.2.2.1) (ws := wsM J_sci) (rm := rmM none J_sci) (mc := 0) (ms := 0) 2 hts (lnS_good hl) rfl rfl rfl hl.1.2.2.2.1 ⟨hl.1.2.2.2.2.2.1, hl.1.2.2.2.2.2.2⟩
  have hrun := va_runS (p := p) (e := e) (R := rmG M k1 n1) (below := below) (meth := meth) (cells := cells) (slots := slots) (locs := locs) (As := [.int x, .int y]) (g := F0 m pc ls (.int y :: .int x :: S)) (rest := S) ⟨hx, hb, hm9, hown, hts⟩ hM hcw ⟨PcR.blind hE2, fun U hU hw => ⟨rfl, by rw [hU]; exact hW.1, cut_D hW, va_K.moved hw.alike hK, hE.1 s U H locs hSt hS hU hw, by rw [hU]; exact Nat.le_refl _⟩⟩ rfl rfl hL.1 rfl (lv_room (catG hcS)) hd ⟨by show cells + 0 ≤ k1; omega, by show slots + 0 ≤ n1; omega⟩
  rw [Qc_void (show J_sci.2.2.2.1 = none from rfl)] at hrun
  refine va_callv hrun hS (fun q _ h => hsub q h) (fun q h => hsub q h) (fun u1 t H1 locs1 ht hvm hq hB hz hk1 hS1 => ?_)
  obtain ⟨-, rfl⟩ := hq
  exact kn k1 n1 p e s m args below meth c0 H1 locs1 ls cells slots hC (cut_back hW (by rw [← ht]; exact hB.1) hB.2 hsub hk1) hS1 hL hc1 hs1
theorem sg_tcod (hE : envOK Γ St) {adV : Nat → Nat} (hX : envX Γ St adV) (hl9 : l.stackTraces = false) (hA : envA Γ St sc) (hLn : envL St) : g_tcod Γ.1 (SndG Γ l St) := by
  intro M pc L S c sl u h Q ix j hd hl hcS hj kn k1 n1 p e s m args below meth c0 H locs ls cells slots hC hW hS hL hc1 hs1
  obtain ⟨⟨hx, hb, hrt, hm9, hown, hts, hlocks, hexc, hK, hSt⟩, hnm, hA0⟩ := id hC
  have hsub := cut_sub hW hS hA0
  have hE2 := cut_ok hE hsub
  have hX2 := cut_X hX hsub
  have hM := j_coder (l := l) hE2 hX2 (NC := 112) (h := u) hj
  have hcw := cwV (R := rmG M k1 n1) (own := M.1.cls) (index := ix) (C := J_coder.1.cls) (y := J_coder.1) (bytes := J_coder.2.1) (maxL := J_coder.2.2.1) (ret := J_coder.2.2.2.1) (ws := wsM J_coder) (rm := rmM none J_coder) (mc := 0) (ms := 0) 0 hts (lnV_good hl) rfl rfl rfl ⟨rfl, hl.1.2.2.2.1⟩ ⟨hl.1.2.2.2.2.2.1, hl.1.2.2.2.2.2.2⟩
  have hrecv : ∃ cell : Cell, H[Γ.1 (2000 + j)]? = some cell ∧ cell.vm.isStatics = false ∧ s.vm.findClass "java/lang/String" = some cell.cls := by
    obtain ⟨cell, h1, h2, h3, -⟩ := (hX.2.1 s hSt j hj).1.kept hS.2.1
    exact ⟨cell, h1, h2, h3⟩
  have hrun := va_runV (p := p) (e := e) (R := rmG M k1 n1) (below := below) (meth := meth) (cells := cells) (slots := slots) (locs := locs) (As := []) (b := Γ.1 (2000 + j)) (g := F0 m pc ls (.ref (Γ.1 (2000 + j)) :: S)) (rest := S) ⟨hx, hb, hm9, hown, hts⟩ hM hcw ⟨PcR.blind hE2, hrecv, fun U hU hw => ⟨rfl, by rw [hU]; exact hW.1, cut_D hW, va_K.moved hw.alike hK, hE.1 s U H locs hSt hS hU hw, by rw [hU]; exact Nat.le_refl _⟩⟩ rfl rfl hL.1 rfl (lv_room (catG hcS)) hd ⟨by show cells + 0 ≤ k1; omega, by show slots + 0 ≤ n1; omega⟩
  have hq9 : ∀ Q1 : qt, QcM (cutE Γ H.size) 112 J_coder Q1 = va_Qi (fun (r : Int32) (u : hp) => Q1 (.int r) u) (BW (cutE Γ H.size) 112) (cutE Γ H.size).2.2.2 := fun _ => rfl
  rw [hq9] at hrun
  refine va_calli hrun hS (fun q _ h => hsub q h) (fun q h => hsub q h) (fun r u1 t H1 locs1 ht hvm hq hB hz hk1 hS1 => ?_)
  obtain ⟨hq1, rfl⟩ := hq
  cases hq1
  skip
  exact kn k1 n1 p e s m args below meth c0 H1 locs1 ls cells slots hC (cut_back hW (by rw [← ht]; exact hB.1) hB.2 hsub hk1) hS1 hL hc1 hs1
theorem sg_cvL (hE : envOK Γ St) {adV : Nat → Nat} (hX : envX Γ St adV) (hl9 : l.stackTraces = false) (hA : envA Γ St sc) (hLn : envL St) : g_cvL Γ.1 (SndG Γ l St) := by
  intro M pc L S c sl u h Q ix n cy sy j Y As Q1 hd hl hlen hcA hcS hj hcls hret hcy hsy ka kb k1 n1 p e s m args below meth c0 H locs ls cells slots hC hW hS hL hc1 hs1
  obtain ⟨⟨hx, hb, hrt, hm9, hown, hts, hlocks, hexc, hK, hSt⟩, hnm, hA0⟩ := id hC
  have hM := sg_met (l := l) (Γ := Γ) (St := St) hE (As := (.ref (Γ.1 (2000 + j)) :: As)) hl.1.2.2.2.2.1 (by unfold cat1 at hcA ⊢; simp only [List.all_cons, Bool.and_eq_true]; exact ⟨rfl, hcA⟩) (by have := hl.2.2.2; simp only [List.length_cons]; omega) ka
  have hcw := cwV (R := rmG M k1 n1) (own := M.1.cls) (index := ix) (C := Y.1.cls) (y := Y.1) (bytes := Y.2.1) (maxL := Y.2.2.1) (ret := Y.2.2.2.1) (ws := wsM Y) (rm := rmG Y cy sy) (mc := cy) (ms := sy) n hts (lnV_good hl) rfl rfl rfl ⟨rfl, hl.1.2.2.2.1⟩ ⟨hl.1.2.2.2.2.2.1, hl.1.2.2.2.2.2.2⟩
  have hrecv : ∃ cell : Cell, H[Γ.1 (2000 + j)]? = some cell ∧ cell.vm.isStatics = false ∧ s.vm.findClass Y.1.cls = some cell.cls := by
    obtain ⟨cell, h1, h2, h3, -⟩ := (hX.2.1 s hSt j hj).1.kept hS.2.1
    rw [hcls]
    exact ⟨cell, h1, h2, h3⟩
  have hrun := va_runV (p := p) (e := e) (R := rmG M k1 n1) (below := below) (meth := meth) (cells := cells) (slots := slots) (locs := locs) (g := F0 m pc ls (As.reverse ++ .ref (Γ.1 (2000 + j)) :: S)) (rest := S) ⟨hx, hb, hm9, hown, hts⟩ hM hcw ⟨PcA.blind hE, hrecv, PcA.mk hE hW hS hK hSt hA0⟩ rfl hlen hL.1 rfl (lv_room (catG hcS)) hd ⟨by show cells + cy ≤ k1; omega, by show slots + sy ≤ n1; omega⟩
  rw [QcA_none hret] at hrun
  refine va_callv hrun hS (fun q _ h => h) (fun q h => h) (fun w t H1 locs1 ht hvm hq hB hz hk1 hS1 => ?_)
  exact kb w.1 w.2 hq k1 n1 p e s m args below meth c0 H1 locs1 ls (cells + cy) (slots + sy) hC (by rw [← ht]; exact hB) hS1 hL (by omega) (by omega)
theorem sg_cu (hE : envOK Γ St) {adV : Nat → Nat} (hX : envX Γ St adV) (hl9 : l.stackTraces = false) (hA : envA Γ St sc) (hLn : envL St) : g_cu (SndG Γ l St) := by
  intro M pc L S c sl u h Q ix n cy sy a ci C Y As fs T N Q1 x hd hl hlen hcA hcS ha hcl hret hcy hsy ka kb k1 n1 p e s m args below meth c0 H locs ls cells slots hC hW hS hL hc1 hs1
  obtain ⟨⟨hx, hb, hrt, hm9, hown, hts, hlocks, hexc, hK, hSt⟩, hnm, hA0⟩ := id hC
  have hM := sg_met (l := l) (Γ := Γ) (St := St) hE (As := (.ref a :: As)) hl.2.2.2.2.1 (by unfold cat1 at hcA ⊢; simp only [List.all_cons, Bool.and_eq_true]; exact ⟨rfl, hcA⟩) (by have := hl.2.2.2.2.2.1.2.2; simp only [List.length_cons]; omega) ka
  have hgd : GoodIn gT (wsM Y) := by
    intro w hw
    rcases List.mem_cons.mp hw with rfl | hw
    · exact ⟨hl.2.2.1, gT_good hl.2.2.1⟩
    · exact ⟨hw, gT_good hw⟩
  obtain ⟨k9, hk9⟩ := hW.get ha
  have hrc := va_recv hK (hW.P (n := H.size)) hcl hk9
  obtain ⟨b0, m0, r0, hcx⟩ := hl.2.2.2.2.2.2.2.2.1.2
  have hcw : va_CU (rmG M k1 n1) s args M.1.cls C x.cls ix x Y.1 Y.2.1 Y.2.2.1 Y.2.2.2.1 (wsM Y) (rmG Y cy sy) cy sy n := ⟨⟨rfl, rfl, hl.2.2.2.2.2.1.1, hl.2.2.2.2.2.1.2.1, pay_in hts hgd, List.mem_cons_self⟩, hts _ hl.2.2.1, hts _ hl.2.1, ⟨hl.2.2.2.2.2.2.2.2.2.1, hl.2.2.2.2.2.2.2.2.2.2.1⟩, fun sig h => by have h2 := hl.2.2.2.2.2.2.2.2.2.2.2; rw [h] at h2; exact (Option.some.inj h2).symm, hts _ hl.1, hts _ hl.2.2.2.2.2.2.1, va_Decl.of (hts _ hl.2.2.2.2.2.2.2.2.1.1) (hts _ hcx), hts _ hl.2.2.2.2.2.2.2.1, hts _ hl.2.2.2.1⟩
  have hrun := va_runU (p := p) (e := e) (R := rmG M k1 n1) (below := below) (meth := meth) (cells := cells) (slots := slots) (locs := locs) (g := F0 m pc ls (As.reverse ++ .ref a :: S)) (rest := S) ⟨hx, hb, hm9, hown, hts⟩ hM hcw ⟨PcA.blind hE, hrc, PcA.mk hE hW hS hK hSt hA0⟩ rfl hlen hL.1 rfl (lv_room (catG hcS)) hd ⟨by show cells + cy ≤ k1; omega, by show slots + sy ≤ n1; omega⟩
  rw [QcA_some hret] at hrun
  refine va_callg hrun hS (fun q _ h => h) (fun q h => h) (fun r w t H1 locs1 ht hvm hq hB hz hk1 hS1 => ?_)
  exact kb r w.1 w.2 hq k1 n1 p e s m args below meth c0 H1 locs1 ls (cells + cy) (slots + sy) hC (by rw [← ht]; exact hB) hS1 hL (by omega) (by omega)
theorem sg_cpv (hE : envOK Γ St) {adV : Nat → Nat} (hX : envX Γ St adV) (hl9 : l.stackTraces = false) (hA : envA Γ St sc) (hLn : envL St) : g_cpv (SndG Γ l St) := by
  intro M pc L S c sl u h Q ix n cy sy a ci C Y As fs T N Q1 hd hl hlen hcA hcS ha hcl hret hcy hsy ka kb k1 n1 p e s m args below meth c0 H locs ls cells slots hC hW hS hL hc1 hs1
  obtain ⟨⟨hx, hb, hrt, hm9, hown, hts, hlocks, hexc, hK, hSt⟩, hnm, hA0⟩ := id hC
  have hM := sg_met (l := l) (Γ := Γ) (St := St) hE (As := (.ref a :: As)) hl.2.2.2.2.1 (by unfold cat1 at hcA ⊢; simp only [List.all_cons, Bool.and_eq_true]; exact ⟨rfl, hcA⟩) (by have := hl.2.2.2.2.2.1.2.2; simp only [List.length_cons]; omega) ka
  have hgd : GoodIn gT (wsM Y) := by
    intro w hw
    rcases List.mem_cons.mp hw with rfl | hw
    · exact ⟨hl.2.2.1, gT_good hl.2.2.1⟩
    · exact ⟨hw, gT_good hw⟩
  obtain ⟨k9, hk9⟩ := hW.get ha
  have hrc := va_recv hK (hW.P (n := H.size)) hcl hk9
  obtain ⟨x, z, hx1, hx2, hx3, hx4⟩ := hl.2.2.2.2.2.2.2.2.1
  have hcw : va_CU (rmG M k1 n1) s args M.1.cls C Y.1.cls ix Y.1 Y.1 Y.2.1 Y.2.2.1 Y.2.2.2.1 (wsM Y) (rmG Y cy sy) cy sy n := ⟨⟨rfl, rfl, hl.2.2.2.2.2.1.1, hl.2.2.2.2.2.1.2.1, pay_in hts hgd, List.mem_cons_self⟩, hts _ hl.2.2.1, hts _ hl.2.1, ⟨hl.2.2.2.2.2.2.2.2.2.1, hl.2.2.2.2.2.2.2.2.2.2.1⟩, fun sig h => by have h2 := hl.2.2.2.2.2.2.2.2.2.2.2; rw [h] at h2; exact (Option.some.inj h2).symm, hts _ hl.1, hts _ hl.2.2.2.2.2.2.1, va_Decl.of (hts _ hl.2.2.2.1) (hts _ hl.2.2.1), sel_priv ⟨hl.2.2.2.2.2.2.2.2.2.1, hl.2.2.2.2.2.2.2.2.2.2.1⟩ hx1 (hts _ hx4) (hts _ hx2) (hts _ hx3) (va_tabs rfl rfl (hX.2.2.2.2.2.2 s hSt _ hl.2.2.2.2.2.2.2.1)) (hts _ hl.2.2.2.1), hts _ hl.2.2.2.1⟩
  have hrun := va_runU (p := p) (e := e) (R := rmG M k1 n1) (below := below) (meth := meth) (cells := cells) (slots := slots) (locs := locs) (g := F0 m pc ls (As.reverse ++ .ref a :: S)) (rest := S) ⟨hx, hb, hm9, hown, hts⟩ hM hcw ⟨PcA.blind hE, hrc, PcA.mk hE hW hS hK hSt hA0⟩ rfl hlen hL.1 rfl (lv_room (catG hcS)) hd ⟨by show cells + cy ≤ k1; omega, by show slots + sy ≤ n1; omega⟩
  rw [QcA_none hret] at hrun
  refine va_callv hrun hS (fun q _ h => h) (fun q h => h) (fun w t H1 locs1 ht hvm hq hB hz hk1 hS1 => ?_)
  exact kb w.1 w.2 hq k1 n1 p e s m args below meth c0 H1 locs1 ls (cells + cy) (slots + sy) hC (by rw [← ht]; exact hB) hS1 hL (by omega) (by omega)
theorem sg_csu (hE : envOK Γ St) {adV : Nat → Nat} (hX : envX Γ St adV) (hl9 : l.stackTraces = false) (hA : envA Γ St sc) (hLn : envL St) : g_csu (SndG Γ l St) := by
  intro M pc L S c sl u h Q ix n cy sy a ci C Y As fs T N Q1 hd hl hlen hcA hcS ha hcl hret hcy hsy ka kb k1 n1 p e s m args below meth c0 H locs ls cells slots hC hW hS hL hc1 hs1
  obtain ⟨⟨hx, hb, hrt, hm9, hown, hts, hlocks, hexc, hK, hSt⟩, hnm, hA0⟩ := id hC
  have hM := sg_met (l := l) (Γ := Γ) (St := St) hE (As := (.ref a :: As)) hl.2.2.2.2.1 (by unfold cat1 at hcA ⊢; simp only [List.all_cons, Bool.and_eq_true]; exact ⟨rfl, hcA⟩) (by have := hl.2.2.2.2.2.1.2.2; simp only [List.length_cons]; omega) ka
  have hgd : GoodIn gT (wsM Y) := by
    intro w hw
    rcases List.mem_cons.mp hw with rfl | hw
    · exact ⟨hl.2.2.1, gT_good hl.2.2.1⟩
    · exact ⟨hw, gT_good hw⟩
  obtain ⟨k9, hk9⟩ := hW.get ha
  have hrc := va_recv hK (hW.P (n := H.size)) hcl hk9
  have hcw : va_CS (rmG M k1 n1) s args M.1.cls ix Y.1 Y.2.1 Y.2.2.1 Y.2.2.2.1 (wsM Y) (rmG Y cy sy) cy sy n := ⟨⟨rfl, rfl, hl.2.2.2.2.2.1.1, hl.2.2.2.2.2.1.2.1, pay_in hts hgd, List.mem_cons_self⟩, hts _ hl.1, hts _ hl.2.2.2.2.2.2.1, hts _ hl.2.2.2.2.2.2.2.1, hts _ hl.2.2.2.1, hts _ hl.2.1, hts _ hl.2.2.1, hl.2.2.2.2.2.2.2.2.1, fun sig h => by have h2 := hl.2.2.2.2.2.2.2.2.2; rw [h] at h2; exact (Option.some.inj h2).symm⟩
  have hrun := va_runSU ((hK.1 ci _ hcl).2) (p := p) (e := e) (R := rmG M k1 n1) (below := below) (meth := meth) (cells := cells) (slots := slots) (locs := locs) (g := F0 m pc ls (As.reverse ++ .ref a :: S)) (rest := S) ⟨hx, hb, hm9, hown, hts⟩ hM hcw ⟨PcA.blind hE, hrc, PcA.mk hE hW hS hK hSt hA0⟩ rfl hlen hL.1 rfl (lv_room (catG hcS)) hd ⟨by show cells + cy ≤ k1; omega, by show slots + sy ≤ n1; omega⟩
  rw [QcA_some hret] at hrun
  refine va_callg hrun hS (fun q _ h => h) (fun q h => h) (fun r w t H1 locs1 ht hvm hq hB hz hk1 hS1 => ?_)
  exact kb r w.1 w.2 hq k1 n1 p e s m args below meth c0 H1 locs1 ls (cells + cy) (slots + sy) hC (by rw [← ht]; exact hB) hS1 hL (by omega) (by omega)
theorem ag_snd (hE : envOK Γ St) {adV : Nat → Nat} (hX : envX Γ St adV) (hl9 : l.stackTraces = false) (hA : envA Γ St sc) (hLn : envL St) : ag_cl Γ.1 sc (SndG Γ l St) :=
  ⟨sg_iconst hE hX hl9 hA hLn, sg_bipush hE hX hl9 hA hLn, sg_sipush hE hX hl9 hA hLn, sg_ldcI hE hX hl9 hA hLn, sg_ldc2 hE hX hl9 hA hLn, sg_lconst hE hX hl9 hA hLn, sg_null hE hX hl9 hA hLn, sg_iload_n hE hX hl9 hA hLn, sg_iload hE hX hl9 hA hLn, sg_aload_n hE hX hl9 hA hLn, sg_aload hE hX hl9 hA hLn, sg_lload_n hE hX hl9 hA hLn, sg_lload hE hX hl9 hA hLn, sg_aload_nN hE hX hl9 hA hLn, sg_aloadN hE hX hl9 hA hLn, sg_iadd hE hX hl9 hA hLn, sg_isub hE hX hl9 hA hLn, sg_imul hE hX hl9 hA hLn, sg_iand hE hX hl9 hA hLn, sg_ior hE hX hl9 hA hLn, sg_ishl hE hX hl9 hA hLn, sg_ishr hE hX hl9 hA hLn, sg_idiv hE hX hl9 hA hLn, sg_irem hE hX hl9 hA hLn, sg_iushr hE hX hl9 hA hLn, sg_i2b hE hX hl9 hA hLn, sg_i2c hE hX hl9 hA hLn, sg_ladd hE hX hl9 hA hLn, sg_lmul hE hX hl9 hA hLn, sg_i2l hE hX hl9 hA hLn, sg_lcmp hE hX hl9 hA hLn, sg_dup hE hX hl9 hA hLn, sg_dup2 hE hX hl9 hA hLn, sg_dup_x1 hE hX hl9 hA hLn, sg_pop hE hX hl9 hA hLn, sg_getf hE hX hl9 hA hLn, sg_iald hE hX hl9 hA hLn, sg_bald hE hX hl9 hA hLn, sg_zald hE hX hl9 hA hLn, sg_aald hE hX hl9 hA hLn, sg_alen hE hX hl9 hA hLn, sg_ldcS hE hX hl9 hA hLn, sg_slen hE hX hl9 hA hLn, sg_sld hE hX hl9 hA hLn, sg_csn hE hX hl9 hA hLn, sg_istore_n hE hX hl9 hA hLn, sg_istore hE hX hl9 hA hLn, sg_astore_n hE hX hl9 hA hLn, sg_astore hE hX hl9 hA hLn, sg_astore_nN hE hX hl9 hA hLn, sg_astoreN hE hX hl9 hA hLn, sg_lstore_n hE hX hl9 hA hLn, sg_lstore hE hX hl9 hA hLn, sg_putf hE hX hl9 hA hLn, sg_putF hE hX hl9 hA hLn, sg_iast hE hX hl9 hA hLn, sg_bast hE hX hl9 hA hLn, sg_zast hE hX hl9 hA hLn, sg_aast hE hX hl9 hA hLn, sg_aastN hE hX hl9 hA hLn, sg_aastA hE hX hl9 hA hLn, sg_new hE hX hl9 hA hLn, sg_newa hE hX hl9 hA hLn, sg_anew hE hX hl9 hA hLn, sg_anewA hE hX hl9 hA hLn, sg_l_max hE hX hl9 hA hLn, sg_l_min hE hX hl9 hA hLn, sg_l_abs hE hX hl9 hA hLn, sg_l_cpb hE hX hl9 hA hLn, sg_tgv hE hX hl9 hA hLn, sg_tal hE hX hl9 hA hLn, sg_cpt hE hX hl9 hA hLn, sg_obj hE hX hl9 hA hLn, sg_if_eq hE hX hl9 hA hLn, sg_if_ne hE hX hl9 hA hLn, sg_if_lt hE hX hl9 hA hLn, sg_if_ge hE hX hl9 hA hLn, sg_if_gt hE hX hl9 hA hLn, sg_if_le hE hX hl9 hA hLn, sg_icmp_eq hE hX hl9 hA hLn, sg_icmp_ne hE hX hl9 hA hLn, sg_icmp_lt hE hX hl9 hA hLn, sg_icmp_ge hE hX hl9 hA hLn, sg_icmp_gt hE hX hl9 hA hLn, sg_icmp_le hE hX hl9 hA hLn, sg_goto hE hX hl9 hA hLn, sg_nonnull hE hX hl9 hA hLn, sg_nonnullN hE hX hl9 hA hLn, sg_ifnull hE hX hl9 hA hLn, sg_ifnullN hE hX hl9 hA hLn, sg_tabI hE hX hl9 hA hLn, sg_tabO hE hX hl9 hA hLn, sg_iinc hE hX hl9 hA hLn, sg_forg hE hX hl9 hA hLn, sg_less hE hX hl9 hA hLn, sg_nret hE hX hl9 hA hLn, sg_aret hE hX hl9 hA hLn, sg_lret hE hX hl9 hA hLn, sg_vret hE hX hl9 hA hLn, sg_cv hE hX hl9 hA hLn, sg_cvv hE hX hl9 hA hLn, sg_cs hE hX hl9 hA hLn, sg_csv hE hX hl9 hA hLn, sg_ci hE hX hl9 hA hLn, sg_cn hE hX hl9 hA hLn, sg_mna hE hX hl9 hA hLn, sg_cam hE hX hl9 hA hLn, sg_cwr hE hX hl9 hA hLn, sg_cck hE hX hl9 hA hLn, sg_tlen hE hX hl9 hA hLn, sg_tchr hE hX hl9 hA hLn, sg_sci hE hX hl9 hA hLn, sg_tcod hE hX hl9 hA hLn, sg_cvL hE hX hl9 hA hLn, sg_cu hE hX hl9 hA hLn, sg_cpv hE hX hl9 hA hLn, sg_csu hE hX hl9 hA hLn⟩
theorem gl_met (hE : envOK Γ St) {adV : Nat → Nat} (hX : envX Γ St adV) (hl9 : l.stackTraces = false) (hA : envA Γ St sc) (hLn : envL St) {Y : mt} {As : List Value} {cy sy : Nat} {u : hp} {h : hg} {Q : qg} (hpl : plainName Y.1.cls = true) (hc : cat1 As) (hn : As.length ≤ Y.2.2.1) (k : Gl Γ.1 sc cy sy Y As u h Q) : Met l Y.1 (wsM Y) (rmG Y cy sy) (PcA Γ St u h As) (QcA Γ Y Q) cy sy Γ.2.2.2 := sg_met hE hpl hc hn (k _ (ag_snd hE hX hl9 hA hLn))
end SG
