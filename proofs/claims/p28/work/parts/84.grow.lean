/-! GROWTH: constructors. The place i lies at z + i; N places so far. -/
theorem W_size {p : Program} {l : Launch} {e : Env} {R : Room} {s : State} {m : MethodId} {args : Array Value} {below : List Frame} {meth : Method} {c : Code} {H : Heap} {locs : List Loc} {cells slots : Nat} {Q : State → Prop} {g : JFrame} (k : H.size ≤ s.heap.size + cells → W p l e R s m args below meth c H locs cells slots Q g) : W p l e R s m args below meth c H locs cells slots Q g := by
  intro T hT X
  have h1 := X.same.2.2.1
  have h2 : T.heap.size ≤ s.heap.size + cells := h1
  rw [hT] at h2
  exact k h2 T hT X
theorem W_mna {p : Program} {l : Launch} {e : Env} {R : Room} {s : State} {m : MethodId} {args : Array Value} {below : List Frame} {meth : Method} {c : Code} {H : Heap} {locs : List Loc} {cells slots : Nat} {Q : State → Prop} {pc : Nat} {ls : Array Slot} {rest : List Value} {cc : ByteArray} (hexec : p.tables.exec = Jvm.exec) (hb : c.code = cc) {own : String} {index : Nat} {ty : FieldType} {cy : ClassId} (hown : s.vm.findClass own = some m.cls) (hclink : (Cond.classLink own index ("[" ++ (FieldType.array ty).toString)).before args s = true) (hover : va_AOA ty s) (harr : (Cond.arrayClass ty).before args s = true) (hcy : s.vm.findClass (FieldType.array ty).toString = some cy)
    {n k : Int32} {N' K' : Nat} {z : vp_A} (hn : ¬ n < 0) (hk : ¬ k < 0) (hN : n.toNatClampNeg = N') (hM : k.toNatClampNeg = K')
    (hb1 : N' * 4 ≤ 536870912) (hb2 : K' * componentBytes ty ≤ 536870912) (hb3 : K' ≤ 536870912) (hdf : fits ty (defaultValue ty) = true) (hdd : (defaultValue ty).isDefault = true) (hcells : cells + (1 + N') ≤ R.cells) (hslots : slots + (N' + N' * K') ≤ R.slots) (hz : ∀ c : ClassId, Jvm.Free.Multi.innerC c K' (defaultValue ty) = vp_cell c z) (hdg : decode cc pc = .ok (.multianewarray index 2, 4))
    (kk : ∀ (cA : ClassId) (H1 : Heap), s.vm.findClass ("[" ++ (FieldType.array ty).toString) = some cA → H1.size = H.size + 1 + N' → (∀ x : Nat, x < H.size → H1[x]? = H[x]?) → H1[H.size]? = some (vp_cell cA (N', .inr (.inr (.inr (.inr (fun i => if i < N' then some (H.size + 1 + i) else none)))))) → (∀ j : Nat, j < N' → H1[H.size + 1 + j]? = some (vp_cell cy z)) →
      W p l e R s m args below meth c H1 locs (cells + 1 + N') (slots + N' + N' * K') Q (F0 m (pc + 4) ls (.ref H.size :: rest))) : W p l e R s m args below meth c H locs cells slots Q (F0 m pc ls (.int k :: .int n :: rest)) := by
  subst hN
  subst hM
  intro T hT Xs
  obtain ⟨vm₁, cA, comp, -, fA, fC, hO, -, X', step⟩ := Xs.multianewarray2F hexec hown hclink (va_AOA.use hover) harr (g := F0 m pc ls (.int k :: .int n :: rest)) rfl (by rw [hb]; exact hdg) rfl hn hk hb1 hb2 hb3 hdf hdd hcells hslots
  have ec : some cy = some comp := hcy.symm.trans fC
  cases ec
  generalize hF : Jvm.Free.Multi.fill (T.setVm vm₁) cA cy n.toNatClampNeg k.toNatClampNeg (defaultValue ty) n.toNatClampNeg = F at X' step
  have hTh : (T.setVm vm₁).heap = H := hT
  obtain ⟨f1, f2, -, -⟩ := Jvm.Free.Multi.fill_facts (T.setVm vm₁) cA cy n.toNatClampNeg k.toNatClampNeg (defaultValue ty) n.toNatClampNeg
  rw [hF, hTh] at f1 f2
  have hold : ∀ x : Nat, x < H.size → F.heap[x]? = H[x]? := fun x hx => by
    have := Jvm.Free.Multi.fill_old (T.setVm vm₁) cA cy n.toNatClampNeg k.toNatClampNeg (defaultValue ty) (a := x) (by rw [hTh]; exact hx) n.toNatClampNeg
    rw [hF, hTh] at this
    exact this
  have hrow : ∀ j : Nat, j < n.toNatClampNeg → F.heap[H.size + 1 + j]? = some (vp_cell cy z) := fun j hj => by
    have := Jvm.Free.Multi.fill_inner (T.setVm vm₁) cA cy n.toNatClampNeg k.toNatClampNeg (defaultValue ty) n.toNatClampNeg j hj
    rw [hF, hTh, hz] at this
    exact this
  have hout : Jvm.Free.Multi.outerC cA n.toNatClampNeg H.size n.toNatClampNeg = vp_cell cA (n.toNatClampNeg, .inr (.inr (.inr (.inr (fun i => if i < n.toNatClampNeg then some (H.size + 1 + i) else none))))) := by
    rw [vp_cell_q]
    exact vr_outer cA n.toNatClampNeg H.size n.toNatClampNeg
  rw [hout] at f2
  obtain ⟨t, a1, b1⟩ := kk cA F.heap fA (by rw [f1]) hold f2 hrow F rfl X'
  refine ⟨t, step t ?_, b1⟩
  have e : T.heap.size = H.size := by rw [hT]
  rw [e]
  exact a1
def GW (Γ : en) (z N : Nat) (h : hp) (H : Heap) : Prop := va_P Γ.2.1 vwCl (wsOf Γ N h) H ∧ H.size = z + N
def nestM : List Cond := [Cond.methodLinkNest "KitePainter" 28 yX0_init "KitePainter", Cond.methodLinkNest "KitePainter" 35 yX2_init "KitePainter", Cond.methodLinkNest "KitePainter" 42 yX4_init "KitePainter"]
def envC (Γ : en) (St : State → Prop) (z : Nat) : Prop :=
  (∀ i, i < 1000 → Γ.1 i = z + i) ∧ (∀ q, Γ.2.2.2 q ↔ z ≤ q) ∧ (∀ s, St s → ∀ w ∈ nestM, va_Nw w s) ∧ (∀ s, St s → va_AO "KitePainter$Sail" s) ∧ (∀ s, St s → va_AOA .int s)
section GR
variable {Γ : en} {l : Launch} {St : State → Prop} {z : Nat}
theorem ws_len {N : Nat} {h : hp} {k : Nat} {q : Nat × va_E} (hk : (wsOf Γ N h)[k]? = some q) : k < N ∧ q = (Γ.1 k, trE Γ.1 Γ.2.2.1 (h k)) := by
  by_cases hi : k < N
  · rw [ws_get hi] at hk
    exact ⟨hi, (Option.some.inj hk).symm⟩
  · rw [List.getElem?_eq_none_iff.mpr (by simpa [wsOf] using hi)] at hk
    cases hk
theorem GW_D (hC : envC Γ St z) {N : Nat} {h : hp} (hN : N ≤ 1000) : va_D Γ.2.2.2 (wsOf Γ N h) := by
  refine ⟨fun i j x y hx hy hxy => ?_, fun i q hq => ?_⟩
  · obtain ⟨h1, rfl⟩ := ws_len hx
    obtain ⟨h2, rfl⟩ := ws_len hy
    have e : Γ.1 i = Γ.1 j := hxy
    rw [hC.1 i (by omega), hC.1 j (by omega)] at e
    omega
  · obtain ⟨h1, rfl⟩ := ws_len hq
    show Γ.2.2.2 (Γ.1 i)
    rw [hC.1 i (by omega)]
    exact (hC.2.1 _).mpr (by omega)
theorem GW.push (hC : envC Γ St z) {N : Nat} {h : hp} {H H1 : Heap} {ev : va_E} (hG : GW Γ z N h H) (hN : N < 1000) (hz : H1.size = z + N + 1) (ho : ∀ q, q < z + N → H1[q]? = H[q]?) (hnew : va_at Γ.2.1 vwCl (z + N, trE Γ.1 Γ.2.2.1 ev) H1) : GW Γ z (N + 1) (va_up h N ev) H1 := by
  refine ⟨fun k q hk => ?_, by omega⟩
  obtain ⟨h1, rfl⟩ := ws_len hk
  by_cases e : k = N
  · subst e
    rw [vu_eq, hC.1 k hN]
    exact hnew
  · rw [vu_ne e]
    have h2 := hG.1 k _ (ws_get (h := h) (show k < N by omega))
    have h3 := ho (Γ.1 k) (by rw [hC.1 k (by omega)]; omega)
    unfold va_at at h2 ⊢
    split at h2
    · rw [h3]; exact h2
    · obtain ⟨r, hr, h4⟩ := h2
      refine ⟨r, hr, ?_⟩
      unfold t_OB at h4 ⊢
      rw [h3]
      exact h4
def CxI (Γ : en) (St : State → Prop) (M : mt) (z N0 : Nat) (p : Program) (s : State) (m : MethodId) (args : Array Value) (meth : Method) (c : Code) : Prop := Cx Γ St M p s m args meth c ∧ meth.name = "<init>" ∧ s.heap.size = z + N0
def QcG (Γ : en) (z N1 : Nat) (Q : hp → Prop) : Array Value → State → Outcome → State → Prop := va_Qv Q (fun (u : hp) (t : State) => GW Γ z N1 u t.heap) Γ.2.2.2
def rmG (M : mt) (k n : Nat) : Room := { frames := M.2.2.2.2.1, cells := k, slots := n, locals := M.2.2.2.2.2 }
def Gs (Γ : en) (l : Launch) (St : State → Prop) (z : Nat) (M : mt) (N0 k1 n1 : Nat) (Q : hp → Prop) (pc : Nat) (L S : List Value) (k sl : Nat) (h : hp) : Prop :=
  ∀ (p : Program) (e : Env) (s : State) (m : MethodId) (args : Array Value) (below : List Frame) (meth : Method) (c : Code) (H : Heap) (locs : List Loc) (ls : Array Slot), CxI Γ St M z N0 p s m args meth c → GW Γ z (N0 + k) h H → va_S Γ.2.2.2 s.heap H locs → LRel Γ.1 ls M.2.2.1 L → W p l e (rmG M k1 n1) s m args below meth c H locs k sl (MQ below (QcG Γ z (N0 + k1) Q) args s k1 n1 Γ.2.2.2) (F0 m pc ls (S.map (trV Γ.1)))
variable {M : mt} {N0 k1 n1 : Nat} {Q : hp → Prop} {pc : Nat} {L S : List Value} {k sl : Nat} {h : hp}
theorem gs_aload {kk : Fin 4} {x : Nat} (hd : decode M.2.1 pc = .ok (.aload_n kk, 1)) (hl : L[(kk : Nat)]? = some (.ref x)) (kn : Gs Γ l St z M N0 k1 n1 Q (pc + 1) L (.ref x :: S) k sl h) : Gs Γ l St z M N0 k1 n1 Q pc L S k sl h := by
  intro p e s m args below meth c H locs ls hC9 hG hS hL
  obtain ⟨⟨hx, hb, hrt, hml, hown, hts, hlocks, hexc, hK, hSt⟩, hin, hsz⟩ := id hC9
  exact lv_aload_n hx hb hd rfl (hL.get hl (by intro h; cases h)) (kn p e s m args below meth c H locs ls hC9 hG hS hL)
theorem gs_iload {kk : Fin 4} {x : Int32} (hd : decode M.2.1 pc = .ok (.iload_n kk, 1)) (hl : L[(kk : Nat)]? = some (.int x)) (kn : Gs Γ l St z M N0 k1 n1 Q (pc + 1) L (.int x :: S) k sl h) : Gs Γ l St z M N0 k1 n1 Q pc L S k sl h := by
  intro p e s m args below meth c H locs ls hC9 hG hS hL
  obtain ⟨⟨hx, hb, hrt, hml, hown, hts, hlocks, hexc, hK, hSt⟩, hin, hsz⟩ := id hC9
  exact lv_iload_n hx hb hd rfl (hL.get hl (by intro h; cases h)) (kn p e s m args below meth c H locs ls hC9 hG hS hL)
theorem gs_iconst {n : Int} {v : Int32} (hv : Int32.ofInt n = v) (hd : decode M.2.1 pc = .ok (.iconst n, 1)) (kn : Gs Γ l St z M N0 k1 n1 Q (pc + 1) L (.int v :: S) k sl h) : Gs Γ l St z M N0 k1 n1 Q pc L S k sl h := by
  intro p e s m args below meth c H locs ls hC9 hG hS hL
  obtain ⟨⟨hx, hb, hrt, hml, hown, hts, hlocks, hexc, hK, hSt⟩, hin, hsz⟩ := id hC9
  exact lv_iconst hx hb hd hv (kn p e s m args below meth c H locs ls hC9 hG hS hL)
theorem gs_bipush {n : Int} {v : Int32} (hv : (Int8.ofInt n).toInt32 = v) (hd : decode M.2.1 pc = .ok (.bipush n, 2)) (kn : Gs Γ l St z M N0 k1 n1 Q (pc + 2) L (.int v :: S) k sl h) : Gs Γ l St z M N0 k1 n1 Q pc L S k sl h := by
  intro p e s m args below meth c H locs ls hC9 hG hS hL
  obtain ⟨⟨hx, hb, hrt, hml, hown, hts, hlocks, hexc, hK, hSt⟩, hin, hsz⟩ := id hC9
  exact lv_bipush hx hb hd hv (kn p e s m args below meth c H locs ls hC9 hG hS hL)
theorem gs_sipush {n : Int} {v : Int32} (hv : (Int16.ofInt n).toInt32 = v) (hd : decode M.2.1 pc = .ok (.sipush n, 3)) (kn : Gs Γ l St z M N0 k1 n1 Q (pc + 3) L (.int v :: S) k sl h) : Gs Γ l St z M N0 k1 n1 Q pc L S k sl h := by
  intro p e s m args below meth c H locs ls hC9 hG hS hL
  obtain ⟨⟨hx, hb, hrt, hml, hown, hts, hlocks, hexc, hK, hSt⟩, hin, hsz⟩ := id hC9
  exact lv_sipush hx hb hd hv (kn p e s m args below meth c H locs ls hC9 hG hS hL)
theorem gs_dup {x : Nat} (hd : decode M.2.1 pc = .ok (.dup, 1)) (kn : Gs Γ l St z M N0 k1 n1 Q (pc + 1) L (.ref x :: .ref x :: S) k sl h) : Gs Γ l St z M N0 k1 n1 Q pc L (.ref x :: S) k sl h := by
  intro p e s m args below meth c H locs ls hC9 hG hS hL
  obtain ⟨⟨hx, hb, hrt, hml, hown, hts, hlocks, hexc, hK, hSt⟩, hin, hsz⟩ := id hC9
  exact lv_dup hx hb hd rfl (kn p e s m args below meth c H locs ls hC9 hG hS hL)
theorem gs_goto {off : Int} {tgt : Nat} (hd : decode M.2.1 pc = .ok (.goto off, 3)) (ht : (pc : Int) + off = (tgt : Int)) (kn : Gs Γ l St z M N0 k1 n1 Q tgt L S k sl h) : Gs Γ l St z M N0 k1 n1 Q pc L S k sl h := by
  intro p e s m args below meth c H locs ls hC9 hG hS hL
  obtain ⟨⟨hx, hb, hrt, hml, hown, hts, hlocks, hexc, hK, hSt⟩, hin, hsz⟩ := id hC9
  exact lv_goto hx hb hd ht (kn p e s m args below meth c H locs ls hC9 hG hS hL)
theorem gs_icmp_ge {x y : Int32} {off : Int} {tgt : Nat} (hd : decode M.2.1 pc = .ok (.if_icmp .ge off, 3)) (ht : (pc : Int) + off = (tgt : Int)) (k1n : y ≤ x → Gs Γ l St z M N0 k1 n1 Q tgt L S k sl h) (k2n : ¬ y ≤ x → Gs Γ l St z M N0 k1 n1 Q (pc + 3) L S k sl h) : Gs Γ l St z M N0 k1 n1 Q pc L (.int y :: .int x :: S) k sl h := by
  intro p e s m args below meth c H locs ls hC9 hG hS hL
  obtain ⟨⟨hx, hb, hrt, hml, hown, hts, hlocks, hexc, hK, hSt⟩, hin, hsz⟩ := id hC9
  exact lv_icmp_ge hx hb hd ht (fun q => k1n q p e s m args below meth c H locs ls hC9 hG hS hL) (fun q => k2n q p e s m args below meth c H locs ls hC9 hG hS hL)
theorem gs_istore {kk : Fin 4} {x : Int32} (hd : decode M.2.1 pc = .ok (.istore_n kk, 1)) (hn : (kk : Nat) < M.2.2.1) (kn : Gs Γ l St z M N0 k1 n1 Q (pc + 1) (L.set (kk : Nat) (.int x)) S k sl h) : Gs Γ l St z M N0 k1 n1 Q pc L (.int x :: S) k sl h := by
  intro p e s m args below meth c H locs ls hC9 hG hS hL
  obtain ⟨⟨hx, hb, hrt, hml, hown, hts, hlocks, hexc, hK, hSt⟩, hin, hsz⟩ := id hC9
  refine lv_istore_n hx hb hd rfl hL.has hn rfl (fun ls9 hl9 => ?_)
  exact kn p e s m args below meth c H locs ls9 hC9 hG hS (hL.store (v := .int x) rfl hl9)
theorem gs_iinc {i : Nat} {n : Int} {x v : Int32} (hd : decode M.2.1 pc = .ok (.iinc i n, 3)) (hl : L[i]? = some (.int x)) (hv : x + Int32.ofInt n = v) (hn : i < M.2.2.1) (kn : Gs Γ l St z M N0 k1 n1 Q (pc + 3) (L.set i (.int v)) S k sl h) : Gs Γ l St z M N0 k1 n1 Q pc L S k sl h := by
  intro p e s m args below meth c H locs ls hC9 hG hS hL
  obtain ⟨⟨hx, hb, hrt, hml, hown, hts, hlocks, hexc, hK, hSt⟩, hin, hsz⟩ := id hC9
  have hm : (i, Value.int x) ∈ lst Γ.1 L := lst_mem.mpr ⟨.int x, hl, (fun z => by cases z), rfl⟩
  obtain ⟨k9, hk9⟩ := List.getElem?_of_mem hm
  refine lv_iinc hx hb hd hL.has hk9 hv hn rfl (fun ls9 hl9 => ?_)
  exact kn p e s m args below meth c H locs ls9 hC9 hG hS (hL.store (v := .int v) rfl hl9)
theorem gs_obj0 {ix b : Nat} (hd : decode M.2.1 pc = .ok (.invokespecial ix, 3)) (hl : Cond.methodLink M.1.cls ix Lib.objectInit ∈ gT) (h1 : 1 ≤ M.2.2.2.2.1) (h2 : 12 ≤ M.2.2.2.2.2) (kn : Gs Γ l St z M N0 k1 n1 Q (pc + 3) L [] k sl h) : Gs Γ l St z M N0 k1 n1 Q pc L [.ref b] k sl h := by
  intro p e s m args below meth c H locs ls hC9 hG hS hL
  obtain ⟨⟨hx, hb, hrt, hml, hown, hts, hlocks, hexc, hK, hSt⟩, hin, hsz⟩ := id hC9
  exact W.objInit hx hb hown (hts _ hl) (hts _ (gT_mem 61 (by decide +kernel) (by decide +kernel))) (hts _ (gT_mem 62 (by decide +kernel) (by decide +kernel))) rfl (hL.1.trans hml.symm) rfl hd h1 (by show 2 * 0 + 0 + 12 ≤ M.2.2.2.2.2; omega) (kn p e s m args below meth c H locs ls hC9 hG hS hL)
theorem gs_newa_i (hC : envC Γ St z) {N : Nat} {v : Int32} (hd : decode M.2.1 pc = .ok (.newarray .int, 2)) (hv : v = nI N) (hN : N < 100000) (hb9 : N0 + k < 1000) (hk : k + 1 ≤ k1) (hn : sl + N ≤ n1) (kn : Gs Γ l St z M N0 k1 n1 Q (pc + 2) L (.ref (N0 + k) :: S) (k + 1) (sl + N) (va_up h (N0 + k) (.inl (0, N, .inl (fun _ => 0))))) : Gs Γ l St z M N0 k1 n1 Q pc L (.int v :: S) k sl h := by
  intro p e s m args below meth c H locs ls hC9 hG hS hL
  obtain ⟨⟨hx, hb, hrt, hml, hown, hts, hlocks, hexc, hK, hSt⟩, hin, hsz⟩ := id hC9
  subst hv
  refine va_newaK (R := rmG M k1 n1) (N := N) hx hb (hts _ (gT_mem 148 (by decide +kernel) (by decide +kernel))) rfl hd rfl (nI_pos (by omega)) (nI_clamp (by omega)) (by show N * _ ≤ 536870912; simp only [newarray.typeOf, componentBytes]; omega) hk hn hG.2 (fun H1 cA e1 z1 o1 hAr hNm => ?_)
  have hcy : s.vm.findClass ("[" ++ FieldType.int.toString) = some (Γ.2.2.1 0) := (hK.2 0 (Γ.2.2.1 0, .int) rfl).2
  have ecy : cA = Γ.2.2.1 0 := Option.some.inj (hNm.symm.trans hcy)
  subst ecy
  have hr : (Value.ref (z + (N0 + k)) :: S.map (trV Γ.1)) = (Value.ref (N0 + k) :: S).map (trV Γ.1) := by rw [List.map_cons]; show _ = Value.ref (Γ.1 (N0 + k)) :: _; rw [hC.1 _ hb9]
  have hG1 := hG.push hC (ev := .inl (0, N, .inl (fun _ => 0))) hb9 (by rw [z1]) o1 (show H1[z + (N0 + k)]? = some (vp_cell (Γ.2.2.1 0) (N, .inl (fun _ => 0))) from e1)
  have hS1 : va_S Γ.2.2.2 s.heap H1 locs := ⟨by have := hG.2; omega, fun x h1 h2 => (o1 x (by omega)).trans (hS.2.1 x h1 h2), hS.2.2⟩
  rw [hr]
  exact kn p e s m args below meth c H1 locs ls hC9 hG1 hS1 hL
theorem gs_newa_b (hC : envC Γ St z) {N : Nat} {v : Int32} (hd : decode M.2.1 pc = .ok (.newarray .byte, 2)) (hv : v = nI N) (hN : N < 100000) (hb9 : N0 + k < 1000) (hk : k + 1 ≤ k1) (hn : sl + N ≤ n1) (kn : Gs Γ l St z M N0 k1 n1 Q (pc + 2) L (.ref (N0 + k) :: S) (k + 1) (sl + N) (va_up h (N0 + k) (.inl (1, N, .inl (fun _ => 0))))) : Gs Γ l St z M N0 k1 n1 Q pc L (.int v :: S) k sl h := by
  intro p e s m args below meth c H locs ls hC9 hG hS hL
  obtain ⟨⟨hx, hb, hrt, hml, hown, hts, hlocks, hexc, hK, hSt⟩, hin, hsz⟩ := id hC9
  subst hv
  refine va_newaK (R := rmG M k1 n1) (N := N) hx hb (hts _ (gT_mem 249 (by decide +kernel) (by decide +kernel))) rfl hd rfl (nI_pos (by omega)) (nI_clamp (by omega)) (by show N * _ ≤ 536870912; simp only [newarray.typeOf, componentBytes]; omega) hk hn hG.2 (fun H1 cA e1 z1 o1 hAr hNm => ?_)
  have hcy : s.vm.findClass ("[" ++ FieldType.byte.toString) = some (Γ.2.2.1 1) := (hK.2 1 (Γ.2.2.1 1, .byte) rfl).2
  have ecy : cA = Γ.2.2.1 1 := Option.some.inj (hNm.symm.trans hcy)
  subst ecy
  have hr : (Value.ref (z + (N0 + k)) :: S.map (trV Γ.1)) = (Value.ref (N0 + k) :: S).map (trV Γ.1) := by rw [List.map_cons]; show _ = Value.ref (Γ.1 (N0 + k)) :: _; rw [hC.1 _ hb9]
  have hG1 := hG.push hC (ev := .inl (1, N, .inl (fun _ => 0))) hb9 (by rw [z1]) o1 (show H1[z + (N0 + k)]? = some (vp_cell (Γ.2.2.1 1) (N, .inl (fun _ => 0))) from e1)
  have hS1 : va_S Γ.2.2.2 s.heap H1 locs := ⟨by have := hG.2; omega, fun x h1 h2 => (o1 x (by omega)).trans (hS.2.1 x h1 h2), hS.2.2⟩
  rw [hr]
  exact kn p e s m args below meth c H1 locs ls hC9 hG1 hS1 hL
theorem gs_newa_z (hC : envC Γ St z) {N : Nat} {v : Int32} (hd : decode M.2.1 pc = .ok (.newarray .boolean, 2)) (hv : v = nI N) (hN : N < 100000) (hb9 : N0 + k < 1000) (hk : k + 1 ≤ k1) (hn : sl + N ≤ n1) (kn : Gs Γ l St z M N0 k1 n1 Q (pc + 2) L (.ref (N0 + k) :: S) (k + 1) (sl + N) (va_up h (N0 + k) (.inl (2, N, .inl (fun _ => 0))))) : Gs Γ l St z M N0 k1 n1 Q pc L (.int v :: S) k sl h := by
  intro p e s m args below meth c H locs ls hC9 hG hS hL
  obtain ⟨⟨hx, hb, hrt, hml, hown, hts, hlocks, hexc, hK, hSt⟩, hin, hsz⟩ := id hC9
  subst hv
  refine va_newaK (R := rmG M k1 n1) (N := N) hx hb (hts _ (gT_mem 445 (by decide +kernel) (by decide +kernel))) rfl hd rfl (nI_pos (by omega)) (nI_clamp (by omega)) (by show N * _ ≤ 536870912; simp only [newarray.typeOf, componentBytes]; omega) hk hn hG.2 (fun H1 cA e1 z1 o1 hAr hNm => ?_)
  have hcy : s.vm.findClass ("[" ++ FieldType.boolean.toString) = some (Γ.2.2.1 2) := (hK.2 2 (Γ.2.2.1 2, .boolean) rfl).2
  have ecy : cA = Γ.2.2.1 2 := Option.some.inj (hNm.symm.trans hcy)
  subst ecy
  have hr : (Value.ref (z + (N0 + k)) :: S.map (trV Γ.1)) = (Value.ref (N0 + k) :: S).map (trV Γ.1) := by rw [List.map_cons]; show _ = Value.ref (Γ.1 (N0 + k)) :: _; rw [hC.1 _ hb9]
  have hG1 := hG.push hC (ev := .inl (2, N, .inl (fun _ => 0))) hb9 (by rw [z1]) o1 (show H1[z + (N0 + k)]? = some (vp_cell (Γ.2.2.1 2) (N, .inl (fun _ => 0))) from e1)
  have hS1 : va_S Γ.2.2.2 s.heap H1 locs := ⟨by have := hG.2; omega, fun x h1 h2 => (o1 x (by omega)).trans (hS.2.1 x h1 h2), hS.2.2⟩
  rw [hr]
  exact kn p e s m args below meth c H1 locs ls hC9 hG1 hS1 hL
theorem gs_new (hC : envC Γ St z) {ci ix N : Nat} {C : String} {T : u_T} {ty : Nat → FieldType} {fs : List Value} (hd : decode M.2.1 pc = .ok (.new ix, 3)) (hc : ckC ci C T N ty) (hcl : Cond.classLink M.1.cls ix C ∈ gT) (hinst : Cond.instantiable C N ∈ gT) (hini : Cond.initialized C ∈ gT) (hfs : ∀ j, j < N → defaultValue (ty j) = vp_V (fs.map (trV Γ.1)) j) (hb9 : N0 + k < 1000) (hk : k + 1 ≤ k1) (hn : sl + N ≤ n1) (kn : Gs Γ l St z M N0 k1 n1 Q (pc + 3) L (.ref (N0 + k) :: S) (k + 1) (sl + N) (va_up h (N0 + k) (.inr (ci, fs)))) : Gs Γ l St z M N0 k1 n1 Q pc L S k sl h := by
  intro p e s m args below meth c H locs ls hC9 hG hS hL
  obtain ⟨⟨hx, hb, hrt, hml, hown, hts, hlocks, hexc, hK, hSt⟩, hin, hsz⟩ := id hC9
  have hKn := hK.1 ci _ hc.1
  refine W.newcK (R := rmG M k1 n1) hx hb hown (hts _ hcl) (hts _ hinst) (hts _ hini) rfl hd hk hn hKn.2.1 hG.2 fun H1 kC hkC e1 z1 o1 => ?_
  have hr : (Value.ref (z + (N0 + k)) :: S.map (trV Γ.1)) = (Value.ref (N0 + k) :: S).map (trV Γ.1) := by rw [List.map_cons]; show _ = Value.ref (Γ.1 (N0 + k)) :: _; rw [hC.1 _ hb9]
  have hG1 := hG.push hC (ev := .inr (ci, fs)) hb9 (by rw [z1]) o1 (show va_at Γ.2.1 vwCl (z + (N0 + k), .inr (ci, fs.map (trV Γ.1))) H1 from ⟨_, hc.1, (u_born ty hts hc.2.1 hKn hkC e1 hc.2.2.1).to hfs⟩)
  have hS1 : va_S Γ.2.2.2 s.heap H1 locs := ⟨by have := hG.2; omega, fun x h1 h2 => (o1 x (by omega)).trans (hS.2.1 x h1 h2), hS.2.2⟩
  show W p l e (rmG M k1 n1) s m args below meth c H1 locs (k + 1) (sl + N) _ (F0 m (pc + 3) ls (.ref (z + (N0 + k)) :: S.map (trV Γ.1)))
  rw [hr]
  exact kn p e s m args below meth c H1 locs ls hC9 hG1 hS1 hL
theorem gs_newq (hC : envC Γ St z) {ix N : Nat} {v : Int32} (hd : decode M.2.1 pc = .ok (.anewarray ix, 3)) (hcl : Cond.classLink M.1.cls ix "KitePainter$Sail" ∈ gT) (hv : v = nI N) (hN : N < 100000) (hb9 : N0 + k < 1000) (hk : k + 1 ≤ k1) (hn : sl + N ≤ n1) (kn : Gs Γ l St z M N0 k1 n1 Q (pc + 3) L (.ref (N0 + k) :: S) (k + 1) (sl + N) (va_up h (N0 + k) (.inl (3, N, .inr (.inr (.inr (.inr (fun _ => none)))))))) : Gs Γ l St z M N0 k1 n1 Q pc L (.int v :: S) k sl h := by
  intro p e s m args below meth c H locs ls hC9 hG hS hL
  obtain ⟨⟨hx, hb, hrt, hml, hown, hts, hlocks, hexc, hK, hSt⟩, hin, hsz⟩ := id hC9
  subst hv
  refine W.anew (R := rmG M k1 n1) hx hb hown (hts _ hcl) (va_AO.use (hC.2.2.2.1 s hSt)) rfl hd rfl (nI_pos (by omega)) (by rw [nI_clamp (by omega)]; omega) hk (by rw [nI_clamp (by omega)]; exact hn) fun cA kA comp f1 f2 f3 f4 => ?_
  rw [nI_clamp (by omega), hG.2]
  generalize hH1 : H.push ({ cls := cA, slots := Array.replicate N .null, vm := .none } : Cell) = H1
  have z1 : H1.size = H.size + 1 := by rw [← hH1, Array.size_push]
  have e1 : H1[H.size]? = some (arrV cA N (fun _ => .null)) := by rw [← hH1, Array.getElem?_push_size, ← arrV_new]
  have o1 : ∀ q : Nat, q < H.size → H1[q]? = H[q]? := fun q hq => by rw [← hH1, Array.getElem?_push, if_neg (Nat.ne_of_lt hq)]
  obtain ⟨kA2, comp2, -, -, -, hcy⟩ := (hK.2 3 (Γ.2.2.1 3, .object "KitePainter$Sail") rfl).2
  have ecy : cA = Γ.2.2.1 3 := Option.some.inj (f1.symm.trans hcy)
  subst ecy
  have hr : (Value.ref (z + (N0 + k)) :: S.map (trV Γ.1)) = (Value.ref (N0 + k) :: S).map (trV Γ.1) := by rw [List.map_cons]; show _ = Value.ref (Γ.1 (N0 + k)) :: _; rw [hC.1 _ hb9]
  have hG1 := hG.push hC (ev := .inl (3, N, .inr (.inr (.inr (.inr (fun _ => none)))))) hb9 (by rw [z1, hG.2]) (fun q hq => o1 q (by rw [hG.2]; exact hq)) (show H1[z + (N0 + k)]? = some (vp_cell (Γ.2.2.1 3) (N, .inr (.inr (.inr (.inr (fun _ => none)))))) from by rw [← hG.2]; exact e1)
  have hS1 : va_S Γ.2.2.2 s.heap H1 locs := ⟨by have := hG.2; omega, fun x h1 h2 => (o1 x (by have := hS.1; omega)).trans (hS.2.1 x h1 h2), hS.2.2⟩
  show W p l e (rmG M k1 n1) s m args below meth c H1 locs (k + 1) (sl + N) _ (F0 m (pc + 3) ls (.ref (z + (N0 + k)) :: S.map (trV Γ.1)))
  rw [hr]
  exact kn p e s m args below meth c H1 locs ls hC9 hG1 hS1 hL
theorem gs_putF (hC : envC Γ St z) {ix ci j x a N : Nat} {C : String} {T : u_T} {ty : Nat → FieldType} {fs : List Value} (hd : decode M.2.1 pc = .ok (.putfield ix, 3)) (hc : ckC ci C T N ty) (hj : j < N) (hw : Cond.fieldLink M.1.cls ix (T j).1 (T j).2.1 (T j).2.2.1 ∈ gT) (hn : a < N0 + k) (hb9 : N0 + k ≤ 1000) (ha : h a = .inr (ci, fs)) (hf : (T j).2.2.2 = true) (hdc : (T j).1 = M.1.cls) (hty : (ty j).isReference = true) (hlt : j < fs.length) (kn : Gs Γ l St z M N0 k1 n1 Q (pc + 3) L S k sl (va_up h a (.inr (ci, fs.set j (.ref x))))) : Gs Γ l St z M N0 k1 n1 Q pc L (.ref x :: .ref a :: S) k sl h := by
  intro p e s m args below meth c H locs ls hC9 hG hS hL
  obtain ⟨⟨hx, hb, hrt, hml, hown, hts, hlocks, hexc, hK, hSt⟩, hin, hsz⟩ := id hC9
  have hv : ∀ (t : FieldType) (q : Nat), t.isReference = true → narrow t (.ref q) = .ref q ∧ fits t (.ref q) = true := by
    intro t q ht
    cases t <;> first | (cases ht; done) | exact ⟨rfl, rfl⟩
  refine va_putF (D := Γ.2.1) (ci := ci) (v := .ref (Γ.1 x)) (ty := ty j) (C := C) (T := T) (N := N) hx hb hts hc.2.1 ty hc.2.2.1 hc.2.2.2 hown hK hG.1 (GW_D hC hb9) hS a (ws_inr hn ha) hc.1 j hj (hts _ hw) (fun _ h9 => h9) hf hin hdc (hc.2.2.1 j hj) (hv _ _ hty).1 (hv _ _ hty).2 (by rw [List.length_map]; exact hlt) hd (fun H1 locs1 hP1 hD1 hS1 => W_size (fun hle => ?_))
  have e2 : (wsOf Γ (N0 + k) h).set a (Γ.1 a, .inr (ci, (fs.map (trV Γ.1)).set j (.ref (Γ.1 x)))) = wsOf Γ (N0 + k) (va_up h a (.inr (ci, fs.set j (.ref x)))) := by rw [show (Value.ref (Γ.1 x)) = trV Γ.1 (.ref x) from rfl, ← List.map_set]; exact ws_set (e := .inr (ci, fs.set j (.ref x)))
  rw [e2] at hP1
  have hge : z + (N0 + k) ≤ H1.size := by
    have h9 := (hP1 (N0 + k - 1) _ (ws_get (by omega))).lt
    rw [hC.1 _ (by omega)] at h9
    omega
  exact kn p e s m args below meth c H1 locs1 ls hC9 ⟨hP1, by omega⟩ hS1 hL
theorem gs_put (hC : envC Γ St z) {ix ci j a N : Nat} {x : Int32} {C : String} {T : u_T} {ty : Nat → FieldType} {fs : List Value} (hd : decode M.2.1 pc = .ok (.putfield ix, 3)) (hc : ckC ci C T N ty) (hj : j < N) (hw : Cond.fieldLink M.1.cls ix (T j).1 (T j).2.1 (T j).2.2.1 ∈ gT) (hn : a < N0 + k) (hb9 : N0 + k ≤ 1000) (ha : h a = .inr (ci, fs)) (hf : (T j).2.2.2 = false) (hty : ty j = .int) (hlt : j < fs.length) (kn : Gs Γ l St z M N0 k1 n1 Q (pc + 3) L S k sl (va_up h a (.inr (ci, fs.set j (.int x))))) : Gs Γ l St z M N0 k1 n1 Q pc L (.int x :: .ref a :: S) k sl h := by
  intro p e s m args below meth c H locs ls hC9 hG hS hL
  obtain ⟨⟨hx, hb, hrt, hml, hown, hts, hlocks, hexc, hK, hSt⟩, hin, hsz⟩ := id hC9
  refine va_put (D := Γ.2.1) (ci := ci) (v := .int x) (ty := ty j) (C := C) (T := T) (N := N) hx hb hts hc.2.1 ty hc.2.2.1 hc.2.2.2 hown hK hG.1 (GW_D hC hb9) hS a (ws_inr hn ha) hc.1 j hj (hts _ hw) (fun _ h9 => h9) hf (hc.2.2.1 j hj) (by rw [hty]; rfl) (by rw [hty]; rfl) (by rw [List.length_map]; exact hlt) hd (fun H1 locs1 hP1 hD1 hS1 => W_size (fun hle => ?_))
  have e2 : (wsOf Γ (N0 + k) h).set a (Γ.1 a, .inr (ci, (fs.map (trV Γ.1)).set j (.int x))) = wsOf Γ (N0 + k) (va_up h a (.inr (ci, fs.set j (.int x)))) := by rw [show (Value.int x) = trV Γ.1 (.int x) from rfl, ← List.map_set]; exact ws_set (e := .inr (ci, fs.set j (.int x)))
  rw [e2] at hP1
  have hge : z + (N0 + k) ≤ H1.size := by
    have h9 := (hP1 (N0 + k - 1) _ (ws_get (by omega))).lt
    rw [hC.1 _ (by omega)] at h9
    omega
  exact kn p e s m args below meth c H1 locs1 ls hC9 ⟨hP1, by omega⟩ hS1 hL
theorem gs_getf {ix ci j a N x : Nat} {C : String} {T : u_T} {ty : Nat → FieldType} {fs : List Value} (hd : decode M.2.1 pc = .ok (.getfield ix, 3)) (hc : ckC ci C T N ty) (hj : j < N) (hw : Cond.fieldLink M.1.cls ix (T j).1 (T j).2.1 (T j).2.2.1 ∈ gT) (hn : a < N0 + k) (ha : h a = .inr (ci, fs)) (hv : fs[j]? = some (.ref x)) (kn : Gs Γ l St z M N0 k1 n1 Q (pc + 3) L (.ref x :: S) k sl h) : Gs Γ l St z M N0 k1 n1 Q pc L (.ref a :: S) k sl h := by
  intro p e s m args below meth c H locs ls hC9 hG hS hL
  obtain ⟨⟨hx, hb, hrt, hml, hown, hts, hlocks, hexc, hK, hSt⟩, hin, hsz⟩ := id hC9
  refine va_get (D := Γ.2.1) (ci := ci) (C := C) (T := T) (N := N) (v := .ref (Γ.1 x)) hx hb hts hc.2.1 hown hK hG.1 a (ws_inr hn ha) hc.1 j hj (hts _ hw) (fun _ h9 => h9) (by rw [List.getElem?_map, hv]; rfl) hd (kn p e s m args below meth c H locs ls hC9 hG hS hL)
theorem gs_aast (hC : envC Γ St z) {a x i n : Nat} {v : Int32} {f : Nat → Option Nat} {fs : List Value} (hd : decode M.2.1 pc = .ok (.aastore, 1)) (hn : a < N0 + k) (hx9 : x < N0 + k) (hb9 : N0 + k ≤ 1000) (ha : h a = .inl (3, n, .inr (.inr (.inr (.inr f))))) (hxa : h x = .inr (3, fs)) (hv : v = nI i) (hi : i < n) (hn2 : n < 100000) (kn : Gs Γ l St z M N0 k1 n1 Q (pc + 1) L S k sl (va_up h a (.inl (3, n, .inr (.inr (.inr (.inr (va_up f i (some x))))))))) : Gs Γ l St z M N0 k1 n1 Q pc L (.ref x :: .int v :: .ref a :: S) k sl h := by
  intro p e s m args below meth c H locs ls hC9 hG hS hL
  obtain ⟨⟨hx, hb, hrt, hml, hown, hts, hlocks, hexc, hK, hSt⟩, hin, hsz⟩ := id hC9
  subst hv
  refine va_astq (D := Γ.2.1) hx hb hK hG.1 (GW_D hC hb9) hS a 3 x 3 (r := (RX3, TX3, 15)) (ws_q hn ha) rfl (ws_inr hx9 hxa) rfl (vp_in_nI hi (by omega)) hd (fun H1 locs1 hP1 hD1 hS1 => W_size (fun hle => ?_))
  have e2 := ws_set (Γ := Γ) (NC := N0 + k) (h := h) (a := a) (e := .inl (3, n, .inr (.inr (.inr (.inr (va_up f i (some x)))))))
  have e3 : trE Γ.1 Γ.2.2.1 (.inl (3, n, .inr (.inr (.inr (.inr (va_up f i (some x))))))) = .inl (Γ.2.2.1 3, n, .inr (.inr (.inr (.inr (va_up (fun i => (f i).map Γ.1) i (some (Γ.1 x))))))) := by
    show Sum.inl (_, n, Sum.inr (Sum.inr (Sum.inr (Sum.inr (fun j => (va_up f i (some x) j).map Γ.1))))) = _
    have e4 : (fun j => (va_up f i (some x) j).map Γ.1) = va_up (fun i => (f i).map Γ.1) i (some (Γ.1 x)) := by
      funext j
      unfold va_up
      split <;> rfl
    rw [e4]
  rw [e3] at e2
  rw [nI_clamp (by omega), e2] at hP1
  have hge : z + (N0 + k) ≤ H1.size := by
    have h9 := (hP1 (N0 + k - 1) _ (ws_get (by omega))).lt
    rw [hC.1 _ (by omega)] at h9
    omega
  exact kn p e s m args below meth c H1 locs1 ls hC9 ⟨hP1, by omega⟩ hS1 hL
theorem gs_ret (hd : decode M.2.1 pc = .ok (.return_, 1)) (hr : M.2.2.2.1 = none) (hq : Q h) (hk : k = k1) (hn : sl = n1) : Gs Γ l St z M N0 k1 n1 Q pc L [] k sl h := by
  intro p e s m args below meth c H locs ls hC9 hG hS hL
  obtain ⟨⟨hx, hb, hrt, hml, hown, hts, hlocks, hexc, hK, hSt⟩, hin, hsz⟩ := id hC9
  subst hk
  subst hn
  exact W.vret hx hb (hrt.trans hr) (fun t ht _ => ⟨⟨h, rfl, hq, (show GW Γ z (N0 + k) h t.heap by rw [ht]; exact hG)⟩, hS.F ht⟩) hS.2.2 hd hlocks
theorem gs_cvv (hE : envOK Γ St) {adV : Nat → Nat} (hX : envX Γ St adV) (hl9 : l.stackTraces = false) (hC : envC Γ St z) {ix n a ci : Nat} {Y : mt} {As fs : List Value} {T : u_T} {Nf : Nat} {Q1 : qt} (hd : decode M.2.1 pc = .ok (.invokevirtual ix, 3)) (hl : lnV M ix Y n) (hlen : As.length = n) (hcA : cat1 As) (hcS : catS S) (hn : a < N0 + k) (hb9 : N0 + k ≤ 1000) (ha : h a = .inr (ci, fs)) (hcy : vwCl[ci]? = some (Y.1.cls, T, Nf)) (hret : Y.2.2.2.1 = none) (k9 : Cl (N0 + k) Y (.ref a :: As) h Q1) (hk : k ≤ k1) (hsl : sl ≤ n1) (kn : ∀ h1, Q1 .null h1 → Gs Γ l St z M N0 k1 n1 Q (pc + 3) L S k sl h1) : Gs Γ l St z M N0 k1 n1 Q pc L (As.reverse ++ .ref a :: S) k sl h := by
  intro p e s m args below meth c H locs ls hC9 hG hS hL
  obtain ⟨⟨hx, hb, hrt, hml, hown, hts, hlocks, hexc, hK, hSt⟩, hin, hsz⟩ := id hC9
  rw [rev_map]
  have hP := hG.1
  have hD := GW_D (h := h) hC hb9
  have hM := cl_met (l := l) hE hX hl9 (As := .ref a :: As) hl.1.2.2.1 hl.1.2.2.2.2.1 (by unfold cat1 at hcA ⊢; simp only [List.all_cons, Bool.and_eq_true]; exact ⟨rfl, hcA⟩) (by have := hl.2.2.2; simp only [List.length_cons]; omega) k9
  have hcw := cwV (R := rmG M k1 n1) (own := M.1.cls) (index := ix) (C := Y.1.cls) (y := Y.1) (bytes := Y.2.1) (maxL := Y.2.2.1) (ret := Y.2.2.2.1) (ws := wsM Y) (rm := rmM none Y) (mc := 0) (ms := 0) n hts (lnV_good hl) rfl rfl rfl ⟨rfl, hl.1.2.2.2.1⟩ ⟨hl.1.2.2.2.2.2.1, hl.1.2.2.2.2.2.2⟩
  have hrun := va_runV (p := p) (e := e) (R := rmG M k1 n1) (below := below) (meth := meth) (cells := k) (slots := sl) (locs := locs) (g := F0 m pc ls ((As.map (trV Γ.1)).reverse ++ .ref (Γ.1 a) :: S.map (trV Γ.1))) (rest := S.map (trV Γ.1)) ⟨hx, hb, hml, hown, hts⟩ hM hcw (pre_V hE hP hD hS hK hSt hn ha hcy) rfl ((List.length_map ..).trans hlen) hL.1 rfl (lv_room (cat_map hcS)) hd ⟨hk, hsl⟩
  rw [Qc_void hret] at hrun
  refine va_callv hrun hS (fun q _ h => h) (fun q h => h) (fun u t H1 locs1 ht hvm hq hB hz hk9 hS1 => W_size (fun hle => ?_))
  exact kn u hq p e s m args below meth c H1 locs1 ls hC9 ⟨by rw [← ht]; exact hB.1, by have := hG.2; omega⟩ hS1 hL
theorem gs_csv (hE : envOK Γ St) {adV : Nat → Nat} (hX : envX Γ St adV) (hl9 : l.stackTraces = false) (hC : envC Γ St z) {ix n : Nat} {Y : mt} {As : List Value} {Q1 : qt} (hd : decode M.2.1 pc = .ok (.invokestatic ix, 3)) (hl : lnS M ix Y n) (hlen : As.length = n) (hcA : cat1 As) (hcS : catS S) (hb9 : N0 + k ≤ 1000) (hret : Y.2.2.2.1 = none) (k9 : Cl (N0 + k) Y As h Q1) (hk : k ≤ k1) (hsl : sl ≤ n1) (kn : ∀ h1, Q1 .null h1 → Gs Γ l St z M N0 k1 n1 Q (pc + 3) L S k sl h1) : Gs Γ l St z M N0 k1 n1 Q pc L (As.reverse ++ S) k sl h := by
  intro p e s m args below meth c H locs ls hC9 hG hS hL
  obtain ⟨⟨hx, hb, hrt, hml, hown, hts, hlocks, hexc, hK, hSt⟩, hin, hsz⟩ := id hC9
  rw [rev_mapS]
  have hP := hG.1
  have hD := GW_D (h := h) hC hb9
  have hM := cl_met (l := l) hE hX hl9 (As := As) hl.1.2.2.1 hl.1.2.2.2.2.1 hcA (by have := hl.2.2; omega) k9
  have hcw := va_cwS (R := rmG M k1 n1) (own := M.1.cls) (index := ix) (y := Y.1) (bytes := Y.2.1) (maxL := Y.2.2.1) (ret := Y.2.2.2.1) (ws := wsM Y) (rm := rmM none Y) (mc := 0) (ms := 0) n hts (lnS_good hl) rfl rfl rfl hl.1.2.2.2.1 ⟨hl.1.2.2.2.2.2.1, hl.1.2.2.2.2.2.2⟩
  have hrun := va_runS (p := p) (e := e) (R := rmG M k1 n1) (below := below) (meth := meth) (cells := k) (slots := sl) (locs := locs) (g := F0 m pc ls ((As.map (trV Γ.1)).reverse ++ S.map (trV Γ.1))) (rest := S.map (trV Γ.1)) ⟨hx, hb, hml, hown, hts⟩ hM hcw (pre_S hE hP hD hS hK hSt) rfl ((List.length_map ..).trans hlen) hL.1 rfl (lv_room (cat_map hcS)) hd ⟨hk, hsl⟩
  rw [Qc_void hret] at hrun
  refine va_callv hrun hS (fun q _ h => h) (fun q h => h) (fun u t H1 locs1 ht hvm hq hB hz hk9 hS1 => W_size (fun hle => ?_))
  exact kn u hq p e s m args below meth c H1 locs1 ls hC9 ⟨by rw [← ht]; exact hB.1, by have := hG.2; omega⟩ hS1 hL
def PcG (Γ : en) (St : State → Prop) (z N : Nat) (h : hp) (b : Nat) : Array Value → State → Prop := va_Pc [.ref (Γ.1 b)] (fun U => GW Γ z N h U.heap ∧ va_K Γ.2.1 vwCl (tysOf Γ) U ∧ St U)
theorem PcG.blind (hE : envOK Γ St) {N b : Nat} {h : hp} : FrameBlind (PcG Γ St z N h b) := by
  intro a U g mk q
  obtain ⟨q0, qG, qK, qS⟩ := q
  exact ⟨q0, qG, va_K.moved (u := U) (U := U.calling g mk a) (Vm.Alike.refl U.vm) qK, hE.2.1 U g mk a qS⟩
def MetG (Γ : en) (l : Launch) (St : State → Prop) (z : Nat) (Y : mt) (N k2 n2 b : Nat) (h : hp) (Q : hp → Prop) : Prop := Met l Y.1 (wsM Y) (rmG Y k2 n2) (PcG Γ St z N h b) (QcG Γ z (N + k2) Q) k2 n2 Γ.2.2.2
theorem gs_met {Y : mt} {N k2 n2 b : Nat} {h : hp} {Q : hp → Prop} (hpl : plainName Y.1.cls = true) (hi : Y.1.name = "<init>") (hn : 1 ≤ Y.2.2.1) (kn : Gs Γ l St z Y N k2 n2 Q 0 (pad Y.2.2.1 [.ref b]) [] 0 0 h) : MetG Γ l St z Y N k2 n2 b h Q := by
  refine Met.ofW (cc := Y.2.1) (maxL := Y.2.2.1) (ret := Y.2.2.2.1) hpl rfl ?_
  intro p e s m args below meth c s₁ B hml hv
  obtain ⟨rfl, hG, hK, hSt⟩ := hv
  have hts := atoms_spec (ws := wsM Y) B.pre
  have ht : ∀ x ∈ c.exceptionTable.toList, False := by
    obtain ⟨meth9, c9, h1, h2, -, -, -, -, h7, -⟩ := Cond.code_spec B.named (hts _ List.mem_cons_self)
    cases Option.some.inj (h1.symm.trans B.method)
    cases Option.some.inj (h2.symm.trans (Stand.of_body B).code)
    intro x hx
    rw [Array.isEmpty_iff.mp h7] at hx
    cases hx
  rw [lg_entry_eq]
  exact kn p e s m _ below meth c s.heap [] _ ⟨⟨B.exec, B.bytes, B.returns, hml, findClass_of_methodNamed B.named, fun w hw => hts w (List.mem_cons_of_mem _ hw), B.notSynchronized, ht, hK, hSt⟩, (name_of_methodNamed B.named B.method).1.trans hi, hG.2⟩ hG va_S.rf (entry_rel (ad := Γ.1) (As := [.ref b]) rfl hn)
/-- a constructor's link -/
def lnI (M : mt) (ix : Nat) (Y : mt) : Prop := Cond.initialized Y.1.cls ∈ gT ∧ Cond.code Y.1 Y.2.1 Y.2.2.1 none ∈ gT ∧ Cond.instanceMethod Y.1 ∈ gT ∧ Y.1.name = "<init>" ∧ Y.2.2.2.1 = none ∧ (Y.1.cls ≠ "java/lang/invoke/MethodHandle" ∧ Y.1.cls ≠ "java/lang/invoke/VarHandle" ∧ (parseMethodDescriptor Y.1.desc).map (fun d => d.parameters.length) = some 0) ∧ Y.2.2.2.2.1 + 1 ≤ M.2.2.2.2.1 ∧ 8 + (Y.2.2.1 + 11) + Y.2.2.2.2.2 ≤ M.2.2.2.2.2
theorem lnI_good {M Y : mt} {ix : Nat} (h : lnI M ix Y) : GoodIn gT (wsM Y) := by
  intro w hw
  unfold wsM at hw
  rw [h.2.2.2.2.1] at hw
  rcases List.mem_cons.mp hw with rfl | hw
  · exact ⟨h.2.1, gT_good h.2.1⟩
  · exact ⟨hw, gT_good hw⟩
theorem gs_init (hE : envOK Γ St) (hC : envC Γ St z) {ix b k2 n2 : Nat} {Y : mt} {Q1 : hp → Prop} (hd : decode M.2.1 pc = .ok (.invokespecial ix, 3)) (hl : lnI M ix Y) (hlk : Cond.methodLink M.1.cls ix Y.1 ∈ gT) (hcS : catS S) (hb : MetG Γ l St z Y (N0 + k) k2 n2 b h Q1) (hk : k + k2 ≤ k1) (hsl : sl + n2 ≤ n1) (kn : ∀ h1, Q1 h1 → Gs Γ l St z M N0 k1 n1 Q (pc + 3) L S (k + k2) (sl + n2) h1) : Gs Γ l St z M N0 k1 n1 Q pc L (.ref b :: S) k sl h := by
  intro p e s m args below meth c H locs ls hC9 hG hS hL
  obtain ⟨⟨hx, hb9, hrt, hml, hown, hts, hlocks, hexc, hK, hSt⟩, hin, hsz⟩ := id hC9
  have hcw := cwI (R := rmG M k1 n1) (own := M.1.cls) (index := ix) (y := Y.1) (bytes := Y.2.1) (maxL := Y.2.2.1) (ws := wsM Y) (rm := rmG Y k2 n2) (mc := k2) (ms := n2) 0 hts (lnI_good hl) (by unfold wsM; rw [hl.2.2.2.2.1]) rfl rfl (hts _ hl.1) (hts _ hlk) (hts _ hl.2.2.1) hl.2.2.2.1 hl.2.2.2.2.2.1 ⟨hl.2.2.2.2.2.2.1, hl.2.2.2.2.2.2.2⟩
  have hrun := va_runI (p := p) (e := e) (R := rmG M k1 n1) (below := below) (meth := meth) (cells := k) (slots := sl) (locs := locs) (As := []) (b := Γ.1 b) (g := F0 m pc ls (.ref (Γ.1 b) :: S.map (trV Γ.1))) (rest := S.map (trV Γ.1)) ⟨hx, hb9, hml, hown, hts⟩ hb hcw ⟨PcG.blind hE, fun U hU hW => ⟨rfl, by rw [hU]; exact hG, va_K.moved hW.alike hK, hE.1 s U H locs hSt hS hU hW⟩⟩ rfl rfl hL.1 rfl (lv_room (cat_map hcS)) hd ⟨hk, hsl⟩
  refine va_callv hrun hS (fun q _ h => h) (fun q h => h) (fun u t H1 locs1 ht hvm hq hB hz hk9 hS1 => ?_)
  have hG1 : GW Γ z (N0 + k + k2) u H1 := by rw [← ht]; exact hB
  exact kn u hq p e s m args below meth c H1 locs1 ls hC9 (by rw [← Nat.add_assoc]; exact hG1) hS1 hL
theorem gs_initN (hE : envOK Γ St) (hC : envC Γ St z) {ix b k2 n2 : Nat} {Y : mt} {Q1 : hp → Prop} (hd : decode M.2.1 pc = .ok (.invokespecial ix, 3)) (hl : lnI M ix Y) {host : String} (hnm : Cond.methodLinkNest M.1.cls ix Y.1 host ∈ nestM) (hcS : catS S) (hb : MetG Γ l St z Y (N0 + k) k2 n2 b h Q1) (hk : k + k2 ≤ k1) (hsl : sl + n2 ≤ n1) (kn : ∀ h1, Q1 h1 → Gs Γ l St z M N0 k1 n1 Q (pc + 3) L S (k + k2) (sl + n2) h1) : Gs Γ l St z M N0 k1 n1 Q pc L (.ref b :: S) k sl h := by
  intro p e s m args below meth c H locs ls hC9 hG hS hL
  obtain ⟨⟨hx, hb9, hrt, hml, hown, hts, hlocks, hexc, hK, hSt⟩, hin, hsz⟩ := id hC9
  have hcw := (⟨va_cnB (R := rmG M k1 n1) (own := M.1.cls) (index := ix) (y := Y.1) (bytes := Y.2.1) (maxL := Y.2.2.1) (ret := none) (ws := wsM Y) (rm := rmG Y k2 n2) (mc := k2) (ms := n2) 0 hts (lnI_good hl) (by unfold wsM; rw [hl.2.2.2.2.1]) rfl rfl (hC.2.2.1 s hSt _ hnm) (hts _ hl.1) hl.2.2.2.2.2.1 ⟨hl.2.2.2.2.2.2.1, hl.2.2.2.2.2.2.2⟩, hl.2.2.2.1, hts _ hl.2.2.1⟩ : va_CN (rmG M k1 n1) s args M.1.cls ix Y.1 host Y.2.1 Y.2.2.1 none (wsM Y) (rmG Y k2 n2) k2 n2 0 ∧ Y.1.name = "<init>" ∧ (Cond.instanceMethod Y.1).before args s = true)
  have hrun := va_runIN (p := p) (e := e) (R := rmG M k1 n1) (below := below) (meth := meth) (cells := k) (slots := sl) (locs := locs) (As := []) (b := Γ.1 b) (g := F0 m pc ls (.ref (Γ.1 b) :: S.map (trV Γ.1))) (rest := S.map (trV Γ.1)) ⟨hx, hb9, hml, hown, hts⟩ hb hcw ⟨PcG.blind hE, fun U hU hW => ⟨rfl, by rw [hU]; exact hG, va_K.moved hW.alike hK, hE.1 s U H locs hSt hS hU hW⟩⟩ rfl rfl hL.1 rfl (lv_room (cat_map hcS)) hd ⟨hk, hsl⟩
  refine va_callv hrun hS (fun q _ h => h) (fun q h => h) (fun u t H1 locs1 ht hvm hq hB hz hk9 hS1 => ?_)
  have hG1 : GW Γ z (N0 + k + k2) u H1 := by rw [← ht]; exact hB
  exact kn u hq p e s m args below meth c H1 locs1 ls hC9 (by rw [← Nat.add_assoc]; exact hG1) hS1 hL
theorem gs_mna (hC : envC Γ St z) {ix K9 : Nat} {v v2 : Int32} (hd : decode M.2.1 pc = .ok (.multianewarray ix 2, 4)) (hcl : Cond.classLink M.1.cls ix "[[I" ∈ gT) (hv : v = 8) (hv2 : v2 = nI K9) (hK9 : K9 < 10000) (hb9 : N0 + k + 9 ≤ 1000) (hk : k + 9 ≤ k1) (hn : sl + (8 + 8 * K9) ≤ n1) (kn : ∀ h1, (∀ a, a < N0 + k → h1 a = h a) → h1 (N0 + k) = .inl (4, 8, .inr (.inr (.inr (.inr (fun i => if i < 8 then some (N0 + k + 1 + i) else none))))) → (∀ j, j < 8 → h1 (N0 + k + 1 + j) = .inl (0, K9, .inl (fun _ => 0))) → Gs Γ l St z M N0 k1 n1 Q (pc + 4) L (.ref (N0 + k) :: S) (k + 9) (sl + (8 + 8 * K9)) h1) : Gs Γ l St z M N0 k1 n1 Q pc L (.int v2 :: .int v :: S) k sl h := by
  intro p e s m args below meth c H locs ls hC9 hG hS hL
  obtain ⟨⟨hx, hb, hrt, hml, hown, hts, hlocks, hexc, hK, hSt⟩, hin, hsz⟩ := id hC9
  subst hv
  subst hv2
  have hcy : s.vm.findClass "[I" = some (Γ.2.2.1 0) := (hK.2 0 (Γ.2.2.1 0, .int) rfl).2
  refine W_mna (R := rmG M k1 n1) (ty := .int) (cy := Γ.2.2.1 0) (N' := 8) (K' := K9) (z := (K9, .inl (fun _ => 0))) hx hb hown (hts _ hcl) (hC.2.2.2.2 s hSt) (hts _ (gT_mem 148 (by decide +kernel) (by decide +kernel))) hcy (by decide) (nI_pos (by omega)) rfl (nI_clamp (by omega)) (by decide) (by show K9 * 4 ≤ 536870912; omega) (by omega) rfl rfl (by show k + 9 ≤ k1; omega) (by show sl + (8 + 8 * K9) ≤ n1; omega) (fun c => ?_) hd (fun cA H1 hcA hz1 ho1 hq1 hr1 => ?_)
  · show ({ cls := c, slots := Array.replicate K9 (.int 0), vm := .none } : Cell) = arrV c K9 (fun _ => .int 0)
    exact arrV_new c K9 (.int 0)
  have hcy4 : s.vm.findClass ("[" ++ (FieldType.array .int).toString) = some (Γ.2.2.1 4) := (hK.2 4 (Γ.2.2.1 4, .array .int) rfl).2
  have ecy : cA = Γ.2.2.1 4 := Option.some.inj (hcA.symm.trans hcy4)
  subst ecy
  rw [hG.2] at hz1 ho1 hq1 hr1 ⊢
  let h1 : hp := fun a => if a < N0 + k then h a else if a = N0 + k then .inl (4, 8, .inr (.inr (.inr (.inr (fun i => if i < 8 then some (N0 + k + 1 + i) else none))))) else .inl (0, K9, .inl (fun _ => 0))
  have g1 : ∀ a, a < N0 + k → h1 a = h a := fun a ha => if_pos ha
  have g2 : h1 (N0 + k) = .inl (4, 8, .inr (.inr (.inr (.inr (fun i => if i < 8 then some (N0 + k + 1 + i) else none))))) := (if_neg (Nat.lt_irrefl _)).trans (if_pos rfl)
  have g3 : ∀ j, j < 8 → h1 (N0 + k + 1 + j) = .inl (0, K9, .inl (fun _ => 0)) := fun j hj => (if_neg (by omega)).trans (if_neg (by omega))
  have hG1 : GW Γ z (N0 + (k + 9)) h1 H1 := by
    refine ⟨fun i q hi => ?_, by omega⟩
    obtain ⟨i1, rfl⟩ := ws_len hi
    rcases (by omega : i < N0 + k ∨ i = N0 + k ∨ N0 + k < i) with q | q | q
    · rw [g1 i q]
      have h2 := hG.1 i _ (ws_get (h := h) q)
      have h3 := ho1 (Γ.1 i) (by rw [hC.1 i (by omega)]; omega)
      unfold va_at at h2 ⊢
      split at h2
      · rw [h3]; exact h2
      · obtain ⟨r, hr, h4⟩ := h2
        refine ⟨r, hr, ?_⟩
        unfold t_OB at h4 ⊢
        rw [h3]
        exact h4
    · subst q
      rw [g2, hC.1 _ (by omega)]
      show H1[z + (N0 + k)]? = some (vp_cell (Γ.2.2.1 4) (8, .inr (.inr (.inr (.inr (fun i => ((if i < 8 then some (N0 + k + 1 + i) else none : Option Nat)).map Γ.1))))))
      rw [hq1]
      have e5 : (fun i => if i < 8 then some (z + (N0 + k) + 1 + i) else (none : Option Nat)) = fun i => (if i < 8 then some (N0 + k + 1 + i) else (none : Option Nat)).map Γ.1 := by
        funext i
        split
        · rename_i i8; show some _ = some _; rw [hC.1 _ (by omega)]; congr 1; omega
        · rfl
      rw [e5]
    · have g4 := g3 (i - (N0 + k + 1)) (by omega)
      rw [show N0 + k + 1 + (i - (N0 + k + 1)) = i by omega] at g4
      rw [g4, hC.1 _ (by omega)]
      have h5 := hr1 (i - (N0 + k + 1)) (by omega)
      rw [show z + (N0 + k) + 1 + (i - (N0 + k + 1)) = z + i by omega] at h5
      exact h5
  have hr : (Value.ref (z + (N0 + k)) :: S.map (trV Γ.1)) = (Value.ref (N0 + k) :: S).map (trV Γ.1) := by rw [List.map_cons]; show _ = Value.ref (Γ.1 (N0 + k)) :: _; rw [hC.1 _ (by omega)]
  have hS1 : va_S Γ.2.2.2 s.heap H1 locs := ⟨by have := hG.2; omega, fun x h1 h2 => (ho1 x (by have := hS.1; have := hG.2; omega)).trans (hS.2.1 x h1 h2), hS.2.2⟩
  have kz := kn h1 g1 g2 g3 p e s m args below meth c H1 locs ls hC9 hG1 hS1 hL
  rw [hr, show sl + 8 + 8 * K9 = sl + (8 + 8 * K9) by omega]
  exact kz
end GR
