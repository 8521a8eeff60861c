/-! WHAT HOLDS OF EVERY STATE UNDERWAY: it outlives warming, and cells that the law makes -/
theorem aoa_spec {ty : FieldType} {U : State} (h : va_AOA ty U) : ∃ (comp : ClassId) (c : Nat) (k : Class), U.vm.findClass (FieldType.array ty).toString = some comp ∧ (U.vm.classes.findIdx? fun (x : Class) => match x.kind with | .array component _ => component == comp | _ => false) = some c ∧ U.vm.classes[c]? = some k ∧ k.kind = .array comp (.array ty) ∧ U.vm.findClass ("[" ++ (FieldType.array ty).toString) = some c := by
  unfold va_AOA at h
  simp only [Cond.before, Cond.holds, Cond.value, beq_iff_eq] at h
  cases hc : U.vm.findClass (FieldType.array ty).toString with
  | none => simp [hc] at h
  | some comp =>
    simp only [hc, Option.bind_some, Option.bind_eq_some_iff, Option.map_eq_some_iff] at h
    obtain ⟨c, hi, k, hk, hb⟩ := h
    obtain ⟨hlt, hp, -⟩ := Array.findIdx?_eq_some_iff_getElem.mp hi
    have hkk : U.vm.classes[c] = k := (Array.getElem?_eq_some_iff.mp hk).2
    rw [hkk] at hp
    cases hkind : k.kind with
    | array component ty =>
      rw [hkind] at hb hp
      simp at hb hp
      exact ⟨comp, c, k, rfl, hi, hk, by rw [hkind, hp, hb.1], hb.2⟩
    | _ => rw [hkind] at hb; simp at hb
theorem aoa_moved {ty : FieldType} {u U : State} (hvm : u.vm.Alike U.vm) (h : va_AOA ty u) : va_AOA ty U := by
  obtain ⟨comp, c, k, h1, h2, h3, h4, h5⟩ := aoa_spec h
  obtain ⟨k', hk', he⟩ := hvm.2.2 _ _ h3
  have hi : (U.vm.classes.findIdx? fun (x : Class) => match x.kind with | .array component _ => component == comp | _ => false) = some c := by
    have e1 := va_idx_bare U.vm comp
    have e2 := va_idx_bare u.vm comp
    first | rw [hvm.bare_eq] at e1 | rw [← hvm.bare_eq] at e1
    exact e1.symm.trans (e2.trans h2)
  have hkind : k'.kind = .array comp (.array ty) := by rw [he]; exact h4
  have f1 : U.vm.findClass (FieldType.array ty).toString = some comp := by rw [hvm.findClass]; exact h1
  have f2 : U.vm.findClass ("[" ++ (FieldType.array ty).toString) = some c := by rw [hvm.findClass]; exact h5
  unfold va_AOA Cond.before Cond.holds
  simp only [Cond.value]
  rw [f1, Option.bind_some]
  refine (congrArg (fun o : Option Nat => (o.bind (fun c => (U.vm.classes[c]?).map fun (k : Class) => match k.kind with | .array _ ty9 => decide (ty9 = FieldType.array ty) && decide (U.vm.findClass ("[" ++ (FieldType.array ty).toString) = some c) | _ => false) == some true)) hi).trans ?_
  simp [hk', hkind, f2]
def nest9 : Cond := Cond.methodLinkNest "KitePainterLaw" 116 yX7_init "KitePainterLaw"
theorem nest9_on : nest9.onTables = true := by decide +kernel
def StL (ad : Nat → Nat) (A : Nat → Prop) (sc : Nat × (Nat → Int32)) (U : State) : Prop :=
  (∀ j, j < 4 → va_Z "KitePainter" (tabN j) "[I" (.ref (ad (1000 + j))) A U U.heap) ∧
  (∀ j, j < 4 → va_T .int (ad (1000 + j)) 4 (fun i => .int (tabF j i)) A U U.heap) ∧
  (∀ (own : String) (ix j : Nat) (tx : String), (own, ix, j, tx) ∈ strL → vk_R own ix tx (ad (2000 + j)) U) ∧
  (∀ w ∈ nestW, va_Nw w U) ∧
  (∀ w ∈ nestM, va_Nw w U) ∧
  (∀ q : Nat, U.heap.size ≤ q → A q) ∧
  strO (fun j => ad (2000 + j)) (fun j => ad (4000 + j)) A U U.heap ∧
  va_Z "java/lang/String" "COMPACT_STRINGS" "Z" (.int 1) A U U.heap ∧
  va_Zq "jdk/internal/util/Preconditions" "SIOOBE_FORMATTER" "Ljava/util/function/BiFunction;" A U U.heap ∧
  vx_Zq Bundle.tN "UNASSIGNED_STACK" Bundle.steD A U U.heap ∧
  vx_Zq Bundle.tN "SUPPRESSED_SENTINEL" Bundle.listD A U U.heap ∧
  (∀ w ∈ fT, w.before #[] U = true) ∧
  va_AO "KitePainter$Sail" U ∧ va_AOA .int U ∧
  va_Nc "java/lang/IllegalArgumentException" "java/lang/IndexOutOfBoundsException" U ∧ va_Nc "java/lang/IllegalStateException" "java/lang/IndexOutOfBoundsException" U ∧
  (∀ (own : String) (ix j : Nat) (tx : String), (own, ix, j, tx) ∈ strG → vk_R own ix tx (ad (2000 + j)) U) ∧
  (va_X (ad 3000) sc.1 sc.2 U U.heap ∧ ad 3000 < U.heap.size ∧ ¬ A (ad 3000)) ∧
  va_AOA (.object "java/lang/String") U ∧
  (va_AO "KitePainterLaw$Cell" U ∧ va_AO "KitePainterLaw$Kite" U ∧ va_AO "java/lang/String" U) ∧ va_Nw nest9 U
theorem fT_face {w : Cond} (h : w ∈ fT) : w.faceAtom = true := by
  have h1 := (List.mem_filter.mp h).2
  simp only [Bool.and_eq_true] at h1
  exact h1.1
theorem strO.go {adK adV : Nat → Nat} {A : Nat → Prop} {u U : State} {H H1 : Heap} (h : strO adK adV A u H) (hvm : u.vm.Alike U.vm) (hq : ∀ a : Nat, a < H.size → ¬ A a → H1[a]? = H[a]?) : strO adK adV A U H1 := by
  intro i hi
  obtain ⟨h1, h2, h3, h4⟩ := h i hi
  exact ⟨(va_O.moved hvm h1).kept hq, (va_OF.moved hvm h2).kept hq, (va_OF.moved hvm h3).kept hq, (va_T.moved hvm h4).kept hq⟩
theorem StL.go {ad : Nat → Nat} {A : Nat → Prop} {sc : Nat × (Nat → Int32)} {s U : State} {H : Heap} {locs : List Loc} (h : StL ad A sc s) (hS : va_S A s.heap H locs) (hU : U.heap = H) (hW : s.WarmedH U.vm) : StL ad A sc U := by
  obtain ⟨a1, a2, a3, a4, a5, a6, a7, a8, a9, a10, a11, a12, a13, a14, a15, a16, a17, ⟨a18, a18b, a18c⟩, a19, a20, a21⟩ := h
  have hvm := hW.alike
  have hq := hS.2.1
  have hz := hS.1
  subst hU
  refine ⟨fun j hj => (va_Z.moved hvm (a1 j hj)).kept hq, fun j hj => (va_T.moved hvm (a2 j hj)).kept hq, fun own ix j tx hm => vk_R.warm hW (a3 own ix j tx hm), fun w hw => ?_, fun w hw => ?_, fun q h9 => a6 q (Nat.le_trans hz h9), a7.go hvm hq, (va_Z.moved hvm a8).kept hq, (va_Zq.moved hvm a9).kept hq, (vx_Zq.moved hvm a10).kept hq, (vx_Zq.moved hvm a11).kept hq, fun w hw => ?_, va_AO.moved hvm a13, aoa_moved hvm a14, va_Nc.moved hvm a15, va_Nc.moved hvm a16, fun own ix j tx hm => vk_R.warm hW (a17 own ix j tx hm), ⟨(a18.moved hvm).kept (hq _ a18b a18c), Nat.lt_of_lt_of_le a18b hz, a18c⟩, aoa_moved hvm a19, ⟨va_AO.moved hvm a20.1, va_AO.moved hvm a20.2.1, va_AO.moved hvm a20.2.2⟩, va_Nw.warmM hW a21⟩
  · have h9 := a4 w hw
    unfold nestW at hw
    simp only [List.mem_cons, List.not_mem_nil, or_false] at hw
    rcases hw with rfl | rfl | rfl | rfl <;> exact va_Nw.warmF hW h9
  · have h9 := a5 w hw
    unfold nestM at hw
    simp only [List.mem_cons, List.not_mem_nil, or_false] at hw
    rcases hw with rfl | rfl | rfl <;> exact va_Nw.warmM hW h9
  · exact va_tabs (fT_on hw) (rfl : (s.setVm U.vm).vm = U.vm) (Cond.faceAtom_setVm hvm w (fT_face hw) (a12 w hw))
theorem nest_on : ∀ w ∈ nestW ++ nestM, w.onTables = true := by decide +kernel
theorem StL.call {ad : Nat → Nat} {A : Nat → Prop} {sc : Nat × (Nat → Int32)} {U V : State} (h : StL ad A sc U) (hv : U.vm = V.vm) (hh : V.heap = U.heap) : StL ad A sc V := by
  obtain ⟨a1, a2, a3, a4, a5, a6, a7, a8, a9, a10, a11, a12, a13, a14, a15, a16, a17, ⟨a18, a18b, a18c⟩, a19, a20, a21⟩ := h
  have hvm : U.vm.Alike V.vm := by rw [hv]; exact Vm.Alike.refl _
  have hq : ∀ a : Nat, a < U.heap.size → ¬ A a → V.heap[a]? = U.heap[a]? := fun a _ _ => by rw [hh]
  refine ⟨fun j hj => (va_Z.moved hvm (a1 j hj)).kept hq, fun j hj => (va_T.moved hvm (a2 j hj)).kept hq, fun own ix j tx hm => vk_R.same hv.symm (a3 own ix j tx hm), fun w hw => va_Nw.same (nest_on w (List.mem_append_left _ hw)) hv (a4 w hw), fun w hw => va_Nw.same (nest_on w (List.mem_append_right _ hw)) hv (a5 w hw), fun q h9 => a6 q (by rw [← hh]; exact h9), a7.go hvm hq, (va_Z.moved hvm a8).kept hq, (va_Zq.moved hvm a9).kept hq, (vx_Zq.moved hvm a10).kept hq, (vx_Zq.moved hvm a11).kept hq, fun w hw => va_tabs (fT_on hw) hv (a12 w hw), va_AO.moved hvm a13, aoa_moved hvm a14, va_Nc.moved hvm a15, va_Nc.moved hvm a16, fun own ix j tx hm => vk_R.same hv.symm (a17 own ix j tx hm), ⟨(a18.moved hvm).kept (hq _ a18b a18c), by rw [hh]; exact a18b, a18c⟩, aoa_moved hvm a19, ⟨va_AO.moved hvm a20.1, va_AO.moved hvm a20.2.1, va_AO.moved hvm a20.2.2⟩, va_Nw.same nest9_on hv a21⟩
section EN
variable {Γ : en} {sc : Nat × (Nat → Int32)}
theorem StL.envOK : envOK Γ (StL Γ.1 Γ.2.2.2 sc) :=
  ⟨fun s U H locs h hS hU hW => h.go hS hU hW, fun U g mk a h => h.call rfl rfl, fun s j hj h => h.1 j hj, fun s j hj h => h.2.1 j hj, fun s own ix j tx hm h => h.2.2.1 own ix j tx hm, fun s w hw h => h.2.2.2.1 w hw⟩
theorem StL.envX : envX Γ (StL Γ.1 Γ.2.2.2 sc) (fun j => Γ.1 (4000 + j)) :=
  ⟨fun s h => h.2.2.2.2.2.1, fun s h => h.2.2.2.2.2.2.1, fun s h => h.2.2.2.2.2.2.2.1, fun s h => h.2.2.2.2.2.2.2.2.1, fun s h => h.2.2.2.2.2.2.2.2.2.1, fun s h => h.2.2.2.2.2.2.2.2.2.2.1, fun s h => h.2.2.2.2.2.2.2.2.2.2.2.1⟩
theorem StL.envL : envL (StL Γ.1 Γ.2.2.2 sc) := fun s h => ⟨h.2.2.2.2.2.2.2.2.2.2.2.2.2.2.1, h.2.2.2.2.2.2.2.2.2.2.2.2.2.2.2.1⟩
theorem StL.envC {z : Nat} (h1 : ∀ i, i < 1000 → Γ.1 i = z + i) (h2 : ∀ q, Γ.2.2.2 q ↔ z ≤ q) : envC Γ (StL Γ.1 Γ.2.2.2 sc) z :=
  ⟨h1, h2, fun s h => h.2.2.2.2.1, fun s h => h.2.2.2.2.2.2.2.2.2.2.2.2.1, fun s h => h.2.2.2.2.2.2.2.2.2.2.2.2.2.1⟩
theorem StL.envA : envA Γ (StL Γ.1 Γ.2.2.2 sc) sc :=
  ⟨fun s own ix j tx hm h => h.2.2.2.2.2.2.2.2.2.2.2.2.2.2.2.2.1 own ix j tx hm, fun s h => h.2.2.2.2.2.2.2.2.2.2.2.2.2.2.2.2.2.1, fun s h => h.2.2.2.2.2.2.2.1, fun s h => h.2.2.2.2.2.2.2.2.2.2.2.2.2.2.2.2.2.2.1, fun s h => h.2.2.2.2.2.2.2.2.2.2.2.2.2.2.2.2.2.2.2.1, fun s h => h.2.2.2.2.2.2.2.2.2.2.2.2.2.1, fun s h => h.2.2.2.2.2.2.2.2.2.2.2.2.2.2.2.2.2.2.2.2, fun s h => h.2.2.2.2.2.2.1⟩
end EN
