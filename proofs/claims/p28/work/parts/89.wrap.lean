/-! WRAPPERS: bodies with a table of their own -/
def rmW (W : mt) : Room := { frames := W.2.2.2.2.1, cells := 1, slots := 6, locals := W.2.2.2.2.2 }
def wsW (W : mt) (hh : List (Nat × Nat × Nat × Nat)) : List Cond := .codeWith W.1 W.2.1 W.2.2.1 W.2.2.2.1 hh :: gT
def MetW (Γ : en) (l : Launch) (St : State → Prop) (NC : Nat) (W : mt) (hh : List (Nat × Nat × Nat × Nat)) (As : List Value) (h : hp) (Qw : Int32 → hp → Prop) : Prop := Met l W.1 (wsW W hh) (rmW W) (PcM Γ St NC h As) (va_Qi Qw (BW Γ NC) Γ.2.2.2) 1 6 Γ.2.2.2
def argl : Nat → List Value → List (Nat × Value)
  | _, [] => []
  | k, v :: r => (k, v) :: argl (k + 1) r
theorem argl_get : ∀ {As : List Value} {k : Nat} {q : Nat × Value}, q ∈ argl k As → ∃ i, q.1 = k + i ∧ As[i]? = some q.2
  | [], _, _, h => by cases h
  | v :: r, k, q, h => by
    rcases List.mem_cons.mp h with rfl | h
    · exact ⟨0, rfl, rfl⟩
    · obtain ⟨i, h1, h2⟩ := argl_get h
      exact ⟨i + 1, by omega, h2⟩
def envL (St : State → Prop) : Prop := ∀ s, St s → va_Nc "java/lang/IllegalArgumentException" "java/lang/IndexOutOfBoundsException" s ∧ va_Nc "java/lang/IllegalStateException" "java/lang/IndexOutOfBoundsException" s
section WR
variable {Γ : en} {l : Launch} {St : State → Prop} {NC : Nat}
theorem Met.ofWH {y : MethodName} {ws ws' : List Cond} {rm : Room} {Pc : Array Value → State → Prop} {Qc : Array Value → State → Outcome → State → Prop} {mc ms : Nat} {free : Addr → Prop} {cc : ByteArray} {maxL : Nat} {ret : Option FieldType} {hh : List (Nat × Nat × Nat × Nat)}
    (hy : plainName y.cls = true) (hw : ws = Cond.codeWith y cc maxL ret hh :: ws')
    (body : ∀ p e s m args below meth c s₁, BodyLoose p l y (headSpec ws rm) cc maxL ret e s m args below meth c s₁ → c.maxLocals = maxL → Pc args s →
      W p l e (headSpec ws rm).room s m args below meth c s.heap [] 0 0 (MQ below Qc args s mc ms free) (entryFrame m args maxL)) : Met l y ws rm Pc Qc mc ms free := by
  refine MetFree.of_bodyS (code := cc) (maxLocals := maxL) (ret := ret) hy ?_ ?_
  · intro args s m h hn
    obtain ⟨m9, meth, c, hn9, h1, h2, h3, h4, -, h5, h6, -⟩ := Cond.codeWith_spec (atoms_spec (ws := ws) h _ (by rw [hw]; exact List.mem_cons_self))
    cases hn.symm.trans hn9
    exact ⟨meth, c, h1, h2, h3, h4, h5, h6⟩
  · intro p e s m args below meth c s₁ B hml hP _
    have hh0 : s₁.heap = s.heap := by rw [B.state]; rfl
    obtain ⟨t, a1, o, b1, b2, b3⟩ := body p e s m args below meth c s₁ B hml hP s₁ hh0 (Stand.of_body B)
    exact ⟨t, o, a1, b1, b2, ⟨b3.1, b3.2⟩⟩
theorem metW_of {W9 : mt} {hh : List (Nat × Nat × Nat × Nat)} {As : List Value} {h : hp} {Qw : Int32 → hp → Prop} (hpl : plainName W9.1.cls = true) (hret : W9.2.2.2.1 = some .int) (hc : cat1 As) (h0 : ∀ v ∈ As, v ≠ .null) (hn : As.length ≤ W9.2.2.1)
    (kn : ∀ (p : Program) (e : Env) (s : State) (m : MethodId) (args : Array Value) (below : List Frame) (meth : Method) (c : Code), CF Γ St W9 (rmW W9) p s m args c → meth.sig.returnType = some .int → meth.locks = false → c.exceptionTable.toList = tableOf hh → Fs Γ NC p l e (rmW W9) s m args below meth c W9.2.2.1 (MQ below (va_Qi Qw (BW Γ NC) Γ.2.2.2) args s 1 6 Γ.2.2.2) 0 0 0 (argl 0 As) [] h) : MetW Γ l St NC W9 hh As h Qw := by
  unfold MetW
  refine Met.ofWH (cc := W9.2.1) (maxL := W9.2.2.1) (ret := W9.2.2.2.1) (hh := hh) hpl rfl ?_
  intro p e s m args below meth c s₁ B hml hv
  obtain ⟨rfl, hP, hD, hK, hSt⟩ := hv
  have hts := atoms_spec (ws := wsW W9 hh) B.pre
  rw [lg_entry_eq]
  have hE1 := entry_rel (ad := Γ.1) (As := As) (n := W9.2.2.1) hc hn
  refine kn p e s m _ below meth c ⟨B.exec, B.bytes, hml, findClass_of_methodNamed B.named, fun w hw => hts w (List.mem_cons_of_mem _ hw), hK, hSt, Nat.le_refl _, Nat.le_refl _⟩ (B.returns.trans hret) B.notSynchronized (vx_table (x := W9.1) B (hts _ List.mem_cons_self)) s.heap [] _ ⟨hP, hD, va_S.rf⟩ ⟨hE1.1, hE1.2.1, fun q hq => ?_⟩
  obtain ⟨q1, hq1, rfl⟩ := List.mem_map.mp hq
  obtain ⟨i, h1, h2⟩ := argl_get hq1
  rw [Nat.zero_add] at h1
  have h3 := (hE1.2.2 i q1.2 (by unfold pad; rw [List.getElem?_append_left (List.getElem?_eq_some_iff.mp h2).1]; exact h2) (h0 _ (List.mem_of_getElem? h2))).2
  show _ = some (Slot.val (trV Γ.1 q1.2))
  rw [← h3]
  show _[q1.1]? = _
  rw [h1]
variable {p : Program} {e : Env} {R : Room} {s : State} {m : MethodId} {args : Array Value} {below : List Frame} {meth : Method} {c : Code} {Q : State → Prop} {M : mt} {k sl pc : Nat} {lv : List (Nat × Value)} {S : List Value} {h : hp}
theorem fs_iretW {Qw : Int32 → hp → Prop} {v : Int32} {mc ms : Nat} (hC : CF Γ St M R p s m args c) (hd : decode M.2.1 pc = .ok (.ireturn, 1)) (hr : meth.sig.returnType = some .int) (hlocks : meth.locks = false) (hk : k ≤ mc) (hs : sl ≤ ms) (hq : Qw v h) : Fs Γ NC p l e R s m args below meth c M.2.2.1 (MQ below (va_Qi Qw (BW Γ NC) Γ.2.2.2) args s mc ms Γ.2.2.2) k sl pc lv [.int v] h := by
  intro H locs ls hW hL
  refine W.widen hk hs ?_
  exact W.iret hC.1 hC.2.1 hr (fun t ht _ => ⟨⟨v, h, rfl, hq, by rw [BW, ht]; exact ⟨hW.1, hW.2.1⟩⟩, hW.2.2.F ht⟩) hW.2.2.2.2 hd hlocks
/-- the handler: the thing caught is put away, an answer given -/
theorem w_hand {Qw : Int32 → hp → Prop} {mc ms : Nat} {j : Nat} {n : Int} {q : Nat} {H : Heap} {locs : List Loc} {ls : Array Slot} (hC : CF Γ St M R p s m args c) (hd1 : decode M.2.1 pc = .ok (.astore j, 2)) (hd2 : decode M.2.1 (pc + 2) = .ok (.iconst n, 1)) (hd3 : decode M.2.1 (pc + 3) = .ok (.ireturn, 1)) (hj : j < M.2.2.1) (hr : meth.sig.returnType = some .int) (hlocks : meth.locks = false) (hk : k ≤ mc) (hs : sl ≤ ms) (hW : Hw Γ NC h H s locs) (hL : lv_has ls M.2.2.1 (lv.map (trp Γ.1))) (hq : Qw (I n) h) : W p l e R s m args below meth c H locs k sl (MQ below (va_Qi Qw (BW Γ NC) Γ.2.2.2) args s mc ms Γ.2.2.2) (F0 m pc ls [.ref q]) := by
  refine lv_astore hC.1 hC.2.1 hd1 hL hj rfl (fun ls9 hl9 => ?_)
  refine lv_iconst hC.1 hC.2.1 hd2 rfl ?_
  refine W.widen hk hs ?_
  exact W.iret hC.1 hC.2.1 hr (fun t ht _ => ⟨⟨_, h, rfl, hq, by rw [BW, ht]; exact ⟨hW.1, hW.2.1⟩⟩, hW.2.2.F ht⟩) hW.2.2.2.2 hd3 hlocks
theorem w_hand_n {Qw : Int32 → hp → Prop} {mc ms : Nat} {j : Fin 4} {n : Int} {q : Nat} {H : Heap} {locs : List Loc} {ls : Array Slot} (hC : CF Γ St M R p s m args c) (hd1 : decode M.2.1 pc = .ok (.astore_n j, 1)) (hd2 : decode M.2.1 (pc + 1) = .ok (.iconst n, 1)) (hd3 : decode M.2.1 (pc + 2) = .ok (.ireturn, 1)) (hj : (j : Nat) < M.2.2.1) (hr : meth.sig.returnType = some .int) (hlocks : meth.locks = false) (hk : k ≤ mc) (hs : sl ≤ ms) (hW : Hw Γ NC h H s locs) (hL : lv_has ls M.2.2.1 (lv.map (trp Γ.1))) (hq : Qw (I n) h) : W p l e R s m args below meth c H locs k sl (MQ below (va_Qi Qw (BW Γ NC) Γ.2.2.2) args s mc ms Γ.2.2.2) (F0 m pc ls [.ref q]) := by
  refine lv_astore_n hC.1 hC.2.1 hd1 rfl hL hj rfl (fun ls9 hl9 => ?_)
  refine lv_iconst hC.1 hC.2.1 hd2 rfl ?_
  refine W.widen hk hs ?_
  exact W.iret hC.1 hC.2.1 hr (fun t ht _ => ⟨⟨_, h, rfl, hq, by rw [BW, ht]; exact ⟨hW.1, hW.2.1⟩⟩, hW.2.2.F ht⟩) hW.2.2.2.2 hd3 hlocks
theorem fs_cvx (hE : envOK Γ St) {adV : Nat → Nat} (hX : envX Γ St adV) (hl9 : l.stackTraces = false) (hC : CF Γ St M R p s m args c) (hR : k + 1 ≤ R.cells ∧ sl + 6 ≤ R.slots) {ix n a ci : Nat} {Y : mt} {As fs : List Value} {T : u_T} {Nf : Nat} {Q1 : qt} {E name : String} (hd : decode M.2.1 pc = .ok (.invokevirtual ix, 3)) (hl : lnV M ix Y n) (hlen : As.length = n) (hcA : cat1 As) (hcS : catS S) (hn : a < NC) (ha : h a = .inr (ci, fs)) (hc : vwCl[ci]? = some (Y.1.cls, T, Nf)) (k1 : Ct NC E Y (.ref a :: As) h Q1)
    (pre : List ExceptionTableEntry) (x : ExceptionTableEntry) (suf : List ExceptionTableEntry) (ht : c.exceptionTable.toList = pre ++ x :: suf) (hpass : ∀ z ∈ pre, z.catchType ≠ 0 ∧ ∃ nm : String, Cond.classLink M.1.cls z.catchType nm ∈ gT ∧ va_Nc E nm s) (hx : covers x pc = true) (h0 : x.catchType ≠ 0) (hlink : Cond.classLink M.1.cls x.catchType name ∈ gT) (hcast : Cond.castable E name ∈ fT)
    (kn : ∀ h1, Q1 .null h1 → ∀ (H : Heap) (locs : List Loc) (ls : Array Slot) (q : Nat), Hw Γ NC h1 H s locs → lv_has ls M.2.2.1 (lv.map (trp Γ.1)) → W p l e R s m args below meth c H locs (k + 1) (sl + 6) Q (F0 m x.handlerPc ls [.ref q])) : Fs Γ NC p l e R s m args below meth c M.2.2.1 Q k sl pc lv (As.reverse ++ .ref a :: S) h := by
  intro H locs ls hW hL
  obtain ⟨hx9, hb, hml, hown, hts, hK, hSt, hR1, hR2⟩ := id hC
  obtain ⟨hP, hD, hS⟩ := id hW
  rw [rev_map]
  have hM := ct_met (l := l) hE hX hl9 (As := .ref a :: As) hl.1.2.2.1 hl.1.2.2.2.2.1 (by unfold cat1 at hcA ⊢; simp only [List.all_cons, Bool.and_eq_true]; exact ⟨rfl, hcA⟩) (by have := hl.2.2.2; simp only [List.length_cons]; omega) k1
  have hcw := cwV (R := R) (own := M.1.cls) (index := ix) (C := Y.1.cls) (y := Y.1) (bytes := Y.2.1) (maxL := Y.2.2.1) (ret := Y.2.2.2.1) (ws := wsM Y) (rm := rmM (some E) Y) (mc := 1) (ms := 6) n hts (lnV_good hl) rfl rfl rfl ⟨rfl, hl.1.2.2.2.1⟩ ⟨Nat.le_trans hl.1.2.2.2.2.2.1 hR1, Nat.le_trans hl.1.2.2.2.2.2.2 hR2⟩
  have hrun := vx_runV (p := p) (e := e) (R := R) (below := below) (meth := meth) (cells := k) (slots := sl) (locs := locs) (g := F0 m pc ls ((As.map (trV Γ.1)).reverse ++ .ref (Γ.1 a) :: S.map (trV Γ.1))) (rest := S.map (trV Γ.1)) ⟨hx9, hb, hml, hown, hts⟩ hM hcw (pre_V hE hP hD hS hK hSt hn ha hc) rfl ((List.length_map ..).trans hlen) hL.1 rfl (lv_room (cat_map hcS)) hd hR
  intro T0 hT X
  rcases hrun T0 hT X with ⟨v, st₀, t, T', L', h0', X', hL', e1, e2, hF, st⟩ | ⟨q, st₀, t, T', L', E', ce, h0', X', hL', e1, e2, ⟨rfl, ⟨u, hq, hWu⟩, hF⟩, hce, hcv, hcl, st⟩
  · exact hF.elim
  · obtain ⟨z1, z2, z3⟩ := vx_keep h0' e1 hS (fun q _ h => h) (fun q h => h) hL' hF
    have hout := vx_catch (p := p) (l := l) (e := e) (R := R) (s := s) (m := m) (args := args) (below := below) (meth := meth) (c := c) (H := T'.heap) (locs := locs ++ L') (cells := k + 1) (slots := sl + 6) (Q := Q) (pc := pc) (ls := ls) (rest := S.map (trV Γ.1)) (name := name) (E := E') (ce := ce) (q := q) hown pre x suf ht (fun z hz => Or.inr ⟨(hpass z hz).1, by obtain ⟨nm, n1, n2⟩ := (hpass z hz).2; exact ⟨nm, hts _ n1, n2⟩⟩) hx h0 (hts _ hlink) (va_tabs (fT_on hcast) rfl (hX.2.2.2.2.2.2 s hSt _ hcast)) (by rw [e1]; exact hce) hcv hcl (kn u hq _ _ _ q ⟨by rw [e1]; exact hWu.1, hWu.2, z3⟩ hL)
    obtain ⟨t2, a1, b1⟩ := hout T' rfl X'
    exact ⟨t2, st.trans a1, b1⟩
theorem fT_mem {w : Cond} (i : Nat) (h : lw_tbl[i]? = some w) (g : (w.faceAtom && w.onTables) = true) : w ∈ fT := List.mem_filter.mpr ⟨List.mem_of_getElem? h, g⟩
/-- a wrapper's link -/
def lnW (M : mt) (ix : Nat) (W9 : mt) (hh : List (Nat × Nat × Nat × Nat)) (n : Nat) : Prop := Cond.methodLink M.1.cls ix W9.1 ∈ gT ∧ Cond.initialized W9.1.cls ∈ gT ∧ Cond.codeWith W9.1 W9.2.1 W9.2.2.1 W9.2.2.2.1 hh ∈ gT ∧ Cond.static W9.1 ∈ gT ∧ (W9.1.cls ≠ "java/lang/invoke/MethodHandle" ∧ W9.1.cls ≠ "java/lang/invoke/VarHandle" ∧ (parseMethodDescriptor W9.1.desc).map (fun d => d.parameters.length) = some n) ∧ W9.2.2.2.2.1 + 1 ≤ M.2.2.2.2.1 ∧ 8 + (W9.2.2.1 + 11) + W9.2.2.2.2.2 ≤ M.2.2.2.2.2
theorem fs_csW (hE : envOK Γ St) (hC : CF Γ St M R p s m args c) (hR : k + 1 ≤ R.cells ∧ sl + 6 ≤ R.slots) {ix n : Nat} {W9 : mt} {hh : List (Nat × Nat × Nat × Nat)} {As : List Value} {Qw : Int32 → hp → Prop} (hd : decode M.2.1 pc = .ok (.invokestatic ix, 3)) (hl : lnW M ix W9 hh n) (hlen : As.length = n) (hcS : catS S) (hM : MetW Γ l St NC W9 hh As h Qw) (kn : ∀ r h1, Qw r h1 → Fs Γ NC p l e R s m args below meth c M.2.2.1 Q (k + 1) (sl + 6) (pc + 3) lv (.int r :: S) h1) : Fs Γ NC p l e R s m args below meth c M.2.2.1 Q k sl pc lv (As.reverse ++ S) h := by
  intro H locs ls hW hL
  obtain ⟨hx9, hb, hml, hown, hts, hK, hSt, hR1, hR2⟩ := id hC
  obtain ⟨hP, hD, hS⟩ := id hW
  rw [rev_mapS]
  unfold MetW at hM
  have hG : GoodIn gT (va_wsS M.1.cls ix W9.1 (wsW W9 hh)) := by
    intro w hw
    unfold va_wsS at hw
    rcases List.mem_append.mp hw with hw | hw
    · simp only [List.mem_cons, List.not_mem_nil, or_false] at hw
      rcases hw with rfl | rfl | rfl
      · exact ⟨hl.1, gT_good hl.1⟩
      · exact ⟨hl.2.2.2.1, gT_good hl.2.2.2.1⟩
      · exact ⟨hl.2.1, gT_good hl.2.1⟩
    · unfold wsW at hw
      rcases List.mem_cons.mp hw with rfl | hw
      · exact ⟨hl.2.2.1, gT_good hl.2.2.1⟩
      · exact ⟨hw, gT_good hw⟩
  have hcw := vx_cwSW (R := R) (own := M.1.cls) (index := ix) (y := W9.1) (bytes := W9.2.1) (maxL := W9.2.2.1) (ret := W9.2.2.2.1) (hh := hh) (ws := wsW W9 hh) (rm := rmW W9) (mc := 1) (ms := 6) n hts hG rfl rfl rfl hl.2.2.2.2.1 ⟨Nat.le_trans hl.2.2.2.2.2.1 hR1, Nat.le_trans hl.2.2.2.2.2.2 hR2⟩
  have hrun := vx_runSW (p := p) (e := e) (R := R) (below := below) (meth := meth) (cells := k) (slots := sl) (locs := locs) (g := F0 m pc ls ((As.map (trV Γ.1)).reverse ++ S.map (trV Γ.1))) (rest := S.map (trV Γ.1)) ⟨hx9, hb, hml, hown, hts⟩ hM hcw (pre_S hE hP hD hS hK hSt) rfl ((List.length_map ..).trans hlen) hL.1 rfl (lv_room (cat_map hcS)) hd hR
  exact va_calli hrun hS (fun q _ h => h) (fun q h => h) (fun r u t H1 locs1 ht hvm hq hB hz hk1 hS1 => kn r u hq H1 locs1 ls ⟨by rw [← ht]; exact hB.1, hB.2, hS1⟩ hL)
end WR
