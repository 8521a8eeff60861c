/-! THE LAW: the loop, and its world's making -/
section LL
variable {Γ : en} {l : Launch} {St : State → Prop} {p : Program} {e : Env} {R : Room} {s : State} {m : MethodId} {args : Array Value} {below : List Frame} {meth : Method} {c : Code} {Q : State → Prop} {k sl pc : Nat} {lv : List (Nat × Value)} {S : List Value} {h : hp} {L : Nat} {xs : Nat → Int32} {z N : Nat}
theorem law_loop (hE : envOK Γ St) {adV : Nat → Nat} (hX : envX Γ St adV) (hl9 : l.stackTraces = false) (hLn : envL St) (hC : CF Γ St M_law R p s m args c) (hs : scr Γ s L xs) (hL9 : L ≤ 3072) (kE : ∀ (k sl t : Nat) (h : hp), k ≤ R.cells → sl ≤ R.slots → (Fs Γ 132 p l e R s m args below meth c M_law.2.2.1 Q k sl 1676 (L0 t) [] h)) : ∀ (n t k sl : Nat) (h : hp), 6 * t ≤ L → L < 6 * (t + n) + 6 → k + n ≤ R.cells → sl + 6 * n ≤ R.slots → LI h → (Fs Γ 132 p l e R s m args below meth c M_law.2.2.1 Q k sl 23 (L0 t) [] h) := by
  intro n
  induction n with
  | zero =>
    intro t k sl h ht0 hn hk hsl hI
    refine fs_iload hC dL_law_23 rfl ?_
    refine fs_aload_n hC dL_law_25 rfl ?_
    refine fs_slen hC hs dL_law_26 hL9 ?_
    refine fs_bipush hC dL_law_27 (by decide) ?_
    refine fs_isub hC dL_law_29 ?_
    refine fs_icmp_gt hC (tgt := 1676) dL_law_30 (by decide) (by omega) (by omega) (fun q => ?_) (fun q => ?_)
    · exact kE k sl t h (by omega) (by omega)
    · exfalso; omega
  | succ n ih =>
    intro t k sl h ht0 hn hk hsl hI
    refine fs_iload hC dL_law_23 rfl ?_
    refine fs_aload_n hC dL_law_25 rfl ?_
    refine fs_slen hC hs dL_law_26 hL9 ?_
    refine fs_bipush hC dL_law_27 (by decide) ?_
    refine fs_isub hC dL_law_29 ?_
    refine fs_icmp_gt hC (tgt := 1676) dL_law_30 (by decide) (by omega) (by omega) (fun q => ?_) (fun q => ?_)
    · exact kE k sl t h (by omega) (by omega)
    refine fs_aload_n hC dL_law_33 rfl ?_
    refine fs_iload hC dL_law_34 rfl ?_
    refine fs_sld hC hs dL_law_36 (by omega) hL9 ?_
    refine fs_bipush hC dL_law_37 (by decide) ?_
    refine fs_iand hC dL_law_39 ?_
    have kk : ∀ u, LI u → (Fs Γ 132 p l e R s m args below meth c M_law.2.2.1 Q (k + 1) (sl + 6) 1670 (L0 t) [] u) := by
      intro u hu
      refine fs_iinc hC dL_law_1670 rfl (by decide) rfl ?_
      refine fs_goto hC (tgt := 23) dL_law_1673 (by decide) ?_
      rw [show (((6 * t : Nat) : Int) + 6) = ((6 * (t + 1) : Nat) : Int) by push_cast; omega]
      refine fs_pick [1, 2, 3, 4, 0] rfl ?_
      exact ih (t + 1) (k + 1) (sl + 6) u (by omega) (by omega) (by omega) (by omega) hu
    by_cases q2 : 0 ≤ (xs (6 * t) &&& I 31).toInt ∧ (xs (6 * t) &&& I 31).toInt ≤ 24
    · obtain ⟨v, hv⟩ := Int.eq_ofNat_of_zero_le q2.1
      rcases (by omega : v = 0 ∨ v = 1 ∨ v = 2 ∨ v = 3 ∨ v = 4 ∨ v = 5 ∨ v = 6 ∨ v = 7 ∨ v = 8 ∨ v = 9 ∨ v = 10 ∨ v = 11 ∨ v = 12 ∨ v = 13 ∨ v = 14 ∨ v = 15 ∨ v = 16 ∨ v = 17 ∨ v = 18 ∨ v = 19 ∨ v = 20 ∨ v = 21 ∨ v = 22 ∨ v = 23 ∨ v = 24) with rfl | rfl | rfl | rfl | rfl | rfl | rfl | rfl | rfl | rfl | rfl | rfl | rfl | rfl | rfl | rfl | rfl | rfl | rfl | rfl | rfl | rfl | rfl | rfl | rfl
      · refine fs_tabI hC dL_law_40 (n := 0) (tgt := 156) (by omega) (by decide) rfl (by decide) ?_
        exact lc_append hE hX hl9 hLn hC ⟨by omega, by omega⟩ hs hL9 (by omega) hI kk
      · refine fs_tabI hC dL_law_40 (n := 1) (tgt := 229) (by omega) (by decide) rfl (by decide) ?_
        exact lc_load hE hX hl9 hLn hC ⟨by omega, by omega⟩ hs hL9 (by omega) hI kk
      · refine fs_tabI hC dL_law_40 (n := 2) (tgt := 285) (by omega) (by decide) rfl (by decide) ?_
        exact lc_errorOffset hE hX hl9 hLn hC ⟨by omega, by omega⟩ hs hL9 (by omega) hI kk
      · refine fs_tabI hC dL_law_40 (n := 3) (tgt := 298) (by omega) (by decide) rfl (by decide) ?_
        exact lc_state hE hX hl9 hLn hC ⟨by omega, by omega⟩ hs hL9 (by omega) hI kk
      · refine fs_tabI hC dL_law_40 (n := 4) (tgt := 354) (by omega) (by decide) rfl (by decide) ?_
        exact lc_cell hE hX hl9 hLn hC ⟨by omega, by omega⟩ hs hL9 (by omega) hI kk
      · refine fs_tabI hC dL_law_40 (n := 5) (tgt := 434) (by omega) (by decide) rfl (by decide) ?_
        exact lc_mix hE hX hl9 hLn hC ⟨by omega, by omega⟩ hs hL9 (by omega) hI kk
      · refine fs_tabI hC dL_law_40 (n := 6) (tgt := 502) (by omega) (by decide) rfl (by decide) ?_
        exact lc_count hE hX hl9 hLn hC ⟨by omega, by omega⟩ hs hL9 (by omega) hI kk
      · refine fs_tabI hC dL_law_40 (n := 7) (tgt := 558) (by omega) (by decide) rfl (by decide) ?_
        exact lc_unlike hE hX hl9 hLn hC ⟨by omega, by omega⟩ hs hL9 (by omega) hI kk
      · refine fs_tabI hC dL_law_40 (n := 8) (tgt := 571) (by omega) (by decide) rfl (by decide) ?_
        exact lc_region hE hX hl9 hLn hC ⟨by omega, by omega⟩ hs hL9 (by omega) hI kk
      · refine fs_tabI hC dL_law_40 (n := 9) (tgt := 639) (by omega) (by decide) rfl (by decide) ?_
        exact lc_regions hE hX hl9 hLn hC ⟨by omega, by omega⟩ hs hL9 (by omega) hI kk
      · refine fs_tabI hC dL_law_40 (n := 10) (tgt := 695) (by omega) (by decide) rfl (by decide) ?_
        exact lc_bleeds hE hX hl9 hLn hC ⟨by omega, by omega⟩ hs hL9 (by omega) hI kk
      · refine fs_tabI hC dL_law_40 (n := 11) (tgt := 763) (by omega) (by decide) rfl (by decide) ?_
        exact lc_driesIn hE hX hl9 hLn hC ⟨by omega, by omega⟩ hs hL9 (by omega) hI kk
      · refine fs_tabI hC dL_law_40 (n := 12) (tgt := 776) (by omega) (by decide) rfl (by decide) ?_
        exact lc_foretold hE hX hl9 hLn hC ⟨by omega, by omega⟩ hs hL9 (by omega) hI kk
      · refine fs_tabI hC dL_law_40 (n := 13) (tgt := 844) (by omega) (by decide) rfl (by decide) ?_
        exact lc_evens hE hX hl9 hLn hC ⟨by omega, by omega⟩ hs hL9 (by omega) hI kk
      · refine fs_tabI hC dL_law_40 (n := 14) (tgt := 900) (by omega) (by decide) rfl (by decide) ?_
        exact lc_pattern hE hX hl9 hLn hC ⟨by omega, by omega⟩ hs hL9 (by omega) hI kk
      · refine fs_tabI hC dL_law_40 (n := 15) (tgt := 968) (by omega) (by decide) rfl (by decide) ?_
        exact lc_covered hE hX hl9 hLn hC ⟨by omega, by omega⟩ hs hL9 (by omega) hI kk
      · refine fs_tabI hC dL_law_40 (n := 16) (tgt := 1011) (by omega) (by decide) rfl (by decide) ?_
        exact lc_pass hE hX hl9 hLn hC ⟨by omega, by omega⟩ hs hL9 (by omega) hI kk
      · refine fs_tabI hC dL_law_40 (n := 17) (tgt := 1067) (by omega) (by decide) rfl (by decide) ?_
        exact lc_paint hE hX hl9 hLn hC ⟨by omega, by omega⟩ hs hL9 (by omega) hI kk
      · refine fs_tabI hC dL_law_40 (n := 18) (tgt := 1187) (by omega) (by decide) rfl (by decide) ?_
        exact lc_stroke hE hX hl9 hLn hC ⟨by omega, by omega⟩ hs hL9 (by omega) hI kk
      · refine fs_tabI hC dL_law_40 (n := 19) (tgt := 1291) (by omega) (by decide) rfl (by decide) ?_
        exact lc_stamp hE hX hl9 hLn hC ⟨by omega, by omega⟩ hs hL9 (by omega) hI kk
      · refine fs_tabI hC dL_law_40 (n := 20) (tgt := 1399) (by omega) (by decide) rfl (by decide) ?_
        exact lc_spar hE hX hl9 hLn hC ⟨by omega, by omega⟩ hs hL9 (by omega) hI kk
      · refine fs_tabI hC dL_law_40 (n := 21) (tgt := 1507) (by omega) (by decide) rfl (by decide) ?_
        exact lc_strip hE hX hl9 hLn hC ⟨by omega, by omega⟩ hs hL9 (by omega) hI kk
      · refine fs_tabI hC dL_law_40 (n := 22) (tgt := 1575) (by omega) (by decide) rfl (by decide) ?_
        exact lc_wash hE hX hl9 hLn hC ⟨by omega, by omega⟩ hs hL9 (by omega) hI kk
      · refine fs_tabI hC dL_law_40 (n := 23) (tgt := 1643) (by omega) (by decide) rfl (by decide) ?_
        exact lc_undo hE hX hl9 hLn hC ⟨by omega, by omega⟩ hs hL9 (by omega) hI kk
      · refine fs_tabI hC dL_law_40 (n := 24) (tgt := 1656) (by omega) (by decide) rfl (by decide) ?_
        exact lc_checksum hE hX hl9 hLn hC ⟨by omega, by omega⟩ hs hL9 (by omega) hI kk
    · refine fs_tabO hC dL_law_40 (tgt := 1670) (by omega) (by decide) ?_
      exact fs_widen (kk h hI)
/-- growing in the open -/
def Fg (Γ : en) (z : Nat) (p : Program) (l : Launch) (e : Env) (R : Room) (s : State) (m : MethodId) (args : Array Value) (below : List Frame) (meth : Method) (c : Code) (nL : Nat) (Q : State → Prop) (k sl pc : Nat) (lv : List (Nat × Value)) (S : List Value) (N : Nat) (h : hp) : Prop :=
  ∀ (H : Heap) (locs : List Loc) (ls : Array Slot), GW Γ z N h H → va_S Γ.2.2.2 s.heap H locs → lv_has ls nL (lv.map (trp Γ.1)) → W p l e R s m args below meth c H locs k sl Q (F0 m pc ls (S.map (trV Γ.1)))
theorem fg_fs (hV : envC Γ St z) (kn : (Fs Γ 132 p l e R s m args below meth c M_law.2.2.1 Q k sl pc lv S h)) : Fg Γ z p l e R s m args below meth c M_law.2.2.1 Q k sl pc lv S 132 h := fun H locs ls hG hS hL => kn H locs ls ⟨hG.1, GW_D hV (by omega), hS⟩ hL
theorem fg_dup (hC : CF Γ St M_law R p s m args c) {x : Nat} (hd : decode M_law.2.1 pc = .ok (.dup, 1)) (kn : (Fg Γ z p l e R s m args below meth c M_law.2.2.1 Q k sl (pc + 1) lv (.ref x :: .ref x :: S) N h)) : Fg Γ z p l e R s m args below meth c M_law.2.2.1 Q k sl pc lv (.ref x :: S) N h := fun H locs ls hG hS hL => lv_dup hC.1 hC.2.1 hd rfl (kn H locs ls hG hS hL)
theorem fg_iconst (hC : CF Γ St M_law R p s m args c) {n : Int} {v : Int32} (hd : decode M_law.2.1 pc = .ok (.iconst n, 1)) (hv : Int32.ofInt n = v) (kn : (Fg Γ z p l e R s m args below meth c M_law.2.2.1 Q k sl (pc + 1) lv (.int v :: S) N h)) : Fg Γ z p l e R s m args below meth c M_law.2.2.1 Q k sl pc lv S N h := fun H locs ls hG hS hL => lv_iconst hC.1 hC.2.1 hd hv (kn H locs ls hG hS hL)
theorem fg_astore (hC : CF Γ St M_law R p s m args c) {j : Fin 4} {x : Nat} {lv1 : List (Nat × Value)} (hd : decode M_law.2.1 pc = .ok (.astore_n j, 1)) (hi : (j : Nat) < 9) (hl : lput lv (j : Nat) (.ref x) = lv1) (kn : (Fg Γ z p l e R s m args below meth c M_law.2.2.1 Q k sl (pc + 1) lv1 S N h)) : Fg Γ z p l e R s m args below meth c M_law.2.2.1 Q k sl pc lv (.ref x :: S) N h := by
  intro H locs ls hG hS hL
  subst hl
  exact lv_astore_n hC.1 hC.2.1 hd rfl hL hi rfl (fun ls9 hl9 => kn H locs ls9 hG hS (by unfold lput; rw [List.map_cons, ← k1_map]; exact hl9))
theorem fg_istore (hC : CF Γ St M_law R p s m args c) {j : Nat} {x : Int32} {lv1 : List (Nat × Value)} (hd : decode M_law.2.1 pc = .ok (.istore j, 2)) (hi : j < 9) (hl : lput lv j (.int x) = lv1) (kn : (Fg Γ z p l e R s m args below meth c M_law.2.2.1 Q k sl (pc + 2) lv1 S N h)) : Fg Γ z p l e R s m args below meth c M_law.2.2.1 Q k sl pc lv (.int x :: S) N h := by
  intro H locs ls hG hS hL
  subst hl
  exact lv_istore hC.1 hC.2.1 hd hL hi rfl (fun ls9 hl9 => kn H locs ls9 hG hS (by unfold lput; rw [List.map_cons, ← k1_map]; exact hl9))
theorem fg_new (hV : envC Γ St z) (hC : CF Γ St M_law R p s m args c) (hz : s.heap.size = z) {ci ix n : Nat} {C : String} {T : u_T} {ty : Nat → FieldType} {fs : List Value} (hd : decode M_law.2.1 pc = .ok (.new ix, 3)) (hc : ckC ci C T n ty) (hcl : Cond.classLink M_law.1.cls ix C ∈ gT) (hinst : Cond.instantiable C n ∈ gT) (hini : Cond.initialized C ∈ gT) (hfs : ∀ j, j < n → defaultValue (ty j) = vp_V (fs.map (trV Γ.1)) j) (hb9 : N < 1000) (hk : k + 1 ≤ R.cells) (hn : sl + n ≤ R.slots) (kn : (Fg Γ z p l e R s m args below meth c M_law.2.2.1 Q (k + 1) (sl + n) (pc + 3) lv (.ref N :: S) (N + 1) (va_up h N (.inr (ci, fs))))) : Fg Γ z p l e R s m args below meth c M_law.2.2.1 Q k sl pc lv S N h := by
  intro H locs ls hG hS hL
  obtain ⟨hx, hb, hml, hown, hts, hK, hSt, hR1, hR2⟩ := id hC
  have hKn := hK.1 ci _ hc.1
  refine W.newcK (R := R) hx hb hown (hts _ hcl) (hts _ hinst) (hts _ hini) rfl hd hk hn hKn.2.1 hG.2 fun H1 kC hkC e1 z1 o1 => ?_
  have hr : (Value.ref (z + N) :: S.map (trV Γ.1)) = (Value.ref N :: S).map (trV Γ.1) := by rw [List.map_cons]; show _ = Value.ref (Γ.1 N) :: _; rw [hV.1 _ hb9]
  have hG1 := hG.push hV (ev := .inr (ci, fs)) hb9 (by rw [z1]) o1 (show va_at Γ.2.1 vwCl (z + N, .inr (ci, fs.map (trV Γ.1))) H1 from ⟨_, hc.1, (u_born ty hts hc.2.1 hKn hkC e1 hc.2.2.1).to hfs⟩)
  have hS1 : va_S Γ.2.2.2 s.heap H1 locs := ⟨by have := hG.2; omega, fun x h1 h2 => (o1 x (by omega)).trans (hS.2.1 x h1 h2), hS.2.2⟩
  show W p l e R s m args below meth c H1 locs (k + 1) (sl + n) _ (F0 m (pc + 3) ls (.ref (z + N) :: S.map (trV Γ.1)))
  rw [hr]
  exact kn H1 locs ls hG1 hS1 hL
theorem fg_newl (hV : envC Γ St z) (hC : CF Γ St M_law R p s m args c) (hz : s.heap.size = z) (hd : decode M_law.2.1 pc = .ok (.newarray .long, 2)) (hb9 : N < 1000) (hk : k + 1 ≤ R.cells) (hn : sl + 1 ≤ R.slots) (kn : (Fg Γ z p l e R s m args below meth c M_law.2.2.1 Q (k + 1) (sl + 1) (pc + 2) lv (.ref N :: S) (N + 1) (va_up h N (.inl (5, 1, .inr (.inl (fun _ => 0))))))) : Fg Γ z p l e R s m args below meth c M_law.2.2.1 Q k sl pc lv (.int (nI 1) :: S) N h := by
  intro H locs ls hG hS hL
  obtain ⟨hx, hb, hml, hown, hts, hK, hSt, hR1, hR2⟩ := id hC
  refine va_newaK (R := R) (N := 1) hx hb (hts _ (gT_mem 1365 (by decide +kernel) (by decide +kernel))) rfl hd rfl (nI_pos (by omega)) (nI_clamp (by omega)) (by show 1 * _ ≤ 536870912; simp only [newarray.typeOf, componentBytes]; omega) hk hn hG.2 (fun H1 cA e1 z1 o1 hAr hNm => ?_)
  have hcy : s.vm.findClass ("[" ++ FieldType.long.toString) = some (Γ.2.2.1 5) := (hK.2 5 (Γ.2.2.1 5, .long) rfl).2
  have ecy : cA = Γ.2.2.1 5 := Option.some.inj (hNm.symm.trans hcy)
  subst ecy
  have hr : (Value.ref (z + N) :: S.map (trV Γ.1)) = (Value.ref N :: S).map (trV Γ.1) := by rw [List.map_cons]; show _ = Value.ref (Γ.1 N) :: _; rw [hV.1 _ hb9]
  have hG1 := hG.push hV (ev := .inl (5, 1, .inr (.inl (fun _ => 0)))) hb9 (by rw [z1]) o1 (show H1[z + N]? = some (vp_cell (Γ.2.2.1 5) (1, .inr (.inl (fun _ => 0)))) from e1)
  have hS1 : va_S Γ.2.2.2 s.heap H1 locs := ⟨by have := hG.2; omega, fun x h1 h2 => (o1 x (by omega)).trans (hS.2.1 x h1 h2), hS.2.2⟩
  rw [hr]
  exact kn H1 locs ls hG1 hS1 hL
theorem fg_init (hE : envOK Γ St) (hV : envC Γ St z) (hC : CF Γ St M_law R p s m args c) {ix b k2 n2 : Nat} {Y : mt} {Q1 : hp → Prop} (hd : decode M_law.2.1 pc = .ok (.invokespecial ix, 3)) (hl : lnI M_law ix Y) (hlk : Cond.methodLink M_law.1.cls ix Y.1 ∈ gT) (hcS : catS S) (hb : MetG Γ l St z Y N k2 n2 b h Q1) (hk : k + k2 ≤ R.cells) (hsl : sl + n2 ≤ R.slots) (kn : ∀ h1, Q1 h1 → (Fg Γ z p l e R s m args below meth c M_law.2.2.1 Q (k + k2) (sl + n2) (pc + 3) lv S (N + k2) h1)) : Fg Γ z p l e R s m args below meth c M_law.2.2.1 Q k sl pc lv (.ref b :: S) N h := by
  intro H locs ls hG hS hL
  obtain ⟨hx, hb9, hml, hown, hts, hK, hSt, hR1, hR2⟩ := id hC
  have hcw := cwI (R := R) (own := M_law.1.cls) (index := ix) (y := Y.1) (bytes := Y.2.1) (maxL := Y.2.2.1) (ws := wsM Y) (rm := rmG Y k2 n2) (mc := k2) (ms := n2) 0 hts (lnI_good hl) (by unfold wsM; rw [hl.2.2.2.2.1]) rfl rfl (hts _ hl.1) (hts _ hlk) (hts _ hl.2.2.1) hl.2.2.2.1 hl.2.2.2.2.2.1 ⟨Nat.le_trans hl.2.2.2.2.2.2.1 hR1, Nat.le_trans hl.2.2.2.2.2.2.2 hR2⟩
  have hrun := va_runI (p := p) (e := e) (R := R) (below := below) (meth := meth) (cells := k) (slots := sl) (locs := locs) (As := []) (b := Γ.1 b) (g := F0 m pc ls (.ref (Γ.1 b) :: S.map (trV Γ.1))) (rest := S.map (trV Γ.1)) ⟨hx, hb9, hml, hown, hts⟩ hb hcw ⟨PcG.blind hE, fun U hU hW => ⟨rfl, by rw [hU]; exact hG, va_K.moved hW.alike hK, hE.1 s U H locs hSt hS hU hW⟩⟩ rfl rfl hL.1 rfl (lv_room (cat_map hcS)) hd ⟨hk, hsl⟩
  refine va_callv hrun hS (fun q _ h => h) (fun q h => h) (fun u t H1 locs1 ht hvm hq hB hz hk9 hS1 => ?_)
  have hG1 : GW Γ z (N + k2) u H1 := by rw [← ht]; exact hB
  exact kn u hq H1 locs1 ls hG1 hS1 hL
theorem lnI_law_76 : lnI M_law 76 M_X5_init := ⟨gT_mem 76 (by decide +kernel) (by decide +kernel), gT_mem 101 (by decide +kernel) (by decide +kernel), gT_mem 100 (by decide +kernel) (by decide +kernel), rfl, rfl, ⟨by decide +kernel, by decide +kernel, by decide +kernel⟩, by decide, by decide⟩
theorem lnI_law_79 : lnI M_law 79 M_X6_init := ⟨gT_mem 83 (by decide +kernel) (by decide +kernel), gT_mem 957 (by decide +kernel) (by decide +kernel), gT_mem 956 (by decide +kernel) (by decide +kernel), rfl, rfl, ⟨by decide +kernel, by decide +kernel, by decide +kernel⟩, by decide, by decide⟩
theorem KI.fresh : KI (freshK 5 5) := by unfold KI; decide +kernel
theorem law_body (hE : envOK Γ St) {adV : Nat → Nat} (hX : envX Γ St adV) (hl9 : l.stackTraces = false) (hLn : envL St) (hC : CF Γ St M_law R p s m args c) (hs : scr Γ s L xs) (hL9 : L ≤ 3072) (hV : envC Γ St z) (hz : s.heap.size = z) (hRc : 132 + 512 ≤ R.cells) (hRs : 18823 + 6 * 512 ≤ R.slots) (kE : ∀ (k sl t : Nat) (h : hp), k ≤ R.cells → sl ≤ R.slots → (Fs Γ 132 p l e R s m args below meth c M_law.2.2.1 Q k sl 1676 (L0 t) [] h)) : Fg Γ z p l e R s m args below meth c M_law.2.2.1 Q 0 0 0 [(0, .ref 3000)] [] 0 h := by
  refine fg_new hV hC hz (fs := [.null, .null, .null, .null, .null, .null, .int 0]) dL_law_0 ck5 (gT_mem 97 (by decide +kernel) (by decide +kernel)) (gT_mem 98 (by decide +kernel) (by decide +kernel)) (gT_mem 76 (by decide +kernel) (by decide +kernel)) (fun j hj => ?_) (by omega) (by omega) (by omega) ?_
  · rcases (by omega : j = 0 ∨ j = 1 ∨ j = 2 ∨ j = 3 ∨ j = 4 ∨ j = 5 ∨ j = 6) with rfl | rfl | rfl | rfl | rfl | rfl | rfl <;> rfl
  refine fg_dup hC dL_law_3 ?_
  refine fg_init hE hV hC (b := 0) (k2 := 111) (n2 := 9080) dL_law_4 lnI_law_76 (gT_mem 99 (by decide +kernel) (by decide +kernel)) (Nat.le_of_ble_eq_true rfl) (gi_X5 hE hX hl9 hV vu_eq) (by omega) (by omega) (fun g hg => ?_)
  refine fg_astore hC dL_law_7 (by decide) rfl ?_
  refine fg_new hV hC hz (fs := [.int 0, .null, .int 0, .int 0, .int 0, .int 0, .int 0, .int 0, .null, .null, .null, .null, .int 0, .int 0, .int 0, .int 0, .null, .null, .null, .null, .null]) dL_law_8 ck6 (gT_mem 953 (by decide +kernel) (by decide +kernel)) (gT_mem 954 (by decide +kernel) (by decide +kernel)) (gT_mem 83 (by decide +kernel) (by decide +kernel)) (fun j hj => ?_) (by omega) (by omega) (by omega) ?_
  · rcases (by omega : j = 0 ∨ j = 1 ∨ j = 2 ∨ j = 3 ∨ j = 4 ∨ j = 5 ∨ j = 6 ∨ j = 7 ∨ j = 8 ∨ j = 9 ∨ j = 10 ∨ j = 11 ∨ j = 12 ∨ j = 13 ∨ j = 14 ∨ j = 15 ∨ j = 16 ∨ j = 17 ∨ j = 18 ∨ j = 19 ∨ j = 20) with rfl | rfl | rfl | rfl | rfl | rfl | rfl | rfl | rfl | rfl | rfl | rfl | rfl | rfl | rfl | rfl | rfl | rfl | rfl | rfl | rfl <;> rfl
  refine fg_dup hC dL_law_11 ?_
  refine fg_init hE hV hC (b := 112) (k2 := 18) (n2 := 9714) dL_law_12 lnI_law_79 (gT_mem 955 (by decide +kernel) (by decide +kernel)) (Nat.le_of_ble_eq_true rfl) (gi_X6 hE hX hl9 hV vu_eq) (by omega) (by omega) (fun u hu => ?_)
  refine fg_astore hC dL_law_15 (by decide) rfl ?_
  refine fg_iconst hC (v := nI 1) dL_law_16 (by decide) ?_
  refine fg_newl hV hC hz dL_law_17 (by omega) (by omega) (by omega) ?_
  refine fg_astore hC dL_law_19 (by decide) rfl ?_
  refine fg_iconst hC (v := I ((6 * 0 : Nat) : Int)) dL_law_20 (by decide) ?_
  refine fg_istore hC dL_law_21 (by decide) rfl ?_
  obtain ⟨v, ev⟩ : ∃ v : hp, v = va_up u 131 (.inl (5, 1, .inr (.inl (fun _ => 0)))) := ⟨_, rfl⟩
  have hI : LI v := by
    obtain ⟨g1, g2, g3, g4, g5, g6, g7, g8, g9, g10, g11, g12, g13⟩ := hg
    obtain ⟨u1, u2, u3, u4, u5, u6, u7, u8, u9, u10, uf⟩ := hu
    have hA : LA g (freshK 5 5) (fun _ => freshK 5 5) 0 (-1) (fun _ => 0) (fun _ => 0) := ⟨g2, ⟨_, g3⟩, g1, g4, g12, g13, g5, ⟨_, g6⟩, ⟨_, g7⟩, ⟨0, g8⟩, ⟨_, g9⟩, ⟨_, g10⟩, ⟨_, g11⟩⟩
    have hB : LB u (fun k => if k = 7 then -1 else 0) (freshK 5 5) (fun _ => freshK 5 5) 0 (fun _ => 0) := ⟨u1, u2, rfl, u3, u4, u5, u6, u7, u8, u9, u10⟩
    refine ⟨_, _, 0, _, -1, _, _, 0, ⟨KI.fresh, fun t ht => absurd ht (by omega), fun i hi => by omega, rfl, rfl, rfl, by omega⟩, hA.eq (fun a ha => ?_), hB.eq (fun a h1 h2 => by rw [ev]; exact vu_ne (by omega)), fun _ => 0, by rw [ev]; exact vu_eq⟩
    rw [ev, vu_ne (by omega), uf a ha]
    exact vu_ne (by omega)
  rw [show va_up u (0 + 1 + 111 + 1 + 18) (.inl (5, 1, .inr (.inl (fun _ => 0)))) = v from ev.symm]
  refine fg_fs hV ?_
  refine fs_pick [4, 3, 2, 1, 0] rfl ?_
  exact law_loop hE hX hl9 hLn hC hs hL9 kE 512 0 132 18823 v (by omega) (by omega) (by omega) (by omega) hI
end LL
