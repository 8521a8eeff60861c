/-! THE START: in the open -/
/-- growing in the open, the locals as AG has them -/
def Og (Γ : en) (z : Nat) (p : Program) (l : Launch) (e : Env) (R : Room) (s : State) (m : MethodId) (args : Array Value) (below : List Frame) (meth : Method) (c : Code) (Q : State → Prop) (k sl pc : Nat) (L S : List Value) (N : Nat) (h : hp) : Prop :=
  ∀ (H : Heap) (locs : List Loc) (ls : Array Slot), GW Γ z N h H → va_S Γ.2.2.2 s.heap H locs → LG ls M_L_law.2.2.1 L → W p l e R s m args below meth c H locs k sl Q (F0 m pc ls S)
section OG
variable {Γ : en} {l : Launch} {St : State → Prop} {z : Nat} {p : Program} {e : Env} {R : Room} {s : State} {m : MethodId} {args : Array Value} {below : List Frame} {meth : Method} {c : Code} {Q : State → Prop} {k sl pc N : Nat} {L S : List Value} {h : hp}
theorem og_iconst (hC : CF Γ St M_L_law R p s m args c) {n : Int} {v : Int32} (hd : decode M_L_law.2.1 pc = .ok (.iconst n, 1)) (hv : Int32.ofInt n = v) (kn : Og Γ z p l e R s m args below meth c Q k sl (pc + 1) L (.int v :: S) N h) : Og Γ z p l e R s m args below meth c Q k sl pc L S N h := fun H locs ls hG hS hL => lv_iconst hC.1 hC.2.1 hd hv (kn H locs ls hG hS hL)
theorem og_istore (hC : CF Γ St M_L_law R p s m args c) {j : Fin 4} {i : Nat} {x : Int32} (hd : decode M_L_law.2.1 pc = .ok (.istore_n j, 1)) (hi : (j : Nat) = i) (hn : i < M_L_law.2.2.1) (hq : c1 L i = true) (kn : Og Γ z p l e R s m args below meth c Q k sl (pc + 1) (L.set i (.int x)) S N h) : Og Γ z p l e R s m args below meth c Q k sl pc L (.int x :: S) N h := fun H locs ls hG hS hL => lv_istore_n hC.1 hC.2.1 hd hi hL.has hn rfl (fun ls9 hl9 => kn H locs ls9 hG hS (LG.store1 hL (v := .int x) rfl hq hl9))
theorem og_iload (hC : CF Γ St M_L_law R p s m args c) {j : Fin 4} {i : Nat} {x : Int32} (hd : decode M_L_law.2.1 pc = .ok (.iload_n j, 1)) (hi : (j : Nat) = i) (hl : L[i]? = some (.int x)) (kn : Og Γ z p l e R s m args below meth c Q k sl (pc + 1) L (.int x :: S) N h) : Og Γ z p l e R s m args below meth c Q k sl pc L S N h := fun H locs ls hG hS hL => lv_iload_n hC.1 hC.2.1 hd hi (hL.get hl rfl) (kn H locs ls hG hS hL)
theorem og_aload (hC : CF Γ St M_L_law R p s m args c) {j : Fin 4} {i : Nat} {x : Nat} (hd : decode M_L_law.2.1 pc = .ok (.aload_n j, 1)) (hi : (j : Nat) = i) (hl : L[i]? = some (.ref x)) (kn : Og Γ z p l e R s m args below meth c Q k sl (pc + 1) L (.ref x :: S) N h) : Og Γ z p l e R s m args below meth c Q k sl pc L S N h := fun H locs ls hG hS hL => lv_aload_n hC.1 hC.2.1 hd hi (hL.get hl rfl) (kn H locs ls hG hS hL)
theorem og_slen (hC : CF Γ St M_L_law R p s m args c) {b n : Nat} {xs : Nat → Int32} (hX : va_X b n xs s s.heap) (hbl : b < s.heap.size) (hbA : ¬ Γ.2.2.2 b) (hd : decode M_L_law.2.1 pc = .ok (.arraylength, 1)) (kn : Og Γ z p l e R s m args below meth c Q k sl (pc + 1) L (.int (Int32.ofNat n) :: S) N h) : Og Γ z p l e R s m args below meth c Q k sl pc L (.ref b :: S) N h := fun H locs ls hG hS hL => va_slen hC.1 hC.2.1 hX hbl hbA hS hd (kn H locs ls hG hS hL)
theorem og_icmp_ge (hC : CF Γ St M_L_law R p s m args c) {x y : Int32} {off : Int} {tgt : Nat} (hd : decode M_L_law.2.1 pc = .ok (.if_icmp .ge off, 3)) (ht : (pc : Int) + off = (tgt : Int)) (ka : y ≤ x → Og Γ z p l e R s m args below meth c Q k sl tgt L S N h) (kb : ¬ y ≤ x → Og Γ z p l e R s m args below meth c Q k sl (pc + 3) L S N h) : Og Γ z p l e R s m args below meth c Q k sl pc L (.int y :: .int x :: S) N h := fun H locs ls hG hS hL => lv_icmp_ge hC.1 hC.2.1 hd ht (fun q => ka q H locs ls hG hS hL) (fun q => kb q H locs ls hG hS hL)
theorem og_if_eq (hC : CF Γ St M_L_law R p s m args c) {x : Int32} {off : Int} {tgt : Nat} (hd : decode M_L_law.2.1 pc = .ok (.ifCond .eq off, 3)) (ht : (pc : Int) + off = (tgt : Int)) (ka : x = 0 → Og Γ z p l e R s m args below meth c Q k sl tgt L S N h) (kb : ¬ x = 0 → Og Γ z p l e R s m args below meth c Q k sl (pc + 3) L S N h) : Og Γ z p l e R s m args below meth c Q k sl pc L (.int x :: S) N h := fun H locs ls hG hS hL => lv_if_eq hC.1 hC.2.1 hd ht (fun q => ka q H locs ls hG hS hL) (fun q => kb q H locs ls hG hS hL)
theorem og_dup (hC : CF Γ St M_L_law R p s m args c) {x : Nat} (hd : decode M_L_law.2.1 pc = .ok (.dup, 1)) (kn : Og Γ z p l e R s m args below meth c Q k sl (pc + 1) L (.ref x :: .ref x :: S) N h) : Og Γ z p l e R s m args below meth c Q k sl pc L (.ref x :: S) N h := fun H locs ls hG hS hL => lv_dup hC.1 hC.2.1 hd rfl (kn H locs ls hG hS hL)
theorem og_new (hV : envC Γ St z) (hC : CF Γ St M_L_law R p s m args c) (hz : s.heap.size = z) {ci ix n : Nat} {C : String} {T : u_T} {ty : Nat → FieldType} {fs : List Value} (hd : decode M_L_law.2.1 pc = .ok (.new ix, 3)) (hc : ckC ci C T n ty) (hcl : Cond.classLink M_L_law.1.cls ix C ∈ gT) (hinst : Cond.instantiable C n ∈ gT) (hini : Cond.initialized C ∈ gT) (hfs : ∀ j, j < n → defaultValue (ty j) = vp_V (fs.map (trV Γ.1)) j) (hb9 : N < 1000) (hk : k + 1 ≤ R.cells) (hn : sl + n ≤ R.slots) (kn : Og Γ z p l e R s m args below meth c Q (k + 1) (sl + n) (pc + 3) L (.ref (Γ.1 N) :: S) (N + 1) (va_up h N (.inr (ci, fs)))) : Og Γ z p l e R s m args below meth c Q k sl pc L S N h := by
  intro H locs ls hG hS hL
  obtain ⟨hx, hb, hml, hown, hts, hK, hSt, hR1, hR2⟩ := id hC
  have hKn := hK.1 ci _ hc.1
  refine W.newcK (R := R) hx hb hown (hts _ hcl) (hts _ hinst) (hts _ hini) rfl hd hk hn hKn.2.1 hG.2 fun H1 kC hkC e1 z1 o1 => ?_
  have hG1 := hG.push hV (ev := .inr (ci, fs)) hb9 (by rw [z1]) o1 (show va_at Γ.2.1 vwCl (z + N, .inr (ci, fs.map (trV Γ.1))) H1 from ⟨_, hc.1, (u_born ty hts hc.2.1 hKn hkC e1 hc.2.2.1).to hfs⟩)
  have hS1 : va_S Γ.2.2.2 s.heap H1 locs := ⟨by have := hG.2; omega, fun x h1 h2 => (o1 x (by omega)).trans (hS.2.1 x h1 h2), hS.2.2⟩
  have hr : z + N = Γ.1 N := (hV.1 _ hb9).symm
  show W p l e R s m args below meth c H1 locs (k + 1) (sl + n) _ (F0 m (pc + 3) ls (.ref (z + N) :: S))
  rw [hr]
  exact kn H1 locs ls hG1 hS1 hL
theorem og_init (hE : envOK Γ St) (hV : envC Γ St z) (hC : CF Γ St M_L_law R p s m args c) {ix b k2 n2 : Nat} {Y : mt} {Q1 : hp → Prop} (hd : decode M_L_law.2.1 pc = .ok (.invokespecial ix, 3)) (hl : lnI M_L_law ix Y) (hlk : Cond.methodLink M_L_law.1.cls ix Y.1 ∈ gT) (hcS : catS S) (hb : MetG Γ l St z Y N k2 n2 b h Q1) (hk : k + k2 ≤ R.cells) (hsl : sl + n2 ≤ R.slots) (kn : ∀ h1, Q1 h1 → Og Γ z p l e R s m args below meth c Q (k + k2) (sl + n2) (pc + 3) L S (N + k2) h1) : Og Γ z p l e R s m args below meth c Q k sl pc L (.ref (Γ.1 b) :: S) N h := by
  intro H locs ls hG hS hL
  obtain ⟨hx, hb9, hml, hown, hts, hK, hSt, hR1, hR2⟩ := id hC
  have hcw := cwI (R := R) (own := M_L_law.1.cls) (index := ix) (y := Y.1) (bytes := Y.2.1) (maxL := Y.2.2.1) (ws := wsM Y) (rm := rmG Y k2 n2) (mc := k2) (ms := n2) 0 hts (lnI_good hl) (by unfold wsM; rw [hl.2.2.2.2.1]) rfl rfl (hts _ hl.1) (hts _ hlk) (hts _ hl.2.2.1) hl.2.2.2.1 hl.2.2.2.2.2.1 ⟨Nat.le_trans hl.2.2.2.2.2.2.1 hR1, Nat.le_trans hl.2.2.2.2.2.2.2 hR2⟩
  have hrun := va_runI (p := p) (e := e) (R := R) (below := below) (meth := meth) (cells := k) (slots := sl) (locs := locs) (As := []) (b := Γ.1 b) (g := F0 m pc ls (.ref (Γ.1 b) :: S)) (rest := S) ⟨hx, hb9, hml, hown, hts⟩ hb hcw ⟨PcG.blind hE, fun U hU hW => ⟨rfl, by rw [hU]; exact hG, va_K.moved hW.alike hK, hE.1 s U H locs hSt hS hU hW⟩⟩ rfl rfl hL.1 rfl (lv_room hcS) hd ⟨hk, hsl⟩
  refine va_callv hrun hS (fun q _ h => h) (fun q h => h) (fun u t H1 locs1 ht hvm hq hB hz hk9 hS1 => ?_)
  have hG1 : GW Γ z (N + k2) u H1 := by rw [← ht]; exact hB
  exact kn u hq H1 locs1 ls hG1 hS1 hL
end OG
theorem lnI_law_223 : lnI M_L_law 223 M_X5_init := ⟨gT_mem 28 (by decide +kernel) (by decide +kernel), gT_mem 59 (by decide +kernel) (by decide +kernel), gT_mem 58 (by decide +kernel) (by decide +kernel), rfl, rfl, ⟨by decide +kernel, by decide +kernel, by decide +kernel⟩, by decide, by decide⟩
theorem law_entry {p : Program} {l : Launch} {e : Env} {R : Room} {s : State} {m : MethodId} {below : List Frame} {meth : Method} {c : Code} {Q : State → Prop} {b L : Nat} {xs : Nat → Int32} {rc rs : Nat} (hl9 : l.stackTraces = false) (hx : p.tables.exec = Jvm.exec) (hb : c.code = code) (hml : c.maxLocals = 28) (hr : meth.sig.returnType = some .boolean) (hlocks : meth.locks = false) (hexc : ∀ x ∈ c.exceptionTable.toList, False) (hnm : meth.name = "law") (hown : s.vm.findClass "KitePainterLaw" = some m.cls) (hts : ∀ w ∈ lw_tbl, w.before #[Value.ref b] s = true) (hX : va_X b L xs s s.heap) (hbl : b < s.heap.size) (hp : (Jvm.Cond.and given_1 narrow_1).before #[Value.ref b] s = true) (hL : L ≤ 260) (hRf : 192 ≤ R.frames ∧ 5089 ≤ R.locals) (hRc : 50000 ≤ R.cells ∧ 500000 ≤ R.slots) (hrr : 50000 ≤ rc ∧ 500000 ≤ rs)
    (kE : ∀ (H : Heap) (locs : List Loc) (ls : Array Slot), (∀ q ∈ locs, s.heap.size ≤ q.base) → W p l e R s m #[Value.ref b] below meth c H locs 0 0 Q (F0 m 1245 ls [.int (I 1)]))
    (kG : ∀ (Γ : en) (H : Heap) (locs : List Loc) (k sl : Nat) (g : JFrame), (∀ q, Γ.2.2.2 q ↔ s.heap.size ≤ q) → W p l e (rmG M_L_law rc rs) s m #[Value.ref b] below meth c H locs k sl (MQ below (QcA Γ M_L_law (fun v _ _ => v = .int (I 1))) #[Value.ref b] s rc rs Γ.2.2.2) g → W p l e R s m #[Value.ref b] below meth c H locs k sl Q g) : W p l e R s m #[Value.ref b] below meth c s.heap [] 0 0 Q (entryFrame m ([Value.ref b] : List Value).toArray 28) := by
  obtain ⟨Γ, g1, g2, g3, hK, hSt⟩ := start_env hts hp hX hbl
  rw [lg_entry_eq]
  have hLG := entry_G (As := [.ref b]) (n := 28) rfl (Nat.le_of_ble_eq_true rfl)
  have hC : CF Γ (StL Γ.1 Γ.2.2.2 (L, xs)) M_L_law R p s m #[Value.ref b] c := ⟨hx, hb, hml, hown, fun w hw => hts w (gT_sub hw), hK, hSt, hRf.1, hRf.2⟩
  have hCG : CxG Γ (StL Γ.1 Γ.2.2.2 (L, xs)) M_L_law p s m #[Value.ref b] meth c := ⟨⟨hx, hb, hr, hml, hown, fun w hw => hts w (gT_sub hw), hlocks, hexc, hK, hSt⟩, hnm, fun q hq => (g3 q).mpr hq⟩
  have hE := StL.envOK (Γ := Γ) (sc := (L, xs))
  have hXx := StL.envX (Γ := Γ) (sc := (L, xs))
  have hV := StL.envC (sc := (L, xs)) (z := s.heap.size) g1 g3
  have hA := StL.envA (Γ := Γ) (sc := (L, xs))
  have hLn := StL.envL (Γ := Γ) (sc := (L, xs))
  have hbA : ¬ Γ.2.2.2 b := fun q => absurd ((g3 _).mp q) (Nat.not_le.mpr hbl)
  have body : 1 ≤ L → Og Γ s.heap.size p l e R s m #[Value.ref b] below meth c Q 0 0 19 ([.ref b, .int (I 1), .int (I 0)] ++ List.replicate 25 uk) [] 0 (fun _ => .inr (0, [])) := by
    intro hL1
    refine og_new hV hC rfl (fs := [.null, .null, .null, .null, .null, .null, .int 0]) dL_law_19 ck5 (gT_mem 55 (by decide +kernel) (by decide +kernel)) (gT_mem 56 (by decide +kernel) (by decide +kernel)) (gT_mem 28 (by decide +kernel) (by decide +kernel)) (fun j hj => ?_) (by omega) (by omega) (by omega) ?_
    · rcases (by omega : j = 0 ∨ j = 1 ∨ j = 2 ∨ j = 3 ∨ j = 4 ∨ j = 5 ∨ j = 6) with rfl | rfl | rfl | rfl | rfl | rfl | rfl <;> rfl
    refine og_dup hC dL_law_22 ?_
    refine og_init hE hV hC (b := 0) (k2 := 111) (n2 := 9080) dL_law_23 lnI_law_223 (gT_mem 57 (by decide +kernel) (by decide +kernel)) (Nat.le_of_ble_eq_true rfl) (gi_X5 hE hXx hl9 hV vu_eq) (by omega) (by omega) (fun u hu => ?_)
    obtain ⟨u1, u2, u3, u4, u5, u6, u7, u8, u9, u10, u11, u12, u13⟩ := hu
    have hLA : LA u (freshK 5 5) (fun _ => freshK 5 5) 0 (-1) (fun _ => 0) (fun _ => 0) := ⟨u2, ⟨_, u3⟩, u1, u4, u12, u13, u5, ⟨_, u6⟩, ⟨_, u7⟩, ⟨0, u8⟩, ⟨_, u9⟩, ⟨_, u10⟩, ⟨_, u11⟩⟩
    intro H locs ls hG hS hLs
    refine kG Γ H locs _ _ _ g3 ?_
    have key : Gx Γ.1 (L, xs) M_L_law 26 ([.ref b, .int (I 1), .int (I 0)] ++ List.replicate 25 uk) [.ref (Γ.1 0)] 40000 400000 u (fun _ => none) (fun v _ _ => v = .int (I 1)) := by
      rw [← g2]
      exact lw_all (show vp_in (I 0) L from fun z => by
        rcases z with z | z
        · exact absurd z (by decide)
        · exact absurd (Nat.le_trans hL1 z) (by decide)) hLA (fun i _ => ⟨by decide, by decide⟩) rfl (by omega) (by omega) (fun _ _ => rfl)
    exact key _ (ag_snd hE hXx hl9 hA hLn) rc rs p e s m _ below meth c H locs ls _ _ hCG ⟨hG.1, GW_D hV (by omega), fun a e he => by cases he⟩ hS hLs (by omega) (by omega)
  have fin : Og Γ s.heap.size p l e R s m #[Value.ref b] below meth c Q 0 0 0 (padG 28 [.ref b]) [] 0 (fun _ => .inr (0, [])) := by
    refine og_iconst hC (n := 1) (v := I 1) dL_law_0 (by decide) ?_
    refine og_istore hC dL_law_1 rfl (by decide) rfl ?_
    refine og_iconst hC (v := I 0) dL_law_2 (by decide) ?_
    refine og_istore hC dL_law_3 rfl (by decide) rfl ?_
    refine og_iload hC dL_law_4 rfl rfl ?_
    refine og_aload hC dL_law_5 rfl rfl ?_
    refine og_slen hC hX hbl hbA dL_law_6 ?_
    refine og_icmp_ge hC (tgt := 1244) dL_law_7 (by decide) (fun q => ?_) (fun q => ?_)
    · refine og_iload hC dL_law_1244 rfl rfl ?_
      intro H locs ls hG hS hLs
      exact kE H locs ls (fun q hq => (g3 _).mp (hS.2.2 q hq))
    · have hL1 : 1 ≤ L := by
        rcases Nat.eq_zero_or_pos L with z | z
        · subst z
          exact absurd (by decide) q
        · exact z
      refine og_iload hC dL_law_10 rfl rfl ?_
      refine og_iconst hC (v := I 1) dL_law_11 (by decide) ?_
      refine og_icmp_ge hC (tgt := 1244) dL_law_12 (by decide) (fun q2 => absurd q2 (by decide)) (fun _ => ?_)
      refine og_iload hC dL_law_15 rfl rfl ?_
      refine og_if_eq hC (tgt := 1244) dL_law_16 (by decide) (fun q3 => absurd q3 (by decide)) (fun _ => ?_)
      exact body hL1
  exact fin s.heap [] _ ⟨fun k q hk => absurd (ws_len hk).1 (by omega), rfl⟩ va_S.rf hLG
