/-! FRAMES IN THE OPEN: one body, its own locals (longs too), any room -/
def lget : List (Nat × Value) → Nat → Option Value
  | [], _ => none
  | q :: r, k => bif Nat.beq q.1 k then some q.2 else lget r k
theorem lget_mem : ∀ {lv : List (Nat × Value)} {k : Nat} {v : Value}, lget lv k = some v → (k, v) ∈ lv
  | [], _, _, h => by cases h
  | q :: r, k, v, h => by
    unfold lget at h
    cases hb : Nat.beq q.1 k with
    | true =>
      rw [hb] at h
      have e := Nat.eq_of_beq_eq_true hb
      cases h
      subst e
      exact List.mem_cons_self
    | false =>
      rw [hb] at h
      exact List.mem_cons_of_mem _ (lget_mem h)
def k1f (i : Nat) (q : Nat × Value) : Bool := !(q.1 == i) && !(q.1 + 1 == i && q.2.category == 2)
def k2f (i : Nat) (q : Nat × Value) : Bool := !(q.1 == i) && (!(q.1 == i + 1) && !(q.1 + 1 == i && q.2.category == 2))
def lput (lv : List (Nat × Value)) (i : Nat) (v : Value) : List (Nat × Value) := (i, v) :: lv.filter (k1f i)
def lput2 (lv : List (Nat × Value)) (i : Nat) (v : Value) : List (Nat × Value) := (i, v) :: lv.filter (k2f i)
def trp (ad : Nat → Nat) (q : Nat × Value) : Nat × Value := (q.1, trV ad q.2)
theorem k1_map {ad : Nat → Nat} {i : Nat} (lv : List (Nat × Value)) : (lv.map (trp ad)).filter (k1f i) = (lv.filter (k1f i)).map (trp ad) := by
  rw [List.filter_map]
  congr 1
  refine List.filter_congr (fun q _ => ?_)
  show k1f i (trp ad q) = k1f i q
  unfold k1f trp
  rw [trV_cat]
theorem k2_map {ad : Nat → Nat} {i : Nat} (lv : List (Nat × Value)) : (lv.map (trp ad)).filter (k2f i) = (lv.filter (k2f i)).map (trp ad) := by
  rw [List.filter_map]
  congr 1
  refine List.filter_congr (fun q _ => ?_)
  show k2f i (trp ad q) = k2f i q
  unfold k2f trp
  rw [trV_cat]
def CF (Γ : en) (St : State → Prop) (M : mt) (R : Room) (p : Program) (s : State) (m : MethodId) (args : Array Value) (c : Code) : Prop :=
  p.tables.exec = Jvm.exec ∧ c.code = M.2.1 ∧ c.maxLocals = M.2.2.1 ∧ s.vm.findClass M.1.cls = some m.cls ∧ (∀ w ∈ gT, w.before args s = true) ∧ va_K Γ.2.1 vwCl (tysOf Γ) s ∧ St s ∧ M.2.2.2.2.1 ≤ R.frames ∧ M.2.2.2.2.2 ≤ R.locals
def Fs (Γ : en) (NC : Nat) (p : Program) (l : Launch) (e : Env) (R : Room) (s : State) (m : MethodId) (args : Array Value) (below : List Frame) (meth : Method) (c : Code) (nL : Nat) (Q : State → Prop) (k sl pc : Nat) (lv : List (Nat × Value)) (S : List Value) (h : hp) : Prop :=
  ∀ (H : Heap) (locs : List Loc) (ls : Array Slot), Hw Γ NC h H s locs → lv_has ls nL (lv.map (trp Γ.1)) → W p l e R s m args below meth c H locs k sl Q (F0 m pc ls (S.map (trV Γ.1)))
section FR
variable {Γ : en} {l : Launch} {St : State → Prop} {NC : Nat} {p : Program} {e : Env} {R : Room} {s : State} {m : MethodId} {args : Array Value} {below : List Frame} {meth : Method} {c : Code} {Q : State → Prop} {M : mt} {k sl pc : Nat} {lv : List (Nat × Value)} {S : List Value} {h : hp}
theorem fs_iload_n (hC : CF Γ St M R p s m args c) {j : Fin 4} {x : Int32} (hd : decode M.2.1 pc = .ok (.iload_n j, 1)) (hl : lget lv (j : Nat) = some (.int x)) (kn : (Fs Γ NC p l e R s m args below meth c M.2.2.1 Q k sl (pc + 1) lv (.int x :: S) h)) : Fs Γ NC p l e R s m args below meth c M.2.2.1 Q k sl pc lv S h := by
  intro H locs ls hW hL
  exact lv_iload_n hC.1 hC.2.1 hd rfl (hL.2.2 ((j : Nat), .int x) (List.mem_map.mpr ⟨_, lget_mem hl, rfl⟩)) (kn H locs ls hW hL)
theorem fs_iload (hC : CF Γ St M R p s m args c) {j : Nat} {x : Int32} (hd : decode M.2.1 pc = .ok (.iload j, 2)) (hl : lget lv j = some (.int x)) (kn : (Fs Γ NC p l e R s m args below meth c M.2.2.1 Q k sl (pc + 2) lv (.int x :: S) h)) : Fs Γ NC p l e R s m args below meth c M.2.2.1 Q k sl pc lv S h := by
  intro H locs ls hW hL
  exact lv_iload hC.1 hC.2.1 hd (hL.2.2 (j, .int x) (List.mem_map.mpr ⟨_, lget_mem hl, rfl⟩)) (kn H locs ls hW hL)
theorem fs_lload_n (hC : CF Γ St M R p s m args c) {j : Fin 4} {x : Int64} (hd : decode M.2.1 pc = .ok (.lload_n j, 1)) (hl : lget lv (j : Nat) = some (.long x)) (kn : (Fs Γ NC p l e R s m args below meth c M.2.2.1 Q k sl (pc + 1) lv (.long x :: S) h)) : Fs Γ NC p l e R s m args below meth c M.2.2.1 Q k sl pc lv S h := by
  intro H locs ls hW hL
  exact lv_lload_n hC.1 hC.2.1 hd rfl (hL.2.2 ((j : Nat), .long x) (List.mem_map.mpr ⟨_, lget_mem hl, rfl⟩)) (kn H locs ls hW hL)
theorem fs_lload (hC : CF Γ St M R p s m args c) {j : Nat} {x : Int64} (hd : decode M.2.1 pc = .ok (.lload j, 2)) (hl : lget lv j = some (.long x)) (kn : (Fs Γ NC p l e R s m args below meth c M.2.2.1 Q k sl (pc + 2) lv (.long x :: S) h)) : Fs Γ NC p l e R s m args below meth c M.2.2.1 Q k sl pc lv S h := by
  intro H locs ls hW hL
  exact lv_lload hC.1 hC.2.1 hd (hL.2.2 (j, .long x) (List.mem_map.mpr ⟨_, lget_mem hl, rfl⟩)) (kn H locs ls hW hL)
theorem fs_dload (hC : CF Γ St M R p s m args c) {j : Nat} {x : UInt64} (hd : decode M.2.1 pc = .ok (.dload j, 2)) (hl : lget lv j = some (.double x)) (kn : (Fs Γ NC p l e R s m args below meth c M.2.2.1 Q k sl (pc + 2) lv (.double x :: S) h)) : Fs Γ NC p l e R s m args below meth c M.2.2.1 Q k sl pc lv S h := by
  intro H locs ls hW hL
  exact lv_dload hC.1 hC.2.1 hd (hL.2.2 (j, .double x) (List.mem_map.mpr ⟨_, lget_mem hl, rfl⟩)) (kn H locs ls hW hL)
theorem fs_aload_n (hC : CF Γ St M R p s m args c) {j : Fin 4} {x : Nat} (hd : decode M.2.1 pc = .ok (.aload_n j, 1)) (hl : lget lv (j : Nat) = some (.ref x)) (kn : (Fs Γ NC p l e R s m args below meth c M.2.2.1 Q k sl (pc + 1) lv (.ref x :: S) h)) : Fs Γ NC p l e R s m args below meth c M.2.2.1 Q k sl pc lv S h := by
  intro H locs ls hW hL
  exact lv_aload_n hC.1 hC.2.1 hd rfl (hL.2.2 ((j : Nat), .ref (Γ.1 x)) (List.mem_map.mpr ⟨_, lget_mem hl, rfl⟩)) (kn H locs ls hW hL)
theorem fs_aload (hC : CF Γ St M R p s m args c) {j : Nat} {x : Nat} (hd : decode M.2.1 pc = .ok (.aload j, 2)) (hl : lget lv j = some (.ref x)) (kn : (Fs Γ NC p l e R s m args below meth c M.2.2.1 Q k sl (pc + 2) lv (.ref x :: S) h)) : Fs Γ NC p l e R s m args below meth c M.2.2.1 Q k sl pc lv S h := by
  intro H locs ls hW hL
  exact lv_aload hC.1 hC.2.1 hd (hL.2.2 (j, .ref (Γ.1 x)) (List.mem_map.mpr ⟨_, lget_mem hl, rfl⟩)) (kn H locs ls hW hL)
theorem fs_iconst (hC : CF Γ St M R p s m args c) {n : Int} (hd : decode M.2.1 pc = .ok (.iconst n, 1)) (kn : (Fs Γ NC p l e R s m args below meth c M.2.2.1 Q k sl (pc + 1) lv (.int (I n) :: S) h)) : Fs Γ NC p l e R s m args below meth c M.2.2.1 Q k sl pc lv S h := by
  intro H locs ls hW hL
  exact lv_iconst hC.1 hC.2.1 hd rfl (kn H locs ls hW hL)
theorem fs_bipush (hC : CF Γ St M R p s m args c) {n : Int} (hd : decode M.2.1 pc = .ok (.bipush n, 2)) (hv : (Int8.ofInt n).toInt32 = I n) (kn : (Fs Γ NC p l e R s m args below meth c M.2.2.1 Q k sl (pc + 2) lv (.int (I n) :: S) h)) : Fs Γ NC p l e R s m args below meth c M.2.2.1 Q k sl pc lv S h := by
  intro H locs ls hW hL
  exact lv_bipush hC.1 hC.2.1 hd hv (kn H locs ls hW hL)
theorem fs_lconst (hC : CF Γ St M R p s m args c) {n : Fin 2} (hd : decode M.2.1 pc = .ok (.lconst n, 1)) (kn : (Fs Γ NC p l e R s m args below meth c M.2.2.1 Q k sl (pc + 1) lv (.long (Int64.ofNat (n : Nat)) :: S) h)) : Fs Γ NC p l e R s m args below meth c M.2.2.1 Q k sl pc lv S h := by
  intro H locs ls hW hL
  exact lv_lconst hC.1 hC.2.1 hd rfl (kn H locs ls hW hL)
theorem fs_ldc2 (hC : CF Γ St M R p s m args c) {ix : Nat} {v : Int64} (hd : decode M.2.1 pc = .ok (.ldc2_w ix, 3)) (hw : Cond.constantLong M.1.cls ix v ∈ gT) (kn : (Fs Γ NC p l e R s m args below meth c M.2.2.1 Q k sl (pc + 3) lv (.long v :: S) h)) : Fs Γ NC p l e R s m args below meth c M.2.2.1 Q k sl pc lv S h := by
  intro H locs ls hW hL
  exact lv_ldc2 hC.1 hC.2.1 hC.2.2.2.1 (hC.2.2.2.2.1 _ hw) hd (kn H locs ls hW hL)
theorem fs_lmul (hC : CF Γ St M R p s m args c) {x y : Int64} (hd : decode M.2.1 pc = .ok (.lmul, 1)) (kn : (Fs Γ NC p l e R s m args below meth c M.2.2.1 Q k sl (pc + 1) lv (.long (x * y) :: S) h)) : Fs Γ NC p l e R s m args below meth c M.2.2.1 Q k sl pc lv (.long y :: .long x :: S) h := by
  intro H locs ls hW hL
  exact lv_lmul hC.1 hC.2.1 hd (kn H locs ls hW hL)
theorem fs_ladd (hC : CF Γ St M R p s m args c) {x y : Int64} (hd : decode M.2.1 pc = .ok (.ladd, 1)) (kn : (Fs Γ NC p l e R s m args below meth c M.2.2.1 Q k sl (pc + 1) lv (.long (x + y) :: S) h)) : Fs Γ NC p l e R s m args below meth c M.2.2.1 Q k sl pc lv (.long y :: .long x :: S) h := by
  intro H locs ls hW hL
  exact lv_ladd hC.1 hC.2.1 hd (kn H locs ls hW hL)
theorem fs_i2l (hC : CF Γ St M R p s m args c) {x : Int32} (hd : decode M.2.1 pc = .ok (.i2l, 1)) (kn : (Fs Γ NC p l e R s m args below meth c M.2.2.1 Q k sl (pc + 1) lv (.long x.toInt64 :: S) h)) : Fs Γ NC p l e R s m args below meth c M.2.2.1 Q k sl pc lv (.int x :: S) h := by
  intro H locs ls hW hL
  exact lv_i2l hC.1 hC.2.1 hd rfl (kn H locs ls hW hL)
theorem fs_iadd (hC : CF Γ St M R p s m args c) {x y : Int} (hd : decode M.2.1 pc = .ok (.iadd, 1)) (kn : (Fs Γ NC p l e R s m args below meth c M.2.2.1 Q k sl (pc + 1) lv (.int (I (x + y)) :: S) h)) : Fs Γ NC p l e R s m args below meth c M.2.2.1 Q k sl pc lv (.int (I y) :: .int (I x) :: S) h := by
  intro H locs ls hW hL
  exact lv_iadd hC.1 hC.2.1 hd (by have q := kn H locs ls hW hL; rw [List.map_cons, show trV Γ.1 (.int (I (x + y))) = .int (I x + I y) by rw [I_add]; rfl] at q; exact q)
theorem fs_isub (hC : CF Γ St M R p s m args c) {x y : Int} (hd : decode M.2.1 pc = .ok (.isub, 1)) (kn : (Fs Γ NC p l e R s m args below meth c M.2.2.1 Q k sl (pc + 1) lv (.int (I (x - y)) :: S) h)) : Fs Γ NC p l e R s m args below meth c M.2.2.1 Q k sl pc lv (.int (I y) :: .int (I x) :: S) h := by
  intro H locs ls hW hL
  exact lv_isub hC.1 hC.2.1 hd (by have q := kn H locs ls hW hL; rw [List.map_cons, show trV Γ.1 (.int (I (x - y))) = .int (I x - I y) by rw [I_sub]; rfl] at q; exact q)
theorem fs_istore_n (hC : CF Γ St M R p s m args c) {j : Fin 4} {x : Int32} {lv1 : List (Nat × Value)} (hd : decode M.2.1 pc = .ok (.istore_n j, 1)) (hi : (j : Nat) < M.2.2.1) (hl : lput lv (j : Nat) (.int x) = lv1) (kn : (Fs Γ NC p l e R s m args below meth c M.2.2.1 Q k sl (pc + 1) lv1 S h)) : Fs Γ NC p l e R s m args below meth c M.2.2.1 Q k sl pc lv (.int x :: S) h := by
  intro H locs ls hW hL
  subst hl
  exact lv_istore_n hC.1 hC.2.1 hd rfl hL hi rfl (fun ls9 hl9 => kn H locs ls9 hW (by unfold lput; rw [List.map_cons, ← k1_map]; exact hl9))
theorem fs_istore (hC : CF Γ St M R p s m args c) {j : Nat} {x : Int32} {lv1 : List (Nat × Value)} (hd : decode M.2.1 pc = .ok (.istore j, 2)) (hi : j < M.2.2.1) (hl : lput lv j (.int x) = lv1) (kn : (Fs Γ NC p l e R s m args below meth c M.2.2.1 Q k sl (pc + 2) lv1 S h)) : Fs Γ NC p l e R s m args below meth c M.2.2.1 Q k sl pc lv (.int x :: S) h := by
  intro H locs ls hW hL
  subst hl
  exact lv_istore hC.1 hC.2.1 hd hL hi rfl (fun ls9 hl9 => kn H locs ls9 hW (by unfold lput; rw [List.map_cons, ← k1_map]; exact hl9))
theorem fs_astore_n (hC : CF Γ St M R p s m args c) {j : Fin 4} {x : Nat} {lv1 : List (Nat × Value)} (hd : decode M.2.1 pc = .ok (.astore_n j, 1)) (hi : (j : Nat) < M.2.2.1) (hl : lput lv (j : Nat) (.ref x) = lv1) (kn : (Fs Γ NC p l e R s m args below meth c M.2.2.1 Q k sl (pc + 1) lv1 S h)) : Fs Γ NC p l e R s m args below meth c M.2.2.1 Q k sl pc lv (.ref x :: S) h := by
  intro H locs ls hW hL
  subst hl
  exact lv_astore_n hC.1 hC.2.1 hd rfl hL hi rfl (fun ls9 hl9 => kn H locs ls9 hW (by unfold lput; rw [List.map_cons, ← k1_map]; exact hl9))
theorem fs_lstore_n (hC : CF Γ St M R p s m args c) {j : Fin 4} {x : Int64} {lv1 : List (Nat × Value)} (hd : decode M.2.1 pc = .ok (.lstore_n j, 1)) (hi : (j : Nat) + 1 < M.2.2.1) (hl : lput2 lv (j : Nat) (.long x) = lv1) (kn : (Fs Γ NC p l e R s m args below meth c M.2.2.1 Q k sl (pc + 1) lv1 S h)) : Fs Γ NC p l e R s m args below meth c M.2.2.1 Q k sl pc lv (.long x :: S) h := by
  intro H locs ls hW hL
  subst hl
  exact lv_lstore_n hC.1 hC.2.1 hd rfl hL hi rfl (fun ls9 hl9 => kn H locs ls9 hW (by unfold lput2; rw [List.map_cons, ← k2_map]; exact hl9))
theorem fs_dstore (hC : CF Γ St M R p s m args c) {j : Nat} {x : UInt64} {lv1 : List (Nat × Value)} (hd : decode M.2.1 pc = .ok (.dstore j, 2)) (hi : j + 1 < M.2.2.1) (hl : lput2 lv j (.double x) = lv1) (kn : (Fs Γ NC p l e R s m args below meth c M.2.2.1 Q k sl (pc + 2) lv1 S h)) : Fs Γ NC p l e R s m args below meth c M.2.2.1 Q k sl pc lv (.double x :: S) h := by
  intro H locs ls hW hL
  subst hl
  exact lv_dstore hC.1 hC.2.1 hd hL hi rfl (fun ls9 hl9 => kn H locs ls9 hW (by unfold lput2; rw [List.map_cons, ← k2_map]; exact hl9))
theorem fs_iinc (hC : CF Γ St M R p s m args c) {j : Nat} {a n : Int} {lv1 : List (Nat × Value)} (hd : decode M.2.1 pc = .ok (.iinc j n, 3)) (hg : lget lv j = some (.int (I a))) (hi : j < M.2.2.1) (hl : lput lv j (.int (I (a + n))) = lv1) (kn : (Fs Γ NC p l e R s m args below meth c M.2.2.1 Q k sl (pc + 3) lv1 S h)) : Fs Γ NC p l e R s m args below meth c M.2.2.1 Q k sl pc lv S h := by
  intro H locs ls hW hL
  subst hl
  obtain ⟨k9, hk9⟩ := List.getElem?_of_mem (List.mem_map.mpr ⟨_, lget_mem hg, rfl⟩ : (j, Value.int (I a)) ∈ lv.map (trp Γ.1))
  exact lv_iinc hC.1 hC.2.1 hd hL hk9 (v := I (a + n)) (by rw [I_def, I_add]) hi rfl (fun ls9 hl9 => kn H locs ls9 hW (by unfold lput; rw [List.map_cons, ← k1_map]; exact hl9))
theorem fs_goto (hC : CF Γ St M R p s m args c) {off : Int} {tgt : Nat} (hd : decode M.2.1 pc = .ok (.goto off, 3)) (ht : (pc : Int) + off = (tgt : Int)) (kn : (Fs Γ NC p l e R s m args below meth c M.2.2.1 Q k sl tgt lv S h)) : Fs Γ NC p l e R s m args below meth c M.2.2.1 Q k sl pc lv S h := by
  intro H locs ls hW hL
  exact lv_goto hC.1 hC.2.1 hd ht (kn H locs ls hW hL)
theorem fs_icmp_ge (hC : CF Γ St M R p s m args c) {x y off : Int} {tgt : Nat} (hd : decode M.2.1 pc = .ok (.if_icmp .ge off, 3)) (ht : (pc : Int) + off = (tgt : Int)) (hx : -2147483648 ≤ x ∧ x < 2147483648) (hy : -2147483648 ≤ y ∧ y < 2147483648) (k1 : y ≤ x → (Fs Γ NC p l e R s m args below meth c M.2.2.1 Q k sl tgt lv S h)) (k2 : x < y → (Fs Γ NC p l e R s m args below meth c M.2.2.1 Q k sl (pc + 3) lv S h)) : Fs Γ NC p l e R s m args below meth c M.2.2.1 Q k sl pc lv (.int (I y) :: .int (I x) :: S) h := by
  intro H locs ls hW hL
  exact lv_icmp_ge hC.1 hC.2.1 hd ht (fun q => k1 ((I_le hy hx).mp q) H locs ls hW hL) (fun q => k2 (by rw [I_le hy hx] at q; omega) H locs ls hW hL)
theorem fs_icmp_gt (hC : CF Γ St M R p s m args c) {x y off : Int} {tgt : Nat} (hd : decode M.2.1 pc = .ok (.if_icmp .gt off, 3)) (ht : (pc : Int) + off = (tgt : Int)) (hx : -2147483648 ≤ x ∧ x < 2147483648) (hy : -2147483648 ≤ y ∧ y < 2147483648) (k1 : y < x → (Fs Γ NC p l e R s m args below meth c M.2.2.1 Q k sl tgt lv S h)) (k2 : x ≤ y → (Fs Γ NC p l e R s m args below meth c M.2.2.1 Q k sl (pc + 3) lv S h)) : Fs Γ NC p l e R s m args below meth c M.2.2.1 Q k sl pc lv (.int (I y) :: .int (I x) :: S) h := by
  intro H locs ls hW hL
  exact lv_icmp_gt hC.1 hC.2.1 hd ht (fun q => k1 ((I_lt hy hx).mp q) H locs ls hW hL) (fun q => k2 (by rw [I_lt hy hx] at q; omega) H locs ls hW hL)
theorem fs_icmp_eqT (hC : CF Γ St M R p s m args c) {x y : Int32} {off : Int} {tgt : Nat} (hd : decode M.2.1 pc = .ok (.if_icmp .eq off, 3)) (ht : (pc : Int) + off = (tgt : Int)) (hxy : x = y) (kn : (Fs Γ NC p l e R s m args below meth c M.2.2.1 Q k sl tgt lv S h)) : Fs Γ NC p l e R s m args below meth c M.2.2.1 Q k sl pc lv (.int y :: .int x :: S) h := by
  intro H locs ls hW hL
  exact lv_icmp_eq hC.1 hC.2.1 hd ht (fun q => kn H locs ls hW hL) (fun q => absurd hxy q)
theorem fs_if_eq (hC : CF Γ St M R p s m args c) {x off : Int} {tgt : Nat} (hd : decode M.2.1 pc = .ok (.ifCond .eq off, 3)) (ht : (pc : Int) + off = (tgt : Int)) (hx : -2147483648 ≤ x ∧ x < 2147483648) (k1 : x = 0 → (Fs Γ NC p l e R s m args below meth c M.2.2.1 Q k sl tgt lv S h)) (k2 : x ≠ 0 → (Fs Γ NC p l e R s m args below meth c M.2.2.1 Q k sl (pc + 3) lv S h)) : Fs Γ NC p l e R s m args below meth c M.2.2.1 Q k sl pc lv (.int (I x) :: S) h := by
  intro H locs ls hW hL
  exact lv_if_eq hC.1 hC.2.1 hd ht (fun q => (k1 ((I_eq hx (by omega)).mp (q.trans I_0))) H locs ls hW hL) (fun q => (k2 (fun z => q (((I_eq hx (by omega)).mpr z).trans I_0.symm))) H locs ls hW hL)
theorem fs_if_ne (hC : CF Γ St M R p s m args c) {x off : Int} {tgt : Nat} (hd : decode M.2.1 pc = .ok (.ifCond .ne off, 3)) (ht : (pc : Int) + off = (tgt : Int)) (hx : -2147483648 ≤ x ∧ x < 2147483648) (k1 : x ≠ 0 → (Fs Γ NC p l e R s m args below meth c M.2.2.1 Q k sl tgt lv S h)) (k2 : x = 0 → (Fs Γ NC p l e R s m args below meth c M.2.2.1 Q k sl (pc + 3) lv S h)) : Fs Γ NC p l e R s m args below meth c M.2.2.1 Q k sl pc lv (.int (I x) :: S) h := by
  intro H locs ls hW hL
  exact lv_if_ne hC.1 hC.2.1 hd ht (fun q => (k1 (fun z => q (((I_eq hx (by omega)).mpr z).trans I_0.symm))) H locs ls hW hL) (fun q => (k2 ((I_eq hx (by omega)).mp (q.trans I_0))) H locs ls hW hL)
theorem fs_getf (hC : CF Γ St M R p s m args c) {ci ix j a N : Nat} {C : String} {T : u_T} {ty : Nat → FieldType} {fs : List Value} {v : Value} (hd : decode M.2.1 pc = .ok (.getfield ix, 3)) (hc : ckC ci C T N ty) (hw : Cond.fieldLink M.1.cls ix (T j).1 (T j).2.1 (T j).2.2.1 ∈ gT) (hj : j < N) (hn : a < NC) (ha : h a = .inr (ci, fs)) (hv : fs[j]? = some v) (kn : (Fs Γ NC p l e R s m args below meth c M.2.2.1 Q k sl (pc + 3) lv (v :: S) h)) : Fs Γ NC p l e R s m args below meth c M.2.2.1 Q k sl pc lv (.ref a :: S) h := by
  intro H locs ls hW hL
  exact va_get (D := Γ.2.1) (ci := ci) (C := C) (T := T) (N := N) (v := trV Γ.1 v) hC.1 hC.2.1 hC.2.2.2.2.1 hc.2.1 hC.2.2.2.1 hC.2.2.2.2.2.1 hW.1 a (ws_inr hn ha) hc.1 j hj (hC.2.2.2.2.1 _ hw) (fun _ h9 => h9) (by rw [List.getElem?_map, hv]; rfl) hd (kn H locs ls hW hL)
theorem fs_putf (hC : CF Γ St M R p s m args c) {ci ix j a N : Nat} {C : String} {T : u_T} {ty : Nat → FieldType} {fs : List Value} {x : Int32} (hd : decode M.2.1 pc = .ok (.putfield ix, 3)) (hc : ckC ci C T N ty) (hw : Cond.fieldLink M.1.cls ix (T j).1 (T j).2.1 (T j).2.2.1 ∈ gT) (hj : j < N) (hn : a < NC) (ha : h a = .inr (ci, fs)) (hf : (T j).2.2.2 = false) (hty : ty j = .int) (hlt : j < fs.length) (kn : (Fs Γ NC p l e R s m args below meth c M.2.2.1 Q k sl (pc + 3) lv S (va_up h a (.inr (ci, fs.set j (.int x)))))) : Fs Γ NC p l e R s m args below meth c M.2.2.1 Q k sl pc lv (.int x :: .ref a :: S) h := by
  intro H locs ls hW hL
  refine va_put (D := Γ.2.1) (ci := ci) (v := .int x) (ty := ty j) (C := C) (T := T) (N := N) hC.1 hC.2.1 hC.2.2.2.2.1 hc.2.1 ty hc.2.2.1 hc.2.2.2 hC.2.2.2.1 hC.2.2.2.2.2.1 hW.1 hW.2.1 hW.2.2 a (ws_inr hn ha) hc.1 j hj (hC.2.2.2.2.1 _ hw) (fun _ h9 => h9) hf (hc.2.2.1 j hj) (by rw [hty]; rfl) (by rw [hty]; rfl) (by rw [List.length_map]; exact hlt) hd (fun H1 locs1 hP1 hD1 hS1 => ?_)
  have e2 : (wsOf Γ NC h).set a (Γ.1 a, .inr (ci, (fs.map (trV Γ.1)).set j (.int x))) = wsOf Γ NC (va_up h a (.inr (ci, fs.set j (.int x)))) := by rw [show (Value.int x) = trV Γ.1 (.int x) from rfl, ← List.map_set]; exact ws_set (e := .inr (ci, fs.set j (.int x)))
  rw [e2] at hP1 hD1
  exact kn H1 locs1 ls ⟨hP1, hD1, hS1⟩ hL
theorem fs_cvi (hE : envOK Γ St) {adV : Nat → Nat} (hX : envX Γ St adV) (hl9 : l.stackTraces = false) (hC : CF Γ St M R p s m args c) (hR : k ≤ R.cells ∧ sl ≤ R.slots) {ix n a ci : Nat} {Y : mt} {As fs : List Value} {T : u_T} {Nf : Nat} {Q1 : qt} (hd : decode M.2.1 pc = .ok (.invokevirtual ix, 3)) (hl : lnV M ix Y n) (hlen : As.length = n) (hcA : cat1 As) (hcS : catS S) (hn : a < NC) (ha : h a = .inr (ci, fs)) (hc : vwCl[ci]? = some (Y.1.cls, T, Nf)) (hret : Y.2.2.2.1 = some .int ∨ Y.2.2.2.1 = some .boolean) (k1 : Cl NC Y (.ref a :: As) h Q1) (kn : ∀ r h1, Q1 (.int r) h1 → (Fs Γ NC p l e R s m args below meth c M.2.2.1 Q k sl (pc + 3) lv (.int r :: S) h1)) : Fs Γ NC p l e R s m args below meth c M.2.2.1 Q k sl pc lv (As.reverse ++ .ref a :: S) h := by
  intro H locs ls hW hL
  obtain ⟨hx, hb, hml, hown, hts, hK, hSt, hR1, hR2⟩ := id hC
  obtain ⟨hP, hD, hS⟩ := id hW
  rw [rev_map]
  have hM := cl_met (l := l) hE hX hl9 (As := .ref a :: As) hl.1.2.2.1 hl.1.2.2.2.2.1 (by unfold cat1 at hcA ⊢; simp only [List.all_cons, Bool.and_eq_true]; exact ⟨rfl, hcA⟩) (by have := hl.2.2.2; simp only [List.length_cons]; omega) k1
  have hcw := cwV (R := R) (own := M.1.cls) (index := ix) (C := Y.1.cls) (y := Y.1) (bytes := Y.2.1) (maxL := Y.2.2.1) (ret := Y.2.2.2.1) (ws := wsM Y) (rm := rmM none Y) (mc := 0) (ms := 0) n hts (lnV_good hl) rfl rfl rfl ⟨rfl, hl.1.2.2.2.1⟩ ⟨Nat.le_trans hl.1.2.2.2.2.2.1 hR1, Nat.le_trans hl.1.2.2.2.2.2.2 hR2⟩
  have hrun := va_runV (p := p) (e := e) (R := R) (below := below) (meth := meth) (cells := k) (slots := sl) (locs := locs) (g := F0 m pc ls ((As.map (trV Γ.1)).reverse ++ .ref (Γ.1 a) :: S.map (trV Γ.1))) (rest := S.map (trV Γ.1)) ⟨hx, hb, hml, hown, hts⟩ hM hcw (pre_V hE hP hD hS hK hSt hn ha hc) rfl ((List.length_map ..).trans hlen) hL.1 rfl (lv_room (cat_map hcS)) hd hR
  rw [Qc_int hret] at hrun
  exact va_calli hrun hS (fun q _ h => h) (fun q h => h) (fun r u t H1 locs1 ht hvm hq hB hz hk1 hS1 => kn r u hq H1 locs1 ls ⟨by rw [← ht]; exact hB.1, hB.2, hS1⟩ hL)
theorem fs_cvf (hE : envOK Γ St) {adV : Nat → Nat} (hX : envX Γ St adV) (hl9 : l.stackTraces = false) (hC : CF Γ St M R p s m args c) (hR : k ≤ R.cells ∧ sl ≤ R.slots) {ix n a ci : Nat} {Y : mt} {As fs : List Value} {T : u_T} {Nf : Nat} {Q1 : qt} (hd : decode M.2.1 pc = .ok (.invokevirtual ix, 3)) (hl : lnV M ix Y n) (hlen : As.length = n) (hcA : cat1 As) (hcS : catS S) (hn : a < NC) (ha : h a = .inr (ci, fs)) (hc : vwCl[ci]? = some (Y.1.cls, T, Nf)) (hret : Y.2.2.2.1 = some .float) (k1 : Cl NC Y (.ref a :: As) h Q1) (kn : ∀ r h1, Q1 (.float r) h1 → (Fs Γ NC p l e R s m args below meth c M.2.2.1 Q k sl (pc + 3) lv (.float r :: S) h1)) : Fs Γ NC p l e R s m args below meth c M.2.2.1 Q k sl pc lv (As.reverse ++ .ref a :: S) h := by
  intro H locs ls hW hL
  obtain ⟨hx, hb, hml, hown, hts, hK, hSt, hR1, hR2⟩ := id hC
  obtain ⟨hP, hD, hS⟩ := id hW
  rw [rev_map]
  have hM := cl_met (l := l) hE hX hl9 (As := .ref a :: As) hl.1.2.2.1 hl.1.2.2.2.2.1 (by unfold cat1 at hcA ⊢; simp only [List.all_cons, Bool.and_eq_true]; exact ⟨rfl, hcA⟩) (by have := hl.2.2.2; simp only [List.length_cons]; omega) k1
  have hcw := cwV (R := R) (own := M.1.cls) (index := ix) (C := Y.1.cls) (y := Y.1) (bytes := Y.2.1) (maxL := Y.2.2.1) (ret := Y.2.2.2.1) (ws := wsM Y) (rm := rmM none Y) (mc := 0) (ms := 0) n hts (lnV_good hl) rfl rfl rfl ⟨rfl, hl.1.2.2.2.1⟩ ⟨Nat.le_trans hl.1.2.2.2.2.2.1 hR1, Nat.le_trans hl.1.2.2.2.2.2.2 hR2⟩
  have hrun := va_runV (p := p) (e := e) (R := R) (below := below) (meth := meth) (cells := k) (slots := sl) (locs := locs) (g := F0 m pc ls ((As.map (trV Γ.1)).reverse ++ .ref (Γ.1 a) :: S.map (trV Γ.1))) (rest := S.map (trV Γ.1)) ⟨hx, hb, hml, hown, hts⟩ hM hcw (pre_V hE hP hD hS hK hSt hn ha hc) rfl ((List.length_map ..).trans hlen) hL.1 rfl (lv_room (cat_map hcS)) hd hR
  have eQ : QcM Γ NC Y Q1 = va_Qf (fun (r : UInt32) (u : hp) => Q1 (.float r) u) (BW Γ NC) Γ.2.2.2 := by unfold QcM; rw [hret]
  rw [eQ] at hrun
  exact va_callf hrun hS (fun q _ h => h) (fun q h => h) (fun r u t H1 locs1 ht hvm hq hB hz hk1 hS1 => kn r u hq H1 locs1 ls ⟨by rw [← ht]; exact hB.1, hB.2, hS1⟩ hL)
/-- a contract of a method that answers a long -/
def MetL (Γ : en) (l : Launch) (St : State → Prop) (NC : Nat) (Y : mt) (As : List Value) (h : hp) (QL : Int64 → hp → Prop) : Prop := Met l Y.1 (wsM Y) (rmM none Y) (PcM Γ St NC h As) (va_Ql QL (BW Γ NC) Γ.2.2.2) 0 0 Γ.2.2.2
theorem fs_cvl (hE : envOK Γ St) (hC : CF Γ St M R p s m args c) (hR : k ≤ R.cells ∧ sl ≤ R.slots) {ix n a ci : Nat} {Y : mt} {As fs : List Value} {T : u_T} {Nf : Nat} {Q1 : Int64 → hp → Prop} (hd : decode M.2.1 pc = .ok (.invokevirtual ix, 3)) (hl : lnV M ix Y n) (hlen : As.length = n) (hcA : cat1 As) (hcS : catS S) (hn : a < NC) (ha : h a = .inr (ci, fs)) (hc : vwCl[ci]? = some (Y.1.cls, T, Nf)) (hM : MetL Γ l St NC Y (.ref a :: As) h Q1) (kn : ∀ r h1, Q1 r h1 → (Fs Γ NC p l e R s m args below meth c M.2.2.1 Q k sl (pc + 3) lv (.long r :: S) h1)) : Fs Γ NC p l e R s m args below meth c M.2.2.1 Q k sl pc lv (As.reverse ++ .ref a :: S) h := by
  intro H locs ls hW hL
  obtain ⟨hx, hb, hml, hown, hts, hK, hSt, hR1, hR2⟩ := id hC
  obtain ⟨hP, hD, hS⟩ := id hW
  rw [rev_map]
  unfold MetL at hM
  have hcw := cwV (R := R) (own := M.1.cls) (index := ix) (C := Y.1.cls) (y := Y.1) (bytes := Y.2.1) (maxL := Y.2.2.1) (ret := Y.2.2.2.1) (ws := wsM Y) (rm := rmM none Y) (mc := 0) (ms := 0) n hts (lnV_good hl) rfl rfl rfl ⟨rfl, hl.1.2.2.2.1⟩ ⟨Nat.le_trans hl.1.2.2.2.2.2.1 hR1, Nat.le_trans hl.1.2.2.2.2.2.2 hR2⟩
  have hrun := va_runV (p := p) (e := e) (R := R) (below := below) (meth := meth) (cells := k) (slots := sl) (locs := locs) (g := F0 m pc ls ((As.map (trV Γ.1)).reverse ++ .ref (Γ.1 a) :: S.map (trV Γ.1))) (rest := S.map (trV Γ.1)) ⟨hx, hb, hml, hown, hts⟩ hM hcw (pre_V hE hP hD hS hK hSt hn ha hc) rfl ((List.length_map ..).trans hlen) hL.1 rfl (lv_room (cat_map hcS)) hd hR
  exact va_calll hrun hS (fun q _ h => h) (fun q h => h) (fun r u t H1 locs1 ht hvm hq hB hz hk1 hS1 => kn r u hq H1 locs1 ls ⟨by rw [← ht]; exact hB.1, hB.2, hS1⟩ hL)
theorem fs_lret (hE : envOK Γ St) {St : State → Prop} {v : Int64} {QL : Int64 → hp → Prop} (hC : CF Γ St M R p s m args c) (hd : decode M.2.1 pc = .ok (.lreturn, 1)) (hr : meth.sig.returnType = some .long) (hlocks : meth.locks = false) (hq : QL v h) : Fs Γ NC p l e R s m args below meth c M.2.2.1 (MQ below (va_Ql QL (BW Γ NC) Γ.2.2.2) args s k sl Γ.2.2.2) k sl pc lv [.long v] h := by
  intro H locs ls hW hL
  exact W.lret hC.1 hC.2.1 hr (fun t ht _ => ⟨⟨v, h, rfl, hq, by rw [BW, ht]; exact ⟨hW.1, hW.2.1⟩⟩, hW.2.2.F ht⟩) hW.2.2.2.2 hd hlocks
/-- a body that answers a long -/
def arg1 (a : Nat) : List (Nat × Value) := [(0, .ref a)]
theorem metL_of (hE : envOK Γ St) {Y : mt} {a : Nat} {h : hp} {QL : Int64 → hp → Prop} (hpl : plainName Y.1.cls = true) (hret : Y.2.2.2.1 = some .long) (hn : 1 ≤ Y.2.2.1)
    (kn : ∀ (p : Program) (e : Env) (s : State) (m : MethodId) (args : Array Value) (below : List Frame) (meth : Method) (c : Code), CF Γ St Y (rmM none Y) p s m args c → meth.sig.returnType = some .long → meth.locks = false → Fs Γ NC p l e (rmM none Y) s m args below meth c Y.2.2.1 (MQ below (va_Ql QL (BW Γ NC) Γ.2.2.2) args s 0 0 Γ.2.2.2) 0 0 0 [(0, .ref a)] [] h) : MetL Γ l St NC Y [.ref a] h QL := by
  unfold MetL
  refine Met.ofW (cc := Y.2.1) (maxL := Y.2.2.1) (ret := Y.2.2.2.1) hpl rfl ?_
  intro p e s m args below meth c s₁ B hml hv
  obtain ⟨rfl, hP, hD, hK, hSt⟩ := hv
  have hts := atoms_spec (ws := wsM Y) B.pre
  rw [lg_entry_eq]
  have hE1 := entry_rel (ad := Γ.1) (As := [.ref a]) (n := Y.2.2.1) rfl hn
  refine kn p e s m _ below meth c ⟨B.exec, B.bytes, hml, findClass_of_methodNamed B.named, fun w hw => hts w (List.mem_cons_of_mem _ hw), hK, hSt, Nat.le_refl _, Nat.le_refl _⟩ (B.returns.trans hret) B.notSynchronized s.heap [] _ ⟨hP, hD, va_S.rf⟩ ⟨hE1.1, hE1.2.1, fun q hq => ?_⟩
  cases List.mem_singleton.mp hq
  exact (hE1.2.2 0 (.ref a) rfl (fun z => by cases z)).2
end FR
