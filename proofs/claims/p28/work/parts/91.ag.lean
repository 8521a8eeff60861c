/-! THE GROWING MACHINE (AG). As AM, but references are addresses; the heap of the law's own cells is a partial map h of addresses (u: the class's 112 cells, as AM has them); c, sl: what is left of cells and slots. A float among the locals: nothing is known there. -/
abbrev hg : Type := Nat → Option va_E
abbrev qg : Type := Value → hp → hg → Prop
abbrev xg : Type := mt → Nat → List Value → List Value → Nat → Nat → hp → hg → qg → Prop
abbrev uk : Value := .float 0
def isU : Value → Bool
  | .float _ => true
  | _ => false
def up (h : hg) (a : Nat) (e : va_E) : hg := fun b => if b = a then some e else h b
theorem ug_eq {h : hg} {a : Nat} {e : va_E} : up h a e a = some e := if_pos rfl
theorem ug_ne {h : hg} {a b : Nat} {e : va_E} (q : b ≠ a) : up h a e b = h b := if_neg q
def c1 : List Value → Nat → Bool
  | _, 0 => true
  | L, i + 1 => match L[i]? with
    | some v => v.category == 1
    | none => true
def padG (n : Nat) (vs : List Value) : List Value := vs ++ List.replicate (n - vs.length) uk
/-- the reads of COMPACT_STRINGS; the law's texts; System.arraycopy, the Math's -/
def strG : List (String × Nat × Nat × String) := [("KitePainterLaw", 129, 0, "kite"), ("KitePainterLaw", 109, 18, " "), ("KitePainterLaw", 135, 19, ";"), ("KitePainterLaw", 137, 1, "reach"), ("KitePainterLaw", 149, 2, "cloth"), ("KitePainterLaw", 150, 20, ";wood"), ("KitePainterLaw", 156, 4, "colour"), ("KitePainterLaw", 162, 5, "mix"), ("KitePainterLaw", 163, 21, "spar down"), ("KitePainterLaw", 165, 22, "spar across"), ("KitePainterLaw", 183, 9, "pattern"), ("KitePainterLaw", 184, 23, "")]
/-- a tag of an array of references: of objects of a class, or of arrays -/
def tagO (t : Nat) (C : String) : Prop := (t = 3 ∧ C = "KitePainter$Sail") ∨ (t = 6 ∧ C = "KitePainterLaw$Cell") ∨ (t = 7 ∧ C = "KitePainterLaw$Kite") ∨ (t = 8 ∧ C = "java/lang/String")
/-- the tags of new arrays of numbers -/
def tagN (t : Nat) (k : ArrayType) : Prop := (t = 0 ∧ k = .int) ∨ (t = 1 ∧ k = .byte) ∨ (t = 2 ∧ k = .boolean)
/-- a call's links, with any number of words -/
def lnC (M : mt) (ix : Nat) (Y : mt) (n : Nat) : Prop := Cond.methodLink M.1.cls ix Y.1 ∈ gT ∧ Cond.initialized Y.1.cls ∈ gT ∧ Cond.code Y.1 Y.2.1 Y.2.2.1 Y.2.2.2.1 ∈ gT ∧ Cond.instanceMethod Y.1 ∈ gT ∧ Y.1.name = "<init>" ∧ Y.2.2.2.1 = none ∧ (Y.1.cls ≠ "java/lang/invoke/MethodHandle" ∧ Y.1.cls ≠ "java/lang/invoke/VarHandle" ∧ (parseMethodDescriptor Y.1.desc).map (fun d => d.parameters.length) = some n) ∧ plainName Y.1.cls = true ∧ Y.2.2.2.2.1 + 1 ≤ M.2.2.2.2.1 ∧ 8 + (Y.2.2.1 + 11) + Y.2.2.2.2.2 ≤ M.2.2.2.2.2 ∧ n + 1 ≤ Y.2.2.1
/-- a call through a class above (own: the receiver's class) -/
def lnU (M : mt) (ix : Nat) (x : MethodName) (C : String) (Y : mt) (n : Nat) : Prop := Cond.methodLink M.1.cls ix x ∈ gT ∧ Cond.initialized Y.1.cls ∈ gT ∧ Cond.code Y.1 Y.2.1 Y.2.2.1 Y.2.2.2.1 ∈ gT ∧ Cond.instanceMethod Y.1 ∈ gT ∧ plainName Y.1.cls = true ∧ (Y.2.2.2.2.1 + 1 ≤ M.2.2.2.2.1 ∧ 8 + (Y.2.2.1 + 11) + Y.2.2.2.2.2 ≤ M.2.2.2.2.2 ∧ n + 1 ≤ Y.2.2.1) ∧ Cond.sameMethod x.cls x.cls x.name x.desc ∈ gT ∧ Cond.selects C x Y.1 ∈ gT ∧ (Cond.instanceMethod x ∈ gT ∧ ∃ b0 m0 r0, Cond.code x b0 m0 r0 ∈ gT) ∧ x.cls ≠ "java/lang/invoke/MethodHandle" ∧ x.cls ≠ "java/lang/invoke/VarHandle" ∧ (parseMethodDescriptor x.desc).map (fun d => d.parameters.length) = some n
/-- a call of a private method of the class above -/
def lnP (M : mt) (ix : Nat) (C : String) (Y : mt) (n : Nat) : Prop := Cond.methodLink M.1.cls ix Y.1 ∈ gT ∧ Cond.initialized Y.1.cls ∈ gT ∧ Cond.code Y.1 Y.2.1 Y.2.2.1 Y.2.2.2.1 ∈ gT ∧ Cond.instanceMethod Y.1 ∈ gT ∧ plainName Y.1.cls = true ∧ (Y.2.2.2.2.1 + 1 ≤ M.2.2.2.2.1 ∧ 8 + (Y.2.2.1 + 11) + Y.2.2.2.2.2 ≤ M.2.2.2.2.2 ∧ n + 1 ≤ Y.2.2.1) ∧ Cond.sameMethod Y.1.cls Y.1.cls Y.1.name Y.1.desc ∈ gT ∧ Cond.privateMethod Y.1 ∈ fT ∧ (∃ (x : MethodName) (z : Nat), x.cls = Y.1.cls ∧ Cond.selects C x x ∈ gT ∧ Cond.instanceMethod x ∈ gT ∧ Cond.instantiable C z ∈ gT) ∧ Y.1.cls ≠ "java/lang/invoke/MethodHandle" ∧ Y.1.cls ≠ "java/lang/invoke/VarHandle" ∧ (parseMethodDescriptor Y.1.desc).map (fun d => d.parameters.length) = some n
/-- super.m(..) -/
def lnQ (M : mt) (ix : Nat) (Y : mt) (n : Nat) : Prop := Cond.methodLink M.1.cls ix Y.1 ∈ gT ∧ Cond.initialized Y.1.cls ∈ gT ∧ Cond.code Y.1 Y.2.1 Y.2.2.1 Y.2.2.2.1 ∈ gT ∧ Cond.instanceMethod Y.1 ∈ gT ∧ plainName Y.1.cls = true ∧ (Y.2.2.2.2.1 + 1 ≤ M.2.2.2.2.1 ∧ 8 + (Y.2.2.1 + 11) + Y.2.2.2.2.2 ≤ M.2.2.2.2.2 ∧ n + 1 ≤ Y.2.2.1) ∧ Cond.sameMethod Y.1.cls Y.1.cls Y.1.name Y.1.desc ∈ gT ∧ Cond.superclass M.1.cls Y.1.cls ∈ gT ∧ Y.1.name ≠ "<init>" ∧ (parseMethodDescriptor Y.1.desc).map (fun d => d.parameters.length) = some n
def lnN (M : mt) (ix : Nat) (Y : mt) (n : Nat) : Prop := (M.1.cls = "KitePainterLaw" ∧ ix = 116 ∧ Y.1 = yX7_init) ∧ Cond.initialized Y.1.cls ∈ gT ∧ Cond.code Y.1 Y.2.1 Y.2.2.1 Y.2.2.2.1 ∈ gT ∧ Cond.instanceMethod Y.1 ∈ gT ∧ Y.1.name = "<init>" ∧ Y.2.2.2.1 = none ∧ (Y.1.cls ≠ "java/lang/invoke/MethodHandle" ∧ Y.1.cls ≠ "java/lang/invoke/VarHandle" ∧ (parseMethodDescriptor Y.1.desc).map (fun d => d.parameters.length) = some n) ∧ plainName Y.1.cls = true ∧ Y.2.2.2.2.1 + 1 ≤ M.2.2.2.2.1 ∧ 8 + (Y.2.2.1 + 11) + Y.2.2.2.2.2 ≤ M.2.2.2.2.2 ∧ n + 1 ≤ Y.2.2.1

def upM (h : hg) (a N K : Nat) : hg := fun b => if b = a then some (.inl (4, N, .inr (.inr (.inr (.inr (fun i => if i < N then some (a + 1 + i) else none)))))) else if a < b ∧ b ≤ a + N then some (.inl (0, K, .inl (fun _ => 0))) else h b
/-- a wrapper's contract, and the checksum's, over the class's cells alone -/
def WF (W9 : mt) (hh : List (Nat × Nat × Nat × Nat)) (As : List Value) (u : hp) (Qw : Int32 → hp → Prop) : Prop := ∀ (Γ : en) (l : Launch) (St : State → Prop) (adV : Nat → Nat), envOK Γ St → envX Γ St adV → l.stackTraces = false → envL St → MetW Γ l St 112 W9 hh As u Qw
def KF (u : hp) (Qw : Int64 → hp → Prop) : Prop := ∀ (Γ : en) (l : Launch) (St : State → Prop) (adV : Nat → Nat), envOK Γ St → envX Γ St adV → l.stackTraces = false → MetL Γ l St 112 M_X5_checksum [.ref 0] u Qw
section CLG
variable (ad : Nat → Nat) (sc : Nat × (Nat → Int32)) (X : xg)
def g_iconst : Prop := ∀ {M : mt} {pc : Nat} {L S : List Value} {c sl : Nat} {u : hp} {h : hg} {Q : qg} {n : Int} {v : Int32}, Int32.ofInt n = v → decode M.2.1 pc = .ok (.iconst n, 1) → (X M (pc + 1) L (.int v :: S) c sl u h Q) → X M pc L (S) c sl u h Q
def g_bipush : Prop := ∀ {M : mt} {pc : Nat} {L S : List Value} {c sl : Nat} {u : hp} {h : hg} {Q : qg} {n : Int} {v : Int32}, (Int8.ofInt n).toInt32 = v → decode M.2.1 pc = .ok (.bipush n, 2) → (X M (pc + 2) L (.int v :: S) c sl u h Q) → X M pc L (S) c sl u h Q
def g_sipush : Prop := ∀ {M : mt} {pc : Nat} {L S : List Value} {c sl : Nat} {u : hp} {h : hg} {Q : qg} {n : Int} {v : Int32}, (Int16.ofInt n).toInt32 = v → decode M.2.1 pc = .ok (.sipush n, 3) → (X M (pc + 3) L (.int v :: S) c sl u h Q) → X M pc L (S) c sl u h Q
def g_ldcI : Prop := ∀ {M : mt} {pc : Nat} {L S : List Value} {c sl : Nat} {u : hp} {h : hg} {Q : qg} {ix : Nat} {v : Int32}, Cond.constant M.1.cls ix v ∈ gT → decode M.2.1 pc = .ok (.ldc ix, 2) → (X M (pc + 2) L (.int v :: S) c sl u h Q) → X M pc L (S) c sl u h Q
def g_ldc2 : Prop := ∀ {M : mt} {pc : Nat} {L S : List Value} {c sl : Nat} {u : hp} {h : hg} {Q : qg} {ix : Nat} {v : Int64}, Cond.constantLong M.1.cls ix v ∈ gT → decode M.2.1 pc = .ok (.ldc2_w ix, 3) → (X M (pc + 3) L (.long v :: S) c sl u h Q) → X M pc L (S) c sl u h Q
def g_lconst : Prop := ∀ {M : mt} {pc : Nat} {L S : List Value} {c sl : Nat} {u : hp} {h : hg} {Q : qg} {n : Fin 2} {v : Int64}, Int64.ofNat (n : Nat) = v → decode M.2.1 pc = .ok (.lconst n, 1) → (X M (pc + 1) L (.long v :: S) c sl u h Q) → X M pc L (S) c sl u h Q
def g_null : Prop := ∀ {M : mt} {pc : Nat} {L S : List Value} {c sl : Nat} {u : hp} {h : hg} {Q : qg} , decode M.2.1 pc = .ok (.aconst_null, 1) → (X M (pc + 1) L (.null :: S) c sl u h Q) → X M pc L (S) c sl u h Q
def g_iload_n : Prop := ∀ {M : mt} {pc : Nat} {L S : List Value} {c sl : Nat} {u : hp} {h : hg} {Q : qg} {k : Fin 4} {i : Nat} {x : Int32}, (k : Nat) = i → L[i]? = some (.int x) → decode M.2.1 pc = .ok (.iload_n k, 1) → (X M (pc + 1) L (.int x :: S) c sl u h Q) → X M pc L (S) c sl u h Q
def g_iload : Prop := ∀ {M : mt} {pc : Nat} {L S : List Value} {c sl : Nat} {u : hp} {h : hg} {Q : qg} {i : Nat} {x : Int32}, L[i]? = some (.int x) → decode M.2.1 pc = .ok (.iload i, 2) → (X M (pc + 2) L (.int x :: S) c sl u h Q) → X M pc L (S) c sl u h Q
def g_aload_n : Prop := ∀ {M : mt} {pc : Nat} {L S : List Value} {c sl : Nat} {u : hp} {h : hg} {Q : qg} {k : Fin 4} {i : Nat} {x : Nat}, (k : Nat) = i → L[i]? = some (.ref x) → decode M.2.1 pc = .ok (.aload_n k, 1) → (X M (pc + 1) L (.ref x :: S) c sl u h Q) → X M pc L (S) c sl u h Q
def g_aload : Prop := ∀ {M : mt} {pc : Nat} {L S : List Value} {c sl : Nat} {u : hp} {h : hg} {Q : qg} {i : Nat} {x : Nat}, L[i]? = some (.ref x) → decode M.2.1 pc = .ok (.aload i, 2) → (X M (pc + 2) L (.ref x :: S) c sl u h Q) → X M pc L (S) c sl u h Q
def g_lload_n : Prop := ∀ {M : mt} {pc : Nat} {L S : List Value} {c sl : Nat} {u : hp} {h : hg} {Q : qg} {k : Fin 4} {i : Nat} {x : Int64}, (k : Nat) = i → L[i]? = some (.long x) → decode M.2.1 pc = .ok (.lload_n k, 1) → (X M (pc + 1) L (.long x :: S) c sl u h Q) → X M pc L (S) c sl u h Q
def g_lload : Prop := ∀ {M : mt} {pc : Nat} {L S : List Value} {c sl : Nat} {u : hp} {h : hg} {Q : qg} {i : Nat} {x : Int64}, L[i]? = some (.long x) → decode M.2.1 pc = .ok (.lload i, 2) → (X M (pc + 2) L (.long x :: S) c sl u h Q) → X M pc L (S) c sl u h Q
def g_aload_nN : Prop := ∀ {M : mt} {pc : Nat} {L S : List Value} {c sl : Nat} {u : hp} {h : hg} {Q : qg} {k : Fin 4} {i : Nat}, (k : Nat) = i → L[i]? = some .null → decode M.2.1 pc = .ok (.aload_n k, 1) → (X M (pc + 1) L (.null :: S) c sl u h Q) → X M pc L (S) c sl u h Q
def g_aloadN : Prop := ∀ {M : mt} {pc : Nat} {L S : List Value} {c sl : Nat} {u : hp} {h : hg} {Q : qg} {i : Nat}, L[i]? = some .null → decode M.2.1 pc = .ok (.aload i, 2) → (X M (pc + 2) L (.null :: S) c sl u h Q) → X M pc L (S) c sl u h Q
def g_iadd : Prop := ∀ {M : mt} {pc : Nat} {L S : List Value} {c sl : Nat} {u : hp} {h : hg} {Q : qg} {x y : Int32}, decode M.2.1 pc = .ok (.iadd, 1) → (X M (pc + 1) L (.int (x + y) :: S) c sl u h Q) → X M pc L (.int y :: .int x :: S) c sl u h Q
def g_isub : Prop := ∀ {M : mt} {pc : Nat} {L S : List Value} {c sl : Nat} {u : hp} {h : hg} {Q : qg} {x y : Int32}, decode M.2.1 pc = .ok (.isub, 1) → (X M (pc + 1) L (.int (x - y) :: S) c sl u h Q) → X M pc L (.int y :: .int x :: S) c sl u h Q
def g_imul : Prop := ∀ {M : mt} {pc : Nat} {L S : List Value} {c sl : Nat} {u : hp} {h : hg} {Q : qg} {x y : Int32}, decode M.2.1 pc = .ok (.imul, 1) → (X M (pc + 1) L (.int (x * y) :: S) c sl u h Q) → X M pc L (.int y :: .int x :: S) c sl u h Q
def g_iand : Prop := ∀ {M : mt} {pc : Nat} {L S : List Value} {c sl : Nat} {u : hp} {h : hg} {Q : qg} {x y : Int32}, decode M.2.1 pc = .ok (.iand, 1) → (X M (pc + 1) L (.int (x &&& y) :: S) c sl u h Q) → X M pc L (.int y :: .int x :: S) c sl u h Q
def g_ior : Prop := ∀ {M : mt} {pc : Nat} {L S : List Value} {c sl : Nat} {u : hp} {h : hg} {Q : qg} {x y : Int32}, decode M.2.1 pc = .ok (.ior, 1) → (X M (pc + 1) L (.int (x ||| y) :: S) c sl u h Q) → X M pc L (.int y :: .int x :: S) c sl u h Q
def g_ishl : Prop := ∀ {M : mt} {pc : Nat} {L S : List Value} {c sl : Nat} {u : hp} {h : hg} {Q : qg} {x y : Int32}, decode M.2.1 pc = .ok (.ishl, 1) → (X M (pc + 1) L (.int (x <<< (y &&& 31)) :: S) c sl u h Q) → X M pc L (.int y :: .int x :: S) c sl u h Q
def g_ishr : Prop := ∀ {M : mt} {pc : Nat} {L S : List Value} {c sl : Nat} {u : hp} {h : hg} {Q : qg} {x y : Int32}, decode M.2.1 pc = .ok (.ishr, 1) → (X M (pc + 1) L (.int (x >>> (y &&& 31)) :: S) c sl u h Q) → X M pc L (.int y :: .int x :: S) c sl u h Q
def g_idiv : Prop := ∀ {M : mt} {pc : Nat} {L S : List Value} {c sl : Nat} {u : hp} {h : hg} {Q : qg} {x y : Int32}, ¬ y = 0 → decode M.2.1 pc = .ok (.idiv, 1) → (X M (pc + 1) L (.int (x / y) :: S) c sl u h Q) → X M pc L (.int y :: .int x :: S) c sl u h Q
def g_irem : Prop := ∀ {M : mt} {pc : Nat} {L S : List Value} {c sl : Nat} {u : hp} {h : hg} {Q : qg} {x y : Int32}, ¬ y = 0 → decode M.2.1 pc = .ok (.irem, 1) → (X M (pc + 1) L (.int (x - x / y * y) :: S) c sl u h Q) → X M pc L (.int y :: .int x :: S) c sl u h Q
def g_iushr : Prop := ∀ {M : mt} {pc : Nat} {L S : List Value} {c sl : Nat} {u : hp} {h : hg} {Q : qg} {x y v : Int32}, (x.toUInt32 >>> (y.toUInt32 &&& Int32.toUInt32 31)).toInt32 = v → decode M.2.1 pc = .ok (.iushr, 1) → (X M (pc + 1) L (.int v :: S) c sl u h Q) → X M pc L (.int y :: .int x :: S) c sl u h Q
def g_i2b : Prop := ∀ {M : mt} {pc : Nat} {L S : List Value} {c sl : Nat} {u : hp} {h : hg} {Q : qg} {x v : Int32}, x.toInt8.toInt32 = v → decode M.2.1 pc = .ok (.i2b, 1) → (X M (pc + 1) L (.int v :: S) c sl u h Q) → X M pc L (.int x :: S) c sl u h Q
def g_i2c : Prop := ∀ {M : mt} {pc : Nat} {L S : List Value} {c sl : Nat} {u : hp} {h : hg} {Q : qg} {x v : Int32}, (x.toUInt32 % 65536).toInt32 = v → decode M.2.1 pc = .ok (.i2c, 1) → (X M (pc + 1) L (.int v :: S) c sl u h Q) → X M pc L (.int x :: S) c sl u h Q
def g_ladd : Prop := ∀ {M : mt} {pc : Nat} {L S : List Value} {c sl : Nat} {u : hp} {h : hg} {Q : qg} {x y : Int64}, decode M.2.1 pc = .ok (.ladd, 1) → (X M (pc + 1) L (.long (x + y) :: S) c sl u h Q) → X M pc L (.long y :: .long x :: S) c sl u h Q
def g_lmul : Prop := ∀ {M : mt} {pc : Nat} {L S : List Value} {c sl : Nat} {u : hp} {h : hg} {Q : qg} {x y : Int64}, decode M.2.1 pc = .ok (.lmul, 1) → (X M (pc + 1) L (.long (x * y) :: S) c sl u h Q) → X M pc L (.long y :: .long x :: S) c sl u h Q
def g_i2l : Prop := ∀ {M : mt} {pc : Nat} {L S : List Value} {c sl : Nat} {u : hp} {h : hg} {Q : qg} {x : Int32} {v : Int64}, x.toInt64 = v → decode M.2.1 pc = .ok (.i2l, 1) → (X M (pc + 1) L (.long v :: S) c sl u h Q) → X M pc L (.int x :: S) c sl u h Q
def g_lcmp : Prop := ∀ {M : mt} {pc : Nat} {L S : List Value} {c sl : Nat} {u : hp} {h : hg} {Q : qg} {x y : Int64}, decode M.2.1 pc = .ok (.lcmp, 1) → (X M (pc + 1) L (.int (lg_cmp x y) :: S) c sl u h Q) → X M pc L (.long y :: .long x :: S) c sl u h Q
def g_dup : Prop := ∀ {M : mt} {pc : Nat} {L S : List Value} {c sl : Nat} {u : hp} {h : hg} {Q : qg} {v : Value}, v.category = 1 → decode M.2.1 pc = .ok (.dup, 1) → (X M (pc + 1) L (v :: v :: S) c sl u h Q) → X M pc L (v :: S) c sl u h Q
def g_dup2 : Prop := ∀ {M : mt} {pc : Nat} {L S : List Value} {c sl : Nat} {u : hp} {h : hg} {Q : qg} {v w : Value}, v.category = 1 → w.category = 1 → decode M.2.1 pc = .ok (.dup2, 1) → (X M (pc + 1) L (v :: w :: v :: w :: S) c sl u h Q) → X M pc L (v :: w :: S) c sl u h Q
def g_dup_x1 : Prop := ∀ {M : mt} {pc : Nat} {L S : List Value} {c sl : Nat} {u : hp} {h : hg} {Q : qg} {v w : Value}, v.category = 1 → w.category = 1 → decode M.2.1 pc = .ok (.dup_x1, 1) → (X M (pc + 1) L (v :: w :: v :: S) c sl u h Q) → X M pc L (v :: w :: S) c sl u h Q
def g_pop : Prop := ∀ {M : mt} {pc : Nat} {L S : List Value} {c sl : Nat} {u : hp} {h : hg} {Q : qg} {v : Value}, v.category = 1 → decode M.2.1 pc = .ok (.pop, 1) → (X M (pc + 1) L (S) c sl u h Q) → X M pc L (v :: S) c sl u h Q
def g_getf : Prop := ∀ {M : mt} {pc : Nat} {L S : List Value} {c sl : Nat} {u : hp} {h : hg} {Q : qg} {ci ix k : Nat} {C : String} {T : u_T} {N : Nat} {ty : Nat → FieldType} {a : Nat} {fs : List Value} {v : Value}, ckC ci C T N ty → k < N → Cond.fieldLink M.1.cls ix (T k).1 (T k).2.1 (T k).2.2.1 ∈ gT → h a = some (.inr (ci, fs)) → fs[k]? = some v → decode M.2.1 pc = .ok (.getfield ix, 3) → (X M (pc + 3) L (v :: S) c sl u h Q) → X M pc L (.ref a :: S) c sl u h Q
def g_iald : Prop := ∀ {M : mt} {pc : Nat} {L S : List Value} {c sl : Nat} {u : hp} {h : hg} {Q : qg} {a n : Nat} {f : Nat → Int32} {i : Int32}, h a = some (.inl (0, n, .inl f)) → vp_in i n → decode M.2.1 pc = .ok (.iaload, 1) → (X M (pc + 1) L (.int (f i.toNatClampNeg) :: S) c sl u h Q) → X M pc L (.int i :: .ref a :: S) c sl u h Q
def g_bald : Prop := ∀ {M : mt} {pc : Nat} {L S : List Value} {c sl : Nat} {u : hp} {h : hg} {Q : qg} {a n : Nat} {f : Nat → Int32} {i : Int32}, h a = some (.inl (1, n, .inl f)) → vp_in i n → decode M.2.1 pc = .ok (.baload, 1) → (X M (pc + 1) L (.int (f i.toNatClampNeg) :: S) c sl u h Q) → X M pc L (.int i :: .ref a :: S) c sl u h Q
def g_zald : Prop := ∀ {M : mt} {pc : Nat} {L S : List Value} {c sl : Nat} {u : hp} {h : hg} {Q : qg} {a n : Nat} {f : Nat → Int32} {i : Int32}, h a = some (.inl (2, n, .inl f)) → vp_in i n → decode M.2.1 pc = .ok (.baload, 1) → (X M (pc + 1) L (.int (f i.toNatClampNeg) :: S) c sl u h Q) → X M pc L (.int i :: .ref a :: S) c sl u h Q
def g_aald : Prop := ∀ {M : mt} {pc : Nat} {L S : List Value} {c sl : Nat} {u : hp} {h : hg} {Q : qg} {a n t : Nat} {f : Nat → Option Nat} {i : Int32} {v : Value}, h a = some (.inl (t, n, .inr (.inr (.inr (.inr f))))) → t = 4 ∨ t = 6 ∨ t = 7 ∨ t = 8 ∨ t = 9 → vp_in i n → va_rf (f i.toNatClampNeg) = v → decode M.2.1 pc = .ok (.aaload, 1) → (X M (pc + 1) L (v :: S) c sl u h Q) → X M pc L (.int i :: .ref a :: S) c sl u h Q
def g_alen : Prop := ∀ {M : mt} {pc : Nat} {L S : List Value} {c sl : Nat} {u : hp} {h : hg} {Q : qg} {a n t : Nat} {x : _} {v : Int32}, h a = some (.inl (t, n, x)) → t < 10 → Int32.ofNat n = v → decode M.2.1 pc = .ok (.arraylength, 1) → (X M (pc + 1) L (.int v :: S) c sl u h Q) → X M pc L (.ref a :: S) c sl u h Q
def g_ldcS : Prop := ∀ {M : mt} {pc : Nat} {L S : List Value} {c sl : Nat} {u : hp} {h : hg} {Q : qg} {ix j : Nat} {tx : String}, (M.1.cls, ix, j, tx) ∈ strG → decode M.2.1 pc = .ok (.ldc ix, 2) → (X M (pc + 2) L (.ref (ad (2000 + j)) :: S) c sl u h Q) → X M pc L (S) c sl u h Q
def g_slen : Prop := ∀ {M : mt} {pc : Nat} {L S : List Value} {c sl : Nat} {u : hp} {h : hg} {Q : qg} {v : Int32}, Int32.ofNat sc.1 = v → decode M.2.1 pc = .ok (.arraylength, 1) → (X M (pc + 1) L (.int v :: S) c sl u h Q) → X M pc L (.ref (ad 3000) :: S) c sl u h Q
def g_sld : Prop := ∀ {M : mt} {pc : Nat} {L S : List Value} {c sl : Nat} {u : hp} {h : hg} {Q : qg} {i : Int32}, vp_in i sc.1 → decode M.2.1 pc = .ok (.iaload, 1) → (X M (pc + 1) L (.int (sc.2 i.toNatClampNeg) :: S) c sl u h Q) → X M pc L (.int i :: .ref (ad 3000) :: S) c sl u h Q
def g_csn : Prop := ∀ {M : mt} {pc : Nat} {L S : List Value} {c sl : Nat} {u : hp} {h : hg} {Q : qg} {ix : Nat}, Cond.fieldLink M.1.cls ix "java/lang/String" "COMPACT_STRINGS" "Z" ∈ gT → decode M.2.1 pc = .ok (.getstatic ix, 3) → (X M (pc + 3) L (.int 1 :: S) c sl u h Q) → X M pc L (S) c sl u h Q
def g_istore_n : Prop := ∀ {M : mt} {pc : Nat} {L S : List Value} {c sl : Nat} {u : hp} {h : hg} {Q : qg} {k : Fin 4} {i : Nat} {x : Int32}, (k : Nat) = i → i < M.2.2.1 → c1 L i = true → decode M.2.1 pc = .ok (.istore_n k, 1) → (X M (pc + 1) (L.set i (.int x)) (S) c sl u h Q) → X M pc L (.int x :: S) c sl u h Q
def g_istore : Prop := ∀ {M : mt} {pc : Nat} {L S : List Value} {c sl : Nat} {u : hp} {h : hg} {Q : qg} {i : Nat} {x : Int32}, i < M.2.2.1 → c1 L i = true → decode M.2.1 pc = .ok (.istore i, 2) → (X M (pc + 2) (L.set i (.int x)) (S) c sl u h Q) → X M pc L (.int x :: S) c sl u h Q
def g_astore_n : Prop := ∀ {M : mt} {pc : Nat} {L S : List Value} {c sl : Nat} {u : hp} {h : hg} {Q : qg} {k : Fin 4} {i : Nat} {x : Nat}, (k : Nat) = i → i < M.2.2.1 → c1 L i = true → decode M.2.1 pc = .ok (.astore_n k, 1) → (X M (pc + 1) (L.set i (.ref x)) (S) c sl u h Q) → X M pc L (.ref x :: S) c sl u h Q
def g_astore : Prop := ∀ {M : mt} {pc : Nat} {L S : List Value} {c sl : Nat} {u : hp} {h : hg} {Q : qg} {i : Nat} {x : Nat}, i < M.2.2.1 → c1 L i = true → decode M.2.1 pc = .ok (.astore i, 2) → (X M (pc + 2) (L.set i (.ref x)) (S) c sl u h Q) → X M pc L (.ref x :: S) c sl u h Q
def g_astore_nN : Prop := ∀ {M : mt} {pc : Nat} {L S : List Value} {c sl : Nat} {u : hp} {h : hg} {Q : qg} {k : Fin 4} {i : Nat} , (k : Nat) = i → i < M.2.2.1 → c1 L i = true → decode M.2.1 pc = .ok (.astore_n k, 1) → (X M (pc + 1) (L.set i (.null)) (S) c sl u h Q) → X M pc L (.null :: S) c sl u h Q
def g_astoreN : Prop := ∀ {M : mt} {pc : Nat} {L S : List Value} {c sl : Nat} {u : hp} {h : hg} {Q : qg} {i : Nat} , i < M.2.2.1 → c1 L i = true → decode M.2.1 pc = .ok (.astore i, 2) → (X M (pc + 2) (L.set i (.null)) (S) c sl u h Q) → X M pc L (.null :: S) c sl u h Q
def g_lstore_n : Prop := ∀ {M : mt} {pc : Nat} {L S : List Value} {c sl : Nat} {u : hp} {h : hg} {Q : qg} {k : Fin 4} {i : Nat} {x : Int64}, (k : Nat) = i → i + 1 < M.2.2.1 → c1 L i = true → decode M.2.1 pc = .ok (.lstore_n k, 1) → (X M (pc + 1) ((L.set i (.long x)).set (i + 1) uk) (S) c sl u h Q) → X M pc L (.long x :: S) c sl u h Q
def g_lstore : Prop := ∀ {M : mt} {pc : Nat} {L S : List Value} {c sl : Nat} {u : hp} {h : hg} {Q : qg} {i : Nat} {x : Int64}, i + 1 < M.2.2.1 → c1 L i = true → decode M.2.1 pc = .ok (.lstore i, 2) → (X M (pc + 2) ((L.set i (.long x)).set (i + 1) uk) (S) c sl u h Q) → X M pc L (.long x :: S) c sl u h Q
def g_putf : Prop := ∀ {M : mt} {pc : Nat} {L S : List Value} {c sl : Nat} {u : hp} {h : hg} {Q : qg} {ci ix k : Nat} {C : String} {T : u_T} {N : Nat} {ty : Nat → FieldType} {a : Nat} {fs : List Value} {v : Value}, ckC ci C T N ty → k < N → Cond.fieldLink M.1.cls ix (T k).1 (T k).2.1 (T k).2.2.1 ∈ gT → h a = some (.inr (ci, fs)) → (T k).2.2.2 = false → narrow (ty k) v = v ∧ fits (ty k) v = true → k < fs.length → decode M.2.1 pc = .ok (.putfield ix, 3) → (X M (pc + 3) L (S) c sl u (up h a (.inr (ci, fs.set k v))) Q) → X M pc L (v :: .ref a :: S) c sl u h Q
def g_putF : Prop := ∀ {M : mt} {pc : Nat} {L S : List Value} {c sl : Nat} {u : hp} {h : hg} {Q : qg} {ci ix k : Nat} {C : String} {T : u_T} {N : Nat} {ty : Nat → FieldType} {a : Nat} {fs : List Value} {v : Value}, ckC ci C T N ty → k < N → Cond.fieldLink M.1.cls ix (T k).1 (T k).2.1 (T k).2.2.1 ∈ gT → h a = some (.inr (ci, fs)) → (T k).2.2.2 = true → M.1.name = "<init>" → (T k).1 = M.1.cls → narrow (ty k) v = v ∧ fits (ty k) v = true → k < fs.length → decode M.2.1 pc = .ok (.putfield ix, 3) → (X M (pc + 3) L (S) c sl u (up h a (.inr (ci, fs.set k v))) Q) → X M pc L (v :: .ref a :: S) c sl u h Q
def g_iast : Prop := ∀ {M : mt} {pc : Nat} {L S : List Value} {c sl : Nat} {u : hp} {h : hg} {Q : qg} {a n : Nat} {f : Nat → Int32} {i x : Int32}, h a = some (.inl (0, n, .inl f)) → vp_in i n → decode M.2.1 pc = .ok (.iastore, 1) → (X M (pc + 1) L (S) c sl u (up h a (.inl (0, n, .inl (upd f i.toNatClampNeg (x))))) Q) → X M pc L (.int x :: .int i :: .ref a :: S) c sl u h Q
def g_bast : Prop := ∀ {M : mt} {pc : Nat} {L S : List Value} {c sl : Nat} {u : hp} {h : hg} {Q : qg} {a n : Nat} {f : Nat → Int32} {i x : Int32}, h a = some (.inl (1, n, .inl f)) → vp_in i n → decode M.2.1 pc = .ok (.bastore, 1) → (X M (pc + 1) L (S) c sl u (up h a (.inl (1, n, .inl (upd f i.toNatClampNeg (vp_nar .byte x))))) Q) → X M pc L (.int x :: .int i :: .ref a :: S) c sl u h Q
def g_zast : Prop := ∀ {M : mt} {pc : Nat} {L S : List Value} {c sl : Nat} {u : hp} {h : hg} {Q : qg} {a n : Nat} {f : Nat → Int32} {i x : Int32}, h a = some (.inl (2, n, .inl f)) → vp_in i n → decode M.2.1 pc = .ok (.bastore, 1) → (X M (pc + 1) L (S) c sl u (up h a (.inl (2, n, .inl (upd f i.toNatClampNeg (vp_nar .boolean x))))) Q) → X M pc L (.int x :: .int i :: .ref a :: S) c sl u h Q
def g_aast : Prop := ∀ {M : mt} {pc : Nat} {L S : List Value} {c sl : Nat} {u : hp} {h : hg} {Q : qg} {a n t q ci N : Nat} {C : String} {T : u_T} {vs : List Value} {f : Nat → Option Nat} {i : Int32}, h a = some (.inl (t, n, .inr (.inr (.inr (.inr f))))) → h q = some (.inr (ci, vs)) → vwCl[ci]? = some (C, T, N) → tagO t C → vp_in i n → decode M.2.1 pc = .ok (.aastore, 1) → (X M (pc + 1) L (S) c sl u (up h a (.inl (t, n, .inr (.inr (.inr (.inr (va_up f i.toNatClampNeg (some q)))))))) Q) → X M pc L (.ref q :: .int i :: .ref a :: S) c sl u h Q
def g_aastN : Prop := ∀ {M : mt} {pc : Nat} {L S : List Value} {c sl : Nat} {u : hp} {h : hg} {Q : qg} {a n t : Nat} {C : String} {f : Nat → Option Nat} {i : Int32}, h a = some (.inl (t, n, .inr (.inr (.inr (.inr f))))) → tagO t C → vp_in i n → decode M.2.1 pc = .ok (.aastore, 1) → (X M (pc + 1) L (S) c sl u (up h a (.inl (t, n, .inr (.inr (.inr (.inr (va_up f i.toNatClampNeg none))))))) Q) → X M pc L (.null :: .int i :: .ref a :: S) c sl u h Q
def g_aastA : Prop := ∀ {M : mt} {pc : Nat} {L S : List Value} {c sl : Nat} {u : hp} {h : hg} {Q : qg} {a n n1 q : Nat} {f f1 : Nat → Option Nat} {i : Int32}, h a = some (.inl (9, n, .inr (.inr (.inr (.inr f))))) → h q = some (.inl (8, n1, .inr (.inr (.inr (.inr f1))))) → vp_in i n → decode M.2.1 pc = .ok (.aastore, 1) → (X M (pc + 1) L (S) c sl u (up h a (.inl (9, n, .inr (.inr (.inr (.inr (va_up f i.toNatClampNeg (some q)))))))) Q) → X M pc L (.ref q :: .int i :: .ref a :: S) c sl u h Q
def g_new : Prop := ∀ {M : mt} {pc : Nat} {L S : List Value} {c sl : Nat} {u : hp} {h : hg} {Q : qg} {ci ix N : Nat} {C : String} {T : u_T} {ty : Nat → FieldType} {fs : List Value}, ckC ci C T N ty → Cond.classLink M.1.cls ix C ∈ gT → Cond.instantiable C N ∈ gT → Cond.initialized C ∈ gT → (∀ j, j < N → defaultValue (ty j) = vp_V fs j) → 1 ≤ c → N ≤ sl → decode M.2.1 pc = .ok (.new ix, 3) → (∀ a : Nat, h a = none → X M (pc + 3) L (.ref a :: S) (c - 1) (sl - N) u (up h a (.inr (ci, fs))) Q) → X M pc L (S) c sl u h Q
def g_newa : Prop := ∀ {M : mt} {pc : Nat} {L S : List Value} {c sl : Nat} {u : hp} {h : hg} {Q : qg} {t : Nat} {ty : ArrayType} {N : Nat} {v : Int32}, tagN t ty → ¬ v < 0 → v.toNatClampNeg = N → N < 100000 → 1 ≤ c → N ≤ sl → decode M.2.1 pc = .ok (.newarray ty, 2) → (∀ a : Nat, h a = none → X M (pc + 2) L (.ref a :: S) (c - 1) (sl - N) u (up h a (.inl (t, N, .inl (fun _ => 0)))) Q) → X M pc L (.int v :: S) c sl u h Q
def g_anew : Prop := ∀ {M : mt} {pc : Nat} {L S : List Value} {c sl : Nat} {u : hp} {h : hg} {Q : qg} {t ix N : Nat} {C : String} {v : Int32}, tagO t C ∧ ¬ t = 3 → Cond.classLink M.1.cls ix C ∈ gT → ¬ v < 0 → v.toNatClampNeg = N → N < 100000 → 1 ≤ c → N ≤ sl → decode M.2.1 pc = .ok (.anewarray ix, 3) → (∀ a : Nat, h a = none → X M (pc + 3) L (.ref a :: S) (c - 1) (sl - N) u (up h a (.inl (t, N, .inr (.inr (.inr (.inr (fun _ => none))))))) Q) → X M pc L (.int v :: S) c sl u h Q
def g_anewA : Prop := ∀ {M : mt} {pc : Nat} {L S : List Value} {c sl : Nat} {u : hp} {h : hg} {Q : qg} {ix N : Nat} {v : Int32}, Cond.classLink M.1.cls ix "[Ljava/lang/String;" ∈ gT → ¬ v < 0 → v.toNatClampNeg = N → N < 100000 → 1 ≤ c → N ≤ sl → decode M.2.1 pc = .ok (.anewarray ix, 3) → (∀ a : Nat, h a = none → X M (pc + 3) L (.ref a :: S) (c - 1) (sl - N) u (up h a (.inl (9, N, .inr (.inr (.inr (.inr (fun _ => none))))))) Q) → X M pc L (.int v :: S) c sl u h Q
def g_l_max : Prop := ∀ {M : mt} {pc : Nat} {L S : List Value} {c sl : Nat} {u : hp} {h : hg} {Q : qg} {ix : Nat} {x y : Int32}, Cond.methodLink M.1.cls ix Lib.Math.max.name ∈ gT → 1 ≤ M.2.2.2.2.1 ∧ 30 ≤ M.2.2.2.2.2 → catS S → decode M.2.1 pc = .ok (.invokestatic ix, 3) → (X M (pc + 3) L (.int (if x < y then y else x) :: S) c sl u h Q) → X M pc L (.int y :: .int x :: S) c sl u h Q
def g_l_min : Prop := ∀ {M : mt} {pc : Nat} {L S : List Value} {c sl : Nat} {u : hp} {h : hg} {Q : qg} {ix : Nat} {x y : Int32}, Cond.methodLink M.1.cls ix Lib.Math.min.name ∈ gT → 1 ≤ M.2.2.2.2.1 ∧ 30 ≤ M.2.2.2.2.2 → catS S → decode M.2.1 pc = .ok (.invokestatic ix, 3) → (X M (pc + 3) L (.int (if y < x then y else x) :: S) c sl u h Q) → X M pc L (.int y :: .int x :: S) c sl u h Q
def g_l_abs : Prop := ∀ {M : mt} {pc : Nat} {L S : List Value} {c sl : Nat} {u : hp} {h : hg} {Q : qg} {ix : Nat} {x : Int32}, Cond.methodLink M.1.cls ix Lib.Math.abs.name ∈ gT → 1 ≤ M.2.2.2.2.1 ∧ 30 ≤ M.2.2.2.2.2 → catS S → decode M.2.1 pc = .ok (.invokestatic ix, 3) → (X M (pc + 3) L (.int (if 0 ≤ x then x else 0 - x) :: S) c sl u h Q) → X M pc L (.int x :: S) c sl u h Q
def g_l_cpb : Prop := ∀ {M : mt} {pc : Nat} {L S : List Value} {c sl : Nat} {u : hp} {h : hg} {Q : qg} {ix a q n0 n1 : Nat} {f g : Nat → Int32} {sp dp n : Int32}, Cond.methodLink M.1.cls ix arraycopyName ∈ gT → 1 ≤ M.2.2.2.2.1 ∧ 30 ≤ M.2.2.2.2.2 → catS S → h a = some (.inl (1, n0, .inl f)) → h q = some (.inl (1, n1, .inl g)) → ¬ sp < 0 → ¬ dp < 0 → ¬ n < 0 → sp.toNatClampNeg + n.toNatClampNeg ≤ n0 → dp.toNatClampNeg + n.toNatClampNeg ≤ n1 → (∀ i, i < n.toNatClampNeg → fits .byte (.int (f (sp.toNatClampNeg + i))) = true) → decode M.2.1 pc = .ok (.invokestatic ix, 3) → (X M (pc + 3) L (S) c sl u (up h q (.inl (1, n1, .inl (va_cpy f g sp.toNatClampNeg dp.toNatClampNeg n.toNatClampNeg)))) Q) → X M pc L (.int n :: .int dp :: .ref q :: .int sp :: .ref a :: S) c sl u h Q
def g_tgv : Prop := ∀ {M : mt} {pc : Nat} {L S : List Value} {c sl : Nat} {u : hp} {h : hg} {Q : qg} {ix j : Nat}, Cond.fieldLink M.1.cls ix "java/lang/String" "value" "[B" ∈ gT → j < 24 → decode M.2.1 pc = .ok (.getfield ix, 3) → (X M (pc + 3) L (.ref (ad (4000 + j)) :: S) c sl u h Q) → X M pc L (.ref (ad (2000 + j)) :: S) c sl u h Q
def g_tal : Prop := ∀ {M : mt} {pc : Nat} {L S : List Value} {c sl : Nat} {u : hp} {h : hg} {Q : qg} {j : Nat} {v : Int32}, j < 24 → v = I (txtN.getD j 0 : Nat) → decode M.2.1 pc = .ok (.arraylength, 1) → (X M (pc + 1) L (.int v :: S) c sl u h Q) → X M pc L (.ref (ad (4000 + j)) :: S) c sl u h Q
def g_cpt : Prop := ∀ {M : mt} {pc : Nat} {L S : List Value} {c sl : Nat} {u : hp} {h : hg} {Q : qg} {ix j q n1 : Nat} {g : Nat → Int32} {sp dp n : Int32}, Cond.methodLink M.1.cls ix arraycopyName ∈ gT → 1 ≤ M.2.2.2.2.1 ∧ 30 ≤ M.2.2.2.2.2 → catS S → j < 24 → h q = some (.inl (1, n1, .inl g)) → ¬ sp < 0 → ¬ dp < 0 → ¬ n < 0 → sp.toNatClampNeg + n.toNatClampNeg ≤ txtN.getD j 0 → dp.toNatClampNeg + n.toNatClampNeg ≤ n1 → (∀ i, i < n.toNatClampNeg → fits .byte (.int ((txtB.getD j []).getD (sp.toNatClampNeg + i) 0)) = true) → decode M.2.1 pc = .ok (.invokestatic ix, 3) → (X M (pc + 3) L (S) c sl u (up h q (.inl (1, n1, .inl (va_cpy (fun i => (txtB.getD j []).getD i 0) g sp.toNatClampNeg dp.toNatClampNeg n.toNatClampNeg)))) Q) → X M pc L (.int n :: .int dp :: .ref q :: .int sp :: .ref (ad (4000 + j)) :: S) c sl u h Q
def g_obj : Prop := ∀ {M : mt} {pc : Nat} {L S : List Value} {c sl : Nat} {u : hp} {h : hg} {Q : qg} {ix a : Nat}, Cond.methodLink M.1.cls ix Lib.objectInit ∈ gT → 1 ≤ M.2.2.2.2.1 ∧ 30 ≤ M.2.2.2.2.2 → catS S → decode M.2.1 pc = .ok (.invokespecial ix, 3) → (X M (pc + 3) L (S) c sl u h Q) → X M pc L (.ref a :: S) c sl u h Q
def g_if_eq : Prop := ∀ {M : mt} {pc : Nat} {L S : List Value} {c sl : Nat} {u : hp} {h : hg} {Q : qg} {x : Int32} {off : Int} {tgt : Nat}, decode M.2.1 pc = .ok (.ifCond .eq off, 3) → (pc : Int) + off = (tgt : Int) → (x = 0 → X M tgt L S c sl u h Q) → (¬ (x = 0) → X M (pc + 3) L S c sl u h Q) → X M pc L (.int x :: S) c sl u h Q
def g_if_ne : Prop := ∀ {M : mt} {pc : Nat} {L S : List Value} {c sl : Nat} {u : hp} {h : hg} {Q : qg} {x : Int32} {off : Int} {tgt : Nat}, decode M.2.1 pc = .ok (.ifCond .ne off, 3) → (pc : Int) + off = (tgt : Int) → (x ≠ 0 → X M tgt L S c sl u h Q) → (¬ (x ≠ 0) → X M (pc + 3) L S c sl u h Q) → X M pc L (.int x :: S) c sl u h Q
def g_if_lt : Prop := ∀ {M : mt} {pc : Nat} {L S : List Value} {c sl : Nat} {u : hp} {h : hg} {Q : qg} {x : Int32} {off : Int} {tgt : Nat}, decode M.2.1 pc = .ok (.ifCond .lt off, 3) → (pc : Int) + off = (tgt : Int) → (x < 0 → X M tgt L S c sl u h Q) → (¬ (x < 0) → X M (pc + 3) L S c sl u h Q) → X M pc L (.int x :: S) c sl u h Q
def g_if_ge : Prop := ∀ {M : mt} {pc : Nat} {L S : List Value} {c sl : Nat} {u : hp} {h : hg} {Q : qg} {x : Int32} {off : Int} {tgt : Nat}, decode M.2.1 pc = .ok (.ifCond .ge off, 3) → (pc : Int) + off = (tgt : Int) → (0 ≤ x → X M tgt L S c sl u h Q) → (¬ (0 ≤ x) → X M (pc + 3) L S c sl u h Q) → X M pc L (.int x :: S) c sl u h Q
def g_if_gt : Prop := ∀ {M : mt} {pc : Nat} {L S : List Value} {c sl : Nat} {u : hp} {h : hg} {Q : qg} {x : Int32} {off : Int} {tgt : Nat}, decode M.2.1 pc = .ok (.ifCond .gt off, 3) → (pc : Int) + off = (tgt : Int) → (0 < x → X M tgt L S c sl u h Q) → (¬ (0 < x) → X M (pc + 3) L S c sl u h Q) → X M pc L (.int x :: S) c sl u h Q
def g_if_le : Prop := ∀ {M : mt} {pc : Nat} {L S : List Value} {c sl : Nat} {u : hp} {h : hg} {Q : qg} {x : Int32} {off : Int} {tgt : Nat}, decode M.2.1 pc = .ok (.ifCond .le off, 3) → (pc : Int) + off = (tgt : Int) → (x ≤ 0 → X M tgt L S c sl u h Q) → (¬ (x ≤ 0) → X M (pc + 3) L S c sl u h Q) → X M pc L (.int x :: S) c sl u h Q
def g_icmp_eq : Prop := ∀ {M : mt} {pc : Nat} {L S : List Value} {c sl : Nat} {u : hp} {h : hg} {Q : qg} {x y : Int32} {off : Int} {tgt : Nat}, decode M.2.1 pc = .ok (.if_icmp .eq off, 3) → (pc : Int) + off = (tgt : Int) → (x = y → X M tgt L S c sl u h Q) → (¬ (x = y) → X M (pc + 3) L S c sl u h Q) → X M pc L (.int y :: .int x :: S) c sl u h Q
def g_icmp_ne : Prop := ∀ {M : mt} {pc : Nat} {L S : List Value} {c sl : Nat} {u : hp} {h : hg} {Q : qg} {x y : Int32} {off : Int} {tgt : Nat}, decode M.2.1 pc = .ok (.if_icmp .ne off, 3) → (pc : Int) + off = (tgt : Int) → (x ≠ y → X M tgt L S c sl u h Q) → (¬ (x ≠ y) → X M (pc + 3) L S c sl u h Q) → X M pc L (.int y :: .int x :: S) c sl u h Q
def g_icmp_lt : Prop := ∀ {M : mt} {pc : Nat} {L S : List Value} {c sl : Nat} {u : hp} {h : hg} {Q : qg} {x y : Int32} {off : Int} {tgt : Nat}, decode M.2.1 pc = .ok (.if_icmp .lt off, 3) → (pc : Int) + off = (tgt : Int) → (x < y → X M tgt L S c sl u h Q) → (¬ (x < y) → X M (pc + 3) L S c sl u h Q) → X M pc L (.int y :: .int x :: S) c sl u h Q
def g_icmp_ge : Prop := ∀ {M : mt} {pc : Nat} {L S : List Value} {c sl : Nat} {u : hp} {h : hg} {Q : qg} {x y : Int32} {off : Int} {tgt : Nat}, decode M.2.1 pc = .ok (.if_icmp .ge off, 3) → (pc : Int) + off = (tgt : Int) → (y ≤ x → X M tgt L S c sl u h Q) → (¬ (y ≤ x) → X M (pc + 3) L S c sl u h Q) → X M pc L (.int y :: .int x :: S) c sl u h Q
def g_icmp_gt : Prop := ∀ {M : mt} {pc : Nat} {L S : List Value} {c sl : Nat} {u : hp} {h : hg} {Q : qg} {x y : Int32} {off : Int} {tgt : Nat}, decode M.2.1 pc = .ok (.if_icmp .gt off, 3) → (pc : Int) + off = (tgt : Int) → (y < x → X M tgt L S c sl u h Q) → (¬ (y < x) → X M (pc + 3) L S c sl u h Q) → X M pc L (.int y :: .int x :: S) c sl u h Q
def g_icmp_le : Prop := ∀ {M : mt} {pc : Nat} {L S : List Value} {c sl : Nat} {u : hp} {h : hg} {Q : qg} {x y : Int32} {off : Int} {tgt : Nat}, decode M.2.1 pc = .ok (.if_icmp .le off, 3) → (pc : Int) + off = (tgt : Int) → (x ≤ y → X M tgt L S c sl u h Q) → (¬ (x ≤ y) → X M (pc + 3) L S c sl u h Q) → X M pc L (.int y :: .int x :: S) c sl u h Q
def g_goto : Prop := ∀ {M : mt} {pc : Nat} {L S : List Value} {c sl : Nat} {u : hp} {h : hg} {Q : qg} {off : Int} {tgt : Nat}, decode M.2.1 pc = .ok (.goto off, 3) → (pc : Int) + off = (tgt : Int) → X M tgt L S c sl u h Q → X M pc L S c sl u h Q
def g_nonnull : Prop := ∀ {M : mt} {pc : Nat} {L S : List Value} {c sl : Nat} {u : hp} {h : hg} {Q : qg} {x : Nat} {off : Int} {tgt : Nat}, decode M.2.1 pc = .ok (.ifnonnull off, 3) → (pc : Int) + off = (tgt : Int) → X M tgt L S c sl u h Q → X M pc L (.ref x :: S) c sl u h Q
def g_nonnullN : Prop := ∀ {M : mt} {pc : Nat} {L S : List Value} {c sl : Nat} {u : hp} {h : hg} {Q : qg} {off : Int}, decode M.2.1 pc = .ok (.ifnonnull off, 3) → X M (pc + 3) L S c sl u h Q → X M pc L (.null :: S) c sl u h Q
def g_ifnull : Prop := ∀ {M : mt} {pc : Nat} {L S : List Value} {c sl : Nat} {u : hp} {h : hg} {Q : qg} {x : Nat} {off : Int}, decode M.2.1 pc = .ok (.ifnull off, 3) → X M (pc + 3) L S c sl u h Q → X M pc L (.ref x :: S) c sl u h Q
def g_ifnullN : Prop := ∀ {M : mt} {pc : Nat} {L S : List Value} {c sl : Nat} {u : hp} {h : hg} {Q : qg} {off : Int} {tgt : Nat}, decode M.2.1 pc = .ok (.ifnull off, 3) → (pc : Int) + off = (tgt : Int) → X M tgt L S c sl u h Q → X M pc L (.null :: S) c sl u h Q
def g_tabI : Prop := ∀ {M : mt} {pc : Nat} {L S : List Value} {c sl : Nat} {u : hp} {h : hg} {Q : qg} {dflt lo hi : Int} {offs : Array Int} {len : Nat} {x : Int32} {off : Int} {tgt : Nat}, decode M.2.1 pc = .ok (.tableswitch dflt lo hi offs, len) → ¬ x.toInt < lo → ¬ hi < x.toInt → offs[(x.toInt - lo).toNat]? = some off → (pc : Int) + off = (tgt : Int) → X M tgt L S c sl u h Q → X M pc L (.int x :: S) c sl u h Q
def g_tabO : Prop := ∀ {M : mt} {pc : Nat} {L S : List Value} {c sl : Nat} {u : hp} {h : hg} {Q : qg} {dflt lo hi : Int} {offs : Array Int} {len : Nat} {x : Int32} {tgt : Nat}, decode M.2.1 pc = .ok (.tableswitch dflt lo hi offs, len) → (x.toInt < lo ∨ hi < x.toInt) → (pc : Int) + dflt = (tgt : Int) → X M tgt L S c sl u h Q → X M pc L (.int x :: S) c sl u h Q
def g_iinc : Prop := ∀ {M : mt} {pc : Nat} {L S : List Value} {c sl : Nat} {u : hp} {h : hg} {Q : qg} {i : Nat} {n : Int} {x v : Int32}, decode M.2.1 pc = .ok (.iinc i n, 3) → L[i]? = some (.int x) → x + Int32.ofInt n = v → i < M.2.2.1 → c1 L i = true → X M (pc + 3) (L.set i (.int v)) S c sl u h Q → X M pc L S c sl u h Q
def g_forg : Prop := ∀ {M : mt} {pc : Nat} {L S : List Value} {c sl : Nat} {u : hp} {h : hg} {Q : qg} {i : Nat}, X M pc (L.set i uk) S c sl u h Q → X M pc L S c sl u h Q
def g_less : Prop := ∀ {M : mt} {pc : Nat} {L S : List Value} {c sl : Nat} {u : hp} {h : hg} {Q : qg} {c2 s2 : Nat}, c2 ≤ c → s2 ≤ sl → X M pc L S c2 s2 u h Q → X M pc L S c sl u h Q
def g_nret : Prop := ∀ {M : mt} {pc : Nat} {L : List Value} {c sl : Nat} {u : hp} {h : hg} {Q : qg} {x : Int32} {ty : FieldType}, decode M.2.1 pc = .ok (.ireturn, 1) → M.2.2.2.1 = some ty → narrow ty (.int x) = .int x → Q (.int x) u h → X M pc L [.int x] c sl u h Q
def g_aret : Prop := ∀ {M : mt} {pc : Nat} {L : List Value} {c sl : Nat} {u : hp} {h : hg} {Q : qg} {v : Value} {ty : FieldType}, decode M.2.1 pc = .ok (.areturn, 1) → M.2.2.2.1 = some ty → ((∃ n, ty = .object n) ∨ ∃ t, ty = .array t) → (v = .null ∨ ∃ a, v = .ref a) → Q v u h → X M pc L [v] c sl u h Q
def g_lret : Prop := ∀ {M : mt} {pc : Nat} {L : List Value} {c sl : Nat} {u : hp} {h : hg} {Q : qg} {x : Int64}, decode M.2.1 pc = .ok (.lreturn, 1) → M.2.2.2.1 = some .long → Q (.long x) u h → X M pc L [.long x] c sl u h Q
def g_vret : Prop := ∀ {M : mt} {pc : Nat} {L : List Value} {c sl : Nat} {u : hp} {h : hg} {Q : qg} , decode M.2.1 pc = .ok (.return_, 1) → M.2.2.2.1 = none → Q .null u h → X M pc L [] c sl u h Q
def g_cv : Prop := ∀ {M : mt} {pc : Nat} {L S : List Value} {c sl : Nat} {u : hp} {h : hg} {Q : qg} {ix n cy sy a ci : Nat} {Y : mt} {As fs : List Value} {T : u_T} {N : Nat} {Q1 : qg}, decode M.2.1 pc = .ok (.invokevirtual ix, 3) → lnV M ix Y n → As.length = n → cat1 As → catS S → h a = some (.inr (ci, fs)) → vwCl[ci]? = some (Y.1.cls, T, N) → Y.2.2.2.1 ≠ none → cy ≤ c → sy ≤ sl → X Y 0 (padG Y.2.2.1 (.ref a :: As)) [] cy sy u h Q1 → (∀ v u1 h1, Q1 v u1 h1 → X M (pc + 3) L (v :: S) (c - cy) (sl - sy) u1 h1 Q) → X M pc L (As.reverse ++ .ref a :: S) c sl u h Q
def g_cvv : Prop := ∀ {M : mt} {pc : Nat} {L S : List Value} {c sl : Nat} {u : hp} {h : hg} {Q : qg} {ix n cy sy a ci : Nat} {Y : mt} {As fs : List Value} {T : u_T} {N : Nat} {Q1 : qg}, decode M.2.1 pc = .ok (.invokevirtual ix, 3) → lnV M ix Y n → As.length = n → cat1 As → catS S → h a = some (.inr (ci, fs)) → vwCl[ci]? = some (Y.1.cls, T, N) → Y.2.2.2.1 = none → cy ≤ c → sy ≤ sl → X Y 0 (padG Y.2.2.1 (.ref a :: As)) [] cy sy u h Q1 → (∀ u1 h1, Q1 .null u1 h1 → X M (pc + 3) L S (c - cy) (sl - sy) u1 h1 Q) → X M pc L (As.reverse ++ .ref a :: S) c sl u h Q
def g_cs : Prop := ∀ {M : mt} {pc : Nat} {L S : List Value} {c sl : Nat} {u : hp} {h : hg} {Q : qg} {ix n cy sy : Nat} {Y : mt} {As : List Value} {Q1 : qg}, decode M.2.1 pc = .ok (.invokestatic ix, 3) → lnS M ix Y n → As.length = n → cat1 As → catS S → Y.2.2.2.1 ≠ none → cy ≤ c → sy ≤ sl → X Y 0 (padG Y.2.2.1 (As)) [] cy sy u h Q1 → (∀ v u1 h1, Q1 v u1 h1 → X M (pc + 3) L (v :: S) (c - cy) (sl - sy) u1 h1 Q) → X M pc L (As.reverse ++ S) c sl u h Q
def g_csv : Prop := ∀ {M : mt} {pc : Nat} {L S : List Value} {c sl : Nat} {u : hp} {h : hg} {Q : qg} {ix n cy sy : Nat} {Y : mt} {As : List Value} {Q1 : qg}, decode M.2.1 pc = .ok (.invokestatic ix, 3) → lnS M ix Y n → As.length = n → cat1 As → catS S → Y.2.2.2.1 = none → cy ≤ c → sy ≤ sl → X Y 0 (padG Y.2.2.1 (As)) [] cy sy u h Q1 → (∀ u1 h1, Q1 .null u1 h1 → X M (pc + 3) L S (c - cy) (sl - sy) u1 h1 Q) → X M pc L (As.reverse ++ S) c sl u h Q
def g_ci : Prop := ∀ {M : mt} {pc : Nat} {L S : List Value} {c sl : Nat} {u : hp} {h : hg} {Q : qg} {ix n cy sy a : Nat} {Y : mt} {As : List Value} {Q1 : qg}, decode M.2.1 pc = .ok (.invokespecial ix, 3) → lnC M ix Y n → As.length = n → cat1 As → catS S → cy ≤ c → sy ≤ sl → X Y 0 (padG Y.2.2.1 (.ref a :: As)) [] cy sy u h Q1 → (∀ u1 h1, Q1 .null u1 h1 → X M (pc + 3) L S (c - cy) (sl - sy) u1 h1 Q) → X M pc L (As.reverse ++ .ref a :: S) c sl u h Q
def g_cn : Prop := ∀ {M : mt} {pc : Nat} {L S : List Value} {c sl : Nat} {u : hp} {h : hg} {Q : qg} {ix n cy sy a : Nat} {Y : mt} {As : List Value} {Q1 : qg}, decode M.2.1 pc = .ok (.invokespecial ix, 3) → lnN M ix Y n → As.length = n → cat1 As → catS S → cy ≤ c → sy ≤ sl → X Y 0 (padG Y.2.2.1 (.ref a :: As)) [] cy sy u h Q1 → (∀ u1 h1, Q1 .null u1 h1 → X M (pc + 3) L S (c - cy) (sl - sy) u1 h1 Q) → X M pc L (As.reverse ++ .ref a :: S) c sl u h Q
def g_mna : Prop := ∀ {M : mt} {pc : Nat} {L S : List Value} {c sl : Nat} {u : hp} {h : hg} {Q : qg} {ix N K : Nat} {v v2 : Int32}, decode M.2.1 pc = .ok (.multianewarray ix 2, 4) → Cond.classLink M.1.cls ix "[[I" ∈ gT → ¬ v < 0 → ¬ v2 < 0 → v.toNatClampNeg = N → v2.toNatClampNeg = K → N < 100000 → K < 100000 → 1 + N ≤ c → N + N * K ≤ sl → (∀ a : Nat, (∀ j, j ≤ N → h (a + j) = none) → X M (pc + 4) L (.ref a :: S) (c - (1 + N)) (sl - (N + N * K)) u (upM h a N K) Q) → X M pc L (.int v2 :: .int v :: S) c sl u h Q
def g_cam : Prop := ∀ {M : mt} {pc : Nat} {L S : List Value} {c sl : Nat} {u : hp} {h : hg} {Q : qg} {ix n : Nat} {Y : mt} {As : List Value} {Q1 : qt}, decode M.2.1 pc = .ok (.invokevirtual ix, 3) → lnV M ix Y n → As.length = n → cat1 As → catS S → (∀ v ∈ As, ∀ a, v ≠ .ref a) → (∃ fs, u 0 = .inr (5, fs)) → Y.1.cls = "KitePainter" → (Y.2.2.2.1 = some .int ∨ Y.2.2.2.1 = some .boolean) → Cl 112 Y (.ref 0 :: As) u Q1 → (∀ r u1, Q1 (.int r) u1 → X M (pc + 3) L (.int r :: S) c sl u1 h Q) → X M pc L (As.reverse ++ .ref (ad 0) :: S) c sl u h Q
def g_cwr : Prop := ∀ {M : mt} {pc : Nat} {L S : List Value} {c sl : Nat} {u : hp} {h : hg} {Q : qg} {ix n : Nat} {Y : mt} {As : List Value} {hh : List (Nat × Nat × Nat × Nat)} {Q1 : Int32 → hp → Prop}, decode M.2.1 pc = .ok (.invokestatic ix, 3) → lnW M ix Y hh n → As.length + 1 = n → catS S → (∀ v ∈ As, ∀ a, v ≠ .ref a) → 1 ≤ c → 6 ≤ sl → WF Y hh (.ref 0 :: As) u Q1 → (∀ r u1, Q1 r u1 → X M (pc + 3) L (.int r :: S) (c - 1) (sl - 6) u1 h Q) → X M pc L (As.reverse ++ .ref (ad 0) :: S) c sl u h Q
def g_cck : Prop := ∀ {M : mt} {pc : Nat} {L S : List Value} {c sl : Nat} {u : hp} {h : hg} {Q : qg} {ix : Nat} {Q1 : Int64 → hp → Prop}, decode M.2.1 pc = .ok (.invokevirtual ix, 3) → lnV M ix M_X5_checksum 0 → catS S → (∃ fs, u 0 = .inr (5, fs)) → KF u Q1 → (∀ r u1, Q1 r u1 → X M (pc + 3) L (.long r :: S) c sl u1 h Q) → X M pc L (.ref (ad 0) :: S) c sl u h Q
def g_tlen : Prop := ∀ {M : mt} {pc : Nat} {L S : List Value} {c sl : Nat} {u : hp} {h : hg} {Q : qg} {ix j : Nat} {v : Int32}, decode M.2.1 pc = .ok (.invokevirtual ix, 3) → lnV M ix J_len 0 → catS S → j < 24 → v = I (txtN.getD j 0 : Nat) → X M (pc + 3) L (.int v :: S) c sl u h Q → X M pc L (.ref (ad (2000 + j)) :: S) c sl u h Q
def g_tchr : Prop := ∀ {M : mt} {pc : Nat} {L S : List Value} {c sl : Nat} {u : hp} {h : hg} {Q : qg} {ix j i : Nat} {x v : Int32}, decode M.2.1 pc = .ok (.invokevirtual ix, 3) → lnV M ix J_chr 1 → catS S → j < 24 → x = I (i : Nat) → i < txtN.getD j 0 → (txtB.getD j []).getD i 0 = v → X M (pc + 3) L (.int v :: S) c sl u h Q → X M pc L (.int x :: .ref (ad (2000 + j)) :: S) c sl u h Q
def g_sci : Prop := ∀ {M : mt} {pc : Nat} {L S : List Value} {c sl : Nat} {u : hp} {h : hg} {Q : qg} {ix : Nat} {x y : Int32}, decode M.2.1 pc = .ok (.invokestatic ix, 3) → lnS M ix J_sci 2 → catS S → ¬ x < 0 → x < y → X M (pc + 3) L S c sl u h Q → X M pc L (.int y :: .int x :: S) c sl u h Q
def g_tcod : Prop := ∀ {M : mt} {pc : Nat} {L S : List Value} {c sl : Nat} {u : hp} {h : hg} {Q : qg} {ix j : Nat}, decode M.2.1 pc = .ok (.invokevirtual ix, 3) → lnV M ix J_coder 0 → catS S → j < 24 → X M (pc + 3) L (.int 0 :: S) c sl u h Q → X M pc L (.ref (ad (2000 + j)) :: S) c sl u h Q
def g_cvL : Prop := ∀ {M : mt} {pc : Nat} {L S : List Value} {c sl : Nat} {u : hp} {h : hg} {Q : qg} {ix n cy sy j : Nat} {Y : mt} {As : List Value} {Q1 : qg}, decode M.2.1 pc = .ok (.invokevirtual ix, 3) → lnV M ix Y n → As.length = n → cat1 As → catS S → j < 24 → Y.1.cls = "java/lang/String" → Y.2.2.2.1 = none → cy ≤ c → sy ≤ sl → X Y 0 (padG Y.2.2.1 (.ref (ad (2000 + j)) :: As)) [] cy sy u h Q1 → (∀ u1 h1, Q1 .null u1 h1 → X M (pc + 3) L S (c - cy) (sl - sy) u1 h1 Q) → X M pc L (As.reverse ++ .ref (ad (2000 + j)) :: S) c sl u h Q
def g_cu : Prop := ∀ {M : mt} {pc : Nat} {L S : List Value} {c sl : Nat} {u : hp} {h : hg} {Q : qg} {ix n cy sy a ci : Nat} {C : String} {Y : mt} {As fs : List Value} {T : u_T} {N : Nat} {Q1 : qg} {x : MethodName}, decode M.2.1 pc = .ok (.invokevirtual ix, 3) → lnU M ix x C Y n → As.length = n → cat1 As → catS S → h a = some (.inr (ci, fs)) → vwCl[ci]? = some (C, T, N) → Y.2.2.2.1 ≠ none → cy ≤ c → sy ≤ sl → X Y 0 (padG Y.2.2.1 (.ref a :: As)) [] cy sy u h Q1 → (∀ v u1 h1, Q1 v u1 h1 → X M (pc + 3) L (v :: S) (c - cy) (sl - sy) u1 h1 Q) → X M pc L (As.reverse ++ .ref a :: S) c sl u h Q
def g_cpv : Prop := ∀ {M : mt} {pc : Nat} {L S : List Value} {c sl : Nat} {u : hp} {h : hg} {Q : qg} {ix n cy sy a ci : Nat} {C : String} {Y : mt} {As fs : List Value} {T : u_T} {N : Nat} {Q1 : qg}, decode M.2.1 pc = .ok (.invokevirtual ix, 3) → lnP M ix C Y n → As.length = n → cat1 As → catS S → h a = some (.inr (ci, fs)) → vwCl[ci]? = some (C, T, N) → Y.2.2.2.1 = none → cy ≤ c → sy ≤ sl → X Y 0 (padG Y.2.2.1 (.ref a :: As)) [] cy sy u h Q1 → (∀ u1 h1, Q1 .null u1 h1 → X M (pc + 3) L S (c - cy) (sl - sy) u1 h1 Q) → X M pc L (As.reverse ++ .ref a :: S) c sl u h Q
def g_csu : Prop := ∀ {M : mt} {pc : Nat} {L S : List Value} {c sl : Nat} {u : hp} {h : hg} {Q : qg} {ix n cy sy a ci : Nat} {C : String} {Y : mt} {As fs : List Value} {T : u_T} {N : Nat} {Q1 : qg}, decode M.2.1 pc = .ok (.invokespecial ix, 3) → lnQ M ix Y n → As.length = n → cat1 As → catS S → h a = some (.inr (ci, fs)) → vwCl[ci]? = some (C, T, N) → Y.2.2.2.1 ≠ none → cy ≤ c → sy ≤ sl → X Y 0 (padG Y.2.2.1 (.ref a :: As)) [] cy sy u h Q1 → (∀ v u1 h1, Q1 v u1 h1 → X M (pc + 3) L (v :: S) (c - cy) (sl - sy) u1 h1 Q) → X M pc L (As.reverse ++ .ref a :: S) c sl u h Q
def ag_cl : Prop := g_iconst X ∧ g_bipush X ∧ g_sipush X ∧ g_ldcI X ∧ g_ldc2 X ∧ g_lconst X ∧ g_null X ∧ g_iload_n X ∧ g_iload X ∧ g_aload_n X ∧ g_aload X ∧ g_lload_n X ∧ g_lload X ∧ g_aload_nN X ∧ g_aloadN X ∧ g_iadd X ∧ g_isub X ∧ g_imul X ∧ g_iand X ∧ g_ior X ∧ g_ishl X ∧ g_ishr X ∧ g_idiv X ∧ g_irem X ∧ g_iushr X ∧ g_i2b X ∧ g_i2c X ∧ g_ladd X ∧ g_lmul X ∧ g_i2l X ∧ g_lcmp X ∧ g_dup X ∧ g_dup2 X ∧ g_dup_x1 X ∧ g_pop X ∧ g_getf X ∧ g_iald X ∧ g_bald X ∧ g_zald X ∧ g_aald X ∧ g_alen X ∧ g_ldcS ad X ∧ g_slen ad sc X ∧ g_sld ad sc X ∧ g_csn X ∧ g_istore_n X ∧ g_istore X ∧ g_astore_n X ∧ g_astore X ∧ g_astore_nN X ∧ g_astoreN X ∧ g_lstore_n X ∧ g_lstore X ∧ g_putf X ∧ g_putF X ∧ g_iast X ∧ g_bast X ∧ g_zast X ∧ g_aast X ∧ g_aastN X ∧ g_aastA X ∧ g_new X ∧ g_newa X ∧ g_anew X ∧ g_anewA X ∧ g_l_max X ∧ g_l_min X ∧ g_l_abs X ∧ g_l_cpb X ∧ g_tgv ad X ∧ g_tal ad X ∧ g_cpt ad X ∧ g_obj X ∧ g_if_eq X ∧ g_if_ne X ∧ g_if_lt X ∧ g_if_ge X ∧ g_if_gt X ∧ g_if_le X ∧ g_icmp_eq X ∧ g_icmp_ne X ∧ g_icmp_lt X ∧ g_icmp_ge X ∧ g_icmp_gt X ∧ g_icmp_le X ∧ g_goto X ∧ g_nonnull X ∧ g_nonnullN X ∧ g_ifnull X ∧ g_ifnullN X ∧ g_tabI X ∧ g_tabO X ∧ g_iinc X ∧ g_forg X ∧ g_less X ∧ g_nret X ∧ g_aret X ∧ g_lret X ∧ g_vret X ∧ g_cv X ∧ g_cvv X ∧ g_cs X ∧ g_csv X ∧ g_ci X ∧ g_cn X ∧ g_mna X ∧ g_cam ad X ∧ g_cwr ad X ∧ g_cck ad X ∧ g_tlen ad X ∧ g_tchr ad X ∧ g_sci X ∧ g_tcod ad X ∧ g_cvL ad X ∧ g_cu X ∧ g_cpv X ∧ g_csu X
end CLG
def Gx (ad : Nat → Nat) (sc : Nat × (Nat → Int32)) (M : mt) (pc : Nat) (L S : List Value) (c sl : Nat) (u : hp) (h : hg) (Q : qg) : Prop := ∀ X : xg, ag_cl ad sc X → X M pc L S c sl u h Q
/-- a method called so, with so much room for cells and slots -/
def Gl (ad : Nat → Nat) (sc : Nat × (Nat → Int32)) (c sl : Nat) (Y : mt) (As : List Value) (u : hp) (h : hg) (Q : qg) : Prop := Gx ad sc Y 0 (padG Y.2.2.1 As) [] c sl u h Q
section RWG
variable {ad : Nat → Nat} {sc : Nat × (Nat → Int32)}
theorem gx_iconst : g_iconst (Gx ad sc) := by
  intro _ _ _ _ _ _ _ _ _ _ _ g0 g1 k X hX
  exact hX.1 g0 g1 (k X hX)
theorem gx_bipush : g_bipush (Gx ad sc) := by
  intro _ _ _ _ _ _ _ _ _ _ _ g0 g1 k X hX
  exact hX.2.1 g0 g1 (k X hX)
theorem gx_sipush : g_sipush (Gx ad sc) := by
  intro _ _ _ _ _ _ _ _ _ _ _ g0 g1 k X hX
  exact hX.2.2.1 g0 g1 (k X hX)
theorem gx_ldcI : g_ldcI (Gx ad sc) := by
  intro _ _ _ _ _ _ _ _ _ _ _ g0 g1 k X hX
  exact hX.2.2.2.1 g0 g1 (k X hX)
theorem gx_ldc2 : g_ldc2 (Gx ad sc) := by
  intro _ _ _ _ _ _ _ _ _ _ _ g0 g1 k X hX
  exact hX.2.2.2.2.1 g0 g1 (k X hX)
theorem gx_lconst : g_lconst (Gx ad sc) := by
  intro _ _ _ _ _ _ _ _ _ _ _ g0 g1 k X hX
  exact hX.2.2.2.2.2.1 g0 g1 (k X hX)
theorem gx_null : g_null (Gx ad sc) := by
  intro _ _ _ _ _ _ _ _ _ g0 k X hX
  exact hX.2.2.2.2.2.2.1 g0 (k X hX)
theorem gx_iload_n : g_iload_n (Gx ad sc) := by
  intro _ _ _ _ _ _ _ _ _ _ _ _ g0 g1 g2 k X hX
  exact hX.2.2.2.2.2.2.2.1 g0 g1 g2 (k X hX)
theorem gx_iload : g_iload (Gx ad sc) := by
  intro _ _ _ _ _ _ _ _ _ _ _ g0 g1 k X hX
  exact hX.2.2.2.2.2.2.2.2.1 g0 g1 (k X hX)
theorem gx_aload_n : g_aload_n (Gx ad sc) := by
  intro _ _ _ _ _ _ _ _ _ _ _ _ g0 g1 g2 k X hX
  exact hX.2.2.2.2.2.2.2.2.2.1 g0 g1 g2 (k X hX)
theorem gx_aload : g_aload (Gx ad sc) := by
  intro _ _ _ _ _ _ _ _ _ _ _ g0 g1 k X hX
  exact hX.2.2.2.2.2.2.2.2.2.2.1 g0 g1 (k X hX)
theorem gx_lload_n : g_lload_n (Gx ad sc) := by
  intro _ _ _ _ _ _ _ _ _ _ _ _ g0 g1 g2 k X hX
  exact hX.2.2.2.2.2.2.2.2.2.2.2.1 g0 g1 g2 (k X hX)
theorem gx_lload : g_lload (Gx ad sc) := by
  intro _ _ _ _ _ _ _ _ _ _ _ g0 g1 k X hX
  exact hX.2.2.2.2.2.2.2.2.2.2.2.2.1 g0 g1 (k X hX)
theorem gx_aload_nN : g_aload_nN (Gx ad sc) := by
  intro _ _ _ _ _ _ _ _ _ _ _ g0 g1 g2 k X hX
  exact hX.2.2.2.2.2.2.2.2.2.2.2.2.2.1 g0 g1 g2 (k X hX)
theorem gx_aloadN : g_aloadN (Gx ad sc) := by
  intro _ _ _ _ _ _ _ _ _ _ g0 g1 k X hX
  exact hX.2.2.2.2.2.2.2.2.2.2.2.2.2.2.1 g0 g1 (k X hX)
theorem gx_iadd : g_iadd (Gx ad sc) := by
  intro _ _ _ _ _ _ _ _ _ _ _ g0 k X hX
  exact hX.2.2.2.2.2.2.2.2.2.2.2.2.2.2.2.1 g0 (k X hX)
theorem gx_isub : g_isub (Gx ad sc) := by
  intro _ _ _ _ _ _ _ _ _ _ _ g0 k X hX
  exact hX.2.2.2.2.2.2.2.2.2.2.2.2.2.2.2.2.1 g0 (k X hX)
theorem gx_imul : g_imul (Gx ad sc) := by
  intro _ _ _ _ _ _ _ _ _ _ _ g0 k X hX
  exact hX.2.2.2.2.2.2.2.2.2.2.2.2.2.2.2.2.2.1 g0 (k X hX)
theorem gx_iand : g_iand (Gx ad sc) := by
  intro _ _ _ _ _ _ _ _ _ _ _ g0 k X hX
  exact hX.2.2.2.2.2.2.2.2.2.2.2.2.2.2.2.2.2.2.1 g0 (k X hX)
theorem gx_ior : g_ior (Gx ad sc) := by
  intro _ _ _ _ _ _ _ _ _ _ _ g0 k X hX
  exact hX.2.2.2.2.2.2.2.2.2.2.2.2.2.2.2.2.2.2.2.1 g0 (k X hX)
theorem gx_ishl : g_ishl (Gx ad sc) := by
  intro _ _ _ _ _ _ _ _ _ _ _ g0 k X hX
  exact hX.2.2.2.2.2.2.2.2.2.2.2.2.2.2.2.2.2.2.2.2.1 g0 (k X hX)
theorem gx_ishr : g_ishr (Gx ad sc) := by
  intro _ _ _ _ _ _ _ _ _ _ _ g0 k X hX
  exact hX.2.2.2.2.2.2.2.2.2.2.2.2.2.2.2.2.2.2.2.2.2.1 g0 (k X hX)
theorem gx_idiv : g_idiv (Gx ad sc) := by
  intro _ _ _ _ _ _ _ _ _ _ _ g0 g1 k X hX
  exact hX.2.2.2.2.2.2.2.2.2.2.2.2.2.2.2.2.2.2.2.2.2.2.1 g0 g1 (k X hX)
theorem gx_irem : g_irem (Gx ad sc) := by
  intro _ _ _ _ _ _ _ _ _ _ _ g0 g1 k X hX
  exact hX.2.2.2.2.2.2.2.2.2.2.2.2.2.2.2.2.2.2.2.2.2.2.2.1 g0 g1 (k X hX)
theorem gx_iushr : g_iushr (Gx ad sc) := by
  intro _ _ _ _ _ _ _ _ _ _ _ _ g0 g1 k X hX
  exact hX.2.2.2.2.2.2.2.2.2.2.2.2.2.2.2.2.2.2.2.2.2.2.2.2.1 g0 g1 (k X hX)
theorem gx_i2b : g_i2b (Gx ad sc) := by
  intro _ _ _ _ _ _ _ _ _ _ _ g0 g1 k X hX
  exact hX.2.2.2.2.2.2.2.2.2.2.2.2.2.2.2.2.2.2.2.2.2.2.2.2.2.1 g0 g1 (k X hX)
theorem gx_i2c : g_i2c (Gx ad sc) := by
  intro _ _ _ _ _ _ _ _ _ _ _ g0 g1 k X hX
  exact hX.2.2.2.2.2.2.2.2.2.2.2.2.2.2.2.2.2.2.2.2.2.2.2.2.2.2.1 g0 g1 (k X hX)
theorem gx_ladd : g_ladd (Gx ad sc) := by
  intro _ _ _ _ _ _ _ _ _ _ _ g0 k X hX
  exact hX.2.2.2.2.2.2.2.2.2.2.2.2.2.2.2.2.2.2.2.2.2.2.2.2.2.2.2.1 g0 (k X hX)
theorem gx_lmul : g_lmul (Gx ad sc) := by
  intro _ _ _ _ _ _ _ _ _ _ _ g0 k X hX
  exact hX.2.2.2.2.2.2.2.2.2.2.2.2.2.2.2.2.2.2.2.2.2.2.2.2.2.2.2.2.1 g0 (k X hX)
theorem gx_i2l : g_i2l (Gx ad sc) := by
  intro _ _ _ _ _ _ _ _ _ _ _ g0 g1 k X hX
  exact hX.2.2.2.2.2.2.2.2.2.2.2.2.2.2.2.2.2.2.2.2.2.2.2.2.2.2.2.2.2.1 g0 g1 (k X hX)
theorem gx_lcmp : g_lcmp (Gx ad sc) := by
  intro _ _ _ _ _ _ _ _ _ _ _ g0 k X hX
  exact hX.2.2.2.2.2.2.2.2.2.2.2.2.2.2.2.2.2.2.2.2.2.2.2.2.2.2.2.2.2.2.1 g0 (k X hX)
theorem gx_dup : g_dup (Gx ad sc) := by
  intro _ _ _ _ _ _ _ _ _ _ g0 g1 k X hX
  exact hX.2.2.2.2.2.2.2.2.2.2.2.2.2.2.2.2.2.2.2.2.2.2.2.2.2.2.2.2.2.2.2.1 g0 g1 (k X hX)
theorem gx_dup2 : g_dup2 (Gx ad sc) := by
  intro _ _ _ _ _ _ _ _ _ _ _ g0 g1 g2 k X hX
  exact hX.2.2.2.2.2.2.2.2.2.2.2.2.2.2.2.2.2.2.2.2.2.2.2.2.2.2.2.2.2.2.2.2.1 g0 g1 g2 (k X hX)
theorem gx_dup_x1 : g_dup_x1 (Gx ad sc) := by
  intro _ _ _ _ _ _ _ _ _ _ _ g0 g1 g2 k X hX
  exact hX.2.2.2.2.2.2.2.2.2.2.2.2.2.2.2.2.2.2.2.2.2.2.2.2.2.2.2.2.2.2.2.2.2.1 g0 g1 g2 (k X hX)
theorem gx_pop : g_pop (Gx ad sc) := by
  intro _ _ _ _ _ _ _ _ _ _ g0 g1 k X hX
  exact hX.2.2.2.2.2.2.2.2.2.2.2.2.2.2.2.2.2.2.2.2.2.2.2.2.2.2.2.2.2.2.2.2.2.2.1 g0 g1 (k X hX)
theorem gx_getf : g_getf (Gx ad sc) := by
  intro _ _ _ _ _ _ _ _ _ _ _ _ _ _ _ _ _ _ _ g0 g1 g2 g3 g4 g5 k X hX
  exact hX.2.2.2.2.2.2.2.2.2.2.2.2.2.2.2.2.2.2.2.2.2.2.2.2.2.2.2.2.2.2.2.2.2.2.2.1 g0 g1 g2 g3 g4 g5 (k X hX)
theorem gx_iald : g_iald (Gx ad sc) := by
  intro _ _ _ _ _ _ _ _ _ _ _ _ _ g0 g1 g2 k X hX
  exact hX.2.2.2.2.2.2.2.2.2.2.2.2.2.2.2.2.2.2.2.2.2.2.2.2.2.2.2.2.2.2.2.2.2.2.2.2.1 g0 g1 g2 (k X hX)
theorem gx_bald : g_bald (Gx ad sc) := by
  intro _ _ _ _ _ _ _ _ _ _ _ _ _ g0 g1 g2 k X hX
  exact hX.2.2.2.2.2.2.2.2.2.2.2.2.2.2.2.2.2.2.2.2.2.2.2.2.2.2.2.2.2.2.2.2.2.2.2.2.2.1 g0 g1 g2 (k X hX)
theorem gx_zald : g_zald (Gx ad sc) := by
  intro _ _ _ _ _ _ _ _ _ _ _ _ _ g0 g1 g2 k X hX
  exact hX.2.2.2.2.2.2.2.2.2.2.2.2.2.2.2.2.2.2.2.2.2.2.2.2.2.2.2.2.2.2.2.2.2.2.2.2.2.2.1 g0 g1 g2 (k X hX)
theorem gx_aald : g_aald (Gx ad sc) := by
  intro _ _ _ _ _ _ _ _ _ _ _ _ _ _ _ g0 g1 g2 g3 g4 k X hX
  exact hX.2.2.2.2.2.2.2.2.2.2.2.2.2.2.2.2.2.2.2.2.2.2.2.2.2.2.2.2.2.2.2.2.2.2.2.2.2.2.2.1 g0 g1 g2 g3 g4 (k X hX)
theorem gx_alen : g_alen (Gx ad sc) := by
  intro _ _ _ _ _ _ _ _ _ _ _ _ _ _ g0 g1 g2 g3 k X hX
  exact hX.2.2.2.2.2.2.2.2.2.2.2.2.2.2.2.2.2.2.2.2.2.2.2.2.2.2.2.2.2.2.2.2.2.2.2.2.2.2.2.2.1 g0 g1 g2 g3 (k X hX)
theorem gx_ldcS : g_ldcS ad (Gx ad sc) := by
  intro _ _ _ _ _ _ _ _ _ _ _ _ g0 g1 k X hX
  exact hX.2.2.2.2.2.2.2.2.2.2.2.2.2.2.2.2.2.2.2.2.2.2.2.2.2.2.2.2.2.2.2.2.2.2.2.2.2.2.2.2.2.1 g0 g1 (k X hX)
theorem gx_slen : g_slen ad sc (Gx ad sc) := by
  intro _ _ _ _ _ _ _ _ _ _ g0 g1 k X hX
  exact hX.2.2.2.2.2.2.2.2.2.2.2.2.2.2.2.2.2.2.2.2.2.2.2.2.2.2.2.2.2.2.2.2.2.2.2.2.2.2.2.2.2.2.1 g0 g1 (k X hX)
theorem gx_sld : g_sld ad sc (Gx ad sc) := by
  intro _ _ _ _ _ _ _ _ _ _ g0 g1 k X hX
  exact hX.2.2.2.2.2.2.2.2.2.2.2.2.2.2.2.2.2.2.2.2.2.2.2.2.2.2.2.2.2.2.2.2.2.2.2.2.2.2.2.2.2.2.2.1 g0 g1 (k X hX)
theorem gx_csn : g_csn (Gx ad sc) := by
  intro _ _ _ _ _ _ _ _ _ _ g0 g1 k X hX
  exact hX.2.2.2.2.2.2.2.2.2.2.2.2.2.2.2.2.2.2.2.2.2.2.2.2.2.2.2.2.2.2.2.2.2.2.2.2.2.2.2.2.2.2.2.2.1 g0 g1 (k X hX)
theorem gx_istore_n : g_istore_n (Gx ad sc) := by
  intro _ _ _ _ _ _ _ _ _ _ _ _ g0 g1 g2 g3 k X hX
  exact hX.2.2.2.2.2.2.2.2.2.2.2.2.2.2.2.2.2.2.2.2.2.2.2.2.2.2.2.2.2.2.2.2.2.2.2.2.2.2.2.2.2.2.2.2.2.1 g0 g1 g2 g3 (k X hX)
theorem gx_istore : g_istore (Gx ad sc) := by
  intro _ _ _ _ _ _ _ _ _ _ _ g0 g1 g2 k X hX
  exact hX.2.2.2.2.2.2.2.2.2.2.2.2.2.2.2.2.2.2.2.2.2.2.2.2.2.2.2.2.2.2.2.2.2.2.2.2.2.2.2.2.2.2.2.2.2.2.1 g0 g1 g2 (k X hX)
theorem gx_astore_n : g_astore_n (Gx ad sc) := by
  intro _ _ _ _ _ _ _ _ _ _ _ _ g0 g1 g2 g3 k X hX
  exact hX.2.2.2.2.2.2.2.2.2.2.2.2.2.2.2.2.2.2.2.2.2.2.2.2.2.2.2.2.2.2.2.2.2.2.2.2.2.2.2.2.2.2.2.2.2.2.2.1 g0 g1 g2 g3 (k X hX)
theorem gx_astore : g_astore (Gx ad sc) := by
  intro _ _ _ _ _ _ _ _ _ _ _ g0 g1 g2 k X hX
  exact hX.2.2.2.2.2.2.2.2.2.2.2.2.2.2.2.2.2.2.2.2.2.2.2.2.2.2.2.2.2.2.2.2.2.2.2.2.2.2.2.2.2.2.2.2.2.2.2.2.1 g0 g1 g2 (k X hX)
theorem gx_astore_nN : g_astore_nN (Gx ad sc) := by
  intro _ _ _ _ _ _ _ _ _ _ _ g0 g1 g2 g3 k X hX
  exact hX.2.2.2.2.2.2.2.2.2.2.2.2.2.2.2.2.2.2.2.2.2.2.2.2.2.2.2.2.2.2.2.2.2.2.2.2.2.2.2.2.2.2.2.2.2.2.2.2.2.1 g0 g1 g2 g3 (k X hX)
theorem gx_astoreN : g_astoreN (Gx ad sc) := by
  intro _ _ _ _ _ _ _ _ _ _ g0 g1 g2 k X hX
  exact hX.2.2.2.2.2.2.2.2.2.2.2.2.2.2.2.2.2.2.2.2.2.2.2.2.2.2.2.2.2.2.2.2.2.2.2.2.2.2.2.2.2.2.2.2.2.2.2.2.2.2.1 g0 g1 g2 (k X hX)
theorem gx_lstore_n : g_lstore_n (Gx ad sc) := by
  intro _ _ _ _ _ _ _ _ _ _ _ _ g0 g1 g2 g3 k X hX
  exact hX.2.2.2.2.2.2.2.2.2.2.2.2.2.2.2.2.2.2.2.2.2.2.2.2.2.2.2.2.2.2.2.2.2.2.2.2.2.2.2.2.2.2.2.2.2.2.2.2.2.2.2.1 g0 g1 g2 g3 (k X hX)
theorem gx_lstore : g_lstore (Gx ad sc) := by
  intro _ _ _ _ _ _ _ _ _ _ _ g0 g1 g2 k X hX
  exact hX.2.2.2.2.2.2.2.2.2.2.2.2.2.2.2.2.2.2.2.2.2.2.2.2.2.2.2.2.2.2.2.2.2.2.2.2.2.2.2.2.2.2.2.2.2.2.2.2.2.2.2.2.1 g0 g1 g2 (k X hX)
theorem gx_putf : g_putf (Gx ad sc) := by
  intro _ _ _ _ _ _ _ _ _ _ _ _ _ _ _ _ _ _ _ g0 g1 g2 g3 g4 g5 g6 g7 k X hX
  exact hX.2.2.2.2.2.2.2.2.2.2.2.2.2.2.2.2.2.2.2.2.2.2.2.2.2.2.2.2.2.2.2.2.2.2.2.2.2.2.2.2.2.2.2.2.2.2.2.2.2.2.2.2.2.1 g0 g1 g2 g3 g4 g5 g6 g7 (k X hX)
theorem gx_putF : g_putF (Gx ad sc) := by
  intro _ _ _ _ _ _ _ _ _ _ _ _ _ _ _ _ _ _ _ g0 g1 g2 g3 g4 g5 g6 g7 g8 g9 k X hX
  exact hX.2.2.2.2.2.2.2.2.2.2.2.2.2.2.2.2.2.2.2.2.2.2.2.2.2.2.2.2.2.2.2.2.2.2.2.2.2.2.2.2.2.2.2.2.2.2.2.2.2.2.2.2.2.2.1 g0 g1 g2 g3 g4 g5 g6 g7 g8 g9 (k X hX)
theorem gx_iast : g_iast (Gx ad sc) := by
  intro _ _ _ _ _ _ _ _ _ _ _ _ _ _ g0 g1 g2 k X hX
  exact hX.2.2.2.2.2.2.2.2.2.2.2.2.2.2.2.2.2.2.2.2.2.2.2.2.2.2.2.2.2.2.2.2.2.2.2.2.2.2.2.2.2.2.2.2.2.2.2.2.2.2.2.2.2.2.2.1 g0 g1 g2 (k X hX)
theorem gx_bast : g_bast (Gx ad sc) := by
  intro _ _ _ _ _ _ _ _ _ _ _ _ _ _ g0 g1 g2 k X hX
  exact hX.2.2.2.2.2.2.2.2.2.2.2.2.2.2.2.2.2.2.2.2.2.2.2.2.2.2.2.2.2.2.2.2.2.2.2.2.2.2.2.2.2.2.2.2.2.2.2.2.2.2.2.2.2.2.2.2.1 g0 g1 g2 (k X hX)
theorem gx_zast : g_zast (Gx ad sc) := by
  intro _ _ _ _ _ _ _ _ _ _ _ _ _ _ g0 g1 g2 k X hX
  exact hX.2.2.2.2.2.2.2.2.2.2.2.2.2.2.2.2.2.2.2.2.2.2.2.2.2.2.2.2.2.2.2.2.2.2.2.2.2.2.2.2.2.2.2.2.2.2.2.2.2.2.2.2.2.2.2.2.2.1 g0 g1 g2 (k X hX)
theorem gx_aast : g_aast (Gx ad sc) := by
  intro _ _ _ _ _ _ _ _ _ _ _ _ _ _ _ _ _ _ _ _ g0 g1 g2 g3 g4 g5 k X hX
  exact hX.2.2.2.2.2.2.2.2.2.2.2.2.2.2.2.2.2.2.2.2.2.2.2.2.2.2.2.2.2.2.2.2.2.2.2.2.2.2.2.2.2.2.2.2.2.2.2.2.2.2.2.2.2.2.2.2.2.2.1 g0 g1 g2 g3 g4 g5 (k X hX)
theorem gx_aastN : g_aastN (Gx ad sc) := by
  intro _ _ _ _ _ _ _ _ _ _ _ _ _ _ _ g0 g1 g2 g3 k X hX
  exact hX.2.2.2.2.2.2.2.2.2.2.2.2.2.2.2.2.2.2.2.2.2.2.2.2.2.2.2.2.2.2.2.2.2.2.2.2.2.2.2.2.2.2.2.2.2.2.2.2.2.2.2.2.2.2.2.2.2.2.2.1 g0 g1 g2 g3 (k X hX)
theorem gx_aastA : g_aastA (Gx ad sc) := by
  intro _ _ _ _ _ _ _ _ _ _ _ _ _ _ _ _ g0 g1 g2 g3 k X hX
  exact hX.2.2.2.2.2.2.2.2.2.2.2.2.2.2.2.2.2.2.2.2.2.2.2.2.2.2.2.2.2.2.2.2.2.2.2.2.2.2.2.2.2.2.2.2.2.2.2.2.2.2.2.2.2.2.2.2.2.2.2.2.1 g0 g1 g2 g3 (k X hX)
theorem gx_new : g_new (Gx ad sc) := by
  intro _ _ _ _ _ _ _ _ _ _ _ _ _ _ _ _ g0 g1 g2 g3 g4 g5 g6 g7 k X hX
  exact hX.2.2.2.2.2.2.2.2.2.2.2.2.2.2.2.2.2.2.2.2.2.2.2.2.2.2.2.2.2.2.2.2.2.2.2.2.2.2.2.2.2.2.2.2.2.2.2.2.2.2.2.2.2.2.2.2.2.2.2.2.2.1 g0 g1 g2 g3 g4 g5 g6 g7 (fun a ha => k a ha X hX)
theorem gx_newa : g_newa (Gx ad sc) := by
  intro _ _ _ _ _ _ _ _ _ _ _ _ _ g0 g1 g2 g3 g4 g5 g6 k X hX
  exact hX.2.2.2.2.2.2.2.2.2.2.2.2.2.2.2.2.2.2.2.2.2.2.2.2.2.2.2.2.2.2.2.2.2.2.2.2.2.2.2.2.2.2.2.2.2.2.2.2.2.2.2.2.2.2.2.2.2.2.2.2.2.2.1 g0 g1 g2 g3 g4 g5 g6 (fun a ha => k a ha X hX)
theorem gx_anew : g_anew (Gx ad sc) := by
  intro _ _ _ _ _ _ _ _ _ _ _ _ _ _ g0 g1 g2 g3 g4 g5 g6 g7 k X hX
  exact hX.2.2.2.2.2.2.2.2.2.2.2.2.2.2.2.2.2.2.2.2.2.2.2.2.2.2.2.2.2.2.2.2.2.2.2.2.2.2.2.2.2.2.2.2.2.2.2.2.2.2.2.2.2.2.2.2.2.2.2.2.2.2.2.1 g0 g1 g2 g3 g4 g5 g6 g7 (fun a ha => k a ha X hX)
theorem gx_anewA : g_anewA (Gx ad sc) := by
  intro _ _ _ _ _ _ _ _ _ _ _ _ g0 g1 g2 g3 g4 g5 g6 k X hX
  exact hX.2.2.2.2.2.2.2.2.2.2.2.2.2.2.2.2.2.2.2.2.2.2.2.2.2.2.2.2.2.2.2.2.2.2.2.2.2.2.2.2.2.2.2.2.2.2.2.2.2.2.2.2.2.2.2.2.2.2.2.2.2.2.2.2.1 g0 g1 g2 g3 g4 g5 g6 (fun a ha => k a ha X hX)
theorem gx_l_max : g_l_max (Gx ad sc) := by
  intro _ _ _ _ _ _ _ _ _ _ _ _ g0 g1 g2 g3 k X hX
  exact hX.2.2.2.2.2.2.2.2.2.2.2.2.2.2.2.2.2.2.2.2.2.2.2.2.2.2.2.2.2.2.2.2.2.2.2.2.2.2.2.2.2.2.2.2.2.2.2.2.2.2.2.2.2.2.2.2.2.2.2.2.2.2.2.2.2.1 g0 g1 g2 g3 (k X hX)
theorem gx_l_min : g_l_min (Gx ad sc) := by
  intro _ _ _ _ _ _ _ _ _ _ _ _ g0 g1 g2 g3 k X hX
  exact hX.2.2.2.2.2.2.2.2.2.2.2.2.2.2.2.2.2.2.2.2.2.2.2.2.2.2.2.2.2.2.2.2.2.2.2.2.2.2.2.2.2.2.2.2.2.2.2.2.2.2.2.2.2.2.2.2.2.2.2.2.2.2.2.2.2.2.1 g0 g1 g2 g3 (k X hX)
theorem gx_l_abs : g_l_abs (Gx ad sc) := by
  intro _ _ _ _ _ _ _ _ _ _ _ g0 g1 g2 g3 k X hX
  exact hX.2.2.2.2.2.2.2.2.2.2.2.2.2.2.2.2.2.2.2.2.2.2.2.2.2.2.2.2.2.2.2.2.2.2.2.2.2.2.2.2.2.2.2.2.2.2.2.2.2.2.2.2.2.2.2.2.2.2.2.2.2.2.2.2.2.2.2.1 g0 g1 g2 g3 (k X hX)
theorem gx_l_cpb : g_l_cpb (Gx ad sc) := by
  intro _ _ _ _ _ _ _ _ _ _ _ _ _ _ _ _ _ _ _ g0 g1 g2 g3 g4 g5 g6 g7 g8 g9 g10 g11 k X hX
  exact hX.2.2.2.2.2.2.2.2.2.2.2.2.2.2.2.2.2.2.2.2.2.2.2.2.2.2.2.2.2.2.2.2.2.2.2.2.2.2.2.2.2.2.2.2.2.2.2.2.2.2.2.2.2.2.2.2.2.2.2.2.2.2.2.2.2.2.2.2.1 g0 g1 g2 g3 g4 g5 g6 g7 g8 g9 g10 g11 (k X hX)
theorem gx_tgv : g_tgv ad (Gx ad sc) := by
  intro _ _ _ _ _ _ _ _ _ _ _ g0 g1 g2 k X hX
  exact hX.2.2.2.2.2.2.2.2.2.2.2.2.2.2.2.2.2.2.2.2.2.2.2.2.2.2.2.2.2.2.2.2.2.2.2.2.2.2.2.2.2.2.2.2.2.2.2.2.2.2.2.2.2.2.2.2.2.2.2.2.2.2.2.2.2.2.2.2.2.1 g0 g1 g2 (k X hX)
theorem gx_tal : g_tal ad (Gx ad sc) := by
  intro _ _ _ _ _ _ _ _ _ _ _ g0 g1 g2 k X hX
  exact hX.2.2.2.2.2.2.2.2.2.2.2.2.2.2.2.2.2.2.2.2.2.2.2.2.2.2.2.2.2.2.2.2.2.2.2.2.2.2.2.2.2.2.2.2.2.2.2.2.2.2.2.2.2.2.2.2.2.2.2.2.2.2.2.2.2.2.2.2.2.2.1 g0 g1 g2 (k X hX)
theorem gx_cpt : g_cpt ad (Gx ad sc) := by
  intro _ _ _ _ _ _ _ _ _ _ _ _ _ _ _ _ _ g0 g1 g2 g3 g4 g5 g6 g7 g8 g9 g10 g11 k X hX
  exact hX.2.2.2.2.2.2.2.2.2.2.2.2.2.2.2.2.2.2.2.2.2.2.2.2.2.2.2.2.2.2.2.2.2.2.2.2.2.2.2.2.2.2.2.2.2.2.2.2.2.2.2.2.2.2.2.2.2.2.2.2.2.2.2.2.2.2.2.2.2.2.2.1 g0 g1 g2 g3 g4 g5 g6 g7 g8 g9 g10 g11 (k X hX)
theorem gx_obj : g_obj (Gx ad sc) := by
  intro _ _ _ _ _ _ _ _ _ _ _ g0 g1 g2 g3 k X hX
  exact hX.2.2.2.2.2.2.2.2.2.2.2.2.2.2.2.2.2.2.2.2.2.2.2.2.2.2.2.2.2.2.2.2.2.2.2.2.2.2.2.2.2.2.2.2.2.2.2.2.2.2.2.2.2.2.2.2.2.2.2.2.2.2.2.2.2.2.2.2.2.2.2.2.1 g0 g1 g2 g3 (k X hX)
theorem gx_if_eq : g_if_eq (Gx ad sc) := by
  intro _ _ _ _ _ _ _ _ _ _ _ _ g0 g1 g2 g3 X hX
  exact hX.2.2.2.2.2.2.2.2.2.2.2.2.2.2.2.2.2.2.2.2.2.2.2.2.2.2.2.2.2.2.2.2.2.2.2.2.2.2.2.2.2.2.2.2.2.2.2.2.2.2.2.2.2.2.2.2.2.2.2.2.2.2.2.2.2.2.2.2.2.2.2.2.2.1 g0 g1 (fun q0 => g2 q0 X hX) (fun q0 => g3 q0 X hX)
theorem gx_if_ne : g_if_ne (Gx ad sc) := by
  intro _ _ _ _ _ _ _ _ _ _ _ _ g0 g1 g2 g3 X hX
  exact hX.2.2.2.2.2.2.2.2.2.2.2.2.2.2.2.2.2.2.2.2.2.2.2.2.2.2.2.2.2.2.2.2.2.2.2.2.2.2.2.2.2.2.2.2.2.2.2.2.2.2.2.2.2.2.2.2.2.2.2.2.2.2.2.2.2.2.2.2.2.2.2.2.2.2.1 g0 g1 (fun q0 => g2 q0 X hX) (fun q0 => g3 q0 X hX)
theorem gx_if_lt : g_if_lt (Gx ad sc) := by
  intro _ _ _ _ _ _ _ _ _ _ _ _ g0 g1 g2 g3 X hX
  exact hX.2.2.2.2.2.2.2.2.2.2.2.2.2.2.2.2.2.2.2.2.2.2.2.2.2.2.2.2.2.2.2.2.2.2.2.2.2.2.2.2.2.2.2.2.2.2.2.2.2.2.2.2.2.2.2.2.2.2.2.2.2.2.2.2.2.2.2.2.2.2.2.2.2.2.2.1 g0 g1 (fun q0 => g2 q0 X hX) (fun q0 => g3 q0 X hX)
theorem gx_if_ge : g_if_ge (Gx ad sc) := by
  intro _ _ _ _ _ _ _ _ _ _ _ _ g0 g1 g2 g3 X hX
  exact hX.2.2.2.2.2.2.2.2.2.2.2.2.2.2.2.2.2.2.2.2.2.2.2.2.2.2.2.2.2.2.2.2.2.2.2.2.2.2.2.2.2.2.2.2.2.2.2.2.2.2.2.2.2.2.2.2.2.2.2.2.2.2.2.2.2.2.2.2.2.2.2.2.2.2.2.2.1 g0 g1 (fun q0 => g2 q0 X hX) (fun q0 => g3 q0 X hX)
theorem gx_if_gt : g_if_gt (Gx ad sc) := by
  intro _ _ _ _ _ _ _ _ _ _ _ _ g0 g1 g2 g3 X hX
  exact hX.2.2.2.2.2.2.2.2.2.2.2.2.2.2.2.2.2.2.2.2.2.2.2.2.2.2.2.2.2.2.2.2.2.2.2.2.2.2.2.2.2.2.2.2.2.2.2.2.2.2.2.2.2.2.2.2.2.2.2.2.2.2.2.2.2.2.2.2.2.2.2.2.2.2.2.2.2.1 g0 g1 (fun q0 => g2 q0 X hX) (fun q0 => g3 q0 X hX)
theorem gx_if_le : g_if_le (Gx ad sc) := by
  intro _ _ _ _ _ _ _ _ _ _ _ _ g0 g1 g2 g3 X hX
  exact hX.2.2.2.2.2.2.2.2.2.2.2.2.2.2.2.2.2.2.2.2.2.2.2.2.2.2.2.2.2.2.2.2.2.2.2.2.2.2.2.2.2.2.2.2.2.2.2.2.2.2.2.2.2.2.2.2.2.2.2.2.2.2.2.2.2.2.2.2.2.2.2.2.2.2.2.2.2.2.1 g0 g1 (fun q0 => g2 q0 X hX) (fun q0 => g3 q0 X hX)
theorem gx_icmp_eq : g_icmp_eq (Gx ad sc) := by
  intro _ _ _ _ _ _ _ _ _ _ _ _ _ g0 g1 g2 g3 X hX
  exact hX.2.2.2.2.2.2.2.2.2.2.2.2.2.2.2.2.2.2.2.2.2.2.2.2.2.2.2.2.2.2.2.2.2.2.2.2.2.2.2.2.2.2.2.2.2.2.2.2.2.2.2.2.2.2.2.2.2.2.2.2.2.2.2.2.2.2.2.2.2.2.2.2.2.2.2.2.2.2.2.1 g0 g1 (fun q0 => g2 q0 X hX) (fun q0 => g3 q0 X hX)
theorem gx_icmp_ne : g_icmp_ne (Gx ad sc) := by
  intro _ _ _ _ _ _ _ _ _ _ _ _ _ g0 g1 g2 g3 X hX
  exact hX.2.2.2.2.2.2.2.2.2.2.2.2.2.2.2.2.2.2.2.2.2.2.2.2.2.2.2.2.2.2.2.2.2.2.2.2.2.2.2.2.2.2.2.2.2.2.2.2.2.2.2.2.2.2.2.2.2.2.2.2.2.2.2.2.2.2.2.2.2.2.2.2.2.2.2.2.2.2.2.2.1 g0 g1 (fun q0 => g2 q0 X hX) (fun q0 => g3 q0 X hX)
theorem gx_icmp_lt : g_icmp_lt (Gx ad sc) := by
  intro _ _ _ _ _ _ _ _ _ _ _ _ _ g0 g1 g2 g3 X hX
  exact hX.2.2.2.2.2.2.2.2.2.2.2.2.2.2.2.2.2.2.2.2.2.2.2.2.2.2.2.2.2.2.2.2.2.2.2.2.2.2.2.2.2.2.2.2.2.2.2.2.2.2.2.2.2.2.2.2.2.2.2.2.2.2.2.2.2.2.2.2.2.2.2.2.2.2.2.2.2.2.2.2.2.1 g0 g1 (fun q0 => g2 q0 X hX) (fun q0 => g3 q0 X hX)
theorem gx_icmp_ge : g_icmp_ge (Gx ad sc) := by
  intro _ _ _ _ _ _ _ _ _ _ _ _ _ g0 g1 g2 g3 X hX
  exact hX.2.2.2.2.2.2.2.2.2.2.2.2.2.2.2.2.2.2.2.2.2.2.2.2.2.2.2.2.2.2.2.2.2.2.2.2.2.2.2.2.2.2.2.2.2.2.2.2.2.2.2.2.2.2.2.2.2.2.2.2.2.2.2.2.2.2.2.2.2.2.2.2.2.2.2.2.2.2.2.2.2.2.1 g0 g1 (fun q0 => g2 q0 X hX) (fun q0 => g3 q0 X hX)
theorem gx_icmp_gt : g_icmp_gt (Gx ad sc) := by
  intro _ _ _ _ _ _ _ _ _ _ _ _ _ g0 g1 g2 g3 X hX
  exact hX.2.2.2.2.2.2.2.2.2.2.2.2.2.2.2.2.2.2.2.2.2.2.2.2.2.2.2.2.2.2.2.2.2.2.2.2.2.2.2.2.2.2.2.2.2.2.2.2.2.2.2.2.2.2.2.2.2.2.2.2.2.2.2.2.2.2.2.2.2.2.2.2.2.2.2.2.2.2.2.2.2.2.2.1 g0 g1 (fun q0 => g2 q0 X hX) (fun q0 => g3 q0 X hX)
theorem gx_icmp_le : g_icmp_le (Gx ad sc) := by
  intro _ _ _ _ _ _ _ _ _ _ _ _ _ g0 g1 g2 g3 X hX
  exact hX.2.2.2.2.2.2.2.2.2.2.2.2.2.2.2.2.2.2.2.2.2.2.2.2.2.2.2.2.2.2.2.2.2.2.2.2.2.2.2.2.2.2.2.2.2.2.2.2.2.2.2.2.2.2.2.2.2.2.2.2.2.2.2.2.2.2.2.2.2.2.2.2.2.2.2.2.2.2.2.2.2.2.2.2.1 g0 g1 (fun q0 => g2 q0 X hX) (fun q0 => g3 q0 X hX)
theorem gx_goto : g_goto (Gx ad sc) := by
  intro _ _ _ _ _ _ _ _ _ _ _ g0 g1 g2 X hX
  exact hX.2.2.2.2.2.2.2.2.2.2.2.2.2.2.2.2.2.2.2.2.2.2.2.2.2.2.2.2.2.2.2.2.2.2.2.2.2.2.2.2.2.2.2.2.2.2.2.2.2.2.2.2.2.2.2.2.2.2.2.2.2.2.2.2.2.2.2.2.2.2.2.2.2.2.2.2.2.2.2.2.2.2.2.2.2.1 g0 g1 (g2 X hX)
theorem gx_nonnull : g_nonnull (Gx ad sc) := by
  intro _ _ _ _ _ _ _ _ _ _ _ _ g0 g1 g2 X hX
  exact hX.2.2.2.2.2.2.2.2.2.2.2.2.2.2.2.2.2.2.2.2.2.2.2.2.2.2.2.2.2.2.2.2.2.2.2.2.2.2.2.2.2.2.2.2.2.2.2.2.2.2.2.2.2.2.2.2.2.2.2.2.2.2.2.2.2.2.2.2.2.2.2.2.2.2.2.2.2.2.2.2.2.2.2.2.2.2.1 g0 g1 (g2 X hX)
theorem gx_nonnullN : g_nonnullN (Gx ad sc) := by
  intro _ _ _ _ _ _ _ _ _ _ g0 g1 X hX
  exact hX.2.2.2.2.2.2.2.2.2.2.2.2.2.2.2.2.2.2.2.2.2.2.2.2.2.2.2.2.2.2.2.2.2.2.2.2.2.2.2.2.2.2.2.2.2.2.2.2.2.2.2.2.2.2.2.2.2.2.2.2.2.2.2.2.2.2.2.2.2.2.2.2.2.2.2.2.2.2.2.2.2.2.2.2.2.2.2.1 g0 (g1 X hX)
theorem gx_ifnull : g_ifnull (Gx ad sc) := by
  intro _ _ _ _ _ _ _ _ _ _ _ g0 g1 X hX
  exact hX.2.2.2.2.2.2.2.2.2.2.2.2.2.2.2.2.2.2.2.2.2.2.2.2.2.2.2.2.2.2.2.2.2.2.2.2.2.2.2.2.2.2.2.2.2.2.2.2.2.2.2.2.2.2.2.2.2.2.2.2.2.2.2.2.2.2.2.2.2.2.2.2.2.2.2.2.2.2.2.2.2.2.2.2.2.2.2.2.1 g0 (g1 X hX)
theorem gx_ifnullN : g_ifnullN (Gx ad sc) := by
  intro _ _ _ _ _ _ _ _ _ _ _ g0 g1 g2 X hX
  exact hX.2.2.2.2.2.2.2.2.2.2.2.2.2.2.2.2.2.2.2.2.2.2.2.2.2.2.2.2.2.2.2.2.2.2.2.2.2.2.2.2.2.2.2.2.2.2.2.2.2.2.2.2.2.2.2.2.2.2.2.2.2.2.2.2.2.2.2.2.2.2.2.2.2.2.2.2.2.2.2.2.2.2.2.2.2.2.2.2.2.1 g0 g1 (g2 X hX)
theorem gx_tabI : g_tabI (Gx ad sc) := by
  intro _ _ _ _ _ _ _ _ _ _ _ _ _ _ _ _ _ g0 g1 g2 g3 g4 g5 X hX
  exact hX.2.2.2.2.2.2.2.2.2.2.2.2.2.2.2.2.2.2.2.2.2.2.2.2.2.2.2.2.2.2.2.2.2.2.2.2.2.2.2.2.2.2.2.2.2.2.2.2.2.2.2.2.2.2.2.2.2.2.2.2.2.2.2.2.2.2.2.2.2.2.2.2.2.2.2.2.2.2.2.2.2.2.2.2.2.2.2.2.2.2.1 g0 g1 g2 g3 g4 (g5 X hX)
theorem gx_tabO : g_tabO (Gx ad sc) := by
  intro _ _ _ _ _ _ _ _ _ _ _ _ _ _ _ _ g0 g1 g2 g3 X hX
  exact hX.2.2.2.2.2.2.2.2.2.2.2.2.2.2.2.2.2.2.2.2.2.2.2.2.2.2.2.2.2.2.2.2.2.2.2.2.2.2.2.2.2.2.2.2.2.2.2.2.2.2.2.2.2.2.2.2.2.2.2.2.2.2.2.2.2.2.2.2.2.2.2.2.2.2.2.2.2.2.2.2.2.2.2.2.2.2.2.2.2.2.2.1 g0 g1 g2 (g3 X hX)
theorem gx_iinc : g_iinc (Gx ad sc) := by
  intro _ _ _ _ _ _ _ _ _ _ _ _ _ g0 g1 g2 g3 g4 g5 X hX
  exact hX.2.2.2.2.2.2.2.2.2.2.2.2.2.2.2.2.2.2.2.2.2.2.2.2.2.2.2.2.2.2.2.2.2.2.2.2.2.2.2.2.2.2.2.2.2.2.2.2.2.2.2.2.2.2.2.2.2.2.2.2.2.2.2.2.2.2.2.2.2.2.2.2.2.2.2.2.2.2.2.2.2.2.2.2.2.2.2.2.2.2.2.2.1 g0 g1 g2 g3 g4 (g5 X hX)
theorem gx_forg : g_forg (Gx ad sc) := by
  intro _ _ _ _ _ _ _ _ _ _ g0 X hX
  exact hX.2.2.2.2.2.2.2.2.2.2.2.2.2.2.2.2.2.2.2.2.2.2.2.2.2.2.2.2.2.2.2.2.2.2.2.2.2.2.2.2.2.2.2.2.2.2.2.2.2.2.2.2.2.2.2.2.2.2.2.2.2.2.2.2.2.2.2.2.2.2.2.2.2.2.2.2.2.2.2.2.2.2.2.2.2.2.2.2.2.2.2.2.2.1 (g0 X hX)
theorem gx_less : g_less (Gx ad sc) := by
  intro _ _ _ _ _ _ _ _ _ _ _ g0 g1 g2 X hX
  exact hX.2.2.2.2.2.2.2.2.2.2.2.2.2.2.2.2.2.2.2.2.2.2.2.2.2.2.2.2.2.2.2.2.2.2.2.2.2.2.2.2.2.2.2.2.2.2.2.2.2.2.2.2.2.2.2.2.2.2.2.2.2.2.2.2.2.2.2.2.2.2.2.2.2.2.2.2.2.2.2.2.2.2.2.2.2.2.2.2.2.2.2.2.2.2.1 g0 g1 (g2 X hX)
theorem gx_nret : g_nret (Gx ad sc) := by
  intro _ _ _ _ _ _ _ _ _ _ g0 g1 g2 g3 X hX
  exact hX.2.2.2.2.2.2.2.2.2.2.2.2.2.2.2.2.2.2.2.2.2.2.2.2.2.2.2.2.2.2.2.2.2.2.2.2.2.2.2.2.2.2.2.2.2.2.2.2.2.2.2.2.2.2.2.2.2.2.2.2.2.2.2.2.2.2.2.2.2.2.2.2.2.2.2.2.2.2.2.2.2.2.2.2.2.2.2.2.2.2.2.2.2.2.2.1 g0 g1 g2 g3
theorem gx_aret : g_aret (Gx ad sc) := by
  intro _ _ _ _ _ _ _ _ _ _ g0 g1 g2 g3 g4 X hX
  exact hX.2.2.2.2.2.2.2.2.2.2.2.2.2.2.2.2.2.2.2.2.2.2.2.2.2.2.2.2.2.2.2.2.2.2.2.2.2.2.2.2.2.2.2.2.2.2.2.2.2.2.2.2.2.2.2.2.2.2.2.2.2.2.2.2.2.2.2.2.2.2.2.2.2.2.2.2.2.2.2.2.2.2.2.2.2.2.2.2.2.2.2.2.2.2.2.2.1 g0 g1 g2 g3 g4
theorem gx_lret : g_lret (Gx ad sc) := by
  intro _ _ _ _ _ _ _ _ _ g0 g1 g2 X hX
  exact hX.2.2.2.2.2.2.2.2.2.2.2.2.2.2.2.2.2.2.2.2.2.2.2.2.2.2.2.2.2.2.2.2.2.2.2.2.2.2.2.2.2.2.2.2.2.2.2.2.2.2.2.2.2.2.2.2.2.2.2.2.2.2.2.2.2.2.2.2.2.2.2.2.2.2.2.2.2.2.2.2.2.2.2.2.2.2.2.2.2.2.2.2.2.2.2.2.2.1 g0 g1 g2
theorem gx_vret : g_vret (Gx ad sc) := by
  intro _ _ _ _ _ _ _ _ g0 g1 g2 X hX
  exact hX.2.2.2.2.2.2.2.2.2.2.2.2.2.2.2.2.2.2.2.2.2.2.2.2.2.2.2.2.2.2.2.2.2.2.2.2.2.2.2.2.2.2.2.2.2.2.2.2.2.2.2.2.2.2.2.2.2.2.2.2.2.2.2.2.2.2.2.2.2.2.2.2.2.2.2.2.2.2.2.2.2.2.2.2.2.2.2.2.2.2.2.2.2.2.2.2.2.2.1 g0 g1 g2
theorem gx_cv : g_cv (Gx ad sc) := by
  intro _ _ _ _ _ _ _ _ _ _ _ _ _ _ _ _ _ _ _ _ _ g0 g1 g2 g3 g4 g5 g6 g7 g8 g9 g10 g11 X hX
  exact hX.2.2.2.2.2.2.2.2.2.2.2.2.2.2.2.2.2.2.2.2.2.2.2.2.2.2.2.2.2.2.2.2.2.2.2.2.2.2.2.2.2.2.2.2.2.2.2.2.2.2.2.2.2.2.2.2.2.2.2.2.2.2.2.2.2.2.2.2.2.2.2.2.2.2.2.2.2.2.2.2.2.2.2.2.2.2.2.2.2.2.2.2.2.2.2.2.2.2.2.1 g0 g1 g2 g3 g4 g5 g6 g7 g8 g9 (g10 X hX) (fun v u1 h1 q0 => g11 v u1 h1 q0 X hX)
theorem gx_cvv : g_cvv (Gx ad sc) := by
  intro _ _ _ _ _ _ _ _ _ _ _ _ _ _ _ _ _ _ _ _ _ g0 g1 g2 g3 g4 g5 g6 g7 g8 g9 g10 g11 X hX
  exact hX.2.2.2.2.2.2.2.2.2.2.2.2.2.2.2.2.2.2.2.2.2.2.2.2.2.2.2.2.2.2.2.2.2.2.2.2.2.2.2.2.2.2.2.2.2.2.2.2.2.2.2.2.2.2.2.2.2.2.2.2.2.2.2.2.2.2.2.2.2.2.2.2.2.2.2.2.2.2.2.2.2.2.2.2.2.2.2.2.2.2.2.2.2.2.2.2.2.2.2.2.1 g0 g1 g2 g3 g4 g5 g6 g7 g8 g9 (g10 X hX) (fun u1 h1 q0 => g11 u1 h1 q0 X hX)
theorem gx_cs : g_cs (Gx ad sc) := by
  intro _ _ _ _ _ _ _ _ _ _ _ _ _ _ _ _ g0 g1 g2 g3 g4 g5 g6 g7 g8 g9 X hX
  exact hX.2.2.2.2.2.2.2.2.2.2.2.2.2.2.2.2.2.2.2.2.2.2.2.2.2.2.2.2.2.2.2.2.2.2.2.2.2.2.2.2.2.2.2.2.2.2.2.2.2.2.2.2.2.2.2.2.2.2.2.2.2.2.2.2.2.2.2.2.2.2.2.2.2.2.2.2.2.2.2.2.2.2.2.2.2.2.2.2.2.2.2.2.2.2.2.2.2.2.2.2.2.1 g0 g1 g2 g3 g4 g5 g6 g7 (g8 X hX) (fun v u1 h1 q0 => g9 v u1 h1 q0 X hX)
theorem gx_csv : g_csv (Gx ad sc) := by
  intro _ _ _ _ _ _ _ _ _ _ _ _ _ _ _ _ g0 g1 g2 g3 g4 g5 g6 g7 g8 g9 X hX
  exact hX.2.2.2.2.2.2.2.2.2.2.2.2.2.2.2.2.2.2.2.2.2.2.2.2.2.2.2.2.2.2.2.2.2.2.2.2.2.2.2.2.2.2.2.2.2.2.2.2.2.2.2.2.2.2.2.2.2.2.2.2.2.2.2.2.2.2.2.2.2.2.2.2.2.2.2.2.2.2.2.2.2.2.2.2.2.2.2.2.2.2.2.2.2.2.2.2.2.2.2.2.2.2.1 g0 g1 g2 g3 g4 g5 g6 g7 (g8 X hX) (fun u1 h1 q0 => g9 u1 h1 q0 X hX)
theorem gx_ci : g_ci (Gx ad sc) := by
  intro _ _ _ _ _ _ _ _ _ _ _ _ _ _ _ _ _ g0 g1 g2 g3 g4 g5 g6 g7 g8 X hX
  exact hX.2.2.2.2.2.2.2.2.2.2.2.2.2.2.2.2.2.2.2.2.2.2.2.2.2.2.2.2.2.2.2.2.2.2.2.2.2.2.2.2.2.2.2.2.2.2.2.2.2.2.2.2.2.2.2.2.2.2.2.2.2.2.2.2.2.2.2.2.2.2.2.2.2.2.2.2.2.2.2.2.2.2.2.2.2.2.2.2.2.2.2.2.2.2.2.2.2.2.2.2.2.2.2.1 g0 g1 g2 g3 g4 g5 g6 (g7 X hX) (fun u1 h1 q0 => g8 u1 h1 q0 X hX)
theorem gx_cn : g_cn (Gx ad sc) := by
  intro _ _ _ _ _ _ _ _ _ _ _ _ _ _ _ _ _ g0 g1 g2 g3 g4 g5 g6 g7 g8 X hX
  exact hX.2.2.2.2.2.2.2.2.2.2.2.2.2.2.2.2.2.2.2.2.2.2.2.2.2.2.2.2.2.2.2.2.2.2.2.2.2.2.2.2.2.2.2.2.2.2.2.2.2.2.2.2.2.2.2.2.2.2.2.2.2.2.2.2.2.2.2.2.2.2.2.2.2.2.2.2.2.2.2.2.2.2.2.2.2.2.2.2.2.2.2.2.2.2.2.2.2.2.2.2.2.2.2.2.1 g0 g1 g2 g3 g4 g5 g6 (g7 X hX) (fun u1 h1 q0 => g8 u1 h1 q0 X hX)
theorem gx_mna : g_mna (Gx ad sc) := by
  intro _ _ _ _ _ _ _ _ _ _ _ _ _ _ g0 g1 g2 g3 g4 g5 g6 g7 g8 g9 g10 X hX
  exact hX.2.2.2.2.2.2.2.2.2.2.2.2.2.2.2.2.2.2.2.2.2.2.2.2.2.2.2.2.2.2.2.2.2.2.2.2.2.2.2.2.2.2.2.2.2.2.2.2.2.2.2.2.2.2.2.2.2.2.2.2.2.2.2.2.2.2.2.2.2.2.2.2.2.2.2.2.2.2.2.2.2.2.2.2.2.2.2.2.2.2.2.2.2.2.2.2.2.2.2.2.2.2.2.2.2.1 g0 g1 g2 g3 g4 g5 g6 g7 g8 g9 (fun a q0 => g10 a q0 X hX)
theorem gx_cam : g_cam ad (Gx ad sc) := by
  intro _ _ _ _ _ _ _ _ _ _ _ _ _ _ g0 g1 g2 g3 g4 g5 g6 g7 g8 g9 g10 X hX
  exact hX.2.2.2.2.2.2.2.2.2.2.2.2.2.2.2.2.2.2.2.2.2.2.2.2.2.2.2.2.2.2.2.2.2.2.2.2.2.2.2.2.2.2.2.2.2.2.2.2.2.2.2.2.2.2.2.2.2.2.2.2.2.2.2.2.2.2.2.2.2.2.2.2.2.2.2.2.2.2.2.2.2.2.2.2.2.2.2.2.2.2.2.2.2.2.2.2.2.2.2.2.2.2.2.2.2.2.1 g0 g1 g2 g3 g4 g5 g6 g7 g8 g9 (fun r u1 q0 => g10 r u1 q0 X hX)
theorem gx_cwr : g_cwr ad (Gx ad sc) := by
  intro _ _ _ _ _ _ _ _ _ _ _ _ _ _ _ g0 g1 g2 g3 g4 g5 g6 g7 g8 X hX
  exact hX.2.2.2.2.2.2.2.2.2.2.2.2.2.2.2.2.2.2.2.2.2.2.2.2.2.2.2.2.2.2.2.2.2.2.2.2.2.2.2.2.2.2.2.2.2.2.2.2.2.2.2.2.2.2.2.2.2.2.2.2.2.2.2.2.2.2.2.2.2.2.2.2.2.2.2.2.2.2.2.2.2.2.2.2.2.2.2.2.2.2.2.2.2.2.2.2.2.2.2.2.2.2.2.2.2.2.2.1 g0 g1 g2 g3 g4 g5 g6 g7 (fun r u1 q0 => g8 r u1 q0 X hX)
theorem gx_cck : g_cck ad (Gx ad sc) := by
  intro _ _ _ _ _ _ _ _ _ _ _ g0 g1 g2 g3 g4 g5 X hX
  exact hX.2.2.2.2.2.2.2.2.2.2.2.2.2.2.2.2.2.2.2.2.2.2.2.2.2.2.2.2.2.2.2.2.2.2.2.2.2.2.2.2.2.2.2.2.2.2.2.2.2.2.2.2.2.2.2.2.2.2.2.2.2.2.2.2.2.2.2.2.2.2.2.2.2.2.2.2.2.2.2.2.2.2.2.2.2.2.2.2.2.2.2.2.2.2.2.2.2.2.2.2.2.2.2.2.2.2.2.2.1 g0 g1 g2 g3 g4 (fun r u1 q0 => g5 r u1 q0 X hX)
theorem gx_tlen : g_tlen ad (Gx ad sc) := by
  intro _ _ _ _ _ _ _ _ _ _ _ _ g0 g1 g2 g3 g4 g5 X hX
  exact hX.2.2.2.2.2.2.2.2.2.2.2.2.2.2.2.2.2.2.2.2.2.2.2.2.2.2.2.2.2.2.2.2.2.2.2.2.2.2.2.2.2.2.2.2.2.2.2.2.2.2.2.2.2.2.2.2.2.2.2.2.2.2.2.2.2.2.2.2.2.2.2.2.2.2.2.2.2.2.2.2.2.2.2.2.2.2.2.2.2.2.2.2.2.2.2.2.2.2.2.2.2.2.2.2.2.2.2.2.2.1 g0 g1 g2 g3 g4 (g5 X hX)
theorem gx_tchr : g_tchr ad (Gx ad sc) := by
  intro _ _ _ _ _ _ _ _ _ _ _ _ _ _ g0 g1 g2 g3 g4 g5 g6 g7 X hX
  exact hX.2.2.2.2.2.2.2.2.2.2.2.2.2.2.2.2.2.2.2.2.2.2.2.2.2.2.2.2.2.2.2.2.2.2.2.2.2.2.2.2.2.2.2.2.2.2.2.2.2.2.2.2.2.2.2.2.2.2.2.2.2.2.2.2.2.2.2.2.2.2.2.2.2.2.2.2.2.2.2.2.2.2.2.2.2.2.2.2.2.2.2.2.2.2.2.2.2.2.2.2.2.2.2.2.2.2.2.2.2.2.1 g0 g1 g2 g3 g4 g5 g6 (g7 X hX)
theorem gx_sci : g_sci (Gx ad sc) := by
  intro _ _ _ _ _ _ _ _ _ _ _ _ g0 g1 g2 g3 g4 g5 X hX
  exact hX.2.2.2.2.2.2.2.2.2.2.2.2.2.2.2.2.2.2.2.2.2.2.2.2.2.2.2.2.2.2.2.2.2.2.2.2.2.2.2.2.2.2.2.2.2.2.2.2.2.2.2.2.2.2.2.2.2.2.2.2.2.2.2.2.2.2.2.2.2.2.2.2.2.2.2.2.2.2.2.2.2.2.2.2.2.2.2.2.2.2.2.2.2.2.2.2.2.2.2.2.2.2.2.2.2.2.2.2.2.2.2.1 g0 g1 g2 g3 g4 (g5 X hX)
theorem gx_tcod : g_tcod ad (Gx ad sc) := by
  intro _ _ _ _ _ _ _ _ _ _ _ g0 g1 g2 g3 g4 X hX
  exact hX.2.2.2.2.2.2.2.2.2.2.2.2.2.2.2.2.2.2.2.2.2.2.2.2.2.2.2.2.2.2.2.2.2.2.2.2.2.2.2.2.2.2.2.2.2.2.2.2.2.2.2.2.2.2.2.2.2.2.2.2.2.2.2.2.2.2.2.2.2.2.2.2.2.2.2.2.2.2.2.2.2.2.2.2.2.2.2.2.2.2.2.2.2.2.2.2.2.2.2.2.2.2.2.2.2.2.2.2.2.2.2.2.1 g0 g1 g2 g3 (g4 X hX)
theorem gx_cvL : g_cvL ad (Gx ad sc) := by
  intro _ _ _ _ _ _ _ _ _ _ _ _ _ _ _ _ _ g0 g1 g2 g3 g4 g5 g6 g7 g8 g9 g10 g11 X hX
  exact hX.2.2.2.2.2.2.2.2.2.2.2.2.2.2.2.2.2.2.2.2.2.2.2.2.2.2.2.2.2.2.2.2.2.2.2.2.2.2.2.2.2.2.2.2.2.2.2.2.2.2.2.2.2.2.2.2.2.2.2.2.2.2.2.2.2.2.2.2.2.2.2.2.2.2.2.2.2.2.2.2.2.2.2.2.2.2.2.2.2.2.2.2.2.2.2.2.2.2.2.2.2.2.2.2.2.2.2.2.2.2.2.2.2.1 g0 g1 g2 g3 g4 g5 g6 g7 g8 g9 (g10 X hX) (fun u1 h1 q0 => g11 u1 h1 q0 X hX)
theorem gx_cu : g_cu (Gx ad sc) := by
  intro _ _ _ _ _ _ _ _ _ _ _ _ _ _ _ _ _ _ _ _ _ _ _ g0 g1 g2 g3 g4 g5 g6 g7 g8 g9 g10 g11 X hX
  exact hX.2.2.2.2.2.2.2.2.2.2.2.2.2.2.2.2.2.2.2.2.2.2.2.2.2.2.2.2.2.2.2.2.2.2.2.2.2.2.2.2.2.2.2.2.2.2.2.2.2.2.2.2.2.2.2.2.2.2.2.2.2.2.2.2.2.2.2.2.2.2.2.2.2.2.2.2.2.2.2.2.2.2.2.2.2.2.2.2.2.2.2.2.2.2.2.2.2.2.2.2.2.2.2.2.2.2.2.2.2.2.2.2.2.2.1 g0 g1 g2 g3 g4 g5 g6 g7 g8 g9 (g10 X hX) (fun v u1 h1 q0 => g11 v u1 h1 q0 X hX)
theorem gx_cpv : g_cpv (Gx ad sc) := by
  intro _ _ _ _ _ _ _ _ _ _ _ _ _ _ _ _ _ _ _ _ _ _ g0 g1 g2 g3 g4 g5 g6 g7 g8 g9 g10 g11 X hX
  exact hX.2.2.2.2.2.2.2.2.2.2.2.2.2.2.2.2.2.2.2.2.2.2.2.2.2.2.2.2.2.2.2.2.2.2.2.2.2.2.2.2.2.2.2.2.2.2.2.2.2.2.2.2.2.2.2.2.2.2.2.2.2.2.2.2.2.2.2.2.2.2.2.2.2.2.2.2.2.2.2.2.2.2.2.2.2.2.2.2.2.2.2.2.2.2.2.2.2.2.2.2.2.2.2.2.2.2.2.2.2.2.2.2.2.2.2.1 g0 g1 g2 g3 g4 g5 g6 g7 g8 g9 (g10 X hX) (fun u1 h1 q0 => g11 u1 h1 q0 X hX)
theorem gx_csu : g_csu (Gx ad sc) := by
  intro _ _ _ _ _ _ _ _ _ _ _ _ _ _ _ _ _ _ _ _ _ _ g0 g1 g2 g3 g4 g5 g6 g7 g8 g9 g10 g11 X hX
  exact hX.2.2.2.2.2.2.2.2.2.2.2.2.2.2.2.2.2.2.2.2.2.2.2.2.2.2.2.2.2.2.2.2.2.2.2.2.2.2.2.2.2.2.2.2.2.2.2.2.2.2.2.2.2.2.2.2.2.2.2.2.2.2.2.2.2.2.2.2.2.2.2.2.2.2.2.2.2.2.2.2.2.2.2.2.2.2.2.2.2.2.2.2.2.2.2.2.2.2.2.2.2.2.2.2.2.2.2.2.2.2.2.2.2.2.2.2 g0 g1 g2 g3 g4 g5 g6 g7 g8 g9 (g10 X hX) (fun v u1 h1 q0 => g11 v u1 h1 q0 X hX)
end RWG
