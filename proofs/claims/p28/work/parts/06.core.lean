/-! THE PURE MACHINE (AM). A method is a tuple: name, code, locals, answer, frames and locals' words that its callees take. A heap: a cell for each place below NC; references are places. Above: 1000+j the j-th static table, 2000+j the j-th text. -/
abbrev mt : Type := MethodName × ByteArray × Nat × Option FieldType × Nat × Nat
abbrev hp : Type := Nat → va_E
abbrev qt : Type := Value → hp → Prop
abbrev xt : Type := Option String → mt → Nat → List Value → List Value → hp → qt → Prop
def gT : List Cond := lw_tbl.filter goodWord
theorem gT_mem {w : Cond} (i : Nat) (h : lw_tbl[i]? = some w) (g : goodWord w = true) : w ∈ gT := List.mem_filter.mpr ⟨List.mem_of_getElem? h, g⟩
theorem gT_good {w : Cond} (h : w ∈ gT) : (w.onTables && w.keeps) = true ∨ ∃ ty, w = .arrayClass ty := good_of_word (List.mem_filter.mp h).2
/-- a class of objects: its place among the kit's classes, its table of fields -/
def ckC (ci : Nat) (C : String) (T : u_T) (N : Nat) (ty : Nat → FieldType) : Prop := vwCl[ci]? = some (C, T, N) ∧ (∀ w ∈ u_ws C T N, w ∈ gT) ∧ (∀ k, k < N → parseFieldDescriptor (T k).2.2.1 = some (ty k)) ∧ ∀ a, a < N → ∀ b, b < N → a ≠ b → (T a).2.1 ≠ (T b).2.1
/-- the four static tables: NEIGHBOUR_X, NEIGHBOUR_Y, WAY_X, WAY_Y -/
def tabF (j i : Nat) : Int32 := (([[0, -1, 1, 0], [-1, 0, 0, 1], [0, 0, -1, 1], [-1, 1, 0, 0]] : List (List Int32)).getD j []).getD i 0
def tabN (j : Nat) : String := (["NEIGHBOUR_X", "NEIGHBOUR_Y", "WAY_X", "WAY_Y"] : List String).getD j ""
def pad (n : Nat) (vs : List Value) : List Value := vs ++ List.replicate (n - vs.length) .null
/-- a call's link: virtual (C: the receiver's class) or static -/
def lnB (M : mt) (ix : Nat) (Y : mt) (n : Nat) : Prop := Cond.methodLink M.1.cls ix Y.1 ∈ gT ∧ Cond.initialized Y.1.cls ∈ gT ∧ Cond.code Y.1 Y.2.1 Y.2.2.1 Y.2.2.2.1 ∈ gT ∧ (Y.1.cls ≠ "java/lang/invoke/MethodHandle" ∧ Y.1.cls ≠ "java/lang/invoke/VarHandle" ∧ (parseMethodDescriptor Y.1.desc).map (fun d => d.parameters.length) = some n) ∧ plainName Y.1.cls = true ∧ Y.2.2.2.2.1 + 1 ≤ M.2.2.2.2.1 ∧ 8 + (Y.2.2.1 + 11) + Y.2.2.2.2.2 ≤ M.2.2.2.2.2
def lnV (M : mt) (ix : Nat) (Y : mt) (n : Nat) : Prop := lnB M ix Y n ∧ Cond.instanceMethod Y.1 ∈ gT ∧ Cond.selects Y.1.cls Y.1 Y.1 ∈ gT ∧ n + 1 ≤ Y.2.2.1
def lnS (M : mt) (ix : Nat) (Y : mt) (n : Nat) : Prop := lnB M ix Y n ∧ Cond.static Y.1 ∈ gT ∧ n ≤ Y.2.2.1
def cat1 (vs : List Value) : Prop := vs.all (fun v => v.category == 1) = true
def catS (S : List Value) : Prop := (S.map fun v => v.category).sum ≤ 8
/-- the static tables' reads: class, entry, which -/
def getsL : List (String × Nat × Nat) := [("KitePainter", 205, 2), ("KitePainter", 212, 3), ("KitePainter$RegionFinder", 62, 0), ("KitePainter$RegionFinder", 65, 1), ("KitePainter$Sail", 132, 0), ("KitePainter$Sail", 135, 1)]
/-- the texts: class, entry, which, the text -/
def strL : List (String × Nat × Nat × String) := [("KitePainter$SetupReader", 103, 0, "kite"), ("KitePainter$SetupReader", 117, 1, "reach"), ("KitePainter$SetupReader", 122, 2, "cloth"), ("KitePainter$SetupReader", 130, 3, "wood"), ("KitePainter$SetupReader", 134, 4, "colour"), ("KitePainter$SetupReader", 140, 5, "mix"), ("KitePainter$SetupReader", 145, 6, "spar"), ("KitePainter$SetupReader", 171, 7, "down"), ("KitePainter$SetupReader", 173, 8, "across"), ("KitePainter$SetupReader", 150, 9, "pattern"), ("KitePainter", 119, 10, "no such number of the state"), ("KitePainter", 249, 11, "no cell of the sail"), ("KitePainter", 148, 12, "no such number of a cell"), ("KitePainter", 254, 13, "a number out of range"), ("KitePainter", 252, 14, "no such pattern"), ("KitePainter", 199, 15, "no such number of a pattern"), ("KitePainter", 225, 16, "the cell has no spar"), ("KitePainter", 228, 17, "the cell is bare")]
/-- the texts' bytes -/
def txtB : List (List Int32) := [[107, 105, 116, 101], [114, 101, 97, 99, 104], [99, 108, 111, 116, 104], [119, 111, 111, 100], [99, 111, 108, 111, 117, 114], [109, 105, 120], [115, 112, 97, 114], [100, 111, 119, 110], [97, 99, 114, 111, 115, 115], [112, 97, 116, 116, 101, 114, 110], [110, 111, 32, 115, 117, 99, 104, 32, 110, 117, 109, 98, 101, 114, 32, 111, 102, 32, 116, 104, 101, 32, 115, 116, 97, 116, 101], [110, 111, 32, 99, 101, 108, 108, 32, 111, 102, 32, 116, 104, 101, 32, 115, 97, 105, 108], [110, 111, 32, 115, 117, 99, 104, 32, 110, 117, 109, 98, 101, 114, 32, 111, 102, 32, 97, 32, 99, 101, 108, 108], [97, 32, 110, 117, 109, 98, 101, 114, 32, 111, 117, 116, 32, 111, 102, 32, 114, 97, 110, 103, 101], [110, 111, 32, 115, 117, 99, 104, 32, 112, 97, 116, 116, 101, 114, 110], [110, 111, 32, 115, 117, 99, 104, 32, 110, 117, 109, 98, 101, 114, 32, 111, 102, 32, 97, 32, 112, 97, 116, 116, 101, 114, 110], [116, 104, 101, 32, 99, 101, 108, 108, 32, 104, 97, 115, 32, 110, 111, 32, 115, 112, 97, 114], [116, 104, 101, 32, 99, 101, 108, 108, 32, 105, 115, 32, 98, 97, 114, 101], [32], [59], [59, 119, 111, 111, 100], [115, 112, 97, 114, 32, 100, 111, 119, 110], [115, 112, 97, 114, 32, 97, 99, 114, 111, 115, 115], []]
def txtN : List Nat := [4, 5, 5, 4, 6, 3, 4, 4, 6, 7, 27, 19, 24, 21, 15, 27, 20, 16, 1, 1, 5, 9, 11, 0]
/-- the throws: method, where, the class -/
def thrL : List (MethodName × Nat × String) := [(yX5_state, 173, "java/lang/IllegalArgumentException"), (yX5_cell, 112, "java/lang/IllegalArgumentException"), (yX5_pattern, 61, "java/lang/IllegalArgumentException"), (yX5_strip, 28, "java/lang/IllegalStateException"), (yX5_wash, 26, "java/lang/IllegalStateException"), (yX5_requireCell, 12, "java/lang/IndexOutOfBoundsException"), (yX5_requirePattern, 15, "java/lang/IndexOutOfBoundsException"), (yX5_requireRange, 10, "java/lang/IllegalArgumentException")]
/-- the library's members: class, entry, which: 0 max, 1 min, 2 abs, 3 compare, 4 signum, 5 fill, 6 arraycopy, 7 length, 8 charAt -/
def libL : List (String × Nat × Nat) := [("KitePainter", 170, 2), ("KitePainter$Bleeding", 39, 6), ("KitePainter$History", 25, 1), ("KitePainter$RegionFinder", 21, 5), ("KitePainter$Sail", 62, 5), ("KitePainter$Sail", 68, 6), ("KitePainter$Sail", 85, 3), ("KitePainter$Sail", 94, 0), ("KitePainter$SetupReader", 19, 1), ("KitePainter$SetupReader", 76, 7), ("KitePainter$SetupReader", 81, 8)]
/-- the room that they take -/
def lbR (M : mt) (f : Nat) : Prop := if f = 8 then 5 ≤ M.2.2.2.2.1 ∧ 110 ≤ M.2.2.2.2.2 else if f = 7 then 3 ≤ M.2.2.2.2.1 ∧ 60 ≤ M.2.2.2.2.2 else 2 ≤ M.2.2.2.2.1 ∧ 50 ≤ M.2.2.2.2.2

section CL
variable (NC : Nat) (X : xt)
def k_iconst : Prop := ∀ {b : Option String} {M : mt} {pc : Nat} {L S : List Value} {h : hp} {Q : qt} {n : Int} {v : Int32}, Int32.ofInt n = v → decode M.2.1 pc = .ok (.iconst n, 1) → X b M (pc + 1) L (.int v :: S) h Q → X b M pc L (S) h Q
def k_bipush : Prop := ∀ {b : Option String} {M : mt} {pc : Nat} {L S : List Value} {h : hp} {Q : qt} {n : Int} {v : Int32}, (Int8.ofInt n).toInt32 = v → decode M.2.1 pc = .ok (.bipush n, 2) → X b M (pc + 2) L (.int v :: S) h Q → X b M pc L (S) h Q
def k_sipush : Prop := ∀ {b : Option String} {M : mt} {pc : Nat} {L S : List Value} {h : hp} {Q : qt} {n : Int} {v : Int32}, (Int16.ofInt n).toInt32 = v → decode M.2.1 pc = .ok (.sipush n, 3) → X b M (pc + 3) L (.int v :: S) h Q → X b M pc L (S) h Q
def k_ldcI : Prop := ∀ {b : Option String} {M : mt} {pc : Nat} {L S : List Value} {h : hp} {Q : qt} {ix : Nat} {v : Int32}, Cond.constant M.1.cls ix v ∈ gT → decode M.2.1 pc = .ok (.ldc ix, 2) → X b M (pc + 2) L (.int v :: S) h Q → X b M pc L (S) h Q
def k_iload_n : Prop := ∀ {b : Option String} {M : mt} {pc : Nat} {L S : List Value} {h : hp} {Q : qt} {k : Fin 4} {i : Nat} {x : Int32}, (k : Nat) = i → L[i]? = some (.int x) → decode M.2.1 pc = .ok (.iload_n k, 1) → X b M (pc + 1) L (.int x :: S) h Q → X b M pc L (S) h Q
def k_iload : Prop := ∀ {b : Option String} {M : mt} {pc : Nat} {L S : List Value} {h : hp} {Q : qt} {i : Nat} {x : Int32}, L[i]? = some (.int x) → decode M.2.1 pc = .ok (.iload i, 2) → X b M (pc + 2) L (.int x :: S) h Q → X b M pc L (S) h Q
def k_aload_n : Prop := ∀ {b : Option String} {M : mt} {pc : Nat} {L S : List Value} {h : hp} {Q : qt} {k : Fin 4} {i : Nat} {x : Nat}, (k : Nat) = i → L[i]? = some (.ref x) → decode M.2.1 pc = .ok (.aload_n k, 1) → X b M (pc + 1) L (.ref x :: S) h Q → X b M pc L (S) h Q
def k_aload : Prop := ∀ {b : Option String} {M : mt} {pc : Nat} {L S : List Value} {h : hp} {Q : qt} {i : Nat} {x : Nat}, L[i]? = some (.ref x) → decode M.2.1 pc = .ok (.aload i, 2) → X b M (pc + 2) L (.ref x :: S) h Q → X b M pc L (S) h Q
def k_iadd : Prop := ∀ {b : Option String} {M : mt} {pc : Nat} {L S : List Value} {h : hp} {Q : qt} {x y : Int32}, decode M.2.1 pc = .ok (.iadd, 1) → X b M (pc + 1) L (.int (x + y) :: S) h Q → X b M pc L (.int y :: .int x :: S) h Q
def k_isub : Prop := ∀ {b : Option String} {M : mt} {pc : Nat} {L S : List Value} {h : hp} {Q : qt} {x y : Int32}, decode M.2.1 pc = .ok (.isub, 1) → X b M (pc + 1) L (.int (x - y) :: S) h Q → X b M pc L (.int y :: .int x :: S) h Q
def k_imul : Prop := ∀ {b : Option String} {M : mt} {pc : Nat} {L S : List Value} {h : hp} {Q : qt} {x y : Int32}, decode M.2.1 pc = .ok (.imul, 1) → X b M (pc + 1) L (.int (x * y) :: S) h Q → X b M pc L (.int y :: .int x :: S) h Q
def k_iand : Prop := ∀ {b : Option String} {M : mt} {pc : Nat} {L S : List Value} {h : hp} {Q : qt} {x y : Int32}, decode M.2.1 pc = .ok (.iand, 1) → X b M (pc + 1) L (.int (x &&& y) :: S) h Q → X b M pc L (.int y :: .int x :: S) h Q
def k_ior : Prop := ∀ {b : Option String} {M : mt} {pc : Nat} {L S : List Value} {h : hp} {Q : qt} {x y : Int32}, decode M.2.1 pc = .ok (.ior, 1) → X b M (pc + 1) L (.int (x ||| y) :: S) h Q → X b M pc L (.int y :: .int x :: S) h Q
def k_ishl : Prop := ∀ {b : Option String} {M : mt} {pc : Nat} {L S : List Value} {h : hp} {Q : qt} {x y : Int32}, decode M.2.1 pc = .ok (.ishl, 1) → X b M (pc + 1) L (.int (x <<< (y &&& 31)) :: S) h Q → X b M pc L (.int y :: .int x :: S) h Q
def k_ishr : Prop := ∀ {b : Option String} {M : mt} {pc : Nat} {L S : List Value} {h : hp} {Q : qt} {x y : Int32}, decode M.2.1 pc = .ok (.ishr, 1) → X b M (pc + 1) L (.int (x >>> (y &&& 31)) :: S) h Q → X b M pc L (.int y :: .int x :: S) h Q
def k_idiv : Prop := ∀ {b : Option String} {M : mt} {pc : Nat} {L S : List Value} {h : hp} {Q : qt} {x y : Int32}, ¬ y = 0 → decode M.2.1 pc = .ok (.idiv, 1) → X b M (pc + 1) L (.int (x / y) :: S) h Q → X b M pc L (.int y :: .int x :: S) h Q
def k_irem : Prop := ∀ {b : Option String} {M : mt} {pc : Nat} {L S : List Value} {h : hp} {Q : qt} {x y : Int32}, ¬ y = 0 → decode M.2.1 pc = .ok (.irem, 1) → X b M (pc + 1) L (.int (x - x / y * y) :: S) h Q → X b M pc L (.int y :: .int x :: S) h Q
def k_ineg : Prop := ∀ {b : Option String} {M : mt} {pc : Nat} {L S : List Value} {h : hp} {Q : qt} {x : Int32}, decode M.2.1 pc = .ok (.ineg, 1) → X b M (pc + 1) L (.int (-x) :: S) h Q → X b M pc L (.int x :: S) h Q
def k_iushr : Prop := ∀ {b : Option String} {M : mt} {pc : Nat} {L S : List Value} {h : hp} {Q : qt} {x y v : Int32}, (x.toUInt32 >>> (y.toUInt32 &&& Int32.toUInt32 31)).toInt32 = v → decode M.2.1 pc = .ok (.iushr, 1) → X b M (pc + 1) L (.int v :: S) h Q → X b M pc L (.int y :: .int x :: S) h Q
def k_i2b : Prop := ∀ {b : Option String} {M : mt} {pc : Nat} {L S : List Value} {h : hp} {Q : qt} {x v : Int32}, x.toInt8.toInt32 = v → decode M.2.1 pc = .ok (.i2b, 1) → X b M (pc + 1) L (.int v :: S) h Q → X b M pc L (.int x :: S) h Q
def k_dup : Prop := ∀ {b : Option String} {M : mt} {pc : Nat} {L S : List Value} {h : hp} {Q : qt} {v : Value}, v.category = 1 → decode M.2.1 pc = .ok (.dup, 1) → X b M (pc + 1) L (v :: v :: S) h Q → X b M pc L (v :: S) h Q
def k_dup2 : Prop := ∀ {b : Option String} {M : mt} {pc : Nat} {L S : List Value} {h : hp} {Q : qt} {v w : Value}, v.category = 1 → w.category = 1 → decode M.2.1 pc = .ok (.dup2, 1) → X b M (pc + 1) L (v :: w :: v :: w :: S) h Q → X b M pc L (v :: w :: S) h Q
def k_pop : Prop := ∀ {b : Option String} {M : mt} {pc : Nat} {L S : List Value} {h : hp} {Q : qt} {v : Value}, v.category = 1 → decode M.2.1 pc = .ok (.pop, 1) → X b M (pc + 1) L (S) h Q → X b M pc L (v :: S) h Q
def k_fconst0 : Prop := ∀ {b : Option String} {M : mt} {pc : Nat} {L S : List Value} {h : hp} {Q : qt} , decode M.2.1 pc = .ok (.fconst 0, 1) → X b M (pc + 1) L (.float FP.fconst0 :: S) h Q → X b M pc L (S) h Q
def k_i2f : Prop := ∀ {b : Option String} {M : mt} {pc : Nat} {L S : List Value} {h : hp} {Q : qt} {x : Int32}, decode M.2.1 pc = .ok (.i2f, 1) → X b M (pc + 1) L (.float (FP.i2f x) :: S) h Q → X b M pc L (.int x :: S) h Q
def k_fdiv : Prop := ∀ {b : Option String} {M : mt} {pc : Nat} {L S : List Value} {h : hp} {Q : qt} {x y : UInt32}, vf_n32 (FP.fdiv x y) → decode M.2.1 pc = .ok (.fdiv, 1) → X b M (pc + 1) L (.float (FP.fdiv x y) :: S) h Q → X b M pc L (.float y :: .float x :: S) h Q
def k_getf : Prop := ∀ {b : Option String} {M : mt} {pc : Nat} {L S : List Value} {h : hp} {Q : qt} {ci ix k : Nat} {C : String} {T : u_T} {N : Nat} {ty : Nat → FieldType} {a : Nat} {fs : List Value} {v : Value}, ckC ci C T N ty → k < N → Cond.fieldLink M.1.cls ix (T k).1 (T k).2.1 (T k).2.2.1 ∈ gT → a < NC → h a = .inr (ci, fs) → fs[k]? = some v → decode M.2.1 pc = .ok (.getfield ix, 3) → X b M (pc + 3) L (v :: S) h Q → X b M pc L (.ref a :: S) h Q
def k_iald : Prop := ∀ {b : Option String} {M : mt} {pc : Nat} {L S : List Value} {h : hp} {Q : qt} {a n : Nat} {f : Nat → Int32} {i : Int32}, a < NC → h a = .inl (0, n, .inl f) → vp_in i n → decode M.2.1 pc = .ok (.iaload, 1) → X b M (pc + 1) L (.int (f i.toNatClampNeg) :: S) h Q → X b M pc L (.int i :: .ref a :: S) h Q
def k_bald : Prop := ∀ {b : Option String} {M : mt} {pc : Nat} {L S : List Value} {h : hp} {Q : qt} {a n : Nat} {f : Nat → Int32} {i : Int32}, a < NC → h a = .inl (1, n, .inl f) → vp_in i n → decode M.2.1 pc = .ok (.baload, 1) → X b M (pc + 1) L (.int (f i.toNatClampNeg) :: S) h Q → X b M pc L (.int i :: .ref a :: S) h Q
def k_zald : Prop := ∀ {b : Option String} {M : mt} {pc : Nat} {L S : List Value} {h : hp} {Q : qt} {a n : Nat} {f : Nat → Int32} {i : Int32}, a < NC → h a = .inl (2, n, .inl f) → vp_in i n → decode M.2.1 pc = .ok (.baload, 1) → X b M (pc + 1) L (.int (f i.toNatClampNeg) :: S) h Q → X b M pc L (.int i :: .ref a :: S) h Q
def k_aald : Prop := ∀ {b : Option String} {M : mt} {pc : Nat} {L S : List Value} {h : hp} {Q : qt} {a n : Nat} {f : Nat → Option Nat} {i : Int32} {q : Nat}, a < NC → h a = .inl (3, n, .inr (.inr (.inr (.inr f)))) → vp_in i n → f i.toNatClampNeg = some q → decode M.2.1 pc = .ok (.aaload, 1) → X b M (pc + 1) L (.ref q :: S) h Q → X b M pc L (.int i :: .ref a :: S) h Q
def k_aalg : Prop := ∀ {b : Option String} {M : mt} {pc : Nat} {L S : List Value} {h : hp} {Q : qt} {a n : Nat} {f : Nat → Option Nat} {i : Int32} {q : Nat}, a < NC → h a = .inl (4, n, .inr (.inr (.inr (.inr f)))) → vp_in i n → f i.toNatClampNeg = some q → decode M.2.1 pc = .ok (.aaload, 1) → X b M (pc + 1) L (.ref q :: S) h Q → X b M pc L (.int i :: .ref a :: S) h Q
def k_alen : Prop := ∀ {b : Option String} {M : mt} {pc : Nat} {L S : List Value} {h : hp} {Q : qt} {a n t : Nat} {f : Nat → Int32} {v : Int32}, a < NC → h a = .inl (t, n, .inl f) → t < 3 → Int32.ofNat n = v → decode M.2.1 pc = .ok (.arraylength, 1) → X b M (pc + 1) L (.int v :: S) h Q → X b M pc L (.ref a :: S) h Q
def k_tld : Prop := ∀ {b : Option String} {M : mt} {pc : Nat} {L S : List Value} {h : hp} {Q : qt} {j : Nat} {i v : Int32}, j < 4 → vp_in i 4 → tabF j i.toNatClampNeg = v → decode M.2.1 pc = .ok (.iaload, 1) → X b M (pc + 1) L (.int v :: S) h Q → X b M pc L (.int i :: .ref (1000 + j) :: S) h Q
def k_tlen : Prop := ∀ {b : Option String} {M : mt} {pc : Nat} {L S : List Value} {h : hp} {Q : qt} {j : Nat} {v : Int32}, j < 4 → v = 4 → decode M.2.1 pc = .ok (.arraylength, 1) → X b M (pc + 1) L (.int v :: S) h Q → X b M pc L (.ref (1000 + j) :: S) h Q
def k_gets : Prop := ∀ {b : Option String} {M : mt} {pc : Nat} {L S : List Value} {h : hp} {Q : qt} {ix j : Nat}, (M.1.cls, ix, j) ∈ getsL → decode M.2.1 pc = .ok (.getstatic ix, 3) → X b M (pc + 3) L (.ref (1000 + j) :: S) h Q → X b M pc L (S) h Q
def k_ldcS : Prop := ∀ {b : Option String} {M : mt} {pc : Nat} {L S : List Value} {h : hp} {Q : qt} {ix j : Nat} {tx : String}, (M.1.cls, ix, j, tx) ∈ strL → decode M.2.1 pc = .ok (.ldc ix, 2) → X b M (pc + 2) L (.ref (2000 + j) :: S) h Q → X b M pc L (S) h Q
def k_if_eq : Prop := ∀ {b : Option String} {M : mt} {pc : Nat} {L S : List Value} {h : hp} {Q : qt} {x : Int32} {off : Int} {tgt : Nat}, decode M.2.1 pc = .ok (.ifCond .eq off, 3) → (pc : Int) + off = (tgt : Int) → (x = 0 → X b M tgt L S h Q) → (¬ (x = 0) → X b M (pc + 3) L S h Q) → X b M pc L (.int x :: S) h Q
-- row if_eq: intro _ _ _ _ _ _ _ _ _ _ g0 g1 k1 k2 X hX\nexact PROJ g0 g1 (fun q => k1 q X hX) (fun q => k2 q X hX)
def k_if_ne : Prop := ∀ {b : Option String} {M : mt} {pc : Nat} {L S : List Value} {h : hp} {Q : qt} {x : Int32} {off : Int} {tgt : Nat}, decode M.2.1 pc = .ok (.ifCond .ne off, 3) → (pc : Int) + off = (tgt : Int) → ((¬ x = 0) → X b M tgt L S h Q) → (¬ (¬ x = 0) → X b M (pc + 3) L S h Q) → X b M pc L (.int x :: S) h Q
-- row if_ne: intro _ _ _ _ _ _ _ _ _ _ g0 g1 k1 k2 X hX\nexact PROJ g0 g1 (fun q => k1 q X hX) (fun q => k2 q X hX)
def k_if_lt : Prop := ∀ {b : Option String} {M : mt} {pc : Nat} {L S : List Value} {h : hp} {Q : qt} {x : Int32} {off : Int} {tgt : Nat}, decode M.2.1 pc = .ok (.ifCond .lt off, 3) → (pc : Int) + off = (tgt : Int) → (x < 0 → X b M tgt L S h Q) → (¬ (x < 0) → X b M (pc + 3) L S h Q) → X b M pc L (.int x :: S) h Q
-- row if_lt: intro _ _ _ _ _ _ _ _ _ _ g0 g1 k1 k2 X hX\nexact PROJ g0 g1 (fun q => k1 q X hX) (fun q => k2 q X hX)
def k_if_ge : Prop := ∀ {b : Option String} {M : mt} {pc : Nat} {L S : List Value} {h : hp} {Q : qt} {x : Int32} {off : Int} {tgt : Nat}, decode M.2.1 pc = .ok (.ifCond .ge off, 3) → (pc : Int) + off = (tgt : Int) → (0 ≤ x → X b M tgt L S h Q) → (¬ (0 ≤ x) → X b M (pc + 3) L S h Q) → X b M pc L (.int x :: S) h Q
-- row if_ge: intro _ _ _ _ _ _ _ _ _ _ g0 g1 k1 k2 X hX\nexact PROJ g0 g1 (fun q => k1 q X hX) (fun q => k2 q X hX)
def k_if_gt : Prop := ∀ {b : Option String} {M : mt} {pc : Nat} {L S : List Value} {h : hp} {Q : qt} {x : Int32} {off : Int} {tgt : Nat}, decode M.2.1 pc = .ok (.ifCond .gt off, 3) → (pc : Int) + off = (tgt : Int) → (0 < x → X b M tgt L S h Q) → (¬ (0 < x) → X b M (pc + 3) L S h Q) → X b M pc L (.int x :: S) h Q
-- row if_gt: intro _ _ _ _ _ _ _ _ _ _ g0 g1 k1 k2 X hX\nexact PROJ g0 g1 (fun q => k1 q X hX) (fun q => k2 q X hX)
def k_if_le : Prop := ∀ {b : Option String} {M : mt} {pc : Nat} {L S : List Value} {h : hp} {Q : qt} {x : Int32} {off : Int} {tgt : Nat}, decode M.2.1 pc = .ok (.ifCond .le off, 3) → (pc : Int) + off = (tgt : Int) → (x ≤ 0 → X b M tgt L S h Q) → (¬ (x ≤ 0) → X b M (pc + 3) L S h Q) → X b M pc L (.int x :: S) h Q
-- row if_le: intro _ _ _ _ _ _ _ _ _ _ g0 g1 k1 k2 X hX\nexact PROJ g0 g1 (fun q => k1 q X hX) (fun q => k2 q X hX)
def k_icmp_eq : Prop := ∀ {b : Option String} {M : mt} {pc : Nat} {L S : List Value} {h : hp} {Q : qt} {x y : Int32} {off : Int} {tgt : Nat}, decode M.2.1 pc = .ok (.if_icmp .eq off, 3) → (pc : Int) + off = (tgt : Int) → ((x = y) → X b M tgt L S h Q) → (¬ (x = y) → X b M (pc + 3) L S h Q) → X b M pc L (.int y :: .int x :: S) h Q
-- row icmp_eq: intro _ _ _ _ _ _ _ _ _ _ _ g0 g1 k1 k2 X hX\nexact PROJ g0 g1 (fun q => k1 q X hX) (fun q => k2 q X hX)
def k_icmp_ne : Prop := ∀ {b : Option String} {M : mt} {pc : Nat} {L S : List Value} {h : hp} {Q : qt} {x y : Int32} {off : Int} {tgt : Nat}, decode M.2.1 pc = .ok (.if_icmp .ne off, 3) → (pc : Int) + off = (tgt : Int) → ((¬ x = y) → X b M tgt L S h Q) → (¬ (¬ x = y) → X b M (pc + 3) L S h Q) → X b M pc L (.int y :: .int x :: S) h Q
-- row icmp_ne: intro _ _ _ _ _ _ _ _ _ _ _ g0 g1 k1 k2 X hX\nexact PROJ g0 g1 (fun q => k1 q X hX) (fun q => k2 q X hX)
def k_icmp_lt : Prop := ∀ {b : Option String} {M : mt} {pc : Nat} {L S : List Value} {h : hp} {Q : qt} {x y : Int32} {off : Int} {tgt : Nat}, decode M.2.1 pc = .ok (.if_icmp .lt off, 3) → (pc : Int) + off = (tgt : Int) → ((x < y) → X b M tgt L S h Q) → (¬ (x < y) → X b M (pc + 3) L S h Q) → X b M pc L (.int y :: .int x :: S) h Q
-- row icmp_lt: intro _ _ _ _ _ _ _ _ _ _ _ g0 g1 k1 k2 X hX\nexact PROJ g0 g1 (fun q => k1 q X hX) (fun q => k2 q X hX)
def k_icmp_ge : Prop := ∀ {b : Option String} {M : mt} {pc : Nat} {L S : List Value} {h : hp} {Q : qt} {x y : Int32} {off : Int} {tgt : Nat}, decode M.2.1 pc = .ok (.if_icmp .ge off, 3) → (pc : Int) + off = (tgt : Int) → ((y ≤ x) → X b M tgt L S h Q) → (¬ (y ≤ x) → X b M (pc + 3) L S h Q) → X b M pc L (.int y :: .int x :: S) h Q
-- row icmp_ge: intro _ _ _ _ _ _ _ _ _ _ _ g0 g1 k1 k2 X hX\nexact PROJ g0 g1 (fun q => k1 q X hX) (fun q => k2 q X hX)
def k_icmp_gt : Prop := ∀ {b : Option String} {M : mt} {pc : Nat} {L S : List Value} {h : hp} {Q : qt} {x y : Int32} {off : Int} {tgt : Nat}, decode M.2.1 pc = .ok (.if_icmp .gt off, 3) → (pc : Int) + off = (tgt : Int) → ((y < x) → X b M tgt L S h Q) → (¬ (y < x) → X b M (pc + 3) L S h Q) → X b M pc L (.int y :: .int x :: S) h Q
-- row icmp_gt: intro _ _ _ _ _ _ _ _ _ _ _ g0 g1 k1 k2 X hX\nexact PROJ g0 g1 (fun q => k1 q X hX) (fun q => k2 q X hX)
def k_icmp_le : Prop := ∀ {b : Option String} {M : mt} {pc : Nat} {L S : List Value} {h : hp} {Q : qt} {x y : Int32} {off : Int} {tgt : Nat}, decode M.2.1 pc = .ok (.if_icmp .le off, 3) → (pc : Int) + off = (tgt : Int) → ((x ≤ y) → X b M tgt L S h Q) → (¬ (x ≤ y) → X b M (pc + 3) L S h Q) → X b M pc L (.int y :: .int x :: S) h Q
-- row icmp_le: intro _ _ _ _ _ _ _ _ _ _ _ g0 g1 k1 k2 X hX\nexact PROJ g0 g1 (fun q => k1 q X hX) (fun q => k2 q X hX)
def k_goto : Prop := ∀ {b : Option String} {M : mt} {pc : Nat} {L S : List Value} {h : hp} {Q : qt} {off : Int} {tgt : Nat}, decode M.2.1 pc = .ok (.goto off, 3) → (pc : Int) + off = (tgt : Int) → X b M tgt L S h Q → X b M pc L S h Q
-- row goto: intro _ _ _ _ _ _ _ _ _ g0 g1 k X hX\nexact PROJ g0 g1 (k X hX)
def k_tabI : Prop := ∀ {b : Option String} {M : mt} {pc : Nat} {L S : List Value} {h : hp} {Q : qt} {dflt lo hi : Int} {offs : Array Int} {len : Nat} {x : Int32} {off : Int} {tgt : Nat}, decode M.2.1 pc = .ok (.tableswitch dflt lo hi offs, len) → ¬ x.toInt < lo → ¬ hi < x.toInt → offs[(x.toInt - lo).toNat]? = some off → (pc : Int) + off = (tgt : Int) → X b M tgt L S h Q → X b M pc L (.int x :: S) h Q
-- row tabI: intro _ _ _ _ _ _ _ _ _ _ _ _ _ _ _ g0 g1 g2 g3 g4 k X hX\nexact PROJ g0 g1 g2 g3 g4 (k X hX)
def k_tabO : Prop := ∀ {b : Option String} {M : mt} {pc : Nat} {L S : List Value} {h : hp} {Q : qt} {dflt lo hi : Int} {offs : Array Int} {len : Nat} {x : Int32} {tgt : Nat}, decode M.2.1 pc = .ok (.tableswitch dflt lo hi offs, len) → (x.toInt < lo ∨ hi < x.toInt) → (pc : Int) + dflt = (tgt : Int) → X b M tgt L S h Q → X b M pc L (.int x :: S) h Q
-- row tabO: intro _ _ _ _ _ _ _ _ _ _ _ _ _ _ g0 g1 g2 k X hX\nexact PROJ g0 g1 g2 (k X hX)
def k_istore_n : Prop := ∀ {b : Option String} {M : mt} {pc : Nat} {L S : List Value} {h : hp} {Q : qt} {k : Fin 4} {i : Nat} {x : Int32}, decode M.2.1 pc = .ok (.istore_n k, 1) → (k : Nat) = i → i < M.2.2.1 → X b M (pc + 1) (L.set i (.int x)) S h Q → X b M pc L (.int x :: S) h Q
-- row istore_n: intro _ _ _ _ _ _ _ _ _ _ g0 g1 g2 k X hX\nexact PROJ g0 g1 g2 (k X hX)
def k_istore : Prop := ∀ {b : Option String} {M : mt} {pc : Nat} {L S : List Value} {h : hp} {Q : qt} {i : Nat} {x : Int32}, decode M.2.1 pc = .ok (.istore i, 2) → i < M.2.2.1 → X b M (pc + 2) (L.set i (.int x)) S h Q → X b M pc L (.int x :: S) h Q
-- row istore: intro _ _ _ _ _ _ _ _ _ g0 g1 k X hX\nexact PROJ g0 g1 (k X hX)
def k_astore_n : Prop := ∀ {b : Option String} {M : mt} {pc : Nat} {L S : List Value} {h : hp} {Q : qt} {k : Fin 4} {i : Nat} {x : Nat}, decode M.2.1 pc = .ok (.astore_n k, 1) → (k : Nat) = i → i < M.2.2.1 → X b M (pc + 1) (L.set i (.ref x)) S h Q → X b M pc L (.ref x :: S) h Q
-- row astore_n: intro _ _ _ _ _ _ _ _ _ _ g0 g1 g2 k X hX\nexact PROJ g0 g1 g2 (k X hX)
def k_astore : Prop := ∀ {b : Option String} {M : mt} {pc : Nat} {L S : List Value} {h : hp} {Q : qt} {i : Nat} {x : Nat}, decode M.2.1 pc = .ok (.astore i, 2) → i < M.2.2.1 → X b M (pc + 2) (L.set i (.ref x)) S h Q → X b M pc L (.ref x :: S) h Q
-- row astore: intro _ _ _ _ _ _ _ _ _ g0 g1 k X hX\nexact PROJ g0 g1 (k X hX)
def k_iinc : Prop := ∀ {b : Option String} {M : mt} {pc : Nat} {L S : List Value} {h : hp} {Q : qt} {i : Nat} {n : Int} {x v : Int32}, decode M.2.1 pc = .ok (.iinc i n, 3) → L[i]? = some (.int x) → x + Int32.ofInt n = v → i < M.2.2.1 → X b M (pc + 3) (L.set i (.int v)) S h Q → X b M pc L S h Q
-- row iinc: intro _ _ _ _ _ _ _ _ _ _ _ g0 g1 g2 g3 k X hX\nexact PROJ g0 g1 g2 g3 (k X hX)
def k_putf : Prop := ∀ {b : Option String} {M : mt} {pc : Nat} {L S : List Value} {h : hp} {Q : qt} {ci ix k : Nat} {C : String} {T : u_T} {N : Nat} {ty : Nat → FieldType} {a : Nat} {fs : List Value} {x : Int32}, decode M.2.1 pc = .ok (.putfield ix, 3) → ckC ci C T N ty → k < N → Cond.fieldLink M.1.cls ix (T k).1 (T k).2.1 (T k).2.2.1 ∈ gT → a < NC → h a = .inr (ci, fs) → (T k).2.2.2 = false → (ty k = .int ∨ ty k = .boolean ∧ (x = 0 ∨ x = 1)) → k < fs.length → X b M (pc + 3) L S (va_up h a (.inr (ci, fs.set k (.int x)))) Q → X b M pc L (.int x :: .ref a :: S) h Q
-- row putf: intro _ _ _ _ _ _ _ _ _ _ _ _ _ _ _ _ _ g0 g1 g2 g3 g4 g5 g6 g7 g8 k X hX\nexact PROJ g0 g1 g2 g3 g4 g5 g6 g7 g8 (k X hX)
def k_iast : Prop := ∀ {b : Option String} {M : mt} {pc : Nat} {L S : List Value} {h : hp} {Q : qt} {a n : Nat} {f : Nat → Int32} {i x : Int32}, decode M.2.1 pc = .ok (.iastore, 1) → a < NC → h a = .inl (0, n, .inl f) → vp_in i n → X b M (pc + 1) L S (va_up h a (.inl (0, n, .inl (upd f i.toNatClampNeg x)))) Q → X b M pc L (.int x :: .int i :: .ref a :: S) h Q
-- row iast: intro _ _ _ _ _ _ _ _ _ _ _ _ g0 g1 g2 g3 k X hX\nexact PROJ g0 g1 g2 g3 (k X hX)
def k_bast : Prop := ∀ {b : Option String} {M : mt} {pc : Nat} {L S : List Value} {h : hp} {Q : qt} {a n : Nat} {f : Nat → Int32} {i x : Int32}, decode M.2.1 pc = .ok (.bastore, 1) → a < NC → h a = .inl (1, n, .inl f) → vp_in i n → X b M (pc + 1) L S (va_up h a (.inl (1, n, .inl (upd f i.toNatClampNeg (vp_nar .byte x))))) Q → X b M pc L (.int x :: .int i :: .ref a :: S) h Q
-- row bast: intro _ _ _ _ _ _ _ _ _ _ _ _ g0 g1 g2 g3 k X hX\nexact PROJ g0 g1 g2 g3 (k X hX)
def k_zast : Prop := ∀ {b : Option String} {M : mt} {pc : Nat} {L S : List Value} {h : hp} {Q : qt} {a n : Nat} {f : Nat → Int32} {i x : Int32}, decode M.2.1 pc = .ok (.bastore, 1) → a < NC → h a = .inl (2, n, .inl f) → vp_in i n → X b M (pc + 1) L S (va_up h a (.inl (2, n, .inl (upd f i.toNatClampNeg (vp_nar .boolean x))))) Q → X b M pc L (.int x :: .int i :: .ref a :: S) h Q
-- row zast: intro _ _ _ _ _ _ _ _ _ _ _ _ g0 g1 g2 g3 k X hX\nexact PROJ g0 g1 g2 g3 (k X hX)
def k_iret : Prop := ∀ {M : mt} {pc : Nat} {L : List Value} {h : hp} {Q : qt} {x : Int32}, decode M.2.1 pc = .ok (.ireturn, 1) → M.2.2.2.1 = some .int → Q (.int x) h → X none M pc L [.int x] h Q
-- row iret: intro _ _ _ _ _ _ g0 g1 g2 X hX\nexact PROJ g0 g1 g2
def k_zret : Prop := ∀ {M : mt} {pc : Nat} {L : List Value} {h : hp} {Q : qt} {x : Int32}, decode M.2.1 pc = .ok (.ireturn, 1) → M.2.2.2.1 = some .boolean → x = 0 ∨ x = 1 → Q (.int x) h → X none M pc L [.int x] h Q
-- row zret: intro _ _ _ _ _ _ g0 g1 g2 g3 X hX\nexact PROJ g0 g1 g2 g3
def k_vret : Prop := ∀ {M : mt} {pc : Nat} {L : List Value} {h : hp} {Q : qt}, decode M.2.1 pc = .ok (.return_, 1) → M.2.2.2.1 = none → Q .null h → X none M pc L [] h Q
-- row vret: intro _ _ _ _ _ g0 g1 g2 X hX\nexact PROJ g0 g1 g2
def k_fret : Prop := ∀ {M : mt} {pc : Nat} {L : List Value} {h : hp} {Q : qt} {x : UInt32}, decode M.2.1 pc = .ok (.freturn, 1) → M.2.2.2.1 = some .float → Q (.float x) h → X none M pc L [.float x] h Q
-- row fret: intro _ _ _ _ _ _ g0 g1 g2 X hX\nexact PROJ g0 g1 g2
def k_cvi : Prop := ∀ {b : Option String} {M : mt} {pc : Nat} {L S : List Value} {h : hp} {Q : qt} {ix n a ci : Nat} {Y : mt} {As fs : List Value} {T : u_T} {N : Nat} {Q1 : qt}, decode M.2.1 pc = .ok (.invokevirtual ix, 3) → lnV M ix Y n → As.length = n → cat1 As → catS S → a < NC → h a = .inr (ci, fs) → vwCl[ci]? = some (Y.1.cls, T, N) → (Y.2.2.2.1 = some .int ∨ Y.2.2.2.1 = some .boolean) → X none Y 0 (pad Y.2.2.1 (.ref a :: As)) [] h Q1 → (∀ r h1, Q1 (.int r) h1 → X b M (pc + 3) L (.int r :: S) h1 Q) → X b M pc L (As.reverse ++ .ref a :: S) h Q
def k_csi : Prop := ∀ {b : Option String} {M : mt} {pc : Nat} {L S : List Value} {h : hp} {Q : qt} {ix n : Nat} {Y : mt} {As : List Value} {Q1 : qt}, decode M.2.1 pc = .ok (.invokestatic ix, 3) → lnS M ix Y n → As.length = n → cat1 As → catS S → (Y.2.2.2.1 = some .int ∨ Y.2.2.2.1 = some .boolean) → X none Y 0 (pad Y.2.2.1 As) [] h Q1 → (∀ r h1, Q1 (.int r) h1 → X b M (pc + 3) L (.int r :: S) h1 Q) → X b M pc L (As.reverse ++ S) h Q
-- row cvi: intro _ _ _ _ _ _ _ _ _ _ _ _ _ _ _ _ _  g0 g1 g2 g3 g4 g5 g6 g7 g8 k1 k2 X hX\nexact PROJ g0 g1 g2 g3 g4 g5 g6 g7 g8 (k1 X hX) (fun r h1 q => k2 r h1 q X hX)
-- row csi: intro _ _ _ _ _ _ _ _ _ _ _ _  g0 g1 g2 g3 g4 g5 k1 k2 X hX\nexact PROJ g0 g1 g2 g3 g4 g5 (k1 X hX) (fun r h1 q => k2 r h1 q X hX)
def k_cvv : Prop := ∀ {b : Option String} {M : mt} {pc : Nat} {L S : List Value} {h : hp} {Q : qt} {ix n a ci : Nat} {Y : mt} {As fs : List Value} {T : u_T} {N : Nat} {Q1 : qt}, decode M.2.1 pc = .ok (.invokevirtual ix, 3) → lnV M ix Y n → As.length = n → cat1 As → catS S → a < NC → h a = .inr (ci, fs) → vwCl[ci]? = some (Y.1.cls, T, N) → Y.2.2.2.1 = none → X none Y 0 (pad Y.2.2.1 (.ref a :: As)) [] h Q1 → (∀ h1, Q1 .null h1 → X b M (pc + 3) L S h1 Q) → X b M pc L (As.reverse ++ .ref a :: S) h Q
def k_csv : Prop := ∀ {b : Option String} {M : mt} {pc : Nat} {L S : List Value} {h : hp} {Q : qt} {ix n : Nat} {Y : mt} {As : List Value} {Q1 : qt}, decode M.2.1 pc = .ok (.invokestatic ix, 3) → lnS M ix Y n → As.length = n → cat1 As → catS S → Y.2.2.2.1 = none → X none Y 0 (pad Y.2.2.1 As) [] h Q1 → (∀ h1, Q1 .null h1 → X b M (pc + 3) L S h1 Q) → X b M pc L (As.reverse ++ S) h Q
-- row cvv: intro _ _ _ _ _ _ _ _ _ _ _ _ _ _ _ _ _  g0 g1 g2 g3 g4 g5 g6 g7 g8 k1 k2 X hX\nexact PROJ g0 g1 g2 g3 g4 g5 g6 g7 g8 (k1 X hX) (fun h1 q => k2 h1 q X hX)
-- row csv: intro _ _ _ _ _ _ _ _ _ _ _ _  g0 g1 g2 g3 g4 g5 k1 k2 X hX\nexact PROJ g0 g1 g2 g3 g4 g5 (k1 X hX) (fun h1 q => k2 h1 q X hX)
def k_cvx : Prop := ∀ {E : String} {M : mt} {pc : Nat} {L S : List Value} {h : hp} {Q : qt} {ix n a ci : Nat} {Y : mt} {As fs : List Value} {T : u_T} {N : Nat} {Q1 : qt}, decode M.2.1 pc = .ok (.invokevirtual ix, 3) → lnV M ix Y n → As.length = n → cat1 As → catS S → a < NC → h a = .inr (ci, fs) → vwCl[ci]? = some (Y.1.cls, T, N) → Y.2.2.2.1 = none → X (some E) Y 0 (pad Y.2.2.1 (.ref a :: As)) [] h Q1 → (∀ h1, Q1 .null h1 → Q .null h1) → X (some E) M pc L (As.reverse ++ .ref a :: S) h Q
def k_csx : Prop := ∀ {E : String} {M : mt} {pc : Nat} {L S : List Value} {h : hp} {Q : qt} {ix n : Nat} {Y : mt} {As : List Value} {Q1 : qt}, decode M.2.1 pc = .ok (.invokestatic ix, 3) → lnS M ix Y n → As.length = n → cat1 As → catS S → Y.2.2.2.1 = none → X (some E) Y 0 (pad Y.2.2.1 As) [] h Q1 → (∀ h1, Q1 .null h1 → Q .null h1) → X (some E) M pc L (As.reverse ++ S) h Q
-- row cvx: intro _ _ _ _ _ _ _ _ _ _ _ _ _ _ _ _ _  g0 g1 g2 g3 g4 g5 g6 g7 g8 k1 k2 X hX\nexact PROJ g0 g1 g2 g3 g4 g5 g6 g7 g8 (k1 X hX) k2
-- row csx: intro _ _ _ _ _ _ _ _ _ _ _ _  g0 g1 g2 g3 g4 g5 k1 k2 X hX\nexact PROJ g0 g1 g2 g3 g4 g5 (k1 X hX) k2
def k_thr : Prop := ∀ {E : String} {M : mt} {pc : Nat} {L : List Value} {h : hp} {Q : qt}, (M.1, pc, E) ∈ thrL → 8 ≤ M.2.2.2.2.1 → 120 ≤ M.2.2.2.2.2 → Q .null h → X (some E) M pc L [] h Q
-- row thr: intro _ _ _ _ _ _ g0 g1 g2 g3 X hX\nexact PROJ g0 g1 g2 g3
def k_l_max : Prop := ∀ {b : Option String} {M : mt} {pc : Nat} {L S : List Value} {h : hp} {Q : qt} {ix : Nat} {x y : Int32}, decode M.2.1 pc = .ok (.invokestatic ix, 3) → (M.1.cls, ix, 0) ∈ libL → lbR M 0 → catS S → X b M (pc + 3) L (.int (if x < y then y else x) :: S) h Q → X b M pc L (.int y :: .int x :: S) h Q
-- row l_max: intro _ _ _ _ _ _ _ _ _ _  g0 g1 g2 g3 k X hX\nexact PROJ g0 g1 g2 g3 (k X hX)
def k_l_min : Prop := ∀ {b : Option String} {M : mt} {pc : Nat} {L S : List Value} {h : hp} {Q : qt} {ix : Nat} {x y : Int32}, decode M.2.1 pc = .ok (.invokestatic ix, 3) → (M.1.cls, ix, 1) ∈ libL → lbR M 1 → catS S → X b M (pc + 3) L (.int (if x ≤ y then x else y) :: S) h Q → X b M pc L (.int y :: .int x :: S) h Q
-- row l_min: intro _ _ _ _ _ _ _ _ _ _  g0 g1 g2 g3 k X hX\nexact PROJ g0 g1 g2 g3 (k X hX)
def k_l_abs : Prop := ∀ {b : Option String} {M : mt} {pc : Nat} {L S : List Value} {h : hp} {Q : qt} {ix : Nat} {x : Int32}, decode M.2.1 pc = .ok (.invokestatic ix, 3) → (M.1.cls, ix, 2) ∈ libL → lbR M 2 → catS S → X b M (pc + 3) L (.int (if 0 ≤ x then x else -x) :: S) h Q → X b M pc L (.int x :: S) h Q
-- row l_abs: intro _ _ _ _ _ _ _ _ _  g0 g1 g2 g3 k X hX\nexact PROJ g0 g1 g2 g3 (k X hX)
def k_l_compare : Prop := ∀ {b : Option String} {M : mt} {pc : Nat} {L S : List Value} {h : hp} {Q : qt} {ix : Nat} {x y : Int32}, decode M.2.1 pc = .ok (.invokestatic ix, 3) → (M.1.cls, ix, 3) ∈ libL → lbR M 3 → catS S → X b M (pc + 3) L (.int (if x < y then -1 else if x = y then 0 else 1) :: S) h Q → X b M pc L (.int y :: .int x :: S) h Q
-- row l_compare: intro _ _ _ _ _ _ _ _ _ _  g0 g1 g2 g3 k X hX\nexact PROJ g0 g1 g2 g3 (k X hX)
def k_l_fill : Prop := ∀ {b : Option String} {M : mt} {pc : Nat} {L S : List Value} {h : hp} {Q : qt} {ix : Nat} {a n : Nat} {f : Nat → Int32} {v : Int32}, decode M.2.1 pc = .ok (.invokestatic ix, 3) → (M.1.cls, ix, 5) ∈ libL → lbR M 5 → catS S → a < NC → h a = .inl (0, n, .inl f) → n < 100000 → X b M (pc + 3) L (S) (va_up h a (.inl (0, n, .inl (fun _ => v)))) Q → X b M pc L (.int v :: .ref a :: S) h Q
-- row l_fill: intro _ _ _ _ _ _ _ _ _ _ _ _  g0 g1 g2 g3 g4 g5 g6 k X hX\nexact PROJ g0 g1 g2 g3 g4 g5 g6 (k X hX)
def k_l_copy : Prop := ∀ {b : Option String} {M : mt} {pc : Nat} {L S : List Value} {h : hp} {Q : qt} {ix : Nat} {a c n0 n1 : Nat} {f g : Nat → Int32} {n : Int32}, decode M.2.1 pc = .ok (.invokestatic ix, 3) → (M.1.cls, ix, 6) ∈ libL → lbR M 6 → catS S → a < NC → c < NC → h a = .inl (0, n0, .inl f) → h c = .inl (0, n1, .inl g) → ¬ n < 0 → n.toNatClampNeg ≤ n0 → n.toNatClampNeg ≤ n1 → X b M (pc + 3) L (S) (va_up h c (.inl (0, n1, .inl (va_cpy f g 0 0 n.toNatClampNeg)))) Q → X b M pc L (.int n :: .int 0 :: .ref c :: .int 0 :: .ref a :: S) h Q
-- row l_copy: intro _ _ _ _ _ _ _ _ _ _ _ _ _ _ _  g0 g1 g2 g3 g4 g5 g6 g7 g8 g9 g10 k X hX\nexact PROJ g0 g1 g2 g3 g4 g5 g6 g7 g8 g9 g10 (k X hX)
def k_l_length : Prop := ∀ {b : Option String} {M : mt} {pc : Nat} {L S : List Value} {h : hp} {Q : qt} {ix : Nat} {j : Nat} {v : Int32}, decode M.2.1 pc = .ok (.invokevirtual ix, 3) → (M.1.cls, ix, 7) ∈ libL → lbR M 7 → catS S → j < 24 → Int32.ofNat (txtN.getD j 0) = v → X b M (pc + 3) L (.int v :: S) h Q → X b M pc L (.ref (2000 + j) :: S) h Q
-- row l_length: intro _ _ _ _ _ _ _ _ _ _  g0 g1 g2 g3 g4 g5 k X hX\nexact PROJ g0 g1 g2 g3 g4 g5 (k X hX)
def k_l_charAt : Prop := ∀ {b : Option String} {M : mt} {pc : Nat} {L S : List Value} {h : hp} {Q : qt} {ix : Nat} {j i : Nat} {x v : Int32}, decode M.2.1 pc = .ok (.invokevirtual ix, 3) → (M.1.cls, ix, 8) ∈ libL → lbR M 8 → catS S → j < 24 → i < txtN.getD j 0 → x = nI i → (txtB.getD j []).getD i 0 = v → X b M (pc + 3) L (.int v :: S) h Q → X b M pc L (.int x :: .ref (2000 + j) :: S) h Q
-- row l_charAt: intro _ _ _ _ _ _ _ _ _ _ _ _  g0 g1 g2 g3 g4 g5 g6 g7 k X hX\nexact PROJ g0 g1 g2 g3 g4 g5 g6 g7 (k X hX)

def am_cl : Prop := k_iconst X ∧ k_bipush X ∧ k_sipush X ∧ k_ldcI X ∧ k_iload_n X ∧ k_iload X ∧ k_aload_n X ∧ k_aload X ∧ k_iadd X ∧ k_isub X ∧ k_imul X ∧ k_iand X ∧ k_ior X ∧ k_ishl X ∧ k_ishr X ∧ k_idiv X ∧ k_irem X ∧ k_ineg X ∧ k_iushr X ∧ k_i2b X ∧ k_dup X ∧ k_dup2 X ∧ k_pop X ∧ k_fconst0 X ∧ k_i2f X ∧ k_fdiv X ∧ k_getf NC X ∧ k_iald NC X ∧ k_bald NC X ∧ k_zald NC X ∧ k_aald NC X ∧ k_aalg NC X ∧ k_alen NC X ∧ k_tld X ∧ k_tlen X ∧ k_gets X ∧ k_ldcS X ∧ k_if_eq X ∧ k_if_ne X ∧ k_if_lt X ∧ k_if_ge X ∧ k_if_gt X ∧ k_if_le X ∧ k_icmp_eq X ∧ k_icmp_ne X ∧ k_icmp_lt X ∧ k_icmp_ge X ∧ k_icmp_gt X ∧ k_icmp_le X ∧ k_goto X ∧ k_tabI X ∧ k_tabO X ∧ k_istore_n X ∧ k_istore X ∧ k_astore_n X ∧ k_astore X ∧ k_iinc X ∧ k_putf NC X ∧ k_iast NC X ∧ k_bast NC X ∧ k_zast NC X ∧ k_iret X ∧ k_zret X ∧ k_vret X ∧ k_fret X ∧ k_cvi NC X ∧ k_csi X ∧ k_cvv NC X ∧ k_csv X ∧ k_cvx NC X ∧ k_csx X ∧ k_thr X ∧ k_l_max X ∧ k_l_min X ∧ k_l_abs X ∧ k_l_compare X ∧ k_l_fill NC X ∧ k_l_copy NC X ∧ k_l_length X ∧ k_l_charAt X
end CL
def Ex (NC : Nat) (b : Option String) (M : mt) (pc : Nat) (L S : List Value) (h : hp) (Q : qt) : Prop := ∀ X : xt, am_cl NC X → X b M pc L S h Q
theorem ex_iconst {NC : Nat} : k_iconst (Ex NC) := by
  intro _ _ _ _ _ _ _ _ _ g0 g1 k X hX
  exact hX.1 g0 g1 (k X hX)
theorem ex_bipush {NC : Nat} : k_bipush (Ex NC) := by
  intro _ _ _ _ _ _ _ _ _ g0 g1 k X hX
  exact hX.2.1 g0 g1 (k X hX)
theorem ex_sipush {NC : Nat} : k_sipush (Ex NC) := by
  intro _ _ _ _ _ _ _ _ _ g0 g1 k X hX
  exact hX.2.2.1 g0 g1 (k X hX)
theorem ex_ldcI {NC : Nat} : k_ldcI (Ex NC) := by
  intro _ _ _ _ _ _ _ _ _ g0 g1 k X hX
  exact hX.2.2.2.1 g0 g1 (k X hX)
theorem ex_iload_n {NC : Nat} : k_iload_n (Ex NC) := by
  intro _ _ _ _ _ _ _ _ _ _ g0 g1 g2 k X hX
  exact hX.2.2.2.2.1 g0 g1 g2 (k X hX)
theorem ex_iload {NC : Nat} : k_iload (Ex NC) := by
  intro _ _ _ _ _ _ _ _ _ g0 g1 k X hX
  exact hX.2.2.2.2.2.1 g0 g1 (k X hX)
theorem ex_aload_n {NC : Nat} : k_aload_n (Ex NC) := by
  intro _ _ _ _ _ _ _ _ _ _ g0 g1 g2 k X hX
  exact hX.2.2.2.2.2.2.1 g0 g1 g2 (k X hX)
theorem ex_aload {NC : Nat} : k_aload (Ex NC) := by
  intro _ _ _ _ _ _ _ _ _ g0 g1 k X hX
  exact hX.2.2.2.2.2.2.2.1 g0 g1 (k X hX)
theorem ex_iadd {NC : Nat} : k_iadd (Ex NC) := by
  intro _ _ _ _ _ _ _ _ _ g0 k X hX
  exact hX.2.2.2.2.2.2.2.2.1 g0 (k X hX)
theorem ex_isub {NC : Nat} : k_isub (Ex NC) := by
  intro _ _ _ _ _ _ _ _ _ g0 k X hX
  exact hX.2.2.2.2.2.2.2.2.2.1 g0 (k X hX)
theorem ex_imul {NC : Nat} : k_imul (Ex NC) := by
  intro _ _ _ _ _ _ _ _ _ g0 k X hX
  exact hX.2.2.2.2.2.2.2.2.2.2.1 g0 (k X hX)
theorem ex_iand {NC : Nat} : k_iand (Ex NC) := by
  intro _ _ _ _ _ _ _ _ _ g0 k X hX
  exact hX.2.2.2.2.2.2.2.2.2.2.2.1 g0 (k X hX)
theorem ex_ior {NC : Nat} : k_ior (Ex NC) := by
  intro _ _ _ _ _ _ _ _ _ g0 k X hX
  exact hX.2.2.2.2.2.2.2.2.2.2.2.2.1 g0 (k X hX)
theorem ex_ishl {NC : Nat} : k_ishl (Ex NC) := by
  intro _ _ _ _ _ _ _ _ _ g0 k X hX
  exact hX.2.2.2.2.2.2.2.2.2.2.2.2.2.1 g0 (k X hX)
theorem ex_ishr {NC : Nat} : k_ishr (Ex NC) := by
  intro _ _ _ _ _ _ _ _ _ g0 k X hX
  exact hX.2.2.2.2.2.2.2.2.2.2.2.2.2.2.1 g0 (k X hX)
theorem ex_idiv {NC : Nat} : k_idiv (Ex NC) := by
  intro _ _ _ _ _ _ _ _ _ g0 g1 k X hX
  exact hX.2.2.2.2.2.2.2.2.2.2.2.2.2.2.2.1 g0 g1 (k X hX)
theorem ex_irem {NC : Nat} : k_irem (Ex NC) := by
  intro _ _ _ _ _ _ _ _ _ g0 g1 k X hX
  exact hX.2.2.2.2.2.2.2.2.2.2.2.2.2.2.2.2.1 g0 g1 (k X hX)
theorem ex_ineg {NC : Nat} : k_ineg (Ex NC) := by
  intro _ _ _ _ _ _ _ _ g0 k X hX
  exact hX.2.2.2.2.2.2.2.2.2.2.2.2.2.2.2.2.2.1 g0 (k X hX)
theorem ex_iushr {NC : Nat} : k_iushr (Ex NC) := by
  intro _ _ _ _ _ _ _ _ _ _ g0 g1 k X hX
  exact hX.2.2.2.2.2.2.2.2.2.2.2.2.2.2.2.2.2.2.1 g0 g1 (k X hX)
theorem ex_i2b {NC : Nat} : k_i2b (Ex NC) := by
  intro _ _ _ _ _ _ _ _ _ g0 g1 k X hX
  exact hX.2.2.2.2.2.2.2.2.2.2.2.2.2.2.2.2.2.2.2.1 g0 g1 (k X hX)
theorem ex_dup {NC : Nat} : k_dup (Ex NC) := by
  intro _ _ _ _ _ _ _ _ g0 g1 k X hX
  exact hX.2.2.2.2.2.2.2.2.2.2.2.2.2.2.2.2.2.2.2.2.1 g0 g1 (k X hX)
theorem ex_dup2 {NC : Nat} : k_dup2 (Ex NC) := by
  intro _ _ _ _ _ _ _ _ _ g0 g1 g2 k X hX
  exact hX.2.2.2.2.2.2.2.2.2.2.2.2.2.2.2.2.2.2.2.2.2.1 g0 g1 g2 (k X hX)
theorem ex_pop {NC : Nat} : k_pop (Ex NC) := by
  intro _ _ _ _ _ _ _ _ g0 g1 k X hX
  exact hX.2.2.2.2.2.2.2.2.2.2.2.2.2.2.2.2.2.2.2.2.2.2.1 g0 g1 (k X hX)
theorem ex_fconst0 {NC : Nat} : k_fconst0 (Ex NC) := by
  intro _ _ _ _ _ _ _ g0 k X hX
  exact hX.2.2.2.2.2.2.2.2.2.2.2.2.2.2.2.2.2.2.2.2.2.2.2.1 g0 (k X hX)
theorem ex_i2f {NC : Nat} : k_i2f (Ex NC) := by
  intro _ _ _ _ _ _ _ _ g0 k X hX
  exact hX.2.2.2.2.2.2.2.2.2.2.2.2.2.2.2.2.2.2.2.2.2.2.2.2.1 g0 (k X hX)
theorem ex_fdiv {NC : Nat} : k_fdiv (Ex NC) := by
  intro _ _ _ _ _ _ _ _ _ g0 g1 k X hX
  exact hX.2.2.2.2.2.2.2.2.2.2.2.2.2.2.2.2.2.2.2.2.2.2.2.2.2.1 g0 g1 (k X hX)
theorem ex_getf {NC : Nat} : k_getf NC (Ex NC) := by
  intro _ _ _ _ _ _ _ _ _ _ _ _ _ _ _ _ _ g0 g1 g2 g3 g4 g5 g6 k X hX
  exact hX.2.2.2.2.2.2.2.2.2.2.2.2.2.2.2.2.2.2.2.2.2.2.2.2.2.2.1 g0 g1 g2 g3 g4 g5 g6 (k X hX)
theorem ex_iald {NC : Nat} : k_iald NC (Ex NC) := by
  intro _ _ _ _ _ _ _ _ _ _ _ g0 g1 g2 g3 k X hX
  exact hX.2.2.2.2.2.2.2.2.2.2.2.2.2.2.2.2.2.2.2.2.2.2.2.2.2.2.2.1 g0 g1 g2 g3 (k X hX)
theorem ex_bald {NC : Nat} : k_bald NC (Ex NC) := by
  intro _ _ _ _ _ _ _ _ _ _ _ g0 g1 g2 g3 k X hX
  exact hX.2.2.2.2.2.2.2.2.2.2.2.2.2.2.2.2.2.2.2.2.2.2.2.2.2.2.2.2.1 g0 g1 g2 g3 (k X hX)
theorem ex_zald {NC : Nat} : k_zald NC (Ex NC) := by
  intro _ _ _ _ _ _ _ _ _ _ _ g0 g1 g2 g3 k X hX
  exact hX.2.2.2.2.2.2.2.2.2.2.2.2.2.2.2.2.2.2.2.2.2.2.2.2.2.2.2.2.2.1 g0 g1 g2 g3 (k X hX)
theorem ex_aald {NC : Nat} : k_aald NC (Ex NC) := by
  intro _ _ _ _ _ _ _ _ _ _ _ _ g0 g1 g2 g3 g4 k X hX
  exact hX.2.2.2.2.2.2.2.2.2.2.2.2.2.2.2.2.2.2.2.2.2.2.2.2.2.2.2.2.2.2.1 g0 g1 g2 g3 g4 (k X hX)
theorem ex_aalg {NC : Nat} : k_aalg NC (Ex NC) := by
  intro _ _ _ _ _ _ _ _ _ _ _ _ g0 g1 g2 g3 g4 k X hX
  exact hX.2.2.2.2.2.2.2.2.2.2.2.2.2.2.2.2.2.2.2.2.2.2.2.2.2.2.2.2.2.2.2.1 g0 g1 g2 g3 g4 (k X hX)
theorem ex_alen {NC : Nat} : k_alen NC (Ex NC) := by
  intro _ _ _ _ _ _ _ _ _ _ _ _ g0 g1 g2 g3 g4 k X hX
  exact hX.2.2.2.2.2.2.2.2.2.2.2.2.2.2.2.2.2.2.2.2.2.2.2.2.2.2.2.2.2.2.2.2.1 g0 g1 g2 g3 g4 (k X hX)
theorem ex_tld {NC : Nat} : k_tld (Ex NC) := by
  intro _ _ _ _ _ _ _ _ _ _ g0 g1 g2 g3 k X hX
  exact hX.2.2.2.2.2.2.2.2.2.2.2.2.2.2.2.2.2.2.2.2.2.2.2.2.2.2.2.2.2.2.2.2.2.1 g0 g1 g2 g3 (k X hX)
theorem ex_tlen {NC : Nat} : k_tlen (Ex NC) := by
  intro _ _ _ _ _ _ _ _ _ g0 g1 g2 k X hX
  exact hX.2.2.2.2.2.2.2.2.2.2.2.2.2.2.2.2.2.2.2.2.2.2.2.2.2.2.2.2.2.2.2.2.2.2.1 g0 g1 g2 (k X hX)
theorem ex_gets {NC : Nat} : k_gets (Ex NC) := by
  intro _ _ _ _ _ _ _ _ _ g0 g1 k X hX
  exact hX.2.2.2.2.2.2.2.2.2.2.2.2.2.2.2.2.2.2.2.2.2.2.2.2.2.2.2.2.2.2.2.2.2.2.2.1 g0 g1 (k X hX)
theorem ex_ldcS {NC : Nat} : k_ldcS (Ex NC) := by
  intro _ _ _ _ _ _ _ _ _ _ g0 g1 k X hX
  exact hX.2.2.2.2.2.2.2.2.2.2.2.2.2.2.2.2.2.2.2.2.2.2.2.2.2.2.2.2.2.2.2.2.2.2.2.2.1 g0 g1 (k X hX)
theorem ex_if_eq {NC : Nat} : k_if_eq (Ex NC) := by
  intro _ _ _ _ _ _ _ _ _ _ g0 g1 k1 k2 X hX
  exact hX.2.2.2.2.2.2.2.2.2.2.2.2.2.2.2.2.2.2.2.2.2.2.2.2.2.2.2.2.2.2.2.2.2.2.2.2.2.1 g0 g1 (fun q => k1 q X hX) (fun q => k2 q X hX)
theorem ex_if_ne {NC : Nat} : k_if_ne (Ex NC) := by
  intro _ _ _ _ _ _ _ _ _ _ g0 g1 k1 k2 X hX
  exact hX.2.2.2.2.2.2.2.2.2.2.2.2.2.2.2.2.2.2.2.2.2.2.2.2.2.2.2.2.2.2.2.2.2.2.2.2.2.2.1 g0 g1 (fun q => k1 q X hX) (fun q => k2 q X hX)
theorem ex_if_lt {NC : Nat} : k_if_lt (Ex NC) := by
  intro _ _ _ _ _ _ _ _ _ _ g0 g1 k1 k2 X hX
  exact hX.2.2.2.2.2.2.2.2.2.2.2.2.2.2.2.2.2.2.2.2.2.2.2.2.2.2.2.2.2.2.2.2.2.2.2.2.2.2.2.1 g0 g1 (fun q => k1 q X hX) (fun q => k2 q X hX)
theorem ex_if_ge {NC : Nat} : k_if_ge (Ex NC) := by
  intro _ _ _ _ _ _ _ _ _ _ g0 g1 k1 k2 X hX
  exact hX.2.2.2.2.2.2.2.2.2.2.2.2.2.2.2.2.2.2.2.2.2.2.2.2.2.2.2.2.2.2.2.2.2.2.2.2.2.2.2.2.1 g0 g1 (fun q => k1 q X hX) (fun q => k2 q X hX)
theorem ex_if_gt {NC : Nat} : k_if_gt (Ex NC) := by
  intro _ _ _ _ _ _ _ _ _ _ g0 g1 k1 k2 X hX
  exact hX.2.2.2.2.2.2.2.2.2.2.2.2.2.2.2.2.2.2.2.2.2.2.2.2.2.2.2.2.2.2.2.2.2.2.2.2.2.2.2.2.2.1 g0 g1 (fun q => k1 q X hX) (fun q => k2 q X hX)
theorem ex_if_le {NC : Nat} : k_if_le (Ex NC) := by
  intro _ _ _ _ _ _ _ _ _ _ g0 g1 k1 k2 X hX
  exact hX.2.2.2.2.2.2.2.2.2.2.2.2.2.2.2.2.2.2.2.2.2.2.2.2.2.2.2.2.2.2.2.2.2.2.2.2.2.2.2.2.2.2.1 g0 g1 (fun q => k1 q X hX) (fun q => k2 q X hX)
theorem ex_icmp_eq {NC : Nat} : k_icmp_eq (Ex NC) := by
  intro _ _ _ _ _ _ _ _ _ _ _ g0 g1 k1 k2 X hX
  exact hX.2.2.2.2.2.2.2.2.2.2.2.2.2.2.2.2.2.2.2.2.2.2.2.2.2.2.2.2.2.2.2.2.2.2.2.2.2.2.2.2.2.2.2.1 g0 g1 (fun q => k1 q X hX) (fun q => k2 q X hX)
theorem ex_icmp_ne {NC : Nat} : k_icmp_ne (Ex NC) := by
  intro _ _ _ _ _ _ _ _ _ _ _ g0 g1 k1 k2 X hX
  exact hX.2.2.2.2.2.2.2.2.2.2.2.2.2.2.2.2.2.2.2.2.2.2.2.2.2.2.2.2.2.2.2.2.2.2.2.2.2.2.2.2.2.2.2.2.1 g0 g1 (fun q => k1 q X hX) (fun q => k2 q X hX)
theorem ex_icmp_lt {NC : Nat} : k_icmp_lt (Ex NC) := by
  intro _ _ _ _ _ _ _ _ _ _ _ g0 g1 k1 k2 X hX
  exact hX.2.2.2.2.2.2.2.2.2.2.2.2.2.2.2.2.2.2.2.2.2.2.2.2.2.2.2.2.2.2.2.2.2.2.2.2.2.2.2.2.2.2.2.2.2.1 g0 g1 (fun q => k1 q X hX) (fun q => k2 q X hX)
theorem ex_icmp_ge {NC : Nat} : k_icmp_ge (Ex NC) := by
  intro _ _ _ _ _ _ _ _ _ _ _ g0 g1 k1 k2 X hX
  exact hX.2.2.2.2.2.2.2.2.2.2.2.2.2.2.2.2.2.2.2.2.2.2.2.2.2.2.2.2.2.2.2.2.2.2.2.2.2.2.2.2.2.2.2.2.2.2.1 g0 g1 (fun q => k1 q X hX) (fun q => k2 q X hX)
theorem ex_icmp_gt {NC : Nat} : k_icmp_gt (Ex NC) := by
  intro _ _ _ _ _ _ _ _ _ _ _ g0 g1 k1 k2 X hX
  exact hX.2.2.2.2.2.2.2.2.2.2.2.2.2.2.2.2.2.2.2.2.2.2.2.2.2.2.2.2.2.2.2.2.2.2.2.2.2.2.2.2.2.2.2.2.2.2.2.1 g0 g1 (fun q => k1 q X hX) (fun q => k2 q X hX)
theorem ex_icmp_le {NC : Nat} : k_icmp_le (Ex NC) := by
  intro _ _ _ _ _ _ _ _ _ _ _ g0 g1 k1 k2 X hX
  exact hX.2.2.2.2.2.2.2.2.2.2.2.2.2.2.2.2.2.2.2.2.2.2.2.2.2.2.2.2.2.2.2.2.2.2.2.2.2.2.2.2.2.2.2.2.2.2.2.2.1 g0 g1 (fun q => k1 q X hX) (fun q => k2 q X hX)
theorem ex_goto {NC : Nat} : k_goto (Ex NC) := by
  intro _ _ _ _ _ _ _ _ _ g0 g1 k X hX
  exact hX.2.2.2.2.2.2.2.2.2.2.2.2.2.2.2.2.2.2.2.2.2.2.2.2.2.2.2.2.2.2.2.2.2.2.2.2.2.2.2.2.2.2.2.2.2.2.2.2.2.1 g0 g1 (k X hX)
theorem ex_tabI {NC : Nat} : k_tabI (Ex NC) := by
  intro _ _ _ _ _ _ _ _ _ _ _ _ _ _ _ g0 g1 g2 g3 g4 k X hX
  exact hX.2.2.2.2.2.2.2.2.2.2.2.2.2.2.2.2.2.2.2.2.2.2.2.2.2.2.2.2.2.2.2.2.2.2.2.2.2.2.2.2.2.2.2.2.2.2.2.2.2.2.1 g0 g1 g2 g3 g4 (k X hX)
theorem ex_tabO {NC : Nat} : k_tabO (Ex NC) := by
  intro _ _ _ _ _ _ _ _ _ _ _ _ _ _ g0 g1 g2 k X hX
  exact hX.2.2.2.2.2.2.2.2.2.2.2.2.2.2.2.2.2.2.2.2.2.2.2.2.2.2.2.2.2.2.2.2.2.2.2.2.2.2.2.2.2.2.2.2.2.2.2.2.2.2.2.1 g0 g1 g2 (k X hX)
theorem ex_istore_n {NC : Nat} : k_istore_n (Ex NC) := by
  intro _ _ _ _ _ _ _ _ _ _ g0 g1 g2 k X hX
  exact hX.2.2.2.2.2.2.2.2.2.2.2.2.2.2.2.2.2.2.2.2.2.2.2.2.2.2.2.2.2.2.2.2.2.2.2.2.2.2.2.2.2.2.2.2.2.2.2.2.2.2.2.2.1 g0 g1 g2 (k X hX)
theorem ex_istore {NC : Nat} : k_istore (Ex NC) := by
  intro _ _ _ _ _ _ _ _ _ g0 g1 k X hX
  exact hX.2.2.2.2.2.2.2.2.2.2.2.2.2.2.2.2.2.2.2.2.2.2.2.2.2.2.2.2.2.2.2.2.2.2.2.2.2.2.2.2.2.2.2.2.2.2.2.2.2.2.2.2.2.1 g0 g1 (k X hX)
theorem ex_astore_n {NC : Nat} : k_astore_n (Ex NC) := by
  intro _ _ _ _ _ _ _ _ _ _ g0 g1 g2 k X hX
  exact hX.2.2.2.2.2.2.2.2.2.2.2.2.2.2.2.2.2.2.2.2.2.2.2.2.2.2.2.2.2.2.2.2.2.2.2.2.2.2.2.2.2.2.2.2.2.2.2.2.2.2.2.2.2.2.1 g0 g1 g2 (k X hX)
theorem ex_astore {NC : Nat} : k_astore (Ex NC) := by
  intro _ _ _ _ _ _ _ _ _ g0 g1 k X hX
  exact hX.2.2.2.2.2.2.2.2.2.2.2.2.2.2.2.2.2.2.2.2.2.2.2.2.2.2.2.2.2.2.2.2.2.2.2.2.2.2.2.2.2.2.2.2.2.2.2.2.2.2.2.2.2.2.2.1 g0 g1 (k X hX)
theorem ex_iinc {NC : Nat} : k_iinc (Ex NC) := by
  intro _ _ _ _ _ _ _ _ _ _ _ g0 g1 g2 g3 k X hX
  exact hX.2.2.2.2.2.2.2.2.2.2.2.2.2.2.2.2.2.2.2.2.2.2.2.2.2.2.2.2.2.2.2.2.2.2.2.2.2.2.2.2.2.2.2.2.2.2.2.2.2.2.2.2.2.2.2.2.1 g0 g1 g2 g3 (k X hX)
theorem ex_putf {NC : Nat} : k_putf NC (Ex NC) := by
  intro _ _ _ _ _ _ _ _ _ _ _ _ _ _ _ _ _ g0 g1 g2 g3 g4 g5 g6 g7 g8 k X hX
  exact hX.2.2.2.2.2.2.2.2.2.2.2.2.2.2.2.2.2.2.2.2.2.2.2.2.2.2.2.2.2.2.2.2.2.2.2.2.2.2.2.2.2.2.2.2.2.2.2.2.2.2.2.2.2.2.2.2.2.1 g0 g1 g2 g3 g4 g5 g6 g7 g8 (k X hX)
theorem ex_iast {NC : Nat} : k_iast NC (Ex NC) := by
  intro _ _ _ _ _ _ _ _ _ _ _ _ g0 g1 g2 g3 k X hX
  exact hX.2.2.2.2.2.2.2.2.2.2.2.2.2.2.2.2.2.2.2.2.2.2.2.2.2.2.2.2.2.2.2.2.2.2.2.2.2.2.2.2.2.2.2.2.2.2.2.2.2.2.2.2.2.2.2.2.2.2.1 g0 g1 g2 g3 (k X hX)
theorem ex_bast {NC : Nat} : k_bast NC (Ex NC) := by
  intro _ _ _ _ _ _ _ _ _ _ _ _ g0 g1 g2 g3 k X hX
  exact hX.2.2.2.2.2.2.2.2.2.2.2.2.2.2.2.2.2.2.2.2.2.2.2.2.2.2.2.2.2.2.2.2.2.2.2.2.2.2.2.2.2.2.2.2.2.2.2.2.2.2.2.2.2.2.2.2.2.2.2.1 g0 g1 g2 g3 (k X hX)
theorem ex_zast {NC : Nat} : k_zast NC (Ex NC) := by
  intro _ _ _ _ _ _ _ _ _ _ _ _ g0 g1 g2 g3 k X hX
  exact hX.2.2.2.2.2.2.2.2.2.2.2.2.2.2.2.2.2.2.2.2.2.2.2.2.2.2.2.2.2.2.2.2.2.2.2.2.2.2.2.2.2.2.2.2.2.2.2.2.2.2.2.2.2.2.2.2.2.2.2.2.1 g0 g1 g2 g3 (k X hX)
theorem ex_iret {NC : Nat} : k_iret (Ex NC) := by
  intro _ _ _ _ _ _ g0 g1 g2 X hX
  exact hX.2.2.2.2.2.2.2.2.2.2.2.2.2.2.2.2.2.2.2.2.2.2.2.2.2.2.2.2.2.2.2.2.2.2.2.2.2.2.2.2.2.2.2.2.2.2.2.2.2.2.2.2.2.2.2.2.2.2.2.2.2.1 g0 g1 g2
theorem ex_zret {NC : Nat} : k_zret (Ex NC) := by
  intro _ _ _ _ _ _ g0 g1 g2 g3 X hX
  exact hX.2.2.2.2.2.2.2.2.2.2.2.2.2.2.2.2.2.2.2.2.2.2.2.2.2.2.2.2.2.2.2.2.2.2.2.2.2.2.2.2.2.2.2.2.2.2.2.2.2.2.2.2.2.2.2.2.2.2.2.2.2.2.1 g0 g1 g2 g3
theorem ex_vret {NC : Nat} : k_vret (Ex NC) := by
  intro _ _ _ _ _ g0 g1 g2 X hX
  exact hX.2.2.2.2.2.2.2.2.2.2.2.2.2.2.2.2.2.2.2.2.2.2.2.2.2.2.2.2.2.2.2.2.2.2.2.2.2.2.2.2.2.2.2.2.2.2.2.2.2.2.2.2.2.2.2.2.2.2.2.2.2.2.2.1 g0 g1 g2
theorem ex_fret {NC : Nat} : k_fret (Ex NC) := by
  intro _ _ _ _ _ _ g0 g1 g2 X hX
  exact hX.2.2.2.2.2.2.2.2.2.2.2.2.2.2.2.2.2.2.2.2.2.2.2.2.2.2.2.2.2.2.2.2.2.2.2.2.2.2.2.2.2.2.2.2.2.2.2.2.2.2.2.2.2.2.2.2.2.2.2.2.2.2.2.2.1 g0 g1 g2
theorem ex_cvi {NC : Nat} : k_cvi NC (Ex NC) := by
  intro _ _ _ _ _ _ _ _ _ _ _ _ _ _ _ _ _  g0 g1 g2 g3 g4 g5 g6 g7 g8 k1 k2 X hX
  exact hX.2.2.2.2.2.2.2.2.2.2.2.2.2.2.2.2.2.2.2.2.2.2.2.2.2.2.2.2.2.2.2.2.2.2.2.2.2.2.2.2.2.2.2.2.2.2.2.2.2.2.2.2.2.2.2.2.2.2.2.2.2.2.2.2.2.1 g0 g1 g2 g3 g4 g5 g6 g7 g8 (k1 X hX) (fun r h1 q => k2 r h1 q X hX)
theorem ex_csi {NC : Nat} : k_csi (Ex NC) := by
  intro _ _ _ _ _ _ _ _ _ _ _ _  g0 g1 g2 g3 g4 g5 k1 k2 X hX
  exact hX.2.2.2.2.2.2.2.2.2.2.2.2.2.2.2.2.2.2.2.2.2.2.2.2.2.2.2.2.2.2.2.2.2.2.2.2.2.2.2.2.2.2.2.2.2.2.2.2.2.2.2.2.2.2.2.2.2.2.2.2.2.2.2.2.2.2.1 g0 g1 g2 g3 g4 g5 (k1 X hX) (fun r h1 q => k2 r h1 q X hX)
theorem ex_cvv {NC : Nat} : k_cvv NC (Ex NC) := by
  intro _ _ _ _ _ _ _ _ _ _ _ _ _ _ _ _ _  g0 g1 g2 g3 g4 g5 g6 g7 g8 k1 k2 X hX
  exact hX.2.2.2.2.2.2.2.2.2.2.2.2.2.2.2.2.2.2.2.2.2.2.2.2.2.2.2.2.2.2.2.2.2.2.2.2.2.2.2.2.2.2.2.2.2.2.2.2.2.2.2.2.2.2.2.2.2.2.2.2.2.2.2.2.2.2.2.1 g0 g1 g2 g3 g4 g5 g6 g7 g8 (k1 X hX) (fun h1 q => k2 h1 q X hX)
theorem ex_csv {NC : Nat} : k_csv (Ex NC) := by
  intro _ _ _ _ _ _ _ _ _ _ _ _  g0 g1 g2 g3 g4 g5 k1 k2 X hX
  exact hX.2.2.2.2.2.2.2.2.2.2.2.2.2.2.2.2.2.2.2.2.2.2.2.2.2.2.2.2.2.2.2.2.2.2.2.2.2.2.2.2.2.2.2.2.2.2.2.2.2.2.2.2.2.2.2.2.2.2.2.2.2.2.2.2.2.2.2.2.1 g0 g1 g2 g3 g4 g5 (k1 X hX) (fun h1 q => k2 h1 q X hX)
theorem ex_cvx {NC : Nat} : k_cvx NC (Ex NC) := by
  intro _ _ _ _ _ _ _ _ _ _ _ _ _ _ _ _ _  g0 g1 g2 g3 g4 g5 g6 g7 g8 k1 k2 X hX
  exact hX.2.2.2.2.2.2.2.2.2.2.2.2.2.2.2.2.2.2.2.2.2.2.2.2.2.2.2.2.2.2.2.2.2.2.2.2.2.2.2.2.2.2.2.2.2.2.2.2.2.2.2.2.2.2.2.2.2.2.2.2.2.2.2.2.2.2.2.2.2.1 g0 g1 g2 g3 g4 g5 g6 g7 g8 (k1 X hX) k2
theorem ex_csx {NC : Nat} : k_csx (Ex NC) := by
  intro _ _ _ _ _ _ _ _ _ _ _ _  g0 g1 g2 g3 g4 g5 k1 k2 X hX
  exact hX.2.2.2.2.2.2.2.2.2.2.2.2.2.2.2.2.2.2.2.2.2.2.2.2.2.2.2.2.2.2.2.2.2.2.2.2.2.2.2.2.2.2.2.2.2.2.2.2.2.2.2.2.2.2.2.2.2.2.2.2.2.2.2.2.2.2.2.2.2.2.1 g0 g1 g2 g3 g4 g5 (k1 X hX) k2
theorem ex_thr {NC : Nat} : k_thr (Ex NC) := by
  intro _ _ _ _ _ _ g0 g1 g2 g3 X hX
  exact hX.2.2.2.2.2.2.2.2.2.2.2.2.2.2.2.2.2.2.2.2.2.2.2.2.2.2.2.2.2.2.2.2.2.2.2.2.2.2.2.2.2.2.2.2.2.2.2.2.2.2.2.2.2.2.2.2.2.2.2.2.2.2.2.2.2.2.2.2.2.2.2.1 g0 g1 g2 g3
theorem ex_l_max {NC : Nat} : k_l_max (Ex NC) := by
  intro _ _ _ _ _ _ _ _ _ _  g0 g1 g2 g3 k X hX
  exact hX.2.2.2.2.2.2.2.2.2.2.2.2.2.2.2.2.2.2.2.2.2.2.2.2.2.2.2.2.2.2.2.2.2.2.2.2.2.2.2.2.2.2.2.2.2.2.2.2.2.2.2.2.2.2.2.2.2.2.2.2.2.2.2.2.2.2.2.2.2.2.2.2.1 g0 g1 g2 g3 (k X hX)
theorem ex_l_min {NC : Nat} : k_l_min (Ex NC) := by
  intro _ _ _ _ _ _ _ _ _ _  g0 g1 g2 g3 k X hX
  exact hX.2.2.2.2.2.2.2.2.2.2.2.2.2.2.2.2.2.2.2.2.2.2.2.2.2.2.2.2.2.2.2.2.2.2.2.2.2.2.2.2.2.2.2.2.2.2.2.2.2.2.2.2.2.2.2.2.2.2.2.2.2.2.2.2.2.2.2.2.2.2.2.2.2.1 g0 g1 g2 g3 (k X hX)
theorem ex_l_abs {NC : Nat} : k_l_abs (Ex NC) := by
  intro _ _ _ _ _ _ _ _ _  g0 g1 g2 g3 k X hX
  exact hX.2.2.2.2.2.2.2.2.2.2.2.2.2.2.2.2.2.2.2.2.2.2.2.2.2.2.2.2.2.2.2.2.2.2.2.2.2.2.2.2.2.2.2.2.2.2.2.2.2.2.2.2.2.2.2.2.2.2.2.2.2.2.2.2.2.2.2.2.2.2.2.2.2.2.1 g0 g1 g2 g3 (k X hX)
theorem ex_l_compare {NC : Nat} : k_l_compare (Ex NC) := by
  intro _ _ _ _ _ _ _ _ _ _  g0 g1 g2 g3 k X hX
  exact hX.2.2.2.2.2.2.2.2.2.2.2.2.2.2.2.2.2.2.2.2.2.2.2.2.2.2.2.2.2.2.2.2.2.2.2.2.2.2.2.2.2.2.2.2.2.2.2.2.2.2.2.2.2.2.2.2.2.2.2.2.2.2.2.2.2.2.2.2.2.2.2.2.2.2.2.1 g0 g1 g2 g3 (k X hX)
theorem ex_l_fill {NC : Nat} : k_l_fill NC (Ex NC) := by
  intro _ _ _ _ _ _ _ _ _ _ _ _  g0 g1 g2 g3 g4 g5 g6 k X hX
  exact hX.2.2.2.2.2.2.2.2.2.2.2.2.2.2.2.2.2.2.2.2.2.2.2.2.2.2.2.2.2.2.2.2.2.2.2.2.2.2.2.2.2.2.2.2.2.2.2.2.2.2.2.2.2.2.2.2.2.2.2.2.2.2.2.2.2.2.2.2.2.2.2.2.2.2.2.2.1 g0 g1 g2 g3 g4 g5 g6 (k X hX)
theorem ex_l_copy {NC : Nat} : k_l_copy NC (Ex NC) := by
  intro _ _ _ _ _ _ _ _ _ _ _ _ _ _ _  g0 g1 g2 g3 g4 g5 g6 g7 g8 g9 g10 k X hX
  exact hX.2.2.2.2.2.2.2.2.2.2.2.2.2.2.2.2.2.2.2.2.2.2.2.2.2.2.2.2.2.2.2.2.2.2.2.2.2.2.2.2.2.2.2.2.2.2.2.2.2.2.2.2.2.2.2.2.2.2.2.2.2.2.2.2.2.2.2.2.2.2.2.2.2.2.2.2.2.1 g0 g1 g2 g3 g4 g5 g6 g7 g8 g9 g10 (k X hX)
theorem ex_l_length {NC : Nat} : k_l_length (Ex NC) := by
  intro _ _ _ _ _ _ _ _ _ _  g0 g1 g2 g3 g4 g5 k X hX
  exact hX.2.2.2.2.2.2.2.2.2.2.2.2.2.2.2.2.2.2.2.2.2.2.2.2.2.2.2.2.2.2.2.2.2.2.2.2.2.2.2.2.2.2.2.2.2.2.2.2.2.2.2.2.2.2.2.2.2.2.2.2.2.2.2.2.2.2.2.2.2.2.2.2.2.2.2.2.2.2.1 g0 g1 g2 g3 g4 g5 (k X hX)
theorem ex_l_charAt {NC : Nat} : k_l_charAt (Ex NC) := by
  intro _ _ _ _ _ _ _ _ _ _ _ _  g0 g1 g2 g3 g4 g5 g6 g7 k X hX
  exact hX.2.2.2.2.2.2.2.2.2.2.2.2.2.2.2.2.2.2.2.2.2.2.2.2.2.2.2.2.2.2.2.2.2.2.2.2.2.2.2.2.2.2.2.2.2.2.2.2.2.2.2.2.2.2.2.2.2.2.2.2.2.2.2.2.2.2.2.2.2.2.2.2.2.2.2.2.2.2.2 g0 g1 g2 g3 g4 g5 g6 g7 (k X hX)
