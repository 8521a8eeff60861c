/-! numbers: I z is the int of the integer z; rows of the pure machine in these words -/
def I (z : Int) : Int32 := Int32.ofInt z
theorem I_def (z : Int) : Int32.ofInt z = I z := rfl
theorem I_add (a b : Int) : I a + I b = I (a + b) := (Int32.ofInt_add a b).symm
theorem I_sub (a b : Int) : I a - I b = I (a - b) := (Int32.ofInt_sub a b).symm
theorem I_mul (a b : Int) : I a * I b = I (a * b) := (Int32.ofInt_mul a b).symm
theorem I_neg (a : Int) : -(I a) = I (-a) := (Int32.ofInt_neg a).symm
theorem I_toInt {z : Int} (h : -2147483648 ≤ z ∧ z < 2147483648) : (I z).toInt = z := by
  unfold I
  rw [Int32.toInt_ofInt_of_le (by omega) (by omega)]
theorem I_of (x : Int32) : x = I x.toInt := (Int32.ofInt_toInt x).symm
theorem I_rg (x : Int32) : -2147483648 ≤ x.toInt ∧ x.toInt < 2147483648 := ⟨by have := Int32.le_toInt x; omega, by have := Int32.toInt_lt x; omega⟩
theorem I_ex (x : Int32) : ∃ z : Int, x = I z ∧ -2147483648 ≤ z ∧ z < 2147483648 := ⟨x.toInt, I_of x, (I_rg x).1, (I_rg x).2⟩
theorem I_lt {a b : Int} (ha : -2147483648 ≤ a ∧ a < 2147483648) (hb : -2147483648 ≤ b ∧ b < 2147483648) : I a < I b ↔ a < b := by
  rw [Int32.lt_iff_toInt_lt, I_toInt ha, I_toInt hb]
theorem I_le {a b : Int} (ha : -2147483648 ≤ a ∧ a < 2147483648) (hb : -2147483648 ≤ b ∧ b < 2147483648) : I a ≤ I b ↔ a ≤ b := by
  rw [Int32.le_iff_toInt_le, I_toInt ha, I_toInt hb]
theorem I_eq {a b : Int} (ha : -2147483648 ≤ a ∧ a < 2147483648) (hb : -2147483648 ≤ b ∧ b < 2147483648) : I a = I b ↔ a = b := by
  rw [← Int32.toInt_inj, I_toInt ha, I_toInt hb]
theorem I_0 : (0 : Int32) = I 0 := by decide
theorem I_nat (n : Nat) : nI n = I n := by
  unfold nI I
  rw [Int32.ofInt_eq_ofNat]
theorem I_clamp {j : Nat} (h : j < 2147483648) : (I (j : Int)).toNatClampNeg = j := by
  rw [← I_nat, nI_clamp h]
theorem I_in {j n : Nat} (h : j < n) (hn : n < 2147483648) : vp_in (I (j : Int)) n := by
  rw [← I_nat]; exact vp_in_nI h hn
theorem I_div {a b : Int} (ha : 0 ≤ a ∧ a < 2147483648) (hb : 0 < b ∧ b < 2147483648) : I a / I b = I (a / b) := by
  have e1 : a = ((a.toNat : Nat) : Int) := by omega
  have e2 : b = ((b.toNat : Nat) : Int) := by omega
  rw [e1, e2, ← I_nat, ← I_nat, pk_div (by omega) (by omega) (by omega), I_nat]
  congr 1
theorem I_rem {a b : Int} (ha : 0 ≤ a ∧ a < 2147483648) (hb : 0 < b ∧ b < 2147483648) : I a - I a / I b * I b = I (a % b) := by
  rw [I_div ha hb, I_mul, I_sub]
  congr 1
  have := Int.emod_add_mul_ediv a b
  have e : a / b * b = b * (a / b) := Int.mul_comm _ _
  omega
/-- a row of n ints: t the kind of array (0 int, 1 byte, 2 boolean) -/
def row (t : Nat) (e : va_E) (n : Nat) (f : Nat → Int) : Prop := ∃ g : Nat → Int32, e = .inl (t, n, .inl g) ∧ ∀ i, i < n → g i = I (f i)
theorem row.cong {t n : Nat} {e : va_E} {f g : Nat → Int} (h : row t e n f) (hg : ∀ i, i < n → f i = g i) : row t e n g := by
  obtain ⟨k, h1, h2⟩ := h
  exact ⟨k, h1, fun i hi => by rw [h2 i hi, hg i hi]⟩
def upZ (f : Nat → Int) (i : Nat) (v : Int) : Nat → Int := fun j => if j = i then v else f j
theorem row.up {t n j : Nat} {g : Nat → Int32} {f : Nat → Int} {v : Int} (hg : ∀ i, i < n → g i = I (f i)) : row t (.inl (t, n, .inl (upd g j (I v)))) n (upZ f j v) := by
  refine ⟨_, rfl, fun i hi => ?_⟩
  by_cases h : i = j
  · simp [upd, upZ, h]
  · simp [upd, upZ, h, hg i hi]
section AX
variable {NC : Nat} {b : Option String} {M : mt} {pc : Nat} {L S : List Value} {h : hp} {Q : qt}
theorem ax_iconst {n : Int} (hd : decode M.2.1 pc = .ok (.iconst n, 1)) (k : Ex NC b M (pc + 1) L (.int (I n) :: S) h Q) : Ex NC b M pc L S h Q := ex_iconst (v := I n) rfl hd k
theorem ax_bipush {n : Int} (hd : decode M.2.1 pc = .ok (.bipush n, 2)) (hv : (Int8.ofInt n).toInt32 = I n) (k : Ex NC b M (pc + 2) L (.int (I n) :: S) h Q) : Ex NC b M pc L S h Q := ex_bipush hv hd k
theorem ax_sipush {n : Int} (hd : decode M.2.1 pc = .ok (.sipush n, 3)) (hv : (Int16.ofInt n).toInt32 = I n) (k : Ex NC b M (pc + 3) L (.int (I n) :: S) h Q) : Ex NC b M pc L S h Q := ex_sipush hv hd k
theorem ax_iload_n {k : Fin 4} {x : Int32} (hd : decode M.2.1 pc = .ok (.iload_n k, 1)) (hl : L[(k : Nat)]? = some (.int x)) (kk : Ex NC b M (pc + 1) L (.int x :: S) h Q) : Ex NC b M pc L S h Q := ex_iload_n rfl hl hd kk
theorem ax_iload {i : Nat} {x : Int32} (hd : decode M.2.1 pc = .ok (.iload i, 2)) (hl : L[i]? = some (.int x)) (kk : Ex NC b M (pc + 2) L (.int x :: S) h Q) : Ex NC b M pc L S h Q := ex_iload hl hd kk
theorem ax_aload_n {k : Fin 4} {x : Nat} (hd : decode M.2.1 pc = .ok (.aload_n k, 1)) (hl : L[(k : Nat)]? = some (.ref x)) (kk : Ex NC b M (pc + 1) L (.ref x :: S) h Q) : Ex NC b M pc L S h Q := ex_aload_n rfl hl hd kk
theorem ax_aload {i : Nat} {x : Nat} (hd : decode M.2.1 pc = .ok (.aload i, 2)) (hl : L[i]? = some (.ref x)) (kk : Ex NC b M (pc + 2) L (.ref x :: S) h Q) : Ex NC b M pc L S h Q := ex_aload hl hd kk
theorem ax_istore_n {k : Fin 4} {x : Int32} {L' : List Value} (hd : decode M.2.1 pc = .ok (.istore_n k, 1)) (hl : L.set (k : Nat) (.int x) = L') (hi : (k : Nat) < M.2.2.1) (kk : Ex NC b M (pc + 1) L' S h Q) : Ex NC b M pc L (.int x :: S) h Q := ex_istore_n hd rfl hi (hl ▸ kk)
theorem ax_istore {i : Nat} {x : Int32} {L' : List Value} (hd : decode M.2.1 pc = .ok (.istore i, 2)) (hl : L.set i (.int x) = L') (hi : i < M.2.2.1) (kk : Ex NC b M (pc + 2) L' S h Q) : Ex NC b M pc L (.int x :: S) h Q := ex_istore hd hi (hl ▸ kk)
theorem ax_astore_n {k : Fin 4} {x : Nat} {L' : List Value} (hd : decode M.2.1 pc = .ok (.astore_n k, 1)) (hl : L.set (k : Nat) (.ref x) = L') (hi : (k : Nat) < M.2.2.1) (kk : Ex NC b M (pc + 1) L' S h Q) : Ex NC b M pc L (.ref x :: S) h Q := ex_astore_n hd rfl hi (hl ▸ kk)
theorem ax_astore {i : Nat} {x : Nat} {L' : List Value} (hd : decode M.2.1 pc = .ok (.astore i, 2)) (hl : L.set i (.ref x) = L') (hi : i < M.2.2.1) (kk : Ex NC b M (pc + 2) L' S h Q) : Ex NC b M pc L (.ref x :: S) h Q := ex_astore hd hi (hl ▸ kk)
theorem ax_iinc {i : Nat} {n a : Int} {L' : List Value} (hd : decode M.2.1 pc = .ok (.iinc i n, 3)) (hg : L[i]? = some (.int (I a))) (hl : L.set i (.int (I (a + n))) = L') (hi : i < M.2.2.1) (kk : Ex NC b M (pc + 3) L' S h Q) : Ex NC b M pc L S h Q := ex_iinc hd hg (v := I (a + n)) (by rw [I_def, I_add]) hi (hl ▸ kk)
theorem ax_iadd {x y : Int} (hd : decode M.2.1 pc = .ok (.iadd, 1)) (k : Ex NC b M (pc + 1) L (.int (I (x + y)) :: S) h Q) : Ex NC b M pc L (.int (I y) :: .int (I x) :: S) h Q := ex_iadd hd (by rw [I_add]; exact k)
theorem ax_isub {x y : Int} (hd : decode M.2.1 pc = .ok (.isub, 1)) (k : Ex NC b M (pc + 1) L (.int (I (x - y)) :: S) h Q) : Ex NC b M pc L (.int (I y) :: .int (I x) :: S) h Q := ex_isub hd (by rw [I_sub]; exact k)
theorem ax_imul {x y : Int} (hd : decode M.2.1 pc = .ok (.imul, 1)) (k : Ex NC b M (pc + 1) L (.int (I (x * y)) :: S) h Q) : Ex NC b M pc L (.int (I y) :: .int (I x) :: S) h Q := ex_imul hd (by rw [I_mul]; exact k)
theorem ax_ineg {x : Int} (hd : decode M.2.1 pc = .ok (.ineg, 1)) (k : Ex NC b M (pc + 1) L (.int (I (-x)) :: S) h Q) : Ex NC b M pc L (.int (I x) :: S) h Q := ex_ineg hd (by rw [I_neg]; exact k)
theorem ax_idiv {x y : Int} (hd : decode M.2.1 pc = .ok (.idiv, 1)) (hx : 0 ≤ x ∧ x < 2147483648) (hy : 0 < y ∧ y < 2147483648) (k : Ex NC b M (pc + 1) L (.int (I (x / y)) :: S) h Q) : Ex NC b M pc L (.int (I y) :: .int (I x) :: S) h Q :=
  ex_idiv (fun q => by rw [I_0, I_eq (by omega) (by omega)] at q; omega) hd (by rw [I_div hx hy]; exact k)
theorem ax_irem {x y : Int} (hd : decode M.2.1 pc = .ok (.irem, 1)) (hx : 0 ≤ x ∧ x < 2147483648) (hy : 0 < y ∧ y < 2147483648) (k : Ex NC b M (pc + 1) L (.int (I (x % y)) :: S) h Q) : Ex NC b M pc L (.int (I y) :: .int (I x) :: S) h Q :=
  ex_irem (fun q => by rw [I_0, I_eq (by omega) (by omega)] at q; omega) hd (by rw [I_rem hx hy]; exact k)
theorem ax_dup {v : Value} (hd : decode M.2.1 pc = .ok (.dup, 1)) (hv : v.category = 1) (k : Ex NC b M (pc + 1) L (v :: v :: S) h Q) : Ex NC b M pc L (v :: S) h Q := ex_dup hv hd k
theorem ax_dup2 {v w : Value} (hd : decode M.2.1 pc = .ok (.dup2, 1)) (hv : v.category = 1) (hw : w.category = 1) (k : Ex NC b M (pc + 1) L (v :: w :: v :: w :: S) h Q) : Ex NC b M pc L (v :: w :: S) h Q := ex_dup2 hv hw hd k
theorem ax_pop {v : Value} (hd : decode M.2.1 pc = .ok (.pop, 1)) (hv : v.category = 1) (k : Ex NC b M (pc + 1) L S h Q) : Ex NC b M pc L (v :: S) h Q := ex_pop hv hd k
theorem ax_goto {off : Int} {tgt : Nat} (hd : decode M.2.1 pc = .ok (.goto off, 3)) (ht : (pc : Int) + off = (tgt : Int)) (k : Ex NC b M tgt L S h Q) : Ex NC b M pc L S h Q := ex_goto hd ht k
theorem ax_if_eq {x off : Int} {tgt : Nat} (hd : decode M.2.1 pc = .ok (.ifCond .eq off, 3)) (ht : (pc : Int) + off = (tgt : Int)) (hx : -2147483648 ≤ x ∧ x < 2147483648) (k1 : x = 0 → Ex NC b M tgt L S h Q) (k2 : x ≠ 0 → Ex NC b M (pc + 3) L S h Q) : Ex NC b M pc L (.int (I x) :: S) h Q :=
  ex_if_eq hd ht (fun q => k1 ((I_eq hx (by omega)).mp (q.trans I_0))) (fun q => k2 (fun z => q (((I_eq hx (by omega)).mpr z).trans I_0.symm)))
theorem ax_if_ne {x off : Int} {tgt : Nat} (hd : decode M.2.1 pc = .ok (.ifCond .ne off, 3)) (ht : (pc : Int) + off = (tgt : Int)) (hx : -2147483648 ≤ x ∧ x < 2147483648) (k1 : x ≠ 0 → Ex NC b M tgt L S h Q) (k2 : x = 0 → Ex NC b M (pc + 3) L S h Q) : Ex NC b M pc L (.int (I x) :: S) h Q :=
  ex_if_ne hd ht (fun q => k1 (fun z => q (((I_eq hx (by omega)).mpr z).trans I_0.symm))) (fun q => k2 (by
    by_cases e : x = 0
    · exact e
    · exact absurd (fun z => e ((I_eq hx (by omega)).mp (z.trans I_0))) q))
theorem ax_if_lt {x off : Int} {tgt : Nat} (hd : decode M.2.1 pc = .ok (.ifCond .lt off, 3)) (ht : (pc : Int) + off = (tgt : Int)) (hx : -2147483648 ≤ x ∧ x < 2147483648) (k1 : x < 0 → Ex NC b M tgt L S h Q) (k2 : 0 ≤ x → Ex NC b M (pc + 3) L S h Q) : Ex NC b M pc L (.int (I x) :: S) h Q :=
  ex_if_lt hd ht (fun q => k1 (by rw [I_0, I_lt hx (by omega)] at q; exact q)) (fun q => k2 (by rw [I_0, I_lt hx (by omega)] at q; omega))
theorem ax_if_ge {x off : Int} {tgt : Nat} (hd : decode M.2.1 pc = .ok (.ifCond .ge off, 3)) (ht : (pc : Int) + off = (tgt : Int)) (hx : -2147483648 ≤ x ∧ x < 2147483648) (k1 : 0 ≤ x → Ex NC b M tgt L S h Q) (k2 : x < 0 → Ex NC b M (pc + 3) L S h Q) : Ex NC b M pc L (.int (I x) :: S) h Q :=
  ex_if_ge hd ht (fun q => k1 (by rw [I_0, I_le (by omega) hx] at q; exact q)) (fun q => k2 (by rw [I_0, I_le (by omega) hx] at q; omega))
theorem ax_if_gt {x off : Int} {tgt : Nat} (hd : decode M.2.1 pc = .ok (.ifCond .gt off, 3)) (ht : (pc : Int) + off = (tgt : Int)) (hx : -2147483648 ≤ x ∧ x < 2147483648) (k1 : 0 < x → Ex NC b M tgt L S h Q) (k2 : x ≤ 0 → Ex NC b M (pc + 3) L S h Q) : Ex NC b M pc L (.int (I x) :: S) h Q :=
  ex_if_gt hd ht (fun q => k1 (by rw [I_0, I_lt (by omega) hx] at q; exact q)) (fun q => k2 (by rw [I_0, I_lt (by omega) hx] at q; omega))
theorem ax_if_le {x off : Int} {tgt : Nat} (hd : decode M.2.1 pc = .ok (.ifCond .le off, 3)) (ht : (pc : Int) + off = (tgt : Int)) (hx : -2147483648 ≤ x ∧ x < 2147483648) (k1 : x ≤ 0 → Ex NC b M tgt L S h Q) (k2 : 0 < x → Ex NC b M (pc + 3) L S h Q) : Ex NC b M pc L (.int (I x) :: S) h Q :=
  ex_if_le hd ht (fun q => k1 (by rw [I_0, I_le hx (by omega)] at q; exact q)) (fun q => k2 (by rw [I_0, I_le hx (by omega)] at q; omega))
theorem ax_icmp_eq {x y off : Int} {tgt : Nat} (hd : decode M.2.1 pc = .ok (.if_icmp .eq off, 3)) (ht : (pc : Int) + off = (tgt : Int)) (hx : -2147483648 ≤ x ∧ x < 2147483648) (hy : -2147483648 ≤ y ∧ y < 2147483648) (k1 : x = y → Ex NC b M tgt L S h Q) (k2 : x ≠ y → Ex NC b M (pc + 3) L S h Q) : Ex NC b M pc L (.int (I y) :: .int (I x) :: S) h Q :=
  ex_icmp_eq hd ht (fun q => k1 ((I_eq hx hy).mp q)) (fun q => k2 (fun z => q ((I_eq hx hy).mpr z)))
theorem ax_icmp_ne {x y off : Int} {tgt : Nat} (hd : decode M.2.1 pc = .ok (.if_icmp .ne off, 3)) (ht : (pc : Int) + off = (tgt : Int)) (hx : -2147483648 ≤ x ∧ x < 2147483648) (hy : -2147483648 ≤ y ∧ y < 2147483648) (k1 : x ≠ y → Ex NC b M tgt L S h Q) (k2 : x = y → Ex NC b M (pc + 3) L S h Q) : Ex NC b M pc L (.int (I y) :: .int (I x) :: S) h Q :=
  ex_icmp_ne hd ht (fun q => k1 (fun z => q ((I_eq hx hy).mpr z))) (fun q => k2 (by
    by_cases e : x = y
    · exact e
    · exact absurd (fun z => e ((I_eq hx hy).mp z)) q))
theorem ax_icmp_lt {x y off : Int} {tgt : Nat} (hd : decode M.2.1 pc = .ok (.if_icmp .lt off, 3)) (ht : (pc : Int) + off = (tgt : Int)) (hx : -2147483648 ≤ x ∧ x < 2147483648) (hy : -2147483648 ≤ y ∧ y < 2147483648) (k1 : x < y → Ex NC b M tgt L S h Q) (k2 : y ≤ x → Ex NC b M (pc + 3) L S h Q) : Ex NC b M pc L (.int (I y) :: .int (I x) :: S) h Q :=
  ex_icmp_lt hd ht (fun q => k1 ((I_lt hx hy).mp q)) (fun q => k2 (by rw [I_lt hx hy] at q; omega))
theorem ax_icmp_ge {x y off : Int} {tgt : Nat} (hd : decode M.2.1 pc = .ok (.if_icmp .ge off, 3)) (ht : (pc : Int) + off = (tgt : Int)) (hx : -2147483648 ≤ x ∧ x < 2147483648) (hy : -2147483648 ≤ y ∧ y < 2147483648) (k1 : y ≤ x → Ex NC b M tgt L S h Q) (k2 : x < y → Ex NC b M (pc + 3) L S h Q) : Ex NC b M pc L (.int (I y) :: .int (I x) :: S) h Q :=
  ex_icmp_ge hd ht (fun q => k1 ((I_le hy hx).mp q)) (fun q => k2 (by rw [I_le hy hx] at q; omega))
theorem ax_icmp_gt {x y off : Int} {tgt : Nat} (hd : decode M.2.1 pc = .ok (.if_icmp .gt off, 3)) (ht : (pc : Int) + off = (tgt : Int)) (hx : -2147483648 ≤ x ∧ x < 2147483648) (hy : -2147483648 ≤ y ∧ y < 2147483648) (k1 : y < x → Ex NC b M tgt L S h Q) (k2 : x ≤ y → Ex NC b M (pc + 3) L S h Q) : Ex NC b M pc L (.int (I y) :: .int (I x) :: S) h Q :=
  ex_icmp_gt hd ht (fun q => k1 ((I_lt hy hx).mp q)) (fun q => k2 (by rw [I_lt hy hx] at q; omega))
theorem ax_icmp_le {x y off : Int} {tgt : Nat} (hd : decode M.2.1 pc = .ok (.if_icmp .le off, 3)) (ht : (pc : Int) + off = (tgt : Int)) (hx : -2147483648 ≤ x ∧ x < 2147483648) (hy : -2147483648 ≤ y ∧ y < 2147483648) (k1 : x ≤ y → Ex NC b M tgt L S h Q) (k2 : y < x → Ex NC b M (pc + 3) L S h Q) : Ex NC b M pc L (.int (I y) :: .int (I x) :: S) h Q :=
  ex_icmp_le hd ht (fun q => k1 ((I_le hx hy).mp q)) (fun q => k2 (by rw [I_le hx hy] at q; omega))
/-- fields -/
theorem ax_getf {ci ix k : Nat} {C : String} {T : u_T} {N : Nat} {ty : Nat → FieldType} {a : Nat} {fs : List Value} {v : Value} (hd : decode M.2.1 pc = .ok (.getfield ix, 3)) (hc : ckC ci C T N ty) (hw : Cond.fieldLink M.1.cls ix (T k).1 (T k).2.1 (T k).2.2.1 ∈ gT) (hk : k < N) (hn : a < NC) (ha : h a = .inr (ci, fs)) (hv : fs[k]? = some v) (kk : Ex NC b M (pc + 3) L (v :: S) h Q) : Ex NC b M pc L (.ref a :: S) h Q := ex_getf hc hk hw hn ha hv hd kk
theorem ax_putf {ci ix k : Nat} {C : String} {T : u_T} {N : Nat} {ty : Nat → FieldType} {a : Nat} {fs fs' : List Value} {x : Int32} (hd : decode M.2.1 pc = .ok (.putfield ix, 3)) (hc : ckC ci C T N ty) (hw : Cond.fieldLink M.1.cls ix (T k).1 (T k).2.1 (T k).2.2.1 ∈ gT) (hk : k < N) (hn : a < NC) (ha : h a = .inr (ci, fs)) (hf : (T k).2.2.2 = false) (hty : ty k = .int ∨ ty k = .boolean ∧ (x = 0 ∨ x = 1)) (hl : k < fs.length) (hfs : fs.set k (.int x) = fs') (kk : Ex NC b M (pc + 3) L S (va_up h a (.inr (ci, fs'))) Q) : Ex NC b M pc L (.int x :: .ref a :: S) h Q := ex_putf hd hc hk hw hn ha hf hty hl (hfs ▸ kk)
/-- arrays: the index is the natural j -/
theorem ax_iald {a n j : Nat} {z : Int} {f : Nat → Int32} {v : Int32} (hd : decode M.2.1 pc = .ok (.iaload, 1)) (hn : a < NC) (ha : h a = .inl (0, n, .inl f)) (hz : z = (j : Int)) (hj : j < n) (hn2 : n < 2147483648) (hv : f j = v) (kk : Ex NC b M (pc + 1) L (.int v :: S) h Q) : Ex NC b M pc L (.int (I z) :: .ref a :: S) h Q := by
  subst hz
  refine ex_iald hn ha (I_in hj hn2) hd ?_
  rw [I_clamp (by omega), hv]; exact kk
theorem ax_bald {a n j : Nat} {z : Int} {f : Nat → Int32} {v : Int32} (hd : decode M.2.1 pc = .ok (.baload, 1)) (hn : a < NC) (ha : h a = .inl (1, n, .inl f)) (hz : z = (j : Int)) (hj : j < n) (hn2 : n < 2147483648) (hv : f j = v) (kk : Ex NC b M (pc + 1) L (.int v :: S) h Q) : Ex NC b M pc L (.int (I z) :: .ref a :: S) h Q := by
  subst hz
  refine ex_bald hn ha (I_in hj hn2) hd ?_
  rw [I_clamp (by omega), hv]; exact kk
theorem ax_zald {a n j : Nat} {z : Int} {f : Nat → Int32} {v : Int32} (hd : decode M.2.1 pc = .ok (.baload, 1)) (hn : a < NC) (ha : h a = .inl (2, n, .inl f)) (hz : z = (j : Int)) (hj : j < n) (hn2 : n < 2147483648) (hv : f j = v) (kk : Ex NC b M (pc + 1) L (.int v :: S) h Q) : Ex NC b M pc L (.int (I z) :: .ref a :: S) h Q := by
  subst hz
  refine ex_zald hn ha (I_in hj hn2) hd ?_
  rw [I_clamp (by omega), hv]; exact kk
theorem ax_aald {a n j q : Nat} {z : Int} {f : Nat → Option Nat} (hd : decode M.2.1 pc = .ok (.aaload, 1)) (hn : a < NC) (ha : h a = .inl (3, n, .inr (.inr (.inr (.inr f))))) (hz : z = (j : Int)) (hj : j < n) (hn2 : n < 2147483648) (hv : f j = some q) (kk : Ex NC b M (pc + 1) L (.ref q :: S) h Q) : Ex NC b M pc L (.int (I z) :: .ref a :: S) h Q := by
  subst hz
  exact ex_aald hn ha (I_in hj hn2) (by rw [I_clamp (by omega)]; exact hv) hd kk
theorem ax_aalg {a n j q : Nat} {z : Int} {f : Nat → Option Nat} (hd : decode M.2.1 pc = .ok (.aaload, 1)) (hn : a < NC) (ha : h a = .inl (4, n, .inr (.inr (.inr (.inr f))))) (hz : z = (j : Int)) (hj : j < n) (hn2 : n < 2147483648) (hv : f j = some q) (kk : Ex NC b M (pc + 1) L (.ref q :: S) h Q) : Ex NC b M pc L (.int (I z) :: .ref a :: S) h Q := by
  subst hz
  exact ex_aalg hn ha (I_in hj hn2) (by rw [I_clamp (by omega)]; exact hv) hd kk
theorem ax_iast {a n j : Nat} {z : Int} {f : Nat → Int32} {x : Int32} (hd : decode M.2.1 pc = .ok (.iastore, 1)) (hn : a < NC) (ha : h a = .inl (0, n, .inl f)) (hz : z = (j : Int)) (hj : j < n) (hn2 : n < 2147483648) (kk : Ex NC b M (pc + 1) L S (va_up h a (.inl (0, n, .inl (upd f j x)))) Q) : Ex NC b M pc L (.int x :: .int (I z) :: .ref a :: S) h Q := by
  subst hz
  refine ex_iast hd hn ha (I_in hj hn2) ?_
  rw [I_clamp (by omega)]; exact kk
theorem ax_bast {a n j : Nat} {z : Int} {f : Nat → Int32} {x : Int32} (hd : decode M.2.1 pc = .ok (.bastore, 1)) (hn : a < NC) (ha : h a = .inl (1, n, .inl f)) (hz : z = (j : Int)) (hj : j < n) (hn2 : n < 2147483648) (kk : Ex NC b M (pc + 1) L S (va_up h a (.inl (1, n, .inl (upd f j (vp_nar .byte x))))) Q) : Ex NC b M pc L (.int x :: .int (I z) :: .ref a :: S) h Q := by
  subst hz
  refine ex_bast hd hn ha (I_in hj hn2) ?_
  rw [I_clamp (by omega)]; exact kk
theorem ax_zast {a n j : Nat} {z : Int} {f : Nat → Int32} {x : Int32} (hd : decode M.2.1 pc = .ok (.bastore, 1)) (hn : a < NC) (ha : h a = .inl (2, n, .inl f)) (hz : z = (j : Int)) (hj : j < n) (hn2 : n < 2147483648) (kk : Ex NC b M (pc + 1) L S (va_up h a (.inl (2, n, .inl (upd f j (vp_nar .boolean x))))) Q) : Ex NC b M pc L (.int x :: .int (I z) :: .ref a :: S) h Q := by
  subst hz
  refine ex_zast hd hn ha (I_in hj hn2) ?_
  rw [I_clamp (by omega)]; exact kk
theorem ax_alen {a n t : Nat} {f : Nat → Int32} (hd : decode M.2.1 pc = .ok (.arraylength, 1)) (hn : a < NC) (ha : h a = .inl (t, n, .inl f)) (ht : t < 3) (kk : Ex NC b M (pc + 1) L (.int (I (n : Int)) :: S) h Q) : Ex NC b M pc L (.ref a :: S) h Q := ex_alen hn ha ht (I_nat n) hd kk
theorem ax_tld {j i : Nat} {z : Int} {v : Int32} (hd : decode M.2.1 pc = .ok (.iaload, 1)) (hz : z = (i : Int)) (hi : i < 4) (hj : j < 4) (hv : tabF j i = v) (kk : Ex NC b M (pc + 1) L (.int v :: S) h Q) : Ex NC b M pc L (.int (I z) :: .ref (1000 + j) :: S) h Q := by
  subst hz
  exact ex_tld hj (I_in hi (by omega)) (by rw [I_clamp (by omega)]; exact hv) hd kk
theorem ax_tlen {j : Nat} (hd : decode M.2.1 pc = .ok (.arraylength, 1)) (hj : j < 4) (kk : Ex NC b M (pc + 1) L (.int (I 4) :: S) h Q) : Ex NC b M pc L (.ref (1000 + j) :: S) h Q := ex_tlen hj (by decide) hd kk
theorem ax_ialr {a n j : Nat} {z w : Int} {f : Nat → Int} (hd : decode M.2.1 pc = .ok (.iaload, 1)) (hn : a < NC) (ha : row 0 (h a) n f) (hz : z = (j : Int)) (hj : j < n) (hn2 : n < 2147483648) (hv : f j = w) (kk : Ex NC b M (pc + 1) L (.int (I w) :: S) h Q) : Ex NC b M pc L (.int (I z) :: .ref a :: S) h Q := by
  obtain ⟨g, h1, h2⟩ := ha
  exact ax_iald hd hn h1 hz hj hn2 (by rw [h2 j hj, hv]) kk
theorem ax_balr {a n j : Nat} {z w : Int} {f : Nat → Int} (hd : decode M.2.1 pc = .ok (.baload, 1)) (hn : a < NC) (ha : row 1 (h a) n f) (hz : z = (j : Int)) (hj : j < n) (hn2 : n < 2147483648) (hv : f j = w) (kk : Ex NC b M (pc + 1) L (.int (I w) :: S) h Q) : Ex NC b M pc L (.int (I z) :: .ref a :: S) h Q := by
  obtain ⟨g, h1, h2⟩ := ha
  exact ax_bald hd hn h1 hz hj hn2 (by rw [h2 j hj, hv]) kk
theorem ax_zalr {a n j : Nat} {z w : Int} {f : Nat → Int} (hd : decode M.2.1 pc = .ok (.baload, 1)) (hn : a < NC) (ha : row 2 (h a) n f) (hz : z = (j : Int)) (hj : j < n) (hn2 : n < 2147483648) (hv : f j = w) (kk : Ex NC b M (pc + 1) L (.int (I w) :: S) h Q) : Ex NC b M pc L (.int (I z) :: .ref a :: S) h Q := by
  obtain ⟨g, h1, h2⟩ := ha
  exact ax_zald hd hn h1 hz hj hn2 (by rw [h2 j hj, hv]) kk
theorem ax_alnr {a n t : Nat} {f : Nat → Int} (hd : decode M.2.1 pc = .ok (.arraylength, 1)) (hn : a < NC) (ha : row t (h a) n f) (ht : t < 3) (kk : Ex NC b M (pc + 1) L (.int (I (n : Int)) :: S) h Q) : Ex NC b M pc L (.ref a :: S) h Q := by
  obtain ⟨g, h1, h2⟩ := ha
  exact ax_alen hd hn h1 ht kk
theorem ax_iasr {a n j : Nat} {z v : Int} {f : Nat → Int} (hd : decode M.2.1 pc = .ok (.iastore, 1)) (hn : a < NC) (ha : row 0 (h a) n f) (hz : z = (j : Int)) (hj : j < n) (hn2 : n < 2147483648) (kk : ∀ e, row 0 e n (upZ f j v) → Ex NC b M (pc + 1) L S (va_up h a e) Q) : Ex NC b M pc L (.int (I v) :: .int (I z) :: .ref a :: S) h Q := by
  obtain ⟨g, h1, h2⟩ := ha
  exact ax_iast hd hn h1 hz hj hn2 (kk _ (row.up h2))
theorem ax_basr {a n j : Nat} {z v w : Int} {f : Nat → Int} (hd : decode M.2.1 pc = .ok (.bastore, 1)) (hn : a < NC) (ha : row 1 (h a) n f) (hz : z = (j : Int)) (hj : j < n) (hn2 : n < 2147483648) (hv : vp_nar .byte (I v) = I w) (kk : ∀ e, row 1 e n (upZ f j w) → Ex NC b M (pc + 1) L S (va_up h a e) Q) : Ex NC b M pc L (.int (I v) :: .int (I z) :: .ref a :: S) h Q := by
  obtain ⟨g, h1, h2⟩ := ha
  refine ax_bast hd hn h1 hz hj hn2 ?_
  rw [hv]
  exact kk _ (row.up h2)
theorem ax_zasr {a n j : Nat} {z v : Int} {f : Nat → Int} (hd : decode M.2.1 pc = .ok (.bastore, 1)) (hn : a < NC) (ha : row 2 (h a) n f) (hz : z = (j : Int)) (hj : j < n) (hn2 : n < 2147483648) (hv : v = 0 ∨ v = 1) (kk : ∀ e, row 2 e n (upZ f j v) → Ex NC b M (pc + 1) L S (va_up h a e) Q) : Ex NC b M pc L (.int (I v) :: .int (I z) :: .ref a :: S) h Q := by
  obtain ⟨g, h1, h2⟩ := ha
  refine ax_zast hd hn h1 hz hj hn2 ?_
  rw [show vp_nar .boolean (I v) = I v by rcases hv with rfl | rfl <;> decide]
  exact kk _ (row.up h2)
/-- answers -/
theorem ax_iret {x : Int32} (hd : decode M.2.1 pc = .ok (.ireturn, 1)) (hr : M.2.2.2.1 = some .int) (hq : Q (.int x) h) : Ex NC none M pc L [.int x] h Q := ex_iret hd hr hq
theorem ax_zret {x : Int32} (hd : decode M.2.1 pc = .ok (.ireturn, 1)) (hr : M.2.2.2.1 = some .boolean) (hx : x = 0 ∨ x = 1) (hq : Q (.int x) h) : Ex NC none M pc L [.int x] h Q := ex_zret hd hr hx hq
theorem ax_vret (hd : decode M.2.1 pc = .ok (.return_, 1)) (hr : M.2.2.2.1 = none) (hq : Q .null h) : Ex NC none M pc L [] h Q := ex_vret hd hr hq
/-- a method as a whole: what it answers for these arguments in this heap -/
abbrev Cl (NC : Nat) (Y : mt) (As : List Value) (h : hp) (Q : qt) : Prop := Ex NC none Y 0 (pad Y.2.2.1 As) [] h Q
abbrev Ct (NC : Nat) (E : String) (Y : mt) (As : List Value) (h : hp) (Q : qt) : Prop := Ex NC (some E) Y 0 (pad Y.2.2.1 As) [] h Q
end AX
