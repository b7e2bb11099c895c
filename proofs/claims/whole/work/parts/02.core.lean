/-! the memory: what our objects and arrays hold, without the machine -/
abbrev me_V : Type := Int32 ⊕ Option Nat
abbrev me_v (x : me_V) : Value := match x with
  | .inl n => .int n
  | .inr r => va_rf r
abbrev me_M : Type := (Nat → Nat) × (Nat → Nat) × (Nat → Nat → Nat → Int32) × (Nat → Nat → Nat → Option Nat) × Nat × Nat
def mKd (M : me_M) : Nat → Nat := M.1
def mLn (M : me_M) : Nat → Nat := M.2.1
def mI (M : me_M) : Nat → Nat → Nat → Int32 := M.2.2.1
def mR (M : me_M) : Nat → Nat → Nat → Option Nat := M.2.2.2.1
def mSz (M : me_M) : Nat := M.2.2.2.2.1
def mSl (M : me_M) : Nat := M.2.2.2.2.2
def mSetI (M : me_M) (k q i : Nat) (v : Int32) : me_M := (M.1, M.2.1, fun k' q' i' => if k' = k ∧ q' = q ∧ i' = i then v else M.2.2.1 k' q' i', M.2.2.2)
def mSetR (M : me_M) (k q i : Nat) (v : Option Nat) : me_M := (M.1, M.2.1, M.2.2.1, fun k' q' i' => if k' = k ∧ q' = q ∧ i' = i then v else M.2.2.2.1 k' q' i', M.2.2.2.2)
def mNew (M : me_M) (kd ln sl : Nat) : me_M := (fun q => if q = mSz M then kd else M.1 q, fun q => if q = mSz M then ln else M.2.1 q, M.2.2.1, M.2.2.2.1, mSz M + 1, mSl M + sl)

theorem mKd_SetI (M : me_M) (k q i : Nat) (v : Int32) : mKd (mSetI M k q i v) = mKd M := rfl
theorem mLn_SetI (M : me_M) (k q i : Nat) (v : Int32) : mLn (mSetI M k q i v) = mLn M := rfl
theorem mR_SetI (M : me_M) (k q i : Nat) (v : Int32) : mR (mSetI M k q i v) = mR M := rfl
theorem mSz_SetI (M : me_M) (k q i : Nat) (v : Int32) : mSz (mSetI M k q i v) = mSz M := rfl
theorem mSl_SetI (M : me_M) (k q i : Nat) (v : Int32) : mSl (mSetI M k q i v) = mSl M := rfl
theorem mKd_SetR (M : me_M) (k q i : Nat) (v : Option Nat) : mKd (mSetR M k q i v) = mKd M := rfl
theorem mLn_SetR (M : me_M) (k q i : Nat) (v : Option Nat) : mLn (mSetR M k q i v) = mLn M := rfl
theorem mI_SetR (M : me_M) (k q i : Nat) (v : Option Nat) : mI (mSetR M k q i v) = mI M := rfl
theorem mSz_SetR (M : me_M) (k q i : Nat) (v : Option Nat) : mSz (mSetR M k q i v) = mSz M := rfl
theorem mSl_SetR (M : me_M) (k q i : Nat) (v : Option Nat) : mSl (mSetR M k q i v) = mSl M := rfl
theorem mI_SetI (M : me_M) (k q i : Nat) (v : Int32) (k' q' i' : Nat) : mI (mSetI M k q i v) k' q' i' = if k' = k ∧ q' = q ∧ i' = i then v else mI M k' q' i' := rfl
theorem mR_SetR (M : me_M) (k q i : Nat) (v : Option Nat) (k' q' i' : Nat) : mR (mSetR M k q i v) k' q' i' = if k' = k ∧ q' = q ∧ i' = i then v else mR M k' q' i' := rfl
theorem mI_New (M : me_M) (a b c : Nat) : mI (mNew M a b c) = mI M := rfl
theorem mR_New (M : me_M) (a b c : Nat) : mR (mNew M a b c) = mR M := rfl
theorem mSz_New (M : me_M) (a b c : Nat) : mSz (mNew M a b c) = mSz M + 1 := rfl
theorem mSl_New (M : me_M) (a b c : Nat) : mSl (mNew M a b c) = mSl M + c := rfl
theorem mKd_New (M : me_M) (a b c q : Nat) : mKd (mNew M a b c) q = if q = mSz M then a else mKd M q := rfl
theorem mLn_New (M : me_M) (a b c q : Nat) : mLn (mNew M a b c) q = if q = mSz M then b else mLn M q := rfl
/-- a method's tables: bytes; fields read; fields written; classes made; arrays of references made; constants; calls; the script; Object's constructor; the answer's kind (0 none, 1 int, 2 boolean, 3 a reference) -/
abbrev me_X : Type := ByteArray × (Nat → Option (Nat × Nat × Nat × Nat)) × (Nat → Option (Nat × Nat × Nat × Nat)) × (Nat → Option (Nat × Nat)) × (Nat → Option Nat) × (Nat → Option Int32) × (Nat → List me_V → me_M → Option me_V → me_M → Prop) × Option (Nat × Nat × (Nat → Int32)) × Nat × Nat
abbrev xC (X : me_X) := X.1
abbrev xF (X : me_X) := X.2.1
abbrev xG (X : me_X) := X.2.2.1
abbrev xN (X : me_X) := X.2.2.2.1
abbrev xA (X : me_X) := X.2.2.2.2.1
abbrev xK (X : me_X) := X.2.2.2.2.2.1
abbrev xCall (X : me_X) := X.2.2.2.2.2.2.1
abbrev xS (X : me_X) := X.2.2.2.2.2.2.2.1
abbrev xO (X : me_X) := X.2.2.2.2.2.2.2.2.1
abbrev xR (X : me_X) := X.2.2.2.2.2.2.2.2.2
abbrev me_J : Type := Nat → List (Option me_V) → List me_V → me_M → Prop

/-- the rules: what holds behind an instruction holds at it -/
def me_rule (me_el : Nat → Nat) (X : me_X) (v : Option me_V) (N : me_M) (J : me_J) : Nat → Prop
  | 0 => ∀ (pc : Nat) (ls : List (Option me_V)) (st : List me_V) (M : me_M) (n : Int) (w : Int32), decode (xC X) pc = .ok (.iconst n, 1) → Int32.ofInt n = w → J (pc + 1) ls (.inl w :: st) M → J pc ls st M
  | 1 => ∀ (pc : Nat) (ls : List (Option me_V)) (st : List me_V) (M : me_M) (n : Int) (w : Int32), decode (xC X) pc = .ok (.bipush n, 2) → (Int8.ofInt n).toInt32 = w → J (pc + 2) ls (.inl w :: st) M → J pc ls st M
  | 2 => ∀ (pc : Nat) (ls : List (Option me_V)) (st : List me_V) (M : me_M) (n : Int) (w : Int32), decode (xC X) pc = .ok (.sipush n, 3) → (Int16.ofInt n).toInt32 = w → J (pc + 3) ls (.inl w :: st) M → J pc ls st M
  | 3 => ∀ (pc : Nat) (ls : List (Option me_V)) (st : List me_V) (M : me_M) (n : Nat) (w : Int32), decode (xC X) pc = .ok (.ldc n, 2) → xK X n = some w → J (pc + 2) ls (.inl w :: st) M → J pc ls st M
  | 4 => ∀ (pc : Nat) (ls : List (Option me_V)) (st : List me_V) (M : me_M), decode (xC X) pc = .ok (.aconst_null, 1) → J (pc + 1) ls (.inr none :: st) M → J pc ls st M
  | 5 => ∀ (pc : Nat) (ls : List (Option me_V)) (st : List me_V) (M : me_M) (k : Fin 4) (x : Int32), decode (xC X) pc = .ok (.iload_n k, 1) → ls[(k : Nat)]? = some (some (.inl x)) → J (pc + 1) ls (.inl x :: st) M → J pc ls st M
  | 6 => ∀ (pc : Nat) (ls : List (Option me_V)) (st : List me_V) (M : me_M) (k : Nat) (x : Int32), decode (xC X) pc = .ok (.iload k, 2) → ls[k]? = some (some (.inl x)) → J (pc + 2) ls (.inl x :: st) M → J pc ls st M
  | 7 => ∀ (pc : Nat) (ls : List (Option me_V)) (st : List me_V) (M : me_M) (k : Fin 4) (x : Option Nat), decode (xC X) pc = .ok (.aload_n k, 1) → ls[(k : Nat)]? = some (some (.inr x)) → J (pc + 1) ls (.inr x :: st) M → J pc ls st M
  | 8 => ∀ (pc : Nat) (ls : List (Option me_V)) (st : List me_V) (M : me_M) (k : Nat) (x : Option Nat), decode (xC X) pc = .ok (.aload k, 2) → ls[k]? = some (some (.inr x)) → J (pc + 2) ls (.inr x :: st) M → J pc ls st M
  | 9 => ∀ (pc : Nat) (ls : List (Option me_V)) (st : List me_V) (M : me_M) (k : Fin 4) (x : Int32) (ls2 : List (Option me_V)), decode (xC X) pc = .ok (.istore_n k, 1) → (k : Nat) < ls.length → ls.set (k : Nat) (some (.inl x)) = ls2 → J (pc + 1) ls2 st M → J pc ls (.inl x :: st) M
  | 10 => ∀ (pc : Nat) (ls : List (Option me_V)) (st : List me_V) (M : me_M) (k : Nat) (x : Int32) (ls2 : List (Option me_V)), decode (xC X) pc = .ok (.istore k, 2) → k < ls.length → ls.set k (some (.inl x)) = ls2 → J (pc + 2) ls2 st M → J pc ls (.inl x :: st) M
  | 11 => ∀ (pc : Nat) (ls : List (Option me_V)) (st : List me_V) (M : me_M) (k : Fin 4) (x : Option Nat) (ls2 : List (Option me_V)), decode (xC X) pc = .ok (.astore_n k, 1) → (k : Nat) < ls.length → ls.set (k : Nat) (some (.inr x)) = ls2 → J (pc + 1) ls2 st M → J pc ls (.inr x :: st) M
  | 12 => ∀ (pc : Nat) (ls : List (Option me_V)) (st : List me_V) (M : me_M) (k : Nat) (x : Option Nat) (ls2 : List (Option me_V)), decode (xC X) pc = .ok (.astore k, 2) → k < ls.length → ls.set k (some (.inr x)) = ls2 → J (pc + 2) ls2 st M → J pc ls (.inr x :: st) M
  | 13 => ∀ (pc : Nat) (ls : List (Option me_V)) (st : List me_V) (M : me_M) (k : Nat) (n : Int) (x : Int32) (ls2 : List (Option me_V)), decode (xC X) pc = .ok (.iinc k n, 3) → ls[k]? = some (some (.inl x)) → ls.set k (some (.inl (x + Int32.ofInt n))) = ls2 → J (pc + 3) ls2 st M → J pc ls st M
  | 14 => ∀ (pc : Nat) (ls : List (Option me_V)) (st : List me_V) (M : me_M) (x y : Int32), decode (xC X) pc = .ok (.iadd, 1) → J (pc + 1) ls (.inl (x + y) :: st) M → J pc ls (.inl y :: .inl x :: st) M
  | 15 => ∀ (pc : Nat) (ls : List (Option me_V)) (st : List me_V) (M : me_M) (x y : Int32), decode (xC X) pc = .ok (.isub, 1) → J (pc + 1) ls (.inl (x - y) :: st) M → J pc ls (.inl y :: .inl x :: st) M
  | 16 => ∀ (pc : Nat) (ls : List (Option me_V)) (st : List me_V) (M : me_M) (x y : Int32), decode (xC X) pc = .ok (.imul, 1) → J (pc + 1) ls (.inl (x * y) :: st) M → J pc ls (.inl y :: .inl x :: st) M
  | 17 => ∀ (pc : Nat) (ls : List (Option me_V)) (st : List me_V) (M : me_M) (x y : Int32), decode (xC X) pc = .ok (.iand, 1) → J (pc + 1) ls (.inl (x &&& y) :: st) M → J pc ls (.inl y :: .inl x :: st) M
  | 18 => ∀ (pc : Nat) (ls : List (Option me_V)) (st : List me_V) (M : me_M) (x y : Int32), decode (xC X) pc = .ok (.ior, 1) → J (pc + 1) ls (.inl (x ||| y) :: st) M → J pc ls (.inl y :: .inl x :: st) M
  | 19 => ∀ (pc : Nat) (ls : List (Option me_V)) (st : List me_V) (M : me_M) (x y : Int32), decode (xC X) pc = .ok (.ixor, 1) → J (pc + 1) ls (.inl (x ^^^ y) :: st) M → J pc ls (.inl y :: .inl x :: st) M
  | 20 => ∀ (pc : Nat) (ls : List (Option me_V)) (st : List me_V) (M : me_M) (x y : Int32), decode (xC X) pc = .ok (.ishl, 1) → J (pc + 1) ls (.inl (x <<< (y &&& 31)) :: st) M → J pc ls (.inl y :: .inl x :: st) M
  | 21 => ∀ (pc : Nat) (ls : List (Option me_V)) (st : List me_V) (M : me_M) (x y : Int32), decode (xC X) pc = .ok (.ishr, 1) → J (pc + 1) ls (.inl (x >>> (y &&& 31)) :: st) M → J pc ls (.inl y :: .inl x :: st) M
  | 22 => ∀ (pc : Nat) (ls : List (Option me_V)) (st : List me_V) (M : me_M) (x y : Int32), decode (xC X) pc = .ok (.idiv, 1) → ¬ y = 0 → J (pc + 1) ls (.inl (x / y) :: st) M → J pc ls (.inl y :: .inl x :: st) M
  | 23 => ∀ (pc : Nat) (ls : List (Option me_V)) (st : List me_V) (M : me_M) (x y : Int32), decode (xC X) pc = .ok (.irem, 1) → ¬ y = 0 → J (pc + 1) ls (.inl (x - x / y * y) :: st) M → J pc ls (.inl y :: .inl x :: st) M
  | 24 => ∀ (pc : Nat) (ls : List (Option me_V)) (st : List me_V) (M : me_M) (x : Int32), decode (xC X) pc = .ok (.ineg, 1) → J (pc + 1) ls (.inl (-x) :: st) M → J pc ls (.inl x :: st) M
  | 25 => ∀ (pc : Nat) (ls : List (Option me_V)) (st : List me_V) (M : me_M) (x : me_V), decode (xC X) pc = .ok (.dup, 1) → J (pc + 1) ls (x :: x :: st) M → J pc ls (x :: st) M
  | 26 => ∀ (pc : Nat) (ls : List (Option me_V)) (st : List me_V) (M : me_M) (x : me_V), decode (xC X) pc = .ok (.pop, 1) → J (pc + 1) ls st M → J pc ls (x :: st) M
  | 27 => ∀ (pc : Nat) (ls : List (Option me_V)) (st : List me_V) (M : me_M) (x y : me_V), decode (xC X) pc = .ok (.dup_x1, 1) → J (pc + 1) ls (x :: y :: x :: st) M → J pc ls (x :: y :: st) M
  | 28 => ∀ (pc : Nat) (ls : List (Option me_V)) (st : List me_V) (M : me_M) (x y z : me_V), decode (xC X) pc = .ok (.dup_x2, 1) → J (pc + 1) ls (x :: y :: z :: x :: st) M → J pc ls (x :: y :: z :: st) M
  | 29 => ∀ (pc : Nat) (ls : List (Option me_V)) (st : List me_V) (M : me_M) (x y : me_V), decode (xC X) pc = .ok (.dup2, 1) → J (pc + 1) ls (x :: y :: x :: y :: st) M → J pc ls (x :: y :: st) M
  | 30 => ∀ (pc : Nat) (ls : List (Option me_V)) (st : List me_V) (M : me_M) (x : Int32) (off : Int) (tgt : Nat), decode (xC X) pc = .ok (.ifCond .eq off, 3) → (pc : Int) + off = (tgt : Int) → (x = 0 → J tgt ls st M) → (¬ x = 0 → J (pc + 3) ls st M) → J pc ls (.inl x :: st) M
  | 31 => ∀ (pc : Nat) (ls : List (Option me_V)) (st : List me_V) (M : me_M) (x : Int32) (off : Int) (tgt : Nat), decode (xC X) pc = .ok (.ifCond .ne off, 3) → (pc : Int) + off = (tgt : Int) → (¬ x = 0 → J tgt ls st M) → (x = 0 → J (pc + 3) ls st M) → J pc ls (.inl x :: st) M
  | 32 => ∀ (pc : Nat) (ls : List (Option me_V)) (st : List me_V) (M : me_M) (x : Int32) (off : Int) (tgt : Nat), decode (xC X) pc = .ok (.ifCond .lt off, 3) → (pc : Int) + off = (tgt : Int) → (x < 0 → J tgt ls st M) → (¬ x < 0 → J (pc + 3) ls st M) → J pc ls (.inl x :: st) M
  | 33 => ∀ (pc : Nat) (ls : List (Option me_V)) (st : List me_V) (M : me_M) (x : Int32) (off : Int) (tgt : Nat), decode (xC X) pc = .ok (.ifCond .ge off, 3) → (pc : Int) + off = (tgt : Int) → (0 ≤ x → J tgt ls st M) → (¬ 0 ≤ x → J (pc + 3) ls st M) → J pc ls (.inl x :: st) M
  | 34 => ∀ (pc : Nat) (ls : List (Option me_V)) (st : List me_V) (M : me_M) (x : Int32) (off : Int) (tgt : Nat), decode (xC X) pc = .ok (.ifCond .gt off, 3) → (pc : Int) + off = (tgt : Int) → (0 < x → J tgt ls st M) → (¬ 0 < x → J (pc + 3) ls st M) → J pc ls (.inl x :: st) M
  | 35 => ∀ (pc : Nat) (ls : List (Option me_V)) (st : List me_V) (M : me_M) (x : Int32) (off : Int) (tgt : Nat), decode (xC X) pc = .ok (.ifCond .le off, 3) → (pc : Int) + off = (tgt : Int) → (x ≤ 0 → J tgt ls st M) → (¬ x ≤ 0 → J (pc + 3) ls st M) → J pc ls (.inl x :: st) M
  | 36 => ∀ (pc : Nat) (ls : List (Option me_V)) (st : List me_V) (M : me_M) (x y : Int32) (off : Int) (tgt : Nat), decode (xC X) pc = .ok (.if_icmp .eq off, 3) → (pc : Int) + off = (tgt : Int) → (x = y → J tgt ls st M) → (¬ x = y → J (pc + 3) ls st M) → J pc ls (.inl y :: .inl x :: st) M
  | 37 => ∀ (pc : Nat) (ls : List (Option me_V)) (st : List me_V) (M : me_M) (x y : Int32) (off : Int) (tgt : Nat), decode (xC X) pc = .ok (.if_icmp .ne off, 3) → (pc : Int) + off = (tgt : Int) → (¬ x = y → J tgt ls st M) → (x = y → J (pc + 3) ls st M) → J pc ls (.inl y :: .inl x :: st) M
  | 38 => ∀ (pc : Nat) (ls : List (Option me_V)) (st : List me_V) (M : me_M) (x y : Int32) (off : Int) (tgt : Nat), decode (xC X) pc = .ok (.if_icmp .lt off, 3) → (pc : Int) + off = (tgt : Int) → (x < y → J tgt ls st M) → (¬ x < y → J (pc + 3) ls st M) → J pc ls (.inl y :: .inl x :: st) M
  | 39 => ∀ (pc : Nat) (ls : List (Option me_V)) (st : List me_V) (M : me_M) (x y : Int32) (off : Int) (tgt : Nat), decode (xC X) pc = .ok (.if_icmp .ge off, 3) → (pc : Int) + off = (tgt : Int) → (y ≤ x → J tgt ls st M) → (¬ y ≤ x → J (pc + 3) ls st M) → J pc ls (.inl y :: .inl x :: st) M
  | 40 => ∀ (pc : Nat) (ls : List (Option me_V)) (st : List me_V) (M : me_M) (x y : Int32) (off : Int) (tgt : Nat), decode (xC X) pc = .ok (.if_icmp .gt off, 3) → (pc : Int) + off = (tgt : Int) → (y < x → J tgt ls st M) → (¬ y < x → J (pc + 3) ls st M) → J pc ls (.inl y :: .inl x :: st) M
  | 41 => ∀ (pc : Nat) (ls : List (Option me_V)) (st : List me_V) (M : me_M) (x y : Int32) (off : Int) (tgt : Nat), decode (xC X) pc = .ok (.if_icmp .le off, 3) → (pc : Int) + off = (tgt : Int) → (x ≤ y → J tgt ls st M) → (¬ x ≤ y → J (pc + 3) ls st M) → J pc ls (.inl y :: .inl x :: st) M
  | 42 => ∀ (pc : Nat) (ls : List (Option me_V)) (st : List me_V) (M : me_M) (x y : Option Nat) (off : Int) (tgt : Nat), decode (xC X) pc = .ok (.if_acmp .eq off, 3) → (pc : Int) + off = (tgt : Int) → (x = y → J tgt ls st M) → (¬ x = y → J (pc + 3) ls st M) → J pc ls (.inr y :: .inr x :: st) M
  | 43 => ∀ (pc : Nat) (ls : List (Option me_V)) (st : List me_V) (M : me_M) (x y : Option Nat) (off : Int) (tgt : Nat), decode (xC X) pc = .ok (.if_acmp .ne off, 3) → (pc : Int) + off = (tgt : Int) → (¬ x = y → J tgt ls st M) → (x = y → J (pc + 3) ls st M) → J pc ls (.inr y :: .inr x :: st) M
  | 44 => ∀ (pc : Nat) (ls : List (Option me_V)) (st : List me_V) (M : me_M) (x : Option Nat) (off : Int) (tgt : Nat), decode (xC X) pc = .ok (.ifnull off, 3) → (pc : Int) + off = (tgt : Int) → (x = none → J tgt ls st M) → (¬ x = none → J (pc + 3) ls st M) → J pc ls (.inr x :: st) M
  | 45 => ∀ (pc : Nat) (ls : List (Option me_V)) (st : List me_V) (M : me_M) (x : Option Nat) (off : Int) (tgt : Nat), decode (xC X) pc = .ok (.ifnonnull off, 3) → (pc : Int) + off = (tgt : Int) → (¬ x = none → J tgt ls st M) → (x = none → J (pc + 3) ls st M) → J pc ls (.inr x :: st) M
  | 46 => ∀ (pc : Nat) (ls : List (Option me_V)) (st : List me_V) (M : me_M) (off : Int) (tgt : Nat), decode (xC X) pc = .ok (.goto off, 3) → (pc : Int) + off = (tgt : Int) → J tgt ls st M → J pc ls st M
  | 47 => ∀ (pc : Nat) (ls : List (Option me_V)) (st : List me_V) (M : me_M) (x : Int32) (dflt lo hi : Int) (offs : Array Int) (len : Nat) (off : Int) (tgt : Nat), decode (xC X) pc = .ok (.tableswitch dflt lo hi offs, len) → ¬ x.toInt < lo → ¬ hi < x.toInt → offs[(x.toInt - lo).toNat]? = some off → (pc : Int) + off = (tgt : Int) → J tgt ls st M → J pc ls (.inl x :: st) M
  | 48 => ∀ (pc : Nat) (ls : List (Option me_V)) (st : List me_V) (M : me_M) (x : Int32) (dflt lo hi : Int) (offs : Array Int) (len : Nat) (tgt : Nat), decode (xC X) pc = .ok (.tableswitch dflt lo hi offs, len) → x.toInt < lo ∨ hi < x.toInt → (pc : Int) + dflt = (tgt : Int) → J tgt ls st M → J pc ls (.inl x :: st) M
  | 49 => ∀ (pc : Nat) (ls : List (Option me_V)) (st : List me_V) (M : me_M) (x : Int32) (dflt : Int) (ps : Array (Int × Int)) (len : Nat) (off : Int) (tgt : Nat), decode (xC X) pc = .ok (.lookupswitch dflt ps, len) → (ps.toList.zip (ps.toList.drop 1)).all (fun (a, next) => a.1 < next.1) = true → Op.lookupswitch.offset ps.toList dflt x.toInt = off → (pc : Int) + off = (tgt : Int) → J tgt ls st M → J pc ls (.inl x :: st) M
  | 50 => ∀ (pc : Nat) (ls : List (Option me_V)) (st : List me_V) (M : me_M) (q idx ci k key ty : Nat), decode (xC X) pc = .ok (.getfield idx, 3) → xF X idx = some (ci, k, key, ty) → ¬ ty = 2 → mKd M q = ci + 1 → J (pc + 3) ls (.inl (mI M key q 0) :: st) M → J pc ls (.inr (some q) :: st) M
  | 51 => ∀ (pc : Nat) (ls : List (Option me_V)) (st : List me_V) (M : me_M) (q idx ci k key : Nat), decode (xC X) pc = .ok (.getfield idx, 3) → xF X idx = some (ci, k, key, 2) → mKd M q = ci + 1 → J (pc + 3) ls (.inr (mR M key q 0) :: st) M → J pc ls (.inr (some q) :: st) M
  | 52 => ∀ (pc : Nat) (ls : List (Option me_V)) (st : List me_V) (M : me_M) (q idx ci k key : Nat) (x : Int32), decode (xC X) pc = .ok (.putfield idx, 3) → xG X idx = some (ci, k, key, 0) → mKd M q = ci + 1 → J (pc + 3) ls st (mSetI M key q 0 x) → J pc ls (.inl x :: .inr (some q) :: st) M
  | 53 => ∀ (pc : Nat) (ls : List (Option me_V)) (st : List me_V) (M : me_M) (q idx ci k key : Nat) (x : Int32), decode (xC X) pc = .ok (.putfield idx, 3) → xG X idx = some (ci, k, key, 1) → mKd M q = ci + 1 → x = 0 ∨ x = 1 → J (pc + 3) ls st (mSetI M key q 0 x) → J pc ls (.inl x :: .inr (some q) :: st) M
  | 54 => ∀ (pc : Nat) (ls : List (Option me_V)) (st : List me_V) (M : me_M) (q idx ci k key : Nat) (x : Option Nat), decode (xC X) pc = .ok (.putfield idx, 3) → xG X idx = some (ci, k, key, 2) → mKd M q = ci + 1 → J (pc + 3) ls st (mSetR M key q 0 x) → J pc ls (.inr x :: .inr (some q) :: st) M
  | 55 => ∀ (pc : Nat) (ls : List (Option me_V)) (st : List me_V) (M : me_M) (idx ci n : Nat), decode (xC X) pc = .ok (.new idx, 3) → xN X idx = some (ci, n) → J (pc + 3) ls (.inr (some (mSz M)) :: st) (mNew M (ci + 1) 0 n) → J pc ls st M
  | 56 => ∀ (pc : Nat) (ls : List (Option me_V)) (st : List me_V) (M : me_M) (n : Int32), decode (xC X) pc = .ok (.newarray .int, 2) → xA X 70000 = some 100 → ¬ n < 0 → n.toNatClampNeg ≤ 100000 → J (pc + 2) ls (.inr (some (mSz M)) :: st) (mNew M 100 n.toNatClampNeg n.toNatClampNeg) → J pc ls (.inl n :: st) M
  | 57 => ∀ (pc : Nat) (ls : List (Option me_V)) (st : List me_V) (M : me_M) (n : Int32), decode (xC X) pc = .ok (.newarray .boolean, 2) → xA X 70001 = some 101 → ¬ n < 0 → n.toNatClampNeg ≤ 100000 → J (pc + 2) ls (.inr (some (mSz M)) :: st) (mNew M 101 n.toNatClampNeg n.toNatClampNeg) → J pc ls (.inl n :: st) M
  | 58 => ∀ (pc : Nat) (ls : List (Option me_V)) (st : List me_V) (M : me_M) (n : Int32) (idx a : Nat), decode (xC X) pc = .ok (.anewarray idx, 3) → xA X idx = some a → idx < 70000 → ¬ n < 0 → n.toNatClampNeg ≤ 100000 → J (pc + 3) ls (.inr (some (mSz M)) :: st) (mNew M a n.toNatClampNeg n.toNatClampNeg) → J pc ls (.inl n :: st) M
  | 59 => ∀ (pc : Nat) (ls : List (Option me_V)) (st : List me_V) (M : me_M) (q : Nat), decode (xC X) pc = .ok (.arraylength, 1) → 100 ≤ mKd M q → J (pc + 1) ls (.inl (Int32.ofNat (mLn M q)) :: st) M → J pc ls (.inr (some q) :: st) M
  | 60 => ∀ (pc : Nat) (ls : List (Option me_V)) (st : List me_V) (M : me_M) (q : Nat) (i : Int32), decode (xC X) pc = .ok (.iaload, 1) → mKd M q = 100 → vp_in i (mLn M q) → J (pc + 1) ls (.inl (mI M 100 q i.toNatClampNeg) :: st) M → J pc ls (.inl i :: .inr (some q) :: st) M
  | 61 => ∀ (pc : Nat) (ls : List (Option me_V)) (st : List me_V) (M : me_M) (q : Nat) (i x : Int32), decode (xC X) pc = .ok (.iastore, 1) → mKd M q = 100 → vp_in i (mLn M q) → J (pc + 1) ls st (mSetI M 100 q i.toNatClampNeg x) → J pc ls (.inl x :: .inl i :: .inr (some q) :: st) M
  | 62 => ∀ (pc : Nat) (ls : List (Option me_V)) (st : List me_V) (M : me_M) (q : Nat) (i : Int32), decode (xC X) pc = .ok (.baload, 1) → mKd M q = 101 → vp_in i (mLn M q) → J (pc + 1) ls (.inl (mI M 101 q i.toNatClampNeg) :: st) M → J pc ls (.inl i :: .inr (some q) :: st) M
  | 63 => ∀ (pc : Nat) (ls : List (Option me_V)) (st : List me_V) (M : me_M) (q : Nat) (i x : Int32), decode (xC X) pc = .ok (.bastore, 1) → mKd M q = 101 → vp_in i (mLn M q) → x = 0 ∨ x = 1 → J (pc + 1) ls st (mSetI M 101 q i.toNatClampNeg x) → J pc ls (.inl x :: .inl i :: .inr (some q) :: st) M
  | 64 => ∀ (pc : Nat) (ls : List (Option me_V)) (st : List me_V) (M : me_M) (q a : Nat) (i : Int32), decode (xC X) pc = .ok (.aaload, 1) → mKd M q = a → 102 ≤ a → vp_in i (mLn M q) → J (pc + 1) ls (.inr (mR M a q i.toNatClampNeg) :: st) M → J pc ls (.inl i :: .inr (some q) :: st) M
  | 65 => ∀ (pc : Nat) (ls : List (Option me_V)) (st : List me_V) (M : me_M) (q a w : Nat) (i : Int32), decode (xC X) pc = .ok (.aastore, 1) → mKd M q = a → 102 ≤ a → vp_in i (mLn M q) → mKd M w = me_el a → J (pc + 1) ls st (mSetR M a q i.toNatClampNeg (some w)) → J pc ls (.inr (some w) :: .inl i :: .inr (some q) :: st) M
  | 66 => ∀ (pc : Nat) (ls : List (Option me_V)) (st : List me_V) (M : me_M) (q a : Nat) (i : Int32), decode (xC X) pc = .ok (.aastore, 1) → mKd M q = a → 102 ≤ a → vp_in i (mLn M q) → J (pc + 1) ls st (mSetR M a q i.toNatClampNeg none) → J pc ls (.inr none :: .inl i :: .inr (some q) :: st) M
  | 67 => ∀ (pc : Nat) (ls : List (Option me_V)) (st : List me_V) (M : me_M) (as : List me_V) (r : Option me_V) (M1 : me_M), xCall X pc as M r M1 → st.length ≤ 8 → J (pc + 3) ls (r.toList ++ st) M1 → J pc ls (as.reverse ++ st) M
  | 68 => ∀ (pc : Nat) (ls : List (Option me_V)) (st : List me_V) (M : me_M) (q : Nat), decode (xC X) pc = .ok (.invokespecial (xO X), 3) → ¬ xO X = 0 → st.length ≤ 8 → J (pc + 3) ls st M → J pc ls (.inr (some q) :: st) M
  | 69 => ∀ (pc : Nat) (ls : List (Option me_V)) (st : List me_V) (M : me_M) (k : Nat) (ls2 : List (Option me_V)), ls.set k none = ls2 → J pc ls2 st M → J pc ls st M
  | 70 => ∀ (pc : Nat) (ls : List (Option me_V)) (st : List me_V) (M : me_M) (b L : Nat) (xs : Nat → Int32) (i : Int32), decode (xC X) pc = .ok (.iaload, 1) → xS X = some (b, L, xs) → vp_in i L → J (pc + 1) ls (.inl (xs i.toNatClampNeg) :: st) M → J pc ls (.inl i :: .inr (some b) :: st) M
  | 71 => ∀ (pc : Nat) (ls : List (Option me_V)) (st : List me_V) (M : me_M) (b L : Nat) (xs : Nat → Int32), decode (xC X) pc = .ok (.arraylength, 1) → xS X = some (b, L, xs) → J (pc + 1) ls (.inl (Int32.ofNat L) :: st) M → J pc ls (.inr (some b) :: st) M
  | 72 => ∀ (pc : Nat) (ls : List (Option me_V)) (x : Int32), decode (xC X) pc = .ok (.ireturn, 1) → xR X = 1 → v = some (.inl x) → J pc ls [.inl x] N
  | 73 => ∀ (pc : Nat) (ls : List (Option me_V)) (x : Int32), decode (xC X) pc = .ok (.ireturn, 1) → xR X = 2 → x = 0 ∨ x = 1 → v = some (.inl x) → J pc ls [.inl x] N
  | 74 => ∀ (pc : Nat) (ls : List (Option me_V)) (x : Option Nat), decode (xC X) pc = .ok (.areturn, 1) → xR X = 3 → v = some (.inr x) → J pc ls [.inr x] N
  | 75 => ∀ (pc : Nat) (ls : List (Option me_V)), decode (xC X) pc = .ok (.return_, 1) → xR X = 0 → v = none → J pc ls [] N
  | _ => True
def RUN (el : Nat → Nat) (X : me_X) (pc : Nat) (ls : List (Option me_V)) (st : List me_V) (M : me_M) (v : Option me_V) (N : me_M) : Prop := ∀ J : me_J, (∀ i, me_rule el X v N J i) → J pc ls st M
def EX (el : Nat → Nat) (X : me_X) (pc : Nat) (ls : List (Option me_V)) (st : List me_V) (M : me_M) (Q : Option me_V → me_M → Prop) : Prop := ∃ v N, RUN el X pc ls st M v N ∧ Q v N
theorem EX.mono {el : Nat → Nat} {X : me_X} {pc : Nat} {ls : List (Option me_V)} {st : List me_V} {M : me_M} {Q Q2 : Option me_V → me_M → Prop} (h : EX el X pc ls st M Q) (hq : ∀ v N, Q v N → Q2 v N) : EX el X pc ls st M Q2 := by
  obtain ⟨v, N, h1, h2⟩ := h
  exact ⟨v, N, h1, hq v N h2⟩
section EXR
variable {el : Nat → Nat} {X : me_X} {Q : Option me_V → me_M → Prop}
theorem ex_iconst {pc : Nat} {ls : List (Option me_V)} {st : List me_V} {M : me_M} {n : Int} {w : Int32} (d : decode (xC X) pc = .ok (.iconst n, 1)) (hw : Int32.ofInt n = w) (kk : EX el X (pc + 1) ls (.inl w :: st) M Q) : EX el X pc ls st M Q := by
  obtain ⟨v, N, h9, q9⟩ := kk
  exact ⟨v, N, fun J hJ => (hJ 0 : me_rule el X v N J 0) pc ls st M n w d hw (h9 J hJ), q9⟩
theorem ex_bipush {pc : Nat} {ls : List (Option me_V)} {st : List me_V} {M : me_M} {n : Int} {w : Int32} (d : decode (xC X) pc = .ok (.bipush n, 2)) (hw : (Int8.ofInt n).toInt32 = w) (kk : EX el X (pc + 2) ls (.inl w :: st) M Q) : EX el X pc ls st M Q := by
  obtain ⟨v, N, h9, q9⟩ := kk
  exact ⟨v, N, fun J hJ => (hJ 1 : me_rule el X v N J 1) pc ls st M n w d hw (h9 J hJ), q9⟩
theorem ex_sipush {pc : Nat} {ls : List (Option me_V)} {st : List me_V} {M : me_M} {n : Int} {w : Int32} (d : decode (xC X) pc = .ok (.sipush n, 3)) (hw : (Int16.ofInt n).toInt32 = w) (kk : EX el X (pc + 3) ls (.inl w :: st) M Q) : EX el X pc ls st M Q := by
  obtain ⟨v, N, h9, q9⟩ := kk
  exact ⟨v, N, fun J hJ => (hJ 2 : me_rule el X v N J 2) pc ls st M n w d hw (h9 J hJ), q9⟩
theorem ex_ldc {pc : Nat} {ls : List (Option me_V)} {st : List me_V} {M : me_M} {n : Nat} {w : Int32} (d : decode (xC X) pc = .ok (.ldc n, 2)) (hw : xK X n = some w) (kk : EX el X (pc + 2) ls (.inl w :: st) M Q) : EX el X pc ls st M Q := by
  obtain ⟨v, N, h9, q9⟩ := kk
  exact ⟨v, N, fun J hJ => (hJ 3 : me_rule el X v N J 3) pc ls st M n w d hw (h9 J hJ), q9⟩
theorem ex_null {pc : Nat} {ls : List (Option me_V)} {st : List me_V} {M : me_M} (d : decode (xC X) pc = .ok (.aconst_null, 1)) (kk : EX el X (pc + 1) ls (.inr none :: st) M Q) : EX el X pc ls st M Q := by
  obtain ⟨v, N, h9, q9⟩ := kk
  exact ⟨v, N, fun J hJ => (hJ 4 : me_rule el X v N J 4) pc ls st M d (h9 J hJ), q9⟩
theorem ex_iload_n {pc : Nat} {ls : List (Option me_V)} {st : List me_V} {M : me_M} {k : Fin 4} {x : Int32} (d : decode (xC X) pc = .ok (.iload_n k, 1)) (hl : ls[(k : Nat)]? = some (some (.inl x))) (kk : EX el X (pc + 1) ls (.inl x :: st) M Q) : EX el X pc ls st M Q := by
  obtain ⟨v, N, h9, q9⟩ := kk
  exact ⟨v, N, fun J hJ => (hJ 5 : me_rule el X v N J 5) pc ls st M k x d hl (h9 J hJ), q9⟩
theorem ex_iload {pc : Nat} {ls : List (Option me_V)} {st : List me_V} {M : me_M} {k : Nat} {x : Int32} (d : decode (xC X) pc = .ok (.iload k, 2)) (hl : ls[k]? = some (some (.inl x))) (kk : EX el X (pc + 2) ls (.inl x :: st) M Q) : EX el X pc ls st M Q := by
  obtain ⟨v, N, h9, q9⟩ := kk
  exact ⟨v, N, fun J hJ => (hJ 6 : me_rule el X v N J 6) pc ls st M k x d hl (h9 J hJ), q9⟩
theorem ex_aload_n {pc : Nat} {ls : List (Option me_V)} {st : List me_V} {M : me_M} {k : Fin 4} {x : Option Nat} (d : decode (xC X) pc = .ok (.aload_n k, 1)) (hl : ls[(k : Nat)]? = some (some (.inr x))) (kk : EX el X (pc + 1) ls (.inr x :: st) M Q) : EX el X pc ls st M Q := by
  obtain ⟨v, N, h9, q9⟩ := kk
  exact ⟨v, N, fun J hJ => (hJ 7 : me_rule el X v N J 7) pc ls st M k x d hl (h9 J hJ), q9⟩
theorem ex_aload {pc : Nat} {ls : List (Option me_V)} {st : List me_V} {M : me_M} {k : Nat} {x : Option Nat} (d : decode (xC X) pc = .ok (.aload k, 2)) (hl : ls[k]? = some (some (.inr x))) (kk : EX el X (pc + 2) ls (.inr x :: st) M Q) : EX el X pc ls st M Q := by
  obtain ⟨v, N, h9, q9⟩ := kk
  exact ⟨v, N, fun J hJ => (hJ 8 : me_rule el X v N J 8) pc ls st M k x d hl (h9 J hJ), q9⟩
theorem ex_istore_n {pc : Nat} {ls : List (Option me_V)} {st : List me_V} {M : me_M} {k : Fin 4} {x : Int32} {ls2 : List (Option me_V)} (d : decode (xC X) pc = .ok (.istore_n k, 1)) (hk : (k : Nat) < ls.length) (hs : ls.set (k : Nat) (some (.inl x)) = ls2) (kk : EX el X (pc + 1) ls2 st M Q) : EX el X pc ls (.inl x :: st) M Q := by
  obtain ⟨v, N, h9, q9⟩ := kk
  exact ⟨v, N, fun J hJ => (hJ 9 : me_rule el X v N J 9) pc ls st M k x ls2 d hk hs (h9 J hJ), q9⟩
theorem ex_istore {pc : Nat} {ls : List (Option me_V)} {st : List me_V} {M : me_M} {k : Nat} {x : Int32} {ls2 : List (Option me_V)} (d : decode (xC X) pc = .ok (.istore k, 2)) (hk : k < ls.length) (hs : ls.set k (some (.inl x)) = ls2) (kk : EX el X (pc + 2) ls2 st M Q) : EX el X pc ls (.inl x :: st) M Q := by
  obtain ⟨v, N, h9, q9⟩ := kk
  exact ⟨v, N, fun J hJ => (hJ 10 : me_rule el X v N J 10) pc ls st M k x ls2 d hk hs (h9 J hJ), q9⟩
theorem ex_astore_n {pc : Nat} {ls : List (Option me_V)} {st : List me_V} {M : me_M} {k : Fin 4} {x : Option Nat} {ls2 : List (Option me_V)} (d : decode (xC X) pc = .ok (.astore_n k, 1)) (hk : (k : Nat) < ls.length) (hs : ls.set (k : Nat) (some (.inr x)) = ls2) (kk : EX el X (pc + 1) ls2 st M Q) : EX el X pc ls (.inr x :: st) M Q := by
  obtain ⟨v, N, h9, q9⟩ := kk
  exact ⟨v, N, fun J hJ => (hJ 11 : me_rule el X v N J 11) pc ls st M k x ls2 d hk hs (h9 J hJ), q9⟩
theorem ex_astore {pc : Nat} {ls : List (Option me_V)} {st : List me_V} {M : me_M} {k : Nat} {x : Option Nat} {ls2 : List (Option me_V)} (d : decode (xC X) pc = .ok (.astore k, 2)) (hk : k < ls.length) (hs : ls.set k (some (.inr x)) = ls2) (kk : EX el X (pc + 2) ls2 st M Q) : EX el X pc ls (.inr x :: st) M Q := by
  obtain ⟨v, N, h9, q9⟩ := kk
  exact ⟨v, N, fun J hJ => (hJ 12 : me_rule el X v N J 12) pc ls st M k x ls2 d hk hs (h9 J hJ), q9⟩
theorem ex_iinc {pc : Nat} {ls : List (Option me_V)} {st : List me_V} {M : me_M} {k : Nat} {n : Int} {x : Int32} {ls2 : List (Option me_V)} (d : decode (xC X) pc = .ok (.iinc k n, 3)) (hl : ls[k]? = some (some (.inl x))) (hs : ls.set k (some (.inl (x + Int32.ofInt n))) = ls2) (kk : EX el X (pc + 3) ls2 st M Q) : EX el X pc ls st M Q := by
  obtain ⟨v, N, h9, q9⟩ := kk
  exact ⟨v, N, fun J hJ => (hJ 13 : me_rule el X v N J 13) pc ls st M k n x ls2 d hl hs (h9 J hJ), q9⟩
theorem ex_iadd {pc : Nat} {ls : List (Option me_V)} {st : List me_V} {M : me_M} {x y : Int32} (d : decode (xC X) pc = .ok (.iadd, 1)) (kk : EX el X (pc + 1) ls (.inl (x + y) :: st) M Q) : EX el X pc ls (.inl y :: .inl x :: st) M Q := by
  obtain ⟨v, N, h9, q9⟩ := kk
  exact ⟨v, N, fun J hJ => (hJ 14 : me_rule el X v N J 14) pc ls st M x y d (h9 J hJ), q9⟩
theorem ex_isub {pc : Nat} {ls : List (Option me_V)} {st : List me_V} {M : me_M} {x y : Int32} (d : decode (xC X) pc = .ok (.isub, 1)) (kk : EX el X (pc + 1) ls (.inl (x - y) :: st) M Q) : EX el X pc ls (.inl y :: .inl x :: st) M Q := by
  obtain ⟨v, N, h9, q9⟩ := kk
  exact ⟨v, N, fun J hJ => (hJ 15 : me_rule el X v N J 15) pc ls st M x y d (h9 J hJ), q9⟩
theorem ex_imul {pc : Nat} {ls : List (Option me_V)} {st : List me_V} {M : me_M} {x y : Int32} (d : decode (xC X) pc = .ok (.imul, 1)) (kk : EX el X (pc + 1) ls (.inl (x * y) :: st) M Q) : EX el X pc ls (.inl y :: .inl x :: st) M Q := by
  obtain ⟨v, N, h9, q9⟩ := kk
  exact ⟨v, N, fun J hJ => (hJ 16 : me_rule el X v N J 16) pc ls st M x y d (h9 J hJ), q9⟩
theorem ex_iand {pc : Nat} {ls : List (Option me_V)} {st : List me_V} {M : me_M} {x y : Int32} (d : decode (xC X) pc = .ok (.iand, 1)) (kk : EX el X (pc + 1) ls (.inl (x &&& y) :: st) M Q) : EX el X pc ls (.inl y :: .inl x :: st) M Q := by
  obtain ⟨v, N, h9, q9⟩ := kk
  exact ⟨v, N, fun J hJ => (hJ 17 : me_rule el X v N J 17) pc ls st M x y d (h9 J hJ), q9⟩
theorem ex_ior {pc : Nat} {ls : List (Option me_V)} {st : List me_V} {M : me_M} {x y : Int32} (d : decode (xC X) pc = .ok (.ior, 1)) (kk : EX el X (pc + 1) ls (.inl (x ||| y) :: st) M Q) : EX el X pc ls (.inl y :: .inl x :: st) M Q := by
  obtain ⟨v, N, h9, q9⟩ := kk
  exact ⟨v, N, fun J hJ => (hJ 18 : me_rule el X v N J 18) pc ls st M x y d (h9 J hJ), q9⟩
theorem ex_ixor {pc : Nat} {ls : List (Option me_V)} {st : List me_V} {M : me_M} {x y : Int32} (d : decode (xC X) pc = .ok (.ixor, 1)) (kk : EX el X (pc + 1) ls (.inl (x ^^^ y) :: st) M Q) : EX el X pc ls (.inl y :: .inl x :: st) M Q := by
  obtain ⟨v, N, h9, q9⟩ := kk
  exact ⟨v, N, fun J hJ => (hJ 19 : me_rule el X v N J 19) pc ls st M x y d (h9 J hJ), q9⟩
theorem ex_ishl {pc : Nat} {ls : List (Option me_V)} {st : List me_V} {M : me_M} {x y : Int32} (d : decode (xC X) pc = .ok (.ishl, 1)) (kk : EX el X (pc + 1) ls (.inl (x <<< (y &&& 31)) :: st) M Q) : EX el X pc ls (.inl y :: .inl x :: st) M Q := by
  obtain ⟨v, N, h9, q9⟩ := kk
  exact ⟨v, N, fun J hJ => (hJ 20 : me_rule el X v N J 20) pc ls st M x y d (h9 J hJ), q9⟩
theorem ex_ishr {pc : Nat} {ls : List (Option me_V)} {st : List me_V} {M : me_M} {x y : Int32} (d : decode (xC X) pc = .ok (.ishr, 1)) (kk : EX el X (pc + 1) ls (.inl (x >>> (y &&& 31)) :: st) M Q) : EX el X pc ls (.inl y :: .inl x :: st) M Q := by
  obtain ⟨v, N, h9, q9⟩ := kk
  exact ⟨v, N, fun J hJ => (hJ 21 : me_rule el X v N J 21) pc ls st M x y d (h9 J hJ), q9⟩
theorem ex_idiv {pc : Nat} {ls : List (Option me_V)} {st : List me_V} {M : me_M} {x y : Int32} (d : decode (xC X) pc = .ok (.idiv, 1)) (hy : ¬ y = 0) (kk : EX el X (pc + 1) ls (.inl (x / y) :: st) M Q) : EX el X pc ls (.inl y :: .inl x :: st) M Q := by
  obtain ⟨v, N, h9, q9⟩ := kk
  exact ⟨v, N, fun J hJ => (hJ 22 : me_rule el X v N J 22) pc ls st M x y d hy (h9 J hJ), q9⟩
theorem ex_irem {pc : Nat} {ls : List (Option me_V)} {st : List me_V} {M : me_M} {x y : Int32} (d : decode (xC X) pc = .ok (.irem, 1)) (hy : ¬ y = 0) (kk : EX el X (pc + 1) ls (.inl (x - x / y * y) :: st) M Q) : EX el X pc ls (.inl y :: .inl x :: st) M Q := by
  obtain ⟨v, N, h9, q9⟩ := kk
  exact ⟨v, N, fun J hJ => (hJ 23 : me_rule el X v N J 23) pc ls st M x y d hy (h9 J hJ), q9⟩
theorem ex_ineg {pc : Nat} {ls : List (Option me_V)} {st : List me_V} {M : me_M} {x : Int32} (d : decode (xC X) pc = .ok (.ineg, 1)) (kk : EX el X (pc + 1) ls (.inl (-x) :: st) M Q) : EX el X pc ls (.inl x :: st) M Q := by
  obtain ⟨v, N, h9, q9⟩ := kk
  exact ⟨v, N, fun J hJ => (hJ 24 : me_rule el X v N J 24) pc ls st M x d (h9 J hJ), q9⟩
theorem ex_dup {pc : Nat} {ls : List (Option me_V)} {st : List me_V} {M : me_M} {x : me_V} (d : decode (xC X) pc = .ok (.dup, 1)) (kk : EX el X (pc + 1) ls (x :: x :: st) M Q) : EX el X pc ls (x :: st) M Q := by
  obtain ⟨v, N, h9, q9⟩ := kk
  exact ⟨v, N, fun J hJ => (hJ 25 : me_rule el X v N J 25) pc ls st M x d (h9 J hJ), q9⟩
theorem ex_pop {pc : Nat} {ls : List (Option me_V)} {st : List me_V} {M : me_M} {x : me_V} (d : decode (xC X) pc = .ok (.pop, 1)) (kk : EX el X (pc + 1) ls st M Q) : EX el X pc ls (x :: st) M Q := by
  obtain ⟨v, N, h9, q9⟩ := kk
  exact ⟨v, N, fun J hJ => (hJ 26 : me_rule el X v N J 26) pc ls st M x d (h9 J hJ), q9⟩
theorem ex_dup_x1 {pc : Nat} {ls : List (Option me_V)} {st : List me_V} {M : me_M} {x y : me_V} (d : decode (xC X) pc = .ok (.dup_x1, 1)) (kk : EX el X (pc + 1) ls (x :: y :: x :: st) M Q) : EX el X pc ls (x :: y :: st) M Q := by
  obtain ⟨v, N, h9, q9⟩ := kk
  exact ⟨v, N, fun J hJ => (hJ 27 : me_rule el X v N J 27) pc ls st M x y d (h9 J hJ), q9⟩
theorem ex_dup_x2 {pc : Nat} {ls : List (Option me_V)} {st : List me_V} {M : me_M} {x y z : me_V} (d : decode (xC X) pc = .ok (.dup_x2, 1)) (kk : EX el X (pc + 1) ls (x :: y :: z :: x :: st) M Q) : EX el X pc ls (x :: y :: z :: st) M Q := by
  obtain ⟨v, N, h9, q9⟩ := kk
  exact ⟨v, N, fun J hJ => (hJ 28 : me_rule el X v N J 28) pc ls st M x y z d (h9 J hJ), q9⟩
theorem ex_dup2 {pc : Nat} {ls : List (Option me_V)} {st : List me_V} {M : me_M} {x y : me_V} (d : decode (xC X) pc = .ok (.dup2, 1)) (kk : EX el X (pc + 1) ls (x :: y :: x :: y :: st) M Q) : EX el X pc ls (x :: y :: st) M Q := by
  obtain ⟨v, N, h9, q9⟩ := kk
  exact ⟨v, N, fun J hJ => (hJ 29 : me_rule el X v N J 29) pc ls st M x y d (h9 J hJ), q9⟩
theorem ex_if_eq {pc : Nat} {ls : List (Option me_V)} {st : List me_V} {M : me_M} {x : Int32} {off : Int} {tgt : Nat} (d : decode (xC X) pc = .ok (.ifCond .eq off, 3)) (ht : (pc : Int) + off = (tgt : Int)) (kt : x = 0 → EX el X tgt ls st M Q) (kf : ¬ x = 0 → EX el X (pc + 3) ls st M Q) : EX el X pc ls (.inl x :: st) M Q := by
  by_cases hg : x = 0
  · obtain ⟨v, N, h9, q9⟩ := kt hg
    exact ⟨v, N, fun J hJ => (hJ 30 : me_rule el X v N J 30) pc ls st M x off tgt d ht (fun _ => h9 J hJ) (fun z => absurd hg z), q9⟩
  · obtain ⟨v, N, h9, q9⟩ := kf hg
    exact ⟨v, N, fun J hJ => (hJ 30 : me_rule el X v N J 30) pc ls st M x off tgt d ht (fun z => absurd z hg) (fun _ => h9 J hJ), q9⟩
theorem ex_if_ne {pc : Nat} {ls : List (Option me_V)} {st : List me_V} {M : me_M} {x : Int32} {off : Int} {tgt : Nat} (d : decode (xC X) pc = .ok (.ifCond .ne off, 3)) (ht : (pc : Int) + off = (tgt : Int)) (kt : ¬ x = 0 → EX el X tgt ls st M Q) (kf : x = 0 → EX el X (pc + 3) ls st M Q) : EX el X pc ls (.inl x :: st) M Q := by
  by_cases hg : x = 0
  · obtain ⟨v, N, h9, q9⟩ := kf hg
    exact ⟨v, N, fun J hJ => (hJ 31 : me_rule el X v N J 31) pc ls st M x off tgt d ht (fun z => absurd hg z) (fun _ => h9 J hJ), q9⟩
  · obtain ⟨v, N, h9, q9⟩ := kt hg
    exact ⟨v, N, fun J hJ => (hJ 31 : me_rule el X v N J 31) pc ls st M x off tgt d ht (fun _ => h9 J hJ) (fun z => absurd z hg), q9⟩
theorem ex_if_lt {pc : Nat} {ls : List (Option me_V)} {st : List me_V} {M : me_M} {x : Int32} {off : Int} {tgt : Nat} (d : decode (xC X) pc = .ok (.ifCond .lt off, 3)) (ht : (pc : Int) + off = (tgt : Int)) (kt : x < 0 → EX el X tgt ls st M Q) (kf : ¬ x < 0 → EX el X (pc + 3) ls st M Q) : EX el X pc ls (.inl x :: st) M Q := by
  by_cases hg : x < 0
  · obtain ⟨v, N, h9, q9⟩ := kt hg
    exact ⟨v, N, fun J hJ => (hJ 32 : me_rule el X v N J 32) pc ls st M x off tgt d ht (fun _ => h9 J hJ) (fun z => absurd hg z), q9⟩
  · obtain ⟨v, N, h9, q9⟩ := kf hg
    exact ⟨v, N, fun J hJ => (hJ 32 : me_rule el X v N J 32) pc ls st M x off tgt d ht (fun z => absurd z hg) (fun _ => h9 J hJ), q9⟩
theorem ex_if_ge {pc : Nat} {ls : List (Option me_V)} {st : List me_V} {M : me_M} {x : Int32} {off : Int} {tgt : Nat} (d : decode (xC X) pc = .ok (.ifCond .ge off, 3)) (ht : (pc : Int) + off = (tgt : Int)) (kt : 0 ≤ x → EX el X tgt ls st M Q) (kf : ¬ 0 ≤ x → EX el X (pc + 3) ls st M Q) : EX el X pc ls (.inl x :: st) M Q := by
  by_cases hg : 0 ≤ x
  · obtain ⟨v, N, h9, q9⟩ := kt hg
    exact ⟨v, N, fun J hJ => (hJ 33 : me_rule el X v N J 33) pc ls st M x off tgt d ht (fun _ => h9 J hJ) (fun z => absurd hg z), q9⟩
  · obtain ⟨v, N, h9, q9⟩ := kf hg
    exact ⟨v, N, fun J hJ => (hJ 33 : me_rule el X v N J 33) pc ls st M x off tgt d ht (fun z => absurd z hg) (fun _ => h9 J hJ), q9⟩
theorem ex_if_gt {pc : Nat} {ls : List (Option me_V)} {st : List me_V} {M : me_M} {x : Int32} {off : Int} {tgt : Nat} (d : decode (xC X) pc = .ok (.ifCond .gt off, 3)) (ht : (pc : Int) + off = (tgt : Int)) (kt : 0 < x → EX el X tgt ls st M Q) (kf : ¬ 0 < x → EX el X (pc + 3) ls st M Q) : EX el X pc ls (.inl x :: st) M Q := by
  by_cases hg : 0 < x
  · obtain ⟨v, N, h9, q9⟩ := kt hg
    exact ⟨v, N, fun J hJ => (hJ 34 : me_rule el X v N J 34) pc ls st M x off tgt d ht (fun _ => h9 J hJ) (fun z => absurd hg z), q9⟩
  · obtain ⟨v, N, h9, q9⟩ := kf hg
    exact ⟨v, N, fun J hJ => (hJ 34 : me_rule el X v N J 34) pc ls st M x off tgt d ht (fun z => absurd z hg) (fun _ => h9 J hJ), q9⟩
theorem ex_if_le {pc : Nat} {ls : List (Option me_V)} {st : List me_V} {M : me_M} {x : Int32} {off : Int} {tgt : Nat} (d : decode (xC X) pc = .ok (.ifCond .le off, 3)) (ht : (pc : Int) + off = (tgt : Int)) (kt : x ≤ 0 → EX el X tgt ls st M Q) (kf : ¬ x ≤ 0 → EX el X (pc + 3) ls st M Q) : EX el X pc ls (.inl x :: st) M Q := by
  by_cases hg : x ≤ 0
  · obtain ⟨v, N, h9, q9⟩ := kt hg
    exact ⟨v, N, fun J hJ => (hJ 35 : me_rule el X v N J 35) pc ls st M x off tgt d ht (fun _ => h9 J hJ) (fun z => absurd hg z), q9⟩
  · obtain ⟨v, N, h9, q9⟩ := kf hg
    exact ⟨v, N, fun J hJ => (hJ 35 : me_rule el X v N J 35) pc ls st M x off tgt d ht (fun z => absurd z hg) (fun _ => h9 J hJ), q9⟩
theorem ex_icmp_eq {pc : Nat} {ls : List (Option me_V)} {st : List me_V} {M : me_M} {x y : Int32} {off : Int} {tgt : Nat} (d : decode (xC X) pc = .ok (.if_icmp .eq off, 3)) (ht : (pc : Int) + off = (tgt : Int)) (kt : x = y → EX el X tgt ls st M Q) (kf : ¬ x = y → EX el X (pc + 3) ls st M Q) : EX el X pc ls (.inl y :: .inl x :: st) M Q := by
  by_cases hg : x = y
  · obtain ⟨v, N, h9, q9⟩ := kt hg
    exact ⟨v, N, fun J hJ => (hJ 36 : me_rule el X v N J 36) pc ls st M x y off tgt d ht (fun _ => h9 J hJ) (fun z => absurd hg z), q9⟩
  · obtain ⟨v, N, h9, q9⟩ := kf hg
    exact ⟨v, N, fun J hJ => (hJ 36 : me_rule el X v N J 36) pc ls st M x y off tgt d ht (fun z => absurd z hg) (fun _ => h9 J hJ), q9⟩
theorem ex_icmp_ne {pc : Nat} {ls : List (Option me_V)} {st : List me_V} {M : me_M} {x y : Int32} {off : Int} {tgt : Nat} (d : decode (xC X) pc = .ok (.if_icmp .ne off, 3)) (ht : (pc : Int) + off = (tgt : Int)) (kt : ¬ x = y → EX el X tgt ls st M Q) (kf : x = y → EX el X (pc + 3) ls st M Q) : EX el X pc ls (.inl y :: .inl x :: st) M Q := by
  by_cases hg : x = y
  · obtain ⟨v, N, h9, q9⟩ := kf hg
    exact ⟨v, N, fun J hJ => (hJ 37 : me_rule el X v N J 37) pc ls st M x y off tgt d ht (fun z => absurd hg z) (fun _ => h9 J hJ), q9⟩
  · obtain ⟨v, N, h9, q9⟩ := kt hg
    exact ⟨v, N, fun J hJ => (hJ 37 : me_rule el X v N J 37) pc ls st M x y off tgt d ht (fun _ => h9 J hJ) (fun z => absurd z hg), q9⟩
theorem ex_icmp_lt {pc : Nat} {ls : List (Option me_V)} {st : List me_V} {M : me_M} {x y : Int32} {off : Int} {tgt : Nat} (d : decode (xC X) pc = .ok (.if_icmp .lt off, 3)) (ht : (pc : Int) + off = (tgt : Int)) (kt : x < y → EX el X tgt ls st M Q) (kf : ¬ x < y → EX el X (pc + 3) ls st M Q) : EX el X pc ls (.inl y :: .inl x :: st) M Q := by
  by_cases hg : x < y
  · obtain ⟨v, N, h9, q9⟩ := kt hg
    exact ⟨v, N, fun J hJ => (hJ 38 : me_rule el X v N J 38) pc ls st M x y off tgt d ht (fun _ => h9 J hJ) (fun z => absurd hg z), q9⟩
  · obtain ⟨v, N, h9, q9⟩ := kf hg
    exact ⟨v, N, fun J hJ => (hJ 38 : me_rule el X v N J 38) pc ls st M x y off tgt d ht (fun z => absurd z hg) (fun _ => h9 J hJ), q9⟩
theorem ex_icmp_ge {pc : Nat} {ls : List (Option me_V)} {st : List me_V} {M : me_M} {x y : Int32} {off : Int} {tgt : Nat} (d : decode (xC X) pc = .ok (.if_icmp .ge off, 3)) (ht : (pc : Int) + off = (tgt : Int)) (kt : y ≤ x → EX el X tgt ls st M Q) (kf : ¬ y ≤ x → EX el X (pc + 3) ls st M Q) : EX el X pc ls (.inl y :: .inl x :: st) M Q := by
  by_cases hg : y ≤ x
  · obtain ⟨v, N, h9, q9⟩ := kt hg
    exact ⟨v, N, fun J hJ => (hJ 39 : me_rule el X v N J 39) pc ls st M x y off tgt d ht (fun _ => h9 J hJ) (fun z => absurd hg z), q9⟩
  · obtain ⟨v, N, h9, q9⟩ := kf hg
    exact ⟨v, N, fun J hJ => (hJ 39 : me_rule el X v N J 39) pc ls st M x y off tgt d ht (fun z => absurd z hg) (fun _ => h9 J hJ), q9⟩
theorem ex_icmp_gt {pc : Nat} {ls : List (Option me_V)} {st : List me_V} {M : me_M} {x y : Int32} {off : Int} {tgt : Nat} (d : decode (xC X) pc = .ok (.if_icmp .gt off, 3)) (ht : (pc : Int) + off = (tgt : Int)) (kt : y < x → EX el X tgt ls st M Q) (kf : ¬ y < x → EX el X (pc + 3) ls st M Q) : EX el X pc ls (.inl y :: .inl x :: st) M Q := by
  by_cases hg : y < x
  · obtain ⟨v, N, h9, q9⟩ := kt hg
    exact ⟨v, N, fun J hJ => (hJ 40 : me_rule el X v N J 40) pc ls st M x y off tgt d ht (fun _ => h9 J hJ) (fun z => absurd hg z), q9⟩
  · obtain ⟨v, N, h9, q9⟩ := kf hg
    exact ⟨v, N, fun J hJ => (hJ 40 : me_rule el X v N J 40) pc ls st M x y off tgt d ht (fun z => absurd z hg) (fun _ => h9 J hJ), q9⟩
theorem ex_icmp_le {pc : Nat} {ls : List (Option me_V)} {st : List me_V} {M : me_M} {x y : Int32} {off : Int} {tgt : Nat} (d : decode (xC X) pc = .ok (.if_icmp .le off, 3)) (ht : (pc : Int) + off = (tgt : Int)) (kt : x ≤ y → EX el X tgt ls st M Q) (kf : ¬ x ≤ y → EX el X (pc + 3) ls st M Q) : EX el X pc ls (.inl y :: .inl x :: st) M Q := by
  by_cases hg : x ≤ y
  · obtain ⟨v, N, h9, q9⟩ := kt hg
    exact ⟨v, N, fun J hJ => (hJ 41 : me_rule el X v N J 41) pc ls st M x y off tgt d ht (fun _ => h9 J hJ) (fun z => absurd hg z), q9⟩
  · obtain ⟨v, N, h9, q9⟩ := kf hg
    exact ⟨v, N, fun J hJ => (hJ 41 : me_rule el X v N J 41) pc ls st M x y off tgt d ht (fun z => absurd z hg) (fun _ => h9 J hJ), q9⟩
theorem ex_acmp_eq {pc : Nat} {ls : List (Option me_V)} {st : List me_V} {M : me_M} {x y : Option Nat} {off : Int} {tgt : Nat} (d : decode (xC X) pc = .ok (.if_acmp .eq off, 3)) (ht : (pc : Int) + off = (tgt : Int)) (kt : x = y → EX el X tgt ls st M Q) (kf : ¬ x = y → EX el X (pc + 3) ls st M Q) : EX el X pc ls (.inr y :: .inr x :: st) M Q := by
  by_cases hg : x = y
  · obtain ⟨v, N, h9, q9⟩ := kt hg
    exact ⟨v, N, fun J hJ => (hJ 42 : me_rule el X v N J 42) pc ls st M x y off tgt d ht (fun _ => h9 J hJ) (fun z => absurd hg z), q9⟩
  · obtain ⟨v, N, h9, q9⟩ := kf hg
    exact ⟨v, N, fun J hJ => (hJ 42 : me_rule el X v N J 42) pc ls st M x y off tgt d ht (fun z => absurd z hg) (fun _ => h9 J hJ), q9⟩
theorem ex_acmp_ne {pc : Nat} {ls : List (Option me_V)} {st : List me_V} {M : me_M} {x y : Option Nat} {off : Int} {tgt : Nat} (d : decode (xC X) pc = .ok (.if_acmp .ne off, 3)) (ht : (pc : Int) + off = (tgt : Int)) (kt : ¬ x = y → EX el X tgt ls st M Q) (kf : x = y → EX el X (pc + 3) ls st M Q) : EX el X pc ls (.inr y :: .inr x :: st) M Q := by
  by_cases hg : x = y
  · obtain ⟨v, N, h9, q9⟩ := kf hg
    exact ⟨v, N, fun J hJ => (hJ 43 : me_rule el X v N J 43) pc ls st M x y off tgt d ht (fun z => absurd hg z) (fun _ => h9 J hJ), q9⟩
  · obtain ⟨v, N, h9, q9⟩ := kt hg
    exact ⟨v, N, fun J hJ => (hJ 43 : me_rule el X v N J 43) pc ls st M x y off tgt d ht (fun _ => h9 J hJ) (fun z => absurd z hg), q9⟩
theorem ex_ifnull {pc : Nat} {ls : List (Option me_V)} {st : List me_V} {M : me_M} {x : Option Nat} {off : Int} {tgt : Nat} (d : decode (xC X) pc = .ok (.ifnull off, 3)) (ht : (pc : Int) + off = (tgt : Int)) (kt : x = none → EX el X tgt ls st M Q) (kf : ¬ x = none → EX el X (pc + 3) ls st M Q) : EX el X pc ls (.inr x :: st) M Q := by
  by_cases hg : x = none
  · obtain ⟨v, N, h9, q9⟩ := kt hg
    exact ⟨v, N, fun J hJ => (hJ 44 : me_rule el X v N J 44) pc ls st M x off tgt d ht (fun _ => h9 J hJ) (fun z => absurd hg z), q9⟩
  · obtain ⟨v, N, h9, q9⟩ := kf hg
    exact ⟨v, N, fun J hJ => (hJ 44 : me_rule el X v N J 44) pc ls st M x off tgt d ht (fun z => absurd z hg) (fun _ => h9 J hJ), q9⟩
theorem ex_ifnonnull {pc : Nat} {ls : List (Option me_V)} {st : List me_V} {M : me_M} {x : Option Nat} {off : Int} {tgt : Nat} (d : decode (xC X) pc = .ok (.ifnonnull off, 3)) (ht : (pc : Int) + off = (tgt : Int)) (kt : ¬ x = none → EX el X tgt ls st M Q) (kf : x = none → EX el X (pc + 3) ls st M Q) : EX el X pc ls (.inr x :: st) M Q := by
  by_cases hg : x = none
  · obtain ⟨v, N, h9, q9⟩ := kf hg
    exact ⟨v, N, fun J hJ => (hJ 45 : me_rule el X v N J 45) pc ls st M x off tgt d ht (fun z => absurd hg z) (fun _ => h9 J hJ), q9⟩
  · obtain ⟨v, N, h9, q9⟩ := kt hg
    exact ⟨v, N, fun J hJ => (hJ 45 : me_rule el X v N J 45) pc ls st M x off tgt d ht (fun _ => h9 J hJ) (fun z => absurd z hg), q9⟩
theorem ex_goto {pc : Nat} {ls : List (Option me_V)} {st : List me_V} {M : me_M} {off : Int} {tgt : Nat} (d : decode (xC X) pc = .ok (.goto off, 3)) (ht : (pc : Int) + off = (tgt : Int)) (kk : EX el X tgt ls st M Q) : EX el X pc ls st M Q := by
  obtain ⟨v, N, h9, q9⟩ := kk
  exact ⟨v, N, fun J hJ => (hJ 46 : me_rule el X v N J 46) pc ls st M off tgt d ht (h9 J hJ), q9⟩
theorem ex_tabIn {pc : Nat} {ls : List (Option me_V)} {st : List me_V} {M : me_M} {x : Int32} {dflt lo hi : Int} {offs : Array Int} {len : Nat} {off : Int} {tgt : Nat} (d : decode (xC X) pc = .ok (.tableswitch dflt lo hi offs, len)) (h1 : ¬ x.toInt < lo) (h2 : ¬ hi < x.toInt) (ho : offs[(x.toInt - lo).toNat]? = some off) (ht : (pc : Int) + off = (tgt : Int)) (kk : EX el X tgt ls st M Q) : EX el X pc ls (.inl x :: st) M Q := by
  obtain ⟨v, N, h9, q9⟩ := kk
  exact ⟨v, N, fun J hJ => (hJ 47 : me_rule el X v N J 47) pc ls st M x dflt lo hi offs len off tgt d h1 h2 ho ht (h9 J hJ), q9⟩
theorem ex_tabOut {pc : Nat} {ls : List (Option me_V)} {st : List me_V} {M : me_M} {x : Int32} {dflt lo hi : Int} {offs : Array Int} {len : Nat} {tgt : Nat} (d : decode (xC X) pc = .ok (.tableswitch dflt lo hi offs, len)) (h : x.toInt < lo ∨ hi < x.toInt) (ht : (pc : Int) + dflt = (tgt : Int)) (kk : EX el X tgt ls st M Q) : EX el X pc ls (.inl x :: st) M Q := by
  obtain ⟨v, N, h9, q9⟩ := kk
  exact ⟨v, N, fun J hJ => (hJ 48 : me_rule el X v N J 48) pc ls st M x dflt lo hi offs len tgt d h ht (h9 J hJ), q9⟩
theorem ex_lookup {pc : Nat} {ls : List (Option me_V)} {st : List me_V} {M : me_M} {x : Int32} {dflt : Int} {ps : Array (Int × Int)} {len : Nat} {off : Int} {tgt : Nat} (d : decode (xC X) pc = .ok (.lookupswitch dflt ps, len)) (hp : (ps.toList.zip (ps.toList.drop 1)).all (fun (a, next) => a.1 < next.1) = true) (ho : Op.lookupswitch.offset ps.toList dflt x.toInt = off) (ht : (pc : Int) + off = (tgt : Int)) (kk : EX el X tgt ls st M Q) : EX el X pc ls (.inl x :: st) M Q := by
  obtain ⟨v, N, h9, q9⟩ := kk
  exact ⟨v, N, fun J hJ => (hJ 49 : me_rule el X v N J 49) pc ls st M x dflt ps len off tgt d hp ho ht (h9 J hJ), q9⟩
theorem ex_getI {pc : Nat} {ls : List (Option me_V)} {st : List me_V} {M : me_M} {q idx ci k key ty : Nat} {x0 : Option Nat} (d : decode (xC X) pc = .ok (.getfield idx, 3)) (hr : x0 = some q) (hf : xF X idx = some (ci, k, key, ty)) (ht : ¬ ty = 2) (hk : mKd M q = ci + 1) (kk : EX el X (pc + 3) ls (.inl (mI M key q 0) :: st) M Q) : EX el X pc ls (.inr x0 :: st) M Q := by
  subst hr
  obtain ⟨v, N, h9, q9⟩ := kk
  exact ⟨v, N, fun J hJ => (hJ 50 : me_rule el X v N J 50) pc ls st M q idx ci k key ty d hf ht hk (h9 J hJ), q9⟩
theorem ex_getR {pc : Nat} {ls : List (Option me_V)} {st : List me_V} {M : me_M} {q idx ci k key : Nat} {x0 : Option Nat} (d : decode (xC X) pc = .ok (.getfield idx, 3)) (hr : x0 = some q) (hf : xF X idx = some (ci, k, key, 2)) (hk : mKd M q = ci + 1) (kk : EX el X (pc + 3) ls (.inr (mR M key q 0) :: st) M Q) : EX el X pc ls (.inr x0 :: st) M Q := by
  subst hr
  obtain ⟨v, N, h9, q9⟩ := kk
  exact ⟨v, N, fun J hJ => (hJ 51 : me_rule el X v N J 51) pc ls st M q idx ci k key d hf hk (h9 J hJ), q9⟩
theorem ex_putI {pc : Nat} {ls : List (Option me_V)} {st : List me_V} {M : me_M} {q idx ci k key : Nat} {x : Int32} {x0 : Option Nat} (d : decode (xC X) pc = .ok (.putfield idx, 3)) (hr : x0 = some q) (hf : xG X idx = some (ci, k, key, 0)) (hk : mKd M q = ci + 1) (kk : EX el X (pc + 3) ls st (mSetI M key q 0 x) Q) : EX el X pc ls (.inl x :: .inr x0 :: st) M Q := by
  subst hr
  obtain ⟨v, N, h9, q9⟩ := kk
  exact ⟨v, N, fun J hJ => (hJ 52 : me_rule el X v N J 52) pc ls st M q idx ci k key x d hf hk (h9 J hJ), q9⟩
theorem ex_putZ {pc : Nat} {ls : List (Option me_V)} {st : List me_V} {M : me_M} {q idx ci k key : Nat} {x : Int32} {x0 : Option Nat} (d : decode (xC X) pc = .ok (.putfield idx, 3)) (hr : x0 = some q) (hf : xG X idx = some (ci, k, key, 1)) (hk : mKd M q = ci + 1) (hz : x = 0 ∨ x = 1) (kk : EX el X (pc + 3) ls st (mSetI M key q 0 x) Q) : EX el X pc ls (.inl x :: .inr x0 :: st) M Q := by
  subst hr
  obtain ⟨v, N, h9, q9⟩ := kk
  exact ⟨v, N, fun J hJ => (hJ 53 : me_rule el X v N J 53) pc ls st M q idx ci k key x d hf hk hz (h9 J hJ), q9⟩
theorem ex_putR {pc : Nat} {ls : List (Option me_V)} {st : List me_V} {M : me_M} {q idx ci k key : Nat} {x : Option Nat} {x0 : Option Nat} (d : decode (xC X) pc = .ok (.putfield idx, 3)) (hr : x0 = some q) (hf : xG X idx = some (ci, k, key, 2)) (hk : mKd M q = ci + 1) (kk : EX el X (pc + 3) ls st (mSetR M key q 0 x) Q) : EX el X pc ls (.inr x :: .inr x0 :: st) M Q := by
  subst hr
  obtain ⟨v, N, h9, q9⟩ := kk
  exact ⟨v, N, fun J hJ => (hJ 54 : me_rule el X v N J 54) pc ls st M q idx ci k key x d hf hk (h9 J hJ), q9⟩
theorem ex_new {pc : Nat} {ls : List (Option me_V)} {st : List me_V} {M : me_M} {idx ci n : Nat} (d : decode (xC X) pc = .ok (.new idx, 3)) (hf : xN X idx = some (ci, n)) (kk : mKd (mNew M (ci + 1) 0 n) (mSz M) = ci + 1 → EX el X (pc + 3) ls (.inr (some (mSz M)) :: st) (mNew M (ci + 1) 0 n) Q) : EX el X pc ls st M Q := by
  obtain ⟨v, N, h9, q9⟩ := kk (if_pos rfl)
  exact ⟨v, N, fun J hJ => (hJ 55 : me_rule el X v N J 55) pc ls st M idx ci n d hf (h9 J hJ), q9⟩
theorem ex_newI {pc : Nat} {ls : List (Option me_V)} {st : List me_V} {M : me_M} {n : Int32} (d : decode (xC X) pc = .ok (.newarray .int, 2)) (hf : xA X 70000 = some 100) (hn : ¬ n < 0) (hb : n.toNatClampNeg ≤ 100000) (kk : mKd (mNew M 100 n.toNatClampNeg n.toNatClampNeg) (mSz M) = 100 → EX el X (pc + 2) ls (.inr (some (mSz M)) :: st) (mNew M 100 n.toNatClampNeg n.toNatClampNeg) Q) : EX el X pc ls (.inl n :: st) M Q := by
  obtain ⟨v, N, h9, q9⟩ := kk (if_pos rfl)
  exact ⟨v, N, fun J hJ => (hJ 56 : me_rule el X v N J 56) pc ls st M n d hf hn hb (h9 J hJ), q9⟩
theorem ex_newZ {pc : Nat} {ls : List (Option me_V)} {st : List me_V} {M : me_M} {n : Int32} (d : decode (xC X) pc = .ok (.newarray .boolean, 2)) (hf : xA X 70001 = some 101) (hn : ¬ n < 0) (hb : n.toNatClampNeg ≤ 100000) (kk : mKd (mNew M 101 n.toNatClampNeg n.toNatClampNeg) (mSz M) = 101 → EX el X (pc + 2) ls (.inr (some (mSz M)) :: st) (mNew M 101 n.toNatClampNeg n.toNatClampNeg) Q) : EX el X pc ls (.inl n :: st) M Q := by
  obtain ⟨v, N, h9, q9⟩ := kk (if_pos rfl)
  exact ⟨v, N, fun J hJ => (hJ 57 : me_rule el X v N J 57) pc ls st M n d hf hn hb (h9 J hJ), q9⟩
theorem ex_newR {pc : Nat} {ls : List (Option me_V)} {st : List me_V} {M : me_M} {n : Int32} {idx a : Nat} (d : decode (xC X) pc = .ok (.anewarray idx, 3)) (hf : xA X idx = some a) (hi : idx < 70000) (hn : ¬ n < 0) (hb : n.toNatClampNeg ≤ 100000) (kk : mKd (mNew M a n.toNatClampNeg n.toNatClampNeg) (mSz M) = a → EX el X (pc + 3) ls (.inr (some (mSz M)) :: st) (mNew M a n.toNatClampNeg n.toNatClampNeg) Q) : EX el X pc ls (.inl n :: st) M Q := by
  obtain ⟨v, N, h9, q9⟩ := kk (if_pos rfl)
  exact ⟨v, N, fun J hJ => (hJ 58 : me_rule el X v N J 58) pc ls st M n idx a d hf hi hn hb (h9 J hJ), q9⟩
theorem ex_alen {pc : Nat} {ls : List (Option me_V)} {st : List me_V} {M : me_M} {q : Nat} {x0 : Option Nat} (d : decode (xC X) pc = .ok (.arraylength, 1)) (hr : x0 = some q) (hk : 100 ≤ mKd M q) (kk : EX el X (pc + 1) ls (.inl (Int32.ofNat (mLn M q)) :: st) M Q) : EX el X pc ls (.inr x0 :: st) M Q := by
  subst hr
  obtain ⟨v, N, h9, q9⟩ := kk
  exact ⟨v, N, fun J hJ => (hJ 59 : me_rule el X v N J 59) pc ls st M q d hk (h9 J hJ), q9⟩
theorem ex_iald {pc : Nat} {ls : List (Option me_V)} {st : List me_V} {M : me_M} {q : Nat} {i : Int32} {x0 : Option Nat} (d : decode (xC X) pc = .ok (.iaload, 1)) (hr : x0 = some q) (hk : mKd M q = 100) (hi : vp_in i (mLn M q)) (kk : EX el X (pc + 1) ls (.inl (mI M 100 q i.toNatClampNeg) :: st) M Q) : EX el X pc ls (.inl i :: .inr x0 :: st) M Q := by
  subst hr
  obtain ⟨v, N, h9, q9⟩ := kk
  exact ⟨v, N, fun J hJ => (hJ 60 : me_rule el X v N J 60) pc ls st M q i d hk hi (h9 J hJ), q9⟩
theorem ex_iast {pc : Nat} {ls : List (Option me_V)} {st : List me_V} {M : me_M} {q : Nat} {i x : Int32} {x0 : Option Nat} (d : decode (xC X) pc = .ok (.iastore, 1)) (hr : x0 = some q) (hk : mKd M q = 100) (hi : vp_in i (mLn M q)) (kk : EX el X (pc + 1) ls st (mSetI M 100 q i.toNatClampNeg x) Q) : EX el X pc ls (.inl x :: .inl i :: .inr x0 :: st) M Q := by
  subst hr
  obtain ⟨v, N, h9, q9⟩ := kk
  exact ⟨v, N, fun J hJ => (hJ 61 : me_rule el X v N J 61) pc ls st M q i x d hk hi (h9 J hJ), q9⟩
theorem ex_zald {pc : Nat} {ls : List (Option me_V)} {st : List me_V} {M : me_M} {q : Nat} {i : Int32} {x0 : Option Nat} (d : decode (xC X) pc = .ok (.baload, 1)) (hr : x0 = some q) (hk : mKd M q = 101) (hi : vp_in i (mLn M q)) (kk : EX el X (pc + 1) ls (.inl (mI M 101 q i.toNatClampNeg) :: st) M Q) : EX el X pc ls (.inl i :: .inr x0 :: st) M Q := by
  subst hr
  obtain ⟨v, N, h9, q9⟩ := kk
  exact ⟨v, N, fun J hJ => (hJ 62 : me_rule el X v N J 62) pc ls st M q i d hk hi (h9 J hJ), q9⟩
theorem ex_zast {pc : Nat} {ls : List (Option me_V)} {st : List me_V} {M : me_M} {q : Nat} {i x : Int32} {x0 : Option Nat} (d : decode (xC X) pc = .ok (.bastore, 1)) (hr : x0 = some q) (hk : mKd M q = 101) (hi : vp_in i (mLn M q)) (hz : x = 0 ∨ x = 1) (kk : EX el X (pc + 1) ls st (mSetI M 101 q i.toNatClampNeg x) Q) : EX el X pc ls (.inl x :: .inl i :: .inr x0 :: st) M Q := by
  subst hr
  obtain ⟨v, N, h9, q9⟩ := kk
  exact ⟨v, N, fun J hJ => (hJ 63 : me_rule el X v N J 63) pc ls st M q i x d hk hi hz (h9 J hJ), q9⟩
theorem ex_aald {pc : Nat} {ls : List (Option me_V)} {st : List me_V} {M : me_M} {q a : Nat} {i : Int32} {x0 : Option Nat} (d : decode (xC X) pc = .ok (.aaload, 1)) (hr : x0 = some q) (hk : mKd M q = a) (ha : 102 ≤ a) (hi : vp_in i (mLn M q)) (kk : EX el X (pc + 1) ls (.inr (mR M a q i.toNatClampNeg) :: st) M Q) : EX el X pc ls (.inl i :: .inr x0 :: st) M Q := by
  subst hr
  obtain ⟨v, N, h9, q9⟩ := kk
  exact ⟨v, N, fun J hJ => (hJ 64 : me_rule el X v N J 64) pc ls st M q a i d hk ha hi (h9 J hJ), q9⟩
theorem ex_aast {pc : Nat} {ls : List (Option me_V)} {st : List me_V} {M : me_M} {q a w : Nat} {i : Int32} {x0 : Option Nat} {x1 : Option Nat} (d : decode (xC X) pc = .ok (.aastore, 1)) (hr : x0 = some q) (hk : mKd M q = a) (ha : 102 ≤ a) (hi : vp_in i (mLn M q)) (hr1 : x1 = some w) (hw : mKd M w = el a) (kk : EX el X (pc + 1) ls st (mSetR M a q i.toNatClampNeg (some w)) Q) : EX el X pc ls (.inr x1 :: .inl i :: .inr x0 :: st) M Q := by
  subst hr
  subst hr1
  obtain ⟨v, N, h9, q9⟩ := kk
  exact ⟨v, N, fun J hJ => (hJ 65 : me_rule el X v N J 65) pc ls st M q a w i d hk ha hi hw (h9 J hJ), q9⟩
theorem ex_aastN {pc : Nat} {ls : List (Option me_V)} {st : List me_V} {M : me_M} {q a : Nat} {i : Int32} {x0 : Option Nat} (d : decode (xC X) pc = .ok (.aastore, 1)) (hr : x0 = some q) (hk : mKd M q = a) (ha : 102 ≤ a) (hi : vp_in i (mLn M q)) (kk : EX el X (pc + 1) ls st (mSetR M a q i.toNatClampNeg none) Q) : EX el X pc ls (.inr none :: .inl i :: .inr x0 :: st) M Q := by
  subst hr
  obtain ⟨v, N, h9, q9⟩ := kk
  exact ⟨v, N, fun J hJ => (hJ 66 : me_rule el X v N J 66) pc ls st M q a i d hk ha hi (h9 J hJ), q9⟩
theorem ex_call {pc : Nat} {ls : List (Option me_V)} {st : List me_V} {M : me_M} {as : List me_V} {r : Option me_V} {M1 : me_M} (h : xCall X pc as M r M1) (hl : st.length ≤ 8) (kk : EX el X (pc + 3) ls (r.toList ++ st) M1 Q) : EX el X pc ls (as.reverse ++ st) M Q := by
  obtain ⟨v, N, h9, q9⟩ := kk
  exact ⟨v, N, fun J hJ => (hJ 67 : me_rule el X v N J 67) pc ls st M as r M1 h hl (h9 J hJ), q9⟩
theorem ex_obj {pc : Nat} {ls : List (Option me_V)} {st : List me_V} {M : me_M} {q : Nat} {x0 : Option Nat} (d : decode (xC X) pc = .ok (.invokespecial (xO X), 3)) (hr : x0 = some q) (ho : ¬ xO X = 0) (hl : st.length ≤ 8) (kk : EX el X (pc + 3) ls st M Q) : EX el X pc ls (.inr x0 :: st) M Q := by
  subst hr
  obtain ⟨v, N, h9, q9⟩ := kk
  exact ⟨v, N, fun J hJ => (hJ 68 : me_rule el X v N J 68) pc ls st M q d ho hl (h9 J hJ), q9⟩
theorem ex_drop {pc : Nat} {ls : List (Option me_V)} {st : List me_V} {M : me_M} {k : Nat} {ls2 : List (Option me_V)} (hs : ls.set k none = ls2) (kk : EX el X pc ls2 st M Q) : EX el X pc ls st M Q := by
  obtain ⟨v, N, h9, q9⟩ := kk
  exact ⟨v, N, fun J hJ => (hJ 69 : me_rule el X v N J 69) pc ls st M k ls2 hs (h9 J hJ), q9⟩
theorem ex_sald {pc : Nat} {ls : List (Option me_V)} {st : List me_V} {M : me_M} {b L : Nat} {xs : Nat → Int32} {i : Int32} {x0 : Option Nat} (d : decode (xC X) pc = .ok (.iaload, 1)) (hr : x0 = some b) (hs : xS X = some (b, L, xs)) (hi : vp_in i L) (kk : EX el X (pc + 1) ls (.inl (xs i.toNatClampNeg) :: st) M Q) : EX el X pc ls (.inl i :: .inr x0 :: st) M Q := by
  subst hr
  obtain ⟨v, N, h9, q9⟩ := kk
  exact ⟨v, N, fun J hJ => (hJ 70 : me_rule el X v N J 70) pc ls st M b L xs i d hs hi (h9 J hJ), q9⟩
theorem ex_slen {pc : Nat} {ls : List (Option me_V)} {st : List me_V} {M : me_M} {b L : Nat} {xs : Nat → Int32} {x0 : Option Nat} (d : decode (xC X) pc = .ok (.arraylength, 1)) (hr : x0 = some b) (hs : xS X = some (b, L, xs)) (kk : EX el X (pc + 1) ls (.inl (Int32.ofNat L) :: st) M Q) : EX el X pc ls (.inr x0 :: st) M Q := by
  subst hr
  obtain ⟨v, N, h9, q9⟩ := kk
  exact ⟨v, N, fun J hJ => (hJ 71 : me_rule el X v N J 71) pc ls st M b L xs d hs (h9 J hJ), q9⟩
theorem ex_ret_i {pc : Nat} {ls : List (Option me_V)} {x : Int32} {M : me_M} (d : decode (xC X) pc = .ok (.ireturn, 1)) (hr : xR X = 1) (hq : Q (some (.inl x)) M) : EX el X pc ls [.inl x] M Q :=
  ⟨some (.inl x), M, fun J hJ => (hJ 72 : me_rule el X (some (.inl x)) M J 72) pc ls x d hr rfl, hq⟩
theorem ex_ret_z {pc : Nat} {ls : List (Option me_V)} {x : Int32} {M : me_M} (d : decode (xC X) pc = .ok (.ireturn, 1)) (hr : xR X = 2) (hz : x = 0 ∨ x = 1) (hq : Q (some (.inl x)) M) : EX el X pc ls [.inl x] M Q :=
  ⟨some (.inl x), M, fun J hJ => (hJ 73 : me_rule el X (some (.inl x)) M J 73) pc ls x d hr hz rfl, hq⟩
theorem ex_ret_a {pc : Nat} {ls : List (Option me_V)} {x : Option Nat} {M : me_M} (d : decode (xC X) pc = .ok (.areturn, 1)) (hr : xR X = 3) (hq : Q (some (.inr x)) M) : EX el X pc ls [.inr x] M Q :=
  ⟨some (.inr x), M, fun J hJ => (hJ 74 : me_rule el X (some (.inr x)) M J 74) pc ls x d hr rfl, hq⟩
theorem ex_ret_v {pc : Nat} {ls : List (Option me_V)} {M : me_M} (d : decode (xC X) pc = .ok (.return_, 1)) (hr : xR X = 0) (hq : Q (none) M) : EX el X pc ls [] M Q :=
  ⟨none, M, fun J hJ => (hJ 75 : me_rule el X (none) M J 75) pc ls d hr rfl, hq⟩
theorem ex_tab {pc : Nat} {ls : List (Option me_V)} {st : List me_V} {M : me_M} {x : Int32} {dflt lo hi : Int} {offs : Array Int} {len : Nat} (_d : decode (xC X) pc = .ok (.tableswitch dflt lo hi offs, len)) (k1 : x.toInt < lo ∨ hi < x.toInt → EX el X pc ls (.inl x :: st) M Q) (k2 : ¬ x.toInt < lo → ¬ hi < x.toInt → EX el X pc ls (.inl x :: st) M Q) : EX el X pc ls (.inl x :: st) M Q := by
  by_cases h : x.toInt < lo ∨ hi < x.toInt
  · exact k1 h
  · exact k2 (fun z => h (Or.inl z)) (fun z => h (Or.inr z))
theorem ex_tabAt {pc : Nat} {ls : List (Option me_V)} {st : List me_V} {M : me_M} {x c : Int32} {dflt lo hi : Int} {offs : Array Int} {len : Nat} {off : Int} {tgt : Nat} (d : decode (xC X) pc = .ok (.tableswitch dflt lo hi offs, len)) (hx : x = c) (h1 : ¬ c.toInt < lo) (h2 : ¬ hi < c.toInt) (ho : offs[(c.toInt - lo).toNat]? = some off) (ht : (pc : Int) + off = (tgt : Int)) (kk : EX el X tgt ls st M Q) : EX el X pc ls (.inl x :: st) M Q := by
  subst hx
  exact ex_tabIn d h1 h2 ho ht kk
theorem me_cases7 {x : Int32} (h1 : ¬ x.toInt < 0) (h2 : ¬ 6 < x.toInt) : x = 0 ∨ x = 1 ∨ x = 2 ∨ x = 3 ∨ x = 4 ∨ x = 5 ∨ x = 6 := by
  have h : x.toInt = 0 ∨ x.toInt = 1 ∨ x.toInt = 2 ∨ x.toInt = 3 ∨ x.toInt = 4 ∨ x.toInt = 5 ∨ x.toInt = 6 := by omega
  rcases h with h | h | h | h | h | h | h
  · exact Or.inl (Int32.toInt_inj.mp (h.trans (by decide)))
  · exact Or.inr (Or.inl (Int32.toInt_inj.mp (h.trans (by decide))))
  · exact Or.inr (Or.inr (Or.inl (Int32.toInt_inj.mp (h.trans (by decide)))))
  · exact Or.inr (Or.inr (Or.inr (Or.inl (Int32.toInt_inj.mp (h.trans (by decide))))))
  · exact Or.inr (Or.inr (Or.inr (Or.inr (Or.inl (Int32.toInt_inj.mp (h.trans (by decide)))))))
  · exact Or.inr (Or.inr (Or.inr (Or.inr (Or.inr (Or.inl (Int32.toInt_inj.mp (h.trans (by decide))))))))
  · exact Or.inr (Or.inr (Or.inr (Or.inr (Or.inr (Or.inr (Int32.toInt_inj.mp (h.trans (by decide))))))))
theorem me_cases17 {x : Int32} (h1 : ¬ x.toInt < 0) (h2 : ¬ 16 < x.toInt) : x = 0 ∨ x = 1 ∨ x = 2 ∨ x = 3 ∨ x = 4 ∨ x = 5 ∨ x = 6 ∨ x = 7 ∨ x = 8 ∨ x = 9 ∨ x = 10 ∨ x = 11 ∨ x = 12 ∨ x = 13 ∨ x = 14 ∨ x = 15 ∨ x = 16 := by
  have h : x.toInt = 0 ∨ x.toInt = 1 ∨ x.toInt = 2 ∨ x.toInt = 3 ∨ x.toInt = 4 ∨ x.toInt = 5 ∨ x.toInt = 6 ∨ x.toInt = 7 ∨ x.toInt = 8 ∨ x.toInt = 9 ∨ x.toInt = 10 ∨ x.toInt = 11 ∨ x.toInt = 12 ∨ x.toInt = 13 ∨ x.toInt = 14 ∨ x.toInt = 15 ∨ x.toInt = 16 := by omega
  rcases h with h | h | h | h | h | h | h | h | h | h | h | h | h | h | h | h | h
  · exact Or.inl (Int32.toInt_inj.mp (h.trans (by decide)))
  · exact Or.inr (Or.inl (Int32.toInt_inj.mp (h.trans (by decide))))
  · exact Or.inr (Or.inr (Or.inl (Int32.toInt_inj.mp (h.trans (by decide)))))
  · exact Or.inr (Or.inr (Or.inr (Or.inl (Int32.toInt_inj.mp (h.trans (by decide))))))
  · exact Or.inr (Or.inr (Or.inr (Or.inr (Or.inl (Int32.toInt_inj.mp (h.trans (by decide)))))))
  · exact Or.inr (Or.inr (Or.inr (Or.inr (Or.inr (Or.inl (Int32.toInt_inj.mp (h.trans (by decide))))))))
  · exact Or.inr (Or.inr (Or.inr (Or.inr (Or.inr (Or.inr (Or.inl (Int32.toInt_inj.mp (h.trans (by decide)))))))))
  · exact Or.inr (Or.inr (Or.inr (Or.inr (Or.inr (Or.inr (Or.inr (Or.inl (Int32.toInt_inj.mp (h.trans (by decide))))))))))
  · exact Or.inr (Or.inr (Or.inr (Or.inr (Or.inr (Or.inr (Or.inr (Or.inr (Or.inl (Int32.toInt_inj.mp (h.trans (by decide)))))))))))
  · exact Or.inr (Or.inr (Or.inr (Or.inr (Or.inr (Or.inr (Or.inr (Or.inr (Or.inr (Or.inl (Int32.toInt_inj.mp (h.trans (by decide))))))))))))
  · exact Or.inr (Or.inr (Or.inr (Or.inr (Or.inr (Or.inr (Or.inr (Or.inr (Or.inr (Or.inr (Or.inl (Int32.toInt_inj.mp (h.trans (by decide)))))))))))))
  · exact Or.inr (Or.inr (Or.inr (Or.inr (Or.inr (Or.inr (Or.inr (Or.inr (Or.inr (Or.inr (Or.inr (Or.inl (Int32.toInt_inj.mp (h.trans (by decide))))))))))))))
  · exact Or.inr (Or.inr (Or.inr (Or.inr (Or.inr (Or.inr (Or.inr (Or.inr (Or.inr (Or.inr (Or.inr (Or.inr (Or.inl (Int32.toInt_inj.mp (h.trans (by decide)))))))))))))))
  · exact Or.inr (Or.inr (Or.inr (Or.inr (Or.inr (Or.inr (Or.inr (Or.inr (Or.inr (Or.inr (Or.inr (Or.inr (Or.inr (Or.inl (Int32.toInt_inj.mp (h.trans (by decide))))))))))))))))
  · exact Or.inr (Or.inr (Or.inr (Or.inr (Or.inr (Or.inr (Or.inr (Or.inr (Or.inr (Or.inr (Or.inr (Or.inr (Or.inr (Or.inr (Or.inl (Int32.toInt_inj.mp (h.trans (by decide)))))))))))))))))
  · exact Or.inr (Or.inr (Or.inr (Or.inr (Or.inr (Or.inr (Or.inr (Or.inr (Or.inr (Or.inr (Or.inr (Or.inr (Or.inr (Or.inr (Or.inr (Or.inl (Int32.toInt_inj.mp (h.trans (by decide))))))))))))))))))
  · exact Or.inr (Or.inr (Or.inr (Or.inr (Or.inr (Or.inr (Or.inr (Or.inr (Or.inr (Or.inr (Or.inr (Or.inr (Or.inr (Or.inr (Or.inr (Or.inr (Int32.toInt_inj.mp (h.trans (by decide))))))))))))))))))
theorem me_100 {a n : Nat} (h : n = a) (ha : 100 ≤ a) : 100 ≤ n := by omega
def me_cS (el : Nat → Nat) (Y : me_X) (nA mL : Nat) (as : List me_V) (M : me_M) (r : Option me_V) (M1 : me_M) : Prop := as.length = nA ∧ RUN el Y 0 (as.map some ++ List.replicate (mL - nA) none) [] M r M1
def me_cV (el : Nat → Nat) (Y : me_X) (nA mL ci : Nat) (as : List me_V) (M : me_M) (r : Option me_V) (M1 : me_M) : Prop := (∃ b t, as = .inr (some b) :: t ∧ mKd M b = ci + 1) ∧ as.length = nA ∧ RUN el Y 0 (as.map some ++ List.replicate (mL - nA) none) [] M r M1
def me_max (x y : Int32) : Int32 := if x < y then y else x
def me_cMax (as : List me_V) (M : me_M) (r : Option me_V) (M1 : me_M) : Prop := ∃ x y : Int32, as = [.inl x, .inl y] ∧ r = some (.inl (me_max x y)) ∧ M1 = M
theorem ex_cS0 {pc : Nat} {ls ls0 : List (Option me_V)} {st stk as : List me_V} {M : me_M} {Y : me_X} {nA mL : Nat} (hs : stk = as.reverse ++ st) (hc : xCall X pc = me_cS el Y nA mL) (hn : as.length = nA) (h0 : as.map some ++ List.replicate (mL - nA) none = ls0) (hl : st.length ≤ 8)
    (he : EX el Y 0 ls0 [] M (fun r M1 => EX el X (pc + 3) ls (r.toList ++ st) M1 Q)) : EX el X pc ls stk M Q := by
  subst hs h0
  obtain ⟨r, M1, h1, v, N, h2, h3⟩ := he
  exact ⟨v, N, fun J hJ => (hJ 67 : me_rule el X v N J 67) pc ls st M as r M1 (by rw [hc]; exact ⟨hn, h1⟩) hl (h2 J hJ), h3⟩
theorem ex_cV0 {pc : Nat} {ls ls0 : List (Option me_V)} {st stk as : List me_V} {M : me_M} {Y : me_X} {nA mL ci b : Nat} {x0 : Option Nat} (hr : x0 = some b) (hs : stk = (.inr x0 :: as).reverse ++ st) (hk : mKd M b = ci + 1) (hc : xCall X pc = me_cV el Y nA mL ci) (hn : as.length + 1 = nA) (h0 : (some (.inr (some b)) :: as.map some) ++ List.replicate (mL - nA) none = ls0) (hl : st.length ≤ 8)
    (he : EX el Y 0 ls0 [] M (fun r M1 => EX el X (pc + 3) ls (r.toList ++ st) M1 Q)) : EX el X pc ls stk M Q := by
  subst hr hs h0
  obtain ⟨r, M1, h1, v, N, h2, h3⟩ := he
  exact ⟨v, N, fun J hJ => (hJ 67 : me_rule el X v N J 67) pc ls st M (.inr (some b) :: as) r M1 (by rw [hc]; exact ⟨⟨b, as, rfl, hk⟩, hn, h1⟩) hl (h2 J hJ), h3⟩
theorem ex_max {pc : Nat} {ls : List (Option me_V)} {st : List me_V} {M : me_M} {x y : Int32} (hc : xCall X pc = me_cMax) (hl : st.length ≤ 8) (kk : EX el X (pc + 3) ls (.inl (me_max x y) :: st) M Q) : EX el X pc ls (.inl y :: .inl x :: st) M Q := by
  obtain ⟨v, N, h2, h3⟩ := kk
  exact ⟨v, N, fun J hJ => (hJ 67 : me_rule el X v N J 67) pc ls st M [.inl x, .inl y] (some (.inl (me_max x y))) M (by rw [hc]; exact ⟨x, y, rfl, rfl, rfl⟩) hl (h2 J hJ), h3⟩
theorem ex_cSV {pc : Nat} {ls ls0 : List (Option me_V)} {st stk as : List me_V} {M : me_M} {Y : me_X} {nA mL : Nat} (hs : stk = as.reverse ++ st) (hc : xCall X pc = me_cS el Y nA mL) (hn : as.length = nA) (h0 : as.map some ++ List.replicate (mL - nA) none = ls0) (hl : st.length ≤ 8) (he : EX el Y 0 ls0 [] M (fun r M1 => r = none ∧ EX el X (pc + 3) ls st M1 Q)) : EX el X pc ls stk M Q := by
  refine ex_cS0 hs hc hn h0 hl (EX.mono he fun r M1 h => ?_)
  obtain ⟨rfl, h⟩ := h
  exact h
theorem ex_cVV {pc : Nat} {ls ls0 : List (Option me_V)} {st stk as : List me_V} {M : me_M} {Y : me_X} {nA mL ci b : Nat} {x0 : Option Nat} (hr : x0 = some b) (hs : stk = (.inr x0 :: as).reverse ++ st) (hk : mKd M b = ci + 1) (hc : xCall X pc = me_cV el Y nA mL ci) (hn : as.length + 1 = nA) (h0 : (some (.inr (some b)) :: as.map some) ++ List.replicate (mL - nA) none = ls0) (hl : st.length ≤ 8) (he : EX el Y 0 ls0 [] M (fun r M1 => r = none ∧ EX el X (pc + 3) ls st M1 Q)) : EX el X pc ls stk M Q := by
  refine ex_cV0 hr hs hk hc hn h0 hl (EX.mono he fun r M1 h => ?_)
  obtain ⟨rfl, h⟩ := h
  exact h
theorem ex_cSI {pc : Nat} {ls ls0 : List (Option me_V)} {st stk as : List me_V} {M : me_M} {Y : me_X} {nA mL : Nat} (hs : stk = as.reverse ++ st) (hc : xCall X pc = me_cS el Y nA mL) (hn : as.length = nA) (h0 : as.map some ++ List.replicate (mL - nA) none = ls0) (hl : st.length ≤ 8) (he : EX el Y 0 ls0 [] M (fun r M1 => ∃ x, r = some (.inl x) ∧ EX el X (pc + 3) ls (.inl x :: st) M1 Q)) : EX el X pc ls stk M Q := by
  refine ex_cS0 hs hc hn h0 hl (EX.mono he fun r M1 h => ?_)
  obtain ⟨x, rfl, h⟩ := h
  exact h
theorem ex_cVI {pc : Nat} {ls ls0 : List (Option me_V)} {st stk as : List me_V} {M : me_M} {Y : me_X} {nA mL ci b : Nat} {x0 : Option Nat} (hr : x0 = some b) (hs : stk = (.inr x0 :: as).reverse ++ st) (hk : mKd M b = ci + 1) (hc : xCall X pc = me_cV el Y nA mL ci) (hn : as.length + 1 = nA) (h0 : (some (.inr (some b)) :: as.map some) ++ List.replicate (mL - nA) none = ls0) (hl : st.length ≤ 8) (he : EX el Y 0 ls0 [] M (fun r M1 => ∃ x, r = some (.inl x) ∧ EX el X (pc + 3) ls (.inl x :: st) M1 Q)) : EX el X pc ls stk M Q := by
  refine ex_cV0 hr hs hk hc hn h0 hl (EX.mono he fun r M1 h => ?_)
  obtain ⟨x, rfl, h⟩ := h
  exact h
theorem ex_cSR {pc : Nat} {ls ls0 : List (Option me_V)} {st stk as : List me_V} {M : me_M} {Y : me_X} {nA mL : Nat} (hs : stk = as.reverse ++ st) (hc : xCall X pc = me_cS el Y nA mL) (hn : as.length = nA) (h0 : as.map some ++ List.replicate (mL - nA) none = ls0) (hl : st.length ≤ 8) (he : EX el Y 0 ls0 [] M (fun r M1 => ∃ x, r = some (.inr x) ∧ EX el X (pc + 3) ls (.inr x :: st) M1 Q)) : EX el X pc ls stk M Q := by
  refine ex_cS0 hs hc hn h0 hl (EX.mono he fun r M1 h => ?_)
  obtain ⟨x, rfl, h⟩ := h
  exact h
theorem ex_cVR {pc : Nat} {ls ls0 : List (Option me_V)} {st stk as : List me_V} {M : me_M} {Y : me_X} {nA mL ci b : Nat} {x0 : Option Nat} (hr : x0 = some b) (hs : stk = (.inr x0 :: as).reverse ++ st) (hk : mKd M b = ci + 1) (hc : xCall X pc = me_cV el Y nA mL ci) (hn : as.length + 1 = nA) (h0 : (some (.inr (some b)) :: as.map some) ++ List.replicate (mL - nA) none = ls0) (hl : st.length ≤ 8) (he : EX el Y 0 ls0 [] M (fun r M1 => ∃ x, r = some (.inr x) ∧ EX el X (pc + 3) ls (.inr x :: st) M1 Q)) : EX el X pc ls stk M Q := by
  refine ex_cV0 hr hs hk hc hn h0 hl (EX.mono he fun r M1 h => ?_)
  obtain ⟨x, rfl, h⟩ := h
  exact h
end EXR
def eL : Nat → Nat := fun a => match a with | 102 => 10 | 103 => 3 | 104 => 4 | 105 => 6 | 106 => 9 | _ => 0
